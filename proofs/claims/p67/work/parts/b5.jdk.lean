/-! Runs over made cells: a builder's beginning, toString. -/
/-- what becomes of a blank builder -/
def SBn (Y : DY) (i : Nat) (s : List Int) (Y' : DY) : Prop := ∃ j m, SBx Y' i j m s ∧ Y.2.2 ≤ j ∧ Y.2.2 ≤ Y'.2.2 ∧ ∀ k, k < Y.2.2 → k ≠ i → Y'.1 k = Y.1 k ∧ Y'.2.1 k = Y.2.1 k
def wNw (Y : DY) (i n : Nat) (E : Int → Int) : DY := w_put (w_add (w_row Y i E) (2, n, []) (fun _ => 0)) i (0, 10, [1000 + Y.2.2 + 2, 0, 0, 0]) ((w_add (w_row Y i E) (2, n, []) (fun _ => 0)).1 i)
theorem SB_new {Y : DY} {i n : Nat} {E : Int → Int} (hi : i < Y.2.2) (hn : n ≤ 1000) (h1 : E 1 = 0) (h3 : E 3 = 0) : SBx (wNw Y i n E) i Y.2.2 n [] ∧ ∀ k, k < Y.2.2 → k ≠ i → (wNw Y i n E).1 k = Y.1 k ∧ (wNw Y i n E).2.1 k = Y.2.1 k := by
  have e1 : (wNw Y i n E).1 = (w_add (w_row Y i E) (2, n, []) (fun _ => 0)).1 := zk_self _ _
  have e2 : ∀ k, k ≠ i → (wNw Y i n E).2.1 k = (w_add (w_row Y i E) (2, n, []) (fun _ => 0)).2.1 k := fun k hk => if_neg hk
  have e3 : (wNw Y i n E).1 i = E := by
    rw [e1, w_add_E (show i < (w_row Y i E).2.2 from hi)]
    exact zk_eq _ _ _
  have e4 : (wNw Y i n E).1 Y.2.2 = fun _ => 0 := by
    rw [e1]
    exact zk_eq _ _ _
  refine ⟨⟨show i < Y.2.2 + 1 by omega, show Y.2.2 < Y.2.2 + 1 by omega, by omega, if_pos rfl, ?_, by rw [e3]; exact h1, by rw [e3]; exact h3, Nat.zero_le _, hn, fun k hk => ?_, fun k hk => absurd hk (Nat.not_lt_zero k)⟩, fun k a1 a2 => ⟨?_, ?_⟩⟩
  · rw [e2 _ (by omega)]
    exact if_pos rfl
  · rw [e4]
    show (0 : Int) ≤ 0 ∧ (0 : Int) ≤ 127
    decide
  · rw [e1, w_add_E (show k < (w_row Y i E).2.2 from a1)]
    exact zk_ne a2
  · rw [e2 _ a2]
    exact w_add_lo a1 rfl
theorem q347_0 : decode (zbc 347) 0 = .ok (.aload_n 0, 1) := by decide +kernel
theorem q347_1 : decode (zbc 347) 1 = .ok (.invokespecial 3, 3) := by decide +kernel
theorem kx_1123 : Cond.methodLink "java/lang/AbstractStringBuilder" 3 ⟨"java/lang/Object", "<init>", "()V"⟩ ∈ zTs := z_in (i := 1123) (by decide +kernel) (by decide +kernel)
theorem q347_4 : decode (zbc 347) 4 = .ok (.aload_n 1, 1) := by decide +kernel
theorem q347_5 : decode (zbc 347) 5 = .ok (.invokevirtual 32, 3) := by decide +kernel
theorem wk347_5 : wSC 347 5 280 1 (some "java/lang/String") := wk_V (n' := 0) q347_5 kx_1124 kx_311 kx_312 kx_41 kx_313 ⟨by decide, by decide, by decide +kernel⟩ rfl ⟨Nat.le_of_ble_eq_true rfl, Nat.le_of_ble_eq_true rfl⟩
theorem q347_8 : decode (zbc 347) 8 = .ok (.istore_n 2, 1) := by decide +kernel
theorem q347_9 : decode (zbc 347) 9 = .ok (.iload_n 2, 1) := by decide +kernel
theorem kx_1125 : Cond.constant "java/lang/AbstractStringBuilder" 38 2147483631 ∈ zTs := z_in (i := 1125) (by decide +kernel) (by decide +kernel)
theorem q347_10 : decode (zbc 347) 10 = .ok (.ldc 38, 2) := by decide +kernel
theorem q347_12 : decode (zbc 347) 12 = .ok (.if_icmp .ge 10, 3) := by decide +kernel
theorem q347_15 : decode (zbc 347) 15 = .ok (.iload_n 2, 1) := by decide +kernel
theorem q347_16 : decode (zbc 347) 16 = .ok (.bipush 16, 2) := by decide +kernel
theorem q347_18 : decode (zbc 347) 18 = .ok (.iadd, 1) := by decide +kernel
theorem q347_19 : decode (zbc 347) 19 = .ok (.goto 5, 3) := by decide +kernel
theorem q347_24 : decode (zbc 347) 24 = .ok (.istore_n 3, 1) := by decide +kernel
theorem q347_25 : decode (zbc 347) 25 = .ok (.aload_n 1, 1) := by decide +kernel
theorem q347_26 : decode (zbc 347) 26 = .ok (.invokevirtual 40, 3) := by decide +kernel
theorem wk347_26 : wSC 347 26 282 1 (some "java/lang/String") := wk_V (n' := 0) q347_26 kx_1127 kx_315 kx_316 kx_41 kx_317 ⟨by decide, by decide, by decide +kernel⟩ rfl ⟨Nat.le_of_ble_eq_true rfl, Nat.le_of_ble_eq_true rfl⟩
theorem q347_29 : decode (zbc 347) 29 = .ok (.istore 4, 2) := by decide +kernel
theorem q347_31 : decode (zbc 347) 31 = .ok (.aload_n 0, 1) := by decide +kernel
theorem q347_32 : decode (zbc 347) 32 = .ok (.iload 4, 2) := by decide +kernel
theorem q347_34 : decode (zbc 347) 34 = .ok (.putfield 22, 3) := by decide +kernel
theorem q347_37 : decode (zbc 347) 37 = .ok (.aload_n 0, 1) := by decide +kernel
theorem q347_38 : decode (zbc 347) 38 = .ok (.iload 4, 2) := by decide +kernel
theorem q347_40 : decode (zbc 347) 40 = .ok (.ifCond .ne 9, 3) := by decide +kernel
theorem q347_43 : decode (zbc 347) 43 = .ok (.iload_n 3, 1) := by decide +kernel
theorem q347_44 : decode (zbc 347) 44 = .ok (.newarray .byte, 2) := by decide +kernel
theorem q347_46 : decode (zbc 347) 46 = .ok (.goto 7, 3) := by decide +kernel
theorem q347_53 : decode (zbc 347) 53 = .ok (.putfield 15, 3) := by decide +kernel
theorem q347_56 : decode (zbc 347) 56 = .ok (.aload_n 0, 1) := by decide +kernel
theorem q347_57 : decode (zbc 347) 57 = .ok (.aload_n 1, 1) := by decide +kernel
theorem q347_58 : decode (zbc 347) 58 = .ok (.invokevirtual 43, 3) := by decide +kernel
theorem kx_1135 : Cond.methodLink "java/lang/AbstractStringBuilder" 43 yJ5_append_cf1ce ∈ zTs := z_in (i := 1135) (by decide +kernel) (by decide +kernel)
theorem kx_1139 : Cond.instanceMethod yJ4_append_cf1ce ∈ zTs := z_in (i := 1139) (by decide +kernel) (by decide +kernel)
theorem kx_1138 : Cond.selects "java/lang/StringBuilder" yJ5_append_cf1ce yJ4_append_cf1ce ∈ zTs := z_in (i := 1138) (by decide +kernel) (by decide +kernel)
theorem kx_1140 : Cond.code yJ4_append_cf1ce cJ4_append_cf1ce 2 (some (.object "java/lang/AbstractStringBuilder")) ∈ zTs := z_in (i := 1140) (by decide +kernel) (by decide +kernel)
theorem wk347_58 : wSC 347 58 371 2 (some "java/lang/StringBuilder") := wk_O (x := yJ5_append_cf1ce) (n' := 1) q347_58 kx_1135 kx_1137 kx_1136 kx_1147 kx_1139 kx_1138 kx_56 kx_1140 ⟨by decide, by decide, by decide +kernel⟩ rfl ⟨Nat.le_of_ble_eq_true rfl, Nat.le_of_ble_eq_true rfl⟩
theorem q347_61 : decode (zbc 347) 61 = .ok (.pop, 1) := by decide +kernel
theorem q347_62 : decode (zbc 347) 62 = .ok (.return_, 1) := by decide +kernel
theorem cJ_init5 {u : WU} {G F : GM} {Y : DY} {i : Nat} (hi : i < Y.2.2) (hsi : Y.2.1 i = (0, 10, [1, 0, 0, 0])) (hz0 : Y.1 i 3 = 0) {r : Nat} {s : List Int} (hr : wCst r s) : wC u 347 2 1100 [.ref (1000 + i), .ref r] G F Y (fun o G' F' Y' => o = none ∧ G = G' ∧ F = F' ∧ SBn Y i s Y') := by
  refine w_met (L0 := [.ref (1000 + i), .ref r, .null, .null, .null]) (by decide +kernel) rfl rfl ?_
  have hl9 := hr.2.1
  refine wi_aload_n (i := 0) (pc' := 1) q347_0 rfl rfl rfl ?_
  refine wi_obj (pc' := 4) q347_1 rfl kx_1123 (Nat.le_of_ble_eq_true rfl) (Nat.le_of_ble_eq_true rfl) (Nat.le_of_ble_eq_true rfl) ?_
  refine wi_aload_n (i := 1) (pc' := 5) q347_4 rfl rfl rfl ?_
  refine wi_call (pc' := 8) wk347_5 rfl (cJ_slen hr.str) rfl (Nat.le_of_ble_eq_true rfl) (Nat.le_of_ble_eq_true rfl) (by (try dsimp only); omega) (by (try dsimp only); omega) (wrv_str hr.str) ?_
  rintro o9 G9 F9 Y9 ⟨rfl, rfl, rfl, rfl⟩ hle9
  refine wi_istore2 (pc' := 9) q347_8 rfl rfl rfl (Or.inr rfl) ?_
  refine wi_iload_n (i := 2) (pc' := 10) q347_9 rfl rfl rfl ?_
  refine wi_ldc (z := 2147483631) (pc' := 12) q347_10 rfl kx_1125 (by decide +kernel) ?_
  refine wi_icmp_ge (t := 22) (pc' := 15) q347_12 (by decide) rfl (by omega) (by omega) (fun h1 => absurd h1 (by omega)) (fun h1 => ?_)
  refine wi_iload_n (i := 2) (pc' := 16) q347_15 rfl rfl rfl ?_
  refine wi_bipush (pc' := 18) q347_16 rfl (by decide) ?_
  refine wi_iadd (pc' := 19) q347_18 rfl ?_
  refine wi_goto (t := 24) q347_19 (by decide) ?_
  refine wi_istore3 (pc' := 25) q347_24 rfl rfl rfl (Or.inr rfl) ?_
  refine wi_aload_n (i := 1) (pc' := 26) q347_25 rfl rfl rfl ?_
  refine wi_call (pc' := 29) wk347_26 rfl (cJ_coder hr.str) rfl (Nat.le_of_ble_eq_true rfl) (Nat.le_of_ble_eq_true rfl) (by (try dsimp only); omega) (by (try dsimp only); omega) (wrv_str hr.str) ?_
  rintro o9 G9 F9 Y9 ⟨rfl, rfl, rfl, rfl⟩ hle9
  refine wi_istore4 (pc' := 31) q347_29 rfl rfl (Or.inr rfl) ?_
  refine wi_aload_n (i := 0) (pc' := 32) q347_31 rfl rfl rfl ?_
  refine wi_iload (i := 4) (pc' := 34) q347_32 rfl rfl ?_
  refine wi_putI (ci := 10) (j := 1) (T := TJ4) (ty0 := tyJ4) (C := RJ4) (Nf := 4) (pc' := 37) q347_34 rfl rfl inJ4 tyJ4_ok nmJ4 (by decide) kx_1235 rfl rfl rfl (by omega) rfl hi hsi rfl ?_
  have hz1 : (zp (Y.1 i) ((1 : Nat) : Int) 0) 1 = 0 := zp_eq _ _ _
  have hz3 : (zp (Y.1 i) ((1 : Nat) : Int) 0) 3 = 0 := (zp_ne (by decide)).trans hz0
  refine wi_aload_n (i := 0) (pc' := 38) q347_37 rfl rfl rfl ?_
  refine wi_iload (i := 4) (pc' := 40) q347_38 rfl rfl ?_
  refine wi_if_ne (t := 49) (pc' := 43) q347_40 (by decide) rfl (by omega) (fun h2 => absurd h2 (by omega)) (fun h2 => ?_)
  refine wi_iload_n (i := 3) (pc' := 44) q347_43 rfl rfl rfl ?_
  refine wi_newB (n := s.length + 16) (pc' := 46) q347_44 rfl wq_arr_byte (by omega) (by omega) (by (try dsimp only); omega) (by (try dsimp only); omega) ?_
  refine wi_goto (t := 53) q347_46 (by decide) ?_
  refine wi_putR (ci := 10) (j := 0) (T := TJ4) (ty0 := tyJ4) (C := RJ4) (Nf := 4) (pc' := 56) q347_53 rfl rfl inJ4 tyJ4_ok nmJ4 (by decide) kx_1234 rfl (fun _ => rfl) (fun _ => rfl) rfl (show i < Y.2.2 + 1 by omega) (w_add_lo (Y := w_row Y i (zp (Y.1 i) ((1 : Nat) : Int) 0)) (E := fun _ => 0) hi hsi) (Nat.le_of_ble_eq_true rfl) rfl ?_
  show wW u 347 _ _ _ _ _ _ (wNw Y i (s.length + 16) (zp (Y.1 i) ((1 : Nat) : Int) 0)) _ _ _
  obtain ⟨hN, hNf⟩ := SB_new (n := s.length + 16) hi (by omega) hz1 hz3
  refine wi_aload_n (i := 0) (pc' := 57) q347_56 rfl rfl rfl ?_
  refine wi_aload_n (i := 1) (pc' := 58) q347_57 rfl rfl rfl ?_
  refine wi_call (pc' := 61) wk347_58 rfl (cJ_app4b hN hr (by show 0 + s.length ≤ 400; omega)) rfl (Nat.le_of_ble_eq_true rfl) (Nat.le_of_ble_eq_true rfl) (by (try dsimp only); omega) (by (try dsimp only); omega) (wrv_sb hN) ?_
  rintro o9 G9 F9 Y9 ⟨rfl, rfl, rfl, hq9⟩ hle9
  refine wi_popR (pc' := 62) q347_61 rfl ?_
  refine wW_r (o := none) ⟨q347_62, rfl⟩ rfl (by (try dsimp only); omega) (by (try dsimp only); omega) ?_
  obtain ⟨j9, m9, a1, a2, a3, a4, a5⟩ := hq9
  have a4 : Y.2.2 + 1 ≤ Y9.2.2 := a4
  refine ⟨rfl, rfl, rfl, j9, m9, a1, ?_, by omega, fun k b1 b2 => ?_⟩
  · rcases a3 with h | h
    · omega
    · have h : Y.2.2 + 1 ≤ j9 := h
      omega
  · obtain ⟨c1, c2⟩ := a5 k (show k < Y.2.2 + 1 by omega) b2 (by omega)
    obtain ⟨d1, d2⟩ := hNf k b1 b2
    exact ⟨c1.trans d1, c2.trans d2⟩
theorem q346_0 : decode (zbc 346) 0 = .ok (.aload_n 0, 1) := by decide +kernel
theorem q346_1 : decode (zbc 346) 1 = .ok (.aload_n 1, 1) := by decide +kernel
theorem q346_2 : decode (zbc 346) 2 = .ok (.invokespecial 7, 3) := by decide +kernel
theorem kx_1120 : Cond.methodLink "java/lang/StringBuilder" 7 yJ5_init_a7421 ∈ zTs := z_in (i := 1120) (by decide +kernel) (by decide +kernel)
theorem kx_1121 : Cond.instanceMethod yJ5_init_a7421 ∈ zTs := z_in (i := 1121) (by decide +kernel) (by decide +kernel)
theorem kx_1122 : Cond.code yJ5_init_a7421 cJ5_init_a7421 5 none ∈ zTs := z_in (i := 1122) (by decide +kernel) (by decide +kernel)
theorem wk346_2 : wSC 346 2 347 2 (some "java/lang/StringBuilder") := wk_I (n' := 1) q346_2 kx_1120 kx_1121 kx_55 rfl kx_1122 rfl ⟨by decide, by decide, by decide +kernel⟩ rfl ⟨Nat.le_of_ble_eq_true rfl, Nat.le_of_ble_eq_true rfl⟩
theorem q346_5 : decode (zbc 346) 5 = .ok (.return_, 1) := by decide +kernel
theorem cJ_init4 {u : WU} {G F : GM} {Y : DY} {i : Nat} (hi : i < Y.2.2) (hsi : Y.2.1 i = (0, 10, [1, 0, 0, 0])) (hz0 : Y.1 i 3 = 0) {r : Nat} {s : List Int} (hr : wCst r s) : wC u 346 2 1100 [.ref (1000 + i), .ref r] G F Y (fun o G' F' Y' => o = none ∧ G = G' ∧ F = F' ∧ SBn Y i s Y') := by
  refine w_met (L0 := [.ref (1000 + i), .ref r]) (by decide +kernel) rfl rfl ?_
  refine wi_aload_n (i := 0) (pc' := 1) q346_0 rfl rfl rfl ?_
  refine wi_aload_n (i := 1) (pc' := 2) q346_1 rfl rfl rfl ?_
  refine wi_call (pc' := 5) wk346_2 rfl (cJ_init5 hi hsi hz0 hr) rfl (Nat.le_of_ble_eq_true rfl) (Nat.le_of_ble_eq_true rfl) (by (try dsimp only); omega) (by (try dsimp only); omega) (fun C hC => by cases hC; exact ⟨_, _, rfl, Or.inl ⟨i, 10, TJ4, 4, _, rfl, hi, hsi, rfl⟩⟩) ?_
  rintro o9 G9 F9 Y9 ⟨rfl, rfl, rfl, hq9⟩ hle9
  refine wW_r (o := none) ⟨q346_5, rfl⟩ rfl (by (try dsimp only); omega) (by (try dsimp only); omega) ?_
  exact ⟨rfl, rfl, rfl, hq9⟩
theorem q374_0 : decode (zbc 374) 0 = .ok (.iload_n 1, 1) := by decide +kernel
theorem q374_1 : decode (zbc 374) 1 = .ok (.iload_n 0, 1) := by decide +kernel
theorem q374_2 : decode (zbc 374) 2 = .ok (.if_icmp .ge 35, 3) := by decide +kernel
theorem q374_37 : decode (zbc 374) 37 = .ok (.return_, 1) := by decide +kernel
theorem cJ_chkL {u : WU} {G F : GM} {Y : DY} {a v : Int} (ha : zr a) (hv : zr v) (h : a ≤ v) : wC u 374 0 0 [.int (zi a), .int (zi v)] G F Y (wPu G F Y (none)) := by
  refine w_met (L0 := [.int (zi a), .int (zi v)]) (by decide +kernel) rfl rfl ?_
  refine wi_iload_n (i := 1) (pc' := 1) q374_0 rfl rfl rfl ?_
  refine wi_iload_n (i := 0) (pc' := 2) q374_1 rfl rfl rfl ?_
  refine wi_icmp_ge (t := 37) (pc' := 5) q374_2 (by decide) rfl (by omega) (by omega) (fun h1 => ?_) (fun h1 => absurd h1 (by omega))
  refine wW_r (o := none) ⟨q374_37, rfl⟩ rfl (by (try dsimp only); omega) (by (try dsimp only); omega) ?_
  exact ⟨rfl, rfl, rfl, rfl⟩
theorem q373_0 : decode (zbc 373) 0 = .ok (.iload_n 1, 1) := by decide +kernel
theorem q373_1 : decode (zbc 373) 1 = .ok (.iload_n 2, 1) := by decide +kernel
theorem q373_2 : decode (zbc 373) 2 = .ok (.invokestatic 343, 3) := by decide +kernel
theorem kx_1332 : Cond.methodLink "java/util/Arrays" 343 yJ7_checkLength_df160 ∈ zTs := z_in (i := 1332) (by decide +kernel) (by decide +kernel)
theorem kx_1333 : Cond.static yJ7_checkLength_df160 ∈ zTs := z_in (i := 1333) (by decide +kernel) (by decide +kernel)
theorem kx_1334 : Cond.code yJ7_checkLength_df160 cJ7_checkLength_df160 2 none ∈ zTs := z_in (i := 1334) (by decide +kernel) (by decide +kernel)
theorem wk373_2 : wSC 373 2 374 2 none := wk_S q373_2 kx_1332 kx_1333 kx_45 kx_1334 ⟨by decide, by decide, by decide +kernel⟩ ⟨Nat.le_of_ble_eq_true rfl, Nat.le_of_ble_eq_true rfl⟩
theorem q373_5 : decode (zbc 373) 5 = .ok (.iload_n 2, 1) := by decide +kernel
theorem q373_6 : decode (zbc 373) 6 = .ok (.iload_n 1, 1) := by decide +kernel
theorem q373_7 : decode (zbc 373) 7 = .ok (.isub, 1) := by decide +kernel
theorem q373_8 : decode (zbc 373) 8 = .ok (.istore_n 3, 1) := by decide +kernel
theorem q373_9 : decode (zbc 373) 9 = .ok (.iload_n 3, 1) := by decide +kernel
theorem q373_10 : decode (zbc 373) 10 = .ok (.newarray .byte, 2) := by decide +kernel
theorem q373_12 : decode (zbc 373) 12 = .ok (.astore 4, 2) := by decide +kernel
theorem q373_14 : decode (zbc 373) 14 = .ok (.aload_n 0, 1) := by decide +kernel
theorem q373_15 : decode (zbc 373) 15 = .ok (.iload_n 1, 1) := by decide +kernel
theorem q373_16 : decode (zbc 373) 16 = .ok (.aload 4, 2) := by decide +kernel
theorem q373_18 : decode (zbc 373) 18 = .ok (.iconst 0, 1) := by decide +kernel
theorem q373_19 : decode (zbc 373) 19 = .ok (.aload_n 0, 1) := by decide +kernel
theorem q373_20 : decode (zbc 373) 20 = .ok (.arraylength, 1) := by decide +kernel
theorem q373_21 : decode (zbc 373) 21 = .ok (.iload_n 1, 1) := by decide +kernel
theorem q373_22 : decode (zbc 373) 22 = .ok (.isub, 1) := by decide +kernel
theorem q373_23 : decode (zbc 373) 23 = .ok (.iload_n 3, 1) := by decide +kernel
theorem q373_24 : decode (zbc 373) 24 = .ok (.invokestatic 304, 3) := by decide +kernel
theorem q373_27 : decode (zbc 373) 27 = .ok (.invokestatic 150, 3) := by decide +kernel
theorem q373_30 : decode (zbc 373) 30 = .ok (.aload 4, 2) := by decide +kernel
theorem q373_32 : decode (zbc 373) 32 = .ok (.areturn, 1) := by decide +kernel
theorem cJ_corB {u : WU} {G F : GM} {Y : DY} {j m n : Nat} (hj : j < Y.2.2) (hsj : Y.2.1 j = (2, m, [])) (hm : m ≤ 1000) (hn : n ≤ m) (hby : ∀ k : Nat, k < m → 0 ≤ Y.1 j (k : Int) ∧ Y.1 j (k : Int) ≤ 127) : wC u 373 1 n [.ref (1000 + j), .int (zi 0), .int (zi (n : Int))] G F Y (fun o G' F' Y' => o = some (.ref (1000 + Y.2.2)) ∧ G = G' ∧ F = F' ∧ ∃ E, Y' = w_add Y (2, n, []) E ∧ ∀ k : Nat, k < n → E (k : Int) = Y.1 j (k : Int)) := by
  refine w_met (L0 := [.ref (1000 + j), .int (zi 0), .int (zi (n : Int)), .null, .null]) (by decide +kernel) rfl rfl ?_
  refine wi_iload_n (i := 1) (pc' := 1) q373_0 rfl rfl rfl ?_
  refine wi_iload_n (i := 2) (pc' := 2) q373_1 rfl rfl rfl ?_
  refine wi_call (pc' := 5) wk373_2 rfl (cJ_chkL (a := 0) (v := (n : Int)) (by omega) (by omega) (by omega)) rfl (Nat.le_of_ble_eq_true rfl) (Nat.le_of_ble_eq_true rfl) (by (try dsimp only); omega) (by (try dsimp only); omega) (wrv_n) ?_
  rintro o9 G9 F9 Y9 ⟨rfl, rfl, rfl, rfl⟩ hle9
  refine wi_iload_n (i := 2) (pc' := 6) q373_5 rfl rfl rfl ?_
  refine wi_iload_n (i := 1) (pc' := 7) q373_6 rfl rfl rfl ?_
  refine wi_isub (pc' := 8) q373_7 rfl ?_
  refine wi_istore3 (pc' := 9) q373_8 rfl rfl rfl (Or.inr rfl) ?_
  refine wi_iload_n (i := 3) (pc' := 10) q373_9 rfl rfl rfl ?_
  refine wi_newB (n := n) (pc' := 12) q373_10 rfl wq_arr_byte (by omega) (by omega) (by (try dsimp only); omega) (by (try dsimp only); omega) ?_
  refine wi_astore4 (pc' := 14) q373_12 rfl rfl (Or.inr rfl) ?_
  refine wi_aload_n (i := 0) (pc' := 15) q373_14 rfl rfl rfl ?_
  refine wi_iload_n (i := 1) (pc' := 16) q373_15 rfl rfl rfl ?_
  refine wi_aload (i := 4) (pc' := 18) q373_16 rfl rfl ?_
  refine wi_iconst (pc' := 19) q373_18 rfl ?_
  refine wi_aload_n (i := 0) (pc' := 20) q373_19 rfl rfl rfl ?_
  refine wi_alen (pc' := 21) q373_20 rfl rfl (show j < Y.2.2 + 1 by omega) (w_add_lo (E := fun _ => 0) hj hsj) (Or.inr (Or.inl rfl)) ?_
  refine wi_iload_n (i := 1) (pc' := 22) q373_21 rfl rfl rfl ?_
  refine wi_isub (pc' := 23) q373_22 rfl ?_
  refine wi_iload_n (i := 3) (pc' := 24) q373_23 rfl rfl rfl ?_
  refine wi_mmin (pc' := 27) q373_24 rfl kxm_1178 (Nat.le_of_ble_eq_true rfl) (Nat.le_of_ble_eq_true rfl) (by omega) (by omega) (Nat.le_of_ble_eq_true rfl) (by (try dsimp only); omega) (by (try dsimp only); omega) ?_
  rw [show ((min ((m : Int) - 0) ((n : Int) - 0)) : Int) = (n : Int) from by omega]
  refine wi_acp (pc' := 30) (i0 := j) (i1 := Y.2.2) (n0 := m) (n1 := n) q373_27 rfl kx_1179 (Nat.le_of_ble_eq_true rfl) (Nat.le_of_ble_eq_true rfl) rfl rfl (show j < Y.2.2 + 1 by omega) (show Y.2.2 < Y.2.2 + 1 by omega) (w_add_lo hj hsj) w_add_hi (by omega) (by omega) (by omega) (by omega) (by omega) (by omega) (fun k h1 h2 => ?_) (Nat.le_of_ble_eq_true rfl) ?_
  · rw [w_add_E hj]
    have := hby k.toNat (by omega)
    rwa [Int.toNat_of_nonneg h1] at this
  refine wi_aload (i := 4) (pc' := 32) q373_30 rfl rfl ?_
  refine wW_r (o := some (.ref (1000 + Y.2.2))) ⟨q373_32, _, rfl, Or.inr ⟨_, rfl⟩⟩ rfl (by (try dsimp only); omega) (by (try dsimp only); omega) ?_
  rw [w_add_E hj, w_add_En, w_row_add]
  refine ⟨rfl, rfl, rfl, _, rfl, fun k hk => ?_⟩
  unfold w_cpy
  rw [if_pos (by omega), show (0 : Int) + ((k : Int) - 0) = (k : Int) by omega]
theorem q361_0 : decode (zbc 361) 0 = .ok (.iload_n 1, 1) := by decide +kernel
theorem q361_1 : decode (zbc 361) 1 = .ok (.ifCond .ne 9, 3) := by decide +kernel
theorem q361_4 : decode (zbc 361) 4 = .ok (.iload_n 2, 1) := by decide +kernel
theorem q361_5 : decode (zbc 361) 5 = .ok (.aload_n 0, 1) := by decide +kernel
theorem q361_6 : decode (zbc 361) 6 = .ok (.arraylength, 1) := by decide +kernel
theorem q361_7 : decode (zbc 361) 7 = .ok (.if_icmp .eq 10, 3) := by decide +kernel
theorem q361_17 : decode (zbc 361) 17 = .ok (.aload_n 0, 1) := by decide +kernel
theorem q361_18 : decode (zbc 361) 18 = .ok (.invokevirtual 310, 3) := by decide +kernel
theorem kx_1171 : Cond.methodLink "java/util/Arrays" 310 ⟨"[B", "clone", "()Ljava/lang/Object;"⟩ ∈ zTs := z_in (i := 1171) (by decide +kernel) (by decide +kernel)
theorem q361_21 : decode (zbc 361) 21 = .ok (.checkcast 311, 3) := by decide +kernel
theorem kx_1177 : Cond.classLink "java/util/Arrays" 311 "[B" ∈ zTs := z_in (i := 1177) (by decide +kernel) (by decide +kernel)
theorem q361_24 : decode (zbc 361) 24 = .ok (.areturn, 1) := by decide +kernel
theorem q361_10 : decode (zbc 361) 10 = .ok (.aload_n 0, 1) := by decide +kernel
theorem q361_11 : decode (zbc 361) 11 = .ok (.iload_n 1, 1) := by decide +kernel
theorem q361_12 : decode (zbc 361) 12 = .ok (.iload_n 2, 1) := by decide +kernel
theorem q361_13 : decode (zbc 361) 13 = .ok (.invokestatic 339, 3) := by decide +kernel
theorem kx_1329 : Cond.methodLink "java/util/Arrays" 339 yJ7_copyOfRangeByte_39247 ∈ zTs := z_in (i := 1329) (by decide +kernel) (by decide +kernel)
theorem kx_1330 : Cond.static yJ7_copyOfRangeByte_39247 ∈ zTs := z_in (i := 1330) (by decide +kernel) (by decide +kernel)
theorem kx_1331 : Cond.code yJ7_copyOfRangeByte_39247 cJ7_copyOfRangeByte_39247 5 (some (.array .byte)) ∈ zTs := z_in (i := 1331) (by decide +kernel) (by decide +kernel)
theorem wk361_13 : wSC 361 13 373 3 none := wk_S q361_13 kx_1329 kx_1330 kx_45 kx_1331 ⟨by decide, by decide, by decide +kernel⟩ ⟨Nat.le_of_ble_eq_true rfl, Nat.le_of_ble_eq_true rfl⟩
theorem q361_16 : decode (zbc 361) 16 = .ok (.areturn, 1) := by decide +kernel
theorem cJ_cor {u : WU} {G F : GM} {Y : DY} {j m n : Nat} (hj : j < Y.2.2) (hsj : Y.2.1 j = (2, m, [])) (hm : m ≤ 1000) (hn : n ≤ m) (hby : ∀ k : Nat, k < m → 0 ≤ Y.1 j (k : Int) ∧ Y.1 j (k : Int) ≤ 127) (hzr : ∀ k, zr (Y.1 j k)) : wC u 361 1 n [.ref (1000 + j), .int (zi 0), .int (zi (n : Int))] G F Y (fun o G' F' Y' => o = some (.ref (1000 + Y.2.2)) ∧ G = G' ∧ F = F' ∧ ∃ E, Y' = w_add Y (2, n, []) E ∧ ∀ k : Nat, k < n → E (k : Int) = Y.1 j (k : Int)) := by
  refine w_met (L0 := [.ref (1000 + j), .int (zi 0), .int (zi (n : Int))]) (by decide +kernel) rfl rfl ?_
  refine wi_iload_n (i := 1) (pc' := 1) q361_0 rfl rfl rfl ?_
  refine wi_if_ne (t := 10) (pc' := 4) q361_1 (by decide) rfl (by omega) (fun h1 => absurd h1 (by omega)) (fun h1 => ?_)
  refine wi_iload_n (i := 2) (pc' := 5) q361_4 rfl rfl rfl ?_
  refine wi_aload_n (i := 0) (pc' := 6) q361_5 rfl rfl rfl ?_
  refine wi_alen (pc' := 7) q361_6 rfl rfl hj hsj (Or.inr (Or.inl rfl)) ?_
  refine wi_icmp_eq (t := 17) (pc' := 10) q361_7 (by decide) rfl (by omega) (by omega) ?_ ?_
  · intro h9
    obtain rfl : n = m := by omega
    refine wi_aload_n (i := 0) (pc' := 18) q361_17 rfl rfl rfl ?_
    refine wi_clone (pc' := 21) (i := j) (n := n) q361_18 rfl kx_1171 (Nat.le_of_ble_eq_true rfl) (Nat.le_of_ble_eq_true rfl) rfl hj hsj hby (fun k => hzr k) (Nat.le_of_ble_eq_true rfl) (by (try dsimp only); omega) (by (try dsimp only); omega) ?_
    refine wi_castB (pc' := 24) (i := Y.2.2) (n := n) q361_21 rfl kx_1177 rfl (show Y.2.2 < Y.2.2 + 1 by omega) w_add_hi ?_
    refine wW_r (o := some (.ref (1000 + Y.2.2))) ⟨q361_24, _, rfl, Or.inr ⟨_, rfl⟩⟩ rfl (by (try dsimp only); omega) (by (try dsimp only); omega) ?_
    exact ⟨rfl, rfl, rfl, _, rfl, fun k hk => rfl⟩
  · intro h9
    refine wi_aload_n (i := 0) (pc' := 11) q361_10 rfl rfl rfl ?_
    refine wi_iload_n (i := 1) (pc' := 12) q361_11 rfl rfl rfl ?_
    refine wi_iload_n (i := 2) (pc' := 13) q361_12 rfl rfl rfl ?_
    refine wi_call (pc' := 16) wk361_13 rfl (cJ_corB hj hsj hm hn hby) rfl (Nat.le_of_ble_eq_true rfl) (Nat.le_of_ble_eq_true rfl) (by (try dsimp only); omega) (by (try dsimp only); omega) (wrv_n) ?_
    rintro o9 G9 F9 Y9 ⟨rfl, rfl, rfl, hq9⟩ hle9
    refine wW_r (o := some (.ref (1000 + Y.2.2))) ⟨q361_16, _, rfl, Or.inr ⟨_, rfl⟩⟩ rfl (by (try dsimp only); omega) (by (try dsimp only); omega) ?_
    exact ⟨rfl, rfl, rfl, hq9⟩
/-- what becomes of a blank text -/
def STn (Y : DY) (g : Nat) (t : List Int) (Y' : DY) : Prop := wStr Y' (1000 + g) t ∧ Y.2.2 ≤ Y'.2.2 ∧ ∀ k, k < Y.2.2 → k ≠ g → Y'.1 k = Y.1 k ∧ Y'.2.1 k = Y.2.1 k
theorem ST_new {Y : DY} {g : Nat} {E E1 : Int → Int} {t : List Int} (hg : g < Y.2.2) (h1 : E1 1 = 0) (hE : ∀ k : Nat, k < t.length → E (k : Int) = t.getD k 0) (hl : t.length ≤ 1000) (hz : ∀ k : Nat, k < t.length → 0 ≤ t.getD k 0 ∧ t.getD k 0 ≤ 127) : STn Y g t (w_put (w_add (w_row Y g E1) (2, t.length, []) E) g (0, 9, [1000 + Y.2.2 + 2, 0, 0, 0]) ((w_add (w_row Y g E1) (2, t.length, []) E).1 g)) := by
  generalize hY : w_put (w_add (w_row Y g E1) (2, t.length, []) E) g (0, 9, [1000 + Y.2.2 + 2, 0, 0, 0]) ((w_add (w_row Y g E1) (2, t.length, []) E).1 g) = Y'
  have e1 : Y'.1 = (w_add (w_row Y g E1) (2, t.length, []) E).1 := by
    rw [← hY]
    exact zk_self _ _
  have e2 : ∀ k, k ≠ g → Y'.2.1 k = (w_add (w_row Y g E1) (2, t.length, []) E).2.1 k := fun k hk => by
    rw [← hY]
    exact if_neg hk
  have e0 : Y'.2.2 = Y.2.2 + 1 := by
    rw [← hY]
    rfl
  refine ⟨⟨Or.inr ⟨g, Y.2.2, rfl, by omega, by omega, ?_, ?_, ?_, fun k hk => ?_⟩, hl, hz⟩, by omega, fun k a1 a2 => ⟨?_, ?_⟩⟩
  · rw [← hY]
    exact if_pos rfl
  · rw [e2 _ (by omega)]
    exact if_pos rfl
  · rw [e1, w_add_E (show g < (w_row Y g E1).2.2 from hg)]
    show zk Y.1 g E1 g 1 = 0
    rw [zk_eq]
    exact h1
  · rw [e1]
    show zk _ Y.2.2 E Y.2.2 (k : Int) = _
    rw [zk_eq]
    exact hE k hk
  · rw [e1, w_add_E (show k < (w_row Y g E1).2.2 from a1)]
    exact zk_ne a2
  · rw [e2 _ a2]
    exact w_add_lo a1 rfl
theorem SB_rng {Y : DY} {i j m : Nat} {t : List Int} (h : SBx Y i j m t) : ∀ k : Nat, k < t.length → 0 ≤ t.getD k 0 ∧ t.getD k 0 ≤ 127 := fun k hk => by
  obtain ⟨hi, hj, hij, hsi, hsj, hco, hcn, htm, hm, hby, hch⟩ := h
  have := hby k (by omega)
  rwa [hch k hk] at this
theorem q356_0 : decode (zbc 356) 0 = .ok (.aload_n 0, 1) := by decide +kernel
theorem q356_1 : decode (zbc 356) 1 = .ok (.invokespecial 1, 3) := by decide +kernel
theorem kx_1311 : Cond.methodLink "java/lang/String" 1 ⟨"java/lang/Object", "<init>", "()V"⟩ ∈ zTs := z_in (i := 1311) (by decide +kernel) (by decide +kernel)
theorem q356_4 : decode (zbc 356) 4 = .ok (.aload_n 1, 1) := by decide +kernel
theorem q356_5 : decode (zbc 356) 5 = .ok (.invokevirtual 552, 3) := by decide +kernel
theorem kx_1312 : Cond.methodLink "java/lang/String" 552 yJ5_getValue_6d5f1 ∈ zTs := z_in (i := 1312) (by decide +kernel) (by decide +kernel)
theorem kx_1314 : Cond.sameMethod "java/lang/AbstractStringBuilder" "java/lang/AbstractStringBuilder" "getValue" "()[B" ∈ zTs := z_in (i := 1314) (by decide +kernel) (by decide +kernel)
theorem kx_1313 : Cond.instanceMethod yJ5_getValue_6d5f1 ∈ zTs := z_in (i := 1313) (by decide +kernel) (by decide +kernel)
theorem kx_1315 : Cond.selects "java/lang/StringBuilder" yJ5_getValue_6d5f1 yJ5_getValue_6d5f1 ∈ zTs := z_in (i := 1315) (by decide +kernel) (by decide +kernel)
theorem kx_1316 : Cond.code yJ5_getValue_6d5f1 cJ5_getValue_6d5f1 1 (some (.array .byte)) ∈ zTs := z_in (i := 1316) (by decide +kernel) (by decide +kernel)
theorem wk356_5 : wSC 356 5 364 1 (some "java/lang/StringBuilder") := wk_U (n' := 0) q356_5 kx_1312 kx_1314 kx_1313 kx_1315 kx_55 kx_1316 ⟨by decide, by decide, by decide +kernel⟩ rfl ⟨Nat.le_of_ble_eq_true rfl, Nat.le_of_ble_eq_true rfl⟩
theorem q356_8 : decode (zbc 356) 8 = .ok (.astore_n 3, 1) := by decide +kernel
theorem q356_9 : decode (zbc 356) 9 = .ok (.aload_n 1, 1) := by decide +kernel
theorem q356_10 : decode (zbc 356) 10 = .ok (.invokevirtual 549, 3) := by decide +kernel
theorem kx_1317 : Cond.methodLink "java/lang/String" 549 yJ5_length_8abf5 ∈ zTs := z_in (i := 1317) (by decide +kernel) (by decide +kernel)
theorem kx_1321 : Cond.instanceMethod yJ4_length_8abf5 ∈ zTs := z_in (i := 1321) (by decide +kernel) (by decide +kernel)
theorem kx_1320 : Cond.selects "java/lang/StringBuilder" yJ5_length_8abf5 yJ4_length_8abf5 ∈ zTs := z_in (i := 1320) (by decide +kernel) (by decide +kernel)
theorem kx_1322 : Cond.code yJ4_length_8abf5 cJ4_length_8abf5 1 (some .int) ∈ zTs := z_in (i := 1322) (by decide +kernel) (by decide +kernel)
theorem wk356_10 : wSC 356 10 372 1 (some "java/lang/StringBuilder") := wk_O (x := yJ5_length_8abf5) (n' := 0) q356_10 kx_1317 kx_1319 kx_1318 kx_1324 kx_1321 kx_1320 kx_56 kx_1322 ⟨by decide, by decide, by decide +kernel⟩ rfl ⟨Nat.le_of_ble_eq_true rfl, Nat.le_of_ble_eq_true rfl⟩
theorem q356_13 : decode (zbc 356) 13 = .ok (.istore 4, 2) := by decide +kernel
theorem q356_15 : decode (zbc 356) 15 = .ok (.aload_n 1, 1) := by decide +kernel
theorem q356_16 : decode (zbc 356) 16 = .ok (.invokevirtual 1047, 3) := by decide +kernel
theorem kx_1325 : Cond.methodLink "java/lang/String" 1047 yJ5_isLatin1_aae02 ∈ zTs := z_in (i := 1325) (by decide +kernel) (by decide +kernel)
theorem wk356_16 : wSC 356 16 365 1 (some "java/lang/StringBuilder") := wk_U (n' := 0) q356_16 kx_1325 kx_1182 kx_1181 kx_1183 kx_55 kx_1184 ⟨by decide, by decide, by decide +kernel⟩ rfl ⟨Nat.le_of_ble_eq_true rfl, Nat.le_of_ble_eq_true rfl⟩
theorem q356_19 : decode (zbc 356) 19 = .ok (.ifCond .eq 22, 3) := by decide +kernel
theorem q356_22 : decode (zbc 356) 22 = .ok (.aload_n 0, 1) := by decide +kernel
theorem q356_23 : decode (zbc 356) 23 = .ok (.iconst 0, 1) := by decide +kernel
theorem q356_24 : decode (zbc 356) 24 = .ok (.putfield 15, 3) := by decide +kernel
theorem q356_27 : decode (zbc 356) 27 = .ok (.aload_n 0, 1) := by decide +kernel
theorem q356_28 : decode (zbc 356) 28 = .ok (.aload_n 3, 1) := by decide +kernel
theorem q356_29 : decode (zbc 356) 29 = .ok (.iconst 0, 1) := by decide +kernel
theorem q356_30 : decode (zbc 356) 30 = .ok (.iload 4, 2) := by decide +kernel
theorem q356_32 : decode (zbc 356) 32 = .ok (.invokestatic 54, 3) := by decide +kernel
theorem kx_1326 : Cond.methodLink "java/lang/String" 54 yJ7_copyOfRange_39247 ∈ zTs := z_in (i := 1326) (by decide +kernel) (by decide +kernel)
theorem kx_1327 : Cond.static yJ7_copyOfRange_39247 ∈ zTs := z_in (i := 1327) (by decide +kernel) (by decide +kernel)
theorem kx_1328 : Cond.code yJ7_copyOfRange_39247 cJ7_copyOfRange_39247 3 (some (.array .byte)) ∈ zTs := z_in (i := 1328) (by decide +kernel) (by decide +kernel)
theorem wk356_32 : wSC 356 32 361 3 none := wk_S q356_32 kx_1326 kx_1327 kx_45 kx_1328 ⟨by decide, by decide, by decide +kernel⟩ ⟨Nat.le_of_ble_eq_true rfl, Nat.le_of_ble_eq_true rfl⟩
theorem q356_35 : decode (zbc 356) 35 = .ok (.putfield 9, 3) := by decide +kernel
theorem q356_38 : decode (zbc 356) 38 = .ok (.goto 59, 3) := by decide +kernel
theorem q356_97 : decode (zbc 356) 97 = .ok (.return_, 1) := by decide +kernel
theorem cJ_sinit {u : WU} {G F : GM} {Y : DY} {g : Nat} (hg : g < Y.2.2) (hsg : Y.2.1 g = (0, 9, [1, 0, 0, 0])) {i j m : Nat} {t : List Int} (h : SBx Y i j m t) (ht : t.length ≤ 400) (hzr : ∀ k q, zr (Y.1 k q)) : wC u 356 1 1000 [.ref (1000 + g), .ref (1000 + i), .null] G F Y (fun o G' F' Y' => o = none ∧ G = G' ∧ F = F' ∧ STn Y g t Y') := by
  refine w_met (L0 := [.ref (1000 + g), .ref (1000 + i), .null, .null, .null]) (by decide +kernel) rfl rfl ?_
  have h0 := h
  obtain ⟨hi, hj, hij, hsi, hsj, hco, hcn, htm, hm, hby, hch⟩ := h
  refine wi_aload_n (i := 0) (pc' := 1) q356_0 rfl rfl rfl ?_
  refine wi_obj (pc' := 4) q356_1 rfl kx_1311 (Nat.le_of_ble_eq_true rfl) (Nat.le_of_ble_eq_true rfl) (Nat.le_of_ble_eq_true rfl) ?_
  refine wi_aload_n (i := 1) (pc' := 5) q356_4 rfl rfl rfl ?_
  refine wi_call (pc' := 8) wk356_5 rfl (cJ_value h0) rfl (Nat.le_of_ble_eq_true rfl) (Nat.le_of_ble_eq_true rfl) (by (try dsimp only); omega) (by (try dsimp only); omega) (wrv_sb h0) ?_
  rintro o9 G9 F9 Y9 ⟨rfl, rfl, rfl, rfl⟩ hle9
  refine wi_astore3 (pc' := 9) q356_8 rfl rfl rfl (Or.inr rfl) ?_
  refine wi_aload_n (i := 1) (pc' := 10) q356_9 rfl rfl rfl ?_
  refine wi_call (pc' := 13) wk356_10 rfl (cJ_len4 h0) rfl (Nat.le_of_ble_eq_true rfl) (Nat.le_of_ble_eq_true rfl) (by (try dsimp only); omega) (by (try dsimp only); omega) (wrv_sb h0) ?_
  rintro o9 G9 F9 Y9 ⟨rfl, rfl, rfl, rfl⟩ hle9
  refine wi_istore4 (pc' := 15) q356_13 rfl rfl (Or.inr rfl) ?_
  refine wi_aload_n (i := 1) (pc' := 16) q356_15 rfl rfl rfl ?_
  refine wi_call (pc' := 19) wk356_16 rfl (cJ_isLat h0) rfl (Nat.le_of_ble_eq_true rfl) (Nat.le_of_ble_eq_true rfl) (by (try dsimp only); omega) (by (try dsimp only); omega) (wrv_sb h0) ?_
  rintro o9 G9 F9 Y9 ⟨rfl, rfl, rfl, rfl⟩ hle9
  refine wi_if_eq (t := 41) (pc' := 22) q356_19 (by decide) rfl (by omega) (fun h1 => absurd h1 (by omega)) (fun h1 => ?_)
  refine wi_aload_n (i := 0) (pc' := 23) q356_22 rfl rfl rfl ?_
  refine wi_iconst (pc' := 24) q356_23 rfl ?_
  refine wi_putFI (ci := 9) (j := 1) (T := TJ0) (ty0 := tyJ0) (C := RJ0) (Nf := 4) (pc' := 27) q356_24 rfl rfl inJ0 tyJ0_ok nmJ0 (by decide) kx_1359 rfl rfl rfl rfl rfl (by omega) rfl hg hsg rfl ?_
  have hz1 : (zp (Y.1 g) ((1 : Nat) : Int) 0) 1 = 0 := zp_eq _ _ _
  have hgj : j ≠ g := fun h => by rw [h, hsg] at hsj; cases hsj
  have eY : (w_row Y g (zp (Y.1 g) ((1 : Nat) : Int) 0)).1 j = Y.1 j := zk_ne hgj
  refine wi_aload_n (i := 0) (pc' := 28) q356_27 rfl rfl rfl ?_
  refine wi_aload_n (i := 3) (pc' := 29) q356_28 rfl rfl rfl ?_
  refine wi_iconst (pc' := 30) q356_29 rfl ?_
  refine wi_iload (i := 4) (pc' := 32) q356_30 rfl rfl ?_
  refine wi_call (pc' := 35) wk356_32 rfl (cJ_cor (Y := w_row Y g (zp (Y.1 g) ((1 : Nat) : Int) 0)) (n := t.length) hj hsj hm htm (fun k hk => by rw [eY]; exact hby k hk) (fun k => by rw [eY]; exact hzr j k)) rfl (Nat.le_of_ble_eq_true rfl) (Nat.le_of_ble_eq_true rfl) (by (try dsimp only); omega) (by (try dsimp only); omega) (wrv_n) ?_
  rintro o9 G9 F9 Y9 ⟨rfl, rfl, rfl, E, hE1, hE2⟩ hle9
  subst hE1
  refine wi_putFR (ci := 9) (j := 0) (T := TJ0) (ty0 := tyJ0) (C := RJ0) (Nf := 4) (pc' := 38) q356_35 rfl rfl inJ0 tyJ0_ok nmJ0 (by decide) kx_1358 rfl rfl rfl (fun _ => rfl) (fun _ => rfl) rfl (show g < Y.2.2 + 1 by omega) (w_add_lo (Y := w_row Y g (zp (Y.1 g) ((1 : Nat) : Int) 0)) (E := E) hg hsg) (Nat.le_of_ble_eq_true rfl) rfl ?_
  refine wi_goto (t := 97) q356_38 (by decide) ?_
  refine wW_r (o := none) ⟨q356_97, rfl⟩ rfl (by (try dsimp only); omega) (by (try dsimp only); omega) ?_
  exact ⟨rfl, rfl, rfl, ST_new hg hz1 (fun k hk => by rw [hE2 k hk, eY]; exact hch k hk) (by omega) (SB_rng h0)⟩
theorem q355_0 : decode (zbc 355) 0 = .ok (.aload_n 0, 1) := by decide +kernel
theorem q355_1 : decode (zbc 355) 1 = .ok (.aload_n 1, 1) := by decide +kernel
theorem q355_2 : decode (zbc 355) 2 = .ok (.aconst_null, 1) := by decide +kernel
theorem q355_3 : decode (zbc 355) 3 = .ok (.invokespecial 489, 3) := by decide +kernel
theorem kx_1308 : Cond.methodLink "java/lang/String" 489 yJ0_init_db425 ∈ zTs := z_in (i := 1308) (by decide +kernel) (by decide +kernel)
theorem kx_1309 : Cond.instanceMethod yJ0_init_db425 ∈ zTs := z_in (i := 1309) (by decide +kernel) (by decide +kernel)
theorem kx_1310 : Cond.code yJ0_init_db425 cJ0_init_db425 5 none ∈ zTs := z_in (i := 1310) (by decide +kernel) (by decide +kernel)
theorem wk355_3 : wSC 355 3 356 3 (some "java/lang/String") := wk_I (n' := 2) q355_3 kx_1308 kx_1309 kx_41 rfl kx_1310 rfl ⟨by decide, by decide, by decide +kernel⟩ rfl ⟨Nat.le_of_ble_eq_true rfl, Nat.le_of_ble_eq_true rfl⟩
theorem q355_6 : decode (zbc 355) 6 = .ok (.return_, 1) := by decide +kernel
theorem cJ_sinit2 {u : WU} {G F : GM} {Y : DY} {g : Nat} (hg : g < Y.2.2) (hsg : Y.2.1 g = (0, 9, [1, 0, 0, 0])) {i j m : Nat} {t : List Int} (h : SBx Y i j m t) (ht : t.length ≤ 400) (hzr : ∀ k q, zr (Y.1 k q)) : wC u 355 1 1000 [.ref (1000 + g), .ref (1000 + i)] G F Y (fun o G' F' Y' => o = none ∧ G = G' ∧ F = F' ∧ STn Y g t Y') := by
  refine w_met (L0 := [.ref (1000 + g), .ref (1000 + i)]) (by decide +kernel) rfl rfl ?_
  refine wi_aload_n (i := 0) (pc' := 1) q355_0 rfl rfl rfl ?_
  refine wi_aload_n (i := 1) (pc' := 2) q355_1 rfl rfl rfl ?_
  refine wi_null (pc' := 3) q355_2 rfl ?_
  refine wi_call (pc' := 6) wk355_3 rfl (cJ_sinit hg hsg h ht hzr) rfl (Nat.le_of_ble_eq_true rfl) (Nat.le_of_ble_eq_true rfl) (by (try dsimp only); omega) (by (try dsimp only); omega) (fun C hC => by cases hC; exact ⟨_, _, rfl, Or.inl ⟨g, 9, TJ0, 4, _, rfl, hg, hsg, rfl⟩⟩) ?_
  rintro o9 G9 F9 Y9 ⟨rfl, rfl, rfl, hq9⟩ hle9
  refine wW_r (o := none) ⟨q355_6, rfl⟩ rfl (by (try dsimp only); omega) (by (try dsimp only); omega) ?_
  exact ⟨rfl, rfl, rfl, hq9⟩
theorem w_add_zr {Y : DY} {s : Sh} (h : ∀ k q, zr (Y.1 k q)) (k : Nat) (q : Int) : zr ((w_add Y s (fun _ => 0)).1 k q) := by
  show zr (zk Y.1 Y.2.2 (fun _ => 0) k q)
  by_cases hk : k = Y.2.2
  · rw [hk, zk_eq]
    exact zr0
  · rw [zk_ne hk]
    exact h k q
theorem SBx_up {Y : DY} {s : Sh} {E : Int → Int} {i j m : Nat} {t : List Int} (h : SBx Y i j m t) : SBx (w_add Y s E) i j m t := by
  obtain ⟨hi, hj, hij, hsi, hsj, hco, hcn, htm, hm, hby, hch⟩ := h
  have e1 := w_add_E (h := s) (E := E) hi
  have e2 := w_add_E (h := s) (E := E) hj
  exact ⟨show i < Y.2.2 + 1 by omega, show j < Y.2.2 + 1 by omega, hij, w_add_lo hi hsi, w_add_lo hj hsj, by rw [e1]; exact hco, by rw [e1]; exact hcn, htm, hm, fun k hk => by rw [e2]; exact hby k hk, fun k hk => by rw [e2]; exact hch k hk⟩
theorem q354_0 : decode (zbc 354) 0 = .ok (.new 18, 3) := by decide +kernel
theorem kx_1303 : Cond.classLink "java/lang/StringBuilder" 18 "java/lang/String" ∈ zTs := z_in (i := 1303) (by decide +kernel) (by decide +kernel)
theorem q354_3 : decode (zbc 354) 3 = .ok (.dup, 1) := by decide +kernel
theorem q354_4 : decode (zbc 354) 4 = .ok (.aload_n 0, 1) := by decide +kernel
theorem q354_5 : decode (zbc 354) 5 = .ok (.invokespecial 137, 3) := by decide +kernel
theorem kx_1305 : Cond.methodLink "java/lang/StringBuilder" 137 yJ0_init_81219 ∈ zTs := z_in (i := 1305) (by decide +kernel) (by decide +kernel)
theorem kx_1306 : Cond.instanceMethod yJ0_init_81219 ∈ zTs := z_in (i := 1306) (by decide +kernel) (by decide +kernel)
theorem kx_1307 : Cond.code yJ0_init_81219 cJ0_init_81219 2 none ∈ zTs := z_in (i := 1307) (by decide +kernel) (by decide +kernel)
theorem wk354_5 : wSC 354 5 355 2 (some "java/lang/String") := wk_I (n' := 1) q354_5 kx_1305 kx_1306 kx_41 rfl kx_1307 rfl ⟨by decide, by decide, by decide +kernel⟩ rfl ⟨Nat.le_of_ble_eq_true rfl, Nat.le_of_ble_eq_true rfl⟩
theorem q354_8 : decode (zbc 354) 8 = .ok (.areturn, 1) := by decide +kernel
theorem cJ_toStr {u : WU} {G F : GM} {Y : DY} {i j m : Nat} {t : List Int} (h : SBx Y i j m t) (ht : t.length ≤ 400) (hzr : ∀ k q, zr (Y.1 k q)) : wC u 354 2 1004 [.ref (1000 + i)] G F Y (fun o G' F' Y' => o = some (.ref (1000 + Y.2.2)) ∧ G = G' ∧ F = F' ∧ wStr Y' (1000 + Y.2.2) t ∧ Y.2.2 ≤ Y'.2.2 ∧ ∀ k, k < Y.2.2 → Y'.1 k = Y.1 k ∧ Y'.2.1 k = Y.2.1 k) := by
  refine w_met (L0 := [.ref (1000 + i)]) (by decide +kernel) rfl rfl ?_
  refine wi_mkS (pc' := 3) q354_0 rfl kx_1303 (by (try dsimp only); omega) (by (try dsimp only); omega) ?_
  refine wi_dupR (pc' := 4) q354_3 rfl ?_
  refine wi_aload_n (i := 0) (pc' := 5) q354_4 rfl rfl rfl ?_
  refine wi_call (pc' := 8) wk354_5 rfl (cJ_sinit2 (Y := w_add Y (0, 9, [1, 0, 0, 0]) (fun _ => 0)) (g := Y.2.2) (show Y.2.2 < Y.2.2 + 1 by omega) w_add_hi (SBx_up h) ht (fun k q => w_add_zr hzr k q)) rfl (Nat.le_of_ble_eq_true rfl) (Nat.le_of_ble_eq_true rfl) (by (try dsimp only); omega) (by (try dsimp only); omega) (fun C hC => by cases hC; exact ⟨_, _, rfl, Or.inl ⟨Y.2.2, 9, TJ0, 4, _, rfl, show Y.2.2 < Y.2.2 + 1 by omega, w_add_hi, rfl⟩⟩) ?_
  rintro o9 G9 F9 Y9 ⟨rfl, rfl, rfl, hq1, hq2, hq3⟩ hle9
  refine wW_r (o := some (.ref (1000 + Y.2.2))) ⟨q354_8, _, rfl, Or.inl ⟨_, rfl⟩⟩ rfl (by (try dsimp only); omega) (by (try dsimp only); omega) ?_
  have hq2 : Y.2.2 + 1 ≤ Y9.2.2 := hq2
  refine ⟨rfl, rfl, rfl, hq1, by omega, fun k a1 => ?_⟩
  obtain ⟨c1, c2⟩ := hq3 k (show k < Y.2.2 + 1 by omega) (by omega)
  exact ⟨c1.trans (w_add_E a1), c2.trans (w_add_lo a1 rfl)⟩
