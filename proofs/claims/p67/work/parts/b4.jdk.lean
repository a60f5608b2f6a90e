/-! Runs over made cells: append. -/
theorem SB_fin {Y Y1 Y2 : DY} {i j j1 m1 : Nat} {t s : List Int} (h1 : SBx Y1 i j1 m1 t) (hcap : t.length + s.length ≤ m1) (hj : j1 = j ∨ Y.2.2 ≤ j1) (hle : Y.2.2 ≤ Y1.2.2) (hfr : ∀ k, k < Y.2.2 → k ≠ i → k ≠ j → Y1.1 k = Y.1 k ∧ Y1.2.1 k = Y.2.1 k) (g1 : Y2.2.2 = Y1.2.2) (g2 : Y2.2.1 = Y1.2.1) (g3 : Y2.1 i 1 = 0) (g4 : Y2.1 i 3 = (t.length : Int) + (s.length : Int)) (g5 : ∀ k, k ≠ i → k ≠ j1 → Y2.1 k = Y1.1 k) (g6 : Y2.1 j1 = w_cpy (wTf s) (Y1.1 j1) 0 (t.length : Int) (s.length : Int)) (hs : ∀ k : Nat, k < s.length → 0 ≤ s.getD k 0 ∧ s.getD k 0 ≤ 127) : SBp Y i j (t ++ s) 0 Y2 := by
  refine ⟨j1, m1, SB_app h1 hcap g1 g2 g3 g4 (fun k hk => ?_) (fun k hk => ?_) (fun k hk hk2 => ?_) hs, Nat.zero_le _, hj, by rw [g1]; exact hle, fun k a1 a2 a3 => ?_⟩
  · rw [g6]
    unfold w_cpy
    rw [if_neg (by omega)]
  · rw [g6]
    unfold w_cpy wTf
    rw [if_pos (by omega), show ((0 : Int) + ((t.length : Int) + (k : Int) - (t.length : Int))).toNat = k by omega]
  · rw [g6]
    unfold w_cpy
    rw [if_neg (by omega)]
  · rw [g5 k a2 (by omega), g2]
    exact hfr k a1 a2 a3
def wSz (v : Int) : Int := if v < 10 then 1 else 2
def wDig (v : Int) : List Int := if v < 10 then [48 + v] else [48 + v / 10, 48 + v % 10]
theorem wDig_len {v : Int} : ((wDig v).length : Int) = wSz v := by
  unfold wDig wSz
  split <;> rfl
theorem wDig_rng {v : Int} (hv : 0 ≤ v ∧ v < 100) : ∀ k : Nat, k < (wDig v).length → 0 ≤ (wDig v).getD k 0 ∧ (wDig v).getD k 0 ≤ 127 := by
  intro k hk
  unfold wDig at hk ⊢
  split
  · rename_i h
    rw [if_pos h] at hk
    obtain rfl : k = 0 := by simp at hk; omega
    show 0 ≤ 48 + v ∧ 48 + v ≤ 127
    omega
  · rename_i h
    rw [if_neg h] at hk
    rcases (show k = 0 ∨ k = 1 by simp at hk; omega) with rfl | rfl
    · show 0 ≤ 48 + v / 10 ∧ 48 + v / 10 ≤ 127
      omega
    · show 0 ≤ 48 + v % 10 ∧ 48 + v % 10 ≤ 127
      omega
theorem w_dig1 {E : Int → Int} {e v : Int} (hv : 0 ≤ v ∧ v < 10) : zp E (e + (-1)) (48 + v % 10) = w_cpy (wTf (wDig v)) E 0 (e - wSz v) (wSz v) := by
  have h1 : wSz v = 1 := if_pos hv.2
  have h2 : wDig v = [48 + v] := if_pos hv.2
  rw [h1, h2]
  funext k
  unfold w_cpy
  by_cases hk : k = e + (-1)
  · rw [hk, zp_eq, if_pos (by omega)]
    unfold wTf
    rw [show ((0 : Int) + (e + (-1) - (e - 1))).toNat = 0 by omega]
    show 48 + v % 10 = 48 + v
    omega
  · rw [zp_ne hk, if_neg (by omega)]
theorem w_dig2 {E : Int → Int} {e v : Int} (hv : 10 ≤ v ∧ v < 100) : zp (zp E (e + (-1)) (48 + v % 10)) (e + (-1) + (-1)) (48 + v / 10) = w_cpy (wTf (wDig v)) E 0 (e - wSz v) (wSz v) := by
  have h1 : wSz v = 2 := if_neg (by omega)
  have h2 : wDig v = [48 + v / 10, 48 + v % 10] := if_neg (by omega)
  rw [h1, h2]
  funext k
  unfold w_cpy
  by_cases hk : k = e + (-1) + (-1)
  · rw [hk, zp_eq, if_pos (by omega)]
    unfold wTf
    rw [show ((0 : Int) + (e + (-1) + (-1) - (e - 2))).toNat = 0 by omega]
    rfl
  · rw [zp_ne hk]
    by_cases hk2 : k = e + (-1)
    · rw [hk2, zp_eq, if_pos (by omega)]
      unfold wTf
      rw [show ((0 : Int) + (e + (-1) - (e - 2))).toNat = 1 by omega]
      rfl
    · rw [zp_ne hk2, if_neg (by omega)]
theorem q349_0 : decode (zbc 349) 0 = .ok (.aload_n 1, 1) := by decide +kernel
theorem q349_1 : decode (zbc 349) 1 = .ok (.ifnonnull 8, 3) := by decide +kernel
theorem q349_9 : decode (zbc 349) 9 = .ok (.aload_n 1, 1) := by decide +kernel
theorem q349_10 : decode (zbc 349) 10 = .ok (.invokevirtual 32, 3) := by decide +kernel
theorem kx_1124 : Cond.methodLink "java/lang/AbstractStringBuilder" 32 yJ0_length_8abf5 ∈ zTs := z_in (i := 1124) (by decide +kernel) (by decide +kernel)
theorem kx_311 : Cond.instanceMethod yJ0_length_8abf5 ∈ zTs := z_in (i := 311) (by decide +kernel) (by decide +kernel)
theorem kx_312 : Cond.selects "java/lang/String" yJ0_length_8abf5 yJ0_length_8abf5 ∈ zTs := z_in (i := 312) (by decide +kernel) (by decide +kernel)
theorem kx_313 : Cond.code yJ0_length_8abf5 cJ0_length_8abf5 1 (some .int) ∈ zTs := z_in (i := 313) (by decide +kernel) (by decide +kernel)
theorem wk349_10 : wSC 349 10 280 1 (some "java/lang/String") := wk_V (n' := 0) q349_10 kx_1124 kx_311 kx_312 kx_41 kx_313 ⟨by decide, by decide, by decide +kernel⟩ rfl ⟨Nat.le_of_ble_eq_true rfl, Nat.le_of_ble_eq_true rfl⟩
theorem q349_13 : decode (zbc 349) 13 = .ok (.istore_n 2, 1) := by decide +kernel
theorem q349_14 : decode (zbc 349) 14 = .ok (.aload_n 0, 1) := by decide +kernel
theorem q349_15 : decode (zbc 349) 15 = .ok (.aload_n 0, 1) := by decide +kernel
theorem q349_16 : decode (zbc 349) 16 = .ok (.getfield 79, 3) := by decide +kernel
theorem q349_19 : decode (zbc 349) 19 = .ok (.iload_n 2, 1) := by decide +kernel
theorem q349_20 : decode (zbc 349) 20 = .ok (.iadd, 1) := by decide +kernel
theorem q349_21 : decode (zbc 349) 21 = .ok (.invokevirtual 100, 3) := by decide +kernel
theorem kx_1152 : Cond.methodLink "java/lang/AbstractStringBuilder" 100 yJ5_ensureCapacityInternal_d00df ∈ zTs := z_in (i := 1152) (by decide +kernel) (by decide +kernel)
theorem kx_1447 : Cond.sameMethod "java/lang/AbstractStringBuilder" "java/lang/AbstractStringBuilder" "ensureCapacityInternal" "(I)V" ∈ zTs := z_in (i := 1447) (by decide +kernel) (by decide +kernel)
theorem kx_1154 : Cond.instanceMethod yJ5_ensureCapacityInternal_d00df ∈ zTs := z_in (i := 1154) (by decide +kernel) (by decide +kernel)
theorem kx_1155 : Cond.code yJ5_ensureCapacityInternal_d00df cJ5_ensureCapacityInternal_d00df 3 none ∈ zTs := z_in (i := 1155) (by decide +kernel) (by decide +kernel)
theorem wk349_21 : wSC 349 21 357 2 (some "java/lang/StringBuilder") := wk_P (n' := 1) q349_21 kx_1152 kx_1447 kx_1154 (by show yJ5_ensureCapacityInternal_d00df ∈ wPv; simp [wPv]) kx_55 kx_1155 ⟨by decide, by decide, by decide +kernel⟩ rfl ⟨Nat.le_of_ble_eq_true rfl, Nat.le_of_ble_eq_true rfl⟩
theorem q349_24 : decode (zbc 349) 24 = .ok (.aload_n 0, 1) := by decide +kernel
theorem q349_25 : decode (zbc 349) 25 = .ok (.aload_n 0, 1) := by decide +kernel
theorem q349_26 : decode (zbc 349) 26 = .ok (.getfield 79, 3) := by decide +kernel
theorem q349_29 : decode (zbc 349) 29 = .ok (.aload_n 1, 1) := by decide +kernel
theorem q349_30 : decode (zbc 349) 30 = .ok (.invokevirtual 208, 3) := by decide +kernel
theorem kx_1201 : Cond.methodLink "java/lang/AbstractStringBuilder" 208 yJ5_putStringAt_47b60 ∈ zTs := z_in (i := 1201) (by decide +kernel) (by decide +kernel)
theorem kx_1449 : Cond.sameMethod "java/lang/AbstractStringBuilder" "java/lang/AbstractStringBuilder" "putStringAt" "(ILjava/lang/String;)V" ∈ zTs := z_in (i := 1449) (by decide +kernel) (by decide +kernel)
theorem kx_1203 : Cond.instanceMethod yJ5_putStringAt_47b60 ∈ zTs := z_in (i := 1203) (by decide +kernel) (by decide +kernel)
theorem kx_1204 : Cond.code yJ5_putStringAt_47b60 cJ5_putStringAt_47b60 3 none ∈ zTs := z_in (i := 1204) (by decide +kernel) (by decide +kernel)
theorem wk349_30 : wSC 349 30 362 3 (some "java/lang/StringBuilder") := wk_P (n' := 2) q349_30 kx_1201 kx_1449 kx_1203 (by show yJ5_putStringAt_47b60 ∈ wPv; simp [wPv]) kx_55 kx_1204 ⟨by decide, by decide, by decide +kernel⟩ rfl ⟨Nat.le_of_ble_eq_true rfl, Nat.le_of_ble_eq_true rfl⟩
theorem q349_33 : decode (zbc 349) 33 = .ok (.aload_n 0, 1) := by decide +kernel
theorem q349_34 : decode (zbc 349) 34 = .ok (.dup, 1) := by decide +kernel
theorem q349_35 : decode (zbc 349) 35 = .ok (.getfield 79, 3) := by decide +kernel
theorem q349_38 : decode (zbc 349) 38 = .ok (.iload_n 2, 1) := by decide +kernel
theorem q349_39 : decode (zbc 349) 39 = .ok (.iadd, 1) := by decide +kernel
theorem q349_40 : decode (zbc 349) 40 = .ok (.putfield 79, 3) := by decide +kernel
theorem q349_43 : decode (zbc 349) 43 = .ok (.aload_n 0, 1) := by decide +kernel
theorem q349_44 : decode (zbc 349) 44 = .ok (.areturn, 1) := by decide +kernel
theorem cJ_app5 {u : WU} {G F : GM} {Y : DY} {i j m : Nat} {t : List Int} (h : SBx Y i j m t) {r : Nat} {s : List Int} (hr : wCst r s) (hb : t.length + s.length ≤ 400) : wC u 349 1 1000 [.ref (1000 + i), .ref r] G F Y (fun o G' F' Y' => o = some (.ref (1000 + i)) ∧ G = G' ∧ F = F' ∧ SBp Y i j (t ++ s) 0 Y') := by
  refine w_met (L0 := [.ref (1000 + i), .ref r, .null]) (by decide +kernel) rfl rfl ?_
  have h0 := h
  obtain ⟨hi, hj, hij, hsi, hsj, hco, hcn, htm, hm, hby, hch⟩ := h
  refine wi_aload_n (i := 1) (pc' := 1) q349_0 rfl rfl rfl ?_
  refine wi_ifnonnull (t := 9) q349_1 (by decide) ?_
  refine wi_aload_n (i := 1) (pc' := 10) q349_9 rfl rfl rfl ?_
  refine wi_call (pc' := 13) wk349_10 rfl (cJ_slen hr.str) rfl (Nat.le_of_ble_eq_true rfl) (Nat.le_of_ble_eq_true rfl) (by (try dsimp only); omega) (by (try dsimp only); omega) (wrv_str hr.str) ?_
  rintro o9 G9 F9 Y9 ⟨rfl, rfl, rfl, rfl⟩ hle9
  refine wi_istore2 (pc' := 14) q349_13 rfl rfl rfl (Or.inr rfl) ?_
  refine wi_aload_n (i := 0) (pc' := 15) q349_14 rfl rfl rfl ?_
  refine wi_aload_n (i := 0) (pc' := 16) q349_15 rfl rfl rfl ?_
  refine wi_getI (ci := 10) (j := 3) (C := RJ4) (T := TJ4) (Nf := 4) (pc' := 19) q349_16 rfl rfl inJ4 (by decide) kx_1237 rfl hi hsi rfl ?_
  rw [show (Y).1 i ((3 : Nat) : Int) = (t.length : Int) from hcn]
  refine wi_iload_n (i := 2) (pc' := 20) q349_19 rfl rfl rfl ?_
  refine wi_iadd (pc' := 21) q349_20 rfl ?_
  refine wi_call (pc' := 24) wk349_21 rfl (cJ_ensure h0 (q := (t.length : Int) + (s.length : Int)) (by omega)) rfl (Nat.le_of_ble_eq_true rfl) (Nat.le_of_ble_eq_true rfl) (by (try dsimp only); omega) (by (try dsimp only); omega) (wrv_sb h0) ?_
  rintro o9 G9 F9 Y9 ⟨rfl, rfl, rfl, j1, m1, h1, hcap, hjj, hle1, hfr⟩ hle9
  have h1c := h1
  obtain ⟨hi1, hj1, hij1, hsi1, hsj1, hco1, hcn1, htm1, hm1, hby1, hch1⟩ := h1
  refine wi_aload_n (i := 0) (pc' := 25) q349_24 rfl rfl rfl ?_
  refine wi_aload_n (i := 0) (pc' := 26) q349_25 rfl rfl rfl ?_
  refine wi_getI (ci := 10) (j := 3) (C := RJ4) (T := TJ4) (Nf := 4) (pc' := 29) q349_26 rfl rfl inJ4 (by decide) kx_1237 rfl hi1 hsi1 rfl ?_
  rw [show (Y9).1 i ((3 : Nat) : Int) = (t.length : Int) from hcn1]
  refine wi_aload_n (i := 1) (pc' := 30) q349_29 rfl rfl rfl ?_
  refine wi_call (pc' := 33) wk349_30 rfl (cJ_putS h1c hr.str (q := (t.length : Int)) (by omega)) rfl (Nat.le_of_ble_eq_true rfl) (Nat.le_of_ble_eq_true rfl) (by (try dsimp only); omega) (by (try dsimp only); omega) (wrv_sb h1c) ?_
  rintro o9 G9 F9 Y8 ⟨rfl, rfl, rfl, hY⟩ hle8
  have g1 : Y8.2.2 = Y9.2.2 := by rw [hY]; rfl
  have g2 : Y8.2.1 = Y9.2.1 := by rw [hY]; rfl
  have g3 : Y8.1 i = Y9.1 i := by rw [hY]; exact zk_ne hij1
  have g4 : Y8.1 j1 = w_cpy (wTf s) (Y9.1 j1) 0 (t.length : Int) (s.length : Int) := by rw [hY]; exact zk_eq _ _ _
  have g5 : ∀ k, k ≠ j1 → Y8.1 k = Y9.1 k := fun k hk => by rw [hY]; exact zk_ne hk
  refine wi_aload_n (i := 0) (pc' := 34) q349_33 rfl rfl rfl ?_
  refine wi_dupR (pc' := 35) q349_34 rfl ?_
  refine wi_getI (ci := 10) (j := 3) (C := RJ4) (T := TJ4) (Nf := 4) (pc' := 38) q349_35 rfl rfl inJ4 (by decide) kx_1237 rfl (by rw [g1]; exact hi1) (by rw [g2]; exact hsi1) rfl ?_
  rw [show (Y8).1 i ((3 : Nat) : Int) = (t.length : Int) from (by rw [g3]; exact hcn1)]
  refine wi_iload_n (i := 2) (pc' := 39) q349_38 rfl rfl rfl ?_
  refine wi_iadd (pc' := 40) q349_39 rfl ?_
  refine wi_putI (ci := 10) (j := 3) (T := TJ4) (ty0 := tyJ4) (C := RJ4) (Nf := 4) (pc' := 43) q349_40 rfl rfl inJ4 tyJ4_ok nmJ4 (by decide) kx_1237 rfl rfl rfl (by omega) rfl (by rw [g1]; exact hi1) (by rw [g2]; exact hsi1) rfl ?_
  refine wi_aload_n (i := 0) (pc' := 44) q349_43 rfl rfl rfl ?_
  refine wW_r (o := some (.ref (1000 + i))) ⟨q349_44, _, rfl, Or.inl ⟨_, rfl⟩⟩ rfl (by (try dsimp only); omega) (by (try dsimp only); omega) ?_
  exact ⟨rfl, rfl, rfl, SB_fin h1c (by omega) hjj hle1 hfr g1 g2 (by show zk Y8.1 i _ i 1 = 0; rw [zk_eq, zp_ne (by decide), g3]; exact hco1) (by show zk Y8.1 i _ i 3 = _; rw [zk_eq]; exact zp_eq _ _ _) (fun k a1 a2 => by show zk Y8.1 i _ k = _; rw [zk_ne a1]; exact g5 k a2) (by show zk Y8.1 i _ j1 = _; rw [zk_ne (fun h => hij1 h.symm)]; exact g4) hr.2.2⟩
theorem q348_0 : decode (zbc 348) 0 = .ok (.aload_n 0, 1) := by decide +kernel
theorem q348_1 : decode (zbc 348) 1 = .ok (.aload_n 1, 1) := by decide +kernel
theorem q348_2 : decode (zbc 348) 2 = .ok (.invokespecial 29, 3) := by decide +kernel
theorem kx_1145 : Cond.methodLink "java/lang/StringBuilder" 29 yJ5_append_cf1ce ∈ zTs := z_in (i := 1145) (by decide +kernel) (by decide +kernel)
theorem kx_1137 : Cond.sameMethod "java/lang/AbstractStringBuilder" "java/lang/AbstractStringBuilder" "append" "(Ljava/lang/String;)Ljava/lang/AbstractStringBuilder;" ∈ zTs := z_in (i := 1137) (by decide +kernel) (by decide +kernel)
theorem kx_1136 : Cond.instanceMethod yJ5_append_cf1ce ∈ zTs := z_in (i := 1136) (by decide +kernel) (by decide +kernel)
theorem kx_1147 : Cond.code yJ5_append_cf1ce cJ5_append_cf1ce 3 (some (.object "java/lang/AbstractStringBuilder")) ∈ zTs := z_in (i := 1147) (by decide +kernel) (by decide +kernel)
theorem wk348_2 : wSC 348 2 349 2 (some "java/lang/StringBuilder") := wk_SU (ci := 10) (n' := 1) rfl q348_2 kx_1145 kx_1137 kx_1146 kx_1136 kx_55 kx_1147 ⟨by decide, by decide +kernel⟩ rfl ⟨Nat.le_of_ble_eq_true rfl, Nat.le_of_ble_eq_true rfl⟩
theorem q348_5 : decode (zbc 348) 5 = .ok (.pop, 1) := by decide +kernel
theorem q348_6 : decode (zbc 348) 6 = .ok (.aload_n 0, 1) := by decide +kernel
theorem q348_7 : decode (zbc 348) 7 = .ok (.areturn, 1) := by decide +kernel
theorem cJ_app4 {u : WU} {G F : GM} {Y : DY} {i j m : Nat} {t : List Int} (h : SBx Y i j m t) {r : Nat} {s : List Int} (hr : wCst r s) (hb : t.length + s.length ≤ 400) : wC u 348 1 1000 [.ref (1000 + i), .ref r] G F Y (fun o G' F' Y' => o = some (.ref (1000 + i)) ∧ G = G' ∧ F = F' ∧ SBp Y i j (t ++ s) 0 Y') := by
  refine w_met (L0 := [.ref (1000 + i), .ref r]) (by decide +kernel) rfl rfl ?_
  refine wi_aload_n (i := 0) (pc' := 1) q348_0 rfl rfl rfl ?_
  refine wi_aload_n (i := 1) (pc' := 2) q348_1 rfl rfl rfl ?_
  refine wi_call (pc' := 5) wk348_2 rfl (cJ_app5 h hr hb) rfl (Nat.le_of_ble_eq_true rfl) (Nat.le_of_ble_eq_true rfl) (by (try dsimp only); omega) (by (try dsimp only); omega) (wrv_sb h) ?_
  rintro o9 G9 F9 Y9 ⟨rfl, rfl, rfl, hq9⟩ hle9
  refine wi_popR (pc' := 6) q348_5 rfl ?_
  refine wi_aload_n (i := 0) (pc' := 7) q348_6 rfl rfl rfl ?_
  refine wW_r (o := some (.ref (1000 + i))) ⟨q348_7, _, rfl, Or.inl ⟨_, rfl⟩⟩ rfl (by (try dsimp only); omega) (by (try dsimp only); omega) ?_
  exact ⟨rfl, rfl, rfl, hq9⟩
theorem q371_0 : decode (zbc 371) 0 = .ok (.aload_n 0, 1) := by decide +kernel
theorem q371_1 : decode (zbc 371) 1 = .ok (.aload_n 1, 1) := by decide +kernel
theorem q371_2 : decode (zbc 371) 2 = .ok (.invokevirtual 23, 3) := by decide +kernel
theorem kx_1141 : Cond.methodLink "java/lang/StringBuilder" 23 yJ4_append_15ec4 ∈ zTs := z_in (i := 1141) (by decide +kernel) (by decide +kernel)
theorem kx_1142 : Cond.instanceMethod yJ4_append_15ec4 ∈ zTs := z_in (i := 1142) (by decide +kernel) (by decide +kernel)
theorem kx_1143 : Cond.selects "java/lang/StringBuilder" yJ4_append_15ec4 yJ4_append_15ec4 ∈ zTs := z_in (i := 1143) (by decide +kernel) (by decide +kernel)
theorem kx_56 : Cond.initialized "java/lang/StringBuilder" ∈ zTs := z_in (i := 56) (by decide +kernel) (by decide +kernel)
theorem kx_1144 : Cond.code yJ4_append_15ec4 cJ4_append_15ec4 2 (some (.object "java/lang/StringBuilder")) ∈ zTs := z_in (i := 1144) (by decide +kernel) (by decide +kernel)
theorem wk371_2 : wSC 371 2 348 2 (some "java/lang/StringBuilder") := wk_V (n' := 1) q371_2 kx_1141 kx_1142 kx_1143 kx_56 kx_1144 ⟨by decide, by decide, by decide +kernel⟩ rfl ⟨Nat.le_of_ble_eq_true rfl, Nat.le_of_ble_eq_true rfl⟩
theorem q371_5 : decode (zbc 371) 5 = .ok (.areturn, 1) := by decide +kernel
theorem cJ_app4b {u : WU} {G F : GM} {Y : DY} {i j m : Nat} {t : List Int} (h : SBx Y i j m t) {r : Nat} {s : List Int} (hr : wCst r s) (hb : t.length + s.length ≤ 400) : wC u 371 1 1000 [.ref (1000 + i), .ref r] G F Y (fun o G' F' Y' => o = some (.ref (1000 + i)) ∧ G = G' ∧ F = F' ∧ SBp Y i j (t ++ s) 0 Y') := by
  refine w_met (L0 := [.ref (1000 + i), .ref r]) (by decide +kernel) rfl rfl ?_
  refine wi_aload_n (i := 0) (pc' := 1) q371_0 rfl rfl rfl ?_
  refine wi_aload_n (i := 1) (pc' := 2) q371_1 rfl rfl rfl ?_
  refine wi_call (pc' := 5) wk371_2 rfl (cJ_app4 h hr hb) rfl (Nat.le_of_ble_eq_true rfl) (Nat.le_of_ble_eq_true rfl) (by (try dsimp only); omega) (by (try dsimp only); omega) (wrv_sb h) ?_
  rintro o9 G9 F9 Y9 ⟨rfl, rfl, rfl, hq9⟩ hle9
  refine wW_r (o := some (.ref (1000 + i))) ⟨q371_5, _, rfl, Or.inl ⟨_, rfl⟩⟩ rfl (by (try dsimp only); omega) (by (try dsimp only); omega) ?_
  exact ⟨rfl, rfl, rfl, hq9⟩
theorem w_one {E : Int → Int} {n : Nat} {v : Int} : zp E (n : Int) v = w_cpy (wTf [v]) E 0 (n : Int) (([v] : List Int).length : Int) := by
  funext k
  unfold w_cpy
  by_cases hk : k = (n : Int)
  · rw [hk, zp_eq, if_pos (by show (n : Int) ≤ n ∧ (n : Int) < n + 1; omega)]
    unfold wTf
    rw [show ((0 : Int) + ((n : Int) - (n : Int))).toNat = 0 by omega]
    rfl
  · rw [zp_ne hk, if_neg (by show ¬ ((n : Int) ≤ k ∧ k < n + 1); omega)]
theorem w_rng1 {v : Int} (hv : 0 ≤ v ∧ v ≤ 127) : ∀ k : Nat, k < ([v] : List Int).length → 0 ≤ ([v] : List Int).getD k 0 ∧ ([v] : List Int).getD k 0 ≤ 127 := by
  intro k hk
  obtain rfl : k = 0 := by
    simp at hk
    omega
  exact hv
theorem q351_0 : decode (zbc 351) 0 = .ok (.aload_n 0, 1) := by decide +kernel
theorem q351_1 : decode (zbc 351) 1 = .ok (.aload_n 0, 1) := by decide +kernel
theorem q351_2 : decode (zbc 351) 2 = .ok (.getfield 79, 3) := by decide +kernel
theorem q351_5 : decode (zbc 351) 5 = .ok (.iconst 1, 1) := by decide +kernel
theorem q351_6 : decode (zbc 351) 6 = .ok (.iadd, 1) := by decide +kernel
theorem q351_7 : decode (zbc 351) 7 = .ok (.invokevirtual 100, 3) := by decide +kernel
theorem wk351_7 : wSC 351 7 357 2 (some "java/lang/StringBuilder") := wk_P (n' := 1) q351_7 kx_1152 kx_1447 kx_1154 (by show yJ5_ensureCapacityInternal_d00df ∈ wPv; simp [wPv]) kx_55 kx_1155 ⟨by decide, by decide, by decide +kernel⟩ rfl ⟨Nat.le_of_ble_eq_true rfl, Nat.le_of_ble_eq_true rfl⟩
theorem q351_10 : decode (zbc 351) 10 = .ok (.aload_n 0, 1) := by decide +kernel
theorem q351_11 : decode (zbc 351) 11 = .ok (.invokevirtual 83, 3) := by decide +kernel
theorem kx_1180 : Cond.methodLink "java/lang/AbstractStringBuilder" 83 yJ5_isLatin1_aae02 ∈ zTs := z_in (i := 1180) (by decide +kernel) (by decide +kernel)
theorem kx_1182 : Cond.sameMethod "java/lang/AbstractStringBuilder" "java/lang/AbstractStringBuilder" "isLatin1" "()Z" ∈ zTs := z_in (i := 1182) (by decide +kernel) (by decide +kernel)
theorem kx_1181 : Cond.instanceMethod yJ5_isLatin1_aae02 ∈ zTs := z_in (i := 1181) (by decide +kernel) (by decide +kernel)
theorem kx_1183 : Cond.selects "java/lang/StringBuilder" yJ5_isLatin1_aae02 yJ5_isLatin1_aae02 ∈ zTs := z_in (i := 1183) (by decide +kernel) (by decide +kernel)
theorem kx_1184 : Cond.code yJ5_isLatin1_aae02 cJ5_isLatin1_aae02 1 (some .boolean) ∈ zTs := z_in (i := 1184) (by decide +kernel) (by decide +kernel)
theorem wk351_11 : wSC 351 11 365 1 (some "java/lang/StringBuilder") := wk_U (n' := 0) q351_11 kx_1180 kx_1182 kx_1181 kx_1183 kx_55 kx_1184 ⟨by decide, by decide, by decide +kernel⟩ rfl ⟨Nat.le_of_ble_eq_true rfl, Nat.le_of_ble_eq_true rfl⟩
theorem q351_14 : decode (zbc 351) 14 = .ok (.ifCond .eq 31, 3) := by decide +kernel
theorem q351_17 : decode (zbc 351) 17 = .ok (.iload_n 1, 1) := by decide +kernel
theorem q351_18 : decode (zbc 351) 18 = .ok (.invokestatic 191, 3) := by decide +kernel
theorem kx_1278 : Cond.methodLink "java/lang/AbstractStringBuilder" 191 yJ1_canEncode_fc78d ∈ zTs := z_in (i := 1278) (by decide +kernel) (by decide +kernel)
theorem kx_1279 : Cond.static yJ1_canEncode_fc78d ∈ zTs := z_in (i := 1279) (by decide +kernel) (by decide +kernel)
theorem kx_1280 : Cond.code yJ1_canEncode_fc78d cJ1_canEncode_fc78d 1 (some .boolean) ∈ zTs := z_in (i := 1280) (by decide +kernel) (by decide +kernel)
theorem wk351_18 : wSC 351 18 370 1 none := wk_S q351_18 kx_1278 kx_1279 kx_42 kx_1280 ⟨by decide, by decide, by decide +kernel⟩ ⟨Nat.le_of_ble_eq_true rfl, Nat.le_of_ble_eq_true rfl⟩
theorem q351_21 : decode (zbc 351) 21 = .ok (.ifCond .eq 24, 3) := by decide +kernel
theorem q351_24 : decode (zbc 351) 24 = .ok (.aload_n 0, 1) := by decide +kernel
theorem q351_25 : decode (zbc 351) 25 = .ok (.getfield 15, 3) := by decide +kernel
theorem q351_28 : decode (zbc 351) 28 = .ok (.aload_n 0, 1) := by decide +kernel
theorem q351_29 : decode (zbc 351) 29 = .ok (.dup, 1) := by decide +kernel
theorem q351_30 : decode (zbc 351) 30 = .ok (.getfield 79, 3) := by decide +kernel
theorem q351_33 : decode (zbc 351) 33 = .ok (.dup_x1, 1) := by decide +kernel
theorem q351_34 : decode (zbc 351) 34 = .ok (.iconst 1, 1) := by decide +kernel
theorem q351_35 : decode (zbc 351) 35 = .ok (.iadd, 1) := by decide +kernel
theorem q351_36 : decode (zbc 351) 36 = .ok (.putfield 79, 3) := by decide +kernel
theorem q351_39 : decode (zbc 351) 39 = .ok (.iload_n 1, 1) := by decide +kernel
theorem q351_40 : decode (zbc 351) 40 = .ok (.i2b, 1) := by decide +kernel
theorem q351_41 : decode (zbc 351) 41 = .ok (.bastore, 1) := by decide +kernel
theorem q351_42 : decode (zbc 351) 42 = .ok (.goto 33, 3) := by decide +kernel
theorem q351_75 : decode (zbc 351) 75 = .ok (.aload_n 0, 1) := by decide +kernel
theorem q351_76 : decode (zbc 351) 76 = .ok (.areturn, 1) := by decide +kernel
theorem cJ_appC5 {u : WU} {G F : GM} {Y : DY} {i j m : Nat} {t : List Int} (h : SBx Y i j m t) {v : Int} (hv : 0 ≤ v ∧ v ≤ 127) (hb : t.length + 1 ≤ 400) : wC u 351 1 1000 [.ref (1000 + i), .int (zi v)] G F Y (fun o G' F' Y' => o = some (.ref (1000 + i)) ∧ G = G' ∧ F = F' ∧ SBp Y i j (t ++ [v]) 0 Y') := by
  refine w_met (L0 := [.ref (1000 + i), .int (zi v)]) (by decide +kernel) rfl rfl ?_
  have h0 := h
  obtain ⟨hi, hj, hij, hsi, hsj, hco, hcn, htm, hm, hby, hch⟩ := h
  refine wi_aload_n (i := 0) (pc' := 1) q351_0 rfl rfl rfl ?_
  refine wi_aload_n (i := 0) (pc' := 2) q351_1 rfl rfl rfl ?_
  refine wi_getI (ci := 10) (j := 3) (C := RJ4) (T := TJ4) (Nf := 4) (pc' := 5) q351_2 rfl rfl inJ4 (by decide) kx_1237 rfl hi hsi rfl ?_
  rw [show (Y).1 i ((3 : Nat) : Int) = (t.length : Int) from hcn]
  refine wi_iconst (pc' := 6) q351_5 rfl ?_
  refine wi_iadd (pc' := 7) q351_6 rfl ?_
  refine wi_call (pc' := 10) wk351_7 rfl (cJ_ensure h0 (q := (t.length : Int) + 1) (by omega)) rfl (Nat.le_of_ble_eq_true rfl) (Nat.le_of_ble_eq_true rfl) (by (try dsimp only); omega) (by (try dsimp only); omega) (wrv_sb h0) ?_
  rintro o9 G9 F9 Y9 ⟨rfl, rfl, rfl, j1, m1, h1, hcap, hjj, hle1, hfr⟩ hle9
  have h1c := h1
  obtain ⟨hi1, hj1, hij1, hsi1, hsj1, hco1, hcn1, htm1, hm1, hby1, hch1⟩ := h1
  refine wi_aload_n (i := 0) (pc' := 11) q351_10 rfl rfl rfl ?_
  refine wi_call (pc' := 14) wk351_11 rfl (cJ_isLat h1c) rfl (Nat.le_of_ble_eq_true rfl) (Nat.le_of_ble_eq_true rfl) (by (try dsimp only); omega) (by (try dsimp only); omega) (wrv_sb h1c) ?_
  rintro o9 G9 F9 Y9 ⟨rfl, rfl, rfl, rfl⟩ hle9
  refine wi_if_eq (t := 45) (pc' := 17) q351_14 (by decide) rfl (by omega) (fun h1 => absurd h1 (by omega)) (fun h1 => ?_)
  refine wi_iload_n (i := 1) (pc' := 18) q351_17 rfl rfl rfl ?_
  refine wi_call (pc' := 21) wk351_18 rfl (cJ_canEnc hv) rfl (Nat.le_of_ble_eq_true rfl) (Nat.le_of_ble_eq_true rfl) (by (try dsimp only); omega) (by (try dsimp only); omega) (wrv_n) ?_
  rintro o9 G9 F9 Y9 ⟨rfl, rfl, rfl, rfl⟩ hle9
  refine wi_if_eq (t := 45) (pc' := 24) q351_21 (by decide) rfl (by omega) (fun h2 => absurd h2 (by omega)) (fun h2 => ?_)
  refine wi_aload_n (i := 0) (pc' := 25) q351_24 rfl rfl rfl ?_
  refine wi_getR (ci := 10) (j := 0) (C := RJ4) (T := TJ4) (Nf := 4) (pc' := 28) q351_25 rfl rfl inJ4 (by decide) kx_1234 rfl hi1 hsi1 rfl ?_
  refine wi_aload_n (i := 0) (pc' := 29) q351_28 rfl rfl rfl ?_
  refine wi_dupR (pc' := 30) q351_29 rfl ?_
  refine wi_getI (ci := 10) (j := 3) (C := RJ4) (T := TJ4) (Nf := 4) (pc' := 33) q351_30 rfl rfl inJ4 (by decide) kx_1237 rfl hi1 hsi1 rfl ?_
  rw [show (Y9).1 i ((3 : Nat) : Int) = (t.length : Int) from hcn1]
  refine wi_dup_x1 (pc' := 34) q351_33 rfl ?_
  refine wi_iconst (pc' := 35) q351_34 rfl ?_
  refine wi_iadd (pc' := 36) q351_35 rfl ?_
  refine wi_putI (ci := 10) (j := 3) (T := TJ4) (ty0 := tyJ4) (C := RJ4) (Nf := 4) (pc' := 39) q351_36 rfl rfl inJ4 tyJ4_ok nmJ4 (by decide) kx_1237 rfl rfl rfl (by omega) rfl hi1 hsi1 rfl ?_
  refine wi_iload_n (i := 1) (pc' := 40) q351_39 rfl rfl rfl ?_
  refine wi_i2b (pc' := 41) q351_40 rfl ?_
  rw [show ((v.bmod 256) : Int) = v from w_bm hv]
  refine wi_bast (pc' := 42) (i := j1) (n := m1) q351_41 rfl rfl hj1 hsj1 (by omega) (by omega) hv ?_
  refine wi_goto (t := 75) q351_42 (by decide) ?_
  refine wi_aload_n (i := 0) (pc' := 76) q351_75 rfl rfl rfl ?_
  refine wW_r (o := some (.ref (1000 + i))) ⟨q351_76, _, rfl, Or.inl ⟨_, rfl⟩⟩ rfl (by (try dsimp only); omega) (by (try dsimp only); omega) ?_
  exact ⟨rfl, rfl, rfl, SB_fin h1c (s := [v]) (by show t.length + 1 ≤ m1; omega) hjj hle1 hfr rfl rfl (by show zk (zk Y9.1 i _) j1 _ i 1 = 0; rw [zk_ne hij1, zk_eq, zp_ne (by decide)]; exact hco1) (by show zk (zk Y9.1 i _) j1 _ i 3 = _; rw [zk_ne hij1, zk_eq]; exact zp_eq _ _ _) (fun k a1 a2 => by show zk (zk Y9.1 i _) j1 _ k = _; rw [zk_ne a2, zk_ne a1]) (by show zk (zk Y9.1 i _) j1 (zp (zk Y9.1 i _ j1) _ _) j1 = _; rw [zk_eq, zk_ne (fun h => hij1 h.symm)]; exact w_one) (w_rng1 hv)⟩
theorem q350_0 : decode (zbc 350) 0 = .ok (.aload_n 0, 1) := by decide +kernel
theorem q350_1 : decode (zbc 350) 1 = .ok (.iload_n 1, 1) := by decide +kernel
theorem q350_2 : decode (zbc 350) 2 = .ok (.invokespecial 50, 3) := by decide +kernel
theorem kx_1275 : Cond.methodLink "java/lang/StringBuilder" 50 yJ5_append_3fe6f ∈ zTs := z_in (i := 1275) (by decide +kernel) (by decide +kernel)
theorem kx_1453 : Cond.sameMethod "java/lang/AbstractStringBuilder" "java/lang/AbstractStringBuilder" "append" "(C)Ljava/lang/AbstractStringBuilder;" ∈ zTs := z_in (i := 1453) (by decide +kernel) (by decide +kernel)
theorem kx_1276 : Cond.instanceMethod yJ5_append_3fe6f ∈ zTs := z_in (i := 1276) (by decide +kernel) (by decide +kernel)
theorem kx_1277 : Cond.code yJ5_append_3fe6f cJ5_append_3fe6f 2 (some (.object "java/lang/AbstractStringBuilder")) ∈ zTs := z_in (i := 1277) (by decide +kernel) (by decide +kernel)
theorem wk350_2 : wSC 350 2 351 2 (some "java/lang/StringBuilder") := wk_SU (ci := 10) (n' := 1) rfl q350_2 kx_1275 kx_1453 kx_1146 kx_1276 kx_55 kx_1277 ⟨by decide, by decide +kernel⟩ rfl ⟨Nat.le_of_ble_eq_true rfl, Nat.le_of_ble_eq_true rfl⟩
theorem q350_5 : decode (zbc 350) 5 = .ok (.pop, 1) := by decide +kernel
theorem q350_6 : decode (zbc 350) 6 = .ok (.aload_n 0, 1) := by decide +kernel
theorem q350_7 : decode (zbc 350) 7 = .ok (.areturn, 1) := by decide +kernel
theorem cJ_appC4 {u : WU} {G F : GM} {Y : DY} {i j m : Nat} {t : List Int} (h : SBx Y i j m t) {v : Int} (hv : 0 ≤ v ∧ v ≤ 127) (hb : t.length + 1 ≤ 400) : wC u 350 1 1000 [.ref (1000 + i), .int (zi v)] G F Y (fun o G' F' Y' => o = some (.ref (1000 + i)) ∧ G = G' ∧ F = F' ∧ SBp Y i j (t ++ [v]) 0 Y') := by
  refine w_met (L0 := [.ref (1000 + i), .int (zi v)]) (by decide +kernel) rfl rfl ?_
  refine wi_aload_n (i := 0) (pc' := 1) q350_0 rfl rfl rfl ?_
  refine wi_iload_n (i := 1) (pc' := 2) q350_1 rfl rfl rfl ?_
  refine wi_call (pc' := 5) wk350_2 rfl (cJ_appC5 h hv hb) rfl (Nat.le_of_ble_eq_true rfl) (Nat.le_of_ble_eq_true rfl) (by (try dsimp only); omega) (by (try dsimp only); omega) (wrv_sb h) ?_
  rintro o9 G9 F9 Y9 ⟨rfl, rfl, rfl, hq9⟩ hle9
  refine wi_popR (pc' := 6) q350_5 rfl ?_
  refine wi_aload_n (i := 0) (pc' := 7) q350_6 rfl rfl rfl ?_
  refine wW_r (o := some (.ref (1000 + i))) ⟨q350_7, _, rfl, Or.inl ⟨_, rfl⟩⟩ rfl (by (try dsimp only); omega) (by (try dsimp only); omega) ?_
  exact ⟨rfl, rfl, rfl, hq9⟩
theorem q368_0 : decode (zbc 368) 0 = .ok (.iconst 1, 1) := by decide +kernel
theorem q368_1 : decode (zbc 368) 1 = .ok (.istore_n 1, 1) := by decide +kernel
theorem q368_2 : decode (zbc 368) 2 = .ok (.iload_n 0, 1) := by decide +kernel
theorem q368_3 : decode (zbc 368) 3 = .ok (.ifCond .lt 8, 3) := by decide +kernel
theorem q368_6 : decode (zbc 368) 6 = .ok (.iconst 0, 1) := by decide +kernel
theorem q368_7 : decode (zbc 368) 7 = .ok (.istore_n 1, 1) := by decide +kernel
theorem q368_8 : decode (zbc 368) 8 = .ok (.iload_n 0, 1) := by decide +kernel
theorem q368_9 : decode (zbc 368) 9 = .ok (.ineg, 1) := by decide +kernel
theorem q368_10 : decode (zbc 368) 10 = .ok (.istore_n 0, 1) := by decide +kernel
theorem q368_11 : decode (zbc 368) 11 = .ok (.bipush (-10), 2) := by decide +kernel
theorem q368_13 : decode (zbc 368) 13 = .ok (.istore_n 2, 1) := by decide +kernel
theorem q368_14 : decode (zbc 368) 14 = .ok (.iconst 1, 1) := by decide +kernel
theorem q368_15 : decode (zbc 368) 15 = .ok (.istore_n 3, 1) := by decide +kernel
theorem q368_16 : decode (zbc 368) 16 = .ok (.iload_n 3, 1) := by decide +kernel
theorem q368_17 : decode (zbc 368) 17 = .ok (.bipush 10, 2) := by decide +kernel
theorem q368_19 : decode (zbc 368) 19 = .ok (.if_icmp .ge 23, 3) := by decide +kernel
theorem q368_22 : decode (zbc 368) 22 = .ok (.iload_n 0, 1) := by decide +kernel
theorem q368_23 : decode (zbc 368) 23 = .ok (.iload_n 2, 1) := by decide +kernel
theorem q368_24 : decode (zbc 368) 24 = .ok (.if_icmp .le 7, 3) := by decide +kernel
theorem q368_31 : decode (zbc 368) 31 = .ok (.bipush 10, 2) := by decide +kernel
theorem q368_33 : decode (zbc 368) 33 = .ok (.iload_n 2, 1) := by decide +kernel
theorem q368_34 : decode (zbc 368) 34 = .ok (.imul, 1) := by decide +kernel
theorem q368_35 : decode (zbc 368) 35 = .ok (.istore_n 2, 1) := by decide +kernel
theorem q368_36 : decode (zbc 368) 36 = .ok (.iinc 3 1, 3) := by decide +kernel
theorem q368_39 : decode (zbc 368) 39 = .ok (.goto (-23), 3) := by decide +kernel
theorem q368_27 : decode (zbc 368) 27 = .ok (.iload_n 3, 1) := by decide +kernel
theorem q368_28 : decode (zbc 368) 28 = .ok (.iload_n 1, 1) := by decide +kernel
theorem q368_29 : decode (zbc 368) 29 = .ok (.iadd, 1) := by decide +kernel
theorem q368_30 : decode (zbc 368) 30 = .ok (.ireturn, 1) := by decide +kernel
theorem cJ_size {u : WU} {G F : GM} {Y : DY} {v : Int} (hv : 0 ≤ v ∧ v < 100) : wC u 368 0 0 [.int (zi v)] G F Y (wPu G F Y (some (.int (zi (wSz v))))) := by
  refine w_met (L0 := [.int (zi v), .null, .null, .null]) (by decide +kernel) rfl rfl ?_
  refine wi_iconst (pc' := 1) q368_0 rfl ?_
  refine wi_istore1 (pc' := 2) q368_1 rfl rfl rfl (Or.inr rfl) ?_
  refine wi_iload_n (i := 0) (pc' := 3) q368_2 rfl rfl rfl ?_
  refine wi_if_lt (t := 11) (pc' := 6) q368_3 (by decide) rfl (by omega) (fun h1 => absurd h1 (by omega)) (fun h1 => ?_)
  refine wi_iconst (pc' := 7) q368_6 rfl ?_
  refine wi_istore1 (pc' := 8) q368_7 rfl rfl rfl (Or.inr rfl) ?_
  refine wi_iload_n (i := 0) (pc' := 9) q368_8 rfl rfl rfl ?_
  refine wi_ineg (pc' := 10) q368_9 rfl ?_
  refine wi_istore0 (pc' := 11) q368_10 rfl rfl rfl (Or.inl rfl) ?_
  refine wi_bipush (pc' := 13) q368_11 rfl (by decide) ?_
  refine wi_istore2 (pc' := 14) q368_13 rfl rfl rfl (Or.inr rfl) ?_
  refine wi_iconst (pc' := 15) q368_14 rfl ?_
  refine wi_istore3 (pc' := 16) q368_15 rfl rfl rfl (Or.inr rfl) ?_
  refine wi_iload_n (i := 3) (pc' := 17) q368_16 rfl rfl rfl ?_
  refine wi_bipush (pc' := 19) q368_17 rfl (by decide) ?_
  refine wi_icmp_ge (t := 42) (pc' := 22) q368_19 (by decide) rfl (by omega) (by omega) (fun h2 => absurd h2 (by omega)) (fun h2 => ?_)
  refine wi_iload_n (i := 0) (pc' := 23) q368_22 rfl rfl rfl ?_
  refine wi_iload_n (i := 2) (pc' := 24) q368_23 rfl rfl rfl ?_
  refine wi_icmp_le (t := 31) (pc' := 27) q368_24 (by decide) rfl (by omega) (by omega) ?_ ?_
  · intro h9
    refine wi_bipush (pc' := 33) q368_31 rfl (by decide) ?_
    refine wi_iload_n (i := 2) (pc' := 34) q368_33 rfl rfl rfl ?_
    refine wi_imul (pc' := 35) q368_34 rfl ?_
    refine wi_istore2 (pc' := 36) q368_35 rfl rfl rfl (Or.inr rfl) ?_
    refine wi_iinc3 (pc' := 39) q368_36 rfl rfl (Or.inr rfl) ?_
    refine wi_goto (t := 16) q368_39 (by decide) ?_
    refine wi_iload_n (i := 3) (pc' := 17) q368_16 rfl rfl rfl ?_
    refine wi_bipush (pc' := 19) q368_17 rfl (by decide) ?_
    refine wi_icmp_ge (t := 42) (pc' := 22) q368_19 (by decide) rfl (by omega) (by omega) (fun h3 => absurd h3 (by omega)) (fun h3 => ?_)
    refine wi_iload_n (i := 0) (pc' := 23) q368_22 rfl rfl rfl ?_
    refine wi_iload_n (i := 2) (pc' := 24) q368_23 rfl rfl rfl ?_
    refine wi_icmp_le (t := 31) (pc' := 27) q368_24 (by decide) rfl (by omega) (by omega) (fun h8 => absurd h8 (by omega)) (fun _ => ?_)
    refine wi_iload_n (i := 3) (pc' := 28) q368_27 rfl rfl rfl ?_
    refine wi_iload_n (i := 1) (pc' := 29) q368_28 rfl rfl rfl ?_
    refine wi_iadd (pc' := 30) q368_29 rfl ?_
    rw [show (((1 + 1) + 0) : Int) = (wSz v) from (if_neg (by omega)).symm]
    refine wW_r (o := some (.int (zi (wSz v)))) ⟨q368_30, _, rfl, rfl⟩ rfl (by (try dsimp only); omega) (by (try dsimp only); omega) ?_
    exact ⟨rfl, rfl, rfl, rfl⟩
  · intro h9
    refine wi_iload_n (i := 3) (pc' := 28) q368_27 rfl rfl rfl ?_
    refine wi_iload_n (i := 1) (pc' := 29) q368_28 rfl rfl rfl ?_
    refine wi_iadd (pc' := 30) q368_29 rfl ?_
    rw [show ((1 + 0) : Int) = (wSz v) from (if_pos (by omega)).symm]
    refine wW_r (o := some (.int (zi (wSz v)))) ⟨q368_30, _, rfl, rfl⟩ rfl (by (try dsimp only); omega) (by (try dsimp only); omega) ?_
    exact ⟨rfl, rfl, rfl, rfl⟩
theorem w_row_row {Y : DY} {i : Nat} {E E' : Int → Int} : w_row (w_row Y i E) i E' = w_row Y i E' := by
  unfold w_row
  congr 1
  funext k
  by_cases hk : k = i
  · rw [hk, zk_eq, zk_eq]
  · rw [zk_ne hk, zk_ne hk]
    exact zk_ne hk
theorem w_row_at {Y : DY} {i : Nat} {E : Int → Int} : (w_row Y i E).1 i = E := zk_eq _ _ _
theorem q369_0 : decode (zbc 369) 0 = .ok (.iload_n 1, 1) := by decide +kernel
theorem q369_1 : decode (zbc 369) 1 = .ok (.istore 5, 2) := by decide +kernel
theorem q369_3 : decode (zbc 369) 3 = .ok (.iload_n 0, 1) := by decide +kernel
theorem q369_4 : decode (zbc 369) 4 = .ok (.ifCond .ge 7, 3) := by decide +kernel
theorem q369_11 : decode (zbc 369) 11 = .ok (.iconst 0, 1) := by decide +kernel
theorem q369_12 : decode (zbc 369) 12 = .ok (.istore 6, 2) := by decide +kernel
theorem q369_14 : decode (zbc 369) 14 = .ok (.iload 6, 2) := by decide +kernel
theorem q369_16 : decode (zbc 369) 16 = .ok (.ifCond .ne 6, 3) := by decide +kernel
theorem q369_19 : decode (zbc 369) 19 = .ok (.iload_n 0, 1) := by decide +kernel
theorem q369_20 : decode (zbc 369) 20 = .ok (.ineg, 1) := by decide +kernel
theorem q369_21 : decode (zbc 369) 21 = .ok (.istore_n 0, 1) := by decide +kernel
theorem q369_22 : decode (zbc 369) 22 = .ok (.iload_n 0, 1) := by decide +kernel
theorem q369_23 : decode (zbc 369) 23 = .ok (.bipush (-100), 2) := by decide +kernel
theorem q369_25 : decode (zbc 369) 25 = .ok (.if_icmp .gt 47, 3) := by decide +kernel
theorem q369_72 : decode (zbc 369) 72 = .ok (.aload_n 2, 1) := by decide +kernel
theorem q369_73 : decode (zbc 369) 73 = .ok (.iinc 5 (-1), 3) := by decide +kernel
theorem q369_76 : decode (zbc 369) 76 = .ok (.iload 5, 2) := by decide +kernel
theorem q369_78 : decode (zbc 369) 78 = .ok (.getstatic 83, 3) := by decide +kernel
theorem kx_1259 : Cond.fieldLink "java/lang/Integer" 83 "java/lang/Integer" "DigitOnes" "[B" ∈ zTs := z_in (i := 1259) (by decide +kernel) (by decide +kernel)
theorem q369_81 : decode (zbc 369) 81 = .ok (.iload_n 0, 1) := by decide +kernel
theorem q369_82 : decode (zbc 369) 82 = .ok (.ineg, 1) := by decide +kernel
theorem q369_83 : decode (zbc 369) 83 = .ok (.baload, 1) := by decide +kernel
theorem q369_84 : decode (zbc 369) 84 = .ok (.bastore, 1) := by decide +kernel
theorem q369_85 : decode (zbc 369) 85 = .ok (.iload_n 0, 1) := by decide +kernel
theorem q369_86 : decode (zbc 369) 86 = .ok (.bipush (-9), 2) := by decide +kernel
theorem q369_88 : decode (zbc 369) 88 = .ok (.if_icmp .ge 16, 3) := by decide +kernel
theorem q369_104 : decode (zbc 369) 104 = .ok (.iload 6, 2) := by decide +kernel
theorem q369_106 : decode (zbc 369) 106 = .ok (.ifCond .eq 12, 3) := by decide +kernel
theorem q369_118 : decode (zbc 369) 118 = .ok (.iload 5, 2) := by decide +kernel
theorem q369_120 : decode (zbc 369) 120 = .ok (.ireturn, 1) := by decide +kernel
theorem q369_91 : decode (zbc 369) 91 = .ok (.aload_n 2, 1) := by decide +kernel
theorem q369_92 : decode (zbc 369) 92 = .ok (.iinc 5 (-1), 3) := by decide +kernel
theorem q369_95 : decode (zbc 369) 95 = .ok (.iload 5, 2) := by decide +kernel
theorem q369_97 : decode (zbc 369) 97 = .ok (.getstatic 87, 3) := by decide +kernel
theorem kx_1261 : Cond.fieldLink "java/lang/Integer" 87 "java/lang/Integer" "DigitTens" "[B" ∈ zTs := z_in (i := 1261) (by decide +kernel) (by decide +kernel)
theorem q369_100 : decode (zbc 369) 100 = .ok (.iload_n 0, 1) := by decide +kernel
theorem q369_101 : decode (zbc 369) 101 = .ok (.ineg, 1) := by decide +kernel
theorem q369_102 : decode (zbc 369) 102 = .ok (.baload, 1) := by decide +kernel
theorem q369_103 : decode (zbc 369) 103 = .ok (.bastore, 1) := by decide +kernel
theorem cJ_chars {u : WU} {G F : GM} {Y : DY} {j m : Nat} (hj : j < Y.2.2) (hsj : Y.2.1 j = (2, m, [])) (hm : m ≤ 1000) {v e : Int} (hv : 0 ≤ v ∧ v < 100) (he : wSz v ≤ e ∧ e ≤ m) : wC u 369 0 0 [.int (zi v), .int (zi e), .ref (1000 + j)] G F Y (fun o G' F' Y' => o = some (.int (zi (e - wSz v))) ∧ G = G' ∧ F = F' ∧ Y' = w_row Y j (w_cpy (wTf (wDig v)) (Y.1 j) 0 (e - wSz v) (wSz v))) := by
  refine w_met (L0 := [.int (zi v), .int (zi e), .ref (1000 + j), .null, .null, .null, .null]) (by decide +kernel) rfl rfl ?_
  have hsz : wSz v = 1 ∧ v < 10 ∨ wSz v = 2 ∧ 10 ≤ v := by unfold wSz; split <;> omega
  refine wi_iload_n (i := 1) (pc' := 1) q369_0 rfl rfl rfl ?_
  refine wi_istore5 (pc' := 3) q369_1 rfl rfl (Or.inr rfl) ?_
  refine wi_iload_n (i := 0) (pc' := 4) q369_3 rfl rfl rfl ?_
  refine wi_if_ge (t := 11) (pc' := 7) q369_4 (by decide) rfl (by omega) (fun h1 => ?_) (fun h1 => absurd h1 (by omega))
  refine wi_iconst (pc' := 12) q369_11 rfl ?_
  refine wi_istore6 (pc' := 14) q369_12 rfl rfl (Or.inr rfl) ?_
  refine wi_iload (i := 6) (pc' := 16) q369_14 rfl rfl ?_
  refine wi_if_ne (t := 22) (pc' := 19) q369_16 (by decide) rfl (by omega) (fun h2 => absurd h2 (by omega)) (fun h2 => ?_)
  refine wi_iload_n (i := 0) (pc' := 20) q369_19 rfl rfl rfl ?_
  refine wi_ineg (pc' := 21) q369_20 rfl ?_
  refine wi_istore0 (pc' := 22) q369_21 rfl rfl rfl (Or.inl rfl) ?_
  refine wi_iload_n (i := 0) (pc' := 23) q369_22 rfl rfl rfl ?_
  refine wi_bipush (pc' := 25) q369_23 rfl (by decide) ?_
  refine wi_icmp_gt (t := 72) (pc' := 28) q369_25 (by decide) rfl (by omega) (by omega) (fun h3 => ?_) (fun h3 => absurd h3 (by omega))
  refine wi_aload_n (i := 2) (pc' := 73) q369_72 rfl rfl rfl ?_
  refine wi_iinc5 (pc' := 76) q369_73 rfl rfl (Or.inr rfl) ?_
  refine wi_iload (i := 5) (pc' := 78) q369_76 rfl rfl ?_
  refine wi_gs1 (pc' := 81) q369_78 rfl kx_1259 ?_
  refine wi_iload_n (i := 0) (pc' := 82) q369_81 rfl rfl rfl ?_
  refine wi_ineg (pc' := 83) q369_82 rfl ?_
  rw [show ((-(-v)) : Int) = v from by omega]
  refine wi_dig1 (pc' := 84) q369_83 rfl (by omega) ?_
  refine wi_bast (pc' := 85) (i := j) (n := m) q369_84 rfl rfl hj hsj (by omega) (by omega) (by omega) ?_
  refine wi_iload_n (i := 0) (pc' := 86) q369_85 rfl rfl rfl ?_
  refine wi_bipush (pc' := 88) q369_86 rfl (by decide) ?_
  refine wi_icmp_ge (t := 104) (pc' := 91) q369_88 (by decide) rfl (by omega) (by omega) ?_ ?_
  · intro h9
    refine wi_iload (i := 6) (pc' := 106) q369_104 rfl rfl ?_
    refine wi_if_eq (t := 118) (pc' := 109) q369_106 (by decide) rfl (by omega) (fun h4 => ?_) (fun h4 => absurd h4 (by omega))
    refine wi_iload (i := 5) (pc' := 120) q369_118 rfl rfl ?_
    rw [show ((e + (-1)) : Int) = (e - wSz v) from by rw [show wSz v = 1 from if_pos (by omega)]; omega]
    refine wW_r (o := some (.int (zi (e - wSz v)))) ⟨q369_120, _, rfl, rfl⟩ rfl (by (try dsimp only); omega) (by (try dsimp only); omega) ?_
    exact ⟨rfl, rfl, rfl, by rw [← w_dig1 ⟨hv.1, by omega⟩, show e - wSz v = e + (-1) by omega]⟩
  · intro h9
    refine wi_aload_n (i := 2) (pc' := 92) q369_91 rfl rfl rfl ?_
    refine wi_iinc5 (pc' := 95) q369_92 rfl rfl (Or.inr rfl) ?_
    refine wi_iload (i := 5) (pc' := 97) q369_95 rfl rfl ?_
    refine wi_gs2 (pc' := 100) q369_97 rfl kx_1261 ?_
    refine wi_iload_n (i := 0) (pc' := 101) q369_100 rfl rfl rfl ?_
    refine wi_ineg (pc' := 102) q369_101 rfl ?_
    rw [show ((-(-v)) : Int) = v from by omega]
    refine wi_dig2 (pc' := 103) q369_102 rfl (by omega) ?_
    refine wi_bast (pc' := 104) (i := j) (n := m) q369_103 rfl rfl hj hsj (by omega) (by omega) (by omega) ?_
    refine wi_iload (i := 6) (pc' := 106) q369_104 rfl rfl ?_
    refine wi_if_eq (t := 118) (pc' := 109) q369_106 (by decide) rfl (by omega) (fun h5 => ?_) (fun h5 => absurd h5 (by omega))
    refine wi_iload (i := 5) (pc' := 120) q369_118 rfl rfl ?_
    rw [show (((e + (-1)) + (-1)) : Int) = (e - wSz v) from by rw [show wSz v = 2 from if_neg (by omega)]; omega]
    refine wW_r (o := some (.int (zi (e - wSz v)))) ⟨q369_120, _, rfl, rfl⟩ rfl (by (try dsimp only); omega) (by (try dsimp only); omega) ?_
    exact ⟨rfl, rfl, rfl, by rw [w_row_row, ← w_dig2 ⟨by omega, hv.2⟩, w_row_at, show e - wSz v = e + (-1) + (-1) by omega]⟩
theorem q353_0 : decode (zbc 353) 0 = .ok (.aload_n 0, 1) := by decide +kernel
theorem q353_1 : decode (zbc 353) 1 = .ok (.getfield 79, 3) := by decide +kernel
theorem q353_4 : decode (zbc 353) 4 = .ok (.istore_n 2, 1) := by decide +kernel
theorem q353_5 : decode (zbc 353) 5 = .ok (.iload_n 2, 1) := by decide +kernel
theorem q353_6 : decode (zbc 353) 6 = .ok (.iload_n 1, 1) := by decide +kernel
theorem q353_7 : decode (zbc 353) 7 = .ok (.invokestatic 245, 3) := by decide +kernel
theorem kx_1253 : Cond.methodLink "java/lang/AbstractStringBuilder" 245 yJ6_stringSize_0f7a4 ∈ zTs := z_in (i := 1253) (by decide +kernel) (by decide +kernel)
theorem kx_1254 : Cond.static yJ6_stringSize_0f7a4 ∈ zTs := z_in (i := 1254) (by decide +kernel) (by decide +kernel)
theorem kx_59 : Cond.initialized "java/lang/Integer" ∈ zTs := z_in (i := 59) (by decide +kernel) (by decide +kernel)
theorem kx_1255 : Cond.code yJ6_stringSize_0f7a4 cJ6_stringSize_0f7a4 4 (some .int) ∈ zTs := z_in (i := 1255) (by decide +kernel) (by decide +kernel)
theorem wk353_7 : wSC 353 7 368 1 none := wk_S q353_7 kx_1253 kx_1254 kx_59 kx_1255 ⟨by decide, by decide, by decide +kernel⟩ ⟨Nat.le_of_ble_eq_true rfl, Nat.le_of_ble_eq_true rfl⟩
theorem q353_10 : decode (zbc 353) 10 = .ok (.iadd, 1) := by decide +kernel
theorem q353_11 : decode (zbc 353) 11 = .ok (.istore_n 3, 1) := by decide +kernel
theorem q353_12 : decode (zbc 353) 12 = .ok (.aload_n 0, 1) := by decide +kernel
theorem q353_13 : decode (zbc 353) 13 = .ok (.iload_n 3, 1) := by decide +kernel
theorem q353_14 : decode (zbc 353) 14 = .ok (.invokevirtual 100, 3) := by decide +kernel
theorem wk353_14 : wSC 353 14 357 2 (some "java/lang/StringBuilder") := wk_P (n' := 1) q353_14 kx_1152 kx_1447 kx_1154 (by show yJ5_ensureCapacityInternal_d00df ∈ wPv; simp [wPv]) kx_55 kx_1155 ⟨by decide, by decide, by decide +kernel⟩ rfl ⟨Nat.le_of_ble_eq_true rfl, Nat.le_of_ble_eq_true rfl⟩
theorem q353_17 : decode (zbc 353) 17 = .ok (.aload_n 0, 1) := by decide +kernel
theorem q353_18 : decode (zbc 353) 18 = .ok (.invokevirtual 83, 3) := by decide +kernel
theorem wk353_18 : wSC 353 18 365 1 (some "java/lang/StringBuilder") := wk_U (n' := 0) q353_18 kx_1180 kx_1182 kx_1181 kx_1183 kx_55 kx_1184 ⟨by decide, by decide, by decide +kernel⟩ rfl ⟨Nat.le_of_ble_eq_true rfl, Nat.le_of_ble_eq_true rfl⟩
theorem q353_21 : decode (zbc 353) 21 = .ok (.ifCond .eq 16, 3) := by decide +kernel
theorem q353_24 : decode (zbc 353) 24 = .ok (.iload_n 1, 1) := by decide +kernel
theorem q353_25 : decode (zbc 353) 25 = .ok (.iload_n 3, 1) := by decide +kernel
theorem q353_26 : decode (zbc 353) 26 = .ok (.aload_n 0, 1) := by decide +kernel
theorem q353_27 : decode (zbc 353) 27 = .ok (.getfield 15, 3) := by decide +kernel
theorem q353_30 : decode (zbc 353) 30 = .ok (.invokestatic 248, 3) := by decide +kernel
theorem kx_1256 : Cond.methodLink "java/lang/AbstractStringBuilder" 248 yJ6_getChars_ba4f3 ∈ zTs := z_in (i := 1256) (by decide +kernel) (by decide +kernel)
theorem kx_1257 : Cond.static yJ6_getChars_ba4f3 ∈ zTs := z_in (i := 1257) (by decide +kernel) (by decide +kernel)
theorem kx_1258 : Cond.code yJ6_getChars_ba4f3 cJ6_getChars_ba4f3 7 (some .int) ∈ zTs := z_in (i := 1258) (by decide +kernel) (by decide +kernel)
theorem wk353_30 : wSC 353 30 369 3 none := wk_S q353_30 kx_1256 kx_1257 kx_59 kx_1258 ⟨by decide, by decide, by decide +kernel⟩ ⟨Nat.le_of_ble_eq_true rfl, Nat.le_of_ble_eq_true rfl⟩
theorem q353_33 : decode (zbc 353) 33 = .ok (.pop, 1) := by decide +kernel
theorem q353_34 : decode (zbc 353) 34 = .ok (.goto 14, 3) := by decide +kernel
theorem q353_48 : decode (zbc 353) 48 = .ok (.aload_n 0, 1) := by decide +kernel
theorem q353_49 : decode (zbc 353) 49 = .ok (.iload_n 3, 1) := by decide +kernel
theorem q353_50 : decode (zbc 353) 50 = .ok (.putfield 79, 3) := by decide +kernel
theorem q353_53 : decode (zbc 353) 53 = .ok (.aload_n 0, 1) := by decide +kernel
theorem q353_54 : decode (zbc 353) 54 = .ok (.areturn, 1) := by decide +kernel
theorem cJ_appN5 {u : WU} {G F : GM} {Y : DY} {i j m : Nat} {t : List Int} (h : SBx Y i j m t) {v : Int} (hv : 0 ≤ v ∧ v < 100) (hb : t.length + 2 ≤ 400) : wC u 353 1 1000 [.ref (1000 + i), .int (zi v)] G F Y (fun o G' F' Y' => o = some (.ref (1000 + i)) ∧ G = G' ∧ F = F' ∧ SBp Y i j (t ++ wDig v) 0 Y') := by
  refine w_met (L0 := [.ref (1000 + i), .int (zi v), .null, .null]) (by decide +kernel) rfl rfl ?_
  have h0 := h
  obtain ⟨hi, hj, hij, hsi, hsj, hco, hcn, htm, hm, hby, hch⟩ := h
  have hsz : wSz v = 1 ∧ v < 10 ∨ wSz v = 2 ∧ 10 ≤ v := by unfold wSz; split <;> omega
  refine wi_aload_n (i := 0) (pc' := 1) q353_0 rfl rfl rfl ?_
  refine wi_getI (ci := 10) (j := 3) (C := RJ4) (T := TJ4) (Nf := 4) (pc' := 4) q353_1 rfl rfl inJ4 (by decide) kx_1237 rfl hi hsi rfl ?_
  rw [show (Y).1 i ((3 : Nat) : Int) = (t.length : Int) from hcn]
  refine wi_istore2 (pc' := 5) q353_4 rfl rfl rfl (Or.inr rfl) ?_
  refine wi_iload_n (i := 2) (pc' := 6) q353_5 rfl rfl rfl ?_
  refine wi_iload_n (i := 1) (pc' := 7) q353_6 rfl rfl rfl ?_
  refine wi_call (pc' := 10) wk353_7 rfl (cJ_size hv) rfl (Nat.le_of_ble_eq_true rfl) (Nat.le_of_ble_eq_true rfl) (by (try dsimp only); omega) (by (try dsimp only); omega) (wrv_n) ?_
  rintro o9 G9 F9 Y9 ⟨rfl, rfl, rfl, rfl⟩ hle9
  refine wi_iadd (pc' := 11) q353_10 rfl ?_
  refine wi_istore3 (pc' := 12) q353_11 rfl rfl rfl (Or.inr rfl) ?_
  refine wi_aload_n (i := 0) (pc' := 13) q353_12 rfl rfl rfl ?_
  refine wi_iload_n (i := 3) (pc' := 14) q353_13 rfl rfl rfl ?_
  refine wi_call (pc' := 17) wk353_14 rfl (cJ_ensure h0 (q := (t.length : Int) + wSz v) (by omega)) rfl (Nat.le_of_ble_eq_true rfl) (Nat.le_of_ble_eq_true rfl) (by (try dsimp only); omega) (by (try dsimp only); omega) (wrv_sb h0) ?_
  rintro o9 G9 F9 Y9 ⟨rfl, rfl, rfl, j1, m1, h1, hcap, hjj, hle1, hfr⟩ hle9
  have h1c := h1
  obtain ⟨hi1, hj1, hij1, hsi1, hsj1, hco1, hcn1, htm1, hm1, hby1, hch1⟩ := h1
  refine wi_aload_n (i := 0) (pc' := 18) q353_17 rfl rfl rfl ?_
  refine wi_call (pc' := 21) wk353_18 rfl (cJ_isLat h1c) rfl (Nat.le_of_ble_eq_true rfl) (Nat.le_of_ble_eq_true rfl) (by (try dsimp only); omega) (by (try dsimp only); omega) (wrv_sb h1c) ?_
  rintro o9 G9 F9 Y9 ⟨rfl, rfl, rfl, rfl⟩ hle9
  refine wi_if_eq (t := 37) (pc' := 24) q353_21 (by decide) rfl (by omega) (fun h1 => absurd h1 (by omega)) (fun h1 => ?_)
  refine wi_iload_n (i := 1) (pc' := 25) q353_24 rfl rfl rfl ?_
  refine wi_iload_n (i := 3) (pc' := 26) q353_25 rfl rfl rfl ?_
  refine wi_aload_n (i := 0) (pc' := 27) q353_26 rfl rfl rfl ?_
  refine wi_getR (ci := 10) (j := 0) (C := RJ4) (T := TJ4) (Nf := 4) (pc' := 30) q353_27 rfl rfl inJ4 (by decide) kx_1234 rfl hi1 hsi1 rfl ?_
  refine wi_call (pc' := 33) wk353_30 rfl (cJ_chars hj1 hsj1 hm1 hv (e := (t.length : Int) + wSz v) (by omega)) rfl (Nat.le_of_ble_eq_true rfl) (Nat.le_of_ble_eq_true rfl) (by (try dsimp only); omega) (by (try dsimp only); omega) wrv_n ?_
  rintro o9 G9 F9 Y8 ⟨rfl, rfl, rfl, hY⟩ hle8
  rw [show (t.length : Int) + wSz v - wSz v = (t.length : Int) by omega, ← wDig_len] at hY
  have g1 : Y8.2.2 = Y9.2.2 := by rw [hY]; rfl
  have g2 : Y8.2.1 = Y9.2.1 := by rw [hY]; rfl
  have g3 : Y8.1 i = Y9.1 i := by rw [hY]; exact zk_ne hij1
  have g4 : Y8.1 j1 = w_cpy (wTf (wDig v)) (Y9.1 j1) 0 (t.length : Int) ((wDig v).length : Int) := by rw [hY]; exact zk_eq _ _ _
  have g5 : ∀ k, k ≠ j1 → Y8.1 k = Y9.1 k := fun k hk => by rw [hY]; exact zk_ne hk
  refine wi_popI (pc' := 34) q353_33 rfl ?_
  refine wi_goto (t := 48) q353_34 (by decide) ?_
  refine wi_aload_n (i := 0) (pc' := 49) q353_48 rfl rfl rfl ?_
  refine wi_iload_n (i := 3) (pc' := 50) q353_49 rfl rfl rfl ?_
  refine wi_putI (ci := 10) (j := 3) (T := TJ4) (ty0 := tyJ4) (C := RJ4) (Nf := 4) (pc' := 53) q353_50 rfl rfl inJ4 tyJ4_ok nmJ4 (by decide) kx_1237 rfl rfl rfl (by omega) rfl (by rw [g1]; exact hi1) (by rw [g2]; exact hsi1) rfl ?_
  refine wi_aload_n (i := 0) (pc' := 54) q353_53 rfl rfl rfl ?_
  refine wW_r (o := some (.ref (1000 + i))) ⟨q353_54, _, rfl, Or.inl ⟨_, rfl⟩⟩ rfl (by (try dsimp only); omega) (by (try dsimp only); omega) ?_
  exact ⟨rfl, rfl, rfl, SB_fin h1c (s := wDig v) (by have := wDig_len (v := v); omega) hjj hle1 hfr g1 g2 (by show zk Y8.1 i _ i 1 = 0; rw [zk_eq, zp_ne (by decide), g3]; exact hco1) (by show zk Y8.1 i _ i 3 = _; rw [zk_eq, wDig_len]; exact zp_eq _ _ _) (fun k a1 a2 => by show zk Y8.1 i _ k = _; rw [zk_ne a1]; exact g5 k a2) (by show zk Y8.1 i _ j1 = _; rw [zk_ne (fun h => hij1 h.symm)]; exact g4) (wDig_rng hv)⟩
theorem q352_0 : decode (zbc 352) 0 = .ok (.aload_n 0, 1) := by decide +kernel
theorem q352_1 : decode (zbc 352) 1 = .ok (.iload_n 1, 1) := by decide +kernel
theorem q352_2 : decode (zbc 352) 2 = .ok (.invokespecial 53, 3) := by decide +kernel
theorem kx_1250 : Cond.methodLink "java/lang/StringBuilder" 53 yJ5_append_c97b9 ∈ zTs := z_in (i := 1250) (by decide +kernel) (by decide +kernel)
theorem kx_1452 : Cond.sameMethod "java/lang/AbstractStringBuilder" "java/lang/AbstractStringBuilder" "append" "(I)Ljava/lang/AbstractStringBuilder;" ∈ zTs := z_in (i := 1452) (by decide +kernel) (by decide +kernel)
theorem kx_1251 : Cond.instanceMethod yJ5_append_c97b9 ∈ zTs := z_in (i := 1251) (by decide +kernel) (by decide +kernel)
theorem kx_1252 : Cond.code yJ5_append_c97b9 cJ5_append_c97b9 4 (some (.object "java/lang/AbstractStringBuilder")) ∈ zTs := z_in (i := 1252) (by decide +kernel) (by decide +kernel)
theorem wk352_2 : wSC 352 2 353 2 (some "java/lang/StringBuilder") := wk_SU (ci := 10) (n' := 1) rfl q352_2 kx_1250 kx_1452 kx_1146 kx_1251 kx_55 kx_1252 ⟨by decide, by decide +kernel⟩ rfl ⟨Nat.le_of_ble_eq_true rfl, Nat.le_of_ble_eq_true rfl⟩
theorem q352_5 : decode (zbc 352) 5 = .ok (.pop, 1) := by decide +kernel
theorem q352_6 : decode (zbc 352) 6 = .ok (.aload_n 0, 1) := by decide +kernel
theorem q352_7 : decode (zbc 352) 7 = .ok (.areturn, 1) := by decide +kernel
theorem cJ_appN4 {u : WU} {G F : GM} {Y : DY} {i j m : Nat} {t : List Int} (h : SBx Y i j m t) {v : Int} (hv : 0 ≤ v ∧ v < 100) (hb : t.length + 2 ≤ 400) : wC u 352 1 1000 [.ref (1000 + i), .int (zi v)] G F Y (fun o G' F' Y' => o = some (.ref (1000 + i)) ∧ G = G' ∧ F = F' ∧ SBp Y i j (t ++ wDig v) 0 Y') := by
  refine w_met (L0 := [.ref (1000 + i), .int (zi v)]) (by decide +kernel) rfl rfl ?_
  refine wi_aload_n (i := 0) (pc' := 1) q352_0 rfl rfl rfl ?_
  refine wi_iload_n (i := 1) (pc' := 2) q352_1 rfl rfl rfl ?_
  refine wi_call (pc' := 5) wk352_2 rfl (cJ_appN5 h hv hb) rfl (Nat.le_of_ble_eq_true rfl) (Nat.le_of_ble_eq_true rfl) (by (try dsimp only); omega) (by (try dsimp only); omega) (wrv_sb h) ?_
  rintro o9 G9 F9 Y9 ⟨rfl, rfl, rfl, hq9⟩ hle9
  refine wi_popR (pc' := 6) q352_5 rfl ?_
  refine wi_aload_n (i := 0) (pc' := 7) q352_6 rfl rfl rfl ?_
  refine wW_r (o := some (.ref (1000 + i))) ⟨q352_7, _, rfl, Or.inl ⟨_, rfl⟩⟩ rfl (by (try dsimp only); omega) (by (try dsimp only); omega) ?_
  exact ⟨rfl, rfl, rfl, hq9⟩
