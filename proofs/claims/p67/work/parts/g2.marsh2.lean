/-! The law's marsh(w, v): fogs and lights. -/
theorem zand_7 (y : Int) : zand y 7 = y % 8 := by
  show (zi y &&& zi 7).toInt = y % 8
  rw [show zi 7 = 7 from rfl]
  have e1 : (zi y &&& 7).toBitVec.toNat = (zi y).toBitVec.toNat % 8 := by
    rw [Int32.toBitVec_and, BitVec.toNat_and]
    exact Nat.and_two_pow_sub_one_eq_mod _ 3
  have e2 : (zi y).toBitVec.toNat = (y % 4294967296).toNat := by
    show (BitVec.ofInt 32 y).toNat = _
    rw [BitVec.toNat_ofInt]
    rfl
  show (zi y &&& 7).toBitVec.toInt = y % 8
  rw [BitVec.toInt_eq_toNat_of_lt (by omega), e1, e2]
  omega
theorem pCell_n1 {c : Int} (h : c = 102 ∨ c = 119 ∨ c = 104 ∨ c = 112) (hn : c ≠ 119) : pCell c ≠ 1 := by
  rcases h with rfl | rfl | rfl | rfl
  · decide
  · exact absurd rfl hn
  · decide
  · decide
theorem pCell_fp {c : Int} (h : c = 102 ∨ c = 112) : pCell c ≠ 1 ∧ pCell c ≠ 2 := by
  rcases h with rfl | rfl
  · exact ⟨by decide, by decide⟩
  · exact ⟨by decide, by decide⟩
theorem kT67 (i : Int) : (i = 0 → kT 6 = [32] ++ tTF i) ∧ (i = 1 → kT 7 = [32] ++ tTF i) := ⟨fun h => by subst h; decide, fun h => by subst h; decide⟩
theorem q338_177 : decode (zbc 338) 177 = .ok (.iload 7, 2) := by decide +kernel
theorem q338_179 : decode (zbc 338) 179 = .ok (.iload_n 0, 1) := by decide +kernel
theorem q338_180 : decode (zbc 338) 180 = .ok (.bipush 9, 2) := by decide +kernel
theorem q338_182 : decode (zbc 338) 182 = .ok (.ishr, 1) := by decide +kernel
theorem q338_183 : decode (zbc 338) 183 = .ok (.iconst 3, 1) := by decide +kernel
theorem q338_184 : decode (zbc 338) 184 = .ok (.iand, 1) := by decide +kernel
theorem q338_185 : decode (zbc 338) 185 = .ok (.if_icmp .ge 46, 3) := by decide +kernel
theorem q338_188 : decode (zbc 338) 188 = .ok (.aload 4, 2) := by decide +kernel
theorem q338_190 : decode (zbc 338) 190 = .ok (.ldc 213, 2) := by decide +kernel
theorem q338_192 : decode (zbc 338) 192 = .ok (.invokevirtual 203, 3) := by decide +kernel
theorem wk338_192 : wSC 338 192 348 2 (some "java/lang/StringBuilder") := wk_V (n' := 1) q338_192 kx_1285 kx_1142 kx_1143 kx_56 kx_1144 ⟨by decide, by decide, by decide +kernel⟩ rfl ⟨Nat.le_of_ble_eq_true rfl, Nat.le_of_ble_eq_true rfl⟩
theorem q338_195 : decode (zbc 338) 195 = .ok (.iconst 5, 1) := by decide +kernel
theorem q338_196 : decode (zbc 338) 196 = .ok (.iload 7, 2) := by decide +kernel
theorem q338_198 : decode (zbc 338) 198 = .ok (.imul, 1) := by decide +kernel
theorem q338_199 : decode (zbc 338) 199 = .ok (.invokevirtual 195, 3) := by decide +kernel
theorem kx_1246 : Cond.methodLink "FalseLightMarshLaw" 195 yJ4_append_bf812 ∈ zTs := z_in (i := 1246) (by decide +kernel) (by decide +kernel)
theorem kx_1247 : Cond.instanceMethod yJ4_append_bf812 ∈ zTs := z_in (i := 1247) (by decide +kernel) (by decide +kernel)
theorem kx_1248 : Cond.selects "java/lang/StringBuilder" yJ4_append_bf812 yJ4_append_bf812 ∈ zTs := z_in (i := 1248) (by decide +kernel) (by decide +kernel)
theorem kx_1249 : Cond.code yJ4_append_bf812 cJ4_append_bf812 2 (some (.object "java/lang/StringBuilder")) ∈ zTs := z_in (i := 1249) (by decide +kernel) (by decide +kernel)
theorem wk338_199 : wSC 338 199 352 2 (some "java/lang/StringBuilder") := wk_V (n' := 1) q338_199 kx_1246 kx_1247 kx_1248 kx_56 kx_1249 ⟨by decide, by decide, by decide +kernel⟩ rfl ⟨Nat.le_of_ble_eq_true rfl, Nat.le_of_ble_eq_true rfl⟩
theorem q338_202 : decode (zbc 338) 202 = .ok (.bipush 32, 2) := by decide +kernel
theorem q338_204 : decode (zbc 338) 204 = .ok (.invokevirtual 198, 3) := by decide +kernel
theorem wk338_204 : wSC 338 204 350 2 (some "java/lang/StringBuilder") := wk_V (n' := 1) q338_204 kx_1271 kx_1272 kx_1273 kx_56 kx_1274 ⟨by decide, by decide, by decide +kernel⟩ rfl ⟨Nat.le_of_ble_eq_true rfl, Nat.le_of_ble_eq_true rfl⟩
theorem q338_207 : decode (zbc 338) 207 = .ok (.iload_n 0, 1) := by decide +kernel
theorem q338_208 : decode (zbc 338) 208 = .ok (.bipush 11, 2) := by decide +kernel
theorem q338_210 : decode (zbc 338) 210 = .ok (.iload 7, 2) := by decide +kernel
theorem q338_212 : decode (zbc 338) 212 = .ok (.iadd, 1) := by decide +kernel
theorem q338_213 : decode (zbc 338) 213 = .ok (.ishr, 1) := by decide +kernel
theorem q338_214 : decode (zbc 338) 214 = .ok (.iconst 3, 1) := by decide +kernel
theorem q338_215 : decode (zbc 338) 215 = .ok (.iand, 1) := by decide +kernel
theorem q338_216 : decode (zbc 338) 216 = .ok (.invokevirtual 195, 3) := by decide +kernel
theorem wk338_216 : wSC 338 216 352 2 (some "java/lang/StringBuilder") := wk_V (n' := 1) q338_216 kx_1246 kx_1247 kx_1248 kx_56 kx_1249 ⟨by decide, by decide, by decide +kernel⟩ rfl ⟨Nat.le_of_ble_eq_true rfl, Nat.le_of_ble_eq_true rfl⟩
theorem q338_219 : decode (zbc 338) 219 = .ok (.bipush 59, 2) := by decide +kernel
theorem q338_221 : decode (zbc 338) 221 = .ok (.invokevirtual 198, 3) := by decide +kernel
theorem wk338_221 : wSC 338 221 350 2 (some "java/lang/StringBuilder") := wk_V (n' := 1) q338_221 kx_1271 kx_1272 kx_1273 kx_56 kx_1274 ⟨by decide, by decide, by decide +kernel⟩ rfl ⟨Nat.le_of_ble_eq_true rfl, Nat.le_of_ble_eq_true rfl⟩
theorem q338_224 : decode (zbc 338) 224 = .ok (.pop, 1) := by decide +kernel
theorem q338_225 : decode (zbc 338) 225 = .ok (.iinc 7 1, 3) := by decide +kernel
theorem q338_228 : decode (zbc 338) 228 = .ok (.goto (-51), 3) := by decide +kernel
theorem mr_f {X : Nat × (Nat → Int32)} {b : WB} {c d : Nat} {G F : GM} {Q : WQ} {Y0 : DY} {K W H : Nat} {w v x : Int} {C : Int → Int} {a8 a9 a10 a11 : Value} (hW : 2 ≤ W ∧ W ≤ 7) (hH : 2 ≤ H ∧ H ≤ 6) (hb1 : c + 15 ≤ b.1) (hb2 : d + 15000 ≤ b.2.1) (hk : ∀ (k : Nat) (t : List Int) (D : Int → Int) (Y : DY), k ≤ 3 → rdF (fun _ => 0) H k t D → mG W H C D 0 0 → M2 Y0 K W H C t Y → t.length ≤ 90 + 9 * k → wW (229, X) 338 b 231 [.int (zi w), .int (zi v), .int (zi (W : Int)), .int (zi (H : Int)), .ref (1000 + Y0.2.2), .int (zi x), .ref (1000 + K), .int (zi (k : Int)), a8, a9, a10, a11] [] G F Y (c + 15) (d + 15000) Q) : ∀ (d9 : Nat) (k : Nat) (t : List Int) (D : Int → Int) (Y : DY), 3 - (k : Int) < (d9 : Int) → (k : Int) ≤ 3 → rdF (fun _ => 0) H k t D → mG W H C D 0 0 → M2 Y0 K W H C t Y → t.length ≤ 90 + 9 * k → wW (229, X) 338 b 177 [.int (zi w), .int (zi v), .int (zi (W : Int)), .int (zi (H : Int)), .ref (1000 + Y0.2.2), .int (zi x), .ref (1000 + K), .int (zi (k : Int)), a8, a9, a10, a11] [] G F Y (c + 5 * k) (d + 5000 * k) Q := by
  intro d9
  induction d9 with
  | zero =>
    intro k
    intros
    exact absurd (by assumption) (by omega)
  | succ d9 ih =>
      intro k t D Y hd hk9 hr hD hm hl
      have e3 := zand_3 (zshr w 9)
      have e4 := zand_3 (zshr w (11 + (k : Int)))
      refine wi_iload (i := 7) (pc' := 179) q338_177 rfl rfl ?_
      refine wi_iload_n (i := 0) (pc' := 180) q338_179 rfl rfl rfl ?_
      refine wi_bipush (pc' := 182) q338_180 rfl (by decide) ?_
      refine wi_ishr (pc' := 183) q338_182 rfl ?_
      refine wi_iconst (pc' := 184) q338_183 rfl ?_
      refine wi_iand (pc' := 185) q338_184 rfl ?_
      refine wi_icmp_ge (t := 231) (pc' := 188) q338_185 (by decide) rfl (by omega) (by omega) ?_ ?_
      · intro h9
        exact wW_cd (by omega) (by omega) (hk k t D Y (by omega) hr hD hm hl)
      · intro h9
        refine wi_aload (i := 4) (pc' := 190) q338_188 rfl rfl ?_
        refine wi_ldcS (tx := "fog ") (r := 334) (pc' := 192) q338_190 rfl rfl (by decide) (by decide) ?_
        refine wi_appS (n := (90 + 9 * k)) (q := 4) (pc' := 195) MP_2 wk338_192 rfl hm (kT_c (i := 4) (by decide)) hl (by decide) (by omega) (Nat.le_of_ble_eq_true rfl) (by (try dsimp only); omega) (by (try dsimp only); omega) ?_
        intro Y1 m2 l3
        refine wi_iconst (pc' := 196) q338_195 rfl ?_
        refine wi_iload (i := 7) (pc' := 198) q338_196 rfl rfl ?_
        refine wi_imul (pc' := 199) q338_198 rfl ?_
        refine wi_appN (n := ((90 + 9 * k) + 4)) (v := (5 * (k : Int))) (pc' := 202) MP_2 wk338_199 rfl m2 (by omega) l3 (by omega) (Nat.le_of_ble_eq_true rfl) (by (try dsimp only); omega) (by (try dsimp only); omega) ?_
        intro Y4 m5 l6
        refine wi_bipush (pc' := 204) q338_202 rfl (by decide) ?_
        refine wi_appC (n := (((90 + 9 * k) + 4) + 2)) (v := 32) (pc' := 207) MP_2 wk338_204 rfl m5 (by omega) l6 (by omega) (Nat.le_of_ble_eq_true rfl) (by (try dsimp only); omega) (by (try dsimp only); omega) ?_
        intro Y7 m8 l9
        refine wi_iload_n (i := 0) (pc' := 208) q338_207 rfl rfl rfl ?_
        refine wi_bipush (pc' := 210) q338_208 rfl (by decide) ?_
        refine wi_iload (i := 7) (pc' := 212) q338_210 rfl rfl ?_
        refine wi_iadd (pc' := 213) q338_212 rfl ?_
        refine wi_ishr (pc' := 214) q338_213 rfl ?_
        refine wi_iconst (pc' := 215) q338_214 rfl ?_
        refine wi_iand (pc' := 216) q338_215 rfl ?_
        refine wi_appN1 (n := ((((90 + 9 * k) + 4) + 2) + 1)) (v := (zand (zshr w (11 + (k : Int))) 3)) (pc' := 219) MP_2 wk338_216 rfl m8 (by omega) l9 (by omega) (Nat.le_of_ble_eq_true rfl) (by (try dsimp only); omega) (by (try dsimp only); omega) ?_
        intro Y10 m11 l12
        refine wi_bipush (pc' := 221) q338_219 rfl (by decide) ?_
        refine wi_appC (n := (((((90 + 9 * k) + 4) + 2) + 1) + 1)) (v := 59) (pc' := 224) MP_2 wk338_221 rfl m11 (by omega) l12 (by omega) (Nat.le_of_ble_eq_true rfl) (by (try dsimp only); omega) (by (try dsimp only); omega) ?_
        intro Y13 m14 l15
        refine wi_popR (pc' := 225) q338_224 rfl ?_
        refine wi_iinc7 (pc' := 228) q338_225 rfl rfl (Or.inr rfl) ?_
        refine wi_goto (t := 177) q338_228 (by decide) ?_
        refine wW_cd (c' := c + 5 * (k + 1)) (d' := d + 5000 * (k + 1)) (by omega) (by omega) ?_
        rw [tx_fog] at m14 l15
        rw [show ((k : Int) + 1) = ((k + 1 : Nat) : Int) by omega]
        exact ih (k + 1) _ _ _ (by omega) (by omega) (rdF_s hr (by omega) ⟨by omega, by omega⟩ ⟨by omega, by omega⟩) (mG_fog hD ⟨by omega, by omega⟩ ⟨by omega, by omega⟩) m14 (by omega)
theorem q338_392 : decode (zbc 338) 392 = .ok (.pop, 1) := by decide +kernel
theorem q338_393 : decode (zbc 338) 393 = .ok (.iload 8, 2) := by decide +kernel
theorem q338_395 : decode (zbc 338) 395 = .ok (.ifCond .le 36, 3) := by decide +kernel
theorem q338_431 : decode (zbc 338) 431 = .ok (.aload 4, 2) := by decide +kernel
theorem q338_433 : decode (zbc 338) 433 = .ok (.bipush 59, 2) := by decide +kernel
theorem q338_435 : decode (zbc 338) 435 = .ok (.invokevirtual 198, 3) := by decide +kernel
theorem wk338_435 : wSC 338 435 350 2 (some "java/lang/StringBuilder") := wk_V (n' := 1) q338_435 kx_1271 kx_1272 kx_1273 kx_56 kx_1274 ⟨by decide, by decide, by decide +kernel⟩ rfl ⟨Nat.le_of_ble_eq_true rfl, Nat.le_of_ble_eq_true rfl⟩
theorem q338_438 : decode (zbc 338) 438 = .ok (.pop, 1) := by decide +kernel
theorem q338_439 : decode (zbc 338) 439 = .ok (.iinc 8 1, 3) := by decide +kernel
theorem q338_398 : decode (zbc 338) 398 = .ok (.iload 5, 2) := by decide +kernel
theorem q338_400 : decode (zbc 338) 400 = .ok (.bipush 19, 2) := by decide +kernel
theorem q338_402 : decode (zbc 338) 402 = .ok (.ishr, 1) := by decide +kernel
theorem q338_403 : decode (zbc 338) 403 = .ok (.iconst 1, 1) := by decide +kernel
theorem q338_404 : decode (zbc 338) 404 = .ok (.iand, 1) := by decide +kernel
theorem q338_405 : decode (zbc 338) 405 = .ok (.ifCond .ne 26, 3) := by decide +kernel
theorem q338_408 : decode (zbc 338) 408 = .ok (.aload 4, 2) := by decide +kernel
theorem q338_410 : decode (zbc 338) 410 = .ok (.ldc 223, 2) := by decide +kernel
theorem q338_412 : decode (zbc 338) 412 = .ok (.invokevirtual 203, 3) := by decide +kernel
theorem wk338_412 : wSC 338 412 348 2 (some "java/lang/StringBuilder") := wk_V (n' := 1) q338_412 kx_1285 kx_1142 kx_1143 kx_56 kx_1144 ⟨by decide, by decide, by decide +kernel⟩ rfl ⟨Nat.le_of_ble_eq_true rfl, Nat.le_of_ble_eq_true rfl⟩
theorem q338_415 : decode (zbc 338) 415 = .ok (.iload 5, 2) := by decide +kernel
theorem q338_417 : decode (zbc 338) 417 = .ok (.bipush 20, 2) := by decide +kernel
theorem q338_419 : decode (zbc 338) 419 = .ok (.ishr, 1) := by decide +kernel
theorem q338_420 : decode (zbc 338) 420 = .ok (.sipush 255, 3) := by decide +kernel
theorem q338_423 : decode (zbc 338) 423 = .ok (.iand, 1) := by decide +kernel
theorem q338_424 : decode (zbc 338) 424 = .ok (.iload 8, 2) := by decide +kernel
theorem q338_426 : decode (zbc 338) 426 = .ok (.irem, 1) := by decide +kernel
theorem q338_427 : decode (zbc 338) 427 = .ok (.invokevirtual 195, 3) := by decide +kernel
theorem wk338_427 : wSC 338 427 352 2 (some "java/lang/StringBuilder") := wk_V (n' := 1) q338_427 kx_1246 kx_1247 kx_1248 kx_56 kx_1249 ⟨by decide, by decide, by decide +kernel⟩ rfl ⟨Nat.le_of_ble_eq_true rfl, Nat.le_of_ble_eq_true rfl⟩
theorem q338_430 : decode (zbc 338) 430 = .ok (.pop, 1) := by decide +kernel
theorem ml_e {X : Nat × (Nat → Int32)} {b : WB} {c d : Nat} {G F : GM} {Q : WQ} {Y0 : DY} {K W H : Nat} {Y : DY} {w v x kk cu cv b9 i : Int} {C E : Int → Int} {K2 nl n1 : Nat} {t : List Int} (hnl : nl ≤ 7) (hn : n1 ≤ 380) (hb1 : c + 3 ≤ b.1) (hb2 : d + 3000 ≤ b.2.1) (hm : M3 Y0 K W H C K2 E ((((((((t ++ kT 5) ++ wDig cu) ++ [32]) ++ wDig cv) ++ [32]) ++ wDig b9)) ++ ([32] ++ tTF i)) Y) (hl : (((((((((t ++ kT 5) ++ wDig cu) ++ [32]) ++ wDig cv) ++ [32]) ++ wDig b9)) ++ ([32] ++ tTF i))).length ≤ n1) (hk : ∀ (f : Int) (Y : DY), (f = -1 ∨ (0 ≤ f ∧ f < (nl : Int))) → M3 Y0 K W H C K2 E (t ++ tLight cu cv b9 i f) Y → (t ++ tLight cu cv b9 i f).length ≤ n1 + 8 → wW (229, X) 338 b 442 [.int (zi w), .int (zi v), .int (zi (W : Int)), .int (zi (H : Int)), .ref (1000 + Y0.2.2), .int (zi x), .ref (1000 + K), .ref (1000 + K2), .int (zi ((nl + 1 : Nat) : Int)), .int (zi kk), .int (zi cu), .int (zi cv)] [] G F Y (c + 3) (d + 3000) Q) : wW (229, X) 338 b 392 [.int (zi w), .int (zi v), .int (zi (W : Int)), .int (zi (H : Int)), .ref (1000 + Y0.2.2), .int (zi x), .ref (1000 + K), .ref (1000 + K2), .int (zi (nl : Int)), .int (zi kk), .int (zi cu), .int (zi cv)] [.ref (1000 + Y0.2.2)] G F Y c d Q := by
  have e1 := zand_255 (zshr x 20)
  refine wi_popR (pc' := 393) q338_392 rfl ?_
  refine wi_iload (i := 8) (pc' := 395) q338_393 rfl rfl ?_
  refine wi_if_le (t := 431) (pc' := 398) q338_395 (by decide) rfl (by omega) ?_ ?_
  · intro h8
    refine wi_aload (i := 4) (pc' := 433) q338_431 rfl rfl ?_
    refine wi_bipush (pc' := 435) q338_433 rfl (by decide) ?_
    refine wi_appC (n := n1) (v := 59) (pc' := 438) MP_3 wk338_435 rfl hm (by omega) hl (by omega) (Nat.le_of_ble_eq_true rfl) (by (try dsimp only); omega) (by (try dsimp only); omega) ?_
    intro Y1 m2 l3
    refine wi_popR (pc' := 439) q338_438 rfl ?_
    refine wi_iinc8 (pc' := 442) q338_439 rfl rfl (Or.inr rfl) ?_
    rw [tx_la] at m2 l3
    rw [show ((nl : Int) + 1) = ((nl + 1 : Nat) : Int) by omega]
    exact wW_cd (by omega) (by omega) (hk (-1) _ (Or.inl rfl) m2 (by omega))
  · intro h8
    refine wi_iload (i := 5) (pc' := 400) q338_398 rfl rfl ?_
    refine wi_bipush (pc' := 402) q338_400 rfl (by decide) ?_
    refine wi_ishr (pc' := 403) q338_402 rfl ?_
    refine wi_iconst (pc' := 404) q338_403 rfl ?_
    refine wi_iand (pc' := 405) q338_404 rfl ?_
    refine wi_if_ne (t := 431) (pc' := 408) q338_405 (by decide) rfl (zr_and _ _) ?_ ?_
    · intro h7
      refine wi_aload (i := 4) (pc' := 433) q338_431 rfl rfl ?_
      refine wi_bipush (pc' := 435) q338_433 rfl (by decide) ?_
      refine wi_appC (n := n1) (v := 59) (pc' := 438) MP_3 wk338_435 rfl hm (by omega) hl (by omega) (Nat.le_of_ble_eq_true rfl) (by (try dsimp only); omega) (by (try dsimp only); omega) ?_
      intro Y4 m5 l6
      refine wi_popR (pc' := 439) q338_438 rfl ?_
      refine wi_iinc8 (pc' := 442) q338_439 rfl rfl (Or.inr rfl) ?_
      rw [tx_la] at m5 l6
      rw [show ((nl : Int) + 1) = ((nl + 1 : Nat) : Int) by omega]
      exact wW_cd (by omega) (by omega) (hk (-1) _ (Or.inl rfl) m5 (by omega))
    · intro h7
      have m1 := Int.emod_nonneg (zand (zshr x 20) 255) (show (nl : Int) ≠ 0 by omega)
      have m2 := Int.emod_lt_of_pos (zand (zshr x 20) 255) (show 0 < (nl : Int) by omega)
      refine wi_aload (i := 4) (pc' := 410) q338_408 rfl rfl ?_
      refine wi_ldcS (tx := " next ") (r := 338) (pc' := 412) q338_410 rfl rfl (by decide) (by decide) ?_
      refine wi_appS (n := n1) (q := 6) (pc' := 415) MP_3 wk338_412 rfl hm (kT_c (i := 8) (by decide)) hl (by decide) (by omega) (Nat.le_of_ble_eq_true rfl) (by (try dsimp only); omega) (by (try dsimp only); omega) ?_
      intro Y7 m8 l9
      refine wi_iload (i := 5) (pc' := 417) q338_415 rfl rfl ?_
      refine wi_bipush (pc' := 419) q338_417 rfl (by decide) ?_
      refine wi_ishr (pc' := 420) q338_419 rfl ?_
      refine wi_sipush (pc' := 423) q338_420 rfl (by decide) ?_
      refine wi_iand (pc' := 424) q338_423 rfl ?_
      refine wi_iload (i := 8) (pc' := 426) q338_424 rfl rfl ?_
      refine wi_irem (pc' := 427) q338_426 rfl (by omega) (by omega) ?_
      refine wi_appN1 (n := (n1 + 6)) (v := ((zand (zshr x 20) 255) % (nl : Int))) (pc' := 430) MP_3 wk338_427 rfl m8 (by omega) l9 (by omega) (Nat.le_of_ble_eq_true rfl) (by (try dsimp only); omega) (by (try dsimp only); omega) ?_
      intro Y10 m11 l12
      refine wi_popR (pc' := 431) q338_430 rfl ?_
      refine wi_aload (i := 4) (pc' := 433) q338_431 rfl rfl ?_
      refine wi_bipush (pc' := 435) q338_433 rfl (by decide) ?_
      refine wi_appC (n := ((n1 + 6) + 1)) (v := 59) (pc' := 438) MP_3 wk338_435 rfl m11 (by omega) l12 (by omega) (Nat.le_of_ble_eq_true rfl) (by (try dsimp only); omega) (by (try dsimp only); omega) ?_
      intro Y13 m14 l15
      refine wi_popR (pc' := 439) q338_438 rfl ?_
      refine wi_iinc8 (pc' := 442) q338_439 rfl rfl (Or.inr rfl) ?_
      rw [tx_lb m1] at m14 l15
      rw [show ((nl : Int) + 1) = ((nl + 1 : Nat) : Int) by omega]
      exact wW_cd (by omega) (by omega) (hk (zand (zshr x 20) 255 % (nl : Int)) _ (Or.inr ⟨m1, m2⟩) m14 (by omega))
theorem q338_245 : decode (zbc 338) 245 = .ok (.iload 9, 2) := by decide +kernel
theorem q338_247 : decode (zbc 338) 247 = .ok (.iload_n 0, 1) := by decide +kernel
theorem q338_248 : decode (zbc 338) 248 = .ok (.bipush 14, 2) := by decide +kernel
theorem q338_250 : decode (zbc 338) 250 = .ok (.ishr, 1) := by decide +kernel
theorem q338_251 : decode (zbc 338) 251 = .ok (.bipush 7, 2) := by decide +kernel
theorem q338_253 : decode (zbc 338) 253 = .ok (.iand, 1) := by decide +kernel
theorem q338_254 : decode (zbc 338) 254 = .ok (.if_icmp .ge 194, 3) := by decide +kernel
theorem q338_257 : decode (zbc 338) 257 = .ok (.iload 5, 2) := by decide +kernel
theorem q338_259 : decode (zbc 338) 259 = .ok (.ldc 210, 2) := by decide +kernel
theorem q338_261 : decode (zbc 338) 261 = .ok (.imul, 1) := by decide +kernel
theorem q338_262 : decode (zbc 338) 262 = .ok (.sipush 12345, 3) := by decide +kernel
theorem q338_265 : decode (zbc 338) 265 = .ok (.iadd, 1) := by decide +kernel
theorem q338_266 : decode (zbc 338) 266 = .ok (.istore 5, 2) := by decide +kernel
theorem q338_268 : decode (zbc 338) 268 = .ok (.iload 5, 2) := by decide +kernel
theorem q338_270 : decode (zbc 338) 270 = .ok (.bipush 8, 2) := by decide +kernel
theorem q338_272 : decode (zbc 338) 272 = .ok (.ishr, 1) := by decide +kernel
theorem q338_273 : decode (zbc 338) 273 = .ok (.sipush 255, 3) := by decide +kernel
theorem q338_276 : decode (zbc 338) 276 = .ok (.iand, 1) := by decide +kernel
theorem q338_277 : decode (zbc 338) 277 = .ok (.iload_n 2, 1) := by decide +kernel
theorem q338_278 : decode (zbc 338) 278 = .ok (.irem, 1) := by decide +kernel
theorem q338_279 : decode (zbc 338) 279 = .ok (.istore 10, 2) := by decide +kernel
theorem q338_281 : decode (zbc 338) 281 = .ok (.iload 5, 2) := by decide +kernel
theorem q338_283 : decode (zbc 338) 283 = .ok (.bipush 11, 2) := by decide +kernel
theorem q338_285 : decode (zbc 338) 285 = .ok (.ishr, 1) := by decide +kernel
theorem q338_286 : decode (zbc 338) 286 = .ok (.sipush 255, 3) := by decide +kernel
theorem q338_289 : decode (zbc 338) 289 = .ok (.iand, 1) := by decide +kernel
theorem q338_290 : decode (zbc 338) 290 = .ok (.iload_n 3, 1) := by decide +kernel
theorem q338_291 : decode (zbc 338) 291 = .ok (.irem, 1) := by decide +kernel
theorem q338_292 : decode (zbc 338) 292 = .ok (.istore 11, 2) := by decide +kernel
theorem q338_294 : decode (zbc 338) 294 = .ok (.aload 6, 2) := by decide +kernel
theorem q338_296 : decode (zbc 338) 296 = .ok (.iload 11, 2) := by decide +kernel
theorem q338_298 : decode (zbc 338) 298 = .ok (.aaload, 1) := by decide +kernel
theorem q338_299 : decode (zbc 338) 299 = .ok (.iload 10, 2) := by decide +kernel
theorem q338_301 : decode (zbc 338) 301 = .ok (.caload, 1) := by decide +kernel
theorem q338_302 : decode (zbc 338) 302 = .ok (.bipush 119, 2) := by decide +kernel
theorem q338_304 : decode (zbc 338) 304 = .ok (.if_icmp .eq 138, 3) := by decide +kernel
theorem q338_442 : decode (zbc 338) 442 = .ok (.iinc 9 1, 3) := by decide +kernel
theorem q338_445 : decode (zbc 338) 445 = .ok (.goto (-200), 3) := by decide +kernel
theorem q338_307 : decode (zbc 338) 307 = .ok (.aload 7, 2) := by decide +kernel
theorem q338_309 : decode (zbc 338) 309 = .ok (.iload 11, 2) := by decide +kernel
theorem q338_311 : decode (zbc 338) 311 = .ok (.aaload, 1) := by decide +kernel
theorem q338_312 : decode (zbc 338) 312 = .ok (.iload 10, 2) := by decide +kernel
theorem q338_314 : decode (zbc 338) 314 = .ok (.baload, 1) := by decide +kernel
theorem q338_315 : decode (zbc 338) 315 = .ok (.ifCond .eq 6, 3) := by decide +kernel
theorem q338_321 : decode (zbc 338) 321 = .ok (.aload 7, 2) := by decide +kernel
theorem q338_323 : decode (zbc 338) 323 = .ok (.iload 11, 2) := by decide +kernel
theorem q338_325 : decode (zbc 338) 325 = .ok (.aaload, 1) := by decide +kernel
theorem q338_326 : decode (zbc 338) 326 = .ok (.iload 10, 2) := by decide +kernel
theorem q338_328 : decode (zbc 338) 328 = .ok (.iconst 1, 1) := by decide +kernel
theorem q338_329 : decode (zbc 338) 329 = .ok (.bastore, 1) := by decide +kernel
theorem q338_330 : decode (zbc 338) 330 = .ok (.aload 4, 2) := by decide +kernel
theorem q338_332 : decode (zbc 338) 332 = .ok (.ldc 217, 2) := by decide +kernel
theorem q338_334 : decode (zbc 338) 334 = .ok (.invokevirtual 203, 3) := by decide +kernel
theorem wk338_334 : wSC 338 334 348 2 (some "java/lang/StringBuilder") := wk_V (n' := 1) q338_334 kx_1285 kx_1142 kx_1143 kx_56 kx_1144 ⟨by decide, by decide, by decide +kernel⟩ rfl ⟨Nat.le_of_ble_eq_true rfl, Nat.le_of_ble_eq_true rfl⟩
theorem q338_337 : decode (zbc 338) 337 = .ok (.iload 10, 2) := by decide +kernel
theorem q338_339 : decode (zbc 338) 339 = .ok (.invokevirtual 195, 3) := by decide +kernel
theorem wk338_339 : wSC 338 339 352 2 (some "java/lang/StringBuilder") := wk_V (n' := 1) q338_339 kx_1246 kx_1247 kx_1248 kx_56 kx_1249 ⟨by decide, by decide, by decide +kernel⟩ rfl ⟨Nat.le_of_ble_eq_true rfl, Nat.le_of_ble_eq_true rfl⟩
theorem q338_342 : decode (zbc 338) 342 = .ok (.bipush 32, 2) := by decide +kernel
theorem q338_344 : decode (zbc 338) 344 = .ok (.invokevirtual 198, 3) := by decide +kernel
theorem wk338_344 : wSC 338 344 350 2 (some "java/lang/StringBuilder") := wk_V (n' := 1) q338_344 kx_1271 kx_1272 kx_1273 kx_56 kx_1274 ⟨by decide, by decide, by decide +kernel⟩ rfl ⟨Nat.le_of_ble_eq_true rfl, Nat.le_of_ble_eq_true rfl⟩
theorem q338_347 : decode (zbc 338) 347 = .ok (.iload 11, 2) := by decide +kernel
theorem q338_349 : decode (zbc 338) 349 = .ok (.invokevirtual 195, 3) := by decide +kernel
theorem wk338_349 : wSC 338 349 352 2 (some "java/lang/StringBuilder") := wk_V (n' := 1) q338_349 kx_1246 kx_1247 kx_1248 kx_56 kx_1249 ⟨by decide, by decide, by decide +kernel⟩ rfl ⟨Nat.le_of_ble_eq_true rfl, Nat.le_of_ble_eq_true rfl⟩
theorem q338_352 : decode (zbc 338) 352 = .ok (.bipush 32, 2) := by decide +kernel
theorem q338_354 : decode (zbc 338) 354 = .ok (.invokevirtual 198, 3) := by decide +kernel
theorem wk338_354 : wSC 338 354 350 2 (some "java/lang/StringBuilder") := wk_V (n' := 1) q338_354 kx_1271 kx_1272 kx_1273 kx_56 kx_1274 ⟨by decide, by decide, by decide +kernel⟩ rfl ⟨Nat.le_of_ble_eq_true rfl, Nat.le_of_ble_eq_true rfl⟩
theorem q338_357 : decode (zbc 338) 357 = .ok (.iload 5, 2) := by decide +kernel
theorem q338_359 : decode (zbc 338) 359 = .ok (.bipush 14, 2) := by decide +kernel
theorem q338_361 : decode (zbc 338) 361 = .ok (.ishr, 1) := by decide +kernel
theorem q338_362 : decode (zbc 338) 362 = .ok (.sipush 255, 3) := by decide +kernel
theorem q338_365 : decode (zbc 338) 365 = .ok (.iand, 1) := by decide +kernel
theorem q338_366 : decode (zbc 338) 366 = .ok (.bipush 10, 2) := by decide +kernel
theorem q338_368 : decode (zbc 338) 368 = .ok (.irem, 1) := by decide +kernel
theorem q338_369 : decode (zbc 338) 369 = .ok (.invokevirtual 195, 3) := by decide +kernel
theorem wk338_369 : wSC 338 369 352 2 (some "java/lang/StringBuilder") := wk_V (n' := 1) q338_369 kx_1246 kx_1247 kx_1248 kx_56 kx_1249 ⟨by decide, by decide, by decide +kernel⟩ rfl ⟨Nat.le_of_ble_eq_true rfl, Nat.le_of_ble_eq_true rfl⟩
theorem q338_372 : decode (zbc 338) 372 = .ok (.iload 5, 2) := by decide +kernel
theorem q338_374 : decode (zbc 338) 374 = .ok (.bipush 17, 2) := by decide +kernel
theorem q338_376 : decode (zbc 338) 376 = .ok (.ishr, 1) := by decide +kernel
theorem q338_377 : decode (zbc 338) 377 = .ok (.iconst 3, 1) := by decide +kernel
theorem q338_378 : decode (zbc 338) 378 = .ok (.iand, 1) := by decide +kernel
theorem q338_379 : decode (zbc 338) 379 = .ok (.ifCond .ne 8, 3) := by decide +kernel
theorem q338_387 : decode (zbc 338) 387 = .ok (.ldc 221, 2) := by decide +kernel
theorem q338_389 : decode (zbc 338) 389 = .ok (.invokevirtual 203, 3) := by decide +kernel
theorem wk338_389 : wSC 338 389 348 2 (some "java/lang/StringBuilder") := wk_V (n' := 1) q338_389 kx_1285 kx_1142 kx_1143 kx_56 kx_1144 ⟨by decide, by decide, by decide +kernel⟩ rfl ⟨Nat.le_of_ble_eq_true rfl, Nat.le_of_ble_eq_true rfl⟩
theorem q338_382 : decode (zbc 338) 382 = .ok (.ldc 219, 2) := by decide +kernel
theorem q338_384 : decode (zbc 338) 384 = .ok (.goto 5, 3) := by decide +kernel
theorem q338_318 : decode (zbc 338) 318 = .ok (.goto 124, 3) := by decide +kernel
theorem mr_l {X : Nat × (Nat → Int32)} {b : WB} {c d : Nat} {G F : GM} {Q : WQ} {Y0 : DY} {K W H : Nat} {w v : Int} {C : Int → Int} {K2 : Nat} (hW : 2 ≤ W ∧ W ≤ 7) (hH : 2 ≤ H ∧ H ≤ 6) (hb1 : c + 70 ≤ b.1) (hb2 : d + 70000 ≤ b.2.1) (hk : ∀ (k nl : Nat) (t : List Int) (D E : Int → Int) (x : Int) (a10 a11 : Value) (Y : DY), nl ≤ 7 → rdL (fun _ => 0) H nl t D → mG W H C D (nl : Int) 0 → mL D E → M3 Y0 K W H C K2 E t Y → t.length ≤ 117 + 25 * nl → wW (229, X) 338 b 448 [.int (zi w), .int (zi v), .int (zi (W : Int)), .int (zi (H : Int)), .ref (1000 + Y0.2.2), .int (zi x), .ref (1000 + K), .ref (1000 + K2), .int (zi (nl : Int)), .int (zi (k : Int)), a10, a11] [] G F Y (c + 70) (d + 70000) Q) : ∀ (d9 : Nat) (k : Nat) (nl : Nat) (t : List Int) (D E : Int → Int) (x : Int) (a10 a11 : Value) (Y : DY), 7 - (k : Int) < (d9 : Int) → (k : Int) ≤ 7 → nl ≤ k → rdL (fun _ => 0) H nl t D → mG W H C D (nl : Int) 0 → mL D E → M3 Y0 K W H C K2 E t Y → t.length ≤ 117 + 25 * nl → wW (229, X) 338 b 245 [.int (zi w), .int (zi v), .int (zi (W : Int)), .int (zi (H : Int)), .ref (1000 + Y0.2.2), .int (zi x), .ref (1000 + K), .ref (1000 + K2), .int (zi (nl : Int)), .int (zi (k : Int)), a10, a11] [] G F Y (c + 10 * k) (d + 10000 * k) Q := by
  intro d9
  induction d9 with
  | zero =>
    intro k
    intros
    exact absurd (by assumption) (by omega)
  | succ d9 ih =>
      intro k nl t D E x a10 a11 Y hd hk9 hnk hr hD hE hm hl
      have e7 := zand_7 (zshr w 14)
      refine wi_iload (i := 9) (pc' := 247) q338_245 rfl rfl ?_
      refine wi_iload_n (i := 0) (pc' := 248) q338_247 rfl rfl rfl ?_
      refine wi_bipush (pc' := 250) q338_248 rfl (by decide) ?_
      refine wi_ishr (pc' := 251) q338_250 rfl ?_
      refine wi_bipush (pc' := 253) q338_251 rfl (by decide) ?_
      refine wi_iand (pc' := 254) q338_253 rfl ?_
      refine wi_icmp_ge (t := 448) (pc' := 257) q338_254 (by decide) rfl (by omega) (by omega) ?_ ?_
      · intro h9
        exact wW_cd (by omega) (by omega) (hk k nl t D E x a10 a11 Y (by omega) hr hD hE hm hl)
      · intro h9
        have w0 : (W : Int) ≠ 0 := by omega
        have h0 : (H : Int) ≠ 0 := by omega
        refine wi_iload (i := 5) (pc' := 259) q338_257 rfl rfl ?_
        refine wi_ldc (z := 1103515245) (pc' := 261) q338_259 rfl kx_1289 (by decide +kernel) ?_
        refine wi_imul (pc' := 262) q338_261 rfl ?_
        refine wi_sipush (pc' := 265) q338_262 rfl (by decide) ?_
        refine wi_iadd (pc' := 266) q338_265 rfl ?_
        generalize x * 1103515245 + 12345 = x1 at *
        refine wi_istore5 (pc' := 268) q338_266 rfl rfl (Or.inr rfl) ?_
        refine wi_iload (i := 5) (pc' := 270) q338_268 rfl rfl ?_
        refine wi_bipush (pc' := 272) q338_270 rfl (by decide) ?_
        refine wi_ishr (pc' := 273) q338_272 rfl ?_
        refine wi_sipush (pc' := 276) q338_273 rfl (by decide) ?_
        refine wi_iand (pc' := 277) q338_276 rfl ?_
        refine wi_iload_n (i := 2) (pc' := 278) q338_277 rfl rfl rfl ?_
        have e8 := zand_255 (zshr x1 8)
        refine wi_irem (pc' := 279) q338_278 rfl (by omega) (by omega) ?_
        have q1 := Int.emod_nonneg (zand (zshr x1 8) 255) (show (W : Int) ≠ 0 by omega)
        have q2 := Int.emod_lt_of_pos (zand (zshr x1 8) 255) (show 0 < (W : Int) by omega)
        generalize zand (zshr x1 8) 255 % (W : Int) = cu at q1 q2 ⊢
        refine wi_istore10 (pc' := 281) q338_279 rfl rfl (Or.inr rfl) ?_
        refine wi_iload (i := 5) (pc' := 283) q338_281 rfl rfl ?_
        refine wi_bipush (pc' := 285) q338_283 rfl (by decide) ?_
        refine wi_ishr (pc' := 286) q338_285 rfl ?_
        refine wi_sipush (pc' := 289) q338_286 rfl (by decide) ?_
        refine wi_iand (pc' := 290) q338_289 rfl ?_
        refine wi_iload_n (i := 3) (pc' := 291) q338_290 rfl rfl rfl ?_
        have e11 := zand_255 (zshr x1 11)
        refine wi_irem (pc' := 292) q338_291 rfl (by omega) (by omega) ?_
        have q3 := Int.emod_nonneg (zand (zshr x1 11) 255) (show (H : Int) ≠ 0 by omega)
        have q4 := Int.emod_lt_of_pos (zand (zshr x1 11) 255) (show 0 < (H : Int) by omega)
        generalize zand (zshr x1 11) 255 % (H : Int) = cv at q3 q4 ⊢
        obtain ⟨c1, c2⟩ := hD.2.2 cv cu q3 q4 q1 q2
        refine wi_istore11 (pc' := 294) q338_292 rfl rfl (Or.inr rfl) ?_
        refine wi_aload (i := 6) (pc' := 296) q338_294 rfl rfl ?_
        refine wi_iload (i := 11) (pc' := 298) q338_296 rfl rfl ?_
        refine wi_rwrow (r := cv) (pc' := 299) q338_298 rfl hm.1.2 (Or.inr (Or.inl rfl)) ⟨by omega, by omega⟩ (by omega) ?_
        refine wi_iload (i := 10) (pc' := 301) q338_299 rfl rfl ?_
        refine wi_rwgetC (r := cv) (pc' := 302) q338_301 rfl hm.1.2 ⟨by omega, by omega⟩ ⟨by omega, by omega⟩ (by omega) ?_
        refine wi_bipush (pc' := 304) q338_302 rfl (by decide) ?_
        refine wi_icmp_eq (t := 442) (pc' := 307) q338_304 (by decide) rfl (by omega) (by omega) ?_ ?_
        · intro h8
          refine wi_iinc9 (pc' := 445) q338_442 rfl rfl (Or.inr rfl) ?_
          refine wi_goto (t := 245) q338_445 (by decide) ?_
          refine wW_cd (c' := c + 10 * (k + 1)) (d' := d + 10000 * (k + 1)) (by omega) (by omega) ?_
          rw [show ((k : Int) + 1) = ((k + 1 : Nat) : Int) by omega]
          exact ih (k + 1) nl _ D E x1 _ _ _ (by omega) (by omega) (by omega) hr hD hE hm hl
        · intro h8
          refine wi_aload (i := 7) (pc' := 309) q338_307 rfl rfl ?_
          refine wi_iload (i := 11) (pc' := 311) q338_309 rfl rfl ?_
          refine wi_rwrow (r := cv) (pc' := 312) q338_311 rfl hm.2.2 (Or.inr (Or.inr rfl)) ⟨by omega, by omega⟩ (by omega) ?_
          refine wi_iload (i := 10) (pc' := 314) q338_312 rfl rfl ?_
          have hEz := hE.1 (12 * cv + cu)
          refine wi_rwgetZ (r := cv) (pc' := 315) q338_314 rfl hm.2.2 ⟨by omega, by omega⟩ ⟨by omega, by omega⟩ (by omega) ?_
          refine wi_if_eq (t := 321) (pc' := 318) q338_315 (by decide) rfl (by omega) ?_ ?_
          · intro h7
            refine wi_aload (i := 7) (pc' := 323) q338_321 rfl rfl ?_
            refine wi_iload (i := 11) (pc' := 325) q338_323 rfl rfl ?_
            refine wi_rwrow (r := cv) (pc' := 326) q338_325 rfl hm.2.2 (Or.inr (Or.inr rfl)) ⟨by omega, by omega⟩ (by omega) ?_
            refine wi_iload (i := 10) (pc' := 328) q338_326 rfl rfl ?_
            refine wi_iconst (pc' := 329) q338_328 rfl ?_
            refine wi_m3set (r := cv) (pc' := 330) q338_329 rfl hm ⟨by omega, by omega⟩ ⟨by omega, by omega⟩ (by omega) (by omega) ?_
            intro Y8 hm8
            refine wi_aload (i := 4) (pc' := 332) q338_330 rfl rfl ?_
            refine wi_ldcS (tx := "light ") (r := 335) (pc' := 334) q338_332 rfl rfl (by decide) (by decide) ?_
            refine wi_appS (n := (117 + 25 * nl)) (q := 6) (pc' := 337) MP_3 wk338_334 rfl hm8 (kT_c (i := 5) (by decide)) hl (by decide) (by omega) (Nat.le_of_ble_eq_true rfl) (by (try dsimp only); omega) (by (try dsimp only); omega) ?_
            intro Y1 m2 l3
            refine wi_iload (i := 10) (pc' := 339) q338_337 rfl rfl ?_
            refine wi_appN1 (n := ((117 + 25 * nl) + 6)) (v := cu) (pc' := 342) MP_3 wk338_339 rfl m2 (by omega) l3 (by omega) (Nat.le_of_ble_eq_true rfl) (by (try dsimp only); omega) (by (try dsimp only); omega) ?_
            intro Y4 m5 l6
            refine wi_bipush (pc' := 344) q338_342 rfl (by decide) ?_
            refine wi_appC (n := (((117 + 25 * nl) + 6) + 1)) (v := 32) (pc' := 347) MP_3 wk338_344 rfl m5 (by omega) l6 (by omega) (Nat.le_of_ble_eq_true rfl) (by (try dsimp only); omega) (by (try dsimp only); omega) ?_
            intro Y7 m8 l9
            refine wi_iload (i := 11) (pc' := 349) q338_347 rfl rfl ?_
            refine wi_appN1 (n := ((((117 + 25 * nl) + 6) + 1) + 1)) (v := cv) (pc' := 352) MP_3 wk338_349 rfl m8 (by omega) l9 (by omega) (Nat.le_of_ble_eq_true rfl) (by (try dsimp only); omega) (by (try dsimp only); omega) ?_
            intro Y10 m11 l12
            refine wi_bipush (pc' := 354) q338_352 rfl (by decide) ?_
            refine wi_appC (n := (((((117 + 25 * nl) + 6) + 1) + 1) + 1)) (v := 32) (pc' := 357) MP_3 wk338_354 rfl m11 (by omega) l12 (by omega) (Nat.le_of_ble_eq_true rfl) (by (try dsimp only); omega) (by (try dsimp only); omega) ?_
            intro Y13 m14 l15
            refine wi_iload (i := 5) (pc' := 359) q338_357 rfl rfl ?_
            refine wi_bipush (pc' := 361) q338_359 rfl (by decide) ?_
            refine wi_ishr (pc' := 362) q338_361 rfl ?_
            refine wi_sipush (pc' := 365) q338_362 rfl (by decide) ?_
            refine wi_iand (pc' := 366) q338_365 rfl ?_
            have e9 := zand_255 (zshr x1 14)
            refine wi_bipush (pc' := 368) q338_366 rfl (by decide) ?_
            have e10 := zand_255 (zshr x1 14)
            refine wi_irem (pc' := 369) q338_368 rfl (by omega) (by omega) ?_
            have q5 : 0 ≤ zand (zshr x1 14) 255 % 10 ∧ zand (zshr x1 14) 255 % 10 ≤ 9 := by omega
            generalize zand (zshr x1 14) 255 % 10 = b9 at q5 ⊢
            refine wi_appN1 (n := ((((((117 + 25 * nl) + 6) + 1) + 1) + 1) + 1)) (v := b9) (pc' := 372) MP_3 wk338_369 rfl m14 (by omega) l15 (by omega) (Nat.le_of_ble_eq_true rfl) (by (try dsimp only); omega) (by (try dsimp only); omega) ?_
            intro Y16 m17 l18
            refine wi_iload (i := 5) (pc' := 374) q338_372 rfl rfl ?_
            refine wi_bipush (pc' := 376) q338_374 rfl (by decide) ?_
            refine wi_ishr (pc' := 377) q338_376 rfl ?_
            refine wi_iconst (pc' := 378) q338_377 rfl ?_
            refine wi_iand (pc' := 379) q338_378 rfl ?_
            refine wi_if_ne (t := 387) (pc' := 382) q338_379 (by decide) rfl (zr_and _ _) ?_ ?_
            · intro h6
              refine wi_ldcS (tx := " true") (r := 337) (pc' := 389) q338_387 rfl rfl (by decide) (by decide) ?_
              refine wi_appS (n := (((((((117 + 25 * nl) + 6) + 1) + 1) + 1) + 1) + 1)) (q := 5) (pc' := 392) MP_3 wk338_389 rfl m17 (kT_c (i := 7) (by decide)) l18 (by decide) (by omega) (Nat.le_of_ble_eq_true rfl) (by (try dsimp only); omega) (by (try dsimp only); omega) ?_
              intro Y19 m20 l21
              rw [(kT67 1).2 rfl] at m20 l21
              refine wW_cd (c' := c + 10 * k + 7) (d' := d + 10000 * k + 7000) (by (try dsimp only); omega) (by (try dsimp only); omega) ?_
              refine ml_e (i := 1) (t := t) (cu := cu) (cv := cv) (b9 := b9) (c := c + 10 * k + 7) (d := d + 10000 * k + 7000) (n1 := 117 + 25 * nl + 17) (by omega) (by omega) (by omega) (by omega) m20 (by omega) ?_
              intro f9 Y9 hf9 hm9 hl9
              refine wi_iinc9 (pc' := 445) q338_442 rfl rfl (Or.inr rfl) ?_
              refine wi_goto (t := 245) q338_445 (by decide) ?_
              refine wW_cd (c' := c + 10 * (k + 1)) (d' := d + 10000 * (k + 1)) (by omega) (by omega) ?_
              obtain ⟨hF1, ⟨d0, d1, d4, d5⟩, hcel⟩ := id hD
              rw [show ((k : Int) + 1) = ((k + 1 : Nat) : Int) by omega]
              refine ih (k + 1) (nl + 1) _ _ _ x1 _ _ _ (by omega) (by omega) (by omega) (rdL_s hr (by omega) (by omega) (by omega) (by omega) (by rw [c1]; exact pCell_n1 c2 h8) (mL_no hE h7) q5 (by omega) (by omega) (by omega)) ?_ (mL_add hE (by omega)) hm9 (by omega)
              rw [show ((nl + 1 : Nat) : Int) = (nl : Int) + 1 by omega]
              exact mG_light hD ⟨by omega, by omega⟩ ⟨q1, q2⟩ ⟨q3, q4⟩ q5 (by omega) (by omega)
            · intro h6
              refine wi_ldcS (tx := " false") (r := 336) (pc' := 384) q338_382 rfl rfl (by decide) (by decide) ?_
              refine wi_goto (t := 389) q338_384 (by decide) ?_
              refine wi_appS (n := (((((((117 + 25 * nl) + 6) + 1) + 1) + 1) + 1) + 1)) (q := 6) (pc' := 392) MP_3 wk338_389 rfl m17 (kT_c (i := 6) (by decide)) l18 (by decide) (by omega) (Nat.le_of_ble_eq_true rfl) (by (try dsimp only); omega) (by (try dsimp only); omega) ?_
              intro Y22 m23 l24
              rw [(kT67 0).1 rfl] at m23 l24
              refine wW_cd (c' := c + 10 * k + 7) (d' := d + 10000 * k + 7000) (by (try dsimp only); omega) (by (try dsimp only); omega) ?_
              refine ml_e (i := 0) (t := t) (cu := cu) (cv := cv) (b9 := b9) (c := c + 10 * k + 7) (d := d + 10000 * k + 7000) (n1 := 117 + 25 * nl + 17) (by omega) (by omega) (by omega) (by omega) m23 (by omega) ?_
              intro f9 Y9 hf9 hm9 hl9
              refine wi_iinc9 (pc' := 445) q338_442 rfl rfl (Or.inr rfl) ?_
              refine wi_goto (t := 245) q338_445 (by decide) ?_
              refine wW_cd (c' := c + 10 * (k + 1)) (d' := d + 10000 * (k + 1)) (by omega) (by omega) ?_
              obtain ⟨hF1, ⟨d0, d1, d4, d5⟩, hcel⟩ := id hD
              rw [show ((k : Int) + 1) = ((k + 1 : Nat) : Int) by omega]
              refine ih (k + 1) (nl + 1) _ _ _ x1 _ _ _ (by omega) (by omega) (by omega) (rdL_s hr (by omega) (by omega) (by omega) (by omega) (by rw [c1]; exact pCell_n1 c2 h8) (mL_no hE h7) q5 (by omega) (by omega) (by omega)) ?_ (mL_add hE (by omega)) hm9 (by omega)
              rw [show ((nl + 1 : Nat) : Int) = (nl : Int) + 1 by omega]
              exact mG_light hD ⟨by omega, by omega⟩ ⟨q1, q2⟩ ⟨q3, q4⟩ q5 (by omega) (by omega)
          · intro h7
            refine wi_goto (t := 442) q338_318 (by decide) ?_
            refine wi_iinc9 (pc' := 445) q338_442 rfl rfl (Or.inr rfl) ?_
            refine wi_goto (t := 245) q338_445 (by decide) ?_
            refine wW_cd (c' := c + 10 * (k + 1)) (d' := d + 10000 * (k + 1)) (by omega) (by omega) ?_
            rw [show ((k : Int) + 1) = ((k + 1 : Nat) : Int) by omega]
            exact ih (k + 1) nl _ D E x1 _ _ _ (by omega) (by omega) (by omega) hr hD hE hm hl
