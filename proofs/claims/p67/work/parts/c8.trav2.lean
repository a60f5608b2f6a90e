/-! The law's travellers(x): the lights of one. -/
theorem q343_159 : decode (zbc 343) 159 = .ok (.iload 14, 2) := by decide +kernel
theorem q343_161 : decode (zbc 343) 161 = .ok (.aload_n 0, 1) := by decide +kernel
theorem q343_162 : decode (zbc 343) 162 = .ok (.invokevirtual 254, 3) := by decide +kernel
theorem wq343_162 {L9 : Nat} {xs9 : Nat → Int32} {N9 : Nat} : z_SC N9 znl zTs (zZ L9 xs9 N9) zyn zbc zrt zfr zlo (fun _ i => i) ztb 343 162 3 219 1 := sc_V (P := fun _ i => i) (n' := 0) zTs_good q343_162 kx_1388 kx_1389 kx_1390 kx_32 kx_1391 rfl ⟨by decide, by decide, by decide +kernel⟩ rfl ⟨Nat.le_of_ble_eq_true rfl, Nat.le_of_ble_eq_true rfl⟩
theorem q343_165 : decode (zbc 343) 165 = .ok (.if_icmp .ge 175, 3) := by decide +kernel
theorem q343_168 : decode (zbc 343) 168 = .ok (.aload_n 0, 1) := by decide +kernel
theorem q343_169 : decode (zbc 343) 169 = .ok (.bipush 23, 2) := by decide +kernel
theorem q343_171 : decode (zbc 343) 171 = .ok (.iload 14, 2) := by decide +kernel
theorem q343_173 : decode (zbc 343) 173 = .ok (.invokestatic 185, 3) := by decide +kernel
theorem wq343_173 {L9 : Nat} {xs9 : Nat → Int32} {N9 : Nat} : z_SC N9 znl zTs (zZ L9 xs9 N9) zyn zbc zrt zfr zlo (fun _ i => i) ztb 343 173 2 336 3 := sc_S (P := fun _ i => i) zTs_good q343_173 kx_545 kx_546 kx_31 kx_547 rfl ⟨by decide, by decide, by decide +kernel⟩ ⟨Nat.le_of_ble_eq_true rfl, Nat.le_of_ble_eq_true rfl⟩
theorem q343_176 : decode (zbc 343) 176 = .ok (.iload 6, 2) := by decide +kernel
theorem q343_178 : decode (zbc 343) 178 = .ok (.isub, 1) := by decide +kernel
theorem kxm_1408 : Cond.methodLink "FalseLightMarshLaw" 273 Lib.Math.abs.name ∈ zTs := z_in (i := 1408) (by decide +kernel) (by decide +kernel)
theorem q343_179 : decode (zbc 343) 179 = .ok (.invokestatic 273, 3) := by decide +kernel
theorem q343_182 : decode (zbc 343) 182 = .ok (.aload_n 0, 1) := by decide +kernel
theorem q343_183 : decode (zbc 343) 183 = .ok (.bipush 24, 2) := by decide +kernel
theorem q343_185 : decode (zbc 343) 185 = .ok (.iload 14, 2) := by decide +kernel
theorem q343_187 : decode (zbc 343) 187 = .ok (.invokestatic 185, 3) := by decide +kernel
theorem wq343_187 {L9 : Nat} {xs9 : Nat → Int32} {N9 : Nat} : z_SC N9 znl zTs (zZ L9 xs9 N9) zyn zbc zrt zfr zlo (fun _ i => i) ztb 343 187 2 336 3 := sc_S (P := fun _ i => i) zTs_good q343_187 kx_545 kx_546 kx_31 kx_547 rfl ⟨by decide, by decide, by decide +kernel⟩ ⟨Nat.le_of_ble_eq_true rfl, Nat.le_of_ble_eq_true rfl⟩
theorem q343_190 : decode (zbc 343) 190 = .ok (.iload 7, 2) := by decide +kernel
theorem q343_192 : decode (zbc 343) 192 = .ok (.isub, 1) := by decide +kernel
theorem q343_193 : decode (zbc 343) 193 = .ok (.invokestatic 273, 3) := by decide +kernel
theorem q343_196 : decode (zbc 343) 196 = .ok (.iadd, 1) := by decide +kernel
theorem q343_197 : decode (zbc 343) 197 = .ok (.istore 15, 2) := by decide +kernel
theorem q343_199 : decode (zbc 343) 199 = .ok (.iload 15, 2) := by decide +kernel
theorem q343_201 : decode (zbc 343) 201 = .ok (.aload_n 0, 1) := by decide +kernel
theorem q343_202 : decode (zbc 343) 202 = .ok (.invokevirtual 278, 3) := by decide +kernel
theorem kx_530 : Cond.methodLink "FalseLightMarshLaw" 278 yX8_sight ∈ zTs := z_in (i := 530) (by decide +kernel) (by decide +kernel)
theorem kx_531 : Cond.instanceMethod yX8_sight ∈ zTs := z_in (i := 531) (by decide +kernel) (by decide +kernel)
theorem kx_532 : Cond.selects "FalseLightMarsh" yX8_sight yX8_sight ∈ zTs := z_in (i := 532) (by decide +kernel) (by decide +kernel)
theorem kx_533 : Cond.code yX8_sight cX8_sight 1 (some .int) ∈ zTs := z_in (i := 533) (by decide +kernel) (by decide +kernel)
theorem wq343_202 {L9 : Nat} {xs9 : Nat → Int32} {N9 : Nat} : z_SC N9 znl zTs (zZ L9 xs9 N9) zyn zbc zrt zfr zlo (fun _ i => i) ztb 343 202 3 218 1 := sc_V (P := fun _ i => i) (n' := 0) zTs_good q343_202 kx_530 kx_531 kx_532 kx_32 kx_533 rfl ⟨by decide, by decide, by decide +kernel⟩ rfl ⟨Nat.le_of_ble_eq_true rfl, Nat.le_of_ble_eq_true rfl⟩
theorem q343_205 : decode (zbc 343) 205 = .ok (.aload_n 0, 1) := by decide +kernel
theorem q343_206 : decode (zbc 343) 206 = .ok (.bipush 25, 2) := by decide +kernel
theorem q343_208 : decode (zbc 343) 208 = .ok (.iload 14, 2) := by decide +kernel
theorem q343_210 : decode (zbc 343) 210 = .ok (.invokestatic 185, 3) := by decide +kernel
theorem wq343_210 {L9 : Nat} {xs9 : Nat → Int32} {N9 : Nat} : z_SC N9 znl zTs (zZ L9 xs9 N9) zyn zbc zrt zfr zlo (fun _ i => i) ztb 343 210 2 336 3 := sc_S (P := fun _ i => i) zTs_good q343_210 kx_545 kx_546 kx_31 kx_547 rfl ⟨by decide, by decide, by decide +kernel⟩ ⟨Nat.le_of_ble_eq_true rfl, Nat.le_of_ble_eq_true rfl⟩
theorem q343_213 : decode (zbc 343) 213 = .ok (.iadd, 1) := by decide +kernel
theorem q343_222 : decode (zbc 343) 222 = .ok (.istore 16, 2) := by decide +kernel
theorem q343_243 : decode (zbc 343) 243 = .ok (.iload 4, 2) := by decide +kernel
theorem q343_245 : decode (zbc 343) 245 = .ok (.ifCond .eq 30, 3) := by decide +kernel
theorem q343_248 : decode (zbc 343) 248 = .ok (.aload_n 0, 1) := by decide +kernel
theorem q343_249 : decode (zbc 343) 249 = .ok (.bipush 41, 2) := by decide +kernel
theorem q343_251 : decode (zbc 343) 251 = .ok (.iload 5, 2) := by decide +kernel
theorem q343_253 : decode (zbc 343) 253 = .ok (.iload 14, 2) := by decide +kernel
theorem q343_255 : decode (zbc 343) 255 = .ok (.invokestatic 251, 3) := by decide +kernel
theorem wq343_255 {L9 : Nat} {xs9 : Nat → Int32} {N9 : Nat} : z_SC N9 znl zTs (zZ L9 xs9 N9) zyn zbc zrt zfr zlo (fun _ i => i) ztb 343 255 2 335 4 := sc_S (P := fun _ i => i) zTs_good q343_255 kx_1385 kx_1386 kx_31 kx_1387 rfl ⟨by decide, by decide, by decide +kernel⟩ ⟨Nat.le_of_ble_eq_true rfl, Nat.le_of_ble_eq_true rfl⟩
theorem q343_271 : decode (zbc 343) 271 = .ok (.iconst 1, 1) := by decide +kernel
theorem q343_272 : decode (zbc 343) 272 = .ok (.goto 4, 3) := by decide +kernel
theorem q343_276 : decode (zbc 343) 276 = .ok (.istore 4, 2) := by decide +kernel
theorem q343_278 : decode (zbc 343) 278 = .ok (.iload 16, 2) := by decide +kernel
theorem q343_280 : decode (zbc 343) 280 = .ok (.ifCond .eq 54, 3) := by decide +kernel
theorem q343_334 : decode (zbc 343) 334 = .ok (.iinc 14 1, 3) := by decide +kernel
theorem q343_337 : decode (zbc 343) 337 = .ok (.goto (-178), 3) := by decide +kernel
theorem q343_283 : decode (zbc 343) 283 = .ok (.aload_n 0, 1) := by decide +kernel
theorem q343_284 : decode (zbc 343) 284 = .ok (.bipush 39, 2) := by decide +kernel
theorem q343_286 : decode (zbc 343) 286 = .ok (.iload 5, 2) := by decide +kernel
theorem q343_288 : decode (zbc 343) 288 = .ok (.iload 14, 2) := by decide +kernel
theorem q343_290 : decode (zbc 343) 290 = .ok (.invokestatic 251, 3) := by decide +kernel
theorem wq343_290 {L9 : Nat} {xs9 : Nat → Int32} {N9 : Nat} : z_SC N9 znl zTs (zZ L9 xs9 N9) zyn zbc zrt zfr zlo (fun _ i => i) ztb 343 290 2 335 4 := sc_S (P := fun _ i => i) zTs_good q343_290 kx_1385 kx_1386 kx_31 kx_1387 rfl ⟨by decide, by decide, by decide +kernel⟩ ⟨Nat.le_of_ble_eq_true rfl, Nat.le_of_ble_eq_true rfl⟩
theorem q343_293 : decode (zbc 343) 293 = .ok (.iconst 1, 1) := by decide +kernel
theorem q343_294 : decode (zbc 343) 294 = .ok (.if_icmp .eq 40, 3) := by decide +kernel
theorem q343_297 : decode (zbc 343) 297 = .ok (.aload_n 0, 1) := by decide +kernel
theorem q343_298 : decode (zbc 343) 298 = .ok (.bipush 40, 2) := by decide +kernel
theorem q343_300 : decode (zbc 343) 300 = .ok (.iload 5, 2) := by decide +kernel
theorem q343_302 : decode (zbc 343) 302 = .ok (.iload 14, 2) := by decide +kernel
theorem q343_304 : decode (zbc 343) 304 = .ok (.invokestatic 251, 3) := by decide +kernel
theorem wq343_304 {L9 : Nat} {xs9 : Nat → Int32} {N9 : Nat} : z_SC N9 znl zTs (zZ L9 xs9 N9) zyn zbc zrt zfr zlo (fun _ i => i) ztb 343 304 2 335 4 := sc_S (P := fun _ i => i) zTs_good q343_304 kx_1385 kx_1386 kx_31 kx_1387 rfl ⟨by decide, by decide, by decide +kernel⟩ ⟨Nat.le_of_ble_eq_true rfl, Nat.le_of_ble_eq_true rfl⟩
theorem q343_307 : decode (zbc 343) 307 = .ok (.iconst 1, 1) := by decide +kernel
theorem q343_308 : decode (zbc 343) 308 = .ok (.if_icmp .eq 26, 3) := by decide +kernel
theorem q343_311 : decode (zbc 343) 311 = .ok (.iload 12, 2) := by decide +kernel
theorem q343_313 : decode (zbc 343) 313 = .ok (.ifCond .lt 13, 3) := by decide +kernel
theorem q343_326 : decode (zbc 343) 326 = .ok (.iload 14, 2) := by decide +kernel
theorem q343_328 : decode (zbc 343) 328 = .ok (.istore 12, 2) := by decide +kernel
theorem q343_330 : decode (zbc 343) 330 = .ok (.iload 15, 2) := by decide +kernel
theorem q343_332 : decode (zbc 343) 332 = .ok (.istore 13, 2) := by decide +kernel
theorem q343_316 : decode (zbc 343) 316 = .ok (.iload 15, 2) := by decide +kernel
theorem q343_318 : decode (zbc 343) 318 = .ok (.iload 13, 2) := by decide +kernel
theorem q343_320 : decode (zbc 343) 320 = .ok (.if_icmp .lt 6, 3) := by decide +kernel
theorem q343_323 : decode (zbc 343) 323 = .ok (.goto 11, 3) := by decide +kernel
theorem tr_l {X : Nat × (Nat → Int32)} {B : Int} {sv : Nat → Int → Int} {u : Int} {h : Nat → Int → Int} {s : Int → Int} {b : WB} {c d : Nat} {F : GM} {Y : DY} {Q : WQ} (hb1 : c ≤ b.1) (hb2 : d ≤ b.2.1) {t : Nat} (ht : (t : Int) < s 5) {r2 r3 r8 r9 r10 : Value} (hk : ∀ G le a15 a16, PG B sv u h s G → wW (229, X) 343 b 340 [.ref 192, .int (zi (s 5)), r2, r3, .int (zi 1), .int (zi (t : Int)), .int (zi (s (214 + 7 * (t : Int) + 0))), .int (zi (s (214 + 7 * (t : Int) + 1))), r8, r9, r10, .int (zi (flS s (t : Int) (s 4).toNat)), .int (zi (sNear s (t : Int) (s 4).toNat)), .int (zi le), .int (zi ((s 4).toNat : Int)), a15, a16] [] G F Y c d Q) : ∀ (d9 : Nat) (k : Nat) (le : Int) (a15 a16 : Value) (G : GM), s 4 - (k : Int) < (d9 : Int) → (k : Int) ≤ s 4 → PG B sv u h s G → zr le → (0 ≤ sNear s (t : Int) k → le = sFarL s (t : Int) (sNear s (t : Int) k)) → wW (229, X) 343 b 159 [.ref 192, .int (zi (s 5)), r2, r3, .int (zi 1), .int (zi (t : Int)), .int (zi (s (214 + 7 * (t : Int) + 0))), .int (zi (s (214 + 7 * (t : Int) + 1))), r8, r9, r10, .int (zi (flS s (t : Int) k)), .int (zi (sNear s (t : Int) k)), .int (zi le), .int (zi (k : Int)), a15, a16] [] G F Y c d Q := by
  intro d9
  induction d9 with
  | zero =>
    intro k
    intros
    exact absurd (by assumption) (by omega)
  | succ d9 ih =>
      intro k le a15 a16 G hd hk9 p hz hle
      have a4b := p.ok.2.2.2.2.1
      have a5b := p.ok.2.2.2.2.2.1
      have a0 := p.ok.1
      have a1 := p.ok.2.1
      have hnr := sNear_rng s (t : Int) k
      have hw9 := wOk_w p.ok (t := (t : Int)) ⟨by omega, by omega⟩
      obtain ⟨m1, m2, m3, m4, m5⟩ := hw9
      refine wi_iload (i := 14) (pc' := 161) q343_159 rfl rfl ?_
      refine wi_aload_n (i := 0) (pc' := 162) q343_161 rfl rfl rfl ?_
      refine wi_cp (u9 := (229, X)) (pc' := 165) wq343_162 rfl (cQ_lightCount (Nat.le_refl _) p.ok p.hR) (fun _ => ⟨_, _, rfl⟩) rfl rfl (by (try dsimp only); omega) (by (try dsimp only); omega) ?_
      refine wi_icmp_ge (t := 340) (pc' := 168) q343_165 (by decide) rfl (by omega) (by omega) ?_ ?_
      · intro h9
        obtain rfl : k = (s 4).toNat := by omega
        exact hk G le a15 a16 p
      · intro h9
        have hl9 := mOk_lt p.ok (l := (k : Int)) (by omega) (by omega)
        obtain ⟨l1, l2, l3, l4, l5⟩ := hl9
        have hfr : 0 ≤ sFarL s (t : Int) (k : Int) ∧ sFarL s (t : Int) (k : Int) ≤ 24 := by
          unfold sFarL sFar zap
          split <;> split <;> omega
        have hsi : 0 ≤ sSight s ∧ sSight s ≤ 20 := sSight_rng (mOk_sg p.ok)
        refine wi_aload_n (i := 0) (pc' := 169) q343_168 rfl rfl rfl ?_
        refine wi_bipush (pc' := 171) q343_169 rfl (by decide) ?_
        refine wi_iload (i := 14) (pc' := 173) q343_171 rfl rfl ?_
        refine wi_cv (u9 := (229, X)) (pc' := 176) wq343_173 rfl (cL_s2 (pL_lightColumn p (by omega)) zLc_i) (fun h => absurd h (by decide)) rfl rfl (vL_light (l := (k : Int)) (f := 0) p.ok (by omega) (by omega)).1 (by (try dsimp only); omega) (by (try dsimp only); omega) ?_
        intro Gp1 p1
        rw [(vL_light (l := (k : Int)) (f := 0) p.ok (by omega) (by omega)).2]
        refine wi_iload (i := 6) (pc' := 178) q343_176 rfl rfl ?_
        refine wi_isub (pc' := 179) q343_178 rfl ?_
        refine wi_mabs (pc' := 182) q343_179 rfl kxm_1408 (Nat.le_of_ble_eq_true rfl) (Nat.le_of_ble_eq_true rfl) (by omega) (Nat.le_of_ble_eq_true rfl) (by (try dsimp only); omega) (by (try dsimp only); omega) ?_
        refine wi_aload_n (i := 0) (pc' := 183) q343_182 rfl rfl rfl ?_
        refine wi_bipush (pc' := 185) q343_183 rfl (by decide) ?_
        refine wi_iload (i := 14) (pc' := 187) q343_185 rfl rfl ?_
        refine wi_cv (u9 := (229, X)) (pc' := 190) wq343_187 rfl (cL_s2 (pL_lightRow p1 (by omega)) zLc_i) (fun h => absurd h (by decide)) rfl rfl (vL_light (l := (k : Int)) (f := 1) p1.ok (by omega) (by omega)).1 (by (try dsimp only); omega) (by (try dsimp only); omega) ?_
        intro Gp2 p2
        rw [(vL_light (l := (k : Int)) (f := 1) p1.ok (by omega) (by omega)).2]
        refine wi_iload (i := 7) (pc' := 192) q343_190 rfl rfl ?_
        refine wi_isub (pc' := 193) q343_192 rfl ?_
        refine wi_mabs (pc' := 196) q343_193 rfl kxm_1408 (Nat.le_of_ble_eq_true rfl) (Nat.le_of_ble_eq_true rfl) (by omega) (Nat.le_of_ble_eq_true rfl) (by (try dsimp only); omega) (by (try dsimp only); omega) ?_
        refine wi_iadd (pc' := 197) q343_196 rfl ?_
        rw [zap_abs, zap_abs]
        rw [show (zap (s (214 + 7 * (t : Int) + 0)) (s (174 + 5 * (k : Int) + 0)) + zap (s (214 + 7 * (t : Int) + 1)) (s (174 + 5 * (k : Int) + 1)) : Int) = sFarL s (t : Int) (k : Int) from rfl]
        refine wi_istore15 (pc' := 199) q343_197 rfl rfl (Or.inr rfl) ?_
        refine wi_iload (i := 15) (pc' := 201) q343_199 rfl rfl ?_
        refine wi_aload_n (i := 0) (pc' := 202) q343_201 rfl rfl rfl ?_
        refine wi_cp (u9 := (229, X)) (pc' := 205) wq343_202 rfl (cQ_sight (Nat.le_refl _) p2.ok p2.hR) (fun _ => ⟨_, _, rfl⟩) rfl rfl (by (try dsimp only); omega) (by (try dsimp only); omega) ?_
        refine wi_aload_n (i := 0) (pc' := 206) q343_205 rfl rfl rfl ?_
        refine wi_bipush (pc' := 208) q343_206 rfl (by decide) ?_
        refine wi_iload (i := 14) (pc' := 210) q343_208 rfl rfl ?_
        refine wi_cv (u9 := (229, X)) (pc' := 213) wq343_210 rfl (cL_s2 (pL_brightness p2 (by omega)) zLc_i) (fun h => absurd h (by decide)) rfl rfl (vL_light (l := (k : Int)) (f := 2) p2.ok (by omega) (by omega)).1 (by (try dsimp only); omega) (by (try dsimp only); omega) ?_
        intro Gp3 p3
        rw [(vL_light (l := (k : Int)) (f := 2) p2.ok (by omega) (by omega)).2]
        refine wi_iadd (pc' := 214) q343_213 rfl ?_
        refine tr_s (by omega) (by omega) ?_
        rw [show (zb (sFarL s (t : Int) (k : Int) ≤ sSight s + s (174 + 5 * (k : Int) + 2)) : Int) = zb (sSeen s (t : Int) (k : Int)) from rfl]
        refine wi_istore16 (pc' := 224) q343_222 rfl rfl (Or.inr rfl) ?_
        refine tr_f (by omega) (by omega) (by omega) (by omega) p3 ?_
        intro Gp4 p4
        rw [show (if sFarL s (t : Int) (k : Int) = 0 ∧ s (174 + 5 * (k : Int) + 3) = 0 then 1 else flS s (t : Int) k : Int) = flS s (t : Int) (k + 1) from rfl]
        refine wi_iload (i := 4) (pc' := 245) q343_243 rfl rfl ?_
        refine wi_if_eq (t := 275) (pc' := 248) q343_245 (by decide) rfl (by omega) (fun h1 => absurd h1 (by omega)) (fun h1 => ?_)
        refine wi_aload_n (i := 0) (pc' := 249) q343_248 rfl rfl rfl ?_
        refine wi_bipush (pc' := 251) q343_249 rfl (by decide) ?_
        refine wi_iload (i := 5) (pc' := 253) q343_251 rfl rfl ?_
        refine wi_iload (i := 14) (pc' := 255) q343_253 rfl rfl ?_
        refine wi_cv (u9 := (229, X)) (pc' := 258) wq343_255 rfl (cL_s3 (pL_sees p4 (by omega) (by omega)) zLc_i) (fun h => absurd h (by decide)) rfl rfl (vL_sees (s := s) (t := (t : Int)) (l := (k : Int)) (by omega) (by omega)).1 (by (try dsimp only); omega) (by (try dsimp only); omega) ?_
        intro Gp5 p5
        rw [(vL_sees (s := s) (t := (t : Int)) (l := (k : Int)) (by omega) (by omega)).2]
        refine tr_c zb_rng ?_
        refine wi_iconst (pc' := 272) q343_271 rfl ?_
        refine wi_goto (t := 276) q343_272 (by decide) ?_
        refine wi_istore4 (pc' := 278) q343_276 rfl rfl (Or.inr rfl) ?_
        refine wi_iload (i := 16) (pc' := 280) q343_278 rfl rfl ?_
        refine wi_if_eq (t := 334) (pc' := 283) q343_280 (by decide) rfl zr_zb ?_ ?_
        · intro h8
          have hs8 : ¬ sSeen s (t : Int) (k : Int) := fun h => by rw [zb_t h] at h8; omega
          refine wi_iinc14 (pc' := 337) q343_334 rfl rfl (Or.inr rfl) ?_
          refine wi_goto (t := 159) q343_337 (by decide) ?_
          have en : sNear s (t : Int) (k + 1) = sNear s (t : Int) k := if_neg (fun h => hs8 h.1.1)
          rw [show ((k : Int) + 1) = ((k + 1 : Nat) : Int) by omega]
          have e9 := ih (k + 1) le (.int (zi (sFarL s (t : Int) (k : Int)))) (.int (zi (zb (sSeen s (t : Int) (k : Int))))) _ (by omega) (by omega) p5 hz (fun h => by rw [en] at h ⊢; exact hle h)
          rw [en] at e9
          exact e9
        · intro h8
          have hs8 : sSeen s (t : Int) (k : Int) := Decidable.byContradiction (fun h => h8 (zb_f h))
          refine wi_aload_n (i := 0) (pc' := 284) q343_283 rfl rfl rfl ?_
          refine wi_bipush (pc' := 286) q343_284 rfl (by decide) ?_
          refine wi_iload (i := 5) (pc' := 288) q343_286 rfl rfl ?_
          refine wi_iload (i := 14) (pc' := 290) q343_288 rfl rfl ?_
          refine wi_cv (u9 := (229, X)) (pc' := 293) wq343_290 rfl (cL_s3 (pL_hasPassed p5 (by omega) (by omega)) zLc_i) (fun h => absurd h (by decide)) rfl rfl (vL_passed (s := s) (t := (t : Int)) (l := (k : Int)) (by omega) (by omega)).1 (by (try dsimp only); omega) (by (try dsimp only); omega) ?_
          intro Gp6 p6
          rw [(vL_passed (s := s) (t := (t : Int)) (l := (k : Int)) (by omega) (by omega)).2]
          refine wi_iconst (pc' := 294) q343_293 rfl ?_
          refine wi_icmp_eq (t := 334) (pc' := 297) q343_294 (by decide) rfl zr_zb (by omega) ?_ ?_
          · intro h7
            have hp8 := zb_one.mp h7
            refine wi_iinc14 (pc' := 337) q343_334 rfl rfl (Or.inr rfl) ?_
            refine wi_goto (t := 159) q343_337 (by decide) ?_
            have en : sNear s (t : Int) (k + 1) = sNear s (t : Int) k := if_neg (fun h => h.1.2.1 hp8)
            rw [show ((k : Int) + 1) = ((k + 1 : Nat) : Int) by omega]
            have e9 := ih (k + 1) le (.int (zi (sFarL s (t : Int) (k : Int)))) (.int (zi (zb (sSeen s (t : Int) (k : Int))))) _ (by omega) (by omega) p6 hz (fun h => by rw [en] at h ⊢; exact hle h)
            rw [en] at e9
            exact e9
          · intro h7
            have hp8 : ¬ zhas (s (214 + 7 * (t : Int) + 4)) (k : Int) := fun h => h7 (zb_t h)
            refine wi_aload_n (i := 0) (pc' := 298) q343_297 rfl rfl rfl ?_
            refine wi_bipush (pc' := 300) q343_298 rfl (by decide) ?_
            refine wi_iload (i := 5) (pc' := 302) q343_300 rfl rfl ?_
            refine wi_iload (i := 14) (pc' := 304) q343_302 rfl rfl ?_
            refine wi_cv (u9 := (229, X)) (pc' := 307) wq343_304 rfl (cL_s3 (pL_distrusts p6 (by omega) (by omega)) zLc_i) (fun h => absurd h (by decide)) rfl rfl (vL_distr (s := s) (t := (t : Int)) (l := (k : Int)) (by omega) (by omega)).1 (by (try dsimp only); omega) (by (try dsimp only); omega) ?_
            intro Gp7 p7
            rw [(vL_distr (s := s) (t := (t : Int)) (l := (k : Int)) (by omega) (by omega)).2]
            refine wi_iconst (pc' := 308) q343_307 rfl ?_
            refine wi_icmp_eq (t := 334) (pc' := 311) q343_308 (by decide) rfl zr_zb (by omega) ?_ ?_
            · intro h7
              have hd8 := zb_one.mp h7
              refine wi_iinc14 (pc' := 337) q343_334 rfl rfl (Or.inr rfl) ?_
              refine wi_goto (t := 159) q343_337 (by decide) ?_
              have en : sNear s (t : Int) (k + 1) = sNear s (t : Int) k := if_neg (fun h => h.1.2.2 hd8)
              rw [show ((k : Int) + 1) = ((k + 1 : Nat) : Int) by omega]
              have e9 := ih (k + 1) le (.int (zi (sFarL s (t : Int) (k : Int)))) (.int (zi (zb (sSeen s (t : Int) (k : Int))))) _ (by omega) (by omega) p7 hz (fun h => by rw [en] at h ⊢; exact hle h)
              rw [en] at e9
              exact e9
            · intro h7
              have hd8 : ¬ zhas (s (214 + 7 * (t : Int) + 5)) (k : Int) := fun h => h7 (zb_t h)
              refine wi_iload (i := 12) (pc' := 313) q343_311 rfl rfl ?_
              refine wi_if_lt (t := 326) (pc' := 316) q343_313 (by decide) rfl (by omega) ?_ ?_
              · intro h6
                have hh8 : sNear s (t : Int) k < 0 ∨ sFarL s (t : Int) (k : Int) < sFarL s (t : Int) (sNear s (t : Int) k) := Or.inl h6
                refine wi_iload (i := 14) (pc' := 328) q343_326 rfl rfl ?_
                refine wi_istore12 (pc' := 330) q343_328 rfl rfl (Or.inr rfl) ?_
                refine wi_iload (i := 15) (pc' := 332) q343_330 rfl rfl ?_
                refine wi_istore13 (pc' := 334) q343_332 rfl rfl (Or.inr rfl) ?_
                refine wi_iinc14 (pc' := 337) q343_334 rfl rfl (Or.inr rfl) ?_
                refine wi_goto (t := 159) q343_337 (by decide) ?_
                have en : sNear s (t : Int) (k + 1) = (k : Int) := if_pos ⟨⟨hs8, hp8, hd8⟩, hh8⟩
                rw [show ((k : Int) + 1) = ((k + 1 : Nat) : Int) by omega]
                have e9 := ih (k + 1) (sFarL s (t : Int) (k : Int)) (.int (zi (sFarL s (t : Int) (k : Int)))) (.int (zi (zb (sSeen s (t : Int) (k : Int))))) _ (by omega) (by omega) p7 (by omega) (fun _ => by rw [en])
                rw [en] at e9
                exact e9
              · intro h6
                have hl6 := hle (by omega)
                refine wi_iload (i := 15) (pc' := 318) q343_316 rfl rfl ?_
                refine wi_iload (i := 13) (pc' := 320) q343_318 rfl rfl ?_
                refine wi_icmp_lt (t := 326) (pc' := 323) q343_320 (by decide) rfl (by omega) hz ?_ ?_
                · intro h5
                  have hh8 : sNear s (t : Int) k < 0 ∨ sFarL s (t : Int) (k : Int) < sFarL s (t : Int) (sNear s (t : Int) k) := Or.inr (by rw [← hl6]; exact h5)
                  refine wi_iload (i := 14) (pc' := 328) q343_326 rfl rfl ?_
                  refine wi_istore12 (pc' := 330) q343_328 rfl rfl (Or.inr rfl) ?_
                  refine wi_iload (i := 15) (pc' := 332) q343_330 rfl rfl ?_
                  refine wi_istore13 (pc' := 334) q343_332 rfl rfl (Or.inr rfl) ?_
                  refine wi_iinc14 (pc' := 337) q343_334 rfl rfl (Or.inr rfl) ?_
                  refine wi_goto (t := 159) q343_337 (by decide) ?_
                  have en : sNear s (t : Int) (k + 1) = (k : Int) := if_pos ⟨⟨hs8, hp8, hd8⟩, hh8⟩
                  rw [show ((k : Int) + 1) = ((k + 1 : Nat) : Int) by omega]
                  have e9 := ih (k + 1) (sFarL s (t : Int) (k : Int)) (.int (zi (sFarL s (t : Int) (k : Int)))) (.int (zi (zb (sSeen s (t : Int) (k : Int))))) _ (by omega) (by omega) p7 (by omega) (fun _ => by rw [en])
                  rw [en] at e9
                  exact e9
                · intro h5
                  refine wi_goto (t := 334) q343_323 (by decide) ?_
                  refine wi_iinc14 (pc' := 337) q343_334 rfl rfl (Or.inr rfl) ?_
                  refine wi_goto (t := 159) q343_337 (by decide) ?_
                  have en : sNear s (t : Int) (k + 1) = sNear s (t : Int) k := if_neg (fun h => h.2.elim (fun h => by omega) (fun h => by rw [← hl6] at h; omega))
                  rw [show ((k : Int) + 1) = ((k + 1 : Nat) : Int) by omega]
                  have e9 := ih (k + 1) le (.int (zi (sFarL s (t : Int) (k : Int)))) (.int (zi (zb (sSeen s (t : Int) (k : Int))))) _ (by omega) (by omega) p7 hz (fun h => by rw [en] at h ⊢; exact hle h)
                  rw [en] at e9
                  exact e9
