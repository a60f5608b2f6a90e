/-! The program: a traveller acts (printed by wip/whole/src51.py). -/
theorem cR_act_b {N : Nat} {G F : GM} {n : Nat} (hN : 229 ≤ N) {w : Nat} (hw : w < 12) {u : Int → Int} (hok : mOk u) (hR : RX G w u) {t : Int} (t0 : 0 ≤ t) (t1 : t < u 5) (h6 : u (214 + 7 * t + 6) < u 3) (hWy : xWy G u) (hz0 : G (16 * w + 9) t = 0) : zW N 173 16 [.ref 199, .ref (16 * w), .int (zi t), .ref (16 * w + 7), .null] [] G F n (zR fun v G' F' n' => ((v = 0 ∧ u (214 + 7 * t + 3) < 0 ∧ G' = G) ∨ (v = 1 ∧ 0 ≤ u (214 + 7 * t + 3) ∧ RX G' w (sAct1 u t (u (214 + 7 * t + 3))) ∧ xWy G' (sAct1 u t (u (214 + 7 * t + 3))))) ∧ (xSF w G G' ∧ xDn w G G') ∧ F' = F ∧ n' = n) := by
  obtain ⟨c4, -⟩ := RX_n hR
  have b0 := hok.1
  have b1 := hok.2.1
  have b4 := hok.2.2.2.2.1
  have b5 := hok.2.2.2.2.2.1
  obtain ⟨wx, wy, -, wg, -⟩ := hok.2.2.2.2.2.2.2.2.2 t t0 t1
  obtain ⟨hp0, -, -, hp3, hp4, -⟩ := hR.2.2.2.2.2 t t0 t1
  refine zs_aload (ip' := 17) rfl rfl rfl ?_
  refine zs_getR (ip' := 18) rfl rfl (r := 16 * w + 11) (by omega) (zsh_w7 hw) rfl ?_
  refine zs_iload (ip' := 19) rfl rfl rfl ?_
  refine zs_iald (ip' := 20) rfl rfl (by omega) (zsh_w11 hw) (by omega) ?_
  intro hl19 hu19
  rw [hp3] at hl19 hu19 ⊢
  refine zs_istore4 (ip' := 21) rfl rfl ?_
  refine zs_aload (ip' := 22) rfl rfl rfl ?_
  refine zs_getR (ip' := 23) rfl rfl (r := 16 * w + 3) (by omega) (zsh_w0 hw) rfl ?_
  refine zs_iload (ip' := 24) rfl rfl rfl ?_
  refine zW_cP (ip' := 25) rfl rfl (cX_containsL hN hw (by omega)) rfl rfl (z_ok3 (by omega) (zsh_w3 hw) rfl rfl rfl) ?_
  refine zs_if_neB (t := 28) (ip' := 26) rfl rfl ?_ ?_
  · intro h25
    obtain ⟨q0, q1⟩ := h25
    rw [c4] at q1
    obtain ⟨i, hi0⟩ : ∃ i : Nat, u (214 + 7 * t + 3) = (i : Int) := ⟨(u (214 + 7 * t + 3)).toNat, by omega⟩
    rw [hi0] at q0 q1 ⊢
    have l1 : (i : Int) < u 4 := q1
    obtain ⟨lx, ly, -⟩ := hok.2.2.2.2.2.2.2.2.1 (i : Int) (by omega) l1
    have hll := (hR.2.2.2.1 (i : Int) (by omega) l1).1
    refine zs_aload (ip' := 29) rfl rfl rfl ?_
    refine zs_getR (ip' := 30) rfl rfl (r := 16 * w + 8) (by omega) (zsh_w7 hw) rfl ?_
    refine zs_iload (ip' := 31) rfl rfl rfl ?_
    refine zs_iald (ip' := 32) rfl rfl (by omega) (zsh_w8 hw) (by omega) ?_
    intro hl31 hu31
    rw [hp0] at hl31 hu31 ⊢
    refine zs_aload (ip' := 33) rfl rfl rfl ?_
    refine zs_getR (ip' := 34) rfl rfl (r := 16 * w + 3) (by omega) (zsh_w0 hw) rfl ?_
    refine zs_getR (ip' := 35) rfl rfl (r := 16 * w + 4) (by omega) (zsh_w3 hw) rfl ?_
    refine zs_iload (ip' := 36) rfl rfl rfl ?_
    refine zs_iald (ip' := 37) rfl rfl (by omega) (zsh_w4 hw) (by omega) ?_
    intro hl36 hu36
    rw [hll] at hl36 hu36 ⊢
    refine zs_icmp_eq (t := 44) (ip' := 38) rfl rfl (by omega) (by omega) ?_ ?_
    · intro h37
      have hon : sOn u t (i : Int) := ⟨by omega, by omega⟩
      have hoks := hok
      have hRs := hR
      have hzs := hz0
      have hts := t1
      have hls := l1
      refine zs_aload (ip' := 45) rfl rfl rfl ?_
      refine zs_aload (ip' := 46) rfl rfl rfl ?_
      refine zs_iload (ip' := 47) rfl rfl rfl ?_
      refine zs_iload (ip' := 48) rfl rfl rfl ?_
      refine zW_cV (ip' := 49) rfl rfl (cR_settle hN hw hoks hRs t0 hts (by omega) hls hzs) rfl rfl (z_ok3 (by omega) zsh_199 rfl rfl rfl) ?_
      rintro G5 F' n' ⟨⟨hR5, hF5, hD5⟩, rfl, rfl⟩
      refine zs_goto (t := 65) rfl ?_
      refine zs_pushI (ip' := 66) rfl rfl zi_k1 ?_
      refine zW_0b rfl (Or.inr rfl) ?_
      have e : sAct1 u t (i : Int) = sSettle u t (i : Int) := (if_neg (by omega)).trans (if_pos hon)
      obtain ⟨hokS, hzS⟩ := sSettle_ok hoks t0 hts ⟨(by omega : 0 ≤ (i : Int)), hls⟩
      exact ⟨1, rfl, by decide, Or.inr ⟨rfl, by omega, by rw [e]; exact hR5, by rw [e]; exact xWy_mv hoks hWy hzS (fun j j0 j1 => by show sSettle _ t (i : Int) (30 + j) = 1 ↔ _; rw [sSettle_gr t0 (by omega)]) (fun k k0 k1 => hF5 k (by omega))⟩, ⟨xSF_w hF5, hD5⟩, rfl, rfl⟩
    · intro h37
      have hon : ¬ sOn u t (i : Int) := fun q => h37 (by have q1 := q.1; have q2 := q.2; omega)
      refine zs_aload (ip' := 39) rfl rfl rfl ?_
      refine zs_aload (ip' := 40) rfl rfl rfl ?_
      refine zs_iload (ip' := 41) rfl rfl rfl ?_
      refine zs_iload (ip' := 42) rfl rfl rfl ?_
      refine zW_cR (ip' := 43) rfl rfl (cR_move hN hw hok hR t0 t1 (by omega) l1 hon h6 hWy) rfl rfl (z_ok3 (by omega) zsh_199 rfl rfl rfl) ?_
      rintro vv G6 F' n' hvr ⟨hmv, ⟨hSF6, hKp6⟩, rfl, rfl⟩
      refine zs_if_eq (t := 50) (ip' := 44) rfl rfl (by omega) ?_ ?_
      · intro h43
        obtain ⟨-, hmn, hR6, hWy6⟩ := hmv.resolve_right (fun q => absurd (q.1.symm.trans h43) (by decide))
        have hp46 := (hR6.2.2.2.2.2 t t0 t1).2.2.2.2.1
        refine zs_aload (ip' := 51) rfl rfl rfl ?_
        refine zs_getR (ip' := 52) rfl rfl (r := 16 * w + 12) (by omega) (zsh_w7 hw) rfl ?_
        refine zs_iload (ip' := 53) rfl rfl rfl ?_
        refine zs_dup2 (ip' := 54) rfl rfl ?_
        refine zs_iald (ip' := 55) rfl rfl (by omega) (zsh_w12 hw) (by omega) ?_
        intro hl54 hu54
        rw [hp46] at hl54 hu54 ⊢
        refine zs_pushI (ip' := 56) rfl rfl zi_k1 ?_
        refine zs_iload (ip' := 57) rfl rfl rfl ?_
        refine zs_ishl (ip' := 58) rfl rfl ?_
        refine zs_ior (ip' := 59) rfl rfl ?_
        refine zs_iast (ip' := 60) rfl rfl (by omega) (zsh_w12 hw) (by omega) (zr_or _ _) ?_
        have hRp : RX (zk G6 (16 * w + 12) (zp (G6 (16 * w + 12)) t (zor (u (214 + 7 * t + 4)) (zshl 1 (i : Int))))) w (zp u (214 + 7 * t + 4) (zadd (u (214 + 7 * t + 4)) (i : Int))) := RX_w12 hok hR6 t0 t1
        have hokp : mOk (zp u (214 + 7 * t + 4) (zadd (u (214 + 7 * t + 4)) (i : Int))) := mOk_w4 hok t0 t1 trivial
        have hFp : xWf w G6 (zk G6 (16 * w + 12) (zp (G6 (16 * w + 12)) t (zor (u (214 + 7 * t + 4)) (zshl 1 (i : Int))))) := xWf_k (by omega)
        have hKp7 : xKp w G6 (zk G6 (16 * w + 12) (zp (G6 (16 * w + 12)) t (zor (u (214 + 7 * t + 4)) (zshl 1 (i : Int))))) := xKp_k (by omega)
        generalize zk G6 (16 * w + 12) (zp (G6 (16 * w + 12)) t (zor (u (214 + 7 * t + 4)) (zshl 1 (i : Int)))) = G7 at hRp hFp hKp7 ⊢
        have htp : t < (zp u (214 + 7 * t + 4) (zadd (u (214 + 7 * t + 4)) (i : Int))) 5 := by
          rw [zp_ne (by omega)]
          exact t1
        have hzp : sSz u (zp (zp u (214 + 7 * t + 4) (zadd (u (214 + 7 * t + 4)) (i : Int))) (214 + 7 * t + 3) (-1)) := sSz_t (sSz_p (by omega)) (sSz_p (by omega))
        have e : sAct1 u t (i : Int) = zp (zp u (214 + 7 * t + 4) (zadd (u (214 + 7 * t + 4)) (i : Int))) (214 + 7 * t + 3) (-1) := (if_neg (by omega)).trans ((if_neg hon).trans (if_neg hmn))
        refine zs_aload (ip' := 61) rfl rfl rfl ?_
        refine zs_getR (ip' := 62) rfl rfl (r := 16 * w + 11) (by omega) (zsh_w7 hw) rfl ?_
        refine zs_iload (ip' := 63) rfl rfl rfl ?_
        refine zs_pushI (ip' := 64) rfl rfl zi_km1 ?_
        refine zs_iast (ip' := 65) rfl rfl (by omega) (zsh_w11 hw) (by omega) (by omega) ?_
        refine zs_pushI (ip' := 66) rfl rfl zi_k1 ?_
        refine zW_0b rfl (Or.inr rfl) ?_
        exact ⟨1, rfl, by decide, Or.inr ⟨rfl, by omega, by rw [e]; exact RX_w11 hokp hRp t0 htp, by rw [e]; exact xWy_mv hok hWy6 hzp (fun j j0 j1 => by show zp (zp u _ _) _ _ (30 + j) = 1 ↔ _; rw [zp_ne (by omega), zp_ne (by omega)]) (fun k k0 k1 => (zk_ne (by omega)).trans (hFp k (by omega)))⟩, ⟨xSF_t hSF6 (xSF_t (xSF_w hFp) (xSF_w (xWf_k (by omega)))), xKp_d (xKp_t hKp6 (xKp_t hKp7 (xKp_k (by omega))))⟩, rfl, rfl⟩
      · intro h43
        obtain ⟨-, hmf, hRs, hWy6⟩ := hmv.resolve_left (fun q => h43 q.1)
        have hzs : G6 (16 * w + 9) t = 0 := by rw [hKp6.2.1]; exact hz0
        obtain ⟨hoks, hzm⟩ := sMoved_ok hok t0 t1 ⟨(by omega : 0 ≤ (i : Int)), l1⟩ (zst_l hok ⟨(by omega : 0 ≤ (i : Int)), l1⟩) hon hmf h6
        have hts : t < sMoved u t (i : Int) 5 := by rw [hzm.2.2.2.2.2.1]; exact t1
        have hls : (i : Int) < sMoved u t (i : Int) 4 := by rw [hzm.2.2.2.2.1]; exact l1
        refine zs_aload (ip' := 45) rfl rfl rfl ?_
        refine zs_aload (ip' := 46) rfl rfl rfl ?_
        refine zs_iload (ip' := 47) rfl rfl rfl ?_
        refine zs_iload (ip' := 48) rfl rfl rfl ?_
        refine zW_cV (ip' := 49) rfl rfl (cR_settle hN hw hoks hRs t0 hts (by omega) hls hzs) rfl rfl (z_ok3 (by omega) zsh_199 rfl rfl rfl) ?_
        rintro G5 F' n' ⟨⟨hR5, hF5, hD5⟩, rfl, rfl⟩
        refine zs_goto (t := 65) rfl ?_
        refine zs_pushI (ip' := 66) rfl rfl zi_k1 ?_
        refine zW_0b rfl (Or.inr rfl) ?_
        have e : sAct1 u t (i : Int) = sSettle (sMoved u t (i : Int)) t (i : Int) := (if_neg (by omega)).trans ((if_neg hon).trans (if_pos hmf))
        obtain ⟨hokS, hzS⟩ := sSettle_ok hoks t0 hts ⟨(by omega : 0 ≤ (i : Int)), hls⟩
        exact ⟨1, rfl, by decide, Or.inr ⟨rfl, by omega, by rw [e]; exact hR5, by rw [e]; exact xWy_mv hoks hWy6 hzS (fun j j0 j1 => by show sSettle _ t (i : Int) (30 + j) = 1 ↔ _; rw [sSettle_gr t0 (by omega)]) (fun k k0 k1 => hF5 k (by omega))⟩, ⟨xSF_t hSF6 (xSF_w hF5), xDn_t (xKp_d hKp6) hD5⟩, rfl, rfl⟩
  · intro h25
    refine zs_pushI (ip' := 27) rfl rfl zi_k0 ?_
    refine zW_0b rfl (Or.inl rfl) ?_
    exact ⟨0, rfl, zr0, Or.inl ⟨rfl, by omega, rfl⟩, ⟨fun _ _ _ => rfl, xKp_d (xKp_r _ _)⟩, rfl, rfl⟩
