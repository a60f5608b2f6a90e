/-! The program: a traveller chooses and acts (printed by wip/whole/src52.py). -/
theorem xAct_w {G G1 F : GM} {n w : Nat} {s u : Int → Int} {t : Int} (hu : sAim s t = u) (hR1 : RX G1 w u) (hW1 : xWy G1 u) (hS1 : xSF w G G1) (hD1 : xDn w G G1) (o : Zo) (G' F' : GM) (n' : Nat) (h : (zR fun v G' F' n' => ((v = 0 ∧ u (214 + 7 * t + 3) < 0 ∧ G' = G1) ∨ (v = 1 ∧ 0 ≤ u (214 + 7 * t + 3) ∧ RX G' w (sAct1 u t (u (214 + 7 * t + 3))) ∧ xWy G' (sAct1 u t (u (214 + 7 * t + 3))))) ∧ (xSF w G1 G' ∧ xDn w G1 G') ∧ F' = F ∧ n' = n) o G' F' n') : (zR fun v G' F' n' => (((v = 0 ∧ sAim s t (214 + 7 * t + 3) < 0) ∨ (v = 1 ∧ 0 ≤ sAim s t (214 + 7 * t + 3))) ∧ RX G' w (sAct s t) ∧ xWy G' (sAct s t)) ∧ (xSF w G G' ∧ xDn w G G') ∧ F' = F ∧ n' = n) o G' F' n' := by
  subst hu
  obtain ⟨v, ho, hv, h1, h2, h3, h4⟩ := h
  refine ⟨v, ho, hv, ?_, ⟨xSF_t hS1 h2.1, xDn_t hD1 h2.2⟩, h3, h4⟩
  rcases h1 with ⟨a, b, rfl⟩ | ⟨a, b, c, e⟩
  · have e1 : sAct s t = sAim s t := if_pos b
    rw [e1]
    exact ⟨Or.inl ⟨a, b⟩, hR1, hW1⟩
  · exact ⟨Or.inr ⟨a, b⟩, c, e⟩
theorem cR_act {N : Nat} {G F : GM} {n : Nat} (hN : 229 ≤ N) {w : Nat} (hw : w < 12) {s : Int → Int} (hok : mOk s) (hR : RX G w s) {t : Int} (t0 : 0 ≤ t) (t1 : t < s 5) (h6 : s (214 + 7 * t + 6) < s 3) (hWy : xWy G s) (hz0 : G (16 * w + 9) t = 0) : zC N 173 [.ref 199, .ref (16 * w), .int (zi t)] G F n (zR fun v G' F' n' => (((v = 0 ∧ sAim s t (214 + 7 * t + 3) < 0) ∨ (v = 1 ∧ 0 ≤ sAim s t (214 + 7 * t + 3))) ∧ RX G' w (sAct s t) ∧ xWy G' (sAct s t)) ∧ (xSF w G G' ∧ xDn w G G') ∧ F' = F ∧ n' = n) := by
  obtain ⟨-, -, -, hp3, -⟩ := hR.2.2.2.2.2 t t0 t1
  have b4 := hok.2.2.2.2.1
  have b5 := hok.2.2.2.2.2.1
  obtain ⟨-, -, -, wg, -⟩ := hok.2.2.2.2.2.2.2.2.2 t t0 t1
  have hnr := sNear_rng s t (s 4).toNat
  refine zC_i (L0 := [.ref 199, .ref (16 * w), .int (zi t), .null, .null]) rfl ?_
  refine zs_aload (ip' := 1) rfl rfl rfl ?_
  refine zs_getR (ip' := 2) rfl rfl (r := 16 * w + 7) (by omega) (zsh_w0 hw) rfl ?_
  refine zs_astore3 (ip' := 3) rfl rfl ?_
  refine zs_aload (ip' := 4) rfl rfl rfl ?_
  refine zs_getR (ip' := 5) rfl rfl (r := 16 * w + 11) (by omega) (zsh_w7 hw) rfl ?_
  refine zs_iload (ip' := 6) rfl rfl rfl ?_
  refine zs_iald (ip' := 7) rfl rfl (by omega) (zsh_w11 hw) (by omega) ?_
  intro hl6 hu6
  rw [hp3] at hl6 hu6 ⊢
  refine zs_pushI (ip' := 8) rfl rfl zi_km1 ?_
  refine zs_icmp_ne (t := 16) (ip' := 9) rfl rfl (by omega) (by omega) ?_ ?_
  · intro h8
    exact zW_w (xAct_w (if_neg (by omega)) hR hWy (fun _ _ _ => rfl) (xKp_d (xKp_r _ _))) (cR_act_b hN hw hok hR t0 t1 h6 hWy hz0)
  · intro h8
    refine zs_aload (ip' := 10) rfl rfl rfl ?_
    refine zs_getR (ip' := 11) rfl rfl (r := 16 * w + 11) (by omega) (zsh_w7 hw) rfl ?_
    refine zs_iload (ip' := 12) rfl rfl rfl ?_
    refine zs_aload (ip' := 13) rfl rfl rfl ?_
    refine zs_iload (ip' := 14) rfl rfl rfl ?_
    refine zW_cP (ip' := 15) rfl rfl (cR_near hN hw hok hR t0 t1) rfl rfl (z_ok3 (by omega) (zsh_w0 hw) rfl rfl rfl) ?_
    refine zs_iast (ip' := 16) rfl rfl (by omega) (zsh_w11 hw) (by omega) (by omega) ?_
    have hR1 : RX (zk G (16 * w + 11) (zp (G (16 * w + 11)) t (sNear s t (s 4).toNat))) w (zp s (214 + 7 * t + 3) (sNear s t (s 4).toNat)) := RX_w11 hok hR t0 t1
    have hF1 : xWf w G (zk G (16 * w + 11) (zp (G (16 * w + 11)) t (sNear s t (s 4).toNat))) := xWf_k (by omega)
    have hW1 : xWy (zk G (16 * w + 11) (zp (G (16 * w + 11)) t (sNear s t (s 4).toNat))) (zp s (214 + 7 * t + 3) (sNear s t (s 4).toNat)) := xWy_mv hok hWy (sSz_p (by omega)) (fun j j0 j1 => by show zp s _ _ (30 + j) = 1 ↔ _; rw [zp_ne (by omega)]) (fun k k0 k1 => zk_ne (by omega))
    have hKp1 : xKp w G (zk G (16 * w + 11) (zp (G (16 * w + 11)) t (sNear s t (s 4).toNat))) := xKp_k (by omega)
    generalize zk G (16 * w + 11) (zp (G (16 * w + 11)) t (sNear s t (s 4).toNat)) = G1 at hR1 hF1 hW1 hKp1 ⊢
    have hz1 : G1 (16 * w + 9) t = 0 := by rw [hKp1.2.1]; exact hz0
    have hok1 : mOk (zp s (214 + 7 * t + 3) (sNear s t (s 4).toNat)) := mOk_w3 hok t0 t1 (by omega)
    have eA : sAim s t = (zp s (214 + 7 * t + 3) (sNear s t (s 4).toNat)) := if_pos (by omega)
    have e5 : (zp s (214 + 7 * t + 3) (sNear s t (s 4).toNat)) 5 = s 5 := zp_ne (by omega)
    have e3 : (zp s (214 + 7 * t + 3) (sNear s t (s 4).toNat)) 3 = s 3 := zp_ne (by omega)
    have e6 : (zp s (214 + 7 * t + 3) (sNear s t (s 4).toNat)) (214 + 7 * t + 6) = s (214 + 7 * t + 6) := zp_ne (by omega)
    exact zW_w (xAct_w eA hR1 hW1 (xSF_w hF1) (xKp_d hKp1)) (cR_act_b hN hw hok1 hR1 t0 (by omega) (by omega) hW1 hz1)
