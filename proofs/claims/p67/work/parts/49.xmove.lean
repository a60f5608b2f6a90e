/-! The program: a traveller moves (printed by wip/whole/src49.py). -/
theorem cR_move_b {N : Nat} {G0 G F : GM} {n : Nat} (hN : 229 ≤ N) {w : Nat} (hw : w < 12) {s : Int → Int} (hok : mOk s) (hR : RX G w s) {t : Int} (t0 : 0 ≤ t) (t1 : t < s 5) {i : Nat} (i0 : i < 8) (l1 : (i : Int) < s 4) (hon : ¬ sOn s t (i : Int)) (h6 : s (214 + 7 * t + 6) < s 3) (hWy : xWy G s) (hD : zDist (s 0) (s 1) (mWt s) (fun p => p = 12 * s (174 + 5 * (i : Int) + 1) + s (174 + 5 * (i : Int) + 0)) True (G (201 + 3 * i + 1))) (hSF : xSF w G0 G) (hKp : xKp w G0 G) : zW N 174 17 [.ref 199, .ref (16 * w), .int (zi t), .int (zi (i : Int)), .ref (201 + 3 * i), .null, .null] [] G F n (zR fun v G' F' n' => ((v = 0 ∧ ¬ 0 ≤ sFarT s t (i : Int) ∧ RX G' w s ∧ xWy G' s) ∨ (v = 1 ∧ 0 ≤ sFarT s t (i : Int) ∧ RX G' w (sMoved s t (i : Int)) ∧ xWy G' (sMoved s t (i : Int)))) ∧ (xSF w G0 G' ∧ xKp w G0 G') ∧ F' = F ∧ n' = n) := by
  have hi : i < 9 := by omega
  obtain ⟨c0, c1, -⟩ := id hR.1
  have b0 := hok.1
  have b1 := hok.2.1
  have b5 := hok.2.2.2.2.2.1
  have b3 := hok.2.2.2.1
  obtain ⟨wx, wy, -, -, ws⟩ := hok.2.2.2.2.2.2.2.2.2 t t0 t1
  obtain ⟨hp0, -, hp6, -⟩ := hR.2.2.2.2.2 t t0 t1
  obtain ⟨n1, n2⟩ := xMove_nx hok hR t0 t1 (by omega : 0 ≤ (i : Int)) l1 hon hD
  have hM := zst_l hok ⟨(by omega : 0 ≤ (i : Int)), l1⟩
  refine zs_aload (ip' := 18) rfl rfl rfl ?_
  refine zs_getR (ip' := 19) rfl rfl (r := 16 * w + 7) (by omega) (zsh_w0 hw) rfl ?_
  refine zs_getR (ip' := 20) rfl rfl (r := 16 * w + 8) (by omega) (zsh_w7 hw) rfl ?_
  refine zs_iload (ip' := 21) rfl rfl rfl ?_
  refine zs_iald (ip' := 22) rfl rfl (by omega) (zsh_w8 hw) (by omega) ?_
  intro hl21 hu21
  rw [hp0] at hl21 hu21 ⊢
  refine zs_istore5 (ip' := 23) rfl rfl ?_
  refine zs_aload (ip' := 24) rfl rfl rfl ?_
  refine zs_aload (ip' := 25) rfl rfl rfl ?_
  refine zs_getR (ip' := 26) rfl rfl (r := 16 * w + 1) (by omega) (zsh_w0 hw) rfl ?_
  refine zs_iload (ip' := 27) rfl rfl rfl ?_
  refine zW_cP (ip' := 28) rfl rfl (cX_next hN hw hi (by omega) (by omega) (by omega)) rfl rfl (z_ok3 (by omega) (zsh_d0 hi) rfl rfl rfl) ?_
  rw [c0, c1]
  obtain ⟨v, hv⟩ : ∃ v, v = xNx (s 0) (s 1) (G (16 * w + 2)) (G (201 + 3 * i + 1)) (12 * s (214 + 7 * t + 1) + s (214 + 7 * t + 0)) := ⟨_, rfl⟩
  rw [← hv] at n1 n2 ⊢
  have hvr : zr v := by
    by_cases hf : 0 ≤ sFarT s t (i : Int)
    · obtain ⟨-, -, -, -, hin⟩ := sWay_ok hok t0 t1 ⟨(by omega : 0 ≤ (i : Int)), l1⟩ hM hon hf
      obtain ⟨⟨q1, q2⟩, q3, q4⟩ := hin
      have := n1 hf
      exact ⟨by omega, by omega⟩
    · rw [n2 hf]
      decide
  refine zs_istore6 (ip' := 29) rfl rfl ?_
  refine zs_iload (ip' := 30) rfl rfl rfl ?_
  refine zs_pushI (ip' := 31) rfl rfl zi_km1 ?_
  refine zs_icmp_ne (t := 34) (ip' := 32) rfl rfl (by omega) (by omega) ?_ ?_
  · intro h31
    have hf : 0 ≤ sFarT s t (i : Int) := by
      by_cases q : 0 ≤ sFarT s t (i : Int)
      · exact q
      · exact absurd (n2 q) h31
    have hvz := n1 hf
    obtain ⟨-, -, -, -, hin⟩ := sWay_ok hok t0 t1 ⟨(by omega : 0 ≤ (i : Int)), l1⟩ hM hon hf
    obtain ⟨hokM, hzM⟩ := sMoved_ok hok t0 t1 ⟨(by omega : 0 ≤ (i : Int)), l1⟩ hM hon hf h6
    obtain ⟨⟨q1, q2⟩, q3, q4⟩ := id hin
    refine zs_aload (ip' := 35) rfl rfl rfl ?_
    refine zs_getR (ip' := 36) rfl rfl (r := 16 * w + 7) (by omega) (zsh_w0 hw) rfl ?_
    refine zs_getR (ip' := 37) rfl rfl (r := 16 * w + 8) (by omega) (zsh_w7 hw) rfl ?_
    refine zs_iload (ip' := 38) rfl rfl rfl ?_
    refine zs_iload (ip' := 39) rfl rfl rfl ?_
    refine zs_iast (ip' := 40) rfl rfl (by omega) (zsh_w8 hw) (by omega) (by omega) ?_
    rw [hvz]
    have hR1 : RX (zk G (16 * w + 8) (zp (G (16 * w + 8)) t (12 * (s (214 + 7 * t + 1) + zsy (sWay s t (i : Int))) + (s (214 + 7 * t + 0) + zsx (sWay s t (i : Int)))))) w (zp (zp s (214 + 7 * t + 0) (s (214 + 7 * t + 0) + zsx (sWay s t (i : Int)))) (214 + 7 * t + 1) (s (214 + 7 * t + 1) + zsy (sWay s t (i : Int)))) := RX_w8 hok hR t0 t1
    have hW1 : xWf w G (zk G (16 * w + 8) (zp (G (16 * w + 8)) t (12 * (s (214 + 7 * t + 1) + zsy (sWay s t (i : Int))) + (s (214 + 7 * t + 0) + zsx (sWay s t (i : Int)))))) := xWf_k (by omega)
    have hKp1 : xKp w G (zk G (16 * w + 8) (zp (G (16 * w + 8)) t (12 * (s (214 + 7 * t + 1) + zsy (sWay s t (i : Int))) + (s (214 + 7 * t + 0) + zsx (sWay s t (i : Int)))))) := xKp_k (by omega)
    generalize zk G (16 * w + 8) (zp (G (16 * w + 8)) t (12 * (s (214 + 7 * t + 1) + zsy (sWay s t (i : Int))) + (s (214 + 7 * t + 0) + zsx (sWay s t (i : Int))))) = G1 at hR1 hW1 hKp1 ⊢
    have hok1 : mOk (zp (zp s (214 + 7 * t + 0) (s (214 + 7 * t + 0) + zsx (sWay s t (i : Int)))) (214 + 7 * t + 1) (s (214 + 7 * t + 1) + zsy (sWay s t (i : Int)))) := mOk_w1 (mOk_w0 hok t0 t1 (by omega)) t0 (by rw [zp_ne (by omega)]; exact t1) (by rw [zp_ne (by omega)]; omega)
    have t15 : t < (zp (zp s (214 + 7 * t + 0) (s (214 + 7 * t + 0) + zsx (sWay s t (i : Int)))) (214 + 7 * t + 1) (s (214 + 7 * t + 1) + zsy (sWay s t (i : Int)))) 5 := by
      rw [zp_ne (by omega), zp_ne (by omega)]
      exact t1
    have hp61 := (hR1.2.2.2.2.2 t t0 t15).2.2.1
    rw [zp_ne (by omega), zp_ne (by omega)] at hp61
    refine zs_aload (ip' := 41) rfl rfl rfl ?_
    refine zs_getR (ip' := 42) rfl rfl (r := 16 * w + 7) (by omega) (zsh_w0 hw) rfl ?_
    refine zs_getR (ip' := 43) rfl rfl (r := 16 * w + 10) (by omega) (zsh_w7 hw) rfl ?_
    refine zs_iload (ip' := 44) rfl rfl rfl ?_
    refine zs_dup2 (ip' := 45) rfl rfl ?_
    refine zs_iald (ip' := 46) rfl rfl (by omega) (zsh_w10 hw) (by omega) ?_
    intro hl45 hu45
    rw [hp61] at hl45 hu45 ⊢
    refine zs_pushI (ip' := 47) rfl rfl zi_k1 ?_
    refine zs_iadd (ip' := 48) rfl rfl ?_
    refine zs_iast (ip' := 49) rfl rfl (by omega) (zsh_w10 hw) (by omega) (by omega) ?_
    have hR2 : RX (zk G1 (16 * w + 10) (zp (G1 (16 * w + 10)) t (s (214 + 7 * t + 6) + 1))) w (sStepTo s t (sWay s t (i : Int))) := RX_w10 hok1 hR1 t0 t15
    have hW2 : xWf w G (zk G1 (16 * w + 10) (zp (G1 (16 * w + 10)) t (s (214 + 7 * t + 6) + 1))) := xWf_t hW1 (xWf_k (by omega))
    have hKp2 : xKp w G (zk G1 (16 * w + 10) (zp (G1 (16 * w + 10)) t (s (214 + 7 * t + 6) + 1))) := xKp_t hKp1 (xKp_k (by omega))
    generalize zk G1 (16 * w + 10) (zp (G1 (16 * w + 10)) t (s (214 + 7 * t + 6) + 1)) = G2 at hR2 hW2 hKp2 ⊢
    obtain ⟨hok2, hz2⟩ := sStepTo_ok hok t0 t1 hin h6
    have hx2 : 0 ≤ s (214 + 7 * t + 0) ∧ s (214 + 7 * t + 0) < sStepTo s t (sWay s t (i : Int)) 0 := by rw [hz2.1]; exact wx
    have hy2 : 0 ≤ s (214 + 7 * t + 1) ∧ s (214 + 7 * t + 1) < sStepTo s t (sWay s t (i : Int)) 1 := by rw [hz2.2.1]; exact wy
    refine zs_aload (ip' := 50) rfl rfl rfl ?_
    refine zs_getR (ip' := 51) rfl rfl (r := 16 * w + 1) (by omega) (zsh_w0 hw) rfl ?_
    refine zs_iload (ip' := 52) rfl rfl rfl ?_
    refine zW_cR (ip' := 53) rfl rfl (cX_wear hN hw (by omega)) rfl rfl (z_ok3 (by omega) (zsh_w1 hw) rfl rfl rfl) ?_
    rintro vv G3 F' n' _ ⟨hwr, rfl, rfl⟩
    obtain ⟨hR3, hF3, hK3, hv01, hwt⟩ := RX_wear hok2 hR2 hx2 hy2 hwr
    have hKp3 : xKp w G2 G3 := ⟨hK3 _ (by omega), hK3 _ (by omega), hK3 _ (by omega)⟩
    refine zs_if_eq (t := 56) (ip' := 54) rfl rfl (by omega) ?_ ?_
    · intro h53
      refine zs_pushI (ip' := 57) rfl rfl zi_k1 ?_
      refine zW_0b rfl (Or.inr rfl) ?_
      exact ⟨1, rfl, by decide, Or.inr ⟨rfl, hf, hR3, xWy_mv hok hWy hzM (fun j j0 j1 => (hwt h53 j).trans (sStepTo_wt t0 j1)) (fun k k0 k1 => (hK3 k (by omega)).trans (hW2 k (by omega)))⟩, ⟨xSF_t hSF (xSF_w (xWf_t hW2 hF3)), xKp_t hKp (xKp_t hKp2 hKp3)⟩, rfl, rfl⟩
    · intro h53
      refine zs_aload (ip' := 55) rfl rfl rfl ?_
      refine zW_cV (ip' := 56) rfl rfl (cX_noways hN) rfl rfl (z_ok3 (by omega) zsh_199 rfl rfl rfl) ?_
      rintro G4 F' n' ⟨hno, rfl, rfl⟩
      refine zs_pushI (ip' := 57) rfl rfl zi_k1 ?_
      refine zW_0b rfl (Or.inr rfl) ?_
      exact ⟨1, rfl, by decide, Or.inr ⟨rfl, hf, RX_frz hR3 hno.1 hw, xNo_wy hno _⟩, ⟨xSF_t (xSF_t hSF (xSF_w (xWf_t hW2 hF3))) (fun k _ b => hno.1 k b), xKp_t (xKp_t hKp (xKp_t hKp2 hKp3)) ⟨hno.1 _ (by omega), hno.1 _ (by omega), hno.1 _ (by omega)⟩⟩, rfl, rfl⟩
  · intro h31
    have hnf : ¬ 0 ≤ sFarT s t (i : Int) := fun hf => by
      obtain ⟨-, -, -, -, hin⟩ := sWay_ok hok t0 t1 ⟨(by omega : 0 ≤ (i : Int)), l1⟩ hM hon hf
      obtain ⟨⟨q1, q2⟩, q3, q4⟩ := hin
      have := n1 hf
      omega
    refine zs_pushI (ip' := 33) rfl rfl zi_k0 ?_
    refine zW_0b rfl (Or.inl rfl) ?_
    exact ⟨0, rfl, zr0, Or.inl ⟨rfl, hnf, hR, hWy⟩, ⟨hSF, hKp⟩, rfl, rfl⟩
