/-! The program: a traveller settles (printed by wip/whole/src47.py). -/
theorem cR_settle {N : Nat} {G F : GM} {n : Nat} (hN : 229 ≤ N) {w : Nat} (hw : w < 12) {s : Int → Int} (hok : mOk s) (hR : RX G w s) {t l : Int} (t0 : 0 ≤ t) (t1 : t < s 5) (l0 : 0 ≤ l) (l1 : l < s 4) (hz0 : G (16 * w + 9) t = 0) : zC N 175 [.ref 199, .ref (16 * w), .int (zi t), .int (zi l)] G F n (zV fun G' F' n' => (RX G' w (sSettle s t l) ∧ xWf w G G' ∧ xDn w G G') ∧ F' = F ∧ n' = n) := by
  obtain ⟨e4, e5⟩ := RX_n hR
  have b4 := hok.2.2.2.2.1
  have b5 := hok.2.2.2.2.2.1
  obtain ⟨hp0, -⟩ := hR.2.2.2.2.2 t t0 t1
  obtain ⟨wx, wy, -⟩ := (hok.2.2.2.2.2.2.2.2.2 t t0 t1)
  obtain ⟨lx, ly, -, hli, -⟩ := (hok.2.2.2.2.2.2.2.2.1 l l0 l1)
  have b0 := hok.1
  have b1 := hok.2.1
  have hll := (hR.2.2.2.1 l l0 l1).1
  have hbt := hR.2.2.2.2.1 l l0 (by omega)
  have hgr := hR.2.2.1 (s (214 + 7 * t + 0)) (s (214 + 7 * t + 1)) wx.1 wx.2 wy.1 wy.2
  have hg11 := (zgc_rng (mOk_g hok (x := s (214 + 7 * t + 0)) (y := s (214 + 7 * t + 1)) ⟨wx.1, by omega⟩ ⟨wy.1, by omega⟩)).2.2.1
  rw [← hgr] at hg11
  refine zC_i (L0 := [.ref 199, .ref (16 * w), .int (zi t), .int (zi l), .null, .null]) rfl ?_
  refine zs_aload (ip' := 1) rfl rfl rfl ?_
  refine zs_getR (ip' := 2) rfl rfl (r := 16 * w + 7) (by omega) (zsh_w0 hw) rfl ?_
  refine zs_astore4 (ip' := 3) rfl rfl ?_
  refine zs_aload (ip' := 4) rfl rfl rfl ?_
  refine zs_getR (ip' := 5) rfl rfl (r := 16 * w + 8) (by omega) (zsh_w7 hw) rfl ?_
  refine zs_iload (ip' := 6) rfl rfl rfl ?_
  refine zs_iald (ip' := 7) rfl rfl (by omega) (zsh_w8 hw) (by omega) ?_
  intro hl6 hu6
  rw [hp0] at hl6 hu6 ⊢
  refine zs_istore5 (ip' := 8) rfl rfl ?_
  refine zs_aload (ip' := 9) rfl rfl rfl ?_
  refine zs_getR (ip' := 10) rfl rfl (r := 16 * w + 1) (by omega) (zsh_w0 hw) rfl ?_
  refine zs_getR (ip' := 11) rfl rfl (r := 16 * w + 2) (by omega) (zsh_w1 hw) rfl ?_
  refine zs_iload (ip' := 12) rfl rfl rfl ?_
  refine zs_iald (ip' := 13) rfl rfl (by omega) (zsh_w2 hw) (by omega) ?_
  intro hl12 hu12
  refine zs_pushI (ip' := 14) rfl rfl zi_k11 ?_
  refine zs_icmp_ne (t := 22) (ip' := 15) rfl rfl (by omega) (by omega) ?_ ?_
  · intro h14
    have hnh : ¬ s (30 + 12 * s (214 + 7 * t + 1) + s (214 + 7 * t + 0)) = 2 := fun q => h14 (hg11.mpr q)
    refine zs_iload (ip' := 23) rfl rfl rfl ?_
    refine zs_aload (ip' := 24) rfl rfl rfl ?_
    refine zs_getR (ip' := 25) rfl rfl (r := 16 * w + 3) (by omega) (zsh_w0 hw) rfl ?_
    refine zs_getR (ip' := 26) rfl rfl (r := 16 * w + 4) (by omega) (zsh_w3 hw) rfl ?_
    refine zs_iload (ip' := 27) rfl rfl rfl ?_
    refine zs_iald (ip' := 28) rfl rfl (by omega) (zsh_w4 hw) (by omega) ?_
    intro hl27 hu27
    rw [hll] at hl27 hu27 ⊢
    refine zs_icmp_ne (t := 51) (ip' := 29) rfl rfl (by omega) (by omega) ?_ ?_
    · intro h28
      refine zW_1 rfl ?_
      exact ⟨rfl, ⟨by rw [show sSettle s t l = s from (if_neg hnh).trans (if_neg (fun q => h28 (by have q1 := q.1; have q2 := q.2; omega)))]; exact hR, xWf_r _ _, xKp_d (xKp_r _ _)⟩, rfl, rfl⟩
    · intro h28
      have hon : sOn s t l := ⟨by omega, by omega⟩
      refine zs_aload (ip' := 30) rfl rfl rfl ?_
      refine zs_getR (ip' := 31) rfl rfl (r := 16 * w + 3) (by omega) (zsh_w0 hw) rfl ?_
      refine zs_getI (ip' := 32) rfl rfl (by omega) (zsh_w3 hw) rfl (q := 1) rfl ?_
      intro hl31 hu31
      refine zs_iload (ip' := 33) rfl rfl rfl ?_
      refine zW_cP (ip' := 34) rfl rfl cX_holds rfl rfl rfl ?_
      refine zs_if_eqB (t := 41) (ip' := 35) rfl rfl ?_ ?_
      · intro h34
        refine zs_aload (ip' := 42) rfl rfl rfl ?_
        refine zs_iload (ip' := 43) rfl rfl rfl ?_
        refine zs_pushI (ip' := 44) rfl rfl zi_k2 ?_
        refine zs_aload (ip' := 45) rfl rfl rfl ?_
        refine zs_getI (ip' := 46) rfl rfl (by omega) (zsh_w0 hw) rfl (q := 5) rfl ?_
        intro hl45 hu45
        refine zW_cV (ip' := 47) rfl rfl (cR_finish hN hw hok hR t0 t1 (by omega) rfl (by omega) hz0) rfl rfl (z_ok3 (by omega) (zsh_w7 hw) rfl rfl rfl) ?_
        rintro G1 F' n' ⟨⟨hR1, hF1, hD1⟩, rfl, rfl⟩
        refine zs_aload (ip' := 48) rfl rfl rfl ?_
        refine zs_aload (ip' := 49) rfl rfl rfl ?_
        refine zs_iload (ip' := 50) rfl rfl rfl ?_
        refine zW_cV (ip' := 51) rfl rfl (cR_warn hN hw hok t0 t1 l0 l1 hR1) rfl rfl (z_ok3 (by omega) zsh_199 rfl rfl rfl) ?_
        rintro G2 F' n' ⟨⟨hR2, hF2, hK2⟩, rfl, rfl⟩
        refine zW_1 rfl ?_
        exact ⟨rfl, ⟨by rw [show sSettle s t l = sSink s t l from (if_neg hnh).trans ((if_pos hon).trans (if_pos (by have := fun q => h34 (hbt.mpr ⟨l1, q⟩); omega)))]; exact hR2, xWf_t hF1 hF2, xDn_t hD1 (xKp_d hK2)⟩, rfl, rfl⟩
      · intro h34
        refine zs_aload (ip' := 36) rfl rfl rfl ?_
        refine zs_aload (ip' := 37) rfl rfl rfl ?_
        refine zs_iload (ip' := 38) rfl rfl rfl ?_
        refine zs_iload (ip' := 39) rfl rfl rfl ?_
        refine zW_cV (ip' := 40) rfl rfl (cR_pass hN hw hok hR t0 t1 l0 l1) rfl rfl (z_ok3 (by omega) zsh_199 rfl rfl rfl) ?_
        rintro G1 F' n' ⟨⟨hR1, hF1, hK1⟩, rfl, rfl⟩
        refine zs_goto (t := 51) rfl ?_
        refine zW_1 rfl ?_
        exact ⟨rfl, ⟨by rw [show sSettle s t l = sGoOn s t l from (if_neg hnh).trans ((if_pos hon).trans (if_neg (by have := (hbt.mp h34).2; omega)))]; exact hR1, hF1, xKp_d hK1⟩, rfl, rfl⟩
  · intro h14
    have hh : s (30 + 12 * s (214 + 7 * t + 1) + s (214 + 7 * t + 0)) = 2 := hg11.mp h14
    refine zs_aload (ip' := 16) rfl rfl rfl ?_
    refine zs_iload (ip' := 17) rfl rfl rfl ?_
    refine zs_pushI (ip' := 18) rfl rfl zi_k1 ?_
    refine zs_aload (ip' := 19) rfl rfl rfl ?_
    refine zs_getI (ip' := 20) rfl rfl (by omega) (zsh_w0 hw) rfl (q := 5) rfl ?_
    intro hl19 hu19
    refine zW_cV (ip' := 21) rfl rfl (cR_finish hN hw hok hR t0 t1 (by omega) rfl (by omega) hz0) rfl rfl (z_ok3 (by omega) (zsh_w7 hw) rfl rfl rfl) ?_
    rintro G1 F' n' ⟨⟨hR1, hF1, hD1⟩, rfl, rfl⟩
    refine zs_goto (t := 51) rfl ?_
    refine zW_1 rfl ?_
    exact ⟨rfl, ⟨by rw [show sSettle s t l = _ from if_pos hh]; exact hR1, hF1, hD1⟩, rfl, rfl⟩
