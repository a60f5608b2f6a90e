/-! The program: the others are warned (printed by wip/whole/src46.py). -/
theorem sSight_sz {s u : Int → Int} (h : sSz s u) (hok : mOk s) : sSight u = sSight s := by
  obtain ⟨-, -, e2, e3, -, -, hf, -⟩ := h
  have c3 := hok.2.2.2.1
  unfold sSight
  rw [e2, e3, hf _ (by omega) (by omega)]
theorem sSinkR_st {s : Int → Int} {t l : Int} : ∀ k : Nat, sSinkR s t l k (214 + 7 * t + 2) = 2 := by
  intro k
  induction k with
  | zero =>
    show zp (zp s (214 + 7 * t + 2) 2) (214 + 7 * t + 3) (-1) (214 + 7 * t + 2) = 2
    rw [zp_ne (by omega), zp_eq]
  | succ k ih =>
    unfold sSinkR
    split
    · exact ih
    · split
      · rw [zp_ne (by omega), zp_ne (by omega)]
        exact ih
      · rw [zp_ne (by omega)]
        exact ih
theorem cR_warn_l {N : Nat} {F : GM} {n : Nat} (hN : 229 ≤ N) {w : Nat} (hw : w < 12) {s : Int → Int} (hok : mOk s) {t l : Int} (t0 : 0 ≤ t) (t1 : t < s 5) (l0 : 0 ≤ l) (l1 : l < s 4) {G0 : GM} : ∀ (d : Nat) (k : Nat) (G : GM), s 5 - (k : Int) < (d : Int) → (k : Int) ≤ s 5 → RX G w (sSinkR s t l k) → xWf w G0 G → xKp w G0 G → zW N 177 8 [.ref 199, .ref (16 * w), .int (zi l), .ref (16 * w + 7), .int (zi (sSight s)), .int (zi (k : Int))] [] G F n (zV fun G' F' n' => (RX G' w (sSink s t l) ∧ xWf w G0 G' ∧ xKp w G0 G') ∧ F' = F ∧ n' = n) := by
  intro d
  induction d with
  | zero =>
    intro k G hd hj hR hF hKp
    exact absurd hd (by omega)
  | succ d ih =>
    intro k G hd hj hR hF hKp
    obtain ⟨hk1, hz⟩ := sSinkR_ok hok t0 t1 ⟨l0, l1⟩ k hj
    have hst := sSinkR_st (s := s) (t := t) (l := l) k
    obtain ⟨u, hu0⟩ : ∃ u, u = sSinkR s t l k := ⟨_, rfl⟩
    have hu : sSinkR s t l (k + 1) = (if (k : Int) = t ∨ u (214 + 7 * (k : Int) + 2) ≠ 0 ∨ sSight u < sFarL u (k : Int) l then u else if u (214 + 7 * (k : Int) + 3) = l then zp (zp u (214 + 7 * (k : Int) + 5) (zadd (u (214 + 7 * (k : Int) + 5)) l)) (214 + 7 * (k : Int) + 3) (-1) else zp u (214 + 7 * (k : Int) + 5) (zadd (u (214 + 7 * (k : Int) + 5)) l)) := by rw [hu0]; rfl
    rw [← hu0] at hR hk1 hz hst
    have hsi := sSight_sz hz hok
    have z4 := hz.2.2.2.2.1
    have z5 := hz.2.2.2.2.2.1
    have hc7 := (RX_n hR).2
    rw [z5] at hc7
    have b4 := hok.2.2.2.2.1
    have b5 := hok.2.2.2.2.2.1
    have hsg := sSight_rng (mOk_sg hok)
    refine zs_iload (ip' := 9) rfl rfl rfl ?_
    refine zs_aload (ip' := 10) rfl rfl rfl ?_
    refine zs_getI (ip' := 11) rfl rfl (by omega) (zsh_w7 hw) rfl (q := 0) rfl ?_
    intro hl10 hu10
    rw [hc7] at hl10 hu10 ⊢
    refine zs_icmp_ge (t := 46) (ip' := 12) rfl rfl (by omega) (by omega) ?_ ?_
    · intro h11
      refine zW_1 rfl ?_
      exact ⟨rfl, ⟨by rw [show sSink s t l = u from by rw [hu0]; exact congrArg (sSinkR s t l) (by omega)]; exact hR, hF, hKp⟩, rfl, rfl⟩
    · intro h11
      refine zs_aload (ip' := 13) rfl rfl rfl ?_
      refine zs_getR (ip' := 14) rfl rfl (r := 16 * w + 9) (by omega) (zsh_w7 hw) rfl ?_
      refine zs_iload (ip' := 15) rfl rfl rfl ?_
      refine zs_iald (ip' := 16) rfl rfl (by omega) (zsh_w9 hw) (by omega) ?_
      intro hl15 hu15
      obtain ⟨-, hp2, -, hp3, -, hp5⟩ := hR.2.2.2.2.2 (k : Int) (by omega) (by omega)
      rw [hp2] at hl15 hu15 ⊢
      have hfr := sFarL_rng (mOk_wk hk1 (w := (k : Int)) (by omega) (by omega)) (mOk_lt hk1 (l := l) l0 (by omega))
      refine zs_if_ne (t := 44) (ip' := 17) rfl rfl (by omega) ?_ ?_
      · intro h16
        refine zs_iinc5 (ip' := 45) rfl rfl zi_k1 ?_
        refine zs_goto (t := 8) rfl ?_
        have eS : sSinkR s t l (k + 1) = u := hu.trans (if_pos (Or.inr (Or.inl h16)))
        exact ih (k + 1) G (by omega) (by omega) (by rw [eS]; exact hR) hF hKp
      · intro h16
        refine zs_aload (ip' := 18) rfl rfl rfl ?_
        refine zs_iload (ip' := 19) rfl rfl rfl ?_
        refine zs_iload (ip' := 20) rfl rfl rfl ?_
        refine zW_cP (ip' := 21) rfl rfl (cR_far hN hw hk1 hR (by omega) (by omega) l0 (by omega)) rfl rfl (z_ok3 (by omega) (zsh_w0 hw) rfl rfl rfl) ?_
        refine zs_iload (ip' := 22) rfl rfl rfl ?_
        refine zs_icmp_gt (t := 44) (ip' := 23) rfl rfl (by omega) (by omega) ?_ ?_
        · intro h22
          refine zs_iinc5 (ip' := 45) rfl rfl zi_k1 ?_
          refine zs_goto (t := 8) rfl ?_
          have eS : sSinkR s t l (k + 1) = u := hu.trans (if_pos (Or.inr (Or.inr (by omega))))
          exact ih (k + 1) G (by omega) (by omega) (by rw [eS]; exact hR) hF hKp
        · intro h22
          refine zs_aload (ip' := 24) rfl rfl rfl ?_
          refine zs_getR (ip' := 25) rfl rfl (r := 16 * w + 13) (by omega) (zsh_w7 hw) rfl ?_
          refine zs_iload (ip' := 26) rfl rfl rfl ?_
          refine zs_dup2 (ip' := 27) rfl rfl ?_
          refine zs_iald (ip' := 28) rfl rfl (by omega) (zsh_w13 hw) (by omega) ?_
          intro hl27 hu27
          rw [hp5] at hl27 hu27 ⊢
          refine zs_pushI (ip' := 29) rfl rfl zi_k1 ?_
          refine zs_iload (ip' := 30) rfl rfl rfl ?_
          refine zs_ishl (ip' := 31) rfl rfl ?_
          refine zs_ior (ip' := 32) rfl rfl ?_
          refine zs_iast (ip' := 33) rfl rfl (by omega) (zsh_w13 hw) (by omega) (zr_or _ _) ?_
          have hR1 : RX (zk G (16 * w + 13) (zp (G (16 * w + 13)) (k : Int) (zor (u (214 + 7 * (k : Int) + 5)) (zshl 1 l)))) w (zp u (214 + 7 * (k : Int) + 5) (zadd (u (214 + 7 * (k : Int) + 5)) l)) := RX_w13 hk1 hR (by omega) (by omega)
          have hk2 : mOk (zp u (214 + 7 * (k : Int) + 5) (zadd (u (214 + 7 * (k : Int) + 5)) l)) := mOk_w5 hk1 (by omega) (by omega) trivial
          have hF1 : xWf w G0 (zk G (16 * w + 13) (zp (G (16 * w + 13)) (k : Int) (zor (u (214 + 7 * (k : Int) + 5)) (zshl 1 l)))) := xWf_t hF (xWf_k (by omega))
          have hKp1 : xKp w G0 (zk G (16 * w + 13) (zp (G (16 * w + 13)) (k : Int) (zor (u (214 + 7 * (k : Int) + 5)) (zshl 1 l)))) := xKp_t hKp (xKp_k (by omega))
          generalize zk G (16 * w + 13) (zp (G (16 * w + 13)) (k : Int) (zor (u (214 + 7 * (k : Int) + 5)) (zshl 1 l))) = G1 at hR1 hF1 hKp1 ⊢
          have z55 : (zp u (214 + 7 * (k : Int) + 5) (zadd (u (214 + 7 * (k : Int) + 5)) l)) 5 = u 5 := zp_ne (by omega)
          have hp33 := (hR1.2.2.2.2.2 (k : Int) (by omega) (by rw [z55]; omega)).2.2.2.1
          rw [zp_ne (by omega)] at hp33
          refine zs_aload (ip' := 34) rfl rfl rfl ?_
          refine zs_getR (ip' := 35) rfl rfl (r := 16 * w + 11) (by omega) (zsh_w7 hw) rfl ?_
          refine zs_iload (ip' := 36) rfl rfl rfl ?_
          refine zs_iald (ip' := 37) rfl rfl (by omega) (zsh_w11 hw) (by omega) ?_
          intro hl36 hu36
          rw [hp33] at hl36 hu36 ⊢
          refine zs_iload (ip' := 38) rfl rfl rfl ?_
          refine zs_icmp_ne (t := 44) (ip' := 39) rfl rfl (by omega) (by omega) ?_ ?_
          · intro h38
            refine zs_iinc5 (ip' := 45) rfl rfl zi_k1 ?_
            refine zs_goto (t := 8) rfl ?_
            have eS : sSinkR s t l (k + 1) = zp u (214 + 7 * (k : Int) + 5) (zadd (u (214 + 7 * (k : Int) + 5)) l) := hu.trans ((if_neg (fun q => q.elim (fun q => by rw [q] at h16; omega) (fun q => q.elim (fun q => q h16) (fun q => by omega)))).trans (if_neg h38))
            exact ih (k + 1) G1 (by omega) (by omega) (by rw [eS]; exact hR1) hF1 hKp1
          · intro h38
            refine zs_aload (ip' := 40) rfl rfl rfl ?_
            refine zs_getR (ip' := 41) rfl rfl (r := 16 * w + 11) (by omega) (zsh_w7 hw) rfl ?_
            refine zs_iload (ip' := 42) rfl rfl rfl ?_
            refine zs_pushI (ip' := 43) rfl rfl zi_km1 ?_
            refine zs_iast (ip' := 44) rfl rfl (by omega) (zsh_w11 hw) (by omega) (by omega) ?_
            refine zs_iinc5 (ip' := 45) rfl rfl zi_k1 ?_
            refine zs_goto (t := 8) rfl ?_
            have eS : sSinkR s t l (k + 1) = zp (zp u (214 + 7 * (k : Int) + 5) (zadd (u (214 + 7 * (k : Int) + 5)) l)) (214 + 7 * (k : Int) + 3) (-1) := hu.trans ((if_neg (fun q => q.elim (fun q => by rw [q] at h16; omega) (fun q => q.elim (fun q => q h16) (fun q => by omega)))).trans (if_pos h38))
            exact ih (k + 1) _ (by omega) (by omega) (by rw [eS]; exact RX_w11 hk2 hR1 (by omega) (by rw [z55]; omega)) (xWf_t hF1 (xWf_k (by omega))) (xKp_t hKp1 (xKp_k (by omega)))
theorem cR_warn {N : Nat} {G F : GM} {n : Nat} (hN : 229 ≤ N) {w : Nat} (hw : w < 12) {s : Int → Int} (hok : mOk s) {t l : Int} (t0 : 0 ≤ t) (t1 : t < s 5) (l0 : 0 ≤ l) (l1 : l < s 4) (hR : RX G w (zp (zp s (214 + 7 * t + 2) 2) (214 + 7 * t + 3) (-1))) : zC N 177 [.ref 199, .ref (16 * w), .int (zi l)] G F n (zV fun G' F' n' => (RX G' w (sSink s t l) ∧ xWf w G G' ∧ xKp w G G') ∧ F' = F ∧ n' = n) := by
  obtain ⟨hk1, hz⟩ := sSinkR_ok hok t0 t1 ⟨l0, l1⟩ 0 (by omega)
  have hz0 : sSinkR s t l 0 = zp (zp s (214 + 7 * t + 2) 2) (214 + 7 * t + 3) (-1) := rfl
  have hsi := sSight_sz hz hok
  rw [← hz0] at hR
  have hcs := cR_sight (F := F) (n := n) hN hw hk1 hR
  rw [hsi] at hcs
  have b5 := hok.2.2.2.2.2.1
  refine zC_i (L0 := [.ref 199, .ref (16 * w), .int (zi l), .null, .null, .null]) rfl ?_
  refine zs_aload (ip' := 1) rfl rfl rfl ?_
  refine zs_getR (ip' := 2) rfl rfl (r := 16 * w + 7) (by omega) (zsh_w0 hw) rfl ?_
  refine zs_astore3 (ip' := 3) rfl rfl ?_
  refine zs_aload (ip' := 4) rfl rfl rfl ?_
  refine zW_cP (ip' := 5) rfl rfl hcs rfl rfl (z_ok3 (by omega) (zsh_w0 hw) rfl rfl rfl) ?_
  refine zs_istore4 (ip' := 6) rfl rfl ?_
  refine zs_pushI (ip' := 7) rfl rfl zi_k0 ?_
  refine zs_istore5 (ip' := 8) rfl rfl ?_
  exact cR_warn_l hN hw hok t0 t1 l0 l1 7 0 G (by omega) (by omega) hR (xWf_r _ _) (xKp_r _ _)
