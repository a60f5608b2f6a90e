/-! The reference model: what a traveller does (printed by wip/whole/src19.py). -/
theorem zBf_ex (G : GM) : ∃ A B f l, G = zBf G A B f l := ⟨_, _, _, _, zBf_self.symm⟩
theorem cM_moves_l {N : Nat} {G F : GM} {n : Nat} (hN : 241 ≤ N) {r : Nat} (hr : z_sh r = (1, 256, [])) (hrN : r < N) (hro : r ≠ 230 ∧ r ≠ 238 ∧ r ≠ 239) {w l : Int} (hok : mOk (G r)) (h0 : 0 ≤ w) (h1 : w < G r 5) (hl : 0 ≤ l ∧ l < G r 4) (hon : ¬ sOn (G r) w l) (h6 : G r (214 + 7 * w + 6) < G r 3) {A B : Int → Int} {f l2 : Int} (hD : zDist (G r 0) (G r 1) (mWt (G r)) (fun p => p = 12 * G r (174 + 5 * l + 1) + G r (174 + 5 * l + 0)) False A) (hf : 0 ≤ sFarT (G r) w l) : ∀ (d : Nat) (k : Nat), sWay (G r) w l - k < (d : Int) → (k : Int) ≤ sWay (G r) w l → zW N 37 37 [.ref 230, .ref r, .int (zi w), .int (zi l), .int (zi (G r (214 + 7 * w + 0))), .int (zi (G r (214 + 7 * w + 1))), .int (zi (sFarT (G r) w l)), .int (zi (k : Int))] [] (zBf G A B f l2) F n (zR fun v G' F' n' => v = zb (0 ≤ sFarT (G r) w l) ∧ (∃ st, zDist (G r 0) (G r 1) (mWt (G r)) (fun p => p = 12 * G r (174 + 5 * l + 1) + G r (174 + 5 * l + 0)) False st) ∧ ∃ A B f l', G' = zBf (zk G r (if 0 ≤ sFarT (G r) w l then sMoved (G r) w l else G r)) A B f l' ∧ F' = F ∧ n' = n) := by
  intro d
  induction d with
  | zero =>
    intro k hd hj
    exact absurd hd (by omega)
  | succ d ih =>
    intro k hd hj
    have hb := mOk_hb hok
    obtain ⟨⟨x0, x1⟩, ⟨y0, y1⟩, -, -, s0, s1⟩ := hok.2.2.2.2.2.2.2.2.2 w h0 h1
    obtain ⟨⟨lx0, lx1⟩, ⟨ly0, ly1⟩, -⟩ := hok.2.2.2.2.2.2.2.2.1 l hl.1 hl.2
    have h3 := hok.2.2.2.1
    have h4 := hok.2.2.2.2.1
    have h5 := hok.2.2.2.2.2.1
    obtain ⟨g0, g1, g2, g3, g4⟩ := sWay_ok hok h0 h1 hl hD hon hf
    obtain ⟨⟨g5, g6⟩, g7, g8⟩ := g4
    have hz := zst_spec hD
    obtain ⟨n1, n2⟩ := sSteps_rng hb hz.1 ⟨x0, x1⟩ ⟨y0, y1⟩
    have n1' : -1 ≤ sFarT (G r) w l := n1
    have n2' : sFarT (G r) w l ≤ 145 := n2
    obtain ⟨q1, q2⟩ := sStepBy_rng hb hz.1 (G r (214 + 7 * w + 0)) (G r (214 + 7 * w + 1)) k
    refine zs_aload (ip' := 38) rfl rfl rfl ?_
    refine zs_aload (ip' := 39) rfl rfl rfl ?_
    refine zs_iload (ip' := 40) rfl rfl rfl ?_
    refine zs_iload (ip' := 41) rfl rfl rfl ?_
    refine zs_iload (ip' := 42) rfl rfl rfl ?_
    refine zW_cP (ip' := 43) rfl rfl (cM_stepsBy hN hr hrN (by rw [zBf_o hro]; exact hb) (by omega) (by omega) (by omega)) rfl rfl (z_ok3 (by omega) zsh_230 rfl rfl rfl) ?_
    rw [zBf_o hro, zBf_238, sStepBy_eq hb hD hz]
    refine zs_iload (ip' := 44) rfl rfl rfl ?_
    refine zs_pushI (ip' := 45) rfl rfl zi_k1 ?_
    refine zs_isub (ip' := 46) rfl rfl ?_
    refine zs_icmp_eq (t := 49) (ip' := 47) rfl rfl (by omega) (by omega) ?_ ?_
    · intro h46
      have hkw : (k : Int) = sWay (G r) w l := by
        by_cases e : (k : Int) < sWay (G r) w l
        · exact absurd h46 (zfst_lt 4 k (by omega) e)
        · omega
      rw [hkw]
      refine zs_aload (ip' := 50) rfl rfl rfl ?_
      refine zs_iload (ip' := 51) rfl rfl rfl ?_
      refine zs_pushI (ip' := 52) rfl rfl zi_k0 ?_
      refine zW_cP (ip' := 53) rfl rfl cM_walkerAt rfl rfl rfl ?_
      refine zs_iload (ip' := 54) rfl rfl rfl ?_
      refine zs_iload (ip' := 55) rfl rfl rfl ?_
      refine zW_cP (ip' := 56) rfl rfl (cM_columnBy (by omega)) rfl rfl rfl ?_
      refine zs_iadd (ip' := 57) rfl rfl ?_
      refine zs_iast (ip' := 58) rfl rfl hrN hr (by omega) (by omega) ?_
      rw [zBf_o hro, zBf_r hro]
      refine zs_aload (ip' := 59) rfl rfl rfl ?_
      refine zs_iload (ip' := 60) rfl rfl rfl ?_
      refine zs_pushI (ip' := 61) rfl rfl zi_k1 ?_
      refine zW_cP (ip' := 62) rfl rfl cM_walkerAt rfl rfl rfl ?_
      refine zs_iload (ip' := 63) rfl rfl rfl ?_
      refine zs_iload (ip' := 64) rfl rfl rfl ?_
      refine zW_cP (ip' := 65) rfl rfl (cM_rowBy (by omega)) rfl rfl rfl ?_
      refine zs_iadd (ip' := 66) rfl rfl ?_
      refine zs_iast (ip' := 67) rfl rfl hrN hr (by omega) (by omega) ?_
      rw [zBf_o hro, zk_eq, zBf_r hro, zk_zk]
      refine zs_aload (ip' := 68) rfl rfl rfl ?_
      refine zs_iload (ip' := 69) rfl rfl rfl ?_
      refine zs_pushI (ip' := 70) rfl rfl zi_k6 ?_
      refine zW_cP (ip' := 71) rfl rfl cM_walkerAt rfl rfl rfl ?_
      refine zs_dup2 (ip' := 72) rfl rfl ?_
      refine zs_iald (ip' := 73) rfl rfl hrN hr (by omega) ?_
      intro hl72 hu72
      rw [zBf_o hro, zk_eq, zp_ne (by omega), zp_ne (by omega)] at hl72 hu72 ⊢
      refine zs_pushI (ip' := 74) rfl rfl zi_k1 ?_
      refine zs_iadd (ip' := 75) rfl rfl ?_
      refine zs_iast (ip' := 76) rfl rfl hrN hr (by omega) (by omega) ?_
      rw [zBf_o hro, zk_eq, zBf_r hro, zk_zk]
      refine zs_aload (ip' := 77) rfl rfl rfl ?_
      refine zs_iload (ip' := 78) rfl rfl rfl ?_
      refine zs_iload (ip' := 79) rfl rfl rfl ?_
      refine zW_cV (ip' := 80) rfl rfl (cM_leaves hr hrN (by omega) (by omega)) rfl rfl rfl ?_
      rintro G' F' n' ⟨rfl, rfl, rfl⟩
      rw [zBf_o hro, zk_eq, zBf_r hro, zk_zk]
      refine zs_pushI (ip' := 81) rfl rfl zi_k1 ?_
      refine zW_0b rfl (Or.inr rfl) ?_
      exact ⟨1, rfl, ⟨by omega, by omega⟩, (zb_t hf).symm, ⟨A, hD⟩, A, B, f, l2, by rw [if_pos hf]; rfl, rfl, rfl⟩
    · intro h46
      have hkw : (k : Int) ≠ sWay (G r) w l := fun e => by rw [e] at h46; exact h46 g3
      refine zs_iinc7 (ip' := 48) rfl rfl zi_k1 ?_
      refine zs_goto (t := 37) rfl ?_
      exact ih (k + 1) (by omega) (by omega)
theorem cM_moves {N : Nat} {G F : GM} {n : Nat} (hN : 241 ≤ N) {r : Nat} (hr : z_sh r = (1, 256, [])) (hrN : r < N) (hro : r ≠ 230 ∧ r ≠ 238 ∧ r ≠ 239) {w l : Int} (hok : mOk (G r)) (h0 : 0 ≤ w) (h1 : w < G r 5) (hl : 0 ≤ l ∧ l < G r 4) (hon : ¬ sOn (G r) w l) (h6 : G r (214 + 7 * w + 6) < G r 3) : zC N 37 [.ref 230, .ref r, .int (zi w), .int (zi l)] G F n (zR fun v G' F' n' => v = zb (0 ≤ sFarT (G r) w l) ∧ (∃ st, zDist (G r 0) (G r 1) (mWt (G r)) (fun p => p = 12 * G r (174 + 5 * l + 1) + G r (174 + 5 * l + 0)) False st) ∧ ∃ A B f l', G' = zBf (zk G r (if 0 ≤ sFarT (G r) w l then sMoved (G r) w l else G r)) A B f l' ∧ F' = F ∧ n' = n) := by
  have hb := mOk_hb hok
  obtain ⟨⟨x0, x1⟩, ⟨y0, y1⟩, -, -, s0, s1⟩ := hok.2.2.2.2.2.2.2.2.2 w h0 h1
  obtain ⟨⟨lx0, lx1⟩, ⟨ly0, ly1⟩, -⟩ := hok.2.2.2.2.2.2.2.2.1 l hl.1 hl.2
  have h3 := hok.2.2.2.1
  have h4 := hok.2.2.2.2.1
  have h5 := hok.2.2.2.2.2.1
  refine zC_i (L0 := [.ref 230, .ref r, .int (zi w), .int (zi l), .null, .null, .null, .null]) rfl ?_
  refine zs_aload (ip' := 1) rfl rfl rfl ?_
  refine zs_iload (ip' := 2) rfl rfl rfl ?_
  refine zs_pushI (ip' := 3) rfl rfl zi_k0 ?_
  refine zW_cP (ip' := 4) rfl rfl cM_walkerAt rfl rfl rfl ?_
  refine zs_iald (ip' := 5) rfl rfl hrN hr (by omega) ?_
  intro hl4 hu4
  refine zs_istore4 (ip' := 6) rfl rfl ?_
  refine zs_aload (ip' := 7) rfl rfl rfl ?_
  refine zs_iload (ip' := 8) rfl rfl rfl ?_
  refine zs_pushI (ip' := 9) rfl rfl zi_k1 ?_
  refine zW_cP (ip' := 10) rfl rfl cM_walkerAt rfl rfl rfl ?_
  refine zs_iald (ip' := 11) rfl rfl hrN hr (by omega) ?_
  intro hl10 hu10
  refine zs_istore5 (ip' := 12) rfl rfl ?_
  refine zs_aload (ip' := 13) rfl rfl rfl ?_
  refine zs_aload (ip' := 14) rfl rfl rfl ?_
  refine zs_aload (ip' := 15) rfl rfl rfl ?_
  refine zs_iload (ip' := 16) rfl rfl rfl ?_
  refine zs_pushI (ip' := 17) rfl rfl zi_k0 ?_
  refine zW_cP (ip' := 18) rfl rfl cM_lightAt rfl rfl rfl ?_
  refine zs_iald (ip' := 19) rfl rfl hrN hr (by omega) ?_
  intro hl18 hu18
  refine zs_aload (ip' := 20) rfl rfl rfl ?_
  refine zs_iload (ip' := 21) rfl rfl rfl ?_
  refine zs_pushI (ip' := 22) rfl rfl zi_k1 ?_
  refine zW_cP (ip' := 23) rfl rfl cM_lightAt rfl rfl rfl ?_
  refine zs_iald (ip' := 24) rfl rfl hrN hr (by omega) ?_
  intro hl23 hu23
  refine zW_cV (ip' := 25) rfl rfl (cM_spreadsTo hN hr hrN hro hb ⟨lx0, lx1⟩ ⟨ly0, ly1⟩) rfl rfl (z_ok3 (by omega) zsh_230 rfl rfl rfl) ?_
  rintro G' F' n' ⟨A1, B1, f1, l1, hD, rfl, rfl, rfl⟩
  refine zs_aload (ip' := 26) rfl rfl rfl ?_
  refine zs_aload (ip' := 27) rfl rfl rfl ?_
  refine zs_iload (ip' := 28) rfl rfl rfl ?_
  refine zs_iload (ip' := 29) rfl rfl rfl ?_
  refine zW_cP (ip' := 30) rfl rfl (cM_stepsFrom hN hr hrN (by rw [zBf_o hro]; exact hb) (by rw [zBf_o hro, zBf_238]; exact hD.1) (by rw [zBf_o hro]; exact ⟨x0, x1⟩) (by rw [zBf_o hro]; exact ⟨y0, y1⟩)) rfl rfl (z_ok3 (by omega) zsh_230 rfl rfl rfl) ?_
  have hz := zst_spec hD
  have e : sSteps (G r) A1 (G r (214 + 7 * w + 0)) (G r (214 + 7 * w + 1)) = sFarT (G r) w l := sSteps_eq hb hD hz ⟨x0, x1⟩ ⟨y0, y1⟩
  rw [zBf_o hro, zBf_238, e]
  obtain ⟨n1, n2⟩ := sSteps_rng hb hz.1 ⟨x0, x1⟩ ⟨y0, y1⟩
  have n1' : -1 ≤ sFarT (G r) w l := n1
  have n2' : sFarT (G r) w l ≤ 145 := n2
  refine zs_istore6 (ip' := 31) rfl rfl ?_
  refine zs_iload (ip' := 32) rfl rfl rfl ?_
  refine zs_if_ge (t := 35) (ip' := 33) rfl rfl (by omega) ?_ ?_
  · intro h32
    refine zs_pushI (ip' := 36) rfl rfl zi_k0 ?_
    refine zs_istore7 (ip' := 37) rfl rfl ?_
    exact cM_moves_l hN hr hrN hro hok h0 h1 hl hon h6 hD h32 4 0 (by have := (sWay_ok hok h0 h1 hl hD hon h32).2.2.1; omega) (by have := (sWay_ok hok h0 h1 hl hD hon h32).2.1; omega)
  · intro h32
    refine zs_pushI (ip' := 34) rfl rfl zi_k0 ?_
    refine zW_0b rfl (Or.inl rfl) ?_
    exact ⟨0, rfl, zr0, (zb_f (by omega)).symm, ⟨A1, hD⟩, A1, B1, f1, l1, by rw [if_neg (by omega), zk_self], rfl, rfl⟩
theorem cM_sinks_l {N : Nat} {F : GM} {n : Nat} {G0 : GM} {r : Nat} (hr : z_sh r = (1, 256, [])) (hrN : r < N) {w l : Int} (hok0 : mOk (G0 r)) (h0 : 0 ≤ w) (h1 : w < G0 r 5) (hl : 0 ≤ l ∧ l < G0 r 4) : ∀ (d : Nat) (k : Nat) (G : GM), G0 r 5 - k < (d : Int) → (k : Int) ≤ G0 r 5 → G = zk G0 r (sSinkR (G0 r) w l k) → zW N 38 11 [.ref r, .int (zi w), .int (zi l), .int (zi (k : Int))] [] G F n (zV fun G' F' n' => G' = zk G0 r (sSink (G0 r) w l) ∧ F' = F ∧ n' = n) := by
  intro d
  induction d with
  | zero =>
    intro k G hd hj hG
    exact absurd hd (by omega)
  | succ d ih =>
    intro k G hd hj hG
    have e : G r = sSinkR (G0 r) w l k := by rw [hG, zk_eq]
    obtain ⟨hok, z1⟩ := sSinkR_ok hok0 h0 h1 hl k hj
    rw [← e] at hok z1
    have z4 := z1.2.2.2.2.1
    have z5 := z1.2.2.2.2.2.1
    have b4 := hok.2.2.2.2.1
    have b5 := hok.2.2.2.2.2.1
    have hs := mOk_sg hok
    obtain ⟨s1, s2⟩ := sSight_rng hs
    refine zs_iload (ip' := 12) rfl rfl rfl ?_
    refine zs_aload (ip' := 13) rfl rfl rfl ?_
    refine zs_pushI (ip' := 14) rfl rfl zi_k5 ?_
    refine zs_iald (ip' := 15) rfl rfl hrN hr (by omega) ?_
    intro hl14 hu14
    refine zs_icmp_ge (t := 56) (ip' := 16) rfl rfl (by omega) (by omega) ?_ ?_
    · intro h15
      refine zW_1 rfl ?_
      exact ⟨rfl, by rw [hG]; exact congrArg (fun q => zk G0 r (sSinkR (G0 r) w l q)) (by omega), rfl, rfl⟩
    · intro h15
      have hk := mOk_wk hok (w := (k : Int)) (by omega) (by omega)
      have hq := mOk_lt hok (l := l) hl.1 (by omega)
      obtain ⟨f1, f2⟩ := sFarL_rng hk hq
      refine zs_iload (ip' := 17) rfl rfl rfl ?_
      refine zs_iload (ip' := 18) rfl rfl rfl ?_
      refine zs_icmp_eq (t := 54) (ip' := 19) rfl rfl (by omega) (by omega) ?_ ?_
      · intro h18
        refine zs_iinc3 (ip' := 55) rfl rfl zi_k1 ?_
        refine zs_goto (t := 11) rfl ?_
        exact ih (k + 1) _ (by omega) (by omega) (hG.trans (congrArg (zk G0 r) (if_pos (Or.inl h18)).symm))
      · intro h18
        refine zs_aload (ip' := 20) rfl rfl rfl ?_
        refine zs_iload (ip' := 21) rfl rfl rfl ?_
        refine zs_pushI (ip' := 22) rfl rfl zi_k2 ?_
        refine zW_cP (ip' := 23) rfl rfl cM_walkerAt rfl rfl rfl ?_
        refine zs_iald (ip' := 24) rfl rfl hrN hr (by omega) ?_
        intro hl23 hu23
        refine zs_if_ne (t := 54) (ip' := 25) rfl rfl (by omega) ?_ ?_
        · intro h24
          refine zs_iinc3 (ip' := 55) rfl rfl zi_k1 ?_
          refine zs_goto (t := 11) rfl ?_
          exact ih (k + 1) _ (by omega) (by omega) (hG.trans (congrArg (zk G0 r) (if_pos (Or.inr (Or.inl (by rw [← e]; exact h24)))).symm))
        · intro h24
          refine zs_aload (ip' := 26) rfl rfl rfl ?_
          refine zs_iload (ip' := 27) rfl rfl rfl ?_
          refine zs_iload (ip' := 28) rfl rfl rfl ?_
          refine zW_cP (ip' := 29) rfl rfl (cM_farFromLight hr hrN (by omega) (by omega)) rfl rfl rfl ?_
          refine zs_aload (ip' := 30) rfl rfl rfl ?_
          refine zW_cP (ip' := 31) rfl rfl (cM_sightOf hr hrN hs) rfl rfl rfl ?_
          refine zs_icmp_le (t := 33) (ip' := 32) rfl rfl (by omega) (by omega) ?_ ?_
          · intro h31
            refine zs_aload (ip' := 34) rfl rfl rfl ?_
            refine zs_iload (ip' := 35) rfl rfl rfl ?_
            refine zs_pushI (ip' := 36) rfl rfl zi_k5 ?_
            refine zW_cP (ip' := 37) rfl rfl cM_walkerAt rfl rfl rfl ?_
            refine zs_dup2 (ip' := 38) rfl rfl ?_
            refine zs_iald (ip' := 39) rfl rfl hrN hr (by omega) ?_
            intro hl38 hu38
            refine zs_pushI (ip' := 40) rfl rfl zi_k1 ?_
            refine zs_iload (ip' := 41) rfl rfl rfl ?_
            refine zs_ishl (ip' := 42) rfl rfl ?_
            refine zs_ior (ip' := 43) rfl rfl ?_
            refine zs_iast (ip' := 44) rfl rfl hrN hr (by omega) (zr_or _ _) ?_
            refine zs_aload (ip' := 45) rfl rfl rfl ?_
            refine zs_iload (ip' := 46) rfl rfl rfl ?_
            refine zs_pushI (ip' := 47) rfl rfl zi_k3 ?_
            refine zW_cP (ip' := 48) rfl rfl cM_walkerAt rfl rfl rfl ?_
            refine zs_iald (ip' := 49) rfl rfl hrN hr (by omega) ?_
            intro hl48 hu48
            rw [zk_eq, zp_ne (by omega)] at hl48 hu48 ⊢
            refine zs_iload (ip' := 50) rfl rfl rfl ?_
            refine zs_icmp_ne (t := 54) (ip' := 51) rfl rfl (by omega) (by omega) ?_ ?_
            · intro h50
              refine zs_iinc3 (ip' := 55) rfl rfl zi_k1 ?_
              refine zs_goto (t := 11) rfl ?_
              have e2 : sSinkR (G0 r) w l (k + 1) = zp (sSinkR (G0 r) w l k) (214 + 7 * k + 5) (zadd (sSinkR (G0 r) w l k (214 + 7 * k + 5)) l) := (if_neg (by rw [← e]; omega)).trans (if_neg (by rw [← e]; exact h50))
              rw [← e] at e2
              exact ih (k + 1) _ (by omega) (by omega) (by rw [e2, hG, zk_zk]; rfl)
            · intro h50
              refine zs_aload (ip' := 52) rfl rfl rfl ?_
              refine zs_iload (ip' := 53) rfl rfl rfl ?_
              refine zW_cV (ip' := 54) rfl rfl (cM_forgetsTarget hr hrN (by omega)) rfl rfl rfl ?_
              rintro G' F' n' ⟨rfl, rfl, rfl⟩
              rw [zk_eq, zk_zk]
              refine zs_iinc3 (ip' := 55) rfl rfl zi_k1 ?_
              refine zs_goto (t := 11) rfl ?_
              have e2 : sSinkR (G0 r) w l (k + 1) = zp (zp (sSinkR (G0 r) w l k) (214 + 7 * k + 5) (zadd (sSinkR (G0 r) w l k (214 + 7 * k + 5)) l)) (214 + 7 * k + 3) (-1) := (if_neg (by rw [← e]; omega)).trans (if_pos (by rw [← e]; exact h50))
              rw [← e] at e2
              exact ih (k + 1) _ (by omega) (by omega) (by rw [e2, hG, zk_zk]; rfl)
          · intro h31
            refine zs_goto (t := 54) rfl ?_
            refine zs_iinc3 (ip' := 55) rfl rfl zi_k1 ?_
            refine zs_goto (t := 11) rfl ?_
            exact ih (k + 1) _ (by omega) (by omega) (hG.trans (congrArg (zk G0 r) (if_pos (Or.inr (Or.inr (by rw [← e]; exact h31)))).symm))
theorem cM_sinks {N : Nat} {G F : GM} {n : Nat} {r : Nat} (hr : z_sh r = (1, 256, [])) (hrN : r < N) {w l : Int} (hok : mOk (G r)) (h0 : 0 ≤ w) (h1 : w < G r 5) (hl : 0 ≤ l ∧ l < G r 4) : zC N 38 [.ref r, .int (zi w), .int (zi l)] G F n (zV fun G' F' n' => G' = zk G r (sSink (G r) w l) ∧ F' = F ∧ n' = n) := by
  have h5 := hok.2.2.2.2.2.1
  refine zC_i (L0 := [.ref r, .int (zi w), .int (zi l), .null]) rfl ?_
  refine zs_aload (ip' := 1) rfl rfl rfl ?_
  refine zs_iload (ip' := 2) rfl rfl rfl ?_
  refine zs_pushI (ip' := 3) rfl rfl zi_k2 ?_
  refine zW_cP (ip' := 4) rfl rfl cM_walkerAt rfl rfl rfl ?_
  refine zs_pushI (ip' := 5) rfl rfl zi_k2 ?_
  refine zs_iast (ip' := 6) rfl rfl hrN hr (by omega) (by omega) ?_
  refine zs_aload (ip' := 7) rfl rfl rfl ?_
  refine zs_iload (ip' := 8) rfl rfl rfl ?_
  refine zW_cV (ip' := 9) rfl rfl (cM_forgetsTarget hr hrN (by omega)) rfl rfl rfl ?_
  rintro G' F' n' ⟨rfl, rfl, rfl⟩
  rw [zk_eq, zk_zk]
  refine zs_pushI (ip' := 10) rfl rfl zi_k0 ?_
  refine zs_istore3 (ip' := 11) rfl rfl ?_
  exact cM_sinks_l (G0 := G) hr hrN hok h0 h1 hl 7 0 _ (by omega) (by omega) rfl
theorem cM_goesOn {N : Nat} {G F : GM} {n : Nat} {r : Nat} (hr : z_sh r = (1, 256, [])) (hrN : r < N) {w l : Int} (hok : mOk (G r)) (h0 : 0 ≤ w) (h1 : w < G r 5) (hl : 0 ≤ l ∧ l < G r 4) : zC N 39 [.ref r, .int (zi w), .int (zi l)] G F n (zV fun G' F' n' => G' = zk G r (sGoOn (G r) w l) ∧ F' = F ∧ n' = n) := by
  have h5 := hok.2.2.2.2.2.1
  have h4 := hok.2.2.2.2.1
  refine zC_i (L0 := [.ref r, .int (zi w), .int (zi l), .null, .null]) rfl ?_
  refine zs_aload (ip' := 1) rfl rfl rfl ?_
  refine zs_iload (ip' := 2) rfl rfl rfl ?_
  refine zs_iload (ip' := 3) rfl rfl rfl ?_
  refine zW_cV (ip' := 4) rfl rfl (cM_passes hr hrN (by omega)) rfl rfl rfl ?_
  rintro G' F' n' ⟨rfl, rfl, rfl⟩
  refine zs_aload (ip' := 5) rfl rfl rfl ?_
  refine zs_iload (ip' := 6) rfl rfl rfl ?_
  refine zs_pushI (ip' := 7) rfl rfl zi_k4 ?_
  refine zW_cP (ip' := 8) rfl rfl cM_lightAt rfl rfl rfl ?_
  refine zs_iald (ip' := 9) rfl rfl hrN hr (by omega) ?_
  intro hl8 hu8
  rw [zk_eq] at hl8 hu8 ⊢
  refine zs_istore3 (ip' := 10) rfl rfl ?_
  refine zs_iload (ip' := 11) rfl rfl rfl ?_
  refine zs_if_lt (t := 30) (ip' := 12) rfl rfl (by omega) ?_ ?_
  · intro h11
    refine zs_pushI (ip' := 31) rfl rfl zi_k0 ?_
    refine zs_istore4 (ip' := 32) rfl rfl ?_
    refine zs_aload (ip' := 33) rfl rfl rfl ?_
    refine zs_iload (ip' := 34) rfl rfl rfl ?_
    refine zs_pushI (ip' := 35) rfl rfl zi_k3 ?_
    refine zW_cP (ip' := 36) rfl rfl cM_walkerAt rfl rfl rfl ?_
    refine zs_iload (ip' := 37) rfl rfl rfl ?_
    refine zs_if_eq (t := 40) (ip' := 38) rfl rfl (by omega) ?_ ?_
    · intro h37
      refine zs_pushI (ip' := 41) rfl rfl zi_km1 ?_
      refine zs_iast (ip' := 42) rfl rfl hrN hr (by omega) (by omega) ?_
      refine zW_1 rfl ?_
      exact ⟨rfl, by unfold sGoOn; rw [if_neg (fun h => by have := h.1; omega), zk_zk, zk_eq], rfl, rfl⟩
    · intro h37
      exact absurd h37 (by decide)
  · intro h11
    refine zs_aload (ip' := 13) rfl rfl rfl ?_
    refine zs_iload (ip' := 14) rfl rfl rfl ?_
    refine zs_pushI (ip' := 15) rfl rfl zi_k4 ?_
    refine zW_cP (ip' := 16) rfl rfl cM_walkerAt rfl rfl rfl ?_
    refine zs_iald (ip' := 17) rfl rfl hrN hr (by omega) ?_
    intro hl16 hu16
    rw [zk_eq] at hl16 hu16 ⊢
    refine zs_iload (ip' := 18) rfl rfl rfl ?_
    refine zW_cP (ip' := 19) rfl rfl cM_has rfl rfl rfl ?_
    refine zs_if_neB (t := 30) (ip' := 20) rfl rfl ?_ ?_
    · intro h19
      refine zs_pushI (ip' := 31) rfl rfl zi_k0 ?_
      refine zs_istore4 (ip' := 32) rfl rfl ?_
      refine zs_aload (ip' := 33) rfl rfl rfl ?_
      refine zs_iload (ip' := 34) rfl rfl rfl ?_
      refine zs_pushI (ip' := 35) rfl rfl zi_k3 ?_
      refine zW_cP (ip' := 36) rfl rfl cM_walkerAt rfl rfl rfl ?_
      refine zs_iload (ip' := 37) rfl rfl rfl ?_
      refine zs_if_eq (t := 40) (ip' := 38) rfl rfl (by omega) ?_ ?_
      · intro h37
        refine zs_pushI (ip' := 41) rfl rfl zi_km1 ?_
        refine zs_iast (ip' := 42) rfl rfl hrN hr (by omega) (by omega) ?_
        refine zW_1 rfl ?_
        exact ⟨rfl, by unfold sGoOn; rw [if_neg (fun h => h.2.1 h19), zk_zk, zk_eq], rfl, rfl⟩
      · intro h37
        exact absurd h37 (by decide)
    · intro h19
      refine zs_aload (ip' := 21) rfl rfl rfl ?_
      refine zs_iload (ip' := 22) rfl rfl rfl ?_
      refine zs_pushI (ip' := 23) rfl rfl zi_k5 ?_
      refine zW_cP (ip' := 24) rfl rfl cM_walkerAt rfl rfl rfl ?_
      refine zs_iald (ip' := 25) rfl rfl hrN hr (by omega) ?_
      intro hl24 hu24
      rw [zk_eq] at hl24 hu24 ⊢
      refine zs_iload (ip' := 26) rfl rfl rfl ?_
      refine zW_cP (ip' := 27) rfl rfl cM_has rfl rfl rfl ?_
      refine zs_if_neB (t := 30) (ip' := 28) rfl rfl ?_ ?_
      · intro h27
        refine zs_pushI (ip' := 31) rfl rfl zi_k0 ?_
        refine zs_istore4 (ip' := 32) rfl rfl ?_
        refine zs_aload (ip' := 33) rfl rfl rfl ?_
        refine zs_iload (ip' := 34) rfl rfl rfl ?_
        refine zs_pushI (ip' := 35) rfl rfl zi_k3 ?_
        refine zW_cP (ip' := 36) rfl rfl cM_walkerAt rfl rfl rfl ?_
        refine zs_iload (ip' := 37) rfl rfl rfl ?_
        refine zs_if_eq (t := 40) (ip' := 38) rfl rfl (by omega) ?_ ?_
        · intro h37
          refine zs_pushI (ip' := 41) rfl rfl zi_km1 ?_
          refine zs_iast (ip' := 42) rfl rfl hrN hr (by omega) (by omega) ?_
          refine zW_1 rfl ?_
          exact ⟨rfl, by unfold sGoOn; rw [if_neg (fun h => h.2.2 h27), zk_zk, zk_eq], rfl, rfl⟩
        · intro h37
          exact absurd h37 (by decide)
      · intro h27
        refine zs_pushI (ip' := 29) rfl rfl zi_k1 ?_
        refine zs_goto (t := 31) rfl ?_
        refine zs_istore4 (ip' := 32) rfl rfl ?_
        refine zs_aload (ip' := 33) rfl rfl rfl ?_
        refine zs_iload (ip' := 34) rfl rfl rfl ?_
        refine zs_pushI (ip' := 35) rfl rfl zi_k3 ?_
        refine zW_cP (ip' := 36) rfl rfl cM_walkerAt rfl rfl rfl ?_
        refine zs_iload (ip' := 37) rfl rfl rfl ?_
        refine zs_if_eq (t := 40) (ip' := 38) rfl rfl (by omega) ?_ ?_
        · intro h37
          exact absurd h37 (by decide)
        · intro h37
          refine zs_iload (ip' := 39) rfl rfl rfl ?_
          refine zs_goto (t := 41) rfl ?_
          refine zs_iast (ip' := 42) rfl rfl hrN hr (by omega) (by omega) ?_
          refine zW_1 rfl ?_
          exact ⟨rfl, by unfold sGoOn; rw [if_pos ⟨h11, h19, h27⟩, zk_zk, zk_eq], rfl, rfl⟩
theorem cM_settle {N : Nat} {G F : GM} {n : Nat} (hN : 241 ≤ N) {r : Nat} (hr : z_sh r = (1, 256, [])) (hrN : r < N) {w l : Int} (hok : mOk (G r)) (h0 : 0 ≤ w) (h1 : w < G r 5) (hl : 0 ≤ l ∧ l < G r 4) {Q : Zq} (hQ : Q (.inl none) (zk G r (sSettle (G r) w l)) F n) : zW N 40 42 [.ref 230, .ref r, .int (zi w), .int (zi l)] [] G F n Q := by
  have h5 := hok.2.2.2.2.2.1
  have h4 := hok.2.2.2.2.1
  have hb := mOk_hb hok
  obtain ⟨⟨x0, x1⟩, ⟨y0, y1⟩, -⟩ := hok.2.2.2.2.2.2.2.2.2 w h0 h1
  refine zs_aload (ip' := 43) rfl rfl rfl ?_
  refine zs_aload (ip' := 44) rfl rfl rfl ?_
  refine zs_iload (ip' := 45) rfl rfl rfl ?_
  refine zs_pushI (ip' := 46) rfl rfl zi_k0 ?_
  refine zW_cP (ip' := 47) rfl rfl cM_walkerAt rfl rfl rfl ?_
  refine zs_iald (ip' := 48) rfl rfl hrN hr (by omega) ?_
  intro hl47 hu47
  refine zs_aload (ip' := 49) rfl rfl rfl ?_
  refine zs_iload (ip' := 50) rfl rfl rfl ?_
  refine zs_pushI (ip' := 51) rfl rfl zi_k1 ?_
  refine zW_cP (ip' := 52) rfl rfl cM_walkerAt rfl rfl rfl ?_
  refine zs_iald (ip' := 53) rfl rfl hrN hr (by omega) ?_
  intro hl52 hu52
  refine zW_cP (ip' := 54) rfl rfl cM_cellAt rfl rfl rfl ?_
  refine zs_iald (ip' := 55) rfl rfl hrN hr (by omega) ?_
  intro hl54 hu54
  refine zs_pushI (ip' := 56) rfl rfl zi_k2 ?_
  refine zs_icmp_ne (t := 67) (ip' := 57) rfl rfl (by omega) (by omega) ?_ ?_
  · intro h56
    refine zs_aload (ip' := 68) rfl rfl rfl ?_
    refine zs_iload (ip' := 69) rfl rfl rfl ?_
    refine zs_iload (ip' := 70) rfl rfl rfl ?_
    refine zW_cP (ip' := 71) rfl rfl (cM_isOn hr hrN (by omega) (by omega)) rfl rfl rfl ?_
    refine zs_if_eqB (t := 87) (ip' := 72) rfl rfl ?_ ?_
    · intro h71
      refine zW_1 rfl ?_
      have e : sSettle (G r) w l = G r := (if_neg h56).trans (if_neg h71)
      rw [e, zk_self] at hQ
      exact hQ
    · intro h71
      refine zs_aload (ip' := 73) rfl rfl rfl ?_
      refine zs_iload (ip' := 74) rfl rfl rfl ?_
      refine zs_pushI (ip' := 75) rfl rfl zi_k3 ?_
      refine zW_cP (ip' := 76) rfl rfl cM_lightAt rfl rfl rfl ?_
      refine zs_iald (ip' := 77) rfl rfl hrN hr (by omega) ?_
      intro hl76 hu76
      refine zs_if_ne (t := 83) (ip' := 78) rfl rfl (by omega) ?_ ?_
      · intro h77
        refine zs_aload (ip' := 84) rfl rfl rfl ?_
        refine zs_iload (ip' := 85) rfl rfl rfl ?_
        refine zs_iload (ip' := 86) rfl rfl rfl ?_
        refine zW_cV (ip' := 87) rfl rfl (cM_goesOn hr hrN hok h0 h1 hl) rfl rfl rfl ?_
        rintro G' F' n' ⟨rfl, rfl, rfl⟩
        refine zW_1 rfl ?_
        have e : sSettle (G r) w l = sGoOn (G r) w l := (if_neg h56).trans ((if_pos h71).trans (if_neg h77))
        rw [e] at hQ
        exact hQ
      · intro h77
        refine zs_aload (ip' := 79) rfl rfl rfl ?_
        refine zs_iload (ip' := 80) rfl rfl rfl ?_
        refine zs_iload (ip' := 81) rfl rfl rfl ?_
        refine zW_cV (ip' := 82) rfl rfl (cM_sinks hr hrN hok h0 h1 hl) rfl rfl rfl ?_
        rintro G' F' n' ⟨rfl, rfl, rfl⟩
        refine zs_goto (t := 87) rfl ?_
        refine zW_1 rfl ?_
        have e : sSettle (G r) w l = sSink (G r) w l := (if_neg h56).trans ((if_pos h71).trans (if_pos h77))
        rw [e] at hQ
        exact hQ
  · intro h56
    refine zs_aload (ip' := 58) rfl rfl rfl ?_
    refine zs_iload (ip' := 59) rfl rfl rfl ?_
    refine zs_pushI (ip' := 60) rfl rfl zi_k2 ?_
    refine zW_cP (ip' := 61) rfl rfl cM_walkerAt rfl rfl rfl ?_
    refine zs_pushI (ip' := 62) rfl rfl zi_k1 ?_
    refine zs_iast (ip' := 63) rfl rfl hrN hr (by omega) (by omega) ?_
    refine zs_aload (ip' := 64) rfl rfl rfl ?_
    refine zs_iload (ip' := 65) rfl rfl rfl ?_
    refine zW_cV (ip' := 66) rfl rfl (cM_forgetsTarget hr hrN (by omega)) rfl rfl rfl ?_
    rintro G' F' n' ⟨rfl, rfl, rfl⟩
    rw [zk_eq, zk_zk]
    refine zs_goto (t := 87) rfl ?_
    refine zW_1 rfl ?_
    have e : sSettle (G r) w l = zp (zp (G r) (214 + 7 * w + 2) 1) (214 + 7 * w + 3) (-1) := if_pos h56
    rw [e] at hQ
    exact hQ
theorem cM_acts1 {N : Nat} {G F : GM} {n : Nat} (hN : 241 ≤ N) {r : Nat} (hr : z_sh r = (1, 256, [])) (hrN : r < N) (hro : r ≠ 230 ∧ r ≠ 238 ∧ r ≠ 239) {w l : Int} (hok : mOk (G r)) (h0 : 0 ≤ w) (h1 : w < G r 5) (hl4 : l < G r 4) (hlr : zr l) (h6 : G r (214 + 7 * w + 6) < G r 3) : zW N 40 20 [.ref 230, .ref r, .int (zi w), .int (zi l)] [] G F n (zV fun G' F' n' => ∃ A B f l', G' = zBf (zk G r (sAct1 (G r) w l)) A B f l' ∧ F' = F ∧ n' = n) := by
  have h5 := hok.2.2.2.2.2.1
  have h4 := hok.2.2.2.2.1
  refine zs_iload (ip' := 21) rfl rfl rfl ?_
  refine zs_if_ge (t := 23) (ip' := 22) rfl rfl (by omega) ?_ ?_
  · intro h21
    have hl : 0 ≤ l ∧ l < G r 4 := ⟨h21, hl4⟩
    refine zs_aload (ip' := 24) rfl rfl rfl ?_
    refine zs_iload (ip' := 25) rfl rfl rfl ?_
    refine zs_iload (ip' := 26) rfl rfl rfl ?_
    refine zW_cP (ip' := 27) rfl rfl (cM_isOn hr hrN (by omega) (by omega)) rfl rfl rfl ?_
    refine zs_if_neB (t := 42) (ip' := 28) rfl rfl ?_ ?_
    · intro h27
      have e : sAct1 (G r) w l = sSettle (G r) w l := (if_neg (by omega)).trans (if_pos h27)
      obtain ⟨A, B, f, l', hG⟩ := zBf_ex (zk G r (sSettle (G r) w l))
      exact cM_settle hN hr hrN hok h0 h1 hl ⟨rfl, A, B, f, l', by rw [e]; exact hG, rfl, rfl⟩
    · intro h27
      refine zs_aload (ip' := 29) rfl rfl rfl ?_
      refine zs_aload (ip' := 30) rfl rfl rfl ?_
      refine zs_iload (ip' := 31) rfl rfl rfl ?_
      refine zs_iload (ip' := 32) rfl rfl rfl ?_
      refine zW_cR (ip' := 33) rfl rfl (cM_moves hN hr hrN hro hok h0 h1 hl h27 h6) rfl rfl (z_ok3 (by omega) zsh_230 rfl rfl rfl) ?_
      rintro v G' F' n' hrv ⟨rfl, ⟨st, hD⟩, A, B, f, l', rfl, rfl, rfl⟩
      refine zs_if_neB (t := 42) (ip' := 34) rfl rfl ?_ ?_
      · intro h33
        rw [if_pos h33]
        obtain ⟨hok2, z2⟩ := sMoved_ok hok h0 h1 hl hD h27 h33 h6
        have e : sAct1 (G r) w l = sSettle (sMoved (G r) w l) w l := (if_neg (by omega)).trans ((if_neg h27).trans (if_pos h33))
        have e2 : zBf (zk G r (sMoved (G r) w l)) A B f l' r = sMoved (G r) w l := by rw [zBf_o hro, zk_eq]
        exact cM_settle hN hr hrN (by rw [e2]; exact hok2) h0 (by rw [e2, z2.2.2.2.2.2.1]; exact h1) (by rw [e2, z2.2.2.2.2.1]; exact hl) ⟨rfl, A, B, f, l', by rw [e2, e, zBf_r hro, zk_zk], rfl, rfl⟩
      · intro h33
        rw [if_neg h33]
        refine zs_aload (ip' := 35) rfl rfl rfl ?_
        refine zs_iload (ip' := 36) rfl rfl rfl ?_
        refine zs_iload (ip' := 37) rfl rfl rfl ?_
        refine zW_cV (ip' := 38) rfl rfl (cM_passes hr hrN (by omega)) rfl rfl rfl ?_
        rintro G' F' n' ⟨rfl, rfl, rfl⟩
        rw [zBf_o hro, zk_eq, zBf_r hro, zk_zk]
        refine zs_aload (ip' := 39) rfl rfl rfl ?_
        refine zs_iload (ip' := 40) rfl rfl rfl ?_
        refine zW_cV (ip' := 41) rfl rfl (cM_forgetsTarget hr hrN (by omega)) rfl rfl rfl ?_
        rintro G' F' n' ⟨rfl, rfl, rfl⟩
        rw [zBf_o hro, zk_eq, zBf_r hro, zk_zk]
        refine zW_1 rfl ?_
        have e : sAct1 (G r) w l = zp (zp (G r) (214 + 7 * w + 4) (zadd (G r (214 + 7 * w + 4)) l)) (214 + 7 * w + 3) (-1) := (if_neg (by omega)).trans ((if_neg h27).trans (if_neg h33))
        exact ⟨rfl, A, B, f, l', by rw [e], rfl, rfl⟩
  · intro h21
    refine zW_1 rfl ?_
    have e : sAct1 (G r) w l = G r := if_pos h21
    obtain ⟨A, B, f, l', hG⟩ := zBf_ex G
    exact ⟨rfl, A, B, f, l', by rw [e, zk_self]; exact hG, rfl, rfl⟩
theorem cM_acts {N : Nat} {G F : GM} {n : Nat} (hN : 241 ≤ N) {r : Nat} (hr : z_sh r = (1, 256, [])) (hrN : r < N) (hro : r ≠ 230 ∧ r ≠ 238 ∧ r ≠ 239) {w : Int} (hok : mOk (G r)) (h0 : 0 ≤ w) (h1 : w < G r 5) (h6 : G r (214 + 7 * w + 6) < G r 3) : zC N 40 [.ref 230, .ref r, .int (zi w)] G F n (zV fun G' F' n' => ∃ A B f l', G' = zBf (zk G r (sAct (G r) w)) A B f l' ∧ F' = F ∧ n' = n) := by
  have h5 := hok.2.2.2.2.2.1
  have h4 := hok.2.2.2.2.1
  have hs := mOk_sg hok
  have hk := mOk_wk hok h0 h1
  obtain ⟨hok2, z2⟩ := sAim_ok hok h0 h1
  obtain ⟨n1, n2⟩ := sNear_rng (G r) w (G r 4).toNat
  obtain ⟨-, -, -, ⟨t0, t1⟩, -⟩ := hok.2.2.2.2.2.2.2.2.2 w h0 h1
  refine zC_i (L0 := [.ref 230, .ref r, .int (zi w), .null]) rfl ?_
  refine zs_aload (ip' := 1) rfl rfl rfl ?_
  refine zs_iload (ip' := 2) rfl rfl rfl ?_
  refine zs_pushI (ip' := 3) rfl rfl zi_k3 ?_
  refine zW_cP (ip' := 4) rfl rfl cM_walkerAt rfl rfl rfl ?_
  refine zs_iald (ip' := 5) rfl rfl hrN hr (by omega) ?_
  intro hl4 hu4
  refine zs_if_ge (t := 14) (ip' := 6) rfl rfl (by omega) ?_ ?_
  · intro h5
    refine zs_aload (ip' := 15) rfl rfl rfl ?_
    refine zs_iload (ip' := 16) rfl rfl rfl ?_
    refine zs_pushI (ip' := 17) rfl rfl zi_k3 ?_
    refine zW_cP (ip' := 18) rfl rfl cM_walkerAt rfl rfl rfl ?_
    refine zs_iald (ip' := 19) rfl rfl hrN hr (by omega) ?_
    intro hl18 hu18
    refine zs_istore3 (ip' := 20) rfl rfl ?_
    have e : sAim (G r) w = G r := if_neg (by omega)
    have := cM_acts1 (F := F) (n := n) hN hr hrN hro hok h0 h1 (l := G r (214 + 7 * w + 3)) t1 ⟨by omega, by omega⟩ h6
    unfold sAct
    rw [e]
    exact this
  · intro h5
    refine zs_aload (ip' := 7) rfl rfl rfl ?_
    refine zs_iload (ip' := 8) rfl rfl rfl ?_
    refine zs_pushI (ip' := 9) rfl rfl zi_k3 ?_
    refine zW_cP (ip' := 10) rfl rfl cM_walkerAt rfl rfl rfl ?_
    refine zs_aload (ip' := 11) rfl rfl rfl ?_
    refine zs_iload (ip' := 12) rfl rfl rfl ?_
    refine zW_cP (ip' := 13) rfl rfl (cM_nearestOf hr hrN (by omega) hs hk h4 (fun l l0 l1 => mOk_lt hok l0 l1)) rfl rfl rfl ?_
    refine zs_iast (ip' := 14) rfl rfl hrN hr (by omega) (by omega) ?_
    refine zs_aload (ip' := 15) rfl rfl rfl ?_
    refine zs_iload (ip' := 16) rfl rfl rfl ?_
    refine zs_pushI (ip' := 17) rfl rfl zi_k3 ?_
    refine zW_cP (ip' := 18) rfl rfl cM_walkerAt rfl rfl rfl ?_
    refine zs_iald (ip' := 19) rfl rfl hrN hr (by omega) ?_
    intro hl18 hu18
    refine zs_istore3 (ip' := 20) rfl rfl ?_
    have e : sAim (G r) w = zp (G r) (214 + 7 * w + 3) (sNear (G r) w (G r 4).toNat) := if_pos (by omega)
    have hro' := hro
    rw [← e] at hl18 hu18 ⊢
    have := cM_acts1 (G := zk G r (sAim (G r) w)) (F := F) (n := n) hN hr hrN hro (by rw [zk_eq]; exact hok2) h0 (by rw [zk_eq, z2.2.2.2.2.2.1]; exact h1) (l := zk G r (sAim (G r) w) r (214 + 7 * w + 3)) (by rw [zk_eq, z2.2.2.2.2.1, e, zp_eq]; omega) ⟨hl18, hu18⟩ (by rw [zk_eq, z2.2.2.2.1, e, zp_ne (by omega)]; exact h6)
    refine zW_w ?_ this
    rintro o G' F' n' ⟨ho, A, B, f, l', rfl, rfl, rfl⟩
    exact ⟨ho, A, B, f, l', by rw [zk_eq, zk_zk]; rfl, rfl, rfl⟩
