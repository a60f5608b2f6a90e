/-! The program: the calls that change (printed by wip/whole/src62.py). -/
theorem zW_gk {N y ip k : Nat} {L st : List Value} {G F : GM} {n : Nat} {Q : Zq} {s : Int → Int} (h : ∀ G1 : GM, G1 k = s → (∀ j, j ≠ k → G1 j = G j) → zW N y ip L st G1 F n Q) : zW N y ip L st (zk G k s) F n Q := h _ (zk_eq _ _ _) (fun _ hj => zk_ne hj)
theorem cX_put3 {N : Nat} {G F : GM} {n : Nat} (hN : 229 ≤ N) {w : Nat} (hw : w < 12) {l : Int} (hl0 : G (16 * w + 3) 0 = l) (hl8 : 0 ≤ l ∧ l < 8) {c b v : Int} (hc : zr c) (hb : zr b) (hv : v = 0 ∨ v = 1) : zC N 147 [.ref (16 * w + 3), .int (zi c), .int (zi b), .int (zi v)] G F n (zR fun r G' F' n' => (r = l ∧ (∀ k, k ≠ 16 * w + 3 → k ≠ 16 * w + 4 → k ≠ 16 * w + 5 → k ≠ 16 * w + 6 → G' k = G k) ∧ G' (16 * w + 3) 0 = l + 1 ∧ G' (16 * w + 4) = zp (G (16 * w + 4)) l c ∧ G' (16 * w + 5) = zp (G (16 * w + 5)) l b ∧ G' (16 * w + 6) = zp (G (16 * w + 6)) l (-1) ∧ ∀ j, 0 ≤ j → j < 8 → (zhas (G' (16 * w + 3) 1) j ↔ zhas (G (16 * w + 3) 1) j ∨ (j = l ∧ v = 1))) ∧ F' = F ∧ n' = n) := by
  refine zC_i (L0 := [.ref (16 * w + 3), .int (zi c), .int (zi b), .int (zi v), .null]) rfl ?_
  refine zs_aload (ip' := 1) rfl rfl rfl ?_
  refine zs_getI (ip' := 2) rfl rfl (by omega) (zsh_w3 hw) rfl (q := 0) rfl ?_
  intro hl1 hu1
  rw [hl0] at hl1 hu1 ⊢
  refine zs_pushI (ip' := 3) rfl rfl zi_k8 ?_
  refine zs_icmp_lt (t := 6) (ip' := 4) rfl rfl (by omega) (by omega) ?_ ?_
  · intro h3
    refine zs_aload (ip' := 7) rfl rfl rfl ?_
    refine zs_getI (ip' := 8) rfl rfl (by omega) (zsh_w3 hw) rfl (q := 0) rfl ?_
    intro hl7 hu7
    rw [hl0] at hl7 hu7 ⊢
    refine zs_istore4 (ip' := 9) rfl rfl ?_
    refine zs_aload (ip' := 10) rfl rfl rfl ?_
    refine zs_getR (ip' := 11) rfl rfl (r := 16 * w + 4) (by omega) (zsh_w3 hw) rfl ?_
    refine zs_iload (ip' := 12) rfl rfl rfl ?_
    refine zs_iload (ip' := 13) rfl rfl rfl ?_
    refine zs_iast (ip' := 14) rfl rfl (by omega) (zsh_w4 hw) (by omega) hc ?_
    refine zW_gk ?_
    intro G1 e1 f1
    refine zs_aload (ip' := 15) rfl rfl rfl ?_
    refine zs_getR (ip' := 16) rfl rfl (r := 16 * w + 5) (by omega) (zsh_w3 hw) rfl ?_
    refine zs_iload (ip' := 17) rfl rfl rfl ?_
    refine zs_iload (ip' := 18) rfl rfl rfl ?_
    refine zs_iast (ip' := 19) rfl rfl (by omega) (zsh_w5 hw) (by omega) hb ?_
    refine zW_gk ?_
    intro G2 e2 f2
    refine zs_aload (ip' := 20) rfl rfl rfl ?_
    refine zs_getR (ip' := 21) rfl rfl (r := 16 * w + 6) (by omega) (zsh_w3 hw) rfl ?_
    refine zs_iload (ip' := 22) rfl rfl rfl ?_
    refine zs_pushI (ip' := 23) rfl rfl zi_km1 ?_
    refine zs_iast (ip' := 24) rfl rfl (by omega) (zsh_w6 hw) (by omega) (by omega) ?_
    refine zW_gk ?_
    intro G3 e3 f3
    refine zs_iload (ip' := 25) rfl rfl rfl ?_
    refine zs_if_eq (t := 34) (ip' := 26) rfl rfl (by omega) ?_ ?_
    · intro h25
      refine zs_aload (ip' := 35) rfl rfl rfl ?_
      refine zs_dupR (ip' := 36) rfl rfl ?_
      refine zs_getI (ip' := 37) rfl rfl (by omega) (zsh_w3 hw) rfl (q := 0) rfl ?_
      intro hl36 hu36
      rw [f3 _ (by omega), f2 _ (by omega), f1 _ (by omega), hl0] at hl36 hu36 ⊢
      refine zs_pushI (ip' := 38) rfl rfl zi_k1 ?_
      refine zs_iadd (ip' := 39) rfl rfl ?_
      refine zs_putI (ip' := 40) rfl rfl (by omega) (zsh_w3 hw) rfl (q := 0) rfl (by omega) ?_
      refine zW_gk ?_
      intro G5 e5 f5
      refine zs_iload (ip' := 41) rfl rfl rfl ?_
      refine zW_0 rfl ?_
      refine ⟨l, rfl, by omega, ⟨rfl, fun k a b c d => ?_, ?_, ?_, ?_, ?_, fun j j0 j1 => ?_⟩, rfl, rfl⟩
      · rw [f5 _ a, f3 _ d, f2 _ c, f1 _ b]
      · rw [e5, zp_eq]
      · rw [f5 _ (by omega), f3 _ (by omega), f2 _ (by omega), e1]
      · rw [f5 _ (by omega), f3 _ (by omega), e2, f1 _ (by omega)]
      · rw [f5 _ (by omega), e3, f2 _ (by omega), f1 _ (by omega)]
      · rw [e5, zp_ne (by omega), f3 _ (by omega), f2 _ (by omega), f1 _ (by omega)]
        exact ⟨Or.inl, fun q => q.elim id (fun q => absurd q.2 (by omega))⟩
    · intro h25
      refine zs_aload (ip' := 27) rfl rfl rfl ?_
      refine zs_dupR (ip' := 28) rfl rfl ?_
      refine zs_getI (ip' := 29) rfl rfl (by omega) (zsh_w3 hw) rfl (q := 1) rfl ?_
      intro hl28 hu28
      rw [f3 _ (by omega), f2 _ (by omega), f1 _ (by omega)] at hl28 hu28 ⊢
      refine zs_pushI (ip' := 30) rfl rfl zi_k1 ?_
      refine zs_iload (ip' := 31) rfl rfl rfl ?_
      refine zs_ishl (ip' := 32) rfl rfl ?_
      refine zs_ior (ip' := 33) rfl rfl ?_
      refine zs_putI (ip' := 34) rfl rfl (by omega) (zsh_w3 hw) rfl (q := 1) rfl (zr_or _ _) ?_
      refine zW_gk ?_
      intro G4 e4 f4
      refine zs_aload (ip' := 35) rfl rfl rfl ?_
      refine zs_dupR (ip' := 36) rfl rfl ?_
      refine zs_getI (ip' := 37) rfl rfl (by omega) (zsh_w3 hw) rfl (q := 0) rfl ?_
      intro hl36 hu36
      rw [e4, zp_ne (by omega), f3 _ (by omega), f2 _ (by omega), f1 _ (by omega), hl0] at hl36 hu36 ⊢
      refine zs_pushI (ip' := 38) rfl rfl zi_k1 ?_
      refine zs_iadd (ip' := 39) rfl rfl ?_
      refine zs_putI (ip' := 40) rfl rfl (by omega) (zsh_w3 hw) rfl (q := 0) rfl (by omega) ?_
      refine zW_gk ?_
      intro G5 e5 f5
      refine zs_iload (ip' := 41) rfl rfl rfl ?_
      refine zW_0 rfl ?_
      refine ⟨l, rfl, by omega, ⟨rfl, fun k a b c d => ?_, ?_, ?_, ?_, ?_, fun j j0 j1 => ?_⟩, rfl, rfl⟩
      · rw [f5 _ a, f4 _ a, f3 _ d, f2 _ c, f1 _ b]
      · rw [e5, zp_eq]
      · rw [f5 _ (by omega), f4 _ (by omega), f3 _ (by omega), f2 _ (by omega), e1]
      · rw [f5 _ (by omega), f4 _ (by omega), f3 _ (by omega), e2, f1 _ (by omega)]
      · rw [f5 _ (by omega), f4 _ (by omega), e3, f2 _ (by omega), f1 _ (by omega)]
      · rw [e5, zp_ne (by omega), e4, zp_eq]
        have hz := zhas_add (m := G (16 * w + 3) 1) (l := l) (j := j) ⟨by omega, by omega⟩ ⟨by omega, by omega⟩
        show zhas (zadd (G (16 * w + 3) 1) l) j ↔ _
        rw [hz]
        exact ⟨fun q => q.imp id (fun q => ⟨q, by omega⟩), fun q => q.imp id (fun q => q.1)⟩
  · intro h3
    refine zs_pushI (ip' := 5) rfl rfl zi_km1 ?_
    refine zW_0 rfl ?_
    exact absurd h3 (by omega)
theorem cX_put6 {N : Nat} {G F : GM} {n : Nat} (hN : 229 ≤ N) {w : Nat} (hw : w < 12) {l : Int} (hl0 : G (16 * w + 7) 0 = l) (hl8 : 0 ≤ l ∧ l < 6) {c : Int} (hc : zr c) : zC N 151 [.ref (16 * w + 7), .int (zi c)] G F n (zR fun r G' F' n' => (r = l ∧ (∀ k, (k < 16 * w + 7 ∨ 16 * w + 14 ≤ k) → G' k = G k) ∧ G' (16 * w + 7) 0 = l + 1 ∧ G' (16 * w + 8) = zp (G (16 * w + 8)) l c ∧ G' (16 * w + 9) = zp (G (16 * w + 9)) l 0 ∧ G' (16 * w + 10) = zp (G (16 * w + 10)) l 0 ∧ G' (16 * w + 11) = zp (G (16 * w + 11)) l (-1) ∧ G' (16 * w + 12) = zp (G (16 * w + 12)) l 0 ∧ G' (16 * w + 13) = zp (G (16 * w + 13)) l 0) ∧ F' = F ∧ n' = n) := by
  refine zC_i (L0 := [.ref (16 * w + 7), .int (zi c), .null]) rfl ?_
  refine zs_aload (ip' := 1) rfl rfl rfl ?_
  refine zs_getI (ip' := 2) rfl rfl (by omega) (zsh_w7 hw) rfl (q := 0) rfl ?_
  intro hl1 hu1
  rw [hl0] at hl1 hu1 ⊢
  refine zs_pushI (ip' := 3) rfl rfl zi_k6 ?_
  refine zs_icmp_lt (t := 6) (ip' := 4) rfl rfl (by omega) (by omega) ?_ ?_
  · intro h3
    refine zs_aload (ip' := 7) rfl rfl rfl ?_
    refine zs_getI (ip' := 8) rfl rfl (by omega) (zsh_w7 hw) rfl (q := 0) rfl ?_
    intro hl7 hu7
    rw [hl0] at hl7 hu7 ⊢
    refine zs_istore2 (ip' := 9) rfl rfl ?_
    refine zs_aload (ip' := 10) rfl rfl rfl ?_
    refine zs_getR (ip' := 11) rfl rfl (r := 16 * w + 8) (by omega) (zsh_w7 hw) rfl ?_
    refine zs_iload (ip' := 12) rfl rfl rfl ?_
    refine zs_iload (ip' := 13) rfl rfl rfl ?_
    refine zs_iast (ip' := 14) rfl rfl (by omega) (zsh_w8 hw) (by omega) hc ?_
    refine zW_gk ?_
    intro G1 e1 f1
    refine zs_aload (ip' := 15) rfl rfl rfl ?_
    refine zs_getR (ip' := 16) rfl rfl (r := 16 * w + 9) (by omega) (zsh_w7 hw) rfl ?_
    refine zs_iload (ip' := 17) rfl rfl rfl ?_
    refine zs_pushI (ip' := 18) rfl rfl zi_k0 ?_
    refine zs_iast (ip' := 19) rfl rfl (by omega) (zsh_w9 hw) (by omega) (by omega) ?_
    refine zW_gk ?_
    intro G2 e2 f2
    refine zs_aload (ip' := 20) rfl rfl rfl ?_
    refine zs_getR (ip' := 21) rfl rfl (r := 16 * w + 10) (by omega) (zsh_w7 hw) rfl ?_
    refine zs_iload (ip' := 22) rfl rfl rfl ?_
    refine zs_pushI (ip' := 23) rfl rfl zi_k0 ?_
    refine zs_iast (ip' := 24) rfl rfl (by omega) (zsh_w10 hw) (by omega) (by omega) ?_
    refine zW_gk ?_
    intro G3 e3 f3
    refine zs_aload (ip' := 25) rfl rfl rfl ?_
    refine zs_getR (ip' := 26) rfl rfl (r := 16 * w + 11) (by omega) (zsh_w7 hw) rfl ?_
    refine zs_iload (ip' := 27) rfl rfl rfl ?_
    refine zs_pushI (ip' := 28) rfl rfl zi_km1 ?_
    refine zs_iast (ip' := 29) rfl rfl (by omega) (zsh_w11 hw) (by omega) (by omega) ?_
    refine zW_gk ?_
    intro G4 e4 f4
    refine zs_aload (ip' := 30) rfl rfl rfl ?_
    refine zs_getR (ip' := 31) rfl rfl (r := 16 * w + 12) (by omega) (zsh_w7 hw) rfl ?_
    refine zs_iload (ip' := 32) rfl rfl rfl ?_
    refine zs_pushI (ip' := 33) rfl rfl zi_k0 ?_
    refine zs_iast (ip' := 34) rfl rfl (by omega) (zsh_w12 hw) (by omega) (by omega) ?_
    refine zW_gk ?_
    intro G5 e5 f5
    refine zs_aload (ip' := 35) rfl rfl rfl ?_
    refine zs_getR (ip' := 36) rfl rfl (r := 16 * w + 13) (by omega) (zsh_w7 hw) rfl ?_
    refine zs_iload (ip' := 37) rfl rfl rfl ?_
    refine zs_pushI (ip' := 38) rfl rfl zi_k0 ?_
    refine zs_iast (ip' := 39) rfl rfl (by omega) (zsh_w13 hw) (by omega) (by omega) ?_
    refine zW_gk ?_
    intro G6 e6 f6
    refine zs_aload (ip' := 40) rfl rfl rfl ?_
    refine zs_dupR (ip' := 41) rfl rfl ?_
    refine zs_getI (ip' := 42) rfl rfl (by omega) (zsh_w7 hw) rfl (q := 0) rfl ?_
    intro hl41 hu41
    rw [f6 _ (by omega), f5 _ (by omega), f4 _ (by omega), f3 _ (by omega), f2 _ (by omega), f1 _ (by omega), hl0] at hl41 hu41 ⊢
    refine zs_pushI (ip' := 43) rfl rfl zi_k1 ?_
    refine zs_iadd (ip' := 44) rfl rfl ?_
    refine zs_putI (ip' := 45) rfl rfl (by omega) (zsh_w7 hw) rfl (q := 0) rfl (by omega) ?_
    refine zW_gk ?_
    intro G7 e7 f7
    refine zs_iload (ip' := 46) rfl rfl rfl ?_
    refine zW_0 rfl ?_
    refine ⟨l, rfl, by omega, ⟨rfl, fun k a => ?_, ?_, ?_, ?_, ?_, ?_, ?_, ?_⟩, rfl, rfl⟩
    · rw [f7 _ (by omega), f6 _ (by omega), f5 _ (by omega), f4 _ (by omega), f3 _ (by omega), f2 _ (by omega), f1 _ (by omega)]
    · rw [e7, zp_eq]
    · rw [f7 _ (by omega), f6 _ (by omega), f5 _ (by omega), f4 _ (by omega), f3 _ (by omega), f2 _ (by omega), e1]
    · rw [f7 _ (by omega), f6 _ (by omega), f5 _ (by omega), f4 _ (by omega), f3 _ (by omega), e2, f1 _ (by omega)]
    · rw [f7 _ (by omega), f6 _ (by omega), f5 _ (by omega), f4 _ (by omega), e3, f2 _ (by omega), f1 _ (by omega)]
    · rw [f7 _ (by omega), f6 _ (by omega), f5 _ (by omega), e4, f3 _ (by omega), f2 _ (by omega), f1 _ (by omega)]
    · rw [f7 _ (by omega), f6 _ (by omega), e5, f4 _ (by omega), f3 _ (by omega), f2 _ (by omega), f1 _ (by omega)]
    · rw [f7 _ (by omega), e6, f5 _ (by omega), f4 _ (by omega), f3 _ (by omega), f2 _ (by omega), f1 _ (by omega)]
  · intro h3
    refine zs_pushI (ip' := 5) rfl rfl zi_km1 ?_
    refine zW_0 rfl ?_
    exact absurd h3 (by omega)
theorem cR_cwrong_l {N : Nat} {G F : GM} {n : Nat} (hN : 229 ≤ N) {w : Nat} (hw : w < 12) {s : Int → Int} (hok : mOk s) (hR : RX G w s) : ∀ (d : Nat) (k : Nat), s 4 - (k : Int) < (d : Int) → (k : Int) ≤ s 4 → zW N 149 4 [.ref (16 * w + 3), .int (zi (zcnt (fun k => sAst s 9 k 0 = 1) k)), .int (zi (k : Int))] [] G F n (fun o G' F' n' => o = .inl (some (.int (zi (zcnt (fun k => sAst s 9 k 0 = 1) (s 4).toNat)))) ∧ G' = G ∧ F' = F ∧ n' = n) := by
  intro d
  induction d with
  | zero =>
    intro k hd hj
    exact absurd hd (by omega)
  | succ d ih =>
    intro k hd hj
    have b4 := hok.2.2.2.2.1
    have e4 := (RX_n hR).1
    have hz := zcnt_rng (fun k => sAst s 9 k 0 = 1) k
    have hw01 := sAst_01 s 9 (k : Int) 0
    refine zs_iload (ip' := 5) rfl rfl rfl ?_
    refine zs_aload (ip' := 6) rfl rfl rfl ?_
    refine zs_getI (ip' := 7) rfl rfl (by omega) (zsh_w3 hw) rfl (q := 0) rfl ?_
    intro hl6 hu6
    rw [e4] at hl6 hu6 ⊢
    refine zs_icmp_ge (t := 15) (ip' := 8) rfl rfl (by omega) (by omega) ?_ ?_
    · intro h7
      refine zs_iload (ip' := 16) rfl rfl rfl ?_
      refine zW_0 rfl ?_
      exact zfin (congrArg (zcnt (fun k => sAst s 9 k 0 = 1)) (by omega))
    · intro h7
      refine zs_aload (ip' := 9) rfl rfl rfl ?_
      refine zs_iload (ip' := 10) rfl rfl rfl ?_
      refine zW_cP (ip' := 11) rfl rfl (cR_wrong hN hw hok hR (by omega)) rfl rfl (z_ok3 (by omega) (zsh_w3 hw) rfl rfl rfl) ?_
      refine zs_if_eq (t := 13) (ip' := 12) rfl rfl (by omega) ?_ ?_
      · intro h11
        refine zs_iinc2 (ip' := 14) rfl rfl zi_k1 ?_
        refine zs_goto (t := 4) rfl ?_
        have e : zcnt (fun k => sAst s 9 k 0 = 1) (k + 1) = zcnt (fun k => sAst s 9 k 0 = 1) k := by
          show _ + (if sAst s 9 (k : Int) 0 = 1 then 1 else 0) = _
          rw [if_neg (by omega), Int.add_zero]
        have := ih (k + 1) (by omega) (by omega)
        rw [e] at this
        exact this
      · intro h11
        refine zs_iinc1 (ip' := 13) rfl rfl zi_k1 ?_
        refine zs_iinc2 (ip' := 14) rfl rfl zi_k1 ?_
        refine zs_goto (t := 4) rfl ?_
        have e : zcnt (fun k => sAst s 9 k 0 = 1) (k + 1) = zcnt (fun k => sAst s 9 k 0 = 1) k + 1 := by
          show _ + (if sAst s 9 (k : Int) 0 = 1 then 1 else 0) = _
          rw [if_pos (by omega)]
        have := ih (k + 1) (by omega) (by omega)
        rw [e] at this
        exact this
theorem cR_cwrong {N : Nat} {G F : GM} {n : Nat} (hN : 229 ≤ N) {w : Nat} (hw : w < 12) {s : Int → Int} (hok : mOk s) (hR : RX G w s) : zPu N 149 [.ref (16 * w + 3)] (zcnt (fun k => sAst s 9 k 0 = 1) (s 4).toNat) G F n := by
  refine zPu_i (L0 := [.ref (16 * w + 3), .null, .null]) rfl ?_
  refine zs_pushI (ip' := 1) rfl rfl zi_k0 ?_
  refine zs_istore1 (ip' := 2) rfl rfl ?_
  refine zs_pushI (ip' := 3) rfl rfl zi_k0 ?_
  refine zs_istore2 (ip' := 4) rfl rfl ?_
  exact cR_cwrong_l hN hw hok hR 9 0 (by have := hok.2.2.2.2.1; omega) (by have := hok.2.2.2.2.1; omega)
theorem cQ_setClearness {N : Nat} {G F : GM} {n : Nat} (hN : 229 ≤ N) {s : Int → Int} (hok : mOk s) (hR : RX G 0 s) (hH0 : 0 ≤ G 193 0 ∧ G 193 0 ≤ 8) (hH1 : 0 ≤ G 193 1 ∧ G 193 1 ≤ 7) {c : Int} (hc : zr c) : zC N 257 [.ref 192, .int (zi c)] G F n (zQx F n [1] (q_setClearness s c) (xCq (q_setClearness s c) G s (zp s 2 c))) := by
  obtain ⟨⟨c0, c1, c2, c3, c4, c5⟩, hf, hg, hl, hb, ht⟩ := RX_0 hR
  obtain ⟨b0, b1, b2, b3, b4, b5, bf, bc, bl, bw⟩ := id hok
  refine zC_i (L0 := [.ref 192, .int (zi c), .null]) rfl ?_
  refine zs_iload (ip' := 1) rfl rfl rfl ?_
  refine zs_if_lt (t := 5) (ip' := 2) rfl rfl (by omega) ?_ ?_
  · intro h1
    refine zW_5 rfl ?_
    have hq := (if_neg (by omega) : q_setClearness s c = (1, 0))
    exact zqx1 hq rfl (xCq1 hq (by decide))
  · intro h1
    refine zs_iload (ip' := 3) rfl rfl rfl ?_
    refine zs_pushI (ip' := 4) rfl rfl zi_k20 ?_
    refine zs_icmp_le (t := 10) (ip' := 5) rfl rfl (by omega) (by omega) ?_ ?_
    · intro h4
      refine zs_aload (ip' := 11) rfl rfl rfl ?_
      refine zs_getR (ip' := 12) rfl rfl (r := 193) (by omega) zsh_192 rfl ?_
      refine zs_aload (ip' := 13) rfl rfl rfl ?_
      refine zs_getR (ip' := 14) rfl rfl (r := 0) (by omega) zsh_192 rfl ?_
      refine zW_cV (ip' := 15) rfl rfl (cR_rem hN hok hR hH0 hH1) rfl rfl (z_ok3 (by omega) zsh_193 rfl rfl rfl) ?_
      rintro G1 F' n' ⟨hrm, rfl, rfl⟩
      have hR1 : RX G1 0 s := RX_fr hR (fun k a b => hrm.1 k (by omega) (by omega))
      obtain ⟨⟨d0, d1, d2, d3, d4, d5⟩, df, dg, dl, db, dt⟩ := RX_0 hR1
      refine zs_aload (ip' := 16) rfl rfl rfl ?_
      refine zs_getR (ip' := 17) rfl rfl (r := 0) (by omega) zsh_192 rfl ?_
      refine zs_getI (ip' := 18) rfl rfl (by omega) zsh_0 rfl (q := 4) rfl ?_
      intro hl17 hu17
      rw [d2] at hl17 hu17 ⊢
      refine zs_istore2 (ip' := 19) rfl rfl ?_
      refine zs_aload (ip' := 20) rfl rfl rfl ?_
      refine zs_getR (ip' := 21) rfl rfl (r := 0) (by omega) zsh_192 rfl ?_
      refine zs_iload (ip' := 22) rfl rfl rfl ?_
      refine zs_putI (ip' := 23) rfl rfl (by omega) zsh_0 rfl (q := 4) rfl (by omega) ?_
      have hR2 : RX (zk G1 0 (zp (G1 0) 4 c)) 0 (zp s 2 c) := RX_clear hok hR1
      have f2 : ∀ k, k ≠ 0 → (zk G1 0 (zp (G1 0) 4 c)) k = G1 k := fun k hk => zk_ne hk
      generalize zk G1 0 (zp (G1 0) 4 c) = G2 at hR2 f2 ⊢
      refine zs_iload (ip' := 24) rfl rfl rfl ?_
      refine zW_0 rfl ?_
      have hq := (if_pos (by omega) : q_setClearness s c = (0, s 2))
      exact zqx0 hq (xCq0 hq (xCh_of hrm hR2 (fun k a b => f2 k (by omega))))
    · intro h4
      refine zW_5 rfl ?_
      have hq := (if_neg (by omega) : q_setClearness s c = (1, 0))
      exact zqx1 hq rfl (xCq1 hq (by decide))
theorem cQ_setFog {N : Nat} {G F : GM} {n : Nat} (hN : 229 ≤ N) {s : Int → Int} (hok : mOk s) (hR : RX G 0 s) (hH0 : 0 ≤ G 193 0 ∧ G 193 0 ≤ 8) (hH1 : 0 ≤ G 193 1 ∧ G 193 1 ≤ 7) {h v : Int} (hh : zr h) (hv : zr v) : zC N 258 [.ref 192, .int (zi h), .int (zi v)] G F n (zQx F n [3, 1] (q_setFog s h v) (xCq (q_setFog s h v) G s (zp s (6 + h) v))) := by
  obtain ⟨⟨c0, c1, c2, c3, c4, c5⟩, hf, hg, hl, hb, ht⟩ := RX_0 hR
  obtain ⟨b0, b1, b2, b3, b4, b5, bf, bc, bl, bw⟩ := id hok
  refine zC_i (L0 := [.ref 192, .int (zi h), .int (zi v), .null]) rfl ?_
  refine zs_aload (ip' := 1) rfl rfl rfl ?_
  refine zs_iload (ip' := 2) rfl rfl rfl ?_
  refine zW_cT (ip' := 3) rfl rfl (cT_hour hh) rfl rfl (z_ok3 (by omega) zsh_192 rfl rfl rfl) rfl rfl ?_ ?_
  · intro hn2
    have hq := (if_neg hn2 : q_setFog s h v = (1, 0))
    exact zqx1 hq rfl (xCq1 hq (by decide))
  intro hc2
  
  refine zs_iload (ip' := 4) rfl rfl rfl ?_
  refine zs_if_lt (t := 8) (ip' := 5) rfl rfl (by omega) ?_ ?_
  · intro h4
    refine zW_5 rfl ?_
    have hq := ((if_pos hc2).trans (if_neg (by omega)) : q_setFog s h v = (2, 0))
    exact zqx2 hq rfl (xCq1 hq (by decide))
  · intro h4
    refine zs_iload (ip' := 6) rfl rfl rfl ?_
    refine zs_pushI (ip' := 7) rfl rfl zi_k9 ?_
    refine zs_icmp_le (t := 13) (ip' := 8) rfl rfl (by omega) (by omega) ?_ ?_
    · intro h7
      refine zs_aload (ip' := 14) rfl rfl rfl ?_
      refine zs_getR (ip' := 15) rfl rfl (r := 193) (by omega) zsh_192 rfl ?_
      refine zs_aload (ip' := 16) rfl rfl rfl ?_
      refine zs_getR (ip' := 17) rfl rfl (r := 0) (by omega) zsh_192 rfl ?_
      refine zW_cV (ip' := 18) rfl rfl (cR_rem hN hok hR hH0 hH1) rfl rfl (z_ok3 (by omega) zsh_193 rfl rfl rfl) ?_
      rintro G1 F' n' ⟨hrm, rfl, rfl⟩
      have hR1 : RX G1 0 s := RX_fr hR (fun k a b => hrm.1 k (by omega) (by omega))
      obtain ⟨⟨d0, d1, d2, d3, d4, d5⟩, df, dg, dl, db, dt⟩ := RX_0 hR1
      refine zs_aload (ip' := 19) rfl rfl rfl ?_
      refine zs_getR (ip' := 20) rfl rfl (r := 0) (by omega) zsh_192 rfl ?_
      refine zs_getR (ip' := 21) rfl rfl (r := 15) (by omega) zsh_0 rfl ?_
      refine zs_iload (ip' := 22) rfl rfl rfl ?_
      refine zs_iald (ip' := 23) rfl rfl (by omega) zsh_15 (by omega) ?_
      intro hl22 hu22
      rw [df h hc2.1 (by omega)] at hl22 hu22 ⊢
      refine zs_istore3 (ip' := 24) rfl rfl ?_
      refine zs_aload (ip' := 25) rfl rfl rfl ?_
      refine zs_getR (ip' := 26) rfl rfl (r := 0) (by omega) zsh_192 rfl ?_
      refine zs_getR (ip' := 27) rfl rfl (r := 15) (by omega) zsh_0 rfl ?_
      refine zs_iload (ip' := 28) rfl rfl rfl ?_
      refine zs_iload (ip' := 29) rfl rfl rfl ?_
      refine zs_iast (ip' := 30) rfl rfl (by omega) zsh_15 (by omega) (by omega) ?_
      have hR2 : RX (zk G1 15 (zp (G1 15) h v)) 0 (zp s (6 + h) v) := RX_fog ⟨hc2.1, by omega⟩ hok hR1
      have f2 : ∀ k, k ≠ 15 → (zk G1 15 (zp (G1 15) h v)) k = G1 k := fun k hk => zk_ne hk
      generalize zk G1 15 (zp (G1 15) h v) = G2 at hR2 f2 ⊢
      refine zs_iload (ip' := 31) rfl rfl rfl ?_
      refine zW_0 rfl ?_
      have hq := ((if_pos hc2).trans (if_pos (by omega)) : q_setFog s h v = (0, s (6 + h)))
      exact zqx0 hq (xCq0 hq (xCh_of hrm hR2 (fun k a b => f2 k (by omega))))
    · intro h7
      refine zW_5 rfl ?_
      have hq := ((if_pos hc2).trans (if_neg (by omega)) : q_setFog s h v = (2, 0))
      exact zqx2 hq rfl (xCq1 hq (by decide))
theorem cQ_setTarget {N : Nat} {G F : GM} {n : Nat} (hN : 229 ≤ N) {s : Int → Int} (hok : mOk s) (hR : RX G 0 s) (hH0 : 0 ≤ G 193 0 ∧ G 193 0 ≤ 8) (hH1 : 0 ≤ G 193 1 ∧ G 193 1 ≤ 7) {t l : Int} (ht0 : zr t) (hl0 : zr l) : zC N 259 [.ref 192, .int (zi t), .int (zi l)] G F n (zQx F n [3, 0] (q_setTarget s t l) (xCq (q_setTarget s t l) G s (zp s (214 + 7 * t + 3) l))) := by
  obtain ⟨⟨c0, c1, c2, c3, c4, c5⟩, hf, hg, hl, hb, ht⟩ := RX_0 hR
  obtain ⟨b0, b1, b2, b3, b4, b5, bf, bc, bl, bw⟩ := id hok
  refine zC_i (L0 := [.ref 192, .int (zi t), .int (zi l)]) rfl ?_
  refine zs_aload (ip' := 1) rfl rfl rfl ?_
  refine zs_iload (ip' := 2) rfl rfl rfl ?_
  refine zW_cT (ip' := 3) rfl rfl (cT_trav hN hok hR ht0) rfl rfl (z_ok3 (by omega) zsh_192 rfl rfl rfl) rfl rfl ?_ ?_
  · intro hn2
    have hq := (if_neg (fun q => hn2 q.1) : q_setTarget s t l = (1, 0))
    exact zqx1 hq rfl (xCq1 hq (by decide))
  intro hc2
  obtain ⟨t0, t1⟩ := id hc2
  obtain ⟨t8, t9, t10, t11, t12, t13⟩ := ht t t0 (by omega)
  obtain ⟨wx, wy, wst, wg, wstp⟩ := bw t t0 (by omega)
  refine zs_aload (ip' := 4) rfl rfl rfl ?_
  refine zs_iload (ip' := 5) rfl rfl rfl ?_
  refine zW_cT (ip' := 6) rfl rfl (cT_light hN hok hR hl0) rfl rfl (z_ok3 (by omega) zsh_192 rfl rfl rfl) rfl rfl ?_ ?_
  · intro hn5
    have hq := (if_neg (fun q => hn5 q.2) : q_setTarget s t l = (1, 0))
    exact zqx1 hq rfl (xCq1 hq (by decide))
  intro hc5
  obtain ⟨l0, l1⟩ := id hc5
  obtain ⟨l4, l5, l6⟩ := hl l l0 (by omega)
  obtain ⟨lx, ly, lbr, ltr, lnx⟩ := bl l l0 (by omega)
  refine zs_aload (ip' := 7) rfl rfl rfl ?_
  refine zs_iload (ip' := 8) rfl rfl rfl ?_
  refine zW_cT (ip' := 9) rfl rfl (cT_walk hN hok hR hc2) rfl rfl (z_ok3 (by omega) zsh_192 rfl rfl rfl) rfl rfl ?_ ?_
  · intro hn8
    have hq := ((if_pos ⟨hc2, hc5⟩).trans (if_pos hn8) : q_setTarget s t l = (2, 0))
    exact zqx2 hq rfl (xCq1 hq (by decide))
  intro hc8
  
  refine zs_aload (ip' := 10) rfl rfl rfl ?_
  refine zs_getR (ip' := 11) rfl rfl (r := 193) (by omega) zsh_192 rfl ?_
  refine zs_aload (ip' := 12) rfl rfl rfl ?_
  refine zs_getR (ip' := 13) rfl rfl (r := 0) (by omega) zsh_192 rfl ?_
  refine zW_cV (ip' := 14) rfl rfl (cR_rem hN hok hR hH0 hH1) rfl rfl (z_ok3 (by omega) zsh_193 rfl rfl rfl) ?_
  rintro G1 F' n' ⟨hrm, rfl, rfl⟩
  have hR1 : RX G1 0 s := RX_fr hR (fun k a b => hrm.1 k (by omega) (by omega))
  obtain ⟨⟨d0, d1, d2, d3, d4, d5⟩, df, dg, dl, db, dt⟩ := RX_0 hR1
  refine zs_aload (ip' := 15) rfl rfl rfl ?_
  refine zs_getR (ip' := 16) rfl rfl (r := 0) (by omega) zsh_192 rfl ?_
  refine zs_getR (ip' := 17) rfl rfl (r := 7) (by omega) zsh_0 rfl ?_
  refine zs_getR (ip' := 18) rfl rfl (r := 11) (by omega) zsh_7 rfl ?_
  refine zs_iload (ip' := 19) rfl rfl rfl ?_
  refine zs_iload (ip' := 20) rfl rfl rfl ?_
  refine zs_iast (ip' := 21) rfl rfl (by omega) zsh_11 (by omega) (by omega) ?_
  have hR2 : RX (zk G1 11 (zp (G1 11) t l)) 0 (zp s (214 + 7 * t + 3) l) := RX_w11 hok hR1 t0 (by omega)
  have f2 : ∀ k, k ≠ 11 → (zk G1 11 (zp (G1 11) t l)) k = G1 k := fun k hk => zk_ne hk
  generalize zk G1 11 (zp (G1 11) t l) = G2 at hR2 f2 ⊢
  have hok2 := mOk_w3 (v := l) hok t0 (by omega) (by omega)
  have zz5 : zp s (214 + 7 * t + 3) l 5 = s 5 := zp_ne (by omega)
  have zz4 : zp s (214 + 7 * t + 3) l 4 = s 4 := zp_ne (by omega)
  refine zs_aload (ip' := 22) rfl rfl rfl ?_
  refine zs_getR (ip' := 23) rfl rfl (r := 0) (by omega) zsh_192 rfl ?_
  refine zs_iload (ip' := 24) rfl rfl rfl ?_
  refine zs_iload (ip' := 25) rfl rfl rfl ?_
  refine zW_cP (ip' := 26) rfl rfl (cR_far (w := 0) hN (by omega) hok2 hR2 t0 (by omega) l0 (by omega)) rfl rfl (z_ok3 (by omega) zsh_0 rfl rfl rfl) ?_
  refine zW_0 rfl ?_
  have hq := ((if_pos ⟨hc2, hc5⟩).trans (if_neg (fun q => q hc8)) : q_setTarget s t l = (0, sFarL (zp s (214 + 7 * t + 3) l) t l))
  exact zqx0 hq (xCq0 hq (xCh_of hrm hR2 (fun k a b => f2 k (by omega))))
theorem cQ_layPlank {N : Nat} {G F : GM} {n : Nat} (hN : 229 ≤ N) {s : Int → Int} (hok : mOk s) (hR : RX G 0 s) (hH0 : 0 ≤ G 193 0 ∧ G 193 0 ≤ 8) (hH1 : 0 ≤ G 193 1 ∧ G 193 1 ≤ 7) {x y q : Int} (hx : zr x) (hy : zr y) (hq0 : zr q) : zC N 256 [.ref 192, .int (zi x), .int (zi y), .int (zi q)] G F n (zQx F n [3, 1, 0] (q_layPlank s x y q) (xCq (q_layPlank s x y q) G s (zp s (30 + 12 * y + x) (10 + q)))) := by
  obtain ⟨⟨c0, c1, c2, c3, c4, c5⟩, hf, hg, hl, hb, ht⟩ := RX_0 hR
  obtain ⟨b0, b1, b2, b3, b4, b5, bf, bc, bl, bw⟩ := id hok
  refine zC_i (L0 := [.ref 192, .int (zi x), .int (zi y), .int (zi q), .null]) rfl ?_
  refine zs_aload (ip' := 1) rfl rfl rfl ?_
  refine zs_iload (ip' := 2) rfl rfl rfl ?_
  refine zs_iload (ip' := 3) rfl rfl rfl ?_
  refine zW_cT (ip' := 4) rfl rfl (cT_cell hN hok hR hx hy) rfl rfl (z_ok3 (by omega) zsh_192 rfl rfl rfl) rfl rfl ?_ ?_
  · intro hn3
    have hq := (if_neg hn3 : q_layPlank s x y q = (1, 0))
    exact zqx1 hq rfl (xCq1 hq (by decide))
  intro hc3
  obtain ⟨⟨x0, x1⟩, y0, y1⟩ := id hc3
  have hgc := hg x y x0 (by omega) y0 (by omega)
  obtain ⟨g1, g2, g3, g4, g5, g6⟩ := zgc_rng (mOk_g hok (x := x) (y := y) ⟨x0, by omega⟩ ⟨y0, by omega⟩)
  rw [← hgc] at g1 g2 g3 g4 g5 g6
  refine zs_istore4 (ip' := 5) rfl rfl ?_
  refine zs_iload (ip' := 6) rfl rfl rfl ?_
  refine zs_pushI (ip' := 7) rfl rfl zi_k1 ?_
  refine zs_icmp_lt (t := 11) (ip' := 8) rfl rfl (by omega) (by omega) ?_ ?_
  · intro h7
    refine zW_5 rfl ?_
    have hq := ((if_pos hc3).trans (if_neg (by omega)) : q_layPlank s x y q = (2, 0))
    exact zqx2 hq rfl (xCq1 hq (by decide))
  · intro h7
    refine zs_iload (ip' := 9) rfl rfl rfl ?_
    refine zs_pushI (ip' := 10) rfl rfl zi_k9 ?_
    refine zs_icmp_le (t := 16) (ip' := 11) rfl rfl (by omega) (by omega) ?_ ?_
    · intro h10
      refine zs_aload (ip' := 17) rfl rfl rfl ?_
      refine zs_getR (ip' := 18) rfl rfl (r := 0) (by omega) zsh_192 rfl ?_
      refine zs_getR (ip' := 19) rfl rfl (r := 1) (by omega) zsh_0 rfl ?_
      refine zs_getR (ip' := 20) rfl rfl (r := 2) (by omega) zsh_1 rfl ?_
      refine zs_iload (ip' := 21) rfl rfl rfl ?_
      refine zs_iald (ip' := 22) rfl rfl (by omega) zsh_2 (by omega) ?_
      intro hl21 hu21
      refine zs_pushI (ip' := 23) rfl rfl zi_k10 ?_
      refine zs_icmp_eq (t := 32) (ip' := 24) rfl rfl (by omega) (by omega) ?_ ?_
      · intro h23
        refine zW_5 rfl ?_
        have hq := ((if_pos hc3).trans ((if_pos (by omega)).trans (if_pos (by omega))) : q_layPlank s x y q = (3, 0))
        exact zqx3 hq rfl (xCq1 hq (by decide))
      · intro h23
        refine zs_aload (ip' := 25) rfl rfl rfl ?_
        refine zs_getR (ip' := 26) rfl rfl (r := 0) (by omega) zsh_192 rfl ?_
        refine zs_getR (ip' := 27) rfl rfl (r := 1) (by omega) zsh_0 rfl ?_
        refine zs_getR (ip' := 28) rfl rfl (r := 2) (by omega) zsh_1 rfl ?_
        refine zs_iload (ip' := 29) rfl rfl rfl ?_
        refine zs_iald (ip' := 30) rfl rfl (by omega) zsh_2 (by omega) ?_
        intro hl29 hu29
        refine zs_pushI (ip' := 31) rfl rfl zi_k11 ?_
        refine zs_icmp_ne (t := 37) (ip' := 32) rfl rfl (by omega) (by omega) ?_ ?_
        · intro h31
          refine zs_aload (ip' := 38) rfl rfl rfl ?_
          refine zs_getR (ip' := 39) rfl rfl (r := 193) (by omega) zsh_192 rfl ?_
          refine zs_aload (ip' := 40) rfl rfl rfl ?_
          refine zs_getR (ip' := 41) rfl rfl (r := 0) (by omega) zsh_192 rfl ?_
          refine zW_cV (ip' := 42) rfl rfl (cR_rem hN hok hR hH0 hH1) rfl rfl (z_ok3 (by omega) zsh_193 rfl rfl rfl) ?_
          rintro G1 F' n' ⟨hrm, rfl, rfl⟩
          have hR1 : RX G1 0 s := RX_fr hR (fun k a b => hrm.1 k (by omega) (by omega))
          obtain ⟨⟨d0, d1, d2, d3, d4, d5⟩, df, dg, dl, db, dt⟩ := RX_0 hR1
          refine zs_aload (ip' := 43) rfl rfl rfl ?_
          refine zs_getR (ip' := 44) rfl rfl (r := 0) (by omega) zsh_192 rfl ?_
          refine zs_getR (ip' := 45) rfl rfl (r := 1) (by omega) zsh_0 rfl ?_
          refine zs_getR (ip' := 46) rfl rfl (r := 2) (by omega) zsh_1 rfl ?_
          refine zs_iload (ip' := 47) rfl rfl rfl ?_
          refine zs_iload (ip' := 48) rfl rfl rfl ?_
          refine zs_iast (ip' := 49) rfl rfl (by omega) zsh_2 (by omega) (by omega) ?_
          have hR2 : RX (zk G1 2 (zp (G1 2) (12 * y + x) q)) 0 (zp s (30 + 12 * y + x) (10 + q)) := RX_gr hok hR1 ⟨x0, by omega⟩ ⟨y0, by omega⟩ (by unfold zgc; rw [if_neg (by omega), if_neg (by omega), if_neg (by omega)]; omega)
          have f2 : ∀ k, k ≠ 2 → (zk G1 2 (zp (G1 2) (12 * y + x) q)) k = G1 k := fun k hk => zk_ne hk
          generalize zk G1 2 (zp (G1 2) (12 * y + x) q) = G2 at hR2 f2 ⊢
          have hok2 := mOk_c (c := 12 * y + x) (v := 10 + q) hok (by omega) (by omega) (by omega)
          rw [← Int.add_assoc] at hok2
          refine zs_aload (ip' := 50) rfl rfl rfl ?_
          refine zs_getR (ip' := 51) rfl rfl (r := 0) (by omega) zsh_192 rfl ?_
          refine zs_getR (ip' := 52) rfl rfl (r := 1) (by omega) zsh_0 rfl ?_
          refine zW_cP (ip' := 53) rfl rfl (cR_planks (w := 0) hN (by omega) hok2 hR2) rfl rfl (z_ok3 (by omega) zsh_1 rfl rfl rfl) ?_
          refine zW_0 rfl ?_
          have hq := ((if_pos hc3).trans ((if_pos (by omega)).trans (if_neg (by omega))) : q_layPlank s x y q = (0, sPlanks (zp s (30 + 12 * y + x) (10 + q))))
          exact zqx0 hq (xCq0 hq (xCh_of hrm hR2 (fun k a b => f2 k (by omega))))
        · intro h31
          refine zW_5 rfl ?_
          have hq := ((if_pos hc3).trans ((if_pos (by omega)).trans (if_pos (by omega))) : q_layPlank s x y q = (3, 0))
          exact zqx3 hq rfl (xCq1 hq (by decide))
    · intro h10
      refine zW_5 rfl ?_
      have hq := ((if_pos hc3).trans (if_neg (by omega)) : q_layPlank s x y q = (2, 0))
      exact zqx2 hq rfl (xCq1 hq (by decide))
theorem cQ_tick {N : Nat} {G F : GM} {n : Nat} (hN : 229 ≤ N) {s : Int → Int} (hok : mOk s) (hR : RX G 0 s) (hH0 : 0 ≤ G 193 0 ∧ G 193 0 ≤ 8) (hH1 : 0 ≤ G 193 1 ∧ G 193 1 ≤ 7) {q : Int} (hq0 : zr q) : zC N 251 [.ref 192, .int (zi q)] G F n (zQx F n [1, 0] (q_tick s q) (xCq (q_tick s q) G s (sTicks s q.toNat))) := by
  obtain ⟨⟨c0, c1, c2, c3, c4, c5⟩, hf, hg, hl, hb, ht⟩ := RX_0 hR
  obtain ⟨b0, b1, b2, b3, b4, b5, bf, bc, bl, bw⟩ := id hok
  refine zC_i (L0 := [.ref 192, .int (zi q), .null]) rfl ?_
  refine zs_iload (ip' := 1) rfl rfl rfl ?_
  refine zs_pushI (ip' := 2) rfl rfl zi_k1 ?_
  refine zs_icmp_lt (t := 6) (ip' := 3) rfl rfl (by omega) (by omega) ?_ ?_
  · intro h2
    refine zW_5 rfl ?_
    have hq := (if_neg (by omega) : q_tick s q = (1, 0))
    exact zqx1 hq rfl (xCq1 hq (by decide))
  · intro h2
    refine zs_iload (ip' := 4) rfl rfl rfl ?_
    refine zs_pushI (ip' := 5) rfl rfl zi_k100 ?_
    refine zs_icmp_le (t := 11) (ip' := 6) rfl rfl (by omega) (by omega) ?_ ?_
    · intro h5
      refine zs_aload (ip' := 12) rfl rfl rfl ?_
      refine zs_getR (ip' := 13) rfl rfl (r := 0) (by omega) zsh_192 rfl ?_
      refine zs_getI (ip' := 14) rfl rfl (by omega) zsh_0 rfl (q := 5) rfl ?_
      intro hl13 hu13
      rw [c3] at hl13 hu13 ⊢
      refine zs_iload (ip' := 15) rfl rfl rfl ?_
      refine zs_iadd (ip' := 16) rfl rfl ?_
      refine zs_pushI (ip' := 17) rfl rfl zi_k9999 ?_
      refine zs_icmp_le (t := 23) (ip' := 18) rfl rfl (by omega) (by omega) ?_ ?_
      · intro h17
        obtain ⟨k, rfl⟩ : ∃ k : Nat, q = (k : Int) := ⟨q.toNat, by omega⟩
        refine zs_aload (ip' := 24) rfl rfl rfl ?_
        refine zs_getR (ip' := 25) rfl rfl (r := 193) (by omega) zsh_192 rfl ?_
        refine zs_aload (ip' := 26) rfl rfl rfl ?_
        refine zs_getR (ip' := 27) rfl rfl (r := 0) (by omega) zsh_192 rfl ?_
        refine zW_cV (ip' := 28) rfl rfl (cR_rem hN hok hR hH0 hH1) rfl rfl (z_ok3 (by omega) zsh_193 rfl rfl rfl) ?_
        rintro G1 F' n' ⟨hrm, rfl, rfl⟩
        have hR1 : RX G1 0 s := RX_fr hR (fun k a b => hrm.1 k (by omega) (by omega))
        obtain ⟨⟨d0, d1, d2, d3, d4, d5⟩, df, dg, dl, db, dt⟩ := RX_0 hR1
        refine zs_aload (ip' := 29) rfl rfl rfl ?_
        refine zs_getR (ip' := 30) rfl rfl (r := 0) (by omega) zsh_192 rfl ?_
        refine zs_getR (ip' := 31) rfl rfl (r := 7) (by omega) zsh_0 rfl ?_
        refine zs_pushI (ip' := 32) rfl rfl zi_k1 ?_
        refine zW_cP (ip' := 33) rfl rfl (cR_countIn (w := 0) hN (by omega) hok hR1 (by omega)) rfl rfl (z_ok3 (by omega) zsh_7 rfl rfl rfl) ?_
        refine zs_istore2 (ip' := 34) rfl rfl ?_
        refine zs_aload (ip' := 35) rfl rfl rfl ?_
        refine zs_getR (ip' := 36) rfl rfl (r := 199) (by omega) zsh_192 rfl ?_
        refine zs_aload (ip' := 37) rfl rfl rfl ?_
        refine zs_getR (ip' := 38) rfl rfl (r := 0) (by omega) zsh_192 rfl ?_
        refine zs_iload (ip' := 39) rfl rfl rfl ?_
        refine zW_cV (ip' := 40) rfl rfl (cR_run (w := 0) (k := k) hN (by omega) hok hR1 (by omega) (by omega)) rfl rfl (z_ok3 (by omega) zsh_199 rfl rfl rfl) ?_
        rintro G2 F' n' ⟨hR2, -, hSF, rfl, rfl⟩
        obtain ⟨hkT, -⟩ := sTicks_ok hok k (by omega)
        refine zs_aload (ip' := 41) rfl rfl rfl ?_
        refine zs_getR (ip' := 42) rfl rfl (r := 0) (by omega) zsh_192 rfl ?_
        refine zs_getR (ip' := 43) rfl rfl (r := 7) (by omega) zsh_0 rfl ?_
        refine zs_pushI (ip' := 44) rfl rfl zi_k1 ?_
        refine zW_cP (ip' := 45) rfl rfl (cR_countIn (w := 0) hN (by omega) hkT hR2 (by omega)) rfl rfl (z_ok3 (by omega) zsh_7 rfl rfl rfl) ?_
        refine zs_iload (ip' := 46) rfl rfl rfl ?_
        refine zs_isub (ip' := 47) rfl rfl ?_
        refine zW_0 rfl ?_
        have hq : q_tick s (k : Int) = (0, sCount (sTicks s k) 1 - sCount s 1) := by
          unfold q_tick
          rw [if_pos (by omega), if_neg (by omega), Int.toNat_natCast]
        rw [Int.toNat_natCast]
        exact zqx0 hq (xCq0 hq (xCh_of hrm hR2 (fun k a b => hSF k (by omega) b)))
      · intro h17
        refine zW_5 rfl ?_
        have hq := ((if_pos (by omega)).trans (if_pos (by omega)) : q_tick s q = (2, 0))
        exact zqx2 hq rfl (xCq1 hq (by decide))
    · intro h5
      refine zW_5 rfl ?_
      have hq := (if_neg (by omega) : q_tick s q = (1, 0))
      exact zqx1 hq rfl (xCq1 hq (by decide))
theorem cQ_addLight {N : Nat} {G F : GM} {n : Nat} (hN : 229 ≤ N) {s : Int → Int} (hok : mOk s) (hR : RX G 0 s) (hH0 : 0 ≤ G 193 0 ∧ G 193 0 ≤ 8) (hH1 : 0 ≤ G 193 1 ∧ G 193 1 ≤ 7) {x y b v : Int} (hx : zr x) (hy : zr y) (hb0 : zr b) (hv : v = 0 ∨ v = 1) : zC N 252 [.ref 192, .int (zi x), .int (zi y), .int (zi b), .int (zi v)] G F n (zQx F n [3, 1, 0] (q_addLight s x y b) (xCq (q_addLight s x y b) G s (sAddL s x y b v))) := by
  obtain ⟨⟨c0, c1, c2, c3, c4, c5⟩, hf, hg, hl, hb, ht⟩ := RX_0 hR
  obtain ⟨b0, b1, b2, b3, b4, b5, bf, bc, bl, bw⟩ := id hok
  refine zC_i (L0 := [.ref 192, .int (zi x), .int (zi y), .int (zi b), .int (zi v), .null]) rfl ?_
  refine zs_aload (ip' := 1) rfl rfl rfl ?_
  refine zs_iload (ip' := 2) rfl rfl rfl ?_
  refine zs_iload (ip' := 3) rfl rfl rfl ?_
  refine zW_cT (ip' := 4) rfl rfl (cT_cell hN hok hR hx hy) rfl rfl (z_ok3 (by omega) zsh_192 rfl rfl rfl) rfl rfl ?_ ?_
  · intro hn3
    have hq := (if_neg hn3 : q_addLight s x y b = (1, 0))
    exact zqx1 hq rfl (xCq1 hq (by decide))
  intro hc3
  obtain ⟨⟨x0, x1⟩, y0, y1⟩ := id hc3
  have hgc := hg x y x0 (by omega) y0 (by omega)
  obtain ⟨g1, g2, g3, g4, g5, g6⟩ := zgc_rng (mOk_g hok (x := x) (y := y) ⟨x0, by omega⟩ ⟨y0, by omega⟩)
  rw [← hgc] at g1 g2 g3 g4 g5 g6
  have hon : zfst (fun l => G 4 l = 12 * y + x) (G 3 0).toNat = sLOn s x y := by
    have := RX_on hok hR (12 * y + x)
    rw [show (12 * y + x) % 12 = x by omega, show (12 * y + x) / 12 = y by omega] at this
    exact this
  have hon2 := zfst_rng (sAt s x y) (s 4).toNat
  have hon3 : sLOn s x y = zfst (sAt s x y) (s 4).toNat := rfl
  rw [← hon3] at hon2
  refine zs_istore5 (ip' := 5) rfl rfl ?_
  refine zs_iload (ip' := 6) rfl rfl rfl ?_
  refine zs_if_lt (t := 10) (ip' := 7) rfl rfl (by omega) ?_ ?_
  · intro h6
    refine zW_5 rfl ?_
    have hq := ((if_pos hc3).trans (if_neg (by omega)) : q_addLight s x y b = (2, 0))
    exact zqx2 hq rfl (xCq1 hq (by decide))
  · intro h6
    refine zs_iload (ip' := 8) rfl rfl rfl ?_
    refine zs_pushI (ip' := 9) rfl rfl zi_k9 ?_
    refine zs_icmp_le (t := 15) (ip' := 10) rfl rfl (by omega) (by omega) ?_ ?_
    · intro h9
      refine zs_aload (ip' := 16) rfl rfl rfl ?_
      refine zs_getR (ip' := 17) rfl rfl (r := 0) (by omega) zsh_192 rfl ?_
      refine zs_getR (ip' := 18) rfl rfl (r := 3) (by omega) zsh_0 rfl ?_
      refine zs_getI (ip' := 19) rfl rfl (by omega) zsh_3 rfl (q := 0) rfl ?_
      intro hl18 hu18
      rw [c4] at hl18 hu18 ⊢
      refine zs_pushI (ip' := 20) rfl rfl zi_k8 ?_
      refine zs_icmp_ge (t := 26) (ip' := 21) rfl rfl (by omega) (by omega) ?_ ?_
      · intro h20
        refine zW_5 rfl ?_
        have hq := ((if_pos hc3).trans ((if_pos (by omega)).trans (if_pos (Or.inl (by omega)))) : q_addLight s x y b = (3, 0))
        exact zqx3 hq rfl (xCq1 hq (by decide))
      · intro h20
        refine zs_aload (ip' := 22) rfl rfl rfl ?_
        refine zs_getR (ip' := 23) rfl rfl (r := 0) (by omega) zsh_192 rfl ?_
        refine zs_iload (ip' := 24) rfl rfl rfl ?_
        refine zW_cP (ip' := 25) rfl rfl (cX_takesLight (w := 0) hN (by omega) (by show 0 ≤ G 3 0 ∧ G 3 0 ≤ 8; omega) ⟨by omega, by omega⟩) rfl rfl (z_ok3 (by omega) zsh_0 rfl rfl rfl) ?_
        refine zs_if_neB (t := 31) (ip' := 26) rfl rfl ?_ ?_
        · intro h25
          have hqq : G 2 (12 * y + x) ≠ 0 ∧ sLOn s x y = -1 := by
            have q : G 2 (12 * y + x) ≠ 0 ∧ zfst (fun l => G 4 l = 12 * y + x) (G 3 0).toNat = -1 := h25
            rw [hon] at q
            exact q
          refine zs_aload (ip' := 32) rfl rfl rfl ?_
          refine zs_getR (ip' := 33) rfl rfl (r := 193) (by omega) zsh_192 rfl ?_
          refine zs_aload (ip' := 34) rfl rfl rfl ?_
          refine zs_getR (ip' := 35) rfl rfl (r := 0) (by omega) zsh_192 rfl ?_
          refine zW_cV (ip' := 36) rfl rfl (cR_rem hN hok hR hH0 hH1) rfl rfl (z_ok3 (by omega) zsh_193 rfl rfl rfl) ?_
          rintro G1 F' n' ⟨hrm, rfl, rfl⟩
          have hR1 : RX G1 0 s := RX_fr hR (fun k a b => hrm.1 k (by omega) (by omega))
          obtain ⟨⟨d0, d1, d2, d3, d4, d5⟩, df, dg, dl, db, dt⟩ := RX_0 hR1
          refine zs_aload (ip' := 37) rfl rfl rfl ?_
          refine zs_getR (ip' := 38) rfl rfl (r := 0) (by omega) zsh_192 rfl ?_
          refine zs_getR (ip' := 39) rfl rfl (r := 3) (by omega) zsh_0 rfl ?_
          refine zs_iload (ip' := 40) rfl rfl rfl ?_
          refine zs_iload (ip' := 41) rfl rfl rfl ?_
          refine zs_iload (ip' := 42) rfl rfl rfl ?_
          refine zW_cR (ip' := 43) rfl rfl (cX_put3 (w := 0) (l := s 4) hN (by omega) d4 ⟨by omega, by omega⟩ (by omega) (by omega) hv) rfl rfl (z_ok3 (by omega) zsh_3 rfl rfl rfl) ?_
          rintro r G2 F' n' hrr ⟨⟨rfl, p0, p3, p4, p5, p6, pb⟩, rfl, rfl⟩
          have hR2 : RX G2 0 (sAddL s x y b v) := RX_addL (w := 0) hok hR1 (by omega) (fun k _ _ a b c d => p0 k a b c d) p3 p4 p5 p6 pb
          refine zW_0 rfl ?_
          have hq := ((if_pos hc3).trans ((if_pos (by omega)).trans (if_neg (by omega))) : q_addLight s x y b = (0, s 4))
          exact zqx0 hq (xCq0 hq (xCh_of hrm hR2 (fun k a b => p0 k (by omega) (by omega) (by omega) (by omega))))
        · intro h25
          have hqq : ¬ (G 2 (12 * y + x) ≠ 0 ∧ sLOn s x y = -1) := fun q => h25 (by
            show G 2 (12 * y + x) ≠ 0 ∧ zfst (fun l => G 4 l = 12 * y + x) (G 3 0).toNat = -1
            rw [hon]
            exact q)
          refine zW_5 rfl ?_
          have hq := ((if_pos hc3).trans ((if_pos (by omega)).trans (if_pos (by omega))) : q_addLight s x y b = (3, 0))
          exact zqx3 hq rfl (xCq1 hq (by decide))
    · intro h9
      refine zW_5 rfl ?_
      have hq := ((if_pos hc3).trans (if_neg (by omega)) : q_addLight s x y b = (2, 0))
      exact zqx2 hq rfl (xCq1 hq (by decide))
theorem cQ_addTraveller {N : Nat} {G F : GM} {n : Nat} (hN : 229 ≤ N) {s : Int → Int} (hok : mOk s) (hR : RX G 0 s) (hH0 : 0 ≤ G 193 0 ∧ G 193 0 ≤ 8) (hH1 : 0 ≤ G 193 1 ∧ G 193 1 ≤ 7) {x y : Int} (hx : zr x) (hy : zr y) : zC N 253 [.ref 192, .int (zi x), .int (zi y)] G F n (zQx F n [3, 0] (q_addTraveller s x y) (xCq (q_addTraveller s x y) G s (sAddW s x y))) := by
  obtain ⟨⟨c0, c1, c2, c3, c4, c5⟩, hf, hg, hl, hb, ht⟩ := RX_0 hR
  obtain ⟨b0, b1, b2, b3, b4, b5, bf, bc, bl, bw⟩ := id hok
  refine zC_i (L0 := [.ref 192, .int (zi x), .int (zi y), .null]) rfl ?_
  refine zs_aload (ip' := 1) rfl rfl rfl ?_
  refine zs_iload (ip' := 2) rfl rfl rfl ?_
  refine zs_iload (ip' := 3) rfl rfl rfl ?_
  refine zW_cT (ip' := 4) rfl rfl (cT_cell hN hok hR hx hy) rfl rfl (z_ok3 (by omega) zsh_192 rfl rfl rfl) rfl rfl ?_ ?_
  · intro hn3
    have hq := (if_neg hn3 : q_addTraveller s x y = (1, 0))
    exact zqx1 hq rfl (xCq1 hq (by decide))
  intro hc3
  obtain ⟨⟨x0, x1⟩, y0, y1⟩ := id hc3
  have hgc := hg x y x0 (by omega) y0 (by omega)
  obtain ⟨g1, g2, g3, g4, g5, g6⟩ := zgc_rng (mOk_g hok (x := x) (y := y) ⟨x0, by omega⟩ ⟨y0, by omega⟩)
  rw [← hgc] at g1 g2 g3 g4 g5 g6
  refine zs_istore3 (ip' := 5) rfl rfl ?_
  refine zs_aload (ip' := 6) rfl rfl rfl ?_
  refine zs_getR (ip' := 7) rfl rfl (r := 0) (by omega) zsh_192 rfl ?_
  refine zs_getR (ip' := 8) rfl rfl (r := 7) (by omega) zsh_0 rfl ?_
  refine zs_getI (ip' := 9) rfl rfl (by omega) zsh_7 rfl (q := 0) rfl ?_
  intro hl8 hu8
  rw [c5] at hl8 hu8 ⊢
  refine zs_pushI (ip' := 10) rfl rfl zi_k6 ?_
  refine zs_icmp_ge (t := 17) (ip' := 11) rfl rfl (by omega) (by omega) ?_ ?_
  · intro h10
    refine zW_5 rfl ?_
    have hq := ((if_pos hc3).trans (if_pos (Or.inl (by omega))) : q_addTraveller s x y = (2, 0))
    exact zqx2 hq rfl (xCq1 hq (by decide))
  · intro h10
    refine zs_aload (ip' := 12) rfl rfl rfl ?_
    refine zs_getR (ip' := 13) rfl rfl (r := 0) (by omega) zsh_192 rfl ?_
    refine zs_getR (ip' := 14) rfl rfl (r := 1) (by omega) zsh_0 rfl ?_
    refine zs_iload (ip' := 15) rfl rfl rfl ?_
    refine zW_cP (ip' := 16) rfl rfl (cX_takesTraveller (w := 0) hN (by omega) ⟨by omega, by omega⟩) rfl rfl (z_ok3 (by omega) zsh_1 rfl rfl rfl) ?_
    refine zs_if_neB (t := 22) (ip' := 17) rfl rfl ?_ ?_
    · intro h16
      have hqq : G 2 (12 * y + x) ≠ 0 ∧ G 2 (12 * y + x) ≠ 11 := h16
      refine zs_aload (ip' := 23) rfl rfl rfl ?_
      refine zs_getR (ip' := 24) rfl rfl (r := 193) (by omega) zsh_192 rfl ?_
      refine zs_aload (ip' := 25) rfl rfl rfl ?_
      refine zs_getR (ip' := 26) rfl rfl (r := 0) (by omega) zsh_192 rfl ?_
      refine zW_cV (ip' := 27) rfl rfl (cR_rem hN hok hR hH0 hH1) rfl rfl (z_ok3 (by omega) zsh_193 rfl rfl rfl) ?_
      rintro G1 F' n' ⟨hrm, rfl, rfl⟩
      have hR1 : RX G1 0 s := RX_fr hR (fun k a b => hrm.1 k (by omega) (by omega))
      obtain ⟨⟨d0, d1, d2, d3, d4, d5⟩, df, dg, dl, db, dt⟩ := RX_0 hR1
      refine zs_aload (ip' := 28) rfl rfl rfl ?_
      refine zs_getR (ip' := 29) rfl rfl (r := 0) (by omega) zsh_192 rfl ?_
      refine zs_getR (ip' := 30) rfl rfl (r := 7) (by omega) zsh_0 rfl ?_
      refine zs_iload (ip' := 31) rfl rfl rfl ?_
      refine zW_cR (ip' := 32) rfl rfl (cX_put6 (w := 0) (l := s 5) hN (by omega) d5 ⟨by omega, by omega⟩ (by omega)) rfl rfl (z_ok3 (by omega) zsh_7 rfl rfl rfl) ?_
      rintro r G2 F' n' hrr ⟨⟨rfl, p0, p7, p8, p9, p10, p11, p12, p13⟩, rfl, rfl⟩
      have hR2 : RX G2 0 (sAddW s x y) := RX_addW (w := 0) hok hR1 (by omega) (fun k _ _ a => p0 k (by omega)) p7 p8 p9 p10 p11 p12 p13
      refine zW_0 rfl ?_
      have hq := ((if_pos hc3).trans (if_neg (by omega)) : q_addTraveller s x y = (0, s 5))
      exact zqx0 hq (xCq0 hq (xCh_of hrm hR2 (fun k a b => p0 k (by omega))))
    · intro h16
      have hqq : ¬ (G 2 (12 * y + x) ≠ 0 ∧ G 2 (12 * y + x) ≠ 11) := h16
      refine zW_5 rfl ?_
      have hq := ((if_pos hc3).trans (if_pos (by omega)) : q_addTraveller s x y = (2, 0))
      exact zqx2 hq rfl (xCq1 hq (by decide))
theorem cQ_setSuccessor {N : Nat} {G F : GM} {n : Nat} (hN : 229 ≤ N) {s : Int → Int} (hok : mOk s) (hR : RX G 0 s) (hH0 : 0 ≤ G 193 0 ∧ G 193 0 ≤ 8) (hH1 : 0 ≤ G 193 1 ∧ G 193 1 ≤ 7) {l v : Int} (hl0 : zr l) (hv0 : zr v) : zC N 254 [.ref 192, .int (zi l), .int (zi v)] G F n (zQx F n [3, 1] (q_setSuccessor s l v) (xCq (q_setSuccessor s l v) G s (zp s (174 + 5 * l + 4) v))) := by
  obtain ⟨⟨c0, c1, c2, c3, c4, c5⟩, hf, hg, hl, hb, ht⟩ := RX_0 hR
  obtain ⟨b0, b1, b2, b3, b4, b5, bf, bc, bl, bw⟩ := id hok
  refine zC_i (L0 := [.ref 192, .int (zi l), .int (zi v)]) rfl ?_
  refine zs_aload (ip' := 1) rfl rfl rfl ?_
  refine zs_iload (ip' := 2) rfl rfl rfl ?_
  refine zW_cT (ip' := 3) rfl rfl (cT_light hN hok hR hl0) rfl rfl (z_ok3 (by omega) zsh_192 rfl rfl rfl) rfl rfl ?_ ?_
  · intro hn2
    have hq := (if_neg (fun q => hn2 q.1) : q_setSuccessor s l v = (1, 0))
    exact zqx1 hq rfl (xCq1 hq (by decide))
  intro hc2
  obtain ⟨l0, l1⟩ := id hc2
  obtain ⟨l4, l5, l6⟩ := hl l l0 (by omega)
  obtain ⟨lx, ly, lbr, ltr, lnx⟩ := bl l l0 (by omega)
  refine zs_aload (ip' := 4) rfl rfl rfl ?_
  refine zs_iload (ip' := 5) rfl rfl rfl ?_
  refine zW_cT (ip' := 6) rfl rfl (cT_light hN hok hR hv0) rfl rfl (z_ok3 (by omega) zsh_192 rfl rfl rfl) rfl rfl ?_ ?_
  · intro hn5
    have hq := (if_neg (fun q => hn5 q.2) : q_setSuccessor s l v = (1, 0))
    exact zqx1 hq rfl (xCq1 hq (by decide))
  intro hc5
  
  refine zs_iload (ip' := 7) rfl rfl rfl ?_
  refine zs_iload (ip' := 8) rfl rfl rfl ?_
  refine zs_icmp_ne (t := 14) (ip' := 9) rfl rfl (by omega) (by omega) ?_ ?_
  · intro h8
    refine zs_aload (ip' := 15) rfl rfl rfl ?_
    refine zs_getR (ip' := 16) rfl rfl (r := 193) (by omega) zsh_192 rfl ?_
    refine zs_aload (ip' := 17) rfl rfl rfl ?_
    refine zs_getR (ip' := 18) rfl rfl (r := 0) (by omega) zsh_192 rfl ?_
    refine zW_cV (ip' := 19) rfl rfl (cR_rem hN hok hR hH0 hH1) rfl rfl (z_ok3 (by omega) zsh_193 rfl rfl rfl) ?_
    rintro G1 F' n' ⟨hrm, rfl, rfl⟩
    have hR1 : RX G1 0 s := RX_fr hR (fun k a b => hrm.1 k (by omega) (by omega))
    obtain ⟨⟨d0, d1, d2, d3, d4, d5⟩, df, dg, dl, db, dt⟩ := RX_0 hR1
    refine zs_aload (ip' := 20) rfl rfl rfl ?_
    refine zs_getR (ip' := 21) rfl rfl (r := 0) (by omega) zsh_192 rfl ?_
    refine zs_getR (ip' := 22) rfl rfl (r := 3) (by omega) zsh_0 rfl ?_
    refine zs_getR (ip' := 23) rfl rfl (r := 6) (by omega) zsh_3 rfl ?_
    refine zs_iload (ip' := 24) rfl rfl rfl ?_
    refine zs_iload (ip' := 25) rfl rfl rfl ?_
    refine zs_iast (ip' := 26) rfl rfl (by omega) zsh_6 (by omega) (by omega) ?_
    have hR2 : RX (zk G1 6 (zp (G1 6) l v)) 0 (zp s (174 + 5 * l + 4) v) := RX_nx ⟨l0, by omega⟩ hok hR1
    have f2 : ∀ k, k ≠ 6 → (zk G1 6 (zp (G1 6) l v)) k = G1 k := fun k hk => zk_ne hk
    generalize zk G1 6 (zp (G1 6) l v) = G2 at hR2 f2 ⊢
    have hok2 := mOk_n (v := v) hok l0 (by omega) (by omega)
    refine zs_aload (ip' := 27) rfl rfl rfl ?_
    refine zs_getR (ip' := 28) rfl rfl (r := 0) (by omega) zsh_192 rfl ?_
    refine zs_getR (ip' := 29) rfl rfl (r := 3) (by omega) zsh_0 rfl ?_
    refine zW_cP (ip' := 30) rfl rfl (cR_cwrong (w := 0) hN (by omega) hok2 hR2) rfl rfl (z_ok3 (by omega) zsh_3 rfl rfl rfl) ?_
    refine zW_0 rfl ?_
    have hq := ((if_pos ⟨hc2, hc5⟩).trans (if_neg h8) : q_setSuccessor s l v = (0, (zcnt (fun k => sAst (zp s (174 + 5 * l + 4) v) 9 k 0 = 1) (zp s (174 + 5 * l + 4) v 4).toNat)))
    exact zqx0 hq (xCq0 hq (xCh_of hrm hR2 (fun k a b => f2 k (by omega))))
  · intro h8
    refine zW_5 rfl ?_
    have hq := ((if_pos ⟨hc2, hc5⟩).trans (if_pos (by omega)) : q_setSuccessor s l v = (2, 0))
    exact zqx2 hq rfl (xCq1 hq (by decide))
theorem cQ_clearSuccessor {N : Nat} {G F : GM} {n : Nat} (hN : 229 ≤ N) {s : Int → Int} (hok : mOk s) (hR : RX G 0 s) (hH0 : 0 ≤ G 193 0 ∧ G 193 0 ≤ 8) (hH1 : 0 ≤ G 193 1 ∧ G 193 1 ≤ 7) {l : Int} (hl0 : zr l) : zC N 255 [.ref 192, .int (zi l)] G F n (zQx F n [3, 2] (q_clearSuccessor s l) (xCq (q_clearSuccessor s l) G s (zp s (174 + 5 * l + 4) (-1)))) := by
  obtain ⟨⟨c0, c1, c2, c3, c4, c5⟩, hf, hg, hl, hb, ht⟩ := RX_0 hR
  obtain ⟨b0, b1, b2, b3, b4, b5, bf, bc, bl, bw⟩ := id hok
  refine zC_i (L0 := [.ref 192, .int (zi l), .null]) rfl ?_
  refine zs_aload (ip' := 1) rfl rfl rfl ?_
  refine zs_iload (ip' := 2) rfl rfl rfl ?_
  refine zW_cT (ip' := 3) rfl rfl (cT_light hN hok hR hl0) rfl rfl (z_ok3 (by omega) zsh_192 rfl rfl rfl) rfl rfl ?_ ?_
  · intro hn2
    have hq := (if_neg hn2 : q_clearSuccessor s l = (1, 0))
    exact zqx1 hq rfl (xCq1 hq (by decide))
  intro hc2
  obtain ⟨l0, l1⟩ := id hc2
  obtain ⟨l4, l5, l6⟩ := hl l l0 (by omega)
  obtain ⟨lx, ly, lbr, ltr, lnx⟩ := bl l l0 (by omega)
  refine zs_aload (ip' := 4) rfl rfl rfl ?_
  refine zs_iload (ip' := 5) rfl rfl rfl ?_
  refine zW_cT (ip' := 6) rfl rfl (cT_succ hN hok hR hc2) rfl rfl (z_ok3 (by omega) zsh_192 rfl rfl rfl) rfl rfl ?_ ?_
  · intro hn5
    have hq := ((if_pos hc2).trans (if_pos (by omega)) : q_clearSuccessor s l = (2, 0))
    exact zqx2 hq rfl (xCq1 hq (by decide))
  intro hc5
  
  refine zs_istore2 (ip' := 7) rfl rfl ?_
  refine zs_aload (ip' := 8) rfl rfl rfl ?_
  refine zs_getR (ip' := 9) rfl rfl (r := 193) (by omega) zsh_192 rfl ?_
  refine zs_aload (ip' := 10) rfl rfl rfl ?_
  refine zs_getR (ip' := 11) rfl rfl (r := 0) (by omega) zsh_192 rfl ?_
  refine zW_cV (ip' := 12) rfl rfl (cR_rem hN hok hR hH0 hH1) rfl rfl (z_ok3 (by omega) zsh_193 rfl rfl rfl) ?_
  rintro G1 F' n' ⟨hrm, rfl, rfl⟩
  have hR1 : RX G1 0 s := RX_fr hR (fun k a b => hrm.1 k (by omega) (by omega))
  obtain ⟨⟨d0, d1, d2, d3, d4, d5⟩, df, dg, dl, db, dt⟩ := RX_0 hR1
  refine zs_aload (ip' := 13) rfl rfl rfl ?_
  refine zs_getR (ip' := 14) rfl rfl (r := 0) (by omega) zsh_192 rfl ?_
  refine zs_getR (ip' := 15) rfl rfl (r := 3) (by omega) zsh_0 rfl ?_
  refine zs_getR (ip' := 16) rfl rfl (r := 6) (by omega) zsh_3 rfl ?_
  refine zs_iload (ip' := 17) rfl rfl rfl ?_
  refine zs_pushI (ip' := 18) rfl rfl zi_km1 ?_
  refine zs_iast (ip' := 19) rfl rfl (by omega) zsh_6 (by omega) (by omega) ?_
  have hR2 : RX (zk G1 6 (zp (G1 6) l (-1))) 0 (zp s (174 + 5 * l + 4) (-1)) := RX_nx ⟨l0, by omega⟩ hok hR1
  have f2 : ∀ k, k ≠ 6 → (zk G1 6 (zp (G1 6) l (-1))) k = G1 k := fun k hk => zk_ne hk
  generalize zk G1 6 (zp (G1 6) l (-1)) = G2 at hR2 f2 ⊢
  refine zs_iload (ip' := 20) rfl rfl rfl ?_
  refine zW_0 rfl ?_
  have hq := ((if_pos hc2).trans (if_neg hc5) : q_clearSuccessor s l = (0, s (174 + 5 * l + 4)))
  exact zqx0 hq (xCq0 hq (xCh_of hrm hR2 (fun k a b => f2 k (by omega))))
