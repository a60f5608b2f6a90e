/-! The program: the input buffer (printed by wip/whole/src64.py). -/
theorem zand_255 (y : Int) : zand y 255 = y % 256 := by
  show (zi y &&& zi 255).toInt = y % 256
  rw [zi_k255]
  have e1 : (zi y &&& 255).toBitVec.toNat = (zi y).toBitVec.toNat % 256 := by
    rw [Int32.toBitVec_and, BitVec.toNat_and]
    exact Nat.and_two_pow_sub_one_eq_mod _ 8
  have e2 : (zi y).toBitVec.toNat = (y % 4294967296).toNat := by
    show (BitVec.ofInt 32 y).toNat = _
    rw [BitVec.toNat_ofInt]
    rfl
  show (zi y &&& 255).toBitVec.toInt = y % 256
  rw [BitVec.toInt_eq_toNat_of_lt (by omega), e1, e2]
  omega
theorem zi_nI (s : Nat) : zi (s : Int) = nI s := by
  apply Int32.toBitVec_inj.mp
  show BitVec.ofInt 32 (s : Int) = BitVec.ofNat 32 s
  exact BitVec.ofInt_natCast 32 s
theorem xByte (a : Int) {s : Nat} (hs : s ≤ 24) : (zushr a (s : Int)).bmod 256 % 256 = zand (zshr a (s : Int)) 255 := by
  have e0 : (zushr a (s : Int)).bmod 256 % 256 = zushr a (s : Int) % 256 := Int.bmod_emod
  rw [e0, ← zand_255]
  show (zi (zushr a (s : Int)) &&& zi 255).toInt = (zi (zshr a (s : Int)) &&& zi 255).toInt
  unfold zushr zshr
  rw [zi_of, zi_of, zi_k255, zi_nI]
  refine congrArg Int32.toInt (b_ext (fun i hi => ?_))
  rw [b_and, b_and, b_255, b_ushr s (by omega), b_sshr s (by omega) _ hi]
  by_cases h8 : i < 8
  · rw [if_pos (by omega)]
  · rw [decide_eq_false h8, Bool.and_false, Bool.and_false]
/-- only the input buffer has changed -/
def xTx (G G' : GM) : Prop := (∀ k, k ≠ 197 → k ≠ 198 → G' k = G k) ∧ ∀ j, j ≠ 0 → G' 197 j = G 197 j
theorem xTx_r (G : GM) : xTx G G := ⟨fun _ _ _ => rfl, fun _ _ => rfl⟩
theorem xTx_t {G G1 G2 : GM} (h : xTx G G1) (h2 : xTx G1 G2) : xTx G G2 := ⟨fun k a b => (h2.1 k a b).trans (h.1 k a b), fun j a => (h2.2 j a).trans (h.2 j a)⟩
theorem bmod_rng (v : Int) : -128 ≤ v.bmod 256 ∧ v.bmod 256 ≤ 127 := by
  have h1 := @Int.le_bmod v 256 (by decide)
  have h2 := @Int.bmod_lt v 256 (by decide)
  omega
theorem cX_putByte {N : Nat} {G F : GM} {n : Nat} (hN : 229 ≤ N) {q : Int} (hq : G 197 0 = q) (hq1 : 0 ≤ q ∧ q < 800) {v : Int} (hv : -128 ≤ v ∧ v ≤ 127) : zC N 183 [.ref 197, .int (zi v)] G F n (zV fun G' F' n' => (xTx G G' ∧ G' 197 0 = q + 1 ∧ G' 198 = zp (G 198) q v) ∧ F' = F ∧ n' = n) := by
  refine zC_i (L0 := [.ref 197, .int (zi v)]) rfl ?_
  refine zs_aload (ip' := 1) rfl rfl rfl ?_
  refine zs_getI (ip' := 2) rfl rfl (by omega) zsh_197 rfl (q := 0) rfl ?_
  intro hl1 hu1
  rw [hq] at hl1 hu1 ⊢
  refine zs_pushI (ip' := 3) rfl rfl zi_k800 ?_
  refine zs_icmp_ge (t := 16) (ip' := 4) rfl rfl (by omega) (by omega) ?_ ?_
  · intro h3
    refine zW_1 rfl ?_
    exact absurd h3 (by omega)
  · intro h3
    refine zs_aload (ip' := 5) rfl rfl rfl ?_
    refine zs_getR (ip' := 6) rfl rfl (r := 198) (by omega) zsh_197 rfl ?_
    refine zs_aload (ip' := 7) rfl rfl rfl ?_
    refine zs_getI (ip' := 8) rfl rfl (by omega) zsh_197 rfl (q := 0) rfl ?_
    intro hl7 hu7
    rw [hq] at hl7 hu7 ⊢
    refine zs_iload (ip' := 9) rfl rfl rfl ?_
    refine zs_bast (ip' := 10) rfl rfl (by omega) zsh_198 (by omega) (by omega) ?_
    refine zW_gk ?_
    intro G1 e1 f1
    refine zs_aload (ip' := 11) rfl rfl rfl ?_
    refine zs_dupR (ip' := 12) rfl rfl ?_
    refine zs_getI (ip' := 13) rfl rfl (by omega) zsh_197 rfl (q := 0) rfl ?_
    intro hl12 hu12
    rw [f1 _ (by decide), hq] at hl12 hu12 ⊢
    refine zs_pushI (ip' := 14) rfl rfl zi_k1 ?_
    refine zs_iadd (ip' := 15) rfl rfl ?_
    refine zs_putI (ip' := 16) rfl rfl (by omega) zsh_197 rfl (q := 0) rfl (by omega) ?_
    refine zW_gk ?_
    intro G2 e2 f2
    refine zW_1 rfl ?_
    refine ⟨rfl, ⟨⟨fun k a b => ?_, fun j a => ?_⟩, ?_, ?_⟩, rfl, rfl⟩
    · rw [f2 _ a, f1 _ b]
    · rw [e2, zp_ne a, f1 _ (by decide)]
    · rw [e2, zp_eq]
    · rw [f2 _ (by decide), e1]
theorem cX_putInt {N : Nat} {G F : GM} {n : Nat} (hN : 229 ≤ N) {q : Int} (hq : G 197 0 = q) (hq1 : 0 ≤ q ∧ q + 4 ≤ 800) {a : Int} (ha : zr a) : zC N 181 [.ref 197, .int (zi a)] G F n (zV fun G' F' n' => (xTx G G' ∧ G' 197 0 = q + 4 ∧ (∀ j, j < q → G' 198 j = G 198 j) ∧ ∀ i : Int, 0 ≤ i → i < 4 → G' 198 (q + i) % 256 = zand (zshr a (24 - 8 * i)) 255 ∧ -128 ≤ G' 198 (q + i) ∧ G' 198 (q + i) ≤ 127) ∧ F' = F ∧ n' = n) := by
  refine zC_i (L0 := [.ref 197, .int (zi a), .null]) rfl ?_
  refine zs_pushI (ip' := 1) rfl rfl zi_k24 ?_
  refine zs_istore2 (ip' := 2) rfl rfl ?_
  refine zs_iload (ip' := 3) rfl rfl rfl ?_
  refine zs_if_lt (t := 12) (ip' := 4) rfl rfl (by omega) ?_ ?_
  · intro h3
    exact absurd h3 (by decide)
  · intro h3
    refine zs_aload (ip' := 5) rfl rfl rfl ?_
    refine zs_iload (ip' := 6) rfl rfl rfl ?_
    refine zs_iload (ip' := 7) rfl rfl rfl ?_
    refine zs_iushr (ip' := 8) rfl rfl ?_
    refine zs_i2b (ip' := 9) rfl rfl ?_
    have hqq := hq
    have hbb := bmod_rng (zushr a 24)
    refine zW_cV (ip' := 10) rfl rfl (cX_putByte hN hqq ⟨by omega, by omega⟩ hbb) rfl rfl (z_ok3 (by omega) zsh_197 rfl rfl rfl) ?_
    rintro G1 F' n' ⟨⟨x1, y1, r1⟩, rfl, rfl⟩
    refine zs_iinc2 (ip' := 11) rfl rfl zi_km8 ?_
    refine zs_goto (t := 2) rfl ?_
    refine zs_iload (ip' := 3) rfl rfl rfl ?_
    refine zs_if_lt (t := 12) (ip' := 4) rfl rfl (by omega) ?_ ?_
    · intro h3
      exact absurd h3 (by decide)
    · intro h3
      refine zs_aload (ip' := 5) rfl rfl rfl ?_
      refine zs_iload (ip' := 6) rfl rfl rfl ?_
      refine zs_iload (ip' := 7) rfl rfl rfl ?_
      refine zs_iushr (ip' := 8) rfl rfl ?_
      refine zs_i2b (ip' := 9) rfl rfl ?_
      have hqq := y1
      have hbb := bmod_rng (zushr a (24 + -8))
      refine zW_cV (ip' := 10) rfl rfl (cX_putByte hN hqq ⟨by omega, by omega⟩ hbb) rfl rfl (z_ok3 (by omega) zsh_197 rfl rfl rfl) ?_
      rintro G2 F' n' ⟨⟨x2, y2, r2⟩, rfl, rfl⟩
      refine zs_iinc2 (ip' := 11) rfl rfl zi_km8 ?_
      refine zs_goto (t := 2) rfl ?_
      refine zs_iload (ip' := 3) rfl rfl rfl ?_
      refine zs_if_lt (t := 12) (ip' := 4) rfl rfl (by omega) ?_ ?_
      · intro h3
        exact absurd h3 (by decide)
      · intro h3
        refine zs_aload (ip' := 5) rfl rfl rfl ?_
        refine zs_iload (ip' := 6) rfl rfl rfl ?_
        refine zs_iload (ip' := 7) rfl rfl rfl ?_
        refine zs_iushr (ip' := 8) rfl rfl ?_
        refine zs_i2b (ip' := 9) rfl rfl ?_
        have hqq := y2
        have hbb := bmod_rng (zushr a (24 + -8 + -8))
        refine zW_cV (ip' := 10) rfl rfl (cX_putByte hN hqq ⟨by omega, by omega⟩ hbb) rfl rfl (z_ok3 (by omega) zsh_197 rfl rfl rfl) ?_
        rintro G3 F' n' ⟨⟨x3, y3, r3⟩, rfl, rfl⟩
        refine zs_iinc2 (ip' := 11) rfl rfl zi_km8 ?_
        refine zs_goto (t := 2) rfl ?_
        refine zs_iload (ip' := 3) rfl rfl rfl ?_
        refine zs_if_lt (t := 12) (ip' := 4) rfl rfl (by omega) ?_ ?_
        · intro h3
          exact absurd h3 (by decide)
        · intro h3
          refine zs_aload (ip' := 5) rfl rfl rfl ?_
          refine zs_iload (ip' := 6) rfl rfl rfl ?_
          refine zs_iload (ip' := 7) rfl rfl rfl ?_
          refine zs_iushr (ip' := 8) rfl rfl ?_
          refine zs_i2b (ip' := 9) rfl rfl ?_
          have hqq := y3
          have hbb := bmod_rng (zushr a (24 + -8 + -8 + -8))
          refine zW_cV (ip' := 10) rfl rfl (cX_putByte hN hqq ⟨by omega, by omega⟩ hbb) rfl rfl (z_ok3 (by omega) zsh_197 rfl rfl rfl) ?_
          rintro G4 F' n' ⟨⟨x4, y4, r4⟩, rfl, rfl⟩
          refine zs_iinc2 (ip' := 11) rfl rfl zi_km8 ?_
          refine zs_goto (t := 2) rfl ?_
          refine zs_iload (ip' := 3) rfl rfl rfl ?_
          refine zs_if_lt (t := 12) (ip' := 4) rfl rfl (by omega) ?_ ?_
          · intro h3
            refine zW_1 rfl ?_
            refine ⟨rfl, ⟨xTx_t (xTx_t (xTx_t x1 x2) x3) x4, by omega, fun j j0 => ?_, fun i i0 i1 => ?_⟩, rfl, rfl⟩
            · rw [r4, zp_ne (by omega), r3, zp_ne (by omega), r2, zp_ne (by omega), r1, zp_ne (by omega)]
            · have hi : i = 0 ∨ i = 1 ∨ i = 2 ∨ i = 3 := by omega
              rcases hi with rfl | rfl | rfl | rfl
              · rw [r4, zp_ne (by omega), r3, zp_ne (by omega), r2, zp_ne (by omega), r1, show q + 0 = q by omega, zp_eq]
                exact ⟨xByte a (s := 24) (by omega), bmod_rng _⟩
              · rw [r4, zp_ne (by omega), r3, zp_ne (by omega), r2, zp_eq]
                exact ⟨xByte a (s := 16) (by omega), bmod_rng _⟩
              · rw [r4, zp_ne (by omega), r3, show q + 2 = q + 1 + 1 by omega, zp_eq]
                exact ⟨xByte a (s := 8) (by omega), bmod_rng _⟩
              · rw [r4, show q + 3 = q + 1 + 1 + 1 by omega, zp_eq]
                exact ⟨xByte a (s := 0) (by omega), bmod_rng _⟩
          · intro h3
            exact absurd h3 (by decide)
theorem cQ_append {N : Nat} {G F : GM} {n : Nat} (hN : 229 ≤ N) (hl : 0 ≤ G 197 0 ∧ G 197 0 ≤ 800) {a b c d e : Int} (ha : zr a) (hb : zr b) (hc : zr c) (hd : zr d) (he : zr e) : zC N 201 [.ref 192, .int (zi a), .int (zi b), .int (zi c), .int (zi d), .int (zi e)] G F n (zQx F n [0] (q_append (G 197 0)) (fun G' => ((q_append (G 197 0)).1 = 0 ∧ xTx G G' ∧ G' 197 0 = G 197 0 + 20 ∧ (∀ j, j < G 197 0 → G' 198 j = G 198 j) ∧ ∀ j, 0 ≤ j → j < 20 → G' 198 (G 197 0 + j) % 256 = sByte a b c d e j ∧ -128 ≤ G' 198 (G 197 0 + j) ∧ G' 198 (G 197 0 + j) ≤ 127) ∨ ((q_append (G 197 0)).1 ≠ 0 ∧ G' = G))) := by
  refine zC_i (L0 := [.ref 192, .int (zi a), .int (zi b), .int (zi c), .int (zi d), .int (zi e)]) rfl ?_
  refine zs_aload (ip' := 1) rfl rfl rfl ?_
  refine zs_getR (ip' := 2) rfl rfl (r := 197) (by omega) zsh_192 rfl ?_
  refine zs_getI (ip' := 3) rfl rfl (by omega) zsh_197 rfl (q := 0) rfl ?_
  intro hl2 hu2
  refine zs_pushI (ip' := 4) rfl rfl zi_k20 ?_
  refine zs_iadd (ip' := 5) rfl rfl ?_
  refine zs_pushI (ip' := 6) rfl rfl zi_k800 ?_
  refine zs_icmp_le (t := 12) (ip' := 7) rfl rfl (by omega) (by omega) ?_ ?_
  · intro h6
    refine zs_aload (ip' := 13) rfl rfl rfl ?_
    refine zs_getR (ip' := 14) rfl rfl (r := 197) (by omega) zsh_192 rfl ?_
    refine zs_iload (ip' := 15) rfl rfl rfl ?_
    refine zW_cV (ip' := 16) rfl rfl (cX_putInt hN rfl ⟨by omega, by omega⟩ ha) rfl rfl (z_ok3 (by omega) zsh_197 rfl rfl rfl) ?_
    rintro G1 F' n' ⟨⟨x1, y1, l1, r1⟩, rfl, rfl⟩
    refine zs_aload (ip' := 17) rfl rfl rfl ?_
    refine zs_getR (ip' := 18) rfl rfl (r := 197) (by omega) zsh_192 rfl ?_
    refine zs_iload (ip' := 19) rfl rfl rfl ?_
    refine zW_cV (ip' := 20) rfl rfl (cX_putInt hN y1 ⟨by omega, by omega⟩ hb) rfl rfl (z_ok3 (by omega) zsh_197 rfl rfl rfl) ?_
    rintro G2 F' n' ⟨⟨x2, y2, l2, r2⟩, rfl, rfl⟩
    refine zs_aload (ip' := 21) rfl rfl rfl ?_
    refine zs_getR (ip' := 22) rfl rfl (r := 197) (by omega) zsh_192 rfl ?_
    refine zs_iload (ip' := 23) rfl rfl rfl ?_
    refine zW_cV (ip' := 24) rfl rfl (cX_putInt hN y2 ⟨by omega, by omega⟩ hc) rfl rfl (z_ok3 (by omega) zsh_197 rfl rfl rfl) ?_
    rintro G3 F' n' ⟨⟨x3, y3, l3, r3⟩, rfl, rfl⟩
    refine zs_aload (ip' := 25) rfl rfl rfl ?_
    refine zs_getR (ip' := 26) rfl rfl (r := 197) (by omega) zsh_192 rfl ?_
    refine zs_iload (ip' := 27) rfl rfl rfl ?_
    refine zW_cV (ip' := 28) rfl rfl (cX_putInt hN y3 ⟨by omega, by omega⟩ hd) rfl rfl (z_ok3 (by omega) zsh_197 rfl rfl rfl) ?_
    rintro G4 F' n' ⟨⟨x4, y4, l4, r4⟩, rfl, rfl⟩
    refine zs_aload (ip' := 29) rfl rfl rfl ?_
    refine zs_getR (ip' := 30) rfl rfl (r := 197) (by omega) zsh_192 rfl ?_
    refine zs_iload (ip' := 31) rfl rfl rfl ?_
    refine zW_cV (ip' := 32) rfl rfl (cX_putInt hN y4 ⟨by omega, by omega⟩ he) rfl rfl (z_ok3 (by omega) zsh_197 rfl rfl rfl) ?_
    rintro G5 F' n' ⟨⟨x5, y5, l5, r5⟩, rfl, rfl⟩
    refine zs_aload (ip' := 33) rfl rfl rfl ?_
    refine zs_getR (ip' := 34) rfl rfl (r := 197) (by omega) zsh_192 rfl ?_
    refine zs_getI (ip' := 35) rfl rfl (by omega) zsh_197 rfl (q := 0) rfl ?_
    intro hl34 hu34
    rw [y5] at hl34 hu34 ⊢
    refine zW_0 rfl ?_
    have hq : q_append (G 197 0) = (0, G 197 0 + 20) := if_neg (by omega)
    refine zqx0 (hq.trans (by rw [show G 197 0 + 20 = G 197 0 + 4 + 4 + 4 + 4 + 4 by omega])) (Or.inl ⟨by rw [hq], xTx_t (xTx_t (xTx_t (xTx_t x1 x2) x3) x4) x5, by omega, fun j j0 => ?_, fun j j0 j1 => ?_⟩)
    · rw [l5 _ (by omega), l4 _ (by omega), l3 _ (by omega), l2 _ (by omega), l1 _ (by omega)]
    · unfold sByte sWord
      by_cases h4 : j < 4
      · have hr := r1 j j0 h4
        rw [if_pos h4, l5 _ (by omega), l4 _ (by omega), l3 _ (by omega), l2 _ (by omega), hr.1, show j % 4 = j by omega]
        exact ⟨rfl, hr.2⟩
      · rw [if_neg h4]
        by_cases h8 : j < 8
        · have hr := r2 (j - 4) (by omega) (by omega)
          rw [show G 197 0 + 4 + (j - 4) = G 197 0 + j by omega] at hr
          rw [if_pos h8, l5 _ (by omega), l4 _ (by omega), l3 _ (by omega), hr.1, show j % 4 = j - 4 by omega]
          exact ⟨rfl, hr.2⟩
        · rw [if_neg h8]
          by_cases h12 : j < 12
          · have hr := r3 (j - 8) (by omega) (by omega)
            rw [show G 197 0 + 4 + 4 + (j - 8) = G 197 0 + j by omega] at hr
            rw [if_pos h12, l5 _ (by omega), l4 _ (by omega), hr.1, show j % 4 = j - 8 by omega]
            exact ⟨rfl, hr.2⟩
          · rw [if_neg h12]
            by_cases h16 : j < 16
            · have hr := r4 (j - 12) (by omega) (by omega)
              rw [show G 197 0 + 4 + 4 + 4 + (j - 12) = G 197 0 + j by omega] at hr
              rw [if_pos h16, l5 _ (by omega), hr.1, show j % 4 = j - 12 by omega]
              exact ⟨rfl, hr.2⟩
            · have hr := r5 (j - 16) (by omega) (by omega)
              rw [show G 197 0 + 4 + 4 + 4 + 4 + (j - 16) = G 197 0 + j by omega] at hr
              rw [if_neg h16, hr.1, show j % 4 = j - 16 by omega]
              exact ⟨rfl, hr.2⟩
  · intro h6
    refine zW_5 rfl ?_
    have hq : q_append (G 197 0) = (1, 0) := if_pos (by omega)
    exact zqx1 hq rfl (Or.inr ⟨by rw [hq]; exact (by decide : (1 : Int) ≠ 0), rfl⟩)
theorem cX_cutTo {N : Nat} {G F : GM} {n : Nat} (hN : 229 ≤ N) {v : Int} (hv : zr v) : zC N 184 [.ref 197, .int (zi v)] G F n (zV fun G' F' n' => G' = zk G 197 (zp (G 197) 0 v) ∧ F' = F ∧ n' = n) := by
  refine zC_i (L0 := [.ref 197, .int (zi v)]) rfl ?_
  refine zs_aload (ip' := 1) rfl rfl rfl ?_
  refine zs_iload (ip' := 2) rfl rfl rfl ?_
  refine zs_putI (ip' := 3) rfl rfl (by omega) zsh_197 rfl (q := 0) rfl (by omega) ?_
  refine zW_1 rfl ?_
  exact ⟨rfl, rfl, rfl, rfl⟩
theorem cQ_shorten {N : Nat} {G F : GM} {n : Nat} (hN : 229 ≤ N) (hl : 0 ≤ G 197 0 ∧ G 197 0 ≤ 800) {c : Int} (hc : zr c) : zC N 202 [.ref 192, .int (zi c)] G F n (zQx F n [1] (q_shorten (G 197 0) c) (fun G' => ((q_shorten (G 197 0) c).1 = 0 ∧ G' = zk G 197 (zp (G 197) 0 c)) ∨ ((q_shorten (G 197 0) c).1 ≠ 0 ∧ G' = G))) := by
  refine zC_i (L0 := [.ref 192, .int (zi c)]) rfl ?_
  refine zs_iload (ip' := 1) rfl rfl rfl ?_
  refine zs_if_lt (t := 7) (ip' := 2) rfl rfl (by omega) ?_ ?_
  · intro h1
    refine zW_5 rfl ?_
    have hq : q_shorten (G 197 0) c = (1, 0) := if_neg (by omega)
    exact zqx1 hq rfl (Or.inr ⟨by rw [hq]; exact (by decide : (1 : Int) ≠ 0), rfl⟩)
  · intro h1
    refine zs_iload (ip' := 3) rfl rfl rfl ?_
    refine zs_aload (ip' := 4) rfl rfl rfl ?_
    refine zs_getR (ip' := 5) rfl rfl (r := 197) (by omega) zsh_192 rfl ?_
    refine zs_getI (ip' := 6) rfl rfl (by omega) zsh_197 rfl (q := 0) rfl ?_
    intro hl5 hu5
    refine zs_icmp_le (t := 12) (ip' := 7) rfl rfl (by omega) (by omega) ?_ ?_
    · intro h6
      refine zs_aload (ip' := 13) rfl rfl rfl ?_
      refine zs_getR (ip' := 14) rfl rfl (r := 197) (by omega) zsh_192 rfl ?_
      refine zs_iload (ip' := 15) rfl rfl rfl ?_
      refine zW_cV (ip' := 16) rfl rfl (cX_cutTo hN hc) rfl rfl (z_ok3 (by omega) zsh_197 rfl rfl rfl) ?_
      rintro G1 F' n' ⟨rfl, rfl, rfl⟩
      refine zs_iload (ip' := 17) rfl rfl rfl ?_
      refine zW_0 rfl ?_
      have hq : q_shorten (G 197 0) c = (0, c) := if_pos (by omega)
      exact zqx0 hq (Or.inl ⟨by rw [hq], rfl⟩)
    · intro h6
      refine zW_5 rfl ?_
      have hq : q_shorten (G 197 0) c = (1, 0) := if_neg (by omega)
      exact zqx1 hq rfl (Or.inr ⟨by rw [hq]; exact (by decide : (1 : Int) ≠ 0), rfl⟩)
