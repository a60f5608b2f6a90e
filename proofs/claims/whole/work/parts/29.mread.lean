/-! The reference model: rows and fogs are read (printed by wip/whole/src29.py). -/
theorem pRowD_s (T D : Int → Int) (b y : Int) {k : Int} (hk : 0 ≤ k) : zp (pRowD T D b y k) (30 + 12 * y + k) (pCell (T (b + k))) = pRowD T D b y (k + 1) := by
  funext j
  unfold zp pRowD
  by_cases h : j = 30 + 12 * y + k
  · rw [if_pos h, if_pos (by omega), show j - (30 + 12 * y) = k by omega]
  · rw [if_neg h]
    by_cases h2 : 30 + 12 * y ≤ j ∧ j < 30 + 12 * y + k
    · rw [if_pos h2, if_pos (by omega)]
    · rw [if_neg h2, if_neg (by omega)]
theorem pRowD_0 (T D : Int → Int) (b y : Int) : pRowD T D b y 0 = D := by
  funext j
  exact if_neg (by omega)
theorem pRowD_o (T D : Int → Int) (b k : Int) {y j : Int} (hy : 0 ≤ y) (hj : j < 30) : pRowD T D b y k j = D j := if_neg (by omega)
theorem pD_c {D : Int → Int} {T : Int → Int} {b y k : Int} (h : pD D) (hy : 0 ≤ y) : pD (pRowD T D b y k) := by
  unfold pD
  rw [pRowD_o T D b k hy (by omega), pRowD_o T D b k hy (by omega), pRowD_o T D b k hy (by omega), pRowD_o T D b k hy (by omega)]
  exact h
theorem cM_semi {N : Nat} (hN : 241 ≤ N) {G0 F0 G F : GM} {n : Nat} {x : zTx} (hS : zPS G0 F0 x G F) {y : Int} {c2 : Value} : zW N 56 50 [.ref 230, .int (zi y), c2] [.int (zi (zb (tK (G0 237) (G0 230 8) x.1 = 3))), .ref 230] G F n (zV fun G' F' n' => zPS G0 F0 (pTk (G0 237) (G0 230 8) x (tK (G0 237) (G0 230 8) x.1 = 3)) G' F' ∧ n' = n) := by
  refine zW_cR (ip' := 51) rfl rfl (cM_takes hN hS) rfl rfl (z_ok3 (by omega) zsh_230 rfl rfl rfl) ?_
  rintro v G' F' n' _ ⟨rfl, hS', rfl⟩
  refine zs_pop (ip' := 52) rfl rfl ?_
  refine zW_1 rfl ?_
  exact ⟨rfl, hS', rfl⟩
theorem cM_row42 {N : Nat} (hN : 241 ≤ N) {G0 F0 G F : GM} {n : Nat} {x : zTx} (hS : zPS G0 F0 x G F) {y : Int} {c2 : Value} : zW N 56 42 [.ref 230, .int (zi y), c2] [] G F n (zV fun G' F' n' => zPS G0 F0 (pTk (G0 237) (G0 230 8) x (tK (G0 237) (G0 230 8) x.1 = 3)) G' F' ∧ n' = n) := by
  obtain ⟨hBG, e37, e8⟩ := zPS_ba hS
  obtain ⟨hB, hx, hw, ⟨a1, a2, a3, a4, a5⟩, ⟨w1, w2, w3⟩, hk, hj, hf⟩ := id hS
  have hb := tB_rng (T := G0 237) hx.2
  have he := tE_rng (T := G0 237) hx.2
  obtain ⟨v1, v2⟩ := tV_rng (T := G0 237) hx.2
  obtain ⟨k1, k2⟩ := tK_rng (T := G0 237) (n := G0 230 8) (p := x.1)
  obtain ⟨n1, n2⟩ := hB.1
  refine zs_aload (ip' := 43) rfl rfl rfl ?_
  refine zs_aload (ip' := 44) rfl rfl rfl ?_
  refine zs_getI (ip' := 45) rfl rfl (by omega) zsh_230 rfl (q := 17) rfl ?_
  intro hl44 hu44
  rw [a3] at hl44 hu44 ⊢
  refine zs_pushI (ip' := 46) rfl rfl zi_k3 ?_
  refine zs_icmp_ne (t := 49) (ip' := 47) rfl rfl (by omega) (by omega) ?_ ?_
  · intro h46
    refine zs_pushI (ip' := 50) rfl rfl zi_k0 ?_
    have := cM_semi (n := n) hN hS (y := y) (c2 := c2)
    rw [zb_f h46] at this
    exact this
  · intro h46
    refine zs_pushI (ip' := 48) rfl rfl zi_k1 ?_
    refine zs_goto (t := 50) rfl ?_
    have := cM_semi (n := n) hN hS (y := y) (c2 := c2)
    rw [zb_t h46] at this
    exact this
theorem cM_row37 {N : Nat} (hN : 241 ≤ N) {G0 F0 G F : GM} {n : Nat} {x : zTx} (hS : zPS G0 F0 x G F) {y : Int} {c2 : Value} : zW N 56 37 [.ref 230, .int (zi y), c2] [] G F n (zV fun G' F' n' => zPS G0 F0 (pR3 (G0 237) (G0 230 8) x) G' F' ∧ n' = n) := by
  refine zs_aload (ip' := 38) rfl rfl rfl ?_
  refine zs_aload (ip' := 39) rfl rfl rfl ?_
  refine zW_cP (ip' := 40) rfl rfl (cM_areCells hN hS) rfl rfl (z_ok3 (by omega) zsh_230 rfl rfl rfl) ?_
  refine zW_cR (ip' := 41) rfl rfl (cM_takes hN hS) rfl rfl (z_ok3 (by omega) zsh_230 rfl rfl rfl) ?_
  rintro v G' F' n' _ ⟨rfl, hS', rfl⟩
  refine zs_pop (ip' := 42) rfl rfl ?_
  exact cM_row42 hN hS'
theorem cM_row15 {N : Nat} {F : GM} {n : Nat} (hN : 241 ≤ N) {G0 F0 : GM} {x : zTx} {y : Int} (hy : 0 ≤ y ∧ y < 12) (hD : pD x.2.2.2) (hA : pAre (G0 237) (G0 230 8) x) : ∀ (d : Nat) (k : Nat) (G : GM), x.2.2.2 0 - k < (d : Int) → (k : Int) ≤ x.2.2.2 0 → zPS G0 F0 (pSt x (pRowD (G0 237) x.2.2.2 (tB (G0 237) (G0 230 8) x.1) y k)) G F → zW N 56 15 [.ref 230, .int (zi y), .int (zi (k : Int))] [] G F n (zV fun G' F' n' => zPS G0 F0 (pR3 (G0 237) (G0 230 8) (pSt x (pRowD (G0 237) x.2.2.2 (tB (G0 237) (G0 230 8) x.1) y (x.2.2.2 0)))) G' F' ∧ n' = n) := by
  intro d
  induction d with
  | zero =>
    intro k G hd hjj hS
    exact absurd hd (by omega)
  | succ d ih =>
    intro k G hd hjj hS
    obtain ⟨hBG, e37, e8⟩ := zPS_ba hS
    obtain ⟨hB, hx, hw, ⟨a1, a2, a3, a4, a5⟩, ⟨w1, w2, w3⟩, hk, hj, hf⟩ := id hS
    have hb := tB_rng (T := G0 237) hx.2
    have he := tE_rng (T := G0 237) hx.2
    obtain ⟨v1, v2⟩ := tV_rng (T := G0 237) hx.2
    obtain ⟨k1, k2⟩ := tK_rng (T := G0 237) (n := G0 230 8) (p := x.1)
    obtain ⟨n1, n2⟩ := hB.1
    obtain ⟨⟨d0, d0'⟩, ⟨d1, d1'⟩, ⟨d4, d4'⟩, d5, d5'⟩ := id hD
    have r0 : G 232 0 = x.2.2.2 0 := by rw [w3]; exact pRowD_o _ _ _ _ hy.1 (by omega)
    have a1' : G 230 15 = tE (G0 237) (G0 230 8) x.1 := a1
    have a2' : G 230 16 = tB (G0 237) (G0 230 8) x.1 := a2
    have hx' : 0 ≤ x.1 ∧ x.1 ≤ G0 230 8 := hx
    have hb' := tB_rng (T := G0 237) hx'.2
    have he' := tE_rng (T := G0 237) hx'.2
    have hA2 := hA.1.2
    refine zs_iload (ip' := 16) rfl rfl rfl ?_
    refine zs_aload (ip' := 17) rfl rfl rfl ?_
    refine zs_getR (ip' := 18) rfl rfl (r := 232) (by omega) zsh_230 rfl ?_
    refine zs_pushI (ip' := 19) rfl rfl zi_k0 ?_
    refine zs_iald (ip' := 20) rfl rfl (by omega) zsh_232 (by omega) ?_
    intro hl19 hu19
    rw [r0] at hl19 hu19 ⊢
    refine zs_icmp_ge (t := 37) (ip' := 21) rfl rfl (by omega) (by omega) ?_ ?_
    · intro h20
      rw [show (k : Int) = x.2.2.2 0 by omega] at hS
      exact cM_row37 hN hS
    · intro h20
      refine zs_aload (ip' := 22) rfl rfl rfl ?_
      refine zs_getR (ip' := 23) rfl rfl (r := 232) (by omega) zsh_230 rfl ?_
      refine zs_iload (ip' := 24) rfl rfl rfl ?_
      refine zs_iload (ip' := 25) rfl rfl rfl ?_
      refine zW_cP (ip' := 26) rfl rfl cM_cellAt rfl rfl rfl ?_
      refine zs_aload (ip' := 27) rfl rfl rfl ?_
      refine zs_getR (ip' := 28) rfl rfl (r := 237) (by omega) zsh_230 rfl ?_
      refine zs_aload (ip' := 29) rfl rfl rfl ?_
      refine zs_getI (ip' := 30) rfl rfl (by omega) zsh_230 rfl (q := 16) rfl ?_
      intro hl29 hu29
      rw [a2'] at hl29 hu29 ⊢
      refine zs_iload (ip' := 31) rfl rfl rfl ?_
      refine zs_iadd (ip' := 32) rfl rfl ?_
      refine zs_iald (ip' := 33) rfl rfl (by omega) zsh_237 (by omega) ?_
      intro hl32 hu32
      rw [e37] at hl32 hu32 ⊢
      refine zW_cP (ip' := 34) rfl rfl (cM_cellOf (by omega)) rfl rfl rfl ?_
      have hc1 : -1 ≤ pCell (G0 237 (tB (G0 237) (G0 230 8) x.1 + k)) ∧ pCell (G0 237 (tB (G0 237) (G0 230 8) x.1 + k)) ≤ 13 := by unfold pCell; (repeat' split) <;> omega
      refine zs_iast (ip' := 35) rfl rfl (by omega) zsh_232 (by omega) (by omega) ?_
      rw [w3, show (pSt x (pRowD (G0 237) x.2.2.2 (tB (G0 237) (G0 230 8) x.1) y k)).2.2.2 = pRowD (G0 237) x.2.2.2 (tB (G0 237) (G0 230 8) x.1) y k from rfl, pRowD_s _ _ _ _ (by omega)]
      refine zs_iinc2 (ip' := 36) rfl rfl zi_k1 ?_
      refine zs_goto (t := 15) rfl ?_
      exact ih (k + 1) _ (by omega) (by omega) (zPS_D (x := pSt x (pRowD (G0 237) x.2.2.2 (tB (G0 237) (G0 230 8) x.1) y k)) hS)
theorem cM_row10 {N : Nat} (hN : 241 ≤ N) {G0 F0 G F : GM} {n : Nat} {x : zTx} (hS : zPS G0 F0 x G F) {y : Int} (hy : 0 ≤ y ∧ y < 12) (hD : pD x.2.2.2) {c2 : Value} : zW N 56 10 [.ref 230, .int (zi y), c2] [] G F n (zV fun G' F' n' => zPS G0 F0 (pR1 (G0 237) (G0 230 8) y x) G' F' ∧ n' = n) := by
  obtain ⟨⟨d0, d0'⟩, ⟨d1, d1'⟩, ⟨d4, d4'⟩, d5, d5'⟩ := id hD
  refine zs_aload (ip' := 11) rfl rfl rfl ?_
  refine zW_cP (ip' := 12) rfl rfl (cM_areCells hN hS) rfl rfl (z_ok3 (by omega) zsh_230 rfl rfl rfl) ?_
  refine zs_if_eqB (t := 37) (ip' := 13) rfl rfl ?_ ?_
  · intro h12
    have e : pR1 (G0 237) (G0 230 8) y x = pR3 (G0 237) (G0 230 8) x := if_neg h12
    rw [e]
    exact cM_row37 hN hS
  · intro h12
    refine zs_pushI (ip' := 14) rfl rfl zi_k0 ?_
    refine zs_istore2 (ip' := 15) rfl rfl ?_
    have e : pR1 (G0 237) (G0 230 8) y x = pR3 (G0 237) (G0 230 8) (pSt x (pRowD (G0 237) x.2.2.2 (tB (G0 237) (G0 230 8) x.1) y (x.2.2.2 0))) := if_pos h12
    rw [e]
    exact cM_row15 hN hy hD h12 13 0 G (by omega) (by omega) (by rw [show ((0 : Nat) : Int) = 0 from rfl, pRowD_0]; exact hS)
theorem cM_readRow {N : Nat} (hN : 241 ≤ N) {G0 F0 G F : GM} {n : Nat} {x : zTx} (hS : zPS G0 F0 x G F) {y : Int} (hy : 0 ≤ y ∧ y < 12) (hD : pD x.2.2.2) : zC N 56 [.ref 230, .int (zi y)] G F n (zV fun G' F' n' => zPS G0 F0 (pRow (G0 237) (G0 230 8) y x) G' F' ∧ n' = n) := by
  refine zC_i (L0 := [.ref 230, .int (zi y), .null]) rfl ?_
  refine zs_aload (ip' := 1) rfl rfl rfl ?_
  refine zs_aload (ip' := 2) rfl rfl rfl ?_
  refine zs_pushJ (ip' := 3) rfl rfl zl_k13550 ?_
  refine zW_cP (ip' := 4) rfl rfl (cM_is hN hS (by decide)) rfl rfl (z_ok3 (by omega) zsh_230 rfl rfl rfl) ?_
  refine zW_cR (ip' := 5) rfl rfl (cM_takes hN hS) rfl rfl (z_ok3 (by omega) zsh_230 rfl rfl rfl) ?_
  rintro v G' F' n' _ ⟨rfl, hS', rfl⟩
  refine zs_pop (ip' := 6) rfl rfl ?_
  refine zs_aload (ip' := 7) rfl rfl rfl ?_
  refine zs_getI (ip' := 8) rfl rfl (by omega) zsh_230 rfl (q := 20) rfl ?_
  intro hl7 hu7
  have w1' : G' 230 20 = _ := hS'.2.2.2.2.1.1
  rw [w1'] at hl7 hu7 ⊢
  refine zs_if_eq (t := 10) (ip' := 9) rfl rfl (by omega) ?_ ?_
  · intro h8
    have e : pRow (G0 237) (G0 230 8) y x = pR1 (G0 237) (G0 230 8) y (pTk (G0 237) (G0 230 8) x (pIs (G0 237) (G0 230 8) x 13550)) := if_neg (fun q => q h8)
    rw [e]
    exact cM_row10 hN hS' hy (by rw [pTk_D]; exact hD)
  · intro h8
    refine zW_1 rfl ?_
    have e : pRow (G0 237) (G0 230 8) y x = pTk (G0 237) (G0 230 8) x (pIs (G0 237) (G0 230 8) x 13550) := if_pos h8
    exact ⟨rfl, by rw [e]; exact hS', rfl⟩
theorem cM_fog20 {N : Nat} (hN : 241 ≤ N) {G0 F0 G F : GM} {n : Nat} {x : zTx} (hS : zPS G0 F0 x G F) {h f : Int} (hh : 0 ≤ h ∧ h ≤ 23) (hf : zr f) : zW N 57 20 [.ref 230, .int (zi h), .int (zi f)] [.int (zi (zb (tK (G0 237) (G0 230 8) x.1 = 3))), .ref 230] G F n (zV fun G' F' n' => zPS G0 F0 (pF3 (G0 237) (G0 230 8) x h f) G' F' ∧ n' = n) := by
  refine zW_cR (ip' := 21) rfl rfl (cM_takes hN hS) rfl rfl (z_ok3 (by omega) zsh_230 rfl rfl rfl) ?_
  rintro v G' F' n' _ ⟨rfl, hS', rfl⟩
  refine zs_if_eqB (t := 29) (ip' := 22) rfl rfl ?_ ?_
  · intro h21
    refine zW_1 rfl ?_
    have e : pF3 (G0 237) (G0 230 8) x h f = pTk (G0 237) (G0 230 8) x (tK (G0 237) (G0 230 8) x.1 = 3) := if_neg h21
    exact ⟨rfl, by rw [e]; exact hS', rfl⟩
  · intro h21
    refine zs_aload (ip' := 23) rfl rfl rfl ?_
    refine zs_getR (ip' := 24) rfl rfl (r := 232) (by omega) zsh_230 rfl ?_
    refine zs_pushI (ip' := 25) rfl rfl zi_k6 ?_
    refine zs_iload (ip' := 26) rfl rfl rfl ?_
    refine zs_iadd (ip' := 27) rfl rfl ?_
    refine zs_iload (ip' := 28) rfl rfl rfl ?_
    refine zs_iast (ip' := 29) rfl rfl (by omega) zsh_232 (by omega) (by omega) ?_
    refine zW_1 rfl ?_
    have e : pF3 (G0 237) (G0 230 8) x h f = pSt (pTk (G0 237) (G0 230 8) x (tK (G0 237) (G0 230 8) x.1 = 3)) (zp x.2.2.2 (6 + h) f) := if_pos h21
    have e2 : G' 232 = x.2.2.2 := hS'.2.2.2.2.1.2.2.trans (pTk_D _)
    exact ⟨rfl, by rw [e, ← e2]; exact zPS_D hS', rfl⟩
theorem cM_readFog {N : Nat} (hN : 241 ≤ N) {G0 F0 G F : GM} {n : Nat} {x : zTx} (hS : zPS G0 F0 x G F) : zC N 57 [.ref 230] G F n (zV fun G' F' n' => zPS G0 F0 (pFog (G0 237) (G0 230 8) x) G' F' ∧ n' = n) := by
  obtain ⟨hBG, e37, e8⟩ := zPS_ba hS
  obtain ⟨hB, hx, hw, ⟨a1, a2, a3, a4, a5⟩, ⟨w1, w2, w3⟩, hk, hj, hf⟩ := id hS
  have hb := tB_rng (T := G0 237) hx.2
  have he := tE_rng (T := G0 237) hx.2
  obtain ⟨v1, v2⟩ := tV_rng (T := G0 237) hx.2
  obtain ⟨k1, k2⟩ := tK_rng (T := G0 237) (n := G0 230 8) (p := x.1)
  obtain ⟨n1, n2⟩ := hB.1
  refine zC_i (L0 := [.ref 230, .null, .null]) rfl ?_
  refine zs_aload (ip' := 1) rfl rfl rfl ?_
  refine zW_cV (ip' := 2) rfl rfl (cM_next hN hBG (p := tE (G0 237) (G0 230 8) x.1) (by omega) a1) rfl rfl (z_ok3 (by omega) zsh_230 rfl rfl rfl) ?_
  rintro G' F' n' ⟨hN2, rfl⟩
  have hS1 := zPS_next hS hN2
  refine zs_aload (ip' := 3) rfl rfl rfl ?_
  refine zs_pushI (ip' := 4) rfl rfl zi_k0 ?_
  refine zs_pushI (ip' := 5) rfl rfl zi_k23 ?_
  refine zW_cR (ip' := 6) rfl rfl (cM_takesNumber hN hS1 (by omega) (by omega)) rfl rfl (z_ok3 (by omega) zsh_230 rfl rfl rfl) ?_
  rintro v G' F' n' _ ⟨rfl, hS2, rfl⟩
  have q1 := pNv_rng (T := G0 237) (n := G0 230 8) (x := pNx (G0 237) (G0 230 8) x) (lo := 0) (hi := 23) (by omega)
  refine zs_istore1 (ip' := 7) rfl rfl ?_
  refine zs_aload (ip' := 8) rfl rfl rfl ?_
  refine zs_pushI (ip' := 9) rfl rfl zi_k0 ?_
  refine zs_pushI (ip' := 10) rfl rfl zi_k9 ?_
  refine zW_cR (ip' := 11) rfl rfl (cM_takesNumber hN hS2 (by omega) (by omega)) rfl rfl (z_ok3 (by omega) zsh_230 rfl rfl rfl) ?_
  rintro v G' F' n' hv2 ⟨rfl, hS3, rfl⟩
  obtain ⟨t1, t2⟩ := tK_rng (T := G0 237) (n := G0 230 8) (p := (pNs (G0 237) (G0 230 8) (pNs (G0 237) (G0 230 8) (pNx (G0 237) (G0 230 8) x) 0 23) 0 9).1)
  refine zs_istore2 (ip' := 12) rfl rfl ?_
  refine zs_aload (ip' := 13) rfl rfl rfl ?_
  refine zs_aload (ip' := 14) rfl rfl rfl ?_
  refine zs_getI (ip' := 15) rfl rfl (by omega) zsh_230 rfl (q := 17) rfl ?_
  intro hl14 hu14
  rw [show G' 230 17 = tK (G0 237) (G0 230 8) (pNs (G0 237) (G0 230 8) (pNs (G0 237) (G0 230 8) (pNx (G0 237) (G0 230 8) x) 0 23) 0 9).1 from hS3.2.2.2.1.2.2.1] at hl14 hu14 ⊢
  refine zs_pushI (ip' := 16) rfl rfl zi_k3 ?_
  refine zs_icmp_ne (t := 19) (ip' := 17) rfl rfl (by omega) (by omega) ?_ ?_
  · intro h16
    refine zs_pushI (ip' := 20) rfl rfl zi_k0 ?_
    have := cM_fog20 (n := n') hN hS3 (h := pNv (G0 237) (G0 230 8) (pNx (G0 237) (G0 230 8) x) 0 23) (f := pNv (G0 237) (G0 230 8) (pNs (G0 237) (G0 230 8) (pNx (G0 237) (G0 230 8) x) 0 23) 0 9) (by omega) hv2
    rw [zb_f h16] at this
    exact this
  · intro h16
    refine zs_pushI (ip' := 18) rfl rfl zi_k1 ?_
    refine zs_goto (t := 20) rfl ?_
    have := cM_fog20 (n := n') hN hS3 (h := pNv (G0 237) (G0 230 8) (pNx (G0 237) (G0 230 8) x) 0 23) (f := pNv (G0 237) (G0 230 8) (pNs (G0 237) (G0 230 8) (pNx (G0 237) (G0 230 8) x) 0 23) 0 9) (by omega) hv2
    rw [zb_t h16] at this
    exact this
