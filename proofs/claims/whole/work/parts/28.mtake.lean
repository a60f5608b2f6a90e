/-! The reference model: tokens are taken (printed by wip/whole/src28.py). -/
section PSL
variable {G0 F0 G F G' F' : GM} {x : zTx}
theorem zPS_ba (h : zPS G0 F0 x G F) : zBa G ∧ G 237 = G0 237 ∧ G 230 8 = G0 230 8 := by
  obtain ⟨hB, -, -, -, -, hk, hj, -⟩ := h
  have e1 : G 237 = G0 237 := hk 237 (by decide) (by decide)
  have e2 : G 230 8 = G0 230 8 := hj 8 (by decide) (by decide) (by decide) (by decide) (by decide) (by decide)
  refine ⟨?_, e1, e2⟩
  unfold zBa
  rw [e1, e2]
  exact hB
theorem zPS_next (h : zPS G0 F0 x G F) (h2 : zNx G F (tE (G0 237) (G0 230 8) x.1) G' F') : zPS G0 F0 (pNx (G0 237) (G0 230 8) x) G' F' := by
  obtain ⟨-, e1, e2⟩ := zPS_ba h
  obtain ⟨hB, hx, hw, -, ⟨w1, w2, w3⟩, hk, hj, hf⟩ := h
  obtain ⟨⟨a1, a2, a3, a4, a5⟩, b1, b2, b3⟩ := h2
  rw [e1, e2] at a1 a2 a3 a4 a5
  have hE := tE_rng (T := G0 237) hx.2
  have hb := tB_rng (T := G0 237) hx.2
  exact ⟨hB, ⟨by show 0 ≤ tE (G0 237) (G0 230 8) x.1; omega, by show tE (G0 237) (G0 230 8) x.1 ≤ G0 230 8; omega⟩, hw, ⟨a1, a2, a3, a4, a5⟩, ⟨(b2 20 (by decide) (by decide) (by decide) (by decide)).trans w1, (b2 9 (by decide) (by decide) (by decide) (by decide)).trans w2, (b1 232 (by decide)).trans w3⟩,
    fun k k0 k1 => (b1 k k0).trans (hk k k0 k1), fun j j0 j1 j2 j3 j4 j5 => (b2 j j1 j2 j3 j4).trans (hj j j0 j1 j2 j3 j4 j5), fun k k0 => (b3 k k0).trans (hf k k0)⟩
theorem zPS_wrong (h : zPS G0 F0 x G F) : zPS G0 F0 (x.1, 1, tB (G0 237) (G0 230 8) x.1, x.2.2.2) (zk (zk G 230 (zp (G 230) 20 1)) 230 (zp (zk G 230 (zp (G 230) 20 1) 230) 9 (zk G 230 (zp (G 230) 20 1) 230 16))) F := by
  obtain ⟨hB, hx, hw, ⟨a1, a2, a3, a4, a5⟩, ⟨w1, w2, w3⟩, hk, hj, hf⟩ := h
  rw [zk_eq, zk_zk, zp_ne (by decide : (16 : Int) ≠ 20)]
  refine ⟨hB, hx, Or.inr rfl, ⟨?_, ?_, ?_, ?_, a5⟩, ⟨?_, ?_, ?_⟩, fun k k0 k1 => (zk_ne k0).trans (hk k k0 k1), fun j j0 j1 j2 j3 j4 j5 => ?_, hf⟩
  · rw [zk_eq, zp_ne (by decide), zp_ne (by decide)]; exact a1
  · rw [zk_eq, zp_ne (by decide), zp_ne (by decide)]; exact a2
  · rw [zk_eq, zp_ne (by decide), zp_ne (by decide)]; exact a3
  · rw [zk_eq, zp_ne (by decide), zp_ne (by decide)]; exact a4
  · rw [zk_eq, zp_ne (by decide), zp_eq]
  · rw [zk_eq, zp_eq]; exact a2
  · rw [zk_ne (by decide)]; exact w3
  · rw [zk_eq, zp_ne j0, zp_ne j5]; exact hj j j0 j1 j2 j3 j4 j5
theorem zPS_D {D : Int → Int} (h : zPS G0 F0 x G F) : zPS G0 F0 (pSt x D) (zk G 232 D) F := by
  obtain ⟨hB, hx, hw, a, ⟨w1, w2, w3⟩, hk, hj, hf⟩ := h
  have e : zk G 232 D 230 = G 230 := zk_ne (by decide)
  unfold zPS
  rw [e]
  exact ⟨hB, hx, hw, a, ⟨w1, w2, zk_eq _ _ _⟩, fun k k0 k1 => (zk_ne k1).trans (hk k k0 k1), hj, hf⟩
end PSL
def pD (D : Int → Int) : Prop := (0 ≤ D 0 ∧ D 0 ≤ 12) ∧ (0 ≤ D 1 ∧ D 1 ≤ 12) ∧ (0 ≤ D 4 ∧ D 4 ≤ 8) ∧ (0 ≤ D 5 ∧ D 5 ≤ 6)
section PX
variable {T : Int → Int} {n : Int} {x : zTx}
theorem pTk_D (c : Prop) [Decidable c] : (pTk T n x c).2.2.2 = x.2.2.2 := by
  unfold pTk
  split
  · rfl
  · split <;> rfl
theorem pNv_rng {lo hi : Int} (h : 0 ≤ lo) : 0 ≤ pNv T n x lo hi ∧ (pNv T n x lo hi = lo ∨ (lo ≤ pNv T n x lo hi ∧ pNv T n x lo hi ≤ hi)) := by
  unfold pNv
  split
  · rename_i c
    obtain ⟨-, -, c1, c2⟩ := c
    exact ⟨by omega, Or.inr ⟨c1, c2⟩⟩
  · exact ⟨h, Or.inl rfl⟩
end PX
theorem cM_is {N : Nat} (hN : 241 ≤ N) {G0 F0 G F : GM} {n : Nat} {x : zTx} (hS : zPS G0 F0 x G F) {v : Int} (hv : zrl v) : zPu N 51 [.ref 230, .long (zl v)] (zb (pIs (G0 237) (G0 230 8) x v)) G F n := by
  obtain ⟨hBG, e37, e8⟩ := zPS_ba hS
  obtain ⟨hB, hx, hw, ⟨a1, a2, a3, a4, a5⟩, ⟨w1, w2, w3⟩, hk, hj, hf⟩ := id hS
  have hb := tB_rng (T := G0 237) hx.2
  have he := tE_rng (T := G0 237) hx.2
  obtain ⟨v1, v2⟩ := tV_rng (T := G0 237) hx.2
  obtain ⟨k1, k2⟩ := tK_rng (T := G0 237) (n := G0 230 8) (p := x.1)
  obtain ⟨n1, n2⟩ := hB.1
  obtain ⟨u1, u2⟩ := hv
  refine zPu_i (L0 := [.ref 230, .long (zl v), .null]) rfl ?_
  refine zs_aload (ip' := 1) rfl rfl rfl ?_
  refine zs_getI (ip' := 2) rfl rfl (by omega) zsh_230 rfl (q := 17) rfl ?_
  intro hl1 hu1
  refine zs_pushI (ip' := 3) rfl rfl zi_k1 ?_
  refine zs_icmp_ne (t := 11) (ip' := 4) rfl rfl (by omega) (by omega) ?_ ?_
  · intro h3
    refine zs_pushI (ip' := 12) rfl rfl zi_k0 ?_
    refine zW_0b rfl (Or.inl rfl) ?_
    exact zfin (zb_f (fun h => h3 (a3.trans h.1))).symm
  · intro h3
    refine zs_aload (ip' := 5) rfl rfl rfl ?_
    refine zs_getJ (ip' := 6) rfl rfl (by omega) zsh_230 rfl (q := 19) rfl ?_
    intro hl5 hu5
    refine zs_lload (ip' := 7) rfl rfl rfl ?_
    refine zs_lcmp (ip' := 8) rfl rfl (by omega) (by omega) ?_
    obtain ⟨z1, z2, z3⟩ := zcmp_rng (F 230 19) v
    refine zs_if_ne (t := 11) (ip' := 9) rfl rfl (by omega) ?_ ?_
    · intro h8
      refine zs_pushI (ip' := 12) rfl rfl zi_k0 ?_
      refine zW_0b rfl (Or.inl rfl) ?_
      exact zfin (zb_f (fun h => h8 (z3.mpr (a5.trans h.2)))).symm
    · intro h8
      refine zs_pushI (ip' := 10) rfl rfl zi_k1 ?_
      refine zs_goto (t := 12) rfl ?_
      refine zW_0b rfl (Or.inr rfl) ?_
      exact zfin (zb_t ⟨a3.symm.trans h3, a5.symm.trans (z3.mp h8)⟩).symm
theorem cM_takes {N : Nat} (hN : 241 ≤ N) {G0 F0 G F : GM} {n : Nat} {x : zTx} (hS : zPS G0 F0 x G F) {c : Prop} [Decidable c] : zC N 52 [.ref 230, .int (zi (zb c))] G F n (zR fun v G' F' n' => v = zb (x.2.1 = 0 ∧ c) ∧ zPS G0 F0 (pTk (G0 237) (G0 230 8) x c) G' F' ∧ n' = n) := by
  obtain ⟨hBG, e37, e8⟩ := zPS_ba hS
  obtain ⟨hB, hx, hw, ⟨a1, a2, a3, a4, a5⟩, ⟨w1, w2, w3⟩, hk, hj, hf⟩ := id hS
  have hb := tB_rng (T := G0 237) hx.2
  have he := tE_rng (T := G0 237) hx.2
  obtain ⟨v1, v2⟩ := tV_rng (T := G0 237) hx.2
  obtain ⟨k1, k2⟩ := tK_rng (T := G0 237) (n := G0 230 8) (p := x.1)
  obtain ⟨n1, n2⟩ := hB.1
  refine zC_i (L0 := [.ref 230, .int (zi (zb c))]) rfl ?_
  refine zs_aload (ip' := 1) rfl rfl rfl ?_
  refine zs_getI (ip' := 2) rfl rfl (by omega) zsh_230 rfl (q := 20) rfl ?_
  intro hl1 hu1
  refine zs_if_eq (t := 5) (ip' := 3) rfl rfl (by omega) ?_ ?_
  · intro h2
    refine zs_iload (ip' := 6) rfl rfl rfl ?_
    refine zs_if_neB (t := 16) (ip' := 7) rfl rfl ?_ ?_
    · intro h6
      refine zs_aload (ip' := 17) rfl rfl rfl ?_
      refine zW_cV (ip' := 18) rfl rfl (cM_next hN hBG (p := tE (G0 237) (G0 230 8) x.1) (by omega) a1) rfl rfl (z_ok3 (by omega) zsh_230 rfl rfl rfl) ?_
      rintro G' F' n' ⟨hN2, rfl⟩
      refine zs_pushI (ip' := 19) rfl rfl zi_k1 ?_
      refine zW_0b rfl (Or.inr rfl) ?_
      have w0 : x.2.1 = 0 := w1.symm.trans h2
      have e : pTk (G0 237) (G0 230 8) x c = pNx (G0 237) (G0 230 8) x := (if_neg (fun q => q w0)).trans ((if_pos h6).trans (Prod.ext rfl (Prod.ext w0.symm rfl)))
      exact ⟨1, rfl, ⟨by decide, by decide⟩, (zb_t ⟨w0, h6⟩).symm, by rw [e]; exact zPS_next hS hN2, rfl⟩
    · intro h6
      refine zs_aload (ip' := 8) rfl rfl rfl ?_
      refine zs_pushI (ip' := 9) rfl rfl zi_k1 ?_
      refine zs_putZ (ip' := 10) rfl rfl (by omega) zsh_230 rfl (q := 20) rfl (Or.inr rfl) ?_
      refine zs_aload (ip' := 11) rfl rfl rfl ?_
      refine zs_aload (ip' := 12) rfl rfl rfl ?_
      refine zs_getI (ip' := 13) rfl rfl (by omega) zsh_230 rfl (q := 16) rfl ?_
      intro hl12 hu12
      refine zs_putI (ip' := 14) rfl rfl (by omega) zsh_230 rfl (q := 9) rfl (by omega) ?_
      refine zs_pushI (ip' := 15) rfl rfl zi_k0 ?_
      refine zW_0b rfl (Or.inl rfl) ?_
      have w0 : x.2.1 = 0 := w1.symm.trans h2
      have e : pTk (G0 237) (G0 230 8) x c = (x.1, 1, tB (G0 237) (G0 230 8) x.1, x.2.2.2) := (if_neg (fun q => q w0)).trans (if_neg h6)
      exact ⟨0, rfl, zr0, (zb_f (fun q => h6 q.2)).symm, by rw [e]; exact zPS_wrong hS, rfl⟩
  · intro h2
    refine zs_pushI (ip' := 4) rfl rfl zi_k0 ?_
    refine zW_0b rfl (Or.inl rfl) ?_
    have w0 : x.2.1 ≠ 0 := fun q => h2 (w1.trans q)
    have e : pTk (G0 237) (G0 230 8) x c = x := if_pos w0
    exact ⟨0, rfl, zr0, (zb_f (fun q => w0 q.1)).symm, by rw [e]; exact hS, rfl⟩
theorem cM_tNum_e {N : Nat} (hN : 241 ≤ N) {G0 F0 G F : GM} {n : Nat} {x : zTx} (hS : zPS G0 F0 x G F) {lo hi : Int} (hlo : zr lo) : zW N 53 16 [.ref 230, .int (zi lo), .int (zi hi), .int (zi (tV (G0 237) (G0 230 8) x.1))] [.int (zi (zb (pNc (G0 237) (G0 230 8) x lo hi))), .ref 230] G F n (zR fun v G' F' n' => v = pNv (G0 237) (G0 230 8) x lo hi ∧ zPS G0 F0 (pNs (G0 237) (G0 230 8) x lo hi) G' F' ∧ n' = n) := by
  obtain ⟨hBG, e37, e8⟩ := zPS_ba hS
  obtain ⟨hB, hx, hw, ⟨a1, a2, a3, a4, a5⟩, ⟨w1, w2, w3⟩, hk, hj, hf⟩ := id hS
  have hb := tB_rng (T := G0 237) hx.2
  have he := tE_rng (T := G0 237) hx.2
  obtain ⟨v1, v2⟩ := tV_rng (T := G0 237) hx.2
  obtain ⟨k1, k2⟩ := tK_rng (T := G0 237) (n := G0 230 8) (p := x.1)
  obtain ⟨n1, n2⟩ := hB.1
  refine zW_cR (ip' := 17) rfl rfl (cM_takes hN hS) rfl rfl (z_ok3 (by omega) zsh_230 rfl rfl rfl) ?_
  rintro v G' F' n' _ ⟨rfl, hS', rfl⟩
  refine zs_if_eqB (t := 20) (ip' := 18) rfl rfl ?_ ?_
  · intro h17
    refine zs_iload (ip' := 21) rfl rfl rfl ?_
    refine zW_0 rfl ?_
    exact ⟨_, rfl, hlo, (if_neg h17).symm, hS', rfl⟩
  · intro h17
    refine zs_iload (ip' := 19) rfl rfl rfl ?_
    refine zs_goto (t := 21) rfl ?_
    refine zW_0 rfl ?_
    exact ⟨_, rfl, ⟨by omega, by omega⟩, (if_pos h17).symm, hS', rfl⟩
theorem cM_takesNumber {N : Nat} (hN : 241 ≤ N) {G0 F0 G F : GM} {n : Nat} {x : zTx} (hS : zPS G0 F0 x G F) {lo hi : Int} (hlo : zr lo) (hhi : zr hi) : zC N 53 [.ref 230, .int (zi lo), .int (zi hi)] G F n (zR fun v G' F' n' => v = pNv (G0 237) (G0 230 8) x lo hi ∧ zPS G0 F0 (pNs (G0 237) (G0 230 8) x lo hi) G' F' ∧ n' = n) := by
  obtain ⟨hBG, e37, e8⟩ := zPS_ba hS
  obtain ⟨hB, hx, hw, ⟨a1, a2, a3, a4, a5⟩, ⟨w1, w2, w3⟩, hk, hj, hf⟩ := id hS
  have hb := tB_rng (T := G0 237) hx.2
  have he := tE_rng (T := G0 237) hx.2
  obtain ⟨v1, v2⟩ := tV_rng (T := G0 237) hx.2
  obtain ⟨k1, k2⟩ := tK_rng (T := G0 237) (n := G0 230 8) (p := x.1)
  obtain ⟨n1, n2⟩ := hB.1
  refine zC_i (L0 := [.ref 230, .int (zi lo), .int (zi hi), .null]) rfl ?_
  refine zs_aload (ip' := 1) rfl rfl rfl ?_
  refine zs_getI (ip' := 2) rfl rfl (by omega) zsh_230 rfl (q := 18) rfl ?_
  intro hl1 hu1
  rw [a4] at hl1 hu1 ⊢
  refine zs_istore3 (ip' := 3) rfl rfl ?_
  refine zs_aload (ip' := 4) rfl rfl rfl ?_
  refine zs_aload (ip' := 5) rfl rfl rfl ?_
  refine zs_getI (ip' := 6) rfl rfl (by omega) zsh_230 rfl (q := 17) rfl ?_
  intro hl5 hu5
  rw [a3] at hl5 hu5 ⊢
  refine zs_pushI (ip' := 7) rfl rfl zi_k2 ?_
  refine zs_icmp_ne (t := 15) (ip' := 8) rfl rfl (by omega) (by omega) ?_ ?_
  · intro h7
    refine zs_pushI (ip' := 16) rfl rfl zi_k0 ?_
    have := cM_tNum_e (n := n) hN hS (lo := lo) (hi := hi) hlo
    rw [zb_f (fun q => h7 q.1)] at this
    exact this
  · intro h7
    refine zs_iload (ip' := 9) rfl rfl rfl ?_
    refine zs_iload (ip' := 10) rfl rfl rfl ?_
    refine zs_iload (ip' := 11) rfl rfl rfl ?_
    refine zW_cP (ip' := 12) rfl rfl (cM_in (by omega) (by omega) (by omega)) rfl rfl rfl ?_
    refine zs_if_eqB (t := 15) (ip' := 13) rfl rfl ?_ ?_
    · intro h12
      refine zs_pushI (ip' := 16) rfl rfl zi_k0 ?_
      have := cM_tNum_e (n := n) hN hS (lo := lo) (hi := hi) hlo
      rw [zb_f (fun q => h12 q.2)] at this
      exact this
    · intro h12
      refine zs_pushI (ip' := 14) rfl rfl zi_k1 ?_
      refine zs_goto (t := 16) rfl ?_
      have := cM_tNum_e (n := n) hN hS (lo := lo) (hi := hi) hlo
      rw [zb_t ⟨h7, h12⟩] at this
      exact this
theorem cM_cellOf {N : Nat} {G F : GM} {n : Nat} {c : Int} (hc : zr c) : zPu N 54 [.int (zi c)] (pCell c) G F n := by
  refine zPu_i (L0 := [.int (zi c)]) rfl ?_
  refine zs_iload (ip' := 1) rfl rfl rfl ?_
  refine zs_lsw rfl (by omega) ?_
  try dsimp only
  split
  · rename_i h1_102
    refine zs_pushI (ip' := 3) rfl rfl zi_k0 ?_
    refine zW_0 rfl ?_
    exact zfin (by unfold pCell; (repeat' split) <;> omega)
  · rename_i h1_102
    split
    · rename_i h1_104
      refine zs_pushI (ip' := 7) rfl rfl zi_k2 ?_
      refine zW_0 rfl ?_
      exact zfin (by unfold pCell; (repeat' split) <;> omega)
    · rename_i h1_104
      split
      · rename_i h1_112
        refine zs_pushI (ip' := 9) rfl rfl zi_k13 ?_
        refine zW_0 rfl ?_
        exact zfin (by unfold pCell; (repeat' split) <;> omega)
      · rename_i h1_112
        split
        · rename_i h1_119
          refine zs_pushI (ip' := 5) rfl rfl zi_k1 ?_
          refine zW_0 rfl ?_
          exact zfin (by unfold pCell; (repeat' split) <;> omega)
        · rename_i h1_119
          refine zs_pushI (ip' := 11) rfl rfl zi_km1 ?_
          refine zW_0 rfl ?_
          exact zfin (by unfold pCell; (repeat' split) <;> omega)
theorem cM_are0 {N : Nat} (hN : 241 ≤ N) {G F : GM} {n : Nat} {k : Int} (hk : zr k) {Q : Zq} (hQ : Q (.inl (some (.int (zi 0)))) G F n) : zW N 55 21 [.ref 230, .int (zi 0), .int (zi k)] [] G F n Q := by
  refine zs_iload (ip' := 22) rfl rfl rfl ?_
  refine zs_aload (ip' := 23) rfl rfl rfl ?_
  refine zs_getI (ip' := 24) rfl rfl (by omega) zsh_230 rfl (q := 15) rfl ?_
  intro hl23 hu23
  refine zs_icmp_ge (t := 39) (ip' := 25) rfl rfl (by omega) (by omega) ?_ ?_
  · intro h24
    refine zs_iload (ip' := 40) rfl rfl rfl ?_
    refine zW_0b rfl (Or.inl rfl) ?_
    exact hQ
  · intro h24
    refine zs_iload (ip' := 26) rfl rfl rfl ?_
    refine zs_if_eq (t := 39) (ip' := 27) rfl rfl (by omega) ?_ ?_
    · intro h26
      refine zs_iload (ip' := 40) rfl rfl rfl ?_
      refine zW_0b rfl (Or.inl rfl) ?_
      exact hQ
    · intro h26
      exact absurd h26 (by decide)
theorem cM_are_l {N : Nat} {G F : GM} {n : Nat} (hN : 241 ≤ N) {G0 F0 : GM} {x : zTx} (hS : zPS G0 F0 x G F) (h1 : tK (G0 237) (G0 230 8) x.1 = 1 ∧ tE (G0 237) (G0 230 8) x.1 - tB (G0 237) (G0 230 8) x.1 = x.2.2.2 0) : ∀ (d : Nat) (k : Nat), tE (G0 237) (G0 230 8) x.1 - tB (G0 237) (G0 230 8) x.1 - k < (d : Int) → (k : Int) ≤ tE (G0 237) (G0 230 8) x.1 - tB (G0 237) (G0 230 8) x.1 → (∀ j : Int, 0 ≤ j → j < k → ¬ pCell (G0 237 (tB (G0 237) (G0 230 8) x.1 + j)) < 0) → zW N 55 21 [.ref 230, .int (zi 1), .int (zi (tB (G0 237) (G0 230 8) x.1 + k))] [] G F n (fun o G' F' n' => o = .inl (some (.int (zi (zb (pAre (G0 237) (G0 230 8) x))))) ∧ G' = G ∧ F' = F ∧ n' = n) := by
  intro d
  induction d with
  | zero =>
    intro k hd hjj hn
    exact absurd hd (by omega)
  | succ d ih =>
    intro k hd hjj hn
    obtain ⟨hBG, e37, e8⟩ := zPS_ba hS
    obtain ⟨hB, hx, hw, ⟨a1, a2, a3, a4, a5⟩, ⟨w1, w2, w3⟩, hk, hj, hf⟩ := id hS
    have hb := tB_rng (T := G0 237) hx.2
    have he := tE_rng (T := G0 237) hx.2
    obtain ⟨v1, v2⟩ := tV_rng (T := G0 237) hx.2
    obtain ⟨k1, k2⟩ := tK_rng (T := G0 237) (n := G0 230 8) (p := x.1)
    obtain ⟨n1, n2⟩ := hB.1
    refine zs_iload (ip' := 22) rfl rfl rfl ?_
    refine zs_aload (ip' := 23) rfl rfl rfl ?_
    refine zs_getI (ip' := 24) rfl rfl (by omega) zsh_230 rfl (q := 15) rfl ?_
    intro hl23 hu23
    rw [a1] at hl23 hu23 ⊢
    refine zs_icmp_ge (t := 39) (ip' := 25) rfl rfl (by omega) (by omega) ?_ ?_
    · intro h24
      refine zs_iload (ip' := 40) rfl rfl rfl ?_
      refine zW_0b rfl (Or.inr rfl) ?_
      exact zfin (zb_t ⟨h1, by rw [zfst_no _ (fun j j0 j1 => hn j j0 (by omega))]; decide⟩).symm
    · intro h24
      refine zs_iload (ip' := 26) rfl rfl rfl ?_
      refine zs_if_eq (t := 39) (ip' := 27) rfl rfl (by omega) ?_ ?_
      · intro h26
        exact absurd h26 (by decide)
      · intro h26
        refine zs_aload (ip' := 28) rfl rfl rfl ?_
        refine zs_getR (ip' := 29) rfl rfl (r := 237) (by omega) zsh_230 rfl ?_
        refine zs_iload (ip' := 30) rfl rfl rfl ?_
        refine zs_iald (ip' := 31) rfl rfl (by omega) zsh_237 (by omega) ?_
        intro hl30 hu30
        rw [e37] at hl30 hu30 ⊢
        refine zW_cP (ip' := 32) rfl rfl (cM_cellOf (by omega)) rfl rfl rfl ?_
        have hc1 : -1 ≤ pCell (G0 237 (tB (G0 237) (G0 230 8) x.1 + k)) ∧ pCell (G0 237 (tB (G0 237) (G0 230 8) x.1 + k)) ≤ 13 := by unfold pCell; (repeat' split) <;> omega
        refine zs_if_lt (t := 35) (ip' := 33) rfl rfl (by omega) ?_ ?_
        · intro h32
          refine zs_pushI (ip' := 36) rfl rfl zi_k0 ?_
          refine zs_istore1 (ip' := 37) rfl rfl ?_
          refine zs_iinc2 (ip' := 38) rfl rfl zi_k1 ?_
          refine zs_goto (t := 21) rfl ?_
          refine cM_are0 hN (by omega) ?_
          exact zfin (zb_f (fun q => by have := zfst_ex (p := fun j => pCell (G0 237 (tB (G0 237) (G0 230 8) x.1 + j)) < 0) (tE (G0 237) (G0 230 8) x.1 - tB (G0 237) (G0 230 8) x.1).toNat k (by omega) (by omega) h32; omega)).symm
        · intro h32
          refine zs_pushI (ip' := 34) rfl rfl zi_k1 ?_
          refine zs_goto (t := 36) rfl ?_
          refine zs_istore1 (ip' := 37) rfl rfl ?_
          refine zs_iinc2 (ip' := 38) rfl rfl zi_k1 ?_
          refine zs_goto (t := 21) rfl ?_
          have := ih (k + 1) (by omega) (by omega) (fun j j0 j1 => if e : j < k then hn j j0 e else by rw [show j = (k : Int) by omega]; omega)
          rw [show tB (G0 237) (G0 230 8) x.1 + ((k + 1 : Nat) : Int) = tB (G0 237) (G0 230 8) x.1 + (k : Int) + 1 by omega] at this
          exact this
theorem cM_areCells {N : Nat} (hN : 241 ≤ N) {G0 F0 G F : GM} {n : Nat} {x : zTx} (hS : zPS G0 F0 x G F) : zPu N 55 [.ref 230] (zb (pAre (G0 237) (G0 230 8) x)) G F n := by
  obtain ⟨hBG, e37, e8⟩ := zPS_ba hS
  obtain ⟨hB, hx, hw, ⟨a1, a2, a3, a4, a5⟩, ⟨w1, w2, w3⟩, hk, hj, hf⟩ := id hS
  have hb := tB_rng (T := G0 237) hx.2
  have he := tE_rng (T := G0 237) hx.2
  obtain ⟨v1, v2⟩ := tV_rng (T := G0 237) hx.2
  obtain ⟨k1, k2⟩ := tK_rng (T := G0 237) (n := G0 230 8) (p := x.1)
  obtain ⟨n1, n2⟩ := hB.1
  refine zPu_i (L0 := [.ref 230, .null, .null]) rfl ?_
  refine zs_aload (ip' := 1) rfl rfl rfl ?_
  refine zs_getI (ip' := 2) rfl rfl (by omega) zsh_230 rfl (q := 17) rfl ?_
  intro hl1 hu1
  rw [a3] at hl1 hu1 ⊢
  refine zs_pushI (ip' := 3) rfl rfl zi_k1 ?_
  refine zs_icmp_ne (t := 16) (ip' := 4) rfl rfl (by omega) (by omega) ?_ ?_
  · intro h3
    refine zs_pushI (ip' := 17) rfl rfl zi_k0 ?_
    refine zs_istore1 (ip' := 18) rfl rfl ?_
    refine zs_aload (ip' := 19) rfl rfl rfl ?_
    refine zs_getI (ip' := 20) rfl rfl (by omega) zsh_230 rfl (q := 16) rfl ?_
    intro hl19 hu19
    rw [a2] at hl19 hu19 ⊢
    refine zs_istore2 (ip' := 21) rfl rfl ?_
    refine cM_are0 hN (by omega) ?_
    exact zfin (zb_f (fun q => h3 q.1.1)).symm
  · intro h3
    refine zs_aload (ip' := 5) rfl rfl rfl ?_
    refine zs_getI (ip' := 6) rfl rfl (by omega) zsh_230 rfl (q := 15) rfl ?_
    intro hl5 hu5
    rw [a1] at hl5 hu5 ⊢
    refine zs_aload (ip' := 7) rfl rfl rfl ?_
    refine zs_getI (ip' := 8) rfl rfl (by omega) zsh_230 rfl (q := 16) rfl ?_
    intro hl7 hu7
    rw [a2] at hl7 hu7 ⊢
    refine zs_isub (ip' := 9) rfl rfl ?_
    refine zs_aload (ip' := 10) rfl rfl rfl ?_
    refine zs_getR (ip' := 11) rfl rfl (r := 232) (by omega) zsh_230 rfl ?_
    refine zs_pushI (ip' := 12) rfl rfl zi_k0 ?_
    refine zs_iald (ip' := 13) rfl rfl (by omega) zsh_232 (by omega) ?_
    intro hl12 hu12
    rw [w3] at hl12 hu12 ⊢
    refine zs_icmp_ne (t := 16) (ip' := 14) rfl rfl (by omega) (by omega) ?_ ?_
    · intro h13
      refine zs_pushI (ip' := 17) rfl rfl zi_k0 ?_
      refine zs_istore1 (ip' := 18) rfl rfl ?_
      refine zs_aload (ip' := 19) rfl rfl rfl ?_
      refine zs_getI (ip' := 20) rfl rfl (by omega) zsh_230 rfl (q := 16) rfl ?_
      intro hl19 hu19
      rw [a2] at hl19 hu19 ⊢
      refine zs_istore2 (ip' := 21) rfl rfl ?_
      refine cM_are0 hN (by omega) ?_
      exact zfin (zb_f (fun q => h13 q.1.2)).symm
    · intro h13
      refine zs_pushI (ip' := 15) rfl rfl zi_k1 ?_
      refine zs_goto (t := 17) rfl ?_
      refine zs_istore1 (ip' := 18) rfl rfl ?_
      refine zs_aload (ip' := 19) rfl rfl rfl ?_
      refine zs_getI (ip' := 20) rfl rfl (by omega) zsh_230 rfl (q := 16) rfl ?_
      intro hl19 hu19
      rw [a2] at hl19 hu19 ⊢
      refine zs_istore2 (ip' := 21) rfl rfl ?_
      have := cM_are_l (n := n) hN hS ⟨h3, h13⟩ ((tE (G0 237) (G0 230 8) x.1 - tB (G0 237) (G0 230 8) x.1).toNat + 1) 0 (by omega) (by omega) (fun j j0 j1 => by omega)
      rw [show tB (G0 237) (G0 230 8) x.1 + ((0 : Nat) : Int) = tB (G0 237) (G0 230 8) x.1 by omega] at this
      exact this
