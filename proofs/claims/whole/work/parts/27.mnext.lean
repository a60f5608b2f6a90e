/-! The reference model: the next token (printed by wip/whole/src27.py). -/
theorem zcmp_rng (a b : Int) : -1 ≤ zcmp a b ∧ zcmp a b ≤ 1 ∧ (zcmp a b = 0 ↔ a = b) := by
  unfold zcmp
  split
  · omega
  · split <;> omega
/-- the text: its length, its bytes -/
def zBa (G : GM) : Prop := (0 ≤ G 230 8 ∧ G 230 8 ≤ 800) ∧ ∀ j, 0 ≤ j → j < G 230 8 → 0 ≤ G 237 j ∧ G 237 j ≤ 255
/-- the next token is read -/
def zNx (G F : GM) (p : Int) (G' F' : GM) : Prop := (G' 230 15 = tE (G 237) (G 230 8) p ∧ G' 230 16 = tB (G 237) (G 230 8) p ∧ G' 230 17 = tK (G 237) (G 230 8) p ∧ G' 230 18 = tV (G 237) (G 230 8) p ∧ F' 230 19 = tW (G 237) (G 230 8) p) ∧
  (∀ k, k ≠ 230 → G' k = G k) ∧ (∀ j, j ≠ 15 → j ≠ 16 → j ≠ 17 → j ≠ 18 → G' 230 j = G 230 j) ∧ (∀ k, k ≠ 230 → F' k = F k)
def zPS (G0 F0 : GM) (x : zTx) (G F : GM) : Prop := zBa G0 ∧ (0 ≤ x.1 ∧ x.1 ≤ G0 230 8) ∧ (x.2.1 = 0 ∨ x.2.1 = 1) ∧
  (G 230 15 = tE (G0 237) (G0 230 8) x.1 ∧ G 230 16 = tB (G0 237) (G0 230 8) x.1 ∧ G 230 17 = tK (G0 237) (G0 230 8) x.1 ∧ G 230 18 = tV (G0 237) (G0 230 8) x.1 ∧ F 230 19 = tW (G0 237) (G0 230 8) x.1) ∧
  (G 230 20 = x.2.1 ∧ G 230 9 = x.2.2.1 ∧ G 232 = x.2.2.2) ∧ (∀ k, k ≠ 230 → k ≠ 232 → G k = G0 k) ∧ (∀ j, j ≠ 9 → j ≠ 15 → j ≠ 16 → j ≠ 17 → j ≠ 18 → j ≠ 20 → G 230 j = G0 230 j) ∧ (∀ k, k ≠ 230 → F k = F0 k)
theorem cM_isSmall {N : Nat} {G F : GM} {n : Nat} (hN : 241 ≤ N) (hB : zBa G) {c : Int} (hc : 0 ≤ c ∧ c ≤ 800) : zPu N 46 [.ref 230, .int (zi c)] (zb (c < G 230 8 ∧ tSm (G 237) c)) G F n := by
  refine zPu_i (L0 := [.ref 230, .int (zi c)]) rfl ?_
  obtain ⟨⟨b1, b2⟩, b3⟩ := hB
  refine zs_iload (ip' := 1) rfl rfl rfl ?_
  refine zs_aload (ip' := 2) rfl rfl rfl ?_
  refine zs_getI (ip' := 3) rfl rfl (by omega) zsh_230 rfl (q := 8) rfl ?_
  intro hl2 hu2
  refine zs_icmp_ge (t := 18) (ip' := 4) rfl rfl (by omega) (by omega) ?_ ?_
  · intro h3
    refine zs_pushI (ip' := 19) rfl rfl zi_k0 ?_
    refine zW_0b rfl (Or.inl rfl) ?_
    exact zfin (zb_f (fun h => by have := h.1; omega)).symm
  · intro h3
    refine zs_aload (ip' := 5) rfl rfl rfl ?_
    refine zs_getR (ip' := 6) rfl rfl (r := 237) (by omega) zsh_230 rfl ?_
    refine zs_iload (ip' := 7) rfl rfl rfl ?_
    refine zs_iald (ip' := 8) rfl rfl (by omega) zsh_237 (by omega) ?_
    intro hl7 hu7
    refine zs_pushI (ip' := 9) rfl rfl zi_k97 ?_
    refine zs_icmp_lt (t := 18) (ip' := 10) rfl rfl (by omega) (by omega) ?_ ?_
    · intro h9
      refine zs_pushI (ip' := 19) rfl rfl zi_k0 ?_
      refine zW_0b rfl (Or.inl rfl) ?_
      exact zfin (zb_f (fun h => by have := h.2.1; omega)).symm
    · intro h9
      refine zs_aload (ip' := 11) rfl rfl rfl ?_
      refine zs_getR (ip' := 12) rfl rfl (r := 237) (by omega) zsh_230 rfl ?_
      refine zs_iload (ip' := 13) rfl rfl rfl ?_
      refine zs_iald (ip' := 14) rfl rfl (by omega) zsh_237 (by omega) ?_
      intro hl13 hu13
      refine zs_pushI (ip' := 15) rfl rfl zi_k122 ?_
      refine zs_icmp_gt (t := 18) (ip' := 16) rfl rfl (by omega) (by omega) ?_ ?_
      · intro h15
        refine zs_pushI (ip' := 19) rfl rfl zi_k0 ?_
        refine zW_0b rfl (Or.inl rfl) ?_
        exact zfin (zb_f (fun h => by have := h.2.2; omega)).symm
      · intro h15
        refine zs_pushI (ip' := 17) rfl rfl zi_k1 ?_
        refine zs_goto (t := 19) rfl ?_
        refine zW_0b rfl (Or.inr rfl) ?_
        exact zfin (zb_t ⟨by omega, by omega, by omega⟩).symm
theorem cM_isDigit {N : Nat} {G F : GM} {n : Nat} (hN : 241 ≤ N) (hB : zBa G) {c : Int} (hc : 0 ≤ c ∧ c ≤ 800) : zPu N 47 [.ref 230, .int (zi c)] (zb (c < G 230 8 ∧ tDg (G 237) c)) G F n := by
  refine zPu_i (L0 := [.ref 230, .int (zi c)]) rfl ?_
  obtain ⟨⟨b1, b2⟩, b3⟩ := hB
  refine zs_iload (ip' := 1) rfl rfl rfl ?_
  refine zs_aload (ip' := 2) rfl rfl rfl ?_
  refine zs_getI (ip' := 3) rfl rfl (by omega) zsh_230 rfl (q := 8) rfl ?_
  intro hl2 hu2
  refine zs_icmp_ge (t := 18) (ip' := 4) rfl rfl (by omega) (by omega) ?_ ?_
  · intro h3
    refine zs_pushI (ip' := 19) rfl rfl zi_k0 ?_
    refine zW_0b rfl (Or.inl rfl) ?_
    exact zfin (zb_f (fun h => by have := h.1; omega)).symm
  · intro h3
    refine zs_aload (ip' := 5) rfl rfl rfl ?_
    refine zs_getR (ip' := 6) rfl rfl (r := 237) (by omega) zsh_230 rfl ?_
    refine zs_iload (ip' := 7) rfl rfl rfl ?_
    refine zs_iald (ip' := 8) rfl rfl (by omega) zsh_237 (by omega) ?_
    intro hl7 hu7
    refine zs_pushI (ip' := 9) rfl rfl zi_k48 ?_
    refine zs_icmp_lt (t := 18) (ip' := 10) rfl rfl (by omega) (by omega) ?_ ?_
    · intro h9
      refine zs_pushI (ip' := 19) rfl rfl zi_k0 ?_
      refine zW_0b rfl (Or.inl rfl) ?_
      exact zfin (zb_f (fun h => by have := h.2.1; omega)).symm
    · intro h9
      refine zs_aload (ip' := 11) rfl rfl rfl ?_
      refine zs_getR (ip' := 12) rfl rfl (r := 237) (by omega) zsh_230 rfl ?_
      refine zs_iload (ip' := 13) rfl rfl rfl ?_
      refine zs_iald (ip' := 14) rfl rfl (by omega) zsh_237 (by omega) ?_
      intro hl13 hu13
      refine zs_pushI (ip' := 15) rfl rfl zi_k57 ?_
      refine zs_icmp_gt (t := 18) (ip' := 16) rfl rfl (by omega) (by omega) ?_ ?_
      · intro h15
        refine zs_pushI (ip' := 19) rfl rfl zi_k0 ?_
        refine zW_0b rfl (Or.inl rfl) ?_
        exact zfin (zb_f (fun h => by have := h.2.2; omega)).symm
      · intro h15
        refine zs_pushI (ip' := 17) rfl rfl zi_k1 ?_
        refine zs_goto (t := 19) rfl ?_
        refine zW_0b rfl (Or.inr rfl) ?_
        exact zfin (zb_t ⟨by omega, by omega, by omega⟩).symm
theorem cM_nextWord_l {N : Nat} {G F : GM} {n : Nat} (hN : 241 ≤ N) {G1 F1 : GM} (hB : zBa G1) {b e : Int} (hb : 0 ≤ b) (h16 : G1 230 16 = b) : ∀ (d : Nat) (k : Nat), G1 230 8 - (b + k) < (d : Int) → b + (k : Int) ≤ G1 230 8 → (∀ j, b ≤ j → j < b + k → tSm (G1 237) j) → zrun (tSm (G1 237)) (G1 230 8) (b + k) = e → zW N 49 0 [.ref 230] [] (zk G1 230 (zp (G1 230) 15 (b + (k : Int)))) (zk F1 230 (zp (F1 230) 19 (tWr (G1 237) b k))) n (zV fun G' F' n' => G' = zk G1 230 (zp (zp (G1 230) 15 e) 17 1) ∧ F' = zk F1 230 (zp (F1 230) 19 (tWr (G1 237) b (e - b).toNat)) ∧ n' = n) := by
  intro d
  induction d with
  | zero =>
    intro k hd hj hs he
    exact absurd hd (by omega)
  | succ d ih =>
    intro k hd hj hs he
    obtain ⟨⟨b1, b2⟩, b3⟩ := id hB
    obtain ⟨w1, w2, -⟩ := tWr_rng (T := G1 237) b k hs
    have r8 : zk G1 230 (zp (G1 230) 15 (b + (k : Int))) 230 8 = G1 230 8 := by rw [zk_eq, zp_ne (by decide)]
    have r15 : zk G1 230 (zp (G1 230) 15 (b + (k : Int))) 230 15 = b + k := by rw [zk_eq, zp_eq]
    have r16 : zk G1 230 (zp (G1 230) 15 (b + (k : Int))) 230 16 = b := by rw [zk_eq, zp_ne (by decide), h16]
    have r37 : zk G1 230 (zp (G1 230) 15 (b + (k : Int))) 237 = G1 237 := rfl
    have hB2 : zBa (zk G1 230 (zp (G1 230) 15 (b + (k : Int)))) := by unfold zBa; rw [r8, r37]; exact hB
    have q19 : zk F1 230 (zp (F1 230) 19 (tWr (G1 237) b k)) 230 19 = tWr (G1 237) b k := by rw [zk_eq, zp_eq]
    refine zs_aload (ip' := 1) rfl rfl rfl ?_
    refine zs_aload (ip' := 2) rfl rfl rfl ?_
    refine zs_getI (ip' := 3) rfl rfl (by omega) zsh_230 rfl (q := 15) rfl ?_
    intro hl2 hu2
    rw [r15] at hl2 hu2 ⊢
    refine zW_cP (ip' := 4) rfl rfl (cM_isSmall hN hB2 (by omega)) rfl rfl (z_ok3 (by omega) zsh_230 rfl rfl rfl) ?_
    rw [r8, r37]
    refine zs_if_eqB (t := 34) (ip' := 5) rfl rfl ?_ ?_
    · intro h4
      refine zs_aload (ip' := 35) rfl rfl rfl ?_
      refine zs_pushI (ip' := 36) rfl rfl zi_k1 ?_
      refine zs_putI (ip' := 37) rfl rfl (by omega) zsh_230 rfl (q := 17) rfl (by omega) ?_
      rw [zk_eq, zk_zk]
      refine zW_1 rfl ?_
      have e1 : e = b + k := by
        rw [← he]
        exact zrun_e (by
          by_cases q : b + (k : Int) < G1 230 8
          · exact Or.inr (fun hh => h4 ⟨q, hh⟩)
          · exact Or.inl (by omega))
      exact ⟨rfl, by rw [e1], by rw [e1, show (b + (k : Int) - b).toNat = k by omega], rfl⟩
    · intro h4
      obtain ⟨h4a, h4b, h4c⟩ := h4
      have hs2 : ∀ j, b ≤ j → j < b + ((k + 1 : Nat) : Int) → tSm (G1 237) j := fun j j0 j1 => by
        by_cases e1 : j < b + k
        · exact hs j j0 e1
        · rw [show j = b + k by omega]
          exact ⟨h4b, h4c⟩
      have he2 : zrun (tSm (G1 237)) (G1 230 8) (b + ((k + 1 : Nat) : Int)) = e := by
        rw [show b + ((k + 1 : Nat) : Int) = b + k + 1 by omega, ← zrun_s h4a ⟨h4b, h4c⟩]
        exact he
      obtain ⟨w3, w4, -⟩ := tWr_rng (T := G1 237) b (k + 1) hs2
      refine zs_aload (ip' := 6) rfl rfl rfl ?_
      refine zs_getI (ip' := 7) rfl rfl (by omega) zsh_230 rfl (q := 15) rfl ?_
      intro hl6 hu6
      rw [r15] at hl6 hu6 ⊢
      refine zs_aload (ip' := 8) rfl rfl rfl ?_
      refine zs_getI (ip' := 9) rfl rfl (by omega) zsh_230 rfl (q := 16) rfl ?_
      intro hl8 hu8
      rw [r16] at hl8 hu8 ⊢
      refine zs_isub (ip' := 10) rfl rfl ?_
      refine zs_pushI (ip' := 11) rfl rfl zi_k10 ?_
      refine zs_icmp_ge (t := 27) (ip' := 12) rfl rfl (by omega) (by omega) ?_ ?_
      · intro h11
        have e3 : tWr (G1 237) b (k + 1) = tWr (G1 237) b k := if_neg (by omega)
        refine zs_aload (ip' := 28) rfl rfl rfl ?_
        refine zs_dupR (ip' := 29) rfl rfl ?_
        refine zs_getI (ip' := 30) rfl rfl (by omega) zsh_230 rfl (q := 15) rfl ?_
        intro hl29 hu29
        rw [r15] at hl29 hu29 ⊢
        refine zs_pushI (ip' := 31) rfl rfl zi_k1 ?_
        refine zs_iadd (ip' := 32) rfl rfl ?_
        refine zs_putI (ip' := 33) rfl rfl (by omega) zsh_230 rfl (q := 15) rfl (by omega) ?_
        rw [zk_eq, zp_zp, zk_zk, Int.add_assoc]
        refine zs_goto (t := 0) rfl ?_
        have := ih (k + 1) (by omega) (by omega) hs2 he2
        rw [e3] at this
        exact this
      · intro h11
        have e3 : tWr (G1 237) b (k + 1) = 27 * tWr (G1 237) b k + G1 237 (b + k) - 96 := if_pos (by omega)
        refine zs_aload (ip' := 13) rfl rfl rfl ?_
        refine zs_pushJ (ip' := 14) rfl rfl zl_k27 ?_
        refine zs_aload (ip' := 15) rfl rfl rfl ?_
        refine zs_getJ (ip' := 16) rfl rfl (by omega) zsh_230 rfl (q := 19) rfl ?_
        intro hl15 hu15
        rw [q19] at hl15 hu15 ⊢
        refine zs_lmul (ip' := 17) rfl rfl ?_
        refine zs_aload (ip' := 18) rfl rfl rfl ?_
        refine zs_getR (ip' := 19) rfl rfl (r := 237) (by omega) zsh_230 rfl ?_
        refine zs_aload (ip' := 20) rfl rfl rfl ?_
        refine zs_getI (ip' := 21) rfl rfl (by omega) zsh_230 rfl (q := 15) rfl ?_
        intro hl20 hu20
        rw [r15] at hl20 hu20 ⊢
        refine zs_iald (ip' := 22) rfl rfl (by omega) zsh_237 (by omega) ?_
        intro hl21 hu21
        rw [r37] at hl21 hu21 ⊢
        refine zs_i2l (ip' := 23) rfl rfl (by omega) ?_
        refine zs_ladd (ip' := 24) rfl rfl ?_
        refine zs_pushJ (ip' := 25) rfl rfl zl_k96 ?_
        refine zs_lsub (ip' := 26) rfl rfl ?_
        refine zs_putJ (ip' := 27) rfl rfl (by omega) zsh_230 rfl (q := 19) rfl (by omega) ?_
        rw [zk_eq, zp_zp, zk_zk]
        refine zs_aload (ip' := 28) rfl rfl rfl ?_
        refine zs_dupR (ip' := 29) rfl rfl ?_
        refine zs_getI (ip' := 30) rfl rfl (by omega) zsh_230 rfl (q := 15) rfl ?_
        intro hl29 hu29
        rw [r15] at hl29 hu29 ⊢
        refine zs_pushI (ip' := 31) rfl rfl zi_k1 ?_
        refine zs_iadd (ip' := 32) rfl rfl ?_
        refine zs_putI (ip' := 33) rfl rfl (by omega) zsh_230 rfl (q := 15) rfl (by omega) ?_
        rw [zk_eq, zp_zp, zk_zk, Int.add_assoc]
        refine zs_goto (t := 0) rfl ?_
        have := ih (k + 1) (by omega) (by omega) hs2 he2
        rw [e3] at this
        exact this
theorem cM_nextWord {N : Nat} {G F : GM} {n : Nat} (hN : 241 ≤ N) (hB : zBa G) {b : Int} (hb : 0 ≤ b ∧ b ≤ G 230 8) (h15 : G 230 15 = b) (h16 : G 230 16 = b) (h19 : F 230 19 = 0) : zC N 49 [.ref 230] G F n (zV fun G' F' n' => G' = zk G 230 (zp (zp (G 230) 15 (zrun (tSm (G 237)) (G 230 8) b)) 17 1) ∧ F' = zk F 230 (zp (F 230) 19 (tWr (G 237) b (zrun (tSm (G 237)) (G 230 8) b - b).toNat)) ∧ n' = n) := by
  refine zC_i (L0 := [.ref 230]) rfl ?_
  have := cM_nextWord_l (G := G) (F := F) (n := n) (G1 := G) (F1 := F) hN hB (e := zrun (tSm (G 237)) (G 230 8) b) hb.1 h16 ((G 230 8 - b).toNat + 1) 0 (by omega) (by omega) (fun j j0 j1 => by omega) (by rw [show b + ((0 : Nat) : Int) = b by omega])
  rw [show b + ((0 : Nat) : Int) = G 230 15 by omega, zp_self, zk_self, show tWr (G 237) b 0 = F 230 19 from h19.symm, zp_self, zk_self] at this
  exact this
theorem cM_nextNumber_l {N : Nat} {G F : GM} {n : Nat} (hN : 241 ≤ N) {G1 : GM} (hB : zBa G1) {b e : Int} (hb : 0 ≤ b) (h16 : G1 230 16 = b) : ∀ (d : Nat) (k : Nat), G1 230 8 - (b + k) < (d : Int) → b + (k : Int) ≤ G1 230 8 → (∀ j, b ≤ j → j < b + k → tDg (G1 237) j) → zrun (tDg (G1 237)) (G1 230 8) (b + k) = e → zW N 50 0 [.ref 230] [] (zk G1 230 (zp (zp (G1 230) 18 (tVr (G1 237) b k)) 15 (b + (k : Int)))) F n (zV fun G' F' n' => G' = zk G1 230 (zp (zp (zp (G1 230) 18 (tVr (G1 237) b (e - b).toNat)) 15 e) 17 (if 3 < e - b then 4 else 2)) ∧ F' = F ∧ n' = n) := by
  intro d
  induction d with
  | zero =>
    intro k hd hj hs he
    exact absurd hd (by omega)
  | succ d ih =>
    intro k hd hj hs he
    obtain ⟨⟨b1, b2⟩, b3⟩ := id hB
    obtain ⟨w1, w2, -⟩ := tVr_rng (T := G1 237) b k hs
    have r8 : zk G1 230 (zp (zp (G1 230) 18 (tVr (G1 237) b k)) 15 (b + (k : Int))) 230 8 = G1 230 8 := by rw [zk_eq, zp_ne (by decide), zp_ne (by decide)]
    have r15 : zk G1 230 (zp (zp (G1 230) 18 (tVr (G1 237) b k)) 15 (b + (k : Int))) 230 15 = b + k := by rw [zk_eq, zp_eq]
    have r16 : zk G1 230 (zp (zp (G1 230) 18 (tVr (G1 237) b k)) 15 (b + (k : Int))) 230 16 = b := by rw [zk_eq, zp_ne (by decide), zp_ne (by decide), h16]
    have r18 : zk G1 230 (zp (zp (G1 230) 18 (tVr (G1 237) b k)) 15 (b + (k : Int))) 230 18 = tVr (G1 237) b k := by rw [zk_eq, zp_ne (by decide), zp_eq]
    have r37 : zk G1 230 (zp (zp (G1 230) 18 (tVr (G1 237) b k)) 15 (b + (k : Int))) 237 = G1 237 := rfl
    have hB2 : zBa (zk G1 230 (zp (zp (G1 230) 18 (tVr (G1 237) b k)) 15 (b + (k : Int)))) := by unfold zBa; rw [r8, r37]; exact hB
    refine zs_aload (ip' := 1) rfl rfl rfl ?_
    refine zs_aload (ip' := 2) rfl rfl rfl ?_
    refine zs_getI (ip' := 3) rfl rfl (by omega) zsh_230 rfl (q := 15) rfl ?_
    intro hl2 hu2
    rw [r15] at hl2 hu2 ⊢
    refine zW_cP (ip' := 4) rfl rfl (cM_isDigit hN hB2 (by omega)) rfl rfl (z_ok3 (by omega) zsh_230 rfl rfl rfl) ?_
    rw [r8, r37]
    refine zs_if_eqB (t := 33) (ip' := 5) rfl rfl ?_ ?_
    · intro h4
      refine zs_aload (ip' := 34) rfl rfl rfl ?_
      refine zs_aload (ip' := 35) rfl rfl rfl ?_
      refine zs_getI (ip' := 36) rfl rfl (by omega) zsh_230 rfl (q := 15) rfl ?_
      intro hl35 hu35
      rw [r15] at hl35 hu35 ⊢
      refine zs_aload (ip' := 37) rfl rfl rfl ?_
      refine zs_getI (ip' := 38) rfl rfl (by omega) zsh_230 rfl (q := 16) rfl ?_
      intro hl37 hu37
      rw [r16] at hl37 hu37 ⊢
      refine zs_isub (ip' := 39) rfl rfl ?_
      refine zs_pushI (ip' := 40) rfl rfl zi_k3 ?_
      refine zs_icmp_le (t := 43) (ip' := 41) rfl rfl (by omega) (by omega) ?_ ?_
      · intro h40
        have e1 : e = b + k := by
          rw [← he]
          exact zrun_e (by
            by_cases q : b + (k : Int) < G1 230 8
            · exact Or.inr (fun hh => h4 ⟨q, hh⟩)
            · exact Or.inl (by omega))
        refine zs_pushI (ip' := 44) rfl rfl zi_k2 ?_
        refine zs_putI (ip' := 45) rfl rfl (by omega) zsh_230 rfl (q := 17) rfl (by omega) ?_
        refine zW_1 rfl ?_
        exact ⟨rfl, by rw [zk_eq, zk_zk, e1, show (b + (k : Int) - b).toNat = k by omega, if_neg (by omega)], rfl, rfl⟩
      · intro h40
        have e1 : e = b + k := by
          rw [← he]
          exact zrun_e (by
            by_cases q : b + (k : Int) < G1 230 8
            · exact Or.inr (fun hh => h4 ⟨q, hh⟩)
            · exact Or.inl (by omega))
        refine zs_pushI (ip' := 42) rfl rfl zi_k4 ?_
        refine zs_goto (t := 44) rfl ?_
        refine zs_putI (ip' := 45) rfl rfl (by omega) zsh_230 rfl (q := 17) rfl (by omega) ?_
        refine zW_1 rfl ?_
        exact ⟨rfl, by rw [zk_eq, zk_zk, e1, show (b + (k : Int) - b).toNat = k by omega, if_pos (by omega)], rfl, rfl⟩
    · intro h4
      obtain ⟨h4a, h4b, h4c⟩ := h4
      have hs2 : ∀ j, b ≤ j → j < b + ((k + 1 : Nat) : Int) → tDg (G1 237) j := fun j j0 j1 => by
        by_cases e1 : j < b + k
        · exact hs j j0 e1
        · rw [show j = b + k by omega]
          exact ⟨h4b, h4c⟩
      have he2 : zrun (tDg (G1 237)) (G1 230 8) (b + ((k + 1 : Nat) : Int)) = e := by
        rw [show b + ((k + 1 : Nat) : Int) = b + k + 1 by omega, ← zrun_s h4a ⟨h4b, h4c⟩]
        exact he
      obtain ⟨w3, w4, -⟩ := tVr_rng (T := G1 237) b (k + 1) hs2
      refine zs_aload (ip' := 6) rfl rfl rfl ?_
      refine zs_getI (ip' := 7) rfl rfl (by omega) zsh_230 rfl (q := 15) rfl ?_
      intro hl6 hu6
      rw [r15] at hl6 hu6 ⊢
      refine zs_aload (ip' := 8) rfl rfl rfl ?_
      refine zs_getI (ip' := 9) rfl rfl (by omega) zsh_230 rfl (q := 16) rfl ?_
      intro hl8 hu8
      rw [r16] at hl8 hu8 ⊢
      refine zs_isub (ip' := 10) rfl rfl ?_
      refine zs_pushI (ip' := 11) rfl rfl zi_k3 ?_
      refine zs_icmp_ge (t := 26) (ip' := 12) rfl rfl (by omega) (by omega) ?_ ?_
      · intro h11
        have e3 : tVr (G1 237) b (k + 1) = tVr (G1 237) b k := if_neg (by omega)
        refine zs_aload (ip' := 27) rfl rfl rfl ?_
        refine zs_dupR (ip' := 28) rfl rfl ?_
        refine zs_getI (ip' := 29) rfl rfl (by omega) zsh_230 rfl (q := 15) rfl ?_
        intro hl28 hu28
        rw [zk_eq, zp_eq] at hl28 hu28 ⊢
        refine zs_pushI (ip' := 30) rfl rfl zi_k1 ?_
        refine zs_iadd (ip' := 31) rfl rfl ?_
        refine zs_putI (ip' := 32) rfl rfl (by omega) zsh_230 rfl (q := 15) rfl (by omega) ?_
        skip
        refine zs_goto (t := 0) rfl ?_
        have := ih (k + 1) (by omega) (by omega) hs2 he2
        rw [e3] at this
        rw [zk_eq, zp_zp, zk_zk, Int.add_assoc]
        exact this
      · intro h11
        have e3 : tVr (G1 237) b (k + 1) = 10 * tVr (G1 237) b k + G1 237 (b + k) - 48 := if_pos (by omega)
        refine zs_aload (ip' := 13) rfl rfl rfl ?_
        refine zs_pushI (ip' := 14) rfl rfl zi_k10 ?_
        refine zs_aload (ip' := 15) rfl rfl rfl ?_
        refine zs_getI (ip' := 16) rfl rfl (by omega) zsh_230 rfl (q := 18) rfl ?_
        intro hl15 hu15
        rw [r18] at hl15 hu15 ⊢
        refine zs_imul (ip' := 17) rfl rfl ?_
        refine zs_aload (ip' := 18) rfl rfl rfl ?_
        refine zs_getR (ip' := 19) rfl rfl (r := 237) (by omega) zsh_230 rfl ?_
        refine zs_aload (ip' := 20) rfl rfl rfl ?_
        refine zs_getI (ip' := 21) rfl rfl (by omega) zsh_230 rfl (q := 15) rfl ?_
        intro hl20 hu20
        rw [r15] at hl20 hu20 ⊢
        refine zs_iald (ip' := 22) rfl rfl (by omega) zsh_237 (by omega) ?_
        intro hl21 hu21
        rw [r37] at hl21 hu21 ⊢
        refine zs_iadd (ip' := 23) rfl rfl ?_
        refine zs_pushI (ip' := 24) rfl rfl zi_k48 ?_
        refine zs_isub (ip' := 25) rfl rfl ?_
        refine zs_putI (ip' := 26) rfl rfl (by omega) zsh_230 rfl (q := 18) rfl (by omega) ?_
        rw [zk_eq, zp_sw (by decide : (15 : Int) ≠ 18), zp_zp, zk_zk]
        refine zs_aload (ip' := 27) rfl rfl rfl ?_
        refine zs_dupR (ip' := 28) rfl rfl ?_
        refine zs_getI (ip' := 29) rfl rfl (by omega) zsh_230 rfl (q := 15) rfl ?_
        intro hl28 hu28
        rw [zk_eq, zp_eq] at hl28 hu28 ⊢
        refine zs_pushI (ip' := 30) rfl rfl zi_k1 ?_
        refine zs_iadd (ip' := 31) rfl rfl ?_
        refine zs_putI (ip' := 32) rfl rfl (by omega) zsh_230 rfl (q := 15) rfl (by omega) ?_
        skip
        refine zs_goto (t := 0) rfl ?_
        have := ih (k + 1) (by omega) (by omega) hs2 he2
        rw [e3] at this
        rw [zk_eq, zp_zp, zk_zk, Int.add_assoc]
        exact this
theorem cM_nextNumber {N : Nat} {G F : GM} {n : Nat} (hN : 241 ≤ N) (hB : zBa G) {b : Int} (hb : 0 ≤ b ∧ b ≤ G 230 8) (h15 : G 230 15 = b) (h16 : G 230 16 = b) (h18 : G 230 18 = 0) : zC N 50 [.ref 230] G F n (zV fun G' F' n' => G' = zk G 230 (zp (zp (zp (G 230) 18 (tVr (G 237) b (zrun (tDg (G 237)) (G 230 8) b - b).toNat)) 15 (zrun (tDg (G 237)) (G 230 8) b)) 17 (if 3 < zrun (tDg (G 237)) (G 230 8) b - b then 4 else 2)) ∧ F' = F ∧ n' = n) := by
  refine zC_i (L0 := [.ref 230]) rfl ?_
  have := cM_nextNumber_l (G := G) (F := F) (n := n) (G1 := G) hN hB (e := zrun (tDg (G 237)) (G 230 8) b) hb.1 h16 ((G 230 8 - b).toNat + 1) 0 (by omega) (by omega) (fun j j0 j1 => by omega) (by rw [show b + ((0 : Nat) : Int) = b by omega])
  rw [show tVr (G 237) b 0 = G 230 18 from h18.symm, show b + ((0 : Nat) : Int) = G 230 15 by omega, zp_self, zp_self, zk_self] at this
  exact this
theorem cM_next_l {N : Nat} {G F : GM} {n : Nat} (hN : 241 ≤ N) {G1 : GM} (hB : zBa G1) {b : Int} {Q : Zq} (hk : zW N 48 26 [.ref 230] [] (zk G1 230 (zp (G1 230) 15 b)) F n Q) : ∀ (d : Nat) (p : Int), G1 230 8 - p < (d : Int) → (0 ≤ p ∧ p ≤ G1 230 8) → zrun (tBl (G1 237)) (G1 230 8) p = b → zW N 48 0 [.ref 230] [] (zk G1 230 (zp (G1 230) 15 p)) F n Q := by
  intro d
  induction d with
  | zero =>
    intro p hd hj he
    exact absurd hd (by omega)
  | succ d ih =>
    intro p hd hj he
    obtain ⟨⟨b1, b2⟩, b3⟩ := id hB
    have r8 : zk G1 230 (zp (G1 230) 15 p) 230 8 = G1 230 8 := by rw [zk_eq, zp_ne (by decide)]
    have r15 : zk G1 230 (zp (G1 230) 15 p) 230 15 = p := by rw [zk_eq, zp_eq]
    have r37 : zk G1 230 (zp (G1 230) 15 p) 237 = G1 237 := rfl
    refine zs_aload (ip' := 1) rfl rfl rfl ?_
    refine zs_getI (ip' := 2) rfl rfl (by omega) zsh_230 rfl (q := 15) rfl ?_
    intro hl1 hu1
    rw [r15] at hl1 hu1 ⊢
    refine zs_aload (ip' := 3) rfl rfl rfl ?_
    refine zs_getI (ip' := 4) rfl rfl (by omega) zsh_230 rfl (q := 8) rfl ?_
    intro hl3 hu3
    rw [r8] at hl3 hu3 ⊢
    refine zs_icmp_ge (t := 26) (ip' := 5) rfl rfl (by omega) (by omega) ?_ ?_
    · intro h4
      have e : p = b := by
        rw [← he]
        exact (zrun_e (Or.inl h4)).symm
      rw [e]
      exact hk
    · intro h4
      refine zs_aload (ip' := 6) rfl rfl rfl ?_
      refine zs_getR (ip' := 7) rfl rfl (r := 237) (by omega) zsh_230 rfl ?_
      refine zs_aload (ip' := 8) rfl rfl rfl ?_
      refine zs_getI (ip' := 9) rfl rfl (by omega) zsh_230 rfl (q := 15) rfl ?_
      intro hl8 hu8
      rw [r15] at hl8 hu8 ⊢
      refine zs_iald (ip' := 10) rfl rfl (by omega) zsh_237 (by omega) ?_
      intro hl9 hu9
      rw [r37] at hl9 hu9 ⊢
      refine zs_pushI (ip' := 11) rfl rfl zi_k32 ?_
      refine zs_icmp_eq (t := 19) (ip' := 12) rfl rfl (by omega) (by omega) ?_ ?_
      · intro h11
        refine zs_aload (ip' := 20) rfl rfl rfl ?_
        refine zs_dupR (ip' := 21) rfl rfl ?_
        refine zs_getI (ip' := 22) rfl rfl (by omega) zsh_230 rfl (q := 15) rfl ?_
        intro hl21 hu21
        rw [r15] at hl21 hu21 ⊢
        refine zs_pushI (ip' := 23) rfl rfl zi_k1 ?_
        refine zs_iadd (ip' := 24) rfl rfl ?_
        refine zs_putI (ip' := 25) rfl rfl (by omega) zsh_230 rfl (q := 15) rfl (by omega) ?_
        rw [zk_eq, zp_zp, zk_zk]
        refine zs_goto (t := 0) rfl ?_
        exact ih (p + 1) (by omega) (by omega) (by rw [← zrun_s (by omega) (Or.inl h11)]; exact he)
      · intro h11
        refine zs_aload (ip' := 13) rfl rfl rfl ?_
        refine zs_getR (ip' := 14) rfl rfl (r := 237) (by omega) zsh_230 rfl ?_
        refine zs_aload (ip' := 15) rfl rfl rfl ?_
        refine zs_getI (ip' := 16) rfl rfl (by omega) zsh_230 rfl (q := 15) rfl ?_
        intro hl15 hu15
        rw [r15] at hl15 hu15 ⊢
        refine zs_iald (ip' := 17) rfl rfl (by omega) zsh_237 (by omega) ?_
        intro hl16 hu16
        rw [r37] at hl16 hu16 ⊢
        refine zs_pushI (ip' := 18) rfl rfl zi_k10 ?_
        refine zs_icmp_ne (t := 26) (ip' := 19) rfl rfl (by omega) (by omega) ?_ ?_
        · intro h18
          have e : p = b := by
            rw [← he]
            exact (zrun_e (Or.inr (fun q => q.elim h11 h18))).symm
          rw [e]
          exact hk
        · intro h18
          refine zs_aload (ip' := 20) rfl rfl rfl ?_
          refine zs_dupR (ip' := 21) rfl rfl ?_
          refine zs_getI (ip' := 22) rfl rfl (by omega) zsh_230 rfl (q := 15) rfl ?_
          intro hl21 hu21
          rw [r15] at hl21 hu21 ⊢
          refine zs_pushI (ip' := 23) rfl rfl zi_k1 ?_
          refine zs_iadd (ip' := 24) rfl rfl ?_
          refine zs_putI (ip' := 25) rfl rfl (by omega) zsh_230 rfl (q := 15) rfl (by omega) ?_
          rw [zk_eq, zp_zp, zk_zk]
          refine zs_goto (t := 0) rfl ?_
          exact ih (p + 1) (by omega) (by omega) (by rw [← zrun_s (by omega) (Or.inr h18)]; exact he)
theorem cM_next_q {G1 F1 G2 F2 : GM} {n : Nat} {b p v : Int} (hB : zBa G1) (hb : tB (G1 237) (G1 230 8) p = b) (hbr : 0 ≤ b ∧ b ≤ G1 230 8) (r8 : G2 230 8 = G1 230 8) (r15 : G2 230 15 = b) (r16 : G2 230 16 = b) (r18 : G2 230 18 = 0) (r37 : G2 237 = G1 237) (rk : ∀ k, k ≠ 230 → G2 k = G1 k) (rj : ∀ j, j ≠ 15 → j ≠ 16 → j ≠ 18 → G2 230 j = G1 230 j) (r19 : F2 230 19 = 0) (rf : ∀ k, k ≠ 230 → F2 k = F1 k)
    (h40 : ¬ b = G1 230 8) (hs : ¬ tSm (G1 237) b) (hd : ¬ tDg (G1 237) b) (ek : tK (G1 237) (G1 230 8) p = v) : zV (fun G' F' n' => zNx G1 F1 p G' F' ∧ n' = n) (.inl none) (zk (zk G2 230 (zp (G2 230) 17 v)) 230 (zp (zk G2 230 (zp (G2 230) 17 v) 230) 15 (b + 1))) F2 n := by
  rw [zk_eq, zk_zk]
  refine ⟨rfl, ⟨⟨?_, ?_, ?_, ?_, ?_⟩, fun k hk => ?_, fun j j1 j2 j3 j4 => ?_, fun k hk => rf k hk⟩, rfl⟩
  · rw [zk_eq, zp_eq]; unfold tE; rw [hb, if_neg h40, if_neg hs, if_neg hd]
  · rw [zk_eq, zp_ne (by decide), zp_ne (by decide), r16, hb]
  · rw [zk_eq, zp_ne (by decide), zp_eq, ek]
  · rw [zk_eq, zp_ne (by decide), zp_ne (by decide), r18]; unfold tV; rw [hb, if_neg h40, if_neg hs, if_neg hd]
  · rw [r19]; unfold tW; rw [hb, if_neg h40, if_neg hs]
  · rw [zk_ne hk]; exact rk k hk
  · rw [zk_eq, zp_ne j1, zp_ne j3]; exact rj j j1 j2 j4
theorem cM_next_t {N : Nat} {G1 F1 : GM} {n : Nat} (hN : 241 ≤ N) (hB : zBa G1) {b p : Int} (hb : tB (G1 237) (G1 230 8) p = b) (hbr : 0 ≤ b ∧ b ≤ G1 230 8) : zW N 48 26 [.ref 230] [] (zk G1 230 (zp (G1 230) 15 b)) F1 n (zV fun G' F' n' => zNx G1 F1 p G' F' ∧ n' = n) := by
  obtain ⟨⟨b1, b2⟩, b3⟩ := id hB
  refine zs_aload (ip' := 27) rfl rfl rfl ?_
  refine zs_aload (ip' := 28) rfl rfl rfl ?_
  refine zs_getI (ip' := 29) rfl rfl (by omega) zsh_230 rfl (q := 15) rfl ?_
  intro hl28 hu28
  rw [zk_eq, zp_eq] at hl28 hu28 ⊢
  refine zs_putI (ip' := 30) rfl rfl (by omega) zsh_230 rfl (q := 16) rfl (by omega) ?_
  rw [zk_eq, zk_zk]
  refine zs_aload (ip' := 31) rfl rfl rfl ?_
  refine zs_pushI (ip' := 32) rfl rfl zi_k0 ?_
  refine zs_putI (ip' := 33) rfl rfl (by omega) zsh_230 rfl (q := 18) rfl (by omega) ?_
  rw [zk_eq, zk_zk]
  refine zs_aload (ip' := 34) rfl rfl rfl ?_
  refine zs_pushJ (ip' := 35) rfl rfl zl_k0 ?_
  refine zs_putJ (ip' := 36) rfl rfl (by omega) zsh_230 rfl (q := 19) rfl (by omega) ?_
  have r8 : zk G1 230 (zp (zp (zp (G1 230) 15 b) 16 b) 18 0) 230 8 = G1 230 8 := by rw [zk_eq, zp_ne (by decide), zp_ne (by decide), zp_ne (by decide)]
  have r15 : zk G1 230 (zp (zp (zp (G1 230) 15 b) 16 b) 18 0) 230 15 = b := by rw [zk_eq, zp_ne (by decide), zp_ne (by decide), zp_eq]
  have r16 : zk G1 230 (zp (zp (zp (G1 230) 15 b) 16 b) 18 0) 230 16 = b := by rw [zk_eq, zp_ne (by decide), zp_eq]
  have r18 : zk G1 230 (zp (zp (zp (G1 230) 15 b) 16 b) 18 0) 230 18 = 0 := by rw [zk_eq, zp_eq]
  have r37 : zk G1 230 (zp (zp (zp (G1 230) 15 b) 16 b) 18 0) 237 = G1 237 := rfl
  have rk : ∀ k, k ≠ 230 → zk G1 230 (zp (zp (zp (G1 230) 15 b) 16 b) 18 0) k = G1 k := fun k h => zk_ne h
  have rj : ∀ j, j ≠ 15 → j ≠ 16 → j ≠ 18 → zk G1 230 (zp (zp (zp (G1 230) 15 b) 16 b) 18 0) 230 j = G1 230 j := fun j j1 j2 j3 => by rw [zk_eq, zp_ne j3, zp_ne j2, zp_ne j1]
  generalize zk G1 230 (zp (zp (zp (G1 230) 15 b) 16 b) 18 0) = G2 at r8 r15 r16 r18 r37 rk rj ⊢
  have r19 : zk F1 230 (zp (F1 230) 19 0) 230 19 = 0 := by rw [zk_eq, zp_eq]
  have rf : ∀ k, k ≠ 230 → zk F1 230 (zp (F1 230) 19 0) k = F1 k := fun k h => zk_ne h
  generalize zk F1 230 (zp (F1 230) 19 0) = F2 at r19 rf ⊢
  have hB2 : zBa G2 := by unfold zBa; rw [r8, r37]; exact hB
  refine zs_aload (ip' := 37) rfl rfl rfl ?_
  refine zs_getI (ip' := 38) rfl rfl (by omega) zsh_230 rfl (q := 15) rfl ?_
  intro hl37 hu37
  rw [r15] at hl37 hu37 ⊢
  refine zs_aload (ip' := 39) rfl rfl rfl ?_
  refine zs_getI (ip' := 40) rfl rfl (by omega) zsh_230 rfl (q := 8) rfl ?_
  intro hl39 hu39
  rw [r8] at hl39 hu39 ⊢
  refine zs_icmp_ne (t := 45) (ip' := 41) rfl rfl (by omega) (by omega) ?_ ?_
  · intro h40
    refine zs_aload (ip' := 46) rfl rfl rfl ?_
    refine zs_aload (ip' := 47) rfl rfl rfl ?_
    refine zs_getI (ip' := 48) rfl rfl (by omega) zsh_230 rfl (q := 15) rfl ?_
    intro hl47 hu47
    rw [r15] at hl47 hu47 ⊢
    refine zW_cP (ip' := 49) rfl rfl (cM_isSmall hN hB2 (by omega)) rfl rfl (z_ok3 (by omega) zsh_230 rfl rfl rfl) ?_
    rw [r8, r37]
    refine zs_if_eqB (t := 53) (ip' := 50) rfl rfl ?_ ?_
    · intro h49
      refine zs_aload (ip' := 54) rfl rfl rfl ?_
      refine zs_aload (ip' := 55) rfl rfl rfl ?_
      refine zs_getI (ip' := 56) rfl rfl (by omega) zsh_230 rfl (q := 15) rfl ?_
      intro hl55 hu55
      rw [r15] at hl55 hu55 ⊢
      refine zW_cP (ip' := 57) rfl rfl (cM_isDigit hN hB2 (by omega)) rfl rfl (z_ok3 (by omega) zsh_230 rfl rfl rfl) ?_
      rw [r8, r37]
      refine zs_if_eqB (t := 61) (ip' := 58) rfl rfl ?_ ?_
      · intro h57
        refine zs_aload (ip' := 62) rfl rfl rfl ?_
        refine zs_aload (ip' := 63) rfl rfl rfl ?_
        refine zs_getR (ip' := 64) rfl rfl (r := 237) (by omega) zsh_230 rfl ?_
        refine zs_aload (ip' := 65) rfl rfl rfl ?_
        refine zs_getI (ip' := 66) rfl rfl (by omega) zsh_230 rfl (q := 15) rfl ?_
        intro hl65 hu65
        rw [r15] at hl65 hu65 ⊢
        refine zs_iald (ip' := 67) rfl rfl (by omega) zsh_237 (by omega) ?_
        intro hl66 hu66
        rw [r37] at hl66 hu66 ⊢
        refine zs_pushI (ip' := 68) rfl rfl zi_k59 ?_
        refine zs_icmp_ne (t := 71) (ip' := 69) rfl rfl (by omega) (by omega) ?_ ?_
        · intro h68
          refine zs_pushI (ip' := 72) rfl rfl zi_k4 ?_
          refine zs_putI (ip' := 73) rfl rfl (by omega) zsh_230 rfl (q := 17) rfl (by omega) ?_
          refine zs_aload (ip' := 74) rfl rfl rfl ?_
          refine zs_dupR (ip' := 75) rfl rfl ?_
          refine zs_getI (ip' := 76) rfl rfl (by omega) zsh_230 rfl (q := 15) rfl ?_
          intro hl75 hu75
          rw [zk_eq, zp_ne (by decide), r15] at hl75 hu75 ⊢
          refine zs_pushI (ip' := 77) rfl rfl zi_k1 ?_
          refine zs_iadd (ip' := 78) rfl rfl ?_
          refine zs_putI (ip' := 79) rfl rfl (by omega) zsh_230 rfl (q := 15) rfl (by omega) ?_
          refine zW_1 rfl ?_
          have ek : tK (G1 237) (G1 230 8) p = 4 := (congrArg (fun z => z) (show tK (G1 237) (G1 230 8) p = _ from if_neg (by rw [hb]; exact h40))).trans ((if_neg (by rw [hb]; exact fun q => h49 ⟨by omega, q⟩)).trans ((if_neg (by rw [hb]; exact fun q => h57 ⟨by omega, q⟩)).trans (if_neg (by rw [hb]; exact h68))))
          exact cM_next_q hB hb hbr r8 r15 r16 r18 r37 rk rj r19 rf h40 (fun q => h49 ⟨by omega, q⟩) (fun q => h57 ⟨by omega, q⟩) ek
        · intro h68
          refine zs_pushI (ip' := 70) rfl rfl zi_k3 ?_
          refine zs_goto (t := 72) rfl ?_
          refine zs_putI (ip' := 73) rfl rfl (by omega) zsh_230 rfl (q := 17) rfl (by omega) ?_
          refine zs_aload (ip' := 74) rfl rfl rfl ?_
          refine zs_dupR (ip' := 75) rfl rfl ?_
          refine zs_getI (ip' := 76) rfl rfl (by omega) zsh_230 rfl (q := 15) rfl ?_
          intro hl75 hu75
          rw [zk_eq, zp_ne (by decide), r15] at hl75 hu75 ⊢
          refine zs_pushI (ip' := 77) rfl rfl zi_k1 ?_
          refine zs_iadd (ip' := 78) rfl rfl ?_
          refine zs_putI (ip' := 79) rfl rfl (by omega) zsh_230 rfl (q := 15) rfl (by omega) ?_
          refine zW_1 rfl ?_
          have ek : tK (G1 237) (G1 230 8) p = 3 := (show tK (G1 237) (G1 230 8) p = _ from if_neg (by rw [hb]; exact h40)).trans ((if_neg (by rw [hb]; exact fun q => h49 ⟨by omega, q⟩)).trans ((if_neg (by rw [hb]; exact fun q => h57 ⟨by omega, q⟩)).trans (if_pos (by rw [hb]; exact h68))))
          exact cM_next_q hB hb hbr r8 r15 r16 r18 r37 rk rj r19 rf h40 (fun q => h49 ⟨by omega, q⟩) (fun q => h57 ⟨by omega, q⟩) ek
      · intro h57
        refine zs_aload (ip' := 59) rfl rfl rfl ?_
        refine zW_cV (ip' := 60) rfl rfl (cM_nextNumber hN hB2 (b := b) (by omega) r15 r16 r18) rfl rfl (z_ok3 (by omega) zsh_230 rfl rfl rfl) ?_
        rintro G' F' n' ⟨rfl, rfl, rfl⟩
        refine zs_goto (t := 79) rfl ?_
        refine zW_1 rfl ?_
        refine ⟨rfl, ⟨⟨?_, ?_, ?_, ?_, ?_⟩, fun k hk => ?_, fun j j1 j2 j3 j4 => ?_, fun k hk => rf k hk⟩, rfl⟩
        all_goals have hd := h57.2
        all_goals have hns : ¬ tSm (G1 237) b := fun q => h49 ⟨by omega, q⟩
        all_goals have eE : tE (G1 237) (G1 230 8) p = zrun (tDg (G1 237)) (G1 230 8) b := by unfold tE; rw [hb, if_neg h40, if_neg hns, if_pos hd]
        · rw [zk_eq, zp_ne (by decide), zp_eq, eE, r8, r37]
        · rw [zk_eq, zp_ne (by decide), zp_ne (by decide), zp_ne (by decide), ← zk_eq G2 230 (G2 230), zk_self, r16, hb]
        · rw [zk_eq, zp_eq, r8, r37]; unfold tK; rw [eE, hb, if_neg h40, if_neg hns, if_pos hd]
        · rw [zk_eq, zp_ne (by decide), zp_ne (by decide), zp_eq, r8, r37]; unfold tV; rw [eE, hb, if_neg h40, if_neg hns, if_pos hd]
        · rw [r19]; unfold tW; rw [hb, if_neg h40, if_neg hns]
        · rw [zk_ne hk]; exact rk k hk
        · rw [zk_eq, zp_ne j3, zp_ne j1, zp_ne j4]; exact rj j j1 j2 j4
    · intro h49
      refine zs_aload (ip' := 51) rfl rfl rfl ?_
      refine zW_cV (ip' := 52) rfl rfl (cM_nextWord hN hB2 (b := b) (by omega) r15 r16 r19) rfl rfl (z_ok3 (by omega) zsh_230 rfl rfl rfl) ?_
      rintro G' F' n' ⟨rfl, rfl, rfl⟩
      refine zs_goto (t := 79) rfl ?_
      refine zW_1 rfl ?_
      refine ⟨rfl, ⟨⟨?_, ?_, ?_, ?_, ?_⟩, fun k hk => ?_, fun j j1 j2 j3 j4 => ?_, fun k hk => ?_⟩, rfl⟩
      all_goals have hd := h49.2
      all_goals have eE : tE (G1 237) (G1 230 8) p = zrun (tSm (G1 237)) (G1 230 8) b := by unfold tE; rw [hb, if_neg h40, if_pos hd]
      · rw [zk_eq, zp_ne (by decide), zp_eq, eE, r8, r37]
      · rw [zk_eq, zp_ne (by decide), zp_ne (by decide), r16, hb]
      · rw [zk_eq, zp_eq]; unfold tK; rw [hb, if_neg h40, if_pos hd]
      · rw [zk_eq, zp_ne (by decide), zp_ne (by decide), r18]; unfold tV; rw [hb, if_neg h40, if_pos hd]
      · rw [zk_eq, zp_eq, r8, r37]; unfold tW; rw [eE, hb, if_neg h40, if_pos hd]
      · rw [zk_ne hk]; exact rk k hk
      · rw [zk_eq, zp_ne j3, zp_ne j1]; exact rj j j1 j2 j4
      · rw [zk_ne hk]; exact rf k hk
  · intro h40
    refine zs_aload (ip' := 42) rfl rfl rfl ?_
    refine zs_pushI (ip' := 43) rfl rfl zi_k0 ?_
    refine zs_putI (ip' := 44) rfl rfl (by omega) zsh_230 rfl (q := 17) rfl (by omega) ?_
    refine zs_goto (t := 79) rfl ?_
    refine zW_1 rfl ?_
    refine ⟨rfl, ⟨⟨?_, ?_, ?_, ?_, ?_⟩, fun k hk => ?_, fun j j1 j2 j3 j4 => ?_, fun k hk => rf k hk⟩, rfl⟩
    · rw [zk_eq, zp_ne (by decide), r15]; unfold tE; rw [hb, if_pos h40]; exact h40
    · rw [zk_eq, zp_ne (by decide), r16, hb]
    · rw [zk_eq, zp_eq]; unfold tK; rw [hb, if_pos h40]
    · rw [zk_eq, zp_ne (by decide), r18]; unfold tV; rw [hb, if_pos h40]
    · rw [r19]; unfold tW; rw [hb, if_pos h40]
    · rw [zk_ne hk]; exact rk k hk
    · rw [zk_eq, zp_ne j3]; exact rj j j1 j2 j4
theorem cM_next {N : Nat} {G F : GM} {n : Nat} (hN : 241 ≤ N) (hB : zBa G) {p : Int} (hp : 0 ≤ p ∧ p ≤ G 230 8) (h15 : G 230 15 = p) : zC N 48 [.ref 230] G F n (zV fun G' F' n' => zNx G F p G' F' ∧ n' = n) := by
  refine zC_i (L0 := [.ref 230]) rfl ?_
  have hb := tB_rng (T := G 237) hp.2
  have := cM_next_l (G := G) (F := F) (n := n) hN hB (cM_next_t (F1 := F) (n := n) hN hB (p := p) rfl ⟨by omega, hb.2⟩) ((G 230 8 - p).toNat + 1) p (by omega) hp rfl
  rw [← h15, zp_self, zk_self, h15] at this
  exact this
