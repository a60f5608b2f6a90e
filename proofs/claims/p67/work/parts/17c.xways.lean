/-! The program: its searches (printed by wip/whole/src39.py). -/
/-- a search kept all else as it was -/
def xFr (i : Nat) (G G' : GM) : Prop := ∀ k, k ≠ 201 + 3 * i → k ≠ 201 + 3 * i + 1 → k ≠ 201 + 3 * i + 2 → G' k = G k
theorem xFr_r (i : Nat) (G : GM) : xFr i G G := fun _ _ _ _ => rfl
theorem xFr_t {i : Nat} {G G1 G2 : GM} (h : xFr i G G1) (h2 : xFr i G1 G2) : xFr i G G2 := fun k a b c => (h2 k a b c).trans (h k a b c)
abbrev xWt (T : Int → Int) (p : Int) : Prop := T p = 0
/-- a cell is reached -/
def xRe (i : Nat) (T : Int → Int) (c v : Int) (G G' : GM) : Prop := (G (201 + 3 * i + 1) c ≠ -1 ∧ G' = G) ∨ (G (201 + 3 * i + 1) c = -1 ∧ xFr i G G' ∧ G' (201 + 3 * i + 1) = zp (G (201 + 3 * i + 1)) c v ∧
  ((xWt T c ∧ G' (201 + 3 * i + 2) = G (201 + 3 * i + 2) ∧ G' (201 + 3 * i) 3 = G (201 + 3 * i) 3) ∨ (¬ xWt T c ∧ G' (201 + 3 * i + 2) = zp (G (201 + 3 * i + 2)) (G (201 + 3 * i) 3) c ∧ G' (201 + 3 * i) 3 = G (201 + 3 * i) 3 + 1)))
theorem cX_reach {N : Nat} {G F : GM} {n : Nat} (hN : 229 ≤ N) {w : Nat} (hw : w < 12) {i : Nat} (hi : i < 9) {c v : Int} (hc : 0 ≤ c ∧ c < 144) (hv : zr v) (hq : 0 ≤ G (201 + 3 * i) 3 ∧ G (201 + 3 * i) 3 ≤ 144) (hroom : G (201 + 3 * i + 1) c = -1 → ¬ xWt (G (16 * w + 2)) c → G (201 + 3 * i) 3 < 144) : zC N 169 [.ref (201 + 3 * i), .ref (16 * w + 1), .int (zi c), .int (zi v)] G F n (zV fun G' F' n' => xRe i (G (16 * w + 2)) c v G G' ∧ F' = F ∧ n' = n) := by
  refine zC_i (L0 := [.ref (201 + 3 * i), .ref (16 * w + 1), .int (zi c), .int (zi v)]) rfl ?_
  refine zs_aload (ip' := 1) rfl rfl rfl ?_
  refine zs_getR (ip' := 2) rfl rfl (r := 201 + 3 * i + 1) (by omega) (zsh_d0 hi) rfl ?_
  refine zs_iload (ip' := 3) rfl rfl rfl ?_
  refine zs_iald (ip' := 4) rfl rfl (by omega) (zsh_d1 hi) (by omega) ?_
  intro hl3 hu3
  refine zs_pushI (ip' := 5) rfl rfl zi_km1 ?_
  refine zs_icmp_eq (t := 7) (ip' := 6) rfl rfl (by omega) (by omega) ?_ ?_
  · intro h5
    refine zs_aload (ip' := 8) rfl rfl rfl ?_
    refine zs_getR (ip' := 9) rfl rfl (r := 201 + 3 * i + 1) (by omega) (zsh_d0 hi) rfl ?_
    refine zs_iload (ip' := 10) rfl rfl rfl ?_
    refine zs_iload (ip' := 11) rfl rfl rfl ?_
    refine zs_iast (ip' := 12) rfl rfl (by omega) (zsh_d1 hi) (by omega) (by omega) ?_
    refine zs_aload (ip' := 13) rfl rfl rfl ?_
    refine zs_getR (ip' := 14) rfl rfl (r := 16 * w + 2) (by omega) (zsh_w1 hw) rfl ?_
    refine zs_iload (ip' := 15) rfl rfl rfl ?_
    refine zs_iald (ip' := 16) rfl rfl (by omega) (zsh_w2 hw) (by omega) ?_
    intro hl15 hu15
    rw [zk_ne (by omega)] at hl15 hu15 ⊢
    refine zs_if_eq (t := 33) (ip' := 17) rfl rfl (by omega) ?_ ?_
    · intro h16
      refine zW_1 rfl ?_
      refine ⟨rfl, Or.inr ⟨h5, fun k a b e => ?_, ?_, Or.inl ⟨h16, ?_, ?_⟩⟩, rfl, rfl⟩
      · repeat first | rw [zk_eq] | rw [zk_ne (by omega)] | rw [zp_eq] | rw [zp_ne (by omega)]
      · repeat first | rw [zk_eq] | rw [zk_ne (by omega)] | rw [zp_eq] | rw [zp_ne (by omega)]
      · repeat first | rw [zk_eq] | rw [zk_ne (by omega)] | rw [zp_eq] | rw [zp_ne (by omega)]
      · repeat first | rw [zk_eq] | rw [zk_ne (by omega)] | rw [zp_eq] | rw [zp_ne (by omega)]
    · intro h16
      refine zs_aload (ip' := 18) rfl rfl rfl ?_
      refine zs_getI (ip' := 19) rfl rfl (by omega) (zsh_d0 hi) rfl (q := 3) rfl ?_
      intro hl18 hu18
      rw [zk_ne (by omega)] at hl18 hu18 ⊢
      refine zs_pushI (ip' := 20) rfl rfl zi_k144 ?_
      refine zs_icmp_ge (t := 33) (ip' := 21) rfl rfl (by omega) (by omega) ?_ ?_
      · intro h20
        refine zW_1 rfl ?_
        exact absurd (hroom h5 h16) (by omega)
      · intro h20
        refine zs_aload (ip' := 22) rfl rfl rfl ?_
        refine zs_getR (ip' := 23) rfl rfl (r := 201 + 3 * i + 2) (by omega) (zsh_d0 hi) rfl ?_
        refine zs_aload (ip' := 24) rfl rfl rfl ?_
        refine zs_getI (ip' := 25) rfl rfl (by omega) (zsh_d0 hi) rfl (q := 3) rfl ?_
        intro hl24 hu24
        rw [zk_ne (by omega)] at hl24 hu24 ⊢
        refine zs_iload (ip' := 26) rfl rfl rfl ?_
        refine zs_iast (ip' := 27) rfl rfl (by omega) (zsh_d2 hi) (by omega) (by omega) ?_
        rw [zk_ne (by omega)]
        refine zs_aload (ip' := 28) rfl rfl rfl ?_
        refine zs_dupR (ip' := 29) rfl rfl ?_
        refine zs_getI (ip' := 30) rfl rfl (by omega) (zsh_d0 hi) rfl (q := 3) rfl ?_
        intro hl29 hu29
        rw [zk_ne (by omega), zk_ne (by omega)] at hl29 hu29 ⊢
        refine zs_pushI (ip' := 31) rfl rfl zi_k1 ?_
        refine zs_iadd (ip' := 32) rfl rfl ?_
        refine zs_putI (ip' := 33) rfl rfl (by omega) (zsh_d0 hi) rfl (q := 3) rfl (by omega) ?_
        refine zW_1 rfl ?_
        refine ⟨rfl, Or.inr ⟨h5, fun k a b e => ?_, ?_, Or.inr ⟨h16, ?_, ?_⟩⟩, rfl, rfl⟩
        · repeat first | rw [zk_eq] | rw [zk_ne (by omega)] | rw [zp_eq] | rw [zp_ne (by omega)]
        · repeat first | rw [zk_eq] | rw [zk_ne (by omega)] | rw [zp_eq] | rw [zp_ne (by omega)]
        · repeat first | rw [zk_eq] | rw [zk_ne (by omega)] | rw [zp_eq] | rw [zp_ne (by omega)]
        · repeat first | rw [zk_eq] | rw [zk_ne (by omega)] | rw [zp_eq] | rw [zp_ne (by omega)]
  · intro h5
    refine zW_1 rfl ?_
    exact ⟨rfl, Or.inl ⟨h5, rfl⟩, rfl, rfl⟩
theorem cX_forget {N : Nat} {G F : GM} {n : Nat} (hN : 229 ≤ N) {i : Nat} (hi : i < 9) : zC N 167 [.ref (201 + 3 * i)] G F n (zV fun G' F' n' => (xFr i G G' ∧ (∀ j : Int, 0 ≤ j → j < 144 → G' (201 + 3 * i + 1) j = -1) ∧ G' (201 + 3 * i) 3 = 0) ∧ F' = F ∧ n' = n) := by
  refine zC_i (L0 := [.ref (201 + 3 * i)]) rfl ?_
  refine zs_aload (ip' := 1) rfl rfl rfl ?_
  refine zs_getR (ip' := 2) rfl rfl (r := 201 + 3 * i + 1) (by omega) (zsh_d0 hi) rfl ?_
  refine zs_pushI (ip' := 3) rfl rfl zi_km1 ?_
  refine zW_cV (ip' := 4) rfl rfl (cX_fill (zsh_d1 hi) (by omega) (by decide) (by omega)) rfl rfl rfl ?_
  rintro G' F' n' ⟨⟨t, ht, rfl⟩, rfl, rfl⟩
  refine zs_aload (ip' := 5) rfl rfl rfl ?_
  refine zs_pushI (ip' := 6) rfl rfl zi_k0 ?_
  refine zs_putI (ip' := 7) rfl rfl (by omega) (zsh_d0 hi) rfl (q := 3) rfl (by omega) ?_
  refine zW_1 rfl ?_
  refine ⟨rfl, ⟨fun k a b e => ?_, fun j j0 j1 => ?_, ?_⟩, rfl, rfl⟩
  · repeat first | rw [zk_eq] | rw [zk_ne (by omega)] | rw [zp_eq] | rw [zp_ne (by omega)]
  · rw [zk_ne (by omega), zk_eq]
    exact ht j j0 j1
  · repeat first | rw [zk_eq] | rw [zk_ne (by omega)] | rw [zp_eq] | rw [zp_ne (by omega)]
