/-! The first text. -/
theorem zSc0_rng {j : Int} (hj : 0 ≤ j ∧ j < 45) : 0 ≤ zSc 0 j ∧ zSc 0 j ≤ 127 := by
  have h := (zSc_tab 0 (by decide) j.toNat (by omega) (show j.toNat < 45 by omega)).2
  exact h
theorem bmod_small {v : Int} (h : 0 ≤ v ∧ v ≤ 127) : v.bmod 256 = v := by
  rw [Int.bmod_def]
  have e : v % ((256 : Nat) : Int) = v := Int.emod_eq_of_lt h.1 (by omega)
  rw [e, if_pos (by omega)]
theorem cX_putText_l {N : Nat} {F : GM} {n : Nat} (hN : 229 ≤ N) {G0 : GM} : ∀ (d : Nat) (k : Nat) (G : GM), 45 - (k : Int) < (d : Int) → (k : Int) ≤ 45 → (∀ k, k ≠ 197 → k ≠ 198 → G k = G0 k) ∧ (∀ j, j ≠ 0 → G 197 j = G0 197 j) → G 197 0 = k → (∀ j : Int, 0 ≤ j → j < k → G 198 j = zSc 0 j) → zW N 182 2 [.ref 197, .ref 320, .int (zi (k : Int))] [] G F n (zV fun G' F' n' => (((∀ k, k ≠ 197 → k ≠ 198 → G' k = G0 k) ∧ (∀ j, j ≠ 0 → G' 197 j = G0 197 j)) ∧ G' 197 0 = 45 ∧ ∀ j : Int, 0 ≤ j → j < 45 → G' 198 j = zSc 0 j) ∧ F' = F ∧ n' = n) := by
  intro d
  induction d with
  | zero =>
    intro k G hd hj hf h0 ht
    exact absurd hd (by omega)
  | succ d ih =>
    intro k G hd hj hf h0 ht
    refine zs_iload (ip' := 3) rfl rfl rfl ?_
    refine zs_aload (ip' := 4) rfl rfl rfl ?_
    refine zW_cP (ip' := 5) rfl rfl zJ_len_0 rfl rfl rfl ?_
    refine zs_icmp_ge (t := 14) (ip' := 6) rfl rfl (by omega) (by omega) ?_ ?_
    · intro h5
      refine zW_1 rfl ?_
      exact ⟨rfl, ⟨hf, by omega, fun j j0 j1 => ht j j0 (by omega)⟩, rfl, rfl⟩
    · intro h5
      refine zs_aload (ip' := 7) rfl rfl rfl ?_
      refine zs_aload (ip' := 8) rfl rfl rfl ?_
      refine zs_iload (ip' := 9) rfl rfl rfl ?_
      refine zW_cP (ip' := 10) rfl rfl (zJ_chr_0 (by omega)) rfl rfl rfl ?_
      have hrg := zSc0_rng (j := (k : Int)) (by omega)
      refine zs_i2b (ip' := 11) rfl rfl ?_
      rw [bmod_small hrg]
      refine zW_cV (ip' := 12) rfl rfl (cX_putByte hN h0 (by omega) (v := zSc 0 (k : Int)) (by omega)) rfl rfl (z_ok3 (by omega) zsh_197 rfl rfl rfl) ?_
      rintro G2 F2 n2 ⟨⟨hx, hl, hz⟩, rfl, rfl⟩
      refine zs_iinc2 (ip' := 13) rfl rfl zi_k1 ?_
      refine zs_goto (t := 2) rfl ?_
      have e3 : (((k + 1 : Nat) : Int)) = (k : Int) + 1 := by omega
      rw [← e3]
      refine ih (k + 1) G2 (by omega) (by omega) ⟨fun j a b => (hx.1 j a b).trans (hf.1 j a b), fun j a => (hx.2 j a).trans (hf.2 j a)⟩ (by omega) (fun j j0 j1 => ?_)
      rw [hz]
      by_cases hjk : j = (k : Int)
      · rw [hjk, zp_eq]
      · rw [zp_ne hjk]
        exact ht j j0 (by omega)
theorem cX_putText {N : Nat} {G F : GM} {n : Nat} (hN : 229 ≤ N) (h0 : G 197 0 = 0) : zC N 182 [.ref 197, .ref 320] G F n (zV fun G' F' n' => (((∀ k, k ≠ 197 → k ≠ 198 → G' k = G k) ∧ (∀ j, j ≠ 0 → G' 197 j = G 197 j)) ∧ G' 197 0 = 45 ∧ ∀ j : Int, 0 ≤ j → j < 45 → G' 198 j = zSc 0 j) ∧ F' = F ∧ n' = n) := by
  refine zC_i (L0 := [.ref 197, .ref 320, .null]) rfl ?_
  refine zs_pushI (ip' := 1) rfl rfl zi_k0 ?_
  refine zs_istore2 (ip' := 2) rfl rfl ?_
  exact cX_putText_l hN 46 0 G (by decide) (by decide) ⟨fun _ _ _ => rfl, fun _ _ => rfl⟩ h0 (fun j j0 j1 => absurd j1 (by omega))
/-- what the first text says -/
def pFst : zTx := pText (zSc 0) 45 (0, 0, -1, fun _ => 0)
def rFst (i : Int) : Int := if i = 0 then 4 else if i = 1 then 3 else if i = 2 then 4 else if i = 33 then 2 else if i = 43 then 1 else if i = 44 then 1 else if i = 56 then 13 else 0
theorem pFst_ok : pFst.2.1 = 0 ∧ ∀ i : Nat, i < 256 → pFst.2.2.2 (i : Int) = rFst i := by
  constructor
  · decide +kernel
  · decide +kernel
