/-! The program: a world laid over another (printed by wip/whole/src35.py). -/
theorem zcp_in {s t : Int → Int} {c : Nat} {j : Int} (h : j < c) : zcp s t c j = s j := if_pos h
theorem cX_copyN {N : Nat} {G F : GM} {n : Nat} {a b len : Nat} (ha : z_sh a = (1, len, [])) (haN : a < N) (hb : z_sh b = (1, len, [])) (hbN : b < N) (hl : len ≤ 144) : zC N 278 [.ref a, .ref b] G F n (zV fun G' F' n' => G' = zk G b (zcp (G a) (G b) len) ∧ F' = F ∧ n' = n) := by
  refine zC_i (L0 := [.ref a, .ref b]) rfl ?_
  refine zs_aload (ip' := 1) rfl rfl rfl ?_
  refine zs_pushI (ip' := 2) rfl rfl zi_k0 ?_
  refine zs_aload (ip' := 3) rfl rfl rfl ?_
  refine zs_pushI (ip' := 4) rfl rfl zi_k0 ?_
  refine zs_aload (ip' := 5) rfl rfl rfl ?_
  refine zs_alen (ip' := 6) rfl rfl haN ha ?_
  refine zs_aload (ip' := 7) rfl rfl rfl ?_
  refine zs_alen (ip' := 8) rfl rfl hbN hb ?_
  refine zs_mmin (ip' := 9) rfl rfl rfl (by omega) (by omega) ?_
  refine zs_acopy (ip' := 10) rfl rfl haN hbN ha hb (by omega) (by omega) ?_
  refine zW_1 rfl ?_
  exact ⟨rfl, rfl, rfl, rfl⟩
theorem cX_copy1 {N : Nat} {G F : GM} {n : Nat} (hN : 229 ≤ N) {w w2 : Nat} (hw : w < 12) (hw2 : w2 < 12) (hne : w ≠ w2) : zC N 135 [.ref (16 * w + 1), .ref (16 * w2 + 1)] G F n (zV fun G' F' n' => ((∀ k, k ≠ 16 * w + 1 → k ≠ 16 * w + 2 → G' k = G k) ∧ G' (16 * w + 1) 0 = G (16 * w2 + 1) 0 ∧ G' (16 * w + 1) 1 = G (16 * w2 + 1) 1 ∧ (∀ j, 0 ≤ j → j < 144 → G' (16 * w + 2) j = G (16 * w2 + 2) j)) ∧ F' = F ∧ n' = n) := by
  refine zC_i (L0 := [.ref (16 * w + 1), .ref (16 * w2 + 1)]) rfl ?_
  refine zs_aload (ip' := 1) rfl rfl rfl ?_
  refine zs_aload (ip' := 2) rfl rfl rfl ?_
  refine zs_getI (ip' := 3) rfl rfl (by omega) (zsh_w1 hw2) rfl (q := 0) rfl ?_
  intro hl2 hu2
  refine zs_putI (ip' := 4) rfl rfl (by omega) (zsh_w1 hw) rfl (q := 0) rfl (by omega) ?_
  refine zs_aload (ip' := 5) rfl rfl rfl ?_
  refine zs_aload (ip' := 6) rfl rfl rfl ?_
  refine zs_getI (ip' := 7) rfl rfl (by omega) (zsh_w1 hw2) rfl (q := 1) rfl ?_
  intro hl6 hu6
  refine zs_putI (ip' := 8) rfl rfl (by omega) (zsh_w1 hw) rfl (q := 1) rfl (by omega) ?_
  refine zs_aload (ip' := 9) rfl rfl rfl ?_
  refine zs_getR (ip' := 10) rfl rfl (r := 16 * w2 + 2) (by omega) (zsh_w1 hw2) rfl ?_
  refine zs_aload (ip' := 11) rfl rfl rfl ?_
  refine zs_getR (ip' := 12) rfl rfl (r := 16 * w + 2) (by omega) (zsh_w1 hw) rfl ?_
  refine zW_cV (ip' := 13) rfl rfl (cX_copyN (zsh_w2 hw2) (by omega) (zsh_w2 hw) (by omega) (by decide)) rfl rfl rfl ?_
  rintro G' F' n' ⟨rfl, rfl, rfl⟩
  refine zW_1 rfl ?_
  refine ⟨rfl, ⟨fun k a1 a2 => ?_, ?_, ?_, fun j j0 j1 => ?_⟩, rfl, rfl⟩
  · repeat first | rw [zk_eq] | rw [zk_ne (by omega)] | rw [zp_eq] | rw [zp_ne (by omega)] | rw [zcp_in (by omega)]
  · repeat first | rw [zk_eq] | rw [zk_ne (by omega)] | rw [zp_eq] | rw [zp_ne (by omega)] | rw [zcp_in (by omega)]
  · repeat first | rw [zk_eq] | rw [zk_ne (by omega)] | rw [zp_eq] | rw [zp_ne (by omega)] | rw [zcp_in (by omega)]
  · repeat first | rw [zk_eq] | rw [zk_ne (by omega)] | rw [zp_eq] | rw [zp_ne (by omega)] | rw [zcp_in (by omega)]
theorem cX_copy3 {N : Nat} {G F : GM} {n : Nat} (hN : 229 ≤ N) {w w2 : Nat} (hw : w < 12) (hw2 : w2 < 12) (hne : w ≠ w2) : zC N 143 [.ref (16 * w + 3), .ref (16 * w2 + 3)] G F n (zV fun G' F' n' => ((∀ k, k ≠ 16 * w + 3 → k ≠ 16 * w + 4 → k ≠ 16 * w + 5 → k ≠ 16 * w + 6 → G' k = G k) ∧ G' (16 * w + 3) 0 = G (16 * w2 + 3) 0 ∧ G' (16 * w + 3) 1 = G (16 * w2 + 3) 1 ∧ (∀ j, 0 ≤ j → j < 8 → G' (16 * w + 4) j = G (16 * w2 + 4) j) ∧ (∀ j, 0 ≤ j → j < 8 → G' (16 * w + 5) j = G (16 * w2 + 5) j) ∧ (∀ j, 0 ≤ j → j < 8 → G' (16 * w + 6) j = G (16 * w2 + 6) j)) ∧ F' = F ∧ n' = n) := by
  refine zC_i (L0 := [.ref (16 * w + 3), .ref (16 * w2 + 3)]) rfl ?_
  refine zs_aload (ip' := 1) rfl rfl rfl ?_
  refine zs_aload (ip' := 2) rfl rfl rfl ?_
  refine zs_getI (ip' := 3) rfl rfl (by omega) (zsh_w3 hw2) rfl (q := 0) rfl ?_
  intro hl2 hu2
  refine zs_putI (ip' := 4) rfl rfl (by omega) (zsh_w3 hw) rfl (q := 0) rfl (by omega) ?_
  refine zs_aload (ip' := 5) rfl rfl rfl ?_
  refine zs_aload (ip' := 6) rfl rfl rfl ?_
  refine zs_getI (ip' := 7) rfl rfl (by omega) (zsh_w3 hw2) rfl (q := 1) rfl ?_
  intro hl6 hu6
  refine zs_putI (ip' := 8) rfl rfl (by omega) (zsh_w3 hw) rfl (q := 1) rfl (by omega) ?_
  refine zs_aload (ip' := 9) rfl rfl rfl ?_
  refine zs_getR (ip' := 10) rfl rfl (r := 16 * w2 + 4) (by omega) (zsh_w3 hw2) rfl ?_
  refine zs_aload (ip' := 11) rfl rfl rfl ?_
  refine zs_getR (ip' := 12) rfl rfl (r := 16 * w + 4) (by omega) (zsh_w3 hw) rfl ?_
  refine zW_cV (ip' := 13) rfl rfl (cX_copyN (zsh_w4 hw2) (by omega) (zsh_w4 hw) (by omega) (by decide)) rfl rfl rfl ?_
  rintro G' F' n' ⟨rfl, rfl, rfl⟩
  refine zs_aload (ip' := 14) rfl rfl rfl ?_
  refine zs_getR (ip' := 15) rfl rfl (r := 16 * w2 + 5) (by omega) (zsh_w3 hw2) rfl ?_
  refine zs_aload (ip' := 16) rfl rfl rfl ?_
  refine zs_getR (ip' := 17) rfl rfl (r := 16 * w + 5) (by omega) (zsh_w3 hw) rfl ?_
  refine zW_cV (ip' := 18) rfl rfl (cX_copyN (zsh_w5 hw2) (by omega) (zsh_w5 hw) (by omega) (by decide)) rfl rfl rfl ?_
  rintro G' F' n' ⟨rfl, rfl, rfl⟩
  refine zs_aload (ip' := 19) rfl rfl rfl ?_
  refine zs_getR (ip' := 20) rfl rfl (r := 16 * w2 + 6) (by omega) (zsh_w3 hw2) rfl ?_
  refine zs_aload (ip' := 21) rfl rfl rfl ?_
  refine zs_getR (ip' := 22) rfl rfl (r := 16 * w + 6) (by omega) (zsh_w3 hw) rfl ?_
  refine zW_cV (ip' := 23) rfl rfl (cX_copyN (zsh_w6 hw2) (by omega) (zsh_w6 hw) (by omega) (by decide)) rfl rfl rfl ?_
  rintro G' F' n' ⟨rfl, rfl, rfl⟩
  refine zW_1 rfl ?_
  refine ⟨rfl, ⟨fun k a3 a4 a5 a6 => ?_, ?_, ?_, fun j j0 j1 => ?_, fun j j0 j1 => ?_, fun j j0 j1 => ?_⟩, rfl, rfl⟩
  · repeat first | rw [zk_eq] | rw [zk_ne (by omega)] | rw [zp_eq] | rw [zp_ne (by omega)] | rw [zcp_in (by omega)]
  · repeat first | rw [zk_eq] | rw [zk_ne (by omega)] | rw [zp_eq] | rw [zp_ne (by omega)] | rw [zcp_in (by omega)]
  · repeat first | rw [zk_eq] | rw [zk_ne (by omega)] | rw [zp_eq] | rw [zp_ne (by omega)] | rw [zcp_in (by omega)]
  · repeat first | rw [zk_eq] | rw [zk_ne (by omega)] | rw [zp_eq] | rw [zp_ne (by omega)] | rw [zcp_in (by omega)]
  · repeat first | rw [zk_eq] | rw [zk_ne (by omega)] | rw [zp_eq] | rw [zp_ne (by omega)] | rw [zcp_in (by omega)]
  · repeat first | rw [zk_eq] | rw [zk_ne (by omega)] | rw [zp_eq] | rw [zp_ne (by omega)] | rw [zcp_in (by omega)]
theorem cX_copy6 {N : Nat} {G F : GM} {n : Nat} (hN : 229 ≤ N) {w w2 : Nat} (hw : w < 12) (hw2 : w2 < 12) (hne : w ≠ w2) : zC N 150 [.ref (16 * w + 7), .ref (16 * w2 + 7)] G F n (zV fun G' F' n' => ((∀ k, k ≠ 16 * w + 7 → k ≠ 16 * w + 8 → k ≠ 16 * w + 9 → k ≠ 16 * w + 10 → k ≠ 16 * w + 11 → k ≠ 16 * w + 12 → k ≠ 16 * w + 13 → k ≠ 16 * w + 14 → G' k = G k) ∧ G' (16 * w + 7) 0 = G (16 * w2 + 7) 0 ∧ (∀ j, 0 ≤ j → j < 6 → G' (16 * w + 8) j = G (16 * w2 + 8) j) ∧ (∀ j, 0 ≤ j → j < 6 → G' (16 * w + 9) j = G (16 * w2 + 9) j) ∧ (∀ j, 0 ≤ j → j < 6 → G' (16 * w + 10) j = G (16 * w2 + 10) j) ∧ (∀ j, 0 ≤ j → j < 6 → G' (16 * w + 11) j = G (16 * w2 + 11) j) ∧ (∀ j, 0 ≤ j → j < 6 → G' (16 * w + 12) j = G (16 * w2 + 12) j) ∧ (∀ j, 0 ≤ j → j < 6 → G' (16 * w + 13) j = G (16 * w2 + 13) j) ∧ (∀ j, 0 ≤ j → j < 6 → G' (16 * w + 14) j = G (16 * w2 + 14) j)) ∧ F' = F ∧ n' = n) := by
  refine zC_i (L0 := [.ref (16 * w + 7), .ref (16 * w2 + 7)]) rfl ?_
  refine zs_aload (ip' := 1) rfl rfl rfl ?_
  refine zs_aload (ip' := 2) rfl rfl rfl ?_
  refine zs_getI (ip' := 3) rfl rfl (by omega) (zsh_w7 hw2) rfl (q := 0) rfl ?_
  intro hl2 hu2
  refine zs_putI (ip' := 4) rfl rfl (by omega) (zsh_w7 hw) rfl (q := 0) rfl (by omega) ?_
  refine zs_aload (ip' := 5) rfl rfl rfl ?_
  refine zs_getR (ip' := 6) rfl rfl (r := 16 * w2 + 8) (by omega) (zsh_w7 hw2) rfl ?_
  refine zs_aload (ip' := 7) rfl rfl rfl ?_
  refine zs_getR (ip' := 8) rfl rfl (r := 16 * w + 8) (by omega) (zsh_w7 hw) rfl ?_
  refine zW_cV (ip' := 9) rfl rfl (cX_copyN (zsh_w8 hw2) (by omega) (zsh_w8 hw) (by omega) (by decide)) rfl rfl rfl ?_
  rintro G' F' n' ⟨rfl, rfl, rfl⟩
  refine zs_aload (ip' := 10) rfl rfl rfl ?_
  refine zs_getR (ip' := 11) rfl rfl (r := 16 * w2 + 9) (by omega) (zsh_w7 hw2) rfl ?_
  refine zs_aload (ip' := 12) rfl rfl rfl ?_
  refine zs_getR (ip' := 13) rfl rfl (r := 16 * w + 9) (by omega) (zsh_w7 hw) rfl ?_
  refine zW_cV (ip' := 14) rfl rfl (cX_copyN (zsh_w9 hw2) (by omega) (zsh_w9 hw) (by omega) (by decide)) rfl rfl rfl ?_
  rintro G' F' n' ⟨rfl, rfl, rfl⟩
  refine zs_aload (ip' := 15) rfl rfl rfl ?_
  refine zs_getR (ip' := 16) rfl rfl (r := 16 * w2 + 10) (by omega) (zsh_w7 hw2) rfl ?_
  refine zs_aload (ip' := 17) rfl rfl rfl ?_
  refine zs_getR (ip' := 18) rfl rfl (r := 16 * w + 10) (by omega) (zsh_w7 hw) rfl ?_
  refine zW_cV (ip' := 19) rfl rfl (cX_copyN (zsh_w10 hw2) (by omega) (zsh_w10 hw) (by omega) (by decide)) rfl rfl rfl ?_
  rintro G' F' n' ⟨rfl, rfl, rfl⟩
  refine zs_aload (ip' := 20) rfl rfl rfl ?_
  refine zs_getR (ip' := 21) rfl rfl (r := 16 * w2 + 11) (by omega) (zsh_w7 hw2) rfl ?_
  refine zs_aload (ip' := 22) rfl rfl rfl ?_
  refine zs_getR (ip' := 23) rfl rfl (r := 16 * w + 11) (by omega) (zsh_w7 hw) rfl ?_
  refine zW_cV (ip' := 24) rfl rfl (cX_copyN (zsh_w11 hw2) (by omega) (zsh_w11 hw) (by omega) (by decide)) rfl rfl rfl ?_
  rintro G' F' n' ⟨rfl, rfl, rfl⟩
  refine zs_aload (ip' := 25) rfl rfl rfl ?_
  refine zs_getR (ip' := 26) rfl rfl (r := 16 * w2 + 12) (by omega) (zsh_w7 hw2) rfl ?_
  refine zs_aload (ip' := 27) rfl rfl rfl ?_
  refine zs_getR (ip' := 28) rfl rfl (r := 16 * w + 12) (by omega) (zsh_w7 hw) rfl ?_
  refine zW_cV (ip' := 29) rfl rfl (cX_copyN (zsh_w12 hw2) (by omega) (zsh_w12 hw) (by omega) (by decide)) rfl rfl rfl ?_
  rintro G' F' n' ⟨rfl, rfl, rfl⟩
  refine zs_aload (ip' := 30) rfl rfl rfl ?_
  refine zs_getR (ip' := 31) rfl rfl (r := 16 * w2 + 13) (by omega) (zsh_w7 hw2) rfl ?_
  refine zs_aload (ip' := 32) rfl rfl rfl ?_
  refine zs_getR (ip' := 33) rfl rfl (r := 16 * w + 13) (by omega) (zsh_w7 hw) rfl ?_
  refine zW_cV (ip' := 34) rfl rfl (cX_copyN (zsh_w13 hw2) (by omega) (zsh_w13 hw) (by omega) (by decide)) rfl rfl rfl ?_
  rintro G' F' n' ⟨rfl, rfl, rfl⟩
  refine zs_aload (ip' := 35) rfl rfl rfl ?_
  refine zs_getR (ip' := 36) rfl rfl (r := 16 * w2 + 14) (by omega) (zsh_w7 hw2) rfl ?_
  refine zs_aload (ip' := 37) rfl rfl rfl ?_
  refine zs_getR (ip' := 38) rfl rfl (r := 16 * w + 14) (by omega) (zsh_w7 hw) rfl ?_
  refine zW_cV (ip' := 39) rfl rfl (cX_copyN (zsh_w14 hw2) (by omega) (zsh_w14 hw) (by omega) (by decide)) rfl rfl rfl ?_
  rintro G' F' n' ⟨rfl, rfl, rfl⟩
  refine zW_1 rfl ?_
  refine ⟨rfl, ⟨fun k a7 a8 a9 a10 a11 a12 a13 a14 => ?_, ?_, fun j j0 j1 => ?_, fun j j0 j1 => ?_, fun j j0 j1 => ?_, fun j j0 j1 => ?_, fun j j0 j1 => ?_, fun j j0 j1 => ?_, fun j j0 j1 => ?_⟩, rfl, rfl⟩
  · repeat first | rw [zk_eq] | rw [zk_ne (by omega)] | rw [zp_eq] | rw [zp_ne (by omega)] | rw [zcp_in (by omega)]
  · repeat first | rw [zk_eq] | rw [zk_ne (by omega)] | rw [zp_eq] | rw [zp_ne (by omega)] | rw [zcp_in (by omega)]
  · repeat first | rw [zk_eq] | rw [zk_ne (by omega)] | rw [zp_eq] | rw [zp_ne (by omega)] | rw [zcp_in (by omega)]
  · repeat first | rw [zk_eq] | rw [zk_ne (by omega)] | rw [zp_eq] | rw [zp_ne (by omega)] | rw [zcp_in (by omega)]
  · repeat first | rw [zk_eq] | rw [zk_ne (by omega)] | rw [zp_eq] | rw [zp_ne (by omega)] | rw [zcp_in (by omega)]
  · repeat first | rw [zk_eq] | rw [zk_ne (by omega)] | rw [zp_eq] | rw [zp_ne (by omega)] | rw [zcp_in (by omega)]
  · repeat first | rw [zk_eq] | rw [zk_ne (by omega)] | rw [zp_eq] | rw [zp_ne (by omega)] | rw [zcp_in (by omega)]
  · repeat first | rw [zk_eq] | rw [zk_ne (by omega)] | rw [zp_eq] | rw [zp_ne (by omega)] | rw [zcp_in (by omega)]
  · repeat first | rw [zk_eq] | rw [zk_ne (by omega)] | rw [zp_eq] | rw [zp_ne (by omega)] | rw [zcp_in (by omega)]
/-- a world is as another was -/
def xCp (G G' : GM) (w w2 : Nat) : Prop := (∀ k, k < 16 * w ∨ 16 * w + 16 ≤ k → G' k = G k) ∧ G' (16 * w + 1) 0 = G (16 * w2 + 1) 0 ∧ G' (16 * w + 1) 1 = G (16 * w2 + 1) 1 ∧ G' (16 * w + 3) 0 = G (16 * w2 + 3) 0 ∧ G' (16 * w + 3) 1 = G (16 * w2 + 3) 1 ∧ G' (16 * w + 7) 0 = G (16 * w2 + 7) 0 ∧ G' (16 * w) 4 = G (16 * w2) 4 ∧ G' (16 * w) 5 = G (16 * w2) 5 ∧ (∀ j, 0 ≤ j → j < 144 → G' (16 * w + 2) j = G (16 * w2 + 2) j) ∧ (∀ j, 0 ≤ j → j < 8 → G' (16 * w + 4) j = G (16 * w2 + 4) j) ∧ (∀ j, 0 ≤ j → j < 8 → G' (16 * w + 5) j = G (16 * w2 + 5) j) ∧ (∀ j, 0 ≤ j → j < 8 → G' (16 * w + 6) j = G (16 * w2 + 6) j) ∧ (∀ j, 0 ≤ j → j < 6 → G' (16 * w + 8) j = G (16 * w2 + 8) j) ∧ (∀ j, 0 ≤ j → j < 6 → G' (16 * w + 9) j = G (16 * w2 + 9) j) ∧ (∀ j, 0 ≤ j → j < 6 → G' (16 * w + 10) j = G (16 * w2 + 10) j) ∧ (∀ j, 0 ≤ j → j < 6 → G' (16 * w + 11) j = G (16 * w2 + 11) j) ∧ (∀ j, 0 ≤ j → j < 6 → G' (16 * w + 12) j = G (16 * w2 + 12) j) ∧ (∀ j, 0 ≤ j → j < 6 → G' (16 * w + 13) j = G (16 * w2 + 13) j) ∧ (∀ j, 0 ≤ j → j < 6 → G' (16 * w + 14) j = G (16 * w2 + 14) j) ∧ (∀ j, 0 ≤ j → j < 24 → G' (16 * w + 15) j = G (16 * w2 + 15) j)
theorem cX_copy7 {N : Nat} {G F : GM} {n : Nat} (hN : 229 ≤ N) {w w2 : Nat} (hw : w < 12) (hw2 : w2 < 12) (hne : w ≠ w2) : zC N 158 [.ref (16 * w), .ref (16 * w2)] G F n (zV fun G' F' n' => xCp G G' w w2 ∧ F' = F ∧ n' = n) := by
  refine zC_i (L0 := [.ref (16 * w), .ref (16 * w2)]) rfl ?_
  refine zs_aload (ip' := 1) rfl rfl rfl ?_
  refine zs_getR (ip' := 2) rfl rfl (r := 16 * w + 1) (by omega) (zsh_w0 hw) rfl ?_
  refine zs_aload (ip' := 3) rfl rfl rfl ?_
  refine zs_getR (ip' := 4) rfl rfl (r := 16 * w2 + 1) (by omega) (zsh_w0 hw2) rfl ?_
  refine zW_cV (ip' := 5) rfl rfl (cX_copy1 hN hw hw2 hne) rfl rfl (z_ok3 (by omega) (zsh_w1 hw) rfl rfl rfl) ?_
  rintro G1 F1 n1 ⟨⟨fr1, p1, p2, p3⟩, rfl, rfl⟩
  refine zs_aload (ip' := 6) rfl rfl rfl ?_
  refine zs_getR (ip' := 7) rfl rfl (r := 16 * w + 3) (by omega) (zsh_w0 hw) rfl ?_
  refine zs_aload (ip' := 8) rfl rfl rfl ?_
  refine zs_getR (ip' := 9) rfl rfl (r := 16 * w2 + 3) (by omega) (zsh_w0 hw2) rfl ?_
  refine zW_cV (ip' := 10) rfl rfl (cX_copy3 hN hw hw2 hne) rfl rfl (z_ok3 (by omega) (zsh_w3 hw) rfl rfl rfl) ?_
  rintro G2 F2 n2 ⟨⟨fr2, q1, q2, q3, q4, q5⟩, rfl, rfl⟩
  refine zs_aload (ip' := 11) rfl rfl rfl ?_
  refine zs_getR (ip' := 12) rfl rfl (r := 16 * w + 7) (by omega) (zsh_w0 hw) rfl ?_
  refine zs_aload (ip' := 13) rfl rfl rfl ?_
  refine zs_getR (ip' := 14) rfl rfl (r := 16 * w2 + 7) (by omega) (zsh_w0 hw2) rfl ?_
  refine zW_cV (ip' := 15) rfl rfl (cX_copy6 hN hw hw2 hne) rfl rfl (z_ok3 (by omega) (zsh_w7 hw) rfl rfl rfl) ?_
  rintro G3 F3 n3 ⟨⟨fr3, r1, r2, r3, r4, r5, r6, r7, r8⟩, rfl, rfl⟩
  refine zs_aload (ip' := 16) rfl rfl rfl ?_
  refine zs_getR (ip' := 17) rfl rfl (r := 16 * w2 + 15) (by omega) (zsh_w0 hw2) rfl ?_
  refine zs_aload (ip' := 18) rfl rfl rfl ?_
  refine zs_getR (ip' := 19) rfl rfl (r := 16 * w + 15) (by omega) (zsh_w0 hw) rfl ?_
  refine zW_cV (ip' := 20) rfl rfl (cX_copyN (zsh_w15 hw2) (by omega) (zsh_w15 hw) (by omega) (by decide)) rfl rfl rfl ?_
  rintro G' F' n' ⟨rfl, rfl, rfl⟩
  refine zs_aload (ip' := 21) rfl rfl rfl ?_
  refine zs_aload (ip' := 22) rfl rfl rfl ?_
  refine zs_getI (ip' := 23) rfl rfl (by omega) (zsh_w0 hw2) rfl (q := 4) rfl ?_
  intro hl22 hu22
  refine zs_putI (ip' := 24) rfl rfl (by omega) (zsh_w0 hw) rfl (q := 4) rfl (by omega) ?_
  refine zs_aload (ip' := 25) rfl rfl rfl ?_
  refine zs_aload (ip' := 26) rfl rfl rfl ?_
  refine zs_getI (ip' := 27) rfl rfl (by omega) (zsh_w0 hw2) rfl (q := 5) rfl ?_
  intro hl26 hu26
  refine zs_putI (ip' := 28) rfl rfl (by omega) (zsh_w0 hw) rfl (q := 5) rfl (by omega) ?_
  refine zW_1 rfl ?_
  refine ⟨rfl, ⟨fun k hk => ?_, ?_, ?_, ?_, ?_, ?_, ?_, ?_, fun j j0 j1 => ?_, fun j j0 j1 => ?_, fun j j0 j1 => ?_, fun j j0 j1 => ?_, fun j j0 j1 => ?_, fun j j0 j1 => ?_, fun j j0 j1 => ?_, fun j j0 j1 => ?_, fun j j0 j1 => ?_, fun j j0 j1 => ?_, fun j j0 j1 => ?_, fun j j0 j1 => ?_⟩, rfl, rfl⟩
  · repeat first | rw [zk_eq] | rw [zk_ne (by omega)] | rw [zp_eq] | rw [zp_ne (by omega)] | rw [zcp_in (by omega)] | rw [fr3 _ (by omega) (by omega) (by omega) (by omega) (by omega) (by omega) (by omega) (by omega)] | rw [r1] | rw [r2 _ (by omega) (by omega)] | rw [r3 _ (by omega) (by omega)] | rw [r4 _ (by omega) (by omega)] | rw [r5 _ (by omega) (by omega)] | rw [r6 _ (by omega) (by omega)] | rw [r7 _ (by omega) (by omega)] | rw [r8 _ (by omega) (by omega)] | rw [fr2 _ (by omega) (by omega) (by omega) (by omega)] | rw [q1] | rw [q2] | rw [q3 _ (by omega) (by omega)] | rw [q4 _ (by omega) (by omega)] | rw [q5 _ (by omega) (by omega)] | rw [fr1 _ (by omega) (by omega)] | rw [p1] | rw [p2] | rw [p3 _ (by omega) (by omega)]
  · repeat first | rw [zk_eq] | rw [zk_ne (by omega)] | rw [zp_eq] | rw [zp_ne (by omega)] | rw [zcp_in (by omega)] | rw [fr3 _ (by omega) (by omega) (by omega) (by omega) (by omega) (by omega) (by omega) (by omega)] | rw [r1] | rw [r2 _ (by omega) (by omega)] | rw [r3 _ (by omega) (by omega)] | rw [r4 _ (by omega) (by omega)] | rw [r5 _ (by omega) (by omega)] | rw [r6 _ (by omega) (by omega)] | rw [r7 _ (by omega) (by omega)] | rw [r8 _ (by omega) (by omega)] | rw [fr2 _ (by omega) (by omega) (by omega) (by omega)] | rw [q1] | rw [q2] | rw [q3 _ (by omega) (by omega)] | rw [q4 _ (by omega) (by omega)] | rw [q5 _ (by omega) (by omega)] | rw [fr1 _ (by omega) (by omega)] | rw [p1] | rw [p2] | rw [p3 _ (by omega) (by omega)]
  · repeat first | rw [zk_eq] | rw [zk_ne (by omega)] | rw [zp_eq] | rw [zp_ne (by omega)] | rw [zcp_in (by omega)] | rw [fr3 _ (by omega) (by omega) (by omega) (by omega) (by omega) (by omega) (by omega) (by omega)] | rw [r1] | rw [r2 _ (by omega) (by omega)] | rw [r3 _ (by omega) (by omega)] | rw [r4 _ (by omega) (by omega)] | rw [r5 _ (by omega) (by omega)] | rw [r6 _ (by omega) (by omega)] | rw [r7 _ (by omega) (by omega)] | rw [r8 _ (by omega) (by omega)] | rw [fr2 _ (by omega) (by omega) (by omega) (by omega)] | rw [q1] | rw [q2] | rw [q3 _ (by omega) (by omega)] | rw [q4 _ (by omega) (by omega)] | rw [q5 _ (by omega) (by omega)] | rw [fr1 _ (by omega) (by omega)] | rw [p1] | rw [p2] | rw [p3 _ (by omega) (by omega)]
  · repeat first | rw [zk_eq] | rw [zk_ne (by omega)] | rw [zp_eq] | rw [zp_ne (by omega)] | rw [zcp_in (by omega)] | rw [fr3 _ (by omega) (by omega) (by omega) (by omega) (by omega) (by omega) (by omega) (by omega)] | rw [r1] | rw [r2 _ (by omega) (by omega)] | rw [r3 _ (by omega) (by omega)] | rw [r4 _ (by omega) (by omega)] | rw [r5 _ (by omega) (by omega)] | rw [r6 _ (by omega) (by omega)] | rw [r7 _ (by omega) (by omega)] | rw [r8 _ (by omega) (by omega)] | rw [fr2 _ (by omega) (by omega) (by omega) (by omega)] | rw [q1] | rw [q2] | rw [q3 _ (by omega) (by omega)] | rw [q4 _ (by omega) (by omega)] | rw [q5 _ (by omega) (by omega)] | rw [fr1 _ (by omega) (by omega)] | rw [p1] | rw [p2] | rw [p3 _ (by omega) (by omega)]
  · repeat first | rw [zk_eq] | rw [zk_ne (by omega)] | rw [zp_eq] | rw [zp_ne (by omega)] | rw [zcp_in (by omega)] | rw [fr3 _ (by omega) (by omega) (by omega) (by omega) (by omega) (by omega) (by omega) (by omega)] | rw [r1] | rw [r2 _ (by omega) (by omega)] | rw [r3 _ (by omega) (by omega)] | rw [r4 _ (by omega) (by omega)] | rw [r5 _ (by omega) (by omega)] | rw [r6 _ (by omega) (by omega)] | rw [r7 _ (by omega) (by omega)] | rw [r8 _ (by omega) (by omega)] | rw [fr2 _ (by omega) (by omega) (by omega) (by omega)] | rw [q1] | rw [q2] | rw [q3 _ (by omega) (by omega)] | rw [q4 _ (by omega) (by omega)] | rw [q5 _ (by omega) (by omega)] | rw [fr1 _ (by omega) (by omega)] | rw [p1] | rw [p2] | rw [p3 _ (by omega) (by omega)]
  · repeat first | rw [zk_eq] | rw [zk_ne (by omega)] | rw [zp_eq] | rw [zp_ne (by omega)] | rw [zcp_in (by omega)] | rw [fr3 _ (by omega) (by omega) (by omega) (by omega) (by omega) (by omega) (by omega) (by omega)] | rw [r1] | rw [r2 _ (by omega) (by omega)] | rw [r3 _ (by omega) (by omega)] | rw [r4 _ (by omega) (by omega)] | rw [r5 _ (by omega) (by omega)] | rw [r6 _ (by omega) (by omega)] | rw [r7 _ (by omega) (by omega)] | rw [r8 _ (by omega) (by omega)] | rw [fr2 _ (by omega) (by omega) (by omega) (by omega)] | rw [q1] | rw [q2] | rw [q3 _ (by omega) (by omega)] | rw [q4 _ (by omega) (by omega)] | rw [q5 _ (by omega) (by omega)] | rw [fr1 _ (by omega) (by omega)] | rw [p1] | rw [p2] | rw [p3 _ (by omega) (by omega)]
  · repeat first | rw [zk_eq] | rw [zk_ne (by omega)] | rw [zp_eq] | rw [zp_ne (by omega)] | rw [zcp_in (by omega)] | rw [fr3 _ (by omega) (by omega) (by omega) (by omega) (by omega) (by omega) (by omega) (by omega)] | rw [r1] | rw [r2 _ (by omega) (by omega)] | rw [r3 _ (by omega) (by omega)] | rw [r4 _ (by omega) (by omega)] | rw [r5 _ (by omega) (by omega)] | rw [r6 _ (by omega) (by omega)] | rw [r7 _ (by omega) (by omega)] | rw [r8 _ (by omega) (by omega)] | rw [fr2 _ (by omega) (by omega) (by omega) (by omega)] | rw [q1] | rw [q2] | rw [q3 _ (by omega) (by omega)] | rw [q4 _ (by omega) (by omega)] | rw [q5 _ (by omega) (by omega)] | rw [fr1 _ (by omega) (by omega)] | rw [p1] | rw [p2] | rw [p3 _ (by omega) (by omega)]
  · repeat first | rw [zk_eq] | rw [zk_ne (by omega)] | rw [zp_eq] | rw [zp_ne (by omega)] | rw [zcp_in (by omega)] | rw [fr3 _ (by omega) (by omega) (by omega) (by omega) (by omega) (by omega) (by omega) (by omega)] | rw [r1] | rw [r2 _ (by omega) (by omega)] | rw [r3 _ (by omega) (by omega)] | rw [r4 _ (by omega) (by omega)] | rw [r5 _ (by omega) (by omega)] | rw [r6 _ (by omega) (by omega)] | rw [r7 _ (by omega) (by omega)] | rw [r8 _ (by omega) (by omega)] | rw [fr2 _ (by omega) (by omega) (by omega) (by omega)] | rw [q1] | rw [q2] | rw [q3 _ (by omega) (by omega)] | rw [q4 _ (by omega) (by omega)] | rw [q5 _ (by omega) (by omega)] | rw [fr1 _ (by omega) (by omega)] | rw [p1] | rw [p2] | rw [p3 _ (by omega) (by omega)]
  · repeat first | rw [zk_eq] | rw [zk_ne (by omega)] | rw [zp_eq] | rw [zp_ne (by omega)] | rw [zcp_in (by omega)] | rw [fr3 _ (by omega) (by omega) (by omega) (by omega) (by omega) (by omega) (by omega) (by omega)] | rw [r1] | rw [r2 _ (by omega) (by omega)] | rw [r3 _ (by omega) (by omega)] | rw [r4 _ (by omega) (by omega)] | rw [r5 _ (by omega) (by omega)] | rw [r6 _ (by omega) (by omega)] | rw [r7 _ (by omega) (by omega)] | rw [r8 _ (by omega) (by omega)] | rw [fr2 _ (by omega) (by omega) (by omega) (by omega)] | rw [q1] | rw [q2] | rw [q3 _ (by omega) (by omega)] | rw [q4 _ (by omega) (by omega)] | rw [q5 _ (by omega) (by omega)] | rw [fr1 _ (by omega) (by omega)] | rw [p1] | rw [p2] | rw [p3 _ (by omega) (by omega)]
  · repeat first | rw [zk_eq] | rw [zk_ne (by omega)] | rw [zp_eq] | rw [zp_ne (by omega)] | rw [zcp_in (by omega)] | rw [fr3 _ (by omega) (by omega) (by omega) (by omega) (by omega) (by omega) (by omega) (by omega)] | rw [r1] | rw [r2 _ (by omega) (by omega)] | rw [r3 _ (by omega) (by omega)] | rw [r4 _ (by omega) (by omega)] | rw [r5 _ (by omega) (by omega)] | rw [r6 _ (by omega) (by omega)] | rw [r7 _ (by omega) (by omega)] | rw [r8 _ (by omega) (by omega)] | rw [fr2 _ (by omega) (by omega) (by omega) (by omega)] | rw [q1] | rw [q2] | rw [q3 _ (by omega) (by omega)] | rw [q4 _ (by omega) (by omega)] | rw [q5 _ (by omega) (by omega)] | rw [fr1 _ (by omega) (by omega)] | rw [p1] | rw [p2] | rw [p3 _ (by omega) (by omega)]
  · repeat first | rw [zk_eq] | rw [zk_ne (by omega)] | rw [zp_eq] | rw [zp_ne (by omega)] | rw [zcp_in (by omega)] | rw [fr3 _ (by omega) (by omega) (by omega) (by omega) (by omega) (by omega) (by omega) (by omega)] | rw [r1] | rw [r2 _ (by omega) (by omega)] | rw [r3 _ (by omega) (by omega)] | rw [r4 _ (by omega) (by omega)] | rw [r5 _ (by omega) (by omega)] | rw [r6 _ (by omega) (by omega)] | rw [r7 _ (by omega) (by omega)] | rw [r8 _ (by omega) (by omega)] | rw [fr2 _ (by omega) (by omega) (by omega) (by omega)] | rw [q1] | rw [q2] | rw [q3 _ (by omega) (by omega)] | rw [q4 _ (by omega) (by omega)] | rw [q5 _ (by omega) (by omega)] | rw [fr1 _ (by omega) (by omega)] | rw [p1] | rw [p2] | rw [p3 _ (by omega) (by omega)]
  · repeat first | rw [zk_eq] | rw [zk_ne (by omega)] | rw [zp_eq] | rw [zp_ne (by omega)] | rw [zcp_in (by omega)] | rw [fr3 _ (by omega) (by omega) (by omega) (by omega) (by omega) (by omega) (by omega) (by omega)] | rw [r1] | rw [r2 _ (by omega) (by omega)] | rw [r3 _ (by omega) (by omega)] | rw [r4 _ (by omega) (by omega)] | rw [r5 _ (by omega) (by omega)] | rw [r6 _ (by omega) (by omega)] | rw [r7 _ (by omega) (by omega)] | rw [r8 _ (by omega) (by omega)] | rw [fr2 _ (by omega) (by omega) (by omega) (by omega)] | rw [q1] | rw [q2] | rw [q3 _ (by omega) (by omega)] | rw [q4 _ (by omega) (by omega)] | rw [q5 _ (by omega) (by omega)] | rw [fr1 _ (by omega) (by omega)] | rw [p1] | rw [p2] | rw [p3 _ (by omega) (by omega)]
  · repeat first | rw [zk_eq] | rw [zk_ne (by omega)] | rw [zp_eq] | rw [zp_ne (by omega)] | rw [zcp_in (by omega)] | rw [fr3 _ (by omega) (by omega) (by omega) (by omega) (by omega) (by omega) (by omega) (by omega)] | rw [r1] | rw [r2 _ (by omega) (by omega)] | rw [r3 _ (by omega) (by omega)] | rw [r4 _ (by omega) (by omega)] | rw [r5 _ (by omega) (by omega)] | rw [r6 _ (by omega) (by omega)] | rw [r7 _ (by omega) (by omega)] | rw [r8 _ (by omega) (by omega)] | rw [fr2 _ (by omega) (by omega) (by omega) (by omega)] | rw [q1] | rw [q2] | rw [q3 _ (by omega) (by omega)] | rw [q4 _ (by omega) (by omega)] | rw [q5 _ (by omega) (by omega)] | rw [fr1 _ (by omega) (by omega)] | rw [p1] | rw [p2] | rw [p3 _ (by omega) (by omega)]
  · repeat first | rw [zk_eq] | rw [zk_ne (by omega)] | rw [zp_eq] | rw [zp_ne (by omega)] | rw [zcp_in (by omega)] | rw [fr3 _ (by omega) (by omega) (by omega) (by omega) (by omega) (by omega) (by omega) (by omega)] | rw [r1] | rw [r2 _ (by omega) (by omega)] | rw [r3 _ (by omega) (by omega)] | rw [r4 _ (by omega) (by omega)] | rw [r5 _ (by omega) (by omega)] | rw [r6 _ (by omega) (by omega)] | rw [r7 _ (by omega) (by omega)] | rw [r8 _ (by omega) (by omega)] | rw [fr2 _ (by omega) (by omega) (by omega) (by omega)] | rw [q1] | rw [q2] | rw [q3 _ (by omega) (by omega)] | rw [q4 _ (by omega) (by omega)] | rw [q5 _ (by omega) (by omega)] | rw [fr1 _ (by omega) (by omega)] | rw [p1] | rw [p2] | rw [p3 _ (by omega) (by omega)]
  · repeat first | rw [zk_eq] | rw [zk_ne (by omega)] | rw [zp_eq] | rw [zp_ne (by omega)] | rw [zcp_in (by omega)] | rw [fr3 _ (by omega) (by omega) (by omega) (by omega) (by omega) (by omega) (by omega) (by omega)] | rw [r1] | rw [r2 _ (by omega) (by omega)] | rw [r3 _ (by omega) (by omega)] | rw [r4 _ (by omega) (by omega)] | rw [r5 _ (by omega) (by omega)] | rw [r6 _ (by omega) (by omega)] | rw [r7 _ (by omega) (by omega)] | rw [r8 _ (by omega) (by omega)] | rw [fr2 _ (by omega) (by omega) (by omega) (by omega)] | rw [q1] | rw [q2] | rw [q3 _ (by omega) (by omega)] | rw [q4 _ (by omega) (by omega)] | rw [q5 _ (by omega) (by omega)] | rw [fr1 _ (by omega) (by omega)] | rw [p1] | rw [p2] | rw [p3 _ (by omega) (by omega)]
  · repeat first | rw [zk_eq] | rw [zk_ne (by omega)] | rw [zp_eq] | rw [zp_ne (by omega)] | rw [zcp_in (by omega)] | rw [fr3 _ (by omega) (by omega) (by omega) (by omega) (by omega) (by omega) (by omega) (by omega)] | rw [r1] | rw [r2 _ (by omega) (by omega)] | rw [r3 _ (by omega) (by omega)] | rw [r4 _ (by omega) (by omega)] | rw [r5 _ (by omega) (by omega)] | rw [r6 _ (by omega) (by omega)] | rw [r7 _ (by omega) (by omega)] | rw [r8 _ (by omega) (by omega)] | rw [fr2 _ (by omega) (by omega) (by omega) (by omega)] | rw [q1] | rw [q2] | rw [q3 _ (by omega) (by omega)] | rw [q4 _ (by omega) (by omega)] | rw [q5 _ (by omega) (by omega)] | rw [fr1 _ (by omega) (by omega)] | rw [p1] | rw [p2] | rw [p3 _ (by omega) (by omega)]
  · repeat first | rw [zk_eq] | rw [zk_ne (by omega)] | rw [zp_eq] | rw [zp_ne (by omega)] | rw [zcp_in (by omega)] | rw [fr3 _ (by omega) (by omega) (by omega) (by omega) (by omega) (by omega) (by omega) (by omega)] | rw [r1] | rw [r2 _ (by omega) (by omega)] | rw [r3 _ (by omega) (by omega)] | rw [r4 _ (by omega) (by omega)] | rw [r5 _ (by omega) (by omega)] | rw [r6 _ (by omega) (by omega)] | rw [r7 _ (by omega) (by omega)] | rw [r8 _ (by omega) (by omega)] | rw [fr2 _ (by omega) (by omega) (by omega) (by omega)] | rw [q1] | rw [q2] | rw [q3 _ (by omega) (by omega)] | rw [q4 _ (by omega) (by omega)] | rw [q5 _ (by omega) (by omega)] | rw [fr1 _ (by omega) (by omega)] | rw [p1] | rw [p2] | rw [p3 _ (by omega) (by omega)]
  · repeat first | rw [zk_eq] | rw [zk_ne (by omega)] | rw [zp_eq] | rw [zp_ne (by omega)] | rw [zcp_in (by omega)] | rw [fr3 _ (by omega) (by omega) (by omega) (by omega) (by omega) (by omega) (by omega) (by omega)] | rw [r1] | rw [r2 _ (by omega) (by omega)] | rw [r3 _ (by omega) (by omega)] | rw [r4 _ (by omega) (by omega)] | rw [r5 _ (by omega) (by omega)] | rw [r6 _ (by omega) (by omega)] | rw [r7 _ (by omega) (by omega)] | rw [r8 _ (by omega) (by omega)] | rw [fr2 _ (by omega) (by omega) (by omega) (by omega)] | rw [q1] | rw [q2] | rw [q3 _ (by omega) (by omega)] | rw [q4 _ (by omega) (by omega)] | rw [q5 _ (by omega) (by omega)] | rw [fr1 _ (by omega) (by omega)] | rw [p1] | rw [p2] | rw [p3 _ (by omega) (by omega)]
  · repeat first | rw [zk_eq] | rw [zk_ne (by omega)] | rw [zp_eq] | rw [zp_ne (by omega)] | rw [zcp_in (by omega)] | rw [fr3 _ (by omega) (by omega) (by omega) (by omega) (by omega) (by omega) (by omega) (by omega)] | rw [r1] | rw [r2 _ (by omega) (by omega)] | rw [r3 _ (by omega) (by omega)] | rw [r4 _ (by omega) (by omega)] | rw [r5 _ (by omega) (by omega)] | rw [r6 _ (by omega) (by omega)] | rw [r7 _ (by omega) (by omega)] | rw [r8 _ (by omega) (by omega)] | rw [fr2 _ (by omega) (by omega) (by omega) (by omega)] | rw [q1] | rw [q2] | rw [q3 _ (by omega) (by omega)] | rw [q4 _ (by omega) (by omega)] | rw [q5 _ (by omega) (by omega)] | rw [fr1 _ (by omega) (by omega)] | rw [p1] | rw [p2] | rw [p3 _ (by omega) (by omega)]
  · repeat first | rw [zk_eq] | rw [zk_ne (by omega)] | rw [zp_eq] | rw [zp_ne (by omega)] | rw [zcp_in (by omega)] | rw [fr3 _ (by omega) (by omega) (by omega) (by omega) (by omega) (by omega) (by omega) (by omega)] | rw [r1] | rw [r2 _ (by omega) (by omega)] | rw [r3 _ (by omega) (by omega)] | rw [r4 _ (by omega) (by omega)] | rw [r5 _ (by omega) (by omega)] | rw [r6 _ (by omega) (by omega)] | rw [r7 _ (by omega) (by omega)] | rw [r8 _ (by omega) (by omega)] | rw [fr2 _ (by omega) (by omega) (by omega) (by omega)] | rw [q1] | rw [q2] | rw [q3 _ (by omega) (by omega)] | rw [q4 _ (by omega) (by omega)] | rw [q5 _ (by omega) (by omega)] | rw [fr1 _ (by omega) (by omega)] | rw [p1] | rw [p2] | rw [p3 _ (by omega) (by omega)]
theorem zcp_s (c : Int) (t : Int → Int) {k : Int} : zp (zcp (fun _ => c) t k) k c = zcp (fun _ => c) t (k + 1) := by
  funext j
  by_cases e : j = k
  · rw [e, zp_eq]
    exact (if_pos (by omega)).symm
  · rw [zp_ne e]
    unfold zcp
    by_cases h : j < k
    · rw [if_pos h, if_pos (by omega)]
    · rw [if_neg h, if_neg (by omega)]
theorem cX_fill_l {N : Nat} {G F : GM} {n : Nat} {a len : Nat} (ha : z_sh a = (1, len, [])) (haN : a < N) (hl : len ≤ 144) {c : Int} (hc : zr c) : ∀ (d : Nat) (k : Nat) (t : Int → Int), (len : Int) - (k : Int) < (d : Int) → (k : Int) ≤ len → (∀ j, 0 ≤ j → j < (k : Int) → t j = c) → zW N 279 5 [.ref a, .int (zi c), .int (zi (k : Int)), .int (zi (len : Int))] [] (zk G a t) F n (zV fun G' F' n' => (∃ t : Int → Int, (∀ j : Int, 0 ≤ j → j < len → t j = c) ∧ G' = zk G a t) ∧ F' = F ∧ n' = n) := by
  intro d
  induction d with
  | zero =>
    intro k t hd hj ht
    exact absurd hd (by omega)
  | succ d ih =>
    intro k t hd hj ht
    refine zs_iload (ip' := 6) rfl rfl rfl ?_
    refine zs_iload (ip' := 7) rfl rfl rfl ?_
    refine zs_icmp_ge (t := 14) (ip' := 8) rfl rfl (by omega) (by omega) ?_ ?_
    · intro h7
      refine zW_1 rfl ?_
      exact ⟨rfl, ⟨t, fun j j0 j1 => ht j j0 (by omega), rfl⟩, rfl, rfl⟩
    · intro h7
      refine zs_aload (ip' := 9) rfl rfl rfl ?_
      refine zs_iload (ip' := 10) rfl rfl rfl ?_
      refine zs_iload (ip' := 11) rfl rfl rfl ?_
      refine zs_iast (ip' := 12) rfl rfl haN ha (by omega) (by omega) ?_
      rw [zk_eq, zk_zk]
      refine zs_iinc2 (ip' := 13) rfl rfl zi_k1 ?_
      refine zs_goto (t := 5) rfl ?_
      exact ih (k + 1) (zp t (k : Int) c) (by omega) (by omega) (fun j j0 j1 => by
        by_cases e : j = (k : Int)
        · rw [e, zp_eq]
        · rw [zp_ne e]
          exact ht j j0 (by omega))
theorem cX_fill {N : Nat} {G F : GM} {n : Nat} {a len : Nat} (ha : z_sh a = (1, len, [])) (haN : a < N) (hl : len ≤ 144) {c : Int} (hc : zr c) : zC N 279 [.ref a, .int (zi c)] G F n (zV fun G' F' n' => (∃ t : Int → Int, (∀ j : Int, 0 ≤ j → j < len → t j = c) ∧ G' = zk G a t) ∧ F' = F ∧ n' = n) := by
  refine zC_i (L0 := [.ref a, .int (zi c), .null, .null]) rfl ?_
  refine zs_pushI (ip' := 1) rfl rfl zi_k0 ?_
  refine zs_istore2 (ip' := 2) rfl rfl ?_
  refine zs_aload (ip' := 3) rfl rfl rfl ?_
  refine zs_alen (ip' := 4) rfl rfl haN ha ?_
  refine zs_istore3 (ip' := 5) rfl rfl ?_
  have h := cX_fill_l (G := G) (F := F) (n := n) ha haN hl hc (len + 1) 0 (G a) (by omega) (by omega) (fun j a b => absurd b (by omega))
  rw [zk_self] at h
  exact h
