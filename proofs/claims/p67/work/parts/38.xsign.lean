/-! The program: signs, planks, steps, lights that lead astray (printed by wip/whole/src38.py). -/
theorem RX_c {G : GM} {w : Nat} {s : Int → Int} (hR : RX G w s) {c : Int} (hx : 0 ≤ c % 12 ∧ c % 12 < s 0) (hy : 0 ≤ c / 12 ∧ c / 12 < s 1) : G (16 * w + 2) c = zgc (s (30 + 12 * (c / 12) + c % 12)) := by
  have h := hR.2.2.1 (c % 12) (c / 12) hx.1 hx.2 hy.1 hy.2
  rw [show 12 * (c / 12) + c % 12 = c by omega] at h
  exact h
theorem mOk_g {s : Int → Int} (hok : mOk s) {x y : Int} (hx : 0 ≤ x ∧ x < 12) (hy : 0 ≤ y ∧ y < 12) : (0 ≤ s (30 + 12 * y + x) ∧ s (30 + 12 * y + x) ≤ 2) ∨ (11 ≤ s (30 + 12 * y + x) ∧ s (30 + 12 * y + x) ≤ 19) := by
  obtain ⟨-, -, -, -, -, -, -, hc, -⟩ := hok
  have h := hc (12 * y + x) (by omega) (by omega)
  rw [← Int.add_assoc] at h
  exact h
theorem xLet_zgc {v : Int} (h : (0 ≤ v ∧ v ≤ 2) ∨ (11 ≤ v ∧ v ≤ 19)) : xLet (zgc v) = if v = 0 then 102 else if v = 1 then 119 else if v = 2 then 104 else 112 := by
  obtain ⟨-, g1, g2, -, -, g3⟩ := zgc_rng h
  unfold xLet
  by_cases e0 : v = 0
  · rw [if_pos e0, if_neg (by omega), if_pos (by omega)]
  · by_cases e1 : v = 1
    · rw [if_neg e0, if_pos e1, if_pos (by omega)]
    · by_cases e2 : v = 2
      · rw [if_neg e0, if_neg e1, if_pos e2, if_neg (by omega), if_neg (by omega), if_pos (by omega)]
      · rw [if_neg e0, if_neg e1, if_neg e2, if_neg (by omega), if_neg (by omega), if_neg (by omega)]
theorem bmod_sm {v : Int} (v0 : 0 ≤ v) (v1 : v < 128) : v.bmod 256 = v := by
  show (if v % ((256 : Nat) : Int) < (((256 : Nat) : Int) + 1) / 2 then v % ((256 : Nat) : Int) else v % ((256 : Nat) : Int) - ((256 : Nat) : Int)) = v
  rw [if_pos (by omega)]
  omega
theorem xLet_rng (v : Int) : 0 ≤ xLet v ∧ xLet v ≤ 127 := by
  unfold xLet
  split
  · omega
  · split
    · omega
    · split <;> omega
theorem cR_planks_i {N : Nat} {G F : GM} {n : Nat} (hN : 229 ≤ N) {w : Nat} (hw : w < 12) {s : Int → Int} (hok : mOk s) (hR : RX G w s) {K : Nat} (hK : (K : Int) < s 1) {Q : Zq} (hk : ∀ a3 : Value, zW N 139 4 [.ref (16 * w + 1), .int (zi (zsum (sPlankRow s) (K + 1))), .int (zi ((K : Int) + 1)), a3] [] G F n Q) : ∀ (d : Nat) (k : Nat), s 0 - (k : Int) < (d : Int) → (k : Int) ≤ s 0 → zW N 139 10 [.ref (16 * w + 1), .int (zi (zsum (sPlankRow s) K + zcnt (fun x => 10 < s (30 + 12 * (K : Int) + x)) k)), .int (zi (K : Int)), .int (zi (k : Int))] [] G F n Q := by
  intro d
  induction d with
  | zero =>
    intro k hd hj
    exact absurd hd (by omega)
  | succ d ih =>
    intro k hd hj
    have b0 := hok.1
    have b1 := hok.2.1
    have c0 := hR.1.1
    have c1 := hR.1.2.1
    refine zs_iload (ip' := 11) rfl rfl rfl ?_
    refine zs_aload (ip' := 12) rfl rfl rfl ?_
    refine zs_getI (ip' := 13) rfl rfl (by omega) (zsh_w1 hw) rfl (q := 0) rfl ?_
    intro hl12 hu12
    rw [c0] at hl12 hu12 ⊢
    refine zs_icmp_ge (t := 23) (ip' := 14) rfl rfl (by omega) (by omega) ?_ ?_
    · intro h13
      refine zs_iinc2 (ip' := 24) rfl rfl zi_k1 ?_
      refine zs_goto (t := 4) rfl ?_
      have e : zsum (sPlankRow s) K + zcnt (fun x => 10 < s (30 + 12 * (K : Int) + x)) k = zsum (sPlankRow s) (K + 1) := by
        rw [show k = (s 0).toNat by omega]
        rfl
      rw [e]
      exact hk _
    · intro h13
      have hg := hR.2.2.1 (k : Int) (K : Int) (by omega) (by omega) (by omega) hK
      have hg2 := (zgc_rng (mOk_g hok (x := (k : Int)) (y := (K : Int)) ⟨by omega, by omega⟩ ⟨by omega, by omega⟩)).2.2.2.1
      rw [← hg] at hg2
      refine zs_aload (ip' := 15) rfl rfl rfl ?_
      refine zs_iload (ip' := 16) rfl rfl rfl ?_
      refine zs_iload (ip' := 17) rfl rfl rfl ?_
      refine zW_cP (ip' := 18) rfl rfl cX_cellAt rfl rfl rfl ?_
      refine zW_cP (ip' := 19) rfl rfl (cX_holdsPlank hN hw (by omega)) rfl rfl (z_ok3 (by omega) (zsh_w1 hw) rfl rfl rfl) ?_
      refine zs_if_eqB (t := 21) (ip' := 20) rfl rfl ?_ ?_
      · intro h19
        refine zs_iinc3 (ip' := 22) rfl rfl zi_k1 ?_
        refine zs_goto (t := 10) rfl ?_
        have e : zcnt (fun x => 10 < s (30 + 12 * (K : Int) + x)) (k + 1) = zcnt (fun x => 10 < s (30 + 12 * (K : Int) + x)) k := by
          show _ + (if 10 < s (30 + 12 * (K : Int) + (k : Int)) then 1 else 0) = _
          rw [if_neg (fun q => h19 (hg2.mpr q)), Int.add_zero]
        have := ih (k + 1) (by omega) (by omega)
        rw [e] at this
        exact this
      · intro h19
        refine zs_iinc1 (ip' := 21) rfl rfl zi_k1 ?_
        refine zs_iinc3 (ip' := 22) rfl rfl zi_k1 ?_
        refine zs_goto (t := 10) rfl ?_
        have e : zcnt (fun x => 10 < s (30 + 12 * (K : Int) + x)) (k + 1) = zcnt (fun x => 10 < s (30 + 12 * (K : Int) + x)) k + 1 := by
          show _ + (if 10 < s (30 + 12 * (K : Int) + (k : Int)) then 1 else 0) = _
          rw [if_pos (hg2.mp h19)]
        have := ih (k + 1) (by omega) (by omega)
        rw [e, ← Int.add_assoc] at this
        exact this
theorem cR_planks_o {N : Nat} {G F : GM} {n : Nat} (hN : 229 ≤ N) {w : Nat} (hw : w < 12) {s : Int → Int} (hok : mOk s) (hR : RX G w s) : ∀ (d : Nat) (k : Nat) (a3 : Value), s 1 - (k : Int) < (d : Int) → (k : Int) ≤ s 1 → zW N 139 4 [.ref (16 * w + 1), .int (zi (zsum (sPlankRow s) k)), .int (zi (k : Int)), a3] [] G F n (fun o G' F' n' => o = .inl (some (.int (zi (sPlanks s)))) ∧ G' = G ∧ F' = F ∧ n' = n) := by
  intro d
  induction d with
  | zero =>
    intro k a3 hd hj
    exact absurd hd (by omega)
  | succ d ih =>
    intro k a3 hd hj
    have b0 := hok.1
    have b1 := hok.2.1
    have c0 := hR.1.1
    have c1 := hR.1.2.1
    refine zs_iload (ip' := 5) rfl rfl rfl ?_
    refine zs_aload (ip' := 6) rfl rfl rfl ?_
    refine zs_getI (ip' := 7) rfl rfl (by omega) (zsh_w1 hw) rfl (q := 1) rfl ?_
    intro hl6 hu6
    rw [c1] at hl6 hu6 ⊢
    refine zs_icmp_ge (t := 25) (ip' := 8) rfl rfl (by omega) (by omega) ?_ ?_
    · intro h7
      refine zs_iload (ip' := 26) rfl rfl rfl ?_
      refine zW_0 rfl ?_
      exact zfin (congrArg (zsum (sPlankRow s)) (by omega))
    · intro h7
      refine zs_pushI (ip' := 9) rfl rfl zi_k0 ?_
      refine zs_istore3 (ip' := 10) rfl rfl ?_
      have := cR_planks_i (K := k) hN hw hok hR (by omega) (fun a3 => ih (k + 1) a3 (by omega) (by omega)) 13 0 (by omega) (by omega)
      rw [show zcnt (fun x => 10 < s (30 + 12 * (k : Int) + x)) 0 = 0 from rfl, Int.add_zero] at this
      exact this
theorem cR_planks {N : Nat} {G F : GM} {n : Nat} (hN : 229 ≤ N) {w : Nat} (hw : w < 12) {s : Int → Int} (hok : mOk s) (hR : RX G w s) : zPu N 139 [.ref (16 * w + 1)] (sPlanks s) G F n := by
  refine zPu_i (L0 := [.ref (16 * w + 1), .null, .null, .null]) rfl ?_
  refine zs_pushI (ip' := 1) rfl rfl zi_k0 ?_
  refine zs_istore1 (ip' := 2) rfl rfl ?_
  refine zs_pushI (ip' := 3) rfl rfl zi_k0 ?_
  refine zs_istore2 (ip' := 4) rfl rfl ?_
  exact cR_planks_o hN hw hok hR 13 0 _ (by have := hok.2.1; omega) (by have := hok.2.1; omega)
theorem cR_sum_l {N : Nat} {G F : GM} {n : Nat} (hN : 229 ≤ N) {w : Nat} (hw : w < 12) {s : Int → Int} (hok : mOk s) (hR : RX G w s) : ∀ (d : Nat) (k : Nat), s 5 - (k : Int) < (d : Int) → (k : Int) ≤ s 5 → zW N 156 4 [.ref (16 * w + 7), .int (zi (sStp s k)), .int (zi (k : Int))] [] G F n (fun o G' F' n' => o = .inl (some (.int (zi (sStp s (s 5).toNat)))) ∧ G' = G ∧ F' = F ∧ n' = n) := by
  intro d
  induction d with
  | zero =>
    intro k hd hj
    exact absurd hd (by omega)
  | succ d ih =>
    intro k hd hj
    obtain ⟨e4, e5⟩ := RX_n hR
    have b4 := hok.2.2.2.2.1
    have b5 := hok.2.2.2.2.2.1
    have hs := sStp_rng hok k hj
    refine zs_iload (ip' := 5) rfl rfl rfl ?_
    refine zs_aload (ip' := 6) rfl rfl rfl ?_
    refine zs_getI (ip' := 7) rfl rfl (by omega) (zsh_w7 hw) rfl (q := 0) rfl ?_
    intro hl6 hu6
    rw [e5] at hl6 hu6 ⊢
    refine zs_icmp_ge (t := 17) (ip' := 8) rfl rfl (by omega) (by omega) ?_ ?_
    · intro h7
      refine zs_iload (ip' := 18) rfl rfl rfl ?_
      refine zW_0 rfl ?_
      exact zfin (congrArg (sStp s) (by omega))
    · intro h7
      have hst := (hR.2.2.2.2.2 (k : Int) (by omega) (by omega)).2.2.1
      have hs2 := sStp_rng hok (k + 1) (by omega)
      have es : sStp s (k + 1) = sStp s k + s (214 + 7 * (k : Int) + 6) := rfl
      refine zs_iload (ip' := 9) rfl rfl rfl ?_
      refine zs_aload (ip' := 10) rfl rfl rfl ?_
      refine zs_getR (ip' := 11) rfl rfl (r := 16 * w + 10) (by omega) (zsh_w7 hw) rfl ?_
      refine zs_iload (ip' := 12) rfl rfl rfl ?_
      refine zs_iald (ip' := 13) rfl rfl (by omega) (zsh_w10 hw) (by omega) ?_
      intro hl12 hu12
      rw [hst] at hl12 hu12 ⊢
      refine zs_iadd (ip' := 14) rfl rfl ?_
      refine zs_istore1 (ip' := 15) rfl rfl ?_
      refine zs_iinc2 (ip' := 16) rfl rfl zi_k1 ?_
      refine zs_goto (t := 4) rfl ?_
      exact ih (k + 1) (by omega) (by omega)
theorem cR_sum {N : Nat} {G F : GM} {n : Nat} (hN : 229 ≤ N) {w : Nat} (hw : w < 12) {s : Int → Int} (hok : mOk s) (hR : RX G w s) : zPu N 156 [.ref (16 * w + 7)] (sStp s (s 5).toNat) G F n := by
  refine zPu_i (L0 := [.ref (16 * w + 7), .null, .null]) rfl ?_
  refine zs_pushI (ip' := 1) rfl rfl zi_k0 ?_
  refine zs_istore1 (ip' := 2) rfl rfl ?_
  refine zs_pushI (ip' := 3) rfl rfl zi_k0 ?_
  refine zs_istore2 (ip' := 4) rfl rfl ?_
  exact cR_sum_l hN hw hok hR 7 0 (by have := hok.2.2.2.2.2.1; omega) (by have := hok.2.2.2.2.2.1; omega)
theorem cR_wrong_l {N : Nat} {G F : GM} {n : Nat} (hN : 229 ≤ N) {w : Nat} (hw : w < 12) {s : Int → Int} (hok : mOk s) (hR : RX G w s) {l0 : Int} : ∀ (d : Nat) (k : Nat) (seen c : Int), 9 - (k : Int) < (d : Int) → (k : Int) ≤ 9 → (-1 ≤ c ∧ c < s 4) → zW N 148 6 [.ref (16 * w + 3), .int (zi l0), .int (zi seen), .int (zi c), .int (zi (k : Int))] [] G F n (fun o G' F' n' => o = .inl (some (.int (zi (sAst s (9 - k) c seen)))) ∧ G' = G ∧ F' = F ∧ n' = n) := by
  intro d
  induction d with
  | zero =>
    intro k seen c hd hj hc
    exact absurd hd (by omega)
  | succ d ih =>
    intro k seen c hd hj hc
    obtain ⟨e4, e5⟩ := RX_n hR
    have b4 := hok.2.2.2.2.1
    have b5 := hok.2.2.2.2.2.1
    refine zs_iload (ip' := 7) rfl rfl rfl ?_
    refine zs_pushI (ip' := 8) rfl rfl zi_k8 ?_
    refine zs_icmp_gt (t := 37) (ip' := 9) rfl rfl (by omega) (by omega) ?_ ?_
    · intro h8
      have ek : 9 - k = 0 := by omega
      rw [ek]
      refine zs_pushI (ip' := 38) rfl rfl zi_k0 ?_
      refine zW_0b rfl (Or.inl rfl) ?_
      exact zfin rfl
    · intro h8
      have ek : 9 - k = (9 - (k + 1)) + 1 := by omega
      rw [ek]
      refine zs_aload (ip' := 10) rfl rfl rfl ?_
      refine zs_iload (ip' := 11) rfl rfl rfl ?_
      refine zW_cP (ip' := 12) rfl rfl (cX_containsL hN hw (by omega)) rfl rfl (z_ok3 (by omega) (zsh_w3 hw) rfl rfl rfl) ?_
      refine zs_if_eqB (t := 37) (ip' := 13) rfl rfl ?_ ?_
      · intro h12
        refine zs_pushI (ip' := 38) rfl rfl zi_k0 ?_
        refine zW_0b rfl (Or.inl rfl) ?_
        exact zfin (if_pos (by omega)).symm
      · intro h12
        obtain ⟨q0, q1⟩ := h12
        rw [e4] at q1
        have hlr := (hR.2.2.2.1 c q0 q1).2.2
        have hnx := (hok.2.2.2.2.2.2.2.2.1 c q0 q1).2.2.2
        have hbt := hR.2.2.2.2.1 c q0 (by omega)
        refine zs_iload (ip' := 14) rfl rfl rfl ?_
        refine zs_iload (ip' := 15) rfl rfl rfl ?_
        refine zW_cP (ip' := 16) rfl rfl cX_holds rfl rfl rfl ?_
        refine zs_if_neB (t := 22) (ip' := 17) rfl rfl ?_ ?_
        · intro h16
          refine zs_pushI (ip' := 23) rfl rfl zi_k1 ?_
          refine zW_0b rfl (Or.inr rfl) ?_
          exact zfin ((if_neg (by omega)).trans (if_pos (Or.inr h16))).symm
        · intro h16
          refine zs_aload (ip' := 18) rfl rfl rfl ?_
          refine zs_getI (ip' := 19) rfl rfl (by omega) (zsh_w3 hw) rfl (q := 1) rfl ?_
          intro hl18 hu18
          refine zs_iload (ip' := 20) rfl rfl rfl ?_
          refine zW_cP (ip' := 21) rfl rfl cX_holds rfl rfl rfl ?_
          refine zs_if_neB (t := 24) (ip' := 22) rfl rfl ?_ ?_
          · intro h21
            refine zs_iload (ip' := 25) rfl rfl rfl ?_
            refine zs_pushI (ip' := 26) rfl rfl zi_k1 ?_
            refine zs_iload (ip' := 27) rfl rfl rfl ?_
            refine zs_ishl (ip' := 28) rfl rfl ?_
            refine zs_ior (ip' := 29) rfl rfl ?_
            refine zs_istore2 (ip' := 30) rfl rfl ?_
            refine zs_aload (ip' := 31) rfl rfl rfl ?_
            refine zs_getR (ip' := 32) rfl rfl (r := 16 * w + 6) (by omega) (zsh_w3 hw) rfl ?_
            refine zs_iload (ip' := 33) rfl rfl rfl ?_
            refine zs_iald (ip' := 34) rfl rfl (by omega) (zsh_w6 hw) (by omega) ?_
            intro hl33 hu33
            rw [hlr] at hl33 hu33 ⊢
            refine zs_istore3 (ip' := 35) rfl rfl ?_
            refine zs_iinc4 (ip' := 36) rfl rfl zi_k1 ?_
            refine zs_goto (t := 6) rfl ?_
            have e : sAst s ((9 - (k + 1)) + 1) c seen = sAst s (9 - (k + 1)) (s (174 + 5 * c + 4)) (zadd seen c) := (if_neg (by omega)).trans (if_neg (fun q => q.elim (fun a => absurd (hbt.mp h21).2 (by omega)) h16))
            rw [e]
            exact ih (k + 1) _ _ (by omega) (by omega) (by omega)
          · intro h21
            refine zs_pushI (ip' := 23) rfl rfl zi_k1 ?_
            refine zW_0b rfl (Or.inr rfl) ?_
            exact zfin ((if_neg (by omega)).trans (if_pos (Or.inl (by
              have := fun q => h21 (hbt.mpr ⟨q1, q⟩)
              omega)))).symm
theorem cR_wrong {N : Nat} {G F : GM} {n : Nat} (hN : 229 ≤ N) {w : Nat} (hw : w < 12) {s : Int → Int} (hok : mOk s) (hR : RX G w s) {l : Int} (hl : -1 ≤ l ∧ l < s 4) : zPu N 148 [.ref (16 * w + 3), .int (zi l)] (sAst s 9 l 0) G F n := by
  refine zPu_i (L0 := [.ref (16 * w + 3), .int (zi l), .null, .null, .null]) rfl ?_
  refine zs_pushI (ip' := 1) rfl rfl zi_k0 ?_
  refine zs_istore2 (ip' := 2) rfl rfl ?_
  refine zs_iload (ip' := 3) rfl rfl rfl ?_
  refine zs_istore3 (ip' := 4) rfl rfl ?_
  refine zs_pushI (ip' := 5) rfl rfl zi_k0 ?_
  refine zs_istore4 (ip' := 6) rfl rfl ?_
  exact cR_wrong_l hN hw hok hR 10 0 0 l (by omega) (by omega) hl
