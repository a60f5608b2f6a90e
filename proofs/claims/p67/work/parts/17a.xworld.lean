/-! The program: what it asks its worlds (printed by wip/whole/src34.py). -/
theorem bt_1 : ∀ i, i < 32 → bt 1 i = decide (i = 0) := by decide +kernel
theorem zhas_01 (m l : Int) : zand (zshr m l) 1 = 0 ∨ zand (zshr m l) 1 = 1 := by
  have e2 : zand (zshr m l) 1 = (zi (zshr m l) &&& 1).toInt := by
    unfold zand
    rw [← zi_1]
  rw [e2]
  generalize zi (zshr m l) = a
  cases h : bt a 0 with
  | true =>
    right
    have h1 : a &&& 1 = 1 := b_ext (fun i hi => by
      rw [b_and, bt_1 i hi]
      by_cases e : i = 0
      · subst e
        rw [h]
        rfl
      · rw [decide_eq_false e, Bool.and_false])
    rw [h1]
    decide +kernel
  | false =>
    left
    have h1 : a &&& 1 = 0 := b_ext (fun i hi => by
      rw [b_and, bt_1 i hi, b_0]
      by_cases e : i = 0
      · subst e
        rw [h]
        rfl
      · rw [decide_eq_false e, Bool.and_false])
    rw [h1]
    decide +kernel
theorem cX_holds {N : Nat} {G F : GM} {n : Nat} {a l : Int} : zPu N 277 [.int (zi a), .int (zi l)] (zb (zhas a l)) G F n := by
  refine zPu_i (L0 := [.int (zi a), .int (zi l)]) rfl ?_
  obtain ⟨z1, z2⟩ := zr_and (zshr a l) 1
  refine zs_iload (ip' := 1) rfl rfl rfl ?_
  refine zs_iload (ip' := 2) rfl rfl rfl ?_
  refine zs_ishr (ip' := 3) rfl rfl ?_
  refine zs_pushI (ip' := 4) rfl rfl zi_k1 ?_
  refine zs_iand (ip' := 5) rfl rfl ?_
  refine zs_if_eq (t := 8) (ip' := 6) rfl rfl (by omega) ?_ ?_
  · intro h5
    refine zs_pushI (ip' := 9) rfl rfl zi_k0 ?_
    refine zW_0b rfl (Or.inl rfl) ?_
    exact zfin (zb_f (fun q => absurd ((show zand (zshr a l) 1 = 1 from q).symm.trans h5) (by decide))).symm
  · intro h5
    refine zs_pushI (ip' := 7) rfl rfl zi_k1 ?_
    refine zs_goto (t := 9) rfl ?_
    refine zW_0b rfl (Or.inr rfl) ?_
    exact zfin (zb_t ((zhas_01 a l).resolve_left h5)).symm
theorem cX_cellAt {N : Nat} {G F : GM} {n : Nat} {x y : Int} : zPu N 274 [.int (zi x), .int (zi y)] (12 * y + x) G F n := by
  refine zPu_i (L0 := [.int (zi x), .int (zi y)]) rfl ?_
  refine zs_iload (ip' := 1) rfl rfl rfl ?_
  refine zs_pushI (ip' := 2) rfl rfl zi_k12 ?_
  refine zs_imul (ip' := 3) rfl rfl ?_
  refine zs_iload (ip' := 4) rfl rfl rfl ?_
  refine zs_iadd (ip' := 5) rfl rfl ?_
  refine zW_0 rfl ?_
  exact zfin (by omega)
theorem cX_columnOf {N : Nat} {G F : GM} {n : Nat} {c : Int} (hc : 0 ≤ c ∧ c ≤ 143) : zPu N 275 [.int (zi c)] (c % 12) G F n := by
  refine zPu_i (L0 := [.int (zi c)]) rfl ?_
  refine zs_iload (ip' := 1) rfl rfl rfl ?_
  refine zs_pushI (ip' := 2) rfl rfl zi_k12 ?_
  refine zs_irem (ip' := 3) rfl rfl (by omega) (by omega) ?_
  refine zW_0 rfl ?_
  exact zfin rfl
theorem cX_rowOf {N : Nat} {G F : GM} {n : Nat} {c : Int} (hc : 0 ≤ c ∧ c ≤ 143) : zPu N 276 [.int (zi c)] (c / 12) G F n := by
  refine zPu_i (L0 := [.int (zi c)]) rfl ?_
  refine zs_iload (ip' := 1) rfl rfl rfl ?_
  refine zs_pushI (ip' := 2) rfl rfl zi_k12 ?_
  refine zs_idiv (ip' := 3) rfl rfl (by omega) (by omega) ?_
  refine zW_0 rfl ?_
  exact zfin rfl
theorem cX_contains {N : Nat} {G F : GM} {n : Nat} (hN : 229 ≤ N) {w : Nat} (hw : w < 12) {x y : Int} (hx : zr x) (hy : zr y) : zPu N 136 [.ref (16 * w + 1), .int (zi x), .int (zi y)] (zb (0 ≤ x ∧ x < G (16 * w + 1) 0 ∧ 0 ≤ y ∧ y < G (16 * w + 1) 1)) G F n := by
  refine zPu_i (L0 := [.ref (16 * w + 1), .int (zi x), .int (zi y)]) rfl ?_
  refine zs_iload (ip' := 1) rfl rfl rfl ?_
  refine zs_if_lt (t := 14) (ip' := 2) rfl rfl (by omega) ?_ ?_
  · intro h1
    refine zs_pushI (ip' := 15) rfl rfl zi_k0 ?_
    refine zW_0b rfl (Or.inl rfl) ?_
    exact zfin (zb_f (by omega)).symm
  · intro h1
    refine zs_iload (ip' := 3) rfl rfl rfl ?_
    refine zs_aload (ip' := 4) rfl rfl rfl ?_
    refine zs_getI (ip' := 5) rfl rfl (by omega) (zsh_w1 hw) rfl (q := 0) rfl ?_
    intro hl4 hu4
    refine zs_icmp_ge (t := 14) (ip' := 6) rfl rfl (by omega) (by omega) ?_ ?_
    · intro h5
      refine zs_pushI (ip' := 15) rfl rfl zi_k0 ?_
      refine zW_0b rfl (Or.inl rfl) ?_
      exact zfin (zb_f (by omega)).symm
    · intro h5
      refine zs_iload (ip' := 7) rfl rfl rfl ?_
      refine zs_if_lt (t := 14) (ip' := 8) rfl rfl (by omega) ?_ ?_
      · intro h7
        refine zs_pushI (ip' := 15) rfl rfl zi_k0 ?_
        refine zW_0b rfl (Or.inl rfl) ?_
        exact zfin (zb_f (by omega)).symm
      · intro h7
        refine zs_iload (ip' := 9) rfl rfl rfl ?_
        refine zs_aload (ip' := 10) rfl rfl rfl ?_
        refine zs_getI (ip' := 11) rfl rfl (by omega) (zsh_w1 hw) rfl (q := 1) rfl ?_
        intro hl10 hu10
        refine zs_icmp_ge (t := 14) (ip' := 12) rfl rfl (by omega) (by omega) ?_ ?_
        · intro h11
          refine zs_pushI (ip' := 15) rfl rfl zi_k0 ?_
          refine zW_0b rfl (Or.inl rfl) ?_
          exact zfin (zb_f (by omega)).symm
        · intro h11
          refine zs_pushI (ip' := 13) rfl rfl zi_k1 ?_
          refine zs_goto (t := 15) rfl ?_
          refine zW_0b rfl (Or.inr rfl) ?_
          exact zfin (zb_t (by omega)).symm
theorem cX_holdsPlank {N : Nat} {G F : GM} {n : Nat} (hN : 229 ≤ N) {w : Nat} (hw : w < 12) {c : Int} (hc : 0 ≤ c ∧ c < 144) : zPu N 137 [.ref (16 * w + 1), .int (zi c)] (zb (0 < G (16 * w + 2) c ∧ G (16 * w + 2) c ≤ 9)) G F n := by
  refine zPu_i (L0 := [.ref (16 * w + 1), .int (zi c)]) rfl ?_
  refine zs_aload (ip' := 1) rfl rfl rfl ?_
  refine zs_getR (ip' := 2) rfl rfl (r := 16 * w + 2) (by omega) (zsh_w1 hw) rfl ?_
  refine zs_iload (ip' := 3) rfl rfl rfl ?_
  refine zs_iald (ip' := 4) rfl rfl (by omega) (zsh_w2 hw) (by omega) ?_
  intro hl3 hu3
  refine zs_if_le (t := 13) (ip' := 5) rfl rfl (by omega) ?_ ?_
  · intro h4
    refine zs_pushI (ip' := 14) rfl rfl zi_k0 ?_
    refine zW_0b rfl (Or.inl rfl) ?_
    exact zfin (zb_f (by omega)).symm
  · intro h4
    refine zs_aload (ip' := 6) rfl rfl rfl ?_
    refine zs_getR (ip' := 7) rfl rfl (r := 16 * w + 2) (by omega) (zsh_w1 hw) rfl ?_
    refine zs_iload (ip' := 8) rfl rfl rfl ?_
    refine zs_iald (ip' := 9) rfl rfl (by omega) (zsh_w2 hw) (by omega) ?_
    intro hl8 hu8
    refine zs_pushI (ip' := 10) rfl rfl zi_k9 ?_
    refine zs_icmp_gt (t := 13) (ip' := 11) rfl rfl (by omega) (by omega) ?_ ?_
    · intro h10
      refine zs_pushI (ip' := 14) rfl rfl zi_k0 ?_
      refine zW_0b rfl (Or.inl rfl) ?_
      exact zfin (zb_f (by omega)).symm
    · intro h10
      refine zs_pushI (ip' := 12) rfl rfl zi_k1 ?_
      refine zs_goto (t := 14) rfl ?_
      refine zW_0b rfl (Or.inr rfl) ?_
      exact zfin (zb_t (by omega)).symm
theorem cX_takesTraveller {N : Nat} {G F : GM} {n : Nat} (hN : 229 ≤ N) {w : Nat} (hw : w < 12) {c : Int} (hc : 0 ≤ c ∧ c < 144) : zPu N 138 [.ref (16 * w + 1), .int (zi c)] (zb (G (16 * w + 2) c ≠ 0 ∧ G (16 * w + 2) c ≠ 11)) G F n := by
  refine zPu_i (L0 := [.ref (16 * w + 1), .int (zi c)]) rfl ?_
  refine zs_aload (ip' := 1) rfl rfl rfl ?_
  refine zs_getR (ip' := 2) rfl rfl (r := 16 * w + 2) (by omega) (zsh_w1 hw) rfl ?_
  refine zs_iload (ip' := 3) rfl rfl rfl ?_
  refine zs_iald (ip' := 4) rfl rfl (by omega) (zsh_w2 hw) (by omega) ?_
  intro hl3 hu3
  refine zs_if_eq (t := 13) (ip' := 5) rfl rfl (by omega) ?_ ?_
  · intro h4
    refine zs_pushI (ip' := 14) rfl rfl zi_k0 ?_
    refine zW_0b rfl (Or.inl rfl) ?_
    exact zfin (zb_f (by omega)).symm
  · intro h4
    refine zs_aload (ip' := 6) rfl rfl rfl ?_
    refine zs_getR (ip' := 7) rfl rfl (r := 16 * w + 2) (by omega) (zsh_w1 hw) rfl ?_
    refine zs_iload (ip' := 8) rfl rfl rfl ?_
    refine zs_iald (ip' := 9) rfl rfl (by omega) (zsh_w2 hw) (by omega) ?_
    intro hl8 hu8
    refine zs_pushI (ip' := 10) rfl rfl zi_k11 ?_
    refine zs_icmp_eq (t := 13) (ip' := 11) rfl rfl (by omega) (by omega) ?_ ?_
    · intro h10
      refine zs_pushI (ip' := 14) rfl rfl zi_k0 ?_
      refine zW_0b rfl (Or.inl rfl) ?_
      exact zfin (zb_f (by omega)).symm
    · intro h10
      refine zs_pushI (ip' := 12) rfl rfl zi_k1 ?_
      refine zs_goto (t := 14) rfl ?_
      refine zW_0b rfl (Or.inr rfl) ?_
      exact zfin (zb_t (by omega)).symm
theorem zs_rng (i : Int) : (-1 ≤ zsx i ∧ zsx i ≤ 1) ∧ (-1 ≤ zsy i ∧ zsy i ≤ 1) := by
  unfold zsx zsy
  refine ⟨?_, ?_⟩
  · split
    · omega
    · split <;> omega
  · split
    · omega
    · split <;> omega
/-- the cell beside -/
def xNb (W H c d : Int) : Int := if 0 ≤ znx c d ∧ znx c d < W ∧ 0 ≤ zny c d ∧ zny c d < H then znb c d else -1
theorem cX_neighbour {N : Nat} {G F : GM} {n : Nat} (hN : 229 ≤ N) {w : Nat} (hw : w < 12) {c : Int} (hc : 0 ≤ c ∧ c < 144) {q : Int} (hq : 0 ≤ q ∧ q < 4) : zPu N 140 [.ref (16 * w + 1), .int (zi c), .int (zi q)] (xNb (G (16 * w + 1) 0) (G (16 * w + 1) 1) c q) G F n := by
  refine zPu_i (L0 := [.ref (16 * w + 1), .int (zi c), .int (zi q), .null, .null, .null]) rfl ?_
  obtain ⟨⟨a1, a2⟩, a3, a4⟩ := zs_rng q
  have b1 : znx c q = c % 12 + zsx q := rfl
  have b2 : zny c q = c / 12 + zsy q := rfl
  refine zs_iload (ip' := 1) rfl rfl rfl ?_
  refine zs_pushI (ip' := 2) rfl rfl zi_k12 ?_
  refine zs_irem (ip' := 3) rfl rfl (by omega) (by omega) ?_
  refine zs_push (ip' := 4) rfl rfl ?_
  refine zs_iload (ip' := 5) rfl rfl rfl ?_
  refine zs_caldX (ip' := 6) rfl rfl (by omega) ?_
  refine zs_iadd (ip' := 7) rfl rfl ?_
  refine zs_istore3 (ip' := 8) rfl rfl ?_
  refine zs_iload (ip' := 9) rfl rfl rfl ?_
  refine zs_pushI (ip' := 10) rfl rfl zi_k12 ?_
  refine zs_idiv (ip' := 11) rfl rfl (by omega) (by omega) ?_
  refine zs_push (ip' := 12) rfl rfl ?_
  refine zs_iload (ip' := 13) rfl rfl rfl ?_
  refine zs_caldY (ip' := 14) rfl rfl (by omega) ?_
  refine zs_iadd (ip' := 15) rfl rfl ?_
  refine zs_istore4 (ip' := 16) rfl rfl ?_
  refine zs_iload (ip' := 17) rfl rfl rfl ?_
  refine zs_if_lt (t := 30) (ip' := 18) rfl rfl (by omega) ?_ ?_
  · intro h17
    refine zs_pushI (ip' := 31) rfl rfl zi_k0 ?_
    refine zs_istore5 (ip' := 32) rfl rfl ?_
    refine zs_iload (ip' := 33) rfl rfl rfl ?_
    refine zs_if_eq (t := 40) (ip' := 34) rfl rfl (by omega) ?_ ?_
    · intro h33
      refine zs_pushI (ip' := 41) rfl rfl zi_km1 ?_
      refine zW_0 rfl ?_
      exact zfin (if_neg (fun h => by omega)).symm
    · intro h33
      exact absurd h33 (by decide)
  · intro h17
    refine zs_iload (ip' := 19) rfl rfl rfl ?_
    refine zs_aload (ip' := 20) rfl rfl rfl ?_
    refine zs_getI (ip' := 21) rfl rfl (by omega) (zsh_w1 hw) rfl (q := 0) rfl ?_
    intro hl20 hu20
    refine zs_icmp_ge (t := 30) (ip' := 22) rfl rfl (by omega) (by omega) ?_ ?_
    · intro h21
      refine zs_pushI (ip' := 31) rfl rfl zi_k0 ?_
      refine zs_istore5 (ip' := 32) rfl rfl ?_
      refine zs_iload (ip' := 33) rfl rfl rfl ?_
      refine zs_if_eq (t := 40) (ip' := 34) rfl rfl (by omega) ?_ ?_
      · intro h33
        refine zs_pushI (ip' := 41) rfl rfl zi_km1 ?_
        refine zW_0 rfl ?_
        exact zfin (if_neg (fun h => by omega)).symm
      · intro h33
        exact absurd h33 (by decide)
    · intro h21
      refine zs_iload (ip' := 23) rfl rfl rfl ?_
      refine zs_if_lt (t := 30) (ip' := 24) rfl rfl (by omega) ?_ ?_
      · intro h23
        refine zs_pushI (ip' := 31) rfl rfl zi_k0 ?_
        refine zs_istore5 (ip' := 32) rfl rfl ?_
        refine zs_iload (ip' := 33) rfl rfl rfl ?_
        refine zs_if_eq (t := 40) (ip' := 34) rfl rfl (by omega) ?_ ?_
        · intro h33
          refine zs_pushI (ip' := 41) rfl rfl zi_km1 ?_
          refine zW_0 rfl ?_
          exact zfin (if_neg (fun h => by omega)).symm
        · intro h33
          exact absurd h33 (by decide)
      · intro h23
        refine zs_iload (ip' := 25) rfl rfl rfl ?_
        refine zs_aload (ip' := 26) rfl rfl rfl ?_
        refine zs_getI (ip' := 27) rfl rfl (by omega) (zsh_w1 hw) rfl (q := 1) rfl ?_
        intro hl26 hu26
        refine zs_icmp_ge (t := 30) (ip' := 28) rfl rfl (by omega) (by omega) ?_ ?_
        · intro h27
          refine zs_pushI (ip' := 31) rfl rfl zi_k0 ?_
          refine zs_istore5 (ip' := 32) rfl rfl ?_
          refine zs_iload (ip' := 33) rfl rfl rfl ?_
          refine zs_if_eq (t := 40) (ip' := 34) rfl rfl (by omega) ?_ ?_
          · intro h33
            refine zs_pushI (ip' := 41) rfl rfl zi_km1 ?_
            refine zW_0 rfl ?_
            exact zfin (if_neg (fun h => by omega)).symm
          · intro h33
            exact absurd h33 (by decide)
        · intro h27
          refine zs_pushI (ip' := 29) rfl rfl zi_k1 ?_
          refine zs_goto (t := 31) rfl ?_
          refine zs_istore5 (ip' := 32) rfl rfl ?_
          refine zs_iload (ip' := 33) rfl rfl rfl ?_
          refine zs_if_eq (t := 40) (ip' := 34) rfl rfl (by omega) ?_ ?_
          · intro h33
            exact absurd h33 (by decide)
          · intro h33
            refine zs_iload (ip' := 35) rfl rfl rfl ?_
            refine zs_pushI (ip' := 36) rfl rfl zi_k12 ?_
            refine zs_imul (ip' := 37) rfl rfl ?_
            refine zs_iload (ip' := 38) rfl rfl rfl ?_
            refine zs_iadd (ip' := 39) rfl rfl ?_
            refine zs_goto (t := 41) rfl ?_
            refine zW_0 rfl ?_
            exact zfin ((show _ = znb c q by unfold znb; omega).trans (if_pos ⟨by omega, by omega, by omega, by omega⟩).symm)
/-- the letter of a ground -/
def xLet (v : Int) : Int := if v = 0 then 119 else if v = 10 then 102 else if v = 11 then 104 else 112
theorem cX_containsL {N : Nat} {G F : GM} {n : Nat} (hN : 229 ≤ N) {w : Nat} (hw : w < 12) {l : Int} (hl : zr l) : zPu N 145 [.ref (16 * w + 3), .int (zi l)] (zb (0 ≤ l ∧ l < G (16 * w + 3) 0)) G F n := by
  refine zPu_i (L0 := [.ref (16 * w + 3), .int (zi l)]) rfl ?_
  refine zs_iload (ip' := 1) rfl rfl rfl ?_
  refine zs_if_lt (t := 8) (ip' := 2) rfl rfl (by omega) ?_ ?_
  · intro h1
    refine zs_pushI (ip' := 9) rfl rfl zi_k0 ?_
    refine zW_0b rfl (Or.inl rfl) ?_
    exact zfin (zb_f (by omega)).symm
  · intro h1
    refine zs_iload (ip' := 3) rfl rfl rfl ?_
    refine zs_aload (ip' := 4) rfl rfl rfl ?_
    refine zs_getI (ip' := 5) rfl rfl (by omega) (zsh_w3 hw) rfl (q := 0) rfl ?_
    intro hl4 hu4
    refine zs_icmp_ge (t := 8) (ip' := 6) rfl rfl (by omega) (by omega) ?_ ?_
    · intro h5
      refine zs_pushI (ip' := 9) rfl rfl zi_k0 ?_
      refine zW_0b rfl (Or.inl rfl) ?_
      exact zfin (zb_f (by omega)).symm
    · intro h5
      refine zs_pushI (ip' := 7) rfl rfl zi_k1 ?_
      refine zs_goto (t := 9) rfl ?_
      refine zW_0b rfl (Or.inr rfl) ?_
      exact zfin (zb_t (by omega)).symm
theorem cX_onCell_l {N : Nat} {G F : GM} {n : Nat} (hN : 229 ≤ N) {w : Nat} (hw : w < 12) (h3 : 0 ≤ G (16 * w + 3) 0 ∧ G (16 * w + 3) 0 ≤ 8) {c : Int} (hc : zr c) : ∀ (d : Nat) (k : Nat), G (16 * w + 3) 0 - (k : Int) < (d : Int) → (k : Int) ≤ G (16 * w + 3) 0 → (∀ i : Int, 0 ≤ i → i < k → ¬ G (16 * w + 4) i = c) → zW N 146 2 [.ref (16 * w + 3), .int (zi c), .int (zi (k : Int))] [] G F n (fun o G' F' n' => o = .inl (some (.int (zi (zfst (fun l => G (16 * w + 4) l = c) (G (16 * w + 3) 0).toNat)))) ∧ G' = G ∧ F' = F ∧ n' = n) := by
  intro d
  induction d with
  | zero =>
    intro k hd hj hn
    exact absurd hd (by omega)
  | succ d ih =>
    intro k hd hj hn
    refine zs_iload (ip' := 3) rfl rfl rfl ?_
    refine zs_aload (ip' := 4) rfl rfl rfl ?_
    refine zs_getI (ip' := 5) rfl rfl (by omega) (zsh_w3 hw) rfl (q := 0) rfl ?_
    intro hl4 hu4
    refine zs_icmp_ge (t := 16) (ip' := 6) rfl rfl (by omega) (by omega) ?_ ?_
    · intro h5
      refine zs_pushI (ip' := 17) rfl rfl zi_km1 ?_
      refine zW_0 rfl ?_
      exact zfin (zfst_no _ (fun i h0 h1 => hn i h0 (by omega))).symm
    · intro h5
      refine zs_aload (ip' := 7) rfl rfl rfl ?_
      refine zs_getR (ip' := 8) rfl rfl (r := 16 * w + 4) (by omega) (zsh_w3 hw) rfl ?_
      refine zs_iload (ip' := 9) rfl rfl rfl ?_
      refine zs_iald (ip' := 10) rfl rfl (by omega) (zsh_w4 hw) (by omega) ?_
      intro hl9 hu9
      refine zs_iload (ip' := 11) rfl rfl rfl ?_
      refine zs_icmp_ne (t := 14) (ip' := 12) rfl rfl (by omega) (by omega) ?_ ?_
      · intro h11
        refine zs_iinc2 (ip' := 15) rfl rfl zi_k1 ?_
        refine zs_goto (t := 2) rfl ?_
        exact ih (k + 1) (by omega) (by omega) (fun i h0 h1 => if e : i < k then hn i h0 e else fun hh => h11 (by rw [show (k : Int) = i by omega]; exact hh))
      · intro h11
        refine zs_iload (ip' := 13) rfl rfl rfl ?_
        refine zW_0 rfl ?_
        exact zfin (zfst_at (p := fun l => G (16 * w + 4) l = c) (j := k) h11 hn _ (by omega)).symm
theorem cX_onCell {N : Nat} {G F : GM} {n : Nat} (hN : 229 ≤ N) {w : Nat} (hw : w < 12) (h3 : 0 ≤ G (16 * w + 3) 0 ∧ G (16 * w + 3) 0 ≤ 8) {c : Int} (hc : zr c) : zPu N 146 [.ref (16 * w + 3), .int (zi c)] (zfst (fun l => G (16 * w + 4) l = c) (G (16 * w + 3) 0).toNat) G F n := by
  refine zPu_i (L0 := [.ref (16 * w + 3), .int (zi c), .null]) rfl ?_
  refine zs_pushI (ip' := 1) rfl rfl zi_k0 ?_
  refine zs_istore2 (ip' := 2) rfl rfl ?_
  exact cX_onCell_l hN hw h3 hc 9 0 (by omega) (by omega) (fun i h0 h1 => absurd h1 (by omega))
theorem cX_shuns {N : Nat} {G F : GM} {n : Nat} (hN : 229 ≤ N) {w : Nat} (hw : w < 12) {t l : Int} (ht : 0 ≤ t ∧ t < 6) : zPu N 153 [.ref (16 * w + 7), .int (zi t), .int (zi l)] (zb (zhas (zor (G (16 * w + 12) t) (G (16 * w + 13) t)) l)) G F n := by
  refine zPu_i (L0 := [.ref (16 * w + 7), .int (zi t), .int (zi l)]) rfl ?_
  refine zs_aload (ip' := 1) rfl rfl rfl ?_
  refine zs_getR (ip' := 2) rfl rfl (r := 16 * w + 12) (by omega) (zsh_w7 hw) rfl ?_
  refine zs_iload (ip' := 3) rfl rfl rfl ?_
  refine zs_iald (ip' := 4) rfl rfl (by omega) (zsh_w12 hw) (by omega) ?_
  intro hl3 hu3
  refine zs_aload (ip' := 5) rfl rfl rfl ?_
  refine zs_getR (ip' := 6) rfl rfl (r := 16 * w + 13) (by omega) (zsh_w7 hw) rfl ?_
  refine zs_iload (ip' := 7) rfl rfl rfl ?_
  refine zs_iald (ip' := 8) rfl rfl (by omega) (zsh_w13 hw) (by omega) ?_
  intro hl7 hu7
  refine zs_ior (ip' := 9) rfl rfl ?_
  refine zs_iload (ip' := 10) rfl rfl rfl ?_
  refine zW_cP (ip' := 11) rfl rfl cX_holds rfl rfl rfl ?_
  refine zW_0b rfl (zb_01 _) ?_
  exact zfin rfl
theorem cX_countIn_l {N : Nat} {G F : GM} {n : Nat} (hN : 229 ≤ N) {w : Nat} (hw : w < 12) (h7 : 0 ≤ G (16 * w + 7) 0 ∧ G (16 * w + 7) 0 ≤ 6) {q : Int} (hq : zr q) : ∀ (d : Nat) (k : Nat), G (16 * w + 7) 0 - (k : Int) < (d : Int) → (k : Int) ≤ G (16 * w + 7) 0 → zW N 154 4 [.ref (16 * w + 7), .int (zi q), .int (zi (zcnt (fun t => G (16 * w + 9) t = q) k)), .int (zi (k : Int))] [] G F n (fun o G' F' n' => o = .inl (some (.int (zi (zcnt (fun t => G (16 * w + 9) t = q) (G (16 * w + 7) 0).toNat)))) ∧ G' = G ∧ F' = F ∧ n' = n) := by
  intro d
  induction d with
  | zero =>
    intro k hd hj
    exact absurd hd (by omega)
  | succ d ih =>
    intro k hd hj
    have hz := zcnt_rng (fun t => G (16 * w + 9) t = q) k
    refine zs_iload (ip' := 5) rfl rfl rfl ?_
    refine zs_aload (ip' := 6) rfl rfl rfl ?_
    refine zs_getI (ip' := 7) rfl rfl (by omega) (zsh_w7 hw) rfl (q := 0) rfl ?_
    intro hl6 hu6
    refine zs_icmp_ge (t := 17) (ip' := 8) rfl rfl (by omega) (by omega) ?_ ?_
    · intro h7
      refine zs_iload (ip' := 18) rfl rfl rfl ?_
      refine zW_0 rfl ?_
      exact zfin (congrArg (zcnt (fun t => G (16 * w + 9) t = q)) (by omega))
    · intro h7
      refine zs_aload (ip' := 9) rfl rfl rfl ?_
      refine zs_getR (ip' := 10) rfl rfl (r := 16 * w + 9) (by omega) (zsh_w7 hw) rfl ?_
      refine zs_iload (ip' := 11) rfl rfl rfl ?_
      refine zs_iald (ip' := 12) rfl rfl (by omega) (zsh_w9 hw) (by omega) ?_
      intro hl11 hu11
      refine zs_iload (ip' := 13) rfl rfl rfl ?_
      refine zs_icmp_ne (t := 15) (ip' := 14) rfl rfl (by omega) (by omega) ?_ ?_
      · intro h13
        refine zs_iinc3 (ip' := 16) rfl rfl zi_k1 ?_
        refine zs_goto (t := 4) rfl ?_
        have e : zcnt (fun t => G (16 * w + 9) t = q) (k + 1) = zcnt (fun t => G (16 * w + 9) t = q) k := by
          show _ + (if G (16 * w + 9) (k : Int) = q then 1 else 0) = _
          rw [if_neg h13, Int.add_zero]
        have := ih (k + 1) (by omega) (by omega)
        rw [e] at this
        exact this
      · intro h13
        refine zs_iinc2 (ip' := 15) rfl rfl zi_k1 ?_
        refine zs_iinc3 (ip' := 16) rfl rfl zi_k1 ?_
        refine zs_goto (t := 4) rfl ?_
        have e : zcnt (fun t => G (16 * w + 9) t = q) (k + 1) = zcnt (fun t => G (16 * w + 9) t = q) k + 1 := by
          show _ + (if G (16 * w + 9) (k : Int) = q then 1 else 0) = _
          rw [if_pos h13]
        have := ih (k + 1) (by omega) (by omega)
        rw [e] at this
        exact this
theorem cX_countIn {N : Nat} {G F : GM} {n : Nat} (hN : 229 ≤ N) {w : Nat} (hw : w < 12) (h7 : 0 ≤ G (16 * w + 7) 0 ∧ G (16 * w + 7) 0 ≤ 6) {q : Int} (hq : zr q) : zPu N 154 [.ref (16 * w + 7), .int (zi q)] (zcnt (fun t => G (16 * w + 9) t = q) (G (16 * w + 7) 0).toNat) G F n := by
  refine zPu_i (L0 := [.ref (16 * w + 7), .int (zi q), .null, .null]) rfl ?_
  refine zs_pushI (ip' := 1) rfl rfl zi_k0 ?_
  refine zs_istore2 (ip' := 2) rfl rfl ?_
  refine zs_pushI (ip' := 3) rfl rfl zi_k0 ?_
  refine zs_istore3 (ip' := 4) rfl rfl ?_
  exact cX_countIn_l hN hw h7 hq 7 0 (by omega) (by omega)
theorem cX_countFollowing_l {N : Nat} {G F : GM} {n : Nat} (hN : 229 ≤ N) {w : Nat} (hw : w < 12) (h7 : 0 ≤ G (16 * w + 7) 0 ∧ G (16 * w + 7) 0 ≤ 6) {l : Int} (hl : zr l) : ∀ (d : Nat) (k : Nat), G (16 * w + 7) 0 - (k : Int) < (d : Int) → (k : Int) ≤ G (16 * w + 7) 0 → zW N 155 4 [.ref (16 * w + 7), .int (zi l), .int (zi (zcnt (fun t => G (16 * w + 9) t = 0 ∧ G (16 * w + 11) t = l) k)), .int (zi (k : Int))] [] G F n (fun o G' F' n' => o = .inl (some (.int (zi (zcnt (fun t => G (16 * w + 9) t = 0 ∧ G (16 * w + 11) t = l) (G (16 * w + 7) 0).toNat)))) ∧ G' = G ∧ F' = F ∧ n' = n) := by
  intro d
  induction d with
  | zero =>
    intro k hd hj
    exact absurd hd (by omega)
  | succ d ih =>
    intro k hd hj
    have hz := zcnt_rng (fun t => G (16 * w + 9) t = 0 ∧ G (16 * w + 11) t = l) k
    refine zs_iload (ip' := 5) rfl rfl rfl ?_
    refine zs_aload (ip' := 6) rfl rfl rfl ?_
    refine zs_getI (ip' := 7) rfl rfl (by omega) (zsh_w7 hw) rfl (q := 0) rfl ?_
    intro hl6 hu6
    refine zs_icmp_ge (t := 22) (ip' := 8) rfl rfl (by omega) (by omega) ?_ ?_
    · intro h7
      refine zs_iload (ip' := 23) rfl rfl rfl ?_
      refine zW_0 rfl ?_
      exact zfin (congrArg (zcnt (fun t => G (16 * w + 9) t = 0 ∧ G (16 * w + 11) t = l)) (by omega))
    · intro h7
      refine zs_aload (ip' := 9) rfl rfl rfl ?_
      refine zs_getR (ip' := 10) rfl rfl (r := 16 * w + 9) (by omega) (zsh_w7 hw) rfl ?_
      refine zs_iload (ip' := 11) rfl rfl rfl ?_
      refine zs_iald (ip' := 12) rfl rfl (by omega) (zsh_w9 hw) (by omega) ?_
      intro hl11 hu11
      refine zs_if_ne (t := 20) (ip' := 13) rfl rfl (by omega) ?_ ?_
      · intro h12
        refine zs_iinc3 (ip' := 21) rfl rfl zi_k1 ?_
        refine zs_goto (t := 4) rfl ?_
        have e : zcnt (fun t => G (16 * w + 9) t = 0 ∧ G (16 * w + 11) t = l) (k + 1) = zcnt (fun t => G (16 * w + 9) t = 0 ∧ G (16 * w + 11) t = l) k := by
          show _ + (if G (16 * w + 9) (k : Int) = 0 ∧ G (16 * w + 11) (k : Int) = l then 1 else 0) = _
          rw [if_neg (fun q => h12 q.1), Int.add_zero]
        have := ih (k + 1) (by omega) (by omega)
        rw [e] at this
        exact this
      · intro h12
        refine zs_aload (ip' := 14) rfl rfl rfl ?_
        refine zs_getR (ip' := 15) rfl rfl (r := 16 * w + 11) (by omega) (zsh_w7 hw) rfl ?_
        refine zs_iload (ip' := 16) rfl rfl rfl ?_
        refine zs_iald (ip' := 17) rfl rfl (by omega) (zsh_w11 hw) (by omega) ?_
        intro hl16 hu16
        refine zs_iload (ip' := 18) rfl rfl rfl ?_
        refine zs_icmp_ne (t := 20) (ip' := 19) rfl rfl (by omega) (by omega) ?_ ?_
        · intro h18
          refine zs_iinc3 (ip' := 21) rfl rfl zi_k1 ?_
          refine zs_goto (t := 4) rfl ?_
          have e : zcnt (fun t => G (16 * w + 9) t = 0 ∧ G (16 * w + 11) t = l) (k + 1) = zcnt (fun t => G (16 * w + 9) t = 0 ∧ G (16 * w + 11) t = l) k := by
            show _ + (if G (16 * w + 9) (k : Int) = 0 ∧ G (16 * w + 11) (k : Int) = l then 1 else 0) = _
            rw [if_neg (fun q => h18 q.2), Int.add_zero]
          have := ih (k + 1) (by omega) (by omega)
          rw [e] at this
          exact this
        · intro h18
          refine zs_iinc2 (ip' := 20) rfl rfl zi_k1 ?_
          refine zs_iinc3 (ip' := 21) rfl rfl zi_k1 ?_
          refine zs_goto (t := 4) rfl ?_
          have e : zcnt (fun t => G (16 * w + 9) t = 0 ∧ G (16 * w + 11) t = l) (k + 1) = zcnt (fun t => G (16 * w + 9) t = 0 ∧ G (16 * w + 11) t = l) k + 1 := by
            show _ + (if G (16 * w + 9) (k : Int) = 0 ∧ G (16 * w + 11) (k : Int) = l then 1 else 0) = _
            rw [if_pos ⟨h12, h18⟩]
          have := ih (k + 1) (by omega) (by omega)
          rw [e] at this
          exact this
theorem cX_countFollowing {N : Nat} {G F : GM} {n : Nat} (hN : 229 ≤ N) {w : Nat} (hw : w < 12) (h7 : 0 ≤ G (16 * w + 7) 0 ∧ G (16 * w + 7) 0 ≤ 6) {l : Int} (hl : zr l) : zPu N 155 [.ref (16 * w + 7), .int (zi l)] (zcnt (fun t => G (16 * w + 9) t = 0 ∧ G (16 * w + 11) t = l) (G (16 * w + 7) 0).toNat) G F n := by
  refine zPu_i (L0 := [.ref (16 * w + 7), .int (zi l), .null, .null]) rfl ?_
  refine zs_pushI (ip' := 1) rfl rfl zi_k0 ?_
  refine zs_istore2 (ip' := 2) rfl rfl ?_
  refine zs_pushI (ip' := 3) rfl rfl zi_k0 ?_
  refine zs_istore3 (ip' := 4) rfl rfl ?_
  exact cX_countFollowing_l hN hw h7 hl 7 0 (by omega) (by omega)
theorem cX_sightNow {N : Nat} {G F : GM} {n : Nat} (hN : 229 ≤ N) {w : Nat} (hw : w < 12) (h4 : 0 ≤ G (16 * w) 4 ∧ G (16 * w) 4 ≤ 20) (h5 : 0 ≤ G (16 * w) 5 ∧ G (16 * w) 5 ≤ 30000) (h6 : ∀ h, 0 ≤ h → h < 24 → 0 ≤ G (16 * w + 15) h ∧ G (16 * w + 15) h ≤ 9) : zPu N 160 [.ref (16 * w)] (max 0 (G (16 * w) 4 - G (16 * w + 15) (G (16 * w) 5 % 24))) G F n := by
  refine zPu_i (L0 := [.ref (16 * w)]) rfl ?_
  have h66 := h6 (G (16 * w) 5 % 24) (by omega) (by omega)
  refine zs_pushI (ip' := 1) rfl rfl zi_k0 ?_
  refine zs_aload (ip' := 2) rfl rfl rfl ?_
  refine zs_getI (ip' := 3) rfl rfl (by omega) (zsh_w0 hw) rfl (q := 4) rfl ?_
  intro hl2 hu2
  refine zs_aload (ip' := 4) rfl rfl rfl ?_
  refine zs_getR (ip' := 5) rfl rfl (r := 16 * w + 15) (by omega) (zsh_w0 hw) rfl ?_
  refine zs_aload (ip' := 6) rfl rfl rfl ?_
  refine zs_getI (ip' := 7) rfl rfl (by omega) (zsh_w0 hw) rfl (q := 5) rfl ?_
  intro hl6 hu6
  refine zs_pushI (ip' := 8) rfl rfl zi_k24 ?_
  refine zs_irem (ip' := 9) rfl rfl (by omega) (by omega) ?_
  refine zs_iald (ip' := 10) rfl rfl (by omega) (zsh_w15 hw) (by omega) ?_
  intro hl9 hu9
  refine zs_isub (ip' := 11) rfl rfl ?_
  refine zs_mmax (ip' := 12) rfl rfl rfl (by omega) (by omega) ?_
  refine zW_0 rfl ?_
  exact zfin rfl
theorem cX_distanceTo {N : Nat} {G F : GM} {n : Nat} (hN : 229 ≤ N) {w : Nat} (hw : w < 12) {t l : Int} (ht : 0 ≤ t ∧ t < 6) (hl : 0 ≤ l ∧ l < 8) (hc : 0 ≤ G (16 * w + 8) t ∧ G (16 * w + 8) t < 144) (he : 0 ≤ G (16 * w + 4) l ∧ G (16 * w + 4) l < 144) : zPu N 161 [.ref (16 * w), .int (zi t), .int (zi l)] ((G (16 * w + 8) t % 12 - G (16 * w + 4) l % 12).natAbs + (G (16 * w + 8) t / 12 - G (16 * w + 4) l / 12).natAbs : Int) G F n := by
  refine zPu_i (L0 := [.ref (16 * w), .int (zi t), .int (zi l), .null, .null]) rfl ?_
  refine zs_aload (ip' := 1) rfl rfl rfl ?_
  refine zs_getR (ip' := 2) rfl rfl (r := 16 * w + 7) (by omega) (zsh_w0 hw) rfl ?_
  refine zs_getR (ip' := 3) rfl rfl (r := 16 * w + 8) (by omega) (zsh_w7 hw) rfl ?_
  refine zs_iload (ip' := 4) rfl rfl rfl ?_
  refine zs_iald (ip' := 5) rfl rfl (by omega) (zsh_w8 hw) (by omega) ?_
  intro hl4 hu4
  refine zs_istore3 (ip' := 6) rfl rfl ?_
  refine zs_aload (ip' := 7) rfl rfl rfl ?_
  refine zs_getR (ip' := 8) rfl rfl (r := 16 * w + 3) (by omega) (zsh_w0 hw) rfl ?_
  refine zs_getR (ip' := 9) rfl rfl (r := 16 * w + 4) (by omega) (zsh_w3 hw) rfl ?_
  refine zs_iload (ip' := 10) rfl rfl rfl ?_
  refine zs_iald (ip' := 11) rfl rfl (by omega) (zsh_w4 hw) (by omega) ?_
  intro hl10 hu10
  refine zs_istore4 (ip' := 12) rfl rfl ?_
  refine zs_iload (ip' := 13) rfl rfl rfl ?_
  refine zs_pushI (ip' := 14) rfl rfl zi_k12 ?_
  refine zs_irem (ip' := 15) rfl rfl (by omega) (by omega) ?_
  refine zs_iload (ip' := 16) rfl rfl rfl ?_
  refine zs_pushI (ip' := 17) rfl rfl zi_k12 ?_
  refine zs_irem (ip' := 18) rfl rfl (by omega) (by omega) ?_
  refine zs_isub (ip' := 19) rfl rfl ?_
  refine zs_mabs (ip' := 20) rfl rfl rfl (by omega) ?_
  refine zs_iload (ip' := 21) rfl rfl rfl ?_
  refine zs_pushI (ip' := 22) rfl rfl zi_k12 ?_
  refine zs_idiv (ip' := 23) rfl rfl (by omega) (by omega) ?_
  refine zs_iload (ip' := 24) rfl rfl rfl ?_
  refine zs_pushI (ip' := 25) rfl rfl zi_k12 ?_
  refine zs_idiv (ip' := 26) rfl rfl (by omega) (by omega) ?_
  refine zs_isub (ip' := 27) rfl rfl ?_
  refine zs_mabs (ip' := 28) rfl rfl rfl (by omega) ?_
  refine zs_iadd (ip' := 29) rfl rfl ?_
  refine zW_0 rfl ?_
  exact zfin rfl
theorem cX_takesLight {N : Nat} {G F : GM} {n : Nat} (hN : 229 ≤ N) {w : Nat} (hw : w < 12) (h3 : 0 ≤ G (16 * w + 3) 0 ∧ G (16 * w + 3) 0 ≤ 8) {c : Int} (hc : 0 ≤ c ∧ c < 144) : zPu N 163 [.ref (16 * w), .int (zi c)] (zb (G (16 * w + 2) c ≠ 0 ∧ zfst (fun l => G (16 * w + 4) l = c) (G (16 * w + 3) 0).toNat = -1)) G F n := by
  refine zPu_i (L0 := [.ref (16 * w), .int (zi c)]) rfl ?_
  have hz := zfst_rng (fun l => G (16 * w + 4) l = c) (G (16 * w + 3) 0).toNat
  refine zs_aload (ip' := 1) rfl rfl rfl ?_
  refine zs_getR (ip' := 2) rfl rfl (r := 16 * w + 1) (by omega) (zsh_w0 hw) rfl ?_
  refine zs_getR (ip' := 3) rfl rfl (r := 16 * w + 2) (by omega) (zsh_w1 hw) rfl ?_
  refine zs_iload (ip' := 4) rfl rfl rfl ?_
  refine zs_iald (ip' := 5) rfl rfl (by omega) (zsh_w2 hw) (by omega) ?_
  intro hl4 hu4
  refine zs_if_eq (t := 14) (ip' := 6) rfl rfl (by omega) ?_ ?_
  · intro h5
    refine zs_pushI (ip' := 15) rfl rfl zi_k0 ?_
    refine zW_0b rfl (Or.inl rfl) ?_
    exact zfin (zb_f (fun q => q.1 h5)).symm
  · intro h5
    refine zs_aload (ip' := 7) rfl rfl rfl ?_
    refine zs_getR (ip' := 8) rfl rfl (r := 16 * w + 3) (by omega) (zsh_w0 hw) rfl ?_
    refine zs_iload (ip' := 9) rfl rfl rfl ?_
    refine zW_cP (ip' := 10) rfl rfl (cX_onCell hN hw h3 (by omega)) rfl rfl (z_ok3 (by omega) (zsh_w3 hw) rfl rfl rfl) ?_
    refine zs_pushI (ip' := 11) rfl rfl zi_km1 ?_
    refine zs_icmp_ne (t := 14) (ip' := 12) rfl rfl (by omega) (by omega) ?_ ?_
    · intro h11
      refine zs_pushI (ip' := 15) rfl rfl zi_k0 ?_
      refine zW_0b rfl (Or.inl rfl) ?_
      exact zfin (zb_f (fun q => h11 q.2)).symm
    · intro h11
      refine zs_pushI (ip' := 13) rfl rfl zi_k1 ?_
      refine zs_goto (t := 15) rfl ?_
      refine zW_0b rfl (Or.inr rfl) ?_
      exact zfin (zb_t ⟨h5, h11⟩).symm
