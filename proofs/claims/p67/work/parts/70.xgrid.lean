/-! The program: the rows of a text (printed by wip/whole/src70.py). -/
/-- the ground of a letter -/
def xGd (v : Int) : Int := if v = 102 then 10 else if v = 119 then 0 else if v = 104 then 11 else if v = 112 then 3 else -1
theorem xGd_T {v t : Int} (hv : -128 ≤ v ∧ v ≤ 127) (ht : t = v % 256) : (xGd v = -1 ↔ pCell t < 0) ∧ (0 ≤ pCell t → xGd v = zgc (pCell t)) ∧ (-1 ≤ xGd v ∧ xGd v ≤ 11) := by
  unfold xGd pCell zgc
  refine ⟨?_, ?_, ?_⟩ <;> (repeat' split) <;> omega
def xAre (T : Int → Int) (n p W : Int) : Prop := tK T n p = 1 ∧ tE T n p - tB T n p = W ∧ ∀ j : Int, 0 ≤ j → j < W → 0 ≤ pCell (T (tB T n p + j))
section AR
variable {T : Int → Int} {n p e : Int} {D : Int → Int}
theorem pAre_iff {a b : Int} : pAre T n (p, a, b, D) ↔ xAre T n p (D 0) := by
  constructor
  · rintro ⟨⟨h1, h2⟩, h3⟩
    refine ⟨h1, h2, fun j j0 j1 => ?_⟩
    by_cases q : 0 ≤ pCell (T (tB T n p + j))
    · exact q
    · have h4 : tE T n p - tB T n p = D 0 := h2
      have := zfst_ex (p := fun j => pCell (T (tB T n p + j)) < 0) (tE T n p - tB T n p).toNat j j0 (by omega) (by show pCell (T (tB T n p + j)) < 0; omega)
      have h5 : zfst (fun j => pCell (T (tB T n p + j)) < 0) (tE T n p - tB T n p).toNat < 0 := h3
      omega
  · rintro ⟨h1, h2, h3⟩
    refine ⟨⟨h1, h2⟩, ?_⟩
    show zfst (fun j => pCell (T (tB T n p + j)) < 0) (tE T n p - tB T n p).toNat < 0
    rw [zfst_no (p := fun j => pCell (T (tB T n p + j)) < 0)]
    · decide
    · intro j j0 j1 q
      have q' : pCell (T (tB T n p + j)) < 0 := q
      have := h3 j j0 (by omega)
      omega
theorem pRow_b1 {K : Int} (h1 : ¬ pIs T n (p, 0, -1, D) 13550) : xWr (pRow T n K (p, 0, -1, D)) (tB T n p) := by
  unfold pRow
  rw [pTk_f h1, if_pos (show (1 : Int) ≠ 0 by decide)]
  exact ⟨rfl, rfl⟩
theorem pRow_b2 {K : Int} (h1 : pIs T n (p, 0, -1, D) 13550) (h2 : ¬ xAre T n (tE T n p) (D 0)) : xWr (pRow T n K (p, 0, -1, D)) (tB T n (tE T n p)) := by
  have h2' : ¬ pAre T n (tE T n p, 0, -1, D) := fun q => h2 (pAre_iff.mp q)
  unfold pRow
  rw [pTk_t h1, if_neg (fun q => q rfl)]
  unfold pR1
  rw [if_neg h2']
  unfold pR3
  refine xWr_tk ?_
  rw [pTk_f h2']
  exact ⟨rfl, rfl⟩
theorem pRow_a {K : Int} (hK : 0 ≤ K) (h1 : pIs T n (p, 0, -1, D) 13550) (h2 : xAre T n (tE T n p) (D 0)) : pRow T n K (p, 0, -1, D) = pTk T n (tE T n (tE T n p), 0, -1, pRowD T D (tB T n (tE T n p)) K (D 0)) (tK T n (tE T n (tE T n p)) = 3) := by
  have h2' : pAre T n (tE T n p, 0, -1, D) := pAre_iff.mpr h2
  have h3' : pAre T n (tE T n p, 0, -1, pRowD T D (tB T n (tE T n p)) K (D 0)) := pAre_iff.mpr (by rw [pRowD_o T D _ _ hK (by omega)]; exact h2)
  unfold pRow
  rw [pTk_t h1, if_neg (fun q => q rfl)]
  unfold pR1
  rw [if_pos h2']
  show pR3 T n (tE T n p, 0, -1, pRowD T D (tB T n (tE T n p)) K (D 0)) = _
  unfold pR3
  rw [pTk_t h3']
theorem pRows_ge {x : zTx} {k : Nat} (h : xWr (pRows T n k x) e) : ∀ j : Nat, xWr (pRows T n (k + j) x) e := by
  intro j
  induction j with
  | zero => exact h
  | succ j ih =>
    show xWr (pRow T n _ (pRows T n (k + j) x)) e
    rw [pRow_w ih.1]
    exact ih
end AR
theorem RXg_row {G G' : GM} {w : Nat} {D : Int → Int} {T : Int → Int} {b K : Int} (hok : mOk D) (hR : RXg G w D K) (hK : 0 ≤ K ∧ K < 12) (f : ∀ k, 16 * w ≤ k → k < 16 * w + 16 → k ≠ 16 * w + 2 → G' k = G k) (g1 : ∀ i, (i < 12 * K ∨ 12 * K + D 0 ≤ i) → G' (16 * w + 2) i = G (16 * w + 2) i) (g2 : ∀ j, 0 ≤ j → j < D 0 → G' (16 * w + 2) (12 * K + j) = zgc (pCell (T (b + j)))) : RXg G' w (pRowD T D b K (D 0)) (K + 1) := by
  obtain ⟨a0, a1, -⟩ := hok
  obtain ⟨⟨c0, c1, c2, c3, c4, c5⟩, hf, hg, hl, hb, ht⟩ := hR
  have es : ∀ i, (i < 30 ∨ 174 ≤ i) → pRowD T D b K (D 0) i = D i := fun i hi => if_neg (by omega)
  refine ⟨⟨?_, ?_, ?_, ?_, ?_, ?_⟩, fun h h0 h1 => ?_, fun x' y' x0 x1 y0 y1 => ?_, fun l l0 l1 => ?_, fun l l0 l1 => ?_, fun q t0 t1 => ?_⟩
  · rw [f _ (by omega) (by omega) (by omega), es 0 (by omega)]; exact c0
  · rw [f _ (by omega) (by omega) (by omega), es 1 (by omega)]; exact c1
  · rw [f _ (by omega) (by omega) (by omega), es 2 (by omega)]; exact c2
  · rw [f _ (by omega) (by omega) (by omega), es 3 (by omega)]; exact c3
  · rw [f _ (by omega) (by omega) (by omega), es 4 (by omega)]; exact c4
  · rw [f _ (by omega) (by omega) (by omega), es 5 (by omega)]; exact c5
  · rw [f _ (by omega) (by omega) (by omega), es _ (by omega)]
    exact hf h h0 h1
  · rw [es 0 (by omega)] at x1
    unfold pRowD
    by_cases e : y' = K
    · rw [e, g2 x' x0 x1, if_pos (by omega), show 30 + 12 * K + x' - (30 + 12 * K) = x' by omega]
    · rw [g1 _ (by omega), if_neg (by omega)]
      exact hg x' y' x0 x1 y0 (by omega)
  · rw [es 4 (by omega)] at l1
    rw [f (16 * w + 4) (by omega) (by omega) (by omega), f (16 * w + 5) (by omega) (by omega) (by omega), f (16 * w + 6) (by omega) (by omega) (by omega), es _ (by omega), es _ (by omega), es _ (by omega), es _ (by omega)]
    exact hl l l0 l1
  · rw [f _ (by omega) (by omega) (by omega), es 4 (by omega), es (174 + 5 * l + 3) (by omega)]
    exact hb l l0 l1
  · rw [es 5 (by omega)] at t1
    rw [f _ (by omega) (by omega) (by omega), f _ (by omega) (by omega) (by omega), f _ (by omega) (by omega) (by omega), f _ (by omega) (by omega) (by omega), f _ (by omega) (by omega) (by omega), f _ (by omega) (by omega) (by omega), es _ (by omega), es _ (by omega), es _ (by omega), es _ (by omega), es _ (by omega), es _ (by omega), es _ (by omega)]
    exact ht q t0 t1
theorem cX_ground {N : Nat} {G F : GM} {n : Nat} {v : Int} (hv : -128 ≤ v ∧ v ≤ 127) : zPu N 197 [.int (zi v)] (xGd v) G F n := by
  refine zPu_i (L0 := [.int (zi v)]) rfl ?_
  refine zs_iload (ip' := 1) rfl rfl rfl ?_
  refine zs_lsw rfl (by omega) ?_
  try dsimp only
  split
  · rename_i h1_102
    refine zs_pushI (ip' := 3) rfl rfl zi_k10 ?_
    refine zW_0 rfl ?_
    exact zfin (by unfold xGd; (repeat' split) <;> omega)
  · rename_i h1_102
    split
    · rename_i h1_104
      refine zs_pushI (ip' := 7) rfl rfl zi_k11 ?_
      refine zW_0 rfl ?_
      exact zfin (by unfold xGd; (repeat' split) <;> omega)
    · rename_i h1_104
      split
      · rename_i h1_112
        refine zs_pushI (ip' := 9) rfl rfl zi_k3 ?_
        refine zW_0 rfl ?_
        exact zfin (by unfold xGd; (repeat' split) <;> omega)
      · rename_i h1_112
        split
        · rename_i h1_119
          refine zs_pushI (ip' := 5) rfl rfl zi_k0 ?_
          refine zW_0 rfl ?_
          exact zfin (by unfold xGd; (repeat' split) <;> omega)
        · rename_i h1_119
          refine zs_pushI (ip' := 11) rfl rfl zi_km1 ?_
          refine zW_0 rfl ?_
          exact zfin (by unfold xGd; (repeat' split) <;> omega)
theorem cX_cells_l {N : Nat} {F : GM} {n : Nat} (hN : 229 ≤ N) {T : Int → Int} {m : Int} {p : Int} {G0 : GM} (hB0 : xBu G0 T m) (hp : 0 ≤ p ∧ p ≤ m) (hS0 : xTo G0 T m p) {w : Nat} (hw : w < 12) {W K : Int} (hW0 : 0 ≤ W ∧ W ≤ 12) (hK : 0 ≤ K ∧ K < 12) (hW : G0 (16 * w + 1) 0 = W) (hk1 : tK T m p = 1) (hln : tE T m p - tB T m p = W) : ∀ (d : Nat) (k : Nat) (a4 : Value) (G : GM), W - (k : Int) < (d : Int) → (k : Int) ≤ W → (∀ j : Int, 0 ≤ j → j < k → 0 ≤ pCell (T (tB T m p + j))) → (∀ k, k ≠ 16 * w + 2 → G k = G0 k) → (∀ i, (i < 12 * K ∨ 12 * K + (k : Int) ≤ i) → G (16 * w + 2) i = G0 (16 * w + 2) i) → (∀ j : Int, 0 ≤ j → j < k → G (16 * w + 2) (12 * K + j) = zgc (pCell (T (tB T m p + j)))) → zW N 196 16 [.ref 197, .ref (16 * w + 1), .int (zi K), .int (zi (k : Int)), a4] [] G F n (zR fun v G' F' n' => ((v = 1 ∧ xAre T m p W ∧ (∀ k, k ≠ 197 → k ≠ 16 * w + 2 → G' k = G0 k) ∧ (∀ j, j ≤ 1 → G' 197 j = G0 197 j) ∧ (∀ i, (i < 12 * K ∨ 12 * K + W ≤ i) → G' (16 * w + 2) i = G0 (16 * w + 2) i) ∧ (∀ j, 0 ≤ j → j < W → G' (16 * w + 2) (12 * K + j) = zgc (pCell (T (tB T m p + j)))) ∧ xTo G' T m (tE T m p)) ∨ (v = 0 ∧ ¬ xAre T m p W ∧ ∀ k, k ≠ 16 * w + 2 → G' k = G0 k)) ∧ F' = F ∧ n' = n) := by
  intro d
  induction d with
  | zero =>
    intro k a4 G hd hj hc hf hg hg2
    exact absurd hd (by omega)
  | succ d ih =>
    intro k a4 G hd hj hc hf hg hg2
    have hB : xBu G T m := by unfold xBu; rw [hf 197 (by omega), hf 198 (by omega)]; exact hB0
    have hS : xTo G T m p := by unfold xTo; rw [hf 197 (by omega)]; exact hS0
    obtain ⟨h0, ⟨m0, m1⟩, hT⟩ := id hB
    obtain ⟨s2, s3, s4, s5⟩ := id hS
    obtain ⟨r1, r2⟩ := tB_rng (T := T) hp.2
    obtain ⟨r3, r4, r5⟩ := tE_rng (T := T) hp.2
    have rk := tK_rng (T := T) (n := m) (p := p)
    have rv := tV_rng (T := T) hp.2
    have re := tE_in (T := T) hp
    refine zs_iload (ip' := 17) rfl rfl rfl ?_
    refine zs_aload (ip' := 18) rfl rfl rfl ?_
    refine zs_getI (ip' := 19) rfl rfl (by omega) (zsh_w1 hw) rfl (q := 0) rfl ?_
    intro hl18 hu18
    rw [hf _ (by omega), hW] at hl18 hu18 ⊢
    refine zs_icmp_ge (t := 43) (ip' := 20) rfl rfl (by omega) (by omega) ?_ ?_
    · intro h19
      refine zs_aload (ip' := 44) rfl rfl rfl ?_
      refine zW_cV (ip' := 45) rfl rfl (cX_scan hN hB re s3) rfl rfl (z_ok3 (by omega) zsh_197 rfl rfl rfl) ?_
      rintro G1 F' n' ⟨⟨hrd, hto⟩, rfl, rfl⟩
      refine zs_pushI (ip' := 46) rfl rfl zi_k1 ?_
      refine zW_0b rfl (Or.inr rfl) ?_
      refine ⟨1, rfl, by decide, Or.inl ⟨rfl, ⟨hk1, hln, fun j j0 j1 => hc j j0 (by omega)⟩, fun k a b => (hrd.1 k a).trans (hf k b), fun j j1 => (hrd.2 j (Or.inl j1)).trans (by rw [hf 197 (by omega)]), fun i hi => ?_, fun j j0 j1 => ?_, hto⟩, rfl, rfl⟩
      · rw [hrd.1 _ (by omega)]
        exact hg i (by omega)
      · rw [hrd.1 _ (by omega)]
        exact hg2 j j0 (by omega)
    · intro h19
      refine zs_aload (ip' := 21) rfl rfl rfl ?_
      refine zs_getR (ip' := 22) rfl rfl (r := 198) (by omega) zsh_197 rfl ?_
      refine zs_aload (ip' := 23) rfl rfl rfl ?_
      refine zs_getI (ip' := 24) rfl rfl (by omega) zsh_197 rfl (q := 2) rfl ?_
      intro hl23 hu23
      rw [s2] at hl23 hu23 ⊢
      refine zs_iload (ip' := 25) rfl rfl rfl ?_
      refine zs_iadd (ip' := 26) rfl rfl ?_
      refine zs_bald (ip' := 27) rfl rfl (by omega) zsh_198 (by omega) ?_
      intro hl26 hu26
      obtain ⟨hv, hv2⟩ := hT (tB T m p + (k : Int)) (by omega) (by omega)
      obtain ⟨x1, x2, x3⟩ := xGd_T hv hv2
      refine zW_cP (ip' := 28) rfl rfl (cX_ground hv) rfl rfl rfl ?_
      refine zs_istore4 (ip' := 29) rfl rfl ?_
      refine zs_iload (ip' := 30) rfl rfl rfl ?_
      refine zs_pushI (ip' := 31) rfl rfl zi_km1 ?_
      refine zs_icmp_ne (t := 34) (ip' := 32) rfl rfl (by omega) (by omega) ?_ ?_
      · intro h31
        refine zs_aload (ip' := 35) rfl rfl rfl ?_
        refine zs_getR (ip' := 36) rfl rfl (r := 16 * w + 2) (by omega) (zsh_w1 hw) rfl ?_
        refine zs_iload (ip' := 37) rfl rfl rfl ?_
        refine zs_iload (ip' := 38) rfl rfl rfl ?_
        refine zW_cP (ip' := 39) rfl rfl cX_cellAt rfl rfl rfl ?_
        refine zs_iload (ip' := 40) rfl rfl rfl ?_
        refine zs_iast (ip' := 41) rfl rfl (by omega) (zsh_w2 hw) (by omega) (by omega) ?_
        refine zW_gk ?_
        intro G1 e1 f1
        refine zs_iinc3 (ip' := 42) rfl rfl zi_k1 ?_
        refine zs_goto (t := 16) rfl ?_
        have hpc : 0 ≤ pCell (T (tB T m p + (k : Int))) := by
          by_cases q : 0 ≤ pCell (T (tB T m p + (k : Int)))
          · exact q
          · exact absurd (x1.mpr (by omega)) h31
        refine ih (k + 1) _ G1 (by omega) (by omega) (fun j j0 j1 => if e : j < k then hc j j0 e else by rw [show j = (k : Int) by omega]; exact hpc) (fun k hk => (f1 k hk).trans (hf k hk)) (fun i hi => ?_) (fun j j0 j1 => ?_)
        · rw [e1, zp_ne (by omega)]
          exact hg i (by omega)
        · rw [e1]
          by_cases e : j = (k : Int)
          · rw [e, zp_eq]
            exact x2 hpc
          · rw [zp_ne (by omega)]
            exact hg2 j j0 (by omega)
      · intro h31
        refine zs_pushI (ip' := 33) rfl rfl zi_k0 ?_
        refine zW_0b rfl (Or.inl rfl) ?_
        exact ⟨0, rfl, by decide, Or.inr ⟨rfl, fun q => by have := q.2.2 (k : Int) (by omega) (by omega); omega, hf⟩, rfl, rfl⟩
theorem cX_cells {N : Nat} {G F : GM} {n : Nat} (hN : 229 ≤ N) {T : Int → Int} {m : Int} {p : Int} (hB : xBu G T m) (hp : 0 ≤ p ∧ p ≤ m) (hS : xTo G T m p) {w : Nat} (hw : w < 12) {W K : Int} (hW0 : 0 ≤ W ∧ W ≤ 12) (hK : 0 ≤ K ∧ K < 12) (hW : G (16 * w + 1) 0 = W) : zC N 196 [.ref 197, .ref (16 * w + 1), .int (zi K)] G F n (zR fun v G' F' n' => ((v = 1 ∧ xAre T m p W ∧ (∀ k, k ≠ 197 → k ≠ 16 * w + 2 → G' k = G k) ∧ (∀ j, j ≤ 1 → G' 197 j = G 197 j) ∧ (∀ i, (i < 12 * K ∨ 12 * K + W ≤ i) → G' (16 * w + 2) i = G (16 * w + 2) i) ∧ (∀ j, 0 ≤ j → j < W → G' (16 * w + 2) (12 * K + j) = zgc (pCell (T (tB T m p + j)))) ∧ xTo G' T m (tE T m p)) ∨ (v = 0 ∧ ¬ xAre T m p W ∧ ∀ k, k ≠ 16 * w + 2 → G' k = G k)) ∧ F' = F ∧ n' = n) := by
  obtain ⟨h0, ⟨m0, m1⟩, hT⟩ := id hB
  obtain ⟨s2, s3, s4, s5⟩ := id hS
  obtain ⟨r1, r2⟩ := tB_rng (T := T) hp.2
  obtain ⟨r3, r4, r5⟩ := tE_rng (T := T) hp.2
  have rk := tK_rng (T := T) (n := m) (p := p)
  have rv := tV_rng (T := T) hp.2
  have re := tE_in (T := T) hp
  refine zC_i (L0 := [.ref 197, .ref (16 * w + 1), .int (zi K), .null, .null]) rfl ?_
  refine zs_aload (ip' := 1) rfl rfl rfl ?_
  refine zs_getI (ip' := 2) rfl rfl (by omega) zsh_197 rfl (q := 4) rfl ?_
  intro hl1 hu1
  rw [s4] at hl1 hu1 ⊢
  refine zs_pushI (ip' := 3) rfl rfl zi_k1 ?_
  refine zs_icmp_ne (t := 12) (ip' := 4) rfl rfl (by omega) (by omega) ?_ ?_
  · intro h3
    refine zs_pushI (ip' := 13) rfl rfl zi_k0 ?_
    refine zW_0b rfl (Or.inl rfl) ?_
    exact ⟨0, rfl, by decide, Or.inr ⟨rfl, fun q => h3 (by have := q.1; omega), fun _ _ => rfl⟩, rfl, rfl⟩
  · intro h3
    refine zs_aload (ip' := 5) rfl rfl rfl ?_
    refine zs_getI (ip' := 6) rfl rfl (by omega) zsh_197 rfl (q := 3) rfl ?_
    intro hl5 hu5
    rw [s3] at hl5 hu5 ⊢
    refine zs_aload (ip' := 7) rfl rfl rfl ?_
    refine zs_getI (ip' := 8) rfl rfl (by omega) zsh_197 rfl (q := 2) rfl ?_
    intro hl7 hu7
    rw [s2] at hl7 hu7 ⊢
    refine zs_isub (ip' := 9) rfl rfl ?_
    refine zs_aload (ip' := 10) rfl rfl rfl ?_
    refine zs_getI (ip' := 11) rfl rfl (by omega) (zsh_w1 hw) rfl (q := 0) rfl ?_
    intro hl10 hu10
    rw [hW] at hl10 hu10 ⊢
    refine zs_icmp_eq (t := 14) (ip' := 12) rfl rfl (by omega) (by omega) ?_ ?_
    · intro h11
      refine zs_pushI (ip' := 15) rfl rfl zi_k0 ?_
      refine zs_istore3 (ip' := 16) rfl rfl ?_
      exact cX_cells_l hN hB hp hS hw hW0 hK hW (by omega) (by omega) 13 0 _ G (by omega) (by omega) (fun j a b => absurd b (by omega)) (fun _ _ => rfl) (fun _ _ => rfl) (fun j a b => absurd b (by omega))
    · intro h11
      refine zs_pushI (ip' := 13) rfl rfl zi_k0 ?_
      refine zW_0b rfl (Or.inl rfl) ?_
      exact ⟨0, rfl, by decide, Or.inr ⟨rfl, fun q => by have := q.2.1; omega, fun _ _ => rfl⟩, rfl, rfl⟩
theorem cR_rows_l {N : Nat} {F : GM} {n : Nat} (hN : 229 ≤ N) {w : Nat} (hw : w < 12) {T : Int → Int} {m p0 : Int} {D0 : Int → Int} {G0 : GM} (hH : 2 ≤ D0 1 ∧ D0 1 ≤ 12) : ∀ (d : Nat) (k : Nat) (p : Int) (D : Int → Int) (G : GM), D0 1 - (k : Int) < (d : Int) → (k : Int) ≤ D0 1 → pRows T m k (p0, 0, -1, D0) = (p, 0, -1, D) → D 1 = D0 1 → xGw w (k : Int) G0 G T m p D → zW N 187 2 [.ref 197, .ref (16 * w + 1), .int (zi (k : Int))] [] G F n (zR fun v G' F' n' => xSt w (D0 1) G0 T m (pRows T m (D0 1).toNat (p0, 0, -1, D0)) v G' ∧ F' = F ∧ n' = n) := by
  intro d
  induction d with
  | zero =>
    intro k p D G hd hj hx0 hD1 hG
    exact absurd hd (by omega)
  | succ d ih =>
    intro k p D G hd hj hx0 hD1 hG
    obtain ⟨hb0, hp0, hs0, hw0, hok, hRg⟩ := hG
    obtain ⟨c0, c1, -⟩ := id hRg.1
    have a0 := hok.1
    refine zs_iload (ip' := 3) rfl rfl rfl ?_
    refine zs_aload (ip' := 4) rfl rfl rfl ?_
    refine zs_getI (ip' := 5) rfl rfl (by omega) (zsh_w1 hw) rfl (q := 1) rfl ?_
    intro hl4 hu4
    rw [c1, hD1] at hl4 hu4 ⊢
    refine zs_icmp_ge (t := 22) (ip' := 6) rfl rfl (by omega) (by omega) ?_ ?_
    · intro h5
      refine zs_pushI (ip' := 23) rfl rfl zi_k1 ?_
      refine zW_0b rfl (Or.inr rfl) ?_
      exact ⟨1, rfl, by decide, Or.inl ⟨rfl, p, D, by rw [show (D0 1).toNat = k by omega]; exact hx0, hb0, hp0, hs0, hw0, hok, by rw [show D0 1 = (k : Int) by omega]; exact hRg⟩, rfl, rfl⟩
    · intro h5
      refine zs_aload (ip' := 7) rfl rfl rfl ?_
      refine zs_push (ip' := 8) rfl rfl ?_
      refine zW_cR (ip' := 9) rfl rfl (cX_word_3 hN hb0 hp0 hs0) rfl rfl (z_ok3 (by omega) zsh_197 rfl rfl rfl) ?_
      rintro v1 G1 F' n' hv1 ⟨hd1, rfl, rfl⟩
      refine zs_if_eq (t := 18) (ip' := 10) rfl rfl (by omega) ?_ ?_
      · intro h9
        obtain ⟨-, hc1, rfl⟩ := hd1.resolve_left (fun q => absurd (q.1.symm.trans h9) (by decide))
        refine zs_pushI (ip' := 19) rfl rfl zi_k0 ?_
        refine zW_0b rfl (Or.inl rfl) ?_
        have hx : xWr (pRows T m (k + 1) (p0, 0, -1, D0)) (tB T m p) := by
          show xWr (pRow T m (k : Int) (pRows T m k (p0, 0, -1, D0))) _
          rw [hx0]
          exact pRow_b1 hc1
        have hx2 := pRows_ge hx ((D0 1).toNat - (k + 1))
        rw [show k + 1 + ((D0 1).toNat - (k + 1)) = (D0 1).toNat by omega] at hx2
        exact ⟨0, rfl, by decide, Or.inr ⟨rfl, hx2.1, hx2.2.trans hs0.1.symm, hw0⟩, rfl, rfl⟩
      · intro h9
        obtain ⟨-, hc1, hr1, hs1⟩ := hd1.resolve_right (fun q => h9 q.1)
        obtain ⟨p1, hpe1⟩ : ∃ q, q = tE T m p := ⟨_, rfl⟩
        rw [← hpe1] at hs1
        have hp1 : 0 ≤ p1 ∧ p1 ≤ m := by rw [hpe1]; exact tE_in hp0
        have hb1 := xBu_rt hb0 hr1
        have hw1 : xRw w G0 G1 := xRw_t hw0 (xRw_d hr1)
        refine zs_aload (ip' := 11) rfl rfl rfl ?_
        refine zs_aload (ip' := 12) rfl rfl rfl ?_
        refine zs_iload (ip' := 13) rfl rfl rfl ?_
        refine zW_cR (ip' := 14) rfl rfl (cX_cells hN hb1 hp1 hs1 hw (W := D 0) ⟨by omega, by omega⟩ ⟨by omega, by omega⟩ (by rw [hr1.1 _ (by omega)]; exact c0)) rfl rfl (z_ok3 (by omega) zsh_197 rfl rfl rfl) ?_
        rintro v2 G2 F' n' hv2 ⟨hd2, rfl, rfl⟩
        refine zs_if_eq (t := 18) (ip' := 15) rfl rfl (by omega) ?_ ?_
        · intro h14
          obtain ⟨-, hc2, hf2⟩ := hd2.resolve_left (fun q => absurd (q.1.symm.trans h14) (by decide))
          refine zs_pushI (ip' := 19) rfl rfl zi_k0 ?_
          refine zW_0b rfl (Or.inl rfl) ?_
          have hwx : xRw w G0 G2 := xRw_t hw1 ⟨fun k a b => hf2 k (by omega), fun j _ => by rw [hf2 197 (by omega)]⟩
          have hs2 : tB T m (tE T m p) = G2 197 2 := by rw [hf2 197 (by omega), hs1.1, hpe1]
          have hx : xWr (pRows T m (k + 1) (p0, 0, -1, D0)) (tB T m (tE T m p)) := by
            show xWr (pRow T m (k : Int) (pRows T m k (p0, 0, -1, D0))) _
            rw [hx0]
            exact (by rw [hpe1] at hc2; exact pRow_b2 hc1 hc2)
          have hx2 := pRows_ge hx ((D0 1).toNat - (k + 1))
          rw [show k + 1 + ((D0 1).toNat - (k + 1)) = (D0 1).toNat by omega] at hx2
          exact ⟨0, rfl, by decide, Or.inr ⟨rfl, hx2.1, hx2.2.trans hs2, hwx⟩, rfl, rfl⟩
        · intro h14
          obtain ⟨-, hc2, hf2, hj2, hg2, hg2', hs2⟩ := hd2.resolve_right (fun q => h14 q.1)
          obtain ⟨p2, hpe2⟩ : ∃ q, q = tE T m p1 := ⟨_, rfl⟩
          rw [← hpe2] at hs2
          have hp2 : 0 ≤ p2 ∧ p2 ≤ m := by rw [hpe2]; exact tE_in hp1
          have hw2' : xRw w G1 G2 := ⟨fun k a b => hf2 k a (by omega), hj2⟩
          have hb2 := xBu_rw hw hb1 hw2'
          have hw2 : xRw w G0 G2 := xRw_t hw1 hw2'
          have hpr := pRow_a (T := T) (n := m) (p := p) (D := D) (K := (k : Int)) (by omega) hc1 (by rw [← hpe1]; exact hc2)
          rw [← hpe1, ← hpe2] at hpr
          refine zs_aload (ip' := 16) rfl rfl rfl ?_
          refine zW_cR (ip' := 17) rfl rfl (cX_semi hN hb2 hp2 hs2) rfl rfl (z_ok3 (by omega) zsh_197 rfl rfl rfl) ?_
          rintro v3 G3 F' n' hv3 ⟨hd3, rfl, rfl⟩
          refine zs_if_ne (t := 20) (ip' := 18) rfl rfl (by omega) ?_ ?_
          · intro h17
            obtain ⟨-, hc3, hr3, hs3⟩ := hd3.resolve_right (fun q => h17 q.1)
            obtain ⟨p3, hpe3⟩ : ∃ q, q = tE T m p2 := ⟨_, rfl⟩
            rw [← hpe3] at hs3
            have hp3 : 0 ≤ p3 ∧ p3 ≤ m := by rw [hpe3]; exact tE_in hp2
            have hb3 := xBu_rt hb2 hr3
            have hw3 : xRw w G0 G3 := xRw_t hw2 (xRw_d hr3)
            refine zs_iinc2 (ip' := 21) rfl rfl zi_k1 ?_
            refine zs_goto (t := 2) rfl ?_
            have hx1 : pRows T m (k + 1) (p0, 0, -1, D0) = (p3, 0, -1, pRowD T D (tB T m p1) (k : Int) (D 0)) := by
              show pRow T m (k : Int) (pRows T m k (p0, 0, -1, D0)) = _
              rw [hx0, hpr, pTk_t hc3, ← hpe3]
            have hRg2 : RXg G2 w (pRowD T D (tB T m p1) (k : Int) (D 0)) ((k : Int) + 1) := RXg_row hok (RXg_fr hRg (fun k a b => hr1.1 k (by omega))) ⟨by omega, by omega⟩ (fun k a b c => hf2 k (by omega) c) hg2 hg2'
            refine ih (k + 1) p3 _ G3 (by omega) (by omega) hx1 (by rw [pRowD_o _ _ _ _ (by omega) (by omega)]; exact hD1) ⟨hb3, hp3, hs3, hw3, mOk_row hok ⟨by omega, by omega⟩ (by omega) hc2.2.2, ?_⟩
            exact RXg_fr hRg2 (fun k a b => hr3.1 k (by omega))
          · intro h17
            obtain ⟨-, hc3, rfl⟩ := hd3.resolve_left (fun q => absurd (q.1.symm.trans h17) (by decide))
            refine zs_pushI (ip' := 19) rfl rfl zi_k0 ?_
            refine zW_0b rfl (Or.inl rfl) ?_
            have hx : xWr (pRows T m (k + 1) (p0, 0, -1, D0)) (tB T m p2) := by
              show xWr (pRow T m (k : Int) (pRows T m k (p0, 0, -1, D0))) _
              rw [hx0]
              exact (by rw [hpr, pTk_f hc3]; exact ⟨rfl, rfl⟩)
            have hx2 := pRows_ge hx ((D0 1).toNat - (k + 1))
            rw [show k + 1 + ((D0 1).toNat - (k + 1)) = (D0 1).toNat by omega] at hx2
            exact ⟨0, rfl, by decide, Or.inr ⟨rfl, hx2.1, hx2.2.trans hs2.1.symm, hw2⟩, rfl, rfl⟩
theorem cR_rows {N : Nat} {G F : GM} {n : Nat} (hN : 229 ≤ N) {w : Nat} (hw : w < 12) {T : Int → Int} {m p0 : Int} {D0 : Int → Int} {G0 : GM} (hG : xGw w 0 G0 G T m p0 D0) : zC N 187 [.ref 197, .ref (16 * w + 1)] G F n (zR fun v G' F' n' => xSt w (D0 1) G0 T m (pRows T m (D0 1).toNat (p0, 0, -1, D0)) v G' ∧ F' = F ∧ n' = n) := by
  have hH := hG.2.2.2.2.1.2.1
  refine zC_i (L0 := [.ref 197, .ref (16 * w + 1), .null]) rfl ?_
  refine zs_pushI (ip' := 1) rfl rfl zi_k0 ?_
  refine zs_istore2 (ip' := 2) rfl rfl ?_
  exact cR_rows_l hN hw hH 13 0 p0 D0 G (by omega) (by omega) rfl rfl hG
