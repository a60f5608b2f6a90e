/-! The program: undo, snapshots, printing (printed by wip/whole/src63.py). -/
theorem zslot {w : Nat} (h0 : 10 ≤ w) (h1 : w < 12) : [160, 176][((w : Int) - 10).toNat]? = some (16 * w) := by
  have : w = 10 ∨ w = 11 := by omega
  rcases this with rfl | rfl <;> rfl
theorem cQ_undo {N : Nat} {G F : GM} {n : Nat} (hN : 229 ≤ N) {u : Int} {h : Nat → Int → Int} (hX : XH G u h) (hok0 : 0 < u → mOk (h 0)) : zC N 260 [.ref 192] G F n (zQx F n [0] (q_undo u) (fun G' => ((q_undo u).1 = 0 ∧ xUn G G' h) ∨ ((q_undo u).1 ≠ 0 ∧ G' = G))) := by
  obtain ⟨x1, x2, -⟩ := id hX
  refine zC_i (L0 := [.ref 192]) rfl ?_
  refine zs_aload (ip' := 1) rfl rfl rfl ?_
  refine zs_getR (ip' := 2) rfl rfl (r := 193) (by omega) zsh_192 rfl ?_
  refine zs_getI (ip' := 3) rfl rfl (by omega) zsh_193 rfl (q := 0) rfl ?_
  intro hl2 hu2
  rw [x1] at hl2 hu2 ⊢
  refine zs_if_ne (t := 9) (ip' := 4) rfl rfl (by omega) ?_ ?_
  · intro h3
    refine zs_aload (ip' := 10) rfl rfl rfl ?_
    refine zs_getR (ip' := 11) rfl rfl (r := 193) (by omega) zsh_192 rfl ?_
    refine zs_aload (ip' := 12) rfl rfl rfl ?_
    refine zs_getR (ip' := 13) rfl rfl (r := 0) (by omega) zsh_192 rfl ?_
    refine zW_cV (ip' := 14) rfl rfl (cR_unrem hN hX (by omega) (hok0 (by omega))) rfl rfl (z_ok3 (by omega) zsh_193 rfl rfl rfl) ?_
    rintro G1 F' n' ⟨hun, rfl, rfl⟩
    refine zs_aload (ip' := 15) rfl rfl rfl ?_
    refine zs_getR (ip' := 16) rfl rfl (r := 193) (by omega) zsh_192 rfl ?_
    refine zs_getI (ip' := 17) rfl rfl (by omega) zsh_193 rfl (q := 0) rfl ?_
    intro hl16 hu16
    rw [hun.2.2.1, x1] at hl16 hu16 ⊢
    refine zW_0 rfl ?_
    have hq : q_undo u = (0, u - 1) := if_neg (by omega)
    exact zqx0 hq (Or.inl ⟨by rw [hq], hun⟩)
  · intro h3
    refine zW_5 rfl ?_
    have hq : q_undo u = (1, 0) := if_pos (by omega)
    exact zqx1 hq rfl (Or.inr ⟨by rw [hq]; exact (by decide : (1 : Int) ≠ 0), rfl⟩)
/-- the world s was put into slot c -/
def xSv (c : Int) (s : Int → Int) (G G' : GM) : Prop := (∀ k, (k < 160 ∨ 192 ≤ k) → k ≠ 196 → G' k = G k) ∧ G' 196 = zp (G 196) c 1 ∧ ∀ w : Nat, 10 ≤ w → w < 12 → ((w : Int) - 10 = c → RX G' w s) ∧ ((w : Int) - 10 ≠ c → ∀ k, 16 * w ≤ k → k < 16 * w + 16 → G' k = G k)
theorem cQ_saveSnapshot {N : Nat} {G F : GM} {n : Nat} (hN : 229 ≤ N) {s : Int → Int} (hok : mOk s) (hR : RX G 0 s) {c : Int} (hc : zr c) : zC N 261 [.ref 192, .int (zi c)] G F n (zQx F n [3] (q_save s c) (fun G' => ((q_save s c).1 = 0 ∧ xSv c s G G') ∨ ((q_save s c).1 ≠ 0 ∧ G' = G))) := by
  obtain ⟨⟨c0, c1, c2, c3, c4, c5⟩, hf, hg, hl, hb, ht⟩ := RX_0 hR
  obtain ⟨b0, b1, b2, b3, b4, b5, bf, bc, bl, bw⟩ := id hok
  refine zC_i (L0 := [.ref 192, .int (zi c)]) rfl ?_
  refine zs_aload (ip' := 1) rfl rfl rfl ?_
  refine zs_iload (ip' := 2) rfl rfl rfl ?_
  refine zW_cT (ip' := 3) rfl rfl (cT_slot hc) rfl rfl (z_ok3 (by omega) zsh_192 rfl rfl rfl) rfl rfl ?_ ?_
  · intro hn2
    have hq : q_save s c = (1, 0) := if_neg hn2
    exact zqx1 hq rfl (Or.inr ⟨by rw [hq]; exact (by decide : (1 : Int) ≠ 0), rfl⟩)
  intro hc2
  obtain ⟨w, w0, w1, rfl⟩ : ∃ w : Nat, 10 ≤ w ∧ w < 12 ∧ c = (w : Int) - 10 := ⟨c.toNat + 10, by omega, by omega, by omega⟩
  have hw : w < 12 := w1
  refine zs_aload (ip' := 4) rfl rfl rfl ?_
  refine zs_getR (ip' := 5) rfl rfl (r := 195) (by omega) zsh_192 rfl ?_
  refine zs_iload (ip' := 6) rfl rfl rfl ?_
  refine zs_aald (ip' := 7) rfl rfl (r := 16 * w) (by omega) zsh_195 (by decide) (by omega) (zslot w0 w1) ?_
  refine zs_aload (ip' := 8) rfl rfl rfl ?_
  refine zs_getR (ip' := 9) rfl rfl (r := 0) (by omega) zsh_192 rfl ?_
  refine zW_cV (ip' := 10) rfl rfl (cX_copy7 (w := w) (w2 := 0) hN hw (by omega) (by omega)) rfl rfl (z_ok3 (by omega) (zsh_w0 hw) rfl rfl rfl) ?_
  rintro G1 F' n' ⟨hcp, rfl, rfl⟩
  have hR1 : RX G1 w s := RX_cp hok hR hcp
  refine zs_aload (ip' := 11) rfl rfl rfl ?_
  refine zs_getR (ip' := 12) rfl rfl (r := 196) (by omega) zsh_192 rfl ?_
  refine zs_iload (ip' := 13) rfl rfl rfl ?_
  refine zs_pushI (ip' := 14) rfl rfl zi_k1 ?_
  refine zs_zast (ip' := 15) rfl rfl (by omega) zsh_196 (by omega) (Or.inr rfl) ?_
  refine zs_aload (ip' := 16) rfl rfl rfl ?_
  refine zs_getR (ip' := 17) rfl rfl (r := 0) (by omega) zsh_192 rfl ?_
  refine zs_getI (ip' := 18) rfl rfl (by omega) zsh_0 rfl (q := 5) rfl ?_
  intro hl17 hu17
  rw [zk_ne (by decide), show G1 0 5 = s 3 from (congrFun (hcp.1 0 (by omega)) 5).trans c3] at hl17 hu17 ⊢
  refine zW_0 rfl ?_
  have hq : q_save s ((w : Int) - 10) = (0, s 3) := if_pos hc2
  refine zqx0 hq (Or.inl ⟨by rw [hq], fun k a b => ?_, ?_, fun v v0 v1 => ⟨fun e => ?_, fun e k a b => ?_⟩⟩)
  · rw [zk_ne b, hcp.1 k (by omega)]
  · rw [zk_eq, hcp.1 196 (by omega)]
  · have : v = w := by omega
    subst this
    exact RX_fr hR1 (fun k a b => zk_ne (by omega))
  · rw [zk_ne (by omega), hcp.1 k (by omega)]
theorem cQ_restoreSnapshot {N : Nat} {G F : GM} {n : Nat} (hN : 229 ≤ N) {s : Int → Int} (hok : mOk s) (hR : RX G 0 s) (hH0 : 0 ≤ G 193 0 ∧ G 193 0 ≤ 8) (hH1 : 0 ≤ G 193 1 ∧ G 193 1 ≤ 7) {c : Int} (hc : zr c) {t : Int → Int} (hokt : mOk t) (hRt : G 196 c ≠ 0 → ∀ w : Nat, (w : Int) - 10 = c → RX G w t) : zC N 262 [.ref 192, .int (zi c)] G F n (zQx F n [3, 2] (q_restore (G 196) t c) (xCq (q_restore (G 196) t c) G s t)) := by
  obtain ⟨⟨c0, c1, c2, c3, c4, c5⟩, hf, hg, hl, hb, ht⟩ := RX_0 hR
  obtain ⟨b0, b1, b2, b3, b4, b5, bf, bc, bl, bw⟩ := id hok
  refine zC_i (L0 := [.ref 192, .int (zi c)]) rfl ?_
  refine zs_aload (ip' := 1) rfl rfl rfl ?_
  refine zs_iload (ip' := 2) rfl rfl rfl ?_
  refine zW_cT (ip' := 3) rfl rfl (cT_slot hc) rfl rfl (z_ok3 (by omega) zsh_192 rfl rfl rfl) rfl rfl ?_ ?_
  · intro hn2
    have hq := (if_neg hn2 : q_restore (G 196) t c = (1, 0))
    exact zqx1 hq rfl (xCq1 hq (by decide))
  intro hc2
  
  refine zs_aload (ip' := 4) rfl rfl rfl ?_
  refine zs_getR (ip' := 5) rfl rfl (r := 196) (by omega) zsh_192 rfl ?_
  refine zs_iload (ip' := 6) rfl rfl rfl ?_
  refine zs_zald (ip' := 7) rfl rfl (by omega) zsh_196 (by omega) ?_
  intro hl6 hu6
  refine zs_if_ne (t := 13) (ip' := 8) rfl rfl (by omega) ?_ ?_
  · intro h7
    obtain ⟨w, w0, w1, rfl⟩ : ∃ w : Nat, 10 ≤ w ∧ w < 12 ∧ c = (w : Int) - 10 := ⟨c.toNat + 10, by omega, by omega, by omega⟩
    have hw : w < 12 := w1
    refine zs_aload (ip' := 14) rfl rfl rfl ?_
    refine zs_getR (ip' := 15) rfl rfl (r := 193) (by omega) zsh_192 rfl ?_
    refine zs_aload (ip' := 16) rfl rfl rfl ?_
    refine zs_getR (ip' := 17) rfl rfl (r := 0) (by omega) zsh_192 rfl ?_
    refine zW_cV (ip' := 18) rfl rfl (cR_rem hN hok hR hH0 hH1) rfl rfl (z_ok3 (by omega) zsh_193 rfl rfl rfl) ?_
    rintro G1 F' n' ⟨hrm, rfl, rfl⟩
    have hR1 : RX G1 0 s := RX_fr hR (fun k a b => hrm.1 k (by omega) (by omega))
    obtain ⟨⟨d0, d1, d2, d3, d4, d5⟩, df, dg, dl, db, dt⟩ := RX_0 hR1
    have hRw : RX G1 w t := RX_fr (hRt h7 w rfl) (fun k a b => hrm.1 k (by omega) (by omega))
    refine zs_aload (ip' := 19) rfl rfl rfl ?_
    refine zs_getR (ip' := 20) rfl rfl (r := 0) (by omega) zsh_192 rfl ?_
    refine zs_aload (ip' := 21) rfl rfl rfl ?_
    refine zs_getR (ip' := 22) rfl rfl (r := 195) (by omega) zsh_192 rfl ?_
    refine zs_iload (ip' := 23) rfl rfl rfl ?_
    refine zs_aald (ip' := 24) rfl rfl (r := 16 * w) (by omega) zsh_195 (by decide) (by omega) (zslot w0 w1) ?_
    refine zW_cV (ip' := 25) rfl rfl (cX_copy7 (w := 0) (w2 := w) hN (by omega) hw (by omega)) rfl rfl (z_ok3 (by omega) zsh_0 rfl rfl rfl) ?_
    rintro G2 F' n' ⟨hcp, rfl, rfl⟩
    have hR2 : RX G2 0 t := RX_cp hokt hRw hcp
    obtain ⟨⟨-, -, -, e3, -⟩, -⟩ := RX_0 hR2
    refine zs_aload (ip' := 26) rfl rfl rfl ?_
    refine zs_getR (ip' := 27) rfl rfl (r := 0) (by omega) zsh_192 rfl ?_
    refine zs_getI (ip' := 28) rfl rfl (by omega) zsh_0 rfl (q := 5) rfl ?_
    intro hl27 hu27
    rw [e3] at hl27 hu27 ⊢
    refine zW_0 rfl ?_
    have hq := ((if_pos hc2).trans (if_neg h7) : q_restore (G 196) t ((w : Int) - 10) = (0, t 3))
    exact zqx0 hq (xCq0 hq (xCh_of hrm hR2 (fun k a b => hcp.1 k (by omega))))
  · intro h7
    refine zW_5 rfl ?_
    have hq := ((if_pos hc2).trans (if_pos h7) : q_restore (G 196) t c = (2, 0))
    exact zqx2 hq rfl (xCq1 hq (by decide))
theorem sSign_rng {s : Int → Int} (hok : mOk s) (x y : Int) : -128 ≤ sSign s x y ∧ sSign s x y ≤ 127 := by
  have hw1 := zfst_rng (fun t => s (214 + 7 * t + 2) = 0 ∧ sFar s t x y = 0) (s 5).toNat
  have hw2 : sWOn s x y = zfst (fun t => s (214 + 7 * t + 2) = 0 ∧ sFar s t x y = 0) (s 5).toNat := rfl
  rw [← hw2] at hw1
  have b5 := hok.2.2.2.2.2.1
  unfold sSign
  split
  · omega
  · split
    · omega
    · split
      · omega
      · split
        · omega
        · split <;> omega
theorem sPrI_eq {s A B : Int → Int} {y n : Int} (h : ∀ j, 0 ≤ j → j < n → A j = B j) : ∀ k : Nat, (sPrI s y (A, n) k).2 = (sPrI s y (B, n) k).2 ∧ ∀ j, 0 ≤ j → j < (sPrI s y (B, n) k).2 → (sPrI s y (A, n) k).1 j = (sPrI s y (B, n) k).1 j := by
  intro k
  induction k with
  | zero => exact ⟨rfl, h⟩
  | succ k ih =>
    obtain ⟨h1, h2⟩ := ih
    refine ⟨congrArg (· + 1) h1, fun j j0 j1 => ?_⟩
    show zp (sPrI s y (A, n) k).1 (sPrI s y (A, n) k).2 (sSign s k y) j = zp (sPrI s y (B, n) k).1 (sPrI s y (B, n) k).2 (sSign s k y) j
    rw [h1]
    have j2 : j < (sPrI s y (B, n) k).2 + 1 := j1
    by_cases e : j = (sPrI s y (B, n) k).2
    · rw [e, zp_eq, zp_eq]
    · rw [zp_ne e, zp_ne e]
      exact h2 j j0 (by omega)
theorem sPrO_eq {s A B : Int → Int} : ∀ k : Nat, (sPrO s (A, 0) k).2 = (sPrO s (B, 0) k).2 ∧ ∀ j, 0 ≤ j → j < (sPrO s (B, 0) k).2 → (sPrO s (A, 0) k).1 j = (sPrO s (B, 0) k).1 j := by
  intro k
  induction k with
  | zero => exact ⟨rfl, fun j a b => absurd b (by show ¬ j < 0; omega)⟩
  | succ k ih =>
    obtain ⟨h1, h2⟩ := ih
    have e1 : sPrO s (A, 0) k = ((sPrO s (A, 0) k).1, (sPrO s (B, 0) k).2) := by rw [← h1]
    have e2 : sPrO s (B, 0) k = ((sPrO s (B, 0) k).1, (sPrO s (B, 0) k).2) := rfl
    obtain ⟨g1, g2⟩ := sPrI_eq (s := s) (y := k) h2 (s 0).toNat
    rw [← e1] at g1 g2
    have g3 : ∀ j, 0 ≤ j → j < (sPrI s k (sPrO s (B, 0) k) (s 0).toNat).2 → (sPrI s k (sPrO s (A, 0) k) (s 0).toNat).1 j = (sPrI s k (sPrO s (B, 0) k) (s 0).toNat).1 j := g2
    refine ⟨congrArg (· + 1) g1, fun j j0 j1 => ?_⟩
    show zp (sPrI s k (sPrO s (A, 0) k) (s 0).toNat).1 (sPrI s k (sPrO s (A, 0) k) (s 0).toNat).2 10 j = zp (sPrI s k (sPrO s (B, 0) k) (s 0).toNat).1 (sPrI s k (sPrO s (B, 0) k) (s 0).toNat).2 10 j
    rw [g1]
    have j2 : j < (sPrI s k (sPrO s (B, 0) k) (s 0).toNat).2 + 1 := j1
    by_cases e : j = (sPrI s k (sPrO s (B, 0) k) (s 0).toNat).2
    · rw [e, zp_eq, zp_eq]
    · rw [zp_ne e, zp_ne e]
      exact g3 j j0 (by omega)
