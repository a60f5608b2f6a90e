/-! The program: a text is read (printed by wip/whole/src74.py). -/
section PJ
variable {T : Int → Int} {n : Int} {x : zTx} {j : Int}
theorem pHead_j (hj : 3 ≤ j) : (pHead T n x).2.2.2 j = x.2.2.2 j := by
  have h1 : ∀ z : zTx, (pH1 T n z).2.2.2 j = z.2.2.2 j := fun z => zp_ne (by omega)
  have h2 : ∀ z : zTx, (pH2 T n z).2.2.2 j = z.2.2.2 j := fun z => zp_ne (by omega)
  have h3 : ∀ z : zTx, (pH3 T n z).2.2.2 j = z.2.2.2 j := fun z => zp_ne (by omega)
  unfold pHead pSemi
  rw [pTk_D, h3, pTk_D, h2, h1, pTk_D]
theorem pFog_j (hj : j < 6) : (pFog T n x).2.2.2 j = x.2.2.2 j := by
  have hv := pNv_rng (T := T) (n := n) (x := pNx T n x) (lo := 0) (hi := 23) (by omega)
  have e : (pNs T n (pNs T n (pNx T n x) 0 23) 0 9).2.2.2 = x.2.2.2 := by
    unfold pNs
    rw [pTk_D, pTk_D]
    rfl
  unfold pFog pF3
  split
  · show zp (pNs T n (pNs T n (pNx T n x) 0 23) 0 9).2.2.2 _ _ j = _
    rw [zp_ne (by omega), e]
  · rw [pTk_D, e]
theorem pLoopF_j {v : Int} (hj : j < 6) : ∀ (k : Nat) (x : zTx), (pLoop T n v (pFog T n) k x).2.2.2 j = x.2.2.2 j := by
  intro k
  induction k with
  | zero => intro x; rfl
  | succ k ih =>
    intro x
    unfold pLoop
    split
    · rw [ih, pFog_j hj]
    · rfl
theorem pText_eq : pText T n x = pFin T n (pLoop T n 5837583086019 (pWalker T n) 802 (pLoop T n 6559778 (pLight T n) 802 (pLoop T n 4786 (pFog T n) 802 (pRows T n ((pHead T n x).2.2.2 1).toNat (pHead T n x))))) := rfl
end PJ
theorem cR_read {N : Nat} {G F : GM} {n : Nat} (hN : 229 ≤ N) {w : Nat} (hw : w < 12) {T : Int → Int} {m : Int} {D0 : Int → Int} (hB : xBu G T m) (hz : ∀ i, 0 ≤ i → i < 256 → D0 i = 0) : zC N 185 [.ref 197, .ref (16 * w)] G F n (zR fun e G' F' n' => (((pText T m (0, 0, -1, D0)).2.1 = 0 ∧ e = -1 ∧ (pText T m (0, 0, -1, D0)).2.2.1 = -1 ∧ mOk (pText T m (0, 0, -1, D0)).2.2.2 ∧ RX G' w (pText T m (0, 0, -1, D0)).2.2.2) ∨ ((pText T m (0, 0, -1, D0)).2.1 = 1 ∧ e = (pText T m (0, 0, -1, D0)).2.2.1)) ∧ xRw w G G' ∧ F' = F ∧ n' = n) := by
  obtain ⟨-, ⟨m0, m1⟩, -⟩ := id hB
  refine zC_i (L0 := [.ref 197, .ref (16 * w), .null]) rfl ?_
  refine zs_aload (ip' := 1) rfl rfl rfl ?_
  refine zs_pushI (ip' := 2) rfl rfl zi_k0 ?_
  refine zs_putI (ip' := 3) rfl rfl (by omega) zsh_197 rfl (q := 3) rfl (by omega) ?_
  refine zW_gk ?_
  intro G1 e1 f1
  have hr1 : xRd G G1 := xRd_k (by decide) e1 f1
  have hB1 := xBu_rd hB hr1
  refine zs_aload (ip' := 4) rfl rfl rfl ?_
  refine zW_cV (ip' := 5) rfl rfl (cX_scan (p := 0) hN hB1 ⟨by omega, m0⟩ (by rw [e1, zp_eq])) rfl rfl (z_ok3 (by omega) zsh_197 rfl rfl rfl) ?_
  rintro G2 F' n' ⟨⟨hrd, hs2⟩, rfl, rfl⟩
  have hb2 := xBu_rd hB1 hrd
  have hwa : xRw w G G2 := xRw_d (xRt_t (xRt_d hr1) (xRt_d hrd))
  refine zs_aload (ip' := 6) rfl rfl rfl ?_
  refine zs_aload (ip' := 7) rfl rfl rfl ?_
  refine zW_cR (ip' := 8) rfl rfl (cR_head hN hw hb2 ⟨Int.le_refl _, m0⟩ hs2 hz) rfl rfl (z_ok3 (by omega) zsh_197 rfl rfl rfl) ?_
  rintro v1 G3 F' n' hv1 ⟨hd1, rfl, rfl⟩
  refine zs_if_eq (t := 31) (ip' := 9) rfl rfl (by omega) ?_ ?_
  · intro h8
    obtain ⟨-, hx1, hy1, hw1⟩ := hd1.resolve_left (fun q => absurd (q.1.symm.trans h8) (by decide))
    refine zs_pushI (ip' := 32) rfl rfl zi_k0 ?_
    refine zs_istore2 (ip' := 33) rfl rfl ?_
    refine zs_iload (ip' := 34) rfl rfl rfl ?_
    refine zs_if_eq (t := 37) (ip' := 35) rfl rfl (by omega) ?_ ?_
    · intro h34
      refine zs_aload (ip' := 38) rfl rfl rfl ?_
      refine zs_getI (ip' := 39) rfl rfl (by omega) zsh_197 rfl (q := 2) rfl ?_
      intro hl38 hu38
      refine zW_0 rfl ?_
      have hX : xWr (pText T m (0, 0, -1, D0)) (G3 197 2) := by
        rw [pText_eq]
        exact xWr_fin (xWr_loop (xWr_loop (xWr_loop (xWr_rows ⟨hx1, hy1⟩))))
      exact ⟨_, rfl, ⟨hl38, hu38⟩, Or.inr ⟨hX.1, hX.2.symm⟩, xRw_t hwa hw1, rfl, rfl⟩
    · intro h34
      exact absurd h34 (by decide)
  · intro h8
    obtain ⟨-, p1, D1, hx1, hG1⟩ := hd1.resolve_right (fun q => h8 q.1)
    have z1 : ∀ j, 3 ≤ j → j < 256 → D1 j = 0 := fun j j0 j1 => by
      have := pHead_j (T := T) (n := m) (x := (0, 0, -1, D0)) j0
      rw [hx1] at this
      exact this.trans (hz j (by omega) j1)
    refine zs_aload (ip' := 10) rfl rfl rfl ?_
    refine zs_aload (ip' := 11) rfl rfl rfl ?_
    refine zs_getR (ip' := 12) rfl rfl (r := 16 * w + 1) (by omega) (zsh_w0 hw) rfl ?_
    refine zW_cR (ip' := 13) rfl rfl (cR_rows hN hw hG1) rfl rfl (z_ok3 (by omega) zsh_197 rfl rfl rfl) ?_
    rintro v2 G4 F' n' hv2 ⟨hd2, rfl, rfl⟩
    refine zs_if_eq (t := 31) (ip' := 14) rfl rfl (by omega) ?_ ?_
    · intro h13
      obtain ⟨-, hx2, hy2, hw2⟩ := hd2.resolve_left (fun q => absurd (q.1.symm.trans h13) (by decide))
      refine zs_pushI (ip' := 32) rfl rfl zi_k0 ?_
      refine zs_istore2 (ip' := 33) rfl rfl ?_
      refine zs_iload (ip' := 34) rfl rfl rfl ?_
      refine zs_if_eq (t := 37) (ip' := 35) rfl rfl (by omega) ?_ ?_
      · intro h34
        refine zs_aload (ip' := 38) rfl rfl rfl ?_
        refine zs_getI (ip' := 39) rfl rfl (by omega) zsh_197 rfl (q := 2) rfl ?_
        intro hl38 hu38
        refine zW_0 rfl ?_
        have hX : xWr (pText T m (0, 0, -1, D0)) (G4 197 2) := by
          rw [pText_eq, hx1]
          exact xWr_fin (xWr_loop (xWr_loop (xWr_loop ⟨hx2, hy2⟩)))
        exact ⟨_, rfl, ⟨hl38, hu38⟩, Or.inr ⟨hX.1, hX.2.symm⟩, xRw_t hwa hw2, rfl, rfl⟩
      · intro h34
        exact absurd h34 (by decide)
    · intro h13
      obtain ⟨-, p2, D2, hx2, hG2⟩ := hd2.resolve_right (fun q => h13 q.1)
      have z2 : ∀ j, j < 30 → D2 j = D1 j := fun j hj => by
        have := pRows_D (T := T) (n := m) (x := (p1, 0, -1, D1)) (D1 1).toNat hj
        rw [hx2] at this
        exact this
      refine zs_aload (ip' := 15) rfl rfl rfl ?_
      refine zs_aload (ip' := 16) rfl rfl rfl ?_
      refine zW_cR (ip' := 17) rfl rfl (cR_fogs (G0 := G2) (H := D1 1) hN hw (z2 1 (by omega)) hG2) rfl rfl (z_ok3 (by omega) zsh_197 rfl rfl rfl) ?_
      rintro v3 G5 F' n' hv3 ⟨hd3, rfl, rfl⟩
      refine zs_if_eq (t := 31) (ip' := 18) rfl rfl (by omega) ?_ ?_
      · intro h17
        obtain ⟨-, hx3, hy3, hw3⟩ := hd3.resolve_left (fun q => absurd (q.1.symm.trans h17) (by decide))
        refine zs_pushI (ip' := 32) rfl rfl zi_k0 ?_
        refine zs_istore2 (ip' := 33) rfl rfl ?_
        refine zs_iload (ip' := 34) rfl rfl rfl ?_
        refine zs_if_eq (t := 37) (ip' := 35) rfl rfl (by omega) ?_ ?_
        · intro h34
          refine zs_aload (ip' := 38) rfl rfl rfl ?_
          refine zs_getI (ip' := 39) rfl rfl (by omega) zsh_197 rfl (q := 2) rfl ?_
          intro hl38 hu38
          refine zW_0 rfl ?_
          have hX : xWr (pText T m (0, 0, -1, D0)) (G5 197 2) := by
            rw [pText_eq, hx1, hx2]
            exact xWr_fin (xWr_loop (xWr_loop ⟨hx3, hy3⟩))
          exact ⟨_, rfl, ⟨hl38, hu38⟩, Or.inr ⟨hX.1, hX.2.symm⟩, xRw_t hwa hw3, rfl, rfl⟩
        · intro h34
          exact absurd h34 (by decide)
      · intro h17
        obtain ⟨-, p3, D3, hx3, hG3⟩ := hd3.resolve_right (fun q => h17 q.1)
        have z3 : ∀ j, j < 6 → D3 j = D2 j := fun j hj => by
          have := pLoopF_j (T := T) (n := m) (v := 4786) hj 802 (p2, 0, -1, D2)
          rw [hx3] at this
          exact this
        refine zs_aload (ip' := 19) rfl rfl rfl ?_
        refine zs_aload (ip' := 20) rfl rfl rfl ?_
        refine zW_cR (ip' := 21) rfl rfl (cR_lights (G0 := G2) (H := D1 1) hN hw ((z3 1 (by omega)).trans (z2 1 (by omega))) (by rw [z3 4 (by omega), z2 4 (by omega)]; exact z1 4 (by omega) (by omega)) (by rw [z3 5 (by omega), z2 5 (by omega)]; exact z1 5 (by omega) (by omega)) hG3) rfl rfl (z_ok3 (by omega) zsh_197 rfl rfl rfl) ?_
        rintro v4 G6 F' n' hv4 ⟨hd4, rfl, rfl⟩
        refine zs_if_eq (t := 31) (ip' := 22) rfl rfl (by omega) ?_ ?_
        · intro h21
          obtain ⟨-, hx4, hy4, hw4⟩ := hd4.resolve_left (fun q => absurd (q.1.symm.trans h21) (by decide))
          refine zs_pushI (ip' := 32) rfl rfl zi_k0 ?_
          refine zs_istore2 (ip' := 33) rfl rfl ?_
          refine zs_iload (ip' := 34) rfl rfl rfl ?_
          refine zs_if_eq (t := 37) (ip' := 35) rfl rfl (by omega) ?_ ?_
          · intro h34
            refine zs_aload (ip' := 38) rfl rfl rfl ?_
            refine zs_getI (ip' := 39) rfl rfl (by omega) zsh_197 rfl (q := 2) rfl ?_
            intro hl38 hu38
            refine zW_0 rfl ?_
            have hX : xWr (pText T m (0, 0, -1, D0)) (G6 197 2) := by
              rw [pText_eq, hx1, hx2, hx3]
              exact xWr_fin (xWr_loop ⟨hx4, hy4⟩)
            exact ⟨_, rfl, ⟨hl38, hu38⟩, Or.inr ⟨hX.1, hX.2.symm⟩, xRw_t hwa hw4, rfl, rfl⟩
          · intro h34
            exact absurd h34 (by decide)
        · intro h21
          obtain ⟨-, p4, D4, hG4, hH4, hP4, hs4⟩ := hd4.resolve_right (fun q => h21 q.1)
          refine zs_aload (ip' := 23) rfl rfl rfl ?_
          refine zs_aload (ip' := 24) rfl rfl rfl ?_
          refine zW_cR (ip' := 25) rfl rfl (cR_travs (G0 := G2) (H := D1 1) hN hw hH4 hP4 hG4) rfl rfl (z_ok3 (by omega) zsh_197 rfl rfl rfl) ?_
          rintro v5 G7 F' n' hv5 ⟨hd5, rfl, rfl⟩
          refine zs_if_eq (t := 31) (ip' := 26) rfl rfl (by omega) ?_ ?_
          · intro h25
            obtain ⟨-, hx5, hy5, hw5⟩ := hd5.resolve_left (fun q => absurd (q.1.symm.trans h25) (by decide))
            refine zs_pushI (ip' := 32) rfl rfl zi_k0 ?_
            refine zs_istore2 (ip' := 33) rfl rfl ?_
            refine zs_iload (ip' := 34) rfl rfl rfl ?_
            refine zs_if_eq (t := 37) (ip' := 35) rfl rfl (by omega) ?_ ?_
            · intro h34
              refine zs_aload (ip' := 38) rfl rfl rfl ?_
              refine zs_getI (ip' := 39) rfl rfl (by omega) zsh_197 rfl (q := 2) rfl ?_
              intro hl38 hu38
              refine zW_0 rfl ?_
              have hX : xWr (pText T m (0, 0, -1, D0)) (G7 197 2) := by
                rw [pText_eq, hx1, hx2, hx3]
                rcases hs4 with e4 | ⟨s1, s2, s3, s4⟩
                · rw [e4]
                  exact xWr_fin ⟨hx5, hy5⟩
                · have en := pLoop_n (T := T) (n := m) (p := p4) (D := D4) (v := 5837583086019) (f := pWalker T m) (d := 801) (fun q => by have z := q.2; rw [show tW T m p4 = 6559778 from s4] at z; exact absurd z (by decide))
                  rw [en] at hx5
                  exact absurd hx5 (show ¬ (0 : Int) = 1 by decide)
              exact ⟨_, rfl, ⟨hl38, hu38⟩, Or.inr ⟨hX.1, hX.2.symm⟩, xRw_t hwa hw5, rfl, rfl⟩
            · intro h34
              exact absurd h34 (by decide)
          · intro h25
            obtain ⟨-, p5, D5, hG5, hH5, -, hs5⟩ := hd5.resolve_right (fun q => h25 q.1)
            refine zs_aload (ip' := 27) rfl rfl rfl ?_
            refine zs_getI (ip' := 28) rfl rfl (by omega) zsh_197 rfl (q := 4) rfl ?_
            intro hl27 hu27
            refine zs_if_ne (t := 31) (ip' := 29) rfl rfl (by omega) ?_ ?_
            · intro h28
              refine zs_pushI (ip' := 32) rfl rfl zi_k0 ?_
              refine zs_istore2 (ip' := 33) rfl rfl ?_
              refine zs_iload (ip' := 34) rfl rfl rfl ?_
              refine zs_if_eq (t := 37) (ip' := 35) rfl rfl (by omega) ?_ ?_
              · intro h34
                refine zs_aload (ip' := 38) rfl rfl rfl ?_
                refine zs_getI (ip' := 39) rfl rfl (by omega) zsh_197 rfl (q := 2) rfl ?_
                intro hl38 hu38
                refine zW_0 rfl ?_
                have hS5 := hG5.2.2.1
                have hX : xWr (pText T m (0, 0, -1, D0)) (G7 197 2) := by
                  rw [pText_eq, hx1, hx2, hx3]
                  rcases hs4 with e4 | ⟨s1, s2, s3, s4⟩
                  · rw [e4]
                    rcases hs5 with e5 | ⟨t1, t2, t3, t4⟩
                    · rw [e5, hS5.1]
                      exact pFin_f (fun q => h28 (by rw [hS5.2.2.1]; exact q))
                    · rw [hS5.1]
                      exact xWr_fin ⟨t1, t2⟩
                  · have en := pLoop_n (T := T) (n := m) (p := p4) (D := D4) (v := 5837583086019) (f := pWalker T m) (d := 801) (fun q => by have z := q.2; rw [show tW T m p4 = 6559778 from s4] at z; exact absurd z (by decide))
                    rw [en] at hs5
                    rcases hs5 with e5 | ⟨t1, -⟩
                    · obtain rfl : p4 = p5 := congrArg Prod.fst e5
                      rw [hS5.1]
                      exact xWr_fin (xWr_loop ⟨s1, s2⟩)
                    · exact absurd t1 (show ¬ (0 : Int) = 1 by decide)
                exact ⟨_, rfl, ⟨hl38, hu38⟩, Or.inr ⟨hX.1, hX.2.symm⟩, xRw_t hwa hG5.2.2.2.1, rfl, rfl⟩
              · intro h34
                exact absurd h34 (by decide)
            · intro h28
              refine zs_pushI (ip' := 30) rfl rfl zi_k1 ?_
              refine zs_goto (t := 32) rfl ?_
              refine zs_istore2 (ip' := 33) rfl rfl ?_
              refine zs_iload (ip' := 34) rfl rfl rfl ?_
              refine zs_if_eq (t := 37) (ip' := 35) rfl rfl (by omega) ?_ ?_
              · intro h34
                exact absurd h34 (by decide)
              · intro h34
                refine zs_pushI (ip' := 36) rfl rfl zi_km1 ?_
                refine zs_goto (t := 39) rfl ?_
                refine zW_0 rfl ?_
                have hk0 : tK T m p5 = 0 := by rw [← hG5.2.2.1.2.2.1]; exact h28
                rcases hs5 with e5 | ⟨t1, t2, t3, t4⟩
                · rcases hs4 with e4 | ⟨s1, s2, s3, s4⟩
                  · have hX : pText T m (0, 0, -1, D0) = (p5, 0, -1, D5) := by
                      rw [pText_eq, hx1, hx2, hx3, e4, e5]
                      exact pFin_t hk0
                    obtain ⟨-, -, -, q4, q5, q6⟩ := hG5
                    rw [hX]
                    exact ⟨-1, rfl, by decide, Or.inl ⟨rfl, rfl, rfl, q5, by rw [← hH5] at q6; exact q6⟩, xRw_t hwa q4, rfl, rfl⟩
                  · have en := pLoop_n (T := T) (n := m) (p := p4) (D := D4) (v := 5837583086019) (f := pWalker T m) (d := 801) (fun q => by have z := q.2; rw [show tW T m p4 = 6559778 from s4] at z; exact absurd z (by decide))
                    rw [en] at e5
                    obtain rfl : p4 = p5 := congrArg Prod.fst e5
                    exact absurd s3 (by omega)
                · exact absurd t3 (by omega)
