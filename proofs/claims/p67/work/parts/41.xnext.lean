/-! The program: the way to a cell, the next cell on it (printed by wip/whole/src41.py). -/
theorem zBI_wet {W H : Int} {wt : Int → Prop} [DecidablePred wt] {mk : Prop} {t : Int} {q st : Int → Int} (hst : ∀ p, 0 ≤ p → p < 144 → p ≠ t → st p = -1) (ht : st t = 0) (hw : wt t) (hW : W ≤ 12) (hH : H ≤ 12) : zBI W H wt (fun p => p = t) mk 0 0 0 q st := by
  have hc : ∀ p, 0 ≤ p → p < 144 → (p = t ∧ st p = 0) ∨ (p ≠ t ∧ st p = -1) := fun p p0 p1 => by
    by_cases e : p = t
    · exact Or.inl ⟨e, by rw [e]; exact ht⟩
    · exact Or.inr ⟨e, hst p p0 p1 e⟩
  refine ⟨⟨by omega, by omega, by omega, by omega, fun h => by omega⟩, fun i i0 i1 => by omega, fun i j i0 ij j1 => by omega, fun p p0 p1 => by have := hc p p0 p1; omega, fun h => by omega, ?_, ?_, fun i i0 i1 => by omega, fun d d0 d1 => by omega, ?_, ?_⟩
  · intro p pv
    have := hc p (zVal_144 hW hH pv).1 (zVal_144 hW hH pv).2
    show p = t ↔ st p = 0
    omega
  · intro p pv ps
    have := hc p (zVal_144 hW hH pv).1 (zVal_144 hW hH pv).2
    omega
  · intro p pv ps pw
    rcases hc p (zVal_144 hW hH pv).1 (zVal_144 hW hH pv).2 with ⟨e, -⟩ | ⟨-, e⟩
    · exact absurd (e ▸ hw) pw
    · omega
  · have e := zcnt_congr (p := fun j => 0 ≤ st j ∧ ¬ wt j) (q := fun _ => False) 144 (fun j j0 j1 => ⟨fun h => by
      rcases hc j j0 (by omega) with ⟨e, -⟩ | ⟨-, e⟩
      · exact h.2 (e ▸ hw)
      · have := h.1
        omega, False.elim⟩)
    rw [e]
    exact (zcnt_no (fun _ h => h) 144).symm
theorem xBI_start {i w : Nat} {G0 G1 G2 : GM} {c : Int} (hw : w < 12) (hW : G0 (16 * w + 1) 0 ≤ 12) (hH : G0 (16 * w + 1) 1 ≤ 12) (h1 : xFr i G0 G1) (hA : ∀ j : Int, 0 ≤ j → j < 144 → G1 (201 + 3 * i + 1) j = -1) (h3 : G1 (201 + 3 * i) 3 = 0) (hv : zVal (G0 (16 * w + 1) 0) (G0 (16 * w + 1) 1) c) (hr : xRe i (G1 (16 * w + 2)) c 0 G1 G2) : xBI i w (fun p => p = c) G0 G2 0 0 := by
  obtain ⟨c0, c1⟩ := zVal_144 hW hH hv
  rw [(xFr_w h1 hw).2] at hr
  rcases hr with ⟨r1, rfl⟩ | ⟨r1, r2, r3, ⟨r4, r5, r6⟩ | ⟨r4, r5, r6⟩⟩
  · exact absurd (hA c c0 c1) r1
  · refine ⟨xFr_t h1 r2, ?_⟩
    rw [r6, h3, r3]
    exact zBI_wet (fun p p0 p1 e => (zp_ne e).trans (hA p p0 p1)) (zp_eq _ _ _) r4 hW hH
  · refine ⟨xFr_t h1 r2, ?_⟩
    have hJ := (zBI_goal (mk := True) hW hH (zBI_none (W := G0 (16 * w + 1) 0) (H := G0 (16 * w + 1) 1) (wt := xWt (G0 (16 * w + 2))) (mk := True) (q := G1 (201 + 3 * i + 2)) hA hW hH) (fun p pv => by rw [hA p (zVal_144 hW hH pv).1 (zVal_144 hW hH pv).2]; omega) hv (hA c c0 c1) r4).1
    rw [show (fun p => False ∨ p = c) = (fun p : Int => p = c) from funext fun p => propext ⟨fun h => h.elim False.elim id, Or.inr⟩] at hJ
    rw [r5, r6, h3, r3]
    exact hJ
/-- the first way that leads on; the cell there -/
abbrev xGo (W H : Int) (T st : Int → Int) (c d : Int) : Prop := zIn W H (znx c d) (zny c d) ∧ ¬ xWt T (znb c d) ∧ st (znb c d) = st c - 1
def xNx (W H : Int) (T st : Int → Int) (c : Int) : Int := if st c < 1 then -1 else if zfst (xGo W H T st c) 4 < 0 then -1 else znb c (zfst (xGo W H T st c) 4)
theorem cX_measure {N : Nat} {G F : GM} {n : Nat} (hN : 229 ≤ N) {w : Nat} (hw : w < 12) {i : Nat} (hi : i < 9) (hW : 0 ≤ G (16 * w + 1) 0 ∧ G (16 * w + 1) 0 ≤ 12) (hH : 0 ≤ G (16 * w + 1) 1 ∧ G (16 * w + 1) 1 ≤ 12) {c : Int} (hv : zVal (G (16 * w + 1) 0) (G (16 * w + 1) 1) c) : zC N 165 [.ref (201 + 3 * i), .ref (16 * w + 1), .int (zi c)] G F n (zV fun G' F' n' => (xFr i G G' ∧ G' (201 + 3 * i) 1 = 1 ∧ zDist (G (16 * w + 1) 0) (G (16 * w + 1) 1) (xWt (G (16 * w + 2))) (fun p => p = c) True (G' (201 + 3 * i + 1))) ∧ F' = F ∧ n' = n) := by
  obtain ⟨c0, c1⟩ := zVal_144 hW.2 hH.2 hv
  refine zC_i (L0 := [.ref (201 + 3 * i), .ref (16 * w + 1), .int (zi c)]) rfl ?_
  refine zs_aload (ip' := 1) rfl rfl rfl ?_
  refine zW_cV (ip' := 2) rfl rfl (cX_forget hN hi) rfl rfl (z_ok3 (by omega) (zsh_d0 hi) rfl rfl rfl) ?_
  rintro G1 F' n' ⟨⟨f1, f2, f3⟩, rfl, rfl⟩
  refine zs_aload (ip' := 3) rfl rfl rfl ?_
  refine zs_aload (ip' := 4) rfl rfl rfl ?_
  refine zs_iload (ip' := 5) rfl rfl rfl ?_
  refine zs_pushI (ip' := 6) rfl rfl zi_k0 ?_
  refine zW_cV (ip' := 7) rfl rfl (cX_reach hN hw hi ⟨c0, c1⟩ (by omega) (by omega) (fun _ _ => by omega)) rfl rfl (z_ok3 (by omega) (zsh_d0 hi) rfl rfl rfl) ?_
  rintro G2 F' n' ⟨hre, rfl, rfl⟩
  have hS := xBI_start hw hW.2 hH.2 f1 f2 f3 hv hre
  refine zs_aload (ip' := 8) rfl rfl rfl ?_
  refine zs_aload (ip' := 9) rfl rfl rfl ?_
  refine zW_cV (ip' := 10) rfl rfl (cX_spread hN hw hi hW hH hS) rfl rfl (z_ok3 (by omega) (zsh_d0 hi) rfl rfl rfl) ?_
  rintro G3 F' n' ⟨hD, rfl, rfl⟩
  refine zW_1 rfl ?_
  exact ⟨rfl, hD, rfl, rfl⟩
theorem cX_next_l {N : Nat} {G F : GM} {n : Nat} (hN : 229 ≤ N) {w : Nat} (hw : w < 12) {i : Nat} (hi : i < 9) (hW : 0 ≤ G (16 * w + 1) 0 ∧ G (16 * w + 1) 0 ≤ 12) (hH : 0 ≤ G (16 * w + 1) 1 ∧ G (16 * w + 1) 1 ≤ 12) {c : Int} (hc : 0 ≤ c ∧ c < 144) (hs : 1 ≤ G (201 + 3 * i + 1) c) : ∀ (d : Nat) (k : Nat) (a4 : Value), 4 - (k : Int) < (d : Int) → (k : Int) ≤ 4 → (∀ j : Int, 0 ≤ j → j < k → ¬ xGo (G (16 * w + 1) 0) (G (16 * w + 1) 1) (G (16 * w + 2)) (G (201 + 3 * i + 1)) c j) → zW N 170 10 [.ref (201 + 3 * i), .ref (16 * w + 1), .int (zi c), .int (zi (k : Int)), a4] [] G F n (fun o G' F' n' => o = .inl (some (.int (zi ((if zfst (xGo (G (16 * w + 1) 0) (G (16 * w + 1) 1) (G (16 * w + 2)) (G (201 + 3 * i + 1)) c) 4 < 0 then -1 else znb c (zfst (xGo (G (16 * w + 1) 0) (G (16 * w + 1) 1) (G (16 * w + 2)) (G (201 + 3 * i + 1)) c) 4)))))) ∧ G' = G ∧ F' = F ∧ n' = n) := by
  intro d
  induction d with
  | zero =>
    intro k a4 hd hj hn
    exact absurd hd (by omega)
  | succ d ih =>
    intro k a4 hd hj hn
    refine zs_iload (ip' := 11) rfl rfl rfl ?_
    refine zs_pushI (ip' := 12) rfl rfl zi_k4 ?_
    refine zs_icmp_ge (t := 41) (ip' := 13) rfl rfl (by omega) (by omega) ?_ ?_
    · intro h12
      refine zs_pushI (ip' := 42) rfl rfl zi_km1 ?_
      refine zW_0 rfl ?_
      have e : zfst (xGo (G (16 * w + 1) 0) (G (16 * w + 1) 1) (G (16 * w + 2)) (G (201 + 3 * i + 1)) c) 4 = -1 := zfst_no _ (fun j j0 j1 => hn j j0 (by omega))
      exact zfin (if_pos (by rw [e]; decide)).symm
    · intro h12
      refine zs_aload (ip' := 14) rfl rfl rfl ?_
      refine zs_iload (ip' := 15) rfl rfl rfl ?_
      refine zs_iload (ip' := 16) rfl rfl rfl ?_
      refine zW_cP (ip' := 17) rfl rfl (cX_neighbour hN hw (by omega) (by omega)) rfl rfl (z_ok3 (by omega) (zsh_w1 hw) rfl rfl rfl) ?_
      have hxr : -1 ≤ xNb (G (16 * w + 1) 0) (G (16 * w + 1) 1) c (k : Int) ∧ xNb (G (16 * w + 1) 0) (G (16 * w + 1) 1) c (k : Int) < 144 := by
        by_cases hx : xNb (G (16 * w + 1) 0) (G (16 * w + 1) 1) c (k : Int) = -1
        · omega
        · obtain ⟨hx1, hx2⟩ := xNb_yes hx
          obtain ⟨hx3, hx4, -⟩ := znb_val hW.2 hH.2 hx1
          have := hx3.1
          omega
      refine zs_istore4 (ip' := 18) rfl rfl ?_
      refine zs_iload (ip' := 19) rfl rfl rfl ?_
      refine zs_pushI (ip' := 20) rfl rfl zi_km1 ?_
      refine zs_icmp_eq (t := 39) (ip' := 21) rfl rfl (by omega) (by omega) ?_ ?_
      · intro h20
        refine zs_iinc3 (ip' := 40) rfl rfl zi_k1 ?_
        refine zs_goto (t := 10) rfl ?_
        exact ih (k + 1) _ (by omega) (by omega) (fun j j0 j1 => if e : j < k then hn j j0 e else fun hh => xNb_no h20 (by rw [show (k : Int) = j by omega]; exact hh.1))
      · intro h20
        obtain ⟨hin, hnb⟩ := xNb_yes h20
        refine zs_aload (ip' := 22) rfl rfl rfl ?_
        refine zs_getR (ip' := 23) rfl rfl (r := 16 * w + 2) (by omega) (zsh_w1 hw) rfl ?_
        refine zs_iload (ip' := 24) rfl rfl rfl ?_
        refine zs_iald (ip' := 25) rfl rfl (by omega) (zsh_w2 hw) (by omega) ?_
        intro hl24 hu24
        refine zs_if_eq (t := 39) (ip' := 26) rfl rfl (by omega) ?_ ?_
        · intro h25
          refine zs_iinc3 (ip' := 40) rfl rfl zi_k1 ?_
          refine zs_goto (t := 10) rfl ?_
          exact ih (k + 1) _ (by omega) (by omega) (fun j j0 j1 => if e : j < k then hn j j0 e else fun hh => hh.2.1 (by rw [show j = (k : Int) by omega, ← hnb]; exact h25))
        · intro h25
          refine zs_aload (ip' := 27) rfl rfl rfl ?_
          refine zs_getR (ip' := 28) rfl rfl (r := 201 + 3 * i + 1) (by omega) (zsh_d0 hi) rfl ?_
          refine zs_iload (ip' := 29) rfl rfl rfl ?_
          refine zs_iald (ip' := 30) rfl rfl (by omega) (zsh_d1 hi) (by omega) ?_
          intro hl29 hu29
          refine zs_aload (ip' := 31) rfl rfl rfl ?_
          refine zs_getR (ip' := 32) rfl rfl (r := 201 + 3 * i + 1) (by omega) (zsh_d0 hi) rfl ?_
          refine zs_iload (ip' := 33) rfl rfl rfl ?_
          refine zs_iald (ip' := 34) rfl rfl (by omega) (zsh_d1 hi) (by omega) ?_
          intro hl33 hu33
          refine zs_pushI (ip' := 35) rfl rfl zi_k1 ?_
          refine zs_isub (ip' := 36) rfl rfl ?_
          refine zs_icmp_ne (t := 39) (ip' := 37) rfl rfl (by omega) (by omega) ?_ ?_
          · intro h36
            refine zs_iinc3 (ip' := 40) rfl rfl zi_k1 ?_
            refine zs_goto (t := 10) rfl ?_
            exact ih (k + 1) _ (by omega) (by omega) (fun j j0 j1 => if e : j < k then hn j j0 e else fun hh => h36 (by rw [hnb, show (k : Int) = j by omega]; exact hh.2.2))
          · intro h36
            refine zs_iload (ip' := 38) rfl rfl rfl ?_
            refine zW_0 rfl ?_
            have e : zfst (xGo (G (16 * w + 1) 0) (G (16 * w + 1) 1) (G (16 * w + 2)) (G (201 + 3 * i + 1)) c) 4 = (k : Int) := zfst_at (p := xGo (G (16 * w + 1) 0) (G (16 * w + 1) 1) (G (16 * w + 2)) (G (201 + 3 * i + 1)) c) (j := k) ⟨hin, fun q => h25 (by rw [hnb]; exact q), by rw [← hnb]; exact h36⟩ hn _ (by omega)
            exact zfin (by rw [e, if_neg (by omega)]; exact hnb)
theorem cX_next {N : Nat} {G F : GM} {n : Nat} (hN : 229 ≤ N) {w : Nat} (hw : w < 12) {i : Nat} (hi : i < 9) (hW : 0 ≤ G (16 * w + 1) 0 ∧ G (16 * w + 1) 0 ≤ 12) (hH : 0 ≤ G (16 * w + 1) 1 ∧ G (16 * w + 1) 1 ≤ 12) {c : Int} (hc : 0 ≤ c ∧ c < 144) : zPu N 170 [.ref (201 + 3 * i), .ref (16 * w + 1), .int (zi c)] (xNx (G (16 * w + 1) 0) (G (16 * w + 1) 1) (G (16 * w + 2)) (G (201 + 3 * i + 1)) c) G F n := by
  refine zPu_i (L0 := [.ref (201 + 3 * i), .ref (16 * w + 1), .int (zi c), .null, .null]) rfl ?_
  refine zs_aload (ip' := 1) rfl rfl rfl ?_
  refine zs_getR (ip' := 2) rfl rfl (r := 201 + 3 * i + 1) (by omega) (zsh_d0 hi) rfl ?_
  refine zs_iload (ip' := 3) rfl rfl rfl ?_
  refine zs_iald (ip' := 4) rfl rfl (by omega) (zsh_d1 hi) (by omega) ?_
  intro hl3 hu3
  refine zs_pushI (ip' := 5) rfl rfl zi_k1 ?_
  refine zs_icmp_ge (t := 8) (ip' := 6) rfl rfl (by omega) (by omega) ?_ ?_
  · intro h5
    refine zs_pushI (ip' := 9) rfl rfl zi_k0 ?_
    refine zs_istore3 (ip' := 10) rfl rfl ?_
    have e : xNx (G (16 * w + 1) 0) (G (16 * w + 1) 1) (G (16 * w + 2)) (G (201 + 3 * i + 1)) c = (if zfst (xGo (G (16 * w + 1) 0) (G (16 * w + 1) 1) (G (16 * w + 2)) (G (201 + 3 * i + 1)) c) 4 < 0 then -1 else znb c (zfst (xGo (G (16 * w + 1) 0) (G (16 * w + 1) 1) (G (16 * w + 2)) (G (201 + 3 * i + 1)) c) 4)) := if_neg (by omega)
    rw [e]
    exact cX_next_l hN hw hi hW hH hc (by omega) 5 0 _ (by omega) (by omega) (fun j a b => absurd b (by omega))
  · intro h5
    refine zs_pushI (ip' := 7) rfl rfl zi_km1 ?_
    refine zW_0 rfl ?_
    exact zfin (if_pos (by omega)).symm
