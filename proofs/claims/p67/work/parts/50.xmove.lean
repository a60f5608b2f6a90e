/-! The program: a traveller moves, the way measured (printed by wip/whole/src50.py). -/
theorem sSinkR_gr {s : Int → Int} {t l j : Int} (t0 : 0 ≤ t) (hj : j < 214) : ∀ k : Nat, sSinkR s t l k j = s j := by
  intro k
  induction k with
  | zero =>
    show zp (zp s (214 + 7 * t + 2) 2) (214 + 7 * t + 3) (-1) j = s j
    rw [zp_ne (by omega), zp_ne (by omega)]
  | succ k ih =>
    unfold sSinkR
    split
    · exact ih
    · split
      · rw [zp_ne (by omega), zp_ne (by omega)]
        exact ih
      · rw [zp_ne (by omega)]
        exact ih
theorem sSettle_gr {s : Int → Int} {t l j : Int} (t0 : 0 ≤ t) (hj : j < 214) : sSettle s t l j = s j := by
  unfold sSettle
  split
  · rw [zp_ne (by omega), zp_ne (by omega)]
  · split
    · split
      · exact sSinkR_gr t0 hj _
      · unfold sGoOn
        rw [zp_ne (by omega), zp_ne (by omega)]
    · rfl
theorem cR_move {N : Nat} {G F : GM} {n : Nat} (hN : 229 ≤ N) {w : Nat} (hw : w < 12) {s : Int → Int} (hok : mOk s) (hR : RX G w s) {t : Int} (t0 : 0 ≤ t) (t1 : t < s 5) {i : Nat} (i0 : i < 8) (l1 : (i : Int) < s 4) (hon : ¬ sOn s t (i : Int)) (h6 : s (214 + 7 * t + 6) < s 3) (hWy : xWy G s) : zC N 174 [.ref 199, .ref (16 * w), .int (zi t), .int (zi (i : Int))] G F n (zR fun v G' F' n' => ((v = 0 ∧ ¬ 0 ≤ sFarT s t (i : Int) ∧ RX G' w s ∧ xWy G' s) ∨ (v = 1 ∧ 0 ≤ sFarT s t (i : Int) ∧ RX G' w (sMoved s t (i : Int)) ∧ xWy G' (sMoved s t (i : Int)))) ∧ (xSF w G G' ∧ xKp w G G') ∧ F' = F ∧ n' = n) := by
  have hi : i < 9 := by omega
  obtain ⟨c0, c1, -⟩ := id hR.1
  have b0 := hok.1
  have b1 := hok.2.1
  obtain ⟨lx, ly, -⟩ := hok.2.2.2.2.2.2.2.2.1 (i : Int) (by omega) l1
  have hll := (hR.2.2.2.1 (i : Int) (by omega) l1).1
  have hv : zVal (G (16 * w + 1) 0) (G (16 * w + 1) 1) (12 * s (174 + 5 * (i : Int) + 1) + s (174 + 5 * (i : Int) + 0)) := by
    rw [c0, c1]
    exact ⟨by omega, by omega, by omega⟩
  refine zC_i (L0 := [.ref 199, .ref (16 * w), .int (zi t), .int (zi (i : Int)), .null, .null, .null]) rfl ?_
  refine zs_aload (ip' := 1) rfl rfl rfl ?_
  refine zs_getR (ip' := 2) rfl rfl (r := 200) (by omega) zsh_199 rfl ?_
  refine zs_iload (ip' := 3) rfl rfl rfl ?_
  refine zs_aald (ip' := 4) rfl rfl (r := 201 + 3 * i) (by omega) zsh_200 (by decide) (by omega) (zways (by omega)) ?_
  refine zs_astore4 (ip' := 5) rfl rfl ?_
  refine zs_aload (ip' := 6) rfl rfl rfl ?_
  refine zs_getI (ip' := 7) rfl rfl (by omega) (zsh_d0 hi) rfl (q := 1) rfl ?_
  intro hl6 hu6
  refine zs_if_ne (t := 17) (ip' := 8) rfl rfl (by omega) ?_ ?_
  · intro h7
    exact cR_move_b hN hw hok hR t0 t1 i0 l1 hon h6 hWy (hWy i i0 l1 h7) (fun _ _ _ => rfl) (xKp_r _ _)
  · intro h7
    refine zs_aload (ip' := 9) rfl rfl rfl ?_
    refine zs_aload (ip' := 10) rfl rfl rfl ?_
    refine zs_getR (ip' := 11) rfl rfl (r := 16 * w + 1) (by omega) (zsh_w0 hw) rfl ?_
    refine zs_aload (ip' := 12) rfl rfl rfl ?_
    refine zs_getR (ip' := 13) rfl rfl (r := 16 * w + 3) (by omega) (zsh_w0 hw) rfl ?_
    refine zs_getR (ip' := 14) rfl rfl (r := 16 * w + 4) (by omega) (zsh_w3 hw) rfl ?_
    refine zs_iload (ip' := 15) rfl rfl rfl ?_
    refine zs_iald (ip' := 16) rfl rfl (by omega) (zsh_w4 hw) (by omega) ?_
    intro hl15 hu15
    rw [hll] at hl15 hu15 ⊢
    refine zW_cV (ip' := 17) rfl rfl (cX_measure hN hw hi (by omega) (by omega) hv) rfl rfl (z_ok3 (by omega) (zsh_d0 hi) rfl rfl rfl) ?_
    rintro G3 F' n' ⟨⟨hf3, hk3, hd3⟩, rfl, rfl⟩
    rw [c0, c1] at hd3
    have hD3 := zDist_congr (by omega) (by omega) (fun p pv => RX_wt hok hR pv) hd3
    have hR3 : RX G3 w s := RX_fr hR (fun k a b => hf3 k (by omega) (by omega) (by omega))
    have hWy3 : xWy G3 s := fun l l0 l2 hn => by
      by_cases e : l = i
      · rw [e]
        exact hD3
      · rw [hf3 _ (by omega) (by omega) (by omega)] at hn ⊢
        exact hWy l l0 l2 hn
    have hSF3 : xSF w G G3 := fun k a b => hf3 k (by omega) (by omega) (by omega)
    have hKp3 : xKp w G G3 := ⟨hf3 _ (by omega) (by omega) (by omega), hf3 _ (by omega) (by omega) (by omega), hf3 _ (by omega) (by omega) (by omega)⟩
    exact cR_move_b hN hw hok hR3 t0 t1 i0 l1 hon h6 hWy3 hD3 hSF3 hKp3
