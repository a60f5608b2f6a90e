/-! The program: a light is passed (printed by wip/whole/src45.py). -/
theorem RX_wear {G G' : GM} {w : Nat} {s : Int → Int} {x y v : Int} (hok : mOk s) (h : RX G w s) (hx : 0 ≤ x ∧ x < s 0) (hy : 0 ≤ y ∧ y < s 1)
    (hr : (¬ (0 < G (16 * w + 2) (12 * y + x) ∧ G (16 * w + 2) (12 * y + x) ≤ 9) ∧ v = 0 ∧ G' = G) ∨ ((0 < G (16 * w + 2) (12 * y + x) ∧ G (16 * w + 2) (12 * y + x) ≤ 9) ∧ v = zb (G (16 * w + 2) (12 * y + x) = 1) ∧ G' = zk G (16 * w + 2) (zp (G (16 * w + 2)) (12 * y + x) (G (16 * w + 2) (12 * y + x) - 1)))) : RX G' w (sLeave s x y) ∧ xWf w G G' ∧ (∀ k, k ≠ 16 * w + 2 → G' k = G k) ∧ (v = 0 ∨ v = 1) ∧ (v = 0 → ∀ i, mWt (sLeave s x y) i ↔ mWt s i) := by
  have a0 := hok.1
  have a1 := hok.2.1
  have hg := h.2.2.1 x y hx.1 hx.2 hy.1 hy.2
  have hl := mOk_g hok (x := x) (y := y) ⟨hx.1, by omega⟩ ⟨hy.1, by omega⟩
  obtain ⟨g1, g2, g3, g4, g5, g6⟩ := zgc_rng hl
  rw [← hg] at g1 g2 g3 g4 g5 g6
  unfold sLeave
  rcases hr with ⟨r1, r2, rfl⟩ | ⟨r1, r2, rfl⟩
  · have : ¬ 10 < s (30 + 12 * y + x) := fun q => r1 (g4.mpr q)
    rw [if_pos (by omega)]
    exact ⟨h, xWf_r _ _, fun _ _ => rfl, Or.inl r2, fun _ i => Iff.rfl⟩
  · have h10 := g4.mp r1
    have h5 := g5 h10
    rw [if_neg (by omega)]
    refine ⟨RX_gr hok h ⟨hx.1, by omega⟩ ⟨hy.1, by omega⟩ ?_, xWf_k (by omega), fun k hk => zk_ne hk, ?_, fun q i => ?_⟩
    · rw [h5]
      by_cases e : s (30 + 12 * y + x) = 11
      · rw [if_pos e, e]
        decide
      · rw [if_neg e]
        unfold zgc
        rw [if_neg (by omega), if_neg (by omega), if_neg (by omega)]
        omega
    · rw [r2]
      exact zb_01 _
    · have e : s (30 + 12 * y + x) ≠ 11 := fun e => by
        rw [r2, zb_t (by omega)] at q
        exact absurd q (by decide)
      show zp s (30 + 12 * y + x) _ (30 + i) = 1 ↔ s (30 + i) = 1
      by_cases e2 : 30 + i = 30 + 12 * y + x
      · rw [e2, zp_eq, if_neg e]
        omega
      · rw [zp_ne e2]
theorem RX_frz {G G' : GM} {w : Nat} {s : Int → Int} (h : RX G w s) (e : ∀ k, (k < 201 ∨ 225 ≤ k) → G' k = G k) (hw : w < 12) : RX G' w s := RX_fr h (fun k a b => e k (by omega))
theorem cR_pass {N : Nat} {G F : GM} {n : Nat} (hN : 229 ≤ N) {w : Nat} (hw : w < 12) {s : Int → Int} (hok : mOk s) (hR : RX G w s) {t l : Int} (t0 : 0 ≤ t) (t1 : t < s 5) (l0 : 0 ≤ l) (l1 : l < s 4) : zC N 176 [.ref 199, .ref (16 * w), .int (zi t), .int (zi l)] G F n (zV fun G' F' n' => (RX G' w (sGoOn s t l) ∧ xWf w G G' ∧ xKp w G G') ∧ F' = F ∧ n' = n) := by
  obtain ⟨e4, e5⟩ := RX_n hR
  have b4 := hok.2.2.2.2.1
  have b5 := hok.2.2.2.2.2.1
  obtain ⟨-, -, -, -, hp4, -⟩ := hR.2.2.2.2.2 t t0 t1
  have hnx := (hok.2.2.2.2.2.2.2.2.1 l l0 l1).2.2.2
  refine zC_i (L0 := [.ref 199, .ref (16 * w), .int (zi t), .int (zi l), .null, .null, .null]) rfl ?_
  refine zs_aload (ip' := 1) rfl rfl rfl ?_
  refine zs_getR (ip' := 2) rfl rfl (r := 16 * w + 7) (by omega) (zsh_w0 hw) rfl ?_
  refine zs_astore4 (ip' := 3) rfl rfl ?_
  refine zs_aload (ip' := 4) rfl rfl rfl ?_
  refine zs_getR (ip' := 5) rfl rfl (r := 16 * w + 12) (by omega) (zsh_w7 hw) rfl ?_
  refine zs_iload (ip' := 6) rfl rfl rfl ?_
  refine zs_dup2 (ip' := 7) rfl rfl ?_
  refine zs_iald (ip' := 8) rfl rfl (by omega) (zsh_w12 hw) (by omega) ?_
  intro hl7 hu7
  rw [hp4] at hl7 hu7 ⊢
  refine zs_pushI (ip' := 9) rfl rfl zi_k1 ?_
  refine zs_iload (ip' := 10) rfl rfl rfl ?_
  refine zs_ishl (ip' := 11) rfl rfl ?_
  refine zs_ior (ip' := 12) rfl rfl ?_
  refine zs_iast (ip' := 13) rfl rfl (by omega) (zsh_w12 hw) (by omega) (zr_or _ _) ?_
  have hR1 : RX (zk G (16 * w + 12) (zp (G (16 * w + 12)) t (zor (s (214 + 7 * t + 4)) (zshl 1 l)))) w (zp s (214 + 7 * t + 4) (zadd (s (214 + 7 * t + 4)) l)) := RX_w12 hok hR t0 t1
  have hok1 : mOk (zp s (214 + 7 * t + 4) (zadd (s (214 + 7 * t + 4)) l)) := mOk_w4 hok t0 t1 trivial
  have hF1 : xWf w G (zk G (16 * w + 12) (zp (G (16 * w + 12)) t (zor (s (214 + 7 * t + 4)) (zshl 1 l)))) := xWf_k (by omega)
  have hKp1 : xKp w G (zk G (16 * w + 12) (zp (G (16 * w + 12)) t (zor (s (214 + 7 * t + 4)) (zshl 1 l)))) := xKp_k (by omega)
  generalize zk G (16 * w + 12) (zp (G (16 * w + 12)) t (zor (s (214 + 7 * t + 4)) (zshl 1 l))) = G1 at hR1 hF1 hKp1 ⊢
  have hs4 : (zp s (214 + 7 * t + 4) (zadd (s (214 + 7 * t + 4)) l)) 4 = s 4 := zp_ne (by omega)
  have t15 : t < (zp s (214 + 7 * t + 4) (zadd (s (214 + 7 * t + 4)) l)) 5 := by
    rw [zp_ne (by omega)]
    exact t1
  have hn1 : (zp s (214 + 7 * t + 4) (zadd (s (214 + 7 * t + 4)) l)) (174 + 5 * l + 4) = s (174 + 5 * l + 4) := zp_ne (by omega)
  have hlr := (hR1.2.2.2.1 l l0 (by rw [hs4]; exact l1)).2.2
  rw [hn1] at hlr
  have hc1 := (RX_n hR1).1
  rw [hs4] at hc1
  refine zs_aload (ip' := 14) rfl rfl rfl ?_
  refine zs_getR (ip' := 15) rfl rfl (r := 16 * w + 3) (by omega) (zsh_w0 hw) rfl ?_
  refine zs_getR (ip' := 16) rfl rfl (r := 16 * w + 6) (by omega) (zsh_w3 hw) rfl ?_
  refine zs_iload (ip' := 17) rfl rfl rfl ?_
  refine zs_iald (ip' := 18) rfl rfl (by omega) (zsh_w6 hw) (by omega) ?_
  intro hl17 hu17
  rw [hlr] at hl17 hu17 ⊢
  refine zs_istore5 (ip' := 19) rfl rfl ?_
  refine zs_aload (ip' := 20) rfl rfl rfl ?_
  refine zs_getR (ip' := 21) rfl rfl (r := 16 * w + 3) (by omega) (zsh_w0 hw) rfl ?_
  refine zs_iload (ip' := 22) rfl rfl rfl ?_
  refine zW_cP (ip' := 23) rfl rfl (cX_containsL hN hw (by omega)) rfl rfl (z_ok3 (by omega) (zsh_w3 hw) rfl rfl rfl) ?_
  refine zs_if_eqB (t := 31) (ip' := 24) rfl rfl ?_ ?_
  · intro h23
    refine zs_pushI (ip' := 32) rfl rfl zi_k0 ?_
    refine zs_istore6 (ip' := 33) rfl rfl ?_
    refine zs_aload (ip' := 34) rfl rfl rfl ?_
    refine zs_getR (ip' := 35) rfl rfl (r := 16 * w + 11) (by omega) (zsh_w7 hw) rfl ?_
    refine zs_iload (ip' := 36) rfl rfl rfl ?_
    refine zs_iload (ip' := 37) rfl rfl rfl ?_
    refine zs_if_eq (t := 40) (ip' := 38) rfl rfl (by omega) ?_ ?_
    · intro h37
      refine zs_pushI (ip' := 41) rfl rfl zi_km1 ?_
      refine zs_iast (ip' := 42) rfl rfl (by omega) (zsh_w11 hw) (by omega) (by omega) ?_
      refine zW_1 rfl ?_
      have k6 := RX_w11 (v := -1) hok1 hR1 t0 t15
      exact ⟨rfl, ⟨by rw [show sGoOn s t l = zp (zp s (214 + 7 * t + 4) (zadd (s (214 + 7 * t + 4)) l)) (214 + 7 * t + 3) (-1) from congrArg (zp _ _) (if_neg (fun q => h23 ⟨by have := q.1; rw [hn1] at this; exact this, by omega⟩))]; exact k6, xWf_t hF1 (xWf_k (by omega)), xKp_t hKp1 (xKp_k (by omega))⟩, rfl, rfl⟩
    · intro h37
      exact absurd h37 (by decide)
  · intro h23
    refine zs_aload (ip' := 25) rfl rfl rfl ?_
    refine zs_iload (ip' := 26) rfl rfl rfl ?_
    refine zs_iload (ip' := 27) rfl rfl rfl ?_
    refine zW_cP (ip' := 28) rfl rfl (cR_shuns hN hw hok1 hR1 t0 t15 (by omega) (by rw [hs4]; omega)) rfl rfl (z_ok3 (by omega) (zsh_w7 hw) rfl rfl rfl) ?_
    refine zs_if_neB (t := 31) (ip' := 29) rfl rfl ?_ ?_
    · intro h28
      refine zs_pushI (ip' := 32) rfl rfl zi_k0 ?_
      refine zs_istore6 (ip' := 33) rfl rfl ?_
      refine zs_aload (ip' := 34) rfl rfl rfl ?_
      refine zs_getR (ip' := 35) rfl rfl (r := 16 * w + 11) (by omega) (zsh_w7 hw) rfl ?_
      refine zs_iload (ip' := 36) rfl rfl rfl ?_
      refine zs_iload (ip' := 37) rfl rfl rfl ?_
      refine zs_if_eq (t := 40) (ip' := 38) rfl rfl (by omega) ?_ ?_
      · intro h37
        refine zs_pushI (ip' := 41) rfl rfl zi_km1 ?_
        refine zs_iast (ip' := 42) rfl rfl (by omega) (zsh_w11 hw) (by omega) (by omega) ?_
        refine zW_1 rfl ?_
        have k6 := RX_w11 (v := -1) hok1 hR1 t0 t15
        exact ⟨rfl, ⟨by rw [show sGoOn s t l = zp (zp s (214 + 7 * t + 4) (zadd (s (214 + 7 * t + 4)) l)) (214 + 7 * t + 3) (-1) from congrArg (zp _ _) (if_neg (fun q => by
          obtain ⟨-, q2, q3⟩ := q
          rw [hn1] at q2 q3
          exact h28.elim q2 q3))]; exact k6, xWf_t hF1 (xWf_k (by omega)), xKp_t hKp1 (xKp_k (by omega))⟩, rfl, rfl⟩
      · intro h37
        exact absurd h37 (by decide)
    · intro h28
      refine zs_pushI (ip' := 30) rfl rfl zi_k1 ?_
      refine zs_goto (t := 32) rfl ?_
      refine zs_istore6 (ip' := 33) rfl rfl ?_
      refine zs_aload (ip' := 34) rfl rfl rfl ?_
      refine zs_getR (ip' := 35) rfl rfl (r := 16 * w + 11) (by omega) (zsh_w7 hw) rfl ?_
      refine zs_iload (ip' := 36) rfl rfl rfl ?_
      refine zs_iload (ip' := 37) rfl rfl rfl ?_
      refine zs_if_eq (t := 40) (ip' := 38) rfl rfl (by omega) ?_ ?_
      · intro h37
        exact absurd h37 (by decide)
      · intro h37
        refine zs_iload (ip' := 39) rfl rfl rfl ?_
        refine zs_goto (t := 41) rfl ?_
        refine zs_iast (ip' := 42) rfl rfl (by omega) (zsh_w11 hw) (by omega) (by omega) ?_
        refine zW_1 rfl ?_
        have k6 := RX_w11 (v := s (174 + 5 * l + 4)) hok1 hR1 t0 t15
        exact ⟨rfl, ⟨by rw [show sGoOn s t l = zp (zp s (214 + 7 * t + 4) (zadd (s (214 + 7 * t + 4)) l)) (214 + 7 * t + 3) (s (174 + 5 * l + 4)) from congrArg (zp _ _) ((if_pos ⟨by rw [hn1]; omega, by rw [hn1]; exact fun q => h28 (Or.inl q), by rw [hn1]; exact fun q => h28 (Or.inr q)⟩).trans hn1)]; exact k6, xWf_t hF1 (xWf_k (by omega)), xKp_t hKp1 (xKp_k (by omega))⟩, rfl, rfl⟩
