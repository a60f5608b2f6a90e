/-! The program: hours pass (printed by wip/whole/src57.py). -/
/-- who stopped in these hours has there the time -/
def xDa (w : Nat) (s : Int → Int) (n : Nat) (G : GM) : Prop := ∀ t : Int, 0 ≤ t → t < s 5 → s (214 + 7 * t + 2) = 0 → sTicks s n (214 + 7 * t + 2) ≠ 0 → ∃ j : Nat, j < n ∧ sTicks s j (214 + 7 * t + 2) = 0 ∧ sTicks s (j + 1) (214 + 7 * t + 2) ≠ 0 ∧ G (16 * w + 14) t = s 3 + j + 1
theorem xDa_s {w : Nat} {s : Int → Int} {n : Nat} {G G1 G2 : GM} (h : xDa w s n G) (hR : RX G w (sTicks s n)) (hR2 : RX G2 w (sTicks s (n + 1))) (h9 : G1 (16 * w + 9) = G (16 * w + 9)) (h14 : G1 (16 * w + 14) = G (16 * w + 14)) (h5 : G1 (16 * w) 5 = s 3 + n + 1) (hD : xDn w G1 G2) (e5 : sTicks s n 5 = s 5) (e6 : sTicks s (n + 1) 5 = s 5) : xDa w s (n + 1) G2 := by
  intro t t0 t1 hs hn
  have r1 := (hR.2.2.2.2.2 t t0 (by omega)).2.1
  have r2 := (hR2.2.2.2.2.2 t t0 (by omega)).2.1
  rcases hD.2 t with ⟨a, b⟩ | ⟨a, b, c⟩
  · rw [h9] at a
    obtain ⟨j, j0, j1, j2, j3⟩ := h t t0 t1 hs (by rw [← r1, ← a, r2]; exact hn)
    exact ⟨j, by omega, j1, j2, by rw [b, h14]; exact j3⟩
  · rw [h9] at a
    exact ⟨n, by omega, by rw [← r1]; exact a, hn, c.trans h5⟩
theorem xWy_tm {G G' : GM} {s : Int → Int} {v : Int} (hok : mOk s) (h : xWy G s) (hk : ∀ k, 201 ≤ k → k < 225 → G' k = G k) : xWy G' (zp s 3 v) := by
  have hb := mOk_hb hok
  have b4 := hok.2.2.2.2.1
  intro l l0 l1 hn
  rw [zp_ne (by omega : (4 : Int) ≠ 3)] at l1
  rw [hk _ (by omega) (by omega)] at hn
  have hd := h l l0 l1 hn
  rw [hk _ (by omega) (by omega), zp_ne (by omega : (0 : Int) ≠ 3), zp_ne (by omega : (1 : Int) ≠ 3), zp_ne (by omega : 174 + 5 * (l : Int) + 1 ≠ 3), zp_ne (by omega : 174 + 5 * (l : Int) + 0 ≠ 3)]
  refine zDist_congr (by omega) (by omega) (fun p pv => ?_) hd
  obtain ⟨p0, p1⟩ := zVal_144 (by omega) (by omega) pv
  show s (30 + p) = 1 ↔ zp s 3 v (30 + p) = 1
  rw [zp_ne (by omega)]
/-- the last hours were quiet -/
def xId (s u : Int → Int) (n : Nat) (q : Int) : Prop := (0 ≤ q ∧ q ≤ n) ∧ ∀ d : Int, s 3 + n - q < d → d ≤ s 3 + n → sQt (zp u 3 d) (u 5).toNat
theorem cR_run_l {N : Nat} {F : GM} {n : Nat} (hN : 229 ≤ N) {w : Nat} (hw : w < 12) {s : Int → Int} (hok : mOk s) {k : Nat} (hk : k ≤ 300) (ht : s 3 + 300 ≤ 30000) {G0 : GM} : ∀ (d : Nat) (m : Nat) (q : Int) (a6 : Value) (G : GM), (k : Int) - (m : Int) < (d : Int) → m ≤ k → RX G w (sTicks s m) → xWy G (sTicks s m) → xSF w G0 G → xDa w s m G → xId s (sTicks s m) m q → zW N 171 11 [.ref 199, .ref (16 * w), .int (zi (k : Int)), .int (zi (s 3 + (k : Int))), .int (zi q), .int (zi (m : Int)), a6] [] G F n (zV fun G' F' n' => RX G' w (sTicks s k) ∧ xDa w s k G' ∧ xSF w G0 G' ∧ F' = F ∧ n' = n) := by
  intro d
  induction d with
  | zero =>
    intro m q a6 G hd hj hR hWy hSF hDa hI
    exact absurd hd (by omega)
  | succ d ih =>
    intro m q a6 G hd hj hR hWy hSF hDa hI
    obtain ⟨hku, hz⟩ := sTicks_ok hok m (by omega)
    obtain ⟨u, hu0⟩ : ∃ u, u = sTicks s m := ⟨_, rfl⟩
    rw [← hu0] at hku hz hR hWy hI
    have b5 := hok.2.2.2.2.2.1
    have b3 := hok.2.2.2.1
    have z5 : u 5 = s 5 := hz.2.2.2.2.2.1.trans (zp_ne (by omega))
    have z3 : u 3 = s 3 + m := hz.2.2.2.1.trans (zp_eq _ _ _)
    obtain ⟨⟨hq0, hq1⟩, hqq⟩ := id hI
    have hc5 : G (16 * w) 5 = s 3 + m := hR.1.2.2.2.1.trans z3
    refine zs_iload (ip' := 12) rfl rfl rfl ?_
    refine zs_iload (ip' := 13) rfl rfl rfl ?_
    refine zs_icmp_ge (t := 48) (ip' := 14) rfl rfl (by omega) (by omega) ?_ ?_
    · intro h13
      refine zs_aload (ip' := 49) rfl rfl rfl ?_
      refine zs_iload (ip' := 50) rfl rfl rfl ?_
      refine zs_putI (ip' := 51) rfl rfl (by omega) (zsh_w0 hw) rfl (q := 5) rfl (by omega) ?_
      refine zW_1 rfl ?_
      have eT : sTicks s k = zp u 3 (s 3 + (k : Int)) := by
        have ek : k = m := by omega
        rw [ek, ← z3, zp_self, hu0]
      refine ⟨rfl, ?_, ?_, xSF_t hSF (xSF_w (xWf_k (by omega))), rfl, rfl⟩
      · rw [eT]
        exact RX_time hku hR
      · intro t t0 t1 hs0 hs1
        rw [eT, zp_ne (by omega)] at hs1
        obtain ⟨j, j0, j1, j2, j3⟩ := hDa t t0 t1 hs0 (by rw [← hu0]; exact hs1)
        exact ⟨j, by omega, j1, j2, by rw [zk_ne (by omega)]; exact j3⟩
    · intro h13
      refine zs_iload (ip' := 15) rfl rfl rfl ?_
      refine zs_pushI (ip' := 16) rfl rfl zi_k24 ?_
      refine zs_icmp_ge (t := 48) (ip' := 17) rfl rfl (by omega) (by omega) ?_ ?_
      · intro h16
        refine zs_aload (ip' := 49) rfl rfl rfl ?_
        refine zs_iload (ip' := 50) rfl rfl rfl ?_
        refine zs_putI (ip' := 51) rfl rfl (by omega) (zsh_w0 hw) rfl (q := 5) rfl (by omega) ?_
        refine zW_1 rfl ?_
        have eT : sTicks s k = zp u 3 (s 3 + (k : Int)) := by
          obtain ⟨r, hr⟩ : ∃ r : Nat, k = m + r := ⟨k - m, by omega⟩
          have := sTicks_qt hu0.symm hku z3 (fun d d0 d1 => hqq d (by omega) d1) r (by omega)
          rw [hr, this, show s 3 + (m : Int) + (r : Int) = s 3 + ((m + r : Nat) : Int) by omega]
        refine ⟨rfl, ?_, ?_, xSF_t hSF (xSF_w (xWf_k (by omega))), rfl, rfl⟩
        · rw [eT]
          exact RX_time hku hR
        · intro t t0 t1 hs0 hs1
          rw [eT, zp_ne (by omega)] at hs1
          obtain ⟨j, j0, j1, j2, j3⟩ := hDa t t0 t1 hs0 (by rw [← hu0]; exact hs1)
          exact ⟨j, by omega, j1, j2, by rw [zk_ne (by omega)]; exact j3⟩
      · intro h16
        refine zs_aload (ip' := 18) rfl rfl rfl ?_
        refine zs_dupR (ip' := 19) rfl rfl ?_
        refine zs_getI (ip' := 20) rfl rfl (by omega) (zsh_w0 hw) rfl (q := 5) rfl ?_
        intro hl19 hu19
        rw [hc5] at hl19 hu19 ⊢
        refine zs_pushI (ip' := 21) rfl rfl zi_k1 ?_
        refine zs_iadd (ip' := 22) rfl rfl ?_
        refine zs_putI (ip' := 23) rfl rfl (by omega) (zsh_w0 hw) rfl (q := 5) rfl (by omega) ?_
        refine zs_iinc4 (ip' := 24) rfl rfl zi_k1 ?_
        refine zs_pushI (ip' := 25) rfl rfl zi_k0 ?_
        refine zs_istore6 (ip' := 26) rfl rfl ?_
        have hR1 : RX (zk G (16 * w) (zp (G (16 * w)) 5 (s 3 + (m : Int) + 1))) w (sTickR u 0) := by
          have := RX_time (v := s 3 + (m : Int) + 1) hku hR
          rw [show sTickR u 0 = zp u 3 (s 3 + (m : Int) + 1) by show zp u 3 (u 3 + 1) = _; rw [z3]]
          exact this
        have hW1 : xWy (zk G (16 * w) (zp (G (16 * w)) 5 (s 3 + (m : Int) + 1))) (sTickR u 0) := xWy_tm hku hWy (fun k k0 k1 => zk_ne (by omega))
        have hS1 : xSF w G0 (zk G (16 * w) (zp (G (16 * w)) 5 (s 3 + (m : Int) + 1))) := xSF_t hSF (xSF_w (xWf_k (by omega)))
        have h19 : zk G (16 * w) (zp (G (16 * w)) 5 (s 3 + (m : Int) + 1)) (16 * w + 9) = G (16 * w + 9) := zk_ne (by omega)
        have h114 : zk G (16 * w) (zp (G (16 * w)) 5 (s 3 + (m : Int) + 1)) (16 * w + 14) = G (16 * w + 14) := zk_ne (by omega)
        have h15 : zk G (16 * w) (zp (G (16 * w)) 5 (s 3 + (m : Int) + 1)) (16 * w) 5 = s 3 + m + 1 := by rw [zk_eq, zp_eq]
        generalize zk G (16 * w) (zp (G (16 * w)) 5 (s 3 + (m : Int) + 1)) = G1 at hR1 hW1 hS1 h19 h114 h15 ⊢
        have eN : sTicks s (m + 1) = sTick u := by rw [hu0]; rfl
        obtain ⟨hkv, hzv⟩ := sTick_ok hku (by omega)
        have zv5 : sTick u 5 = s 5 := (hzv.2.2.2.2.2.1.trans (zp_ne (by omega))).trans z5
        refine cR_hour hN hw hku (by omega) (G0 := G1) (e := q + 1) (fun G2 q2 a6 hR2 hW2 hS2 hD2 hI2 => ?_) 7 0 (q + 1) G1 (by omega) (by omega) hR1 hW1 (fun _ _ _ => rfl) (xKp_d (xKp_r _ _)) (Or.inr ⟨rfl, rfl, fun j hj => absurd hj (by omega)⟩)
        refine zs_iinc5 (ip' := 47) rfl rfl zi_k1 ?_
        refine zs_goto (t := 11) rfl ?_
        have hDa2 : xDa w s (m + 1) G2 := xDa_s hDa (by rw [← hu0]; exact hR) (by rw [eN]; exact hR2) h19 h114 h15 hD2 (by rw [← hu0]; exact z5) (by rw [eN]; exact zv5)
        refine ih (m + 1) q2 a6 G2 (by omega) (by omega) (by rw [eN]; exact hR2) (by rw [eN]; exact hW2) (xSF_t hS1 hS2) hDa2 ?_
        rw [eN]
        rcases hI2 with rfl | ⟨rfl, eu, hqt⟩
        · exact ⟨⟨by omega, by omega⟩, fun d d0 d1 => absurd d0 (by omega)⟩
        · refine ⟨⟨by omega, by omega⟩, fun d d0 d1 => ?_⟩
          rw [zv5]
          rw [z5] at hqt hqq
          by_cases e : d = s 3 + m + 1
          · rw [e, eu, z3, zp_zp, ← show sTick u = zp u 3 (s 3 + m + 1) by rw [eu, z3]]
            exact hqt
          · rw [eu, zp_zp]
            exact hqq d (by omega) (by omega)
theorem cR_run {N : Nat} {G F : GM} {n : Nat} (hN : 229 ≤ N) {w : Nat} (hw : w < 12) {s : Int → Int} (hok : mOk s) (hR : RX G w s) {k : Nat} (hk : k ≤ 300) (ht : s 3 + 300 ≤ 30000) : zC N 171 [.ref 199, .ref (16 * w), .int (zi (k : Int))] G F n (zV fun G' F' n' => RX G' w (sTicks s k) ∧ xDa w s k G' ∧ xSF w G G' ∧ F' = F ∧ n' = n) := by
  have b3 := hok.2.2.2.1
  have hc5 : G (16 * w) 5 = s 3 := hR.1.2.2.2.1
  refine zC_i (L0 := [.ref 199, .ref (16 * w), .int (zi (k : Int)), .null, .null, .null, .null]) rfl ?_
  refine zs_aload (ip' := 1) rfl rfl rfl ?_
  refine zs_getI (ip' := 2) rfl rfl (by omega) (zsh_w0 hw) rfl (q := 5) rfl ?_
  intro hl1 hu1
  rw [hc5] at hl1 hu1 ⊢
  refine zs_iload (ip' := 3) rfl rfl rfl ?_
  refine zs_iadd (ip' := 4) rfl rfl ?_
  refine zs_istore3 (ip' := 5) rfl rfl ?_
  refine zs_pushI (ip' := 6) rfl rfl zi_k0 ?_
  refine zs_istore4 (ip' := 7) rfl rfl ?_
  refine zs_aload (ip' := 8) rfl rfl rfl ?_
  refine zW_cV (ip' := 9) rfl rfl (cX_noways hN) rfl rfl (z_ok3 (by omega) zsh_199 rfl rfl rfl) ?_
  rintro G4 F' n' ⟨hno, rfl, rfl⟩
  refine zs_pushI (ip' := 10) rfl rfl zi_k0 ?_
  refine zs_istore5 (ip' := 11) rfl rfl ?_
  exact cR_run_l hN hw hok hk ht (k + 1) 0 0 _ G4 (by omega) (by omega) (RX_frz hR hno.1 hw) (xNo_wy hno _) (fun k _ b => hno.1 k b) (fun t t0 t1 h0 h1 => absurd h0 h1) ⟨⟨by omega, by omega⟩, fun d d0 d1 => absurd d0 (by omega)⟩
