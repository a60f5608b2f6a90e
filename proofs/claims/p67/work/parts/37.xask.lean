/-! The program: its worlds by their rows (printed by wip/whole/src37.py). -/
theorem cR_onCell {N : Nat} {G F : GM} {n : Nat} (hN : 229 ≤ N) {w : Nat} (hw : w < 12) {s : Int → Int} (hok : mOk s) (hR : RX G w s) {c : Int} (hc : 0 ≤ c ∧ c < 144) : zPu N 146 [.ref (16 * w + 3), .int (zi c)] (sLOn s (c % 12) (c / 12)) G F n := by
  obtain ⟨e4, e5⟩ := RX_n hR
  have b4 := hok.2.2.2.2.1
  have b5 := hok.2.2.2.2.2.1
  have h := cX_onCell (G := G) (F := F) (n := n) hN hw (by rw [e4]; exact b4) (c := c) ⟨by omega, by omega⟩
  rw [RX_on hok hR] at h
  exact h
theorem cR_countIn {N : Nat} {G F : GM} {n : Nat} (hN : 229 ≤ N) {w : Nat} (hw : w < 12) {s : Int → Int} (hok : mOk s) (hR : RX G w s) {q : Int} (hq : zr q) : zPu N 154 [.ref (16 * w + 7), .int (zi q)] (sCount s q) G F n := by
  obtain ⟨e4, e5⟩ := RX_n hR
  have b4 := hok.2.2.2.2.1
  have b5 := hok.2.2.2.2.2.1
  have h := cX_countIn (G := G) (F := F) (n := n) hN hw (by rw [e5]; exact b5) hq
  rw [RX_count hR] at h
  exact h
theorem cR_follow {N : Nat} {G F : GM} {n : Nat} (hN : 229 ≤ N) {w : Nat} (hw : w < 12) {s : Int → Int} (hok : mOk s) (hR : RX G w s) {l : Int} (hl : zr l) : zPu N 155 [.ref (16 * w + 7), .int (zi l)] (zcnt (fun t => s (214 + 7 * t + 2) = 0 ∧ s (214 + 7 * t + 3) = l) (s 5).toNat) G F n := by
  obtain ⟨e4, e5⟩ := RX_n hR
  have b4 := hok.2.2.2.2.1
  have b5 := hok.2.2.2.2.2.1
  have h := cX_countFollowing (G := G) (F := F) (n := n) hN hw (by rw [e5]; exact b5) hl
  rw [RX_follow hR] at h
  exact h
theorem RX_fogs {G : GM} {w : Nat} {s : Int → Int} (hok : mOk s) (hR : RX G w s) : (0 ≤ G (16 * w) 4 ∧ G (16 * w) 4 ≤ 20) ∧ (0 ≤ G (16 * w) 5 ∧ G (16 * w) 5 ≤ 30000) ∧ (∀ h, 0 ≤ h → h < 24 → 0 ≤ G (16 * w + 15) h ∧ G (16 * w + 15) h ≤ 9) := by
  obtain ⟨-, -, c2, c3, -, -, cf, -⟩ := hok
  refine ⟨by rw [hR.1.2.2.1]; exact c2, by rw [hR.1.2.2.2.1]; exact c3, fun h h0 h1 => ?_⟩
  rw [hR.2.1 h h0 h1]
  exact cf h h0 h1
theorem cR_sight {N : Nat} {G F : GM} {n : Nat} (hN : 229 ≤ N) {w : Nat} (hw : w < 12) {s : Int → Int} (hok : mOk s) (hR : RX G w s) : zPu N 160 [.ref (16 * w)] (sSight s) G F n := by
  obtain ⟨e4, e5⟩ := RX_n hR
  have b4 := hok.2.2.2.2.1
  have b5 := hok.2.2.2.2.2.1
  obtain ⟨f1, f2, f3⟩ := RX_fogs hok hR
  have h := cX_sightNow (G := G) (F := F) (n := n) hN hw f1 f2 f3
  rw [RX_sight hok hR] at h
  exact h
theorem cR_far {N : Nat} {G F : GM} {n : Nat} (hN : 229 ≤ N) {w : Nat} (hw : w < 12) {s : Int → Int} (hok : mOk s) (hR : RX G w s) {t l : Int} (t0 : 0 ≤ t) (t1 : t < s 5) (l0 : 0 ≤ l) (l1 : l < s 4) : zPu N 161 [.ref (16 * w), .int (zi t), .int (zi l)] (sFarL s t l) G F n := by
  obtain ⟨e4, e5⟩ := RX_n hR
  have b4 := hok.2.2.2.2.1
  have b5 := hok.2.2.2.2.2.1
  obtain ⟨q1, q2, -⟩ := mOk_lt hok l0 l1
  obtain ⟨p1, p2, -⟩ := mOk_wk hok t0 t1
  have r1 := (hR.2.2.2.1 l l0 l1).1
  have r2 := (hR.2.2.2.2.2 t t0 t1).1
  have h := cX_distanceTo (G := G) (F := F) (n := n) hN hw (t := t) (l := l) ⟨t0, by omega⟩ ⟨l0, by omega⟩ (by omega) (by omega)
  rw [RX_far hok hR t0 t1 l0 l1] at h
  exact h
theorem cR_shuns {N : Nat} {G F : GM} {n : Nat} (hN : 229 ≤ N) {w : Nat} (hw : w < 12) {s : Int → Int} (hok : mOk s) (hR : RX G w s) {t l : Int} (t0 : 0 ≤ t) (t1 : t < s 5) (l0 : 0 ≤ l) (l1 : l < s 4) : zPu N 153 [.ref (16 * w + 7), .int (zi t), .int (zi l)] (zb (zhas (s (214 + 7 * t + 4)) l ∨ zhas (s (214 + 7 * t + 5)) l)) G F n := by
  obtain ⟨e4, e5⟩ := RX_n hR
  have b4 := hok.2.2.2.2.1
  have b5 := hok.2.2.2.2.2.1
  have h := cX_shuns (G := G) (F := F) (n := n) hN hw (t := t) (l := l) ⟨t0, by omega⟩
  rw [zb_iff (RX_shun hR t0 t1 l0 (by omega))] at h
  exact h
theorem cR_near_l {N : Nat} {G F : GM} {n : Nat} (hN : 229 ≤ N) {w : Nat} (hw : w < 12) {s : Int → Int} (hok : mOk s) (hR : RX G w s) {t : Int} (t0 : 0 ≤ t) (t1 : t < s 5) : ∀ (d : Nat) (k : Nat) (m e : Int) (a6 : Value), s 4 - (k : Int) < (d : Int) → (k : Int) ≤ s 4 → m = sNear s t k → (-1 ≤ m ∧ m < (k : Int)) → (0 ≤ m → e = sFarL s t m) → (0 ≤ e ∧ e ≤ 22) → zW N 162 9 [.ref (16 * w), .int (zi t), .int (zi (sSight s)), .int (zi m), .int (zi e), .int (zi (k : Int)), a6] [] G F n (fun o G' F' n' => o = .inl (some (.int (zi (sNear s t (s 4).toNat)))) ∧ G' = G ∧ F' = F ∧ n' = n) := by
  intro d
  induction d with
  | zero =>
    intro k m e a6 hd hj hm hmr he her
    exact absurd hd (by omega)
  | succ d ih =>
    intro k m e a6 hd hj hm hmr he her
    obtain ⟨e4, e5⟩ := RX_n hR
    have b4 := hok.2.2.2.2.1
    have b5 := hok.2.2.2.2.2.1
    have hsg := sSight_rng (mOk_sg hok)
    refine zs_iload (ip' := 10) rfl rfl rfl ?_
    refine zs_aload (ip' := 11) rfl rfl rfl ?_
    refine zs_getR (ip' := 12) rfl rfl (r := 16 * w + 3) (by omega) (zsh_w0 hw) rfl ?_
    refine zs_getI (ip' := 13) rfl rfl (by omega) (zsh_w3 hw) rfl (q := 0) rfl ?_
    intro hl12 hu12
    rw [e4] at hl12 hu12 ⊢
    refine zs_icmp_ge (t := 46) (ip' := 14) rfl rfl (by omega) (by omega) ?_ ?_
    · intro h13
      refine zs_iload (ip' := 47) rfl rfl rfl ?_
      refine zW_0 rfl ?_
      exact zfin (by rw [hm, show k = (s 4).toNat by omega])
    · intro h13
      have hlr := (hR.2.2.2.1 (k : Int) (by omega) (by omega)).2.1
      have hbr := (mOk_lt hok (l := (k : Int)) (by omega) (by omega)).2.2.1
      have hfr := sFarL_rng (mOk_wk hok t0 t1) (mOk_lt hok (l := (k : Int)) (by omega) (by omega))
      refine zs_aload (ip' := 15) rfl rfl rfl ?_
      refine zs_getR (ip' := 16) rfl rfl (r := 16 * w + 7) (by omega) (zsh_w0 hw) rfl ?_
      refine zs_iload (ip' := 17) rfl rfl rfl ?_
      refine zs_iload (ip' := 18) rfl rfl rfl ?_
      refine zW_cP (ip' := 19) rfl rfl (cR_shuns hN hw hok hR (by omega) (by omega) (by omega) (by omega)) rfl rfl (z_ok3 (by omega) (zsh_w7 hw) rfl rfl rfl) ?_
      refine zs_if_neB (t := 44) (ip' := 20) rfl rfl ?_ ?_
      · intro h19
        refine zs_iinc5 (ip' := 45) rfl rfl zi_k1 ?_
        refine zs_goto (t := 9) rfl ?_
        exact ih (k + 1) m e _ (by omega) (by omega) (hm.trans (if_neg (fun q => h19.elim q.1.2.1 q.1.2.2)).symm) (by omega) he her
      · intro h19
        refine zs_aload (ip' := 21) rfl rfl rfl ?_
        refine zs_iload (ip' := 22) rfl rfl rfl ?_
        refine zs_iload (ip' := 23) rfl rfl rfl ?_
        refine zW_cP (ip' := 24) rfl rfl (cR_far hN hw hok hR (by omega) (by omega) (by omega) (by omega)) rfl rfl (z_ok3 (by omega) (zsh_w0 hw) rfl rfl rfl) ?_
        refine zs_istore6 (ip' := 25) rfl rfl ?_
        refine zs_iload (ip' := 26) rfl rfl rfl ?_
        refine zs_iload (ip' := 27) rfl rfl rfl ?_
        refine zs_aload (ip' := 28) rfl rfl rfl ?_
        refine zs_getR (ip' := 29) rfl rfl (r := 16 * w + 3) (by omega) (zsh_w0 hw) rfl ?_
        refine zs_getR (ip' := 30) rfl rfl (r := 16 * w + 5) (by omega) (zsh_w3 hw) rfl ?_
        refine zs_iload (ip' := 31) rfl rfl rfl ?_
        refine zs_iald (ip' := 32) rfl rfl (by omega) (zsh_w5 hw) (by omega) ?_
        intro hl31 hu31
        rw [hlr] at hl31 hu31 ⊢
        refine zs_iadd (ip' := 33) rfl rfl ?_
        refine zs_icmp_gt (t := 44) (ip' := 34) rfl rfl (by omega) (by omega) ?_ ?_
        · intro h33
          refine zs_iinc5 (ip' := 45) rfl rfl zi_k1 ?_
          refine zs_goto (t := 9) rfl ?_
          exact ih (k + 1) m e _ (by omega) (by omega) (hm.trans (if_neg (fun q => absurd q.1.1 (by show ¬ sFarL s t k ≤ sSight s + s (174 + 5 * (k : Int) + 2); omega))).symm) (by omega) he her
        · intro h33
          refine zs_iload (ip' := 35) rfl rfl rfl ?_
          refine zs_pushI (ip' := 36) rfl rfl zi_km1 ?_
          refine zs_icmp_eq (t := 40) (ip' := 37) rfl rfl (by omega) (by omega) ?_ ?_
          · intro h36
            refine zs_iload (ip' := 41) rfl rfl rfl ?_
            refine zs_istore3 (ip' := 42) rfl rfl ?_
            refine zs_iload (ip' := 43) rfl rfl rfl ?_
            refine zs_istore4 (ip' := 44) rfl rfl ?_
            refine zs_iinc5 (ip' := 45) rfl rfl zi_k1 ?_
            refine zs_goto (t := 9) rfl ?_
            exact ih (k + 1) k (sFarL s t k) _ (by omega) (by omega) (if_pos ⟨⟨by show sFarL s t k ≤ sSight s + s (174 + 5 * (k : Int) + 2); omega, fun q => h19 (Or.inl q), fun q => h19 (Or.inr q)⟩, Or.inl (by omega)⟩).symm (by omega) (fun _ => rfl) hfr
          · intro h36
            refine zs_iload (ip' := 38) rfl rfl rfl ?_
            refine zs_iload (ip' := 39) rfl rfl rfl ?_
            refine zs_icmp_ge (t := 44) (ip' := 40) rfl rfl (by omega) (by omega) ?_ ?_
            · intro h39
              refine zs_iinc5 (ip' := 45) rfl rfl zi_k1 ?_
              refine zs_goto (t := 9) rfl ?_
              exact ih (k + 1) m e _ (by omega) (by omega) (hm.trans (if_neg (fun q => by
                have := he (by omega)
                rcases q.2 with q2 | q2
                · omega
                · rw [← hm, ← this] at q2
                  omega)).symm) (by omega) he her
            · intro h39
              refine zs_iload (ip' := 41) rfl rfl rfl ?_
              refine zs_istore3 (ip' := 42) rfl rfl ?_
              refine zs_iload (ip' := 43) rfl rfl rfl ?_
              refine zs_istore4 (ip' := 44) rfl rfl ?_
              refine zs_iinc5 (ip' := 45) rfl rfl zi_k1 ?_
              refine zs_goto (t := 9) rfl ?_
              exact ih (k + 1) k (sFarL s t k) _ (by omega) (by omega) (if_pos ⟨⟨by show sFarL s t k ≤ sSight s + s (174 + 5 * (k : Int) + 2); omega, fun q => h19 (Or.inl q), fun q => h19 (Or.inr q)⟩, Or.inr (by
                have := he (by omega)
                rw [← hm, ← this]
                omega)⟩).symm (by omega) (fun _ => rfl) hfr
theorem cR_near {N : Nat} {G F : GM} {n : Nat} (hN : 229 ≤ N) {w : Nat} (hw : w < 12) {s : Int → Int} (hok : mOk s) (hR : RX G w s) {t : Int} (t0 : 0 ≤ t) (t1 : t < s 5) : zPu N 162 [.ref (16 * w), .int (zi t)] (sNear s t (s 4).toNat) G F n := by
  refine zPu_i (L0 := [.ref (16 * w), .int (zi t), .null, .null, .null, .null, .null]) rfl ?_
  refine zs_aload (ip' := 1) rfl rfl rfl ?_
  refine zW_cP (ip' := 2) rfl rfl (cR_sight hN hw hok hR) rfl rfl (z_ok3 (by omega) (zsh_w0 hw) rfl rfl rfl) ?_
  refine zs_istore2 (ip' := 3) rfl rfl ?_
  refine zs_pushI (ip' := 4) rfl rfl zi_km1 ?_
  refine zs_istore3 (ip' := 5) rfl rfl ?_
  refine zs_pushI (ip' := 6) rfl rfl zi_k0 ?_
  refine zs_istore4 (ip' := 7) rfl rfl ?_
  refine zs_pushI (ip' := 8) rfl rfl zi_k0 ?_
  refine zs_istore5 (ip' := 9) rfl rfl ?_
  exact cR_near_l hN hw hok hR t0 t1 9 0 (-1) 0 _ (by have := hok.2.2.2.2.1; omega) (by have := hok.2.2.2.2.1; omega) rfl (by omega) (fun q => absurd q (by omega)) (by omega)
