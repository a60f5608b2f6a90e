/-! The program: load (printed by wip/whole/src75.py). -/
section PG
variable {T : Int → Int} {n : Int} {x : zTx}
/-- the place is in the text, an error is not before it -/
def pG (n : Int) (x : zTx) : Prop := (0 ≤ x.1 ∧ x.1 ≤ n) ∧ (x.2.1 ≠ 0 → 0 ≤ x.2.2.1)
theorem pG_tk {c : Prop} [Decidable c] (h : pG n x) : pG n (pTk T n x c) := by
  obtain ⟨h1, h2⟩ := h
  obtain ⟨r1, r2⟩ := tB_rng (T := T) h1.2
  unfold pTk
  split
  · exact ⟨h1, h2⟩
  · split
    · exact ⟨tE_in h1, fun q => absurd rfl q⟩
    · exact ⟨h1, fun _ => by show 0 ≤ tB T n x.1; omega⟩
theorem pG_nx (h : pG n x) : pG n (pNx T n x) := ⟨tE_in h.1, h.2⟩
theorem pG_st {D : Int → Int} (h : pG n x) : pG n (pSt x D) := h
theorem pG_ns {lo hi : Int} (h : pG n x) : pG n (pNs T n x lo hi) := pG_tk h
theorem pG_loop {v : Int} {f : zTx → zTx} (hf : ∀ z, pG n z → pG n (f z)) : ∀ (k : Nat) (x : zTx), pG n x → pG n (pLoop T n v f k x) := by
  intro k
  induction k with
  | zero => intro x h; exact h
  | succ k ih =>
    intro x h
    unfold pLoop
    split
    · exact ih _ (hf _ h)
    · exact h
theorem pG_r3 (h : pG n x) : pG n (pR3 T n x) := pG_tk (pG_tk h)
theorem pG_row {y : Int} (h : pG n x) : pG n (pRow T n y x) := by
  unfold pRow
  split
  · exact pG_tk h
  · unfold pR1
    split
    · exact pG_r3 (pG_st (pG_tk h))
    · exact pG_r3 (pG_tk h)
theorem pG_rows (h : pG n x) : ∀ k : Nat, pG n (pRows T n k x) := by
  intro k
  induction k with
  | zero => exact h
  | succ k ih => exact pG_row ih
theorem pG_fog (h : pG n x) : pG n (pFog T n x) := by
  unfold pFog pF3
  split
  · exact pG_st (pG_tk (pG_ns (pG_ns (pG_nx h))))
  · exact pG_tk (pG_ns (pG_ns (pG_nx h)))
theorem pG_8 {u v b i f : Int} (h : pG n x) : pG n (pL8 T n x u v b i f) := by
  unfold pL8
  split
  · exact pG_st (pG_tk h)
  · exact pG_tk h
theorem pG_6 {u v b i : Int} (h : pG n x) : pG n (pL6 T n x u v b i) := by
  unfold pL6
  split
  · exact pG_8 (pG_ns (pG_nx (pG_tk h)))
  · exact pG_8 (pG_tk h)
theorem pG_3 {u : Int} (h : pG n x) : pG n (pL3 T n x u) := by
  unfold pL3
  split
  · exact pG_6 (pG_ns (pG_tk h))
  · exact pG_tk h
theorem pG_light (h : pG n x) : pG n (pLight T n x) := by
  unfold pLight
  split
  · exact pG_3 (pG_ns (pG_tk h))
  · exact pG_tk h
theorem pG_w4 {u v : Int} (h : pG n x) : pG n (pW4 T n x u v) := by
  unfold pW4
  split
  · exact pG_st (pG_tk h)
  · exact pG_tk h
theorem pG_w3 {u : Int} (h : pG n x) : pG n (pW3 T n x u) := by
  unfold pW3
  split
  · exact pG_w4 (pG_tk h)
  · exact pG_tk h
theorem pG_walker (h : pG n x) : pG n (pWalker T n x) := by
  unfold pWalker
  split
  · exact pG_w3 (pG_ns (pG_tk h))
  · exact pG_tk h
theorem pG_head (h : pG n x) : pG n (pHead T n x) := pG_tk (pG_st (pG_ns (pG_tk (pG_st (pG_ns (pG_st (pG_ns (pG_tk h))))))))
theorem pG_text (h : pG n x) : pG n (pText T n x) := by
  rw [pText_eq]
  unfold pFin
  split
  · exact pG_tk (pG_loop (fun _ => pG_walker) 802 _ (pG_loop (fun _ => pG_light) 802 _ (pG_loop (fun _ => pG_fog) 802 _ (pG_rows (pG_head h) _))))
  · exact pG_loop (fun _ => pG_walker) 802 _ (pG_loop (fun _ => pG_light) 802 _ (pG_loop (fun _ => pG_fog) 802 _ (pG_rows (pG_head h) _)))
end PG
def q_load (x : zTx) : Int × Int := if x.2.1 = 0 then (0, x.2.2.2 5) else (1, 0)
/-- the program after a load -/
def xLd (x : zTx) (G G' : GM) : Prop := (∀ k, 32 ≤ k → k ≠ 192 → k ≠ 193 → k ≠ 196 → k ≠ 197 → G' k = G k) ∧ (∀ j, j ≠ 10 → G' 192 j = G 192 j) ∧ G' 197 0 = 0 ∧ G' 192 10 = x.2.2.1 ∧
  ((x.2.1 = 0 ∧ x.2.2.1 = -1 ∧ mOk x.2.2.2 ∧ RX G' 0 x.2.2.2 ∧ G' 193 0 = 0 ∧ G' 193 1 = G 193 1 ∧ G' 196 0 = 0 ∧ G' 196 1 = 0) ∨ (x.2.1 = 1 ∧ 0 ≤ x.2.2.1 ∧ (∀ k, k < 16 → G' k = G k) ∧ G' 193 = G 193 ∧ G' 196 = G 196))
theorem cX_forgetAll {N : Nat} {G F : GM} {n : Nat} (hN : 229 ≤ N) : zC N 178 [.ref 193] G F n (zV fun G' F' n' => G' = zk G 193 (zp (G 193) 0 0) ∧ F' = F ∧ n' = n) := by
  refine zC_i (L0 := [.ref 193]) rfl ?_
  refine zs_aload (ip' := 1) rfl rfl rfl ?_
  refine zs_pushI (ip' := 2) rfl rfl zi_k0 ?_
  refine zs_putI (ip' := 3) rfl rfl (by omega) zsh_193 rfl (q := 0) rfl (by omega) ?_
  refine zW_1 rfl ?_
  exact ⟨rfl, rfl, rfl, rfl⟩
theorem cQ_load_l {N : Nat} {F : GM} {n : Nat} (hN : 229 ≤ N) {x : zTx} {G0 : GM} {G3 : GM} (hx : x.2.1 = 0) (hR : RX G3 0 x.2.2.2) (hP : ∀ G4 : GM, (∀ k, k ≠ 196 → G4 k = G3 k) → G4 196 0 = 0 → G4 196 1 = 0 → xLd x G0 G4) : ∀ (d : Nat) (k : Nat) (G : GM), 2 - (k : Int) < (d : Int) → (k : Int) ≤ 2 → (∀ k, k ≠ 196 → G k = G3 k) → (∀ j : Int, 0 ≤ j → j < k → G 196 j = 0) → zW N 203 30 [.ref 192, .int (zi (k : Int))] [] G F n (zQx F n [1] (q_load x) (xLd x G0)) := by
  intro d
  induction d with
  | zero =>
    intro k G hd hj hf hz
    exact absurd hd (by omega)
  | succ d ih =>
    intro k G hd hj hf hz
    refine zs_iload (ip' := 31) rfl rfl rfl ?_
    refine zs_pushI (ip' := 32) rfl rfl zi_k2 ?_
    refine zs_icmp_ge (t := 40) (ip' := 33) rfl rfl (by omega) (by omega) ?_ ?_
    · intro h32
      refine zs_aload (ip' := 41) rfl rfl rfl ?_
      refine zs_getR (ip' := 42) rfl rfl (r := 0) (by omega) zsh_192 rfl ?_
      refine zs_getR (ip' := 43) rfl rfl (r := 7) (by omega) zsh_0 rfl ?_
      refine zs_getI (ip' := 44) rfl rfl (by omega) zsh_7 rfl (q := 0) rfl ?_
      intro hl43 hu43
      rw [hf 7 (by decide), show G3 7 0 = x.2.2.2 5 from hR.1.2.2.2.2.2] at hl43 hu43 ⊢
      refine zW_0 rfl ?_
      exact zqx0 (if_pos hx) (hP G hf (hz 0 (by omega) (by omega)) (hz 1 (by omega) (by omega)))
    · intro h32
      refine zs_aload (ip' := 34) rfl rfl rfl ?_
      refine zs_getR (ip' := 35) rfl rfl (r := 196) (by omega) zsh_192 rfl ?_
      refine zs_iload (ip' := 36) rfl rfl rfl ?_
      refine zs_pushI (ip' := 37) rfl rfl zi_k0 ?_
      refine zs_zast (ip' := 38) rfl rfl (by omega) zsh_196 (by omega) (Or.inl rfl) ?_
      refine zW_gk ?_
      intro G1 e1 f1
      refine zs_iinc1 (ip' := 39) rfl rfl zi_k1 ?_
      refine zs_goto (t := 30) rfl ?_
      refine ih (k + 1) G1 (by omega) (by omega) (fun k hk => (f1 k hk).trans (hf k hk)) (fun j j0 j1 => ?_)
      rw [e1]
      by_cases e : j = (k : Int)
      · rw [e, zp_eq]
      · rw [zp_ne e]
        exact hz j j0 (by omega)
theorem cQ_load {N : Nat} {G F : GM} {n : Nat} (hN : 229 ≤ N) {T : Int → Int} {m : Int} {D0 : Int → Int} (hB : xBu G T m) (hz : ∀ i, 0 ≤ i → i < 256 → D0 i = 0) {x : zTx} (hx : x = pText T m (0, 0, -1, D0)) : zC N 203 [.ref 192] G F n (zQx F n [1] (q_load x) (xLd x G)) := by
  obtain ⟨h0, ⟨m0, m1⟩, -⟩ := id hB
  have hpg : pG m x := by rw [hx]; exact pG_text ⟨⟨Int.le_refl _, m0⟩, fun q => absurd rfl q⟩
  refine zC_i (L0 := [.ref 192, .null]) rfl ?_
  refine zs_aload (ip' := 1) rfl rfl rfl ?_
  refine zs_aload (ip' := 2) rfl rfl rfl ?_
  refine zs_getR (ip' := 3) rfl rfl (r := 197) (by omega) zsh_192 rfl ?_
  refine zs_aload (ip' := 4) rfl rfl rfl ?_
  refine zs_getR (ip' := 5) rfl rfl (r := 16) (by omega) zsh_192 rfl ?_
  refine zW_cR (ip' := 6) rfl rfl (cR_read (w := 1) hN (by omega) hB hz) rfl rfl (z_ok3 (by omega) zsh_197 rfl rfl rfl) ?_
  rintro e G1 F' n' hve ⟨hrd, hrw, rfl, rfl⟩
  rw [← hx] at hrd
  refine zs_putI (ip' := 7) rfl rfl (by omega) zsh_192 rfl (q := 10) rfl (by omega) ?_
  refine zW_gk ?_
  intro G2 e2 f2
  refine zs_aload (ip' := 8) rfl rfl rfl ?_
  refine zs_getR (ip' := 9) rfl rfl (r := 197) (by omega) zsh_192 rfl ?_
  refine zs_pushI (ip' := 10) rfl rfl zi_k0 ?_
  refine zW_cV (ip' := 11) rfl rfl (cX_cutTo hN (by omega)) rfl rfl (z_ok3 (by omega) zsh_197 rfl rfl rfl) ?_
  rintro G3 F' n' ⟨rfl, rfl, rfl⟩
  refine zs_aload (ip' := 12) rfl rfl rfl ?_
  refine zs_getI (ip' := 13) rfl rfl (by omega) zsh_192 rfl (q := 10) rfl ?_
  intro hl12 hu12
  rw [zk_ne (by decide), e2, zp_eq] at hl12 hu12 ⊢
  refine zs_pushI (ip' := 14) rfl rfl zi_km1 ?_
  refine zs_icmp_eq (t := 20) (ip' := 15) rfl rfl (by omega) (by omega) ?_ ?_
  · intro h14
    refine zs_aload (ip' := 21) rfl rfl rfl ?_
    refine zs_getR (ip' := 22) rfl rfl (r := 0) (by omega) zsh_192 rfl ?_
    refine zs_aload (ip' := 23) rfl rfl rfl ?_
    refine zs_getR (ip' := 24) rfl rfl (r := 16) (by omega) zsh_192 rfl ?_
    refine zW_cV (ip' := 25) rfl rfl (cX_copy7 (w := 0) (w2 := 1) hN (by omega) (by omega) (by decide)) rfl rfl (z_ok3 (by omega) zsh_0 rfl rfl rfl) ?_
    rintro G4 F' n' ⟨hcp, rfl, rfl⟩
    refine zs_aload (ip' := 26) rfl rfl rfl ?_
    refine zs_getR (ip' := 27) rfl rfl (r := 193) (by omega) zsh_192 rfl ?_
    refine zW_cV (ip' := 28) rfl rfl (cX_forgetAll hN) rfl rfl (z_ok3 (by omega) zsh_193 rfl rfl rfl) ?_
    rintro G5 F' n' ⟨rfl, rfl, rfl⟩
    refine zs_pushI (ip' := 29) rfl rfl zi_k0 ?_
    refine zs_istore1 (ip' := 30) rfl rfl ?_
    obtain ⟨r1, r2, r3, r4, r5⟩ := hrd.resolve_right (fun q => by have := hpg.2 (by omega); omega)
    have hRm : RX (zk G2 197 (zp (G2 197) 0 0)) 1 x.2.2.2 := RX_fr r5 (fun k a b => (zk_ne (by omega)).trans (f2 _ (by omega)))
    have hR4 : RX G4 0 x.2.2.2 := RX_cp r4 hRm hcp
    have hc : ∀ k, 16 ≤ k → k ≠ 192 → k ≠ 197 → G4 k = G1 k := fun k a b c => (hcp.1 k (by omega)).trans ((zk_ne c).trans (f2 k b))
    have hc2 : G4 192 = G2 192 := (hcp.1 192 (by omega)).trans (zk_ne (by decide))
    refine cQ_load_l hN r1 (G0 := G) (G3 := zk G4 193 (zp (G4 193) 0 0)) (RX_fr hR4 (fun k a b => zk_ne (by omega))) (fun G6 g1 g2 g3 => ?_) 3 0 _ (by omega) (by omega) (fun _ _ => rfl) (fun j a b => absurd b (by omega))
    refine ⟨fun k a b c d e => ?_, fun j a => ?_, ?_, ?_, Or.inl ⟨r1, r3, r4, RX_fr hR4 (fun k a b => (g1 k (by omega)).trans (zk_ne (by omega))), ?_, ?_, g2, g3⟩⟩
    · rw [g1 k d, zk_ne c, hc k (by omega) b e, hrw.1 k e (by omega)]
    · rw [g1 192 (by decide), zk_ne (by decide), hc2, e2, zp_ne a, hrw.1 192 (by decide) (by omega)]
    · rw [g1 197 (by decide), zk_ne (by decide), hcp.1 197 (by omega), zk_eq, zp_eq]
    · rw [g1 192 (by decide), zk_ne (by decide), hc2, e2, zp_eq, r2, r3]
    · rw [g1 193 (by decide), zk_eq, zp_eq]
    · rw [g1 193 (by decide), zk_eq, zp_ne (by decide), hc 193 (by omega) (by decide) (by decide), hrw.1 193 (by decide) (by omega)]
  · intro h14
    refine zW_5 rfl ?_
    rcases hrd with ⟨r1, r2, -⟩ | ⟨r1, r2⟩
    · exact absurd r2 h14
    · have hq : q_load x = (1, 0) := if_neg (by omega)
      refine zqx1 hq rfl ⟨fun k a b c d e => ?_, fun j a => ?_, ?_, ?_, Or.inr ⟨r1, hpg.2 (by omega), fun k a => ?_, ?_, ?_⟩⟩
      · rw [zk_ne e, f2 _ b, hrw.1 _ e (by omega)]
      · rw [zk_ne (by decide), e2, zp_ne a, hrw.1 _ (by decide) (by omega)]
      · rw [zk_eq, zp_eq]
      · rw [zk_ne (by decide), e2, zp_eq, r2]
      · rw [zk_ne (by omega), f2 _ (by omega), hrw.1 _ (by omega) (by omega)]
      · rw [zk_ne (by decide), f2 _ (by decide), hrw.1 _ (by decide) (by omega)]
      · rw [zk_ne (by decide), f2 _ (by decide), hrw.1 _ (by decide) (by omega)]
