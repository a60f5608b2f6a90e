/-! The reference model: load (printed by wip/whole/src32.py). -/
/-- the model after a load -/
def zLd (G F : GM) (n : Nat) (x : zTx) : Zq := fun o G' F' n' => n' = n ∧ (∀ k, k ≠ 230 → F' k = F k) ∧ (∀ k, k ≠ 230 → k ≠ 231 → k ≠ 232 → k ≠ 236 → G' k = G k) ∧
  (∀ j, j ≠ 6 → j ≠ 8 → j ≠ 9 → j ≠ 10 → j ≠ 15 → j ≠ 16 → j ≠ 17 → j ≠ 18 → j ≠ 20 → G' 230 j = G 230 j) ∧ G' 230 8 = 0 ∧ G' 230 9 = x.2.2.1 ∧
  ((x.2.1 = 1 ∧ o = .inl (some (.int (zi 0))) ∧ G' 230 10 = 1 ∧ G' 230 6 = G 230 6 ∧ G' 231 = G 231 ∧ G' 236 = G 236) ∨
   (x.2.1 = 0 ∧ o = .inl (some (.int (zi (x.2.2.2 5)))) ∧ G' 230 10 = 0 ∧ G' 230 6 = 0 ∧ (G' 236 0 = 0 ∧ G' 236 1 = 0) ∧ ∀ j, 0 ≤ j → j < 256 → G' 231 j = x.2.2.2 j))
theorem zLd_w {G Ga F : GM} {n : Nat} {x : zTx} {o : Zo} {G' F' : GM} {n' : Nat} (hk : ∀ k, k ≠ 230 → k ≠ 232 → Ga k = G k) (hj : ∀ j, j ≠ 10 → Ga 230 j = G 230 j) (h : zLd Ga F n x o G' F' n') : zLd G F n x o G' F' n' := by
  obtain ⟨h1, h2, h3, h4, h5, h6, h7⟩ := h
  refine ⟨h1, h2, fun k a b c d => (h3 k a b c d).trans (hk k a c), fun j a b c d e f g h i => (h4 j a b c d e f g h i).trans (hj j d), h5, h6, h7.imp (fun ⟨a, b, c, d, e, f⟩ => ⟨a, b, c, d.trans (hj 6 (by decide)), e.trans (hk 231 (by decide) (by decide)), f.trans (hk 236 (by decide) (by decide))⟩) (fun q => q)⟩
theorem zNx_PS {G F G' F' : GM} {D : Int → Int} (h : zNx G F 0 G' F') (hB : zBa G) (h20 : G 230 20 = 0) (h9 : G 230 9 = -1) (hD : G 232 = D) : zPS G F ((0, 0, -1, D) : zTx) G' F' := by
  obtain ⟨h1, h2, h3, h4⟩ := h
  obtain ⟨b1, b2⟩ := id hB.1
  exact ⟨hB, ⟨Int.le_refl _, b1⟩, Or.inl rfl, h1, ⟨(h3 20 (by decide) (by decide) (by decide) (by decide)).trans h20, (h3 9 (by decide) (by decide) (by decide) (by decide)).trans h9, (h2 232 (by decide)).trans hD⟩, fun k a _ => h2 k a, fun j _ a b c d _ => h3 j a b c d, h4⟩
theorem cM_ld_k {N : Nat} {G F : GM} {n : Nat} (hN : 241 ≤ N) {Q : Zq} (hQ : ∀ E : Int → Int, E 0 = 0 → E 1 = 0 → Q (.inl (some (.int (zi (G 231 5))))) (zk G 236 E) F n) : ∀ (d : Nat) (k : Nat) (E : Int → Int), 2 - (k : Int) < (d : Int) → (k : Int) ≤ 2 → (∀ j, 0 ≤ j → j < (k : Int) → E j = 0) → zW N 62 50 [.ref 230, .int (zi (k : Int))] [] (zk G 236 E) F n Q := by
  intro d
  induction d with
  | zero =>
    intro k E hd hj hE
    exact absurd hd (by omega)
  | succ d ih =>
    intro k E hd hj hE
    refine zs_iload (ip' := 51) rfl rfl rfl ?_
    refine zs_pushI (ip' := 52) rfl rfl zi_k2 ?_
    refine zs_icmp_ge (t := 60) (ip' := 53) rfl rfl (by omega) (by omega) ?_ ?_
    · intro h52
      refine zs_aload (ip' := 61) rfl rfl rfl ?_
      refine zs_getR (ip' := 62) rfl rfl (r := 231) (by omega) zsh_230 rfl ?_
      refine zs_pushI (ip' := 63) rfl rfl zi_k5 ?_
      refine zs_iald (ip' := 64) rfl rfl (by omega) zsh_231 (by omega) ?_
      intro hl63 hu63
      refine zW_0 rfl ?_
      exact hQ E (hE 0 (by omega) (by omega)) (hE 1 (by omega) (by omega))
    · intro h52
      refine zs_aload (ip' := 54) rfl rfl rfl ?_
      refine zs_getR (ip' := 55) rfl rfl (r := 236) (by omega) zsh_230 rfl ?_
      refine zs_iload (ip' := 56) rfl rfl rfl ?_
      refine zs_pushI (ip' := 57) rfl rfl zi_k0 ?_
      refine zs_zast (ip' := 58) rfl rfl (by omega) zsh_236 (by omega) (Or.inl rfl) ?_
      rw [zk_eq, zk_zk]
      refine zs_iinc1 (ip' := 59) rfl rfl zi_k1 ?_
      refine zs_goto (t := 50) rfl ?_
      exact ih (k + 1) (zp E (k : Int) 0) (by omega) (by omega) (fun j j0 j1 => by
        by_cases e : j = (k : Int)
        · rw [e, zp_eq]
        · rw [zp_ne e]
          exact hE j j0 (by omega))
theorem cM_ld_d {N : Nat} {G F : GM} {n : Nat} (hN : 241 ≤ N) {Q : Zq} (hk : ∀ v : Value, zW N 62 15 [.ref 230, v] [] (zk G 232 (zlr (fun _ => 0) (G 232) 0 0 256)) F n Q) : ∀ (d : Nat) (k : Nat), 256 - (k : Int) < (d : Int) → (k : Int) ≤ 256 → zW N 62 5 [.ref 230, .int (zi (k : Int))] [] (zk G 232 (zlr (fun _ => 0) (G 232) 0 0 (k : Int))) F n Q := by
  intro d
  induction d with
  | zero =>
    intro k hd hj
    exact absurd hd (by omega)
  | succ d ih =>
    intro k hd hj
    refine zs_iload (ip' := 6) rfl rfl rfl ?_
    refine zs_pushI (ip' := 7) rfl rfl zi_k256 ?_
    refine zs_icmp_ge (t := 15) (ip' := 8) rfl rfl (by omega) (by omega) ?_ ?_
    · intro h7
      have := hk (.int (zi (k : Int)))
      rw [show (256 : Int) = (k : Int) by omega] at this
      exact this
    · intro h7
      refine zs_aload (ip' := 9) rfl rfl rfl ?_
      refine zs_getR (ip' := 10) rfl rfl (r := 232) (by omega) zsh_230 rfl ?_
      refine zs_iload (ip' := 11) rfl rfl rfl ?_
      refine zs_pushI (ip' := 12) rfl rfl zi_k0 ?_
      refine zs_iast (ip' := 13) rfl rfl (by omega) zsh_232 (by omega) (by omega) ?_
      have e1 := zlr_s (fun _ => 0) (G 232) 0 0 (c := (k : Int)) (by omega)
      rw [show (0 : Int) + (k : Int) = k by omega] at e1
      rw [zk_eq, zk_zk, e1]
      refine zs_iinc1 (ip' := 14) rfl rfl zi_k1 ?_
      refine zs_goto (t := 5) rfl ?_
      exact ih (k + 1) (by omega) (by omega)
theorem cM_ld_k0 {N : Nat} {G F : GM} {n : Nat} (hN : 241 ≤ N) {Q : Zq} (hQ : ∀ E : Int → Int, E 0 = 0 → E 1 = 0 → Q (.inl (some (.int (zi (G 231 5))))) (zk G 236 E) F n) : zW N 62 50 [.ref 230, .int (zi 0)] [] G F n Q := by
  have h := cM_ld_k hN hQ 3 0 (G 236) (by omega) (by omega) (fun j a b => absurd b (by omega))
  rw [zk_self] at h
  exact h
theorem cM_ld_d0 {N : Nat} {G F : GM} {n : Nat} (hN : 241 ≤ N) {Q : Zq} (hk : ∀ v : Value, zW N 62 15 [.ref 230, v] [] (zk G 232 (zlr (fun _ => 0) (G 232) 0 0 256)) F n Q) : zW N 62 5 [.ref 230, .int (zi 0)] [] G F n Q := by
  have h := cM_ld_d hN hk 257 0 (by omega) (by omega)
  rw [show ((0 : Nat) : Int) = 0 from rfl, zlr_0, zk_self] at h
  exact h
theorem cM_ld_m {N : Nat} (hN : 241 ≤ N) {G F : GM} {n : Nat} (hB : zBa G) {D : Int → Int} (hD : G 232 = D) (hD4 : D 4 = 0) (hD5 : D 5 = 0) (h10 : G 230 10 = 0) {c1 : Value} : zW N 62 15 [.ref 230, c1] [] G F n (zLd G F n (pText (G 237) (G 230 8) (0, 0, -1, D))) := by
  refine zs_aload (ip' := 16) rfl rfl rfl ?_
  refine zs_pushI (ip' := 17) rfl rfl zi_k0 ?_
  refine zs_putI (ip' := 18) rfl rfl (by omega) zsh_230 rfl (q := 15) rfl (by omega) ?_
  skip
  refine zs_aload (ip' := 19) rfl rfl rfl ?_
  refine zs_pushI (ip' := 20) rfl rfl zi_k0 ?_
  refine zs_putZ (ip' := 21) rfl rfl (by omega) zsh_230 rfl (q := 20) rfl (Or.inl rfl) ?_
  rw [zk_eq, zk_zk]
  refine zs_aload (ip' := 22) rfl rfl rfl ?_
  refine zs_pushI (ip' := 23) rfl rfl zi_km1 ?_
  refine zs_putI (ip' := 24) rfl rfl (by omega) zsh_230 rfl (q := 9) rfl (by omega) ?_
  rw [zk_eq, zk_zk]
  have m15 : zk G 230 (zp (zp (zp (G 230) 15 0) 20 0) 9 (-1)) 230 15 = 0 := by rw [zk_eq, zp_ne (by decide), zp_ne (by decide), zp_eq]
  have m20 : zk G 230 (zp (zp (zp (G 230) 15 0) 20 0) 9 (-1)) 230 20 = 0 := by rw [zk_eq, zp_ne (by decide), zp_eq]
  have m9 : zk G 230 (zp (zp (zp (G 230) 15 0) 20 0) 9 (-1)) 230 9 = -1 := by rw [zk_eq, zp_eq]
  have mj1 : ∀ j, j ≠ 9 → j ≠ 15 → j ≠ 20 → zk G 230 (zp (zp (zp (G 230) 15 0) 20 0) 9 (-1)) 230 j = G 230 j := fun j a b c => by rw [zk_eq, zp_ne a, zp_ne c, zp_ne b]
  have mk1 : ∀ k, k ≠ 230 → zk G 230 (zp (zp (zp (G 230) 15 0) 20 0) 9 (-1)) k = G k := fun k a => zk_ne a
  generalize zk G 230 (zp (zp (zp (G 230) 15 0) 20 0) 9 (-1)) = Gm at m15 m20 m9 mj1 mk1 ⊢
  have m32 : Gm 232 = D := (mk1 232 (by decide)).trans hD
  have m37 : Gm 237 = G 237 := mk1 237 (by decide)
  have m8 : Gm 230 8 = G 230 8 := mj1 8 (by decide) (by decide) (by decide)
  have hBm : zBa Gm := by
    unfold zBa
    rw [m37, m8]
    exact hB
  obtain ⟨bb1, bb2⟩ := hBm.1
  refine zs_aload (ip' := 25) rfl rfl rfl ?_
  refine zW_cV (ip' := 26) rfl rfl (cM_next hN hBm (p := 0) (by omega) m15) rfl rfl (z_ok3 (by omega) zsh_230 rfl rfl rfl) ?_
  rintro G' F' n' ⟨hx, rfl⟩
  have hS := zNx_PS hx hBm m20 m9 m32
  refine zs_aload (ip' := 27) rfl rfl rfl ?_
  refine zW_cV (ip' := 28) rfl rfl (cM_readText hN hS (by show 0 ≤ D 4 ∧ D 4 ≤ 8; omega) (by show 0 ≤ D 5 ∧ D 5 ≤ 6; omega)) rfl rfl (z_ok3 (by omega) zsh_230 rfl rfl rfl) ?_
  rintro G3 F3 n3 ⟨hS3, rfl⟩
  rw [m37, m8] at hS3
  generalize hX : pText (G 237) (G 230 8) (0, 0, -1, D) = x at hS3 ⊢
  obtain ⟨-, -, hw, -, ⟨w1, w2, w3⟩, g1, g2, f3⟩ := hS3
  have gk : ∀ k, k ≠ 230 → k ≠ 232 → G3 k = G k := fun k a b => (g1 k a b).trans (mk1 k a)
  have gj : ∀ j, j ≠ 9 → j ≠ 15 → j ≠ 16 → j ≠ 17 → j ≠ 18 → j ≠ 20 → G3 230 j = G 230 j := fun j a b c d e f => (g2 j a b c d e f).trans (mj1 j a b f)
  refine zs_aload (ip' := 29) rfl rfl rfl ?_
  refine zs_pushI (ip' := 30) rfl rfl zi_k0 ?_
  refine zs_putI (ip' := 31) rfl rfl (by omega) zsh_230 rfl (q := 8) rfl (by omega) ?_
  refine zs_aload (ip' := 32) rfl rfl rfl ?_
  refine zs_getI (ip' := 33) rfl rfl (by omega) zsh_230 rfl (q := 20) rfl ?_
  intro hl32 hu32
  rw [show zk G3 230 (zp (G3 230) 8 0) 230 20 = x.2.1 from by rw [zk_eq, zp_ne (by decide)]; exact w1] at hl32 hu32 ⊢
  refine zs_if_eq (t := 38) (ip' := 34) rfl rfl (by omega) ?_ ?_
  · intro h33
    have hx0 : x.2.1 = 0 := by omega
    refine zs_aload (ip' := 39) rfl rfl rfl ?_
    refine zs_getR (ip' := 40) rfl rfl (r := 232) (by omega) zsh_230 rfl ?_
    refine zs_pushI (ip' := 41) rfl rfl zi_k0 ?_
    refine zs_aload (ip' := 42) rfl rfl rfl ?_
    refine zs_getR (ip' := 43) rfl rfl (r := 231) (by omega) zsh_230 rfl ?_
    refine zs_pushI (ip' := 44) rfl rfl zi_k0 ?_
    refine zW_cV (ip' := 45) rfl rfl (cM_layRow zsh_232 (by omega) zsh_231 (by omega) (by omega) (by omega) (Or.inl (by decide))) rfl rfl rfl ?_
    rintro G' F' n' ⟨rfl, rfl, rfl⟩
    refine zs_aload (ip' := 46) rfl rfl rfl ?_
    refine zs_pushI (ip' := 47) rfl rfl zi_k0 ?_
    refine zs_putI (ip' := 48) rfl rfl (by omega) zsh_230 rfl (q := 6) rfl (by omega) ?_
    refine zs_pushI (ip' := 49) rfl rfl zi_k0 ?_
    refine zs_istore1 (ip' := 50) rfl rfl ?_
    have e3 : zk (zk G3 230 (zp (G3 230) 8 0)) 231 (zlr (zk G3 230 (zp (G3 230) 8 0) 232) (zk G3 230 (zp (G3 230) 8 0) 231) 0 0 256) 230 = zp (G3 230) 8 0 := by rw [zk_ne (by decide), zk_eq]
    have e5 : ∀ j, 0 ≤ j → j < 256 → zk (zk G3 230 (zp (G3 230) 8 0)) 231 (zlr (zk G3 230 (zp (G3 230) 8 0) 232) (zk G3 230 (zp (G3 230) 8 0) 231) 0 0 256) 231 j = x.2.2.2 j := fun j j0 j1 => by
      rw [zk_eq, zlr_in (by omega), zk_ne (by decide), w3, show (0 : Int) + (j - 0) = j by omega]
    refine cM_ld_k0 hN (fun E e0 e1 => ?_)
    refine ⟨rfl, f3, fun k a b c d => ?_, fun j a b c d e f g h i => ?_, ?_, ?_, Or.inr ⟨hx0, ?_, ?_, ?_, ⟨e0, e1⟩, ?_⟩⟩
    · rw [zk_ne d, zk_ne a, zk_ne b, zk_ne a]
      exact gk k a c
    · rw [zk_ne (by decide), zk_eq, e3, zp_ne a, zp_ne b]
      exact gj j c e f g h i
    · rw [zk_ne (by decide), zk_eq, e3, zp_ne (by decide), zp_eq]
    · rw [zk_ne (by decide), zk_eq, e3, zp_ne (by decide), zp_ne (by decide)]
      exact w2
    · rw [zk_ne (by decide), e5 5 (by decide) (by decide)]
    · rw [zk_ne (by decide), zk_eq, e3, zp_ne (by decide), zp_ne (by decide)]
      exact (gj 10 (by decide) (by decide) (by decide) (by decide) (by decide) (by decide)).trans h10
    · rw [zk_ne (by decide), zk_eq, zp_eq]
    · intro j j0 j1
      rw [zk_ne (by decide), zk_ne (by decide)]
      exact e5 j j0 j1
  · intro h33
    have hx1 : x.2.1 = 1 := by omega
    refine zs_aload (ip' := 35) rfl rfl rfl ?_
    refine zs_pushI (ip' := 36) rfl rfl zi_k1 ?_
    refine zW_cR (ip' := 37) rfl rfl (cM_fails hN (by omega)) rfl rfl (z_ok3 (by omega) zsh_230 rfl rfl rfl) ?_
    rintro v G' F' n' _ ⟨rfl, rfl, rfl, rfl⟩
    refine zW_0 rfl ?_
    refine ⟨rfl, f3, fun k a b c d => (zk_ne a).trans ((zk_ne a).trans (gk k a c)), fun j a b c d e f g h i => ?_, ?_, ?_, Or.inl ⟨hx1, rfl, ?_, ?_, ?_, ?_⟩⟩
    · rw [zk_eq, zp_ne d, zk_eq, zp_ne b]
      exact gj j c e f g h i
    · rw [zk_eq, zp_ne (by decide), zk_eq, zp_eq]
    · rw [zk_eq, zp_ne (by decide), zk_eq, zp_ne (by decide)]
      exact w2
    · rw [zk_eq, zp_eq]
    · rw [zk_eq, zp_ne (by decide), zk_eq, zp_ne (by decide)]
      exact gj 6 (by decide) (by decide) (by decide) (by decide) (by decide) (by decide)
    · exact gk 231 (by decide) (by decide)
    · exact gk 236 (by decide) (by decide)
theorem cP_load {N : Nat} {G F : GM} {n : Nat} (hN : 241 ≤ N) (hB : zBa G) : zC N 62 [.ref 230] G F n (zLd G F n (pText (G 237) (G 230 8) (0, 0, -1, (zlr (fun _ => 0) (G 232) 0 0 256)))) := by
  refine zC_i (L0 := [.ref 230, .null]) rfl ?_
  refine zs_aload (ip' := 1) rfl rfl rfl ?_
  refine zs_pushI (ip' := 2) rfl rfl zi_k0 ?_
  refine zs_putI (ip' := 3) rfl rfl (by omega) zsh_230 rfl (q := 10) rfl (by omega) ?_
  refine zs_pushI (ip' := 4) rfl rfl zi_k0 ?_
  refine zs_istore1 (ip' := 5) rfl rfl ?_
  have r37 : zk (zk G 230 (zp (G 230) 10 0)) 232 (zlr (fun _ => 0) (G 232) 0 0 256) 237 = G 237 := rfl
  refine cM_ld_d0 hN (fun v => ?_)
  have e2 : zk G 230 (zp (G 230) 10 0) 232 = G 232 := zk_ne (by decide)
  rw [e2]
  have f0 : zk (zk G 230 (zp (G 230) 10 0)) 232 (zlr (fun _ => 0) (G 232) 0 0 256) 230 = zp (G 230) 10 0 := by rw [zk_ne (by decide), zk_eq]
  have f8 : zk (zk G 230 (zp (G 230) 10 0)) 232 (zlr (fun _ => 0) (G 232) 0 0 256) 230 8 = G 230 8 := by rw [f0, zp_ne (by decide)]
  have hh := cM_ld_m (n := n) (F := F) hN (G := zk (zk G 230 (zp (G 230) 10 0)) 232 (zlr (fun _ => 0) (G 232) 0 0 256)) (D := (zlr (fun _ => 0) (G 232) 0 0 256)) (by unfold zBa; rw [f8, r37]; exact hB) (zk_eq _ _ _) (zlr_in (by omega)) (zlr_in (by omega)) (by rw [f0, zp_eq]) (c1 := v)
  rw [f8, r37] at hh
  refine zW_w (fun o G' F' n' h => zLd_w (fun k a b => (zk_ne b).trans (zk_ne a)) (fun j a => ?_) h) hh
  rw [f0, zp_ne a]
