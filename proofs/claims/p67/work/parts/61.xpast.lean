/-! The program: what was before, rows changed (printed by wip/whole/src61.py). -/
/-- the worlds before the latest changes -/
def XH (G : GM) (u : Int) (h : Nat → Int → Int) : Prop := G 193 0 = u ∧ (0 ≤ u ∧ u ≤ 8) ∧ (0 ≤ G 193 1 ∧ G 193 1 ≤ 7) ∧ ∀ j w : Nat, (j : Int) < u → (w : Int) - 2 = (G 193 1 - j) % 8 → RX G w (h j)
def hcons (s : Int → Int) (h : Nat → Int → Int) : Nat → Int → Int
  | 0 => s
  | j + 1 => h j
theorem XH_fr {G G' : GM} {u : Int} {h : Nat → Int → Int} (hX : XH G u h) (e : ∀ k, 32 ≤ k → k < 194 → G' k = G k) : XH G' u h := by
  obtain ⟨h1, h2, h3, h4⟩ := hX
  unfold XH
  rw [e 193 (by omega) (by omega)]
  exact ⟨h1, h2, h3, fun j w hj hw => RX_fr (h4 j w hj hw) (fun k a b => e k (by omega) (by omega))⟩
/-- the world s was put down -/
def xRm (s : Int → Int) (G G' : GM) : Prop := (∀ k, (k < 32 ∨ 160 ≤ k) → k ≠ 193 → G' k = G k) ∧ G' 193 0 = min (G 193 0 + 1) 8 ∧ G' 193 1 = (G 193 1 + 1) % 8 ∧
  (∀ w : Nat, 2 ≤ w → w < 10 → (w : Int) - 2 ≠ (G 193 1 + 1) % 8 → ∀ k, 16 * w ≤ k → k < 16 * w + 16 → G' k = G k) ∧ (∀ w : Nat, (w : Int) - 2 = (G 193 1 + 1) % 8 → RX G' w s)
theorem xRm_h {s : Int → Int} {G G' : GM} {u : Int} {h : Nat → Int → Int} (hX : XH G u h) (hr : xRm s G G') : XH G' (min (u + 1) 8) (hcons s h) := by
  obtain ⟨h1, h2, h3, h4⟩ := hX
  obtain ⟨-, r2, r3, r4, r5⟩ := hr
  refine ⟨by rw [r2, h1], by omega, by omega, fun j w hj hw => ?_⟩
  rw [r3] at hw
  match j with
  | 0 => exact r5 w (by omega)
  | j + 1 =>
    have hw2 : (w : Int) - 2 = (G 193 1 - j) % 8 := by omega
    exact RX_fr (h4 j w (by omega) hw2) (r4 w (by omega) (by omega) (by omega))
theorem zpast {w : Nat} (h0 : 2 ≤ w) (h1 : w < 10) : [32, 48, 64, 80, 96, 112, 128, 144][((w : Int) - 2).toNat]? = some (16 * w) := by
  have : w = 2 ∨ w = 3 ∨ w = 4 ∨ w = 5 ∨ w = 6 ∨ w = 7 ∨ w = 8 ∨ w = 9 := by omega
  rcases this with rfl | rfl | rfl | rfl | rfl | rfl | rfl | rfl <;> rfl
/-- a change: from s to s' -/
def xCh (G G' : GM) (s s' : Int → Int) : Prop := RX G' 0 s' ∧ (∀ k, 160 ≤ k → k ≠ 193 → (k < 201 ∨ 228 ≤ k) → G' k = G k) ∧ ∀ u h, XH G u h → XH G' (min (u + 1) 8) (hcons s h)
theorem xCh_of {G G1 G2 : GM} {s s' : Int → Int} (hr : xRm s G G1) (hR : RX G2 0 s') (hf : ∀ k, 16 ≤ k → (k < 201 ∨ 225 ≤ k) → G2 k = G1 k) : xCh G G2 s s' :=
  ⟨hR, fun k a b c => (hf k (by omega) (by omega)).trans (hr.1 k (by omega) b), fun u h hX => XH_fr (xRm_h hX hr) (fun k a b => hf k (by omega) (by omega))⟩
def xCq (q : Int × Int) (G : GM) (s s' : Int → Int) (G' : GM) : Prop := (q.1 = 0 ∧ xCh G G' s s') ∨ (q.1 ≠ 0 ∧ G' = G)
theorem xCq0 {q : Int × Int} {G G' : GM} {s s' : Int → Int} {v : Int} (hq : q = (0, v)) (h : xCh G G' s s') : xCq q G s s' G' := Or.inl ⟨by rw [hq], h⟩
theorem xCq1 {q : Int × Int} {G : GM} {s s' : Int → Int} {c v : Int} (hq : q = (c, v)) (hc : c ≠ 0) : xCq q G s s' G := Or.inr ⟨by rw [hq]; exact hc, rfl⟩
theorem cR_rem {N : Nat} {G F : GM} {n : Nat} (hN : 229 ≤ N) {s : Int → Int} (hok : mOk s) (hR : RX G 0 s) (hH0 : 0 ≤ G 193 0 ∧ G 193 0 ≤ 8) (hH1 : 0 ≤ G 193 1 ∧ G 193 1 ≤ 7) : zC N 179 [.ref 193, .ref 0] G F n (zV fun G' F' n' => xRm s G G' ∧ F' = F ∧ n' = n) := by
  obtain ⟨w, w0, w1, hk⟩ : ∃ w : Nat, 2 ≤ w ∧ w < 10 ∧ (G 193 1 + 1) % 8 = (w : Int) - 2 := ⟨((G 193 1 + 1) % 8).toNat + 2, by omega, by omega, by omega⟩
  have hw : w < 12 := by omega
  refine zC_i (L0 := [.ref 193, .ref 0]) rfl ?_
  refine zs_aload (ip' := 1) rfl rfl rfl ?_
  refine zs_aload (ip' := 2) rfl rfl rfl ?_
  refine zs_getI (ip' := 3) rfl rfl (by omega) zsh_193 rfl (q := 1) rfl ?_
  intro hl2 hu2
  refine zs_pushI (ip' := 4) rfl rfl zi_k1 ?_
  refine zs_iadd (ip' := 5) rfl rfl ?_
  refine zs_pushI (ip' := 6) rfl rfl zi_k8 ?_
  refine zs_irem (ip' := 7) rfl rfl (by omega) (by omega) ?_
  rw [hk]
  refine zs_putI (ip' := 8) rfl rfl (by omega) zsh_193 rfl (q := 1) rfl (by omega) ?_
  refine zs_aload (ip' := 9) rfl rfl rfl ?_
  refine zs_getR (ip' := 10) rfl rfl (r := 194) (by omega) zsh_193 rfl ?_
  refine zs_aload (ip' := 11) rfl rfl rfl ?_
  refine zs_getI (ip' := 12) rfl rfl (by omega) zsh_193 rfl (q := 1) rfl ?_
  intro hl11 hu11
  rw [zk_eq, zp_eq] at hl11 hu11 ⊢
  refine zs_aald (ip' := 13) rfl rfl (r := 16 * w) (by omega) zsh_194 (by decide) (by omega) (zpast w0 w1) ?_
  refine zs_aload (ip' := 14) rfl rfl rfl ?_
  refine zW_cV (ip' := 15) rfl rfl (cX_copy7 (w := w) (w2 := 0) hN hw (by omega) (by omega)) rfl rfl (z_ok3 (by omega) (zsh_w0 hw) rfl rfl rfl) ?_
  rintro G2 F' n' ⟨hcp, rfl, rfl⟩
  have hRa : RX (zk G 193 (zp (G 193) 1 ((w : Int) - 2))) 0 s := RX_fr hR (fun k a b => zk_ne (by omega))
  have hR2 : RX G2 w s := RX_cp hok hRa hcp
  have e2 : G2 193 = zk G 193 (zp (G 193) 1 ((w : Int) - 2)) 193 := hcp.1 193 (by omega)
  refine zs_aload (ip' := 16) rfl rfl rfl ?_
  refine zs_aload (ip' := 17) rfl rfl rfl ?_
  refine zs_getI (ip' := 18) rfl rfl (by omega) zsh_193 rfl (q := 0) rfl ?_
  intro hl17 hu17
  rw [e2, zk_eq, zp_ne (by omega)] at hl17 hu17 ⊢
  refine zs_pushI (ip' := 19) rfl rfl zi_k1 ?_
  refine zs_iadd (ip' := 20) rfl rfl ?_
  refine zs_pushI (ip' := 21) rfl rfl zi_k8 ?_
  refine zs_mmin (ip' := 22) rfl rfl rfl (by omega) (by omega) ?_
  refine zs_putI (ip' := 23) rfl rfl (by omega) zsh_193 rfl (q := 0) rfl (by omega) ?_
  refine zW_1 rfl ?_
  refine ⟨rfl, ⟨fun k a b => ?_, ?_, ?_, fun v v0 v1 v2 k k0 k1 => ?_, fun v hv => ?_⟩, rfl, rfl⟩
  · rw [zk_ne b, hcp.1 k (by omega), zk_ne b]
  · rw [zk_eq, zp_eq]
  · rw [zk_eq, zp_ne (by omega), e2, zk_eq, zp_eq, hk]
  · rw [zk_ne (by omega), hcp.1 k (by omega), zk_ne (by omega)]
  · have : v = w := by omega
    subst this
    exact RX_fr hR2 (fun k a b => zk_ne (by omega))
/-- the latest change is taken back -/
def xUn (G G' : GM) (h : Nat → Int → Int) : Prop := RX G' 0 (h 0) ∧ (∀ k, 16 ≤ k → k ≠ 193 → G' k = G k) ∧ XH G' (G 193 0 - 1) (fun j => h (j + 1))
theorem cR_unrem {N : Nat} {G F : GM} {n : Nat} (hN : 229 ≤ N) {u : Int} {h : Nat → Int → Int} (hX : XH G u h) (hu : 0 < u) (hok : mOk (h 0)) : zC N 180 [.ref 193, .ref 0] G F n (zV fun G' F' n' => xUn G G' h ∧ F' = F ∧ n' = n) := by
  obtain ⟨h1, h2', h3, h4⟩ := hX
  obtain ⟨w, w0, w1, hk⟩ : ∃ w : Nat, 2 ≤ w ∧ w < 10 ∧ G 193 1 = (w : Int) - 2 := ⟨(G 193 1).toNat + 2, by omega, by omega, by omega⟩
  have hw : w < 12 := by omega
  have hRw := h4 0 w (by omega) (by omega)
  refine zC_i (L0 := [.ref 193, .ref 0]) rfl ?_
  refine zs_aload (ip' := 1) rfl rfl rfl ?_
  refine zs_getI (ip' := 2) rfl rfl (by omega) zsh_193 rfl (q := 0) rfl ?_
  intro hl1 hu1
  refine zs_if_ne (t := 4) (ip' := 3) rfl rfl (by omega) ?_ ?_
  · intro h2
    refine zs_aload (ip' := 5) rfl rfl rfl ?_
    refine zs_aload (ip' := 6) rfl rfl rfl ?_
    refine zs_getR (ip' := 7) rfl rfl (r := 194) (by omega) zsh_193 rfl ?_
    refine zs_aload (ip' := 8) rfl rfl rfl ?_
    refine zs_getI (ip' := 9) rfl rfl (by omega) zsh_193 rfl (q := 1) rfl ?_
    intro hl8 hu8
    rw [hk]
    refine zs_aald (ip' := 10) rfl rfl (r := 16 * w) (by omega) zsh_194 (by decide) (by omega) (zpast w0 w1) ?_
    refine zW_cV (ip' := 11) rfl rfl (cX_copy7 (w := 0) (w2 := w) hN (by omega) hw (by omega)) rfl rfl (z_ok3 (by omega) zsh_0 rfl rfl rfl) ?_
    rintro G2 F' n' ⟨hcp, rfl, rfl⟩
    have hR2 : RX G2 0 (h 0) := RX_cp hok hRw hcp
    have e2 : G2 193 = G 193 := hcp.1 193 (by omega)
    refine zs_aload (ip' := 12) rfl rfl rfl ?_
    refine zs_aload (ip' := 13) rfl rfl rfl ?_
    refine zs_getI (ip' := 14) rfl rfl (by omega) zsh_193 rfl (q := 1) rfl ?_
    intro hl13 hu13
    rw [e2] at hl13 hu13 ⊢
    refine zs_pushI (ip' := 15) rfl rfl zi_k8 ?_
    refine zs_iadd (ip' := 16) rfl rfl ?_
    refine zs_pushI (ip' := 17) rfl rfl zi_k1 ?_
    refine zs_isub (ip' := 18) rfl rfl ?_
    refine zs_pushI (ip' := 19) rfl rfl zi_k8 ?_
    refine zs_irem (ip' := 20) rfl rfl (by omega) (by omega) ?_
    refine zs_putI (ip' := 21) rfl rfl (by omega) zsh_193 rfl (q := 1) rfl (by omega) ?_
    refine zs_aload (ip' := 22) rfl rfl rfl ?_
    refine zs_dupR (ip' := 23) rfl rfl ?_
    refine zs_getI (ip' := 24) rfl rfl (by omega) zsh_193 rfl (q := 0) rfl ?_
    intro hl23 hu23
    rw [zk_eq, zp_ne (by omega), e2] at hl23 hu23 ⊢
    refine zs_pushI (ip' := 25) rfl rfl zi_k1 ?_
    refine zs_isub (ip' := 26) rfl rfl ?_
    refine zs_putI (ip' := 27) rfl rfl (by omega) zsh_193 rfl (q := 0) rfl (by omega) ?_
    refine zW_1 rfl ?_
    have hM : ∀ k, k ≠ 193 → zk (zk G2 193 (zp (G 193) 1 ((G 193 1 + 8 - 1) % 8))) 193 (zp (zk G2 193 (zp (G 193) 1 ((G 193 1 + 8 - 1) % 8)) 193) 0 (G 193 0 - 1)) k = G2 k := fun k hk => by rw [zk_ne hk, zk_ne hk]
    refine ⟨rfl, ⟨RX_fr hR2 (fun k a b => hM k (by omega)), fun k a b => ?_, ?_, ?_, ?_, fun j v hj hv => ?_⟩, rfl, rfl⟩
    · rw [hM k b]
      exact hcp.1 k (by omega)
    · rw [zk_eq, zp_eq]
    · omega
    · rw [zk_eq, zp_ne (by omega), zk_eq, zp_eq]
      omega
    · rw [zk_eq, zp_ne (by omega), zk_eq, zp_eq] at hv
      have hv2 : (v : Int) - 2 = (G 193 1 - ((j + 1 : Nat) : Int)) % 8 := by omega
      exact RX_fr (h4 (j + 1) v (by omega) hv2) (fun k a b => (hM k (by omega)).trans (hcp.1 k (by omega)))
  · intro h2
    refine zW_1 rfl ?_
    exact absurd h2 (by omega)
theorem RX_fog {G : GM} {w : Nat} {s : Int → Int} {i v : Int} (hi : 0 ≤ i ∧ i < 24) (hok : mOk s) (h : RX G w s) : RX (zk G (16 * w + 15) (zp (G (16 * w + 15)) i v)) w (zp s (6 + i) v) := by
  obtain ⟨a0, a1, -, -, a4, a5, -⟩ := hok
  obtain ⟨⟨c0, c1, c2, c3, c4, c5⟩, hf, hg, hl, hb, ht⟩ := h
  have es : ∀ j, j ≠ 6 + i → zp s (6 + i) v j = s j := fun j hj => zp_ne hj
  have ek : ∀ k, k ≠ 16 * w + 15 → zk G (16 * w + 15) (zp (G (16 * w + 15)) i v) k = G k := fun k hk => zk_ne hk
  refine ⟨⟨?_, ?_, ?_, ?_, ?_, ?_⟩, fun h h0 h1 => ?_, fun x' y' x0 x1 y0 y1 => ?_, fun l l0 l1 => ?_, fun l l0 l1 => ?_, fun q t0 t1 => ?_⟩
  · rw [ek _ (by omega), es 0 (by omega)]; exact c0
  · rw [ek _ (by omega), es 1 (by omega)]; exact c1
  · rw [ek _ (by omega), es 2 (by omega)]; exact c2
  · rw [ek _ (by omega), es 3 (by omega)]; exact c3
  · rw [ek _ (by omega), es 4 (by omega)]; exact c4
  · rw [ek _ (by omega), es 5 (by omega)]; exact c5
  · rw [zk_eq]
    by_cases e : h = i
    · rw [e, zp_eq, zp_eq]
    · rw [zp_ne e, zp_ne (by omega)]
      exact hf h h0 h1
  · rw [es 0 (by omega)] at x1
    rw [es 1 (by omega)] at y1
    rw [ek _ (by omega), es _ (by omega)]
    exact hg x' y' x0 x1 y0 y1
  · rw [es 4 (by omega)] at l1
    rw [ek _ (by omega), ek _ (by omega), ek _ (by omega), es _ (by omega), es _ (by omega), es _ (by omega), es _ (by omega)]
    exact hl l l0 l1
  · rw [ek _ (by omega), es 4 (by omega), es (174 + 5 * l + 3) (by omega)]
    exact hb l l0 l1
  · rw [es 5 (by omega)] at t1
    rw [ek _ (by omega), ek _ (by omega), ek _ (by omega), ek _ (by omega), ek _ (by omega), ek _ (by omega), es _ (by omega), es _ (by omega), es _ (by omega), es _ (by omega), es _ (by omega), es _ (by omega), es _ (by omega)]
    exact ht q t0 t1
theorem RX_nx {G : GM} {w : Nat} {s : Int → Int} {i v : Int} (hi : 0 ≤ i ∧ i < 8) (hok : mOk s) (h : RX G w s) : RX (zk G (16 * w + 6) (zp (G (16 * w + 6)) i v)) w (zp s (174 + 5 * i + 4) v) := by
  obtain ⟨a0, a1, -, -, a4, a5, -⟩ := hok
  obtain ⟨⟨c0, c1, c2, c3, c4, c5⟩, hf, hg, hl, hb, ht⟩ := h
  have es : ∀ j, j ≠ 174 + 5 * i + 4 → zp s (174 + 5 * i + 4) v j = s j := fun j hj => zp_ne hj
  have ek : ∀ k, k ≠ 16 * w + 6 → zk G (16 * w + 6) (zp (G (16 * w + 6)) i v) k = G k := fun k hk => zk_ne hk
  refine ⟨⟨?_, ?_, ?_, ?_, ?_, ?_⟩, fun h h0 h1 => ?_, fun x' y' x0 x1 y0 y1 => ?_, fun l l0 l1 => ?_, fun l l0 l1 => ?_, fun q t0 t1 => ?_⟩
  · rw [ek _ (by omega), es 0 (by omega)]; exact c0
  · rw [ek _ (by omega), es 1 (by omega)]; exact c1
  · rw [ek _ (by omega), es 2 (by omega)]; exact c2
  · rw [ek _ (by omega), es 3 (by omega)]; exact c3
  · rw [ek _ (by omega), es 4 (by omega)]; exact c4
  · rw [ek _ (by omega), es 5 (by omega)]; exact c5
  · rw [ek _ (by omega), es _ (by omega)]
    exact hf h h0 h1
  · rw [es 0 (by omega)] at x1
    rw [es 1 (by omega)] at y1
    rw [ek _ (by omega), es _ (by omega)]
    exact hg x' y' x0 x1 y0 y1
  · rw [es 4 (by omega)] at l1
    obtain ⟨q1, q2, q3⟩ := hl l l0 l1
    refine ⟨?_, ?_, ?_⟩
    · rw [ek _ (by omega), es _ (by omega), es _ (by omega)]
      exact q1
    · rw [ek _ (by omega), es _ (by omega)]
      exact q2
    · rw [zk_eq]
      by_cases e : l = i
      · rw [e, zp_eq, zp_eq]
      · rw [zp_ne e, zp_ne (by omega)]
        exact q3
  · rw [ek _ (by omega), es 4 (by omega), es (174 + 5 * l + 3) (by omega)]
    exact hb l l0 l1
  · rw [es 5 (by omega)] at t1
    rw [ek _ (by omega), ek _ (by omega), ek _ (by omega), ek _ (by omega), ek _ (by omega), ek _ (by omega), es _ (by omega), es _ (by omega), es _ (by omega), es _ (by omega), es _ (by omega), es _ (by omega), es _ (by omega)]
    exact ht q t0 t1
theorem RX_addL {G G' : GM} {w : Nat} {s : Int → Int} {x y b c : Int} (hok : mOk s) (h : RX G w s) (h8 : s 4 < 8) (hk : ∀ k, 16 * w ≤ k → k < 16 * w + 16 → k ≠ 16 * w + 3 → k ≠ 16 * w + 4 → k ≠ 16 * w + 5 → k ≠ 16 * w + 6 → G' k = G k) (k3 : G' (16 * w + 3) 0 = s 4 + 1)
    (k4 : G' (16 * w + 4) = zp (G (16 * w + 4)) (s 4) (12 * y + x)) (k5 : G' (16 * w + 5) = zp (G (16 * w + 5)) (s 4) b) (k6 : G' (16 * w + 6) = zp (G (16 * w + 6)) (s 4) (-1)) (kb : ∀ l, 0 ≤ l → l < 8 → (zhas (G' (16 * w + 3) 1) l ↔ zhas (G (16 * w + 3) 1) l ∨ (l = s 4 ∧ c = 1))) : RX G' w (sAddL s x y b c) := by
  obtain ⟨a0, a1, -, -, a4, a5, -⟩ := hok
  obtain ⟨⟨c0, c1, c2, c3, c4, c5⟩, hf, hg, hl, hb, ht⟩ := h
  have es : ∀ i, i ≠ 4 → (i < 174 + 5 * s 4 ∨ 174 + 5 * s 4 + 5 ≤ i) → sAddL s x y b c i = s i := fun i h1 h2 => by
    unfold sAddL
    rw [zp_ne h1, zp_ne (by omega), zp_ne (by omega), zp_ne (by omega), zp_ne (by omega), zp_ne (by omega)]
  have e4 : sAddL s x y b c 4 = s 4 + 1 := zp_eq _ _ _
  have f0 : sAddL s x y b c (174 + 5 * s 4 + 0) = x := by
    unfold sAddL
    rw [zp_ne (by omega), zp_ne (by omega), zp_ne (by omega), zp_ne (by omega), zp_ne (by omega), zp_eq]
  have f1 : sAddL s x y b c (174 + 5 * s 4 + 1) = y := by
    unfold sAddL
    rw [zp_ne (by omega), zp_ne (by omega), zp_ne (by omega), zp_ne (by omega), zp_eq]
  have f2 : sAddL s x y b c (174 + 5 * s 4 + 2) = b := by
    unfold sAddL
    rw [zp_ne (by omega), zp_ne (by omega), zp_ne (by omega), zp_eq]
  have f3 : sAddL s x y b c (174 + 5 * s 4 + 3) = c := by
    unfold sAddL
    rw [zp_ne (by omega), zp_ne (by omega), zp_eq]
  have f4 : sAddL s x y b c (174 + 5 * s 4 + 4) = -1 := by
    unfold sAddL
    rw [zp_ne (by omega), zp_eq]
  refine ⟨⟨?_, ?_, ?_, ?_, ?_, ?_⟩, fun h h0 h1 => ?_, fun x' y' x0 x1 y0 y1 => ?_, fun l l0 l1 => ?_, fun l l0 l1 => ?_, fun q t0 t1 => ?_⟩
  · rw [hk _ (by omega) (by omega) (by omega) (by omega) (by omega) (by omega), es 0 (by omega) (by omega)]; exact c0
  · rw [hk _ (by omega) (by omega) (by omega) (by omega) (by omega) (by omega), es 1 (by omega) (by omega)]; exact c1
  · rw [hk _ (by omega) (by omega) (by omega) (by omega) (by omega) (by omega), es 2 (by omega) (by omega)]; exact c2
  · rw [hk _ (by omega) (by omega) (by omega) (by omega) (by omega) (by omega), es 3 (by omega) (by omega)]; exact c3
  · rw [k3, e4]
  · rw [hk _ (by omega) (by omega) (by omega) (by omega) (by omega) (by omega), es 5 (by omega) (by omega)]; exact c5
  · rw [hk _ (by omega) (by omega) (by omega) (by omega) (by omega) (by omega), es _ (by omega) (by omega)]
    exact hf h h0 h1
  · rw [es 0 (by omega) (by omega)] at x1
    rw [es 1 (by omega) (by omega)] at y1
    rw [hk _ (by omega) (by omega) (by omega) (by omega) (by omega) (by omega), es _ (by omega) (by omega)]
    exact hg x' y' x0 x1 y0 y1
  · rw [e4] at l1
    rw [k4, k5, k6]
    by_cases e : l = s 4
    · rw [e, zp_eq, zp_eq, zp_eq, f0, f1, f2, f4]
      exact ⟨rfl, rfl, rfl⟩
    · rw [zp_ne e, zp_ne e, zp_ne e, es (174 + 5 * l + 1) (by omega) (by omega), es (174 + 5 * l + 0) (by omega) (by omega), es (174 + 5 * l + 2) (by omega) (by omega), es (174 + 5 * l + 4) (by omega) (by omega)]
      exact hl l l0 (by omega)
  · rw [kb l l0 l1, hb l l0 l1, e4]
    by_cases e : l = s 4
    · rw [e, f3]
      constructor
      · rintro (⟨q, -⟩ | ⟨-, q⟩)
        · omega
        · exact ⟨by omega, q⟩
      · rintro ⟨-, q⟩
        exact Or.inr ⟨rfl, q⟩
    · rw [es (174 + 5 * l + 3) (by omega) (by omega)]
      constructor
      · rintro (⟨q, q2⟩ | ⟨q, -⟩)
        · exact ⟨by omega, q2⟩
        · exact absurd q e
      · rintro ⟨q, q2⟩
        exact Or.inl ⟨by omega, q2⟩
  · rw [es 5 (by omega) (by omega)] at t1
    rw [hk _ (by omega) (by omega) (by omega) (by omega) (by omega) (by omega), hk _ (by omega) (by omega) (by omega) (by omega) (by omega) (by omega), hk _ (by omega) (by omega) (by omega) (by omega) (by omega) (by omega), hk _ (by omega) (by omega) (by omega) (by omega) (by omega) (by omega), hk _ (by omega) (by omega) (by omega) (by omega) (by omega) (by omega), hk _ (by omega) (by omega) (by omega) (by omega) (by omega) (by omega)]
    rw [es (214 + 7 * q + 1) (by omega) (by omega), es (214 + 7 * q + 0) (by omega) (by omega), es (214 + 7 * q + 2) (by omega) (by omega), es (214 + 7 * q + 6) (by omega) (by omega), es (214 + 7 * q + 3) (by omega) (by omega), es (214 + 7 * q + 4) (by omega) (by omega), es (214 + 7 * q + 5) (by omega) (by omega)]
    exact ht q t0 t1
theorem RX_addW {G G' : GM} {w : Nat} {s : Int → Int} {x y : Int} (hok : mOk s) (h : RX G w s) (h6 : s 5 < 6) (hk : ∀ k, 16 * w ≤ k → k < 16 * w + 16 → (k < 16 * w + 7 ∨ k = 16 * w + 15) → G' k = G k) (k7 : G' (16 * w + 7) 0 = s 5 + 1)
    (k8 : G' (16 * w + 8) = zp (G (16 * w + 8)) (s 5) (12 * y + x)) (k9 : G' (16 * w + 9) = zp (G (16 * w + 9)) (s 5) 0) (k10 : G' (16 * w + 10) = zp (G (16 * w + 10)) (s 5) 0) (k11 : G' (16 * w + 11) = zp (G (16 * w + 11)) (s 5) (-1)) (k12 : G' (16 * w + 12) = zp (G (16 * w + 12)) (s 5) 0) (k13 : G' (16 * w + 13) = zp (G (16 * w + 13)) (s 5) 0) : RX G' w (sAddW s x y) := by
  obtain ⟨a0, a1, -, -, a4, a5, -⟩ := hok
  obtain ⟨⟨c0, c1, c2, c3, c4, c5⟩, hf, hg, hl, hb, ht⟩ := h
  have es : ∀ i, i ≠ 5 → (i < 214 + 7 * s 5 ∨ 214 + 7 * s 5 + 7 ≤ i) → sAddW s x y i = s i := fun i h1 h2 => by
    unfold sAddW
    rw [if_neg h1, if_neg (by omega), if_neg (by omega), if_neg (by omega), if_neg (by omega)]
  have e5 : sAddW s x y 5 = s 5 + 1 := if_pos rfl
  have f0 : sAddW s x y (214 + 7 * s 5 + 0) = x := by
    unfold sAddW
    rw [if_neg (by omega), if_neg (by omega), if_neg (by omega), if_pos rfl]
  have f1 : sAddW s x y (214 + 7 * s 5 + 1) = y := by
    unfold sAddW
    rw [if_neg (by omega), if_neg (by omega), if_pos rfl]
  have f3 : sAddW s x y (214 + 7 * s 5 + 3) = -1 := by
    unfold sAddW
    rw [if_neg (by omega), if_pos rfl]
  have fz : ∀ f, (f = 2 ∨ f = 4 ∨ f = 5 ∨ f = 6) → sAddW s x y (214 + 7 * s 5 + f) = 0 := fun f hf => by
    unfold sAddW
    rw [if_neg (by omega), if_neg (by omega), if_neg (by omega), if_neg (by omega), if_pos (by omega)]
  refine ⟨⟨?_, ?_, ?_, ?_, ?_, ?_⟩, fun h h0 h1 => ?_, fun x' y' x0 x1 y0 y1 => ?_, fun l l0 l1 => ?_, fun l l0 l1 => ?_, fun q t0 t1 => ?_⟩
  · rw [hk _ (by omega) (by omega) (by omega), es 0 (by omega) (by omega)]; exact c0
  · rw [hk _ (by omega) (by omega) (by omega), es 1 (by omega) (by omega)]; exact c1
  · rw [hk _ (by omega) (by omega) (by omega), es 2 (by omega) (by omega)]; exact c2
  · rw [hk _ (by omega) (by omega) (by omega), es 3 (by omega) (by omega)]; exact c3
  · rw [hk _ (by omega) (by omega) (by omega), es 4 (by omega) (by omega)]; exact c4
  · rw [k7, e5]
  · rw [hk _ (by omega) (by omega) (by omega), es _ (by omega) (by omega)]
    exact hf h h0 h1
  · rw [es 0 (by omega) (by omega)] at x1
    rw [es 1 (by omega) (by omega)] at y1
    rw [hk _ (by omega) (by omega) (by omega), es _ (by omega) (by omega)]
    exact hg x' y' x0 x1 y0 y1
  · rw [es 4 (by omega) (by omega)] at l1
    rw [hk (16 * w + 4) (by omega) (by omega) (by omega), hk (16 * w + 5) (by omega) (by omega) (by omega), hk (16 * w + 6) (by omega) (by omega) (by omega), es _ (by omega) (by omega), es _ (by omega) (by omega), es _ (by omega) (by omega), es _ (by omega) (by omega)]
    exact hl l l0 l1
  · rw [hk _ (by omega) (by omega) (by omega), es 4 (by omega) (by omega), es (174 + 5 * l + 3) (by omega) (by omega)]
    exact hb l l0 l1
  · rw [e5] at t1
    rw [k8, k9, k10, k11, k12, k13]
    by_cases e : q = s 5
    · rw [e, zp_eq, zp_eq, zp_eq, zp_eq, zp_eq, zp_eq, f0, f1, f3, fz 2 (by omega), fz 4 (by omega), fz 5 (by omega), fz 6 (by omega)]
      exact ⟨rfl, rfl, rfl, rfl, rfl, rfl⟩
    · rw [zp_ne e, zp_ne e, zp_ne e, zp_ne e, zp_ne e, zp_ne e]
      rw [es (214 + 7 * q + 1) (by omega) (by omega), es (214 + 7 * q + 0) (by omega) (by omega), es (214 + 7 * q + 2) (by omega) (by omega), es (214 + 7 * q + 6) (by omega) (by omega), es (214 + 7 * q + 3) (by omega) (by omega), es (214 + 7 * q + 4) (by omega) (by omega), es (214 + 7 * q + 5) (by omega) (by omega)]
      exact ht q t0 (by omega)
