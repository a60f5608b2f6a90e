/-! Program and model together: undo, saving. -/
section PT
variable {T : Int → Int} {n : Int} {x : zTx}
/-- no time is set -/
def pT3 (x : zTx) : Prop := x.2.2.2 3 = 0 ∧ 0 ≤ x.2.2.2 4 ∧ 0 ≤ x.2.2.2 5
theorem pT_d {y : zTx} (h : pT3 x) (e : y.2.2.2 = x.2.2.2) : pT3 y := by
  unfold pT3
  rw [e]
  exact h
theorem pT_tk {c : Prop} [Decidable c] (h : pT3 x) : pT3 (pTk T n x c) := pT_d h (pTk_D c)
theorem pT_nx (h : pT3 x) : pT3 (pNx T n x) := h
theorem pT_ns (h : pT3 x) {lo hi : Int} : pT3 (pNs T n x lo hi) := pT_tk h
theorem pNv_ge {lo hi : Int} : lo ≤ pNv T n x lo hi := by
  unfold pNv
  split
  · rename_i h
    exact h.2.2.1
  · exact Int.le_refl _
theorem pT_st {D : Int → Int} (h : D 3 = 0 ∧ 0 ≤ D 4 ∧ 0 ≤ D 5) : pT3 (pSt x D) := h
theorem pT_zp {D : Int → Int} {i v : Int} (h : D 3 = 0 ∧ 0 ≤ D 4 ∧ 0 ≤ D 5) (hi : i ≠ 3 ∧ i ≠ 4 ∧ i ≠ 5) : zp D i v 3 = 0 ∧ 0 ≤ zp D i v 4 ∧ 0 ≤ zp D i v 5 := by
  rw [zp_ne (by omega), zp_ne (by omega), zp_ne (by omega)]
  exact h
theorem pT_loop {v : Int} {f : zTx → zTx} (hf : ∀ z, pT3 z → pT3 (f z)) : ∀ (k : Nat) (x : zTx), pT3 x → pT3 (pLoop T n v f k x) := by
  intro k
  induction k with
  | zero => intro x h; exact h
  | succ k ih =>
    intro x h
    unfold pLoop
    split
    · exact ih _ (hf _ h)
    · exact h
theorem pT_r3 (h : pT3 x) : pT3 (pR3 T n x) := pT_tk (pT_tk h)
theorem pT_row {y : Int} (hy : 0 ≤ y) (h : pT3 x) : pT3 (pRow T n y x) := by
  unfold pRow
  split
  · exact pT_tk h
  · unfold pR1
    have h1 : pT3 (pTk T n x (pIs T n x 13550)) := pT_tk h
    split
    · refine pT_r3 (pT_st ?_)
      unfold pRowD
      rw [if_neg (by omega), if_neg (by omega), if_neg (by omega)]
      exact h1
    · exact pT_r3 h1
theorem pT_rows (h : pT3 x) : ∀ k : Nat, pT3 (pRows T n k x) := by
  intro k
  induction k with
  | zero => exact h
  | succ k ih => exact pT_row (by omega) ih
theorem pT_fog (h : pT3 x) : pT3 (pFog T n x) := by
  unfold pFog pF3
  have h1 : pT3 (pNs T n (pNs T n (pNx T n x) 0 23) 0 9) := pT_ns (pT_ns (pT_nx h))
  have := pNv_ge (T := T) (n := n) (x := pNx T n x) (lo := 0) (hi := 23)
  split
  · exact pT_st (pT_zp h1 (by omega))
  · exact pT_tk h1
theorem pT_addL {s : Int → Int} {u v b i : Int} (h : s 3 = 0 ∧ 0 ≤ s 4 ∧ 0 ≤ s 5) : sAddL s u v b i 3 = 0 ∧ sAddL s u v b i 4 = s 4 + 1 ∧ 0 ≤ sAddL s u v b i 5 := by
  unfold sAddL
  refine ⟨?_, zp_eq _ _ _, ?_⟩
  · rw [zp_ne (by decide), zp_ne (by omega), zp_ne (by omega), zp_ne (by omega), zp_ne (by omega), zp_ne (by omega)]
    exact h.1
  · rw [zp_ne (by decide), zp_ne (by omega), zp_ne (by omega), zp_ne (by omega), zp_ne (by omega), zp_ne (by omega)]
    exact h.2.2
theorem pT_addW {s : Int → Int} {u v : Int} (h : s 3 = 0 ∧ 0 ≤ s 4 ∧ 0 ≤ s 5) : sAddW s u v 3 = 0 ∧ 0 ≤ sAddW s u v 4 ∧ 0 ≤ sAddW s u v 5 := by
  unfold sAddW
  refine ⟨?_, ?_, ?_⟩
  · rw [if_neg (by omega), if_neg (by omega), if_neg (by omega), if_neg (by omega), if_neg (by omega)]
    exact h.1
  · rw [if_neg (by omega), if_neg (by omega), if_neg (by omega), if_neg (by omega), if_neg (by omega)]
    exact h.2.1
  · rw [if_pos rfl]
    omega
theorem pT_8 {u v b i f : Int} (h : pT3 x) : pT3 (pL8 T n x u v b i f) := by
  unfold pL8
  split
  · obtain ⟨a1, a2, a3⟩ := pT_addL (u := u) (v := v) (b := b) (i := i) h
    have h4 : 0 ≤ x.2.2.2 4 := h.2.1
    exact pT_st (pT_zp ⟨a1, by omega, a3⟩ (by omega))
  · exact pT_tk h
theorem pT_6 {u v b i : Int} (h : pT3 x) : pT3 (pL6 T n x u v b i) := by
  unfold pL6
  split
  · exact pT_8 (pT_ns (pT_nx (pT_tk h)))
  · exact pT_8 (pT_tk h)
theorem pT_3 {u : Int} (h : pT3 x) : pT3 (pL3 T n x u) := by
  unfold pL3
  split
  · exact pT_6 (pT_ns (pT_tk h))
  · exact pT_tk h
theorem pT_light (h : pT3 x) : pT3 (pLight T n x) := by
  unfold pLight
  split
  · exact pT_3 (pT_ns (pT_tk h))
  · exact pT_tk h
theorem pT_w4 {u v : Int} (h : pT3 x) : pT3 (pW4 T n x u v) := by
  unfold pW4
  split
  · exact pT_st (pT_addW h)
  · exact pT_tk h
theorem pT_w3 {u : Int} (h : pT3 x) : pT3 (pW3 T n x u) := by
  unfold pW3
  split
  · exact pT_w4 (pT_tk h)
  · exact pT_tk h
theorem pT_walker (h : pT3 x) : pT3 (pWalker T n x) := by
  unfold pWalker
  split
  · exact pT_w3 (pT_ns (pT_tk h))
  · exact pT_tk h
theorem pT_h1 (h : pT3 x) : pT3 (pH1 T n x) := pT_st (pT_zp h (by decide))
theorem pT_h2 (h : pT3 x) : pT3 (pH2 T n x) := pT_st (pT_zp h (by decide))
theorem pT_h3 (h : pT3 x) : pT3 (pH3 T n x) := pT_st (pT_zp h (by decide))
theorem pT_head (h : pT3 x) : pT3 (pHead T n x) := pT_tk (pT_h3 (pT_tk (pT_h2 (pT_h1 (pT_tk h)))))
theorem pT_text (h : pT3 x) : pT3 (pText T n x) := by
  rw [pText_eq]
  unfold pFin
  split
  · exact pT_tk (pT_loop (fun _ => pT_walker) 802 _ (pT_loop (fun _ => pT_light) 802 _ (pT_loop (fun _ => pT_fog) 802 _ (pT_rows (pT_head h) _))))
  · exact pT_loop (fun _ => pT_walker) 802 _ (pT_loop (fun _ => pT_light) 802 _ (pT_loop (fun _ => pT_fog) 802 _ (pT_rows (pT_head h) _)))
end PT
theorem XH_fr2 {G G' : GM} {u : Int} {h : Nat → Int → Int} (hX : XH G u h) (e : ∀ k, 32 ≤ k → (k < 160 ∨ k = 193) → G' k = G k) : XH G' u h := by
  obtain ⟨h1, h2, h3, h4⟩ := hX
  unfold XH
  rw [e 193 (by omega) (by omega)]
  exact ⟨h1, h2, h3, fun j w hj hw => RX_fr (h4 j w hj hw) (fun k a b => e k (by omega) (by omega))⟩
section JJ
variable {G G1 G2 Gm : GM} {c : Int}
/-- undo -/
theorem JI_un (h : JI G) (hu : 0 < G 230 6) (hx : xUn G G1 (xHi G)) (m : zMk G1 Gm 0) (hg : G2 = zk (zk Gm 230 (zp (Gm 230) 6 (G1 230 6 - 1))) 231 (zlr (G1 234) (G1 231) (256 * (G1 230 6 - 1)) 0 256)) : JI G2 := by
  obtain ⟨⟨h1, h2, h3, h4, h5, h6, h7⟩, ⟨⟨o1, o2⟩, ⟨o3, o4⟩, o5, o6, o7, o8⟩⟩ := h
  obtain ⟨x1, x2, x3⟩ := hx
  have e1 : ∀ k, 194 ≤ k → G1 k = G k := fun k hk => x2 k (by omega) (by omega)
  rw [e1 230 (by omega), e1 234 (by omega), e1 231 (by omega)] at hg
  have em : ∀ k, k ≠ 230 → k ≠ 231 → k ≠ 233 → k ≠ 238 → k ≠ 239 → G2 k = G1 k := fun k a b c d e => by rw [hg, zk_ne b, zk_ne a, m.1 k a c d e]
  have g230 : G2 230 = zp (Gm 230) 6 (G 230 6 - 1) := by rw [hg, zk_ne (by decide), zk_eq]
  have g6 : G2 230 6 = G 230 6 - 1 := by rw [g230, zp_eq]
  have ej : ∀ j, j ≠ 6 → j ≠ 10 → j ≠ 13 → j ≠ 14 → G2 230 j = G 230 j := fun j a b c d => by rw [g230, zp_ne a, m.2.1 j b c d, e1 230 (by omega)]
  have ek : ∀ k, 194 ≤ k → k ≠ 230 → k ≠ 231 → k ≠ 233 → k ≠ 238 → k ≠ 239 → G2 k = G k := fun k z a b c d e => (em k a b c d e).trans (e1 k z)
  have g231 : zEq (xHi G 0) (G2 231) := fun i i0 i1 => by
    rw [hg, zk_eq, zlr_in (by omega)]
    show G 234 (256 * (G 230 6 - 1) + (i - 0)) = G 234 (256 * (G 230 6 - 1 - ((0 : Nat) : Int)) + i)
    congr 1
    omega
  have hh : ∀ j : Nat, xHi G2 j = xHi G (j + 1) := fun j => by
    unfold xHi
    rw [g6, ek 234 (by decide) (by decide) (by decide) (by decide) (by decide) (by decide)]
    funext i
    congr 1
    omega
  have hk : mOk (xHi G 0) ∧ xHi G 0 3 ≤ 9999 := o4 0 (by omega)
  have e235 := ek 235 (by decide) (by decide) (by decide) (by decide) (by decide) (by decide)
  have e236 := ek 236 (by decide) (by decide) (by decide) (by decide) (by decide) (by decide)
  have e237 := ek 237 (by decide) (by decide) (by decide) (by decide) (by decide) (by decide)
  have e240 := ek 240 (by decide) (by decide) (by decide) (by decide) (by decide) (by decide)
  have f8 := ej 8 (by decide) (by decide) (by decide) (by decide)
  have f9 := ej 9 (by decide) (by decide) (by decide) (by decide)
  have f22 := ej 22 (by decide) (by decide) (by decide) (by decide)
  have g : ∀ k, 16 ≤ k → k < 229 → k ≠ 193 → G2 k = G k := fun k a b c => (em k (by omega) (by omega) (by omega) (by omega) (by omega)).trans (x2 k a c)
  have gl : ∀ k, k < 229 → G2 k = G1 k := fun k a => em k (by omega) (by omega) (by omega) (by omega) (by omega)
  refine ⟨⟨?_, ?_, fun c c0 c1 => ?_, ?_, ?_, ?_, ?_⟩, ⟨⟨?_, ?_⟩, ⟨by omega, fun j hj => ?_⟩, fun c c0 c1 => ?_, ?_, ?_, ?_⟩⟩
  · exact RX_fr (RX_eq hk.1 x1 g231) (fun k a b => gl k (by omega))
  · have q := XH_fr x3 (fun k a b => gl k (by omega)) (G' := G2)
    rw [h2.1, ← g6] at q
    exact XH_eq q (fun j hj => ⟨(o4 (j + 1) (by omega)).1, by rw [hh j]; exact fun _ _ _ => rfl⟩)
  · rw [g 196 (by omega) (by omega) (by omega), e236]
    refine ⟨(h3 c c0 c1).1, fun hk w hw => ?_⟩
    have q := (h3 c c0 c1).2 hk w hw
    unfold xSn at q ⊢
    rw [e235]
    exact RX_fr q (fun k a b => g k (by omega) (by omega) (by omega))
  · rw [e237, f8]
    unfold xBu at h4 ⊢
    rw [g 197 (by omega) (by omega) (by omega), g 198 (by omega) (by omega) (by omega)]
    exact h4
  · rw [g 192 (by omega) (by omega) (by omega), f9]
    exact h5
  · rw [g 192 (by omega) (by omega) (by omega), f22]
    exact h6
  · rw [g 228 (by omega) (by omega) (by omega), f22, e240]
    exact h7
  · exact mOk_eq g231 hk.1
  · rw [g231 3 (by decide) (by decide)]
    exact hk.2
  · rw [hh j]
    exact o4 (j + 1) (by omega)
  · have q := o5 c c0 c1
    unfold xSn at q ⊢
    rw [e236, e235]
    exact q
  · unfold zBa at o6 ⊢
    rw [f8, e237]
    exact o6
  · rw [f9]
    exact o7
  · rw [f22]
    exact o8
/-- save -/
theorem JI_sv (h : JI G) (hc : 0 ≤ c ∧ c ≤ 1) (hx : xSv c (G 231) G G1) (m : zMk G1 Gm 0) (hg : G2 = zk (zk Gm 235 (zlr (G1 231) (G1 235) 0 (256 * c) 256)) 236 (zp (G1 236) c 1)) : JI G2 := by
  obtain ⟨⟨h1, h2, h3, h4, h5, h6, h7⟩, ⟨⟨o1, o2⟩, ⟨o3, o4⟩, o5, o6, o7, o8⟩⟩ := h
  obtain ⟨x1, x2, x3⟩ := hx
  have e1 : ∀ k, 197 ≤ k → G1 k = G k := fun k hk => x1 k (by omega) (by omega)
  rw [e1 231 (by omega), e1 235 (by omega), e1 236 (by omega)] at hg
  have em : ∀ k, k ≠ 230 → k ≠ 235 → k ≠ 236 → k ≠ 233 → k ≠ 238 → k ≠ 239 → G2 k = G1 k := fun k a b b2 c d e => by rw [hg, zk_ne b2, zk_ne b, m.1 k a c d e]
  have ej : ∀ j, j ≠ 10 → j ≠ 13 → j ≠ 14 → G2 230 j = G 230 j := fun j b c d => by rw [hg, zk_ne (by decide), zk_ne (by decide), m.2.1 j b c d, e1 230 (by omega)]
  have e231 : G2 231 = G 231 := (em 231 (by decide) (by decide) (by decide) (by decide) (by decide) (by decide)).trans (e1 231 (by omega))
  have e234 : G2 234 = G 234 := (em 234 (by decide) (by decide) (by decide) (by decide) (by decide) (by decide)).trans (e1 234 (by omega))
  have e237 : G2 237 = G 237 := (em 237 (by decide) (by decide) (by decide) (by decide) (by decide) (by decide)).trans (e1 237 (by omega))
  have e240 : G2 240 = G 240 := (em 240 (by decide) (by decide) (by decide) (by decide) (by decide) (by decide)).trans (e1 240 (by omega))
  have e236 : G2 236 = zp (G 236) c 1 := by rw [hg, zk_eq]
  have e235 : G2 235 = zlr (G 231) (G 235) 0 (256 * c) 256 := by rw [hg, zk_ne (by decide), zk_eq]
  have f6 := ej 6 (by decide) (by decide) (by decide)
  have f8 := ej 8 (by decide) (by decide) (by decide)
  have f9 := ej 9 (by decide) (by decide) (by decide)
  have f22 := ej 22 (by decide) (by decide) (by decide)
  have gl : ∀ k, k < 229 → G2 k = G1 k := fun k a => em k (by omega) (by omega) (by omega) (by omega) (by omega) (by omega)
  have g : ∀ k, (k < 160 ∨ 192 ≤ k) → k ≠ 196 → k < 229 → G2 k = G k := fun k a b d => (gl k d).trans (x1 k a b)
  have s1 : zEq (G 231) (xSn G2 c) := fun i i0 i1 => by
    unfold xSn
    rw [e235, zlr_in (by omega)]
    congr 1
    omega
  have s2 : ∀ b, 0 ≤ b → b ≤ 1 → b ≠ c → zEq (xSn G b) (xSn G2 b) := fun b b0 b1 hb i i0 i1 => by
    unfold xSn
    rw [e235, zlr_out (by omega)]
  refine ⟨⟨?_, ?_, fun b b0 b1 => ?_, ?_, ?_, ?_, ?_⟩, ⟨⟨?_, ?_⟩, ⟨by omega, fun j hj => ?_⟩, fun b b0 b1 => ?_, ?_, ?_, ?_⟩⟩
  · rw [e231]
    exact RX_fr h1 (fun k a b => g k (by omega) (by omega) (by omega))
  · have q := XH_fr2 h2 (fun k a b => g k (by omega) (by omega) (by omega)) (G' := G2)
    unfold xHi at q ⊢
    rw [f6, e234]
    exact q
  · rw [gl 196 (by omega), x2, e236]
    by_cases hb : b = c
    · subst hb
      rw [zp_eq, zp_eq]
      exact ⟨rfl, fun _ w hw => RX_fr (RX_eq o1 ((x3 w (by omega) (by omega)).1 hw) s1) (fun k a b => gl k (by omega))⟩
    · rw [zp_ne hb, zp_ne hb]
      refine ⟨(h3 b b0 b1).1, fun hk w hw => ?_⟩
      have q := (h3 b b0 b1).2 hk w hw
      exact RX_fr (RX_eq ((o5 b b0 b1).2 hk).1 q (s2 b b0 b1 hb)) (fun k a b => (gl k (by omega)).trans ((x3 w (by omega) (by omega)).2 (by omega) k a b))
  · rw [e237, f8]
    unfold xBu at h4 ⊢
    rw [g 197 (by omega) (by omega) (by omega), g 198 (by omega) (by omega) (by omega)]
    exact h4
  · rw [g 192 (by omega) (by omega) (by omega), f9]
    exact h5
  · rw [g 192 (by omega) (by omega) (by omega), f22]
    exact h6
  · rw [g 228 (by omega) (by omega) (by omega), f22, e240]
    exact h7
  · rw [e231]
    exact o1
  · rw [e231]
    exact o2
  · unfold xHi at o4 ⊢
    rw [f6, e234]
    exact o4 j (by omega)
  · rw [e236]
    by_cases hb : b = c
    · subst hb
      rw [zp_eq]
      exact ⟨Or.inr rfl, fun _ => ⟨mOk_eq s1 o1, by rw [s1 3 (by decide) (by decide)]; exact o2⟩⟩
    · rw [zp_ne hb]
      refine ⟨(o5 b b0 b1).1, fun hk => ?_⟩
      obtain ⟨q1, q2⟩ := (o5 b b0 b1).2 hk
      exact ⟨mOk_eq (s2 b b0 b1 hb) q1, by rw [s2 b b0 b1 hb 3 (by decide) (by decide)]; exact q2⟩
  · unfold zBa at o6 ⊢
    rw [f8, e237]
    exact o6
  · rw [f9]
    exact o7
  · rw [f22]
    exact o8
end JJ
