/-! The reference model: lights and travellers are read (printed by wip/whole/src30.py). -/
section GE
variable {T : Int → Int} {n : Int} {x : zTx}
theorem pTk_ge (c : Prop) [Decidable c] (h : x.1 ≤ n) : x.1 ≤ (pTk T n x c).1 ∧ (pTk T n x c).1 ≤ n := by
  have hb := tB_rng (T := T) h
  have he := tE_rng (T := T) h
  unfold pTk
  split
  · exact ⟨Int.le_refl _, h⟩
  · split
    · exact ⟨by show x.1 ≤ tE T n x.1; omega, by show tE T n x.1 ≤ n; omega⟩
    · exact ⟨Int.le_refl _, h⟩
theorem pNx_ge (h : x.1 ≤ n) : x.1 ≤ (pNx T n x).1 ∧ (pNx T n x).1 ≤ n := by
  have hb := tB_rng (T := T) h
  have he := tE_rng (T := T) h
  exact ⟨by show x.1 ≤ tE T n x.1; omega, by show tE T n x.1 ≤ n; omega⟩
theorem pL8_ge {u v b i f : Int} (h : x.1 ≤ n) : x.1 ≤ (pL8 T n x u v b i f).1 ∧ (pL8 T n x u v b i f).1 ≤ n := by
  unfold pL8
  split
  · exact pTk_ge _ h
  · exact pTk_ge _ h
theorem pL6_ge {u v b i : Int} (h : x.1 ≤ n) : x.1 ≤ (pL6 T n x u v b i).1 ∧ (pL6 T n x u v b i).1 ≤ n := by
  have h1 := pTk_ge (T := T) (pIs T n x 407354 ∨ pIs T n x 3217595) h
  unfold pL6
  split
  · have h2 := pNx_ge (T := T) h1.2
    have h3 := pTk_ge (T := T) (pNc T n (pNx T n (pTk T n x (pIs T n x 407354 ∨ pIs T n x 3217595))) 0 (x.2.2.2 4 - 1)) h2.2
    have h4 := pL8_ge (T := T) (n := n) (x := pNs T n (pNx T n (pTk T n x (pIs T n x 407354 ∨ pIs T n x 3217595))) 0 (x.2.2.2 4 - 1)) (u := u) (v := v) (b := b) (i := i) (f := pNv T n (pNx T n (pTk T n x (pIs T n x 407354 ∨ pIs T n x 3217595))) 0 (x.2.2.2 4 - 1)) h3.2
    have h3' : (pNx T n (pTk T n x (pIs T n x 407354 ∨ pIs T n x 3217595))).1 ≤ (pNs T n (pNx T n (pTk T n x (pIs T n x 407354 ∨ pIs T n x 3217595))) 0 (x.2.2.2 4 - 1)).1 := h3.1
    exact ⟨by omega, h4.2⟩
  · have h4 := pL8_ge (T := T) (u := u) (v := v) (b := b) (i := i) (f := -1) h1.2
    exact ⟨by omega, h4.2⟩
theorem pL3_ge {u : Int} (h : x.1 ≤ n) : x.1 ≤ (pL3 T n x u).1 ∧ (pL3 T n x u).1 ≤ n := by
  have h1 := pTk_ge (T := T) (pLc T n x u) h
  unfold pL3
  split
  · have h2 := pTk_ge (T := T) (pNc T n (pTk T n x (pLc T n x u)) 0 9) h1.2
    have h3 := pL6_ge (T := T) (n := n) (x := pNs T n (pTk T n x (pLc T n x u)) 0 9) (u := u) (v := tV T n x.1) (b := pNv T n (pTk T n x (pLc T n x u)) 0 9) (i := zb (pIs T n (pNs T n (pTk T n x (pLc T n x u)) 0 9) 407354)) h2.2
    have h2' : (pTk T n x (pLc T n x u)).1 ≤ (pNs T n (pTk T n x (pLc T n x u)) 0 9).1 := h2.1
    exact ⟨by show x.1 ≤ (pL6 T n (pNs T n (pTk T n x (pLc T n x u)) 0 9) u (tV T n x.1) _ _).1; omega, h3.2⟩
  · exact h1
theorem pW3_ge {u : Int} (h : x.1 ≤ n) : x.1 ≤ (pW3 T n x u).1 ∧ (pW3 T n x u).1 ≤ n := by
  have h1 := pTk_ge (T := T) (pWc T n x u) h
  unfold pW3
  split
  · unfold pW4
    split
    · have h2 := pTk_ge (T := T) (tK T n (pTk T n x (pWc T n x u)).1 = 3) h1.2
      exact ⟨by show x.1 ≤ (pTk T n (pTk T n x (pWc T n x u)) _).1; omega, h2.2⟩
    · have h2 := pTk_ge (T := T) (tK T n (pTk T n x (pWc T n x u)).1 = 3) h1.2
      exact ⟨by omega, h2.2⟩
  · exact h1
/-- a word stands there: what comes behind it lies further on -/
theorem tE_gt (h : x.1 ≤ n) (hk : tK T n x.1 ≠ 0) : x.1 + 1 ≤ tE T n x.1 := by
  have hb := tB_rng (T := T) h
  have he := tE_rng (T := T) h
  have : tB T n x.1 ≠ n := fun e => hk (if_pos e)
  omega
theorem pFog_gt (h : x.1 ≤ n) (hk : tK T n x.1 ≠ 0) : x.1 + 1 ≤ (pFog T n x).1 := by
  have h0 := tE_gt h hk
  have h1 := pNx_ge (T := T) h
  have h1' : tE T n x.1 = (pNx T n x).1 := rfl
  have h2 := pTk_ge (T := T) (pNc T n (pNx T n x) 0 23) h1.2
  have h3 := pTk_ge (T := T) (pNc T n (pTk T n (pNx T n x) (pNc T n (pNx T n x) 0 23)) 0 9) h2.2
  have h4 := pTk_ge (T := T) (tK T n (pTk T n (pTk T n (pNx T n x) (pNc T n (pNx T n x) 0 23)) (pNc T n (pTk T n (pNx T n x) (pNc T n (pNx T n x) 0 23)) 0 9)).1 = 3) h3.2
  unfold pFog pF3 pNs
  split
  · show x.1 + 1 ≤ (pTk T n (pTk T n (pTk T n (pNx T n x) (pNc T n (pNx T n x) 0 23)) (pNc T n (pTk T n (pNx T n x) (pNc T n (pNx T n x) 0 23)) 0 9)) _).1
    omega
  · omega
theorem pLight_gt (h : x.1 ≤ n) (hk : tK T n x.1 ≠ 0) (hw : x.2.1 = 0) : x.1 + 1 ≤ (pLight T n x).1 ∨ (x.1 ≤ (pLight T n x).1 ∧ (pLight T n x).2.1 = 1) := by
  have h0 := tE_gt h hk
  unfold pLight
  split
  · rename_i hc
    left
    have h1 := pTk_ge (T := T) (x.2.2.2 4 < 8) h
    have e1 : (pTk T n x (x.2.2.2 4 < 8)).1 = tE T n x.1 := by
      unfold pTk
      rw [if_neg (fun q => q hw), if_pos hc.2]
    have h2 := pTk_ge (T := T) (pNc T n (pTk T n x (x.2.2.2 4 < 8)) 0 ((pTk T n x (x.2.2.2 4 < 8)).2.2.2 0 - 1)) h1.2
    have h3 := pL3_ge (T := T) (u := pNv T n (pTk T n x (x.2.2.2 4 < 8)) 0 ((pTk T n x (x.2.2.2 4 < 8)).2.2.2 0 - 1)) h2.2
    show x.1 + 1 ≤ (pL3 T n (pTk T n (pTk T n x (x.2.2.2 4 < 8)) _) _).1
    omega
  · rename_i hc
    right
    have hc' : ¬ x.2.2.2 4 < 8 := fun q => hc ⟨hw, q⟩
    unfold pTk
    rw [if_neg (fun q => q hw), if_neg hc']
    exact ⟨Int.le_refl _, rfl⟩
theorem pWalker_gt (h : x.1 ≤ n) (hk : tK T n x.1 ≠ 0) (hw : x.2.1 = 0) : x.1 + 1 ≤ (pWalker T n x).1 ∨ (x.1 ≤ (pWalker T n x).1 ∧ (pWalker T n x).2.1 = 1) := by
  have h0 := tE_gt h hk
  unfold pWalker
  split
  · rename_i hc
    left
    have h1 := pTk_ge (T := T) (x.2.2.2 5 < 6) h
    have e1 : (pTk T n x (x.2.2.2 5 < 6)).1 = tE T n x.1 := by
      unfold pTk
      rw [if_neg (fun q => q hw), if_pos hc.2]
    have h2 := pTk_ge (T := T) (pNc T n (pTk T n x (x.2.2.2 5 < 6)) 0 ((pTk T n x (x.2.2.2 5 < 6)).2.2.2 0 - 1)) h1.2
    have h3 := pW3_ge (T := T) (u := pNv T n (pTk T n x (x.2.2.2 5 < 6)) 0 ((pTk T n x (x.2.2.2 5 < 6)).2.2.2 0 - 1)) h2.2
    show x.1 + 1 ≤ (pW3 T n (pTk T n (pTk T n x (x.2.2.2 5 < 6)) _) _).1
    omega
  · rename_i hc
    right
    have hc' : ¬ x.2.2.2 5 < 6 := fun q => hc ⟨hw, q⟩
    unfold pTk
    rw [if_neg (fun q => q hw), if_neg hc']
    exact ⟨Int.le_refl _, rfl⟩
/-! what the draft keeps -/
theorem pRow_D {y j : Int} (hy : 0 ≤ y) (hj : j < 30) : (pRow T n y x).2.2.2 j = x.2.2.2 j := by
  have e3 : ∀ z : zTx, (pR3 T n z).2.2.2 = z.2.2.2 := fun z => by
    unfold pR3
    rw [pTk_D, pTk_D]
  unfold pRow
  split
  · rw [pTk_D]
  · unfold pR1
    split
    · rw [e3]
      show pRowD T (pTk T n x (pIs T n x 13550)).2.2.2 _ y _ j = _
      rw [pRowD_o _ _ _ _ hy hj, pTk_D]
    · rw [e3, pTk_D]
theorem pRows_D (k : Nat) {j : Int} (hj : j < 30) : (pRows T n k x).2.2.2 j = x.2.2.2 j := by
  induction k with
  | zero => rfl
  | succ k ih =>
    show (pRow T n k (pRows T n k x)).2.2.2 j = _
    rw [pRow_D (by omega) hj, ih]
theorem pD_of {D D' : Int → Int} (h : pD D) (e0 : D' 0 = D 0) (e1 : D' 1 = D 1) (e4 : D' 4 = D 4) (e5 : D' 5 = D 5) : pD D' := by
  unfold pD
  rw [e0, e1, e4, e5]
  exact h
theorem pFog_D (h : pD x.2.2.2) : pD (pFog T n x).2.2.2 := by
  have hv := pNv_rng (T := T) (n := n) (x := pNx T n x) (lo := 0) (hi := 23) (by omega)
  have e : (pNs T n (pNs T n (pNx T n x) 0 23) 0 9).2.2.2 = x.2.2.2 := by
    unfold pNs
    rw [pTk_D, pTk_D]
    rfl
  unfold pFog pF3
  split
  · show pD (zp (pNs T n (pNs T n (pNx T n x) 0 23) 0 9).2.2.2 _ _)
    rw [e]
    exact pD_of h (zp_ne (by omega)) (zp_ne (by omega)) (zp_ne (by omega)) (zp_ne (by omega))
  · rw [pTk_D, e]
    exact h
theorem pL8_D {u v b i f : Int} (h : pD x.2.2.2) (h4 : x.2.2.2 4 < 8) : pD (pL8 T n x u v b i f).2.2.2 := by
  obtain ⟨a0, a1, a4, a5⟩ := h
  unfold pL8
  split
  · show pD (zp (sAddL x.2.2.2 u v b i) _ f)
    have e4 : sAddL x.2.2.2 u v b i 4 = x.2.2.2 4 + 1 := zp_eq _ _ _
    have eo : ∀ j, j ≠ 4 → j < 174 → sAddL x.2.2.2 u v b i j = x.2.2.2 j := fun j j0 j1 => by
      unfold sAddL
      rw [zp_ne j0, zp_ne (by omega), zp_ne (by omega), zp_ne (by omega), zp_ne (by omega), zp_ne (by omega)]
    unfold pD
    rw [zp_ne (by omega), zp_ne (by omega), zp_ne (by omega), zp_ne (by omega), e4, eo 0 (by omega) (by omega), eo 1 (by omega) (by omega), eo 5 (by omega) (by omega)]
    exact ⟨a0, a1, ⟨by omega, by omega⟩, a5⟩
  · rw [pTk_D]
    exact ⟨a0, a1, a4, a5⟩
theorem pLight_D (h : pD x.2.2.2) : pD (pLight T n x).2.2.2 := by
  unfold pLight
  split
  · rename_i hc
    unfold pL2 pL3
    split
    · unfold pL4 pL6
      split
      · refine pL8_D ?_ ?_
        · unfold pNs pNx
          simp only [pTk_D]
          exact h
        · unfold pNs pNx
          simp only [pTk_D]
          exact hc.2
      · refine pL8_D ?_ ?_
        · unfold pNs
          simp only [pTk_D]
          exact h
        · unfold pNs
          simp only [pTk_D]
          exact hc.2
    · unfold pNs
      simp only [pTk_D]
      exact h
  · rw [pTk_D]
    exact h
theorem pWalker_D (h : pD x.2.2.2) : pD (pWalker T n x).2.2.2 := by
  obtain ⟨a0, a1, a4, a5⟩ := h
  unfold pWalker
  split
  · rename_i hc
    unfold pW2 pW3
    split
    · unfold pW4
      split
      · show pD (sAddW _ _ _)
        have e5 : ∀ (D : Int → Int) (u v : Int), sAddW D u v 5 = D 5 + 1 := fun D u v => if_pos rfl
        have eo : ∀ (D : Int → Int) (u v j : Int), 0 ≤ D 5 → j ≠ 5 → j < 214 → sAddW D u v j = D j := fun D u v j d0 j0 j1 => by
          unfold sAddW
          rw [if_neg j0, if_neg (by omega), if_neg (by omega), if_neg (by omega), if_neg (by omega)]
        unfold pD pNs
        simp only [pTk_D]
        rw [e5, eo _ _ _ 0 a5.1 (by omega) (by omega), eo _ _ _ 1 a5.1 (by omega) (by omega), eo _ _ _ 4 a5.1 (by omega) (by omega)]
        exact ⟨a0, a1, a4, by omega, by have := hc.2; omega⟩
      · unfold pNs
        simp only [pTk_D]
        exact ⟨a0, a1, a4, a5⟩
    · unfold pNs
      simp only [pTk_D]
      exact ⟨a0, a1, a4, a5⟩
  · rw [pTk_D]
    exact ⟨a0, a1, a4, a5⟩
end GE
theorem zPS_next_rng {G0 F0 G F : GM} {x : zTx} (h : zPS G0 F0 x G F) : 0 ≤ tE (G0 237) (G0 230 8) x.1 ∧ tE (G0 237) (G0 230 8) x.1 ≤ G 230 8 := by
  obtain ⟨-, -, e2⟩ := zPS_ba h
  obtain ⟨hB, hx, -⟩ := h
  have hE := tE_rng (T := G0 237) hx.2
  have hb := tB_rng (T := G0 237) hx.2
  rw [e2]
  omega
theorem cM_li113 {N : Nat} (hN : 241 ≤ N) {G0 F0 G F : GM} {n : Nat} {x : zTx} (hS : zPS G0 F0 x G F) {u v b i f : Int} (hu : 0 ≤ u ∧ u < 12) (hv : 0 ≤ v ∧ v < 12) (hb9 : zr b) (hi9 : zr i) (hf9 : zr f) (hD : pD x.2.2.2) (h4 : x.2.2.2 4 < 8) : zW N 58 113 [.ref 230, .int (zi u), .int (zi v), .int (zi b), .int (zi i), .int (zi f)] [.int (zi (zb (tK (G0 237) (G0 230 8) x.1 = 3))), .ref 230] G F n (zV fun G' F' n' => zPS G0 F0 (pL8 (G0 237) (G0 230 8) x u v b i f) G' F' ∧ n' = n) := by
  obtain ⟨⟨d0, d0'⟩, ⟨d1, d1'⟩, ⟨d4, d4'⟩, d5, d5'⟩ := id hD
  refine zW_cR (ip' := 114) rfl rfl (cM_takes hN hS) rfl rfl (z_ok3 (by omega) zsh_230 rfl rfl rfl) ?_
  rintro v G' F' n' _ ⟨rfl, hS', rfl⟩
  refine zs_if_neB (t := 116) (ip' := 115) rfl rfl ?_ ?_
  · intro h114
    have e2 : G' 232 = x.2.2.2 := hS'.2.2.2.2.1.2.2.trans (pTk_D _)
    refine zs_aload (ip' := 117) rfl rfl rfl ?_
    refine zs_getR (ip' := 118) rfl rfl (r := 232) (by omega) zsh_230 rfl ?_
    refine zs_iload (ip' := 119) rfl rfl rfl ?_
    refine zs_iload (ip' := 120) rfl rfl rfl ?_
    refine zs_iload (ip' := 121) rfl rfl rfl ?_
    refine zs_iload (ip' := 122) rfl rfl rfl ?_
    refine zW_cR (ip' := 123) rfl rfl (cM_addsLight zsh_232 (by omega) (by omega) (by omega) (by omega) (by omega) (by rw [e2]; omega)) rfl rfl rfl ?_
    rintro v9 G9 F9 n9 _ ⟨rfl, rfl, rfl, rfl⟩
    rw [e2]
    have e4 : sAddL x.2.2.2 u v b i 4 = x.2.2.2 4 + 1 := zp_eq _ _ _
    refine zs_pop (ip' := 124) rfl rfl ?_
    refine zs_aload (ip' := 125) rfl rfl rfl ?_
    refine zs_getR (ip' := 126) rfl rfl (r := 232) (by omega) zsh_230 rfl ?_
    refine zs_aload (ip' := 127) rfl rfl rfl ?_
    refine zs_getR (ip' := 128) rfl rfl (r := 232) (by omega) zsh_230 rfl ?_
    refine zs_pushI (ip' := 129) rfl rfl zi_k4 ?_
    refine zs_iald (ip' := 130) rfl rfl (by omega) zsh_232 (by omega) ?_
    intro hl129 hu129
    rw [zk_eq] at hl129 hu129 ⊢
    refine zs_pushI (ip' := 131) rfl rfl zi_k1 ?_
    refine zs_isub (ip' := 132) rfl rfl ?_
    refine zs_pushI (ip' := 133) rfl rfl zi_k4 ?_
    refine zW_cP (ip' := 134) rfl rfl cM_lightAt rfl rfl rfl ?_
    refine zs_iload (ip' := 135) rfl rfl rfl ?_
    refine zs_iast (ip' := 136) rfl rfl (by omega) zsh_232 (by omega) (by omega) ?_
    rw [zk_eq, zk_zk]
    refine zW_1 rfl ?_
    have e : pL8 (G0 237) (G0 230 8) x u v b i f = pSt (pTk (G0 237) (G0 230 8) x (tK (G0 237) (G0 230 8) x.1 = 3)) (zp (sAddL x.2.2.2 u v b i) (174 + 5 * (sAddL x.2.2.2 u v b i 4 - 1) + 4) f) := if_pos h114
    exact ⟨rfl, by rw [e]; exact zPS_D hS', rfl⟩
  · intro h114
    refine zW_1 rfl ?_
    have e : pL8 (G0 237) (G0 230 8) x u v b i f = pTk (G0 237) (G0 230 8) x (tK (G0 237) (G0 230 8) x.1 = 3) := if_neg h114
    exact ⟨rfl, by rw [e]; exact hS', rfl⟩
theorem cM_li105 {N : Nat} (hN : 241 ≤ N) {G0 F0 G F : GM} {n : Nat} {x : zTx} (hS : zPS G0 F0 x G F) {u v b i f : Int} (hu : 0 ≤ u ∧ u < 12) (hv : 0 ≤ v ∧ v < 12) (hb9 : zr b) (hi9 : zr i) (hf9 : zr f) (hD : pD x.2.2.2) (h4 : x.2.2.2 4 < 8) : zW N 58 105 [.ref 230, .int (zi u), .int (zi v), .int (zi b), .int (zi i), .int (zi f)] [] G F n (zV fun G' F' n' => zPS G0 F0 (pL8 (G0 237) (G0 230 8) x u v b i f) G' F' ∧ n' = n) := by
  obtain ⟨hBG, e37, e8⟩ := zPS_ba hS
  obtain ⟨hB, hx, hw, ⟨a1, a2, a3, a4, a5⟩, ⟨w1, w2, w3⟩, hk, hj, hf⟩ := id hS
  have hb := tB_rng (T := G0 237) hx.2
  have he := tE_rng (T := G0 237) hx.2
  obtain ⟨v1, v2⟩ := tV_rng (T := G0 237) hx.2
  obtain ⟨k1, k2⟩ := tK_rng (T := G0 237) (n := G0 230 8) (p := x.1)
  obtain ⟨n1, n2⟩ := hB.1
  refine zs_aload (ip' := 106) rfl rfl rfl ?_
  refine zs_aload (ip' := 107) rfl rfl rfl ?_
  refine zs_getI (ip' := 108) rfl rfl (by omega) zsh_230 rfl (q := 17) rfl ?_
  intro hl107 hu107
  rw [a3] at hl107 hu107 ⊢
  refine zs_pushI (ip' := 109) rfl rfl zi_k3 ?_
  refine zs_icmp_ne (t := 112) (ip' := 110) rfl rfl (by omega) (by omega) ?_ ?_
  · intro h109
    refine zs_pushI (ip' := 113) rfl rfl zi_k0 ?_
    have := cM_li113 (n := n) hN hS hu hv hb9 hi9 hf9 hD h4
    rw [zb_f h109] at this
    exact this
  · intro h109
    refine zs_pushI (ip' := 111) rfl rfl zi_k1 ?_
    refine zs_goto (t := 113) rfl ?_
    have := cM_li113 (n := n) hN hS hu hv hb9 hi9 hf9 hD h4
    rw [zb_t h109] at this
    exact this
theorem cM_li84 {N : Nat} (hN : 241 ≤ N) {G0 F0 G F : GM} {n : Nat} {x : zTx} (hS : zPS G0 F0 x G F) {u v b i : Int} (hu : 0 ≤ u ∧ u < 12) (hv : 0 ≤ v ∧ v < 12) (hb9 : zr b) (hi9 : zr i) (hD : pD x.2.2.2) (h4 : x.2.2.2 4 < 8) : zW N 58 84 [.ref 230, .int (zi u), .int (zi v), .int (zi b), .int (zi i), .int (zi (-1))] [.int (zi (zb (pIs (G0 237) (G0 230 8) x 407354 ∨ pIs (G0 237) (G0 230 8) x 3217595))), .ref 230] G F n (zV fun G' F' n' => zPS G0 F0 (pL6 (G0 237) (G0 230 8) x u v b i) G' F' ∧ n' = n) := by
  obtain ⟨⟨d0, d0'⟩, ⟨d1, d1'⟩, ⟨d4, d4'⟩, d5, d5'⟩ := id hD
  refine zW_cR (ip' := 85) rfl rfl (cM_takes hN hS) rfl rfl (z_ok3 (by omega) zsh_230 rfl rfl rfl) ?_
  rintro v G' F' n' _ ⟨rfl, hS', rfl⟩
  refine zs_pop (ip' := 86) rfl rfl ?_
  refine zs_aload (ip' := 87) rfl rfl rfl ?_
  refine zs_getI (ip' := 88) rfl rfl (by omega) zsh_230 rfl (q := 20) rfl ?_
  intro hl87 hu87
  have w1' : G' 230 20 = _ := hS'.2.2.2.2.1.1
  rw [w1'] at hl87 hu87 ⊢
  refine zs_if_ne (t := 105) (ip' := 89) rfl rfl (by omega) ?_ ?_
  · intro h88
    have e : pL6 (G0 237) (G0 230 8) x u v b i = pL8 (G0 237) (G0 230 8) (pTk (G0 237) (G0 230 8) x (pIs (G0 237) (G0 230 8) x 407354 ∨ pIs (G0 237) (G0 230 8) x 3217595)) u v b i (-1) := if_neg (fun q => h88 q.1)
    rw [e]
    exact cM_li105 hN hS' hu hv hb9 hi9 (by decide) (by rw [pTk_D]; exact hD) (by rw [pTk_D]; exact h4)
  · intro h88
    refine zs_aload (ip' := 90) rfl rfl rfl ?_
    refine zs_pushJ (ip' := 91) rfl rfl zl_k279875 ?_
    refine zW_cP (ip' := 92) rfl rfl (cM_is hN hS' (by decide)) rfl rfl (z_ok3 (by omega) zsh_230 rfl rfl rfl) ?_
    refine zs_if_eqB (t := 105) (ip' := 93) rfl rfl ?_ ?_
    · intro h92
      have e : pL6 (G0 237) (G0 230 8) x u v b i = pL8 (G0 237) (G0 230 8) (pTk (G0 237) (G0 230 8) x (pIs (G0 237) (G0 230 8) x 407354 ∨ pIs (G0 237) (G0 230 8) x 3217595)) u v b i (-1) := if_neg (fun q => h92 q.2)
      rw [e]
      exact cM_li105 hN hS' hu hv hb9 hi9 (by decide) (by rw [pTk_D]; exact hD) (by rw [pTk_D]; exact h4)
    · intro h92
      refine zs_aload (ip' := 94) rfl rfl rfl ?_
      refine zW_cV (ip' := 95) rfl rfl (cM_next hN (zPS_ba hS').1 (p := tE (G0 237) (G0 230 8) (pTk (G0 237) (G0 230 8) x (pIs (G0 237) (G0 230 8) x 407354 ∨ pIs (G0 237) (G0 230 8) x 3217595)).1) (by have := (zPS_next_rng hS'); omega) hS'.2.2.2.1.1) rfl rfl (z_ok3 (by omega) zsh_230 rfl rfl rfl) ?_
      rintro G2 F2 n2 ⟨hN2, rfl⟩
      have hS2 := zPS_next hS' hN2
      have e2 : G2 232 = x.2.2.2 := hS2.2.2.2.2.1.2.2.trans (pTk_D _)
      refine zs_aload (ip' := 96) rfl rfl rfl ?_
      refine zs_pushI (ip' := 97) rfl rfl zi_k0 ?_
      refine zs_aload (ip' := 98) rfl rfl rfl ?_
      refine zs_getR (ip' := 99) rfl rfl (r := 232) (by omega) zsh_230 rfl ?_
      refine zs_pushI (ip' := 100) rfl rfl zi_k4 ?_
      refine zs_iald (ip' := 101) rfl rfl (by omega) zsh_232 (by omega) ?_
      intro hl100 hu100
      rw [e2] at hl100 hu100 ⊢
      refine zs_pushI (ip' := 102) rfl rfl zi_k1 ?_
      refine zs_isub (ip' := 103) rfl rfl ?_
      refine zW_cR (ip' := 104) rfl rfl (cM_takesNumber hN hS2 (by omega) (by omega)) rfl rfl (z_ok3 (by omega) zsh_230 rfl rfl rfl) ?_
      rintro v3 G3 F3 n3 hv3 ⟨rfl, hS3, rfl⟩
      refine zs_istore5 (ip' := 105) rfl rfl ?_
      have e : pL6 (G0 237) (G0 230 8) x u v b i = pL8 (G0 237) (G0 230 8) (pNs (G0 237) (G0 230 8) (pNx (G0 237) (G0 230 8) (pTk (G0 237) (G0 230 8) x (pIs (G0 237) (G0 230 8) x 407354 ∨ pIs (G0 237) (G0 230 8) x 3217595))) 0 (x.2.2.2 4 - 1)) u v b i (pNv (G0 237) (G0 230 8) (pNx (G0 237) (G0 230 8) (pTk (G0 237) (G0 230 8) x (pIs (G0 237) (G0 230 8) x 407354 ∨ pIs (G0 237) (G0 230 8) x 3217595))) 0 (x.2.2.2 4 - 1)) := if_pos ⟨h88, h92⟩
      rw [e]
      have eD : (pNs (G0 237) (G0 230 8) (pNx (G0 237) (G0 230 8) (pTk (G0 237) (G0 230 8) x (pIs (G0 237) (G0 230 8) x 407354 ∨ pIs (G0 237) (G0 230 8) x 3217595))) 0 (x.2.2.2 4 - 1)).2.2.2 = x.2.2.2 := (pTk_D _).trans (pTk_D _)
      exact cM_li105 hN hS3 hu hv hb9 hi9 hv3 (by rw [eD]; exact hD) (by rw [eD]; exact h4)
theorem cM_li72 {N : Nat} (hN : 241 ≤ N) {G0 F0 G F : GM} {n : Nat} {x : zTx} (hS : zPS G0 F0 x G F) {u v b i : Int} (hu : 0 ≤ u ∧ u < 12) (hv : 0 ≤ v ∧ v < 12) (hb9 : zr b) (hi9 : zr i) (hD : pD x.2.2.2) (h4 : x.2.2.2 4 < 8) : zW N 58 72 [.ref 230, .int (zi u), .int (zi v), .int (zi b), .int (zi i), .int (zi (-1))] [] G F n (zV fun G' F' n' => zPS G0 F0 (pL6 (G0 237) (G0 230 8) x u v b i) G' F' ∧ n' = n) := by
  refine zs_aload (ip' := 73) rfl rfl rfl ?_
  refine zs_aload (ip' := 74) rfl rfl rfl ?_
  refine zs_pushJ (ip' := 75) rfl rfl zl_k407354 ?_
  refine zW_cP (ip' := 76) rfl rfl (cM_is hN hS (by decide)) rfl rfl (z_ok3 (by omega) zsh_230 rfl rfl rfl) ?_
  refine zs_if_neB (t := 81) (ip' := 77) rfl rfl ?_ ?_
  · intro h76
    refine zs_pushI (ip' := 82) rfl rfl zi_k1 ?_
    refine zs_goto (t := 84) rfl ?_
    have := cM_li84 (n := n) hN hS hu hv hb9 hi9 hD h4
    rw [zb_t (Or.inl h76)] at this
    exact this
  · intro h76
    refine zs_aload (ip' := 78) rfl rfl rfl ?_
    refine zs_pushJ (ip' := 79) rfl rfl zl_k3217595 ?_
    refine zW_cP (ip' := 80) rfl rfl (cM_is hN hS (by decide)) rfl rfl (z_ok3 (by omega) zsh_230 rfl rfl rfl) ?_
    refine zs_if_eqB (t := 83) (ip' := 81) rfl rfl ?_ ?_
    · intro h80
      refine zs_pushI (ip' := 84) rfl rfl zi_k0 ?_
      have := cM_li84 (n := n) hN hS hu hv hb9 hi9 hD h4
      rw [zb_f (fun q => q.elim h76 h80)] at this
      exact this
    · intro h80
      refine zs_pushI (ip' := 82) rfl rfl zi_k1 ?_
      refine zs_goto (t := 84) rfl ?_
      have := cM_li84 (n := n) hN hS hu hv hb9 hi9 hD h4
      rw [zb_t (Or.inr h80)] at this
      exact this
theorem cM_li57 {N : Nat} (hN : 241 ≤ N) {G0 F0 G F : GM} {n : Nat} {x : zTx} (hS : zPS G0 F0 x G F) {u v : Int} {c3 c4 c5 : Value} (hu : 0 ≤ u ∧ u < 12) (hv : 0 ≤ v ∧ v < 12) (hD : pD x.2.2.2) (h4 : x.2.2.2 4 < 8) : zW N 58 57 [.ref 230, .int (zi u), .int (zi v), c3, c4, c5] [] G F n (zV fun G' F' n' => zPS G0 F0 (pL4 (G0 237) (G0 230 8) x u v) G' F' ∧ n' = n) := by
  refine zs_aload (ip' := 58) rfl rfl rfl ?_
  refine zs_pushI (ip' := 59) rfl rfl zi_k0 ?_
  refine zs_pushI (ip' := 60) rfl rfl zi_k9 ?_
  refine zW_cR (ip' := 61) rfl rfl (cM_takesNumber hN hS (by omega) (by omega)) rfl rfl (z_ok3 (by omega) zsh_230 rfl rfl rfl) ?_
  rintro v3 G' F' n' hv3 ⟨rfl, hS', rfl⟩
  refine zs_istore3 (ip' := 62) rfl rfl ?_
  refine zs_aload (ip' := 63) rfl rfl rfl ?_
  refine zs_pushJ (ip' := 64) rfl rfl zl_k407354 ?_
  refine zW_cP (ip' := 65) rfl rfl (cM_is hN hS' (by decide)) rfl rfl (z_ok3 (by omega) zsh_230 rfl rfl rfl) ?_
  refine zs_if_eqB (t := 68) (ip' := 66) rfl rfl ?_ ?_
  · intro h65
    refine zs_pushI (ip' := 69) rfl rfl zi_k0 ?_
    refine zs_istore4 (ip' := 70) rfl rfl ?_
    refine zs_pushI (ip' := 71) rfl rfl zi_km1 ?_
    refine zs_istore5 (ip' := 72) rfl rfl ?_
    have e : pL4 (G0 237) (G0 230 8) x u v = pL6 (G0 237) (G0 230 8) (pNs (G0 237) (G0 230 8) x 0 9) u v (pNv (G0 237) (G0 230 8) x 0 9) 0 := by unfold pL4; rw [zb_f h65]
    rw [e]
    exact cM_li72 hN hS' hu hv hv3 (by decide) (by rw [show (pNs (G0 237) (G0 230 8) x 0 9).2.2.2 = x.2.2.2 from pTk_D _]; exact hD) (by rw [show (pNs (G0 237) (G0 230 8) x 0 9).2.2.2 = x.2.2.2 from pTk_D _]; exact h4)
  · intro h65
    refine zs_pushI (ip' := 67) rfl rfl zi_k1 ?_
    refine zs_goto (t := 69) rfl ?_
    refine zs_istore4 (ip' := 70) rfl rfl ?_
    refine zs_pushI (ip' := 71) rfl rfl zi_km1 ?_
    refine zs_istore5 (ip' := 72) rfl rfl ?_
    have e : pL4 (G0 237) (G0 230 8) x u v = pL6 (G0 237) (G0 230 8) (pNs (G0 237) (G0 230 8) x 0 9) u v (pNv (G0 237) (G0 230 8) x 0 9) 1 := by unfold pL4; rw [zb_t h65]
    rw [e]
    exact cM_li72 hN hS' hu hv hv3 (by decide) (by rw [show (pNs (G0 237) (G0 230 8) x 0 9).2.2.2 = x.2.2.2 from pTk_D _]; exact hD) (by rw [show (pNs (G0 237) (G0 230 8) x 0 9).2.2.2 = x.2.2.2 from pTk_D _]; exact h4)
theorem cM_li54 {N : Nat} (hN : 241 ≤ N) {G0 F0 G F : GM} {n : Nat} {x : zTx} (hS : zPS G0 F0 x G F) {u : Int} {c3 c4 c5 : Value} (hu : 0 ≤ u ∧ u < 12) (hD : pD x.2.2.2) (h4 : x.2.2.2 4 < 8) : zW N 58 54 [.ref 230, .int (zi u), .int (zi (tV (G0 237) (G0 230 8) x.1)), c3, c4, c5] [.int (zi (zb (pLc (G0 237) (G0 230 8) x u))), .ref 230] G F n (zV fun G' F' n' => zPS G0 F0 (pL3 (G0 237) (G0 230 8) x u) G' F' ∧ n' = n) := by
  obtain ⟨⟨d0, d0'⟩, ⟨d1, d1'⟩, ⟨d4, d4'⟩, d5, d5'⟩ := id hD
  obtain ⟨v1, v2⟩ := tV_rng (T := G0 237) hS.2.1.2
  refine zW_cR (ip' := 55) rfl rfl (cM_takes hN hS) rfl rfl (z_ok3 (by omega) zsh_230 rfl rfl rfl) ?_
  rintro v G' F' n' _ ⟨rfl, hS', rfl⟩
  refine zs_if_neB (t := 57) (ip' := 56) rfl rfl ?_ ?_
  · intro h55
    have e : pL3 (G0 237) (G0 230 8) x u = pL4 (G0 237) (G0 230 8) (pTk (G0 237) (G0 230 8) x (pLc (G0 237) (G0 230 8) x u)) u (tV (G0 237) (G0 230 8) x.1) := if_pos h55
    rw [e]
    have hlt := h55.2.2.1
    exact cM_li57 hN hS' hu (by omega) (by rw [pTk_D]; exact hD) (by rw [pTk_D]; exact h4)
  · intro h55
    refine zW_1 rfl ?_
    have e : pL3 (G0 237) (G0 230 8) x u = pTk (G0 237) (G0 230 8) x (pLc (G0 237) (G0 230 8) x u) := if_neg h55
    exact ⟨rfl, by rw [e]; exact hS', rfl⟩
theorem cM_li13 {N : Nat} (hN : 241 ≤ N) {G0 F0 G F : GM} {n : Nat} {x : zTx} (hS : zPS G0 F0 x G F) {c1 c2 c3 c4 c5 : Value} (hD : pD x.2.2.2) (h4 : x.2.2.2 4 < 8) : zW N 58 13 [.ref 230, c1, c2, c3, c4, c5] [] G F n (zV fun G' F' n' => zPS G0 F0 (pL2 (G0 237) (G0 230 8) x) G' F' ∧ n' = n) := by
  obtain ⟨hBG, e37, e8⟩ := zPS_ba hS
  obtain ⟨hB, hx, hw, ⟨a1, a2, a3, a4, a5⟩, ⟨w1, w2, w3⟩, hk, hj, hf⟩ := id hS
  have hb := tB_rng (T := G0 237) hx.2
  have he := tE_rng (T := G0 237) hx.2
  obtain ⟨v1, v2⟩ := tV_rng (T := G0 237) hx.2
  obtain ⟨k1, k2⟩ := tK_rng (T := G0 237) (n := G0 230 8) (p := x.1)
  obtain ⟨n1, n2⟩ := hB.1
  obtain ⟨⟨d0, d0'⟩, ⟨d1, d1'⟩, ⟨d4, d4'⟩, d5, d5'⟩ := id hD
  refine zs_aload (ip' := 14) rfl rfl rfl ?_
  refine zs_pushI (ip' := 15) rfl rfl zi_k0 ?_
  refine zs_aload (ip' := 16) rfl rfl rfl ?_
  refine zs_getR (ip' := 17) rfl rfl (r := 232) (by omega) zsh_230 rfl ?_
  refine zs_pushI (ip' := 18) rfl rfl zi_k0 ?_
  refine zs_iald (ip' := 19) rfl rfl (by omega) zsh_232 (by omega) ?_
  intro hl18 hu18
  rw [w3] at hl18 hu18 ⊢
  refine zs_pushI (ip' := 20) rfl rfl zi_k1 ?_
  refine zs_isub (ip' := 21) rfl rfl ?_
  refine zW_cR (ip' := 22) rfl rfl (cM_takesNumber hN hS (by omega) (by omega)) rfl rfl (z_ok3 (by omega) zsh_230 rfl rfl rfl) ?_
  rintro v3 G' F' n' hv3 ⟨rfl, hS', rfl⟩
  have q1 := pNv_rng (T := G0 237) (n := G0 230 8) (x := x) (lo := 0) (hi := x.2.2.2 0 - 1) (by omega)
  have eD : (pNs (G0 237) (G0 230 8) x 0 (x.2.2.2 0 - 1)).2.2.2 = x.2.2.2 := pTk_D _
  obtain ⟨t1, t2⟩ := tV_rng (T := G0 237) hS'.2.1.2
  obtain ⟨s1, s2⟩ := tK_rng (T := G0 237) (n := G0 230 8) (p := (pNs (G0 237) (G0 230 8) x 0 (x.2.2.2 0 - 1)).1)
  have r17 : G' 230 17 = tK (G0 237) (G0 230 8) (pNs (G0 237) (G0 230 8) x 0 (x.2.2.2 0 - 1)).1 := hS'.2.2.2.1.2.2.1
  have r18 : G' 230 18 = tV (G0 237) (G0 230 8) (pNs (G0 237) (G0 230 8) x 0 (x.2.2.2 0 - 1)).1 := hS'.2.2.2.1.2.2.2.1
  have rD : G' 232 = x.2.2.2 := hS'.2.2.2.2.1.2.2.trans eD
  refine zs_istore1 (ip' := 23) rfl rfl ?_
  refine zs_aload (ip' := 24) rfl rfl rfl ?_
  refine zs_getI (ip' := 25) rfl rfl (by omega) zsh_230 rfl (q := 18) rfl ?_
  intro hl24 hu24
  rw [r18] at hl24 hu24 ⊢
  refine zs_istore2 (ip' := 26) rfl rfl ?_
  refine zs_aload (ip' := 27) rfl rfl rfl ?_
  refine zs_aload (ip' := 28) rfl rfl rfl ?_
  refine zs_getI (ip' := 29) rfl rfl (by omega) zsh_230 rfl (q := 17) rfl ?_
  intro hl28 hu28
  rw [r17] at hl28 hu28 ⊢
  refine zs_pushI (ip' := 30) rfl rfl zi_k2 ?_
  refine zs_icmp_ne (t := 53) (ip' := 31) rfl rfl (by omega) (by omega) ?_ ?_
  · intro h30
    refine zs_pushI (ip' := 54) rfl rfl zi_k0 ?_
    have := cM_li54 (n := n') (u := pNv (G0 237) (G0 230 8) x 0 (x.2.2.2 0 - 1)) (c3 := c3) (c4 := c4) (c5 := c5) hN hS' (by omega) (by rw [eD]; exact hD) (by rw [eD]; exact h4)
    rw [zb_f (fun q => h30 q.1)] at this
    exact this
  · intro h30
    refine zs_iload (ip' := 32) rfl rfl rfl ?_
    refine zs_aload (ip' := 33) rfl rfl rfl ?_
    refine zs_getR (ip' := 34) rfl rfl (r := 232) (by omega) zsh_230 rfl ?_
    refine zs_pushI (ip' := 35) rfl rfl zi_k1 ?_
    refine zs_iald (ip' := 36) rfl rfl (by omega) zsh_232 (by omega) ?_
    intro hl35 hu35
    rw [rD] at hl35 hu35 ⊢
    refine zs_icmp_ge (t := 53) (ip' := 37) rfl rfl (by omega) (by omega) ?_ ?_
    · intro h36
      refine zs_pushI (ip' := 54) rfl rfl zi_k0 ?_
      have := cM_li54 (n := n') (u := pNv (G0 237) (G0 230 8) x 0 (x.2.2.2 0 - 1)) (c3 := c3) (c4 := c4) (c5 := c5) hN hS' (by omega) (by rw [eD]; exact hD) (by rw [eD]; exact h4)
      rw [zb_f (fun q => by have := q.2.1; rw [eD] at this; omega)] at this
      exact this
    · intro h36
      refine zs_aload (ip' := 38) rfl rfl rfl ?_
      refine zs_getR (ip' := 39) rfl rfl (r := 232) (by omega) zsh_230 rfl ?_
      refine zs_iload (ip' := 40) rfl rfl rfl ?_
      refine zs_iload (ip' := 41) rfl rfl rfl ?_
      refine zW_cP (ip' := 42) rfl rfl cM_cellAt rfl rfl rfl ?_
      refine zs_iald (ip' := 43) rfl rfl (by omega) zsh_232 (by omega) ?_
      intro hl42 hu42
      rw [rD] at hl42 hu42 ⊢
      refine zs_pushI (ip' := 44) rfl rfl zi_k1 ?_
      refine zs_icmp_eq (t := 53) (ip' := 45) rfl rfl (by omega) (by omega) ?_ ?_
      · intro h44
        refine zs_pushI (ip' := 54) rfl rfl zi_k0 ?_
        have := cM_li54 (n := n') (u := pNv (G0 237) (G0 230 8) x 0 (x.2.2.2 0 - 1)) (c3 := c3) (c4 := c4) (c5 := c5) hN hS' (by omega) (by rw [eD]; exact hD) (by rw [eD]; exact h4)
        rw [zb_f (fun q => q.2.2.1 (by rw [eD]; exact h44))] at this
        exact this
      · intro h44
        refine zs_aload (ip' := 46) rfl rfl rfl ?_
        refine zs_getR (ip' := 47) rfl rfl (r := 232) (by omega) zsh_230 rfl ?_
        refine zs_iload (ip' := 48) rfl rfl rfl ?_
        refine zs_iload (ip' := 49) rfl rfl rfl ?_
        refine zW_cP (ip' := 50) rfl rfl (cM_lightOn zsh_232 (by omega) (by omega) (by omega) (by rw [rD]; omega)) rfl rfl rfl ?_
        rw [rD]
        obtain ⟨o1, o2⟩ := zfst_rng (sAt x.2.2.2 (pNv (G0 237) (G0 230 8) x 0 (x.2.2.2 0 - 1)) (tV (G0 237) (G0 230 8) (pNs (G0 237) (G0 230 8) x 0 (x.2.2.2 0 - 1)).1)) (x.2.2.2 4).toNat
        have o1' : -1 ≤ sLOn x.2.2.2 (pNv (G0 237) (G0 230 8) x 0 (x.2.2.2 0 - 1)) (tV (G0 237) (G0 230 8) (pNs (G0 237) (G0 230 8) x 0 (x.2.2.2 0 - 1)).1) := o1
        have o2' : sLOn x.2.2.2 (pNv (G0 237) (G0 230 8) x 0 (x.2.2.2 0 - 1)) (tV (G0 237) (G0 230 8) (pNs (G0 237) (G0 230 8) x 0 (x.2.2.2 0 - 1)).1) < ((x.2.2.2 4).toNat : Int) := o2
        refine zs_if_ge (t := 53) (ip' := 51) rfl rfl (by omega) ?_ ?_
        · intro h50
          refine zs_pushI (ip' := 54) rfl rfl zi_k0 ?_
          have := cM_li54 (n := n') (u := pNv (G0 237) (G0 230 8) x 0 (x.2.2.2 0 - 1)) (c3 := c3) (c4 := c4) (c5 := c5) hN hS' (by omega) (by rw [eD]; exact hD) (by rw [eD]; exact h4)
          rw [zb_f (fun q => by have := q.2.2.2; rw [eD] at this; omega)] at this
          exact this
        · intro h50
          refine zs_pushI (ip' := 52) rfl rfl zi_k1 ?_
          refine zs_goto (t := 54) rfl ?_
          have := cM_li54 (n := n') (u := pNv (G0 237) (G0 230 8) x 0 (x.2.2.2 0 - 1)) (c3 := c3) (c4 := c4) (c5 := c5) hN hS' (by omega) (by rw [eD]; exact hD) (by rw [eD]; exact h4)
          rw [zb_t ⟨h30, by rw [eD]; omega, by rw [eD]; exact h44, by rw [eD]; omega⟩] at this
          exact this
theorem cM_li10 {N : Nat} (hN : 241 ≤ N) {G0 F0 G F : GM} {n : Nat} {x : zTx} (hS : zPS G0 F0 x G F) {c1 c2 c3 c4 c5 : Value} (hD : pD x.2.2.2) : zW N 58 10 [.ref 230, c1, c2, c3, c4, c5] [.int (zi (zb (x.2.2.2 4 < 8))), .ref 230] G F n (zV fun G' F' n' => zPS G0 F0 (pLight (G0 237) (G0 230 8) x) G' F' ∧ n' = n) := by
  refine zW_cR (ip' := 11) rfl rfl (cM_takes hN hS) rfl rfl (z_ok3 (by omega) zsh_230 rfl rfl rfl) ?_
  rintro v G' F' n' _ ⟨rfl, hS', rfl⟩
  refine zs_if_neB (t := 13) (ip' := 12) rfl rfl ?_ ?_
  · intro h11
    have e : pLight (G0 237) (G0 230 8) x = pL2 (G0 237) (G0 230 8) (pTk (G0 237) (G0 230 8) x (x.2.2.2 4 < 8)) := if_pos h11
    rw [e]
    exact cM_li13 hN hS' (by rw [pTk_D]; exact hD) (by rw [pTk_D]; exact h11.2)
  · intro h11
    refine zW_1 rfl ?_
    have e : pLight (G0 237) (G0 230 8) x = pTk (G0 237) (G0 230 8) x (x.2.2.2 4 < 8) := if_neg h11
    exact ⟨rfl, by rw [e]; exact hS', rfl⟩
theorem cM_readLight {N : Nat} (hN : 241 ≤ N) {G0 F0 G F : GM} {n : Nat} {x : zTx} (hS : zPS G0 F0 x G F) (hD : pD x.2.2.2) : zC N 58 [.ref 230] G F n (zV fun G' F' n' => zPS G0 F0 (pLight (G0 237) (G0 230 8) x) G' F' ∧ n' = n) := by
  obtain ⟨hBG, e37, e8⟩ := zPS_ba hS
  obtain ⟨hB, hx, hw, ⟨a1, a2, a3, a4, a5⟩, ⟨w1, w2, w3⟩, hk, hj, hf⟩ := id hS
  have hb := tB_rng (T := G0 237) hx.2
  have he := tE_rng (T := G0 237) hx.2
  obtain ⟨v1, v2⟩ := tV_rng (T := G0 237) hx.2
  obtain ⟨k1, k2⟩ := tK_rng (T := G0 237) (n := G0 230 8) (p := x.1)
  obtain ⟨n1, n2⟩ := hB.1
  obtain ⟨⟨d0, d0'⟩, ⟨d1, d1'⟩, ⟨d4, d4'⟩, d5, d5'⟩ := id hD
  refine zC_i (L0 := [.ref 230, .null, .null, .null, .null, .null]) rfl ?_
  refine zs_aload (ip' := 1) rfl rfl rfl ?_
  refine zs_aload (ip' := 2) rfl rfl rfl ?_
  refine zs_getR (ip' := 3) rfl rfl (r := 232) (by omega) zsh_230 rfl ?_
  refine zs_pushI (ip' := 4) rfl rfl zi_k4 ?_
  refine zs_iald (ip' := 5) rfl rfl (by omega) zsh_232 (by omega) ?_
  intro hl4 hu4
  rw [w3] at hl4 hu4 ⊢
  refine zs_pushI (ip' := 6) rfl rfl zi_k8 ?_
  refine zs_icmp_ge (t := 9) (ip' := 7) rfl rfl (by omega) (by omega) ?_ ?_
  · intro h6
    refine zs_pushI (ip' := 10) rfl rfl zi_k0 ?_
    have := cM_li10 (n := n) (c1 := .null) (c2 := .null) (c3 := .null) (c4 := .null) (c5 := .null) hN hS hD
    rw [zb_f (by omega)] at this
    exact this
  · intro h6
    refine zs_pushI (ip' := 8) rfl rfl zi_k1 ?_
    refine zs_goto (t := 10) rfl ?_
    have := cM_li10 (n := n) (c1 := .null) (c2 := .null) (c3 := .null) (c4 := .null) (c5 := .null) hN hS hD
    rw [zb_t h6] at this
    exact this
theorem cM_tr67 {N : Nat} (hN : 241 ≤ N) {G0 F0 G F : GM} {n : Nat} {x : zTx} (hS : zPS G0 F0 x G F) {u v : Int} (hu : 0 ≤ u ∧ u < 12) (hv : 0 ≤ v ∧ v < 12) (hD : pD x.2.2.2) (h5 : x.2.2.2 5 < 6) : zW N 59 67 [.ref 230, .int (zi u), .int (zi v)] [.int (zi (zb (tK (G0 237) (G0 230 8) x.1 = 3))), .ref 230] G F n (zV fun G' F' n' => zPS G0 F0 (pW4 (G0 237) (G0 230 8) x u v) G' F' ∧ n' = n) := by
  obtain ⟨⟨d0, d0'⟩, ⟨d1, d1'⟩, ⟨d4, d4'⟩, d5, d5'⟩ := id hD
  refine zW_cR (ip' := 68) rfl rfl (cM_takes hN hS) rfl rfl (z_ok3 (by omega) zsh_230 rfl rfl rfl) ?_
  rintro v G' F' n' _ ⟨rfl, hS', rfl⟩
  refine zs_if_eqB (t := 75) (ip' := 69) rfl rfl ?_ ?_
  · intro h68
    refine zW_1 rfl ?_
    have e : pW4 (G0 237) (G0 230 8) x u v = pTk (G0 237) (G0 230 8) x (tK (G0 237) (G0 230 8) x.1 = 3) := if_neg h68
    exact ⟨rfl, by rw [e]; exact hS', rfl⟩
  · intro h68
    have e2 : G' 232 = x.2.2.2 := hS'.2.2.2.2.1.2.2.trans (pTk_D _)
    refine zs_aload (ip' := 70) rfl rfl rfl ?_
    refine zs_getR (ip' := 71) rfl rfl (r := 232) (by omega) zsh_230 rfl ?_
    refine zs_iload (ip' := 72) rfl rfl rfl ?_
    refine zs_iload (ip' := 73) rfl rfl rfl ?_
    refine zW_cR (ip' := 74) rfl rfl (cM_addsWalker zsh_232 (by omega) (by omega) (by omega) (by rw [e2]; omega)) rfl rfl rfl ?_
    rintro v9 G9 F9 n9 _ ⟨rfl, rfl, rfl, rfl⟩
    rw [e2]
    refine zs_pop (ip' := 75) rfl rfl ?_
    refine zW_1 rfl ?_
    have e : pW4 (G0 237) (G0 230 8) x u v = pSt (pTk (G0 237) (G0 230 8) x (tK (G0 237) (G0 230 8) x.1 = 3)) (sAddW x.2.2.2 u v) := if_pos h68
    exact ⟨rfl, by rw [e]; exact zPS_D hS', rfl⟩
theorem cM_tr59 {N : Nat} (hN : 241 ≤ N) {G0 F0 G F : GM} {n : Nat} {x : zTx} (hS : zPS G0 F0 x G F) {u v : Int} (hu : 0 ≤ u ∧ u < 12) (hv : 0 ≤ v ∧ v < 12) (hD : pD x.2.2.2) (h5 : x.2.2.2 5 < 6) : zW N 59 59 [.ref 230, .int (zi u), .int (zi v)] [] G F n (zV fun G' F' n' => zPS G0 F0 (pW4 (G0 237) (G0 230 8) x u v) G' F' ∧ n' = n) := by
  obtain ⟨hBG, e37, e8⟩ := zPS_ba hS
  obtain ⟨hB, hx, hw, ⟨a1, a2, a3, a4, a5⟩, ⟨w1, w2, w3⟩, hk, hj, hf⟩ := id hS
  have hb := tB_rng (T := G0 237) hx.2
  have he := tE_rng (T := G0 237) hx.2
  obtain ⟨v1, v2⟩ := tV_rng (T := G0 237) hx.2
  obtain ⟨k1, k2⟩ := tK_rng (T := G0 237) (n := G0 230 8) (p := x.1)
  obtain ⟨n1, n2⟩ := hB.1
  refine zs_aload (ip' := 60) rfl rfl rfl ?_
  refine zs_aload (ip' := 61) rfl rfl rfl ?_
  refine zs_getI (ip' := 62) rfl rfl (by omega) zsh_230 rfl (q := 17) rfl ?_
  intro hl61 hu61
  rw [a3] at hl61 hu61 ⊢
  refine zs_pushI (ip' := 63) rfl rfl zi_k3 ?_
  refine zs_icmp_ne (t := 66) (ip' := 64) rfl rfl (by omega) (by omega) ?_ ?_
  · intro h63
    refine zs_pushI (ip' := 67) rfl rfl zi_k0 ?_
    have := cM_tr67 (n := n) hN hS hu hv hD h5
    rw [zb_f h63] at this
    exact this
  · intro h63
    refine zs_pushI (ip' := 65) rfl rfl zi_k1 ?_
    refine zs_goto (t := 67) rfl ?_
    have := cM_tr67 (n := n) hN hS hu hv hD h5
    rw [zb_t h63] at this
    exact this
theorem cM_tr56 {N : Nat} (hN : 241 ≤ N) {G0 F0 G F : GM} {n : Nat} {x : zTx} (hS : zPS G0 F0 x G F) {u : Int} (hu : 0 ≤ u ∧ u < 12) (hD : pD x.2.2.2) (h5 : x.2.2.2 5 < 6) : zW N 59 56 [.ref 230, .int (zi u), .int (zi (tV (G0 237) (G0 230 8) x.1))] [.int (zi (zb (pWc (G0 237) (G0 230 8) x u))), .ref 230] G F n (zV fun G' F' n' => zPS G0 F0 (pW3 (G0 237) (G0 230 8) x u) G' F' ∧ n' = n) := by
  obtain ⟨⟨d0, d0'⟩, ⟨d1, d1'⟩, ⟨d4, d4'⟩, d5, d5'⟩ := id hD
  obtain ⟨v1, v2⟩ := tV_rng (T := G0 237) hS.2.1.2
  refine zW_cR (ip' := 57) rfl rfl (cM_takes hN hS) rfl rfl (z_ok3 (by omega) zsh_230 rfl rfl rfl) ?_
  rintro v G' F' n' _ ⟨rfl, hS', rfl⟩
  refine zs_if_neB (t := 59) (ip' := 58) rfl rfl ?_ ?_
  · intro h57
    have e : pW3 (G0 237) (G0 230 8) x u = pW4 (G0 237) (G0 230 8) (pTk (G0 237) (G0 230 8) x (pWc (G0 237) (G0 230 8) x u)) u (tV (G0 237) (G0 230 8) x.1) := if_pos h57
    rw [e]
    have hlt := h57.2.2.1
    exact cM_tr59 hN hS' hu (by omega) (by rw [pTk_D]; exact hD) (by rw [pTk_D]; exact h5)
  · intro h57
    refine zW_1 rfl ?_
    have e : pW3 (G0 237) (G0 230 8) x u = pTk (G0 237) (G0 230 8) x (pWc (G0 237) (G0 230 8) x u) := if_neg h57
    exact ⟨rfl, by rw [e]; exact hS', rfl⟩
theorem cM_tr13 {N : Nat} (hN : 241 ≤ N) {G0 F0 G F : GM} {n : Nat} {x : zTx} (hS : zPS G0 F0 x G F) {c1 c2 : Value} (hD : pD x.2.2.2) (h5 : x.2.2.2 5 < 6) : zW N 59 13 [.ref 230, c1, c2] [] G F n (zV fun G' F' n' => zPS G0 F0 (pW2 (G0 237) (G0 230 8) x) G' F' ∧ n' = n) := by
  obtain ⟨hBG, e37, e8⟩ := zPS_ba hS
  obtain ⟨hB, hx, hw, ⟨a1, a2, a3, a4, a5⟩, ⟨w1, w2, w3⟩, hk, hj, hf⟩ := id hS
  have hb := tB_rng (T := G0 237) hx.2
  have he := tE_rng (T := G0 237) hx.2
  obtain ⟨v1, v2⟩ := tV_rng (T := G0 237) hx.2
  obtain ⟨k1, k2⟩ := tK_rng (T := G0 237) (n := G0 230 8) (p := x.1)
  obtain ⟨n1, n2⟩ := hB.1
  obtain ⟨⟨d0, d0'⟩, ⟨d1, d1'⟩, ⟨d4, d4'⟩, d5, d5'⟩ := id hD
  refine zs_aload (ip' := 14) rfl rfl rfl ?_
  refine zs_pushI (ip' := 15) rfl rfl zi_k0 ?_
  refine zs_aload (ip' := 16) rfl rfl rfl ?_
  refine zs_getR (ip' := 17) rfl rfl (r := 232) (by omega) zsh_230 rfl ?_
  refine zs_pushI (ip' := 18) rfl rfl zi_k0 ?_
  refine zs_iald (ip' := 19) rfl rfl (by omega) zsh_232 (by omega) ?_
  intro hl18 hu18
  rw [w3] at hl18 hu18 ⊢
  refine zs_pushI (ip' := 20) rfl rfl zi_k1 ?_
  refine zs_isub (ip' := 21) rfl rfl ?_
  refine zW_cR (ip' := 22) rfl rfl (cM_takesNumber hN hS (by omega) (by omega)) rfl rfl (z_ok3 (by omega) zsh_230 rfl rfl rfl) ?_
  rintro v3 G' F' n' hv3 ⟨rfl, hS', rfl⟩
  have q1 := pNv_rng (T := G0 237) (n := G0 230 8) (x := x) (lo := 0) (hi := x.2.2.2 0 - 1) (by omega)
  have eD : (pNs (G0 237) (G0 230 8) x 0 (x.2.2.2 0 - 1)).2.2.2 = x.2.2.2 := pTk_D _
  obtain ⟨t1, t2⟩ := tV_rng (T := G0 237) hS'.2.1.2
  obtain ⟨s1, s2⟩ := tK_rng (T := G0 237) (n := G0 230 8) (p := (pNs (G0 237) (G0 230 8) x 0 (x.2.2.2 0 - 1)).1)
  have r17 : G' 230 17 = tK (G0 237) (G0 230 8) (pNs (G0 237) (G0 230 8) x 0 (x.2.2.2 0 - 1)).1 := hS'.2.2.2.1.2.2.1
  have r18 : G' 230 18 = tV (G0 237) (G0 230 8) (pNs (G0 237) (G0 230 8) x 0 (x.2.2.2 0 - 1)).1 := hS'.2.2.2.1.2.2.2.1
  have rD : G' 232 = x.2.2.2 := hS'.2.2.2.2.1.2.2.trans eD
  refine zs_istore1 (ip' := 23) rfl rfl ?_
  refine zs_aload (ip' := 24) rfl rfl rfl ?_
  refine zs_getI (ip' := 25) rfl rfl (by omega) zsh_230 rfl (q := 18) rfl ?_
  intro hl24 hu24
  rw [r18] at hl24 hu24 ⊢
  refine zs_istore2 (ip' := 26) rfl rfl ?_
  refine zs_aload (ip' := 27) rfl rfl rfl ?_
  refine zs_aload (ip' := 28) rfl rfl rfl ?_
  refine zs_getI (ip' := 29) rfl rfl (by omega) zsh_230 rfl (q := 17) rfl ?_
  intro hl28 hu28
  rw [r17] at hl28 hu28 ⊢
  refine zs_pushI (ip' := 30) rfl rfl zi_k2 ?_
  refine zs_icmp_ne (t := 55) (ip' := 31) rfl rfl (by omega) (by omega) ?_ ?_
  · intro h30
    refine zs_pushI (ip' := 56) rfl rfl zi_k0 ?_
    have := cM_tr56 (n := n') (u := pNv (G0 237) (G0 230 8) x 0 (x.2.2.2 0 - 1)) hN hS' (by omega) (by rw [eD]; exact hD) (by rw [eD]; exact h5)
    rw [zb_f (fun q => h30 q.1)] at this
    exact this
  · intro h30
    refine zs_iload (ip' := 32) rfl rfl rfl ?_
    refine zs_aload (ip' := 33) rfl rfl rfl ?_
    refine zs_getR (ip' := 34) rfl rfl (r := 232) (by omega) zsh_230 rfl ?_
    refine zs_pushI (ip' := 35) rfl rfl zi_k1 ?_
    refine zs_iald (ip' := 36) rfl rfl (by omega) zsh_232 (by omega) ?_
    intro hl35 hu35
    rw [rD] at hl35 hu35 ⊢
    refine zs_icmp_ge (t := 55) (ip' := 37) rfl rfl (by omega) (by omega) ?_ ?_
    · intro h36
      refine zs_pushI (ip' := 56) rfl rfl zi_k0 ?_
      have := cM_tr56 (n := n') (u := pNv (G0 237) (G0 230 8) x 0 (x.2.2.2 0 - 1)) hN hS' (by omega) (by rw [eD]; exact hD) (by rw [eD]; exact h5)
      rw [zb_f (fun q => by have := q.2.1; rw [eD] at this; omega)] at this
      exact this
    · intro h36
      refine zs_aload (ip' := 38) rfl rfl rfl ?_
      refine zs_getR (ip' := 39) rfl rfl (r := 232) (by omega) zsh_230 rfl ?_
      refine zs_iload (ip' := 40) rfl rfl rfl ?_
      refine zs_iload (ip' := 41) rfl rfl rfl ?_
      refine zW_cP (ip' := 42) rfl rfl cM_cellAt rfl rfl rfl ?_
      refine zs_iald (ip' := 43) rfl rfl (by omega) zsh_232 (by omega) ?_
      intro hl42 hu42
      rw [rD] at hl42 hu42 ⊢
      refine zs_pushI (ip' := 44) rfl rfl zi_k1 ?_
      refine zs_icmp_eq (t := 55) (ip' := 45) rfl rfl (by omega) (by omega) ?_ ?_
      · intro h44
        refine zs_pushI (ip' := 56) rfl rfl zi_k0 ?_
        have := cM_tr56 (n := n') (u := pNv (G0 237) (G0 230 8) x 0 (x.2.2.2 0 - 1)) hN hS' (by omega) (by rw [eD]; exact hD) (by rw [eD]; exact h5)
        rw [zb_f (fun q => q.2.2.1 (by rw [eD]; exact h44))] at this
        exact this
      · intro h44
        refine zs_aload (ip' := 46) rfl rfl rfl ?_
        refine zs_getR (ip' := 47) rfl rfl (r := 232) (by omega) zsh_230 rfl ?_
        refine zs_iload (ip' := 48) rfl rfl rfl ?_
        refine zs_iload (ip' := 49) rfl rfl rfl ?_
        refine zW_cP (ip' := 50) rfl rfl cM_cellAt rfl rfl rfl ?_
        refine zs_iald (ip' := 51) rfl rfl (by omega) zsh_232 (by omega) ?_
        intro hl50 hu50
        rw [rD] at hl50 hu50 ⊢
        refine zs_pushI (ip' := 52) rfl rfl zi_k2 ?_
        refine zs_icmp_eq (t := 55) (ip' := 53) rfl rfl (by omega) (by omega) ?_ ?_
        · intro h52
          refine zs_pushI (ip' := 56) rfl rfl zi_k0 ?_
          have := cM_tr56 (n := n') (u := pNv (G0 237) (G0 230 8) x 0 (x.2.2.2 0 - 1)) hN hS' (by omega) (by rw [eD]; exact hD) (by rw [eD]; exact h5)
          rw [zb_f (fun q => q.2.2.2 (by rw [eD]; exact h52))] at this
          exact this
        · intro h52
          refine zs_pushI (ip' := 54) rfl rfl zi_k1 ?_
          refine zs_goto (t := 56) rfl ?_
          have := cM_tr56 (n := n') (u := pNv (G0 237) (G0 230 8) x 0 (x.2.2.2 0 - 1)) hN hS' (by omega) (by rw [eD]; exact hD) (by rw [eD]; exact h5)
          rw [zb_t ⟨h30, by rw [eD]; omega, by rw [eD]; exact h44, by rw [eD]; exact h52⟩] at this
          exact this
theorem cM_tr10 {N : Nat} (hN : 241 ≤ N) {G0 F0 G F : GM} {n : Nat} {x : zTx} (hS : zPS G0 F0 x G F) {c1 c2 : Value} (hD : pD x.2.2.2) : zW N 59 10 [.ref 230, c1, c2] [.int (zi (zb (x.2.2.2 5 < 6))), .ref 230] G F n (zV fun G' F' n' => zPS G0 F0 (pWalker (G0 237) (G0 230 8) x) G' F' ∧ n' = n) := by
  refine zW_cR (ip' := 11) rfl rfl (cM_takes hN hS) rfl rfl (z_ok3 (by omega) zsh_230 rfl rfl rfl) ?_
  rintro v G' F' n' _ ⟨rfl, hS', rfl⟩
  refine zs_if_neB (t := 13) (ip' := 12) rfl rfl ?_ ?_
  · intro h11
    have e : pWalker (G0 237) (G0 230 8) x = pW2 (G0 237) (G0 230 8) (pTk (G0 237) (G0 230 8) x (x.2.2.2 5 < 6)) := if_pos h11
    rw [e]
    exact cM_tr13 hN hS' (by rw [pTk_D]; exact hD) (by rw [pTk_D]; exact h11.2)
  · intro h11
    refine zW_1 rfl ?_
    have e : pWalker (G0 237) (G0 230 8) x = pTk (G0 237) (G0 230 8) x (x.2.2.2 5 < 6) := if_neg h11
    exact ⟨rfl, by rw [e]; exact hS', rfl⟩
theorem cM_readTraveller {N : Nat} (hN : 241 ≤ N) {G0 F0 G F : GM} {n : Nat} {x : zTx} (hS : zPS G0 F0 x G F) (hD : pD x.2.2.2) : zC N 59 [.ref 230] G F n (zV fun G' F' n' => zPS G0 F0 (pWalker (G0 237) (G0 230 8) x) G' F' ∧ n' = n) := by
  obtain ⟨hBG, e37, e8⟩ := zPS_ba hS
  obtain ⟨hB, hx, hw, ⟨a1, a2, a3, a4, a5⟩, ⟨w1, w2, w3⟩, hk, hj, hf⟩ := id hS
  have hb := tB_rng (T := G0 237) hx.2
  have he := tE_rng (T := G0 237) hx.2
  obtain ⟨v1, v2⟩ := tV_rng (T := G0 237) hx.2
  obtain ⟨k1, k2⟩ := tK_rng (T := G0 237) (n := G0 230 8) (p := x.1)
  obtain ⟨n1, n2⟩ := hB.1
  obtain ⟨⟨d0, d0'⟩, ⟨d1, d1'⟩, ⟨d4, d4'⟩, d5, d5'⟩ := id hD
  refine zC_i (L0 := [.ref 230, .null, .null]) rfl ?_
  refine zs_aload (ip' := 1) rfl rfl rfl ?_
  refine zs_aload (ip' := 2) rfl rfl rfl ?_
  refine zs_getR (ip' := 3) rfl rfl (r := 232) (by omega) zsh_230 rfl ?_
  refine zs_pushI (ip' := 4) rfl rfl zi_k5 ?_
  refine zs_iald (ip' := 5) rfl rfl (by omega) zsh_232 (by omega) ?_
  intro hl4 hu4
  rw [w3] at hl4 hu4 ⊢
  refine zs_pushI (ip' := 6) rfl rfl zi_k6 ?_
  refine zs_icmp_ge (t := 9) (ip' := 7) rfl rfl (by omega) (by omega) ?_ ?_
  · intro h6
    refine zs_pushI (ip' := 10) rfl rfl zi_k0 ?_
    have := cM_tr10 (n := n) (c1 := .null) (c2 := .null) hN hS hD
    rw [zb_f (by omega)] at this
    exact this
  · intro h6
    refine zs_pushI (ip' := 8) rfl rfl zi_k1 ?_
    refine zs_goto (t := 10) rfl ?_
    have := cM_tr10 (n := n) (c1 := .null) (c2 := .null) hN hS hD
    rw [zb_t h6] at this
    exact this
