/-! The reference model: lights and travellers are read (printed by wip/whole/src30.py). -/
section GE
variable {T : Int → Int} {n : Int} {x : zTx}
theorem pTk_ge (c : Prop) [Decidable c] (h : x.1 ≤ n) : x.1 ≤ (pTk T n x c).1 ∧ (pTk T n x c).1 ≤ n := by
  have hb := tB_rng (T := T) h
  have he := tE_rng (T := T) h
  unfold pTk
  split
  · exact ⟨Int.le_refl _, h⟩
  · split
    · exact ⟨by show x.1 ≤ tE T n x.1; omega, by show tE T n x.1 ≤ n; omega⟩
    · exact ⟨Int.le_refl _, h⟩
theorem pNx_ge (h : x.1 ≤ n) : x.1 ≤ (pNx T n x).1 ∧ (pNx T n x).1 ≤ n := by
  have hb := tB_rng (T := T) h
  have he := tE_rng (T := T) h
  exact ⟨by show x.1 ≤ tE T n x.1; omega, by show tE T n x.1 ≤ n; omega⟩
theorem pL8_ge {u v b i f : Int} (h : x.1 ≤ n) : x.1 ≤ (pL8 T n x u v b i f).1 ∧ (pL8 T n x u v b i f).1 ≤ n := by
  unfold pL8
  split
  · exact pTk_ge _ h
  · exact pTk_ge _ h
theorem pL6_ge {u v b i : Int} (h : x.1 ≤ n) : x.1 ≤ (pL6 T n x u v b i).1 ∧ (pL6 T n x u v b i).1 ≤ n := by
  have h1 := pTk_ge (T := T) (pIs T n x 407354 ∨ pIs T n x 3217595) h
  unfold pL6
  split
  · have h2 := pNx_ge (T := T) h1.2
    have h3 := pTk_ge (T := T) (pNc T n (pNx T n (pTk T n x (pIs T n x 407354 ∨ pIs T n x 3217595))) 0 (x.2.2.2 4 - 1)) h2.2
    have h4 := pL8_ge (T := T) (n := n) (x := pNs T n (pNx T n (pTk T n x (pIs T n x 407354 ∨ pIs T n x 3217595))) 0 (x.2.2.2 4 - 1)) (u := u) (v := v) (b := b) (i := i) (f := pNv T n (pNx T n (pTk T n x (pIs T n x 407354 ∨ pIs T n x 3217595))) 0 (x.2.2.2 4 - 1)) h3.2
    have h3' : (pNx T n (pTk T n x (pIs T n x 407354 ∨ pIs T n x 3217595))).1 ≤ (pNs T n (pNx T n (pTk T n x (pIs T n x 407354 ∨ pIs T n x 3217595))) 0 (x.2.2.2 4 - 1)).1 := h3.1
    exact ⟨by omega, h4.2⟩
  · have h4 := pL8_ge (T := T) (u := u) (v := v) (b := b) (i := i) (f := -1) h1.2
    exact ⟨by omega, h4.2⟩
theorem pL3_ge {u : Int} (h : x.1 ≤ n) : x.1 ≤ (pL3 T n x u).1 ∧ (pL3 T n x u).1 ≤ n := by
  have h1 := pTk_ge (T := T) (pLc T n x u) h
  unfold pL3
  split
  · have h2 := pTk_ge (T := T) (pNc T n (pTk T n x (pLc T n x u)) 0 9) h1.2
    have h3 := pL6_ge (T := T) (n := n) (x := pNs T n (pTk T n x (pLc T n x u)) 0 9) (u := u) (v := tV T n x.1) (b := pNv T n (pTk T n x (pLc T n x u)) 0 9) (i := zb (pIs T n (pNs T n (pTk T n x (pLc T n x u)) 0 9) 407354)) h2.2
    have h2' : (pTk T n x (pLc T n x u)).1 ≤ (pNs T n (pTk T n x (pLc T n x u)) 0 9).1 := h2.1
    exact ⟨by show x.1 ≤ (pL6 T n (pNs T n (pTk T n x (pLc T n x u)) 0 9) u (tV T n x.1) _ _).1; omega, h3.2⟩
  · exact h1
theorem pW3_ge {u : Int} (h : x.1 ≤ n) : x.1 ≤ (pW3 T n x u).1 ∧ (pW3 T n x u).1 ≤ n := by
  have h1 := pTk_ge (T := T) (pWc T n x u) h
  unfold pW3
  split
  · unfold pW4
    split
    · have h2 := pTk_ge (T := T) (tK T n (pTk T n x (pWc T n x u)).1 = 3) h1.2
      exact ⟨by show x.1 ≤ (pTk T n (pTk T n x (pWc T n x u)) _).1; omega, h2.2⟩
    · have h2 := pTk_ge (T := T) (tK T n (pTk T n x (pWc T n x u)).1 = 3) h1.2
      exact ⟨by omega, h2.2⟩
  · exact h1
/-- a word stands there: what comes behind it lies further on -/
theorem tE_gt (h : x.1 ≤ n) (hk : tK T n x.1 ≠ 0) : x.1 + 1 ≤ tE T n x.1 := by
  have hb := tB_rng (T := T) h
  have he := tE_rng (T := T) h
  have : tB T n x.1 ≠ n := fun e => hk (if_pos e)
  omega
theorem pFog_gt (h : x.1 ≤ n) (hk : tK T n x.1 ≠ 0) : x.1 + 1 ≤ (pFog T n x).1 := by
  have h0 := tE_gt h hk
  have h1 := pNx_ge (T := T) h
  have h1' : tE T n x.1 = (pNx T n x).1 := rfl
  have h2 := pTk_ge (T := T) (pNc T n (pNx T n x) 0 23) h1.2
  have h3 := pTk_ge (T := T) (pNc T n (pTk T n (pNx T n x) (pNc T n (pNx T n x) 0 23)) 0 9) h2.2
  have h4 := pTk_ge (T := T) (tK T n (pTk T n (pTk T n (pNx T n x) (pNc T n (pNx T n x) 0 23)) (pNc T n (pTk T n (pNx T n x) (pNc T n (pNx T n x) 0 23)) 0 9)).1 = 3) h3.2
  unfold pFog pF3 pNs
  split
  · show x.1 + 1 ≤ (pTk T n (pTk T n (pTk T n (pNx T n x) (pNc T n (pNx T n x) 0 23)) (pNc T n (pTk T n (pNx T n x) (pNc T n (pNx T n x) 0 23)) 0 9)) _).1
    omega
  · omega
theorem pLight_gt (h : x.1 ≤ n) (hk : tK T n x.1 ≠ 0) (hw : x.2.1 = 0) : x.1 + 1 ≤ (pLight T n x).1 ∨ (x.1 ≤ (pLight T n x).1 ∧ (pLight T n x).2.1 = 1) := by
  have h0 := tE_gt h hk
  unfold pLight
  split
  · rename_i hc
    left
    have h1 := pTk_ge (T := T) (x.2.2.2 4 < 8) h
    have e1 : (pTk T n x (x.2.2.2 4 < 8)).1 = tE T n x.1 := by
      unfold pTk
      rw [if_neg (fun q => q hw), if_pos hc.2]
    have h2 := pTk_ge (T := T) (pNc T n (pTk T n x (x.2.2.2 4 < 8)) 0 ((pTk T n x (x.2.2.2 4 < 8)).2.2.2 0 - 1)) h1.2
    have h3 := pL3_ge (T := T) (u := pNv T n (pTk T n x (x.2.2.2 4 < 8)) 0 ((pTk T n x (x.2.2.2 4 < 8)).2.2.2 0 - 1)) h2.2
    show x.1 + 1 ≤ (pL3 T n (pTk T n (pTk T n x (x.2.2.2 4 < 8)) _) _).1
    omega
  · rename_i hc
    right
    have hc' : ¬ x.2.2.2 4 < 8 := fun q => hc ⟨hw, q⟩
    unfold pTk
    rw [if_neg (fun q => q hw), if_neg hc']
    exact ⟨Int.le_refl _, rfl⟩
theorem pWalker_gt (h : x.1 ≤ n) (hk : tK T n x.1 ≠ 0) (hw : x.2.1 = 0) : x.1 + 1 ≤ (pWalker T n x).1 ∨ (x.1 ≤ (pWalker T n x).1 ∧ (pWalker T n x).2.1 = 1) := by
  have h0 := tE_gt h hk
  unfold pWalker
  split
  · rename_i hc
    left
    have h1 := pTk_ge (T := T) (x.2.2.2 5 < 6) h
    have e1 : (pTk T n x (x.2.2.2 5 < 6)).1 = tE T n x.1 := by
      unfold pTk
      rw [if_neg (fun q => q hw), if_pos hc.2]
    have h2 := pTk_ge (T := T) (pNc T n (pTk T n x (x.2.2.2 5 < 6)) 0 ((pTk T n x (x.2.2.2 5 < 6)).2.2.2 0 - 1)) h1.2
    have h3 := pW3_ge (T := T) (u := pNv T n (pTk T n x (x.2.2.2 5 < 6)) 0 ((pTk T n x (x.2.2.2 5 < 6)).2.2.2 0 - 1)) h2.2
    show x.1 + 1 ≤ (pW3 T n (pTk T n (pTk T n x (x.2.2.2 5 < 6)) _) _).1
    omega
  · rename_i hc
    right
    have hc' : ¬ x.2.2.2 5 < 6 := fun q => hc ⟨hw, q⟩
    unfold pTk
    rw [if_neg (fun q => q hw), if_neg hc']
    exact ⟨Int.le_refl _, rfl⟩
/-! what the draft keeps -/
theorem pRow_D {y j : Int} (hy : 0 ≤ y) (hj : j < 30) : (pRow T n y x).2.2.2 j = x.2.2.2 j := by
  have e3 : ∀ z : zTx, (pR3 T n z).2.2.2 = z.2.2.2 := fun z => by
    unfold pR3
    rw [pTk_D, pTk_D]
  unfold pRow
  split
  · rw [pTk_D]
  · unfold pR1
    split
    · rw [e3]
      show pRowD T (pTk T n x (pIs T n x 13550)).2.2.2 _ y _ j = _
      rw [pRowD_o _ _ _ _ hy hj, pTk_D]
    · rw [e3, pTk_D]
theorem pRows_D (k : Nat) {j : Int} (hj : j < 30) : (pRows T n k x).2.2.2 j = x.2.2.2 j := by
  induction k with
  | zero => rfl
  | succ k ih =>
    show (pRow T n k (pRows T n k x)).2.2.2 j = _
    rw [pRow_D (by omega) hj, ih]
theorem pD_of {D D' : Int → Int} (h : pD D) (e0 : D' 0 = D 0) (e1 : D' 1 = D 1) (e4 : D' 4 = D 4) (e5 : D' 5 = D 5) : pD D' := by
  unfold pD
  rw [e0, e1, e4, e5]
  exact h
theorem pFog_D (h : pD x.2.2.2) : pD (pFog T n x).2.2.2 := by
  have hv := pNv_rng (T := T) (n := n) (x := pNx T n x) (lo := 0) (hi := 23) (by omega)
  have e : (pNs T n (pNs T n (pNx T n x) 0 23) 0 9).2.2.2 = x.2.2.2 := by
    unfold pNs
    rw [pTk_D, pTk_D]
    rfl
  unfold pFog pF3
  split
  · show pD (zp (pNs T n (pNs T n (pNx T n x) 0 23) 0 9).2.2.2 _ _)
    rw [e]
    exact pD_of h (zp_ne (by omega)) (zp_ne (by omega)) (zp_ne (by omega)) (zp_ne (by omega))
  · rw [pTk_D, e]
    exact h
theorem pL8_D {u v b i f : Int} (h : pD x.2.2.2) (h4 : x.2.2.2 4 < 8) : pD (pL8 T n x u v b i f).2.2.2 := by
  obtain ⟨a0, a1, a4, a5⟩ := h
  unfold pL8
  split
  · show pD (zp (sAddL x.2.2.2 u v b i) _ f)
    have e4 : sAddL x.2.2.2 u v b i 4 = x.2.2.2 4 + 1 := zp_eq _ _ _
    have eo : ∀ j, j ≠ 4 → j < 174 → sAddL x.2.2.2 u v b i j = x.2.2.2 j := fun j j0 j1 => by
      unfold sAddL
      rw [zp_ne j0, zp_ne (by omega), zp_ne (by omega), zp_ne (by omega), zp_ne (by omega), zp_ne (by omega)]
    unfold pD
    rw [zp_ne (by omega), zp_ne (by omega), zp_ne (by omega), zp_ne (by omega), e4, eo 0 (by omega) (by omega), eo 1 (by omega) (by omega), eo 5 (by omega) (by omega)]
    exact ⟨a0, a1, ⟨by omega, by omega⟩, a5⟩
  · rw [pTk_D]
    exact ⟨a0, a1, a4, a5⟩
theorem pLight_D (h : pD x.2.2.2) : pD (pLight T n x).2.2.2 := by
  unfold pLight
  split
  · rename_i hc
    unfold pL2 pL3
    split
    · unfold pL4 pL6
      split
      · refine pL8_D ?_ ?_
        · unfold pNs pNx
          simp only [pTk_D]
          exact h
        · unfold pNs pNx
          simp only [pTk_D]
          exact hc.2
      · refine pL8_D ?_ ?_
        · unfold pNs
          simp only [pTk_D]
          exact h
        · unfold pNs
          simp only [pTk_D]
          exact hc.2
    · unfold pNs
      simp only [pTk_D]
      exact h
  · rw [pTk_D]
    exact h
theorem pWalker_D (h : pD x.2.2.2) : pD (pWalker T n x).2.2.2 := by
  obtain ⟨a0, a1, a4, a5⟩ := h
  unfold pWalker
  split
  · rename_i hc
    unfold pW2 pW3
    split
    · unfold pW4
      split
      · show pD (sAddW _ _ _)
        have e5 : ∀ (D : Int → Int) (u v : Int), sAddW D u v 5 = D 5 + 1 := fun D u v => if_pos rfl
        have eo : ∀ (D : Int → Int) (u v j : Int), 0 ≤ D 5 → j ≠ 5 → j < 214 → sAddW D u v j = D j := fun D u v j d0 j0 j1 => by
          unfold sAddW
          rw [if_neg j0, if_neg (by omega), if_neg (by omega), if_neg (by omega), if_neg (by omega)]
        unfold pD pNs
        simp only [pTk_D]
        rw [e5, eo _ _ _ 0 a5.1 (by omega) (by omega), eo _ _ _ 1 a5.1 (by omega) (by omega), eo _ _ _ 4 a5.1 (by omega) (by omega)]
        exact ⟨a0, a1, a4, by omega, by have := hc.2; omega⟩
      · unfold pNs
        simp only [pTk_D]
        exact ⟨a0, a1, a4, a5⟩
    · unfold pNs
      simp only [pTk_D]
      exact ⟨a0, a1, a4, a5⟩
  · rw [pTk_D]
    exact ⟨a0, a1, a4, a5⟩
end GE
theorem zPS_next_rng {G0 F0 G F : GM} {x : zTx} (h : zPS G0 F0 x G F) : 0 ≤ tE (G0 237) (G0 230 8) x.1 ∧ tE (G0 237) (G0 230 8) x.1 ≤ G 230 8 := by
  obtain ⟨-, -, e2⟩ := zPS_ba h
  obtain ⟨hB, hx, -⟩ := h
  have hE := tE_rng (T := G0 237) hx.2
  have hb := tB_rng (T := G0 237) hx.2
  rw [e2]
  omega
