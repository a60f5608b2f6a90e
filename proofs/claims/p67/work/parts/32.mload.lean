/-! The reference model: load (printed by wip/whole/src32.py). -/
/-- the model after a load -/
def zLd (G F : GM) (n : Nat) (x : zTx) : Zq := fun o G' F' n' => n' = n ∧ (∀ k, k ≠ 230 → F' k = F k) ∧ (∀ k, k ≠ 230 → k ≠ 231 → k ≠ 232 → k ≠ 236 → G' k = G k) ∧
  (∀ j, j ≠ 6 → j ≠ 8 → j ≠ 9 → j ≠ 10 → j ≠ 15 → j ≠ 16 → j ≠ 17 → j ≠ 18 → j ≠ 20 → G' 230 j = G 230 j) ∧ G' 230 8 = 0 ∧ G' 230 9 = x.2.2.1 ∧
  ((x.2.1 = 1 ∧ o = .inl (some (.int (zi 0))) ∧ G' 230 10 = 1 ∧ G' 230 6 = G 230 6 ∧ G' 231 = G 231 ∧ G' 236 = G 236) ∨
   (x.2.1 = 0 ∧ o = .inl (some (.int (zi (x.2.2.2 5)))) ∧ G' 230 10 = 0 ∧ G' 230 6 = 0 ∧ (G' 236 0 = 0 ∧ G' 236 1 = 0) ∧ ∀ j, 0 ≤ j → j < 256 → G' 231 j = x.2.2.2 j))
theorem zLd_w {G Ga F : GM} {n : Nat} {x : zTx} {o : Zo} {G' F' : GM} {n' : Nat} (hk : ∀ k, k ≠ 230 → k ≠ 232 → Ga k = G k) (hj : ∀ j, j ≠ 10 → Ga 230 j = G 230 j) (h : zLd Ga F n x o G' F' n') : zLd G F n x o G' F' n' := by
  obtain ⟨h1, h2, h3, h4, h5, h6, h7⟩ := h
  refine ⟨h1, h2, fun k a b c d => (h3 k a b c d).trans (hk k a c), fun j a b c d e f g h i => (h4 j a b c d e f g h i).trans (hj j d), h5, h6, h7.imp (fun ⟨a, b, c, d, e, f⟩ => ⟨a, b, c, d.trans (hj 6 (by decide)), e.trans (hk 231 (by decide) (by decide)), f.trans (hk 236 (by decide) (by decide))⟩) (fun q => q)⟩
theorem zNx_PS {G F G' F' : GM} {D : Int → Int} (h : zNx G F 0 G' F') (hB : zBa G) (h20 : G 230 20 = 0) (h9 : G 230 9 = -1) (hD : G 232 = D) : zPS G F ((0, 0, -1, D) : zTx) G' F' := by
  obtain ⟨h1, h2, h3, h4⟩ := h
  obtain ⟨b1, b2⟩ := id hB.1
  exact ⟨hB, ⟨Int.le_refl _, b1⟩, Or.inl rfl, h1, ⟨(h3 20 (by decide) (by decide) (by decide) (by decide)).trans h20, (h3 9 (by decide) (by decide) (by decide) (by decide)).trans h9, (h2 232 (by decide)).trans hD⟩, fun k a _ => h2 k a, fun j _ a b c d _ => h3 j a b c d, h4⟩
