/-! The reference model: tokens are taken (printed by wip/whole/src28.py). -/
section PSL
variable {G0 F0 G F G' F' : GM} {x : zTx}
theorem zPS_ba (h : zPS G0 F0 x G F) : zBa G ∧ G 237 = G0 237 ∧ G 230 8 = G0 230 8 := by
  obtain ⟨hB, -, -, -, -, hk, hj, -⟩ := h
  have e1 : G 237 = G0 237 := hk 237 (by decide) (by decide)
  have e2 : G 230 8 = G0 230 8 := hj 8 (by decide) (by decide) (by decide) (by decide) (by decide) (by decide)
  refine ⟨?_, e1, e2⟩
  unfold zBa
  rw [e1, e2]
  exact hB
theorem zPS_next (h : zPS G0 F0 x G F) (h2 : zNx G F (tE (G0 237) (G0 230 8) x.1) G' F') : zPS G0 F0 (pNx (G0 237) (G0 230 8) x) G' F' := by
  obtain ⟨-, e1, e2⟩ := zPS_ba h
  obtain ⟨hB, hx, hw, -, ⟨w1, w2, w3⟩, hk, hj, hf⟩ := h
  obtain ⟨⟨a1, a2, a3, a4, a5⟩, b1, b2, b3⟩ := h2
  rw [e1, e2] at a1 a2 a3 a4 a5
  have hE := tE_rng (T := G0 237) hx.2
  have hb := tB_rng (T := G0 237) hx.2
  exact ⟨hB, ⟨by show 0 ≤ tE (G0 237) (G0 230 8) x.1; omega, by show tE (G0 237) (G0 230 8) x.1 ≤ G0 230 8; omega⟩, hw, ⟨a1, a2, a3, a4, a5⟩, ⟨(b2 20 (by decide) (by decide) (by decide) (by decide)).trans w1, (b2 9 (by decide) (by decide) (by decide) (by decide)).trans w2, (b1 232 (by decide)).trans w3⟩,
    fun k k0 k1 => (b1 k k0).trans (hk k k0 k1), fun j j0 j1 j2 j3 j4 j5 => (b2 j j1 j2 j3 j4).trans (hj j j0 j1 j2 j3 j4 j5), fun k k0 => (b3 k k0).trans (hf k k0)⟩
theorem zPS_wrong (h : zPS G0 F0 x G F) : zPS G0 F0 (x.1, 1, tB (G0 237) (G0 230 8) x.1, x.2.2.2) (zk (zk G 230 (zp (G 230) 20 1)) 230 (zp (zk G 230 (zp (G 230) 20 1) 230) 9 (zk G 230 (zp (G 230) 20 1) 230 16))) F := by
  obtain ⟨hB, hx, hw, ⟨a1, a2, a3, a4, a5⟩, ⟨w1, w2, w3⟩, hk, hj, hf⟩ := h
  rw [zk_eq, zk_zk, zp_ne (by decide : (16 : Int) ≠ 20)]
  refine ⟨hB, hx, Or.inr rfl, ⟨?_, ?_, ?_, ?_, a5⟩, ⟨?_, ?_, ?_⟩, fun k k0 k1 => (zk_ne k0).trans (hk k k0 k1), fun j j0 j1 j2 j3 j4 j5 => ?_, hf⟩
  · rw [zk_eq, zp_ne (by decide), zp_ne (by decide)]; exact a1
  · rw [zk_eq, zp_ne (by decide), zp_ne (by decide)]; exact a2
  · rw [zk_eq, zp_ne (by decide), zp_ne (by decide)]; exact a3
  · rw [zk_eq, zp_ne (by decide), zp_ne (by decide)]; exact a4
  · rw [zk_eq, zp_ne (by decide), zp_eq]
  · rw [zk_eq, zp_eq]; exact a2
  · rw [zk_ne (by decide)]; exact w3
  · rw [zk_eq, zp_ne j0, zp_ne j5]; exact hj j j0 j1 j2 j3 j4 j5
theorem zPS_D {D : Int → Int} (h : zPS G0 F0 x G F) : zPS G0 F0 (pSt x D) (zk G 232 D) F := by
  obtain ⟨hB, hx, hw, a, ⟨w1, w2, w3⟩, hk, hj, hf⟩ := h
  have e : zk G 232 D 230 = G 230 := zk_ne (by decide)
  unfold zPS
  rw [e]
  exact ⟨hB, hx, hw, a, ⟨w1, w2, zk_eq _ _ _⟩, fun k k0 k1 => (zk_ne k1).trans (hk k k0 k1), hj, hf⟩
end PSL
def pD (D : Int → Int) : Prop := (0 ≤ D 0 ∧ D 0 ≤ 12) ∧ (0 ≤ D 1 ∧ D 1 ≤ 12) ∧ (0 ≤ D 4 ∧ D 4 ≤ 8) ∧ (0 ≤ D 5 ∧ D 5 ≤ 6)
section PX
variable {T : Int → Int} {n : Int} {x : zTx}
theorem pTk_D (c : Prop) [Decidable c] : (pTk T n x c).2.2.2 = x.2.2.2 := by
  unfold pTk
  split
  · rfl
  · split <;> rfl
theorem pNv_rng {lo hi : Int} (h : 0 ≤ lo) : 0 ≤ pNv T n x lo hi ∧ (pNv T n x lo hi = lo ∨ (lo ≤ pNv T n x lo hi ∧ pNv T n x lo hi ≤ hi)) := by
  unfold pNv
  split
  · rename_i c
    obtain ⟨-, -, c1, c2⟩ := c
    exact ⟨by omega, Or.inr ⟨c1, c2⟩⟩
  · exact ⟨h, Or.inl rfl⟩
end PX
