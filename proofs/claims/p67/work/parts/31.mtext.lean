/-! The reference model: the text is read (printed by wip/whole/src31.py). -/
theorem zPS_fuel {G0 F0 G F : GM} {x : zTx} (h : zPS G0 F0 x G F) : x.1 ≤ G0 230 8 ∧ 0 ≤ x.2.1 ∧ x.2.1 ≤ 1 ∧ 0 ≤ x.1 ∧ G0 230 8 ≤ 800 := by
  obtain ⟨hB, hx, hw, -⟩ := h
  have := hB.1
  omega
theorem pLoop_D {T : Int → Int} {n v : Int} {f : zTx → zTx} (hf : ∀ x, pD x.2.2.2 → pD (f x).2.2.2) : ∀ (k : Nat) (x : zTx), pD x.2.2.2 → pD (pLoop T n v f k x).2.2.2 := by
  intro k
  induction k with
  | zero => intro x h; exact h
  | succ k ih =>
    intro x h
    unfold pLoop
    split
    · exact ih _ (hf x h)
    · exact h
theorem pSt_D {x : zTx} {D : Int → Int} : (pSt x D).2.2.2 = D := rfl
def pRest (T : Int → Int) (n : Int) (x1 : zTx) : zTx :=
  let x2 := pRows T n (x1.2.2.2 1).toNat x1
  let x3 := pLoop T n 4786 (pFog T n) 802 x2
  let x4 := pLoop T n 6559778 (pLight T n) 802 x3
  let x5 := pLoop T n 5837583086019 (pWalker T n) 802 x4
  if x5.2.1 = 0 ∧ tK T n x5.1 ≠ 0 then pTk T n x5 False else x5
