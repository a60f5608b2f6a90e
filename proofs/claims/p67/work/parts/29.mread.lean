/-! The reference model: rows and fogs are read (printed by wip/whole/src29.py). -/
theorem pRowD_s (T D : Int → Int) (b y : Int) {k : Int} (hk : 0 ≤ k) : zp (pRowD T D b y k) (30 + 12 * y + k) (pCell (T (b + k))) = pRowD T D b y (k + 1) := by
  funext j
  unfold zp pRowD
  by_cases h : j = 30 + 12 * y + k
  · rw [if_pos h, if_pos (by omega), show j - (30 + 12 * y) = k by omega]
  · rw [if_neg h]
    by_cases h2 : 30 + 12 * y ≤ j ∧ j < 30 + 12 * y + k
    · rw [if_pos h2, if_pos (by omega)]
    · rw [if_neg h2, if_neg (by omega)]
theorem pRowD_0 (T D : Int → Int) (b y : Int) : pRowD T D b y 0 = D := by
  funext j
  exact if_neg (by omega)
theorem pRowD_o (T D : Int → Int) (b k : Int) {y j : Int} (hy : 0 ≤ y) (hj : j < 30) : pRowD T D b y k j = D j := if_neg (by omega)
theorem pD_c {D : Int → Int} {T : Int → Int} {b y k : Int} (h : pD D) (hy : 0 ≤ y) : pD (pRowD T D b y k) := by
  unfold pD
  rw [pRowD_o T D b k hy (by omega), pRowD_o T D b k hy (by omega), pRowD_o T D b k hy (by omega), pRowD_o T D b k hy (by omega)]
  exact h
