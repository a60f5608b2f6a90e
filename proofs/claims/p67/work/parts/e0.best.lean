/-! The best clearness; what the forecasts say of later hours. -/
noncomputable def cB (t : Int → Int) (i : Int) : Int := sCount (sTicks (zp t 2 i) 300) 1
theorem sBest_is {t : Int → Int} (hc : ∀ i : Int, 0 ≤ i → i ≤ 20 → 0 ≤ cB t i) : ∀ k : Nat, 0 < k → (k : Int) ≤ 21 → (0 ≤ (sBest t k).1 ∧ (sBest t k).1 < k) ∧ (sBest t k).2 = cB t (sBest t k).1 ∧ ∀ i : Int, 0 ≤ i → i < k → cB t i ≤ (sBest t k).2 ∧ (i < (sBest t k).1 → cB t i < (sBest t k).2) := by
  intro k
  induction k with
  | zero => intro h; omega
  | succ k ih =>
    intro _ hk
    have hs : sBest t (k + 1) = if cB t (k : Int) ≤ (sBest t k).2 then sBest t k else ((k : Int), cB t (k : Int)) := rfl
    have h0 := hc (k : Int) (by omega) (by omega)
    by_cases e : k = 0
    · subst e
      have e2 : (sBest t 0).2 = -1 := rfl
      rw [hs, if_neg (by omega)]
      dsimp only
      generalize hc0 : cB t = f at *
      refine ⟨⟨by omega, by omega⟩, rfl, fun i i0 i1 => ?_⟩
      obtain rfl : i = ((0 : Nat) : Int) := by omega
      exact ⟨Int.le_refl _, fun h => by omega⟩
    · obtain ⟨⟨a1, a2⟩, a3, a4⟩ := ih (by omega) (by omega)
      by_cases h : cB t (k : Int) ≤ (sBest t k).2
      · rw [hs, if_pos h]
        refine ⟨⟨a1, by omega⟩, a3, fun i i0 i1 => ?_⟩
        by_cases ei : i = (k : Int)
        · rw [ei]
          exact ⟨h, fun h9 => by omega⟩
        · exact a4 i i0 (by omega)
      · rw [hs, if_neg h]
        dsimp only
        generalize hc0 : cB t = f at *
        refine ⟨⟨by omega, by omega⟩, rfl, fun i i0 i1 => ?_⟩
        by_cases ei : i = (k : Int)
        · rw [ei]
          exact ⟨Int.le_refl _, fun h9 => by omega⟩
        · have := (a4 i i0 (by omega)).1
          exact ⟨by omega, fun _ => by omega⟩
section E0
variable {s : Int → Int} {w : Int}
/-- a traveller that stops by then, or not -/
theorem until_is (hok : mOk s) (h3 : s 3 ≤ 9999) (w0 : 0 ≤ w) (hz : s (214 + 7 * w + 2) = 0) : (sUntil s w < 0 ∧ sTicks s 300 (214 + 7 * w + 2) = 0) ∨ (∃ j : Nat, j < 300 ∧ sUntil s w = (j : Int) ∧ sTicks s (j + 1) (214 + 7 * w + 2) ≠ 0 ∧ sTicks s 300 (214 + 7 * w + 2) = sTicks s (j + 1) (214 + 7 * w + 2) ∧ sTicks s j (214 + 7 * w + 2) = 0) := by
  by_cases h : ∃ j : Nat, j < 300 ∧ sTicks s (j + 1) (214 + 7 * w + 2) ≠ 0
  · right
    have key : ∀ n : Nat, (∃ j : Nat, j ≤ n ∧ j < 300 ∧ sTicks s (j + 1) (214 + 7 * w + 2) ≠ 0) → ∃ j : Nat, j < 300 ∧ sTicks s (j + 1) (214 + 7 * w + 2) ≠ 0 ∧ ∀ i : Nat, i < j → sTicks s (i + 1) (214 + 7 * w + 2) = 0 := by
      intro n
      induction n with
      | zero =>
        rintro ⟨j, j0, j1, j2⟩
        exact ⟨j, j1, j2, fun i hi => by omega⟩
      | succ n ih =>
        rintro ⟨j, j0, j1, j2⟩
        by_cases hn : ∃ j : Nat, j ≤ n ∧ j < 300 ∧ sTicks s (j + 1) (214 + 7 * w + 2) ≠ 0
        · exact ih hn
        · refine ⟨j, j1, j2, fun i hi => Decidable.byContradiction (fun h9 => hn ⟨i, by omega, by omega, h9⟩)⟩
    obtain ⟨j0, j1, j2⟩ := h
    obtain ⟨j, a1, a2, a3⟩ := key j0 ⟨j0, Nat.le_refl _, j1, j2⟩
    have hw : sTicks s 300 (214 + 7 * w + 2) = sTicks s (j + 1) (214 + 7 * w + 2) := by
      have := sTicks_2 hok w0 a2 (300 - (j + 1)) (by omega)
      rw [show j + 1 + (300 - (j + 1)) = 300 by omega] at this
      exact this
    have hj0 : s (214 + 7 * w + 2) = 0 → sTicks s j (214 + 7 * w + 2) = 0 := fun hz => by
      cases j with
      | zero => exact hz
      | succ j => exact a3 j (by omega)
    exact ⟨j, a1, sUntil_at hok h3 w0 a1 (hj0 hz) a2, a2, hw, hj0 hz⟩
  · left
    have h9 : sTicks s 300 (214 + 7 * w + 2) = 0 := Decidable.byContradiction (fun h9 => h ⟨299, by omega, h9⟩)
    exact ⟨sUntil_no hok h3 w0 h9, h9⟩
end E0
