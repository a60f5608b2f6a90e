/-! Older cells stay. -/
/-- older cells are as they were -/
def Yfr (Y0 Y : DY) : Prop := Y0.2.2 ≤ Y.2.2 ∧ ∀ k, k < Y0.2.2 → Y.1 k = Y0.1 k ∧ Y.2.1 k = Y0.2.1 k
section A7
variable {Y Y0 Y1 Y2 : DY}
theorem Yfr_r : Yfr Y Y := ⟨Nat.le_refl _, fun _ _ => ⟨rfl, rfl⟩⟩
theorem Yfr_t (h : Yfr Y0 Y1) (h2 : Yfr Y1 Y2) : Yfr Y0 Y2 := ⟨Nat.le_trans h.1 h2.1, fun k hk => ⟨((h2.2 k (Nat.lt_of_lt_of_le hk h.1)).1).trans (h.2 k hk).1, ((h2.2 k (Nat.lt_of_lt_of_le hk h.1)).2).trans (h.2 k hk).2⟩⟩
theorem Yfr_add {s : Sh} {E : Int → Int} : Yfr Y (w_add Y s E) := ⟨Nat.le_succ _, fun k hk => ⟨w_add_E hk, w_add_lo hk rfl⟩⟩
end A7
