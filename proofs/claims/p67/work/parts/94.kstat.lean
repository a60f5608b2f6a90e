/-! Statics and constants, apart from all new cells. -/
/-- what holds of statics and constants, apart from the cells in A -/
def zZA (L : Nat) (xs : Nat → Int32) (A : Nat → Prop) (ad : Nat → Nat) (U : State) (H : Heap) : Prop :=
  ((∀ q ∈ zNM, va_Nw (.methodLinkNest q.1 q.2.1 q.2.2.1 q.2.2.2) U) ∧ (∀ q ∈ zNF, va_Nw (.fieldLinkNest q.1 q.2.1 q.2.2.1 q.2.2.2.1 q.2.2.2.2.1 q.2.2.2.2.2) U) ∧ (∀ q ∈ zCa, va_Nw (.castable q.1 q.2) U) ∧ (∀ q ∈ zNc, va_Nc q.1 q.2 U) ∧ (∀ q ∈ zMs, ∃ a, vk_R RX8 q.1 q.2 a U) ∧ (∀ q ∈ zSt, vk_R q.1 q.2.1 q.2.2.1 (ad q.2.2.2) U) ∧ (∀ q ∈ zDe, va_Nw (.declares q) U)) ∧
  (vx_Zq Bundle.tN "UNASSIGNED_STACK" Bundle.steD A U H ∧ vx_Zq Bundle.tN "SUPPRESSED_SENTINEL" Bundle.listD A U H ∧ vk_S 10 zSl zSb (fun i => ad (320 + i)) (fun i => ad (340 + i)) A U H ∧
    va_Z "FalseLightMarsh" "STEP_X" "[I" (.ref (ad 300)) A U H ∧ va_T .int (ad 300) 4 (fun j => .int (([0, 1, 0, -1] : List Int32).getD j 0)) A U H ∧ va_Z "FalseLightMarsh" "STEP_Y" "[I" (.ref (ad 301)) A U H ∧ va_T .int (ad 301) 4 (fun j => .int (([-1, 0, 1, 0] : List Int32).getD j 0)) A U H ∧
    va_Z "java/lang/String" "COMPACT_STRINGS" "Z" (.int 1) A U H ∧ va_Zq "jdk/internal/util/Preconditions" "SIOOBE_FORMATTER" "Ljava/util/function/BiFunction;" A U H ∧
    va_X (ad 310) L xs U H ∧ ad 310 < H.size ∧ ¬ A (ad 310))
theorem zZA_K (L : Nat) (xs : Nat → Int32) (A : Nat → Prop) : (∀ ad u U H, U.vm = u.vm → zZA L xs A ad u H → zZA L xs A ad U H) ∧ (∀ (ad : Nat → Nat) (s U : State) H, s.WarmedH U.vm → zZA L xs A ad s H → zZA L xs A ad U H) ∧ (∀ ad U (H H1 : Heap), H.size ≤ H1.size → (∀ q : Nat, q < H.size → ¬ A q → H1[q]? = H[q]?) → zZA L xs A ad U H → zZA L xs A ad U H1) := by
  have alike : ∀ (ad : Nat → Nat) (u U : State) (H : Heap), u.vm.Alike U.vm → (vx_Zq Bundle.tN "UNASSIGNED_STACK" Bundle.steD A u H ∧ vx_Zq Bundle.tN "SUPPRESSED_SENTINEL" Bundle.listD A u H ∧ vk_S 10 zSl zSb (fun i => ad (320 + i)) (fun i => ad (340 + i)) A u H ∧
    va_Z "FalseLightMarsh" "STEP_X" "[I" (.ref (ad 300)) A u H ∧ va_T .int (ad 300) 4 (fun j => .int (([0, 1, 0, -1] : List Int32).getD j 0)) A u H ∧ va_Z "FalseLightMarsh" "STEP_Y" "[I" (.ref (ad 301)) A u H ∧ va_T .int (ad 301) 4 (fun j => .int (([-1, 0, 1, 0] : List Int32).getD j 0)) A u H ∧
    va_Z "java/lang/String" "COMPACT_STRINGS" "Z" (.int 1) A u H ∧ va_Zq "jdk/internal/util/Preconditions" "SIOOBE_FORMATTER" "Ljava/util/function/BiFunction;" A u H ∧
    va_X (ad 310) L xs u H ∧ ad 310 < H.size ∧ ¬ A (ad 310)) → (vx_Zq Bundle.tN "UNASSIGNED_STACK" Bundle.steD A U H ∧ vx_Zq Bundle.tN "SUPPRESSED_SENTINEL" Bundle.listD A U H ∧ vk_S 10 zSl zSb (fun i => ad (320 + i)) (fun i => ad (340 + i)) A U H ∧
    va_Z "FalseLightMarsh" "STEP_X" "[I" (.ref (ad 300)) A U H ∧ va_T .int (ad 300) 4 (fun j => .int (([0, 1, 0, -1] : List Int32).getD j 0)) A U H ∧ va_Z "FalseLightMarsh" "STEP_Y" "[I" (.ref (ad 301)) A U H ∧ va_T .int (ad 301) 4 (fun j => .int (([-1, 0, 1, 0] : List Int32).getD j 0)) A U H ∧
    va_Z "java/lang/String" "COMPACT_STRINGS" "Z" (.int 1) A U H ∧ va_Zq "jdk/internal/util/Preconditions" "SIOOBE_FORMATTER" "Ljava/util/function/BiFunction;" A U H ∧
    va_X (ad 310) L xs U H ∧ ad 310 < H.size ∧ ¬ A (ad 310)) := by
    intro ad u U H hv h
    obtain ⟨h1, h2, h3, h4, h5, h6, h7, h8, h9, h10, h11, h12⟩ := h
    exact ⟨vx_Zq.moved hv h1, vx_Zq.moved hv h2, vk_S.moved hv h3, va_Z.moved hv h4, va_T.moved hv h5, va_Z.moved hv h6, va_T.moved hv h7, va_Z.moved hv h8, va_Zq.moved hv h9, va_X.moved hv h10, h11, h12⟩
  refine ⟨fun ad u U H hv h => ?_, fun ad s U H hW h => ?_, fun ad U H H1 hz hq h => ?_⟩
  · obtain ⟨⟨g1, g2, g3, g4, g5, g6, g7⟩, h⟩ := h
    have ha : u.vm.Alike U.vm := by rw [hv]; exact Vm.Alike.refl _
    exact ⟨⟨fun q hq => va_Nw.same rfl hv.symm (g1 q hq), fun q hq => va_Nw.same rfl hv.symm (g2 q hq), fun q hq => va_Nw.same rfl hv.symm (g3 q hq), fun q hq => va_Nc.moved ha (g4 q hq), fun q hq => by obtain ⟨a, h9⟩ := g5 q hq; exact ⟨a, vk_R.same hv h9⟩, fun q hq => vk_R.same hv (g6 q hq), fun q hq => va_Nw.same rfl hv.symm (g7 q hq)⟩, alike ad u U H ha h⟩
  · obtain ⟨⟨g1, g2, g3, g4, g5, g6, g7⟩, h⟩ := h
    exact ⟨⟨fun q hq => va_Nw.warmM hW (g1 q hq), fun q hq => va_Nw.warmF hW (g2 q hq), fun q hq => va_Nw.warmC hW (g3 q hq), fun q hq => va_Nc.moved hW.alike (g4 q hq), fun q hq => by obtain ⟨a, h9⟩ := g5 q hq; exact ⟨a, vk_R.warm hW h9⟩, fun q hq => vk_R.warm hW (g6 q hq), fun q hq => va_Nw.warmD hW (g7 q hq)⟩, alike ad s U H hW.alike h⟩
  · obtain ⟨g, h1, h2, h3, h4, h5, h6, h7, h8, h9, h10, h11, h12⟩ := h
    refine ⟨g, h1.kept hq, h2.kept hq, h3.kept hq, h4.kept hq, h5.kept hq, h6.kept hq, h7.kept hq, h8.kept hq, va_Zq.kept h9 hq, ?_, Nat.lt_of_lt_of_le h11 hz, h12⟩
    obtain ⟨scr, k1, k2⟩ := h10
    exact ⟨scr, by rw [hq _ h11 h12]; exact k1, k2⟩
theorem zZA_to {L : Nat} {xs : Nat → Int32} {A : Nat → Prop} {N : Nat} {a0 ad : Nat → Nat} {U : State} {H : Heap} (h : zZA L xs A a0 U H) (e : ∀ k, 300 ≤ k → k < 1000 → ad k = a0 k) (hA : ∀ q, z_A N ad q → A q) : zZ L xs N ad U H := by
  obtain ⟨⟨g1, g2, g3, g4, g5, g6, g7⟩, h1, h2, h3, h4, h5, h6, h7, h8, h9, h10, h11, h12⟩ := h
  have hS : vk_S 10 zSl zSb (fun i => ad (320 + i)) (fun i => ad (340 + i)) A U H := by
    refine ⟨fun i hi => ?_, fun i j hi hj => ?_⟩
    · have h := h3.1 i hi
      dsimp only at h ⊢
      rw [e (320 + i) (by omega) (by omega), e (340 + i) (by omega) (by omega)]
      exact h
    · have h := h3.2 i j hi hj
      dsimp only at h ⊢
      rw [e (320 + i) (by omega) (by omega), e (320 + j) (by omega) (by omega)]
      exact h
  unfold zZ
  rw [e 310 (by decide) (by decide), e 300 (by decide) (by decide), e 301 (by decide) (by decide)]
  refine ⟨⟨g1, g2, g3, g4, g5, fun q hq => ?_, g7⟩, h1.narrow hA, h2.narrow hA, hS.narrow hA, h4.narrow hA, h5.narrow hA, h6.narrow hA, h7.narrow hA, h8.narrow hA, va_Zq.narrow h9 hA, h10, h11, fun z => h12 (hA _ z)⟩
  have hz : (zSt.all fun q => Nat.ble 300 q.2.2.2 && Nat.blt q.2.2.2 1000) = true := by decide +kernel
  have h9 := List.all_eq_true.mp hz q hq
  rw [e _ (Nat.le_of_ble_eq_true (Bool.and_eq_true_iff.mp h9).1) (Nat.le_of_ble_eq_true (Bool.and_eq_true_iff.mp h9).2)]
  exact g6 q hq
