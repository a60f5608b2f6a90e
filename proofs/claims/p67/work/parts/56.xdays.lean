/-! The program: quiet days, states that stay (by hand). -/
section XD
variable {s u : Int → Int} {w l c : Int}
theorem sTick_qt (hok : mOk (zp u 3 c)) (hc : c < 30000) (hq : sQt (zp u 3 (c + 1)) (u 5).toNat) : sTick (zp u 3 c) = zp u 3 (c + 1) := by
  have e5 : zp u 3 c 5 = u 5 := zp_ne (by omega)
  have e3 : zp u 3 c 3 = c := zp_eq _ _ _
  have b5 := hok.2.2.2.2.2.1
  rw [e5] at b5
  have e0 : sTickR (zp u 3 c) 0 = zp u 3 (c + 1) := by
    show zp (zp u 3 c) 3 (zp u 3 c 3 + 1) = _
    rw [zp_zp, zp_eq]
  have h0 := (sTickR_ok hok (by rw [e3]; exact hc) 0 (by rw [e5]; omega)).1
  rw [e0] at h0
  have key : ∀ k : Nat, k ≤ (u 5).toNat → sTickR (zp u 3 c) k = zp u 3 (c + 1) := by
    intro k
    induction k with
    | zero => intro _; exact e0
    | succ k ih =>
      intro hk
      have hi := ih (by omega)
      have hu : sTickR (zp u 3 c) (k + 1) = if sTickR (zp u 3 c) k (214 + 7 * (k : Int) + 2) = 0 then sAct (sTickR (zp u 3 c) k) k else sTickR (zp u 3 c) k := rfl
      rw [hu, hi]
      by_cases hz : zp u 3 (c + 1) (214 + 7 * (k : Int) + 2) = 0
      · rw [if_pos hz]
        have hneg := hq k (by omega) hz
        exact (if_pos hneg : sAct (zp u 3 (c + 1)) k = sAim (zp u 3 (c + 1)) k).trans (sAim_self h0 (by omega) (by rw [zp_ne (by omega)]; omega) hneg)
      · rw [if_neg hz]
  unfold sTick
  rw [e5]
  exact key _ (Nat.le_refl _)
theorem sTicks_qt {n : Nat} (hu : sTicks s n = u) (hok : mOk u) (hc : u 3 = c) (hq : ∀ d : Int, c - 24 < d → d ≤ c → sQt (zp u 3 d) (u 5).toNat) : ∀ m : Nat, c + m ≤ 30000 → sTicks s (n + m) = zp u 3 (c + m) := by
  intro m
  induction m with
  | zero =>
    intro _
    rw [show c + ((0 : Nat) : Int) = u 3 by omega, zp_self]
    exact hu
  | succ m ih =>
    intro hm
    have e : sTicks s (n + (m + 1)) = sTick (sTicks s (n + m)) := rfl
    rw [e, ih (by omega), show c + ((m + 1 : Nat) : Int) = c + (m : Int) + 1 by omega]
    refine sTick_qt (mOk_t hok (by omega) (by omega)) (by omega) ?_
    exact sQt_tm (c := c - 23 + (c + (m : Int) + 1 - (c - 23)) % 24) (by omega) (hq _ (by omega) (by omega))
theorem sSinkR_2 {w' : Int} (h : w' ≠ w) : ∀ k : Nat, sSinkR s w l k (214 + 7 * w' + 2) = s (214 + 7 * w' + 2) := by
  intro k
  induction k with
  | zero =>
    show zp (zp s (214 + 7 * w + 2) 2) (214 + 7 * w + 3) (-1) (214 + 7 * w' + 2) = _
    rw [zp_ne (by omega), zp_ne (by omega)]
  | succ k ih =>
    unfold sSinkR
    split
    · exact ih
    · split
      · rw [zp_ne (by omega), zp_ne (by omega), ih]
      · rw [zp_ne (by omega), ih]
theorem sSettle_2 {w' : Int} (h : w' ≠ w) : sSettle s w l (214 + 7 * w' + 2) = s (214 + 7 * w' + 2) := by
  unfold sSettle
  split
  · rw [zp_ne (by omega), zp_ne (by omega)]
  · split
    · split
      · exact sSinkR_2 h _
      · unfold sGoOn
        rw [zp_ne (by omega), zp_ne (by omega)]
    · rfl
theorem sMoved_2 {w' : Int} (h : mOk s) (h0 : 0 ≤ w) (h1 : w < s 5) (hw0 : 0 ≤ w') : sMoved s w l (214 + 7 * w' + 2) = s (214 + 7 * w' + 2) := by
  obtain ⟨⟨x0, x1⟩, ⟨y0, y1⟩, -⟩ := h.2.2.2.2.2.2.2.2.2 w h0 h1
  have hb := mOk_hb h
  have e : sStepTo s w (sWay s w l) (214 + 7 * w' + 2) = s (214 + 7 * w' + 2) := by
    unfold sStepTo
    rw [zp_ne (by omega), zp_ne (by omega), zp_ne (by omega)]
  unfold sMoved sLeave
  split
  · exact e
  · rw [zp_ne (by omega)]
    exact e
theorem sAct_2 {w' : Int} (h : mOk s) (h0 : 0 ≤ w) (h1 : w < s 5) (hw : w' ≠ w) (hw0 : 0 ≤ w') : sAct s w (214 + 7 * w' + 2) = s (214 + 7 * w' + 2) := by
  obtain ⟨k1, z1⟩ := sAim_ok h h0 h1
  have e : sAim s w (214 + 7 * w' + 2) = s (214 + 7 * w' + 2) := by
    unfold sAim
    split
    · rw [zp_ne (by omega)]
    · rfl
  unfold sAct sAct1
  split
  · exact e
  · split
    · rw [sSettle_2 hw, e]
    · split
      · rw [sSettle_2 hw, sMoved_2 k1 h0 (by rw [z1.2.2.2.2.2.1]; exact h1) hw0, e]
      · rw [zp_ne (by omega), zp_ne (by omega), e]
theorem sTickR_2 {q : Int} (hok : mOk s) (ht : s 3 < 30000) (q0 : 0 ≤ q) (hq : s (214 + 7 * q + 2) ≠ 0) : ∀ k : Nat, (k : Int) ≤ s 5 → sTickR s k (214 + 7 * q + 2) = s (214 + 7 * q + 2) := by
  intro k
  induction k with
  | zero =>
    intro _
    exact zp_ne (by omega)
  | succ k ih =>
    intro hk
    have hi := ih (by omega)
    obtain ⟨hk1, hz, -⟩ := sTickR_ok hok ht k (by omega)
    have hu : sTickR s (k + 1) = if sTickR s k (214 + 7 * (k : Int) + 2) = 0 then sAct (sTickR s k) k else sTickR s k := rfl
    rw [hu]
    split
    · rename_i hz0
      by_cases e : q = (k : Int)
      · rw [← e, hi] at hz0
        exact absurd hz0 hq
      · rw [sAct_2 hk1 (by omega) (by rw [hz.2.2.2.2.2.1, zp_ne (by omega)]; omega) e q0]
        exact hi
    · exact hi
theorem sTicks_2 {q : Int} (hok : mOk s) (q0 : 0 ≤ q) {n : Nat} (hq : sTicks s n (214 + 7 * q + 2) ≠ 0) : ∀ m : Nat, s 3 + (n + m : Nat) ≤ 30000 → sTicks s (n + m) (214 + 7 * q + 2) = sTicks s n (214 + 7 * q + 2) := by
  intro m
  induction m with
  | zero => intro _; rfl
  | succ m ih =>
    intro hm
    have hi := ih (by omega)
    obtain ⟨k1, z1⟩ := sTicks_ok hok (n + m) (by omega)
    have e3 : sTicks s (n + m) 3 = s 3 + (n + m : Nat) := by rw [z1.2.2.2.1, zp_eq]
    have b5 := k1.2.2.2.2.2.1
    have e : sTicks s (n + (m + 1)) = sTickR (sTicks s (n + m)) (sTicks s (n + m) 5).toNat := rfl
    rw [e, sTickR_2 k1 (by omega) q0 (by rw [hi]; exact hq) _ (by omega)]
    exact hi
end XD
