/-! Every change keeps what the law asks of a row. -/
section DF
variable {s t : Int → Int} {w l : Int} {B : Int}
theorem tI_of (hok : mOk s) (w0 : 0 ≤ w) (w1 : w < s 5) (h : tI s w) (hL : ∀ l, 0 ≤ l → l < s 4 → l < t 4 ∧ t (174 + 5 * l + 0) = s (174 + 5 * l + 0) ∧ t (174 + 5 * l + 1) = s (174 + 5 * l + 1) ∧ t (174 + 5 * l + 3) = s (174 + 5 * l + 3)) (hc : ∀ i, 30 ≤ i → i < 174 → s i = 2 → t i = 2) (hk : wKp s t w) : tI t w := by
  obtain ⟨k0, k1, k2, k3⟩ := hk
  obtain ⟨a, b, c⟩ := h
  obtain ⟨m1, m2, -⟩ := wOk_w hok ⟨w0, w1⟩
  have b0 := hok.1
  have b1 := hok.2.1
  refine ⟨fun h => ?_, fun h => ?_, fun h => ?_⟩
  · rw [k2] at h
    have := a h
    clear c
    omega
  · rw [k2] at h
    rw [k0, k1]
    have e := b h
    clear c
    exact hc (30 + 12 * s (214 + 7 * w + 1) + s (214 + 7 * w + 0)) (by omega) (by omega) e
  · rw [k2] at h
    obtain ⟨l, l0, l1, ⟨o1, o2⟩, l3⟩ := c h
    obtain ⟨e4, e0, e1, e3⟩ := hL l l0 l1
    exact ⟨l, l0, e4, ⟨by rw [k0, e0]; exact o1, by rw [k1, e1]; exact o2⟩, by rw [e3]; exact l3⟩
theorem wKp_e (e : ∀ i, 0 ≤ i → i < 4 → t (214 + 7 * w + i) = s (214 + 7 * w + i)) : wKp s t w := ⟨e 0 (by omega) (by omega), e 1 (by omega) (by omega), e 2 (by omega) (by omega), Or.inl (e 3 (by omega) (by omega))⟩
/-- a change of one number beside cells, lights and travellers -/
theorem Fit_h {i v : Int} (h : Fit B s) (hi : i < 30 ∧ i ≠ 3 ∧ i ≠ 4 ∧ i ≠ 5) (hm : mOk (zp s i v)) : Fit B (zp s i v) := by
  obtain ⟨h1, h2, h3, h4⟩ := h
  have e : ∀ j, j ≠ i → zp s i v j = s j := fun j hj => zp_ne hj
  refine ⟨hm, by rw [e 3 (by omega)]; exact h2, fun w w0 w1 => ?_, fun l l0 l1 => ?_⟩
  · rw [e 5 (by omega)] at w1
    exact tI_of h1 w0 w1 (h3 w w0 w1) (fun l l0 l1 => ⟨by rw [e 4 (by omega)]; exact l1, e _ (by omega), e _ (by omega), e _ (by omega)⟩) (fun j j0 j1 ej => by rw [e j (by omega)]; exact ej) (wKp_e (fun j j0 j1 => e _ (by omega)))
  · rw [e 4 (by omega)] at l1
    rw [e _ (by omega)]
    exact h4 l l0 l1
theorem Fit_cl {c : Int} (h : Fit B s) (hc : 0 ≤ c ∧ c ≤ 20) : Fit B (zp s 2 c) := Fit_h h (by omega) (mOk_cl h.1 hc)
theorem Fit_fg {k f : Int} (h : Fit B s) (hk : 0 ≤ k ∧ k < 24) (hf : 0 ≤ f ∧ f ≤ 9) : Fit B (zp s (6 + k) f) := Fit_h h (by omega) (mOk_fog h.1 hk hf)
/-- a plank laid on water or on a plank -/
theorem Fit_lay {x y q : Int} (h : Fit B s) (hx : 0 ≤ x ∧ x < s 0) (hy : 0 ≤ y ∧ y < s 1) (hq : 1 ≤ q ∧ q ≤ 9) (hn : s (30 + 12 * y + x) ≠ 2) : Fit B (zp s (30 + 12 * y + x) (10 + q)) := by
  obtain ⟨h1, h2, h3, h4⟩ := h
  have b0 := h1.1
  have b1 := h1.2.1
  have hm : mOk (zp s (30 + 12 * y + x) (10 + q)) := by
    rw [show 30 + 12 * y + x = 30 + (12 * y + x) by omega]
    exact mOk_c h1 (by omega) (by omega) (by omega)
  have e : ∀ j, j ≠ 30 + 12 * y + x → zp s (30 + 12 * y + x) (10 + q) j = s j := fun j hj => zp_ne hj
  refine ⟨hm, by rw [e 3 (by omega)]; exact h2, fun w w0 w1 => ?_, fun l l0 l1 => ?_⟩
  · rw [e 5 (by omega)] at w1
    exact tI_of h1 w0 w1 (h3 w w0 w1) (fun l l0 l1 => ⟨by rw [e 4 (by omega)]; exact l1, e _ (by omega), e _ (by omega), e _ (by omega)⟩) (fun j j0 j1 ej => by rw [e j (fun ee => hn (by rw [← ee]; exact ej))]; exact ej) (wKp_e (fun j j0 j1 => e _ (by omega)))
  · rw [e 4 (by omega)] at l1
    rw [e _ (by omega)]
    exact h4 l l0 l1
theorem Fit_tgt {v : Int} (h : Fit B s) (w0 : 0 ≤ w) (w1 : w < s 5) (hv : 0 ≤ v ∧ v < s 4) (hz : s (214 + 7 * w + 2) = 0) : Fit B (zp s (214 + 7 * w + 3) v) := by
  obtain ⟨h1, h2, h3, h4⟩ := h
  have b5 := h1.2.2.2.2.2.1
  have b4 := h1.2.2.2.2.1
  have e : ∀ j, j ≠ 214 + 7 * w + 3 → zp s (214 + 7 * w + 3) v j = s j := fun j hj => zp_ne hj
  refine ⟨mOk_w3 h1 w0 w1 (by omega), by rw [e 3 (by omega)]; exact h2, fun w' w0' w1' => ?_, fun l l0 l1 => ?_⟩
  · rw [e 5 (by omega)] at w1'
    by_cases ew : w' = w
    · have e2 : zp s (214 + 7 * w + 3) v (214 + 7 * w' + 2) = 0 := by rw [e _ (by omega), ew]; exact hz
      exact ⟨fun hh => absurd e2 hh, fun hh => by omega, fun hh => by omega⟩
    · exact tI_of h1 w0' w1' (h3 w' w0' w1') (fun l l0 l1 => ⟨by rw [e 4 (by omega)]; exact l1, e _ (by omega), e _ (by omega), e _ (by omega)⟩) (fun j j0 j1 ej => by rw [e j (by omega)]; exact ej) (wKp_e (fun j j0 j1 => e _ (by omega)))
  · rw [e 4 (by omega)] at l1
    rw [e _ (by omega)]
    exact h4 l l0 l1
theorem Fit_suc {v : Int} (h : Fit B s) (l0 : 0 ≤ l) (l1 : l < s 4) (hv : -1 ≤ v ∧ v < s 4) (hn : v ≠ l) : Fit B (zp s (174 + 5 * l + 4) v) := by
  obtain ⟨h1, h2, h3, h4⟩ := h
  have b5 := h1.2.2.2.2.2.1
  have b4 := h1.2.2.2.2.1
  have e : ∀ j, j ≠ 174 + 5 * l + 4 → zp s (174 + 5 * l + 4) v j = s j := fun j hj => zp_ne hj
  refine ⟨mOk_n h1 l0 l1 hv, by rw [e 3 (by omega)]; exact h2, fun w' w0' w1' => ?_, fun l' l0' l1' => ?_⟩
  · rw [e 5 (by omega)] at w1'
    exact tI_of h1 w0' w1' (h3 w' w0' w1') (fun l l0 l1 => ⟨by rw [e 4 (by omega)]; exact l1, e _ (by omega), e _ (by omega), e _ (by omega)⟩) (fun j j0 j1 ej => by rw [e j (by omega)]; exact ej) (wKp_e (fun j j0 j1 => e _ (by omega)))
  · rw [e 4 (by omega)] at l1'
    by_cases el : l' = l
    · rw [el, zp_eq]
      exact hn
    · rw [e _ (by omega)]
      exact h4 l' l0' l1'
theorem Fit_addL {x y b c : Int} (h : Fit B s) (h8 : s 4 < 8) (hx : 0 ≤ x ∧ x < s 0) (hy : 0 ≤ y ∧ y < s 1) (hb : 0 ≤ b ∧ b ≤ 9) (hc : 0 ≤ c ∧ c ≤ 1) : Fit B (sAddL s x y b c) := by
  obtain ⟨h1, h2, h3, h4⟩ := h
  have b5 := h1.2.2.2.2.2.1
  have b4 := h1.2.2.2.2.1
  have e : ∀ j, (j < 174 + 5 * s 4 ∨ 174 + 5 * s 4 + 5 ≤ j) → j ≠ 4 → sAddL s x y b c j = s j := fun j hj h9 => by
    unfold sAddL
    rw [zp_ne (by omega), zp_ne (by omega), zp_ne (by omega), zp_ne (by omega), zp_ne (by omega), zp_ne (by omega)]
  have e4 : sAddL s x y b c 4 = s 4 + 1 := zp_eq _ _ _
  refine ⟨mOk_addL h1 h8 hx hy hb hc, by rw [e 3 (by omega) (by omega)]; exact h2, fun w' w0' w1' => ?_, fun l' l0' l1' => ?_⟩
  · rw [e 5 (by omega) (by omega)] at w1'
    exact tI_of h1 w0' w1' (h3 w' w0' w1') (fun l l0 l1 => ⟨by rw [e4]; omega, e _ (by omega) (by omega), e _ (by omega) (by omega), e _ (by omega) (by omega)⟩) (fun j j0 j1 ej => by rw [e j (by omega) (by omega)]; exact ej) (wKp_e (fun j j0 j1 => e _ (by omega) (by omega)))
  · rw [e4] at l1'
    by_cases el : l' = s 4
    · have e9 : sAddL s x y b c (174 + 5 * s 4 + 4) = -1 := by
        unfold sAddL
        rw [zp_ne (by omega), zp_eq]
      rw [el, e9]
      omega
    · rw [e _ (by omega) (by omega)]
      exact h4 l' l0' (by omega)
theorem Fit_addW {x y : Int} (h : Fit B s) (h6 : s 5 < 6) (hx : 0 ≤ x ∧ x < s 0) (hy : 0 ≤ y ∧ y < s 1) : Fit B (sAddW s x y) := by
  obtain ⟨h1, h2, h3, h4⟩ := h
  have b5 := h1.2.2.2.2.2.1
  have b4 := h1.2.2.2.2.1
  have e : ∀ j, j ≠ 5 → (j < 214 + 7 * s 5 ∨ 214 + 7 * s 5 + 7 ≤ j) → sAddW s x y j = s j := fun j hj h9 => by
    unfold sAddW
    rw [if_neg hj, if_neg (by omega), if_neg (by omega), if_neg (by omega), if_neg (by omega)]
  have e5 : sAddW s x y 5 = s 5 + 1 := if_pos rfl
  refine ⟨mOk_addW h1 h6 hx hy, by rw [e 3 (by omega) (by omega)]; exact h2, fun w' w0' w1' => ?_, fun l' l0' l1' => ?_⟩
  · rw [e5] at w1'
    by_cases ew : w' = s 5
    · have e2 : sAddW s x y (214 + 7 * w' + 2) = 0 := by
        unfold sAddW
        rw [if_neg (by omega), if_neg (by omega), if_neg (by omega), if_neg (by omega), if_pos (by omega)]
      exact ⟨fun hh => absurd e2 hh, fun hh => by omega, fun hh => by omega⟩
    · exact tI_of h1 w0' (by omega) (h3 w' w0' (by omega)) (fun l l0 l1 => ⟨by rw [e 4 (by omega) (by omega)]; exact l1, e _ (by omega) (by omega), e _ (by omega) (by omega), e _ (by omega) (by omega)⟩) (fun j j0 j1 ej => by rw [e j (by omega) (by omega)]; exact ej) (wKp_e (fun j j0 j1 => e _ (by omega) (by omega)))
  · rw [e 4 (by omega) (by omega)] at l1'
    rw [e _ (by omega) (by omega)]
    exact h4 l' l0' l1'
end DF
