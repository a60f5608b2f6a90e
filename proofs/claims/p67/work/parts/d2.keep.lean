/-! What the law asks of travellers and lights stays as the hours go by; planks only wear. -/
/-- what may become of a cell -/
def cW (a b : Int) : Prop := b = a ∨ (10 < a ∧ ((10 < b ∧ b ≤ a) ∨ b = 1))
theorem cW_r {a : Int} : cW a a := Or.inl rfl
theorem cW_t {a b c : Int} (h : cW a b) (h' : cW b c) : cW a c := by
  unfold cW at h h' ⊢
  omega
def tI (s : Int → Int) (w : Int) : Prop := (s (214 + 7 * w + 2) ≠ 0 → s (214 + 7 * w + 3) < 0) ∧ (s (214 + 7 * w + 2) = 1 → s (30 + 12 * s (214 + 7 * w + 1) + s (214 + 7 * w + 0)) = 2) ∧ (s (214 + 7 * w + 2) = 2 → ∃ l, 0 ≤ l ∧ l < s 4 ∧ sOn s w l ∧ s (174 + 5 * l + 3) = 0)
def wKp (s t : Int → Int) (w : Int) : Prop := t (214 + 7 * w + 0) = s (214 + 7 * w + 0) ∧ t (214 + 7 * w + 1) = s (214 + 7 * w + 1) ∧ t (214 + 7 * w + 2) = s (214 + 7 * w + 2) ∧ (t (214 + 7 * w + 3) = s (214 + 7 * w + 3) ∨ t (214 + 7 * w + 3) = -1)
theorem wKp_t {s t u : Int → Int} {w : Int} (h : wKp s t w) (h' : wKp t u w) : wKp s u w := by
  obtain ⟨a, b, c, d⟩ := h
  obtain ⟨a', b', c', d'⟩ := h'
  exact ⟨a'.trans a, b'.trans b, c'.trans c, by omega⟩
section DK
variable {s t : Int → Int} {w w' l : Int}
theorem tI_kp (hok : mOk s) (w0 : 0 ≤ w) (w1 : w < s 5) (h : tI s w) (h4 : t 4 = s 4) (hl : ∀ i, 174 ≤ i → i < 214 → t i = s i) (hc : ∀ i, 30 ≤ i → i < 174 → cW (s i) (t i)) (hk : wKp s t w) : tI t w := by
  obtain ⟨k0, k1, k2, k3⟩ := hk
  obtain ⟨a, b, c⟩ := h
  obtain ⟨m1, m2, -⟩ := wOk_w hok ⟨w0, w1⟩
  have b0 := hok.1
  have b1 := hok.2.1
  have b4 := hok.2.2.2.2.1
  refine ⟨fun h => ?_, fun h => ?_, fun h => ?_⟩
  · rw [k2] at h
    have := a h
    clear c
    omega
  · rw [k2] at h
    rw [k0, k1]
    have e := b h
    clear c
    have := hc (30 + 12 * s (214 + 7 * w + 1) + s (214 + 7 * w + 0)) (by omega) (by omega)
    unfold cW at this
    omega
  · rw [k2] at h
    obtain ⟨l, l0, l1, ⟨o1, o2⟩, l3⟩ := c h
    refine ⟨l, l0, by omega, ⟨?_, ?_⟩, ?_⟩
    · rw [k0, hl _ (by omega) (by omega)]
      exact o1
    · rw [k1, hl _ (by omega) (by omega)]
      exact o2
    · rw [hl _ (by omega) (by omega)]
      exact l3
theorem sSinkR_kp (h : w' ≠ w) : ∀ k : Nat, wKp s (sSinkR s w l k) w' := by
  intro k
  induction k with
  | zero =>
    show wKp s (zp (zp s (214 + 7 * w + 2) 2) (214 + 7 * w + 3) (-1)) w'
    refine ⟨?_, ?_, ?_, Or.inl ?_⟩ <;> rw [zp_ne (by omega), zp_ne (by omega)]
  | succ k ih =>
    obtain ⟨a, b, c, d⟩ := ih
    unfold sSinkR
    split
    · exact ⟨a, b, c, d⟩
    · split
      · refine ⟨?_, ?_, ?_, ?_⟩
        · rw [zp_ne (by omega), zp_ne (by omega), a]
        · rw [zp_ne (by omega), zp_ne (by omega), b]
        · rw [zp_ne (by omega), zp_ne (by omega), c]
        · by_cases e : w' = (k : Int)
          · right
            rw [e]
            exact zp_eq _ _ _
          · rw [zp_ne (by omega), zp_ne (by omega)]
            exact d
      · refine ⟨?_, ?_, ?_, ?_⟩
        · rw [zp_ne (by omega), a]
        · rw [zp_ne (by omega), b]
        · rw [zp_ne (by omega), c]
        · rw [zp_ne (by omega)]
          exact d
theorem sSinkR_w : ∀ k : Nat, sSinkR s w l k (214 + 7 * w + 0) = s (214 + 7 * w + 0) ∧ sSinkR s w l k (214 + 7 * w + 1) = s (214 + 7 * w + 1) ∧ sSinkR s w l k (214 + 7 * w + 3) = -1 := by
  intro k
  induction k with
  | zero =>
    show zp (zp s (214 + 7 * w + 2) 2) (214 + 7 * w + 3) (-1) (214 + 7 * w + 0) = _ ∧ zp (zp s (214 + 7 * w + 2) 2) (214 + 7 * w + 3) (-1) (214 + 7 * w + 1) = _ ∧ zp (zp s (214 + 7 * w + 2) 2) (214 + 7 * w + 3) (-1) (214 + 7 * w + 3) = -1
    exact ⟨by rw [zp_ne (by omega), zp_ne (by omega)], by rw [zp_ne (by omega), zp_ne (by omega)], zp_eq _ _ _⟩
  | succ k ih =>
    obtain ⟨a, b, c⟩ := ih
    unfold sSinkR
    split
    · exact ⟨a, b, c⟩
    · rename_i hn
      have hk : (k : Int) ≠ w := fun e => hn (Or.inl e)
      split
      · refine ⟨?_, ?_, ?_⟩
        · rw [zp_ne (by omega), zp_ne (by omega), a]
        · rw [zp_ne (by omega), zp_ne (by omega), b]
        · rw [zp_ne (by omega), zp_ne (by omega), c]
      · refine ⟨?_, ?_, ?_⟩
        · rw [zp_ne (by omega), a]
        · rw [zp_ne (by omega), b]
        · rw [zp_ne (by omega), c]
theorem sSettle_kp (w0 : 0 ≤ w) (h : w' ≠ w) : wKp s (sSettle s w l) w' := by
  unfold sSettle
  split
  · refine ⟨?_, ?_, ?_, Or.inl ?_⟩ <;> rw [zp_ne (by omega), zp_ne (by omega)]
  · split
    · split
      · exact sSinkR_kp h _
      · unfold sGoOn
        refine ⟨?_, ?_, ?_, Or.inl ?_⟩ <;> rw [zp_ne (by omega), zp_ne (by omega)]
    · exact ⟨rfl, rfl, rfl, Or.inl rfl⟩
theorem sSettle_tI (hok : mOk s) (w0 : 0 ≤ w) (w1 : w < s 5) (hl : 0 ≤ l ∧ l < s 4) (h0 : s (214 + 7 * w + 2) = 0) : tI (sSettle s w l) w := by
  have b4 := hok.2.2.2.2.1
  have b0 := hok.1
  have b1 := hok.2.1
  obtain ⟨m1, m2, -⟩ := wOk_w hok ⟨w0, w1⟩
  have hv : ∀ t : Int → Int, t (214 + 7 * w + 2) = 0 → tI t w := fun t e => ⟨fun h => absurd e h, fun h => by omega, fun h => by omega⟩
  unfold sSettle
  split
  · rename_i hh
    refine ⟨fun _ => ?_, fun _ => ?_, fun h => ?_⟩
    · rw [zp_eq]
      decide
    · have e0 : zp (zp s (214 + 7 * w + 2) 1) (214 + 7 * w + 3) (-1) (214 + 7 * w + 0) = s (214 + 7 * w + 0) := by rw [zp_ne (by omega), zp_ne (by omega)]
      have e1 : zp (zp s (214 + 7 * w + 2) 1) (214 + 7 * w + 3) (-1) (214 + 7 * w + 1) = s (214 + 7 * w + 1) := by rw [zp_ne (by omega), zp_ne (by omega)]
      rw [e0, e1, zp_ne (by omega), zp_ne (by omega)]
      exact hh
    · rw [zp_ne (by omega), zp_eq] at h
      omega
  · split
    · rename_i hon
      split
      · rename_i hf
        have e2 : sSink s w l (214 + 7 * w + 2) = 2 := sSinkR_st _
        obtain ⟨q0, q1, q3⟩ := sSinkR_w (s := s) (w := w) (l := l) (s 5).toNat
        have e0 : sSink s w l (214 + 7 * w + 0) = s (214 + 7 * w + 0) := q0
        have e1 : sSink s w l (214 + 7 * w + 1) = s (214 + 7 * w + 1) := q1
        have e3 : sSink s w l (214 + 7 * w + 3) = -1 := q3
        have eg : ∀ j, j < 214 → sSink s w l j = s j := fun j hj => sSinkR_gr w0 hj _
        refine ⟨fun _ => by omega, fun h => by omega, fun _ => ⟨l, hl.1, by rw [eg 4 (by omega)]; exact hl.2, ⟨?_, ?_⟩, ?_⟩⟩
        · rw [e0, eg _ (by omega)]
          exact hon.1
        · rw [e1, eg _ (by omega)]
          exact hon.2
        · rw [eg _ (by omega)]
          exact hf
      · refine hv _ ?_
        unfold sGoOn
        rw [zp_ne (by omega), zp_ne (by omega), h0]
    · exact hv _ h0
theorem sMoved_kp (hok : mOk s) (w0 : 0 ≤ w) (w1 : w < s 5) (h : w' ≠ w) (w0' : 0 ≤ w') : wKp s (sMoved s w l) w' := by
  obtain ⟨⟨x0, x1⟩, ⟨y0, y1⟩, -⟩ := hok.2.2.2.2.2.2.2.2.2 w w0 w1
  have hb := mOk_hb hok
  have e : ∀ i, 0 ≤ i → i < 7 → sMoved s w l (214 + 7 * w' + i) = s (214 + 7 * w' + i) := fun i i0 i1 => by
    have e : sStepTo s w (sWay s w l) (214 + 7 * w' + i) = s (214 + 7 * w' + i) := by
      unfold sStepTo
      rw [zp_ne (by omega), zp_ne (by omega), zp_ne (by omega)]
    unfold sMoved sLeave
    split
    · exact e
    · rw [zp_ne (by omega)]
      exact e
  exact ⟨e 0 (by omega) (by omega), e 1 (by omega) (by omega), e 2 (by omega) (by omega), Or.inl (e 3 (by omega) (by omega))⟩
theorem sMoved_cW (hok : mOk s) (w0 : 0 ≤ w) (w1 : w < s 5) : ∀ i, 30 ≤ i → i < 174 → cW (s i) (sMoved s w l i) := by
  intro i i0 i1
  obtain ⟨⟨x0, x1⟩, ⟨y0, y1⟩, -⟩ := hok.2.2.2.2.2.2.2.2.2 w w0 w1
  have hb := mOk_hb hok
  have e : ∀ j, 30 ≤ j → j < 174 → sStepTo s w (sWay s w l) j = s j := fun j j0 j1 => by
    unfold sStepTo
    rw [zp_ne (by omega), zp_ne (by omega), zp_ne (by omega)]
  have hp := wOk_p hok (x := s (214 + 7 * w + 0)) (y := s (214 + 7 * w + 1)) ⟨x0, x1⟩ ⟨y0, y1⟩
  have hc := hok.2.2.2.2.2.2.2.1 (12 * s (214 + 7 * w + 1) + s (214 + 7 * w + 0)) (by omega) (by omega)
  have ee : 30 + 12 * s (214 + 7 * w + 1) + s (214 + 7 * w + 0) = 30 + (12 * s (214 + 7 * w + 1) + s (214 + 7 * w + 0)) := by omega
  rw [← ee] at hc
  unfold sMoved sLeave
  rw [e (30 + 12 * s (214 + 7 * w + 1) + s (214 + 7 * w + 0)) (by omega) (by omega)]
  split
  · rw [e i i0 i1]
    exact cW_r
  · by_cases ei : i = 30 + 12 * s (214 + 7 * w + 1) + s (214 + 7 * w + 0)
    · rw [ei, zp_eq]
      unfold cW
      split <;> omega
    · rw [zp_ne ei, e i i0 i1]
      exact cW_r
theorem sAct_keep (hok : mOk s) (w0 : 0 ≤ w) (w1 : w < s 5) (h6 : s (214 + 7 * w + 6) < s 3) (h0 : s (214 + 7 * w + 2) = 0) : tI (sAct s w) w ∧ (∀ i, 30 ≤ i → i < 174 → cW (s i) (sAct s w i)) ∧ ∀ w', 0 ≤ w' → w' ≠ w → wKp s (sAct s w) w' := by
  obtain ⟨k1, z1⟩ := sAim_ok hok w0 w1
  obtain ⟨a1, a2⟩ := sAim_lt hok w0 w1
  have hv : ∀ t : Int → Int, t (214 + 7 * w + 2) = 0 → tI t w := fun t e => ⟨fun h => absurd e h, fun h => by omega, fun h => by omega⟩
  have ea : ∀ j, j ≠ 214 + 7 * w + 3 → sAim s w j = s j := fun j hj => by
    unfold sAim
    split
    · exact zp_ne hj
    · rfl
  have ek : ∀ w', 0 ≤ w' → w' ≠ w → wKp s (sAim s w) w' := fun w' _ hw => ⟨ea _ (by omega), ea _ (by omega), ea _ (by omega), Or.inl (ea _ (by omega))⟩
  have e2 : sAim s w (214 + 7 * w + 2) = 0 := (ea _ (by omega)).trans h0
  have u5 : w < sAim s w 5 := by rw [z1.2.2.2.2.2.1]; exact w1
  have u4 : sAim s w (214 + 7 * w + 3) < sAim s w 4 := by rw [z1.2.2.2.2.1]; exact a1
  have u6 : sAim s w (214 + 7 * w + 6) < sAim s w 3 := by rw [a2, z1.2.2.2.1]; exact h6
  unfold sAct
  generalize sAim s w = u at *
  generalize u (214 + 7 * w + 3) = l at *
  unfold sAct1
  split
  · exact ⟨hv _ e2, fun i i0 i1 => by rw [ea i (by omega)]; exact cW_r, ek⟩
  · have hl' : 0 ≤ l ∧ l < u 4 := ⟨by omega, u4⟩
    split
    · exact ⟨sSettle_tI k1 w0 u5 hl' e2, fun i i0 i1 => by rw [sSettle_gr w0 (by omega), ea i (by omega)]; exact cW_r, fun w' b0 b1 => wKp_t (ek w' b0 b1) (sSettle_kp w0 b1)⟩
    · rename_i hon
      split
      · rename_i hf
        obtain ⟨k2, z2⟩ := sMoved_ok k1 w0 u5 hl' (zst_l k1 hl') hon hf u6
        refine ⟨sSettle_tI k2 w0 (by rw [z2.2.2.2.2.2.1]; exact u5) (by rw [z2.2.2.2.2.1]; exact hl') ((sMoved_2 k1 w0 u5 w0).trans e2), fun i i0 i1 => ?_, fun w' b0 b1 => wKp_t (wKp_t (ek w' b0 b1) (sMoved_kp k1 w0 u5 b1 b0)) (sSettle_kp w0 b1)⟩
        rw [sSettle_gr w0 (by omega), ← ea i (by omega)]
        exact sMoved_cW k1 w0 u5 i i0 i1
      · refine ⟨hv _ (by rw [zp_ne (by omega), zp_ne (by omega), e2]), fun i i0 i1 => ?_, fun w' b0 b1 => wKp_t (ek w' b0 b1) ?_⟩
        · rw [zp_ne (by omega), zp_ne (by omega), ea i (by omega)]
          exact cW_r
        · refine ⟨?_, ?_, ?_, Or.inl ?_⟩ <;> rw [zp_ne (by omega), zp_ne (by omega)]
theorem sTickR_keep (hok : mOk s) (ht : s 3 < 30000) (hI : ∀ w, 0 ≤ w → w < s 5 → tI s w) : ∀ k : Nat, (k : Int) ≤ s 5 → (∀ w, 0 ≤ w → w < s 5 → tI (sTickR s k) w) ∧ ∀ i, 30 ≤ i → i < 174 → cW (s i) (sTickR s k i) := by
  intro k
  induction k with
  | zero =>
    intro _
    have e : ∀ j, j ≠ 3 → sTickR s 0 j = s j := fun j hj => zp_ne hj
    have b5 := hok.2.2.2.2.2.1
    refine ⟨fun w w0 w1 => tI_kp hok w0 w1 (hI w w0 w1) (e 4 (by omega)) (fun i i0 i1 => e i (by omega)) (fun i i0 i1 => by rw [e i (by omega)]; exact cW_r) ⟨e _ (by omega), e _ (by omega), e _ (by omega), Or.inl (e _ (by omega))⟩, fun i i0 i1 => by rw [e i (by omega)]; exact cW_r⟩
  | succ k ih =>
    intro hk
    obtain ⟨q1, q2⟩ := ih (by omega)
    obtain ⟨k1, z1, g1⟩ := sTickR_ok hok ht k (by omega)
    have h5 := hok.2.2.2.2.2.1
    have e5 : sTickR s k 5 = s 5 := by rw [z1.2.2.2.2.2.1, zp_ne (by omega)]
    have hw := (hok.2.2.2.2.2.2.2.2.2 k (by omega) (by omega)).2.2.2.2
    have h6 : sTickR s k (214 + 7 * (k : Int) + 6) < sTickR s k 3 := by
      rw [g1 k (by omega) (by omega), z1.2.2.2.1, zp_eq]
      omega
    unfold sTickR
    split
    · rename_i h0
      obtain ⟨a1, a2, a3⟩ := sAct_keep k1 (by omega) (by omega) h6 h0
      obtain ⟨k2, z2⟩ := sAct_ok k1 (by omega) (show (k : Int) < sTickR s k 5 by omega) h6
      refine ⟨fun w w0 w1 => ?_, fun i i0 i1 => cW_t (q2 i i0 i1) (a2 i i0 i1)⟩
      by_cases e : w = (k : Int)
      · rw [e]
        exact a1
      · exact tI_kp k1 w0 (by omega) (q1 w w0 w1) z2.2.2.2.2.1 z2.2.2.2.2.2.2.2 a2 (a3 w w0 e)
    · exact ⟨q1, q2⟩
theorem sTicks_keep (hok : mOk s) (hI : ∀ w, 0 ≤ w → w < s 5 → tI s w) : ∀ k : Nat, s 3 + k ≤ 30000 → (∀ w, 0 ≤ w → w < s 5 → tI (sTicks s k) w) ∧ ∀ i, 30 ≤ i → i < 174 → cW (s i) (sTicks s k i) := by
  intro k
  induction k with
  | zero =>
    intro _
    exact ⟨hI, fun i _ _ => cW_r⟩
  | succ k ih =>
    intro hk
    obtain ⟨q1, q2⟩ := ih (by omega)
    obtain ⟨k1, z1⟩ := sTicks_ok hok k (by omega)
    have e3 : sTicks s k 3 = s 3 + k := by rw [z1.2.2.2.1, zp_eq]
    have e5 : sTicks s k 5 = s 5 := by rw [z1.2.2.2.2.2.1, zp_ne (by omega)]
    have b5 := k1.2.2.2.2.2.1
    obtain ⟨a1, a2⟩ := sTickR_keep k1 (by omega) (fun w w0 w1 => q1 w w0 (by omega)) (sTicks s k 5).toNat (by omega)
    exact ⟨fun w w0 w1 => a1 w w0 (by omega), fun i i0 i1 => cW_t (q2 i i0 i1) (a2 i i0 i1)⟩
theorem Fit_ticks {B : Int} (h : Fit B s) (k : Nat) (hb : B + k ≤ 30000) : Fit (B + k) (sTicks s k) := by
  obtain ⟨h1, h2, h3, h4⟩ := h
  obtain ⟨q1, -⟩ := sTicks_keep h1 h3 k (by omega)
  obtain ⟨k1, z1⟩ := sTicks_ok h1 k (by omega)
  have e3 : sTicks s k 3 = s 3 + k := by rw [z1.2.2.2.1, zp_eq]
  have e4 : sTicks s k 4 = s 4 := by rw [z1.2.2.2.2.1, zp_ne (by omega)]
  have e5 : sTicks s k 5 = s 5 := by rw [z1.2.2.2.2.2.1, zp_ne (by omega)]
  have b4 := h1.2.2.2.2.1
  refine ⟨k1, by omega, fun w w0 w1 => q1 w w0 (by omega), fun l l0 l1 => ?_⟩
  rw [z1.2.2.2.2.2.2.2 _ (by omega) (by omega), zp_ne (by omega)]
  exact h4 l l0 (by omega)
end DK
