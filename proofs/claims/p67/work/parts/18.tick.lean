/-! What a tick makes of a row (printed by wip/whole/src18.py). -/
/-- what holds of every row -/
def mLi (s : Int → Int) (l : Int) : Prop := (0 ≤ s (174 + 5 * l + 0) ∧ s (174 + 5 * l + 0) < s 0) ∧ (0 ≤ s (174 + 5 * l + 1) ∧ s (174 + 5 * l + 1) < s 1) ∧ (0 ≤ s (174 + 5 * l + 2) ∧ s (174 + 5 * l + 2) ≤ 9) ∧ (0 ≤ s (174 + 5 * l + 3) ∧ s (174 + 5 * l + 3) ≤ 1) ∧ (-1 ≤ s (174 + 5 * l + 4) ∧ s (174 + 5 * l + 4) < s 4)
def mWi (s : Int → Int) (w : Int) : Prop := (0 ≤ s (214 + 7 * w + 0) ∧ s (214 + 7 * w + 0) < s 0) ∧ (0 ≤ s (214 + 7 * w + 1) ∧ s (214 + 7 * w + 1) < s 1) ∧ (0 ≤ s (214 + 7 * w + 2) ∧ s (214 + 7 * w + 2) ≤ 2) ∧ (-1 ≤ s (214 + 7 * w + 3) ∧ s (214 + 7 * w + 3) < s 4) ∧ (0 ≤ s (214 + 7 * w + 6) ∧ s (214 + 7 * w + 6) ≤ s 3)
def mOk (s : Int → Int) : Prop := (2 ≤ s 0 ∧ s 0 ≤ 12) ∧ (2 ≤ s 1 ∧ s 1 ≤ 12) ∧ (0 ≤ s 2 ∧ s 2 ≤ 20) ∧ (0 ≤ s 3 ∧ s 3 ≤ 30000) ∧ (0 ≤ s 4 ∧ s 4 ≤ 8) ∧ (0 ≤ s 5 ∧ s 5 ≤ 6) ∧
  (∀ h, 0 ≤ h → h < 24 → 0 ≤ s (6 + h) ∧ s (6 + h) ≤ 9) ∧ (∀ c, 0 ≤ c → c < 144 → (0 ≤ s (30 + c) ∧ s (30 + c) ≤ 2) ∨ (11 ≤ s (30 + c) ∧ s (30 + c) ≤ 19)) ∧
  (∀ l, 0 ≤ l → l < s 4 → mLi s l) ∧ (∀ w, 0 ≤ w → w < s 5 → mWi s w)
section MO
variable {s : Int → Int} {w l : Int}
theorem mOk_sg (h : mOk s) : mSg s := by
  obtain ⟨-, -, h2, h3, -, -, hf, -⟩ := h
  exact ⟨h2, h3, hf (s 3 % 24) (by omega) (by omega)⟩
theorem mOk_lt (h : mOk s) (h0 : 0 ≤ l) (h1 : l < s 4) : mLt s l := by
  obtain ⟨a, b, -, -, c, -, -, -, hl, -⟩ := h
  obtain ⟨⟨e1, e2⟩, ⟨e3, e4⟩, e5, e6, e7, e8⟩ := hl l h0 h1
  exact ⟨⟨e1, by omega⟩, ⟨e3, by omega⟩, e5, e6, e7, by omega⟩
theorem mOk_wk (h : mOk s) (h0 : 0 ≤ w) (h1 : w < s 5) : mWk s w := by
  obtain ⟨a, b, -, c3, c, -, -, -, -, hw⟩ := h
  obtain ⟨⟨e1, e2⟩, ⟨e3, e4⟩, e5, ⟨e6, e7⟩, e8, e9⟩ := hw w h0 h1
  exact ⟨⟨e1, by omega⟩, ⟨e3, by omega⟩, e5, ⟨e6, by omega⟩, e8, by omega⟩
/-- a traveller's field -/
theorem mOk_w {f v : Int} (h : mOk s) (h0 : 0 ≤ w) (h1 : w < s 5) (hf : 0 ≤ f ∧ f < 7) (hv : mWi (zp s (214 + 7 * w + f) v) w) : mOk (zp s (214 + 7 * w + f) v) := by
  obtain ⟨a0, a1, a2, a3, a4, a5, hfog, hc, hl, hw⟩ := h
  have e : ∀ i, i < 214 → zp s (214 + 7 * w + f) v i = s i := fun i hi => zp_ne (by omega)
  unfold mOk
  rw [e 0 (by omega), e 1 (by omega), e 2 (by omega), e 3 (by omega), e 4 (by omega), e 5 (by omega)]
  refine ⟨a0, a1, a2, a3, a4, a5, ?_, ?_, ?_, ?_⟩
  · intro h h0 h1
    rw [e (6 + h) (by omega)]
    exact hfog h h0 h1
  · intro c c0 c1
    rw [e (30 + c) (by omega)]
    exact hc c c0 c1
  · intro l l0 l1
    have := hl l l0 l1
    unfold mLi at this ⊢
    rw [e (174 + 5 * l + 0) (by omega), e (174 + 5 * l + 1) (by omega), e (174 + 5 * l + 2) (by omega), e (174 + 5 * l + 3) (by omega), e (174 + 5 * l + 4) (by omega), e 0 (by omega), e 1 (by omega), e 4 (by omega)]
    exact this
  · intro w' w0 w1
    by_cases hww : w' = w
    · rw [hww]
      exact hv
    · have := hw w' w0 w1
      have e2 : ∀ g, 0 ≤ g → g < 7 → zp s (214 + 7 * w + f) v (214 + 7 * w' + g) = s (214 + 7 * w' + g) := fun g g0 g1 => zp_ne (by omega)
      unfold mWi at this ⊢
      rw [e2 0 (by omega) (by omega), e2 1 (by omega) (by omega), e2 2 (by omega) (by omega), e2 3 (by omega) (by omega), e2 6 (by omega) (by omega), e 0 (by omega), e 1 (by omega), e 3 (by omega), e 4 (by omega)]
      exact this
theorem mOk_w0 {v : Int} (h : mOk s) (h0 : 0 ≤ w) (h1 : w < s 5) (hv : 0 ≤ v ∧ v < s 0) : mOk (zp s (214 + 7 * w + 0) v) := by
  refine mOk_w h h0 h1 (by omega) ?_
  obtain ⟨b0, b1, b2, b3, b6⟩ := h.2.2.2.2.2.2.2.2.2 w h0 h1
  have e : ∀ i, i ≠ 214 + 7 * w + 0 → zp s (214 + 7 * w + 0) v i = s i := fun i hi => zp_ne hi
  have h5 := h.2.2.2.2.2.1
  unfold mWi
  rw [e (214 + 7 * w + 1) (by omega), e (214 + 7 * w + 2) (by omega), e (214 + 7 * w + 3) (by omega), e (214 + 7 * w + 6) (by omega), zp_eq, e 0 (by omega), e 1 (by omega), e 3 (by omega), e 4 (by omega)]
  exact ⟨hv, b1, b2, b3, b6⟩
theorem mOk_w1 {v : Int} (h : mOk s) (h0 : 0 ≤ w) (h1 : w < s 5) (hv : 0 ≤ v ∧ v < s 1) : mOk (zp s (214 + 7 * w + 1) v) := by
  refine mOk_w h h0 h1 (by omega) ?_
  obtain ⟨b0, b1, b2, b3, b6⟩ := h.2.2.2.2.2.2.2.2.2 w h0 h1
  have e : ∀ i, i ≠ 214 + 7 * w + 1 → zp s (214 + 7 * w + 1) v i = s i := fun i hi => zp_ne hi
  have h5 := h.2.2.2.2.2.1
  unfold mWi
  rw [e (214 + 7 * w + 0) (by omega), e (214 + 7 * w + 2) (by omega), e (214 + 7 * w + 3) (by omega), e (214 + 7 * w + 6) (by omega), zp_eq, e 0 (by omega), e 1 (by omega), e 3 (by omega), e 4 (by omega)]
  exact ⟨b0, hv, b2, b3, b6⟩
theorem mOk_w2 {v : Int} (h : mOk s) (h0 : 0 ≤ w) (h1 : w < s 5) (hv : 0 ≤ v ∧ v ≤ 2) : mOk (zp s (214 + 7 * w + 2) v) := by
  refine mOk_w h h0 h1 (by omega) ?_
  obtain ⟨b0, b1, b2, b3, b6⟩ := h.2.2.2.2.2.2.2.2.2 w h0 h1
  have e : ∀ i, i ≠ 214 + 7 * w + 2 → zp s (214 + 7 * w + 2) v i = s i := fun i hi => zp_ne hi
  have h5 := h.2.2.2.2.2.1
  unfold mWi
  rw [e (214 + 7 * w + 0) (by omega), e (214 + 7 * w + 1) (by omega), e (214 + 7 * w + 3) (by omega), e (214 + 7 * w + 6) (by omega), zp_eq, e 0 (by omega), e 1 (by omega), e 3 (by omega), e 4 (by omega)]
  exact ⟨b0, b1, hv, b3, b6⟩
theorem mOk_w3 {v : Int} (h : mOk s) (h0 : 0 ≤ w) (h1 : w < s 5) (hv : -1 ≤ v ∧ v < s 4) : mOk (zp s (214 + 7 * w + 3) v) := by
  refine mOk_w h h0 h1 (by omega) ?_
  obtain ⟨b0, b1, b2, b3, b6⟩ := h.2.2.2.2.2.2.2.2.2 w h0 h1
  have e : ∀ i, i ≠ 214 + 7 * w + 3 → zp s (214 + 7 * w + 3) v i = s i := fun i hi => zp_ne hi
  have h5 := h.2.2.2.2.2.1
  unfold mWi
  rw [e (214 + 7 * w + 0) (by omega), e (214 + 7 * w + 1) (by omega), e (214 + 7 * w + 2) (by omega), e (214 + 7 * w + 6) (by omega), zp_eq, e 0 (by omega), e 1 (by omega), e 3 (by omega), e 4 (by omega)]
  exact ⟨b0, b1, b2, hv, b6⟩
theorem mOk_w4 {v : Int} (h : mOk s) (h0 : 0 ≤ w) (h1 : w < s 5) (hv : True) : mOk (zp s (214 + 7 * w + 4) v) := by
  refine mOk_w h h0 h1 (by omega) ?_
  obtain ⟨b0, b1, b2, b3, b6⟩ := h.2.2.2.2.2.2.2.2.2 w h0 h1
  have e : ∀ i, i ≠ 214 + 7 * w + 4 → zp s (214 + 7 * w + 4) v i = s i := fun i hi => zp_ne hi
  have h5 := h.2.2.2.2.2.1
  unfold mWi
  rw [e (214 + 7 * w + 0) (by omega), e (214 + 7 * w + 1) (by omega), e (214 + 7 * w + 2) (by omega), e (214 + 7 * w + 3) (by omega), e (214 + 7 * w + 6) (by omega), e 0 (by omega), e 1 (by omega), e 3 (by omega), e 4 (by omega)]
  exact ⟨b0, b1, b2, b3, b6⟩
theorem mOk_w5 {v : Int} (h : mOk s) (h0 : 0 ≤ w) (h1 : w < s 5) (hv : True) : mOk (zp s (214 + 7 * w + 5) v) := by
  refine mOk_w h h0 h1 (by omega) ?_
  obtain ⟨b0, b1, b2, b3, b6⟩ := h.2.2.2.2.2.2.2.2.2 w h0 h1
  have e : ∀ i, i ≠ 214 + 7 * w + 5 → zp s (214 + 7 * w + 5) v i = s i := fun i hi => zp_ne hi
  have h5 := h.2.2.2.2.2.1
  unfold mWi
  rw [e (214 + 7 * w + 0) (by omega), e (214 + 7 * w + 1) (by omega), e (214 + 7 * w + 2) (by omega), e (214 + 7 * w + 3) (by omega), e (214 + 7 * w + 6) (by omega), e 0 (by omega), e 1 (by omega), e 3 (by omega), e 4 (by omega)]
  exact ⟨b0, b1, b2, b3, b6⟩
theorem mOk_w6 {v : Int} (h : mOk s) (h0 : 0 ≤ w) (h1 : w < s 5) (hv : 0 ≤ v ∧ v ≤ s 3) : mOk (zp s (214 + 7 * w + 6) v) := by
  refine mOk_w h h0 h1 (by omega) ?_
  obtain ⟨b0, b1, b2, b3, b6⟩ := h.2.2.2.2.2.2.2.2.2 w h0 h1
  have e : ∀ i, i ≠ 214 + 7 * w + 6 → zp s (214 + 7 * w + 6) v i = s i := fun i hi => zp_ne hi
  have h5 := h.2.2.2.2.2.1
  unfold mWi
  rw [e (214 + 7 * w + 0) (by omega), e (214 + 7 * w + 1) (by omega), e (214 + 7 * w + 2) (by omega), e (214 + 7 * w + 3) (by omega), zp_eq, e 0 (by omega), e 1 (by omega), e 3 (by omega), e 4 (by omega)]
  exact ⟨b0, b1, b2, b3, hv⟩
/-- a cell -/
theorem mOk_c {c v : Int} (h : mOk s) (h0 : 0 ≤ c) (h1 : c < 144) (hv : (0 ≤ v ∧ v ≤ 2) ∨ (11 ≤ v ∧ v ≤ 19)) : mOk (zp s (30 + c) v) := by
  obtain ⟨a0, a1, a2, a3, a4, a5, hfog, hc, hl, hw⟩ := h
  have e : ∀ i, i < 30 ∨ 174 ≤ i → zp s (30 + c) v i = s i := fun i hi => zp_ne (by omega)
  unfold mOk
  rw [e 0 (by omega), e 1 (by omega), e 2 (by omega), e 3 (by omega), e 4 (by omega), e 5 (by omega)]
  refine ⟨a0, a1, a2, a3, a4, a5, ?_, ?_, ?_, ?_⟩
  · intro h h0 h1
    rw [e (6 + h) (by omega)]
    exact hfog h h0 h1
  · intro c' c0 c1
    by_cases hcc : c' = c
    · rw [hcc, zp_eq]
      exact hv
    · rw [zp_ne (by omega)]
      exact hc c' c0 c1
  · intro l l0 l1
    have := hl l l0 l1
    unfold mLi at this ⊢
    rw [e (174 + 5 * l + 0) (by omega), e (174 + 5 * l + 1) (by omega), e (174 + 5 * l + 2) (by omega), e (174 + 5 * l + 3) (by omega), e (174 + 5 * l + 4) (by omega), e 0 (by omega), e 1 (by omega), e 4 (by omega)]
    exact this
  · intro w w0 w1
    have := hw w w0 w1
    unfold mWi at this ⊢
    rw [e (214 + 7 * w + 0) (by omega), e (214 + 7 * w + 1) (by omega), e (214 + 7 * w + 2) (by omega), e (214 + 7 * w + 3) (by omega), e (214 + 7 * w + 6) (by omega), e 0 (by omega), e 1 (by omega), e 3 (by omega), e 4 (by omega)]
    exact this
/-- the time -/
theorem mOk_t {v : Int} (h : mOk s) (h0 : s 3 ≤ v) (h1 : v ≤ 30000) : mOk (zp s 3 v) := by
  obtain ⟨a0, a1, a2, a3, a4, a5, hfog, hc, hl, hw⟩ := h
  have e : ∀ i, i ≠ 3 → zp s 3 v i = s i := fun i hi => zp_ne hi
  unfold mOk
  rw [e 0 (by omega), e 1 (by omega), e 2 (by omega), zp_eq, e 4 (by omega), e 5 (by omega)]
  refine ⟨a0, a1, a2, ⟨by omega, h1⟩, a4, a5, ?_, ?_, ?_, ?_⟩
  · intro h h0 h1
    rw [e (6 + h) (by omega)]
    exact hfog h h0 h1
  · intro c c0 c1
    rw [e (30 + c) (by omega)]
    exact hc c c0 c1
  · intro l l0 l1
    have := hl l l0 l1
    unfold mLi at this ⊢
    rw [e (174 + 5 * l + 0) (by omega), e (174 + 5 * l + 1) (by omega), e (174 + 5 * l + 2) (by omega), e (174 + 5 * l + 3) (by omega), e (174 + 5 * l + 4) (by omega), e 0 (by omega), e 1 (by omega), e 4 (by omega)]
    exact this
  · intro w w0 w1
    have := hw w w0 w1
    unfold mWi at this ⊢
    rw [e (214 + 7 * w + 0) (by omega), e (214 + 7 * w + 1) (by omega), e (214 + 7 * w + 2) (by omega), e (214 + 7 * w + 3) (by omega), e (214 + 7 * w + 6) (by omega), e 0 (by omega), e 1 (by omega), zp_eq, e 4 (by omega)]
    exact ⟨this.1, this.2.1, this.2.2.1, this.2.2.2.1, this.2.2.2.2.1, by omega⟩
end MO
/-- the steps to a place -/
noncomputable def zst (s : Int → Int) (g : Int) : Int → Int := @dite _ (∃ st, zDist (s 0) (s 1) (mWt s) (fun p => p = g) False st) (Classical.propDecidable _) (fun h => Classical.choose h) (fun _ _ => -1)
theorem zst_spec {s st : Int → Int} {g : Int} (h : zDist (s 0) (s 1) (mWt s) (fun p => p = g) False st) : zDist (s 0) (s 1) (mWt s) (fun p => p = g) False (zst s g) := by
  unfold zst
  rw [dif_pos ⟨st, h⟩]
  exact Classical.choose_spec (⟨st, h⟩ : ∃ st, zDist (s 0) (s 1) (mWt s) (fun p => p = g) False st)
section SE
variable {s st st' : Int → Int} {go : Int → Prop} {mk mk' : Prop}
theorem sStepBy_eq (hb : (0 ≤ s 0 ∧ s 0 ≤ 12) ∧ 0 ≤ s 1 ∧ s 1 ≤ 12) (h : zDist (s 0) (s 1) (mWt s) go mk st) (h' : zDist (s 0) (s 1) (mWt s) go mk' st') (x y d : Int) : sStepBy s st x y d = sStepBy s st' x y d := by
  unfold sStepBy
  by_cases hc : sIn s (x + zsx d) (y + zsy d) ∧ s (30 + 12 * (y + zsy d) + (x + zsx d)) ≠ 1
  · rw [if_pos hc, if_pos hc]
    obtain ⟨⟨⟨x0, x1⟩, y0, y1⟩, hw⟩ := hc
    rw [Int.add_assoc] at hw
    exact zDist_eq (by omega) (by omega) h h' ⟨by omega, by omega, by omega⟩ hw
  · rw [if_neg hc, if_neg hc]
theorem sLeast_eq (hb : (0 ≤ s 0 ∧ s 0 ≤ 12) ∧ 0 ≤ s 1 ∧ s 1 ≤ 12) (h : zDist (s 0) (s 1) (mWt s) go mk st) (h' : zDist (s 0) (s 1) (mWt s) go mk' st') (x y : Int) (k : Nat) : sLeast s st x y k = sLeast s st' x y k := by
  induction k with
  | zero => rfl
  | succ k ih =>
    unfold sLeast
    rw [ih, sStepBy_eq hb h h']
theorem sSteps_eq (hb : (0 ≤ s 0 ∧ s 0 ≤ 12) ∧ 0 ≤ s 1 ∧ s 1 ≤ 12) (h : zDist (s 0) (s 1) (mWt s) go False st) (h' : zDist (s 0) (s 1) (mWt s) go False st') {x y : Int} (hx : 0 ≤ x ∧ x < s 0) (hy : 0 ≤ y ∧ y < s 1) : sSteps s st x y = sSteps s st' x y := by
  have pv : zVal (s 0) (s 1) (12 * y + x) := ⟨by omega, by omega, by omega⟩
  unfold sSteps
  rw [sLeast_eq hb h h', Int.add_assoc]
  by_cases hw : s (30 + (12 * y + x)) = 1
  · have b := h.1 _ pv
    have b' := h'.1 _ pv
    have g := h.2.1 _ pv
    have g' := h'.2.1 _ pv
    have c := fun q => (h.2.2.1 _ pv q).1 hw
    have c' := fun q => (h'.2.2.1 _ pv q).1 hw
    by_cases e : 12 * y + x = 12 * y + x ∧ go (12 * y + x)
    · have e1 := g.mp e.2
      have e2 := g'.mp e.2
      rw [e1, e2]
    · have e1 : ¬ 0 ≤ st (12 * y + x) := fun q => by
        by_cases z : st (12 * y + x) = 0
        · exact e ⟨rfl, g.mpr z⟩
        · exact c (by omega)
      have e2 : ¬ 0 ≤ st' (12 * y + x) := fun q => by
        by_cases z : st' (12 * y + x) = 0
        · exact e ⟨rfl, g'.mpr z⟩
        · exact c' (by omega)
      rw [if_neg e1, if_neg e2]
  · rw [zDist_eq (by omega) (by omega) h h' pv hw]
end SE
/-- the steps of a traveller to a light, and what a step makes -/
noncomputable def sFarT (s : Int → Int) (w l : Int) : Int := sSteps s (zst s (12 * s (174 + 5 * l + 1) + s (174 + 5 * l + 0))) (s (214 + 7 * w + 0)) (s (214 + 7 * w + 1))
noncomputable def sWay (s : Int → Int) (w l : Int) : Int := zfst (fun d => sStepBy s (zst s (12 * s (174 + 5 * l + 1) + s (174 + 5 * l + 0))) (s (214 + 7 * w + 0)) (s (214 + 7 * w + 1)) d = sFarT s w l - 1) 4
def sStepTo (s : Int → Int) (w d : Int) : Int → Int := zp (zp (zp s (214 + 7 * w + 0) (s (214 + 7 * w + 0) + zsx d)) (214 + 7 * w + 1) (s (214 + 7 * w + 1) + zsy d)) (214 + 7 * w + 6) (s (214 + 7 * w + 6) + 1)
noncomputable def sMoved (s : Int → Int) (w l : Int) : Int → Int := sLeave (sStepTo s w (sWay s w l)) (s (214 + 7 * w + 0)) (s (214 + 7 * w + 1))
/-- a way with one step less -/
theorem sSteps_way {s st : Int → Int} {go : Int → Prop} (hb : (0 ≤ s 0 ∧ s 0 ≤ 12) ∧ 0 ≤ s 1 ∧ s 1 ≤ 12) (h : zDist (s 0) (s 1) (mWt s) go False st) {x y : Int} (hx : 0 ≤ x ∧ x < s 0) (hy : 0 ≤ y ∧ y < s 1) (hf : 0 < sSteps s st x y) : ∃ d : Int, 0 ≤ d ∧ d < 4 ∧ sStepBy s st x y d = sSteps s st x y - 1 := by
  have pv : zVal (s 0) (s 1) (12 * y + x) := ⟨by omega, by omega, by omega⟩
  unfold sSteps at hf ⊢
  by_cases e : 0 ≤ st (12 * y + x)
  · rw [if_pos e] at hf ⊢
    obtain ⟨-, d, d0, d1, d2, d3, d4⟩ := h.2.2.1 _ pv hf
    have ex : (12 * y + x) % 12 = x := by omega
    have ey : (12 * y + x) / 12 = y := by omega
    refine ⟨d, d0, d1, ?_⟩
    unfold znx zny at d2
    have d3' := d3
    unfold mWt znb znx zny at d3
    unfold znb znx zny at d4
    rw [ex, ey] at d2 d3 d4
    unfold sStepBy
    rw [if_pos ⟨d2, by rw [Int.add_assoc]; exact d3⟩]
    exact d4
  · rw [if_neg e] at hf ⊢
    by_cases e2 : s (30 + 12 * y + x) = 1
    · rw [if_pos e2] at hf ⊢
      have key : ∀ k : Nat, 0 < sLeast s st x y k → ∃ d : Int, 0 ≤ d ∧ d < k ∧ sStepBy s st x y d = sLeast s st x y k - 1 := by
        intro k
        induction k with
        | zero => intro h; exact absurd h (show ¬ (0 : Int) < -1 by decide)
        | succ k ih =>
          intro h
          unfold sLeast at h ⊢
          split
          · exact ⟨k, by omega, by omega, by omega⟩
          · rename_i hn
            rw [if_neg hn] at h
            obtain ⟨d, d0, d1, d2⟩ := ih h
            exact ⟨d, d0, by omega, d2⟩
      exact key 4 hf
    · rw [if_neg e2] at hf
      omega
theorem zfst_ex {p : Int → Prop} [DecidablePred p] : ∀ (k : Nat) (d : Int), 0 ≤ d → d < k → p d → 0 ≤ zfst p k := by
  intro k
  induction k with
  | zero => intro d h0 h1; omega
  | succ k ih =>
    intro d h0 h1 h
    unfold zfst
    by_cases e : 0 ≤ zfst p k
    · rw [if_pos e]
      exact e
    · rw [if_neg e]
      by_cases hd : d < k
      · exact absurd (ih d h0 hd h) e
      · have : d = k := by omega
        rw [this] at h
        rw [if_pos h]
        omega
theorem zfst_lt {p : Int → Prop} [DecidablePred p] : ∀ (k : Nat) (j : Int), 0 ≤ j → j < zfst p k → ¬ p j := by
  intro k
  induction k with
  | zero => intro j h0 h1; exact absurd h1 (by show ¬ j < -1; omega)
  | succ k ih =>
    intro j h0 h1 h
    unfold zfst at h1
    by_cases e : 0 ≤ zfst p k
    · rw [if_pos e] at h1
      exact ih j h0 h1 h
    · rw [if_neg e] at h1
      by_cases hp : p k
      · rw [if_pos hp] at h1
        exact e (zfst_ex k j h0 h1 h)
      · rw [if_neg hp] at h1
        omega
/-- what a sinking traveller tells the others -/
def sSinkR (s : Int → Int) (w l : Int) : Nat → (Int → Int)
  | 0 => zp (zp s (214 + 7 * w + 2) 2) (214 + 7 * w + 3) (-1)
  | k + 1 => if (k : Int) = w ∨ sSinkR s w l k (214 + 7 * k + 2) ≠ 0 ∨ sSight (sSinkR s w l k) < sFarL (sSinkR s w l k) k l then sSinkR s w l k
    else if sSinkR s w l k (214 + 7 * k + 3) = l then zp (zp (sSinkR s w l k) (214 + 7 * k + 5) (zadd (sSinkR s w l k (214 + 7 * k + 5)) l)) (214 + 7 * k + 3) (-1)
    else zp (sSinkR s w l k) (214 + 7 * k + 5) (zadd (sSinkR s w l k (214 + 7 * k + 5)) l)
def sSink (s : Int → Int) (w l : Int) : Int → Int := sSinkR s w l (s 5).toNat
abbrev sGood (s : Int → Int) (w l : Int) : Prop := 0 ≤ s (174 + 5 * l + 4) ∧ ¬ zhas (s (214 + 7 * w + 4)) (s (174 + 5 * l + 4)) ∧ ¬ zhas (s (214 + 7 * w + 5)) (s (174 + 5 * l + 4))
def sGoOn (s : Int → Int) (w l : Int) : Int → Int := zp (zp s (214 + 7 * w + 4) (zadd (s (214 + 7 * w + 4)) l)) (214 + 7 * w + 3) (if sGood (zp s (214 + 7 * w + 4) (zadd (s (214 + 7 * w + 4)) l)) w l then zp s (214 + 7 * w + 4) (zadd (s (214 + 7 * w + 4)) l) (174 + 5 * l + 4) else -1)
def sSettle (s : Int → Int) (w l : Int) : Int → Int :=
  if s (30 + 12 * s (214 + 7 * w + 1) + s (214 + 7 * w + 0)) = 2 then zp (zp s (214 + 7 * w + 2) 1) (214 + 7 * w + 3) (-1)
  else if sOn s w l then (if s (174 + 5 * l + 3) = 0 then sSink s w l else sGoOn s w l) else s
noncomputable def sAct1 (s : Int → Int) (w l : Int) : Int → Int :=
  if l < 0 then s else if sOn s w l then sSettle s w l else if 0 ≤ sFarT s w l then sSettle (sMoved s w l) w l
  else zp (zp s (214 + 7 * w + 4) (zadd (s (214 + 7 * w + 4)) l)) (214 + 7 * w + 3) (-1)
def sAim (s : Int → Int) (w : Int) : Int → Int := if s (214 + 7 * w + 3) < 0 then zp s (214 + 7 * w + 3) (sNear s w (s 4).toNat) else s
noncomputable def sAct (s : Int → Int) (w : Int) : Int → Int := sAct1 (sAim s w) w (sAim s w (214 + 7 * w + 3))
noncomputable def sTickR (s : Int → Int) : Nat → (Int → Int)
  | 0 => zp s 3 (s 3 + 1)
  | k + 1 => if sTickR s k (214 + 7 * k + 2) = 0 then sAct (sTickR s k) k else sTickR s k
noncomputable def sTick (s : Int → Int) : Int → Int := sTickR s (s 5).toNat
noncomputable def sTicks (s : Int → Int) : Nat → (Int → Int)
  | 0 => s
  | k + 1 => sTick (sTicks s k)
/-! what a step keeps -/
section KP
variable {s : Int → Int} {w l x y : Int}
/-- two rows with the same sizes, fogs and lights -/
def sSz (s t : Int → Int) : Prop := t 0 = s 0 ∧ t 1 = s 1 ∧ t 2 = s 2 ∧ t 3 = s 3 ∧ t 4 = s 4 ∧ t 5 = s 5 ∧ (∀ h, 0 ≤ h → h < 24 → t (6 + h) = s (6 + h)) ∧ ∀ i, 174 ≤ i → i < 214 → t i = s i
theorem sSz_r : sSz s s := ⟨rfl, rfl, rfl, rfl, rfl, rfl, fun _ _ _ => rfl, fun _ _ _ => rfl⟩
theorem sSz_t {t u : Int → Int} (h : sSz s t) (h' : sSz t u) : sSz s u := by
  obtain ⟨a, b, c, d, e, f, g, i⟩ := h
  obtain ⟨a', b', c', d', e', f', g', i'⟩ := h'
  exact ⟨a'.trans a, b'.trans b, c'.trans c, d'.trans d, e'.trans e, f'.trans f, fun h h0 h1 => (g' h h0 h1).trans (g h h0 h1), fun j j0 j1 => (i' j j0 j1).trans (i j j0 j1)⟩
theorem sSz_p {i v : Int} (h : (30 ≤ i ∧ i < 174) ∨ 214 ≤ i) : sSz s (zp s i v) := ⟨zp_ne (by omega), zp_ne (by omega), zp_ne (by omega), zp_ne (by omega), zp_ne (by omega), zp_ne (by omega), fun h h0 h1 => zp_ne (by omega), fun j j0 j1 => zp_ne (by omega)⟩
theorem sLeave_ok (h : mOk s) (hx : 0 ≤ x ∧ x < 12) (hy : 0 ≤ y ∧ y < 12) : mOk (sLeave s x y) ∧ sSz s (sLeave s x y) := by
  unfold sLeave
  by_cases e : s (30 + 12 * y + x) < 10
  · rw [if_pos e]
    exact ⟨h, sSz_r⟩
  · rw [if_neg e]
    have hc := h.2.2.2.2.2.2.2.1 (12 * y + x) (by omega) (by omega)
    have ee : 30 + 12 * y + x = 30 + (12 * y + x) := by omega
    refine ⟨?_, sSz_p (by omega)⟩
    rw [ee] at e ⊢
    refine mOk_c h (by omega) (by omega) ?_
    split <;> omega
theorem sStepTo_ok {d : Int} (h : mOk s) (h0 : 0 ≤ w) (h1 : w < s 5) (hd : sIn s (s (214 + 7 * w + 0) + zsx d) (s (214 + 7 * w + 1) + zsy d)) (h6 : s (214 + 7 * w + 6) < s 3) : mOk (sStepTo s w d) ∧ sSz s (sStepTo s w d) := by
  obtain ⟨⟨x0, x1⟩, y0, y1⟩ := hd
  have h5 := h.2.2.2.2.2.1
  have b6 := (h.2.2.2.2.2.2.2.2.2 w h0 h1).2.2.2.2
  unfold sStepTo
  have k1 := mOk_w0 (v := s (214 + 7 * w + 0) + zsx d) h h0 h1 (by omega)
  have z1 : sSz s (zp s (214 + 7 * w + 0) (s (214 + 7 * w + 0) + zsx d)) := sSz_p (by omega)
  generalize zp s (214 + 7 * w + 0) (s (214 + 7 * w + 0) + zsx d) = s1 at k1 z1 ⊢
  have k2 := mOk_w1 (v := s (214 + 7 * w + 1) + zsy d) k1 h0 (by rw [z1.2.2.2.2.2.1]; exact h1) (by rw [z1.2.1]; omega)
  have z2 : sSz s (zp s1 (214 + 7 * w + 1) (s (214 + 7 * w + 1) + zsy d)) := sSz_t z1 (sSz_p (by omega))
  generalize zp s1 (214 + 7 * w + 1) (s (214 + 7 * w + 1) + zsy d) = s2 at k2 z2 ⊢
  exact ⟨mOk_w6 k2 h0 (by rw [z2.2.2.2.2.2.1]; exact h1) (by rw [z2.2.2.2.1]; omega), sSz_t z2 (sSz_p (by omega))⟩
theorem mOk_hb (h : mOk s) : (0 ≤ s 0 ∧ s 0 ≤ 12) ∧ 0 ≤ s 1 ∧ s 1 ≤ 12 := by
  obtain ⟨a, b, -⟩ := h
  omega
theorem sSinkR_ok (h : mOk s) (h0 : 0 ≤ w) (h1 : w < s 5) (hl : 0 ≤ l ∧ l < s 4) : ∀ k : Nat, (k : Int) ≤ s 5 → mOk (sSinkR s w l k) ∧ sSz s (sSinkR s w l k) := by
  intro k
  induction k with
  | zero =>
    intro _
    have h5 := h.2.2.2.2.2.1
    have h4 := h.2.2.2.2.1
    unfold sSinkR
    have k1 := mOk_w2 (v := 2) h h0 h1 (by omega)
    have z1 : sSz s (zp s (214 + 7 * w + 2) 2) := sSz_p (by omega)
    generalize zp s (214 + 7 * w + 2) 2 = s1 at k1 z1 ⊢
    exact ⟨mOk_w3 k1 h0 (by rw [z1.2.2.2.2.2.1]; exact h1) (by rw [z1.2.2.2.2.1]; omega), sSz_t z1 (sSz_p (by omega))⟩
  | succ k ih =>
    intro hk
    obtain ⟨k1, z1⟩ := ih (by omega)
    have h4 := h.2.2.2.2.1
    unfold sSinkR
    generalize sSinkR s w l k = s1 at k1 z1 ⊢
    have hk5 : (k : Int) < s1 5 := by rw [z1.2.2.2.2.2.1]; omega
    split
    · exact ⟨k1, z1⟩
    · have k2 := mOk_w5 (v := zadd (s1 (214 + 7 * k + 5)) l) k1 (by omega) hk5 trivial
      have z2 : sSz s (zp s1 (214 + 7 * k + 5) (zadd (s1 (214 + 7 * k + 5)) l)) := sSz_t z1 (sSz_p (by omega))
      generalize zp s1 (214 + 7 * k + 5) (zadd (s1 (214 + 7 * k + 5)) l) = s2 at k2 z2 ⊢
      split
      · exact ⟨mOk_w3 k2 (by omega) (by rw [z2.2.2.2.2.2.1]; omega) (by rw [z2.2.2.2.2.1]; omega), sSz_t z2 (sSz_p (by omega))⟩
      · exact ⟨k2, z2⟩
theorem sGoOn_ok (h : mOk s) (h0 : 0 ≤ w) (h1 : w < s 5) (hl : 0 ≤ l ∧ l < s 4) : mOk (sGoOn s w l) ∧ sSz s (sGoOn s w l) := by
  have h5 := h.2.2.2.2.2.1
  have h4 := h.2.2.2.2.1
  have hn := (h.2.2.2.2.2.2.2.2.1 l hl.1 hl.2).2.2.2.2
  unfold sGoOn
  have k1 := mOk_w4 (v := zadd (s (214 + 7 * w + 4)) l) h h0 h1 trivial
  have z1 : sSz s (zp s (214 + 7 * w + 4) (zadd (s (214 + 7 * w + 4)) l)) := sSz_p (by omega)
  generalize zp s (214 + 7 * w + 4) (zadd (s (214 + 7 * w + 4)) l) = s1 at k1 z1 ⊢
  refine ⟨mOk_w3 k1 h0 (by rw [z1.2.2.2.2.2.1]; exact h1) ?_, sSz_t z1 (sSz_p (by omega))⟩
  have e := z1.2.2.2.2.2.2.2 (174 + 5 * l + 4) (by omega) (by omega)
  have e4 := z1.2.2.2.2.1
  split <;> omega
theorem sSettle_ok (h : mOk s) (h0 : 0 ≤ w) (h1 : w < s 5) (hl : 0 ≤ l ∧ l < s 4) : mOk (sSettle s w l) ∧ sSz s (sSettle s w l) := by
  have h5 := h.2.2.2.2.2.1
  have h4 := h.2.2.2.2.1
  unfold sSettle
  split
  · have k1 := mOk_w2 (v := 1) h h0 h1 (by omega)
    have z1 : sSz s (zp s (214 + 7 * w + 2) 1) := sSz_p (by omega)
    generalize zp s (214 + 7 * w + 2) 1 = s1 at k1 z1 ⊢
    exact ⟨mOk_w3 k1 h0 (by rw [z1.2.2.2.2.2.1]; exact h1) (by rw [z1.2.2.2.2.1]; omega), sSz_t z1 (sSz_p (by omega))⟩
  · split
    · split
      · exact sSinkR_ok h h0 h1 hl _ (by omega)
      · exact sGoOn_ok h h0 h1 hl
    · exact ⟨h, sSz_r⟩
/-- the way of a step lies in the grid -/
theorem sWay_ok {st : Int → Int} (h : mOk s) (h0 : 0 ≤ w) (h1 : w < s 5) (hl : 0 ≤ l ∧ l < s 4) (hst : zDist (s 0) (s 1) (mWt s) (fun p => p = 12 * s (174 + 5 * l + 1) + s (174 + 5 * l + 0)) False st) (hon : ¬ sOn s w l) (hf : 0 ≤ sFarT s w l) :
    0 < sFarT s w l ∧ 0 ≤ sWay s w l ∧ sWay s w l < 4 ∧ sStepBy s (zst s (12 * s (174 + 5 * l + 1) + s (174 + 5 * l + 0))) (s (214 + 7 * w + 0)) (s (214 + 7 * w + 1)) (sWay s w l) = sFarT s w l - 1 ∧ sIn s (s (214 + 7 * w + 0) + zsx (sWay s w l)) (s (214 + 7 * w + 1) + zsy (sWay s w l)) := by
  have hb := mOk_hb h
  obtain ⟨⟨x0, x1⟩, ⟨y0, y1⟩, -⟩ := h.2.2.2.2.2.2.2.2.2 w h0 h1
  obtain ⟨⟨lx0, lx1⟩, ⟨ly0, ly1⟩, -⟩ := h.2.2.2.2.2.2.2.2.1 l hl.1 hl.2
  have hz := zst_spec hst
  have hp : 0 < sFarT s w l := by
    by_cases e : sFarT s w l = 0
    · exfalso
      unfold sFarT sSteps at e
      have pv : zVal (s 0) (s 1) (12 * s (214 + 7 * w + 1) + s (214 + 7 * w + 0)) := ⟨by omega, by omega, by omega⟩
      by_cases q : 0 ≤ zst s (12 * s (174 + 5 * l + 1) + s (174 + 5 * l + 0)) (12 * s (214 + 7 * w + 1) + s (214 + 7 * w + 0))
      · rw [if_pos q] at e
        have := (hz.2.1 _ pv).mpr e
        exact hon ⟨by omega, by omega⟩
      · rw [if_neg q] at e
        split at e
        · have key : ∀ k : Nat, sLeast s (zst s (12 * s (174 + 5 * l + 1) + s (174 + 5 * l + 0))) (s (214 + 7 * w + 0)) (s (214 + 7 * w + 1)) k ≠ 0 := by
            intro k
            induction k with
            | zero => exact (by decide : (-1 : Int) ≠ 0)
            | succ k ih =>
              unfold sLeast
              split
              · omega
              · exact ih
          exact key 4 e
        · omega
    · omega
  obtain ⟨d, d0, d1, d2⟩ := sSteps_way hb hz ⟨x0, x1⟩ ⟨y0, y1⟩ hp
  have w0 := zfst_ex (p := fun d => sStepBy s (zst s (12 * s (174 + 5 * l + 1) + s (174 + 5 * l + 0))) (s (214 + 7 * w + 0)) (s (214 + 7 * w + 1)) d = sFarT s w l - 1) 4 d d0 d1 d2
  have w1 := (zfst_rng (fun d => sStepBy s (zst s (12 * s (174 + 5 * l + 1) + s (174 + 5 * l + 0))) (s (214 + 7 * w + 0)) (s (214 + 7 * w + 1)) d = sFarT s w l - 1) 4).2
  have w2 := zfst_p 4 w0
  have w3 : sStepBy s (zst s (12 * s (174 + 5 * l + 1) + s (174 + 5 * l + 0))) (s (214 + 7 * w + 0)) (s (214 + 7 * w + 1)) (sWay s w l) = sFarT s w l - 1 := w2
  refine ⟨hp, w0, w1, w3, ?_⟩
  by_cases hc : sIn s (s (214 + 7 * w + 0) + zsx (sWay s w l)) (s (214 + 7 * w + 1) + zsy (sWay s w l))
  · exact hc
  · exfalso
    unfold sStepBy at w3
    rw [if_neg (fun q => hc q.1)] at w3
    omega
theorem sMoved_ok {st : Int → Int} (h : mOk s) (h0 : 0 ≤ w) (h1 : w < s 5) (hl : 0 ≤ l ∧ l < s 4) (hst : zDist (s 0) (s 1) (mWt s) (fun p => p = 12 * s (174 + 5 * l + 1) + s (174 + 5 * l + 0)) False st) (hon : ¬ sOn s w l) (hf : 0 ≤ sFarT s w l) (h6 : s (214 + 7 * w + 6) < s 3) : mOk (sMoved s w l) ∧ sSz s (sMoved s w l) := by
  obtain ⟨-, -, -, -, hin⟩ := sWay_ok h h0 h1 hl hst hon hf
  obtain ⟨k1, z1⟩ := sStepTo_ok h h0 h1 hin h6
  obtain ⟨⟨x0, x1⟩, ⟨y0, y1⟩, -⟩ := h.2.2.2.2.2.2.2.2.2 w h0 h1
  have hb := mOk_hb h
  obtain ⟨k2, z2⟩ := sLeave_ok (x := s (214 + 7 * w + 0)) (y := s (214 + 7 * w + 1)) k1 ⟨x0, by omega⟩ ⟨y0, by omega⟩
  exact ⟨k2, sSz_t z1 z2⟩
theorem sAim_ok (h : mOk s) (h0 : 0 ≤ w) (h1 : w < s 5) : mOk (sAim s w) ∧ sSz s (sAim s w) := by
  have h5 := h.2.2.2.2.2.1
  have h4 := h.2.2.2.2.1
  have hn := sNear_rng s w (s 4).toNat
  unfold sAim
  split
  · exact ⟨mOk_w3 h h0 h1 (by omega), sSz_p (by omega)⟩
  · exact ⟨h, sSz_r⟩
end KP
/-! shortest ways there always are: the model's own search finds them -/
theorem zDist_wt {W H : Int} {wt wt' go : Int → Prop} {mk : Prop} {st : Int → Int} (hW : W ≤ 12) (hH : H ≤ 12) (h : zDist W H wt go mk st) (e : ∀ p, zVal W H p → (wt p ↔ wt' p)) : zDist W H wt' go mk st := by
  refine ⟨h.1, h.2.1, ?_, ?_⟩
  · intro p pv ps
    obtain ⟨a, d, d0, d1, d2, d3, d4⟩ := h.2.2.1 p pv ps
    exact ⟨fun q => a ((e p pv).mpr q), d, d0, d1, d2, fun q => d3 ((e _ (znb_val hW hH d2).1).mpr q), d4⟩
  · intro p pv ps pw d d0 d1 i1 i2
    exact h.2.2.2 p pv ps (fun q => pw ((e p pv).mp q)) d d0 d1 i1 (fun q => i2 ((e _ (znb_val hW hH i1).1).mp q))
theorem zst_ex {s : Int → Int} {g : Int} (hb : (0 ≤ s 0 ∧ s 0 ≤ 12) ∧ 0 ≤ s 1 ∧ s 1 ≤ 12) (hg : zVal (s 0) (s 1) g) : zDist (s 0) (s 1) (mWt s) (fun p => p = g) False (zst s g) := by
  obtain ⟨st, h⟩ := zx_to (wt := mWt s) hb.1 hb.2 hg
  exact zst_spec h
section KQ
variable {s : Int → Int} {w l : Int}
theorem zst_l (h : mOk s) (hl : 0 ≤ l ∧ l < s 4) : zDist (s 0) (s 1) (mWt s) (fun p => p = 12 * s (174 + 5 * l + 1) + s (174 + 5 * l + 0)) False (zst s (12 * s (174 + 5 * l + 1) + s (174 + 5 * l + 0))) := by
  have hb := mOk_hb h
  obtain ⟨⟨lx0, lx1⟩, ⟨ly0, ly1⟩, -⟩ := h.2.2.2.2.2.2.2.2.1 l hl.1 hl.2
  exact zst_ex hb ⟨by omega, by omega, by omega⟩
theorem sAct1_ok (h : mOk s) (h0 : 0 ≤ w) (h1 : w < s 5) (hl : l < s 4) (h6 : s (214 + 7 * w + 6) < s 3) : mOk (sAct1 s w l) ∧ sSz s (sAct1 s w l) := by
  have h5 := h.2.2.2.2.2.1
  have h4 := h.2.2.2.2.1
  unfold sAct1
  split
  · exact ⟨h, sSz_r⟩
  · have hl' : 0 ≤ l ∧ l < s 4 := ⟨by omega, hl⟩
    split
    · exact sSettle_ok h h0 h1 hl'
    · rename_i hon
      split
      · rename_i hf
        obtain ⟨k1, z1⟩ := sMoved_ok h h0 h1 hl' (zst_l h hl') hon hf h6
        obtain ⟨k2, z2⟩ := sSettle_ok (w := w) (l := l) k1 h0 (by rw [z1.2.2.2.2.2.1]; exact h1) (by rw [z1.2.2.2.2.1]; exact hl')
        exact ⟨k2, sSz_t z1 z2⟩
      · have k1 := mOk_w4 (v := zadd (s (214 + 7 * w + 4)) l) h h0 h1 trivial
        have z1 : sSz s (zp s (214 + 7 * w + 4) (zadd (s (214 + 7 * w + 4)) l)) := sSz_p (by omega)
        generalize zp s (214 + 7 * w + 4) (zadd (s (214 + 7 * w + 4)) l) = s1 at k1 z1 ⊢
        exact ⟨mOk_w3 k1 h0 (by rw [z1.2.2.2.2.2.1]; exact h1) (by rw [z1.2.2.2.2.1]; omega), sSz_t z1 (sSz_p (by omega))⟩
theorem sAim_lt (h : mOk s) (h0 : 0 ≤ w) (h1 : w < s 5) : sAim s w (214 + 7 * w + 3) < s 4 ∧ sAim s w (214 + 7 * w + 6) = s (214 + 7 * w + 6) := by
  have h4 := h.2.2.2.2.1
  have hn := sNear_rng s w (s 4).toNat
  obtain ⟨-, -, -, ⟨t0, t1⟩, -⟩ := h.2.2.2.2.2.2.2.2.2 w h0 h1
  unfold sAim
  split
  · rw [zp_eq, zp_ne (by omega)]
    exact ⟨by omega, rfl⟩
  · exact ⟨t1, rfl⟩
theorem sAct_ok (h : mOk s) (h0 : 0 ≤ w) (h1 : w < s 5) (h6 : s (214 + 7 * w + 6) < s 3) : mOk (sAct s w) ∧ sSz s (sAct s w) := by
  obtain ⟨k1, z1⟩ := sAim_ok h h0 h1
  obtain ⟨a1, a2⟩ := sAim_lt h h0 h1
  obtain ⟨k2, z2⟩ := sAct1_ok (w := w) (l := sAim s w (214 + 7 * w + 3)) k1 h0 (by rw [z1.2.2.2.2.2.1]; exact h1) (by rw [z1.2.2.2.2.1]; exact a1) (by rw [a2, z1.2.2.2.1]; exact h6)
  exact ⟨k2, sSz_t z1 z2⟩
/-- the steps of the others -/
theorem sSinkR_6 {w' : Int} : ∀ k : Nat, sSinkR s w l k (214 + 7 * w' + 6) = s (214 + 7 * w' + 6) := by
  intro k
  induction k with
  | zero =>
    unfold sSinkR
    rw [zp_ne (by omega), zp_ne (by omega)]
  | succ k ih =>
    unfold sSinkR
    split
    · exact ih
    · split
      · rw [zp_ne (by omega), zp_ne (by omega), ih]
      · rw [zp_ne (by omega), ih]
theorem sSettle_6 {w' : Int} : sSettle s w l (214 + 7 * w' + 6) = s (214 + 7 * w' + 6) := by
  unfold sSettle
  split
  · rw [zp_ne (by omega), zp_ne (by omega)]
  · split
    · split
      · exact sSinkR_6 _
      · unfold sGoOn
        rw [zp_ne (by omega), zp_ne (by omega)]
    · rfl
theorem sMoved_6 {w' : Int} (h : mOk s) (h0 : 0 ≤ w) (h1 : w < s 5) (hw : w' ≠ w) (hw0 : 0 ≤ w') : sMoved s w l (214 + 7 * w' + 6) = s (214 + 7 * w' + 6) := by
  obtain ⟨⟨x0, x1⟩, ⟨y0, y1⟩, -⟩ := h.2.2.2.2.2.2.2.2.2 w h0 h1
  have hb := mOk_hb h
  have e : sStepTo s w (sWay s w l) (214 + 7 * w' + 6) = s (214 + 7 * w' + 6) := by
    unfold sStepTo
    rw [zp_ne (by omega), zp_ne (by omega), zp_ne (by omega)]
  unfold sMoved sLeave
  split
  · exact e
  · rw [zp_ne (by omega)]
    exact e
theorem sAct_6 {w' : Int} (h : mOk s) (h0 : 0 ≤ w) (h1 : w < s 5) (hw : w' ≠ w) (hw0 : 0 ≤ w') : sAct s w (214 + 7 * w' + 6) = s (214 + 7 * w' + 6) := by
  obtain ⟨k1, z1⟩ := sAim_ok h h0 h1
  have e : sAim s w (214 + 7 * w' + 6) = s (214 + 7 * w' + 6) := by
    unfold sAim
    split
    · rw [zp_ne (by omega)]
    · rfl
  unfold sAct sAct1
  split
  · exact e
  · split
    · rw [sSettle_6, e]
    · split
      · rw [sSettle_6, sMoved_6 k1 h0 (by rw [z1.2.2.2.2.2.1]; exact h1) hw hw0, e]
      · rw [zp_ne (by omega), zp_ne (by omega), e]
theorem sTickR_ok (h : mOk s) (ht : s 3 < 30000) : ∀ k : Nat, (k : Int) ≤ s 5 → mOk (sTickR s k) ∧ sSz (zp s 3 (s 3 + 1)) (sTickR s k) ∧ ∀ w' : Int, k ≤ w' → w' < 6 → sTickR s k (214 + 7 * w' + 6) = s (214 + 7 * w' + 6) := by
  intro k
  induction k with
  | zero =>
    intro _
    exact ⟨mOk_t h (by omega) (by omega), sSz_r, fun w' w0 w1 => zp_ne (by omega)⟩
  | succ k ih =>
    intro hk
    obtain ⟨k1, z1, g1⟩ := ih (by omega)
    have h5 := h.2.2.2.2.2.1
    have hk5 : (k : Int) < sTickR s k 5 := by
      rw [z1.2.2.2.2.2.1, zp_ne (by omega)]
      omega
    unfold sTickR
    split
    · have hw := (h.2.2.2.2.2.2.2.2.2 k (by omega) (by omega)).2.2.2.2
      have h6 : sTickR s k (214 + 7 * (k : Int) + 6) < sTickR s k 3 := by
        rw [g1 k (by omega) (by omega), z1.2.2.2.1, zp_eq]
        omega
      obtain ⟨k2, z2⟩ := sAct_ok k1 (by omega) hk5 h6
      exact ⟨k2, sSz_t z1 z2, fun w' w0 w1 => by rw [sAct_6 k1 (by omega) hk5 (by omega) (by omega)]; exact g1 w' (by omega) w1⟩
    · exact ⟨k1, z1, fun w' w0 w1 => g1 w' (by omega) w1⟩
theorem sTick_ok (h : mOk s) (ht : s 3 < 30000) : mOk (sTick s) ∧ sSz (zp s 3 (s 3 + 1)) (sTick s) := by
  have h5 := h.2.2.2.2.2.1
  obtain ⟨k1, z1, -⟩ := sTickR_ok h ht (s 5).toNat (by omega)
  exact ⟨k1, z1⟩
theorem sTicks_ok (h : mOk s) : ∀ k : Nat, s 3 + k ≤ 30000 → mOk (sTicks s k) ∧ sSz (zp s 3 (s 3 + k)) (sTicks s k) := by
  intro k
  induction k with
  | zero =>
    intro _
    have e : zp s 3 (s 3 + ((0 : Nat) : Int)) = s := by
      rw [show s 3 + ((0 : Nat) : Int) = s 3 by omega]
      exact zp_self s 3
    rw [e]
    exact ⟨h, sSz_r⟩
  | succ k ih =>
    intro hk
    obtain ⟨k1, z1⟩ := ih (by omega)
    have e3 : sTicks s k 3 = s 3 + k := by rw [z1.2.2.2.1, zp_eq]
    obtain ⟨k2, z2⟩ := sTick_ok k1 (by omega)
    refine ⟨k2, ?_⟩
    obtain ⟨a, b, c, d, e, f, g, i⟩ := z1
    obtain ⟨a', b', c', d', e', f', g', i'⟩ := z2
    have q : ∀ j, j ≠ 3 → zp s 3 (s 3 + ((k + 1 : Nat) : Int)) j = s j := fun j hj => zp_ne hj
    have q1 : ∀ j, j ≠ 3 → zp s 3 (s 3 + (k : Int)) j = s j := fun j hj => zp_ne hj
    have q2 : ∀ j, j ≠ 3 → zp (sTicks s k) 3 (sTicks s k 3 + 1) j = sTicks s k j := fun j hj => zp_ne hj
    refine ⟨?_, ?_, ?_, ?_, ?_, ?_, ?_, ?_⟩
    · exact a'.trans ((q2 0 (by omega)).trans (a.trans ((q1 0 (by omega)).trans (q 0 (by omega)).symm)))
    · exact b'.trans ((q2 1 (by omega)).trans (b.trans ((q1 1 (by omega)).trans (q 1 (by omega)).symm)))
    · exact c'.trans ((q2 2 (by omega)).trans (c.trans ((q1 2 (by omega)).trans (q 2 (by omega)).symm)))
    · rw [zp_eq]
      have := d'
      rw [zp_eq, e3] at this
      show sTick (sTicks s k) 3 = _
      omega
    · exact e'.trans ((q2 4 (by omega)).trans (e.trans ((q1 4 (by omega)).trans (q 4 (by omega)).symm)))
    · exact f'.trans ((q2 5 (by omega)).trans (f.trans ((q1 5 (by omega)).trans (q 5 (by omega)).symm)))
    · intro j j0 j1
      exact (g' j j0 j1).trans ((q2 _ (by omega)).trans ((g j j0 j1).trans ((q1 _ (by omega)).trans (q _ (by omega)).symm)))
    · intro j j0 j1
      exact (i' j j0 j1).trans ((q2 _ (by omega)).trans ((i j j0 j1).trans ((q1 _ (by omega)).trans (q _ (by omega)).symm)))
end KQ
