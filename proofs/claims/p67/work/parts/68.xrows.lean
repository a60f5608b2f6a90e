/-! What holds of rows that grow; reading, step by step (by hand). -/
section MG
variable {s : Int → Int}
theorem mOk_fog {h f : Int} (hok : mOk s) (hh : 0 ≤ h ∧ h < 24) (hf : 0 ≤ f ∧ f ≤ 9) : mOk (zp s (6 + h) f) := by
  obtain ⟨a0, a1, a2, a3, a4, a5, hfog, hc, hl, hw⟩ := hok
  have e : ∀ i, (i < 6 ∨ 30 ≤ i) → zp s (6 + h) f i = s i := fun i hi => zp_ne (by omega)
  unfold mOk
  rw [e 0 (by omega), e 1 (by omega), e 2 (by omega), e 3 (by omega), e 4 (by omega), e 5 (by omega)]
  refine ⟨a0, a1, a2, a3, a4, a5, fun h' h0 h1 => ?_, fun c c0 c1 => ?_, fun l l0 l1 => ?_, fun w w0 w1 => ?_⟩
  · by_cases q : h' = h
    · rw [q, zp_eq]
      exact hf
    · rw [zp_ne (by omega)]
      exact hfog h' h0 h1
  · rw [e _ (by omega)]
    exact hc c c0 c1
  · have := hl l l0 l1
    unfold mLi at this ⊢
    rw [e (174 + 5 * l + 0) (by omega), e (174 + 5 * l + 1) (by omega), e (174 + 5 * l + 2) (by omega), e (174 + 5 * l + 3) (by omega), e (174 + 5 * l + 4) (by omega), e 0 (by omega), e 1 (by omega), e 4 (by omega)]
    exact this
  · have := hw w w0 w1
    unfold mWi at this ⊢
    rw [e (214 + 7 * w + 0) (by omega), e (214 + 7 * w + 1) (by omega), e (214 + 7 * w + 2) (by omega), e (214 + 7 * w + 3) (by omega), e (214 + 7 * w + 6) (by omega), e 0 (by omega), e 1 (by omega), e 4 (by omega), e 3 (by omega)]
    exact this
theorem sAddL_o {x y b c i : Int} (h1 : i ≠ 4) (h2 : i < 174 + 5 * s 4 ∨ 174 + 5 * s 4 + 5 ≤ i) : sAddL s x y b c i = s i := by
  unfold sAddL
  rw [zp_ne h1, zp_ne (by omega), zp_ne (by omega), zp_ne (by omega), zp_ne (by omega), zp_ne (by omega)]
theorem sAddL_4 {x y b c : Int} : sAddL s x y b c 4 = s 4 + 1 := zp_eq _ _ _
theorem sAddL_f {x y b c : Int} (h4 : 0 ≤ s 4) : sAddL s x y b c (174 + 5 * s 4 + 0) = x ∧ sAddL s x y b c (174 + 5 * s 4 + 1) = y ∧ sAddL s x y b c (174 + 5 * s 4 + 2) = b ∧ sAddL s x y b c (174 + 5 * s 4 + 3) = c ∧ sAddL s x y b c (174 + 5 * s 4 + 4) = -1 := by
  unfold sAddL
  refine ⟨?_, ?_, ?_, ?_, ?_⟩
  · rw [zp_ne (by omega), zp_ne (by omega), zp_ne (by omega), zp_ne (by omega), zp_ne (by omega), zp_eq]
  · rw [zp_ne (by omega), zp_ne (by omega), zp_ne (by omega), zp_ne (by omega), zp_eq]
  · rw [zp_ne (by omega), zp_ne (by omega), zp_ne (by omega), zp_eq]
  · rw [zp_ne (by omega), zp_ne (by omega), zp_eq]
  · rw [zp_ne (by omega), zp_eq]
theorem mOk_addL {x y b c : Int} (hok : mOk s) (h8 : s 4 < 8) (hx : 0 ≤ x ∧ x < s 0) (hy : 0 ≤ y ∧ y < s 1) (hb : 0 ≤ b ∧ b ≤ 9) (hc1 : 0 ≤ c ∧ c ≤ 1) : mOk (sAddL s x y b c) := by
  obtain ⟨a0, a1, a2, a3, a4, a5, hfog, hc, hl, hw⟩ := hok
  have e : ∀ i, i ≠ 4 → (i < 174 + 5 * s 4 ∨ 174 + 5 * s 4 + 5 ≤ i) → sAddL s x y b c i = s i := fun i h1 h2 => sAddL_o h1 h2
  obtain ⟨f0, f1, f2, f3, f4⟩ := sAddL_f (s := s) (x := x) (y := y) (b := b) (c := c) a4.1
  unfold mOk
  rw [e 0 (by omega) (by omega), e 1 (by omega) (by omega), e 2 (by omega) (by omega), e 3 (by omega) (by omega), sAddL_4, e 5 (by omega) (by omega)]
  refine ⟨a0, a1, a2, a3, by omega, a5, fun h' h0 h1 => ?_, fun c' c0 c1 => ?_, fun l l0 l1 => ?_, fun w w0 w1 => ?_⟩
  · rw [e _ (by omega) (by omega)]
    exact hfog h' h0 h1
  · rw [e _ (by omega) (by omega)]
    exact hc c' c0 c1
  · unfold mLi
    rw [e 0 (by omega) (by omega), e 1 (by omega) (by omega), sAddL_4]
    by_cases q : l = s 4
    · rw [q, f0, f1, f2, f3, f4]
      exact ⟨hx, hy, hb, hc1, by omega, by omega⟩
    · have := hl l l0 (by omega)
      unfold mLi at this
      rw [e (174 + 5 * l + 0) (by omega) (by omega), e (174 + 5 * l + 1) (by omega) (by omega), e (174 + 5 * l + 2) (by omega) (by omega), e (174 + 5 * l + 3) (by omega) (by omega), e (174 + 5 * l + 4) (by omega) (by omega)]
      obtain ⟨q1, q2, q3, q4, q5, q6⟩ := this
      exact ⟨q1, q2, q3, q4, q5, by omega⟩
  · have := hw w w0 w1
    unfold mWi at this ⊢
    rw [e (214 + 7 * w + 0) (by omega) (by omega), e (214 + 7 * w + 1) (by omega) (by omega), e (214 + 7 * w + 2) (by omega) (by omega), e (214 + 7 * w + 3) (by omega) (by omega), e (214 + 7 * w + 6) (by omega) (by omega), e 0 (by omega) (by omega), e 1 (by omega) (by omega), sAddL_4, e 3 (by omega) (by omega)]
    obtain ⟨q1, q2, q3, ⟨q4, q5⟩, q6⟩ := this
    exact ⟨q1, q2, q3, ⟨q4, by omega⟩, q6⟩
theorem sAddW_o {x y i : Int} (h5 : 0 ≤ s 5) (h1 : i ≠ 5) (h2 : i < 214 + 7 * s 5 ∨ 214 + 7 * s 5 + 7 ≤ i) : sAddW s x y i = s i := by
  unfold sAddW
  rw [if_neg h1, if_neg (by omega), if_neg (by omega), if_neg (by omega), if_neg (by omega)]
theorem sAddW_f {x y : Int} (h5 : 0 ≤ s 5) : sAddW s x y 5 = s 5 + 1 ∧ sAddW s x y (214 + 7 * s 5 + 0) = x ∧ sAddW s x y (214 + 7 * s 5 + 1) = y ∧ sAddW s x y (214 + 7 * s 5 + 3) = -1 ∧ ∀ f, (f = 2 ∨ f = 4 ∨ f = 5 ∨ f = 6) → sAddW s x y (214 + 7 * s 5 + f) = 0 := by
  unfold sAddW
  refine ⟨if_pos rfl, ?_, ?_, ?_, fun f hf => ?_⟩
  · rw [if_neg (by omega), if_neg (by omega), if_neg (by omega), if_pos rfl]
  · rw [if_neg (by omega), if_neg (by omega), if_pos rfl]
  · rw [if_neg (by omega), if_pos rfl]
  · rw [if_neg (by omega), if_neg (by omega), if_neg (by omega), if_neg (by omega), if_pos (by omega)]
theorem mOk_addW {x y : Int} (hok : mOk s) (h6 : s 5 < 6) (hx : 0 ≤ x ∧ x < s 0) (hy : 0 ≤ y ∧ y < s 1) : mOk (sAddW s x y) := by
  obtain ⟨a0, a1, a2, a3, a4, a5, hfog, hc, hl, hw⟩ := hok
  have e : ∀ i, i ≠ 5 → (i < 214 + 7 * s 5 ∨ 214 + 7 * s 5 + 7 ≤ i) → sAddW s x y i = s i := fun i h1 h2 => sAddW_o a5.1 h1 h2
  obtain ⟨e5, f0, f1, f3, fz⟩ := sAddW_f (s := s) (x := x) (y := y) a5.1
  unfold mOk
  rw [e 0 (by omega) (by omega), e 1 (by omega) (by omega), e 2 (by omega) (by omega), e 3 (by omega) (by omega), e 4 (by omega) (by omega), e5]
  refine ⟨a0, a1, a2, a3, a4, by omega, fun h' h0 h1 => ?_, fun c' c0 c1 => ?_, fun l l0 l1 => ?_, fun w w0 w1 => ?_⟩
  · rw [e _ (by omega) (by omega)]
    exact hfog h' h0 h1
  · rw [e _ (by omega) (by omega)]
    exact hc c' c0 c1
  · have := hl l l0 l1
    unfold mLi at this ⊢
    rw [e (174 + 5 * l + 0) (by omega) (by omega), e (174 + 5 * l + 1) (by omega) (by omega), e (174 + 5 * l + 2) (by omega) (by omega), e (174 + 5 * l + 3) (by omega) (by omega), e (174 + 5 * l + 4) (by omega) (by omega), e 0 (by omega) (by omega), e 1 (by omega) (by omega), e 4 (by omega) (by omega)]
    exact this
  · unfold mWi
    rw [e 0 (by omega) (by omega), e 1 (by omega) (by omega), e 4 (by omega) (by omega), e 3 (by omega) (by omega)]
    by_cases q : w = s 5
    · rw [q, f0, f1, f3, fz 2 (by omega), fz 6 (by omega)]
      exact ⟨hx, hy, by omega, by omega, by omega⟩
    · have := hw w w0 (by omega)
      unfold mWi at this
      rw [e (214 + 7 * w + 0) (by omega) (by omega), e (214 + 7 * w + 1) (by omega) (by omega), e (214 + 7 * w + 2) (by omega) (by omega), e (214 + 7 * w + 3) (by omega) (by omega), e (214 + 7 * w + 6) (by omega) (by omega)]
      exact this
theorem mOk_cells {u : Int → Int} (hok : mOk s) (e : ∀ i, (i < 30 ∨ 174 ≤ i) → u i = s i) (hu : ∀ c, 0 ≤ c → c < 144 → (0 ≤ u (30 + c) ∧ u (30 + c) ≤ 2) ∨ (11 ≤ u (30 + c) ∧ u (30 + c) ≤ 19)) : mOk u := by
  obtain ⟨a0, a1, a2, a3, a4, a5, hfog, hc, hl, hw⟩ := hok
  unfold mOk
  rw [e 0 (by omega), e 1 (by omega), e 2 (by omega), e 3 (by omega), e 4 (by omega), e 5 (by omega)]
  refine ⟨a0, a1, a2, a3, a4, a5, fun h' h0 h1 => ?_, hu, fun l l0 l1 => ?_, fun w w0 w1 => ?_⟩
  · rw [e _ (by omega)]
    exact hfog h' h0 h1
  · have := hl l l0 l1
    unfold mLi at this ⊢
    rw [e (174 + 5 * l + 0) (by omega), e (174 + 5 * l + 1) (by omega), e (174 + 5 * l + 2) (by omega), e (174 + 5 * l + 3) (by omega), e (174 + 5 * l + 4) (by omega), e 0 (by omega), e 1 (by omega), e 4 (by omega)]
    exact this
  · have := hw w w0 w1
    unfold mWi at this ⊢
    rw [e (214 + 7 * w + 0) (by omega), e (214 + 7 * w + 1) (by omega), e (214 + 7 * w + 2) (by omega), e (214 + 7 * w + 3) (by omega), e (214 + 7 * w + 6) (by omega), e 0 (by omega), e 1 (by omega), e 4 (by omega), e 3 (by omega)]
    exact this
theorem pCell_rng (c : Int) : pCell c = -1 ∨ pCell c = 0 ∨ pCell c = 1 ∨ pCell c = 2 ∨ pCell c = 13 := by
  unfold pCell
  (repeat' split) <;> omega
theorem mOk_row {T : Int → Int} {b y k : Int} (hok : mOk s) (hy : 0 ≤ y ∧ y < 12) (hk : k ≤ 12) (hc : ∀ j, 0 ≤ j → j < k → 0 ≤ pCell (T (b + j))) : mOk (pRowD T s b y k) := by
  refine mOk_cells hok (fun i hi => if_neg (by omega)) (fun c c0 c1 => ?_)
  unfold pRowD
  by_cases q : 30 + 12 * y ≤ 30 + c ∧ 30 + c < 30 + 12 * y + k
  · rw [if_pos q]
    have h1 := hc (30 + c - (30 + 12 * y)) (by omega) (by omega)
    have h2 := pCell_rng (T (b + (30 + c - (30 + 12 * y))))
    omega
  · rw [if_neg q]
    exact hok.2.2.2.2.2.2.2.1 c c0 c1
end MG
section PK
variable {T : Int → Int} {n p e : Int} {D : Int → Int} {c : Prop}
theorem pTk_t [Decidable c] (h : c) : pTk T n (p, 0, e, D) c = (tE T n p, 0, e, D) := (if_neg (fun q => q rfl)).trans (if_pos h)
theorem pTk_f [Decidable c] (h : ¬ c) : pTk T n (p, 0, e, D) c = (p, 1, tB T n p, D) := (if_neg (fun q => q rfl)).trans (if_neg h)
theorem pTk_w [Decidable c] {x : zTx} (h : x.2.1 = 1) : pTk T n x c = x := if_pos (by rw [h]; decide)
theorem pNs_t {lo hi : Int} (h : pNc T n (p, 0, e, D) lo hi) : pNs T n (p, 0, e, D) lo hi = (tE T n p, 0, e, D) := pTk_t h
theorem pNs_f {lo hi : Int} (h : ¬ pNc T n (p, 0, e, D) lo hi) : pNs T n (p, 0, e, D) lo hi = (p, 1, tB T n p, D) := pTk_f h
theorem pNs_w {x : zTx} {lo hi : Int} (h : x.2.1 = 1) : pNs T n x lo hi = x := pTk_w h
theorem pNv_t {lo hi : Int} (h : pNc T n (p, 0, e, D) lo hi) : pNv T n (p, 0, e, D) lo hi = tV T n p := if_pos ⟨rfl, h⟩
theorem pLoop_w {v : Int} {f : zTx → zTx} {x : zTx} (h : x.2.1 = 1) : ∀ k : Nat, pLoop T n v f k x = x := by
  intro k
  cases k with
  | zero => rfl
  | succ k => exact if_neg (fun q => by rw [h] at q; exact absurd q.1 (by decide))
theorem pRow_w {y : Int} {x : zTx} (h : x.2.1 = 1) : pRow T n y x = x := by
  unfold pRow
  rw [pTk_w h, if_pos (by rw [h]; decide)]
theorem pRows_w {x : zTx} (h : x.2.1 = 1) : ∀ k : Nat, pRows T n k x = x := by
  intro k
  induction k with
  | zero => rfl
  | succ k ih =>
    show pRow T n k (pRows T n k x) = x
    rw [ih, pRow_w h]
end PK
/-- a world and a row of which the first K rows of cells are read -/
def RXg (G : GM) (w : Nat) (s : Int → Int) (K : Int) : Prop :=
  (G (16 * w + 1) 0 = s 0 ∧ G (16 * w + 1) 1 = s 1 ∧ G (16 * w) 4 = s 2 ∧ G (16 * w) 5 = s 3 ∧ G (16 * w + 3) 0 = s 4 ∧ G (16 * w + 7) 0 = s 5) ∧
  (∀ h, 0 ≤ h → h < 24 → G (16 * w + 15) h = s (6 + h)) ∧
  (∀ x y, 0 ≤ x → x < s 0 → 0 ≤ y → y < K → G (16 * w + 2) (12 * y + x) = zgc (s (30 + 12 * y + x))) ∧
  (∀ l, 0 ≤ l → l < s 4 → G (16 * w + 4) l = 12 * s (174 + 5 * l + 1) + s (174 + 5 * l + 0) ∧ G (16 * w + 5) l = s (174 + 5 * l + 2) ∧ G (16 * w + 6) l = s (174 + 5 * l + 4)) ∧
  (∀ l, 0 ≤ l → l < 8 → (zhas (G (16 * w + 3) 1) l ↔ l < s 4 ∧ s (174 + 5 * l + 3) = 1)) ∧
  (∀ t, 0 ≤ t → t < s 5 → G (16 * w + 8) t = 12 * s (214 + 7 * t + 1) + s (214 + 7 * t + 0) ∧ G (16 * w + 9) t = s (214 + 7 * t + 2) ∧ G (16 * w + 10) t = s (214 + 7 * t + 6) ∧ G (16 * w + 11) t = s (214 + 7 * t + 3) ∧ G (16 * w + 12) t = s (214 + 7 * t + 4) ∧ G (16 * w + 13) t = s (214 + 7 * t + 5))
theorem RXg_x {G : GM} {w : Nat} {s : Int → Int} : RXg G w s (s 1) ↔ RX G w s := Iff.rfl
theorem RXg_fr {G G' : GM} {w : Nat} {s : Int → Int} {K : Int} (h : RXg G w s K) (e : ∀ k, 16 * w ≤ k → k < 16 * w + 16 → G' k = G k) : RXg G' w s K := by
  unfold RXg
  rw [e (16 * w) (by omega) (by omega), e (16 * w + 1) (by omega) (by omega), e (16 * w + 2) (by omega) (by omega), e (16 * w + 3) (by omega) (by omega), e (16 * w + 4) (by omega) (by omega), e (16 * w + 5) (by omega) (by omega), e (16 * w + 6) (by omega) (by omega), e (16 * w + 7) (by omega) (by omega), e (16 * w + 8) (by omega) (by omega), e (16 * w + 9) (by omega) (by omega), e (16 * w + 10) (by omega) (by omega), e (16 * w + 11) (by omega) (by omega), e (16 * w + 12) (by omega) (by omega), e (16 * w + 13) (by omega) (by omega), e (16 * w + 15) (by omega) (by omega)]
  exact h
/-- only the reader and world w have changed, and the input buffer has not -/
def xRw (w : Nat) (G G' : GM) : Prop := (∀ k, k ≠ 197 → (k < 16 * w ∨ 16 * w + 16 ≤ k) → G' k = G k) ∧ ∀ j, j ≤ 1 → G' 197 j = G 197 j
theorem xRw_r (w : Nat) (G : GM) : xRw w G G := ⟨fun _ _ _ => rfl, fun _ _ => rfl⟩
theorem xRw_t {w : Nat} {G G1 G2 : GM} (h : xRw w G G1) (h2 : xRw w G1 G2) : xRw w G G2 := ⟨fun k a b => (h2.1 k a b).trans (h.1 k a b), fun j a => (h2.2 j a).trans (h.2 j a)⟩
theorem xRw_d {w : Nat} {G G' : GM} (h : xRt G G') : xRw w G G' := ⟨fun k a _ => h.1 k a, h.2⟩
theorem xRw_k {w j : Nat} {G G1 : GM} (hj : 16 * w ≤ j ∧ j < 16 * w + 16) (hw : w < 12) (f : ∀ k, k ≠ j → G1 k = G k) : xRw w G G1 := ⟨fun k _ b => f k (by omega), fun i _ => by rw [f 197 (by omega)]⟩
theorem xBu_rw {w : Nat} {G G' : GM} {T : Int → Int} {m : Int} (hw : w < 12) (h : xBu G T m) (e : xRw w G G') : xBu G' T m := by
  obtain ⟨h1, h2, h3⟩ := h
  refine ⟨(e.2 0 (by omega)).trans h1, h2, ?_⟩
  rw [e.1 198 (by decide) (by omega)]
  exact h3
/-- the text is right so far -/
def xGw (w : Nat) (K : Int) (G0 G : GM) (T : Int → Int) (m p : Int) (D : Int → Int) : Prop := xBu G T m ∧ (0 ≤ p ∧ p ≤ m) ∧ xTo G T m p ∧ xRw w G0 G ∧ mOk D ∧ RXg G w D K
/-- the text is wrong -/
def xBd (w : Nat) (G0 G : GM) (x : zTx) : Prop := x.2.1 = 1 ∧ x.2.2.1 = G 197 2 ∧ xRw w G0 G
/-- a piece of the text is read -/
def xSt (w : Nat) (K : Int) (G0 : GM) (T : Int → Int) (m : Int) (x : zTx) (v : Int) (G : GM) : Prop := (v = 1 ∧ ∃ p D, x = (p, 0, -1, D) ∧ xGw w K G0 G T m p D) ∨ (v = 0 ∧ xBd w G0 G x)
