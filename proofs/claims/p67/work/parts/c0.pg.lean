/-! The program as the law sees it: what holds of it all along, and that its calls keep it. -/
/-- what holds of every row: beside mOk, what the law asks of travellers and lights -/
def tInv (s : Int → Int) : Prop := (∀ w, 0 ≤ w → w < s 5 → (s (214 + 7 * w + 2) ≠ 0 → s (214 + 7 * w + 3) < 0) ∧ (s (214 + 7 * w + 2) = 1 → s (30 + 12 * s (214 + 7 * w + 1) + s (214 + 7 * w + 0)) = 2) ∧ (s (214 + 7 * w + 2) = 2 → ∃ l, 0 ≤ l ∧ l < s 4 ∧ sOn s w l ∧ s (174 + 5 * l + 3) = 0)) ∧ ∀ l, 0 ≤ l → l < s 4 → s (174 + 5 * l + 4) ≠ l
def Fit (B : Int) (s : Int → Int) : Prop := mOk s ∧ s 3 ≤ B ∧ tInv s
theorem Fit.up {B B' : Int} {s : Int → Int} (h : Fit B s) (hb : B ≤ B') : Fit B' s := ⟨h.1, Int.le_trans h.2.1 hb, h.2.2⟩
/-- the program in G is at the row s, before it was at the first u of h; what was saved is in sv; times up to B; the buffer is empty -/
def PG (B : Int) (sv : Nat → Int → Int) (u : Int) (h : Nat → Int → Int) (s : Int → Int) (G : GM) : Prop :=
  (RX G 0 s ∧ Fit B s) ∧ (XH G u h ∧ ∀ j : Nat, (j : Int) < u → Fit B (h j)) ∧ (∀ w : Nat, 10 ≤ w → w < 12 → G 196 ((w : Int) - 10) ≠ 0 → RX G w (sv w) ∧ Fit B (sv w)) ∧ G 197 0 = 0 ∧ -1 ≤ G 192 10 ∧ (0 ≤ G 192 9 ∧ G 192 9 ≤ 156)
section PG
variable {B B' : Int} {sv : Nat → Int → Int} {u : Int} {h : Nat → Int → Int} {s s' : Int → Int} {G G' : GM}
theorem PG.hR (p : PG B sv u h s G) : RX G 0 s := p.1.1
theorem PG.ok (p : PG B sv u h s G) : mOk s := p.1.2.1
theorem PG.u8 (p : PG B sv u h s G) : 0 ≤ u ∧ u ≤ 8 := p.2.1.1.2.1
theorem PG.h0 (p : PG B sv u h s G) : 0 ≤ G 193 0 ∧ G 193 0 ≤ 8 := by
  obtain ⟨h1, h2, h3, -⟩ := p.2.1.1
  rw [h1]
  exact h2
theorem PG.h1 (p : PG B sv u h s G) : 0 ≤ G 193 1 ∧ G 193 1 ≤ 7 := p.2.1.1.2.2.1
theorem PG_fr (p : PG B sv u h s G) (e : ∀ k, (k < 16 ∨ 32 ≤ k) → k < 201 → G' k = G k) : PG B sv u h s G' := by
  obtain ⟨⟨p1, p2⟩, ⟨p3, p4⟩, p5, p6, p7, p8⟩ := p
  refine ⟨⟨RX_fr p1 (fun k a b => e k (by omega) (by omega)), p2⟩, ⟨XH_fr p3 (fun k a b => e k (by omega) (by omega)), p4⟩, fun w a b c => ?_, ?_, ?_, ?_⟩
  · rw [e 196 (by omega) (by omega)] at c
    obtain ⟨q1, q2⟩ := p5 w a b c
    exact ⟨RX_fr q1 (fun k a b => e k (by omega) (by omega)), q2⟩
  · rw [e 197 (by omega) (by omega)]
    exact p6
  · rw [e 192 (by omega) (by omega)]
    exact p7
  · rw [e 192 (by omega) (by omega)]
    exact p8
theorem PG_q (p : PG B sv u h s G) (hx : xQf G G') : PG B sv u h s G' := PG_fr p (fun k a b => hx k a (by omega))
theorem PG_up (p : PG B sv u h s G) (hb : B ≤ B') : PG B' sv u h s G := by
  obtain ⟨⟨p1, p2⟩, ⟨p3, p4⟩, p5, p6⟩ := p
  exact ⟨⟨p1, p2.up hb⟩, ⟨p3, fun j hj => (p4 j hj).up hb⟩, fun w a b c => ⟨(p5 w a b c).1, (p5 w a b c).2.up hb⟩, p6⟩
theorem PG_ch (p : PG B sv u h s G) (hx : xCh G G' s s') (hf : Fit B s') : PG B sv (min (u + 1) 8) (hcons s h) s' G' := by
  obtain ⟨⟨p1, p2⟩, ⟨p3, p4⟩, p5, p6, p7, p8⟩ := p
  obtain ⟨x1, x2, x3⟩ := hx
  refine ⟨⟨x1, hf⟩, ⟨x3 u h p3, fun j hj => ?_⟩, fun w a b c => ?_, ?_, ?_, ?_⟩
  · match j with
    | 0 => exact p2
    | j + 1 => exact p4 j (by omega)
  · rw [x2 196 (by omega) (by omega) (by omega)] at c
    obtain ⟨q1, q2⟩ := p5 w a b c
    exact ⟨RX_fr q1 (fun k a b => x2 k (by omega) (by omega) (by omega)), q2⟩
  · rw [x2 197 (by omega) (by omega) (by omega)]
    exact p6
  · rw [x2 192 (by omega) (by omega) (by omega)]
    exact p7
  · rw [x2 192 (by omega) (by omega) (by omega)]
    exact p8
theorem PG_un (p : PG B sv u h s G) (hu : 0 < u) (hx : xUn G G' h) : PG B sv (u - 1) (fun j => h (j + 1)) (h 0) G' := by
  obtain ⟨⟨p1, p2⟩, ⟨p3, p4⟩, p5, p6, p7, p8⟩ := p
  obtain ⟨x1, x2, x3⟩ := hx
  have e0 : G 193 0 = u := p3.1
  rw [e0] at x3
  refine ⟨⟨x1, p4 0 (by omega)⟩, ⟨x3, fun j hj => p4 (j + 1) (by omega)⟩, fun w a b c => ?_, ?_, ?_, ?_⟩
  · rw [x2 196 (by omega) (by omega)] at c
    obtain ⟨q1, q2⟩ := p5 w a b c
    exact ⟨RX_fr q1 (fun k a b => x2 k (by omega) (by omega)), q2⟩
  · rw [x2 197 (by omega) (by omega)]
    exact p6
  · rw [x2 192 (by omega) (by omega)]
    exact p7
  · rw [x2 192 (by omega) (by omega)]
    exact p8
theorem PG_sv {c : Int} (p : PG B sv u h s G) (hc : 0 ≤ c ∧ c ≤ 1) (hx : xSv c s G G') : PG B (fun w => if (w : Int) - 10 = c then s else sv w) u h s G' := by
  obtain ⟨⟨p1, p2⟩, ⟨p3, p4⟩, p5, p6, p7, p8⟩ := p
  obtain ⟨x1, x2, x3⟩ := hx
  have XHf : XH G' u h := by
    obtain ⟨h1, h2, h3, h4⟩ := p3
    unfold XH
    rw [x1 193 (by omega) (by omega)]
    exact ⟨h1, h2, h3, fun j w hj hw => RX_fr (h4 j w hj hw) (fun k a b => x1 k (by omega) (by omega))⟩
  refine ⟨⟨RX_fr p1 (fun k a b => x1 k (by omega) (by omega)), p2⟩, ⟨XHf, p4⟩, fun w a b c9 => ?_, ?_, ?_, ?_⟩
  · obtain ⟨y1, y2⟩ := x3 w a b
    dsimp only
    by_cases hw : (w : Int) - 10 = c
    · rw [if_pos hw]
      exact ⟨y1 hw, p2⟩
    · rw [if_neg hw]
      rw [x2, zp_ne hw] at c9
      obtain ⟨q1, q2⟩ := p5 w a b c9
      exact ⟨RX_fr q1 (y2 hw), q2⟩
  · rw [x1 197 (by omega) (by omega)]
    exact p6
  · rw [x1 192 (by omega) (by omega)]
    exact p7
  · rw [x1 192 (by omega) (by omega)]
    exact p8
theorem PG_ld {x : zTx} (p : PG B sv u h s G) (hx : xLd x G G') (h0 : x.2.1 = 0) (hf : Fit B x.2.2.2) : PG B sv 0 h x.2.2.2 G' := by
  obtain ⟨⟨p1, p2⟩, ⟨p3, p4⟩, p5, p6, p7, p8⟩ := p
  obtain ⟨x1, x2, x3, x4, x5⟩ := hx
  rcases x5 with ⟨y1, y2, y3, y4, y5, y6, y7, y8⟩ | ⟨y1, -⟩
  · refine ⟨⟨y4, hf⟩, ⟨⟨y5, ⟨by omega, by omega⟩, by rw [y6]; exact p3.2.2.1, fun j w hj => absurd hj (by omega)⟩, fun j hj => absurd hj (by omega)⟩, fun w a b c => ?_, x3, by rw [x4, y2]; decide, by rw [x2 9 (by decide)]; exact p8⟩
    exfalso
    rcases (show w = 10 ∨ w = 11 by omega) with rfl | rfl
    · exact c y7
    · exact c y8
  · omega
end PG
