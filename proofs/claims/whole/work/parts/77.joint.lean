/-! Program and model together. -/
/-- the rows that M keeps of the past, of what was saved -/
def xHi (S : GM) : Nat → Int → Int := fun j i => S 234 (256 * (S 230 6 - 1 - j) + i)
def xSn (S : GM) (c : Int) : Int → Int := fun i => S 235 (256 * c + i)
/-- the program in G is as the rows of M in S say -/
def JX (G S : GM) : Prop := RX G 0 (S 231) ∧ XH G (S 230 6) (xHi S) ∧ (∀ c, 0 ≤ c → c ≤ 1 → G 196 c = S 236 c ∧ (S 236 c ≠ 0 → ∀ w : Nat, (w : Int) - 10 = c → RX G w (xSn S c))) ∧ xBu G (S 237) (S 230 8) ∧ G 192 10 = S 230 9 ∧ G 192 9 = S 230 22 ∧ ∀ j, 0 ≤ j → j < S 230 22 → G 228 j = S 240 j
/-- the rows of M are as they should be -/
def JM (S : GM) : Prop := (mOk (S 231) ∧ S 231 3 ≤ 9999) ∧ ((0 ≤ S 230 6 ∧ S 230 6 ≤ 8) ∧ ∀ j : Nat, (j : Int) < S 230 6 → mOk (xHi S j) ∧ xHi S j 3 ≤ 9999) ∧ (∀ c, 0 ≤ c → c ≤ 1 → (S 236 c = 0 ∨ S 236 c = 1) ∧ (S 236 c ≠ 0 → mOk (xSn S c) ∧ xSn S c 3 ≤ 9999)) ∧ zBa S ∧ -1 ≤ S 230 9 ∧ (0 ≤ S 230 22 ∧ S 230 22 ≤ 156)
def JI (G : GM) : Prop := JX G G ∧ JM G
section JI
variable {G G1 G2 Gm S S' : GM} {t : Int}
theorem JX_fr (h : JX G S) (e : ∀ k, (k < 16 ∨ 32 ≤ k) → (k < 201 ∨ k = 228) → G1 k = G k) : JX G1 S := by
  obtain ⟨h1, h2, h3, h4, h5, h6, h7⟩ := h
  refine ⟨RX_fr h1 (fun k a b => e k (by omega) (by omega)), XH_fr h2 (fun k a b => e k (by omega) (by omega)), fun c c0 c1 => ?_, ?_, ?_, ?_, ?_⟩
  · rw [e 196 (by omega) (by omega)]
    refine ⟨(h3 c c0 c1).1, fun hk w hw => ?_⟩
    exact RX_fr ((h3 c c0 c1).2 hk w hw) (fun k a b => e k (by omega) (by omega))
  · unfold xBu
    rw [e 197 (by omega) (by omega), e 198 (by omega) (by omega)]
    exact h4
  · rw [e 192 (by omega) (by omega)]
    exact h5
  · rw [e 192 (by omega) (by omega)]
    exact h6
  · rw [e 228 (by omega) (by omega)]
    exact h7
theorem JX_s (h : JX G S) (e : ∀ k, k = 231 ∨ k = 234 ∨ k = 235 ∨ k = 236 ∨ k = 237 ∨ k = 240 → S' k = S k) (e6 : S' 230 6 = S 230 6) (e8 : S' 230 8 = S 230 8) (e9 : S' 230 9 = S 230 9) (e22 : S' 230 22 = S 230 22) : JX G S' := by
  unfold JX xHi xSn at h ⊢
  rw [e 231 (by omega), e 234 (by omega), e 235 (by omega), e 236 (by omega), e 237 (by omega), e 240 (by omega), e6, e8, e9, e22]
  exact h
theorem JM_s (h : JM S) (e : ∀ k, k = 231 ∨ k = 234 ∨ k = 235 ∨ k = 236 ∨ k = 237 ∨ k = 240 → S' k = S k) (e6 : S' 230 6 = S 230 6) (e8 : S' 230 8 = S 230 8) (e9 : S' 230 9 = S 230 9) (e22 : S' 230 22 = S 230 22) : JM S' := by
  unfold JM xHi xSn zBa at h ⊢
  rw [e 231 (by omega), e 234 (by omega), e 235 (by omega), e 236 (by omega), e 237 (by omega), e6, e8, e9, e22]
  exact h
theorem JX_mk (h : JX G S) (m : zMk S S' t) : JX G S' := JX_s h (fun k hk => m.1 k (by omega) (by omega) (by omega) (by omega)) (m.2.1 6 (by decide) (by decide) (by decide)) (m.2.1 8 (by decide) (by decide) (by decide)) (m.2.1 9 (by decide) (by decide) (by decide)) (m.2.1 22 (by decide) (by decide) (by decide))
theorem JM_mk (h : JM S) (m : zMk S S' t) : JM S' := JM_s h (fun k hk => m.1 k (by omega) (by omega) (by omega) (by omega)) (m.2.1 6 (by decide) (by decide) (by decide)) (m.2.1 8 (by decide) (by decide) (by decide)) (m.2.1 9 (by decide) (by decide) (by decide)) (m.2.1 22 (by decide) (by decide) (by decide))
/-- where the program changes nothing that an answer shows, M nothing that it keeps -/
theorem JI_q (h : JI G) (hx : xQf G G1) (m : zMk G1 G2 t) : JI G2 := by
  have e1 : ∀ k, 228 ≤ k → G1 k = G k := fun k hk => hx k (by omega) (by omega)
  refine ⟨?_, ?_⟩
  · have h1 : JX G1 G := JX_fr h.1 (fun k a b => hx k a (by omega))
    have h2 : JX G1 G1 := JX_s h1 (fun k hk => e1 k (by omega)) (by rw [e1 230 (by omega)]) (by rw [e1 230 (by omega)]) (by rw [e1 230 (by omega)]) (by rw [e1 230 (by omega)])
    have h3 := JX_mk h2 m
    exact JX_fr h3 (fun k a b => m.1 k (by omega) (by omega) (by omega) (by omega))
  · have h2 : JM G1 := JM_s h.2 (fun k hk => e1 k (by omega)) (by rw [e1 230 (by omega)]) (by rw [e1 230 (by omega)]) (by rw [e1 230 (by omega)]) (by rw [e1 230 (by omega)])
    exact JM_mk h2 m
theorem XH_eq {u : Int} {h h' : Nat → Int → Int} (hX : XH G u h) (e : ∀ j : Nat, (j : Int) < u → mOk (h j) ∧ zEq (h j) (h' j)) : XH G u h' := by
  obtain ⟨h1, h2, h3, h4⟩ := hX
  exact ⟨h1, h2, h3, fun j w hj hw => RX_eq (e j hj).1 (h4 j w hj hw) (e j hj).2⟩
/-- where both change the world -/
theorem JI_ch {s' : Int → Int} (h : JI G) (hx : xCh G G1 (G 231) s') (m : zMk G1 Gm 0) (hp : zPs Gm G2) (hs : G2 231 = s') (hok : mOk s') (h9 : s' 3 ≤ 9999) : JI G2 := by
  obtain ⟨⟨h1, h2, h3, h4, h5, h6, h7⟩, ⟨⟨o1, o2⟩, ⟨o3, o4⟩, o5, o6, o7, o8⟩⟩ := h
  obtain ⟨x1, x2, x3⟩ := hx
  obtain ⟨p1, p2, p3, p4, p5⟩ := hp
  have e1 : ∀ k, 228 ≤ k → G1 k = G k := fun k hk => x2 k (by omega) (by omega) (by omega)
  have em : ∀ k, k ≠ 230 → k ≠ 233 → k ≠ 238 → k ≠ 239 → Gm k = G1 k := m.1
  have e0 : ∀ k, k < 229 → G2 k = G1 k := fun k hk => (p1 k (by omega) (by omega) (by omega) (by omega) (by omega) (by omega)).trans (em k (by omega) (by omega) (by omega) (by omega))
  have ek : ∀ k, 228 ≤ k → k ≠ 230 → k ≠ 231 → k ≠ 233 → k ≠ 234 → k ≠ 238 → k ≠ 239 → G2 k = G k := fun k hk a b c d e f => ((p1 k a b c d e f).trans (em k a c e f)).trans (e1 k hk)
  have ej : ∀ j, j ≠ 6 → j ≠ 10 → j ≠ 13 → j ≠ 14 → G2 230 j = G 230 j := fun j a b c d => by rw [p2 j a c d, m.2.1 j b c d, e1 230 (by omega)]
  have m6 : Gm 230 6 = G 230 6 := by rw [m.2.1 6 (by decide) (by decide) (by decide), e1 230 (by omega)]
  have m1 : Gm 231 = G 231 := (em 231 (by decide) (by decide) (by decide) (by decide)).trans (e1 231 (by omega))
  have m4 : Gm 234 = G 234 := (em 234 (by decide) (by decide) (by decide) (by decide)).trans (e1 234 (by omega))
  rw [m6] at p3 p5
  rw [m1] at p4
  rw [m4] at p5
  have hu : G2 230 6 = min (G 230 6 + 1) 8 := p3
  have hh : ∀ j : Nat, (j : Int) < G2 230 6 → (mOk (hcons (G 231) (xHi G) j) ∧ hcons (G 231) (xHi G) j 3 ≤ 9999) ∧ zEq (hcons (G 231) (xHi G) j) (xHi G2 j) := by
    intro j hj
    match j with
    | 0 =>
      refine ⟨⟨o1, o2⟩, fun i i0 i1 => ?_⟩
      show G2 234 (256 * (G2 230 6 - 1 - ((0 : Nat) : Int)) + i) = G 231 i
      rw [show G2 230 6 - 1 - ((0 : Nat) : Int) = G2 230 6 - 1 by omega]
      exact p4 i i0 i1
    | j + 1 =>
      refine ⟨o4 j (by omega), fun i i0 i1 => ?_⟩
      show G2 234 (256 * (G2 230 6 - 1 - ((j + 1 : Nat) : Int)) + i) = G 234 (256 * (G 230 6 - 1 - j) + i)
      rw [p5 (G2 230 6 - 1 - ((j + 1 : Nat) : Int)) i (by omega) (by omega) i0 i1, show G2 230 6 - 1 - ((j + 1 : Nat) : Int) + (G 230 6 + 1 - G2 230 6) = G 230 6 - 1 - j by omega]
  have e235 := ek 235 (by decide) (by decide) (by decide) (by decide) (by decide) (by decide) (by decide)
  have e236 := ek 236 (by decide) (by decide) (by decide) (by decide) (by decide) (by decide) (by decide)
  have e237 := ek 237 (by decide) (by decide) (by decide) (by decide) (by decide) (by decide) (by decide)
  have e240 := ek 240 (by decide) (by decide) (by decide) (by decide) (by decide) (by decide) (by decide)
  have f8 := ej 8 (by decide) (by decide) (by decide) (by decide)
  have f9 := ej 9 (by decide) (by decide) (by decide) (by decide)
  have f22 := ej 22 (by decide) (by decide) (by decide) (by decide)
  have g : ∀ k, 160 ≤ k → k ≠ 193 → (k < 201 ∨ k = 228) → G2 k = G k := fun k a b c => (e0 k (by omega)).trans (x2 k a b (by omega))
  refine ⟨⟨?_, ?_, fun c c0 c1 => ?_, ?_, ?_, ?_, ?_⟩, ⟨⟨?_, ?_⟩, ⟨by omega, fun j hj => ?_⟩, fun c c0 c1 => ?_, ?_, ?_, ?_⟩⟩
  · rw [hs]
    exact RX_fr x1 (fun k a b => e0 k (by omega))
  · have q := XH_fr (x3 _ _ h2) (fun k a b => e0 k (by omega)) (G' := G2)
    rw [← hu] at q
    exact XH_eq q (fun j hj => ⟨(hh j hj).1.1, (hh j hj).2⟩)
  · rw [g 196 (by omega) (by omega) (by omega), e236]
    refine ⟨(h3 c c0 c1).1, fun hk w hw => ?_⟩
    have q := (h3 c c0 c1).2 hk w hw
    unfold xSn at q ⊢
    rw [e235]
    exact RX_fr q (fun k a b => g k (by omega) (by omega) (by omega))
  · rw [e237, f8]
    unfold xBu at h4 ⊢
    rw [g 197 (by omega) (by omega) (by omega), g 198 (by omega) (by omega) (by omega)]
    exact h4
  · rw [g 192 (by omega) (by omega) (by omega), f9]
    exact h5
  · rw [g 192 (by omega) (by omega) (by omega), f22]
    exact h6
  · rw [g 228 (by omega) (by omega) (by omega), f22, e240]
    exact h7
  · rw [hs]
    exact hok
  · rw [hs]
    exact h9
  · obtain ⟨⟨q1, q2⟩, q3⟩ := hh j hj
    exact ⟨mOk_eq q3 q1, by rw [q3 3 (by decide) (by decide)]; exact q2⟩
  · have q := o5 c c0 c1
    unfold xSn at q ⊢
    rw [e236, e235]
    exact q
  · unfold zBa at o6 ⊢
    rw [f8, e237]
    exact o6
  · rw [f9]
    exact o7
  · rw [f22]
    exact o8
end JI
