/-! The program with a text in its buffer; bytes of words; texts stay as cells come. -/
section F3
variable {Y Y0 Y1 Y2 : DY} {r n : Nat} {t : List Int}
theorem wStr_fr (h : Yfr Y0 Y) (hs : wStr Y0 r t) : wStr Y r t := by
  obtain ⟨h1, h2, h3⟩ := hs
  refine ⟨?_, h2, h3⟩
  rcases h1 with h1 | ⟨i, j, a1, a2, a3, a4, a5, a6, a7⟩
  · exact Or.inl h1
  · refine Or.inr ⟨i, j, a1, Nat.lt_of_lt_of_le a2 h.1, Nat.lt_of_lt_of_le a3 h.1, ?_, ?_, ?_, fun k hk => ?_⟩
    · rw [(h.2 i a2).2]
      exact a4
    · rw [(h.2 j a3).2]
      exact a5
    · rw [(h.2 i a2).1]
      exact a6
    · rw [(h.2 j a3).1]
      exact a7 k hk
/-! bytes in words -/
/-- the words hold the first j bytes of c -/
def wBy (c : Int → Int) (j : Int) (D : Int → Int) : Prop := ∀ q r : Int, ∀ i : Nat, 0 ≤ q → q < 5 → 0 ≤ r → r < 4 → i < 8 → bt (zi (D q)) ((8 * (3 - r)).toNat + i) = (decide (4 * q + r < j) && bt (zi (c (4 * q + r))) i)
theorem bt_small {v : Int} (hv : 0 ≤ v ∧ v ≤ 255) {i : Nat} (hi : 8 ≤ i) : bt (zi v) i = false := by
  unfold bt
  show (BitVec.ofInt 32 v).getLsbD i = false
  have e : (BitVec.ofInt 32 v).toNat = v.toNat := by
    rw [BitVec.toNat_ofInt]
    have : v % ((2 ^ 32 : Nat) : Int) = v := Int.emod_eq_of_lt hv.1 (by omega)
    rw [this]
  rw [← BitVec.testBit_toNat, e]
  refine Nat.testBit_lt_two_pow (Nat.lt_of_lt_of_le (show v.toNat < 2 ^ 8 by omega) (Nat.pow_le_pow_right (by decide) hi))
theorem wBy_0 {c : Int → Int} : wBy c 0 (fun _ => 0) := fun q r i q0 q1 r0 r1 hi => by
  rw [decide_eq_false (by omega), Bool.false_and]
  exact b_0 _
theorem wBy_s {c D : Int → Int} {j : Int} (h : wBy c j D) (hj : 0 ≤ j ∧ j < 20) (hc : ∀ k, 0 ≤ k → k < 20 → 0 ≤ c k ∧ c k ≤ 127) : wBy c (j + 1) (zp D (j / 4) (zor (D (j / 4)) (zshl (c j) (24 - 8 * (j % 4))))) := fun q r i q0 q1 r0 r1 hi => by
  by_cases e : q = j / 4
  · subst e
    rw [zp_eq]
    have h1 := h (j / 4) r i q0 q1 r0 r1 hi
    show bt (zi ((zi (D (j / 4)) ||| zi (zshl (c j) (24 - 8 * (j % 4)))).toInt)) _ = _
    rw [zi_of, b_or, h1]
    have hs : zi (zshl (c j) (24 - 8 * (j % 4))) = zi (c j) <<< (nI (24 - 8 * (j % 4)).toNat &&& 31) := by
      show zi ((zi (c j) <<< (zi (24 - 8 * (j % 4)) &&& 31)).toInt) = _
      rw [zi_of, ← zi_nI, Int.toNat_of_nonneg (by omega)]
    rw [hs, b_shl _ (by omega) _ (by omega)]
    have c8 := hc j hj.1 hj.2
    rcases (show r < j % 4 ∨ r = j % 4 ∨ j % 4 < r by omega) with hr | hr | hr
    · rw [bt_small (v := c j) ⟨c8.1, by omega⟩ (by omega), Bool.and_false, Bool.or_false, decide_eq_true (show 4 * (j / 4) + r < j by omega), decide_eq_true (show 4 * (j / 4) + r < j + 1 by omega)]
    · rw [decide_eq_false (show ¬ 4 * (j / 4) + r < j by omega), Bool.false_and, Bool.false_or, decide_eq_true (show (24 - 8 * (j % 4)).toNat ≤ (8 * (3 - r)).toNat + i by omega), decide_eq_true (show 4 * (j / 4) + r < j + 1 by omega), show 4 * (j / 4) + r = j by omega, show (8 * (3 - r)).toNat + i - (24 - 8 * (j % 4)).toNat = i by omega]
    · rw [decide_eq_false (show ¬ 4 * (j / 4) + r < j by omega), decide_eq_false (show ¬ (24 - 8 * (j % 4)).toNat ≤ (8 * (3 - r)).toNat + i by omega), decide_eq_false (show ¬ 4 * (j / 4) + r < j + 1 by omega), Bool.false_and, Bool.false_and]
      rfl
  · rw [zp_ne e, h q r i q0 q1 r0 r1 hi, show decide (4 * q + r < j) = decide (4 * q + r < j + 1) from decide_eq_decide.mpr ⟨fun h => by omega, fun h => by omega⟩]
theorem wBy_end {c D : Int → Int} (h : wBy c 20 D) (hc : ∀ k, 0 ≤ k → k < 20 → 0 ≤ c k ∧ c k ≤ 127) {k : Int} (hk : 0 ≤ k ∧ k < 20) : sByte (D 0) (D 1) (D 2) (D 3) (D 4) k = c k := by
  have hw : sWord (D 0) (D 1) (D 2) (D 3) (D 4) k = D (k / 4) := by
    unfold sWord
    split
    · rw [show k / 4 = 0 by omega]
    · split
      · rw [show k / 4 = 1 by omega]
      · split
        · rw [show k / 4 = 2 by omega]
        · split
          · rw [show k / 4 = 3 by omega]
          · rw [show k / 4 = 4 by omega]
  unfold sByte
  rw [hw]
  have c8 := hc k hk.1 hk.2
  have e1 : zand (zshr (D (k / 4)) (24 - 8 * (k % 4))) 255 = (zi (D (k / 4)) >>> (nI (24 - 8 * (k % 4)).toNat &&& 31) &&& 255).toInt := by
    show (zi ((zi (D (k / 4)) >>> (zi (24 - 8 * (k % 4)) &&& 31)).toInt) &&& zi 255).toInt = _
    rw [zi_of, ← zi_nI, Int.toNat_of_nonneg (by omega), zi_k255]
  have e2 : zi (D (k / 4)) >>> (nI (24 - 8 * (k % 4)).toNat &&& 31) &&& 255 = zi (c k) := b_ext (fun i hi => by
    rw [b_and, b_255, b_sshr _ (by omega) _ hi]
    by_cases h8 : i < 8
    · have h2 := h (k / 4) (k % 4) i (by omega) (by omega) (by omega) (by omega) h8
      rw [show (8 * (3 - k % 4)).toNat + i = (24 - 8 * (k % 4)).toNat + i by omega, show 4 * (k / 4) + k % 4 = k by omega, decide_eq_true (show k < 20 by omega), Bool.true_and] at h2
      rw [if_pos (by omega), h2, decide_eq_true h8, Bool.and_true]
    · rw [decide_eq_false h8, Bool.and_false, bt_small (v := c k) ⟨c8.1, by omega⟩ (by omega)])
  rw [e1, e2]
  exact zi_to ⟨by omega, by omega⟩
end F3
/-! the program's state, a text in its buffer -/
def PGb (T : Int → Int) (m : Int) (B : Int) (sv : Nat → Int → Int) (u : Int) (h : Nat → Int → Int) (s : Int → Int) (G : GM) : Prop :=
  (RX G 0 s ∧ Fit B s) ∧ (XH G u h ∧ ∀ j : Nat, (j : Int) < u → Fit B (h j)) ∧ (∀ w : Nat, 10 ≤ w → w < 12 → G 196 ((w : Int) - 10) ≠ 0 → RX G w (sv w) ∧ Fit B (sv w)) ∧ xBu G T m ∧ -1 ≤ G 192 10 ∧ (0 ≤ G 192 9 ∧ G 192 9 ≤ 156)
section F3P
variable {T : Int → Int} {m B : Int} {sv : Nat → Int → Int} {u : Int} {h : Nat → Int → Int} {s : Int → Int} {G G' : GM}
theorem PGb_0 (p : PG B sv u h s G) : PGb T 0 B sv u h s G := by
  obtain ⟨p1, p3, p5, p6, p7⟩ := p
  exact ⟨p1, p3, p5, ⟨p6, ⟨Int.le_refl _, by decide⟩, fun j j0 j1 => by omega⟩, p7⟩
theorem PGb_fr {T' : Int → Int} {m' : Int} (p : PGb T m B sv u h s G) (e : ∀ k, k ≠ 197 → k ≠ 198 → G' k = G k) (hb : xBu G' T' m') : PGb T' m' B sv u h s G' := by
  obtain ⟨⟨p1, p2⟩, ⟨p3, p4⟩, p5, p6, p7, p8⟩ := p
  refine ⟨⟨RX_fr p1 (fun k a b => e k (by omega) (by omega)), p2⟩, ⟨XH_fr p3 (fun k a b => e k (by omega) (by omega)), p4⟩, fun w a b c => ?_, hb, ?_, ?_⟩
  · rw [e 196 (by omega) (by omega)] at c
    obtain ⟨q1, q2⟩ := p5 w a b c
    exact ⟨RX_fr q1 (fun k a b => e k (by omega) (by omega)), q2⟩
  · rw [e 192 (by omega) (by omega)]
    exact p7
  · rw [e 192 (by omega) (by omega)]
    exact p8
theorem PGb_ld {x : zTx} (p : PGb T m B sv u h s G) (hx : xLd x G G') (h0 : x.2.1 = 0) (hf : Fit B x.2.2.2) : PG B sv 0 h x.2.2.2 G' ∧ G' 192 10 = -1 := by
  obtain ⟨⟨p1, p2⟩, ⟨p3, p4⟩, p5, p6, p7, p8⟩ := p
  obtain ⟨x1, x2, x3, x4, x5⟩ := hx
  rcases x5 with ⟨y1, y2, y3, y4, y5, y6, y7, y8⟩ | ⟨y1, -⟩
  · refine ⟨⟨⟨y4, hf⟩, ⟨⟨y5, ⟨by omega, by omega⟩, by rw [y6]; exact p3.2.2.1, fun j w hj => absurd hj (by omega)⟩, fun j hj => absurd hj (by omega)⟩, fun w a b c => ?_, x3, by rw [x4, y2]; decide, by rw [x2 9 (by decide)]; exact p8⟩, by rw [x4, y2]⟩
    exfalso
    rcases (show w = 10 ∨ w = 11 by omega) with rfl | rfl
    · exact c y7
    · exact c y8
  · omega
end F3P
