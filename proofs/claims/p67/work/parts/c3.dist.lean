/-! Steps, as the law finds them: it goes over all cells until nothing is less. -/
/-- where the law's steps are 0: the huts, or one cell -/
def gC (s : Int → Int) (cx ry p : Int) : Prop := (cx < 0 ∧ s (30 + p) = 2) ∨ (0 ≤ cx ∧ p % 12 = cx ∧ p / 12 = ry)
/-- what the law's numbers keep -/
def DI (s : Int → Int) (go : Int → Prop) (D : Int → Int) : Prop := (∀ p, 0 ≤ p → p < 144 → 0 ≤ D p ∧ D p ≤ 9999) ∧ (∀ p, zVal (s 0) (s 1) p → (go p ↔ D p = 0)) ∧ ∀ p, zVal (s 0) (s 1) p → 0 < D p → D p < 9999 → ∃ d, 0 ≤ d ∧ d < 4 ∧ zIn (s 0) (s 1) (znx p d) (zny p d) ∧ s (30 + znb p d) ≠ 1 ∧ D (znb p d) + 1 ≤ D p
/-- nothing is less by way d of p -/
def clo (s : Int → Int) (D : Int → Int) (p d : Int) : Prop := zIn (s 0) (s 1) (znx p d) (zny p d) → s (30 + znb p d) ≠ 1 → D p ≤ D (znb p d) + 1
theorem zsum_zp {D : Int → Int} {p v : Int} (hv : v < D p) : ∀ k : Nat, (0 ≤ p ∧ p < k → zsum (zp D p v) k < zsum D k) ∧ (¬ (0 ≤ p ∧ p < k) → zsum (zp D p v) k = zsum D k) := by
  intro k
  induction k with
  | zero => exact ⟨fun h => absurd h (by omega), fun _ => rfl⟩
  | succ k ih =>
    unfold zsum
    refine ⟨fun h => ?_, fun h => ?_⟩
    · by_cases hk : p = (k : Int)
      · have h1 := ih.2 (by omega)
        rw [h1, ← hk, zp_eq]
        omega
      · have h1 := ih.1 (by omega)
        rw [zp_ne (fun h => hk h.symm)]
        omega
    · have h1 := ih.2 (by omega)
      rw [h1, zp_ne (by omega)]
section DD
variable {s D st : Int → Int} {go : Int → Prop} {p d : Int}
theorem zVal_lt (hok : mOk s) (hp : zVal (s 0) (s 1) p) : 0 ≤ p ∧ p < 144 := by
  obtain ⟨a0, a1, -⟩ := hok
  obtain ⟨h1, h2, h3⟩ := hp
  omega
theorem znb_ne (hp : zVal (s 0) (s 1) p) (hok : mOk s) (hd : 0 ≤ d ∧ d < 4) (h : zIn (s 0) (s 1) (znx p d) (zny p d)) : znb p d ≠ p := by
  obtain ⟨a0, a1, -⟩ := hok
  obtain ⟨v1, v2, v3, v4⟩ := znb_val (by omega) (by omega) h
  intro e
  rw [e] at v3 v4
  unfold znx at v3
  unfold zny at v4
  rcases (show d = 0 ∨ d = 1 ∨ d = 2 ∨ d = 3 by omega) with rfl | rfl | rfl | rfl
  · have : zsy 0 = -1 := rfl
    omega
  · have : zsx 1 = 1 := rfl
    omega
  · have : zsy 2 = 1 := rfl
    omega
  · have : zsx 3 = -1 := rfl
    omega
theorem DI_upd (hok : mOk s) (h : DI s go D) (hp : zVal (s 0) (s 1) p) (hd : 0 ≤ d ∧ d < 4) (hn : zIn (s 0) (s 1) (znx p d) (zny p d)) (hw : s (30 + znb p d) ≠ 1) (hl : D (znb p d) + 1 < D p) : DI s go (zp D p (D (znb p d) + 1)) ∧ zsum (zp D p (D (znb p d) + 1)) 144 < zsum D 144 := by
  obtain ⟨h1, h2, h3⟩ := h
  have hok2 := hok
  obtain ⟨a0, a1, -⟩ := hok
  have hpl := zVal_lt hok2 hp
  obtain ⟨v1, v2, -, -⟩ := znb_val (by omega) (by omega) hn
  have hnb := h1 (znb p d) v1.1 (by omega)
  have hpp := h1 p hpl.1 hpl.2
  have hne := znb_ne hp hok2 hd hn
  refine ⟨⟨fun q q0 q1 => ?_, fun q hq => ?_, fun q hq q0 q1 => ?_⟩, (zsum_zp hl 144).1 ⟨hpl.1, by omega⟩⟩
  · by_cases e : q = p
    · rw [e, zp_eq]
      omega
    · rw [zp_ne e]
      exact h1 q q0 q1
  · by_cases e : q = p
    · rw [e, zp_eq, h2 p hp]
      omega
    · rw [zp_ne e]
      exact h2 q hq
  · by_cases e : q = p
    · subst e
      refine ⟨d, hd.1, hd.2, hn, hw, ?_⟩
      rw [zp_ne hne, zp_eq]
      exact Int.le_refl _
    · rw [zp_ne e] at q0 q1 ⊢
      obtain ⟨d2, b1, b2, b3, b4, b5⟩ := h3 q hq q0 q1
      refine ⟨d2, b1, b2, b3, b4, ?_⟩
      by_cases e2 : znb q d2 = p
      · rw [e2, zp_eq]
        rw [e2] at b5
        omega
      · rw [zp_ne e2]
        exact b5
/-- what the law's numbers are in the end -/
theorem D_up (hok : mOk s) (h : DI s go D) (hz : zDist (s 0) (s 1) (mWt s) go False st) (hc : ∀ p, zVal (s 0) (s 1) p → ∀ d, 0 ≤ d → d < 4 → clo s D p d) : ∀ (n : Nat) (p : Int), zVal (s 0) (s 1) p → st p = (n : Int) → D p ≤ n := by
  intro n
  induction n with
  | zero =>
    intro p hp e
    have := (h.2.1 p hp).mp ((hz.2.1 p hp).mpr e)
    omega
  | succ n ih =>
    intro p hp e
    obtain ⟨-, d, d0, d1, hn, hw, e2⟩ := hz.2.2.1 p hp (by omega)
    have hok2 := hok
    obtain ⟨a0, a1, -⟩ := hok
    obtain ⟨v1, -⟩ := znb_val (by omega) (by omega) hn
    have h1 := ih (znb p d) v1 (by omega)
    have h2 := hc p hp d d0 d1 hn hw
    omega
theorem D_lo (hok : mOk s) (h : DI s go D) (hz : zDist (s 0) (s 1) (mWt s) go False st) : ∀ (n : Nat) (p : Int), zVal (s 0) (s 1) p → ¬ mWt s p → D p ≤ (n : Int) → D p < 9999 → 0 ≤ st p ∧ st p ≤ D p := by
  intro n
  induction n with
  | zero =>
    intro p hp hw e e9
    have h1 := h.1 p (zVal_lt hok hp).1 (zVal_lt hok hp).2
    have := (hz.2.1 p hp).mp ((h.2.1 p hp).mpr (by omega))
    omega
  | succ n ih =>
    intro p hp hw e e9
    have h1 := h.1 p (zVal_lt hok hp).1 (zVal_lt hok hp).2
    by_cases h0 : D p = 0
    · have := (hz.2.1 p hp).mp ((h.2.1 p hp).mpr h0)
      omega
    · obtain ⟨d, d0, d1, hn, hw2, e2⟩ := h.2.2 p hp (by omega) e9
      have hok2 := hok
      obtain ⟨a0, a1, -⟩ := hok
      obtain ⟨v1, -⟩ := znb_val (by omega) (by omega) hn
      obtain ⟨b1, b2⟩ := ih (znb p d) v1 hw2 (by omega) (by omega)
      obtain ⟨o1, o2, o3, o4, o5⟩ := znb_op hp (by omega) (by omega) ⟨d0, d1⟩ hn
      have h4 := hz.2.2.2 (znb p d) v1 b1 hw2 (zop d) o1 o2
      unfold zCl at h4
      rw [o3, o4, o5] at h4
      have h5 := h4 ⟨⟨by omega, by have := hp.2.1; omega⟩, by have := hp.1; omega, by have := hp.2.2; omega⟩ (fun hx => absurd hx hw)
      omega
theorem D_eq (hok : mOk s) (h : DI s go D) (hz : zDist (s 0) (s 1) (mWt s) go False st) (hc : ∀ p, zVal (s 0) (s 1) p → ∀ d, 0 ≤ d → d < 4 → clo s D p d) (hp : zVal (s 0) (s 1) p) (hw : ¬ mWt s p) : (0 ≤ st p → D p = st p ∧ D p ≤ 144) ∧ (st p < 0 → D p = 9999) := by
  have h1 := h.1 p (zVal_lt hok hp).1 (zVal_lt hok hp).2
  have h2 := hz.1 p hp
  refine ⟨fun h0 => ?_, fun h0 => ?_⟩
  · have h3 := D_up hok h hz hc (st p).toNat p hp (by omega)
    have h4 := D_lo hok h hz (D p).toNat p hp hw (by omega) (by omega)
    omega
  · by_cases h9 : D p < 9999
    · have h4 := D_lo hok h hz (D p).toNat p hp hw (by omega) h9
      omega
    · omega
theorem D_steps {x y : Int} (hok : mOk s) (h : DI s go D) (hz : zDist (s 0) (s 1) (mWt s) go False st) (hc : ∀ p, zVal (s 0) (s 1) p → ∀ d, 0 ≤ d → d < 4 → clo s D p d) (hx : 0 ≤ x ∧ x < s 0) (hy : 0 ≤ y ∧ y < s 1) : (D (12 * y + x) > 999 ∧ sSteps s st x y < 0) ∨ (D (12 * y + x) ≤ 145 ∧ sSteps s st x y = D (12 * y + x)) := by
  have hok2 := hok
  obtain ⟨a0, a1, -⟩ := hok
  have hp : zVal (s 0) (s 1) (12 * y + x) := ⟨by omega, by omega, by omega⟩
  have ex : (12 * y + x) % 12 = x := by omega
  have ey : (12 * y + x) / 12 = y := by omega
  have h1 := h.1 _ (zVal_lt hok2 hp).1 (zVal_lt hok2 hp).2
  have eg : s (30 + 12 * y + x) = s (30 + (12 * y + x)) := by
    congr 1
    omega
  by_cases hw : mWt s (12 * y + x)
  · by_cases hg : go (12 * y + x)
    · right
      have e1 := (hz.2.1 _ hp).mp hg
      have e2 := (h.2.1 _ hp).mp hg
      unfold sSteps
      rw [if_pos (by omega), e1, e2]
      exact ⟨by omega, rfl⟩
    · have e1 : st (12 * y + x) < 0 := by
        have h2 := hz.1 _ hp
        by_cases e0 : st (12 * y + x) = 0
        · exact absurd ((hz.2.1 _ hp).mpr e0) hg
        · by_cases e9 : 0 < st (12 * y + x)
          · exact absurd ((hz.2.2.1 _ hp e9).1 hw) (fun h => h)
          · omega
      have hs : sSteps s st x y = sLeast s st x y 4 := by
        unfold sSteps
        rw [if_neg (by omega), if_pos (by rw [eg]; exact hw)]
      rw [hs]
      have sb : ∀ d, 0 ≤ d → d < 4 → 0 ≤ sStepBy s st x y d → ∃ v, zVal (s 0) (s 1) (znb (12 * y + x) d) ∧ ¬ mWt s (znb (12 * y + x) d) ∧ zIn (s 0) (s 1) (znx (12 * y + x) d) (zny (12 * y + x) d) ∧ v = sStepBy s st x y d ∧ st (znb (12 * y + x) d) = v := by
        intro d d0 d1 h9
        unfold sStepBy at h9 ⊢
        by_cases hc9 : sIn s (x + zsx d) (y + zsy d) ∧ s (30 + 12 * (y + zsy d) + (x + zsx d)) ≠ 1
        · rw [if_pos hc9] at h9 ⊢
          have hn : zIn (s 0) (s 1) (znx (12 * y + x) d) (zny (12 * y + x) d) := by
            unfold znx zny
            rw [ex, ey]
            exact hc9.1
          have enb : znb (12 * y + x) d = 12 * (y + zsy d) + (x + zsx d) := by
            unfold znb znx zny
            rw [ex, ey]
          refine ⟨_, (znb_val (by omega) (by omega) hn).1, ?_, hn, rfl, by rw [enb]⟩
          rw [enb]
          intro h8
          apply hc9.2
          have : s (30 + (12 * (y + zsy d) + (x + zsx d))) = 1 := h8
          rw [← this]
          congr 1
          omega
        · rw [if_neg hc9] at h9
          omega
      have sb2 : ∀ d, 0 ≤ d → d < 4 → zIn (s 0) (s 1) (znx (12 * y + x) d) (zny (12 * y + x) d) → ¬ mWt s (znb (12 * y + x) d) → sStepBy s st x y d = st (znb (12 * y + x) d) := by
        intro d d0 d1 hn hw9
        have enb : znb (12 * y + x) d = 12 * (y + zsy d) + (x + zsx d) := by
          unfold znb znx zny
          rw [ex, ey]
        unfold znx zny at hn
        rw [ex, ey] at hn
        unfold sStepBy
        rw [if_pos ⟨hn, fun h8 => hw9 (by
          show s (30 + znb (12 * y + x) d) = 1
          rw [enb, ← h8]
          congr 1
          omega)⟩, enb]
      by_cases h9 : D (12 * y + x) < 9999
      · right
        have hD0 : D (12 * y + x) ≠ 0 := fun e => hg ((h.2.1 _ hp).mpr e)
        obtain ⟨d, d0, d1, hn, hw2, e2⟩ := h.2.2 _ hp (by omega) h9
        have v1 := (znb_val (by omega) (by omega) hn).1
        have hcl := hc _ hp d d0 d1 hn hw2
        have hD1 := h.1 _ (zVal_lt hok2 v1).1 (zVal_lt hok2 v1).2
        have hq := D_eq hok2 h hz hc v1 hw2
        have hst : 0 ≤ st (znb (12 * y + x) d) := by
          by_cases e : 0 ≤ st (znb (12 * y + x) d)
          · exact e
          · have := hq.2 (by omega)
            omega
        have hq1 := hq.1 hst
        have hq2 := hz.1 _ v1
        have key : sLeast s st x y 4 = D (12 * y + x) := by
          refine sLeast_is (by omega) 4 (fun d2 b0 b1 b2 => ?_) ⟨d, d0, d1, ?_, ?_⟩
          · obtain ⟨v, w1, w2, w3, w4, w5⟩ := sb d2 b0 b1 b2
            have c1 := hc _ hp d2 b0 b1 w3 w2
            have c2 := (D_eq hok2 h hz hc w1 w2).1 (by omega)
            omega
          · rw [sb2 d d0 d1 hn hw2]
            exact hst
          · rw [sb2 d d0 d1 hn hw2]
            omega
        rw [key]
        exact ⟨by omega, rfl⟩
      · left
        refine ⟨by omega, ?_⟩
        rw [sLeast_no 4 (fun d d0 d1 => ?_)]
        · decide
        · by_cases h8 : 0 ≤ sStepBy s st x y d
          · obtain ⟨v, w1, w2, w3, w4, w5⟩ := sb d d0 d1 h8
            have c1 := hc _ hp d d0 d1 w3 w2
            have c2 := (D_eq hok2 h hz hc w1 w2).1 (by omega)
            omega
          · omega
  · have hq := D_eq hok2 h hz hc hp hw
    have h2 := hz.1 _ hp
    unfold sSteps
    by_cases h0 : 0 ≤ st (12 * y + x)
    · right
      rw [if_pos h0]
      have := hq.1 h0
      omega
    · left
      rw [if_neg h0, if_neg (by rw [eg]; exact hw), hq.2 (by omega)]
      exact ⟨by decide, by decide⟩
end DD
