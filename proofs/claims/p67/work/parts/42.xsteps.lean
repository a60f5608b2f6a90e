/-! The program's steps and the model's: one thing (by hand). -/
section XS
variable {W H : Int} {wt wt' go : Int → Prop} {mk mk' : Prop} {s st st' : Int → Int}
theorem zDist_congr (hW : W ≤ 12) (hH : H ≤ 12) (e : ∀ p, zVal W H p → (wt p ↔ wt' p)) (h : zDist W H wt go mk st) : zDist W H wt' go mk st := by
  obtain ⟨h1, h2, h3, h4⟩ := h
  refine ⟨h1, h2, fun p pv ps => ?_, fun p pv p0 pw d d0 d1 hin hm => ?_⟩
  · obtain ⟨q1, d, d0, d1, hin, q2, q3⟩ := h3 p pv ps
    exact ⟨fun q => q1 ((e p pv).mpr q), d, d0, d1, hin, fun q => q2 ((e _ (znb_val hW hH hin).1).mpr q), q3⟩
  · exact h4 p pv p0 (fun q => pw ((e p pv).mp q)) d d0 d1 hin (fun q => hm ((e _ (znb_val hW hH hin).1).mp q))
theorem sLeast_no {x y : Int} : ∀ k : Nat, (∀ d : Int, 0 ≤ d → d < k → sStepBy s st x y d < 0) → sLeast s st x y k = -1 := by
  intro k
  induction k with
  | zero => intro _; rfl
  | succ k ih =>
    intro h
    have h1 := h (k : Int) (by omega) (by omega)
    unfold sLeast
    rw [if_neg (by omega)]
    exact ih (fun d d0 d1 => h d d0 (by omega))
theorem sLeast_is {x y v : Int} (v0 : 0 ≤ v) : ∀ k : Nat, (∀ d : Int, 0 ≤ d → d < k → 0 ≤ sStepBy s st x y d → v ≤ sStepBy s st x y d + 1) → (∃ d : Int, 0 ≤ d ∧ d < k ∧ 0 ≤ sStepBy s st x y d ∧ sStepBy s st x y d + 1 = v) → sLeast s st x y k = v := by
  intro k
  induction k with
  | zero =>
    rintro _ ⟨d, d0, d1, -⟩
    exact absurd d1 (by omega)
  | succ k ih =>
    rintro h ⟨d, d0, d1, d2, d3⟩
    have hk := h (k : Int) (by omega) (by omega)
    by_cases e : ∃ d : Int, 0 ≤ d ∧ d < k ∧ 0 ≤ sStepBy s st x y d ∧ sStepBy s st x y d + 1 = v
    · have h2 := ih (fun d d0 d1 => h d d0 (by omega)) e
      unfold sLeast
      rw [h2]
      by_cases q : 0 ≤ sStepBy s st x y k
      · have := hk q
        rw [if_neg (by omega)]
      · rw [if_neg (by omega)]
    · have ed : d = (k : Int) := by
        by_cases q : d < k
        · exact absurd ⟨d, d0, q, d2, d3⟩ e
        · omega
      rw [ed] at d2 d3
      unfold sLeast
      have hr : sLeast s st x y k < 0 ∨ v < sLeast s st x y k := by
        clear ih
        have gen : ∀ j : Nat, j ≤ k → sLeast s st x y j < 0 ∨ v < sLeast s st x y j := by
          intro j
          induction j with
          | zero => intro _; exact Or.inl (by show (-1 : Int) < 0; decide)
          | succ j ih =>
            intro hj
            have i1 := ih (by omega)
            have hj2 := h (j : Int) (by omega) (by omega)
            unfold sLeast
            split
            · rename_i q
              have q1 := hj2 q.1
              by_cases q2 : sStepBy s st x y j + 1 = v
              · exact absurd ⟨(j : Int), by omega, by omega, q.1, q2⟩ e
              · right
                omega
            · exact i1
        exact gen k (by omega)
      rw [if_pos ⟨d2, by omega⟩]
      exact d3
theorem xfst_ge {p : Int → Prop} [DecidablePred p] {k : Nat} (hk : p (k : Int)) : ∀ n : Nat, k < n → ¬ zfst p n < 0 := by
  intro n
  induction n with
  | zero => intro h; exact absurd h (by omega)
  | succ n ih =>
    intro h q
    by_cases e : k < n
    · have h1 := ih e
      unfold zfst at q
      split at q
      · exact h1 q
      · split at q <;> omega
    · have e2 : k = n := by omega
      subst e2
      unfold zfst at q
      split at q
      · omega
      · first
        | omega
        | (split at q <;> omega)
/-- the steps of the program are those of the model -/
theorem xSteps (hb : (0 ≤ s 0 ∧ s 0 ≤ 12) ∧ 0 ≤ s 1 ∧ s 1 ≤ 12) (hX : zDist (s 0) (s 1) (mWt s) go True st) (hM : zDist (s 0) (s 1) (mWt s) go False st') {p : Int} (pv : zVal (s 0) (s 1) p) : sSteps s st' (p % 12) (p / 12) = st p := by
  obtain ⟨p0, p1⟩ := zVal_144 (by omega) (by omega) pv
  have ep : 12 * (p / 12) + p % 12 = p := by omega
  have eg : s (30 + 12 * (p / 12) + p % 12) = s (30 + p) := by rw [Int.add_assoc, ep]
  have bX := hX.1 p pv
  have bM := hM.1 p pv
  unfold sSteps
  rw [ep, eg]
  by_cases hw : mWt s p
  · have hwe : s (30 + p) = 1 := hw
    have m0 : ¬ 0 < st' p := fun q => (hM.2.2.1 p pv q).1 hw
    by_cases hg : go p
    · have e1 := (hX.2.1 p pv).mp hg
      have e2 := (hM.2.1 p pv).mp hg
      rw [if_pos (by omega)]
      omega
    · have e1 : st p ≠ 0 := fun q => hg ((hX.2.1 p pv).mpr q)
      have e2 : st' p ≠ 0 := fun q => hg ((hM.2.1 p pv).mpr q)
      rw [if_neg (by omega), if_pos hwe]
      have hs : ∀ d, sStepBy s st' (p % 12) (p / 12) d = sStepBy s st (p % 12) (p / 12) d := fun d => sStepBy_eq hb hM hX _ _ d
      have hval : ∀ d, zIn (s 0) (s 1) (znx p d) (zny p d) → ¬ mWt s (znb p d) → sStepBy s st (p % 12) (p / 12) d = st (znb p d) := fun d hin hn => by
        unfold sStepBy
        rw [znb_i]
        rw [if_pos ⟨hin, hn⟩]
        rfl
      have hinv : ∀ d, 0 ≤ sStepBy s st (p % 12) (p / 12) d → zIn (s 0) (s 1) (znx p d) (zny p d) ∧ ¬ mWt s (znb p d) := fun d q => by
        by_cases c : sIn s (p % 12 + zsx d) (p / 12 + zsy d) ∧ s (30 + 12 * (p / 12 + zsy d) + (p % 12 + zsx d)) ≠ 1
        · refine ⟨c.1, fun hh => c.2 ?_⟩
          rw [znb_i]
          exact hh
        · unfold sStepBy at q
          rw [if_neg c] at q
          exact absurd q (by decide)
      have hlow : ∀ d : Int, 0 ≤ d → d < 4 → 0 ≤ sStepBy s st (p % 12) (p / 12) d → 0 ≤ st p ∧ st p ≤ sStepBy s st (p % 12) (p / 12) d + 1 := fun d d0 d1 q => by
        obtain ⟨hin, hn⟩ := hinv d q
        rw [hval d hin hn] at q ⊢
        obtain ⟨nv, -⟩ := znb_val (p := p) (d := d) (by omega) (by omega) hin
        obtain ⟨o1, o2, o3, o4, o5⟩ := znb_op (p := p) (d := d) pv (by omega) (by omega) ⟨d0, d1⟩ hin
        have hc := hX.2.2.2 (znb p d) nv q hn (zop d) o1 o2
        have hin2 : zIn (s 0) (s 1) (znx (znb p d) (zop d)) (zny (znb p d) (zop d)) := by
          rw [o3, o4]
          obtain ⟨v1, v2, v3⟩ := pv
          exact ⟨⟨by omega, by omega⟩, by omega, by omega⟩
        have hcc := hc hin2 (fun _ => trivial)
        rw [o5] at hcc
        exact hcc
      by_cases hpos : 0 < st p
      · refine sLeast_is (by omega) 4 (fun d d0 d1 q => ?_) ?_
        · rw [hs] at q ⊢
          exact (hlow d d0 d1 q).2
        · obtain ⟨-, d, d0, d1, hin, hn, e⟩ := hX.2.2.1 p pv hpos
          refine ⟨d, d0, d1, ?_⟩
          rw [hs, hval d hin hn]
          omega
      · have em : st p = -1 := by omega
        rw [em]
        refine sLeast_no 4 (fun d d0 d1 => ?_)
        rw [hs]
        by_cases q : 0 ≤ sStepBy s st (p % 12) (p / 12) d
        · have := (hlow d d0 d1 q).1
          omega
        · omega
  · have e := zDist_eq (by omega) (by omega) hX hM pv hw
    have hwe : ¬ s (30 + p) = 1 := hw
    by_cases q : 0 ≤ st' p
    · rw [if_pos q]
      exact e.symm
    · rw [if_neg q, if_neg hwe]
      omega
/-- the next cell of the program is the model's -/
theorem xNext (hb : (0 ≤ s 0 ∧ s 0 ≤ 12) ∧ 0 ≤ s 1 ∧ s 1 ≤ 12) (hX : zDist (s 0) (s 1) (mWt s) go True st) (hM : zDist (s 0) (s 1) (mWt s) go False st') {p : Int} {T : Int → Int} (hT : ∀ q, zVal (s 0) (s 1) q → (xWt T q ↔ mWt s q)) (pv : zVal (s 0) (s 1) p) (h1 : 1 ≤ st p) : xNx (s 0) (s 1) T st p = znb p (zfst (fun d => sStepBy s st' (p % 12) (p / 12) d = st p - 1) 4) := by
  have ec : zfst (xGo (s 0) (s 1) T st p) 4 = zfst (fun d => sStepBy s st' (p % 12) (p / 12) d = st p - 1) 4 := by
    refine zfst_congr _ (fun d d0 d1 => ?_)
    rw [sStepBy_eq hb hM hX]
    unfold sStepBy
    rw [znb_i]
    constructor
    · rintro ⟨hin, hn, e⟩
      rw [if_pos ⟨hin, fun q => hn ((hT _ (znb_val (by omega) (by omega) hin).1).mpr q)⟩]
      exact e
    · intro q
      by_cases c : sIn s (p % 12 + zsx d) (p / 12 + zsy d) ∧ s (30 + znb p d) ≠ 1
      · rw [if_pos c] at q
        exact ⟨c.1, fun hh => c.2 ((hT _ (znb_val (by omega) (by omega) c.1).1).mp hh), q⟩
      · rw [if_neg c] at q
        omega
  obtain ⟨-, d, d0, d1, hin, hn, e⟩ := hX.2.2.1 p pv (by omega)
  have hpos : ¬ zfst (xGo (s 0) (s 1) T st p) 4 < 0 := fun q => by
    have hz := zfst_rng (xGo (s 0) (s 1) T st p) 4
    obtain ⟨k, rfl⟩ : ∃ k : Nat, d = k := ⟨d.toNat, by omega⟩
    have hgo : xGo (s 0) (s 1) T st p (k : Int) := ⟨hin, fun hh => hn ((hT _ (znb_val (by omega) (by omega) hin).1).mp hh), e⟩
    exact xfst_ge (k := k) hgo 4 (by omega) q
  unfold xNx
  rw [if_neg (by omega), if_neg hpos, ec]
end XS
