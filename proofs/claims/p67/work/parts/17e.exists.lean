/-! Shortest ways over a grid: that there are such numbers (the program's own search finds them). -/
def zdry (wt : Int → Prop) [DecidablePred wt] (st : Int → Int) (p : Int) : Int := if wt p ∧ st p ≠ 0 then -1 else st p
theorem zdry_n {wt : Int → Prop} [DecidablePred wt] {st : Int → Int} {p : Int} (h : ¬ wt p) : zdry wt st p = st p := if_neg (fun q => h q.1)
theorem zDist_dry {W H : Int} {wt : Int → Prop} [DecidablePred wt] {go : Int → Prop} {st : Int → Int} (h : zDist W H wt go True st) : zDist W H wt go False (zdry wt st) := by
  refine ⟨fun p pv => ?_, fun p pv => ?_, fun p pv ps => ?_, fun p pv ps pw d d0 d1 => ?_⟩
  · have := h.1 p pv
    unfold zdry
    split <;> omega
  · rw [h.2.1 p pv]
    unfold zdry
    by_cases e : wt p ∧ st p ≠ 0
    · rw [if_pos e]
      exact ⟨fun q => absurd q e.2, fun q => by omega⟩
    · rw [if_neg e]
  · have hw : ¬ wt p := fun q => by
      unfold zdry at ps
      by_cases e : st p = 0
      · rw [if_neg (fun r => r.2 e)] at ps
        omega
      · rw [if_pos ⟨q, e⟩] at ps
        omega
    rw [zdry_n hw] at ps
    obtain ⟨-, d, d0, d1, d2, d3, d4⟩ := h.2.2.1 p pv ps
    exact ⟨fun q => absurd q hw, d, d0, d1, d2, d3, by rw [zdry_n d3, zdry_n hw]; exact d4⟩
  · rw [zdry_n pw] at ps
    intro hin hw
    have hw' : ¬ wt (znb p d) := fun q => hw q
    obtain ⟨a, b⟩ := h.2.2.2 p pv ps pw d d0 d1 hin (fun _ => trivial)
    rw [zdry_n hw', zdry_n pw]
    exact ⟨a, b⟩
/-- a memory whose first world has this grid -/
def zxG (W H : Int) (T st q : Int → Int) (tl : Int) : GM := fun k => if k = 1 then (fun i => if i = 0 then W else if i = 1 then H else 0) else if k = 2 then T else if k = 202 then st else if k = 203 then q else if k = 201 then (fun i => if i = 3 then tl else 0) else fun _ => 0
theorem zxG_rng {W H : Int} {T : Int → Int} {tl : Int} {q st : Int → Int} (hW : 0 ≤ W ∧ W ≤ 12) (hH : 0 ≤ H ∧ H ≤ 12) (hT : ∀ j, zr (T j)) (hq : ∀ j, zr (q j)) (hs : ∀ j, zr (st j)) (ht : zr tl) : zrM (zxG W H T st q tl) := by
  intro k j
  unfold zxG
  by_cases e1 : k = 1
  · rw [if_pos e1]
    by_cases e : j = 0
    · simp only [if_pos e]; exact ⟨by omega, by omega⟩
    · simp only [if_neg e]
      by_cases e' : j = 1
      · simp only [if_pos e']; exact ⟨by omega, by omega⟩
      · simp only [if_neg e']; exact ⟨by decide, by decide⟩
  · rw [if_neg e1]
    by_cases e2 : k = 2
    · rw [if_pos e2]; exact hT j
    · rw [if_neg e2]
      by_cases e3 : k = 202
      · rw [if_pos e3]; exact hs j
      · rw [if_neg e3]
        by_cases e4 : k = 203
        · rw [if_pos e4]; exact hq j
        · rw [if_neg e4]
          by_cases e5 : k = 201
          · rw [if_pos e5]
            by_cases e : j = 3
            · simp only [if_pos e]; exact ht
            · simp only [if_neg e]; exact ⟨by decide, by decide⟩
          · rw [if_neg e5]; exact ⟨by decide, by decide⟩
theorem zx_ex {W H : Int} {T : Int → Int} {go : Int → Prop} {tl : Int} {q st : Int → Int} (hW : 0 ≤ W ∧ W ≤ 12) (hH : 0 ≤ H ∧ H ≤ 12) (hT : ∀ j, zr (T j)) (hq : ∀ j, zr (q j)) (hs : ∀ j, zr (st j)) (ht : zr tl) (hB : zBI W H (xWt T) go True 0 0 tl q st) : ∃ st', zDist W H (xWt T) go True st' := by
  have hG := zxG_rng hW hH hT hq hs ht
  have hF : zrL (fun _ _ => 0) := fun _ _ => (⟨by decide, by decide⟩ : zrl 0)
  have c := cX_spread (N := 229) (G := zxG W H T st q tl) (F := fun _ _ => 0) (n := 0) (by omega) (w := 0) (by omega) (i := 0) (by omega) (G0 := zxG W H T st q tl) hW hH (go := go) ⟨xFr_r 0 _, hB⟩ hG hF
  obtain ⟨f, o, G', F', n', -, -, -, -, ⟨-, -, hD⟩, -⟩ := c
  exact ⟨_, hD⟩
theorem zx_to {W H : Int} {wt : Int → Prop} [DecidablePred wt] {g : Int} (hW : 0 ≤ W ∧ W ≤ 12) (hH : 0 ≤ H ∧ H ≤ 12) (hg : zVal W H g) : ∃ st, zDist W H wt (fun p => p = g) False st := by
  by_cases hw : wt g
  · exact ⟨fun p => if p = g then 0 else -1, zDist_wet hW.2 hH.2 (fun p _ _ hp => if_neg hp) (if_pos rfl) hg hw⟩
  · have e : ∀ p, xWt (fun p => if wt p then 0 else 10) p ↔ wt p := by
      intro p
      show (if wt p then (0 : Int) else 10) = 0 ↔ wt p
      by_cases h : wt p
      · rw [if_pos h]; exact ⟨fun _ => h, fun _ => rfl⟩
      · rw [if_neg h]; exact ⟨fun q => absurd q (by decide), fun q => absurd q h⟩
    have hB := (zBI_goal (W := W) (H := H) (wt := xWt (fun p => if wt p then 0 else 10)) (go := fun _ => False) (mk := True) (tl := 0) (t := g) (q := fun _ => 0) (st := fun _ => -1) hW.2 hH.2 (zBI_none (fun _ _ _ => rfl) hW.2 hH.2) (fun p pv => by show (-1 : Int) ≤ 0; decide) hg rfl (fun q => hw ((e g).mp q))).1
    have g144 := zVal_144 hW.2 hH.2 hg
    obtain ⟨st, hD⟩ := zx_ex hW hH (fun j => by show zr (if wt j then (0 : Int) else 10); split <;> exact ⟨by decide, by decide⟩) (fun j => by unfold zp; split <;> first | exact zr0 | exact ⟨by omega, by omega⟩) (fun j => by unfold zp; split <;> first | exact zr0 | exact (⟨by decide, by decide⟩ : zr (-1))) (by exact ⟨by decide, by decide⟩) hB
    obtain ⟨h1, h2, h3, h4⟩ := zDist_dry hD
    have h9 : zDist W H wt (fun p => False ∨ p = g) False (zdry (xWt (fun p => if wt p then 0 else 10)) st) := by
      refine ⟨h1, h2, fun p pv ps => ?_, fun p pv ps pw d d0 d1 => ?_⟩
      · obtain ⟨a, d, b0, b1, b2, b3, b4⟩ := h3 p pv ps
        exact ⟨fun q => a ((e p).mpr q), d, b0, b1, b2, fun q => b3 ((e _).mpr q), b4⟩
      · intro hin hn
        exact h4 p pv ps (fun q => pw ((e p).mp q)) d d0 d1 hin (fun q => hn ((e _).mp q))
    obtain ⟨k1, k2, k3, k4⟩ := h9
    exact ⟨_, k1, fun p pv => ⟨fun q => (k2 p pv).mp (Or.inr q), fun q => ((k2 p pv).mpr q).elim False.elim id⟩, k3, k4⟩
