/-! The items of a marsh's text, and what reading them makes. -/
section F1
variable {T : Int → Int} {n p v : Int} {pre w r : List Int} {D : Int → Int}
theorem cw {x : Int} {r' : List Int} (hv : lW w = v) (hp : ∀ x, x ∈ pre → x = 32 ∨ x = 10) (hw : ∀ x, x ∈ w → 97 ≤ x ∧ x ≤ 122) (h0 : 0 < w.length) (h : At T p ((pre ++ w) ++ r)) (hn : p + ((pre ++ w) ++ r).length ≤ n) (hr : r = x :: r') (hx : ¬ (97 ≤ x ∧ x ≤ 122)) : (pIs T n (p, 0, -1, D) v ∧ pTk T n (p, 0, -1, D) (pIs T n (p, 0, -1, D) v) = (p + (pre ++ w).length, 0, -1, D) ∧ pNx T n (p, 0, -1, D) = (p + (pre ++ w).length, 0, -1, D)) ∧ (tB T n p = p + pre.length ∧ tE T n p = p + (pre ++ w).length) ∧ At T (p + (pre ++ w).length) r ∧ p + (pre ++ w).length + r.length ≤ n := by
  have hA := At_r h
  have hl : ((pre ++ w) ++ r).length = pre.length + w.length + r.length := by rw [List.length_append, List.length_append]
  have hl2 : (pre ++ w).length = pre.length + w.length := List.length_append
  have e : p + (pre.length : Int) + (w.length : Int) = p + ((pre ++ w).length : Int) := by omega
  have hs : p + pre.length + w.length < n → ¬ tSm T (p + pre.length + w.length) := fun _ => by
    rw [e]
    rw [hr] at hA
    unfold tSm
    rw [At_0 hA]
    exact hx
  have q := rs_word (n := n) (D := D) (At_l h) hp hw h0 (by omega) hs hv
  have q2 := tk_word (n := n) (At_l h) hp hw h0 (by omega) hs
  rw [e] at q q2
  exact ⟨q, ⟨q2.1, q2.2.1⟩, hA, by omega⟩
theorem cn {x lo hi : Int} {r' : List Int} (hv : 0 ≤ v ∧ v < 100) (hl : lo ≤ v ∧ v ≤ hi) (hp : ∀ x, x ∈ pre → x = 32 ∨ x = 10) (h : At T p ((pre ++ wDig v) ++ r)) (hn : p + ((pre ++ wDig v) ++ r).length ≤ n) (hr : r = x :: r') (hx : ¬ (48 ≤ x ∧ x ≤ 57)) : (pNs T n (p, 0, -1, D) lo hi = (p + (pre ++ wDig v).length, 0, -1, D) ∧ pNv T n (p, 0, -1, D) lo hi = v ∧ tK T n p = 2 ∧ tV T n p = v ∧ tE T n p = p + (pre ++ wDig v).length) ∧ At T (p + (pre ++ wDig v).length) r ∧ p + (pre ++ wDig v).length + r.length ≤ n := by
  have hA := At_r h
  have hl3 : ((pre ++ wDig v) ++ r).length = pre.length + (wDig v).length + r.length := by rw [List.length_append, List.length_append]
  have hl2 : (pre ++ wDig v).length = pre.length + (wDig v).length := List.length_append
  have e : p + (pre.length : Int) + ((wDig v).length : Int) = p + ((pre ++ wDig v).length : Int) := by omega
  have q := rs_numb (n := n) (D := D) hv hl (At_l h) hp (by omega) (fun _ => by
    rw [e]
    rw [hr] at hA
    unfold tDg
    rw [At_0 hA]
    exact hx)
  rw [e] at q
  exact ⟨q, hA, by omega⟩
theorem cs (h : At T p (59 :: r)) (hn : p + (59 :: r).length ≤ n) : (pTk T n (p, 0, -1, D) (tK T n p = 3) = (p + 1, 0, -1, D) ∧ tK T n p = 3) ∧ At T (p + 1) r ∧ p + 1 + r.length ≤ n := by
  have hl : (59 :: r).length = r.length + 1 := rfl
  refine ⟨rs_semi (At_0 h) (by omega), ?_, by omega⟩
  exact At_r (a := [59]) h
theorem p32 : ∀ x : Int, x ∈ [32] → x = 32 ∨ x = 10 := fun x hx => Or.inl (List.mem_singleton.mp hx)
theorem p00 : ∀ x : Int, x ∈ ([] : List Int) → x = 32 ∨ x = 10 := fun x hx => absurd hx (List.not_mem_nil)
theorem pTk_yes {x : zTx} {c : Prop} [Decidable c] (h0 : x.2.1 = 0) (hc : c) : pTk T n x c = (tE T n x.1, 0, x.2.2.1, x.2.2.2) := by
  unfold pTk
  rw [if_neg (fun h => h h0), if_pos hc]
theorem pR3_yes {x q : zTx} (h0 : x.2.1 = 0) (ha : pAre T n x) (hq : pTk T n (tE T n x.1, 0, x.2.2.1, x.2.2.2) (tK T n (tE T n x.1) = 3) = q) : pR3 T n x = q := by
  unfold pR3
  rw [pTk_yes h0 ha]
  exact hq
/-! the head -/
def kMarsh : List Int := [109, 97, 114, 115, 104]
def kClear : List Int := [99, 108, 101, 97, 114]
def kRow : List Int := [114, 111, 119]
def kFog : List Int := [102, 111, 103]
def kLight : List Int := [108, 105, 103, 104, 116]
def kTrav : List Int := [116, 114, 97, 118, 101, 108, 108, 101, 114]
def kTrue : List Int := [116, 114, 117, 101]
def kFalse : List Int := [102, 97, 108, 115, 101]
def kNext : List Int := [110, 101, 120, 116]
theorem kl_ok : ∀ w, w ∈ [kMarsh, kClear, kRow, kFog, kLight, kTrav, kTrue, kFalse, kNext] → ∀ x, x ∈ w → (97 : Int) ≤ x ∧ x ≤ 122 := by decide
def tHead (a b c : Int) : List Int := ([] ++ kMarsh) ++ (([32] ++ wDig a) ++ (([32] ++ wDig b) ++ (([32] ++ kClear) ++ (([32] ++ wDig c) ++ [59]))))
theorem rd_head {a b c : Int} (h : At T 0 (tHead a b c)) (hn : ((tHead a b c).length : Int) ≤ n) (ha : 2 ≤ a ∧ a ≤ 12) (hb : 2 ≤ b ∧ b ≤ 12) (hc : 0 ≤ c ∧ c ≤ 20) : pHead T n (0, 0, -1, D) = (((tHead a b c).length : Int), 0, -1, zp (zp (zp D 0 a) 1 b) 2 c) := by
  obtain ⟨⟨-, q1, -⟩, -, h1, n1⟩ := cw (n := n) (D := D) (v := 6942059) (by decide +kernel) p00 (kl_ok _ (by decide)) (by decide) h (by rw [Int.zero_add]; exact hn) rfl (by decide)
  obtain ⟨⟨q2, q2v, -⟩, h2, n2⟩ := cn (D := D) (lo := 2) (hi := 12) ⟨by omega, by omega⟩ ha p32 h1 n1 rfl (by decide)
  obtain ⟨⟨q3, q3v, -⟩, h3, n3⟩ := cn (D := zp D 0 a) (lo := 2) (hi := 12) ⟨by omega, by omega⟩ hb p32 h2 n2 rfl (by decide)
  obtain ⟨⟨-, q4, -⟩, -, h4, n4⟩ := cw (D := zp (zp D 0 a) 1 b) (v := 1834209) (by decide +kernel) p32 (kl_ok _ (by decide)) (by decide) h3 n3 rfl (by decide)
  obtain ⟨⟨q5, q5v, -⟩, h5, n5⟩ := cn (D := zp (zp D 0 a) 1 b) (lo := 0) (hi := 20) ⟨by omega, by omega⟩ hc p32 h4 n4 rfl (by decide)
  obtain ⟨⟨q6, -⟩, -, -⟩ := cs (D := zp (zp (zp D 0 a) 1 b) 2 c) h5 n5
  unfold pHead
  rw [q1]
  unfold pH1
  rw [q2, q2v]
  unfold pH2 pSt
  dsimp only
  rw [q3, q3v]
  dsimp only
  rw [q4]
  unfold pH3 pSt
  rw [q5, q5v]
  unfold pSemi
  dsimp only
  rw [q6]
  refine Prod.ext ?_ rfl
  show _ = ((tHead a b c).length : Int)
  unfold tHead
  simp only [List.length_append, List.length_cons, List.length_nil]
  omega
/-! a row of cells -/
def tRow (c : List Int) : List Int := ([] ++ kRow) ++ (([32] ++ c) ++ [59])
def rowD (D : Int → Int) (y : Int) (c : List Int) : Int → Int := fun j => if 30 + 12 * y ≤ j ∧ j < 30 + 12 * y + c.length then pCell (c.getD (j - (30 + 12 * y)).toNat 0) else D j
theorem rd_row {y : Nat} {c : List Int} (h : At T p (tRow c)) (hn : p + (tRow c).length ≤ n) (hc : ∀ x, x ∈ c → x = 102 ∨ x = 119 ∨ x = 104 ∨ x = 112) (h0 : 0 < c.length) (hl : D 0 = (c.length : Int)) : pRow T n y (p, 0, -1, D) = (p + (tRow c).length, 0, -1, rowD D y c) := by
  obtain ⟨⟨-, q1, -⟩, -, h1, n1⟩ := cw (n := n) (D := D) (v := 13550) (by decide +kernel) p00 (kl_ok _ (by decide)) (by decide) h hn rfl (by decide)
  have hcl : ∀ x, x ∈ c → 97 ≤ x ∧ x ≤ 122 := fun x hx => by
    have := hc x hx
    omega
  have hR : rowD D y c 0 = D 0 := if_neg (by omega)
  obtain ⟨⟨⟨k2, -⟩, -⟩, ⟨b2, e2⟩, h2, n2⟩ := cw (D := rowD D y c) rfl p32 hcl h0 h1 n1 rfl (by decide)
  obtain ⟨⟨q3, k3⟩, -, -⟩ := cs (D := rowD D y c) h2 n2
  have hA2 := At_r (At_l h1)
  generalize hp1 : p + (([] ++ kRow : List Int).length : Int) = p1 at *
  have eD : pRowD T D (p1 + (([32] : List Int).length : Int)) y (D 0) = rowD D y c := by
    funext j
    unfold pRowD rowD
    rw [hl]
    by_cases hj : 30 + 12 * (y : Int) ≤ j ∧ j < 30 + 12 * (y : Int) + (c.length : Int)
    · rw [if_pos hj, if_pos hj]
      have e := hA2 (j - (30 + 12 * (y : Int))).toNat (by omega)
      rw [show (((j - (30 + 12 * (y : Int))).toNat : Nat) : Int) = j - (30 + 12 * (y : Int)) by omega] at e
      rw [e]
    · rw [if_neg hj, if_neg hj]
  have hlen : (([32] ++ c : List Int).length : Int) = 1 + c.length := by
    simp only [List.length_append, List.length_cons, List.length_nil]
    omega
  have hcells : zfst (fun j => pCell (T (tB T n p1 + j)) < 0) (tE T n p1 - tB T n p1).toNat < 0 := by
    rw [zfst_no _ (fun j j0 j1 => ?_)]
    · decide
    · have hl1 : (([32] : List Int).length : Int) = 1 := rfl
      rw [b2]
      rw [b2, e2] at j1
      have := At_mem (P := fun x => x = 102 ∨ x = 119 ∨ x = 104 ∨ x = 112) hA2 hc (p1 + (([32] : List Int).length : Int) + j) (by omega) (by omega)
      have hx : ∀ x : Int, (x = 102 ∨ x = 119 ∨ x = 104 ∨ x = 112) → ¬ pCell x < 0 := fun x hx => by
        rcases hx with rfl | rfl | rfl | rfl <;> decide
      exact hx _ this
  have hare : ∀ D' : Int → Int, D' 0 = D 0 → pAre T n (p1, 0, -1, D') := fun D' hD => ⟨⟨k2, by
    have hl1 : (([32] : List Int).length : Int) = 1 := rfl
    dsimp only
    rw [hD, hl, b2, e2]
    omega⟩, hcells⟩
  unfold pRow
  rw [q1]
  rw [if_neg (fun h => h rfl)]
  unfold pR1
  rw [if_pos (hare D rfl)]
  have ex : pSt (p1, 0, -1, D) (pRowD T D (tB T n p1) y (D 0)) = (p1, 0, -1, rowD D y c) := by
    rw [b2, eD]
    rfl
  show pR3 T n (pSt (p1, 0, -1, D) (pRowD T D (tB T n p1) y (D 0))) = _
  rw [ex]
  refine (pR3_yes rfl (hare _ hR) rfl).trans ?_
  dsimp only
  rw [e2, q3]
  refine Prod.ext ?_ rfl
  show _ = p + ((tRow c).length : Int)
  rw [← hp1]
  unfold tRow
  simp only [List.length_append, List.length_cons, List.length_nil]
  omega
/-! a fog -/
def tFog (h f : Int) : List Int := ([] ++ kFog) ++ (([32] ++ wDig h) ++ (([32] ++ wDig f) ++ [59]))
theorem rd_fog {h9 f : Int} (h : At T p (tFog h9 f)) (hn : p + (tFog h9 f).length ≤ n) (hh : 0 ≤ h9 ∧ h9 ≤ 23) (hf : 0 ≤ f ∧ f ≤ 9) : pIs T n (p, 0, -1, D) 4786 ∧ pFog T n (p, 0, -1, D) = (p + (tFog h9 f).length, 0, -1, zp D (6 + h9) f) := by
  obtain ⟨⟨i1, -, q1⟩, -, h1, n1⟩ := cw (n := n) (D := D) (v := 4786) (by decide +kernel) p00 (kl_ok _ (by decide)) (by decide) h hn rfl (by decide)
  obtain ⟨⟨q2, q2v, -⟩, h2, n2⟩ := cn (D := D) (lo := 0) (hi := 23) ⟨by omega, by omega⟩ hh p32 h1 n1 rfl (by decide)
  obtain ⟨⟨q3, q3v, -⟩, h3, n3⟩ := cn (D := D) (lo := 0) (hi := 9) ⟨by omega, by omega⟩ hf p32 h2 n2 rfl (by decide)
  obtain ⟨⟨q4, k4⟩, -, -⟩ := cs (D := D) h3 n3
  refine ⟨i1, ?_⟩
  unfold pFog
  rw [q1, q2, q2v, q3, q3v]
  unfold pF3
  rw [if_pos ⟨rfl, k4⟩]
  dsimp only
  rw [q4]
  unfold pSt
  refine Prod.ext ?_ rfl
  show _ = p + ((tFog h9 f).length : Int)
  unfold tFog
  simp only [List.length_append, List.length_cons, List.length_nil]
  omega
/-! a traveller -/
def tWalk (u v : Int) : List Int := ([] ++ kTrav) ++ (([32] ++ wDig u) ++ (([32] ++ wDig v) ++ [59]))
theorem rd_walk {u v : Int} (h : At T p (tWalk u v)) (hn : p + (tWalk u v).length ≤ n) (hu : 0 ≤ u ∧ u < D 0) (hv : 0 ≤ v ∧ v < D 1) (h12 : D 0 ≤ 12 ∧ D 1 ≤ 12) (hc1 : D (30 + 12 * v + u) ≠ 1) (hc2 : D (30 + 12 * v + u) ≠ 2) (h6 : D 5 < 6) : pIs T n (p, 0, -1, D) 5837583086019 ∧ pWalker T n (p, 0, -1, D) = (p + (tWalk u v).length, 0, -1, sAddW D u v) := by
  obtain ⟨⟨i1, -, -⟩, ⟨-, e1⟩, h1, n1⟩ := cw (n := n) (D := D) (v := 5837583086019) (by decide +kernel) p00 (kl_ok _ (by decide)) (by decide) h hn rfl (by decide)
  obtain ⟨⟨q2, q2v, -⟩, h2, n2⟩ := cn (D := D) (lo := 0) (hi := D 0 - 1) ⟨by omega, by omega⟩ ⟨by omega, by omega⟩ p32 h1 n1 rfl (by decide)
  obtain ⟨⟨-, -, k3, v3, e3⟩, h3, n3⟩ := cn (D := D) (lo := 0) (hi := 99) ⟨by omega, by omega⟩ ⟨by omega, by omega⟩ p32 h2 n2 rfl (by decide)
  obtain ⟨⟨q4, k4⟩, -, -⟩ := cs (D := D) h3 n3
  refine ⟨i1, ?_⟩
  unfold pWalker
  rw [if_pos ⟨rfl, h6⟩, pTk_yes (x := (p, 0, -1, D)) rfl (by exact h6)]
  dsimp only
  rw [e1]
  unfold pW2
  dsimp only
  rw [q2, q2v]
  have hw : pWc T n (p + (([] ++ kTrav : List Int).length : Int) + (([32] ++ wDig u : List Int).length : Int), 0, -1, D) u := ⟨k3, by dsimp only; rw [v3]; exact ⟨hv.2, hc1, hc2⟩⟩
  unfold pW3
  rw [if_pos ⟨rfl, hw⟩, pTk_yes rfl hw]
  dsimp only
  rw [e3, v3]
  unfold pW4
  rw [if_pos ⟨rfl, k4⟩]
  dsimp only
  rw [q4]
  unfold pSt
  refine Prod.ext ?_ rfl
  show _ = p + ((tWalk u v).length : Int)
  unfold tWalk
  simp only [List.length_append, List.length_cons, List.length_nil]
  omega
end F1
