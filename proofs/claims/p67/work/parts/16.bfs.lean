/-! Shortest ways over a grid: what a search keeps, what it leaves, and that this is one thing. -/
abbrev zIn (W H x y : Int) : Prop := (0 ≤ x ∧ x ≤ W - 1) ∧ (0 ≤ y ∧ y ≤ H - 1)
abbrev zVal (W H p : Int) : Prop := 0 ≤ p ∧ p % 12 < W ∧ p / 12 < H
def znx (p d : Int) : Int := p % 12 + zsx d
def zny (p d : Int) : Int := p / 12 + zsy d
def znb (p d : Int) : Int := 12 * zny p d + znx p d
def zop (d : Int) : Int := if d = 0 then 2 else if d = 1 then 3 else if d = 2 then 0 else 1
theorem zsx_rng (d : Int) : -1 ≤ zsx d ∧ zsx d ≤ 1 := by
  unfold zsx
  (repeat' split) <;> omega
theorem zsy_rng (d : Int) : -1 ≤ zsy d ∧ zsy d ≤ 1 := by
  unfold zsy
  (repeat' split) <;> omega
theorem znb_val {W H p d : Int} (hW : W ≤ 12) (hH : H ≤ 12) (h : zIn W H (znx p d) (zny p d)) : zVal W H (znb p d) ∧ znb p d < 144 ∧ znb p d % 12 = znx p d ∧ znb p d / 12 = zny p d := by
  obtain ⟨⟨a, b⟩, c, e⟩ := h
  unfold znb
  exact ⟨⟨by omega, by omega, by omega⟩, by omega, by omega, by omega⟩
theorem znb_op {W H p d : Int} (hp : zVal W H p) (hW : W ≤ 12) (hH : H ≤ 12) (hd : 0 ≤ d ∧ d < 4) (h : zIn W H (znx p d) (zny p d)) : 0 ≤ zop d ∧ zop d < 4 ∧ znx (znb p d) (zop d) = p % 12 ∧ zny (znb p d) (zop d) = p / 12 ∧ znb (znb p d) (zop d) = p := by
  obtain ⟨-, -, e1, e2⟩ := znb_val hW hH h
  have hz : zsx (zop d) = - zsx d ∧ zsy (zop d) = - zsy d ∧ 0 ≤ zop d ∧ zop d < 4 := by
    have : d = 0 ∨ d = 1 ∨ d = 2 ∨ d = 3 := by omega
    rcases this with rfl | rfl | rfl | rfl <;> decide
  obtain ⟨z1, z2, z3, z4⟩ := hz
  have a1 : znx (znb p d) (zop d) = p % 12 := by
    show znb p d % 12 + zsx (zop d) = p % 12
    rw [e1, z1]
    show p % 12 + zsx d + - zsx d = p % 12
    omega
  have a2 : zny (znb p d) (zop d) = p / 12 := by
    show znb p d / 12 + zsy (zop d) = p / 12
    rw [e2, z2]
    show p / 12 + zsy d + - zsy d = p / 12
    omega
  refine ⟨z3, z4, a1, a2, ?_⟩
  show 12 * zny (znb p d) (zop d) + znx (znb p d) (zop d) = p
  rw [a1, a2]
  omega
theorem zcnt_no {p : Int → Prop} [DecidablePred p] (h : ∀ j, ¬ p j) : ∀ k : Nat, zcnt p k = 0 := by
  intro k
  induction k with
  | zero => rfl
  | succ k ih =>
    unfold zcnt
    rw [ih, if_neg (h k)]
    rfl
theorem zcnt_add {p q : Int → Prop} [DecidablePred p] [DecidablePred q] (t : Nat) (hp : ¬ p t) (hq : q t) (ho : ∀ j : Int, j ≠ t → (p j ↔ q j)) : ∀ k : Nat, t < k → zcnt q k = zcnt p k + 1 := by
  intro k
  induction k with
  | zero => intro h; omega
  | succ k ih =>
    intro h
    unfold zcnt
    by_cases h1 : t < k
    · rw [ih h1]
      by_cases h2 : q k
      · rw [if_pos h2, if_pos ((ho k (by omega)).mpr h2)]
      · rw [if_neg h2, if_neg (fun h3 => h2 ((ho k (by omega)).mp h3))]
        try omega
    · have e : t = k := by omega
      subst e
      rw [if_pos hq, if_neg hp, zcnt_congr (p := q) (q := p) t (fun j h0 h2 => (ho j (by omega)).symm)]
      omega
section BFS
variable {W H : Int} {wt : Int → Prop} {go : Int → Prop} {mk : Prop}
def zCl (W H : Int) (wt : Int → Prop) (mk : Prop) (st : Int → Int) (p d : Int) : Prop := zIn W H (znx p d) (zny p d) → (wt (znb p d) → mk) → 0 ≤ st (znb p d) ∧ st (znb p d) ≤ st p + 1
def zPr (W H : Int) (wt : Int → Prop) (mk : Prop) (st : Int → Int) (p : Int) : Prop := (wt p → mk) ∧ ∃ d : Int, 0 ≤ d ∧ d < 4 ∧ zIn W H (znx p d) (zny p d) ∧ ¬ wt (znb p d) ∧ st (znb p d) = st p - 1
/-- what the search leaves -/
def zDist (W H : Int) (wt go : Int → Prop) (mk : Prop) (st : Int → Int) : Prop :=
  (∀ p, zVal W H p → -1 ≤ st p ∧ st p ≤ 144) ∧ (∀ p, zVal W H p → (go p ↔ st p = 0)) ∧ (∀ p, zVal W H p → 0 < st p → zPr W H wt mk st p) ∧
  (∀ p, zVal W H p → 0 ≤ st p → ¬ wt p → ∀ d, 0 ≤ d → d < 4 → zCl W H wt mk st p d)
/-- what the search keeps: the cells before c in the queue are done, of the c-th the ways before dn -/
def zBI (W H : Int) (wt : Int → Prop) [DecidablePred wt] (go : Int → Prop) (mk : Prop) (c dn tl : Int) (q st : Int → Int) : Prop :=
  (0 ≤ c ∧ c ≤ tl ∧ 0 ≤ dn ∧ dn ≤ 4 ∧ (0 < dn → c < tl)) ∧
  (∀ i, 0 ≤ i → i < tl → zVal W H (q i) ∧ ¬ wt (q i) ∧ 0 ≤ st (q i) ∧ st (q i) ≤ i) ∧
  (∀ i j, 0 ≤ i → i ≤ j → j < tl → st (q i) ≤ st (q j)) ∧
  (∀ p, 0 ≤ p → p < 144 → -1 ≤ st p ∧ st p ≤ 144) ∧
  (c < tl → ∀ p, zVal W H p → st p ≤ st (q c) + 1) ∧
  (∀ p, zVal W H p → (go p ↔ st p = 0)) ∧
  (∀ p, zVal W H p → 0 < st p → zPr W H wt mk st p) ∧
  (∀ i, 0 ≤ i → i < c → ∀ d, 0 ≤ d → d < 4 → zCl W H wt mk st (q i) d) ∧
  (∀ d, 0 ≤ d → d < dn → zCl W H wt mk st (q c) d) ∧
  (∀ p, zVal W H p → 0 ≤ st p → ¬ wt p → ∃ i, 0 ≤ i ∧ i < tl ∧ q i = p) ∧
  tl = zcnt (fun j => 0 ≤ st j ∧ ¬ wt j) 144
theorem zCl_up {st : Int → Int} {p d t v : Int} (h : zCl W H wt mk st p d) (hp : p ≠ t) (ht : st t = -1) : zCl W H wt mk (zp st t v) p d := by
  intro a b
  obtain ⟨c1, c2⟩ := h a b
  have hn : znb p d ≠ t := by
    intro e
    rw [e] at c1
    omega
  rw [zp_ne hn, zp_ne hp]
  exact ⟨c1, c2⟩
theorem zPr_up {st : Int → Int} {p t v : Int} (h : zPr W H wt mk st p) (hp : p ≠ t) (ht : st t = -1) (hs : 0 < st p) : zPr W H wt mk (zp st t v) p := by
  obtain ⟨h1, d, d0, d1, d2, d3, d4⟩ := h
  have hn : znb p d ≠ t := by
    intro e
    rw [e] at d4
    omega
  exact ⟨h1, d, d0, d1, d2, d3, by rw [zp_ne hn, zp_ne hp]; exact d4⟩
theorem zBI_144 [DecidablePred wt] {c dn tl : Int} {q st : Int → Int} (h : zBI W H wt go mk c dn tl q st) : tl ≤ 144 := by
  obtain ⟨-, -, -, -, -, -, -, -, -, -, h10⟩ := h
  rw [h10]
  exact (zcnt_rng _ 144).2
theorem zBI_room [DecidablePred wt] {c dn tl t : Int} {q st : Int → Int} (h : zBI W H wt go mk c dn tl q st) (h0 : 0 ≤ t) (h1 : t < 144) (ht : st t = -1) : tl < 144 := by
  obtain ⟨-, -, -, -, -, -, -, -, -, -, h10⟩ := h
  obtain ⟨k, hk⟩ : ∃ k : Nat, t = k := ⟨t.toNat, by omega⟩
  have e := zcnt_add (p := fun j => 0 ≤ st j ∧ ¬ wt j) (q := fun j => j = (k : Int) ∨ (0 ≤ st j ∧ ¬ wt j)) k (fun hh => by have := hh.1; rw [← hk] at this; omega) (Or.inl rfl) (fun j hj => ⟨Or.inr, fun hh => hh.elim (fun e => absurd e hj) id⟩) 144 (by omega)
  have e2 := (zcnt_rng (fun j => j = (k : Int) ∨ (0 ≤ st j ∧ ¬ wt j)) 144).2
  rw [e, ← h10] at e2
  omega
theorem zBI_skip [DecidablePred wt] {c dn tl : Int} {q st : Int → Int} (hW : W ≤ 12) (hH : H ≤ 12) (h : zBI W H wt go mk c dn tl q st) (hc : c < tl) (hd : dn < 4) (hs : zIn W H (znx (q c) dn) (zny (q c) dn) → (wt (znb (q c) dn) → mk) → 0 ≤ st (znb (q c) dn)) : zBI W H wt go mk c (dn + 1) tl q st := by
  obtain ⟨⟨a1, a2, a3, a4, a5⟩, h2, h3, h4, h5, h6, h7, h8, h8', h9, h10⟩ := h
  refine ⟨⟨a1, a2, by omega, by omega, fun _ => hc⟩, h2, h3, h4, h5, h6, h7, h8, ?_, h9, h10⟩
  intro d d0 d1
  by_cases e : d < dn
  · exact h8' d d0 e
  · have e' : d = dn := by omega
    rw [e']
    intro i1 i2
    exact ⟨hs i1 i2, h5 hc _ (znb_val hW hH i1).1⟩
theorem zBI_add [DecidablePred wt] {c dn tl : Int} {q st : Int → Int} (hW : W ≤ 12) (hH : H ≤ 12) (h : zBI W H wt go mk c dn tl q st) (hc : c < tl) (hd : dn < 4) (hin : zIn W H (znx (q c) dn) (zny (q c) dn)) (ht : st (znb (q c) dn) = -1) (hw : ¬ wt (znb (q c) dn)) :
    zBI W H wt go mk c (dn + 1) (tl + 1) (zp q tl (znb (q c) dn)) (zp st (znb (q c) dn) (st (q c) + 1)) := by
  have tl144 := zBI_144 h
  obtain ⟨⟨a1, a2, a3, a4, a5⟩, h2, h3, h4, h5, h6, h7, h8, h8', h9, h10⟩ := h
  obtain ⟨tv, t144, tx, ty⟩ := znb_val hW hH hin
  obtain ⟨p1, p2, p3, p4⟩ := h2 c a1 hc
  obtain ⟨o1, o2, o3, o4, o5⟩ := znb_op p1 hW hH ⟨a3, hd⟩ hin
  generalize hT : znb (q c) dn = t at tv t144 tx ty o3 o4 o5 ht hw ⊢
  have hne : ∀ i, 0 ≤ i → i < tl → q i ≠ t := fun i i0 i1 e => by
    have := (h2 i i0 i1).2.2.1
    rw [e] at this
    omega
  have hq : ∀ i, i < tl → zp q tl t i = q i := fun i i1 => zp_ne (by omega)
  have hqt : zp q tl t tl = t := zp_eq _ _ _
  have hst : ∀ p, p ≠ t → zp st t (st (q c) + 1) p = st p := fun p hp => zp_ne hp
  have hstt : zp st t (st (q c) + 1) t = st (q c) + 1 := zp_eq _ _ _
  have hcq := hq c hc
  refine ⟨⟨a1, by omega, by omega, by omega, fun _ => by omega⟩, ?_, ?_, ?_, ?_, ?_, ?_, ?_, ?_, ?_, ?_⟩
  · intro i i0 i1
    by_cases e : i < tl
    · rw [hq i e, hst _ (hne i i0 e)]
      exact h2 i i0 e
    · rw [show i = tl by omega, hqt, hstt]
      exact ⟨tv, hw, by omega, by omega⟩
  · intro i j i0 ij j1
    by_cases e : j < tl
    · rw [hq i (by omega), hq j e, hst _ (hne i i0 (by omega)), hst _ (hne j (by omega) e)]
      exact h3 i j i0 ij e
    · rw [show j = tl by omega, hqt, hstt]
      by_cases e2 : i < tl
      · rw [hq i e2, hst _ (hne i i0 e2)]
        exact h5 hc _ (h2 i i0 e2).1
      · rw [show i = tl by omega, hqt, hstt]
        exact Int.le_refl _
  · intro p p0 p1'
    by_cases e : p = t
    · rw [e, hstt]
      omega
    · rw [hst p e]
      exact h4 p p0 p1'
  · intro _ p pv
    rw [hcq, hst _ (hne c a1 hc)]
    by_cases e : p = t
    · rw [e, hstt]
      exact Int.le_refl _
    · rw [hst p e]
      exact h5 hc p pv
  · intro p pv
    by_cases e : p = t
    · rw [e, hstt]
      have h6t := h6 t tv
      exact ⟨fun g => absurd (h6t.mp g) (by omega), fun g => absurd g (by omega)⟩
    · rw [hst p e]
      exact h6 p pv
  · intro p pv ps
    by_cases e : p = t
    · rw [e]
      refine ⟨fun hh => absurd hh hw, zop dn, o1, o2, ?_, ?_, ?_⟩
      · rw [o3, o4]
        exact ⟨⟨by omega, by omega⟩, by omega, by omega⟩
      · rw [o5]
        exact p2
      · rw [o5, hst _ (hne c a1 hc), hstt]
        omega
    · rw [hst p e] at ps
      exact zPr_up (h7 p pv ps) e ht ps
  · intro i i0 i1 d d0 d1
    rw [hq i (by omega)]
    exact zCl_up (h8 i i0 i1 d d0 d1) (hne i i0 (by omega)) ht
  · intro d d0 d1
    rw [hcq]
    by_cases e : d < dn
    · exact zCl_up (h8' d d0 e) (hne c a1 hc) ht
    · intro _ _
      rw [show d = dn by omega, hT, hstt, hst _ (hne c a1 hc)]
      exact ⟨by omega, Int.le_refl _⟩
  · intro p pv ps pw
    by_cases e : p = t
    · exact ⟨tl, by omega, by omega, by rw [hqt, e]⟩
    · rw [hst p e] at ps
      obtain ⟨i, i0, i1, i2⟩ := h9 p pv ps pw
      exact ⟨i, i0, by omega, by rw [hq i i1, i2]⟩
  · obtain ⟨k, hk⟩ : ∃ k : Nat, t = k := ⟨t.toNat, by omega⟩
    have e := zcnt_add (p := fun j => 0 ≤ st j ∧ ¬ wt j) (q := fun j => 0 ≤ zp st t (st (q c) + 1) j ∧ ¬ wt j) k (fun hh => by have := hh.1; rw [← hk] at this; omega) ⟨by rw [← hk, hstt]; omega, by rw [← hk]; exact hw⟩ (fun j hj => by rw [hst j (by rw [hk]; exact hj)]) 144 (by omega)
    rw [e, ← h10]
theorem zBI_mark [DecidablePred wt] {c dn tl : Int} {q st : Int → Int} (hW : W ≤ 12) (hH : H ≤ 12) (h : zBI W H wt go mk c dn tl q st) (hc : c < tl) (hd : dn < 4) (hin : zIn W H (znx (q c) dn) (zny (q c) dn)) (ht : st (znb (q c) dn) = -1) (hw : wt (znb (q c) dn)) (hm : mk) :
    zBI W H wt go mk c (dn + 1) tl q (zp st (znb (q c) dn) (st (q c) + 1)) := by
  have tl144 := zBI_144 h
  obtain ⟨⟨a1, a2, a3, a4, a5⟩, h2, h3, h4, h5, h6, h7, h8, h8', h9, h10⟩ := h
  obtain ⟨tv, t144, tx, ty⟩ := znb_val hW hH hin
  obtain ⟨p1, p2, p3, p4⟩ := h2 c a1 hc
  obtain ⟨o1, o2, o3, o4, o5⟩ := znb_op p1 hW hH ⟨a3, hd⟩ hin
  generalize hT : znb (q c) dn = t at tv t144 tx ty o3 o4 o5 ht hw ⊢
  have hne : ∀ i, 0 ≤ i → i < tl → q i ≠ t := fun i i0 i1 e => by
    have := (h2 i i0 i1).2.2.1
    rw [e] at this
    omega
  have hst : ∀ p, p ≠ t → zp st t (st (q c) + 1) p = st p := fun p hp => zp_ne hp
  have hstt : zp st t (st (q c) + 1) t = st (q c) + 1 := zp_eq _ _ _
  refine ⟨⟨a1, a2, by omega, by omega, fun _ => hc⟩, ?_, ?_, ?_, ?_, ?_, ?_, ?_, ?_, ?_, ?_⟩
  · intro i i0 i1
    rw [hst _ (hne i i0 i1)]
    exact h2 i i0 i1
  · intro i j i0 ij j1
    rw [hst _ (hne i i0 (by omega)), hst _ (hne j (by omega) j1)]
    exact h3 i j i0 ij j1
  · intro p p0 p1'
    by_cases e : p = t
    · rw [e, hstt]
      omega
    · rw [hst p e]
      exact h4 p p0 p1'
  · intro _ p pv
    rw [hst _ (hne c a1 hc)]
    by_cases e : p = t
    · rw [e, hstt]
      exact Int.le_refl _
    · rw [hst p e]
      exact h5 hc p pv
  · intro p pv
    by_cases e : p = t
    · rw [e, hstt]
      have h6t := h6 t tv
      exact ⟨fun g => absurd (h6t.mp g) (by omega), fun g => absurd g (by omega)⟩
    · rw [hst p e]
      exact h6 p pv
  · intro p pv ps
    by_cases e : p = t
    · rw [e]
      refine ⟨fun _ => hm, zop dn, o1, o2, ?_, ?_, ?_⟩
      · rw [o3, o4]
        exact ⟨⟨by omega, by omega⟩, by omega, by omega⟩
      · rw [o5]
        exact p2
      · rw [o5, hst _ (hne c a1 hc), hstt]
        omega
    · rw [hst p e] at ps
      exact zPr_up (h7 p pv ps) e ht ps
  · intro i i0 i1 d d0 d1
    exact zCl_up (h8 i i0 i1 d d0 d1) (hne i i0 (by omega)) ht
  · intro d d0 d1
    by_cases e : d < dn
    · exact zCl_up (h8' d d0 e) (hne c a1 hc) ht
    · intro _ _
      rw [show d = dn by omega, hT, hstt, hst _ (hne c a1 hc)]
      exact ⟨by omega, Int.le_refl _⟩
  · intro p pv ps pw
    by_cases e : p = t
    · exact absurd hw (by rw [← e]; exact pw)
    · rw [hst p e] at ps
      exact h9 p pv ps pw
  · rw [h10]
    refine zcnt_congr 144 (fun j j0 j1 => ?_)
    by_cases e : j = t
    · exact ⟨fun hh => absurd hw (by rw [← e]; exact hh.2), fun hh => absurd hw (by rw [← e]; exact hh.2)⟩
    · rw [hst j e]
theorem zBI_next [DecidablePred wt] {c tl : Int} {q st : Int → Int} (h : zBI W H wt go mk c 4 tl q st) : zBI W H wt go mk (c + 1) 0 tl q st := by
  obtain ⟨⟨a1, a2, a3, a4, a5⟩, h2, h3, h4, h5, h6, h7, h8, h8', h9, h10⟩ := h
  have hc := a5 (by omega)
  refine ⟨⟨by omega, by omega, by omega, by omega, fun h => by omega⟩, h2, h3, h4, ?_, h6, h7, ?_, fun d d0 d1 => by omega, h9, h10⟩
  · intro h p pv
    have e1 := h5 hc p pv
    have e2 := h3 c (c + 1) a1 (by omega) h
    omega
  · intro i i0 i1 d d0 d1
    by_cases e : i < c
    · exact h8 i i0 e d d0 d1
    · rw [show i = c by omega]
      exact h8' d d0 d1
theorem zVal_144 {p : Int} (hW : W ≤ 12) (hH : H ≤ 12) (h : zVal W H p) : 0 ≤ p ∧ p < 144 := by
  obtain ⟨a, b, c⟩ := h
  omega
theorem zBI_dist [DecidablePred wt] {c tl : Int} {q st : Int → Int} (hW : W ≤ 12) (hH : H ≤ 12) (h : zBI W H wt go mk c 0 tl q st) (hc : tl ≤ c) : zDist W H wt go mk st := by
  obtain ⟨⟨a1, a2, a3, a4, a5⟩, h2, h3, h4, h5, h6, h7, h8, h8', h9, h10⟩ := h
  refine ⟨fun p pv => h4 p (zVal_144 hW hH pv).1 (zVal_144 hW hH pv).2, h6, h7, ?_⟩
  intro p pv ps pw d d0 d1
  obtain ⟨i, i0, i1, i2⟩ := h9 p pv ps pw
  rw [← i2]
  exact h8 i i0 (by omega) d d0 d1
/-- with no goal yet -/
theorem zBI_none [DecidablePred wt] {q st : Int → Int} (hst : ∀ p, 0 ≤ p → p < 144 → st p = -1) (hW : W ≤ 12) (hH : H ≤ 12) : zBI W H wt (fun _ => False) mk 0 0 0 q st := by
  refine ⟨⟨by omega, by omega, by omega, by omega, fun h => by omega⟩, fun i i0 i1 => by omega, fun i j i0 ij j1 => by omega, fun p p0 p1 => by rw [hst p p0 p1]; omega, fun h => by omega, ?_, ?_, fun i i0 i1 => by omega, fun d d0 d1 => by omega, ?_, ?_⟩
  · intro p pv
    have := hst p (zVal_144 hW hH pv).1 (zVal_144 hW hH pv).2
    exact ⟨False.elim, fun h => by omega⟩
  · intro p pv ps
    have := hst p (zVal_144 hW hH pv).1 (zVal_144 hW hH pv).2
    omega
  · intro p pv ps
    have := hst p (zVal_144 hW hH pv).1 (zVal_144 hW hH pv).2
    omega
  · have e := zcnt_congr (p := fun j => 0 ≤ st j ∧ ¬ wt j) (q := fun _ => False) 144 (fun j j0 j1 => ⟨fun h => by have := hst j j0 (by omega); have := h.1; omega, False.elim⟩)
    rw [e]
    exact (zcnt_no (fun _ h => h) 144).symm
/-- one goal more, which is no water; all goals so far have the steps 0 -/
theorem zBI_goal [DecidablePred wt] {tl t : Int} {q st : Int → Int} (hW : W ≤ 12) (hH : H ≤ 12) (h : zBI W H wt go mk 0 0 tl q st) (h0 : ∀ p, zVal W H p → st p ≤ 0) (tv : zVal W H t) (ht : st t = -1) (hw : ¬ wt t) :
    zBI W H wt (fun p => go p ∨ p = t) mk 0 0 (tl + 1) (zp q tl t) (zp st t 0) ∧ (∀ p, zVal W H p → zp st t 0 p ≤ 0) := by
  have tl144 := zBI_144 h
  obtain ⟨⟨a1, a2, a3, a4, a5⟩, h2, h3, h4, h5, h6, h7, h8, h8', h9, h10⟩ := h
  have t144 := zVal_144 hW hH tv
  have hne : ∀ i, 0 ≤ i → i < tl → q i ≠ t := fun i i0 i1 e => by
    have := (h2 i i0 i1).2.2.1
    rw [e] at this
    omega
  have hq : ∀ i, i < tl → zp q tl t i = q i := fun i i1 => zp_ne (by omega)
  have hqt : zp q tl t tl = t := zp_eq _ _ _
  have hst : ∀ p, p ≠ t → zp st t 0 p = st p := fun p hp => zp_ne hp
  have hstt : zp st t 0 t = 0 := zp_eq _ _ _
  have hz : ∀ p, zVal W H p → zp st t 0 p ≤ 0 := fun p pv => by
    by_cases e : p = t
    · rw [e, hstt]
      exact Int.le_refl _
    · rw [hst p e]
      exact h0 p pv
  have hz2 : ∀ i, 0 ≤ i → i < tl + 1 → zVal W H (zp q tl t i) ∧ ¬ wt (zp q tl t i) ∧ zp st t 0 (zp q tl t i) = 0 := fun i i0 i1 => by
    by_cases e : i < tl
    · rw [hq i e, hst _ (hne i i0 e)]
      have e1 := h2 i i0 e
      have e2 := h0 _ e1.1
      exact ⟨e1.1, e1.2.1, by omega⟩
    · rw [show i = tl by omega, hqt, hstt]
      exact ⟨tv, hw, rfl⟩
  refine ⟨⟨⟨by omega, by omega, by omega, by omega, fun h => by omega⟩, ?_, ?_, ?_, ?_, ?_, ?_, fun i i0 i1 => by omega, fun d d0 d1 => by omega, ?_, ?_⟩, hz⟩
  · intro i i0 i1
    obtain ⟨e1, e2, e3⟩ := hz2 i i0 i1
    exact ⟨e1, e2, by omega, by omega⟩
  · intro i j i0 ij j1
    rw [(hz2 i i0 (by omega)).2.2, (hz2 j (by omega) j1).2.2]
    exact Int.le_refl _
  · intro p p0 p1'
    by_cases e : p = t
    · rw [e, hstt]
      omega
    · rw [hst p e]
      exact h4 p p0 p1'
  · intro _ p pv
    rw [(hz2 0 (by omega) (by omega)).2.2]
    have := hz p pv
    omega
  · intro p pv
    by_cases e : p = t
    · rw [e, hstt]
      exact ⟨fun _ => rfl, fun _ => Or.inr rfl⟩
    · rw [hst p e]
      exact ⟨fun g => g.elim (h6 p pv).mp (fun g => absurd g e), fun g => Or.inl ((h6 p pv).mpr g)⟩
  · intro p pv ps
    have := hz p pv
    omega
  · intro p pv ps pw
    by_cases e : p = t
    · exact ⟨tl, by omega, by omega, by rw [hqt, e]⟩
    · rw [hst p e] at ps
      obtain ⟨i, i0, i1, i2⟩ := h9 p pv ps pw
      exact ⟨i, i0, by omega, by rw [hq i i1, i2]⟩
  · obtain ⟨k, hk⟩ : ∃ k : Nat, t = k := ⟨t.toNat, by omega⟩
    have e := zcnt_add (p := fun j => 0 ≤ st j ∧ ¬ wt j) (q := fun j => 0 ≤ zp st t 0 j ∧ ¬ wt j) k (fun hh => by have := hh.1; rw [← hk] at this; omega) ⟨by rw [← hk, hstt]; omega, by rw [← hk]; exact hw⟩ (fun j hj => by rw [hst j (by rw [hk]; exact hj)]) 144 (by omega)
    rw [e, ← h10]
/-- a goal that is water is reached from nowhere -/
theorem zDist_wet {st : Int → Int} {t : Int} (hW : W ≤ 12) (hH : H ≤ 12) (hst : ∀ p, 0 ≤ p → p < 144 → p ≠ t → st p = -1) (ht : st t = 0) (tv : zVal W H t) (hw : wt t) : zDist W H wt (fun p => p = t) mk st := by
  refine ⟨?_, ?_, ?_, ?_⟩
  · intro p pv
    by_cases e : p = t
    · rw [e, ht]
      omega
    · rw [hst p (zVal_144 hW hH pv).1 (zVal_144 hW hH pv).2 e]
      omega
  · intro p pv
    by_cases e : p = t
    · rw [e, ht]
      exact ⟨fun _ => rfl, fun _ => rfl⟩
    · have := hst p (zVal_144 hW hH pv).1 (zVal_144 hW hH pv).2 e
      exact ⟨fun h => absurd h e, fun h => by omega⟩
  · intro p pv ps
    by_cases e : p = t
    · rw [e, ht] at ps
      omega
    · have := hst p (zVal_144 hW hH pv).1 (zVal_144 hW hH pv).2 e
      omega
  · intro p pv ps pw
    by_cases e : p = t
    · exact absurd hw (by rw [← e]; exact pw)
    · have := hst p (zVal_144 hW hH pv).1 (zVal_144 hW hH pv).2 e
      omega
/-- two searches agree where there is no water: one way .. -/
theorem zDist_le {mk' : Prop} {st st' : Int → Int} (hW : W ≤ 12) (hH : H ≤ 12) (h : zDist W H wt go mk st) (h' : zDist W H wt go mk' st') : ∀ (k : Nat) (p : Int), zVal W H p → ¬ wt p → st' p = (k : Int) → 0 ≤ st p ∧ st p ≤ k := by
  intro k
  induction k with
  | zero =>
    intro p pv pw ps
    have := (h.2.1 p pv).mp ((h'.2.1 p pv).mpr ps)
    omega
  | succ k ih =>
    intro p pv pw ps
    obtain ⟨-, d, d0, d1, d2, d3, d4⟩ := h'.2.2.1 p pv (by omega)
    have nv := (znb_val hW hH d2).1
    obtain ⟨e1, e2⟩ := ih (znb p d) nv d3 (by omega)
    obtain ⟨o1, o2, o3, o4, o5⟩ := znb_op pv hW hH ⟨d0, d1⟩ d2
    have c := h.2.2.2 (znb p d) nv e1 d3 (zop d) o1 o2
    unfold zCl at c
    rw [o3, o4, o5] at c
    obtain ⟨c1, c2⟩ := c ⟨⟨by omega, by omega⟩, by omega, by omega⟩ (fun hh => absurd hh pw)
    omega
theorem zDist_eq {mk' : Prop} {st st' : Int → Int} (hW : W ≤ 12) (hH : H ≤ 12) (h : zDist W H wt go mk st) (h' : zDist W H wt go mk' st') {p : Int} (pv : zVal W H p) (pw : ¬ wt p) : st p = st' p := by
  have b := h.1 p pv
  have b' := h'.1 p pv
  by_cases e : 0 ≤ st' p
  · have e1 := zDist_le hW hH h h' (st' p).toNat p pv pw (by omega)
    have e2 := zDist_le hW hH h' h (st p).toNat p pv pw (by omega)
    omega
  · by_cases e2 : 0 ≤ st p
    · have e3 := zDist_le hW hH h' h (st p).toNat p pv pw (by omega)
      omega
    · omega
end BFS
