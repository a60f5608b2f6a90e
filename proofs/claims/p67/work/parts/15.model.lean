/-! The reference model, its simple parts: what each method answers, of any row (printed by wip/whole/src15.py). -/
abbrev sIn (s : Int → Int) (x y : Int) : Prop := (0 ≤ x ∧ x ≤ s 0 - 1) ∧ (0 ≤ y ∧ y ≤ s 1 - 1)
def sSight (s : Int → Int) : Int := if s 2 - s (6 + s 3 % 24) < 0 then 0 else s 2 - s (6 + s 3 % 24)
def zap (a b : Int) : Int := if a < b then b - a else a - b
def sFar (s : Int → Int) (w x y : Int) : Int := zap (s (214 + 7 * w + 0)) x + zap (s (214 + 7 * w + 1)) y
def sFarL (s : Int → Int) (w l : Int) : Int := sFar s w (s (174 + 5 * l + 0)) (s (174 + 5 * l + 1))
abbrev sSeen (s : Int → Int) (w l : Int) : Prop := sFarL s w l ≤ sSight s + s (174 + 5 * l + 2)
abbrev zhas (m l : Int) : Prop := zand (zshr m l) 1 = 1
abbrev sAcc (s : Int → Int) (w l : Int) : Prop := sSeen s w l ∧ ¬ zhas (s (214 + 7 * w + 4)) l ∧ ¬ zhas (s (214 + 7 * w + 5)) l
abbrev sOn (s : Int → Int) (w l : Int) : Prop := s (214 + 7 * w + 0) = s (174 + 5 * l + 0) ∧ s (214 + 7 * w + 1) = s (174 + 5 * l + 1)
def sNear (s : Int → Int) (w : Int) : Nat → Int
  | 0 => -1
  | k + 1 => if sAcc s w k ∧ (sNear s w k < 0 ∨ sFarL s w k < sFarL s w (sNear s w k)) then (k : Int) else sNear s w k
def zadd (m l : Int) : Int := zor m (zshl 1 l)
/-- what is known of a light, of a traveller, of the sight -/
def mLt (s : Int → Int) (l : Int) : Prop := (0 ≤ s (174 + 5 * l + 0) ∧ s (174 + 5 * l + 0) < 12) ∧ (0 ≤ s (174 + 5 * l + 1) ∧ s (174 + 5 * l + 1) < 12) ∧ (0 ≤ s (174 + 5 * l + 2) ∧ s (174 + 5 * l + 2) ≤ 9) ∧ (0 ≤ s (174 + 5 * l + 3) ∧ s (174 + 5 * l + 3) ≤ 1) ∧ (-1 ≤ s (174 + 5 * l + 4) ∧ s (174 + 5 * l + 4) < 8)
def mWk (s : Int → Int) (w : Int) : Prop := (0 ≤ s (214 + 7 * w + 0) ∧ s (214 + 7 * w + 0) < 12) ∧ (0 ≤ s (214 + 7 * w + 1) ∧ s (214 + 7 * w + 1) < 12) ∧ (0 ≤ s (214 + 7 * w + 2) ∧ s (214 + 7 * w + 2) ≤ 2) ∧ (-1 ≤ s (214 + 7 * w + 3) ∧ s (214 + 7 * w + 3) < 8) ∧ (0 ≤ s (214 + 7 * w + 6) ∧ s (214 + 7 * w + 6) ≤ 30000)
def mSg (s : Int → Int) : Prop := (0 ≤ s 2 ∧ s 2 ≤ 20) ∧ (0 ≤ s 3 ∧ s 3 ≤ 30000) ∧ (0 ≤ s (6 + s 3 % 24) ∧ s (6 + s 3 % 24) ≤ 9)
theorem zap_rng {a b : Int} (ha : 0 ≤ a ∧ a < 12) (hb : 0 ≤ b ∧ b < 12) : 0 ≤ zap a b ∧ zap a b < 12 := by
  unfold zap
  split <;> omega
theorem sSight_rng {s : Int → Int} (h : mSg s) : 0 ≤ sSight s ∧ sSight s ≤ 20 := by
  obtain ⟨⟨a1, a2⟩, ⟨b1, b2⟩, c1, c2⟩ := h
  unfold sSight
  split <;> omega
theorem sFar_rng {s : Int → Int} {w x y : Int} (hk : mWk s w) (hx : 0 ≤ x ∧ x < 12) (hy : 0 ≤ y ∧ y < 12) : 0 ≤ sFar s w x y ∧ sFar s w x y ≤ 22 := by
  have h1 := zap_rng hk.1 hx
  have h2 := zap_rng hk.2.1 hy
  unfold sFar
  omega
theorem sFarL_rng {s : Int → Int} {w l : Int} (hk : mWk s w) (hl : mLt s l) : 0 ≤ sFarL s w l ∧ sFarL s w l ≤ 22 := sFar_rng hk hl.1 hl.2.1
theorem sNear_rng (s : Int → Int) (w : Int) (k : Nat) : -1 ≤ sNear s w k ∧ sNear s w k < k := by
  induction k with
  | zero => exact ⟨Int.le_refl (-1), by show (-1 : Int) < ((0 : Nat) : Int); decide⟩
  | succ k ih =>
    unfold sNear
    split <;> omega

/-- the least below n of which p holds; -1 -/
def zfst (p : Int → Prop) [DecidablePred p] : Nat → Int
  | 0 => -1
  | k + 1 => if 0 ≤ zfst p k then zfst p k else if p k then (k : Int) else -1
theorem zfst_no {p : Int → Prop} [DecidablePred p] : ∀ k : Nat, (∀ j : Int, 0 ≤ j → j < k → ¬ p j) → zfst p k = -1 := by
  intro k
  induction k with
  | zero => intro _; rfl
  | succ k ih =>
    intro h
    unfold zfst
    rw [ih (fun j h0 h1 => h j h0 (by omega)), if_neg (by decide), if_neg (h k (by omega) (by omega))]
theorem zfst_at {p : Int → Prop} [DecidablePred p] {j : Nat} (hj : p j) (hn : ∀ i : Int, 0 ≤ i → i < j → ¬ p i) : ∀ k : Nat, j < k → zfst p k = j := by
  intro k
  induction k with
  | zero => intro h; omega
  | succ k ih =>
    intro h
    unfold zfst
    by_cases h1 : j < k
    · rw [ih h1, if_pos (by omega)]
    · have : j = k := by omega
      subst this
      rw [zfst_no j (fun i h0 h2 => hn i h0 h2), if_neg (by decide), if_pos hj]
theorem zfst_rng (p : Int → Prop) [DecidablePred p] (k : Nat) : -1 ≤ zfst p k ∧ zfst p k < k := by
  induction k with
  | zero => exact ⟨Int.le_refl (-1), by show (-1 : Int) < ((0 : Nat) : Int); decide⟩
  | succ k ih =>
    unfold zfst
    (repeat' split) <;> omega
theorem zfst_p {p : Int → Prop} [DecidablePred p] (k : Nat) (h : 0 ≤ zfst p k) : p (zfst p k) := by
  induction k with
  | zero => exact absurd h (show ¬ (0 : Int) ≤ -1 by decide)
  | succ k ih =>
    unfold zfst at h ⊢
    split
    · rename_i h1
      exact ih h1
    · split
      · assumption
      · rename_i h1 h2
        rw [if_neg h1, if_neg h2] at h
        exact absurd h (by decide)
theorem zfst_congr {p q : Int → Prop} [DecidablePred p] [DecidablePred q] : ∀ k : Nat, (∀ j : Int, 0 ≤ j → j < k → (p j ↔ q j)) → zfst p k = zfst q k := by
  intro k
  induction k with
  | zero => intro _; rfl
  | succ k ih =>
    intro h
    unfold zfst
    rw [ih (fun j h0 h1 => h j h0 (by omega))]
    by_cases h1 : 0 ≤ zfst q k
    · rw [if_pos h1, if_pos h1]
    · rw [if_neg h1, if_neg h1]
      by_cases h2 : q k
      · rw [if_pos h2, if_pos ((h k (by omega) (by omega)).mpr h2)]
      · rw [if_neg h2, if_neg (fun h3 => h2 ((h k (by omega) (by omega)).mp h3))]
/-- how many below n, and the sum -/
def zcnt (p : Int → Prop) [DecidablePred p] : Nat → Int
  | 0 => 0
  | k + 1 => zcnt p k + (if p k then 1 else 0)
theorem zcnt_rng (p : Int → Prop) [DecidablePred p] (k : Nat) : 0 ≤ zcnt p k ∧ zcnt p k ≤ k := by
  induction k with
  | zero => exact ⟨Int.le_refl 0, Int.le_refl 0⟩
  | succ k ih =>
    unfold zcnt
    split <;> omega
theorem zcnt_congr {p q : Int → Prop} [DecidablePred p] [DecidablePred q] : ∀ k : Nat, (∀ j : Int, 0 ≤ j → j < k → (p j ↔ q j)) → zcnt p k = zcnt q k := by
  intro k
  induction k with
  | zero => intro _; rfl
  | succ k ih =>
    intro h
    unfold zcnt
    rw [ih (fun j h0 h1 => h j h0 (by omega))]
    by_cases h2 : q k
    · rw [if_pos h2, if_pos ((h k (by omega) (by omega)).mpr h2)]
    · rw [if_neg h2, if_neg (fun h3 => h2 ((h k (by omega) (by omega)).mp h3))]
def zsum (f : Int → Int) : Nat → Int
  | 0 => 0
  | k + 1 => zsum f k + f k
theorem zsum_congr {f g : Int → Int} : ∀ k : Nat, (∀ j : Int, 0 ≤ j → j < k → f j = g j) → zsum f k = zsum g k := by
  intro k
  induction k with
  | zero => intro _; rfl
  | succ k ih =>
    intro h
    unfold zsum
    rw [ih (fun j h0 h1 => h j h0 (by omega)), h k (by omega) (by omega)]
theorem zsum_rng {f : Int → Int} {c : Int} : ∀ k : Nat, (∀ j : Int, 0 ≤ j → j < k → 0 ≤ f j ∧ f j ≤ c) → 0 ≤ zsum f k ∧ zsum f k ≤ c * k := by
  intro k
  induction k with
  | zero => intro _; exact ⟨Int.le_refl _, by simp [zsum]⟩
  | succ k ih =>
    intro h
    have h1 := ih (fun j h0 h1 => h j h0 (by omega))
    have h2 := h k (by omega) (by omega)
    have h3 : c * ((k + 1 : Nat) : Int) = c * k + c := by
      rw [show ((k + 1 : Nat) : Int) = (k : Int) + 1 from rfl, Int.mul_add, Int.mul_one]
    unfold zsum
    rw [h3]
    omega
abbrev sAt (s : Int → Int) (x y l : Int) : Prop := s (174 + 5 * l + 0) = x ∧ s (174 + 5 * l + 1) = y
/-- the light on a cell -/
def sLOn (s : Int → Int) (x y : Int) : Int := zfst (sAt s x y) (s 4).toNat
def sCount (s : Int → Int) (q : Int) : Int := zcnt (fun w => s (214 + 7 * w + 2) = q) (s 5).toNat
def sLeave (s : Int → Int) (x y : Int) : Int → Int := if s (30 + 12 * y + x) < 10 then s else zp s (30 + 12 * y + x) (if s (30 + 12 * y + x) = 11 then 1 else s (30 + 12 * y + x) - 1)
