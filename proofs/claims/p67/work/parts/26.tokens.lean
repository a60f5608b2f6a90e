/-! The tokens of a text, and what reading it makes: as functions. -/
/-- to the first place from p on that is not so, at most fuel places on -/
def zru (q : Int → Prop) [DecidablePred q] : Nat → Int → Int
  | 0, p => p
  | f + 1, p => if q p then zru q f (p + 1) else p
def zrun (q : Int → Prop) [DecidablePred q] (n p : Int) : Int := zru q (n - p).toNat p
section RU
variable {q : Int → Prop} {n p : Int}
theorem zrun_s [DecidablePred q] (h : p < n) (hq : q p) : zrun q n p = zrun q n (p + 1) := by
  unfold zrun
  rw [show (n - p).toNat = (n - (p + 1)).toNat + 1 by omega]
  exact if_pos hq
theorem zrun_e [DecidablePred q] (h : n ≤ p ∨ ¬ q p) : zrun q n p = p := by
  unfold zrun
  cases hf : (n - p).toNat with
  | zero => rfl
  | succ f =>
    rcases h with h | h
    · omega
    · exact if_neg h
theorem zru_rng [DecidablePred q] : ∀ (f : Nat) (p : Int), p ≤ zru q f p ∧ zru q f p ≤ p + f ∧ (∀ j, p ≤ j → j < zru q f p → q j) ∧ (zru q f p < p + f → ¬ q (zru q f p)) := by
  intro f
  induction f with
  | zero => intro p; exact ⟨Int.le_refl _, by show p ≤ p + ((0 : Nat) : Int); omega, fun j h0 h1 => by have h1' : j < p := h1; omega, fun h => by have h' : p < p + ((0 : Nat) : Int) := h; omega⟩
  | succ f ih =>
    intro p
    unfold zru
    split
    · rename_i hq
      obtain ⟨a, b, c, d⟩ := ih (p + 1)
      refine ⟨by omega, by omega, fun j h0 h1 => ?_, fun h => d (by omega)⟩
      by_cases e : j = p
      · rw [e]
        exact hq
      · exact c j (by omega) h1
    · rename_i hq
      exact ⟨Int.le_refl _, by omega, fun j h0 h1 => by omega, fun _ => hq⟩
theorem zrun_rng [DecidablePred q] (h : p ≤ n) : p ≤ zrun q n p ∧ zrun q n p ≤ n ∧ (∀ j, p ≤ j → j < zrun q n p → q j) ∧ (zrun q n p < n → ¬ q (zrun q n p)) := by
  obtain ⟨a, b, c, d⟩ := zru_rng (q := q) (n - p).toNat p
  unfold zrun
  exact ⟨a, by omega, c, fun h => d (by omega)⟩
end RU
abbrev tBl (T : Int → Int) (j : Int) : Prop := T j = 32 ∨ T j = 10
abbrev tSm (T : Int → Int) (j : Int) : Prop := 97 ≤ T j ∧ T j ≤ 122
abbrev tDg (T : Int → Int) (j : Int) : Prop := 48 ≤ T j ∧ T j ≤ 57
/-- the value of the first k digits from b on, of at most three; the number of the first k letters, of at most ten -/
def tVr (T : Int → Int) (b : Int) : Nat → Int
  | 0 => 0
  | k + 1 => if (k : Int) < 3 then 10 * tVr T b k + T (b + k) - 48 else tVr T b k
def tWr (T : Int → Int) (b : Int) : Nat → Int
  | 0 => 0
  | k + 1 => if (k : Int) < 10 then 27 * tWr T b k + T (b + k) - 96 else tWr T b k
/-- the token that begins from p on: where, its kind, where it ends, its value, its word -/
def tB (T : Int → Int) (n p : Int) : Int := zrun (tBl T) n p
def tE (T : Int → Int) (n p : Int) : Int := if tB T n p = n then n else if tSm T (tB T n p) then zrun (tSm T) n (tB T n p) else if tDg T (tB T n p) then zrun (tDg T) n (tB T n p) else tB T n p + 1
def tK (T : Int → Int) (n p : Int) : Int := if tB T n p = n then 0 else if tSm T (tB T n p) then 1 else if tDg T (tB T n p) then (if 3 < tE T n p - tB T n p then 4 else 2) else if T (tB T n p) = 59 then 3 else 4
def tV (T : Int → Int) (n p : Int) : Int := if tB T n p = n then 0 else if tSm T (tB T n p) then 0 else if tDg T (tB T n p) then tVr T (tB T n p) (tE T n p - tB T n p).toNat else 0
def tW (T : Int → Int) (n p : Int) : Int := if tB T n p = n then 0 else if tSm T (tB T n p) then tWr T (tB T n p) (tE T n p - tB T n p).toNat else 0
section TK
variable {T : Int → Int} {n p : Int}
theorem tB_rng (h : p ≤ n) : p ≤ tB T n p ∧ tB T n p ≤ n := by
  obtain ⟨a, b, -⟩ := zrun_rng (q := tBl T) h
  exact ⟨a, b⟩
theorem tE_rng (h : p ≤ n) : tB T n p ≤ tE T n p ∧ tE T n p ≤ n ∧ (tB T n p < n → tB T n p < tE T n p) := by
  have hb := tB_rng (T := T) h
  unfold tE
  split
  · omega
  · have h1 : tB T n p < n := by omega
    split
    · rename_i hs
      obtain ⟨a, b, -⟩ := zrun_rng (q := tSm T) hb.2
      have e := zrun_s (q := tSm T) h1 hs
      obtain ⟨a', b', -⟩ := zrun_rng (q := tSm T) (p := tB T n p + 1) (n := n) (by omega)
      exact ⟨a, b, fun _ => by rw [e]; omega⟩
    · split
      · rename_i hs
        obtain ⟨a, b, -⟩ := zrun_rng (q := tDg T) hb.2
        have e := zrun_s (q := tDg T) h1 hs
        obtain ⟨a', b', -⟩ := zrun_rng (q := tDg T) (p := tB T n p + 1) (n := n) (by omega)
        exact ⟨a, b, fun _ => by rw [e]; omega⟩
      · omega
theorem tVr_rng (b : Int) : ∀ k : Nat, (∀ j, b ≤ j → j < b + k → tDg T j) → 0 ≤ tVr T b k ∧ tVr T b k ≤ 999 ∧ ((k : Int) ≤ 2 → tVr T b k ≤ 99) ∧ ((k : Int) ≤ 1 → tVr T b k ≤ 9) ∧ ((k : Int) ≤ 0 → tVr T b k = 0) := by
  intro k
  induction k with
  | zero => intro _; exact ⟨Int.le_refl _, (show (0 : Int) ≤ 999 by decide), fun _ => (show (0 : Int) ≤ 99 by decide), fun _ => (show (0 : Int) ≤ 9 by decide), fun _ => rfl⟩
  | succ k ih =>
    intro h
    obtain ⟨a, b1, c, d, e⟩ := ih (fun j h0 h1 => h j h0 (by omega))
    have hd := h (b + k) (by omega) (by omega)
    unfold tVr
    split
    · rename_i hk
      by_cases k0 : (k : Int) ≤ 0
      · have := e k0
        omega
      · by_cases k1 : (k : Int) ≤ 1
        · have := d k1
          omega
        · have := c (by omega)
          omega
    · omega
theorem tWr_rng (b : Int) : ∀ k : Nat, (∀ j, b ≤ j → j < b + k → tSm T j) → 0 ≤ tWr T b k ∧ tWr T b k < 205891132094649 ∧ ((k : Int) ≤ 9 → tWr T b k < 7625597484987) := by
  have hp : ∀ k : Nat, (∀ j, b ≤ j → j < b + k → tSm T j) → (k : Int) ≤ 10 → 0 ≤ tWr T b k ∧ tWr T b k < (27 : Int) ^ k := by
    intro k
    induction k with
    | zero => intro _ _; exact ⟨Int.le_refl _, (show (0 : Int) < 1 by decide)⟩
    | succ k ih =>
      intro h hk
      obtain ⟨a, b1⟩ := ih (fun j h0 h1 => h j h0 (by omega)) (by omega)
      have hd := h (b + k) (by omega) (by omega)
      unfold tWr
      rw [if_pos (by omega), Int.pow_succ]
      generalize (27 : Int) ^ k = P at b1 ⊢
      omega
  intro k
  induction k with
  | zero => intro _; exact ⟨Int.le_refl _, (show (0 : Int) < 205891132094649 by decide), fun _ => (show (0 : Int) < 7625597484987 by decide)⟩
  | succ k ih =>
    intro h
    obtain ⟨a, b1, c⟩ := ih (fun j h0 h1 => h j h0 (by omega))
    have hd := h (b + k) (by omega) (by omega)
    by_cases k9 : (k : Int) < 10
    · have h2 := hp (k + 1) h (by omega)
      have hk : k = 0 ∨ k = 1 ∨ k = 2 ∨ k = 3 ∨ k = 4 ∨ k = 5 ∨ k = 6 ∨ k = 7 ∨ k = 8 ∨ k = 9 := by omega
      refine ⟨h2.1, Int.lt_of_lt_of_le h2.2 ?_, fun h9 => Int.lt_of_lt_of_le h2.2 ?_⟩
      · rcases hk with rfl | rfl | rfl | rfl | rfl | rfl | rfl | rfl | rfl | rfl <;> decide +kernel
      · rcases hk with rfl | rfl | rfl | rfl | rfl | rfl | rfl | rfl | rfl | rfl
        · decide +kernel
        · decide +kernel
        · decide +kernel
        · decide +kernel
        · decide +kernel
        · decide +kernel
        · decide +kernel
        · decide +kernel
        · decide +kernel
        · omega
    · unfold tWr
      rw [if_neg k9]
      exact ⟨a, b1, fun h9 => by omega⟩
theorem tV_rng (h : p ≤ n) : 0 ≤ tV T n p ∧ tV T n p ≤ 999 := by
  have hb := tB_rng (T := T) h
  have he := tE_rng (T := T) h
  unfold tV
  split
  · omega
  · split
    · omega
    · split
      · rename_i h1 h2 h3
        have e : tE T n p = zrun (tDg T) n (tB T n p) := by
          unfold tE
          rw [if_neg h1, if_neg h2, if_pos h3]
        obtain ⟨-, -, c, -⟩ := zrun_rng (q := tDg T) hb.2
        obtain ⟨a, b, -⟩ := tVr_rng (T := T) (tB T n p) (tE T n p - tB T n p).toNat (fun j h0 h1 => c j h0 (by rw [← e]; omega))
        exact ⟨a, b⟩
      · omega
theorem tW_rng (h : p ≤ n) : 0 ≤ tW T n p ∧ tW T n p < 205891132094649 := by
  have hb := tB_rng (T := T) h
  have he := tE_rng (T := T) h
  unfold tW
  split
  · omega
  · split
    · rename_i h1 h2
      have e : tE T n p = zrun (tSm T) n (tB T n p) := by
        unfold tE
        rw [if_neg h1, if_pos h2]
      obtain ⟨-, -, c, -⟩ := zrun_rng (q := tSm T) hb.2
      obtain ⟨a, b, -⟩ := tWr_rng (T := T) (tB T n p) (tE T n p - tB T n p).toNat (fun j h0 h1 => c j h0 (by rw [← e]; omega))
      exact ⟨a, b⟩
    · omega
theorem tK_rng : 0 ≤ tK T n p ∧ tK T n p ≤ 4 := by
  unfold tK
  (repeat' split) <;> omega
end TK
/-! reading: where the token at hand is sought from, whether the text is wrong, where it is, the draft -/
abbrev zTx : Type := Int × Int × Int × (Int → Int)
section PR
variable (T : Int → Int) (n : Int)
def pTk (x : zTx) (c : Prop) [Decidable c] : zTx := if x.2.1 ≠ 0 then x else if c then (tE T n x.1, 0, x.2.2.1, x.2.2.2) else (x.1, 1, tB T n x.1, x.2.2.2)
def pNx (x : zTx) : zTx := (tE T n x.1, x.2)
def pSt (x : zTx) (D : Int → Int) : zTx := (x.1, x.2.1, x.2.2.1, D)
abbrev pIs (x : zTx) (v : Int) : Prop := tK T n x.1 = 1 ∧ tW T n x.1 = v
abbrev pNc (x : zTx) (lo hi : Int) : Prop := tK T n x.1 = 2 ∧ (lo ≤ tV T n x.1 ∧ tV T n x.1 ≤ hi)
def pNv (x : zTx) (lo hi : Int) : Int := if x.2.1 = 0 ∧ pNc T n x lo hi then tV T n x.1 else lo
def pNs (x : zTx) (lo hi : Int) : zTx := pTk T n x (pNc T n x lo hi)
def pCell (c : Int) : Int := if c = 102 then 0 else if c = 119 then 1 else if c = 104 then 2 else if c = 112 then 13 else -1
/-- whether the first k letters from b on are cells -/
def pCr (b : Int) : Nat → Prop
  | 0 => True
  | k + 1 => pCr b k ∧ 0 ≤ pCell (T (b + k))
abbrev pAre (x : zTx) : Prop := (tK T n x.1 = 1 ∧ tE T n x.1 - tB T n x.1 = x.2.2.2 0) ∧ zfst (fun j => pCell (T (tB T n x.1 + j)) < 0) (tE T n x.1 - tB T n x.1).toNat < 0
def pRowD (D : Int → Int) (b y k : Int) : Int → Int := fun j => if 30 + 12 * y ≤ j ∧ j < 30 + 12 * y + k then pCell (T (b + (j - (30 + 12 * y)))) else D j
def pR3 (x : zTx) : zTx := pTk T n (pTk T n x (pAre T n x)) (tK T n (pTk T n x (pAre T n x)).1 = 3)
def pR1 (y : Int) (x : zTx) : zTx := if pAre T n x then pR3 T n (pSt x (pRowD T x.2.2.2 (tB T n x.1) y (x.2.2.2 0))) else pR3 T n x
def pRow (y : Int) (x : zTx) : zTx := if (pTk T n x (pIs T n x 13550)).2.1 ≠ 0 then pTk T n x (pIs T n x 13550) else pR1 T n y (pTk T n x (pIs T n x 13550))
def pRows : Nat → zTx → zTx
  | 0, x => x
  | k + 1, x => pRow T n k (pRows k x)
def pF3 (x : zTx) (h f : Int) : zTx := if x.2.1 = 0 ∧ tK T n x.1 = 3 then pSt (pTk T n x (tK T n x.1 = 3)) (zp x.2.2.2 (6 + h) f) else pTk T n x (tK T n x.1 = 3)
def pFog (x : zTx) : zTx := pF3 T n (pNs T n (pNs T n (pNx T n x) 0 23) 0 9) (pNv T n (pNx T n x) 0 23) (pNv T n (pNs T n (pNx T n x) 0 23) 0 9)
def pL8 (x : zTx) (u v b i f : Int) : zTx := if x.2.1 = 0 ∧ tK T n x.1 = 3 then pSt (pTk T n x (tK T n x.1 = 3)) (zp (sAddL x.2.2.2 u v b i) (174 + 5 * (sAddL x.2.2.2 u v b i 4 - 1) + 4) f) else pTk T n x (tK T n x.1 = 3)
def pL6 (x : zTx) (u v b i : Int) : zTx := if (pTk T n x (pIs T n x 407354 ∨ pIs T n x 3217595)).2.1 = 0 ∧ pIs T n (pTk T n x (pIs T n x 407354 ∨ pIs T n x 3217595)) 279875 then
    pL8 T n (pNs T n (pNx T n (pTk T n x (pIs T n x 407354 ∨ pIs T n x 3217595))) 0 (x.2.2.2 4 - 1)) u v b i (pNv T n (pNx T n (pTk T n x (pIs T n x 407354 ∨ pIs T n x 3217595))) 0 (x.2.2.2 4 - 1))
  else pL8 T n (pTk T n x (pIs T n x 407354 ∨ pIs T n x 3217595)) u v b i (-1)
def pL4 (x : zTx) (u v : Int) : zTx := pL6 T n (pNs T n x 0 9) u v (pNv T n x 0 9) (zb (pIs T n (pNs T n x 0 9) 407354))
abbrev pLc (x : zTx) (u : Int) : Prop := tK T n x.1 = 2 ∧ tV T n x.1 < x.2.2.2 1 ∧ x.2.2.2 (30 + 12 * tV T n x.1 + u) ≠ 1 ∧ sLOn x.2.2.2 u (tV T n x.1) < 0
def pL3 (x : zTx) (u : Int) : zTx := if x.2.1 = 0 ∧ pLc T n x u then pL4 T n (pTk T n x (pLc T n x u)) u (tV T n x.1) else pTk T n x (pLc T n x u)
def pL2 (x : zTx) : zTx := pL3 T n (pNs T n x 0 (x.2.2.2 0 - 1)) (pNv T n x 0 (x.2.2.2 0 - 1))
def pLight (x : zTx) : zTx := if x.2.1 = 0 ∧ x.2.2.2 4 < 8 then pL2 T n (pTk T n x (x.2.2.2 4 < 8)) else pTk T n x (x.2.2.2 4 < 8)
abbrev pWc (x : zTx) (u : Int) : Prop := tK T n x.1 = 2 ∧ tV T n x.1 < x.2.2.2 1 ∧ x.2.2.2 (30 + 12 * tV T n x.1 + u) ≠ 1 ∧ x.2.2.2 (30 + 12 * tV T n x.1 + u) ≠ 2
def pW4 (x : zTx) (u v : Int) : zTx := if x.2.1 = 0 ∧ tK T n x.1 = 3 then pSt (pTk T n x (tK T n x.1 = 3)) (sAddW x.2.2.2 u v) else pTk T n x (tK T n x.1 = 3)
def pW3 (x : zTx) (u : Int) : zTx := if x.2.1 = 0 ∧ pWc T n x u then pW4 T n (pTk T n x (pWc T n x u)) u (tV T n x.1) else pTk T n x (pWc T n x u)
def pW2 (x : zTx) : zTx := pW3 T n (pNs T n x 0 (x.2.2.2 0 - 1)) (pNv T n x 0 (x.2.2.2 0 - 1))
def pWalker (x : zTx) : zTx := if x.2.1 = 0 ∧ x.2.2.2 5 < 6 then pW2 T n (pTk T n x (x.2.2.2 5 < 6)) else pTk T n x (x.2.2.2 5 < 6)
/-- so long as a word stands there and the text is not wrong -/
def pLoop (v : Int) (f : zTx → zTx) : Nat → zTx → zTx
  | 0, x => x
  | k + 1, x => if x.2.1 = 0 ∧ pIs T n x v then pLoop v f k (f x) else x
def pH1 (x : zTx) : zTx := pSt (pNs T n x 2 12) (zp x.2.2.2 0 (pNv T n x 2 12))
def pH2 (x : zTx) : zTx := pSt (pNs T n x 2 12) (zp x.2.2.2 1 (pNv T n x 2 12))
def pH3 (x : zTx) : zTx := pSt (pNs T n x 0 20) (zp x.2.2.2 2 (pNv T n x 0 20))
def pSemi (x : zTx) : zTx := pTk T n x (tK T n x.1 = 3)
def pHead (x : zTx) : zTx := pSemi T n (pH3 T n (pTk T n (pH2 T n (pH1 T n (pTk T n x (pIs T n x 6942059)))) (pIs T n (pH2 T n (pH1 T n (pTk T n x (pIs T n x 6942059)))) 1834209)))
def pText (x : zTx) : zTx :=
  let x1 := pHead T n x
  let x2 := pRows T n (x1.2.2.2 1).toNat x1
  let x3 := pLoop T n 4786 (pFog T n) 802 x2
  let x4 := pLoop T n 6559778 (pLight T n) 802 x3
  let x5 := pLoop T n 5837583086019 (pWalker T n) 802 x4
  if x5.2.1 = 0 ∧ tK T n x5.1 ≠ 0 then pTk T n x5 False else x5
end PR
