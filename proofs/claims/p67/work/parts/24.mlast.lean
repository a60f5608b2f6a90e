/-! The reference model: the rest but reading and printing (printed by wip/whole/src24.py). -/
/-! rows outside their 256 places stay -/
def sOu (s t : Int → Int) : Prop := ∀ j, j < 0 ∨ 256 ≤ j → t j = s j
section OU
variable {s : Int → Int} {w l x y : Int}
theorem sOu_r : sOu s s := fun _ _ => rfl
theorem sOu_t {t u : Int → Int} (h : sOu s t) (h' : sOu t u) : sOu s u := fun j hj => (h' j hj).trans (h j hj)
theorem sOu_p {i v : Int} (h : 0 ≤ i ∧ i < 256) : sOu s (zp s i v) := fun j hj => zp_ne (by omega)
theorem sLeave_ou (hx : 0 ≤ x ∧ x < 12) (hy : 0 ≤ y ∧ y < 12) : sOu s (sLeave s x y) := by
  unfold sLeave
  split
  · exact sOu_r
  · exact sOu_p (by omega)
theorem sSinkR_ou (hw : 0 ≤ w ∧ w < 6) : ∀ k : Nat, (k : Int) ≤ 6 → sOu s (sSinkR s w l k) := by
  intro k
  induction k with
  | zero =>
    intro _
    exact sOu_t (sOu_p (by omega)) (sOu_p (by omega))
  | succ k ih =>
    intro hk
    have := ih (by omega)
    unfold sSinkR
    split
    · exact this
    · split
      · exact sOu_t this (sOu_t (sOu_p (by omega)) (sOu_p (by omega)))
      · exact sOu_t this (sOu_p (by omega))
theorem sSettle_ou (h : mOk s) (hw : 0 ≤ w ∧ w < s 5) : sOu s (sSettle s w l) := by
  have h5 := h.2.2.2.2.2.1
  unfold sSettle
  split
  · exact sOu_t (sOu_p (by omega)) (sOu_p (by omega))
  · split
    · split
      · exact sSinkR_ou (by omega) _ (by omega)
      · exact sOu_t (sOu_p (by omega)) (sOu_p (by omega))
    · exact sOu_r
theorem sMoved_ou (h : mOk s) (hw : 0 ≤ w ∧ w < s 5) : sOu s (sMoved s w l) := by
  have h5 := h.2.2.2.2.2.1
  have hb := mOk_hb h
  obtain ⟨⟨x0, x1⟩, ⟨y0, y1⟩, -⟩ := h.2.2.2.2.2.2.2.2.2 w hw.1 hw.2
  exact sOu_t (sOu_t (sOu_p (by omega)) (sOu_t (sOu_p (by omega)) (sOu_p (by omega)))) (sLeave_ou ⟨x0, by omega⟩ ⟨y0, by omega⟩)
theorem sAct_ou (h : mOk s) (hw : 0 ≤ w ∧ w < s 5) (h6 : s (214 + 7 * w + 6) < s 3) : sOu s (sAct s w) := by
  have h5 := h.2.2.2.2.2.1
  obtain ⟨k1, z1⟩ := sAim_ok h hw.1 hw.2
  obtain ⟨a1, a2⟩ := sAim_lt h hw.1 hw.2
  have o1 : sOu s (sAim s w) := by
    unfold sAim
    split
    · exact sOu_p (by omega)
    · exact sOu_r
  have hw1 : 0 ≤ w ∧ w < sAim s w 5 := ⟨hw.1, by rw [z1.2.2.2.2.2.1]; exact hw.2⟩
  have h61 : sAim s w (214 + 7 * w + 6) < sAim s w 3 := by rw [a2, z1.2.2.2.1]; exact h6
  have a3 : sAim s w (214 + 7 * w + 3) < sAim s w 4 := by rw [z1.2.2.2.2.1]; exact a1
  unfold sAct sAct1
  generalize sAim s w (214 + 7 * w + 3) = l at a3 ⊢
  generalize sAim s w = s1 at k1 o1 hw1 h61 a3 ⊢
  refine sOu_t o1 ?_
  split
  · exact sOu_r
  · rename_i hl0
    split
    · exact sSettle_ou k1 hw1
    · rename_i hon
      split
      · rename_i hf
        have hl' : 0 ≤ l ∧ l < s1 4 := ⟨by omega, a3⟩
        obtain ⟨k2, z2⟩ := sMoved_ok k1 hw1.1 hw1.2 hl' (zst_l k1 hl') hon hf h61
        exact sOu_t (sMoved_ou k1 hw1) (sSettle_ou k2 ⟨hw1.1, by rw [z2.2.2.2.2.2.1]; exact hw1.2⟩)
      · have := k1.2.2.2.2.2.1
        exact sOu_t (sOu_p (by omega)) (sOu_p (by omega))
theorem sTickR_ou (h : mOk s) (ht : s 3 < 30000) : ∀ k : Nat, (k : Int) ≤ s 5 → sOu s (sTickR s k) := by
  intro k
  induction k with
  | zero =>
    intro _
    exact sOu_p (by omega)
  | succ k ih =>
    intro hk
    have o := ih (by omega)
    obtain ⟨k1, z1, g1⟩ := sTickR_ok h ht k (by omega)
    have h5 := h.2.2.2.2.2.1
    unfold sTickR
    split
    · have hw := (h.2.2.2.2.2.2.2.2.2 k (by omega) (by omega)).2.2.2.2
      refine sOu_t o (sAct_ou k1 ⟨by omega, by rw [z1.2.2.2.2.2.1, zp_ne (by omega)]; omega⟩ ?_)
      rw [g1 k (by omega) (by omega), z1.2.2.2.1, zp_eq]
      omega
    · exact o
theorem sTicks_ou (h : mOk s) : ∀ k : Nat, s 3 + k ≤ 30000 → sOu s (sTicks s k) := by
  intro k
  induction k with
  | zero => intro _; exact sOu_r
  | succ k ih =>
    intro hk
    obtain ⟨k1, z1⟩ := sTicks_ok h k (by omega)
    have h5 := k1.2.2.2.2.2.1
    have e3 : sTicks s k 3 = s 3 + k := by rw [z1.2.2.2.1, zp_eq]
    exact sOu_t (ih (by omega)) (sTickR_ou k1 (by omega) _ (by omega))
end OU
/-- the best clearness among the first k, and how many arrive with it -/
noncomputable def sBest (t : Int → Int) : Nat → Int × Int
  | 0 => (0, -1)
  | k + 1 => if sCount (sTicks (zp t 2 k) 300) 1 ≤ (sBest t k).2 then sBest t k else ((k : Int), sCount (sTicks (zp t 2 k) 300) 1)
theorem mOk_cl {s : Int → Int} {v : Int} (h : mOk s) (hv : 0 ≤ v ∧ v ≤ 20) : mOk (zp s 2 v) := by
  obtain ⟨a0, a1, a2, a3, a4, a5, hfog, hc, hl, hw⟩ := h
  have e : ∀ i, i ≠ 2 → zp s 2 v i = s i := fun i hi => zp_ne hi
  unfold mOk
  rw [e 0 (by omega), e 1 (by omega), zp_eq, e 3 (by omega), e 4 (by omega), e 5 (by omega)]
  refine ⟨a0, a1, hv, a3, a4, a5, ?_, ?_, ?_, ?_⟩
  · intro h h0 h1
    rw [e (6 + h) (by omega)]
    exact hfog h h0 h1
  · intro c c0 c1
    rw [e (30 + c) (by omega)]
    exact hc c c0 c1
  · intro l l0 l1
    have := hl l l0 l1
    unfold mLi at this ⊢
    rw [e (174 + 5 * l + 0) (by omega), e (174 + 5 * l + 1) (by omega), e (174 + 5 * l + 2) (by omega), e (174 + 5 * l + 3) (by omega), e (174 + 5 * l + 4) (by omega), e 0 (by omega), e 1 (by omega), e 4 (by omega)]
    exact this
  · intro w w0 w1
    have := hw w w0 w1
    unfold mWi at this ⊢
    rw [e (214 + 7 * w + 0) (by omega), e (214 + 7 * w + 1) (by omega), e (214 + 7 * w + 2) (by omega), e (214 + 7 * w + 3) (by omega), e (214 + 7 * w + 6) (by omega), e 0 (by omega), e 1 (by omega), e 3 (by omega), e 4 (by omega)]
    exact this
theorem sCount_rng (s : Int → Int) (q : Int) (h : 0 ≤ s 5 ∧ s 5 ≤ 6) : 0 ≤ sCount s q ∧ sCount s q ≤ 6 := by
  have := zcnt_rng (fun w => s (214 + 7 * w + 2) = q) (s 5).toNat
  unfold sCount
  omega
theorem sBest_rng (t : Int → Int) : ∀ k : Nat, (k : Int) ≤ 21 → (∀ i : Nat, (i : Int) ≤ 20 → 0 ≤ sTicks (zp t 2 i) 300 5 ∧ sTicks (zp t 2 i) 300 5 ≤ 6) → (0 ≤ (sBest t k).1 ∧ (sBest t k).1 ≤ 20) ∧ -1 ≤ (sBest t k).2 ∧ (sBest t k).2 ≤ 6 := by
  intro k
  induction k with
  | zero => intro _ _; exact ⟨⟨Int.le_refl 0, (show (0 : Int) ≤ 20 by decide)⟩, Int.le_refl (-1), (show (-1 : Int) ≤ 6 by decide)⟩
  | succ k ih =>
    intro hk h
    have i1 := ih (by omega) h
    have := sCount_rng (sTicks (zp t 2 k) 300) 1 (h k (by omega))
    unfold sBest
    split
    · exact i1
    · dsimp only
      generalize sCount (sTicks (zp t 2 k) 300) 1 = c at this ⊢
      omega
/-- the sign of a cell -/
def sWOn (s : Int → Int) (x y : Int) : Int := zfst (fun w => s (214 + 7 * w + 2) = 0 ∧ sFar s w x y = 0) (s 5).toNat
def sSign (s : Int → Int) (x y : Int) : Int := if 0 ≤ sWOn s x y then 48 + sWOn s x y else if 0 ≤ sLOn s x y then 42 else if s (30 + 12 * y + x) = 0 then 102 else if s (30 + 12 * y + x) = 1 then 119 else if s (30 + 12 * y + x) = 2 then 104 else 112
/-- the signs of a row, of the rows, behind what was printed -/
def sPrI (s : Int → Int) (y : Int) (b : (Int → Int) × Int) : Nat → (Int → Int) × Int
  | 0 => b
  | k + 1 => (zp (sPrI s y b k).1 (sPrI s y b k).2 (sSign s k y), (sPrI s y b k).2 + 1)
def sPrO (s : Int → Int) (b : (Int → Int) × Int) : Nat → (Int → Int) × Int
  | 0 => b
  | k + 1 => (zp (sPrI s k (sPrO s b k) (s 0).toNat).1 (sPrI s k (sPrO s b k) (s 0).toNat).2 10, (sPrI s k (sPrO s b k) (s 0).toNat).2 + 1)
theorem sPrI_len (s : Int → Int) (y : Int) (b : (Int → Int) × Int) (k : Nat) : (sPrI s y b k).2 = b.2 + k := by
  induction k with
  | zero => show b.2 = b.2 + ((0 : Nat) : Int); omega
  | succ k ih => show (sPrI s y b k).2 + 1 = _; omega
theorem sPrO_len (s : Int → Int) (b : (Int → Int) × Int) (h : 0 ≤ s 0 ∧ s 0 ≤ 12) (k : Nat) : b.2 ≤ (sPrO s b k).2 ∧ (sPrO s b k).2 ≤ b.2 + 13 * k := by
  induction k with
  | zero => show b.2 ≤ b.2 ∧ b.2 ≤ b.2 + 13 * ((0 : Nat) : Int); omega
  | succ k ih =>
    have := sPrI_len s k (sPrO s b k) (s 0).toNat
    show b.2 ≤ (sPrI s k (sPrO s b k) (s 0).toNat).2 + 1 ∧ (sPrI s k (sPrO s b k) (s 0).toNat).2 + 1 ≤ _
    omega
/-- four bytes of a word, five words: what an append lays behind the text -/
def sWord (a b c d e k : Int) : Int := if k < 4 then a else if k < 8 then b else if k < 12 then c else if k < 16 then d else e
def sByte (a b c d e k : Int) : Int := zand (zshr (sWord a b c d e k) (24 - 8 * (k % 4))) 255
def sApp (t : Int → Int) (n a b c d e k : Int) : Int → Int := fun j => if n ≤ j ∧ j < n + k then sByte a b c d e (j - n) else t j
theorem sApp_s (t : Int → Int) (n a b c d e : Int) {k : Int} (hk : 0 ≤ k) : zp (sApp t n a b c d e k) (n + k) (sByte a b c d e k) = sApp t n a b c d e (k + 1) := by
  funext j
  unfold zp sApp
  by_cases h : j = n + k
  · rw [if_pos h, if_pos (by omega), show j - n = k by omega]
  · rw [if_neg h]
    by_cases h2 : n ≤ j ∧ j < n + k
    · rw [if_pos h2, if_pos (by omega)]
    · rw [if_neg h2, if_neg (by omega)]
theorem mOk_n {s : Int → Int} {l v : Int} (h : mOk s) (h0 : 0 ≤ l) (h1 : l < s 4) (hv : -1 ≤ v ∧ v < s 4) : mOk (zp s (174 + 5 * l + 4) v) := by
  obtain ⟨a0, a1, a2, a3, a4, a5, hfog, hc, hl, hw⟩ := h
  have e : ∀ i, i ≠ 174 + 5 * l + 4 → zp s (174 + 5 * l + 4) v i = s i := fun i hi => zp_ne hi
  unfold mOk
  rw [e 0 (by omega), e 1 (by omega), e 2 (by omega), e 3 (by omega), e 4 (by omega), e 5 (by omega)]
  refine ⟨a0, a1, a2, a3, a4, a5, ?_, ?_, ?_, ?_⟩
  · intro h h0 h1
    rw [e (6 + h) (by omega)]
    exact hfog h h0 h1
  · intro c c0 c1
    rw [e (30 + c) (by omega)]
    exact hc c c0 c1
  · intro l' l0 l1
    have := hl l' l0 l1
    unfold mLi at this ⊢
    rw [e (174 + 5 * l' + 0) (by omega), e (174 + 5 * l' + 1) (by omega), e (174 + 5 * l' + 2) (by omega), e (174 + 5 * l' + 3) (by omega), e 0 (by omega), e 1 (by omega), e 4 (by omega)]
    refine ⟨this.1, this.2.1, this.2.2.1, this.2.2.2.1, ?_⟩
    by_cases q : l' = l
    · rw [q, zp_eq]
      exact hv
    · rw [e (174 + 5 * l' + 4) (by omega)]
      exact this.2.2.2.2
  · intro w w0 w1
    have := hw w w0 w1
    unfold mWi at this ⊢
    rw [e (214 + 7 * w + 0) (by omega), e (214 + 7 * w + 1) (by omega), e (214 + 7 * w + 2) (by omega), e (214 + 7 * w + 3) (by omega), e (214 + 7 * w + 6) (by omega), e 0 (by omega), e 1 (by omega), e 3 (by omega), e 4 (by omega)]
    exact this
def q_setSuccessor (s : Int → Int) (l f : Int) : Int × Int := if (0 ≤ l ∧ l ≤ s 4 - 1) ∧ (0 ≤ f ∧ f ≤ s 4 - 1) then (if l = f then (2, 0) else (0, zcnt (fun k => sAst (zp s (174 + 5 * l + 4) f) 9 k 0 = 1) (zp s (174 + 5 * l + 4) f 4).toNat)) else (1, 0)
def zUn (G F : GM) (n : Nat) (q : Int × Int) (P : GM → Prop) : Zq := fun o G' F' n' => o = .inl (some (.int (zi q.2))) ∧ F' = F ∧ n' = n ∧ ((q.1 ≠ 0 ∧ zMk G G' q.1) ∨ (q.1 = 0 ∧ P G'))
section UN
variable {G G1 G2 F : GM} {t t0 v : Int} {n : Nat} {P : GM → Prop}
theorem zUn_ok {q : Int × Int} (hq : q = (0, v)) (h : P G2) : zUn G F n q P (.inl (some (.int (zi v)))) G2 F n := by
  subst hq
  exact ⟨rfl, rfl, rfl, Or.inr ⟨rfl, h⟩⟩
theorem zUn_no {q : Int × Int} (hm : zMk G G1 t0) (hq : q = (t, 0)) (ht : t ≠ 0) : zUn G F n q P (.inl (some (.int (zi 0)))) (zk G1 230 (zp (G1 230) 10 t)) F n := by
  subst hq
  exact ⟨rfl, rfl, rfl, Or.inl ⟨ht, zMk_t hm⟩⟩
end UN
def q_undo (u : Int) : Int × Int := if u = 0 then (1, 0) else (0, u - 1)
def q_save (s : Int → Int) (c : Int) : Int × Int := if 0 ≤ c ∧ c ≤ 1 then (0, s 3) else (1, 0)
def q_restore (kept : Int → Int) (t : Int → Int) (c : Int) : Int × Int := if 0 ≤ c ∧ c ≤ 1 then (if kept c = 0 then (2, 0) else (0, t 3)) else (1, 0)
