/-! Texts as lists: where they stand, and the tokens that are read there. -/
/-- the list stands in T from p on -/
def At (T : Int → Int) (p : Int) (t : List Int) : Prop := ∀ k : Nat, k < t.length → T (p + k) = t.getD k 0
def lW (w : List Int) : Int := tWr (fun j => w.getD j.toNat 0) 0 w.length
section F0
variable {T : Int → Int} {n p v : Int} {pre w a b : List Int} {D : Int → Int}
theorem At_l (h : At T p (a ++ b)) : At T p a := fun k hk => by
  rw [h k (by rw [List.length_append]; omega), List.getD_eq_getElem?_getD, List.getElem?_append_left hk, ← List.getD_eq_getElem?_getD]
theorem At_r (h : At T p (a ++ b)) : At T (p + a.length) b := fun k hk => by
  have e := h (a.length + k) (by rw [List.length_append]; omega)
  rw [show p + (a.length : Int) + (k : Int) = p + ((a.length + k : Nat) : Int) by omega, e, List.getD_eq_getElem?_getD, List.getElem?_append_right (by omega), ← List.getD_eq_getElem?_getD, show a.length + k - a.length = k by omega]
theorem At_0 {x : Int} (h : At T p (x :: a)) : T p = x := by
  have := h 0 (Nat.succ_pos _)
  rw [show p + ((0 : Nat) : Int) = p by omega] at this
  exact this
theorem At_mem {P : Int → Prop} (h : At T p a) (hP : ∀ x, x ∈ a → P x) (j : Int) (h0 : p ≤ j) (h1 : j < p + a.length) : P (T j) := by
  obtain ⟨k, hk⟩ : ∃ k : Nat, j = p + (k : Int) := ⟨(j - p).toNat, by omega⟩
  have hl : k < a.length := by omega
  rw [hk, h k hl, List.getD_eq_getElem?_getD, List.getElem?_eq_getElem hl]
  exact hP _ (List.getElem_mem hl)
theorem zrun_at {q : Int → Prop} [DecidablePred q] {e : Int} (hpe : p ≤ e) (hen : e ≤ n) (hq : ∀ j, p ≤ j → j < e → q j) (hx : e < n → ¬ q e) : zrun q n p = e := by
  obtain ⟨r1, r2, r3, r4⟩ := zrun_rng (q := q) (n := n) (p := p) (by omega)
  by_cases h1 : zrun q n p < e
  · exact absurd (hq _ r1 h1) (r4 (by omega))
  · by_cases h2 : e < zrun q n p
    · exact absurd (r3 e hpe h2) (hx (by omega))
    · omega
theorem tWr_cong {T' : Int → Int} {b b' : Int} : ∀ k : Nat, (∀ j : Nat, j < k → T (b + j) = T' (b' + j)) → tWr T b k = tWr T' b' k := by
  intro k
  induction k with
  | zero => intro _; rfl
  | succ k ih =>
    intro h
    unfold tWr
    rw [ih (fun j hj => h j (by omega)), h k (by omega)]
theorem tVr_cong {T' : Int → Int} {b b' : Int} : ∀ k : Nat, (∀ j : Nat, j < k → T (b + j) = T' (b' + j)) → tVr T b k = tVr T' b' k := by
  intro k
  induction k with
  | zero => intro _; rfl
  | succ k ih =>
    intro h
    unfold tVr
    rw [ih (fun j hj => h j (by omega)), h k (by omega)]
theorem At_pre (h : At T p (pre ++ w)) (hp : ∀ x, x ∈ pre → x = 32 ∨ x = 10) (hn : p + pre.length ≤ n) (hx : p + pre.length < n → ¬ tBl T (p + pre.length)) : tB T n p = p + pre.length :=
  zrun_at (by omega) hn (fun j h0 h1 => At_mem (P := fun x => x = 32 ∨ x = 10) (At_l h) hp j h0 h1) hx
/-- a word -/
theorem tk_word (h : At T p (pre ++ w)) (hp : ∀ x, x ∈ pre → x = 32 ∨ x = 10) (hw : ∀ x, x ∈ w → 97 ≤ x ∧ x ≤ 122) (h0 : 0 < w.length) (hn : p + pre.length + w.length ≤ n) (hx : p + pre.length + w.length < n → ¬ tSm T (p + pre.length + w.length)) : tB T n p = p + pre.length ∧ tE T n p = p + pre.length + w.length ∧ tK T n p = 1 ∧ tW T n p = lW w := by
  have hA := At_r h
  have hs : ∀ j, p + pre.length ≤ j → j < p + pre.length + w.length → tSm T j := fun j h0 h1 => At_mem (P := fun x => 97 ≤ x ∧ x ≤ 122) hA hw j h0 h1
  have hs0 := hs (p + pre.length) (by omega) (by omega)
  have eB : tB T n p = p + pre.length := At_pre h hp (by omega) (fun _ hb => by
    unfold tSm at hs0
    unfold tBl at hb
    omega)
  have eE : tE T n p = p + pre.length + w.length := by
    unfold tE
    rw [eB, if_neg (by omega), if_pos hs0]
    exact zrun_at (by omega) hn hs hx
  refine ⟨eB, eE, ?_, ?_⟩
  · unfold tK
    rw [eB, if_neg (by omega), if_pos hs0]
  · unfold tW
    rw [eB, if_neg (by omega), if_pos hs0, eE, show (p + (pre.length : Int) + (w.length : Int) - (p + pre.length)).toNat = w.length by omega]
    refine tWr_cong _ (fun j hj => ?_)
    rw [hA j hj]
    show w.getD j 0 = w.getD ((0 : Int) + (j : Int)).toNat 0
    rw [show ((0 : Int) + (j : Int)).toNat = j by omega]
theorem wDig_v (hv : 0 ≤ v ∧ v < 100) : tVr (fun j => (wDig v).getD j.toNat 0) 0 (wDig v).length = v := by
  unfold wDig
  split
  · show (10 * 0 + (48 + v) - 48 : Int) = v
    omega
  · show (10 * (10 * 0 + (48 + v / 10) - 48) + (48 + v % 10) - 48 : Int) = v
    omega
theorem wDig_m (hv : 0 ≤ v ∧ v < 100) : ∀ x, x ∈ wDig v → 48 ≤ x ∧ x ≤ 57 := by
  unfold wDig
  split
  · intro x hx
    rw [List.mem_singleton] at hx
    omega
  · intro x hx
    rcases List.mem_cons.mp hx with h | h
    · omega
    · rw [List.mem_singleton] at h
      omega
theorem wDig_l : 0 < (wDig v).length ∧ (wDig v).length ≤ 2 := by
  unfold wDig
  split
  · exact ⟨Nat.succ_pos 0, Nat.le_succ 1⟩
  · exact ⟨Nat.succ_pos 1, Nat.le_refl 2⟩
/-- a number -/
theorem tk_numb (hv : 0 ≤ v ∧ v < 100) (h : At T p (pre ++ wDig v)) (hp : ∀ x, x ∈ pre → x = 32 ∨ x = 10) (hn : p + pre.length + (wDig v).length ≤ n) (hx : p + pre.length + (wDig v).length < n → ¬ tDg T (p + pre.length + (wDig v).length)) : tB T n p = p + pre.length ∧ tE T n p = p + pre.length + (wDig v).length ∧ tK T n p = 2 ∧ tV T n p = v := by
  have hA := At_r h
  obtain ⟨d0, d2⟩ := wDig_l (v := v)
  have hs : ∀ j, p + pre.length ≤ j → j < p + pre.length + (wDig v).length → tDg T j := fun j h0 h1 => At_mem (P := fun x => 48 ≤ x ∧ x ≤ 57) hA (wDig_m hv) j h0 h1
  have hs0 := hs (p + pre.length) (by omega) (by omega)
  have hns : ¬ tSm T (p + pre.length) := fun hb => by
    unfold tDg at hs0
    unfold tSm at hb
    omega
  have eB : tB T n p = p + pre.length := At_pre h hp (by omega) (fun _ hb => by
    unfold tDg at hs0
    unfold tBl at hb
    omega)
  have eE : tE T n p = p + pre.length + (wDig v).length := by
    unfold tE
    rw [eB, if_neg (by omega), if_neg hns, if_pos hs0]
    exact zrun_at (by omega) hn hs hx
  refine ⟨eB, eE, ?_, ?_⟩
  · unfold tK
    rw [eE, eB, if_neg (by omega), if_neg hns, if_pos hs0, if_neg (by omega)]
  · unfold tV
    rw [eB, if_neg (by omega), if_neg hns, if_pos hs0, eE, show (p + (pre.length : Int) + ((wDig v).length : Int) - (p + pre.length)).toNat = (wDig v).length by omega]
    refine (tVr_cong _ (fun j hj => ?_)).trans (wDig_v hv)
    rw [hA j hj]
    show (wDig v).getD j 0 = (wDig v).getD ((0 : Int) + (j : Int)).toNat 0
    rw [show ((0 : Int) + (j : Int)).toNat = j by omega]
/-- a semicolon; the end -/
theorem tk_semi (h : T p = 59) (hn : p < n) : tB T n p = p ∧ tE T n p = p + 1 ∧ tK T n p = 3 := by
  have hb : ¬ tBl T p := fun hb => by
    unfold tBl at hb
    omega
  have hs : ¬ tSm T p := fun hb => by
    unfold tSm at hb
    omega
  have hd : ¬ tDg T p := fun hb => by
    unfold tDg at hb
    omega
  have eB : tB T n p = p := zrun_e (Or.inr hb)
  refine ⟨eB, ?_, ?_⟩
  · unfold tE
    rw [eB, if_neg (by omega), if_neg hs, if_neg hd]
  · unfold tK
    rw [eB, if_neg (by omega), if_neg hs, if_neg hd, if_pos h]
theorem tk_end : tB T n n = n ∧ tK T n n = 0 := by
  have eB : tB T n n = n := zrun_e (Or.inl (Int.le_refl _))
  refine ⟨eB, ?_⟩
  unfold tK
  rw [if_pos eB]
/-! the reader's steps at good tokens -/
theorem rs_word (h : At T p (pre ++ w)) (hp : ∀ x, x ∈ pre → x = 32 ∨ x = 10) (hw : ∀ x, x ∈ w → 97 ≤ x ∧ x ≤ 122) (h0 : 0 < w.length) (hn : p + pre.length + w.length ≤ n) (hx : p + pre.length + w.length < n → ¬ tSm T (p + pre.length + w.length)) (hv : lW w = v) : pIs T n (p, 0, -1, D) v ∧ pTk T n (p, 0, -1, D) (pIs T n (p, 0, -1, D) v) = (p + pre.length + w.length, 0, -1, D) ∧ pNx T n (p, 0, -1, D) = (p + pre.length + w.length, 0, -1, D) := by
  obtain ⟨t1, t2, t3, t4⟩ := tk_word h hp hw h0 hn hx
  have hi : pIs T n (p, 0, -1, D) v := ⟨t3, t4.trans hv⟩
  refine ⟨hi, ?_, ?_⟩
  · unfold pTk
    rw [if_neg (fun h => h rfl), if_pos hi]
    dsimp only
    rw [t2]
  · unfold pNx
    dsimp only
    rw [t2]
theorem rs_numb {lo hi : Int} (hv : 0 ≤ v ∧ v < 100) (hl : lo ≤ v ∧ v ≤ hi) (h : At T p (pre ++ wDig v)) (hp : ∀ x, x ∈ pre → x = 32 ∨ x = 10) (hn : p + pre.length + (wDig v).length ≤ n) (hx : p + pre.length + (wDig v).length < n → ¬ tDg T (p + pre.length + (wDig v).length)) : pNs T n (p, 0, -1, D) lo hi = (p + pre.length + (wDig v).length, 0, -1, D) ∧ pNv T n (p, 0, -1, D) lo hi = v ∧ tK T n p = 2 ∧ tV T n p = v ∧ tE T n p = p + pre.length + (wDig v).length := by
  obtain ⟨t1, t2, t3, t4⟩ := tk_numb hv h hp hn hx
  have hi9 : pNc T n (p, 0, -1, D) lo hi := ⟨t3, by dsimp only; rw [t4]; exact hl⟩
  refine ⟨?_, ?_, t3, t4, t2⟩
  · unfold pNs pTk
    rw [if_neg (fun h => h rfl), if_pos hi9]
    dsimp only
    rw [t2]
  · unfold pNv
    rw [if_pos ⟨rfl, hi9⟩]
    exact t4
theorem rs_semi (h : T p = 59) (hn : p < n) : pTk T n (p, 0, -1, D) (tK T n p = 3) = (p + 1, 0, -1, D) ∧ tK T n p = 3 := by
  obtain ⟨t1, t2, t3⟩ := tk_semi h hn
  refine ⟨?_, t3⟩
  unfold pTk
  rw [if_neg (fun h => h rfl), if_pos t3]
  dsimp only
  rw [t2]
end F0
