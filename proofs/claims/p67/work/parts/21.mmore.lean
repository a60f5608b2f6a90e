/-! The reference model: more calls (printed by wip/whole/src21.py). -/
theorem zi_nat (k : Nat) : zi (k : Int) = nI k := Int32.ofInt_eq_ofNat
theorem zhas_bt {m l : Int} (h0 : 0 ≤ l) (h1 : l < 31) : zhas m l ↔ bt (zi m) l.toNat = true := by
  obtain ⟨k, rfl⟩ : ∃ k : Nat, l = k := ⟨l.toNat, by omega⟩
  have e1 : zi (zshr m k) = zi m >>> (nI k &&& 31) := by
    unfold zshr
    rw [zi_of, zi_nat]
  have e2 : zand (zshr m k) 1 = (zi m >>> (nI k &&& 31) &&& 1).toInt := by
    unfold zand
    rw [e1, ← zi_1]
  have e3 : bt (zi m >>> (nI k &&& 31)) 0 = bt (zi m) k := by
    rw [b_sshr k (by omega) _ (by omega), if_pos (by omega), Nat.add_zero]
  show zand (zshr m k) 1 = 1 ↔ _
  rw [e2, Int.toNat_natCast, ← e3]
  generalize zi m >>> (nI k &&& 31) = a
  constructor
  · intro h
    have h1 : a &&& 1 = 1 := Int32.toInt_inj.mp (h.trans (by decide +kernel : (1 : Int) = (1 : Int32).toInt))
    have h2 := b_and a 1 0
    rw [h1, bt_1 0 (by decide)] at h2
    cases hb : bt a 0 with
    | true => rfl
    | false =>
      rw [hb] at h2
      exact absurd h2 (by decide)
  · intro h
    have h1 : a &&& 1 = 1 := b_ext (fun i hi => by
      rw [b_and, bt_1 i hi]
      by_cases e : i = 0
      · subst e
        rw [h]
        rfl
      · rw [decide_eq_false e, Bool.and_false])
    rw [h1]
    decide +kernel
theorem zhas_add {m l j : Int} (hl : 0 ≤ l ∧ l < 31) (hj : 0 ≤ j ∧ j < 31) : zhas (zadd m l) j ↔ zhas m j ∨ j = l := by
  rw [zhas_bt hj.1 hj.2, zhas_bt hj.1 hj.2]
  obtain ⟨k, rfl⟩ : ∃ k : Nat, l = k := ⟨l.toNat, by omega⟩
  obtain ⟨i, rfl⟩ : ∃ i : Nat, j = i := ⟨j.toNat, by omega⟩
  have e1 : zi (zadd m k) = zi m ||| (zi 1 <<< (nI k &&& 31)) := by
    unfold zadd zor zshl
    rw [zi_of, zi_of, zi_nat]
  have hb : bt (zi 1 <<< (nI k &&& 31)) i = decide (i = k) := by
    rw [b_shl k (by omega) _ (by omega), ← zi_1, bt_1 (i - k) (by omega)]
    rcases Nat.lt_or_ge i k with h | h
    · rw [decide_eq_false (by omega : ¬ k ≤ i), decide_eq_false (by omega : ¬ i = k)]
      rfl
    · by_cases e : i = k
      · rw [decide_eq_true (by omega : k ≤ i), decide_eq_true (by omega : i - k = 0), decide_eq_true e]
        rfl
      · rw [decide_eq_true (by omega : k ≤ i), decide_eq_false (by omega : ¬ i - k = 0), decide_eq_false e]
        rfl
  rw [e1, Int.toNat_natCast, b_or, hb, Bool.or_eq_true, decide_eq_true_iff]
  exact ⟨fun h => h.imp id (fun e => by omega), fun h => h.imp id (fun e => by omega)⟩
theorem zhas_0 {l : Int} (h0 : 0 ≤ l) (h1 : l < 31) : ¬ zhas 0 l := by
  rw [zhas_bt h0 h1, ← zi_0, b_0]
  decide
/-- whether a light leads astray: by how many lights may still be looked at, the light, those seen -/
def sAst (s : Int → Int) : Nat → Int → Int → Int
  | 0, _, _ => 0
  | k + 1, c, seen => if c < 0 then 0 else if s (174 + 5 * c + 3) = 0 ∨ zhas seen c then 1 else sAst s k (s (174 + 5 * c + 4)) (zadd seen c)
abbrev zSn (seen : Int) (j : Int) : Prop := (0 ≤ j ∧ j < 8) ∧ zhas seen j
theorem zSn_add {seen c : Int} (h0 : 0 ≤ c) (h1 : c < 8) (h : ¬ zhas seen c) : zcnt (zSn (zadd seen c)) 8 = zcnt (zSn seen) 8 + 1 := by
  obtain ⟨k, hk⟩ : ∃ k : Nat, c = k := ⟨c.toNat, by omega⟩
  refine zcnt_add k (fun hh => ?_) ?_ (fun j hj => ?_) 8 (by omega)
  · rw [← hk] at hh
    exact h hh.2
  · rw [← hk]
    exact ⟨⟨h0, h1⟩, (zhas_add ⟨h0, by omega⟩ ⟨h0, by omega⟩).mpr (Or.inr rfl)⟩
  · constructor
    · intro hh
      exact ⟨hh.1, (zhas_add ⟨h0, by omega⟩ ⟨hh.1.1, by omega⟩).mpr (Or.inl hh.2)⟩
    · intro hh
      refine ⟨hh.1, ((zhas_add ⟨h0, by omega⟩ ⟨hh.1.1, by omega⟩).mp hh.2).elim id (fun e => ?_)⟩
      exact absurd (e.trans hk) hj
theorem sAst_01 (s : Int → Int) : ∀ (k : Nat) (c seen : Int), sAst s k c seen = 0 ∨ sAst s k c seen = 1 := by
  intro k
  induction k with
  | zero => intro c seen; exact Or.inl rfl
  | succ k ih =>
    intro c seen
    unfold sAst
    split
    · exact Or.inl rfl
    · split
      · exact Or.inr rfl
      · exact ih _ _
def sPlankRow (s : Int → Int) (y : Int) : Int := zcnt (fun x => 10 < s (30 + 12 * y + x)) (s 0).toNat
def sPlanks (s : Int → Int) : Int := zsum (sPlankRow s) (s 1).toNat
theorem zBI_go {W H : Int} {wt : Int → Prop} [DecidablePred wt] {go go' : Int → Prop} {mk : Prop} {c dn tl : Int} {q st : Int → Int} (h : zBI W H wt go mk c dn tl q st) (e : ∀ p, zVal W H p → (go p ↔ go' p)) : zBI W H wt go' mk c dn tl q st := by
  obtain ⟨h1, h2, h3, h4, h5, h6, h7, h8, h8', h9, h10⟩ := h
  exact ⟨h1, h2, h3, h4, h5, fun p pv => (e p pv).symm.trans (h6 p pv), h7, h8, h8', h9, h10⟩
theorem zDist_go {W H : Int} {wt : Int → Prop} {go go' : Int → Prop} {mk : Prop} {st : Int → Int} (h : zDist W H wt go mk st) (e : ∀ p, zVal W H p → (go p ↔ go' p)) : zDist W H wt go' mk st := ⟨h.1, fun p pv => (e p pv).symm.trans (h.2.1 p pv), h.2.2⟩
/-- the huts before a place -/
abbrev zHu (s : Int → Int) (t p : Int) : Prop := zVal (s 0) (s 1) p ∧ s (30 + p) = 2 ∧ p < t
noncomputable def zsh (s : Int → Int) : Int → Int := @dite _ (∃ st, zDist (s 0) (s 1) (mWt s) (fun p => s (30 + p) = 2) False st) (Classical.propDecidable _) (fun h => Classical.choose h) (fun _ _ => -1)
theorem zsh_spec {s st : Int → Int} (h : zDist (s 0) (s 1) (mWt s) (fun p => s (30 + p) = 2) False st) : zDist (s 0) (s 1) (mWt s) (fun p => s (30 + p) = 2) False (zsh s) := by
  unfold zsh
  rw [dif_pos ⟨st, h⟩]
  exact Classical.choose_spec (⟨st, h⟩ : ∃ st, zDist (s 0) (s 1) (mWt s) (fun p => s (30 + p) = 2) False st)
theorem mOk_nx {s : Int → Int} (h : mOk s) (l : Int) (h0 : 0 ≤ l) (h1 : l < s 4) : s (174 + 5 * l + 4) < s 4 := (h.2.2.2.2.2.2.2.2.1 l h0 h1).2.2.2.2.2
theorem zW_0bi {N y ip m : Nat} {L : List Value} {G F : GM} {n : Nat} {Q : Zq} {v : Int} (ht : ztab N y ip = some (.inr (0, 1, m))) (hv : v = 0 ∨ v = 1) (k : Q (.inl (some (.int (zi v)))) G F n) : zW N y ip L [.int (zi v)] G F n Q := zW_0b ht hv k
def q_leadsAstray (s : Int → Int) (l : Int) : Int × Int := if 0 ≤ l ∧ l ≤ s 4 - 1 then (0, sAst s 9 l 0) else (1, 0)
def q_followers (s : Int → Int) (l : Int) : Int × Int := if 0 ≤ l ∧ l ≤ s 4 - 1 then (0, zcnt (fun w => s (214 + 7 * w + 2) = 0 ∧ s (214 + 7 * w + 3) = l) (s 5).toNat) else (1, 0)
def q_isTrueLight (s : Int → Int) (l : Int) : Int × Int := if 0 ≤ l ∧ l ≤ s 4 - 1 then (0, zb (s (174 + 5 * l + 3) = 1)) else (1, 0)
theorem q_isTrueLight_2 (s : Int → Int) (l : Int) : q_isTrueLight s l = ((q_light s l 3).1, zb ((q_light s l 3).2 = 1)) := by
  unfold q_isTrueLight q_light
  by_cases e : 0 ≤ l ∧ l ≤ s 4 - 1
  · rw [if_pos e, if_pos e]
  · rw [if_neg e, if_neg e, zb_f (by decide)]
theorem q_light_rng {s : Int → Int} {l : Int} (h : mOk s) (f : Int) (hr : ∀ j, zr (s j)) : zr (q_light s l f).2 := by
  unfold q_light
  split
  · exact hr _
  · exact zr0
abbrev sBoth (s : Int → Int) (w l : Int) : Prop := (0 ≤ w ∧ w ≤ s 5 - 1) ∧ (0 ≤ l ∧ l ≤ s 4 - 1)
def q_isBoth (s : Int → Int) (w l : Int) : Int × Int := if sBoth s w l then (0, 1) else (1, 0)
def q_hasPassed (s : Int → Int) (w l : Int) : Int × Int := if sBoth s w l then (0, zb (zhas (s (214 + 7 * w + 4)) l)) else (1, 0)
def q_distrusts (s : Int → Int) (w l : Int) : Int × Int := if sBoth s w l then (0, zb (zhas (s (214 + 7 * w + 5)) l)) else (1, 0)
def q_sees (s : Int → Int) (w l : Int) : Int × Int := if sBoth s w l then (0, zb (sSeen s w l)) else (1, 0)
