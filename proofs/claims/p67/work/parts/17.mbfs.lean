/-! The reference model's search (printed by wip/whole/src17.py). -/
/-- the memory with the model's search done: its steps, its queue, the two ends of it -/
def zBf (G : GM) (A B : Int → Int) (f l : Int) : GM := zk (zk (zk G 238 A) 239 B) 230 (zp (zp (G 230) 13 f) 14 l)
section MS
variable {G : GM} {A B A' B' : Int → Int} {f l f' l' : Int}
theorem zBf_238 : zBf G A B f l 238 = A := rfl
theorem zBf_239 : zBf G A B f l 239 = B := rfl
theorem zBf_230 : zBf G A B f l 230 = zp (zp (G 230) 13 f) 14 l := rfl
theorem zBf_13 : zBf G A B f l 230 13 = f := rfl
theorem zBf_14 : zBf G A B f l 230 14 = l := rfl
theorem zBf_o {k : Nat} (h : k ≠ 230 ∧ k ≠ 238 ∧ k ≠ 239) : zBf G A B f l k = G k := by
  unfold zBf
  rw [zk_ne h.1, zk_ne h.2.2, zk_ne h.2.1]
theorem zBf_f {j : Int} (h : j ≠ 13 ∧ j ≠ 14) : zBf G A B f l 230 j = G 230 j := by
  rw [zBf_230, zp_ne h.2, zp_ne h.1]
theorem zBf_w238 : zk (zBf G A B f l) 238 A' = zBf G A' B f l := by
  funext a
  unfold zBf zk
  by_cases h : a = 238
  · subst h; rfl
  · simp [h]
theorem zBf_w239 : zk (zBf G A B f l) 239 B' = zBf G A B' f l := by
  funext a
  unfold zBf zk
  by_cases h : a = 239
  · subst h; rfl
  · simp [h]
theorem zBf_w13 : zk (zBf G A B f l) 230 (zp (zBf G A B f l 230) 13 f') = zBf G A B f' l := by
  rw [zBf_230, zp_sw (by decide : (14 : Int) ≠ 13), zp_zp]
  unfold zBf
  rw [zk_zk]
theorem zBf_w14 : zk (zBf G A B f l) 230 (zp (zBf G A B f l 230) 14 l') = zBf G A B f l' := by
  rw [zBf_230, zp_zp]
  unfold zBf
  rw [zk_zk]
theorem zBf_self : zBf G (G 238) (G 239) (G 230 13) (G 230 14) = G := by
  unfold zBf
  rw [zk_self, zk_self, zp_self, zp_self, zk_self]
theorem zBf_zBf : zBf (zBf G A B f l) A' B' f' l' = zBf G A' B' f' l' := by
  have e : zBf (zBf G A B f l) A' B' f' l' = zk (zk (zk (zBf G A B f l) 238 A') 239 B') 230 (zp (zp (zBf G A B f l 230) 13 f') 14 l') := rfl
  rw [e, zBf_w238, zBf_w239, zBf_230]
  have e2 : zp (zp (zp (zp (G 230) 13 f) 14 l) 13 f') 14 l' = zp (zp (G 230) 13 f') 14 l' := by
    rw [zp_sw (by decide : (14 : Int) ≠ 13), zp_zp, zp_zp]
  rw [e2]
  unfold zBf
  rw [zk_zk]
theorem zBf_r {r : Nat} {s : Int → Int} (h : r ≠ 230 ∧ r ≠ 238 ∧ r ≠ 239) : zk (zBf G A B f l) r s = zBf (zk G r s) A B f l := by
  funext a
  unfold zBf zk
  by_cases h1 : a = r
  · subst h1
    simp [h.1, h.2.1, h.2.2]
  · simp [h1, Ne.symm h.1]
end MS
theorem zp_fill {A : Int → Int} {k v : Int} (h : ∀ j, 0 ≤ j → j < k → A j = v) : ∀ j, 0 ≤ j → j < k + 1 → zp A k v j = v := by
  intro j j0 j1
  by_cases e : j = k
  · rw [e, zp_eq]
  · rw [zp_ne e]
    exact h j j0 (by omega)
abbrev mWt (s : Int → Int) (p : Int) : Prop := s (30 + p) = 1
def sStepBy (s st : Int → Int) (x y d : Int) : Int := if sIn s (x + zsx d) (y + zsy d) ∧ s (30 + 12 * (y + zsy d) + (x + zsx d)) ≠ 1 then st (12 * (y + zsy d) + (x + zsx d)) else -1
def sLeast (s st : Int → Int) (x y : Int) : Nat → Int
  | 0 => -1
  | k + 1 => if 0 ≤ sStepBy s st x y k ∧ (sLeast s st x y k < 0 ∨ sStepBy s st x y k + 1 < sLeast s st x y k) then sStepBy s st x y k + 1 else sLeast s st x y k
def sSteps (s st : Int → Int) (x y : Int) : Int := if 0 ≤ st (12 * y + x) then st (12 * y + x) else if s (30 + 12 * y + x) = 1 then sLeast s st x y 4 else -1
/-- a queue's head, said by its value -/
theorem zBI_addp {W H : Int} {wt : Int → Prop} [DecidablePred wt] {go : Int → Prop} {mk : Prop} {c dn tl p : Int} {q st : Int → Int} (hW : W ≤ 12) (hH : H ≤ 12) (h : zBI W H wt go mk c dn tl q st) (hp : q c = p) (hc : c < tl) (hd : dn < 4) (hin : zIn W H (znx p dn) (zny p dn)) (ht : st (znb p dn) = -1) (hw : ¬ wt (znb p dn)) :
    zBI W H wt go mk c (dn + 1) (tl + 1) (zp q tl (znb p dn)) (zp st (znb p dn) (st p + 1)) ∧ zp q tl (znb p dn) c = p := by
  subst hp
  exact ⟨zBI_add hW hH h hc hd hin ht hw, zp_ne (by omega)⟩
theorem zBI_skipp {W H : Int} {wt : Int → Prop} [DecidablePred wt] {go : Int → Prop} {mk : Prop} {c dn tl p : Int} {q st : Int → Int} (hW : W ≤ 12) (hH : H ≤ 12) (h : zBI W H wt go mk c dn tl q st) (hp : q c = p) (hc : c < tl) (hd : dn < 4) (hs : zIn W H (znx p dn) (zny p dn) → (wt (znb p dn) → mk) → 0 ≤ st (znb p dn)) : zBI W H wt go mk c (dn + 1) tl q st := by
  subst hp
  exact zBI_skip hW hH h hc hd hs
theorem znb_i (p d : Int) : 30 + 12 * (p / 12 + zsy d) + (p % 12 + zsx d) = 30 + znb p d := by
  show 30 + 12 * (p / 12 + zsy d) + (p % 12 + zsx d) = 30 + (12 * (p / 12 + zsy d) + (p % 12 + zsx d))
  omega
theorem sStepBy_rng {s st : Int → Int} (hb : (0 ≤ s 0 ∧ s 0 ≤ 12) ∧ 0 ≤ s 1 ∧ s 1 ≤ 12) (hst : ∀ p, zVal (s 0) (s 1) p → -1 ≤ st p ∧ st p ≤ 144) (x y d : Int) : -1 ≤ sStepBy s st x y d ∧ sStepBy s st x y d ≤ 144 := by
  unfold sStepBy
  split
  · rename_i h
    obtain ⟨⟨⟨h1, h2⟩, h3, h4⟩, -⟩ := h
    exact hst _ ⟨by omega, by omega, by omega⟩
  · omega
theorem sLeast_rng {s st : Int → Int} (hb : (0 ≤ s 0 ∧ s 0 ≤ 12) ∧ 0 ≤ s 1 ∧ s 1 ≤ 12) (hst : ∀ p, zVal (s 0) (s 1) p → -1 ≤ st p ∧ st p ≤ 144) (x y : Int) (k : Nat) : -1 ≤ sLeast s st x y k ∧ sLeast s st x y k ≤ 145 := by
  induction k with
  | zero => exact ⟨Int.le_refl (-1), by show (-1 : Int) ≤ 145; decide⟩
  | succ k ih =>
    have := sStepBy_rng hb hst x y k
    unfold sLeast
    split <;> omega
theorem sSteps_rng {s st : Int → Int} (hb : (0 ≤ s 0 ∧ s 0 ≤ 12) ∧ 0 ≤ s 1 ∧ s 1 ≤ 12) (hst : ∀ p, zVal (s 0) (s 1) p → -1 ≤ st p ∧ st p ≤ 144) {x y : Int} (hx : 0 ≤ x ∧ x < s 0) (hy : 0 ≤ y ∧ y < s 1) : -1 ≤ sSteps s st x y ∧ sSteps s st x y ≤ 145 := by
  have h1 := hst (12 * y + x) ⟨by omega, by omega, by omega⟩
  have h2 := sLeast_rng hb hst x y 4
  unfold sSteps
  (repeat' split) <;> omega
