/-! The reference model: the calls that change its row (printed by wip/whole/src23.py). -/
/-- the model after the row was kept for an undo -/
def zPs (G G' : GM) : Prop := (∀ k, k ≠ 230 → k ≠ 231 → k ≠ 233 → k ≠ 234 → k ≠ 238 → k ≠ 239 → G' k = G k) ∧ (∀ j, j ≠ 6 → j ≠ 13 → j ≠ 14 → G' 230 j = G 230 j) ∧ G' 230 6 = min (G 230 6 + 1) 8 ∧
  (∀ j, 0 ≤ j → j < 256 → G' 234 (256 * (G' 230 6 - 1) + j) = G 231 j) ∧ (∀ i j, 0 ≤ i → i < G' 230 6 - 1 → 0 ≤ j → j < 256 → G' 234 (256 * i + j) = G 234 (256 * (i + (G 230 6 + 1 - G' 230 6)) + j))
section PS
variable {G G1 G2 F : GM} {t t0 v : Int} {n : Nat} {s' : Int → Int}
theorem zPs_w {Y : Int → Int} (h : zPs G1 G2) : zPs G1 (zk G2 231 Y) := by
  obtain ⟨h1, h2, h3, h4, h5⟩ := h
  have e0 : zk G2 231 Y 230 = G2 230 := zk_ne (by decide)
  have e4 : zk G2 231 Y 234 = G2 234 := zk_ne (by decide)
  unfold zPs
  rw [e0, e4]
  exact ⟨fun k a b c d e f => (zk_ne b).trans (h1 k a b c d e f), h2, h3, h4, h5⟩
theorem zPs_b {A B : Int → Int} {f l : Int} (h : zPs G1 G2) : zPs G1 (zBf G2 A B f l) := by
  obtain ⟨h1, h2, h3, h4, h5⟩ := h
  have e0 : zBf G2 A B f l 230 6 = G2 230 6 := zBf_f ⟨by decide, by decide⟩
  have e4 : zBf G2 A B f l 234 = G2 234 := zBf_o ⟨by decide, by decide, by decide⟩
  unfold zPs
  rw [e0, e4]
  exact ⟨fun k a b c d e f => (zBf_o ⟨a, e, f⟩).trans (h1 k a b c d e f), fun j a b c => (zBf_f ⟨b, c⟩).trans (h2 j a b c), h3, h4, h5⟩
def zSu (G F : GM) (n : Nat) (q : Int × Int) (s' : Int → Int) : Zq := fun o G' F' n' => o = .inl (some (.int (zi q.2))) ∧ F' = F ∧ n' = n ∧ ((q.1 ≠ 0 ∧ zMk G G' q.1) ∨ (q.1 = 0 ∧ ∃ G1, zMk G G1 0 ∧ zPs G1 G' ∧ G' 231 = s'))
theorem zSu_ok {q : Int × Int} (hm : zMk G G1 0) (hP : zPs G1 G2) (hq : q = (0, v)) (hs : G2 231 = s') : zSu G F n q s' (.inl (some (.int (zi v)))) G2 F n := by
  subst hq
  exact ⟨rfl, rfl, rfl, Or.inr ⟨rfl, G1, hm, hP, hs⟩⟩
theorem zSu_no {q : Int × Int} (hm : zMk G G1 t0) (hq : q = (t, 0)) (ht : t ≠ 0) : zSu G F n q s' (.inl (some (.int (zi 0)))) (zk G1 230 (zp (G1 230) 10 t)) F n := by
  subst hq
  exact ⟨rfl, rfl, rfl, Or.inl ⟨ht, zMk_t hm⟩⟩
end PS
def q_setClearness (s : Int → Int) (c : Int) : Int × Int := if 0 ≤ c ∧ c ≤ 20 then (0, s 2) else (1, 0)
def q_setFog (s : Int → Int) (h f : Int) : Int × Int := if 0 ≤ h ∧ h ≤ 23 then (if 0 ≤ f ∧ f ≤ 9 then (0, s (6 + h)) else (2, 0)) else (1, 0)
def q_clearSuccessor (s : Int → Int) (l : Int) : Int × Int := if 0 ≤ l ∧ l ≤ s 4 - 1 then (if s (174 + 5 * l + 4) < 0 then (2, 0) else (0, s (174 + 5 * l + 4))) else (1, 0)
def q_setTarget (s : Int → Int) (w l : Int) : Int × Int := if sBoth s w l then (if s (214 + 7 * w + 2) ≠ 0 then (2, 0) else (0, sFarL (zp s (214 + 7 * w + 3) l) w l)) else (1, 0)
def q_layPlank (s : Int → Int) (x y q : Int) : Int × Int := if sIn s x y then (if 1 ≤ q ∧ q ≤ 9 then (if s (30 + 12 * y + x) = 0 ∨ s (30 + 12 * y + x) = 2 then (3, 0) else (0, sPlanks (zp s (30 + 12 * y + x) (10 + q)))) else (2, 0)) else (1, 0)
def sAddL (s : Int → Int) (x y b c : Int) : Int → Int := zp (zp (zp (zp (zp (zp s (174 + 5 * s 4 + 0) x) (174 + 5 * s 4 + 1) y) (174 + 5 * s 4 + 2) b) (174 + 5 * s 4 + 3) c) (174 + 5 * s 4 + 4) (-1)) 4 (s 4 + 1)
def sAddW (s : Int → Int) (x y : Int) : Int → Int := fun j => if j = 5 then s 5 + 1 else if j = 214 + 7 * s 5 + 3 then -1 else if j = 214 + 7 * s 5 + 1 then y else if j = 214 + 7 * s 5 + 0 then x else if 214 + 7 * s 5 ≤ j ∧ j < 214 + 7 * s 5 + 7 then 0 else s j
def q_addLight (s : Int → Int) (x y b : Int) : Int × Int := if sIn s x y then (if 0 ≤ b ∧ b ≤ 9 then (if s 4 = 8 ∨ s (30 + 12 * y + x) = 1 ∨ 0 ≤ sLOn s x y then (3, 0) else (0, s 4)) else (2, 0)) else (1, 0)
def q_addTraveller (s : Int → Int) (x y : Int) : Int × Int := if sIn s x y then (if s 5 = 6 ∨ s (30 + 12 * y + x) = 1 ∨ s (30 + 12 * y + x) = 2 then (2, 0) else (0, s 5)) else (1, 0)
noncomputable def q_tick (s : Int → Int) (q : Int) : Int × Int := if 1 ≤ q ∧ q ≤ 100 then (if 9999 < s 3 + q then (2, 0) else (0, sCount (sTicks s q.toNat) 1 - sCount s 1)) else (1, 0)
