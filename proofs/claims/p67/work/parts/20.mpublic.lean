/-! The reference model: ticks, and the simple calls (printed by wip/whole/src20.py). -/
/-- c places of a row, from p on, laid into another at q -/
def zlr (a b : Int → Int) (p q c : Int) : Int → Int := fun j => if q ≤ j ∧ j < q + c then a (p + (j - q)) else b j
theorem zlr_0 (a b : Int → Int) (p q : Int) : zlr a b p q 0 = b := by
  funext j
  unfold zlr
  rw [if_neg (by omega)]
theorem zlr_s (a b : Int → Int) (p q : Int) {c : Int} (hc : 0 ≤ c) : zp (zlr a b p q c) (q + c) (a (p + c)) = zlr a b p q (c + 1) := by
  funext j
  unfold zp zlr
  by_cases e : j = q + c
  · rw [if_pos e, if_pos (by omega), e, show p + (q + c - q) = p + c by omega]
  · rw [if_neg e]
    by_cases e2 : q ≤ j ∧ j < q + c
    · rw [if_pos e2, if_pos (by omega)]
    · rw [if_neg e2, if_neg (by omega)]
theorem zlr_in {a b : Int → Int} {p q c j : Int} (h : q ≤ j ∧ j < q + c) : zlr a b p q c j = a (p + (j - q)) := if_pos h
theorem zlr_out {a b : Int → Int} {p q c j : Int} (h : ¬ (q ≤ j ∧ j < q + c)) : zlr a b p q c j = b j := if_neg h
/-- the model after a call that changes nothing that calls show -/
def zMk (G G' : GM) (t : Int) : Prop := (∀ k, k ≠ 230 → k ≠ 233 → k ≠ 238 → k ≠ 239 → G' k = G k) ∧ (∀ j, j ≠ 10 → j ≠ 13 → j ≠ 14 → G' 230 j = G 230 j) ∧ G' 230 10 = t
section MK
variable {G G1 F : GM} {t t0 v : Int} {n : Nat}
theorem zMk_0 : zMk G (zk G 230 (zp (G 230) 10 t)) t := ⟨fun k h _ _ _ => zk_ne h, fun j h _ _ => by rw [zk_eq]; exact zp_ne h, by rw [zk_eq]; exact zp_eq _ _ _⟩
theorem zMk_t (h : zMk G G1 t0) : zMk G (zk G1 230 (zp (G1 230) 10 t)) t := ⟨fun k h0 h1 h2 h3 => (zk_ne h0).trans (h.1 k h0 h1 h2 h3), fun j h0 h1 h2 => by rw [zk_eq, zp_ne h0]; exact h.2.1 j h0 h1 h2, by rw [zk_eq]; exact zp_eq _ _ _⟩
theorem zMk_b {A B : Int → Int} {f l : Int} (h : zMk G G1 t) : zMk G (zBf G1 A B f l) t := ⟨fun k h0 h1 h2 h3 => (zBf_o ⟨h0, h2, h3⟩).trans (h.1 k h0 h1 h2 h3), fun j h0 h1 h2 => (zBf_f ⟨h1, h2⟩).trans (h.2.1 j h0 h1 h2), (zBf_f ⟨by decide, by decide⟩).trans h.2.2⟩
theorem zMk_s {Y : Int → Int} (h : zMk G G1 t) : zMk G (zk G1 233 Y) t := ⟨fun k h0 h1 h2 h3 => (zk_ne h1).trans (h.1 k h0 h1 h2 h3), fun j h0 h1 h2 => by rw [zk_ne (by decide)]; exact h.2.1 j h0 h1 h2, by rw [zk_ne (by decide)]; exact h.2.2⟩
theorem zMk_r (h : zMk G G1 t) : G1 231 = G 231 := h.1 231 (by decide) (by decide) (by decide) (by decide)
/-- what it throws and what it answers -/
def zQm (G F : GM) (n : Nat) (q : Int × Int) : Zq := fun o G' F' n' => o = .inl (some (.int (zi q.2))) ∧ zMk G G' q.1 ∧ F' = F ∧ n' = n
theorem zQ_ok {q : Int × Int} (h : zMk G G1 0) (hq : q = (0, v)) : zQm G F n q (.inl (some (.int (zi v)))) G1 F n := by
  subst hq
  exact ⟨rfl, h, rfl, rfl⟩
theorem zQ_no {q : Int × Int} (h : zMk G G1 t0) (hq : q = (t, 0)) : zQm G F n q (.inl (some (.int (zi 0)))) (zk G1 230 (zp (G1 230) 10 t)) F n := by
  subst hq
  exact ⟨rfl, zMk_t h, rfl, rfl⟩
end MK
def q_isWater (s : Int → Int) (x y : Int) : Int × Int := if sIn s x y then (0, zb (s (30 + 12 * y + x) = 1)) else (1, 0)
def q_isHut (s : Int → Int) (x y : Int) : Int × Int := if sIn s x y then (0, zb (s (30 + 12 * y + x) = 2)) else (1, 0)
def q_isPlank (s : Int → Int) (x y : Int) : Int × Int := if sIn s x y then (0, zb (10 < s (30 + 12 * y + x))) else (1, 0)
def q_plankStrength (s : Int → Int) (x y : Int) : Int × Int := if sIn s x y then (if 10 < s (30 + 12 * y + x) then (0, s (30 + 12 * y + x) - 10) else (2, 0)) else (1, 0)
def q_fog (s : Int → Int) (h : Int) : Int × Int := if 0 ≤ h ∧ h ≤ 23 then (0, s (6 + h)) else (1, 0)
def q_light (s : Int → Int) (l f : Int) : Int × Int := if 0 ≤ l ∧ l ≤ s 4 - 1 then (0, s (174 + 5 * l + f)) else (1, 0)
theorem zQm_c {G F G' F' : GM} {n n' : Nat} {q q' : Int × Int} {o : Zo} (h : zQm G F n q o G' F' n') (e : q = q') : zQm G F n q' o G' F' n' := by
  subst e
  exact h
def q_hasSuccessor (s : Int → Int) (l : Int) : Int × Int := if 0 ≤ l ∧ l ≤ s 4 - 1 then (0, zb (0 ≤ s (174 + 5 * l + 4))) else (1, 0)
def q_successor (s : Int → Int) (l : Int) : Int × Int := if 0 ≤ l ∧ l ≤ s 4 - 1 then (if s (174 + 5 * l + 4) < 0 then (2, 0) else (0, s (174 + 5 * l + 4))) else (1, 0)
def q_walker (s : Int → Int) (w f : Int) : Int × Int := if 0 ≤ w ∧ w ≤ s 5 - 1 then (0, s (214 + 7 * w + f)) else (1, 0)
def q_state (s : Int → Int) (w f : Int) : Int × Int := if 0 ≤ w ∧ w ≤ s 5 - 1 then (0, zb (s (214 + 7 * w + 2) = f)) else (1, 0)
def q_hasTarget (s : Int → Int) (w : Int) : Int × Int := if 0 ≤ w ∧ w ≤ s 5 - 1 then (0, zb (0 ≤ s (214 + 7 * w + 3))) else (1, 0)
def q_target (s : Int → Int) (w : Int) : Int × Int := if 0 ≤ w ∧ w ≤ s 5 - 1 then (if s (214 + 7 * w + 3) < 0 then (2, 0) else (0, s (214 + 7 * w + 3))) else (1, 0)
def q_nearestLight (s : Int → Int) (w : Int) : Int × Int := if 0 ≤ w ∧ w ≤ s 5 - 1 then (if sNear s w (s 4).toNat < 0 then (2, 0) else (0, sNear s w (s 4).toNat)) else (1, 0)
