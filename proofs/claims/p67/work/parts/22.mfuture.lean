/-! The reference model: ways and the future (printed by wip/whole/src22.py). -/
noncomputable def q_path (s : Int → Int) (x y u v : Int) : Int × Int := if sIn s x y ∧ sIn s u v then (if x = u ∧ y = v then (0, 0) else if s (30 + 12 * v + u) = 1 then (2, 0) else if sSteps s (zst s (12 * v + u)) x y < 0 then (2, 0) else (0, sSteps s (zst s (12 * v + u)) x y)) else (1, 0)
noncomputable def q_hutSteps (s : Int → Int) (x y : Int) : Int × Int := if sIn s x y then (if sSteps s (zsh s) x y < 0 then (2, 0) else (0, sSteps s (zsh s) x y)) else (1, 0)
/-- the spare row once the row is laid into it -/
def zSp (G : GM) : Int → Int := zlr (G 231) (G 233) 0 0 256
def zEq (s t : Int → Int) : Prop := ∀ j, 0 ≤ j → j < 256 → t j = s j
theorem zSp_eq (G : GM) : zEq (G 231) (zSp G) := fun j j0 j1 => by
  unfold zSp
  rw [zlr_in (by omega), show 0 + (j - 0) = j by omega]
theorem mOk_eq {s t : Int → Int} (e : zEq s t) (h : mOk s) : mOk t := by
  obtain ⟨a0, a1, a2, a3, a4, a5, hfog, hc, hl, hw⟩ := h
  have q : ∀ j, 0 ≤ j ∧ j < 256 → t j = s j := fun j hj => e j hj.1 hj.2
  unfold mOk
  rw [q 0 (by omega), q 1 (by omega), q 2 (by omega), q 3 (by omega), q 4 (by omega), q 5 (by omega)]
  refine ⟨a0, a1, a2, a3, a4, a5, ?_, ?_, ?_, ?_⟩
  · intro h h0 h1
    rw [q (6 + h) (by omega)]
    exact hfog h h0 h1
  · intro c c0 c1
    rw [q (30 + c) (by omega)]
    exact hc c c0 c1
  · intro l l0 l1
    have := hl l l0 l1
    unfold mLi at this ⊢
    rw [q (174 + 5 * l + 0) (by omega), q (174 + 5 * l + 1) (by omega), q (174 + 5 * l + 2) (by omega), q (174 + 5 * l + 3) (by omega), q (174 + 5 * l + 4) (by omega), q 0 (by omega), q 1 (by omega), q 4 (by omega)]
    exact this
  · intro w w0 w1
    have := hw w w0 w1
    unfold mWi at this ⊢
    rw [q (214 + 7 * w + 0) (by omega), q (214 + 7 * w + 1) (by omega), q (214 + 7 * w + 2) (by omega), q (214 + 7 * w + 3) (by omega), q (214 + 7 * w + 6) (by omega), q 0 (by omega), q 1 (by omega), q 3 (by omega), q 4 (by omega)]
    exact this
def q_willArrive (s t : Int → Int) (w : Int) : Int × Int := if 0 ≤ w ∧ w ≤ s 5 - 1 then (0, zb (t (214 + 7 * w + 2) = 1)) else (1, 0)
noncomputable def q_after (t : Int → Int) (m c : Int) : Int × Int := if 0 ≤ m ∧ m ≤ 300 then (0, sCount (sTicks t m.toNat) c) else (1, 0)
def sDone (t : Int → Int) (w : Int) : Prop := t (214 + 7 * w + 2) ≠ 0
noncomputable def sUntil (t : Int → Int) (w : Int) : Int := @zfst (fun k => sTicks t (k + 1).toNat (214 + 7 * w + 2) ≠ 0) (fun _ => inferInstance) 300
noncomputable def q_until (s t : Int → Int) (w : Int) : Int × Int := if 0 ≤ w ∧ w ≤ s 5 - 1 then (if s (214 + 7 * w + 2) ≠ 0 then (2, 0) else if sUntil t w < 0 then (3, 0) else (0, sUntil t w + 1)) else (1, 0)
