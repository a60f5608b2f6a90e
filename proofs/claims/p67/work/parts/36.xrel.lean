/-! The program: a world and the row that it stands for (printed by wip/whole/src36.py). -/
theorem zhas_or {a b l : Int} (h0 : 0 ≤ l) (h1 : l < 31) : zhas (zor a b) l ↔ zhas a l ∨ zhas b l := by
  rw [zhas_bt h0 h1, zhas_bt h0 h1, zhas_bt h0 h1]
  have e1 : zi (zor a b) = zi a ||| zi b := by
    unfold zor
    rw [zi_of]
  rw [e1, b_or, Bool.or_eq_true]
/-- a ground of the model, as the program keeps it -/
def zgc (v : Int) : Int := if v = 0 then 10 else if v = 1 then 0 else if v = 2 then 11 else v - 10
theorem zgc_rng {v : Int} (h : (0 ≤ v ∧ v ≤ 2) ∨ (11 ≤ v ∧ v ≤ 19)) : (0 ≤ zgc v ∧ zgc v ≤ 11) ∧ (zgc v = 0 ↔ v = 1) ∧ (zgc v = 11 ↔ v = 2) ∧ ((0 < zgc v ∧ zgc v ≤ 9) ↔ 10 < v) ∧ (10 < v → zgc v = v - 10) ∧ (zgc v = 10 ↔ v = 0) := by
  unfold zgc
  split
  · omega
  · split
    · omega
    · split <;> omega
/-- world w is what the row says -/
def RX (G : GM) (w : Nat) (s : Int → Int) : Prop :=
  (G (16 * w + 1) 0 = s 0 ∧ G (16 * w + 1) 1 = s 1 ∧ G (16 * w) 4 = s 2 ∧ G (16 * w) 5 = s 3 ∧ G (16 * w + 3) 0 = s 4 ∧ G (16 * w + 7) 0 = s 5) ∧
  (∀ h, 0 ≤ h → h < 24 → G (16 * w + 15) h = s (6 + h)) ∧
  (∀ x y, 0 ≤ x → x < s 0 → 0 ≤ y → y < s 1 → G (16 * w + 2) (12 * y + x) = zgc (s (30 + 12 * y + x))) ∧
  (∀ l, 0 ≤ l → l < s 4 → G (16 * w + 4) l = 12 * s (174 + 5 * l + 1) + s (174 + 5 * l + 0) ∧ G (16 * w + 5) l = s (174 + 5 * l + 2) ∧ G (16 * w + 6) l = s (174 + 5 * l + 4)) ∧
  (∀ l, 0 ≤ l → l < 8 → (zhas (G (16 * w + 3) 1) l ↔ l < s 4 ∧ s (174 + 5 * l + 3) = 1)) ∧
  (∀ t, 0 ≤ t → t < s 5 → G (16 * w + 8) t = 12 * s (214 + 7 * t + 1) + s (214 + 7 * t + 0) ∧ G (16 * w + 9) t = s (214 + 7 * t + 2) ∧ G (16 * w + 10) t = s (214 + 7 * t + 6) ∧ G (16 * w + 11) t = s (214 + 7 * t + 3) ∧ G (16 * w + 12) t = s (214 + 7 * t + 4) ∧ G (16 * w + 13) t = s (214 + 7 * t + 5))
section RX
variable {G G' F : GM} {w w2 : Nat} {s t : Int → Int} {N n : Nat}
theorem RX_cp (hok : mOk s) (h : RX G w2 s) (c : xCp G G' w w2) : RX G' w s := by
  obtain ⟨a0, a1, -, -, a4, a5, -⟩ := hok
  obtain ⟨⟨c0, c1, c2, c3, c4, c5⟩, hf, hg, hl, hb, ht⟩ := h
  obtain ⟨-, e10, e11, e30, e31, e70, e04, e05, r2, r4, r5, r6, r8, r9, r10, r11, r12, r13, r14, r15⟩ := c
  refine ⟨⟨e10.trans c0, e11.trans c1, e04.trans c2, e05.trans c3, e30.trans c4, e70.trans c5⟩, fun h h0 h1 => (r15 h h0 h1).trans (hf h h0 h1), fun x y x0 x1 y0 y1 => (r2 _ (by omega) (by omega)).trans (hg x y x0 x1 y0 y1), fun l l0 l1 => ?_, fun l l0 l1 => ?_, fun t t0 t1 => ?_⟩
  · rw [r4 l l0 (by omega), r5 l l0 (by omega), r6 l l0 (by omega)]
    exact hl l l0 l1
  · rw [e31]
    exact hb l l0 l1
  · rw [r8 t t0 (by omega), r9 t t0 (by omega), r10 t t0 (by omega), r11 t t0 (by omega), r12 t t0 (by omega), r13 t t0 (by omega)]
    exact ht t t0 t1
theorem RX_fr (h : RX G w s) (e : ∀ k, 16 * w ≤ k → k < 16 * w + 16 → G' k = G k) : RX G' w s := by
  unfold RX
  rw [e (16 * w) (by omega) (by omega), e (16 * w + 1) (by omega) (by omega), e (16 * w + 2) (by omega) (by omega), e (16 * w + 3) (by omega) (by omega), e (16 * w + 4) (by omega) (by omega), e (16 * w + 5) (by omega) (by omega), e (16 * w + 6) (by omega) (by omega), e (16 * w + 7) (by omega) (by omega), e (16 * w + 8) (by omega) (by omega), e (16 * w + 9) (by omega) (by omega), e (16 * w + 10) (by omega) (by omega), e (16 * w + 11) (by omega) (by omega), e (16 * w + 12) (by omega) (by omega), e (16 * w + 13) (by omega) (by omega), e (16 * w + 15) (by omega) (by omega)]
  exact h
theorem RX_eq (hok : mOk s) (h : RX G w s) (e : zEq s t) : RX G w t := by
  obtain ⟨a0, a1, -, -, a4, a5, -⟩ := hok
  obtain ⟨⟨c0, c1, c2, c3, c4, c5⟩, hf, hg, hl, hb, ht⟩ := h
  have e0 := e 0 (by omega) (by omega)
  have e1 := e 1 (by omega) (by omega)
  have e4 := e 4 (by omega) (by omega)
  have e5 := e 5 (by omega) (by omega)
  refine ⟨⟨c0.trans e0.symm, c1.trans e1.symm, c2.trans (e 2 (by omega) (by omega)).symm, c3.trans (e 3 (by omega) (by omega)).symm, c4.trans e4.symm, c5.trans e5.symm⟩, fun h h0 h1 => ?_, fun x y x0 x1 y0 y1 => ?_, fun l l0 l1 => ?_, fun l l0 l1 => ?_, fun q t0 t1 => ?_⟩
  · rw [e _ (by omega) (by omega)]
    exact hf h h0 h1
  · rw [e _ (by omega) (by omega)]
    exact hg x y x0 (by omega) y0 (by omega)
  · rw [e (174 + 5 * l + 1) (by omega) (by omega), e (174 + 5 * l + 0) (by omega) (by omega), e (174 + 5 * l + 2) (by omega) (by omega), e (174 + 5 * l + 4) (by omega) (by omega)]
    exact hl l l0 (by omega)
  · rw [e (174 + 5 * l + 3) (by omega) (by omega), e4]
    exact hb l l0 l1
  · rw [e (214 + 7 * q + 1) (by omega) (by omega), e (214 + 7 * q + 0) (by omega) (by omega), e (214 + 7 * q + 2) (by omega) (by omega), e (214 + 7 * q + 6) (by omega) (by omega), e (214 + 7 * q + 3) (by omega) (by omega), e (214 + 7 * q + 4) (by omega) (by omega), e (214 + 7 * q + 5) (by omega) (by omega)]
    exact ht q t0 (by omega)
theorem RX_n (h : RX G w s) : G (16 * w + 3) 0 = s 4 ∧ G (16 * w + 7) 0 = s 5 := ⟨h.1.2.2.2.2.1, h.1.2.2.2.2.2⟩
theorem RX_on (hok : mOk s) (h : RX G w s) (c : Int) : zfst (fun l => G (16 * w + 4) l = c) (G (16 * w + 3) 0).toNat = sLOn s (c % 12) (c / 12) := by
  rw [(RX_n h).1]
  refine zfst_congr _ (fun l l0 l1 => ?_)
  obtain ⟨q1, q2, -⟩ := mOk_lt hok l0 (by omega)
  have := (h.2.2.2.1 l l0 (by omega)).1
  show G (16 * w + 4) l = c ↔ s (174 + 5 * l + 0) = c % 12 ∧ s (174 + 5 * l + 1) = c / 12
  omega
theorem RX_far (hok : mOk s) (h : RX G w s) {t l : Int} (t0 : 0 ≤ t) (t1 : t < s 5) (l0 : 0 ≤ l) (l1 : l < s 4) : ((G (16 * w + 8) t % 12 - G (16 * w + 4) l % 12).natAbs + (G (16 * w + 8) t / 12 - G (16 * w + 4) l / 12).natAbs : Int) = sFarL s t l := by
  obtain ⟨q1, q2, -⟩ := mOk_lt hok l0 l1
  obtain ⟨p1, p2, -⟩ := mOk_wk hok t0 t1
  have e1 := (h.2.2.2.1 l l0 l1).1
  have e2 := (h.2.2.2.2.2 t t0 t1).1
  rw [show G (16 * w + 4) l % 12 = s (174 + 5 * l + 0) by omega, show G (16 * w + 4) l / 12 = s (174 + 5 * l + 1) by omega, show G (16 * w + 8) t % 12 = s (214 + 7 * t + 0) by omega, show G (16 * w + 8) t / 12 = s (214 + 7 * t + 1) by omega]
  unfold sFarL sFar zap
  split <;> split <;> omega
theorem RX_sight (hok : mOk s) (h : RX G w s) : max 0 (G (16 * w) 4 - G (16 * w + 15) (G (16 * w) 5 % 24)) = sSight s := by
  obtain ⟨-, -, -, c3, -⟩ := hok
  rw [h.1.2.2.1, h.1.2.2.2.1, h.2.1 _ (by omega) (by omega)]
  unfold sSight
  split <;> omega
theorem RX_count (h : RX G w s) (q : Int) : zcnt (fun t => G (16 * w + 9) t = q) (G (16 * w + 7) 0).toNat = sCount s q := by
  rw [(RX_n h).2]
  refine zcnt_congr _ (fun t t0 t1 => ?_)
  show G (16 * w + 9) t = q ↔ s (214 + 7 * t + 2) = q
  rw [(h.2.2.2.2.2 t t0 (by omega)).2.1]
theorem RX_follow (h : RX G w s) (l : Int) : zcnt (fun t => G (16 * w + 9) t = 0 ∧ G (16 * w + 11) t = l) (G (16 * w + 7) 0).toNat = zcnt (fun t => s (214 + 7 * t + 2) = 0 ∧ s (214 + 7 * t + 3) = l) (s 5).toNat := by
  rw [(RX_n h).2]
  refine zcnt_congr _ (fun t t0 t1 => ?_)
  obtain ⟨-, e1, -, e2, -⟩ := h.2.2.2.2.2 t t0 (by omega)
  rw [e1, e2]
theorem RX_shun (h : RX G w s) {t l : Int} (t0 : 0 ≤ t) (t1 : t < s 5) (l0 : 0 ≤ l) (l1 : l < 8) : zhas (zor (G (16 * w + 12) t) (G (16 * w + 13) t)) l ↔ zhas (s (214 + 7 * t + 4)) l ∨ zhas (s (214 + 7 * t + 5)) l := by
  obtain ⟨-, -, -, -, e1, e2⟩ := h.2.2.2.2.2 t t0 t1
  rw [e1, e2]
  exact zhas_or l0 (by omega)
theorem RX_wOn (hok : mOk s) (h : RX G w s) (c : Int) : zfst (fun t => G (16 * w + 9) t = 0 ∧ G (16 * w + 8) t = c) (G (16 * w + 7) 0).toNat = sWOn s (c % 12) (c / 12) := by
  rw [(RX_n h).2]
  refine zfst_congr _ (fun t t0 t1 => ?_)
  obtain ⟨p1, p2, -⟩ := mOk_wk hok t0 (by omega)
  obtain ⟨e1, e2, -⟩ := h.2.2.2.2.2 t t0 (by omega)
  rw [e1, e2]
  have hz : sFar s t (c % 12) (c / 12) = 0 ↔ s (214 + 7 * t + 0) = c % 12 ∧ s (214 + 7 * t + 1) = c / 12 := by
    unfold sFar zap
    split <;> split <;> omega
  rw [hz]
  constructor
  · rintro ⟨q1, q2⟩
    exact ⟨q1, by omega, by omega⟩
  · rintro ⟨q1, q2, q3⟩
    exact ⟨q1, by omega⟩
end RX
