/-! The program: a quiet day (by hand). -/
section XQ
variable {s : Int → Int} {c c' t : Int}
theorem sSight_tm (h : c % 24 = c' % 24) : sSight (zp s 3 c) = sSight (zp s 3 c') := by
  have e : ∀ c, sSight (zp s 3 c) = if s 2 - s (6 + c % 24) < 0 then 0 else s 2 - s (6 + c % 24) := fun c => by
    unfold sSight
    rw [zp_eq, zp_ne (by omega : (2 : Int) ≠ 3), zp_ne (by omega : 6 + c % 24 ≠ 3)]
  rw [e, e, h]
theorem sFarL_tm (l : Int) : sFarL (zp s 3 c) t l = sFarL s t l := by
  unfold sFarL sFar
  rw [zp_ne (by omega : 214 + 7 * t + 0 ≠ 3), zp_ne (by omega : 214 + 7 * t + 1 ≠ 3), zp_ne (by omega : 174 + 5 * l + 0 ≠ 3), zp_ne (by omega : 174 + 5 * l + 1 ≠ 3)]
theorem sNear_tm (h : c % 24 = c' % 24) : ∀ k : Nat, sNear (zp s 3 c) t k = sNear (zp s 3 c') t k := by
  intro k
  induction k with
  | zero => rfl
  | succ k ih =>
    have hA : sAcc (zp s 3 c) t k ↔ sAcc (zp s 3 c') t k := by
      show (sFarL (zp s 3 c) t k ≤ sSight (zp s 3 c) + zp s 3 c (174 + 5 * (k : Int) + 2)) ∧ ¬ zhas (zp s 3 c (214 + 7 * t + 4)) k ∧ ¬ zhas (zp s 3 c (214 + 7 * t + 5)) k ↔ (sFarL (zp s 3 c') t k ≤ sSight (zp s 3 c') + zp s 3 c' (174 + 5 * (k : Int) + 2)) ∧ ¬ zhas (zp s 3 c' (214 + 7 * t + 4)) k ∧ ¬ zhas (zp s 3 c' (214 + 7 * t + 5)) k
      rw [sFarL_tm, sFarL_tm, sSight_tm h]
      rw [zp_ne (by omega : 174 + 5 * (k : Int) + 2 ≠ 3), zp_ne (by omega : 174 + 5 * (k : Int) + 2 ≠ 3), zp_ne (by omega : 214 + 7 * t + 4 ≠ 3), zp_ne (by omega : 214 + 7 * t + 4 ≠ 3), zp_ne (by omega : 214 + 7 * t + 5 ≠ 3), zp_ne (by omega : 214 + 7 * t + 5 ≠ 3)]
    unfold sNear
    refine ite_congr (propext (and_congr hA ?_)) (fun _ => rfl) (fun _ => ih)
    rw [ih, sFarL_tm, sFarL_tm, sFarL_tm, sFarL_tm]
theorem sAim_tm (h : c % 24 = c' % 24) : sAim (zp s 3 c) t (214 + 7 * t + 3) = sAim (zp s 3 c') t (214 + 7 * t + 3) := by
  have e : ∀ c, sAim (zp s 3 c) t (214 + 7 * t + 3) = if s (214 + 7 * t + 3) < 0 then sNear (zp s 3 c) t (s 4).toNat else s (214 + 7 * t + 3) := fun c => by
    unfold sAim
    rw [zp_ne (by omega : 214 + 7 * t + 3 ≠ 3), zp_ne (by omega : (4 : Int) ≠ 3)]
    by_cases q : s (214 + 7 * t + 3) < 0
    · rw [if_pos q, if_pos q, zp_eq]
    · rw [if_neg q, if_neg q, zp_ne (by omega)]
  rw [e, e, sNear_tm h]
theorem sQt_tm (h : c % 24 = c' % 24) {k : Nat} (hq : sQt (zp s 3 c) k) : sQt (zp s 3 c') k := fun j hj hw => by
  rw [← sAim_tm h]
  refine hq j hj ?_
  rw [zp_ne (by omega)] at hw ⊢
  exact hw
end XQ
