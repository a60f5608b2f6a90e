/-! The law's ticks(x, w): what the calls it makes answer. -/
section E1
variable {s : Int → Int} {q m c : Int}
theorem vL_after (hok : mOk s) (h3 : s 3 ≤ 9999) (hm : 0 ≤ m ∧ m ≤ 300) : (q_after s m c).1 = 0 ∧ zN [1] ((q_after s m c).1, gI (q_after s m c).2) = sCount (sTicks s m.toNat) c := zN_v (if_pos hm) (by
  obtain ⟨k1, z1⟩ := sTicks_ok hok m.toNat (by omega)
  have := sCount_rng (sTicks s m.toNat) c k1.2.2.2.2.2.1
  exact ⟨by omega, by omega⟩)
theorem vL_afterBad (hm : ¬ (0 ≤ m ∧ m ≤ 300)) : zN [1] ((q_after s m c).1, gI (q_after s m c).2) = -103 := zN_x (c := 0) (k := 1) (by rw [show q_after s m c = (1, 0) from if_neg hm]; rfl) rfl
theorem vL_tickBad (hq : ¬ (1 ≤ q ∧ q ≤ 100)) : (q_tick s q).1 = 1 ∧ zN [1, 0] ((q_tick s q).1, gI (q_tick s q).2) = -103 := by
  have e : q_tick s q = (1, 0) := if_neg hq
  exact ⟨by rw [e], zN_x (c := 0) (k := 1) (by rw [e]; rfl) rfl⟩
theorem vL_tickOk (hok : mOk s) (hq : 1 ≤ q ∧ q ≤ 100) (h3 : s 3 + q ≤ 9999) : (q_tick s q).1 = 0 ∧ zN [1, 0] ((q_tick s q).1, gI (q_tick s q).2) = sCount (sTicks s q.toNat) 1 - sCount s 1 := by
  have e : q_tick s q = (0, sCount (sTicks s q.toNat) 1 - sCount s 1) := (if_pos hq).trans (if_neg (by omega))
  refine zN_v e ?_
  obtain ⟨k1, z1⟩ := sTicks_ok hok q.toNat (by omega)
  have r1 := sCount_rng (sTicks s q.toNat) 1 k1.2.2.2.2.2.1
  have r2 := sCount_rng s 1 hok.2.2.2.2.2.1
  exact ⟨by omega, by omega⟩
theorem vL_undoOk {u : Int} (hu : 0 < u ∧ u ≤ 8) : (q_undo u).1 = 0 ∧ zN [0] ((q_undo u).1, gI (q_undo u).2) = u - 1 := zN_v (if_neg (by omega)) ⟨by omega, by omega⟩
theorem vL_clOk (hok : mOk s) (hc : 0 ≤ c ∧ c ≤ 20) : (q_setClearness s c).1 = 0 ∧ zN [1] ((q_setClearness s c).1, gI (q_setClearness s c).2) = s 2 := zN_v (if_pos hc) (by
  have b2 := hok.2.2.1
  exact ⟨by omega, by omega⟩)
end E1
section E1P
variable {B B' : Int} {sv : Nat → Int → Int} {u : Int} {h : Nat → Int → Int} {s s' : Int → Int} {q : Int} {G G' : GM}
theorem PGc_yes (hx : PGc B B' sv u h s s' q G') (h0 : q = 0) : PG B' sv (min (u + 1) 8) (hcons s h) s' G' := hx.elim (fun a => a.2) (fun a => absurd h0 a.1)
theorem PGc_no (hx : PGc B B' sv u h s s' q G') (h0 : q ≠ 0) : PG B sv u h s G' := hx.elim (fun a => absurd a.1 h0) (fun a => a.2)
/-- back from a change -/
theorem PG_back (hx : (0 < min (u + 1) 8 ∧ PG B sv (min (u + 1) 8 - 1) (fun j => hcons s h (j + 1)) (hcons s h 0) G') ∨ (min (u + 1) 8 = 0 ∧ PG B sv (min (u + 1) 8) (hcons s h) s' G')) (hu : 0 ≤ u) : PG B sv (min u 7) h s G' := by
  rcases hx with ⟨-, p⟩ | ⟨h0, -⟩
  · have e : min (u + 1) 8 - 1 = min u 7 := by omega
    rw [e] at p
    exact p
  · omega
end E1P
