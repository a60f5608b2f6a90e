/-! The program: a traveller changed (printed by wip/whole/src43.py). -/
theorem RX_tr {G G' : GM} {w : Nat} {s s' : Int → Int} (hok : mOk s) (h : RX G w s) (hk : ∀ k, 16 * w ≤ k → k < 16 * w + 16 → (k < 16 * w + 8 ∨ k = 16 * w + 15) → G' k = G k) (hs : ∀ i, i < 214 → s' i = s i)
    (ht : ∀ t, 0 ≤ t → t < s 5 → G' (16 * w + 8) t = 12 * s' (214 + 7 * t + 1) + s' (214 + 7 * t + 0) ∧ G' (16 * w + 9) t = s' (214 + 7 * t + 2) ∧ G' (16 * w + 10) t = s' (214 + 7 * t + 6) ∧ G' (16 * w + 11) t = s' (214 + 7 * t + 3) ∧ G' (16 * w + 12) t = s' (214 + 7 * t + 4) ∧ G' (16 * w + 13) t = s' (214 + 7 * t + 5)) : RX G' w s' := by
  obtain ⟨a0, a1, -, -, a4, a5, -⟩ := hok
  obtain ⟨⟨c0, c1, c2, c3, c4, c5⟩, hf, hg, hl, hb, -⟩ := h
  have e0 := hs 0 (by omega)
  have e1 := hs 1 (by omega)
  have e4 := hs 4 (by omega)
  have e5 := hs 5 (by omega)
  refine ⟨⟨?_, ?_, ?_, ?_, ?_, ?_⟩, fun h h0 h1 => ?_, fun x y x0 x1 y0 y1 => ?_, fun l l0 l1 => ?_, fun l l0 l1 => ?_, fun q t0 t1 => ht q t0 (by omega)⟩
  · rw [hk _ (by omega) (by omega) (by omega), e0]; exact c0
  · rw [hk _ (by omega) (by omega) (by omega), e1]; exact c1
  · rw [hk _ (by omega) (by omega) (by omega), hs 2 (by omega)]; exact c2
  · rw [hk _ (by omega) (by omega) (by omega), hs 3 (by omega)]; exact c3
  · rw [hk _ (by omega) (by omega) (by omega), e4]; exact c4
  · rw [hk _ (by omega) (by omega) (by omega), e5]; exact c5
  · rw [hk _ (by omega) (by omega) (by omega), hs _ (by omega)]
    exact hf h h0 h1
  · rw [hk _ (by omega) (by omega) (by omega), hs _ (by omega)]
    exact hg x y x0 (by omega) y0 (by omega)
  · rw [hk (16 * w + 4) (by omega) (by omega) (by omega), hk (16 * w + 5) (by omega) (by omega) (by omega), hk (16 * w + 6) (by omega) (by omega) (by omega), hs (174 + 5 * l + 1) (by omega), hs (174 + 5 * l + 0) (by omega), hs (174 + 5 * l + 2) (by omega), hs (174 + 5 * l + 4) (by omega)]
    exact hl l l0 (by omega)
  · rw [hk (16 * w + 3) (by omega) (by omega) (by omega), e4]
    by_cases q : l < s 4
    · rw [hs (174 + 5 * l + 3) (by omega)]
      exact hb l l0 l1
    · have := (hb l l0 l1)
      constructor
      · intro z
        exact absurd (this.mp z).1 q
      · intro z
        exact absurd z.1 q
theorem RX_w9 {G : GM} {w : Nat} {s : Int → Int} {t v : Int} (hok : mOk s) (h : RX G w s) (t0 : 0 ≤ t) (t1 : t < s 5) : RX (zk G (16 * w + 9) (zp (G (16 * w + 9)) t v)) w (zp s (214 + 7 * t + 2) v) := by
  refine RX_tr hok h (fun k a b c => zk_ne (by omega)) (fun i hi => zp_ne (by omega)) (fun q q0 q1 => ?_)
  obtain ⟨e1, e2, e3, e4, e5, e6⟩ := h.2.2.2.2.2 q q0 q1
  by_cases e : q = t
  · subst e
    refine ⟨?_, ?_, ?_, ?_, ?_, ?_⟩ <;> (repeat first | rw [zk_eq] | rw [zk_ne (by omega)] | rw [zp_eq] | rw [zp_ne (by omega)]) <;> assumption
  · refine ⟨?_, ?_, ?_, ?_, ?_, ?_⟩ <;> (repeat first | rw [zk_eq] | rw [zk_ne (by omega)] | rw [zp_eq] | rw [zp_ne (by omega)]) <;> assumption
theorem RX_w10 {G : GM} {w : Nat} {s : Int → Int} {t v : Int} (hok : mOk s) (h : RX G w s) (t0 : 0 ≤ t) (t1 : t < s 5) : RX (zk G (16 * w + 10) (zp (G (16 * w + 10)) t v)) w (zp s (214 + 7 * t + 6) v) := by
  refine RX_tr hok h (fun k a b c => zk_ne (by omega)) (fun i hi => zp_ne (by omega)) (fun q q0 q1 => ?_)
  obtain ⟨e1, e2, e3, e4, e5, e6⟩ := h.2.2.2.2.2 q q0 q1
  by_cases e : q = t
  · subst e
    refine ⟨?_, ?_, ?_, ?_, ?_, ?_⟩ <;> (repeat first | rw [zk_eq] | rw [zk_ne (by omega)] | rw [zp_eq] | rw [zp_ne (by omega)]) <;> assumption
  · refine ⟨?_, ?_, ?_, ?_, ?_, ?_⟩ <;> (repeat first | rw [zk_eq] | rw [zk_ne (by omega)] | rw [zp_eq] | rw [zp_ne (by omega)]) <;> assumption
theorem RX_w11 {G : GM} {w : Nat} {s : Int → Int} {t v : Int} (hok : mOk s) (h : RX G w s) (t0 : 0 ≤ t) (t1 : t < s 5) : RX (zk G (16 * w + 11) (zp (G (16 * w + 11)) t v)) w (zp s (214 + 7 * t + 3) v) := by
  refine RX_tr hok h (fun k a b c => zk_ne (by omega)) (fun i hi => zp_ne (by omega)) (fun q q0 q1 => ?_)
  obtain ⟨e1, e2, e3, e4, e5, e6⟩ := h.2.2.2.2.2 q q0 q1
  by_cases e : q = t
  · subst e
    refine ⟨?_, ?_, ?_, ?_, ?_, ?_⟩ <;> (repeat first | rw [zk_eq] | rw [zk_ne (by omega)] | rw [zp_eq] | rw [zp_ne (by omega)]) <;> assumption
  · refine ⟨?_, ?_, ?_, ?_, ?_, ?_⟩ <;> (repeat first | rw [zk_eq] | rw [zk_ne (by omega)] | rw [zp_eq] | rw [zp_ne (by omega)]) <;> assumption
theorem RX_w12 {G : GM} {w : Nat} {s : Int → Int} {t v : Int} (hok : mOk s) (h : RX G w s) (t0 : 0 ≤ t) (t1 : t < s 5) : RX (zk G (16 * w + 12) (zp (G (16 * w + 12)) t v)) w (zp s (214 + 7 * t + 4) v) := by
  refine RX_tr hok h (fun k a b c => zk_ne (by omega)) (fun i hi => zp_ne (by omega)) (fun q q0 q1 => ?_)
  obtain ⟨e1, e2, e3, e4, e5, e6⟩ := h.2.2.2.2.2 q q0 q1
  by_cases e : q = t
  · subst e
    refine ⟨?_, ?_, ?_, ?_, ?_, ?_⟩ <;> (repeat first | rw [zk_eq] | rw [zk_ne (by omega)] | rw [zp_eq] | rw [zp_ne (by omega)]) <;> assumption
  · refine ⟨?_, ?_, ?_, ?_, ?_, ?_⟩ <;> (repeat first | rw [zk_eq] | rw [zk_ne (by omega)] | rw [zp_eq] | rw [zp_ne (by omega)]) <;> assumption
theorem RX_w13 {G : GM} {w : Nat} {s : Int → Int} {t v : Int} (hok : mOk s) (h : RX G w s) (t0 : 0 ≤ t) (t1 : t < s 5) : RX (zk G (16 * w + 13) (zp (G (16 * w + 13)) t v)) w (zp s (214 + 7 * t + 5) v) := by
  refine RX_tr hok h (fun k a b c => zk_ne (by omega)) (fun i hi => zp_ne (by omega)) (fun q q0 q1 => ?_)
  obtain ⟨e1, e2, e3, e4, e5, e6⟩ := h.2.2.2.2.2 q q0 q1
  by_cases e : q = t
  · subst e
    refine ⟨?_, ?_, ?_, ?_, ?_, ?_⟩ <;> (repeat first | rw [zk_eq] | rw [zk_ne (by omega)] | rw [zp_eq] | rw [zp_ne (by omega)]) <;> assumption
  · refine ⟨?_, ?_, ?_, ?_, ?_, ?_⟩ <;> (repeat first | rw [zk_eq] | rw [zk_ne (by omega)] | rw [zp_eq] | rw [zp_ne (by omega)]) <;> assumption
theorem RX_w14 {G : GM} {w : Nat} {s : Int → Int} {R : Int → Int} (hok : mOk s) (h : RX G w s) : RX (zk G (16 * w + 14) R) w s := by
  refine RX_tr hok h (fun k a b c => zk_ne (by omega)) (fun i hi => rfl) (fun q q0 q1 => ?_)
  obtain ⟨e1, e2, e3, e4, e5, e6⟩ := h.2.2.2.2.2 q q0 q1
  refine ⟨?_, ?_, ?_, ?_, ?_, ?_⟩ <;> (repeat first | rw [zk_eq] | rw [zk_ne (by omega)] | rw [zp_eq] | rw [zp_ne (by omega)]) <;> assumption
theorem RX_w8 {G : GM} {w : Nat} {s : Int → Int} {t x y : Int} (hok : mOk s) (h : RX G w s) (t0 : 0 ≤ t) (t1 : t < s 5) : RX (zk G (16 * w + 8) (zp (G (16 * w + 8)) t (12 * y + x))) w (zp (zp s (214 + 7 * t + 0) x) (214 + 7 * t + 1) y) := by
  refine RX_tr hok h (fun k a b c => zk_ne (by omega)) (fun i hi => (zp_ne (by omega)).trans (zp_ne (by omega))) (fun q q0 q1 => ?_)
  obtain ⟨e1, e2, e3, e4, e5, e6⟩ := h.2.2.2.2.2 q q0 q1
  by_cases e : q = t
  · subst e
    refine ⟨?_, ?_, ?_, ?_, ?_, ?_⟩ <;> (repeat first | rw [zk_eq] | rw [zk_ne (by omega)] | rw [zp_eq] | rw [zp_ne (by omega)]) <;> assumption
  · refine ⟨?_, ?_, ?_, ?_, ?_, ?_⟩ <;> (repeat first | rw [zk_eq] | rw [zk_ne (by omega)] | rw [zp_eq] | rw [zp_ne (by omega)]) <;> assumption
