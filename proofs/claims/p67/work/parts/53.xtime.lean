/-! The program: the time, the clearness changed (printed by wip/whole/src53.py). -/
theorem RX_time {G : GM} {w : Nat} {s : Int → Int} {v : Int} (hok : mOk s) (h : RX G w s) : RX (zk G (16 * w) (zp (G (16 * w)) 5 v)) w (zp s 3 v) := by
  obtain ⟨a0, a1, -, -, a4, a5, -⟩ := hok
  obtain ⟨⟨c0, c1, c2, c3, c4, c5⟩, hf, hg, hl, hb, ht⟩ := h
  have es : ∀ i, i ≠ 3 → zp s 3 v i = s i := fun i hi => zp_ne hi
  have ek : ∀ k, k ≠ 16 * w → zk G (16 * w) (zp (G (16 * w)) 5 v) k = G k := fun k hk => zk_ne hk
  have e0 := es 0 (by omega)
  have e1 := es 1 (by omega)
  have e4 := es 4 (by omega)
  have e5 := es 5 (by omega)
  refine ⟨⟨?_, ?_, ?_, ?_, ?_, ?_⟩, fun h h0 h1 => ?_, fun x' y' x0 x1 y0 y1 => ?_, fun l l0 l1 => ?_, fun l l0 l1 => ?_, fun q t0 t1 => ?_⟩
  · rw [ek _ (by omega), e0]; exact c0
  · rw [ek _ (by omega), e1]; exact c1
  · rw [zk_eq, zp_ne (by omega), es 2 (by omega)]; exact c2
  · rw [zk_eq, zp_eq, zp_eq]
  · rw [ek _ (by omega), e4]; exact c4
  · rw [ek _ (by omega), e5]; exact c5
  · rw [ek _ (by omega), es _ (by omega)]
    exact hf h h0 h1
  · rw [ek _ (by omega), es _ (by omega)]
    exact hg x' y' x0 (by omega) y0 (by omega)
  · rw [ek _ (by omega), ek _ (by omega), ek _ (by omega), es _ (by omega), es _ (by omega), es _ (by omega), es _ (by omega)]
    exact hl l l0 (by omega)
  · rw [ek _ (by omega), e4, es (174 + 5 * l + 3) (by omega)]
    exact hb l l0 l1
  · rw [ek _ (by omega), ek _ (by omega), ek _ (by omega), ek _ (by omega), ek _ (by omega), ek _ (by omega), es _ (by omega), es _ (by omega), es _ (by omega), es _ (by omega), es _ (by omega), es _ (by omega), es _ (by omega)]
    exact ht q t0 (by omega)
theorem RX_clear {G : GM} {w : Nat} {s : Int → Int} {v : Int} (hok : mOk s) (h : RX G w s) : RX (zk G (16 * w) (zp (G (16 * w)) 4 v)) w (zp s 2 v) := by
  obtain ⟨a0, a1, -, -, a4, a5, -⟩ := hok
  obtain ⟨⟨c0, c1, c2, c3, c4, c5⟩, hf, hg, hl, hb, ht⟩ := h
  have es : ∀ i, i ≠ 2 → zp s 2 v i = s i := fun i hi => zp_ne hi
  have ek : ∀ k, k ≠ 16 * w → zk G (16 * w) (zp (G (16 * w)) 4 v) k = G k := fun k hk => zk_ne hk
  have e0 := es 0 (by omega)
  have e1 := es 1 (by omega)
  have e4 := es 4 (by omega)
  have e5 := es 5 (by omega)
  refine ⟨⟨?_, ?_, ?_, ?_, ?_, ?_⟩, fun h h0 h1 => ?_, fun x' y' x0 x1 y0 y1 => ?_, fun l l0 l1 => ?_, fun l l0 l1 => ?_, fun q t0 t1 => ?_⟩
  · rw [ek _ (by omega), e0]; exact c0
  · rw [ek _ (by omega), e1]; exact c1
  · rw [zk_eq, zp_eq, zp_eq]
  · rw [zk_eq, zp_ne (by omega), es 3 (by omega)]; exact c3
  · rw [ek _ (by omega), e4]; exact c4
  · rw [ek _ (by omega), e5]; exact c5
  · rw [ek _ (by omega), es _ (by omega)]
    exact hf h h0 h1
  · rw [ek _ (by omega), es _ (by omega)]
    exact hg x' y' x0 (by omega) y0 (by omega)
  · rw [ek _ (by omega), ek _ (by omega), ek _ (by omega), es _ (by omega), es _ (by omega), es _ (by omega), es _ (by omega)]
    exact hl l l0 (by omega)
  · rw [ek _ (by omega), e4, es (174 + 5 * l + 3) (by omega)]
    exact hb l l0 l1
  · rw [ek _ (by omega), ek _ (by omega), ek _ (by omega), ek _ (by omega), ek _ (by omega), ek _ (by omega), es _ (by omega), es _ (by omega), es _ (by omega), es _ (by omega), es _ (by omega), es _ (by omega), es _ (by omega)]
    exact ht q t0 (by omega)
