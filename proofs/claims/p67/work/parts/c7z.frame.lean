/-! An array of numbers, older cells as they were. -/
section C7Z
variable {Y Y0 : DY} {n : Nat}
/-- an array of numbers that was made behind Y0 -/
def wFa (Y0 : DY) (n : Nat) (D : Int → Int) (Y : DY) : Prop := wAr Y0.2.2 n D Y ∧ Yfr Y0 Y
theorem wFa_new : wFa Y n (fun _ => 0) (w_add Y (1, n, []) (fun _ => 0)) := ⟨wAr_new, Yfr_add⟩
theorem wFa_row {D : Int → Int} {j v : Int} (h : wFa Y0 n D Y) : wFa Y0 n (zp D j v) (w_row Y Y0.2.2 (zp (Y.1 Y0.2.2) j v)) := by
  obtain ⟨⟨h1, h2, h3⟩, h4, h5⟩ := h
  refine ⟨⟨h1, h2, fun k k0 k1 => ?_⟩, h4, fun k hk => ⟨?_, (h5 k hk).2⟩⟩
  · show zk Y.1 Y0.2.2 (zp (Y.1 Y0.2.2) j v) Y0.2.2 k = _
    rw [zk_eq]
    by_cases e : k = j
    · rw [e, zp_eq, zp_eq]
    · rw [zp_ne e, zp_ne e]
      exact h3 k k0 k1
  · show zk Y.1 Y0.2.2 _ k = _
    rw [zk_ne (by omega)]
    exact (h5 k hk).1
section F3W
variable {u : WU} {y : Nat} {b : WB} {pc pc' : Nat} {L st : List Value} {G F : GM} {c d : Nat} {Q : WQ} {D : Int → Int}
theorem wi_faset {j v : Int} (hd : decode (zbc y) pc = .ok (.iastore, 1)) (hp : pc + 1 = pc') (h : wFa Y0 n D Y) (hj : 0 ≤ j ∧ j < n) (hn : n ≤ 100000) (hv : zr v) (k : ∀ Y', wFa Y0 n (zp D j v) Y' → wW u y b pc' L st G F Y' c d Q) : wW u y b pc L (.int (zi v) :: .int (zi j) :: .ref (1000 + Y0.2.2) :: st) G F Y c d Q :=
  wi_iast hd hp rfl h.1.1 h.1.2.1 ⟨hj.1, hj.2, by omega⟩ hv (k _ (wFa_row h))
theorem wi_faget {j : Int} (hd : decode (zbc y) pc = .ok (.iaload, 1)) (hp : pc + 1 = pc') (h : wFa Y0 n D Y) (hj : 0 ≤ j ∧ j < n) (hn : n ≤ 100000) (k : wW u y b pc' L (.int (zi (D j)) :: st) G F Y c d Q) : wW u y b pc L (.int (zi j) :: .ref (1000 + Y0.2.2) :: st) G F Y c d Q := wi_arget hd hp h.1 hj hn k
end F3W
end C7Z
