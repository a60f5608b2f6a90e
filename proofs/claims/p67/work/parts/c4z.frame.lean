/-! Rows of numbers: older cells stay. -/
theorem wRo_fr {Y0 Y : DY} {W H : Nat} {D : Int → Int} (h : wRo Y0 W H D Y) : Yfr Y0 Y := ⟨by rw [h.1]; omega, h.2.2.2⟩
