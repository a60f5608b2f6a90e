/-! A marsh that was fed is loaded; the program at first. -/
section G4
variable {t : List Int} {D : Int → Int} {B : Int} {sv : Nat → Int → Int} {u9 : Int} {h9 : Nat → Int → Int} {s : Int → Int} {G F : GM}
theorem pB_load (hg : tGood t D) (hB : 0 ≤ B) (p : PGb (tf t) t.length B sv u9 h9 s G) {w2 w3 w4 w5 w6 : Int32} : zC 229 334 [.ref 192, .int (zi 12), .int w2, .int w3, .int w4, .int w5, .int w6] G F 0 (zLc F 0 0 (D 5) (fun G' => PG B sv 0 h9 D G' ∧ G' 192 10 = -1)) := by
  obtain ⟨hl, ⟨H, k, hr⟩, hF⟩ := hg
  have e := rdW_end hr (tf_At (t := t))
  have h := cL_load (N := 229) (F := F) (n := 0) (G := G) (by decide) p.2.2.2.1 (D0 := fun _ => 0) (fun _ _ _ => rfl) (x := ((t.length : Int), 0, -1, D)) e.symm (w2 := w2) (w3 := w3) (w4 := w4) (w5 := w5) (w6 := w6)
  have hq : q_load ((t.length : Int), 0, -1, D) = (0, D 5) := if_pos rfl
  rw [hq] at h
  have b5 := hF.1.2.2.2.2.2.1
  have hz : zN [1] ((0 : Int), gI (D 5)) = D 5 := (zN_v (ex := [1]) (q := (0, D 5)) rfl ⟨by omega, by omega⟩).2
  dsimp only at h
  rw [hz] at h
  exact zLc_P h (fun G' hx => PGb_ld p hx rfl (hF.up hB))
theorem vL_undoNo {u : Int} (hu : u = 0) : zN [0] ((q_undo u).1, gI (q_undo u).2) = -102 := zN_x (c := 0) (k := 0) (by rw [show q_undo u = (1, 0) from if_pos hu]; rfl) rfl
theorem PG_und0 {u : Int} {h : Nat → Int → Int} {G' : GM} (hx : (0 < u ∧ PG B sv (u - 1) (fun j => h (j + 1)) (h 0) G') ∨ (u = 0 ∧ PG B sv u h s G')) (hu : u = 0) : PG B sv u h s G' := hx.elim (fun a => by omega) (fun a => a.2)
theorem wAr_fr {Y Y' : DY} {i n : Nat} {E : Int → Int} (h : wAr i n E Y) (hf : Yfr Y Y') : wAr i n E Y' := ⟨Nat.lt_of_lt_of_le h.1 hf.1, (hf.2 i h.1).2.trans h.2.1, fun k k0 k1 => by rw [(hf.2 i h.1).1]; exact h.2.2 k k0 k1⟩
/-- somewhere -/
def PGE (B : Int) (G : GM) : Prop := ∃ sv u h s, PG B sv u h s G
theorem PG_0 (h : JS Gz G) : PG 0 (fun _ => rFst) 0 (fun _ => rFst) rFst G ∧ G 192 10 = -1 ∧ G 192 9 = 0 ∧ G 196 0 = 0 := by
  obtain ⟨⟨h1, h2, h3⟩, h4, h5, h6, h7⟩ := h
  have e : zEq pFst.2.2.2 rFst := fun j j0 j1 => by
    obtain ⟨i, rfl⟩ := Int.eq_ofNat_of_zero_le j0
    exact (pFst_ok.2 i (by omega)).symm
  have hok : mOk rFst := mOk_eq e h2
  have hz : ∀ k, 16 ≤ k → k ≠ 192 → k ≠ 197 → k ≠ 198 → ∀ j, G k j = 0 := fun k a c d f j => by
    rw [h4 k a c d f]
    rfl
  have e9 : G 192 9 = 0 := by
    rw [h5 9 (by decide)]
    rfl
  have e193 : ∀ j, G 193 j = 0 := hz 193 (by decide) (by decide) (by decide) (by decide)
  have e196 : ∀ j, G 196 j = 0 := hz 196 (by decide) (by decide) (by decide) (by decide)
  have hF : Fit 0 rFst := ⟨hok, by decide, fun w w0 w1 => by have : rFst 5 = 0 := by decide
                                                             omega, fun l l0 l1 => by have : rFst 4 = 0 := by decide
                                                                                      omega⟩
  refine ⟨⟨⟨RX_eq h2 h3 e, hF⟩, ⟨⟨e193 0, ⟨by decide, by decide⟩, ?_, fun j w hj hw => absurd hj (by omega)⟩, fun j hj => absurd hj (by omega)⟩, fun w a b c => absurd (e196 _) c, h7, by rw [h6]; decide, by rw [e9]; decide⟩, h6, e9, e196 0⟩
  rw [e193 1]
  exact ⟨by decide, by decide⟩
theorem rFst_v : rFst 0 = 4 ∧ rFst 1 = 3 ∧ sSight rFst = 4 ∧ sPlanks rFst = 1 := ⟨by decide, by decide, by decide +kernel, by decide +kernel⟩
/-! the first questions -/
theorem cU_undo (h0 : G 193 0 = 0) {w2 w3 w4 w5 w6 : Int32} (p : PG B sv 0 h9 s G) : zC 229 334 [.ref 192, .int (zi 9), .int w2, .int w3, .int w4, .int w5, .int w6] G F 0 (zLc F 0 1 (-102) (fun G' => G' = G)) := by
  have h := cL_undo (N := 229) (F := F) (n := 0) (G := G) (w2 := w2) (w3 := w3) (w4 := w4) (w5 := w5) (w6 := w6) (by decide) p.2.1.1 (fun hu => absurd hu (by decide))
  rw [vL_undoNo rfl] at h
  exact zLc_P h (fun G' hx => hx.elim (fun a => absurd a.1 (by decide)) (fun a => a.2))
theorem cU_error (h0 : G 192 10 = -1) {w2 w3 w4 w5 w6 : Int32} : zC 229 334 [.ref 192, .int (zi 15), .int w2, .int w3, .int w4, .int w5, .int w6] G F 0 (zLc F 0 1 (-101) (xQf G)) := by
  have h := cL_errorOffset (N := 229) (F := F) (n := 0) (G := G) (w2 := w2) (w3 := w3) (w4 := w4) (w5 := w5) (w6 := w6) (by decide) (by rw [h0]; decide)
  rw [h0] at h
  exact h
theorem cU_byte (h0 : G 192 9 = 0) {w3 w4 w5 w6 : Int32} : zC 229 334 [.ref 192, .int (zi 47), .int (zi 0), .int w3, .int w4, .int w5, .int w6] G F 0 (zLc F 0 1 (-104) (xQf G)) := by
  have h := cL_printedByte (N := 229) (F := F) (n := 0) (G := G) (c := 0) (w3 := w3) (w4 := w4) (w5 := w5) (w6 := w6) (by decide) (by rw [h0]; decide) (by decide)
  rw [h0] at h
  exact h
theorem cU_rest (h0 : G 196 0 = 0) (p : PG B sv u9 h9 s G) {w3 w4 w5 w6 : Int32} : zC 229 334 [.ref 192, .int (zi 11), .int (zi 0), .int w3, .int w4, .int w5, .int w6] G F 0 (zLc F 0 2 (-101) (fun G' => G' = G)) := by
  have h := cL_restoreSnapshot (N := 229) (F := F) (n := 0) (G := G) (c := 0) (w3 := w3) (w4 := w4) (w5 := w5) (w6 := w6) (by decide) p.ok p.hR p.h0 p.h1 (by decide) (t := s) p.ok (fun h => absurd h0 h)
  have hq : q_restore (G 196) s 0 = (2, 0) := (if_pos ⟨by decide, by decide⟩).trans (if_pos h0)
  rw [hq] at h
  exact zLc_P h (fun G' hx => hx.elim (fun a => absurd a.1 (by decide)) (fun a => a.2))
end G4
