/-! The law's calls that change the program, over the program's state. -/
/-- after a change with the answer q: changed, or all as before -/
def PGc (B B' : Int) (sv : Nat → Int → Int) (u : Int) (h : Nat → Int → Int) (s s' : Int → Int) (q : Int) (G' : GM) : Prop := (q = 0 ∧ PG B' sv (min (u + 1) 8) (hcons s h) s' G') ∨ (q ≠ 0 ∧ PG B sv u h s G')
section DC
variable {B B' : Int} {sv : Nat → Int → Int} {u9 : Int} {h9 : Nat → Int → Int} {s : Int → Int} {G F : GM}
theorem PGc_of {q : Int × Int} {s' : Int → Int} {G' : GM} (p : PG B sv u9 h9 s G) (hb : B ≤ B') (hf : q.1 = 0 → Fit B' s') (hx : xCq q G s s' G') : PGc B B' sv u9 h9 s s' q.1 G' := by
  rcases hx with ⟨h0, hx⟩ | ⟨h0, hx⟩
  · exact Or.inl ⟨h0, PG_ch (PG_up p hb) hx (hf h0)⟩
  · subst hx
    exact Or.inr ⟨h0, p⟩
theorem Fit_tk {k : Nat} (h : Fit B s) (hb : B ≤ B') (hk : s 3 + k ≤ B') (hB : B' ≤ 30000) : Fit B' (sTicks s k) := by
  obtain ⟨h1, h2, h3, h4⟩ := h
  obtain ⟨k1, z1⟩ := sTicks_ok h1 k (by omega)
  have e3 : sTicks s k 3 = s 3 + k := by rw [z1.2.2.2.1, zp_eq]
  obtain ⟨-, -, q⟩ := Fit_ticks (B := s 3) (s := s) ⟨h1, Int.le_refl _, h3, h4⟩ k (by omega)
  exact ⟨k1, by omega, q⟩
theorem pC_tick (p : PG B sv u9 h9 s G) {q : Int} (hq : zr q) (hb : B ≤ B') (hk : 1 ≤ q → q ≤ 100 → s 3 + q ≤ 9999 → s 3 + q ≤ B') (hB : B' ≤ 30000) {w3 w4 w5 w6 : Int32} : zC 229 334 [.ref 192, .int (zi 0), .int (zi q), .int w3, .int w4, .int w5, .int w6] G F 0 (zLc F 0 (q_tick s q).1 (zN [1, 0] ((q_tick s q).1, gI (q_tick s q).2)) (PGc B B' sv u9 h9 s (sTicks s q.toNat) (q_tick s q).1)) :=
  zLc_P (cL_tick (by decide) p.ok p.hR p.h0 p.h1 hq) (fun G' hx => PGc_of p hb (fun h0 => by
    unfold q_tick at h0
    split at h0
    · rename_i h1
      split at h0
      · cases h0
      · exact Fit_tk p.1.2 hb (by have := hk h1.1 h1.2 (by omega); omega) hB
    · cases h0) hx)
theorem pC_addLight (p : PG B sv u9 h9 s G) {x y b d : Int} (hx : zr x) (hy : zr y) (hb : zr b) (hd : zr d) {w6 : Int32} : zC 229 334 [.ref 192, .int (zi 1), .int (zi x), .int (zi y), .int (zi b), .int (zi d), .int w6] G F 0 (zLc F 0 (q_addLight s x y b).1 (zN [3, 1, 0] ((q_addLight s x y b).1, gI (q_addLight s x y b).2)) (PGc B B sv u9 h9 s (sAddL s x y b (zb (d = 1))) (q_addLight s x y b).1)) :=
  zLc_P (cL_addLight (by decide) p.ok p.hR p.h0 p.h1 hx hy hb hd) (fun G' hx9 => PGc_of p (Int.le_refl _) (fun h0 => by
    have b4 := p.ok.2.2.2.2.1
    unfold q_addLight at h0
    split at h0
    · rename_i h1
      split at h0
      · rename_i h2
        split at h0
        · cases h0
        · rename_i h3
          exact Fit_addL p.1.2 (by have : s 4 ≠ 8 := fun e => h3 (Or.inl e); omega) (by omega) (by omega) h2 zb_rng
      · cases h0
    · cases h0) hx9)
theorem pC_addTraveller (p : PG B sv u9 h9 s G) {x y : Int} (hx : zr x) (hy : zr y) {w4 w5 w6 : Int32} : zC 229 334 [.ref 192, .int (zi 2), .int (zi x), .int (zi y), .int w4, .int w5, .int w6] G F 0 (zLc F 0 (q_addTraveller s x y).1 (zN [3, 0] ((q_addTraveller s x y).1, gI (q_addTraveller s x y).2)) (PGc B B sv u9 h9 s (sAddW s x y) (q_addTraveller s x y).1)) :=
  zLc_P (cL_addTraveller (by decide) p.ok p.hR p.h0 p.h1 hx hy) (fun G' hx9 => PGc_of p (Int.le_refl _) (fun h0 => by
    have b5 := p.ok.2.2.2.2.2.1
    unfold q_addTraveller at h0
    split at h0
    · rename_i h1
      split at h0
      · cases h0
      · rename_i h3
        exact Fit_addW p.1.2 (by have : s 5 ≠ 6 := fun e => h3 (Or.inl e); omega) (by omega) (by omega)
    · cases h0) hx9)
theorem pC_setSuccessor (p : PG B sv u9 h9 s G) {l v : Int} (hl : zr l) (hv : zr v) {w4 w5 w6 : Int32} : zC 229 334 [.ref 192, .int (zi 3), .int (zi l), .int (zi v), .int w4, .int w5, .int w6] G F 0 (zLc F 0 (q_setSuccessor s l v).1 (zN [3, 1] ((q_setSuccessor s l v).1, gI (q_setSuccessor s l v).2)) (PGc B B sv u9 h9 s (zp s (174 + 5 * l + 4) v) (q_setSuccessor s l v).1)) :=
  zLc_P (cL_setSuccessor (by decide) p.ok p.hR p.h0 p.h1 hl hv) (fun G' hx9 => PGc_of p (Int.le_refl _) (fun h0 => by
    unfold q_setSuccessor at h0
    split at h0
    · rename_i h1
      split at h0
      · cases h0
      · rename_i h3
        exact Fit_suc p.1.2 h1.1.1 (by omega) (by omega) (fun e => h3 e.symm)
    · cases h0) hx9)
theorem pC_clearSuccessor (p : PG B sv u9 h9 s G) {l : Int} (hl : zr l) {w3 w4 w5 w6 : Int32} : zC 229 334 [.ref 192, .int (zi 4), .int (zi l), .int w3, .int w4, .int w5, .int w6] G F 0 (zLc F 0 (q_clearSuccessor s l).1 (zN [3, 2] ((q_clearSuccessor s l).1, gI (q_clearSuccessor s l).2)) (PGc B B sv u9 h9 s (zp s (174 + 5 * l + 4) (-1)) (q_clearSuccessor s l).1)) :=
  zLc_P (cL_clearSuccessor (by decide) p.ok p.hR p.h0 p.h1 hl) (fun G' hx9 => PGc_of p (Int.le_refl _) (fun h0 => by
    unfold q_clearSuccessor at h0
    split at h0
    · rename_i h1
      exact Fit_suc p.1.2 h1.1 (by omega) (by omega) (by omega)
    · cases h0) hx9)
theorem pC_layPlank (p : PG B sv u9 h9 s G) {x y q : Int} (hx : zr x) (hy : zr y) (hq : zr q) {w5 w6 : Int32} : zC 229 334 [.ref 192, .int (zi 5), .int (zi x), .int (zi y), .int (zi q), .int w5, .int w6] G F 0 (zLc F 0 (q_layPlank s x y q).1 (zN [3, 1, 0] ((q_layPlank s x y q).1, gI (q_layPlank s x y q).2)) (PGc B B sv u9 h9 s (zp s (30 + 12 * y + x) (10 + q)) (q_layPlank s x y q).1)) :=
  zLc_P (cL_layPlank (by decide) p.ok p.hR p.h0 p.h1 hx hy hq) (fun G' hx9 => PGc_of p (Int.le_refl _) (fun h0 => by
    unfold q_layPlank at h0
    split at h0
    · rename_i h1
      split at h0
      · rename_i h2
        split at h0
        · cases h0
        · rename_i h3
          exact Fit_lay p.1.2 (by omega) (by omega) h2 (fun e => h3 (Or.inr e))
      · cases h0
    · cases h0) hx9)
theorem pC_setClearness (p : PG B sv u9 h9 s G) {c : Int} (hc : zr c) {w3 w4 w5 w6 : Int32} : zC 229 334 [.ref 192, .int (zi 6), .int (zi c), .int w3, .int w4, .int w5, .int w6] G F 0 (zLc F 0 (q_setClearness s c).1 (zN [1] ((q_setClearness s c).1, gI (q_setClearness s c).2)) (PGc B B sv u9 h9 s (zp s 2 c) (q_setClearness s c).1)) :=
  zLc_P (cL_setClearness (by decide) p.ok p.hR p.h0 p.h1 hc) (fun G' hx9 => PGc_of p (Int.le_refl _) (fun h0 => by
    unfold q_setClearness at h0
    split at h0
    · rename_i h1
      exact Fit_cl p.1.2 h1
    · cases h0) hx9)
theorem pC_setFog (p : PG B sv u9 h9 s G) {k v : Int} (hk : zr k) (hv : zr v) {w4 w5 w6 : Int32} : zC 229 334 [.ref 192, .int (zi 7), .int (zi k), .int (zi v), .int w4, .int w5, .int w6] G F 0 (zLc F 0 (q_setFog s k v).1 (zN [3, 1] ((q_setFog s k v).1, gI (q_setFog s k v).2)) (PGc B B sv u9 h9 s (zp s (6 + k) v) (q_setFog s k v).1)) :=
  zLc_P (cL_setFog (by decide) p.ok p.hR p.h0 p.h1 hk hv) (fun G' hx9 => PGc_of p (Int.le_refl _) (fun h0 => by
    unfold q_setFog at h0
    split at h0
    · rename_i h1
      split at h0
      · rename_i h2
        exact Fit_fg p.1.2 (by omega) h2
      · cases h0
    · cases h0) hx9)
theorem pC_setTarget (p : PG B sv u9 h9 s G) {t l : Int} (ht : zr t) (hl : zr l) {w4 w5 w6 : Int32} : zC 229 334 [.ref 192, .int (zi 8), .int (zi t), .int (zi l), .int w4, .int w5, .int w6] G F 0 (zLc F 0 (q_setTarget s t l).1 (zN [3, 0] ((q_setTarget s t l).1, gI (q_setTarget s t l).2)) (PGc B B sv u9 h9 s (zp s (214 + 7 * t + 3) l) (q_setTarget s t l).1)) :=
  zLc_P (cL_setTarget (by decide) p.ok p.hR p.h0 p.h1 ht hl) (fun G' hx9 => PGc_of p (Int.le_refl _) (fun h0 => by
    unfold q_setTarget at h0
    split at h0
    · rename_i h1
      split at h0
      · cases h0
      · rename_i h3
        exact Fit_tgt p.1.2 h1.1.1 (by omega) (by omega) (Decidable.byContradiction (fun e => h3 e))
    · cases h0) hx9)
theorem pC_undo (p : PG B sv u9 h9 s G) {w2 w3 w4 w5 w6 : Int32} : zC 229 334 [.ref 192, .int (zi 9), .int w2, .int w3, .int w4, .int w5, .int w6] G F 0 (zLc F 0 (q_undo u9).1 (zN [0] ((q_undo u9).1, gI (q_undo u9).2)) (fun G' => (0 < u9 ∧ PG B sv (u9 - 1) (fun j => h9 (j + 1)) (h9 0) G') ∨ (u9 = 0 ∧ PG B sv u9 h9 s G'))) :=
  zLc_P (cL_undo (by decide) p.2.1.1 (fun hu => (p.2.1.2 0 (by omega)).1)) (fun G' hx => by
    have u8 := p.u8
    rcases hx with ⟨h0, hx⟩ | ⟨h0, hx⟩
    · have hu : u9 ≠ 0 := fun e => by
        rw [show q_undo u9 = (1, 0) from if_pos e] at h0
        cases h0
      exact Or.inl ⟨by omega, PG_un p (by omega) hx⟩
    · subst hx
      refine Or.inr ⟨Decidable.byContradiction (fun e => h0 ?_), p⟩
      rw [show q_undo u9 = (0, u9 - 1) from if_neg e])
theorem pC_save (p : PG B sv u9 h9 s G) {c : Int} (hc : 0 ≤ c ∧ c ≤ 1) {w3 w4 w5 w6 : Int32} : zC 229 334 [.ref 192, .int (zi 10), .int (zi c), .int w3, .int w4, .int w5, .int w6] G F 0 (zLc F 0 (q_save s c).1 (zN [3] ((q_save s c).1, gI (q_save s c).2)) (fun G' => ∃ sv', PG B sv' u9 h9 s G')) :=
  zLc_P (cL_saveSnapshot (by decide) p.ok p.hR (by omega)) (fun G' hx => by
    rcases hx with ⟨h0, hx⟩ | ⟨h0, hx⟩
    · exact ⟨_, PG_sv p hc hx⟩
    · subst hx
      exact ⟨_, p⟩)
theorem pC_restore (p : PG B sv u9 h9 s G) {c : Int} (hc : 0 ≤ c ∧ c ≤ 1) {w3 w4 w5 w6 : Int32} : ∃ q : Int × Int, (q.1 = 2 ∨ (q.1 = 0 ∧ 0 ≤ q.2 ∧ q.2 ≤ B)) ∧ zC 229 334 [.ref 192, .int (zi 11), .int (zi c), .int w3, .int w4, .int w5, .int w6] G F 0 (zLc F 0 q.1 (zN [3, 2] (q.1, gI q.2)) (fun G' => (q.1 = 0 ∧ ∃ u' h' s', PG B sv u' h' s' G') ∨ (q.1 ≠ 0 ∧ PG B sv u9 h9 s G'))) := by
  by_cases hk : G 196 c = 0
  · refine ⟨_, Or.inl ?_, zLc_P (cL_restoreSnapshot (by decide) p.ok p.hR p.h0 p.h1 (by omega) (t := s) p.ok (fun h => absurd hk h)) (fun G' hx => ?_)⟩
    · rw [show q_restore (G 196) s c = (2, 0) from (if_pos hc).trans (if_pos hk)]
    · rcases hx with ⟨h0, hx⟩ | ⟨h0, hx⟩
      · rw [show q_restore (G 196) s c = (2, 0) from (if_pos hc).trans (if_pos hk)] at h0
        cases h0
      · subst hx
        exact Or.inr ⟨h0, p⟩
  · obtain ⟨w, hw⟩ : ∃ w : Nat, (w : Int) - 10 = c := ⟨(c + 10).toNat, by omega⟩
    obtain ⟨r1, r2⟩ := p.2.2.1 w (by omega) (by omega) (by rw [hw]; exact hk)
    have b3 := r2.1.2.2.2.1
    refine ⟨_, Or.inr ?_, zLc_P (cL_restoreSnapshot (by decide) p.ok p.hR p.h0 p.h1 (by omega) (t := sv w) r2.1 (fun _ w2 h2 => by rw [show w2 = w by omega]; exact r1)) (fun G' hx => ?_)⟩
    · rw [show q_restore (G 196) (sv w) c = (0, sv w 3) from (if_pos hc).trans (if_neg hk)]
      exact ⟨rfl, b3.1, r2.2.1⟩
    · rcases hx with ⟨h0, hx⟩ | ⟨h0, hx⟩
      · exact Or.inl ⟨h0, _, _, _, PG_ch p hx r2⟩
      · subst hx
        exact Or.inr ⟨h0, p⟩
end DC
