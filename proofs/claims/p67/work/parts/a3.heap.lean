/-! Rules for runs over made cells: fields and arrays. -/
section W3
variable {u : WU} {y : Nat} {b : WB} {pc pc' : Nat} {L st st' : List Value} {G F : GM} {Y Y' : DY} {c d : Nat} {Q : WQ}
/-- a step that leaves the cells, with what holds at it -/
theorem ws_st1 {L' st' : List Value} (hv : wGd u b G F Y → w_vs (1000 + Y.2.2) L → w_vs (1000 + Y.2.2) st → w_vs (1000 + Y.2.2) L' ∧ w_vs (1000 + Y.2.2) st')
    (h : ∀ (p : Program) (l : Launch) (e : Env) (R : Room) (s : State) (m : MethodId) (args : Array Value) (below : List Frame) (meth : Method) (c0 : Code) (a0 : Nat → Nat) (A : Nat → Prop) (D : va_G) (cA : Nat → ClassId) (Qm : State → Prop) (ad : Nat → Nat) (H : Heap) (locs : List Loc) (sl : Array Slot) (cells slots : Nat),
      wCx u y b l a0 A D cA p R s m args meth c0 → wAt u y b a0 A D cA s G F Y c d ad H locs cells slots → z_has ad (zc2 y) (znl y) sl L →
      (∀ sl', z_has ad (zc2 y) (znl y) sl' L' → W p l e R s m args below meth c0 H locs cells slots Qm (F0 m pc' sl' (st'.map (z_cv ad)))) →
      W p l e R s m args below meth c0 H locs cells slots Qm (F0 m pc sl (st.map (z_cv ad))))
    (k : wW u y b pc' L' st' G F Y c d Q) : wW u y b pc L st G F Y c d Q := by
  intro g h1 h2 p l e R s m args below meth c0 a0 A D cA Qm hC hE ad H locs sl cells slots hA hL
  obtain ⟨v1, v2⟩ := hv g h1 h2
  exact h p l e R s m args below meth c0 a0 A D cA Qm ad H locs sl cells slots hC hA hL (fun sl' hl' => k g v1 v2 p l e R s m args below meth c0 a0 A D cA Qm hC hE ad H locs sl' cells slots hA hl')
/-- a step that changes made cells -/
theorem ws_m (hg : wGd u b G F Y → wGd u b G F Y') (hn : Y'.2.2 = Y.2.2) (hv : ∀ n, w_vs n L → w_vs n st → w_vs n st')
    (h : ∀ (p : Program) (l : Launch) (e : Env) (R : Room) (s : State) (m : MethodId) (args : Array Value) (below : List Frame) (meth : Method) (c0 : Code) (a0 : Nat → Nat) (A : Nat → Prop) (D : va_G) (cA : Nat → ClassId) (Qm : State → Prop) (ad : Nat → Nat) (H : Heap) (locs : List Loc) (sl : Array Slot) (cells slots : Nat),
      wCx u y b l a0 A D cA p R s m args meth c0 → va_P D vwCl (w_W u.1 ad cA G F Y) H → va_D A (w_W u.1 ad cA G F Y) → va_S A s.heap H locs → z_has ad (zc2 y) (znl y) sl L →
      (∀ H' locs', va_P D vwCl (w_W u.1 ad cA G F Y') H' → va_S A s.heap H' locs' → W p l e R s m args below meth c0 H' locs' cells slots Qm (F0 m pc' sl (st'.map (z_cv ad)))) →
      W p l e R s m args below meth c0 H locs cells slots Qm (F0 m pc sl (st.map (z_cv ad))))
    (k : wW u y b pc' L st' G F Y' c d Q) : wW u y b pc L st G F Y c d Q := by
  intro g h1 h2 p l e R s m args below meth c0 a0 A D cA Qm hC hE ad H locs sl cells slots hA hL
  obtain ⟨e1, e2, e3, hP, hD, hS⟩ := hA
  refine h p l e R s m args below meth c0 a0 A D cA Qm ad H locs sl cells slots hC hP hD hS hL (fun H' locs' hP' hS' => ?_)
  exact k (hg g) (by rw [hn]; exact h1) (by rw [hn]; exact hv _ h1 h2) p l e R s m args below meth c0 a0 A D cA Qm hC hE ad H' locs' sl cells slots ⟨e1, e2, e3, hP', w_D_c hD hn, hS'⟩ hL
theorem wGd_row {i : Nat} {E : Int → Int} (hE : ∀ j, zr (E j)) (g : wGd u b G F Y) : wGd u b G F (w_row Y i E) := by
  obtain ⟨g1, g2, g3, g4, g5, g6⟩ := g
  refine ⟨g1, g2, g3, fun k j => ?_, g5, g6⟩
  show zr (zk Y.1 i E k j)
  by_cases h : k = i
  · rw [h, zk_eq]; exact hE j
  · rw [zk_ne h]; exact g4 k j
theorem wGd_zp {i : Nat} {j v : Int} (hv : zr v) (g : wGd u b G F Y) : wGd u b G F (w_row Y i (zp (Y.1 i) j v)) := wGd_row (fun k => by
  by_cases h : k = j
  · rw [h, zp_eq]; exact hv
  · rw [zp_ne h]; exact g.2.2.2.1 i k) g
theorem wGd_put {i : Nat} {h : Sh} (hh : w_sh (1000 + Y.2.2) h) (g : wGd u b G F Y) : wGd u b G F (w_put Y i h (Y.1 i)) := by
  obtain ⟨g1, g2, g3, g4, g5, g6⟩ := g
  refine ⟨g1, g2, g3, ?_, w_ok_put g5 hh, g6⟩
  show zrM (zk Y.1 i (Y.1 i))
  rw [zk_self]
  exact g4
theorem w_ix {n : Nat} {j : Int} (hj : 0 ≤ j ∧ j < n ∧ j ≤ 2147483647) : vp_in (zi j) n := zi_ix hj
theorem w_at {E : Int → Int} {j : Int} (hj : 0 ≤ j ∧ j ≤ 2147483647) : E (((zi j).toNatClampNeg : Nat) : Int) = E j := by
  rw [zi_n ⟨by omega, hj.2⟩, Int.toNat_of_nonneg hj.1]
theorem w_upd {E : Int → Int} {j v : Int} (hj : 0 ≤ j ∧ j ≤ 2147483647) : upd (fun k : Nat => zi (E (k : Int))) (zi j).toNatClampNeg (zi v) = fun k : Nat => zi (zp E j v (k : Int)) := by
  rw [zi_n ⟨by omega, hj.2⟩]
  funext k
  unfold upd zp
  by_cases h : k = j.toNat
  · rw [if_pos h, if_pos (by omega)]
  · rw [if_neg h, if_neg (by omega)]
theorem wi_iald {r i n : Nat} {cs : List Nat} {j : Int} (hd : decode (zbc y) pc = .ok (.iaload, 1)) (hp : pc + 1 = pc') (hr : r = 1000 + i) (hi : i < Y.2.2) (hs : Y.2.1 i = (1, n, cs)) (hj : 0 ≤ j ∧ j < n ∧ j ≤ 2147483647) (k : wW u y b pc' L (.int (zi (Y.1 i j)) :: st) G F Y c d Q) : wW u y b pc L (.int (zi j) :: .ref r :: st) G F Y c d Q := by
  subst hp
  subst hr
  refine ws_st (fun n h1 h2 => ⟨h1, w_vs_c (w_v_i n _) (w_vs_t (w_vs_t h2))⟩) (fun p l e R s m args below meth c0 a0 A D cA Qm ad H locs sl cells slots hC hA hL kk => ?_) k
  obtain ⟨hx, hb, hml, hown, hts, hr, hlk, hnm, hfr, hlo, hce, hse, hK, hZ, hAn, hst⟩ := hC
  have kk := kk sl hL
  refine va_iald hx hb hK.1 hA.2.2.2.1 (u.1 + i) 0 (by rw [w_W_hi hi, w_el_ints hs (by decide)]) rfl (w_ix hj) hd ?_
  have e9 : zi (Y.1 i ((((zi j).toNatClampNeg : Nat)) : Int)) = zi (Y.1 i j) := congrArg zi (w_at ⟨hj.1, hj.2.2⟩)
  show W _ _ _ _ _ _ _ _ _ _ _ _ _ _ _ (F0 m (pc + 1) sl (.int (zi (Y.1 i ((((zi j).toNatClampNeg : Nat)) : Int))) :: _))
  rw [e9]
  exact kk
theorem wi_bald {r i n : Nat} {cs : List Nat} {j : Int} (hd : decode (zbc y) pc = .ok (.baload, 1)) (hp : pc + 1 = pc') (hr : r = 1000 + i) (hi : i < Y.2.2) (hs : Y.2.1 i = (2, n, cs)) (hj : 0 ≤ j ∧ j < n ∧ j ≤ 2147483647) (k : wW u y b pc' L (.int (zi (Y.1 i j)) :: st) G F Y c d Q) : wW u y b pc L (.int (zi j) :: .ref r :: st) G F Y c d Q := by
  subst hp
  subst hr
  refine ws_st (fun n h1 h2 => ⟨h1, w_vs_c (w_v_i n _) (w_vs_t (w_vs_t h2))⟩) (fun p l e R s m args below meth c0 a0 A D cA Qm ad H locs sl cells slots hC hA hL kk => ?_) k
  obtain ⟨hx, hb, hml, hown, hts, hr, hlk, hnm, hfr, hlo, hce, hse, hK, hZ, hAn, hst⟩ := hC
  have kk := kk sl hL
  refine va_bald hx hb hK.1 hA.2.2.2.1 (u.1 + i) 1 (by rw [w_W_hi hi, w_el_ints hs (by decide)]) rfl (w_ix hj) hd ?_
  have e9 : zi (Y.1 i ((((zi j).toNatClampNeg : Nat)) : Int)) = zi (Y.1 i j) := congrArg zi (w_at ⟨hj.1, hj.2.2⟩)
  show W _ _ _ _ _ _ _ _ _ _ _ _ _ _ _ (F0 m (pc + 1) sl (.int (zi (Y.1 i ((((zi j).toNatClampNeg : Nat)) : Int))) :: _))
  rw [e9]
  exact kk
theorem wi_zald {r i n : Nat} {cs : List Nat} {j : Int} (hd : decode (zbc y) pc = .ok (.baload, 1)) (hp : pc + 1 = pc') (hr : r = 1000 + i) (hi : i < Y.2.2) (hs : Y.2.1 i = (3, n, cs)) (hj : 0 ≤ j ∧ j < n ∧ j ≤ 2147483647) (k : wW u y b pc' L (.int (zi (Y.1 i j)) :: st) G F Y c d Q) : wW u y b pc L (.int (zi j) :: .ref r :: st) G F Y c d Q := by
  subst hp
  subst hr
  refine ws_st (fun n h1 h2 => ⟨h1, w_vs_c (w_v_i n _) (w_vs_t (w_vs_t h2))⟩) (fun p l e R s m args below meth c0 a0 A D cA Qm ad H locs sl cells slots hC hA hL kk => ?_) k
  obtain ⟨hx, hb, hml, hown, hts, hr, hlk, hnm, hfr, hlo, hce, hse, hK, hZ, hAn, hst⟩ := hC
  have kk := kk sl hL
  refine va_zald hx hb hK.1 hA.2.2.2.1 (u.1 + i) 2 (by rw [w_W_hi hi, w_el_ints hs (by decide)]) rfl (w_ix hj) hd ?_
  have e9 : zi (Y.1 i ((((zi j).toNatClampNeg : Nat)) : Int)) = zi (Y.1 i j) := congrArg zi (w_at ⟨hj.1, hj.2.2⟩)
  show W _ _ _ _ _ _ _ _ _ _ _ _ _ _ _ (F0 m (pc + 1) sl (.int (zi (Y.1 i ((((zi j).toNatClampNeg : Nat)) : Int))) :: _))
  rw [e9]
  exact kk
theorem wi_cald {r i n : Nat} {cs : List Nat} {j : Int} (hd : decode (zbc y) pc = .ok (.caload, 1)) (hp : pc + 1 = pc') (hr : r = 1000 + i) (hi : i < Y.2.2) (hs : Y.2.1 i = (7, n, cs)) (hj : 0 ≤ j ∧ j < n ∧ j ≤ 2147483647) (k : wW u y b pc' L (.int (zi (Y.1 i j)) :: st) G F Y c d Q) : wW u y b pc L (.int (zi j) :: .ref r :: st) G F Y c d Q := by
  subst hp
  subst hr
  refine ws_st (fun n h1 h2 => ⟨h1, w_vs_c (w_v_i n _) (w_vs_t (w_vs_t h2))⟩) (fun p l e R s m args below meth c0 a0 A D cA Qm ad H locs sl cells slots hC hA hL kk => ?_) k
  obtain ⟨hx, hb, hml, hown, hts, hr, hlk, hnm, hfr, hlo, hce, hse, hK, hZ, hAn, hst⟩ := hC
  have kk := kk sl hL
  refine va_cald hx hb hK.1 hA.2.2.2.1 (u.1 + i) 6 (by rw [w_W_hi hi, w_el_ints hs (by decide)]) rfl (w_ix hj) hd ?_
  have e9 : zi (Y.1 i ((((zi j).toNatClampNeg : Nat)) : Int)) = zi (Y.1 i j) := congrArg zi (w_at ⟨hj.1, hj.2.2⟩)
  show W _ _ _ _ _ _ _ _ _ _ _ _ _ _ _ (F0 m (pc + 1) sl (.int (zi (Y.1 i ((((zi j).toNatClampNeg : Nat)) : Int))) :: _))
  rw [e9]
  exact kk
theorem w_nb {v : Int} (h : 0 ≤ v ∧ v ≤ 127) : vp_nar .byte (zi v) = zi v := by
  have a : ((List.range 128).all fun n => decide (vp_nar .byte (zi (n : Int)) = zi (n : Int))) = true := by decide +kernel
  have b := of_decide_eq_true (List.all_eq_true.mp a v.toNat (List.mem_range.mpr (by omega)))
  rwa [Int.toNat_of_nonneg h.1] at b
theorem w_nz {v : Int} (h : 0 ≤ v ∧ v ≤ 1) : vp_nar .boolean (zi v) = zi v := by
  rcases (show v = 0 ∨ v = 1 by omega) with rfl | rfl <;> decide +kernel
theorem w_nc {v : Int} (h : 0 ≤ v ∧ v ≤ 127) : vp_nar .char (zi v) = zi v := by
  have a : ((List.range 128).all fun n => decide (vp_nar .char (zi (n : Int)) = zi (n : Int))) = true := by decide +kernel
  have b := of_decide_eq_true (List.all_eq_true.mp a v.toNat (List.mem_range.mpr (by omega)))
  rwa [Int.toNat_of_nonneg h.1] at b
theorem wi_iast {r i n : Nat} {cs : List Nat} {j v : Int} (hd : decode (zbc y) pc = .ok (.iastore, 1)) (hp : pc + 1 = pc') (hr : r = 1000 + i) (hi : i < Y.2.2) (hs : Y.2.1 i = (1, n, cs)) (hj : 0 ≤ j ∧ j < n ∧ j ≤ 2147483647) (hv : zr v) (k : wW u y b pc' L st G F (w_row Y i (zp (Y.1 i) j v)) c d Q) : wW u y b pc L (.int (zi v) :: .int (zi j) :: .ref r :: st) G F Y c d Q := by
  subst hp
  subst hr
  refine ws_m (st' := st) (fun g => wGd_zp hv g) rfl (fun n h1 h2 => w_vs_t (w_vs_t (w_vs_t h2))) (fun p l e R s m args below meth c0 a0 A D cA Qm ad H locs sl cells slots hC hP hD hS hL kk => ?_) k
  obtain ⟨hx, hb, hml, hown, hts, hr, hlk, hnm, hfr, hlo, hce, hse, hK, hZ, hAn, hst⟩ := hC
  refine va_iast hx hb hK.1 hP hD hS (u.1 + i) 0 (by rw [w_W_hi hi, w_el_ints hs (by decide)]) rfl (w_ix hj) hd (fun H1 locs1 hP1 hD1 hS1 => ?_)
  rw [w_upd ⟨hj.1, hj.2.2⟩, ← w_el_ints (ad := ad) (cA := cA) (E := zp (Y.1 i) j v) hs (by decide), w_W_row hi] at hP1
  exact kk H1 locs1 hP1 hS1
theorem wi_bast {r i n : Nat} {cs : List Nat} {j v : Int} (hd : decode (zbc y) pc = .ok (.bastore, 1)) (hp : pc + 1 = pc') (hr : r = 1000 + i) (hi : i < Y.2.2) (hs : Y.2.1 i = (2, n, cs)) (hj : 0 ≤ j ∧ j < n ∧ j ≤ 2147483647) (hv : zr v) (hr9 : 0 ≤ v ∧ v ≤ 127) (k : wW u y b pc' L st G F (w_row Y i (zp (Y.1 i) j v)) c d Q) : wW u y b pc L (.int (zi v) :: .int (zi j) :: .ref r :: st) G F Y c d Q := by
  subst hp
  subst hr
  refine ws_m (st' := st) (fun g => wGd_zp hv g) rfl (fun n h1 h2 => w_vs_t (w_vs_t (w_vs_t h2))) (fun p l e R s m args below meth c0 a0 A D cA Qm ad H locs sl cells slots hC hP hD hS hL kk => ?_) k
  obtain ⟨hx, hb, hml, hown, hts, hr, hlk, hnm, hfr, hlo, hce, hse, hK, hZ, hAn, hst⟩ := hC
  refine va_bast hx hb hK.1 hP hD hS (u.1 + i) 1 (by rw [w_W_hi hi, w_el_ints hs (by decide)]) rfl (w_ix hj) hd (fun H1 locs1 hP1 hD1 hS1 => ?_)
  rw [w_nb hr9] at hP1
  rw [w_upd ⟨hj.1, hj.2.2⟩, ← w_el_ints (ad := ad) (cA := cA) (E := zp (Y.1 i) j v) hs (by decide), w_W_row hi] at hP1
  exact kk H1 locs1 hP1 hS1
theorem wi_zast {r i n : Nat} {cs : List Nat} {j v : Int} (hd : decode (zbc y) pc = .ok (.bastore, 1)) (hp : pc + 1 = pc') (hr : r = 1000 + i) (hi : i < Y.2.2) (hs : Y.2.1 i = (3, n, cs)) (hj : 0 ≤ j ∧ j < n ∧ j ≤ 2147483647) (hv : zr v) (hr9 : 0 ≤ v ∧ v ≤ 1) (k : wW u y b pc' L st G F (w_row Y i (zp (Y.1 i) j v)) c d Q) : wW u y b pc L (.int (zi v) :: .int (zi j) :: .ref r :: st) G F Y c d Q := by
  subst hp
  subst hr
  refine ws_m (st' := st) (fun g => wGd_zp hv g) rfl (fun n h1 h2 => w_vs_t (w_vs_t (w_vs_t h2))) (fun p l e R s m args below meth c0 a0 A D cA Qm ad H locs sl cells slots hC hP hD hS hL kk => ?_) k
  obtain ⟨hx, hb, hml, hown, hts, hr, hlk, hnm, hfr, hlo, hce, hse, hK, hZ, hAn, hst⟩ := hC
  refine va_zast hx hb hK.1 hP hD hS (u.1 + i) 2 (by rw [w_W_hi hi, w_el_ints hs (by decide)]) rfl (w_ix hj) hd (fun H1 locs1 hP1 hD1 hS1 => ?_)
  rw [w_nz hr9] at hP1
  rw [w_upd ⟨hj.1, hj.2.2⟩, ← w_el_ints (ad := ad) (cA := cA) (E := zp (Y.1 i) j v) hs (by decide), w_W_row hi] at hP1
  exact kk H1 locs1 hP1 hS1
theorem wi_cast {r i n : Nat} {cs : List Nat} {j v : Int} (hd : decode (zbc y) pc = .ok (.castore, 1)) (hp : pc + 1 = pc') (hr : r = 1000 + i) (hi : i < Y.2.2) (hs : Y.2.1 i = (7, n, cs)) (hj : 0 ≤ j ∧ j < n ∧ j ≤ 2147483647) (hv : zr v) (hr9 : 0 ≤ v ∧ v ≤ 127) (k : wW u y b pc' L st G F (w_row Y i (zp (Y.1 i) j v)) c d Q) : wW u y b pc L (.int (zi v) :: .int (zi j) :: .ref r :: st) G F Y c d Q := by
  subst hp
  subst hr
  refine ws_m (st' := st) (fun g => wGd_zp hv g) rfl (fun n h1 h2 => w_vs_t (w_vs_t (w_vs_t h2))) (fun p l e R s m args below meth c0 a0 A D cA Qm ad H locs sl cells slots hC hP hD hS hL kk => ?_) k
  obtain ⟨hx, hb, hml, hown, hts, hr, hlk, hnm, hfr, hlo, hce, hse, hK, hZ, hAn, hst⟩ := hC
  refine va_cast hx hb hK.1 hP hD hS (u.1 + i) 6 (by rw [w_W_hi hi, w_el_ints hs (by decide)]) rfl (w_ix hj) hd (fun H1 locs1 hP1 hD1 hS1 => ?_)
  rw [w_nc hr9] at hP1
  rw [w_upd ⟨hj.1, hj.2.2⟩, ← w_el_ints (ad := ad) (cA := cA) (E := zp (Y.1 i) j v) hs (by decide), w_W_row hi] at hP1
  exact kk H1 locs1 hP1 hS1
theorem wi_alen {r i t n : Nat} {cs : List Nat} (hd : decode (zbc y) pc = .ok (.arraylength, 1)) (hp : pc + 1 = pc') (hr : r = 1000 + i) (hi : i < Y.2.2) (hs : Y.2.1 i = (t, n, cs)) (ht : t = 1 ∨ t = 2 ∨ t = 3 ∨ t = 7) (k : wW u y b pc' L (.int (zi (n : Int)) :: st) G F Y c d Q) : wW u y b pc L (.ref r :: st) G F Y c d Q := by
  subst hp
  subst hr
  refine ws_st (fun n h1 h2 => ⟨h1, w_vs_c (w_v_i n _) (w_vs_t h2)⟩) (fun p l e R s m args below meth c0 a0 A D cA Qm ad H locs sl cells slots hC hA hL kk => ?_) k
  obtain ⟨hx, hb, hml, hown, hts, hr, hlk, hnm, hfr, hlo, hce, hse, hK, hZ, hAn, hst⟩ := hC
  have kk := kk sl hL
  rcases ht with rfl | rfl | rfl | rfl
  · exact va_alen hx hb hK.1 hA.2.2.2.1 (u.1 + i) 0 ((w_W_hi hi).trans (congrArg (fun z => some (ad (1000 + i), z)) (w_el_ints hs (by decide)))) rfl rfl hd kk
  · exact va_alen hx hb hK.1 hA.2.2.2.1 (u.1 + i) 1 ((w_W_hi hi).trans (congrArg (fun z => some (ad (1000 + i), z)) (w_el_ints hs (by decide)))) rfl rfl hd kk
  · exact va_alen hx hb hK.1 hA.2.2.2.1 (u.1 + i) 2 ((w_W_hi hi).trans (congrArg (fun z => some (ad (1000 + i), z)) (w_el_ints hs (by decide)))) rfl rfl hd kk
  · exact va_alen hx hb hK.1 hA.2.2.2.1 (u.1 + i) 6 ((w_W_hi hi).trans (congrArg (fun z => some (ad (1000 + i), z)) (w_el_ints hs (by decide)))) rfl rfl hd kk
/-- a row of rows -/
theorem w_aldA {p : Program} {l : Launch} {e : Env} {R : Room} {s : State} {m : MethodId} {args : Array Value} {below : List Frame} {meth : Method} {c : Code} {H : Heap} {locs : List Loc} {cells slots : Nat} {Q : State → Prop} {cc : ByteArray} {pc : Nat} {ls : Array Slot} {rest : List Value} {D : va_G} {cl : List vw_C} {a : Nat} {tys : List (ClassId × FieldType)} {ws : va_W}
    (hexec : p.tables.exec = Jvm.exec) (hb : c.code = cc) (hK : va_K D cl tys s) (hP : va_P D cl ws H) (q0 t0 : Nat) {cA : ClassId} {ty : FieldType} {n : Nat} {f : Nat → Option Nat} (ha : ws[q0]? = some (a, .inl (cA, n, .inr (.inr (.inr (.inr f)))))) (ht : tys[t0]? = some (cA, .array ty)) {i : Int32} (hin : vp_in i n) (hdg : decode cc pc = .ok (.aaload, 1))
    (kk : W p l e R s m args below meth c H locs cells slots Q (F0 m (pc + 1) ls (va_rf (f i.toNatClampNeg) :: rest))) : W p l e R s m args below meth c H locs cells slots Q (F0 m pc ls (.int i :: .ref a :: rest)) := by
  have hlt : i.toNatClampNeg < n := Nat.not_le.mp fun q => hin (Or.inr q)
  exact W.aald (v := va_rf (f i.toNatClampNeg)) (ty := .array ty) hexec hb (hP q0 _ ha) ((hK.2 t0 _ ht).1 n (fun j => va_rf (f j))) rfl (fun q => by cases q) (by show ¬ (i < 0 ∨ (arrV _ _ _).slots.size ≤ _); rw [arrV_size]; exact hin) (by show (arrV _ _ _).slots[_]? = _; rw [arrV_read _ _ hlt]) rfl rfl hdg kk
theorem wi_aald {r i t n q : Nat} {cs : List Nat} {j : Int} (hd : decode (zbc y) pc = .ok (.aaload, 1)) (hp : pc + 1 = pc') (hr : r = 1000 + i) (hi : i < Y.2.2) (hs : Y.2.1 i = (t, n, cs)) (ht : t = 8 ∨ t = 9 ∨ t = 10) (hj : 0 ≤ j ∧ j < n ∧ j ≤ 2147483647) (hq : cs[j.toNat]? = some q) (k : wW u y b pc' L (.ref q :: st) G F Y c d Q) : wW u y b pc L (.int (zi j) :: .ref r :: st) G F Y c d Q := by
  subst hp
  subst hr
  refine ws_st1 (fun g h1 h2 => ⟨h1, w_vs_c (w_v_r ?_) (w_vs_t (w_vs_t h2))⟩) ?_ k
  · exact ((g.2.2.2.2.1 i hi) q (by rw [hs]; exact List.mem_of_getElem? hq)).2 (by rw [hs]; show 8 ≤ t; omega)
  · intro p l e R s m args below meth c0 a0 A D cA Qm ad H locs sl cells slots hC hA hL kk
    obtain ⟨hx, hb, hml, hown, hts, hr, hlk, hnm, hfr, hlo, hce, hse, hK, hZ, hAn, hst⟩ := hC
    have kk := kk sl hL
    have hv : va_rf ((cs[(zi j).toNatClampNeg]?).map ad) = z_cv ad (.ref q) := by
      rw [zi_n ⟨by omega, hj.2.2⟩, hq]
      rfl
    rcases ht with rfl | rfl | rfl
    · exact w_aldA hx hb hK.1 hA.2.2.2.1 (u.1 + i) 7 (by rw [w_W_hi hi, w_el_refs hs (by decide)]) rfl (w_ix hj) hd (by rw [hv]; exact kk)
    · exact w_aldA hx hb hK.1 hA.2.2.2.1 (u.1 + i) 8 (by rw [w_W_hi hi, w_el_refs hs (by decide)]) rfl (w_ix hj) hd (by rw [hv]; exact kk)
    · exact w_aldA hx hb hK.1 hA.2.2.2.1 (u.1 + i) 9 (by rw [w_W_hi hi, w_el_refs hs (by decide)]) rfl (w_ix hj) hd (by rw [hv]; exact kk)
end W3
