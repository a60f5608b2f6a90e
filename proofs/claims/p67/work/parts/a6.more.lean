/-! Runs over made cells: copies, clones, rows of rows. -/
theorem wq_same : Cond.sameMethod "[B" "java/lang/Object" "clone" "()Ljava/lang/Object;" ∈ zTs := z_in (i := 1172) (by decide +kernel) (by decide +kernel)
theorem wq_nat : Cond.native ⟨"java/lang/Object", "clone", "()Ljava/lang/Object;"⟩ ∈ zTs := z_in (i := 1173) (by decide +kernel) (by decide +kernel)
theorem wq_inst : Cond.instanceMethod ⟨"java/lang/Object", "clone", "()Ljava/lang/Object;"⟩ ∈ zTs := z_in (i := 1174) (by decide +kernel) (by decide +kernel)
theorem wq_sel : Cond.selects "[B" ⟨"[B", "clone", "()Ljava/lang/Object;"⟩ ⟨"java/lang/Object", "clone", "()Ljava/lang/Object;"⟩ ∈ zTs := z_in (i := 1175) (by decide +kernel) (by decide +kernel)
theorem wq_arr_int : Cond.arrayClass .int ∈ zTs := z_in (i := 103) (by decide +kernel) (by decide +kernel)
theorem wq_arr_char : Cond.arrayClass .char ∈ zTs := z_in (i := 1369) (by decide +kernel) (by decide +kernel)
theorem wq_arr_boolean : Cond.arrayClass .boolean ∈ zTs := z_in (i := 269) (by decide +kernel) (by decide +kernel)
theorem wq_arr_byte : Cond.arrayClass .byte ∈ zTs := z_in (i := 270) (by decide +kernel) (by decide +kernel)
theorem wq_acn : Cond.native arraycopyName ∈ zTs := z_in (i := 663) (by decide +kernel) (by decide +kernel)
theorem wq_acs : Cond.static arraycopyName ∈ zTs := z_in (i := 662) (by decide +kernel) (by decide +kernel)
theorem wq_aci : Cond.initialized "java/lang/System" ∈ zTs := z_in (i := 52) (by decide +kernel) (by decide +kernel)
/-- a part of f put into g -/
def w_cpy (f g : Int → Int) (sp dp n : Int) : Int → Int := fun j => if dp ≤ j ∧ j < dp + n then f (sp + (j - dp)) else g j
theorem w_fitB {v : Int} (h : 0 ≤ v ∧ v ≤ 127) : fits .byte (.int (zi v)) = true := by
  have a : ((List.range 128).all fun n => fits .byte (.int (zi (n : Int)))) = true := by decide +kernel
  have b := List.all_eq_true.mp a v.toNat (List.mem_range.mpr (by omega))
  rwa [Int.toNat_of_nonneg h.1] at b
theorem w_cpyE {f g : Int → Int} {sp dp n : Int} (h1 : 0 ≤ sp ∧ sp ≤ 2147483647) (h2 : 0 ≤ dp ∧ dp ≤ 2147483647) (h3 : 0 ≤ n ∧ n ≤ 2147483647) : va_cpy (fun k : Nat => zi (f (k : Int))) (fun k : Nat => zi (g (k : Int))) (zi sp).toNatClampNeg (zi dp).toNatClampNeg (zi n).toNatClampNeg = fun k : Nat => zi (w_cpy f g sp dp n (k : Int)) := by
  rw [zi_n ⟨by omega, h1.2⟩, zi_n ⟨by omega, h2.2⟩, zi_n ⟨by omega, h3.2⟩]
  funext k
  unfold va_cpy w_cpy
  by_cases h : dp.toNat ≤ k ∧ k < dp.toNat + n.toNat
  · rw [if_pos h, if_pos (by omega)]
    have e : ((sp.toNat + (k - dp.toNat) : Nat) : Int) = sp + ((k : Int) - dp) := by omega
    show zi (f ((sp.toNat + (k - dp.toNat) : Nat) : Int)) = _
    rw [e]
  · rw [if_neg h, if_neg (by omega)]
theorem w_neg {v : Int} (h : 0 ≤ v ∧ v ≤ 2147483647) : ¬ zi v < 0 := fun hz => by
  have h9 := (zi_lt (a := v) (b := 0) ⟨by omega, h.2⟩ zr0).mp (by rw [zi_k0]; exact hz)
  omega
theorem w_cpyZ {f g : Int → Int} {sp dp n : Int} (hf : ∀ j, zr (f j)) (hg : ∀ j, zr (g j)) : ∀ j, zr (w_cpy f g sp dp n j) := fun j => by
  unfold w_cpy
  split
  · exact hf _
  · exact hg _
section W6
variable {u : WU} {y : Nat} {b : WB} {pc pc' : Nat} {L st st' : List Value} {G F : GM} {Y : DY} {c d : Nat} {Q : WQ}
/-- System.arraycopy of bytes, from a made cell -/
theorem wi_acp {index r0 r1 i0 i1 n0 n1 : Nat} {sp dp n : Int} (hd : decode (zbc y) pc = .ok (.invokestatic index, 3)) (hp : pc + 3 = pc') (hw : Cond.methodLink (zyn y).cls index arraycopyName ∈ zTs) (hf1 : 1 ≤ zfr y) (hl1 : 8 + (nativeFrameWords "java/lang/System" "arraycopy" 5 + 11) ≤ zlo y) (hr0 : r0 = 1000 + i0) (hr1 : r1 = 1000 + i1) (hi0 : i0 < Y.2.2) (hi1 : i1 < Y.2.2) (hs0 : Y.2.1 i0 = (2, n0, [])) (hs1 : Y.2.1 i1 = (2, n1, [])) (hsp : 0 ≤ sp) (hdp : 0 ≤ dp) (hn : 0 ≤ n) (hb0 : sp + n ≤ n0) (hb1 : dp + n ≤ n1) (hbig : n0 ≤ 100000 ∧ n1 ≤ 100000) (hE : ∀ j, sp ≤ j → j < sp + n → 0 ≤ Y.1 i0 j ∧ Y.1 i0 j ≤ 127) (h4 : st.length ≤ 4)
    (k : wW u y b pc' L st G F (w_row Y i1 (w_cpy (Y.1 i0) (Y.1 i1) sp dp n)) c d Q) : wW u y b pc L (.int (zi n) :: .int (zi dp) :: .ref r1 :: .int (zi sp) :: .ref r0 :: st) G F Y c d Q := by
  subst hp
  subst hr0
  subst hr1
  refine ws_m (st' := st) (fun g => wGd_row (w_cpyZ (fun j => g.2.2.2.1 i0 j) (fun j => g.2.2.2.1 i1 j)) g) rfl (fun n h1 h2 => w_vs_t (w_vs_t (w_vs_t (w_vs_t (w_vs_t h2))))) (fun p l e R s m args below meth c0 a0 A D cA Qm ad H locs sl cells slots hC hP hD hS hL kk => ?_) k
  obtain ⟨hx, hb, hml, hown, hts, hr, hlk, hnm, hfr, hlo, hce, hse, hK, hZ, hAn, hst⟩ := hC
  have z1 : 0 ≤ sp ∧ sp ≤ 2147483647 := ⟨hsp, by omega⟩
  have z2 : 0 ≤ dp ∧ dp ≤ 2147483647 := ⟨hdp, by omega⟩
  have z3 : 0 ≤ n ∧ n ≤ 2147483647 := ⟨hn, by omega⟩
  refine va_copyi hx hb (by rw [hml]; exact hL.1.1.symm) hown (hts _ hw) (hts _ wq_acn) (hts _ wq_acs) (hts _ wq_aci) hK.1 hP hD hS (u.1 + i0) (u.1 + i1) 1 1 (ty := .byte) (f := fun k : Nat => zi (Y.1 i0 (k : Int))) (g := fun k : Nat => zi (Y.1 i1 (k : Int))) (by rw [w_W_hi hi0, w_el_ints hs0 (by decide)]) (by rw [w_W_hi hi1, w_el_ints hs1 (by decide)]) rfl rfl rfl (w_neg z1) (w_neg z2) (w_neg z3) (by rw [zi_n ⟨by omega, z1.2⟩, zi_n ⟨by omega, z3.2⟩]; omega) (by rw [zi_n ⟨by omega, z2.2⟩, zi_n ⟨by omega, z3.2⟩]; omega) (fun k hk => ?_) (by rw [hfr]; exact hf1) ?_ hd (fun H1 locs1 hP1 hD1 hS1 => ?_)
  · rw [zi_n ⟨by omega, z3.2⟩] at hk
    rw [zi_n ⟨by omega, z1.2⟩]
    exact w_fitB (hE _ (by omega) (by omega))
  · have h9 := w_cats (f := z_cv ad) (n := 4) h4
    rw [hlo]
    omega
  · rw [w_cpyE z1 z2 z3, ← w_el_ints (ad := ad) (cA := cA) (E := w_cpy (Y.1 i0) (Y.1 i1) sp dp n) hs1 (by decide), w_W_row hi1] at hP1
    exact kk H1 locs1 hP1 hS1
/-- a step that changes made cells, with what is known of the addresses -/
theorem ws_m9 {Y' : DY} (hg : wGd u b G F Y → wGd u b G F Y') (hn : Y'.2.2 = Y.2.2) (hv : ∀ n, w_vs n L → w_vs n st → w_vs n st')
    (h : ∀ (p : Program) (l : Launch) (e : Env) (R : Room) (s : State) (m : MethodId) (args : Array Value) (below : List Frame) (meth : Method) (c0 : Code) (a0 : Nat → Nat) (A : Nat → Prop) (D : va_G) (cA : Nat → ClassId) (Qm : State → Prop) (ad : Nat → Nat) (H : Heap) (locs : List Loc) (sl : Array Slot) (cells slots : Nat),
      wCx u y b l a0 A D cA p R s m args meth c0 → (∀ k, k < 1000 + b.2.2 → ad k = a0 k) → va_P D vwCl (w_W u.1 ad cA G F Y) H → va_D A (w_W u.1 ad cA G F Y) → va_S A s.heap H locs → z_has ad (zc2 y) (znl y) sl L →
      (∀ H' locs', va_P D vwCl (w_W u.1 ad cA G F Y') H' → va_S A s.heap H' locs' → W p l e R s m args below meth c0 H' locs' cells slots Qm (F0 m pc' sl (st'.map (z_cv ad)))) →
      W p l e R s m args below meth c0 H locs cells slots Qm (F0 m pc sl (st.map (z_cv ad))))
    (k : wW u y b pc' L st' G F Y' c d Q) : wW u y b pc L st G F Y c d Q := by
  intro g h1 h2 p l e R s m args below meth c0 a0 A D cA Qm hC hE ad H locs sl cells slots hA hL
  obtain ⟨e1, e2, e3, hP, hD, hS⟩ := hA
  refine h p l e R s m args below meth c0 a0 A D cA Qm ad H locs sl cells slots hC e1 hP hD hS hL (fun H' locs' hP' hS' => ?_)
  exact k (hg g) (by rw [hn]; exact h1) (by rw [hn]; exact hv _ h1 h2) p l e R s m args below meth c0 a0 A D cA Qm hC hE ad H' locs' sl cells slots ⟨e1, e2, e3, hP', w_D_c hD hn, hS'⟩ hL
/-- System.arraycopy of bytes, from a constant's -/
theorem wi_acc {index r1 i i1 n1 : Nat} {sp dp n : Int} {f : Int → Int} (hd : decode (zbc y) pc = .ok (.invokestatic index, 3)) (hp : pc + 3 = pc') (hw : Cond.methodLink (zyn y).cls index arraycopyName ∈ zTs) (hf1 : 1 ≤ zfr y) (hl1 : 8 + (nativeFrameWords "java/lang/System" "arraycopy" 5 + 11) ≤ zlo y) (hi : i < 10) (hr1 : r1 = 1000 + i1) (hi1 : i1 < Y.2.2) (hs1 : Y.2.1 i1 = (2, n1, [])) (hsp : 0 ≤ sp) (hdp : 0 ≤ dp) (hn : 0 ≤ n) (hb0 : sp + n ≤ (wSl.getD i 0 : Nat)) (hbs : wSl.getD i 0 ≤ 100000) (hb1 : dp + n ≤ n1) (hbig : n1 ≤ 100000) (hE : ∀ j : Nat, j < wSl.getD i 0 → (wSb.getD i []).getD j 0 = zi (f (j : Int)) ∧ 0 ≤ f (j : Int) ∧ f (j : Int) ≤ 127) (hf0 : ∀ j, zr (f j)) (h4 : st.length ≤ 4)
    (k : wW u y b pc' L st G F (w_row Y i1 (w_cpy f (Y.1 i1) sp dp n)) c d Q) : wW u y b pc L (.int (zi n) :: .int (zi dp) :: .ref r1 :: .int (zi sp) :: .ref (350 + i) :: st) G F Y c d Q := by
  subst hp
  subst hr1
  refine ws_m9 (st' := st) (fun g => wGd_row (w_cpyZ hf0 (fun j => g.2.2.2.1 i1 j)) g) rfl (fun n h1 h2 => w_vs_t (w_vs_t (w_vs_t (w_vs_t (w_vs_t h2))))) (fun p l e R s m args below meth c0 a0 A D cA Qm ad H locs sl cells slots hC hA9 hP hD hS hL kk => ?_) k
  obtain ⟨hx, hb, hml, hown, hts, hr, hlk, hnm, hfr, hlo, hce, hse, hK, hZ, hAn, hst⟩ := hC
  have z1 : 0 ≤ sp ∧ sp ≤ 2147483647 := ⟨hsp, by omega⟩
  have z2 : 0 ≤ dp ∧ dp ≤ 2147483647 := ⟨hdp, by omega⟩
  have z3 : 0 ≤ n ∧ n ≤ 2147483647 := ⟨hn, by omega⟩
  have h9 := (hZ.2.2.1.1 i hi).2.2.2
  dsimp only at h9
  have hT : va_T .byte (ad (350 + i)) (wSl.getD i 0) (fun j => .int ((fun k : Nat => zi (f (k : Int))) j)) A s s.heap := by
    obtain ⟨cell, t1, t2, t3, t4, t5, t6, t7⟩ := h9
    have e8 : ad (350 + i) = a0 (350 + i) := hA9 _ (by omega)
    rw [e8]
    exact ⟨cell, t1, t2, t3, t4, t5, fun j hj => (t6 j hj).trans (congrArg (fun z => some (Value.int z)) (hE j hj).1), t7⟩
  refine vk_copyt hx hb (by rw [hml]; exact hL.1.1.symm) hown (hts _ hw) (hts _ wq_acn) (hts _ wq_acs) (hts _ wq_aci) hK.1 hP hD hS hT (u.1 + i1) 1 (g := fun k : Nat => zi (Y.1 i1 (k : Int))) (by rw [w_W_hi hi1, w_el_ints hs1 (by decide)]) rfl (w_neg z1) (w_neg z2) (w_neg z3) (by rw [zi_n ⟨by omega, z1.2⟩, zi_n ⟨by omega, z3.2⟩]; omega) (by rw [zi_n ⟨by omega, z2.2⟩, zi_n ⟨by omega, z3.2⟩]; omega) (fun k hk => ?_) (by rw [hfr]; exact hf1) ?_ hd (fun H1 locs1 hP1 hD1 hS1 => ?_)
  · rw [zi_n ⟨by omega, z3.2⟩] at hk
    rw [zi_n ⟨by omega, z1.2⟩]
    exact w_fitB (hE _ (by omega)).2
  · have h9 := w_cats (f := z_cv ad) (n := 4) h4
    rw [hlo]
    omega
  · rw [w_cpyE z1 z2 z3, ← w_el_ints (ad := ad) (cA := cA) (E := w_cpy f (Y.1 i1) sp dp n) hs1 (by decide), w_W_row hi1] at hP1
    exact kk H1 locs1 hP1 hS1
/-- a clone of bytes -/
theorem wi_clone {index r i n : Nat} (hd : decode (zbc y) pc = .ok (.invokevirtual index, 3)) (hp : pc + 3 = pc') (hw : Cond.methodLink (zyn y).cls index ⟨"[B", "clone", "()Ljava/lang/Object;"⟩ ∈ zTs) (hf1 : 1 ≤ zfr y) (hl1 : 22 ≤ zlo y) (hr0 : r = 1000 + i) (hi : i < Y.2.2) (hs : Y.2.1 i = (2, n, [])) (hE : ∀ j : Nat, j < n → 0 ≤ Y.1 i (j : Int) ∧ Y.1 i (j : Int) ≤ 127) (hE2 : ∀ j, zr (Y.1 i j)) (h4 : st.length ≤ 4) (hc : c + 1 ≤ b.1) (hdd : d + n ≤ b.2.1)
    (k : wW u y b pc' L (.ref (1000 + Y.2.2) :: st) G F (w_add Y (2, n, []) (Y.1 i)) (c + 1) (d + n) Q) : wW u y b pc L (.ref r :: st) G F Y c d Q := by
  subst hp
  subst hr0
  refine ws_add (st' := st) (ns := n) w_sh_n hE2 (fun n h2 => w_vs_t h2) (fun p l e R s m args below meth c0 a0 A D cA Qm ad H locs sl cells slots hC e2 e3 hP hD hS hL kk => ?_) k
  obtain ⟨hx, hb, hml, hown, hts, hr, hlk, hnm, hfr, hlo, hce, hse, hK, hZ, hAn, hst⟩ := hC
  have hcat : va_Nw (.castable "[B" "java/lang/Cloneable") s := hZ.2.2.2.2.2.2.2.1
  have he : (w_W u.1 ad cA G F Y)[u.1 + i]? = some (ad (1000 + i), .inl (cA 2, n, .inl fun j : Nat => zi (Y.1 i (j : Int)))) := by rw [w_W_hi hi, w_el_ints hs (by decide)]
  refine va_clone (ad := "[B") (x := (n, .inl fun j : Nat => zi (Y.1 i (j : Int)))) hx hb (by rw [hml]; exact hL.1.1.symm) hown (hts _ hw) (hts _ wq_same) (hts _ wq_nat) (hts _ wq_inst) (hts _ wq_sel) hcat hK.1 hP hD hS hAn (u.1 + i) 1 he rfl (hK.1.2 1 _ rfl).2 (fun j v hv => ?_) (by rw [hfr]; exact hf1) ?_ (by omega) (by show slots + n ≤ _; omega) hd (fun q H1 hK1 hP1 hD1 hS1 => ?_)
  · rw [vp_cell_i] at hv
    have hj : j < n := by
      have := (Array.getElem?_eq_some_iff.mp hv).1
      rwa [arrV_size] at this
    rw [arrV_read _ _ hj] at hv
    cases hv
    exact w_fitB (hE j hj)
  · have h9 := w_cats (f := z_cv ad) (n := 4) h4
    rw [hlo]
    omega
  · exact kk q H1 hP1 hD1 hS1
/-- what is an array of bytes may be taken for one -/
theorem wi_castB {index r i n : Nat} (hd : decode (zbc y) pc = .ok (.checkcast index, 3)) (hp : pc + 3 = pc') (hw : Cond.classLink (zyn y).cls index "[B" ∈ zTs) (hr0 : r = 1000 + i) (hi : i < Y.2.2) (hs : Y.2.1 i = (2, n, [])) (k : wW u y b pc' L (.ref r :: st) G F Y c d Q) : wW u y b pc L (.ref r :: st) G F Y c d Q := by
  subst hp
  subst hr0
  refine ws_st (fun n h1 h2 => ⟨h1, h2⟩) (fun p l e R s m args below meth c0 a0 A D cA Qm ad H locs sl cells slots hC hA hL kk => ?_) k
  obtain ⟨hx, hb, hml, hown, hts, hr, hlk, hnm, hfr, hlo, hce, hse, hK, hZ, hAn, hst⟩ := hC
  exact va_castA hx hb hown (hts _ hw) hA.2.2.2.1 (u.1 + i) (by rw [w_W_hi hi, w_el_ints hs (by decide)]) (hK.1.2 1 _ rfl).2 hd (kk sl hL)
/-! rows of rows -/
def w_mul (Y : DY) (t0 t n m : Nat) : DY := (fun k => if Y.2.2 ≤ k then fun _ => 0 else Y.1 k, fun k => if k = Y.2.2 then (t0, n, (List.range n).map (fun i => 1000 + Y.2.2 + 1 + i)) else if Y.2.2 < k then (t, m, []) else Y.2.1 k, Y.2.2 + 1 + n)
def w_mad (ad : Nat → Nat) (K0 q : Nat) (r : Nat → Nat) : Nat → Nat := fun k => if k < K0 then ad k else if k = K0 then q else r (k - K0 - 1)
theorem w_mad_lo {ad : Nat → Nat} {K0 q k : Nat} {r : Nat → Nat} (h : k < K0) : w_mad ad K0 q r k = ad k := if_pos h
theorem w_W_mul {N : Nat} {ad : Nat → Nat} {cA : Nat → ClassId} {q n m t0 t : Nat} {r : Nat → Nat} (hN : N ≤ 229) (hok : w_ok Y) (h0 : 8 ≤ t0) (ht : ¬ t = 0 ∧ ¬ 8 ≤ t) : (w_W N ad cA G F Y ++ [(q, (.inl (cA t0, n, .inr (.inr (.inr (.inr (fun i => if i < n then some (r i) else none))))) : va_E))]) ++ (List.range n).map (fun i => (r i, (.inl (cA t, m, .inl fun _ => 0) : va_E))) = w_W N (w_mad ad (1000 + Y.2.2) q r) cA G F (w_mul Y t0 t n m) := by
  rw [← w_W_c (ad' := w_mad ad (1000 + Y.2.2) q r) hN hok (fun k hk => w_mad_lo hk)]
  generalize hr : w_mad ad (1000 + Y.2.2) q r = ad'
  have q1 : ad' (1000 + Y.2.2) = q := by
    rw [← hr]
    unfold w_mad
    rw [if_neg (by omega), if_pos rfl]
  have q2 : ∀ i, ad' (1000 + (Y.2.2 + 1 + i)) = r i := fun i => by
    rw [← hr]
    unfold w_mad
    rw [if_neg (by omega), if_neg (by omega)]
    congr 1
    omega
  apply List.ext_getElem?
  intro k
  by_cases h1 : k < N
  · rw [List.getElem?_append_left (by rw [List.length_append, w_W_len]; omega), List.getElem?_append_left (by rw [w_W_len]; omega), w_W_lo h1, w_W_lo h1]
  · by_cases h2 : k < N + Y.2.2
    · rw [List.getElem?_append_left (by rw [List.length_append, w_W_len]; omega), List.getElem?_append_left (by rw [w_W_len]; omega), show k = N + (k - N) by omega, w_W_hi (by omega), w_W_hi (Y := w_mul Y t0 t n m) (show k - N < Y.2.2 + 1 + n by omega)]
      simp only [w_mul]
      rw [if_neg (show ¬ Y.2.2 ≤ k - N by omega), if_neg (show ¬ k - N = Y.2.2 by omega), if_neg (show ¬ Y.2.2 < k - N by omega)]
    · by_cases h3 : k = N + Y.2.2
      · rw [List.getElem?_append_left (by rw [List.length_append, w_W_len, List.length_singleton]; omega), List.getElem?_append_right (by rw [w_W_len]; omega), w_W_len, h3, Nat.sub_self, w_W_hi (Y := w_mul Y t0 t n m) (show Y.2.2 < Y.2.2 + 1 + n by omega), q1, w_el_refs (t := t0) (n := n) (cs := (List.range n).map (fun i => 1000 + Y.2.2 + 1 + i)) (by simp only [w_mul, if_true]) ⟨by omega, h0⟩]
        show some (q, _) = some (q, _)
        congr 8
        refine congrArg Sum.inr (funext fun j => ?_)
        by_cases hj : j < n
        · rw [if_pos hj, List.getElem?_map, List.getElem?_range hj]
          show some (r j) = some (ad' (1000 + Y.2.2 + 1 + j))
          rw [show 1000 + Y.2.2 + 1 + j = 1000 + (Y.2.2 + 1 + j) by omega, q2]
        · rw [if_neg hj, List.getElem?_eq_none (by rw [List.length_map, List.length_range]; omega)]
          rfl
      · by_cases h4 : k < N + Y.2.2 + 1 + n
        · rw [List.getElem?_append_right (by rw [List.length_append, w_W_len, List.length_singleton]; omega), List.length_append, w_W_len, List.length_singleton, List.getElem?_map, List.getElem?_range (by omega)]
          obtain ⟨i, rfl⟩ : ∃ i, k = N + (Y.2.2 + 1 + i) := ⟨k - N - Y.2.2 - 1, by omega⟩
          rw [w_W_hi (Y := w_mul Y t0 t n m) (show Y.2.2 + 1 + i < Y.2.2 + 1 + n by omega), q2, w_el_ints (t := t) (n := m) (cs := []) (by simp only [w_mul]; rw [if_neg (by omega), if_pos (by omega)]) ht]
          have e1 : N + (Y.2.2 + 1 + i) - (N + Y.2.2 + 1) = i := by omega
          rw [e1]
          simp only [w_mul]
          rw [if_pos (show Y.2.2 ≤ Y.2.2 + 1 + i by omega)]
          rfl
        · rw [List.getElem?_eq_none (by rw [List.length_append, List.length_append, w_W_len, List.length_singleton, List.length_map, List.length_range]; omega), List.getElem?_eq_none (by rw [w_W_len]; show N + (Y.2.2 + 1 + n) ≤ k; omega)]
theorem w_ok_mul {t0 t n m : Nat} (hok : w_ok Y) (h0 : 8 ≤ t0) : w_ok (w_mul Y t0 t n m) := by
  intro i hi
  show w_sh (1000 + (Y.2.2 + 1 + n)) (if i = Y.2.2 then (t0, n, (List.range n).map (fun i => 1000 + Y.2.2 + 1 + i)) else if Y.2.2 < i then (t, m, []) else Y.2.1 i)
  by_cases h1 : i = Y.2.2
  · rw [if_pos h1]
    intro c hc
    obtain ⟨j, hj, rfl⟩ := List.mem_map.mp hc
    have := List.mem_range.mp hj
    exact ⟨fun h => absurd h (by show ¬ t0 = 0; omega), fun _ => by omega⟩
  · rw [if_neg h1]
    by_cases h2 : Y.2.2 < i
    · rw [if_pos h2]
      exact w_sh_n
    · rw [if_neg h2]
      exact w_sh_up (hok i (by omega)) (by omega)
theorem wi_mnaI {index n m : Nat} {vn vm : Int} (hd : decode (zbc y) pc = .ok (.multianewarray index 2, 4)) (hp : pc + 4 = pc') (hw : Cond.classLink (zyn y).cls index ("[" ++ (FieldType.array .int).toString) ∈ zTs) (hvn : vn = (n : Int)) (hvm : vm = (m : Int)) (hn2 : n ≤ 1000) (hm2 : m ≤ 1000) (hc : c + (1 + n) ≤ b.1) (hd2 : d + (n + n * m) ≤ b.2.1)
    (k : wW u y b pc' L (.ref (1000 + Y.2.2) :: st) G F (w_mul Y 8 1 n m) (c + (1 + n)) (d + (n + n * m)) Q) : wW u y b pc L (.int (zi vm) :: .int (zi vn) :: st) G F Y c d Q := by
  subst hp
  subst hvn
  subst hvm
  intro g h1 h2 p l e R s m' args below meth c0 a0 A D cA Qm hC hE' ad H locs sl cells slots hA hL
  have hC' := hC
  obtain ⟨hx, hb, hml, hown, hts, hr, hlk, hnm, hfr, hlo, hce, hse, hK, hZ, hAn, hst⟩ := hC'
  obtain ⟨e1, e2, e3, hP, hD, hS⟩ := hA
  have gb := g.2.2.2.2.2
  have hvs : w_vs (1000 + Y.2.2) st := w_vs_t (w_vs_t h2)
  refine w_mna (ty := .int) (cy := cA 1) (n := n) (m := m) hx hb hown (hts _ hw) hK.2.1 (hts _ wq_arr_int) (hK.1.2 0 _ rfl).2 hK.1 hP hD hS hAn (Or.inl rfl) hn2 hm2 (by omega) (by omega) hd (fun q r cB H1 hK1 hP1 hD1 hS1 => ?_)
  have eB : cB = cA 8 := k_uni (fun C h => by cases h) (hK1.2 10 _ rfl).2 (hK.1.2 7 _ rfl).2
  subst eB
  rw [w_W_mul g.1 g.2.2.2.2.1 (by decide) (by decide)] at hP1 hD1
  have hst9 : Value.ref q :: st.map (z_cv ad) = (Value.ref (1000 + Y.2.2) :: st).map (z_cv (w_mad ad (1000 + Y.2.2) q r)) := by
    rw [List.map_cons, z_map_c hvs (fun k hk => w_mad_lo hk)]
    show _ = Value.ref (w_mad ad (1000 + Y.2.2) q r (1000 + Y.2.2)) :: _
    unfold w_mad
    rw [if_neg (by omega), if_pos rfl]
  have hn9 : (w_mul Y 8 1 n m).2.2 = Y.2.2 + 1 + n := rfl
  show W _ _ _ _ _ _ _ _ _ _ _ _ _ _ _ (F0 m' (pc + 4) sl (Value.ref q :: st.map (z_cv ad)))
  rw [hst9]
  refine k ⟨g.1, g.2.1, g.2.2.1, ?_, w_ok_mul g.2.2.2.2.1 (by decide), by rw [hn9]; omega⟩ (w_vs_up h1 (by rw [hn9]; omega)) (w_vs_c (w_v_r (by rw [hn9]; omega)) (w_vs_up hvs (by rw [hn9]; omega))) p l e R s m' args below meth c0 a0 A D cA Qm hC hE' _ H1 locs sl (cells + 1 + n) (slots + n + n * m) ⟨fun k hk => (w_mad_lo (by omega)).trans (e1 k hk), by omega, by omega, hP1, hD1, hS1⟩ (z_has_c h1 (fun k hk => w_mad_lo hk) hL)
  intro k j
  show zr ((if Y.2.2 ≤ k then fun _ => 0 else Y.1 k) j)
  split
  · exact zr0
  · exact g.2.2.2.1 k j
theorem wi_mnaC {index n m : Nat} {vn vm : Int} (hd : decode (zbc y) pc = .ok (.multianewarray index 2, 4)) (hp : pc + 4 = pc') (hw : Cond.classLink (zyn y).cls index ("[" ++ (FieldType.array .char).toString) ∈ zTs) (hvn : vn = (n : Int)) (hvm : vm = (m : Int)) (hn2 : n ≤ 1000) (hm2 : m ≤ 1000) (hc : c + (1 + n) ≤ b.1) (hd2 : d + (n + n * m) ≤ b.2.1)
    (k : wW u y b pc' L (.ref (1000 + Y.2.2) :: st) G F (w_mul Y 9 7 n m) (c + (1 + n)) (d + (n + n * m)) Q) : wW u y b pc L (.int (zi vm) :: .int (zi vn) :: st) G F Y c d Q := by
  subst hp
  subst hvn
  subst hvm
  intro g h1 h2 p l e R s m' args below meth c0 a0 A D cA Qm hC hE' ad H locs sl cells slots hA hL
  have hC' := hC
  obtain ⟨hx, hb, hml, hown, hts, hr, hlk, hnm, hfr, hlo, hce, hse, hK, hZ, hAn, hst⟩ := hC'
  obtain ⟨e1, e2, e3, hP, hD, hS⟩ := hA
  have gb := g.2.2.2.2.2
  have hvs : w_vs (1000 + Y.2.2) st := w_vs_t (w_vs_t h2)
  refine w_mna (ty := .char) (cy := cA 7) (n := n) (m := m) hx hb hown (hts _ hw) hK.2.2.1 (hts _ wq_arr_char) (hK.1.2 6 _ rfl).2 hK.1 hP hD hS hAn (Or.inr (Or.inl rfl)) hn2 hm2 (by omega) (by omega) hd (fun q r cB H1 hK1 hP1 hD1 hS1 => ?_)
  have eB : cB = cA 9 := k_uni (fun C h => by cases h) (hK1.2 10 _ rfl).2 (hK.1.2 8 _ rfl).2
  subst eB
  rw [w_W_mul g.1 g.2.2.2.2.1 (by decide) (by decide)] at hP1 hD1
  have hst9 : Value.ref q :: st.map (z_cv ad) = (Value.ref (1000 + Y.2.2) :: st).map (z_cv (w_mad ad (1000 + Y.2.2) q r)) := by
    rw [List.map_cons, z_map_c hvs (fun k hk => w_mad_lo hk)]
    show _ = Value.ref (w_mad ad (1000 + Y.2.2) q r (1000 + Y.2.2)) :: _
    unfold w_mad
    rw [if_neg (by omega), if_pos rfl]
  have hn9 : (w_mul Y 9 7 n m).2.2 = Y.2.2 + 1 + n := rfl
  show W _ _ _ _ _ _ _ _ _ _ _ _ _ _ _ (F0 m' (pc + 4) sl (Value.ref q :: st.map (z_cv ad)))
  rw [hst9]
  refine k ⟨g.1, g.2.1, g.2.2.1, ?_, w_ok_mul g.2.2.2.2.1 (by decide), by rw [hn9]; omega⟩ (w_vs_up h1 (by rw [hn9]; omega)) (w_vs_c (w_v_r (by rw [hn9]; omega)) (w_vs_up hvs (by rw [hn9]; omega))) p l e R s m' args below meth c0 a0 A D cA Qm hC hE' _ H1 locs sl (cells + 1 + n) (slots + n + n * m) ⟨fun k hk => (w_mad_lo (by omega)).trans (e1 k hk), by omega, by omega, hP1, hD1, hS1⟩ (z_has_c h1 (fun k hk => w_mad_lo hk) hL)
  intro k j
  show zr ((if Y.2.2 ≤ k then fun _ => 0 else Y.1 k) j)
  split
  · exact zr0
  · exact g.2.2.2.1 k j
theorem wi_mnaZ {index n m : Nat} {vn vm : Int} (hd : decode (zbc y) pc = .ok (.multianewarray index 2, 4)) (hp : pc + 4 = pc') (hw : Cond.classLink (zyn y).cls index ("[" ++ (FieldType.array .boolean).toString) ∈ zTs) (hvn : vn = (n : Int)) (hvm : vm = (m : Int)) (hn2 : n ≤ 1000) (hm2 : m ≤ 1000) (hc : c + (1 + n) ≤ b.1) (hd2 : d + (n + n * m) ≤ b.2.1)
    (k : wW u y b pc' L (.ref (1000 + Y.2.2) :: st) G F (w_mul Y 10 3 n m) (c + (1 + n)) (d + (n + n * m)) Q) : wW u y b pc L (.int (zi vm) :: .int (zi vn) :: st) G F Y c d Q := by
  subst hp
  subst hvn
  subst hvm
  intro g h1 h2 p l e R s m' args below meth c0 a0 A D cA Qm hC hE' ad H locs sl cells slots hA hL
  have hC' := hC
  obtain ⟨hx, hb, hml, hown, hts, hr, hlk, hnm, hfr, hlo, hce, hse, hK, hZ, hAn, hst⟩ := hC'
  obtain ⟨e1, e2, e3, hP, hD, hS⟩ := hA
  have gb := g.2.2.2.2.2
  have hvs : w_vs (1000 + Y.2.2) st := w_vs_t (w_vs_t h2)
  refine w_mna (ty := .boolean) (cy := cA 3) (n := n) (m := m) hx hb hown (hts _ hw) hK.2.2.2 (hts _ wq_arr_boolean) (hK.1.2 2 _ rfl).2 hK.1 hP hD hS hAn (Or.inr (Or.inr rfl)) hn2 hm2 (by omega) (by omega) hd (fun q r cB H1 hK1 hP1 hD1 hS1 => ?_)
  have eB : cB = cA 10 := k_uni (fun C h => by cases h) (hK1.2 10 _ rfl).2 (hK.1.2 9 _ rfl).2
  subst eB
  rw [w_W_mul g.1 g.2.2.2.2.1 (by decide) (by decide)] at hP1 hD1
  have hst9 : Value.ref q :: st.map (z_cv ad) = (Value.ref (1000 + Y.2.2) :: st).map (z_cv (w_mad ad (1000 + Y.2.2) q r)) := by
    rw [List.map_cons, z_map_c hvs (fun k hk => w_mad_lo hk)]
    show _ = Value.ref (w_mad ad (1000 + Y.2.2) q r (1000 + Y.2.2)) :: _
    unfold w_mad
    rw [if_neg (by omega), if_pos rfl]
  have hn9 : (w_mul Y 10 3 n m).2.2 = Y.2.2 + 1 + n := rfl
  show W _ _ _ _ _ _ _ _ _ _ _ _ _ _ _ (F0 m' (pc + 4) sl (Value.ref q :: st.map (z_cv ad)))
  rw [hst9]
  refine k ⟨g.1, g.2.1, g.2.2.1, ?_, w_ok_mul g.2.2.2.2.1 (by decide), by rw [hn9]; omega⟩ (w_vs_up h1 (by rw [hn9]; omega)) (w_vs_c (w_v_r (by rw [hn9]; omega)) (w_vs_up hvs (by rw [hn9]; omega))) p l e R s m' args below meth c0 a0 A D cA Qm hC hE' _ H1 locs sl (cells + 1 + n) (slots + n + n * m) ⟨fun k hk => (w_mad_lo (by omega)).trans (e1 k hk), by omega, by omega, hP1, hD1, hS1⟩ (z_has_c h1 (fun k hk => w_mad_lo hk) hL)
  intro k j
  show zr ((if Y.2.2 ≤ k then fun _ => 0 else Y.1 k) j)
  split
  · exact zr0
  · exact g.2.2.2.1 k j
end W6
