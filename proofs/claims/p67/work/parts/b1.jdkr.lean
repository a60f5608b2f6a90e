/-! Runs over made cells: numbers, texts. -/
theorem mx_s_max : Cond.static Lib.Math.max.name ∈ zTs := z_in (i := 539) (by decide +kernel) (by decide +kernel)
theorem mx_c_max : Cond.code Lib.Math.max.name Lib.Math.max.code 2 (some .int) ∈ zTs := z_in (i := 540) (by decide +kernel) (by decide +kernel)
theorem mx_s_min : Cond.static Lib.Math.min.name ∈ zTs := z_in (i := 659) (by decide +kernel) (by decide +kernel)
theorem mx_c_min : Cond.code Lib.Math.min.name Lib.Math.min.code 2 (some .int) ∈ zTs := z_in (i := 660) (by decide +kernel) (by decide +kernel)
theorem mx_s_abs : Cond.static Lib.Math.abs.name ∈ zTs := z_in (i := 709) (by decide +kernel) (by decide +kernel)
theorem mx_c_abs : Cond.code Lib.Math.abs.name Lib.Math.abs.code 1 (some .int) ∈ zTs := z_in (i := 710) (by decide +kernel) (by decide +kernel)
theorem mx_i : Cond.initialized "java/lang/Math" ∈ zTs := z_in (i := 51) (by decide +kernel) (by decide +kernel)
section B1
variable {u : WU} {y : Nat} {b : WB} {pc pc' : Nat} {L st st' : List Value} {G F : GM} {Y : DY} {c d : Nat} {Q : WQ}
theorem wi_mmax {index : Nat} {a a2 : Int} (hd : decode (zbc y) pc = .ok (.invokestatic index, 3)) (hp : pc + 3 = pc') (hw : Cond.methodLink (zyn y).cls index Lib.Math.max.name ∈ zTs) (hf1 : 1 ≤ zfr y) (hl1 : 21 ≤ zlo y) (ha : zr a) (hb9 : zr a2) (h4 : st.length ≤ 4) (hc : c ≤ b.1) (hdd : d ≤ b.2.1) (k : wW u y b pc' L (.int (zi (max a a2)) :: st) G F Y c d Q) : wW u y b pc L (.int (zi a2) :: .int (zi a) :: st) G F Y c d Q := by
  subst hp
  refine ws_st (fun n h1 h2 => ⟨h1, w_vs_c (w_v_i n _) (w_vs_t (w_vs_t h2))⟩) (fun p l e R s m args below meth c0 a0 A D cA Qm ad H locs sl cells slots hC hA hL kk => ?_) k
  obtain ⟨hx, hb, hml, hown, hts, hr, hlk, hnm, hfr, hlo, hce, hse, hK, hZ, hAn, hst⟩ := hC
  have kk := kk sl hL
  have h9 := w_cats (f := z_cv ad) (n := 4) h4
  have h2 := hA.2.1
  have h3 := hA.2.2.1
  have e9 : zi (max a a2) = (if zi a < zi a2 then zi a2 else zi a) := by
    by_cases h : zi a < zi a2
    · rw [if_pos h]
      have h8 := (zi_lt ha hb9).mp h
      congr 1
      omega
    · rw [if_neg h]
      have h8 := mt (zi_lt ha hb9).mpr h
      congr 1
      omega
  rw [e9] at kk
  exact va_mmax hx hb (by rw [hml]; exact hL.1.1.symm) hown (hts _ hw) (hts _ mx_s_max) (hts _ mx_i) (hts _ mx_c_max) (by rw [hfr]; exact hf1) (by rw [hlo]; omega) (by omega) (by omega) hd kk
theorem wi_mmin {index : Nat} {a a2 : Int} (hd : decode (zbc y) pc = .ok (.invokestatic index, 3)) (hp : pc + 3 = pc') (hw : Cond.methodLink (zyn y).cls index Lib.Math.min.name ∈ zTs) (hf1 : 1 ≤ zfr y) (hl1 : 21 ≤ zlo y) (ha : zr a) (hb9 : zr a2) (h4 : st.length ≤ 4) (hc : c ≤ b.1) (hdd : d ≤ b.2.1) (k : wW u y b pc' L (.int (zi (min a a2)) :: st) G F Y c d Q) : wW u y b pc L (.int (zi a2) :: .int (zi a) :: st) G F Y c d Q := by
  subst hp
  refine ws_st (fun n h1 h2 => ⟨h1, w_vs_c (w_v_i n _) (w_vs_t (w_vs_t h2))⟩) (fun p l e R s m args below meth c0 a0 A D cA Qm ad H locs sl cells slots hC hA hL kk => ?_) k
  obtain ⟨hx, hb, hml, hown, hts, hr, hlk, hnm, hfr, hlo, hce, hse, hK, hZ, hAn, hst⟩ := hC
  have kk := kk sl hL
  have h9 := w_cats (f := z_cv ad) (n := 4) h4
  have h2 := hA.2.1
  have h3 := hA.2.2.1
  have e9 : zi (min a a2) = (if zi a2 < zi a then zi a2 else zi a) := by
    by_cases h : zi a2 < zi a
    · rw [if_pos h]
      have h8 := (zi_lt hb9 ha).mp h
      congr 1
      omega
    · rw [if_neg h]
      have h8 := mt (zi_lt hb9 ha).mpr h
      congr 1
      omega
  rw [e9] at kk
  exact va_mmin hx hb (by rw [hml]; exact hL.1.1.symm) hown (hts _ hw) (hts _ mx_s_min) (hts _ mx_i) (hts _ mx_c_min) (by rw [hfr]; exact hf1) (by rw [hlo]; omega) (by omega) (by omega) hd kk
theorem wi_mabs {index : Nat} {a : Int} (hd : decode (zbc y) pc = .ok (.invokestatic index, 3)) (hp : pc + 3 = pc') (hw : Cond.methodLink (zyn y).cls index Lib.Math.abs.name ∈ zTs) (hf1 : 1 ≤ zfr y) (hl1 : 21 ≤ zlo y) (ha : zr a) (h4 : st.length ≤ 4) (hc : c ≤ b.1) (hdd : d ≤ b.2.1) (k : wW u y b pc' L (.int (zi (if 0 ≤ a then a else -a)) :: st) G F Y c d Q) : wW u y b pc L (.int (zi a) :: st) G F Y c d Q := by
  subst hp
  refine ws_st (fun n h1 h2 => ⟨h1, w_vs_c (w_v_i n _) (w_vs_t h2)⟩) (fun p l e R s m args below meth c0 a0 A D cA Qm ad H locs sl cells slots hC hA hL kk => ?_) k
  obtain ⟨hx, hb, hml, hown, hts, hr, hlk, hnm, hfr, hlo, hce, hse, hK, hZ, hAn, hst⟩ := hC
  have kk := kk sl hL
  have h9 := w_cats (f := z_cv ad) (n := 4) h4
  have h2 := hA.2.1
  have h3 := hA.2.2.1
  have e9 : zi (if 0 ≤ a then a else -a) = (if 0 ≤ zi a then zi a else 0 - zi a) := by
    by_cases h : 0 ≤ zi a
    · have h8 := (zi_le zr0 ha).mp (by rw [zi_k0]; exact h)
      rw [if_pos h, if_pos h8]
    · have h8 : ¬ 0 ≤ a := fun h9 => h (by rw [← zi_k0]; exact (zi_le zr0 ha).mpr h9)
      rw [if_neg h, if_neg h8, ← zi_k0]
      show Int32.ofInt (-a) = Int32.ofInt 0 - Int32.ofInt a
      rw [← Int32.ofInt_sub, Int.zero_sub]
  rw [e9] at kk
  exact va_mabs hx hb (by rw [hml]; exact hL.1.1.symm) hown (hts _ hw) (hts _ mx_s_abs) (hts _ mx_i) (hts _ mx_c_abs) (by rw [hfr]; exact hf1) (by rw [hlo]; omega) (by omega) (by omega) hd kk
/-- Object's own constructor -/
theorem wi_obj {index r : Nat} (hd : decode (zbc y) pc = .ok (.invokespecial index, 3)) (hp : pc + 3 = pc') (hw : Cond.methodLink (zyn y).cls index Lib.objectInit ∈ zTs) (hf1 : 1 ≤ zfr y) (hl1 : 20 ≤ zlo y) (h4 : st.length ≤ 4) (k : wW u y b pc' L st G F Y c d Q) : wW u y b pc L (.ref r :: st) G F Y c d Q := by
  subst hp
  refine ws_st (fun n h1 h2 => ⟨h1, w_vs_t h2⟩) (fun p l e R s m args below meth c0 a0 A D cA Qm ad H locs sl cells slots hC hA hL kk => ?_) k
  obtain ⟨hx, hb, hml, hown, hts, hr, hlk, hnm, hfr, hlo, hce, hse, hK, hZ, hAn, hst⟩ := hC
  have h9 := w_cats (f := z_cv ad) (n := 4) h4
  refine W.objInit hx hb hown (hts _ hw) (hts _ k_oi) (hts _ k_oc) rfl (by rw [hml]; exact hL.1.1) rfl hd (by rw [hfr]; exact hf1) ?_ ?_
  · rw [hlo]
    show 2 * 0 + _ + 12 ≤ _
    omega
  · refine W.eq (g2 := F0 m (pc + 3) sl (st.map (z_cv ad))) rfl ?_
    exact kk sl hL
end B1
/-! what a method answers, and nothing has changed -/
def wPu (G F : GM) (Y : DY) (v : Option Value) : WQ := fun o G' F' Y' => o = v ∧ G = G' ∧ F = F' ∧ Y = Y'
theorem w_nZ {v : Int} (h : v = 0 ∨ v = 1) : narrow .boolean (.int (zi v)) = .int (zi v) := by
  rcases h with rfl | rfl <;> rfl
theorem w_nB9 {v : Int} (h : 0 ≤ v ∧ v ≤ 127) : narrow .byte (.int (zi v)) = .int (zi v) := by
  have e := w_nb h
  have e2 : narrow .byte (.int (zi v)) = .int (vp_nar .byte (zi v)) := rfl
  rw [e2, e]
theorem w_nC9 {v : Int} (h : 0 ≤ v ∧ v ≤ 127) : narrow .char (.int (zi v)) = .int (zi v) := by
  have e := w_nc h
  have e2 : narrow .char (.int (zi v)) = .int (vp_nar .char (zi v)) := rfl
  rw [e2, e]
/-- cell i is a builder, cell j its bytes, m of them, the text is t -/
def SBx (Y : DY) (i j m : Nat) (t : List Int) : Prop := i < Y.2.2 ∧ j < Y.2.2 ∧ i ≠ j ∧ Y.2.1 i = (0, 10, [1000 + j + 2, 0, 0, 0]) ∧ Y.2.1 j = (2, m, []) ∧ Y.1 i 1 = 0 ∧ Y.1 i 3 = (t.length : Int) ∧ t.length ≤ m ∧ m ≤ 1000 ∧ (∀ k : Nat, k < m → 0 ≤ Y.1 j (k : Int) ∧ Y.1 j (k : Int) ≤ 127) ∧ ∀ k : Nat, k < t.length → Y.1 j (k : Int) = t.getD k 0
/-- a text: a constant, or a made one -/
def wStr (Y : DY) (r : Nat) (t : List Int) : Prop := ((∃ i, i < 10 ∧ r = 330 + i ∧ wSl.getD i 0 = t.length ∧ ∀ k : Nat, k < t.length → (wSb.getD i []).getD k 0 = zi (t.getD k 0)) ∨ ∃ i j : Nat, r = 1000 + i ∧ i < Y.2.2 ∧ j < Y.2.2 ∧ Y.2.1 i = (0, 9, [1000 + j + 2, 0, 0, 0]) ∧ Y.2.1 j = (2, t.length, []) ∧ Y.1 i 1 = 0 ∧ ∀ k : Nat, k < t.length → Y.1 j (k : Int) = t.getD k 0) ∧ t.length ≤ 1000 ∧ ∀ k : Nat, k < t.length → 0 ≤ t.getD k 0 ∧ t.getD k 0 ≤ 127
/-- its bytes -/
def wByt (Y : DY) (r : Nat) (t : List Int) : Prop := ((∃ i, i < 10 ∧ r = 350 + i ∧ wSl.getD i 0 = t.length ∧ ∀ k : Nat, k < t.length → (wSb.getD i []).getD k 0 = zi (t.getD k 0)) ∨ ∃ j : Nat, r = 1000 + j ∧ j < Y.2.2 ∧ Y.2.1 j = (2, t.length, []) ∧ ∀ k : Nat, k < t.length → Y.1 j (k : Int) = t.getD k 0) ∧ t.length ≤ 1000 ∧ ∀ k : Nat, k < t.length → 0 ≤ t.getD k 0 ∧ t.getD k 0 ≤ 127
theorem wrv_sb {Y : DY} {i j m : Nat} {t : List Int} {as : List Value} (h : SBx Y i j m t) : ∀ C, some "java/lang/StringBuilder" = some C → wRv Y (.ref (1000 + i) :: as) C := by
  rintro C hC
  cases hC
  exact ⟨_, _, rfl, Or.inl ⟨i, 10, TJ4, 4, _, rfl, h.1, h.2.2.2.1, rfl⟩⟩
theorem wrv_str {Y : DY} {r : Nat} {t : List Int} {as : List Value} (h : wStr Y r t) : ∀ C, some "java/lang/String" = some C → wRv Y (.ref r :: as) C := by
  rintro C hC
  cases hC
  rcases h.1 with ⟨i, h1, rfl, -⟩ | ⟨i, j, rfl, h1, h2, h3, -⟩
  · exact ⟨_, _, rfl, Or.inr ⟨rfl, i, h1, rfl⟩⟩
  · exact ⟨_, _, rfl, Or.inl ⟨i, 9, TJ0, 4, _, rfl, h1, h3, rfl⟩⟩
theorem wrv_n {Y : DY} {as : List Value} : ∀ C, (none : Option String) = some C → wRv Y as C := fun C h => by cases h
/-! the fields of a text, whichever it is -/
section B2
variable {u : WU} {y : Nat} {b : WB} {pc pc' : Nat} {L st st' : List Value} {G F : GM} {Y : DY} {c d : Nat} {Q : WQ}
theorem wi_sval {index r : Nat} {t : List Int} (hd : decode (zbc y) pc = .ok (.getfield index, 3)) (hp : pc + 3 = pc') (hw : Cond.fieldLink (zyn y).cls index "java/lang/String" "value" "[B" ∈ zTs) (h : wStr Y r t) (k : ∀ r', wByt Y r' t → wW u y b pc' L (.ref r' :: st) G F Y c d Q) : wW u y b pc L (.ref r :: st) G F Y c d Q := by
  obtain ⟨h0, hl, hz⟩ := h
  rcases h0 with ⟨i, h1, rfl, h2, h3⟩ | ⟨i, j, rfl, h1, h2, h3, h4, h5, h6⟩
  · exact wi_cval hd hp hw h1 (k _ ⟨Or.inl ⟨i, h1, rfl, h2, h3⟩, hl, hz⟩)
  · exact wi_getR (ci := 9) (j := 0) (C := RJ0) (T := TJ0) (Nf := 4) hd hp rfl inJ0 (by decide) hw rfl h1 h3 rfl (k _ ⟨Or.inr ⟨j, rfl, h2, h4, h6⟩, hl, hz⟩)
theorem wi_scod {index r : Nat} {t : List Int} (hd : decode (zbc y) pc = .ok (.getfield index, 3)) (hp : pc + 3 = pc') (hw : Cond.fieldLink (zyn y).cls index "java/lang/String" "coder" "B" ∈ zTs) (h : wStr Y r t) (k : wW u y b pc' L (.int (zi 0) :: st) G F Y c d Q) : wW u y b pc L (.ref r :: st) G F Y c d Q := by
  obtain ⟨h0, hl, hz⟩ := h
  rcases h0 with ⟨i, h1, rfl, h2, h3⟩ | ⟨i, j, rfl, h1, h2, h3, h4, h5, h6⟩
  · exact wi_ccod hd hp hw h1 k
  · refine wi_getI (ci := 9) (j := 1) (C := RJ0) (T := TJ0) (Nf := 4) hd hp rfl inJ0 (by decide) hw rfl h1 h3 rfl ?_
    rw [show Y.1 i ((1 : Nat) : Int) = 0 from h5]
    exact k
theorem wi_slen {r : Nat} {t : List Int} (hd : decode (zbc y) pc = .ok (.arraylength, 1)) (hp : pc + 1 = pc') (h : wByt Y r t) (k : wW u y b pc' L (.int (zi (t.length : Int)) :: st) G F Y c d Q) : wW u y b pc L (.ref r :: st) G F Y c d Q := by
  obtain ⟨h0, hl, hz⟩ := h
  rcases h0 with ⟨i, h1, rfl, h2, h3⟩ | ⟨j, rfl, h1, h2, h3⟩
  · refine wi_clen hd hp h1 ?_
    rw [h2]
    exact k
  · exact wi_alen hd hp rfl h1 h2 (Or.inr (Or.inl rfl)) k
theorem wi_sbal {r : Nat} {t : List Int} {j : Int} (hd : decode (zbc y) pc = .ok (.baload, 1)) (hp : pc + 1 = pc') (h : wByt Y r t) (hj : 0 ≤ j ∧ j < t.length) (k : wW u y b pc' L (.int (zi (t.getD j.toNat 0)) :: st) G F Y c d Q) : wW u y b pc L (.int (zi j) :: .ref r :: st) G F Y c d Q := by
  obtain ⟨h0, hl, hz⟩ := h
  rcases h0 with ⟨i, h1, rfl, h2, h3⟩ | ⟨i, rfl, h1, h2, h3⟩
  · exact wi_cbal hd hp h1 (by rw [h2]; exact hj) (by omega) (h3 _ (by omega)) k
  · refine wi_bald hd hp rfl h1 h2 ⟨hj.1, hj.2, by omega⟩ ?_
    have e := h3 j.toNat (by omega)
    rw [Int.toNat_of_nonneg hj.1] at e
    rw [e]
    exact k
end B2
