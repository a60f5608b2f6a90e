/-! The model's constructor. -/
theorem dX9_init_0 : decode cX9_init 0 = .ok (.aload_n 0, 1) := by decide +kernel
theorem dX9_init_1 : decode cX9_init 1 = .ok (.invokespecial 1, 3) := by decide +kernel
theorem dX9_init_4 : decode cX9_init 4 = .ok (.aload_n 0, 1) := by decide +kernel
theorem dX9_init_5 : decode cX9_init 5 = .ok (.sipush 256, 3) := by decide +kernel
theorem dX9_init_8 : decode cX9_init 8 = .ok (.newarray .int, 2) := by decide +kernel
theorem dX9_init_10 : decode cX9_init 10 = .ok (.putfield 7, 3) := by decide +kernel
theorem dX9_init_13 : decode cX9_init 13 = .ok (.aload_n 0, 1) := by decide +kernel
theorem dX9_init_14 : decode cX9_init 14 = .ok (.sipush 256, 3) := by decide +kernel
theorem dX9_init_17 : decode cX9_init 17 = .ok (.newarray .int, 2) := by decide +kernel
theorem dX9_init_19 : decode cX9_init 19 = .ok (.putfield 13, 3) := by decide +kernel
theorem dX9_init_22 : decode cX9_init 22 = .ok (.aload_n 0, 1) := by decide +kernel
theorem dX9_init_23 : decode cX9_init 23 = .ok (.sipush 256, 3) := by decide +kernel
theorem dX9_init_26 : decode cX9_init 26 = .ok (.newarray .int, 2) := by decide +kernel
theorem dX9_init_28 : decode cX9_init 28 = .ok (.putfield 16, 3) := by decide +kernel
theorem dX9_init_31 : decode cX9_init 31 = .ok (.aload_n 0, 1) := by decide +kernel
theorem dX9_init_32 : decode cX9_init 32 = .ok (.sipush 2048, 3) := by decide +kernel
theorem dX9_init_35 : decode cX9_init 35 = .ok (.newarray .int, 2) := by decide +kernel
theorem dX9_init_37 : decode cX9_init 37 = .ok (.putfield 19, 3) := by decide +kernel
theorem dX9_init_40 : decode cX9_init 40 = .ok (.aload_n 0, 1) := by decide +kernel
theorem dX9_init_41 : decode cX9_init 41 = .ok (.sipush 512, 3) := by decide +kernel
theorem dX9_init_44 : decode cX9_init 44 = .ok (.newarray .int, 2) := by decide +kernel
theorem dX9_init_46 : decode cX9_init 46 = .ok (.putfield 22, 3) := by decide +kernel
theorem dX9_init_49 : decode cX9_init 49 = .ok (.aload_n 0, 1) := by decide +kernel
theorem dX9_init_50 : decode cX9_init 50 = .ok (.iconst 2, 1) := by decide +kernel
theorem dX9_init_51 : decode cX9_init 51 = .ok (.newarray .boolean, 2) := by decide +kernel
theorem dX9_init_53 : decode cX9_init 53 = .ok (.putfield 25, 3) := by decide +kernel
theorem dX9_init_56 : decode cX9_init 56 = .ok (.aload_n 0, 1) := by decide +kernel
theorem dX9_init_57 : decode cX9_init 57 = .ok (.sipush 800, 3) := by decide +kernel
theorem dX9_init_60 : decode cX9_init 60 = .ok (.newarray .int, 2) := by decide +kernel
theorem dX9_init_62 : decode cX9_init 62 = .ok (.putfield 29, 3) := by decide +kernel
theorem dX9_init_65 : decode cX9_init 65 = .ok (.aload_n 0, 1) := by decide +kernel
theorem dX9_init_66 : decode cX9_init 66 = .ok (.iconst (-1), 1) := by decide +kernel
theorem dX9_init_67 : decode cX9_init 67 = .ok (.putfield 32, 3) := by decide +kernel
theorem dX9_init_70 : decode cX9_init 70 = .ok (.aload_n 0, 1) := by decide +kernel
theorem dX9_init_71 : decode cX9_init 71 = .ok (.sipush 144, 3) := by decide +kernel
theorem dX9_init_74 : decode cX9_init 74 = .ok (.newarray .int, 2) := by decide +kernel
theorem dX9_init_76 : decode cX9_init 76 = .ok (.putfield 36, 3) := by decide +kernel
theorem dX9_init_79 : decode cX9_init 79 = .ok (.aload_n 0, 1) := by decide +kernel
theorem dX9_init_80 : decode cX9_init 80 = .ok (.sipush 144, 3) := by decide +kernel
theorem dX9_init_83 : decode cX9_init 83 = .ok (.newarray .int, 2) := by decide +kernel
theorem dX9_init_85 : decode cX9_init 85 = .ok (.putfield 39, 3) := by decide +kernel
theorem dX9_init_88 : decode cX9_init 88 = .ok (.aload_n 0, 1) := by decide +kernel
theorem dX9_init_89 : decode cX9_init 89 = .ok (.sipush 160, 3) := by decide +kernel
theorem dX9_init_92 : decode cX9_init 92 = .ok (.newarray .int, 2) := by decide +kernel
theorem dX9_init_94 : decode cX9_init 94 = .ok (.putfield 42, 3) := by decide +kernel
theorem dX9_init_97 : decode cX9_init 97 = .ok (.aload_n 0, 1) := by decide +kernel
theorem dX9_init_98 : decode cX9_init 98 = .ok (.getfield 7, 3) := by decide +kernel
theorem dX9_init_101 : decode cX9_init 101 = .ok (.iconst 0, 1) := by decide +kernel
theorem dX9_init_102 : decode cX9_init 102 = .ok (.iconst 4, 1) := by decide +kernel
theorem dX9_init_103 : decode cX9_init 103 = .ok (.iastore, 1) := by decide +kernel
theorem dX9_init_104 : decode cX9_init 104 = .ok (.aload_n 0, 1) := by decide +kernel
theorem dX9_init_105 : decode cX9_init 105 = .ok (.getfield 7, 3) := by decide +kernel
theorem dX9_init_108 : decode cX9_init 108 = .ok (.iconst 1, 1) := by decide +kernel
theorem dX9_init_109 : decode cX9_init 109 = .ok (.iconst 3, 1) := by decide +kernel
theorem dX9_init_110 : decode cX9_init 110 = .ok (.iastore, 1) := by decide +kernel
theorem dX9_init_111 : decode cX9_init 111 = .ok (.aload_n 0, 1) := by decide +kernel
theorem dX9_init_112 : decode cX9_init 112 = .ok (.getfield 7, 3) := by decide +kernel
theorem dX9_init_115 : decode cX9_init 115 = .ok (.iconst 2, 1) := by decide +kernel
theorem dX9_init_116 : decode cX9_init 116 = .ok (.iconst 4, 1) := by decide +kernel
theorem dX9_init_117 : decode cX9_init 117 = .ok (.iastore, 1) := by decide +kernel
theorem dX9_init_118 : decode cX9_init 118 = .ok (.aload_n 0, 1) := by decide +kernel
theorem dX9_init_119 : decode cX9_init 119 = .ok (.getfield 7, 3) := by decide +kernel
theorem dX9_init_122 : decode cX9_init 122 = .ok (.iconst 3, 1) := by decide +kernel
theorem dX9_init_123 : decode cX9_init 123 = .ok (.iconst 0, 1) := by decide +kernel
theorem dX9_init_124 : decode cX9_init 124 = .ok (.invokestatic 45, 3) := by decide +kernel
theorem dX9_init_127 : decode cX9_init 127 = .ok (.iconst 2, 1) := by decide +kernel
theorem dX9_init_128 : decode cX9_init 128 = .ok (.iastore, 1) := by decide +kernel
theorem dX9_init_129 : decode cX9_init 129 = .ok (.aload_n 0, 1) := by decide +kernel
theorem dX9_init_130 : decode cX9_init 130 = .ok (.getfield 7, 3) := by decide +kernel
theorem dX9_init_133 : decode cX9_init 133 = .ok (.iconst 1, 1) := by decide +kernel
theorem dX9_init_134 : decode cX9_init 134 = .ok (.iconst 1, 1) := by decide +kernel
theorem dX9_init_135 : decode cX9_init 135 = .ok (.invokestatic 45, 3) := by decide +kernel
theorem dX9_init_138 : decode cX9_init 138 = .ok (.iconst 1, 1) := by decide +kernel
theorem dX9_init_139 : decode cX9_init 139 = .ok (.iastore, 1) := by decide +kernel
theorem dX9_init_140 : decode cX9_init 140 = .ok (.aload_n 0, 1) := by decide +kernel
theorem dX9_init_141 : decode cX9_init 141 = .ok (.getfield 7, 3) := by decide +kernel
theorem dX9_init_144 : decode cX9_init 144 = .ok (.iconst 2, 1) := by decide +kernel
theorem dX9_init_145 : decode cX9_init 145 = .ok (.iconst 1, 1) := by decide +kernel
theorem dX9_init_146 : decode cX9_init 146 = .ok (.invokestatic 45, 3) := by decide +kernel
theorem dX9_init_149 : decode cX9_init 149 = .ok (.iconst 1, 1) := by decide +kernel
theorem dX9_init_150 : decode cX9_init 150 = .ok (.iastore, 1) := by decide +kernel
theorem dX9_init_151 : decode cX9_init 151 = .ok (.aload_n 0, 1) := by decide +kernel
theorem dX9_init_152 : decode cX9_init 152 = .ok (.getfield 7, 3) := by decide +kernel
theorem dX9_init_155 : decode cX9_init 155 = .ok (.iconst 2, 1) := by decide +kernel
theorem dX9_init_156 : decode cX9_init 156 = .ok (.iconst 2, 1) := by decide +kernel
theorem dX9_init_157 : decode cX9_init 157 = .ok (.invokestatic 45, 3) := by decide +kernel
theorem dX9_init_160 : decode cX9_init 160 = .ok (.bipush 13, 2) := by decide +kernel
theorem dX9_init_162 : decode cX9_init 162 = .ok (.iastore, 1) := by decide +kernel
theorem dX9_init_163 : decode cX9_init 163 = .ok (.return_, 1) := by decide +kernel
theorem kw_1342 : Cond.methodLink "FalseLightMarshModel" 1 Lib.objectInit ∈ zTs := z_in (i := 1342) (by decide +kernel) (by decide +kernel)
theorem kw_1346 : Cond.fieldLink "FalseLightMarshModel" 7 "FalseLightMarshModel" "now" "[I" ∈ zTs := z_in (i := 1346) (by decide +kernel) (by decide +kernel)
theorem kw_1347 : Cond.fieldLink "FalseLightMarshModel" 13 "FalseLightMarshModel" "draft" "[I" ∈ zTs := z_in (i := 1347) (by decide +kernel) (by decide +kernel)
theorem kw_1348 : Cond.fieldLink "FalseLightMarshModel" 16 "FalseLightMarshModel" "spare" "[I" ∈ zTs := z_in (i := 1348) (by decide +kernel) (by decide +kernel)
theorem kw_1349 : Cond.fieldLink "FalseLightMarshModel" 19 "FalseLightMarshModel" "earlier" "[I" ∈ zTs := z_in (i := 1349) (by decide +kernel) (by decide +kernel)
theorem kw_1350 : Cond.fieldLink "FalseLightMarshModel" 22 "FalseLightMarshModel" "slots" "[I" ∈ zTs := z_in (i := 1350) (by decide +kernel) (by decide +kernel)
theorem kw_1351 : Cond.fieldLink "FalseLightMarshModel" 25 "FalseLightMarshModel" "isKept" "[Z" ∈ zTs := z_in (i := 1351) (by decide +kernel) (by decide +kernel)
theorem kw_1353 : Cond.fieldLink "FalseLightMarshModel" 29 "FalseLightMarshModel" "buffer" "[I" ∈ zTs := z_in (i := 1353) (by decide +kernel) (by decide +kernel)
theorem kw_1355 : Cond.fieldLink "FalseLightMarshModel" 32 "FalseLightMarshModel" "error" "I" ∈ zTs := z_in (i := 1355) (by decide +kernel) (by decide +kernel)
theorem kw_1357 : Cond.fieldLink "FalseLightMarshModel" 36 "FalseLightMarshModel" "steps" "[I" ∈ zTs := z_in (i := 1357) (by decide +kernel) (by decide +kernel)
theorem kw_1358 : Cond.fieldLink "FalseLightMarshModel" 39 "FalseLightMarshModel" "waiting" "[I" ∈ zTs := z_in (i := 1358) (by decide +kernel) (by decide +kernel)
theorem kw_1367 : Cond.fieldLink "FalseLightMarshModel" 42 "FalseLightMarshModel" "out" "[I" ∈ zTs := z_in (i := 1367) (by decide +kernel) (by decide +kernel)
/-- the number of a cell, as the model has it -/
theorem k_cellAt (l : Launch) (x y : Int32) : Met l yX9_cellAt (Cond.code yX9_cellAt cX9_cellAt 2 (some .int) :: zTs) { frames := 0, cells := 0, slots := 0, locals := 0 } (va_Pc [.int x, .int y] (fun _ => True)) (va_Qi (fun r (_ : Unit) => r = 30 + 12 * y + x) (fun _ _ => True) (fun _ => False)) 0 0 (fun _ => False) := by
  refine Met.ofW (cc := cX9_cellAt) (maxL := 2) (ret := some .int) (by decide) rfl ?_
  intro p e s m args below meth c s₁ X hml hv
  obtain ⟨rfl, -⟩ := hv
  have hx := X.exec
  have hb := X.bytes
  have hl := lv_entry ([.int x, .int y]) (n := 2) (show (lg_sl [Value.int x, Value.int y]).length ≤ 2 from Nat.le_of_ble_eq_true rfl)
  rw [lg_entry_eq]
  generalize (lg_sl ([.int x, .int y]) ++ List.replicate (2 - (lg_sl ([.int x, .int y])).length) Slot.unset).toArray = ls at hl ⊢
  have hl : lv_has ls 2 [(0, .int x), (1, .int y)] := hl
  refine lv_bipush (v := 30) hx hb dX9_cellAt_0 (by decide) ?_
  refine lv_bipush (v := 12) hx hb dX9_cellAt_2 (by decide) ?_
  refine lv_iload_n hx hb dX9_cellAt_4 rfl (lv_at hl 1 rfl) ?_
  refine lv_imul hx hb dX9_cellAt_5 ?_
  refine lv_iadd hx hb dX9_cellAt_6 ?_
  refine lv_iload_n hx hb dX9_cellAt_7 rfl (lv_at hl 0 rfl) ?_
  refine lv_iadd hx hb dX9_cellAt_8 ?_
  have hlocks := X.notSynchronized
  exact W.iret (v := 30 + 12 * y + x) hx hb X.returns (fun t ht hW => ⟨⟨30 + 12 * y + x, (), rfl, rfl, trivial⟩, Nat.le_of_eq (by rw [ht]), fun q _ _ => by rw [ht]⟩) (fun q hq => by cases hq) dX9_cellAt_9
theorem k_cellW : ∀ w ∈ wsS "FalseLightMarshModel" 45 yX9_cellAt (Cond.code yX9_cellAt cX9_cellAt 2 (some .int) :: zTs), w ∈ zTs := by
  intro w hw
  rcases List.mem_append.mp hw with h | h
  · rcases List.mem_cons.mp h with rfl | h
    · exact wl_1343
    · rcases List.mem_cons.mp h with rfl | h
      · exact ws_1344
      · rcases List.mem_cons.mp h with rfl | h
        · exact wi_87
        · cases h
  · rcases List.mem_cons.mp h with rfl | h
    · exact wc_1345
    · exact h
/-- the model's first row, as its constructor leaves it -/
def rI9 : Nat → Int32 := upd (upd (upd (upd (upd (upd (upd (fun _ => 0) (0 : Int32).toNatClampNeg 4) (1 : Int32).toNatClampNeg 3) (2 : Int32).toNatClampNeg 4) (33 : Int32).toNatClampNeg 2) (43 : Int32).toNatClampNeg 1) (44 : Int32).toNatClampNeg 1) (56 : Int32).toNatClampNeg 13
theorem rI9_eq (j : Nat) : rI9 j = zi (rFst (j : Int)) := by
  unfold rI9 rFst
  simp only [upd, show (0 : Int32).toNatClampNeg = 0 by decide +kernel, show (1 : Int32).toNatClampNeg = 1 by decide +kernel, show (2 : Int32).toNatClampNeg = 2 by decide +kernel, show (33 : Int32).toNatClampNeg = 33 by decide +kernel, show (43 : Int32).toNatClampNeg = 43 by decide +kernel, show (44 : Int32).toNatClampNeg = 44 by decide +kernel, show (56 : Int32).toNatClampNeg = 56 by decide +kernel]
  by_cases h0 : j = 0
  · subst h0; rfl
  by_cases h1 : j = 1
  · subst h1; rfl
  by_cases h2 : j = 2
  · subst h2; rfl
  by_cases h3 : j = 33
  · subst h3; rfl
  by_cases h4 : j = 43
  · subst h4; rfl
  by_cases h5 : j = 44
  · subst h5; rfl
  by_cases h6 : j = 56
  · subst h6; rfl
  rw [if_neg h6, if_neg h5, if_neg h4, if_neg h3, if_neg h2, if_neg h1, if_neg h0, if_neg (by omega), if_neg (by omega), if_neg (by omega), if_neg (by omega), if_neg (by omega), if_neg (by omega), if_neg (by omega)]
  rfl
def kX9 (cA : Nat → ClassId) (f : Nat → Nat) : va_W := [(f 0, .inr (9, [.ref (f 1), .ref (f 2), .ref (f 3), .ref (f 4), .ref (f 5), .ref (f 6), .int 0, .ref (f 7), .int 0, .int (-1), .int 0, .ref (f 8), .ref (f 9), .int 0, .int 0, .int 0, .int 0, .int 0, .int 0, .long 0, .int 0, .ref (f 10), .int 0])), (f 1, .inl (cA 1, 256, .inl rI9)), (f 2, .inl (cA 1, 256, .inl fun _ => 0)), (f 3, .inl (cA 1, 256, .inl fun _ => 0)), (f 4, .inl (cA 1, 2048, .inl fun _ => 0)), (f 5, .inl (cA 1, 512, .inl fun _ => 0)), (f 6, .inl (cA 3, 2, .inl fun _ => 0)), (f 7, .inl (cA 1, 800, .inl fun _ => 0)), (f 8, .inl (cA 1, 144, .inl fun _ => 0)), (f 9, .inl (cA 1, 144, .inl fun _ => 0)), (f 10, .inl (cA 1, 160, .inl fun _ => 0))]
set_option maxHeartbeats 4000000 in
theorem k_X9 (l : Launch) (D : va_G) (cA : Nat → ClassId) : kCon l yX9_init cX9_init 1 { frames := 1, cells := 10, slots := 4578, locals := 40 } D cA 9 [.null, .null, .null, .null, .null, .null, .int 0, .null, .int 0, .int 0, .int 0, .null, .null, .int 0, .int 0, .int 0, .int 0, .int 0, .int 0, .long 0, .int 0, .null, .int 0] (kX9 cA) := by
  refine k_con (by decide) rfl (Nat.le_of_ble_eq_true rfl) dX9_init_0 dX9_init_1 kw_1342 ⟨by decide, by decide⟩ ?_
  intro p e s m below meth c h0 ls A Q hx hb hml hown hts hin hK hP hD hS hA hl hret
  refine lv_aload_n hx hb dX9_init_4 rfl (lv_at hl 0 rfl) ?_
  refine lv_sipush (v := 256) hx hb dX9_init_5 (by decide) ?_
  refine va_newa (D := D) (atype := .int) (ty := .int) (a0 := (256, .inl fun _ => 0)) hx hb (hts _ kw_140) rfl hK.1 hP hD hS hA (fun _ => rfl) (by decide) rfl (by decide) (by decide) (by decide) dX9_init_8 (fun q1 cB H hK1 hP hD hS => ?_)
  have eB : cB = cA 1 := k_uni (fun C h => by cases h) (hK1.2 6 _ rfl).2 (hK.1.2 0 _ rfl).2
  subst eB
  have hP : va_P D vwCl ([(h0, .inr (9, [.null, .null, .null, .null, .null, .null, .int 0, .null, .int 0, .int 0, .int 0, .null, .null, .int 0, .int 0, .int 0, .int 0, .int 0, .int 0, .long 0, .int 0, .null, .int 0])), (q1, .inl (cA 1, 256, .inl fun _ => 0))]) H := hP
  have hD : va_D A ([(h0, .inr (9, [.null, .null, .null, .null, .null, .null, .int 0, .null, .int 0, .int 0, .int 0, .null, .null, .int 0, .int 0, .int 0, .int 0, .int 0, .int 0, .long 0, .int 0, .null, .int 0])), (q1, .inl (cA 1, 256, .inl fun _ => 0))]) := hD
  refine va_putF (D := D) (ci := 9) (v := .ref q1) (ty := tyX9 0) (C := RX9) (T := TX9) (N := 23) hx hb hts inX9 tyX9 tyX9_ok nmX9 hown hK.1 hP hD hS 0 rfl rfl 0 (by decide) (hts _ kw_1346) (fun _ h9 => h9) rfl hin rfl (tyX9_ok 0 (by decide)) rfl rfl (Nat.le_of_ble_eq_true rfl) dX9_init_10 (fun H locs hP hD hS => ?_)
  have hP : va_P D vwCl ([(h0, .inr (9, [.ref q1, .null, .null, .null, .null, .null, .int 0, .null, .int 0, .int 0, .int 0, .null, .null, .int 0, .int 0, .int 0, .int 0, .int 0, .int 0, .long 0, .int 0, .null, .int 0])), (q1, .inl (cA 1, 256, .inl fun _ => 0))]) H := hP
  have hD : va_D A ([(h0, .inr (9, [.ref q1, .null, .null, .null, .null, .null, .int 0, .null, .int 0, .int 0, .int 0, .null, .null, .int 0, .int 0, .int 0, .int 0, .int 0, .int 0, .long 0, .int 0, .null, .int 0])), (q1, .inl (cA 1, 256, .inl fun _ => 0))]) := hD
  refine lv_aload_n hx hb dX9_init_13 rfl (lv_at hl 0 rfl) ?_
  refine lv_sipush (v := 256) hx hb dX9_init_14 (by decide) ?_
  refine va_newa (D := D) (atype := .int) (ty := .int) (a0 := (256, .inl fun _ => 0)) hx hb (hts _ kw_140) rfl hK.1 hP hD hS hA (fun _ => rfl) (by decide) rfl (by decide) (by decide) (by decide) dX9_init_17 (fun q2 cB H hK1 hP hD hS => ?_)
  have eB : cB = cA 1 := k_uni (fun C h => by cases h) (hK1.2 6 _ rfl).2 (hK.1.2 0 _ rfl).2
  subst eB
  have hP : va_P D vwCl ([(h0, .inr (9, [.ref q1, .null, .null, .null, .null, .null, .int 0, .null, .int 0, .int 0, .int 0, .null, .null, .int 0, .int 0, .int 0, .int 0, .int 0, .int 0, .long 0, .int 0, .null, .int 0])), (q1, .inl (cA 1, 256, .inl fun _ => 0)), (q2, .inl (cA 1, 256, .inl fun _ => 0))]) H := hP
  have hD : va_D A ([(h0, .inr (9, [.ref q1, .null, .null, .null, .null, .null, .int 0, .null, .int 0, .int 0, .int 0, .null, .null, .int 0, .int 0, .int 0, .int 0, .int 0, .int 0, .long 0, .int 0, .null, .int 0])), (q1, .inl (cA 1, 256, .inl fun _ => 0)), (q2, .inl (cA 1, 256, .inl fun _ => 0))]) := hD
  refine va_putF (D := D) (ci := 9) (v := .ref q2) (ty := tyX9 1) (C := RX9) (T := TX9) (N := 23) hx hb hts inX9 tyX9 tyX9_ok nmX9 hown hK.1 hP hD hS 0 rfl rfl 1 (by decide) (hts _ kw_1347) (fun _ h9 => h9) rfl hin rfl (tyX9_ok 1 (by decide)) rfl rfl (Nat.le_of_ble_eq_true rfl) dX9_init_19 (fun H locs hP hD hS => ?_)
  have hP : va_P D vwCl ([(h0, .inr (9, [.ref q1, .ref q2, .null, .null, .null, .null, .int 0, .null, .int 0, .int 0, .int 0, .null, .null, .int 0, .int 0, .int 0, .int 0, .int 0, .int 0, .long 0, .int 0, .null, .int 0])), (q1, .inl (cA 1, 256, .inl fun _ => 0)), (q2, .inl (cA 1, 256, .inl fun _ => 0))]) H := hP
  have hD : va_D A ([(h0, .inr (9, [.ref q1, .ref q2, .null, .null, .null, .null, .int 0, .null, .int 0, .int 0, .int 0, .null, .null, .int 0, .int 0, .int 0, .int 0, .int 0, .int 0, .long 0, .int 0, .null, .int 0])), (q1, .inl (cA 1, 256, .inl fun _ => 0)), (q2, .inl (cA 1, 256, .inl fun _ => 0))]) := hD
  refine lv_aload_n hx hb dX9_init_22 rfl (lv_at hl 0 rfl) ?_
  refine lv_sipush (v := 256) hx hb dX9_init_23 (by decide) ?_
  refine va_newa (D := D) (atype := .int) (ty := .int) (a0 := (256, .inl fun _ => 0)) hx hb (hts _ kw_140) rfl hK.1 hP hD hS hA (fun _ => rfl) (by decide) rfl (by decide) (by decide) (by decide) dX9_init_26 (fun q3 cB H hK1 hP hD hS => ?_)
  have eB : cB = cA 1 := k_uni (fun C h => by cases h) (hK1.2 6 _ rfl).2 (hK.1.2 0 _ rfl).2
  subst eB
  have hP : va_P D vwCl ([(h0, .inr (9, [.ref q1, .ref q2, .null, .null, .null, .null, .int 0, .null, .int 0, .int 0, .int 0, .null, .null, .int 0, .int 0, .int 0, .int 0, .int 0, .int 0, .long 0, .int 0, .null, .int 0])), (q1, .inl (cA 1, 256, .inl fun _ => 0)), (q2, .inl (cA 1, 256, .inl fun _ => 0)), (q3, .inl (cA 1, 256, .inl fun _ => 0))]) H := hP
  have hD : va_D A ([(h0, .inr (9, [.ref q1, .ref q2, .null, .null, .null, .null, .int 0, .null, .int 0, .int 0, .int 0, .null, .null, .int 0, .int 0, .int 0, .int 0, .int 0, .int 0, .long 0, .int 0, .null, .int 0])), (q1, .inl (cA 1, 256, .inl fun _ => 0)), (q2, .inl (cA 1, 256, .inl fun _ => 0)), (q3, .inl (cA 1, 256, .inl fun _ => 0))]) := hD
  refine va_putF (D := D) (ci := 9) (v := .ref q3) (ty := tyX9 2) (C := RX9) (T := TX9) (N := 23) hx hb hts inX9 tyX9 tyX9_ok nmX9 hown hK.1 hP hD hS 0 rfl rfl 2 (by decide) (hts _ kw_1348) (fun _ h9 => h9) rfl hin rfl (tyX9_ok 2 (by decide)) rfl rfl (Nat.le_of_ble_eq_true rfl) dX9_init_28 (fun H locs hP hD hS => ?_)
  have hP : va_P D vwCl ([(h0, .inr (9, [.ref q1, .ref q2, .ref q3, .null, .null, .null, .int 0, .null, .int 0, .int 0, .int 0, .null, .null, .int 0, .int 0, .int 0, .int 0, .int 0, .int 0, .long 0, .int 0, .null, .int 0])), (q1, .inl (cA 1, 256, .inl fun _ => 0)), (q2, .inl (cA 1, 256, .inl fun _ => 0)), (q3, .inl (cA 1, 256, .inl fun _ => 0))]) H := hP
  have hD : va_D A ([(h0, .inr (9, [.ref q1, .ref q2, .ref q3, .null, .null, .null, .int 0, .null, .int 0, .int 0, .int 0, .null, .null, .int 0, .int 0, .int 0, .int 0, .int 0, .int 0, .long 0, .int 0, .null, .int 0])), (q1, .inl (cA 1, 256, .inl fun _ => 0)), (q2, .inl (cA 1, 256, .inl fun _ => 0)), (q3, .inl (cA 1, 256, .inl fun _ => 0))]) := hD
  refine lv_aload_n hx hb dX9_init_31 rfl (lv_at hl 0 rfl) ?_
  refine lv_sipush (v := 2048) hx hb dX9_init_32 (by decide) ?_
  refine va_newa (D := D) (atype := .int) (ty := .int) (a0 := (2048, .inl fun _ => 0)) hx hb (hts _ kw_140) rfl hK.1 hP hD hS hA (fun _ => rfl) (by decide) rfl (by decide) (by decide) (by decide) dX9_init_35 (fun q4 cB H hK1 hP hD hS => ?_)
  have eB : cB = cA 1 := k_uni (fun C h => by cases h) (hK1.2 6 _ rfl).2 (hK.1.2 0 _ rfl).2
  subst eB
  have hP : va_P D vwCl ([(h0, .inr (9, [.ref q1, .ref q2, .ref q3, .null, .null, .null, .int 0, .null, .int 0, .int 0, .int 0, .null, .null, .int 0, .int 0, .int 0, .int 0, .int 0, .int 0, .long 0, .int 0, .null, .int 0])), (q1, .inl (cA 1, 256, .inl fun _ => 0)), (q2, .inl (cA 1, 256, .inl fun _ => 0)), (q3, .inl (cA 1, 256, .inl fun _ => 0)), (q4, .inl (cA 1, 2048, .inl fun _ => 0))]) H := hP
  have hD : va_D A ([(h0, .inr (9, [.ref q1, .ref q2, .ref q3, .null, .null, .null, .int 0, .null, .int 0, .int 0, .int 0, .null, .null, .int 0, .int 0, .int 0, .int 0, .int 0, .int 0, .long 0, .int 0, .null, .int 0])), (q1, .inl (cA 1, 256, .inl fun _ => 0)), (q2, .inl (cA 1, 256, .inl fun _ => 0)), (q3, .inl (cA 1, 256, .inl fun _ => 0)), (q4, .inl (cA 1, 2048, .inl fun _ => 0))]) := hD
  refine va_putF (D := D) (ci := 9) (v := .ref q4) (ty := tyX9 3) (C := RX9) (T := TX9) (N := 23) hx hb hts inX9 tyX9 tyX9_ok nmX9 hown hK.1 hP hD hS 0 rfl rfl 3 (by decide) (hts _ kw_1349) (fun _ h9 => h9) rfl hin rfl (tyX9_ok 3 (by decide)) rfl rfl (Nat.le_of_ble_eq_true rfl) dX9_init_37 (fun H locs hP hD hS => ?_)
  have hP : va_P D vwCl ([(h0, .inr (9, [.ref q1, .ref q2, .ref q3, .ref q4, .null, .null, .int 0, .null, .int 0, .int 0, .int 0, .null, .null, .int 0, .int 0, .int 0, .int 0, .int 0, .int 0, .long 0, .int 0, .null, .int 0])), (q1, .inl (cA 1, 256, .inl fun _ => 0)), (q2, .inl (cA 1, 256, .inl fun _ => 0)), (q3, .inl (cA 1, 256, .inl fun _ => 0)), (q4, .inl (cA 1, 2048, .inl fun _ => 0))]) H := hP
  have hD : va_D A ([(h0, .inr (9, [.ref q1, .ref q2, .ref q3, .ref q4, .null, .null, .int 0, .null, .int 0, .int 0, .int 0, .null, .null, .int 0, .int 0, .int 0, .int 0, .int 0, .int 0, .long 0, .int 0, .null, .int 0])), (q1, .inl (cA 1, 256, .inl fun _ => 0)), (q2, .inl (cA 1, 256, .inl fun _ => 0)), (q3, .inl (cA 1, 256, .inl fun _ => 0)), (q4, .inl (cA 1, 2048, .inl fun _ => 0))]) := hD
  refine lv_aload_n hx hb dX9_init_40 rfl (lv_at hl 0 rfl) ?_
  refine lv_sipush (v := 512) hx hb dX9_init_41 (by decide) ?_
  refine va_newa (D := D) (atype := .int) (ty := .int) (a0 := (512, .inl fun _ => 0)) hx hb (hts _ kw_140) rfl hK.1 hP hD hS hA (fun _ => rfl) (by decide) rfl (by decide) (by decide) (by decide) dX9_init_44 (fun q5 cB H hK1 hP hD hS => ?_)
  have eB : cB = cA 1 := k_uni (fun C h => by cases h) (hK1.2 6 _ rfl).2 (hK.1.2 0 _ rfl).2
  subst eB
  have hP : va_P D vwCl ([(h0, .inr (9, [.ref q1, .ref q2, .ref q3, .ref q4, .null, .null, .int 0, .null, .int 0, .int 0, .int 0, .null, .null, .int 0, .int 0, .int 0, .int 0, .int 0, .int 0, .long 0, .int 0, .null, .int 0])), (q1, .inl (cA 1, 256, .inl fun _ => 0)), (q2, .inl (cA 1, 256, .inl fun _ => 0)), (q3, .inl (cA 1, 256, .inl fun _ => 0)), (q4, .inl (cA 1, 2048, .inl fun _ => 0)), (q5, .inl (cA 1, 512, .inl fun _ => 0))]) H := hP
  have hD : va_D A ([(h0, .inr (9, [.ref q1, .ref q2, .ref q3, .ref q4, .null, .null, .int 0, .null, .int 0, .int 0, .int 0, .null, .null, .int 0, .int 0, .int 0, .int 0, .int 0, .int 0, .long 0, .int 0, .null, .int 0])), (q1, .inl (cA 1, 256, .inl fun _ => 0)), (q2, .inl (cA 1, 256, .inl fun _ => 0)), (q3, .inl (cA 1, 256, .inl fun _ => 0)), (q4, .inl (cA 1, 2048, .inl fun _ => 0)), (q5, .inl (cA 1, 512, .inl fun _ => 0))]) := hD
  refine va_putF (D := D) (ci := 9) (v := .ref q5) (ty := tyX9 4) (C := RX9) (T := TX9) (N := 23) hx hb hts inX9 tyX9 tyX9_ok nmX9 hown hK.1 hP hD hS 0 rfl rfl 4 (by decide) (hts _ kw_1350) (fun _ h9 => h9) rfl hin rfl (tyX9_ok 4 (by decide)) rfl rfl (Nat.le_of_ble_eq_true rfl) dX9_init_46 (fun H locs hP hD hS => ?_)
  have hP : va_P D vwCl ([(h0, .inr (9, [.ref q1, .ref q2, .ref q3, .ref q4, .ref q5, .null, .int 0, .null, .int 0, .int 0, .int 0, .null, .null, .int 0, .int 0, .int 0, .int 0, .int 0, .int 0, .long 0, .int 0, .null, .int 0])), (q1, .inl (cA 1, 256, .inl fun _ => 0)), (q2, .inl (cA 1, 256, .inl fun _ => 0)), (q3, .inl (cA 1, 256, .inl fun _ => 0)), (q4, .inl (cA 1, 2048, .inl fun _ => 0)), (q5, .inl (cA 1, 512, .inl fun _ => 0))]) H := hP
  have hD : va_D A ([(h0, .inr (9, [.ref q1, .ref q2, .ref q3, .ref q4, .ref q5, .null, .int 0, .null, .int 0, .int 0, .int 0, .null, .null, .int 0, .int 0, .int 0, .int 0, .int 0, .int 0, .long 0, .int 0, .null, .int 0])), (q1, .inl (cA 1, 256, .inl fun _ => 0)), (q2, .inl (cA 1, 256, .inl fun _ => 0)), (q3, .inl (cA 1, 256, .inl fun _ => 0)), (q4, .inl (cA 1, 2048, .inl fun _ => 0)), (q5, .inl (cA 1, 512, .inl fun _ => 0))]) := hD
  refine lv_aload_n hx hb dX9_init_49 rfl (lv_at hl 0 rfl) ?_
  refine lv_iconst (v := 2) hx hb dX9_init_50 (by decide) ?_
  refine va_newa (D := D) (atype := .boolean) (ty := .boolean) (a0 := (2, .inl fun _ => 0)) hx hb (hts _ kw_306) rfl hK.1 hP hD hS hA (fun _ => rfl) (by decide) rfl (by decide) (by decide) (by decide) dX9_init_51 (fun q6 cB H hK1 hP hD hS => ?_)
  have eB : cB = cA 3 := k_uni (fun C h => by cases h) (hK1.2 6 _ rfl).2 (hK.1.2 2 _ rfl).2
  subst eB
  have hP : va_P D vwCl ([(h0, .inr (9, [.ref q1, .ref q2, .ref q3, .ref q4, .ref q5, .null, .int 0, .null, .int 0, .int 0, .int 0, .null, .null, .int 0, .int 0, .int 0, .int 0, .int 0, .int 0, .long 0, .int 0, .null, .int 0])), (q1, .inl (cA 1, 256, .inl fun _ => 0)), (q2, .inl (cA 1, 256, .inl fun _ => 0)), (q3, .inl (cA 1, 256, .inl fun _ => 0)), (q4, .inl (cA 1, 2048, .inl fun _ => 0)), (q5, .inl (cA 1, 512, .inl fun _ => 0)), (q6, .inl (cA 3, 2, .inl fun _ => 0))]) H := hP
  have hD : va_D A ([(h0, .inr (9, [.ref q1, .ref q2, .ref q3, .ref q4, .ref q5, .null, .int 0, .null, .int 0, .int 0, .int 0, .null, .null, .int 0, .int 0, .int 0, .int 0, .int 0, .int 0, .long 0, .int 0, .null, .int 0])), (q1, .inl (cA 1, 256, .inl fun _ => 0)), (q2, .inl (cA 1, 256, .inl fun _ => 0)), (q3, .inl (cA 1, 256, .inl fun _ => 0)), (q4, .inl (cA 1, 2048, .inl fun _ => 0)), (q5, .inl (cA 1, 512, .inl fun _ => 0)), (q6, .inl (cA 3, 2, .inl fun _ => 0))]) := hD
  refine va_putF (D := D) (ci := 9) (v := .ref q6) (ty := tyX9 5) (C := RX9) (T := TX9) (N := 23) hx hb hts inX9 tyX9 tyX9_ok nmX9 hown hK.1 hP hD hS 0 rfl rfl 5 (by decide) (hts _ kw_1351) (fun _ h9 => h9) rfl hin rfl (tyX9_ok 5 (by decide)) rfl rfl (Nat.le_of_ble_eq_true rfl) dX9_init_53 (fun H locs hP hD hS => ?_)
  have hP : va_P D vwCl ([(h0, .inr (9, [.ref q1, .ref q2, .ref q3, .ref q4, .ref q5, .ref q6, .int 0, .null, .int 0, .int 0, .int 0, .null, .null, .int 0, .int 0, .int 0, .int 0, .int 0, .int 0, .long 0, .int 0, .null, .int 0])), (q1, .inl (cA 1, 256, .inl fun _ => 0)), (q2, .inl (cA 1, 256, .inl fun _ => 0)), (q3, .inl (cA 1, 256, .inl fun _ => 0)), (q4, .inl (cA 1, 2048, .inl fun _ => 0)), (q5, .inl (cA 1, 512, .inl fun _ => 0)), (q6, .inl (cA 3, 2, .inl fun _ => 0))]) H := hP
  have hD : va_D A ([(h0, .inr (9, [.ref q1, .ref q2, .ref q3, .ref q4, .ref q5, .ref q6, .int 0, .null, .int 0, .int 0, .int 0, .null, .null, .int 0, .int 0, .int 0, .int 0, .int 0, .int 0, .long 0, .int 0, .null, .int 0])), (q1, .inl (cA 1, 256, .inl fun _ => 0)), (q2, .inl (cA 1, 256, .inl fun _ => 0)), (q3, .inl (cA 1, 256, .inl fun _ => 0)), (q4, .inl (cA 1, 2048, .inl fun _ => 0)), (q5, .inl (cA 1, 512, .inl fun _ => 0)), (q6, .inl (cA 3, 2, .inl fun _ => 0))]) := hD
  refine lv_aload_n hx hb dX9_init_56 rfl (lv_at hl 0 rfl) ?_
  refine lv_sipush (v := 800) hx hb dX9_init_57 (by decide) ?_
  refine va_newa (D := D) (atype := .int) (ty := .int) (a0 := (800, .inl fun _ => 0)) hx hb (hts _ kw_140) rfl hK.1 hP hD hS hA (fun _ => rfl) (by decide) rfl (by decide) (by decide) (by decide) dX9_init_60 (fun q7 cB H hK1 hP hD hS => ?_)
  have eB : cB = cA 1 := k_uni (fun C h => by cases h) (hK1.2 6 _ rfl).2 (hK.1.2 0 _ rfl).2
  subst eB
  have hP : va_P D vwCl ([(h0, .inr (9, [.ref q1, .ref q2, .ref q3, .ref q4, .ref q5, .ref q6, .int 0, .null, .int 0, .int 0, .int 0, .null, .null, .int 0, .int 0, .int 0, .int 0, .int 0, .int 0, .long 0, .int 0, .null, .int 0])), (q1, .inl (cA 1, 256, .inl fun _ => 0)), (q2, .inl (cA 1, 256, .inl fun _ => 0)), (q3, .inl (cA 1, 256, .inl fun _ => 0)), (q4, .inl (cA 1, 2048, .inl fun _ => 0)), (q5, .inl (cA 1, 512, .inl fun _ => 0)), (q6, .inl (cA 3, 2, .inl fun _ => 0)), (q7, .inl (cA 1, 800, .inl fun _ => 0))]) H := hP
  have hD : va_D A ([(h0, .inr (9, [.ref q1, .ref q2, .ref q3, .ref q4, .ref q5, .ref q6, .int 0, .null, .int 0, .int 0, .int 0, .null, .null, .int 0, .int 0, .int 0, .int 0, .int 0, .int 0, .long 0, .int 0, .null, .int 0])), (q1, .inl (cA 1, 256, .inl fun _ => 0)), (q2, .inl (cA 1, 256, .inl fun _ => 0)), (q3, .inl (cA 1, 256, .inl fun _ => 0)), (q4, .inl (cA 1, 2048, .inl fun _ => 0)), (q5, .inl (cA 1, 512, .inl fun _ => 0)), (q6, .inl (cA 3, 2, .inl fun _ => 0)), (q7, .inl (cA 1, 800, .inl fun _ => 0))]) := hD
  refine va_putF (D := D) (ci := 9) (v := .ref q7) (ty := tyX9 7) (C := RX9) (T := TX9) (N := 23) hx hb hts inX9 tyX9 tyX9_ok nmX9 hown hK.1 hP hD hS 0 rfl rfl 7 (by decide) (hts _ kw_1353) (fun _ h9 => h9) rfl hin rfl (tyX9_ok 7 (by decide)) rfl rfl (Nat.le_of_ble_eq_true rfl) dX9_init_62 (fun H locs hP hD hS => ?_)
  have hP : va_P D vwCl ([(h0, .inr (9, [.ref q1, .ref q2, .ref q3, .ref q4, .ref q5, .ref q6, .int 0, .ref q7, .int 0, .int 0, .int 0, .null, .null, .int 0, .int 0, .int 0, .int 0, .int 0, .int 0, .long 0, .int 0, .null, .int 0])), (q1, .inl (cA 1, 256, .inl fun _ => 0)), (q2, .inl (cA 1, 256, .inl fun _ => 0)), (q3, .inl (cA 1, 256, .inl fun _ => 0)), (q4, .inl (cA 1, 2048, .inl fun _ => 0)), (q5, .inl (cA 1, 512, .inl fun _ => 0)), (q6, .inl (cA 3, 2, .inl fun _ => 0)), (q7, .inl (cA 1, 800, .inl fun _ => 0))]) H := hP
  have hD : va_D A ([(h0, .inr (9, [.ref q1, .ref q2, .ref q3, .ref q4, .ref q5, .ref q6, .int 0, .ref q7, .int 0, .int 0, .int 0, .null, .null, .int 0, .int 0, .int 0, .int 0, .int 0, .int 0, .long 0, .int 0, .null, .int 0])), (q1, .inl (cA 1, 256, .inl fun _ => 0)), (q2, .inl (cA 1, 256, .inl fun _ => 0)), (q3, .inl (cA 1, 256, .inl fun _ => 0)), (q4, .inl (cA 1, 2048, .inl fun _ => 0)), (q5, .inl (cA 1, 512, .inl fun _ => 0)), (q6, .inl (cA 3, 2, .inl fun _ => 0)), (q7, .inl (cA 1, 800, .inl fun _ => 0))]) := hD
  refine lv_aload_n hx hb dX9_init_65 rfl (lv_at hl 0 rfl) ?_
  refine lv_iconst (v := (-1)) hx hb dX9_init_66 (by decide) ?_
  refine va_put (D := D) (ci := 9) (v := .int (-1)) (ty := .int) (C := RX9) (T := TX9) (N := 23) hx hb hts inX9 tyX9 tyX9_ok nmX9 hown hK.1 hP hD hS 0 rfl rfl 9 (by decide) (hts _ kw_1355) (fun _ h9 => h9) rfl (by decide +kernel) rfl rfl (Nat.le_of_ble_eq_true rfl) dX9_init_67 (fun H locs hP hD hS => ?_)
  have hP : va_P D vwCl ([(h0, .inr (9, [.ref q1, .ref q2, .ref q3, .ref q4, .ref q5, .ref q6, .int 0, .ref q7, .int 0, .int (-1), .int 0, .null, .null, .int 0, .int 0, .int 0, .int 0, .int 0, .int 0, .long 0, .int 0, .null, .int 0])), (q1, .inl (cA 1, 256, .inl fun _ => 0)), (q2, .inl (cA 1, 256, .inl fun _ => 0)), (q3, .inl (cA 1, 256, .inl fun _ => 0)), (q4, .inl (cA 1, 2048, .inl fun _ => 0)), (q5, .inl (cA 1, 512, .inl fun _ => 0)), (q6, .inl (cA 3, 2, .inl fun _ => 0)), (q7, .inl (cA 1, 800, .inl fun _ => 0))]) H := hP
  have hD : va_D A ([(h0, .inr (9, [.ref q1, .ref q2, .ref q3, .ref q4, .ref q5, .ref q6, .int 0, .ref q7, .int 0, .int (-1), .int 0, .null, .null, .int 0, .int 0, .int 0, .int 0, .int 0, .int 0, .long 0, .int 0, .null, .int 0])), (q1, .inl (cA 1, 256, .inl fun _ => 0)), (q2, .inl (cA 1, 256, .inl fun _ => 0)), (q3, .inl (cA 1, 256, .inl fun _ => 0)), (q4, .inl (cA 1, 2048, .inl fun _ => 0)), (q5, .inl (cA 1, 512, .inl fun _ => 0)), (q6, .inl (cA 3, 2, .inl fun _ => 0)), (q7, .inl (cA 1, 800, .inl fun _ => 0))]) := hD
  refine lv_aload_n hx hb dX9_init_70 rfl (lv_at hl 0 rfl) ?_
  refine lv_sipush (v := 144) hx hb dX9_init_71 (by decide) ?_
  refine va_newa (D := D) (atype := .int) (ty := .int) (a0 := (144, .inl fun _ => 0)) hx hb (hts _ kw_140) rfl hK.1 hP hD hS hA (fun _ => rfl) (by decide) rfl (by decide) (by decide) (by decide) dX9_init_74 (fun q8 cB H hK1 hP hD hS => ?_)
  have eB : cB = cA 1 := k_uni (fun C h => by cases h) (hK1.2 6 _ rfl).2 (hK.1.2 0 _ rfl).2
  subst eB
  have hP : va_P D vwCl ([(h0, .inr (9, [.ref q1, .ref q2, .ref q3, .ref q4, .ref q5, .ref q6, .int 0, .ref q7, .int 0, .int (-1), .int 0, .null, .null, .int 0, .int 0, .int 0, .int 0, .int 0, .int 0, .long 0, .int 0, .null, .int 0])), (q1, .inl (cA 1, 256, .inl fun _ => 0)), (q2, .inl (cA 1, 256, .inl fun _ => 0)), (q3, .inl (cA 1, 256, .inl fun _ => 0)), (q4, .inl (cA 1, 2048, .inl fun _ => 0)), (q5, .inl (cA 1, 512, .inl fun _ => 0)), (q6, .inl (cA 3, 2, .inl fun _ => 0)), (q7, .inl (cA 1, 800, .inl fun _ => 0)), (q8, .inl (cA 1, 144, .inl fun _ => 0))]) H := hP
  have hD : va_D A ([(h0, .inr (9, [.ref q1, .ref q2, .ref q3, .ref q4, .ref q5, .ref q6, .int 0, .ref q7, .int 0, .int (-1), .int 0, .null, .null, .int 0, .int 0, .int 0, .int 0, .int 0, .int 0, .long 0, .int 0, .null, .int 0])), (q1, .inl (cA 1, 256, .inl fun _ => 0)), (q2, .inl (cA 1, 256, .inl fun _ => 0)), (q3, .inl (cA 1, 256, .inl fun _ => 0)), (q4, .inl (cA 1, 2048, .inl fun _ => 0)), (q5, .inl (cA 1, 512, .inl fun _ => 0)), (q6, .inl (cA 3, 2, .inl fun _ => 0)), (q7, .inl (cA 1, 800, .inl fun _ => 0)), (q8, .inl (cA 1, 144, .inl fun _ => 0))]) := hD
  refine va_putF (D := D) (ci := 9) (v := .ref q8) (ty := tyX9 11) (C := RX9) (T := TX9) (N := 23) hx hb hts inX9 tyX9 tyX9_ok nmX9 hown hK.1 hP hD hS 0 rfl rfl 11 (by decide) (hts _ kw_1357) (fun _ h9 => h9) rfl hin rfl (tyX9_ok 11 (by decide)) rfl rfl (Nat.le_of_ble_eq_true rfl) dX9_init_76 (fun H locs hP hD hS => ?_)
  have hP : va_P D vwCl ([(h0, .inr (9, [.ref q1, .ref q2, .ref q3, .ref q4, .ref q5, .ref q6, .int 0, .ref q7, .int 0, .int (-1), .int 0, .ref q8, .null, .int 0, .int 0, .int 0, .int 0, .int 0, .int 0, .long 0, .int 0, .null, .int 0])), (q1, .inl (cA 1, 256, .inl fun _ => 0)), (q2, .inl (cA 1, 256, .inl fun _ => 0)), (q3, .inl (cA 1, 256, .inl fun _ => 0)), (q4, .inl (cA 1, 2048, .inl fun _ => 0)), (q5, .inl (cA 1, 512, .inl fun _ => 0)), (q6, .inl (cA 3, 2, .inl fun _ => 0)), (q7, .inl (cA 1, 800, .inl fun _ => 0)), (q8, .inl (cA 1, 144, .inl fun _ => 0))]) H := hP
  have hD : va_D A ([(h0, .inr (9, [.ref q1, .ref q2, .ref q3, .ref q4, .ref q5, .ref q6, .int 0, .ref q7, .int 0, .int (-1), .int 0, .ref q8, .null, .int 0, .int 0, .int 0, .int 0, .int 0, .int 0, .long 0, .int 0, .null, .int 0])), (q1, .inl (cA 1, 256, .inl fun _ => 0)), (q2, .inl (cA 1, 256, .inl fun _ => 0)), (q3, .inl (cA 1, 256, .inl fun _ => 0)), (q4, .inl (cA 1, 2048, .inl fun _ => 0)), (q5, .inl (cA 1, 512, .inl fun _ => 0)), (q6, .inl (cA 3, 2, .inl fun _ => 0)), (q7, .inl (cA 1, 800, .inl fun _ => 0)), (q8, .inl (cA 1, 144, .inl fun _ => 0))]) := hD
  refine lv_aload_n hx hb dX9_init_79 rfl (lv_at hl 0 rfl) ?_
  refine lv_sipush (v := 144) hx hb dX9_init_80 (by decide) ?_
  refine va_newa (D := D) (atype := .int) (ty := .int) (a0 := (144, .inl fun _ => 0)) hx hb (hts _ kw_140) rfl hK.1 hP hD hS hA (fun _ => rfl) (by decide) rfl (by decide) (by decide) (by decide) dX9_init_83 (fun q9 cB H hK1 hP hD hS => ?_)
  have eB : cB = cA 1 := k_uni (fun C h => by cases h) (hK1.2 6 _ rfl).2 (hK.1.2 0 _ rfl).2
  subst eB
  have hP : va_P D vwCl ([(h0, .inr (9, [.ref q1, .ref q2, .ref q3, .ref q4, .ref q5, .ref q6, .int 0, .ref q7, .int 0, .int (-1), .int 0, .ref q8, .null, .int 0, .int 0, .int 0, .int 0, .int 0, .int 0, .long 0, .int 0, .null, .int 0])), (q1, .inl (cA 1, 256, .inl fun _ => 0)), (q2, .inl (cA 1, 256, .inl fun _ => 0)), (q3, .inl (cA 1, 256, .inl fun _ => 0)), (q4, .inl (cA 1, 2048, .inl fun _ => 0)), (q5, .inl (cA 1, 512, .inl fun _ => 0)), (q6, .inl (cA 3, 2, .inl fun _ => 0)), (q7, .inl (cA 1, 800, .inl fun _ => 0)), (q8, .inl (cA 1, 144, .inl fun _ => 0)), (q9, .inl (cA 1, 144, .inl fun _ => 0))]) H := hP
  have hD : va_D A ([(h0, .inr (9, [.ref q1, .ref q2, .ref q3, .ref q4, .ref q5, .ref q6, .int 0, .ref q7, .int 0, .int (-1), .int 0, .ref q8, .null, .int 0, .int 0, .int 0, .int 0, .int 0, .int 0, .long 0, .int 0, .null, .int 0])), (q1, .inl (cA 1, 256, .inl fun _ => 0)), (q2, .inl (cA 1, 256, .inl fun _ => 0)), (q3, .inl (cA 1, 256, .inl fun _ => 0)), (q4, .inl (cA 1, 2048, .inl fun _ => 0)), (q5, .inl (cA 1, 512, .inl fun _ => 0)), (q6, .inl (cA 3, 2, .inl fun _ => 0)), (q7, .inl (cA 1, 800, .inl fun _ => 0)), (q8, .inl (cA 1, 144, .inl fun _ => 0)), (q9, .inl (cA 1, 144, .inl fun _ => 0))]) := hD
  refine va_putF (D := D) (ci := 9) (v := .ref q9) (ty := tyX9 12) (C := RX9) (T := TX9) (N := 23) hx hb hts inX9 tyX9 tyX9_ok nmX9 hown hK.1 hP hD hS 0 rfl rfl 12 (by decide) (hts _ kw_1358) (fun _ h9 => h9) rfl hin rfl (tyX9_ok 12 (by decide)) rfl rfl (Nat.le_of_ble_eq_true rfl) dX9_init_85 (fun H locs hP hD hS => ?_)
  have hP : va_P D vwCl ([(h0, .inr (9, [.ref q1, .ref q2, .ref q3, .ref q4, .ref q5, .ref q6, .int 0, .ref q7, .int 0, .int (-1), .int 0, .ref q8, .ref q9, .int 0, .int 0, .int 0, .int 0, .int 0, .int 0, .long 0, .int 0, .null, .int 0])), (q1, .inl (cA 1, 256, .inl fun _ => 0)), (q2, .inl (cA 1, 256, .inl fun _ => 0)), (q3, .inl (cA 1, 256, .inl fun _ => 0)), (q4, .inl (cA 1, 2048, .inl fun _ => 0)), (q5, .inl (cA 1, 512, .inl fun _ => 0)), (q6, .inl (cA 3, 2, .inl fun _ => 0)), (q7, .inl (cA 1, 800, .inl fun _ => 0)), (q8, .inl (cA 1, 144, .inl fun _ => 0)), (q9, .inl (cA 1, 144, .inl fun _ => 0))]) H := hP
  have hD : va_D A ([(h0, .inr (9, [.ref q1, .ref q2, .ref q3, .ref q4, .ref q5, .ref q6, .int 0, .ref q7, .int 0, .int (-1), .int 0, .ref q8, .ref q9, .int 0, .int 0, .int 0, .int 0, .int 0, .int 0, .long 0, .int 0, .null, .int 0])), (q1, .inl (cA 1, 256, .inl fun _ => 0)), (q2, .inl (cA 1, 256, .inl fun _ => 0)), (q3, .inl (cA 1, 256, .inl fun _ => 0)), (q4, .inl (cA 1, 2048, .inl fun _ => 0)), (q5, .inl (cA 1, 512, .inl fun _ => 0)), (q6, .inl (cA 3, 2, .inl fun _ => 0)), (q7, .inl (cA 1, 800, .inl fun _ => 0)), (q8, .inl (cA 1, 144, .inl fun _ => 0)), (q9, .inl (cA 1, 144, .inl fun _ => 0))]) := hD
  refine lv_aload_n hx hb dX9_init_88 rfl (lv_at hl 0 rfl) ?_
  refine lv_sipush (v := 160) hx hb dX9_init_89 (by decide) ?_
  refine va_newa (D := D) (atype := .int) (ty := .int) (a0 := (160, .inl fun _ => 0)) hx hb (hts _ kw_140) rfl hK.1 hP hD hS hA (fun _ => rfl) (by decide) rfl (by decide) (by decide) (by decide) dX9_init_92 (fun q10 cB H hK1 hP hD hS => ?_)
  have eB : cB = cA 1 := k_uni (fun C h => by cases h) (hK1.2 6 _ rfl).2 (hK.1.2 0 _ rfl).2
  subst eB
  have hP : va_P D vwCl ([(h0, .inr (9, [.ref q1, .ref q2, .ref q3, .ref q4, .ref q5, .ref q6, .int 0, .ref q7, .int 0, .int (-1), .int 0, .ref q8, .ref q9, .int 0, .int 0, .int 0, .int 0, .int 0, .int 0, .long 0, .int 0, .null, .int 0])), (q1, .inl (cA 1, 256, .inl fun _ => 0)), (q2, .inl (cA 1, 256, .inl fun _ => 0)), (q3, .inl (cA 1, 256, .inl fun _ => 0)), (q4, .inl (cA 1, 2048, .inl fun _ => 0)), (q5, .inl (cA 1, 512, .inl fun _ => 0)), (q6, .inl (cA 3, 2, .inl fun _ => 0)), (q7, .inl (cA 1, 800, .inl fun _ => 0)), (q8, .inl (cA 1, 144, .inl fun _ => 0)), (q9, .inl (cA 1, 144, .inl fun _ => 0)), (q10, .inl (cA 1, 160, .inl fun _ => 0))]) H := hP
  have hD : va_D A ([(h0, .inr (9, [.ref q1, .ref q2, .ref q3, .ref q4, .ref q5, .ref q6, .int 0, .ref q7, .int 0, .int (-1), .int 0, .ref q8, .ref q9, .int 0, .int 0, .int 0, .int 0, .int 0, .int 0, .long 0, .int 0, .null, .int 0])), (q1, .inl (cA 1, 256, .inl fun _ => 0)), (q2, .inl (cA 1, 256, .inl fun _ => 0)), (q3, .inl (cA 1, 256, .inl fun _ => 0)), (q4, .inl (cA 1, 2048, .inl fun _ => 0)), (q5, .inl (cA 1, 512, .inl fun _ => 0)), (q6, .inl (cA 3, 2, .inl fun _ => 0)), (q7, .inl (cA 1, 800, .inl fun _ => 0)), (q8, .inl (cA 1, 144, .inl fun _ => 0)), (q9, .inl (cA 1, 144, .inl fun _ => 0)), (q10, .inl (cA 1, 160, .inl fun _ => 0))]) := hD
  refine va_putF (D := D) (ci := 9) (v := .ref q10) (ty := tyX9 21) (C := RX9) (T := TX9) (N := 23) hx hb hts inX9 tyX9 tyX9_ok nmX9 hown hK.1 hP hD hS 0 rfl rfl 21 (by decide) (hts _ kw_1367) (fun _ h9 => h9) rfl hin rfl (tyX9_ok 21 (by decide)) rfl rfl (Nat.le_of_ble_eq_true rfl) dX9_init_94 (fun H locs hP hD hS => ?_)
  have hP : va_P D vwCl ([(h0, .inr (9, [.ref q1, .ref q2, .ref q3, .ref q4, .ref q5, .ref q6, .int 0, .ref q7, .int 0, .int (-1), .int 0, .ref q8, .ref q9, .int 0, .int 0, .int 0, .int 0, .int 0, .int 0, .long 0, .int 0, .ref q10, .int 0])), (q1, .inl (cA 1, 256, .inl fun _ => 0)), (q2, .inl (cA 1, 256, .inl fun _ => 0)), (q3, .inl (cA 1, 256, .inl fun _ => 0)), (q4, .inl (cA 1, 2048, .inl fun _ => 0)), (q5, .inl (cA 1, 512, .inl fun _ => 0)), (q6, .inl (cA 3, 2, .inl fun _ => 0)), (q7, .inl (cA 1, 800, .inl fun _ => 0)), (q8, .inl (cA 1, 144, .inl fun _ => 0)), (q9, .inl (cA 1, 144, .inl fun _ => 0)), (q10, .inl (cA 1, 160, .inl fun _ => 0))]) H := hP
  have hD : va_D A ([(h0, .inr (9, [.ref q1, .ref q2, .ref q3, .ref q4, .ref q5, .ref q6, .int 0, .ref q7, .int 0, .int (-1), .int 0, .ref q8, .ref q9, .int 0, .int 0, .int 0, .int 0, .int 0, .int 0, .long 0, .int 0, .ref q10, .int 0])), (q1, .inl (cA 1, 256, .inl fun _ => 0)), (q2, .inl (cA 1, 256, .inl fun _ => 0)), (q3, .inl (cA 1, 256, .inl fun _ => 0)), (q4, .inl (cA 1, 2048, .inl fun _ => 0)), (q5, .inl (cA 1, 512, .inl fun _ => 0)), (q6, .inl (cA 3, 2, .inl fun _ => 0)), (q7, .inl (cA 1, 800, .inl fun _ => 0)), (q8, .inl (cA 1, 144, .inl fun _ => 0)), (q9, .inl (cA 1, 144, .inl fun _ => 0)), (q10, .inl (cA 1, 160, .inl fun _ => 0))]) := hD
  refine lv_aload_n hx hb dX9_init_97 rfl (lv_at hl 0 rfl) ?_
  refine va_get (D := D) (ci := 9) (v := .ref q1) (C := RX9) (T := TX9) (N := 23) hx hb hts inX9 hown hK.1 hP 0 rfl rfl 0 (by decide) (hts _ kw_1346) (fun _ h9 => h9) rfl dX9_init_98 ?_
  refine lv_iconst (v := 0) hx hb dX9_init_101 (by decide) ?_
  refine lv_iconst (v := 4) hx hb dX9_init_102 (by decide) ?_
  refine va_iast (D := D) (f := fun _ => 0) hx hb hK.1 hP hD hS 1 0 rfl rfl (i := 0) (x := 4) (by unfold vp_in; decide +kernel) dX9_init_103 (fun H locs hP hD hS => ?_)
  have hP : va_P D vwCl ([(h0, .inr (9, [.ref q1, .ref q2, .ref q3, .ref q4, .ref q5, .ref q6, .int 0, .ref q7, .int 0, .int (-1), .int 0, .ref q8, .ref q9, .int 0, .int 0, .int 0, .int 0, .int 0, .int 0, .long 0, .int 0, .ref q10, .int 0])), (q1, .inl (cA 1, 256, .inl (upd (fun _ => 0) (0 : Int32).toNatClampNeg 4))), (q2, .inl (cA 1, 256, .inl fun _ => 0)), (q3, .inl (cA 1, 256, .inl fun _ => 0)), (q4, .inl (cA 1, 2048, .inl fun _ => 0)), (q5, .inl (cA 1, 512, .inl fun _ => 0)), (q6, .inl (cA 3, 2, .inl fun _ => 0)), (q7, .inl (cA 1, 800, .inl fun _ => 0)), (q8, .inl (cA 1, 144, .inl fun _ => 0)), (q9, .inl (cA 1, 144, .inl fun _ => 0)), (q10, .inl (cA 1, 160, .inl fun _ => 0))]) H := hP
  have hD : va_D A ([(h0, .inr (9, [.ref q1, .ref q2, .ref q3, .ref q4, .ref q5, .ref q6, .int 0, .ref q7, .int 0, .int (-1), .int 0, .ref q8, .ref q9, .int 0, .int 0, .int 0, .int 0, .int 0, .int 0, .long 0, .int 0, .ref q10, .int 0])), (q1, .inl (cA 1, 256, .inl (upd (fun _ => 0) (0 : Int32).toNatClampNeg 4))), (q2, .inl (cA 1, 256, .inl fun _ => 0)), (q3, .inl (cA 1, 256, .inl fun _ => 0)), (q4, .inl (cA 1, 2048, .inl fun _ => 0)), (q5, .inl (cA 1, 512, .inl fun _ => 0)), (q6, .inl (cA 3, 2, .inl fun _ => 0)), (q7, .inl (cA 1, 800, .inl fun _ => 0)), (q8, .inl (cA 1, 144, .inl fun _ => 0)), (q9, .inl (cA 1, 144, .inl fun _ => 0)), (q10, .inl (cA 1, 160, .inl fun _ => 0))]) := hD
  refine lv_aload_n hx hb dX9_init_104 rfl (lv_at hl 0 rfl) ?_
  refine va_get (D := D) (ci := 9) (v := .ref q1) (C := RX9) (T := TX9) (N := 23) hx hb hts inX9 hown hK.1 hP 0 rfl rfl 0 (by decide) (hts _ kw_1346) (fun _ h9 => h9) rfl dX9_init_105 ?_
  refine lv_iconst (v := 1) hx hb dX9_init_108 (by decide) ?_
  refine lv_iconst (v := 3) hx hb dX9_init_109 (by decide) ?_
  refine va_iast (D := D) (f := upd (fun _ => 0) (0 : Int32).toNatClampNeg 4) hx hb hK.1 hP hD hS 1 0 rfl rfl (i := 1) (x := 3) (by unfold vp_in; decide +kernel) dX9_init_110 (fun H locs hP hD hS => ?_)
  have hP : va_P D vwCl ([(h0, .inr (9, [.ref q1, .ref q2, .ref q3, .ref q4, .ref q5, .ref q6, .int 0, .ref q7, .int 0, .int (-1), .int 0, .ref q8, .ref q9, .int 0, .int 0, .int 0, .int 0, .int 0, .int 0, .long 0, .int 0, .ref q10, .int 0])), (q1, .inl (cA 1, 256, .inl (upd (upd (fun _ => 0) (0 : Int32).toNatClampNeg 4) (1 : Int32).toNatClampNeg 3))), (q2, .inl (cA 1, 256, .inl fun _ => 0)), (q3, .inl (cA 1, 256, .inl fun _ => 0)), (q4, .inl (cA 1, 2048, .inl fun _ => 0)), (q5, .inl (cA 1, 512, .inl fun _ => 0)), (q6, .inl (cA 3, 2, .inl fun _ => 0)), (q7, .inl (cA 1, 800, .inl fun _ => 0)), (q8, .inl (cA 1, 144, .inl fun _ => 0)), (q9, .inl (cA 1, 144, .inl fun _ => 0)), (q10, .inl (cA 1, 160, .inl fun _ => 0))]) H := hP
  have hD : va_D A ([(h0, .inr (9, [.ref q1, .ref q2, .ref q3, .ref q4, .ref q5, .ref q6, .int 0, .ref q7, .int 0, .int (-1), .int 0, .ref q8, .ref q9, .int 0, .int 0, .int 0, .int 0, .int 0, .int 0, .long 0, .int 0, .ref q10, .int 0])), (q1, .inl (cA 1, 256, .inl (upd (upd (fun _ => 0) (0 : Int32).toNatClampNeg 4) (1 : Int32).toNatClampNeg 3))), (q2, .inl (cA 1, 256, .inl fun _ => 0)), (q3, .inl (cA 1, 256, .inl fun _ => 0)), (q4, .inl (cA 1, 2048, .inl fun _ => 0)), (q5, .inl (cA 1, 512, .inl fun _ => 0)), (q6, .inl (cA 3, 2, .inl fun _ => 0)), (q7, .inl (cA 1, 800, .inl fun _ => 0)), (q8, .inl (cA 1, 144, .inl fun _ => 0)), (q9, .inl (cA 1, 144, .inl fun _ => 0)), (q10, .inl (cA 1, 160, .inl fun _ => 0))]) := hD
  refine lv_aload_n hx hb dX9_init_111 rfl (lv_at hl 0 rfl) ?_
  refine va_get (D := D) (ci := 9) (v := .ref q1) (C := RX9) (T := TX9) (N := 23) hx hb hts inX9 hown hK.1 hP 0 rfl rfl 0 (by decide) (hts _ kw_1346) (fun _ h9 => h9) rfl dX9_init_112 ?_
  refine lv_iconst (v := 2) hx hb dX9_init_115 (by decide) ?_
  refine lv_iconst (v := 4) hx hb dX9_init_116 (by decide) ?_
  refine va_iast (D := D) (f := upd (upd (fun _ => 0) (0 : Int32).toNatClampNeg 4) (1 : Int32).toNatClampNeg 3) hx hb hK.1 hP hD hS 1 0 rfl rfl (i := 2) (x := 4) (by unfold vp_in; decide +kernel) dX9_init_117 (fun H locs hP hD hS => ?_)
  have hP : va_P D vwCl ([(h0, .inr (9, [.ref q1, .ref q2, .ref q3, .ref q4, .ref q5, .ref q6, .int 0, .ref q7, .int 0, .int (-1), .int 0, .ref q8, .ref q9, .int 0, .int 0, .int 0, .int 0, .int 0, .int 0, .long 0, .int 0, .ref q10, .int 0])), (q1, .inl (cA 1, 256, .inl (upd (upd (upd (fun _ => 0) (0 : Int32).toNatClampNeg 4) (1 : Int32).toNatClampNeg 3) (2 : Int32).toNatClampNeg 4))), (q2, .inl (cA 1, 256, .inl fun _ => 0)), (q3, .inl (cA 1, 256, .inl fun _ => 0)), (q4, .inl (cA 1, 2048, .inl fun _ => 0)), (q5, .inl (cA 1, 512, .inl fun _ => 0)), (q6, .inl (cA 3, 2, .inl fun _ => 0)), (q7, .inl (cA 1, 800, .inl fun _ => 0)), (q8, .inl (cA 1, 144, .inl fun _ => 0)), (q9, .inl (cA 1, 144, .inl fun _ => 0)), (q10, .inl (cA 1, 160, .inl fun _ => 0))]) H := hP
  have hD : va_D A ([(h0, .inr (9, [.ref q1, .ref q2, .ref q3, .ref q4, .ref q5, .ref q6, .int 0, .ref q7, .int 0, .int (-1), .int 0, .ref q8, .ref q9, .int 0, .int 0, .int 0, .int 0, .int 0, .int 0, .long 0, .int 0, .ref q10, .int 0])), (q1, .inl (cA 1, 256, .inl (upd (upd (upd (fun _ => 0) (0 : Int32).toNatClampNeg 4) (1 : Int32).toNatClampNeg 3) (2 : Int32).toNatClampNeg 4))), (q2, .inl (cA 1, 256, .inl fun _ => 0)), (q3, .inl (cA 1, 256, .inl fun _ => 0)), (q4, .inl (cA 1, 2048, .inl fun _ => 0)), (q5, .inl (cA 1, 512, .inl fun _ => 0)), (q6, .inl (cA 3, 2, .inl fun _ => 0)), (q7, .inl (cA 1, 800, .inl fun _ => 0)), (q8, .inl (cA 1, 144, .inl fun _ => 0)), (q9, .inl (cA 1, 144, .inl fun _ => 0)), (q10, .inl (cA 1, 160, .inl fun _ => 0))]) := hD
  refine lv_aload_n hx hb dX9_init_118 rfl (lv_at hl 0 rfl) ?_
  refine va_get (D := D) (ci := 9) (v := .ref q1) (C := RX9) (T := TX9) (N := 23) hx hb hts inX9 hown hK.1 hP 0 rfl rfl 0 (by decide) (hts _ kw_1346) (fun _ h9 => h9) rfl dX9_init_119 ?_
  refine lv_iconst (v := 3) hx hb dX9_init_122 (by decide) ?_
  refine lv_iconst (v := 0) hx hb dX9_init_123 (by decide) ?_
  refine va_calli (va_runS (As := [.int 3, .int 0]) (rest := [.ref q1]) ⟨hx, hb, hml, hown, hts⟩ (k_cellAt l 3 0) (cwS 2 hts (z_good zTs_good k_cellW) rfl rfl rfl ⟨rfl, by decide, by decide, by decide +kernel⟩ ⟨by decide, Nat.le_of_ble_eq_true rfl⟩) ⟨fun a U g mk h => h, fun U hU hW => ⟨rfl, trivial⟩⟩ rfl rfl hl.1 rfl (lv_room (Nat.le_of_ble_eq_true rfl)) dX9_init_124 ⟨Nat.le_of_ble_eq_true rfl, Nat.le_of_ble_eq_true rfl⟩) hS (fun q _ h => h.elim) (fun q h => h.elim) (fun r u t H1 locs1 ht hvm hw hB hz1 hk1 hS1 => ?_)
  replace hP := va_P.kept hP (fun k q hq => hk1 q.1 ((hP k q hq).lt) (fun h => h))
  have hw : r = 30 + 12 * 0 + 3 := hw
  rw [show (30 + 12 * 0 + 3 : Int32) = 33 by decide +kernel] at hw
  subst hw
  clear hB hz1 hk1 hS hvm ht u
  have hS := hS1
  clear hS1
  refine lv_iconst (v := 2) hx hb dX9_init_127 (by decide) ?_
  refine va_iast (D := D) (f := upd (upd (upd (fun _ => 0) (0 : Int32).toNatClampNeg 4) (1 : Int32).toNatClampNeg 3) (2 : Int32).toNatClampNeg 4) hx hb hK.1 hP hD hS 1 0 rfl rfl (i := 33) (x := 2) (by unfold vp_in; decide +kernel) dX9_init_128 (fun H locs hP hD hS => ?_)
  have hP : va_P D vwCl ([(h0, .inr (9, [.ref q1, .ref q2, .ref q3, .ref q4, .ref q5, .ref q6, .int 0, .ref q7, .int 0, .int (-1), .int 0, .ref q8, .ref q9, .int 0, .int 0, .int 0, .int 0, .int 0, .int 0, .long 0, .int 0, .ref q10, .int 0])), (q1, .inl (cA 1, 256, .inl (upd (upd (upd (upd (fun _ => 0) (0 : Int32).toNatClampNeg 4) (1 : Int32).toNatClampNeg 3) (2 : Int32).toNatClampNeg 4) (33 : Int32).toNatClampNeg 2))), (q2, .inl (cA 1, 256, .inl fun _ => 0)), (q3, .inl (cA 1, 256, .inl fun _ => 0)), (q4, .inl (cA 1, 2048, .inl fun _ => 0)), (q5, .inl (cA 1, 512, .inl fun _ => 0)), (q6, .inl (cA 3, 2, .inl fun _ => 0)), (q7, .inl (cA 1, 800, .inl fun _ => 0)), (q8, .inl (cA 1, 144, .inl fun _ => 0)), (q9, .inl (cA 1, 144, .inl fun _ => 0)), (q10, .inl (cA 1, 160, .inl fun _ => 0))]) H := hP
  have hD : va_D A ([(h0, .inr (9, [.ref q1, .ref q2, .ref q3, .ref q4, .ref q5, .ref q6, .int 0, .ref q7, .int 0, .int (-1), .int 0, .ref q8, .ref q9, .int 0, .int 0, .int 0, .int 0, .int 0, .int 0, .long 0, .int 0, .ref q10, .int 0])), (q1, .inl (cA 1, 256, .inl (upd (upd (upd (upd (fun _ => 0) (0 : Int32).toNatClampNeg 4) (1 : Int32).toNatClampNeg 3) (2 : Int32).toNatClampNeg 4) (33 : Int32).toNatClampNeg 2))), (q2, .inl (cA 1, 256, .inl fun _ => 0)), (q3, .inl (cA 1, 256, .inl fun _ => 0)), (q4, .inl (cA 1, 2048, .inl fun _ => 0)), (q5, .inl (cA 1, 512, .inl fun _ => 0)), (q6, .inl (cA 3, 2, .inl fun _ => 0)), (q7, .inl (cA 1, 800, .inl fun _ => 0)), (q8, .inl (cA 1, 144, .inl fun _ => 0)), (q9, .inl (cA 1, 144, .inl fun _ => 0)), (q10, .inl (cA 1, 160, .inl fun _ => 0))]) := hD
  refine lv_aload_n hx hb dX9_init_129 rfl (lv_at hl 0 rfl) ?_
  refine va_get (D := D) (ci := 9) (v := .ref q1) (C := RX9) (T := TX9) (N := 23) hx hb hts inX9 hown hK.1 hP 0 rfl rfl 0 (by decide) (hts _ kw_1346) (fun _ h9 => h9) rfl dX9_init_130 ?_
  refine lv_iconst (v := 1) hx hb dX9_init_133 (by decide) ?_
  refine lv_iconst (v := 1) hx hb dX9_init_134 (by decide) ?_
  refine va_calli (va_runS (As := [.int 1, .int 1]) (rest := [.ref q1]) ⟨hx, hb, hml, hown, hts⟩ (k_cellAt l 1 1) (cwS 2 hts (z_good zTs_good k_cellW) rfl rfl rfl ⟨rfl, by decide, by decide, by decide +kernel⟩ ⟨by decide, Nat.le_of_ble_eq_true rfl⟩) ⟨fun a U g mk h => h, fun U hU hW => ⟨rfl, trivial⟩⟩ rfl rfl hl.1 rfl (lv_room (Nat.le_of_ble_eq_true rfl)) dX9_init_135 ⟨Nat.le_of_ble_eq_true rfl, Nat.le_of_ble_eq_true rfl⟩) hS (fun q _ h => h.elim) (fun q h => h.elim) (fun r u t H1 locs1 ht hvm hw hB hz1 hk1 hS1 => ?_)
  replace hP := va_P.kept hP (fun k q hq => hk1 q.1 ((hP k q hq).lt) (fun h => h))
  have hw : r = 30 + 12 * 1 + 1 := hw
  rw [show (30 + 12 * 1 + 1 : Int32) = 43 by decide +kernel] at hw
  subst hw
  clear hB hz1 hk1 hS hvm ht u
  have hS := hS1
  clear hS1
  refine lv_iconst (v := 1) hx hb dX9_init_138 (by decide) ?_
  refine va_iast (D := D) (f := upd (upd (upd (upd (fun _ => 0) (0 : Int32).toNatClampNeg 4) (1 : Int32).toNatClampNeg 3) (2 : Int32).toNatClampNeg 4) (33 : Int32).toNatClampNeg 2) hx hb hK.1 hP hD hS 1 0 rfl rfl (i := 43) (x := 1) (by unfold vp_in; decide +kernel) dX9_init_139 (fun H locs hP hD hS => ?_)
  have hP : va_P D vwCl ([(h0, .inr (9, [.ref q1, .ref q2, .ref q3, .ref q4, .ref q5, .ref q6, .int 0, .ref q7, .int 0, .int (-1), .int 0, .ref q8, .ref q9, .int 0, .int 0, .int 0, .int 0, .int 0, .int 0, .long 0, .int 0, .ref q10, .int 0])), (q1, .inl (cA 1, 256, .inl (upd (upd (upd (upd (upd (fun _ => 0) (0 : Int32).toNatClampNeg 4) (1 : Int32).toNatClampNeg 3) (2 : Int32).toNatClampNeg 4) (33 : Int32).toNatClampNeg 2) (43 : Int32).toNatClampNeg 1))), (q2, .inl (cA 1, 256, .inl fun _ => 0)), (q3, .inl (cA 1, 256, .inl fun _ => 0)), (q4, .inl (cA 1, 2048, .inl fun _ => 0)), (q5, .inl (cA 1, 512, .inl fun _ => 0)), (q6, .inl (cA 3, 2, .inl fun _ => 0)), (q7, .inl (cA 1, 800, .inl fun _ => 0)), (q8, .inl (cA 1, 144, .inl fun _ => 0)), (q9, .inl (cA 1, 144, .inl fun _ => 0)), (q10, .inl (cA 1, 160, .inl fun _ => 0))]) H := hP
  have hD : va_D A ([(h0, .inr (9, [.ref q1, .ref q2, .ref q3, .ref q4, .ref q5, .ref q6, .int 0, .ref q7, .int 0, .int (-1), .int 0, .ref q8, .ref q9, .int 0, .int 0, .int 0, .int 0, .int 0, .int 0, .long 0, .int 0, .ref q10, .int 0])), (q1, .inl (cA 1, 256, .inl (upd (upd (upd (upd (upd (fun _ => 0) (0 : Int32).toNatClampNeg 4) (1 : Int32).toNatClampNeg 3) (2 : Int32).toNatClampNeg 4) (33 : Int32).toNatClampNeg 2) (43 : Int32).toNatClampNeg 1))), (q2, .inl (cA 1, 256, .inl fun _ => 0)), (q3, .inl (cA 1, 256, .inl fun _ => 0)), (q4, .inl (cA 1, 2048, .inl fun _ => 0)), (q5, .inl (cA 1, 512, .inl fun _ => 0)), (q6, .inl (cA 3, 2, .inl fun _ => 0)), (q7, .inl (cA 1, 800, .inl fun _ => 0)), (q8, .inl (cA 1, 144, .inl fun _ => 0)), (q9, .inl (cA 1, 144, .inl fun _ => 0)), (q10, .inl (cA 1, 160, .inl fun _ => 0))]) := hD
  refine lv_aload_n hx hb dX9_init_140 rfl (lv_at hl 0 rfl) ?_
  refine va_get (D := D) (ci := 9) (v := .ref q1) (C := RX9) (T := TX9) (N := 23) hx hb hts inX9 hown hK.1 hP 0 rfl rfl 0 (by decide) (hts _ kw_1346) (fun _ h9 => h9) rfl dX9_init_141 ?_
  refine lv_iconst (v := 2) hx hb dX9_init_144 (by decide) ?_
  refine lv_iconst (v := 1) hx hb dX9_init_145 (by decide) ?_
  refine va_calli (va_runS (As := [.int 2, .int 1]) (rest := [.ref q1]) ⟨hx, hb, hml, hown, hts⟩ (k_cellAt l 2 1) (cwS 2 hts (z_good zTs_good k_cellW) rfl rfl rfl ⟨rfl, by decide, by decide, by decide +kernel⟩ ⟨by decide, Nat.le_of_ble_eq_true rfl⟩) ⟨fun a U g mk h => h, fun U hU hW => ⟨rfl, trivial⟩⟩ rfl rfl hl.1 rfl (lv_room (Nat.le_of_ble_eq_true rfl)) dX9_init_146 ⟨Nat.le_of_ble_eq_true rfl, Nat.le_of_ble_eq_true rfl⟩) hS (fun q _ h => h.elim) (fun q h => h.elim) (fun r u t H1 locs1 ht hvm hw hB hz1 hk1 hS1 => ?_)
  replace hP := va_P.kept hP (fun k q hq => hk1 q.1 ((hP k q hq).lt) (fun h => h))
  have hw : r = 30 + 12 * 1 + 2 := hw
  rw [show (30 + 12 * 1 + 2 : Int32) = 44 by decide +kernel] at hw
  subst hw
  clear hB hz1 hk1 hS hvm ht u
  have hS := hS1
  clear hS1
  refine lv_iconst (v := 1) hx hb dX9_init_149 (by decide) ?_
  refine va_iast (D := D) (f := upd (upd (upd (upd (upd (fun _ => 0) (0 : Int32).toNatClampNeg 4) (1 : Int32).toNatClampNeg 3) (2 : Int32).toNatClampNeg 4) (33 : Int32).toNatClampNeg 2) (43 : Int32).toNatClampNeg 1) hx hb hK.1 hP hD hS 1 0 rfl rfl (i := 44) (x := 1) (by unfold vp_in; decide +kernel) dX9_init_150 (fun H locs hP hD hS => ?_)
  have hP : va_P D vwCl ([(h0, .inr (9, [.ref q1, .ref q2, .ref q3, .ref q4, .ref q5, .ref q6, .int 0, .ref q7, .int 0, .int (-1), .int 0, .ref q8, .ref q9, .int 0, .int 0, .int 0, .int 0, .int 0, .int 0, .long 0, .int 0, .ref q10, .int 0])), (q1, .inl (cA 1, 256, .inl (upd (upd (upd (upd (upd (upd (fun _ => 0) (0 : Int32).toNatClampNeg 4) (1 : Int32).toNatClampNeg 3) (2 : Int32).toNatClampNeg 4) (33 : Int32).toNatClampNeg 2) (43 : Int32).toNatClampNeg 1) (44 : Int32).toNatClampNeg 1))), (q2, .inl (cA 1, 256, .inl fun _ => 0)), (q3, .inl (cA 1, 256, .inl fun _ => 0)), (q4, .inl (cA 1, 2048, .inl fun _ => 0)), (q5, .inl (cA 1, 512, .inl fun _ => 0)), (q6, .inl (cA 3, 2, .inl fun _ => 0)), (q7, .inl (cA 1, 800, .inl fun _ => 0)), (q8, .inl (cA 1, 144, .inl fun _ => 0)), (q9, .inl (cA 1, 144, .inl fun _ => 0)), (q10, .inl (cA 1, 160, .inl fun _ => 0))]) H := hP
  have hD : va_D A ([(h0, .inr (9, [.ref q1, .ref q2, .ref q3, .ref q4, .ref q5, .ref q6, .int 0, .ref q7, .int 0, .int (-1), .int 0, .ref q8, .ref q9, .int 0, .int 0, .int 0, .int 0, .int 0, .int 0, .long 0, .int 0, .ref q10, .int 0])), (q1, .inl (cA 1, 256, .inl (upd (upd (upd (upd (upd (upd (fun _ => 0) (0 : Int32).toNatClampNeg 4) (1 : Int32).toNatClampNeg 3) (2 : Int32).toNatClampNeg 4) (33 : Int32).toNatClampNeg 2) (43 : Int32).toNatClampNeg 1) (44 : Int32).toNatClampNeg 1))), (q2, .inl (cA 1, 256, .inl fun _ => 0)), (q3, .inl (cA 1, 256, .inl fun _ => 0)), (q4, .inl (cA 1, 2048, .inl fun _ => 0)), (q5, .inl (cA 1, 512, .inl fun _ => 0)), (q6, .inl (cA 3, 2, .inl fun _ => 0)), (q7, .inl (cA 1, 800, .inl fun _ => 0)), (q8, .inl (cA 1, 144, .inl fun _ => 0)), (q9, .inl (cA 1, 144, .inl fun _ => 0)), (q10, .inl (cA 1, 160, .inl fun _ => 0))]) := hD
  refine lv_aload_n hx hb dX9_init_151 rfl (lv_at hl 0 rfl) ?_
  refine va_get (D := D) (ci := 9) (v := .ref q1) (C := RX9) (T := TX9) (N := 23) hx hb hts inX9 hown hK.1 hP 0 rfl rfl 0 (by decide) (hts _ kw_1346) (fun _ h9 => h9) rfl dX9_init_152 ?_
  refine lv_iconst (v := 2) hx hb dX9_init_155 (by decide) ?_
  refine lv_iconst (v := 2) hx hb dX9_init_156 (by decide) ?_
  refine va_calli (va_runS (As := [.int 2, .int 2]) (rest := [.ref q1]) ⟨hx, hb, hml, hown, hts⟩ (k_cellAt l 2 2) (cwS 2 hts (z_good zTs_good k_cellW) rfl rfl rfl ⟨rfl, by decide, by decide, by decide +kernel⟩ ⟨by decide, Nat.le_of_ble_eq_true rfl⟩) ⟨fun a U g mk h => h, fun U hU hW => ⟨rfl, trivial⟩⟩ rfl rfl hl.1 rfl (lv_room (Nat.le_of_ble_eq_true rfl)) dX9_init_157 ⟨Nat.le_of_ble_eq_true rfl, Nat.le_of_ble_eq_true rfl⟩) hS (fun q _ h => h.elim) (fun q h => h.elim) (fun r u t H1 locs1 ht hvm hw hB hz1 hk1 hS1 => ?_)
  replace hP := va_P.kept hP (fun k q hq => hk1 q.1 ((hP k q hq).lt) (fun h => h))
  have hw : r = 30 + 12 * 2 + 2 := hw
  rw [show (30 + 12 * 2 + 2 : Int32) = 56 by decide +kernel] at hw
  subst hw
  clear hB hz1 hk1 hS hvm ht u
  have hS := hS1
  clear hS1
  refine lv_bipush (v := 13) hx hb dX9_init_160 (by decide) ?_
  refine va_iast (D := D) (f := upd (upd (upd (upd (upd (upd (fun _ => 0) (0 : Int32).toNatClampNeg 4) (1 : Int32).toNatClampNeg 3) (2 : Int32).toNatClampNeg 4) (33 : Int32).toNatClampNeg 2) (43 : Int32).toNatClampNeg 1) (44 : Int32).toNatClampNeg 1) hx hb hK.1 hP hD hS 1 0 rfl rfl (i := 56) (x := 13) (by unfold vp_in; decide +kernel) dX9_init_162 (fun H locs hP hD hS => ?_)
  have hP : va_P D vwCl ([(h0, .inr (9, [.ref q1, .ref q2, .ref q3, .ref q4, .ref q5, .ref q6, .int 0, .ref q7, .int 0, .int (-1), .int 0, .ref q8, .ref q9, .int 0, .int 0, .int 0, .int 0, .int 0, .int 0, .long 0, .int 0, .ref q10, .int 0])), (q1, .inl (cA 1, 256, .inl (upd (upd (upd (upd (upd (upd (upd (fun _ => 0) (0 : Int32).toNatClampNeg 4) (1 : Int32).toNatClampNeg 3) (2 : Int32).toNatClampNeg 4) (33 : Int32).toNatClampNeg 2) (43 : Int32).toNatClampNeg 1) (44 : Int32).toNatClampNeg 1) (56 : Int32).toNatClampNeg 13))), (q2, .inl (cA 1, 256, .inl fun _ => 0)), (q3, .inl (cA 1, 256, .inl fun _ => 0)), (q4, .inl (cA 1, 2048, .inl fun _ => 0)), (q5, .inl (cA 1, 512, .inl fun _ => 0)), (q6, .inl (cA 3, 2, .inl fun _ => 0)), (q7, .inl (cA 1, 800, .inl fun _ => 0)), (q8, .inl (cA 1, 144, .inl fun _ => 0)), (q9, .inl (cA 1, 144, .inl fun _ => 0)), (q10, .inl (cA 1, 160, .inl fun _ => 0))]) H := hP
  have hD : va_D A ([(h0, .inr (9, [.ref q1, .ref q2, .ref q3, .ref q4, .ref q5, .ref q6, .int 0, .ref q7, .int 0, .int (-1), .int 0, .ref q8, .ref q9, .int 0, .int 0, .int 0, .int 0, .int 0, .int 0, .long 0, .int 0, .ref q10, .int 0])), (q1, .inl (cA 1, 256, .inl (upd (upd (upd (upd (upd (upd (upd (fun _ => 0) (0 : Int32).toNatClampNeg 4) (1 : Int32).toNatClampNeg 3) (2 : Int32).toNatClampNeg 4) (33 : Int32).toNatClampNeg 2) (43 : Int32).toNatClampNeg 1) (44 : Int32).toNatClampNeg 1) (56 : Int32).toNatClampNeg 13))), (q2, .inl (cA 1, 256, .inl fun _ => 0)), (q3, .inl (cA 1, 256, .inl fun _ => 0)), (q4, .inl (cA 1, 2048, .inl fun _ => 0)), (q5, .inl (cA 1, 512, .inl fun _ => 0)), (q6, .inl (cA 3, 2, .inl fun _ => 0)), (q7, .inl (cA 1, 800, .inl fun _ => 0)), (q8, .inl (cA 1, 144, .inl fun _ => 0)), (q9, .inl (cA 1, 144, .inl fun _ => 0)), (q10, .inl (cA 1, 160, .inl fun _ => 0))]) := hD
  refine W.widen (k := 10) (n := 4578) (by decide) (by decide) ?_
  exact hret 163 ls H _ (fun k => ([h0, q1, q2, q3, q4, q5, q6, q7, q8, q9, q10] : List Nat).getD k 0) dX9_init_163 rfl hP hD hS
