/-! Constructors: the small ones, the world. -/
theorem dX0_init_0 : decode cX0_init 0 = .ok (.aload_n 0, 1) := by decide +kernel
theorem dX0_init_1 : decode cX0_init 1 = .ok (.invokespecial 3, 3) := by decide +kernel
theorem dX0_init_4 : decode cX0_init 4 = .ok (.aload_n 0, 1) := by decide +kernel
theorem dX0_init_5 : decode cX0_init 5 = .ok (.sipush 144, 3) := by decide +kernel
theorem dX0_init_8 : decode cX0_init 8 = .ok (.newarray .int, 2) := by decide +kernel
theorem dX0_init_10 : decode cX0_init 10 = .ok (.putfield 9, 3) := by decide +kernel
theorem dX0_init_13 : decode cX0_init 13 = .ok (.aload_n 0, 1) := by decide +kernel
theorem dX0_init_14 : decode cX0_init 14 = .ok (.sipush 144, 3) := by decide +kernel
theorem dX0_init_17 : decode cX0_init 17 = .ok (.newarray .int, 2) := by decide +kernel
theorem dX0_init_19 : decode cX0_init 19 = .ok (.putfield 15, 3) := by decide +kernel
theorem dX0_init_22 : decode cX0_init 22 = .ok (.return_, 1) := by decide +kernel
theorem dX1_init_0 : decode cX1_init 0 = .ok (.aload_n 0, 1) := by decide +kernel
theorem dX1_init_1 : decode cX1_init 1 = .ok (.invokespecial 3, 3) := by decide +kernel
theorem dX1_init_4 : decode cX1_init 4 = .ok (.aload_n 0, 1) := by decide +kernel
theorem dX1_init_5 : decode cX1_init 5 = .ok (.sipush 144, 3) := by decide +kernel
theorem dX1_init_8 : decode cX1_init 8 = .ok (.newarray .int, 2) := by decide +kernel
theorem dX1_init_10 : decode cX1_init 10 = .ok (.putfield 9, 3) := by decide +kernel
theorem dX1_init_13 : decode cX1_init 13 = .ok (.return_, 1) := by decide +kernel
theorem dX3_init_0 : decode cX3_init 0 = .ok (.aload_n 0, 1) := by decide +kernel
theorem dX3_init_1 : decode cX3_init 1 = .ok (.invokespecial 3, 3) := by decide +kernel
theorem dX3_init_4 : decode cX3_init 4 = .ok (.aload_n 0, 1) := by decide +kernel
theorem dX3_init_5 : decode cX3_init 5 = .ok (.bipush 8, 2) := by decide +kernel
theorem dX3_init_7 : decode cX3_init 7 = .ok (.newarray .int, 2) := by decide +kernel
theorem dX3_init_9 : decode cX3_init 9 = .ok (.putfield 9, 3) := by decide +kernel
theorem dX3_init_12 : decode cX3_init 12 = .ok (.aload_n 0, 1) := by decide +kernel
theorem dX3_init_13 : decode cX3_init 13 = .ok (.bipush 8, 2) := by decide +kernel
theorem dX3_init_15 : decode cX3_init 15 = .ok (.newarray .int, 2) := by decide +kernel
theorem dX3_init_17 : decode cX3_init 17 = .ok (.putfield 15, 3) := by decide +kernel
theorem dX3_init_20 : decode cX3_init 20 = .ok (.aload_n 0, 1) := by decide +kernel
theorem dX3_init_21 : decode cX3_init 21 = .ok (.bipush 8, 2) := by decide +kernel
theorem dX3_init_23 : decode cX3_init 23 = .ok (.newarray .int, 2) := by decide +kernel
theorem dX3_init_25 : decode cX3_init 25 = .ok (.putfield 18, 3) := by decide +kernel
theorem dX3_init_28 : decode cX3_init 28 = .ok (.return_, 1) := by decide +kernel
theorem dX5_init_0 : decode cX5_init 0 = .ok (.aload_n 0, 1) := by decide +kernel
theorem dX5_init_1 : decode cX5_init 1 = .ok (.invokespecial 3, 3) := by decide +kernel
theorem dX5_init_4 : decode cX5_init 4 = .ok (.aload_n 0, 1) := by decide +kernel
theorem dX5_init_5 : decode cX5_init 5 = .ok (.sipush 800, 3) := by decide +kernel
theorem dX5_init_8 : decode cX5_init 8 = .ok (.newarray .byte, 2) := by decide +kernel
theorem dX5_init_10 : decode cX5_init 10 = .ok (.putfield 9, 3) := by decide +kernel
theorem dX5_init_13 : decode cX5_init 13 = .ok (.return_, 1) := by decide +kernel
theorem dX6_init_0 : decode cX6_init 0 = .ok (.aload_n 0, 1) := by decide +kernel
theorem dX6_init_1 : decode cX6_init 1 = .ok (.invokespecial 3, 3) := by decide +kernel
theorem dX6_init_4 : decode cX6_init 4 = .ok (.aload_n 0, 1) := by decide +kernel
theorem dX6_init_5 : decode cX6_init 5 = .ok (.bipush 6, 2) := by decide +kernel
theorem dX6_init_7 : decode cX6_init 7 = .ok (.newarray .int, 2) := by decide +kernel
theorem dX6_init_9 : decode cX6_init 9 = .ok (.putfield 9, 3) := by decide +kernel
theorem dX6_init_12 : decode cX6_init 12 = .ok (.aload_n 0, 1) := by decide +kernel
theorem dX6_init_13 : decode cX6_init 13 = .ok (.bipush 6, 2) := by decide +kernel
theorem dX6_init_15 : decode cX6_init 15 = .ok (.newarray .int, 2) := by decide +kernel
theorem dX6_init_17 : decode cX6_init 17 = .ok (.putfield 15, 3) := by decide +kernel
theorem dX6_init_20 : decode cX6_init 20 = .ok (.aload_n 0, 1) := by decide +kernel
theorem dX6_init_21 : decode cX6_init 21 = .ok (.bipush 6, 2) := by decide +kernel
theorem dX6_init_23 : decode cX6_init 23 = .ok (.newarray .int, 2) := by decide +kernel
theorem dX6_init_25 : decode cX6_init 25 = .ok (.putfield 18, 3) := by decide +kernel
theorem dX6_init_28 : decode cX6_init 28 = .ok (.aload_n 0, 1) := by decide +kernel
theorem dX6_init_29 : decode cX6_init 29 = .ok (.bipush 6, 2) := by decide +kernel
theorem dX6_init_31 : decode cX6_init 31 = .ok (.newarray .int, 2) := by decide +kernel
theorem dX6_init_33 : decode cX6_init 33 = .ok (.putfield 21, 3) := by decide +kernel
theorem dX6_init_36 : decode cX6_init 36 = .ok (.aload_n 0, 1) := by decide +kernel
theorem dX6_init_37 : decode cX6_init 37 = .ok (.bipush 6, 2) := by decide +kernel
theorem dX6_init_39 : decode cX6_init 39 = .ok (.newarray .int, 2) := by decide +kernel
theorem dX6_init_41 : decode cX6_init 41 = .ok (.putfield 24, 3) := by decide +kernel
theorem dX6_init_44 : decode cX6_init 44 = .ok (.aload_n 0, 1) := by decide +kernel
theorem dX6_init_45 : decode cX6_init 45 = .ok (.bipush 6, 2) := by decide +kernel
theorem dX6_init_47 : decode cX6_init 47 = .ok (.newarray .int, 2) := by decide +kernel
theorem dX6_init_49 : decode cX6_init 49 = .ok (.putfield 27, 3) := by decide +kernel
theorem dX6_init_52 : decode cX6_init 52 = .ok (.aload_n 0, 1) := by decide +kernel
theorem dX6_init_53 : decode cX6_init 53 = .ok (.bipush 6, 2) := by decide +kernel
theorem dX6_init_55 : decode cX6_init 55 = .ok (.newarray .int, 2) := by decide +kernel
theorem dX6_init_57 : decode cX6_init 57 = .ok (.putfield 30, 3) := by decide +kernel
theorem dX6_init_60 : decode cX6_init 60 = .ok (.return_, 1) := by decide +kernel
theorem dX7_init_0 : decode cX7_init 0 = .ok (.aload_n 0, 1) := by decide +kernel
theorem dX7_init_1 : decode cX7_init 1 = .ok (.invokespecial 3, 3) := by decide +kernel
theorem dX7_init_4 : decode cX7_init 4 = .ok (.aload_n 0, 1) := by decide +kernel
theorem dX7_init_5 : decode cX7_init 5 = .ok (.new 9, 3) := by decide +kernel
theorem dX7_init_8 : decode cX7_init 8 = .ok (.dup, 1) := by decide +kernel
theorem dX7_init_9 : decode cX7_init 9 = .ok (.invokespecial 11, 3) := by decide +kernel
theorem dX7_init_12 : decode cX7_init 12 = .ok (.putfield 12, 3) := by decide +kernel
theorem dX7_init_15 : decode cX7_init 15 = .ok (.aload_n 0, 1) := by decide +kernel
theorem dX7_init_16 : decode cX7_init 16 = .ok (.new 18, 3) := by decide +kernel
theorem dX7_init_19 : decode cX7_init 19 = .ok (.dup, 1) := by decide +kernel
theorem dX7_init_20 : decode cX7_init 20 = .ok (.invokespecial 20, 3) := by decide +kernel
theorem dX7_init_23 : decode cX7_init 23 = .ok (.putfield 21, 3) := by decide +kernel
theorem dX7_init_26 : decode cX7_init 26 = .ok (.aload_n 0, 1) := by decide +kernel
theorem dX7_init_27 : decode cX7_init 27 = .ok (.new 25, 3) := by decide +kernel
theorem dX7_init_30 : decode cX7_init 30 = .ok (.dup, 1) := by decide +kernel
theorem dX7_init_31 : decode cX7_init 31 = .ok (.invokespecial 27, 3) := by decide +kernel
theorem dX7_init_34 : decode cX7_init 34 = .ok (.putfield 28, 3) := by decide +kernel
theorem dX7_init_37 : decode cX7_init 37 = .ok (.aload_n 0, 1) := by decide +kernel
theorem dX7_init_38 : decode cX7_init 38 = .ok (.bipush 24, 2) := by decide +kernel
theorem dX7_init_40 : decode cX7_init 40 = .ok (.newarray .int, 2) := by decide +kernel
theorem dX7_init_42 : decode cX7_init 42 = .ok (.putfield 32, 3) := by decide +kernel
theorem dX7_init_45 : decode cX7_init 45 = .ok (.return_, 1) := by decide +kernel
theorem kw_34 : Cond.initialized "FalseLightMarsh$Ground" ∈ zTs := z_in (i := 34) (by decide +kernel) (by decide +kernel)
theorem kw_35 : Cond.initialized "FalseLightMarsh$Lights" ∈ zTs := z_in (i := 35) (by decide +kernel) (by decide +kernel)
theorem kw_36 : Cond.initialized "FalseLightMarsh$Travellers" ∈ zTs := z_in (i := 36) (by decide +kernel) (by decide +kernel)
theorem kw_73 : Cond.methodLink "FalseLightMarsh$World" 3 Lib.objectInit ∈ zTs := z_in (i := 73) (by decide +kernel) (by decide +kernel)
theorem kw_74 : Cond.classLink "FalseLightMarsh$World" 9 "FalseLightMarsh$Ground" ∈ zTs := z_in (i := 74) (by decide +kernel) (by decide +kernel)
theorem kw_75 : Cond.instantiable "FalseLightMarsh$Ground" 3 ∈ zTs := z_in (i := 75) (by decide +kernel) (by decide +kernel)
theorem kw_76 : Cond.methodLink "FalseLightMarsh$World" 11 yX1_init ∈ zTs := z_in (i := 76) (by decide +kernel) (by decide +kernel)
theorem kw_77 : Cond.instanceMethod yX1_init ∈ zTs := z_in (i := 77) (by decide +kernel) (by decide +kernel)
theorem kw_78 : Cond.code yX1_init cX1_init 1 none ∈ zTs := z_in (i := 78) (by decide +kernel) (by decide +kernel)
theorem kw_79 : Cond.methodLink "FalseLightMarsh$Ground" 3 Lib.objectInit ∈ zTs := z_in (i := 79) (by decide +kernel) (by decide +kernel)
theorem kw_90 : Cond.fieldLink "FalseLightMarsh$Ground" 9 "FalseLightMarsh$Ground" "cells" "[I" ∈ zTs := z_in (i := 90) (by decide +kernel) (by decide +kernel)
theorem kw_103 : Cond.arrayClass .int ∈ zTs := z_in (i := 103) (by decide +kernel) (by decide +kernel)
theorem kw_104 : Cond.classLink "FalseLightMarsh$World" 18 "FalseLightMarsh$Lights" ∈ zTs := z_in (i := 104) (by decide +kernel) (by decide +kernel)
theorem kw_105 : Cond.instantiable "FalseLightMarsh$Lights" 5 ∈ zTs := z_in (i := 105) (by decide +kernel) (by decide +kernel)
theorem kw_106 : Cond.methodLink "FalseLightMarsh$World" 20 yX3_init ∈ zTs := z_in (i := 106) (by decide +kernel) (by decide +kernel)
theorem kw_107 : Cond.instanceMethod yX3_init ∈ zTs := z_in (i := 107) (by decide +kernel) (by decide +kernel)
theorem kw_108 : Cond.code yX3_init cX3_init 1 none ∈ zTs := z_in (i := 108) (by decide +kernel) (by decide +kernel)
theorem kw_109 : Cond.methodLink "FalseLightMarsh$Lights" 3 Lib.objectInit ∈ zTs := z_in (i := 109) (by decide +kernel) (by decide +kernel)
theorem kw_116 : Cond.fieldLink "FalseLightMarsh$Lights" 9 "FalseLightMarsh$Lights" "cell" "[I" ∈ zTs := z_in (i := 116) (by decide +kernel) (by decide +kernel)
theorem kw_120 : Cond.fieldLink "FalseLightMarsh$Lights" 15 "FalseLightMarsh$Lights" "bright" "[I" ∈ zTs := z_in (i := 120) (by decide +kernel) (by decide +kernel)
theorem kw_123 : Cond.fieldLink "FalseLightMarsh$Lights" 18 "FalseLightMarsh$Lights" "next" "[I" ∈ zTs := z_in (i := 123) (by decide +kernel) (by decide +kernel)
theorem kw_138 : Cond.classLink "FalseLightMarsh$World" 25 "FalseLightMarsh$Travellers" ∈ zTs := z_in (i := 138) (by decide +kernel) (by decide +kernel)
theorem kw_139 : Cond.instantiable "FalseLightMarsh$Travellers" 8 ∈ zTs := z_in (i := 139) (by decide +kernel) (by decide +kernel)
theorem kw_140 : Cond.methodLink "FalseLightMarsh$World" 27 yX6_init ∈ zTs := z_in (i := 140) (by decide +kernel) (by decide +kernel)
theorem kw_141 : Cond.instanceMethod yX6_init ∈ zTs := z_in (i := 141) (by decide +kernel) (by decide +kernel)
theorem kw_142 : Cond.code yX6_init cX6_init 1 none ∈ zTs := z_in (i := 142) (by decide +kernel) (by decide +kernel)
theorem kw_143 : Cond.methodLink "FalseLightMarsh$Travellers" 3 Lib.objectInit ∈ zTs := z_in (i := 143) (by decide +kernel) (by decide +kernel)
theorem kw_148 : Cond.fieldLink "FalseLightMarsh$Travellers" 9 "FalseLightMarsh$Travellers" "cell" "[I" ∈ zTs := z_in (i := 148) (by decide +kernel) (by decide +kernel)
theorem kw_152 : Cond.fieldLink "FalseLightMarsh$Travellers" 15 "FalseLightMarsh$Travellers" "state" "[I" ∈ zTs := z_in (i := 152) (by decide +kernel) (by decide +kernel)
theorem kw_155 : Cond.fieldLink "FalseLightMarsh$Travellers" 18 "FalseLightMarsh$Travellers" "steps" "[I" ∈ zTs := z_in (i := 155) (by decide +kernel) (by decide +kernel)
theorem kw_158 : Cond.fieldLink "FalseLightMarsh$Travellers" 21 "FalseLightMarsh$Travellers" "goal" "[I" ∈ zTs := z_in (i := 158) (by decide +kernel) (by decide +kernel)
theorem kw_161 : Cond.fieldLink "FalseLightMarsh$Travellers" 24 "FalseLightMarsh$Travellers" "passed" "[I" ∈ zTs := z_in (i := 161) (by decide +kernel) (by decide +kernel)
theorem kw_164 : Cond.fieldLink "FalseLightMarsh$Travellers" 27 "FalseLightMarsh$Travellers" "distrusted" "[I" ∈ zTs := z_in (i := 164) (by decide +kernel) (by decide +kernel)
theorem kw_167 : Cond.fieldLink "FalseLightMarsh$Travellers" 30 "FalseLightMarsh$Travellers" "doneAt" "[I" ∈ zTs := z_in (i := 167) (by decide +kernel) (by decide +kernel)
theorem kw_186 : Cond.fieldLink "FalseLightMarsh$World" 12 "FalseLightMarsh$World" "ground" "LFalseLightMarsh$Ground;" ∈ zTs := z_in (i := 186) (by decide +kernel) (by decide +kernel)
theorem kw_190 : Cond.fieldLink "FalseLightMarsh$World" 21 "FalseLightMarsh$World" "lights" "LFalseLightMarsh$Lights;" ∈ zTs := z_in (i := 190) (by decide +kernel) (by decide +kernel)
theorem kw_194 : Cond.fieldLink "FalseLightMarsh$World" 28 "FalseLightMarsh$World" "travellers" "LFalseLightMarsh$Travellers;" ∈ zTs := z_in (i := 194) (by decide +kernel) (by decide +kernel)
theorem kw_198 : Cond.fieldLink "FalseLightMarsh$World" 32 "FalseLightMarsh$World" "fog" "[I" ∈ zTs := z_in (i := 198) (by decide +kernel) (by decide +kernel)
theorem kw_245 : Cond.methodLink "FalseLightMarsh$TextReader" 3 Lib.objectInit ∈ zTs := z_in (i := 245) (by decide +kernel) (by decide +kernel)
theorem kw_248 : Cond.fieldLink "FalseLightMarsh$TextReader" 9 "FalseLightMarsh$TextReader" "text" "[B" ∈ zTs := z_in (i := 248) (by decide +kernel) (by decide +kernel)
theorem kw_270 : Cond.arrayClass .byte ∈ zTs := z_in (i := 270) (by decide +kernel) (by decide +kernel)
theorem kw_283 : Cond.methodLink "FalseLightMarsh$Distances" 3 Lib.objectInit ∈ zTs := z_in (i := 283) (by decide +kernel) (by decide +kernel)
theorem kw_284 : Cond.fieldLink "FalseLightMarsh$Distances" 9 "FalseLightMarsh$Distances" "steps" "[I" ∈ zTs := z_in (i := 284) (by decide +kernel) (by decide +kernel)
theorem kw_288 : Cond.fieldLink "FalseLightMarsh$Distances" 15 "FalseLightMarsh$Distances" "queue" "[I" ∈ zTs := z_in (i := 288) (by decide +kernel) (by decide +kernel)
def kX0 (cA : Nat → ClassId) (f : Nat → Nat) : va_W := [(f 0, .inr (0, [.ref (f 1), .int 0, .ref (f 2), .int 0])), (f 1, .inl (cA 1, 144, .inl fun _ => 0)), (f 2, .inl (cA 1, 144, .inl fun _ => 0))]
theorem k_X0 (l : Launch) (D : va_G) (cA : Nat → ClassId) : kCon l yX0_init cX0_init 1 { frames := 1, cells := 2, slots := 288, locals := 20 } D cA 0 [.null, .int 0, .null, .int 0] (kX0 cA) := by
  refine k_con (by decide) rfl (Nat.le_of_ble_eq_true rfl) dX0_init_0 dX0_init_1 kw_283 ⟨by decide, by decide⟩ ?_
  intro p e s m below meth c h0 ls A Q hx hb hml hown hts hin hK hP hD hS hA hl hret
  refine lv_aload_n hx hb dX0_init_4 rfl (lv_at hl 0 rfl) ?_
  refine lv_sipush (v := 144) hx hb dX0_init_5 (by decide) ?_
  refine va_newa (D := D) (atype := .int) (ty := .int) (a0 := (144, .inl fun _ => 0)) hx hb (hts _ kw_103) rfl hK.1 hP hD hS hA (fun _ => rfl) (by decide) rfl (by decide) (by decide) (by decide) dX0_init_8 (fun q1 cB H hK1 hP hD hS => ?_)
  have eB : cB = cA 1 := k_uni (fun C h => by cases h) (hK1.2 6 _ rfl).2 (hK.1.2 0 _ rfl).2
  subst eB
  have hP : va_P D vwCl ([(h0, .inr (0, [.null, .int 0, .null, .int 0])), (q1, .inl (cA 1, 144, .inl fun _ => 0))]) H := hP
  have hD : va_D A ([(h0, .inr (0, [.null, .int 0, .null, .int 0])), (q1, .inl (cA 1, 144, .inl fun _ => 0))]) := hD
  refine va_putF (D := D) (ci := 0) (v := .ref q1) (ty := tyX0 0) (C := RX0) (T := TX0) (N := 4) hx hb hts inX0 tyX0 tyX0_ok nmX0 hown hK.1 hP hD hS 0 rfl rfl 0 (by decide) (hts _ kw_284) (fun _ h9 => h9) rfl hin rfl (tyX0_ok 0 (by decide)) rfl rfl (Nat.le_of_ble_eq_true rfl) dX0_init_10 (fun H locs hP hD hS => ?_)
  have hP : va_P D vwCl ([(h0, .inr (0, [.ref q1, .int 0, .null, .int 0])), (q1, .inl (cA 1, 144, .inl fun _ => 0))]) H := hP
  have hD : va_D A ([(h0, .inr (0, [.ref q1, .int 0, .null, .int 0])), (q1, .inl (cA 1, 144, .inl fun _ => 0))]) := hD
  refine lv_aload_n hx hb dX0_init_13 rfl (lv_at hl 0 rfl) ?_
  refine lv_sipush (v := 144) hx hb dX0_init_14 (by decide) ?_
  refine va_newa (D := D) (atype := .int) (ty := .int) (a0 := (144, .inl fun _ => 0)) hx hb (hts _ kw_103) rfl hK.1 hP hD hS hA (fun _ => rfl) (by decide) rfl (by decide) (by decide) (by decide) dX0_init_17 (fun q2 cB H hK1 hP hD hS => ?_)
  have eB : cB = cA 1 := k_uni (fun C h => by cases h) (hK1.2 6 _ rfl).2 (hK.1.2 0 _ rfl).2
  subst eB
  have hP : va_P D vwCl ([(h0, .inr (0, [.ref q1, .int 0, .null, .int 0])), (q1, .inl (cA 1, 144, .inl fun _ => 0)), (q2, .inl (cA 1, 144, .inl fun _ => 0))]) H := hP
  have hD : va_D A ([(h0, .inr (0, [.ref q1, .int 0, .null, .int 0])), (q1, .inl (cA 1, 144, .inl fun _ => 0)), (q2, .inl (cA 1, 144, .inl fun _ => 0))]) := hD
  refine va_putF (D := D) (ci := 0) (v := .ref q2) (ty := tyX0 2) (C := RX0) (T := TX0) (N := 4) hx hb hts inX0 tyX0 tyX0_ok nmX0 hown hK.1 hP hD hS 0 rfl rfl 2 (by decide) (hts _ kw_288) (fun _ h9 => h9) rfl hin rfl (tyX0_ok 2 (by decide)) rfl rfl (Nat.le_of_ble_eq_true rfl) dX0_init_19 (fun H locs hP hD hS => ?_)
  have hP : va_P D vwCl ([(h0, .inr (0, [.ref q1, .int 0, .ref q2, .int 0])), (q1, .inl (cA 1, 144, .inl fun _ => 0)), (q2, .inl (cA 1, 144, .inl fun _ => 0))]) H := hP
  have hD : va_D A ([(h0, .inr (0, [.ref q1, .int 0, .ref q2, .int 0])), (q1, .inl (cA 1, 144, .inl fun _ => 0)), (q2, .inl (cA 1, 144, .inl fun _ => 0))]) := hD
  refine W.widen (k := 2) (n := 288) (by decide) (by decide) ?_
  exact hret 22 ls H _ (fun k => ([h0, q1, q2] : List Nat).getD k 0) dX0_init_22 rfl hP hD hS
def kX1 (cA : Nat → ClassId) (f : Nat → Nat) : va_W := [(f 0, .inr (1, [.int 0, .int 0, .ref (f 1)])), (f 1, .inl (cA 1, 144, .inl fun _ => 0))]
theorem k_X1 (l : Launch) (D : va_G) (cA : Nat → ClassId) : kCon l yX1_init cX1_init 1 { frames := 1, cells := 1, slots := 144, locals := 20 } D cA 1 [.int 0, .int 0, .null] (kX1 cA) := by
  refine k_con (by decide) rfl (Nat.le_of_ble_eq_true rfl) dX1_init_0 dX1_init_1 kw_79 ⟨by decide, by decide⟩ ?_
  intro p e s m below meth c h0 ls A Q hx hb hml hown hts hin hK hP hD hS hA hl hret
  refine lv_aload_n hx hb dX1_init_4 rfl (lv_at hl 0 rfl) ?_
  refine lv_sipush (v := 144) hx hb dX1_init_5 (by decide) ?_
  refine va_newa (D := D) (atype := .int) (ty := .int) (a0 := (144, .inl fun _ => 0)) hx hb (hts _ kw_103) rfl hK.1 hP hD hS hA (fun _ => rfl) (by decide) rfl (by decide) (by decide) (by decide) dX1_init_8 (fun q1 cB H hK1 hP hD hS => ?_)
  have eB : cB = cA 1 := k_uni (fun C h => by cases h) (hK1.2 6 _ rfl).2 (hK.1.2 0 _ rfl).2
  subst eB
  have hP : va_P D vwCl ([(h0, .inr (1, [.int 0, .int 0, .null])), (q1, .inl (cA 1, 144, .inl fun _ => 0))]) H := hP
  have hD : va_D A ([(h0, .inr (1, [.int 0, .int 0, .null])), (q1, .inl (cA 1, 144, .inl fun _ => 0))]) := hD
  refine va_putF (D := D) (ci := 1) (v := .ref q1) (ty := tyX1 2) (C := RX1) (T := TX1) (N := 3) hx hb hts inX1 tyX1 tyX1_ok nmX1 hown hK.1 hP hD hS 0 rfl rfl 2 (by decide) (hts _ kw_90) (fun _ h9 => h9) rfl hin rfl (tyX1_ok 2 (by decide)) rfl rfl (Nat.le_of_ble_eq_true rfl) dX1_init_10 (fun H locs hP hD hS => ?_)
  have hP : va_P D vwCl ([(h0, .inr (1, [.int 0, .int 0, .ref q1])), (q1, .inl (cA 1, 144, .inl fun _ => 0))]) H := hP
  have hD : va_D A ([(h0, .inr (1, [.int 0, .int 0, .ref q1])), (q1, .inl (cA 1, 144, .inl fun _ => 0))]) := hD
  refine W.widen (k := 1) (n := 144) (by decide) (by decide) ?_
  exact hret 13 ls H _ (fun k => ([h0, q1] : List Nat).getD k 0) dX1_init_13 rfl hP hD hS
def kX3 (cA : Nat → ClassId) (f : Nat → Nat) : va_W := [(f 0, .inr (3, [.int 0, .int 0, .ref (f 1), .ref (f 2), .ref (f 3)])), (f 1, .inl (cA 1, 8, .inl fun _ => 0)), (f 2, .inl (cA 1, 8, .inl fun _ => 0)), (f 3, .inl (cA 1, 8, .inl fun _ => 0))]
theorem k_X3 (l : Launch) (D : va_G) (cA : Nat → ClassId) : kCon l yX3_init cX3_init 1 { frames := 1, cells := 3, slots := 24, locals := 20 } D cA 3 [.int 0, .int 0, .null, .null, .null] (kX3 cA) := by
  refine k_con (by decide) rfl (Nat.le_of_ble_eq_true rfl) dX3_init_0 dX3_init_1 kw_109 ⟨by decide, by decide⟩ ?_
  intro p e s m below meth c h0 ls A Q hx hb hml hown hts hin hK hP hD hS hA hl hret
  refine lv_aload_n hx hb dX3_init_4 rfl (lv_at hl 0 rfl) ?_
  refine lv_bipush (v := 8) hx hb dX3_init_5 (by decide) ?_
  refine va_newa (D := D) (atype := .int) (ty := .int) (a0 := (8, .inl fun _ => 0)) hx hb (hts _ kw_103) rfl hK.1 hP hD hS hA (fun _ => rfl) (by decide) rfl (by decide) (by decide) (by decide) dX3_init_7 (fun q1 cB H hK1 hP hD hS => ?_)
  have eB : cB = cA 1 := k_uni (fun C h => by cases h) (hK1.2 6 _ rfl).2 (hK.1.2 0 _ rfl).2
  subst eB
  have hP : va_P D vwCl ([(h0, .inr (3, [.int 0, .int 0, .null, .null, .null])), (q1, .inl (cA 1, 8, .inl fun _ => 0))]) H := hP
  have hD : va_D A ([(h0, .inr (3, [.int 0, .int 0, .null, .null, .null])), (q1, .inl (cA 1, 8, .inl fun _ => 0))]) := hD
  refine va_putF (D := D) (ci := 3) (v := .ref q1) (ty := tyX3 2) (C := RX3) (T := TX3) (N := 5) hx hb hts inX3 tyX3 tyX3_ok nmX3 hown hK.1 hP hD hS 0 rfl rfl 2 (by decide) (hts _ kw_116) (fun _ h9 => h9) rfl hin rfl (tyX3_ok 2 (by decide)) rfl rfl (Nat.le_of_ble_eq_true rfl) dX3_init_9 (fun H locs hP hD hS => ?_)
  have hP : va_P D vwCl ([(h0, .inr (3, [.int 0, .int 0, .ref q1, .null, .null])), (q1, .inl (cA 1, 8, .inl fun _ => 0))]) H := hP
  have hD : va_D A ([(h0, .inr (3, [.int 0, .int 0, .ref q1, .null, .null])), (q1, .inl (cA 1, 8, .inl fun _ => 0))]) := hD
  refine lv_aload_n hx hb dX3_init_12 rfl (lv_at hl 0 rfl) ?_
  refine lv_bipush (v := 8) hx hb dX3_init_13 (by decide) ?_
  refine va_newa (D := D) (atype := .int) (ty := .int) (a0 := (8, .inl fun _ => 0)) hx hb (hts _ kw_103) rfl hK.1 hP hD hS hA (fun _ => rfl) (by decide) rfl (by decide) (by decide) (by decide) dX3_init_15 (fun q2 cB H hK1 hP hD hS => ?_)
  have eB : cB = cA 1 := k_uni (fun C h => by cases h) (hK1.2 6 _ rfl).2 (hK.1.2 0 _ rfl).2
  subst eB
  have hP : va_P D vwCl ([(h0, .inr (3, [.int 0, .int 0, .ref q1, .null, .null])), (q1, .inl (cA 1, 8, .inl fun _ => 0)), (q2, .inl (cA 1, 8, .inl fun _ => 0))]) H := hP
  have hD : va_D A ([(h0, .inr (3, [.int 0, .int 0, .ref q1, .null, .null])), (q1, .inl (cA 1, 8, .inl fun _ => 0)), (q2, .inl (cA 1, 8, .inl fun _ => 0))]) := hD
  refine va_putF (D := D) (ci := 3) (v := .ref q2) (ty := tyX3 3) (C := RX3) (T := TX3) (N := 5) hx hb hts inX3 tyX3 tyX3_ok nmX3 hown hK.1 hP hD hS 0 rfl rfl 3 (by decide) (hts _ kw_120) (fun _ h9 => h9) rfl hin rfl (tyX3_ok 3 (by decide)) rfl rfl (Nat.le_of_ble_eq_true rfl) dX3_init_17 (fun H locs hP hD hS => ?_)
  have hP : va_P D vwCl ([(h0, .inr (3, [.int 0, .int 0, .ref q1, .ref q2, .null])), (q1, .inl (cA 1, 8, .inl fun _ => 0)), (q2, .inl (cA 1, 8, .inl fun _ => 0))]) H := hP
  have hD : va_D A ([(h0, .inr (3, [.int 0, .int 0, .ref q1, .ref q2, .null])), (q1, .inl (cA 1, 8, .inl fun _ => 0)), (q2, .inl (cA 1, 8, .inl fun _ => 0))]) := hD
  refine lv_aload_n hx hb dX3_init_20 rfl (lv_at hl 0 rfl) ?_
  refine lv_bipush (v := 8) hx hb dX3_init_21 (by decide) ?_
  refine va_newa (D := D) (atype := .int) (ty := .int) (a0 := (8, .inl fun _ => 0)) hx hb (hts _ kw_103) rfl hK.1 hP hD hS hA (fun _ => rfl) (by decide) rfl (by decide) (by decide) (by decide) dX3_init_23 (fun q3 cB H hK1 hP hD hS => ?_)
  have eB : cB = cA 1 := k_uni (fun C h => by cases h) (hK1.2 6 _ rfl).2 (hK.1.2 0 _ rfl).2
  subst eB
  have hP : va_P D vwCl ([(h0, .inr (3, [.int 0, .int 0, .ref q1, .ref q2, .null])), (q1, .inl (cA 1, 8, .inl fun _ => 0)), (q2, .inl (cA 1, 8, .inl fun _ => 0)), (q3, .inl (cA 1, 8, .inl fun _ => 0))]) H := hP
  have hD : va_D A ([(h0, .inr (3, [.int 0, .int 0, .ref q1, .ref q2, .null])), (q1, .inl (cA 1, 8, .inl fun _ => 0)), (q2, .inl (cA 1, 8, .inl fun _ => 0)), (q3, .inl (cA 1, 8, .inl fun _ => 0))]) := hD
  refine va_putF (D := D) (ci := 3) (v := .ref q3) (ty := tyX3 4) (C := RX3) (T := TX3) (N := 5) hx hb hts inX3 tyX3 tyX3_ok nmX3 hown hK.1 hP hD hS 0 rfl rfl 4 (by decide) (hts _ kw_123) (fun _ h9 => h9) rfl hin rfl (tyX3_ok 4 (by decide)) rfl rfl (Nat.le_of_ble_eq_true rfl) dX3_init_25 (fun H locs hP hD hS => ?_)
  have hP : va_P D vwCl ([(h0, .inr (3, [.int 0, .int 0, .ref q1, .ref q2, .ref q3])), (q1, .inl (cA 1, 8, .inl fun _ => 0)), (q2, .inl (cA 1, 8, .inl fun _ => 0)), (q3, .inl (cA 1, 8, .inl fun _ => 0))]) H := hP
  have hD : va_D A ([(h0, .inr (3, [.int 0, .int 0, .ref q1, .ref q2, .ref q3])), (q1, .inl (cA 1, 8, .inl fun _ => 0)), (q2, .inl (cA 1, 8, .inl fun _ => 0)), (q3, .inl (cA 1, 8, .inl fun _ => 0))]) := hD
  refine W.widen (k := 3) (n := 24) (by decide) (by decide) ?_
  exact hret 28 ls H _ (fun k => ([h0, q1, q2, q3] : List Nat).getD k 0) dX3_init_28 rfl hP hD hS
def kX6 (cA : Nat → ClassId) (f : Nat → Nat) : va_W := [(f 0, .inr (6, [.int 0, .ref (f 1), .ref (f 2), .ref (f 3), .ref (f 4), .ref (f 5), .ref (f 6), .ref (f 7)])), (f 1, .inl (cA 1, 6, .inl fun _ => 0)), (f 2, .inl (cA 1, 6, .inl fun _ => 0)), (f 3, .inl (cA 1, 6, .inl fun _ => 0)), (f 4, .inl (cA 1, 6, .inl fun _ => 0)), (f 5, .inl (cA 1, 6, .inl fun _ => 0)), (f 6, .inl (cA 1, 6, .inl fun _ => 0)), (f 7, .inl (cA 1, 6, .inl fun _ => 0))]
theorem k_X6 (l : Launch) (D : va_G) (cA : Nat → ClassId) : kCon l yX6_init cX6_init 1 { frames := 1, cells := 7, slots := 42, locals := 20 } D cA 6 [.int 0, .null, .null, .null, .null, .null, .null, .null] (kX6 cA) := by
  refine k_con (by decide) rfl (Nat.le_of_ble_eq_true rfl) dX6_init_0 dX6_init_1 kw_143 ⟨by decide, by decide⟩ ?_
  intro p e s m below meth c h0 ls A Q hx hb hml hown hts hin hK hP hD hS hA hl hret
  refine lv_aload_n hx hb dX6_init_4 rfl (lv_at hl 0 rfl) ?_
  refine lv_bipush (v := 6) hx hb dX6_init_5 (by decide) ?_
  refine va_newa (D := D) (atype := .int) (ty := .int) (a0 := (6, .inl fun _ => 0)) hx hb (hts _ kw_103) rfl hK.1 hP hD hS hA (fun _ => rfl) (by decide) rfl (by decide) (by decide) (by decide) dX6_init_7 (fun q1 cB H hK1 hP hD hS => ?_)
  have eB : cB = cA 1 := k_uni (fun C h => by cases h) (hK1.2 6 _ rfl).2 (hK.1.2 0 _ rfl).2
  subst eB
  have hP : va_P D vwCl ([(h0, .inr (6, [.int 0, .null, .null, .null, .null, .null, .null, .null])), (q1, .inl (cA 1, 6, .inl fun _ => 0))]) H := hP
  have hD : va_D A ([(h0, .inr (6, [.int 0, .null, .null, .null, .null, .null, .null, .null])), (q1, .inl (cA 1, 6, .inl fun _ => 0))]) := hD
  refine va_putF (D := D) (ci := 6) (v := .ref q1) (ty := tyX6 1) (C := RX6) (T := TX6) (N := 8) hx hb hts inX6 tyX6 tyX6_ok nmX6 hown hK.1 hP hD hS 0 rfl rfl 1 (by decide) (hts _ kw_148) (fun _ h9 => h9) rfl hin rfl (tyX6_ok 1 (by decide)) rfl rfl (Nat.le_of_ble_eq_true rfl) dX6_init_9 (fun H locs hP hD hS => ?_)
  have hP : va_P D vwCl ([(h0, .inr (6, [.int 0, .ref q1, .null, .null, .null, .null, .null, .null])), (q1, .inl (cA 1, 6, .inl fun _ => 0))]) H := hP
  have hD : va_D A ([(h0, .inr (6, [.int 0, .ref q1, .null, .null, .null, .null, .null, .null])), (q1, .inl (cA 1, 6, .inl fun _ => 0))]) := hD
  refine lv_aload_n hx hb dX6_init_12 rfl (lv_at hl 0 rfl) ?_
  refine lv_bipush (v := 6) hx hb dX6_init_13 (by decide) ?_
  refine va_newa (D := D) (atype := .int) (ty := .int) (a0 := (6, .inl fun _ => 0)) hx hb (hts _ kw_103) rfl hK.1 hP hD hS hA (fun _ => rfl) (by decide) rfl (by decide) (by decide) (by decide) dX6_init_15 (fun q2 cB H hK1 hP hD hS => ?_)
  have eB : cB = cA 1 := k_uni (fun C h => by cases h) (hK1.2 6 _ rfl).2 (hK.1.2 0 _ rfl).2
  subst eB
  have hP : va_P D vwCl ([(h0, .inr (6, [.int 0, .ref q1, .null, .null, .null, .null, .null, .null])), (q1, .inl (cA 1, 6, .inl fun _ => 0)), (q2, .inl (cA 1, 6, .inl fun _ => 0))]) H := hP
  have hD : va_D A ([(h0, .inr (6, [.int 0, .ref q1, .null, .null, .null, .null, .null, .null])), (q1, .inl (cA 1, 6, .inl fun _ => 0)), (q2, .inl (cA 1, 6, .inl fun _ => 0))]) := hD
  refine va_putF (D := D) (ci := 6) (v := .ref q2) (ty := tyX6 2) (C := RX6) (T := TX6) (N := 8) hx hb hts inX6 tyX6 tyX6_ok nmX6 hown hK.1 hP hD hS 0 rfl rfl 2 (by decide) (hts _ kw_152) (fun _ h9 => h9) rfl hin rfl (tyX6_ok 2 (by decide)) rfl rfl (Nat.le_of_ble_eq_true rfl) dX6_init_17 (fun H locs hP hD hS => ?_)
  have hP : va_P D vwCl ([(h0, .inr (6, [.int 0, .ref q1, .ref q2, .null, .null, .null, .null, .null])), (q1, .inl (cA 1, 6, .inl fun _ => 0)), (q2, .inl (cA 1, 6, .inl fun _ => 0))]) H := hP
  have hD : va_D A ([(h0, .inr (6, [.int 0, .ref q1, .ref q2, .null, .null, .null, .null, .null])), (q1, .inl (cA 1, 6, .inl fun _ => 0)), (q2, .inl (cA 1, 6, .inl fun _ => 0))]) := hD
  refine lv_aload_n hx hb dX6_init_20 rfl (lv_at hl 0 rfl) ?_
  refine lv_bipush (v := 6) hx hb dX6_init_21 (by decide) ?_
  refine va_newa (D := D) (atype := .int) (ty := .int) (a0 := (6, .inl fun _ => 0)) hx hb (hts _ kw_103) rfl hK.1 hP hD hS hA (fun _ => rfl) (by decide) rfl (by decide) (by decide) (by decide) dX6_init_23 (fun q3 cB H hK1 hP hD hS => ?_)
  have eB : cB = cA 1 := k_uni (fun C h => by cases h) (hK1.2 6 _ rfl).2 (hK.1.2 0 _ rfl).2
  subst eB
  have hP : va_P D vwCl ([(h0, .inr (6, [.int 0, .ref q1, .ref q2, .null, .null, .null, .null, .null])), (q1, .inl (cA 1, 6, .inl fun _ => 0)), (q2, .inl (cA 1, 6, .inl fun _ => 0)), (q3, .inl (cA 1, 6, .inl fun _ => 0))]) H := hP
  have hD : va_D A ([(h0, .inr (6, [.int 0, .ref q1, .ref q2, .null, .null, .null, .null, .null])), (q1, .inl (cA 1, 6, .inl fun _ => 0)), (q2, .inl (cA 1, 6, .inl fun _ => 0)), (q3, .inl (cA 1, 6, .inl fun _ => 0))]) := hD
  refine va_putF (D := D) (ci := 6) (v := .ref q3) (ty := tyX6 3) (C := RX6) (T := TX6) (N := 8) hx hb hts inX6 tyX6 tyX6_ok nmX6 hown hK.1 hP hD hS 0 rfl rfl 3 (by decide) (hts _ kw_155) (fun _ h9 => h9) rfl hin rfl (tyX6_ok 3 (by decide)) rfl rfl (Nat.le_of_ble_eq_true rfl) dX6_init_25 (fun H locs hP hD hS => ?_)
  have hP : va_P D vwCl ([(h0, .inr (6, [.int 0, .ref q1, .ref q2, .ref q3, .null, .null, .null, .null])), (q1, .inl (cA 1, 6, .inl fun _ => 0)), (q2, .inl (cA 1, 6, .inl fun _ => 0)), (q3, .inl (cA 1, 6, .inl fun _ => 0))]) H := hP
  have hD : va_D A ([(h0, .inr (6, [.int 0, .ref q1, .ref q2, .ref q3, .null, .null, .null, .null])), (q1, .inl (cA 1, 6, .inl fun _ => 0)), (q2, .inl (cA 1, 6, .inl fun _ => 0)), (q3, .inl (cA 1, 6, .inl fun _ => 0))]) := hD
  refine lv_aload_n hx hb dX6_init_28 rfl (lv_at hl 0 rfl) ?_
  refine lv_bipush (v := 6) hx hb dX6_init_29 (by decide) ?_
  refine va_newa (D := D) (atype := .int) (ty := .int) (a0 := (6, .inl fun _ => 0)) hx hb (hts _ kw_103) rfl hK.1 hP hD hS hA (fun _ => rfl) (by decide) rfl (by decide) (by decide) (by decide) dX6_init_31 (fun q4 cB H hK1 hP hD hS => ?_)
  have eB : cB = cA 1 := k_uni (fun C h => by cases h) (hK1.2 6 _ rfl).2 (hK.1.2 0 _ rfl).2
  subst eB
  have hP : va_P D vwCl ([(h0, .inr (6, [.int 0, .ref q1, .ref q2, .ref q3, .null, .null, .null, .null])), (q1, .inl (cA 1, 6, .inl fun _ => 0)), (q2, .inl (cA 1, 6, .inl fun _ => 0)), (q3, .inl (cA 1, 6, .inl fun _ => 0)), (q4, .inl (cA 1, 6, .inl fun _ => 0))]) H := hP
  have hD : va_D A ([(h0, .inr (6, [.int 0, .ref q1, .ref q2, .ref q3, .null, .null, .null, .null])), (q1, .inl (cA 1, 6, .inl fun _ => 0)), (q2, .inl (cA 1, 6, .inl fun _ => 0)), (q3, .inl (cA 1, 6, .inl fun _ => 0)), (q4, .inl (cA 1, 6, .inl fun _ => 0))]) := hD
  refine va_putF (D := D) (ci := 6) (v := .ref q4) (ty := tyX6 4) (C := RX6) (T := TX6) (N := 8) hx hb hts inX6 tyX6 tyX6_ok nmX6 hown hK.1 hP hD hS 0 rfl rfl 4 (by decide) (hts _ kw_158) (fun _ h9 => h9) rfl hin rfl (tyX6_ok 4 (by decide)) rfl rfl (Nat.le_of_ble_eq_true rfl) dX6_init_33 (fun H locs hP hD hS => ?_)
  have hP : va_P D vwCl ([(h0, .inr (6, [.int 0, .ref q1, .ref q2, .ref q3, .ref q4, .null, .null, .null])), (q1, .inl (cA 1, 6, .inl fun _ => 0)), (q2, .inl (cA 1, 6, .inl fun _ => 0)), (q3, .inl (cA 1, 6, .inl fun _ => 0)), (q4, .inl (cA 1, 6, .inl fun _ => 0))]) H := hP
  have hD : va_D A ([(h0, .inr (6, [.int 0, .ref q1, .ref q2, .ref q3, .ref q4, .null, .null, .null])), (q1, .inl (cA 1, 6, .inl fun _ => 0)), (q2, .inl (cA 1, 6, .inl fun _ => 0)), (q3, .inl (cA 1, 6, .inl fun _ => 0)), (q4, .inl (cA 1, 6, .inl fun _ => 0))]) := hD
  refine lv_aload_n hx hb dX6_init_36 rfl (lv_at hl 0 rfl) ?_
  refine lv_bipush (v := 6) hx hb dX6_init_37 (by decide) ?_
  refine va_newa (D := D) (atype := .int) (ty := .int) (a0 := (6, .inl fun _ => 0)) hx hb (hts _ kw_103) rfl hK.1 hP hD hS hA (fun _ => rfl) (by decide) rfl (by decide) (by decide) (by decide) dX6_init_39 (fun q5 cB H hK1 hP hD hS => ?_)
  have eB : cB = cA 1 := k_uni (fun C h => by cases h) (hK1.2 6 _ rfl).2 (hK.1.2 0 _ rfl).2
  subst eB
  have hP : va_P D vwCl ([(h0, .inr (6, [.int 0, .ref q1, .ref q2, .ref q3, .ref q4, .null, .null, .null])), (q1, .inl (cA 1, 6, .inl fun _ => 0)), (q2, .inl (cA 1, 6, .inl fun _ => 0)), (q3, .inl (cA 1, 6, .inl fun _ => 0)), (q4, .inl (cA 1, 6, .inl fun _ => 0)), (q5, .inl (cA 1, 6, .inl fun _ => 0))]) H := hP
  have hD : va_D A ([(h0, .inr (6, [.int 0, .ref q1, .ref q2, .ref q3, .ref q4, .null, .null, .null])), (q1, .inl (cA 1, 6, .inl fun _ => 0)), (q2, .inl (cA 1, 6, .inl fun _ => 0)), (q3, .inl (cA 1, 6, .inl fun _ => 0)), (q4, .inl (cA 1, 6, .inl fun _ => 0)), (q5, .inl (cA 1, 6, .inl fun _ => 0))]) := hD
  refine va_putF (D := D) (ci := 6) (v := .ref q5) (ty := tyX6 5) (C := RX6) (T := TX6) (N := 8) hx hb hts inX6 tyX6 tyX6_ok nmX6 hown hK.1 hP hD hS 0 rfl rfl 5 (by decide) (hts _ kw_161) (fun _ h9 => h9) rfl hin rfl (tyX6_ok 5 (by decide)) rfl rfl (Nat.le_of_ble_eq_true rfl) dX6_init_41 (fun H locs hP hD hS => ?_)
  have hP : va_P D vwCl ([(h0, .inr (6, [.int 0, .ref q1, .ref q2, .ref q3, .ref q4, .ref q5, .null, .null])), (q1, .inl (cA 1, 6, .inl fun _ => 0)), (q2, .inl (cA 1, 6, .inl fun _ => 0)), (q3, .inl (cA 1, 6, .inl fun _ => 0)), (q4, .inl (cA 1, 6, .inl fun _ => 0)), (q5, .inl (cA 1, 6, .inl fun _ => 0))]) H := hP
  have hD : va_D A ([(h0, .inr (6, [.int 0, .ref q1, .ref q2, .ref q3, .ref q4, .ref q5, .null, .null])), (q1, .inl (cA 1, 6, .inl fun _ => 0)), (q2, .inl (cA 1, 6, .inl fun _ => 0)), (q3, .inl (cA 1, 6, .inl fun _ => 0)), (q4, .inl (cA 1, 6, .inl fun _ => 0)), (q5, .inl (cA 1, 6, .inl fun _ => 0))]) := hD
  refine lv_aload_n hx hb dX6_init_44 rfl (lv_at hl 0 rfl) ?_
  refine lv_bipush (v := 6) hx hb dX6_init_45 (by decide) ?_
  refine va_newa (D := D) (atype := .int) (ty := .int) (a0 := (6, .inl fun _ => 0)) hx hb (hts _ kw_103) rfl hK.1 hP hD hS hA (fun _ => rfl) (by decide) rfl (by decide) (by decide) (by decide) dX6_init_47 (fun q6 cB H hK1 hP hD hS => ?_)
  have eB : cB = cA 1 := k_uni (fun C h => by cases h) (hK1.2 6 _ rfl).2 (hK.1.2 0 _ rfl).2
  subst eB
  have hP : va_P D vwCl ([(h0, .inr (6, [.int 0, .ref q1, .ref q2, .ref q3, .ref q4, .ref q5, .null, .null])), (q1, .inl (cA 1, 6, .inl fun _ => 0)), (q2, .inl (cA 1, 6, .inl fun _ => 0)), (q3, .inl (cA 1, 6, .inl fun _ => 0)), (q4, .inl (cA 1, 6, .inl fun _ => 0)), (q5, .inl (cA 1, 6, .inl fun _ => 0)), (q6, .inl (cA 1, 6, .inl fun _ => 0))]) H := hP
  have hD : va_D A ([(h0, .inr (6, [.int 0, .ref q1, .ref q2, .ref q3, .ref q4, .ref q5, .null, .null])), (q1, .inl (cA 1, 6, .inl fun _ => 0)), (q2, .inl (cA 1, 6, .inl fun _ => 0)), (q3, .inl (cA 1, 6, .inl fun _ => 0)), (q4, .inl (cA 1, 6, .inl fun _ => 0)), (q5, .inl (cA 1, 6, .inl fun _ => 0)), (q6, .inl (cA 1, 6, .inl fun _ => 0))]) := hD
  refine va_putF (D := D) (ci := 6) (v := .ref q6) (ty := tyX6 6) (C := RX6) (T := TX6) (N := 8) hx hb hts inX6 tyX6 tyX6_ok nmX6 hown hK.1 hP hD hS 0 rfl rfl 6 (by decide) (hts _ kw_164) (fun _ h9 => h9) rfl hin rfl (tyX6_ok 6 (by decide)) rfl rfl (Nat.le_of_ble_eq_true rfl) dX6_init_49 (fun H locs hP hD hS => ?_)
  have hP : va_P D vwCl ([(h0, .inr (6, [.int 0, .ref q1, .ref q2, .ref q3, .ref q4, .ref q5, .ref q6, .null])), (q1, .inl (cA 1, 6, .inl fun _ => 0)), (q2, .inl (cA 1, 6, .inl fun _ => 0)), (q3, .inl (cA 1, 6, .inl fun _ => 0)), (q4, .inl (cA 1, 6, .inl fun _ => 0)), (q5, .inl (cA 1, 6, .inl fun _ => 0)), (q6, .inl (cA 1, 6, .inl fun _ => 0))]) H := hP
  have hD : va_D A ([(h0, .inr (6, [.int 0, .ref q1, .ref q2, .ref q3, .ref q4, .ref q5, .ref q6, .null])), (q1, .inl (cA 1, 6, .inl fun _ => 0)), (q2, .inl (cA 1, 6, .inl fun _ => 0)), (q3, .inl (cA 1, 6, .inl fun _ => 0)), (q4, .inl (cA 1, 6, .inl fun _ => 0)), (q5, .inl (cA 1, 6, .inl fun _ => 0)), (q6, .inl (cA 1, 6, .inl fun _ => 0))]) := hD
  refine lv_aload_n hx hb dX6_init_52 rfl (lv_at hl 0 rfl) ?_
  refine lv_bipush (v := 6) hx hb dX6_init_53 (by decide) ?_
  refine va_newa (D := D) (atype := .int) (ty := .int) (a0 := (6, .inl fun _ => 0)) hx hb (hts _ kw_103) rfl hK.1 hP hD hS hA (fun _ => rfl) (by decide) rfl (by decide) (by decide) (by decide) dX6_init_55 (fun q7 cB H hK1 hP hD hS => ?_)
  have eB : cB = cA 1 := k_uni (fun C h => by cases h) (hK1.2 6 _ rfl).2 (hK.1.2 0 _ rfl).2
  subst eB
  have hP : va_P D vwCl ([(h0, .inr (6, [.int 0, .ref q1, .ref q2, .ref q3, .ref q4, .ref q5, .ref q6, .null])), (q1, .inl (cA 1, 6, .inl fun _ => 0)), (q2, .inl (cA 1, 6, .inl fun _ => 0)), (q3, .inl (cA 1, 6, .inl fun _ => 0)), (q4, .inl (cA 1, 6, .inl fun _ => 0)), (q5, .inl (cA 1, 6, .inl fun _ => 0)), (q6, .inl (cA 1, 6, .inl fun _ => 0)), (q7, .inl (cA 1, 6, .inl fun _ => 0))]) H := hP
  have hD : va_D A ([(h0, .inr (6, [.int 0, .ref q1, .ref q2, .ref q3, .ref q4, .ref q5, .ref q6, .null])), (q1, .inl (cA 1, 6, .inl fun _ => 0)), (q2, .inl (cA 1, 6, .inl fun _ => 0)), (q3, .inl (cA 1, 6, .inl fun _ => 0)), (q4, .inl (cA 1, 6, .inl fun _ => 0)), (q5, .inl (cA 1, 6, .inl fun _ => 0)), (q6, .inl (cA 1, 6, .inl fun _ => 0)), (q7, .inl (cA 1, 6, .inl fun _ => 0))]) := hD
  refine va_putF (D := D) (ci := 6) (v := .ref q7) (ty := tyX6 7) (C := RX6) (T := TX6) (N := 8) hx hb hts inX6 tyX6 tyX6_ok nmX6 hown hK.1 hP hD hS 0 rfl rfl 7 (by decide) (hts _ kw_167) (fun _ h9 => h9) rfl hin rfl (tyX6_ok 7 (by decide)) rfl rfl (Nat.le_of_ble_eq_true rfl) dX6_init_57 (fun H locs hP hD hS => ?_)
  have hP : va_P D vwCl ([(h0, .inr (6, [.int 0, .ref q1, .ref q2, .ref q3, .ref q4, .ref q5, .ref q6, .ref q7])), (q1, .inl (cA 1, 6, .inl fun _ => 0)), (q2, .inl (cA 1, 6, .inl fun _ => 0)), (q3, .inl (cA 1, 6, .inl fun _ => 0)), (q4, .inl (cA 1, 6, .inl fun _ => 0)), (q5, .inl (cA 1, 6, .inl fun _ => 0)), (q6, .inl (cA 1, 6, .inl fun _ => 0)), (q7, .inl (cA 1, 6, .inl fun _ => 0))]) H := hP
  have hD : va_D A ([(h0, .inr (6, [.int 0, .ref q1, .ref q2, .ref q3, .ref q4, .ref q5, .ref q6, .ref q7])), (q1, .inl (cA 1, 6, .inl fun _ => 0)), (q2, .inl (cA 1, 6, .inl fun _ => 0)), (q3, .inl (cA 1, 6, .inl fun _ => 0)), (q4, .inl (cA 1, 6, .inl fun _ => 0)), (q5, .inl (cA 1, 6, .inl fun _ => 0)), (q6, .inl (cA 1, 6, .inl fun _ => 0)), (q7, .inl (cA 1, 6, .inl fun _ => 0))]) := hD
  refine W.widen (k := 7) (n := 42) (by decide) (by decide) ?_
  exact hret 60 ls H _ (fun k => ([h0, q1, q2, q3, q4, q5, q6, q7] : List Nat).getD k 0) dX6_init_60 rfl hP hD hS
def kX5 (cA : Nat → ClassId) (f : Nat → Nat) : va_W := [(f 0, .inr (5, [.int 0, .ref (f 1), .int 0, .int 0, .int 0, .int 0, .int 0])), (f 1, .inl (cA 2, 800, .inl fun _ => 0))]
theorem k_X5 (l : Launch) (D : va_G) (cA : Nat → ClassId) : kCon l yX5_init cX5_init 1 { frames := 1, cells := 1, slots := 800, locals := 20 } D cA 5 [.int 0, .null, .int 0, .int 0, .int 0, .int 0, .int 0] (kX5 cA) := by
  refine k_con (by decide) rfl (Nat.le_of_ble_eq_true rfl) dX5_init_0 dX5_init_1 kw_245 ⟨by decide, by decide⟩ ?_
  intro p e s m below meth c h0 ls A Q hx hb hml hown hts hin hK hP hD hS hA hl hret
  refine lv_aload_n hx hb dX5_init_4 rfl (lv_at hl 0 rfl) ?_
  refine lv_sipush (v := 800) hx hb dX5_init_5 (by decide) ?_
  refine va_newa (D := D) (atype := .byte) (ty := .byte) (a0 := (800, .inl fun _ => 0)) hx hb (hts _ kw_270) rfl hK.1 hP hD hS hA (fun _ => rfl) (by decide) rfl (by decide) (by decide) (by decide) dX5_init_8 (fun q1 cB H hK1 hP hD hS => ?_)
  have eB : cB = cA 2 := k_uni (fun C h => by cases h) (hK1.2 6 _ rfl).2 (hK.1.2 1 _ rfl).2
  subst eB
  have hP : va_P D vwCl ([(h0, .inr (5, [.int 0, .null, .int 0, .int 0, .int 0, .int 0, .int 0])), (q1, .inl (cA 2, 800, .inl fun _ => 0))]) H := hP
  have hD : va_D A ([(h0, .inr (5, [.int 0, .null, .int 0, .int 0, .int 0, .int 0, .int 0])), (q1, .inl (cA 2, 800, .inl fun _ => 0))]) := hD
  refine va_putF (D := D) (ci := 5) (v := .ref q1) (ty := tyX5 1) (C := RX5) (T := TX5) (N := 7) hx hb hts inX5 tyX5 tyX5_ok nmX5 hown hK.1 hP hD hS 0 rfl rfl 1 (by decide) (hts _ kw_248) (fun _ h9 => h9) rfl hin rfl (tyX5_ok 1 (by decide)) rfl rfl (Nat.le_of_ble_eq_true rfl) dX5_init_10 (fun H locs hP hD hS => ?_)
  have hP : va_P D vwCl ([(h0, .inr (5, [.int 0, .ref q1, .int 0, .int 0, .int 0, .int 0, .int 0])), (q1, .inl (cA 2, 800, .inl fun _ => 0))]) H := hP
  have hD : va_D A ([(h0, .inr (5, [.int 0, .ref q1, .int 0, .int 0, .int 0, .int 0, .int 0])), (q1, .inl (cA 2, 800, .inl fun _ => 0))]) := hD
  refine W.widen (k := 1) (n := 800) (by decide) (by decide) ?_
  exact hret 13 ls H _ (fun k => ([h0, q1] : List Nat).getD k 0) dX5_init_13 rfl hP hD hS
def kX7 (cA : Nat → ClassId) (f : Nat → Nat) : va_W := (f 0, .inr (7, [.ref (f 1), .ref (f 3), .ref (f 7), .ref (f 15), .int 0, .int 0])) :: (kX1 cA (fun k => f (k + 1)) ++ kX3 cA (fun k => f (k + 3)) ++ kX6 cA (fun k => f (k + 7)) ++ [(f 15, .inl (cA 1, 24, .inl fun _ => 0))])
theorem k_X7 (l : Launch) (D : va_G) (cA : Nat → ClassId) : kCon l yX7_init cX7_init 1 { frames := 2, cells := 15, slots := 250, locals := 40 } D cA 7 [.null, .null, .null, .null, .int 0, .int 0] (kX7 cA) := by
  refine k_con (by decide) rfl (Nat.le_of_ble_eq_true rfl) dX7_init_0 dX7_init_1 kw_73 ⟨by decide, by decide⟩ ?_
  intro p e s m below meth c h0 ls A Q hx hb hml hown hts hin hK hP hD hS hA hl hret
  refine lv_aload_n hx hb dX7_init_4 rfl (lv_at hl 0 rfl) ?_
  refine va_new (ci := 1) (fs := [.int 0, .int 0, .null]) (C := RX1) (T := TX1) (N := 3) hx hb hts inX1 tyX1 tyX1_ok hown (hts _ kw_74) (hts _ kw_75) (hts _ kw_34) hK.1 hP hD hS hA rfl (fun j hj => by rcases (show j = 0 ∨ j = 1 ∨ j = 2 by omega) with rfl | rfl | rfl <;> rfl) (by decide) (by decide) dX7_init_5 (fun q1 H hP hD hS => ?_)
  refine lv_dup hx hb dX7_init_8 rfl ?_
  refine k_call (wr := [(h0, .inr (7, [.null, .null, .null, .null, .int 0, .int 0]))]) hx hb hml hown hts (k_X1 l D cA) hK hP hD hS hA kw_76 kw_77 kw_34 kw_78 rfl ⟨by decide, by decide, by decide +kernel⟩ (by decide) (Nat.le_of_ble_eq_true rfl) hl.1 dX7_init_9 (by decide) (by decide) (fun f2 H locs hff2 hP hD hS => ?_)
  have hP : va_P D vwCl ((h0, .inr (7, [.null, .null, .null, .null, .int 0, .int 0])) :: (kX1 cA f2)) H := hP
  have hD : va_D A ((h0, .inr (7, [.null, .null, .null, .null, .int 0, .int 0])) :: (kX1 cA f2)) := hD
  refine va_putF (D := D) (ci := 7) (v := .ref q1) (ty := tyX7 0) (C := RX7) (T := TX7) (N := 6) hx hb hts inX7 tyX7 tyX7_ok nmX7 hown hK.1 hP hD hS 0 rfl rfl 0 (by decide) (hts _ kw_186) (fun _ h9 => h9) rfl hin rfl (tyX7_ok 0 (by decide)) rfl rfl (Nat.le_of_ble_eq_true rfl) dX7_init_12 (fun H locs hP hD hS => ?_)
  have hP : va_P D vwCl ((h0, .inr (7, [.ref q1, .null, .null, .null, .int 0, .int 0])) :: (kX1 cA f2)) H := hP
  have hD : va_D A ((h0, .inr (7, [.ref q1, .null, .null, .null, .int 0, .int 0])) :: (kX1 cA f2)) := hD
  refine lv_aload_n hx hb dX7_init_15 rfl (lv_at hl 0 rfl) ?_
  refine va_new (ci := 3) (fs := [.int 0, .int 0, .null, .null, .null]) (C := RX3) (T := TX3) (N := 5) hx hb hts inX3 tyX3 tyX3_ok hown (hts _ kw_104) (hts _ kw_105) (hts _ kw_35) hK.1 hP hD hS hA rfl (fun j hj => by rcases (show j = 0 ∨ j = 1 ∨ j = 2 ∨ j = 3 ∨ j = 4 by omega) with rfl | rfl | rfl | rfl | rfl <;> rfl) (by decide) (by decide) dX7_init_16 (fun q3 H hP hD hS => ?_)
  refine lv_dup hx hb dX7_init_19 rfl ?_
  refine k_call (wr := (h0, .inr (7, [.ref q1, .null, .null, .null, .int 0, .int 0])) :: (kX1 cA f2)) hx hb hml hown hts (k_X3 l D cA) hK hP hD hS hA kw_106 kw_107 kw_35 kw_108 rfl ⟨by decide, by decide, by decide +kernel⟩ (by decide) (Nat.le_of_ble_eq_true rfl) hl.1 dX7_init_20 (by decide) (by decide) (fun f4 H locs hff4 hP hD hS => ?_)
  have hP : va_P D vwCl ((h0, .inr (7, [.ref q1, .null, .null, .null, .int 0, .int 0])) :: (kX1 cA f2 ++ kX3 cA f4)) H := hP
  have hD : va_D A ((h0, .inr (7, [.ref q1, .null, .null, .null, .int 0, .int 0])) :: (kX1 cA f2 ++ kX3 cA f4)) := hD
  refine va_putF (D := D) (ci := 7) (v := .ref q3) (ty := tyX7 1) (C := RX7) (T := TX7) (N := 6) hx hb hts inX7 tyX7 tyX7_ok nmX7 hown hK.1 hP hD hS 0 rfl rfl 1 (by decide) (hts _ kw_190) (fun _ h9 => h9) rfl hin rfl (tyX7_ok 1 (by decide)) rfl rfl (Nat.le_of_ble_eq_true rfl) dX7_init_23 (fun H locs hP hD hS => ?_)
  have hP : va_P D vwCl ((h0, .inr (7, [.ref q1, .ref q3, .null, .null, .int 0, .int 0])) :: (kX1 cA f2 ++ kX3 cA f4)) H := hP
  have hD : va_D A ((h0, .inr (7, [.ref q1, .ref q3, .null, .null, .int 0, .int 0])) :: (kX1 cA f2 ++ kX3 cA f4)) := hD
  refine lv_aload_n hx hb dX7_init_26 rfl (lv_at hl 0 rfl) ?_
  refine va_new (ci := 6) (fs := [.int 0, .null, .null, .null, .null, .null, .null, .null]) (C := RX6) (T := TX6) (N := 8) hx hb hts inX6 tyX6 tyX6_ok hown (hts _ kw_138) (hts _ kw_139) (hts _ kw_36) hK.1 hP hD hS hA rfl (fun j hj => by rcases (show j = 0 ∨ j = 1 ∨ j = 2 ∨ j = 3 ∨ j = 4 ∨ j = 5 ∨ j = 6 ∨ j = 7 by omega) with rfl | rfl | rfl | rfl | rfl | rfl | rfl | rfl <;> rfl) (by decide) (by decide) dX7_init_27 (fun q5 H hP hD hS => ?_)
  refine lv_dup hx hb dX7_init_30 rfl ?_
  refine k_call (wr := (h0, .inr (7, [.ref q1, .ref q3, .null, .null, .int 0, .int 0])) :: (kX1 cA f2 ++ kX3 cA f4)) hx hb hml hown hts (k_X6 l D cA) hK hP hD hS hA kw_140 kw_141 kw_36 kw_142 rfl ⟨by decide, by decide, by decide +kernel⟩ (by decide) (Nat.le_of_ble_eq_true rfl) hl.1 dX7_init_31 (by decide) (by decide) (fun f6 H locs hff6 hP hD hS => ?_)
  have hP : va_P D vwCl ((h0, .inr (7, [.ref q1, .ref q3, .null, .null, .int 0, .int 0])) :: (kX1 cA f2 ++ kX3 cA f4 ++ kX6 cA f6)) H := hP
  have hD : va_D A ((h0, .inr (7, [.ref q1, .ref q3, .null, .null, .int 0, .int 0])) :: (kX1 cA f2 ++ kX3 cA f4 ++ kX6 cA f6)) := hD
  refine va_putF (D := D) (ci := 7) (v := .ref q5) (ty := tyX7 2) (C := RX7) (T := TX7) (N := 6) hx hb hts inX7 tyX7 tyX7_ok nmX7 hown hK.1 hP hD hS 0 rfl rfl 2 (by decide) (hts _ kw_194) (fun _ h9 => h9) rfl hin rfl (tyX7_ok 2 (by decide)) rfl rfl (Nat.le_of_ble_eq_true rfl) dX7_init_34 (fun H locs hP hD hS => ?_)
  have hP : va_P D vwCl ((h0, .inr (7, [.ref q1, .ref q3, .ref q5, .null, .int 0, .int 0])) :: (kX1 cA f2 ++ kX3 cA f4 ++ kX6 cA f6)) H := hP
  have hD : va_D A ((h0, .inr (7, [.ref q1, .ref q3, .ref q5, .null, .int 0, .int 0])) :: (kX1 cA f2 ++ kX3 cA f4 ++ kX6 cA f6)) := hD
  refine lv_aload_n hx hb dX7_init_37 rfl (lv_at hl 0 rfl) ?_
  refine lv_bipush (v := 24) hx hb dX7_init_38 (by decide) ?_
  refine va_newa (D := D) (atype := .int) (ty := .int) (a0 := (24, .inl fun _ => 0)) hx hb (hts _ kw_103) rfl hK.1 hP hD hS hA (fun _ => rfl) (by decide) rfl (by decide) (by decide) (by decide) dX7_init_40 (fun q7 cB H hK1 hP hD hS => ?_)
  have eB : cB = cA 1 := k_uni (fun C h => by cases h) (hK1.2 6 _ rfl).2 (hK.1.2 0 _ rfl).2
  subst eB
  have hP : va_P D vwCl ((h0, .inr (7, [.ref q1, .ref q3, .ref q5, .null, .int 0, .int 0])) :: (kX1 cA f2 ++ kX3 cA f4 ++ kX6 cA f6 ++ [(q7, .inl (cA 1, 24, .inl fun _ => 0))])) H := hP
  have hD : va_D A ((h0, .inr (7, [.ref q1, .ref q3, .ref q5, .null, .int 0, .int 0])) :: (kX1 cA f2 ++ kX3 cA f4 ++ kX6 cA f6 ++ [(q7, .inl (cA 1, 24, .inl fun _ => 0))])) := hD
  refine va_putF (D := D) (ci := 7) (v := .ref q7) (ty := tyX7 3) (C := RX7) (T := TX7) (N := 6) hx hb hts inX7 tyX7 tyX7_ok nmX7 hown hK.1 hP hD hS 0 rfl rfl 3 (by decide) (hts _ kw_198) (fun _ h9 => h9) rfl hin rfl (tyX7_ok 3 (by decide)) rfl rfl (Nat.le_of_ble_eq_true rfl) dX7_init_42 (fun H locs hP hD hS => ?_)
  have hP : va_P D vwCl ((h0, .inr (7, [.ref q1, .ref q3, .ref q5, .ref q7, .int 0, .int 0])) :: (kX1 cA f2 ++ kX3 cA f4 ++ kX6 cA f6 ++ [(q7, .inl (cA 1, 24, .inl fun _ => 0))])) H := hP
  have hD : va_D A ((h0, .inr (7, [.ref q1, .ref q3, .ref q5, .ref q7, .int 0, .int 0])) :: (kX1 cA f2 ++ kX3 cA f4 ++ kX6 cA f6 ++ [(q7, .inl (cA 1, 24, .inl fun _ => 0))])) := hD
  refine W.widen (k := 15) (n := 250) (by decide) (by decide) ?_
  rw [← hff2] at hP hD
  rw [← hff4] at hP hD
  rw [← hff6] at hP hD
  exact hret 45 ls H _ (fun k => ([h0, f2 0, f2 1, f4 0, f4 1, f4 2, f4 3, f6 0, f6 1, f6 2, f6 3, f6 4, f6 5, f6 6, f6 7, q7] : List Nat).getD k 0) dX7_init_45 rfl hP hD hS
