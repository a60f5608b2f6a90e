/-! Constructors: the past, the simulation. -/
theorem dX2_init_0 : decode cX2_init 0 = .ok (.aload_n 0, 1) := by decide +kernel
theorem dX2_init_1 : decode cX2_init 1 = .ok (.invokespecial 3, 3) := by decide +kernel
theorem dX2_init_4 : decode cX2_init 4 = .ok (.aload_n 0, 1) := by decide +kernel
theorem dX2_init_5 : decode cX2_init 5 = .ok (.bipush 8, 2) := by decide +kernel
theorem dX2_init_7 : decode cX2_init 7 = .ok (.anewarray 9, 3) := by decide +kernel
theorem dX2_init_10 : decode cX2_init 10 = .ok (.putfield 11, 3) := by decide +kernel
theorem dX2_init_13 : decode cX2_init 13 = .ok (.iconst 0, 1) := by decide +kernel
theorem dX2_init_14 : decode cX2_init 14 = .ok (.istore_n 1, 1) := by decide +kernel
theorem dX2_init_15 : decode cX2_init 15 = .ok (.iload_n 1, 1) := by decide +kernel
theorem dX2_init_16 : decode cX2_init 16 = .ok (.bipush 8, 2) := by decide +kernel
theorem dX2_init_18 : decode cX2_init 18 = .ok (.if_icmp .ge 22, 3) := by decide +kernel
theorem dX2_init_21 : decode cX2_init 21 = .ok (.aload_n 0, 1) := by decide +kernel
theorem dX2_init_22 : decode cX2_init 22 = .ok (.getfield 11, 3) := by decide +kernel
theorem dX2_init_25 : decode cX2_init 25 = .ok (.iload_n 1, 1) := by decide +kernel
theorem dX2_init_26 : decode cX2_init 26 = .ok (.new 9, 3) := by decide +kernel
theorem dX2_init_29 : decode cX2_init 29 = .ok (.dup, 1) := by decide +kernel
theorem dX2_init_30 : decode cX2_init 30 = .ok (.invokespecial 17, 3) := by decide +kernel
theorem dX2_init_33 : decode cX2_init 33 = .ok (.aastore, 1) := by decide +kernel
theorem dX2_init_34 : decode cX2_init 34 = .ok (.iinc 1 1, 3) := by decide +kernel
theorem dX2_init_37 : decode cX2_init 37 = .ok (.goto (-22), 3) := by decide +kernel
theorem dX2_init_40 : decode cX2_init 40 = .ok (.return_, 1) := by decide +kernel
theorem dX4_init_0 : decode cX4_init 0 = .ok (.aload_n 0, 1) := by decide +kernel
theorem dX4_init_1 : decode cX4_init 1 = .ok (.invokespecial 3, 3) := by decide +kernel
theorem dX4_init_4 : decode cX4_init 4 = .ok (.aload_n 0, 1) := by decide +kernel
theorem dX4_init_5 : decode cX4_init 5 = .ok (.bipush 8, 2) := by decide +kernel
theorem dX4_init_7 : decode cX4_init 7 = .ok (.anewarray 9, 3) := by decide +kernel
theorem dX4_init_10 : decode cX4_init 10 = .ok (.putfield 11, 3) := by decide +kernel
theorem dX4_init_13 : decode cX4_init 13 = .ok (.iconst 0, 1) := by decide +kernel
theorem dX4_init_14 : decode cX4_init 14 = .ok (.istore_n 1, 1) := by decide +kernel
theorem dX4_init_15 : decode cX4_init 15 = .ok (.iload_n 1, 1) := by decide +kernel
theorem dX4_init_16 : decode cX4_init 16 = .ok (.bipush 8, 2) := by decide +kernel
theorem dX4_init_18 : decode cX4_init 18 = .ok (.if_icmp .ge 22, 3) := by decide +kernel
theorem dX4_init_21 : decode cX4_init 21 = .ok (.aload_n 0, 1) := by decide +kernel
theorem dX4_init_22 : decode cX4_init 22 = .ok (.getfield 11, 3) := by decide +kernel
theorem dX4_init_25 : decode cX4_init 25 = .ok (.iload_n 1, 1) := by decide +kernel
theorem dX4_init_26 : decode cX4_init 26 = .ok (.new 9, 3) := by decide +kernel
theorem dX4_init_29 : decode cX4_init 29 = .ok (.dup, 1) := by decide +kernel
theorem dX4_init_30 : decode cX4_init 30 = .ok (.invokespecial 17, 3) := by decide +kernel
theorem dX4_init_33 : decode cX4_init 33 = .ok (.aastore, 1) := by decide +kernel
theorem dX4_init_34 : decode cX4_init 34 = .ok (.iinc 1 1, 3) := by decide +kernel
theorem dX4_init_37 : decode cX4_init 37 = .ok (.goto (-22), 3) := by decide +kernel
theorem dX4_init_40 : decode cX4_init 40 = .ok (.return_, 1) := by decide +kernel
theorem kw_33 : Cond.initialized "FalseLightMarsh$World" ∈ zTs := z_in (i := 33) (by decide +kernel) (by decide +kernel)
theorem kw_40 : Cond.initialized "FalseLightMarsh$Distances" ∈ zTs := z_in (i := 40) (by decide +kernel) (by decide +kernel)
theorem kw_69 : Cond.instantiable "FalseLightMarsh$World" 6 ∈ zTs := z_in (i := 69) (by decide +kernel) (by decide +kernel)
theorem kw_71 : Cond.instanceMethod yX7_init ∈ zTs := z_in (i := 71) (by decide +kernel) (by decide +kernel)
theorem kw_72 : Cond.code yX7_init cX7_init 1 none ∈ zTs := z_in (i := 72) (by decide +kernel) (by decide +kernel)
theorem kw_225 : Cond.methodLink "FalseLightMarsh$History" 3 Lib.objectInit ∈ zTs := z_in (i := 225) (by decide +kernel) (by decide +kernel)
theorem kw_226 : Cond.classLink "FalseLightMarsh$History" 9 "FalseLightMarsh$World" ∈ zTs := z_in (i := 226) (by decide +kernel) (by decide +kernel)
theorem kw_228 : Cond.methodLink "FalseLightMarsh$History" 17 yX7_init ∈ zTs := z_in (i := 228) (by decide +kernel) (by decide +kernel)
theorem kw_232 : Cond.fieldLink "FalseLightMarsh$History" 11 "FalseLightMarsh$History" "past" "[LFalseLightMarsh$World;" ∈ zTs := z_in (i := 232) (by decide +kernel) (by decide +kernel)
theorem kw_276 : Cond.methodLink "FalseLightMarsh$Simulation" 3 Lib.objectInit ∈ zTs := z_in (i := 276) (by decide +kernel) (by decide +kernel)
theorem kw_277 : Cond.classLink "FalseLightMarsh$Simulation" 9 "FalseLightMarsh$Distances" ∈ zTs := z_in (i := 277) (by decide +kernel) (by decide +kernel)
theorem kw_279 : Cond.instantiable "FalseLightMarsh$Distances" 4 ∈ zTs := z_in (i := 279) (by decide +kernel) (by decide +kernel)
theorem kw_280 : Cond.methodLink "FalseLightMarsh$Simulation" 17 yX0_init ∈ zTs := z_in (i := 280) (by decide +kernel) (by decide +kernel)
theorem kw_281 : Cond.instanceMethod yX0_init ∈ zTs := z_in (i := 281) (by decide +kernel) (by decide +kernel)
theorem kw_282 : Cond.code yX0_init cX0_init 1 none ∈ zTs := z_in (i := 282) (by decide +kernel) (by decide +kernel)
theorem kw_299 : Cond.fieldLink "FalseLightMarsh$Simulation" 11 "FalseLightMarsh$Simulation" "ways" "[LFalseLightMarsh$Distances;" ∈ zTs := z_in (i := 299) (by decide +kernel) (by decide +kernel)
theorem k_up (L : List Nat) (v : Nat) (i : Int32) (h : i.toNatClampNeg = L.length) : va_up (fun j => L[j]?) i.toNatClampNeg (some v) = fun j => (L ++ [v])[j]? := by
  funext j
  unfold va_up
  rw [h]
  show (if j = L.length then some v else L[j]?) = (L ++ [v])[j]?
  by_cases hj : j = L.length
  · rw [if_pos hj, hj, List.getElem?_append_right (Nat.le_refl _), Nat.sub_self]
    rfl
  · rw [if_neg hj]
    by_cases h2 : j < L.length
    · rw [List.getElem?_append_left h2]
    · rw [List.getElem?_append_right (by omega), List.getElem?_eq_none (show L.length ≤ j by omega)]
      obtain ⟨k, hk⟩ : ∃ k, j - L.length = k + 1 := ⟨j - L.length - 1, by omega⟩
      rw [hk]
      rfl
def kX4 (cA : Nat → ClassId) (f : Nat → Nat) : va_W := (f 0, .inr (4, [.ref (f 1)])) :: ([(f 1, .inl (cA 6, 8, .inr (.inr (.inr (.inr fun j => ([f 2, f 5, f 8, f 11, f 14, f 17, f 20, f 23] : List Nat)[j]?)))))] ++ kX0 cA (fun k => f (k + 2)) ++ kX0 cA (fun k => f (k + 5)) ++ kX0 cA (fun k => f (k + 8)) ++ kX0 cA (fun k => f (k + 11)) ++ kX0 cA (fun k => f (k + 14)) ++ kX0 cA (fun k => f (k + 17)) ++ kX0 cA (fun k => f (k + 20)) ++ kX0 cA (fun k => f (k + 23)))
theorem k_X4 (l : Launch) (D : va_G) (cA : Nat → ClassId) : kCon l yX4_init cX4_init 2 { frames := 3, cells := 25, slots := 2344, locals := 60 } D cA 4 [.null] (kX4 cA) := by
  refine k_con (by decide) rfl (Nat.le_of_ble_eq_true rfl) dX4_init_0 dX4_init_1 kw_276 ⟨by decide, by decide⟩ ?_
  intro p e s m below meth c h0 ls A Q hx hb hml hown hts hin hK hP hD hS hA hl hret
  refine lv_aload_n hx hb dX4_init_4 rfl (lv_at hl 0 rfl) ?_
  refine lv_bipush (v := 8) hx hb dX4_init_5 (by decide) ?_
  refine va_newq (D := D) (C := RX0) hx hb hown (hts _ kw_277) hK.2.2 hK.1 hP hD hS hA (by decide) (N' := 8) rfl (by decide) (by decide) (by decide) dX4_init_7 (fun q1 cB H hK1 hP hD hS => ?_)
  have eB : cB = cA 6 := k_uniO (hK1.2 6 _ rfl).2 (hK.1.2 5 _ rfl).2
  subst eB
  have e0 : (fun _ => none : Nat → Option Nat) = fun j => ([] : List Nat)[j]? := by funext j; rfl
  rw [e0] at hP hD
  have hP : va_P D vwCl ((h0, .inr (4, [.null])) :: ([(q1, .inl (cA 6, 8, .inr (.inr (.inr (.inr fun j => ([] : List Nat)[j]?)))))])) H := hP
  have hD : va_D A ((h0, .inr (4, [.null])) :: ([(q1, .inl (cA 6, 8, .inr (.inr (.inr (.inr fun j => ([] : List Nat)[j]?)))))])) := hD
  refine va_putF (D := D) (ci := 4) (v := .ref q1) (ty := tyX4 0) (C := RX4) (T := TX4) (N := 1) hx hb hts inX4 tyX4 tyX4_ok nmX4 hown hK.1 hP hD hS 0 rfl rfl 0 (by decide) (hts _ kw_299) (fun _ h9 => h9) rfl hin rfl (tyX4_ok 0 (by decide)) rfl rfl (Nat.le_of_ble_eq_true rfl) dX4_init_10 (fun H locs hP hD hS => ?_)
  have hP : va_P D vwCl ((h0, .inr (4, [.ref q1])) :: ([(q1, .inl (cA 6, 8, .inr (.inr (.inr (.inr fun j => ([] : List Nat)[j]?)))))])) H := hP
  have hD : va_D A ((h0, .inr (4, [.ref q1])) :: ([(q1, .inl (cA 6, 8, .inr (.inr (.inr (.inr fun j => ([] : List Nat)[j]?)))))])) := hD
  refine lv_iconst (v := 0) hx hb dX4_init_13 (by decide) ?_
  refine lv_istore_n (lv' := [(1, .int 0), (0, .ref h0)]) hx hb dX4_init_14 rfl hl (by decide) rfl (fun ls hl => ?_)
  refine lv_iload_n hx hb dX4_init_15 rfl (lv_at hl 0 rfl) ?_
  refine lv_bipush (v := 8) hx hb dX4_init_16 (by decide) ?_
  refine lv_icmp_ge (tgt := 40) hx hb dX4_init_18 (by decide) (fun h => absurd h (by decide +kernel)) (fun _ => ?_)
  refine lv_aload_n hx hb dX4_init_21 rfl (lv_at hl 1 rfl) ?_
  refine va_get (D := D) (ci := 4) (v := .ref q1) (C := RX4) (T := TX4) (N := 1) hx hb hts inX4 hown hK.1 hP 0 rfl rfl 0 (by decide) (hts _ kw_299) (fun _ h9 => h9) rfl dX4_init_22 ?_
  refine lv_iload_n hx hb dX4_init_25 rfl (lv_at hl 0 rfl) ?_
  refine va_new (ci := 0) (fs := [.null, .int 0, .null, .int 0]) (C := RX0) (T := TX0) (N := 4) hx hb hts inX0 tyX0 tyX0_ok hown (hts _ kw_277) (hts _ kw_279) (hts _ kw_40) hK.1 hP hD hS hA rfl (fun j hj => by rcases (show j = 0 ∨ j = 1 ∨ j = 2 ∨ j = 3 by omega) with rfl | rfl | rfl | rfl <;> rfl) (by decide) (by decide) dX4_init_26 (fun r0 H hP hD hS => ?_)
  refine lv_dup hx hb dX4_init_29 rfl ?_
  refine k_call (wr := (h0, .inr (4, [.ref q1])) :: ([(q1, .inl (cA 6, 8, .inr (.inr (.inr (.inr fun j => ([] : List Nat)[j]?)))))])) hx hb hml hown hts (k_X0 l D cA) hK hP hD hS hA kw_280 kw_281 kw_40 kw_282 rfl ⟨by decide, by decide, by decide +kernel⟩ (by decide) (Nat.le_of_ble_eq_true rfl) hl.1 dX4_init_30 (by decide) (by decide) (fun f0 H locs hff0 hP hD hS => ?_)
  rw [← hff0]
  have hP : va_P D vwCl ((h0, .inr (4, [.ref q1])) :: ([(q1, .inl (cA 6, 8, .inr (.inr (.inr (.inr fun j => ([] : List Nat)[j]?)))))] ++ kX0 cA f0)) H := hP
  have hD : va_D A ((h0, .inr (4, [.ref q1])) :: ([(q1, .inl (cA 6, 8, .inr (.inr (.inr (.inr fun j => ([] : List Nat)[j]?)))))] ++ kX0 cA f0)) := hD
  refine va_astq (D := D) (r := (RX0, TX0, 4)) hx hb hK.1 hP hD hS 1 5 2 0 rfl rfl rfl rfl (by unfold vp_in; decide +kernel) dX4_init_33 (fun H locs hP hD hS => ?_)
  rw [k_up [] (f0 0) 0 (show (0 : Int32).toNatClampNeg = 0 by decide +kernel)] at hP hD
  have hP : va_P D vwCl ((h0, .inr (4, [.ref q1])) :: ([(q1, .inl (cA 6, 8, .inr (.inr (.inr (.inr fun j => ([f0 0] : List Nat)[j]?)))))] ++ kX0 cA f0)) H := hP
  have hD : va_D A ((h0, .inr (4, [.ref q1])) :: ([(q1, .inl (cA 6, 8, .inr (.inr (.inr (.inr fun j => ([f0 0] : List Nat)[j]?)))))] ++ kX0 cA f0)) := hD
  refine lv_iinc (x := 0) (v := 1) (lv' := [(1, .int 1), (0, .ref h0)]) hx hb dX4_init_34 hl (k := 0) rfl (by decide +kernel) (by decide) rfl (fun ls hl => ?_)
  refine lv_goto (tgt := 15) hx hb dX4_init_37 (by decide) ?_
  refine lv_iload_n hx hb dX4_init_15 rfl (lv_at hl 0 rfl) ?_
  refine lv_bipush (v := 8) hx hb dX4_init_16 (by decide) ?_
  refine lv_icmp_ge (tgt := 40) hx hb dX4_init_18 (by decide) (fun h => absurd h (by decide +kernel)) (fun _ => ?_)
  refine lv_aload_n hx hb dX4_init_21 rfl (lv_at hl 1 rfl) ?_
  refine va_get (D := D) (ci := 4) (v := .ref q1) (C := RX4) (T := TX4) (N := 1) hx hb hts inX4 hown hK.1 hP 0 rfl rfl 0 (by decide) (hts _ kw_299) (fun _ h9 => h9) rfl dX4_init_22 ?_
  refine lv_iload_n hx hb dX4_init_25 rfl (lv_at hl 0 rfl) ?_
  refine va_new (ci := 0) (fs := [.null, .int 0, .null, .int 0]) (C := RX0) (T := TX0) (N := 4) hx hb hts inX0 tyX0 tyX0_ok hown (hts _ kw_277) (hts _ kw_279) (hts _ kw_40) hK.1 hP hD hS hA rfl (fun j hj => by rcases (show j = 0 ∨ j = 1 ∨ j = 2 ∨ j = 3 by omega) with rfl | rfl | rfl | rfl <;> rfl) (by decide) (by decide) dX4_init_26 (fun r1 H hP hD hS => ?_)
  refine lv_dup hx hb dX4_init_29 rfl ?_
  refine k_call (wr := (h0, .inr (4, [.ref q1])) :: ([(q1, .inl (cA 6, 8, .inr (.inr (.inr (.inr fun j => ([f0 0] : List Nat)[j]?)))))] ++ kX0 cA f0)) hx hb hml hown hts (k_X0 l D cA) hK hP hD hS hA kw_280 kw_281 kw_40 kw_282 rfl ⟨by decide, by decide, by decide +kernel⟩ (by decide) (Nat.le_of_ble_eq_true rfl) hl.1 dX4_init_30 (by decide) (by decide) (fun f1 H locs hff1 hP hD hS => ?_)
  rw [← hff1]
  have hP : va_P D vwCl ((h0, .inr (4, [.ref q1])) :: ([(q1, .inl (cA 6, 8, .inr (.inr (.inr (.inr fun j => ([f0 0] : List Nat)[j]?)))))] ++ kX0 cA f0 ++ kX0 cA f1)) H := hP
  have hD : va_D A ((h0, .inr (4, [.ref q1])) :: ([(q1, .inl (cA 6, 8, .inr (.inr (.inr (.inr fun j => ([f0 0] : List Nat)[j]?)))))] ++ kX0 cA f0 ++ kX0 cA f1)) := hD
  refine va_astq (D := D) (r := (RX0, TX0, 4)) hx hb hK.1 hP hD hS 1 5 5 0 rfl rfl rfl rfl (by unfold vp_in; decide +kernel) dX4_init_33 (fun H locs hP hD hS => ?_)
  rw [k_up [f0 0] (f1 0) 1 (show (1 : Int32).toNatClampNeg = 1 by decide +kernel)] at hP hD
  have hP : va_P D vwCl ((h0, .inr (4, [.ref q1])) :: ([(q1, .inl (cA 6, 8, .inr (.inr (.inr (.inr fun j => ([f0 0, f1 0] : List Nat)[j]?)))))] ++ kX0 cA f0 ++ kX0 cA f1)) H := hP
  have hD : va_D A ((h0, .inr (4, [.ref q1])) :: ([(q1, .inl (cA 6, 8, .inr (.inr (.inr (.inr fun j => ([f0 0, f1 0] : List Nat)[j]?)))))] ++ kX0 cA f0 ++ kX0 cA f1)) := hD
  refine lv_iinc (x := 1) (v := 2) (lv' := [(1, .int 2), (0, .ref h0)]) hx hb dX4_init_34 hl (k := 0) rfl (by decide +kernel) (by decide) rfl (fun ls hl => ?_)
  refine lv_goto (tgt := 15) hx hb dX4_init_37 (by decide) ?_
  refine lv_iload_n hx hb dX4_init_15 rfl (lv_at hl 0 rfl) ?_
  refine lv_bipush (v := 8) hx hb dX4_init_16 (by decide) ?_
  refine lv_icmp_ge (tgt := 40) hx hb dX4_init_18 (by decide) (fun h => absurd h (by decide +kernel)) (fun _ => ?_)
  refine lv_aload_n hx hb dX4_init_21 rfl (lv_at hl 1 rfl) ?_
  refine va_get (D := D) (ci := 4) (v := .ref q1) (C := RX4) (T := TX4) (N := 1) hx hb hts inX4 hown hK.1 hP 0 rfl rfl 0 (by decide) (hts _ kw_299) (fun _ h9 => h9) rfl dX4_init_22 ?_
  refine lv_iload_n hx hb dX4_init_25 rfl (lv_at hl 0 rfl) ?_
  refine va_new (ci := 0) (fs := [.null, .int 0, .null, .int 0]) (C := RX0) (T := TX0) (N := 4) hx hb hts inX0 tyX0 tyX0_ok hown (hts _ kw_277) (hts _ kw_279) (hts _ kw_40) hK.1 hP hD hS hA rfl (fun j hj => by rcases (show j = 0 ∨ j = 1 ∨ j = 2 ∨ j = 3 by omega) with rfl | rfl | rfl | rfl <;> rfl) (by decide) (by decide) dX4_init_26 (fun r2 H hP hD hS => ?_)
  refine lv_dup hx hb dX4_init_29 rfl ?_
  refine k_call (wr := (h0, .inr (4, [.ref q1])) :: ([(q1, .inl (cA 6, 8, .inr (.inr (.inr (.inr fun j => ([f0 0, f1 0] : List Nat)[j]?)))))] ++ kX0 cA f0 ++ kX0 cA f1)) hx hb hml hown hts (k_X0 l D cA) hK hP hD hS hA kw_280 kw_281 kw_40 kw_282 rfl ⟨by decide, by decide, by decide +kernel⟩ (by decide) (Nat.le_of_ble_eq_true rfl) hl.1 dX4_init_30 (by decide) (by decide) (fun f2 H locs hff2 hP hD hS => ?_)
  rw [← hff2]
  have hP : va_P D vwCl ((h0, .inr (4, [.ref q1])) :: ([(q1, .inl (cA 6, 8, .inr (.inr (.inr (.inr fun j => ([f0 0, f1 0] : List Nat)[j]?)))))] ++ kX0 cA f0 ++ kX0 cA f1 ++ kX0 cA f2)) H := hP
  have hD : va_D A ((h0, .inr (4, [.ref q1])) :: ([(q1, .inl (cA 6, 8, .inr (.inr (.inr (.inr fun j => ([f0 0, f1 0] : List Nat)[j]?)))))] ++ kX0 cA f0 ++ kX0 cA f1 ++ kX0 cA f2)) := hD
  refine va_astq (D := D) (r := (RX0, TX0, 4)) hx hb hK.1 hP hD hS 1 5 8 0 rfl rfl rfl rfl (by unfold vp_in; decide +kernel) dX4_init_33 (fun H locs hP hD hS => ?_)
  rw [k_up [f0 0, f1 0] (f2 0) 2 (show (2 : Int32).toNatClampNeg = 2 by decide +kernel)] at hP hD
  have hP : va_P D vwCl ((h0, .inr (4, [.ref q1])) :: ([(q1, .inl (cA 6, 8, .inr (.inr (.inr (.inr fun j => ([f0 0, f1 0, f2 0] : List Nat)[j]?)))))] ++ kX0 cA f0 ++ kX0 cA f1 ++ kX0 cA f2)) H := hP
  have hD : va_D A ((h0, .inr (4, [.ref q1])) :: ([(q1, .inl (cA 6, 8, .inr (.inr (.inr (.inr fun j => ([f0 0, f1 0, f2 0] : List Nat)[j]?)))))] ++ kX0 cA f0 ++ kX0 cA f1 ++ kX0 cA f2)) := hD
  refine lv_iinc (x := 2) (v := 3) (lv' := [(1, .int 3), (0, .ref h0)]) hx hb dX4_init_34 hl (k := 0) rfl (by decide +kernel) (by decide) rfl (fun ls hl => ?_)
  refine lv_goto (tgt := 15) hx hb dX4_init_37 (by decide) ?_
  refine lv_iload_n hx hb dX4_init_15 rfl (lv_at hl 0 rfl) ?_
  refine lv_bipush (v := 8) hx hb dX4_init_16 (by decide) ?_
  refine lv_icmp_ge (tgt := 40) hx hb dX4_init_18 (by decide) (fun h => absurd h (by decide +kernel)) (fun _ => ?_)
  refine lv_aload_n hx hb dX4_init_21 rfl (lv_at hl 1 rfl) ?_
  refine va_get (D := D) (ci := 4) (v := .ref q1) (C := RX4) (T := TX4) (N := 1) hx hb hts inX4 hown hK.1 hP 0 rfl rfl 0 (by decide) (hts _ kw_299) (fun _ h9 => h9) rfl dX4_init_22 ?_
  refine lv_iload_n hx hb dX4_init_25 rfl (lv_at hl 0 rfl) ?_
  refine va_new (ci := 0) (fs := [.null, .int 0, .null, .int 0]) (C := RX0) (T := TX0) (N := 4) hx hb hts inX0 tyX0 tyX0_ok hown (hts _ kw_277) (hts _ kw_279) (hts _ kw_40) hK.1 hP hD hS hA rfl (fun j hj => by rcases (show j = 0 ∨ j = 1 ∨ j = 2 ∨ j = 3 by omega) with rfl | rfl | rfl | rfl <;> rfl) (by decide) (by decide) dX4_init_26 (fun r3 H hP hD hS => ?_)
  refine lv_dup hx hb dX4_init_29 rfl ?_
  refine k_call (wr := (h0, .inr (4, [.ref q1])) :: ([(q1, .inl (cA 6, 8, .inr (.inr (.inr (.inr fun j => ([f0 0, f1 0, f2 0] : List Nat)[j]?)))))] ++ kX0 cA f0 ++ kX0 cA f1 ++ kX0 cA f2)) hx hb hml hown hts (k_X0 l D cA) hK hP hD hS hA kw_280 kw_281 kw_40 kw_282 rfl ⟨by decide, by decide, by decide +kernel⟩ (by decide) (Nat.le_of_ble_eq_true rfl) hl.1 dX4_init_30 (by decide) (by decide) (fun f3 H locs hff3 hP hD hS => ?_)
  rw [← hff3]
  have hP : va_P D vwCl ((h0, .inr (4, [.ref q1])) :: ([(q1, .inl (cA 6, 8, .inr (.inr (.inr (.inr fun j => ([f0 0, f1 0, f2 0] : List Nat)[j]?)))))] ++ kX0 cA f0 ++ kX0 cA f1 ++ kX0 cA f2 ++ kX0 cA f3)) H := hP
  have hD : va_D A ((h0, .inr (4, [.ref q1])) :: ([(q1, .inl (cA 6, 8, .inr (.inr (.inr (.inr fun j => ([f0 0, f1 0, f2 0] : List Nat)[j]?)))))] ++ kX0 cA f0 ++ kX0 cA f1 ++ kX0 cA f2 ++ kX0 cA f3)) := hD
  refine va_astq (D := D) (r := (RX0, TX0, 4)) hx hb hK.1 hP hD hS 1 5 11 0 rfl rfl rfl rfl (by unfold vp_in; decide +kernel) dX4_init_33 (fun H locs hP hD hS => ?_)
  rw [k_up [f0 0, f1 0, f2 0] (f3 0) 3 (show (3 : Int32).toNatClampNeg = 3 by decide +kernel)] at hP hD
  have hP : va_P D vwCl ((h0, .inr (4, [.ref q1])) :: ([(q1, .inl (cA 6, 8, .inr (.inr (.inr (.inr fun j => ([f0 0, f1 0, f2 0, f3 0] : List Nat)[j]?)))))] ++ kX0 cA f0 ++ kX0 cA f1 ++ kX0 cA f2 ++ kX0 cA f3)) H := hP
  have hD : va_D A ((h0, .inr (4, [.ref q1])) :: ([(q1, .inl (cA 6, 8, .inr (.inr (.inr (.inr fun j => ([f0 0, f1 0, f2 0, f3 0] : List Nat)[j]?)))))] ++ kX0 cA f0 ++ kX0 cA f1 ++ kX0 cA f2 ++ kX0 cA f3)) := hD
  refine lv_iinc (x := 3) (v := 4) (lv' := [(1, .int 4), (0, .ref h0)]) hx hb dX4_init_34 hl (k := 0) rfl (by decide +kernel) (by decide) rfl (fun ls hl => ?_)
  refine lv_goto (tgt := 15) hx hb dX4_init_37 (by decide) ?_
  refine lv_iload_n hx hb dX4_init_15 rfl (lv_at hl 0 rfl) ?_
  refine lv_bipush (v := 8) hx hb dX4_init_16 (by decide) ?_
  refine lv_icmp_ge (tgt := 40) hx hb dX4_init_18 (by decide) (fun h => absurd h (by decide +kernel)) (fun _ => ?_)
  refine lv_aload_n hx hb dX4_init_21 rfl (lv_at hl 1 rfl) ?_
  refine va_get (D := D) (ci := 4) (v := .ref q1) (C := RX4) (T := TX4) (N := 1) hx hb hts inX4 hown hK.1 hP 0 rfl rfl 0 (by decide) (hts _ kw_299) (fun _ h9 => h9) rfl dX4_init_22 ?_
  refine lv_iload_n hx hb dX4_init_25 rfl (lv_at hl 0 rfl) ?_
  refine va_new (ci := 0) (fs := [.null, .int 0, .null, .int 0]) (C := RX0) (T := TX0) (N := 4) hx hb hts inX0 tyX0 tyX0_ok hown (hts _ kw_277) (hts _ kw_279) (hts _ kw_40) hK.1 hP hD hS hA rfl (fun j hj => by rcases (show j = 0 ∨ j = 1 ∨ j = 2 ∨ j = 3 by omega) with rfl | rfl | rfl | rfl <;> rfl) (by decide) (by decide) dX4_init_26 (fun r4 H hP hD hS => ?_)
  refine lv_dup hx hb dX4_init_29 rfl ?_
  refine k_call (wr := (h0, .inr (4, [.ref q1])) :: ([(q1, .inl (cA 6, 8, .inr (.inr (.inr (.inr fun j => ([f0 0, f1 0, f2 0, f3 0] : List Nat)[j]?)))))] ++ kX0 cA f0 ++ kX0 cA f1 ++ kX0 cA f2 ++ kX0 cA f3)) hx hb hml hown hts (k_X0 l D cA) hK hP hD hS hA kw_280 kw_281 kw_40 kw_282 rfl ⟨by decide, by decide, by decide +kernel⟩ (by decide) (Nat.le_of_ble_eq_true rfl) hl.1 dX4_init_30 (by decide) (by decide) (fun f4 H locs hff4 hP hD hS => ?_)
  rw [← hff4]
  have hP : va_P D vwCl ((h0, .inr (4, [.ref q1])) :: ([(q1, .inl (cA 6, 8, .inr (.inr (.inr (.inr fun j => ([f0 0, f1 0, f2 0, f3 0] : List Nat)[j]?)))))] ++ kX0 cA f0 ++ kX0 cA f1 ++ kX0 cA f2 ++ kX0 cA f3 ++ kX0 cA f4)) H := hP
  have hD : va_D A ((h0, .inr (4, [.ref q1])) :: ([(q1, .inl (cA 6, 8, .inr (.inr (.inr (.inr fun j => ([f0 0, f1 0, f2 0, f3 0] : List Nat)[j]?)))))] ++ kX0 cA f0 ++ kX0 cA f1 ++ kX0 cA f2 ++ kX0 cA f3 ++ kX0 cA f4)) := hD
  refine va_astq (D := D) (r := (RX0, TX0, 4)) hx hb hK.1 hP hD hS 1 5 14 0 rfl rfl rfl rfl (by unfold vp_in; decide +kernel) dX4_init_33 (fun H locs hP hD hS => ?_)
  rw [k_up [f0 0, f1 0, f2 0, f3 0] (f4 0) 4 (show (4 : Int32).toNatClampNeg = 4 by decide +kernel)] at hP hD
  have hP : va_P D vwCl ((h0, .inr (4, [.ref q1])) :: ([(q1, .inl (cA 6, 8, .inr (.inr (.inr (.inr fun j => ([f0 0, f1 0, f2 0, f3 0, f4 0] : List Nat)[j]?)))))] ++ kX0 cA f0 ++ kX0 cA f1 ++ kX0 cA f2 ++ kX0 cA f3 ++ kX0 cA f4)) H := hP
  have hD : va_D A ((h0, .inr (4, [.ref q1])) :: ([(q1, .inl (cA 6, 8, .inr (.inr (.inr (.inr fun j => ([f0 0, f1 0, f2 0, f3 0, f4 0] : List Nat)[j]?)))))] ++ kX0 cA f0 ++ kX0 cA f1 ++ kX0 cA f2 ++ kX0 cA f3 ++ kX0 cA f4)) := hD
  refine lv_iinc (x := 4) (v := 5) (lv' := [(1, .int 5), (0, .ref h0)]) hx hb dX4_init_34 hl (k := 0) rfl (by decide +kernel) (by decide) rfl (fun ls hl => ?_)
  refine lv_goto (tgt := 15) hx hb dX4_init_37 (by decide) ?_
  refine lv_iload_n hx hb dX4_init_15 rfl (lv_at hl 0 rfl) ?_
  refine lv_bipush (v := 8) hx hb dX4_init_16 (by decide) ?_
  refine lv_icmp_ge (tgt := 40) hx hb dX4_init_18 (by decide) (fun h => absurd h (by decide +kernel)) (fun _ => ?_)
  refine lv_aload_n hx hb dX4_init_21 rfl (lv_at hl 1 rfl) ?_
  refine va_get (D := D) (ci := 4) (v := .ref q1) (C := RX4) (T := TX4) (N := 1) hx hb hts inX4 hown hK.1 hP 0 rfl rfl 0 (by decide) (hts _ kw_299) (fun _ h9 => h9) rfl dX4_init_22 ?_
  refine lv_iload_n hx hb dX4_init_25 rfl (lv_at hl 0 rfl) ?_
  refine va_new (ci := 0) (fs := [.null, .int 0, .null, .int 0]) (C := RX0) (T := TX0) (N := 4) hx hb hts inX0 tyX0 tyX0_ok hown (hts _ kw_277) (hts _ kw_279) (hts _ kw_40) hK.1 hP hD hS hA rfl (fun j hj => by rcases (show j = 0 ∨ j = 1 ∨ j = 2 ∨ j = 3 by omega) with rfl | rfl | rfl | rfl <;> rfl) (by decide) (by decide) dX4_init_26 (fun r5 H hP hD hS => ?_)
  refine lv_dup hx hb dX4_init_29 rfl ?_
  refine k_call (wr := (h0, .inr (4, [.ref q1])) :: ([(q1, .inl (cA 6, 8, .inr (.inr (.inr (.inr fun j => ([f0 0, f1 0, f2 0, f3 0, f4 0] : List Nat)[j]?)))))] ++ kX0 cA f0 ++ kX0 cA f1 ++ kX0 cA f2 ++ kX0 cA f3 ++ kX0 cA f4)) hx hb hml hown hts (k_X0 l D cA) hK hP hD hS hA kw_280 kw_281 kw_40 kw_282 rfl ⟨by decide, by decide, by decide +kernel⟩ (by decide) (Nat.le_of_ble_eq_true rfl) hl.1 dX4_init_30 (by decide) (by decide) (fun f5 H locs hff5 hP hD hS => ?_)
  rw [← hff5]
  have hP : va_P D vwCl ((h0, .inr (4, [.ref q1])) :: ([(q1, .inl (cA 6, 8, .inr (.inr (.inr (.inr fun j => ([f0 0, f1 0, f2 0, f3 0, f4 0] : List Nat)[j]?)))))] ++ kX0 cA f0 ++ kX0 cA f1 ++ kX0 cA f2 ++ kX0 cA f3 ++ kX0 cA f4 ++ kX0 cA f5)) H := hP
  have hD : va_D A ((h0, .inr (4, [.ref q1])) :: ([(q1, .inl (cA 6, 8, .inr (.inr (.inr (.inr fun j => ([f0 0, f1 0, f2 0, f3 0, f4 0] : List Nat)[j]?)))))] ++ kX0 cA f0 ++ kX0 cA f1 ++ kX0 cA f2 ++ kX0 cA f3 ++ kX0 cA f4 ++ kX0 cA f5)) := hD
  refine va_astq (D := D) (r := (RX0, TX0, 4)) hx hb hK.1 hP hD hS 1 5 17 0 rfl rfl rfl rfl (by unfold vp_in; decide +kernel) dX4_init_33 (fun H locs hP hD hS => ?_)
  rw [k_up [f0 0, f1 0, f2 0, f3 0, f4 0] (f5 0) 5 (show (5 : Int32).toNatClampNeg = 5 by decide +kernel)] at hP hD
  have hP : va_P D vwCl ((h0, .inr (4, [.ref q1])) :: ([(q1, .inl (cA 6, 8, .inr (.inr (.inr (.inr fun j => ([f0 0, f1 0, f2 0, f3 0, f4 0, f5 0] : List Nat)[j]?)))))] ++ kX0 cA f0 ++ kX0 cA f1 ++ kX0 cA f2 ++ kX0 cA f3 ++ kX0 cA f4 ++ kX0 cA f5)) H := hP
  have hD : va_D A ((h0, .inr (4, [.ref q1])) :: ([(q1, .inl (cA 6, 8, .inr (.inr (.inr (.inr fun j => ([f0 0, f1 0, f2 0, f3 0, f4 0, f5 0] : List Nat)[j]?)))))] ++ kX0 cA f0 ++ kX0 cA f1 ++ kX0 cA f2 ++ kX0 cA f3 ++ kX0 cA f4 ++ kX0 cA f5)) := hD
  refine lv_iinc (x := 5) (v := 6) (lv' := [(1, .int 6), (0, .ref h0)]) hx hb dX4_init_34 hl (k := 0) rfl (by decide +kernel) (by decide) rfl (fun ls hl => ?_)
  refine lv_goto (tgt := 15) hx hb dX4_init_37 (by decide) ?_
  refine lv_iload_n hx hb dX4_init_15 rfl (lv_at hl 0 rfl) ?_
  refine lv_bipush (v := 8) hx hb dX4_init_16 (by decide) ?_
  refine lv_icmp_ge (tgt := 40) hx hb dX4_init_18 (by decide) (fun h => absurd h (by decide +kernel)) (fun _ => ?_)
  refine lv_aload_n hx hb dX4_init_21 rfl (lv_at hl 1 rfl) ?_
  refine va_get (D := D) (ci := 4) (v := .ref q1) (C := RX4) (T := TX4) (N := 1) hx hb hts inX4 hown hK.1 hP 0 rfl rfl 0 (by decide) (hts _ kw_299) (fun _ h9 => h9) rfl dX4_init_22 ?_
  refine lv_iload_n hx hb dX4_init_25 rfl (lv_at hl 0 rfl) ?_
  refine va_new (ci := 0) (fs := [.null, .int 0, .null, .int 0]) (C := RX0) (T := TX0) (N := 4) hx hb hts inX0 tyX0 tyX0_ok hown (hts _ kw_277) (hts _ kw_279) (hts _ kw_40) hK.1 hP hD hS hA rfl (fun j hj => by rcases (show j = 0 ∨ j = 1 ∨ j = 2 ∨ j = 3 by omega) with rfl | rfl | rfl | rfl <;> rfl) (by decide) (by decide) dX4_init_26 (fun r6 H hP hD hS => ?_)
  refine lv_dup hx hb dX4_init_29 rfl ?_
  refine k_call (wr := (h0, .inr (4, [.ref q1])) :: ([(q1, .inl (cA 6, 8, .inr (.inr (.inr (.inr fun j => ([f0 0, f1 0, f2 0, f3 0, f4 0, f5 0] : List Nat)[j]?)))))] ++ kX0 cA f0 ++ kX0 cA f1 ++ kX0 cA f2 ++ kX0 cA f3 ++ kX0 cA f4 ++ kX0 cA f5)) hx hb hml hown hts (k_X0 l D cA) hK hP hD hS hA kw_280 kw_281 kw_40 kw_282 rfl ⟨by decide, by decide, by decide +kernel⟩ (by decide) (Nat.le_of_ble_eq_true rfl) hl.1 dX4_init_30 (by decide) (by decide) (fun f6 H locs hff6 hP hD hS => ?_)
  rw [← hff6]
  have hP : va_P D vwCl ((h0, .inr (4, [.ref q1])) :: ([(q1, .inl (cA 6, 8, .inr (.inr (.inr (.inr fun j => ([f0 0, f1 0, f2 0, f3 0, f4 0, f5 0] : List Nat)[j]?)))))] ++ kX0 cA f0 ++ kX0 cA f1 ++ kX0 cA f2 ++ kX0 cA f3 ++ kX0 cA f4 ++ kX0 cA f5 ++ kX0 cA f6)) H := hP
  have hD : va_D A ((h0, .inr (4, [.ref q1])) :: ([(q1, .inl (cA 6, 8, .inr (.inr (.inr (.inr fun j => ([f0 0, f1 0, f2 0, f3 0, f4 0, f5 0] : List Nat)[j]?)))))] ++ kX0 cA f0 ++ kX0 cA f1 ++ kX0 cA f2 ++ kX0 cA f3 ++ kX0 cA f4 ++ kX0 cA f5 ++ kX0 cA f6)) := hD
  refine va_astq (D := D) (r := (RX0, TX0, 4)) hx hb hK.1 hP hD hS 1 5 20 0 rfl rfl rfl rfl (by unfold vp_in; decide +kernel) dX4_init_33 (fun H locs hP hD hS => ?_)
  rw [k_up [f0 0, f1 0, f2 0, f3 0, f4 0, f5 0] (f6 0) 6 (show (6 : Int32).toNatClampNeg = 6 by decide +kernel)] at hP hD
  have hP : va_P D vwCl ((h0, .inr (4, [.ref q1])) :: ([(q1, .inl (cA 6, 8, .inr (.inr (.inr (.inr fun j => ([f0 0, f1 0, f2 0, f3 0, f4 0, f5 0, f6 0] : List Nat)[j]?)))))] ++ kX0 cA f0 ++ kX0 cA f1 ++ kX0 cA f2 ++ kX0 cA f3 ++ kX0 cA f4 ++ kX0 cA f5 ++ kX0 cA f6)) H := hP
  have hD : va_D A ((h0, .inr (4, [.ref q1])) :: ([(q1, .inl (cA 6, 8, .inr (.inr (.inr (.inr fun j => ([f0 0, f1 0, f2 0, f3 0, f4 0, f5 0, f6 0] : List Nat)[j]?)))))] ++ kX0 cA f0 ++ kX0 cA f1 ++ kX0 cA f2 ++ kX0 cA f3 ++ kX0 cA f4 ++ kX0 cA f5 ++ kX0 cA f6)) := hD
  refine lv_iinc (x := 6) (v := 7) (lv' := [(1, .int 7), (0, .ref h0)]) hx hb dX4_init_34 hl (k := 0) rfl (by decide +kernel) (by decide) rfl (fun ls hl => ?_)
  refine lv_goto (tgt := 15) hx hb dX4_init_37 (by decide) ?_
  refine lv_iload_n hx hb dX4_init_15 rfl (lv_at hl 0 rfl) ?_
  refine lv_bipush (v := 8) hx hb dX4_init_16 (by decide) ?_
  refine lv_icmp_ge (tgt := 40) hx hb dX4_init_18 (by decide) (fun h => absurd h (by decide +kernel)) (fun _ => ?_)
  refine lv_aload_n hx hb dX4_init_21 rfl (lv_at hl 1 rfl) ?_
  refine va_get (D := D) (ci := 4) (v := .ref q1) (C := RX4) (T := TX4) (N := 1) hx hb hts inX4 hown hK.1 hP 0 rfl rfl 0 (by decide) (hts _ kw_299) (fun _ h9 => h9) rfl dX4_init_22 ?_
  refine lv_iload_n hx hb dX4_init_25 rfl (lv_at hl 0 rfl) ?_
  refine va_new (ci := 0) (fs := [.null, .int 0, .null, .int 0]) (C := RX0) (T := TX0) (N := 4) hx hb hts inX0 tyX0 tyX0_ok hown (hts _ kw_277) (hts _ kw_279) (hts _ kw_40) hK.1 hP hD hS hA rfl (fun j hj => by rcases (show j = 0 ∨ j = 1 ∨ j = 2 ∨ j = 3 by omega) with rfl | rfl | rfl | rfl <;> rfl) (by decide) (by decide) dX4_init_26 (fun r7 H hP hD hS => ?_)
  refine lv_dup hx hb dX4_init_29 rfl ?_
  refine k_call (wr := (h0, .inr (4, [.ref q1])) :: ([(q1, .inl (cA 6, 8, .inr (.inr (.inr (.inr fun j => ([f0 0, f1 0, f2 0, f3 0, f4 0, f5 0, f6 0] : List Nat)[j]?)))))] ++ kX0 cA f0 ++ kX0 cA f1 ++ kX0 cA f2 ++ kX0 cA f3 ++ kX0 cA f4 ++ kX0 cA f5 ++ kX0 cA f6)) hx hb hml hown hts (k_X0 l D cA) hK hP hD hS hA kw_280 kw_281 kw_40 kw_282 rfl ⟨by decide, by decide, by decide +kernel⟩ (by decide) (Nat.le_of_ble_eq_true rfl) hl.1 dX4_init_30 (by decide) (by decide) (fun f7 H locs hff7 hP hD hS => ?_)
  rw [← hff7]
  have hP : va_P D vwCl ((h0, .inr (4, [.ref q1])) :: ([(q1, .inl (cA 6, 8, .inr (.inr (.inr (.inr fun j => ([f0 0, f1 0, f2 0, f3 0, f4 0, f5 0, f6 0] : List Nat)[j]?)))))] ++ kX0 cA f0 ++ kX0 cA f1 ++ kX0 cA f2 ++ kX0 cA f3 ++ kX0 cA f4 ++ kX0 cA f5 ++ kX0 cA f6 ++ kX0 cA f7)) H := hP
  have hD : va_D A ((h0, .inr (4, [.ref q1])) :: ([(q1, .inl (cA 6, 8, .inr (.inr (.inr (.inr fun j => ([f0 0, f1 0, f2 0, f3 0, f4 0, f5 0, f6 0] : List Nat)[j]?)))))] ++ kX0 cA f0 ++ kX0 cA f1 ++ kX0 cA f2 ++ kX0 cA f3 ++ kX0 cA f4 ++ kX0 cA f5 ++ kX0 cA f6 ++ kX0 cA f7)) := hD
  refine va_astq (D := D) (r := (RX0, TX0, 4)) hx hb hK.1 hP hD hS 1 5 23 0 rfl rfl rfl rfl (by unfold vp_in; decide +kernel) dX4_init_33 (fun H locs hP hD hS => ?_)
  rw [k_up [f0 0, f1 0, f2 0, f3 0, f4 0, f5 0, f6 0] (f7 0) 7 (show (7 : Int32).toNatClampNeg = 7 by decide +kernel)] at hP hD
  have hP : va_P D vwCl ((h0, .inr (4, [.ref q1])) :: ([(q1, .inl (cA 6, 8, .inr (.inr (.inr (.inr fun j => ([f0 0, f1 0, f2 0, f3 0, f4 0, f5 0, f6 0, f7 0] : List Nat)[j]?)))))] ++ kX0 cA f0 ++ kX0 cA f1 ++ kX0 cA f2 ++ kX0 cA f3 ++ kX0 cA f4 ++ kX0 cA f5 ++ kX0 cA f6 ++ kX0 cA f7)) H := hP
  have hD : va_D A ((h0, .inr (4, [.ref q1])) :: ([(q1, .inl (cA 6, 8, .inr (.inr (.inr (.inr fun j => ([f0 0, f1 0, f2 0, f3 0, f4 0, f5 0, f6 0, f7 0] : List Nat)[j]?)))))] ++ kX0 cA f0 ++ kX0 cA f1 ++ kX0 cA f2 ++ kX0 cA f3 ++ kX0 cA f4 ++ kX0 cA f5 ++ kX0 cA f6 ++ kX0 cA f7)) := hD
  refine lv_iinc (x := 7) (v := 8) (lv' := [(1, .int 8), (0, .ref h0)]) hx hb dX4_init_34 hl (k := 0) rfl (by decide +kernel) (by decide) rfl (fun ls hl => ?_)
  refine lv_goto (tgt := 15) hx hb dX4_init_37 (by decide) ?_
  refine lv_iload_n hx hb dX4_init_15 rfl (lv_at hl 0 rfl) ?_
  refine lv_bipush (v := 8) hx hb dX4_init_16 (by decide) ?_
  refine lv_icmp_ge (tgt := 40) hx hb dX4_init_18 (by decide) (fun _ => ?_) (fun h => absurd (by decide +kernel) h)
  refine W.widen (k := 25) (n := 2344) (by decide) (by decide) ?_
  exact hret 40 ls H _ (fun k => ([h0, q1, f0 0, f0 1, f0 2, f1 0, f1 1, f1 2, f2 0, f2 1, f2 2, f3 0, f3 1, f3 2, f4 0, f4 1, f4 2, f5 0, f5 1, f5 2, f6 0, f6 1, f6 2, f7 0, f7 1, f7 2] : List Nat).getD k 0) dX4_init_40 rfl hP hD hS
def kX2 (cA : Nat → ClassId) (f : Nat → Nat) : va_W := (f 0, .inr (2, [.int 0, .int 0, .ref (f 1)])) :: ([(f 1, .inl (cA 5, 8, .inr (.inr (.inr (.inr fun j => ([f 2, f 18, f 34, f 50, f 66, f 82, f 98, f 114] : List Nat)[j]?)))))] ++ kX7 cA (fun k => f (k + 2)) ++ kX7 cA (fun k => f (k + 18)) ++ kX7 cA (fun k => f (k + 34)) ++ kX7 cA (fun k => f (k + 50)) ++ kX7 cA (fun k => f (k + 66)) ++ kX7 cA (fun k => f (k + 82)) ++ kX7 cA (fun k => f (k + 98)) ++ kX7 cA (fun k => f (k + 114)))
theorem k_X2 (l : Launch) (D : va_G) (cA : Nat → ClassId) : kCon l yX2_init cX2_init 2 { frames := 3, cells := 129, slots := 2056, locals := 60 } D cA 2 [.int 0, .int 0, .null] (kX2 cA) := by
  refine k_con (by decide) rfl (Nat.le_of_ble_eq_true rfl) dX2_init_0 dX2_init_1 kw_225 ⟨by decide, by decide⟩ ?_
  intro p e s m below meth c h0 ls A Q hx hb hml hown hts hin hK hP hD hS hA hl hret
  refine lv_aload_n hx hb dX2_init_4 rfl (lv_at hl 0 rfl) ?_
  refine lv_bipush (v := 8) hx hb dX2_init_5 (by decide) ?_
  refine va_newq (D := D) (C := RX7) hx hb hown (hts _ kw_226) hK.2.1 hK.1 hP hD hS hA (by decide) (N' := 8) rfl (by decide) (by decide) (by decide) dX2_init_7 (fun q1 cB H hK1 hP hD hS => ?_)
  have eB : cB = cA 5 := k_uniO (hK1.2 6 _ rfl).2 (hK.1.2 4 _ rfl).2
  subst eB
  have e0 : (fun _ => none : Nat → Option Nat) = fun j => ([] : List Nat)[j]? := by funext j; rfl
  rw [e0] at hP hD
  have hP : va_P D vwCl ((h0, .inr (2, [.int 0, .int 0, .null])) :: ([(q1, .inl (cA 5, 8, .inr (.inr (.inr (.inr fun j => ([] : List Nat)[j]?)))))])) H := hP
  have hD : va_D A ((h0, .inr (2, [.int 0, .int 0, .null])) :: ([(q1, .inl (cA 5, 8, .inr (.inr (.inr (.inr fun j => ([] : List Nat)[j]?)))))])) := hD
  refine va_putF (D := D) (ci := 2) (v := .ref q1) (ty := tyX2 2) (C := RX2) (T := TX2) (N := 3) hx hb hts inX2 tyX2 tyX2_ok nmX2 hown hK.1 hP hD hS 0 rfl rfl 2 (by decide) (hts _ kw_232) (fun _ h9 => h9) rfl hin rfl (tyX2_ok 2 (by decide)) rfl rfl (Nat.le_of_ble_eq_true rfl) dX2_init_10 (fun H locs hP hD hS => ?_)
  have hP : va_P D vwCl ((h0, .inr (2, [.int 0, .int 0, .ref q1])) :: ([(q1, .inl (cA 5, 8, .inr (.inr (.inr (.inr fun j => ([] : List Nat)[j]?)))))])) H := hP
  have hD : va_D A ((h0, .inr (2, [.int 0, .int 0, .ref q1])) :: ([(q1, .inl (cA 5, 8, .inr (.inr (.inr (.inr fun j => ([] : List Nat)[j]?)))))])) := hD
  refine lv_iconst (v := 0) hx hb dX2_init_13 (by decide) ?_
  refine lv_istore_n (lv' := [(1, .int 0), (0, .ref h0)]) hx hb dX2_init_14 rfl hl (by decide) rfl (fun ls hl => ?_)
  refine lv_iload_n hx hb dX2_init_15 rfl (lv_at hl 0 rfl) ?_
  refine lv_bipush (v := 8) hx hb dX2_init_16 (by decide) ?_
  refine lv_icmp_ge (tgt := 40) hx hb dX2_init_18 (by decide) (fun h => absurd h (by decide +kernel)) (fun _ => ?_)
  refine lv_aload_n hx hb dX2_init_21 rfl (lv_at hl 1 rfl) ?_
  refine va_get (D := D) (ci := 2) (v := .ref q1) (C := RX2) (T := TX2) (N := 3) hx hb hts inX2 hown hK.1 hP 0 rfl rfl 2 (by decide) (hts _ kw_232) (fun _ h9 => h9) rfl dX2_init_22 ?_
  refine lv_iload_n hx hb dX2_init_25 rfl (lv_at hl 0 rfl) ?_
  refine va_new (ci := 7) (fs := [.null, .null, .null, .null, .int 0, .int 0]) (C := RX7) (T := TX7) (N := 6) hx hb hts inX7 tyX7 tyX7_ok hown (hts _ kw_226) (hts _ kw_69) (hts _ kw_33) hK.1 hP hD hS hA rfl (fun j hj => by rcases (show j = 0 ∨ j = 1 ∨ j = 2 ∨ j = 3 ∨ j = 4 ∨ j = 5 by omega) with rfl | rfl | rfl | rfl | rfl | rfl <;> rfl) (by decide) (by decide) dX2_init_26 (fun r0 H hP hD hS => ?_)
  refine lv_dup hx hb dX2_init_29 rfl ?_
  refine k_call (wr := (h0, .inr (2, [.int 0, .int 0, .ref q1])) :: ([(q1, .inl (cA 5, 8, .inr (.inr (.inr (.inr fun j => ([] : List Nat)[j]?)))))])) hx hb hml hown hts (k_X7 l D cA) hK hP hD hS hA kw_228 kw_71 kw_33 kw_72 rfl ⟨by decide, by decide, by decide +kernel⟩ (by decide) (Nat.le_of_ble_eq_true rfl) hl.1 dX2_init_30 (by decide) (by decide) (fun f0 H locs hff0 hP hD hS => ?_)
  rw [← hff0]
  have hP : va_P D vwCl ((h0, .inr (2, [.int 0, .int 0, .ref q1])) :: ([(q1, .inl (cA 5, 8, .inr (.inr (.inr (.inr fun j => ([] : List Nat)[j]?)))))] ++ kX7 cA f0)) H := hP
  have hD : va_D A ((h0, .inr (2, [.int 0, .int 0, .ref q1])) :: ([(q1, .inl (cA 5, 8, .inr (.inr (.inr (.inr fun j => ([] : List Nat)[j]?)))))] ++ kX7 cA f0)) := hD
  refine va_astq (D := D) (r := (RX7, TX7, 6)) hx hb hK.1 hP hD hS 1 4 2 7 rfl rfl rfl rfl (by unfold vp_in; decide +kernel) dX2_init_33 (fun H locs hP hD hS => ?_)
  rw [k_up [] (f0 0) 0 (show (0 : Int32).toNatClampNeg = 0 by decide +kernel)] at hP hD
  have hP : va_P D vwCl ((h0, .inr (2, [.int 0, .int 0, .ref q1])) :: ([(q1, .inl (cA 5, 8, .inr (.inr (.inr (.inr fun j => ([f0 0] : List Nat)[j]?)))))] ++ kX7 cA f0)) H := hP
  have hD : va_D A ((h0, .inr (2, [.int 0, .int 0, .ref q1])) :: ([(q1, .inl (cA 5, 8, .inr (.inr (.inr (.inr fun j => ([f0 0] : List Nat)[j]?)))))] ++ kX7 cA f0)) := hD
  refine lv_iinc (x := 0) (v := 1) (lv' := [(1, .int 1), (0, .ref h0)]) hx hb dX2_init_34 hl (k := 0) rfl (by decide +kernel) (by decide) rfl (fun ls hl => ?_)
  refine lv_goto (tgt := 15) hx hb dX2_init_37 (by decide) ?_
  refine lv_iload_n hx hb dX2_init_15 rfl (lv_at hl 0 rfl) ?_
  refine lv_bipush (v := 8) hx hb dX2_init_16 (by decide) ?_
  refine lv_icmp_ge (tgt := 40) hx hb dX2_init_18 (by decide) (fun h => absurd h (by decide +kernel)) (fun _ => ?_)
  refine lv_aload_n hx hb dX2_init_21 rfl (lv_at hl 1 rfl) ?_
  refine va_get (D := D) (ci := 2) (v := .ref q1) (C := RX2) (T := TX2) (N := 3) hx hb hts inX2 hown hK.1 hP 0 rfl rfl 2 (by decide) (hts _ kw_232) (fun _ h9 => h9) rfl dX2_init_22 ?_
  refine lv_iload_n hx hb dX2_init_25 rfl (lv_at hl 0 rfl) ?_
  refine va_new (ci := 7) (fs := [.null, .null, .null, .null, .int 0, .int 0]) (C := RX7) (T := TX7) (N := 6) hx hb hts inX7 tyX7 tyX7_ok hown (hts _ kw_226) (hts _ kw_69) (hts _ kw_33) hK.1 hP hD hS hA rfl (fun j hj => by rcases (show j = 0 ∨ j = 1 ∨ j = 2 ∨ j = 3 ∨ j = 4 ∨ j = 5 by omega) with rfl | rfl | rfl | rfl | rfl | rfl <;> rfl) (by decide) (by decide) dX2_init_26 (fun r1 H hP hD hS => ?_)
  refine lv_dup hx hb dX2_init_29 rfl ?_
  refine k_call (wr := (h0, .inr (2, [.int 0, .int 0, .ref q1])) :: ([(q1, .inl (cA 5, 8, .inr (.inr (.inr (.inr fun j => ([f0 0] : List Nat)[j]?)))))] ++ kX7 cA f0)) hx hb hml hown hts (k_X7 l D cA) hK hP hD hS hA kw_228 kw_71 kw_33 kw_72 rfl ⟨by decide, by decide, by decide +kernel⟩ (by decide) (Nat.le_of_ble_eq_true rfl) hl.1 dX2_init_30 (by decide) (by decide) (fun f1 H locs hff1 hP hD hS => ?_)
  rw [← hff1]
  have hP : va_P D vwCl ((h0, .inr (2, [.int 0, .int 0, .ref q1])) :: ([(q1, .inl (cA 5, 8, .inr (.inr (.inr (.inr fun j => ([f0 0] : List Nat)[j]?)))))] ++ kX7 cA f0 ++ kX7 cA f1)) H := hP
  have hD : va_D A ((h0, .inr (2, [.int 0, .int 0, .ref q1])) :: ([(q1, .inl (cA 5, 8, .inr (.inr (.inr (.inr fun j => ([f0 0] : List Nat)[j]?)))))] ++ kX7 cA f0 ++ kX7 cA f1)) := hD
  refine va_astq (D := D) (r := (RX7, TX7, 6)) hx hb hK.1 hP hD hS 1 4 18 7 rfl rfl rfl rfl (by unfold vp_in; decide +kernel) dX2_init_33 (fun H locs hP hD hS => ?_)
  rw [k_up [f0 0] (f1 0) 1 (show (1 : Int32).toNatClampNeg = 1 by decide +kernel)] at hP hD
  have hP : va_P D vwCl ((h0, .inr (2, [.int 0, .int 0, .ref q1])) :: ([(q1, .inl (cA 5, 8, .inr (.inr (.inr (.inr fun j => ([f0 0, f1 0] : List Nat)[j]?)))))] ++ kX7 cA f0 ++ kX7 cA f1)) H := hP
  have hD : va_D A ((h0, .inr (2, [.int 0, .int 0, .ref q1])) :: ([(q1, .inl (cA 5, 8, .inr (.inr (.inr (.inr fun j => ([f0 0, f1 0] : List Nat)[j]?)))))] ++ kX7 cA f0 ++ kX7 cA f1)) := hD
  refine lv_iinc (x := 1) (v := 2) (lv' := [(1, .int 2), (0, .ref h0)]) hx hb dX2_init_34 hl (k := 0) rfl (by decide +kernel) (by decide) rfl (fun ls hl => ?_)
  refine lv_goto (tgt := 15) hx hb dX2_init_37 (by decide) ?_
  refine lv_iload_n hx hb dX2_init_15 rfl (lv_at hl 0 rfl) ?_
  refine lv_bipush (v := 8) hx hb dX2_init_16 (by decide) ?_
  refine lv_icmp_ge (tgt := 40) hx hb dX2_init_18 (by decide) (fun h => absurd h (by decide +kernel)) (fun _ => ?_)
  refine lv_aload_n hx hb dX2_init_21 rfl (lv_at hl 1 rfl) ?_
  refine va_get (D := D) (ci := 2) (v := .ref q1) (C := RX2) (T := TX2) (N := 3) hx hb hts inX2 hown hK.1 hP 0 rfl rfl 2 (by decide) (hts _ kw_232) (fun _ h9 => h9) rfl dX2_init_22 ?_
  refine lv_iload_n hx hb dX2_init_25 rfl (lv_at hl 0 rfl) ?_
  refine va_new (ci := 7) (fs := [.null, .null, .null, .null, .int 0, .int 0]) (C := RX7) (T := TX7) (N := 6) hx hb hts inX7 tyX7 tyX7_ok hown (hts _ kw_226) (hts _ kw_69) (hts _ kw_33) hK.1 hP hD hS hA rfl (fun j hj => by rcases (show j = 0 ∨ j = 1 ∨ j = 2 ∨ j = 3 ∨ j = 4 ∨ j = 5 by omega) with rfl | rfl | rfl | rfl | rfl | rfl <;> rfl) (by decide) (by decide) dX2_init_26 (fun r2 H hP hD hS => ?_)
  refine lv_dup hx hb dX2_init_29 rfl ?_
  refine k_call (wr := (h0, .inr (2, [.int 0, .int 0, .ref q1])) :: ([(q1, .inl (cA 5, 8, .inr (.inr (.inr (.inr fun j => ([f0 0, f1 0] : List Nat)[j]?)))))] ++ kX7 cA f0 ++ kX7 cA f1)) hx hb hml hown hts (k_X7 l D cA) hK hP hD hS hA kw_228 kw_71 kw_33 kw_72 rfl ⟨by decide, by decide, by decide +kernel⟩ (by decide) (Nat.le_of_ble_eq_true rfl) hl.1 dX2_init_30 (by decide) (by decide) (fun f2 H locs hff2 hP hD hS => ?_)
  rw [← hff2]
  have hP : va_P D vwCl ((h0, .inr (2, [.int 0, .int 0, .ref q1])) :: ([(q1, .inl (cA 5, 8, .inr (.inr (.inr (.inr fun j => ([f0 0, f1 0] : List Nat)[j]?)))))] ++ kX7 cA f0 ++ kX7 cA f1 ++ kX7 cA f2)) H := hP
  have hD : va_D A ((h0, .inr (2, [.int 0, .int 0, .ref q1])) :: ([(q1, .inl (cA 5, 8, .inr (.inr (.inr (.inr fun j => ([f0 0, f1 0] : List Nat)[j]?)))))] ++ kX7 cA f0 ++ kX7 cA f1 ++ kX7 cA f2)) := hD
  refine va_astq (D := D) (r := (RX7, TX7, 6)) hx hb hK.1 hP hD hS 1 4 34 7 rfl rfl rfl rfl (by unfold vp_in; decide +kernel) dX2_init_33 (fun H locs hP hD hS => ?_)
  rw [k_up [f0 0, f1 0] (f2 0) 2 (show (2 : Int32).toNatClampNeg = 2 by decide +kernel)] at hP hD
  have hP : va_P D vwCl ((h0, .inr (2, [.int 0, .int 0, .ref q1])) :: ([(q1, .inl (cA 5, 8, .inr (.inr (.inr (.inr fun j => ([f0 0, f1 0, f2 0] : List Nat)[j]?)))))] ++ kX7 cA f0 ++ kX7 cA f1 ++ kX7 cA f2)) H := hP
  have hD : va_D A ((h0, .inr (2, [.int 0, .int 0, .ref q1])) :: ([(q1, .inl (cA 5, 8, .inr (.inr (.inr (.inr fun j => ([f0 0, f1 0, f2 0] : List Nat)[j]?)))))] ++ kX7 cA f0 ++ kX7 cA f1 ++ kX7 cA f2)) := hD
  refine lv_iinc (x := 2) (v := 3) (lv' := [(1, .int 3), (0, .ref h0)]) hx hb dX2_init_34 hl (k := 0) rfl (by decide +kernel) (by decide) rfl (fun ls hl => ?_)
  refine lv_goto (tgt := 15) hx hb dX2_init_37 (by decide) ?_
  refine lv_iload_n hx hb dX2_init_15 rfl (lv_at hl 0 rfl) ?_
  refine lv_bipush (v := 8) hx hb dX2_init_16 (by decide) ?_
  refine lv_icmp_ge (tgt := 40) hx hb dX2_init_18 (by decide) (fun h => absurd h (by decide +kernel)) (fun _ => ?_)
  refine lv_aload_n hx hb dX2_init_21 rfl (lv_at hl 1 rfl) ?_
  refine va_get (D := D) (ci := 2) (v := .ref q1) (C := RX2) (T := TX2) (N := 3) hx hb hts inX2 hown hK.1 hP 0 rfl rfl 2 (by decide) (hts _ kw_232) (fun _ h9 => h9) rfl dX2_init_22 ?_
  refine lv_iload_n hx hb dX2_init_25 rfl (lv_at hl 0 rfl) ?_
  refine va_new (ci := 7) (fs := [.null, .null, .null, .null, .int 0, .int 0]) (C := RX7) (T := TX7) (N := 6) hx hb hts inX7 tyX7 tyX7_ok hown (hts _ kw_226) (hts _ kw_69) (hts _ kw_33) hK.1 hP hD hS hA rfl (fun j hj => by rcases (show j = 0 ∨ j = 1 ∨ j = 2 ∨ j = 3 ∨ j = 4 ∨ j = 5 by omega) with rfl | rfl | rfl | rfl | rfl | rfl <;> rfl) (by decide) (by decide) dX2_init_26 (fun r3 H hP hD hS => ?_)
  refine lv_dup hx hb dX2_init_29 rfl ?_
  refine k_call (wr := (h0, .inr (2, [.int 0, .int 0, .ref q1])) :: ([(q1, .inl (cA 5, 8, .inr (.inr (.inr (.inr fun j => ([f0 0, f1 0, f2 0] : List Nat)[j]?)))))] ++ kX7 cA f0 ++ kX7 cA f1 ++ kX7 cA f2)) hx hb hml hown hts (k_X7 l D cA) hK hP hD hS hA kw_228 kw_71 kw_33 kw_72 rfl ⟨by decide, by decide, by decide +kernel⟩ (by decide) (Nat.le_of_ble_eq_true rfl) hl.1 dX2_init_30 (by decide) (by decide) (fun f3 H locs hff3 hP hD hS => ?_)
  rw [← hff3]
  have hP : va_P D vwCl ((h0, .inr (2, [.int 0, .int 0, .ref q1])) :: ([(q1, .inl (cA 5, 8, .inr (.inr (.inr (.inr fun j => ([f0 0, f1 0, f2 0] : List Nat)[j]?)))))] ++ kX7 cA f0 ++ kX7 cA f1 ++ kX7 cA f2 ++ kX7 cA f3)) H := hP
  have hD : va_D A ((h0, .inr (2, [.int 0, .int 0, .ref q1])) :: ([(q1, .inl (cA 5, 8, .inr (.inr (.inr (.inr fun j => ([f0 0, f1 0, f2 0] : List Nat)[j]?)))))] ++ kX7 cA f0 ++ kX7 cA f1 ++ kX7 cA f2 ++ kX7 cA f3)) := hD
  refine va_astq (D := D) (r := (RX7, TX7, 6)) hx hb hK.1 hP hD hS 1 4 50 7 rfl rfl rfl rfl (by unfold vp_in; decide +kernel) dX2_init_33 (fun H locs hP hD hS => ?_)
  rw [k_up [f0 0, f1 0, f2 0] (f3 0) 3 (show (3 : Int32).toNatClampNeg = 3 by decide +kernel)] at hP hD
  have hP : va_P D vwCl ((h0, .inr (2, [.int 0, .int 0, .ref q1])) :: ([(q1, .inl (cA 5, 8, .inr (.inr (.inr (.inr fun j => ([f0 0, f1 0, f2 0, f3 0] : List Nat)[j]?)))))] ++ kX7 cA f0 ++ kX7 cA f1 ++ kX7 cA f2 ++ kX7 cA f3)) H := hP
  have hD : va_D A ((h0, .inr (2, [.int 0, .int 0, .ref q1])) :: ([(q1, .inl (cA 5, 8, .inr (.inr (.inr (.inr fun j => ([f0 0, f1 0, f2 0, f3 0] : List Nat)[j]?)))))] ++ kX7 cA f0 ++ kX7 cA f1 ++ kX7 cA f2 ++ kX7 cA f3)) := hD
  refine lv_iinc (x := 3) (v := 4) (lv' := [(1, .int 4), (0, .ref h0)]) hx hb dX2_init_34 hl (k := 0) rfl (by decide +kernel) (by decide) rfl (fun ls hl => ?_)
  refine lv_goto (tgt := 15) hx hb dX2_init_37 (by decide) ?_
  refine lv_iload_n hx hb dX2_init_15 rfl (lv_at hl 0 rfl) ?_
  refine lv_bipush (v := 8) hx hb dX2_init_16 (by decide) ?_
  refine lv_icmp_ge (tgt := 40) hx hb dX2_init_18 (by decide) (fun h => absurd h (by decide +kernel)) (fun _ => ?_)
  refine lv_aload_n hx hb dX2_init_21 rfl (lv_at hl 1 rfl) ?_
  refine va_get (D := D) (ci := 2) (v := .ref q1) (C := RX2) (T := TX2) (N := 3) hx hb hts inX2 hown hK.1 hP 0 rfl rfl 2 (by decide) (hts _ kw_232) (fun _ h9 => h9) rfl dX2_init_22 ?_
  refine lv_iload_n hx hb dX2_init_25 rfl (lv_at hl 0 rfl) ?_
  refine va_new (ci := 7) (fs := [.null, .null, .null, .null, .int 0, .int 0]) (C := RX7) (T := TX7) (N := 6) hx hb hts inX7 tyX7 tyX7_ok hown (hts _ kw_226) (hts _ kw_69) (hts _ kw_33) hK.1 hP hD hS hA rfl (fun j hj => by rcases (show j = 0 ∨ j = 1 ∨ j = 2 ∨ j = 3 ∨ j = 4 ∨ j = 5 by omega) with rfl | rfl | rfl | rfl | rfl | rfl <;> rfl) (by decide) (by decide) dX2_init_26 (fun r4 H hP hD hS => ?_)
  refine lv_dup hx hb dX2_init_29 rfl ?_
  refine k_call (wr := (h0, .inr (2, [.int 0, .int 0, .ref q1])) :: ([(q1, .inl (cA 5, 8, .inr (.inr (.inr (.inr fun j => ([f0 0, f1 0, f2 0, f3 0] : List Nat)[j]?)))))] ++ kX7 cA f0 ++ kX7 cA f1 ++ kX7 cA f2 ++ kX7 cA f3)) hx hb hml hown hts (k_X7 l D cA) hK hP hD hS hA kw_228 kw_71 kw_33 kw_72 rfl ⟨by decide, by decide, by decide +kernel⟩ (by decide) (Nat.le_of_ble_eq_true rfl) hl.1 dX2_init_30 (by decide) (by decide) (fun f4 H locs hff4 hP hD hS => ?_)
  rw [← hff4]
  have hP : va_P D vwCl ((h0, .inr (2, [.int 0, .int 0, .ref q1])) :: ([(q1, .inl (cA 5, 8, .inr (.inr (.inr (.inr fun j => ([f0 0, f1 0, f2 0, f3 0] : List Nat)[j]?)))))] ++ kX7 cA f0 ++ kX7 cA f1 ++ kX7 cA f2 ++ kX7 cA f3 ++ kX7 cA f4)) H := hP
  have hD : va_D A ((h0, .inr (2, [.int 0, .int 0, .ref q1])) :: ([(q1, .inl (cA 5, 8, .inr (.inr (.inr (.inr fun j => ([f0 0, f1 0, f2 0, f3 0] : List Nat)[j]?)))))] ++ kX7 cA f0 ++ kX7 cA f1 ++ kX7 cA f2 ++ kX7 cA f3 ++ kX7 cA f4)) := hD
  refine va_astq (D := D) (r := (RX7, TX7, 6)) hx hb hK.1 hP hD hS 1 4 66 7 rfl rfl rfl rfl (by unfold vp_in; decide +kernel) dX2_init_33 (fun H locs hP hD hS => ?_)
  rw [k_up [f0 0, f1 0, f2 0, f3 0] (f4 0) 4 (show (4 : Int32).toNatClampNeg = 4 by decide +kernel)] at hP hD
  have hP : va_P D vwCl ((h0, .inr (2, [.int 0, .int 0, .ref q1])) :: ([(q1, .inl (cA 5, 8, .inr (.inr (.inr (.inr fun j => ([f0 0, f1 0, f2 0, f3 0, f4 0] : List Nat)[j]?)))))] ++ kX7 cA f0 ++ kX7 cA f1 ++ kX7 cA f2 ++ kX7 cA f3 ++ kX7 cA f4)) H := hP
  have hD : va_D A ((h0, .inr (2, [.int 0, .int 0, .ref q1])) :: ([(q1, .inl (cA 5, 8, .inr (.inr (.inr (.inr fun j => ([f0 0, f1 0, f2 0, f3 0, f4 0] : List Nat)[j]?)))))] ++ kX7 cA f0 ++ kX7 cA f1 ++ kX7 cA f2 ++ kX7 cA f3 ++ kX7 cA f4)) := hD
  refine lv_iinc (x := 4) (v := 5) (lv' := [(1, .int 5), (0, .ref h0)]) hx hb dX2_init_34 hl (k := 0) rfl (by decide +kernel) (by decide) rfl (fun ls hl => ?_)
  refine lv_goto (tgt := 15) hx hb dX2_init_37 (by decide) ?_
  refine lv_iload_n hx hb dX2_init_15 rfl (lv_at hl 0 rfl) ?_
  refine lv_bipush (v := 8) hx hb dX2_init_16 (by decide) ?_
  refine lv_icmp_ge (tgt := 40) hx hb dX2_init_18 (by decide) (fun h => absurd h (by decide +kernel)) (fun _ => ?_)
  refine lv_aload_n hx hb dX2_init_21 rfl (lv_at hl 1 rfl) ?_
  refine va_get (D := D) (ci := 2) (v := .ref q1) (C := RX2) (T := TX2) (N := 3) hx hb hts inX2 hown hK.1 hP 0 rfl rfl 2 (by decide) (hts _ kw_232) (fun _ h9 => h9) rfl dX2_init_22 ?_
  refine lv_iload_n hx hb dX2_init_25 rfl (lv_at hl 0 rfl) ?_
  refine va_new (ci := 7) (fs := [.null, .null, .null, .null, .int 0, .int 0]) (C := RX7) (T := TX7) (N := 6) hx hb hts inX7 tyX7 tyX7_ok hown (hts _ kw_226) (hts _ kw_69) (hts _ kw_33) hK.1 hP hD hS hA rfl (fun j hj => by rcases (show j = 0 ∨ j = 1 ∨ j = 2 ∨ j = 3 ∨ j = 4 ∨ j = 5 by omega) with rfl | rfl | rfl | rfl | rfl | rfl <;> rfl) (by decide) (by decide) dX2_init_26 (fun r5 H hP hD hS => ?_)
  refine lv_dup hx hb dX2_init_29 rfl ?_
  refine k_call (wr := (h0, .inr (2, [.int 0, .int 0, .ref q1])) :: ([(q1, .inl (cA 5, 8, .inr (.inr (.inr (.inr fun j => ([f0 0, f1 0, f2 0, f3 0, f4 0] : List Nat)[j]?)))))] ++ kX7 cA f0 ++ kX7 cA f1 ++ kX7 cA f2 ++ kX7 cA f3 ++ kX7 cA f4)) hx hb hml hown hts (k_X7 l D cA) hK hP hD hS hA kw_228 kw_71 kw_33 kw_72 rfl ⟨by decide, by decide, by decide +kernel⟩ (by decide) (Nat.le_of_ble_eq_true rfl) hl.1 dX2_init_30 (by decide) (by decide) (fun f5 H locs hff5 hP hD hS => ?_)
  rw [← hff5]
  have hP : va_P D vwCl ((h0, .inr (2, [.int 0, .int 0, .ref q1])) :: ([(q1, .inl (cA 5, 8, .inr (.inr (.inr (.inr fun j => ([f0 0, f1 0, f2 0, f3 0, f4 0] : List Nat)[j]?)))))] ++ kX7 cA f0 ++ kX7 cA f1 ++ kX7 cA f2 ++ kX7 cA f3 ++ kX7 cA f4 ++ kX7 cA f5)) H := hP
  have hD : va_D A ((h0, .inr (2, [.int 0, .int 0, .ref q1])) :: ([(q1, .inl (cA 5, 8, .inr (.inr (.inr (.inr fun j => ([f0 0, f1 0, f2 0, f3 0, f4 0] : List Nat)[j]?)))))] ++ kX7 cA f0 ++ kX7 cA f1 ++ kX7 cA f2 ++ kX7 cA f3 ++ kX7 cA f4 ++ kX7 cA f5)) := hD
  refine va_astq (D := D) (r := (RX7, TX7, 6)) hx hb hK.1 hP hD hS 1 4 82 7 rfl rfl rfl rfl (by unfold vp_in; decide +kernel) dX2_init_33 (fun H locs hP hD hS => ?_)
  rw [k_up [f0 0, f1 0, f2 0, f3 0, f4 0] (f5 0) 5 (show (5 : Int32).toNatClampNeg = 5 by decide +kernel)] at hP hD
  have hP : va_P D vwCl ((h0, .inr (2, [.int 0, .int 0, .ref q1])) :: ([(q1, .inl (cA 5, 8, .inr (.inr (.inr (.inr fun j => ([f0 0, f1 0, f2 0, f3 0, f4 0, f5 0] : List Nat)[j]?)))))] ++ kX7 cA f0 ++ kX7 cA f1 ++ kX7 cA f2 ++ kX7 cA f3 ++ kX7 cA f4 ++ kX7 cA f5)) H := hP
  have hD : va_D A ((h0, .inr (2, [.int 0, .int 0, .ref q1])) :: ([(q1, .inl (cA 5, 8, .inr (.inr (.inr (.inr fun j => ([f0 0, f1 0, f2 0, f3 0, f4 0, f5 0] : List Nat)[j]?)))))] ++ kX7 cA f0 ++ kX7 cA f1 ++ kX7 cA f2 ++ kX7 cA f3 ++ kX7 cA f4 ++ kX7 cA f5)) := hD
  refine lv_iinc (x := 5) (v := 6) (lv' := [(1, .int 6), (0, .ref h0)]) hx hb dX2_init_34 hl (k := 0) rfl (by decide +kernel) (by decide) rfl (fun ls hl => ?_)
  refine lv_goto (tgt := 15) hx hb dX2_init_37 (by decide) ?_
  refine lv_iload_n hx hb dX2_init_15 rfl (lv_at hl 0 rfl) ?_
  refine lv_bipush (v := 8) hx hb dX2_init_16 (by decide) ?_
  refine lv_icmp_ge (tgt := 40) hx hb dX2_init_18 (by decide) (fun h => absurd h (by decide +kernel)) (fun _ => ?_)
  refine lv_aload_n hx hb dX2_init_21 rfl (lv_at hl 1 rfl) ?_
  refine va_get (D := D) (ci := 2) (v := .ref q1) (C := RX2) (T := TX2) (N := 3) hx hb hts inX2 hown hK.1 hP 0 rfl rfl 2 (by decide) (hts _ kw_232) (fun _ h9 => h9) rfl dX2_init_22 ?_
  refine lv_iload_n hx hb dX2_init_25 rfl (lv_at hl 0 rfl) ?_
  refine va_new (ci := 7) (fs := [.null, .null, .null, .null, .int 0, .int 0]) (C := RX7) (T := TX7) (N := 6) hx hb hts inX7 tyX7 tyX7_ok hown (hts _ kw_226) (hts _ kw_69) (hts _ kw_33) hK.1 hP hD hS hA rfl (fun j hj => by rcases (show j = 0 ∨ j = 1 ∨ j = 2 ∨ j = 3 ∨ j = 4 ∨ j = 5 by omega) with rfl | rfl | rfl | rfl | rfl | rfl <;> rfl) (by decide) (by decide) dX2_init_26 (fun r6 H hP hD hS => ?_)
  refine lv_dup hx hb dX2_init_29 rfl ?_
  refine k_call (wr := (h0, .inr (2, [.int 0, .int 0, .ref q1])) :: ([(q1, .inl (cA 5, 8, .inr (.inr (.inr (.inr fun j => ([f0 0, f1 0, f2 0, f3 0, f4 0, f5 0] : List Nat)[j]?)))))] ++ kX7 cA f0 ++ kX7 cA f1 ++ kX7 cA f2 ++ kX7 cA f3 ++ kX7 cA f4 ++ kX7 cA f5)) hx hb hml hown hts (k_X7 l D cA) hK hP hD hS hA kw_228 kw_71 kw_33 kw_72 rfl ⟨by decide, by decide, by decide +kernel⟩ (by decide) (Nat.le_of_ble_eq_true rfl) hl.1 dX2_init_30 (by decide) (by decide) (fun f6 H locs hff6 hP hD hS => ?_)
  rw [← hff6]
  have hP : va_P D vwCl ((h0, .inr (2, [.int 0, .int 0, .ref q1])) :: ([(q1, .inl (cA 5, 8, .inr (.inr (.inr (.inr fun j => ([f0 0, f1 0, f2 0, f3 0, f4 0, f5 0] : List Nat)[j]?)))))] ++ kX7 cA f0 ++ kX7 cA f1 ++ kX7 cA f2 ++ kX7 cA f3 ++ kX7 cA f4 ++ kX7 cA f5 ++ kX7 cA f6)) H := hP
  have hD : va_D A ((h0, .inr (2, [.int 0, .int 0, .ref q1])) :: ([(q1, .inl (cA 5, 8, .inr (.inr (.inr (.inr fun j => ([f0 0, f1 0, f2 0, f3 0, f4 0, f5 0] : List Nat)[j]?)))))] ++ kX7 cA f0 ++ kX7 cA f1 ++ kX7 cA f2 ++ kX7 cA f3 ++ kX7 cA f4 ++ kX7 cA f5 ++ kX7 cA f6)) := hD
  refine va_astq (D := D) (r := (RX7, TX7, 6)) hx hb hK.1 hP hD hS 1 4 98 7 rfl rfl rfl rfl (by unfold vp_in; decide +kernel) dX2_init_33 (fun H locs hP hD hS => ?_)
  rw [k_up [f0 0, f1 0, f2 0, f3 0, f4 0, f5 0] (f6 0) 6 (show (6 : Int32).toNatClampNeg = 6 by decide +kernel)] at hP hD
  have hP : va_P D vwCl ((h0, .inr (2, [.int 0, .int 0, .ref q1])) :: ([(q1, .inl (cA 5, 8, .inr (.inr (.inr (.inr fun j => ([f0 0, f1 0, f2 0, f3 0, f4 0, f5 0, f6 0] : List Nat)[j]?)))))] ++ kX7 cA f0 ++ kX7 cA f1 ++ kX7 cA f2 ++ kX7 cA f3 ++ kX7 cA f4 ++ kX7 cA f5 ++ kX7 cA f6)) H := hP
  have hD : va_D A ((h0, .inr (2, [.int 0, .int 0, .ref q1])) :: ([(q1, .inl (cA 5, 8, .inr (.inr (.inr (.inr fun j => ([f0 0, f1 0, f2 0, f3 0, f4 0, f5 0, f6 0] : List Nat)[j]?)))))] ++ kX7 cA f0 ++ kX7 cA f1 ++ kX7 cA f2 ++ kX7 cA f3 ++ kX7 cA f4 ++ kX7 cA f5 ++ kX7 cA f6)) := hD
  refine lv_iinc (x := 6) (v := 7) (lv' := [(1, .int 7), (0, .ref h0)]) hx hb dX2_init_34 hl (k := 0) rfl (by decide +kernel) (by decide) rfl (fun ls hl => ?_)
  refine lv_goto (tgt := 15) hx hb dX2_init_37 (by decide) ?_
  refine lv_iload_n hx hb dX2_init_15 rfl (lv_at hl 0 rfl) ?_
  refine lv_bipush (v := 8) hx hb dX2_init_16 (by decide) ?_
  refine lv_icmp_ge (tgt := 40) hx hb dX2_init_18 (by decide) (fun h => absurd h (by decide +kernel)) (fun _ => ?_)
  refine lv_aload_n hx hb dX2_init_21 rfl (lv_at hl 1 rfl) ?_
  refine va_get (D := D) (ci := 2) (v := .ref q1) (C := RX2) (T := TX2) (N := 3) hx hb hts inX2 hown hK.1 hP 0 rfl rfl 2 (by decide) (hts _ kw_232) (fun _ h9 => h9) rfl dX2_init_22 ?_
  refine lv_iload_n hx hb dX2_init_25 rfl (lv_at hl 0 rfl) ?_
  refine va_new (ci := 7) (fs := [.null, .null, .null, .null, .int 0, .int 0]) (C := RX7) (T := TX7) (N := 6) hx hb hts inX7 tyX7 tyX7_ok hown (hts _ kw_226) (hts _ kw_69) (hts _ kw_33) hK.1 hP hD hS hA rfl (fun j hj => by rcases (show j = 0 ∨ j = 1 ∨ j = 2 ∨ j = 3 ∨ j = 4 ∨ j = 5 by omega) with rfl | rfl | rfl | rfl | rfl | rfl <;> rfl) (by decide) (by decide) dX2_init_26 (fun r7 H hP hD hS => ?_)
  refine lv_dup hx hb dX2_init_29 rfl ?_
  refine k_call (wr := (h0, .inr (2, [.int 0, .int 0, .ref q1])) :: ([(q1, .inl (cA 5, 8, .inr (.inr (.inr (.inr fun j => ([f0 0, f1 0, f2 0, f3 0, f4 0, f5 0, f6 0] : List Nat)[j]?)))))] ++ kX7 cA f0 ++ kX7 cA f1 ++ kX7 cA f2 ++ kX7 cA f3 ++ kX7 cA f4 ++ kX7 cA f5 ++ kX7 cA f6)) hx hb hml hown hts (k_X7 l D cA) hK hP hD hS hA kw_228 kw_71 kw_33 kw_72 rfl ⟨by decide, by decide, by decide +kernel⟩ (by decide) (Nat.le_of_ble_eq_true rfl) hl.1 dX2_init_30 (by decide) (by decide) (fun f7 H locs hff7 hP hD hS => ?_)
  rw [← hff7]
  have hP : va_P D vwCl ((h0, .inr (2, [.int 0, .int 0, .ref q1])) :: ([(q1, .inl (cA 5, 8, .inr (.inr (.inr (.inr fun j => ([f0 0, f1 0, f2 0, f3 0, f4 0, f5 0, f6 0] : List Nat)[j]?)))))] ++ kX7 cA f0 ++ kX7 cA f1 ++ kX7 cA f2 ++ kX7 cA f3 ++ kX7 cA f4 ++ kX7 cA f5 ++ kX7 cA f6 ++ kX7 cA f7)) H := hP
  have hD : va_D A ((h0, .inr (2, [.int 0, .int 0, .ref q1])) :: ([(q1, .inl (cA 5, 8, .inr (.inr (.inr (.inr fun j => ([f0 0, f1 0, f2 0, f3 0, f4 0, f5 0, f6 0] : List Nat)[j]?)))))] ++ kX7 cA f0 ++ kX7 cA f1 ++ kX7 cA f2 ++ kX7 cA f3 ++ kX7 cA f4 ++ kX7 cA f5 ++ kX7 cA f6 ++ kX7 cA f7)) := hD
  refine va_astq (D := D) (r := (RX7, TX7, 6)) hx hb hK.1 hP hD hS 1 4 114 7 rfl rfl rfl rfl (by unfold vp_in; decide +kernel) dX2_init_33 (fun H locs hP hD hS => ?_)
  rw [k_up [f0 0, f1 0, f2 0, f3 0, f4 0, f5 0, f6 0] (f7 0) 7 (show (7 : Int32).toNatClampNeg = 7 by decide +kernel)] at hP hD
  have hP : va_P D vwCl ((h0, .inr (2, [.int 0, .int 0, .ref q1])) :: ([(q1, .inl (cA 5, 8, .inr (.inr (.inr (.inr fun j => ([f0 0, f1 0, f2 0, f3 0, f4 0, f5 0, f6 0, f7 0] : List Nat)[j]?)))))] ++ kX7 cA f0 ++ kX7 cA f1 ++ kX7 cA f2 ++ kX7 cA f3 ++ kX7 cA f4 ++ kX7 cA f5 ++ kX7 cA f6 ++ kX7 cA f7)) H := hP
  have hD : va_D A ((h0, .inr (2, [.int 0, .int 0, .ref q1])) :: ([(q1, .inl (cA 5, 8, .inr (.inr (.inr (.inr fun j => ([f0 0, f1 0, f2 0, f3 0, f4 0, f5 0, f6 0, f7 0] : List Nat)[j]?)))))] ++ kX7 cA f0 ++ kX7 cA f1 ++ kX7 cA f2 ++ kX7 cA f3 ++ kX7 cA f4 ++ kX7 cA f5 ++ kX7 cA f6 ++ kX7 cA f7)) := hD
  refine lv_iinc (x := 7) (v := 8) (lv' := [(1, .int 8), (0, .ref h0)]) hx hb dX2_init_34 hl (k := 0) rfl (by decide +kernel) (by decide) rfl (fun ls hl => ?_)
  refine lv_goto (tgt := 15) hx hb dX2_init_37 (by decide) ?_
  refine lv_iload_n hx hb dX2_init_15 rfl (lv_at hl 0 rfl) ?_
  refine lv_bipush (v := 8) hx hb dX2_init_16 (by decide) ?_
  refine lv_icmp_ge (tgt := 40) hx hb dX2_init_18 (by decide) (fun _ => ?_) (fun h => absurd (by decide +kernel) h)
  refine W.widen (k := 129) (n := 2056) (by decide) (by decide) ?_
  exact hret 40 ls H _ (fun k => ([h0, q1, f0 0, f0 1, f0 2, f0 3, f0 4, f0 5, f0 6, f0 7, f0 8, f0 9, f0 10, f0 11, f0 12, f0 13, f0 14, f0 15, f1 0, f1 1, f1 2, f1 3, f1 4, f1 5, f1 6, f1 7, f1 8, f1 9, f1 10, f1 11, f1 12, f1 13, f1 14, f1 15, f2 0, f2 1, f2 2, f2 3, f2 4, f2 5, f2 6, f2 7, f2 8, f2 9, f2 10, f2 11, f2 12, f2 13, f2 14, f2 15, f3 0, f3 1, f3 2, f3 3, f3 4, f3 5, f3 6, f3 7, f3 8, f3 9, f3 10, f3 11, f3 12, f3 13, f3 14, f3 15, f4 0, f4 1, f4 2, f4 3, f4 4, f4 5, f4 6, f4 7, f4 8, f4 9, f4 10, f4 11, f4 12, f4 13, f4 14, f4 15, f5 0, f5 1, f5 2, f5 3, f5 4, f5 5, f5 6, f5 7, f5 8, f5 9, f5 10, f5 11, f5 12, f5 13, f5 14, f5 15, f6 0, f6 1, f6 2, f6 3, f6 4, f6 5, f6 6, f6 7, f6 8, f6 9, f6 10, f6 11, f6 12, f6 13, f6 14, f6 15, f7 0, f7 1, f7 2, f7 3, f7 4, f7 5, f7 6, f7 7, f7 8, f7 9, f7 10, f7 11, f7 12, f7 13, f7 14, f7 15] : List Nat).getD k 0) dX2_init_40 rfl hP hD hS
