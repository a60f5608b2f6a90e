/-! What holds at the start of the law. -/
theorem kl_in (ws : List Cond) (ps : List Nat) (hp : ws = ps.filterMap fun i => lw_tbl[i]?) : ∀ w ∈ ws, w ∈ lw_tbl := by
  intro w hw
  rw [hp] at hw
  obtain ⟨i, -, hi⟩ := List.mem_filterMap.mp hw
  exact List.mem_of_getElem? hi
/-- what the claim gives of the start -/
abbrev kgv : List Cond := flatC (Jvm.Cond.and given_1 narrow_1)
theorem kg_in (ws : List Cond) (ps : List Nat) (hp : ws = ps.filterMap fun i => kgv[i]?) : ∀ w ∈ ws, w ∈ kgv := by
  intro w hw
  rw [hp] at hw
  obtain ⟨i, -, hi⟩ := List.mem_filterMap.mp hw
  exact List.mem_of_getElem? hi
theorem kl_NM : ∀ q ∈ zNM, Cond.methodLinkNest q.1 q.2.1 q.2.2.1 q.2.2.2 ∈ lw_tbl := fun q hq => kl_in (zNM.map fun q => Cond.methodLinkNest q.1 q.2.1 q.2.2.1 q.2.2.2) [459, 562, 634, 647, 652, 653, 675, 734, 981, 1077] (by decide +kernel) _ (List.mem_map.mpr ⟨q, hq, rfl⟩)
theorem kl_NF : ∀ q ∈ zNF, Cond.fieldLinkNest q.1 q.2.1 q.2.2.1 q.2.2.2.1 q.2.2.2.2.1 q.2.2.2.2.2 ∈ lw_tbl := fun q hq => kl_in (zNF.map fun q => Cond.fieldLinkNest q.1 q.2.1 q.2.2.1 q.2.2.2.1 q.2.2.2.2.1 q.2.2.2.2.2) [714, 716] (by decide +kernel) _ (List.mem_map.mpr ⟨q, hq, rfl⟩)
theorem kl_Ca : ∀ q ∈ zCa, Cond.castable q.1 q.2 ∈ lw_tbl := fun q hq => kl_in (zCa.map fun q => Cond.castable q.1 q.2) [773, 853, 889, 921, 1937, 1938, 1939, 1940, 1941, 1942, 1943, 1944, 1945, 1946, 1947, 1948, 1949, 1950, 1951, 1952] (by decide +kernel) _ (List.mem_map.mpr ⟨q, hq, rfl⟩)
theorem kl_Ms : ∀ q ∈ zMs, Cond.stringRef RX8 q.1 q.2 ∈ lw_tbl := fun q hq => kl_in (zMs.map fun q => Cond.stringRef RX8 q.1 q.2) [813, 860, 874, 896, 928, 957, 969, 993, 1006, 1053, 1089, 1139, 1170, 1182, 1183, 1201, 1216, 1217, 1231, 1233, 1243, 1252, 1272, 1273, 1281, 1289, 1304, 1320, 1328, 1336] (by decide +kernel) _ (List.mem_map.mpr ⟨q, hq, rfl⟩)
theorem kl_St : ∀ q ∈ zSt, Cond.stringRef q.1 q.2.1 q.2.2.1 ∈ lw_tbl := fun q hq => kl_in (zSt.map fun q => Cond.stringRef q.1 q.2.1 q.2.2.1) [342, 418, 442, 451, 466, 471, 484, 485, 490, 495] (by decide +kernel) _ (List.mem_map.mpr ⟨q, hq, rfl⟩)
theorem kl_De : ∀ q ∈ zDe, Cond.declares q ∈ lw_tbl := fun q hq => kl_in (zDe.map fun q => Cond.declares q) [775, 777, 779] (by decide +kernel) _ (List.mem_map.mpr ⟨q, hq, rfl⟩)
theorem kg_Nc : ∀ q ∈ zNc, Cond.not (Cond.castable q.1 q.2) ∈ kgv := fun q hq => kg_in (zNc.map fun q => Cond.not (Cond.castable q.1 q.2)) [48, 61, 74, 35, 62, 75, 36, 49, 76, 37, 50, 63] (by decide +kernel) _ (List.mem_map.mpr ⟨q, hq, rfl⟩)
theorem kg_Ms : ∀ q ∈ zMs, Cond.exactly (.string RX8 q.1) "java/lang/String" ∈ kgv := fun q hq => kg_in (zMs.map fun q => Cond.exactly (.string RX8 q.1) "java/lang/String") [235, 263, 281, 306, 318, 334, 346, 357, 373, 390, 406, 427, 440, 466, 498, 515, 540, 565, 600, 630, 660, 694, 727, 755, 789, 818, 841, 860, 876, 897] (by decide +kernel) _ (List.mem_map.mpr ⟨q, hq, rfl⟩)
/-- a text as a term -/
def kt (i : Nat) : Term := .string (zSt.getD i ("", 0, "", 0)).1 (zSt.getD i ("", 0, "", 0)).2.1
theorem kg_ex {i : Nat} (h : i < 10) : Cond.exactly (kt i) "java/lang/String" ∈ kgv := kg_in ((List.range 10).map fun i => Cond.exactly (kt i) "java/lang/String") [107, 156, 165, 174, 181, 188, 197, 205, 214, 222] (by decide +kernel) _ (List.mem_map.mpr ⟨i, List.mem_range.mpr h, rfl⟩)
theorem kg_co {i : Nat} (h : i < 10) : Cond.eq (.field (kt i) "java/lang/String" "coder" "B") (.int 0) ∈ kgv := kg_in ((List.range 10).map fun i => Cond.eq (.field (kt i) "java/lang/String" "coder" "B") (.int 0)) [108, 157, 166, 175, 182, 189, 198, 206, 215, 223] (by decide +kernel) _ (List.mem_map.mpr ⟨i, List.mem_range.mpr h, rfl⟩)
theorem kg_ar {i : Nat} (h : i < 10) : Cond.arrayOf (.field (kt i) "java/lang/String" "value" "[B") .byte ∈ kgv := kg_in ((List.range 10).map fun i => Cond.arrayOf (.field (kt i) "java/lang/String" "value" "[B") .byte) [109, 158, 167, 176, 183, 190, 199, 207, 216, 224] (by decide +kernel) _ (List.mem_map.mpr ⟨i, List.mem_range.mpr h, rfl⟩)
theorem kg_le {i : Nat} (h : i < 10) : Cond.eq (.length (.field (kt i) "java/lang/String" "value" "[B")) (.int (Int32.ofNat (zSl.getD i 0))) ∈ kgv := kg_in ((List.range 10).map fun i => Cond.eq (.length (.field (kt i) "java/lang/String" "value" "[B")) (.int (Int32.ofNat (zSl.getD i 0)))) [110, 159, 168, 177, 184, 191, 200, 208, 217, 225] (by decide +kernel) _ (List.mem_map.mpr ⟨i, List.mem_range.mpr h, rfl⟩)
theorem kg_el {i j : Nat} (h : i < 10) (hj : j < zSl.getD i 0) : Cond.eq (.elem (.field (kt i) "java/lang/String" "value" "[B") (.int (Int32.ofNat j))) (.int ((zSb.getD i []).getD j 0)) ∈ kgv := kg_in ((List.range 10).flatMap fun i => (List.range (zSl.getD i 0)).map fun j => Cond.eq (.elem (.field (kt i) "java/lang/String" "value" "[B") (.int (Int32.ofNat j))) (.int ((zSb.getD i []).getD j 0))) [111, 112, 113, 114, 115, 116, 117, 118, 119, 120, 121, 122, 123, 124, 125, 126, 127, 128, 129, 130, 131, 132, 133, 134, 135, 136, 137, 138, 139, 140, 141, 142, 143, 144, 145, 146, 147, 148, 149, 150, 151, 152, 153, 154, 155, 160, 161, 162, 163, 164, 169, 170, 171, 172, 173, 178, 179, 180, 185, 186, 187, 192, 193, 194, 195, 196, 201, 202, 203, 204, 209, 210, 211, 212, 213, 218, 219, 220, 221, 226, 227, 228, 229, 230, 231, 232, 233, 234] (by decide +kernel) _ (List.mem_flatMap.mpr ⟨i, List.mem_range.mpr h, List.mem_map.mpr ⟨j, List.mem_range.mpr hj, rfl⟩⟩)
/-- the texts are apart -/
theorem kt_ne : ∀ i j : Nat, i < 10 → j < 10 → i ≠ j → zSl.getD i 0 ≠ zSl.getD j 0 ∨ ∃ p : Nat, p < zSl.getD i 0 ∧ p < zSl.getD j 0 ∧ (zSb.getD i []).getD p 0 ≠ (zSb.getD j []).getD p 0 := by
  have h : ((List.range 10).all fun i => (List.range 10).all fun j => Nat.beq i j || !(Nat.beq (zSl.getD i 0) (zSl.getD j 0)) || (List.range (zSl.getD i 0)).any fun p => Nat.blt p (zSl.getD j 0) && !((zSb.getD i []).getD p 0 == (zSb.getD j []).getD p 0)) = true := by decide +kernel
  intro i j hi hj hn
  have h1 := List.all_eq_true.mp (List.all_eq_true.mp h i (List.mem_range.mpr hi)) j (List.mem_range.mpr hj)
  simp only [Bool.or_eq_true] at h1
  rcases h1 with (h1 | h1) | h1
  · exact absurd (Nat.eq_of_beq_eq_true h1) hn
  · left
    intro e
    rw [e, Nat.beq_refl] at h1
    cases h1
  · right
    obtain ⟨p, hp, h2⟩ := List.any_eq_true.mp h1
    rw [Bool.and_eq_true] at h2
    refine ⟨p, List.mem_range.mp hp, Nat.le_of_ble_eq_true h2.1, fun e => ?_⟩
    rw [e] at h2
    simp at h2
/-- one text in the heap -/
def kT1 (s : State) (i : Nat) (q : Nat × Nat) : Prop := va_O "java/lang/String" q.1 (fun a => s.heap.size ≤ a) s s.heap ∧ va_OF "java/lang/String" "coder" "B" (.int 0) q.1 (fun a => s.heap.size ≤ a) s s.heap ∧ va_OF "java/lang/String" "value" "[B" (.ref q.2) q.1 (fun a => s.heap.size ≤ a) s s.heap ∧ va_T .byte q.2 (zSl.getD i 0) (fun j => .int ((zSb.getD i []).getD j 0)) (fun a => s.heap.size ≤ a) s s.heap
section START
variable {s : State} {args : Array Value}
theorem kT1_of (hg : ∀ w ∈ kgv, w.before args s = true) {i : Nat} (hi : i < 10) : ∃ q : Nat × Nat, (kt i).eval args s none [] s = some (.ref q.1) ∧ kT1 s i q := by
  have hA : ∀ a : Nat, a < s.heap.size → ¬ (fun a => s.heap.size ≤ a) a := fun a h => Nat.not_le.mpr h
  have z : ∀ {k : Nat}, k < 1 → k = 0 := fun h => by omega
  have hsm : zSl.getD i 0 < 2 ^ 31 := by
    have h : ((List.range 10).all fun i => Nat.blt (zSl.getD i 0) (2 ^ 31)) = true := by decide +kernel
    exact Nat.le_of_ble_eq_true (List.all_eq_true.mp h i (List.mem_range.mpr hi))
  obtain ⟨adK, adV, h, he⟩ := vk_Sof (args := args) (s := s) (N := 1) (tm := fun _ => kt i) (len := [zSl.getD i 0]) (byt := [zSb.getD i []]) (A := fun a => s.heap.size ≤ a) (fun k hk => by rw [z hk]; exact hsm) (fun k hk => hg _ (kg_ex hi)) (fun k hk => hg _ (kg_co hi)) (fun k hk => hg _ (kg_ar hi)) (fun k hk => by rw [z hk]; exact hg _ (kg_le hi)) (fun k hk j hj => by rw [z hk] at hj ⊢; exact hg _ (kg_el hi hj)) (fun k k2 hk hk2 hn => absurd ((z hk).trans (z hk2).symm) hn) hA
  obtain ⟨h1, h2, h3, h4⟩ := h.1 0 (by decide)
  exact ⟨(adK 0, adV 0), he 0 (by decide), h1, h2, h3, h4⟩
theorem kOF_eq {o n d : String} {v w : Value} {t : Nat} {A : Nat → Prop} {U : State} {H : Heap} (h1 : va_OF o n d v t A U H) (h2 : va_OF o n d w t A U H) : v = w := by
  obtain ⟨cf, k, i, f, cell, a1, a2, a3, a4, a5, a6⟩ := h1
  obtain ⟨cf', k', i', f', cell', b1, b2, b3, b4, b5, b6⟩ := h2
  rw [a1] at b1
  cases b1
  rw [a3] at b3
  cases b3
  rw [a5] at b5
  exact Option.some.inj b5
theorem kT1_ne {i j : Nat} {q r : Nat × Nat} (hi : i < 10) (hj : j < 10) (h1 : kT1 s i q) (h2 : kT1 s j r) (e : q.1 = r.1) : i = j := by
  by_cases hn : i = j
  · exact hn
  · exfalso
    obtain ⟨-, -, a1, a2⟩ := h1
    obtain ⟨-, -, b1, b2⟩ := h2
    rw [← e] at b1
    have e2 : q.2 = r.2 := by
      have := kOF_eq a1 b1
      injection this
    rw [← e2] at b2
    obtain ⟨cell, c1, c2, c3, c4, c5, c6, c7⟩ := a2
    obtain ⟨cell', d1, d2, d3, d4, d5, d6, d7⟩ := b2
    rw [c1] at d1
    cases d1
    rcases kt_ne i j hi hj hn with h | ⟨p, p1, p2, p3⟩
    · rw [c5] at d5
      have hsm : ∀ i, i < 10 → zSl.getD i 0 < 2 ^ 31 := fun i hi => by
        have h : ((List.range 10).all fun i => Nat.blt (zSl.getD i 0) (2 ^ 31)) = true := by decide +kernel
        exact Nat.le_of_ble_eq_true (List.all_eq_true.mp h i (List.mem_range.mpr hi))
      have d6 := congrArg Int32.toInt d5
      rw [Int32.toInt_ofNat_of_lt (hsm i hi), Int32.toInt_ofNat_of_lt (hsm j hj)] at d6
      exact h (by omega)
    · have := (c6 p p1).symm.trans (d6 p p2)
      have := Option.some.inj this
      injection this with this
      exact p3 this
/-- the given addresses by number -/
def k9a (b x y : Nat) (K V : Nat → Nat) (k : Nat) : Nat := bif Nat.beq k 300 then x else bif Nat.beq k 301 then y else bif Nat.beq k 310 then b else bif Nat.blt k 340 then K (k - 320) else V (k - 340)
theorem k9a_K {b x y : Nat} {K V : Nat → Nat} {i : Nat} (h : i < 10) : k9a b x y K V (320 + i) = K i := by
  rcases (show i = 0 ∨ i = 1 ∨ i = 2 ∨ i = 3 ∨ i = 4 ∨ i = 5 ∨ i = 6 ∨ i = 7 ∨ i = 8 ∨ i = 9 by omega) with rfl | rfl | rfl | rfl | rfl | rfl | rfl | rfl | rfl | rfl <;> rfl
theorem k9a_V {b x y : Nat} {K V : Nat → Nat} {i : Nat} (h : i < 10) : k9a b x y K V (340 + i) = V i := by
  rcases (show i = 0 ∨ i = 1 ∨ i = 2 ∨ i = 3 ∨ i = 4 ∨ i = 5 ∨ i = 6 ∨ i = 7 ∨ i = 8 ∨ i = 9 by omega) with rfl | rfl | rfl | rfl | rfl | rfl | rfl | rfl | rfl | rfl <;> rfl
theorem kSt_at : ∀ q ∈ zSt, ∃ i, i < 10 ∧ q.2.2.2 = 320 + i ∧ kt i = .string q.1 q.2.1 := by
  intro q hq
  obtain ⟨i, hi⟩ := List.getElem?_of_mem hq
  have hl : i < 10 := (List.getElem?_eq_some_iff.mp hi).1
  have h : ((List.range 10).all fun i => (zSt.getD i ("", 0, "", 0)).2.2.2 == 320 + i) = true := by decide +kernel
  have hd : zSt.getD i ("", 0, "", 0) = q := by
    rw [List.getD_eq_getElem?_getD, hi]
    rfl
  refine ⟨i, hl, ?_, ?_⟩
  · have := eq_of_beq (List.all_eq_true.mp h i (List.mem_range.mpr hl))
    rw [hd] at this
    exact this
  · unfold kt
    rw [hd]
theorem k_arr {ty : FieldType} (hp : ∀ C, ty ≠ .object C) (h : (Cond.arrayClass ty).before args s = true) : ∃ cA : ClassId, ArrOfT s cA ty ∧ va_RA s cA ty := by
  obtain ⟨c, k, comp, h1, h2, h3⟩ := Cond.arrayClass_spec h
  refine ⟨c, fun n z => ⟨(fun k h => by cases h), k, h2, comp, h3⟩, ?_⟩
  cases ty with
  | object C => exact absurd rfl (hp C)
  | _ => exact h1
theorem k_arrO {C : String} (h : (Cond.arrayOver (.object C)).before args s = true) : ∃ cA : ClassId, ArrOfT s cA (.object C) ∧ va_RA s cA (.object C) := by
  obtain ⟨comp, c, k, h1, -, h3, h4, h5⟩ := Cond.arrayOver_spec h
  exact ⟨c, fun n z => ⟨(fun k h => by cases h), k, h3, comp, h4⟩, k, comp, h3, h4, h1, h5⟩
/-- the classes, as the tables have them -/
theorem k_kK (hts : ∀ w ∈ lw_tbl, w.before args s = true) : ∃ (D : va_G) (cA : Nat → ClassId), kK D cA s := by
  have htz : ∀ w ∈ zTs, w.before args s = true := fun w hw => hts w (List.mem_filter.mp hw).1
  have hc : ∀ c : Nat, ∃ x : ClassId × (Nat → Nat), ∀ q : vw_C, vwCl[c]? = some q → u_Kn s q.1 q.2.1 q.2.2 x.1 x.2 := by
    intro c
    match c with
    | 0 =>
      obtain ⟨k0, iS, h⟩ := u_known (C := RX0) (T := TX0) (N := 4) (n := 4) htz inX0 (hts (.instantiable RX0 4) (List.mem_of_getElem? (i := 316) (by decide +kernel)))
      exact ⟨(k0, iS), fun q hq => by cases hq; exact h⟩
    | 1 =>
      obtain ⟨k0, iS, h⟩ := u_known (C := RX1) (T := TX1) (N := 3) (n := 3) htz inX1 (hts (.instantiable RX1 3) (List.mem_of_getElem? (i := 112) (by decide +kernel)))
      exact ⟨(k0, iS), fun q hq => by cases hq; exact h⟩
    | 2 =>
      obtain ⟨k0, iS, h⟩ := u_known (C := RX2) (T := TX2) (N := 3) (n := 3) htz inX2 (hts (.instantiable RX2 3) (List.mem_of_getElem? (i := 258) (by decide +kernel)))
      exact ⟨(k0, iS), fun q hq => by cases hq; exact h⟩
    | 3 =>
      obtain ⟨k0, iS, h⟩ := u_known (C := RX3) (T := TX3) (N := 5) (n := 5) htz inX3 (hts (.instantiable RX3 5) (List.mem_of_getElem? (i := 142) (by decide +kernel)))
      exact ⟨(k0, iS), fun q hq => by cases hq; exact h⟩
    | 4 =>
      obtain ⟨k0, iS, h⟩ := u_known (C := RX4) (T := TX4) (N := 1) (n := 1) htz inX4 (hts (.instantiable RX4 1) (List.mem_of_getElem? (i := 309) (by decide +kernel)))
      exact ⟨(k0, iS), fun q hq => by cases hq; exact h⟩
    | 5 =>
      obtain ⟨k0, iS, h⟩ := u_known (C := RX5) (T := TX5) (N := 7) (n := 7) htz inX5 (hts (.instantiable RX5 7) (List.mem_of_getElem? (i := 278) (by decide +kernel)))
      exact ⟨(k0, iS), fun q hq => by cases hq; exact h⟩
    | 6 =>
      obtain ⟨k0, iS, h⟩ := u_known (C := RX6) (T := TX6) (N := 8) (n := 8) htz inX6 (hts (.instantiable RX6 8) (List.mem_of_getElem? (i := 176) (by decide +kernel)))
      exact ⟨(k0, iS), fun q hq => by cases hq; exact h⟩
    | 7 =>
      obtain ⟨k0, iS, h⟩ := u_known (C := RX7) (T := TX7) (N := 6) (n := 6) htz inX7 (hts (.instantiable RX7 6) (List.mem_of_getElem? (i := 106) (by decide +kernel)))
      exact ⟨(k0, iS), fun q hq => by cases hq; exact h⟩
    | 8 =>
      obtain ⟨k0, iS, h⟩ := u_known (C := RX8) (T := TX8) (N := 11) (n := 11) htz inX8 (hts (.instantiable RX8 11) (List.mem_of_getElem? (i := 98) (by decide +kernel)))
      exact ⟨(k0, iS), fun q hq => by cases hq; exact h⟩
    | 9 =>
      obtain ⟨k0, iS, h⟩ := u_known (C := RX9) (T := TX9) (N := 23) (n := 23) htz inX9 (hts (.instantiable RX9 23) (List.mem_of_getElem? (i := 1338) (by decide +kernel)))
      exact ⟨(k0, iS), fun q hq => by cases hq; exact h⟩
    | c + 10 => exact ⟨(0, fun _ => 0), fun q hq => by simp [vwCl] at hq⟩
  obtain ⟨c1, a1⟩ := k_arr (ty := .int) (fun C h => by cases h) (hts _ (List.mem_of_getElem? (i := 140) (by decide +kernel)))
  obtain ⟨c2, a2⟩ := k_arr (ty := .byte) (fun C h => by cases h) (hts _ (List.mem_of_getElem? (i := 307) (by decide +kernel)))
  obtain ⟨c3, a3⟩ := k_arr (ty := .boolean) (fun C h => by cases h) (hts _ (List.mem_of_getElem? (i := 306) (by decide +kernel)))
  obtain ⟨c4, a4⟩ := k_arr (ty := .long) (fun C h => by cases h) (hts _ (List.mem_of_getElem? (i := 1935) (by decide +kernel)))
  obtain ⟨c5, a5⟩ := k_arrO (C := "FalseLightMarsh$World") (hts _ (List.mem_of_getElem? (i := 264) (by decide +kernel)))
  obtain ⟨c6, a6⟩ := k_arrO (C := "FalseLightMarsh$Distances") (hts _ (List.mem_of_getElem? (i := 315) (by decide +kernel)))
  refine ⟨(fun c => (Classical.choose (hc c)).1, fun c => (Classical.choose (hc c)).2), fun k => match k with | 1 => c1 | 2 => c2 | 3 => c3 | 4 => c4 | 5 => c5 | _ => c6, ⟨fun c q hq => Classical.choose_spec (hc c) q hq, ?_⟩, va_AO.of (hts _ (List.mem_of_getElem? (i := 264) (by decide +kernel))), va_AO.of (hts _ (List.mem_of_getElem? (i := 315) (by decide +kernel)))⟩
  intro k q hq
  match k, hq with
  | 0, hq => cases hq; exact a1
  | 1, hq => cases hq; exact a2
  | 2, hq => cases hq; exact a3
  | 3, hq => cases hq; exact a4
  | 4, hq => cases hq; exact a5
  | 5, hq => cases hq; exact a6
  | k + 6, hq => simp [z_ty] at hq

/-- what holds of statics and constants at the start -/
theorem k_zZA {b L : Nat} {xs : Nat → Int32} (hts : ∀ w ∈ lw_tbl, w.before args s = true) (hg : ∀ w ∈ kgv, w.before args s = true) (hX : va_X b L xs s s.heap) (hbl : b < s.heap.size) : ∃ a0 : Nat → Nat, a0 310 = b ∧ zZA L xs (fun q => s.heap.size ≤ q) a0 s s.heap := by
  have hA : ∀ a : Nat, a < s.heap.size → ¬ (fun a => s.heap.size ≤ a) a := fun a h => Nat.not_le.mpr h
  have hT : ∀ i : Nat, ∃ q : Nat × Nat, i < 10 → (kt i).eval args s none [] s = some (.ref q.1) ∧ kT1 s i q := by
    intro i
    by_cases hi : i < 10
    · obtain ⟨q, h⟩ := kT1_of hg hi
      exact ⟨q, fun _ => h⟩
    · exact ⟨(0, 0), fun h => absurd h hi⟩
  obtain ⟨x, ex, tx⟩ := va_Tof (args := args) (s := s) (tm := (.static "FalseLightMarsh" "STEP_X" "[I")) (ty := .int) (N := 4) (f := fun j => .int (([0, 1, 0, -1] : List Int32).getD j 0)) (A := fun q => s.heap.size ≤ q) (by decide) (hg _ (List.mem_of_getElem? (i := 10) (by decide +kernel))) (va_eqt (z := 4) (hg _ (List.mem_of_getElem? (i := 11) (by decide +kernel)))) (fun j hj => by
    rcases (show j = 0 ∨ j = 1 ∨ j = 2 ∨ j = 3 by omega) with rfl | rfl | rfl | rfl
    · exact va_eqt (hg (Cond.eq (.elem (.static "FalseLightMarsh" "STEP_X" "[I") (.int 0)) (.int (0))) (List.mem_of_getElem? (i := 12) (by decide +kernel)))
    · exact va_eqt (hg (Cond.eq (.elem (.static "FalseLightMarsh" "STEP_X" "[I") (.int 1)) (.int (1))) (List.mem_of_getElem? (i := 13) (by decide +kernel)))
    · exact va_eqt (hg (Cond.eq (.elem (.static "FalseLightMarsh" "STEP_X" "[I") (.int 2)) (.int (0))) (List.mem_of_getElem? (i := 14) (by decide +kernel)))
    · exact va_eqt (hg (Cond.eq (.elem (.static "FalseLightMarsh" "STEP_X" "[I") (.int 3)) (.int (-1))) (List.mem_of_getElem? (i := 15) (by decide +kernel)))) hA
  have zx := va_Zof (A := fun q => s.heap.size ≤ q) (hts _ (List.mem_of_getElem? (i := 715) (by decide +kernel))) (hts _ (List.mem_of_getElem? (i := 73) (by decide +kernel))) ex hA
  obtain ⟨y, ey, ty⟩ := va_Tof (args := args) (s := s) (tm := (.static "FalseLightMarsh" "STEP_Y" "[I")) (ty := .int) (N := 4) (f := fun j => .int (([-1, 0, 1, 0] : List Int32).getD j 0)) (A := fun q => s.heap.size ≤ q) (by decide) (hg _ (List.mem_of_getElem? (i := 17) (by decide +kernel))) (va_eqt (z := 4) (hg _ (List.mem_of_getElem? (i := 18) (by decide +kernel)))) (fun j hj => by
    rcases (show j = 0 ∨ j = 1 ∨ j = 2 ∨ j = 3 by omega) with rfl | rfl | rfl | rfl
    · exact va_eqt (hg (Cond.eq (.elem (.static "FalseLightMarsh" "STEP_Y" "[I") (.int 0)) (.int (-1))) (List.mem_of_getElem? (i := 19) (by decide +kernel)))
    · exact va_eqt (hg (Cond.eq (.elem (.static "FalseLightMarsh" "STEP_Y" "[I") (.int 1)) (.int (0))) (List.mem_of_getElem? (i := 20) (by decide +kernel)))
    · exact va_eqt (hg (Cond.eq (.elem (.static "FalseLightMarsh" "STEP_Y" "[I") (.int 2)) (.int (1))) (List.mem_of_getElem? (i := 21) (by decide +kernel)))
    · exact va_eqt (hg (Cond.eq (.elem (.static "FalseLightMarsh" "STEP_Y" "[I") (.int 3)) (.int (0))) (List.mem_of_getElem? (i := 22) (by decide +kernel)))) hA
  have zy := va_Zof (A := fun q => s.heap.size ≤ q) (hts _ (List.mem_of_getElem? (i := 717) (by decide +kernel))) (hts _ (List.mem_of_getElem? (i := 73) (by decide +kernel))) ey hA
  refine ⟨k9a b x y (fun i => (Classical.choose (hT i)).1) (fun i => (Classical.choose (hT i)).2), rfl, ⟨fun q hq => va_Nw.of rfl (hts _ (kl_NM q hq)), fun q hq => va_Nw.of rfl (hts _ (kl_NF q hq)), fun q hq => va_Nw.of rfl (hts _ (kl_Ca q hq)), fun q hq => va_Nc.of (hg _ (kg_Nc q hq)), fun q hq => ?_, fun q hq => ?_, fun q hq => va_Nw.of rfl (hts _ (kl_De q hq))⟩, vx_Zqof (hts _ (List.mem_of_getElem? (i := 798) (by decide +kernel))) (hts _ (List.mem_of_getElem? (i := 88) (by decide +kernel))) (hg _ (List.mem_of_getElem? (i := 23) (by decide +kernel))) hA, vx_Zqof (hts _ (List.mem_of_getElem? (i := 800) (by decide +kernel))) (hts _ (List.mem_of_getElem? (i := 88) (by decide +kernel))) (hg _ (List.mem_of_getElem? (i := 24) (by decide +kernel))) hA, ⟨fun i hi => ?_, fun i j hi hj e => ?_⟩, zx, tx, zy, ty, va_Zof (hts _ (List.mem_of_getElem? (i := 356) (by decide +kernel))) (hts _ (List.mem_of_getElem? (i := 82) (by decide +kernel))) (va_eqt (hg _ (List.mem_of_getElem? (i := 4) (by decide +kernel)))) hA, va_Zqof (hts _ (List.mem_of_getElem? (i := 372) (by decide +kernel))) (hts _ (List.mem_of_getElem? (i := 84) (by decide +kernel))) (hg _ (List.mem_of_getElem? (i := 5) (by decide +kernel))) hA, hX, hbl, hA b hbl⟩
  · obtain ⟨a, -, -, -, q1, -⟩ := Cond.exactly_spec (hg _ (kg_Ms q hq))
    exact ⟨a, vk_R.of (hts _ (kl_Ms q hq)) q1⟩
  · obtain ⟨i, hi, e1, e2⟩ := kSt_at q hq
    rw [e1, k9a_K hi]
    refine vk_R.of (hts _ (kl_St q hq)) ?_
    rw [← e2]
    exact (Classical.choose_spec (hT i) hi).1
  · have h := (Classical.choose_spec (hT i) hi).2
    show va_O _ (k9a _ _ _ _ _ (320 + i)) _ _ _ ∧ va_OF _ _ _ _ (k9a _ _ _ _ _ (320 + i)) _ _ _ ∧ va_OF _ _ _ (.ref (k9a _ _ _ _ _ (340 + i))) (k9a _ _ _ _ _ (320 + i)) _ _ _ ∧ va_T _ (k9a _ _ _ _ _ (340 + i)) _ _ _ _ _
    rw [k9a_K hi, k9a_V hi]
    exact h
  · have e : k9a b x y (fun i => (Classical.choose (hT i)).1) (fun i => (Classical.choose (hT i)).2) (320 + i) = k9a b x y (fun i => (Classical.choose (hT i)).1) (fun i => (Classical.choose (hT i)).2) (320 + j) := e
    rw [k9a_K hi, k9a_K hj] at e
    exact kT1_ne hi hj (Classical.choose_spec (hT i) hi).2 (Classical.choose_spec (hT j) hj).2 e
end START
