/-! What holds at the start of the law. -/
theorem kl_in (ws : List Cond) (ps : List Nat) (hp : ws = ps.filterMap fun i => lw_tbl[i]?) : ∀ w ∈ ws, w ∈ lw_tbl := by
  intro w hw
  rw [hp] at hw
  obtain ⟨i, -, hi⟩ := List.mem_filterMap.mp hw
  exact List.mem_of_getElem? hi
/-- what the claim gives of the start -/
abbrev kgv : List Cond := flatC (Jvm.Cond.and given_1 narrow_1)
theorem kg_in (ws : List Cond) (ps : List Nat) (hp : ws = ps.filterMap fun i => kgv[i]?) : ∀ w ∈ ws, w ∈ kgv := by
  intro w hw
  rw [hp] at hw
  obtain ⟨i, -, hi⟩ := List.mem_filterMap.mp hw
  exact List.mem_of_getElem? hi
theorem kl_NM : ∀ q ∈ zNM, Cond.methodLinkNest q.1 q.2.1 q.2.2.1 q.2.2.2 ∈ lw_tbl := fun q hq => kl_in (zNM.map fun q => Cond.methodLinkNest q.1 q.2.1 q.2.2.1 q.2.2.2) [422, 525, 655, 668, 673, 674, 701, 760, 832, 980] (by decide +kernel) _ (List.mem_map.mpr ⟨q, hq, rfl⟩)
theorem kl_NF : ∀ q ∈ zNF, Cond.fieldLinkNest q.1 q.2.1 q.2.2.1 q.2.2.2.1 q.2.2.2.2.1 q.2.2.2.2.2 ∈ lw_tbl := fun q hq => kl_in (zNF.map fun q => Cond.fieldLinkNest q.1 q.2.1 q.2.2.1 q.2.2.2.1 q.2.2.2.2.1 q.2.2.2.2.2) [740, 742] (by decide +kernel) _ (List.mem_map.mpr ⟨q, hq, rfl⟩)
theorem kl_Ca : ∀ q ∈ zCa, Cond.castable q.1 q.2 ∈ lw_tbl := fun q hq => kl_in (zCa.map fun q => Cond.castable q.1 q.2) [561, 629, 786, 843, 1176, 1454, 1455, 1456, 1457, 1458, 1459, 1460, 1461, 1462, 1463, 1464, 1465, 1466, 1467, 1468, 1469] (by decide +kernel) _ (List.mem_map.mpr ⟨q, hq, rfl⟩)
theorem kl_Ms : ∀ q ∈ zMs, Cond.stringRef RX8 q.1 q.2 ∈ lw_tbl := fun q hq => kl_in (zMs.map fun q => Cond.stringRef RX8 q.1 q.2) [601, 636, 793, 801, 803, 810, 821, 822, 850, 861, 862, 867, 876, 877, 886, 891, 897, 910, 916, 921, 930, 939, 944, 962, 971, 1061, 1079, 1084, 1096, 1105] (by decide +kernel) _ (List.mem_map.mpr ⟨q, hq, rfl⟩)
theorem kl_St : ∀ q ∈ zSt, Cond.stringRef q.1 q.2.1 q.2.2.1 ∈ lw_tbl := fun q hq => kl_in (zSt.map fun q => Cond.stringRef q.1 q.2.1 q.2.2.1) [305, 381, 405, 414, 429, 434, 447, 448, 453, 458] (by decide +kernel) _ (List.mem_map.mpr ⟨q, hq, rfl⟩)
theorem kl_Wt : ∀ q ∈ wSt, Cond.stringRef "FalseLightMarshLaw" q.1 q.2.1 ∈ lw_tbl := fun q hq => kl_in (wSt.map fun q => Cond.stringRef "FalseLightMarshLaw" q.1 q.2.1) [1116, 1284, 1288, 1290, 1291, 1294, 1295, 1296, 1297, 1298] (by decide +kernel) _ (List.mem_map.mpr ⟨q, hq, rfl⟩)
theorem kl_De : ∀ q ∈ zDe, Cond.declares q ∈ lw_tbl := fun q hq => kl_in (zDe.map fun q => Cond.declares q) [563, 565, 567] (by decide +kernel) _ (List.mem_map.mpr ⟨q, hq, rfl⟩)
theorem kg_Nc : ∀ q ∈ zNc, Cond.not (Cond.castable q.1 q.2) ∈ kgv := fun q hq => kg_in (zNc.map fun q => Cond.not (Cond.castable q.1 q.2)) [268, 241, 283, 254, 240, 282, 256, 270, 284, 255, 269, 242] (by decide +kernel) _ (List.mem_map.mpr ⟨q, hq, rfl⟩)
theorem kg_Ms : ∀ q ∈ zMs, Cond.exactly (.string RX8 q.1) "java/lang/String" ∈ kgv := fun q hq => kg_in (zMs.map fun q => Cond.exactly (.string RX8 q.1) "java/lang/String") [445, 470, 505, 521, 551, 581, 615, 632, 665, 681, 709, 743, 772, 788, 811, 832, 864, 883, 899, 920, 945, 973, 991, 1003, 1015, 1026, 1039, 1065, 1082, 1107] (by decide +kernel) _ (List.mem_map.mpr ⟨q, hq, rfl⟩)
/-- a text as a term -/
def kt (i : Nat) : Term := .string (zSt.getD i ("", 0, "", 0)).1 (zSt.getD i ("", 0, "", 0)).2.1
def kw (i : Nat) : Term := .string "FalseLightMarshLaw" (wSt.getD i (0, "", 0)).1
theorem kg_ex {i : Nat} (h : i < 10) : Cond.exactly (kt i) "java/lang/String" ∈ kgv := kg_in ((List.range 10).map fun i => Cond.exactly (kt i) "java/lang/String") [317, 366, 375, 384, 391, 398, 407, 415, 424, 432] (by decide +kernel) _ (List.mem_map.mpr ⟨i, List.mem_range.mpr h, rfl⟩)
theorem kg_co {i : Nat} (h : i < 10) : Cond.eq (.field (kt i) "java/lang/String" "coder" "B") (.int 0) ∈ kgv := kg_in ((List.range 10).map fun i => Cond.eq (.field (kt i) "java/lang/String" "coder" "B") (.int 0)) [318, 367, 376, 385, 392, 399, 408, 416, 425, 433] (by decide +kernel) _ (List.mem_map.mpr ⟨i, List.mem_range.mpr h, rfl⟩)
theorem kg_ar {i : Nat} (h : i < 10) : Cond.arrayOf (.field (kt i) "java/lang/String" "value" "[B") .byte ∈ kgv := kg_in ((List.range 10).map fun i => Cond.arrayOf (.field (kt i) "java/lang/String" "value" "[B") .byte) [319, 368, 377, 386, 393, 400, 409, 417, 426, 434] (by decide +kernel) _ (List.mem_map.mpr ⟨i, List.mem_range.mpr h, rfl⟩)
theorem kg_le {i : Nat} (h : i < 10) : Cond.eq (.length (.field (kt i) "java/lang/String" "value" "[B")) (.int (Int32.ofNat (zSl.getD i 0))) ∈ kgv := kg_in ((List.range 10).map fun i => Cond.eq (.length (.field (kt i) "java/lang/String" "value" "[B")) (.int (Int32.ofNat (zSl.getD i 0)))) [320, 369, 378, 387, 394, 401, 410, 418, 427, 435] (by decide +kernel) _ (List.mem_map.mpr ⟨i, List.mem_range.mpr h, rfl⟩)
theorem kg_el {i j : Nat} (h : i < 10) (hj : j < zSl.getD i 0) : Cond.eq (.elem (.field (kt i) "java/lang/String" "value" "[B") (.int (Int32.ofNat j))) (.int ((zSb.getD i []).getD j 0)) ∈ kgv := kg_in ((List.range 10).flatMap fun i => (List.range (zSl.getD i 0)).map fun j => Cond.eq (.elem (.field (kt i) "java/lang/String" "value" "[B") (.int (Int32.ofNat j))) (.int ((zSb.getD i []).getD j 0))) [321, 322, 323, 324, 325, 326, 327, 328, 329, 330, 331, 332, 333, 334, 335, 336, 337, 338, 339, 340, 341, 342, 343, 344, 345, 346, 347, 348, 349, 350, 351, 352, 353, 354, 355, 356, 357, 358, 359, 360, 361, 362, 363, 364, 365, 370, 371, 372, 373, 374, 379, 380, 381, 382, 383, 388, 389, 390, 395, 396, 397, 402, 403, 404, 405, 406, 411, 412, 413, 414, 419, 420, 421, 422, 423, 428, 429, 430, 431, 436, 437, 438, 439, 440, 441, 442, 443, 444] (by decide +kernel) _ (List.mem_flatMap.mpr ⟨i, List.mem_range.mpr h, List.mem_map.mpr ⟨j, List.mem_range.mpr hj, rfl⟩⟩)
/-- the texts are apart -/
theorem kt_ne : ∀ i j : Nat, i < 10 → j < 10 → i ≠ j → zSl.getD i 0 ≠ zSl.getD j 0 ∨ ∃ p : Nat, p < zSl.getD i 0 ∧ p < zSl.getD j 0 ∧ (zSb.getD i []).getD p 0 ≠ (zSb.getD j []).getD p 0 := by
  have h : ((List.range 10).all fun i => (List.range 10).all fun j => Nat.beq i j || !(Nat.beq (zSl.getD i 0) (zSl.getD j 0)) || (List.range (zSl.getD i 0)).any fun p => Nat.blt p (zSl.getD j 0) && !((zSb.getD i []).getD p 0 == (zSb.getD j []).getD p 0)) = true := by decide +kernel
  intro i j hi hj hn
  have h1 := List.all_eq_true.mp (List.all_eq_true.mp h i (List.mem_range.mpr hi)) j (List.mem_range.mpr hj)
  simp only [Bool.or_eq_true] at h1
  rcases h1 with (h1 | h1) | h1
  · exact absurd (Nat.eq_of_beq_eq_true h1) hn
  · left
    intro e
    rw [e, Nat.beq_refl] at h1
    cases h1
  · right
    obtain ⟨p, hp, h2⟩ := List.any_eq_true.mp h1
    rw [Bool.and_eq_true] at h2
    refine ⟨p, List.mem_range.mp hp, Nat.le_of_ble_eq_true h2.1, fun e => ?_⟩
    rw [e] at h2
    simp at h2
theorem kt_sm {i : Nat} (hi : i < 10) : zSl.getD i 0 < 2 ^ 31 := by
  have h : ((List.range 10).all fun i => Nat.blt (zSl.getD i 0) (2 ^ 31)) = true := by decide +kernel
  exact Nat.le_of_ble_eq_true (List.all_eq_true.mp h i (List.mem_range.mpr hi))
theorem kg_exw {i : Nat} (h : i < 10) : Cond.exactly (kw i) "java/lang/String" ∈ kgv := kg_in ((List.range 10).map fun i => Cond.exactly (kw i) "java/lang/String") [1123, 1133, 1144, 1152, 1172, 1180, 1190, 1200, 1209, 1219] (by decide +kernel) _ (List.mem_map.mpr ⟨i, List.mem_range.mpr h, rfl⟩)
theorem kg_cow {i : Nat} (h : i < 10) : Cond.eq (.field (kw i) "java/lang/String" "coder" "B") (.int 0) ∈ kgv := kg_in ((List.range 10).map fun i => Cond.eq (.field (kw i) "java/lang/String" "coder" "B") (.int 0)) [1124, 1134, 1145, 1153, 1173, 1181, 1191, 1201, 1210, 1220] (by decide +kernel) _ (List.mem_map.mpr ⟨i, List.mem_range.mpr h, rfl⟩)
theorem kg_arw {i : Nat} (h : i < 10) : Cond.arrayOf (.field (kw i) "java/lang/String" "value" "[B") .byte ∈ kgv := kg_in ((List.range 10).map fun i => Cond.arrayOf (.field (kw i) "java/lang/String" "value" "[B") .byte) [1125, 1135, 1146, 1154, 1174, 1182, 1192, 1202, 1211, 1221] (by decide +kernel) _ (List.mem_map.mpr ⟨i, List.mem_range.mpr h, rfl⟩)
theorem kg_lew {i : Nat} (h : i < 10) : Cond.eq (.length (.field (kw i) "java/lang/String" "value" "[B")) (.int (Int32.ofNat (wSl.getD i 0))) ∈ kgv := kg_in ((List.range 10).map fun i => Cond.eq (.length (.field (kw i) "java/lang/String" "value" "[B")) (.int (Int32.ofNat (wSl.getD i 0)))) [1126, 1136, 1147, 1155, 1175, 1183, 1193, 1203, 1212, 1222] (by decide +kernel) _ (List.mem_map.mpr ⟨i, List.mem_range.mpr h, rfl⟩)
theorem kg_elw {i j : Nat} (h : i < 10) (hj : j < wSl.getD i 0) : Cond.eq (.elem (.field (kw i) "java/lang/String" "value" "[B") (.int (Int32.ofNat j))) (.int ((wSb.getD i []).getD j 0)) ∈ kgv := kg_in ((List.range 10).flatMap fun i => (List.range (wSl.getD i 0)).map fun j => Cond.eq (.elem (.field (kw i) "java/lang/String" "value" "[B") (.int (Int32.ofNat j))) (.int ((wSb.getD i []).getD j 0))) [1127, 1128, 1129, 1130, 1131, 1132, 1137, 1138, 1139, 1140, 1141, 1142, 1143, 1148, 1149, 1150, 1151, 1156, 1157, 1158, 1159, 1160, 1161, 1162, 1163, 1164, 1165, 1166, 1167, 1168, 1169, 1170, 1171, 1176, 1177, 1178, 1179, 1184, 1185, 1186, 1187, 1188, 1189, 1194, 1195, 1196, 1197, 1198, 1199, 1204, 1205, 1206, 1207, 1208, 1213, 1214, 1215, 1216, 1217, 1218, 1223, 1224, 1225, 1226, 1227, 1228, 1229, 1230, 1231, 1232] (by decide +kernel) _ (List.mem_flatMap.mpr ⟨i, List.mem_range.mpr h, List.mem_map.mpr ⟨j, List.mem_range.mpr hj, rfl⟩⟩)
/-- the texts are apart -/
theorem kt_new : ∀ i j : Nat, i < 10 → j < 10 → i ≠ j → wSl.getD i 0 ≠ wSl.getD j 0 ∨ ∃ p : Nat, p < wSl.getD i 0 ∧ p < wSl.getD j 0 ∧ (wSb.getD i []).getD p 0 ≠ (wSb.getD j []).getD p 0 := by
  have h : ((List.range 10).all fun i => (List.range 10).all fun j => Nat.beq i j || !(Nat.beq (wSl.getD i 0) (wSl.getD j 0)) || (List.range (wSl.getD i 0)).any fun p => Nat.blt p (wSl.getD j 0) && !((wSb.getD i []).getD p 0 == (wSb.getD j []).getD p 0)) = true := by decide +kernel
  intro i j hi hj hn
  have h1 := List.all_eq_true.mp (List.all_eq_true.mp h i (List.mem_range.mpr hi)) j (List.mem_range.mpr hj)
  simp only [Bool.or_eq_true] at h1
  rcases h1 with (h1 | h1) | h1
  · exact absurd (Nat.eq_of_beq_eq_true h1) hn
  · left
    intro e
    rw [e, Nat.beq_refl] at h1
    cases h1
  · right
    obtain ⟨p, hp, h2⟩ := List.any_eq_true.mp h1
    rw [Bool.and_eq_true] at h2
    refine ⟨p, List.mem_range.mp hp, Nat.le_of_ble_eq_true h2.1, fun e => ?_⟩
    rw [e] at h2
    simp at h2
theorem kt_smw {i : Nat} (hi : i < 10) : wSl.getD i 0 < 2 ^ 31 := by
  have h : ((List.range 10).all fun i => Nat.blt (wSl.getD i 0) (2 ^ 31)) = true := by decide +kernel
  exact Nat.le_of_ble_eq_true (List.all_eq_true.mp h i (List.mem_range.mpr hi))
theorem kg_d1 {j : Nat} (hj : j < 100) : Cond.eq (.elem (.static "java/lang/Integer" "DigitOnes" "[B") (.int (Int32.ofNat j))) (.int (zi (48 + (j : Int) % 10))) ∈ kgv := kg_in ((List.range 100).map fun j => Cond.eq (.elem (.static "java/lang/Integer" "DigitOnes" "[B") (.int (Int32.ofNat j))) (.int (zi (48 + (j : Int) % 10)))) [28, 29, 30, 31, 32, 33, 34, 35, 36, 37, 38, 39, 40, 41, 42, 43, 44, 45, 46, 47, 48, 49, 50, 51, 52, 53, 54, 55, 56, 57, 58, 59, 60, 61, 62, 63, 64, 65, 66, 67, 68, 69, 70, 71, 72, 73, 74, 75, 76, 77, 78, 79, 80, 81, 82, 83, 84, 85, 86, 87, 88, 89, 90, 91, 92, 93, 94, 95, 96, 97, 98, 99, 100, 101, 102, 103, 104, 105, 106, 107, 108, 109, 110, 111, 112, 113, 114, 115, 116, 117, 118, 119, 120, 121, 122, 123, 124, 125, 126, 127] (by decide +kernel) _ (List.mem_map.mpr ⟨j, List.mem_range.mpr hj, rfl⟩)
theorem kg_d2 {j : Nat} (hj : j < 100) : Cond.eq (.elem (.static "java/lang/Integer" "DigitTens" "[B") (.int (Int32.ofNat j))) (.int (zi (48 + (j : Int) / 10))) ∈ kgv := kg_in ((List.range 100).map fun j => Cond.eq (.elem (.static "java/lang/Integer" "DigitTens" "[B") (.int (Int32.ofNat j))) (.int (zi (48 + (j : Int) / 10)))) [131, 132, 133, 134, 135, 136, 137, 138, 139, 140, 141, 142, 143, 144, 145, 146, 147, 148, 149, 150, 151, 152, 153, 154, 155, 156, 157, 158, 159, 160, 161, 162, 163, 164, 165, 166, 167, 168, 169, 170, 171, 172, 173, 174, 175, 176, 177, 178, 179, 180, 181, 182, 183, 184, 185, 186, 187, 188, 189, 190, 191, 192, 193, 194, 195, 196, 197, 198, 199, 200, 201, 202, 203, 204, 205, 206, 207, 208, 209, 210, 211, 212, 213, 214, 215, 216, 217, 218, 219, 220, 221, 222, 223, 224, 225, 226, 227, 228, 229, 230] (by decide +kernel) _ (List.mem_map.mpr ⟨j, List.mem_range.mpr hj, rfl⟩)
/-- one text in the heap -/
def kT1 (s : State) (len : Nat) (byt : List Int32) (q : Nat × Nat) : Prop := va_O "java/lang/String" q.1 (fun a => s.heap.size ≤ a) s s.heap ∧ va_OF "java/lang/String" "coder" "B" (.int 0) q.1 (fun a => s.heap.size ≤ a) s s.heap ∧ va_OF "java/lang/String" "value" "[B" (.ref q.2) q.1 (fun a => s.heap.size ≤ a) s s.heap ∧ va_T .byte q.2 len (fun j => .int (byt.getD j 0)) (fun a => s.heap.size ≤ a) s s.heap
section START
variable {s : State} {args : Array Value}
theorem kT1_of {t : Term} {len : Nat} {byt : List Int32} (hsm : len < 2 ^ 31) (h1 : (Cond.exactly t "java/lang/String").before args s = true) (h2 : (Cond.eq (.field t "java/lang/String" "coder" "B") (.int 0)).before args s = true) (h3 : (Cond.arrayOf (.field t "java/lang/String" "value" "[B") .byte).before args s = true) (h4 : (Cond.eq (.length (.field t "java/lang/String" "value" "[B")) (.int (Int32.ofNat len))).before args s = true) (h5 : ∀ j, j < len → (Cond.eq (.elem (.field t "java/lang/String" "value" "[B") (.int (Int32.ofNat j))) (.int (byt.getD j 0))).before args s = true) : ∃ q : Nat × Nat, t.eval args s none [] s = some (.ref q.1) ∧ kT1 s len byt q := by
  have hA : ∀ a : Nat, a < s.heap.size → ¬ (fun a => s.heap.size ≤ a) a := fun a h => Nat.not_le.mpr h
  have z : ∀ {k : Nat}, k < 1 → k = 0 := fun h => by omega
  obtain ⟨adK, adV, h, he⟩ := vk_Sof (args := args) (s := s) (N := 1) (tm := fun _ => t) (len := [len]) (byt := [byt]) (A := fun a => s.heap.size ≤ a) (fun k hk => by rw [z hk]; exact hsm) (fun k hk => h1) (fun k hk => h2) (fun k hk => h3) (fun k hk => by rw [z hk]; exact h4) (fun k hk j hj => by rw [z hk] at hj ⊢; exact h5 j hj) (fun k k2 hk hk2 hn => absurd ((z hk).trans (z hk2).symm) hn) hA
  obtain ⟨h1, h2, h3, h4⟩ := h.1 0 (by decide)
  exact ⟨(adK 0, adV 0), he 0 (by decide), h1, h2, h3, h4⟩
theorem kOF_eq {o n d : String} {v w : Value} {t : Nat} {A : Nat → Prop} {U : State} {H : Heap} (h1 : va_OF o n d v t A U H) (h2 : va_OF o n d w t A U H) : v = w := by
  obtain ⟨cf, k, i, f, cell, a1, a2, a3, a4, a5, a6⟩ := h1
  obtain ⟨cf', k', i', f', cell', b1, b2, b3, b4, b5, b6⟩ := h2
  rw [a1] at b1
  cases b1
  rw [a3] at b3
  cases b3
  rw [a5] at b5
  exact Option.some.inj b5
theorem kT1_ne {n m : Nat} {x y : List Int32} {q r : Nat × Nat} (hn : n < 2 ^ 31) (hm : m < 2 ^ 31) (hne : n ≠ m ∨ ∃ p : Nat, p < n ∧ p < m ∧ x.getD p 0 ≠ y.getD p 0) (h1 : kT1 s n x q) (h2 : kT1 s m y r) (e : q.1 = r.1) : False := by
  obtain ⟨-, -, a1, a2⟩ := h1
  obtain ⟨-, -, b1, b2⟩ := h2
  rw [← e] at b1
  have e2 : q.2 = r.2 := by
    have := kOF_eq a1 b1
    injection this
  rw [← e2] at b2
  obtain ⟨cell, c1, c2, c3, c4, c5, c6, c7⟩ := a2
  obtain ⟨cell', d1, d2, d3, d4, d5, d6, d7⟩ := b2
  rw [c1] at d1
  cases d1
  rcases hne with h | ⟨p, p1, p2, p3⟩
  · rw [c5] at d5
    have d6 := congrArg Int32.toInt d5
    rw [Int32.toInt_ofNat_of_lt hn, Int32.toInt_ofNat_of_lt hm] at d6
    exact h (by omega)
  · have := (c6 p p1).symm.trans (d6 p p2)
    have := Option.some.inj this
    injection this with this
    exact p3 this
/-- the given addresses by number -/
def k9a (b x y x2 y2 : Nat) (K V K2 V2 : Nat → Nat) (k : Nat) : Nat := bif Nat.beq k 300 then x else bif Nat.beq k 301 then y else bif Nat.beq k 302 then x2 else bif Nat.beq k 303 then y2 else bif Nat.beq k 310 then b else bif Nat.blt k 330 then K (k - 320) else bif Nat.blt k 340 then K2 (k - 330) else bif Nat.blt k 350 then V (k - 340) else V2 (k - 350)
section K9A
variable {b x y x2 y2 : Nat} {K V K2 V2 : Nat → Nat} {i : Nat}
theorem k9a_K (h : i < 10) : k9a b x y x2 y2 K V K2 V2 (320 + i) = K i ∧ k9a b x y x2 y2 K V K2 V2 (340 + i) = V i := by
  rcases (show i = 0 ∨ i = 1 ∨ i = 2 ∨ i = 3 ∨ i = 4 ∨ i = 5 ∨ i = 6 ∨ i = 7 ∨ i = 8 ∨ i = 9 by omega) with rfl | rfl | rfl | rfl | rfl | rfl | rfl | rfl | rfl | rfl <;> exact ⟨rfl, rfl⟩
theorem k9a_W (h : i < 10) : k9a b x y x2 y2 K V K2 V2 (330 + i) = K2 i ∧ k9a b x y x2 y2 K V K2 V2 (350 + i) = V2 i := by
  rcases (show i = 0 ∨ i = 1 ∨ i = 2 ∨ i = 3 ∨ i = 4 ∨ i = 5 ∨ i = 6 ∨ i = 7 ∨ i = 8 ∨ i = 9 by omega) with rfl | rfl | rfl | rfl | rfl | rfl | rfl | rfl | rfl | rfl <;> exact ⟨rfl, rfl⟩
end K9A
theorem kSt_at : ∀ q ∈ zSt, ∃ i, i < 10 ∧ q.2.2.2 = 320 + i ∧ kt i = .string q.1 q.2.1 := by
  intro q hq
  obtain ⟨i, hi⟩ := List.getElem?_of_mem hq
  have hl : i < 10 := (List.getElem?_eq_some_iff.mp hi).1
  have h : ((List.range 10).all fun i => (zSt.getD i ("", 0, "", 0)).2.2.2 == 320 + i) = true := by decide +kernel
  have hd : zSt.getD i ("", 0, "", 0) = q := by
    rw [List.getD_eq_getElem?_getD, hi]
    rfl
  refine ⟨i, hl, ?_, ?_⟩
  · have := eq_of_beq (List.all_eq_true.mp h i (List.mem_range.mpr hl))
    rw [hd] at this
    exact this
  · unfold kt
    rw [hd]
theorem kWt_at : ∀ q ∈ wSt, ∃ i, i < 10 ∧ q.2.2 = 330 + i ∧ kw i = .string "FalseLightMarshLaw" q.1 := by
  intro q hq
  obtain ⟨i, hi⟩ := List.getElem?_of_mem hq
  have hl : i < 10 := (List.getElem?_eq_some_iff.mp hi).1
  have h : ((List.range 10).all fun i => (wSt.getD i (0, "", 0)).2.2 == 330 + i) = true := by decide +kernel
  have hd : wSt.getD i (0, "", 0) = q := by
    rw [List.getD_eq_getElem?_getD, hi]
    rfl
  refine ⟨i, hl, ?_, ?_⟩
  · have := eq_of_beq (List.all_eq_true.mp h i (List.mem_range.mpr hl))
    rw [hd] at this
    exact this
  · unfold kw
    rw [hd]
theorem k_arr {ty : FieldType} (hp : ∀ C, ty ≠ .object C) (h : (Cond.arrayClass ty).before args s = true) : ∃ cA : ClassId, ArrOfT s cA ty ∧ va_RA s cA ty := by
  obtain ⟨c, k, comp, h1, h2, h3⟩ := Cond.arrayClass_spec h
  refine ⟨c, fun n z => ⟨(fun k h => by cases h), k, h2, comp, h3⟩, ?_⟩
  cases ty with
  | object C => exact absurd rfl (hp C)
  | _ => exact h1
theorem k_arrO {C : String} (h : (Cond.arrayOver (.object C)).before args s = true) : ∃ cA : ClassId, ArrOfT s cA (.object C) ∧ va_RA s cA (.object C) := by
  obtain ⟨comp, c, k, h1, -, h3, h4, h5⟩ := Cond.arrayOver_spec h
  exact ⟨c, fun n z => ⟨(fun k h => by cases h), k, h3, comp, h4⟩, k, comp, h3, h4, h1, h5⟩
theorem k_arrA {t : FieldType} (h : w_AOA t s) : ∃ cA : ClassId, ArrOfT s cA (.array t) ∧ va_RA s cA (.array t) := by
  obtain ⟨comp, c, k, h1, -, h3, h4, h5⟩ := h.spec
  exact ⟨c, fun n z => ⟨(fun k h => by cases h), k, h3, comp, h4⟩, h5⟩
/-- the classes, as the tables have them -/
theorem k_wK (hts : ∀ w ∈ lw_tbl, w.before args s = true) : ∃ (D : va_G) (cA : Nat → ClassId), wK D cA s ∧ kK D cA s := by
  have htz : ∀ w ∈ zTs, w.before args s = true := fun w hw => hts w (List.mem_filter.mp hw).1
  have hc : ∀ c : Nat, ∃ x : ClassId × (Nat → Nat), ∀ q : vw_C, vwCl[c]? = some q → u_Kn s q.1 q.2.1 q.2.2 x.1 x.2 := by
    intro c
    match c with
    | 0 =>
      obtain ⟨k0, iS, h⟩ := u_known (C := RX0) (T := TX0) (N := 4) (n := 4) htz inX0 (hts (.instantiable RX0 4) (List.mem_of_getElem? (i := 279) (by decide +kernel)))
      exact ⟨(k0, iS), fun q hq => by cases hq; exact h⟩
    | 1 =>
      obtain ⟨k0, iS, h⟩ := u_known (C := RX1) (T := TX1) (N := 3) (n := 3) htz inX1 (hts (.instantiable RX1 3) (List.mem_of_getElem? (i := 75) (by decide +kernel)))
      exact ⟨(k0, iS), fun q hq => by cases hq; exact h⟩
    | 2 =>
      obtain ⟨k0, iS, h⟩ := u_known (C := RX2) (T := TX2) (N := 3) (n := 3) htz inX2 (hts (.instantiable RX2 3) (List.mem_of_getElem? (i := 221) (by decide +kernel)))
      exact ⟨(k0, iS), fun q hq => by cases hq; exact h⟩
    | 3 =>
      obtain ⟨k0, iS, h⟩ := u_known (C := RX3) (T := TX3) (N := 5) (n := 5) htz inX3 (hts (.instantiable RX3 5) (List.mem_of_getElem? (i := 105) (by decide +kernel)))
      exact ⟨(k0, iS), fun q hq => by cases hq; exact h⟩
    | 4 =>
      obtain ⟨k0, iS, h⟩ := u_known (C := RX4) (T := TX4) (N := 1) (n := 1) htz inX4 (hts (.instantiable RX4 1) (List.mem_of_getElem? (i := 272) (by decide +kernel)))
      exact ⟨(k0, iS), fun q hq => by cases hq; exact h⟩
    | 5 =>
      obtain ⟨k0, iS, h⟩ := u_known (C := RX5) (T := TX5) (N := 7) (n := 7) htz inX5 (hts (.instantiable RX5 7) (List.mem_of_getElem? (i := 241) (by decide +kernel)))
      exact ⟨(k0, iS), fun q hq => by cases hq; exact h⟩
    | 6 =>
      obtain ⟨k0, iS, h⟩ := u_known (C := RX6) (T := TX6) (N := 8) (n := 8) htz inX6 (hts (.instantiable RX6 8) (List.mem_of_getElem? (i := 139) (by decide +kernel)))
      exact ⟨(k0, iS), fun q hq => by cases hq; exact h⟩
    | 7 =>
      obtain ⟨k0, iS, h⟩ := u_known (C := RX7) (T := TX7) (N := 6) (n := 6) htz inX7 (hts (.instantiable RX7 6) (List.mem_of_getElem? (i := 69) (by decide +kernel)))
      exact ⟨(k0, iS), fun q hq => by cases hq; exact h⟩
    | 8 =>
      obtain ⟨k0, iS, h⟩ := u_known (C := RX8) (T := TX8) (N := 11) (n := 11) htz inX8 (hts (.instantiable RX8 11) (List.mem_of_getElem? (i := 61) (by decide +kernel)))
      exact ⟨(k0, iS), fun q hq => by cases hq; exact h⟩
    | 9 =>
      obtain ⟨k0, iS, h⟩ := u_known (C := RJ0) (T := TJ0) (N := 4) (n := 4) htz inJ0 (hts (.instantiable RJ0 4) (List.mem_of_getElem? (i := 1304) (by decide +kernel)))
      exact ⟨(k0, iS), fun q hq => by cases hq; exact h⟩
    | 10 =>
      obtain ⟨k0, iS, h⟩ := u_known (C := RJ4) (T := TJ4) (N := 4) (n := 4) htz inJ4 (hts (.instantiable RJ4 4) (List.mem_of_getElem? (i := 1115) (by decide +kernel)))
      exact ⟨(k0, iS), fun q hq => by cases hq; exact h⟩
    | c + 11 => exact ⟨(0, fun _ => 0), fun q hq => by simp [vwCl] at hq⟩
  obtain ⟨c1, a1⟩ := k_arr (ty := .int) (fun C h => by cases h) (hts _ (List.mem_of_getElem? (i := 103) (by decide +kernel)))
  obtain ⟨c2, a2⟩ := k_arr (ty := .byte) (fun C h => by cases h) (hts _ (List.mem_of_getElem? (i := 270) (by decide +kernel)))
  obtain ⟨c3, a3⟩ := k_arr (ty := .boolean) (fun C h => by cases h) (hts _ (List.mem_of_getElem? (i := 269) (by decide +kernel)))
  obtain ⟨c7, a7⟩ := k_arr (ty := .char) (fun C h => by cases h) (hts _ (List.mem_of_getElem? (i := 1369) (by decide +kernel)))
  obtain ⟨c5, a5⟩ := k_arrO (C := "FalseLightMarsh$World") (hts _ (List.mem_of_getElem? (i := 227) (by decide +kernel)))
  obtain ⟨c6, a6⟩ := k_arrO (C := "FalseLightMarsh$Distances") (hts _ (List.mem_of_getElem? (i := 278) (by decide +kernel)))
  have o8 : w_AOA .int s := hts (Cond.arrayOver (.array .int)) (List.mem_of_getElem? (i := 1401) (by decide +kernel))
  have o9 : w_AOA .char s := hts (Cond.arrayOver (.array .char)) (List.mem_of_getElem? (i := 1287) (by decide +kernel))
  have o10 : w_AOA .boolean s := hts (Cond.arrayOver (.array .boolean)) (List.mem_of_getElem? (i := 1293) (by decide +kernel))
  obtain ⟨c8, a8⟩ := k_arrA o8
  obtain ⟨c9, a9⟩ := k_arrA o9
  obtain ⟨c10, a10⟩ := k_arrA o10
  have hW : wK (fun c => (Classical.choose (hc c)).1, fun c => (Classical.choose (hc c)).2) (fun k => match k with | 1 => c1 | 2 => c2 | 3 => c3 | 4 => c1 | 5 => c5 | 6 => c6 | 7 => c7 | 8 => c8 | 9 => c9 | _ => c10) s := by
    refine ⟨⟨fun c q hq => Classical.choose_spec (hc c) q hq, ?_⟩, o8, o9, o10⟩
    intro k q hq
    match k, hq with
    | 0, hq => cases hq; exact a1
    | 1, hq => cases hq; exact a2
    | 2, hq => cases hq; exact a3
    | 3, hq => cases hq; exact a1
    | 4, hq => cases hq; exact a5
    | 5, hq => cases hq; exact a6
    | 6, hq => cases hq; exact a7
    | 7, hq => cases hq; exact a8
    | 8, hq => cases hq; exact a9
    | 9, hq => cases hq; exact a10
    | k + 10, hq => simp [w_ty] at hq
  exact ⟨_, _, hW, wK_z hW, va_AO.of (hts _ (List.mem_of_getElem? (i := 227) (by decide +kernel))), va_AO.of (hts _ (List.mem_of_getElem? (i := 278) (by decide +kernel)))⟩

theorem k_sel {q : MethodName} (hq : q ∈ wPv) {cc : ClassId} (hfc : s.vm.findClass "java/lang/StringBuilder" = some cc) (hts : ∀ w ∈ lw_tbl, w.before args s = true) : (Cond.selects "java/lang/StringBuilder" q q).before args s = true := by
  unfold wPv at hq
  simp only [List.mem_cons, List.not_mem_nil, or_false] at hq
  rcases hq with rfl | rfl | rfl | rfl
  · exact w_selP hfc (hts _ (List.mem_of_getElem? (i := 1447) (by decide +kernel))) (hts _ (List.mem_of_getElem? (i := 1153) (by decide +kernel))) (hts _ (List.mem_of_getElem? (i := 1154) (by decide +kernel))) ⟨by decide, by decide⟩
  · exact w_selP hfc (hts _ (List.mem_of_getElem? (i := 1448) (by decide +kernel))) (hts _ (List.mem_of_getElem? (i := 1157) (by decide +kernel))) (hts _ (List.mem_of_getElem? (i := 1158) (by decide +kernel))) ⟨by decide, by decide⟩
  · exact w_selP hfc (hts _ (List.mem_of_getElem? (i := 1449) (by decide +kernel))) (hts _ (List.mem_of_getElem? (i := 1202) (by decide +kernel))) (hts _ (List.mem_of_getElem? (i := 1203) (by decide +kernel))) ⟨by decide, by decide⟩
  · exact w_selP hfc (hts _ (List.mem_of_getElem? (i := 1450) (by decide +kernel))) (hts _ (List.mem_of_getElem? (i := 1206) (by decide +kernel))) (hts _ (List.mem_of_getElem? (i := 1207) (by decide +kernel))) ⟨by decide, by decide⟩
/-- what holds of statics and constants at the start -/
theorem k_wZ {b L : Nat} {xs : Nat → Int32} {D : va_G} {cA : Nat → ClassId} (hK : wK D cA s) (hts : ∀ w ∈ lw_tbl, w.before args s = true) (hg : ∀ w ∈ kgv, w.before args s = true) (hX : va_X b L xs s s.heap) (hbl : b < s.heap.size) : ∃ a0 : Nat → Nat, a0 310 = b ∧ wZ (L, xs) (fun q => s.heap.size ≤ q) a0 s s.heap := by
  have hA : ∀ a : Nat, a < s.heap.size → ¬ (fun a => s.heap.size ≤ a) a := fun a h => Nat.not_le.mpr h
  have hT : ∀ i : Nat, ∃ q : Nat × Nat, i < 10 → (kt i).eval args s none [] s = some (.ref q.1) ∧ kT1 s (zSl.getD i 0) (zSb.getD i []) q := by
    intro i
    by_cases hi : i < 10
    · obtain ⟨q, h⟩ := kT1_of (kt_sm hi) (hg _ (kg_ex hi)) (hg _ (kg_co hi)) (hg _ (kg_ar hi)) (hg _ (kg_le hi)) (fun j hj => hg _ (kg_el hi hj))
      exact ⟨q, fun _ => h⟩
    · exact ⟨(0, 0), fun h => absurd h hi⟩
  have hU : ∀ i : Nat, ∃ q : Nat × Nat, i < 10 → (kw i).eval args s none [] s = some (.ref q.1) ∧ kT1 s (wSl.getD i 0) (wSb.getD i []) q := by
    intro i
    by_cases hi : i < 10
    · obtain ⟨q, h⟩ := kT1_of (kt_smw hi) (hg _ (kg_exw hi)) (hg _ (kg_cow hi)) (hg _ (kg_arw hi)) (hg _ (kg_lew hi)) (fun j hj => hg _ (kg_elw hi hj))
      exact ⟨q, fun _ => h⟩
    · exact ⟨(0, 0), fun h => absurd h hi⟩
  obtain ⟨-, hca⟩ := hK.1.1 10 (RJ4, TJ4, 4) rfl
  have hfc : s.vm.findClass "java/lang/StringBuilder" = some (D.1 10) := hca.1
  obtain ⟨x, ex, tx⟩ := va_Tof (args := args) (s := s) (tm := (.static "FalseLightMarsh" "STEP_X" "[I")) (ty := .int) (N := 4) (f := fun j => .int (([0, 1, 0, -1] : List Int32).getD j 0)) (A := fun q => s.heap.size ≤ q) (by decide) (hg _ (List.mem_of_getElem? (i := 12) (by decide +kernel))) (va_eqt (z := 4) (hg _ (List.mem_of_getElem? (i := 13) (by decide +kernel)))) (fun j hj => by
    rcases (show j = 0 ∨ j = 1 ∨ j = 2 ∨ j = 3 by omega) with rfl | rfl | rfl | rfl
    · exact va_eqt (hg (Cond.eq (.elem (.static "FalseLightMarsh" "STEP_X" "[I") (.int 0)) (.int (0))) (List.mem_of_getElem? (i := 14) (by decide +kernel)))
    · exact va_eqt (hg (Cond.eq (.elem (.static "FalseLightMarsh" "STEP_X" "[I") (.int 1)) (.int (1))) (List.mem_of_getElem? (i := 15) (by decide +kernel)))
    · exact va_eqt (hg (Cond.eq (.elem (.static "FalseLightMarsh" "STEP_X" "[I") (.int 2)) (.int (0))) (List.mem_of_getElem? (i := 16) (by decide +kernel)))
    · exact va_eqt (hg (Cond.eq (.elem (.static "FalseLightMarsh" "STEP_X" "[I") (.int 3)) (.int (-1))) (List.mem_of_getElem? (i := 17) (by decide +kernel)))) hA
  have zx := va_Zof (A := fun q => s.heap.size ≤ q) (hts _ (List.mem_of_getElem? (i := 741) (by decide +kernel))) (hts _ (List.mem_of_getElem? (i := 32) (by decide +kernel))) ex hA
  obtain ⟨y, ey, ty⟩ := va_Tof (args := args) (s := s) (tm := (.static "FalseLightMarsh" "STEP_Y" "[I")) (ty := .int) (N := 4) (f := fun j => .int (([-1, 0, 1, 0] : List Int32).getD j 0)) (A := fun q => s.heap.size ≤ q) (by decide) (hg _ (List.mem_of_getElem? (i := 19) (by decide +kernel))) (va_eqt (z := 4) (hg _ (List.mem_of_getElem? (i := 20) (by decide +kernel)))) (fun j hj => by
    rcases (show j = 0 ∨ j = 1 ∨ j = 2 ∨ j = 3 by omega) with rfl | rfl | rfl | rfl
    · exact va_eqt (hg (Cond.eq (.elem (.static "FalseLightMarsh" "STEP_Y" "[I") (.int 0)) (.int (-1))) (List.mem_of_getElem? (i := 21) (by decide +kernel)))
    · exact va_eqt (hg (Cond.eq (.elem (.static "FalseLightMarsh" "STEP_Y" "[I") (.int 1)) (.int (0))) (List.mem_of_getElem? (i := 22) (by decide +kernel)))
    · exact va_eqt (hg (Cond.eq (.elem (.static "FalseLightMarsh" "STEP_Y" "[I") (.int 2)) (.int (1))) (List.mem_of_getElem? (i := 23) (by decide +kernel)))
    · exact va_eqt (hg (Cond.eq (.elem (.static "FalseLightMarsh" "STEP_Y" "[I") (.int 3)) (.int (0))) (List.mem_of_getElem? (i := 24) (by decide +kernel)))) hA
  have zy := va_Zof (A := fun q => s.heap.size ≤ q) (hts _ (List.mem_of_getElem? (i := 743) (by decide +kernel))) (hts _ (List.mem_of_getElem? (i := 32) (by decide +kernel))) ey hA
  obtain ⟨x2, ex2, tx2⟩ := va_Tof (args := args) (s := s) (tm := (.static "java/lang/Integer" "DigitOnes" "[B")) (ty := .byte) (N := 100) (f := fun j => .int (zi (48 + (j : Int) % 10))) (A := fun q => s.heap.size ≤ q) (by decide) (hg _ (List.mem_of_getElem? (i := 26) (by decide +kernel))) (va_eqt (z := 100) (hg _ (List.mem_of_getElem? (i := 27) (by decide +kernel)))) (fun j hj => va_eqt (hg _ (kg_d1 hj))) hA
  have zx2 := va_Zof (A := fun q => s.heap.size ≤ q) (hts _ (List.mem_of_getElem? (i := 1260) (by decide +kernel))) (hts _ (List.mem_of_getElem? (i := 59) (by decide +kernel))) ex2 hA
  obtain ⟨y2, ey2, ty2⟩ := va_Tof (args := args) (s := s) (tm := (.static "java/lang/Integer" "DigitTens" "[B")) (ty := .byte) (N := 100) (f := fun j => .int (zi (48 + (j : Int) / 10))) (A := fun q => s.heap.size ≤ q) (by decide) (hg _ (List.mem_of_getElem? (i := 129) (by decide +kernel))) (va_eqt (z := 100) (hg _ (List.mem_of_getElem? (i := 130) (by decide +kernel)))) (fun j hj => va_eqt (hg _ (kg_d2 hj))) hA
  have zy2 := va_Zof (A := fun q => s.heap.size ≤ q) (hts _ (List.mem_of_getElem? (i := 1262) (by decide +kernel))) (hts _ (List.mem_of_getElem? (i := 59) (by decide +kernel))) ey2 hA
  obtain ⟨fK, hK9⟩ : ∃ f : Nat → Nat × Nat, ∀ i, i < 10 → (kt i).eval args s none [] s = some (.ref (f i).1) ∧ kT1 s (zSl.getD i 0) (zSb.getD i []) (f i) := ⟨fun i => Classical.choose (hT i), fun i hi => Classical.choose_spec (hT i) hi⟩
  obtain ⟨fW, hW9⟩ : ∃ f : Nat → Nat × Nat, ∀ i, i < 10 → (kw i).eval args s none [] s = some (.ref (f i).1) ∧ kT1 s (wSl.getD i 0) (wSb.getD i []) (f i) := ⟨fun i => Classical.choose (hU i), fun i hi => Classical.choose_spec (hU i) hi⟩
  have eK : ∀ i, i < 10 → k9a b x y x2 y2 (fun i => (fK i).1) (fun i => (fK i).2) (fun i => (fW i).1) (fun i => (fW i).2) (320 + i) = (fK i).1 ∧ k9a b x y x2 y2 (fun i => (fK i).1) (fun i => (fK i).2) (fun i => (fW i).1) (fun i => (fW i).2) (340 + i) = (fK i).2 := fun i hi => k9a_K hi
  have eW : ∀ i, i < 10 → k9a b x y x2 y2 (fun i => (fK i).1) (fun i => (fK i).2) (fun i => (fW i).1) (fun i => (fW i).2) (330 + i) = (fW i).1 ∧ k9a b x y x2 y2 (fun i => (fK i).1) (fun i => (fK i).2) (fun i => (fW i).1) (fun i => (fW i).2) (350 + i) = (fW i).2 := fun i hi => k9a_W hi
  refine ⟨k9a b x y x2 y2 (fun i => (fK i).1) (fun i => (fK i).2) (fun i => (fW i).1) (fun i => (fW i).2), rfl, ⟨⟨fun q hq => va_Nw.of rfl (hts _ (kl_NM q hq)), fun q hq => va_Nw.of rfl (hts _ (kl_NF q hq)), fun q hq => va_Nw.of rfl (hts _ (kl_Ca q hq)), fun q hq => va_Nc.of (hg _ (kg_Nc q hq)), fun q hq => ?_, fun q hq => ?_, fun q hq => va_Nw.of rfl (hts _ (kl_De q hq))⟩, vx_Zqof (hts _ (List.mem_of_getElem? (i := 586) (by decide +kernel))) (hts _ (List.mem_of_getElem? (i := 46) (by decide +kernel))) (hg _ (List.mem_of_getElem? (i := 9) (by decide +kernel))) hA, vx_Zqof (hts _ (List.mem_of_getElem? (i := 588) (by decide +kernel))) (hts _ (List.mem_of_getElem? (i := 46) (by decide +kernel))) (hg _ (List.mem_of_getElem? (i := 10) (by decide +kernel))) hA, ⟨fun i hi => ?_, fun i j hi hj e => ?_⟩, zx, tx, zy, ty, va_Zof (hts _ (List.mem_of_getElem? (i := 319) (by decide +kernel))) (hts _ (List.mem_of_getElem? (i := 41) (by decide +kernel))) (va_eqt (hg _ (List.mem_of_getElem? (i := 4) (by decide +kernel)))) hA, va_Zqof (hts _ (List.mem_of_getElem? (i := 335) (by decide +kernel))) (hts _ (List.mem_of_getElem? (i := 43) (by decide +kernel))) (hg _ (List.mem_of_getElem? (i := 5) (by decide +kernel))) hA, hX, hbl, hA b hbl⟩, fun q hq => ?_, ⟨fun i hi => ?_, fun i j hi hj e => ?_⟩, zx2, tx2, zy2, ty2, va_Nw.of rfl (hts (Cond.castable "[B" "java/lang/Cloneable") (List.mem_of_getElem? (i := 1176) (by decide +kernel))), fun q hq => va_Nw.of rfl (k_sel hq hfc hts)⟩
  · obtain ⟨a, -, -, -, q1, -⟩ := Cond.exactly_spec (hg _ (kg_Ms q hq))
    exact ⟨a, vk_R.of (hts _ (kl_Ms q hq)) q1⟩
  · obtain ⟨i, hi, e1, e2⟩ := kSt_at q hq
    rw [e1, (eK i hi).1]
    refine vk_R.of (hts _ (kl_St q hq)) ?_
    rw [← e2]
    exact (hK9 i hi).1
  · have h := (hK9 i hi).2
    dsimp only
    rw [(eK i hi).1, (eK i hi).2]
    exact h
  · dsimp only at e
    rw [(eK i hi).1, (eK j hj).1] at e
    exact Decidable.byContradiction (fun hn => kT1_ne (kt_sm hi) (kt_sm hj) (kt_ne i j hi hj hn) (hK9 i hi).2 (hK9 j hj).2 e)
  · obtain ⟨i, hi, e1, e2⟩ := kWt_at q hq
    rw [e1, (eW i hi).1]
    refine vk_R.of (hts _ (kl_Wt q hq)) ?_
    rw [← e2]
    exact (hW9 i hi).1
  · have h := (hW9 i hi).2
    dsimp only
    rw [(eW i hi).1, (eW i hi).2]
    exact h
  · dsimp only at e
    rw [(eW i hi).1, (eW j hj).1] at e
    exact Decidable.byContradiction (fun hn => kT1_ne (kt_smw hi) (kt_smw hj) (kt_new i j hi hj hn) (hW9 i hi).2 (hW9 j hj).2 e)
end START
