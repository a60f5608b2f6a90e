/-! The cells of the program in their order. -/
/-- all zero -/
def mem0 : Mm := (fun _ _ => 0, fun _ _ => 0, 0)
def Gz : GM := fun _ _ => 0
theorem mem0_eq : mM Gz Gz 0 = mem0 := by
  unfold mM mem0 Gz
  congr 1
theorem zrM_z : zrM Gz := fun _ _ => by show zr 0; decide
theorem zrL_z : zrL Gz := fun _ _ => by show zrl 0; decide
/-- the addresses by number -/
def k8a (a0 : Nat → Nat) (h0 qs qv qp : Nat) (f1 f2 f3 g0 g1 f5 f6 f7 : Nat → Nat) (k : Nat) : Nat :=
  bif Nat.blt k 16 then f1 k else bif Nat.blt k 32 then f2 (k - 16) else bif Nat.blt k 160 then f3 (k - 30) else bif Nat.blt k 176 then g0 (k - 160) else bif Nat.blt k 192 then g1 (k - 176) else
  bif Nat.beq k 192 then h0 else bif Nat.blt k 195 then f3 (k - 193) else bif Nat.beq k 195 then qs else bif Nat.beq k 196 then qv else bif Nat.blt k 199 then f5 (k - 197) else bif Nat.blt k 225 then f6 (k - 199) else bif Nat.blt k 228 then f7 (k - 225) else bif Nat.beq k 228 then qp else a0 k
/-- a cell by its number -/
def kcl (ad : Nat → Nat) (cA : Nat → ClassId) (k : Nat) : Nat × va_E := (ad k, z_cel ad cA k mem0)
def k8ix : List Nat := [1, 2, 3, 4, 5, 6, 7, 8, 9, 10, 11, 12, 13, 14, 15, 16, 17, 18, 19, 20, 21, 22, 23, 24, 25, 26, 27, 28, 29, 30, 31, 32, 35, 36, 37, 38, 39, 40, 41, 42, 43, 44, 45, 46, 47, 48, 49, 50, 51, 52, 53, 54, 55, 56, 57, 58, 59, 60, 61, 62, 63, 64, 65, 66, 67, 68, 69, 70, 71, 72, 73, 74, 75, 76, 77, 78, 79, 80, 81, 82, 83, 84, 85, 86, 87, 88, 89, 90, 91, 92, 93, 94, 95, 96, 97, 98, 99, 100, 101, 102, 103, 104, 105, 106, 107, 108, 109, 110, 111, 112, 113, 114, 115, 116, 117, 118, 119, 120, 121, 122, 123, 124, 125, 126, 127, 128, 129, 130, 131, 132, 133, 134, 135, 136, 137, 138, 139, 140, 141, 142, 143, 144, 145, 146, 147, 148, 149, 150, 151, 152, 153, 154, 155, 156, 157, 158, 159, 160, 161, 162, 164, 165, 166, 167, 168, 169, 170, 171, 172, 173, 174, 175, 176, 177, 178, 179, 180, 181, 182, 183, 184, 185, 186, 187, 188, 189, 190, 191, 192, 193, 194, 195, 0, 33, 34, 163, 196, 197, 198, 199, 200, 201, 202, 203, 204, 205, 206, 207, 208, 209, 210, 211, 212, 213, 214, 215, 216, 217, 218, 219, 220, 221, 222, 223, 224, 225, 226, 227, 228]
def k8iv : List Nat := [192, 0, 1, 2, 3, 4, 5, 6, 7, 8, 9, 10, 11, 12, 13, 14, 15, 16, 17, 18, 19, 20, 21, 22, 23, 24, 25, 26, 27, 28, 29, 30, 31, 193, 194, 32, 33, 34, 35, 36, 37, 38, 39, 40, 41, 42, 43, 44, 45, 46, 47, 48, 49, 50, 51, 52, 53, 54, 55, 56, 57, 58, 59, 60, 61, 62, 63, 64, 65, 66, 67, 68, 69, 70, 71, 72, 73, 74, 75, 76, 77, 78, 79, 80, 81, 82, 83, 84, 85, 86, 87, 88, 89, 90, 91, 92, 93, 94, 95, 96, 97, 98, 99, 100, 101, 102, 103, 104, 105, 106, 107, 108, 109, 110, 111, 112, 113, 114, 115, 116, 117, 118, 119, 120, 121, 122, 123, 124, 125, 126, 127, 128, 129, 130, 131, 132, 133, 134, 135, 136, 137, 138, 139, 140, 141, 142, 143, 144, 145, 146, 147, 148, 149, 150, 151, 152, 153, 154, 155, 156, 157, 158, 159, 195, 160, 161, 162, 163, 164, 165, 166, 167, 168, 169, 170, 171, 172, 173, 174, 175, 176, 177, 178, 179, 180, 181, 182, 183, 184, 185, 186, 187, 188, 189, 190, 191, 196, 197, 198, 199, 200, 201, 202, 203, 204, 205, 206, 207, 208, 209, 210, 211, 212, 213, 214, 215, 216, 217, 218, 219, 220, 221, 222, 223, 224, 225, 226, 227, 228]
theorem k8_ixv : ∀ k, k < 229 → k8iv[k8ix.getD k 0]? = some k := by
  have h : ((List.range 229).all fun k => k8iv[k8ix.getD k 0]? == some k) = true := by decide +kernel
  intro k hk
  have := List.all_eq_true.mp h k (List.mem_range.mpr hk)
  exact eq_of_beq this
theorem kcl_194 (ad : Nat → Nat) (cA : Nat → ClassId) : kcl ad cA 194 = (ad 194, .inl (cA 5, 8, .inr (.inr (.inr (.inr fun j => ([ad 32, ad 48, ad 64, ad 80, ad 96, ad 112, ad 128, ad 144] : List Nat)[j]?))))) := by
  have h : (fun j : Nat => (([32, 48, 64, 80, 96, 112, 128, 144] : List Nat)[j]?).map ad) = fun j : Nat => ([ad 32, ad 48, ad 64, ad 80, ad 96, ad 112, ad 128, ad 144] : List Nat)[j]? := by
    funext j
    rw [← List.getElem?_map]
    rfl
  rw [← h]
  rfl
theorem kcl_195 (ad : Nat → Nat) (cA : Nat → ClassId) : kcl ad cA 195 = (ad 195, .inl (cA 5, 2, .inr (.inr (.inr (.inr fun j => ([ad 160, ad 176] : List Nat)[j]?))))) := by
  have h : (fun j : Nat => (([160, 176] : List Nat)[j]?).map ad) = fun j : Nat => ([ad 160, ad 176] : List Nat)[j]? := by
    funext j
    rw [← List.getElem?_map]
    rfl
  rw [← h]
  rfl
theorem kcl_200 (ad : Nat → Nat) (cA : Nat → ClassId) : kcl ad cA 200 = (ad 200, .inl (cA 6, 8, .inr (.inr (.inr (.inr fun j => ([ad 201, ad 204, ad 207, ad 210, ad 213, ad 216, ad 219, ad 222] : List Nat)[j]?))))) := by
  have h : (fun j : Nat => (([201, 204, 207, 210, 213, 216, 219, 222] : List Nat)[j]?).map ad) = fun j : Nat => ([ad 201, ad 204, ad 207, ad 210, ad 213, ad 216, ad 219, ad 222] : List Nat)[j]? := by
    funext j
    rw [← List.getElem?_map]
    rfl
  rw [← h]
  rfl
section PERM
variable (cA : Nat → ClassId) (a0 : Nat → Nat) (h0 qs qv qp : Nat) (f1 f2 f3 g0 g1 f5 f6 f7 : Nat → Nat)
theorem k8s_f1 : kX7 cA f1 = [0, 1, 2, 3, 4, 5, 6, 7, 8, 9, 10, 11, 12, 13, 14, 15].map (kcl (k8a a0 h0 qs qv qp f1 f2 f3 g0 g1 f5 f6 f7) cA) := by
  rfl
theorem k8s_f2 : kX7 cA f2 = [16, 17, 18, 19, 20, 21, 22, 23, 24, 25, 26, 27, 28, 29, 30, 31].map (kcl (k8a a0 h0 qs qv qp f1 f2 f3 g0 g1 f5 f6 f7) cA) := by
  rfl
theorem k8s_h0 : kX7 cA (fun k => f3 (k + 2)) = [32, 33, 34, 35, 36, 37, 38, 39, 40, 41, 42, 43, 44, 45, 46, 47].map (kcl (k8a a0 h0 qs qv qp f1 f2 f3 g0 g1 f5 f6 f7) cA) := by
  rfl
theorem k8s_h1 : kX7 cA (fun k => f3 (k + 18)) = [48, 49, 50, 51, 52, 53, 54, 55, 56, 57, 58, 59, 60, 61, 62, 63].map (kcl (k8a a0 h0 qs qv qp f1 f2 f3 g0 g1 f5 f6 f7) cA) := by
  rfl
theorem k8s_h2 : kX7 cA (fun k => f3 (k + 34)) = [64, 65, 66, 67, 68, 69, 70, 71, 72, 73, 74, 75, 76, 77, 78, 79].map (kcl (k8a a0 h0 qs qv qp f1 f2 f3 g0 g1 f5 f6 f7) cA) := by
  rfl
theorem k8s_h3 : kX7 cA (fun k => f3 (k + 50)) = [80, 81, 82, 83, 84, 85, 86, 87, 88, 89, 90, 91, 92, 93, 94, 95].map (kcl (k8a a0 h0 qs qv qp f1 f2 f3 g0 g1 f5 f6 f7) cA) := by
  rfl
theorem k8s_h4 : kX7 cA (fun k => f3 (k + 66)) = [96, 97, 98, 99, 100, 101, 102, 103, 104, 105, 106, 107, 108, 109, 110, 111].map (kcl (k8a a0 h0 qs qv qp f1 f2 f3 g0 g1 f5 f6 f7) cA) := by
  rfl
theorem k8s_h5 : kX7 cA (fun k => f3 (k + 82)) = [112, 113, 114, 115, 116, 117, 118, 119, 120, 121, 122, 123, 124, 125, 126, 127].map (kcl (k8a a0 h0 qs qv qp f1 f2 f3 g0 g1 f5 f6 f7) cA) := by
  rfl
theorem k8s_h6 : kX7 cA (fun k => f3 (k + 98)) = [128, 129, 130, 131, 132, 133, 134, 135, 136, 137, 138, 139, 140, 141, 142, 143].map (kcl (k8a a0 h0 qs qv qp f1 f2 f3 g0 g1 f5 f6 f7) cA) := by
  rfl
theorem k8s_h7 : kX7 cA (fun k => f3 (k + 114)) = [144, 145, 146, 147, 148, 149, 150, 151, 152, 153, 154, 155, 156, 157, 158, 159].map (kcl (k8a a0 h0 qs qv qp f1 f2 f3 g0 g1 f5 f6 f7) cA) := by
  rfl
theorem k8s_g0 : kX7 cA g0 = [160, 161, 162, 163, 164, 165, 166, 167, 168, 169, 170, 171, 172, 173, 174, 175].map (kcl (k8a a0 h0 qs qv qp f1 f2 f3 g0 g1 f5 f6 f7) cA) := by
  rfl
theorem k8s_g1 : kX7 cA g1 = [176, 177, 178, 179, 180, 181, 182, 183, 184, 185, 186, 187, 188, 189, 190, 191].map (kcl (k8a a0 h0 qs qv qp f1 f2 f3 g0 g1 f5 f6 f7) cA) := by
  rfl
theorem k8s_d0 : kX0 cA (fun k => f6 (k + 2)) = [201, 202, 203].map (kcl (k8a a0 h0 qs qv qp f1 f2 f3 g0 g1 f5 f6 f7) cA) := by
  rfl
theorem k8s_d1 : kX0 cA (fun k => f6 (k + 5)) = [204, 205, 206].map (kcl (k8a a0 h0 qs qv qp f1 f2 f3 g0 g1 f5 f6 f7) cA) := by
  rfl
theorem k8s_d2 : kX0 cA (fun k => f6 (k + 8)) = [207, 208, 209].map (kcl (k8a a0 h0 qs qv qp f1 f2 f3 g0 g1 f5 f6 f7) cA) := by
  rfl
theorem k8s_d3 : kX0 cA (fun k => f6 (k + 11)) = [210, 211, 212].map (kcl (k8a a0 h0 qs qv qp f1 f2 f3 g0 g1 f5 f6 f7) cA) := by
  rfl
theorem k8s_d4 : kX0 cA (fun k => f6 (k + 14)) = [213, 214, 215].map (kcl (k8a a0 h0 qs qv qp f1 f2 f3 g0 g1 f5 f6 f7) cA) := by
  rfl
theorem k8s_d5 : kX0 cA (fun k => f6 (k + 17)) = [216, 217, 218].map (kcl (k8a a0 h0 qs qv qp f1 f2 f3 g0 g1 f5 f6 f7) cA) := by
  rfl
theorem k8s_d6 : kX0 cA (fun k => f6 (k + 20)) = [219, 220, 221].map (kcl (k8a a0 h0 qs qv qp f1 f2 f3 g0 g1 f5 f6 f7) cA) := by
  rfl
theorem k8s_d7 : kX0 cA (fun k => f6 (k + 23)) = [222, 223, 224].map (kcl (k8a a0 h0 qs qv qp f1 f2 f3 g0 g1 f5 f6 f7) cA) := by
  rfl
theorem k8s_t : kX0 cA f7 = [225, 226, 227].map (kcl (k8a a0 h0 qs qv qp f1 f2 f3 g0 g1 f5 f6 f7) cA) := by
  rfl
theorem k8s_r : kX5 cA f5 = [197, 198].map (kcl (k8a a0 h0 qs qv qp f1 f2 f3 g0 g1 f5 f6 f7) cA) := by
  rfl
theorem k8s_194 : [(f3 1, (.inl (cA 5, 8, .inr (.inr (.inr (.inr fun j => ([f3 2, f3 18, f3 34, f3 50, f3 66, f3 82, f3 98, f3 114] : List Nat)[j]?)))) : va_E))] = [194].map (kcl (k8a a0 h0 qs qv qp f1 f2 f3 g0 g1 f5 f6 f7) cA) := by
  rw [List.map_cons, List.map_nil, kcl_194]
  rfl
theorem k8s_195 : [(qs, (.inl (cA 5, 2, .inr (.inr (.inr (.inr fun j => ([g0 0, g1 0] : List Nat)[j]?)))) : va_E))] = [195].map (kcl (k8a a0 h0 qs qv qp f1 f2 f3 g0 g1 f5 f6 f7) cA) := by
  rw [List.map_cons, List.map_nil, kcl_195]
  rfl
theorem k8s_200 : [(f6 1, (.inl (cA 6, 8, .inr (.inr (.inr (.inr fun j => ([f6 2, f6 5, f6 8, f6 11, f6 14, f6 17, f6 20, f6 23] : List Nat)[j]?)))) : va_E))] = [200].map (kcl (k8a a0 h0 qs qv qp f1 f2 f3 g0 g1 f5 f6 f7) cA) := by
  rw [List.map_cons, List.map_nil, kcl_200]
  rfl
theorem k8s_H : kX2 cA f3 = (193 :: 194 :: [32, 33, 34, 35, 36, 37, 38, 39, 40, 41, 42, 43, 44, 45, 46, 47, 48, 49, 50, 51, 52, 53, 54, 55, 56, 57, 58, 59, 60, 61, 62, 63, 64, 65, 66, 67, 68, 69, 70, 71, 72, 73, 74, 75, 76, 77, 78, 79, 80, 81, 82, 83, 84, 85, 86, 87, 88, 89, 90, 91, 92, 93, 94, 95, 96, 97, 98, 99, 100, 101, 102, 103, 104, 105, 106, 107, 108, 109, 110, 111, 112, 113, 114, 115, 116, 117, 118, 119, 120, 121, 122, 123, 124, 125, 126, 127, 128, 129, 130, 131, 132, 133, 134, 135, 136, 137, 138, 139, 140, 141, 142, 143, 144, 145, 146, 147, 148, 149, 150, 151, 152, 153, 154, 155, 156, 157, 158, 159]).map (kcl (k8a a0 h0 qs qv qp f1 f2 f3 g0 g1 f5 f6 f7) cA) := by
  unfold kX2
  rw [k8s_h0 cA a0 h0 qs qv qp f1 f2 f3 g0 g1 f5 f6 f7, k8s_h1 cA a0 h0 qs qv qp f1 f2 f3 g0 g1 f5 f6 f7, k8s_h2 cA a0 h0 qs qv qp f1 f2 f3 g0 g1 f5 f6 f7, k8s_h3 cA a0 h0 qs qv qp f1 f2 f3 g0 g1 f5 f6 f7, k8s_h4 cA a0 h0 qs qv qp f1 f2 f3 g0 g1 f5 f6 f7, k8s_h5 cA a0 h0 qs qv qp f1 f2 f3 g0 g1 f5 f6 f7, k8s_h6 cA a0 h0 qs qv qp f1 f2 f3 g0 g1 f5 f6 f7, k8s_h7 cA a0 h0 qs qv qp f1 f2 f3 g0 g1 f5 f6 f7, k8s_194 cA a0 h0 qs qv qp f1 f2 f3 g0 g1 f5 f6 f7]
  rfl
theorem k8s_S : kX4 cA f6 = (199 :: 200 :: [201, 202, 203, 204, 205, 206, 207, 208, 209, 210, 211, 212, 213, 214, 215, 216, 217, 218, 219, 220, 221, 222, 223, 224]).map (kcl (k8a a0 h0 qs qv qp f1 f2 f3 g0 g1 f5 f6 f7) cA) := by
  unfold kX4
  rw [k8s_d0 cA a0 h0 qs qv qp f1 f2 f3 g0 g1 f5 f6 f7, k8s_d1 cA a0 h0 qs qv qp f1 f2 f3 g0 g1 f5 f6 f7, k8s_d2 cA a0 h0 qs qv qp f1 f2 f3 g0 g1 f5 f6 f7, k8s_d3 cA a0 h0 qs qv qp f1 f2 f3 g0 g1 f5 f6 f7, k8s_d4 cA a0 h0 qs qv qp f1 f2 f3 g0 g1 f5 f6 f7, k8s_d5 cA a0 h0 qs qv qp f1 f2 f3 g0 g1 f5 f6 f7, k8s_d6 cA a0 h0 qs qv qp f1 f2 f3 g0 g1 f5 f6 f7, k8s_d7 cA a0 h0 qs qv qp f1 f2 f3 g0 g1 f5 f6 f7, k8s_200 cA a0 h0 qs qv qp f1 f2 f3 g0 g1 f5 f6 f7]
  rfl
/-- the cells of the program, by their numbers -/
theorem k8_ws : k8ws cA h0 qs qv qp f1 f2 f3 g0 g1 f5 f6 f7 = k8iv.map (kcl (k8a a0 h0 qs qv qp f1 f2 f3 g0 g1 f5 f6 f7) cA) := by
  unfold k8ws
  rw [k8s_f1 cA a0 h0 qs qv qp f1 f2 f3 g0 g1 f5 f6 f7, k8s_f2 cA a0 h0 qs qv qp f1 f2 f3 g0 g1 f5 f6 f7, k8s_H cA a0 h0 qs qv qp f1 f2 f3 g0 g1 f5 f6 f7, k8s_195 cA a0 h0 qs qv qp f1 f2 f3 g0 g1 f5 f6 f7, k8s_g0 cA a0 h0 qs qv qp f1 f2 f3 g0 g1 f5 f6 f7, k8s_g1 cA a0 h0 qs qv qp f1 f2 f3 g0 g1 f5 f6 f7, k8s_r cA a0 h0 qs qv qp f1 f2 f3 g0 g1 f5 f6 f7, k8s_S cA a0 h0 qs qv qp f1 f2 f3 g0 g1 f5 f6 f7, k8s_t cA a0 h0 qs qv qp f1 f2 f3 g0 g1 f5 f6 f7]
  rfl
theorem k8_at {k : Nat} (h : k < 229) : (k8ws cA h0 qs qv qp f1 f2 f3 g0 g1 f5 f6 f7)[k8ix.getD k 0]? = some (kcl (k8a a0 h0 qs qv qp f1 f2 f3 g0 g1 f5 f6 f7) cA k) := by
  rw [k8_ws cA a0 h0 qs qv qp f1 f2 f3 g0 g1 f5 f6 f7, List.getElem?_map, k8_ixv k h]
  rfl
theorem k8_z {k : Nat} {q : Nat × va_E} (h : (z_W 229 (k8a a0 h0 qs qv qp f1 f2 f3 g0 g1 f5 f6 f7) cA mem0)[k]? = some q) : k < 229 ∧ q = kcl (k8a a0 h0 qs qv qp f1 f2 f3 g0 g1 f5 f6 f7) cA k := by
  by_cases hk : k < 229
  · rw [z_W_at hk] at h
    exact ⟨hk, (Option.some.inj h).symm⟩
  · rw [List.getElem?_eq_none (by simp [z_W]; omega)] at h
    cases h
theorem k8_P {D : va_G} {cl : List vw_C} {H : Heap} (hP : va_P D cl (k8ws cA h0 qs qv qp f1 f2 f3 g0 g1 f5 f6 f7) H) : va_P D cl (z_W 229 (k8a a0 h0 qs qv qp f1 f2 f3 g0 g1 f5 f6 f7) cA mem0) H := by
  intro k q h
  obtain ⟨hk, rfl⟩ := k8_z cA a0 h0 qs qv qp f1 f2 f3 g0 g1 f5 f6 f7 h
  exact hP _ _ (k8_at cA a0 h0 qs qv qp f1 f2 f3 g0 g1 f5 f6 f7 hk)
theorem k8_inj {A : Nat → Prop} (hD : va_D A (k8ws cA h0 qs qv qp f1 f2 f3 g0 g1 f5 f6 f7)) : ∀ i j, i < 229 → j < 229 → k8a a0 h0 qs qv qp f1 f2 f3 g0 g1 f5 f6 f7 i = k8a a0 h0 qs qv qp f1 f2 f3 g0 g1 f5 f6 f7 j → i = j := by
  intro i j hi hj h
  have e := hD.1 _ _ _ _ (k8_at cA a0 h0 qs qv qp f1 f2 f3 g0 g1 f5 f6 f7 hi) (k8_at cA a0 h0 qs qv qp f1 f2 f3 g0 g1 f5 f6 f7 hj) h
  have := k8_ixv i hi
  rw [e, k8_ixv j hj] at this
  exact (Option.some.inj this).symm
theorem k8_D {A : Nat → Prop} (hD : va_D A (k8ws cA h0 qs qv qp f1 f2 f3 g0 g1 f5 f6 f7)) {k : Nat} (hk : k < 229) : A (k8a a0 h0 qs qv qp f1 f2 f3 g0 g1 f5 f6 f7 k) := hD.2 _ _ (k8_at cA a0 h0 qs qv qp f1 f2 f3 g0 g1 f5 f6 f7 hk)
end PERM
