/-! The law's marsh(w, v): its rows. -/
section G1T
variable {t : List Int} {a b c u v f h9 i : Int} {cl : List Int}
theorem tx_head : ((((((kT 0 ++ wDig a) ++ [32]) ++ wDig b) ++ kT 1) ++ wDig c) ++ [59]) = tHead a b c := by
  simp [tHead, kT, kMarsh, kClear]
theorem tx_row : (((t ++ kT 2) ++ cl) ++ [59]) = t ++ tRow cl := by
  simp [tRow, kT, kRow]
theorem tx_fog : (((((t ++ kT 4) ++ wDig h9) ++ [32]) ++ wDig f) ++ [59]) = t ++ tFog h9 f := by
  simp [tFog, kT, kFog]
theorem tx_la : ((((((((t ++ kT 5) ++ wDig u) ++ [32]) ++ wDig v) ++ [32]) ++ wDig b) ++ ([32] ++ tTF i)) ++ [59]) = t ++ tLight u v b i (-1) := by
  simp [tLight, kT, kLight, tNext]
theorem tx_lb (hf : 0 ≤ f) : ((((((((((t ++ kT 5) ++ wDig u) ++ [32]) ++ wDig v) ++ [32]) ++ wDig b) ++ ([32] ++ tTF i)) ++ kT 8) ++ wDig f) ++ [59]) = t ++ tLight u v b i f := by
  have e : tNext f = ([32] ++ kNext) ++ (([32] ++ wDig f) ++ [59]) := if_neg (by omega)
  unfold tLight
  rw [e]
  simp [kT, kLight, kNext]
theorem tx_walk : (((((t ++ kT 9) ++ wDig u) ++ [32]) ++ wDig v) ++ [59]) = t ++ tWalk u v := by
  simp [tWalk, kT, kTrav]
end G1T
/-- the draft while its rows are read -/
def mR (W H : Nat) (k : Nat) (C D : Int → Int) : Prop := (mOk D ∧ D 3 = 0) ∧ (D 0 = (W : Int) ∧ D 1 = (H : Int) ∧ D 4 = 0 ∧ D 5 = 0) ∧ ∀ y x, 0 ≤ y → y < (k : Int) → 0 ≤ x → x < (W : Int) → D (30 + 12 * y + x) = pCell (C (12 * y + x)) ∧ (C (12 * y + x) = 102 ∨ C (12 * y + x) = 119 ∨ C (12 * y + x) = 104 ∨ C (12 * y + x) = 112)
theorem mR_0 {W H : Nat} {cl : Int} {C : Int → Int} (hW : 2 ≤ W ∧ W ≤ 12) (hH : 2 ≤ H ∧ H ≤ 12) (hc : 0 ≤ cl ∧ cl ≤ 20) : mR W H 0 C (zp (zp (zp (fun _ => 0) 0 (W : Int)) 1 (H : Int)) 2 cl) := by
  refine ⟨⟨xHead_ok (fun _ _ _ => rfl) (by omega) (by omega) hc, ?_⟩, ⟨?_, ?_, ?_, ?_⟩, fun y x y0 y1 => by omega⟩
  · rw [zp_ne (by decide), zp_ne (by decide), zp_ne (by decide)]
  · rw [zp_ne (by decide), zp_ne (by decide), zp_eq]
  · rw [zp_ne (by decide), zp_eq]
  · rw [zp_ne (by decide), zp_ne (by decide), zp_ne (by decide)]
  · rw [zp_ne (by decide), zp_ne (by decide), zp_ne (by decide)]
theorem mR_s {W H k : Nat} {C C' D : Int → Int} {cs : List Int} (h : mR W H k C D) (hk : k < H) (hl : cs.length = W) (hC : ∀ q : Nat, q < W → C' (12 * (k : Int) + q) = cs.getD q 0) (hO : ∀ j, j < 12 * (k : Int) → C' j = C j) (hc : ∀ x, x ∈ cs → x = 102 ∨ x = 119 ∨ x = 104 ∨ x = 112) : mR W H (k + 1) C' (rowD D k cs) := by
  obtain ⟨⟨h1, h2⟩, ⟨h3, h4, h5, h6⟩, h7⟩ := h
  have b0 := h1.1
  have b1 := h1.2.1
  have e : ∀ j, (j < 30 + 12 * (k : Int) ∨ 30 + 12 * (k : Int) + W ≤ j) → rowD D k cs j = D j := fun j hj => if_neg (by omega)
  have ei : ∀ q : Nat, q < W → rowD D k cs (30 + 12 * (k : Int) + q) = pCell (cs.getD q 0) := fun q hq => by
    unfold rowD
    rw [if_pos (by omega), show (30 + 12 * (k : Int) + (q : Int) - (30 + 12 * (k : Int))).toNat = q by omega]
  have hm : ∀ q : Nat, q < W → cs.getD q 0 = 102 ∨ cs.getD q 0 = 119 ∨ cs.getD q 0 = 104 ∨ cs.getD q 0 = 112 := fun q hq => by
    rw [List.getD_eq_getElem?_getD, List.getElem?_eq_getElem (by omega)]
    exact hc _ (List.getElem_mem _)
  have hp : ∀ x : Int, (x = 102 ∨ x = 119 ∨ x = 104 ∨ x = 112) → (0 ≤ pCell x ∧ pCell x ≤ 2) ∨ (11 ≤ pCell x ∧ pCell x ≤ 19) := fun x hx => by
    rcases hx with rfl | rfl | rfl | rfl <;> decide
  refine ⟨⟨mOk_cells h1 (fun i hi => e i (by omega)) (fun c c0 c1 => ?_), ?_⟩, ⟨?_, ?_, ?_, ?_⟩, fun y x y0 y1 x0 x1 => ?_⟩
  · by_cases hq : 12 * (k : Int) ≤ c ∧ c < 12 * (k : Int) + W
    · have := ei (c - 12 * (k : Int)).toNat (by omega)
      rw [show 30 + 12 * (k : Int) + ((c - 12 * (k : Int)).toNat : Int) = 30 + c by omega] at this
      rw [this]
      exact hp _ (hm _ (by omega))
    · rw [e _ (by omega)]
      exact h1.2.2.2.2.2.2.2.1 c c0 c1
  · rw [e _ (by omega)]; exact h2
  · rw [e _ (by omega)]; exact h3
  · rw [e _ (by omega)]; exact h4
  · rw [e _ (by omega)]; exact h5
  · rw [e _ (by omega)]; exact h6
  · by_cases hy : y = (k : Int)
    · subst hy
      have a1 := ei x.toNat (by omega)
      have a2 := hC x.toNat (by omega)
      rw [Int.toNat_of_nonneg x0] at a1 a2
      rw [a1, a2]
      exact ⟨rfl, hm _ (by omega)⟩
    · rw [e _ (by omega), hO _ (by omega)]
      exact h7 y x y0 (by omega) x0 x1
theorem mR_end {W H : Nat} {C D : Int → Int} (h : mR W H H C D) : mG W H C D 0 0 := by
  obtain ⟨⟨h1, h2⟩, h3, h4⟩ := h
  refine ⟨⟨h1, by omega, fun w w0 w1 => by omega, fun l l0 l1 => by omega⟩, h3, h4⟩
theorem q338_102 : decode (zbc 338) 102 = .ok (.iload 8, 2) := by decide +kernel
theorem q338_104 : decode (zbc 338) 104 = .ok (.iload_n 2, 1) := by decide +kernel
theorem q338_105 : decode (zbc 338) 105 = .ok (.if_icmp .ge 55, 3) := by decide +kernel
theorem q338_108 : decode (zbc 338) 108 = .ok (.iload 5, 2) := by decide +kernel
theorem kx_1289 : Cond.constant "FalseLightMarshLaw" 210 1103515245 ∈ zTs := z_in (i := 1289) (by decide +kernel) (by decide +kernel)
theorem q338_110 : decode (zbc 338) 110 = .ok (.ldc 210, 2) := by decide +kernel
theorem q338_112 : decode (zbc 338) 112 = .ok (.imul, 1) := by decide +kernel
theorem q338_113 : decode (zbc 338) 113 = .ok (.sipush 12345, 3) := by decide +kernel
theorem q338_116 : decode (zbc 338) 116 = .ok (.iadd, 1) := by decide +kernel
theorem q338_117 : decode (zbc 338) 117 = .ok (.istore 5, 2) := by decide +kernel
theorem q338_119 : decode (zbc 338) 119 = .ok (.aload 6, 2) := by decide +kernel
theorem q338_121 : decode (zbc 338) 121 = .ok (.iload 7, 2) := by decide +kernel
theorem q338_123 : decode (zbc 338) 123 = .ok (.aaload, 1) := by decide +kernel
theorem q338_124 : decode (zbc 338) 124 = .ok (.iload 8, 2) := by decide +kernel
theorem q338_126 : decode (zbc 338) 126 = .ok (.ldc 211, 2) := by decide +kernel
theorem q338_128 : decode (zbc 338) 128 = .ok (.iload 5, 2) := by decide +kernel
theorem q338_130 : decode (zbc 338) 130 = .ok (.bipush 16, 2) := by decide +kernel
theorem q338_132 : decode (zbc 338) 132 = .ok (.ishr, 1) := by decide +kernel
theorem q338_133 : decode (zbc 338) 133 = .ok (.bipush 15, 2) := by decide +kernel
theorem q338_135 : decode (zbc 338) 135 = .ok (.iand, 1) := by decide +kernel
theorem q338_136 : decode (zbc 338) 136 = .ok (.invokevirtual 181, 3) := by decide +kernel
theorem wk338_136 : wSC 338 136 281 2 (some "java/lang/String") := wk_V (n' := 1) q338_136 kx_1110 kx_321 kx_322 kx_41 kx_323 ⟨by decide, by decide, by decide +kernel⟩ rfl ⟨Nat.le_of_ble_eq_true rfl, Nat.le_of_ble_eq_true rfl⟩
theorem q338_139 : decode (zbc 338) 139 = .ok (.castore, 1) := by decide +kernel
theorem q338_140 : decode (zbc 338) 140 = .ok (.aload 4, 2) := by decide +kernel
theorem q338_142 : decode (zbc 338) 142 = .ok (.aload 6, 2) := by decide +kernel
theorem q338_144 : decode (zbc 338) 144 = .ok (.iload 7, 2) := by decide +kernel
theorem q338_146 : decode (zbc 338) 146 = .ok (.aaload, 1) := by decide +kernel
theorem q338_147 : decode (zbc 338) 147 = .ok (.iload 8, 2) := by decide +kernel
theorem q338_149 : decode (zbc 338) 149 = .ok (.caload, 1) := by decide +kernel
theorem q338_150 : decode (zbc 338) 150 = .ok (.invokevirtual 198, 3) := by decide +kernel
theorem kx_1271 : Cond.methodLink "FalseLightMarshLaw" 198 yJ4_append_cf468 ∈ zTs := z_in (i := 1271) (by decide +kernel) (by decide +kernel)
theorem kx_1272 : Cond.instanceMethod yJ4_append_cf468 ∈ zTs := z_in (i := 1272) (by decide +kernel) (by decide +kernel)
theorem kx_1273 : Cond.selects "java/lang/StringBuilder" yJ4_append_cf468 yJ4_append_cf468 ∈ zTs := z_in (i := 1273) (by decide +kernel) (by decide +kernel)
theorem kx_1274 : Cond.code yJ4_append_cf468 cJ4_append_cf468 2 (some (.object "java/lang/StringBuilder")) ∈ zTs := z_in (i := 1274) (by decide +kernel) (by decide +kernel)
theorem wk338_150 : wSC 338 150 350 2 (some "java/lang/StringBuilder") := wk_V (n' := 1) q338_150 kx_1271 kx_1272 kx_1273 kx_56 kx_1274 ⟨by decide, by decide, by decide +kernel⟩ rfl ⟨Nat.le_of_ble_eq_true rfl, Nat.le_of_ble_eq_true rfl⟩
theorem q338_153 : decode (zbc 338) 153 = .ok (.pop, 1) := by decide +kernel
theorem q338_154 : decode (zbc 338) 154 = .ok (.iinc 8 1, 3) := by decide +kernel
theorem q338_157 : decode (zbc 338) 157 = .ok (.goto (-55), 3) := by decide +kernel
theorem mr_i {X : Nat × (Nat → Int32)} {b : WB} {c d : Nat} {G F : GM} {Q : WQ} {Y0 : DY} {K W H : Nat} {w v : Int} {t1 : List Int} {n1 row : Nat} {C1 : Int → Int} {a9 a10 a11 : Value} (hW : 2 ≤ W ∧ W ≤ 7) (hH : 2 ≤ H ∧ H ≤ 6) (hrow : row < H) (hn : n1 + 7 ≤ 390) (hb1 : c + 7 ≤ b.1) (hb2 : d + 7000 ≤ b.2.1) (hk : ∀ (cl : List Int) (C : Int → Int) (x : Int) (Y : DY), cl.length = W → (∀ x, x ∈ cl → x = 102 ∨ x = 119 ∨ x = 104 ∨ x = 112) → (∀ q : Nat, q < W → C (12 * (row : Int) + q) = cl.getD q 0) → (∀ j, j < 12 * (row : Int) → C j = C1 j) → M2 Y0 K W H C (t1 ++ cl) Y → (t1 ++ cl).length ≤ n1 + W → wW (229, X) 338 b 160 [.int (zi w), .int (zi v), .int (zi (W : Int)), .int (zi (H : Int)), .ref (1000 + Y0.2.2), .int (zi x), .ref (1000 + K), .int (zi (row : Int)), .int (zi (W : Int)), a9, a10, a11] [] G F Y (c + 7) (d + 7000) Q) : ∀ (d9 : Nat) (k : Nat) (cl : List Int) (C : Int → Int) (x : Int) (Y : DY), W - (k : Int) < (d9 : Int) → (k : Int) ≤ W → cl.length = k → (∀ x, x ∈ cl → x = 102 ∨ x = 119 ∨ x = 104 ∨ x = 112) → (∀ q : Nat, q < k → C (12 * (row : Int) + q) = cl.getD q 0) → (∀ j, j < 12 * (row : Int) → C j = C1 j) → M2 Y0 K W H C (t1 ++ cl) Y → (t1 ++ cl).length ≤ n1 + k → wW (229, X) 338 b 102 [.int (zi w), .int (zi v), .int (zi (W : Int)), .int (zi (H : Int)), .ref (1000 + Y0.2.2), .int (zi x), .ref (1000 + K), .int (zi (row : Int)), .int (zi (k : Int)), a9, a10, a11] [] G F Y (c + k) (d + 1000 * k) Q := by
  intro d9
  induction d9 with
  | zero =>
    intro k
    intros
    exact absurd (by assumption) (by omega)
  | succ d9 ih =>
      intro k cl C x Y hd hk9 hcl hcs hC hO hm hl
      refine wi_iload (i := 8) (pc' := 104) q338_102 rfl rfl ?_
      refine wi_iload_n (i := 2) (pc' := 105) q338_104 rfl rfl rfl ?_
      refine wi_icmp_ge (t := 160) (pc' := 108) q338_105 (by decide) rfl (by omega) (by omega) ?_ ?_
      · intro h9
        obtain rfl : k = W := by omega
        exact wW_cd (by omega) (by omega) (hk cl C x Y hcl hcs hC hO hm hl)
      · intro h9
        refine wi_iload (i := 5) (pc' := 110) q338_108 rfl rfl ?_
        refine wi_ldc (z := 1103515245) (pc' := 112) q338_110 rfl kx_1289 (by decide +kernel) ?_
        refine wi_imul (pc' := 113) q338_112 rfl ?_
        refine wi_sipush (pc' := 116) q338_113 rfl (by decide) ?_
        refine wi_iadd (pc' := 117) q338_116 rfl ?_
        generalize x * 1103515245 + 12345 = x1 at *
        refine wi_istore5 (pc' := 119) q338_117 rfl rfl (Or.inr rfl) ?_
        refine wi_aload (i := 6) (pc' := 121) q338_119 rfl rfl ?_
        refine wi_iload (i := 7) (pc' := 123) q338_121 rfl rfl ?_
        refine wi_rwrow (r := (row : Int)) (pc' := 124) q338_123 rfl hm.2 (Or.inr (Or.inl rfl)) ⟨by omega, by omega⟩ (by omega) ?_
        refine wi_iload (i := 8) (pc' := 126) q338_124 rfl rfl ?_
        refine wi_ldcS (tx := "ffffffffwwphfpff") (r := 333) (pc' := 128) q338_126 rfl rfl (by decide) (by decide) ?_
        refine wi_iload (i := 5) (pc' := 130) q338_128 rfl rfl ?_
        refine wi_bipush (pc' := 132) q338_130 rfl (by decide) ?_
        refine wi_ishr (pc' := 133) q338_132 rfl ?_
        refine wi_bipush (pc' := 135) q338_133 rfl (by decide) ?_
        refine wi_iand (pc' := 136) q338_135 rfl ?_
        have e15 := zand_15 (zshr x1 16)
        refine wi_call (pc' := 139) wk338_136 rfl (cJ_char (kT_c (i := 3) (by decide)).str (j := zand (zshr x1 16) 15) ⟨by omega, by show zand (zshr x1 16) 15 < 16; omega⟩) rfl (Nat.le_of_ble_eq_true rfl) (Nat.le_of_ble_eq_true rfl) (by (try dsimp only); omega) (by (try dsimp only); omega) (wrv_str (kT_c (i := 3) (by decide)).str) ?_
        rintro o9 G9 F9 Y9 ⟨rfl, rfl, rfl, rfl⟩ hle9
        have hc9 := kT3_is (zand (zshr x1 16) 15).toNat (by omega)
        generalize (kT 3).getD (zand (zshr x1 16) 15).toNat 0 = c9 at hc9 ⊢
        refine wi_m2set (r := (row : Int)) (pc' := 140) q338_139 rfl hm ⟨by omega, by omega⟩ ⟨by omega, by omega⟩ (by omega) (by omega) ?_
        intro Y8 hm8
        refine wi_aload (i := 4) (pc' := 142) q338_140 rfl rfl ?_
        refine wi_aload (i := 6) (pc' := 144) q338_142 rfl rfl ?_
        refine wi_iload (i := 7) (pc' := 146) q338_144 rfl rfl ?_
        refine wi_rwrow (r := (row : Int)) (pc' := 147) q338_146 rfl hm8.2 (Or.inr (Or.inl rfl)) ⟨by omega, by omega⟩ (by omega) ?_
        refine wi_iload (i := 8) (pc' := 149) q338_147 rfl rfl ?_
        refine wi_rwgetC (r := (row : Int)) (pc' := 150) q338_149 rfl hm8.2 ⟨by omega, by omega⟩ ⟨by omega, by omega⟩ (by omega) ?_
        rw [zp_eq]
        refine wi_appC (n := (n1 + k)) (v := c9) (pc' := 153) MP_2 wk338_150 rfl hm8 (by omega) hl (by omega) (Nat.le_of_ble_eq_true rfl) (by (try dsimp only); omega) (by (try dsimp only); omega) ?_
        intro Y1 m2 l3
        refine wi_popR (pc' := 154) q338_153 rfl ?_
        refine wi_iinc8 (pc' := 157) q338_154 rfl rfl (Or.inr rfl) ?_
        refine wi_goto (t := 102) q338_157 (by decide) ?_
        refine wW_cd (c' := c + (k + 1)) (d' := d + 1000 * (k + 1)) (by omega) (by omega) ?_
        rw [show ((k : Int) + 1) = ((k + 1 : Nat) : Int) by omega]
        rw [List.append_assoc] at m2 l3
        refine ih (k + 1) (cl ++ [c9]) _ x1 _ (by omega) (by omega) (by rw [List.length_append, hcl]; rfl) (fun x hx => ?_) (fun q hq => ?_) (fun j hj => ?_) m2 (by omega)
        · rcases List.mem_append.mp hx with hx | hx
          · exact hcs x hx
          · rw [List.mem_singleton.mp hx]
            exact hc9
        · by_cases e : q = k
          · rw [e, zp_eq, List.getD_eq_getElem?_getD, List.getElem?_append_right (by omega), hcl, Nat.sub_self]
            rfl
          · rw [zp_ne (by omega), hC q (by omega), List.getD_eq_getElem?_getD, List.getD_eq_getElem?_getD, List.getElem?_append_left (by omega)]
        · rw [zp_ne (by omega)]
          exact hO j hj
theorem q338_85 : decode (zbc 338) 85 = .ok (.iload 7, 2) := by decide +kernel
theorem q338_87 : decode (zbc 338) 87 = .ok (.iload_n 3, 1) := by decide +kernel
theorem q338_88 : decode (zbc 338) 88 = .ok (.if_icmp .ge 86, 3) := by decide +kernel
theorem q338_91 : decode (zbc 338) 91 = .ok (.aload 4, 2) := by decide +kernel
theorem q338_93 : decode (zbc 338) 93 = .ok (.ldc 208, 2) := by decide +kernel
theorem q338_95 : decode (zbc 338) 95 = .ok (.invokevirtual 203, 3) := by decide +kernel
theorem kx_1285 : Cond.methodLink "FalseLightMarshLaw" 203 yJ4_append_15ec4 ∈ zTs := z_in (i := 1285) (by decide +kernel) (by decide +kernel)
theorem wk338_95 : wSC 338 95 348 2 (some "java/lang/StringBuilder") := wk_V (n' := 1) q338_95 kx_1285 kx_1142 kx_1143 kx_56 kx_1144 ⟨by decide, by decide, by decide +kernel⟩ rfl ⟨Nat.le_of_ble_eq_true rfl, Nat.le_of_ble_eq_true rfl⟩
theorem q338_98 : decode (zbc 338) 98 = .ok (.pop, 1) := by decide +kernel
theorem q338_99 : decode (zbc 338) 99 = .ok (.iconst 0, 1) := by decide +kernel
theorem q338_100 : decode (zbc 338) 100 = .ok (.istore 8, 2) := by decide +kernel
theorem q338_160 : decode (zbc 338) 160 = .ok (.aload 4, 2) := by decide +kernel
theorem q338_162 : decode (zbc 338) 162 = .ok (.bipush 59, 2) := by decide +kernel
theorem q338_164 : decode (zbc 338) 164 = .ok (.invokevirtual 198, 3) := by decide +kernel
theorem wk338_164 : wSC 338 164 350 2 (some "java/lang/StringBuilder") := wk_V (n' := 1) q338_164 kx_1271 kx_1272 kx_1273 kx_56 kx_1274 ⟨by decide, by decide, by decide +kernel⟩ rfl ⟨Nat.le_of_ble_eq_true rfl, Nat.le_of_ble_eq_true rfl⟩
theorem q338_167 : decode (zbc 338) 167 = .ok (.pop, 1) := by decide +kernel
theorem q338_168 : decode (zbc 338) 168 = .ok (.iinc 7 1, 3) := by decide +kernel
theorem q338_171 : decode (zbc 338) 171 = .ok (.goto (-86), 3) := by decide +kernel
theorem mr_o {X : Nat × (Nat → Int32)} {b : WB} {c d : Nat} {G F : GM} {Q : WQ} {Y0 : DY} {K W H : Nat} {w v : Int} {a9 a10 a11 : Value} (hW : 2 ≤ W ∧ W ≤ 7) (hH : 2 ≤ H ∧ H ≤ 6) (hb1 : c + 54 ≤ b.1) (hb2 : d + 54000 ≤ b.2.1) (hk : ∀ (t : List Int) (C D : Int → Int) (x : Int) (a8 : Value) (Y : DY), rdR (fun _ => 0) H H t D → mR W H H C D → M2 Y0 K W H C t Y → t.length ≤ 18 + 12 * H → wW (229, X) 338 b 174 [.int (zi w), .int (zi v), .int (zi (W : Int)), .int (zi (H : Int)), .ref (1000 + Y0.2.2), .int (zi x), .ref (1000 + K), .int (zi (H : Int)), a8, a9, a10, a11] [] G F Y (c + 54) (d + 54000) Q) : ∀ (d9 : Nat) (k : Nat) (t : List Int) (C D : Int → Int) (x : Int) (a8 : Value) (Y : DY), H - (k : Int) < (d9 : Int) → (k : Int) ≤ H → rdR (fun _ => 0) H k t D → mR W H k C D → M2 Y0 K W H C t Y → t.length ≤ 18 + 12 * k → wW (229, X) 338 b 85 [.int (zi w), .int (zi v), .int (zi (W : Int)), .int (zi (H : Int)), .ref (1000 + Y0.2.2), .int (zi x), .ref (1000 + K), .int (zi (k : Int)), a8, a9, a10, a11] [] G F Y (c + 9 * k) (d + 9000 * k) Q := by
  intro d9
  induction d9 with
  | zero =>
    intro k
    intros
    exact absurd (by assumption) (by omega)
  | succ d9 ih =>
      intro k t C D x a8 Y hd hk9 hr hD hm hl
      refine wi_iload (i := 7) (pc' := 87) q338_85 rfl rfl ?_
      refine wi_iload_n (i := 3) (pc' := 88) q338_87 rfl rfl rfl ?_
      refine wi_icmp_ge (t := 174) (pc' := 91) q338_88 (by decide) rfl (by omega) (by omega) ?_ ?_
      · intro h9
        obtain rfl : k = H := by omega
        exact wW_cd (by omega) (by omega) (hk t C D x a8 Y hr hD hm hl)
      · intro h9
        refine wi_aload (i := 4) (pc' := 93) q338_91 rfl rfl ?_
        refine wi_ldcS (tx := "row ") (r := 332) (pc' := 95) q338_93 rfl rfl (by decide) (by decide) ?_
        refine wi_appS (n := (18 + 12 * k)) (q := 4) (pc' := 98) MP_2 wk338_95 rfl hm (kT_c (i := 2) (by decide)) hl (by decide) (by omega) (Nat.le_of_ble_eq_true rfl) (by (try dsimp only); omega) (by (try dsimp only); omega) ?_
        intro Y1 m2 l3
        refine wi_popR (pc' := 99) q338_98 rfl ?_
        refine wi_iconst (pc' := 100) q338_99 rfl ?_
        refine wi_istore8 (pc' := 102) q338_100 rfl rfl (Or.inr rfl) ?_
        refine wW_cd (c' := c + 9 * k + 1) (d' := d + 9000 * k + 1000) (by (try dsimp only); omega) (by (try dsimp only); omega) ?_
        rw [← List.append_nil (t ++ kT 2)] at m2 l3
        refine mr_i (t1 := t ++ kT 2) (n1 := 18 + 12 * k + 4) (row := k) (C1 := C) (c := c + 9 * k + 1) (d := d + 9000 * k + 1000) hW hH (by omega) (by omega) (by omega) (by omega) ?_ 99 0 [] C x _ (by omega) (by omega) rfl (fun x hx => absurd hx List.not_mem_nil) (fun q hq => absurd hq (Nat.not_lt_zero q)) (fun j hj => rfl) m2 l3
        intro cl C2 x2 Y2 hcl hcs hC2 hO2 hm2 hl2
        refine wi_aload (i := 4) (pc' := 162) q338_160 rfl rfl ?_
        refine wi_bipush (pc' := 164) q338_162 rfl (by decide) ?_
        refine wi_appC (n := (18 + 12 * k + 4 + W)) (v := 59) (pc' := 167) MP_2 wk338_164 rfl hm2 (by omega) hl2 (by omega) (Nat.le_of_ble_eq_true rfl) (by (try dsimp only); omega) (by (try dsimp only); omega) ?_
        intro Y4 m5 l6
        refine wi_popR (pc' := 168) q338_167 rfl ?_
        refine wi_iinc7 (pc' := 171) q338_168 rfl rfl (Or.inr rfl) ?_
        refine wi_goto (t := 85) q338_171 (by decide) ?_
        refine wW_cd (c' := c + 9 * (k + 1)) (d' := d + 9000 * (k + 1)) (by omega) (by omega) ?_
        rw [tx_row] at m5 l6
        rw [show ((k : Int) + 1) = ((k + 1 : Nat) : Int) by omega]
        exact ih (k + 1) _ C2 _ x2 _ _ (by omega) (by omega) (rdR_s hr hcs (by omega) (by rw [hD.2.1.1, hcl])) (mR_s hD (by omega) hcl hC2 hO2 hcs) m5 (by omega)
