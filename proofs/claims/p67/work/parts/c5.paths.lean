/-! The law's paths(x, w). -/
/-- rows of numbers in a made cell, at a place -/
def wRp (i : Nat) (W H : Nat) (D : Int → Int) (Y : DY) : Prop := i + 1 + H ≤ Y.2.2 ∧ Y.2.1 i = (8, H, (List.range H).map (fun j => 1000 + i + 1 + j)) ∧ ∀ r, r < H → Y.2.1 (i + 1 + r) = (1, W, []) ∧ ∀ k : Int, 0 ≤ k → k < W → Y.1 (i + 1 + r) k = D (12 * (r : Int) + k)
theorem wRo_p {Y0 Y : DY} {W H : Nat} {D : Int → Int} (h : wRo Y0 W H D Y) : wRp Y0.2.2 W H D Y := ⟨by rw [h.1]; exact Nat.le_refl _, h.2.1, h.2.2.1⟩
theorem wRp_k {i : Nat} {Y0 Y : DY} {W H W2 H2 : Nat} {D D2 : Int → Int} (h : wRp i W H D Y0) (h2 : wRo Y0 W2 H2 D2 Y) : wRp i W H D Y := by
  obtain ⟨a1, a2, a3⟩ := h
  obtain ⟨b1, -, -, b4⟩ := h2
  refine ⟨by omega, (b4 i (by omega)).2.trans a2, fun r hr => ⟨(b4 _ (by omega)).2.trans (a3 r hr).1, fun k k0 k1 => ?_⟩⟩
  rw [(b4 (i + 1 + r) (by omega)).1]
  exact (a3 r hr).2 k k0 k1
section CPT
variable {u : WU} {y : Nat} {b : WB} {pc pc' : Nat} {L st : List Value} {G F : GM} {Y : DY} {c d : Nat} {Q : WQ} {W H i : Nat} {D : Int → Int}
theorem wi_rprow {r : Int} (hd : decode (zbc y) pc = .ok (.aaload, 1)) (hp : pc + 1 = pc') (h : wRp i W H D Y) (hr : 0 ≤ r ∧ r < H) (hH : H ≤ 1000) (k : wW u y b pc' L (.ref (1000 + (i + 1 + r.toNat)) :: st) G F Y c d Q) : wW u y b pc L (.int (zi r) :: .ref (1000 + i) :: st) G F Y c d Q := by
  refine wi_aald (i := i) (t := 8) (n := H) (cs := (List.range H).map (fun j => 1000 + i + 1 + j)) hd hp rfl (by have := h.1; omega) h.2.1 (Or.inl rfl) ⟨hr.1, hr.2, by omega⟩ ?_ k
  rw [List.getElem?_map, List.getElem?_range (by omega)]
  show some (1000 + i + 1 + r.toNat) = _
  congr 1
  omega
theorem wi_rpget {r j : Int} (hd : decode (zbc y) pc = .ok (.iaload, 1)) (hp : pc + 1 = pc') (h : wRp i W H D Y) (hr : 0 ≤ r ∧ r < H) (hj : 0 ≤ j ∧ j < W) (hW : W ≤ 12) (k : wW u y b pc' L (.int (zi (D (12 * r + j))) :: st) G F Y c d Q) : wW u y b pc L (.int (zi j) :: .ref (1000 + (i + 1 + r.toNat)) :: st) G F Y c d Q := by
  obtain ⟨h1, h2⟩ := h.2.2 r.toNat (by omega)
  refine wi_iald hd hp rfl (by have := h.1; omega) h1 ⟨hj.1, hj.2, by omega⟩ ?_
  rw [h2 j hj.1 hj.2, Int.toNat_of_nonneg hr.1]
  exact k
end CPT
section CPV
variable {s D : Int → Int} {x y u v : Int}
theorem D_wet (hok : mOk s) (h : DI s (gC s u v) D) (hu : 0 ≤ u ∧ u < s 0) (hv : 0 ≤ v ∧ v < s 1) (hw : s (30 + 12 * v + u) = 1) : ∀ (n : Nat) (p : Int), zVal (s 0) (s 1) p → D p ≤ (n : Int) → D p < 9999 → D p = 0 := by
  have hok2 := hok
  obtain ⟨a0, a1, -⟩ := hok2
  intro n
  induction n with
  | zero =>
    intro p hp h1 h2
    have := h.1 p (zVal_lt hok hp).1 (zVal_lt hok hp).2
    omega
  | succ n ih =>
    intro p hp h1 h2
    by_cases e : D p = 0
    · exact e
    · exfalso
      have hr := h.1 p (zVal_lt hok hp).1 (zVal_lt hok hp).2
      obtain ⟨d, d0, d1, hn, hw2, e2⟩ := h.2.2 p hp (by omega) h2
      have v1 := (znb_val (by omega) (by omega) hn).1
      have e3 := ih _ v1 (by omega) (by omega)
      have g := (h.2.1 _ v1).mpr e3
      rcases g with g | ⟨_, g1, g2⟩
      · omega
      · apply hw2
        rw [← hw]
        congr 1
        omega
theorem vL_path (hok : mOk s) (h : DI s (gC s u v) D) (hc : ∀ q, zVal (s 0) (s 1) q → ∀ d, 0 ≤ d → d < 4 → clo s D q d) (hu : 0 ≤ u ∧ u < s 0) (hv : 0 ≤ v ∧ v < s 1) (hx : 0 ≤ x ∧ x < s 0) (hy : 0 ≤ y ∧ y < s 1) : zN [3, 2] ((q_path s x y u v).1, gI (q_path s x y u v).2) = if D (12 * y + x) > 999 then -101 else D (12 * y + x) := by
  have hok2 := hok
  obtain ⟨a0, a1, -⟩ := hok2
  have hp : zVal (s 0) (s 1) (12 * y + x) := ⟨by omega, by omega, by omega⟩
  have hD := h.1 _ (zVal_lt hok hp).1 (zVal_lt hok hp).2
  have hsi : sIn s x y ∧ sIn s u v := ⟨⟨by omega, by omega⟩, by omega, by omega⟩
  by_cases e : x = u ∧ y = v
  · have hd : D (12 * y + x) = 0 := (h.2.1 _ hp).mp (Or.inr ⟨hu.1, by omega, by omega⟩)
    rw [hd, if_neg (by decide)]
    exact (zN_v ((if_pos hsi).trans (if_pos e)) (by decide)).2
  · by_cases hw : s (30 + 12 * v + u) = 1
    · have h9 : D (12 * y + x) > 999 := by
        by_cases e9 : D (12 * y + x) < 9999
        · have e0 := D_wet hok h hu hv hw 9999 _ hp (by omega) e9
          have g := (h.2.1 _ hp).mpr e0
          rcases g with g | ⟨_, g1, g2⟩
          · omega
          · exact absurd ⟨by omega, by omega⟩ e
        · omega
      rw [if_pos h9]
      exact zN_x (c := 1) (k := 2) (by rw [show q_path s x y u v = (2, 0) from (if_pos hsi).trans ((if_neg e).trans (if_pos hw))]; rfl) rfl
    · have hz := zDist_go (zst_ex (mOk_hb hok) (g := 12 * v + u) ⟨by omega, by omega, by omega⟩) (go' := gC s u v) (fun p pv => ⟨fun q => Or.inr ⟨hu.1, by omega, by omega⟩, fun q => by
        rcases q with q | ⟨_, q1, q2⟩
        · omega
        · show p = 12 * v + u
          omega⟩)
      rcases D_steps hok h hz hc hx hy with ⟨h1, h2⟩ | ⟨h1, h2⟩
      · rw [if_pos h1]
        exact zN_x (c := 1) (k := 2) (by rw [show q_path s x y u v = (2, 0) from (if_pos hsi).trans ((if_neg e).trans ((if_neg hw).trans (if_pos h2)))]; rfl) rfl
      · rw [if_neg (by omega), ← h2]
        exact (zN_v ((if_pos hsi).trans ((if_neg e).trans ((if_neg hw).trans (if_neg (by omega))))) ⟨by omega, by omega⟩).2
theorem vL_huts (hok : mOk s) (h : DI s (gC s (-1) (-1)) D) (hc : ∀ q, zVal (s 0) (s 1) q → ∀ d, 0 ≤ d → d < 4 → clo s D q d) (hx : 0 ≤ x ∧ x < s 0) (hy : 0 ≤ y ∧ y < s 1) : zN [3, 2] ((q_hutSteps s x y).1, gI (q_hutSteps s x y).2) = if D (12 * y + x) > 999 then -101 else D (12 * y + x) := by
  have hok2 := hok
  obtain ⟨a0, a1, -⟩ := hok2
  have hp : zVal (s 0) (s 1) (12 * y + x) := ⟨by omega, by omega, by omega⟩
  have hD := h.1 _ (zVal_lt hok hp).1 (zVal_lt hok hp).2
  have hsi : sIn s x y := ⟨by omega, by omega⟩
  have hz := zDist_go (zsh_ex (mOk_hb hok)) (go' := gC s (-1) (-1)) (fun p pv => ⟨fun q => Or.inl ⟨by decide, q⟩, fun q => by
    rcases q with ⟨_, q⟩ | ⟨q, _⟩
    · exact q
    · omega⟩)
  rcases D_steps hok h hz hc hx hy with ⟨h1, h2⟩ | ⟨h1, h2⟩
  · rw [if_pos h1]
    exact zN_x (c := 1) (k := 2) (by rw [show q_hutSteps s x y = (2, 0) from (if_pos hsi).trans (if_pos h2)]; rfl) rfl
  · rw [if_neg (by omega), ← h2]
    exact (zN_v ((if_pos hsi).trans (if_neg (by omega))) ⟨by omega, by omega⟩).2
theorem vL_pathIn (hx : 0 ≤ x ∧ x < s 0) (hy : 0 ≤ y ∧ y < s 1) : (q_path s x y x y).1 = 0 ∧ zN [3, 2] ((q_path s x y x y).1, gI (q_path s x y x y).2) = 0 := zN_v ((if_pos ⟨⟨by omega, by omega⟩, by omega, by omega⟩).trans (if_pos ⟨rfl, rfl⟩)) (by decide)
theorem vL_pathOut (h : ¬ (sIn s x y ∧ sIn s u v)) : zN [3, 2] ((q_path s x y u v).1, gI (q_path s x y u v).2) = -104 := zN_x (c := 0) (k := 3) (by rw [show q_path s x y u v = (1, 0) from if_neg h]; rfl) rfl
theorem vL_hutsOut (h : ¬ sIn s x y) : zN [3, 2] ((q_hutSteps s x y).1, gI (q_hutSteps s x y).2) = -104 := zN_x (c := 0) (k := 3) (by rw [show q_hutSteps s x y = (1, 0) from if_neg h]; rfl) rfl
theorem vL_waterOut (h : ¬ sIn s x y) : zN [3] ((q_isWater s x y).1, gZ (q_isWater s x y).2) = -104 := zN_x (c := 0) (k := 3) (by rw [show q_isWater s x y = (1, 0) from if_neg h]; rfl) rfl
theorem zb_rng {p : Prop} [Decidable p] : 0 ≤ zb p ∧ zb p ≤ 1 := by
  unfold zb
  split <;> decide
theorem zb_one3 {v : Int} : zb (v = 1) + zb (v = 2) + zb (10 < v) ≤ 1 := by
  unfold zb
  split
  · rw [if_neg (by omega), if_neg (by omega)]
    decide
  · split
    · rw [if_neg (by omega)]
      decide
    · split <;> decide
end CPV
theorem q341_162 : decode (zbc 341) 162 = .ok (.aload 6, 2) := by decide +kernel
theorem q341_164 : decode (zbc 341) 164 = .ok (.iload 10, 2) := by decide +kernel
theorem q341_166 : decode (zbc 341) 166 = .ok (.aaload, 1) := by decide +kernel
theorem q341_167 : decode (zbc 341) 167 = .ok (.iload 11, 2) := by decide +kernel
theorem q341_169 : decode (zbc 341) 169 = .ok (.iaload, 1) := by decide +kernel
theorem q341_170 : decode (zbc 341) 170 = .ok (.sipush 999, 3) := by decide +kernel
theorem q341_173 : decode (zbc 341) 173 = .ok (.if_icmp .le 8, 3) := by decide +kernel
theorem q341_181 : decode (zbc 341) 181 = .ok (.aload 6, 2) := by decide +kernel
theorem q341_183 : decode (zbc 341) 183 = .ok (.iload 10, 2) := by decide +kernel
theorem q341_185 : decode (zbc 341) 185 = .ok (.aaload, 1) := by decide +kernel
theorem q341_186 : decode (zbc 341) 186 = .ok (.iload 11, 2) := by decide +kernel
theorem q341_188 : decode (zbc 341) 188 = .ok (.iaload, 1) := by decide +kernel
theorem q341_189 : decode (zbc 341) 189 = .ok (.if_icmp .ne 127, 3) := by decide +kernel
theorem q341_176 : decode (zbc 341) 176 = .ok (.bipush (-101), 2) := by decide +kernel
theorem q341_178 : decode (zbc 341) 178 = .ok (.goto 11, 3) := by decide +kernel
theorem pt_a {X : Nat × (Nat → Int32)} {s : Int → Int} {b : WB} {c d : Nat} {F : GM} {Y : DY} {Q : WQ} {W H W2 H2 i1 i2 : Nat} {D1 D2 : Int → Int} {w cu cv : Int} (hok : mOk s) (hW : s 0 = (W : Int)) (hH : s 1 = (H : Int)) (hW2 : s 0 = (W2 : Int)) (hH2 : s 1 = (H2 : Int)) (hr1 : wRp i1 W H D1 Y) (hr2 : wRp i2 W2 H2 D2 Y) (hI1 : DI s (gC s cu cv) D1) (hc1 : ∀ q, zVal (s 0) (s 1) q → ∀ d, 0 ≤ d → d < 4 → clo s D1 q d) (hI2 : DI s (gC s (-1) (-1)) D2) (hc2 : ∀ q, zVal (s 0) (s 1) q → ∀ d, 0 ≤ d → d < 4 → clo s D2 q d) (hcu : 0 ≤ cu ∧ cu < s 0) (hcv : 0 ≤ cv ∧ cv < s 1) {G : GM} {a12 : Value} {P : Int} {y k : Nat} (hy : (y : Int) < s 1) (hq : (k : Int) < s 0) : wW (229, X) 341 b 192 [.ref 192, .int (zi w), .int (zi (s 0)), .int (zi (s 1)), .int (zi cu), .int (zi cv), .ref (1000 + i1), .ref (1000 + i2), .int (zi 1), .int (zi P), .int (zi (y : Int)), .int (zi (k : Int)), a12] [] G F Y c d Q → wW (229, X) 341 b 162 [.ref 192, .int (zi w), .int (zi (s 0)), .int (zi (s 1)), .int (zi cu), .int (zi cv), .ref (1000 + i1), .ref (1000 + i2), .int (zi 1), .int (zi P), .int (zi (y : Int)), .int (zi (k : Int)), a12] [.int (zi (if D1 (12 * (y : Int) + (k : Int)) > 999 then -101 else D1 (12 * (y : Int) + (k : Int))))] G F Y c d Q := by
  intro hk
  have hD := hI1.1 (12 * (y : Int) + (k : Int)) (by obtain ⟨a0, a1, -⟩ := id hok; omega) (by obtain ⟨a0, a1, -⟩ := id hok; omega)
  obtain ⟨a0, a1, -⟩ := id hok
  refine wi_aload (i := 6) (pc' := 164) q341_162 rfl rfl ?_
  refine wi_iload (i := 10) (pc' := 166) q341_164 rfl rfl ?_
  refine wi_rprow (pc' := 167) q341_166 rfl hr1 ⟨by omega, by omega⟩ (by omega) ?_
  refine wi_iload (i := 11) (pc' := 169) q341_167 rfl rfl ?_
  refine wi_rpget (r := (y : Int)) (pc' := 170) q341_169 rfl hr1 ⟨by omega, by omega⟩ ⟨by omega, by omega⟩ (by omega) ?_
  refine wi_sipush (pc' := 173) q341_170 rfl (by decide) ?_
  refine wi_icmp_le (t := 181) (pc' := 176) q341_173 (by decide) rfl (by omega) (by omega) ?_ ?_
  · intro h9
    rw [if_neg (show ¬ D1 (12 * (y : Int) + (k : Int)) > 999 by omega)]
    refine wi_aload (i := 6) (pc' := 183) q341_181 rfl rfl ?_
    refine wi_iload (i := 10) (pc' := 185) q341_183 rfl rfl ?_
    refine wi_rprow (pc' := 186) q341_185 rfl hr1 ⟨by omega, by omega⟩ (by omega) ?_
    refine wi_iload (i := 11) (pc' := 188) q341_186 rfl rfl ?_
    refine wi_rpget (r := (y : Int)) (pc' := 189) q341_188 rfl hr1 ⟨by omega, by omega⟩ ⟨by omega, by omega⟩ (by omega) ?_
    refine wi_icmp_ne (t := 316) (pc' := 192) q341_189 (by decide) rfl (by omega) (by omega) (fun h8 => absurd rfl h8) (fun _ => hk)
  · intro h9
    rw [if_pos (show D1 (12 * (y : Int) + (k : Int)) > 999 by omega)]
    refine wi_bipush (pc' := 178) q341_176 rfl (by decide) ?_
    refine wi_goto (t := 189) q341_178 (by decide) ?_
    refine wi_icmp_ne (t := 316) (pc' := 192) q341_189 (by decide) rfl (by omega) (by omega) (fun h8 => absurd rfl h8) (fun _ => hk)
theorem q341_202 : decode (zbc 341) 202 = .ok (.aload 7, 2) := by decide +kernel
theorem q341_204 : decode (zbc 341) 204 = .ok (.iload 10, 2) := by decide +kernel
theorem q341_206 : decode (zbc 341) 206 = .ok (.aaload, 1) := by decide +kernel
theorem q341_207 : decode (zbc 341) 207 = .ok (.iload 11, 2) := by decide +kernel
theorem q341_209 : decode (zbc 341) 209 = .ok (.iaload, 1) := by decide +kernel
theorem q341_210 : decode (zbc 341) 210 = .ok (.sipush 999, 3) := by decide +kernel
theorem q341_213 : decode (zbc 341) 213 = .ok (.if_icmp .le 8, 3) := by decide +kernel
theorem q341_221 : decode (zbc 341) 221 = .ok (.aload 7, 2) := by decide +kernel
theorem q341_223 : decode (zbc 341) 223 = .ok (.iload 10, 2) := by decide +kernel
theorem q341_225 : decode (zbc 341) 225 = .ok (.aaload, 1) := by decide +kernel
theorem q341_226 : decode (zbc 341) 226 = .ok (.iload 11, 2) := by decide +kernel
theorem q341_228 : decode (zbc 341) 228 = .ok (.iaload, 1) := by decide +kernel
theorem q341_229 : decode (zbc 341) 229 = .ok (.if_icmp .ne 87, 3) := by decide +kernel
theorem q341_216 : decode (zbc 341) 216 = .ok (.bipush (-101), 2) := by decide +kernel
theorem q341_218 : decode (zbc 341) 218 = .ok (.goto 11, 3) := by decide +kernel
theorem pt_b {X : Nat × (Nat → Int32)} {s : Int → Int} {b : WB} {c d : Nat} {F : GM} {Y : DY} {Q : WQ} {W H W2 H2 i1 i2 : Nat} {D1 D2 : Int → Int} {w cu cv : Int} (hok : mOk s) (hW : s 0 = (W : Int)) (hH : s 1 = (H : Int)) (hW2 : s 0 = (W2 : Int)) (hH2 : s 1 = (H2 : Int)) (hr1 : wRp i1 W H D1 Y) (hr2 : wRp i2 W2 H2 D2 Y) (hI1 : DI s (gC s cu cv) D1) (hc1 : ∀ q, zVal (s 0) (s 1) q → ∀ d, 0 ≤ d → d < 4 → clo s D1 q d) (hI2 : DI s (gC s (-1) (-1)) D2) (hc2 : ∀ q, zVal (s 0) (s 1) q → ∀ d, 0 ≤ d → d < 4 → clo s D2 q d) (hcu : 0 ≤ cu ∧ cu < s 0) (hcv : 0 ≤ cv ∧ cv < s 1) {G : GM} {a12 : Value} {P : Int} {y k : Nat} (hy : (y : Int) < s 1) (hq : (k : Int) < s 0) : wW (229, X) 341 b 232 [.ref 192, .int (zi w), .int (zi (s 0)), .int (zi (s 1)), .int (zi cu), .int (zi cv), .ref (1000 + i1), .ref (1000 + i2), .int (zi 1), .int (zi P), .int (zi (y : Int)), .int (zi (k : Int)), a12] [] G F Y c d Q → wW (229, X) 341 b 202 [.ref 192, .int (zi w), .int (zi (s 0)), .int (zi (s 1)), .int (zi cu), .int (zi cv), .ref (1000 + i1), .ref (1000 + i2), .int (zi 1), .int (zi P), .int (zi (y : Int)), .int (zi (k : Int)), a12] [.int (zi (if D2 (12 * (y : Int) + (k : Int)) > 999 then -101 else D2 (12 * (y : Int) + (k : Int))))] G F Y c d Q := by
  intro hk
  have hD := hI2.1 (12 * (y : Int) + (k : Int)) (by obtain ⟨a0, a1, -⟩ := id hok; omega) (by obtain ⟨a0, a1, -⟩ := id hok; omega)
  obtain ⟨a0, a1, -⟩ := id hok
  refine wi_aload (i := 7) (pc' := 204) q341_202 rfl rfl ?_
  refine wi_iload (i := 10) (pc' := 206) q341_204 rfl rfl ?_
  refine wi_rprow (pc' := 207) q341_206 rfl hr2 ⟨by omega, by omega⟩ (by omega) ?_
  refine wi_iload (i := 11) (pc' := 209) q341_207 rfl rfl ?_
  refine wi_rpget (r := (y : Int)) (pc' := 210) q341_209 rfl hr2 ⟨by omega, by omega⟩ ⟨by omega, by omega⟩ (by omega) ?_
  refine wi_sipush (pc' := 213) q341_210 rfl (by decide) ?_
  refine wi_icmp_le (t := 221) (pc' := 216) q341_213 (by decide) rfl (by omega) (by omega) ?_ ?_
  · intro h9
    rw [if_neg (show ¬ D2 (12 * (y : Int) + (k : Int)) > 999 by omega)]
    refine wi_aload (i := 7) (pc' := 223) q341_221 rfl rfl ?_
    refine wi_iload (i := 10) (pc' := 225) q341_223 rfl rfl ?_
    refine wi_rprow (pc' := 226) q341_225 rfl hr2 ⟨by omega, by omega⟩ (by omega) ?_
    refine wi_iload (i := 11) (pc' := 228) q341_226 rfl rfl ?_
    refine wi_rpget (r := (y : Int)) (pc' := 229) q341_228 rfl hr2 ⟨by omega, by omega⟩ ⟨by omega, by omega⟩ (by omega) ?_
    refine wi_icmp_ne (t := 316) (pc' := 232) q341_229 (by decide) rfl (by omega) (by omega) (fun h8 => absurd rfl h8) (fun _ => hk)
  · intro h9
    rw [if_pos (show D2 (12 * (y : Int) + (k : Int)) > 999 by omega)]
    refine wi_bipush (pc' := 218) q341_216 rfl (by decide) ?_
    refine wi_goto (t := 229) q341_218 (by decide) ?_
    refine wi_icmp_ne (t := 316) (pc' := 232) q341_229 (by decide) rfl (by omega) (by omega) (fun h8 => absurd rfl h8) (fun _ => hk)
theorem q341_117 : decode (zbc 341) 117 = .ok (.iload 11, 2) := by decide +kernel
theorem q341_119 : decode (zbc 341) 119 = .ok (.iload_n 2, 1) := by decide +kernel
theorem q341_120 : decode (zbc 341) 120 = .ok (.if_icmp .ge 205, 3) := by decide +kernel
theorem q341_123 : decode (zbc 341) 123 = .ok (.aload_n 0, 1) := by decide +kernel
theorem q341_124 : decode (zbc 341) 124 = .ok (.bipush 18, 2) := by decide +kernel
theorem q341_126 : decode (zbc 341) 126 = .ok (.iload 11, 2) := by decide +kernel
theorem q341_128 : decode (zbc 341) 128 = .ok (.iload 10, 2) := by decide +kernel
theorem q341_130 : decode (zbc 341) 130 = .ok (.invokestatic 251, 3) := by decide +kernel
theorem wq341_130 {L9 : Nat} {xs9 : Nat → Int32} {N9 : Nat} : z_SC N9 znl zTs (zZ L9 xs9 N9) zyn zbc zrt zfr zlo (fun _ i => i) ztb 341 130 2 335 4 := sc_S (P := fun _ i => i) zTs_good q341_130 kx_1385 kx_1386 kx_31 kx_1387 rfl ⟨by decide, by decide, by decide +kernel⟩ ⟨Nat.le_of_ble_eq_true rfl, Nat.le_of_ble_eq_true rfl⟩
theorem q341_133 : decode (zbc 341) 133 = .ok (.istore 12, 2) := by decide +kernel
theorem q341_135 : decode (zbc 341) 135 = .ok (.iload 9, 2) := by decide +kernel
theorem q341_137 : decode (zbc 341) 137 = .ok (.iload 12, 2) := by decide +kernel
theorem q341_139 : decode (zbc 341) 139 = .ok (.iadd, 1) := by decide +kernel
theorem q341_140 : decode (zbc 341) 140 = .ok (.istore 9, 2) := by decide +kernel
theorem q341_142 : decode (zbc 341) 142 = .ok (.iload 8, 2) := by decide +kernel
theorem q341_144 : decode (zbc 341) 144 = .ok (.ifCond .eq 172, 3) := by decide +kernel
theorem q341_147 : decode (zbc 341) 147 = .ok (.aload_n 0, 1) := by decide +kernel
theorem q341_148 : decode (zbc 341) 148 = .ok (.bipush 20, 2) := by decide +kernel
theorem q341_150 : decode (zbc 341) 150 = .ok (.iload 11, 2) := by decide +kernel
theorem q341_152 : decode (zbc 341) 152 = .ok (.iload 10, 2) := by decide +kernel
theorem q341_154 : decode (zbc 341) 154 = .ok (.iload 4, 2) := by decide +kernel
theorem q341_156 : decode (zbc 341) 156 = .ok (.iload 5, 2) := by decide +kernel
theorem q341_158 : decode (zbc 341) 158 = .ok (.iconst 0, 1) := by decide +kernel
theorem q341_159 : decode (zbc 341) 159 = .ok (.invokestatic 172, 3) := by decide +kernel
theorem kx_548 : Cond.methodLink "FalseLightMarshLaw" 172 yL_call ∈ zTs := z_in (i := 548) (by decide +kernel) (by decide +kernel)
theorem kx_549 : Cond.static yL_call ∈ zTs := z_in (i := 549) (by decide +kernel) (by decide +kernel)
theorem wq341_159 {L9 : Nat} {xs9 : Nat → Int32} {N9 : Nat} : z_SC N9 znl zTs (zZ L9 xs9 N9) zyn zbc zrt zfr zlo (fun _ i => i) ztb 341 159 2 334 7 := sc_SW (P := fun _ i => i) zTs_good q341_159 kx_548 kx_549 kx_31 wc_550 (by decide +kernel) ⟨by decide, by decide, by decide +kernel⟩ ⟨Nat.le_of_ble_eq_true rfl, Nat.le_of_ble_eq_true rfl⟩
theorem q341_192 : decode (zbc 341) 192 = .ok (.aload_n 0, 1) := by decide +kernel
theorem q341_193 : decode (zbc 341) 193 = .ok (.bipush 21, 2) := by decide +kernel
theorem q341_195 : decode (zbc 341) 195 = .ok (.iload 11, 2) := by decide +kernel
theorem q341_197 : decode (zbc 341) 197 = .ok (.iload 10, 2) := by decide +kernel
theorem q341_199 : decode (zbc 341) 199 = .ok (.invokestatic 251, 3) := by decide +kernel
theorem wq341_199 {L9 : Nat} {xs9 : Nat → Int32} {N9 : Nat} : z_SC N9 znl zTs (zZ L9 xs9 N9) zyn zbc zrt zfr zlo (fun _ i => i) ztb 341 199 2 335 4 := sc_S (P := fun _ i => i) zTs_good q341_199 kx_1385 kx_1386 kx_31 kx_1387 rfl ⟨by decide, by decide, by decide +kernel⟩ ⟨Nat.le_of_ble_eq_true rfl, Nat.le_of_ble_eq_true rfl⟩
theorem q341_232 : decode (zbc 341) 232 = .ok (.aload_n 0, 1) := by decide +kernel
theorem q341_233 : decode (zbc 341) 233 = .ok (.bipush 16, 2) := by decide +kernel
theorem q341_235 : decode (zbc 341) 235 = .ok (.iload 11, 2) := by decide +kernel
theorem q341_237 : decode (zbc 341) 237 = .ok (.iload 10, 2) := by decide +kernel
theorem q341_239 : decode (zbc 341) 239 = .ok (.invokestatic 251, 3) := by decide +kernel
theorem wq341_239 {L9 : Nat} {xs9 : Nat → Int32} {N9 : Nat} : z_SC N9 znl zTs (zZ L9 xs9 N9) zyn zbc zrt zfr zlo (fun _ i => i) ztb 341 239 2 335 4 := sc_S (P := fun _ i => i) zTs_good q341_239 kx_1385 kx_1386 kx_31 kx_1387 rfl ⟨by decide, by decide, by decide +kernel⟩ ⟨Nat.le_of_ble_eq_true rfl, Nat.le_of_ble_eq_true rfl⟩
theorem q341_242 : decode (zbc 341) 242 = .ok (.aload_n 0, 1) := by decide +kernel
theorem q341_243 : decode (zbc 341) 243 = .ok (.bipush 17, 2) := by decide +kernel
theorem q341_245 : decode (zbc 341) 245 = .ok (.iload 11, 2) := by decide +kernel
theorem q341_247 : decode (zbc 341) 247 = .ok (.iload 10, 2) := by decide +kernel
theorem q341_249 : decode (zbc 341) 249 = .ok (.invokestatic 251, 3) := by decide +kernel
theorem wq341_249 {L9 : Nat} {xs9 : Nat → Int32} {N9 : Nat} : z_SC N9 znl zTs (zZ L9 xs9 N9) zyn zbc zrt zfr zlo (fun _ i => i) ztb 341 249 2 335 4 := sc_S (P := fun _ i => i) zTs_good q341_249 kx_1385 kx_1386 kx_31 kx_1387 rfl ⟨by decide, by decide, by decide +kernel⟩ ⟨Nat.le_of_ble_eq_true rfl, Nat.le_of_ble_eq_true rfl⟩
theorem q341_252 : decode (zbc 341) 252 = .ok (.iadd, 1) := by decide +kernel
theorem q341_253 : decode (zbc 341) 253 = .ok (.iload 12, 2) := by decide +kernel
theorem q341_255 : decode (zbc 341) 255 = .ok (.iadd, 1) := by decide +kernel
theorem q341_256 : decode (zbc 341) 256 = .ok (.iconst 1, 1) := by decide +kernel
theorem q341_257 : decode (zbc 341) 257 = .ok (.if_icmp .gt 59, 3) := by decide +kernel
theorem q341_260 : decode (zbc 341) 260 = .ok (.iload 12, 2) := by decide +kernel
theorem q341_262 : decode (zbc 341) 262 = .ok (.iconst 1, 1) := by decide +kernel
theorem q341_263 : decode (zbc 341) 263 = .ok (.if_icmp .ne 34, 3) := by decide +kernel
theorem q341_297 : decode (zbc 341) 297 = .ok (.aload_n 0, 1) := by decide +kernel
theorem q341_298 : decode (zbc 341) 298 = .ok (.bipush 19, 2) := by decide +kernel
theorem q341_300 : decode (zbc 341) 300 = .ok (.iload 11, 2) := by decide +kernel
theorem q341_302 : decode (zbc 341) 302 = .ok (.iload 10, 2) := by decide +kernel
theorem q341_304 : decode (zbc 341) 304 = .ok (.invokestatic 251, 3) := by decide +kernel
theorem wq341_304 {L9 : Nat} {xs9 : Nat → Int32} {N9 : Nat} : z_SC N9 znl zTs (zZ L9 xs9 N9) zyn zbc zrt zfr zlo (fun _ i => i) ztb 341 304 2 335 4 := sc_S (P := fun _ i => i) zTs_good q341_304 kx_1385 kx_1386 kx_31 kx_1387 rfl ⟨by decide, by decide, by decide +kernel⟩ ⟨Nat.le_of_ble_eq_true rfl, Nat.le_of_ble_eq_true rfl⟩
theorem q341_307 : decode (zbc 341) 307 = .ok (.bipush (-101), 2) := by decide +kernel
theorem q341_309 : decode (zbc 341) 309 = .ok (.if_icmp .ne 7, 3) := by decide +kernel
theorem q341_312 : decode (zbc 341) 312 = .ok (.iconst 1, 1) := by decide +kernel
theorem q341_313 : decode (zbc 341) 313 = .ok (.goto 4, 3) := by decide +kernel
theorem q341_317 : decode (zbc 341) 317 = .ok (.istore 8, 2) := by decide +kernel
theorem q341_319 : decode (zbc 341) 319 = .ok (.iinc 11 1, 3) := by decide +kernel
theorem q341_322 : decode (zbc 341) 322 = .ok (.goto (-205), 3) := by decide +kernel
theorem q341_266 : decode (zbc 341) 266 = .ok (.aload_n 0, 1) := by decide +kernel
theorem q341_267 : decode (zbc 341) 267 = .ok (.bipush 19, 2) := by decide +kernel
theorem q341_269 : decode (zbc 341) 269 = .ok (.iload 11, 2) := by decide +kernel
theorem q341_271 : decode (zbc 341) 271 = .ok (.iload 10, 2) := by decide +kernel
theorem q341_273 : decode (zbc 341) 273 = .ok (.invokestatic 251, 3) := by decide +kernel
theorem wq341_273 {L9 : Nat} {xs9 : Nat → Int32} {N9 : Nat} : z_SC N9 znl zTs (zZ L9 xs9 N9) zyn zbc zrt zfr zlo (fun _ i => i) ztb 341 273 2 335 4 := sc_S (P := fun _ i => i) zTs_good q341_273 kx_1385 kx_1386 kx_31 kx_1387 rfl ⟨by decide, by decide, by decide +kernel⟩ ⟨Nat.le_of_ble_eq_true rfl, Nat.le_of_ble_eq_true rfl⟩
theorem q341_276 : decode (zbc 341) 276 = .ok (.ifCond .le 40, 3) := by decide +kernel
theorem q341_279 : decode (zbc 341) 279 = .ok (.aload_n 0, 1) := by decide +kernel
theorem q341_280 : decode (zbc 341) 280 = .ok (.bipush 19, 2) := by decide +kernel
theorem q341_282 : decode (zbc 341) 282 = .ok (.iload 11, 2) := by decide +kernel
theorem q341_284 : decode (zbc 341) 284 = .ok (.iload 10, 2) := by decide +kernel
theorem q341_286 : decode (zbc 341) 286 = .ok (.invokestatic 251, 3) := by decide +kernel
theorem wq341_286 {L9 : Nat} {xs9 : Nat → Int32} {N9 : Nat} : z_SC N9 znl zTs (zZ L9 xs9 N9) zyn zbc zrt zfr zlo (fun _ i => i) ztb 341 286 2 335 4 := sc_S (P := fun _ i => i) zTs_good q341_286 kx_1385 kx_1386 kx_31 kx_1387 rfl ⟨by decide, by decide, by decide +kernel⟩ ⟨Nat.le_of_ble_eq_true rfl, Nat.le_of_ble_eq_true rfl⟩
theorem q341_289 : decode (zbc 341) 289 = .ok (.bipush 10, 2) := by decide +kernel
theorem q341_291 : decode (zbc 341) 291 = .ok (.if_icmp .ge 25, 3) := by decide +kernel
theorem q341_294 : decode (zbc 341) 294 = .ok (.goto 18, 3) := by decide +kernel
theorem pt_i {X : Nat × (Nat → Int32)} {B : Int} {sv : Nat → Int → Int} {u : Int} {h : Nat → Int → Int} {s : Int → Int} {b : WB} {c d : Nat} {F : GM} {Y : DY} {Q : WQ} {W H W2 H2 i1 i2 : Nat} {D1 D2 : Int → Int} {w cu cv : Int} (hok : mOk s) (hW : s 0 = (W : Int)) (hH : s 1 = (H : Int)) (hW2 : s 0 = (W2 : Int)) (hH2 : s 1 = (H2 : Int)) (hr1 : wRp i1 W H D1 Y) (hr2 : wRp i2 W2 H2 D2 Y) (hI1 : DI s (gC s cu cv) D1) (hc1 : ∀ q, zVal (s 0) (s 1) q → ∀ d, 0 ≤ d → d < 4 → clo s D1 q d) (hI2 : DI s (gC s (-1) (-1)) D2) (hc2 : ∀ q, zVal (s 0) (s 1) q → ∀ d, 0 ≤ d → d < 4 → clo s D2 q d) (hcu : 0 ≤ cu ∧ cu < s 0) (hcv : 0 ≤ cv ∧ cv < s 1) (hb1 : c + 36 ≤ b.1) (hb2 : d + 216 ≤ b.2.1) {y : Nat} (hy : (y : Int) < s 1) (hk : ∀ G (k : Nat) (a12 : Value), (k : Int) = s 0 → PG B sv u h s G → wW (229, X) 341 b 325 [.ref 192, .int (zi w), .int (zi (s 0)), .int (zi (s 1)), .int (zi cu), .int (zi cv), .ref (1000 + i1), .ref (1000 + i2), .int (zi 1), .int (zi (zsum (sPlankRow s) y + zcnt (fun x => 10 < s (30 + 12 * (y : Int) + x)) k)), .int (zi (y : Int)), .int (zi (k : Int)), a12] [] G F Y (c + 3 * k) (d + 18 * k) Q) : ∀ (d9 : Nat) (k : Nat) (a12 : Value) (G : GM), s 0 - (k : Int) < (d9 : Int) → (k : Int) ≤ s 0 → PG B sv u h s G → wW (229, X) 341 b 117 [.ref 192, .int (zi w), .int (zi (s 0)), .int (zi (s 1)), .int (zi cu), .int (zi cv), .ref (1000 + i1), .ref (1000 + i2), .int (zi 1), .int (zi (zsum (sPlankRow s) y + zcnt (fun x => 10 < s (30 + 12 * (y : Int) + x)) k)), .int (zi (y : Int)), .int (zi (k : Int)), a12] [] G F Y (c + 3 * k) (d + 18 * k) Q := by
  intro d9
  induction d9 with
  | zero =>
    intro k
    intros
    exact absurd (by assumption) (by omega)
  | succ d9 ih =>
      intro k a12 G hd hk9 p
      obtain ⟨a0, a1, -⟩ := id hok
      refine wi_iload (i := 11) (pc' := 119) q341_117 rfl rfl ?_
      refine wi_iload_n (i := 2) (pc' := 120) q341_119 rfl rfl rfl ?_
      refine wi_icmp_ge (t := 325) (pc' := 123) q341_120 (by decide) rfl (by omega) (by omega) ?_ ?_
      · intro h9
        exact hk G k a12 (by omega) p
      · intro h9
        have zb1 := zb_rng (p := 10 < (s (30 + 12 * (y : Int) + (k : Int))))
        have zb2 := zb_rng (p := (s (30 + 12 * (y : Int) + (k : Int))) = 1)
        have zb3 := zb_rng (p := (s (30 + 12 * (y : Int) + (k : Int))) = 2)
        have zb4 := zb_one3 (v := (s (30 + 12 * (y : Int) + (k : Int))))
        refine wi_aload_n (i := 0) (pc' := 124) q341_123 rfl rfl rfl ?_
        refine wi_bipush (pc' := 126) q341_124 rfl (by decide) ?_
        refine wi_iload (i := 11) (pc' := 128) q341_126 rfl rfl ?_
        refine wi_iload (i := 10) (pc' := 130) q341_128 rfl rfl ?_
        refine wi_cv (u9 := (229, X)) (pc' := 133) wq341_130 rfl (cL_s3 (pL_isPlank p (by omega) (by omega)) zLc_i) (fun h => absurd h (by decide)) rfl rfl (vL_isPlank (s := s) (x := (k : Int)) (y := (y : Int)) (by omega) (by omega)).1 (by (try dsimp only); omega) (by (try dsimp only); omega) ?_
        intro Gp1 p1
        rw [(vL_isPlank (s := s) (x := (k : Int)) (y := (y : Int)) (by omega) (by omega)).2]
        refine wi_istore12 (pc' := 135) q341_133 rfl rfl (Or.inr rfl) ?_
        refine wi_iload (i := 9) (pc' := 137) q341_135 rfl rfl ?_
        refine wi_iload (i := 12) (pc' := 139) q341_137 rfl rfl ?_
        refine wi_iadd (pc' := 140) q341_139 rfl ?_
        refine wi_istore9 (pc' := 142) q341_140 rfl rfl (Or.inr rfl) ?_
        refine wi_iload (i := 8) (pc' := 144) q341_142 rfl rfl ?_
        refine wi_if_eq (t := 316) (pc' := 147) q341_144 (by decide) rfl (by omega) (fun h1 => absurd h1 (by omega)) (fun h1 => ?_)
        refine wi_aload_n (i := 0) (pc' := 148) q341_147 rfl rfl rfl ?_
        refine wi_bipush (pc' := 150) q341_148 rfl (by decide) ?_
        refine wi_iload (i := 11) (pc' := 152) q341_150 rfl rfl ?_
        refine wi_iload (i := 10) (pc' := 154) q341_152 rfl rfl ?_
        refine wi_iload (i := 4) (pc' := 156) q341_154 rfl rfl ?_
        refine wi_iload (i := 5) (pc' := 158) q341_156 rfl rfl ?_
        refine wi_iconst (pc' := 159) q341_158 rfl ?_
        refine wi_cx (u9 := (229, X)) (pc' := 162) wq341_159 rfl (pL_pathLength p1 (by omega) (by omega) (by omega) (by omega)) (fun h => absurd h (by decide)) rfl rfl (by (try dsimp only); omega) (by (try dsimp only); omega) ?_
        intro Gp2 p2
        rw [vL_path (x := (k : Int)) (y := (y : Int)) hok hI1 hc1 hcu hcv (by omega) (by omega)]
        refine pt_a hok hW hH hW2 hH2 hr1 hr2 hI1 hc1 hI2 hc2 hcu hcv (by omega) (by omega) ?_
        refine wi_aload_n (i := 0) (pc' := 193) q341_192 rfl rfl rfl ?_
        refine wi_bipush (pc' := 195) q341_193 rfl (by decide) ?_
        refine wi_iload (i := 11) (pc' := 197) q341_195 rfl rfl ?_
        refine wi_iload (i := 10) (pc' := 199) q341_197 rfl rfl ?_
        refine wi_cx (u9 := (229, X)) (pc' := 202) wq341_199 rfl (cL_s3 (pL_stepsToHut p2 (by omega) (by omega)) zLc_i) (fun h => absurd h (by decide)) rfl rfl (by (try dsimp only); omega) (by (try dsimp only); omega) ?_
        intro Gp3 p3
        rw [vL_huts (x := (k : Int)) (y := (y : Int)) hok hI2 hc2 (by omega) (by omega)]
        refine pt_b hok hW hH hW2 hH2 hr1 hr2 hI1 hc1 hI2 hc2 hcu hcv (by omega) (by omega) ?_
        refine wi_aload_n (i := 0) (pc' := 233) q341_232 rfl rfl rfl ?_
        refine wi_bipush (pc' := 235) q341_233 rfl (by decide) ?_
        refine wi_iload (i := 11) (pc' := 237) q341_235 rfl rfl ?_
        refine wi_iload (i := 10) (pc' := 239) q341_237 rfl rfl ?_
        refine wi_cv (u9 := (229, X)) (pc' := 242) wq341_239 rfl (cL_s3 (pL_isWater p3 (by omega) (by omega)) zLc_i) (fun h => absurd h (by decide)) rfl rfl (vL_isWater (s := s) (x := (k : Int)) (y := (y : Int)) (by omega) (by omega)).1 (by (try dsimp only); omega) (by (try dsimp only); omega) ?_
        intro Gp4 p4
        rw [(vL_isWater (s := s) (x := (k : Int)) (y := (y : Int)) (by omega) (by omega)).2]
        refine wi_aload_n (i := 0) (pc' := 243) q341_242 rfl rfl rfl ?_
        refine wi_bipush (pc' := 245) q341_243 rfl (by decide) ?_
        refine wi_iload (i := 11) (pc' := 247) q341_245 rfl rfl ?_
        refine wi_iload (i := 10) (pc' := 249) q341_247 rfl rfl ?_
        refine wi_cv (u9 := (229, X)) (pc' := 252) wq341_249 rfl (cL_s3 (pL_isHut p4 (by omega) (by omega)) zLc_i) (fun h => absurd h (by decide)) rfl rfl (vL_isHut (s := s) (x := (k : Int)) (y := (y : Int)) (by omega) (by omega)).1 (by (try dsimp only); omega) (by (try dsimp only); omega) ?_
        intro Gp5 p5
        rw [(vL_isHut (s := s) (x := (k : Int)) (y := (y : Int)) (by omega) (by omega)).2]
        refine wi_iadd (pc' := 253) q341_252 rfl ?_
        refine wi_iload (i := 12) (pc' := 255) q341_253 rfl rfl ?_
        refine wi_iadd (pc' := 256) q341_255 rfl ?_
        refine wi_iconst (pc' := 257) q341_256 rfl ?_
        refine wi_icmp_gt (t := 316) (pc' := 260) q341_257 (by decide) rfl (by omega) (by omega) (fun h2 => absurd h2 (by omega)) (fun h2 => ?_)
        refine wi_iload (i := 12) (pc' := 262) q341_260 rfl rfl ?_
        refine wi_iconst (pc' := 263) q341_262 rfl ?_
        refine wi_icmp_ne (t := 297) (pc' := 266) q341_263 (by decide) rfl (by omega) (by omega) ?_ ?_
        · intro h8
          have hp8 : ¬ 10 < (s (30 + 12 * (y : Int) + (k : Int))) := fun h => h8 (zb_one.mpr h)
          refine wi_aload_n (i := 0) (pc' := 298) q341_297 rfl rfl rfl ?_
          refine wi_bipush (pc' := 300) q341_298 rfl (by decide) ?_
          refine wi_iload (i := 11) (pc' := 302) q341_300 rfl rfl ?_
          refine wi_iload (i := 10) (pc' := 304) q341_302 rfl rfl ?_
          refine wi_cx (u9 := (229, X)) (pc' := 307) wq341_304 rfl (cL_s3 (pL_plankStrength p5 (by omega) (by omega)) zLc_i) (fun h => absurd h (by decide)) rfl rfl (by (try dsimp only); omega) (by (try dsimp only); omega) ?_
          intro Gp6 p6
          rw [vL_noStrength (s := s) (x := (k : Int)) (y := (y : Int)) (by omega) (by omega) hp8]
          refine wi_bipush (pc' := 309) q341_307 rfl (by decide) ?_
          refine wi_icmp_ne (t := 316) (pc' := 312) q341_309 (by decide) rfl (by omega) (by omega) (fun h3 => absurd h3 (by omega)) (fun h3 => ?_)
          refine wi_iconst (pc' := 313) q341_312 rfl ?_
          refine wi_goto (t := 317) q341_313 (by decide) ?_
          refine wi_istore8 (pc' := 319) q341_317 rfl rfl (Or.inr rfl) ?_
          refine wi_iinc11 (pc' := 322) q341_319 rfl rfl (Or.inr rfl) ?_
          refine wi_goto (t := 117) q341_322 (by decide) ?_
          refine wW_cd (c' := c + 3 * (k + 1)) (d' := d + 18 * (k + 1)) (by omega) (by omega) ?_
          rw [show ((zsum (sPlankRow s) y + zcnt (fun x => 10 < s (30 + 12 * (y : Int) + x)) k) + zb (10 < (s (30 + 12 * (y : Int) + (k : Int)))) : Int) = (zsum (sPlankRow s) y + zcnt (fun x => 10 < s (30 + 12 * (y : Int) + x)) (k + 1)) from Int.add_assoc _ _ _, show ((k : Int) + 1) = ((k + 1 : Nat) : Int) by omega]
          exact ih (k + 1) _ _ (by omega) (by omega) p6
        · intro h8
          have hp8 : 10 < (s (30 + 12 * (y : Int) + (k : Int))) := zb_one.mp h8
          have hc8 := wOk_p (x := (k : Int)) (y := (y : Int)) p5.ok (by omega) (by omega)
          refine wi_aload_n (i := 0) (pc' := 267) q341_266 rfl rfl rfl ?_
          refine wi_bipush (pc' := 269) q341_267 rfl (by decide) ?_
          refine wi_iload (i := 11) (pc' := 271) q341_269 rfl rfl ?_
          refine wi_iload (i := 10) (pc' := 273) q341_271 rfl rfl ?_
          refine wi_cv (u9 := (229, X)) (pc' := 276) wq341_273 rfl (cL_s3 (pL_plankStrength p5 (by omega) (by omega)) zLc_i) (fun h => absurd h (by decide)) rfl rfl (vL_strength (x := (k : Int)) (y := (y : Int)) p5.ok (by omega) (by omega) hp8).1 (by (try dsimp only); omega) (by (try dsimp only); omega) ?_
          intro Gp7 p7
          rw [(vL_strength (x := (k : Int)) (y := (y : Int)) p5.ok (by omega) (by omega) hp8).2]
          refine wi_if_le (t := 316) (pc' := 279) q341_276 (by decide) rfl (by omega) (fun h4 => absurd h4 (by omega)) (fun h4 => ?_)
          refine wi_aload_n (i := 0) (pc' := 280) q341_279 rfl rfl rfl ?_
          refine wi_bipush (pc' := 282) q341_280 rfl (by decide) ?_
          refine wi_iload (i := 11) (pc' := 284) q341_282 rfl rfl ?_
          refine wi_iload (i := 10) (pc' := 286) q341_284 rfl rfl ?_
          refine wi_cv (u9 := (229, X)) (pc' := 289) wq341_286 rfl (cL_s3 (pL_plankStrength p7 (by omega) (by omega)) zLc_i) (fun h => absurd h (by decide)) rfl rfl (vL_strength (x := (k : Int)) (y := (y : Int)) p7.ok (by omega) (by omega) hp8).1 (by (try dsimp only); omega) (by (try dsimp only); omega) ?_
          intro Gp8 p8
          rw [(vL_strength (x := (k : Int)) (y := (y : Int)) p7.ok (by omega) (by omega) hp8).2]
          refine wi_bipush (pc' := 291) q341_289 rfl (by decide) ?_
          refine wi_icmp_ge (t := 316) (pc' := 294) q341_291 (by decide) rfl (by omega) (by omega) (fun h5 => absurd h5 (by omega)) (fun h5 => ?_)
          refine wi_goto (t := 312) q341_294 (by decide) ?_
          refine wi_iconst (pc' := 313) q341_312 rfl ?_
          refine wi_goto (t := 317) q341_313 (by decide) ?_
          refine wi_istore8 (pc' := 319) q341_317 rfl rfl (Or.inr rfl) ?_
          refine wi_iinc11 (pc' := 322) q341_319 rfl rfl (Or.inr rfl) ?_
          refine wi_goto (t := 117) q341_322 (by decide) ?_
          refine wW_cd (c' := c + 3 * (k + 1)) (d' := d + 18 * (k + 1)) (by omega) (by omega) ?_
          rw [show ((zsum (sPlankRow s) y + zcnt (fun x => 10 < s (30 + 12 * (y : Int) + x)) k) + zb (10 < (s (30 + 12 * (y : Int) + (k : Int)))) : Int) = (zsum (sPlankRow s) y + zcnt (fun x => 10 < s (30 + 12 * (y : Int) + x)) (k + 1)) from Int.add_assoc _ _ _, show ((k : Int) + 1) = ((k + 1 : Nat) : Int) by omega]
          exact ih (k + 1) _ _ (by omega) (by omega) p8
theorem q341_103 : decode (zbc 341) 103 = .ok (.iload 10, 2) := by decide +kernel
theorem q341_105 : decode (zbc 341) 105 = .ok (.iload_n 3, 1) := by decide +kernel
theorem q341_106 : decode (zbc 341) 106 = .ok (.if_icmp .ge 225, 3) := by decide +kernel
theorem q341_109 : decode (zbc 341) 109 = .ok (.iload 8, 2) := by decide +kernel
theorem q341_111 : decode (zbc 341) 111 = .ok (.ifCond .eq 220, 3) := by decide +kernel
theorem q341_114 : decode (zbc 341) 114 = .ok (.iconst 0, 1) := by decide +kernel
theorem q341_115 : decode (zbc 341) 115 = .ok (.istore 11, 2) := by decide +kernel
theorem q341_325 : decode (zbc 341) 325 = .ok (.iinc 10 1, 3) := by decide +kernel
theorem q341_328 : decode (zbc 341) 328 = .ok (.goto (-225), 3) := by decide +kernel
theorem pt_o {X : Nat × (Nat → Int32)} {B : Int} {sv : Nat → Int → Int} {u : Int} {h : Nat → Int → Int} {s : Int → Int} {b : WB} {c d : Nat} {F : GM} {Y : DY} {Q : WQ} {W H W2 H2 i1 i2 : Nat} {D1 D2 : Int → Int} {w cu cv : Int} (hok : mOk s) (hW : s 0 = (W : Int)) (hH : s 1 = (H : Int)) (hW2 : s 0 = (W2 : Int)) (hH2 : s 1 = (H2 : Int)) (hr1 : wRp i1 W H D1 Y) (hr2 : wRp i2 W2 H2 D2 Y) (hI1 : DI s (gC s cu cv) D1) (hc1 : ∀ q, zVal (s 0) (s 1) q → ∀ d, 0 ≤ d → d < 4 → clo s D1 q d) (hI2 : DI s (gC s (-1) (-1)) D2) (hc2 : ∀ q, zVal (s 0) (s 1) q → ∀ d, 0 ≤ d → d < 4 → clo s D2 q d) (hcu : 0 ≤ cu ∧ cu < s 0) (hcv : 0 ≤ cv ∧ cv < s 1) (hb1 : c + 432 ≤ b.1) (hb2 : d + 2592 ≤ b.2.1) (hk : ∀ G (a10 a11 a12 : Value), PG B sv u h s G → wW (229, X) 341 b 331 [.ref 192, .int (zi w), .int (zi (s 0)), .int (zi (s 1)), .int (zi cu), .int (zi cv), .ref (1000 + i1), .ref (1000 + i2), .int (zi 1), .int (zi (sPlanks s)), a10, a11, a12] [] G F Y (c + 432) (d + 2592) Q) : ∀ (d9 : Nat) (k : Nat) (a11 a12 : Value) (G : GM), s 1 - (k : Int) < (d9 : Int) → (k : Int) ≤ s 1 → PG B sv u h s G → wW (229, X) 341 b 103 [.ref 192, .int (zi w), .int (zi (s 0)), .int (zi (s 1)), .int (zi cu), .int (zi cv), .ref (1000 + i1), .ref (1000 + i2), .int (zi 1), .int (zi (zsum (sPlankRow s) k)), .int (zi (k : Int)), a11, a12] [] G F Y (c + 36 * k) (d + 216 * k) Q := by
  intro d9
  induction d9 with
  | zero =>
    intro k
    intros
    exact absurd (by assumption) (by omega)
  | succ d9 ih =>
      intro k a11 a12 G hd hk9 p
      obtain ⟨a0, a1, -⟩ := id hok
      refine wi_iload (i := 10) (pc' := 105) q341_103 rfl rfl ?_
      refine wi_iload_n (i := 3) (pc' := 106) q341_105 rfl rfl rfl ?_
      refine wi_icmp_ge (t := 331) (pc' := 109) q341_106 (by decide) rfl (by omega) (by omega) ?_ ?_
      · intro h9
        obtain rfl : k = (s 1).toNat := by omega
        exact wW_cd (by omega) (by omega) (hk G _ a11 a12 p)
      · intro h9
        refine wi_iload (i := 8) (pc' := 111) q341_109 rfl rfl ?_
        refine wi_if_eq (t := 331) (pc' := 114) q341_111 (by decide) rfl (by omega) (fun h1 => absurd h1 (by omega)) (fun h1 => ?_)
        refine wi_iconst (pc' := 115) q341_114 rfl ?_
        refine wi_istore11 (pc' := 117) q341_115 rfl rfl (Or.inr rfl) ?_
        rw [show (zsum (sPlankRow s) k : Int) = zsum (sPlankRow s) k + zcnt (fun x => 10 < s (30 + 12 * (k : Int) + x)) 0 from (Int.add_zero _).symm]
        refine pt_i (c := c + 36 * k) (d := d + 216 * k) hok hW hH hW2 hH2 hr1 hr2 hI1 hc1 hI2 hc2 hcu hcv (by omega) (by omega) (y := k) (by omega) ?_ 99 0 _ _ (by omega) (by omega) p
        intro G9 k2 b12 hk2 p9
        obtain rfl : k2 = (s 0).toNat := by omega
        refine wi_iinc10 (pc' := 328) q341_325 rfl rfl (Or.inr rfl) ?_
        refine wi_goto (t := 103) q341_328 (by decide) ?_
        refine wW_cd (c' := c + 36 * (k + 1)) (d' := d + 216 * (k + 1)) (by omega) (by omega) ?_
        rw [show ((k : Int) + 1) = ((k + 1 : Nat) : Int) by omega]
        exact ih (k + 1) _ _ _ (by omega) (by omega) p9
theorem q341_0 : decode (zbc 341) 0 = .ok (.aload_n 0, 1) := by decide +kernel
theorem q341_1 : decode (zbc 341) 1 = .ok (.invokevirtual 233, 3) := by decide +kernel
theorem wq341_1 {L9 : Nat} {xs9 : Nat → Int32} {N9 : Nat} : z_SC N9 znl zTs (zZ L9 xs9 N9) zyn zbc zrt zfr zlo (fun _ i => i) ztb 341 1 3 206 1 := sc_V (P := fun _ i => i) (n' := 0) zTs_good q341_1 kx_509 kx_510 kx_511 kx_32 kx_512 rfl ⟨by decide, by decide, by decide +kernel⟩ rfl ⟨Nat.le_of_ble_eq_true rfl, Nat.le_of_ble_eq_true rfl⟩
theorem q341_4 : decode (zbc 341) 4 = .ok (.istore_n 2, 1) := by decide +kernel
theorem q341_5 : decode (zbc 341) 5 = .ok (.aload_n 0, 1) := by decide +kernel
theorem q341_6 : decode (zbc 341) 6 = .ok (.invokevirtual 236, 3) := by decide +kernel
theorem wq341_6 {L9 : Nat} {xs9 : Nat → Int32} {N9 : Nat} : z_SC N9 znl zTs (zZ L9 xs9 N9) zyn zbc zrt zfr zlo (fun _ i => i) ztb 341 6 3 207 1 := sc_V (P := fun _ i => i) (n' := 0) zTs_good q341_6 kx_513 kx_514 kx_515 kx_32 kx_516 rfl ⟨by decide, by decide, by decide +kernel⟩ rfl ⟨Nat.le_of_ble_eq_true rfl, Nat.le_of_ble_eq_true rfl⟩
theorem q341_9 : decode (zbc 341) 9 = .ok (.istore_n 3, 1) := by decide +kernel
theorem q341_10 : decode (zbc 341) 10 = .ok (.iload_n 1, 1) := by decide +kernel
theorem q341_11 : decode (zbc 341) 11 = .ok (.sipush 255, 3) := by decide +kernel
theorem q341_14 : decode (zbc 341) 14 = .ok (.iand, 1) := by decide +kernel
theorem q341_15 : decode (zbc 341) 15 = .ok (.iload_n 2, 1) := by decide +kernel
theorem q341_16 : decode (zbc 341) 16 = .ok (.irem, 1) := by decide +kernel
theorem q341_17 : decode (zbc 341) 17 = .ok (.istore 4, 2) := by decide +kernel
theorem q341_19 : decode (zbc 341) 19 = .ok (.iload_n 1, 1) := by decide +kernel
theorem q341_20 : decode (zbc 341) 20 = .ok (.iconst 3, 1) := by decide +kernel
theorem q341_21 : decode (zbc 341) 21 = .ok (.ishr, 1) := by decide +kernel
theorem q341_22 : decode (zbc 341) 22 = .ok (.sipush 255, 3) := by decide +kernel
theorem q341_25 : decode (zbc 341) 25 = .ok (.iand, 1) := by decide +kernel
theorem q341_26 : decode (zbc 341) 26 = .ok (.iload_n 3, 1) := by decide +kernel
theorem q341_27 : decode (zbc 341) 27 = .ok (.irem, 1) := by decide +kernel
theorem q341_28 : decode (zbc 341) 28 = .ok (.istore 5, 2) := by decide +kernel
theorem q341_30 : decode (zbc 341) 30 = .ok (.aload_n 0, 1) := by decide +kernel
theorem q341_31 : decode (zbc 341) 31 = .ok (.iload 4, 2) := by decide +kernel
theorem q341_33 : decode (zbc 341) 33 = .ok (.iload 5, 2) := by decide +kernel
theorem q341_35 : decode (zbc 341) 35 = .ok (.invokestatic 266, 3) := by decide +kernel
theorem kx_1397 : Cond.methodLink "FalseLightMarshLaw" 266 yL_steps ∈ zTs := z_in (i := 1397) (by decide +kernel) (by decide +kernel)
theorem kx_1398 : Cond.static yL_steps ∈ zTs := z_in (i := 1398) (by decide +kernel) (by decide +kernel)
theorem kx_1399 : Cond.code yL_steps cL_steps 12 (some (.array (.array .int))) ∈ zTs := z_in (i := 1399) (by decide +kernel) (by decide +kernel)
theorem wk341_35 : wSC 341 35 340 3 none := wk_S q341_35 kx_1397 kx_1398 kx_31 kx_1399 ⟨by decide, by decide, by decide +kernel⟩ ⟨Nat.le_of_ble_eq_true rfl, Nat.le_of_ble_eq_true rfl⟩
theorem q341_38 : decode (zbc 341) 38 = .ok (.astore 6, 2) := by decide +kernel
theorem q341_40 : decode (zbc 341) 40 = .ok (.aload_n 0, 1) := by decide +kernel
theorem q341_41 : decode (zbc 341) 41 = .ok (.iconst (-1), 1) := by decide +kernel
theorem q341_42 : decode (zbc 341) 42 = .ok (.iconst (-1), 1) := by decide +kernel
theorem q341_43 : decode (zbc 341) 43 = .ok (.invokestatic 266, 3) := by decide +kernel
theorem wk341_43 : wSC 341 43 340 3 none := wk_S q341_43 kx_1397 kx_1398 kx_31 kx_1399 ⟨by decide, by decide, by decide +kernel⟩ ⟨Nat.le_of_ble_eq_true rfl, Nat.le_of_ble_eq_true rfl⟩
theorem q341_46 : decode (zbc 341) 46 = .ok (.astore 7, 2) := by decide +kernel
theorem q341_48 : decode (zbc 341) 48 = .ok (.aload_n 0, 1) := by decide +kernel
theorem q341_49 : decode (zbc 341) 49 = .ok (.bipush 21, 2) := by decide +kernel
theorem q341_51 : decode (zbc 341) 51 = .ok (.iload_n 2, 1) := by decide +kernel
theorem q341_52 : decode (zbc 341) 52 = .ok (.iconst 0, 1) := by decide +kernel
theorem q341_53 : decode (zbc 341) 53 = .ok (.invokestatic 251, 3) := by decide +kernel
theorem wq341_53 {L9 : Nat} {xs9 : Nat → Int32} {N9 : Nat} : z_SC N9 znl zTs (zZ L9 xs9 N9) zyn zbc zrt zfr zlo (fun _ i => i) ztb 341 53 2 335 4 := sc_S (P := fun _ i => i) zTs_good q341_53 kx_1385 kx_1386 kx_31 kx_1387 rfl ⟨by decide, by decide, by decide +kernel⟩ ⟨Nat.le_of_ble_eq_true rfl, Nat.le_of_ble_eq_true rfl⟩
theorem q341_56 : decode (zbc 341) 56 = .ok (.bipush (-104), 2) := by decide +kernel
theorem q341_58 : decode (zbc 341) 58 = .ok (.if_icmp .ne 36, 3) := by decide +kernel
theorem q341_61 : decode (zbc 341) 61 = .ok (.aload_n 0, 1) := by decide +kernel
theorem q341_62 : decode (zbc 341) 62 = .ok (.bipush 20, 2) := by decide +kernel
theorem q341_64 : decode (zbc 341) 64 = .ok (.iconst 0, 1) := by decide +kernel
theorem q341_65 : decode (zbc 341) 65 = .ok (.iconst 0, 1) := by decide +kernel
theorem q341_66 : decode (zbc 341) 66 = .ok (.iconst 0, 1) := by decide +kernel
theorem q341_67 : decode (zbc 341) 67 = .ok (.iload_n 3, 1) := by decide +kernel
theorem q341_68 : decode (zbc 341) 68 = .ok (.iconst 0, 1) := by decide +kernel
theorem q341_69 : decode (zbc 341) 69 = .ok (.invokestatic 172, 3) := by decide +kernel
theorem wq341_69 {L9 : Nat} {xs9 : Nat → Int32} {N9 : Nat} : z_SC N9 znl zTs (zZ L9 xs9 N9) zyn zbc zrt zfr zlo (fun _ i => i) ztb 341 69 2 334 7 := sc_SW (P := fun _ i => i) zTs_good q341_69 kx_548 kx_549 kx_31 wc_550 (by decide +kernel) ⟨by decide, by decide, by decide +kernel⟩ ⟨Nat.le_of_ble_eq_true rfl, Nat.le_of_ble_eq_true rfl⟩
theorem q341_72 : decode (zbc 341) 72 = .ok (.bipush (-104), 2) := by decide +kernel
theorem q341_74 : decode (zbc 341) 74 = .ok (.if_icmp .ne 20, 3) := by decide +kernel
theorem q341_77 : decode (zbc 341) 77 = .ok (.aload_n 0, 1) := by decide +kernel
theorem q341_78 : decode (zbc 341) 78 = .ok (.bipush 16, 2) := by decide +kernel
theorem q341_80 : decode (zbc 341) 80 = .ok (.iconst (-1), 1) := by decide +kernel
theorem q341_81 : decode (zbc 341) 81 = .ok (.iconst 0, 1) := by decide +kernel
theorem q341_82 : decode (zbc 341) 82 = .ok (.invokestatic 251, 3) := by decide +kernel
theorem wq341_82 {L9 : Nat} {xs9 : Nat → Int32} {N9 : Nat} : z_SC N9 znl zTs (zZ L9 xs9 N9) zyn zbc zrt zfr zlo (fun _ i => i) ztb 341 82 2 335 4 := sc_S (P := fun _ i => i) zTs_good q341_82 kx_1385 kx_1386 kx_31 kx_1387 rfl ⟨by decide, by decide, by decide +kernel⟩ ⟨Nat.le_of_ble_eq_true rfl, Nat.le_of_ble_eq_true rfl⟩
theorem q341_85 : decode (zbc 341) 85 = .ok (.bipush (-104), 2) := by decide +kernel
theorem q341_87 : decode (zbc 341) 87 = .ok (.if_icmp .ne 7, 3) := by decide +kernel
theorem q341_90 : decode (zbc 341) 90 = .ok (.iconst 1, 1) := by decide +kernel
theorem q341_91 : decode (zbc 341) 91 = .ok (.goto 4, 3) := by decide +kernel
theorem q341_95 : decode (zbc 341) 95 = .ok (.istore 8, 2) := by decide +kernel
theorem q341_97 : decode (zbc 341) 97 = .ok (.iconst 0, 1) := by decide +kernel
theorem q341_98 : decode (zbc 341) 98 = .ok (.istore 9, 2) := by decide +kernel
theorem q341_100 : decode (zbc 341) 100 = .ok (.iconst 0, 1) := by decide +kernel
theorem q341_101 : decode (zbc 341) 101 = .ok (.istore 10, 2) := by decide +kernel
theorem q341_331 : decode (zbc 341) 331 = .ok (.iload 8, 2) := by decide +kernel
theorem q341_333 : decode (zbc 341) 333 = .ok (.ifCond .eq 34, 3) := by decide +kernel
theorem q341_336 : decode (zbc 341) 336 = .ok (.iload 9, 2) := by decide +kernel
theorem q341_338 : decode (zbc 341) 338 = .ok (.aload_n 0, 1) := by decide +kernel
theorem q341_339 : decode (zbc 341) 339 = .ok (.invokevirtual 270, 3) := by decide +kernel
theorem kx_517 : Cond.methodLink "FalseLightMarshLaw" 270 yX8_plankCount ∈ zTs := z_in (i := 517) (by decide +kernel) (by decide +kernel)
theorem kx_518 : Cond.instanceMethod yX8_plankCount ∈ zTs := z_in (i := 518) (by decide +kernel) (by decide +kernel)
theorem kx_519 : Cond.selects "FalseLightMarsh" yX8_plankCount yX8_plankCount ∈ zTs := z_in (i := 519) (by decide +kernel) (by decide +kernel)
theorem kx_520 : Cond.code yX8_plankCount cX8_plankCount 1 (some .int) ∈ zTs := z_in (i := 520) (by decide +kernel) (by decide +kernel)
theorem wq341_339 {L9 : Nat} {xs9 : Nat → Int32} {N9 : Nat} : z_SC N9 znl zTs (zZ L9 xs9 N9) zyn zbc zrt zfr zlo (fun _ i => i) ztb 341 339 3 212 1 := sc_V (P := fun _ i => i) (n' := 0) zTs_good q341_339 kx_517 kx_518 kx_519 kx_32 kx_520 rfl ⟨by decide, by decide, by decide +kernel⟩ rfl ⟨Nat.le_of_ble_eq_true rfl, Nat.le_of_ble_eq_true rfl⟩
theorem q341_342 : decode (zbc 341) 342 = .ok (.if_icmp .ne 25, 3) := by decide +kernel
theorem q341_345 : decode (zbc 341) 345 = .ok (.aload_n 0, 1) := by decide +kernel
theorem q341_346 : decode (zbc 341) 346 = .ok (.bipush 20, 2) := by decide +kernel
theorem q341_348 : decode (zbc 341) 348 = .ok (.iload 4, 2) := by decide +kernel
theorem q341_350 : decode (zbc 341) 350 = .ok (.iload 5, 2) := by decide +kernel
theorem q341_352 : decode (zbc 341) 352 = .ok (.iload 4, 2) := by decide +kernel
theorem q341_354 : decode (zbc 341) 354 = .ok (.iload 5, 2) := by decide +kernel
theorem q341_356 : decode (zbc 341) 356 = .ok (.iconst 0, 1) := by decide +kernel
theorem q341_357 : decode (zbc 341) 357 = .ok (.invokestatic 172, 3) := by decide +kernel
theorem wq341_357 {L9 : Nat} {xs9 : Nat → Int32} {N9 : Nat} : z_SC N9 znl zTs (zZ L9 xs9 N9) zyn zbc zrt zfr zlo (fun _ i => i) ztb 341 357 2 334 7 := sc_SW (P := fun _ i => i) zTs_good q341_357 kx_548 kx_549 kx_31 wc_550 (by decide +kernel) ⟨by decide, by decide, by decide +kernel⟩ ⟨Nat.le_of_ble_eq_true rfl, Nat.le_of_ble_eq_true rfl⟩
theorem q341_360 : decode (zbc 341) 360 = .ok (.ifCond .ne 7, 3) := by decide +kernel
theorem q341_363 : decode (zbc 341) 363 = .ok (.iconst 1, 1) := by decide +kernel
theorem q341_364 : decode (zbc 341) 364 = .ok (.goto 4, 3) := by decide +kernel
theorem q341_368 : decode (zbc 341) 368 = .ok (.ireturn, 1) := by decide +kernel
theorem cS_paths {X : Nat × (Nat → Int32)} {B : Int} {sv : Nat → Int → Int} {u : Int} {h : Nat → Int → Int} {s : Int → Int} {G F : GM} {Y : DY} {w : Int} (p : PG B sv u h s G) : wC (229, X) 341 461 2922 [.ref 192, .int (zi w)] G F Y (fun o G' F' Y' => o = some (.int (zi 1)) ∧ PG B sv u h s G' ∧ F = F' ∧ Yfr Y Y') := by
  refine w_met (L0 := [.ref 192, .int (zi w), .null, .null, .null, .null, .null, .null, .null, .null, .null, .null, .null]) (by decide +kernel) rfl rfl ?_
  have hok := p.ok
  obtain ⟨a0, a1, -⟩ := id hok
  have e1 := zand_255 w
  have e2 := zand_255 (zshr w 3)
  have m1 := Int.emod_nonneg (zand w 255) (show s 0 ≠ 0 by omega)
  have m2 := Int.emod_lt_of_pos (zand w 255) (show 0 < s 0 by omega)
  have m3 := Int.emod_nonneg (zand (zshr w 3) 255) (show s 1 ≠ 0 by omega)
  have m4 := Int.emod_lt_of_pos (zand (zshr w 3) 255) (show 0 < s 1 by omega)
  refine wi_aload_n (i := 0) (pc' := 1) q341_0 rfl rfl rfl ?_
  refine wi_cp (u9 := (229, X)) (pc' := 4) wq341_1 rfl (cQ_width (Nat.le_refl _) p.ok p.hR) (fun _ => ⟨_, _, rfl⟩) rfl rfl (by (try dsimp only); omega) (by (try dsimp only); omega) ?_
  refine wi_istore2 (pc' := 5) q341_4 rfl rfl rfl (Or.inr rfl) ?_
  refine wi_aload_n (i := 0) (pc' := 6) q341_5 rfl rfl rfl ?_
  refine wi_cp (u9 := (229, X)) (pc' := 9) wq341_6 rfl (cQ_height (Nat.le_refl _) p.ok p.hR) (fun _ => ⟨_, _, rfl⟩) rfl rfl (by (try dsimp only); omega) (by (try dsimp only); omega) ?_
  refine wi_istore3 (pc' := 10) q341_9 rfl rfl rfl (Or.inr rfl) ?_
  refine wi_iload_n (i := 1) (pc' := 11) q341_10 rfl rfl rfl ?_
  refine wi_sipush (pc' := 14) q341_11 rfl (by decide) ?_
  refine wi_iand (pc' := 15) q341_14 rfl ?_
  refine wi_iload_n (i := 2) (pc' := 16) q341_15 rfl rfl rfl ?_
  refine wi_irem (pc' := 17) q341_16 rfl (by omega) (by omega) ?_
  refine wi_istore4 (pc' := 19) q341_17 rfl rfl (Or.inr rfl) ?_
  refine wi_iload_n (i := 1) (pc' := 20) q341_19 rfl rfl rfl ?_
  refine wi_iconst (pc' := 21) q341_20 rfl ?_
  refine wi_ishr (pc' := 22) q341_21 rfl ?_
  refine wi_sipush (pc' := 25) q341_22 rfl (by decide) ?_
  refine wi_iand (pc' := 26) q341_25 rfl ?_
  refine wi_iload_n (i := 3) (pc' := 27) q341_26 rfl rfl rfl ?_
  refine wi_irem (pc' := 28) q341_27 rfl (by omega) (by omega) ?_
  refine wi_istore5 (pc' := 30) q341_28 rfl rfl (Or.inr rfl) ?_
  generalize zand w 255 % s 0 = cu at m1 m2 ⊢
  generalize zand (zshr w 3) 255 % s 1 = cv at m3 m4 ⊢
  refine wi_aload_n (i := 0) (pc' := 31) q341_30 rfl rfl rfl ?_
  refine wi_iload (i := 4) (pc' := 33) q341_31 rfl rfl ?_
  refine wi_iload (i := 5) (pc' := 35) q341_33 rfl rfl ?_
  refine wi_call (pc' := 38) wk341_35 rfl (cS_steps (cx := cu) (ry := cv) (by omega) (by omega) p) rfl (Nat.le_of_ble_eq_true rfl) (Nat.le_of_ble_eq_true rfl) (by (try dsimp only); omega) (by (try dsimp only); omega) (wrv_n) ?_
  rintro o9 G1 F9 Y1 ⟨rfl, q1, rfl, W1, H1, D1, hW1, hH1, hS1, hI1, hc1⟩ hle1
  refine wi_astore6 (pc' := 40) q341_38 rfl rfl (Or.inr rfl) ?_
  refine wi_aload_n (i := 0) (pc' := 41) q341_40 rfl rfl rfl ?_
  refine wi_iconst (pc' := 42) q341_41 rfl ?_
  refine wi_iconst (pc' := 43) q341_42 rfl ?_
  refine wi_call (pc' := 46) wk341_43 rfl (cS_steps (cx := (-1)) (ry := (-1)) (by omega) (by omega) q1) rfl (Nat.le_of_ble_eq_true rfl) (Nat.le_of_ble_eq_true rfl) (by (try dsimp only); omega) (by (try dsimp only); omega) (wrv_n) ?_
  rintro o9 G2 F9 Y2 ⟨rfl, q2, rfl, W2, H2, D2, hW2, hH2, hS2, hI2, hc2⟩ hle2
  refine wi_astore7 (pc' := 48) q341_46 rfl rfl (Or.inr rfl) ?_
  refine wi_aload_n (i := 0) (pc' := 49) q341_48 rfl rfl rfl ?_
  refine wi_bipush (pc' := 51) q341_49 rfl (by decide) ?_
  refine wi_iload_n (i := 2) (pc' := 52) q341_51 rfl rfl rfl ?_
  refine wi_iconst (pc' := 53) q341_52 rfl ?_
  refine wi_cx (u9 := (229, X)) (pc' := 56) wq341_53 rfl (cL_s3 (pL_stepsToHut q2 (by omega) (by omega)) zLc_i) (fun h => absurd h (by decide)) rfl rfl (by (try dsimp only); omega) (by (try dsimp only); omega) ?_
  intro Gp1 p1
  rw [vL_hutsOut (s := s) (x := s 0) (y := 0) (fun h => by omega)]
  refine wi_bipush (pc' := 58) q341_56 rfl (by decide) ?_
  refine wi_icmp_ne (t := 94) (pc' := 61) q341_58 (by decide) rfl (by omega) (by omega) (fun h1 => absurd h1 (by omega)) (fun h1 => ?_)
  refine wi_aload_n (i := 0) (pc' := 62) q341_61 rfl rfl rfl ?_
  refine wi_bipush (pc' := 64) q341_62 rfl (by decide) ?_
  refine wi_iconst (pc' := 65) q341_64 rfl ?_
  refine wi_iconst (pc' := 66) q341_65 rfl ?_
  refine wi_iconst (pc' := 67) q341_66 rfl ?_
  refine wi_iload_n (i := 3) (pc' := 68) q341_67 rfl rfl rfl ?_
  refine wi_iconst (pc' := 69) q341_68 rfl ?_
  refine wi_cx (u9 := (229, X)) (pc' := 72) wq341_69 rfl (pL_pathLength p1 (by omega) (by omega) (by omega) (by omega)) (fun h => absurd h (by decide)) rfl rfl (by (try dsimp only); omega) (by (try dsimp only); omega) ?_
  intro Gp2 p2
  rw [vL_pathOut (s := s) (x := 0) (y := 0) (u := 0) (v := s 1) (fun h => by omega)]
  refine wi_bipush (pc' := 74) q341_72 rfl (by decide) ?_
  refine wi_icmp_ne (t := 94) (pc' := 77) q341_74 (by decide) rfl (by omega) (by omega) (fun h2 => absurd h2 (by omega)) (fun h2 => ?_)
  refine wi_aload_n (i := 0) (pc' := 78) q341_77 rfl rfl rfl ?_
  refine wi_bipush (pc' := 80) q341_78 rfl (by decide) ?_
  refine wi_iconst (pc' := 81) q341_80 rfl ?_
  refine wi_iconst (pc' := 82) q341_81 rfl ?_
  refine wi_cx (u9 := (229, X)) (pc' := 85) wq341_82 rfl (cL_s3 (pL_isWater p2 (by omega) (by omega)) zLc_i) (fun h => absurd h (by decide)) rfl rfl (by (try dsimp only); omega) (by (try dsimp only); omega) ?_
  intro Gp3 p3
  rw [vL_waterOut (s := s) (x := -1) (y := 0) (fun h => by omega)]
  refine wi_bipush (pc' := 87) q341_85 rfl (by decide) ?_
  refine wi_icmp_ne (t := 94) (pc' := 90) q341_87 (by decide) rfl (by omega) (by omega) (fun h3 => absurd h3 (by omega)) (fun h3 => ?_)
  refine wi_iconst (pc' := 91) q341_90 rfl ?_
  refine wi_goto (t := 95) q341_91 (by decide) ?_
  refine wi_istore8 (pc' := 97) q341_95 rfl rfl (Or.inr rfl) ?_
  refine wi_iconst (pc' := 98) q341_97 rfl ?_
  refine wi_istore9 (pc' := 100) q341_98 rfl rfl (Or.inr rfl) ?_
  refine wi_iconst (pc' := 101) q341_100 rfl ?_
  refine wi_istore10 (pc' := 103) q341_101 rfl rfl (Or.inr rfl) ?_
  refine wW_cd (c' := 29) (d' := 330) (by (try dsimp only); omega) (by (try dsimp only); omega) ?_
  refine pt_o (cu := cu) (cv := cv) (c := 29) (d := 330) hok hW1 hH1 hW2 hH2 (wRp_k (wRo_p hS1) hS2) (wRo_p hS2) hI1 hc1 hI2 hc2 ⟨m1, m2⟩ ⟨m3, m4⟩ (by (try dsimp only); omega) (by (try dsimp only); omega) ?_ 99 0 _ _ _ (by omega) (by omega) p3
  intro G9 b10 b11 b12 p9
  have hsp : 0 ≤ sPlanks s ∧ sPlanks s ≤ 12 * ((s 1).toNat : Int) := zsum_rng (c := 12) _ (fun j _ _ => by have := zcnt_rng (fun x => 10 < s (30 + 12 * j + x)) (s 0).toNat; show 0 ≤ zcnt (fun x => 10 < s (30 + 12 * j + x)) (s 0).toNat ∧ zcnt (fun x => 10 < s (30 + 12 * j + x)) (s 0).toNat ≤ 12; omega)
  refine wi_iload (i := 8) (pc' := 333) q341_331 rfl rfl ?_
  refine wi_if_eq (t := 367) (pc' := 336) q341_333 (by decide) rfl (by omega) (fun h4 => absurd h4 (by omega)) (fun h4 => ?_)
  refine wi_iload (i := 9) (pc' := 338) q341_336 rfl rfl ?_
  refine wi_aload_n (i := 0) (pc' := 339) q341_338 rfl rfl rfl ?_
  refine wi_cp (u9 := (229, X)) (pc' := 342) wq341_339 rfl (cQ_plankCount (Nat.le_refl _) p9.ok p9.hR) (fun _ => ⟨_, _, rfl⟩) rfl rfl (by (try dsimp only); omega) (by (try dsimp only); omega) ?_
  refine wi_icmp_ne (t := 367) (pc' := 345) q341_342 (by decide) rfl (by omega) (by omega) (fun h5 => absurd h5 (by omega)) (fun h5 => ?_)
  refine wi_aload_n (i := 0) (pc' := 346) q341_345 rfl rfl rfl ?_
  refine wi_bipush (pc' := 348) q341_346 rfl (by decide) ?_
  refine wi_iload (i := 4) (pc' := 350) q341_348 rfl rfl ?_
  refine wi_iload (i := 5) (pc' := 352) q341_350 rfl rfl ?_
  refine wi_iload (i := 4) (pc' := 354) q341_352 rfl rfl ?_
  refine wi_iload (i := 5) (pc' := 356) q341_354 rfl rfl ?_
  refine wi_iconst (pc' := 357) q341_356 rfl ?_
  refine wi_cv (u9 := (229, X)) (pc' := 360) wq341_357 rfl (pL_pathLength p9 (by omega) (by omega) (by omega) (by omega)) (fun h => absurd h (by decide)) rfl rfl (vL_pathIn (s := s) (x := cu) (y := cv) ⟨m1, m2⟩ ⟨m3, m4⟩).1 (by (try dsimp only); omega) (by (try dsimp only); omega) ?_
  intro Gp4 p4
  rw [(vL_pathIn (s := s) (x := cu) (y := cv) ⟨m1, m2⟩ ⟨m3, m4⟩).2]
  refine wi_if_ne (t := 367) (pc' := 363) q341_360 (by decide) rfl (by omega) (fun h6 => absurd h6 (by omega)) (fun h6 => ?_)
  refine wi_iconst (pc' := 364) q341_363 rfl ?_
  refine wi_goto (t := 368) q341_364 (by decide) ?_
  refine wW_r (o := some (.int (zi 1))) ⟨q341_368, _, rfl, rfl⟩ rfl (by (try dsimp only); omega) (by (try dsimp only); omega) ?_
  exact ⟨rfl, p4, rfl, Yfr_t (wRo_fr hS1) (wRo_fr hS2)⟩
