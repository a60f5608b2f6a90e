/-! The reference model, its simple parts: what each method answers, of any row (printed by wip/whole/src15.py). -/
abbrev sIn (s : Int → Int) (x y : Int) : Prop := (0 ≤ x ∧ x ≤ s 0 - 1) ∧ (0 ≤ y ∧ y ≤ s 1 - 1)
def sSight (s : Int → Int) : Int := if s 2 - s (6 + s 3 % 24) < 0 then 0 else s 2 - s (6 + s 3 % 24)
def zap (a b : Int) : Int := if a < b then b - a else a - b
def sFar (s : Int → Int) (w x y : Int) : Int := zap (s (214 + 7 * w + 0)) x + zap (s (214 + 7 * w + 1)) y
def sFarL (s : Int → Int) (w l : Int) : Int := sFar s w (s (174 + 5 * l + 0)) (s (174 + 5 * l + 1))
abbrev sSeen (s : Int → Int) (w l : Int) : Prop := sFarL s w l ≤ sSight s + s (174 + 5 * l + 2)
abbrev zhas (m l : Int) : Prop := zand (zshr m l) 1 = 1
abbrev sAcc (s : Int → Int) (w l : Int) : Prop := sSeen s w l ∧ ¬ zhas (s (214 + 7 * w + 4)) l ∧ ¬ zhas (s (214 + 7 * w + 5)) l
abbrev sOn (s : Int → Int) (w l : Int) : Prop := s (214 + 7 * w + 0) = s (174 + 5 * l + 0) ∧ s (214 + 7 * w + 1) = s (174 + 5 * l + 1)
def sNear (s : Int → Int) (w : Int) : Nat → Int
  | 0 => -1
  | k + 1 => if sAcc s w k ∧ (sNear s w k < 0 ∨ sFarL s w k < sFarL s w (sNear s w k)) then (k : Int) else sNear s w k
def zadd (m l : Int) : Int := zor m (zshl 1 l)
/-- what is known of a light, of a traveller, of the sight -/
def mLt (s : Int → Int) (l : Int) : Prop := (0 ≤ s (174 + 5 * l + 0) ∧ s (174 + 5 * l + 0) < 12) ∧ (0 ≤ s (174 + 5 * l + 1) ∧ s (174 + 5 * l + 1) < 12) ∧ (0 ≤ s (174 + 5 * l + 2) ∧ s (174 + 5 * l + 2) ≤ 9) ∧ (0 ≤ s (174 + 5 * l + 3) ∧ s (174 + 5 * l + 3) ≤ 1) ∧ (-1 ≤ s (174 + 5 * l + 4) ∧ s (174 + 5 * l + 4) < 8)
def mWk (s : Int → Int) (w : Int) : Prop := (0 ≤ s (214 + 7 * w + 0) ∧ s (214 + 7 * w + 0) < 12) ∧ (0 ≤ s (214 + 7 * w + 1) ∧ s (214 + 7 * w + 1) < 12) ∧ (0 ≤ s (214 + 7 * w + 2) ∧ s (214 + 7 * w + 2) ≤ 2) ∧ (-1 ≤ s (214 + 7 * w + 3) ∧ s (214 + 7 * w + 3) < 8) ∧ (0 ≤ s (214 + 7 * w + 6) ∧ s (214 + 7 * w + 6) ≤ 30000)
def mSg (s : Int → Int) : Prop := (0 ≤ s 2 ∧ s 2 ≤ 20) ∧ (0 ≤ s 3 ∧ s 3 ≤ 30000) ∧ (0 ≤ s (6 + s 3 % 24) ∧ s (6 + s 3 % 24) ≤ 9)
theorem zap_rng {a b : Int} (ha : 0 ≤ a ∧ a < 12) (hb : 0 ≤ b ∧ b < 12) : 0 ≤ zap a b ∧ zap a b < 12 := by
  unfold zap
  split <;> omega
theorem sSight_rng {s : Int → Int} (h : mSg s) : 0 ≤ sSight s ∧ sSight s ≤ 20 := by
  obtain ⟨⟨a1, a2⟩, ⟨b1, b2⟩, c1, c2⟩ := h
  unfold sSight
  split <;> omega
theorem sFar_rng {s : Int → Int} {w x y : Int} (hk : mWk s w) (hx : 0 ≤ x ∧ x < 12) (hy : 0 ≤ y ∧ y < 12) : 0 ≤ sFar s w x y ∧ sFar s w x y ≤ 22 := by
  have h1 := zap_rng hk.1 hx
  have h2 := zap_rng hk.2.1 hy
  unfold sFar
  omega
theorem sFarL_rng {s : Int → Int} {w l : Int} (hk : mWk s w) (hl : mLt s l) : 0 ≤ sFarL s w l ∧ sFarL s w l ≤ 22 := sFar_rng hk hl.1 hl.2.1
theorem sNear_rng (s : Int → Int) (w : Int) (k : Nat) : -1 ≤ sNear s w k ∧ sNear s w k < k := by
  induction k with
  | zero => exact ⟨Int.le_refl (-1), by show (-1 : Int) < ((0 : Nat) : Int); decide⟩
  | succ k ih =>
    unfold sNear
    split <;> omega

theorem cM_thrown {N : Nat} {G F : GM} {n : Nat} (hN : 241 ≤ N) : zPu N 0 [.ref 230] (G 230 10) G F n := by
  refine zPu_i (L0 := [.ref 230]) rfl ?_
  refine zs_aload (ip' := 1) rfl rfl rfl ?_
  refine zs_getI (ip' := 2) rfl rfl (by omega) zsh_230 rfl (q := 10) rfl ?_
  intro hl1 hu1
  refine zW_0 rfl ?_
  exact zfin rfl
theorem cM_fails {N : Nat} {G F : GM} {n : Nat} (hN : 241 ≤ N) {c : Int} (hc : zr c) : zC N 1 [.ref 230, .int (zi c)] G F n (zR fun v G' F' n' => v = 0 ∧ G' = zk G 230 (zp (G 230) 10 c) ∧ F' = F ∧ n' = n) := by
  refine zC_i (L0 := [.ref 230, .int (zi c)]) rfl ?_
  refine zs_aload (ip' := 1) rfl rfl rfl ?_
  refine zs_iload (ip' := 2) rfl rfl rfl ?_
  refine zs_putI (ip' := 3) rfl rfl (by omega) zsh_230 rfl (q := 10) rfl (by omega) ?_
  refine zs_pushI (ip' := 4) rfl rfl zi_k0 ?_
  refine zW_0 rfl ?_
  exact ⟨0, rfl, zr0, rfl, rfl, rfl, rfl⟩
theorem cM_isFailed {N : Nat} {G F : GM} {n : Nat} (hN : 241 ≤ N) {c : Int} (hc : zr c) : zC N 2 [.ref 230, .int (zi c)] G F n (zR fun v G' F' n' => v = 0 ∧ G' = zk G 230 (zp (G 230) 10 c) ∧ F' = F ∧ n' = n) := by
  refine zC_i (L0 := [.ref 230, .int (zi c)]) rfl ?_
  refine zs_aload (ip' := 1) rfl rfl rfl ?_
  refine zs_iload (ip' := 2) rfl rfl rfl ?_
  refine zs_putI (ip' := 3) rfl rfl (by omega) zsh_230 rfl (q := 10) rfl (by omega) ?_
  refine zs_pushI (ip' := 4) rfl rfl zi_k0 ?_
  refine zW_0b rfl (Or.inl rfl) ?_
  exact ⟨0, rfl, zr0, rfl, rfl, rfl, rfl⟩
theorem cM_in {N : Nat} {G F : GM} {n : Nat} {x a b : Int} (hx : zr x) (ha : zr a) (hb : zr b) : zPu N 3 [.int (zi x), .int (zi a), .int (zi b)] (zb (a ≤ x ∧ x ≤ b)) G F n := by
  refine zPu_i (L0 := [.int (zi x), .int (zi a), .int (zi b)]) rfl ?_
  refine zs_iload (ip' := 1) rfl rfl rfl ?_
  refine zs_iload (ip' := 2) rfl rfl rfl ?_
  refine zs_icmp_gt (t := 8) (ip' := 3) rfl rfl (by omega) (by omega) ?_ ?_
  · intro h2
    refine zs_pushI (ip' := 9) rfl rfl zi_k0 ?_
    refine zW_0b rfl (Or.inl rfl) ?_
    exact zfin (zb_f (by omega)).symm
  · intro h2
    refine zs_iload (ip' := 4) rfl rfl rfl ?_
    refine zs_iload (ip' := 5) rfl rfl rfl ?_
    refine zs_icmp_gt (t := 8) (ip' := 6) rfl rfl (by omega) (by omega) ?_ ?_
    · intro h5
      refine zs_pushI (ip' := 9) rfl rfl zi_k0 ?_
      refine zW_0b rfl (Or.inl rfl) ?_
      exact zfin (zb_f (by omega)).symm
    · intro h5
      refine zs_pushI (ip' := 7) rfl rfl zi_k1 ?_
      refine zs_goto (t := 9) rfl ?_
      refine zW_0b rfl (Or.inr rfl) ?_
      exact zfin (zb_t (by omega)).symm
theorem cM_cellAt {N : Nat} {G F : GM} {n : Nat} {x y : Int} : zPu N 6 [.int (zi x), .int (zi y)] (30 + 12 * y + x) G F n := by
  refine zPu_i (L0 := [.int (zi x), .int (zi y)]) rfl ?_
  refine zs_pushI (ip' := 1) rfl rfl zi_k30 ?_
  refine zs_pushI (ip' := 2) rfl rfl zi_k12 ?_
  refine zs_iload (ip' := 3) rfl rfl rfl ?_
  refine zs_imul (ip' := 4) rfl rfl ?_
  refine zs_iadd (ip' := 5) rfl rfl ?_
  refine zs_iload (ip' := 6) rfl rfl rfl ?_
  refine zs_iadd (ip' := 7) rfl rfl ?_
  refine zW_0 rfl ?_
  exact zfin rfl
theorem cM_lightAt {N : Nat} {G F : GM} {n : Nat} {x y : Int} : zPu N 7 [.int (zi x), .int (zi y)] (174 + 5 * x + y) G F n := by
  refine zPu_i (L0 := [.int (zi x), .int (zi y)]) rfl ?_
  refine zs_pushI (ip' := 1) rfl rfl zi_k174 ?_
  refine zs_pushI (ip' := 2) rfl rfl zi_k5 ?_
  refine zs_iload (ip' := 3) rfl rfl rfl ?_
  refine zs_imul (ip' := 4) rfl rfl ?_
  refine zs_iadd (ip' := 5) rfl rfl ?_
  refine zs_iload (ip' := 6) rfl rfl rfl ?_
  refine zs_iadd (ip' := 7) rfl rfl ?_
  refine zW_0 rfl ?_
  exact zfin rfl
theorem cM_walkerAt {N : Nat} {G F : GM} {n : Nat} {x y : Int} : zPu N 8 [.int (zi x), .int (zi y)] (214 + 7 * x + y) G F n := by
  refine zPu_i (L0 := [.int (zi x), .int (zi y)]) rfl ?_
  refine zs_pushI (ip' := 1) rfl rfl zi_k214 ?_
  refine zs_pushI (ip' := 2) rfl rfl zi_k7 ?_
  refine zs_iload (ip' := 3) rfl rfl rfl ?_
  refine zs_imul (ip' := 4) rfl rfl ?_
  refine zs_iadd (ip' := 5) rfl rfl ?_
  refine zs_iload (ip' := 6) rfl rfl rfl ?_
  refine zs_iadd (ip' := 7) rfl rfl ?_
  refine zW_0 rfl ?_
  exact zfin rfl
theorem cM_placeOf {N : Nat} {G F : GM} {n : Nat} {x y : Int} : zPu N 13 [.int (zi x), .int (zi y)] (12 * y + x) G F n := by
  refine zPu_i (L0 := [.int (zi x), .int (zi y)]) rfl ?_
  refine zs_pushI (ip' := 1) rfl rfl zi_k12 ?_
  refine zs_iload (ip' := 2) rfl rfl rfl ?_
  refine zs_imul (ip' := 3) rfl rfl ?_
  refine zs_iload (ip' := 4) rfl rfl rfl ?_
  refine zs_iadd (ip' := 5) rfl rfl ?_
  refine zW_0 rfl ?_
  exact zfin rfl
theorem cM_isInside {N : Nat} {G F : GM} {n : Nat} {r : Nat} (hr : z_sh r = (1, 256, [])) (hrN : r < N) {x y : Int} (h0 : -9 ≤ G r 0 ∧ G r 0 ≤ 99) (h1 : -9 ≤ G r 1 ∧ G r 1 ≤ 99) (hx : zr x) (hy : zr y) : zPu N 9 [.ref r, .int (zi x), .int (zi y)] (zb (sIn (G r) x y)) G F n := by
  refine zPu_i (L0 := [.ref r, .int (zi x), .int (zi y)]) rfl ?_
  refine zs_iload (ip' := 1) rfl rfl rfl ?_
  refine zs_pushI (ip' := 2) rfl rfl zi_k0 ?_
  refine zs_aload (ip' := 3) rfl rfl rfl ?_
  refine zs_pushI (ip' := 4) rfl rfl zi_k0 ?_
  refine zs_iald (ip' := 5) rfl rfl hrN hr (by omega) ?_
  intro hl4 hu4
  refine zs_pushI (ip' := 6) rfl rfl zi_k1 ?_
  refine zs_isub (ip' := 7) rfl rfl ?_
  refine zW_cP (ip' := 8) rfl rfl (cM_in (by omega) (by omega) (by omega)) rfl rfl rfl ?_
  refine zs_if_eqB (t := 20) (ip' := 9) rfl rfl ?_ ?_
  · intro h8
    refine zs_pushI (ip' := 21) rfl rfl zi_k0 ?_
    refine zW_0b rfl (Or.inl rfl) ?_
    exact zfin (zb_f (fun h => h8 h.1)).symm
  · intro h8
    refine zs_iload (ip' := 10) rfl rfl rfl ?_
    refine zs_pushI (ip' := 11) rfl rfl zi_k0 ?_
    refine zs_aload (ip' := 12) rfl rfl rfl ?_
    refine zs_pushI (ip' := 13) rfl rfl zi_k1 ?_
    refine zs_iald (ip' := 14) rfl rfl hrN hr (by omega) ?_
    intro hl13 hu13
    refine zs_pushI (ip' := 15) rfl rfl zi_k1 ?_
    refine zs_isub (ip' := 16) rfl rfl ?_
    refine zW_cP (ip' := 17) rfl rfl (cM_in (by omega) (by omega) (by omega)) rfl rfl rfl ?_
    refine zs_if_eqB (t := 20) (ip' := 18) rfl rfl ?_ ?_
    · intro h17
      refine zs_pushI (ip' := 21) rfl rfl zi_k0 ?_
      refine zW_0b rfl (Or.inl rfl) ?_
      exact zfin (zb_f (fun h => h17 h.2)).symm
    · intro h17
      refine zs_pushI (ip' := 19) rfl rfl zi_k1 ?_
      refine zs_goto (t := 21) rfl ?_
      refine zW_0b rfl (Or.inr rfl) ?_
      exact zfin (zb_t ⟨h8, h17⟩).symm
theorem cM_isCell {N : Nat} {G F : GM} {n : Nat} (hN : 241 ≤ N) {x y : Int} (h0 : -9 ≤ G 231 0 ∧ G 231 0 ≤ 99) (h1 : -9 ≤ G 231 1 ∧ G 231 1 ≤ 99) (hx : zr x) (hy : zr y) : zPu N 10 [.ref 230, .int (zi x), .int (zi y)] (zb (sIn (G 231) x y)) G F n := by
  refine zPu_i (L0 := [.ref 230, .int (zi x), .int (zi y)]) rfl ?_
  refine zs_aload (ip' := 1) rfl rfl rfl ?_
  refine zs_getR (ip' := 2) rfl rfl (r := 231) (by omega) zsh_230 rfl ?_
  refine zs_iload (ip' := 3) rfl rfl rfl ?_
  refine zs_iload (ip' := 4) rfl rfl rfl ?_
  refine zW_cP (ip' := 5) rfl rfl (cM_isInside zsh_231 (by omega) h0 h1 hx hy) rfl rfl rfl ?_
  refine zW_0b rfl (zb_01 _) ?_
  exact zfin rfl
theorem cM_isLight {N : Nat} {G F : GM} {n : Nat} (hN : 241 ≤ N) {x : Int} (h0 : -9 ≤ G 231 4 ∧ G 231 4 ≤ 99) (hx : zr x) : zPu N 11 [.ref 230, .int (zi x)] (zb (0 ≤ x ∧ x ≤ G 231 4 - 1)) G F n := by
  refine zPu_i (L0 := [.ref 230, .int (zi x)]) rfl ?_
  refine zs_iload (ip' := 1) rfl rfl rfl ?_
  refine zs_pushI (ip' := 2) rfl rfl zi_k0 ?_
  refine zs_aload (ip' := 3) rfl rfl rfl ?_
  refine zs_getR (ip' := 4) rfl rfl (r := 231) (by omega) zsh_230 rfl ?_
  refine zs_pushI (ip' := 5) rfl rfl zi_k4 ?_
  refine zs_iald (ip' := 6) rfl rfl (by omega) zsh_231 (by omega) ?_
  intro hl5 hu5
  refine zs_pushI (ip' := 7) rfl rfl zi_k1 ?_
  refine zs_isub (ip' := 8) rfl rfl ?_
  refine zW_cP (ip' := 9) rfl rfl (cM_in (by omega) (by omega) (by omega)) rfl rfl rfl ?_
  refine zW_0b rfl (zb_01 _) ?_
  exact zfin rfl
theorem cM_isWalker {N : Nat} {G F : GM} {n : Nat} (hN : 241 ≤ N) {x : Int} (h0 : -9 ≤ G 231 5 ∧ G 231 5 ≤ 99) (hx : zr x) : zPu N 12 [.ref 230, .int (zi x)] (zb (0 ≤ x ∧ x ≤ G 231 5 - 1)) G F n := by
  refine zPu_i (L0 := [.ref 230, .int (zi x)]) rfl ?_
  refine zs_iload (ip' := 1) rfl rfl rfl ?_
  refine zs_pushI (ip' := 2) rfl rfl zi_k0 ?_
  refine zs_aload (ip' := 3) rfl rfl rfl ?_
  refine zs_getR (ip' := 4) rfl rfl (r := 231) (by omega) zsh_230 rfl ?_
  refine zs_pushI (ip' := 5) rfl rfl zi_k5 ?_
  refine zs_iald (ip' := 6) rfl rfl (by omega) zsh_231 (by omega) ?_
  intro hl5 hu5
  refine zs_pushI (ip' := 7) rfl rfl zi_k1 ?_
  refine zs_isub (ip' := 8) rfl rfl ?_
  refine zW_cP (ip' := 9) rfl rfl (cM_in (by omega) (by omega) (by omega)) rfl rfl rfl ?_
  refine zW_0b rfl (zb_01 _) ?_
  exact zfin rfl
theorem cM_columnBy {N : Nat} {G F : GM} {n : Nat} {x : Int} (hx : 0 ≤ x ∧ x < 4) : zPu N 14 [.int (zi x)] (zsx x) G F n := by
  refine zPu_i (L0 := [.int (zi x)]) rfl ?_
  refine zs_iload (ip' := 1) rfl rfl rfl ?_
  refine zs_pushI (ip' := 2) rfl rfl zi_k1 ?_
  refine zs_icmp_ne (t := 5) (ip' := 3) rfl rfl (by omega) (by omega) ?_ ?_
  · intro h2
    refine zs_iload (ip' := 6) rfl rfl rfl ?_
    refine zs_pushI (ip' := 7) rfl rfl zi_k3 ?_
    refine zs_icmp_ne (t := 10) (ip' := 8) rfl rfl (by omega) (by omega) ?_ ?_
    · intro h7
      refine zs_pushI (ip' := 11) rfl rfl zi_k0 ?_
      refine zW_0 rfl ?_
      exact zfin (by unfold zsx; (repeat' split) <;> omega)
    · intro h7
      refine zs_pushI (ip' := 9) rfl rfl zi_km1 ?_
      refine zs_goto (t := 11) rfl ?_
      refine zW_0 rfl ?_
      exact zfin (by unfold zsx; (repeat' split) <;> omega)
  · intro h2
    refine zs_pushI (ip' := 4) rfl rfl zi_k1 ?_
    refine zs_goto (t := 11) rfl ?_
    refine zW_0 rfl ?_
    exact zfin (by unfold zsx; (repeat' split) <;> omega)
theorem cM_rowBy {N : Nat} {G F : GM} {n : Nat} {x : Int} (hx : 0 ≤ x ∧ x < 4) : zPu N 15 [.int (zi x)] (zsy x) G F n := by
  refine zPu_i (L0 := [.int (zi x)]) rfl ?_
  refine zs_iload (ip' := 1) rfl rfl rfl ?_
  refine zs_if_ne (t := 4) (ip' := 2) rfl rfl (by omega) ?_ ?_
  · intro h1
    refine zs_iload (ip' := 5) rfl rfl rfl ?_
    refine zs_pushI (ip' := 6) rfl rfl zi_k2 ?_
    refine zs_icmp_ne (t := 9) (ip' := 7) rfl rfl (by omega) (by omega) ?_ ?_
    · intro h6
      refine zs_pushI (ip' := 10) rfl rfl zi_k0 ?_
      refine zW_0 rfl ?_
      exact zfin (by unfold zsy; (repeat' split) <;> omega)
    · intro h6
      refine zs_pushI (ip' := 8) rfl rfl zi_k1 ?_
      refine zs_goto (t := 10) rfl ?_
      refine zW_0 rfl ?_
      exact zfin (by unfold zsy; (repeat' split) <;> omega)
  · intro h1
    refine zs_pushI (ip' := 3) rfl rfl zi_km1 ?_
    refine zs_goto (t := 10) rfl ?_
    refine zW_0 rfl ?_
    exact zfin (by unfold zsy; (repeat' split) <;> omega)
theorem cM_sightOf {N : Nat} {G F : GM} {n : Nat} {r : Nat} (hr : z_sh r = (1, 256, [])) (hrN : r < N) (hs : mSg (G r)) : zPu N 23 [.ref r] (sSight (G r)) G F n := by
  refine zPu_i (L0 := [.ref r, .null]) rfl ?_
  obtain ⟨⟨a1, a2⟩, ⟨b1, b2⟩, c1, c2⟩ := hs
  refine zs_aload (ip' := 1) rfl rfl rfl ?_
  refine zs_pushI (ip' := 2) rfl rfl zi_k2 ?_
  refine zs_iald (ip' := 3) rfl rfl hrN hr (by omega) ?_
  intro hl2 hu2
  refine zs_aload (ip' := 4) rfl rfl rfl ?_
  refine zs_pushI (ip' := 5) rfl rfl zi_k6 ?_
  refine zs_aload (ip' := 6) rfl rfl rfl ?_
  refine zs_pushI (ip' := 7) rfl rfl zi_k3 ?_
  refine zs_iald (ip' := 8) rfl rfl hrN hr (by omega) ?_
  intro hl7 hu7
  refine zs_pushI (ip' := 9) rfl rfl zi_k24 ?_
  refine zs_irem (ip' := 10) rfl rfl (by omega) (by omega) ?_
  refine zs_iadd (ip' := 11) rfl rfl ?_
  refine zs_iald (ip' := 12) rfl rfl hrN hr (by omega) ?_
  intro hl11 hu11
  refine zs_isub (ip' := 13) rfl rfl ?_
  refine zs_istore1 (ip' := 14) rfl rfl ?_
  refine zs_iload (ip' := 15) rfl rfl rfl ?_
  refine zs_if_ge (t := 18) (ip' := 16) rfl rfl (by omega) ?_ ?_
  · intro h15
    refine zs_iload (ip' := 19) rfl rfl rfl ?_
    refine zW_0 rfl ?_
    exact zfin (by unfold sSight; split <;> omega)
  · intro h15
    refine zs_pushI (ip' := 17) rfl rfl zi_k0 ?_
    refine zs_goto (t := 19) rfl ?_
    refine zW_0 rfl ?_
    exact zfin (by unfold sSight; split <;> omega)
theorem cM_apart {N : Nat} {G F : GM} {n : Nat} {a b : Int} (ha : zr a) (hb : zr b) : zPu N 24 [.int (zi a), .int (zi b)] (zap a b) G F n := by
  refine zPu_i (L0 := [.int (zi a), .int (zi b)]) rfl ?_
  refine zs_iload (ip' := 1) rfl rfl rfl ?_
  refine zs_iload (ip' := 2) rfl rfl rfl ?_
  refine zs_icmp_ge (t := 7) (ip' := 3) rfl rfl (by omega) (by omega) ?_ ?_
  · intro h2
    refine zs_iload (ip' := 8) rfl rfl rfl ?_
    refine zs_iload (ip' := 9) rfl rfl rfl ?_
    refine zs_isub (ip' := 10) rfl rfl ?_
    refine zW_0 rfl ?_
    exact zfin (by unfold zap; split <;> omega)
  · intro h2
    refine zs_iload (ip' := 4) rfl rfl rfl ?_
    refine zs_iload (ip' := 5) rfl rfl rfl ?_
    refine zs_isub (ip' := 6) rfl rfl ?_
    refine zs_goto (t := 10) rfl ?_
    refine zW_0 rfl ?_
    exact zfin (by unfold zap; split <;> omega)
theorem cM_farFrom {N : Nat} {G F : GM} {n : Nat} {r : Nat} (hr : z_sh r = (1, 256, [])) (hrN : r < N) {w x y : Int} (hw : 0 ≤ w ∧ w < 6) (hx : zr x) (hy : zr y) : zPu N 25 [.ref r, .int (zi w), .int (zi x), .int (zi y)] (sFar (G r) w x y) G F n := by
  refine zPu_i (L0 := [.ref r, .int (zi w), .int (zi x), .int (zi y)]) rfl ?_
  refine zs_aload (ip' := 1) rfl rfl rfl ?_
  refine zs_iload (ip' := 2) rfl rfl rfl ?_
  refine zs_pushI (ip' := 3) rfl rfl zi_k0 ?_
  refine zW_cP (ip' := 4) rfl rfl cM_walkerAt rfl rfl rfl ?_
  refine zs_iald (ip' := 5) rfl rfl hrN hr (by omega) ?_
  intro hl4 hu4
  refine zs_iload (ip' := 6) rfl rfl rfl ?_
  refine zW_cP (ip' := 7) rfl rfl (cM_apart (by omega) (by omega)) rfl rfl rfl ?_
  refine zs_aload (ip' := 8) rfl rfl rfl ?_
  refine zs_iload (ip' := 9) rfl rfl rfl ?_
  refine zs_pushI (ip' := 10) rfl rfl zi_k1 ?_
  refine zW_cP (ip' := 11) rfl rfl cM_walkerAt rfl rfl rfl ?_
  refine zs_iald (ip' := 12) rfl rfl hrN hr (by omega) ?_
  intro hl11 hu11
  refine zs_iload (ip' := 13) rfl rfl rfl ?_
  refine zW_cP (ip' := 14) rfl rfl (cM_apart (by omega) (by omega)) rfl rfl rfl ?_
  refine zs_iadd (ip' := 15) rfl rfl ?_
  refine zW_0 rfl ?_
  exact zfin rfl
theorem cM_farFromLight {N : Nat} {G F : GM} {n : Nat} {r : Nat} (hr : z_sh r = (1, 256, [])) (hrN : r < N) {w l : Int} (hw : 0 ≤ w ∧ w < 6) (hl : 0 ≤ l ∧ l < 8) : zPu N 26 [.ref r, .int (zi w), .int (zi l)] (sFarL (G r) w l) G F n := by
  refine zPu_i (L0 := [.ref r, .int (zi w), .int (zi l)]) rfl ?_
  refine zs_aload (ip' := 1) rfl rfl rfl ?_
  refine zs_iload (ip' := 2) rfl rfl rfl ?_
  refine zs_aload (ip' := 3) rfl rfl rfl ?_
  refine zs_iload (ip' := 4) rfl rfl rfl ?_
  refine zs_pushI (ip' := 5) rfl rfl zi_k0 ?_
  refine zW_cP (ip' := 6) rfl rfl cM_lightAt rfl rfl rfl ?_
  refine zs_iald (ip' := 7) rfl rfl hrN hr (by omega) ?_
  intro hl6 hu6
  refine zs_aload (ip' := 8) rfl rfl rfl ?_
  refine zs_iload (ip' := 9) rfl rfl rfl ?_
  refine zs_pushI (ip' := 10) rfl rfl zi_k1 ?_
  refine zW_cP (ip' := 11) rfl rfl cM_lightAt rfl rfl rfl ?_
  refine zs_iald (ip' := 12) rfl rfl hrN hr (by omega) ?_
  intro hl11 hu11
  refine zW_cP (ip' := 13) rfl rfl (cM_farFrom hr hrN hw (by omega) (by omega)) rfl rfl rfl ?_
  refine zW_0 rfl ?_
  exact zfin rfl
theorem cM_isSeen {N : Nat} {G F : GM} {n : Nat} {r : Nat} (hr : z_sh r = (1, 256, [])) (hrN : r < N) {w l : Int} (hw : 0 ≤ w ∧ w < 6) (hl : 0 ≤ l ∧ l < 8) (hs : mSg (G r)) (hk : mWk (G r) w) (hq : mLt (G r) l) : zPu N 27 [.ref r, .int (zi w), .int (zi l)] (zb (sSeen (G r) w l)) G F n := by
  refine zPu_i (L0 := [.ref r, .int (zi w), .int (zi l)]) rfl ?_
  obtain ⟨f1, f2⟩ := sFarL_rng hk hq
  obtain ⟨g1, g2⟩ := sSight_rng hs
  obtain ⟨⟨l2, l2'⟩, -⟩ := hq.2.2
  refine zs_aload (ip' := 1) rfl rfl rfl ?_
  refine zs_iload (ip' := 2) rfl rfl rfl ?_
  refine zs_iload (ip' := 3) rfl rfl rfl ?_
  refine zW_cP (ip' := 4) rfl rfl (cM_farFromLight hr hrN (by omega) (by omega)) rfl rfl rfl ?_
  refine zs_aload (ip' := 5) rfl rfl rfl ?_
  refine zW_cP (ip' := 6) rfl rfl (cM_sightOf hr hrN hs) rfl rfl rfl ?_
  refine zs_aload (ip' := 7) rfl rfl rfl ?_
  refine zs_iload (ip' := 8) rfl rfl rfl ?_
  refine zs_pushI (ip' := 9) rfl rfl zi_k2 ?_
  refine zW_cP (ip' := 10) rfl rfl cM_lightAt rfl rfl rfl ?_
  refine zs_iald (ip' := 11) rfl rfl hrN hr (by omega) ?_
  intro hl10 hu10
  refine zs_iadd (ip' := 12) rfl rfl ?_
  refine zs_icmp_gt (t := 15) (ip' := 13) rfl rfl (by omega) (by omega) ?_ ?_
  · intro h12
    refine zs_pushI (ip' := 16) rfl rfl zi_k0 ?_
    refine zW_0b rfl (Or.inl rfl) ?_
    exact zfin (zb_f (show ¬ sFarL (G r) w l ≤ sSight (G r) + G r (174 + 5 * l + 2) by omega)).symm
  · intro h12
    refine zs_pushI (ip' := 14) rfl rfl zi_k1 ?_
    refine zs_goto (t := 16) rfl ?_
    refine zW_0b rfl (Or.inr rfl) ?_
    exact zfin (zb_t (show sFarL (G r) w l ≤ sSight (G r) + G r (174 + 5 * l + 2) by omega)).symm
theorem cM_has {N : Nat} {G F : GM} {n : Nat} {a l : Int} : zPu N 28 [.int (zi a), .int (zi l)] (zb (zhas a l)) G F n := by
  refine zPu_i (L0 := [.int (zi a), .int (zi l)]) rfl ?_
  obtain ⟨z1, z2⟩ := zr_and (zshr a l) 1
  refine zs_iload (ip' := 1) rfl rfl rfl ?_
  refine zs_iload (ip' := 2) rfl rfl rfl ?_
  refine zs_ishr (ip' := 3) rfl rfl ?_
  refine zs_pushI (ip' := 4) rfl rfl zi_k1 ?_
  refine zs_iand (ip' := 5) rfl rfl ?_
  refine zs_pushI (ip' := 6) rfl rfl zi_k1 ?_
  refine zs_icmp_ne (t := 9) (ip' := 7) rfl rfl (by omega) (by omega) ?_ ?_
  · intro h6
    refine zs_pushI (ip' := 10) rfl rfl zi_k0 ?_
    refine zW_0b rfl (Or.inl rfl) ?_
    exact zfin (zb_f h6).symm
  · intro h6
    refine zs_pushI (ip' := 8) rfl rfl zi_k1 ?_
    refine zs_goto (t := 10) rfl ?_
    refine zW_0b rfl (Or.inr rfl) ?_
    exact zfin (zb_t h6).symm
theorem cM_isAcceptable {N : Nat} {G F : GM} {n : Nat} {r : Nat} (hr : z_sh r = (1, 256, [])) (hrN : r < N) {w l : Int} (hw : 0 ≤ w ∧ w < 6) (hl : 0 ≤ l ∧ l < 8) (hs : mSg (G r)) (hk : mWk (G r) w) (hq : mLt (G r) l) : zPu N 29 [.ref r, .int (zi w), .int (zi l)] (zb (sAcc (G r) w l)) G F n := by
  refine zPu_i (L0 := [.ref r, .int (zi w), .int (zi l)]) rfl ?_
  refine zs_aload (ip' := 1) rfl rfl rfl ?_
  refine zs_iload (ip' := 2) rfl rfl rfl ?_
  refine zs_iload (ip' := 3) rfl rfl rfl ?_
  refine zW_cP (ip' := 4) rfl rfl (cM_isSeen hr hrN hw hl hs hk hq) rfl rfl rfl ?_
  refine zs_if_eqB (t := 23) (ip' := 5) rfl rfl ?_ ?_
  · intro h4
    refine zs_pushI (ip' := 24) rfl rfl zi_k0 ?_
    refine zW_0b rfl (Or.inl rfl) ?_
    exact zfin (zb_f (fun h => h4 h.1)).symm
  · intro h4
    refine zs_aload (ip' := 6) rfl rfl rfl ?_
    refine zs_iload (ip' := 7) rfl rfl rfl ?_
    refine zs_pushI (ip' := 8) rfl rfl zi_k4 ?_
    refine zW_cP (ip' := 9) rfl rfl cM_walkerAt rfl rfl rfl ?_
    refine zs_iald (ip' := 10) rfl rfl hrN hr (by omega) ?_
    intro hl9 hu9
    refine zs_iload (ip' := 11) rfl rfl rfl ?_
    refine zW_cP (ip' := 12) rfl rfl cM_has rfl rfl rfl ?_
    refine zs_if_neB (t := 23) (ip' := 13) rfl rfl ?_ ?_
    · intro h12
      refine zs_pushI (ip' := 24) rfl rfl zi_k0 ?_
      refine zW_0b rfl (Or.inl rfl) ?_
      exact zfin (zb_f (fun h => h.2.1 h12)).symm
    · intro h12
      refine zs_aload (ip' := 14) rfl rfl rfl ?_
      refine zs_iload (ip' := 15) rfl rfl rfl ?_
      refine zs_pushI (ip' := 16) rfl rfl zi_k5 ?_
      refine zW_cP (ip' := 17) rfl rfl cM_walkerAt rfl rfl rfl ?_
      refine zs_iald (ip' := 18) rfl rfl hrN hr (by omega) ?_
      intro hl17 hu17
      refine zs_iload (ip' := 19) rfl rfl rfl ?_
      refine zW_cP (ip' := 20) rfl rfl cM_has rfl rfl rfl ?_
      refine zs_if_neB (t := 23) (ip' := 21) rfl rfl ?_ ?_
      · intro h20
        refine zs_pushI (ip' := 24) rfl rfl zi_k0 ?_
        refine zW_0b rfl (Or.inl rfl) ?_
        exact zfin (zb_f (fun h => h.2.2 h20)).symm
      · intro h20
        refine zs_pushI (ip' := 22) rfl rfl zi_k1 ?_
        refine zs_goto (t := 24) rfl ?_
        refine zW_0b rfl (Or.inr rfl) ?_
        exact zfin (zb_t ⟨h4, h12, h20⟩).symm
theorem cM_near_l {N : Nat} {G F : GM} {n : Nat} {r : Nat} (hr : z_sh r = (1, 256, [])) (hrN : r < N) {w : Int} (hw : 0 ≤ w ∧ w < 6) (hs : mSg (G r)) (hk : mWk (G r) w) (h4 : 0 ≤ G r 4 ∧ G r 4 ≤ 8) (hq : ∀ l, 0 ≤ l → l < G r 4 → mLt (G r) l) : ∀ (d : Nat) (k : Nat), G r 4 - k < (d : Int) → (k : Int) ≤ G r 4 → zW N 30 4 [.ref r, .int (zi w), .int (zi (sNear (G r) w k)), .int (zi (k : Int))] [] G F n (fun o G' F' n' => o = .inl (some (.int (zi (sNear (G r) w (G r 4).toNat)))) ∧ G' = G ∧ F' = F ∧ n' = n) := by
  intro d
  induction d with
  | zero =>
    intro k hd hj
    exact absurd hd (by omega)
  | succ d ih =>
    intro k hd hj
    obtain ⟨n1, n2⟩ := sNear_rng (G r) w k
    refine zs_iload (ip' := 5) rfl rfl rfl ?_
    refine zs_aload (ip' := 6) rfl rfl rfl ?_
    refine zs_pushI (ip' := 7) rfl rfl zi_k4 ?_
    refine zs_iald (ip' := 8) rfl rfl hrN hr (by omega) ?_
    intro hl7 hu7
    refine zs_icmp_ge (t := 30) (ip' := 9) rfl rfl (by omega) (by omega) ?_ ?_
    · intro h8
      refine zs_iload (ip' := 31) rfl rfl rfl ?_
      refine zW_0 rfl ?_
      exact zfin (congrArg (sNear (G r) w) (by omega))
    · intro h8
      refine zs_aload (ip' := 10) rfl rfl rfl ?_
      refine zs_iload (ip' := 11) rfl rfl rfl ?_
      refine zs_iload (ip' := 12) rfl rfl rfl ?_
      refine zW_cP (ip' := 13) rfl rfl (cM_isAcceptable hr hrN hw (by omega) hs hk (hq _ (by omega) (by omega))) rfl rfl rfl ?_
      refine zs_if_neB (t := 15) (ip' := 14) rfl rfl ?_ ?_
      · intro h13
        refine zs_iload (ip' := 16) rfl rfl rfl ?_
        refine zs_if_lt (t := 26) (ip' := 17) rfl rfl (by omega) ?_ ?_
        · intro h16
          refine zs_iload (ip' := 27) rfl rfl rfl ?_
          refine zs_istore2 (ip' := 28) rfl rfl ?_
          refine zs_iinc3 (ip' := 29) rfl rfl zi_k1 ?_
          refine zs_goto (t := 4) rfl ?_
          have e : sNear (G r) w (k + 1) = (k : Int) := if_pos ⟨h13, Or.inl h16⟩
          have := ih (k + 1) (by omega) (by omega)
          rw [e] at this
          exact this
        · intro h16
          obtain ⟨f1, f2⟩ := sFarL_rng hk (hq k (by omega) (by omega))
          obtain ⟨g1, g2⟩ := sFarL_rng hk (hq (sNear (G r) w k) (by omega) (by omega))
          refine zs_aload (ip' := 18) rfl rfl rfl ?_
          refine zs_iload (ip' := 19) rfl rfl rfl ?_
          refine zs_iload (ip' := 20) rfl rfl rfl ?_
          refine zW_cP (ip' := 21) rfl rfl (cM_farFromLight hr hrN (by omega) (by omega)) rfl rfl rfl ?_
          refine zs_aload (ip' := 22) rfl rfl rfl ?_
          refine zs_iload (ip' := 23) rfl rfl rfl ?_
          refine zs_iload (ip' := 24) rfl rfl rfl ?_
          refine zW_cP (ip' := 25) rfl rfl (cM_farFromLight hr hrN (by omega) (by omega)) rfl rfl rfl ?_
          refine zs_icmp_ge (t := 28) (ip' := 26) rfl rfl (by omega) (by omega) ?_ ?_
          · intro h25
            refine zs_iinc3 (ip' := 29) rfl rfl zi_k1 ?_
            refine zs_goto (t := 4) rfl ?_
            have e : sNear (G r) w (k + 1) = sNear (G r) w k := if_neg (fun h => h.2.elim (by omega) (by omega))
            have := ih (k + 1) (by omega) (by omega)
            rw [e] at this
            exact this
          · intro h25
            refine zs_iload (ip' := 27) rfl rfl rfl ?_
            refine zs_istore2 (ip' := 28) rfl rfl ?_
            refine zs_iinc3 (ip' := 29) rfl rfl zi_k1 ?_
            refine zs_goto (t := 4) rfl ?_
            have e : sNear (G r) w (k + 1) = (k : Int) := if_pos ⟨h13, Or.inr h25⟩
            have := ih (k + 1) (by omega) (by omega)
            rw [e] at this
            exact this
      · intro h13
        refine zs_goto (t := 28) rfl ?_
        refine zs_iinc3 (ip' := 29) rfl rfl zi_k1 ?_
        refine zs_goto (t := 4) rfl ?_
        have e : sNear (G r) w (k + 1) = sNear (G r) w k := if_neg (fun h => h13 h.1)
        have := ih (k + 1) (by omega) (by omega)
        rw [e] at this
        exact this
theorem cM_nearestOf {N : Nat} {G F : GM} {n : Nat} {r : Nat} (hr : z_sh r = (1, 256, [])) (hrN : r < N) {w : Int} (hw : 0 ≤ w ∧ w < 6) (hs : mSg (G r)) (hk : mWk (G r) w) (h4 : 0 ≤ G r 4 ∧ G r 4 ≤ 8) (hq : ∀ l, 0 ≤ l → l < G r 4 → mLt (G r) l) : zPu N 30 [.ref r, .int (zi w)] (sNear (G r) w (G r 4).toNat) G F n := by
  refine zPu_i (L0 := [.ref r, .int (zi w), .null, .null]) rfl ?_
  refine zs_pushI (ip' := 1) rfl rfl zi_km1 ?_
  refine zs_istore2 (ip' := 2) rfl rfl ?_
  refine zs_pushI (ip' := 3) rfl rfl zi_k0 ?_
  refine zs_istore3 (ip' := 4) rfl rfl ?_
  exact cM_near_l hr hrN hw hs hk h4 hq 9 0 (by omega) (by omega)
/-- the least below n of which p holds; -1 -/
def zfst (p : Int → Prop) [DecidablePred p] : Nat → Int
  | 0 => -1
  | k + 1 => if 0 ≤ zfst p k then zfst p k else if p k then (k : Int) else -1
theorem zfst_no {p : Int → Prop} [DecidablePred p] : ∀ k : Nat, (∀ j : Int, 0 ≤ j → j < k → ¬ p j) → zfst p k = -1 := by
  intro k
  induction k with
  | zero => intro _; rfl
  | succ k ih =>
    intro h
    unfold zfst
    rw [ih (fun j h0 h1 => h j h0 (by omega)), if_neg (by decide), if_neg (h k (by omega) (by omega))]
theorem zfst_at {p : Int → Prop} [DecidablePred p] {j : Nat} (hj : p j) (hn : ∀ i : Int, 0 ≤ i → i < j → ¬ p i) : ∀ k : Nat, j < k → zfst p k = j := by
  intro k
  induction k with
  | zero => intro h; omega
  | succ k ih =>
    intro h
    unfold zfst
    by_cases h1 : j < k
    · rw [ih h1, if_pos (by omega)]
    · have : j = k := by omega
      subst this
      rw [zfst_no j (fun i h0 h2 => hn i h0 h2), if_neg (by decide), if_pos hj]
theorem zfst_rng (p : Int → Prop) [DecidablePred p] (k : Nat) : -1 ≤ zfst p k ∧ zfst p k < k := by
  induction k with
  | zero => exact ⟨Int.le_refl (-1), by show (-1 : Int) < ((0 : Nat) : Int); decide⟩
  | succ k ih =>
    unfold zfst
    (repeat' split) <;> omega
theorem zfst_p {p : Int → Prop} [DecidablePred p] (k : Nat) (h : 0 ≤ zfst p k) : p (zfst p k) := by
  induction k with
  | zero => exact absurd h (show ¬ (0 : Int) ≤ -1 by decide)
  | succ k ih =>
    unfold zfst at h ⊢
    split
    · rename_i h1
      exact ih h1
    · split
      · assumption
      · rename_i h1 h2
        rw [if_neg h1, if_neg h2] at h
        exact absurd h (by decide)
theorem zfst_congr {p q : Int → Prop} [DecidablePred p] [DecidablePred q] : ∀ k : Nat, (∀ j : Int, 0 ≤ j → j < k → (p j ↔ q j)) → zfst p k = zfst q k := by
  intro k
  induction k with
  | zero => intro _; rfl
  | succ k ih =>
    intro h
    unfold zfst
    rw [ih (fun j h0 h1 => h j h0 (by omega))]
    by_cases h1 : 0 ≤ zfst q k
    · rw [if_pos h1, if_pos h1]
    · rw [if_neg h1, if_neg h1]
      by_cases h2 : q k
      · rw [if_pos h2, if_pos ((h k (by omega) (by omega)).mpr h2)]
      · rw [if_neg h2, if_neg (fun h3 => h2 ((h k (by omega) (by omega)).mp h3))]
/-- how many below n, and the sum -/
def zcnt (p : Int → Prop) [DecidablePred p] : Nat → Int
  | 0 => 0
  | k + 1 => zcnt p k + (if p k then 1 else 0)
theorem zcnt_rng (p : Int → Prop) [DecidablePred p] (k : Nat) : 0 ≤ zcnt p k ∧ zcnt p k ≤ k := by
  induction k with
  | zero => exact ⟨Int.le_refl 0, Int.le_refl 0⟩
  | succ k ih =>
    unfold zcnt
    split <;> omega
theorem zcnt_congr {p q : Int → Prop} [DecidablePred p] [DecidablePred q] : ∀ k : Nat, (∀ j : Int, 0 ≤ j → j < k → (p j ↔ q j)) → zcnt p k = zcnt q k := by
  intro k
  induction k with
  | zero => intro _; rfl
  | succ k ih =>
    intro h
    unfold zcnt
    rw [ih (fun j h0 h1 => h j h0 (by omega))]
    by_cases h2 : q k
    · rw [if_pos h2, if_pos ((h k (by omega) (by omega)).mpr h2)]
    · rw [if_neg h2, if_neg (fun h3 => h2 ((h k (by omega) (by omega)).mp h3))]
def zsum (f : Int → Int) : Nat → Int
  | 0 => 0
  | k + 1 => zsum f k + f k
theorem zsum_congr {f g : Int → Int} : ∀ k : Nat, (∀ j : Int, 0 ≤ j → j < k → f j = g j) → zsum f k = zsum g k := by
  intro k
  induction k with
  | zero => intro _; rfl
  | succ k ih =>
    intro h
    unfold zsum
    rw [ih (fun j h0 h1 => h j h0 (by omega)), h k (by omega) (by omega)]
theorem zsum_rng {f : Int → Int} {c : Int} : ∀ k : Nat, (∀ j : Int, 0 ≤ j → j < k → 0 ≤ f j ∧ f j ≤ c) → 0 ≤ zsum f k ∧ zsum f k ≤ c * k := by
  intro k
  induction k with
  | zero => intro _; exact ⟨Int.le_refl _, by simp [zsum]⟩
  | succ k ih =>
    intro h
    have h1 := ih (fun j h0 h1 => h j h0 (by omega))
    have h2 := h k (by omega) (by omega)
    have h3 : c * ((k + 1 : Nat) : Int) = c * k + c := by
      rw [show ((k + 1 : Nat) : Int) = (k : Int) + 1 from rfl, Int.mul_add, Int.mul_one]
    unfold zsum
    rw [h3]
    omega
abbrev sAt (s : Int → Int) (x y l : Int) : Prop := s (174 + 5 * l + 0) = x ∧ s (174 + 5 * l + 1) = y
/-- the light on a cell -/
def sLOn (s : Int → Int) (x y : Int) : Int := zfst (sAt s x y) (s 4).toNat
def sCount (s : Int → Int) (q : Int) : Int := zcnt (fun w => s (214 + 7 * w + 2) = q) (s 5).toNat
theorem cM_lightOn_l {N : Nat} {G F : GM} {n : Nat} {r : Nat} (hr : z_sh r = (1, 256, [])) (hrN : r < N) {x y : Int} (hx : zr x) (hy : zr y) (h4 : 0 ≤ G r 4 ∧ G r 4 ≤ 8) : ∀ (d : Nat) (k : Nat), G r 4 - k < (d : Int) → (k : Int) ≤ G r 4 → (∀ i : Int, 0 ≤ i → i < k → ¬ sAt (G r) x y i) → zW N 31 2 [.ref r, .int (zi x), .int (zi y), .int (zi (k : Int))] [] G F n (fun o G' F' n' => o = .inl (some (.int (zi (sLOn (G r) x y)))) ∧ G' = G ∧ F' = F ∧ n' = n) := by
  intro d
  induction d with
  | zero =>
    intro k hd hj hn
    exact absurd hd (by omega)
  | succ d ih =>
    intro k hd hj hn
    refine zs_iload (ip' := 3) rfl rfl rfl ?_
    refine zs_aload (ip' := 4) rfl rfl rfl ?_
    refine zs_pushI (ip' := 5) rfl rfl zi_k4 ?_
    refine zs_iald (ip' := 6) rfl rfl hrN hr (by omega) ?_
    intro hl5 hu5
    refine zs_icmp_ge (t := 25) (ip' := 7) rfl rfl (by omega) (by omega) ?_ ?_
    · intro h6
      refine zs_pushI (ip' := 26) rfl rfl zi_km1 ?_
      refine zW_0 rfl ?_
      exact zfin (zfst_no _ (fun i h0 h1 => hn i h0 (by omega))).symm
    · intro h6
      refine zs_aload (ip' := 8) rfl rfl rfl ?_
      refine zs_iload (ip' := 9) rfl rfl rfl ?_
      refine zs_pushI (ip' := 10) rfl rfl zi_k0 ?_
      refine zW_cP (ip' := 11) rfl rfl cM_lightAt rfl rfl rfl ?_
      refine zs_iald (ip' := 12) rfl rfl hrN hr (by omega) ?_
      intro hl11 hu11
      refine zs_iload (ip' := 13) rfl rfl rfl ?_
      refine zs_icmp_ne (t := 23) (ip' := 14) rfl rfl (by omega) (by omega) ?_ ?_
      · intro h13
        refine zs_iinc3 (ip' := 24) rfl rfl zi_k1 ?_
        refine zs_goto (t := 2) rfl ?_
        exact ih (k + 1) (by omega) (by omega) (fun i h0 h1 => if e : i < k then hn i h0 e else fun hh => h13 (by rw [show (k : Int) = i by omega]; exact hh.1))
      · intro h13
        refine zs_aload (ip' := 15) rfl rfl rfl ?_
        refine zs_iload (ip' := 16) rfl rfl rfl ?_
        refine zs_pushI (ip' := 17) rfl rfl zi_k1 ?_
        refine zW_cP (ip' := 18) rfl rfl cM_lightAt rfl rfl rfl ?_
        refine zs_iald (ip' := 19) rfl rfl hrN hr (by omega) ?_
        intro hl18 hu18
        refine zs_iload (ip' := 20) rfl rfl rfl ?_
        refine zs_icmp_ne (t := 23) (ip' := 21) rfl rfl (by omega) (by omega) ?_ ?_
        · intro h20
          refine zs_iinc3 (ip' := 24) rfl rfl zi_k1 ?_
          refine zs_goto (t := 2) rfl ?_
          exact ih (k + 1) (by omega) (by omega) (fun i h0 h1 => if e : i < k then hn i h0 e else fun hh => h20 (by rw [show (k : Int) = i by omega]; exact hh.2))
        · intro h20
          refine zs_iload (ip' := 22) rfl rfl rfl ?_
          refine zW_0 rfl ?_
          exact zfin (zfst_at (p := sAt (G r) x y) (j := k) ⟨h13, h20⟩ hn _ (by omega)).symm
theorem cM_lightOn {N : Nat} {G F : GM} {n : Nat} {r : Nat} (hr : z_sh r = (1, 256, [])) (hrN : r < N) {x y : Int} (hx : zr x) (hy : zr y) (h4 : 0 ≤ G r 4 ∧ G r 4 ≤ 8) : zPu N 31 [.ref r, .int (zi x), .int (zi y)] (sLOn (G r) x y) G F n := by
  refine zPu_i (L0 := [.ref r, .int (zi x), .int (zi y), .null]) rfl ?_
  refine zs_pushI (ip' := 1) rfl rfl zi_k0 ?_
  refine zs_istore3 (ip' := 2) rfl rfl ?_
  exact cM_lightOn_l hr hrN hx hy h4 9 0 (by omega) (by omega) (fun i h0 h1 => absurd h1 (by omega))
theorem cM_countOf_l {N : Nat} {G F : GM} {n : Nat} {r : Nat} (hr : z_sh r = (1, 256, [])) (hrN : r < N) {q : Int} (hq : zr q) (h5 : 0 ≤ G r 5 ∧ G r 5 ≤ 6) : ∀ (d : Nat) (k : Nat), G r 5 - k < (d : Int) → (k : Int) ≤ G r 5 → zW N 43 4 [.ref r, .int (zi q), .int (zi (zcnt (fun w => G r (214 + 7 * w + 2) = q) k)), .int (zi (k : Int))] [] G F n (fun o G' F' n' => o = .inl (some (.int (zi (sCount (G r) q)))) ∧ G' = G ∧ F' = F ∧ n' = n) := by
  intro d
  induction d with
  | zero =>
    intro k hd hj
    exact absurd hd (by omega)
  | succ d ih =>
    intro k hd hj
    refine zs_iload (ip' := 5) rfl rfl rfl ?_
    refine zs_aload (ip' := 6) rfl rfl rfl ?_
    refine zs_pushI (ip' := 7) rfl rfl zi_k5 ?_
    refine zs_iald (ip' := 8) rfl rfl hrN hr (by omega) ?_
    intro hl7 hu7
    refine zs_icmp_ge (t := 19) (ip' := 9) rfl rfl (by omega) (by omega) ?_ ?_
    · intro h8
      refine zs_iload (ip' := 20) rfl rfl rfl ?_
      refine zW_0 rfl ?_
      exact zfin (congrArg (zcnt (fun w => G r (214 + 7 * w + 2) = q)) (by omega))
    · intro h8
      refine zs_aload (ip' := 10) rfl rfl rfl ?_
      refine zs_iload (ip' := 11) rfl rfl rfl ?_
      refine zs_pushI (ip' := 12) rfl rfl zi_k2 ?_
      refine zW_cP (ip' := 13) rfl rfl cM_walkerAt rfl rfl rfl ?_
      refine zs_iald (ip' := 14) rfl rfl hrN hr (by omega) ?_
      intro hl13 hu13
      refine zs_iload (ip' := 15) rfl rfl rfl ?_
      refine zs_icmp_ne (t := 17) (ip' := 16) rfl rfl (by omega) (by omega) ?_ ?_
      · intro h15
        refine zs_iinc3 (ip' := 18) rfl rfl zi_k1 ?_
        refine zs_goto (t := 4) rfl ?_
        have e : zcnt (fun w => G r (214 + 7 * w + 2) = q) (k + 1) = zcnt (fun w => G r (214 + 7 * w + 2) = q) k := by
          show _ + (if G r (214 + 7 * (k : Int) + 2) = q then 1 else 0) = _
          rw [if_neg h15, Int.add_zero]
        have := ih (k + 1) (by omega) (by omega)
        rw [e] at this
        exact this
      · intro h15
        refine zs_iinc2 (ip' := 17) rfl rfl zi_k1 ?_
        refine zs_iinc3 (ip' := 18) rfl rfl zi_k1 ?_
        refine zs_goto (t := 4) rfl ?_
        have e : zcnt (fun w => G r (214 + 7 * w + 2) = q) (k + 1) = zcnt (fun w => G r (214 + 7 * w + 2) = q) k + 1 := by
          show _ + (if G r (214 + 7 * (k : Int) + 2) = q then 1 else 0) = _
          rw [if_pos h15]
        have := ih (k + 1) (by omega) (by omega)
        rw [e] at this
        exact this
theorem cM_countOf {N : Nat} {G F : GM} {n : Nat} {r : Nat} (hr : z_sh r = (1, 256, [])) (hrN : r < N) {q : Int} (hq : zr q) (h5 : 0 ≤ G r 5 ∧ G r 5 ≤ 6) : zPu N 43 [.ref r, .int (zi q)] (sCount (G r) q) G F n := by
  refine zPu_i (L0 := [.ref r, .int (zi q), .null, .null]) rfl ?_
  refine zs_pushI (ip' := 1) rfl rfl zi_k0 ?_
  refine zs_istore2 (ip' := 2) rfl rfl ?_
  refine zs_pushI (ip' := 3) rfl rfl zi_k0 ?_
  refine zs_istore3 (ip' := 4) rfl rfl ?_
  exact cM_countOf_l hr hrN hq h5 7 0 (by omega) (by omega)
theorem cM_isOn {N : Nat} {G F : GM} {n : Nat} {r : Nat} (hr : z_sh r = (1, 256, [])) (hrN : r < N) {w l : Int} (hw : 0 ≤ w ∧ w < 6) (hl : 0 ≤ l ∧ l < 8) : zPu N 36 [.ref r, .int (zi w), .int (zi l)] (zb (sOn (G r) w l)) G F n := by
  refine zPu_i (L0 := [.ref r, .int (zi w), .int (zi l)]) rfl ?_
  refine zs_aload (ip' := 1) rfl rfl rfl ?_
  refine zs_iload (ip' := 2) rfl rfl rfl ?_
  refine zs_pushI (ip' := 3) rfl rfl zi_k0 ?_
  refine zW_cP (ip' := 4) rfl rfl cM_walkerAt rfl rfl rfl ?_
  refine zs_iald (ip' := 5) rfl rfl hrN hr (by omega) ?_
  intro hl4 hu4
  refine zs_aload (ip' := 6) rfl rfl rfl ?_
  refine zs_iload (ip' := 7) rfl rfl rfl ?_
  refine zs_pushI (ip' := 8) rfl rfl zi_k0 ?_
  refine zW_cP (ip' := 9) rfl rfl cM_lightAt rfl rfl rfl ?_
  refine zs_iald (ip' := 10) rfl rfl hrN hr (by omega) ?_
  intro hl9 hu9
  refine zs_icmp_ne (t := 24) (ip' := 11) rfl rfl (by omega) (by omega) ?_ ?_
  · intro h10
    refine zs_pushI (ip' := 25) rfl rfl zi_k0 ?_
    refine zW_0b rfl (Or.inl rfl) ?_
    exact zfin (zb_f (fun h => h10 h.1)).symm
  · intro h10
    refine zs_aload (ip' := 12) rfl rfl rfl ?_
    refine zs_iload (ip' := 13) rfl rfl rfl ?_
    refine zs_pushI (ip' := 14) rfl rfl zi_k1 ?_
    refine zW_cP (ip' := 15) rfl rfl cM_walkerAt rfl rfl rfl ?_
    refine zs_iald (ip' := 16) rfl rfl hrN hr (by omega) ?_
    intro hl15 hu15
    refine zs_aload (ip' := 17) rfl rfl rfl ?_
    refine zs_iload (ip' := 18) rfl rfl rfl ?_
    refine zs_pushI (ip' := 19) rfl rfl zi_k1 ?_
    refine zW_cP (ip' := 20) rfl rfl cM_lightAt rfl rfl rfl ?_
    refine zs_iald (ip' := 21) rfl rfl hrN hr (by omega) ?_
    intro hl20 hu20
    refine zs_icmp_ne (t := 24) (ip' := 22) rfl rfl (by omega) (by omega) ?_ ?_
    · intro h21
      refine zs_pushI (ip' := 25) rfl rfl zi_k0 ?_
      refine zW_0b rfl (Or.inl rfl) ?_
      exact zfin (zb_f (fun h => h21 h.2)).symm
    · intro h21
      refine zs_pushI (ip' := 23) rfl rfl zi_k1 ?_
      refine zs_goto (t := 25) rfl ?_
      refine zW_0b rfl (Or.inr rfl) ?_
      exact zfin (zb_t ⟨h10, h21⟩).symm
theorem cM_forgetsTarget {N : Nat} {G F : GM} {n : Nat} {r : Nat} (hr : z_sh r = (1, 256, [])) (hrN : r < N) {w : Int} (hw : 0 ≤ w ∧ w < 6) : zC N 33 [.ref r, .int (zi w)] G F n (zV fun G' F' n' => G' = zk G r (zp (G r) (214 + 7 * w + 3) (-1)) ∧ F' = F ∧ n' = n) := by
  refine zC_i (L0 := [.ref r, .int (zi w)]) rfl ?_
  refine zs_aload (ip' := 1) rfl rfl rfl ?_
  refine zs_iload (ip' := 2) rfl rfl rfl ?_
  refine zs_pushI (ip' := 3) rfl rfl zi_k3 ?_
  refine zW_cP (ip' := 4) rfl rfl cM_walkerAt rfl rfl rfl ?_
  refine zs_pushI (ip' := 5) rfl rfl zi_km1 ?_
  refine zs_iast (ip' := 6) rfl rfl hrN hr (by omega) (by omega) ?_
  refine zW_1 rfl ?_
  exact ⟨rfl, rfl, rfl, rfl⟩
theorem cM_passes {N : Nat} {G F : GM} {n : Nat} {r : Nat} (hr : z_sh r = (1, 256, [])) (hrN : r < N) {w l : Int} (hw : 0 ≤ w ∧ w < 6) : zC N 34 [.ref r, .int (zi w), .int (zi l)] G F n (zV fun G' F' n' => G' = zk G r (zp (G r) (214 + 7 * w + 4) (zadd (G r (214 + 7 * w + 4)) l)) ∧ F' = F ∧ n' = n) := by
  refine zC_i (L0 := [.ref r, .int (zi w), .int (zi l)]) rfl ?_
  refine zs_aload (ip' := 1) rfl rfl rfl ?_
  refine zs_iload (ip' := 2) rfl rfl rfl ?_
  refine zs_pushI (ip' := 3) rfl rfl zi_k4 ?_
  refine zW_cP (ip' := 4) rfl rfl cM_walkerAt rfl rfl rfl ?_
  refine zs_dup2 (ip' := 5) rfl rfl ?_
  refine zs_iald (ip' := 6) rfl rfl hrN hr (by omega) ?_
  intro hl5 hu5
  refine zs_pushI (ip' := 7) rfl rfl zi_k1 ?_
  refine zs_iload (ip' := 8) rfl rfl rfl ?_
  refine zs_ishl (ip' := 9) rfl rfl ?_
  refine zs_ior (ip' := 10) rfl rfl ?_
  refine zs_iast (ip' := 11) rfl rfl hrN hr (by omega) (zr_or _ _) ?_
  refine zW_1 rfl ?_
  exact ⟨rfl, rfl, rfl, rfl⟩
def sLeave (s : Int → Int) (x y : Int) : Int → Int := if s (30 + 12 * y + x) < 10 then s else zp s (30 + 12 * y + x) (if s (30 + 12 * y + x) = 11 then 1 else s (30 + 12 * y + x) - 1)
theorem cM_leaves {N : Nat} {G F : GM} {n : Nat} {r : Nat} (hr : z_sh r = (1, 256, [])) (hrN : r < N) {x y : Int} (hx : 0 ≤ x ∧ x < 12) (hy : 0 ≤ y ∧ y < 12) : zC N 35 [.ref r, .int (zi x), .int (zi y)] G F n (zV fun G' F' n' => G' = zk G r (sLeave (G r) x y) ∧ F' = F ∧ n' = n) := by
  refine zC_i (L0 := [.ref r, .int (zi x), .int (zi y), .null]) rfl ?_
  refine zs_aload (ip' := 1) rfl rfl rfl ?_
  refine zs_iload (ip' := 2) rfl rfl rfl ?_
  refine zs_iload (ip' := 3) rfl rfl rfl ?_
  refine zW_cP (ip' := 4) rfl rfl cM_cellAt rfl rfl rfl ?_
  refine zs_iald (ip' := 5) rfl rfl hrN hr (by omega) ?_
  intro hl4 hu4
  refine zs_istore3 (ip' := 6) rfl rfl ?_
  refine zs_iload (ip' := 7) rfl rfl rfl ?_
  refine zs_pushI (ip' := 8) rfl rfl zi_k10 ?_
  refine zs_icmp_ge (t := 10) (ip' := 9) rfl rfl (by omega) (by omega) ?_ ?_
  · intro h8
    refine zs_aload (ip' := 11) rfl rfl rfl ?_
    refine zs_iload (ip' := 12) rfl rfl rfl ?_
    refine zs_iload (ip' := 13) rfl rfl rfl ?_
    refine zW_cP (ip' := 14) rfl rfl cM_cellAt rfl rfl rfl ?_
    refine zs_iload (ip' := 15) rfl rfl rfl ?_
    refine zs_pushI (ip' := 16) rfl rfl zi_k11 ?_
    refine zs_icmp_ne (t := 19) (ip' := 17) rfl rfl (by omega) (by omega) ?_ ?_
    · intro h16
      refine zs_iload (ip' := 20) rfl rfl rfl ?_
      refine zs_pushI (ip' := 21) rfl rfl zi_k1 ?_
      refine zs_isub (ip' := 22) rfl rfl ?_
      refine zs_iast (ip' := 23) rfl rfl hrN hr (by omega) (by omega) ?_
      refine zW_1 rfl ?_
      exact ⟨rfl, by unfold sLeave; rw [if_neg (by omega), if_neg h16], rfl, rfl⟩
    · intro h16
      refine zs_pushI (ip' := 18) rfl rfl zi_k1 ?_
      refine zs_goto (t := 22) rfl ?_
      refine zs_iast (ip' := 23) rfl rfl hrN hr (by omega) (by omega) ?_
      refine zW_1 rfl ?_
      exact ⟨rfl, by unfold sLeave; rw [if_neg (by omega), if_pos h16], rfl, rfl⟩
  · intro h8
    refine zW_1 rfl ?_
    exact ⟨rfl, by unfold sLeave; rw [if_pos h8, zk_self], rfl, rfl⟩
