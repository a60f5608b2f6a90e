/-! The reference model: the rest but reading and printing (printed by wip/whole/src24.py). -/
/-! rows outside their 256 places stay -/
def sOu (s t : Int → Int) : Prop := ∀ j, j < 0 ∨ 256 ≤ j → t j = s j
section OU
variable {s : Int → Int} {w l x y : Int}
theorem sOu_r : sOu s s := fun _ _ => rfl
theorem sOu_t {t u : Int → Int} (h : sOu s t) (h' : sOu t u) : sOu s u := fun j hj => (h' j hj).trans (h j hj)
theorem sOu_p {i v : Int} (h : 0 ≤ i ∧ i < 256) : sOu s (zp s i v) := fun j hj => zp_ne (by omega)
theorem sLeave_ou (hx : 0 ≤ x ∧ x < 12) (hy : 0 ≤ y ∧ y < 12) : sOu s (sLeave s x y) := by
  unfold sLeave
  split
  · exact sOu_r
  · exact sOu_p (by omega)
theorem sSinkR_ou (hw : 0 ≤ w ∧ w < 6) : ∀ k : Nat, (k : Int) ≤ 6 → sOu s (sSinkR s w l k) := by
  intro k
  induction k with
  | zero =>
    intro _
    exact sOu_t (sOu_p (by omega)) (sOu_p (by omega))
  | succ k ih =>
    intro hk
    have := ih (by omega)
    unfold sSinkR
    split
    · exact this
    · split
      · exact sOu_t this (sOu_t (sOu_p (by omega)) (sOu_p (by omega)))
      · exact sOu_t this (sOu_p (by omega))
theorem sSettle_ou (h : mOk s) (hw : 0 ≤ w ∧ w < s 5) : sOu s (sSettle s w l) := by
  have h5 := h.2.2.2.2.2.1
  unfold sSettle
  split
  · exact sOu_t (sOu_p (by omega)) (sOu_p (by omega))
  · split
    · split
      · exact sSinkR_ou (by omega) _ (by omega)
      · exact sOu_t (sOu_p (by omega)) (sOu_p (by omega))
    · exact sOu_r
theorem sMoved_ou (h : mOk s) (hw : 0 ≤ w ∧ w < s 5) : sOu s (sMoved s w l) := by
  have h5 := h.2.2.2.2.2.1
  have hb := mOk_hb h
  obtain ⟨⟨x0, x1⟩, ⟨y0, y1⟩, -⟩ := h.2.2.2.2.2.2.2.2.2 w hw.1 hw.2
  exact sOu_t (sOu_t (sOu_p (by omega)) (sOu_t (sOu_p (by omega)) (sOu_p (by omega)))) (sLeave_ou ⟨x0, by omega⟩ ⟨y0, by omega⟩)
theorem sAct_ou (h : mOk s) (hw : 0 ≤ w ∧ w < s 5) (h6 : s (214 + 7 * w + 6) < s 3) : sOu s (sAct s w) := by
  have h5 := h.2.2.2.2.2.1
  obtain ⟨k1, z1⟩ := sAim_ok h hw.1 hw.2
  obtain ⟨a1, a2⟩ := sAim_lt h hw.1 hw.2
  have o1 : sOu s (sAim s w) := by
    unfold sAim
    split
    · exact sOu_p (by omega)
    · exact sOu_r
  have hw1 : 0 ≤ w ∧ w < sAim s w 5 := ⟨hw.1, by rw [z1.2.2.2.2.2.1]; exact hw.2⟩
  have h61 : sAim s w (214 + 7 * w + 6) < sAim s w 3 := by rw [a2, z1.2.2.2.1]; exact h6
  have a3 : sAim s w (214 + 7 * w + 3) < sAim s w 4 := by rw [z1.2.2.2.2.1]; exact a1
  unfold sAct sAct1
  generalize sAim s w (214 + 7 * w + 3) = l at a3 ⊢
  generalize sAim s w = s1 at k1 o1 hw1 h61 a3 ⊢
  refine sOu_t o1 ?_
  split
  · exact sOu_r
  · rename_i hl0
    split
    · exact sSettle_ou k1 hw1
    · rename_i hon
      split
      · rename_i hf
        have hl' : 0 ≤ l ∧ l < s1 4 := ⟨by omega, a3⟩
        obtain ⟨k2, z2⟩ := sMoved_ok k1 hw1.1 hw1.2 hl' (zst_l k1 hl') hon hf h61
        exact sOu_t (sMoved_ou k1 hw1) (sSettle_ou k2 ⟨hw1.1, by rw [z2.2.2.2.2.2.1]; exact hw1.2⟩)
      · have := k1.2.2.2.2.2.1
        exact sOu_t (sOu_p (by omega)) (sOu_p (by omega))
theorem sTickR_ou (h : mOk s) (ht : s 3 < 30000) : ∀ k : Nat, (k : Int) ≤ s 5 → sOu s (sTickR s k) := by
  intro k
  induction k with
  | zero =>
    intro _
    exact sOu_p (by omega)
  | succ k ih =>
    intro hk
    have o := ih (by omega)
    obtain ⟨k1, z1, g1⟩ := sTickR_ok h ht k (by omega)
    have h5 := h.2.2.2.2.2.1
    unfold sTickR
    split
    · have hw := (h.2.2.2.2.2.2.2.2.2 k (by omega) (by omega)).2.2.2.2
      refine sOu_t o (sAct_ou k1 ⟨by omega, by rw [z1.2.2.2.2.2.1, zp_ne (by omega)]; omega⟩ ?_)
      rw [g1 k (by omega) (by omega), z1.2.2.2.1, zp_eq]
      omega
    · exact o
theorem sTicks_ou (h : mOk s) : ∀ k : Nat, s 3 + k ≤ 30000 → sOu s (sTicks s k) := by
  intro k
  induction k with
  | zero => intro _; exact sOu_r
  | succ k ih =>
    intro hk
    obtain ⟨k1, z1⟩ := sTicks_ok h k (by omega)
    have h5 := k1.2.2.2.2.2.1
    have e3 : sTicks s k 3 = s 3 + k := by rw [z1.2.2.2.1, zp_eq]
    exact sOu_t (ih (by omega)) (sTickR_ou k1 (by omega) _ (by omega))
end OU
/-- the best clearness among the first k, and how many arrive with it -/
noncomputable def sBest (t : Int → Int) : Nat → Int × Int
  | 0 => (0, -1)
  | k + 1 => if sCount (sTicks (zp t 2 k) 300) 1 ≤ (sBest t k).2 then sBest t k else ((k : Int), sCount (sTicks (zp t 2 k) 300) 1)
theorem mOk_cl {s : Int → Int} {v : Int} (h : mOk s) (hv : 0 ≤ v ∧ v ≤ 20) : mOk (zp s 2 v) := by
  obtain ⟨a0, a1, a2, a3, a4, a5, hfog, hc, hl, hw⟩ := h
  have e : ∀ i, i ≠ 2 → zp s 2 v i = s i := fun i hi => zp_ne hi
  unfold mOk
  rw [e 0 (by omega), e 1 (by omega), zp_eq, e 3 (by omega), e 4 (by omega), e 5 (by omega)]
  refine ⟨a0, a1, hv, a3, a4, a5, ?_, ?_, ?_, ?_⟩
  · intro h h0 h1
    rw [e (6 + h) (by omega)]
    exact hfog h h0 h1
  · intro c c0 c1
    rw [e (30 + c) (by omega)]
    exact hc c c0 c1
  · intro l l0 l1
    have := hl l l0 l1
    unfold mLi at this ⊢
    rw [e (174 + 5 * l + 0) (by omega), e (174 + 5 * l + 1) (by omega), e (174 + 5 * l + 2) (by omega), e (174 + 5 * l + 3) (by omega), e (174 + 5 * l + 4) (by omega), e 0 (by omega), e 1 (by omega), e 4 (by omega)]
    exact this
  · intro w w0 w1
    have := hw w w0 w1
    unfold mWi at this ⊢
    rw [e (214 + 7 * w + 0) (by omega), e (214 + 7 * w + 1) (by omega), e (214 + 7 * w + 2) (by omega), e (214 + 7 * w + 3) (by omega), e (214 + 7 * w + 6) (by omega), e 0 (by omega), e 1 (by omega), e 3 (by omega), e 4 (by omega)]
    exact this
theorem sCount_rng (s : Int → Int) (q : Int) (h : 0 ≤ s 5 ∧ s 5 ≤ 6) : 0 ≤ sCount s q ∧ sCount s q ≤ 6 := by
  have := zcnt_rng (fun w => s (214 + 7 * w + 2) = q) (s 5).toNat
  unfold sCount
  omega
theorem sBest_rng (t : Int → Int) : ∀ k : Nat, (k : Int) ≤ 21 → (∀ i : Nat, (i : Int) ≤ 20 → 0 ≤ sTicks (zp t 2 i) 300 5 ∧ sTicks (zp t 2 i) 300 5 ≤ 6) → (0 ≤ (sBest t k).1 ∧ (sBest t k).1 ≤ 20) ∧ -1 ≤ (sBest t k).2 ∧ (sBest t k).2 ≤ 6 := by
  intro k
  induction k with
  | zero => intro _ _; exact ⟨⟨Int.le_refl 0, (show (0 : Int) ≤ 20 by decide)⟩, Int.le_refl (-1), (show (-1 : Int) ≤ 6 by decide)⟩
  | succ k ih =>
    intro hk h
    have i1 := ih (by omega) h
    have := sCount_rng (sTicks (zp t 2 k) 300) 1 (h k (by omega))
    unfold sBest
    split
    · exact i1
    · dsimp only
      generalize sCount (sTicks (zp t 2 k) 300) 1 = c at this ⊢
      omega
/-- the sign of a cell -/
def sWOn (s : Int → Int) (x y : Int) : Int := zfst (fun w => s (214 + 7 * w + 2) = 0 ∧ sFar s w x y = 0) (s 5).toNat
def sSign (s : Int → Int) (x y : Int) : Int := if 0 ≤ sWOn s x y then 48 + sWOn s x y else if 0 ≤ sLOn s x y then 42 else if s (30 + 12 * y + x) = 0 then 102 else if s (30 + 12 * y + x) = 1 then 119 else if s (30 + 12 * y + x) = 2 then 104 else 112
/-- the signs of a row, of the rows, behind what was printed -/
def sPrI (s : Int → Int) (y : Int) (b : (Int → Int) × Int) : Nat → (Int → Int) × Int
  | 0 => b
  | k + 1 => (zp (sPrI s y b k).1 (sPrI s y b k).2 (sSign s k y), (sPrI s y b k).2 + 1)
def sPrO (s : Int → Int) (b : (Int → Int) × Int) : Nat → (Int → Int) × Int
  | 0 => b
  | k + 1 => (zp (sPrI s k (sPrO s b k) (s 0).toNat).1 (sPrI s k (sPrO s b k) (s 0).toNat).2 10, (sPrI s k (sPrO s b k) (s 0).toNat).2 + 1)
theorem sPrI_len (s : Int → Int) (y : Int) (b : (Int → Int) × Int) (k : Nat) : (sPrI s y b k).2 = b.2 + k := by
  induction k with
  | zero => show b.2 = b.2 + ((0 : Nat) : Int); omega
  | succ k ih => show (sPrI s y b k).2 + 1 = _; omega
theorem sPrO_len (s : Int → Int) (b : (Int → Int) × Int) (h : 0 ≤ s 0 ∧ s 0 ≤ 12) (k : Nat) : b.2 ≤ (sPrO s b k).2 ∧ (sPrO s b k).2 ≤ b.2 + 13 * k := by
  induction k with
  | zero => show b.2 ≤ b.2 ∧ b.2 ≤ b.2 + 13 * ((0 : Nat) : Int); omega
  | succ k ih =>
    have := sPrI_len s k (sPrO s b k) (s 0).toNat
    show b.2 ≤ (sPrI s k (sPrO s b k) (s 0).toNat).2 + 1 ∧ (sPrI s k (sPrO s b k) (s 0).toNat).2 + 1 ≤ _
    omega
/-- four bytes of a word, five words: what an append lays behind the text -/
def sWord (a b c d e k : Int) : Int := if k < 4 then a else if k < 8 then b else if k < 12 then c else if k < 16 then d else e
def sByte (a b c d e k : Int) : Int := zand (zshr (sWord a b c d e k) (24 - 8 * (k % 4))) 255
def sApp (t : Int → Int) (n a b c d e k : Int) : Int → Int := fun j => if n ≤ j ∧ j < n + k then sByte a b c d e (j - n) else t j
theorem sApp_s (t : Int → Int) (n a b c d e : Int) {k : Int} (hk : 0 ≤ k) : zp (sApp t n a b c d e k) (n + k) (sByte a b c d e k) = sApp t n a b c d e (k + 1) := by
  funext j
  unfold zp sApp
  by_cases h : j = n + k
  · rw [if_pos h, if_pos (by omega), show j - n = k by omega]
  · rw [if_neg h]
    by_cases h2 : n ≤ j ∧ j < n + k
    · rw [if_pos h2, if_pos (by omega)]
    · rw [if_neg h2, if_neg (by omega)]
theorem cM_setS_l {N : Nat} {G F : GM} {n : Nat} (hN : 241 ≤ N) {l f : Int} (hok : mOk (G 231)) {Q : Zq} (hQ : Q (.inl (some (.int (zi (zcnt (fun k => sAst (G 231) 9 k 0 = 1) (G 231 4).toNat))))) G F n) : ∀ (d : Nat) (k : Nat), G 231 4 - k < (d : Int) → (k : Int) ≤ G 231 4 → zW N 121 35 [.ref 230, .int (zi l), .int (zi f), .int (zi (zcnt (fun k => sAst (G 231) 9 k 0 = 1) k)), .int (zi (k : Int))] [] G F n Q := by
  intro d
  induction d with
  | zero =>
    intro k hd hj
    exact absurd hd (by omega)
  | succ d ih =>
    intro k hd hj
    have b4 := hok.2.2.2.2.1
    have h01 := sAst_01 (G 231) 9 k 0
    refine zs_iload (ip' := 36) rfl rfl rfl ?_
    refine zs_aload (ip' := 37) rfl rfl rfl ?_
    refine zs_getR (ip' := 38) rfl rfl (r := 231) (by omega) zsh_230 rfl ?_
    refine zs_pushI (ip' := 39) rfl rfl zi_k4 ?_
    refine zs_iald (ip' := 40) rfl rfl (by omega) zsh_231 (by omega) ?_
    intro hl39 hu39
    refine zs_icmp_ge (t := 49) (ip' := 41) rfl rfl (by omega) (by omega) ?_ ?_
    · intro h40
      refine zs_iload (ip' := 50) rfl rfl rfl ?_
      refine zW_0 rfl ?_
      rw [show k = (G 231 4).toNat by omega]
      exact hQ
    · intro h40
      refine zs_aload (ip' := 42) rfl rfl rfl ?_
      refine zs_getR (ip' := 43) rfl rfl (r := 231) (by omega) zsh_230 rfl ?_
      refine zs_iload (ip' := 44) rfl rfl rfl ?_
      refine zW_cP (ip' := 45) rfl rfl (cM_isAstray zsh_231 (by omega) b4 (fun l l0 l1 => mOk_lt hok l0 l1) (mOk_nx hok) (by omega) (by omega)) rfl rfl rfl ?_
      refine zs_if_eq (t := 47) (ip' := 46) rfl rfl (by omega) ?_ ?_
      · intro h45
        refine zs_iinc4 (ip' := 48) rfl rfl zi_k1 ?_
        refine zs_goto (t := 35) rfl ?_
        have e : zcnt (fun k => sAst (G 231) 9 k 0 = 1) (k + 1) = zcnt (fun k => sAst (G 231) 9 k 0 = 1) k := by
          show _ + (if sAst (G 231) 9 (k : Int) 0 = 1 then 1 else 0) = _
          rw [if_neg (by omega), Int.add_zero]
        have := ih (k + 1) (by omega) (by omega)
        rw [e] at this
        exact this
      · intro h45
        refine zs_iinc3 (ip' := 47) rfl rfl zi_k1 ?_
        refine zs_iinc4 (ip' := 48) rfl rfl zi_k1 ?_
        refine zs_goto (t := 35) rfl ?_
        have e : zcnt (fun k => sAst (G 231) 9 k 0 = 1) (k + 1) = zcnt (fun k => sAst (G 231) 9 k 0 = 1) k + 1 := by
          show _ + (if sAst (G 231) 9 (k : Int) 0 = 1 then 1 else 0) = _
          rw [if_pos (by omega)]
        have := ih (k + 1) (by omega) (by omega)
        rw [e] at this
        exact this
theorem mOk_n {s : Int → Int} {l v : Int} (h : mOk s) (h0 : 0 ≤ l) (h1 : l < s 4) (hv : -1 ≤ v ∧ v < s 4) : mOk (zp s (174 + 5 * l + 4) v) := by
  obtain ⟨a0, a1, a2, a3, a4, a5, hfog, hc, hl, hw⟩ := h
  have e : ∀ i, i ≠ 174 + 5 * l + 4 → zp s (174 + 5 * l + 4) v i = s i := fun i hi => zp_ne hi
  unfold mOk
  rw [e 0 (by omega), e 1 (by omega), e 2 (by omega), e 3 (by omega), e 4 (by omega), e 5 (by omega)]
  refine ⟨a0, a1, a2, a3, a4, a5, ?_, ?_, ?_, ?_⟩
  · intro h h0 h1
    rw [e (6 + h) (by omega)]
    exact hfog h h0 h1
  · intro c c0 c1
    rw [e (30 + c) (by omega)]
    exact hc c c0 c1
  · intro l' l0 l1
    have := hl l' l0 l1
    unfold mLi at this ⊢
    rw [e (174 + 5 * l' + 0) (by omega), e (174 + 5 * l' + 1) (by omega), e (174 + 5 * l' + 2) (by omega), e (174 + 5 * l' + 3) (by omega), e 0 (by omega), e 1 (by omega), e 4 (by omega)]
    refine ⟨this.1, this.2.1, this.2.2.1, this.2.2.2.1, ?_⟩
    by_cases q : l' = l
    · rw [q, zp_eq]
      exact hv
    · rw [e (174 + 5 * l' + 4) (by omega)]
      exact this.2.2.2.2
  · intro w w0 w1
    have := hw w w0 w1
    unfold mWi at this ⊢
    rw [e (214 + 7 * w + 0) (by omega), e (214 + 7 * w + 1) (by omega), e (214 + 7 * w + 2) (by omega), e (214 + 7 * w + 3) (by omega), e (214 + 7 * w + 6) (by omega), e 0 (by omega), e 1 (by omega), e 3 (by omega), e 4 (by omega)]
    exact this
def q_setSuccessor (s : Int → Int) (l f : Int) : Int × Int := if (0 ≤ l ∧ l ≤ s 4 - 1) ∧ (0 ≤ f ∧ f ≤ s 4 - 1) then (if l = f then (2, 0) else (0, zcnt (fun k => sAst (zp s (174 + 5 * l + 4) f) 9 k 0 = 1) (zp s (174 + 5 * l + 4) f 4).toNat)) else (1, 0)
theorem cP_setSuccessor {N : Nat} {G F : GM} {n : Nat} (hN : 241 ≤ N) (hok : mOk (G 231)) (hu : 0 ≤ G 230 6 ∧ G 230 6 ≤ 8) {l f : Int} (hl : zr l) (hf : zr f) : zC N 121 [.ref 230, .int (zi l), .int (zi f)] G F n (zSu G F n (q_setSuccessor (G 231) l f) (zp (G 231) (174 + 5 * l + 4) f)) := by
  refine zC_i (L0 := [.ref 230, .int (zi l), .int (zi f), .null, .null]) rfl ?_
  refine zs_aload (ip' := 1) rfl rfl rfl ?_
  refine zs_pushI (ip' := 2) rfl rfl zi_k0 ?_
  refine zs_putI (ip' := 3) rfl rfl (by omega) zsh_230 rfl (q := 10) rfl (by omega) ?_
  have hm := zMk_0 (G := G) (t := 0)
  generalize zk G 230 (zp (G 230) 10 0) = G1 at hm ⊢
  have e1 := zMk_r hm
  rw [← e1] at hok ⊢
  have hu6 : G1 230 6 = G 230 6 := hm.2.1 6 (by decide) (by decide) (by decide)
  rw [← hu6] at hu
  have b0 := hok.1
  have b1 := hok.2.1
  have b4 := hok.2.2.2.2.1
  have b5 := hok.2.2.2.2.2.1
  refine zs_aload (ip' := 4) rfl rfl rfl ?_
  refine zs_iload (ip' := 5) rfl rfl rfl ?_
  refine zW_cP (ip' := 6) rfl rfl (cM_isLight hN (by omega) hl) rfl rfl (z_ok3 (by omega) zsh_230 rfl rfl rfl) ?_
  refine zs_if_eqB (t := 11) (ip' := 7) rfl rfl ?_ ?_
  · intro h6
    refine zs_aload (ip' := 12) rfl rfl rfl ?_
    refine zs_pushI (ip' := 13) rfl rfl zi_k1 ?_
    refine zW_cR (ip' := 14) rfl rfl (cM_fails hN (by decide)) rfl rfl (z_ok3 (by omega) zsh_230 rfl rfl rfl) ?_
    rintro v G' F' n' _ ⟨rfl, rfl, rfl, rfl⟩
    refine zW_0 rfl ?_
    exact zSu_no hm (if_neg (fun q => h6 q.1)) (by decide)
  · intro h6
    refine zs_aload (ip' := 8) rfl rfl rfl ?_
    refine zs_iload (ip' := 9) rfl rfl rfl ?_
    refine zW_cP (ip' := 10) rfl rfl (cM_isLight hN (by omega) hf) rfl rfl (z_ok3 (by omega) zsh_230 rfl rfl rfl) ?_
    refine zs_if_neB (t := 15) (ip' := 11) rfl rfl ?_ ?_
    · intro h10
      refine zs_iload (ip' := 16) rfl rfl rfl ?_
      refine zs_iload (ip' := 17) rfl rfl rfl ?_
      refine zs_icmp_ne (t := 22) (ip' := 18) rfl rfl (by omega) (by omega) ?_ ?_
      · intro h17
        refine zs_aload (ip' := 23) rfl rfl rfl ?_
        refine zW_cV (ip' := 24) rfl rfl (cM_keepsForUndo hN hu) rfl rfl (z_ok3 (by omega) zsh_230 rfl rfl rfl) ?_
        rintro G2 F' n' ⟨hP, e2, rfl, rfl⟩
        have hok2 : mOk (G2 231) := by rw [e2]; exact hok
        have e23 := congrFun e2 3
        refine zs_aload (ip' := 25) rfl rfl rfl ?_
        refine zs_getR (ip' := 26) rfl rfl (r := 231) (by omega) zsh_230 rfl ?_
        refine zs_iload (ip' := 27) rfl rfl rfl ?_
        refine zs_pushI (ip' := 28) rfl rfl zi_k4 ?_
        refine zW_cP (ip' := 29) rfl rfl cM_lightAt rfl rfl rfl ?_
        refine zs_iload (ip' := 30) rfl rfl rfl ?_
        refine zs_iast (ip' := 31) rfl rfl (by omega) zsh_231 (by omega) (by omega) ?_
        refine zs_pushI (ip' := 32) rfl rfl zi_k0 ?_
        refine zs_istore3 (ip' := 33) rfl rfl ?_
        refine zs_pushI (ip' := 34) rfl rfl zi_k0 ?_
        refine zs_istore4 (ip' := 35) rfl rfl ?_
        have e4 : zk G2 231 (zp (G2 231) (174 + 5 * l + 4) f) 231 = zp (G1 231) (174 + 5 * l + 4) f := by rw [zk_eq, e2]
        exact cM_setS_l (G := zk G2 231 (zp (G2 231) (174 + 5 * l + 4) f)) hN (by rw [e4]; exact mOk_n hok h6.1 (by omega) (by omega)) (zSu_ok hm (zPs_w hP) (by rw [e4]; exact (if_pos ⟨h6, h10⟩).trans (if_neg h17)) e4) 9 0 (by rw [e4, zp_ne (by omega)]; omega) (by rw [e4, zp_ne (by omega)]; omega)
      · intro h17
        refine zs_aload (ip' := 19) rfl rfl rfl ?_
        refine zs_pushI (ip' := 20) rfl rfl zi_k2 ?_
        refine zW_cR (ip' := 21) rfl rfl (cM_fails hN (by decide)) rfl rfl (z_ok3 (by omega) zsh_230 rfl rfl rfl) ?_
        rintro v G' F' n' _ ⟨rfl, rfl, rfl, rfl⟩
        refine zW_0 rfl ?_
        exact zSu_no hm ((if_pos ⟨h6, h10⟩).trans (if_pos h17)) (by decide)
    · intro h10
      refine zs_aload (ip' := 12) rfl rfl rfl ?_
      refine zs_pushI (ip' := 13) rfl rfl zi_k1 ?_
      refine zW_cR (ip' := 14) rfl rfl (cM_fails hN (by decide)) rfl rfl (z_ok3 (by omega) zsh_230 rfl rfl rfl) ?_
      rintro v G' F' n' _ ⟨rfl, rfl, rfl, rfl⟩
      refine zW_0 rfl ?_
      exact zSu_no hm (if_neg (fun q => h10 q.2)) (by decide)
def zUn (G F : GM) (n : Nat) (q : Int × Int) (P : GM → Prop) : Zq := fun o G' F' n' => o = .inl (some (.int (zi q.2))) ∧ F' = F ∧ n' = n ∧ ((q.1 ≠ 0 ∧ zMk G G' q.1) ∨ (q.1 = 0 ∧ P G'))
section UN
variable {G G1 G2 F : GM} {t t0 v : Int} {n : Nat} {P : GM → Prop}
theorem zUn_ok {q : Int × Int} (hq : q = (0, v)) (h : P G2) : zUn G F n q P (.inl (some (.int (zi v)))) G2 F n := by
  subst hq
  exact ⟨rfl, rfl, rfl, Or.inr ⟨rfl, h⟩⟩
theorem zUn_no {q : Int × Int} (hm : zMk G G1 t0) (hq : q = (t, 0)) (ht : t ≠ 0) : zUn G F n q P (.inl (some (.int (zi 0)))) (zk G1 230 (zp (G1 230) 10 t)) F n := by
  subst hq
  exact ⟨rfl, rfl, rfl, Or.inl ⟨ht, zMk_t hm⟩⟩
end UN
def q_undo (u : Int) : Int × Int := if u = 0 then (1, 0) else (0, u - 1)
def q_save (s : Int → Int) (c : Int) : Int × Int := if 0 ≤ c ∧ c ≤ 1 then (0, s 3) else (1, 0)
def q_restore (kept : Int → Int) (t : Int → Int) (c : Int) : Int × Int := if 0 ≤ c ∧ c ≤ 1 then (if kept c = 0 then (2, 0) else (0, t 3)) else (1, 0)
theorem cP_undo {N : Nat} {G F : GM} {n : Nat} (hN : 241 ≤ N) (hu : 0 ≤ G 230 6 ∧ G 230 6 ≤ 8) : zC N 127 [.ref 230] G F n (zUn G F n (q_undo (G 230 6)) (fun G' => ∃ G1, zMk G G1 0 ∧ G' = zk (zk G1 230 (zp (G1 230) 6 (G 230 6 - 1))) 231 (zlr (G 234) (G 231) (256 * (G 230 6 - 1)) 0 256))) := by
  refine zC_i (L0 := [.ref 230]) rfl ?_
  refine zs_aload (ip' := 1) rfl rfl rfl ?_
  refine zs_pushI (ip' := 2) rfl rfl zi_k0 ?_
  refine zs_putI (ip' := 3) rfl rfl (by omega) zsh_230 rfl (q := 10) rfl (by omega) ?_
  have hm := zMk_0 (G := G) (t := 0)
  generalize hG1 : zk G 230 (zp (G 230) 10 0) = G1 at hm ⊢
  have e1 := zMk_r hm
  have hu6 : G1 230 6 = G 230 6 := hm.2.1 6 (by decide) (by decide) (by decide)
  refine zs_aload (ip' := 4) rfl rfl rfl ?_
  refine zs_getI (ip' := 5) rfl rfl (by omega) zsh_230 rfl (q := 6) rfl ?_
  intro hl4 hu4
  rw [hu6] at hl4 hu4 ⊢
  refine zs_if_ne (t := 10) (ip' := 6) rfl rfl (by omega) ?_ ?_
  · intro h5
    refine zs_aload (ip' := 11) rfl rfl rfl ?_
    refine zs_dupR (ip' := 12) rfl rfl ?_
    refine zs_getI (ip' := 13) rfl rfl (by omega) zsh_230 rfl (q := 6) rfl ?_
    intro hl12 hu12
    rw [hu6] at hl12 hu12 ⊢
    refine zs_pushI (ip' := 14) rfl rfl zi_k1 ?_
    refine zs_isub (ip' := 15) rfl rfl ?_
    refine zs_putI (ip' := 16) rfl rfl (by omega) zsh_230 rfl (q := 6) rfl (by omega) ?_
    refine zs_aload (ip' := 17) rfl rfl rfl ?_
    refine zs_getR (ip' := 18) rfl rfl (r := 234) (by omega) zsh_230 rfl ?_
    refine zs_pushI (ip' := 19) rfl rfl zi_k256 ?_
    refine zs_aload (ip' := 20) rfl rfl rfl ?_
    refine zs_getI (ip' := 21) rfl rfl (by omega) zsh_230 rfl (q := 6) rfl ?_
    intro hl20 hu20
    rw [zk_eq, zp_eq] at hl20 hu20 ⊢
    refine zs_imul (ip' := 22) rfl rfl ?_
    refine zs_aload (ip' := 23) rfl rfl rfl ?_
    refine zs_getR (ip' := 24) rfl rfl (r := 231) (by omega) zsh_230 rfl ?_
    refine zs_pushI (ip' := 25) rfl rfl zi_k0 ?_
    refine zW_cV (ip' := 26) rfl rfl (cM_layRow zsh_234 (by omega) zsh_231 (by omega) (by omega) (by omega) (Or.inl (by decide))) rfl rfl rfl ?_
    rintro G' F' n' ⟨rfl, rfl, rfl⟩
    rw [show zk G1 230 (zp (G1 230) 6 (G 230 6 - 1)) 234 = G 234 from hm.1 234 (by decide) (by decide) (by decide) (by decide), show zk G1 230 (zp (G1 230) 6 (G 230 6 - 1)) 231 = G 231 from e1]
    refine zs_aload (ip' := 27) rfl rfl rfl ?_
    refine zs_getI (ip' := 28) rfl rfl (by omega) zsh_230 rfl (q := 6) rfl ?_
    intro hl27 hu27
    rw [zk_ne (by decide : (230 : Nat) ≠ 231), zk_eq, zp_eq] at hl27 hu27 ⊢
    refine zW_0 rfl ?_
    exact zUn_ok (if_neg h5) ⟨G1, hm, rfl⟩
  · intro h5
    refine zs_aload (ip' := 7) rfl rfl rfl ?_
    refine zs_pushI (ip' := 8) rfl rfl zi_k1 ?_
    refine zW_cR (ip' := 9) rfl rfl (cM_fails hN (by decide)) rfl rfl (z_ok3 (by omega) zsh_230 rfl rfl rfl) ?_
    rintro v G' F' n' _ ⟨rfl, rfl, rfl, rfl⟩
    refine zW_0 rfl ?_
    exact zUn_no hm (if_pos h5) (by decide)
theorem cP_saveSnapshot {N : Nat} {G F : GM} {n : Nat} (hN : 241 ≤ N) {c : Int} (hc : zr c) : zC N 128 [.ref 230, .int (zi c)] G F n (zUn G F n (q_save (G 231) c) (fun G' => ∃ G1, zMk G G1 0 ∧ G' = zk (zk G1 235 (zlr (G 231) (G 235) 0 (256 * c) 256)) 236 (zp (G 236) c 1))) := by
  refine zC_i (L0 := [.ref 230, .int (zi c)]) rfl ?_
  refine zs_aload (ip' := 1) rfl rfl rfl ?_
  refine zs_pushI (ip' := 2) rfl rfl zi_k0 ?_
  refine zs_putI (ip' := 3) rfl rfl (by omega) zsh_230 rfl (q := 10) rfl (by omega) ?_
  have hm := zMk_0 (G := G) (t := 0)
  generalize hG1 : zk G 230 (zp (G 230) 10 0) = G1 at hm ⊢
  have e1 := zMk_r hm
  have hu6 : G1 230 6 = G 230 6 := hm.2.1 6 (by decide) (by decide) (by decide)
  refine zs_iload (ip' := 4) rfl rfl rfl ?_
  refine zs_pushI (ip' := 5) rfl rfl zi_k0 ?_
  refine zs_pushI (ip' := 6) rfl rfl zi_k1 ?_
  refine zW_cP (ip' := 7) rfl rfl (cM_in (by omega) (by omega) (by omega)) rfl rfl rfl ?_
  refine zs_if_neB (t := 12) (ip' := 8) rfl rfl ?_ ?_
  · intro h7
    refine zs_aload (ip' := 13) rfl rfl rfl ?_
    refine zs_getR (ip' := 14) rfl rfl (r := 231) (by omega) zsh_230 rfl ?_
    refine zs_pushI (ip' := 15) rfl rfl zi_k0 ?_
    refine zs_aload (ip' := 16) rfl rfl rfl ?_
    refine zs_getR (ip' := 17) rfl rfl (r := 235) (by omega) zsh_230 rfl ?_
    refine zs_pushI (ip' := 18) rfl rfl zi_k256 ?_
    refine zs_iload (ip' := 19) rfl rfl rfl ?_
    refine zs_imul (ip' := 20) rfl rfl ?_
    refine zW_cV (ip' := 21) rfl rfl (cM_layRow zsh_231 (by omega) zsh_235 (by omega) (by omega) (by omega) (Or.inl (by decide))) rfl rfl rfl ?_
    rintro G' F' n' ⟨rfl, rfl, rfl⟩
    rw [e1, show G1 235 = G 235 from hm.1 235 (by decide) (by decide) (by decide) (by decide)]
    refine zs_aload (ip' := 22) rfl rfl rfl ?_
    refine zs_getR (ip' := 23) rfl rfl (r := 236) (by omega) zsh_230 rfl ?_
    refine zs_iload (ip' := 24) rfl rfl rfl ?_
    refine zs_pushI (ip' := 25) rfl rfl zi_k1 ?_
    refine zs_zast (ip' := 26) rfl rfl (by omega) zsh_236 (by omega) (Or.inr rfl) ?_
    rw [show zk G1 235 (zlr (G 231) (G 235) 0 (256 * c) 256) 236 = G 236 from hm.1 236 (by decide) (by decide) (by decide) (by decide)]
    refine zs_aload (ip' := 27) rfl rfl rfl ?_
    refine zs_getR (ip' := 28) rfl rfl (r := 231) (by omega) zsh_230 rfl ?_
    refine zs_pushI (ip' := 29) rfl rfl zi_k3 ?_
    refine zs_iald (ip' := 30) rfl rfl (by omega) zsh_231 (by omega) ?_
    intro hl29 hu29
    rw [show zk (zk G1 235 (zlr (G 231) (G 235) 0 (256 * c) 256)) 236 (zp (G 236) c 1) 231 = G 231 from e1] at hl29 hu29 ⊢
    refine zW_0 rfl ?_
    exact zUn_ok (if_pos h7) ⟨G1, hm, rfl⟩
  · intro h7
    refine zs_aload (ip' := 9) rfl rfl rfl ?_
    refine zs_pushI (ip' := 10) rfl rfl zi_k1 ?_
    refine zW_cR (ip' := 11) rfl rfl (cM_fails hN (by decide)) rfl rfl (z_ok3 (by omega) zsh_230 rfl rfl rfl) ?_
    rintro v G' F' n' _ ⟨rfl, rfl, rfl, rfl⟩
    refine zW_0 rfl ?_
    exact zUn_no hm (if_neg h7) (by decide)
theorem cP_restoreSnapshot {N : Nat} {G F : GM} {n : Nat} (hN : 241 ≤ N) (hok : mOk (G 231)) (hu : 0 ≤ G 230 6 ∧ G 230 6 ≤ 8) {c : Int} (hc : zr c) : zC N 129 [.ref 230, .int (zi c)] G F n (zSu G F n (q_restore (G 236) (zlr (G 235) (G 231) (256 * c) 0 256) c) (zlr (G 235) (G 231) (256 * c) 0 256)) := by
  refine zC_i (L0 := [.ref 230, .int (zi c)]) rfl ?_
  refine zs_aload (ip' := 1) rfl rfl rfl ?_
  refine zs_pushI (ip' := 2) rfl rfl zi_k0 ?_
  refine zs_putI (ip' := 3) rfl rfl (by omega) zsh_230 rfl (q := 10) rfl (by omega) ?_
  have hm := zMk_0 (G := G) (t := 0)
  generalize zk G 230 (zp (G 230) 10 0) = G1 at hm ⊢
  have e1 := zMk_r hm
  have e35 : G1 235 = G 235 := hm.1 235 (by decide) (by decide) (by decide) (by decide)
  have e36 : G1 236 = G 236 := hm.1 236 (by decide) (by decide) (by decide) (by decide)
  rw [← e1] at hok ⊢
  rw [← e35, ← e36]
  have hu6 : G1 230 6 = G 230 6 := hm.2.1 6 (by decide) (by decide) (by decide)
  rw [← hu6] at hu
  have b0 := hok.1
  have b1 := hok.2.1
  have b4 := hok.2.2.2.2.1
  have b5 := hok.2.2.2.2.2.1
  refine zs_iload (ip' := 4) rfl rfl rfl ?_
  refine zs_pushI (ip' := 5) rfl rfl zi_k0 ?_
  refine zs_pushI (ip' := 6) rfl rfl zi_k1 ?_
  refine zW_cP (ip' := 7) rfl rfl (cM_in (by omega) (by omega) (by omega)) rfl rfl rfl ?_
  refine zs_if_neB (t := 12) (ip' := 8) rfl rfl ?_ ?_
  · intro h7
    refine zs_aload (ip' := 13) rfl rfl rfl ?_
    refine zs_getR (ip' := 14) rfl rfl (r := 236) (by omega) zsh_230 rfl ?_
    refine zs_iload (ip' := 15) rfl rfl rfl ?_
    refine zs_zald (ip' := 16) rfl rfl (by omega) zsh_236 (by omega) ?_
    intro hl15 hu15
    refine zs_if_ne (t := 21) (ip' := 17) rfl rfl (by omega) ?_ ?_
    · intro h16
      refine zs_aload (ip' := 22) rfl rfl rfl ?_
      refine zW_cV (ip' := 23) rfl rfl (cM_keepsForUndo hN hu) rfl rfl (z_ok3 (by omega) zsh_230 rfl rfl rfl) ?_
      rintro G2 F' n' ⟨hP, e2, rfl, rfl⟩
      have hok2 : mOk (G2 231) := by rw [e2]; exact hok
      have e23 := congrFun e2 3
      refine zs_aload (ip' := 24) rfl rfl rfl ?_
      refine zs_getR (ip' := 25) rfl rfl (r := 235) (by omega) zsh_230 rfl ?_
      refine zs_pushI (ip' := 26) rfl rfl zi_k256 ?_
      refine zs_iload (ip' := 27) rfl rfl rfl ?_
      refine zs_imul (ip' := 28) rfl rfl ?_
      refine zs_aload (ip' := 29) rfl rfl rfl ?_
      refine zs_getR (ip' := 30) rfl rfl (r := 231) (by omega) zsh_230 rfl ?_
      refine zs_pushI (ip' := 31) rfl rfl zi_k0 ?_
      refine zW_cV (ip' := 32) rfl rfl (cM_layRow zsh_235 (by omega) zsh_231 (by omega) (by omega) (by omega) (Or.inl (by decide))) rfl rfl rfl ?_
      rintro G' F' n' ⟨rfl, rfl, rfl⟩
      rw [show G2 235 = G1 235 from hP.1 235 (by decide) (by decide) (by decide) (by decide) (by decide) (by decide)]
      refine zs_aload (ip' := 33) rfl rfl rfl ?_
      refine zs_getR (ip' := 34) rfl rfl (r := 231) (by omega) zsh_230 rfl ?_
      refine zs_pushI (ip' := 35) rfl rfl zi_k3 ?_
      refine zs_iald (ip' := 36) rfl rfl (by omega) zsh_231 (by omega) ?_
      intro hl35 hu35
      refine zW_0 rfl ?_
      rw [zk_eq, e2]
      exact zSu_ok hm (zPs_w hP) ((if_pos h7).trans (if_neg h16)) (by rw [zk_eq])
    · intro h16
      refine zs_aload (ip' := 18) rfl rfl rfl ?_
      refine zs_pushI (ip' := 19) rfl rfl zi_k2 ?_
      refine zW_cR (ip' := 20) rfl rfl (cM_fails hN (by decide)) rfl rfl (z_ok3 (by omega) zsh_230 rfl rfl rfl) ?_
      rintro v G' F' n' _ ⟨rfl, rfl, rfl, rfl⟩
      refine zW_0 rfl ?_
      exact zSu_no hm ((if_pos h7).trans (if_pos h16)) (by decide)
  · intro h7
    refine zs_aload (ip' := 9) rfl rfl rfl ?_
    refine zs_pushI (ip' := 10) rfl rfl zi_k1 ?_
    refine zW_cR (ip' := 11) rfl rfl (cM_fails hN (by decide)) rfl rfl (z_ok3 (by omega) zsh_230 rfl rfl rfl) ?_
    rintro v G' F' n' _ ⟨rfl, rfl, rfl, rfl⟩
    refine zW_0 rfl ?_
    exact zSu_no hm (if_neg h7) (by decide)
theorem cM_best_l {N : Nat} {F : GM} {n : Nat} (hN : 241 ≤ N) {G0 : GM} {t : Int → Int} (hok : mOk t) (ht : t 3 ≤ 9999) : ∀ (d : Nat) (k : Nat) (G1 : GM), 21 - (k : Int) < (d : Int) → (k : Int) ≤ 21 → zMk G0 G1 0 → zSp G1 = t → zW N 116 9 [.ref 230, .int (zi (sBest t k).1), .int (zi (sBest t k).2), .int (zi (k : Int))] [] G1 F n (zQm G0 F n (0, (sBest t 21).1)) := by
  intro d
  induction d with
  | zero =>
    intro k G1 hd hj hm e
    exact absurd hd (by omega)
  | succ d ih =>
    intro k G1 hd hj hm e
    have b5 := hok.2.2.2.2.2.1
    have b3 := hok.2.2.2.1
    have hall : ∀ i : Nat, (i : Int) ≤ 20 → 0 ≤ sTicks (zp t 2 i) 300 5 ∧ sTicks (zp t 2 i) 300 5 ≤ 6 := fun i i0 => by
      have := (sTicks_ok (mOk_cl hok (v := (i : Int)) ⟨by omega, i0⟩) 300 (by rw [zp_ne (by omega)]; omega)).1.2.2.2.2.2.1
      exact this
    obtain ⟨⟨g1, g2⟩, g3, g4⟩ := sBest_rng t k hj hall
    refine zs_iload (ip' := 10) rfl rfl rfl ?_
    refine zs_pushI (ip' := 11) rfl rfl zi_k20 ?_
    refine zs_icmp_gt (t := 40) (ip' := 12) rfl rfl (by omega) (by omega) ?_ ?_
    · intro h11
      refine zs_iload (ip' := 41) rfl rfl rfl ?_
      refine zW_0 rfl ?_
      exact zQ_ok hm (by rw [show k = 21 by omega])
    · intro h11
      refine zs_aload (ip' := 13) rfl rfl rfl ?_
      refine zW_cV (ip' := 14) rfl rfl (cM_takesSpare hN) rfl rfl (z_ok3 (by omega) zsh_230 rfl rfl rfl) ?_
      rintro G' F' n' ⟨rfl, rfl, rfl⟩
      have hm2 := zMk_s (Y := zSp G1) hm
      have e2 : zk G1 233 (zSp G1) 233 = t := (zk_eq _ _ _).trans e
      have er : zk G1 233 (zSp G1) 231 = G1 231 := rfl
      rw [show zlr (G1 231) (G1 233) 0 0 256 = zSp G1 from rfl]
      generalize zk G1 233 (zSp G1) = G2 at hm2 e2 er ⊢
      refine zs_aload (ip' := 15) rfl rfl rfl ?_
      refine zs_getR (ip' := 16) rfl rfl (r := 233) (by omega) zsh_230 rfl ?_
      refine zs_pushI (ip' := 17) rfl rfl zi_k2 ?_
      refine zs_iload (ip' := 18) rfl rfl rfl ?_
      refine zs_iast (ip' := 19) rfl rfl (by omega) zsh_233 (by omega) (by omega) ?_
      rw [e2]
      have hm4 := zMk_s (Y := zp t 2 k) hm2
      have e4 : zk G2 233 (zp t 2 k) 233 = zp t 2 k := zk_eq _ _ _
      have er4 : zk G2 233 (zp t 2 k) 231 = G1 231 := er
      generalize zk G2 233 (zp t 2 k) = G4 at hm4 e4 er4 ⊢
      have hk2 : mOk (G4 233) := by rw [e4]; exact mOk_cl hok ⟨by omega, by omega⟩
      have ht2 : G4 233 3 = t 3 := by rw [e4, zp_ne (by omega)]
      refine zs_aload (ip' := 20) rfl rfl rfl ?_
      refine zs_aload (ip' := 21) rfl rfl rfl ?_
      refine zs_getR (ip' := 22) rfl rfl (r := 233) (by omega) zsh_230 rfl ?_
      refine zs_pushI (ip' := 23) rfl rfl zi_k300 ?_
      refine zW_cV (ip' := 24) rfl rfl (cM_ticksMany hN zsh_233 (by omega) ⟨by decide, by decide, by decide⟩ hk2 (q := 300) (by omega) (by omega)) rfl rfl (z_ok3 (by omega) zsh_230 rfl rfl rfl) ?_
      rintro G' F' n' ⟨A1, B1, f1, l1, rfl, rfl, rfl⟩
      have hm3 := zMk_b (A := A1) (B := B1) (f := f1) (l := l1) (zMk_s (Y := sTicks (G4 233) (300 : Int).toNat) hm4)
      have e3 : zBf (zk G4 233 (sTicks (G4 233) (300 : Int).toNat)) A1 B1 f1 l1 233 = sTicks (zp t 2 k) 300 := by rw [zBf_o ⟨by decide, by decide, by decide⟩, zk_eq, e4] <;> rfl
      have er3 : zBf (zk G4 233 (sTicks (G4 233) (300 : Int).toNat)) A1 B1 f1 l1 231 = G1 231 := by rw [zBf_o ⟨by decide, by decide, by decide⟩, zk_ne (by decide), er4]
      generalize zBf (zk G4 233 (sTicks (G4 233) (300 : Int).toNat)) A1 B1 f1 l1 = G3 at hm3 e3 er3 ⊢
      have hs5 := hall k (by omega)
      have hc := sCount_rng (sTicks (zp t 2 k) 300) 1 hs5
      have esp : zSp G3 = t := by
        funext j
        unfold zSp
        by_cases hj2 : 0 ≤ j ∧ j < 0 + 256
        · rw [zlr_in hj2, er3, ← e]
          unfold zSp
          rw [zlr_in hj2]
        · rw [zlr_out hj2, e3, sTicks_ou (mOk_cl hok (v := (k : Int)) ⟨by omega, by omega⟩) 300 (by rw [zp_ne (by omega)]; omega) j (by omega), zp_ne (by omega)]
      refine zs_aload (ip' := 25) rfl rfl rfl ?_
      refine zs_getR (ip' := 26) rfl rfl (r := 233) (by omega) zsh_230 rfl ?_
      refine zs_pushI (ip' := 27) rfl rfl zi_k1 ?_
      refine zW_cP (ip' := 28) rfl rfl (cM_countOf zsh_233 (by omega) (by omega) (by rw [e3]; exact hs5)) rfl rfl rfl ?_
      rw [e3]
      refine zs_iload (ip' := 29) rfl rfl rfl ?_
      refine zs_icmp_gt (t := 31) (ip' := 30) rfl rfl (by omega) (by omega) ?_ ?_
      · intro h29
        refine zs_iload (ip' := 32) rfl rfl rfl ?_
        refine zs_istore1 (ip' := 33) rfl rfl ?_
        refine zs_aload (ip' := 34) rfl rfl rfl ?_
        refine zs_getR (ip' := 35) rfl rfl (r := 233) (by omega) zsh_230 rfl ?_
        refine zs_pushI (ip' := 36) rfl rfl zi_k1 ?_
        refine zW_cP (ip' := 37) rfl rfl (cM_countOf zsh_233 (by omega) (by omega) (by rw [e3]; exact hs5)) rfl rfl rfl ?_
        rw [e3]
        refine zs_istore2 (ip' := 38) rfl rfl ?_
        refine zs_iinc3 (ip' := 39) rfl rfl zi_k1 ?_
        refine zs_goto (t := 9) rfl ?_
        have e5 : sBest t (k + 1) = ((k : Int), sCount (sTicks (zp t 2 k) 300) 1) := if_neg (by omega)
        have := ih (k + 1) G3 (by omega) (by omega) hm3 esp
        rw [e5] at this
        dsimp only at this
        exact this
      · intro h29
        refine zs_goto (t := 38) rfl ?_
        refine zs_iinc3 (ip' := 39) rfl rfl zi_k1 ?_
        refine zs_goto (t := 9) rfl ?_
        have e5 : sBest t (k + 1) = sBest t k := if_pos h29
        have := ih (k + 1) G3 (by omega) (by omega) hm3 esp
        rw [e5] at this
        exact this
theorem cP_bestClearness {N : Nat} {G F : GM} {n : Nat} (hN : 241 ≤ N) (hok : mOk (G 231)) (ht : G 231 3 ≤ 9999) : zC N 116 [.ref 230] G F n (zQm G F n (((0 : Int), (sBest (zSp G) 21).1))) := by
  refine zC_i (L0 := [.ref 230, .null, .null, .null]) rfl ?_
  refine zs_aload (ip' := 1) rfl rfl rfl ?_
  refine zs_pushI (ip' := 2) rfl rfl zi_k0 ?_
  refine zs_putI (ip' := 3) rfl rfl (by omega) zsh_230 rfl (q := 10) rfl (by omega) ?_
  have hm := zMk_0 (G := G) (t := 0)
  have es : zSp (zk G 230 (zp (G 230) 10 0)) = zSp G := rfl
  generalize zk G 230 (zp (G 230) 10 0) = G1 at hm es ⊢
  have e1 := zMk_r hm
  rw [← e1] at hok ht
  rw [← es]
  have b0 := hok.1
  have b1 := hok.2.1
  have b4 := hok.2.2.2.2.1
  have b5 := hok.2.2.2.2.2.1
  have b3 := hok.2.2.2.1
  refine zs_pushI (ip' := 4) rfl rfl zi_k0 ?_
  refine zs_istore1 (ip' := 5) rfl rfl ?_
  refine zs_pushI (ip' := 6) rfl rfl zi_km1 ?_
  refine zs_istore2 (ip' := 7) rfl rfl ?_
  refine zs_pushI (ip' := 8) rfl rfl zi_k0 ?_
  refine zs_istore3 (ip' := 9) rfl rfl ?_
  have h3 : zSp G1 3 = G1 231 3 := zSp_eq G1 3 (by omega) (by omega)
  exact cM_best_l (t := zSp G1) hN (mOk_eq (zSp_eq G1) hok) (by omega) 22 0 G1 (by omega) (by omega) hm rfl
theorem cM_walkerOn_l {N : Nat} {G F : GM} {n : Nat} (hN : 241 ≤ N) {x y : Int} (hx : 0 ≤ x ∧ x < 12) (hy : 0 ≤ y ∧ y < 12) (hok : mOk (G 231)) : ∀ (d : Nat) (k : Nat), G 231 5 - k < (d : Int) → (k : Int) ≤ G 231 5 → (∀ i : Int, 0 ≤ i → i < k → ¬ (G 231 (214 + 7 * i + 2) = 0 ∧ sFar (G 231) i x y = 0)) → zW N 131 2 [.ref 230, .int (zi x), .int (zi y), .int (zi (k : Int))] [] G F n (fun o G' F' n' => o = .inl (some (.int (zi (sWOn (G 231) x y)))) ∧ G' = G ∧ F' = F ∧ n' = n) := by
  intro d
  induction d with
  | zero =>
    intro k hd hj hn
    exact absurd hd (by omega)
  | succ d ih =>
    intro k hd hj hn
    have b5 := hok.2.2.2.2.2.1
    refine zs_iload (ip' := 3) rfl rfl rfl ?_
    refine zs_aload (ip' := 4) rfl rfl rfl ?_
    refine zs_getR (ip' := 5) rfl rfl (r := 231) (by omega) zsh_230 rfl ?_
    refine zs_pushI (ip' := 6) rfl rfl zi_k5 ?_
    refine zs_iald (ip' := 7) rfl rfl (by omega) zsh_231 (by omega) ?_
    intro hl6 hu6
    refine zs_icmp_ge (t := 26) (ip' := 8) rfl rfl (by omega) (by omega) ?_ ?_
    · intro h7
      refine zs_pushI (ip' := 27) rfl rfl zi_km1 ?_
      refine zW_0 rfl ?_
      exact zfin (zfst_no _ (fun i h0 h1 => hn i h0 (by omega))).symm
    · intro h7
      obtain ⟨f1, f2⟩ := sFar_rng (mOk_wk hok (w := (k : Int)) (by omega) (by omega)) hx hy
      refine zs_aload (ip' := 9) rfl rfl rfl ?_
      refine zs_getR (ip' := 10) rfl rfl (r := 231) (by omega) zsh_230 rfl ?_
      refine zs_iload (ip' := 11) rfl rfl rfl ?_
      refine zs_pushI (ip' := 12) rfl rfl zi_k2 ?_
      refine zW_cP (ip' := 13) rfl rfl cM_walkerAt rfl rfl rfl ?_
      refine zs_iald (ip' := 14) rfl rfl (by omega) zsh_231 (by omega) ?_
      intro hl13 hu13
      refine zs_if_ne (t := 24) (ip' := 15) rfl rfl (by omega) ?_ ?_
      · intro h14
        refine zs_iinc3 (ip' := 25) rfl rfl zi_k1 ?_
        refine zs_goto (t := 2) rfl ?_
        exact ih (k + 1) (by omega) (by omega) (fun i h0 h1 => if e : i < k then hn i h0 e else fun hh => h14 (by rw [show (k : Int) = i by omega]; exact hh.1))
      · intro h14
        refine zs_aload (ip' := 16) rfl rfl rfl ?_
        refine zs_getR (ip' := 17) rfl rfl (r := 231) (by omega) zsh_230 rfl ?_
        refine zs_iload (ip' := 18) rfl rfl rfl ?_
        refine zs_iload (ip' := 19) rfl rfl rfl ?_
        refine zs_iload (ip' := 20) rfl rfl rfl ?_
        refine zW_cP (ip' := 21) rfl rfl (cM_farFrom zsh_231 (by omega) (by omega) (by omega) (by omega)) rfl rfl rfl ?_
        refine zs_if_ne (t := 24) (ip' := 22) rfl rfl (by omega) ?_ ?_
        · intro h21
          refine zs_iinc3 (ip' := 25) rfl rfl zi_k1 ?_
          refine zs_goto (t := 2) rfl ?_
          exact ih (k + 1) (by omega) (by omega) (fun i h0 h1 => if e : i < k then hn i h0 e else fun hh => h21 (by rw [show (k : Int) = i by omega]; exact hh.2))
        · intro h21
          refine zs_iload (ip' := 23) rfl rfl rfl ?_
          refine zW_0 rfl ?_
          exact zfin (zfst_at (p := fun w => G 231 (214 + 7 * w + 2) = 0 ∧ sFar (G 231) w x y = 0) (j := k) ⟨h14, h21⟩ hn _ (by omega)).symm
theorem cM_walkerOn {N : Nat} {G F : GM} {n : Nat} (hN : 241 ≤ N) {x y : Int} (hx : 0 ≤ x ∧ x < 12) (hy : 0 ≤ y ∧ y < 12) (hok : mOk (G 231)) : zPu N 131 [.ref 230, .int (zi x), .int (zi y)] (sWOn (G 231) x y) G F n := by
  refine zPu_i (L0 := [.ref 230, .int (zi x), .int (zi y), .null]) rfl ?_
  refine zs_pushI (ip' := 1) rfl rfl zi_k0 ?_
  refine zs_istore3 (ip' := 2) rfl rfl ?_
  have b5 := hok.2.2.2.2.2.1
  exact cM_walkerOn_l hN hx hy hok 7 0 (by omega) (by omega) (fun i h0 h1 => absurd h1 (by omega))
theorem cM_signOf {N : Nat} {G F : GM} {n : Nat} (hN : 241 ≤ N) {x y : Int} (hx : 0 ≤ x ∧ x < 12) (hy : 0 ≤ y ∧ y < 12) (hok : mOk (G 231)) : zPu N 132 [.ref 230, .int (zi x), .int (zi y)] (sSign (G 231) x y) G F n := by
  refine zPu_i (L0 := [.ref 230, .int (zi x), .int (zi y), .null, .null]) rfl ?_
  have b4 := hok.2.2.2.2.1
  have b5 := hok.2.2.2.2.2.1
  obtain ⟨o1, o2⟩ := zfst_rng (sAt (G 231) x y) (G 231 4).toNat
  have o1' : -1 ≤ sLOn (G 231) x y := o1
  have o2' : sLOn (G 231) x y < ((G 231 4).toNat : Int) := o2
  obtain ⟨o3, o4⟩ := zfst_rng (fun w => G 231 (214 + 7 * w + 2) = 0 ∧ sFar (G 231) w x y = 0) (G 231 5).toNat
  have o3' : -1 ≤ sWOn (G 231) x y := o3
  have o4' : sWOn (G 231) x y < ((G 231 5).toNat : Int) := o4
  refine zs_aload (ip' := 1) rfl rfl rfl ?_
  refine zs_iload (ip' := 2) rfl rfl rfl ?_
  refine zs_iload (ip' := 3) rfl rfl rfl ?_
  refine zW_cP (ip' := 4) rfl rfl (cM_walkerOn hN hx hy hok) rfl rfl (z_ok3 (by omega) zsh_230 rfl rfl rfl) ?_
  refine zs_istore3 (ip' := 5) rfl rfl ?_
  refine zs_aload (ip' := 6) rfl rfl rfl ?_
  refine zs_getR (ip' := 7) rfl rfl (r := 231) (by omega) zsh_230 rfl ?_
  refine zs_iload (ip' := 8) rfl rfl rfl ?_
  refine zs_iload (ip' := 9) rfl rfl rfl ?_
  refine zW_cP (ip' := 10) rfl rfl cM_cellAt rfl rfl rfl ?_
  refine zs_iald (ip' := 11) rfl rfl (by omega) zsh_231 (by omega) ?_
  intro hl10 hu10
  refine zs_istore4 (ip' := 12) rfl rfl ?_
  refine zs_iload (ip' := 13) rfl rfl rfl ?_
  refine zs_if_lt (t := 18) (ip' := 14) rfl rfl (by omega) ?_ ?_
  · intro h13
    refine zs_aload (ip' := 19) rfl rfl rfl ?_
    refine zs_getR (ip' := 20) rfl rfl (r := 231) (by omega) zsh_230 rfl ?_
    refine zs_iload (ip' := 21) rfl rfl rfl ?_
    refine zs_iload (ip' := 22) rfl rfl rfl ?_
    refine zW_cP (ip' := 23) rfl rfl (cM_lightOn zsh_231 (by omega) (by omega) (by omega) b4) rfl rfl rfl ?_
    refine zs_if_lt (t := 26) (ip' := 24) rfl rfl (by omega) ?_ ?_
    · intro h23
      refine zs_iload (ip' := 27) rfl rfl rfl ?_
      refine zs_if_ne (t := 30) (ip' := 28) rfl rfl (by omega) ?_ ?_
      · intro h27
        refine zs_iload (ip' := 31) rfl rfl rfl ?_
        refine zs_pushI (ip' := 32) rfl rfl zi_k1 ?_
        refine zs_icmp_ne (t := 35) (ip' := 33) rfl rfl (by omega) (by omega) ?_ ?_
        · intro h32
          refine zs_iload (ip' := 36) rfl rfl rfl ?_
          refine zs_pushI (ip' := 37) rfl rfl zi_k2 ?_
          refine zs_icmp_ne (t := 40) (ip' := 38) rfl rfl (by omega) (by omega) ?_ ?_
          · intro h37
            refine zs_pushI (ip' := 41) rfl rfl zi_k112 ?_
            refine zW_0 rfl ?_
            exact zfin (by unfold sSign; rw [if_neg (by omega), if_neg (by omega), if_neg h27, if_neg h32, if_neg h37])
          · intro h37
            refine zs_pushI (ip' := 39) rfl rfl zi_k104 ?_
            refine zs_goto (t := 41) rfl ?_
            refine zW_0 rfl ?_
            exact zfin (by unfold sSign; rw [if_neg (by omega), if_neg (by omega), if_neg h27, if_neg h32, if_pos h37])
        · intro h32
          refine zs_pushI (ip' := 34) rfl rfl zi_k119 ?_
          refine zs_goto (t := 41) rfl ?_
          refine zW_0 rfl ?_
          exact zfin (by unfold sSign; rw [if_neg (by omega), if_neg (by omega), if_neg h27, if_pos h32])
      · intro h27
        refine zs_pushI (ip' := 29) rfl rfl zi_k102 ?_
        refine zs_goto (t := 41) rfl ?_
        refine zW_0 rfl ?_
        exact zfin (by unfold sSign; rw [if_neg (by omega), if_neg (by omega), if_pos h27])
    · intro h23
      refine zs_pushI (ip' := 25) rfl rfl zi_k42 ?_
      refine zW_0 rfl ?_
      exact zfin (by unfold sSign; rw [if_neg (by omega), if_pos h23])
  · intro h13
    refine zs_pushI (ip' := 15) rfl rfl zi_k48 ?_
    refine zs_iload (ip' := 16) rfl rfl rfl ?_
    refine zs_iadd (ip' := 17) rfl rfl ?_
    refine zW_0 rfl ?_
    exact zfin (by unfold sSign; rw [if_pos h13])
