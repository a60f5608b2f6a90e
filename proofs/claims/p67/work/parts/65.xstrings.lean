/-! The program: its texts (printed by wip/whole/src65.py). -/
/-- the letters of the program's texts -/
def zSc (i : Nat) (j : Int) : Int := ((zSb.getD i []).getD j.toNat 0).toInt
theorem zSc_tab : ∀ i, i < 10 → ∀ j, j < 45 → j < zSl.getD i 0 → ((((zSb.getD i []).getD j 0 &&& 255).toUInt32 % 65536).toInt32 = (zSb.getD i []).getD j 0 ∧ vp_nar .char ((zSb.getD i []).getD j 0) = (zSb.getD i []).getD j 0) ∧ 0 ≤ ((zSb.getD i []).getD j 0).toInt ∧ ((zSb.getD i []).getD j 0).toInt ≤ 127 := by decide +kernel
theorem zSc_i2c {i : Nat} {j : Int} (hi : i < 10) {ln : Nat} (hl : zSl.getD i 0 = ln) (hj : 0 ≤ j ∧ j < ln) (h45 : ln ≤ 45) : ((zi (zand (zSc i j) 255)).toUInt32 % 65536).toInt32 = zi (zSc i j) := by
  have h := (zSc_tab i hi j.toNat (by omega) (by omega)).1.1
  unfold zSc zand
  rw [zi_of, zi_of, zi_k255]
  exact h
theorem zSc_chr {i : Nat} {j : Int} (hi : i < 10) {ln : Nat} (hl : zSl.getD i 0 = ln) (hj : 0 ≤ j ∧ j < ln) (h45 : ln ≤ 45) : vp_nar .char (zi (zSc i j)) = zi (zSc i j) := by
  have h := (zSc_tab i hi j.toNat (by omega) (by omega)).1.2
  unfold zSc
  rw [zi_of]
  exact h
theorem zSc_rng {i : Nat} {j : Int} (hi : i < 10) {ln : Nat} (hl : zSl.getD i 0 = ln) (hj : 0 ≤ j ∧ j < ln) (h45 : ln ≤ 45) : 0 ≤ zSc i j ∧ zSc i j ≤ 127 := (zSc_tab i hi j.toNat (by omega) (by omega)).2
section ZJ
variable {N y ip ip' : Nat} {L st : List Value} {G F : GM} {n : Nat} {Q : Zq}
theorem zs_sval {k : Nat} (ht : ztab N y ip = some (.inl i_sval)) (hip : ip + 1 = ip') (hk : 320 ≤ k ∧ k < 330) (k' : zW N y ip' L (.ref (k + 20) :: st) G F n Q) : zW N y ip L (.ref k :: st) G F n Q :=
  zW_s ht (by subst hip; show (if _ then _ else _) = _; rw [if_pos hk]) id id k'
theorem zs_scoder {k : Nat} (ht : ztab N y ip = some (.inl i_scoder)) (hip : ip + 1 = ip') (hk : 320 ≤ k ∧ k < 330) (k' : zW N y ip' L (.int (zi 0) :: st) G F n Q) : zW N y ip L (.ref k :: st) G F n Q :=
  zW_s ht (by subst hip; show (if _ then _ else _) = _; rw [if_pos hk, zi_k0]) id id k'
theorem zs_salen {k ln : Nat} (ht : ztab N y ip = some (.inl i_salen)) (hip : ip + 1 = ip') (hk : 340 ≤ k ∧ k < 350) (hl : zSl.getD (k - 340) 0 = ln) (k' : zW N y ip' L (.int (zi (ln : Int)) :: st) G F n Q) : zW N y ip L (.ref k :: st) G F n Q :=
  zW_s ht (by subst hip; show (if 340 ≤ k ∧ k < 350 then some (ip + 1, L, Value.int (Int32.ofNat (zSl.getD (k - 340) 0)) :: st, mM G F n) else none) = _; rw [if_pos hk, hl, zi_nI]; rfl) id id k'
theorem zs_sbald {k i9 ln : Nat} {j : Int} (ht : ztab N y ip = some (.inl i_sbald)) (hip : ip + 1 = ip') (hk : 340 ≤ k ∧ k < 350) (h9 : k - 340 = i9) (hl : zSl.getD i9 0 = ln) (hj : 0 ≤ j ∧ j < ln) (h45 : ln ≤ 45) (k' : zW N y ip' L (.int (zi (zSc i9 j)) :: st) G F n Q) : zW N y ip L (.int (zi j) :: .ref k :: st) G F n Q := by
  refine zW_s ht ?_ id id k'
  subst hip
  show (if 340 ≤ k ∧ k < 350 then (if zi j < 0 ∨ zSl.getD (k - 340) 0 ≤ (zi j).toNatClampNeg then none else some (ip + 1, L, .int ((zSb.getD (k - 340) []).getD (zi j).toNatClampNeg 0) :: st, mM G F n)) else none) = _
  rw [if_pos hk, h9, hl, if_neg (zi_ix ⟨hj.1, hj.2, by omega⟩), zi_n ⟨by omega, by omega⟩]
  unfold zSc
  rw [zi_of]
theorem zs_cki {j ln : Int} (ht : ztab N y ip = some (.inl i_cki)) (hip : ip + 3 = ip') (hj : 0 ≤ j ∧ j < ln ∧ ln ≤ 1000) (hst : Nat.ble st.length 4 = true) (k' : zW N y ip' L st G F n Q) : zW N y ip L (.int (zi ln) :: .int (zi j) :: st) G F n Q := by
  refine zW_s ht ?_ id id k'
  subst hip
  have h4 := Nat.le_of_ble_eq_true hst
  show (if zi j < 0 ∨ ¬ zi j < zi ln ∨ 4 < st.length then none else some (ip + 3, L, st, mM G F n)) = _
  rw [if_neg]
  rintro (q | q | q)
  · rw [show (0 : Int32) = zi 0 from zi_k0.symm, zi_lt ⟨by omega, by omega⟩ ⟨by omega, by omega⟩] at q
    omega
  · exact q ((zi_lt ⟨by omega, by omega⟩ ⟨by omega, by omega⟩).mpr hj.2.1)
  · omega
theorem zs_i2c {x v : Int} (ht : ztab N y ip = some (.inl i_i2c)) (hip : ip + 1 = ip') (h : ((zi x).toUInt32 % 65536).toInt32 = zi v) (k' : zW N y ip' L (.int (zi v) :: st) G F n Q) : zW N y ip L (.int (zi x) :: st) G F n Q :=
  zW_s ht (by subst hip; show some (ip + 1, L, Value.int (((zi x).toUInt32 % 65536).toInt32) :: st, mM G F n) = _; rw [h]) id id k'
theorem zW_0c {m : Nat} {v : Int} (ht : ztab N y ip = some (.inr (0, 5, m))) (hv : vp_nar .char (zi v) = zi v) (k : Q (.inl (some (.int (zi v)))) G F n) : zW N y ip L [.int (zi v)] G F n Q := by
  intro h1 h2
  refine ⟨1, _, G, F, n, ?_, h1, h2, k⟩
  rw [z_run_0 N (ztab N) znl zc2 zcl zhnd ht]
  show some ((Sum.inl (some (Value.int (vp_nar .char (zi v)))), mM G F n) : Res) = _
  rw [hv]
end ZJ
theorem zshr_0 : ∀ ln : Nat, ln < 46 → zshr (ln : Int) 0 = (ln : Int) := by decide +kernel
theorem zJ_cki {N : Nat} {G F : GM} {n : Nat} {j l : Int} (hj : 0 ≤ j ∧ j < l ∧ l ≤ 1000) : zC N 284 [.int (zi j), .int (zi l)] G F n (zV fun G' F' n' => G' = G ∧ F' = F ∧ n' = n) := by
  refine zC_i (L0 := [.int (zi j), .int (zi l)]) rfl ?_
  refine zs_iload (ip' := 1) rfl rfl rfl ?_
  refine zs_iload (ip' := 2) rfl rfl rfl ?_
  refine zs_cki (ip' := 5) rfl rfl (by omega) rfl ?_
  refine zW_1 rfl ?_
  exact ⟨rfl, rfl, rfl, rfl⟩
theorem zJ_cod_0 {N : Nat} {G F : GM} {n : Nat}  : zPu N 282 [.ref 320] 0 G F n := by
  refine zPu_i (L0 := [.ref 320]) rfl ?_
  refine zs_pushI (ip' := 1) rfl rfl zi_k1 ?_
  refine zs_if_eq (t := 5) (ip' := 2) rfl rfl (by omega) ?_ ?_
  · intro h1
    exact absurd h1 (by decide)
  · intro h1
    refine zs_aload (ip' := 3) rfl rfl rfl ?_
    refine zs_scoder (ip' := 4) rfl rfl (by decide) ?_
    refine zs_goto (t := 6) rfl ?_
    refine zW_0y rfl (by omega) ?_
    exact zfin rfl
theorem zJ_lat_0 {N : Nat} {G F : GM} {n : Nat}  : zPu N 283 [.ref 320] 1 G F n := by
  refine zPu_i (L0 := [.ref 320]) rfl ?_
  refine zs_pushI (ip' := 1) rfl rfl zi_k1 ?_
  refine zs_if_eq (t := 7) (ip' := 2) rfl rfl (by omega) ?_ ?_
  · intro h1
    exact absurd h1 (by decide)
  · intro h1
    refine zs_aload (ip' := 3) rfl rfl rfl ?_
    refine zs_scoder (ip' := 4) rfl rfl (by decide) ?_
    refine zs_if_ne (t := 7) (ip' := 5) rfl rfl (by omega) ?_ ?_
    · intro h4
      exact absurd h4 (by decide)
    · intro h4
      refine zs_pushI (ip' := 6) rfl rfl zi_k1 ?_
      refine zs_goto (t := 8) rfl ?_
      refine zW_0b rfl (Or.inr rfl) ?_
      exact zfin rfl
theorem zJ_len_0 {N : Nat} {G F : GM} {n : Nat}  : zPu N 280 [.ref 320] 45 G F n := by
  refine zPu_i (L0 := [.ref 320]) rfl ?_
  refine zs_aload (ip' := 1) rfl rfl rfl ?_
  refine zs_sval (ip' := 2) rfl rfl (by decide) ?_
  refine zs_salen (ip' := 3) rfl rfl (by decide) (ln := 45) rfl ?_
  refine zs_aload (ip' := 4) rfl rfl rfl ?_
  refine zW_cP (ip' := 5) rfl rfl zJ_cod_0 rfl rfl rfl ?_
  refine zs_ishr (ip' := 6) rfl rfl ?_
  refine zW_0 rfl ?_
  exact zfin (zshr_0 45 (by decide))
theorem zJ_chb_0 {N : Nat} {G F : GM} {n : Nat} {j : Int} (hj : 0 ≤ j ∧ j < 45) : zPu N 285 [.ref 340, .int (zi j)] (zSc 0 j) G F n := by
  refine zPu_i (L0 := [.ref 340, .int (zi j)]) rfl ?_
  refine zs_iload (ip' := 1) rfl rfl rfl ?_
  refine zs_aload (ip' := 2) rfl rfl rfl ?_
  refine zs_salen (ip' := 3) rfl rfl (by decide) (ln := 45) rfl ?_
  refine zW_cV (ip' := 4) rfl rfl (zJ_cki (l := ((45 : Nat) : Int)) (by omega)) rfl rfl rfl ?_
  rintro G' F' n' ⟨rfl, rfl, rfl⟩
  refine zs_aload (ip' := 5) rfl rfl rfl ?_
  refine zs_iload (ip' := 6) rfl rfl rfl ?_
  refine zs_sbald (ip' := 7) rfl rfl (by decide) (i9 := 0) rfl (ln := 45) rfl (by omega) (by decide) ?_
  refine zs_pushI (ip' := 8) rfl rfl zi_k255 ?_
  refine zs_iand (ip' := 9) rfl rfl ?_
  refine zs_i2c (ip' := 10) rfl rfl (zSc_i2c (i := 0) (ln := 45) (by decide) rfl hj (by decide)) ?_
  refine zW_0c rfl (zSc_chr (i := 0) (ln := 45) (by decide) rfl hj (by decide)) ?_
  exact zfin rfl
theorem zJ_chr_0 {N : Nat} {G F : GM} {n : Nat} {j : Int} (hj : 0 ≤ j ∧ j < 45) : zPu N 281 [.ref 320, .int (zi j)] (zSc 0 j) G F n := by
  refine zPu_i (L0 := [.ref 320, .int (zi j)]) rfl ?_
  refine zs_aload (ip' := 1) rfl rfl rfl ?_
  refine zW_cP (ip' := 2) rfl rfl zJ_lat_0 rfl rfl rfl ?_
  refine zs_if_eq (t := 8) (ip' := 3) rfl rfl (by omega) ?_ ?_
  · intro h2
    exact absurd h2 (by decide)
  · intro h2
    refine zs_aload (ip' := 4) rfl rfl rfl ?_
    refine zs_sval (ip' := 5) rfl rfl (by decide) ?_
    refine zs_iload (ip' := 6) rfl rfl rfl ?_
    refine zW_cP (ip' := 7) rfl rfl (zJ_chb_0 hj) rfl rfl rfl ?_
    refine zW_0c rfl (zSc_chr (i := 0) (ln := 45) (by decide) rfl hj (by decide)) ?_
    exact zfin rfl
theorem zJ_cod_1 {N : Nat} {G F : GM} {n : Nat}  : zPu N 282 [.ref 321] 0 G F n := by
  refine zPu_i (L0 := [.ref 321]) rfl ?_
  refine zs_pushI (ip' := 1) rfl rfl zi_k1 ?_
  refine zs_if_eq (t := 5) (ip' := 2) rfl rfl (by omega) ?_ ?_
  · intro h1
    exact absurd h1 (by decide)
  · intro h1
    refine zs_aload (ip' := 3) rfl rfl rfl ?_
    refine zs_scoder (ip' := 4) rfl rfl (by decide) ?_
    refine zs_goto (t := 6) rfl ?_
    refine zW_0y rfl (by omega) ?_
    exact zfin rfl
theorem zJ_lat_1 {N : Nat} {G F : GM} {n : Nat}  : zPu N 283 [.ref 321] 1 G F n := by
  refine zPu_i (L0 := [.ref 321]) rfl ?_
  refine zs_pushI (ip' := 1) rfl rfl zi_k1 ?_
  refine zs_if_eq (t := 7) (ip' := 2) rfl rfl (by omega) ?_ ?_
  · intro h1
    exact absurd h1 (by decide)
  · intro h1
    refine zs_aload (ip' := 3) rfl rfl rfl ?_
    refine zs_scoder (ip' := 4) rfl rfl (by decide) ?_
    refine zs_if_ne (t := 7) (ip' := 5) rfl rfl (by omega) ?_ ?_
    · intro h4
      exact absurd h4 (by decide)
    · intro h4
      refine zs_pushI (ip' := 6) rfl rfl zi_k1 ?_
      refine zs_goto (t := 8) rfl ?_
      refine zW_0b rfl (Or.inr rfl) ?_
      exact zfin rfl
theorem zJ_len_1 {N : Nat} {G F : GM} {n : Nat}  : zPu N 280 [.ref 321] 5 G F n := by
  refine zPu_i (L0 := [.ref 321]) rfl ?_
  refine zs_aload (ip' := 1) rfl rfl rfl ?_
  refine zs_sval (ip' := 2) rfl rfl (by decide) ?_
  refine zs_salen (ip' := 3) rfl rfl (by decide) (ln := 5) rfl ?_
  refine zs_aload (ip' := 4) rfl rfl rfl ?_
  refine zW_cP (ip' := 5) rfl rfl zJ_cod_1 rfl rfl rfl ?_
  refine zs_ishr (ip' := 6) rfl rfl ?_
  refine zW_0 rfl ?_
  exact zfin (zshr_0 5 (by decide))
theorem zJ_chb_1 {N : Nat} {G F : GM} {n : Nat} {j : Int} (hj : 0 ≤ j ∧ j < 5) : zPu N 285 [.ref 341, .int (zi j)] (zSc 1 j) G F n := by
  refine zPu_i (L0 := [.ref 341, .int (zi j)]) rfl ?_
  refine zs_iload (ip' := 1) rfl rfl rfl ?_
  refine zs_aload (ip' := 2) rfl rfl rfl ?_
  refine zs_salen (ip' := 3) rfl rfl (by decide) (ln := 5) rfl ?_
  refine zW_cV (ip' := 4) rfl rfl (zJ_cki (l := ((5 : Nat) : Int)) (by omega)) rfl rfl rfl ?_
  rintro G' F' n' ⟨rfl, rfl, rfl⟩
  refine zs_aload (ip' := 5) rfl rfl rfl ?_
  refine zs_iload (ip' := 6) rfl rfl rfl ?_
  refine zs_sbald (ip' := 7) rfl rfl (by decide) (i9 := 1) rfl (ln := 5) rfl (by omega) (by decide) ?_
  refine zs_pushI (ip' := 8) rfl rfl zi_k255 ?_
  refine zs_iand (ip' := 9) rfl rfl ?_
  refine zs_i2c (ip' := 10) rfl rfl (zSc_i2c (i := 1) (ln := 5) (by decide) rfl hj (by decide)) ?_
  refine zW_0c rfl (zSc_chr (i := 1) (ln := 5) (by decide) rfl hj (by decide)) ?_
  exact zfin rfl
theorem zJ_chr_1 {N : Nat} {G F : GM} {n : Nat} {j : Int} (hj : 0 ≤ j ∧ j < 5) : zPu N 281 [.ref 321, .int (zi j)] (zSc 1 j) G F n := by
  refine zPu_i (L0 := [.ref 321, .int (zi j)]) rfl ?_
  refine zs_aload (ip' := 1) rfl rfl rfl ?_
  refine zW_cP (ip' := 2) rfl rfl zJ_lat_1 rfl rfl rfl ?_
  refine zs_if_eq (t := 8) (ip' := 3) rfl rfl (by omega) ?_ ?_
  · intro h2
    exact absurd h2 (by decide)
  · intro h2
    refine zs_aload (ip' := 4) rfl rfl rfl ?_
    refine zs_sval (ip' := 5) rfl rfl (by decide) ?_
    refine zs_iload (ip' := 6) rfl rfl rfl ?_
    refine zW_cP (ip' := 7) rfl rfl (zJ_chb_1 hj) rfl rfl rfl ?_
    refine zW_0c rfl (zSc_chr (i := 1) (ln := 5) (by decide) rfl hj (by decide)) ?_
    exact zfin rfl
theorem zJ_cod_2 {N : Nat} {G F : GM} {n : Nat}  : zPu N 282 [.ref 322] 0 G F n := by
  refine zPu_i (L0 := [.ref 322]) rfl ?_
  refine zs_pushI (ip' := 1) rfl rfl zi_k1 ?_
  refine zs_if_eq (t := 5) (ip' := 2) rfl rfl (by omega) ?_ ?_
  · intro h1
    exact absurd h1 (by decide)
  · intro h1
    refine zs_aload (ip' := 3) rfl rfl rfl ?_
    refine zs_scoder (ip' := 4) rfl rfl (by decide) ?_
    refine zs_goto (t := 6) rfl ?_
    refine zW_0y rfl (by omega) ?_
    exact zfin rfl
theorem zJ_lat_2 {N : Nat} {G F : GM} {n : Nat}  : zPu N 283 [.ref 322] 1 G F n := by
  refine zPu_i (L0 := [.ref 322]) rfl ?_
  refine zs_pushI (ip' := 1) rfl rfl zi_k1 ?_
  refine zs_if_eq (t := 7) (ip' := 2) rfl rfl (by omega) ?_ ?_
  · intro h1
    exact absurd h1 (by decide)
  · intro h1
    refine zs_aload (ip' := 3) rfl rfl rfl ?_
    refine zs_scoder (ip' := 4) rfl rfl (by decide) ?_
    refine zs_if_ne (t := 7) (ip' := 5) rfl rfl (by omega) ?_ ?_
    · intro h4
      exact absurd h4 (by decide)
    · intro h4
      refine zs_pushI (ip' := 6) rfl rfl zi_k1 ?_
      refine zs_goto (t := 8) rfl ?_
      refine zW_0b rfl (Or.inr rfl) ?_
      exact zfin rfl
theorem zJ_len_2 {N : Nat} {G F : GM} {n : Nat}  : zPu N 280 [.ref 322] 5 G F n := by
  refine zPu_i (L0 := [.ref 322]) rfl ?_
  refine zs_aload (ip' := 1) rfl rfl rfl ?_
  refine zs_sval (ip' := 2) rfl rfl (by decide) ?_
  refine zs_salen (ip' := 3) rfl rfl (by decide) (ln := 5) rfl ?_
  refine zs_aload (ip' := 4) rfl rfl rfl ?_
  refine zW_cP (ip' := 5) rfl rfl zJ_cod_2 rfl rfl rfl ?_
  refine zs_ishr (ip' := 6) rfl rfl ?_
  refine zW_0 rfl ?_
  exact zfin (zshr_0 5 (by decide))
theorem zJ_chb_2 {N : Nat} {G F : GM} {n : Nat} {j : Int} (hj : 0 ≤ j ∧ j < 5) : zPu N 285 [.ref 342, .int (zi j)] (zSc 2 j) G F n := by
  refine zPu_i (L0 := [.ref 342, .int (zi j)]) rfl ?_
  refine zs_iload (ip' := 1) rfl rfl rfl ?_
  refine zs_aload (ip' := 2) rfl rfl rfl ?_
  refine zs_salen (ip' := 3) rfl rfl (by decide) (ln := 5) rfl ?_
  refine zW_cV (ip' := 4) rfl rfl (zJ_cki (l := ((5 : Nat) : Int)) (by omega)) rfl rfl rfl ?_
  rintro G' F' n' ⟨rfl, rfl, rfl⟩
  refine zs_aload (ip' := 5) rfl rfl rfl ?_
  refine zs_iload (ip' := 6) rfl rfl rfl ?_
  refine zs_sbald (ip' := 7) rfl rfl (by decide) (i9 := 2) rfl (ln := 5) rfl (by omega) (by decide) ?_
  refine zs_pushI (ip' := 8) rfl rfl zi_k255 ?_
  refine zs_iand (ip' := 9) rfl rfl ?_
  refine zs_i2c (ip' := 10) rfl rfl (zSc_i2c (i := 2) (ln := 5) (by decide) rfl hj (by decide)) ?_
  refine zW_0c rfl (zSc_chr (i := 2) (ln := 5) (by decide) rfl hj (by decide)) ?_
  exact zfin rfl
theorem zJ_chr_2 {N : Nat} {G F : GM} {n : Nat} {j : Int} (hj : 0 ≤ j ∧ j < 5) : zPu N 281 [.ref 322, .int (zi j)] (zSc 2 j) G F n := by
  refine zPu_i (L0 := [.ref 322, .int (zi j)]) rfl ?_
  refine zs_aload (ip' := 1) rfl rfl rfl ?_
  refine zW_cP (ip' := 2) rfl rfl zJ_lat_2 rfl rfl rfl ?_
  refine zs_if_eq (t := 8) (ip' := 3) rfl rfl (by omega) ?_ ?_
  · intro h2
    exact absurd h2 (by decide)
  · intro h2
    refine zs_aload (ip' := 4) rfl rfl rfl ?_
    refine zs_sval (ip' := 5) rfl rfl (by decide) ?_
    refine zs_iload (ip' := 6) rfl rfl rfl ?_
    refine zW_cP (ip' := 7) rfl rfl (zJ_chb_2 hj) rfl rfl rfl ?_
    refine zW_0c rfl (zSc_chr (i := 2) (ln := 5) (by decide) rfl hj (by decide)) ?_
    exact zfin rfl
theorem zJ_cod_3 {N : Nat} {G F : GM} {n : Nat}  : zPu N 282 [.ref 323] 0 G F n := by
  refine zPu_i (L0 := [.ref 323]) rfl ?_
  refine zs_pushI (ip' := 1) rfl rfl zi_k1 ?_
  refine zs_if_eq (t := 5) (ip' := 2) rfl rfl (by omega) ?_ ?_
  · intro h1
    exact absurd h1 (by decide)
  · intro h1
    refine zs_aload (ip' := 3) rfl rfl rfl ?_
    refine zs_scoder (ip' := 4) rfl rfl (by decide) ?_
    refine zs_goto (t := 6) rfl ?_
    refine zW_0y rfl (by omega) ?_
    exact zfin rfl
theorem zJ_lat_3 {N : Nat} {G F : GM} {n : Nat}  : zPu N 283 [.ref 323] 1 G F n := by
  refine zPu_i (L0 := [.ref 323]) rfl ?_
  refine zs_pushI (ip' := 1) rfl rfl zi_k1 ?_
  refine zs_if_eq (t := 7) (ip' := 2) rfl rfl (by omega) ?_ ?_
  · intro h1
    exact absurd h1 (by decide)
  · intro h1
    refine zs_aload (ip' := 3) rfl rfl rfl ?_
    refine zs_scoder (ip' := 4) rfl rfl (by decide) ?_
    refine zs_if_ne (t := 7) (ip' := 5) rfl rfl (by omega) ?_ ?_
    · intro h4
      exact absurd h4 (by decide)
    · intro h4
      refine zs_pushI (ip' := 6) rfl rfl zi_k1 ?_
      refine zs_goto (t := 8) rfl ?_
      refine zW_0b rfl (Or.inr rfl) ?_
      exact zfin rfl
theorem zJ_len_3 {N : Nat} {G F : GM} {n : Nat}  : zPu N 280 [.ref 323] 3 G F n := by
  refine zPu_i (L0 := [.ref 323]) rfl ?_
  refine zs_aload (ip' := 1) rfl rfl rfl ?_
  refine zs_sval (ip' := 2) rfl rfl (by decide) ?_
  refine zs_salen (ip' := 3) rfl rfl (by decide) (ln := 3) rfl ?_
  refine zs_aload (ip' := 4) rfl rfl rfl ?_
  refine zW_cP (ip' := 5) rfl rfl zJ_cod_3 rfl rfl rfl ?_
  refine zs_ishr (ip' := 6) rfl rfl ?_
  refine zW_0 rfl ?_
  exact zfin (zshr_0 3 (by decide))
theorem zJ_chb_3 {N : Nat} {G F : GM} {n : Nat} {j : Int} (hj : 0 ≤ j ∧ j < 3) : zPu N 285 [.ref 343, .int (zi j)] (zSc 3 j) G F n := by
  refine zPu_i (L0 := [.ref 343, .int (zi j)]) rfl ?_
  refine zs_iload (ip' := 1) rfl rfl rfl ?_
  refine zs_aload (ip' := 2) rfl rfl rfl ?_
  refine zs_salen (ip' := 3) rfl rfl (by decide) (ln := 3) rfl ?_
  refine zW_cV (ip' := 4) rfl rfl (zJ_cki (l := ((3 : Nat) : Int)) (by omega)) rfl rfl rfl ?_
  rintro G' F' n' ⟨rfl, rfl, rfl⟩
  refine zs_aload (ip' := 5) rfl rfl rfl ?_
  refine zs_iload (ip' := 6) rfl rfl rfl ?_
  refine zs_sbald (ip' := 7) rfl rfl (by decide) (i9 := 3) rfl (ln := 3) rfl (by omega) (by decide) ?_
  refine zs_pushI (ip' := 8) rfl rfl zi_k255 ?_
  refine zs_iand (ip' := 9) rfl rfl ?_
  refine zs_i2c (ip' := 10) rfl rfl (zSc_i2c (i := 3) (ln := 3) (by decide) rfl hj (by decide)) ?_
  refine zW_0c rfl (zSc_chr (i := 3) (ln := 3) (by decide) rfl hj (by decide)) ?_
  exact zfin rfl
theorem zJ_chr_3 {N : Nat} {G F : GM} {n : Nat} {j : Int} (hj : 0 ≤ j ∧ j < 3) : zPu N 281 [.ref 323, .int (zi j)] (zSc 3 j) G F n := by
  refine zPu_i (L0 := [.ref 323, .int (zi j)]) rfl ?_
  refine zs_aload (ip' := 1) rfl rfl rfl ?_
  refine zW_cP (ip' := 2) rfl rfl zJ_lat_3 rfl rfl rfl ?_
  refine zs_if_eq (t := 8) (ip' := 3) rfl rfl (by omega) ?_ ?_
  · intro h2
    exact absurd h2 (by decide)
  · intro h2
    refine zs_aload (ip' := 4) rfl rfl rfl ?_
    refine zs_sval (ip' := 5) rfl rfl (by decide) ?_
    refine zs_iload (ip' := 6) rfl rfl rfl ?_
    refine zW_cP (ip' := 7) rfl rfl (zJ_chb_3 hj) rfl rfl rfl ?_
    refine zW_0c rfl (zSc_chr (i := 3) (ln := 3) (by decide) rfl hj (by decide)) ?_
    exact zfin rfl
theorem zJ_cod_4 {N : Nat} {G F : GM} {n : Nat}  : zPu N 282 [.ref 324] 0 G F n := by
  refine zPu_i (L0 := [.ref 324]) rfl ?_
  refine zs_pushI (ip' := 1) rfl rfl zi_k1 ?_
  refine zs_if_eq (t := 5) (ip' := 2) rfl rfl (by omega) ?_ ?_
  · intro h1
    exact absurd h1 (by decide)
  · intro h1
    refine zs_aload (ip' := 3) rfl rfl rfl ?_
    refine zs_scoder (ip' := 4) rfl rfl (by decide) ?_
    refine zs_goto (t := 6) rfl ?_
    refine zW_0y rfl (by omega) ?_
    exact zfin rfl
theorem zJ_lat_4 {N : Nat} {G F : GM} {n : Nat}  : zPu N 283 [.ref 324] 1 G F n := by
  refine zPu_i (L0 := [.ref 324]) rfl ?_
  refine zs_pushI (ip' := 1) rfl rfl zi_k1 ?_
  refine zs_if_eq (t := 7) (ip' := 2) rfl rfl (by omega) ?_ ?_
  · intro h1
    exact absurd h1 (by decide)
  · intro h1
    refine zs_aload (ip' := 3) rfl rfl rfl ?_
    refine zs_scoder (ip' := 4) rfl rfl (by decide) ?_
    refine zs_if_ne (t := 7) (ip' := 5) rfl rfl (by omega) ?_ ?_
    · intro h4
      exact absurd h4 (by decide)
    · intro h4
      refine zs_pushI (ip' := 6) rfl rfl zi_k1 ?_
      refine zs_goto (t := 8) rfl ?_
      refine zW_0b rfl (Or.inr rfl) ?_
      exact zfin rfl
theorem zJ_len_4 {N : Nat} {G F : GM} {n : Nat}  : zPu N 280 [.ref 324] 3 G F n := by
  refine zPu_i (L0 := [.ref 324]) rfl ?_
  refine zs_aload (ip' := 1) rfl rfl rfl ?_
  refine zs_sval (ip' := 2) rfl rfl (by decide) ?_
  refine zs_salen (ip' := 3) rfl rfl (by decide) (ln := 3) rfl ?_
  refine zs_aload (ip' := 4) rfl rfl rfl ?_
  refine zW_cP (ip' := 5) rfl rfl zJ_cod_4 rfl rfl rfl ?_
  refine zs_ishr (ip' := 6) rfl rfl ?_
  refine zW_0 rfl ?_
  exact zfin (zshr_0 3 (by decide))
theorem zJ_chb_4 {N : Nat} {G F : GM} {n : Nat} {j : Int} (hj : 0 ≤ j ∧ j < 3) : zPu N 285 [.ref 344, .int (zi j)] (zSc 4 j) G F n := by
  refine zPu_i (L0 := [.ref 344, .int (zi j)]) rfl ?_
  refine zs_iload (ip' := 1) rfl rfl rfl ?_
  refine zs_aload (ip' := 2) rfl rfl rfl ?_
  refine zs_salen (ip' := 3) rfl rfl (by decide) (ln := 3) rfl ?_
  refine zW_cV (ip' := 4) rfl rfl (zJ_cki (l := ((3 : Nat) : Int)) (by omega)) rfl rfl rfl ?_
  rintro G' F' n' ⟨rfl, rfl, rfl⟩
  refine zs_aload (ip' := 5) rfl rfl rfl ?_
  refine zs_iload (ip' := 6) rfl rfl rfl ?_
  refine zs_sbald (ip' := 7) rfl rfl (by decide) (i9 := 4) rfl (ln := 3) rfl (by omega) (by decide) ?_
  refine zs_pushI (ip' := 8) rfl rfl zi_k255 ?_
  refine zs_iand (ip' := 9) rfl rfl ?_
  refine zs_i2c (ip' := 10) rfl rfl (zSc_i2c (i := 4) (ln := 3) (by decide) rfl hj (by decide)) ?_
  refine zW_0c rfl (zSc_chr (i := 4) (ln := 3) (by decide) rfl hj (by decide)) ?_
  exact zfin rfl
theorem zJ_chr_4 {N : Nat} {G F : GM} {n : Nat} {j : Int} (hj : 0 ≤ j ∧ j < 3) : zPu N 281 [.ref 324, .int (zi j)] (zSc 4 j) G F n := by
  refine zPu_i (L0 := [.ref 324, .int (zi j)]) rfl ?_
  refine zs_aload (ip' := 1) rfl rfl rfl ?_
  refine zW_cP (ip' := 2) rfl rfl zJ_lat_4 rfl rfl rfl ?_
  refine zs_if_eq (t := 8) (ip' := 3) rfl rfl (by omega) ?_ ?_
  · intro h2
    exact absurd h2 (by decide)
  · intro h2
    refine zs_aload (ip' := 4) rfl rfl rfl ?_
    refine zs_sval (ip' := 5) rfl rfl (by decide) ?_
    refine zs_iload (ip' := 6) rfl rfl rfl ?_
    refine zW_cP (ip' := 7) rfl rfl (zJ_chb_4 hj) rfl rfl rfl ?_
    refine zW_0c rfl (zSc_chr (i := 4) (ln := 3) (by decide) rfl hj (by decide)) ?_
    exact zfin rfl
theorem zJ_cod_5 {N : Nat} {G F : GM} {n : Nat}  : zPu N 282 [.ref 325] 0 G F n := by
  refine zPu_i (L0 := [.ref 325]) rfl ?_
  refine zs_pushI (ip' := 1) rfl rfl zi_k1 ?_
  refine zs_if_eq (t := 5) (ip' := 2) rfl rfl (by omega) ?_ ?_
  · intro h1
    exact absurd h1 (by decide)
  · intro h1
    refine zs_aload (ip' := 3) rfl rfl rfl ?_
    refine zs_scoder (ip' := 4) rfl rfl (by decide) ?_
    refine zs_goto (t := 6) rfl ?_
    refine zW_0y rfl (by omega) ?_
    exact zfin rfl
theorem zJ_lat_5 {N : Nat} {G F : GM} {n : Nat}  : zPu N 283 [.ref 325] 1 G F n := by
  refine zPu_i (L0 := [.ref 325]) rfl ?_
  refine zs_pushI (ip' := 1) rfl rfl zi_k1 ?_
  refine zs_if_eq (t := 7) (ip' := 2) rfl rfl (by omega) ?_ ?_
  · intro h1
    exact absurd h1 (by decide)
  · intro h1
    refine zs_aload (ip' := 3) rfl rfl rfl ?_
    refine zs_scoder (ip' := 4) rfl rfl (by decide) ?_
    refine zs_if_ne (t := 7) (ip' := 5) rfl rfl (by omega) ?_ ?_
    · intro h4
      exact absurd h4 (by decide)
    · intro h4
      refine zs_pushI (ip' := 6) rfl rfl zi_k1 ?_
      refine zs_goto (t := 8) rfl ?_
      refine zW_0b rfl (Or.inr rfl) ?_
      exact zfin rfl
theorem zJ_len_5 {N : Nat} {G F : GM} {n : Nat}  : zPu N 280 [.ref 325] 5 G F n := by
  refine zPu_i (L0 := [.ref 325]) rfl ?_
  refine zs_aload (ip' := 1) rfl rfl rfl ?_
  refine zs_sval (ip' := 2) rfl rfl (by decide) ?_
  refine zs_salen (ip' := 3) rfl rfl (by decide) (ln := 5) rfl ?_
  refine zs_aload (ip' := 4) rfl rfl rfl ?_
  refine zW_cP (ip' := 5) rfl rfl zJ_cod_5 rfl rfl rfl ?_
  refine zs_ishr (ip' := 6) rfl rfl ?_
  refine zW_0 rfl ?_
  exact zfin (zshr_0 5 (by decide))
theorem zJ_chb_5 {N : Nat} {G F : GM} {n : Nat} {j : Int} (hj : 0 ≤ j ∧ j < 5) : zPu N 285 [.ref 345, .int (zi j)] (zSc 5 j) G F n := by
  refine zPu_i (L0 := [.ref 345, .int (zi j)]) rfl ?_
  refine zs_iload (ip' := 1) rfl rfl rfl ?_
  refine zs_aload (ip' := 2) rfl rfl rfl ?_
  refine zs_salen (ip' := 3) rfl rfl (by decide) (ln := 5) rfl ?_
  refine zW_cV (ip' := 4) rfl rfl (zJ_cki (l := ((5 : Nat) : Int)) (by omega)) rfl rfl rfl ?_
  rintro G' F' n' ⟨rfl, rfl, rfl⟩
  refine zs_aload (ip' := 5) rfl rfl rfl ?_
  refine zs_iload (ip' := 6) rfl rfl rfl ?_
  refine zs_sbald (ip' := 7) rfl rfl (by decide) (i9 := 5) rfl (ln := 5) rfl (by omega) (by decide) ?_
  refine zs_pushI (ip' := 8) rfl rfl zi_k255 ?_
  refine zs_iand (ip' := 9) rfl rfl ?_
  refine zs_i2c (ip' := 10) rfl rfl (zSc_i2c (i := 5) (ln := 5) (by decide) rfl hj (by decide)) ?_
  refine zW_0c rfl (zSc_chr (i := 5) (ln := 5) (by decide) rfl hj (by decide)) ?_
  exact zfin rfl
theorem zJ_chr_5 {N : Nat} {G F : GM} {n : Nat} {j : Int} (hj : 0 ≤ j ∧ j < 5) : zPu N 281 [.ref 325, .int (zi j)] (zSc 5 j) G F n := by
  refine zPu_i (L0 := [.ref 325, .int (zi j)]) rfl ?_
  refine zs_aload (ip' := 1) rfl rfl rfl ?_
  refine zW_cP (ip' := 2) rfl rfl zJ_lat_5 rfl rfl rfl ?_
  refine zs_if_eq (t := 8) (ip' := 3) rfl rfl (by omega) ?_ ?_
  · intro h2
    exact absurd h2 (by decide)
  · intro h2
    refine zs_aload (ip' := 4) rfl rfl rfl ?_
    refine zs_sval (ip' := 5) rfl rfl (by decide) ?_
    refine zs_iload (ip' := 6) rfl rfl rfl ?_
    refine zW_cP (ip' := 7) rfl rfl (zJ_chb_5 hj) rfl rfl rfl ?_
    refine zW_0c rfl (zSc_chr (i := 5) (ln := 5) (by decide) rfl hj (by decide)) ?_
    exact zfin rfl
theorem zJ_cod_6 {N : Nat} {G F : GM} {n : Nat}  : zPu N 282 [.ref 326] 0 G F n := by
  refine zPu_i (L0 := [.ref 326]) rfl ?_
  refine zs_pushI (ip' := 1) rfl rfl zi_k1 ?_
  refine zs_if_eq (t := 5) (ip' := 2) rfl rfl (by omega) ?_ ?_
  · intro h1
    exact absurd h1 (by decide)
  · intro h1
    refine zs_aload (ip' := 3) rfl rfl rfl ?_
    refine zs_scoder (ip' := 4) rfl rfl (by decide) ?_
    refine zs_goto (t := 6) rfl ?_
    refine zW_0y rfl (by omega) ?_
    exact zfin rfl
theorem zJ_lat_6 {N : Nat} {G F : GM} {n : Nat}  : zPu N 283 [.ref 326] 1 G F n := by
  refine zPu_i (L0 := [.ref 326]) rfl ?_
  refine zs_pushI (ip' := 1) rfl rfl zi_k1 ?_
  refine zs_if_eq (t := 7) (ip' := 2) rfl rfl (by omega) ?_ ?_
  · intro h1
    exact absurd h1 (by decide)
  · intro h1
    refine zs_aload (ip' := 3) rfl rfl rfl ?_
    refine zs_scoder (ip' := 4) rfl rfl (by decide) ?_
    refine zs_if_ne (t := 7) (ip' := 5) rfl rfl (by omega) ?_ ?_
    · intro h4
      exact absurd h4 (by decide)
    · intro h4
      refine zs_pushI (ip' := 6) rfl rfl zi_k1 ?_
      refine zs_goto (t := 8) rfl ?_
      refine zW_0b rfl (Or.inr rfl) ?_
      exact zfin rfl
theorem zJ_len_6 {N : Nat} {G F : GM} {n : Nat}  : zPu N 280 [.ref 326] 4 G F n := by
  refine zPu_i (L0 := [.ref 326]) rfl ?_
  refine zs_aload (ip' := 1) rfl rfl rfl ?_
  refine zs_sval (ip' := 2) rfl rfl (by decide) ?_
  refine zs_salen (ip' := 3) rfl rfl (by decide) (ln := 4) rfl ?_
  refine zs_aload (ip' := 4) rfl rfl rfl ?_
  refine zW_cP (ip' := 5) rfl rfl zJ_cod_6 rfl rfl rfl ?_
  refine zs_ishr (ip' := 6) rfl rfl ?_
  refine zW_0 rfl ?_
  exact zfin (zshr_0 4 (by decide))
theorem zJ_chb_6 {N : Nat} {G F : GM} {n : Nat} {j : Int} (hj : 0 ≤ j ∧ j < 4) : zPu N 285 [.ref 346, .int (zi j)] (zSc 6 j) G F n := by
  refine zPu_i (L0 := [.ref 346, .int (zi j)]) rfl ?_
  refine zs_iload (ip' := 1) rfl rfl rfl ?_
  refine zs_aload (ip' := 2) rfl rfl rfl ?_
  refine zs_salen (ip' := 3) rfl rfl (by decide) (ln := 4) rfl ?_
  refine zW_cV (ip' := 4) rfl rfl (zJ_cki (l := ((4 : Nat) : Int)) (by omega)) rfl rfl rfl ?_
  rintro G' F' n' ⟨rfl, rfl, rfl⟩
  refine zs_aload (ip' := 5) rfl rfl rfl ?_
  refine zs_iload (ip' := 6) rfl rfl rfl ?_
  refine zs_sbald (ip' := 7) rfl rfl (by decide) (i9 := 6) rfl (ln := 4) rfl (by omega) (by decide) ?_
  refine zs_pushI (ip' := 8) rfl rfl zi_k255 ?_
  refine zs_iand (ip' := 9) rfl rfl ?_
  refine zs_i2c (ip' := 10) rfl rfl (zSc_i2c (i := 6) (ln := 4) (by decide) rfl hj (by decide)) ?_
  refine zW_0c rfl (zSc_chr (i := 6) (ln := 4) (by decide) rfl hj (by decide)) ?_
  exact zfin rfl
theorem zJ_chr_6 {N : Nat} {G F : GM} {n : Nat} {j : Int} (hj : 0 ≤ j ∧ j < 4) : zPu N 281 [.ref 326, .int (zi j)] (zSc 6 j) G F n := by
  refine zPu_i (L0 := [.ref 326, .int (zi j)]) rfl ?_
  refine zs_aload (ip' := 1) rfl rfl rfl ?_
  refine zW_cP (ip' := 2) rfl rfl zJ_lat_6 rfl rfl rfl ?_
  refine zs_if_eq (t := 8) (ip' := 3) rfl rfl (by omega) ?_ ?_
  · intro h2
    exact absurd h2 (by decide)
  · intro h2
    refine zs_aload (ip' := 4) rfl rfl rfl ?_
    refine zs_sval (ip' := 5) rfl rfl (by decide) ?_
    refine zs_iload (ip' := 6) rfl rfl rfl ?_
    refine zW_cP (ip' := 7) rfl rfl (zJ_chb_6 hj) rfl rfl rfl ?_
    refine zW_0c rfl (zSc_chr (i := 6) (ln := 4) (by decide) rfl hj (by decide)) ?_
    exact zfin rfl
theorem zJ_cod_7 {N : Nat} {G F : GM} {n : Nat}  : zPu N 282 [.ref 327] 0 G F n := by
  refine zPu_i (L0 := [.ref 327]) rfl ?_
  refine zs_pushI (ip' := 1) rfl rfl zi_k1 ?_
  refine zs_if_eq (t := 5) (ip' := 2) rfl rfl (by omega) ?_ ?_
  · intro h1
    exact absurd h1 (by decide)
  · intro h1
    refine zs_aload (ip' := 3) rfl rfl rfl ?_
    refine zs_scoder (ip' := 4) rfl rfl (by decide) ?_
    refine zs_goto (t := 6) rfl ?_
    refine zW_0y rfl (by omega) ?_
    exact zfin rfl
theorem zJ_lat_7 {N : Nat} {G F : GM} {n : Nat}  : zPu N 283 [.ref 327] 1 G F n := by
  refine zPu_i (L0 := [.ref 327]) rfl ?_
  refine zs_pushI (ip' := 1) rfl rfl zi_k1 ?_
  refine zs_if_eq (t := 7) (ip' := 2) rfl rfl (by omega) ?_ ?_
  · intro h1
    exact absurd h1 (by decide)
  · intro h1
    refine zs_aload (ip' := 3) rfl rfl rfl ?_
    refine zs_scoder (ip' := 4) rfl rfl (by decide) ?_
    refine zs_if_ne (t := 7) (ip' := 5) rfl rfl (by omega) ?_ ?_
    · intro h4
      exact absurd h4 (by decide)
    · intro h4
      refine zs_pushI (ip' := 6) rfl rfl zi_k1 ?_
      refine zs_goto (t := 8) rfl ?_
      refine zW_0b rfl (Or.inr rfl) ?_
      exact zfin rfl
theorem zJ_len_7 {N : Nat} {G F : GM} {n : Nat}  : zPu N 280 [.ref 327] 5 G F n := by
  refine zPu_i (L0 := [.ref 327]) rfl ?_
  refine zs_aload (ip' := 1) rfl rfl rfl ?_
  refine zs_sval (ip' := 2) rfl rfl (by decide) ?_
  refine zs_salen (ip' := 3) rfl rfl (by decide) (ln := 5) rfl ?_
  refine zs_aload (ip' := 4) rfl rfl rfl ?_
  refine zW_cP (ip' := 5) rfl rfl zJ_cod_7 rfl rfl rfl ?_
  refine zs_ishr (ip' := 6) rfl rfl ?_
  refine zW_0 rfl ?_
  exact zfin (zshr_0 5 (by decide))
theorem zJ_chb_7 {N : Nat} {G F : GM} {n : Nat} {j : Int} (hj : 0 ≤ j ∧ j < 5) : zPu N 285 [.ref 347, .int (zi j)] (zSc 7 j) G F n := by
  refine zPu_i (L0 := [.ref 347, .int (zi j)]) rfl ?_
  refine zs_iload (ip' := 1) rfl rfl rfl ?_
  refine zs_aload (ip' := 2) rfl rfl rfl ?_
  refine zs_salen (ip' := 3) rfl rfl (by decide) (ln := 5) rfl ?_
  refine zW_cV (ip' := 4) rfl rfl (zJ_cki (l := ((5 : Nat) : Int)) (by omega)) rfl rfl rfl ?_
  rintro G' F' n' ⟨rfl, rfl, rfl⟩
  refine zs_aload (ip' := 5) rfl rfl rfl ?_
  refine zs_iload (ip' := 6) rfl rfl rfl ?_
  refine zs_sbald (ip' := 7) rfl rfl (by decide) (i9 := 7) rfl (ln := 5) rfl (by omega) (by decide) ?_
  refine zs_pushI (ip' := 8) rfl rfl zi_k255 ?_
  refine zs_iand (ip' := 9) rfl rfl ?_
  refine zs_i2c (ip' := 10) rfl rfl (zSc_i2c (i := 7) (ln := 5) (by decide) rfl hj (by decide)) ?_
  refine zW_0c rfl (zSc_chr (i := 7) (ln := 5) (by decide) rfl hj (by decide)) ?_
  exact zfin rfl
theorem zJ_chr_7 {N : Nat} {G F : GM} {n : Nat} {j : Int} (hj : 0 ≤ j ∧ j < 5) : zPu N 281 [.ref 327, .int (zi j)] (zSc 7 j) G F n := by
  refine zPu_i (L0 := [.ref 327, .int (zi j)]) rfl ?_
  refine zs_aload (ip' := 1) rfl rfl rfl ?_
  refine zW_cP (ip' := 2) rfl rfl zJ_lat_7 rfl rfl rfl ?_
  refine zs_if_eq (t := 8) (ip' := 3) rfl rfl (by omega) ?_ ?_
  · intro h2
    exact absurd h2 (by decide)
  · intro h2
    refine zs_aload (ip' := 4) rfl rfl rfl ?_
    refine zs_sval (ip' := 5) rfl rfl (by decide) ?_
    refine zs_iload (ip' := 6) rfl rfl rfl ?_
    refine zW_cP (ip' := 7) rfl rfl (zJ_chb_7 hj) rfl rfl rfl ?_
    refine zW_0c rfl (zSc_chr (i := 7) (ln := 5) (by decide) rfl hj (by decide)) ?_
    exact zfin rfl
theorem zJ_cod_8 {N : Nat} {G F : GM} {n : Nat}  : zPu N 282 [.ref 328] 0 G F n := by
  refine zPu_i (L0 := [.ref 328]) rfl ?_
  refine zs_pushI (ip' := 1) rfl rfl zi_k1 ?_
  refine zs_if_eq (t := 5) (ip' := 2) rfl rfl (by omega) ?_ ?_
  · intro h1
    exact absurd h1 (by decide)
  · intro h1
    refine zs_aload (ip' := 3) rfl rfl rfl ?_
    refine zs_scoder (ip' := 4) rfl rfl (by decide) ?_
    refine zs_goto (t := 6) rfl ?_
    refine zW_0y rfl (by omega) ?_
    exact zfin rfl
theorem zJ_lat_8 {N : Nat} {G F : GM} {n : Nat}  : zPu N 283 [.ref 328] 1 G F n := by
  refine zPu_i (L0 := [.ref 328]) rfl ?_
  refine zs_pushI (ip' := 1) rfl rfl zi_k1 ?_
  refine zs_if_eq (t := 7) (ip' := 2) rfl rfl (by omega) ?_ ?_
  · intro h1
    exact absurd h1 (by decide)
  · intro h1
    refine zs_aload (ip' := 3) rfl rfl rfl ?_
    refine zs_scoder (ip' := 4) rfl rfl (by decide) ?_
    refine zs_if_ne (t := 7) (ip' := 5) rfl rfl (by omega) ?_ ?_
    · intro h4
      exact absurd h4 (by decide)
    · intro h4
      refine zs_pushI (ip' := 6) rfl rfl zi_k1 ?_
      refine zs_goto (t := 8) rfl ?_
      refine zW_0b rfl (Or.inr rfl) ?_
      exact zfin rfl
theorem zJ_len_8 {N : Nat} {G F : GM} {n : Nat}  : zPu N 280 [.ref 328] 4 G F n := by
  refine zPu_i (L0 := [.ref 328]) rfl ?_
  refine zs_aload (ip' := 1) rfl rfl rfl ?_
  refine zs_sval (ip' := 2) rfl rfl (by decide) ?_
  refine zs_salen (ip' := 3) rfl rfl (by decide) (ln := 4) rfl ?_
  refine zs_aload (ip' := 4) rfl rfl rfl ?_
  refine zW_cP (ip' := 5) rfl rfl zJ_cod_8 rfl rfl rfl ?_
  refine zs_ishr (ip' := 6) rfl rfl ?_
  refine zW_0 rfl ?_
  exact zfin (zshr_0 4 (by decide))
theorem zJ_chb_8 {N : Nat} {G F : GM} {n : Nat} {j : Int} (hj : 0 ≤ j ∧ j < 4) : zPu N 285 [.ref 348, .int (zi j)] (zSc 8 j) G F n := by
  refine zPu_i (L0 := [.ref 348, .int (zi j)]) rfl ?_
  refine zs_iload (ip' := 1) rfl rfl rfl ?_
  refine zs_aload (ip' := 2) rfl rfl rfl ?_
  refine zs_salen (ip' := 3) rfl rfl (by decide) (ln := 4) rfl ?_
  refine zW_cV (ip' := 4) rfl rfl (zJ_cki (l := ((4 : Nat) : Int)) (by omega)) rfl rfl rfl ?_
  rintro G' F' n' ⟨rfl, rfl, rfl⟩
  refine zs_aload (ip' := 5) rfl rfl rfl ?_
  refine zs_iload (ip' := 6) rfl rfl rfl ?_
  refine zs_sbald (ip' := 7) rfl rfl (by decide) (i9 := 8) rfl (ln := 4) rfl (by omega) (by decide) ?_
  refine zs_pushI (ip' := 8) rfl rfl zi_k255 ?_
  refine zs_iand (ip' := 9) rfl rfl ?_
  refine zs_i2c (ip' := 10) rfl rfl (zSc_i2c (i := 8) (ln := 4) (by decide) rfl hj (by decide)) ?_
  refine zW_0c rfl (zSc_chr (i := 8) (ln := 4) (by decide) rfl hj (by decide)) ?_
  exact zfin rfl
theorem zJ_chr_8 {N : Nat} {G F : GM} {n : Nat} {j : Int} (hj : 0 ≤ j ∧ j < 4) : zPu N 281 [.ref 328, .int (zi j)] (zSc 8 j) G F n := by
  refine zPu_i (L0 := [.ref 328, .int (zi j)]) rfl ?_
  refine zs_aload (ip' := 1) rfl rfl rfl ?_
  refine zW_cP (ip' := 2) rfl rfl zJ_lat_8 rfl rfl rfl ?_
  refine zs_if_eq (t := 8) (ip' := 3) rfl rfl (by omega) ?_ ?_
  · intro h2
    exact absurd h2 (by decide)
  · intro h2
    refine zs_aload (ip' := 4) rfl rfl rfl ?_
    refine zs_sval (ip' := 5) rfl rfl (by decide) ?_
    refine zs_iload (ip' := 6) rfl rfl rfl ?_
    refine zW_cP (ip' := 7) rfl rfl (zJ_chb_8 hj) rfl rfl rfl ?_
    refine zW_0c rfl (zSc_chr (i := 8) (ln := 4) (by decide) rfl hj (by decide)) ?_
    exact zfin rfl
theorem zJ_cod_9 {N : Nat} {G F : GM} {n : Nat}  : zPu N 282 [.ref 329] 0 G F n := by
  refine zPu_i (L0 := [.ref 329]) rfl ?_
  refine zs_pushI (ip' := 1) rfl rfl zi_k1 ?_
  refine zs_if_eq (t := 5) (ip' := 2) rfl rfl (by omega) ?_ ?_
  · intro h1
    exact absurd h1 (by decide)
  · intro h1
    refine zs_aload (ip' := 3) rfl rfl rfl ?_
    refine zs_scoder (ip' := 4) rfl rfl (by decide) ?_
    refine zs_goto (t := 6) rfl ?_
    refine zW_0y rfl (by omega) ?_
    exact zfin rfl
theorem zJ_lat_9 {N : Nat} {G F : GM} {n : Nat}  : zPu N 283 [.ref 329] 1 G F n := by
  refine zPu_i (L0 := [.ref 329]) rfl ?_
  refine zs_pushI (ip' := 1) rfl rfl zi_k1 ?_
  refine zs_if_eq (t := 7) (ip' := 2) rfl rfl (by omega) ?_ ?_
  · intro h1
    exact absurd h1 (by decide)
  · intro h1
    refine zs_aload (ip' := 3) rfl rfl rfl ?_
    refine zs_scoder (ip' := 4) rfl rfl (by decide) ?_
    refine zs_if_ne (t := 7) (ip' := 5) rfl rfl (by omega) ?_ ?_
    · intro h4
      exact absurd h4 (by decide)
    · intro h4
      refine zs_pushI (ip' := 6) rfl rfl zi_k1 ?_
      refine zs_goto (t := 8) rfl ?_
      refine zW_0b rfl (Or.inr rfl) ?_
      exact zfin rfl
theorem zJ_len_9 {N : Nat} {G F : GM} {n : Nat}  : zPu N 280 [.ref 329] 9 G F n := by
  refine zPu_i (L0 := [.ref 329]) rfl ?_
  refine zs_aload (ip' := 1) rfl rfl rfl ?_
  refine zs_sval (ip' := 2) rfl rfl (by decide) ?_
  refine zs_salen (ip' := 3) rfl rfl (by decide) (ln := 9) rfl ?_
  refine zs_aload (ip' := 4) rfl rfl rfl ?_
  refine zW_cP (ip' := 5) rfl rfl zJ_cod_9 rfl rfl rfl ?_
  refine zs_ishr (ip' := 6) rfl rfl ?_
  refine zW_0 rfl ?_
  exact zfin (zshr_0 9 (by decide))
theorem zJ_chb_9 {N : Nat} {G F : GM} {n : Nat} {j : Int} (hj : 0 ≤ j ∧ j < 9) : zPu N 285 [.ref 349, .int (zi j)] (zSc 9 j) G F n := by
  refine zPu_i (L0 := [.ref 349, .int (zi j)]) rfl ?_
  refine zs_iload (ip' := 1) rfl rfl rfl ?_
  refine zs_aload (ip' := 2) rfl rfl rfl ?_
  refine zs_salen (ip' := 3) rfl rfl (by decide) (ln := 9) rfl ?_
  refine zW_cV (ip' := 4) rfl rfl (zJ_cki (l := ((9 : Nat) : Int)) (by omega)) rfl rfl rfl ?_
  rintro G' F' n' ⟨rfl, rfl, rfl⟩
  refine zs_aload (ip' := 5) rfl rfl rfl ?_
  refine zs_iload (ip' := 6) rfl rfl rfl ?_
  refine zs_sbald (ip' := 7) rfl rfl (by decide) (i9 := 9) rfl (ln := 9) rfl (by omega) (by decide) ?_
  refine zs_pushI (ip' := 8) rfl rfl zi_k255 ?_
  refine zs_iand (ip' := 9) rfl rfl ?_
  refine zs_i2c (ip' := 10) rfl rfl (zSc_i2c (i := 9) (ln := 9) (by decide) rfl hj (by decide)) ?_
  refine zW_0c rfl (zSc_chr (i := 9) (ln := 9) (by decide) rfl hj (by decide)) ?_
  exact zfin rfl
theorem zJ_chr_9 {N : Nat} {G F : GM} {n : Nat} {j : Int} (hj : 0 ≤ j ∧ j < 9) : zPu N 281 [.ref 329, .int (zi j)] (zSc 9 j) G F n := by
  refine zPu_i (L0 := [.ref 329, .int (zi j)]) rfl ?_
  refine zs_aload (ip' := 1) rfl rfl rfl ?_
  refine zW_cP (ip' := 2) rfl rfl zJ_lat_9 rfl rfl rfl ?_
  refine zs_if_eq (t := 8) (ip' := 3) rfl rfl (by omega) ?_ ?_
  · intro h2
    exact absurd h2 (by decide)
  · intro h2
    refine zs_aload (ip' := 4) rfl rfl rfl ?_
    refine zs_sval (ip' := 5) rfl rfl (by decide) ?_
    refine zs_iload (ip' := 6) rfl rfl rfl ?_
    refine zW_cP (ip' := 7) rfl rfl (zJ_chb_9 hj) rfl rfl rfl ?_
    refine zW_0c rfl (zSc_chr (i := 9) (ln := 9) (by decide) rfl hj (by decide)) ?_
    exact zfin rfl
