/-! The law: its words, its ends of cases. -/
section LT
variable {LL : Nat} {xs : Nat → Int32} {N : Nat} {ip ip' : Nat} {L st L' st' : List Value} {G F G' F' : GM} {n n' : Nat} {Q : Zq}
/-- a word of the script as a number -/
def sx (xs : Nat → Int32) (j : Int) : Int := (xs j.toNat).toInt
theorem zr_sx (xs : Nat → Int32) (j : Int) : zr (sx xs j) := zr_to _
theorem zt_sldx {i : Int} (ht : tabx LL xs N 334 ip = some (.inl (i_sld LL xs))) (hip : ip + 1 = ip') (hi : 0 ≤ i ∧ i < LL ∧ i ≤ 2147483647) (k : zX LL xs N ip' L (.int (zi (sx xs i)) :: st) G F n Q) : zX LL xs N ip L (.int (zi i) :: .ref 310 :: st) G F n Q := by
  refine zt_sld ht hip hi ?_
  unfold sx at k
  rw [zi_of] at k
  exact k
/-- a word of the script, pushed -/
theorem zt_word {a1 a2 a3 : Value} {i c : Int} {cc : Int32} (h0 : tabx LL xs N 334 ip = some (.inl (i_aload 0))) (h1 : tabx LL xs N 334 (ip + 1) = some (.inl (i_iload 4))) (h2 : tabx LL xs N 334 (ip + 2) = some (.inl (i_push (.int cc)))) (hc : zi c = cc) (h3 : tabx LL xs N 334 (ip + 3) = some (.inl i_iadd)) (h4 : tabx LL xs N 334 (ip + 4) = some (.inl (i_sld LL xs))) (hip : ip + 5 = ip') (hi : 0 ≤ i + c ∧ i + c < LL ∧ i + c ≤ 2147483647) (k : zX LL xs N ip' (.ref 310 :: a1 :: a2 :: a3 :: .int (zi i) :: L) (.int (zi (sx xs (i + c))) :: st) G F n Q) : zX LL xs N ip (.ref 310 :: a1 :: a2 :: a3 :: .int (zi i) :: L) st G F n Q := by
  subst hip
  refine zt_aload (ip' := ip + 1) h0 rfl rfl ?_
  refine zt_iload (ip' := ip + 2) h1 rfl rfl ?_
  refine zt_pushI (ip' := ip + 3) h2 rfl hc ?_
  refine zt_iadd (ip' := ip + 4) h3 rfl ?_
  exact zt_sldx (ip' := ip + 5) h4 rfl hi k
/-- whether a word is not 0 -/
theorem zt_nz {a : Int} (ha : zr a) (h0 : tabx LL xs N 334 ip = some (.inl (i_if_eq (ip + 3)))) (h1 : tabx LL xs N 334 (ip + 1) = some (.inl (i_push (.int 1)))) (h2 : tabx LL xs N 334 (ip + 2) = some (.inl (i_goto (ip + 4)))) (h3 : tabx LL xs N 334 (ip + 3) = some (.inl (i_push (.int 0)))) (hip : ip + 4 = ip') (k : zX LL xs N ip' L (.int (zi (zb (a ≠ 0))) :: st) G F n Q) : zX LL xs N ip L (.int (zi a) :: st) G F n Q := by
  subst hip
  refine zt_if_eq (t := ip + 3) (ip' := ip + 1) h0 rfl ha ?_ ?_
  · intro h
    refine zt_pushI (ip' := ip + 4) h3 rfl zi_k0 ?_
    rw [zb_f (fun q => q h)] at k
    exact k
  · intro h
    refine zt_pushI (ip' := ip + 2) h1 rfl zi_k1 ?_
    refine zt_goto (t := ip + 4) h2 ?_
    rw [zb_t h] at k
    exact k
theorem zX_cJ {y2 m mm : Nat} {as bs : List Value} {g : Int → Int} (ht : tabx LL xs N 334 ip = some (.inr (2, y2, m))) (hip : ip + 1 = ip') (hc : zC N y2 as G F n (zJq N mm bs g n)) (ha : (st.take m).reverse = as) (hok : z_okc N (zcl y2) (znl y2) (zc2 y2) 2 m st = true)
    (k : ∀ (q : Int × Int) (G1 F1 : GM) (n1 : Nat), n ≤ n1 → n1 ≤ n + 1 → (q.1 = 0 → ∃ v, zr v ∧ zi v = zi q.2 ∧ F1 229 0 = g v) → zJm N mm bs q G1 → zX LL xs N ip' L (.int (zi q.1) :: st.drop m) G1 F1 n1 Q) : zX LL xs N ip L st G F n Q := by
  refine zX_c ht hip hc rfl ha hok ?_ ?_
  · rintro ex G1 F1 n1 ⟨q, h, -⟩
    cases h
  · rintro v G1 F1 n1 ⟨q, h, ⟨h1, h2⟩, h3, h4⟩
    cases h
    exact k q G1 F1 n1 h1 h2 h3 h4
theorem zX_cM {y2 m : Nat} {as : List Value} {q : Int × Int} (ht : tabx LL xs N 334 ip = some (.inr (3, y2, m))) (hip : ip + 1 = ip') (hc : zJm N y2 as q G) (ha : (st.take m).reverse = as) (hok : z_okc N (zcl y2) (znl y2) (zc2 y2) 3 m st = true)
    (k : ∀ (G1 F1 : GM), F1 229 = F 229 → G1 230 10 = q.1 → JI G1 → zX LL xs N ip' L (.int (zi q.2) :: st.drop m) G1 F1 n Q) : zX LL xs N ip L st G F n Q := by
  refine zX_c ht hip (hc F n) rfl ha hok ?_ ?_
  · rintro ex G1 F1 n1 ⟨h, -⟩
    cases h
  · rintro v G1 F1 n1 ⟨h, rfl, h1, h2, h3⟩
    cases h
    exact k G1 F1 h1 h2 h3
theorem zt_same {t : Nat} {v : Int32} (ht : tabx LL xs N 334 ip = some (.inl (i_icmp_eq t))) (k : zX LL xs N t L st G F n Q) : zX LL xs N ip L (.int v :: .int v :: st) G F n Q :=
  zX_s ht (by show (if v = v then _ else _) = _; rw [if_pos rfl]) id id k
theorem zt_iload4 {a0 a1 a2 a3 a5 : Value} {v : Int32} (ht : tabx LL xs N 334 ip = some (.inl (i_iload 5))) (hip : ip + 1 = ip') (k : zX LL xs N ip' (a0 :: a1 :: a2 :: a3 :: a5 :: .int v :: L) (.int v :: st) G F n Q) : zX LL xs N ip (a0 :: a1 :: a2 :: a3 :: a5 :: .int v :: L) st G F n Q := zt_iload ht hip rfl k
/-- the end of a case: ints -/
theorem zT_int {p t : Nat} {a0 a1 a4 a7 a8 : Value} {q : Int × Int} (hN : 241 ≤ N) (h0 : tabx LL xs N 334 p = some (.inl (i_aload 2))) (h1 : tabx LL xs N 334 (p + 1) = some (.inr (3, 0, 1))) (h2 : tabx LL xs N 334 (p + 2) = some (.inl (i_iload 5))) (h3 : tabx LL xs N 334 (p + 3) = some (.inl (i_icmp_eq (p + 6)))) (h6 : tabx LL xs N 334 (p + 6) = some (.inl (i_iload 5))) (h7 : tabx LL xs N 334 (p + 7) = some (.inl (i_if_ne (p + 17)))) (h8 : tabx LL xs N 334 (p + 8) = some (.inl (i_aload 3))) (h9 : tabx LL xs N 334 (p + 9) = some (.inl (i_push (.int 0)))) (h10 : tabx LL xs N 334 (p + 10) = some (.inl (i_lald N))) (h11 : tabx LL xs N 334 (p + 11) = some (.inl (i_iload 6))) (h12 : tabx LL xs N 334 (p + 12) = some (.inl i_i2l)) (h13 : tabx LL xs N 334 (p + 13) = some (.inl i_lcmp)) (h14 : tabx LL xs N 334 (p + 14) = some (.inl (i_if_eq (p + 17)))) (h17 : tabx LL xs N 334 (p + 17) = some (.inl (i_goto t)))
    (ht : G 230 10 = q.1) (hq : q.1 = 0 → ∃ v, zr v ∧ zi v = zi q.2 ∧ F 229 0 = gI v) (k : zX LL xs N t [a0, a1, .ref 230, .ref 229, a4, .int (zi q.1), .int (zi q.2), a7, a8] [] G F n Q) : zX LL xs N p [a0, a1, .ref 230, .ref 229, a4, .int (zi q.1), .int (zi q.2), a7, a8] [] G F n Q := by
  refine zX_rng (fun hG hF => ?_)
  have hr : zr q.1 := by rw [← ht]; exact hG 230 10
  refine zt_aload (ip' := p + 1) h0 rfl rfl ?_
  refine zX_c (ip' := p + 2) h1 rfl (cM_thrown hN) rfl rfl (z_ok3 (by omega) zsh_230 rfl rfl rfl) ?_ ?_
  · rintro ex G1 F1 n1 ⟨h, -⟩
    cases h
  rintro v G1 F1 n1 ⟨h, rfl, rfl, rfl⟩
  cases h
  rw [ht]
  refine zt_iload (ip' := p + 3) h2 rfl rfl ?_
  refine zt_same h3 ?_
  refine zt_iload (ip' := p + 7) h6 rfl rfl ?_
  refine zt_if_ne (t := p + 17) (ip' := p + 8) h7 rfl hr ?_ ?_
  · intro _
    exact zt_goto h17 k
  · intro h
    obtain ⟨v, hv, hz, hf⟩ := hq h
    refine zt_aload (ip' := p + 9) h8 rfl rfl ?_
    refine zt_pushI (ip' := p + 10) h9 rfl zi_k0 ?_
    refine zt_lald (ip' := p + 11) h10 rfl (by omega) zsh_229 (by omega) ?_
    intro _ _
    refine zt_iload (ip' := p + 12) h11 rfl rfl ?_
    rw [hf, ← hz]
    refine zt_i2l (ip' := p + 13) h12 rfl hv ?_
    refine zt_lcmp (ip' := p + 14) h13 rfl (show zrl v by omega) (by omega) ?_
    have hc : zcmp (gI v) v = 0 := by
      show zcmp v v = 0
      unfold zcmp
      (repeat' split) <;> omega
    rw [hc]
    refine zt_if_eq (t := p + 17) (ip' := p + 15) h14 rfl zr0 (fun _ => ?_) (fun h => absurd rfl h)
    rw [hz]
    exact zt_goto h17 k
/-- the end of a case: truth values -/
theorem zT_bool {p t : Nat} {a0 a1 a4 a7 a8 : Value} {q : Int × Int} (hN : 241 ≤ N) (h0 : tabx LL xs N 334 p = some (.inl (i_aload 2))) (h1 : tabx LL xs N 334 (p + 1) = some (.inr (3, 0, 1))) (h2 : tabx LL xs N 334 (p + 2) = some (.inl (i_iload 5))) (h3 : tabx LL xs N 334 (p + 3) = some (.inl (i_icmp_eq (p + 6)))) (h6 : tabx LL xs N 334 (p + 6) = some (.inl (i_iload 5))) (h7 : tabx LL xs N 334 (p + 7) = some (.inl (i_if_ne (p + 20)))) (h8 : tabx LL xs N 334 (p + 8) = some (.inl (i_aload 3))) (h9 : tabx LL xs N 334 (p + 9) = some (.inl (i_push (.int 0)))) (h10 : tabx LL xs N 334 (p + 10) = some (.inl (i_lald N))) (h11 : tabx LL xs N 334 (p + 11) = some (.inl (i_iload 6))) (h12 : tabx LL xs N 334 (p + 12) = some (.inl (i_if_eq (p + 15)))) (h13 : tabx LL xs N 334 (p + 13) = some (.inl (i_push (.long 1)))) (h14 : tabx LL xs N 334 (p + 14) = some (.inl (i_goto (p + 16)))) (h15 : tabx LL xs N 334 (p + 15) = some (.inl (i_push (.long 0)))) (h16 : tabx LL xs N 334 (p + 16) = some (.inl i_lcmp)) (h18 : tabx LL xs N 334 (p + 17) = some (.inl (i_if_eq (p + 20)))) (h17 : tabx LL xs N 334 (p + 20) = some (.inl (i_goto t)))
    (ht : G 230 10 = q.1) (hq : q.1 = 0 → ∃ v, zr v ∧ zi v = zi q.2 ∧ F 229 0 = gB v) (k : zX LL xs N t [a0, a1, .ref 230, .ref 229, a4, .int (zi q.1), .int (zi q.2), a7, a8] [] G F n Q) : zX LL xs N p [a0, a1, .ref 230, .ref 229, a4, .int (zi q.1), .int (zi q.2), a7, a8] [] G F n Q := by
  refine zX_rng (fun hG hF => ?_)
  have hr : zr q.1 := by rw [← ht]; exact hG 230 10
  refine zt_aload (ip' := p + 1) h0 rfl rfl ?_
  refine zX_c (ip' := p + 2) h1 rfl (cM_thrown hN) rfl rfl (z_ok3 (by omega) zsh_230 rfl rfl rfl) ?_ ?_
  · rintro ex G1 F1 n1 ⟨h, -⟩
    cases h
  rintro v G1 F1 n1 ⟨h, rfl, rfl, rfl⟩
  cases h
  rw [ht]
  refine zt_iload (ip' := p + 3) h2 rfl rfl ?_
  refine zt_same h3 ?_
  refine zt_iload (ip' := p + 7) h6 rfl rfl ?_
  refine zt_if_ne (t := p + 20) (ip' := p + 8) h7 rfl hr ?_ ?_
  · intro _
    exact zt_goto h17 k
  · intro h
    obtain ⟨v, hv, hz, hf⟩ := hq h
    refine zt_aload (ip' := p + 9) h8 rfl rfl ?_
    refine zt_pushI (ip' := p + 10) h9 rfl zi_k0 ?_
    refine zt_lald (ip' := p + 11) h10 rfl (by omega) zsh_229 (by omega) ?_
    intro _ _
    refine zt_iload (ip' := p + 12) h11 rfl rfl ?_
    rw [hf]
    have hz' : (Value.int (zi q.2) :: Value.long (zl (gB v)) :: [] : List Value) = [.int (zi v), .long (zl (gB v))] := by rw [hz]
    show zX LL xs N (p + 12) _ [.int (zi q.2), .long (zl (gB v))] _ _ _ _
    rw [hz']
    refine zt_if_eq (t := p + 15) (ip' := p + 13) h12 rfl hv ?_ ?_
    · intro h0
      refine zt_pushJ (ip' := p + 16) h15 rfl zl_k0 ?_
      have hg : gB v = 0 := if_pos h0
      rw [hg]
      refine zt_lcmp (ip' := p + 17) h16 rfl (by decide) (by decide) ?_
      refine zt_if_eq (t := p + 20) (ip' := p + 18) h18 rfl zr0 (fun _ => ?_) (fun h => absurd rfl h)
      exact zt_goto h17 k
    · intro h0
      refine zt_pushJ (ip' := p + 14) h13 rfl zl_k1 ?_
      refine zt_goto (t := p + 16) h14 ?_
      have hg : gB v = 1 := if_neg h0
      rw [hg]
      refine zt_lcmp (ip' := p + 17) h16 rfl (by decide) (by decide) ?_
      refine zt_if_eq (t := p + 20) (ip' := p + 18) h18 rfl zr0 (fun _ => ?_) (fun h => absurd rfl h)
      exact zt_goto h17 k
/-- a case of a direct call: ints -/
theorem zT_dir {p t y m : Nat} {a0 : Value} (hN : 241 ≤ N) (h0 : tabx LL xs N 334 p = some (.inl (i_aload 1))) (h1 : tabx LL xs N 334 (p + 1) = some (.inr (3, y, 1))) (h2 : tabx LL xs N 334 (p + 2) = some (.inl (i_aload 2))) (h3 : tabx LL xs N 334 (p + 3) = some (.inr (3, m, 1))) (h4 : tabx LL xs N 334 (p + 4) = some (.inl (i_icmp_eq t))) (hc : zC N y [.ref 192] G F n (zJi N m n)) (o1 : z_okc N (zcl y) (znl y) (zc2 y) 3 1 [.ref 192] = true) (o2 : ∀ v : Int, z_okc N (zcl m) (znl m) (zc2 m) 3 1 [.ref 230, .int (zi v)] = true)
    (k : ∀ G1 F1 : GM, JI G1 → zX LL xs N t (a0 :: .ref 192 :: .ref 230 :: L) [] G1 F1 n Q) : zX LL xs N p (a0 :: .ref 192 :: .ref 230 :: L) [] G F n Q := by
  refine zt_aload (ip' := p + 1) h0 rfl rfl ?_
  refine zX_c (ip' := p + 2) h1 rfl hc rfl rfl o1 ?_ ?_
  · rintro ex G1 F1 n1 ⟨v, h, -⟩
    cases h
  rintro w G1 F1 n1 ⟨v, h, rfl, hm⟩
  cases h
  refine zt_aload (ip' := p + 3) h2 rfl rfl ?_
  refine zX_c (ip' := p + 4) h3 rfl (hm F1 n1) rfl rfl (o2 v) ?_ ?_
  · rintro ex G2 F2 n2 ⟨h, -⟩
    cases h
  rintro w G2 F2 n2 ⟨h, rfl, hJ⟩
  cases h
  exact zt_same h4 (k G2 F2 hJ)
theorem zt_dcmp {o : CmpOp} {a b : UInt64} (ht : tabx LL xs N 334 ip = some (.inl (i_dcmp o))) (hip : ip + 1 = ip') (k : zX LL xs N ip' L (.int (Op.cmpValue (FP.dcmp a b) o) :: st) G F n Q) : zX LL xs N ip L (.double b :: .double a :: st) G F n Q := zX_s ht (by subst hip; rfl) id id k
theorem zt_if_eq9 {t : Nat} {a : Int32} (ht : tabx LL xs N 334 ip = some (.inl (i_if_eq t))) (hip : ip + 1 = ip') (k1 : a = 0 → zX LL xs N t L st G F n Q) (k2 : a ≠ 0 → zX LL xs N ip' L st G F n Q) : zX LL xs N ip L (.int a :: st) G F n Q := by
  subst hip
  by_cases h : a = 0
  · exact zX_s ht (by show (if a = 0 then _ else _) = _; rw [if_pos h]) id id (k1 h)
  · exact zX_s ht (by show (if a = 0 then _ else _) = _; rw [if_neg h]) id id (k2 h)
theorem zt_if_ne9 {t : Nat} {a : Int32} (ht : tabx LL xs N 334 ip = some (.inl (i_if_ne t))) (hip : ip + 1 = ip') (k1 : a ≠ 0 → zX LL xs N t L st G F n Q) (k2 : a = 0 → zX LL xs N ip' L st G F n Q) : zX LL xs N ip L (.int a :: st) G F n Q := by
  subst hip
  by_cases h : a = 0
  · exact zX_s ht (by show (if a = 0 then _ else _) = _; rw [if_pos h]) id id (k2 h)
  · exact zX_s ht (by show (if a = 0 then _ else _) = _; rw [if_neg h]) id id (k1 h)
/-- the end of a case: the same double twice -/
theorem zT_dbl {p t : Nat} {a0 a1 a2 a3 a4 a6 a8 : Value} {v : UInt64} (h0 : tabx LL xs N 334 p = some (.inl (i_dload 5))) (h1 : tabx LL xs N 334 (p + 1) = some (.inl (i_dload 7))) (h2 : tabx LL xs N 334 (p + 2) = some (.inl (i_dcmp .l))) (h3 : tabx LL xs N 334 (p + 3) = some (.inl (i_if_eq (p + 14)))) (h4 : tabx LL xs N 334 (p + 4) = some (.inl (i_dload 5))) (h5 : tabx LL xs N 334 (p + 5) = some (.inl (i_dload 5))) (h6 : tabx LL xs N 334 (p + 6) = some (.inl (i_dcmp .l))) (h7 : tabx LL xs N 334 (p + 7) = some (.inl (i_if_eq (p + 12)))) (h8 : tabx LL xs N 334 (p + 8) = some (.inl (i_dload 7))) (h9 : tabx LL xs N 334 (p + 9) = some (.inl (i_dload 7))) (h10 : tabx LL xs N 334 (p + 10) = some (.inl (i_dcmp .l))) (h11 : tabx LL xs N 334 (p + 11) = some (.inl (i_if_ne (p + 14)))) (h14 : tabx LL xs N 334 (p + 14) = some (.inl (i_goto t)))
    (k : zX LL xs N t [a0, a1, a2, a3, a4, .double v, a6, .double v, a8] [] G F n Q) : zX LL xs N p [a0, a1, a2, a3, a4, .double v, a6, .double v, a8] [] G F n Q := by
  refine zt_dload (ip' := p + 1) h0 rfl rfl ?_
  refine zt_dload (ip' := p + 2) h1 rfl rfl ?_
  refine zt_dcmp (ip' := p + 3) h2 rfl ?_
  refine zt_if_eq9 (ip' := p + 4) h3 rfl (fun _ => zt_goto h14 k) (fun hn => ?_)
  refine zt_dload (ip' := p + 5) h4 rfl rfl ?_
  refine zt_dload (ip' := p + 6) h5 rfl rfl ?_
  refine zt_dcmp (ip' := p + 7) h6 rfl ?_
  refine zt_if_eq9 (ip' := p + 8) h7 rfl (fun h => absurd h hn) (fun _ => ?_)
  refine zt_dload (ip' := p + 9) h8 rfl rfl ?_
  refine zt_dload (ip' := p + 10) h9 rfl rfl ?_
  refine zt_dcmp (ip' := p + 11) h10 rfl ?_
  exact zt_if_ne9 (ip' := p + 12) h11 rfl (fun _ => zt_goto h14 k) (fun h => absurd h hn)
end LT
theorem zand_63 (y : Int) : 0 ≤ zand y 63 ∧ zand y 63 ≤ 63 := by
  have h : zand y 63 = y % 64 := by
    show (zi y &&& zi 63).toInt = y % 64
    rw [show zi 63 = 63 by decide +kernel]
    have e1 : (zi y &&& 63).toBitVec.toNat = (zi y).toBitVec.toNat % 64 := by
      rw [Int32.toBitVec_and, BitVec.toNat_and]
      exact Nat.and_two_pow_sub_one_eq_mod _ 6
    have e2 : (zi y).toBitVec.toNat = (y % 4294967296).toNat := by
      show (BitVec.ofInt 32 y).toNat = _
      rw [BitVec.toNat_ofInt]
      rfl
    show (zi y &&& 63).toBitVec.toInt = y % 64
    rw [BitVec.toInt_eq_toNat_of_lt (by omega), e1, e2]
    omega
  omega
