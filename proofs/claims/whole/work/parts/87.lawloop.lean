/-! The loop of the law. -/
section LLP
variable {LL : Nat} {xs : Nat → Int32} {N : Nat} {G F : GM} {n : Nat} {Q : Zq} {i : Int} {a5 a6 a7 a8 : Value}
theorem zX_w {ip : Nat} {L st : List Value} {Q' : Zq} (h : ∀ o G' F' n', Q o G' F' n' → Q' o G' F' n') (k : zX LL xs N ip L st G F n Q) : zX LL xs N ip L st G F n Q' := by
  intro h1 h2
  obtain ⟨f, o, G2, F2, n2, h3, h4, h5, h6⟩ := k h1 h2
  exact ⟨f, o, G2, F2, n2, h3, h4, h5, h _ _ _ _ h6⟩
theorem law_all (hN : 241 ≤ N) (hi : 0 ≤ i ∧ i + 6 ≤ LL) (hL : (LL : Int) ≤ 100000) (hJ : JI G) (kk : ∀ (a5 a6 a7 a8 : Value) (G' F' : GM) (n' : Nat), JI G' → n ≤ n' → n' ≤ n + 1 → zX LL xs N 2095 [.ref 310, .ref 192, .ref 230, .ref 229, .int (zi i), a5, a6, a7, a8] [] G' F' n' Q) : ∀ (c t : Nat), [13, 88, 123, 148, 155, 180, 187, 194, 242, 290, 338, 383, 390, 455, 500, 507, 514, 549, 556, 563, 598, 633, 668, 706, 744, 779, 814, 852, 859, 894, 929, 967, 1005, 1043, 1078, 1116, 1151, 1199, 1247, 1295, 1330, 1337, 1344, 1351, 1374, 1395, 1430, 1468, 1503, 1538, 1545, 1580, 1653, 1698, 1743, 1778, 1833, 1868, 1913, 1958, 1983, 2018, 2053, 2060][c]? = some t → zX LL xs N t [.ref 310, .ref 192, .ref 230, .ref 229, .int (zi i), a5, a6, a7, a8] [] G F n Q := by
  intro c t ht
  match c with
  | 0 =>
    cases ht
    exact law_0 hN hi hL hJ kk
  | 1 =>
    cases ht
    exact law_1 hN hi hL hJ kk
  | 2 =>
    cases ht
    exact law_2 hN hi hL hJ kk
  | 3 =>
    cases ht
    exact law_3 hN hi hL hJ kk
  | 4 =>
    cases ht
    exact law_4 hN hi hL hJ kk
  | 5 =>
    cases ht
    exact law_5 hN hi hL hJ kk
  | 6 =>
    cases ht
    exact law_6 hN hi hL hJ kk
  | 7 =>
    cases ht
    exact law_7 hN hi hL hJ kk
  | 8 =>
    cases ht
    exact law_8 hN hi hL hJ kk
  | 9 =>
    cases ht
    exact law_9 hN hi hL hJ kk
  | 10 =>
    cases ht
    exact law_10 hN hi hL hJ kk
  | 11 =>
    cases ht
    exact law_11 hN hi hL hJ kk
  | 12 =>
    cases ht
    exact law_12 hN hi hL hJ kk
  | 13 =>
    cases ht
    exact law_13 hN hi hL hJ kk
  | 14 =>
    cases ht
    exact law_14 hN hi hL hJ kk
  | 15 =>
    cases ht
    exact law_15 hN hi hL hJ kk
  | 16 =>
    cases ht
    exact law_16 hN hi hL hJ kk
  | 17 =>
    cases ht
    exact law_17 hN hi hL hJ kk
  | 18 =>
    cases ht
    exact law_18 hN hi hL hJ kk
  | 19 =>
    cases ht
    exact law_19 hN hi hL hJ kk
  | 20 =>
    cases ht
    exact law_20 hN hi hL hJ kk
  | 21 =>
    cases ht
    exact law_21 hN hi hL hJ kk
  | 22 =>
    cases ht
    exact law_22 hN hi hL hJ kk
  | 23 =>
    cases ht
    exact law_23 hN hi hL hJ kk
  | 24 =>
    cases ht
    exact law_24 hN hi hL hJ kk
  | 25 =>
    cases ht
    exact law_25 hN hi hL hJ kk
  | 26 =>
    cases ht
    exact law_26 hN hi hL hJ kk
  | 27 =>
    cases ht
    exact law_27 hN hi hL hJ kk
  | 28 =>
    cases ht
    exact law_28 hN hi hL hJ kk
  | 29 =>
    cases ht
    exact law_29 hN hi hL hJ kk
  | 30 =>
    cases ht
    exact law_30 hN hi hL hJ kk
  | 31 =>
    cases ht
    exact law_31 hN hi hL hJ kk
  | 32 =>
    cases ht
    exact law_32 hN hi hL hJ kk
  | 33 =>
    cases ht
    exact law_33 hN hi hL hJ kk
  | 34 =>
    cases ht
    exact law_34 hN hi hL hJ kk
  | 35 =>
    cases ht
    exact law_35 hN hi hL hJ kk
  | 36 =>
    cases ht
    exact law_36 hN hi hL hJ kk
  | 37 =>
    cases ht
    exact law_37 hN hi hL hJ kk
  | 38 =>
    cases ht
    exact law_38 hN hi hL hJ kk
  | 39 =>
    cases ht
    exact law_39 hN hi hL hJ kk
  | 40 =>
    cases ht
    exact law_40 hN hi hL hJ kk
  | 41 =>
    cases ht
    exact law_41 hN hi hL hJ kk
  | 42 =>
    cases ht
    exact law_42 hN hi hL hJ kk
  | 43 =>
    cases ht
    exact law_43 hN hi hL hJ kk
  | 44 =>
    cases ht
    exact law_44 hN hi hL hJ kk
  | 45 =>
    cases ht
    exact law_45 hN hi hL hJ kk
  | 46 =>
    cases ht
    exact law_46 hN hi hL hJ kk
  | 47 =>
    cases ht
    exact law_47 hN hi hL hJ kk
  | 48 =>
    cases ht
    exact law_48 hN hi hL hJ kk
  | 49 =>
    cases ht
    exact law_49 hN hi hL hJ kk
  | 50 =>
    cases ht
    exact law_50 hN hi hL hJ kk
  | 51 =>
    cases ht
    exact law_51 hN hi hL hJ kk
  | 52 =>
    cases ht
    exact law_52 hN hi hL hJ kk
  | 53 =>
    cases ht
    exact law_53 hN hi hL hJ kk
  | 54 =>
    cases ht
    exact law_54 hN hi hL hJ kk
  | 55 =>
    cases ht
    exact law_55 hN hi hL hJ kk
  | 56 =>
    cases ht
    exact law_56 hN hi hL hJ kk
  | 57 =>
    cases ht
    exact law_57 hN hi hL hJ kk
  | 58 =>
    cases ht
    exact law_58 hN hi hL hJ kk
  | 59 =>
    cases ht
    exact law_59 hN hi hL hJ kk
  | 60 =>
    cases ht
    exact law_60 hN hi hL hJ kk
  | 61 =>
    cases ht
    exact law_61 hN hi hL hJ kk
  | 62 =>
    cases ht
    exact law_62 hN hi hL hJ kk
  | 63 =>
    cases ht
    exact law_63 hN hi hL hJ kk
  | c + 64 => cases ht
/-- the loop of the law: it answers true, and throws at most once a round -/
theorem law_loop (hN : 241 ≤ N) (hL : (LL : Int) ≤ 100000) : ∀ (d : Nat) (i : Int) (a5 a6 a7 a8 : Value) (G F : GM) (n : Nat), (LL : Int) - i < 6 * d + 6 → 0 ≤ i → i ≤ LL + 6 → JI G → zX LL xs N 1 [.ref 310, .ref 192, .ref 230, .ref 229, .int (zi i), a5, a6, a7, a8] [] G F n (fun o _ _ n' => o = .inl (some (.int (zi 1))) ∧ n ≤ n' ∧ n' ≤ n + d) := by
  intro d
  induction d with
  | zero =>
    intro i a5 a6 a7 a8 G F n hd h0 h1 hJ
    refine zt_iload (ip' := 2) rfl rfl rfl ?_
    refine zt_aload (ip' := 3) rfl rfl rfl ?_
    refine zt_slen (ip' := 4) rfl rfl ?_
    refine zt_pushI (ip' := 5) rfl rfl zi_k6 ?_
    refine zt_isub (ip' := 6) rfl rfl ?_
    refine zt_icmp_gt (t := 2097) (ip' := 7) rfl rfl (by omega) (by omega) (fun _ => ?_) (fun h => absurd h (by omega))
    refine zt_pushI (ip' := 2098) rfl rfl zi_k1 ?_
    exact zX_0b rfl (Or.inr rfl) ⟨rfl, Nat.le_refl _, Nat.le_refl _⟩
  | succ d ih =>
    intro i a5 a6 a7 a8 G F n hd h0 h1 hJ
    refine zt_iload (ip' := 2) rfl rfl rfl ?_
    refine zt_aload (ip' := 3) rfl rfl rfl ?_
    refine zt_slen (ip' := 4) rfl rfl ?_
    refine zt_pushI (ip' := 5) rfl rfl zi_k6 ?_
    refine zt_isub (ip' := 6) rfl rfl ?_
    refine zt_icmp_gt (t := 2097) (ip' := 7) rfl rfl (by omega) (by omega) (fun _ => ?_) (fun h => ?_)
    · refine zt_pushI (ip' := 2098) rfl rfl zi_k1 ?_
      exact zX_0b rfl (Or.inr rfl) ⟨rfl, Nat.le_refl _, Nat.le_add_right _ _⟩
    · refine zt_aload (ip' := 8) rfl rfl rfl ?_
      refine zt_iload (ip' := 9) rfl rfl rfl ?_
      refine zt_sldx (ip' := 10) rfl rfl (by omega) ?_
      refine zt_pushI (ip' := 11) rfl rfl (v := 63) (by decide +kernel) ?_
      refine zt_iand (ip' := 12) rfl rfl ?_
      have hz := zand_63 (sx xs i)
      obtain ⟨t, ht⟩ : ∃ t, [13, 88, 123, 148, 155, 180, 187, 194, 242, 290, 338, 383, 390, 455, 500, 507, 514, 549, 556, 563, 598, 633, 668, 706, 744, 779, 814, 852, 859, 894, 929, 967, 1005, 1043, 1078, 1116, 1151, 1199, 1247, 1295, 1330, 1337, 1344, 1351, 1374, 1395, 1430, 1468, 1503, 1538, 1545, 1580, 1653, 1698, 1743, 1778, 1833, 1868, 1913, 1958, 1983, 2018, 2053, 2060][(zand (sx xs i) 63 - 0).toNat]? = some t := ⟨_, List.getElem?_eq_getElem (by show (zand (sx xs i) 63 - 0).toNat < 64; omega)⟩
      refine zt_tsw rfl (by omega) hz ht ?_
      refine law_all hN ⟨h0, by omega⟩ hL hJ (fun b5 b6 b7 b8 G' F' n' hJ' m1 m2 => ?_) _ t ht
      refine zt_iinc4 (ip' := 2096) rfl rfl zi_k6 ?_
      refine zt_goto (t := 1) rfl ?_
      exact zX_w (fun o _ _ n9 ⟨z1, z2, z3⟩ => ⟨z1, by omega, by omega⟩) (ih (i + 6) b5 b6 b7 b8 G' F' n' (by omega) (by omega) (by omega) hJ')
end LLP
