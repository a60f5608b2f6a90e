/-! The cases of the law, 32 to 63. -/
theorem law_32 {LL : Nat} {xs : Nat → Int32} {N : Nat} {G F : GM} {n : Nat} {Q : Zq} {i : Int} {a5 a6 a7 a8 : Value} (hN : 241 ≤ N) (hi : 0 ≤ i ∧ i + 6 ≤ LL) (hL : (LL : Int) ≤ 100000) (hJ : JI G) (kk : ∀ (a5 a6 a7 a8 : Value) (G' F' : GM) (n' : Nat), JI G' → n ≤ n' → n' ≤ n + 1 → zX LL xs N 2095 [.ref 310, .ref 192, .ref 230, .ref 229, .int (zi i), a5, a6, a7, a8] [] G' F' n' Q) : zX LL xs N 1005 [.ref 310, .ref 192, .ref 230, .ref 229, .int (zi i), a5, a6, a7, a8] [] G F n Q := by
  refine zt_aload (ip' := 1006) rfl rfl rfl ?_
  refine zt_word (ip' := 1011) rfl rfl rfl zi_k1 rfl rfl rfl (by omega) ?_
  refine zt_aload (ip' := 1012) rfl rfl rfl ?_
  refine zX_cJ (ip' := 1013) rfl rfl (cJ_hasSunk hN hJ (zr_sx xs (i + 1))) rfl rfl ?_
  intro q G1 F1 n1 m1 m2 hq hm
  refine zt_istore5 (ip' := 1014) rfl rfl ?_
  refine zt_aload (ip' := 1015) rfl rfl rfl ?_
  refine zt_word (ip' := 1020) rfl rfl rfl zi_k1 rfl rfl rfl (by omega) ?_
  refine zX_cM (ip' := 1021) rfl rfl hm rfl (z_ok3 (by omega) zsh_230 rfl rfl rfl) ?_
  intro G2 F2 hf ht hJ2
  refine zt_istoreK6 (ip' := 1022) rfl rfl ?_
  exact zT_bool hN rfl rfl rfl rfl rfl rfl rfl rfl rfl rfl rfl rfl rfl rfl rfl rfl rfl ht (fun h => by obtain ⟨v, z1, z2, z3⟩ := hq h; exact ⟨v, z1, z2, by rw [hf]; exact z3⟩) (kk _ _ _ _ _ _ _ hJ2 m1 m2)
theorem law_33 {LL : Nat} {xs : Nat → Int32} {N : Nat} {G F : GM} {n : Nat} {Q : Zq} {i : Int} {a5 a6 a7 a8 : Value} (hN : 241 ≤ N) (hi : 0 ≤ i ∧ i + 6 ≤ LL) (hL : (LL : Int) ≤ 100000) (hJ : JI G) (kk : ∀ (a5 a6 a7 a8 : Value) (G' F' : GM) (n' : Nat), JI G' → n ≤ n' → n' ≤ n + 1 → zX LL xs N 2095 [.ref 310, .ref 192, .ref 230, .ref 229, .int (zi i), a5, a6, a7, a8] [] G' F' n' Q) : zX LL xs N 1043 [.ref 310, .ref 192, .ref 230, .ref 229, .int (zi i), a5, a6, a7, a8] [] G F n Q := by
  refine zt_aload (ip' := 1044) rfl rfl rfl ?_
  refine zt_word (ip' := 1049) rfl rfl rfl zi_k1 rfl rfl rfl (by omega) ?_
  refine zt_aload (ip' := 1050) rfl rfl rfl ?_
  refine zX_cJ (ip' := 1051) rfl rfl (cJ_stepsTaken hN hJ (zr_sx xs (i + 1))) rfl rfl ?_
  intro q G1 F1 n1 m1 m2 hq hm
  refine zt_istore5 (ip' := 1052) rfl rfl ?_
  refine zt_aload (ip' := 1053) rfl rfl rfl ?_
  refine zt_word (ip' := 1058) rfl rfl rfl zi_k1 rfl rfl rfl (by omega) ?_
  refine zX_cM (ip' := 1059) rfl rfl hm rfl (z_ok3 (by omega) zsh_230 rfl rfl rfl) ?_
  intro G2 F2 hf ht hJ2
  refine zt_istoreK6 (ip' := 1060) rfl rfl ?_
  exact zT_int hN rfl rfl rfl rfl rfl rfl rfl rfl rfl rfl rfl rfl rfl rfl ht (fun h => by obtain ⟨v, z1, z2, z3⟩ := hq h; exact ⟨v, z1, z2, by rw [hf]; exact z3⟩) (kk _ _ _ _ _ _ _ hJ2 m1 m2)
theorem law_34 {LL : Nat} {xs : Nat → Int32} {N : Nat} {G F : GM} {n : Nat} {Q : Zq} {i : Int} {a5 a6 a7 a8 : Value} (hN : 241 ≤ N) (hi : 0 ≤ i ∧ i + 6 ≤ LL) (hL : (LL : Int) ≤ 100000) (hJ : JI G) (kk : ∀ (a5 a6 a7 a8 : Value) (G' F' : GM) (n' : Nat), JI G' → n ≤ n' → n' ≤ n + 1 → zX LL xs N 2095 [.ref 310, .ref 192, .ref 230, .ref 229, .int (zi i), a5, a6, a7, a8] [] G' F' n' Q) : zX LL xs N 1078 [.ref 310, .ref 192, .ref 230, .ref 229, .int (zi i), a5, a6, a7, a8] [] G F n Q := by
  refine zt_aload (ip' := 1079) rfl rfl rfl ?_
  refine zt_word (ip' := 1084) rfl rfl rfl zi_k1 rfl rfl rfl (by omega) ?_
  refine zt_aload (ip' := 1085) rfl rfl rfl ?_
  refine zX_cJ (ip' := 1086) rfl rfl (cJ_hasTarget hN hJ (zr_sx xs (i + 1))) rfl rfl ?_
  intro q G1 F1 n1 m1 m2 hq hm
  refine zt_istore5 (ip' := 1087) rfl rfl ?_
  refine zt_aload (ip' := 1088) rfl rfl rfl ?_
  refine zt_word (ip' := 1093) rfl rfl rfl zi_k1 rfl rfl rfl (by omega) ?_
  refine zX_cM (ip' := 1094) rfl rfl hm rfl (z_ok3 (by omega) zsh_230 rfl rfl rfl) ?_
  intro G2 F2 hf ht hJ2
  refine zt_istoreK6 (ip' := 1095) rfl rfl ?_
  exact zT_bool hN rfl rfl rfl rfl rfl rfl rfl rfl rfl rfl rfl rfl rfl rfl rfl rfl rfl ht (fun h => by obtain ⟨v, z1, z2, z3⟩ := hq h; exact ⟨v, z1, z2, by rw [hf]; exact z3⟩) (kk _ _ _ _ _ _ _ hJ2 m1 m2)
theorem law_35 {LL : Nat} {xs : Nat → Int32} {N : Nat} {G F : GM} {n : Nat} {Q : Zq} {i : Int} {a5 a6 a7 a8 : Value} (hN : 241 ≤ N) (hi : 0 ≤ i ∧ i + 6 ≤ LL) (hL : (LL : Int) ≤ 100000) (hJ : JI G) (kk : ∀ (a5 a6 a7 a8 : Value) (G' F' : GM) (n' : Nat), JI G' → n ≤ n' → n' ≤ n + 1 → zX LL xs N 2095 [.ref 310, .ref 192, .ref 230, .ref 229, .int (zi i), a5, a6, a7, a8] [] G' F' n' Q) : zX LL xs N 1116 [.ref 310, .ref 192, .ref 230, .ref 229, .int (zi i), a5, a6, a7, a8] [] G F n Q := by
  refine zt_aload (ip' := 1117) rfl rfl rfl ?_
  refine zt_word (ip' := 1122) rfl rfl rfl zi_k1 rfl rfl rfl (by omega) ?_
  refine zt_aload (ip' := 1123) rfl rfl rfl ?_
  refine zX_cJ (ip' := 1124) rfl rfl (cJ_target hN hJ (zr_sx xs (i + 1))) rfl rfl ?_
  intro q G1 F1 n1 m1 m2 hq hm
  refine zt_istore5 (ip' := 1125) rfl rfl ?_
  refine zt_aload (ip' := 1126) rfl rfl rfl ?_
  refine zt_word (ip' := 1131) rfl rfl rfl zi_k1 rfl rfl rfl (by omega) ?_
  refine zX_cM (ip' := 1132) rfl rfl hm rfl (z_ok3 (by omega) zsh_230 rfl rfl rfl) ?_
  intro G2 F2 hf ht hJ2
  refine zt_istoreK6 (ip' := 1133) rfl rfl ?_
  exact zT_int hN rfl rfl rfl rfl rfl rfl rfl rfl rfl rfl rfl rfl rfl rfl ht (fun h => by obtain ⟨v, z1, z2, z3⟩ := hq h; exact ⟨v, z1, z2, by rw [hf]; exact z3⟩) (kk _ _ _ _ _ _ _ hJ2 m1 m2)
theorem law_36 {LL : Nat} {xs : Nat → Int32} {N : Nat} {G F : GM} {n : Nat} {Q : Zq} {i : Int} {a5 a6 a7 a8 : Value} (hN : 241 ≤ N) (hi : 0 ≤ i ∧ i + 6 ≤ LL) (hL : (LL : Int) ≤ 100000) (hJ : JI G) (kk : ∀ (a5 a6 a7 a8 : Value) (G' F' : GM) (n' : Nat), JI G' → n ≤ n' → n' ≤ n + 1 → zX LL xs N 2095 [.ref 310, .ref 192, .ref 230, .ref 229, .int (zi i), a5, a6, a7, a8] [] G' F' n' Q) : zX LL xs N 1151 [.ref 310, .ref 192, .ref 230, .ref 229, .int (zi i), a5, a6, a7, a8] [] G F n Q := by
  refine zt_aload (ip' := 1152) rfl rfl rfl ?_
  refine zt_word (ip' := 1157) rfl rfl rfl zi_k1 rfl rfl rfl (by omega) ?_
  refine zt_word (ip' := 1162) rfl rfl rfl zi_k2 rfl rfl rfl (by omega) ?_
  refine zt_aload (ip' := 1163) rfl rfl rfl ?_
  refine zX_cJ (ip' := 1164) rfl rfl (cJ_hasPassed hN hJ (zr_sx xs (i + 1)) (zr_sx xs (i + 2))) rfl rfl ?_
  intro q G1 F1 n1 m1 m2 hq hm
  refine zt_istore5 (ip' := 1165) rfl rfl ?_
  refine zt_aload (ip' := 1166) rfl rfl rfl ?_
  refine zt_word (ip' := 1171) rfl rfl rfl zi_k1 rfl rfl rfl (by omega) ?_
  refine zt_word (ip' := 1176) rfl rfl rfl zi_k2 rfl rfl rfl (by omega) ?_
  refine zX_cM (ip' := 1177) rfl rfl hm rfl (z_ok3 (by omega) zsh_230 rfl rfl rfl) ?_
  intro G2 F2 hf ht hJ2
  refine zt_istoreK6 (ip' := 1178) rfl rfl ?_
  exact zT_bool hN rfl rfl rfl rfl rfl rfl rfl rfl rfl rfl rfl rfl rfl rfl rfl rfl rfl ht (fun h => by obtain ⟨v, z1, z2, z3⟩ := hq h; exact ⟨v, z1, z2, by rw [hf]; exact z3⟩) (kk _ _ _ _ _ _ _ hJ2 m1 m2)
theorem law_37 {LL : Nat} {xs : Nat → Int32} {N : Nat} {G F : GM} {n : Nat} {Q : Zq} {i : Int} {a5 a6 a7 a8 : Value} (hN : 241 ≤ N) (hi : 0 ≤ i ∧ i + 6 ≤ LL) (hL : (LL : Int) ≤ 100000) (hJ : JI G) (kk : ∀ (a5 a6 a7 a8 : Value) (G' F' : GM) (n' : Nat), JI G' → n ≤ n' → n' ≤ n + 1 → zX LL xs N 2095 [.ref 310, .ref 192, .ref 230, .ref 229, .int (zi i), a5, a6, a7, a8] [] G' F' n' Q) : zX LL xs N 1199 [.ref 310, .ref 192, .ref 230, .ref 229, .int (zi i), a5, a6, a7, a8] [] G F n Q := by
  refine zt_aload (ip' := 1200) rfl rfl rfl ?_
  refine zt_word (ip' := 1205) rfl rfl rfl zi_k1 rfl rfl rfl (by omega) ?_
  refine zt_word (ip' := 1210) rfl rfl rfl zi_k2 rfl rfl rfl (by omega) ?_
  refine zt_aload (ip' := 1211) rfl rfl rfl ?_
  refine zX_cJ (ip' := 1212) rfl rfl (cJ_distrusts hN hJ (zr_sx xs (i + 1)) (zr_sx xs (i + 2))) rfl rfl ?_
  intro q G1 F1 n1 m1 m2 hq hm
  refine zt_istore5 (ip' := 1213) rfl rfl ?_
  refine zt_aload (ip' := 1214) rfl rfl rfl ?_
  refine zt_word (ip' := 1219) rfl rfl rfl zi_k1 rfl rfl rfl (by omega) ?_
  refine zt_word (ip' := 1224) rfl rfl rfl zi_k2 rfl rfl rfl (by omega) ?_
  refine zX_cM (ip' := 1225) rfl rfl hm rfl (z_ok3 (by omega) zsh_230 rfl rfl rfl) ?_
  intro G2 F2 hf ht hJ2
  refine zt_istoreK6 (ip' := 1226) rfl rfl ?_
  exact zT_bool hN rfl rfl rfl rfl rfl rfl rfl rfl rfl rfl rfl rfl rfl rfl rfl rfl rfl ht (fun h => by obtain ⟨v, z1, z2, z3⟩ := hq h; exact ⟨v, z1, z2, by rw [hf]; exact z3⟩) (kk _ _ _ _ _ _ _ hJ2 m1 m2)
theorem law_38 {LL : Nat} {xs : Nat → Int32} {N : Nat} {G F : GM} {n : Nat} {Q : Zq} {i : Int} {a5 a6 a7 a8 : Value} (hN : 241 ≤ N) (hi : 0 ≤ i ∧ i + 6 ≤ LL) (hL : (LL : Int) ≤ 100000) (hJ : JI G) (kk : ∀ (a5 a6 a7 a8 : Value) (G' F' : GM) (n' : Nat), JI G' → n ≤ n' → n' ≤ n + 1 → zX LL xs N 2095 [.ref 310, .ref 192, .ref 230, .ref 229, .int (zi i), a5, a6, a7, a8] [] G' F' n' Q) : zX LL xs N 1247 [.ref 310, .ref 192, .ref 230, .ref 229, .int (zi i), a5, a6, a7, a8] [] G F n Q := by
  refine zt_aload (ip' := 1248) rfl rfl rfl ?_
  refine zt_word (ip' := 1253) rfl rfl rfl zi_k1 rfl rfl rfl (by omega) ?_
  refine zt_word (ip' := 1258) rfl rfl rfl zi_k2 rfl rfl rfl (by omega) ?_
  refine zt_aload (ip' := 1259) rfl rfl rfl ?_
  refine zX_cJ (ip' := 1260) rfl rfl (cJ_sees hN hJ (zr_sx xs (i + 1)) (zr_sx xs (i + 2))) rfl rfl ?_
  intro q G1 F1 n1 m1 m2 hq hm
  refine zt_istore5 (ip' := 1261) rfl rfl ?_
  refine zt_aload (ip' := 1262) rfl rfl rfl ?_
  refine zt_word (ip' := 1267) rfl rfl rfl zi_k1 rfl rfl rfl (by omega) ?_
  refine zt_word (ip' := 1272) rfl rfl rfl zi_k2 rfl rfl rfl (by omega) ?_
  refine zX_cM (ip' := 1273) rfl rfl hm rfl (z_ok3 (by omega) zsh_230 rfl rfl rfl) ?_
  intro G2 F2 hf ht hJ2
  refine zt_istoreK6 (ip' := 1274) rfl rfl ?_
  exact zT_bool hN rfl rfl rfl rfl rfl rfl rfl rfl rfl rfl rfl rfl rfl rfl rfl rfl rfl ht (fun h => by obtain ⟨v, z1, z2, z3⟩ := hq h; exact ⟨v, z1, z2, by rw [hf]; exact z3⟩) (kk _ _ _ _ _ _ _ hJ2 m1 m2)
theorem law_39 {LL : Nat} {xs : Nat → Int32} {N : Nat} {G F : GM} {n : Nat} {Q : Zq} {i : Int} {a5 a6 a7 a8 : Value} (hN : 241 ≤ N) (hi : 0 ≤ i ∧ i + 6 ≤ LL) (hL : (LL : Int) ≤ 100000) (hJ : JI G) (kk : ∀ (a5 a6 a7 a8 : Value) (G' F' : GM) (n' : Nat), JI G' → n ≤ n' → n' ≤ n + 1 → zX LL xs N 2095 [.ref 310, .ref 192, .ref 230, .ref 229, .int (zi i), a5, a6, a7, a8] [] G' F' n' Q) : zX LL xs N 1295 [.ref 310, .ref 192, .ref 230, .ref 229, .int (zi i), a5, a6, a7, a8] [] G F n Q := by
  refine zt_aload (ip' := 1296) rfl rfl rfl ?_
  refine zt_word (ip' := 1301) rfl rfl rfl zi_k1 rfl rfl rfl (by omega) ?_
  refine zt_aload (ip' := 1302) rfl rfl rfl ?_
  refine zX_cJ (ip' := 1303) rfl rfl (cJ_nearestLight hN hJ (zr_sx xs (i + 1))) rfl rfl ?_
  intro q G1 F1 n1 m1 m2 hq hm
  refine zt_istore5 (ip' := 1304) rfl rfl ?_
  refine zt_aload (ip' := 1305) rfl rfl rfl ?_
  refine zt_word (ip' := 1310) rfl rfl rfl zi_k1 rfl rfl rfl (by omega) ?_
  refine zX_cM (ip' := 1311) rfl rfl hm rfl (z_ok3 (by omega) zsh_230 rfl rfl rfl) ?_
  intro G2 F2 hf ht hJ2
  refine zt_istoreK6 (ip' := 1312) rfl rfl ?_
  exact zT_int hN rfl rfl rfl rfl rfl rfl rfl rfl rfl rfl rfl rfl rfl rfl ht (fun h => by obtain ⟨v, z1, z2, z3⟩ := hq h; exact ⟨v, z1, z2, by rw [hf]; exact z3⟩) (kk _ _ _ _ _ _ _ hJ2 m1 m2)
theorem law_40 {LL : Nat} {xs : Nat → Int32} {N : Nat} {G F : GM} {n : Nat} {Q : Zq} {i : Int} {a5 a6 a7 a8 : Value} (hN : 241 ≤ N) (hi : 0 ≤ i ∧ i + 6 ≤ LL) (hL : (LL : Int) ≤ 100000) (hJ : JI G) (kk : ∀ (a5 a6 a7 a8 : Value) (G' F' : GM) (n' : Nat), JI G' → n ≤ n' → n' ≤ n + 1 → zX LL xs N 2095 [.ref 310, .ref 192, .ref 230, .ref 229, .int (zi i), a5, a6, a7, a8] [] G' F' n' Q) : zX LL xs N 1330 [.ref 310, .ref 192, .ref 230, .ref 229, .int (zi i), a5, a6, a7, a8] [] G F n Q := by
  refine zT_dir hN rfl rfl rfl rfl rfl (cJ_walkingCount hN hJ) (z_ok3 (by omega) zsh_192 rfl rfl rfl) (fun v => z_ok3 (by omega) zsh_230 rfl rfl rfl) ?_
  intro G1 F1 hJ1
  exact kk _ _ _ _ _ _ _ hJ1 (Nat.le_refl _) (Nat.le_succ _)
theorem law_41 {LL : Nat} {xs : Nat → Int32} {N : Nat} {G F : GM} {n : Nat} {Q : Zq} {i : Int} {a5 a6 a7 a8 : Value} (hN : 241 ≤ N) (hi : 0 ≤ i ∧ i + 6 ≤ LL) (hL : (LL : Int) ≤ 100000) (hJ : JI G) (kk : ∀ (a5 a6 a7 a8 : Value) (G' F' : GM) (n' : Nat), JI G' → n ≤ n' → n' ≤ n + 1 → zX LL xs N 2095 [.ref 310, .ref 192, .ref 230, .ref 229, .int (zi i), a5, a6, a7, a8] [] G' F' n' Q) : zX LL xs N 1337 [.ref 310, .ref 192, .ref 230, .ref 229, .int (zi i), a5, a6, a7, a8] [] G F n Q := by
  refine zT_dir hN rfl rfl rfl rfl rfl (cJ_arrivedCount hN hJ) (z_ok3 (by omega) zsh_192 rfl rfl rfl) (fun v => z_ok3 (by omega) zsh_230 rfl rfl rfl) ?_
  intro G1 F1 hJ1
  exact kk _ _ _ _ _ _ _ hJ1 (Nat.le_refl _) (Nat.le_succ _)
theorem law_42 {LL : Nat} {xs : Nat → Int32} {N : Nat} {G F : GM} {n : Nat} {Q : Zq} {i : Int} {a5 a6 a7 a8 : Value} (hN : 241 ≤ N) (hi : 0 ≤ i ∧ i + 6 ≤ LL) (hL : (LL : Int) ≤ 100000) (hJ : JI G) (kk : ∀ (a5 a6 a7 a8 : Value) (G' F' : GM) (n' : Nat), JI G' → n ≤ n' → n' ≤ n + 1 → zX LL xs N 2095 [.ref 310, .ref 192, .ref 230, .ref 229, .int (zi i), a5, a6, a7, a8] [] G' F' n' Q) : zX LL xs N 1344 [.ref 310, .ref 192, .ref 230, .ref 229, .int (zi i), a5, a6, a7, a8] [] G F n Q := by
  refine zT_dir hN rfl rfl rfl rfl rfl (cJ_sunkCount hN hJ) (z_ok3 (by omega) zsh_192 rfl rfl rfl) (fun v => z_ok3 (by omega) zsh_230 rfl rfl rfl) ?_
  intro G1 F1 hJ1
  exact kk _ _ _ _ _ _ _ hJ1 (Nat.le_refl _) (Nat.le_succ _)
theorem law_43 {LL : Nat} {xs : Nat → Int32} {N : Nat} {G F : GM} {n : Nat} {Q : Zq} {i : Int} {a5 a6 a7 a8 : Value} (hN : 241 ≤ N) (hi : 0 ≤ i ∧ i + 6 ≤ LL) (hL : (LL : Int) ≤ 100000) (hJ : JI G) (kk : ∀ (a5 a6 a7 a8 : Value) (G' F' : GM) (n' : Nat), JI G' → n ≤ n' → n' ≤ n + 1 → zX LL xs N 2095 [.ref 310, .ref 192, .ref 230, .ref 229, .int (zi i), a5, a6, a7, a8] [] G' F' n' Q) : zX LL xs N 1351 [.ref 310, .ref 192, .ref 230, .ref 229, .int (zi i), a5, a6, a7, a8] [] G F n Q := by
  refine zt_aload (ip' := 1352) rfl rfl rfl ?_
  refine zX_c (ip' := 1353) rfl rfl (cJ_arrivedShare hN hJ) rfl rfl (z_ok3 (by omega) zsh_192 rfl rfl rfl) ?_ ?_
  · rintro ex G1 F1 n1 ⟨v, -, h, -⟩
    cases h
  rintro w G1 F1 n1 ⟨v, hn9, h, rfl, hm⟩
  cases h
  refine zt_f2d (ip' := 1354) hn9 rfl rfl ?_
  refine zt_dstore5 (ip' := 1355) rfl rfl ?_
  refine zt_aload (ip' := 1356) rfl rfl rfl ?_
  refine zX_c (ip' := 1357) rfl rfl (hm F1 n1) rfl rfl (z_ok3 (by omega) zsh_230 rfl rfl rfl) ?_ ?_
  · rintro ex G2 F2 n2 ⟨h, -⟩
    cases h
  rintro w G2 F2 n2 ⟨h, rfl, hJ2⟩
  cases h
  refine zt_f2d (ip' := 1358) hn9 rfl rfl ?_
  refine zt_dstore7 (ip' := 1359) rfl rfl ?_
  exact zT_dbl rfl rfl rfl rfl rfl rfl rfl rfl rfl rfl rfl rfl rfl (kk _ _ _ _ _ _ _ hJ2 (Nat.le_refl _) (Nat.le_succ _))
theorem law_44 {LL : Nat} {xs : Nat → Int32} {N : Nat} {G F : GM} {n : Nat} {Q : Zq} {i : Int} {a5 a6 a7 a8 : Value} (hN : 241 ≤ N) (hi : 0 ≤ i ∧ i + 6 ≤ LL) (hL : (LL : Int) ≤ 100000) (hJ : JI G) (kk : ∀ (a5 a6 a7 a8 : Value) (G' F' : GM) (n' : Nat), JI G' → n ≤ n' → n' ≤ n + 1 → zX LL xs N 2095 [.ref 310, .ref 192, .ref 230, .ref 229, .int (zi i), a5, a6, a7, a8] [] G' F' n' Q) : zX LL xs N 1374 [.ref 310, .ref 192, .ref 230, .ref 229, .int (zi i), a5, a6, a7, a8] [] G F n Q := by
  refine zt_aload (ip' := 1375) rfl rfl rfl ?_
  refine zX_c (ip' := 1376) rfl rfl (cJ_meanSteps hN hJ) rfl rfl (z_ok3 (by omega) zsh_192 rfl rfl rfl) ?_ ?_
  · rintro ex G1 F1 n1 ⟨v, h, -⟩
    cases h
  rintro w G1 F1 n1 ⟨v, h, rfl, hm⟩
  cases h
  refine zt_dstore5 (ip' := 1377) rfl rfl ?_
  refine zt_aload (ip' := 1378) rfl rfl rfl ?_
  refine zX_c (ip' := 1379) rfl rfl (hm F1 n1) rfl rfl (z_ok3 (by omega) zsh_230 rfl rfl rfl) ?_ ?_
  · rintro ex G2 F2 n2 ⟨h, -⟩
    cases h
  rintro w G2 F2 n2 ⟨h, rfl, hJ2⟩
  cases h
  refine zt_dstore7 (ip' := 1380) rfl rfl ?_
  exact zT_dbl rfl rfl rfl rfl rfl rfl rfl rfl rfl rfl rfl rfl rfl (kk _ _ _ _ _ _ _ hJ2 (Nat.le_refl _) (Nat.le_succ _))
theorem law_45 {LL : Nat} {xs : Nat → Int32} {N : Nat} {G F : GM} {n : Nat} {Q : Zq} {i : Int} {a5 a6 a7 a8 : Value} (hN : 241 ≤ N) (hi : 0 ≤ i ∧ i + 6 ≤ LL) (hL : (LL : Int) ≤ 100000) (hJ : JI G) (kk : ∀ (a5 a6 a7 a8 : Value) (G' F' : GM) (n' : Nat), JI G' → n ≤ n' → n' ≤ n + 1 → zX LL xs N 2095 [.ref 310, .ref 192, .ref 230, .ref 229, .int (zi i), a5, a6, a7, a8] [] G' F' n' Q) : zX LL xs N 1395 [.ref 310, .ref 192, .ref 230, .ref 229, .int (zi i), a5, a6, a7, a8] [] G F n Q := by
  refine zt_aload (ip' := 1396) rfl rfl rfl ?_
  refine zt_word (ip' := 1401) rfl rfl rfl zi_k1 rfl rfl rfl (by omega) ?_
  refine zt_aload (ip' := 1402) rfl rfl rfl ?_
  refine zX_cJ (ip' := 1403) rfl rfl (cJ_ticksUntilDone hN hJ (zr_sx xs (i + 1))) rfl rfl ?_
  intro q G1 F1 n1 m1 m2 hq hm
  refine zt_istore5 (ip' := 1404) rfl rfl ?_
  refine zt_aload (ip' := 1405) rfl rfl rfl ?_
  refine zt_word (ip' := 1410) rfl rfl rfl zi_k1 rfl rfl rfl (by omega) ?_
  refine zX_cM (ip' := 1411) rfl rfl hm rfl (z_ok3 (by omega) zsh_230 rfl rfl rfl) ?_
  intro G2 F2 hf ht hJ2
  refine zt_istoreK6 (ip' := 1412) rfl rfl ?_
  exact zT_int hN rfl rfl rfl rfl rfl rfl rfl rfl rfl rfl rfl rfl rfl rfl ht (fun h => by obtain ⟨v, z1, z2, z3⟩ := hq h; exact ⟨v, z1, z2, by rw [hf]; exact z3⟩) (kk _ _ _ _ _ _ _ hJ2 m1 m2)
theorem law_46 {LL : Nat} {xs : Nat → Int32} {N : Nat} {G F : GM} {n : Nat} {Q : Zq} {i : Int} {a5 a6 a7 a8 : Value} (hN : 241 ≤ N) (hi : 0 ≤ i ∧ i + 6 ≤ LL) (hL : (LL : Int) ≤ 100000) (hJ : JI G) (kk : ∀ (a5 a6 a7 a8 : Value) (G' F' : GM) (n' : Nat), JI G' → n ≤ n' → n' ≤ n + 1 → zX LL xs N 2095 [.ref 310, .ref 192, .ref 230, .ref 229, .int (zi i), a5, a6, a7, a8] [] G' F' n' Q) : zX LL xs N 1430 [.ref 310, .ref 192, .ref 230, .ref 229, .int (zi i), a5, a6, a7, a8] [] G F n Q := by
  refine zt_aload (ip' := 1431) rfl rfl rfl ?_
  refine zt_word (ip' := 1436) rfl rfl rfl zi_k1 rfl rfl rfl (by omega) ?_
  refine zt_aload (ip' := 1437) rfl rfl rfl ?_
  refine zX_cJ (ip' := 1438) rfl rfl (cJ_willArrive hN hJ (zr_sx xs (i + 1))) rfl rfl ?_
  intro q G1 F1 n1 m1 m2 hq hm
  refine zt_istore5 (ip' := 1439) rfl rfl ?_
  refine zt_aload (ip' := 1440) rfl rfl rfl ?_
  refine zt_word (ip' := 1445) rfl rfl rfl zi_k1 rfl rfl rfl (by omega) ?_
  refine zX_cM (ip' := 1446) rfl rfl hm rfl (z_ok3 (by omega) zsh_230 rfl rfl rfl) ?_
  intro G2 F2 hf ht hJ2
  refine zt_istoreK6 (ip' := 1447) rfl rfl ?_
  exact zT_bool hN rfl rfl rfl rfl rfl rfl rfl rfl rfl rfl rfl rfl rfl rfl rfl rfl rfl ht (fun h => by obtain ⟨v, z1, z2, z3⟩ := hq h; exact ⟨v, z1, z2, by rw [hf]; exact z3⟩) (kk _ _ _ _ _ _ _ hJ2 m1 m2)
theorem law_47 {LL : Nat} {xs : Nat → Int32} {N : Nat} {G F : GM} {n : Nat} {Q : Zq} {i : Int} {a5 a6 a7 a8 : Value} (hN : 241 ≤ N) (hi : 0 ≤ i ∧ i + 6 ≤ LL) (hL : (LL : Int) ≤ 100000) (hJ : JI G) (kk : ∀ (a5 a6 a7 a8 : Value) (G' F' : GM) (n' : Nat), JI G' → n ≤ n' → n' ≤ n + 1 → zX LL xs N 2095 [.ref 310, .ref 192, .ref 230, .ref 229, .int (zi i), a5, a6, a7, a8] [] G' F' n' Q) : zX LL xs N 1468 [.ref 310, .ref 192, .ref 230, .ref 229, .int (zi i), a5, a6, a7, a8] [] G F n Q := by
  refine zt_aload (ip' := 1469) rfl rfl rfl ?_
  refine zt_word (ip' := 1474) rfl rfl rfl zi_k1 rfl rfl rfl (by omega) ?_
  refine zt_aload (ip' := 1475) rfl rfl rfl ?_
  refine zX_cJ (ip' := 1476) rfl rfl (cJ_arrivedAfter hN hJ (zr_sx xs (i + 1))) rfl rfl ?_
  intro q G1 F1 n1 m1 m2 hq hm
  refine zt_istore5 (ip' := 1477) rfl rfl ?_
  refine zt_aload (ip' := 1478) rfl rfl rfl ?_
  refine zt_word (ip' := 1483) rfl rfl rfl zi_k1 rfl rfl rfl (by omega) ?_
  refine zX_cM (ip' := 1484) rfl rfl hm rfl (z_ok3 (by omega) zsh_230 rfl rfl rfl) ?_
  intro G2 F2 hf ht hJ2
  refine zt_istoreK6 (ip' := 1485) rfl rfl ?_
  exact zT_int hN rfl rfl rfl rfl rfl rfl rfl rfl rfl rfl rfl rfl rfl rfl ht (fun h => by obtain ⟨v, z1, z2, z3⟩ := hq h; exact ⟨v, z1, z2, by rw [hf]; exact z3⟩) (kk _ _ _ _ _ _ _ hJ2 m1 m2)
theorem law_48 {LL : Nat} {xs : Nat → Int32} {N : Nat} {G F : GM} {n : Nat} {Q : Zq} {i : Int} {a5 a6 a7 a8 : Value} (hN : 241 ≤ N) (hi : 0 ≤ i ∧ i + 6 ≤ LL) (hL : (LL : Int) ≤ 100000) (hJ : JI G) (kk : ∀ (a5 a6 a7 a8 : Value) (G' F' : GM) (n' : Nat), JI G' → n ≤ n' → n' ≤ n + 1 → zX LL xs N 2095 [.ref 310, .ref 192, .ref 230, .ref 229, .int (zi i), a5, a6, a7, a8] [] G' F' n' Q) : zX LL xs N 1503 [.ref 310, .ref 192, .ref 230, .ref 229, .int (zi i), a5, a6, a7, a8] [] G F n Q := by
  refine zt_aload (ip' := 1504) rfl rfl rfl ?_
  refine zt_word (ip' := 1509) rfl rfl rfl zi_k1 rfl rfl rfl (by omega) ?_
  refine zt_aload (ip' := 1510) rfl rfl rfl ?_
  refine zX_cJ (ip' := 1511) rfl rfl (cJ_sunkAfter hN hJ (zr_sx xs (i + 1))) rfl rfl ?_
  intro q G1 F1 n1 m1 m2 hq hm
  refine zt_istore5 (ip' := 1512) rfl rfl ?_
  refine zt_aload (ip' := 1513) rfl rfl rfl ?_
  refine zt_word (ip' := 1518) rfl rfl rfl zi_k1 rfl rfl rfl (by omega) ?_
  refine zX_cM (ip' := 1519) rfl rfl hm rfl (z_ok3 (by omega) zsh_230 rfl rfl rfl) ?_
  intro G2 F2 hf ht hJ2
  refine zt_istoreK6 (ip' := 1520) rfl rfl ?_
  exact zT_int hN rfl rfl rfl rfl rfl rfl rfl rfl rfl rfl rfl rfl rfl rfl ht (fun h => by obtain ⟨v, z1, z2, z3⟩ := hq h; exact ⟨v, z1, z2, by rw [hf]; exact z3⟩) (kk _ _ _ _ _ _ _ hJ2 m1 m2)
theorem law_49 {LL : Nat} {xs : Nat → Int32} {N : Nat} {G F : GM} {n : Nat} {Q : Zq} {i : Int} {a5 a6 a7 a8 : Value} (hN : 241 ≤ N) (hi : 0 ≤ i ∧ i + 6 ≤ LL) (hL : (LL : Int) ≤ 100000) (hJ : JI G) (kk : ∀ (a5 a6 a7 a8 : Value) (G' F' : GM) (n' : Nat), JI G' → n ≤ n' → n' ≤ n + 1 → zX LL xs N 2095 [.ref 310, .ref 192, .ref 230, .ref 229, .int (zi i), a5, a6, a7, a8] [] G' F' n' Q) : zX LL xs N 1538 [.ref 310, .ref 192, .ref 230, .ref 229, .int (zi i), a5, a6, a7, a8] [] G F n Q := by
  refine zT_dir hN rfl rfl rfl rfl rfl (cJ_bestClearness hN hJ) (z_ok3 (by omega) zsh_192 rfl rfl rfl) (fun v => z_ok3 (by omega) zsh_230 rfl rfl rfl) ?_
  intro G1 F1 hJ1
  exact kk _ _ _ _ _ _ _ hJ1 (Nat.le_refl _) (Nat.le_succ _)
theorem law_50 {LL : Nat} {xs : Nat → Int32} {N : Nat} {G F : GM} {n : Nat} {Q : Zq} {i : Int} {a5 a6 a7 a8 : Value} (hN : 241 ≤ N) (hi : 0 ≤ i ∧ i + 6 ≤ LL) (hL : (LL : Int) ≤ 100000) (hJ : JI G) (kk : ∀ (a5 a6 a7 a8 : Value) (G' F' : GM) (n' : Nat), JI G' → n ≤ n' → n' ≤ n + 1 → zX LL xs N 2095 [.ref 310, .ref 192, .ref 230, .ref 229, .int (zi i), a5, a6, a7, a8] [] G' F' n' Q) : zX LL xs N 1545 [.ref 310, .ref 192, .ref 230, .ref 229, .int (zi i), a5, a6, a7, a8] [] G F n Q := by
  refine zt_aload (ip' := 1546) rfl rfl rfl ?_
  refine zt_word (ip' := 1551) rfl rfl rfl zi_k1 rfl rfl rfl (by omega) ?_
  refine zt_aload (ip' := 1552) rfl rfl rfl ?_
  refine zX_cJ (ip' := 1553) rfl rfl (cJ_tick hN hJ (zr_sx xs (i + 1))) rfl rfl ?_
  intro q G1 F1 n1 m1 m2 hq hm
  refine zt_istore5 (ip' := 1554) rfl rfl ?_
  refine zt_aload (ip' := 1555) rfl rfl rfl ?_
  refine zt_word (ip' := 1560) rfl rfl rfl zi_k1 rfl rfl rfl (by omega) ?_
  refine zX_cM (ip' := 1561) rfl rfl hm rfl (z_ok3 (by omega) zsh_230 rfl rfl rfl) ?_
  intro G2 F2 hf ht hJ2
  refine zt_istoreK6 (ip' := 1562) rfl rfl ?_
  exact zT_int hN rfl rfl rfl rfl rfl rfl rfl rfl rfl rfl rfl rfl rfl rfl ht (fun h => by obtain ⟨v, z1, z2, z3⟩ := hq h; exact ⟨v, z1, z2, by rw [hf]; exact z3⟩) (kk _ _ _ _ _ _ _ hJ2 m1 m2)
theorem law_51 {LL : Nat} {xs : Nat → Int32} {N : Nat} {G F : GM} {n : Nat} {Q : Zq} {i : Int} {a5 a6 a7 a8 : Value} (hN : 241 ≤ N) (hi : 0 ≤ i ∧ i + 6 ≤ LL) (hL : (LL : Int) ≤ 100000) (hJ : JI G) (kk : ∀ (a5 a6 a7 a8 : Value) (G' F' : GM) (n' : Nat), JI G' → n ≤ n' → n' ≤ n + 1 → zX LL xs N 2095 [.ref 310, .ref 192, .ref 230, .ref 229, .int (zi i), a5, a6, a7, a8] [] G' F' n' Q) : zX LL xs N 1580 [.ref 310, .ref 192, .ref 230, .ref 229, .int (zi i), a5, a6, a7, a8] [] G F n Q := by
  refine zt_aload (ip' := 1581) rfl rfl rfl ?_
  refine zt_word (ip' := 1586) rfl rfl rfl zi_k1 rfl rfl rfl (by omega) ?_
  refine zt_word (ip' := 1591) rfl rfl rfl zi_k2 rfl rfl rfl (by omega) ?_
  refine zt_word (ip' := 1596) rfl rfl rfl zi_k3 rfl rfl rfl (by omega) ?_
  refine zt_word (ip' := 1601) rfl rfl rfl zi_k4 rfl rfl rfl (by omega) ?_
  refine zt_nz (ip' := 1605) (zr_sx xs (i + 4)) rfl rfl rfl rfl rfl ?_
  refine zt_aload (ip' := 1606) rfl rfl rfl ?_
  refine zX_cJ (ip' := 1607) rfl rfl (cJ_addLight hN hJ (zr_sx xs (i + 1)) (zr_sx xs (i + 2)) (zr_sx xs (i + 3)) (zb_01 (sx xs (i + 4) ≠ 0))) rfl rfl ?_
  intro q G1 F1 n1 m1 m2 hq hm
  refine zt_istore5 (ip' := 1608) rfl rfl ?_
  refine zt_aload (ip' := 1609) rfl rfl rfl ?_
  refine zt_word (ip' := 1614) rfl rfl rfl zi_k1 rfl rfl rfl (by omega) ?_
  refine zt_word (ip' := 1619) rfl rfl rfl zi_k2 rfl rfl rfl (by omega) ?_
  refine zt_word (ip' := 1624) rfl rfl rfl zi_k3 rfl rfl rfl (by omega) ?_
  refine zt_word (ip' := 1629) rfl rfl rfl zi_k4 rfl rfl rfl (by omega) ?_
  refine zt_nz (ip' := 1633) (zr_sx xs (i + 4)) rfl rfl rfl rfl rfl ?_
  refine zX_cM (ip' := 1634) rfl rfl hm rfl (z_ok3 (by omega) zsh_230 rfl rfl rfl) ?_
  intro G2 F2 hf ht hJ2
  refine zt_istoreK6 (ip' := 1635) rfl rfl ?_
  exact zT_int hN rfl rfl rfl rfl rfl rfl rfl rfl rfl rfl rfl rfl rfl rfl ht (fun h => by obtain ⟨v, z1, z2, z3⟩ := hq h; exact ⟨v, z1, z2, by rw [hf]; exact z3⟩) (kk _ _ _ _ _ _ _ hJ2 m1 m2)
theorem law_52 {LL : Nat} {xs : Nat → Int32} {N : Nat} {G F : GM} {n : Nat} {Q : Zq} {i : Int} {a5 a6 a7 a8 : Value} (hN : 241 ≤ N) (hi : 0 ≤ i ∧ i + 6 ≤ LL) (hL : (LL : Int) ≤ 100000) (hJ : JI G) (kk : ∀ (a5 a6 a7 a8 : Value) (G' F' : GM) (n' : Nat), JI G' → n ≤ n' → n' ≤ n + 1 → zX LL xs N 2095 [.ref 310, .ref 192, .ref 230, .ref 229, .int (zi i), a5, a6, a7, a8] [] G' F' n' Q) : zX LL xs N 1653 [.ref 310, .ref 192, .ref 230, .ref 229, .int (zi i), a5, a6, a7, a8] [] G F n Q := by
  refine zt_aload (ip' := 1654) rfl rfl rfl ?_
  refine zt_word (ip' := 1659) rfl rfl rfl zi_k1 rfl rfl rfl (by omega) ?_
  refine zt_word (ip' := 1664) rfl rfl rfl zi_k2 rfl rfl rfl (by omega) ?_
  refine zt_aload (ip' := 1665) rfl rfl rfl ?_
  refine zX_cJ (ip' := 1666) rfl rfl (cJ_addTraveller hN hJ (zr_sx xs (i + 1)) (zr_sx xs (i + 2))) rfl rfl ?_
  intro q G1 F1 n1 m1 m2 hq hm
  refine zt_istore5 (ip' := 1667) rfl rfl ?_
  refine zt_aload (ip' := 1668) rfl rfl rfl ?_
  refine zt_word (ip' := 1673) rfl rfl rfl zi_k1 rfl rfl rfl (by omega) ?_
  refine zt_word (ip' := 1678) rfl rfl rfl zi_k2 rfl rfl rfl (by omega) ?_
  refine zX_cM (ip' := 1679) rfl rfl hm rfl (z_ok3 (by omega) zsh_230 rfl rfl rfl) ?_
  intro G2 F2 hf ht hJ2
  refine zt_istoreK6 (ip' := 1680) rfl rfl ?_
  exact zT_int hN rfl rfl rfl rfl rfl rfl rfl rfl rfl rfl rfl rfl rfl rfl ht (fun h => by obtain ⟨v, z1, z2, z3⟩ := hq h; exact ⟨v, z1, z2, by rw [hf]; exact z3⟩) (kk _ _ _ _ _ _ _ hJ2 m1 m2)
theorem law_53 {LL : Nat} {xs : Nat → Int32} {N : Nat} {G F : GM} {n : Nat} {Q : Zq} {i : Int} {a5 a6 a7 a8 : Value} (hN : 241 ≤ N) (hi : 0 ≤ i ∧ i + 6 ≤ LL) (hL : (LL : Int) ≤ 100000) (hJ : JI G) (kk : ∀ (a5 a6 a7 a8 : Value) (G' F' : GM) (n' : Nat), JI G' → n ≤ n' → n' ≤ n + 1 → zX LL xs N 2095 [.ref 310, .ref 192, .ref 230, .ref 229, .int (zi i), a5, a6, a7, a8] [] G' F' n' Q) : zX LL xs N 1698 [.ref 310, .ref 192, .ref 230, .ref 229, .int (zi i), a5, a6, a7, a8] [] G F n Q := by
  refine zt_aload (ip' := 1699) rfl rfl rfl ?_
  refine zt_word (ip' := 1704) rfl rfl rfl zi_k1 rfl rfl rfl (by omega) ?_
  refine zt_word (ip' := 1709) rfl rfl rfl zi_k2 rfl rfl rfl (by omega) ?_
  refine zt_aload (ip' := 1710) rfl rfl rfl ?_
  refine zX_cJ (ip' := 1711) rfl rfl (cJ_setSuccessor hN hJ (zr_sx xs (i + 1)) (zr_sx xs (i + 2))) rfl rfl ?_
  intro q G1 F1 n1 m1 m2 hq hm
  refine zt_istore5 (ip' := 1712) rfl rfl ?_
  refine zt_aload (ip' := 1713) rfl rfl rfl ?_
  refine zt_word (ip' := 1718) rfl rfl rfl zi_k1 rfl rfl rfl (by omega) ?_
  refine zt_word (ip' := 1723) rfl rfl rfl zi_k2 rfl rfl rfl (by omega) ?_
  refine zX_cM (ip' := 1724) rfl rfl hm rfl (z_ok3 (by omega) zsh_230 rfl rfl rfl) ?_
  intro G2 F2 hf ht hJ2
  refine zt_istoreK6 (ip' := 1725) rfl rfl ?_
  exact zT_int hN rfl rfl rfl rfl rfl rfl rfl rfl rfl rfl rfl rfl rfl rfl ht (fun h => by obtain ⟨v, z1, z2, z3⟩ := hq h; exact ⟨v, z1, z2, by rw [hf]; exact z3⟩) (kk _ _ _ _ _ _ _ hJ2 m1 m2)
theorem law_54 {LL : Nat} {xs : Nat → Int32} {N : Nat} {G F : GM} {n : Nat} {Q : Zq} {i : Int} {a5 a6 a7 a8 : Value} (hN : 241 ≤ N) (hi : 0 ≤ i ∧ i + 6 ≤ LL) (hL : (LL : Int) ≤ 100000) (hJ : JI G) (kk : ∀ (a5 a6 a7 a8 : Value) (G' F' : GM) (n' : Nat), JI G' → n ≤ n' → n' ≤ n + 1 → zX LL xs N 2095 [.ref 310, .ref 192, .ref 230, .ref 229, .int (zi i), a5, a6, a7, a8] [] G' F' n' Q) : zX LL xs N 1743 [.ref 310, .ref 192, .ref 230, .ref 229, .int (zi i), a5, a6, a7, a8] [] G F n Q := by
  refine zt_aload (ip' := 1744) rfl rfl rfl ?_
  refine zt_word (ip' := 1749) rfl rfl rfl zi_k1 rfl rfl rfl (by omega) ?_
  refine zt_aload (ip' := 1750) rfl rfl rfl ?_
  refine zX_cJ (ip' := 1751) rfl rfl (cJ_clearSuccessor hN hJ (zr_sx xs (i + 1))) rfl rfl ?_
  intro q G1 F1 n1 m1 m2 hq hm
  refine zt_istore5 (ip' := 1752) rfl rfl ?_
  refine zt_aload (ip' := 1753) rfl rfl rfl ?_
  refine zt_word (ip' := 1758) rfl rfl rfl zi_k1 rfl rfl rfl (by omega) ?_
  refine zX_cM (ip' := 1759) rfl rfl hm rfl (z_ok3 (by omega) zsh_230 rfl rfl rfl) ?_
  intro G2 F2 hf ht hJ2
  refine zt_istoreK6 (ip' := 1760) rfl rfl ?_
  exact zT_int hN rfl rfl rfl rfl rfl rfl rfl rfl rfl rfl rfl rfl rfl rfl ht (fun h => by obtain ⟨v, z1, z2, z3⟩ := hq h; exact ⟨v, z1, z2, by rw [hf]; exact z3⟩) (kk _ _ _ _ _ _ _ hJ2 m1 m2)
theorem law_55 {LL : Nat} {xs : Nat → Int32} {N : Nat} {G F : GM} {n : Nat} {Q : Zq} {i : Int} {a5 a6 a7 a8 : Value} (hN : 241 ≤ N) (hi : 0 ≤ i ∧ i + 6 ≤ LL) (hL : (LL : Int) ≤ 100000) (hJ : JI G) (kk : ∀ (a5 a6 a7 a8 : Value) (G' F' : GM) (n' : Nat), JI G' → n ≤ n' → n' ≤ n + 1 → zX LL xs N 2095 [.ref 310, .ref 192, .ref 230, .ref 229, .int (zi i), a5, a6, a7, a8] [] G' F' n' Q) : zX LL xs N 1778 [.ref 310, .ref 192, .ref 230, .ref 229, .int (zi i), a5, a6, a7, a8] [] G F n Q := by
  refine zt_aload (ip' := 1779) rfl rfl rfl ?_
  refine zt_word (ip' := 1784) rfl rfl rfl zi_k1 rfl rfl rfl (by omega) ?_
  refine zt_word (ip' := 1789) rfl rfl rfl zi_k2 rfl rfl rfl (by omega) ?_
  refine zt_word (ip' := 1794) rfl rfl rfl zi_k3 rfl rfl rfl (by omega) ?_
  refine zt_aload (ip' := 1795) rfl rfl rfl ?_
  refine zX_cJ (ip' := 1796) rfl rfl (cJ_layPlank hN hJ (zr_sx xs (i + 1)) (zr_sx xs (i + 2)) (zr_sx xs (i + 3))) rfl rfl ?_
  intro q G1 F1 n1 m1 m2 hq hm
  refine zt_istore5 (ip' := 1797) rfl rfl ?_
  refine zt_aload (ip' := 1798) rfl rfl rfl ?_
  refine zt_word (ip' := 1803) rfl rfl rfl zi_k1 rfl rfl rfl (by omega) ?_
  refine zt_word (ip' := 1808) rfl rfl rfl zi_k2 rfl rfl rfl (by omega) ?_
  refine zt_word (ip' := 1813) rfl rfl rfl zi_k3 rfl rfl rfl (by omega) ?_
  refine zX_cM (ip' := 1814) rfl rfl hm rfl (z_ok3 (by omega) zsh_230 rfl rfl rfl) ?_
  intro G2 F2 hf ht hJ2
  refine zt_istoreK6 (ip' := 1815) rfl rfl ?_
  exact zT_int hN rfl rfl rfl rfl rfl rfl rfl rfl rfl rfl rfl rfl rfl rfl ht (fun h => by obtain ⟨v, z1, z2, z3⟩ := hq h; exact ⟨v, z1, z2, by rw [hf]; exact z3⟩) (kk _ _ _ _ _ _ _ hJ2 m1 m2)
theorem law_56 {LL : Nat} {xs : Nat → Int32} {N : Nat} {G F : GM} {n : Nat} {Q : Zq} {i : Int} {a5 a6 a7 a8 : Value} (hN : 241 ≤ N) (hi : 0 ≤ i ∧ i + 6 ≤ LL) (hL : (LL : Int) ≤ 100000) (hJ : JI G) (kk : ∀ (a5 a6 a7 a8 : Value) (G' F' : GM) (n' : Nat), JI G' → n ≤ n' → n' ≤ n + 1 → zX LL xs N 2095 [.ref 310, .ref 192, .ref 230, .ref 229, .int (zi i), a5, a6, a7, a8] [] G' F' n' Q) : zX LL xs N 1833 [.ref 310, .ref 192, .ref 230, .ref 229, .int (zi i), a5, a6, a7, a8] [] G F n Q := by
  refine zt_aload (ip' := 1834) rfl rfl rfl ?_
  refine zt_word (ip' := 1839) rfl rfl rfl zi_k1 rfl rfl rfl (by omega) ?_
  refine zt_aload (ip' := 1840) rfl rfl rfl ?_
  refine zX_cJ (ip' := 1841) rfl rfl (cJ_setClearness hN hJ (zr_sx xs (i + 1))) rfl rfl ?_
  intro q G1 F1 n1 m1 m2 hq hm
  refine zt_istore5 (ip' := 1842) rfl rfl ?_
  refine zt_aload (ip' := 1843) rfl rfl rfl ?_
  refine zt_word (ip' := 1848) rfl rfl rfl zi_k1 rfl rfl rfl (by omega) ?_
  refine zX_cM (ip' := 1849) rfl rfl hm rfl (z_ok3 (by omega) zsh_230 rfl rfl rfl) ?_
  intro G2 F2 hf ht hJ2
  refine zt_istoreK6 (ip' := 1850) rfl rfl ?_
  exact zT_int hN rfl rfl rfl rfl rfl rfl rfl rfl rfl rfl rfl rfl rfl rfl ht (fun h => by obtain ⟨v, z1, z2, z3⟩ := hq h; exact ⟨v, z1, z2, by rw [hf]; exact z3⟩) (kk _ _ _ _ _ _ _ hJ2 m1 m2)
theorem law_57 {LL : Nat} {xs : Nat → Int32} {N : Nat} {G F : GM} {n : Nat} {Q : Zq} {i : Int} {a5 a6 a7 a8 : Value} (hN : 241 ≤ N) (hi : 0 ≤ i ∧ i + 6 ≤ LL) (hL : (LL : Int) ≤ 100000) (hJ : JI G) (kk : ∀ (a5 a6 a7 a8 : Value) (G' F' : GM) (n' : Nat), JI G' → n ≤ n' → n' ≤ n + 1 → zX LL xs N 2095 [.ref 310, .ref 192, .ref 230, .ref 229, .int (zi i), a5, a6, a7, a8] [] G' F' n' Q) : zX LL xs N 1868 [.ref 310, .ref 192, .ref 230, .ref 229, .int (zi i), a5, a6, a7, a8] [] G F n Q := by
  refine zt_aload (ip' := 1869) rfl rfl rfl ?_
  refine zt_word (ip' := 1874) rfl rfl rfl zi_k1 rfl rfl rfl (by omega) ?_
  refine zt_word (ip' := 1879) rfl rfl rfl zi_k2 rfl rfl rfl (by omega) ?_
  refine zt_aload (ip' := 1880) rfl rfl rfl ?_
  refine zX_cJ (ip' := 1881) rfl rfl (cJ_setFog hN hJ (zr_sx xs (i + 1)) (zr_sx xs (i + 2))) rfl rfl ?_
  intro q G1 F1 n1 m1 m2 hq hm
  refine zt_istore5 (ip' := 1882) rfl rfl ?_
  refine zt_aload (ip' := 1883) rfl rfl rfl ?_
  refine zt_word (ip' := 1888) rfl rfl rfl zi_k1 rfl rfl rfl (by omega) ?_
  refine zt_word (ip' := 1893) rfl rfl rfl zi_k2 rfl rfl rfl (by omega) ?_
  refine zX_cM (ip' := 1894) rfl rfl hm rfl (z_ok3 (by omega) zsh_230 rfl rfl rfl) ?_
  intro G2 F2 hf ht hJ2
  refine zt_istoreK6 (ip' := 1895) rfl rfl ?_
  exact zT_int hN rfl rfl rfl rfl rfl rfl rfl rfl rfl rfl rfl rfl rfl rfl ht (fun h => by obtain ⟨v, z1, z2, z3⟩ := hq h; exact ⟨v, z1, z2, by rw [hf]; exact z3⟩) (kk _ _ _ _ _ _ _ hJ2 m1 m2)
theorem law_58 {LL : Nat} {xs : Nat → Int32} {N : Nat} {G F : GM} {n : Nat} {Q : Zq} {i : Int} {a5 a6 a7 a8 : Value} (hN : 241 ≤ N) (hi : 0 ≤ i ∧ i + 6 ≤ LL) (hL : (LL : Int) ≤ 100000) (hJ : JI G) (kk : ∀ (a5 a6 a7 a8 : Value) (G' F' : GM) (n' : Nat), JI G' → n ≤ n' → n' ≤ n + 1 → zX LL xs N 2095 [.ref 310, .ref 192, .ref 230, .ref 229, .int (zi i), a5, a6, a7, a8] [] G' F' n' Q) : zX LL xs N 1913 [.ref 310, .ref 192, .ref 230, .ref 229, .int (zi i), a5, a6, a7, a8] [] G F n Q := by
  refine zt_aload (ip' := 1914) rfl rfl rfl ?_
  refine zt_word (ip' := 1919) rfl rfl rfl zi_k1 rfl rfl rfl (by omega) ?_
  refine zt_word (ip' := 1924) rfl rfl rfl zi_k2 rfl rfl rfl (by omega) ?_
  refine zt_aload (ip' := 1925) rfl rfl rfl ?_
  refine zX_cJ (ip' := 1926) rfl rfl (cJ_setTarget hN hJ (zr_sx xs (i + 1)) (zr_sx xs (i + 2))) rfl rfl ?_
  intro q G1 F1 n1 m1 m2 hq hm
  refine zt_istore5 (ip' := 1927) rfl rfl ?_
  refine zt_aload (ip' := 1928) rfl rfl rfl ?_
  refine zt_word (ip' := 1933) rfl rfl rfl zi_k1 rfl rfl rfl (by omega) ?_
  refine zt_word (ip' := 1938) rfl rfl rfl zi_k2 rfl rfl rfl (by omega) ?_
  refine zX_cM (ip' := 1939) rfl rfl hm rfl (z_ok3 (by omega) zsh_230 rfl rfl rfl) ?_
  intro G2 F2 hf ht hJ2
  refine zt_istoreK6 (ip' := 1940) rfl rfl ?_
  exact zT_int hN rfl rfl rfl rfl rfl rfl rfl rfl rfl rfl rfl rfl rfl rfl ht (fun h => by obtain ⟨v, z1, z2, z3⟩ := hq h; exact ⟨v, z1, z2, by rw [hf]; exact z3⟩) (kk _ _ _ _ _ _ _ hJ2 m1 m2)
theorem law_59 {LL : Nat} {xs : Nat → Int32} {N : Nat} {G F : GM} {n : Nat} {Q : Zq} {i : Int} {a5 a6 a7 a8 : Value} (hN : 241 ≤ N) (hi : 0 ≤ i ∧ i + 6 ≤ LL) (hL : (LL : Int) ≤ 100000) (hJ : JI G) (kk : ∀ (a5 a6 a7 a8 : Value) (G' F' : GM) (n' : Nat), JI G' → n ≤ n' → n' ≤ n + 1 → zX LL xs N 2095 [.ref 310, .ref 192, .ref 230, .ref 229, .int (zi i), a5, a6, a7, a8] [] G' F' n' Q) : zX LL xs N 1958 [.ref 310, .ref 192, .ref 230, .ref 229, .int (zi i), a5, a6, a7, a8] [] G F n Q := by
  refine zt_aload (ip' := 1959) rfl rfl rfl ?_
  refine zt_aload (ip' := 1960) rfl rfl rfl ?_
  refine zX_cJ (ip' := 1961) rfl rfl (cJ_undo hN hJ ) rfl rfl ?_
  intro q G1 F1 n1 m1 m2 hq hm
  refine zt_istore5 (ip' := 1962) rfl rfl ?_
  refine zt_aload (ip' := 1963) rfl rfl rfl ?_
  refine zX_cM (ip' := 1964) rfl rfl hm rfl (z_ok3 (by omega) zsh_230 rfl rfl rfl) ?_
  intro G2 F2 hf ht hJ2
  refine zt_istoreK6 (ip' := 1965) rfl rfl ?_
  exact zT_int hN rfl rfl rfl rfl rfl rfl rfl rfl rfl rfl rfl rfl rfl rfl ht (fun h => by obtain ⟨v, z1, z2, z3⟩ := hq h; exact ⟨v, z1, z2, by rw [hf]; exact z3⟩) (kk _ _ _ _ _ _ _ hJ2 m1 m2)
theorem law_60 {LL : Nat} {xs : Nat → Int32} {N : Nat} {G F : GM} {n : Nat} {Q : Zq} {i : Int} {a5 a6 a7 a8 : Value} (hN : 241 ≤ N) (hi : 0 ≤ i ∧ i + 6 ≤ LL) (hL : (LL : Int) ≤ 100000) (hJ : JI G) (kk : ∀ (a5 a6 a7 a8 : Value) (G' F' : GM) (n' : Nat), JI G' → n ≤ n' → n' ≤ n + 1 → zX LL xs N 2095 [.ref 310, .ref 192, .ref 230, .ref 229, .int (zi i), a5, a6, a7, a8] [] G' F' n' Q) : zX LL xs N 1983 [.ref 310, .ref 192, .ref 230, .ref 229, .int (zi i), a5, a6, a7, a8] [] G F n Q := by
  refine zt_aload (ip' := 1984) rfl rfl rfl ?_
  refine zt_word (ip' := 1989) rfl rfl rfl zi_k1 rfl rfl rfl (by omega) ?_
  refine zt_aload (ip' := 1990) rfl rfl rfl ?_
  refine zX_cJ (ip' := 1991) rfl rfl (cJ_saveSnapshot hN hJ (zr_sx xs (i + 1))) rfl rfl ?_
  intro q G1 F1 n1 m1 m2 hq hm
  refine zt_istore5 (ip' := 1992) rfl rfl ?_
  refine zt_aload (ip' := 1993) rfl rfl rfl ?_
  refine zt_word (ip' := 1998) rfl rfl rfl zi_k1 rfl rfl rfl (by omega) ?_
  refine zX_cM (ip' := 1999) rfl rfl hm rfl (z_ok3 (by omega) zsh_230 rfl rfl rfl) ?_
  intro G2 F2 hf ht hJ2
  refine zt_istoreK6 (ip' := 2000) rfl rfl ?_
  exact zT_int hN rfl rfl rfl rfl rfl rfl rfl rfl rfl rfl rfl rfl rfl rfl ht (fun h => by obtain ⟨v, z1, z2, z3⟩ := hq h; exact ⟨v, z1, z2, by rw [hf]; exact z3⟩) (kk _ _ _ _ _ _ _ hJ2 m1 m2)
theorem law_61 {LL : Nat} {xs : Nat → Int32} {N : Nat} {G F : GM} {n : Nat} {Q : Zq} {i : Int} {a5 a6 a7 a8 : Value} (hN : 241 ≤ N) (hi : 0 ≤ i ∧ i + 6 ≤ LL) (hL : (LL : Int) ≤ 100000) (hJ : JI G) (kk : ∀ (a5 a6 a7 a8 : Value) (G' F' : GM) (n' : Nat), JI G' → n ≤ n' → n' ≤ n + 1 → zX LL xs N 2095 [.ref 310, .ref 192, .ref 230, .ref 229, .int (zi i), a5, a6, a7, a8] [] G' F' n' Q) : zX LL xs N 2018 [.ref 310, .ref 192, .ref 230, .ref 229, .int (zi i), a5, a6, a7, a8] [] G F n Q := by
  refine zt_aload (ip' := 2019) rfl rfl rfl ?_
  refine zt_word (ip' := 2024) rfl rfl rfl zi_k1 rfl rfl rfl (by omega) ?_
  refine zt_aload (ip' := 2025) rfl rfl rfl ?_
  refine zX_cJ (ip' := 2026) rfl rfl (cJ_restoreSnapshot hN hJ (zr_sx xs (i + 1))) rfl rfl ?_
  intro q G1 F1 n1 m1 m2 hq hm
  refine zt_istore5 (ip' := 2027) rfl rfl ?_
  refine zt_aload (ip' := 2028) rfl rfl rfl ?_
  refine zt_word (ip' := 2033) rfl rfl rfl zi_k1 rfl rfl rfl (by omega) ?_
  refine zX_cM (ip' := 2034) rfl rfl hm rfl (z_ok3 (by omega) zsh_230 rfl rfl rfl) ?_
  intro G2 F2 hf ht hJ2
  refine zt_istoreK6 (ip' := 2035) rfl rfl ?_
  exact zT_int hN rfl rfl rfl rfl rfl rfl rfl rfl rfl rfl rfl rfl rfl rfl ht (fun h => by obtain ⟨v, z1, z2, z3⟩ := hq h; exact ⟨v, z1, z2, by rw [hf]; exact z3⟩) (kk _ _ _ _ _ _ _ hJ2 m1 m2)
theorem law_62 {LL : Nat} {xs : Nat → Int32} {N : Nat} {G F : GM} {n : Nat} {Q : Zq} {i : Int} {a5 a6 a7 a8 : Value} (hN : 241 ≤ N) (hi : 0 ≤ i ∧ i + 6 ≤ LL) (hL : (LL : Int) ≤ 100000) (hJ : JI G) (kk : ∀ (a5 a6 a7 a8 : Value) (G' F' : GM) (n' : Nat), JI G' → n ≤ n' → n' ≤ n + 1 → zX LL xs N 2095 [.ref 310, .ref 192, .ref 230, .ref 229, .int (zi i), a5, a6, a7, a8] [] G' F' n' Q) : zX LL xs N 2053 [.ref 310, .ref 192, .ref 230, .ref 229, .int (zi i), a5, a6, a7, a8] [] G F n Q := by
  refine zT_dir hN rfl rfl rfl rfl rfl (cJ_print hN hJ) (z_ok3 (by omega) zsh_192 rfl rfl rfl) (fun v => z_ok3 (by omega) zsh_230 rfl rfl rfl) ?_
  intro G1 F1 hJ1
  exact kk _ _ _ _ _ _ _ hJ1 (Nat.le_refl _) (Nat.le_succ _)
theorem law_63 {LL : Nat} {xs : Nat → Int32} {N : Nat} {G F : GM} {n : Nat} {Q : Zq} {i : Int} {a5 a6 a7 a8 : Value} (hN : 241 ≤ N) (hi : 0 ≤ i ∧ i + 6 ≤ LL) (hL : (LL : Int) ≤ 100000) (hJ : JI G) (kk : ∀ (a5 a6 a7 a8 : Value) (G' F' : GM) (n' : Nat), JI G' → n ≤ n' → n' ≤ n + 1 → zX LL xs N 2095 [.ref 310, .ref 192, .ref 230, .ref 229, .int (zi i), a5, a6, a7, a8] [] G' F' n' Q) : zX LL xs N 2060 [.ref 310, .ref 192, .ref 230, .ref 229, .int (zi i), a5, a6, a7, a8] [] G F n Q := by
  refine zt_aload (ip' := 2061) rfl rfl rfl ?_
  refine zt_word (ip' := 2066) rfl rfl rfl zi_k1 rfl rfl rfl (by omega) ?_
  refine zt_aload (ip' := 2067) rfl rfl rfl ?_
  refine zX_cJ (ip' := 2068) rfl rfl (cJ_printedByte hN hJ (zr_sx xs (i + 1))) rfl rfl ?_
  intro q G1 F1 n1 m1 m2 hq hm
  refine zt_istore5 (ip' := 2069) rfl rfl ?_
  refine zt_aload (ip' := 2070) rfl rfl rfl ?_
  refine zt_word (ip' := 2075) rfl rfl rfl zi_k1 rfl rfl rfl (by omega) ?_
  refine zX_cM (ip' := 2076) rfl rfl hm rfl (z_ok3 (by omega) zsh_230 rfl rfl rfl) ?_
  intro G2 F2 hf ht hJ2
  refine zt_istoreK6 (ip' := 2077) rfl rfl ?_
  exact zT_int hN rfl rfl rfl rfl rfl rfl rfl rfl rfl rfl rfl rfl rfl rfl ht (fun h => by obtain ⟨v, z1, z2, z3⟩ := hq h; exact ⟨v, z1, z2, by rw [hf]; exact z3⟩) (kk _ _ _ _ _ _ _ hJ2 m1 m2)
