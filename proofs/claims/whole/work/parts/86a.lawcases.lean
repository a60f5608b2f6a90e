/-! The cases of the law, 0 to 31. -/
theorem law_0 {LL : Nat} {xs : Nat → Int32} {N : Nat} {G F : GM} {n : Nat} {Q : Zq} {i : Int} {a5 a6 a7 a8 : Value} (hN : 241 ≤ N) (hi : 0 ≤ i ∧ i + 6 ≤ LL) (hL : (LL : Int) ≤ 100000) (hJ : JI G) (kk : ∀ (a5 a6 a7 a8 : Value) (G' F' : GM) (n' : Nat), JI G' → n ≤ n' → n' ≤ n + 1 → zX LL xs N 2095 [.ref 310, .ref 192, .ref 230, .ref 229, .int (zi i), a5, a6, a7, a8] [] G' F' n' Q) : zX LL xs N 13 [.ref 310, .ref 192, .ref 230, .ref 229, .int (zi i), a5, a6, a7, a8] [] G F n Q := by
  refine zt_aload (ip' := 14) rfl rfl rfl ?_
  refine zt_word (ip' := 19) rfl rfl rfl zi_k1 rfl rfl rfl (by omega) ?_
  refine zt_word (ip' := 24) rfl rfl rfl zi_k2 rfl rfl rfl (by omega) ?_
  refine zt_word (ip' := 29) rfl rfl rfl zi_k3 rfl rfl rfl (by omega) ?_
  refine zt_word (ip' := 34) rfl rfl rfl zi_k4 rfl rfl rfl (by omega) ?_
  refine zt_word (ip' := 39) rfl rfl rfl zi_k5 rfl rfl rfl (by omega) ?_
  refine zt_aload (ip' := 40) rfl rfl rfl ?_
  refine zX_cJ (ip' := 41) rfl rfl (cJ_append hN hJ (zr_sx xs (i + 1)) (zr_sx xs (i + 2)) (zr_sx xs (i + 3)) (zr_sx xs (i + 4)) (zr_sx xs (i + 5))) rfl rfl ?_
  intro q G1 F1 n1 m1 m2 hq hm
  refine zt_istore5 (ip' := 42) rfl rfl ?_
  refine zt_aload (ip' := 43) rfl rfl rfl ?_
  refine zt_word (ip' := 48) rfl rfl rfl zi_k1 rfl rfl rfl (by omega) ?_
  refine zt_word (ip' := 53) rfl rfl rfl zi_k2 rfl rfl rfl (by omega) ?_
  refine zt_word (ip' := 58) rfl rfl rfl zi_k3 rfl rfl rfl (by omega) ?_
  refine zt_word (ip' := 63) rfl rfl rfl zi_k4 rfl rfl rfl (by omega) ?_
  refine zt_word (ip' := 68) rfl rfl rfl zi_k5 rfl rfl rfl (by omega) ?_
  refine zX_cM (ip' := 69) rfl rfl hm rfl (z_ok3 (by omega) zsh_230 rfl rfl rfl) ?_
  intro G2 F2 hf ht hJ2
  refine zt_istoreK6 (ip' := 70) rfl rfl ?_
  exact zT_int hN rfl rfl rfl rfl rfl rfl rfl rfl rfl rfl rfl rfl rfl rfl ht (fun h => by obtain ⟨v, z1, z2, z3⟩ := hq h; exact ⟨v, z1, z2, by rw [hf]; exact z3⟩) (kk _ _ _ _ _ _ _ hJ2 m1 m2)
theorem law_1 {LL : Nat} {xs : Nat → Int32} {N : Nat} {G F : GM} {n : Nat} {Q : Zq} {i : Int} {a5 a6 a7 a8 : Value} (hN : 241 ≤ N) (hi : 0 ≤ i ∧ i + 6 ≤ LL) (hL : (LL : Int) ≤ 100000) (hJ : JI G) (kk : ∀ (a5 a6 a7 a8 : Value) (G' F' : GM) (n' : Nat), JI G' → n ≤ n' → n' ≤ n + 1 → zX LL xs N 2095 [.ref 310, .ref 192, .ref 230, .ref 229, .int (zi i), a5, a6, a7, a8] [] G' F' n' Q) : zX LL xs N 88 [.ref 310, .ref 192, .ref 230, .ref 229, .int (zi i), a5, a6, a7, a8] [] G F n Q := by
  refine zt_aload (ip' := 89) rfl rfl rfl ?_
  refine zt_word (ip' := 94) rfl rfl rfl zi_k1 rfl rfl rfl (by omega) ?_
  refine zt_aload (ip' := 95) rfl rfl rfl ?_
  refine zX_cJ (ip' := 96) rfl rfl (cJ_shorten hN hJ (zr_sx xs (i + 1))) rfl rfl ?_
  intro q G1 F1 n1 m1 m2 hq hm
  refine zt_istore5 (ip' := 97) rfl rfl ?_
  refine zt_aload (ip' := 98) rfl rfl rfl ?_
  refine zt_word (ip' := 103) rfl rfl rfl zi_k1 rfl rfl rfl (by omega) ?_
  refine zX_cM (ip' := 104) rfl rfl hm rfl (z_ok3 (by omega) zsh_230 rfl rfl rfl) ?_
  intro G2 F2 hf ht hJ2
  refine zt_istoreK6 (ip' := 105) rfl rfl ?_
  exact zT_int hN rfl rfl rfl rfl rfl rfl rfl rfl rfl rfl rfl rfl rfl rfl ht (fun h => by obtain ⟨v, z1, z2, z3⟩ := hq h; exact ⟨v, z1, z2, by rw [hf]; exact z3⟩) (kk _ _ _ _ _ _ _ hJ2 m1 m2)
theorem law_2 {LL : Nat} {xs : Nat → Int32} {N : Nat} {G F : GM} {n : Nat} {Q : Zq} {i : Int} {a5 a6 a7 a8 : Value} (hN : 241 ≤ N) (hi : 0 ≤ i ∧ i + 6 ≤ LL) (hL : (LL : Int) ≤ 100000) (hJ : JI G) (kk : ∀ (a5 a6 a7 a8 : Value) (G' F' : GM) (n' : Nat), JI G' → n ≤ n' → n' ≤ n + 1 → zX LL xs N 2095 [.ref 310, .ref 192, .ref 230, .ref 229, .int (zi i), a5, a6, a7, a8] [] G' F' n' Q) : zX LL xs N 123 [.ref 310, .ref 192, .ref 230, .ref 229, .int (zi i), a5, a6, a7, a8] [] G F n Q := by
  refine zt_aload (ip' := 124) rfl rfl rfl ?_
  refine zt_aload (ip' := 125) rfl rfl rfl ?_
  refine zX_cJ (ip' := 126) rfl rfl (cJ_load hN hJ ) rfl rfl ?_
  intro q G1 F1 n1 m1 m2 hq hm
  refine zt_istore5 (ip' := 127) rfl rfl ?_
  refine zt_aload (ip' := 128) rfl rfl rfl ?_
  refine zX_cM (ip' := 129) rfl rfl hm rfl (z_ok3 (by omega) zsh_230 rfl rfl rfl) ?_
  intro G2 F2 hf ht hJ2
  refine zt_istoreK6 (ip' := 130) rfl rfl ?_
  exact zT_int hN rfl rfl rfl rfl rfl rfl rfl rfl rfl rfl rfl rfl rfl rfl ht (fun h => by obtain ⟨v, z1, z2, z3⟩ := hq h; exact ⟨v, z1, z2, by rw [hf]; exact z3⟩) (kk _ _ _ _ _ _ _ hJ2 m1 m2)
theorem law_3 {LL : Nat} {xs : Nat → Int32} {N : Nat} {G F : GM} {n : Nat} {Q : Zq} {i : Int} {a5 a6 a7 a8 : Value} (hN : 241 ≤ N) (hi : 0 ≤ i ∧ i + 6 ≤ LL) (hL : (LL : Int) ≤ 100000) (hJ : JI G) (kk : ∀ (a5 a6 a7 a8 : Value) (G' F' : GM) (n' : Nat), JI G' → n ≤ n' → n' ≤ n + 1 → zX LL xs N 2095 [.ref 310, .ref 192, .ref 230, .ref 229, .int (zi i), a5, a6, a7, a8] [] G' F' n' Q) : zX LL xs N 148 [.ref 310, .ref 192, .ref 230, .ref 229, .int (zi i), a5, a6, a7, a8] [] G F n Q := by
  refine zT_dir hN rfl rfl rfl rfl rfl (cJ_hasError hN hJ) (z_ok3 (by omega) zsh_192 rfl rfl rfl) (fun v => z_ok3 (by omega) zsh_230 rfl rfl rfl) ?_
  intro G1 F1 hJ1
  exact kk _ _ _ _ _ _ _ hJ1 (Nat.le_refl _) (Nat.le_succ _)
theorem law_4 {LL : Nat} {xs : Nat → Int32} {N : Nat} {G F : GM} {n : Nat} {Q : Zq} {i : Int} {a5 a6 a7 a8 : Value} (hN : 241 ≤ N) (hi : 0 ≤ i ∧ i + 6 ≤ LL) (hL : (LL : Int) ≤ 100000) (hJ : JI G) (kk : ∀ (a5 a6 a7 a8 : Value) (G' F' : GM) (n' : Nat), JI G' → n ≤ n' → n' ≤ n + 1 → zX LL xs N 2095 [.ref 310, .ref 192, .ref 230, .ref 229, .int (zi i), a5, a6, a7, a8] [] G' F' n' Q) : zX LL xs N 155 [.ref 310, .ref 192, .ref 230, .ref 229, .int (zi i), a5, a6, a7, a8] [] G F n Q := by
  refine zt_aload (ip' := 156) rfl rfl rfl ?_
  refine zt_aload (ip' := 157) rfl rfl rfl ?_
  refine zX_cJ (ip' := 158) rfl rfl (cJ_errorOffset hN hJ ) rfl rfl ?_
  intro q G1 F1 n1 m1 m2 hq hm
  refine zt_istore5 (ip' := 159) rfl rfl ?_
  refine zt_aload (ip' := 160) rfl rfl rfl ?_
  refine zX_cM (ip' := 161) rfl rfl hm rfl (z_ok3 (by omega) zsh_230 rfl rfl rfl) ?_
  intro G2 F2 hf ht hJ2
  refine zt_istoreK6 (ip' := 162) rfl rfl ?_
  exact zT_int hN rfl rfl rfl rfl rfl rfl rfl rfl rfl rfl rfl rfl rfl rfl ht (fun h => by obtain ⟨v, z1, z2, z3⟩ := hq h; exact ⟨v, z1, z2, by rw [hf]; exact z3⟩) (kk _ _ _ _ _ _ _ hJ2 m1 m2)
theorem law_5 {LL : Nat} {xs : Nat → Int32} {N : Nat} {G F : GM} {n : Nat} {Q : Zq} {i : Int} {a5 a6 a7 a8 : Value} (hN : 241 ≤ N) (hi : 0 ≤ i ∧ i + 6 ≤ LL) (hL : (LL : Int) ≤ 100000) (hJ : JI G) (kk : ∀ (a5 a6 a7 a8 : Value) (G' F' : GM) (n' : Nat), JI G' → n ≤ n' → n' ≤ n + 1 → zX LL xs N 2095 [.ref 310, .ref 192, .ref 230, .ref 229, .int (zi i), a5, a6, a7, a8] [] G' F' n' Q) : zX LL xs N 180 [.ref 310, .ref 192, .ref 230, .ref 229, .int (zi i), a5, a6, a7, a8] [] G F n Q := by
  refine zT_dir hN rfl rfl rfl rfl rfl (cJ_width hN hJ) (z_ok3 (by omega) zsh_192 rfl rfl rfl) (fun v => z_ok3 (by omega) zsh_230 rfl rfl rfl) ?_
  intro G1 F1 hJ1
  exact kk _ _ _ _ _ _ _ hJ1 (Nat.le_refl _) (Nat.le_succ _)
theorem law_6 {LL : Nat} {xs : Nat → Int32} {N : Nat} {G F : GM} {n : Nat} {Q : Zq} {i : Int} {a5 a6 a7 a8 : Value} (hN : 241 ≤ N) (hi : 0 ≤ i ∧ i + 6 ≤ LL) (hL : (LL : Int) ≤ 100000) (hJ : JI G) (kk : ∀ (a5 a6 a7 a8 : Value) (G' F' : GM) (n' : Nat), JI G' → n ≤ n' → n' ≤ n + 1 → zX LL xs N 2095 [.ref 310, .ref 192, .ref 230, .ref 229, .int (zi i), a5, a6, a7, a8] [] G' F' n' Q) : zX LL xs N 187 [.ref 310, .ref 192, .ref 230, .ref 229, .int (zi i), a5, a6, a7, a8] [] G F n Q := by
  refine zT_dir hN rfl rfl rfl rfl rfl (cJ_height hN hJ) (z_ok3 (by omega) zsh_192 rfl rfl rfl) (fun v => z_ok3 (by omega) zsh_230 rfl rfl rfl) ?_
  intro G1 F1 hJ1
  exact kk _ _ _ _ _ _ _ hJ1 (Nat.le_refl _) (Nat.le_succ _)
theorem law_7 {LL : Nat} {xs : Nat → Int32} {N : Nat} {G F : GM} {n : Nat} {Q : Zq} {i : Int} {a5 a6 a7 a8 : Value} (hN : 241 ≤ N) (hi : 0 ≤ i ∧ i + 6 ≤ LL) (hL : (LL : Int) ≤ 100000) (hJ : JI G) (kk : ∀ (a5 a6 a7 a8 : Value) (G' F' : GM) (n' : Nat), JI G' → n ≤ n' → n' ≤ n + 1 → zX LL xs N 2095 [.ref 310, .ref 192, .ref 230, .ref 229, .int (zi i), a5, a6, a7, a8] [] G' F' n' Q) : zX LL xs N 194 [.ref 310, .ref 192, .ref 230, .ref 229, .int (zi i), a5, a6, a7, a8] [] G F n Q := by
  refine zt_aload (ip' := 195) rfl rfl rfl ?_
  refine zt_word (ip' := 200) rfl rfl rfl zi_k1 rfl rfl rfl (by omega) ?_
  refine zt_word (ip' := 205) rfl rfl rfl zi_k2 rfl rfl rfl (by omega) ?_
  refine zt_aload (ip' := 206) rfl rfl rfl ?_
  refine zX_cJ (ip' := 207) rfl rfl (cJ_isWater hN hJ (zr_sx xs (i + 1)) (zr_sx xs (i + 2))) rfl rfl ?_
  intro q G1 F1 n1 m1 m2 hq hm
  refine zt_istore5 (ip' := 208) rfl rfl ?_
  refine zt_aload (ip' := 209) rfl rfl rfl ?_
  refine zt_word (ip' := 214) rfl rfl rfl zi_k1 rfl rfl rfl (by omega) ?_
  refine zt_word (ip' := 219) rfl rfl rfl zi_k2 rfl rfl rfl (by omega) ?_
  refine zX_cM (ip' := 220) rfl rfl hm rfl (z_ok3 (by omega) zsh_230 rfl rfl rfl) ?_
  intro G2 F2 hf ht hJ2
  refine zt_istoreK6 (ip' := 221) rfl rfl ?_
  exact zT_bool hN rfl rfl rfl rfl rfl rfl rfl rfl rfl rfl rfl rfl rfl rfl rfl rfl rfl ht (fun h => by obtain ⟨v, z1, z2, z3⟩ := hq h; exact ⟨v, z1, z2, by rw [hf]; exact z3⟩) (kk _ _ _ _ _ _ _ hJ2 m1 m2)
theorem law_8 {LL : Nat} {xs : Nat → Int32} {N : Nat} {G F : GM} {n : Nat} {Q : Zq} {i : Int} {a5 a6 a7 a8 : Value} (hN : 241 ≤ N) (hi : 0 ≤ i ∧ i + 6 ≤ LL) (hL : (LL : Int) ≤ 100000) (hJ : JI G) (kk : ∀ (a5 a6 a7 a8 : Value) (G' F' : GM) (n' : Nat), JI G' → n ≤ n' → n' ≤ n + 1 → zX LL xs N 2095 [.ref 310, .ref 192, .ref 230, .ref 229, .int (zi i), a5, a6, a7, a8] [] G' F' n' Q) : zX LL xs N 242 [.ref 310, .ref 192, .ref 230, .ref 229, .int (zi i), a5, a6, a7, a8] [] G F n Q := by
  refine zt_aload (ip' := 243) rfl rfl rfl ?_
  refine zt_word (ip' := 248) rfl rfl rfl zi_k1 rfl rfl rfl (by omega) ?_
  refine zt_word (ip' := 253) rfl rfl rfl zi_k2 rfl rfl rfl (by omega) ?_
  refine zt_aload (ip' := 254) rfl rfl rfl ?_
  refine zX_cJ (ip' := 255) rfl rfl (cJ_isHut hN hJ (zr_sx xs (i + 1)) (zr_sx xs (i + 2))) rfl rfl ?_
  intro q G1 F1 n1 m1 m2 hq hm
  refine zt_istore5 (ip' := 256) rfl rfl ?_
  refine zt_aload (ip' := 257) rfl rfl rfl ?_
  refine zt_word (ip' := 262) rfl rfl rfl zi_k1 rfl rfl rfl (by omega) ?_
  refine zt_word (ip' := 267) rfl rfl rfl zi_k2 rfl rfl rfl (by omega) ?_
  refine zX_cM (ip' := 268) rfl rfl hm rfl (z_ok3 (by omega) zsh_230 rfl rfl rfl) ?_
  intro G2 F2 hf ht hJ2
  refine zt_istoreK6 (ip' := 269) rfl rfl ?_
  exact zT_bool hN rfl rfl rfl rfl rfl rfl rfl rfl rfl rfl rfl rfl rfl rfl rfl rfl rfl ht (fun h => by obtain ⟨v, z1, z2, z3⟩ := hq h; exact ⟨v, z1, z2, by rw [hf]; exact z3⟩) (kk _ _ _ _ _ _ _ hJ2 m1 m2)
theorem law_9 {LL : Nat} {xs : Nat → Int32} {N : Nat} {G F : GM} {n : Nat} {Q : Zq} {i : Int} {a5 a6 a7 a8 : Value} (hN : 241 ≤ N) (hi : 0 ≤ i ∧ i + 6 ≤ LL) (hL : (LL : Int) ≤ 100000) (hJ : JI G) (kk : ∀ (a5 a6 a7 a8 : Value) (G' F' : GM) (n' : Nat), JI G' → n ≤ n' → n' ≤ n + 1 → zX LL xs N 2095 [.ref 310, .ref 192, .ref 230, .ref 229, .int (zi i), a5, a6, a7, a8] [] G' F' n' Q) : zX LL xs N 290 [.ref 310, .ref 192, .ref 230, .ref 229, .int (zi i), a5, a6, a7, a8] [] G F n Q := by
  refine zt_aload (ip' := 291) rfl rfl rfl ?_
  refine zt_word (ip' := 296) rfl rfl rfl zi_k1 rfl rfl rfl (by omega) ?_
  refine zt_word (ip' := 301) rfl rfl rfl zi_k2 rfl rfl rfl (by omega) ?_
  refine zt_aload (ip' := 302) rfl rfl rfl ?_
  refine zX_cJ (ip' := 303) rfl rfl (cJ_isPlank hN hJ (zr_sx xs (i + 1)) (zr_sx xs (i + 2))) rfl rfl ?_
  intro q G1 F1 n1 m1 m2 hq hm
  refine zt_istore5 (ip' := 304) rfl rfl ?_
  refine zt_aload (ip' := 305) rfl rfl rfl ?_
  refine zt_word (ip' := 310) rfl rfl rfl zi_k1 rfl rfl rfl (by omega) ?_
  refine zt_word (ip' := 315) rfl rfl rfl zi_k2 rfl rfl rfl (by omega) ?_
  refine zX_cM (ip' := 316) rfl rfl hm rfl (z_ok3 (by omega) zsh_230 rfl rfl rfl) ?_
  intro G2 F2 hf ht hJ2
  refine zt_istoreK6 (ip' := 317) rfl rfl ?_
  exact zT_bool hN rfl rfl rfl rfl rfl rfl rfl rfl rfl rfl rfl rfl rfl rfl rfl rfl rfl ht (fun h => by obtain ⟨v, z1, z2, z3⟩ := hq h; exact ⟨v, z1, z2, by rw [hf]; exact z3⟩) (kk _ _ _ _ _ _ _ hJ2 m1 m2)
theorem law_10 {LL : Nat} {xs : Nat → Int32} {N : Nat} {G F : GM} {n : Nat} {Q : Zq} {i : Int} {a5 a6 a7 a8 : Value} (hN : 241 ≤ N) (hi : 0 ≤ i ∧ i + 6 ≤ LL) (hL : (LL : Int) ≤ 100000) (hJ : JI G) (kk : ∀ (a5 a6 a7 a8 : Value) (G' F' : GM) (n' : Nat), JI G' → n ≤ n' → n' ≤ n + 1 → zX LL xs N 2095 [.ref 310, .ref 192, .ref 230, .ref 229, .int (zi i), a5, a6, a7, a8] [] G' F' n' Q) : zX LL xs N 338 [.ref 310, .ref 192, .ref 230, .ref 229, .int (zi i), a5, a6, a7, a8] [] G F n Q := by
  refine zt_aload (ip' := 339) rfl rfl rfl ?_
  refine zt_word (ip' := 344) rfl rfl rfl zi_k1 rfl rfl rfl (by omega) ?_
  refine zt_word (ip' := 349) rfl rfl rfl zi_k2 rfl rfl rfl (by omega) ?_
  refine zt_aload (ip' := 350) rfl rfl rfl ?_
  refine zX_cJ (ip' := 351) rfl rfl (cJ_plankStrength hN hJ (zr_sx xs (i + 1)) (zr_sx xs (i + 2))) rfl rfl ?_
  intro q G1 F1 n1 m1 m2 hq hm
  refine zt_istore5 (ip' := 352) rfl rfl ?_
  refine zt_aload (ip' := 353) rfl rfl rfl ?_
  refine zt_word (ip' := 358) rfl rfl rfl zi_k1 rfl rfl rfl (by omega) ?_
  refine zt_word (ip' := 363) rfl rfl rfl zi_k2 rfl rfl rfl (by omega) ?_
  refine zX_cM (ip' := 364) rfl rfl hm rfl (z_ok3 (by omega) zsh_230 rfl rfl rfl) ?_
  intro G2 F2 hf ht hJ2
  refine zt_istoreK6 (ip' := 365) rfl rfl ?_
  exact zT_int hN rfl rfl rfl rfl rfl rfl rfl rfl rfl rfl rfl rfl rfl rfl ht (fun h => by obtain ⟨v, z1, z2, z3⟩ := hq h; exact ⟨v, z1, z2, by rw [hf]; exact z3⟩) (kk _ _ _ _ _ _ _ hJ2 m1 m2)
theorem law_11 {LL : Nat} {xs : Nat → Int32} {N : Nat} {G F : GM} {n : Nat} {Q : Zq} {i : Int} {a5 a6 a7 a8 : Value} (hN : 241 ≤ N) (hi : 0 ≤ i ∧ i + 6 ≤ LL) (hL : (LL : Int) ≤ 100000) (hJ : JI G) (kk : ∀ (a5 a6 a7 a8 : Value) (G' F' : GM) (n' : Nat), JI G' → n ≤ n' → n' ≤ n + 1 → zX LL xs N 2095 [.ref 310, .ref 192, .ref 230, .ref 229, .int (zi i), a5, a6, a7, a8] [] G' F' n' Q) : zX LL xs N 383 [.ref 310, .ref 192, .ref 230, .ref 229, .int (zi i), a5, a6, a7, a8] [] G F n Q := by
  refine zT_dir hN rfl rfl rfl rfl rfl (cJ_plankCount hN hJ) (z_ok3 (by omega) zsh_192 rfl rfl rfl) (fun v => z_ok3 (by omega) zsh_230 rfl rfl rfl) ?_
  intro G1 F1 hJ1
  exact kk _ _ _ _ _ _ _ hJ1 (Nat.le_refl _) (Nat.le_succ _)
theorem law_12 {LL : Nat} {xs : Nat → Int32} {N : Nat} {G F : GM} {n : Nat} {Q : Zq} {i : Int} {a5 a6 a7 a8 : Value} (hN : 241 ≤ N) (hi : 0 ≤ i ∧ i + 6 ≤ LL) (hL : (LL : Int) ≤ 100000) (hJ : JI G) (kk : ∀ (a5 a6 a7 a8 : Value) (G' F' : GM) (n' : Nat), JI G' → n ≤ n' → n' ≤ n + 1 → zX LL xs N 2095 [.ref 310, .ref 192, .ref 230, .ref 229, .int (zi i), a5, a6, a7, a8] [] G' F' n' Q) : zX LL xs N 390 [.ref 310, .ref 192, .ref 230, .ref 229, .int (zi i), a5, a6, a7, a8] [] G F n Q := by
  refine zt_aload (ip' := 391) rfl rfl rfl ?_
  refine zt_word (ip' := 396) rfl rfl rfl zi_k1 rfl rfl rfl (by omega) ?_
  refine zt_word (ip' := 401) rfl rfl rfl zi_k2 rfl rfl rfl (by omega) ?_
  refine zt_word (ip' := 406) rfl rfl rfl zi_k3 rfl rfl rfl (by omega) ?_
  refine zt_word (ip' := 411) rfl rfl rfl zi_k4 rfl rfl rfl (by omega) ?_
  refine zt_aload (ip' := 412) rfl rfl rfl ?_
  refine zX_cJ (ip' := 413) rfl rfl (cJ_pathLength hN hJ (zr_sx xs (i + 1)) (zr_sx xs (i + 2)) (zr_sx xs (i + 3)) (zr_sx xs (i + 4))) rfl rfl ?_
  intro q G1 F1 n1 m1 m2 hq hm
  refine zt_istore5 (ip' := 414) rfl rfl ?_
  refine zt_aload (ip' := 415) rfl rfl rfl ?_
  refine zt_word (ip' := 420) rfl rfl rfl zi_k1 rfl rfl rfl (by omega) ?_
  refine zt_word (ip' := 425) rfl rfl rfl zi_k2 rfl rfl rfl (by omega) ?_
  refine zt_word (ip' := 430) rfl rfl rfl zi_k3 rfl rfl rfl (by omega) ?_
  refine zt_word (ip' := 435) rfl rfl rfl zi_k4 rfl rfl rfl (by omega) ?_
  refine zX_cM (ip' := 436) rfl rfl hm rfl (z_ok3 (by omega) zsh_230 rfl rfl rfl) ?_
  intro G2 F2 hf ht hJ2
  refine zt_istoreK6 (ip' := 437) rfl rfl ?_
  exact zT_int hN rfl rfl rfl rfl rfl rfl rfl rfl rfl rfl rfl rfl rfl rfl ht (fun h => by obtain ⟨v, z1, z2, z3⟩ := hq h; exact ⟨v, z1, z2, by rw [hf]; exact z3⟩) (kk _ _ _ _ _ _ _ hJ2 m1 m2)
theorem law_13 {LL : Nat} {xs : Nat → Int32} {N : Nat} {G F : GM} {n : Nat} {Q : Zq} {i : Int} {a5 a6 a7 a8 : Value} (hN : 241 ≤ N) (hi : 0 ≤ i ∧ i + 6 ≤ LL) (hL : (LL : Int) ≤ 100000) (hJ : JI G) (kk : ∀ (a5 a6 a7 a8 : Value) (G' F' : GM) (n' : Nat), JI G' → n ≤ n' → n' ≤ n + 1 → zX LL xs N 2095 [.ref 310, .ref 192, .ref 230, .ref 229, .int (zi i), a5, a6, a7, a8] [] G' F' n' Q) : zX LL xs N 455 [.ref 310, .ref 192, .ref 230, .ref 229, .int (zi i), a5, a6, a7, a8] [] G F n Q := by
  refine zt_aload (ip' := 456) rfl rfl rfl ?_
  refine zt_word (ip' := 461) rfl rfl rfl zi_k1 rfl rfl rfl (by omega) ?_
  refine zt_word (ip' := 466) rfl rfl rfl zi_k2 rfl rfl rfl (by omega) ?_
  refine zt_aload (ip' := 467) rfl rfl rfl ?_
  refine zX_cJ (ip' := 468) rfl rfl (cJ_stepsToHut hN hJ (zr_sx xs (i + 1)) (zr_sx xs (i + 2))) rfl rfl ?_
  intro q G1 F1 n1 m1 m2 hq hm
  refine zt_istore5 (ip' := 469) rfl rfl ?_
  refine zt_aload (ip' := 470) rfl rfl rfl ?_
  refine zt_word (ip' := 475) rfl rfl rfl zi_k1 rfl rfl rfl (by omega) ?_
  refine zt_word (ip' := 480) rfl rfl rfl zi_k2 rfl rfl rfl (by omega) ?_
  refine zX_cM (ip' := 481) rfl rfl hm rfl (z_ok3 (by omega) zsh_230 rfl rfl rfl) ?_
  intro G2 F2 hf ht hJ2
  refine zt_istoreK6 (ip' := 482) rfl rfl ?_
  exact zT_int hN rfl rfl rfl rfl rfl rfl rfl rfl rfl rfl rfl rfl rfl rfl ht (fun h => by obtain ⟨v, z1, z2, z3⟩ := hq h; exact ⟨v, z1, z2, by rw [hf]; exact z3⟩) (kk _ _ _ _ _ _ _ hJ2 m1 m2)
theorem law_14 {LL : Nat} {xs : Nat → Int32} {N : Nat} {G F : GM} {n : Nat} {Q : Zq} {i : Int} {a5 a6 a7 a8 : Value} (hN : 241 ≤ N) (hi : 0 ≤ i ∧ i + 6 ≤ LL) (hL : (LL : Int) ≤ 100000) (hJ : JI G) (kk : ∀ (a5 a6 a7 a8 : Value) (G' F' : GM) (n' : Nat), JI G' → n ≤ n' → n' ≤ n + 1 → zX LL xs N 2095 [.ref 310, .ref 192, .ref 230, .ref 229, .int (zi i), a5, a6, a7, a8] [] G' F' n' Q) : zX LL xs N 500 [.ref 310, .ref 192, .ref 230, .ref 229, .int (zi i), a5, a6, a7, a8] [] G F n Q := by
  refine zT_dir hN rfl rfl rfl rfl rfl (cJ_time hN hJ) (z_ok3 (by omega) zsh_192 rfl rfl rfl) (fun v => z_ok3 (by omega) zsh_230 rfl rfl rfl) ?_
  intro G1 F1 hJ1
  exact kk _ _ _ _ _ _ _ hJ1 (Nat.le_refl _) (Nat.le_succ _)
theorem law_15 {LL : Nat} {xs : Nat → Int32} {N : Nat} {G F : GM} {n : Nat} {Q : Zq} {i : Int} {a5 a6 a7 a8 : Value} (hN : 241 ≤ N) (hi : 0 ≤ i ∧ i + 6 ≤ LL) (hL : (LL : Int) ≤ 100000) (hJ : JI G) (kk : ∀ (a5 a6 a7 a8 : Value) (G' F' : GM) (n' : Nat), JI G' → n ≤ n' → n' ≤ n + 1 → zX LL xs N 2095 [.ref 310, .ref 192, .ref 230, .ref 229, .int (zi i), a5, a6, a7, a8] [] G' F' n' Q) : zX LL xs N 507 [.ref 310, .ref 192, .ref 230, .ref 229, .int (zi i), a5, a6, a7, a8] [] G F n Q := by
  refine zT_dir hN rfl rfl rfl rfl rfl (cJ_clearness hN hJ) (z_ok3 (by omega) zsh_192 rfl rfl rfl) (fun v => z_ok3 (by omega) zsh_230 rfl rfl rfl) ?_
  intro G1 F1 hJ1
  exact kk _ _ _ _ _ _ _ hJ1 (Nat.le_refl _) (Nat.le_succ _)
theorem law_16 {LL : Nat} {xs : Nat → Int32} {N : Nat} {G F : GM} {n : Nat} {Q : Zq} {i : Int} {a5 a6 a7 a8 : Value} (hN : 241 ≤ N) (hi : 0 ≤ i ∧ i + 6 ≤ LL) (hL : (LL : Int) ≤ 100000) (hJ : JI G) (kk : ∀ (a5 a6 a7 a8 : Value) (G' F' : GM) (n' : Nat), JI G' → n ≤ n' → n' ≤ n + 1 → zX LL xs N 2095 [.ref 310, .ref 192, .ref 230, .ref 229, .int (zi i), a5, a6, a7, a8] [] G' F' n' Q) : zX LL xs N 514 [.ref 310, .ref 192, .ref 230, .ref 229, .int (zi i), a5, a6, a7, a8] [] G F n Q := by
  refine zt_aload (ip' := 515) rfl rfl rfl ?_
  refine zt_word (ip' := 520) rfl rfl rfl zi_k1 rfl rfl rfl (by omega) ?_
  refine zt_aload (ip' := 521) rfl rfl rfl ?_
  refine zX_cJ (ip' := 522) rfl rfl (cJ_fog hN hJ (zr_sx xs (i + 1))) rfl rfl ?_
  intro q G1 F1 n1 m1 m2 hq hm
  refine zt_istore5 (ip' := 523) rfl rfl ?_
  refine zt_aload (ip' := 524) rfl rfl rfl ?_
  refine zt_word (ip' := 529) rfl rfl rfl zi_k1 rfl rfl rfl (by omega) ?_
  refine zX_cM (ip' := 530) rfl rfl hm rfl (z_ok3 (by omega) zsh_230 rfl rfl rfl) ?_
  intro G2 F2 hf ht hJ2
  refine zt_istoreK6 (ip' := 531) rfl rfl ?_
  exact zT_int hN rfl rfl rfl rfl rfl rfl rfl rfl rfl rfl rfl rfl rfl rfl ht (fun h => by obtain ⟨v, z1, z2, z3⟩ := hq h; exact ⟨v, z1, z2, by rw [hf]; exact z3⟩) (kk _ _ _ _ _ _ _ hJ2 m1 m2)
theorem law_17 {LL : Nat} {xs : Nat → Int32} {N : Nat} {G F : GM} {n : Nat} {Q : Zq} {i : Int} {a5 a6 a7 a8 : Value} (hN : 241 ≤ N) (hi : 0 ≤ i ∧ i + 6 ≤ LL) (hL : (LL : Int) ≤ 100000) (hJ : JI G) (kk : ∀ (a5 a6 a7 a8 : Value) (G' F' : GM) (n' : Nat), JI G' → n ≤ n' → n' ≤ n + 1 → zX LL xs N 2095 [.ref 310, .ref 192, .ref 230, .ref 229, .int (zi i), a5, a6, a7, a8] [] G' F' n' Q) : zX LL xs N 549 [.ref 310, .ref 192, .ref 230, .ref 229, .int (zi i), a5, a6, a7, a8] [] G F n Q := by
  refine zT_dir hN rfl rfl rfl rfl rfl (cJ_sight hN hJ) (z_ok3 (by omega) zsh_192 rfl rfl rfl) (fun v => z_ok3 (by omega) zsh_230 rfl rfl rfl) ?_
  intro G1 F1 hJ1
  exact kk _ _ _ _ _ _ _ hJ1 (Nat.le_refl _) (Nat.le_succ _)
theorem law_18 {LL : Nat} {xs : Nat → Int32} {N : Nat} {G F : GM} {n : Nat} {Q : Zq} {i : Int} {a5 a6 a7 a8 : Value} (hN : 241 ≤ N) (hi : 0 ≤ i ∧ i + 6 ≤ LL) (hL : (LL : Int) ≤ 100000) (hJ : JI G) (kk : ∀ (a5 a6 a7 a8 : Value) (G' F' : GM) (n' : Nat), JI G' → n ≤ n' → n' ≤ n + 1 → zX LL xs N 2095 [.ref 310, .ref 192, .ref 230, .ref 229, .int (zi i), a5, a6, a7, a8] [] G' F' n' Q) : zX LL xs N 556 [.ref 310, .ref 192, .ref 230, .ref 229, .int (zi i), a5, a6, a7, a8] [] G F n Q := by
  refine zT_dir hN rfl rfl rfl rfl rfl (cJ_lightCount hN hJ) (z_ok3 (by omega) zsh_192 rfl rfl rfl) (fun v => z_ok3 (by omega) zsh_230 rfl rfl rfl) ?_
  intro G1 F1 hJ1
  exact kk _ _ _ _ _ _ _ hJ1 (Nat.le_refl _) (Nat.le_succ _)
theorem law_19 {LL : Nat} {xs : Nat → Int32} {N : Nat} {G F : GM} {n : Nat} {Q : Zq} {i : Int} {a5 a6 a7 a8 : Value} (hN : 241 ≤ N) (hi : 0 ≤ i ∧ i + 6 ≤ LL) (hL : (LL : Int) ≤ 100000) (hJ : JI G) (kk : ∀ (a5 a6 a7 a8 : Value) (G' F' : GM) (n' : Nat), JI G' → n ≤ n' → n' ≤ n + 1 → zX LL xs N 2095 [.ref 310, .ref 192, .ref 230, .ref 229, .int (zi i), a5, a6, a7, a8] [] G' F' n' Q) : zX LL xs N 563 [.ref 310, .ref 192, .ref 230, .ref 229, .int (zi i), a5, a6, a7, a8] [] G F n Q := by
  refine zt_aload (ip' := 564) rfl rfl rfl ?_
  refine zt_word (ip' := 569) rfl rfl rfl zi_k1 rfl rfl rfl (by omega) ?_
  refine zt_aload (ip' := 570) rfl rfl rfl ?_
  refine zX_cJ (ip' := 571) rfl rfl (cJ_lightColumn hN hJ (zr_sx xs (i + 1))) rfl rfl ?_
  intro q G1 F1 n1 m1 m2 hq hm
  refine zt_istore5 (ip' := 572) rfl rfl ?_
  refine zt_aload (ip' := 573) rfl rfl rfl ?_
  refine zt_word (ip' := 578) rfl rfl rfl zi_k1 rfl rfl rfl (by omega) ?_
  refine zX_cM (ip' := 579) rfl rfl hm rfl (z_ok3 (by omega) zsh_230 rfl rfl rfl) ?_
  intro G2 F2 hf ht hJ2
  refine zt_istoreK6 (ip' := 580) rfl rfl ?_
  exact zT_int hN rfl rfl rfl rfl rfl rfl rfl rfl rfl rfl rfl rfl rfl rfl ht (fun h => by obtain ⟨v, z1, z2, z3⟩ := hq h; exact ⟨v, z1, z2, by rw [hf]; exact z3⟩) (kk _ _ _ _ _ _ _ hJ2 m1 m2)
theorem law_20 {LL : Nat} {xs : Nat → Int32} {N : Nat} {G F : GM} {n : Nat} {Q : Zq} {i : Int} {a5 a6 a7 a8 : Value} (hN : 241 ≤ N) (hi : 0 ≤ i ∧ i + 6 ≤ LL) (hL : (LL : Int) ≤ 100000) (hJ : JI G) (kk : ∀ (a5 a6 a7 a8 : Value) (G' F' : GM) (n' : Nat), JI G' → n ≤ n' → n' ≤ n + 1 → zX LL xs N 2095 [.ref 310, .ref 192, .ref 230, .ref 229, .int (zi i), a5, a6, a7, a8] [] G' F' n' Q) : zX LL xs N 598 [.ref 310, .ref 192, .ref 230, .ref 229, .int (zi i), a5, a6, a7, a8] [] G F n Q := by
  refine zt_aload (ip' := 599) rfl rfl rfl ?_
  refine zt_word (ip' := 604) rfl rfl rfl zi_k1 rfl rfl rfl (by omega) ?_
  refine zt_aload (ip' := 605) rfl rfl rfl ?_
  refine zX_cJ (ip' := 606) rfl rfl (cJ_lightRow hN hJ (zr_sx xs (i + 1))) rfl rfl ?_
  intro q G1 F1 n1 m1 m2 hq hm
  refine zt_istore5 (ip' := 607) rfl rfl ?_
  refine zt_aload (ip' := 608) rfl rfl rfl ?_
  refine zt_word (ip' := 613) rfl rfl rfl zi_k1 rfl rfl rfl (by omega) ?_
  refine zX_cM (ip' := 614) rfl rfl hm rfl (z_ok3 (by omega) zsh_230 rfl rfl rfl) ?_
  intro G2 F2 hf ht hJ2
  refine zt_istoreK6 (ip' := 615) rfl rfl ?_
  exact zT_int hN rfl rfl rfl rfl rfl rfl rfl rfl rfl rfl rfl rfl rfl rfl ht (fun h => by obtain ⟨v, z1, z2, z3⟩ := hq h; exact ⟨v, z1, z2, by rw [hf]; exact z3⟩) (kk _ _ _ _ _ _ _ hJ2 m1 m2)
theorem law_21 {LL : Nat} {xs : Nat → Int32} {N : Nat} {G F : GM} {n : Nat} {Q : Zq} {i : Int} {a5 a6 a7 a8 : Value} (hN : 241 ≤ N) (hi : 0 ≤ i ∧ i + 6 ≤ LL) (hL : (LL : Int) ≤ 100000) (hJ : JI G) (kk : ∀ (a5 a6 a7 a8 : Value) (G' F' : GM) (n' : Nat), JI G' → n ≤ n' → n' ≤ n + 1 → zX LL xs N 2095 [.ref 310, .ref 192, .ref 230, .ref 229, .int (zi i), a5, a6, a7, a8] [] G' F' n' Q) : zX LL xs N 633 [.ref 310, .ref 192, .ref 230, .ref 229, .int (zi i), a5, a6, a7, a8] [] G F n Q := by
  refine zt_aload (ip' := 634) rfl rfl rfl ?_
  refine zt_word (ip' := 639) rfl rfl rfl zi_k1 rfl rfl rfl (by omega) ?_
  refine zt_aload (ip' := 640) rfl rfl rfl ?_
  refine zX_cJ (ip' := 641) rfl rfl (cJ_brightness hN hJ (zr_sx xs (i + 1))) rfl rfl ?_
  intro q G1 F1 n1 m1 m2 hq hm
  refine zt_istore5 (ip' := 642) rfl rfl ?_
  refine zt_aload (ip' := 643) rfl rfl rfl ?_
  refine zt_word (ip' := 648) rfl rfl rfl zi_k1 rfl rfl rfl (by omega) ?_
  refine zX_cM (ip' := 649) rfl rfl hm rfl (z_ok3 (by omega) zsh_230 rfl rfl rfl) ?_
  intro G2 F2 hf ht hJ2
  refine zt_istoreK6 (ip' := 650) rfl rfl ?_
  exact zT_int hN rfl rfl rfl rfl rfl rfl rfl rfl rfl rfl rfl rfl rfl rfl ht (fun h => by obtain ⟨v, z1, z2, z3⟩ := hq h; exact ⟨v, z1, z2, by rw [hf]; exact z3⟩) (kk _ _ _ _ _ _ _ hJ2 m1 m2)
theorem law_22 {LL : Nat} {xs : Nat → Int32} {N : Nat} {G F : GM} {n : Nat} {Q : Zq} {i : Int} {a5 a6 a7 a8 : Value} (hN : 241 ≤ N) (hi : 0 ≤ i ∧ i + 6 ≤ LL) (hL : (LL : Int) ≤ 100000) (hJ : JI G) (kk : ∀ (a5 a6 a7 a8 : Value) (G' F' : GM) (n' : Nat), JI G' → n ≤ n' → n' ≤ n + 1 → zX LL xs N 2095 [.ref 310, .ref 192, .ref 230, .ref 229, .int (zi i), a5, a6, a7, a8] [] G' F' n' Q) : zX LL xs N 668 [.ref 310, .ref 192, .ref 230, .ref 229, .int (zi i), a5, a6, a7, a8] [] G F n Q := by
  refine zt_aload (ip' := 669) rfl rfl rfl ?_
  refine zt_word (ip' := 674) rfl rfl rfl zi_k1 rfl rfl rfl (by omega) ?_
  refine zt_aload (ip' := 675) rfl rfl rfl ?_
  refine zX_cJ (ip' := 676) rfl rfl (cJ_isTrueLight hN hJ (zr_sx xs (i + 1))) rfl rfl ?_
  intro q G1 F1 n1 m1 m2 hq hm
  refine zt_istore5 (ip' := 677) rfl rfl ?_
  refine zt_aload (ip' := 678) rfl rfl rfl ?_
  refine zt_word (ip' := 683) rfl rfl rfl zi_k1 rfl rfl rfl (by omega) ?_
  refine zX_cM (ip' := 684) rfl rfl hm rfl (z_ok3 (by omega) zsh_230 rfl rfl rfl) ?_
  intro G2 F2 hf ht hJ2
  refine zt_istoreK6 (ip' := 685) rfl rfl ?_
  exact zT_bool hN rfl rfl rfl rfl rfl rfl rfl rfl rfl rfl rfl rfl rfl rfl rfl rfl rfl ht (fun h => by obtain ⟨v, z1, z2, z3⟩ := hq h; exact ⟨v, z1, z2, by rw [hf]; exact z3⟩) (kk _ _ _ _ _ _ _ hJ2 m1 m2)
theorem law_23 {LL : Nat} {xs : Nat → Int32} {N : Nat} {G F : GM} {n : Nat} {Q : Zq} {i : Int} {a5 a6 a7 a8 : Value} (hN : 241 ≤ N) (hi : 0 ≤ i ∧ i + 6 ≤ LL) (hL : (LL : Int) ≤ 100000) (hJ : JI G) (kk : ∀ (a5 a6 a7 a8 : Value) (G' F' : GM) (n' : Nat), JI G' → n ≤ n' → n' ≤ n + 1 → zX LL xs N 2095 [.ref 310, .ref 192, .ref 230, .ref 229, .int (zi i), a5, a6, a7, a8] [] G' F' n' Q) : zX LL xs N 706 [.ref 310, .ref 192, .ref 230, .ref 229, .int (zi i), a5, a6, a7, a8] [] G F n Q := by
  refine zt_aload (ip' := 707) rfl rfl rfl ?_
  refine zt_word (ip' := 712) rfl rfl rfl zi_k1 rfl rfl rfl (by omega) ?_
  refine zt_aload (ip' := 713) rfl rfl rfl ?_
  refine zX_cJ (ip' := 714) rfl rfl (cJ_hasSuccessor hN hJ (zr_sx xs (i + 1))) rfl rfl ?_
  intro q G1 F1 n1 m1 m2 hq hm
  refine zt_istore5 (ip' := 715) rfl rfl ?_
  refine zt_aload (ip' := 716) rfl rfl rfl ?_
  refine zt_word (ip' := 721) rfl rfl rfl zi_k1 rfl rfl rfl (by omega) ?_
  refine zX_cM (ip' := 722) rfl rfl hm rfl (z_ok3 (by omega) zsh_230 rfl rfl rfl) ?_
  intro G2 F2 hf ht hJ2
  refine zt_istoreK6 (ip' := 723) rfl rfl ?_
  exact zT_bool hN rfl rfl rfl rfl rfl rfl rfl rfl rfl rfl rfl rfl rfl rfl rfl rfl rfl ht (fun h => by obtain ⟨v, z1, z2, z3⟩ := hq h; exact ⟨v, z1, z2, by rw [hf]; exact z3⟩) (kk _ _ _ _ _ _ _ hJ2 m1 m2)
theorem law_24 {LL : Nat} {xs : Nat → Int32} {N : Nat} {G F : GM} {n : Nat} {Q : Zq} {i : Int} {a5 a6 a7 a8 : Value} (hN : 241 ≤ N) (hi : 0 ≤ i ∧ i + 6 ≤ LL) (hL : (LL : Int) ≤ 100000) (hJ : JI G) (kk : ∀ (a5 a6 a7 a8 : Value) (G' F' : GM) (n' : Nat), JI G' → n ≤ n' → n' ≤ n + 1 → zX LL xs N 2095 [.ref 310, .ref 192, .ref 230, .ref 229, .int (zi i), a5, a6, a7, a8] [] G' F' n' Q) : zX LL xs N 744 [.ref 310, .ref 192, .ref 230, .ref 229, .int (zi i), a5, a6, a7, a8] [] G F n Q := by
  refine zt_aload (ip' := 745) rfl rfl rfl ?_
  refine zt_word (ip' := 750) rfl rfl rfl zi_k1 rfl rfl rfl (by omega) ?_
  refine zt_aload (ip' := 751) rfl rfl rfl ?_
  refine zX_cJ (ip' := 752) rfl rfl (cJ_successor hN hJ (zr_sx xs (i + 1))) rfl rfl ?_
  intro q G1 F1 n1 m1 m2 hq hm
  refine zt_istore5 (ip' := 753) rfl rfl ?_
  refine zt_aload (ip' := 754) rfl rfl rfl ?_
  refine zt_word (ip' := 759) rfl rfl rfl zi_k1 rfl rfl rfl (by omega) ?_
  refine zX_cM (ip' := 760) rfl rfl hm rfl (z_ok3 (by omega) zsh_230 rfl rfl rfl) ?_
  intro G2 F2 hf ht hJ2
  refine zt_istoreK6 (ip' := 761) rfl rfl ?_
  exact zT_int hN rfl rfl rfl rfl rfl rfl rfl rfl rfl rfl rfl rfl rfl rfl ht (fun h => by obtain ⟨v, z1, z2, z3⟩ := hq h; exact ⟨v, z1, z2, by rw [hf]; exact z3⟩) (kk _ _ _ _ _ _ _ hJ2 m1 m2)
theorem law_25 {LL : Nat} {xs : Nat → Int32} {N : Nat} {G F : GM} {n : Nat} {Q : Zq} {i : Int} {a5 a6 a7 a8 : Value} (hN : 241 ≤ N) (hi : 0 ≤ i ∧ i + 6 ≤ LL) (hL : (LL : Int) ≤ 100000) (hJ : JI G) (kk : ∀ (a5 a6 a7 a8 : Value) (G' F' : GM) (n' : Nat), JI G' → n ≤ n' → n' ≤ n + 1 → zX LL xs N 2095 [.ref 310, .ref 192, .ref 230, .ref 229, .int (zi i), a5, a6, a7, a8] [] G' F' n' Q) : zX LL xs N 779 [.ref 310, .ref 192, .ref 230, .ref 229, .int (zi i), a5, a6, a7, a8] [] G F n Q := by
  refine zt_aload (ip' := 780) rfl rfl rfl ?_
  refine zt_word (ip' := 785) rfl rfl rfl zi_k1 rfl rfl rfl (by omega) ?_
  refine zt_aload (ip' := 786) rfl rfl rfl ?_
  refine zX_cJ (ip' := 787) rfl rfl (cJ_followers hN hJ (zr_sx xs (i + 1))) rfl rfl ?_
  intro q G1 F1 n1 m1 m2 hq hm
  refine zt_istore5 (ip' := 788) rfl rfl ?_
  refine zt_aload (ip' := 789) rfl rfl rfl ?_
  refine zt_word (ip' := 794) rfl rfl rfl zi_k1 rfl rfl rfl (by omega) ?_
  refine zX_cM (ip' := 795) rfl rfl hm rfl (z_ok3 (by omega) zsh_230 rfl rfl rfl) ?_
  intro G2 F2 hf ht hJ2
  refine zt_istoreK6 (ip' := 796) rfl rfl ?_
  exact zT_int hN rfl rfl rfl rfl rfl rfl rfl rfl rfl rfl rfl rfl rfl rfl ht (fun h => by obtain ⟨v, z1, z2, z3⟩ := hq h; exact ⟨v, z1, z2, by rw [hf]; exact z3⟩) (kk _ _ _ _ _ _ _ hJ2 m1 m2)
theorem law_26 {LL : Nat} {xs : Nat → Int32} {N : Nat} {G F : GM} {n : Nat} {Q : Zq} {i : Int} {a5 a6 a7 a8 : Value} (hN : 241 ≤ N) (hi : 0 ≤ i ∧ i + 6 ≤ LL) (hL : (LL : Int) ≤ 100000) (hJ : JI G) (kk : ∀ (a5 a6 a7 a8 : Value) (G' F' : GM) (n' : Nat), JI G' → n ≤ n' → n' ≤ n + 1 → zX LL xs N 2095 [.ref 310, .ref 192, .ref 230, .ref 229, .int (zi i), a5, a6, a7, a8] [] G' F' n' Q) : zX LL xs N 814 [.ref 310, .ref 192, .ref 230, .ref 229, .int (zi i), a5, a6, a7, a8] [] G F n Q := by
  refine zt_aload (ip' := 815) rfl rfl rfl ?_
  refine zt_word (ip' := 820) rfl rfl rfl zi_k1 rfl rfl rfl (by omega) ?_
  refine zt_aload (ip' := 821) rfl rfl rfl ?_
  refine zX_cJ (ip' := 822) rfl rfl (cJ_leadsAstray hN hJ (zr_sx xs (i + 1))) rfl rfl ?_
  intro q G1 F1 n1 m1 m2 hq hm
  refine zt_istore5 (ip' := 823) rfl rfl ?_
  refine zt_aload (ip' := 824) rfl rfl rfl ?_
  refine zt_word (ip' := 829) rfl rfl rfl zi_k1 rfl rfl rfl (by omega) ?_
  refine zX_cM (ip' := 830) rfl rfl hm rfl (z_ok3 (by omega) zsh_230 rfl rfl rfl) ?_
  intro G2 F2 hf ht hJ2
  refine zt_istoreK6 (ip' := 831) rfl rfl ?_
  exact zT_bool hN rfl rfl rfl rfl rfl rfl rfl rfl rfl rfl rfl rfl rfl rfl rfl rfl rfl ht (fun h => by obtain ⟨v, z1, z2, z3⟩ := hq h; exact ⟨v, z1, z2, by rw [hf]; exact z3⟩) (kk _ _ _ _ _ _ _ hJ2 m1 m2)
theorem law_27 {LL : Nat} {xs : Nat → Int32} {N : Nat} {G F : GM} {n : Nat} {Q : Zq} {i : Int} {a5 a6 a7 a8 : Value} (hN : 241 ≤ N) (hi : 0 ≤ i ∧ i + 6 ≤ LL) (hL : (LL : Int) ≤ 100000) (hJ : JI G) (kk : ∀ (a5 a6 a7 a8 : Value) (G' F' : GM) (n' : Nat), JI G' → n ≤ n' → n' ≤ n + 1 → zX LL xs N 2095 [.ref 310, .ref 192, .ref 230, .ref 229, .int (zi i), a5, a6, a7, a8] [] G' F' n' Q) : zX LL xs N 852 [.ref 310, .ref 192, .ref 230, .ref 229, .int (zi i), a5, a6, a7, a8] [] G F n Q := by
  refine zT_dir hN rfl rfl rfl rfl rfl (cJ_travellerCount hN hJ) (z_ok3 (by omega) zsh_192 rfl rfl rfl) (fun v => z_ok3 (by omega) zsh_230 rfl rfl rfl) ?_
  intro G1 F1 hJ1
  exact kk _ _ _ _ _ _ _ hJ1 (Nat.le_refl _) (Nat.le_succ _)
theorem law_28 {LL : Nat} {xs : Nat → Int32} {N : Nat} {G F : GM} {n : Nat} {Q : Zq} {i : Int} {a5 a6 a7 a8 : Value} (hN : 241 ≤ N) (hi : 0 ≤ i ∧ i + 6 ≤ LL) (hL : (LL : Int) ≤ 100000) (hJ : JI G) (kk : ∀ (a5 a6 a7 a8 : Value) (G' F' : GM) (n' : Nat), JI G' → n ≤ n' → n' ≤ n + 1 → zX LL xs N 2095 [.ref 310, .ref 192, .ref 230, .ref 229, .int (zi i), a5, a6, a7, a8] [] G' F' n' Q) : zX LL xs N 859 [.ref 310, .ref 192, .ref 230, .ref 229, .int (zi i), a5, a6, a7, a8] [] G F n Q := by
  refine zt_aload (ip' := 860) rfl rfl rfl ?_
  refine zt_word (ip' := 865) rfl rfl rfl zi_k1 rfl rfl rfl (by omega) ?_
  refine zt_aload (ip' := 866) rfl rfl rfl ?_
  refine zX_cJ (ip' := 867) rfl rfl (cJ_travellerColumn hN hJ (zr_sx xs (i + 1))) rfl rfl ?_
  intro q G1 F1 n1 m1 m2 hq hm
  refine zt_istore5 (ip' := 868) rfl rfl ?_
  refine zt_aload (ip' := 869) rfl rfl rfl ?_
  refine zt_word (ip' := 874) rfl rfl rfl zi_k1 rfl rfl rfl (by omega) ?_
  refine zX_cM (ip' := 875) rfl rfl hm rfl (z_ok3 (by omega) zsh_230 rfl rfl rfl) ?_
  intro G2 F2 hf ht hJ2
  refine zt_istoreK6 (ip' := 876) rfl rfl ?_
  exact zT_int hN rfl rfl rfl rfl rfl rfl rfl rfl rfl rfl rfl rfl rfl rfl ht (fun h => by obtain ⟨v, z1, z2, z3⟩ := hq h; exact ⟨v, z1, z2, by rw [hf]; exact z3⟩) (kk _ _ _ _ _ _ _ hJ2 m1 m2)
theorem law_29 {LL : Nat} {xs : Nat → Int32} {N : Nat} {G F : GM} {n : Nat} {Q : Zq} {i : Int} {a5 a6 a7 a8 : Value} (hN : 241 ≤ N) (hi : 0 ≤ i ∧ i + 6 ≤ LL) (hL : (LL : Int) ≤ 100000) (hJ : JI G) (kk : ∀ (a5 a6 a7 a8 : Value) (G' F' : GM) (n' : Nat), JI G' → n ≤ n' → n' ≤ n + 1 → zX LL xs N 2095 [.ref 310, .ref 192, .ref 230, .ref 229, .int (zi i), a5, a6, a7, a8] [] G' F' n' Q) : zX LL xs N 894 [.ref 310, .ref 192, .ref 230, .ref 229, .int (zi i), a5, a6, a7, a8] [] G F n Q := by
  refine zt_aload (ip' := 895) rfl rfl rfl ?_
  refine zt_word (ip' := 900) rfl rfl rfl zi_k1 rfl rfl rfl (by omega) ?_
  refine zt_aload (ip' := 901) rfl rfl rfl ?_
  refine zX_cJ (ip' := 902) rfl rfl (cJ_travellerRow hN hJ (zr_sx xs (i + 1))) rfl rfl ?_
  intro q G1 F1 n1 m1 m2 hq hm
  refine zt_istore5 (ip' := 903) rfl rfl ?_
  refine zt_aload (ip' := 904) rfl rfl rfl ?_
  refine zt_word (ip' := 909) rfl rfl rfl zi_k1 rfl rfl rfl (by omega) ?_
  refine zX_cM (ip' := 910) rfl rfl hm rfl (z_ok3 (by omega) zsh_230 rfl rfl rfl) ?_
  intro G2 F2 hf ht hJ2
  refine zt_istoreK6 (ip' := 911) rfl rfl ?_
  exact zT_int hN rfl rfl rfl rfl rfl rfl rfl rfl rfl rfl rfl rfl rfl rfl ht (fun h => by obtain ⟨v, z1, z2, z3⟩ := hq h; exact ⟨v, z1, z2, by rw [hf]; exact z3⟩) (kk _ _ _ _ _ _ _ hJ2 m1 m2)
theorem law_30 {LL : Nat} {xs : Nat → Int32} {N : Nat} {G F : GM} {n : Nat} {Q : Zq} {i : Int} {a5 a6 a7 a8 : Value} (hN : 241 ≤ N) (hi : 0 ≤ i ∧ i + 6 ≤ LL) (hL : (LL : Int) ≤ 100000) (hJ : JI G) (kk : ∀ (a5 a6 a7 a8 : Value) (G' F' : GM) (n' : Nat), JI G' → n ≤ n' → n' ≤ n + 1 → zX LL xs N 2095 [.ref 310, .ref 192, .ref 230, .ref 229, .int (zi i), a5, a6, a7, a8] [] G' F' n' Q) : zX LL xs N 929 [.ref 310, .ref 192, .ref 230, .ref 229, .int (zi i), a5, a6, a7, a8] [] G F n Q := by
  refine zt_aload (ip' := 930) rfl rfl rfl ?_
  refine zt_word (ip' := 935) rfl rfl rfl zi_k1 rfl rfl rfl (by omega) ?_
  refine zt_aload (ip' := 936) rfl rfl rfl ?_
  refine zX_cJ (ip' := 937) rfl rfl (cJ_isWalking hN hJ (zr_sx xs (i + 1))) rfl rfl ?_
  intro q G1 F1 n1 m1 m2 hq hm
  refine zt_istore5 (ip' := 938) rfl rfl ?_
  refine zt_aload (ip' := 939) rfl rfl rfl ?_
  refine zt_word (ip' := 944) rfl rfl rfl zi_k1 rfl rfl rfl (by omega) ?_
  refine zX_cM (ip' := 945) rfl rfl hm rfl (z_ok3 (by omega) zsh_230 rfl rfl rfl) ?_
  intro G2 F2 hf ht hJ2
  refine zt_istoreK6 (ip' := 946) rfl rfl ?_
  exact zT_bool hN rfl rfl rfl rfl rfl rfl rfl rfl rfl rfl rfl rfl rfl rfl rfl rfl rfl ht (fun h => by obtain ⟨v, z1, z2, z3⟩ := hq h; exact ⟨v, z1, z2, by rw [hf]; exact z3⟩) (kk _ _ _ _ _ _ _ hJ2 m1 m2)
theorem law_31 {LL : Nat} {xs : Nat → Int32} {N : Nat} {G F : GM} {n : Nat} {Q : Zq} {i : Int} {a5 a6 a7 a8 : Value} (hN : 241 ≤ N) (hi : 0 ≤ i ∧ i + 6 ≤ LL) (hL : (LL : Int) ≤ 100000) (hJ : JI G) (kk : ∀ (a5 a6 a7 a8 : Value) (G' F' : GM) (n' : Nat), JI G' → n ≤ n' → n' ≤ n + 1 → zX LL xs N 2095 [.ref 310, .ref 192, .ref 230, .ref 229, .int (zi i), a5, a6, a7, a8] [] G' F' n' Q) : zX LL xs N 967 [.ref 310, .ref 192, .ref 230, .ref 229, .int (zi i), a5, a6, a7, a8] [] G F n Q := by
  refine zt_aload (ip' := 968) rfl rfl rfl ?_
  refine zt_word (ip' := 973) rfl rfl rfl zi_k1 rfl rfl rfl (by omega) ?_
  refine zt_aload (ip' := 974) rfl rfl rfl ?_
  refine zX_cJ (ip' := 975) rfl rfl (cJ_hasArrived hN hJ (zr_sx xs (i + 1))) rfl rfl ?_
  intro q G1 F1 n1 m1 m2 hq hm
  refine zt_istore5 (ip' := 976) rfl rfl ?_
  refine zt_aload (ip' := 977) rfl rfl rfl ?_
  refine zt_word (ip' := 982) rfl rfl rfl zi_k1 rfl rfl rfl (by omega) ?_
  refine zX_cM (ip' := 983) rfl rfl hm rfl (z_ok3 (by omega) zsh_230 rfl rfl rfl) ?_
  intro G2 F2 hf ht hJ2
  refine zt_istoreK6 (ip' := 984) rfl rfl ?_
  exact zT_bool hN rfl rfl rfl rfl rfl rfl rfl rfl rfl rfl rfl rfl rfl rfl rfl rfl rfl ht (fun h => by obtain ⟨v, z1, z2, z3⟩ := hq h; exact ⟨v, z1, z2, by rw [hf]; exact z3⟩) (kk _ _ _ _ _ _ _ hJ2 m1 m2)
