/-! The reference model: the text is read (printed by wip/whole/src31.py). -/
theorem zPS_fuel {G0 F0 G F : GM} {x : zTx} (h : zPS G0 F0 x G F) : x.1 ≤ G0 230 8 ∧ 0 ≤ x.2.1 ∧ x.2.1 ≤ 1 ∧ 0 ≤ x.1 ∧ G0 230 8 ≤ 800 := by
  obtain ⟨hB, hx, hw, -⟩ := h
  have := hB.1
  omega
theorem pLoop_D {T : Int → Int} {n v : Int} {f : zTx → zTx} (hf : ∀ x, pD x.2.2.2 → pD (f x).2.2.2) : ∀ (k : Nat) (x : zTx), pD x.2.2.2 → pD (pLoop T n v f k x).2.2.2 := by
  intro k
  induction k with
  | zero => intro x h; exact h
  | succ k ih =>
    intro x h
    unfold pLoop
    split
    · exact ih _ (hf x h)
    · exact h
theorem pSt_D {x : zTx} {D : Int → Int} : (pSt x D).2.2.2 = D := rfl
theorem cM_takes0 {N : Nat} (hN : 241 ≤ N) {G0 F0 G F : GM} {n : Nat} {x : zTx} (hS : zPS G0 F0 x G F) : zC N 52 [.ref 230, .int (zi 0)] G F n (zR fun v G' F' n' => v = zb (x.2.1 = 0 ∧ False) ∧ zPS G0 F0 (pTk (G0 237) (G0 230 8) x False) G' F' ∧ n' = n) := by
  have := cM_takes (n := n) (c := False) hN hS
  rw [zb_f (fun q => q : ¬ False)] at this
  exact this
theorem cM_te89 {N : Nat} (hN : 241 ≤ N) {G0 F0 G F : GM} {n : Nat} {x : zTx} (hS : zPS G0 F0 x G F) {c1 : Value} : zW N 63 89 [.ref 230, c1] [] G F n (zV fun G' F' n' => zPS G0 F0 (if x.2.1 = 0 ∧ tK (G0 237) (G0 230 8) x.1 ≠ 0 then pTk (G0 237) (G0 230 8) x False else x) G' F' ∧ n' = n) := by
  obtain ⟨hBG, e37, e8⟩ := zPS_ba hS
  obtain ⟨hB, hx, hw, ⟨a1, a2, a3, a4, a5⟩, ⟨w1, w2, w3⟩, hk, hj, hf⟩ := id hS
  have hb := tB_rng (T := G0 237) hx.2
  have he := tE_rng (T := G0 237) hx.2
  obtain ⟨v1, v2⟩ := tV_rng (T := G0 237) hx.2
  obtain ⟨k1, k2⟩ := tK_rng (T := G0 237) (n := G0 230 8) (p := x.1)
  obtain ⟨n1, n2⟩ := hB.1
  refine zs_aload (ip' := 90) rfl rfl rfl ?_
  refine zs_getI (ip' := 91) rfl rfl (by omega) zsh_230 rfl (q := 20) rfl ?_
  intro hl90 hu90
  refine zs_if_ne (t := 99) (ip' := 92) rfl rfl (by omega) ?_ ?_
  · intro h91
    refine zW_1 rfl ?_
    have e : (if x.2.1 = 0 ∧ tK (G0 237) (G0 230 8) x.1 ≠ 0 then pTk (G0 237) (G0 230 8) x False else x) = x := if_neg (fun q => h91 (w1.trans q.1))
    exact ⟨rfl, by rw [e]; exact hS, rfl⟩
  · intro h91
    refine zs_aload (ip' := 93) rfl rfl rfl ?_
    refine zs_getI (ip' := 94) rfl rfl (by omega) zsh_230 rfl (q := 17) rfl ?_
    intro hl93 hu93
    refine zs_if_eq (t := 99) (ip' := 95) rfl rfl (by omega) ?_ ?_
    · intro h94
      refine zW_1 rfl ?_
      have e : (if x.2.1 = 0 ∧ tK (G0 237) (G0 230 8) x.1 ≠ 0 then pTk (G0 237) (G0 230 8) x False else x) = x := if_neg (fun q => q.2 (a3.symm.trans h94))
      exact ⟨rfl, by rw [e]; exact hS, rfl⟩
    · intro h94
      refine zs_aload (ip' := 96) rfl rfl rfl ?_
      refine zs_pushI (ip' := 97) rfl rfl zi_k0 ?_
      refine zW_cR (ip' := 98) rfl rfl (cM_takes0 hN hS) rfl rfl (z_ok3 (by omega) zsh_230 rfl rfl rfl) ?_
      rintro vv G' F' n' _ ⟨-, hS', rfl⟩
      refine zs_pop (ip' := 99) rfl rfl ?_
      refine zW_1 rfl ?_
      have e : (if x.2.1 = 0 ∧ tK (G0 237) (G0 230 8) x.1 ≠ 0 then pTk (G0 237) (G0 230 8) x False else x) = pTk (G0 237) (G0 230 8) x False := if_pos ⟨w1.symm.trans h91, fun q => h94 (a3.trans q)⟩
      exact ⟨rfl, by rw [e]; exact hS', rfl⟩
theorem cM_te_fog {N : Nat} (hN : 241 ≤ N) {G0 F0 : GM} {n : Nat} {Q : Zq} {c1 : Value} : ∀ (d : Nat) (x : zTx) (G F : GM), G0 230 8 - x.1 + 1 - x.2.1 < (d : Int) → x.1 ≤ G0 230 8 → x.2.1 ≤ 1 → zPS G0 F0 x G F → pD x.2.2.2 → (∀ {G F : GM}, zPS G0 F0 (pLoop (G0 237) (G0 230 8) 4786 (pFog (G0 237) (G0 230 8)) d x) G F → zW N 63 69 [.ref 230, c1] [] G F n Q) → zW N 63 59 [.ref 230, c1] [] G F n Q := by
  intro d
  induction d with
  | zero =>
    intro x G F hd hxn hxw hS hD hK
    exact absurd hd (by omega)
  | succ d ih =>
    intro x G F hd hxn hxw hS hD hK
    obtain ⟨hBG, e37, e8⟩ := zPS_ba hS
    obtain ⟨hB, hx, hw, ⟨a1, a2, a3, a4, a5⟩, ⟨w1, w2, w3⟩, hk, hj, hf⟩ := id hS
    have hb := tB_rng (T := G0 237) hx.2
    have he := tE_rng (T := G0 237) hx.2
    obtain ⟨v1, v2⟩ := tV_rng (T := G0 237) hx.2
    obtain ⟨k1, k2⟩ := tK_rng (T := G0 237) (n := G0 230 8) (p := x.1)
    obtain ⟨n1, n2⟩ := hB.1
    refine zs_aload (ip' := 60) rfl rfl rfl ?_
    refine zs_getI (ip' := 61) rfl rfl (by omega) zsh_230 rfl (q := 20) rfl ?_
    intro hl60 hu60
    refine zs_if_ne (t := 69) (ip' := 62) rfl rfl (by omega) ?_ ?_
    · intro h61
      have e : pLoop (G0 237) (G0 230 8) 4786 (pFog (G0 237) (G0 230 8)) (d + 1) x = x := if_neg (fun q => h61 (w1.trans q.1))
      rw [e] at hK
      exact hK hS
    · intro h61
      refine zs_aload (ip' := 63) rfl rfl rfl ?_
      refine zs_pushJ (ip' := 64) rfl rfl zl_k4786 ?_
      refine zW_cP (ip' := 65) rfl rfl (cM_is hN hS (by decide)) rfl rfl (z_ok3 (by omega) zsh_230 rfl rfl rfl) ?_
      refine zs_if_eqB (t := 69) (ip' := 66) rfl rfl ?_ ?_
      · intro h65
        have e : pLoop (G0 237) (G0 230 8) 4786 (pFog (G0 237) (G0 230 8)) (d + 1) x = x := if_neg (fun q => h65 q.2)
        rw [e] at hK
        exact hK hS
      · intro h65
        refine zs_aload (ip' := 67) rfl rfl rfl ?_
        refine zW_cV (ip' := 68) rfl rfl (cM_readFog hN hS) rfl rfl (z_ok3 (by omega) zsh_230 rfl rfl rfl) ?_
        rintro G' F' n' ⟨hS', rfl⟩
        refine zs_goto (t := 59) rfl ?_
        have w0 : x.2.1 = 0 := w1.symm.trans h61
        have e : pLoop (G0 237) (G0 230 8) 4786 (pFog (G0 237) (G0 230 8)) (d + 1) x = pLoop (G0 237) (G0 230 8) 4786 (pFog (G0 237) (G0 230 8)) d (pFog (G0 237) (G0 230 8) x) := if_pos ⟨w0, h65⟩
        rw [e] at hK
        obtain ⟨f1, f2, f3, f4, f5⟩ := zPS_fuel hS'
        have g1 := pFog_gt (T := G0 237) hxn (by rw [h65.1]; decide)
        exact ih _ _ _ (by omega) (by omega) (by omega) hS' (pFog_D hD) hK
theorem cM_te_light {N : Nat} (hN : 241 ≤ N) {G0 F0 : GM} {n : Nat} {Q : Zq} {c1 : Value} : ∀ (d : Nat) (x : zTx) (G F : GM), G0 230 8 - x.1 + 1 - x.2.1 < (d : Int) → x.1 ≤ G0 230 8 → x.2.1 ≤ 1 → zPS G0 F0 x G F → pD x.2.2.2 → (∀ {G F : GM}, zPS G0 F0 (pLoop (G0 237) (G0 230 8) 6559778 (pLight (G0 237) (G0 230 8)) d x) G F → zW N 63 79 [.ref 230, c1] [] G F n Q) → zW N 63 69 [.ref 230, c1] [] G F n Q := by
  intro d
  induction d with
  | zero =>
    intro x G F hd hxn hxw hS hD hK
    exact absurd hd (by omega)
  | succ d ih =>
    intro x G F hd hxn hxw hS hD hK
    obtain ⟨hBG, e37, e8⟩ := zPS_ba hS
    obtain ⟨hB, hx, hw, ⟨a1, a2, a3, a4, a5⟩, ⟨w1, w2, w3⟩, hk, hj, hf⟩ := id hS
    have hb := tB_rng (T := G0 237) hx.2
    have he := tE_rng (T := G0 237) hx.2
    obtain ⟨v1, v2⟩ := tV_rng (T := G0 237) hx.2
    obtain ⟨k1, k2⟩ := tK_rng (T := G0 237) (n := G0 230 8) (p := x.1)
    obtain ⟨n1, n2⟩ := hB.1
    refine zs_aload (ip' := 70) rfl rfl rfl ?_
    refine zs_getI (ip' := 71) rfl rfl (by omega) zsh_230 rfl (q := 20) rfl ?_
    intro hl70 hu70
    refine zs_if_ne (t := 79) (ip' := 72) rfl rfl (by omega) ?_ ?_
    · intro h71
      have e : pLoop (G0 237) (G0 230 8) 6559778 (pLight (G0 237) (G0 230 8)) (d + 1) x = x := if_neg (fun q => h71 (w1.trans q.1))
      rw [e] at hK
      exact hK hS
    · intro h71
      refine zs_aload (ip' := 73) rfl rfl rfl ?_
      refine zs_pushJ (ip' := 74) rfl rfl zl_k6559778 ?_
      refine zW_cP (ip' := 75) rfl rfl (cM_is hN hS (by decide)) rfl rfl (z_ok3 (by omega) zsh_230 rfl rfl rfl) ?_
      refine zs_if_eqB (t := 79) (ip' := 76) rfl rfl ?_ ?_
      · intro h75
        have e : pLoop (G0 237) (G0 230 8) 6559778 (pLight (G0 237) (G0 230 8)) (d + 1) x = x := if_neg (fun q => h75 q.2)
        rw [e] at hK
        exact hK hS
      · intro h75
        refine zs_aload (ip' := 77) rfl rfl rfl ?_
        refine zW_cV (ip' := 78) rfl rfl (cM_readLight hN hS hD) rfl rfl (z_ok3 (by omega) zsh_230 rfl rfl rfl) ?_
        rintro G' F' n' ⟨hS', rfl⟩
        refine zs_goto (t := 69) rfl ?_
        have w0 : x.2.1 = 0 := w1.symm.trans h71
        have e : pLoop (G0 237) (G0 230 8) 6559778 (pLight (G0 237) (G0 230 8)) (d + 1) x = pLoop (G0 237) (G0 230 8) 6559778 (pLight (G0 237) (G0 230 8)) d (pLight (G0 237) (G0 230 8) x) := if_pos ⟨w0, h75⟩
        rw [e] at hK
        obtain ⟨f1, f2, f3, f4, f5⟩ := zPS_fuel hS'
        have g1 := pLight_gt (T := G0 237) hxn (by rw [h75.1]; decide) w0
        exact ih _ _ _ (by omega) (by omega) (by omega) hS' (pLight_D hD) hK
theorem cM_te_walk {N : Nat} (hN : 241 ≤ N) {G0 F0 : GM} {n : Nat} {Q : Zq} {c1 : Value} : ∀ (d : Nat) (x : zTx) (G F : GM), G0 230 8 - x.1 + 1 - x.2.1 < (d : Int) → x.1 ≤ G0 230 8 → x.2.1 ≤ 1 → zPS G0 F0 x G F → pD x.2.2.2 → (∀ {G F : GM}, zPS G0 F0 (pLoop (G0 237) (G0 230 8) 5837583086019 (pWalker (G0 237) (G0 230 8)) d x) G F → zW N 63 89 [.ref 230, c1] [] G F n Q) → zW N 63 79 [.ref 230, c1] [] G F n Q := by
  intro d
  induction d with
  | zero =>
    intro x G F hd hxn hxw hS hD hK
    exact absurd hd (by omega)
  | succ d ih =>
    intro x G F hd hxn hxw hS hD hK
    obtain ⟨hBG, e37, e8⟩ := zPS_ba hS
    obtain ⟨hB, hx, hw, ⟨a1, a2, a3, a4, a5⟩, ⟨w1, w2, w3⟩, hk, hj, hf⟩ := id hS
    have hb := tB_rng (T := G0 237) hx.2
    have he := tE_rng (T := G0 237) hx.2
    obtain ⟨v1, v2⟩ := tV_rng (T := G0 237) hx.2
    obtain ⟨k1, k2⟩ := tK_rng (T := G0 237) (n := G0 230 8) (p := x.1)
    obtain ⟨n1, n2⟩ := hB.1
    refine zs_aload (ip' := 80) rfl rfl rfl ?_
    refine zs_getI (ip' := 81) rfl rfl (by omega) zsh_230 rfl (q := 20) rfl ?_
    intro hl80 hu80
    refine zs_if_ne (t := 89) (ip' := 82) rfl rfl (by omega) ?_ ?_
    · intro h81
      have e : pLoop (G0 237) (G0 230 8) 5837583086019 (pWalker (G0 237) (G0 230 8)) (d + 1) x = x := if_neg (fun q => h81 (w1.trans q.1))
      rw [e] at hK
      exact hK hS
    · intro h81
      refine zs_aload (ip' := 83) rfl rfl rfl ?_
      refine zs_pushJ (ip' := 84) rfl rfl zl_k5837583086019 ?_
      refine zW_cP (ip' := 85) rfl rfl (cM_is hN hS (by decide)) rfl rfl (z_ok3 (by omega) zsh_230 rfl rfl rfl) ?_
      refine zs_if_eqB (t := 89) (ip' := 86) rfl rfl ?_ ?_
      · intro h85
        have e : pLoop (G0 237) (G0 230 8) 5837583086019 (pWalker (G0 237) (G0 230 8)) (d + 1) x = x := if_neg (fun q => h85 q.2)
        rw [e] at hK
        exact hK hS
      · intro h85
        refine zs_aload (ip' := 87) rfl rfl rfl ?_
        refine zW_cV (ip' := 88) rfl rfl (cM_readTraveller hN hS hD) rfl rfl (z_ok3 (by omega) zsh_230 rfl rfl rfl) ?_
        rintro G' F' n' ⟨hS', rfl⟩
        refine zs_goto (t := 79) rfl ?_
        have w0 : x.2.1 = 0 := w1.symm.trans h81
        have e : pLoop (G0 237) (G0 230 8) 5837583086019 (pWalker (G0 237) (G0 230 8)) (d + 1) x = pLoop (G0 237) (G0 230 8) 5837583086019 (pWalker (G0 237) (G0 230 8)) d (pWalker (G0 237) (G0 230 8) x) := if_pos ⟨w0, h85⟩
        rw [e] at hK
        obtain ⟨f1, f2, f3, f4, f5⟩ := zPS_fuel hS'
        have g1 := pWalker_gt (T := G0 237) hxn (by rw [h85.1]; decide) w0
        exact ih _ _ _ (by omega) (by omega) (by omega) hS' (pWalker_D hD) hK
theorem cM_te_rows {N : Nat} (hN : 241 ≤ N) {G0 F0 : GM} {n : Nat} {Q : Zq} {x : zTx} (hD : pD x.2.2.2) (hk : ∀ {G F : GM} {c1 : Value}, zPS G0 F0 (pRows (G0 237) (G0 230 8) (x.2.2.2 1).toNat x) G F → zW N 63 59 [.ref 230, c1] [] G F n Q) : ∀ (d : Nat) (k : Nat) (G F : GM), x.2.2.2 1 - k < (d : Int) → (k : Int) ≤ x.2.2.2 1 → zPS G0 F0 (pRows (G0 237) (G0 230 8) k x) G F → zW N 63 48 [.ref 230, .int (zi (k : Int))] [] G F n Q := by
  intro d
  induction d with
  | zero =>
    intro k G F hd hjj hS
    exact absurd hd (by omega)
  | succ d ih =>
    intro k G F hd hjj hS
    obtain ⟨⟨d0, d0'⟩, ⟨d1, d1'⟩, ⟨d4, d4'⟩, d5, d5'⟩ := id hD
    have w3 : G 232 = (pRows (G0 237) (G0 230 8) k x).2.2.2 := hS.2.2.2.2.1.2.2
    have e1 : (pRows (G0 237) (G0 230 8) k x).2.2.2 1 = x.2.2.2 1 := pRows_D k (by omega)
    refine zs_iload (ip' := 49) rfl rfl rfl ?_
    refine zs_aload (ip' := 50) rfl rfl rfl ?_
    refine zs_getR (ip' := 51) rfl rfl (r := 232) (by omega) zsh_230 rfl ?_
    refine zs_pushI (ip' := 52) rfl rfl zi_k1 ?_
    refine zs_iald (ip' := 53) rfl rfl (by omega) zsh_232 (by omega) ?_
    intro hl52 hu52
    rw [w3, e1] at hl52 hu52 ⊢
    refine zs_icmp_ge (t := 59) (ip' := 54) rfl rfl (by omega) (by omega) ?_ ?_
    · intro h53
      rw [show k = (x.2.2.2 1).toNat by omega] at hS
      exact hk hS
    · intro h53
      refine zs_aload (ip' := 55) rfl rfl rfl ?_
      refine zs_iload (ip' := 56) rfl rfl rfl ?_
      refine zW_cV (ip' := 57) rfl rfl (cM_readRow hN hS (by omega) (pD_of hD (pRows_D k (by omega)) e1 (pRows_D k (by omega)) (pRows_D k (by omega)))) rfl rfl (z_ok3 (by omega) zsh_230 rfl rfl rfl) ?_
      rintro G' F' n' ⟨hS', rfl⟩
      refine zs_iinc1 (ip' := 58) rfl rfl zi_k1 ?_
      refine zs_goto (t := 48) rfl ?_
      exact ih (k + 1) _ _ (by omega) (by omega) hS'
def pRest (T : Int → Int) (n : Int) (x1 : zTx) : zTx :=
  let x2 := pRows T n (x1.2.2.2 1).toNat x1
  let x3 := pLoop T n 4786 (pFog T n) 802 x2
  let x4 := pLoop T n 6559778 (pLight T n) 802 x3
  let x5 := pLoop T n 5837583086019 (pWalker T n) 802 x4
  if x5.2.1 = 0 ∧ tK T n x5.1 ≠ 0 then pTk T n x5 False else x5
theorem cM_te44 {N : Nat} (hN : 241 ≤ N) {G0 F0 G F : GM} {n : Nat} {x : zTx} (hS : zPS G0 F0 x G F) (hD : pD x.2.2.2) : zW N 63 44 [.ref 230, .null] [.int (zi (zb (tK (G0 237) (G0 230 8) x.1 = 3))), .ref 230] G F n (zV fun G' F' n' => zPS G0 F0 (pRest (G0 237) (G0 230 8) (pSemi (G0 237) (G0 230 8) x)) G' F' ∧ n' = n) := by
  refine zW_cR (ip' := 45) rfl rfl (cM_takes hN hS) rfl rfl (z_ok3 (by omega) zsh_230 rfl rfl rfl) ?_
  rintro v G' F' n' _ ⟨rfl, hS', rfl⟩
  refine zs_pop (ip' := 46) rfl rfl ?_
  refine zs_pushI (ip' := 47) rfl rfl zi_k0 ?_
  refine zs_istore1 (ip' := 48) rfl rfl ?_
  have hD1 : pD (pSemi (G0 237) (G0 230 8) x).2.2.2 := by rw [show (pSemi (G0 237) (G0 230 8) x).2.2.2 = x.2.2.2 from pTk_D _]; exact hD
  have hD2 : pD (pRows (G0 237) (G0 230 8) ((pSemi (G0 237) (G0 230 8) x).2.2.2 1).toNat (pSemi (G0 237) (G0 230 8) x)).2.2.2 := pD_of hD1 (pRows_D _ (by omega)) (pRows_D _ (by omega)) (pRows_D _ (by omega)) (pRows_D _ (by omega))
  have hD3 := pLoop_D (T := G0 237) (n := G0 230 8) (v := 4786) (fun x h => pFog_D (T := G0 237) (n := G0 230 8) h) 802 _ hD2
  have hD4 := pLoop_D (T := G0 237) (n := G0 230 8) (v := 6559778) (fun x h => pLight_D (T := G0 237) (n := G0 230 8) h) 802 _ hD3
  have hdd := hD1.2.1
  refine cM_te_rows (x := pSemi (G0 237) (G0 230 8) x) hN hD1 (fun {G F c1} hA => ?_) 13 0 _ _ (by omega) (by omega) hS'
  obtain ⟨f1, f2, f3, f4, f5⟩ := zPS_fuel hA
  refine cM_te_fog hN 802 _ _ _ (by omega) f1 f3 hA hD2 (fun {G F} hA2 => ?_)
  obtain ⟨f1, f2, f3, f4, f5⟩ := zPS_fuel hA2
  refine cM_te_light hN 802 _ _ _ (by omega) f1 f3 hA2 hD3 (fun {G F} hA3 => ?_)
  obtain ⟨f1, f2, f3, f4, f5⟩ := zPS_fuel hA3
  refine cM_te_walk hN 802 _ _ _ (by omega) f1 f3 hA3 hD4 (fun {G F} hA4 => ?_)
  exact cM_te89 hN hA4
theorem cM_readText {N : Nat} (hN : 241 ≤ N) {G0 F0 G F : GM} {n : Nat} {x : zTx} (hS : zPS G0 F0 x G F) (hD4 : 0 ≤ x.2.2.2 4 ∧ x.2.2.2 4 ≤ 8) (hD5 : 0 ≤ x.2.2.2 5 ∧ x.2.2.2 5 ≤ 6) : zC N 63 [.ref 230] G F n (zV fun G' F' n' => zPS G0 F0 (pText (G0 237) (G0 230 8) x) G' F' ∧ n' = n) := by
  refine zC_i (L0 := [.ref 230, .null]) rfl ?_
  obtain ⟨n1, n2⟩ := hS.1.1
  refine zs_aload (ip' := 1) rfl rfl rfl ?_
  refine zs_aload (ip' := 2) rfl rfl rfl ?_
  refine zs_pushJ (ip' := 3) rfl rfl zl_k6942059 ?_
  refine zW_cP (ip' := 4) rfl rfl (cM_is hN hS (by decide)) rfl rfl (z_ok3 (by omega) zsh_230 rfl rfl rfl) ?_
  refine zW_cR (ip' := 5) rfl rfl (cM_takes hN hS) rfl rfl (z_ok3 (by omega) zsh_230 rfl rfl rfl) ?_
  rintro vv G' F' n' _ ⟨rfl, hS1, rfl⟩
  refine zs_pop (ip' := 6) rfl rfl ?_
  refine zs_aload (ip' := 7) rfl rfl rfl ?_
  refine zs_getR (ip' := 8) rfl rfl (r := 232) (by omega) zsh_230 rfl ?_
  refine zs_pushI (ip' := 9) rfl rfl zi_k0 ?_
  refine zs_aload (ip' := 10) rfl rfl rfl ?_
  refine zs_pushI (ip' := 11) rfl rfl zi_k2 ?_
  refine zs_pushI (ip' := 12) rfl rfl zi_k12 ?_
  refine zW_cR (ip' := 13) rfl rfl (cM_takesNumber hN hS1 (by omega) (by omega)) rfl rfl (z_ok3 (by omega) zsh_230 rfl rfl rfl) ?_
  rintro u1 G' F' n' hr1 ⟨rfl, hS2, rfl⟩
  have D2 : G' 232 = x.2.2.2 := (hS2.2.2.2.2.1.2.2).trans ((pTk_D _).trans (pTk_D _))
  have q1 := pNv_rng (T := G0 237) (n := G0 230 8) (x := pTk (G0 237) (G0 230 8) x (pIs (G0 237) (G0 230 8) x 6942059)) (lo := 2) (hi := 12) (by omega)
  refine zs_iast (ip' := 14) rfl rfl (by omega) zsh_232 (by omega) (by omega) ?_
  rw [D2]
  have hS3 : zPS G0 F0 (pH1 (G0 237) (G0 230 8) (pTk (G0 237) (G0 230 8) x (pIs (G0 237) (G0 230 8) x 6942059))) (zk G' 232 (zp x.2.2.2 0 (pNv (G0 237) (G0 230 8) (pTk (G0 237) (G0 230 8) x (pIs (G0 237) (G0 230 8) x 6942059)) 2 12))) F' := by
    rw [show zp x.2.2.2 0 (pNv (G0 237) (G0 230 8) (pTk (G0 237) (G0 230 8) x (pIs (G0 237) (G0 230 8) x 6942059)) 2 12) = zp (pTk (G0 237) (G0 230 8) x (pIs (G0 237) (G0 230 8) x 6942059)).2.2.2 0 (pNv (G0 237) (G0 230 8) (pTk (G0 237) (G0 230 8) x (pIs (G0 237) (G0 230 8) x 6942059)) 2 12) from by rw [pTk_D]]
    exact zPS_D hS2
  generalize hX3 : pH1 (G0 237) (G0 230 8) (pTk (G0 237) (G0 230 8) x (pIs (G0 237) (G0 230 8) x 6942059)) = X3 at hS3
  refine zs_aload (ip' := 15) rfl rfl rfl ?_
  refine zs_getR (ip' := 16) rfl rfl (r := 232) (by omega) zsh_230 rfl ?_
  refine zs_pushI (ip' := 17) rfl rfl zi_k1 ?_
  refine zs_aload (ip' := 18) rfl rfl rfl ?_
  refine zs_pushI (ip' := 19) rfl rfl zi_k2 ?_
  refine zs_pushI (ip' := 20) rfl rfl zi_k12 ?_
  refine zW_cR (ip' := 21) rfl rfl (cM_takesNumber hN hS3 (by omega) (by omega)) rfl rfl (z_ok3 (by omega) zsh_230 rfl rfl rfl) ?_
  rintro u2 G2 F2 n2 hr2 ⟨rfl, hS4, rfl⟩
  have q2 := pNv_rng (T := G0 237) (n := G0 230 8) (x := X3) (lo := 2) (hi := 12) (by omega)
  have D4 : G2 232 = X3.2.2.2 := (hS4.2.2.2.2.1.2.2).trans (pTk_D _)
  refine zs_iast (ip' := 22) rfl rfl (by omega) zsh_232 (by omega) (by omega) ?_
  rw [D4]
  have hS5 : zPS G0 F0 (pH2 (G0 237) (G0 230 8) X3) (zk G2 232 (zp X3.2.2.2 1 (pNv (G0 237) (G0 230 8) X3 2 12))) F2 := zPS_D (D := zp X3.2.2.2 1 (pNv (G0 237) (G0 230 8) X3 2 12)) hS4
  have D5 : (pH2 (G0 237) (G0 230 8) X3).2.2.2 = zp X3.2.2.2 1 (pNv (G0 237) (G0 230 8) X3 2 12) := rfl
  generalize hX5 : pH2 (G0 237) (G0 230 8) X3 = X5 at hS5 D5
  refine zs_aload (ip' := 23) rfl rfl rfl ?_
  refine zs_aload (ip' := 24) rfl rfl rfl ?_
  refine zs_pushJ (ip' := 25) rfl rfl zl_k1834209 ?_
  refine zW_cP (ip' := 26) rfl rfl (cM_is hN hS5 (by decide)) rfl rfl (z_ok3 (by omega) zsh_230 rfl rfl rfl) ?_
  refine zW_cR (ip' := 27) rfl rfl (cM_takes hN hS5) rfl rfl (z_ok3 (by omega) zsh_230 rfl rfl rfl) ?_
  rintro vv G' F' n' _ ⟨rfl, hS6, rfl⟩
  have D6 : (pTk (G0 237) (G0 230 8) X5 (pIs (G0 237) (G0 230 8) X5 1834209)).2.2.2 = X5.2.2.2 := pTk_D _
  generalize hX6 : pTk (G0 237) (G0 230 8) X5 (pIs (G0 237) (G0 230 8) X5 1834209) = X6 at hS6 D6
  refine zs_pop (ip' := 28) rfl rfl ?_
  refine zs_aload (ip' := 29) rfl rfl rfl ?_
  refine zs_getR (ip' := 30) rfl rfl (r := 232) (by omega) zsh_230 rfl ?_
  refine zs_pushI (ip' := 31) rfl rfl zi_k2 ?_
  refine zs_aload (ip' := 32) rfl rfl rfl ?_
  refine zs_pushI (ip' := 33) rfl rfl zi_k0 ?_
  refine zs_pushI (ip' := 34) rfl rfl zi_k20 ?_
  refine zW_cR (ip' := 35) rfl rfl (cM_takesNumber hN hS6 (by omega) (by omega)) rfl rfl (z_ok3 (by omega) zsh_230 rfl rfl rfl) ?_
  rintro u3 G3 F3 n3 hr3 ⟨rfl, hS7, rfl⟩
  have D7 : G3 232 = X6.2.2.2 := (hS7.2.2.2.2.1.2.2).trans (pTk_D _)
  have q3 := pNv_rng (T := G0 237) (n := G0 230 8) (x := X6) (lo := 0) (hi := 20) (by omega)
  refine zs_iast (ip' := 36) rfl rfl (by omega) zsh_232 (by omega) (by omega) ?_
  rw [D7]
  have hS8 : zPS G0 F0 (pH3 (G0 237) (G0 230 8) X6) (zk G3 232 (zp X6.2.2.2 2 (pNv (G0 237) (G0 230 8) X6 0 20))) F3 := zPS_D (D := zp X6.2.2.2 2 (pNv (G0 237) (G0 230 8) X6 0 20)) hS7
  have D8 : (pH3 (G0 237) (G0 230 8) X6).2.2.2 = zp X6.2.2.2 2 (pNv (G0 237) (G0 230 8) X6 0 20) := rfl
  generalize hX8 : pH3 (G0 237) (G0 230 8) X6 = X8 at hS8 D8
  obtain ⟨k1, k2⟩ := tK_rng (T := G0 237) (n := G0 230 8) (p := X8.1)
  refine zs_aload (ip' := 37) rfl rfl rfl ?_
  refine zs_aload (ip' := 38) rfl rfl rfl ?_
  refine zs_getI (ip' := 39) rfl rfl (by omega) zsh_230 rfl (q := 17) rfl ?_
  intro hl38 hu38
  rw [show zk G3 232 (zp X6.2.2.2 2 (pNv (G0 237) (G0 230 8) X6 0 20)) 230 17 = tK (G0 237) (G0 230 8) X8.1 from hS8.2.2.2.1.2.2.1] at hl38 hu38 ⊢
  refine zs_pushI (ip' := 40) rfl rfl zi_k3 ?_
  refine zs_icmp_ne (t := 43) (ip' := 41) rfl rfl (by omega) (by omega) ?_ ?_
  · intro h40
    have hDD : pD X8.2.2.2 := by
      have t0 : X3.2.2.2 = zp x.2.2.2 0 (pNv (G0 237) (G0 230 8) (pTk (G0 237) (G0 230 8) x (pIs (G0 237) (G0 230 8) x 6942059)) 2 12) := by
        rw [← hX3]
        show zp (pTk (G0 237) (G0 230 8) x (pIs (G0 237) (G0 230 8) x 6942059)).2.2.2 0 _ = _
        rw [pTk_D]
      rw [D8, D6, D5, t0]
      unfold pD
      rw [zp_ne (by omega), zp_ne (by omega), zp_eq, zp_ne (by omega), zp_eq, zp_ne (by omega), zp_ne (by omega), zp_ne (by omega), zp_ne (by omega), zp_ne (by omega), zp_ne (by omega)]
      exact ⟨by omega, by omega, hD4, hD5⟩
    have hfin : zW N 63 44 [.ref 230, .null] [.int (zi 0), .ref 230] (zk G3 232 (zp X6.2.2.2 2 (pNv (G0 237) (G0 230 8) X6 0 20))) F3 n3 (zV fun G' F' n' => zPS G0 F0 (pRest (G0 237) (G0 230 8) (pSemi (G0 237) (G0 230 8) X8)) G' F' ∧ n' = n3) → zW N 63 44 [.ref 230, .null] [.int (zi 0), .ref 230] (zk G3 232 (zp X6.2.2.2 2 (pNv (G0 237) (G0 230 8) X6 0 20))) F3 n3 (zV fun G' F' n' => zPS G0 F0 (pText (G0 237) (G0 230 8) x) G' F' ∧ n' = n3) := fun h => by
      have e : pText (G0 237) (G0 230 8) x = pRest (G0 237) (G0 230 8) (pSemi (G0 237) (G0 230 8) X8) := by
        rw [← hX8, ← hX6, ← hX5, ← hX3]
        rfl
      rw [e]
      exact h
    refine zs_pushI (ip' := 44) rfl rfl zi_k0 ?_
    have := cM_te44 (n := n3) hN hS8 hDD
    rw [zb_f h40] at this
    exact hfin this
  · intro h40
    have hDD : pD X8.2.2.2 := by
      have t0 : X3.2.2.2 = zp x.2.2.2 0 (pNv (G0 237) (G0 230 8) (pTk (G0 237) (G0 230 8) x (pIs (G0 237) (G0 230 8) x 6942059)) 2 12) := by
        rw [← hX3]
        show zp (pTk (G0 237) (G0 230 8) x (pIs (G0 237) (G0 230 8) x 6942059)).2.2.2 0 _ = _
        rw [pTk_D]
      rw [D8, D6, D5, t0]
      unfold pD
      rw [zp_ne (by omega), zp_ne (by omega), zp_eq, zp_ne (by omega), zp_eq, zp_ne (by omega), zp_ne (by omega), zp_ne (by omega), zp_ne (by omega), zp_ne (by omega), zp_ne (by omega)]
      exact ⟨by omega, by omega, hD4, hD5⟩
    have hfin : zW N 63 44 [.ref 230, .null] [.int (zi 1), .ref 230] (zk G3 232 (zp X6.2.2.2 2 (pNv (G0 237) (G0 230 8) X6 0 20))) F3 n3 (zV fun G' F' n' => zPS G0 F0 (pRest (G0 237) (G0 230 8) (pSemi (G0 237) (G0 230 8) X8)) G' F' ∧ n' = n3) → zW N 63 44 [.ref 230, .null] [.int (zi 1), .ref 230] (zk G3 232 (zp X6.2.2.2 2 (pNv (G0 237) (G0 230 8) X6 0 20))) F3 n3 (zV fun G' F' n' => zPS G0 F0 (pText (G0 237) (G0 230 8) x) G' F' ∧ n' = n3) := fun h => by
      have e : pText (G0 237) (G0 230 8) x = pRest (G0 237) (G0 230 8) (pSemi (G0 237) (G0 230 8) X8) := by
        rw [← hX8, ← hX6, ← hX5, ← hX3]
        rfl
      rw [e]
      exact h
    refine zs_pushI (ip' := 42) rfl rfl zi_k1 ?_
    refine zs_goto (t := 44) rfl ?_
    have := cM_te44 (n := n3) hN hS8 hDD
    rw [zb_t h40] at this
    exact hfin this
