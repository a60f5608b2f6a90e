/-! The reference model: ways and the future (printed by wip/whole/src22.py). -/
theorem cM_huts_i {N : Nat} {G F : GM} {n : Nat} (hN : 241 ≤ N) {r : Nat} (hr : z_sh r = (1, 256, [])) (hrN : r < N) (hro : r ≠ 230 ∧ r ≠ 238 ∧ r ≠ 239) (hb : (0 ≤ G r 0 ∧ G r 0 ≤ 12) ∧ 0 ≤ G r 1 ∧ G r 1 ≤ 12) {K : Nat} (hK : (K : Int) < G r 1) {Q : Zq} (hk : ∀ (A B : Int → Int) (l : Int) (a3 : Value), zBI (G r 0) (G r 1) (mWt (G r)) (zHu (G r) (12 * ((K : Int) + 1))) False 0 0 l B A → (∀ p, zVal (G r 0) (G r 1) p → A p ≤ 0) → zW N 20 4 [.ref 230, .ref r, .int (zi ((K : Int) + 1)), a3] [] (zBf G A B 0 l) F n Q) : ∀ (d : Nat) (k : Nat) (A B : Int → Int) (l : Int), G r 0 - k < (d : Int) → (k : Int) ≤ G r 0 → zBI (G r 0) (G r 1) (mWt (G r)) (zHu (G r) (12 * (K : Int) + k)) False 0 0 l B A → (∀ p, zVal (G r 0) (G r 1) p → A p ≤ 0) → zW N 20 11 [.ref 230, .ref r, .int (zi (K : Int)), .int (zi (k : Int))] [] (zBf G A B 0 l) F n Q := by
  intro d
  induction d with
  | zero =>
    intro k A B l hd hj hI h0
    exact absurd hd (by omega)
  | succ d ih =>
    intro k A B l hd hj hI h0
    refine zs_iload (ip' := 12) rfl rfl rfl ?_
    refine zs_aload (ip' := 13) rfl rfl rfl ?_
    refine zs_pushI (ip' := 14) rfl rfl zi_k0 ?_
    refine zs_iald (ip' := 15) rfl rfl hrN hr (by omega) ?_
    intro hl14 hu14
    rw [zBf_o hro] at hl14 hu14 ⊢
    refine zs_icmp_ge (t := 31) (ip' := 16) rfl rfl (by omega) (by omega) ?_ ?_
    · intro h15
      refine zs_iinc2 (ip' := 32) rfl rfl zi_k1 ?_
      refine zs_goto (t := 4) rfl ?_
      exact hk A B l _ (zBI_go hI (fun p pv => ⟨fun q => ⟨q.1, q.2.1, by have := q.2.2; omega⟩, fun q => ⟨q.1, q.2.1, by have := q.2.2; have := pv.2.1; omega⟩⟩)) h0
    · intro h15
      have tv : zVal (G r 0) (G r 1) (12 * (K : Int) + k) := ⟨by omega, by omega, by omega⟩
      refine zs_aload (ip' := 17) rfl rfl rfl ?_
      refine zs_iload (ip' := 18) rfl rfl rfl ?_
      refine zs_iload (ip' := 19) rfl rfl rfl ?_
      refine zW_cP (ip' := 20) rfl rfl cM_cellAt rfl rfl rfl ?_
      refine zs_iald (ip' := 21) rfl rfl hrN hr (by omega) ?_
      intro hl20 hu20
      rw [zBf_o hro] at hl20 hu20 ⊢
      refine zs_pushI (ip' := 22) rfl rfl zi_k2 ?_
      refine zs_icmp_ne (t := 29) (ip' := 23) rfl rfl (by omega) (by omega) ?_ ?_
      · intro h22
        have h22' : G r (30 + (12 * (K : Int) + k)) ≠ 2 := by rw [← Int.add_assoc]; exact h22
        refine zs_iinc3 (ip' := 30) rfl rfl zi_k1 ?_
        refine zs_goto (t := 11) rfl ?_
        exact ih (k + 1) A B l (by omega) (by omega) (zBI_go hI (fun p pv => ⟨fun q => ⟨q.1, q.2.1, by have := q.2.2; omega⟩, fun q => ⟨q.1, q.2.1, by
          have q3 := q.2.2
          have : p ≠ 12 * (K : Int) + k := fun e => by rw [e] at q; exact h22' q.2.1
          omega⟩⟩)) h0
      · intro h22
        have h22' : G r (30 + (12 * (K : Int) + k)) = 2 := by rw [← Int.add_assoc]; exact h22
        have hw : ¬ mWt (G r) (12 * (K : Int) + k) := fun q => by have q' : G r (30 + (12 * (K : Int) + k)) = 1 := q; omega
        have ht : A (12 * (K : Int) + k) = -1 := by
          obtain ⟨-, -, -, i4, -, i6, -⟩ := id hI
          have e1 := i4 (12 * (K : Int) + k) (by omega) (by omega)
          have e2 := h0 _ tv
          have e3 : A (12 * (K : Int) + k) ≠ 0 := fun q => by have := ((i6 _ tv).mpr q).2.2; omega
          omega
        have hroom := zBI_room hI (by omega) (by omega) ht
        have l0 := hI.1.2.1
        obtain ⟨j1, j2⟩ := zBI_goal (by omega) (by omega) hI h0 tv ht hw
        refine zs_aload (ip' := 24) rfl rfl rfl ?_
        refine zs_iload (ip' := 25) rfl rfl rfl ?_
        refine zs_iload (ip' := 26) rfl rfl rfl ?_
        refine zW_cP (ip' := 27) rfl rfl cM_placeOf rfl rfl rfl ?_
        refine zs_pushI (ip' := 28) rfl rfl zi_k0 ?_
        refine zW_cV (ip' := 29) rfl rfl (cM_reaches hN (by omega) (by omega) (by omega)) rfl rfl (z_ok3 (by omega) zsh_230 rfl rfl rfl) ?_
        rintro G' F' n' ⟨rfl, rfl, rfl⟩
        refine zs_iinc3 (ip' := 30) rfl rfl zi_k1 ?_
        refine zs_goto (t := 11) rfl ?_
        exact ih (k + 1) _ _ (l + 1) (by omega) (by omega) (zBI_go j1 (fun p pv => ⟨fun q => q.elim (fun q => ⟨q.1, q.2.1, by have := q.2.2; omega⟩) (fun e => by rw [e]; exact ⟨tv, h22', by omega⟩), fun q => by
          by_cases e : p = 12 * (K : Int) + k
          · exact Or.inr e
          · exact Or.inl ⟨q.1, q.2.1, by have := q.2.2; omega⟩⟩)) j2
theorem cM_huts_o {N : Nat} {G F : GM} {n : Nat} (hN : 241 ≤ N) {r : Nat} (hr : z_sh r = (1, 256, [])) (hrN : r < N) (hro : r ≠ 230 ∧ r ≠ 238 ∧ r ≠ 239) (hb : (0 ≤ G r 0 ∧ G r 0 ≤ 12) ∧ 0 ≤ G r 1 ∧ G r 1 ≤ 12) : ∀ (d : Nat) (k : Nat) (A B : Int → Int) (l : Int) (a3 : Value), G r 1 - k < (d : Int) → (k : Int) ≤ G r 1 → zBI (G r 0) (G r 1) (mWt (G r)) (zHu (G r) (12 * (k : Int))) False 0 0 l B A → (∀ p, zVal (G r 0) (G r 1) p → A p ≤ 0) → zW N 20 4 [.ref 230, .ref r, .int (zi (k : Int)), a3] [] (zBf G A B 0 l) F n (zV fun G' F' n' => ∃ A' B' f' l', (zDist (G r 0) (G r 1) (mWt (G r)) (fun p => G r (30 + p) = 2) False A') ∧ G' = zBf G A' B' f' l' ∧ F' = F ∧ n' = n) := by
  intro d
  induction d with
  | zero =>
    intro k A B l a3 hd hj hI h0
    exact absurd hd (by omega)
  | succ d ih =>
    intro k A B l a3 hd hj hI h0
    refine zs_iload (ip' := 5) rfl rfl rfl ?_
    refine zs_aload (ip' := 6) rfl rfl rfl ?_
    refine zs_pushI (ip' := 7) rfl rfl zi_k1 ?_
    refine zs_iald (ip' := 8) rfl rfl hrN hr (by omega) ?_
    intro hl7 hu7
    rw [zBf_o hro] at hl7 hu7 ⊢
    refine zs_icmp_ge (t := 33) (ip' := 9) rfl rfl (by omega) (by omega) ?_ ?_
    · intro h8
      have hJ := zBI_go (go' := fun p => G r (30 + p) = 2) hI (fun p pv => ⟨fun q => q.2.1, fun q => ⟨pv, q, by have := pv.2.2; omega⟩⟩)
      refine zs_aload (ip' := 34) rfl rfl rfl ?_
      refine zs_aload (ip' := 35) rfl rfl rfl ?_
      refine zW_cV (ip' := 36) rfl rfl (cM_spreads hN hr hrN hro hb hJ) rfl rfl (z_ok3 (by omega) zsh_230 rfl rfl rfl) ?_
      rintro G' F' n' ⟨A2, B2, f2, l2, hD, rfl, rfl, rfl⟩
      refine zW_1 rfl ?_
      exact ⟨rfl, A2, B2, f2, l2, hD, rfl, rfl, rfl⟩
    · intro h8
      refine zs_pushI (ip' := 10) rfl rfl zi_k0 ?_
      refine zs_istore3 (ip' := 11) rfl rfl ?_
      exact cM_huts_i hN hr hrN hro hb h8 (fun A B l a3 hI h0 => ih (k + 1) A B l a3 (by omega) (by omega) hI h0) 13 0 A B l (by omega) (by omega) (zBI_go hI (fun p pv => by rw [show 12 * (k : Int) + ((0 : Nat) : Int) = 12 * (k : Int) by omega])) h0
theorem cM_spreadsToHuts0 {N : Nat} {G F : GM} {n : Nat} (hN : 241 ≤ N) {r : Nat} (hr : z_sh r = (1, 256, [])) (hrN : r < N) (hro : r ≠ 230 ∧ r ≠ 238 ∧ r ≠ 239) (hb : (0 ≤ G r 0 ∧ G r 0 ≤ 12) ∧ 0 ≤ G r 1 ∧ G r 1 ≤ 12) {A B : Int → Int} {f l : Int} : zC N 20 [.ref 230, .ref r] (zBf G A B f l) F n (zV fun G' F' n' => ∃ A' B' f' l', (zDist (G r 0) (G r 1) (mWt (G r)) (fun p => G r (30 + p) = 2) False A') ∧ G' = zBf G A' B' f' l' ∧ F' = F ∧ n' = n) := by
  refine zC_i (L0 := [.ref 230, .ref r, .null, .null]) rfl ?_
  refine zs_aload (ip' := 1) rfl rfl rfl ?_
  refine zW_cV (ip' := 2) rfl rfl (cM_clearsSteps hN) rfl rfl (z_ok3 (by omega) zsh_230 rfl rfl rfl) ?_
  rintro G' F' n' ⟨A1, hA1, rfl, rfl, rfl⟩
  refine zs_pushI (ip' := 3) rfl rfl zi_k0 ?_
  refine zs_istore2 (ip' := 4) rfl rfl ?_
  exact cM_huts_o hN hr hrN hro hb 13 0 A1 B 0 _ (by omega) (by omega) (zBI_go (zBI_none (q := B) hA1 (by omega) (by omega)) (fun p pv => ⟨False.elim, fun q => by have := q.2.2; have := pv.1; omega⟩)) (fun p pv => by have := hA1 p (zVal_144 (by omega) (by omega) pv).1 (zVal_144 (by omega) (by omega) pv).2; omega)
theorem cM_spreadsToHuts {N : Nat} {G F : GM} {n : Nat} (hN : 241 ≤ N) {r : Nat} (hr : z_sh r = (1, 256, [])) (hrN : r < N) (hro : r ≠ 230 ∧ r ≠ 238 ∧ r ≠ 239) (hb : (0 ≤ G r 0 ∧ G r 0 ≤ 12) ∧ 0 ≤ G r 1 ∧ G r 1 ≤ 12) : zC N 20 [.ref 230, .ref r] G F n (zV fun G' F' n' => ∃ A' B' f' l', (zDist (G r 0) (G r 1) (mWt (G r)) (fun p => G r (30 + p) = 2) False A') ∧ G' = zBf G A' B' f' l' ∧ F' = F ∧ n' = n) := by
  have := cM_spreadsToHuts0 (F := F) (n := n) (A := G 238) (B := G 239) (f := G 230 13) (l := G 230 14) hN hr hrN hro hb
  rw [zBf_self] at this
  exact this
noncomputable def q_path (s : Int → Int) (x y u v : Int) : Int × Int := if sIn s x y ∧ sIn s u v then (if x = u ∧ y = v then (0, 0) else if s (30 + 12 * v + u) = 1 then (2, 0) else if sSteps s (zst s (12 * v + u)) x y < 0 then (2, 0) else (0, sSteps s (zst s (12 * v + u)) x y)) else (1, 0)
noncomputable def q_hutSteps (s : Int → Int) (x y : Int) : Int × Int := if sIn s x y then (if sSteps s (zsh s) x y < 0 then (2, 0) else (0, sSteps s (zsh s) x y)) else (1, 0)
theorem cP_pathLength {N : Nat} {G F : GM} {n : Nat} (hN : 241 ≤ N) (hok : mOk (G 231)) {x y u v : Int} (hx : zr x) (hy : zr y) (hu : zr u) (hv : zr v) : zC N 74 [.ref 230, .int (zi x), .int (zi y), .int (zi u), .int (zi v)] G F n (zQm G F n (q_path (G 231) x y u v)) := by
  refine zC_i (L0 := [.ref 230, .int (zi x), .int (zi y), .int (zi u), .int (zi v), .null]) rfl ?_
  refine zs_aload (ip' := 1) rfl rfl rfl ?_
  refine zs_pushI (ip' := 2) rfl rfl zi_k0 ?_
  refine zs_putI (ip' := 3) rfl rfl (by omega) zsh_230 rfl (q := 10) rfl (by omega) ?_
  have hm := zMk_0 (G := G) (t := 0)
  generalize zk G 230 (zp (G 230) 10 0) = G1 at hm ⊢
  have e1 := zMk_r hm
  rw [← e1] at hok ⊢
  have b0 := hok.1
  have b1 := hok.2.1
  have b4 := hok.2.2.2.2.1
  have b5 := hok.2.2.2.2.2.1
  refine zs_aload (ip' := 4) rfl rfl rfl ?_
  refine zs_iload (ip' := 5) rfl rfl rfl ?_
  refine zs_iload (ip' := 6) rfl rfl rfl ?_
  refine zW_cP (ip' := 7) rfl rfl (cM_isCell hN (by omega) (by omega) hx hy) rfl rfl (z_ok3 (by omega) zsh_230 rfl rfl rfl) ?_
  refine zs_if_eqB (t := 13) (ip' := 8) rfl rfl ?_ ?_
  · intro h7
    refine zs_aload (ip' := 14) rfl rfl rfl ?_
    refine zs_pushI (ip' := 15) rfl rfl zi_k1 ?_
    refine zW_cR (ip' := 16) rfl rfl (cM_fails hN (by decide)) rfl rfl (z_ok3 (by omega) zsh_230 rfl rfl rfl) ?_
    rintro v G' F' n' _ ⟨rfl, rfl, rfl, rfl⟩
    refine zW_0 rfl ?_
    exact zQ_no hm (if_neg (fun q => h7 q.1))
  · intro h7
    obtain ⟨⟨x0, x1⟩, y0, y1⟩ := id h7
    refine zs_aload (ip' := 9) rfl rfl rfl ?_
    refine zs_iload (ip' := 10) rfl rfl rfl ?_
    refine zs_iload (ip' := 11) rfl rfl rfl ?_
    refine zW_cP (ip' := 12) rfl rfl (cM_isCell hN (by omega) (by omega) hu hv) rfl rfl (z_ok3 (by omega) zsh_230 rfl rfl rfl) ?_
    refine zs_if_neB (t := 17) (ip' := 13) rfl rfl ?_ ?_
    · intro h12
      obtain ⟨⟨u0, u1⟩, v0, v1⟩ := id h12
      have hb := mOk_hb hok
      refine zs_aload (ip' := 18) rfl rfl rfl ?_
      refine zs_aload (ip' := 19) rfl rfl rfl ?_
      refine zs_getR (ip' := 20) rfl rfl (r := 231) (by omega) zsh_230 rfl ?_
      refine zs_iload (ip' := 21) rfl rfl rfl ?_
      refine zs_iload (ip' := 22) rfl rfl rfl ?_
      refine zW_cV (ip' := 23) rfl rfl (cM_spreadsTo hN zsh_231 (by omega) ⟨by decide, by decide, by decide⟩ hb ⟨u0, by omega⟩ ⟨v0, by omega⟩) rfl rfl (z_ok3 (by omega) zsh_230 rfl rfl rfl) ?_
      rintro G' F' n' ⟨A1, B1, f1, l1, hD, rfl, rfl, rfl⟩
      have hm2 := zMk_b (A := A1) (B := B1) (f := f1) (l := l1) hm
      have e2 : zBf G1 A1 B1 f1 l1 231 = G1 231 := zBf_o ⟨by decide, by decide, by decide⟩
      refine zs_iload (ip' := 24) rfl rfl rfl ?_
      refine zs_iload (ip' := 25) rfl rfl rfl ?_
      refine zs_icmp_ne (t := 31) (ip' := 26) rfl rfl (by omega) (by omega) ?_ ?_
      · intro h25
        refine zs_aload (ip' := 32) rfl rfl rfl ?_
        refine zs_getR (ip' := 33) rfl rfl (r := 231) (by omega) zsh_230 rfl ?_
        refine zs_iload (ip' := 34) rfl rfl rfl ?_
        refine zs_iload (ip' := 35) rfl rfl rfl ?_
        refine zW_cP (ip' := 36) rfl rfl cM_cellAt rfl rfl rfl ?_
        refine zs_iald (ip' := 37) rfl rfl (by omega) zsh_231 (by omega) ?_
        intro hl36 hu36
        rw [e2] at hl36 hu36 ⊢
        refine zs_pushI (ip' := 38) rfl rfl zi_k1 ?_
        refine zs_icmp_ne (t := 41) (ip' := 39) rfl rfl (by omega) (by omega) ?_ ?_
        · intro h38
          refine zs_aload (ip' := 42) rfl rfl rfl ?_
          refine zs_aload (ip' := 43) rfl rfl rfl ?_
          refine zs_getR (ip' := 44) rfl rfl (r := 231) (by omega) zsh_230 rfl ?_
          refine zs_iload (ip' := 45) rfl rfl rfl ?_
          refine zs_iload (ip' := 46) rfl rfl rfl ?_
          refine zW_cP (ip' := 47) rfl rfl (cM_stepsFrom hN zsh_231 (by omega) (by rw [e2]; exact hb) (by rw [e2, zBf_238]; exact hD.1) (by rw [e2]; exact ⟨x0, by omega⟩) (by rw [e2]; exact ⟨y0, by omega⟩)) rfl rfl (z_ok3 (by omega) zsh_230 rfl rfl rfl) ?_
          have hz := zst_spec hD
          rw [e2, zBf_238, sSteps_eq hb hD hz ⟨x0, by omega⟩ ⟨y0, by omega⟩]
          obtain ⟨n1, n2⟩ := sSteps_rng hb hz.1 (x := x) (y := y) ⟨x0, by omega⟩ ⟨y0, by omega⟩
          refine zs_istore5 (ip' := 48) rfl rfl ?_
          refine zs_iload (ip' := 49) rfl rfl rfl ?_
          refine zs_if_ge (t := 54) (ip' := 50) rfl rfl (by omega) ?_ ?_
          · intro h49
            refine zs_iload (ip' := 55) rfl rfl rfl ?_
            refine zW_0 rfl ?_
            exact zQ_ok hm2 ((if_pos ⟨h7, h12⟩).trans ((if_neg (fun q => h25 q.1)).trans ((if_neg h38).trans (if_neg (by omega)))))
          · intro h49
            refine zs_aload (ip' := 51) rfl rfl rfl ?_
            refine zs_pushI (ip' := 52) rfl rfl zi_k2 ?_
            refine zW_cR (ip' := 53) rfl rfl (cM_fails hN (by decide)) rfl rfl (z_ok3 (by omega) zsh_230 rfl rfl rfl) ?_
            rintro v G' F' n' _ ⟨rfl, rfl, rfl, rfl⟩
            refine zs_goto (t := 55) rfl ?_
            refine zW_0 rfl ?_
            exact zQ_no hm2 ((if_pos ⟨h7, h12⟩).trans ((if_neg (fun q => h25 q.1)).trans ((if_neg h38).trans (if_pos h49))))
        · intro h38
          refine zs_pushI (ip' := 40) rfl rfl zi_km1 ?_
          refine zs_goto (t := 47) rfl ?_
          refine zs_istore5 (ip' := 48) rfl rfl ?_
          refine zs_iload (ip' := 49) rfl rfl rfl ?_
          refine zs_if_ge (t := 54) (ip' := 50) rfl rfl (by omega) ?_ ?_
          · intro h49
            exact absurd h49 (by decide)
          · intro h49
            refine zs_aload (ip' := 51) rfl rfl rfl ?_
            refine zs_pushI (ip' := 52) rfl rfl zi_k2 ?_
            refine zW_cR (ip' := 53) rfl rfl (cM_fails hN (by decide)) rfl rfl (z_ok3 (by omega) zsh_230 rfl rfl rfl) ?_
            rintro v G' F' n' _ ⟨rfl, rfl, rfl, rfl⟩
            refine zs_goto (t := 55) rfl ?_
            refine zW_0 rfl ?_
            exact zQ_no hm2 ((if_pos ⟨h7, h12⟩).trans ((if_neg (fun q => h25 q.1)).trans (if_pos h38)))
      · intro h25
        refine zs_iload (ip' := 27) rfl rfl rfl ?_
        refine zs_iload (ip' := 28) rfl rfl rfl ?_
        refine zs_icmp_ne (t := 31) (ip' := 29) rfl rfl (by omega) (by omega) ?_ ?_
        · intro h28
          refine zs_aload (ip' := 32) rfl rfl rfl ?_
          refine zs_getR (ip' := 33) rfl rfl (r := 231) (by omega) zsh_230 rfl ?_
          refine zs_iload (ip' := 34) rfl rfl rfl ?_
          refine zs_iload (ip' := 35) rfl rfl rfl ?_
          refine zW_cP (ip' := 36) rfl rfl cM_cellAt rfl rfl rfl ?_
          refine zs_iald (ip' := 37) rfl rfl (by omega) zsh_231 (by omega) ?_
          intro hl36 hu36
          rw [e2] at hl36 hu36 ⊢
          refine zs_pushI (ip' := 38) rfl rfl zi_k1 ?_
          refine zs_icmp_ne (t := 41) (ip' := 39) rfl rfl (by omega) (by omega) ?_ ?_
          · intro h38
            refine zs_aload (ip' := 42) rfl rfl rfl ?_
            refine zs_aload (ip' := 43) rfl rfl rfl ?_
            refine zs_getR (ip' := 44) rfl rfl (r := 231) (by omega) zsh_230 rfl ?_
            refine zs_iload (ip' := 45) rfl rfl rfl ?_
            refine zs_iload (ip' := 46) rfl rfl rfl ?_
            refine zW_cP (ip' := 47) rfl rfl (cM_stepsFrom hN zsh_231 (by omega) (by rw [e2]; exact hb) (by rw [e2, zBf_238]; exact hD.1) (by rw [e2]; exact ⟨x0, by omega⟩) (by rw [e2]; exact ⟨y0, by omega⟩)) rfl rfl (z_ok3 (by omega) zsh_230 rfl rfl rfl) ?_
            have hz := zst_spec hD
            rw [e2, zBf_238, sSteps_eq hb hD hz ⟨x0, by omega⟩ ⟨y0, by omega⟩]
            obtain ⟨n1, n2⟩ := sSteps_rng hb hz.1 (x := x) (y := y) ⟨x0, by omega⟩ ⟨y0, by omega⟩
            refine zs_istore5 (ip' := 48) rfl rfl ?_
            refine zs_iload (ip' := 49) rfl rfl rfl ?_
            refine zs_if_ge (t := 54) (ip' := 50) rfl rfl (by omega) ?_ ?_
            · intro h49
              refine zs_iload (ip' := 55) rfl rfl rfl ?_
              refine zW_0 rfl ?_
              exact zQ_ok hm2 ((if_pos ⟨h7, h12⟩).trans ((if_neg (fun q => h28 q.2)).trans ((if_neg h38).trans (if_neg (by omega)))))
            · intro h49
              refine zs_aload (ip' := 51) rfl rfl rfl ?_
              refine zs_pushI (ip' := 52) rfl rfl zi_k2 ?_
              refine zW_cR (ip' := 53) rfl rfl (cM_fails hN (by decide)) rfl rfl (z_ok3 (by omega) zsh_230 rfl rfl rfl) ?_
              rintro v G' F' n' _ ⟨rfl, rfl, rfl, rfl⟩
              refine zs_goto (t := 55) rfl ?_
              refine zW_0 rfl ?_
              exact zQ_no hm2 ((if_pos ⟨h7, h12⟩).trans ((if_neg (fun q => h28 q.2)).trans ((if_neg h38).trans (if_pos h49))))
          · intro h38
            refine zs_pushI (ip' := 40) rfl rfl zi_km1 ?_
            refine zs_goto (t := 47) rfl ?_
            refine zs_istore5 (ip' := 48) rfl rfl ?_
            refine zs_iload (ip' := 49) rfl rfl rfl ?_
            refine zs_if_ge (t := 54) (ip' := 50) rfl rfl (by omega) ?_ ?_
            · intro h49
              exact absurd h49 (by decide)
            · intro h49
              refine zs_aload (ip' := 51) rfl rfl rfl ?_
              refine zs_pushI (ip' := 52) rfl rfl zi_k2 ?_
              refine zW_cR (ip' := 53) rfl rfl (cM_fails hN (by decide)) rfl rfl (z_ok3 (by omega) zsh_230 rfl rfl rfl) ?_
              rintro v G' F' n' _ ⟨rfl, rfl, rfl, rfl⟩
              refine zs_goto (t := 55) rfl ?_
              refine zW_0 rfl ?_
              exact zQ_no hm2 ((if_pos ⟨h7, h12⟩).trans ((if_neg (fun q => h28 q.2)).trans (if_pos h38)))
        · intro h28
          refine zs_pushI (ip' := 30) rfl rfl zi_k0 ?_
          refine zs_goto (t := 47) rfl ?_
          refine zs_istore5 (ip' := 48) rfl rfl ?_
          refine zs_iload (ip' := 49) rfl rfl rfl ?_
          refine zs_if_ge (t := 54) (ip' := 50) rfl rfl (by omega) ?_ ?_
          · intro h49
            refine zs_iload (ip' := 55) rfl rfl rfl ?_
            refine zW_0 rfl ?_
            exact zQ_ok hm2 ((if_pos ⟨h7, h12⟩).trans (if_pos ⟨h25, h28⟩))
          · intro h49
            exact absurd h49 (by decide)
    · intro h12
      refine zs_aload (ip' := 14) rfl rfl rfl ?_
      refine zs_pushI (ip' := 15) rfl rfl zi_k1 ?_
      refine zW_cR (ip' := 16) rfl rfl (cM_fails hN (by decide)) rfl rfl (z_ok3 (by omega) zsh_230 rfl rfl rfl) ?_
      rintro v G' F' n' _ ⟨rfl, rfl, rfl, rfl⟩
      refine zW_0 rfl ?_
      exact zQ_no hm (if_neg (fun q => h12 q.2))
theorem cP_stepsToHut {N : Nat} {G F : GM} {n : Nat} (hN : 241 ≤ N) (hok : mOk (G 231)) {x y : Int} (hx : zr x) (hy : zr y) : zC N 75 [.ref 230, .int (zi x), .int (zi y)] G F n (zQm G F n (q_hutSteps (G 231) x y)) := by
  refine zC_i (L0 := [.ref 230, .int (zi x), .int (zi y), .null]) rfl ?_
  refine zs_aload (ip' := 1) rfl rfl rfl ?_
  refine zs_pushI (ip' := 2) rfl rfl zi_k0 ?_
  refine zs_putI (ip' := 3) rfl rfl (by omega) zsh_230 rfl (q := 10) rfl (by omega) ?_
  have hm := zMk_0 (G := G) (t := 0)
  generalize zk G 230 (zp (G 230) 10 0) = G1 at hm ⊢
  have e1 := zMk_r hm
  rw [← e1] at hok ⊢
  have b0 := hok.1
  have b1 := hok.2.1
  have b4 := hok.2.2.2.2.1
  have b5 := hok.2.2.2.2.2.1
  refine zs_aload (ip' := 4) rfl rfl rfl ?_
  refine zs_iload (ip' := 5) rfl rfl rfl ?_
  refine zs_iload (ip' := 6) rfl rfl rfl ?_
  refine zW_cP (ip' := 7) rfl rfl (cM_isCell hN (by omega) (by omega) hx hy) rfl rfl (z_ok3 (by omega) zsh_230 rfl rfl rfl) ?_
  refine zs_if_neB (t := 12) (ip' := 8) rfl rfl ?_ ?_
  · intro h7
    obtain ⟨⟨x0, x1⟩, y0, y1⟩ := id h7
    have hb := mOk_hb hok
    refine zs_aload (ip' := 13) rfl rfl rfl ?_
    refine zs_aload (ip' := 14) rfl rfl rfl ?_
    refine zs_getR (ip' := 15) rfl rfl (r := 231) (by omega) zsh_230 rfl ?_
    refine zW_cV (ip' := 16) rfl rfl (cM_spreadsToHuts hN zsh_231 (by omega) ⟨by decide, by decide, by decide⟩ hb) rfl rfl (z_ok3 (by omega) zsh_230 rfl rfl rfl) ?_
    rintro G' F' n' ⟨A1, B1, f1, l1, hD, rfl, rfl, rfl⟩
    have hm2 := zMk_b (A := A1) (B := B1) (f := f1) (l := l1) hm
    have e2 : zBf G1 A1 B1 f1 l1 231 = G1 231 := zBf_o ⟨by decide, by decide, by decide⟩
    refine zs_aload (ip' := 17) rfl rfl rfl ?_
    refine zs_aload (ip' := 18) rfl rfl rfl ?_
    refine zs_getR (ip' := 19) rfl rfl (r := 231) (by omega) zsh_230 rfl ?_
    refine zs_iload (ip' := 20) rfl rfl rfl ?_
    refine zs_iload (ip' := 21) rfl rfl rfl ?_
    refine zW_cP (ip' := 22) rfl rfl (cM_stepsFrom hN zsh_231 (by omega) (by rw [e2]; exact hb) (by rw [e2, zBf_238]; exact hD.1) (by rw [e2]; exact ⟨x0, by omega⟩) (by rw [e2]; exact ⟨y0, by omega⟩)) rfl rfl (z_ok3 (by omega) zsh_230 rfl rfl rfl) ?_
    have hz := zsh_spec hD
    rw [e2, zBf_238, sSteps_eq hb hD hz ⟨x0, by omega⟩ ⟨y0, by omega⟩]
    obtain ⟨n1, n2⟩ := sSteps_rng hb hz.1 (x := x) (y := y) ⟨x0, by omega⟩ ⟨y0, by omega⟩
    refine zs_istore3 (ip' := 23) rfl rfl ?_
    refine zs_iload (ip' := 24) rfl rfl rfl ?_
    refine zs_if_ge (t := 29) (ip' := 25) rfl rfl (by omega) ?_ ?_
    · intro h24
      refine zs_iload (ip' := 30) rfl rfl rfl ?_
      refine zW_0 rfl ?_
      exact zQ_ok hm2 ((if_pos h7).trans (if_neg (by omega)))
    · intro h24
      refine zs_aload (ip' := 26) rfl rfl rfl ?_
      refine zs_pushI (ip' := 27) rfl rfl zi_k2 ?_
      refine zW_cR (ip' := 28) rfl rfl (cM_fails hN (by decide)) rfl rfl (z_ok3 (by omega) zsh_230 rfl rfl rfl) ?_
      rintro v G' F' n' _ ⟨rfl, rfl, rfl, rfl⟩
      refine zs_goto (t := 30) rfl ?_
      refine zW_0 rfl ?_
      exact zQ_no hm2 ((if_pos h7).trans (if_pos h24))
  · intro h7
    refine zs_aload (ip' := 9) rfl rfl rfl ?_
    refine zs_pushI (ip' := 10) rfl rfl zi_k1 ?_
    refine zW_cR (ip' := 11) rfl rfl (cM_fails hN (by decide)) rfl rfl (z_ok3 (by omega) zsh_230 rfl rfl rfl) ?_
    rintro v G' F' n' _ ⟨rfl, rfl, rfl, rfl⟩
    refine zW_0 rfl ?_
    exact zQ_no hm (if_neg h7)
/-- the spare row once the row is laid into it -/
def zSp (G : GM) : Int → Int := zlr (G 231) (G 233) 0 0 256
def zEq (s t : Int → Int) : Prop := ∀ j, 0 ≤ j → j < 256 → t j = s j
theorem zSp_eq (G : GM) : zEq (G 231) (zSp G) := fun j j0 j1 => by
  unfold zSp
  rw [zlr_in (by omega), show 0 + (j - 0) = j by omega]
theorem mOk_eq {s t : Int → Int} (e : zEq s t) (h : mOk s) : mOk t := by
  obtain ⟨a0, a1, a2, a3, a4, a5, hfog, hc, hl, hw⟩ := h
  have q : ∀ j, 0 ≤ j ∧ j < 256 → t j = s j := fun j hj => e j hj.1 hj.2
  unfold mOk
  rw [q 0 (by omega), q 1 (by omega), q 2 (by omega), q 3 (by omega), q 4 (by omega), q 5 (by omega)]
  refine ⟨a0, a1, a2, a3, a4, a5, ?_, ?_, ?_, ?_⟩
  · intro h h0 h1
    rw [q (6 + h) (by omega)]
    exact hfog h h0 h1
  · intro c c0 c1
    rw [q (30 + c) (by omega)]
    exact hc c c0 c1
  · intro l l0 l1
    have := hl l l0 l1
    unfold mLi at this ⊢
    rw [q (174 + 5 * l + 0) (by omega), q (174 + 5 * l + 1) (by omega), q (174 + 5 * l + 2) (by omega), q (174 + 5 * l + 3) (by omega), q (174 + 5 * l + 4) (by omega), q 0 (by omega), q 1 (by omega), q 4 (by omega)]
    exact this
  · intro w w0 w1
    have := hw w w0 w1
    unfold mWi at this ⊢
    rw [q (214 + 7 * w + 0) (by omega), q (214 + 7 * w + 1) (by omega), q (214 + 7 * w + 2) (by omega), q (214 + 7 * w + 3) (by omega), q (214 + 7 * w + 6) (by omega), q 0 (by omega), q 1 (by omega), q 3 (by omega), q 4 (by omega)]
    exact this
def q_willArrive (s t : Int → Int) (w : Int) : Int × Int := if 0 ≤ w ∧ w ≤ s 5 - 1 then (0, zb (t (214 + 7 * w + 2) = 1)) else (1, 0)
noncomputable def q_after (t : Int → Int) (m c : Int) : Int × Int := if 0 ≤ m ∧ m ≤ 300 then (0, sCount (sTicks t m.toNat) c) else (1, 0)
theorem cP_willArrive {N : Nat} {G F : GM} {n : Nat} (hN : 241 ≤ N) (hok : mOk (G 231)) (ht : G 231 3 ≤ 9999) {w : Int} (hw : zr w) : zC N 112 [.ref 230, .int (zi w)] G F n (zQm G F n (q_willArrive (G 231) (sTicks (zSp G) 300) w)) := by
  refine zC_i (L0 := [.ref 230, .int (zi w)]) rfl ?_
  refine zs_aload (ip' := 1) rfl rfl rfl ?_
  refine zs_pushI (ip' := 2) rfl rfl zi_k0 ?_
  refine zs_putI (ip' := 3) rfl rfl (by omega) zsh_230 rfl (q := 10) rfl (by omega) ?_
  have hm := zMk_0 (G := G) (t := 0)
  have es : zSp (zk G 230 (zp (G 230) 10 0)) = zSp G := rfl
  generalize zk G 230 (zp (G 230) 10 0) = G1 at hm es ⊢
  have e1 := zMk_r hm
  rw [← e1] at hok ht ⊢
  rw [← es]
  have b0 := hok.1
  have b1 := hok.2.1
  have b4 := hok.2.2.2.2.1
  have b5 := hok.2.2.2.2.2.1
  have b3 := hok.2.2.2.1
  refine zs_aload (ip' := 4) rfl rfl rfl ?_
  refine zs_iload (ip' := 5) rfl rfl rfl ?_
  refine zW_cP (ip' := 6) rfl rfl (cM_isWalker hN (by omega) hw) rfl rfl (z_ok3 (by omega) zsh_230 rfl rfl rfl) ?_
  refine zs_if_neB (t := 11) (ip' := 7) rfl rfl ?_ ?_
  · intro h6
    refine zs_aload (ip' := 12) rfl rfl rfl ?_
    refine zW_cV (ip' := 13) rfl rfl (cM_takesSpare hN) rfl rfl (z_ok3 (by omega) zsh_230 rfl rfl rfl) ?_
    rintro G' F' n' ⟨rfl, rfl, rfl⟩
    have hm2 := zMk_s (Y := zSp G1) hm
    have e2 : zk G1 233 (zSp G1) 233 = zSp G1 := zk_eq _ _ _
    rw [show zlr (G1 231) (G1 233) 0 0 256 = zSp G1 from rfl]
    generalize zk G1 233 (zSp G1) = G2 at hm2 e2 ⊢
    have hk2 : mOk (G2 233) := by rw [e2]; exact mOk_eq (zSp_eq G1) hok
    have ht2 : G2 233 3 = G1 231 3 := by rw [e2]; exact zSp_eq G1 3 (by omega) (by omega)
    refine zs_aload (ip' := 14) rfl rfl rfl ?_
    refine zs_aload (ip' := 15) rfl rfl rfl ?_
    refine zs_getR (ip' := 16) rfl rfl (r := 233) (by omega) zsh_230 rfl ?_
    refine zs_pushI (ip' := 17) rfl rfl zi_k300 ?_
    refine zW_cV (ip' := 18) rfl rfl (cM_ticksMany hN zsh_233 (by omega) ⟨by decide, by decide, by decide⟩ hk2 (q := 300) (by omega) (by omega)) rfl rfl (z_ok3 (by omega) zsh_230 rfl rfl rfl) ?_
    rintro G' F' n' ⟨A1, B1, f1, l1, rfl, rfl, rfl⟩
    have hm3 := zMk_b (A := A1) (B := B1) (f := f1) (l := l1) (zMk_s (Y := sTicks (G2 233) (300 : Int).toNat) hm2)
    have e3 : zBf (zk G2 233 (sTicks (G2 233) (300 : Int).toNat)) A1 B1 f1 l1 233 = sTicks (zSp G1) 300 := by rw [zBf_o ⟨by decide, by decide, by decide⟩, zk_eq, e2] <;> rfl
    generalize zBf (zk G2 233 (sTicks (G2 233) (300 : Int).toNat)) A1 B1 f1 l1 = G3 at hm3 e3 ⊢
    have hk3 : mOk (G3 233) := by rw [e3, ← e2]; exact (sTicks_ok hk2 _ (by omega)).1
    have z5 : G3 233 5 = G1 231 5 := by rw [e3, ← e2, (sTicks_ok hk2 _ (by omega)).2.2.2.2.2.2.1, zp_ne (by omega), e2]; exact zSp_eq G1 5 (by omega) (by omega)
    refine zs_aload (ip' := 19) rfl rfl rfl ?_
    refine zs_getR (ip' := 20) rfl rfl (r := 233) (by omega) zsh_230 rfl ?_
    refine zs_iload (ip' := 21) rfl rfl rfl ?_
    refine zs_pushI (ip' := 22) rfl rfl zi_k2 ?_
    refine zW_cP (ip' := 23) rfl rfl cM_walkerAt rfl rfl rfl ?_
    refine zs_iald (ip' := 24) rfl rfl (by omega) zsh_233 (by omega) ?_
    intro hl23 hu23
    refine zs_pushI (ip' := 25) rfl rfl zi_k1 ?_
    refine zs_icmp_ne (t := 28) (ip' := 26) rfl rfl (by omega) (by omega) ?_ ?_
    · intro h25
      refine zs_pushI (ip' := 29) rfl rfl zi_k0 ?_
      refine zW_0b rfl (Or.inl rfl) ?_
      exact zQ_ok hm3 ((if_pos h6).trans (by rw [zb_f (by rw [← e3]; exact h25)]))
    · intro h25
      refine zs_pushI (ip' := 27) rfl rfl zi_k1 ?_
      refine zs_goto (t := 29) rfl ?_
      refine zW_0b rfl (Or.inr rfl) ?_
      exact zQ_ok hm3 ((if_pos h6).trans (by rw [zb_t (by rw [← e3]; exact h25)]))
  · intro h6
    refine zs_aload (ip' := 8) rfl rfl rfl ?_
    refine zs_pushI (ip' := 9) rfl rfl zi_k1 ?_
    refine zW_cR (ip' := 10) rfl rfl (cM_isFailed hN (by decide)) rfl rfl (z_ok3 (by omega) zsh_230 rfl rfl rfl) ?_
    rintro v G' F' n' _ ⟨rfl, rfl, rfl, rfl⟩
    refine zW_0b rfl (Or.inl rfl) ?_
    exact zQ_no hm (if_neg h6)
theorem cP_countAfter {N : Nat} {G F : GM} {n : Nat} (hN : 241 ≤ N) (hok : mOk (G 231)) (ht : G 231 3 ≤ 9999) {q c : Int} (hq : zr q) (hc : zr c) : zC N 113 [.ref 230, .int (zi q), .int (zi c)] G F n (zQm G F n (q_after (zSp G) q c)) := by
  refine zC_i (L0 := [.ref 230, .int (zi q), .int (zi c)]) rfl ?_
  refine zs_aload (ip' := 1) rfl rfl rfl ?_
  refine zs_pushI (ip' := 2) rfl rfl zi_k0 ?_
  refine zs_putI (ip' := 3) rfl rfl (by omega) zsh_230 rfl (q := 10) rfl (by omega) ?_
  have hm := zMk_0 (G := G) (t := 0)
  have es : zSp (zk G 230 (zp (G 230) 10 0)) = zSp G := rfl
  generalize zk G 230 (zp (G 230) 10 0) = G1 at hm es ⊢
  have e1 := zMk_r hm
  rw [← e1] at hok ht
  rw [← es]
  have b0 := hok.1
  have b1 := hok.2.1
  have b4 := hok.2.2.2.2.1
  have b5 := hok.2.2.2.2.2.1
  have b3 := hok.2.2.2.1
  refine zs_iload (ip' := 4) rfl rfl rfl ?_
  refine zs_pushI (ip' := 5) rfl rfl zi_k0 ?_
  refine zs_pushI (ip' := 6) rfl rfl zi_k300 ?_
  refine zW_cP (ip' := 7) rfl rfl (cM_in (by omega) (by omega) (by omega)) rfl rfl rfl ?_
  refine zs_if_neB (t := 12) (ip' := 8) rfl rfl ?_ ?_
  · intro h7
    refine zs_aload (ip' := 13) rfl rfl rfl ?_
    refine zW_cV (ip' := 14) rfl rfl (cM_takesSpare hN) rfl rfl (z_ok3 (by omega) zsh_230 rfl rfl rfl) ?_
    rintro G' F' n' ⟨rfl, rfl, rfl⟩
    have hm2 := zMk_s (Y := zSp G1) hm
    have e2 : zk G1 233 (zSp G1) 233 = zSp G1 := zk_eq _ _ _
    rw [show zlr (G1 231) (G1 233) 0 0 256 = zSp G1 from rfl]
    generalize zk G1 233 (zSp G1) = G2 at hm2 e2 ⊢
    have hk2 : mOk (G2 233) := by rw [e2]; exact mOk_eq (zSp_eq G1) hok
    have ht2 : G2 233 3 = G1 231 3 := by rw [e2]; exact zSp_eq G1 3 (by omega) (by omega)
    refine zs_aload (ip' := 15) rfl rfl rfl ?_
    refine zs_aload (ip' := 16) rfl rfl rfl ?_
    refine zs_getR (ip' := 17) rfl rfl (r := 233) (by omega) zsh_230 rfl ?_
    refine zs_iload (ip' := 18) rfl rfl rfl ?_
    refine zW_cV (ip' := 19) rfl rfl (cM_ticksMany hN zsh_233 (by omega) ⟨by decide, by decide, by decide⟩ hk2 (q := q) (by omega) (by omega)) rfl rfl (z_ok3 (by omega) zsh_230 rfl rfl rfl) ?_
    rintro G' F' n' ⟨A1, B1, f1, l1, rfl, rfl, rfl⟩
    have hm3 := zMk_b (A := A1) (B := B1) (f := f1) (l := l1) (zMk_s (Y := sTicks (G2 233) (q : Int).toNat) hm2)
    have e3 : zBf (zk G2 233 (sTicks (G2 233) (q : Int).toNat)) A1 B1 f1 l1 233 = sTicks (zSp G1) q.toNat := by rw [zBf_o ⟨by decide, by decide, by decide⟩, zk_eq, e2] <;> rfl
    generalize zBf (zk G2 233 (sTicks (G2 233) (q : Int).toNat)) A1 B1 f1 l1 = G3 at hm3 e3 ⊢
    have hk3 : mOk (G3 233) := by rw [e3, ← e2]; exact (sTicks_ok hk2 _ (by omega)).1
    have z5 : G3 233 5 = G1 231 5 := by rw [e3, ← e2, (sTicks_ok hk2 _ (by omega)).2.2.2.2.2.2.1, zp_ne (by omega), e2]; exact zSp_eq G1 5 (by omega) (by omega)
    refine zs_aload (ip' := 20) rfl rfl rfl ?_
    refine zs_getR (ip' := 21) rfl rfl (r := 233) (by omega) zsh_230 rfl ?_
    refine zs_iload (ip' := 22) rfl rfl rfl ?_
    refine zW_cP (ip' := 23) rfl rfl (cM_countOf zsh_233 (by omega) hc hk3.2.2.2.2.2.1) rfl rfl rfl ?_
    refine zW_0 rfl ?_
    exact zQ_ok hm3 ((if_pos h7).trans (by rw [e3]))
  · intro h7
    refine zs_aload (ip' := 9) rfl rfl rfl ?_
    refine zs_pushI (ip' := 10) rfl rfl zi_k1 ?_
    refine zW_cR (ip' := 11) rfl rfl (cM_fails hN (by decide)) rfl rfl (z_ok3 (by omega) zsh_230 rfl rfl rfl) ?_
    rintro v G' F' n' _ ⟨rfl, rfl, rfl, rfl⟩
    refine zW_0 rfl ?_
    exact zQ_no hm (if_neg h7)
theorem cP_arrivedAfter {N : Nat} {G F : GM} {n : Nat} (hN : 241 ≤ N) (hok : mOk (G 231)) (ht : G 231 3 ≤ 9999) {q : Int} (hq : zr q) : zC N 114 [.ref 230, .int (zi q)] G F n (zQm G F n (q_after (zSp G) q 1)) := by
  refine zC_i (L0 := [.ref 230, .int (zi q)]) rfl ?_
  refine zs_aload (ip' := 1) rfl rfl rfl ?_
  refine zs_iload (ip' := 2) rfl rfl rfl ?_
  refine zs_pushI (ip' := 3) rfl rfl zi_k1 ?_
  refine zW_c (ip' := 4) rfl rfl (cP_countAfter hN hok ht hq (by decide)) rfl rfl (z_ok3 (by omega) zsh_230 rfl rfl rfl) ?_ ?_
  · rintro v G' F' n' ⟨h1, h2, h3, h4⟩
    cases h1
    exact zW_0 rfl ⟨rfl, h2, h3, h4⟩
  · rintro ex G' F' n' ⟨h1, -⟩
    cases h1
theorem cP_sunkAfter {N : Nat} {G F : GM} {n : Nat} (hN : 241 ≤ N) (hok : mOk (G 231)) (ht : G 231 3 ≤ 9999) {q : Int} (hq : zr q) : zC N 115 [.ref 230, .int (zi q)] G F n (zQm G F n (q_after (zSp G) q 2)) := by
  refine zC_i (L0 := [.ref 230, .int (zi q)]) rfl ?_
  refine zs_aload (ip' := 1) rfl rfl rfl ?_
  refine zs_iload (ip' := 2) rfl rfl rfl ?_
  refine zs_pushI (ip' := 3) rfl rfl zi_k2 ?_
  refine zW_c (ip' := 4) rfl rfl (cP_countAfter hN hok ht hq (by decide)) rfl rfl (z_ok3 (by omega) zsh_230 rfl rfl rfl) ?_ ?_
  · rintro v G' F' n' ⟨h1, h2, h3, h4⟩
    cases h1
    exact zW_0 rfl ⟨rfl, h2, h3, h4⟩
  · rintro ex G' F' n' ⟨h1, -⟩
    cases h1
def sDone (t : Int → Int) (w : Int) : Prop := t (214 + 7 * w + 2) ≠ 0
noncomputable def sUntil (t : Int → Int) (w : Int) : Int := @zfst (fun k => sTicks t (k + 1).toNat (214 + 7 * w + 2) ≠ 0) (fun _ => inferInstance) 300
noncomputable def q_until (s t : Int → Int) (w : Int) : Int × Int := if 0 ≤ w ∧ w ≤ s 5 - 1 then (if s (214 + 7 * w + 2) ≠ 0 then (2, 0) else if sUntil t w < 0 then (3, 0) else (0, sUntil t w + 1)) else (1, 0)
theorem cM_until_l {N : Nat} {F : GM} {n : Nat} (hN : 241 ≤ N) {G0 : GM} {s : Int → Int} (hs : mOk s) (hst : s 3 ≤ 9999) {w : Int} (hw : 0 ≤ w ∧ w < s 5) {q : Int × Int} (hq1 : sUntil s w < 0 → q = (3, 0)) (hq2 : 0 ≤ sUntil s w → q = (0, sUntil s w + 1)) : ∀ (d : Nat) (k : Nat) (G1 : GM), 301 - (k : Int) < (d : Int) → (k : Int) ≤ 300 → zMk G0 G1 0 → G1 233 = sTicks s k → (∀ i : Int, 0 ≤ i → i < k → sTicks s (i + 1).toNat (214 + 7 * w + 2) = 0) → zW N 111 26 [.ref 230, .int (zi w), .int (zi ((k : Int) + 1))] [] G1 F n (zQm G0 F n q) := by
  intro d
  induction d with
  | zero =>
    intro k G1 hd hj hm e hn
    exact absurd hd (by omega)
  | succ d ih =>
    intro k G1 hd hj hm e hn
    have b3 := hs.2.2.2.1
    have b5 := hs.2.2.2.2.2.1
    obtain ⟨hk1, z1⟩ := sTicks_ok hs k (by omega)
    rw [← e] at hk1 z1
    have z3 : G1 233 3 = s 3 + k := z1.2.2.2.1.trans (zp_eq _ _ _)
    refine zs_iload (ip' := 27) rfl rfl rfl ?_
    refine zs_pushI (ip' := 28) rfl rfl zi_k300 ?_
    refine zs_icmp_gt (t := 44) (ip' := 29) rfl rfl (by omega) (by omega) ?_ ?_
    · intro h28
      have hk3 : sUntil s w < 0 := by
        unfold sUntil
        rw [zfst_no 300 (fun i i0 i1 => by rw [hn i i0 (by omega)]; decide)]
        decide
      refine zs_aload (ip' := 45) rfl rfl rfl ?_
      refine zs_pushI (ip' := 46) rfl rfl zi_k3 ?_
      refine zW_cR (ip' := 47) rfl rfl (cM_fails hN (by decide)) rfl rfl (z_ok3 (by omega) zsh_230 rfl rfl rfl) ?_
      rintro v G' F' n' _ ⟨rfl, rfl, rfl, rfl⟩
      refine zW_0 rfl ?_
      exact zQ_no hm (hq1 hk3)
    · intro h28
      refine zs_aload (ip' := 30) rfl rfl rfl ?_
      refine zs_aload (ip' := 31) rfl rfl rfl ?_
      refine zs_getR (ip' := 32) rfl rfl (r := 233) (by omega) zsh_230 rfl ?_
      refine zW_cV (ip' := 33) rfl rfl (cM_ticks hN zsh_233 (by omega) ⟨by decide, by decide, by decide⟩ hk1 (by omega)) rfl rfl (z_ok3 (by omega) zsh_230 rfl rfl rfl) ?_
      rintro G' F' n' ⟨A1, B1, f1, l1, rfl, rfl, rfl⟩
      have hm3 := zMk_b (A := A1) (B := B1) (f := f1) (l := l1) (zMk_s (Y := sTick (G1 233)) hm)
      have e3 : zBf (zk G1 233 (sTick (G1 233))) A1 B1 f1 l1 233 = sTicks s (k + 1) := by rw [zBf_o ⟨by decide, by decide, by decide⟩, zk_eq, e]; rfl
      generalize zBf (zk G1 233 (sTick (G1 233))) A1 B1 f1 l1 = G3 at hm3 e3 ⊢
      refine zs_aload (ip' := 34) rfl rfl rfl ?_
      refine zs_getR (ip' := 35) rfl rfl (r := 233) (by omega) zsh_230 rfl ?_
      refine zs_iload (ip' := 36) rfl rfl rfl ?_
      refine zs_pushI (ip' := 37) rfl rfl zi_k2 ?_
      refine zW_cP (ip' := 38) rfl rfl cM_walkerAt rfl rfl rfl ?_
      refine zs_iald (ip' := 39) rfl rfl (by omega) zsh_233 (by omega) ?_
      intro hl38 hu38
      refine zs_if_eq (t := 42) (ip' := 40) rfl rfl (by omega) ?_ ?_
      · intro h39
        refine zs_iinc2 (ip' := 43) rfl rfl zi_k1 ?_
        refine zs_goto (t := 26) rfl ?_
        exact ih (k + 1) G3 (by omega) (by omega) hm3 e3 (fun i i0 i1 => by
          by_cases e4 : i < k
          · exact hn i i0 e4
          · rw [show (i + 1).toNat = k + 1 by omega, ← e3]
            exact h39)
      · intro h39
        refine zs_iload (ip' := 41) rfl rfl rfl ?_
        refine zW_0 rfl ?_
        have hu : sUntil s w = k := zfst_at (p := fun k => sTicks s (k + 1).toNat (214 + 7 * w + 2) ≠ 0) (j := k) (by show sTicks s ((k : Int) + 1).toNat _ ≠ 0; rw [show ((k : Int) + 1).toNat = k + 1 by omega, ← e3]; exact h39) (fun i i0 i1 q => q (hn i i0 i1)) 300 (by omega)
        exact zQ_ok hm3 (by rw [hq2 (by omega), hu])
theorem cP_ticksUntilDone {N : Nat} {G F : GM} {n : Nat} (hN : 241 ≤ N) (hok : mOk (G 231)) (ht : G 231 3 ≤ 9999) {w : Int} (hw : zr w) : zC N 111 [.ref 230, .int (zi w)] G F n (zQm G F n (q_until (G 231) (zSp G) w)) := by
  refine zC_i (L0 := [.ref 230, .int (zi w), .null]) rfl ?_
  refine zs_aload (ip' := 1) rfl rfl rfl ?_
  refine zs_pushI (ip' := 2) rfl rfl zi_k0 ?_
  refine zs_putI (ip' := 3) rfl rfl (by omega) zsh_230 rfl (q := 10) rfl (by omega) ?_
  have hm := zMk_0 (G := G) (t := 0)
  have es : zSp (zk G 230 (zp (G 230) 10 0)) = zSp G := rfl
  generalize zk G 230 (zp (G 230) 10 0) = G1 at hm es ⊢
  have e1 := zMk_r hm
  rw [← e1] at hok ht ⊢
  rw [← es]
  have b0 := hok.1
  have b1 := hok.2.1
  have b4 := hok.2.2.2.2.1
  have b5 := hok.2.2.2.2.2.1
  have b3 := hok.2.2.2.1
  refine zs_aload (ip' := 4) rfl rfl rfl ?_
  refine zs_iload (ip' := 5) rfl rfl rfl ?_
  refine zW_cP (ip' := 6) rfl rfl (cM_isWalker hN (by omega) hw) rfl rfl (z_ok3 (by omega) zsh_230 rfl rfl rfl) ?_
  refine zs_if_neB (t := 11) (ip' := 7) rfl rfl ?_ ?_
  · intro h6
    refine zs_aload (ip' := 12) rfl rfl rfl ?_
    refine zs_getR (ip' := 13) rfl rfl (r := 231) (by omega) zsh_230 rfl ?_
    refine zs_iload (ip' := 14) rfl rfl rfl ?_
    refine zs_pushI (ip' := 15) rfl rfl zi_k2 ?_
    refine zW_cP (ip' := 16) rfl rfl cM_walkerAt rfl rfl rfl ?_
    refine zs_iald (ip' := 17) rfl rfl (by omega) zsh_231 (by omega) ?_
    intro hl16 hu16
    refine zs_if_eq (t := 22) (ip' := 18) rfl rfl (by omega) ?_ ?_
    · intro h17
      refine zs_aload (ip' := 23) rfl rfl rfl ?_
      refine zW_cV (ip' := 24) rfl rfl (cM_takesSpare hN) rfl rfl (z_ok3 (by omega) zsh_230 rfl rfl rfl) ?_
      rintro G' F' n' ⟨rfl, rfl, rfl⟩
      have hm2 := zMk_s (Y := zSp G1) hm
      have e2 : zk G1 233 (zSp G1) 233 = zSp G1 := zk_eq _ _ _
      rw [show zlr (G1 231) (G1 233) 0 0 256 = zSp G1 from rfl]
      generalize zk G1 233 (zSp G1) = G2 at hm2 e2 ⊢
      have hk2 : mOk (G2 233) := by rw [e2]; exact mOk_eq (zSp_eq G1) hok
      have ht2 : G2 233 3 = G1 231 3 := by rw [e2]; exact zSp_eq G1 3 (by omega) (by omega)
      refine zs_pushI (ip' := 25) rfl rfl zi_k1 ?_
      refine zs_istore2 (ip' := 26) rfl rfl ?_
      rw [e2] at hk2 ht2
      have z5 : zSp G1 5 = G1 231 5 := zSp_eq G1 5 (by omega) (by omega)
      exact cM_until_l hN hk2 (by omega) (w := w) ⟨h6.1, by omega⟩ (fun q => (if_pos h6).trans ((if_neg (fun hh => hh h17)).trans (if_pos q))) (fun q => (if_pos h6).trans ((if_neg (fun hh => hh h17)).trans (if_neg (by omega)))) 302 0 G2 (by omega) (by omega) hm2 e2 (fun i i0 i1 => absurd i1 (by omega))
    · intro h17
      refine zs_aload (ip' := 19) rfl rfl rfl ?_
      refine zs_pushI (ip' := 20) rfl rfl zi_k2 ?_
      refine zW_cR (ip' := 21) rfl rfl (cM_fails hN (by decide)) rfl rfl (z_ok3 (by omega) zsh_230 rfl rfl rfl) ?_
      rintro v G' F' n' _ ⟨rfl, rfl, rfl, rfl⟩
      refine zW_0 rfl ?_
      exact zQ_no hm ((if_pos h6).trans (if_pos h17))
  · intro h6
    refine zs_aload (ip' := 8) rfl rfl rfl ?_
    refine zs_pushI (ip' := 9) rfl rfl zi_k1 ?_
    refine zW_cR (ip' := 10) rfl rfl (cM_fails hN (by decide)) rfl rfl (z_ok3 (by omega) zsh_230 rfl rfl rfl) ?_
    rintro v G' F' n' _ ⟨rfl, rfl, rfl, rfl⟩
    refine zW_0 rfl ?_
    exact zQ_no hm (if_neg h6)
