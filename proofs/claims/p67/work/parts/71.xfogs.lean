/-! The program: the fogs of a text (printed by wip/whole/src71.py). -/
section PF
variable {T : Int → Int} {n p : Int} {D : Int → Int}
theorem pLoop_y {v : Int} {f : zTx → zTx} {d : Nat} (h : pIs T n (p, 0, -1, D) v) : pLoop T n v f (d + 1) (p, 0, -1, D) = pLoop T n v f d (f (p, 0, -1, D)) := if_pos ⟨rfl, h⟩
theorem pLoop_n {v : Int} {f : zTx → zTx} {d : Nat} (h : ¬ pIs T n (p, 0, -1, D) v) : pLoop T n v f (d + 1) (p, 0, -1, D) = (p, 0, -1, D) := if_neg (fun q => h q.2)
theorem xTk_no (hp : p = n) : tK T n p = 0 := by
  obtain ⟨r1, r2⟩ := tB_rng (T := T) (n := n) (p := p) (by omega)
  exact (xTk_end (by omega)).2
theorem xTk_up (hp : p ≤ n) (h : tK T n p ≠ 0) : p + 1 ≤ tE T n p := by
  obtain ⟨r1, r2⟩ := tB_rng (T := T) hp
  obtain ⟨r3, r4, r5⟩ := tE_rng (T := T) hp
  by_cases q : tB T n p = n
  · exact absurd (xTk_end q).2 h
  · have := r5 (by omega)
    omega
theorem pFog_b2 (h : ¬ pNc T n (tE T n p, 0, -1, D) 0 23) : xWr (pFog T n (p, 0, -1, D)) (tB T n (tE T n p)) := by
  have e : pNs T n (pNx T n (p, 0, -1, D)) 0 23 = (tE T n p, 1, tB T n (tE T n p), D) := pNs_f h
  unfold pFog
  rw [e, pNs_w rfl]
  exact ⟨rfl, rfl⟩
theorem pFog_b3 (h1 : pNc T n (tE T n p, 0, -1, D) 0 23) (h : ¬ pNc T n (tE T n (tE T n p), 0, -1, D) 0 9) : xWr (pFog T n (p, 0, -1, D)) (tB T n (tE T n (tE T n p))) := by
  have e : pNs T n (pNx T n (p, 0, -1, D)) 0 23 = (tE T n (tE T n p), 0, -1, D) := pNs_t h1
  unfold pFog
  rw [e, pNs_f h]
  exact ⟨rfl, rfl⟩
theorem pFog_a (h1 : pNc T n (tE T n p, 0, -1, D) 0 23) (h2 : pNc T n (tE T n (tE T n p), 0, -1, D) 0 9) : pFog T n (p, 0, -1, D) = if tK T n (tE T n (tE T n (tE T n p))) = 3 then (tE T n (tE T n (tE T n (tE T n p))), 0, -1, zp D (6 + tV T n (tE T n p)) (tV T n (tE T n (tE T n p)))) else (tE T n (tE T n (tE T n p)), 1, tB T n (tE T n (tE T n (tE T n p))), D) := by
  have e : pNs T n (pNx T n (p, 0, -1, D)) 0 23 = (tE T n (tE T n p), 0, -1, D) := pNs_t h1
  have e' : pNv T n (pNx T n (p, 0, -1, D)) 0 23 = tV T n (tE T n p) := pNv_t h1
  unfold pFog
  rw [e, e', pNs_t h2, pNv_t h2]
  unfold pF3
  by_cases h : tK T n (tE T n (tE T n (tE T n p))) = 3
  · rw [if_pos ⟨rfl, h⟩, if_pos h, pTk_t h]
    rfl
  · rw [if_neg (fun q => h q.2), if_neg h, pTk_f h]
end PF
theorem cR_fogs_l {N : Nat} {F : GM} {n : Nat} (hN : 229 ≤ N) {w : Nat} (hw : w < 12) {T : Int → Int} {m H : Int} {G0 : GM} : ∀ (d : Nat) (nn : Nat) (p : Int) (D : Int → Int) (a3 : Value) (G : GM), 801 ≤ (nn : Int) + (d : Int) → (nn : Int) ≤ p → p ≤ 800 → D 1 = H → xGw w H G0 G T m p D → zW N 188 2 [.ref 197, .ref (16 * w), .int (zi (nn : Int)), a3] [] G F n (zR fun v G' F' n' => xSt w H G0 T m (pLoop T m 4786 (pFog T m) d (p, 0, -1, D)) v G' ∧ F' = F ∧ n' = n) := by
  intro d
  induction d with
  | zero =>
    intro nn p D a3 G hd hj hp8 hD1 hG
    exact absurd hd (by omega)
  | succ d ih =>
    intro nn p D a3 G hd hj hp8 hD1 hG
    obtain ⟨hb0, hp0, hs0, hw0, hok, hRg⟩ := hG
    obtain ⟨-, ⟨m0, m1⟩, -⟩ := id hb0
    have hR : RX G w D := by rw [← hD1] at hRg; exact hRg
    refine zs_iload (ip' := 3) rfl rfl rfl ?_
    refine zs_pushI (ip' := 4) rfl rfl zi_k800 ?_
    refine zs_icmp_ge (t := 39) (ip' := 5) rfl rfl (by omega) (by omega) ?_ ?_
    · intro h4
      refine zs_pushI (ip' := 40) rfl rfl zi_k1 ?_
      refine zW_0b rfl (Or.inr rfl) ?_
      have e := pLoop_n (T := T) (n := m) (p := p) (D := D) (v := 4786) (f := pFog T m) (d := d) (fun q => by have := q.1; rw [show tK T m p = 0 from xTk_no (by omega)] at this; exact absurd this (by decide))
      rw [e]
      exact ⟨1, rfl, by decide, Or.inl ⟨rfl, p, D, rfl, hb0, hp0, hs0, hw0, hok, hRg⟩, rfl, rfl⟩
    · intro h4
      refine zs_aload (ip' := 6) rfl rfl rfl ?_
      refine zs_push (ip' := 7) rfl rfl ?_
      refine zW_cR (ip' := 8) rfl rfl (cX_word_4 hN hb0 hp0 hs0) rfl rfl (z_ok3 (by omega) zsh_197 rfl rfl rfl) ?_
      rintro v1 G1 F' n' hv1 ⟨hd1, rfl, rfl⟩
      refine zs_if_eq (t := 39) (ip' := 9) rfl rfl (by omega) ?_ ?_
      · intro h8
        obtain ⟨-, hc1, rfl⟩ := hd1.resolve_left (fun q => absurd (q.1.symm.trans h8) (by decide))
        refine zs_pushI (ip' := 40) rfl rfl zi_k1 ?_
        refine zW_0b rfl (Or.inr rfl) ?_
        have e := pLoop_n (T := T) (n := m) (p := p) (D := D) (v := 4786) (f := pFog T m) (d := d) hc1
        rw [e]
        exact ⟨1, rfl, by decide, Or.inl ⟨rfl, p, D, rfl, hb0, hp0, hs0, hw0, hok, hRg⟩, rfl, rfl⟩
      · intro h8
        obtain ⟨-, hc1, hr1, hs1⟩ := hd1.resolve_right (fun q => h8 q.1)
        obtain ⟨p1, hpe1⟩ : ∃ q, q = tE T m p := ⟨_, rfl⟩
        rw [← hpe1] at hs1
        have hp1 : 0 ≤ p1 ∧ p1 ≤ m := by rw [hpe1]; exact tE_in hp0
        have hb1 := xBu_rt hb0 hr1
        have hw1 : xRw w G0 G1 := xRw_t hw0 (xRw_d hr1)
        have hup := xTk_up (T := T) hp0.2 (by omega)
        refine zs_aload (ip' := 10) rfl rfl rfl ?_
        refine zs_pushI (ip' := 11) rfl rfl zi_k0 ?_
        refine zs_pushI (ip' := 12) rfl rfl zi_k23 ?_
        refine zW_cR (ip' := 13) rfl rfl (cX_takeNum hN hb1 hp1 hs1 (by omega) (by omega)) rfl rfl (z_ok3 (by omega) zsh_197 rfl rfl rfl) ?_
        rintro v2 G2 F' n' hv2 ⟨hd2, rfl, rfl⟩
        refine zs_if_ne (t := 16) (ip' := 14) rfl rfl (by omega) ?_ ?_
        · intro h13
          obtain ⟨-, hc2, hn2, hr2, hs2⟩ := hd2.resolve_right (fun q => h13 q.1)
          obtain ⟨p2, hpe2⟩ : ∃ q, q = tE T m p1 := ⟨_, rfl⟩
          rw [← hpe2] at hs2
          have hp2 : 0 ≤ p2 ∧ p2 ≤ m := by rw [hpe2]; exact tE_in hp1
          have hb2 := xBu_rt hb1 hr2
          have hw2 : xRw w G0 G2 := xRw_t hw1 (xRw_d hr2)
          refine zs_aload (ip' := 17) rfl rfl rfl ?_
          refine zs_getI (ip' := 18) rfl rfl (by omega) zsh_197 rfl (q := 6) rfl ?_
          intro hl17 hu17
          rw [hn2] at hl17 hu17 ⊢
          refine zs_istore3 (ip' := 19) rfl rfl ?_
          refine zs_aload (ip' := 20) rfl rfl rfl ?_
          refine zs_pushI (ip' := 21) rfl rfl zi_k0 ?_
          refine zs_pushI (ip' := 22) rfl rfl zi_k9 ?_
          refine zW_cR (ip' := 23) rfl rfl (cX_takeNum hN hb2 hp2 hs2 (by omega) (by omega)) rfl rfl (z_ok3 (by omega) zsh_197 rfl rfl rfl) ?_
          rintro v3 G3 F' n' hv3 ⟨hd3, rfl, rfl⟩
          refine zs_if_ne (t := 26) (ip' := 24) rfl rfl (by omega) ?_ ?_
          · intro h23
            obtain ⟨-, hc3, hn3, hr3, hs3⟩ := hd3.resolve_right (fun q => h23 q.1)
            obtain ⟨p3, hpe3⟩ : ∃ q, q = tE T m p2 := ⟨_, rfl⟩
            rw [← hpe3] at hs3
            have hp3 : 0 ≤ p3 ∧ p3 ≤ m := by rw [hpe3]; exact tE_in hp2
            have hb3 := xBu_rt hb2 hr3
            have hw3 : xRw w G0 G3 := xRw_t hw2 (xRw_d hr3)
            have hR3 : RX G3 w D := RX_fr hR (fun k a b => (hr3.1 k (by omega)).trans ((hr2.1 k (by omega)).trans (hr1.1 k (by omega))))
            have hok9 : mOk (zp D (6 + tV T m p1) (tV T m p2)) := mOk_fog hok ⟨hc2.2.1, by omega⟩ hc3.2
            have hpf := pFog_a (T := T) (n := m) (p := p) (D := D) (by rw [← hpe1]; exact hc2) (by rw [← hpe1, ← hpe2]; exact hc3)
            rw [← hpe1, ← hpe2, ← hpe3] at hpf
            refine zs_aload (ip' := 27) rfl rfl rfl ?_
            refine zs_getR (ip' := 28) rfl rfl (r := 16 * w + 15) (by omega) (zsh_w0 hw) rfl ?_
            refine zs_iload (ip' := 29) rfl rfl rfl ?_
            refine zs_aload (ip' := 30) rfl rfl rfl ?_
            refine zs_getI (ip' := 31) rfl rfl (by omega) zsh_197 rfl (q := 6) rfl ?_
            intro hl30 hu30
            rw [hn3] at hl30 hu30 ⊢
            refine zs_iast (ip' := 32) rfl rfl (by omega) (zsh_w15 hw) (by omega) (by omega) ?_
            have hR9 : RX (zk G3 (16 * w + 15) (zp (G3 (16 * w + 15)) (tV T m p1) (tV T m p2))) w (zp D (6 + tV T m p1) (tV T m p2)) := RX_fog ⟨by omega, by omega⟩ hok hR3
            have f9 : ∀ k, k ≠ 16 * w + 15 → zk G3 (16 * w + 15) (zp (G3 (16 * w + 15)) (tV T m p1) (tV T m p2)) k = G3 k := fun k hk => zk_ne hk
            generalize zk G3 (16 * w + 15) (zp (G3 (16 * w + 15)) (tV T m p1) (tV T m p2)) = G9 at hR9 f9 ⊢
            have hw9 : xRw w G0 G9 := xRw_t hw3 (xRw_k (by omega) hw f9)
            have hb9 := xBu_rw hw hb3 (xRw_k (w := w) (by omega) hw f9)
            have hs9 : xTo G9 T m p3 := by unfold xTo; rw [f9 197 (by omega)]; exact hs3
            refine zs_aload (ip' := 33) rfl rfl rfl ?_
            refine zW_cR (ip' := 34) rfl rfl (cX_semi hN hb9 hp3 hs9) rfl rfl (z_ok3 (by omega) zsh_197 rfl rfl rfl) ?_
            rintro v4 G4 F' n' hv4 ⟨hd4, rfl, rfl⟩
            refine zs_if_ne (t := 37) (ip' := 35) rfl rfl (by omega) ?_ ?_
            · intro h34
              obtain ⟨-, hc4, hr4, hs4⟩ := hd4.resolve_right (fun q => h34 q.1)
              obtain ⟨p4, hpe4⟩ : ∃ q, q = tE T m p3 := ⟨_, rfl⟩
              rw [← hpe4] at hs4
              have hp4 : 0 ≤ p4 ∧ p4 ≤ m := by rw [hpe4]; exact tE_in hp3
              have hb4 := xBu_rt hb9 hr4
              have hw4 : xRw w G0 G4 := xRw_t hw9 (xRw_d hr4)
              refine zs_iinc2 (ip' := 38) rfl rfl zi_k1 ?_
              refine zs_goto (t := 2) rfl ?_
              rw [pLoop_y hc1, hpf, if_pos hc4, ← hpe4]
              have u1 := xTk_up (T := T) hp1.2 (by omega)
              have u2 := xTk_up (T := T) hp2.2 (by omega)
              have u3 := xTk_up (T := T) hp3.2 (by omega)
              have hRg9 : RXg G9 w (zp D (6 + tV T m p1) (tV T m p2)) H := by rw [← hD1, ← show zp D (6 + tV T m p1) (tV T m p2) 1 = D 1 from zp_ne (by omega)]; exact hR9
              exact ih (nn + 1) p4 _ _ G4 (by omega) (by omega) (by omega) (by rw [zp_ne (by omega)]; exact hD1) ⟨hb4, hp4, hs4, hw4, hok9, RXg_fr hRg9 (fun k a b => hr4.1 k (by omega))⟩
            · intro h34
              obtain ⟨-, hc4, rfl⟩ := hd4.resolve_left (fun q => absurd (q.1.symm.trans h34) (by decide))
              refine zs_pushI (ip' := 36) rfl rfl zi_k0 ?_
              refine zW_0b rfl (Or.inl rfl) ?_
              have hx := (by rw [hpf, if_neg hc4]; exact ⟨rfl, rfl⟩ : xWr (pFog T m (p, 0, -1, D)) (tB T m p3))
              rw [pLoop_y hc1, pLoop_w hx.1]
              exact ⟨0, rfl, by decide, Or.inr ⟨rfl, hx.1, hx.2.trans hs9.1.symm, hw9⟩, rfl, rfl⟩
          · intro h23
            obtain ⟨-, hc3, rfl⟩ := hd3.resolve_left (fun q => absurd (q.1.symm.trans h23) (by decide))
            refine zs_pushI (ip' := 25) rfl rfl zi_k0 ?_
            refine zW_0b rfl (Or.inl rfl) ?_
            have hx := (by rw [hpe2, hpe1]; rw [hpe1] at hc2; rw [hpe2, hpe1] at hc3; exact pFog_b3 hc2 hc3 : xWr (pFog T m (p, 0, -1, D)) (tB T m p2))
            rw [pLoop_y hc1, pLoop_w hx.1]
            exact ⟨0, rfl, by decide, Or.inr ⟨rfl, hx.1, hx.2.trans hs2.1.symm, hw2⟩, rfl, rfl⟩
        · intro h13
          obtain ⟨-, hc2, rfl⟩ := hd2.resolve_left (fun q => absurd (q.1.symm.trans h13) (by decide))
          refine zs_pushI (ip' := 15) rfl rfl zi_k0 ?_
          refine zW_0b rfl (Or.inl rfl) ?_
          have hx := (by rw [hpe1]; rw [hpe1] at hc2; exact pFog_b2 hc2 : xWr (pFog T m (p, 0, -1, D)) (tB T m p1))
          rw [pLoop_y hc1, pLoop_w hx.1]
          exact ⟨0, rfl, by decide, Or.inr ⟨rfl, hx.1, hx.2.trans hs1.1.symm, hw1⟩, rfl, rfl⟩
theorem cR_fogs {N : Nat} {G F : GM} {n : Nat} (hN : 229 ≤ N) {w : Nat} (hw : w < 12) {T : Int → Int} {m H : Int} {G0 : GM} {p : Int} {D : Int → Int} (hD1 : D 1 = H) (hG : xGw w H G0 G T m p D) : zC N 188 [.ref 197, .ref (16 * w)] G F n (zR fun v G' F' n' => xSt w H G0 T m (pLoop T m 4786 (pFog T m) 802 (p, 0, -1, D)) v G' ∧ F' = F ∧ n' = n) := by
  refine zC_i (L0 := [.ref 197, .ref (16 * w), .null, .null]) rfl ?_
  refine zs_pushI (ip' := 1) rfl rfl zi_k0 ?_
  refine zs_istore2 (ip' := 2) rfl rfl ?_
  have h8 := hG.1.2.1.2
  have hpp := hG.2.1
  exact cR_fogs_l hN hw 802 0 p D _ G (by omega) (by omega) (by omega) hD1 hG
