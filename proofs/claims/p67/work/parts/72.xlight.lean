/-! The program: a light of a text (printed by wip/whole/src72.py). -/
section PL
variable {T : Int → Int} {n p e : Int} {D : Int → Int} {u v b i f : Int} {x : zTx}
theorem xWr_8 (h : xWr x e) : xWr (pL8 T n x u v b i f) e := by
  unfold pL8
  rw [if_neg (fun q => by rw [h.1] at q; exact absurd q.1 (by decide))]
  exact xWr_tk h
theorem pL8_t (h : tK T n p = 3) : pL8 T n (p, 0, -1, D) u v b i f = (tE T n p, 0, -1, zp (sAddL D u v b i) (174 + 5 * D 4 + 4) f) := by
  unfold pL8
  rw [if_pos ⟨rfl, h⟩, pTk_t h]
  show (tE T n p, 0, -1, zp (sAddL D u v b i) (174 + 5 * (sAddL D u v b i 4 - 1) + 4) f) = _
  rw [sAddL_4, show D 4 + 1 - 1 = D 4 by omega]
theorem pL8_f (h : ¬ tK T n p = 3) : xWr (pL8 T n (p, 0, -1, D) u v b i f) (tB T n p) := by
  unfold pL8
  rw [if_neg (fun q => h q.2), pTk_f h]
  exact ⟨rfl, rfl⟩
/-- behind true or false -/
def pL7 (T : Int → Int) (n : Int) (p : Int) (D : Int → Int) (u v b i : Int) : zTx := if pIs T n (p, 0, -1, D) 279875 then pL8 T n (pNs T n (tE T n p, 0, -1, D) 0 (D 4 - 1)) u v b i (pNv T n (tE T n p, 0, -1, D) 0 (D 4 - 1)) else pL8 T n (p, 0, -1, D) u v b i (-1)
theorem pL6_t (h : pIs T n (p, 0, -1, D) 407354 ∨ pIs T n (p, 0, -1, D) 3217595) : pL6 T n (p, 0, -1, D) u v b i = pL7 T n (tE T n p) D u v b i := by
  unfold pL6 pL7
  rw [pTk_t h]
  by_cases q : pIs T n (tE T n p, 0, -1, D) 279875
  · rw [if_pos ⟨rfl, q⟩, if_pos q]
    rfl
  · rw [if_neg (fun z => q z.2), if_neg q]
theorem pL6_f (h : ¬ (pIs T n (p, 0, -1, D) 407354 ∨ pIs T n (p, 0, -1, D) 3217595)) : xWr (pL6 T n (p, 0, -1, D) u v b i) (tB T n p) := by
  unfold pL6
  rw [pTk_f h, if_neg (fun z => absurd z.1 (show ¬ (1 : Int) = 0 by decide))]
  exact xWr_8 ⟨rfl, rfl⟩
theorem xWr_6 (h : xWr x e) : xWr (pL6 T n x u v b i) e := by
  unfold pL6
  rw [pTk_w h.1, if_neg (fun z => by rw [h.1] at z; exact absurd z.1 (by decide))]
  exact xWr_8 h
theorem pL4_t (h : pNc T n (p, 0, -1, D) 0 9) : pL4 T n (p, 0, -1, D) u v = pL6 T n (tE T n p, 0, -1, D) u v (tV T n p) (zb (pIs T n (tE T n p, 0, -1, D) 407354)) := by
  unfold pL4
  rw [pNv_t h, pNs_t h]
theorem pL4_f (h : ¬ pNc T n (p, 0, -1, D) 0 9) : xWr (pL4 T n (p, 0, -1, D) u v) (tB T n p) := by
  unfold pL4
  rw [pNs_f h]
  exact xWr_6 ⟨rfl, rfl⟩
theorem pL3_t (h : pLc T n (p, 0, -1, D) u) : pL3 T n (p, 0, -1, D) u = pL4 T n (tE T n p, 0, -1, D) u (tV T n p) := by
  unfold pL3
  rw [if_pos ⟨rfl, h⟩, pTk_t h]
theorem pL3_f (h : ¬ pLc T n (p, 0, -1, D) u) : xWr (pL3 T n (p, 0, -1, D) u) (tB T n p) := by
  unfold pL3
  rw [if_neg (fun z => h z.2), pTk_f h]
  exact ⟨rfl, rfl⟩
theorem xWr_3 (h : xWr x e) : xWr (pL3 T n x u) e := by
  unfold pL3
  rw [if_neg (fun z => by rw [h.1] at z; exact absurd z.1 (by decide))]
  exact xWr_tk h
theorem pL2_t (h : pNc T n (p, 0, -1, D) 0 (D 0 - 1)) : pL2 T n (p, 0, -1, D) = pL3 T n (tE T n p, 0, -1, D) (tV T n p) := by
  show pL3 T n (pNs T n (p, 0, -1, D) 0 (D 0 - 1)) (pNv T n (p, 0, -1, D) 0 (D 0 - 1)) = _
  rw [pNv_t h, pNs_t h]
theorem pL2_f (h : ¬ pNc T n (p, 0, -1, D) 0 (D 0 - 1)) : xWr (pL2 T n (p, 0, -1, D)) (tB T n p) := by
  show xWr (pL3 T n (pNs T n (p, 0, -1, D) 0 (D 0 - 1)) (pNv T n (p, 0, -1, D) 0 (D 0 - 1))) _
  rw [pNs_f h]
  exact xWr_3 ⟨rfl, rfl⟩
theorem pLight_t (h : D 4 < 8) : pLight T n (p, 0, -1, D) = pL2 T n (tE T n p, 0, -1, D) := by
  unfold pLight
  rw [if_pos ⟨rfl, h⟩, pTk_t (c := D 4 < 8) h]
theorem pLight_f (h : ¬ D 4 < 8) : xWr (pLight T n (p, 0, -1, D)) (tB T n p) := by
  unfold pLight
  rw [if_neg (fun z => h z.2), pTk_f (c := D 4 < 8) h]
  exact ⟨rfl, rfl⟩
end PL
/-- a light or a traveller of the text is read: a lights and b travellers more -/
def xSl (w : Nat) (H : Int) (G0 : GM) (T : Int → Int) (m : Int) (x : zTx) (D : Int → Int) (a b : Int) (v : Int) (G : GM) : Prop := (v = 1 ∧ ∃ p D', x = (p, 0, -1, D') ∧ xGw w H G0 G T m p D' ∧ D' 1 = D 1 ∧ D' 4 = D 4 + a ∧ D' 5 = D 5 + b) ∨ (v = 0 ∧ xBd w G0 G x)
theorem cR_light_c {N : Nat} {a2 a3 a4 a5 a6 : Value} {G F : GM} {n : Nat} (hN : 229 ≤ N) {w : Nat} (hw : w < 12) {T : Int → Int} {m H : Int} {G0 : GM} {p : Int} {D : Int → Int} {u v b i f : Int} (hb0 : xBu G T m) (hp0 : 0 ≤ p ∧ p ≤ m) (hs0 : xTo G T m p) (hw0 : xRw w G0 G) (h4 : 0 ≤ D 4) (hok : mOk (zp (sAddL D u v b i) (174 + 5 * D 4 + 4) f)) (hRg : RXg G w (zp (sAddL D u v b i) (174 + 5 * D 4 + 4) f) H) : zW N 190 91 [.ref 197, .ref (16 * w), a2, a3, a4, a5, a6] [] G F n (zR fun v9 G' F' n' => xSl w H G0 T m (pL8 T m (p, 0, -1, D) u v b i f) D 1 0 v9 G' ∧ F' = F ∧ n' = n) := by
  refine zs_aload (ip' := 92) rfl rfl rfl ?_
  refine zW_cR (ip' := 93) rfl rfl (cX_semi hN hb0 hp0 hs0) rfl rfl (z_ok3 (by omega) zsh_197 rfl rfl rfl) ?_
  rintro v1 G1 F' n' hv1 ⟨hd1, rfl, rfl⟩
  have h01 : v1 = 0 ∨ v1 = 1 := hd1.elim (fun q => Or.inr q.1) (fun q => Or.inl q.1)
  refine zW_0b rfl (by omega) ?_
  rcases hd1 with ⟨rfl, hc1, hr1, hs1⟩ | ⟨rfl, hc1, rfl⟩
  · exact ⟨1, rfl, by decide, Or.inl ⟨rfl, _, _, pL8_t hc1, ⟨xBu_rt hb0 hr1, tE_in hp0, hs1, xRw_t hw0 (xRw_d hr1), hok, RXg_fr hRg (fun k a b => hr1.1 k (by omega))⟩, by rw [zp_ne (by omega), sAddL_o (by omega) (by omega)], by rw [zp_ne (by omega), sAddL_4], by rw [zp_ne (by omega), sAddL_o (by omega) (by omega)]; omega⟩, rfl, rfl⟩
  · have hx := pL8_f (T := T) (n := m) (p := p) (D := D) (u := u) (v := v) (b := b) (i := i) (f := f) hc1
    exact ⟨0, rfl, by decide, Or.inr ⟨rfl, hx.1, hx.2.trans hs0.1.symm, hw0⟩, rfl, rfl⟩
theorem cR_light_b {N : Nat} {a2 a6 : Value} {G F : GM} {n : Nat} (hN : 229 ≤ N) {w : Nat} (hw : w < 12) {T : Int → Int} {m H : Int} {G0 : GM} {p : Int} {D : Int → Int} {u v b i : Int} (hb0 : xBu G T m) (hp0 : 0 ≤ p ∧ p ≤ m) (hs0 : xTo G T m p) (hw0 : xRw w G0 G) (hok : mOk D) (hD1 : D 1 = H) (hR : RX G w D) (h8 : D 4 < 8) (hu : 0 ≤ u ∧ u < D 0) (hv : 0 ≤ v ∧ v < D 1) (hb : 0 ≤ b ∧ b ≤ 9) (hi : i = 0 ∨ i = 1) : zW N 190 61 [.ref 197, .ref (16 * w), a2, .int (zi (12 * v + u)), .int (zi b), .int (zi i), a6] [] G F n (zR fun v9 G' F' n' => xSl w H G0 T m (pL7 T m p D u v b i) D 1 0 v9 G' ∧ F' = F ∧ n' = n) := by
  obtain ⟨c4, -⟩ := RX_n hR
  obtain ⟨a0, a1, -, -, a4, -⟩ := id hok
  have ho2 := mOk_addL (x := u) (y := v) (b := b) (c := i) hok h8 hu hv hb (by omega)
  obtain ⟨-, -, -, -, q4⟩ := sAddL_f (s := D) (x := u) (y := v) (b := b) (c := i) a4.1
  have q44 : sAddL D u v b i 4 = D 4 + 1 := sAddL_4
  have q41 : sAddL D u v b i 1 = H := by rw [sAddL_o (by omega) (by omega)]; exact hD1
  refine zs_aload (ip' := 62) rfl rfl rfl ?_
  refine zs_getR (ip' := 63) rfl rfl (r := 16 * w + 3) (by omega) (zsh_w0 hw) rfl ?_
  refine zs_iload (ip' := 64) rfl rfl rfl ?_
  refine zs_iload (ip' := 65) rfl rfl rfl ?_
  refine zs_iload (ip' := 66) rfl rfl rfl ?_
  refine zW_cR (ip' := 67) rfl rfl (cX_put3 (l := D 4) hN hw c4 ⟨by omega, by omega⟩ (by omega) (by omega) hi) rfl rfl (z_ok3 (by omega) (zsh_w3 hw) rfl rfl rfl) ?_
  rintro r G2 F' n' hrr ⟨⟨rfl, k0, k3, k4, k5, k6, kb⟩, rfl, rfl⟩
  have hR2 : RX G2 w (sAddL D u v b i) := RX_addL hok hR h8 (fun k _ _ c d e f => k0 k c d e f) k3 k4 k5 k6 kb
  have hw2' : xRw w G G2 := ⟨fun k _ b => k0 k (by omega) (by omega) (by omega) (by omega), fun j _ => by rw [k0 197 (by omega) (by omega) (by omega) (by omega)]⟩
  have hw2 := xRw_t hw0 hw2'
  have hb2 := xBu_rw hw hb0 hw2'
  have hs2 : xTo G2 T m p := by unfold xTo; rw [k0 197 (by omega) (by omega) (by omega) (by omega)]; exact hs0
  refine zs_istore6 (ip' := 68) rfl rfl ?_
  refine zs_iload (ip' := 69) rfl rfl rfl ?_
  refine zs_pushI (ip' := 70) rfl rfl zi_km1 ?_
  refine zs_icmp_eq (t := 91) (ip' := 71) rfl rfl (by omega) (by omega) ?_ ?_
  · intro h70
    exact absurd h70 (by omega)--done
  · intro h70
    refine zs_aload (ip' := 72) rfl rfl rfl ?_
    refine zs_push (ip' := 73) rfl rfl ?_
    refine zW_cR (ip' := 74) rfl rfl (cX_word_8 hN hb2 hp0 hs2) rfl rfl (z_ok3 (by omega) zsh_197 rfl rfl rfl) ?_
    rintro v3 G3 F' n' hv3 ⟨hd3, rfl, rfl⟩
    refine zs_if_eq (t := 91) (ip' := 75) rfl rfl (by omega) ?_ ?_
    · intro h74
      obtain ⟨-, hc3, rfl⟩ := hd3.resolve_left (fun q => absurd (q.1.symm.trans h74) (by decide))
      have e : pL7 T m p D u v b i = pL8 T m (p, 0, -1, D) u v b i (-1) := if_neg hc3
      have ez : zp (sAddL D u v b i) (174 + 5 * D 4 + 4) (-1) = sAddL D u v b i := by
        have := zp_self (sAddL D u v b i) (174 + 5 * D 4 + 4)
        rw [q4] at this
        exact this
      rw [e]
      exact cR_light_c hN hw hb2 hp0 hs2 hw2 a4.1 (by rw [ez]; exact ho2) (by rw [ez, ← q41]; exact hR2)
    · intro h74
      obtain ⟨-, hc3, hr3, hs3⟩ := hd3.resolve_right (fun q => h74 q.1)
      obtain ⟨p3, hpe3⟩ : ∃ q, q = tE T m p := ⟨_, rfl⟩
      rw [← hpe3] at hs3
      have hp3 : 0 ≤ p3 ∧ p3 ≤ m := by rw [hpe3]; exact tE_in hp0
      have hb3 := xBu_rt hb2 hr3
      have hw3 : xRw w G0 G3 := xRw_t hw2 (xRw_d hr3)
      refine zs_aload (ip' := 76) rfl rfl rfl ?_
      refine zs_pushI (ip' := 77) rfl rfl zi_k0 ?_
      refine zs_iload (ip' := 78) rfl rfl rfl ?_
      refine zs_pushI (ip' := 79) rfl rfl zi_k1 ?_
      refine zs_isub (ip' := 80) rfl rfl ?_
      refine zW_cR (ip' := 81) rfl rfl (cX_takeNum hN hb3 hp3 hs3 (by omega) (by omega)) rfl rfl (z_ok3 (by omega) zsh_197 rfl rfl rfl) ?_
      rintro v4 G4 F' n' hv4 ⟨hd4, rfl, rfl⟩
      refine zs_if_ne (t := 84) (ip' := 82) rfl rfl (by omega) ?_ ?_
      · intro h81
        obtain ⟨-, hc4, hn4, hr4, hs4⟩ := hd4.resolve_right (fun q => h81 q.1)
        obtain ⟨p4, hpe4⟩ : ∃ q, q = tE T m p3 := ⟨_, rfl⟩
        rw [← hpe4] at hs4
        have hp4 : 0 ≤ p4 ∧ p4 ≤ m := by rw [hpe4]; exact tE_in hp3
        have hb4 := xBu_rt hb3 hr4
        have hw4 : xRw w G0 G4 := xRw_t hw3 (xRw_d hr4)
        refine zs_aload (ip' := 85) rfl rfl rfl ?_
        refine zs_getR (ip' := 86) rfl rfl (r := 16 * w + 3) (by omega) (zsh_w0 hw) rfl ?_
        refine zs_getR (ip' := 87) rfl rfl (r := 16 * w + 6) (by omega) (zsh_w3 hw) rfl ?_
        refine zs_iload (ip' := 88) rfl rfl rfl ?_
        refine zs_aload (ip' := 89) rfl rfl rfl ?_
        refine zs_getI (ip' := 90) rfl rfl (by omega) zsh_197 rfl (q := 6) rfl ?_
        intro hl89 hu89
        rw [hn4] at hl89 hu89 ⊢
        refine zs_iast (ip' := 91) rfl rfl (by omega) (zsh_w6 hw) (by omega) (by omega) ?_
        have hR4 : RX G4 w (sAddL D u v b i) := RX_fr hR2 (fun k a b => (hr4.1 k (by omega)).trans (hr3.1 k (by omega)))
        have hR9 : RX (zk G4 (16 * w + 6) (zp (G4 (16 * w + 6)) (D 4) (tV T m p3))) w (zp (sAddL D u v b i) (174 + 5 * D 4 + 4) (tV T m p3)) := RX_nx ⟨by omega, by omega⟩ ho2 hR4
        have f9 : ∀ k, k ≠ 16 * w + 6 → zk G4 (16 * w + 6) (zp (G4 (16 * w + 6)) (D 4) (tV T m p3)) k = G4 k := fun k hk => zk_ne hk
        generalize zk G4 (16 * w + 6) (zp (G4 (16 * w + 6)) (D 4) (tV T m p3)) = G9 at hR9 f9 ⊢
        have e : pL7 T m p D u v b i = pL8 T m (p4, 0, -1, D) u v b i (tV T m p3) := by
          unfold pL7
          rw [if_pos hc3, ← hpe3, pNs_t hc4, pNv_t hc4, ← hpe4]
        rw [e]
        have q61 : zp (sAddL D u v b i) (174 + 5 * D 4 + 4) (tV T m p3) 1 = H := (zp_ne (by omega)).trans q41
        exact cR_light_c hN hw (xBu_rw hw hb4 (xRw_k (w := w) (by omega) hw f9)) hp4 (by unfold xTo; rw [f9 197 (by omega)]; exact hs4) (xRw_t hw4 (xRw_k (by omega) hw f9)) a4.1 (mOk_n ho2 a4.1 (by omega) (by omega)) (by rw [← q61]; exact hR9)
      · intro h81
        obtain ⟨-, hc4, rfl⟩ := hd4.resolve_left (fun q => absurd (q.1.symm.trans h81) (by decide))
        refine zs_pushI (ip' := 83) rfl rfl zi_k0 ?_
        refine zW_0b rfl (Or.inl rfl) ?_
        have hx : xWr (pL7 T m p D u v b i) (tB T m p3) := by
          unfold pL7
          rw [if_pos hc3, ← hpe3, pNs_f hc4]
          exact xWr_8 ⟨rfl, rfl⟩
        exact ⟨0, rfl, by decide, Or.inr ⟨rfl, hx.1, hx.2.trans hs3.1.symm, hw3⟩, rfl, rfl⟩
theorem cR_light {N : Nat} {G F : GM} {n : Nat} (hN : 229 ≤ N) {w : Nat} (hw : w < 12) {T : Int → Int} {m H : Int} {G0 : GM} {p : Int} {D : Int → Int} (hG : xGw w H G0 G T m p D) (hD1 : D 1 = H) (hD8 : D 4 < 8) : zC N 190 [.ref 197, .ref (16 * w)] G F n (zR fun v9 G' F' n' => xSl w H G0 T m (pL2 T m (p, 0, -1, D)) D 1 0 v9 G' ∧ F' = F ∧ n' = n) := by
  obtain ⟨hb0, hp0, hs0, hw0, hok, hRg⟩ := hG
  obtain ⟨-, ⟨m0, m1⟩, -⟩ := id hb0
  have hR : RX G w D := by rw [← hD1] at hRg; exact hRg
  obtain ⟨c0, c1, -⟩ := id hR.1
  obtain ⟨c4, -⟩ := RX_n hR
  obtain ⟨a0, a1, -, -, a4, -⟩ := id hok
  refine zC_i (L0 := [.ref 197, .ref (16 * w), .null, .null, .null, .null, .null]) rfl ?_
  refine zs_aload (ip' := 1) rfl rfl rfl ?_
  refine zs_pushI (ip' := 2) rfl rfl zi_k0 ?_
  refine zs_aload (ip' := 3) rfl rfl rfl ?_
  refine zs_getR (ip' := 4) rfl rfl (r := 16 * w + 1) (by omega) (zsh_w0 hw) rfl ?_
  refine zs_getI (ip' := 5) rfl rfl (by omega) (zsh_w1 hw) rfl (q := 0) rfl ?_
  intro hl4 hu4
  rw [c0] at hl4 hu4 ⊢
  refine zs_pushI (ip' := 6) rfl rfl zi_k1 ?_
  refine zs_isub (ip' := 7) rfl rfl ?_
  refine zW_cR (ip' := 8) rfl rfl (cX_takeNum hN hb0 hp0 hs0 (by omega) (by omega)) rfl rfl (z_ok3 (by omega) zsh_197 rfl rfl rfl) ?_
  rintro v1 G1 F' n' hv1 ⟨hd1, rfl, rfl⟩
  refine zs_if_ne (t := 11) (ip' := 9) rfl rfl (by omega) ?_ ?_
  · intro h8
    obtain ⟨-, hc1, hn1, hr1, hs1⟩ := hd1.resolve_right (fun q => h8 q.1)
    obtain ⟨p1, hpe1⟩ : ∃ q, q = tE T m p := ⟨_, rfl⟩
    rw [← hpe1] at hs1
    have hp1 : 0 ≤ p1 ∧ p1 ≤ m := by rw [hpe1]; exact tE_in hp0
    have hb1 := xBu_rt hb0 hr1
    have hw1 : xRw w G0 G1 := xRw_t hw0 (xRw_d hr1)
    have hR1 : RX G1 w D := RX_fr hR (fun k a b => hr1.1 k (by omega))
    have c41 := (RX_n hR1).1
    refine zs_aload (ip' := 12) rfl rfl rfl ?_
    refine zs_getI (ip' := 13) rfl rfl (by omega) zsh_197 rfl (q := 6) rfl ?_
    intro hl12 hu12
    rw [hn1] at hl12 hu12 ⊢
    refine zs_istore2 (ip' := 14) rfl rfl ?_
    refine zs_aload (ip' := 15) rfl rfl rfl ?_
    refine zs_pushI (ip' := 16) rfl rfl zi_k0 ?_
    refine zs_aload (ip' := 17) rfl rfl rfl ?_
    refine zs_getR (ip' := 18) rfl rfl (r := 16 * w + 1) (by omega) (zsh_w0 hw) rfl ?_
    refine zs_getI (ip' := 19) rfl rfl (by omega) (zsh_w1 hw) rfl (q := 1) rfl ?_
    intro hl18 hu18
    rw [show G1 (16 * w + 1) 1 = D 1 from (congrFun (hr1.1 _ (by omega)) 1).trans c1] at hl18 hu18 ⊢
    refine zs_pushI (ip' := 20) rfl rfl zi_k1 ?_
    refine zs_isub (ip' := 21) rfl rfl ?_
    refine zW_cP (ip' := 22) rfl rfl (cX_isNum hN hb1 hp1 hs1 (by omega) (by omega)) rfl rfl (z_ok3 (by omega) zsh_197 rfl rfl rfl) ?_
    refine zs_if_eqB (t := 30) (ip' := 23) rfl rfl ?_ ?_
    · intro h22
      refine zs_pushI (ip' := 31) rfl rfl zi_k0 ?_
      refine zW_0b rfl (Or.inl rfl) ?_
      have hx : xWr (pL2 T m (p, 0, -1, D)) (tB T m p1) := by
        rw [pL2_t hc1, ← hpe1]; exact pL3_f (fun q => by
          have q2 : tV T m p1 < D 1 := q.2.1
          have q3 := tV_rng (T := T) hp1.2
          exact h22 ⟨q.1, by omega, by omega⟩)
      exact ⟨0, rfl, by decide, Or.inr ⟨rfl, hx.1, hx.2.trans hs1.1.symm, hw1⟩, rfl, rfl⟩
    · intro h22
      have hon : zfst (fun l => G1 (16 * w + 4) l = 12 * tV T m p1 + tV T m p) (G1 (16 * w + 3) 0).toNat = sLOn D (tV T m p) (tV T m p1) := by
        have := RX_on hok hR1 (12 * tV T m p1 + tV T m p)
        rw [show (12 * tV T m p1 + tV T m p) % 12 = tV T m p by omega, show (12 * tV T m p1 + tV T m p) / 12 = tV T m p1 by omega] at this
        exact this
      have hon2 := zfst_rng (sAt D (tV T m p) (tV T m p1)) (D 4).toNat
      have hon3 : sLOn D (tV T m p) (tV T m p1) = zfst (sAt D (tV T m p) (tV T m p1)) (D 4).toNat := rfl
      rw [← hon3] at hon2
      have hgc := hR1.2.2.1 (tV T m p) (tV T m p1) (by omega) (by omega) (by omega) (by omega)
      obtain ⟨-, gz, -⟩ := zgc_rng (mOk_g hok (x := tV T m p) (y := tV T m p1) ⟨by omega, by omega⟩ ⟨by omega, by omega⟩)
      rw [← hgc] at gz
      refine zs_aload (ip' := 24) rfl rfl rfl ?_
      refine zs_iload (ip' := 25) rfl rfl rfl ?_
      refine zs_aload (ip' := 26) rfl rfl rfl ?_
      refine zs_getI (ip' := 27) rfl rfl (by omega) zsh_197 rfl (q := 5) rfl ?_
      intro hl26 hu26
      rw [hs1.2.2.2 h22.1] at hl26 hu26 ⊢
      refine zW_cP (ip' := 28) rfl rfl cX_cellAt rfl rfl rfl ?_
      refine zW_cP (ip' := 29) rfl rfl (cX_takesLight hN hw (by omega) ⟨by omega, by omega⟩) rfl rfl (z_ok3 (by omega) (zsh_w0 hw) rfl rfl rfl) ?_
      refine zs_if_neB (t := 32) (ip' := 30) rfl rfl ?_ ?_
      · intro h29
        have hnt : G1 (16 * w + 2) (12 * tV T m p1 + tV T m p) ≠ 0 ∧ sLOn D (tV T m p) (tV T m p1) = -1 := by rw [← hon]; exact h29
        have hlc : pLc T m (p1, 0, -1, D) (tV T m p) := ⟨h22.1, by show tV T m p1 < D 1; omega, fun q => hnt.1 (gz.mpr q), by show sLOn D (tV T m p) (tV T m p1) < 0; omega⟩
        refine zs_iload (ip' := 33) rfl rfl rfl ?_
        refine zs_aload (ip' := 34) rfl rfl rfl ?_
        refine zs_getI (ip' := 35) rfl rfl (by omega) zsh_197 rfl (q := 5) rfl ?_
        intro hl34 hu34
        rw [hs1.2.2.2 h22.1] at hl34 hu34 ⊢
        refine zW_cP (ip' := 36) rfl rfl cX_cellAt rfl rfl rfl ?_
        refine zs_istore3 (ip' := 37) rfl rfl ?_
        refine zs_aload (ip' := 38) rfl rfl rfl ?_
        refine zW_cV (ip' := 39) rfl rfl (cX_scan hN hb1 (tE_in hp1) hs1.2.1) rfl rfl (z_ok3 (by omega) zsh_197 rfl rfl rfl) ?_
        rintro G2 F' n' ⟨⟨hrd, hs2⟩, rfl, rfl⟩
        obtain ⟨p2, hpe2⟩ : ∃ q, q = tE T m p1 := ⟨_, rfl⟩
        rw [← hpe2] at hs2
        have hp2 : 0 ≤ p2 ∧ p2 ≤ m := by rw [hpe2]; exact tE_in hp1
        have hb2 := xBu_rd hb1 hrd
        have hw2 : xRw w G0 G2 := xRw_t hw1 (xRw_d (xRt_d hrd))
        have hR2 : RX G2 w D := RX_fr hR1 (fun k a b => hrd.1 k (by omega))
        refine zs_aload (ip' := 40) rfl rfl rfl ?_
        refine zs_pushI (ip' := 41) rfl rfl zi_k0 ?_
        refine zs_pushI (ip' := 42) rfl rfl zi_k9 ?_
        refine zW_cR (ip' := 43) rfl rfl (cX_takeNum hN hb2 hp2 hs2 (by omega) (by omega)) rfl rfl (z_ok3 (by omega) zsh_197 rfl rfl rfl) ?_
        rintro v4 G4 F' n' hv4 ⟨hd4, rfl, rfl⟩
        refine zs_if_ne (t := 46) (ip' := 44) rfl rfl (by omega) ?_ ?_
        · intro h43
          obtain ⟨-, hc4, hn4, hr4, hs4⟩ := hd4.resolve_right (fun q => h43 q.1)
          obtain ⟨p4, hpe4⟩ : ∃ q, q = tE T m p2 := ⟨_, rfl⟩
          rw [← hpe4] at hs4
          have hp4 : 0 ≤ p4 ∧ p4 ≤ m := by rw [hpe4]; exact tE_in hp2
          have hb4 := xBu_rt hb2 hr4
          have hw4 : xRw w G0 G4 := xRw_t hw2 (xRw_d hr4)
          have hR4 : RX G4 w D := RX_fr hR2 (fun k a b => hr4.1 k (by omega))
          refine zs_aload (ip' := 47) rfl rfl rfl ?_
          refine zs_getI (ip' := 48) rfl rfl (by omega) zsh_197 rfl (q := 6) rfl ?_
          intro hl47 hu47
          rw [hn4] at hl47 hu47 ⊢
          refine zs_istore4 (ip' := 49) rfl rfl ?_
          refine zs_aload (ip' := 50) rfl rfl rfl ?_
          refine zs_push (ip' := 51) rfl rfl ?_
          refine zW_cR (ip' := 52) rfl rfl (cX_word_6 hN hb4 hp4 hs4) rfl rfl (z_ok3 (by omega) zsh_197 rfl rfl rfl) ?_
          rintro v5 G5 F' n' hv5 ⟨hd5, rfl, rfl⟩
          refine zs_istore5 (ip' := 53) rfl rfl ?_
          refine zs_iload (ip' := 54) rfl rfl rfl ?_
          refine zs_if_ne (t := 61) (ip' := 55) rfl rfl (by omega) ?_ ?_
          · intro h54
            obtain ⟨hv1, hc5, hr5, hs5⟩ := hd5.resolve_right (fun q => h54 q.1)
            obtain ⟨p5, hpe5⟩ : ∃ q, q = tE T m p4 := ⟨_, rfl⟩
            rw [← hpe5] at hs5
            have hp5 : 0 ≤ p5 ∧ p5 ≤ m := by rw [hpe5]; exact tE_in hp4
            have hb5 := xBu_rt hb4 hr5
            have hw5 : xRw w G0 G5 := xRw_t hw4 (xRw_d hr5)
            have hR5 : RX G5 w D := RX_fr hR4 (fun k a b => hr5.1 k (by omega))
            have ei : zb (pIs T m (p4, 0, -1, D) 407354) = v5 := by rw [zb_t hc5, hv1]
            have hx : pL2 T m (p, 0, -1, D) = pL7 T m p5 D (tV T m p) (tV T m p1) (tV T m p2) v5 := by
              rw [pL2_t hc1, ← hpe1, pL3_t hlc, ← hpe2]
              rw [pL4_t hc4, ← hpe4, ei, pL6_t (Or.inl hc5), ← hpe5]
            rw [hx]
            exact cR_light_b hN hw hb5 hp5 hs5 hw5 hok hD1 hR5 hD8 ⟨by omega, by omega⟩ ⟨by omega, by omega⟩ ⟨by omega, by omega⟩ (by omega)
          · intro h54
            obtain ⟨hv1, hc5, rfl⟩ := hd5.resolve_left (fun q => absurd (q.1.symm.trans h54) (by decide))
            refine zs_aload (ip' := 56) rfl rfl rfl ?_
            refine zs_push (ip' := 57) rfl rfl ?_
            refine zW_cR (ip' := 58) rfl rfl (cX_word_7 hN hb4 hp4 hs4) rfl rfl (z_ok3 (by omega) zsh_197 rfl rfl rfl) ?_
            rintro v6 G6 F' n' hv6 ⟨hd6, rfl, rfl⟩
            refine zs_if_ne (t := 61) (ip' := 59) rfl rfl (by omega) ?_ ?_
            · intro h58
              obtain ⟨-, hc6, hr6, hs6⟩ := hd6.resolve_right (fun q => h58 q.1)
              obtain ⟨p5, hpe5⟩ : ∃ q, q = tE T m p4 := ⟨_, rfl⟩
              rw [← hpe5] at hs6
              have hp5 : 0 ≤ p5 ∧ p5 ≤ m := by rw [hpe5]; exact tE_in hp4
              have hb6 := xBu_rt hb4 hr6
              have hw6 : xRw w G0 G6 := xRw_t hw4 (xRw_d hr6)
              have hR6 : RX G6 w D := RX_fr hR4 (fun k a b => hr6.1 k (by omega))
              have ei : zb (pIs T m (p4, 0, -1, D) 407354) = v5 := by rw [zb_f hc5, hv1]
              have hx : pL2 T m (p, 0, -1, D) = pL7 T m p5 D (tV T m p) (tV T m p1) (tV T m p2) v5 := by
                rw [pL2_t hc1, ← hpe1, pL3_t hlc, ← hpe2]
                rw [pL4_t hc4, ← hpe4, ei, pL6_t (Or.inr hc6), ← hpe5]
              rw [hx]
              exact cR_light_b hN hw hb6 hp5 hs6 hw6 hok hD1 hR6 hD8 ⟨by omega, by omega⟩ ⟨by omega, by omega⟩ ⟨by omega, by omega⟩ (by omega)
            · intro h58
              obtain ⟨-, hc6, rfl⟩ := hd6.resolve_left (fun q => absurd (q.1.symm.trans h58) (by decide))
              refine zs_pushI (ip' := 60) rfl rfl zi_k0 ?_
              refine zW_0b rfl (Or.inl rfl) ?_
              have hx : xWr (pL2 T m (p, 0, -1, D)) (tB T m p4) := by
                rw [pL2_t hc1, ← hpe1, pL3_t hlc, ← hpe2]
                rw [pL4_t hc4, ← hpe4]
                exact pL6_f (fun q => q.elim (fun a => hc5 a) (fun a => hc6 a))
              exact ⟨0, rfl, by decide, Or.inr ⟨rfl, hx.1, hx.2.trans hs4.1.symm, hw4⟩, rfl, rfl⟩
        · intro h43
          obtain ⟨-, hc4, rfl⟩ := hd4.resolve_left (fun q => absurd (q.1.symm.trans h43) (by decide))
          refine zs_pushI (ip' := 45) rfl rfl zi_k0 ?_
          refine zW_0b rfl (Or.inl rfl) ?_
          have hx : xWr (pL2 T m (p, 0, -1, D)) (tB T m p2) := by
            rw [pL2_t hc1, ← hpe1, pL3_t hlc, ← hpe2]
            exact pL4_f hc4
          exact ⟨0, rfl, by decide, Or.inr ⟨rfl, hx.1, hx.2.trans hs2.1.symm, hw2⟩, rfl, rfl⟩
      · intro h29
        have hnt : ¬ (G1 (16 * w + 2) (12 * tV T m p1 + tV T m p) ≠ 0 ∧ sLOn D (tV T m p) (tV T m p1) = -1) := by rw [← hon]; exact h29
        refine zs_pushI (ip' := 31) rfl rfl zi_k0 ?_
        refine zW_0b rfl (Or.inl rfl) ?_
        have hx : xWr (pL2 T m (p, 0, -1, D)) (tB T m p1) := by
          rw [pL2_t hc1, ← hpe1]; exact pL3_f (fun q => by
            have q2 : sLOn D (tV T m p) (tV T m p1) < 0 := q.2.2.2
            exact hnt ⟨fun z => q.2.2.1 (gz.mp z), by omega⟩)
        exact ⟨0, rfl, by decide, Or.inr ⟨rfl, hx.1, hx.2.trans hs1.1.symm, hw1⟩, rfl, rfl⟩
  · intro h8
    obtain ⟨-, hc1, rfl⟩ := hd1.resolve_left (fun q => absurd (q.1.symm.trans h8) (by decide))
    refine zs_pushI (ip' := 10) rfl rfl zi_k0 ?_
    refine zW_0b rfl (Or.inl rfl) ?_
    have hx : xWr (pL2 T m (p, 0, -1, D)) (tB T m p) := by
      exact pL2_f hc1
    exact ⟨0, rfl, by decide, Or.inr ⟨rfl, hx.1, hx.2.trans hs0.1.symm, hw0⟩, rfl, rfl⟩
