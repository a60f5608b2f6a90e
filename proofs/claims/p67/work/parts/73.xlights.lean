/-! The program: the lights and the travellers of a text (printed by wip/whole/src73.py). -/
/-- all lights, all travellers of the text are read; one more may stand there -/
def xSu (w : Nat) (H : Int) (G0 : GM) (T : Int → Int) (m : Int) (x : zTx) (V : Int) (P : (Int → Int) → Prop) (v : Int) (G : GM) : Prop := (v = 1 ∧ ∃ p D, xGw w H G0 G T m p D ∧ D 1 = H ∧ P D ∧ (x = (p, 0, -1, D) ∨ (x.2.1 = 1 ∧ x.2.2.1 = tB T m p ∧ tK T m p = 1 ∧ tW T m p = V))) ∨ (v = 0 ∧ xBd w G0 G x)
section PW
variable {T : Int → Int} {n p e : Int} {D : Int → Int} {u v : Int} {x : zTx}
theorem pW4_t (h : tK T n p = 3) : pW4 T n (p, 0, -1, D) u v = (tE T n p, 0, -1, sAddW D u v) := by
  unfold pW4
  rw [if_pos ⟨rfl, h⟩, pTk_t h]
  rfl
theorem pW4_f (h : ¬ tK T n p = 3) : xWr (pW4 T n (p, 0, -1, D) u v) (tB T n p) := by
  unfold pW4
  rw [if_neg (fun q => h q.2), pTk_f h]
  exact ⟨rfl, rfl⟩
theorem pW3_t (h : pWc T n (p, 0, -1, D) u) : pW3 T n (p, 0, -1, D) u = pW4 T n (tE T n p, 0, -1, D) u (tV T n p) := by
  unfold pW3
  rw [if_pos ⟨rfl, h⟩, pTk_t h]
theorem pW3_f (h : ¬ pWc T n (p, 0, -1, D) u) : xWr (pW3 T n (p, 0, -1, D) u) (tB T n p) := by
  unfold pW3
  rw [if_neg (fun z => h z.2), pTk_f h]
  exact ⟨rfl, rfl⟩
theorem xWr_w3 (h : xWr x e) : xWr (pW3 T n x u) e := by
  unfold pW3
  rw [if_neg (fun z => by rw [h.1] at z; exact absurd z.1 (by decide))]
  exact xWr_tk h
theorem pW2_t (h : pNc T n (p, 0, -1, D) 0 (D 0 - 1)) : pW2 T n (p, 0, -1, D) = pW3 T n (tE T n p, 0, -1, D) (tV T n p) := by
  show pW3 T n (pNs T n (p, 0, -1, D) 0 (D 0 - 1)) (pNv T n (p, 0, -1, D) 0 (D 0 - 1)) = _
  rw [pNv_t h, pNs_t h]
theorem pW2_f (h : ¬ pNc T n (p, 0, -1, D) 0 (D 0 - 1)) : xWr (pW2 T n (p, 0, -1, D)) (tB T n p) := by
  show xWr (pW3 T n (pNs T n (p, 0, -1, D) 0 (D 0 - 1)) (pNv T n (p, 0, -1, D) 0 (D 0 - 1))) _
  rw [pNs_f h]
  exact xWr_w3 ⟨rfl, rfl⟩
theorem pWalker_t (h : D 5 < 6) : pWalker T n (p, 0, -1, D) = pW2 T n (tE T n p, 0, -1, D) := by
  unfold pWalker
  rw [if_pos ⟨rfl, h⟩, pTk_t (c := D 5 < 6) h]
theorem pWalker_f (h : ¬ D 5 < 6) : xWr (pWalker T n (p, 0, -1, D)) (tB T n p) := by
  unfold pWalker
  rw [if_neg (fun z => h z.2), pTk_f (c := D 5 < 6) h]
  exact ⟨rfl, rfl⟩
/-- the end of the text -/
def pFin (T : Int → Int) (n : Int) (x : zTx) : zTx := if x.2.1 = 0 ∧ tK T n x.1 ≠ 0 then pTk T n x False else x
theorem xWr_fin (h : xWr x e) : xWr (pFin T n x) e := by
  unfold pFin
  rw [if_neg (fun z => by rw [h.1] at z; exact absurd z.1 (by decide))]
  exact h
theorem pFin_t (h : tK T n p = 0) : pFin T n (p, 0, -1, D) = (p, 0, -1, D) := if_neg (fun q => q.2 h)
theorem pFin_f (h : tK T n p ≠ 0) : xWr (pFin T n (p, 0, -1, D)) (tB T n p) := by
  unfold pFin
  rw [if_pos ⟨rfl, h⟩, pTk_f (fun q => q)]
  exact ⟨rfl, rfl⟩
theorem xWr_loop {V : Int} {f : zTx → zTx} {k : Nat} (h : xWr x e) : xWr (pLoop T n V f k x) e := by
  rw [pLoop_w h.1]
  exact h
theorem xWr_rows {k : Nat} (h : xWr x e) : xWr (pRows T n k x) e := by
  rw [pRows_w h.1]
  exact h
end PW
theorem cR_lights_l {N : Nat} {F : GM} {n : Nat} (hN : 229 ≤ N) {w : Nat} (hw : w < 12) {T : Int → Int} {m H : Int} {G0 : GM} : ∀ (d : Nat) (nn : Nat) (p : Int) (D : Int → Int) (G : GM), 801 ≤ (nn : Int) + (d : Int) → (nn : Int) = D 4 → (nn : Int) ≤ 8 → D 1 = H → D 5 = 0 → xGw w H G0 G T m p D → zW N 189 2 [.ref 197, .ref (16 * w), .int (zi (nn : Int))] [] G F n (zR fun v9 G' F' n' => xSu w H G0 T m (pLoop T m 6559778 (pLight T m) d (p, 0, -1, D)) 6559778 (fun D => D 5 = 0) v9 G' ∧ F' = F ∧ n' = n) := by
  intro d
  induction d with
  | zero =>
    intro nn p D G hd hj hn8 hD1 hP hG
    exact absurd hd (by omega)
  | succ d ih =>
    intro nn p D G hd hj hn8 hD1 hP hG
    obtain ⟨hb0, hp0, hs0, hw0, hok, hRg⟩ := hG
    obtain ⟨-, ⟨m0, m1⟩, -⟩ := id hb0
    have hR : RX G w D := by rw [← hD1] at hRg; exact hRg
    refine zs_iload (ip' := 3) rfl rfl rfl ?_
    refine zs_pushI (ip' := 4) rfl rfl zi_k8 ?_
    refine zs_icmp_ge (t := 17) (ip' := 5) rfl rfl (by omega) (by omega) ?_ ?_
    · intro h4
      refine zs_pushI (ip' := 18) rfl rfl zi_k1 ?_
      refine zW_0b rfl (Or.inr rfl) ?_
      by_cases q : pIs T m (p, 0, -1, D) 6559778
      · have hx := pLight_f (T := T) (n := m) (p := p) (D := D) (by omega)
        rw [pLoop_y q, pLoop_w hx.1]
        exact ⟨1, rfl, by decide, Or.inl ⟨rfl, p, D, ⟨hb0, hp0, hs0, hw0, hok, hRg⟩, hD1, hP, Or.inr ⟨hx.1, hx.2, q⟩⟩, rfl, rfl⟩
      · have e := pLoop_n (T := T) (n := m) (p := p) (D := D) (v := 6559778) (f := pLight T m) (d := d) q
        rw [e]
        exact ⟨1, rfl, by decide, Or.inl ⟨rfl, p, D, ⟨hb0, hp0, hs0, hw0, hok, hRg⟩, hD1, hP, Or.inl rfl⟩, rfl, rfl⟩
    · intro h4
      refine zs_aload (ip' := 6) rfl rfl rfl ?_
      refine zs_push (ip' := 7) rfl rfl ?_
      refine zW_cR (ip' := 8) rfl rfl (cX_word_5 hN hb0 hp0 hs0) rfl rfl (z_ok3 (by omega) zsh_197 rfl rfl rfl) ?_
      rintro v1 G1 F' n' hv1 ⟨hd1, rfl, rfl⟩
      refine zs_if_eq (t := 17) (ip' := 9) rfl rfl (by omega) ?_ ?_
      · intro h8
        obtain ⟨-, hc1, rfl⟩ := hd1.resolve_left (fun q => absurd (q.1.symm.trans h8) (by decide))
        refine zs_pushI (ip' := 18) rfl rfl zi_k1 ?_
        refine zW_0b rfl (Or.inr rfl) ?_
        have e := pLoop_n (T := T) (n := m) (p := p) (D := D) (v := 6559778) (f := pLight T m) (d := d) hc1
        rw [e]
        exact ⟨1, rfl, by decide, Or.inl ⟨rfl, p, D, ⟨hb0, hp0, hs0, hw0, hok, hRg⟩, hD1, hP, Or.inl rfl⟩, rfl, rfl⟩
      · intro h8
        obtain ⟨-, hc1, hr1, hs1⟩ := hd1.resolve_right (fun q => h8 q.1)
        obtain ⟨p1, hpe1⟩ : ∃ q, q = tE T m p := ⟨_, rfl⟩
        rw [← hpe1] at hs1
        have hp1 : 0 ≤ p1 ∧ p1 ≤ m := by rw [hpe1]; exact tE_in hp0
        have hb1 := xBu_rt hb0 hr1
        have hw1 : xRw w G0 G1 := xRw_t hw0 (xRw_d hr1)
        refine zs_aload (ip' := 10) rfl rfl rfl ?_
        refine zs_aload (ip' := 11) rfl rfl rfl ?_
        refine zW_cR (ip' := 12) rfl rfl (cR_light (G0 := G0) (H := H) hN hw ⟨hb1, hp1, hs1, hw1, hok, RXg_fr hRg (fun k a b => hr1.1 k (by omega))⟩ hD1 (by omega)) rfl rfl (z_ok3 (by omega) zsh_197 rfl rfl rfl) ?_
        rintro v2 G2 F' n' hv2 ⟨hd2, rfl, rfl⟩
        have hpy : pLoop T m 6559778 (pLight T m) (d + 1) (p, 0, -1, D) = pLoop T m 6559778 (pLight T m) d (pL2 T m (p1, 0, -1, D)) := by
          rw [pLoop_y hc1, pLight_t (by omega), ← hpe1]
        refine zs_if_ne (t := 15) (ip' := 13) rfl rfl (by omega) ?_ ?_
        · intro h12
          obtain ⟨-, p2, D2, hx2, hG2, z1, z4, z5⟩ := hd2.resolve_right (fun q => h12 q.1)
          refine zs_iinc2 (ip' := 16) rfl rfl zi_k1 ?_
          refine zs_goto (t := 2) rfl ?_
          rw [hpy, hx2]
          exact ih (nn + 1) p2 D2 G2 (by omega) (by omega) (by omega) (z1.trans hD1) (by omega) hG2
        · intro h12
          obtain ⟨-, hx1, hx2, hx3⟩ := hd2.resolve_left (fun q => absurd (q.1.symm.trans h12) (by decide))
          refine zs_pushI (ip' := 14) rfl rfl zi_k0 ?_
          refine zW_0b rfl (Or.inl rfl) ?_
          rw [hpy, pLoop_w hx1]
          exact ⟨0, rfl, by decide, Or.inr ⟨rfl, hx1, hx2, hx3⟩, rfl, rfl⟩
theorem cR_lights {N : Nat} {G F : GM} {n : Nat} (hN : 229 ≤ N) {w : Nat} (hw : w < 12) {T : Int → Int} {m H : Int} {G0 : GM} {p : Int} {D : Int → Int} (hD1 : D 1 = H) (hD4 : D 4 = 0) (hD5 : D 5 = 0) (hG : xGw w H G0 G T m p D) : zC N 189 [.ref 197, .ref (16 * w)] G F n (zR fun v9 G' F' n' => xSu w H G0 T m (pLoop T m 6559778 (pLight T m) 802 (p, 0, -1, D)) 6559778 (fun D => D 5 = 0) v9 G' ∧ F' = F ∧ n' = n) := by
  refine zC_i (L0 := [.ref 197, .ref (16 * w), .null]) rfl ?_
  refine zs_pushI (ip' := 1) rfl rfl zi_k0 ?_
  refine zs_istore2 (ip' := 2) rfl rfl ?_
  exact cR_lights_l hN hw 802 0 p D G (by omega) (by omega) (by omega) hD1 hD5 hG
theorem cR_travs_l {N : Nat} {F : GM} {n : Nat} (hN : 229 ≤ N) {w : Nat} (hw : w < 12) {T : Int → Int} {m H : Int} {G0 : GM} : ∀ (d : Nat) (nn : Nat) (p : Int) (D : Int → Int) (a3 : Value) (G : GM), 801 ≤ (nn : Int) + (d : Int) → (nn : Int) = D 5 → (nn : Int) ≤ 6 → D 1 = H → True → xGw w H G0 G T m p D → zW N 191 2 [.ref 197, .ref (16 * w), .int (zi (nn : Int)), a3] [] G F n (zR fun v9 G' F' n' => xSu w H G0 T m (pLoop T m 5837583086019 (pWalker T m) d (p, 0, -1, D)) 5837583086019 (fun _ => True) v9 G' ∧ F' = F ∧ n' = n) := by
  intro d
  induction d with
  | zero =>
    intro nn p D a3 G hd hj hn8 hD1 hP hG
    exact absurd hd (by omega)
  | succ d ih =>
    intro nn p D a3 G hd hj hn8 hD1 hP hG
    obtain ⟨hb0, hp0, hs0, hw0, hok, hRg⟩ := hG
    obtain ⟨-, ⟨m0, m1⟩, -⟩ := id hb0
    have hR : RX G w D := by rw [← hD1] at hRg; exact hRg
    obtain ⟨c0, c1, -⟩ := id hR.1
    obtain ⟨-, c5⟩ := RX_n hR
    obtain ⟨a0, a1, -, -, a4, a5, -⟩ := id hok
    refine zs_iload (ip' := 3) rfl rfl rfl ?_
    refine zs_pushI (ip' := 4) rfl rfl zi_k6 ?_
    refine zs_icmp_ge (t := 59) (ip' := 5) rfl rfl (by omega) (by omega) ?_ ?_
    · intro h4
      refine zs_pushI (ip' := 60) rfl rfl zi_k1 ?_
      refine zW_0b rfl (Or.inr rfl) ?_
      by_cases q : pIs T m (p, 0, -1, D) 5837583086019
      · have hx := pWalker_f (T := T) (n := m) (p := p) (D := D) (by omega)
        rw [pLoop_y q, pLoop_w hx.1]
        exact ⟨1, rfl, by decide, Or.inl ⟨rfl, p, D, ⟨hb0, hp0, hs0, hw0, hok, hRg⟩, hD1, hP, Or.inr ⟨hx.1, hx.2, q⟩⟩, rfl, rfl⟩
      · have e := pLoop_n (T := T) (n := m) (p := p) (D := D) (v := 5837583086019) (f := pWalker T m) (d := d) q
        rw [e]
        exact ⟨1, rfl, by decide, Or.inl ⟨rfl, p, D, ⟨hb0, hp0, hs0, hw0, hok, hRg⟩, hD1, hP, Or.inl rfl⟩, rfl, rfl⟩
    · intro h4
      refine zs_aload (ip' := 6) rfl rfl rfl ?_
      refine zs_push (ip' := 7) rfl rfl ?_
      refine zW_cR (ip' := 8) rfl rfl (cX_word_9 hN hb0 hp0 hs0) rfl rfl (z_ok3 (by omega) zsh_197 rfl rfl rfl) ?_
      rintro v1 G1 F' n' hv1 ⟨hd1, rfl, rfl⟩
      refine zs_if_eq (t := 59) (ip' := 9) rfl rfl (by omega) ?_ ?_
      · intro h8
        obtain ⟨-, hc1, rfl⟩ := hd1.resolve_left (fun q => absurd (q.1.symm.trans h8) (by decide))
        refine zs_pushI (ip' := 60) rfl rfl zi_k1 ?_
        refine zW_0b rfl (Or.inr rfl) ?_
        have e := pLoop_n (T := T) (n := m) (p := p) (D := D) (v := 5837583086019) (f := pWalker T m) (d := d) hc1
        rw [e]
        exact ⟨1, rfl, by decide, Or.inl ⟨rfl, p, D, ⟨hb0, hp0, hs0, hw0, hok, hRg⟩, hD1, hP, Or.inl rfl⟩, rfl, rfl⟩
      · intro h8
        obtain ⟨-, hc1, hr1, hs1⟩ := hd1.resolve_right (fun q => h8 q.1)
        obtain ⟨p1, hpe1⟩ : ∃ q, q = tE T m p := ⟨_, rfl⟩
        rw [← hpe1] at hs1
        have hp1 : 0 ≤ p1 ∧ p1 ≤ m := by rw [hpe1]; exact tE_in hp0
        have hb1 := xBu_rt hb0 hr1
        have hw1 : xRw w G0 G1 := xRw_t hw0 (xRw_d hr1)
        have hpy : pLoop T m 5837583086019 (pWalker T m) (d + 1) (p, 0, -1, D) = pLoop T m 5837583086019 (pWalker T m) d (pW2 T m (p1, 0, -1, D)) := by
          rw [pLoop_y hc1, pWalker_t (by omega), ← hpe1]
        refine zs_aload (ip' := 10) rfl rfl rfl ?_
        refine zs_pushI (ip' := 11) rfl rfl zi_k0 ?_
        refine zs_aload (ip' := 12) rfl rfl rfl ?_
        refine zs_getR (ip' := 13) rfl rfl (r := 16 * w + 1) (by omega) (zsh_w0 hw) rfl ?_
        refine zs_getI (ip' := 14) rfl rfl (by omega) (zsh_w1 hw) rfl (q := 0) rfl ?_
        intro hl13 hu13
        rw [show G1 (16 * w + 1) 0 = D 0 from (congrFun (hr1.1 _ (by omega)) 0).trans c0] at hl13 hu13 ⊢
        refine zs_pushI (ip' := 15) rfl rfl zi_k1 ?_
        refine zs_isub (ip' := 16) rfl rfl ?_
        refine zW_cR (ip' := 17) rfl rfl (cX_takeNum hN hb1 hp1 hs1 (by omega) (by omega)) rfl rfl (z_ok3 (by omega) zsh_197 rfl rfl rfl) ?_
        rintro v2 G2 F' n' hv2 ⟨hd2, rfl, rfl⟩
        refine zs_if_ne (t := 20) (ip' := 18) rfl rfl (by omega) ?_ ?_
        · intro h17
          obtain ⟨-, hc2, hn2, hr2, hs2⟩ := hd2.resolve_right (fun q => h17 q.1)
          obtain ⟨p2, hpe2⟩ : ∃ q, q = tE T m p1 := ⟨_, rfl⟩
          rw [← hpe2] at hs2
          have hp2 : 0 ≤ p2 ∧ p2 ≤ m := by rw [hpe2]; exact tE_in hp1
          have hb2 := xBu_rt hb1 hr2
          have hw2 : xRw w G0 G2 := xRw_t hw1 (xRw_d hr2)
          have hR2 : RX G2 w D := RX_fr hR (fun k a b => (hr2.1 k (by omega)).trans (hr1.1 k (by omega)))
          have u2 := tV_rng (T := T) hp2.2
          refine zs_aload (ip' := 21) rfl rfl rfl ?_
          refine zs_getI (ip' := 22) rfl rfl (by omega) zsh_197 rfl (q := 6) rfl ?_
          intro hl21 hu21
          rw [hn2] at hl21 hu21 ⊢
          refine zs_istore3 (ip' := 23) rfl rfl ?_
          refine zs_aload (ip' := 24) rfl rfl rfl ?_
          refine zs_pushI (ip' := 25) rfl rfl zi_k0 ?_
          refine zs_aload (ip' := 26) rfl rfl rfl ?_
          refine zs_getR (ip' := 27) rfl rfl (r := 16 * w + 1) (by omega) (zsh_w0 hw) rfl ?_
          refine zs_getI (ip' := 28) rfl rfl (by omega) (zsh_w1 hw) rfl (q := 1) rfl ?_
          intro hl27 hu27
          rw [show G2 (16 * w + 1) 1 = D 1 from (congrFun ((hr2.1 _ (by omega)).trans (hr1.1 _ (by omega))) 1).trans c1] at hl27 hu27 ⊢
          refine zs_pushI (ip' := 29) rfl rfl zi_k1 ?_
          refine zs_isub (ip' := 30) rfl rfl ?_
          refine zW_cP (ip' := 31) rfl rfl (cX_isNum hN hb2 hp2 hs2 (by omega) (by omega)) rfl rfl (z_ok3 (by omega) zsh_197 rfl rfl rfl) ?_
          refine zs_if_eqB (t := 40) (ip' := 32) rfl rfl ?_ ?_
          · intro h31
            refine zs_pushI (ip' := 41) rfl rfl zi_k0 ?_
            refine zW_0b rfl (Or.inl rfl) ?_
            have hx : xWr (pW2 T m (p1, 0, -1, D)) (tB T m p2) := by
              rw [pW2_t hc2, ← hpe2]
              exact pW3_f (fun q => by
                have q2 : tV T m p2 < D 1 := q.2.1
                exact h31 ⟨q.1, by omega, by omega⟩)
            rw [hpy, pLoop_w hx.1]
            exact ⟨0, rfl, by decide, Or.inr ⟨rfl, hx.1, hx.2.trans hs2.1.symm, hw2⟩, rfl, rfl⟩
          · intro h31
            have hgc := hR2.2.2.1 (tV T m p1) (tV T m p2) (by omega) (by omega) (by omega) (by omega)
            obtain ⟨-, gz, gh, -⟩ := zgc_rng (mOk_g hok (x := tV T m p1) (y := tV T m p2) ⟨by omega, by omega⟩ ⟨by omega, by omega⟩)
            rw [← hgc] at gz gh
            refine zs_aload (ip' := 33) rfl rfl rfl ?_
            refine zs_getR (ip' := 34) rfl rfl (r := 16 * w + 1) (by omega) (zsh_w0 hw) rfl ?_
            refine zs_iload (ip' := 35) rfl rfl rfl ?_
            refine zs_aload (ip' := 36) rfl rfl rfl ?_
            refine zs_getI (ip' := 37) rfl rfl (by omega) zsh_197 rfl (q := 5) rfl ?_
            intro hl36 hu36
            rw [hs2.2.2.2 h31.1] at hl36 hu36 ⊢
            refine zW_cP (ip' := 38) rfl rfl cX_cellAt rfl rfl rfl ?_
            refine zW_cP (ip' := 39) rfl rfl (cX_takesTraveller hN hw ⟨by omega, by omega⟩) rfl rfl (z_ok3 (by omega) (zsh_w1 hw) rfl rfl rfl) ?_
            refine zs_if_neB (t := 42) (ip' := 40) rfl rfl ?_ ?_
            · intro h39
              have hwc : pWc T m (p2, 0, -1, D) (tV T m p1) := ⟨h31.1, by show tV T m p2 < D 1; omega, fun q => h39.1 (gz.mpr q), fun q => h39.2 (gh.mpr q)⟩
              refine zs_aload (ip' := 43) rfl rfl rfl ?_
              refine zs_getR (ip' := 44) rfl rfl (r := 16 * w + 7) (by omega) (zsh_w0 hw) rfl ?_
              refine zs_iload (ip' := 45) rfl rfl rfl ?_
              refine zs_aload (ip' := 46) rfl rfl rfl ?_
              refine zs_getI (ip' := 47) rfl rfl (by omega) zsh_197 rfl (q := 5) rfl ?_
              intro hl46 hu46
              rw [hs2.2.2.2 h31.1] at hl46 hu46 ⊢
              refine zW_cP (ip' := 48) rfl rfl cX_cellAt rfl rfl rfl ?_
              refine zW_cR (ip' := 49) rfl rfl (cX_put6 (l := D 5) hN hw (by rw [hr2.1 _ (by omega), hr1.1 _ (by omega)]; exact c5) ⟨by omega, by omega⟩ (by omega)) rfl rfl (z_ok3 (by omega) (zsh_w7 hw) rfl rfl rfl) ?_
              rintro r G3 F' n' hrr ⟨⟨rfl, k0, k7, k8, k9, k10, k11, k12, k13⟩, rfl, rfl⟩
              have hR3 : RX G3 w (sAddW D (tV T m p1) (tV T m p2)) := RX_addW hok hR2 (by omega) (fun k _ _ a => k0 k (by omega)) k7 k8 k9 k10 k11 k12 k13
              have hw3' : xRw w G2 G3 := ⟨fun k _ b => k0 k (by omega), fun j _ => by rw [k0 197 (by omega)]⟩
              have hw3 := xRw_t hw2 hw3'
              have hb3 := xBu_rw hw hb2 hw3'
              have hs3 : xTo G3 T m p2 := by unfold xTo; rw [k0 197 (by omega)]; exact hs2
              refine zs_pop (ip' := 50) rfl rfl ?_
              refine zs_aload (ip' := 51) rfl rfl rfl ?_
              refine zW_cV (ip' := 52) rfl rfl (cX_scan hN hb3 (tE_in hp2) hs3.2.1) rfl rfl (z_ok3 (by omega) zsh_197 rfl rfl rfl) ?_
              rintro G4 F' n' ⟨⟨hrd, hs4⟩, rfl, rfl⟩
              obtain ⟨p3, hpe3⟩ : ∃ q, q = tE T m p2 := ⟨_, rfl⟩
              rw [← hpe3] at hs4
              have hp3 : 0 ≤ p3 ∧ p3 ≤ m := by rw [hpe3]; exact tE_in hp2
              have hb4 := xBu_rd hb3 hrd
              have hw4 : xRw w G0 G4 := xRw_t hw3 (xRw_d (xRt_d hrd))
              have hR4 : RX G4 w (sAddW D (tV T m p1) (tV T m p2)) := RX_fr hR3 (fun k a b => hrd.1 k (by omega))
              refine zs_aload (ip' := 53) rfl rfl rfl ?_
              refine zW_cR (ip' := 54) rfl rfl (cX_semi hN hb4 hp3 hs4) rfl rfl (z_ok3 (by omega) zsh_197 rfl rfl rfl) ?_
              rintro v5 G5 F' n' hv5 ⟨hd5, rfl, rfl⟩
              refine zs_if_ne (t := 57) (ip' := 55) rfl rfl (by omega) ?_ ?_
              · intro h54
                obtain ⟨-, hc5, hr5, hs5⟩ := hd5.resolve_right (fun q => h54 q.1)
                obtain ⟨p5, hpe5⟩ : ∃ q, q = tE T m p3 := ⟨_, rfl⟩
                rw [← hpe5] at hs5
                have hp5 : 0 ≤ p5 ∧ p5 ≤ m := by rw [hpe5]; exact tE_in hp3
                have hb5 := xBu_rt hb4 hr5
                have hw5 : xRw w G0 G5 := xRw_t hw4 (xRw_d hr5)
                refine zs_iinc2 (ip' := 58) rfl rfl zi_k1 ?_
                refine zs_goto (t := 2) rfl ?_
                obtain ⟨f5, -⟩ := sAddW_f (s := D) (x := tV T m p1) (y := tV T m p2) a5.1
                have f1 : sAddW D (tV T m p1) (tV T m p2) 1 = H := (sAddW_o a5.1 (by omega) (by omega)).trans hD1
                rw [hpy, pW2_t hc2, ← hpe2, pW3_t hwc, ← hpe3, pW4_t hc5, ← hpe5]
                exact ih (nn + 1) p5 _ _ G5 (by omega) (by omega) (by omega) f1 trivial ⟨hb5, hp5, hs5, hw5, mOk_addW hok (by omega) ⟨by omega, by omega⟩ ⟨by omega, by omega⟩, by rw [← f1]; exact RX_fr hR4 (fun k a b => hr5.1 k (by omega))⟩
              · intro h54
                obtain ⟨-, hc5, rfl⟩ := hd5.resolve_left (fun q => absurd (q.1.symm.trans h54) (by decide))
                refine zs_pushI (ip' := 56) rfl rfl zi_k0 ?_
                refine zW_0b rfl (Or.inl rfl) ?_
                have hx : xWr (pW2 T m (p1, 0, -1, D)) (tB T m p3) := by
                  rw [pW2_t hc2, ← hpe2, pW3_t hwc, ← hpe3]
                  exact pW4_f hc5
                rw [hpy, pLoop_w hx.1]
                exact ⟨0, rfl, by decide, Or.inr ⟨rfl, hx.1, hx.2.trans hs4.1.symm, hw4⟩, rfl, rfl⟩
            · intro h39
              refine zs_pushI (ip' := 41) rfl rfl zi_k0 ?_
              refine zW_0b rfl (Or.inl rfl) ?_
              have hx : xWr (pW2 T m (p1, 0, -1, D)) (tB T m p2) := by
                rw [pW2_t hc2, ← hpe2]
                exact pW3_f (fun q => h39 ⟨fun z => q.2.2.1 (gz.mp z), fun z => q.2.2.2 (gh.mp z)⟩)
              rw [hpy, pLoop_w hx.1]
              exact ⟨0, rfl, by decide, Or.inr ⟨rfl, hx.1, hx.2.trans hs2.1.symm, hw2⟩, rfl, rfl⟩
        · intro h17
          obtain ⟨-, hc2, rfl⟩ := hd2.resolve_left (fun q => absurd (q.1.symm.trans h17) (by decide))
          refine zs_pushI (ip' := 19) rfl rfl zi_k0 ?_
          refine zW_0b rfl (Or.inl rfl) ?_
          have hx : xWr (pW2 T m (p1, 0, -1, D)) (tB T m p1) := by
            exact pW2_f hc2
          rw [hpy, pLoop_w hx.1]
          exact ⟨0, rfl, by decide, Or.inr ⟨rfl, hx.1, hx.2.trans hs1.1.symm, hw1⟩, rfl, rfl⟩
theorem cR_travs {N : Nat} {G F : GM} {n : Nat} (hN : 229 ≤ N) {w : Nat} (hw : w < 12) {T : Int → Int} {m H : Int} {G0 : GM} {p : Int} {D : Int → Int} (hD1 : D 1 = H) (hD5 : D 5 = 0) (hG : xGw w H G0 G T m p D) : zC N 191 [.ref 197, .ref (16 * w)] G F n (zR fun v9 G' F' n' => xSu w H G0 T m (pLoop T m 5837583086019 (pWalker T m) 802 (p, 0, -1, D)) 5837583086019 (fun _ => True) v9 G' ∧ F' = F ∧ n' = n) := by
  refine zC_i (L0 := [.ref 197, .ref (16 * w), .null, .null]) rfl ?_
  refine zs_pushI (ip' := 1) rfl rfl zi_k0 ?_
  refine zs_istore2 (ip' := 2) rfl rfl ?_
  exact cR_travs_l hN hw 802 0 p D _ G (by omega) (by omega) (by omega) hD1 trivial hG
