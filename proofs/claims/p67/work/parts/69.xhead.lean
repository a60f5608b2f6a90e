/-! The program: the head of a text (printed by wip/whole/src69.py). -/
theorem cX_rm {N : Nat} {G F : GM} {n : Nat} (hN : 229 ≤ N) {w : Nat} (hw : w < 12) : zC N 144 [.ref (16 * w + 3)] G F n (zV fun G' F' n' => ((∀ k, k ≠ 16 * w + 3 → G' k = G k) ∧ G' (16 * w + 3) 0 = 0 ∧ G' (16 * w + 3) 1 = 0) ∧ F' = F ∧ n' = n) := by
  refine zC_i (L0 := [.ref (16 * w + 3)]) rfl ?_
  refine zs_aload (ip' := 1) rfl rfl rfl ?_
  refine zs_pushI (ip' := 2) rfl rfl zi_k0 ?_
  refine zs_putI (ip' := 3) rfl rfl (by omega) (zsh_w3 hw) rfl (q := 0) rfl (by omega) ?_
  refine zW_gk ?_
  intro G1 e1 f1
  refine zs_aload (ip' := 4) rfl rfl rfl ?_
  refine zs_pushI (ip' := 5) rfl rfl zi_k0 ?_
  refine zs_putI (ip' := 6) rfl rfl (by omega) (zsh_w3 hw) rfl (q := 1) rfl (by omega) ?_
  refine zW_gk ?_
  intro G2 e2 f2
  refine zW_1 rfl ?_
  exact ⟨rfl, ⟨fun k hk => (f2 k hk).trans (f1 k hk), by rw [e2, zp_ne (by decide), e1, zp_eq], by rw [e2, zp_eq]⟩, rfl, rfl⟩
theorem cX_anew {N : Nat} {G F : GM} {n : Nat} (hN : 229 ≤ N) {w : Nat} (hw : w < 12) {a b : Int} (ha : zr a) (hb : zr b) : zC N 159 [.ref (16 * w), .int (zi a), .int (zi b)] G F n (zV fun G' F' n' => ((∀ k, (k < 16 * w ∨ 16 * w + 16 ≤ k) → G' k = G k) ∧ G' (16 * w + 1) 0 = a ∧ G' (16 * w + 1) 1 = b ∧ G' (16 * w + 3) 0 = 0 ∧ G' (16 * w + 3) 1 = 0 ∧ G' (16 * w + 7) 0 = 0 ∧ (∀ h, 0 ≤ h → h < 24 → G' (16 * w + 15) h = 0) ∧ G' (16 * w) 5 = 0) ∧ F' = F ∧ n' = n) := by
  refine zC_i (L0 := [.ref (16 * w), .int (zi a), .int (zi b)]) rfl ?_
  refine zs_aload (ip' := 1) rfl rfl rfl ?_
  refine zs_getR (ip' := 2) rfl rfl (r := 16 * w + 1) (by omega) (zsh_w0 hw) rfl ?_
  refine zs_iload (ip' := 3) rfl rfl rfl ?_
  refine zs_putI (ip' := 4) rfl rfl (by omega) (zsh_w1 hw) rfl (q := 0) rfl (by omega) ?_
  refine zW_gk ?_
  intro G1 e1 f1
  refine zs_aload (ip' := 5) rfl rfl rfl ?_
  refine zs_getR (ip' := 6) rfl rfl (r := 16 * w + 1) (by omega) (zsh_w0 hw) rfl ?_
  refine zs_iload (ip' := 7) rfl rfl rfl ?_
  refine zs_putI (ip' := 8) rfl rfl (by omega) (zsh_w1 hw) rfl (q := 1) rfl (by omega) ?_
  refine zW_gk ?_
  intro G2 e2 f2
  refine zs_aload (ip' := 9) rfl rfl rfl ?_
  refine zs_getR (ip' := 10) rfl rfl (r := 16 * w + 3) (by omega) (zsh_w0 hw) rfl ?_
  refine zW_cV (ip' := 11) rfl rfl (cX_rm hN hw) rfl rfl (z_ok3 (by omega) (zsh_w3 hw) rfl rfl rfl) ?_
  rintro G3 F' n' ⟨⟨f3, e3, e3'⟩, rfl, rfl⟩
  refine zs_aload (ip' := 12) rfl rfl rfl ?_
  refine zs_getR (ip' := 13) rfl rfl (r := 16 * w + 7) (by omega) (zsh_w0 hw) rfl ?_
  refine zs_pushI (ip' := 14) rfl rfl zi_k0 ?_
  refine zs_putI (ip' := 15) rfl rfl (by omega) (zsh_w7 hw) rfl (q := 0) rfl (by omega) ?_
  refine zW_gk ?_
  intro G4 e4 f4
  refine zs_aload (ip' := 16) rfl rfl rfl ?_
  refine zs_getR (ip' := 17) rfl rfl (r := 16 * w + 15) (by omega) (zsh_w0 hw) rfl ?_
  refine zs_pushI (ip' := 18) rfl rfl zi_k0 ?_
  refine zW_cV (ip' := 19) rfl rfl (cX_fill (zsh_w15 hw) (by omega) (by decide) (by omega)) rfl rfl rfl ?_
  rintro Gx F' n' ⟨⟨t, ht, rfl⟩, rfl, rfl⟩
  refine zW_gk ?_
  intro G5 e5 f5
  refine zs_aload (ip' := 20) rfl rfl rfl ?_
  refine zs_pushI (ip' := 21) rfl rfl zi_k0 ?_
  refine zs_putI (ip' := 22) rfl rfl (by omega) (zsh_w0 hw) rfl (q := 5) rfl (by omega) ?_
  refine zW_gk ?_
  intro G6 e6 f6
  refine zW_1 rfl ?_
  refine ⟨rfl, ⟨fun k hk => ?_, ?_, ?_, ?_, ?_, ?_, fun h h0 h1 => ?_, ?_⟩, rfl, rfl⟩
  · rw [f6 _ (by omega), f5 _ (by omega), f4 _ (by omega), f3 _ (by omega), f2 _ (by omega), f1 _ (by omega)]
  · rw [f6 _ (by omega), f5 _ (by omega), f4 _ (by omega), f3 _ (by omega), e2, zp_ne (by decide), e1, zp_eq]
  · rw [f6 _ (by omega), f5 _ (by omega), f4 _ (by omega), f3 _ (by omega), e2, zp_eq]
  · rw [f6 _ (by omega), f5 _ (by omega), f4 _ (by omega), e3]
  · rw [f6 _ (by omega), f5 _ (by omega), f4 _ (by omega), e3']
  · rw [f6 _ (by omega), f5 _ (by omega), e4, zp_eq]
  · rw [f6 _ (by omega), e5]
    exact ht h h0 h1
  · rw [e6, zp_eq]
theorem xHead_ok {D0 : Int → Int} {a b c : Int} (hz : ∀ i, 0 ≤ i → i < 256 → D0 i = 0) (ha : 2 ≤ a ∧ a ≤ 12) (hb : 2 ≤ b ∧ b ≤ 12) (hc : 0 ≤ c ∧ c ≤ 20) : mOk (zp (zp (zp D0 0 a) 1 b) 2 c) := by
  have e : ∀ i, 3 ≤ i → i < 256 → zp (zp (zp D0 0 a) 1 b) 2 c i = 0 := fun i h0 h1 => by
    rw [zp_ne (by omega), zp_ne (by omega), zp_ne (by omega)]
    exact hz i (by omega) h1
  have e0 : zp (zp (zp D0 0 a) 1 b) 2 c 0 = a := by rw [zp_ne (by decide), zp_ne (by decide), zp_eq]
  have e1 : zp (zp (zp D0 0 a) 1 b) 2 c 1 = b := by rw [zp_ne (by decide), zp_eq]
  have e2 : zp (zp (zp D0 0 a) 1 b) 2 c 2 = c := zp_eq _ _ _
  unfold mOk
  rw [e0, e1, e2, e 3 (by omega) (by omega), e 4 (by omega) (by omega), e 5 (by omega) (by omega)]
  refine ⟨ha, hb, hc, by omega, by omega, by omega, fun h h0 h1 => ?_, fun c' c0 c1 => ?_, fun l l0 l1 => by omega, fun w w0 w1 => by omega⟩
  · rw [e _ (by omega) (by omega)]
    omega
  · rw [e _ (by omega) (by omega)]
    omega
theorem xHead_rx {G : GM} {w : Nat} {D0 : Int → Int} {a b c : Int} (hz : ∀ i, 0 ≤ i → i < 256 → D0 i = 0) (g0 : G (16 * w + 1) 0 = a) (g1 : G (16 * w + 1) 1 = b) (g2 : G (16 * w) 4 = c) (g3 : G (16 * w) 5 = 0) (g4 : G (16 * w + 3) 0 = 0) (g4' : G (16 * w + 3) 1 = 0) (g5 : G (16 * w + 7) 0 = 0) (gf : ∀ h, 0 ≤ h → h < 24 → G (16 * w + 15) h = 0) : RXg G w (zp (zp (zp D0 0 a) 1 b) 2 c) 0 := by
  have e : ∀ i, 3 ≤ i → i < 256 → zp (zp (zp D0 0 a) 1 b) 2 c i = 0 := fun i h0 h1 => by
    rw [zp_ne (by omega), zp_ne (by omega), zp_ne (by omega)]
    exact hz i (by omega) h1
  have e0 : zp (zp (zp D0 0 a) 1 b) 2 c 0 = a := by rw [zp_ne (by decide), zp_ne (by decide), zp_eq]
  have e1 : zp (zp (zp D0 0 a) 1 b) 2 c 1 = b := by rw [zp_ne (by decide), zp_eq]
  have e2 : zp (zp (zp D0 0 a) 1 b) 2 c 2 = c := zp_eq _ _ _
  unfold RXg
  rw [e0, e1, e2, e 3 (by omega) (by omega), e 4 (by omega) (by omega), e 5 (by omega) (by omega)]
  refine ⟨⟨g0, g1, g2, g3, g4, g5⟩, fun h h0 h1 => ?_, fun x y _ _ y0 y1 => by omega, fun l l0 l1 => by omega, fun l l0 l1 => ?_, fun t t0 t1 => by omega⟩
  · rw [e _ (by omega) (by omega)]
    exact gf h h0 h1
  · rw [g4']
    exact ⟨fun q => absurd q (zhas_0 l0 (by omega)), fun q => by omega⟩
/-- wrong, and there it stays -/
def xWr (x : zTx) (e : Int) : Prop := x.2.1 = 1 ∧ x.2.2.1 = e
section WR
variable {T : Int → Int} {n e : Int} {x : zTx}
theorem xWr_tk {c : Prop} [Decidable c] (h : xWr x e) : xWr (pTk T n x c) e := by rw [pTk_w h.1]; exact h
theorem xWr_h1 (h : xWr x e) : xWr (pH1 T n x) e := by
  have h2 : xWr (pNs T n x 2 12) e := xWr_tk h
  exact h2
theorem xWr_h2 (h : xWr x e) : xWr (pH2 T n x) e := by
  have h2 : xWr (pNs T n x 2 12) e := xWr_tk h
  exact h2
theorem xWr_h3 (h : xWr x e) : xWr (pH3 T n x) e := by
  have h2 : xWr (pNs T n x 0 20) e := xWr_tk h
  exact h2
theorem xWr_semi (h : xWr x e) : xWr (pSemi T n x) e := xWr_tk h
end WR
theorem cR_head {N : Nat} {G F : GM} {n : Nat} (hN : 229 ≤ N) {w : Nat} (hw : w < 12) {T : Int → Int} {m p : Int} {D0 : Int → Int} (hb0 : xBu G T m) (hp0 : 0 ≤ p ∧ p ≤ m) (hs0 : xTo G T m p) (hz : ∀ i, 0 ≤ i → i < 256 → D0 i = 0) : zC N 186 [.ref 197, .ref (16 * w)] G F n (zR fun v G' F' n' => xSt w 0 G T m (pHead T m (p, 0, -1, D0)) v G' ∧ F' = F ∧ n' = n) := by
  have hw0 : xRw w G G := xRw_r w G
  refine zC_i (L0 := [.ref 197, .ref (16 * w), .null]) rfl ?_
  refine zs_aload (ip' := 1) rfl rfl rfl ?_
  refine zs_push (ip' := 2) rfl rfl ?_
  refine zW_cR (ip' := 3) rfl rfl (cX_word_1 hN hb0 hp0 hs0) rfl rfl (z_ok3 (by omega) zsh_197 rfl rfl rfl) ?_
  rintro v1 G1 F' n' hv1 ⟨hd1, rfl, rfl⟩
  refine zs_if_eq (t := 9) (ip' := 4) rfl rfl (by omega) ?_ ?_
  · intro h3
    obtain ⟨-, hc1, rfl⟩ := hd1.resolve_left (fun q => absurd (q.1.symm.trans h3) (by decide))
    refine zs_pushI (ip' := 10) rfl rfl zi_k0 ?_
    refine zW_0b rfl (Or.inl rfl) ?_
    have hx : xWr (pHead T m (p, 0, -1, D0)) (tB T m p) := by
      unfold pHead
      exact xWr_semi (xWr_h3 (xWr_tk (xWr_h2 (xWr_h1 (by rw [pTk_f hc1]; exact ⟨rfl, rfl⟩)))))
    exact ⟨0, rfl, by decide, Or.inr ⟨rfl, hx.1, hx.2.trans hs0.1.symm, hw0⟩, rfl, rfl⟩
  · intro h3
    obtain ⟨-, hc1, hr1, hs1⟩ := hd1.resolve_right (fun q => h3 q.1)
    obtain ⟨p1, hpe1⟩ : ∃ q, q = tE T m p := ⟨_, rfl⟩
    rw [← hpe1] at hs1
    have hp1 : 0 ≤ p1 ∧ p1 ≤ m := by rw [hpe1]; exact tE_in hp0
    have hb1 := xBu_rt hb0 hr1
    have hw1 : xRw w G G1 := xRw_t hw0 (xRw_d hr1)
    have e1 : pTk T m (p, 0, -1, D0) (pIs T m (p, 0, -1, D0) 6942059) = (p1, 0, -1, D0) := by rw [hpe1]; exact pTk_t hc1
    refine zs_aload (ip' := 5) rfl rfl rfl ?_
    refine zs_pushI (ip' := 6) rfl rfl zi_k2 ?_
    refine zs_pushI (ip' := 7) rfl rfl zi_k12 ?_
    refine zW_cR (ip' := 8) rfl rfl (cX_takeNum hN hb1 hp1 hs1 (by omega) (by omega)) rfl rfl (z_ok3 (by omega) zsh_197 rfl rfl rfl) ?_
    rintro v2 G2 F' n' hv2 ⟨hd2, rfl, rfl⟩
    refine zs_if_ne (t := 11) (ip' := 9) rfl rfl (by omega) ?_ ?_
    · intro h8
      obtain ⟨-, hc2, hn2, hr2, hs2⟩ := hd2.resolve_right (fun q => h8 q.1)
      obtain ⟨p2, hpe2⟩ : ∃ q, q = tE T m p1 := ⟨_, rfl⟩
      rw [← hpe2] at hs2
      have hp2 : 0 ≤ p2 ∧ p2 ≤ m := by rw [hpe2]; exact tE_in hp1
      have hb2 := xBu_rt hb1 hr2
      have hw2 : xRw w G G2 := xRw_t hw1 (xRw_d hr2)
      have e2 : pH1 T m (p1, 0, -1, D0) = (p2, 0, -1, zp D0 0 (tV T m p1)) := by unfold pH1; rw [pNs_t hc2, pNv_t hc2, ← hpe2]; rfl
      refine zs_aload (ip' := 12) rfl rfl rfl ?_
      refine zs_getI (ip' := 13) rfl rfl (by omega) zsh_197 rfl (q := 6) rfl ?_
      intro hl12 hu12
      rw [hn2] at hl12 hu12 ⊢
      refine zs_istore2 (ip' := 14) rfl rfl ?_
      refine zs_aload (ip' := 15) rfl rfl rfl ?_
      refine zs_pushI (ip' := 16) rfl rfl zi_k2 ?_
      refine zs_pushI (ip' := 17) rfl rfl zi_k12 ?_
      refine zW_cR (ip' := 18) rfl rfl (cX_takeNum hN hb2 hp2 hs2 (by omega) (by omega)) rfl rfl (z_ok3 (by omega) zsh_197 rfl rfl rfl) ?_
      rintro v3 G3 F' n' hv3 ⟨hd3, rfl, rfl⟩
      refine zs_if_ne (t := 21) (ip' := 19) rfl rfl (by omega) ?_ ?_
      · intro h18
        obtain ⟨-, hc3, hn3, hr3, hs3⟩ := hd3.resolve_right (fun q => h18 q.1)
        obtain ⟨p3, hpe3⟩ : ∃ q, q = tE T m p2 := ⟨_, rfl⟩
        rw [← hpe3] at hs3
        have hp3 : 0 ≤ p3 ∧ p3 ≤ m := by rw [hpe3]; exact tE_in hp2
        have hb3 := xBu_rt hb2 hr3
        have hw3 : xRw w G G3 := xRw_t hw2 (xRw_d hr3)
        have e3 : pH2 T m (p2, 0, -1, zp D0 0 (tV T m p1)) = (p3, 0, -1, zp (zp D0 0 (tV T m p1)) 1 (tV T m p2)) := by unfold pH2; rw [pNs_t hc3, pNv_t hc3, ← hpe3]; rfl
        refine zs_aload (ip' := 22) rfl rfl rfl ?_
        refine zs_iload (ip' := 23) rfl rfl rfl ?_
        refine zs_aload (ip' := 24) rfl rfl rfl ?_
        refine zs_getI (ip' := 25) rfl rfl (by omega) zsh_197 rfl (q := 6) rfl ?_
        intro hl24 hu24
        rw [hn3] at hl24 hu24 ⊢
        refine zW_cV (ip' := 26) rfl rfl (cX_anew hN hw (by omega) (by omega)) rfl rfl (z_ok3 (by omega) (zsh_w0 hw) rfl rfl rfl) ?_
        rintro Ga F' n' ⟨⟨k0, k1, k2, k3, k4, k5, k6, k7⟩, rfl, rfl⟩
        have hwa' : xRw w G3 Ga := ⟨fun k a b => k0 k b, fun j _ => by rw [k0 197 (by omega)]⟩
        have hwa : xRw w G Ga := xRw_t hw3 hwa'
        have hba := xBu_rw hw hb3 hwa'
        have hsa : xTo Ga T m p3 := by unfold xTo; rw [k0 197 (by omega)]; exact hs3
        have hs3 := hsa
        refine zs_aload (ip' := 27) rfl rfl rfl ?_
        refine zs_push (ip' := 28) rfl rfl ?_
        refine zW_cR (ip' := 29) rfl rfl (cX_word_2 hN hba hp3 hsa) rfl rfl (z_ok3 (by omega) zsh_197 rfl rfl rfl) ?_
        rintro v4 G4 F' n' hv4 ⟨hd4, rfl, rfl⟩
        refine zs_if_eq (t := 35) (ip' := 30) rfl rfl (by omega) ?_ ?_
        · intro h29
          obtain ⟨-, hc4, rfl⟩ := hd4.resolve_left (fun q => absurd (q.1.symm.trans h29) (by decide))
          refine zs_pushI (ip' := 36) rfl rfl zi_k0 ?_
          refine zW_0b rfl (Or.inl rfl) ?_
          have hx : xWr (pHead T m (p, 0, -1, D0)) (tB T m p3) := by
            unfold pHead
            rw [e1, e2, e3]
            exact xWr_semi (xWr_h3 (by rw [pTk_f hc4]; exact ⟨rfl, rfl⟩))
          exact ⟨0, rfl, by decide, Or.inr ⟨rfl, hx.1, hx.2.trans hs3.1.symm, hwa⟩, rfl, rfl⟩
        · intro h29
          obtain ⟨-, hc4, hr4, hs4⟩ := hd4.resolve_right (fun q => h29 q.1)
          obtain ⟨p4, hpe4⟩ : ∃ q, q = tE T m p3 := ⟨_, rfl⟩
          rw [← hpe4] at hs4
          have hp4 : 0 ≤ p4 ∧ p4 ≤ m := by rw [hpe4]; exact tE_in hp3
          have hb4 := xBu_rt hba hr4
          have hw4 : xRw w G G4 := xRw_t hwa (xRw_d hr4)
          have e4 : pTk T m (p3, 0, -1, zp (zp D0 0 (tV T m p1)) 1 (tV T m p2)) (pIs T m (p3, 0, -1, zp (zp D0 0 (tV T m p1)) 1 (tV T m p2)) 1834209) = (p4, 0, -1, zp (zp D0 0 (tV T m p1)) 1 (tV T m p2)) := by rw [hpe4]; exact pTk_t hc4
          refine zs_aload (ip' := 31) rfl rfl rfl ?_
          refine zs_pushI (ip' := 32) rfl rfl zi_k0 ?_
          refine zs_pushI (ip' := 33) rfl rfl zi_k20 ?_
          refine zW_cR (ip' := 34) rfl rfl (cX_takeNum hN hb4 hp4 hs4 (by omega) (by omega)) rfl rfl (z_ok3 (by omega) zsh_197 rfl rfl rfl) ?_
          rintro v5 G5 F' n' hv5 ⟨hd5, rfl, rfl⟩
          refine zs_if_ne (t := 37) (ip' := 35) rfl rfl (by omega) ?_ ?_
          · intro h34
            obtain ⟨-, hc5, hn5, hr5, hs5⟩ := hd5.resolve_right (fun q => h34 q.1)
            obtain ⟨p5, hpe5⟩ : ∃ q, q = tE T m p4 := ⟨_, rfl⟩
            rw [← hpe5] at hs5
            have hp5 : 0 ≤ p5 ∧ p5 ≤ m := by rw [hpe5]; exact tE_in hp4
            have hb5 := xBu_rt hb4 hr5
            have hw5 : xRw w G G5 := xRw_t hw4 (xRw_d hr5)
            have e5 : pH3 T m (p4, 0, -1, zp (zp D0 0 (tV T m p1)) 1 (tV T m p2)) = (p5, 0, -1, zp (zp (zp D0 0 (tV T m p1)) 1 (tV T m p2)) 2 (tV T m p4)) := by unfold pH3; rw [pNs_t hc5, pNv_t hc5, ← hpe5]; rfl
            refine zs_aload (ip' := 38) rfl rfl rfl ?_
            refine zs_aload (ip' := 39) rfl rfl rfl ?_
            refine zs_getI (ip' := 40) rfl rfl (by omega) zsh_197 rfl (q := 6) rfl ?_
            intro hl39 hu39
            rw [hn5] at hl39 hu39 ⊢
            refine zs_putI (ip' := 41) rfl rfl (by omega) (zsh_w0 hw) rfl (q := 4) rfl (by omega) ?_
            refine zW_gk ?_
            intro G9 e9 f9
            have hwb' : xRw w G5 G9 := xRw_k (by omega) hw f9
            have hwb : xRw w G G9 := xRw_t hw5 hwb'
            have hbb := xBu_rw hw hb5 hwb'
            have hsb : xTo G9 T m p5 := by unfold xTo; rw [f9 197 (by omega)]; exact hs5
            have g5 : ∀ k, 16 * w ≤ k → k < 16 * w + 16 → G5 k = Ga k := fun k a b => (hr5.1 k (by omega)).trans (hr4.1 k (by omega))
            have hRb : RXg G9 w (zp (zp (zp D0 0 (tV T m p1)) 1 (tV T m p2)) 2 (tV T m p4)) 0 := xHead_rx hz (by rw [f9 _ (by omega), g5 _ (by omega) (by omega)]; exact k1) (by rw [f9 _ (by omega), g5 _ (by omega) (by omega)]; exact k2) (by rw [e9, zp_eq]) (by rw [e9, zp_ne (by decide), g5 _ (by omega) (by omega)]; exact k7) (by rw [f9 _ (by omega), g5 _ (by omega) (by omega)]; exact k3) (by rw [f9 _ (by omega), g5 _ (by omega) (by omega)]; exact k4) (by rw [f9 _ (by omega), g5 _ (by omega) (by omega)]; exact k5) (fun h h0 h1 => by rw [f9 _ (by omega), g5 _ (by omega) (by omega)]; exact k6 h h0 h1)
            refine zs_aload (ip' := 42) rfl rfl rfl ?_
            refine zW_cR (ip' := 43) rfl rfl (cX_semi hN hbb hp5 hsb) rfl rfl (z_ok3 (by omega) zsh_197 rfl rfl rfl) ?_
            rintro v6 G6 F' n' hv6 ⟨hd6, rfl, rfl⟩
            have h01 : v6 = 0 ∨ v6 = 1 := hd6.elim (fun q => Or.inr q.1) (fun q => Or.inl q.1)
            refine zW_0b rfl (by omega) ?_
            rcases hd6 with ⟨rfl, hc6, hr6, hs6⟩ | ⟨rfl, hc6, rfl⟩
            · have ho : mOk (zp (zp (zp D0 0 (tV T m p1)) 1 (tV T m p2)) 2 (tV T m p4)) := xHead_ok hz hc2.2 hc3.2 hc5.2
              have hx : pHead T m (p, 0, -1, D0) = (tE T m p5, 0, -1, zp (zp (zp D0 0 (tV T m p1)) 1 (tV T m p2)) 2 (tV T m p4)) := by
                unfold pHead
                rw [e1, e2, e3, e4, e5]
                exact pTk_t hc6
              have hw6 : xRw w G G6 := xRw_t hwb (xRw_d hr6)
              have hR6 : RXg G6 w (zp (zp (zp D0 0 (tV T m p1)) 1 (tV T m p2)) 2 (tV T m p4)) 0 := RXg_fr hRb (fun k a b => hr6.1 k (by omega))
              exact ⟨1, rfl, by decide, Or.inl ⟨rfl, _, _, hx, xBu_rt hbb hr6, tE_in hp5, hs6, hw6, ho, hR6⟩, rfl, rfl⟩
            · have hx : xWr (pHead T m (p, 0, -1, D0)) (tB T m p5) := by
                unfold pHead
                rw [e1, e2, e3, e4, e5]
                exact (by rw [show pSemi T m (p5, 0, -1, zp (zp (zp D0 0 (tV T m p1)) 1 (tV T m p2)) 2 (tV T m p4)) = _ from pTk_f hc6]; exact ⟨rfl, rfl⟩)
              exact ⟨0, rfl, by decide, Or.inr ⟨rfl, hx.1, hx.2.trans hsb.1.symm, hwb⟩, rfl, rfl⟩
          · intro h34
            obtain ⟨-, hc5, rfl⟩ := hd5.resolve_left (fun q => absurd (q.1.symm.trans h34) (by decide))
            refine zs_pushI (ip' := 36) rfl rfl zi_k0 ?_
            refine zW_0b rfl (Or.inl rfl) ?_
            have hx : xWr (pHead T m (p, 0, -1, D0)) (tB T m p4) := by
              unfold pHead
              rw [e1, e2, e3, e4]
              exact xWr_semi (x := pH3 T m (p4, 0, -1, zp (zp D0 0 (tV T m p1)) 1 (tV T m p2))) (show xWr (pNs T m (p4, 0, -1, zp (zp D0 0 (tV T m p1)) 1 (tV T m p2)) 0 20) _ from by rw [pNs_f hc5]; exact ⟨rfl, rfl⟩)
            exact ⟨0, rfl, by decide, Or.inr ⟨rfl, hx.1, hx.2.trans hs4.1.symm, hw4⟩, rfl, rfl⟩
      · intro h18
        obtain ⟨-, hc3, rfl⟩ := hd3.resolve_left (fun q => absurd (q.1.symm.trans h18) (by decide))
        refine zs_pushI (ip' := 20) rfl rfl zi_k0 ?_
        refine zW_0b rfl (Or.inl rfl) ?_
        have hx : xWr (pHead T m (p, 0, -1, D0)) (tB T m p2) := by
          unfold pHead
          rw [e1, e2]
          exact xWr_semi (xWr_h3 (xWr_tk (x := pH2 T m (p2, 0, -1, zp D0 0 (tV T m p1))) (show xWr (pNs T m (p2, 0, -1, zp D0 0 (tV T m p1)) 2 12) _ from by rw [pNs_f hc3]; exact ⟨rfl, rfl⟩)))
        exact ⟨0, rfl, by decide, Or.inr ⟨rfl, hx.1, hx.2.trans hs2.1.symm, hw2⟩, rfl, rfl⟩
    · intro h8
      obtain ⟨-, hc2, rfl⟩ := hd2.resolve_left (fun q => absurd (q.1.symm.trans h8) (by decide))
      refine zs_pushI (ip' := 10) rfl rfl zi_k0 ?_
      refine zW_0b rfl (Or.inl rfl) ?_
      have hx : xWr (pHead T m (p, 0, -1, D0)) (tB T m p1) := by
        unfold pHead
        rw [e1]
        exact xWr_semi (xWr_h3 (xWr_tk (xWr_h2 (x := pH1 T m (p1, 0, -1, D0)) (show xWr (pNs T m (p1, 0, -1, D0) 2 12) _ from by rw [pNs_f hc2]; exact ⟨rfl, rfl⟩))))
      exact ⟨0, rfl, by decide, Or.inr ⟨rfl, hx.1, hx.2.trans hs1.1.symm, hw1⟩, rfl, rfl⟩
