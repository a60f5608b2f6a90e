/-! The reference model: ticks, and the simple calls (printed by wip/whole/src20.py). -/
/-- c places of a row, from p on, laid into another at q -/
def zlr (a b : Int → Int) (p q c : Int) : Int → Int := fun j => if q ≤ j ∧ j < q + c then a (p + (j - q)) else b j
theorem zlr_0 (a b : Int → Int) (p q : Int) : zlr a b p q 0 = b := by
  funext j
  unfold zlr
  rw [if_neg (by omega)]
theorem zlr_s (a b : Int → Int) (p q : Int) {c : Int} (hc : 0 ≤ c) : zp (zlr a b p q c) (q + c) (a (p + c)) = zlr a b p q (c + 1) := by
  funext j
  unfold zp zlr
  by_cases e : j = q + c
  · rw [if_pos e, if_pos (by omega), e, show p + (q + c - q) = p + c by omega]
  · rw [if_neg e]
    by_cases e2 : q ≤ j ∧ j < q + c
    · rw [if_pos e2, if_pos (by omega)]
    · rw [if_neg e2, if_neg (by omega)]
theorem zlr_in {a b : Int → Int} {p q c j : Int} (h : q ≤ j ∧ j < q + c) : zlr a b p q c j = a (p + (j - q)) := if_pos h
theorem zlr_out {a b : Int → Int} {p q c j : Int} (h : ¬ (q ≤ j ∧ j < q + c)) : zlr a b p q c j = b j := if_neg h
theorem cM_layRow_l {N : Nat} {F : GM} {n : Nat} {G0 : GM} {a b na nb : Nat} (ha : z_sh a = (1, na, [])) (haN : a < N) (hb : z_sh b = (1, nb, [])) (hbN : b < N) {p q : Int} (hp : 0 ≤ p ∧ p + 256 ≤ na ∧ p ≤ 100000) (hq : 0 ≤ q ∧ q + 256 ≤ nb ∧ q ≤ 100000) (hd : a ≠ b ∨ q + 256 ≤ p) : ∀ (d : Nat) (k : Nat) (G : GM), 256 - (k : Int) < (d : Int) → (k : Int) ≤ 256 → G = zk G0 b (zlr (G0 a) (G0 b) p q k) → zW N 4 2 [.ref a, .int (zi p), .ref b, .int (zi q), .int (zi (k : Int))] [] G F n (zV fun G' F' n' => G' = zk G0 b (zlr (G0 a) (G0 b) p q 256) ∧ F' = F ∧ n' = n) := by
  intro d
  induction d with
  | zero =>
    intro k G hk hj hG
    exact absurd hk (by omega)
  | succ d ih =>
    intro k G hk hj hG
    have e : G b = zlr (G0 a) (G0 b) p q k := by rw [hG, zk_eq]
    have ea : (k : Int) < 256 → G a (p + k) = G0 a (p + k) := by
      intro h
      by_cases e2 : a = b
      · rw [e2, e, zlr_out (by rcases hd with h3 | h3; exact absurd e2 h3; omega)]
      · rw [hG, zk_ne e2]
    refine zs_iload (ip' := 3) rfl rfl rfl ?_
    refine zs_pushI (ip' := 4) rfl rfl zi_k256 ?_
    refine zs_icmp_ge (t := 17) (ip' := 5) rfl rfl (by omega) (by omega) ?_ ?_
    · intro h4
      refine zW_1 rfl ?_
      exact ⟨rfl, by rw [hG, show (k : Int) = 256 by omega], rfl, rfl⟩
    · intro h4
      refine zs_aload (ip' := 6) rfl rfl rfl ?_
      refine zs_iload (ip' := 7) rfl rfl rfl ?_
      refine zs_iload (ip' := 8) rfl rfl rfl ?_
      refine zs_iadd (ip' := 9) rfl rfl ?_
      refine zs_aload (ip' := 10) rfl rfl rfl ?_
      refine zs_iload (ip' := 11) rfl rfl rfl ?_
      refine zs_iload (ip' := 12) rfl rfl rfl ?_
      refine zs_iadd (ip' := 13) rfl rfl ?_
      refine zs_iald (ip' := 14) rfl rfl haN ha (by omega) ?_
      intro hl13 hu13
      refine zs_iast (ip' := 15) rfl rfl hbN hb (by omega) (by omega) ?_
      rw [ea (by omega), e, zlr_s _ _ _ _ (by omega)]
      refine zs_iinc4 (ip' := 16) rfl rfl zi_k1 ?_
      refine zs_goto (t := 2) rfl ?_
      exact ih (k + 1) _ (by omega) (by omega) (by rw [hG, zk_zk]; rfl)
theorem cM_layRow {N : Nat} {G F : GM} {n : Nat} {a b na nb : Nat} (ha : z_sh a = (1, na, [])) (haN : a < N) (hb : z_sh b = (1, nb, [])) (hbN : b < N) {p q : Int} (hp : 0 ≤ p ∧ p + 256 ≤ na ∧ p ≤ 100000) (hq : 0 ≤ q ∧ q + 256 ≤ nb ∧ q ≤ 100000) (hd : a ≠ b ∨ q + 256 ≤ p) : zC N 4 [.ref a, .int (zi p), .ref b, .int (zi q)] G F n (zV fun G' F' n' => G' = zk G b (zlr (G a) (G b) p q 256) ∧ F' = F ∧ n' = n) := by
  refine zC_i (L0 := [.ref a, .int (zi p), .ref b, .int (zi q), .null]) rfl ?_
  refine zs_pushI (ip' := 1) rfl rfl zi_k0 ?_
  refine zs_istore4 (ip' := 2) rfl rfl ?_
  exact cM_layRow_l (G0 := G) ha haN hb hbN hp hq hd 257 0 G (by omega) (by omega) (by rw [show ((0 : Nat) : Int) = 0 from rfl, zlr_0, zk_self])
theorem cM_takesSpare {N : Nat} {G F : GM} {n : Nat} (hN : 241 ≤ N) : zC N 5 [.ref 230] G F n (zV fun G' F' n' => G' = zk G 233 (zlr (G 231) (G 233) 0 0 256) ∧ F' = F ∧ n' = n) := by
  refine zC_i (L0 := [.ref 230]) rfl ?_
  refine zs_aload (ip' := 1) rfl rfl rfl ?_
  refine zs_getR (ip' := 2) rfl rfl (r := 231) (by omega) zsh_230 rfl ?_
  refine zs_pushI (ip' := 3) rfl rfl zi_k0 ?_
  refine zs_aload (ip' := 4) rfl rfl rfl ?_
  refine zs_getR (ip' := 5) rfl rfl (r := 233) (by omega) zsh_230 rfl ?_
  refine zs_pushI (ip' := 6) rfl rfl zi_k0 ?_
  refine zW_cV (ip' := 7) rfl rfl (cM_layRow zsh_231 (by omega) zsh_233 (by omega) (by omega) (by omega) (Or.inl (by decide))) rfl rfl rfl ?_
  rintro G' F' n' ⟨rfl, rfl, rfl⟩
  refine zW_1 rfl ?_
  exact ⟨rfl, rfl, rfl, rfl⟩
theorem cM_ticks_l {N : Nat} {F : GM} {n : Nat} {G0 : GM} (hN : 241 ≤ N) {r : Nat} (hr : z_sh r = (1, 256, [])) (hrN : r < N) (hro : r ≠ 230 ∧ r ≠ 238 ∧ r ≠ 239) (hok0 : mOk (G0 r)) (ht : G0 r 3 < 30000) : ∀ (d : Nat) (k : Nat) (G : GM), G0 r 5 - k < (d : Int) → (k : Int) ≤ G0 r 5 → (∃ A B f l', G = zBf (zk G0 r (sTickR (G0 r) k)) A B f l') → zW N 41 9 [.ref 230, .ref r, .int (zi (k : Int))] [] G F n (zV fun G' F' n' => ∃ A B f l', G' = zBf (zk G0 r (sTick (G0 r))) A B f l' ∧ F' = F ∧ n' = n) := by
  intro d
  induction d with
  | zero =>
    intro k G hd hj hG
    exact absurd hd (by omega)
  | succ d ih =>
    intro k G hd hj hG
    obtain ⟨A, B, f, l', hG⟩ := hG
    have e : G r = sTickR (G0 r) k := by rw [hG, zBf_o hro, zk_eq]
    obtain ⟨hok, z1, g1⟩ := sTickR_ok hok0 ht k hj
    rw [← e] at hok z1 g1
    have z5 : G r 5 = G0 r 5 := z1.2.2.2.2.2.1.trans (zp_ne (by omega))
    have z3 : G r 3 = G0 r 3 + 1 := z1.2.2.2.1.trans (zp_eq _ _ _)
    have b5 := hok.2.2.2.2.2.1
    refine zs_iload (ip' := 10) rfl rfl rfl ?_
    refine zs_aload (ip' := 11) rfl rfl rfl ?_
    refine zs_pushI (ip' := 12) rfl rfl zi_k5 ?_
    refine zs_iald (ip' := 13) rfl rfl hrN hr (by omega) ?_
    intro hl12 hu12
    refine zs_icmp_ge (t := 26) (ip' := 14) rfl rfl (by omega) (by omega) ?_ ?_
    · intro h13
      refine zW_1 rfl ?_
      exact ⟨rfl, A, B, f, l', by rw [hG, show k = (G0 r 5).toNat by omega]; rfl, rfl, rfl⟩
    · intro h13
      refine zs_aload (ip' := 15) rfl rfl rfl ?_
      refine zs_iload (ip' := 16) rfl rfl rfl ?_
      refine zs_pushI (ip' := 17) rfl rfl zi_k2 ?_
      refine zW_cP (ip' := 18) rfl rfl cM_walkerAt rfl rfl rfl ?_
      refine zs_iald (ip' := 19) rfl rfl hrN hr (by omega) ?_
      intro hl18 hu18
      refine zs_if_ne (t := 24) (ip' := 20) rfl rfl (by omega) ?_ ?_
      · intro h19
        refine zs_iinc2 (ip' := 25) rfl rfl zi_k1 ?_
        refine zs_goto (t := 9) rfl ?_
        exact ih (k + 1) G (by omega) (by omega) ⟨A, B, f, l', by rw [show sTickR (G0 r) (k + 1) = sTickR (G0 r) k from if_neg (by rw [← e]; exact h19)]; exact hG⟩
      · intro h19
        have h6 : G r (214 + 7 * (k : Int) + 6) < G r 3 := by
          rw [g1 k (by omega) (by omega), z3]
          have := (hok0.2.2.2.2.2.2.2.2.2 k (by omega) (by omega)).2.2.2.2
          omega
        refine zs_aload (ip' := 21) rfl rfl rfl ?_
        refine zs_aload (ip' := 22) rfl rfl rfl ?_
        refine zs_iload (ip' := 23) rfl rfl rfl ?_
        refine zW_cV (ip' := 24) rfl rfl (cM_acts hN hr hrN hro hok (by omega) (by omega) h6) rfl rfl (z_ok3 (by omega) zsh_230 rfl rfl rfl) ?_
        rintro G' F' n' ⟨A2, B2, f2, l2, rfl, rfl, rfl⟩
        refine zs_iinc2 (ip' := 25) rfl rfl zi_k1 ?_
        refine zs_goto (t := 9) rfl ?_
        have e3 : sTickR (G0 r) (k + 1) = sAct (sTickR (G0 r) k) k := if_pos (by rw [← e]; exact h19)
        have e4 : zk G r (sAct (G r) k) = zBf (zk G0 r (sAct (G r) k)) A B f l' := by
          generalize sAct (G r) k = Y
          rw [hG, zBf_r hro, zk_zk]
        exact ih (k + 1) _ (by omega) (by omega) ⟨A2, B2, f2, l2, by rw [e4, zBf_zBf, e3, ← e]⟩
theorem cM_ticks {N : Nat} {G F : GM} {n : Nat} (hN : 241 ≤ N) {r : Nat} (hr : z_sh r = (1, 256, [])) (hrN : r < N) (hro : r ≠ 230 ∧ r ≠ 238 ∧ r ≠ 239) (hok : mOk (G r)) (ht : G r 3 < 30000) : zC N 41 [.ref 230, .ref r] G F n (zV fun G' F' n' => ∃ A B f l', G' = zBf (zk G r (sTick (G r))) A B f l' ∧ F' = F ∧ n' = n) := by
  have h5 := hok.2.2.2.2.2.1
  have h3 := hok.2.2.2.1
  refine zC_i (L0 := [.ref 230, .ref r, .null]) rfl ?_
  refine zs_aload (ip' := 1) rfl rfl rfl ?_
  refine zs_pushI (ip' := 2) rfl rfl zi_k3 ?_
  refine zs_dup2 (ip' := 3) rfl rfl ?_
  refine zs_iald (ip' := 4) rfl rfl hrN hr (by omega) ?_
  intro hl3 hu3
  refine zs_pushI (ip' := 5) rfl rfl zi_k1 ?_
  refine zs_iadd (ip' := 6) rfl rfl ?_
  refine zs_iast (ip' := 7) rfl rfl hrN hr (by omega) (by omega) ?_
  refine zs_pushI (ip' := 8) rfl rfl zi_k0 ?_
  refine zs_istore2 (ip' := 9) rfl rfl ?_
  exact cM_ticks_l (G0 := G) hN hr hrN hro hok ht 7 0 _ (by omega) (by omega) (zBf_ex _)
theorem cM_ticksMany_l {N : Nat} {F : GM} {n : Nat} {G0 : GM} (hN : 241 ≤ N) {r : Nat} (hr : z_sh r = (1, 256, [])) (hrN : r < N) (hro : r ≠ 230 ∧ r ≠ 238 ∧ r ≠ 239) (hok0 : mOk (G0 r)) {q : Int} (hq : 0 ≤ q) (ht : G0 r 3 + q ≤ 30000) : ∀ (d : Nat) (k : Nat) (G : GM), q - k < (d : Int) → (k : Int) ≤ q → (∃ A B f l', G = zBf (zk G0 r (sTicks (G0 r) k)) A B f l') → zW N 42 2 [.ref 230, .ref r, .int (zi q), .int (zi (k : Int))] [] G F n (zV fun G' F' n' => ∃ A B f l', G' = zBf (zk G0 r (sTicks (G0 r) q.toNat)) A B f l' ∧ F' = F ∧ n' = n) := by
  intro d
  induction d with
  | zero =>
    intro k G hd hj hG
    exact absurd hd (by omega)
  | succ d ih =>
    intro k G hd hj hG
    obtain ⟨A, B, f, l', hG⟩ := hG
    have e : G r = sTicks (G0 r) k := by rw [hG, zBf_o hro, zk_eq]
    obtain ⟨hok, z1⟩ := sTicks_ok hok0 k (by omega)
    rw [← e] at hok z1
    have z3 : G r 3 = G0 r 3 + k := z1.2.2.2.1.trans (zp_eq _ _ _)
    have b3 := hok0.2.2.2.1
    refine zs_iload (ip' := 3) rfl rfl rfl ?_
    refine zs_iload (ip' := 4) rfl rfl rfl ?_
    refine zs_icmp_ge (t := 10) (ip' := 5) rfl rfl (by omega) (by omega) ?_ ?_
    · intro h4
      refine zW_1 rfl ?_
      exact ⟨rfl, A, B, f, l', by rw [hG, show k = q.toNat by omega], rfl, rfl⟩
    · intro h4
      refine zs_aload (ip' := 6) rfl rfl rfl ?_
      refine zs_aload (ip' := 7) rfl rfl rfl ?_
      refine zW_cV (ip' := 8) rfl rfl (cM_ticks hN hr hrN hro hok (by omega)) rfl rfl (z_ok3 (by omega) zsh_230 rfl rfl rfl) ?_
      rintro G' F' n' ⟨A2, B2, f2, l2, rfl, rfl, rfl⟩
      refine zs_iinc3 (ip' := 9) rfl rfl zi_k1 ?_
      refine zs_goto (t := 2) rfl ?_
      have e4 : zk G r (sTick (G r)) = zBf (zk G0 r (sTick (G r))) A B f l' := by
        generalize sTick (G r) = Y
        rw [hG, zBf_r hro, zk_zk]
      have e3 : sTicks (G0 r) (k + 1) = sTick (sTicks (G0 r) k) := rfl
      exact ih (k + 1) _ (by omega) (by omega) ⟨A2, B2, f2, l2, by rw [e4, zBf_zBf, e3, ← e]⟩
theorem cM_ticksMany {N : Nat} {G F : GM} {n : Nat} (hN : 241 ≤ N) {r : Nat} (hr : z_sh r = (1, 256, [])) (hrN : r < N) (hro : r ≠ 230 ∧ r ≠ 238 ∧ r ≠ 239) (hok : mOk (G r)) {q : Int} (hq : 0 ≤ q) (ht : G r 3 + q ≤ 30000) : zC N 42 [.ref 230, .ref r, .int (zi q)] G F n (zV fun G' F' n' => ∃ A B f l', G' = zBf (zk G r (sTicks (G r) q.toNat)) A B f l' ∧ F' = F ∧ n' = n) := by
  refine zC_i (L0 := [.ref 230, .ref r, .int (zi q), .null]) rfl ?_
  refine zs_pushI (ip' := 1) rfl rfl zi_k0 ?_
  refine zs_istore3 (ip' := 2) rfl rfl ?_
  exact cM_ticksMany_l (G0 := G) hN hr hrN hro hok hq ht (q.toNat + 1) 0 _ (by omega) (by omega) (by obtain ⟨A, B, f, l', h⟩ := zBf_ex G; exact ⟨A, B, f, l', by rw [show sTicks (G r) 0 = G r from rfl, zk_self]; exact h⟩)
/-- the model after a call that changes nothing that calls show -/
def zMk (G G' : GM) (t : Int) : Prop := (∀ k, k ≠ 230 → k ≠ 233 → k ≠ 238 → k ≠ 239 → G' k = G k) ∧ (∀ j, j ≠ 10 → j ≠ 13 → j ≠ 14 → G' 230 j = G 230 j) ∧ G' 230 10 = t
section MK
variable {G G1 F : GM} {t t0 v : Int} {n : Nat}
theorem zMk_0 : zMk G (zk G 230 (zp (G 230) 10 t)) t := ⟨fun k h _ _ _ => zk_ne h, fun j h _ _ => by rw [zk_eq]; exact zp_ne h, by rw [zk_eq]; exact zp_eq _ _ _⟩
theorem zMk_t (h : zMk G G1 t0) : zMk G (zk G1 230 (zp (G1 230) 10 t)) t := ⟨fun k h0 h1 h2 h3 => (zk_ne h0).trans (h.1 k h0 h1 h2 h3), fun j h0 h1 h2 => by rw [zk_eq, zp_ne h0]; exact h.2.1 j h0 h1 h2, by rw [zk_eq]; exact zp_eq _ _ _⟩
theorem zMk_b {A B : Int → Int} {f l : Int} (h : zMk G G1 t) : zMk G (zBf G1 A B f l) t := ⟨fun k h0 h1 h2 h3 => (zBf_o ⟨h0, h2, h3⟩).trans (h.1 k h0 h1 h2 h3), fun j h0 h1 h2 => (zBf_f ⟨h1, h2⟩).trans (h.2.1 j h0 h1 h2), (zBf_f ⟨by decide, by decide⟩).trans h.2.2⟩
theorem zMk_s {Y : Int → Int} (h : zMk G G1 t) : zMk G (zk G1 233 Y) t := ⟨fun k h0 h1 h2 h3 => (zk_ne h1).trans (h.1 k h0 h1 h2 h3), fun j h0 h1 h2 => by rw [zk_ne (by decide)]; exact h.2.1 j h0 h1 h2, by rw [zk_ne (by decide)]; exact h.2.2⟩
theorem zMk_r (h : zMk G G1 t) : G1 231 = G 231 := h.1 231 (by decide) (by decide) (by decide) (by decide)
/-- what it throws and what it answers -/
def zQm (G F : GM) (n : Nat) (q : Int × Int) : Zq := fun o G' F' n' => o = .inl (some (.int (zi q.2))) ∧ zMk G G' q.1 ∧ F' = F ∧ n' = n
theorem zQ_ok {q : Int × Int} (h : zMk G G1 0) (hq : q = (0, v)) : zQm G F n q (.inl (some (.int (zi v)))) G1 F n := by
  subst hq
  exact ⟨rfl, h, rfl, rfl⟩
theorem zQ_no {q : Int × Int} (h : zMk G G1 t0) (hq : q = (t, 0)) : zQm G F n q (.inl (some (.int (zi 0)))) (zk G1 230 (zp (G1 230) 10 t)) F n := by
  subst hq
  exact ⟨rfl, zMk_t h, rfl, rfl⟩
end MK
theorem cP_width {N : Nat} {G F : GM} {n : Nat} (hN : 241 ≤ N) (hok : mOk (G 231)) : zC N 66 [.ref 230] G F n (zQm G F n (((0 : Int), G 231 0))) := by
  refine zC_i (L0 := [.ref 230]) rfl ?_
  refine zs_aload (ip' := 1) rfl rfl rfl ?_
  refine zs_pushI (ip' := 2) rfl rfl zi_k0 ?_
  refine zs_putI (ip' := 3) rfl rfl (by omega) zsh_230 rfl (q := 10) rfl (by omega) ?_
  have hm := zMk_0 (G := G) (t := 0)
  generalize zk G 230 (zp (G 230) 10 0) = G1 at hm ⊢
  have e1 := zMk_r hm
  rw [← e1] at hok ⊢
  have b0 := hok.1
  have b1 := hok.2.1
  have b4 := hok.2.2.2.2.1
  have b5 := hok.2.2.2.2.2.1
  refine zs_aload (ip' := 4) rfl rfl rfl ?_
  refine zs_getR (ip' := 5) rfl rfl (r := 231) (by omega) zsh_230 rfl ?_
  refine zs_pushI (ip' := 6) rfl rfl zi_k0 ?_
  refine zs_iald (ip' := 7) rfl rfl (by omega) zsh_231 (by omega) ?_
  intro hl6 hu6
  refine zW_0 rfl ?_
  exact zQ_ok hm (rfl)
theorem cP_height {N : Nat} {G F : GM} {n : Nat} (hN : 241 ≤ N) (hok : mOk (G 231)) : zC N 67 [.ref 230] G F n (zQm G F n (((0 : Int), G 231 1))) := by
  refine zC_i (L0 := [.ref 230]) rfl ?_
  refine zs_aload (ip' := 1) rfl rfl rfl ?_
  refine zs_pushI (ip' := 2) rfl rfl zi_k0 ?_
  refine zs_putI (ip' := 3) rfl rfl (by omega) zsh_230 rfl (q := 10) rfl (by omega) ?_
  have hm := zMk_0 (G := G) (t := 0)
  generalize zk G 230 (zp (G 230) 10 0) = G1 at hm ⊢
  have e1 := zMk_r hm
  rw [← e1] at hok ⊢
  have b0 := hok.1
  have b1 := hok.2.1
  have b4 := hok.2.2.2.2.1
  have b5 := hok.2.2.2.2.2.1
  refine zs_aload (ip' := 4) rfl rfl rfl ?_
  refine zs_getR (ip' := 5) rfl rfl (r := 231) (by omega) zsh_230 rfl ?_
  refine zs_pushI (ip' := 6) rfl rfl zi_k1 ?_
  refine zs_iald (ip' := 7) rfl rfl (by omega) zsh_231 (by omega) ?_
  intro hl6 hu6
  refine zW_0 rfl ?_
  exact zQ_ok hm (rfl)
theorem cP_time {N : Nat} {G F : GM} {n : Nat} (hN : 241 ≤ N) (hok : mOk (G 231)) : zC N 76 [.ref 230] G F n (zQm G F n (((0 : Int), G 231 3))) := by
  refine zC_i (L0 := [.ref 230]) rfl ?_
  refine zs_aload (ip' := 1) rfl rfl rfl ?_
  refine zs_pushI (ip' := 2) rfl rfl zi_k0 ?_
  refine zs_putI (ip' := 3) rfl rfl (by omega) zsh_230 rfl (q := 10) rfl (by omega) ?_
  have hm := zMk_0 (G := G) (t := 0)
  generalize zk G 230 (zp (G 230) 10 0) = G1 at hm ⊢
  have e1 := zMk_r hm
  rw [← e1] at hok ⊢
  have b0 := hok.1
  have b1 := hok.2.1
  have b4 := hok.2.2.2.2.1
  have b5 := hok.2.2.2.2.2.1
  refine zs_aload (ip' := 4) rfl rfl rfl ?_
  refine zs_getR (ip' := 5) rfl rfl (r := 231) (by omega) zsh_230 rfl ?_
  refine zs_pushI (ip' := 6) rfl rfl zi_k3 ?_
  refine zs_iald (ip' := 7) rfl rfl (by omega) zsh_231 (by omega) ?_
  intro hl6 hu6
  refine zW_0 rfl ?_
  exact zQ_ok hm (rfl)
theorem cP_clearness {N : Nat} {G F : GM} {n : Nat} (hN : 241 ≤ N) (hok : mOk (G 231)) : zC N 77 [.ref 230] G F n (zQm G F n (((0 : Int), G 231 2))) := by
  refine zC_i (L0 := [.ref 230]) rfl ?_
  refine zs_aload (ip' := 1) rfl rfl rfl ?_
  refine zs_pushI (ip' := 2) rfl rfl zi_k0 ?_
  refine zs_putI (ip' := 3) rfl rfl (by omega) zsh_230 rfl (q := 10) rfl (by omega) ?_
  have hm := zMk_0 (G := G) (t := 0)
  generalize zk G 230 (zp (G 230) 10 0) = G1 at hm ⊢
  have e1 := zMk_r hm
  rw [← e1] at hok ⊢
  have b0 := hok.1
  have b1 := hok.2.1
  have b4 := hok.2.2.2.2.1
  have b5 := hok.2.2.2.2.2.1
  refine zs_aload (ip' := 4) rfl rfl rfl ?_
  refine zs_getR (ip' := 5) rfl rfl (r := 231) (by omega) zsh_230 rfl ?_
  refine zs_pushI (ip' := 6) rfl rfl zi_k2 ?_
  refine zs_iald (ip' := 7) rfl rfl (by omega) zsh_231 (by omega) ?_
  intro hl6 hu6
  refine zW_0 rfl ?_
  exact zQ_ok hm (rfl)
theorem cP_lightCount {N : Nat} {G F : GM} {n : Nat} (hN : 241 ≤ N) (hok : mOk (G 231)) : zC N 80 [.ref 230] G F n (zQm G F n (((0 : Int), G 231 4))) := by
  refine zC_i (L0 := [.ref 230]) rfl ?_
  refine zs_aload (ip' := 1) rfl rfl rfl ?_
  refine zs_pushI (ip' := 2) rfl rfl zi_k0 ?_
  refine zs_putI (ip' := 3) rfl rfl (by omega) zsh_230 rfl (q := 10) rfl (by omega) ?_
  have hm := zMk_0 (G := G) (t := 0)
  generalize zk G 230 (zp (G 230) 10 0) = G1 at hm ⊢
  have e1 := zMk_r hm
  rw [← e1] at hok ⊢
  have b0 := hok.1
  have b1 := hok.2.1
  have b4 := hok.2.2.2.2.1
  have b5 := hok.2.2.2.2.2.1
  refine zs_aload (ip' := 4) rfl rfl rfl ?_
  refine zs_getR (ip' := 5) rfl rfl (r := 231) (by omega) zsh_230 rfl ?_
  refine zs_pushI (ip' := 6) rfl rfl zi_k4 ?_
  refine zs_iald (ip' := 7) rfl rfl (by omega) zsh_231 (by omega) ?_
  intro hl6 hu6
  refine zW_0 rfl ?_
  exact zQ_ok hm (rfl)
theorem cP_travellerCount {N : Nat} {G F : GM} {n : Nat} (hN : 241 ≤ N) (hok : mOk (G 231)) : zC N 90 [.ref 230] G F n (zQm G F n (((0 : Int), G 231 5))) := by
  refine zC_i (L0 := [.ref 230]) rfl ?_
  refine zs_aload (ip' := 1) rfl rfl rfl ?_
  refine zs_pushI (ip' := 2) rfl rfl zi_k0 ?_
  refine zs_putI (ip' := 3) rfl rfl (by omega) zsh_230 rfl (q := 10) rfl (by omega) ?_
  have hm := zMk_0 (G := G) (t := 0)
  generalize zk G 230 (zp (G 230) 10 0) = G1 at hm ⊢
  have e1 := zMk_r hm
  rw [← e1] at hok ⊢
  have b0 := hok.1
  have b1 := hok.2.1
  have b4 := hok.2.2.2.2.1
  have b5 := hok.2.2.2.2.2.1
  refine zs_aload (ip' := 4) rfl rfl rfl ?_
  refine zs_getR (ip' := 5) rfl rfl (r := 231) (by omega) zsh_230 rfl ?_
  refine zs_pushI (ip' := 6) rfl rfl zi_k5 ?_
  refine zs_iald (ip' := 7) rfl rfl (by omega) zsh_231 (by omega) ?_
  intro hl6 hu6
  refine zW_0 rfl ?_
  exact zQ_ok hm (rfl)
def q_isWater (s : Int → Int) (x y : Int) : Int × Int := if sIn s x y then (0, zb (s (30 + 12 * y + x) = 1)) else (1, 0)
theorem cP_isWater {N : Nat} {G F : GM} {n : Nat} (hN : 241 ≤ N) (hok : mOk (G 231)) {x y : Int} (hx : zr x) (hy : zr y) : zC N 68 [.ref 230, .int (zi x), .int (zi y)] G F n (zQm G F n (q_isWater (G 231) x y)) := by
  refine zC_i (L0 := [.ref 230, .int (zi x), .int (zi y)]) rfl ?_
  refine zs_aload (ip' := 1) rfl rfl rfl ?_
  refine zs_pushI (ip' := 2) rfl rfl zi_k0 ?_
  refine zs_putI (ip' := 3) rfl rfl (by omega) zsh_230 rfl (q := 10) rfl (by omega) ?_
  have hm := zMk_0 (G := G) (t := 0)
  generalize zk G 230 (zp (G 230) 10 0) = G1 at hm ⊢
  have e1 := zMk_r hm
  rw [← e1] at hok ⊢
  have b0 := hok.1
  have b1 := hok.2.1
  have b4 := hok.2.2.2.2.1
  have b5 := hok.2.2.2.2.2.1
  refine zs_aload (ip' := 4) rfl rfl rfl ?_
  refine zs_iload (ip' := 5) rfl rfl rfl ?_
  refine zs_iload (ip' := 6) rfl rfl rfl ?_
  refine zW_cP (ip' := 7) rfl rfl (cM_isCell hN (by omega) (by omega) hx hy) rfl rfl (z_ok3 (by omega) zsh_230 rfl rfl rfl) ?_
  refine zs_if_eqB (t := 20) (ip' := 8) rfl rfl ?_ ?_
  · intro h7
    refine zs_aload (ip' := 21) rfl rfl rfl ?_
    refine zs_pushI (ip' := 22) rfl rfl zi_k1 ?_
    refine zW_cR (ip' := 23) rfl rfl (cM_isFailed hN (by decide)) rfl rfl (z_ok3 (by omega) zsh_230 rfl rfl rfl) ?_
    rintro v G' F' n' _ ⟨rfl, rfl, rfl, rfl⟩
    refine zW_0b rfl (Or.inl rfl) ?_
    exact zQ_no hm (if_neg h7)
  · intro h7
    obtain ⟨⟨x0, x1⟩, y0, y1⟩ := id h7
    refine zs_aload (ip' := 9) rfl rfl rfl ?_
    refine zs_getR (ip' := 10) rfl rfl (r := 231) (by omega) zsh_230 rfl ?_
    refine zs_iload (ip' := 11) rfl rfl rfl ?_
    refine zs_iload (ip' := 12) rfl rfl rfl ?_
    refine zW_cP (ip' := 13) rfl rfl cM_cellAt rfl rfl rfl ?_
    refine zs_iald (ip' := 14) rfl rfl (by omega) zsh_231 (by omega) ?_
    intro hl13 hu13
    refine zs_pushI (ip' := 15) rfl rfl zi_k1 ?_
    refine zs_icmp_ne (t := 18) (ip' := 16) rfl rfl (by omega) (by omega) ?_ ?_
    · intro h15
      refine zs_pushI (ip' := 19) rfl rfl zi_k0 ?_
      refine zs_goto (t := 23) rfl ?_
      refine zW_0b rfl (Or.inl rfl) ?_
      exact zQ_ok hm ((if_pos h7).trans (by rw [zb_f (by omega)]))
    · intro h15
      refine zs_pushI (ip' := 17) rfl rfl zi_k1 ?_
      refine zs_goto (t := 23) rfl ?_
      refine zW_0b rfl (Or.inr rfl) ?_
      exact zQ_ok hm ((if_pos h7).trans (by rw [zb_t (by omega)]))
def q_isHut (s : Int → Int) (x y : Int) : Int × Int := if sIn s x y then (0, zb (s (30 + 12 * y + x) = 2)) else (1, 0)
theorem cP_isHut {N : Nat} {G F : GM} {n : Nat} (hN : 241 ≤ N) (hok : mOk (G 231)) {x y : Int} (hx : zr x) (hy : zr y) : zC N 69 [.ref 230, .int (zi x), .int (zi y)] G F n (zQm G F n (q_isHut (G 231) x y)) := by
  refine zC_i (L0 := [.ref 230, .int (zi x), .int (zi y)]) rfl ?_
  refine zs_aload (ip' := 1) rfl rfl rfl ?_
  refine zs_pushI (ip' := 2) rfl rfl zi_k0 ?_
  refine zs_putI (ip' := 3) rfl rfl (by omega) zsh_230 rfl (q := 10) rfl (by omega) ?_
  have hm := zMk_0 (G := G) (t := 0)
  generalize zk G 230 (zp (G 230) 10 0) = G1 at hm ⊢
  have e1 := zMk_r hm
  rw [← e1] at hok ⊢
  have b0 := hok.1
  have b1 := hok.2.1
  have b4 := hok.2.2.2.2.1
  have b5 := hok.2.2.2.2.2.1
  refine zs_aload (ip' := 4) rfl rfl rfl ?_
  refine zs_iload (ip' := 5) rfl rfl rfl ?_
  refine zs_iload (ip' := 6) rfl rfl rfl ?_
  refine zW_cP (ip' := 7) rfl rfl (cM_isCell hN (by omega) (by omega) hx hy) rfl rfl (z_ok3 (by omega) zsh_230 rfl rfl rfl) ?_
  refine zs_if_eqB (t := 20) (ip' := 8) rfl rfl ?_ ?_
  · intro h7
    refine zs_aload (ip' := 21) rfl rfl rfl ?_
    refine zs_pushI (ip' := 22) rfl rfl zi_k1 ?_
    refine zW_cR (ip' := 23) rfl rfl (cM_isFailed hN (by decide)) rfl rfl (z_ok3 (by omega) zsh_230 rfl rfl rfl) ?_
    rintro v G' F' n' _ ⟨rfl, rfl, rfl, rfl⟩
    refine zW_0b rfl (Or.inl rfl) ?_
    exact zQ_no hm (if_neg h7)
  · intro h7
    obtain ⟨⟨x0, x1⟩, y0, y1⟩ := id h7
    refine zs_aload (ip' := 9) rfl rfl rfl ?_
    refine zs_getR (ip' := 10) rfl rfl (r := 231) (by omega) zsh_230 rfl ?_
    refine zs_iload (ip' := 11) rfl rfl rfl ?_
    refine zs_iload (ip' := 12) rfl rfl rfl ?_
    refine zW_cP (ip' := 13) rfl rfl cM_cellAt rfl rfl rfl ?_
    refine zs_iald (ip' := 14) rfl rfl (by omega) zsh_231 (by omega) ?_
    intro hl13 hu13
    refine zs_pushI (ip' := 15) rfl rfl zi_k2 ?_
    refine zs_icmp_ne (t := 18) (ip' := 16) rfl rfl (by omega) (by omega) ?_ ?_
    · intro h15
      refine zs_pushI (ip' := 19) rfl rfl zi_k0 ?_
      refine zs_goto (t := 23) rfl ?_
      refine zW_0b rfl (Or.inl rfl) ?_
      exact zQ_ok hm ((if_pos h7).trans (by rw [zb_f (by omega)]))
    · intro h15
      refine zs_pushI (ip' := 17) rfl rfl zi_k1 ?_
      refine zs_goto (t := 23) rfl ?_
      refine zW_0b rfl (Or.inr rfl) ?_
      exact zQ_ok hm ((if_pos h7).trans (by rw [zb_t (by omega)]))
def q_isPlank (s : Int → Int) (x y : Int) : Int × Int := if sIn s x y then (0, zb (10 < s (30 + 12 * y + x))) else (1, 0)
theorem cP_isPlank {N : Nat} {G F : GM} {n : Nat} (hN : 241 ≤ N) (hok : mOk (G 231)) {x y : Int} (hx : zr x) (hy : zr y) : zC N 70 [.ref 230, .int (zi x), .int (zi y)] G F n (zQm G F n (q_isPlank (G 231) x y)) := by
  refine zC_i (L0 := [.ref 230, .int (zi x), .int (zi y)]) rfl ?_
  refine zs_aload (ip' := 1) rfl rfl rfl ?_
  refine zs_pushI (ip' := 2) rfl rfl zi_k0 ?_
  refine zs_putI (ip' := 3) rfl rfl (by omega) zsh_230 rfl (q := 10) rfl (by omega) ?_
  have hm := zMk_0 (G := G) (t := 0)
  generalize zk G 230 (zp (G 230) 10 0) = G1 at hm ⊢
  have e1 := zMk_r hm
  rw [← e1] at hok ⊢
  have b0 := hok.1
  have b1 := hok.2.1
  have b4 := hok.2.2.2.2.1
  have b5 := hok.2.2.2.2.2.1
  refine zs_aload (ip' := 4) rfl rfl rfl ?_
  refine zs_iload (ip' := 5) rfl rfl rfl ?_
  refine zs_iload (ip' := 6) rfl rfl rfl ?_
  refine zW_cP (ip' := 7) rfl rfl (cM_isCell hN (by omega) (by omega) hx hy) rfl rfl (z_ok3 (by omega) zsh_230 rfl rfl rfl) ?_
  refine zs_if_eqB (t := 20) (ip' := 8) rfl rfl ?_ ?_
  · intro h7
    refine zs_aload (ip' := 21) rfl rfl rfl ?_
    refine zs_pushI (ip' := 22) rfl rfl zi_k1 ?_
    refine zW_cR (ip' := 23) rfl rfl (cM_isFailed hN (by decide)) rfl rfl (z_ok3 (by omega) zsh_230 rfl rfl rfl) ?_
    rintro v G' F' n' _ ⟨rfl, rfl, rfl, rfl⟩
    refine zW_0b rfl (Or.inl rfl) ?_
    exact zQ_no hm (if_neg h7)
  · intro h7
    obtain ⟨⟨x0, x1⟩, y0, y1⟩ := id h7
    refine zs_aload (ip' := 9) rfl rfl rfl ?_
    refine zs_getR (ip' := 10) rfl rfl (r := 231) (by omega) zsh_230 rfl ?_
    refine zs_iload (ip' := 11) rfl rfl rfl ?_
    refine zs_iload (ip' := 12) rfl rfl rfl ?_
    refine zW_cP (ip' := 13) rfl rfl cM_cellAt rfl rfl rfl ?_
    refine zs_iald (ip' := 14) rfl rfl (by omega) zsh_231 (by omega) ?_
    intro hl13 hu13
    refine zs_pushI (ip' := 15) rfl rfl zi_k10 ?_
    refine zs_icmp_le (t := 18) (ip' := 16) rfl rfl (by omega) (by omega) ?_ ?_
    · intro h15
      refine zs_pushI (ip' := 19) rfl rfl zi_k0 ?_
      refine zs_goto (t := 23) rfl ?_
      refine zW_0b rfl (Or.inl rfl) ?_
      exact zQ_ok hm ((if_pos h7).trans (by rw [zb_f (by omega)]))
    · intro h15
      refine zs_pushI (ip' := 17) rfl rfl zi_k1 ?_
      refine zs_goto (t := 23) rfl ?_
      refine zW_0b rfl (Or.inr rfl) ?_
      exact zQ_ok hm ((if_pos h7).trans (by rw [zb_t (by omega)]))
def q_plankStrength (s : Int → Int) (x y : Int) : Int × Int := if sIn s x y then (if 10 < s (30 + 12 * y + x) then (0, s (30 + 12 * y + x) - 10) else (2, 0)) else (1, 0)
theorem cP_plankStrength {N : Nat} {G F : GM} {n : Nat} (hN : 241 ≤ N) (hok : mOk (G 231)) {x y : Int} (hx : zr x) (hy : zr y) : zC N 71 [.ref 230, .int (zi x), .int (zi y)] G F n (zQm G F n (q_plankStrength (G 231) x y)) := by
  refine zC_i (L0 := [.ref 230, .int (zi x), .int (zi y)]) rfl ?_
  refine zs_aload (ip' := 1) rfl rfl rfl ?_
  refine zs_pushI (ip' := 2) rfl rfl zi_k0 ?_
  refine zs_putI (ip' := 3) rfl rfl (by omega) zsh_230 rfl (q := 10) rfl (by omega) ?_
  have hm := zMk_0 (G := G) (t := 0)
  generalize zk G 230 (zp (G 230) 10 0) = G1 at hm ⊢
  have e1 := zMk_r hm
  rw [← e1] at hok ⊢
  have b0 := hok.1
  have b1 := hok.2.1
  have b4 := hok.2.2.2.2.1
  have b5 := hok.2.2.2.2.2.1
  refine zs_aload (ip' := 4) rfl rfl rfl ?_
  refine zs_iload (ip' := 5) rfl rfl rfl ?_
  refine zs_iload (ip' := 6) rfl rfl rfl ?_
  refine zW_cP (ip' := 7) rfl rfl (cM_isCell hN (by omega) (by omega) hx hy) rfl rfl (z_ok3 (by omega) zsh_230 rfl rfl rfl) ?_
  refine zs_if_neB (t := 12) (ip' := 8) rfl rfl ?_ ?_
  · intro h7
    obtain ⟨⟨x0, x1⟩, y0, y1⟩ := id h7
    refine zs_aload (ip' := 13) rfl rfl rfl ?_
    refine zs_getR (ip' := 14) rfl rfl (r := 231) (by omega) zsh_230 rfl ?_
    refine zs_iload (ip' := 15) rfl rfl rfl ?_
    refine zs_iload (ip' := 16) rfl rfl rfl ?_
    refine zW_cP (ip' := 17) rfl rfl cM_cellAt rfl rfl rfl ?_
    refine zs_iald (ip' := 18) rfl rfl (by omega) zsh_231 (by omega) ?_
    intro hl17 hu17
    refine zs_pushI (ip' := 19) rfl rfl zi_k10 ?_
    refine zs_icmp_le (t := 29) (ip' := 20) rfl rfl (by omega) (by omega) ?_ ?_
    · intro h19
      refine zs_aload (ip' := 30) rfl rfl rfl ?_
      refine zs_pushI (ip' := 31) rfl rfl zi_k2 ?_
      refine zW_cR (ip' := 32) rfl rfl (cM_fails hN (by decide)) rfl rfl (z_ok3 (by omega) zsh_230 rfl rfl rfl) ?_
      rintro v G' F' n' _ ⟨rfl, rfl, rfl, rfl⟩
      refine zW_0 rfl ?_
      exact zQ_no hm ((if_pos h7).trans (if_neg (by omega)))
    · intro h19
      refine zs_aload (ip' := 21) rfl rfl rfl ?_
      refine zs_getR (ip' := 22) rfl rfl (r := 231) (by omega) zsh_230 rfl ?_
      refine zs_iload (ip' := 23) rfl rfl rfl ?_
      refine zs_iload (ip' := 24) rfl rfl rfl ?_
      refine zW_cP (ip' := 25) rfl rfl cM_cellAt rfl rfl rfl ?_
      refine zs_iald (ip' := 26) rfl rfl (by omega) zsh_231 (by omega) ?_
      intro hl25 hu25
      refine zs_pushI (ip' := 27) rfl rfl zi_k10 ?_
      refine zs_isub (ip' := 28) rfl rfl ?_
      refine zs_goto (t := 32) rfl ?_
      refine zW_0 rfl ?_
      exact zQ_ok hm ((if_pos h7).trans (if_pos h19))
  · intro h7
    refine zs_aload (ip' := 9) rfl rfl rfl ?_
    refine zs_pushI (ip' := 10) rfl rfl zi_k1 ?_
    refine zW_cR (ip' := 11) rfl rfl (cM_fails hN (by decide)) rfl rfl (z_ok3 (by omega) zsh_230 rfl rfl rfl) ?_
    rintro v G' F' n' _ ⟨rfl, rfl, rfl, rfl⟩
    refine zW_0 rfl ?_
    exact zQ_no hm (if_neg h7)
def q_fog (s : Int → Int) (h : Int) : Int × Int := if 0 ≤ h ∧ h ≤ 23 then (0, s (6 + h)) else (1, 0)
theorem cP_fog {N : Nat} {G F : GM} {n : Nat} (hN : 241 ≤ N) (hok : mOk (G 231)) {h : Int} (hh : zr h) : zC N 78 [.ref 230, .int (zi h)] G F n (zQm G F n (q_fog (G 231) h)) := by
  refine zC_i (L0 := [.ref 230, .int (zi h)]) rfl ?_
  refine zs_aload (ip' := 1) rfl rfl rfl ?_
  refine zs_pushI (ip' := 2) rfl rfl zi_k0 ?_
  refine zs_putI (ip' := 3) rfl rfl (by omega) zsh_230 rfl (q := 10) rfl (by omega) ?_
  have hm := zMk_0 (G := G) (t := 0)
  generalize zk G 230 (zp (G 230) 10 0) = G1 at hm ⊢
  have e1 := zMk_r hm
  rw [← e1] at hok ⊢
  have b0 := hok.1
  have b1 := hok.2.1
  have b4 := hok.2.2.2.2.1
  have b5 := hok.2.2.2.2.2.1
  refine zs_iload (ip' := 4) rfl rfl rfl ?_
  refine zs_pushI (ip' := 5) rfl rfl zi_k0 ?_
  refine zs_pushI (ip' := 6) rfl rfl zi_k23 ?_
  refine zW_cP (ip' := 7) rfl rfl (cM_in (by omega) (by omega) (by omega)) rfl rfl rfl ?_
  refine zs_if_eqB (t := 15) (ip' := 8) rfl rfl ?_ ?_
  · intro h7
    refine zs_aload (ip' := 16) rfl rfl rfl ?_
    refine zs_pushI (ip' := 17) rfl rfl zi_k1 ?_
    refine zW_cR (ip' := 18) rfl rfl (cM_fails hN (by decide)) rfl rfl (z_ok3 (by omega) zsh_230 rfl rfl rfl) ?_
    rintro v G' F' n' _ ⟨rfl, rfl, rfl, rfl⟩
    refine zW_0 rfl ?_
    exact zQ_no hm (if_neg h7)
  · intro h7
    refine zs_aload (ip' := 9) rfl rfl rfl ?_
    refine zs_getR (ip' := 10) rfl rfl (r := 231) (by omega) zsh_230 rfl ?_
    refine zs_pushI (ip' := 11) rfl rfl zi_k6 ?_
    refine zs_iload (ip' := 12) rfl rfl rfl ?_
    refine zs_iadd (ip' := 13) rfl rfl ?_
    refine zs_iald (ip' := 14) rfl rfl (by omega) zsh_231 (by omega) ?_
    intro hl13 hu13
    refine zs_goto (t := 18) rfl ?_
    refine zW_0 rfl ?_
    exact zQ_ok hm (if_pos h7)
theorem cP_sight {N : Nat} {G F : GM} {n : Nat} (hN : 241 ≤ N) (hok : mOk (G 231)) : zC N 79 [.ref 230] G F n (zQm G F n (((0 : Int), sSight (G 231)))) := by
  refine zC_i (L0 := [.ref 230]) rfl ?_
  refine zs_aload (ip' := 1) rfl rfl rfl ?_
  refine zs_pushI (ip' := 2) rfl rfl zi_k0 ?_
  refine zs_putI (ip' := 3) rfl rfl (by omega) zsh_230 rfl (q := 10) rfl (by omega) ?_
  have hm := zMk_0 (G := G) (t := 0)
  generalize zk G 230 (zp (G 230) 10 0) = G1 at hm ⊢
  have e1 := zMk_r hm
  rw [← e1] at hok ⊢
  have b0 := hok.1
  have b1 := hok.2.1
  have b4 := hok.2.2.2.2.1
  have b5 := hok.2.2.2.2.2.1
  refine zs_aload (ip' := 4) rfl rfl rfl ?_
  refine zs_getR (ip' := 5) rfl rfl (r := 231) (by omega) zsh_230 rfl ?_
  refine zW_cP (ip' := 6) rfl rfl (cM_sightOf zsh_231 (by omega) (mOk_sg hok)) rfl rfl rfl ?_
  refine zW_0 rfl ?_
  exact zQ_ok hm (rfl)
def q_light (s : Int → Int) (l f : Int) : Int × Int := if 0 ≤ l ∧ l ≤ s 4 - 1 then (0, s (174 + 5 * l + f)) else (1, 0)
theorem cP_lightNumber {N : Nat} {G F : GM} {n : Nat} (hN : 241 ≤ N) (hok : mOk (G 231)) {l : Int} (hl : zr l) {f : Int} (hf : 0 ≤ f ∧ f < 5) : zC N 81 [.ref 230, .int (zi l), .int (zi f)] G F n (zQm G F n (q_light (G 231) l f)) := by
  refine zC_i (L0 := [.ref 230, .int (zi l), .int (zi f)]) rfl ?_
  refine zs_aload (ip' := 1) rfl rfl rfl ?_
  refine zs_pushI (ip' := 2) rfl rfl zi_k0 ?_
  refine zs_putI (ip' := 3) rfl rfl (by omega) zsh_230 rfl (q := 10) rfl (by omega) ?_
  have hm := zMk_0 (G := G) (t := 0)
  generalize zk G 230 (zp (G 230) 10 0) = G1 at hm ⊢
  have e1 := zMk_r hm
  rw [← e1] at hok ⊢
  have b0 := hok.1
  have b1 := hok.2.1
  have b4 := hok.2.2.2.2.1
  have b5 := hok.2.2.2.2.2.1
  refine zs_aload (ip' := 4) rfl rfl rfl ?_
  refine zs_iload (ip' := 5) rfl rfl rfl ?_
  refine zW_cP (ip' := 6) rfl rfl (cM_isLight hN (by omega) hl) rfl rfl (z_ok3 (by omega) zsh_230 rfl rfl rfl) ?_
  refine zs_if_eqB (t := 14) (ip' := 7) rfl rfl ?_ ?_
  · intro h6
    refine zs_aload (ip' := 15) rfl rfl rfl ?_
    refine zs_pushI (ip' := 16) rfl rfl zi_k1 ?_
    refine zW_cR (ip' := 17) rfl rfl (cM_fails hN (by decide)) rfl rfl (z_ok3 (by omega) zsh_230 rfl rfl rfl) ?_
    rintro v G' F' n' _ ⟨rfl, rfl, rfl, rfl⟩
    refine zW_0 rfl ?_
    exact zQ_no hm (if_neg h6)
  · intro h6
    refine zs_aload (ip' := 8) rfl rfl rfl ?_
    refine zs_getR (ip' := 9) rfl rfl (r := 231) (by omega) zsh_230 rfl ?_
    refine zs_iload (ip' := 10) rfl rfl rfl ?_
    refine zs_iload (ip' := 11) rfl rfl rfl ?_
    refine zW_cP (ip' := 12) rfl rfl cM_lightAt rfl rfl rfl ?_
    refine zs_iald (ip' := 13) rfl rfl (by omega) zsh_231 (by omega) ?_
    intro hl12 hu12
    refine zs_goto (t := 17) rfl ?_
    refine zW_0 rfl ?_
    exact zQ_ok hm (if_pos h6)
theorem zQm_c {G F G' F' : GM} {n n' : Nat} {q q' : Int × Int} {o : Zo} (h : zQm G F n q o G' F' n') (e : q = q') : zQm G F n q' o G' F' n' := by
  subst e
  exact h
theorem cP_lightColumn {N : Nat} {G F : GM} {n : Nat} (hN : 241 ≤ N) (hok : mOk (G 231)) {l : Int} (hl : zr l) : zC N 82 [.ref 230, .int (zi l)] G F n (zQm G F n (q_light (G 231) l 0)) := by
  refine zC_i (L0 := [.ref 230, .int (zi l)]) rfl ?_
  refine zs_aload (ip' := 1) rfl rfl rfl ?_
  refine zs_iload (ip' := 2) rfl rfl rfl ?_
  refine zs_pushI (ip' := 3) rfl rfl zi_k0 ?_
  refine zW_c (ip' := 4) rfl rfl (cP_lightNumber hN hok hl (by decide)) rfl rfl (z_ok3 (by omega) zsh_230 rfl rfl rfl) ?_ ?_
  · rintro v G' F' n' ⟨h1, h2, h3, h4⟩
    cases h1
    exact zW_0 rfl ⟨rfl, h2, h3, h4⟩
  · rintro ex G' F' n' ⟨h1, -⟩
    cases h1
theorem cP_lightRow {N : Nat} {G F : GM} {n : Nat} (hN : 241 ≤ N) (hok : mOk (G 231)) {l : Int} (hl : zr l) : zC N 83 [.ref 230, .int (zi l)] G F n (zQm G F n (q_light (G 231) l 1)) := by
  refine zC_i (L0 := [.ref 230, .int (zi l)]) rfl ?_
  refine zs_aload (ip' := 1) rfl rfl rfl ?_
  refine zs_iload (ip' := 2) rfl rfl rfl ?_
  refine zs_pushI (ip' := 3) rfl rfl zi_k1 ?_
  refine zW_c (ip' := 4) rfl rfl (cP_lightNumber hN hok hl (by decide)) rfl rfl (z_ok3 (by omega) zsh_230 rfl rfl rfl) ?_ ?_
  · rintro v G' F' n' ⟨h1, h2, h3, h4⟩
    cases h1
    exact zW_0 rfl ⟨rfl, h2, h3, h4⟩
  · rintro ex G' F' n' ⟨h1, -⟩
    cases h1
theorem cP_brightness {N : Nat} {G F : GM} {n : Nat} (hN : 241 ≤ N) (hok : mOk (G 231)) {l : Int} (hl : zr l) : zC N 84 [.ref 230, .int (zi l)] G F n (zQm G F n (q_light (G 231) l 2)) := by
  refine zC_i (L0 := [.ref 230, .int (zi l)]) rfl ?_
  refine zs_aload (ip' := 1) rfl rfl rfl ?_
  refine zs_iload (ip' := 2) rfl rfl rfl ?_
  refine zs_pushI (ip' := 3) rfl rfl zi_k2 ?_
  refine zW_c (ip' := 4) rfl rfl (cP_lightNumber hN hok hl (by decide)) rfl rfl (z_ok3 (by omega) zsh_230 rfl rfl rfl) ?_ ?_
  · rintro v G' F' n' ⟨h1, h2, h3, h4⟩
    cases h1
    exact zW_0 rfl ⟨rfl, h2, h3, h4⟩
  · rintro ex G' F' n' ⟨h1, -⟩
    cases h1
def q_hasSuccessor (s : Int → Int) (l : Int) : Int × Int := if 0 ≤ l ∧ l ≤ s 4 - 1 then (0, zb (0 ≤ s (174 + 5 * l + 4))) else (1, 0)
theorem cP_hasSuccessor {N : Nat} {G F : GM} {n : Nat} (hN : 241 ≤ N) (hok : mOk (G 231)) {l : Int} (hl : zr l) : zC N 86 [.ref 230, .int (zi l)] G F n (zQm G F n (q_hasSuccessor (G 231) l)) := by
  refine zC_i (L0 := [.ref 230, .int (zi l)]) rfl ?_
  refine zs_aload (ip' := 1) rfl rfl rfl ?_
  refine zs_pushI (ip' := 2) rfl rfl zi_k0 ?_
  refine zs_putI (ip' := 3) rfl rfl (by omega) zsh_230 rfl (q := 10) rfl (by omega) ?_
  have hm := zMk_0 (G := G) (t := 0)
  generalize zk G 230 (zp (G 230) 10 0) = G1 at hm ⊢
  have e1 := zMk_r hm
  rw [← e1] at hok ⊢
  have b0 := hok.1
  have b1 := hok.2.1
  have b4 := hok.2.2.2.2.1
  have b5 := hok.2.2.2.2.2.1
  refine zs_aload (ip' := 4) rfl rfl rfl ?_
  refine zs_iload (ip' := 5) rfl rfl rfl ?_
  refine zW_cP (ip' := 6) rfl rfl (cM_isLight hN (by omega) hl) rfl rfl (z_ok3 (by omega) zsh_230 rfl rfl rfl) ?_
  refine zs_if_eqB (t := 18) (ip' := 7) rfl rfl ?_ ?_
  · intro h6
    refine zs_aload (ip' := 19) rfl rfl rfl ?_
    refine zs_pushI (ip' := 20) rfl rfl zi_k1 ?_
    refine zW_cR (ip' := 21) rfl rfl (cM_isFailed hN (by decide)) rfl rfl (z_ok3 (by omega) zsh_230 rfl rfl rfl) ?_
    rintro v G' F' n' _ ⟨rfl, rfl, rfl, rfl⟩
    refine zW_0b rfl (Or.inl rfl) ?_
    exact zQ_no hm (if_neg h6)
  · intro h6
    refine zs_aload (ip' := 8) rfl rfl rfl ?_
    refine zs_getR (ip' := 9) rfl rfl (r := 231) (by omega) zsh_230 rfl ?_
    refine zs_iload (ip' := 10) rfl rfl rfl ?_
    refine zs_pushI (ip' := 11) rfl rfl zi_k4 ?_
    refine zW_cP (ip' := 12) rfl rfl cM_lightAt rfl rfl rfl ?_
    refine zs_iald (ip' := 13) rfl rfl (by omega) zsh_231 (by omega) ?_
    intro hl12 hu12
    refine zs_if_lt (t := 16) (ip' := 14) rfl rfl (by omega) ?_ ?_
    · intro h13
      refine zs_pushI (ip' := 17) rfl rfl zi_k0 ?_
      refine zs_goto (t := 21) rfl ?_
      refine zW_0b rfl (Or.inl rfl) ?_
      exact zQ_ok hm ((if_pos h6).trans (by rw [zb_f (by omega)]))
    · intro h13
      refine zs_pushI (ip' := 15) rfl rfl zi_k1 ?_
      refine zs_goto (t := 21) rfl ?_
      refine zW_0b rfl (Or.inr rfl) ?_
      exact zQ_ok hm ((if_pos h6).trans (by rw [zb_t (by omega)]))
def q_successor (s : Int → Int) (l : Int) : Int × Int := if 0 ≤ l ∧ l ≤ s 4 - 1 then (if s (174 + 5 * l + 4) < 0 then (2, 0) else (0, s (174 + 5 * l + 4))) else (1, 0)
theorem cP_successor {N : Nat} {G F : GM} {n : Nat} (hN : 241 ≤ N) (hok : mOk (G 231)) {l : Int} (hl : zr l) : zC N 87 [.ref 230, .int (zi l)] G F n (zQm G F n (q_successor (G 231) l)) := by
  refine zC_i (L0 := [.ref 230, .int (zi l)]) rfl ?_
  refine zs_aload (ip' := 1) rfl rfl rfl ?_
  refine zs_pushI (ip' := 2) rfl rfl zi_k0 ?_
  refine zs_putI (ip' := 3) rfl rfl (by omega) zsh_230 rfl (q := 10) rfl (by omega) ?_
  have hm := zMk_0 (G := G) (t := 0)
  generalize zk G 230 (zp (G 230) 10 0) = G1 at hm ⊢
  have e1 := zMk_r hm
  rw [← e1] at hok ⊢
  have b0 := hok.1
  have b1 := hok.2.1
  have b4 := hok.2.2.2.2.1
  have b5 := hok.2.2.2.2.2.1
  refine zs_aload (ip' := 4) rfl rfl rfl ?_
  refine zs_iload (ip' := 5) rfl rfl rfl ?_
  refine zW_cP (ip' := 6) rfl rfl (cM_isLight hN (by omega) hl) rfl rfl (z_ok3 (by omega) zsh_230 rfl rfl rfl) ?_
  refine zs_if_neB (t := 11) (ip' := 7) rfl rfl ?_ ?_
  · intro h6
    refine zs_aload (ip' := 12) rfl rfl rfl ?_
    refine zs_getR (ip' := 13) rfl rfl (r := 231) (by omega) zsh_230 rfl ?_
    refine zs_iload (ip' := 14) rfl rfl rfl ?_
    refine zs_pushI (ip' := 15) rfl rfl zi_k4 ?_
    refine zW_cP (ip' := 16) rfl rfl cM_lightAt rfl rfl rfl ?_
    refine zs_iald (ip' := 17) rfl rfl (by omega) zsh_231 (by omega) ?_
    intro hl16 hu16
    refine zs_if_ge (t := 22) (ip' := 18) rfl rfl (by omega) ?_ ?_
    · intro h17
      refine zs_aload (ip' := 23) rfl rfl rfl ?_
      refine zs_getR (ip' := 24) rfl rfl (r := 231) (by omega) zsh_230 rfl ?_
      refine zs_iload (ip' := 25) rfl rfl rfl ?_
      refine zs_pushI (ip' := 26) rfl rfl zi_k4 ?_
      refine zW_cP (ip' := 27) rfl rfl cM_lightAt rfl rfl rfl ?_
      refine zs_iald (ip' := 28) rfl rfl (by omega) zsh_231 (by omega) ?_
      intro hl27 hu27
      refine zW_0 rfl ?_
      exact zQ_ok hm ((if_pos h6).trans (if_neg (by omega)))
    · intro h17
      refine zs_aload (ip' := 19) rfl rfl rfl ?_
      refine zs_pushI (ip' := 20) rfl rfl zi_k2 ?_
      refine zW_cR (ip' := 21) rfl rfl (cM_fails hN (by decide)) rfl rfl (z_ok3 (by omega) zsh_230 rfl rfl rfl) ?_
      rintro v G' F' n' _ ⟨rfl, rfl, rfl, rfl⟩
      refine zs_goto (t := 28) rfl ?_
      refine zW_0 rfl ?_
      exact zQ_no hm ((if_pos h6).trans (if_pos h17))
  · intro h6
    refine zs_aload (ip' := 8) rfl rfl rfl ?_
    refine zs_pushI (ip' := 9) rfl rfl zi_k1 ?_
    refine zW_cR (ip' := 10) rfl rfl (cM_fails hN (by decide)) rfl rfl (z_ok3 (by omega) zsh_230 rfl rfl rfl) ?_
    rintro v G' F' n' _ ⟨rfl, rfl, rfl, rfl⟩
    refine zW_0 rfl ?_
    exact zQ_no hm (if_neg h6)
def q_walker (s : Int → Int) (w f : Int) : Int × Int := if 0 ≤ w ∧ w ≤ s 5 - 1 then (0, s (214 + 7 * w + f)) else (1, 0)
theorem cP_walkerNumber {N : Nat} {G F : GM} {n : Nat} (hN : 241 ≤ N) (hok : mOk (G 231)) {w : Int} (hw : zr w) {f : Int} (hf : 0 ≤ f ∧ f < 7) : zC N 91 [.ref 230, .int (zi w), .int (zi f)] G F n (zQm G F n (q_walker (G 231) w f)) := by
  refine zC_i (L0 := [.ref 230, .int (zi w), .int (zi f)]) rfl ?_
  refine zs_aload (ip' := 1) rfl rfl rfl ?_
  refine zs_pushI (ip' := 2) rfl rfl zi_k0 ?_
  refine zs_putI (ip' := 3) rfl rfl (by omega) zsh_230 rfl (q := 10) rfl (by omega) ?_
  have hm := zMk_0 (G := G) (t := 0)
  generalize zk G 230 (zp (G 230) 10 0) = G1 at hm ⊢
  have e1 := zMk_r hm
  rw [← e1] at hok ⊢
  have b0 := hok.1
  have b1 := hok.2.1
  have b4 := hok.2.2.2.2.1
  have b5 := hok.2.2.2.2.2.1
  refine zs_aload (ip' := 4) rfl rfl rfl ?_
  refine zs_iload (ip' := 5) rfl rfl rfl ?_
  refine zW_cP (ip' := 6) rfl rfl (cM_isWalker hN (by omega) hw) rfl rfl (z_ok3 (by omega) zsh_230 rfl rfl rfl) ?_
  refine zs_if_eqB (t := 14) (ip' := 7) rfl rfl ?_ ?_
  · intro h6
    refine zs_aload (ip' := 15) rfl rfl rfl ?_
    refine zs_pushI (ip' := 16) rfl rfl zi_k1 ?_
    refine zW_cR (ip' := 17) rfl rfl (cM_fails hN (by decide)) rfl rfl (z_ok3 (by omega) zsh_230 rfl rfl rfl) ?_
    rintro v G' F' n' _ ⟨rfl, rfl, rfl, rfl⟩
    refine zW_0 rfl ?_
    exact zQ_no hm (if_neg h6)
  · intro h6
    refine zs_aload (ip' := 8) rfl rfl rfl ?_
    refine zs_getR (ip' := 9) rfl rfl (r := 231) (by omega) zsh_230 rfl ?_
    refine zs_iload (ip' := 10) rfl rfl rfl ?_
    refine zs_iload (ip' := 11) rfl rfl rfl ?_
    refine zW_cP (ip' := 12) rfl rfl cM_walkerAt rfl rfl rfl ?_
    refine zs_iald (ip' := 13) rfl rfl (by omega) zsh_231 (by omega) ?_
    intro hl12 hu12
    refine zs_goto (t := 17) rfl ?_
    refine zW_0 rfl ?_
    exact zQ_ok hm (if_pos h6)
theorem cP_travellerColumn {N : Nat} {G F : GM} {n : Nat} (hN : 241 ≤ N) (hok : mOk (G 231)) {w : Int} (hw : zr w) : zC N 93 [.ref 230, .int (zi w)] G F n (zQm G F n (q_walker (G 231) w 0)) := by
  refine zC_i (L0 := [.ref 230, .int (zi w)]) rfl ?_
  refine zs_aload (ip' := 1) rfl rfl rfl ?_
  refine zs_iload (ip' := 2) rfl rfl rfl ?_
  refine zs_pushI (ip' := 3) rfl rfl zi_k0 ?_
  refine zW_c (ip' := 4) rfl rfl (cP_walkerNumber hN hok hw (by decide)) rfl rfl (z_ok3 (by omega) zsh_230 rfl rfl rfl) ?_ ?_
  · rintro v G' F' n' ⟨h1, h2, h3, h4⟩
    cases h1
    exact zW_0 rfl ⟨rfl, h2, h3, h4⟩
  · rintro ex G' F' n' ⟨h1, -⟩
    cases h1
theorem cP_travellerRow {N : Nat} {G F : GM} {n : Nat} (hN : 241 ≤ N) (hok : mOk (G 231)) {w : Int} (hw : zr w) : zC N 94 [.ref 230, .int (zi w)] G F n (zQm G F n (q_walker (G 231) w 1)) := by
  refine zC_i (L0 := [.ref 230, .int (zi w)]) rfl ?_
  refine zs_aload (ip' := 1) rfl rfl rfl ?_
  refine zs_iload (ip' := 2) rfl rfl rfl ?_
  refine zs_pushI (ip' := 3) rfl rfl zi_k1 ?_
  refine zW_c (ip' := 4) rfl rfl (cP_walkerNumber hN hok hw (by decide)) rfl rfl (z_ok3 (by omega) zsh_230 rfl rfl rfl) ?_ ?_
  · rintro v G' F' n' ⟨h1, h2, h3, h4⟩
    cases h1
    exact zW_0 rfl ⟨rfl, h2, h3, h4⟩
  · rintro ex G' F' n' ⟨h1, -⟩
    cases h1
theorem cP_stepsTaken {N : Nat} {G F : GM} {n : Nat} (hN : 241 ≤ N) (hok : mOk (G 231)) {w : Int} (hw : zr w) : zC N 98 [.ref 230, .int (zi w)] G F n (zQm G F n (q_walker (G 231) w 6)) := by
  refine zC_i (L0 := [.ref 230, .int (zi w)]) rfl ?_
  refine zs_aload (ip' := 1) rfl rfl rfl ?_
  refine zs_iload (ip' := 2) rfl rfl rfl ?_
  refine zs_pushI (ip' := 3) rfl rfl zi_k6 ?_
  refine zW_c (ip' := 4) rfl rfl (cP_walkerNumber hN hok hw (by decide)) rfl rfl (z_ok3 (by omega) zsh_230 rfl rfl rfl) ?_ ?_
  · rintro v G' F' n' ⟨h1, h2, h3, h4⟩
    cases h1
    exact zW_0 rfl ⟨rfl, h2, h3, h4⟩
  · rintro ex G' F' n' ⟨h1, -⟩
    cases h1
def q_state (s : Int → Int) (w f : Int) : Int × Int := if 0 ≤ w ∧ w ≤ s 5 - 1 then (0, zb (s (214 + 7 * w + 2) = f)) else (1, 0)
theorem cP_hasState {N : Nat} {G F : GM} {n : Nat} (hN : 241 ≤ N) (hok : mOk (G 231)) {w : Int} (hw : zr w) {f : Int} (hf : 0 ≤ f ∧ f < 3) : zC N 92 [.ref 230, .int (zi w), .int (zi f)] G F n (zQm G F n (q_state (G 231) w f)) := by
  refine zC_i (L0 := [.ref 230, .int (zi w), .int (zi f)]) rfl ?_
  refine zs_aload (ip' := 1) rfl rfl rfl ?_
  refine zs_pushI (ip' := 2) rfl rfl zi_k0 ?_
  refine zs_putI (ip' := 3) rfl rfl (by omega) zsh_230 rfl (q := 10) rfl (by omega) ?_
  have hm := zMk_0 (G := G) (t := 0)
  generalize zk G 230 (zp (G 230) 10 0) = G1 at hm ⊢
  have e1 := zMk_r hm
  rw [← e1] at hok ⊢
  have b0 := hok.1
  have b1 := hok.2.1
  have b4 := hok.2.2.2.2.1
  have b5 := hok.2.2.2.2.2.1
  refine zs_aload (ip' := 4) rfl rfl rfl ?_
  refine zs_iload (ip' := 5) rfl rfl rfl ?_
  refine zW_cP (ip' := 6) rfl rfl (cM_isWalker hN (by omega) hw) rfl rfl (z_ok3 (by omega) zsh_230 rfl rfl rfl) ?_
  refine zs_if_eqB (t := 19) (ip' := 7) rfl rfl ?_ ?_
  · intro h6
    refine zs_aload (ip' := 20) rfl rfl rfl ?_
    refine zs_pushI (ip' := 21) rfl rfl zi_k1 ?_
    refine zW_cR (ip' := 22) rfl rfl (cM_isFailed hN (by decide)) rfl rfl (z_ok3 (by omega) zsh_230 rfl rfl rfl) ?_
    rintro v G' F' n' _ ⟨rfl, rfl, rfl, rfl⟩
    refine zW_0b rfl (Or.inl rfl) ?_
    exact zQ_no hm (if_neg h6)
  · intro h6
    refine zs_aload (ip' := 8) rfl rfl rfl ?_
    refine zs_getR (ip' := 9) rfl rfl (r := 231) (by omega) zsh_230 rfl ?_
    refine zs_iload (ip' := 10) rfl rfl rfl ?_
    refine zs_pushI (ip' := 11) rfl rfl zi_k2 ?_
    refine zW_cP (ip' := 12) rfl rfl cM_walkerAt rfl rfl rfl ?_
    refine zs_iald (ip' := 13) rfl rfl (by omega) zsh_231 (by omega) ?_
    intro hl12 hu12
    refine zs_iload (ip' := 14) rfl rfl rfl ?_
    refine zs_icmp_ne (t := 17) (ip' := 15) rfl rfl (by omega) (by omega) ?_ ?_
    · intro h14
      refine zs_pushI (ip' := 18) rfl rfl zi_k0 ?_
      refine zs_goto (t := 22) rfl ?_
      refine zW_0b rfl (Or.inl rfl) ?_
      exact zQ_ok hm ((if_pos h6).trans (by rw [zb_f h14]))
    · intro h14
      refine zs_pushI (ip' := 16) rfl rfl zi_k1 ?_
      refine zs_goto (t := 22) rfl ?_
      refine zW_0b rfl (Or.inr rfl) ?_
      exact zQ_ok hm ((if_pos h6).trans (by rw [zb_t h14]))
theorem cP_isWalking {N : Nat} {G F : GM} {n : Nat} (hN : 241 ≤ N) (hok : mOk (G 231)) {w : Int} (hw : zr w) : zC N 95 [.ref 230, .int (zi w)] G F n (zQm G F n (q_state (G 231) w 0)) := by
  refine zC_i (L0 := [.ref 230, .int (zi w)]) rfl ?_
  refine zs_aload (ip' := 1) rfl rfl rfl ?_
  refine zs_iload (ip' := 2) rfl rfl rfl ?_
  refine zs_pushI (ip' := 3) rfl rfl zi_k0 ?_
  refine zW_c (ip' := 4) rfl rfl (cP_hasState hN hok hw (by decide)) rfl rfl (z_ok3 (by omega) zsh_230 rfl rfl rfl) ?_ ?_
  · rintro v G' F' n' ⟨h1, h2, h3, h4⟩
    cases h1
    exact zW_0b rfl (by unfold q_state; split; exact zb_01 _; exact Or.inl rfl) ⟨rfl, h2, h3, h4⟩
  · rintro ex G' F' n' ⟨h1, -⟩
    cases h1
theorem cP_hasArrived {N : Nat} {G F : GM} {n : Nat} (hN : 241 ≤ N) (hok : mOk (G 231)) {w : Int} (hw : zr w) : zC N 96 [.ref 230, .int (zi w)] G F n (zQm G F n (q_state (G 231) w 1)) := by
  refine zC_i (L0 := [.ref 230, .int (zi w)]) rfl ?_
  refine zs_aload (ip' := 1) rfl rfl rfl ?_
  refine zs_iload (ip' := 2) rfl rfl rfl ?_
  refine zs_pushI (ip' := 3) rfl rfl zi_k1 ?_
  refine zW_c (ip' := 4) rfl rfl (cP_hasState hN hok hw (by decide)) rfl rfl (z_ok3 (by omega) zsh_230 rfl rfl rfl) ?_ ?_
  · rintro v G' F' n' ⟨h1, h2, h3, h4⟩
    cases h1
    exact zW_0b rfl (by unfold q_state; split; exact zb_01 _; exact Or.inl rfl) ⟨rfl, h2, h3, h4⟩
  · rintro ex G' F' n' ⟨h1, -⟩
    cases h1
theorem cP_hasSunk {N : Nat} {G F : GM} {n : Nat} (hN : 241 ≤ N) (hok : mOk (G 231)) {w : Int} (hw : zr w) : zC N 97 [.ref 230, .int (zi w)] G F n (zQm G F n (q_state (G 231) w 2)) := by
  refine zC_i (L0 := [.ref 230, .int (zi w)]) rfl ?_
  refine zs_aload (ip' := 1) rfl rfl rfl ?_
  refine zs_iload (ip' := 2) rfl rfl rfl ?_
  refine zs_pushI (ip' := 3) rfl rfl zi_k2 ?_
  refine zW_c (ip' := 4) rfl rfl (cP_hasState hN hok hw (by decide)) rfl rfl (z_ok3 (by omega) zsh_230 rfl rfl rfl) ?_ ?_
  · rintro v G' F' n' ⟨h1, h2, h3, h4⟩
    cases h1
    exact zW_0b rfl (by unfold q_state; split; exact zb_01 _; exact Or.inl rfl) ⟨rfl, h2, h3, h4⟩
  · rintro ex G' F' n' ⟨h1, -⟩
    cases h1
def q_hasTarget (s : Int → Int) (w : Int) : Int × Int := if 0 ≤ w ∧ w ≤ s 5 - 1 then (0, zb (0 ≤ s (214 + 7 * w + 3))) else (1, 0)
theorem cP_hasTarget {N : Nat} {G F : GM} {n : Nat} (hN : 241 ≤ N) (hok : mOk (G 231)) {w : Int} (hw : zr w) : zC N 99 [.ref 230, .int (zi w)] G F n (zQm G F n (q_hasTarget (G 231) w)) := by
  refine zC_i (L0 := [.ref 230, .int (zi w)]) rfl ?_
  refine zs_aload (ip' := 1) rfl rfl rfl ?_
  refine zs_pushI (ip' := 2) rfl rfl zi_k0 ?_
  refine zs_putI (ip' := 3) rfl rfl (by omega) zsh_230 rfl (q := 10) rfl (by omega) ?_
  have hm := zMk_0 (G := G) (t := 0)
  generalize zk G 230 (zp (G 230) 10 0) = G1 at hm ⊢
  have e1 := zMk_r hm
  rw [← e1] at hok ⊢
  have b0 := hok.1
  have b1 := hok.2.1
  have b4 := hok.2.2.2.2.1
  have b5 := hok.2.2.2.2.2.1
  refine zs_aload (ip' := 4) rfl rfl rfl ?_
  refine zs_iload (ip' := 5) rfl rfl rfl ?_
  refine zW_cP (ip' := 6) rfl rfl (cM_isWalker hN (by omega) hw) rfl rfl (z_ok3 (by omega) zsh_230 rfl rfl rfl) ?_
  refine zs_if_eqB (t := 18) (ip' := 7) rfl rfl ?_ ?_
  · intro h6
    refine zs_aload (ip' := 19) rfl rfl rfl ?_
    refine zs_pushI (ip' := 20) rfl rfl zi_k1 ?_
    refine zW_cR (ip' := 21) rfl rfl (cM_isFailed hN (by decide)) rfl rfl (z_ok3 (by omega) zsh_230 rfl rfl rfl) ?_
    rintro v G' F' n' _ ⟨rfl, rfl, rfl, rfl⟩
    refine zW_0b rfl (Or.inl rfl) ?_
    exact zQ_no hm (if_neg h6)
  · intro h6
    refine zs_aload (ip' := 8) rfl rfl rfl ?_
    refine zs_getR (ip' := 9) rfl rfl (r := 231) (by omega) zsh_230 rfl ?_
    refine zs_iload (ip' := 10) rfl rfl rfl ?_
    refine zs_pushI (ip' := 11) rfl rfl zi_k3 ?_
    refine zW_cP (ip' := 12) rfl rfl cM_walkerAt rfl rfl rfl ?_
    refine zs_iald (ip' := 13) rfl rfl (by omega) zsh_231 (by omega) ?_
    intro hl12 hu12
    refine zs_if_lt (t := 16) (ip' := 14) rfl rfl (by omega) ?_ ?_
    · intro h13
      refine zs_pushI (ip' := 17) rfl rfl zi_k0 ?_
      refine zs_goto (t := 21) rfl ?_
      refine zW_0b rfl (Or.inl rfl) ?_
      exact zQ_ok hm ((if_pos h6).trans (by rw [zb_f (by omega)]))
    · intro h13
      refine zs_pushI (ip' := 15) rfl rfl zi_k1 ?_
      refine zs_goto (t := 21) rfl ?_
      refine zW_0b rfl (Or.inr rfl) ?_
      exact zQ_ok hm ((if_pos h6).trans (by rw [zb_t (by omega)]))
def q_target (s : Int → Int) (w : Int) : Int × Int := if 0 ≤ w ∧ w ≤ s 5 - 1 then (if s (214 + 7 * w + 3) < 0 then (2, 0) else (0, s (214 + 7 * w + 3))) else (1, 0)
theorem cP_target {N : Nat} {G F : GM} {n : Nat} (hN : 241 ≤ N) (hok : mOk (G 231)) {w : Int} (hw : zr w) : zC N 100 [.ref 230, .int (zi w)] G F n (zQm G F n (q_target (G 231) w)) := by
  refine zC_i (L0 := [.ref 230, .int (zi w)]) rfl ?_
  refine zs_aload (ip' := 1) rfl rfl rfl ?_
  refine zs_pushI (ip' := 2) rfl rfl zi_k0 ?_
  refine zs_putI (ip' := 3) rfl rfl (by omega) zsh_230 rfl (q := 10) rfl (by omega) ?_
  have hm := zMk_0 (G := G) (t := 0)
  generalize zk G 230 (zp (G 230) 10 0) = G1 at hm ⊢
  have e1 := zMk_r hm
  rw [← e1] at hok ⊢
  have b0 := hok.1
  have b1 := hok.2.1
  have b4 := hok.2.2.2.2.1
  have b5 := hok.2.2.2.2.2.1
  refine zs_aload (ip' := 4) rfl rfl rfl ?_
  refine zs_iload (ip' := 5) rfl rfl rfl ?_
  refine zW_cP (ip' := 6) rfl rfl (cM_isWalker hN (by omega) hw) rfl rfl (z_ok3 (by omega) zsh_230 rfl rfl rfl) ?_
  refine zs_if_neB (t := 11) (ip' := 7) rfl rfl ?_ ?_
  · intro h6
    refine zs_aload (ip' := 12) rfl rfl rfl ?_
    refine zs_getR (ip' := 13) rfl rfl (r := 231) (by omega) zsh_230 rfl ?_
    refine zs_iload (ip' := 14) rfl rfl rfl ?_
    refine zs_pushI (ip' := 15) rfl rfl zi_k3 ?_
    refine zW_cP (ip' := 16) rfl rfl cM_walkerAt rfl rfl rfl ?_
    refine zs_iald (ip' := 17) rfl rfl (by omega) zsh_231 (by omega) ?_
    intro hl16 hu16
    refine zs_if_ge (t := 22) (ip' := 18) rfl rfl (by omega) ?_ ?_
    · intro h17
      refine zs_aload (ip' := 23) rfl rfl rfl ?_
      refine zs_getR (ip' := 24) rfl rfl (r := 231) (by omega) zsh_230 rfl ?_
      refine zs_iload (ip' := 25) rfl rfl rfl ?_
      refine zs_pushI (ip' := 26) rfl rfl zi_k3 ?_
      refine zW_cP (ip' := 27) rfl rfl cM_walkerAt rfl rfl rfl ?_
      refine zs_iald (ip' := 28) rfl rfl (by omega) zsh_231 (by omega) ?_
      intro hl27 hu27
      refine zW_0 rfl ?_
      exact zQ_ok hm ((if_pos h6).trans (if_neg (by omega)))
    · intro h17
      refine zs_aload (ip' := 19) rfl rfl rfl ?_
      refine zs_pushI (ip' := 20) rfl rfl zi_k2 ?_
      refine zW_cR (ip' := 21) rfl rfl (cM_fails hN (by decide)) rfl rfl (z_ok3 (by omega) zsh_230 rfl rfl rfl) ?_
      rintro v G' F' n' _ ⟨rfl, rfl, rfl, rfl⟩
      refine zs_goto (t := 28) rfl ?_
      refine zW_0 rfl ?_
      exact zQ_no hm ((if_pos h6).trans (if_pos h17))
  · intro h6
    refine zs_aload (ip' := 8) rfl rfl rfl ?_
    refine zs_pushI (ip' := 9) rfl rfl zi_k1 ?_
    refine zW_cR (ip' := 10) rfl rfl (cM_fails hN (by decide)) rfl rfl (z_ok3 (by omega) zsh_230 rfl rfl rfl) ?_
    rintro v G' F' n' _ ⟨rfl, rfl, rfl, rfl⟩
    refine zW_0 rfl ?_
    exact zQ_no hm (if_neg h6)
def q_nearestLight (s : Int → Int) (w : Int) : Int × Int := if 0 ≤ w ∧ w ≤ s 5 - 1 then (if sNear s w (s 4).toNat < 0 then (2, 0) else (0, sNear s w (s 4).toNat)) else (1, 0)
theorem cP_nearestLight {N : Nat} {G F : GM} {n : Nat} (hN : 241 ≤ N) (hok : mOk (G 231)) {w : Int} (hw : zr w) : zC N 105 [.ref 230, .int (zi w)] G F n (zQm G F n (q_nearestLight (G 231) w)) := by
  refine zC_i (L0 := [.ref 230, .int (zi w), .null]) rfl ?_
  refine zs_aload (ip' := 1) rfl rfl rfl ?_
  refine zs_pushI (ip' := 2) rfl rfl zi_k0 ?_
  refine zs_putI (ip' := 3) rfl rfl (by omega) zsh_230 rfl (q := 10) rfl (by omega) ?_
  have hm := zMk_0 (G := G) (t := 0)
  generalize zk G 230 (zp (G 230) 10 0) = G1 at hm ⊢
  have e1 := zMk_r hm
  rw [← e1] at hok ⊢
  have b0 := hok.1
  have b1 := hok.2.1
  have b4 := hok.2.2.2.2.1
  have b5 := hok.2.2.2.2.2.1
  refine zs_aload (ip' := 4) rfl rfl rfl ?_
  refine zs_iload (ip' := 5) rfl rfl rfl ?_
  refine zW_cP (ip' := 6) rfl rfl (cM_isWalker hN (by omega) hw) rfl rfl (z_ok3 (by omega) zsh_230 rfl rfl rfl) ?_
  refine zs_if_neB (t := 11) (ip' := 7) rfl rfl ?_ ?_
  · intro h6
    obtain ⟨n1, n2⟩ := sNear_rng (G1 231) w (G1 231 4).toNat
    refine zs_aload (ip' := 12) rfl rfl rfl ?_
    refine zs_getR (ip' := 13) rfl rfl (r := 231) (by omega) zsh_230 rfl ?_
    refine zs_iload (ip' := 14) rfl rfl rfl ?_
    refine zW_cP (ip' := 15) rfl rfl (cM_nearestOf zsh_231 (by omega) (by omega) (mOk_sg hok) (mOk_wk hok h6.1 (by omega)) b4 (fun l l0 l1 => mOk_lt hok l0 l1)) rfl rfl rfl ?_
    refine zs_istore2 (ip' := 16) rfl rfl ?_
    refine zs_iload (ip' := 17) rfl rfl rfl ?_
    refine zs_if_ge (t := 22) (ip' := 18) rfl rfl (by omega) ?_ ?_
    · intro h17
      refine zs_iload (ip' := 23) rfl rfl rfl ?_
      refine zW_0 rfl ?_
      exact zQ_ok hm ((if_pos h6).trans (if_neg (by omega)))
    · intro h17
      refine zs_aload (ip' := 19) rfl rfl rfl ?_
      refine zs_pushI (ip' := 20) rfl rfl zi_k2 ?_
      refine zW_cR (ip' := 21) rfl rfl (cM_fails hN (by decide)) rfl rfl (z_ok3 (by omega) zsh_230 rfl rfl rfl) ?_
      rintro v G' F' n' _ ⟨rfl, rfl, rfl, rfl⟩
      refine zs_goto (t := 23) rfl ?_
      refine zW_0 rfl ?_
      exact zQ_no hm ((if_pos h6).trans (if_pos h17))
  · intro h6
    refine zs_aload (ip' := 8) rfl rfl rfl ?_
    refine zs_pushI (ip' := 9) rfl rfl zi_k1 ?_
    refine zW_cR (ip' := 10) rfl rfl (cM_fails hN (by decide)) rfl rfl (z_ok3 (by omega) zsh_230 rfl rfl rfl) ?_
    rintro v G' F' n' _ ⟨rfl, rfl, rfl, rfl⟩
    refine zW_0 rfl ?_
    exact zQ_no hm (if_neg h6)
theorem cP_walkingCount {N : Nat} {G F : GM} {n : Nat} (hN : 241 ≤ N) (hok : mOk (G 231)) : zC N 106 [.ref 230] G F n (zQm G F n (((0 : Int), sCount (G 231) 0))) := by
  refine zC_i (L0 := [.ref 230]) rfl ?_
  refine zs_aload (ip' := 1) rfl rfl rfl ?_
  refine zs_pushI (ip' := 2) rfl rfl zi_k0 ?_
  refine zs_putI (ip' := 3) rfl rfl (by omega) zsh_230 rfl (q := 10) rfl (by omega) ?_
  have hm := zMk_0 (G := G) (t := 0)
  generalize zk G 230 (zp (G 230) 10 0) = G1 at hm ⊢
  have e1 := zMk_r hm
  rw [← e1] at hok ⊢
  have b0 := hok.1
  have b1 := hok.2.1
  have b4 := hok.2.2.2.2.1
  have b5 := hok.2.2.2.2.2.1
  refine zs_aload (ip' := 4) rfl rfl rfl ?_
  refine zs_getR (ip' := 5) rfl rfl (r := 231) (by omega) zsh_230 rfl ?_
  refine zs_pushI (ip' := 6) rfl rfl zi_k0 ?_
  refine zW_cP (ip' := 7) rfl rfl (cM_countOf zsh_231 (by omega) (by omega) b5) rfl rfl rfl ?_
  refine zW_0 rfl ?_
  exact zQ_ok hm (rfl)
theorem cP_arrivedCount {N : Nat} {G F : GM} {n : Nat} (hN : 241 ≤ N) (hok : mOk (G 231)) : zC N 107 [.ref 230] G F n (zQm G F n (((0 : Int), sCount (G 231) 1))) := by
  refine zC_i (L0 := [.ref 230]) rfl ?_
  refine zs_aload (ip' := 1) rfl rfl rfl ?_
  refine zs_pushI (ip' := 2) rfl rfl zi_k0 ?_
  refine zs_putI (ip' := 3) rfl rfl (by omega) zsh_230 rfl (q := 10) rfl (by omega) ?_
  have hm := zMk_0 (G := G) (t := 0)
  generalize zk G 230 (zp (G 230) 10 0) = G1 at hm ⊢
  have e1 := zMk_r hm
  rw [← e1] at hok ⊢
  have b0 := hok.1
  have b1 := hok.2.1
  have b4 := hok.2.2.2.2.1
  have b5 := hok.2.2.2.2.2.1
  refine zs_aload (ip' := 4) rfl rfl rfl ?_
  refine zs_getR (ip' := 5) rfl rfl (r := 231) (by omega) zsh_230 rfl ?_
  refine zs_pushI (ip' := 6) rfl rfl zi_k1 ?_
  refine zW_cP (ip' := 7) rfl rfl (cM_countOf zsh_231 (by omega) (by omega) b5) rfl rfl rfl ?_
  refine zW_0 rfl ?_
  exact zQ_ok hm (rfl)
theorem cP_sunkCount {N : Nat} {G F : GM} {n : Nat} (hN : 241 ≤ N) (hok : mOk (G 231)) : zC N 108 [.ref 230] G F n (zQm G F n (((0 : Int), sCount (G 231) 2))) := by
  refine zC_i (L0 := [.ref 230]) rfl ?_
  refine zs_aload (ip' := 1) rfl rfl rfl ?_
  refine zs_pushI (ip' := 2) rfl rfl zi_k0 ?_
  refine zs_putI (ip' := 3) rfl rfl (by omega) zsh_230 rfl (q := 10) rfl (by omega) ?_
  have hm := zMk_0 (G := G) (t := 0)
  generalize zk G 230 (zp (G 230) 10 0) = G1 at hm ⊢
  have e1 := zMk_r hm
  rw [← e1] at hok ⊢
  have b0 := hok.1
  have b1 := hok.2.1
  have b4 := hok.2.2.2.2.1
  have b5 := hok.2.2.2.2.2.1
  refine zs_aload (ip' := 4) rfl rfl rfl ?_
  refine zs_getR (ip' := 5) rfl rfl (r := 231) (by omega) zsh_230 rfl ?_
  refine zs_pushI (ip' := 6) rfl rfl zi_k2 ?_
  refine zW_cP (ip' := 7) rfl rfl (cM_countOf zsh_231 (by omega) (by omega) b5) rfl rfl rfl ?_
  refine zW_0 rfl ?_
  exact zQ_ok hm (rfl)
