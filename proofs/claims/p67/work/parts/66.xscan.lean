/-! The program: tokens (printed by wip/whole/src66.py). -/
/-- what a token is that begins with this byte -/
def xKd (v : Int) : Int := if 97 ≤ v ∧ v ≤ 122 then 1 else if 48 ≤ v ∧ v ≤ 57 then 2 else if v = 59 then 3 else if v = 32 ∨ v = 10 then 5 else 4
theorem xKd_rng (v : Int) : 1 ≤ xKd v ∧ xKd v ≤ 5 := by
  unfold xKd
  (repeat' split) <;> omega
theorem xKd_T {v t : Int} (hv : -128 ≤ v ∧ v ≤ 127) (ht : t = v % 256) : (xKd v = 1 ↔ 97 ≤ t ∧ t ≤ 122) ∧ (xKd v = 2 ↔ 48 ≤ t ∧ t ≤ 57) ∧ (xKd v = 3 ↔ t = 59) ∧ (xKd v = 5 ↔ t = 32 ∨ t = 10) := by
  unfold xKd
  refine ⟨?_, ?_, ?_, ?_⟩ <;> (repeat' split) <;> omega
/-- the input buffer is the text -/
def xBu (G : GM) (T : Int → Int) (m : Int) : Prop := G 197 0 = m ∧ (0 ≤ m ∧ m ≤ 800) ∧ ∀ j, 0 ≤ j → j < m → (-128 ≤ G 198 j ∧ G 198 j ≤ 127) ∧ T j = G 198 j % 256
/-- the token at hand is the one from p on -/
def xTo (G : GM) (T : Int → Int) (m p : Int) : Prop := G 197 2 = tB T m p ∧ G 197 3 = tE T m p ∧ G 197 4 = tK T m p ∧ (tK T m p = 2 → G 197 5 = tV T m p)
/-- only the reader's place has changed -/
def xRd (G G' : GM) : Prop := (∀ k, k ≠ 197 → G' k = G k) ∧ ∀ j, (j ≤ 1 ∨ 6 ≤ j) → G' 197 j = G 197 j
theorem xRd_r (G : GM) : xRd G G := ⟨fun _ _ => rfl, fun _ _ => rfl⟩
theorem xRd_t {G G1 G2 : GM} (h : xRd G G1) (h2 : xRd G1 G2) : xRd G G2 := ⟨fun k a => (h2.1 k a).trans (h.1 k a), fun j a => (h2.2 j a).trans (h.2 j a)⟩
theorem xRd_k {G G1 : GM} {j v : Int} (hj : 2 ≤ j ∧ j ≤ 5) (e : G1 197 = zp (G 197) j v) (f : ∀ k, k ≠ 197 → G1 k = G k) : xRd G G1 := ⟨f, fun i hi => by rw [e, zp_ne (by omega)]⟩
theorem xBu_rd {G G' : GM} {T : Int → Int} {m : Int} (h : xBu G T m) (e : xRd G G') : xBu G' T m := by
  obtain ⟨h1, h2, h3⟩ := h
  refine ⟨(e.2 0 (by omega)).trans h1, h2, ?_⟩
  rw [e.1 198 (by decide)]
  exact h3
theorem xTk_end {T : Int → Int} {m p : Int} (h : tB T m p = m) : tE T m p = m ∧ tK T m p = 0 := ⟨if_pos h, if_pos h⟩
theorem xTk_is {T : Int → Int} {m p v : Int} (hm : tB T m p < m) (hp : p ≤ m) (hv : -128 ≤ v ∧ v ≤ 127) (ht : T (tB T m p) = v % 256) : xKd v ≠ 5 ∧ (xKd v = 1 → tK T m p = 1 ∧ tE T m p = zrun (tSm T) m (tB T m p)) ∧ (xKd v = 2 → tK T m p = (if 3 < tE T m p - tB T m p then 4 else 2) ∧ tE T m p = zrun (tDg T) m (tB T m p) ∧ tV T m p = tVr T (tB T m p) (tE T m p - tB T m p).toNat) ∧ (xKd v = 3 → tK T m p = 3 ∧ tE T m p = tB T m p + 1) ∧ (xKd v = 4 → tK T m p = 4 ∧ tE T m p = tB T m p + 1) := by
  obtain ⟨k1, k2, k3, k5⟩ := xKd_T hv ht
  have hnb : ¬ tBl T (tB T m p) := (zrun_rng (q := tBl T) hp).2.2.2 hm
  have hne : tB T m p ≠ m := by omega
  refine ⟨fun q => hnb (k5.mp q), fun q => ?_, fun q => ?_, fun q => ?_, fun q => ?_⟩
  · have h1 : tSm T (tB T m p) := k1.mp q
    exact ⟨(if_neg hne).trans (if_pos h1), (if_neg hne).trans (if_pos h1)⟩
  · have h1 : ¬ tSm T (tB T m p) := fun a => by have := k1.mpr a; omega
    have h2 : tDg T (tB T m p) := k2.mp q
    exact ⟨(if_neg hne).trans ((if_neg h1).trans (if_pos h2)), (if_neg hne).trans ((if_neg h1).trans (if_pos h2)), (if_neg hne).trans ((if_neg h1).trans (if_pos h2))⟩
  · have h1 : ¬ tSm T (tB T m p) := fun a => by have := k1.mpr a; omega
    have h2 : ¬ tDg T (tB T m p) := fun a => by have := k2.mpr a; omega
    exact ⟨(if_neg hne).trans ((if_neg h1).trans ((if_neg h2).trans (if_pos (k3.mp q)))), (if_neg hne).trans ((if_neg h1).trans (if_neg h2))⟩
  · have h1 : ¬ tSm T (tB T m p) := fun a => by have := k1.mpr a; omega
    have h2 : ¬ tDg T (tB T m p) := fun a => by have := k2.mpr a; omega
    have h3 : ¬ T (tB T m p) = 59 := fun a => by have := k3.mpr a; omega
    exact ⟨(if_neg hne).trans ((if_neg h1).trans ((if_neg h2).trans (if_neg h3))), (if_neg hne).trans ((if_neg h1).trans (if_neg h2))⟩
theorem cX_kind {N : Nat} {G F : GM} {n : Nat} {v : Int} (hv : -128 ≤ v ∧ v ≤ 127) : zPu N 200 [.int (zi v)] (xKd v) G F n := by
  refine zPu_i (L0 := [.int (zi v)]) rfl ?_
  refine zs_iload (ip' := 1) rfl rfl rfl ?_
  refine zs_pushI (ip' := 2) rfl rfl zi_k97 ?_
  refine zs_icmp_lt (t := 8) (ip' := 3) rfl rfl (by omega) (by omega) ?_ ?_
  · intro h2
    refine zs_iload (ip' := 9) rfl rfl rfl ?_
    refine zs_pushI (ip' := 10) rfl rfl zi_k48 ?_
    refine zs_icmp_lt (t := 16) (ip' := 11) rfl rfl (by omega) (by omega) ?_ ?_
    · intro h10
      refine zs_iload (ip' := 17) rfl rfl rfl ?_
      refine zs_lsw rfl (by omega) ?_
      try dsimp only
      split
      · rename_i h17_10
        refine zs_pushI (ip' := 21) rfl rfl zi_k5 ?_
        refine zW_0 rfl ?_
        exact zfin (by unfold xKd; (repeat' split) <;> omega)
      · rename_i h17_10
        split
        · rename_i h17_32
          refine zs_pushI (ip' := 21) rfl rfl zi_k5 ?_
          refine zW_0 rfl ?_
          exact zfin (by unfold xKd; (repeat' split) <;> omega)
        · rename_i h17_32
          split
          · rename_i h17_59
            refine zs_pushI (ip' := 19) rfl rfl zi_k3 ?_
            refine zW_0 rfl ?_
            exact zfin (by unfold xKd; (repeat' split) <;> omega)
          · rename_i h17_59
            refine zs_pushI (ip' := 23) rfl rfl zi_k4 ?_
            refine zW_0 rfl ?_
            exact zfin (by unfold xKd; (repeat' split) <;> omega)
    · intro h10
      refine zs_iload (ip' := 12) rfl rfl rfl ?_
      refine zs_pushI (ip' := 13) rfl rfl zi_k57 ?_
      refine zs_icmp_gt (t := 16) (ip' := 14) rfl rfl (by omega) (by omega) ?_ ?_
      · intro h13
        refine zs_iload (ip' := 17) rfl rfl rfl ?_
        refine zs_lsw rfl (by omega) ?_
        try dsimp only
        split
        · rename_i h17_10
          refine zs_pushI (ip' := 21) rfl rfl zi_k5 ?_
          refine zW_0 rfl ?_
          exact zfin (by unfold xKd; (repeat' split) <;> omega)
        · rename_i h17_10
          split
          · rename_i h17_32
            refine zs_pushI (ip' := 21) rfl rfl zi_k5 ?_
            refine zW_0 rfl ?_
            exact zfin (by unfold xKd; (repeat' split) <;> omega)
          · rename_i h17_32
            split
            · rename_i h17_59
              refine zs_pushI (ip' := 19) rfl rfl zi_k3 ?_
              refine zW_0 rfl ?_
              exact zfin (by unfold xKd; (repeat' split) <;> omega)
            · rename_i h17_59
              refine zs_pushI (ip' := 23) rfl rfl zi_k4 ?_
              refine zW_0 rfl ?_
              exact zfin (by unfold xKd; (repeat' split) <;> omega)
      · intro h13
        refine zs_pushI (ip' := 15) rfl rfl zi_k2 ?_
        refine zW_0 rfl ?_
        exact zfin (by unfold xKd; (repeat' split) <;> omega)
  · intro h2
    refine zs_iload (ip' := 4) rfl rfl rfl ?_
    refine zs_pushI (ip' := 5) rfl rfl zi_k122 ?_
    refine zs_icmp_gt (t := 8) (ip' := 6) rfl rfl (by omega) (by omega) ?_ ?_
    · intro h5
      refine zs_iload (ip' := 9) rfl rfl rfl ?_
      refine zs_pushI (ip' := 10) rfl rfl zi_k48 ?_
      refine zs_icmp_lt (t := 16) (ip' := 11) rfl rfl (by omega) (by omega) ?_ ?_
      · intro h10
        refine zs_iload (ip' := 17) rfl rfl rfl ?_
        refine zs_lsw rfl (by omega) ?_
        try dsimp only
        split
        · rename_i h17_10
          refine zs_pushI (ip' := 21) rfl rfl zi_k5 ?_
          refine zW_0 rfl ?_
          exact zfin (by unfold xKd; (repeat' split) <;> omega)
        · rename_i h17_10
          split
          · rename_i h17_32
            refine zs_pushI (ip' := 21) rfl rfl zi_k5 ?_
            refine zW_0 rfl ?_
            exact zfin (by unfold xKd; (repeat' split) <;> omega)
          · rename_i h17_32
            split
            · rename_i h17_59
              refine zs_pushI (ip' := 19) rfl rfl zi_k3 ?_
              refine zW_0 rfl ?_
              exact zfin (by unfold xKd; (repeat' split) <;> omega)
            · rename_i h17_59
              refine zs_pushI (ip' := 23) rfl rfl zi_k4 ?_
              refine zW_0 rfl ?_
              exact zfin (by unfold xKd; (repeat' split) <;> omega)
      · intro h10
        refine zs_iload (ip' := 12) rfl rfl rfl ?_
        refine zs_pushI (ip' := 13) rfl rfl zi_k57 ?_
        refine zs_icmp_gt (t := 16) (ip' := 14) rfl rfl (by omega) (by omega) ?_ ?_
        · intro h13
          refine zs_iload (ip' := 17) rfl rfl rfl ?_
          refine zs_lsw rfl (by omega) ?_
          try dsimp only
          split
          · rename_i h17_10
            refine zs_pushI (ip' := 21) rfl rfl zi_k5 ?_
            refine zW_0 rfl ?_
            exact zfin (by unfold xKd; (repeat' split) <;> omega)
          · rename_i h17_10
            split
            · rename_i h17_32
              refine zs_pushI (ip' := 21) rfl rfl zi_k5 ?_
              refine zW_0 rfl ?_
              exact zfin (by unfold xKd; (repeat' split) <;> omega)
            · rename_i h17_32
              split
              · rename_i h17_59
                refine zs_pushI (ip' := 19) rfl rfl zi_k3 ?_
                refine zW_0 rfl ?_
                exact zfin (by unfold xKd; (repeat' split) <;> omega)
              · rename_i h17_59
                refine zs_pushI (ip' := 23) rfl rfl zi_k4 ?_
                refine zW_0 rfl ?_
                exact zfin (by unfold xKd; (repeat' split) <;> omega)
        · intro h13
          refine zs_pushI (ip' := 15) rfl rfl zi_k2 ?_
          refine zW_0 rfl ?_
          exact zfin (by unfold xKd; (repeat' split) <;> omega)
    · intro h5
      refine zs_pushI (ip' := 7) rfl rfl zi_k1 ?_
      refine zW_0 rfl ?_
      exact zfin (by unfold xKd; (repeat' split) <;> omega)
theorem cX_num_l {N : Nat} {F : GM} {n : Nat} (hN : 229 ≤ N) {T : Int → Int} {m : Int} {b E : Int} {G0 : GM} (hB : xBu G0 T m) (h3 : G0 197 3 = E) (hbE : 0 ≤ b ∧ b ≤ E ∧ E ≤ m ∧ E - b ≤ 3) (hdg : ∀ j, b ≤ j → j < E → tDg T j) : ∀ (d : Nat) (k : Nat) (G : GM), E - (b + (k : Int)) < (d : Int) → b + (k : Int) ≤ E → G 197 5 = tVr T b k → ((∀ k, k ≠ 197 → G k = G0 k) ∧ ∀ j, j ≠ 5 → G 197 j = G0 197 j) → zW N 199 17 [.ref 197, .int (zi (b + (k : Int)))] [] G F n (zV fun G' F' n' => (((∀ k, k ≠ 197 → G' k = G0 k) ∧ ∀ j, j ≠ 5 → G' 197 j = G0 197 j) ∧ G' 197 5 = tVr T b (E - b).toNat) ∧ F' = F ∧ n' = n) := by
  intro d
  induction d with
  | zero =>
    intro k G hd hj h5 hf
    exact absurd hd (by omega)
  | succ d ih =>
    intro k G hd hj h5 hf
    obtain ⟨-, ⟨m0, m1⟩, hT⟩ := id hB
    have hvr := tVr_rng (T := T) b k (fun j j0 j1 => hdg j j0 (by omega))
    refine zs_iload (ip' := 18) rfl rfl rfl ?_
    refine zs_aload (ip' := 19) rfl rfl rfl ?_
    refine zs_getI (ip' := 20) rfl rfl (by omega) zsh_197 rfl (q := 3) rfl ?_
    intro hl19 hu19
    rw [hf.2 3 (by decide), h3] at hl19 hu19 ⊢
    refine zs_icmp_ge (t := 36) (ip' := 21) rfl rfl (by omega) (by omega) ?_ ?_
    · intro h20
      refine zW_1 rfl ?_
      exact ⟨rfl, ⟨hf, by rw [h5, show (E - b).toNat = k by omega]⟩, rfl, rfl⟩
    · intro h20
      have hdk : tDg T (b + (k : Int)) := hdg _ (by omega) (by omega)
      obtain ⟨d1, d2⟩ := id hdk
      obtain ⟨⟨v1, v2⟩, v3⟩ := hT (b + (k : Int)) (by omega) (by omega)
      refine zs_aload (ip' := 22) rfl rfl rfl ?_
      refine zs_aload (ip' := 23) rfl rfl rfl ?_
      refine zs_getI (ip' := 24) rfl rfl (by omega) zsh_197 rfl (q := 5) rfl ?_
      intro hl23 hu23
      rw [h5] at hl23 hu23 ⊢
      refine zs_pushI (ip' := 25) rfl rfl zi_k10 ?_
      refine zs_imul (ip' := 26) rfl rfl ?_
      refine zs_aload (ip' := 27) rfl rfl rfl ?_
      refine zs_getR (ip' := 28) rfl rfl (r := 198) (by omega) zsh_197 rfl ?_
      refine zs_iload (ip' := 29) rfl rfl rfl ?_
      refine zs_bald (ip' := 30) rfl rfl (by omega) zsh_198 (by omega) ?_
      intro hl29 hu29
      rw [hf.1 198 (by decide), show G0 198 (b + (k : Int)) = T (b + (k : Int)) by omega] at hl29 hu29 ⊢
      refine zs_iadd (ip' := 31) rfl rfl ?_
      refine zs_pushI (ip' := 32) rfl rfl zi_k48 ?_
      refine zs_isub (ip' := 33) rfl rfl ?_
      refine zs_putI (ip' := 34) rfl rfl (by omega) zsh_197 rfl (q := 5) rfl (by omega) ?_
      refine zW_gk ?_
      intro G1 e1 f1
      refine zs_iinc1 (ip' := 35) rfl rfl zi_k1 ?_
      rw [show b + (k : Int) + 1 = b + ((k + 1 : Nat) : Int) by omega]
      refine zs_goto (t := 17) rfl ?_
      refine ih (k + 1) G1 (by omega) (by omega) ?_ ⟨fun k hk => (f1 k hk).trans (hf.1 k hk), fun j hj => by rw [e1, zp_ne hj]; exact hf.2 j hj⟩
      rw [e1, zp_eq]
      have es : tVr T b (k + 1) = 10 * tVr T b k + T (b + (k : Int)) - 48 := if_pos (by omega)
      omega
theorem cX_num {N : Nat} {G F : GM} {n : Nat} (hN : 229 ≤ N) {T : Int → Int} {m : Int} {b E : Int} (hB : xBu G T m) (h2 : G 197 2 = b) (h3 : G 197 3 = E) (hbE : 0 ≤ b ∧ b ≤ E ∧ E ≤ m) (hdg : ∀ j, b ≤ j → j < E → tDg T j) : zC N 199 [.ref 197] G F n (zV fun G' F' n' => (xRd G G' ∧ G' 197 2 = b ∧ G' 197 3 = E ∧ ((3 < E - b ∧ G' 197 4 = 4) ∨ (E - b ≤ 3 ∧ G' 197 4 = G 197 4 ∧ G' 197 5 = tVr T b (E - b).toNat))) ∧ F' = F ∧ n' = n) := by
  obtain ⟨-, ⟨m0, m1⟩, -⟩ := id hB
  refine zC_i (L0 := [.ref 197, .null]) rfl ?_
  refine zs_aload (ip' := 1) rfl rfl rfl ?_
  refine zs_getI (ip' := 2) rfl rfl (by omega) zsh_197 rfl (q := 3) rfl ?_
  intro hl1 hu1
  rw [h3] at hl1 hu1 ⊢
  refine zs_aload (ip' := 3) rfl rfl rfl ?_
  refine zs_getI (ip' := 4) rfl rfl (by omega) zsh_197 rfl (q := 2) rfl ?_
  intro hl3 hu3
  rw [h2] at hl3 hu3 ⊢
  refine zs_isub (ip' := 5) rfl rfl ?_
  refine zs_pushI (ip' := 6) rfl rfl zi_k3 ?_
  refine zs_icmp_le (t := 11) (ip' := 7) rfl rfl (by omega) (by omega) ?_ ?_
  · intro h6
    refine zs_aload (ip' := 12) rfl rfl rfl ?_
    refine zs_pushI (ip' := 13) rfl rfl zi_k0 ?_
    refine zs_putI (ip' := 14) rfl rfl (by omega) zsh_197 rfl (q := 5) rfl (by omega) ?_
    refine zW_gk ?_
    intro G1 e1 f1
    refine zs_aload (ip' := 15) rfl rfl rfl ?_
    refine zs_getI (ip' := 16) rfl rfl (by omega) zsh_197 rfl (q := 2) rfl ?_
    intro hl15 hu15
    rw [e1, zp_ne (by decide), h2] at hl15 hu15 ⊢
    refine zs_istore1 (ip' := 17) rfl rfl ?_
    have hB1 := xBu_rd hB (xRd_k (by decide) e1 f1)
    have hl := cX_num_l (F := F) (n := n) hN hB1 (by rw [e1, zp_ne (by decide)]; exact h3) ⟨hbE.1, hbE.2.1, hbE.2.2, by omega⟩ hdg 4 0 G1 (by omega) (by omega) (by rw [e1, zp_eq]; rfl) ⟨fun _ _ => rfl, fun _ _ => rfl⟩
    rw [show b + ((0 : Nat) : Int) = b by omega] at hl
    refine zW_w ?_ hl
    rintro o G' F' n' ⟨ho, ⟨⟨g1, g2⟩, g5⟩, hF, hn⟩
    have gj : ∀ j, j ≠ 5 → G' 197 j = G 197 j := fun j hj => (g2 j hj).trans (by rw [e1, zp_ne hj])
    exact ⟨ho, ⟨⟨fun k hk => (g1 k hk).trans (f1 k hk), fun j hj => gj j (by omega)⟩, (gj 2 (by decide)).trans h2, (gj 3 (by decide)).trans h3, Or.inr ⟨by omega, gj 4 (by decide), g5⟩⟩, hF, hn⟩
  · intro h6
    refine zs_aload (ip' := 8) rfl rfl rfl ?_
    refine zs_pushI (ip' := 9) rfl rfl zi_k4 ?_
    refine zs_putI (ip' := 10) rfl rfl (by omega) zsh_197 rfl (q := 4) rfl (by omega) ?_
    refine zW_gk ?_
    intro G2 e2 f2
    refine zW_1 rfl ?_
    exact ⟨rfl, ⟨xRd_k (by decide) e2 f2, by rw [e2, zp_ne (by decide)]; exact h2, by rw [e2, zp_ne (by decide)]; exact h3, Or.inl ⟨by omega, by rw [e2, zp_eq]⟩⟩, rfl, rfl⟩
theorem cX_scan_b {N : Nat} {F : GM} {n : Nat} (hN : 229 ≤ N) {T : Int → Int} {m : Int} {q : Int → Prop} [DecidablePred q] {K E : Int} {G0 : GM} (hB : xBu G0 T m) (h4 : G0 197 4 = K) (hq : ∀ j, 0 ≤ j → j < m → (q j ↔ xKd (G0 198 j) = K)) {Q : Zq} (hk : ∀ G : GM, ((∀ k, k ≠ 197 → G k = G0 k) ∧ ∀ j, j ≠ 3 → G 197 j = G0 197 j) → G 197 3 = E → zW N 198 80 [.ref 197] [] G F n Q) : ∀ (d : Nat) (e : Int) (G : GM), m - e < (d : Int) → 0 ≤ e ∧ e ≤ m → G 197 3 = e → zrun q m e = E → ((∀ k, k ≠ 197 → G k = G0 k) ∧ ∀ j, j ≠ 3 → G 197 j = G0 197 j) → zW N 198 59 [.ref 197] [] G F n Q := by
  intro d
  induction d with
  | zero =>
    intro e G hd he h3 hz hf
    exact absurd hd (by omega)
  | succ d ih =>
    intro e G hd he h3 hz hf
    obtain ⟨h0, ⟨m0, m1⟩, hT⟩ := id hB
    refine zs_aload (ip' := 60) rfl rfl rfl ?_
    refine zs_getI (ip' := 61) rfl rfl (by omega) zsh_197 rfl (q := 3) rfl ?_
    intro hl60 hu60
    rw [h3] at hl60 hu60 ⊢
    refine zs_aload (ip' := 62) rfl rfl rfl ?_
    refine zs_getI (ip' := 63) rfl rfl (by omega) zsh_197 rfl (q := 0) rfl ?_
    intro hl62 hu62
    rw [hf.2 0 (by decide), h0] at hl62 hu62 ⊢
    refine zs_icmp_ge (t := 80) (ip' := 64) rfl rfl (by omega) (by omega) ?_ ?_
    · intro h63
      exact hk G hf (by rw [h3, ← hz, zrun_e (Or.inl (by omega))])
    · intro h63
      obtain ⟨hv, -⟩ := hT e he.1 (by omega)
      have hqe := hq e he.1 (by omega)
      refine zs_aload (ip' := 65) rfl rfl rfl ?_
      refine zs_getR (ip' := 66) rfl rfl (r := 198) (by omega) zsh_197 rfl ?_
      refine zs_aload (ip' := 67) rfl rfl rfl ?_
      refine zs_getI (ip' := 68) rfl rfl (by omega) zsh_197 rfl (q := 3) rfl ?_
      intro hl67 hu67
      rw [h3] at hl67 hu67 ⊢
      refine zs_bald (ip' := 69) rfl rfl (by omega) zsh_198 (by omega) ?_
      intro hl68 hu68
      rw [hf.1 198 (by decide)] at hl68 hu68 ⊢
      have hxr := xKd_rng (G0 198 e)
      refine zW_cP (ip' := 70) rfl rfl (cX_kind hv) rfl rfl rfl ?_
      refine zs_aload (ip' := 71) rfl rfl rfl ?_
      refine zs_getI (ip' := 72) rfl rfl (by omega) zsh_197 rfl (q := 4) rfl ?_
      intro hl71 hu71
      rw [hf.2 4 (by decide), h4] at hl71 hu71 ⊢
      refine zs_icmp_ne (t := 80) (ip' := 73) rfl rfl (by omega) (by omega) ?_ ?_
      · intro h72
        exact hk G hf (by rw [h3, ← hz, zrun_e (Or.inr (fun q => h72 (hqe.mp q)))])
      · intro h72
        refine zs_aload (ip' := 74) rfl rfl rfl ?_
        refine zs_dupR (ip' := 75) rfl rfl ?_
        refine zs_getI (ip' := 76) rfl rfl (by omega) zsh_197 rfl (q := 3) rfl ?_
        intro hl75 hu75
        rw [h3] at hl75 hu75 ⊢
        refine zs_pushI (ip' := 77) rfl rfl zi_k1 ?_
        refine zs_iadd (ip' := 78) rfl rfl ?_
        refine zs_putI (ip' := 79) rfl rfl (by omega) zsh_197 rfl (q := 3) rfl (by omega) ?_
        refine zW_gk ?_
        intro G1 e1 f1
        refine zs_goto (t := 59) rfl ?_
        exact ih (e + 1) G1 (by omega) (by omega) (by rw [e1, zp_eq]) (by rw [← hz, zrun_s (by omega) (hqe.mpr h72)]) ⟨fun k hk => (f1 k hk).trans (hf.1 k hk), fun j hj => by rw [e1, zp_ne hj]; exact hf.2 j hj⟩
theorem cX_scan_a {N : Nat} {F : GM} {n : Nat} (hN : 229 ≤ N) {T : Int → Int} {m : Int} {E : Int} {G0 : GM} (hB : xBu G0 T m) {Q : Zq} (hk : ∀ G : GM, ((∀ k, k ≠ 197 → G k = G0 k) ∧ ∀ j, j ≠ 2 → G 197 j = G0 197 j) → G 197 2 = E → zW N 198 24 [.ref 197] [] G F n Q) : ∀ (d : Nat) (e : Int) (G : GM), m - e < (d : Int) → 0 ≤ e ∧ e ≤ m → G 197 2 = e → zrun (tBl T) m e = E → ((∀ k, k ≠ 197 → G k = G0 k) ∧ ∀ j, j ≠ 2 → G 197 j = G0 197 j) → zW N 198 4 [.ref 197] [] G F n Q := by
  intro d
  induction d with
  | zero =>
    intro e G hd he h3 hz hf
    exact absurd hd (by omega)
  | succ d ih =>
    intro e G hd he h3 hz hf
    obtain ⟨h0, ⟨m0, m1⟩, hT⟩ := id hB
    refine zs_aload (ip' := 5) rfl rfl rfl ?_
    refine zs_getI (ip' := 6) rfl rfl (by omega) zsh_197 rfl (q := 2) rfl ?_
    intro hl5 hu5
    rw [h3] at hl5 hu5 ⊢
    refine zs_aload (ip' := 7) rfl rfl rfl ?_
    refine zs_getI (ip' := 8) rfl rfl (by omega) zsh_197 rfl (q := 0) rfl ?_
    intro hl7 hu7
    rw [hf.2 0 (by decide), h0] at hl7 hu7 ⊢
    refine zs_icmp_ge (t := 24) (ip' := 9) rfl rfl (by omega) (by omega) ?_ ?_
    · intro h8
      exact hk G hf (by rw [h3, ← hz, zrun_e (Or.inl (by omega))])
    · intro h8
      obtain ⟨hv, hv2⟩ := hT e he.1 (by omega)
      have hqe : tBl T e ↔ xKd (G0 198 e) = 5 := (xKd_T hv hv2).2.2.2.symm
      refine zs_aload (ip' := 10) rfl rfl rfl ?_
      refine zs_getR (ip' := 11) rfl rfl (r := 198) (by omega) zsh_197 rfl ?_
      refine zs_aload (ip' := 12) rfl rfl rfl ?_
      refine zs_getI (ip' := 13) rfl rfl (by omega) zsh_197 rfl (q := 2) rfl ?_
      intro hl12 hu12
      rw [h3] at hl12 hu12 ⊢
      refine zs_bald (ip' := 14) rfl rfl (by omega) zsh_198 (by omega) ?_
      intro hl13 hu13
      rw [hf.1 198 (by decide)] at hl13 hu13 ⊢
      have hxr := xKd_rng (G0 198 e)
      refine zW_cP (ip' := 15) rfl rfl (cX_kind hv) rfl rfl rfl ?_
      refine zs_pushI (ip' := 16) rfl rfl zi_k5 ?_
      refine zs_icmp_ne (t := 24) (ip' := 17) rfl rfl (by omega) (by omega) ?_ ?_
      · intro h16
        exact hk G hf (by rw [h3, ← hz, zrun_e (Or.inr (fun q => h16 (hqe.mp q)))])
      · intro h16
        refine zs_aload (ip' := 18) rfl rfl rfl ?_
        refine zs_dupR (ip' := 19) rfl rfl ?_
        refine zs_getI (ip' := 20) rfl rfl (by omega) zsh_197 rfl (q := 2) rfl ?_
        intro hl19 hu19
        rw [h3] at hl19 hu19 ⊢
        refine zs_pushI (ip' := 21) rfl rfl zi_k1 ?_
        refine zs_iadd (ip' := 22) rfl rfl ?_
        refine zs_putI (ip' := 23) rfl rfl (by omega) zsh_197 rfl (q := 2) rfl (by omega) ?_
        refine zW_gk ?_
        intro G1 e1 f1
        refine zs_goto (t := 4) rfl ?_
        exact ih (e + 1) G1 (by omega) (by omega) (by rw [e1, zp_eq]) (by rw [← hz, zrun_s (by omega) (hqe.mpr h16)]) ⟨fun k hk => (f1 k hk).trans (hf.1 k hk), fun j hj => by rw [e1, zp_ne hj]; exact hf.2 j hj⟩
theorem cX_scan_c {N : Nat} {G0 G F : GM} {n : Nat} (hN : 229 ≤ N) {T : Int → Int} {m : Int} {p : Int} (hB : xBu G0 T m) (hp : 0 ≤ p ∧ p ≤ m) (hf : xRd G0 G) (h2 : G 197 2 = tB T m p) (h3 : G 197 3 = tE T m p) (hlt : tB T m p < m) (h4 : G 197 4 = xKd (G0 198 (tB T m p))) : zW N 198 80 [.ref 197] [] G F n (zV fun G' F' n' => (xRd G0 G' ∧ xTo G' T m p) ∧ F' = F ∧ n' = n) := by
  obtain ⟨-, ⟨m0, m1⟩, hT⟩ := id hB
  obtain ⟨r1, r2⟩ := tB_rng (T := T) hp.2
  obtain ⟨r3, r4, r5⟩ := tE_rng (T := T) hp.2
  obtain ⟨hv, hv2⟩ := hT (tB T m p) (by omega) hlt
  obtain ⟨i5, i1, i2, i3, i4⟩ := xTk_is hlt hp.2 hv hv2
  have hxr := xKd_rng (G0 198 (tB T m p))
  refine zs_aload (ip' := 81) rfl rfl rfl ?_
  refine zs_getI (ip' := 82) rfl rfl (by omega) zsh_197 rfl (q := 4) rfl ?_
  intro hl81 hu81
  rw [h4] at hl81 hu81 ⊢
  refine zs_pushI (ip' := 83) rfl rfl zi_k2 ?_
  refine zs_icmp_ne (t := 86) (ip' := 84) rfl rfl (by omega) (by omega) ?_ ?_
  · intro h83
    refine zW_1 rfl ?_
    rcases (by omega : xKd (G0 198 (tB T m p)) = 1 ∨ xKd (G0 198 (tB T m p)) = 3 ∨ xKd (G0 198 (tB T m p)) = 4) with q | q | q
    · obtain ⟨z1, z2⟩ := i1 q
      exact ⟨rfl, ⟨hf, h2, h3, by rw [h4, q, z1], fun z => by omega⟩, rfl, rfl⟩
    · obtain ⟨z1, z2⟩ := i3 q
      exact ⟨rfl, ⟨hf, h2, h3, by rw [h4, q, z1], fun z => by omega⟩, rfl, rfl⟩
    · obtain ⟨z1, z2⟩ := i4 q
      exact ⟨rfl, ⟨hf, h2, h3, by rw [h4, q, z1], fun z => by omega⟩, rfl, rfl⟩
  · intro h83
    refine zs_aload (ip' := 85) rfl rfl rfl ?_
    refine zW_cV (ip' := 86) rfl rfl (cX_num hN (xBu_rd hB hf) h2 h3 ⟨by omega, by omega, by omega⟩ (fun j j0 j1 => (zrun_rng (q := tDg T) (n := m) (p := tB T m p) (by omega)).2.2.1 j j0 (by rw [← (i2 h83).2.1]; exact j1))) rfl rfl (z_ok3 (by omega) zsh_197 rfl rfl rfl) ?_
    rintro G1 F' n' ⟨⟨g1, g2, g3, g4⟩, rfl, rfl⟩
    refine zW_1 rfl ?_
    obtain ⟨k1, k2, k3⟩ := i2 h83
    rcases g4 with ⟨g5, g6⟩ | ⟨g5, g6, g7⟩
    · rw [if_pos g5] at k1
      exact ⟨rfl, ⟨xRd_t hf g1, g2, g3, by rw [g6, k1], fun q => by omega⟩, rfl, rfl⟩
    · rw [if_neg (by omega)] at k1
      exact ⟨rfl, ⟨xRd_t hf g1, g2, g3, by rw [g6, h4, h83, k1], fun _ => by rw [g7, k3]⟩, rfl, rfl⟩
theorem cX_scan_m {N : Nat} {G0 G F : GM} {n : Nat} (hN : 229 ≤ N) {T : Int → Int} {m : Int} {p : Int} (hB : xBu G0 T m) (hp : 0 ≤ p ∧ p ≤ m) (hf : xRd G0 G) (h2 : G 197 2 = tB T m p) : zW N 198 24 [.ref 197] [] G F n (zV fun G' F' n' => (xRd G0 G' ∧ xTo G' T m p) ∧ F' = F ∧ n' = n) := by
  obtain ⟨h0, ⟨m0, m1⟩, hT⟩ := id hB
  obtain ⟨r1, r2⟩ := tB_rng (T := T) hp.2
  have hn0 : G 197 0 = m := (hf.2 0 (by omega)).trans h0
  refine zs_aload (ip' := 25) rfl rfl rfl ?_
  refine zs_aload (ip' := 26) rfl rfl rfl ?_
  refine zs_getI (ip' := 27) rfl rfl (by omega) zsh_197 rfl (q := 2) rfl ?_
  intro hl26 hu26
  rw [h2] at hl26 hu26 ⊢
  refine zs_putI (ip' := 28) rfl rfl (by omega) zsh_197 rfl (q := 3) rfl (by omega) ?_
  refine zW_gk ?_
  intro G1 e1 f1
  have hf1 : xRd G0 G1 := xRd_t hf (xRd_k (by decide) e1 f1)
  refine zs_aload (ip' := 29) rfl rfl rfl ?_
  refine zs_getI (ip' := 30) rfl rfl (by omega) zsh_197 rfl (q := 2) rfl ?_
  intro hl29 hu29
  rw [e1, zp_ne (by decide), h2] at hl29 hu29 ⊢
  refine zs_aload (ip' := 31) rfl rfl rfl ?_
  refine zs_getI (ip' := 32) rfl rfl (by omega) zsh_197 rfl (q := 0) rfl ?_
  intro hl31 hu31
  rw [e1, zp_ne (by decide), hn0] at hl31 hu31 ⊢
  refine zs_icmp_lt (t := 37) (ip' := 33) rfl rfl (by omega) (by omega) ?_ ?_
  · intro h32
    refine zs_aload (ip' := 38) rfl rfl rfl ?_
    refine zs_aload (ip' := 39) rfl rfl rfl ?_
    refine zs_getR (ip' := 40) rfl rfl (r := 198) (by omega) zsh_197 rfl ?_
    refine zs_aload (ip' := 41) rfl rfl rfl ?_
    refine zs_getI (ip' := 42) rfl rfl (by omega) zsh_197 rfl (q := 2) rfl ?_
    intro hl41 hu41
    rw [e1, zp_ne (by decide), h2] at hl41 hu41 ⊢
    refine zs_bald (ip' := 43) rfl rfl (by omega) zsh_198 (by omega) ?_
    intro hl42 hu42
    rw [hf1.1 198 (by decide)] at hl42 hu42 ⊢
    obtain ⟨hv, hv2⟩ := hT (tB T m p) (by omega) h32
    obtain ⟨i5, i1, i2, i3, i4⟩ := xTk_is h32 hp.2 hv hv2
    have hxr := xKd_rng (G0 198 (tB T m p))
    refine zW_cP (ip' := 44) rfl rfl (cX_kind hv) rfl rfl rfl ?_
    refine zs_putI (ip' := 45) rfl rfl (by omega) zsh_197 rfl (q := 4) rfl (by omega) ?_
    refine zW_gk ?_
    intro G2 e2 f2
    refine zs_aload (ip' := 46) rfl rfl rfl ?_
    refine zs_dupR (ip' := 47) rfl rfl ?_
    refine zs_getI (ip' := 48) rfl rfl (by omega) zsh_197 rfl (q := 3) rfl ?_
    intro hl47 hu47
    rw [e2, zp_ne (by decide), e1, zp_eq] at hl47 hu47 ⊢
    refine zs_pushI (ip' := 49) rfl rfl zi_k1 ?_
    refine zs_iadd (ip' := 50) rfl rfl ?_
    refine zs_putI (ip' := 51) rfl rfl (by omega) zsh_197 rfl (q := 3) rfl (by omega) ?_
    refine zW_gk ?_
    intro G3 e3 f3
    have hf3 : xRd G0 G3 := xRd_t (xRd_t hf1 (xRd_k (by decide) e2 f2)) (xRd_k (by decide) e3 f3)
    have g2 : G3 197 2 = tB T m p := by rw [e3, zp_ne (by decide), e2, zp_ne (by decide), e1, zp_ne (by decide)]; exact h2
    have g3 : G3 197 3 = tB T m p + 1 := by rw [e3, zp_eq]
    have g4 : G3 197 4 = xKd (G0 198 (tB T m p)) := by rw [e3, zp_ne (by decide), e2, zp_eq]
    refine zs_aload (ip' := 52) rfl rfl rfl ?_
    refine zs_getI (ip' := 53) rfl rfl (by omega) zsh_197 rfl (q := 4) rfl ?_
    intro hl52 hu52
    rw [g4] at hl52 hu52 ⊢
    refine zs_pushI (ip' := 54) rfl rfl zi_k1 ?_
    refine zs_icmp_eq (t := 59) (ip' := 55) rfl rfl (by omega) (by omega) ?_ ?_
    · intro h54
      exact cX_scan_b (q := tSm T) (E := tE T m p) hN (xBu_rd hB hf3) g4 (fun j j0 j1 => by
        obtain ⟨w1, w2⟩ := hT j j0 j1
        rw [hf3.1 198 (by decide), h54]
        exact (xKd_T w1 w2).1.symm) (fun G4 hf4 h34 => cX_scan_c hN hB hp (xRd_t hf3 ⟨hf4.1, fun j hj => hf4.2 j (by omega)⟩) ((hf4.2 2 (by decide)).trans g2) h34 h32 ((hf4.2 4 (by decide)).trans g4)) 801 (tB T m p + 1) G3 (by omega) (by omega) g3 (by rw [(i1 h54).2, ← zrun_s h32 ((xKd_T hv hv2).1.mp h54)]) ⟨fun _ _ => rfl, fun _ _ => rfl⟩
    · intro h54
      refine zs_aload (ip' := 56) rfl rfl rfl ?_
      refine zs_getI (ip' := 57) rfl rfl (by omega) zsh_197 rfl (q := 4) rfl ?_
      intro hl56 hu56
      rw [g4] at hl56 hu56 ⊢
      refine zs_pushI (ip' := 58) rfl rfl zi_k2 ?_
      refine zs_icmp_ne (t := 80) (ip' := 59) rfl rfl (by omega) (by omega) ?_ ?_
      · intro h58
        exact cX_scan_c hN hB hp hf3 g2 (by rw [g3]; rcases (by omega : xKd (G0 198 (tB T m p)) = 3 ∨ xKd (G0 198 (tB T m p)) = 4) with q | q <;> omega) h32 g4
      · intro h58
        exact cX_scan_b (q := tDg T) (E := tE T m p) hN (xBu_rd hB hf3) g4 (fun j j0 j1 => by
          obtain ⟨w1, w2⟩ := hT j j0 j1
          rw [hf3.1 198 (by decide), h58]
          exact (xKd_T w1 w2).2.1.symm) (fun G4 hf4 h34 => cX_scan_c hN hB hp (xRd_t hf3 ⟨hf4.1, fun j hj => hf4.2 j (by omega)⟩) ((hf4.2 2 (by decide)).trans g2) h34 h32 ((hf4.2 4 (by decide)).trans g4)) 801 (tB T m p + 1) G3 (by omega) (by omega) g3 (by rw [(i2 h58).2.1, ← zrun_s h32 ((xKd_T hv hv2).2.1.mp h58)]) ⟨fun _ _ => rfl, fun _ _ => rfl⟩
  · intro h32
    refine zs_aload (ip' := 34) rfl rfl rfl ?_
    refine zs_pushI (ip' := 35) rfl rfl zi_k0 ?_
    refine zs_putI (ip' := 36) rfl rfl (by omega) zsh_197 rfl (q := 4) rfl (by omega) ?_
    refine zW_gk ?_
    intro G9 e9 f9
    refine zW_1 rfl ?_
    obtain ⟨q1, q2⟩ := xTk_end (T := T) (p := p) (by omega : tB T m p = m)
    exact ⟨rfl, ⟨xRd_t hf1 (xRd_k (by decide) e9 f9), by rw [e9, zp_ne (by decide), e1, zp_ne (by decide)]; exact h2, by rw [e9, zp_ne (by decide), e1, zp_eq, q1]; omega, by rw [e9, zp_eq, q2], fun q => by omega⟩, rfl, rfl⟩
theorem cX_scan {N : Nat} {G F : GM} {n : Nat} (hN : 229 ≤ N) {T : Int → Int} {m : Int} {p : Int} (hB : xBu G T m) (hp : 0 ≤ p ∧ p ≤ m) (h3 : G 197 3 = p) : zC N 198 [.ref 197] G F n (zV fun G' F' n' => (xRd G G' ∧ xTo G' T m p) ∧ F' = F ∧ n' = n) := by
  obtain ⟨h0, ⟨m0, m1⟩, hT⟩ := id hB
  refine zC_i (L0 := [.ref 197]) rfl ?_
  refine zs_aload (ip' := 1) rfl rfl rfl ?_
  refine zs_aload (ip' := 2) rfl rfl rfl ?_
  refine zs_getI (ip' := 3) rfl rfl (by omega) zsh_197 rfl (q := 3) rfl ?_
  intro hl2 hu2
  rw [h3] at hl2 hu2 ⊢
  refine zs_putI (ip' := 4) rfl rfl (by omega) zsh_197 rfl (q := 2) rfl (by omega) ?_
  refine zW_gk ?_
  intro G1 e1 f1
  have hr1 : xRd G G1 := xRd_k (by decide) e1 f1
  exact cX_scan_a (E := tB T m p) hN (xBu_rd hB hr1) (fun G2 hf2 h22 => cX_scan_m hN hB hp (xRd_t hr1 ⟨hf2.1, fun j hj => hf2.2 j (by omega)⟩) h22) 801 p G1 (by omega) hp (by rw [e1, zp_eq]) rfl ⟨fun _ _ => rfl, fun _ _ => rfl⟩
