/-! The program: tokens taken (printed by wip/whole/src67.py). -/
theorem tWr_10 (T : Int → Int) (b : Int) : ∀ k : Nat, tWr T b (10 + k) = tWr T b 10 := by
  intro k
  induction k with
  | zero => rfl
  | succ k ih =>
    have e : tWr T b (10 + (k + 1)) = tWr T b (10 + k) := if_neg (show ¬ (((10 + k : Nat)) : Int) < 10 by omega)
    exact e.trans ih
theorem tWr_inj {T C : Int → Int} {b : Int} : ∀ k l : Nat, (∀ j, b ≤ j → j < b + k → tSm T j) → (∀ j : Int, 0 ≤ j → j < l → 97 ≤ C j ∧ C j ≤ 122) → k ≤ 10 → l ≤ 10 → (tWr T b k = tWr C 0 l ↔ (k : Int) = l ∧ ∀ j : Int, 0 ≤ j → j < l → T (b + j) = C j) := by
  intro k
  induction k with
  | zero =>
    intro l hT hC hk hl
    cases l with
    | zero => exact ⟨fun _ => ⟨rfl, fun j a b => absurd b (by omega)⟩, fun _ => rfl⟩
    | succ l =>
      have e : tWr C 0 (l + 1) = 27 * tWr C 0 l + C (0 + l) - 96 := if_pos (by omega)
      have hr := tWr_rng (T := C) 0 l (fun j j0 j1 => hC j j0 (by omega))
      have hc := hC (0 + l) (by omega) (by omega)
      have e0 : tWr T b 0 = 0 := rfl
      rw [e, e0]
      exact ⟨fun q => by omega, fun q => by have := q.1; omega⟩
  | succ k ih =>
    intro l hT hC hk hl
    have e : tWr T b (k + 1) = 27 * tWr T b k + T (b + k) - 96 := if_pos (by omega)
    have hr := tWr_rng (T := T) b k (fun j j0 j1 => hT j j0 (by omega))
    have hc : tSm T (b + k) := hT (b + k) (by omega) (by omega)
    obtain ⟨hc1, hc2⟩ := id hc
    cases l with
    | zero =>
      have e0 : tWr C 0 0 = 0 := rfl
      rw [e, e0]
      exact ⟨fun q => by omega, fun q => by have := q.1; omega⟩
    | succ l =>
      have e2 : tWr C 0 (l + 1) = 27 * tWr C 0 l + C (0 + l) - 96 := if_pos (by omega)
      have hd := hC (0 + l) (by omega) (by omega)
      have hi := ih l (fun j j0 j1 => hT j j0 (by omega)) (fun j j0 j1 => hC j j0 (by omega)) (by omega) (by omega)
      rw [e, e2]
      constructor
      · intro q
        obtain ⟨h1, h2⟩ := hi.mp (by omega)
        refine ⟨by omega, fun j j0 j1 => ?_⟩
        by_cases ej : j < l
        · exact h2 j j0 ej
        · rw [show j = (l : Int) by omega, show b + (l : Int) = b + (k : Int) by omega, show (l : Int) = 0 + (l : Int) by omega]
          omega
      · rintro ⟨h1, h2⟩
        have h3 := hi.mpr ⟨by omega, fun j j0 j1 => h2 j j0 (by omega)⟩
        have h4 := h2 (l : Int) (by omega) (by omega)
        rw [show b + (l : Int) = b + (k : Int) by omega, show C (l : Int) = C (0 + (l : Int)) by rw [Int.zero_add]] at h4
        omega
theorem zSc_low : ∀ i, i < 10 → i ≠ 0 → ∀ j, j < 9 → j < zSl.getD i 0 → 97 ≤ ((zSb.getD i []).getD j 0).toInt ∧ ((zSb.getD i []).getD j 0).toInt ≤ 122 := by decide +kernel
theorem xWord {T : Int → Int} {m p : Int} (hp : p ≤ m) {i l : Nat} {V : Int} (hi : i < 10 ∧ i ≠ 0) (hl : zSl.getD i 0 = l) (h9 : l ≤ 9) (hV : tWr (zSc i) 0 l = V) (hk : tK T m p = 1) : tW T m p = V ↔ tE T m p - tB T m p = l ∧ ∀ j : Int, 0 ≤ j → j < l → T (tB T m p + j) = zSc i j := by
  have hne : tB T m p ≠ m := fun e => by
    have := (xTk_end e).2
    omega
  have hsm : tSm T (tB T m p) := by
    by_cases q : tSm T (tB T m p)
    · exact q
    · have e : tK T m p = _ := (if_neg hne).trans (if_neg q)
      rw [e] at hk
      split at hk
      · split at hk <;> omega
      · split at hk <;> omega
  obtain ⟨r1, r2⟩ := tB_rng (T := T) hp
  obtain ⟨r3, r4, r5⟩ := tE_rng (T := T) hp
  have eE : tE T m p = zrun (tSm T) m (tB T m p) := (if_neg hne).trans (if_pos hsm)
  have eW : tW T m p = tWr T (tB T m p) (tE T m p - tB T m p).toNat := (if_neg hne).trans (if_pos hsm)
  have hT : ∀ j, tB T m p ≤ j → j < tE T m p → tSm T j := fun j j0 j1 => (zrun_rng (q := tSm T) (n := m) (p := tB T m p) r2).2.2.1 j j0 (by rw [← eE]; exact j1)
  have hC : ∀ j : Int, 0 ≤ j → j < l → 97 ≤ zSc i j ∧ zSc i j ≤ 122 := fun j j0 j1 => zSc_low i hi.1 hi.2 j.toNat (by omega) (by omega)
  obtain ⟨k, hk2⟩ : ∃ k : Nat, tE T m p - tB T m p = (k : Int) := ⟨(tE T m p - tB T m p).toNat, by omega⟩
  rw [eW, ← hV, hk2, Int.toNat_natCast]
  by_cases h10 : k ≤ 10
  · exact tWr_inj k l (fun j j0 j1 => hT j j0 (by omega)) hC h10 (by omega)
  · obtain ⟨d, rfl⟩ : ∃ d, k = 10 + d := ⟨k - 10, by omega⟩
    rw [tWr_10, tWr_inj 10 l (fun j j0 j1 => hT j j0 (by omega)) hC (by omega) (by omega)]
    exact ⟨fun q => by have := q.1; omega, fun q => by have := q.1; omega⟩
/-- only the reader has changed, and its buffer has not -/
def xRt (G G' : GM) : Prop := (∀ k, k ≠ 197 → G' k = G k) ∧ ∀ j, j ≤ 1 → G' 197 j = G 197 j
theorem xRt_r (G : GM) : xRt G G := ⟨fun _ _ => rfl, fun _ _ => rfl⟩
theorem xRt_t {G G1 G2 : GM} (h : xRt G G1) (h2 : xRt G1 G2) : xRt G G2 := ⟨fun k a => (h2.1 k a).trans (h.1 k a), fun j a => (h2.2 j a).trans (h.2 j a)⟩
theorem xRt_d {G G' : GM} (h : xRd G G') : xRt G G' := ⟨h.1, fun j hj => h.2 j (Or.inl hj)⟩
theorem xBu_rt {G G' : GM} {T : Int → Int} {m : Int} (h : xBu G T m) (e : xRt G G') : xBu G' T m := by
  obtain ⟨h1, h2, h3⟩ := h
  refine ⟨(e.2 0 (by omega)).trans h1, h2, ?_⟩
  rw [e.1 198 (by decide)]
  exact h3
theorem tE_in {T : Int → Int} {m p : Int} (hp : 0 ≤ p ∧ p ≤ m) : 0 ≤ tE T m p ∧ tE T m p ≤ m := by
  obtain ⟨r1, r2⟩ := tB_rng (T := T) hp.2
  obtain ⟨r3, r4, r5⟩ := tE_rng (T := T) hp.2
  omega
theorem zSv_1 : tWr (zSc 1) 0 5 = 6942059 := by decide +kernel
theorem cX_word_1_l {N : Nat} {G F : GM} {n : Nat} (hN : 229 ≤ N) {T : Int → Int} {m : Int} {p : Int} (hB : xBu G T m) (hp : 0 ≤ p ∧ p ≤ m) (hS : xTo G T m p) (hk1 : tK T m p = 1) (hln : tE T m p - tB T m p = 5) : ∀ (d : Nat) (k : Nat), 5 - (k : Int) < (d : Int) → (k : Int) ≤ 5 → (∀ j : Int, 0 ≤ j → j < k → T (tB T m p + j) = zSc 1 j) → zW N 192 16 [.ref 197, .ref 321, .int (zi (k : Int))] [] G F n (zR fun v G' F' n' => ((v = 1 ∧ (tK T m p = 1 ∧ tW T m p = 6942059) ∧ xRt G G' ∧ xTo G' T m (tE T m p)) ∨ (v = 0 ∧ ¬ (tK T m p = 1 ∧ tW T m p = 6942059) ∧ G' = G)) ∧ F' = F ∧ n' = n) := by
  intro d
  induction d with
  | zero =>
    intro k hd hj hc
    exact absurd hd (by omega)
  | succ d ih =>
    intro k hd hj hc
    obtain ⟨h0, ⟨m0, m1⟩, hT⟩ := id hB
    obtain ⟨s2, s3, s4, s5⟩ := id hS
    obtain ⟨r1, r2⟩ := tB_rng (T := T) hp.2
    obtain ⟨r3, r4, r5⟩ := tE_rng (T := T) hp.2
    have rk := tK_rng (T := T) (n := m) (p := p)
    have rv := tV_rng (T := T) hp.2
    have re := tE_in (T := T) hp
    have hxw := xWord hp.2 (i := 1) (l := 5) ⟨by decide, by decide⟩ rfl (by decide) zSv_1 hk1
    refine zs_iload (ip' := 17) rfl rfl rfl ?_
    refine zs_aload (ip' := 18) rfl rfl rfl ?_
    refine zW_cP (ip' := 19) rfl rfl zJ_len_1 rfl rfl rfl ?_
    refine zs_icmp_ge (t := 35) (ip' := 20) rfl rfl (by omega) (by omega) ?_ ?_
    · intro h19
      refine zs_aload (ip' := 36) rfl rfl rfl ?_
      refine zW_cV (ip' := 37) rfl rfl (cX_scan hN hB re s3) rfl rfl (z_ok3 (by omega) zsh_197 rfl rfl rfl) ?_
      rintro G1 F' n' ⟨⟨hrd, hto⟩, rfl, rfl⟩
      refine zs_pushI (ip' := 38) rfl rfl zi_k1 ?_
      refine zW_0b rfl (Or.inr rfl) ?_
      exact ⟨1, rfl, by decide, Or.inl ⟨rfl, ⟨hk1, hxw.mpr ⟨hln, fun j j0 j1 => hc j j0 (by omega)⟩⟩, xRt_d hrd, hto⟩, rfl, rfl⟩
    · intro h19
      refine zs_aload (ip' := 21) rfl rfl rfl ?_
      refine zs_getR (ip' := 22) rfl rfl (r := 198) (by omega) zsh_197 rfl ?_
      refine zs_aload (ip' := 23) rfl rfl rfl ?_
      refine zs_getI (ip' := 24) rfl rfl (by omega) zsh_197 rfl (q := 2) rfl ?_
      intro hl23 hu23
      rw [s2] at hl23 hu23 ⊢
      refine zs_iload (ip' := 25) rfl rfl rfl ?_
      refine zs_iadd (ip' := 26) rfl rfl ?_
      refine zs_bald (ip' := 27) rfl rfl (by omega) zsh_198 (by omega) ?_
      intro hl26 hu26
      obtain ⟨hv, hv2⟩ := hT (tB T m p + (k : Int)) (by omega) (by omega)
      have hzr := zSc_rng (i := 1) (j := (k : Int)) (by decide) (ln := 5) rfl ⟨by omega, by omega⟩ (by decide)
      refine zs_aload (ip' := 28) rfl rfl rfl ?_
      refine zs_iload (ip' := 29) rfl rfl rfl ?_
      refine zW_cP (ip' := 30) rfl rfl (zJ_chr_1 ⟨by omega, by omega⟩) rfl rfl rfl ?_
      refine zs_icmp_eq (t := 33) (ip' := 31) rfl rfl (by omega) (by omega) ?_ ?_
      · intro h30
        refine zs_iinc2 (ip' := 34) rfl rfl zi_k1 ?_
        refine zs_goto (t := 16) rfl ?_
        exact ih (k + 1) (by omega) (by omega) (fun j j0 j1 => if e : j < k then hc j j0 e else by rw [show j = (k : Int) by omega]; omega)
      · intro h30
        refine zs_pushI (ip' := 32) rfl rfl zi_k0 ?_
        refine zW_0b rfl (Or.inl rfl) ?_
        refine ⟨0, rfl, by decide, Or.inr ⟨rfl, fun q => ?_, rfl⟩, rfl, rfl⟩
        have := (hxw.mp q.2).2 (k : Int) (by omega) (by omega)
        omega
theorem cX_word_1 {N : Nat} {G F : GM} {n : Nat} (hN : 229 ≤ N) {T : Int → Int} {m : Int} {p : Int} (hB : xBu G T m) (hp : 0 ≤ p ∧ p ≤ m) (hS : xTo G T m p) : zC N 192 [.ref 197, .ref 321] G F n (zR fun v G' F' n' => ((v = 1 ∧ (tK T m p = 1 ∧ tW T m p = 6942059) ∧ xRt G G' ∧ xTo G' T m (tE T m p)) ∨ (v = 0 ∧ ¬ (tK T m p = 1 ∧ tW T m p = 6942059) ∧ G' = G)) ∧ F' = F ∧ n' = n) := by
  obtain ⟨h0, ⟨m0, m1⟩, hT⟩ := id hB
  obtain ⟨s2, s3, s4, s5⟩ := id hS
  obtain ⟨r1, r2⟩ := tB_rng (T := T) hp.2
  obtain ⟨r3, r4, r5⟩ := tE_rng (T := T) hp.2
  have rk := tK_rng (T := T) (n := m) (p := p)
  have rv := tV_rng (T := T) hp.2
  have re := tE_in (T := T) hp
  refine zC_i (L0 := [.ref 197, .ref 321, .null]) rfl ?_
  refine zs_aload (ip' := 1) rfl rfl rfl ?_
  refine zs_getI (ip' := 2) rfl rfl (by omega) zsh_197 rfl (q := 4) rfl ?_
  intro hl1 hu1
  rw [s4] at hl1 hu1 ⊢
  refine zs_pushI (ip' := 3) rfl rfl zi_k1 ?_
  refine zs_icmp_ne (t := 12) (ip' := 4) rfl rfl (by omega) (by omega) ?_ ?_
  · intro h3
    refine zs_pushI (ip' := 13) rfl rfl zi_k0 ?_
    refine zW_0b rfl (Or.inl rfl) ?_
    exact ⟨0, rfl, by decide, Or.inr ⟨rfl, fun q => h3 (by omega), rfl⟩, rfl, rfl⟩
  · intro h3
    refine zs_aload (ip' := 5) rfl rfl rfl ?_
    refine zs_getI (ip' := 6) rfl rfl (by omega) zsh_197 rfl (q := 3) rfl ?_
    intro hl5 hu5
    rw [s3] at hl5 hu5 ⊢
    refine zs_aload (ip' := 7) rfl rfl rfl ?_
    refine zs_getI (ip' := 8) rfl rfl (by omega) zsh_197 rfl (q := 2) rfl ?_
    intro hl7 hu7
    rw [s2] at hl7 hu7 ⊢
    refine zs_isub (ip' := 9) rfl rfl ?_
    refine zs_aload (ip' := 10) rfl rfl rfl ?_
    refine zW_cP (ip' := 11) rfl rfl zJ_len_1 rfl rfl rfl ?_
    refine zs_icmp_eq (t := 14) (ip' := 12) rfl rfl (by omega) (by omega) ?_ ?_
    · intro h11
      refine zs_pushI (ip' := 15) rfl rfl zi_k0 ?_
      refine zs_istore2 (ip' := 16) rfl rfl ?_
      exact cX_word_1_l hN hB hp hS (by omega) (by omega) 6 0 (by omega) (by omega) (fun j a b => absurd b (by omega))
    · intro h11
      refine zs_pushI (ip' := 13) rfl rfl zi_k0 ?_
      refine zW_0b rfl (Or.inl rfl) ?_
      refine ⟨0, rfl, by decide, Or.inr ⟨rfl, fun q => ?_, rfl⟩, rfl, rfl⟩
      have := ((xWord hp.2 (i := 1) (l := 5) ⟨by decide, by decide⟩ rfl (by decide) zSv_1 (by omega)).mp q.2).1
      omega
theorem zSv_2 : tWr (zSc 2) 0 5 = 1834209 := by decide +kernel
theorem cX_word_2_l {N : Nat} {G F : GM} {n : Nat} (hN : 229 ≤ N) {T : Int → Int} {m : Int} {p : Int} (hB : xBu G T m) (hp : 0 ≤ p ∧ p ≤ m) (hS : xTo G T m p) (hk1 : tK T m p = 1) (hln : tE T m p - tB T m p = 5) : ∀ (d : Nat) (k : Nat), 5 - (k : Int) < (d : Int) → (k : Int) ≤ 5 → (∀ j : Int, 0 ≤ j → j < k → T (tB T m p + j) = zSc 2 j) → zW N 192 16 [.ref 197, .ref 322, .int (zi (k : Int))] [] G F n (zR fun v G' F' n' => ((v = 1 ∧ (tK T m p = 1 ∧ tW T m p = 1834209) ∧ xRt G G' ∧ xTo G' T m (tE T m p)) ∨ (v = 0 ∧ ¬ (tK T m p = 1 ∧ tW T m p = 1834209) ∧ G' = G)) ∧ F' = F ∧ n' = n) := by
  intro d
  induction d with
  | zero =>
    intro k hd hj hc
    exact absurd hd (by omega)
  | succ d ih =>
    intro k hd hj hc
    obtain ⟨h0, ⟨m0, m1⟩, hT⟩ := id hB
    obtain ⟨s2, s3, s4, s5⟩ := id hS
    obtain ⟨r1, r2⟩ := tB_rng (T := T) hp.2
    obtain ⟨r3, r4, r5⟩ := tE_rng (T := T) hp.2
    have rk := tK_rng (T := T) (n := m) (p := p)
    have rv := tV_rng (T := T) hp.2
    have re := tE_in (T := T) hp
    have hxw := xWord hp.2 (i := 2) (l := 5) ⟨by decide, by decide⟩ rfl (by decide) zSv_2 hk1
    refine zs_iload (ip' := 17) rfl rfl rfl ?_
    refine zs_aload (ip' := 18) rfl rfl rfl ?_
    refine zW_cP (ip' := 19) rfl rfl zJ_len_2 rfl rfl rfl ?_
    refine zs_icmp_ge (t := 35) (ip' := 20) rfl rfl (by omega) (by omega) ?_ ?_
    · intro h19
      refine zs_aload (ip' := 36) rfl rfl rfl ?_
      refine zW_cV (ip' := 37) rfl rfl (cX_scan hN hB re s3) rfl rfl (z_ok3 (by omega) zsh_197 rfl rfl rfl) ?_
      rintro G1 F' n' ⟨⟨hrd, hto⟩, rfl, rfl⟩
      refine zs_pushI (ip' := 38) rfl rfl zi_k1 ?_
      refine zW_0b rfl (Or.inr rfl) ?_
      exact ⟨1, rfl, by decide, Or.inl ⟨rfl, ⟨hk1, hxw.mpr ⟨hln, fun j j0 j1 => hc j j0 (by omega)⟩⟩, xRt_d hrd, hto⟩, rfl, rfl⟩
    · intro h19
      refine zs_aload (ip' := 21) rfl rfl rfl ?_
      refine zs_getR (ip' := 22) rfl rfl (r := 198) (by omega) zsh_197 rfl ?_
      refine zs_aload (ip' := 23) rfl rfl rfl ?_
      refine zs_getI (ip' := 24) rfl rfl (by omega) zsh_197 rfl (q := 2) rfl ?_
      intro hl23 hu23
      rw [s2] at hl23 hu23 ⊢
      refine zs_iload (ip' := 25) rfl rfl rfl ?_
      refine zs_iadd (ip' := 26) rfl rfl ?_
      refine zs_bald (ip' := 27) rfl rfl (by omega) zsh_198 (by omega) ?_
      intro hl26 hu26
      obtain ⟨hv, hv2⟩ := hT (tB T m p + (k : Int)) (by omega) (by omega)
      have hzr := zSc_rng (i := 2) (j := (k : Int)) (by decide) (ln := 5) rfl ⟨by omega, by omega⟩ (by decide)
      refine zs_aload (ip' := 28) rfl rfl rfl ?_
      refine zs_iload (ip' := 29) rfl rfl rfl ?_
      refine zW_cP (ip' := 30) rfl rfl (zJ_chr_2 ⟨by omega, by omega⟩) rfl rfl rfl ?_
      refine zs_icmp_eq (t := 33) (ip' := 31) rfl rfl (by omega) (by omega) ?_ ?_
      · intro h30
        refine zs_iinc2 (ip' := 34) rfl rfl zi_k1 ?_
        refine zs_goto (t := 16) rfl ?_
        exact ih (k + 1) (by omega) (by omega) (fun j j0 j1 => if e : j < k then hc j j0 e else by rw [show j = (k : Int) by omega]; omega)
      · intro h30
        refine zs_pushI (ip' := 32) rfl rfl zi_k0 ?_
        refine zW_0b rfl (Or.inl rfl) ?_
        refine ⟨0, rfl, by decide, Or.inr ⟨rfl, fun q => ?_, rfl⟩, rfl, rfl⟩
        have := (hxw.mp q.2).2 (k : Int) (by omega) (by omega)
        omega
theorem cX_word_2 {N : Nat} {G F : GM} {n : Nat} (hN : 229 ≤ N) {T : Int → Int} {m : Int} {p : Int} (hB : xBu G T m) (hp : 0 ≤ p ∧ p ≤ m) (hS : xTo G T m p) : zC N 192 [.ref 197, .ref 322] G F n (zR fun v G' F' n' => ((v = 1 ∧ (tK T m p = 1 ∧ tW T m p = 1834209) ∧ xRt G G' ∧ xTo G' T m (tE T m p)) ∨ (v = 0 ∧ ¬ (tK T m p = 1 ∧ tW T m p = 1834209) ∧ G' = G)) ∧ F' = F ∧ n' = n) := by
  obtain ⟨h0, ⟨m0, m1⟩, hT⟩ := id hB
  obtain ⟨s2, s3, s4, s5⟩ := id hS
  obtain ⟨r1, r2⟩ := tB_rng (T := T) hp.2
  obtain ⟨r3, r4, r5⟩ := tE_rng (T := T) hp.2
  have rk := tK_rng (T := T) (n := m) (p := p)
  have rv := tV_rng (T := T) hp.2
  have re := tE_in (T := T) hp
  refine zC_i (L0 := [.ref 197, .ref 322, .null]) rfl ?_
  refine zs_aload (ip' := 1) rfl rfl rfl ?_
  refine zs_getI (ip' := 2) rfl rfl (by omega) zsh_197 rfl (q := 4) rfl ?_
  intro hl1 hu1
  rw [s4] at hl1 hu1 ⊢
  refine zs_pushI (ip' := 3) rfl rfl zi_k1 ?_
  refine zs_icmp_ne (t := 12) (ip' := 4) rfl rfl (by omega) (by omega) ?_ ?_
  · intro h3
    refine zs_pushI (ip' := 13) rfl rfl zi_k0 ?_
    refine zW_0b rfl (Or.inl rfl) ?_
    exact ⟨0, rfl, by decide, Or.inr ⟨rfl, fun q => h3 (by omega), rfl⟩, rfl, rfl⟩
  · intro h3
    refine zs_aload (ip' := 5) rfl rfl rfl ?_
    refine zs_getI (ip' := 6) rfl rfl (by omega) zsh_197 rfl (q := 3) rfl ?_
    intro hl5 hu5
    rw [s3] at hl5 hu5 ⊢
    refine zs_aload (ip' := 7) rfl rfl rfl ?_
    refine zs_getI (ip' := 8) rfl rfl (by omega) zsh_197 rfl (q := 2) rfl ?_
    intro hl7 hu7
    rw [s2] at hl7 hu7 ⊢
    refine zs_isub (ip' := 9) rfl rfl ?_
    refine zs_aload (ip' := 10) rfl rfl rfl ?_
    refine zW_cP (ip' := 11) rfl rfl zJ_len_2 rfl rfl rfl ?_
    refine zs_icmp_eq (t := 14) (ip' := 12) rfl rfl (by omega) (by omega) ?_ ?_
    · intro h11
      refine zs_pushI (ip' := 15) rfl rfl zi_k0 ?_
      refine zs_istore2 (ip' := 16) rfl rfl ?_
      exact cX_word_2_l hN hB hp hS (by omega) (by omega) 6 0 (by omega) (by omega) (fun j a b => absurd b (by omega))
    · intro h11
      refine zs_pushI (ip' := 13) rfl rfl zi_k0 ?_
      refine zW_0b rfl (Or.inl rfl) ?_
      refine ⟨0, rfl, by decide, Or.inr ⟨rfl, fun q => ?_, rfl⟩, rfl, rfl⟩
      have := ((xWord hp.2 (i := 2) (l := 5) ⟨by decide, by decide⟩ rfl (by decide) zSv_2 (by omega)).mp q.2).1
      omega
theorem zSv_3 : tWr (zSc 3) 0 3 = 13550 := by decide +kernel
theorem cX_word_3_l {N : Nat} {G F : GM} {n : Nat} (hN : 229 ≤ N) {T : Int → Int} {m : Int} {p : Int} (hB : xBu G T m) (hp : 0 ≤ p ∧ p ≤ m) (hS : xTo G T m p) (hk1 : tK T m p = 1) (hln : tE T m p - tB T m p = 3) : ∀ (d : Nat) (k : Nat), 3 - (k : Int) < (d : Int) → (k : Int) ≤ 3 → (∀ j : Int, 0 ≤ j → j < k → T (tB T m p + j) = zSc 3 j) → zW N 192 16 [.ref 197, .ref 323, .int (zi (k : Int))] [] G F n (zR fun v G' F' n' => ((v = 1 ∧ (tK T m p = 1 ∧ tW T m p = 13550) ∧ xRt G G' ∧ xTo G' T m (tE T m p)) ∨ (v = 0 ∧ ¬ (tK T m p = 1 ∧ tW T m p = 13550) ∧ G' = G)) ∧ F' = F ∧ n' = n) := by
  intro d
  induction d with
  | zero =>
    intro k hd hj hc
    exact absurd hd (by omega)
  | succ d ih =>
    intro k hd hj hc
    obtain ⟨h0, ⟨m0, m1⟩, hT⟩ := id hB
    obtain ⟨s2, s3, s4, s5⟩ := id hS
    obtain ⟨r1, r2⟩ := tB_rng (T := T) hp.2
    obtain ⟨r3, r4, r5⟩ := tE_rng (T := T) hp.2
    have rk := tK_rng (T := T) (n := m) (p := p)
    have rv := tV_rng (T := T) hp.2
    have re := tE_in (T := T) hp
    have hxw := xWord hp.2 (i := 3) (l := 3) ⟨by decide, by decide⟩ rfl (by decide) zSv_3 hk1
    refine zs_iload (ip' := 17) rfl rfl rfl ?_
    refine zs_aload (ip' := 18) rfl rfl rfl ?_
    refine zW_cP (ip' := 19) rfl rfl zJ_len_3 rfl rfl rfl ?_
    refine zs_icmp_ge (t := 35) (ip' := 20) rfl rfl (by omega) (by omega) ?_ ?_
    · intro h19
      refine zs_aload (ip' := 36) rfl rfl rfl ?_
      refine zW_cV (ip' := 37) rfl rfl (cX_scan hN hB re s3) rfl rfl (z_ok3 (by omega) zsh_197 rfl rfl rfl) ?_
      rintro G1 F' n' ⟨⟨hrd, hto⟩, rfl, rfl⟩
      refine zs_pushI (ip' := 38) rfl rfl zi_k1 ?_
      refine zW_0b rfl (Or.inr rfl) ?_
      exact ⟨1, rfl, by decide, Or.inl ⟨rfl, ⟨hk1, hxw.mpr ⟨hln, fun j j0 j1 => hc j j0 (by omega)⟩⟩, xRt_d hrd, hto⟩, rfl, rfl⟩
    · intro h19
      refine zs_aload (ip' := 21) rfl rfl rfl ?_
      refine zs_getR (ip' := 22) rfl rfl (r := 198) (by omega) zsh_197 rfl ?_
      refine zs_aload (ip' := 23) rfl rfl rfl ?_
      refine zs_getI (ip' := 24) rfl rfl (by omega) zsh_197 rfl (q := 2) rfl ?_
      intro hl23 hu23
      rw [s2] at hl23 hu23 ⊢
      refine zs_iload (ip' := 25) rfl rfl rfl ?_
      refine zs_iadd (ip' := 26) rfl rfl ?_
      refine zs_bald (ip' := 27) rfl rfl (by omega) zsh_198 (by omega) ?_
      intro hl26 hu26
      obtain ⟨hv, hv2⟩ := hT (tB T m p + (k : Int)) (by omega) (by omega)
      have hzr := zSc_rng (i := 3) (j := (k : Int)) (by decide) (ln := 3) rfl ⟨by omega, by omega⟩ (by decide)
      refine zs_aload (ip' := 28) rfl rfl rfl ?_
      refine zs_iload (ip' := 29) rfl rfl rfl ?_
      refine zW_cP (ip' := 30) rfl rfl (zJ_chr_3 ⟨by omega, by omega⟩) rfl rfl rfl ?_
      refine zs_icmp_eq (t := 33) (ip' := 31) rfl rfl (by omega) (by omega) ?_ ?_
      · intro h30
        refine zs_iinc2 (ip' := 34) rfl rfl zi_k1 ?_
        refine zs_goto (t := 16) rfl ?_
        exact ih (k + 1) (by omega) (by omega) (fun j j0 j1 => if e : j < k then hc j j0 e else by rw [show j = (k : Int) by omega]; omega)
      · intro h30
        refine zs_pushI (ip' := 32) rfl rfl zi_k0 ?_
        refine zW_0b rfl (Or.inl rfl) ?_
        refine ⟨0, rfl, by decide, Or.inr ⟨rfl, fun q => ?_, rfl⟩, rfl, rfl⟩
        have := (hxw.mp q.2).2 (k : Int) (by omega) (by omega)
        omega
theorem cX_word_3 {N : Nat} {G F : GM} {n : Nat} (hN : 229 ≤ N) {T : Int → Int} {m : Int} {p : Int} (hB : xBu G T m) (hp : 0 ≤ p ∧ p ≤ m) (hS : xTo G T m p) : zC N 192 [.ref 197, .ref 323] G F n (zR fun v G' F' n' => ((v = 1 ∧ (tK T m p = 1 ∧ tW T m p = 13550) ∧ xRt G G' ∧ xTo G' T m (tE T m p)) ∨ (v = 0 ∧ ¬ (tK T m p = 1 ∧ tW T m p = 13550) ∧ G' = G)) ∧ F' = F ∧ n' = n) := by
  obtain ⟨h0, ⟨m0, m1⟩, hT⟩ := id hB
  obtain ⟨s2, s3, s4, s5⟩ := id hS
  obtain ⟨r1, r2⟩ := tB_rng (T := T) hp.2
  obtain ⟨r3, r4, r5⟩ := tE_rng (T := T) hp.2
  have rk := tK_rng (T := T) (n := m) (p := p)
  have rv := tV_rng (T := T) hp.2
  have re := tE_in (T := T) hp
  refine zC_i (L0 := [.ref 197, .ref 323, .null]) rfl ?_
  refine zs_aload (ip' := 1) rfl rfl rfl ?_
  refine zs_getI (ip' := 2) rfl rfl (by omega) zsh_197 rfl (q := 4) rfl ?_
  intro hl1 hu1
  rw [s4] at hl1 hu1 ⊢
  refine zs_pushI (ip' := 3) rfl rfl zi_k1 ?_
  refine zs_icmp_ne (t := 12) (ip' := 4) rfl rfl (by omega) (by omega) ?_ ?_
  · intro h3
    refine zs_pushI (ip' := 13) rfl rfl zi_k0 ?_
    refine zW_0b rfl (Or.inl rfl) ?_
    exact ⟨0, rfl, by decide, Or.inr ⟨rfl, fun q => h3 (by omega), rfl⟩, rfl, rfl⟩
  · intro h3
    refine zs_aload (ip' := 5) rfl rfl rfl ?_
    refine zs_getI (ip' := 6) rfl rfl (by omega) zsh_197 rfl (q := 3) rfl ?_
    intro hl5 hu5
    rw [s3] at hl5 hu5 ⊢
    refine zs_aload (ip' := 7) rfl rfl rfl ?_
    refine zs_getI (ip' := 8) rfl rfl (by omega) zsh_197 rfl (q := 2) rfl ?_
    intro hl7 hu7
    rw [s2] at hl7 hu7 ⊢
    refine zs_isub (ip' := 9) rfl rfl ?_
    refine zs_aload (ip' := 10) rfl rfl rfl ?_
    refine zW_cP (ip' := 11) rfl rfl zJ_len_3 rfl rfl rfl ?_
    refine zs_icmp_eq (t := 14) (ip' := 12) rfl rfl (by omega) (by omega) ?_ ?_
    · intro h11
      refine zs_pushI (ip' := 15) rfl rfl zi_k0 ?_
      refine zs_istore2 (ip' := 16) rfl rfl ?_
      exact cX_word_3_l hN hB hp hS (by omega) (by omega) 4 0 (by omega) (by omega) (fun j a b => absurd b (by omega))
    · intro h11
      refine zs_pushI (ip' := 13) rfl rfl zi_k0 ?_
      refine zW_0b rfl (Or.inl rfl) ?_
      refine ⟨0, rfl, by decide, Or.inr ⟨rfl, fun q => ?_, rfl⟩, rfl, rfl⟩
      have := ((xWord hp.2 (i := 3) (l := 3) ⟨by decide, by decide⟩ rfl (by decide) zSv_3 (by omega)).mp q.2).1
      omega
theorem zSv_4 : tWr (zSc 4) 0 3 = 4786 := by decide +kernel
theorem cX_word_4_l {N : Nat} {G F : GM} {n : Nat} (hN : 229 ≤ N) {T : Int → Int} {m : Int} {p : Int} (hB : xBu G T m) (hp : 0 ≤ p ∧ p ≤ m) (hS : xTo G T m p) (hk1 : tK T m p = 1) (hln : tE T m p - tB T m p = 3) : ∀ (d : Nat) (k : Nat), 3 - (k : Int) < (d : Int) → (k : Int) ≤ 3 → (∀ j : Int, 0 ≤ j → j < k → T (tB T m p + j) = zSc 4 j) → zW N 192 16 [.ref 197, .ref 324, .int (zi (k : Int))] [] G F n (zR fun v G' F' n' => ((v = 1 ∧ (tK T m p = 1 ∧ tW T m p = 4786) ∧ xRt G G' ∧ xTo G' T m (tE T m p)) ∨ (v = 0 ∧ ¬ (tK T m p = 1 ∧ tW T m p = 4786) ∧ G' = G)) ∧ F' = F ∧ n' = n) := by
  intro d
  induction d with
  | zero =>
    intro k hd hj hc
    exact absurd hd (by omega)
  | succ d ih =>
    intro k hd hj hc
    obtain ⟨h0, ⟨m0, m1⟩, hT⟩ := id hB
    obtain ⟨s2, s3, s4, s5⟩ := id hS
    obtain ⟨r1, r2⟩ := tB_rng (T := T) hp.2
    obtain ⟨r3, r4, r5⟩ := tE_rng (T := T) hp.2
    have rk := tK_rng (T := T) (n := m) (p := p)
    have rv := tV_rng (T := T) hp.2
    have re := tE_in (T := T) hp
    have hxw := xWord hp.2 (i := 4) (l := 3) ⟨by decide, by decide⟩ rfl (by decide) zSv_4 hk1
    refine zs_iload (ip' := 17) rfl rfl rfl ?_
    refine zs_aload (ip' := 18) rfl rfl rfl ?_
    refine zW_cP (ip' := 19) rfl rfl zJ_len_4 rfl rfl rfl ?_
    refine zs_icmp_ge (t := 35) (ip' := 20) rfl rfl (by omega) (by omega) ?_ ?_
    · intro h19
      refine zs_aload (ip' := 36) rfl rfl rfl ?_
      refine zW_cV (ip' := 37) rfl rfl (cX_scan hN hB re s3) rfl rfl (z_ok3 (by omega) zsh_197 rfl rfl rfl) ?_
      rintro G1 F' n' ⟨⟨hrd, hto⟩, rfl, rfl⟩
      refine zs_pushI (ip' := 38) rfl rfl zi_k1 ?_
      refine zW_0b rfl (Or.inr rfl) ?_
      exact ⟨1, rfl, by decide, Or.inl ⟨rfl, ⟨hk1, hxw.mpr ⟨hln, fun j j0 j1 => hc j j0 (by omega)⟩⟩, xRt_d hrd, hto⟩, rfl, rfl⟩
    · intro h19
      refine zs_aload (ip' := 21) rfl rfl rfl ?_
      refine zs_getR (ip' := 22) rfl rfl (r := 198) (by omega) zsh_197 rfl ?_
      refine zs_aload (ip' := 23) rfl rfl rfl ?_
      refine zs_getI (ip' := 24) rfl rfl (by omega) zsh_197 rfl (q := 2) rfl ?_
      intro hl23 hu23
      rw [s2] at hl23 hu23 ⊢
      refine zs_iload (ip' := 25) rfl rfl rfl ?_
      refine zs_iadd (ip' := 26) rfl rfl ?_
      refine zs_bald (ip' := 27) rfl rfl (by omega) zsh_198 (by omega) ?_
      intro hl26 hu26
      obtain ⟨hv, hv2⟩ := hT (tB T m p + (k : Int)) (by omega) (by omega)
      have hzr := zSc_rng (i := 4) (j := (k : Int)) (by decide) (ln := 3) rfl ⟨by omega, by omega⟩ (by decide)
      refine zs_aload (ip' := 28) rfl rfl rfl ?_
      refine zs_iload (ip' := 29) rfl rfl rfl ?_
      refine zW_cP (ip' := 30) rfl rfl (zJ_chr_4 ⟨by omega, by omega⟩) rfl rfl rfl ?_
      refine zs_icmp_eq (t := 33) (ip' := 31) rfl rfl (by omega) (by omega) ?_ ?_
      · intro h30
        refine zs_iinc2 (ip' := 34) rfl rfl zi_k1 ?_
        refine zs_goto (t := 16) rfl ?_
        exact ih (k + 1) (by omega) (by omega) (fun j j0 j1 => if e : j < k then hc j j0 e else by rw [show j = (k : Int) by omega]; omega)
      · intro h30
        refine zs_pushI (ip' := 32) rfl rfl zi_k0 ?_
        refine zW_0b rfl (Or.inl rfl) ?_
        refine ⟨0, rfl, by decide, Or.inr ⟨rfl, fun q => ?_, rfl⟩, rfl, rfl⟩
        have := (hxw.mp q.2).2 (k : Int) (by omega) (by omega)
        omega
theorem cX_word_4 {N : Nat} {G F : GM} {n : Nat} (hN : 229 ≤ N) {T : Int → Int} {m : Int} {p : Int} (hB : xBu G T m) (hp : 0 ≤ p ∧ p ≤ m) (hS : xTo G T m p) : zC N 192 [.ref 197, .ref 324] G F n (zR fun v G' F' n' => ((v = 1 ∧ (tK T m p = 1 ∧ tW T m p = 4786) ∧ xRt G G' ∧ xTo G' T m (tE T m p)) ∨ (v = 0 ∧ ¬ (tK T m p = 1 ∧ tW T m p = 4786) ∧ G' = G)) ∧ F' = F ∧ n' = n) := by
  obtain ⟨h0, ⟨m0, m1⟩, hT⟩ := id hB
  obtain ⟨s2, s3, s4, s5⟩ := id hS
  obtain ⟨r1, r2⟩ := tB_rng (T := T) hp.2
  obtain ⟨r3, r4, r5⟩ := tE_rng (T := T) hp.2
  have rk := tK_rng (T := T) (n := m) (p := p)
  have rv := tV_rng (T := T) hp.2
  have re := tE_in (T := T) hp
  refine zC_i (L0 := [.ref 197, .ref 324, .null]) rfl ?_
  refine zs_aload (ip' := 1) rfl rfl rfl ?_
  refine zs_getI (ip' := 2) rfl rfl (by omega) zsh_197 rfl (q := 4) rfl ?_
  intro hl1 hu1
  rw [s4] at hl1 hu1 ⊢
  refine zs_pushI (ip' := 3) rfl rfl zi_k1 ?_
  refine zs_icmp_ne (t := 12) (ip' := 4) rfl rfl (by omega) (by omega) ?_ ?_
  · intro h3
    refine zs_pushI (ip' := 13) rfl rfl zi_k0 ?_
    refine zW_0b rfl (Or.inl rfl) ?_
    exact ⟨0, rfl, by decide, Or.inr ⟨rfl, fun q => h3 (by omega), rfl⟩, rfl, rfl⟩
  · intro h3
    refine zs_aload (ip' := 5) rfl rfl rfl ?_
    refine zs_getI (ip' := 6) rfl rfl (by omega) zsh_197 rfl (q := 3) rfl ?_
    intro hl5 hu5
    rw [s3] at hl5 hu5 ⊢
    refine zs_aload (ip' := 7) rfl rfl rfl ?_
    refine zs_getI (ip' := 8) rfl rfl (by omega) zsh_197 rfl (q := 2) rfl ?_
    intro hl7 hu7
    rw [s2] at hl7 hu7 ⊢
    refine zs_isub (ip' := 9) rfl rfl ?_
    refine zs_aload (ip' := 10) rfl rfl rfl ?_
    refine zW_cP (ip' := 11) rfl rfl zJ_len_4 rfl rfl rfl ?_
    refine zs_icmp_eq (t := 14) (ip' := 12) rfl rfl (by omega) (by omega) ?_ ?_
    · intro h11
      refine zs_pushI (ip' := 15) rfl rfl zi_k0 ?_
      refine zs_istore2 (ip' := 16) rfl rfl ?_
      exact cX_word_4_l hN hB hp hS (by omega) (by omega) 4 0 (by omega) (by omega) (fun j a b => absurd b (by omega))
    · intro h11
      refine zs_pushI (ip' := 13) rfl rfl zi_k0 ?_
      refine zW_0b rfl (Or.inl rfl) ?_
      refine ⟨0, rfl, by decide, Or.inr ⟨rfl, fun q => ?_, rfl⟩, rfl, rfl⟩
      have := ((xWord hp.2 (i := 4) (l := 3) ⟨by decide, by decide⟩ rfl (by decide) zSv_4 (by omega)).mp q.2).1
      omega
theorem zSv_5 : tWr (zSc 5) 0 5 = 6559778 := by decide +kernel
theorem cX_word_5_l {N : Nat} {G F : GM} {n : Nat} (hN : 229 ≤ N) {T : Int → Int} {m : Int} {p : Int} (hB : xBu G T m) (hp : 0 ≤ p ∧ p ≤ m) (hS : xTo G T m p) (hk1 : tK T m p = 1) (hln : tE T m p - tB T m p = 5) : ∀ (d : Nat) (k : Nat), 5 - (k : Int) < (d : Int) → (k : Int) ≤ 5 → (∀ j : Int, 0 ≤ j → j < k → T (tB T m p + j) = zSc 5 j) → zW N 192 16 [.ref 197, .ref 325, .int (zi (k : Int))] [] G F n (zR fun v G' F' n' => ((v = 1 ∧ (tK T m p = 1 ∧ tW T m p = 6559778) ∧ xRt G G' ∧ xTo G' T m (tE T m p)) ∨ (v = 0 ∧ ¬ (tK T m p = 1 ∧ tW T m p = 6559778) ∧ G' = G)) ∧ F' = F ∧ n' = n) := by
  intro d
  induction d with
  | zero =>
    intro k hd hj hc
    exact absurd hd (by omega)
  | succ d ih =>
    intro k hd hj hc
    obtain ⟨h0, ⟨m0, m1⟩, hT⟩ := id hB
    obtain ⟨s2, s3, s4, s5⟩ := id hS
    obtain ⟨r1, r2⟩ := tB_rng (T := T) hp.2
    obtain ⟨r3, r4, r5⟩ := tE_rng (T := T) hp.2
    have rk := tK_rng (T := T) (n := m) (p := p)
    have rv := tV_rng (T := T) hp.2
    have re := tE_in (T := T) hp
    have hxw := xWord hp.2 (i := 5) (l := 5) ⟨by decide, by decide⟩ rfl (by decide) zSv_5 hk1
    refine zs_iload (ip' := 17) rfl rfl rfl ?_
    refine zs_aload (ip' := 18) rfl rfl rfl ?_
    refine zW_cP (ip' := 19) rfl rfl zJ_len_5 rfl rfl rfl ?_
    refine zs_icmp_ge (t := 35) (ip' := 20) rfl rfl (by omega) (by omega) ?_ ?_
    · intro h19
      refine zs_aload (ip' := 36) rfl rfl rfl ?_
      refine zW_cV (ip' := 37) rfl rfl (cX_scan hN hB re s3) rfl rfl (z_ok3 (by omega) zsh_197 rfl rfl rfl) ?_
      rintro G1 F' n' ⟨⟨hrd, hto⟩, rfl, rfl⟩
      refine zs_pushI (ip' := 38) rfl rfl zi_k1 ?_
      refine zW_0b rfl (Or.inr rfl) ?_
      exact ⟨1, rfl, by decide, Or.inl ⟨rfl, ⟨hk1, hxw.mpr ⟨hln, fun j j0 j1 => hc j j0 (by omega)⟩⟩, xRt_d hrd, hto⟩, rfl, rfl⟩
    · intro h19
      refine zs_aload (ip' := 21) rfl rfl rfl ?_
      refine zs_getR (ip' := 22) rfl rfl (r := 198) (by omega) zsh_197 rfl ?_
      refine zs_aload (ip' := 23) rfl rfl rfl ?_
      refine zs_getI (ip' := 24) rfl rfl (by omega) zsh_197 rfl (q := 2) rfl ?_
      intro hl23 hu23
      rw [s2] at hl23 hu23 ⊢
      refine zs_iload (ip' := 25) rfl rfl rfl ?_
      refine zs_iadd (ip' := 26) rfl rfl ?_
      refine zs_bald (ip' := 27) rfl rfl (by omega) zsh_198 (by omega) ?_
      intro hl26 hu26
      obtain ⟨hv, hv2⟩ := hT (tB T m p + (k : Int)) (by omega) (by omega)
      have hzr := zSc_rng (i := 5) (j := (k : Int)) (by decide) (ln := 5) rfl ⟨by omega, by omega⟩ (by decide)
      refine zs_aload (ip' := 28) rfl rfl rfl ?_
      refine zs_iload (ip' := 29) rfl rfl rfl ?_
      refine zW_cP (ip' := 30) rfl rfl (zJ_chr_5 ⟨by omega, by omega⟩) rfl rfl rfl ?_
      refine zs_icmp_eq (t := 33) (ip' := 31) rfl rfl (by omega) (by omega) ?_ ?_
      · intro h30
        refine zs_iinc2 (ip' := 34) rfl rfl zi_k1 ?_
        refine zs_goto (t := 16) rfl ?_
        exact ih (k + 1) (by omega) (by omega) (fun j j0 j1 => if e : j < k then hc j j0 e else by rw [show j = (k : Int) by omega]; omega)
      · intro h30
        refine zs_pushI (ip' := 32) rfl rfl zi_k0 ?_
        refine zW_0b rfl (Or.inl rfl) ?_
        refine ⟨0, rfl, by decide, Or.inr ⟨rfl, fun q => ?_, rfl⟩, rfl, rfl⟩
        have := (hxw.mp q.2).2 (k : Int) (by omega) (by omega)
        omega
theorem cX_word_5 {N : Nat} {G F : GM} {n : Nat} (hN : 229 ≤ N) {T : Int → Int} {m : Int} {p : Int} (hB : xBu G T m) (hp : 0 ≤ p ∧ p ≤ m) (hS : xTo G T m p) : zC N 192 [.ref 197, .ref 325] G F n (zR fun v G' F' n' => ((v = 1 ∧ (tK T m p = 1 ∧ tW T m p = 6559778) ∧ xRt G G' ∧ xTo G' T m (tE T m p)) ∨ (v = 0 ∧ ¬ (tK T m p = 1 ∧ tW T m p = 6559778) ∧ G' = G)) ∧ F' = F ∧ n' = n) := by
  obtain ⟨h0, ⟨m0, m1⟩, hT⟩ := id hB
  obtain ⟨s2, s3, s4, s5⟩ := id hS
  obtain ⟨r1, r2⟩ := tB_rng (T := T) hp.2
  obtain ⟨r3, r4, r5⟩ := tE_rng (T := T) hp.2
  have rk := tK_rng (T := T) (n := m) (p := p)
  have rv := tV_rng (T := T) hp.2
  have re := tE_in (T := T) hp
  refine zC_i (L0 := [.ref 197, .ref 325, .null]) rfl ?_
  refine zs_aload (ip' := 1) rfl rfl rfl ?_
  refine zs_getI (ip' := 2) rfl rfl (by omega) zsh_197 rfl (q := 4) rfl ?_
  intro hl1 hu1
  rw [s4] at hl1 hu1 ⊢
  refine zs_pushI (ip' := 3) rfl rfl zi_k1 ?_
  refine zs_icmp_ne (t := 12) (ip' := 4) rfl rfl (by omega) (by omega) ?_ ?_
  · intro h3
    refine zs_pushI (ip' := 13) rfl rfl zi_k0 ?_
    refine zW_0b rfl (Or.inl rfl) ?_
    exact ⟨0, rfl, by decide, Or.inr ⟨rfl, fun q => h3 (by omega), rfl⟩, rfl, rfl⟩
  · intro h3
    refine zs_aload (ip' := 5) rfl rfl rfl ?_
    refine zs_getI (ip' := 6) rfl rfl (by omega) zsh_197 rfl (q := 3) rfl ?_
    intro hl5 hu5
    rw [s3] at hl5 hu5 ⊢
    refine zs_aload (ip' := 7) rfl rfl rfl ?_
    refine zs_getI (ip' := 8) rfl rfl (by omega) zsh_197 rfl (q := 2) rfl ?_
    intro hl7 hu7
    rw [s2] at hl7 hu7 ⊢
    refine zs_isub (ip' := 9) rfl rfl ?_
    refine zs_aload (ip' := 10) rfl rfl rfl ?_
    refine zW_cP (ip' := 11) rfl rfl zJ_len_5 rfl rfl rfl ?_
    refine zs_icmp_eq (t := 14) (ip' := 12) rfl rfl (by omega) (by omega) ?_ ?_
    · intro h11
      refine zs_pushI (ip' := 15) rfl rfl zi_k0 ?_
      refine zs_istore2 (ip' := 16) rfl rfl ?_
      exact cX_word_5_l hN hB hp hS (by omega) (by omega) 6 0 (by omega) (by omega) (fun j a b => absurd b (by omega))
    · intro h11
      refine zs_pushI (ip' := 13) rfl rfl zi_k0 ?_
      refine zW_0b rfl (Or.inl rfl) ?_
      refine ⟨0, rfl, by decide, Or.inr ⟨rfl, fun q => ?_, rfl⟩, rfl, rfl⟩
      have := ((xWord hp.2 (i := 5) (l := 5) ⟨by decide, by decide⟩ rfl (by decide) zSv_5 (by omega)).mp q.2).1
      omega
theorem zSv_6 : tWr (zSc 6) 0 4 = 407354 := by decide +kernel
theorem cX_word_6_l {N : Nat} {G F : GM} {n : Nat} (hN : 229 ≤ N) {T : Int → Int} {m : Int} {p : Int} (hB : xBu G T m) (hp : 0 ≤ p ∧ p ≤ m) (hS : xTo G T m p) (hk1 : tK T m p = 1) (hln : tE T m p - tB T m p = 4) : ∀ (d : Nat) (k : Nat), 4 - (k : Int) < (d : Int) → (k : Int) ≤ 4 → (∀ j : Int, 0 ≤ j → j < k → T (tB T m p + j) = zSc 6 j) → zW N 192 16 [.ref 197, .ref 326, .int (zi (k : Int))] [] G F n (zR fun v G' F' n' => ((v = 1 ∧ (tK T m p = 1 ∧ tW T m p = 407354) ∧ xRt G G' ∧ xTo G' T m (tE T m p)) ∨ (v = 0 ∧ ¬ (tK T m p = 1 ∧ tW T m p = 407354) ∧ G' = G)) ∧ F' = F ∧ n' = n) := by
  intro d
  induction d with
  | zero =>
    intro k hd hj hc
    exact absurd hd (by omega)
  | succ d ih =>
    intro k hd hj hc
    obtain ⟨h0, ⟨m0, m1⟩, hT⟩ := id hB
    obtain ⟨s2, s3, s4, s5⟩ := id hS
    obtain ⟨r1, r2⟩ := tB_rng (T := T) hp.2
    obtain ⟨r3, r4, r5⟩ := tE_rng (T := T) hp.2
    have rk := tK_rng (T := T) (n := m) (p := p)
    have rv := tV_rng (T := T) hp.2
    have re := tE_in (T := T) hp
    have hxw := xWord hp.2 (i := 6) (l := 4) ⟨by decide, by decide⟩ rfl (by decide) zSv_6 hk1
    refine zs_iload (ip' := 17) rfl rfl rfl ?_
    refine zs_aload (ip' := 18) rfl rfl rfl ?_
    refine zW_cP (ip' := 19) rfl rfl zJ_len_6 rfl rfl rfl ?_
    refine zs_icmp_ge (t := 35) (ip' := 20) rfl rfl (by omega) (by omega) ?_ ?_
    · intro h19
      refine zs_aload (ip' := 36) rfl rfl rfl ?_
      refine zW_cV (ip' := 37) rfl rfl (cX_scan hN hB re s3) rfl rfl (z_ok3 (by omega) zsh_197 rfl rfl rfl) ?_
      rintro G1 F' n' ⟨⟨hrd, hto⟩, rfl, rfl⟩
      refine zs_pushI (ip' := 38) rfl rfl zi_k1 ?_
      refine zW_0b rfl (Or.inr rfl) ?_
      exact ⟨1, rfl, by decide, Or.inl ⟨rfl, ⟨hk1, hxw.mpr ⟨hln, fun j j0 j1 => hc j j0 (by omega)⟩⟩, xRt_d hrd, hto⟩, rfl, rfl⟩
    · intro h19
      refine zs_aload (ip' := 21) rfl rfl rfl ?_
      refine zs_getR (ip' := 22) rfl rfl (r := 198) (by omega) zsh_197 rfl ?_
      refine zs_aload (ip' := 23) rfl rfl rfl ?_
      refine zs_getI (ip' := 24) rfl rfl (by omega) zsh_197 rfl (q := 2) rfl ?_
      intro hl23 hu23
      rw [s2] at hl23 hu23 ⊢
      refine zs_iload (ip' := 25) rfl rfl rfl ?_
      refine zs_iadd (ip' := 26) rfl rfl ?_
      refine zs_bald (ip' := 27) rfl rfl (by omega) zsh_198 (by omega) ?_
      intro hl26 hu26
      obtain ⟨hv, hv2⟩ := hT (tB T m p + (k : Int)) (by omega) (by omega)
      have hzr := zSc_rng (i := 6) (j := (k : Int)) (by decide) (ln := 4) rfl ⟨by omega, by omega⟩ (by decide)
      refine zs_aload (ip' := 28) rfl rfl rfl ?_
      refine zs_iload (ip' := 29) rfl rfl rfl ?_
      refine zW_cP (ip' := 30) rfl rfl (zJ_chr_6 ⟨by omega, by omega⟩) rfl rfl rfl ?_
      refine zs_icmp_eq (t := 33) (ip' := 31) rfl rfl (by omega) (by omega) ?_ ?_
      · intro h30
        refine zs_iinc2 (ip' := 34) rfl rfl zi_k1 ?_
        refine zs_goto (t := 16) rfl ?_
        exact ih (k + 1) (by omega) (by omega) (fun j j0 j1 => if e : j < k then hc j j0 e else by rw [show j = (k : Int) by omega]; omega)
      · intro h30
        refine zs_pushI (ip' := 32) rfl rfl zi_k0 ?_
        refine zW_0b rfl (Or.inl rfl) ?_
        refine ⟨0, rfl, by decide, Or.inr ⟨rfl, fun q => ?_, rfl⟩, rfl, rfl⟩
        have := (hxw.mp q.2).2 (k : Int) (by omega) (by omega)
        omega
theorem cX_word_6 {N : Nat} {G F : GM} {n : Nat} (hN : 229 ≤ N) {T : Int → Int} {m : Int} {p : Int} (hB : xBu G T m) (hp : 0 ≤ p ∧ p ≤ m) (hS : xTo G T m p) : zC N 192 [.ref 197, .ref 326] G F n (zR fun v G' F' n' => ((v = 1 ∧ (tK T m p = 1 ∧ tW T m p = 407354) ∧ xRt G G' ∧ xTo G' T m (tE T m p)) ∨ (v = 0 ∧ ¬ (tK T m p = 1 ∧ tW T m p = 407354) ∧ G' = G)) ∧ F' = F ∧ n' = n) := by
  obtain ⟨h0, ⟨m0, m1⟩, hT⟩ := id hB
  obtain ⟨s2, s3, s4, s5⟩ := id hS
  obtain ⟨r1, r2⟩ := tB_rng (T := T) hp.2
  obtain ⟨r3, r4, r5⟩ := tE_rng (T := T) hp.2
  have rk := tK_rng (T := T) (n := m) (p := p)
  have rv := tV_rng (T := T) hp.2
  have re := tE_in (T := T) hp
  refine zC_i (L0 := [.ref 197, .ref 326, .null]) rfl ?_
  refine zs_aload (ip' := 1) rfl rfl rfl ?_
  refine zs_getI (ip' := 2) rfl rfl (by omega) zsh_197 rfl (q := 4) rfl ?_
  intro hl1 hu1
  rw [s4] at hl1 hu1 ⊢
  refine zs_pushI (ip' := 3) rfl rfl zi_k1 ?_
  refine zs_icmp_ne (t := 12) (ip' := 4) rfl rfl (by omega) (by omega) ?_ ?_
  · intro h3
    refine zs_pushI (ip' := 13) rfl rfl zi_k0 ?_
    refine zW_0b rfl (Or.inl rfl) ?_
    exact ⟨0, rfl, by decide, Or.inr ⟨rfl, fun q => h3 (by omega), rfl⟩, rfl, rfl⟩
  · intro h3
    refine zs_aload (ip' := 5) rfl rfl rfl ?_
    refine zs_getI (ip' := 6) rfl rfl (by omega) zsh_197 rfl (q := 3) rfl ?_
    intro hl5 hu5
    rw [s3] at hl5 hu5 ⊢
    refine zs_aload (ip' := 7) rfl rfl rfl ?_
    refine zs_getI (ip' := 8) rfl rfl (by omega) zsh_197 rfl (q := 2) rfl ?_
    intro hl7 hu7
    rw [s2] at hl7 hu7 ⊢
    refine zs_isub (ip' := 9) rfl rfl ?_
    refine zs_aload (ip' := 10) rfl rfl rfl ?_
    refine zW_cP (ip' := 11) rfl rfl zJ_len_6 rfl rfl rfl ?_
    refine zs_icmp_eq (t := 14) (ip' := 12) rfl rfl (by omega) (by omega) ?_ ?_
    · intro h11
      refine zs_pushI (ip' := 15) rfl rfl zi_k0 ?_
      refine zs_istore2 (ip' := 16) rfl rfl ?_
      exact cX_word_6_l hN hB hp hS (by omega) (by omega) 5 0 (by omega) (by omega) (fun j a b => absurd b (by omega))
    · intro h11
      refine zs_pushI (ip' := 13) rfl rfl zi_k0 ?_
      refine zW_0b rfl (Or.inl rfl) ?_
      refine ⟨0, rfl, by decide, Or.inr ⟨rfl, fun q => ?_, rfl⟩, rfl, rfl⟩
      have := ((xWord hp.2 (i := 6) (l := 4) ⟨by decide, by decide⟩ rfl (by decide) zSv_6 (by omega)).mp q.2).1
      omega
theorem zSv_7 : tWr (zSc 7) 0 5 = 3217595 := by decide +kernel
theorem cX_word_7_l {N : Nat} {G F : GM} {n : Nat} (hN : 229 ≤ N) {T : Int → Int} {m : Int} {p : Int} (hB : xBu G T m) (hp : 0 ≤ p ∧ p ≤ m) (hS : xTo G T m p) (hk1 : tK T m p = 1) (hln : tE T m p - tB T m p = 5) : ∀ (d : Nat) (k : Nat), 5 - (k : Int) < (d : Int) → (k : Int) ≤ 5 → (∀ j : Int, 0 ≤ j → j < k → T (tB T m p + j) = zSc 7 j) → zW N 192 16 [.ref 197, .ref 327, .int (zi (k : Int))] [] G F n (zR fun v G' F' n' => ((v = 1 ∧ (tK T m p = 1 ∧ tW T m p = 3217595) ∧ xRt G G' ∧ xTo G' T m (tE T m p)) ∨ (v = 0 ∧ ¬ (tK T m p = 1 ∧ tW T m p = 3217595) ∧ G' = G)) ∧ F' = F ∧ n' = n) := by
  intro d
  induction d with
  | zero =>
    intro k hd hj hc
    exact absurd hd (by omega)
  | succ d ih =>
    intro k hd hj hc
    obtain ⟨h0, ⟨m0, m1⟩, hT⟩ := id hB
    obtain ⟨s2, s3, s4, s5⟩ := id hS
    obtain ⟨r1, r2⟩ := tB_rng (T := T) hp.2
    obtain ⟨r3, r4, r5⟩ := tE_rng (T := T) hp.2
    have rk := tK_rng (T := T) (n := m) (p := p)
    have rv := tV_rng (T := T) hp.2
    have re := tE_in (T := T) hp
    have hxw := xWord hp.2 (i := 7) (l := 5) ⟨by decide, by decide⟩ rfl (by decide) zSv_7 hk1
    refine zs_iload (ip' := 17) rfl rfl rfl ?_
    refine zs_aload (ip' := 18) rfl rfl rfl ?_
    refine zW_cP (ip' := 19) rfl rfl zJ_len_7 rfl rfl rfl ?_
    refine zs_icmp_ge (t := 35) (ip' := 20) rfl rfl (by omega) (by omega) ?_ ?_
    · intro h19
      refine zs_aload (ip' := 36) rfl rfl rfl ?_
      refine zW_cV (ip' := 37) rfl rfl (cX_scan hN hB re s3) rfl rfl (z_ok3 (by omega) zsh_197 rfl rfl rfl) ?_
      rintro G1 F' n' ⟨⟨hrd, hto⟩, rfl, rfl⟩
      refine zs_pushI (ip' := 38) rfl rfl zi_k1 ?_
      refine zW_0b rfl (Or.inr rfl) ?_
      exact ⟨1, rfl, by decide, Or.inl ⟨rfl, ⟨hk1, hxw.mpr ⟨hln, fun j j0 j1 => hc j j0 (by omega)⟩⟩, xRt_d hrd, hto⟩, rfl, rfl⟩
    · intro h19
      refine zs_aload (ip' := 21) rfl rfl rfl ?_
      refine zs_getR (ip' := 22) rfl rfl (r := 198) (by omega) zsh_197 rfl ?_
      refine zs_aload (ip' := 23) rfl rfl rfl ?_
      refine zs_getI (ip' := 24) rfl rfl (by omega) zsh_197 rfl (q := 2) rfl ?_
      intro hl23 hu23
      rw [s2] at hl23 hu23 ⊢
      refine zs_iload (ip' := 25) rfl rfl rfl ?_
      refine zs_iadd (ip' := 26) rfl rfl ?_
      refine zs_bald (ip' := 27) rfl rfl (by omega) zsh_198 (by omega) ?_
      intro hl26 hu26
      obtain ⟨hv, hv2⟩ := hT (tB T m p + (k : Int)) (by omega) (by omega)
      have hzr := zSc_rng (i := 7) (j := (k : Int)) (by decide) (ln := 5) rfl ⟨by omega, by omega⟩ (by decide)
      refine zs_aload (ip' := 28) rfl rfl rfl ?_
      refine zs_iload (ip' := 29) rfl rfl rfl ?_
      refine zW_cP (ip' := 30) rfl rfl (zJ_chr_7 ⟨by omega, by omega⟩) rfl rfl rfl ?_
      refine zs_icmp_eq (t := 33) (ip' := 31) rfl rfl (by omega) (by omega) ?_ ?_
      · intro h30
        refine zs_iinc2 (ip' := 34) rfl rfl zi_k1 ?_
        refine zs_goto (t := 16) rfl ?_
        exact ih (k + 1) (by omega) (by omega) (fun j j0 j1 => if e : j < k then hc j j0 e else by rw [show j = (k : Int) by omega]; omega)
      · intro h30
        refine zs_pushI (ip' := 32) rfl rfl zi_k0 ?_
        refine zW_0b rfl (Or.inl rfl) ?_
        refine ⟨0, rfl, by decide, Or.inr ⟨rfl, fun q => ?_, rfl⟩, rfl, rfl⟩
        have := (hxw.mp q.2).2 (k : Int) (by omega) (by omega)
        omega
theorem cX_word_7 {N : Nat} {G F : GM} {n : Nat} (hN : 229 ≤ N) {T : Int → Int} {m : Int} {p : Int} (hB : xBu G T m) (hp : 0 ≤ p ∧ p ≤ m) (hS : xTo G T m p) : zC N 192 [.ref 197, .ref 327] G F n (zR fun v G' F' n' => ((v = 1 ∧ (tK T m p = 1 ∧ tW T m p = 3217595) ∧ xRt G G' ∧ xTo G' T m (tE T m p)) ∨ (v = 0 ∧ ¬ (tK T m p = 1 ∧ tW T m p = 3217595) ∧ G' = G)) ∧ F' = F ∧ n' = n) := by
  obtain ⟨h0, ⟨m0, m1⟩, hT⟩ := id hB
  obtain ⟨s2, s3, s4, s5⟩ := id hS
  obtain ⟨r1, r2⟩ := tB_rng (T := T) hp.2
  obtain ⟨r3, r4, r5⟩ := tE_rng (T := T) hp.2
  have rk := tK_rng (T := T) (n := m) (p := p)
  have rv := tV_rng (T := T) hp.2
  have re := tE_in (T := T) hp
  refine zC_i (L0 := [.ref 197, .ref 327, .null]) rfl ?_
  refine zs_aload (ip' := 1) rfl rfl rfl ?_
  refine zs_getI (ip' := 2) rfl rfl (by omega) zsh_197 rfl (q := 4) rfl ?_
  intro hl1 hu1
  rw [s4] at hl1 hu1 ⊢
  refine zs_pushI (ip' := 3) rfl rfl zi_k1 ?_
  refine zs_icmp_ne (t := 12) (ip' := 4) rfl rfl (by omega) (by omega) ?_ ?_
  · intro h3
    refine zs_pushI (ip' := 13) rfl rfl zi_k0 ?_
    refine zW_0b rfl (Or.inl rfl) ?_
    exact ⟨0, rfl, by decide, Or.inr ⟨rfl, fun q => h3 (by omega), rfl⟩, rfl, rfl⟩
  · intro h3
    refine zs_aload (ip' := 5) rfl rfl rfl ?_
    refine zs_getI (ip' := 6) rfl rfl (by omega) zsh_197 rfl (q := 3) rfl ?_
    intro hl5 hu5
    rw [s3] at hl5 hu5 ⊢
    refine zs_aload (ip' := 7) rfl rfl rfl ?_
    refine zs_getI (ip' := 8) rfl rfl (by omega) zsh_197 rfl (q := 2) rfl ?_
    intro hl7 hu7
    rw [s2] at hl7 hu7 ⊢
    refine zs_isub (ip' := 9) rfl rfl ?_
    refine zs_aload (ip' := 10) rfl rfl rfl ?_
    refine zW_cP (ip' := 11) rfl rfl zJ_len_7 rfl rfl rfl ?_
    refine zs_icmp_eq (t := 14) (ip' := 12) rfl rfl (by omega) (by omega) ?_ ?_
    · intro h11
      refine zs_pushI (ip' := 15) rfl rfl zi_k0 ?_
      refine zs_istore2 (ip' := 16) rfl rfl ?_
      exact cX_word_7_l hN hB hp hS (by omega) (by omega) 6 0 (by omega) (by omega) (fun j a b => absurd b (by omega))
    · intro h11
      refine zs_pushI (ip' := 13) rfl rfl zi_k0 ?_
      refine zW_0b rfl (Or.inl rfl) ?_
      refine ⟨0, rfl, by decide, Or.inr ⟨rfl, fun q => ?_, rfl⟩, rfl, rfl⟩
      have := ((xWord hp.2 (i := 7) (l := 5) ⟨by decide, by decide⟩ rfl (by decide) zSv_7 (by omega)).mp q.2).1
      omega
theorem zSv_8 : tWr (zSc 8) 0 4 = 279875 := by decide +kernel
theorem cX_word_8_l {N : Nat} {G F : GM} {n : Nat} (hN : 229 ≤ N) {T : Int → Int} {m : Int} {p : Int} (hB : xBu G T m) (hp : 0 ≤ p ∧ p ≤ m) (hS : xTo G T m p) (hk1 : tK T m p = 1) (hln : tE T m p - tB T m p = 4) : ∀ (d : Nat) (k : Nat), 4 - (k : Int) < (d : Int) → (k : Int) ≤ 4 → (∀ j : Int, 0 ≤ j → j < k → T (tB T m p + j) = zSc 8 j) → zW N 192 16 [.ref 197, .ref 328, .int (zi (k : Int))] [] G F n (zR fun v G' F' n' => ((v = 1 ∧ (tK T m p = 1 ∧ tW T m p = 279875) ∧ xRt G G' ∧ xTo G' T m (tE T m p)) ∨ (v = 0 ∧ ¬ (tK T m p = 1 ∧ tW T m p = 279875) ∧ G' = G)) ∧ F' = F ∧ n' = n) := by
  intro d
  induction d with
  | zero =>
    intro k hd hj hc
    exact absurd hd (by omega)
  | succ d ih =>
    intro k hd hj hc
    obtain ⟨h0, ⟨m0, m1⟩, hT⟩ := id hB
    obtain ⟨s2, s3, s4, s5⟩ := id hS
    obtain ⟨r1, r2⟩ := tB_rng (T := T) hp.2
    obtain ⟨r3, r4, r5⟩ := tE_rng (T := T) hp.2
    have rk := tK_rng (T := T) (n := m) (p := p)
    have rv := tV_rng (T := T) hp.2
    have re := tE_in (T := T) hp
    have hxw := xWord hp.2 (i := 8) (l := 4) ⟨by decide, by decide⟩ rfl (by decide) zSv_8 hk1
    refine zs_iload (ip' := 17) rfl rfl rfl ?_
    refine zs_aload (ip' := 18) rfl rfl rfl ?_
    refine zW_cP (ip' := 19) rfl rfl zJ_len_8 rfl rfl rfl ?_
    refine zs_icmp_ge (t := 35) (ip' := 20) rfl rfl (by omega) (by omega) ?_ ?_
    · intro h19
      refine zs_aload (ip' := 36) rfl rfl rfl ?_
      refine zW_cV (ip' := 37) rfl rfl (cX_scan hN hB re s3) rfl rfl (z_ok3 (by omega) zsh_197 rfl rfl rfl) ?_
      rintro G1 F' n' ⟨⟨hrd, hto⟩, rfl, rfl⟩
      refine zs_pushI (ip' := 38) rfl rfl zi_k1 ?_
      refine zW_0b rfl (Or.inr rfl) ?_
      exact ⟨1, rfl, by decide, Or.inl ⟨rfl, ⟨hk1, hxw.mpr ⟨hln, fun j j0 j1 => hc j j0 (by omega)⟩⟩, xRt_d hrd, hto⟩, rfl, rfl⟩
    · intro h19
      refine zs_aload (ip' := 21) rfl rfl rfl ?_
      refine zs_getR (ip' := 22) rfl rfl (r := 198) (by omega) zsh_197 rfl ?_
      refine zs_aload (ip' := 23) rfl rfl rfl ?_
      refine zs_getI (ip' := 24) rfl rfl (by omega) zsh_197 rfl (q := 2) rfl ?_
      intro hl23 hu23
      rw [s2] at hl23 hu23 ⊢
      refine zs_iload (ip' := 25) rfl rfl rfl ?_
      refine zs_iadd (ip' := 26) rfl rfl ?_
      refine zs_bald (ip' := 27) rfl rfl (by omega) zsh_198 (by omega) ?_
      intro hl26 hu26
      obtain ⟨hv, hv2⟩ := hT (tB T m p + (k : Int)) (by omega) (by omega)
      have hzr := zSc_rng (i := 8) (j := (k : Int)) (by decide) (ln := 4) rfl ⟨by omega, by omega⟩ (by decide)
      refine zs_aload (ip' := 28) rfl rfl rfl ?_
      refine zs_iload (ip' := 29) rfl rfl rfl ?_
      refine zW_cP (ip' := 30) rfl rfl (zJ_chr_8 ⟨by omega, by omega⟩) rfl rfl rfl ?_
      refine zs_icmp_eq (t := 33) (ip' := 31) rfl rfl (by omega) (by omega) ?_ ?_
      · intro h30
        refine zs_iinc2 (ip' := 34) rfl rfl zi_k1 ?_
        refine zs_goto (t := 16) rfl ?_
        exact ih (k + 1) (by omega) (by omega) (fun j j0 j1 => if e : j < k then hc j j0 e else by rw [show j = (k : Int) by omega]; omega)
      · intro h30
        refine zs_pushI (ip' := 32) rfl rfl zi_k0 ?_
        refine zW_0b rfl (Or.inl rfl) ?_
        refine ⟨0, rfl, by decide, Or.inr ⟨rfl, fun q => ?_, rfl⟩, rfl, rfl⟩
        have := (hxw.mp q.2).2 (k : Int) (by omega) (by omega)
        omega
theorem cX_word_8 {N : Nat} {G F : GM} {n : Nat} (hN : 229 ≤ N) {T : Int → Int} {m : Int} {p : Int} (hB : xBu G T m) (hp : 0 ≤ p ∧ p ≤ m) (hS : xTo G T m p) : zC N 192 [.ref 197, .ref 328] G F n (zR fun v G' F' n' => ((v = 1 ∧ (tK T m p = 1 ∧ tW T m p = 279875) ∧ xRt G G' ∧ xTo G' T m (tE T m p)) ∨ (v = 0 ∧ ¬ (tK T m p = 1 ∧ tW T m p = 279875) ∧ G' = G)) ∧ F' = F ∧ n' = n) := by
  obtain ⟨h0, ⟨m0, m1⟩, hT⟩ := id hB
  obtain ⟨s2, s3, s4, s5⟩ := id hS
  obtain ⟨r1, r2⟩ := tB_rng (T := T) hp.2
  obtain ⟨r3, r4, r5⟩ := tE_rng (T := T) hp.2
  have rk := tK_rng (T := T) (n := m) (p := p)
  have rv := tV_rng (T := T) hp.2
  have re := tE_in (T := T) hp
  refine zC_i (L0 := [.ref 197, .ref 328, .null]) rfl ?_
  refine zs_aload (ip' := 1) rfl rfl rfl ?_
  refine zs_getI (ip' := 2) rfl rfl (by omega) zsh_197 rfl (q := 4) rfl ?_
  intro hl1 hu1
  rw [s4] at hl1 hu1 ⊢
  refine zs_pushI (ip' := 3) rfl rfl zi_k1 ?_
  refine zs_icmp_ne (t := 12) (ip' := 4) rfl rfl (by omega) (by omega) ?_ ?_
  · intro h3
    refine zs_pushI (ip' := 13) rfl rfl zi_k0 ?_
    refine zW_0b rfl (Or.inl rfl) ?_
    exact ⟨0, rfl, by decide, Or.inr ⟨rfl, fun q => h3 (by omega), rfl⟩, rfl, rfl⟩
  · intro h3
    refine zs_aload (ip' := 5) rfl rfl rfl ?_
    refine zs_getI (ip' := 6) rfl rfl (by omega) zsh_197 rfl (q := 3) rfl ?_
    intro hl5 hu5
    rw [s3] at hl5 hu5 ⊢
    refine zs_aload (ip' := 7) rfl rfl rfl ?_
    refine zs_getI (ip' := 8) rfl rfl (by omega) zsh_197 rfl (q := 2) rfl ?_
    intro hl7 hu7
    rw [s2] at hl7 hu7 ⊢
    refine zs_isub (ip' := 9) rfl rfl ?_
    refine zs_aload (ip' := 10) rfl rfl rfl ?_
    refine zW_cP (ip' := 11) rfl rfl zJ_len_8 rfl rfl rfl ?_
    refine zs_icmp_eq (t := 14) (ip' := 12) rfl rfl (by omega) (by omega) ?_ ?_
    · intro h11
      refine zs_pushI (ip' := 15) rfl rfl zi_k0 ?_
      refine zs_istore2 (ip' := 16) rfl rfl ?_
      exact cX_word_8_l hN hB hp hS (by omega) (by omega) 5 0 (by omega) (by omega) (fun j a b => absurd b (by omega))
    · intro h11
      refine zs_pushI (ip' := 13) rfl rfl zi_k0 ?_
      refine zW_0b rfl (Or.inl rfl) ?_
      refine ⟨0, rfl, by decide, Or.inr ⟨rfl, fun q => ?_, rfl⟩, rfl, rfl⟩
      have := ((xWord hp.2 (i := 8) (l := 4) ⟨by decide, by decide⟩ rfl (by decide) zSv_8 (by omega)).mp q.2).1
      omega
theorem zSv_9 : tWr (zSc 9) 0 9 = 5837583086019 := by decide +kernel
theorem cX_word_9_l {N : Nat} {G F : GM} {n : Nat} (hN : 229 ≤ N) {T : Int → Int} {m : Int} {p : Int} (hB : xBu G T m) (hp : 0 ≤ p ∧ p ≤ m) (hS : xTo G T m p) (hk1 : tK T m p = 1) (hln : tE T m p - tB T m p = 9) : ∀ (d : Nat) (k : Nat), 9 - (k : Int) < (d : Int) → (k : Int) ≤ 9 → (∀ j : Int, 0 ≤ j → j < k → T (tB T m p + j) = zSc 9 j) → zW N 192 16 [.ref 197, .ref 329, .int (zi (k : Int))] [] G F n (zR fun v G' F' n' => ((v = 1 ∧ (tK T m p = 1 ∧ tW T m p = 5837583086019) ∧ xRt G G' ∧ xTo G' T m (tE T m p)) ∨ (v = 0 ∧ ¬ (tK T m p = 1 ∧ tW T m p = 5837583086019) ∧ G' = G)) ∧ F' = F ∧ n' = n) := by
  intro d
  induction d with
  | zero =>
    intro k hd hj hc
    exact absurd hd (by omega)
  | succ d ih =>
    intro k hd hj hc
    obtain ⟨h0, ⟨m0, m1⟩, hT⟩ := id hB
    obtain ⟨s2, s3, s4, s5⟩ := id hS
    obtain ⟨r1, r2⟩ := tB_rng (T := T) hp.2
    obtain ⟨r3, r4, r5⟩ := tE_rng (T := T) hp.2
    have rk := tK_rng (T := T) (n := m) (p := p)
    have rv := tV_rng (T := T) hp.2
    have re := tE_in (T := T) hp
    have hxw := xWord hp.2 (i := 9) (l := 9) ⟨by decide, by decide⟩ rfl (by decide) zSv_9 hk1
    refine zs_iload (ip' := 17) rfl rfl rfl ?_
    refine zs_aload (ip' := 18) rfl rfl rfl ?_
    refine zW_cP (ip' := 19) rfl rfl zJ_len_9 rfl rfl rfl ?_
    refine zs_icmp_ge (t := 35) (ip' := 20) rfl rfl (by omega) (by omega) ?_ ?_
    · intro h19
      refine zs_aload (ip' := 36) rfl rfl rfl ?_
      refine zW_cV (ip' := 37) rfl rfl (cX_scan hN hB re s3) rfl rfl (z_ok3 (by omega) zsh_197 rfl rfl rfl) ?_
      rintro G1 F' n' ⟨⟨hrd, hto⟩, rfl, rfl⟩
      refine zs_pushI (ip' := 38) rfl rfl zi_k1 ?_
      refine zW_0b rfl (Or.inr rfl) ?_
      exact ⟨1, rfl, by decide, Or.inl ⟨rfl, ⟨hk1, hxw.mpr ⟨hln, fun j j0 j1 => hc j j0 (by omega)⟩⟩, xRt_d hrd, hto⟩, rfl, rfl⟩
    · intro h19
      refine zs_aload (ip' := 21) rfl rfl rfl ?_
      refine zs_getR (ip' := 22) rfl rfl (r := 198) (by omega) zsh_197 rfl ?_
      refine zs_aload (ip' := 23) rfl rfl rfl ?_
      refine zs_getI (ip' := 24) rfl rfl (by omega) zsh_197 rfl (q := 2) rfl ?_
      intro hl23 hu23
      rw [s2] at hl23 hu23 ⊢
      refine zs_iload (ip' := 25) rfl rfl rfl ?_
      refine zs_iadd (ip' := 26) rfl rfl ?_
      refine zs_bald (ip' := 27) rfl rfl (by omega) zsh_198 (by omega) ?_
      intro hl26 hu26
      obtain ⟨hv, hv2⟩ := hT (tB T m p + (k : Int)) (by omega) (by omega)
      have hzr := zSc_rng (i := 9) (j := (k : Int)) (by decide) (ln := 9) rfl ⟨by omega, by omega⟩ (by decide)
      refine zs_aload (ip' := 28) rfl rfl rfl ?_
      refine zs_iload (ip' := 29) rfl rfl rfl ?_
      refine zW_cP (ip' := 30) rfl rfl (zJ_chr_9 ⟨by omega, by omega⟩) rfl rfl rfl ?_
      refine zs_icmp_eq (t := 33) (ip' := 31) rfl rfl (by omega) (by omega) ?_ ?_
      · intro h30
        refine zs_iinc2 (ip' := 34) rfl rfl zi_k1 ?_
        refine zs_goto (t := 16) rfl ?_
        exact ih (k + 1) (by omega) (by omega) (fun j j0 j1 => if e : j < k then hc j j0 e else by rw [show j = (k : Int) by omega]; omega)
      · intro h30
        refine zs_pushI (ip' := 32) rfl rfl zi_k0 ?_
        refine zW_0b rfl (Or.inl rfl) ?_
        refine ⟨0, rfl, by decide, Or.inr ⟨rfl, fun q => ?_, rfl⟩, rfl, rfl⟩
        have := (hxw.mp q.2).2 (k : Int) (by omega) (by omega)
        omega
theorem cX_word_9 {N : Nat} {G F : GM} {n : Nat} (hN : 229 ≤ N) {T : Int → Int} {m : Int} {p : Int} (hB : xBu G T m) (hp : 0 ≤ p ∧ p ≤ m) (hS : xTo G T m p) : zC N 192 [.ref 197, .ref 329] G F n (zR fun v G' F' n' => ((v = 1 ∧ (tK T m p = 1 ∧ tW T m p = 5837583086019) ∧ xRt G G' ∧ xTo G' T m (tE T m p)) ∨ (v = 0 ∧ ¬ (tK T m p = 1 ∧ tW T m p = 5837583086019) ∧ G' = G)) ∧ F' = F ∧ n' = n) := by
  obtain ⟨h0, ⟨m0, m1⟩, hT⟩ := id hB
  obtain ⟨s2, s3, s4, s5⟩ := id hS
  obtain ⟨r1, r2⟩ := tB_rng (T := T) hp.2
  obtain ⟨r3, r4, r5⟩ := tE_rng (T := T) hp.2
  have rk := tK_rng (T := T) (n := m) (p := p)
  have rv := tV_rng (T := T) hp.2
  have re := tE_in (T := T) hp
  refine zC_i (L0 := [.ref 197, .ref 329, .null]) rfl ?_
  refine zs_aload (ip' := 1) rfl rfl rfl ?_
  refine zs_getI (ip' := 2) rfl rfl (by omega) zsh_197 rfl (q := 4) rfl ?_
  intro hl1 hu1
  rw [s4] at hl1 hu1 ⊢
  refine zs_pushI (ip' := 3) rfl rfl zi_k1 ?_
  refine zs_icmp_ne (t := 12) (ip' := 4) rfl rfl (by omega) (by omega) ?_ ?_
  · intro h3
    refine zs_pushI (ip' := 13) rfl rfl zi_k0 ?_
    refine zW_0b rfl (Or.inl rfl) ?_
    exact ⟨0, rfl, by decide, Or.inr ⟨rfl, fun q => h3 (by omega), rfl⟩, rfl, rfl⟩
  · intro h3
    refine zs_aload (ip' := 5) rfl rfl rfl ?_
    refine zs_getI (ip' := 6) rfl rfl (by omega) zsh_197 rfl (q := 3) rfl ?_
    intro hl5 hu5
    rw [s3] at hl5 hu5 ⊢
    refine zs_aload (ip' := 7) rfl rfl rfl ?_
    refine zs_getI (ip' := 8) rfl rfl (by omega) zsh_197 rfl (q := 2) rfl ?_
    intro hl7 hu7
    rw [s2] at hl7 hu7 ⊢
    refine zs_isub (ip' := 9) rfl rfl ?_
    refine zs_aload (ip' := 10) rfl rfl rfl ?_
    refine zW_cP (ip' := 11) rfl rfl zJ_len_9 rfl rfl rfl ?_
    refine zs_icmp_eq (t := 14) (ip' := 12) rfl rfl (by omega) (by omega) ?_ ?_
    · intro h11
      refine zs_pushI (ip' := 15) rfl rfl zi_k0 ?_
      refine zs_istore2 (ip' := 16) rfl rfl ?_
      exact cX_word_9_l hN hB hp hS (by omega) (by omega) 10 0 (by omega) (by omega) (fun j a b => absurd b (by omega))
    · intro h11
      refine zs_pushI (ip' := 13) rfl rfl zi_k0 ?_
      refine zW_0b rfl (Or.inl rfl) ?_
      refine ⟨0, rfl, by decide, Or.inr ⟨rfl, fun q => ?_, rfl⟩, rfl, rfl⟩
      have := ((xWord hp.2 (i := 9) (l := 9) ⟨by decide, by decide⟩ rfl (by decide) zSv_9 (by omega)).mp q.2).1
      omega
theorem cX_isNum {N : Nat} {G F : GM} {n : Nat} (hN : 229 ≤ N) {T : Int → Int} {m : Int} {p : Int} (hB : xBu G T m) (hp : 0 ≤ p ∧ p ≤ m) (hS : xTo G T m p) {a b : Int} (ha : zr a) (hb : zr b) : zPu N 193 [.ref 197, .int (zi a), .int (zi b)] (zb (tK T m p = 2 ∧ (a ≤ tV T m p ∧ tV T m p ≤ b))) G F n := by
  refine zPu_i (L0 := [.ref 197, .int (zi a), .int (zi b)]) rfl ?_
  obtain ⟨h0, ⟨m0, m1⟩, hT⟩ := id hB
  obtain ⟨s2, s3, s4, s5⟩ := id hS
  obtain ⟨r1, r2⟩ := tB_rng (T := T) hp.2
  obtain ⟨r3, r4, r5⟩ := tE_rng (T := T) hp.2
  have rk := tK_rng (T := T) (n := m) (p := p)
  have rv := tV_rng (T := T) hp.2
  have re := tE_in (T := T) hp
  refine zs_aload (ip' := 1) rfl rfl rfl ?_
  refine zs_getI (ip' := 2) rfl rfl (by omega) zsh_197 rfl (q := 4) rfl ?_
  intro hl1 hu1
  rw [s4] at hl1 hu1 ⊢
  refine zs_pushI (ip' := 3) rfl rfl zi_k2 ?_
  refine zs_icmp_ne (t := 14) (ip' := 4) rfl rfl (by omega) (by omega) ?_ ?_
  · intro h3
    refine zs_pushI (ip' := 15) rfl rfl zi_k0 ?_
    refine zW_0b rfl (Or.inl rfl) ?_
    exact zfin (zb_f (by omega)).symm
  · intro h3
    refine zs_aload (ip' := 5) rfl rfl rfl ?_
    refine zs_getI (ip' := 6) rfl rfl (by omega) zsh_197 rfl (q := 5) rfl ?_
    intro hl5 hu5
    have s5' := s5 (by omega)
    rw [s5'] at hl5 hu5 ⊢
    refine zs_iload (ip' := 7) rfl rfl rfl ?_
    refine zs_icmp_lt (t := 14) (ip' := 8) rfl rfl (by omega) (by omega) ?_ ?_
    · intro h7
      refine zs_pushI (ip' := 15) rfl rfl zi_k0 ?_
      refine zW_0b rfl (Or.inl rfl) ?_
      exact zfin (zb_f (by omega)).symm
    · intro h7
      refine zs_aload (ip' := 9) rfl rfl rfl ?_
      refine zs_getI (ip' := 10) rfl rfl (by omega) zsh_197 rfl (q := 5) rfl ?_
      intro hl9 hu9
      rw [s5'] at hl9 hu9 ⊢
      refine zs_iload (ip' := 11) rfl rfl rfl ?_
      refine zs_icmp_gt (t := 14) (ip' := 12) rfl rfl (by omega) (by omega) ?_ ?_
      · intro h11
        refine zs_pushI (ip' := 15) rfl rfl zi_k0 ?_
        refine zW_0b rfl (Or.inl rfl) ?_
        exact zfin (zb_f (by omega)).symm
      · intro h11
        refine zs_pushI (ip' := 13) rfl rfl zi_k1 ?_
        refine zs_goto (t := 15) rfl ?_
        refine zW_0b rfl (Or.inr rfl) ?_
        exact zfin (zb_t (by omega)).symm
theorem cX_takeNum {N : Nat} {G F : GM} {n : Nat} (hN : 229 ≤ N) {T : Int → Int} {m : Int} {p : Int} (hB : xBu G T m) (hp : 0 ≤ p ∧ p ≤ m) (hS : xTo G T m p) {a b : Int} (ha : zr a) (hb : zr b) : zC N 194 [.ref 197, .int (zi a), .int (zi b)] G F n (zR fun v G' F' n' => ((v = 1 ∧ (tK T m p = 2 ∧ (a ≤ tV T m p ∧ tV T m p ≤ b)) ∧ G' 197 6 = tV T m p ∧ xRt G G' ∧ xTo G' T m (tE T m p)) ∨ (v = 0 ∧ ¬ (tK T m p = 2 ∧ (a ≤ tV T m p ∧ tV T m p ≤ b)) ∧ G' = G)) ∧ F' = F ∧ n' = n) := by
  obtain ⟨h0, ⟨m0, m1⟩, hT⟩ := id hB
  obtain ⟨s2, s3, s4, s5⟩ := id hS
  obtain ⟨r1, r2⟩ := tB_rng (T := T) hp.2
  obtain ⟨r3, r4, r5⟩ := tE_rng (T := T) hp.2
  have rk := tK_rng (T := T) (n := m) (p := p)
  have rv := tV_rng (T := T) hp.2
  have re := tE_in (T := T) hp
  refine zC_i (L0 := [.ref 197, .int (zi a), .int (zi b)]) rfl ?_
  refine zs_aload (ip' := 1) rfl rfl rfl ?_
  refine zs_iload (ip' := 2) rfl rfl rfl ?_
  refine zs_iload (ip' := 3) rfl rfl rfl ?_
  refine zW_cP (ip' := 4) rfl rfl (cX_isNum hN hB hp hS ha hb) rfl rfl (z_ok3 (by omega) zsh_197 rfl rfl rfl) ?_
  refine zs_if_neB (t := 7) (ip' := 5) rfl rfl ?_ ?_
  · intro h4
    refine zs_aload (ip' := 8) rfl rfl rfl ?_
    refine zs_aload (ip' := 9) rfl rfl rfl ?_
    refine zs_getI (ip' := 10) rfl rfl (by omega) zsh_197 rfl (q := 5) rfl ?_
    intro hl9 hu9
    rw [s5 h4.1] at hl9 hu9 ⊢
    refine zs_putI (ip' := 11) rfl rfl (by omega) zsh_197 rfl (q := 6) rfl (by omega) ?_
    refine zW_gk ?_
    intro G1 e1 f1
    have hr1 : xRt G G1 := ⟨f1, fun j hj => by rw [e1, zp_ne (by omega)]⟩
    refine zs_aload (ip' := 12) rfl rfl rfl ?_
    refine zW_cV (ip' := 13) rfl rfl (cX_scan hN (xBu_rt hB hr1) re (by rw [e1, zp_ne (by decide)]; exact s3)) rfl rfl (z_ok3 (by omega) zsh_197 rfl rfl rfl) ?_
    rintro G3 F' n' ⟨⟨hrd, hto⟩, rfl, rfl⟩
    refine zs_pushI (ip' := 14) rfl rfl zi_k1 ?_
    refine zW_0b rfl (Or.inr rfl) ?_
    have e6 : G3 197 6 = tV T m p := (hrd.2 6 (by omega)).trans (by rw [e1, zp_eq])
    exact ⟨1, rfl, by decide, Or.inl ⟨rfl, h4, e6, xRt_t hr1 (xRt_d hrd), hto⟩, rfl, rfl⟩
  · intro h4
    refine zs_pushI (ip' := 6) rfl rfl zi_k0 ?_
    refine zW_0b rfl (Or.inl rfl) ?_
    exact ⟨0, rfl, by decide, Or.inr ⟨rfl, h4, rfl⟩, rfl, rfl⟩
theorem cX_semi {N : Nat} {G F : GM} {n : Nat} (hN : 229 ≤ N) {T : Int → Int} {m : Int} {p : Int} (hB : xBu G T m) (hp : 0 ≤ p ∧ p ≤ m) (hS : xTo G T m p) : zC N 195 [.ref 197] G F n (zR fun v G' F' n' => ((v = 1 ∧ (tK T m p = 3) ∧ xRt G G' ∧ xTo G' T m (tE T m p)) ∨ (v = 0 ∧ ¬ (tK T m p = 3) ∧ G' = G)) ∧ F' = F ∧ n' = n) := by
  obtain ⟨h0, ⟨m0, m1⟩, hT⟩ := id hB
  obtain ⟨s2, s3, s4, s5⟩ := id hS
  obtain ⟨r1, r2⟩ := tB_rng (T := T) hp.2
  obtain ⟨r3, r4, r5⟩ := tE_rng (T := T) hp.2
  have rk := tK_rng (T := T) (n := m) (p := p)
  have rv := tV_rng (T := T) hp.2
  have re := tE_in (T := T) hp
  refine zC_i (L0 := [.ref 197]) rfl ?_
  refine zs_aload (ip' := 1) rfl rfl rfl ?_
  refine zs_getI (ip' := 2) rfl rfl (by omega) zsh_197 rfl (q := 4) rfl ?_
  intro hl1 hu1
  rw [s4] at hl1 hu1 ⊢
  refine zs_pushI (ip' := 3) rfl rfl zi_k3 ?_
  refine zs_icmp_eq (t := 6) (ip' := 4) rfl rfl (by omega) (by omega) ?_ ?_
  · intro h3
    refine zs_aload (ip' := 7) rfl rfl rfl ?_
    refine zW_cV (ip' := 8) rfl rfl (cX_scan hN hB re s3) rfl rfl (z_ok3 (by omega) zsh_197 rfl rfl rfl) ?_
    rintro G1 F' n' ⟨⟨hrd, hto⟩, rfl, rfl⟩
    refine zs_pushI (ip' := 9) rfl rfl zi_k1 ?_
    refine zW_0b rfl (Or.inr rfl) ?_
    exact ⟨1, rfl, by decide, Or.inl ⟨rfl, h3, xRt_d hrd, hto⟩, rfl, rfl⟩
  · intro h3
    refine zs_pushI (ip' := 5) rfl rfl zi_k0 ?_
    refine zW_0b rfl (Or.inl rfl) ?_
    exact ⟨0, rfl, by decide, Or.inr ⟨rfl, h3, rfl⟩, rfl, rfl⟩
