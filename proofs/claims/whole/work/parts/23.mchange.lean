/-! The reference model: the calls that change its row (printed by wip/whole/src23.py). -/
/-- the model after the row was kept for an undo -/
def zPs (G G' : GM) : Prop := (∀ k, k ≠ 230 → k ≠ 231 → k ≠ 233 → k ≠ 234 → k ≠ 238 → k ≠ 239 → G' k = G k) ∧ (∀ j, j ≠ 6 → j ≠ 13 → j ≠ 14 → G' 230 j = G 230 j) ∧ G' 230 6 = min (G 230 6 + 1) 8 ∧
  (∀ j, 0 ≤ j → j < 256 → G' 234 (256 * (G' 230 6 - 1) + j) = G 231 j) ∧ (∀ i j, 0 ≤ i → i < G' 230 6 - 1 → 0 ≤ j → j < 256 → G' 234 (256 * i + j) = G 234 (256 * (i + (G 230 6 + 1 - G' 230 6)) + j))
section PS
variable {G G1 G2 F : GM} {t t0 v : Int} {n : Nat} {s' : Int → Int}
theorem zPs_w {Y : Int → Int} (h : zPs G1 G2) : zPs G1 (zk G2 231 Y) := by
  obtain ⟨h1, h2, h3, h4, h5⟩ := h
  have e0 : zk G2 231 Y 230 = G2 230 := zk_ne (by decide)
  have e4 : zk G2 231 Y 234 = G2 234 := zk_ne (by decide)
  unfold zPs
  rw [e0, e4]
  exact ⟨fun k a b c d e f => (zk_ne b).trans (h1 k a b c d e f), h2, h3, h4, h5⟩
theorem zPs_b {A B : Int → Int} {f l : Int} (h : zPs G1 G2) : zPs G1 (zBf G2 A B f l) := by
  obtain ⟨h1, h2, h3, h4, h5⟩ := h
  have e0 : zBf G2 A B f l 230 6 = G2 230 6 := zBf_f ⟨by decide, by decide⟩
  have e4 : zBf G2 A B f l 234 = G2 234 := zBf_o ⟨by decide, by decide, by decide⟩
  unfold zPs
  rw [e0, e4]
  exact ⟨fun k a b c d e f => (zBf_o ⟨a, e, f⟩).trans (h1 k a b c d e f), fun j a b c => (zBf_f ⟨b, c⟩).trans (h2 j a b c), h3, h4, h5⟩
def zSu (G F : GM) (n : Nat) (q : Int × Int) (s' : Int → Int) : Zq := fun o G' F' n' => o = .inl (some (.int (zi q.2))) ∧ F' = F ∧ n' = n ∧ ((q.1 ≠ 0 ∧ zMk G G' q.1) ∨ (q.1 = 0 ∧ ∃ G1, zMk G G1 0 ∧ zPs G1 G' ∧ G' 231 = s'))
theorem zSu_ok {q : Int × Int} (hm : zMk G G1 0) (hP : zPs G1 G2) (hq : q = (0, v)) (hs : G2 231 = s') : zSu G F n q s' (.inl (some (.int (zi v)))) G2 F n := by
  subst hq
  exact ⟨rfl, rfl, rfl, Or.inr ⟨rfl, G1, hm, hP, hs⟩⟩
theorem zSu_no {q : Int × Int} (hm : zMk G G1 t0) (hq : q = (t, 0)) (ht : t ≠ 0) : zSu G F n q s' (.inl (some (.int (zi 0)))) (zk G1 230 (zp (G1 230) 10 t)) F n := by
  subst hq
  exact ⟨rfl, rfl, rfl, Or.inl ⟨ht, zMk_t hm⟩⟩
end PS
theorem cM_keeps_e {N : Nat} {G F : GM} {n : Nat} (hN : 241 ≤ N) (hu : 0 ≤ G 230 6 ∧ G 230 6 ≤ 7) {v : Int32} {Q : Zq} (hk : Q (.inl none) (zk (zk G 234 (zlr (G 231) (G 234) 0 (256 * G 230 6) 256)) 230 (zp (G 230) 6 (G 230 6 + 1))) F n) : zW N 117 30 [.ref 230, .int v] [] G F n Q := by
  refine zs_aload (ip' := 31) rfl rfl rfl ?_
  refine zs_getR (ip' := 32) rfl rfl (r := 231) (by omega) zsh_230 rfl ?_
  refine zs_pushI (ip' := 33) rfl rfl zi_k0 ?_
  refine zs_aload (ip' := 34) rfl rfl rfl ?_
  refine zs_getR (ip' := 35) rfl rfl (r := 234) (by omega) zsh_230 rfl ?_
  refine zs_pushI (ip' := 36) rfl rfl zi_k256 ?_
  refine zs_aload (ip' := 37) rfl rfl rfl ?_
  refine zs_getI (ip' := 38) rfl rfl (by omega) zsh_230 rfl (q := 6) rfl ?_
  intro hl37 hu37
  refine zs_imul (ip' := 39) rfl rfl ?_
  refine zW_cV (ip' := 40) rfl rfl (cM_layRow zsh_231 (by omega) zsh_234 (by omega) (by omega) (by omega) (Or.inl (by decide))) rfl rfl rfl ?_
  rintro G' F' n' ⟨rfl, rfl, rfl⟩
  refine zs_aload (ip' := 41) rfl rfl rfl ?_
  refine zs_dupR (ip' := 42) rfl rfl ?_
  refine zs_getI (ip' := 43) rfl rfl (by omega) zsh_230 rfl (q := 6) rfl ?_
  intro hl42 hu42
  rw [show zk G 234 (zlr (G 231) (G 234) 0 (256 * G 230 6) 256) 230 = G 230 from rfl] at hl42 hu42 ⊢
  refine zs_pushI (ip' := 44) rfl rfl zi_k1 ?_
  refine zs_iadd (ip' := 45) rfl rfl ?_
  refine zs_putI (ip' := 46) rfl rfl (by omega) zsh_230 rfl (q := 6) rfl (by omega) ?_
  refine zW_1 rfl ?_
  exact hk
theorem cM_keeps_l {N : Nat} {F : GM} {n : Nat} (hN : 241 ≤ N) {G0 : GM} {Q : Zq} (hu8 : G0 230 6 = 8) (hk : ∀ (E : Int → Int) (v : Int32), (∀ i j, 0 ≤ i → i < 7 → 0 ≤ j → j < 256 → E (256 * i + j) = G0 234 (256 * (i + 1) + j)) → zW N 117 30 [.ref 230, .int v] [] (zk (zk G0 234 E) 230 (zp (G0 230) 6 7)) F n Q) : ∀ (d : Nat) (k : Nat) (G : GM) (E : Int → Int), 8 - (k : Int) < (d : Int) → (1 ≤ (k : Int) ∧ (k : Int) ≤ 8) → G = zk G0 234 E → (∀ i j, 0 ≤ i → i < (k : Int) - 1 → 0 ≤ j → j < 256 → E (256 * i + j) = G0 234 (256 * (i + 1) + j)) → (∀ p, 256 * ((k : Int) - 1) ≤ p → E p = G0 234 p) → zW N 117 6 [.ref 230, .int (zi (k : Int))] [] G F n Q := by
  intro d
  induction d with
  | zero =>
    intro k G E hd hj hG hE hE2
    exact absurd hd (by omega)
  | succ d ih =>
    intro k G E hd hj hG hE hE2
    have e4 : G 234 = E := by rw [hG, zk_eq]
    have e0 : G 230 = G0 230 := by rw [hG]; rfl
    refine zs_iload (ip' := 7) rfl rfl rfl ?_
    refine zs_pushI (ip' := 8) rfl rfl zi_k8 ?_
    refine zs_icmp_ge (t := 24) (ip' := 9) rfl rfl (by omega) (by omega) ?_ ?_
    · intro h8
      refine zs_aload (ip' := 25) rfl rfl rfl ?_
      refine zs_dupR (ip' := 26) rfl rfl ?_
      refine zs_getI (ip' := 27) rfl rfl (by omega) zsh_230 rfl (q := 6) rfl ?_
      intro hl26 hu26
      rw [e0, hu8] at hl26 hu26 ⊢
      refine zs_pushI (ip' := 28) rfl rfl zi_k1 ?_
      refine zs_isub (ip' := 29) rfl rfl ?_
      refine zs_putI (ip' := 30) rfl rfl (by omega) zsh_230 rfl (q := 6) rfl (by omega) ?_
      rw [show (8 : Int) - 1 = 7 from rfl, e0, hG]
      exact hk E _ (fun i j i0 i1 j0 j1 => hE i j i0 (by omega) j0 j1)
    · intro h8
      refine zs_aload (ip' := 10) rfl rfl rfl ?_
      refine zs_getR (ip' := 11) rfl rfl (r := 234) (by omega) zsh_230 rfl ?_
      refine zs_pushI (ip' := 12) rfl rfl zi_k256 ?_
      refine zs_iload (ip' := 13) rfl rfl rfl ?_
      refine zs_imul (ip' := 14) rfl rfl ?_
      refine zs_aload (ip' := 15) rfl rfl rfl ?_
      refine zs_getR (ip' := 16) rfl rfl (r := 234) (by omega) zsh_230 rfl ?_
      refine zs_pushI (ip' := 17) rfl rfl zi_k256 ?_
      refine zs_iload (ip' := 18) rfl rfl rfl ?_
      refine zs_pushI (ip' := 19) rfl rfl zi_k1 ?_
      refine zs_isub (ip' := 20) rfl rfl ?_
      refine zs_imul (ip' := 21) rfl rfl ?_
      refine zW_cV (ip' := 22) rfl rfl (cM_layRow zsh_234 (by omega) zsh_234 (by omega) (by omega) (by omega) (Or.inr (by omega))) rfl rfl rfl ?_
      rintro G' F' n' ⟨rfl, rfl, rfl⟩
      refine zs_iinc1 (ip' := 23) rfl rfl zi_k1 ?_
      refine zs_goto (t := 6) rfl ?_
      exact ih (k + 1) _ (zlr E E (256 * (k : Int)) (256 * ((k : Int) - 1)) 256) (by omega) (by omega) (by rw [e4, hG, zk_zk]) (fun i j i0 i1 j0 j1 => by
        by_cases e : i < (k : Int) - 1
        · rw [zlr_out (by omega)]
          exact hE i j i0 e j0 j1
        · rw [show i = (k : Int) - 1 by omega, zlr_in (by omega), hE2 _ (by omega)]
          congr 1
          omega) (fun p hp => by rw [zlr_out (by omega)]; exact hE2 p (by omega))
theorem cM_keeps_e0 {N : Nat} {G F : GM} {n : Nat} (hN : 241 ≤ N) (hu : 0 ≤ G 230 6 ∧ G 230 6 ≤ 7) {v : Value} {Q : Zq} (hk : Q (.inl none) (zk (zk G 234 (zlr (G 231) (G 234) 0 (256 * G 230 6) 256)) 230 (zp (G 230) 6 (G 230 6 + 1))) F n) : zW N 117 30 [.ref 230, v] [] G F n Q := by
  refine zs_aload (ip' := 31) rfl rfl rfl ?_
  refine zs_getR (ip' := 32) rfl rfl (r := 231) (by omega) zsh_230 rfl ?_
  refine zs_pushI (ip' := 33) rfl rfl zi_k0 ?_
  refine zs_aload (ip' := 34) rfl rfl rfl ?_
  refine zs_getR (ip' := 35) rfl rfl (r := 234) (by omega) zsh_230 rfl ?_
  refine zs_pushI (ip' := 36) rfl rfl zi_k256 ?_
  refine zs_aload (ip' := 37) rfl rfl rfl ?_
  refine zs_getI (ip' := 38) rfl rfl (by omega) zsh_230 rfl (q := 6) rfl ?_
  intro hl37 hu37
  refine zs_imul (ip' := 39) rfl rfl ?_
  refine zW_cV (ip' := 40) rfl rfl (cM_layRow zsh_231 (by omega) zsh_234 (by omega) (by omega) (by omega) (Or.inl (by decide))) rfl rfl rfl ?_
  rintro G' F' n' ⟨rfl, rfl, rfl⟩
  refine zs_aload (ip' := 41) rfl rfl rfl ?_
  refine zs_dupR (ip' := 42) rfl rfl ?_
  refine zs_getI (ip' := 43) rfl rfl (by omega) zsh_230 rfl (q := 6) rfl ?_
  intro hl42 hu42
  rw [show zk G 234 (zlr (G 231) (G 234) 0 (256 * G 230 6) 256) 230 = G 230 from rfl] at hl42 hu42 ⊢
  refine zs_pushI (ip' := 44) rfl rfl zi_k1 ?_
  refine zs_iadd (ip' := 45) rfl rfl ?_
  refine zs_putI (ip' := 46) rfl rfl (by omega) zsh_230 rfl (q := 6) rfl (by omega) ?_
  refine zW_1 rfl ?_
  exact hk
theorem cM_keepsForUndo {N : Nat} {G F : GM} {n : Nat} (hN : 241 ≤ N) (hu : 0 ≤ G 230 6 ∧ G 230 6 ≤ 8) : zC N 117 [.ref 230] G F n (zV fun G' F' n' => zPs G G' ∧ G' 231 = G 231 ∧ F' = F ∧ n' = n) := by
  refine zC_i (L0 := [.ref 230, .null]) rfl ?_
  refine zs_aload (ip' := 1) rfl rfl rfl ?_
  refine zs_getI (ip' := 2) rfl rfl (by omega) zsh_230 rfl (q := 6) rfl ?_
  intro hl1 hu1
  refine zs_pushI (ip' := 3) rfl rfl zi_k8 ?_
  refine zs_icmp_ne (t := 30) (ip' := 4) rfl rfl (by omega) (by omega) ?_ ?_
  · intro h3
    refine cM_keeps_e0 hN (by omega) ?_
    refine ⟨rfl, ⟨fun k a b c d e f => ?_, fun j a b c => ?_, ?_, ?_, ?_⟩, rfl, rfl, rfl⟩
    · rw [zk_ne a, zk_ne d]
    · rw [zk_eq]
      exact zp_ne a
    · rw [zk_eq, zp_eq]
      omega
    · intro j j0 j1
      rw [zk_eq, zp_eq, zk_ne (by decide), zk_eq, zlr_in (by omega)]
      congr 1
      omega
    · intro i j i0 i1 j0 j1
      rw [zk_eq, zp_eq] at i1
      rw [zk_eq, zp_eq, zk_ne (by decide), zk_eq, zlr_out (by omega)]
      congr 1
      omega
  · intro h3
    refine zs_pushI (ip' := 5) rfl rfl zi_k1 ?_
    refine zs_istore1 (ip' := 6) rfl rfl ?_
    refine cM_keeps_l hN h3 (fun E v hE => ?_) 8 1 G (G 234) (by omega) (by omega) (zk_self _ _).symm (fun i j i0 i1 => by omega) (fun p hp => rfl)
    refine cM_keeps_e hN (by rw [zk_eq, zp_eq]; omega) ?_
    have f1 : zk (zk G 234 E) 230 (zp (G 230) 6 7) 230 = zp (G 230) 6 7 := zk_eq _ _ _
    have f2 : zk (zk G 234 E) 230 (zp (G 230) 6 7) 234 = E := rfl
    have f3 : zk (zk G 234 E) 230 (zp (G 230) 6 7) 231 = G 231 := rfl
    rw [f1, f2, f3, zp_eq, zp_zp]
    refine ⟨rfl, ⟨fun k a b c d e f => ?_, fun j a b c => ?_, ?_, ?_, ?_⟩, rfl, rfl, rfl⟩
    · rw [zk_ne a, zk_ne d, zk_ne a, zk_ne d]
    · rw [zk_eq]
      exact zp_ne a
    · rw [zk_eq, zp_eq, h3]
      decide
    · intro j j0 j1
      rw [zk_eq, zp_eq, zk_ne (by decide), zk_eq, zlr_in (by omega)]
      congr 1
      omega
    · intro i j i0 i1 j0 j1
      rw [zk_eq, zp_eq] at i1
      rw [zk_eq, zp_eq, zk_ne (by decide), zk_eq, zlr_out (by omega), hE i j i0 (by omega) j0 j1, h3]
      congr 1
def q_setClearness (s : Int → Int) (c : Int) : Int × Int := if 0 ≤ c ∧ c ≤ 20 then (0, s 2) else (1, 0)
theorem cP_setClearness {N : Nat} {G F : GM} {n : Nat} (hN : 241 ≤ N) (hok : mOk (G 231)) (hu : 0 ≤ G 230 6 ∧ G 230 6 ≤ 8) {c : Int} (hc : zr c) : zC N 124 [.ref 230, .int (zi c)] G F n (zSu G F n (q_setClearness (G 231) c) (zp (G 231) 2 c)) := by
  refine zC_i (L0 := [.ref 230, .int (zi c), .null]) rfl ?_
  refine zs_aload (ip' := 1) rfl rfl rfl ?_
  refine zs_pushI (ip' := 2) rfl rfl zi_k0 ?_
  refine zs_putI (ip' := 3) rfl rfl (by omega) zsh_230 rfl (q := 10) rfl (by omega) ?_
  have hm := zMk_0 (G := G) (t := 0)
  generalize zk G 230 (zp (G 230) 10 0) = G1 at hm ⊢
  have e1 := zMk_r hm
  rw [← e1] at hok ⊢
  have hu6 : G1 230 6 = G 230 6 := hm.2.1 6 (by decide) (by decide) (by decide)
  rw [← hu6] at hu
  have b0 := hok.1
  have b1 := hok.2.1
  have b4 := hok.2.2.2.2.1
  have b5 := hok.2.2.2.2.2.1
  refine zs_iload (ip' := 4) rfl rfl rfl ?_
  refine zs_pushI (ip' := 5) rfl rfl zi_k0 ?_
  refine zs_pushI (ip' := 6) rfl rfl zi_k20 ?_
  refine zW_cP (ip' := 7) rfl rfl (cM_in (by omega) (by omega) (by omega)) rfl rfl rfl ?_
  refine zs_if_neB (t := 12) (ip' := 8) rfl rfl ?_ ?_
  · intro h7
    refine zs_aload (ip' := 13) rfl rfl rfl ?_
    refine zW_cV (ip' := 14) rfl rfl (cM_keepsForUndo hN hu) rfl rfl (z_ok3 (by omega) zsh_230 rfl rfl rfl) ?_
    rintro G2 F' n' ⟨hP, e2, rfl, rfl⟩
    have hok2 : mOk (G2 231) := by rw [e2]; exact hok
    have e23 := congrFun e2 3
    refine zs_aload (ip' := 15) rfl rfl rfl ?_
    refine zs_getR (ip' := 16) rfl rfl (r := 231) (by omega) zsh_230 rfl ?_
    refine zs_pushI (ip' := 17) rfl rfl zi_k2 ?_
    refine zs_iald (ip' := 18) rfl rfl (by omega) zsh_231 (by omega) ?_
    intro hl17 hu17
    refine zs_istore2 (ip' := 19) rfl rfl ?_
    refine zs_aload (ip' := 20) rfl rfl rfl ?_
    refine zs_getR (ip' := 21) rfl rfl (r := 231) (by omega) zsh_230 rfl ?_
    refine zs_pushI (ip' := 22) rfl rfl zi_k2 ?_
    refine zs_iload (ip' := 23) rfl rfl rfl ?_
    refine zs_iast (ip' := 24) rfl rfl (by omega) zsh_231 (by omega) (by omega) ?_
    refine zs_iload (ip' := 25) rfl rfl rfl ?_
    refine zW_0 rfl ?_
    exact zSu_ok hm (zPs_w hP) ((if_pos h7).trans (by rw [e2])) (by rw [zk_eq, e2])
  · intro h7
    refine zs_aload (ip' := 9) rfl rfl rfl ?_
    refine zs_pushI (ip' := 10) rfl rfl zi_k1 ?_
    refine zW_cR (ip' := 11) rfl rfl (cM_fails hN (by decide)) rfl rfl (z_ok3 (by omega) zsh_230 rfl rfl rfl) ?_
    rintro v G' F' n' _ ⟨rfl, rfl, rfl, rfl⟩
    refine zW_0 rfl ?_
    exact zSu_no hm (if_neg h7) (by decide)
def q_setFog (s : Int → Int) (h f : Int) : Int × Int := if 0 ≤ h ∧ h ≤ 23 then (if 0 ≤ f ∧ f ≤ 9 then (0, s (6 + h)) else (2, 0)) else (1, 0)
theorem cP_setFog {N : Nat} {G F : GM} {n : Nat} (hN : 241 ≤ N) (hok : mOk (G 231)) (hu : 0 ≤ G 230 6 ∧ G 230 6 ≤ 8) {h f : Int} (hh : zr h) (hf : zr f) : zC N 125 [.ref 230, .int (zi h), .int (zi f)] G F n (zSu G F n (q_setFog (G 231) h f) (zp (G 231) (6 + h) f)) := by
  refine zC_i (L0 := [.ref 230, .int (zi h), .int (zi f), .null]) rfl ?_
  refine zs_aload (ip' := 1) rfl rfl rfl ?_
  refine zs_pushI (ip' := 2) rfl rfl zi_k0 ?_
  refine zs_putI (ip' := 3) rfl rfl (by omega) zsh_230 rfl (q := 10) rfl (by omega) ?_
  have hm := zMk_0 (G := G) (t := 0)
  generalize zk G 230 (zp (G 230) 10 0) = G1 at hm ⊢
  have e1 := zMk_r hm
  rw [← e1] at hok ⊢
  have hu6 : G1 230 6 = G 230 6 := hm.2.1 6 (by decide) (by decide) (by decide)
  rw [← hu6] at hu
  have b0 := hok.1
  have b1 := hok.2.1
  have b4 := hok.2.2.2.2.1
  have b5 := hok.2.2.2.2.2.1
  refine zs_iload (ip' := 4) rfl rfl rfl ?_
  refine zs_pushI (ip' := 5) rfl rfl zi_k0 ?_
  refine zs_pushI (ip' := 6) rfl rfl zi_k23 ?_
  refine zW_cP (ip' := 7) rfl rfl (cM_in (by omega) (by omega) (by omega)) rfl rfl rfl ?_
  refine zs_if_neB (t := 12) (ip' := 8) rfl rfl ?_ ?_
  · intro h7
    refine zs_iload (ip' := 13) rfl rfl rfl ?_
    refine zs_pushI (ip' := 14) rfl rfl zi_k0 ?_
    refine zs_pushI (ip' := 15) rfl rfl zi_k9 ?_
    refine zW_cP (ip' := 16) rfl rfl (cM_in (by omega) (by omega) (by omega)) rfl rfl rfl ?_
    refine zs_if_neB (t := 21) (ip' := 17) rfl rfl ?_ ?_
    · intro h16
      refine zs_aload (ip' := 22) rfl rfl rfl ?_
      refine zW_cV (ip' := 23) rfl rfl (cM_keepsForUndo hN hu) rfl rfl (z_ok3 (by omega) zsh_230 rfl rfl rfl) ?_
      rintro G2 F' n' ⟨hP, e2, rfl, rfl⟩
      have hok2 : mOk (G2 231) := by rw [e2]; exact hok
      have e23 := congrFun e2 3
      refine zs_aload (ip' := 24) rfl rfl rfl ?_
      refine zs_getR (ip' := 25) rfl rfl (r := 231) (by omega) zsh_230 rfl ?_
      refine zs_pushI (ip' := 26) rfl rfl zi_k6 ?_
      refine zs_iload (ip' := 27) rfl rfl rfl ?_
      refine zs_iadd (ip' := 28) rfl rfl ?_
      refine zs_iald (ip' := 29) rfl rfl (by omega) zsh_231 (by omega) ?_
      intro hl28 hu28
      refine zs_istore3 (ip' := 30) rfl rfl ?_
      refine zs_aload (ip' := 31) rfl rfl rfl ?_
      refine zs_getR (ip' := 32) rfl rfl (r := 231) (by omega) zsh_230 rfl ?_
      refine zs_pushI (ip' := 33) rfl rfl zi_k6 ?_
      refine zs_iload (ip' := 34) rfl rfl rfl ?_
      refine zs_iadd (ip' := 35) rfl rfl ?_
      refine zs_iload (ip' := 36) rfl rfl rfl ?_
      refine zs_iast (ip' := 37) rfl rfl (by omega) zsh_231 (by omega) (by omega) ?_
      refine zs_iload (ip' := 38) rfl rfl rfl ?_
      refine zW_0 rfl ?_
      exact zSu_ok hm (zPs_w hP) ((if_pos h7).trans ((if_pos h16).trans (by rw [e2]))) (by rw [zk_eq, e2])
    · intro h16
      refine zs_aload (ip' := 18) rfl rfl rfl ?_
      refine zs_pushI (ip' := 19) rfl rfl zi_k2 ?_
      refine zW_cR (ip' := 20) rfl rfl (cM_fails hN (by decide)) rfl rfl (z_ok3 (by omega) zsh_230 rfl rfl rfl) ?_
      rintro v G' F' n' _ ⟨rfl, rfl, rfl, rfl⟩
      refine zW_0 rfl ?_
      exact zSu_no hm ((if_pos h7).trans (if_neg h16)) (by decide)
  · intro h7
    refine zs_aload (ip' := 9) rfl rfl rfl ?_
    refine zs_pushI (ip' := 10) rfl rfl zi_k1 ?_
    refine zW_cR (ip' := 11) rfl rfl (cM_fails hN (by decide)) rfl rfl (z_ok3 (by omega) zsh_230 rfl rfl rfl) ?_
    rintro v G' F' n' _ ⟨rfl, rfl, rfl, rfl⟩
    refine zW_0 rfl ?_
    exact zSu_no hm (if_neg h7) (by decide)
def q_clearSuccessor (s : Int → Int) (l : Int) : Int × Int := if 0 ≤ l ∧ l ≤ s 4 - 1 then (if s (174 + 5 * l + 4) < 0 then (2, 0) else (0, s (174 + 5 * l + 4))) else (1, 0)
theorem cP_clearSuccessor {N : Nat} {G F : GM} {n : Nat} (hN : 241 ≤ N) (hok : mOk (G 231)) (hu : 0 ≤ G 230 6 ∧ G 230 6 ≤ 8) {l : Int} (hl : zr l) : zC N 122 [.ref 230, .int (zi l)] G F n (zSu G F n (q_clearSuccessor (G 231) l) (zp (G 231) (174 + 5 * l + 4) (-1))) := by
  refine zC_i (L0 := [.ref 230, .int (zi l), .null]) rfl ?_
  refine zs_aload (ip' := 1) rfl rfl rfl ?_
  refine zs_pushI (ip' := 2) rfl rfl zi_k0 ?_
  refine zs_putI (ip' := 3) rfl rfl (by omega) zsh_230 rfl (q := 10) rfl (by omega) ?_
  have hm := zMk_0 (G := G) (t := 0)
  generalize zk G 230 (zp (G 230) 10 0) = G1 at hm ⊢
  have e1 := zMk_r hm
  rw [← e1] at hok ⊢
  have hu6 : G1 230 6 = G 230 6 := hm.2.1 6 (by decide) (by decide) (by decide)
  rw [← hu6] at hu
  have b0 := hok.1
  have b1 := hok.2.1
  have b4 := hok.2.2.2.2.1
  have b5 := hok.2.2.2.2.2.1
  refine zs_aload (ip' := 4) rfl rfl rfl ?_
  refine zs_iload (ip' := 5) rfl rfl rfl ?_
  refine zW_cP (ip' := 6) rfl rfl (cM_isLight hN (by omega) hl) rfl rfl (z_ok3 (by omega) zsh_230 rfl rfl rfl) ?_
  refine zs_if_neB (t := 11) (ip' := 7) rfl rfl ?_ ?_
  · intro h6
    refine zs_aload (ip' := 12) rfl rfl rfl ?_
    refine zs_getR (ip' := 13) rfl rfl (r := 231) (by omega) zsh_230 rfl ?_
    refine zs_iload (ip' := 14) rfl rfl rfl ?_
    refine zs_pushI (ip' := 15) rfl rfl zi_k4 ?_
    refine zW_cP (ip' := 16) rfl rfl cM_lightAt rfl rfl rfl ?_
    refine zs_iald (ip' := 17) rfl rfl (by omega) zsh_231 (by omega) ?_
    intro hl16 hu16
    refine zs_istore2 (ip' := 18) rfl rfl ?_
    refine zs_iload (ip' := 19) rfl rfl rfl ?_
    refine zs_if_ge (t := 24) (ip' := 20) rfl rfl (by omega) ?_ ?_
    · intro h19
      refine zs_aload (ip' := 25) rfl rfl rfl ?_
      refine zW_cV (ip' := 26) rfl rfl (cM_keepsForUndo hN hu) rfl rfl (z_ok3 (by omega) zsh_230 rfl rfl rfl) ?_
      rintro G2 F' n' ⟨hP, e2, rfl, rfl⟩
      have hok2 : mOk (G2 231) := by rw [e2]; exact hok
      have e23 := congrFun e2 3
      refine zs_aload (ip' := 27) rfl rfl rfl ?_
      refine zs_getR (ip' := 28) rfl rfl (r := 231) (by omega) zsh_230 rfl ?_
      refine zs_iload (ip' := 29) rfl rfl rfl ?_
      refine zs_pushI (ip' := 30) rfl rfl zi_k4 ?_
      refine zW_cP (ip' := 31) rfl rfl cM_lightAt rfl rfl rfl ?_
      refine zs_pushI (ip' := 32) rfl rfl zi_km1 ?_
      refine zs_iast (ip' := 33) rfl rfl (by omega) zsh_231 (by omega) (by omega) ?_
      refine zs_iload (ip' := 34) rfl rfl rfl ?_
      refine zW_0 rfl ?_
      exact zSu_ok hm (zPs_w hP) ((if_pos h6).trans (if_neg (by omega))) (by rw [zk_eq, e2])
    · intro h19
      refine zs_aload (ip' := 21) rfl rfl rfl ?_
      refine zs_pushI (ip' := 22) rfl rfl zi_k2 ?_
      refine zW_cR (ip' := 23) rfl rfl (cM_fails hN (by decide)) rfl rfl (z_ok3 (by omega) zsh_230 rfl rfl rfl) ?_
      rintro v G' F' n' _ ⟨rfl, rfl, rfl, rfl⟩
      refine zW_0 rfl ?_
      exact zSu_no hm ((if_pos h6).trans (if_pos h19)) (by decide)
  · intro h6
    refine zs_aload (ip' := 8) rfl rfl rfl ?_
    refine zs_pushI (ip' := 9) rfl rfl zi_k1 ?_
    refine zW_cR (ip' := 10) rfl rfl (cM_fails hN (by decide)) rfl rfl (z_ok3 (by omega) zsh_230 rfl rfl rfl) ?_
    rintro v G' F' n' _ ⟨rfl, rfl, rfl, rfl⟩
    refine zW_0 rfl ?_
    exact zSu_no hm (if_neg h6) (by decide)
def q_setTarget (s : Int → Int) (w l : Int) : Int × Int := if sBoth s w l then (if s (214 + 7 * w + 2) ≠ 0 then (2, 0) else (0, sFarL (zp s (214 + 7 * w + 3) l) w l)) else (1, 0)
theorem cP_setTarget {N : Nat} {G F : GM} {n : Nat} (hN : 241 ≤ N) (hok : mOk (G 231)) (hu : 0 ≤ G 230 6 ∧ G 230 6 ≤ 8) {w l : Int} (hw : zr w) (hl : zr l) : zC N 126 [.ref 230, .int (zi w), .int (zi l)] G F n (zSu G F n (q_setTarget (G 231) w l) (zp (G 231) (214 + 7 * w + 3) l)) := by
  refine zC_i (L0 := [.ref 230, .int (zi w), .int (zi l)]) rfl ?_
  refine zs_aload (ip' := 1) rfl rfl rfl ?_
  refine zs_pushI (ip' := 2) rfl rfl zi_k0 ?_
  refine zs_putI (ip' := 3) rfl rfl (by omega) zsh_230 rfl (q := 10) rfl (by omega) ?_
  have hm := zMk_0 (G := G) (t := 0)
  generalize zk G 230 (zp (G 230) 10 0) = G1 at hm ⊢
  have e1 := zMk_r hm
  rw [← e1] at hok ⊢
  have hu6 : G1 230 6 = G 230 6 := hm.2.1 6 (by decide) (by decide) (by decide)
  rw [← hu6] at hu
  have b0 := hok.1
  have b1 := hok.2.1
  have b4 := hok.2.2.2.2.1
  have b5 := hok.2.2.2.2.2.1
  refine zs_aload (ip' := 4) rfl rfl rfl ?_
  refine zs_iload (ip' := 5) rfl rfl rfl ?_
  refine zW_cP (ip' := 6) rfl rfl (cM_isWalker hN (by omega) hw) rfl rfl (z_ok3 (by omega) zsh_230 rfl rfl rfl) ?_
  refine zs_if_eqB (t := 11) (ip' := 7) rfl rfl ?_ ?_
  · intro h6
    refine zs_aload (ip' := 12) rfl rfl rfl ?_
    refine zs_pushI (ip' := 13) rfl rfl zi_k1 ?_
    refine zW_cR (ip' := 14) rfl rfl (cM_fails hN (by decide)) rfl rfl (z_ok3 (by omega) zsh_230 rfl rfl rfl) ?_
    rintro v G' F' n' _ ⟨rfl, rfl, rfl, rfl⟩
    refine zW_0 rfl ?_
    exact zSu_no hm (if_neg (fun q => h6 q.1)) (by decide)
  · intro h6
    refine zs_aload (ip' := 8) rfl rfl rfl ?_
    refine zs_iload (ip' := 9) rfl rfl rfl ?_
    refine zW_cP (ip' := 10) rfl rfl (cM_isLight hN (by omega) hl) rfl rfl (z_ok3 (by omega) zsh_230 rfl rfl rfl) ?_
    refine zs_if_neB (t := 15) (ip' := 11) rfl rfl ?_ ?_
    · intro h10
      refine zs_aload (ip' := 16) rfl rfl rfl ?_
      refine zs_getR (ip' := 17) rfl rfl (r := 231) (by omega) zsh_230 rfl ?_
      refine zs_iload (ip' := 18) rfl rfl rfl ?_
      refine zs_pushI (ip' := 19) rfl rfl zi_k2 ?_
      refine zW_cP (ip' := 20) rfl rfl cM_walkerAt rfl rfl rfl ?_
      refine zs_iald (ip' := 21) rfl rfl (by omega) zsh_231 (by omega) ?_
      intro hl20 hu20
      refine zs_if_eq (t := 26) (ip' := 22) rfl rfl (by omega) ?_ ?_
      · intro h21
        refine zs_aload (ip' := 27) rfl rfl rfl ?_
        refine zW_cV (ip' := 28) rfl rfl (cM_keepsForUndo hN hu) rfl rfl (z_ok3 (by omega) zsh_230 rfl rfl rfl) ?_
        rintro G2 F' n' ⟨hP, e2, rfl, rfl⟩
        have hok2 : mOk (G2 231) := by rw [e2]; exact hok
        have e23 := congrFun e2 3
        refine zs_aload (ip' := 29) rfl rfl rfl ?_
        refine zs_getR (ip' := 30) rfl rfl (r := 231) (by omega) zsh_230 rfl ?_
        refine zs_iload (ip' := 31) rfl rfl rfl ?_
        refine zs_pushI (ip' := 32) rfl rfl zi_k3 ?_
        refine zW_cP (ip' := 33) rfl rfl cM_walkerAt rfl rfl rfl ?_
        refine zs_iload (ip' := 34) rfl rfl rfl ?_
        refine zs_iast (ip' := 35) rfl rfl (by omega) zsh_231 (by omega) (by omega) ?_
        refine zs_aload (ip' := 36) rfl rfl rfl ?_
        refine zs_getR (ip' := 37) rfl rfl (r := 231) (by omega) zsh_230 rfl ?_
        refine zs_iload (ip' := 38) rfl rfl rfl ?_
        refine zs_iload (ip' := 39) rfl rfl rfl ?_
        refine zW_cP (ip' := 40) rfl rfl (cM_farFromLight zsh_231 (by omega) (by omega) (by omega)) rfl rfl rfl ?_
        refine zW_0 rfl ?_
        exact zSu_ok hm (zPs_w hP) ((if_pos ⟨h6, h10⟩).trans ((if_neg (fun q => q h21)).trans (by rw [zk_eq, e2]))) (by rw [zk_eq, e2])
      · intro h21
        refine zs_aload (ip' := 23) rfl rfl rfl ?_
        refine zs_pushI (ip' := 24) rfl rfl zi_k2 ?_
        refine zW_cR (ip' := 25) rfl rfl (cM_fails hN (by decide)) rfl rfl (z_ok3 (by omega) zsh_230 rfl rfl rfl) ?_
        rintro v G' F' n' _ ⟨rfl, rfl, rfl, rfl⟩
        refine zW_0 rfl ?_
        exact zSu_no hm ((if_pos ⟨h6, h10⟩).trans (if_pos h21)) (by decide)
    · intro h10
      refine zs_aload (ip' := 12) rfl rfl rfl ?_
      refine zs_pushI (ip' := 13) rfl rfl zi_k1 ?_
      refine zW_cR (ip' := 14) rfl rfl (cM_fails hN (by decide)) rfl rfl (z_ok3 (by omega) zsh_230 rfl rfl rfl) ?_
      rintro v G' F' n' _ ⟨rfl, rfl, rfl, rfl⟩
      refine zW_0 rfl ?_
      exact zSu_no hm (if_neg (fun q => h10 q.2)) (by decide)
def q_layPlank (s : Int → Int) (x y q : Int) : Int × Int := if sIn s x y then (if 1 ≤ q ∧ q ≤ 9 then (if s (30 + 12 * y + x) = 0 ∨ s (30 + 12 * y + x) = 2 then (3, 0) else (0, sPlanks (zp s (30 + 12 * y + x) (10 + q)))) else (2, 0)) else (1, 0)
theorem cP_layPlank {N : Nat} {G F : GM} {n : Nat} (hN : 241 ≤ N) (hok : mOk (G 231)) (hu : 0 ≤ G 230 6 ∧ G 230 6 ≤ 8) {x y : Int} (hx : zr x) (hy : zr y) {q : Int} (hq : zr q) : zC N 123 [.ref 230, .int (zi x), .int (zi y), .int (zi q)] G F n (zSu G F n (q_layPlank (G 231) x y q) (zp (G 231) (30 + 12 * y + x) (10 + q))) := by
  refine zC_i (L0 := [.ref 230, .int (zi x), .int (zi y), .int (zi q), .null]) rfl ?_
  refine zs_aload (ip' := 1) rfl rfl rfl ?_
  refine zs_pushI (ip' := 2) rfl rfl zi_k0 ?_
  refine zs_putI (ip' := 3) rfl rfl (by omega) zsh_230 rfl (q := 10) rfl (by omega) ?_
  have hm := zMk_0 (G := G) (t := 0)
  generalize zk G 230 (zp (G 230) 10 0) = G1 at hm ⊢
  have e1 := zMk_r hm
  rw [← e1] at hok ⊢
  have hu6 : G1 230 6 = G 230 6 := hm.2.1 6 (by decide) (by decide) (by decide)
  rw [← hu6] at hu
  have b0 := hok.1
  have b1 := hok.2.1
  have b4 := hok.2.2.2.2.1
  have b5 := hok.2.2.2.2.2.1
  refine zs_aload (ip' := 4) rfl rfl rfl ?_
  refine zs_iload (ip' := 5) rfl rfl rfl ?_
  refine zs_iload (ip' := 6) rfl rfl rfl ?_
  refine zW_cP (ip' := 7) rfl rfl (cM_isCell hN (by omega) (by omega) hx hy) rfl rfl (z_ok3 (by omega) zsh_230 rfl rfl rfl) ?_
  refine zs_if_neB (t := 12) (ip' := 8) rfl rfl ?_ ?_
  · intro h7
    obtain ⟨⟨x0, x1⟩, y0, y1⟩ := id h7
    refine zs_iload (ip' := 13) rfl rfl rfl ?_
    refine zs_pushI (ip' := 14) rfl rfl zi_k1 ?_
    refine zs_pushI (ip' := 15) rfl rfl zi_k9 ?_
    refine zW_cP (ip' := 16) rfl rfl (cM_in (by omega) (by omega) (by omega)) rfl rfl rfl ?_
    refine zs_if_neB (t := 21) (ip' := 17) rfl rfl ?_ ?_
    · intro h16
      refine zs_aload (ip' := 22) rfl rfl rfl ?_
      refine zs_getR (ip' := 23) rfl rfl (r := 231) (by omega) zsh_230 rfl ?_
      refine zs_iload (ip' := 24) rfl rfl rfl ?_
      refine zs_iload (ip' := 25) rfl rfl rfl ?_
      refine zW_cP (ip' := 26) rfl rfl cM_cellAt rfl rfl rfl ?_
      refine zs_iald (ip' := 27) rfl rfl (by omega) zsh_231 (by omega) ?_
      intro hl26 hu26
      refine zs_istore4 (ip' := 28) rfl rfl ?_
      refine zs_iload (ip' := 29) rfl rfl rfl ?_
      refine zs_if_eq (t := 33) (ip' := 30) rfl rfl (by omega) ?_ ?_
      · intro h29
        refine zs_aload (ip' := 34) rfl rfl rfl ?_
        refine zs_pushI (ip' := 35) rfl rfl zi_k3 ?_
        refine zW_cR (ip' := 36) rfl rfl (cM_fails hN (by decide)) rfl rfl (z_ok3 (by omega) zsh_230 rfl rfl rfl) ?_
        rintro v G' F' n' _ ⟨rfl, rfl, rfl, rfl⟩
        refine zW_0 rfl ?_
        exact zSu_no hm ((if_pos h7).trans ((if_pos h16).trans (if_pos (Or.inl h29)))) (by decide)
      · intro h29
        refine zs_iload (ip' := 31) rfl rfl rfl ?_
        refine zs_pushI (ip' := 32) rfl rfl zi_k2 ?_
        refine zs_icmp_ne (t := 37) (ip' := 33) rfl rfl (by omega) (by omega) ?_ ?_
        · intro h32
          refine zs_aload (ip' := 38) rfl rfl rfl ?_
          refine zW_cV (ip' := 39) rfl rfl (cM_keepsForUndo hN hu) rfl rfl (z_ok3 (by omega) zsh_230 rfl rfl rfl) ?_
          rintro G2 F' n' ⟨hP, e2, rfl, rfl⟩
          have hok2 : mOk (G2 231) := by rw [e2]; exact hok
          have e23 := congrFun e2 3
          refine zs_aload (ip' := 40) rfl rfl rfl ?_
          refine zs_getR (ip' := 41) rfl rfl (r := 231) (by omega) zsh_230 rfl ?_
          refine zs_iload (ip' := 42) rfl rfl rfl ?_
          refine zs_iload (ip' := 43) rfl rfl rfl ?_
          refine zW_cP (ip' := 44) rfl rfl cM_cellAt rfl rfl rfl ?_
          refine zs_pushI (ip' := 45) rfl rfl zi_k10 ?_
          refine zs_iload (ip' := 46) rfl rfl rfl ?_
          refine zs_iadd (ip' := 47) rfl rfl ?_
          refine zs_iast (ip' := 48) rfl rfl (by omega) zsh_231 (by omega) (by omega) ?_
          refine zs_aload (ip' := 49) rfl rfl rfl ?_
          refine zW_cP (ip' := 50) rfl rfl (cM_planks hN (by rw [zk_eq, zp_ne (by omega), zp_ne (by omega)]; exact mOk_hb hok2)) rfl rfl (z_ok3 (by omega) zsh_230 rfl rfl rfl) ?_
          refine zW_0 rfl ?_
          exact zSu_ok hm (zPs_w hP) ((if_pos h7).trans ((if_pos h16).trans ((if_neg (fun z => z.elim h29 h32)).trans (by rw [zk_eq, e2])))) (by rw [zk_eq, e2])
        · intro h32
          refine zs_aload (ip' := 34) rfl rfl rfl ?_
          refine zs_pushI (ip' := 35) rfl rfl zi_k3 ?_
          refine zW_cR (ip' := 36) rfl rfl (cM_fails hN (by decide)) rfl rfl (z_ok3 (by omega) zsh_230 rfl rfl rfl) ?_
          rintro v G' F' n' _ ⟨rfl, rfl, rfl, rfl⟩
          refine zW_0 rfl ?_
          exact zSu_no hm ((if_pos h7).trans ((if_pos h16).trans (if_pos (Or.inr h32)))) (by decide)
    · intro h16
      refine zs_aload (ip' := 18) rfl rfl rfl ?_
      refine zs_pushI (ip' := 19) rfl rfl zi_k2 ?_
      refine zW_cR (ip' := 20) rfl rfl (cM_fails hN (by decide)) rfl rfl (z_ok3 (by omega) zsh_230 rfl rfl rfl) ?_
      rintro v G' F' n' _ ⟨rfl, rfl, rfl, rfl⟩
      refine zW_0 rfl ?_
      exact zSu_no hm ((if_pos h7).trans (if_neg h16)) (by decide)
  · intro h7
    refine zs_aload (ip' := 9) rfl rfl rfl ?_
    refine zs_pushI (ip' := 10) rfl rfl zi_k1 ?_
    refine zW_cR (ip' := 11) rfl rfl (cM_fails hN (by decide)) rfl rfl (z_ok3 (by omega) zsh_230 rfl rfl rfl) ?_
    rintro v G' F' n' _ ⟨rfl, rfl, rfl, rfl⟩
    refine zW_0 rfl ?_
    exact zSu_no hm (if_neg h7) (by decide)
def sAddL (s : Int → Int) (x y b c : Int) : Int → Int := zp (zp (zp (zp (zp (zp s (174 + 5 * s 4 + 0) x) (174 + 5 * s 4 + 1) y) (174 + 5 * s 4 + 2) b) (174 + 5 * s 4 + 3) c) (174 + 5 * s 4 + 4) (-1)) 4 (s 4 + 1)
def sAddW (s : Int → Int) (x y : Int) : Int → Int := fun j => if j = 5 then s 5 + 1 else if j = 214 + 7 * s 5 + 3 then -1 else if j = 214 + 7 * s 5 + 1 then y else if j = 214 + 7 * s 5 + 0 then x else if 214 + 7 * s 5 ≤ j ∧ j < 214 + 7 * s 5 + 7 then 0 else s j
theorem cM_addsLight {N : Nat} {G F : GM} {n : Nat} {r : Nat} (hr : z_sh r = (1, 256, [])) (hrN : r < N) {x y b c : Int} (hx : zr x) (hy : zr y) (hb : zr b) (hc : zr c) (h4 : 0 ≤ G r 4 ∧ G r 4 ≤ 7) : zC N 60 [.ref r, .int (zi x), .int (zi y), .int (zi b), .int (zi c)] G F n (zR fun v G' F' n' => v = G r 4 ∧ G' = zk G r (sAddL (G r) x y b c) ∧ F' = F ∧ n' = n) := by
  refine zC_i (L0 := [.ref r, .int (zi x), .int (zi y), .int (zi b), .int (zi c), .null]) rfl ?_
  refine zs_aload (ip' := 1) rfl rfl rfl ?_
  refine zs_pushI (ip' := 2) rfl rfl zi_k4 ?_
  refine zs_iald (ip' := 3) rfl rfl hrN hr (by omega) ?_
  intro hl2 hu2
  refine zs_istore5 (ip' := 4) rfl rfl ?_
  refine zs_aload (ip' := 5) rfl rfl rfl ?_
  refine zs_iload (ip' := 6) rfl rfl rfl ?_
  refine zs_pushI (ip' := 7) rfl rfl zi_k0 ?_
  refine zW_cP (ip' := 8) rfl rfl cM_lightAt rfl rfl rfl ?_
  refine zs_iload (ip' := 9) rfl rfl rfl ?_
  refine zs_iast (ip' := 10) rfl rfl hrN hr (by omega) (by omega) ?_
  skip
  refine zs_aload (ip' := 11) rfl rfl rfl ?_
  refine zs_iload (ip' := 12) rfl rfl rfl ?_
  refine zs_pushI (ip' := 13) rfl rfl zi_k1 ?_
  refine zW_cP (ip' := 14) rfl rfl cM_lightAt rfl rfl rfl ?_
  refine zs_iload (ip' := 15) rfl rfl rfl ?_
  refine zs_iast (ip' := 16) rfl rfl hrN hr (by omega) (by omega) ?_
  rw [zk_eq, zk_zk]
  refine zs_aload (ip' := 17) rfl rfl rfl ?_
  refine zs_iload (ip' := 18) rfl rfl rfl ?_
  refine zs_pushI (ip' := 19) rfl rfl zi_k2 ?_
  refine zW_cP (ip' := 20) rfl rfl cM_lightAt rfl rfl rfl ?_
  refine zs_iload (ip' := 21) rfl rfl rfl ?_
  refine zs_iast (ip' := 22) rfl rfl hrN hr (by omega) (by omega) ?_
  rw [zk_eq, zk_zk]
  refine zs_aload (ip' := 23) rfl rfl rfl ?_
  refine zs_iload (ip' := 24) rfl rfl rfl ?_
  refine zs_pushI (ip' := 25) rfl rfl zi_k3 ?_
  refine zW_cP (ip' := 26) rfl rfl cM_lightAt rfl rfl rfl ?_
  refine zs_iload (ip' := 27) rfl rfl rfl ?_
  refine zs_iast (ip' := 28) rfl rfl hrN hr (by omega) (by omega) ?_
  rw [zk_eq, zk_zk]
  refine zs_aload (ip' := 29) rfl rfl rfl ?_
  refine zs_iload (ip' := 30) rfl rfl rfl ?_
  refine zs_pushI (ip' := 31) rfl rfl zi_k4 ?_
  refine zW_cP (ip' := 32) rfl rfl cM_lightAt rfl rfl rfl ?_
  refine zs_pushI (ip' := 33) rfl rfl zi_km1 ?_
  refine zs_iast (ip' := 34) rfl rfl hrN hr (by omega) (by omega) ?_
  rw [zk_eq, zk_zk]
  refine zs_aload (ip' := 35) rfl rfl rfl ?_
  refine zs_pushI (ip' := 36) rfl rfl zi_k4 ?_
  refine zs_dup2 (ip' := 37) rfl rfl ?_
  refine zs_iald (ip' := 38) rfl rfl hrN hr (by omega) ?_
  intro hl37 hu37
  rw [zk_eq, zp_ne (by omega), zp_ne (by omega), zp_ne (by omega), zp_ne (by omega), zp_ne (by omega)] at hl37 hu37 ⊢
  refine zs_pushI (ip' := 39) rfl rfl zi_k1 ?_
  refine zs_iadd (ip' := 40) rfl rfl ?_
  refine zs_iast (ip' := 41) rfl rfl hrN hr (by omega) (by omega) ?_
  rw [zk_eq, zk_zk]
  refine zs_iload (ip' := 42) rfl rfl rfl ?_
  refine zW_0 rfl ?_
  exact ⟨_, rfl, ⟨by omega, by omega⟩, rfl, rfl, rfl, rfl⟩
theorem cM_addsWalker_l {N : Nat} {G F : GM} {n : Nat} {r : Nat} (hr : z_sh r = (1, 256, [])) (hrN : r < N) {x y : Int} (hx : zr x) (hy : zr y) (h5 : 0 ≤ G r 5 ∧ G r 5 ≤ 5) : ∀ (d : Nat) (k : Nat) (Y : Int → Int), 7 - (k : Int) < (d : Int) → (k : Int) ≤ 7 → (∀ j, Y j = if 214 + 7 * G r 5 ≤ j ∧ j < 214 + 7 * G r 5 + k then 0 else G r j) → zW N 61 6 [.ref r, .int (zi x), .int (zi y), .int (zi (G r 5)), .int (zi (k : Int))] [] (zk G r Y) F n (zR fun v G' F' n' => v = G r 5 ∧ G' = zk G r (sAddW (G r) x y) ∧ F' = F ∧ n' = n) := by
  intro d
  induction d with
  | zero =>
    intro k Y hd hj hY
    exact absurd hd (by omega)
  | succ d ih =>
    intro k Y hd hj hY
    refine zs_iload (ip' := 7) rfl rfl rfl ?_
    refine zs_pushI (ip' := 8) rfl rfl zi_k7 ?_
    refine zs_icmp_ge (t := 17) (ip' := 9) rfl rfl (by omega) (by omega) ?_ ?_
    · intro h8
      refine zs_aload (ip' := 18) rfl rfl rfl ?_
      refine zs_iload (ip' := 19) rfl rfl rfl ?_
      refine zs_pushI (ip' := 20) rfl rfl zi_k0 ?_
      refine zW_cP (ip' := 21) rfl rfl cM_walkerAt rfl rfl rfl ?_
      refine zs_iload (ip' := 22) rfl rfl rfl ?_
      refine zs_iast (ip' := 23) rfl rfl hrN hr (by omega) (by omega) ?_
      rw [zk_eq, zk_zk]
      refine zs_aload (ip' := 24) rfl rfl rfl ?_
      refine zs_iload (ip' := 25) rfl rfl rfl ?_
      refine zs_pushI (ip' := 26) rfl rfl zi_k1 ?_
      refine zW_cP (ip' := 27) rfl rfl cM_walkerAt rfl rfl rfl ?_
      refine zs_iload (ip' := 28) rfl rfl rfl ?_
      refine zs_iast (ip' := 29) rfl rfl hrN hr (by omega) (by omega) ?_
      rw [zk_eq, zk_zk]
      refine zs_aload (ip' := 30) rfl rfl rfl ?_
      refine zs_iload (ip' := 31) rfl rfl rfl ?_
      refine zs_pushI (ip' := 32) rfl rfl zi_k3 ?_
      refine zW_cP (ip' := 33) rfl rfl cM_walkerAt rfl rfl rfl ?_
      refine zs_pushI (ip' := 34) rfl rfl zi_km1 ?_
      refine zs_iast (ip' := 35) rfl rfl hrN hr (by omega) (by omega) ?_
      rw [zk_eq, zk_zk]
      refine zs_aload (ip' := 36) rfl rfl rfl ?_
      refine zs_pushI (ip' := 37) rfl rfl zi_k5 ?_
      refine zs_dup2 (ip' := 38) rfl rfl ?_
      refine zs_iald (ip' := 39) rfl rfl hrN hr (by omega) ?_
      intro hl38 hu38
      have hY5 : Y 5 = G r 5 := by rw [hY, if_neg (by omega)]
      rw [zk_eq, zp_ne (by omega), zp_ne (by omega), zp_ne (by omega), hY5] at hl38 hu38 ⊢
      refine zs_pushI (ip' := 40) rfl rfl zi_k1 ?_
      refine zs_iadd (ip' := 41) rfl rfl ?_
      refine zs_iast (ip' := 42) rfl rfl hrN hr (by omega) (by omega) ?_
      rw [zk_eq, zk_zk]
      refine zs_iload (ip' := 43) rfl rfl rfl ?_
      refine zW_0 rfl ?_
      refine ⟨_, rfl, ⟨by omega, by omega⟩, rfl, ?_, rfl, rfl⟩
      congr 1
      funext j
      unfold sAddW zp
      by_cases c1 : j = 5
      · rw [if_pos c1, if_pos c1]
      · rw [if_neg c1, if_neg c1]
        by_cases c2 : j = 214 + 7 * G r 5 + 3
        · rw [if_pos c2, if_pos c2]
        · rw [if_neg c2, if_neg c2]
          by_cases c3 : j = 214 + 7 * G r 5 + 1
          · rw [if_pos c3, if_pos c3]
          · rw [if_neg c3, if_neg c3]
            by_cases c4 : j = 214 + 7 * G r 5 + 0
            · rw [if_pos c4, if_pos c4]
            · rw [if_neg c4, if_neg c4, hY, show (k : Int) = 7 by omega]
    · intro h8
      refine zs_aload (ip' := 10) rfl rfl rfl ?_
      refine zs_iload (ip' := 11) rfl rfl rfl ?_
      refine zs_iload (ip' := 12) rfl rfl rfl ?_
      refine zW_cP (ip' := 13) rfl rfl cM_walkerAt rfl rfl rfl ?_
      refine zs_pushI (ip' := 14) rfl rfl zi_k0 ?_
      refine zs_iast (ip' := 15) rfl rfl hrN hr (by omega) (by omega) ?_
      rw [zk_eq, zk_zk]
      refine zs_iinc4 (ip' := 16) rfl rfl zi_k1 ?_
      refine zs_goto (t := 6) rfl ?_
      exact ih (k + 1) _ (by omega) (by omega) (fun j => by
        unfold zp
        by_cases e : j = 214 + 7 * G r 5 + (k : Int)
        · rw [if_pos e, if_pos (by omega)]
        · rw [if_neg e, hY]
          by_cases e2 : 214 + 7 * G r 5 ≤ j ∧ j < 214 + 7 * G r 5 + (k : Int)
          · rw [if_pos e2, if_pos (by omega)]
          · rw [if_neg e2, if_neg (by omega)])
theorem cM_addsWalker {N : Nat} {G F : GM} {n : Nat} {r : Nat} (hr : z_sh r = (1, 256, [])) (hrN : r < N) {x y : Int} (hx : zr x) (hy : zr y) (h5 : 0 ≤ G r 5 ∧ G r 5 ≤ 5) : zC N 61 [.ref r, .int (zi x), .int (zi y)] G F n (zR fun v G' F' n' => v = G r 5 ∧ G' = zk G r (sAddW (G r) x y) ∧ F' = F ∧ n' = n) := by
  refine zC_i (L0 := [.ref r, .int (zi x), .int (zi y), .null, .null]) rfl ?_
  refine zs_aload (ip' := 1) rfl rfl rfl ?_
  refine zs_pushI (ip' := 2) rfl rfl zi_k5 ?_
  refine zs_iald (ip' := 3) rfl rfl hrN hr (by omega) ?_
  intro hl2 hu2
  refine zs_istore3 (ip' := 4) rfl rfl ?_
  refine zs_pushI (ip' := 5) rfl rfl zi_k0 ?_
  refine zs_istore4 (ip' := 6) rfl rfl ?_
  have := cM_addsWalker_l (F := F) (n := n) hr hrN hx hy h5 8 0 (G r) (by omega) (by omega) (fun j => by rw [if_neg (by omega)])
  rw [zk_self] at this
  exact this
def q_addLight (s : Int → Int) (x y b : Int) : Int × Int := if sIn s x y then (if 0 ≤ b ∧ b ≤ 9 then (if s 4 = 8 ∨ s (30 + 12 * y + x) = 1 ∨ 0 ≤ sLOn s x y then (3, 0) else (0, s 4)) else (2, 0)) else (1, 0)
theorem cP_addLight {N : Nat} {G F : GM} {n : Nat} (hN : 241 ≤ N) (hok : mOk (G 231)) (hu : 0 ≤ G 230 6 ∧ G 230 6 ≤ 8) {x y : Int} (hx : zr x) (hy : zr y) {b c : Int} (hb : zr b) (hc : c = 0 ∨ c = 1) : zC N 119 [.ref 230, .int (zi x), .int (zi y), .int (zi b), .int (zi c)] G F n (zSu G F n (q_addLight (G 231) x y b) (sAddL (G 231) x y b c)) := by
  refine zC_i (L0 := [.ref 230, .int (zi x), .int (zi y), .int (zi b), .int (zi c)]) rfl ?_
  refine zs_aload (ip' := 1) rfl rfl rfl ?_
  refine zs_pushI (ip' := 2) rfl rfl zi_k0 ?_
  refine zs_putI (ip' := 3) rfl rfl (by omega) zsh_230 rfl (q := 10) rfl (by omega) ?_
  have hm := zMk_0 (G := G) (t := 0)
  generalize zk G 230 (zp (G 230) 10 0) = G1 at hm ⊢
  have e1 := zMk_r hm
  rw [← e1] at hok ⊢
  have hu6 : G1 230 6 = G 230 6 := hm.2.1 6 (by decide) (by decide) (by decide)
  rw [← hu6] at hu
  have b0 := hok.1
  have b1 := hok.2.1
  have b4 := hok.2.2.2.2.1
  have b5 := hok.2.2.2.2.2.1
  refine zs_aload (ip' := 4) rfl rfl rfl ?_
  refine zs_iload (ip' := 5) rfl rfl rfl ?_
  refine zs_iload (ip' := 6) rfl rfl rfl ?_
  refine zW_cP (ip' := 7) rfl rfl (cM_isCell hN (by omega) (by omega) hx hy) rfl rfl (z_ok3 (by omega) zsh_230 rfl rfl rfl) ?_
  refine zs_if_neB (t := 12) (ip' := 8) rfl rfl ?_ ?_
  · intro h7
    obtain ⟨⟨x0, x1⟩, y0, y1⟩ := id h7
    refine zs_iload (ip' := 13) rfl rfl rfl ?_
    refine zs_pushI (ip' := 14) rfl rfl zi_k0 ?_
    refine zs_pushI (ip' := 15) rfl rfl zi_k9 ?_
    refine zW_cP (ip' := 16) rfl rfl (cM_in (by omega) (by omega) (by omega)) rfl rfl rfl ?_
    refine zs_if_neB (t := 21) (ip' := 17) rfl rfl ?_ ?_
    · intro h16
      refine zs_aload (ip' := 22) rfl rfl rfl ?_
      refine zs_getR (ip' := 23) rfl rfl (r := 231) (by omega) zsh_230 rfl ?_
      refine zs_pushI (ip' := 24) rfl rfl zi_k4 ?_
      refine zs_iald (ip' := 25) rfl rfl (by omega) zsh_231 (by omega) ?_
      intro hl24 hu24
      refine zs_pushI (ip' := 26) rfl rfl zi_k8 ?_
      refine zs_icmp_eq (t := 41) (ip' := 27) rfl rfl (by omega) (by omega) ?_ ?_
      · intro h26
        refine zs_aload (ip' := 42) rfl rfl rfl ?_
        refine zs_pushI (ip' := 43) rfl rfl zi_k3 ?_
        refine zW_cR (ip' := 44) rfl rfl (cM_fails hN (by decide)) rfl rfl (z_ok3 (by omega) zsh_230 rfl rfl rfl) ?_
        rintro v G' F' n' _ ⟨rfl, rfl, rfl, rfl⟩
        refine zW_0 rfl ?_
        exact zSu_no hm ((if_pos h7).trans ((if_pos h16).trans (if_pos (Or.inl h26)))) (by decide)
      · intro h26
        refine zs_aload (ip' := 28) rfl rfl rfl ?_
        refine zs_getR (ip' := 29) rfl rfl (r := 231) (by omega) zsh_230 rfl ?_
        refine zs_iload (ip' := 30) rfl rfl rfl ?_
        refine zs_iload (ip' := 31) rfl rfl rfl ?_
        refine zW_cP (ip' := 32) rfl rfl cM_cellAt rfl rfl rfl ?_
        refine zs_iald (ip' := 33) rfl rfl (by omega) zsh_231 (by omega) ?_
        intro hl32 hu32
        refine zs_pushI (ip' := 34) rfl rfl zi_k1 ?_
        refine zs_icmp_eq (t := 41) (ip' := 35) rfl rfl (by omega) (by omega) ?_ ?_
        · intro h34
          refine zs_aload (ip' := 42) rfl rfl rfl ?_
          refine zs_pushI (ip' := 43) rfl rfl zi_k3 ?_
          refine zW_cR (ip' := 44) rfl rfl (cM_fails hN (by decide)) rfl rfl (z_ok3 (by omega) zsh_230 rfl rfl rfl) ?_
          rintro v G' F' n' _ ⟨rfl, rfl, rfl, rfl⟩
          refine zW_0 rfl ?_
          exact zSu_no hm ((if_pos h7).trans ((if_pos h16).trans (if_pos (Or.inr (Or.inl h34))))) (by decide)
        · intro h34
          refine zs_aload (ip' := 36) rfl rfl rfl ?_
          refine zs_getR (ip' := 37) rfl rfl (r := 231) (by omega) zsh_230 rfl ?_
          refine zs_iload (ip' := 38) rfl rfl rfl ?_
          refine zs_iload (ip' := 39) rfl rfl rfl ?_
          refine zW_cP (ip' := 40) rfl rfl (cM_lightOn zsh_231 (by omega) hx hy b4) rfl rfl rfl ?_
          obtain ⟨o1, o2⟩ := zfst_rng (sAt (G1 231) x y) (G1 231 4).toNat
          have o1' : -1 ≤ sLOn (G1 231) x y := o1
          have o2' : sLOn (G1 231) x y < ((G1 231 4).toNat : Int) := o2
          refine zs_if_lt (t := 45) (ip' := 41) rfl rfl (by omega) ?_ ?_
          · intro h40
            refine zs_aload (ip' := 46) rfl rfl rfl ?_
            refine zW_cV (ip' := 47) rfl rfl (cM_keepsForUndo hN hu) rfl rfl (z_ok3 (by omega) zsh_230 rfl rfl rfl) ?_
            rintro G2 F' n' ⟨hP, e2, rfl, rfl⟩
            have hok2 : mOk (G2 231) := by rw [e2]; exact hok
            have e23 := congrFun e2 3
            refine zs_aload (ip' := 48) rfl rfl rfl ?_
            refine zs_getR (ip' := 49) rfl rfl (r := 231) (by omega) zsh_230 rfl ?_
            refine zs_iload (ip' := 50) rfl rfl rfl ?_
            refine zs_iload (ip' := 51) rfl rfl rfl ?_
            refine zs_iload (ip' := 52) rfl rfl rfl ?_
            refine zs_iload (ip' := 53) rfl rfl rfl ?_
            refine zs_if_eq (t := 56) (ip' := 54) rfl rfl (by omega) ?_ ?_
            · intro h53
              refine zs_pushI (ip' := 57) rfl rfl zi_k0 ?_
              refine zW_cR (ip' := 58) rfl rfl (cM_addsLight zsh_231 (by omega) (by omega) (by omega) (by omega) (by omega) (by rw [e2]; omega)) rfl rfl rfl ?_
              rintro v G' F' n' _ ⟨rfl, rfl, rfl, rfl⟩
              refine zW_0 rfl ?_
              exact zSu_ok hm (zPs_w hP) ((if_pos h7).trans ((if_pos h16).trans ((if_neg (fun z => z.elim h26 (fun z => z.elim h34 (fun z => by omega)))).trans (by rw [e2])))) (by rw [zk_eq, e2, h53])
            · intro h53
              refine zs_pushI (ip' := 55) rfl rfl zi_k1 ?_
              refine zs_goto (t := 57) rfl ?_
              refine zW_cR (ip' := 58) rfl rfl (cM_addsLight zsh_231 (by omega) (by omega) (by omega) (by omega) (by omega) (by rw [e2]; omega)) rfl rfl rfl ?_
              rintro v G' F' n' _ ⟨rfl, rfl, rfl, rfl⟩
              refine zW_0 rfl ?_
              exact zSu_ok hm (zPs_w hP) ((if_pos h7).trans ((if_pos h16).trans ((if_neg (fun z => z.elim h26 (fun z => z.elim h34 (fun z => by omega)))).trans (by rw [e2])))) (by rw [zk_eq, e2, show c = 1 by omega])
          · intro h40
            refine zs_aload (ip' := 42) rfl rfl rfl ?_
            refine zs_pushI (ip' := 43) rfl rfl zi_k3 ?_
            refine zW_cR (ip' := 44) rfl rfl (cM_fails hN (by decide)) rfl rfl (z_ok3 (by omega) zsh_230 rfl rfl rfl) ?_
            rintro v G' F' n' _ ⟨rfl, rfl, rfl, rfl⟩
            refine zW_0 rfl ?_
            exact zSu_no hm ((if_pos h7).trans ((if_pos h16).trans (if_pos (Or.inr (Or.inr h40))))) (by decide)
    · intro h16
      refine zs_aload (ip' := 18) rfl rfl rfl ?_
      refine zs_pushI (ip' := 19) rfl rfl zi_k2 ?_
      refine zW_cR (ip' := 20) rfl rfl (cM_fails hN (by decide)) rfl rfl (z_ok3 (by omega) zsh_230 rfl rfl rfl) ?_
      rintro v G' F' n' _ ⟨rfl, rfl, rfl, rfl⟩
      refine zW_0 rfl ?_
      exact zSu_no hm ((if_pos h7).trans (if_neg h16)) (by decide)
  · intro h7
    refine zs_aload (ip' := 9) rfl rfl rfl ?_
    refine zs_pushI (ip' := 10) rfl rfl zi_k1 ?_
    refine zW_cR (ip' := 11) rfl rfl (cM_fails hN (by decide)) rfl rfl (z_ok3 (by omega) zsh_230 rfl rfl rfl) ?_
    rintro v G' F' n' _ ⟨rfl, rfl, rfl, rfl⟩
    refine zW_0 rfl ?_
    exact zSu_no hm (if_neg h7) (by decide)
def q_addTraveller (s : Int → Int) (x y : Int) : Int × Int := if sIn s x y then (if s 5 = 6 ∨ s (30 + 12 * y + x) = 1 ∨ s (30 + 12 * y + x) = 2 then (2, 0) else (0, s 5)) else (1, 0)
theorem cP_addTraveller {N : Nat} {G F : GM} {n : Nat} (hN : 241 ≤ N) (hok : mOk (G 231)) (hu : 0 ≤ G 230 6 ∧ G 230 6 ≤ 8) {x y : Int} (hx : zr x) (hy : zr y) : zC N 120 [.ref 230, .int (zi x), .int (zi y)] G F n (zSu G F n (q_addTraveller (G 231) x y) (sAddW (G 231) x y)) := by
  refine zC_i (L0 := [.ref 230, .int (zi x), .int (zi y)]) rfl ?_
  refine zs_aload (ip' := 1) rfl rfl rfl ?_
  refine zs_pushI (ip' := 2) rfl rfl zi_k0 ?_
  refine zs_putI (ip' := 3) rfl rfl (by omega) zsh_230 rfl (q := 10) rfl (by omega) ?_
  have hm := zMk_0 (G := G) (t := 0)
  generalize zk G 230 (zp (G 230) 10 0) = G1 at hm ⊢
  have e1 := zMk_r hm
  rw [← e1] at hok ⊢
  have hu6 : G1 230 6 = G 230 6 := hm.2.1 6 (by decide) (by decide) (by decide)
  rw [← hu6] at hu
  have b0 := hok.1
  have b1 := hok.2.1
  have b4 := hok.2.2.2.2.1
  have b5 := hok.2.2.2.2.2.1
  refine zs_aload (ip' := 4) rfl rfl rfl ?_
  refine zs_iload (ip' := 5) rfl rfl rfl ?_
  refine zs_iload (ip' := 6) rfl rfl rfl ?_
  refine zW_cP (ip' := 7) rfl rfl (cM_isCell hN (by omega) (by omega) hx hy) rfl rfl (z_ok3 (by omega) zsh_230 rfl rfl rfl) ?_
  refine zs_if_neB (t := 12) (ip' := 8) rfl rfl ?_ ?_
  · intro h7
    obtain ⟨⟨x0, x1⟩, y0, y1⟩ := id h7
    refine zs_aload (ip' := 13) rfl rfl rfl ?_
    refine zs_getR (ip' := 14) rfl rfl (r := 231) (by omega) zsh_230 rfl ?_
    refine zs_pushI (ip' := 15) rfl rfl zi_k5 ?_
    refine zs_iald (ip' := 16) rfl rfl (by omega) zsh_231 (by omega) ?_
    intro hl15 hu15
    refine zs_pushI (ip' := 17) rfl rfl zi_k6 ?_
    refine zs_icmp_eq (t := 34) (ip' := 18) rfl rfl (by omega) (by omega) ?_ ?_
    · intro h17
      refine zs_aload (ip' := 35) rfl rfl rfl ?_
      refine zs_pushI (ip' := 36) rfl rfl zi_k2 ?_
      refine zW_cR (ip' := 37) rfl rfl (cM_fails hN (by decide)) rfl rfl (z_ok3 (by omega) zsh_230 rfl rfl rfl) ?_
      rintro v G' F' n' _ ⟨rfl, rfl, rfl, rfl⟩
      refine zW_0 rfl ?_
      exact zSu_no hm ((if_pos h7).trans (if_pos (Or.inl h17))) (by decide)
    · intro h17
      refine zs_aload (ip' := 19) rfl rfl rfl ?_
      refine zs_getR (ip' := 20) rfl rfl (r := 231) (by omega) zsh_230 rfl ?_
      refine zs_iload (ip' := 21) rfl rfl rfl ?_
      refine zs_iload (ip' := 22) rfl rfl rfl ?_
      refine zW_cP (ip' := 23) rfl rfl cM_cellAt rfl rfl rfl ?_
      refine zs_iald (ip' := 24) rfl rfl (by omega) zsh_231 (by omega) ?_
      intro hl23 hu23
      refine zs_pushI (ip' := 25) rfl rfl zi_k1 ?_
      refine zs_icmp_eq (t := 34) (ip' := 26) rfl rfl (by omega) (by omega) ?_ ?_
      · intro h25
        refine zs_aload (ip' := 35) rfl rfl rfl ?_
        refine zs_pushI (ip' := 36) rfl rfl zi_k2 ?_
        refine zW_cR (ip' := 37) rfl rfl (cM_fails hN (by decide)) rfl rfl (z_ok3 (by omega) zsh_230 rfl rfl rfl) ?_
        rintro v G' F' n' _ ⟨rfl, rfl, rfl, rfl⟩
        refine zW_0 rfl ?_
        exact zSu_no hm ((if_pos h7).trans (if_pos (Or.inr (Or.inl h25)))) (by decide)
      · intro h25
        refine zs_aload (ip' := 27) rfl rfl rfl ?_
        refine zs_getR (ip' := 28) rfl rfl (r := 231) (by omega) zsh_230 rfl ?_
        refine zs_iload (ip' := 29) rfl rfl rfl ?_
        refine zs_iload (ip' := 30) rfl rfl rfl ?_
        refine zW_cP (ip' := 31) rfl rfl cM_cellAt rfl rfl rfl ?_
        refine zs_iald (ip' := 32) rfl rfl (by omega) zsh_231 (by omega) ?_
        intro hl31 hu31
        refine zs_pushI (ip' := 33) rfl rfl zi_k2 ?_
        refine zs_icmp_ne (t := 38) (ip' := 34) rfl rfl (by omega) (by omega) ?_ ?_
        · intro h33
          refine zs_aload (ip' := 39) rfl rfl rfl ?_
          refine zW_cV (ip' := 40) rfl rfl (cM_keepsForUndo hN hu) rfl rfl (z_ok3 (by omega) zsh_230 rfl rfl rfl) ?_
          rintro G2 F' n' ⟨hP, e2, rfl, rfl⟩
          have hok2 : mOk (G2 231) := by rw [e2]; exact hok
          have e23 := congrFun e2 3
          refine zs_aload (ip' := 41) rfl rfl rfl ?_
          refine zs_getR (ip' := 42) rfl rfl (r := 231) (by omega) zsh_230 rfl ?_
          refine zs_iload (ip' := 43) rfl rfl rfl ?_
          refine zs_iload (ip' := 44) rfl rfl rfl ?_
          refine zW_cR (ip' := 45) rfl rfl (cM_addsWalker zsh_231 (by omega) (by omega) (by omega) (by rw [e2]; omega)) rfl rfl rfl ?_
          rintro v G' F' n' _ ⟨rfl, rfl, rfl, rfl⟩
          refine zW_0 rfl ?_
          exact zSu_ok hm (zPs_w hP) ((if_pos h7).trans ((if_neg (fun z => z.elim h17 (fun z => z.elim h25 h33))).trans (by rw [e2]))) (by rw [zk_eq, e2])
        · intro h33
          refine zs_aload (ip' := 35) rfl rfl rfl ?_
          refine zs_pushI (ip' := 36) rfl rfl zi_k2 ?_
          refine zW_cR (ip' := 37) rfl rfl (cM_fails hN (by decide)) rfl rfl (z_ok3 (by omega) zsh_230 rfl rfl rfl) ?_
          rintro v G' F' n' _ ⟨rfl, rfl, rfl, rfl⟩
          refine zW_0 rfl ?_
          exact zSu_no hm ((if_pos h7).trans (if_pos (Or.inr (Or.inr h33)))) (by decide)
  · intro h7
    refine zs_aload (ip' := 9) rfl rfl rfl ?_
    refine zs_pushI (ip' := 10) rfl rfl zi_k1 ?_
    refine zW_cR (ip' := 11) rfl rfl (cM_fails hN (by decide)) rfl rfl (z_ok3 (by omega) zsh_230 rfl rfl rfl) ?_
    rintro v G' F' n' _ ⟨rfl, rfl, rfl, rfl⟩
    refine zW_0 rfl ?_
    exact zSu_no hm (if_neg h7) (by decide)
noncomputable def q_tick (s : Int → Int) (q : Int) : Int × Int := if 1 ≤ q ∧ q ≤ 100 then (if 9999 < s 3 + q then (2, 0) else (0, sCount (sTicks s q.toNat) 1 - sCount s 1)) else (1, 0)
theorem cP_tick {N : Nat} {G F : GM} {n : Nat} (hN : 241 ≤ N) (hok : mOk (G 231)) (hu : 0 ≤ G 230 6 ∧ G 230 6 ≤ 8) (ht : G 231 3 ≤ 9999) {q : Int} (hq : zr q) : zC N 118 [.ref 230, .int (zi q)] G F n (zSu G F n (q_tick (G 231) q) (sTicks (G 231) q.toNat)) := by
  refine zC_i (L0 := [.ref 230, .int (zi q), .null]) rfl ?_
  refine zs_aload (ip' := 1) rfl rfl rfl ?_
  refine zs_pushI (ip' := 2) rfl rfl zi_k0 ?_
  refine zs_putI (ip' := 3) rfl rfl (by omega) zsh_230 rfl (q := 10) rfl (by omega) ?_
  have hm := zMk_0 (G := G) (t := 0)
  generalize zk G 230 (zp (G 230) 10 0) = G1 at hm ⊢
  have e1 := zMk_r hm
  rw [← e1] at hok ht ⊢
  have hu6 : G1 230 6 = G 230 6 := hm.2.1 6 (by decide) (by decide) (by decide)
  rw [← hu6] at hu
  have b0 := hok.1
  have b1 := hok.2.1
  have b4 := hok.2.2.2.2.1
  have b5 := hok.2.2.2.2.2.1
  have b3 := hok.2.2.2.1
  refine zs_iload (ip' := 4) rfl rfl rfl ?_
  refine zs_pushI (ip' := 5) rfl rfl zi_k1 ?_
  refine zs_pushI (ip' := 6) rfl rfl zi_k100 ?_
  refine zW_cP (ip' := 7) rfl rfl (cM_in (by omega) (by omega) (by omega)) rfl rfl rfl ?_
  refine zs_if_neB (t := 12) (ip' := 8) rfl rfl ?_ ?_
  · intro h7
    refine zs_aload (ip' := 13) rfl rfl rfl ?_
    refine zs_getR (ip' := 14) rfl rfl (r := 231) (by omega) zsh_230 rfl ?_
    refine zs_pushI (ip' := 15) rfl rfl zi_k3 ?_
    refine zs_iald (ip' := 16) rfl rfl (by omega) zsh_231 (by omega) ?_
    intro hl15 hu15
    refine zs_iload (ip' := 17) rfl rfl rfl ?_
    refine zs_iadd (ip' := 18) rfl rfl ?_
    refine zs_pushI (ip' := 19) rfl rfl zi_k9999 ?_
    refine zs_icmp_le (t := 24) (ip' := 20) rfl rfl (by omega) (by omega) ?_ ?_
    · intro h19
      refine zs_aload (ip' := 25) rfl rfl rfl ?_
      refine zW_cV (ip' := 26) rfl rfl (cM_keepsForUndo hN hu) rfl rfl (z_ok3 (by omega) zsh_230 rfl rfl rfl) ?_
      rintro G2 F' n' ⟨hP, e2, rfl, rfl⟩
      have hok2 : mOk (G2 231) := by rw [e2]; exact hok
      have e23 := congrFun e2 3
      refine zs_aload (ip' := 27) rfl rfl rfl ?_
      refine zs_getR (ip' := 28) rfl rfl (r := 231) (by omega) zsh_230 rfl ?_
      refine zs_pushI (ip' := 29) rfl rfl zi_k1 ?_
      refine zW_cP (ip' := 30) rfl rfl (cM_countOf zsh_231 (by omega) (by omega) hok2.2.2.2.2.2.1) rfl rfl rfl ?_
      refine zs_istore2 (ip' := 31) rfl rfl ?_
      refine zs_aload (ip' := 32) rfl rfl rfl ?_
      refine zs_aload (ip' := 33) rfl rfl rfl ?_
      refine zs_getR (ip' := 34) rfl rfl (r := 231) (by omega) zsh_230 rfl ?_
      refine zs_iload (ip' := 35) rfl rfl rfl ?_
      refine zW_cV (ip' := 36) rfl rfl (cM_ticksMany hN zsh_231 (by omega) ⟨by decide, by decide, by decide⟩ hok2 (q := q) (by omega) (by omega)) rfl rfl (z_ok3 (by omega) zsh_230 rfl rfl rfl) ?_
      rintro G' F' n' ⟨A1, B1, f1, l1, rfl, rfl, rfl⟩
      have e3 : zBf (zk G2 231 (sTicks (G2 231) q.toNat)) A1 B1 f1 l1 231 = sTicks (G2 231) q.toNat := by rw [zBf_o ⟨by decide, by decide, by decide⟩, zk_eq]
      have hk3 := sTicks_ok hok2 q.toNat (by omega)
      refine zs_aload (ip' := 37) rfl rfl rfl ?_
      refine zs_getR (ip' := 38) rfl rfl (r := 231) (by omega) zsh_230 rfl ?_
      refine zs_pushI (ip' := 39) rfl rfl zi_k1 ?_
      refine zW_cP (ip' := 40) rfl rfl (cM_countOf zsh_231 (by omega) (by omega) (by rw [e3]; exact hk3.1.2.2.2.2.2.1)) rfl rfl rfl ?_
      refine zs_iload (ip' := 41) rfl rfl rfl ?_
      refine zs_isub (ip' := 42) rfl rfl ?_
      refine zW_0 rfl ?_
      exact zSu_ok hm (zPs_b (zPs_w hP)) ((if_pos h7).trans ((if_neg (by omega)).trans (by rw [e3, e2]))) (by rw [e3, e2])
    · intro h19
      refine zs_aload (ip' := 21) rfl rfl rfl ?_
      refine zs_pushI (ip' := 22) rfl rfl zi_k2 ?_
      refine zW_cR (ip' := 23) rfl rfl (cM_fails hN (by decide)) rfl rfl (z_ok3 (by omega) zsh_230 rfl rfl rfl) ?_
      rintro v G' F' n' _ ⟨rfl, rfl, rfl, rfl⟩
      refine zW_0 rfl ?_
      exact zSu_no hm ((if_pos h7).trans (if_pos h19)) (by decide)
  · intro h7
    refine zs_aload (ip' := 9) rfl rfl rfl ?_
    refine zs_pushI (ip' := 10) rfl rfl zi_k1 ?_
    refine zW_cR (ip' := 11) rfl rfl (cM_fails hN (by decide)) rfl rfl (z_ok3 (by omega) zsh_230 rfl rfl rfl) ?_
    rintro v G' F' n' _ ⟨rfl, rfl, rfl, rfl⟩
    refine zW_0 rfl ?_
    exact zSu_no hm (if_neg h7) (by decide)
