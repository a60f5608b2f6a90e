/-! The program: the share, the mean, the future (printed by wip/whole/src60.py). -/
theorem cQ_arrivedShare {N : Nat} {G F : GM} {n : Nat} (hN : 229 ≤ N) {s : Int → Int} (hok : mOk s) (hR : RX G 0 s) : zC N 244 [.ref 192] G F n (fun o G' F' n' => o = .inl (some (.float (sShare s))) ∧ G' = G ∧ F' = F ∧ n' = n) := by
  obtain ⟨⟨c0, c1, c2, c3, c4, c5⟩, hf, hg, hl, hb, ht⟩ := RX_0 hR
  obtain ⟨b0, b1, b2, b3, b4, b5, bf, bc, bl, bw⟩ := id hok
  have hcn := sCount_rng s 1 b5
  obtain ⟨p1, p2⟩ : ∃ c : Nat, sCount s 1 = c := ⟨(sCount s 1).toNat, by omega⟩
  obtain ⟨p3, p4⟩ : ∃ c : Nat, s 5 = c := ⟨(s 5).toNat, by omega⟩
  refine zC_i (L0 := [.ref 192, .null]) rfl ?_
  refine zs_aload (ip' := 1) rfl rfl rfl ?_
  refine zs_getR (ip' := 2) rfl rfl (r := 0) (by omega) zsh_192 rfl ?_
  refine zs_getR (ip' := 3) rfl rfl (r := 7) (by omega) zsh_0 rfl ?_
  refine zs_getI (ip' := 4) rfl rfl (by omega) zsh_7 rfl (q := 0) rfl ?_
  intro hl3 hu3
  rw [c5] at hl3 hu3 ⊢
  refine zs_istore1 (ip' := 5) rfl rfl ?_
  refine zs_iload (ip' := 6) rfl rfl rfl ?_
  refine zs_if_ne (t := 9) (ip' := 7) rfl rfl (by omega) ?_ ?_
  · intro h6
    refine zs_aload (ip' := 10) rfl rfl rfl ?_
    refine zs_getR (ip' := 11) rfl rfl (r := 0) (by omega) zsh_192 rfl ?_
    refine zs_getR (ip' := 12) rfl rfl (r := 7) (by omega) zsh_0 rfl ?_
    refine zs_pushI (ip' := 13) rfl rfl zi_k1 ?_
    refine zW_cP (ip' := 14) rfl rfl (cR_countIn hN (by omega) hok hR (by omega)) rfl rfl (z_ok3 (by omega) zsh_7 rfl rfl rfl) ?_
    refine zs_i2f (ip' := 15) rfl rfl ?_
    refine zs_iload (ip' := 16) rfl rfl rfl ?_
    refine zs_i2f (ip' := 17) rfl rfl ?_
    refine zs_fdiv (ip' := 18) rfl rfl (by rw [p2, p4]; exact zf_share p1 (by omega) p3 (by omega) (by omega)) ?_
    refine zW_0f rfl ?_
    exact ⟨by rw [show sShare s = _ from if_neg h6], rfl, rfl, rfl⟩
  · intro h6
    refine zs_push (ip' := 8) rfl rfl ?_
    refine zW_0f rfl ?_
    exact ⟨by rw [show sShare s = _ from if_pos h6], rfl, rfl, rfl⟩
theorem cQ_meanSteps {N : Nat} {G F : GM} {n : Nat} (hN : 229 ≤ N) {s : Int → Int} (hok : mOk s) (hR : RX G 0 s) : zC N 245 [.ref 192] G F n (fun o G' F' n' => o = .inl (some (.double (sMean s))) ∧ G' = G ∧ F' = F ∧ n' = n) := by
  obtain ⟨⟨c0, c1, c2, c3, c4, c5⟩, hf, hg, hl, hb, ht⟩ := RX_0 hR
  obtain ⟨b0, b1, b2, b3, b4, b5, bf, bc, bl, bw⟩ := id hok
  refine zC_i (L0 := [.ref 192, .null]) rfl ?_
  refine zs_aload (ip' := 1) rfl rfl rfl ?_
  refine zs_getR (ip' := 2) rfl rfl (r := 0) (by omega) zsh_192 rfl ?_
  refine zs_getR (ip' := 3) rfl rfl (r := 7) (by omega) zsh_0 rfl ?_
  refine zs_getI (ip' := 4) rfl rfl (by omega) zsh_7 rfl (q := 0) rfl ?_
  intro hl3 hu3
  rw [c5] at hl3 hu3 ⊢
  refine zs_istore1 (ip' := 5) rfl rfl ?_
  refine zs_iload (ip' := 6) rfl rfl rfl ?_
  refine zs_if_ne (t := 9) (ip' := 7) rfl rfl (by omega) ?_ ?_
  · intro h6
    obtain ⟨p3, p4⟩ : ∃ c : Nat, s 5 = c := ⟨(s 5).toNat, by omega⟩
    have p5 : p3 < 7 := by omega
    refine zs_aload (ip' := 10) rfl rfl rfl ?_
    refine zs_getR (ip' := 11) rfl rfl (r := 0) (by omega) zsh_192 rfl ?_
    refine zs_getR (ip' := 12) rfl rfl (r := 7) (by omega) zsh_0 rfl ?_
    refine zW_cP (ip' := 13) rfl rfl (cR_sum hN (by omega) hok hR) rfl rfl (z_ok3 (by omega) zsh_7 rfl rfl rfl) ?_
    refine zs_i2d (ip' := 14) rfl rfl ?_
    refine zs_iload (ip' := 15) rfl rfl rfl ?_
    refine zs_i2d (ip' := 16) rfl rfl ?_
    refine zs_ddiv (ip' := 17) rfl rfl (by rw [p4]; exact zq_div _ p5 (by omega)) ?_
    refine zW_0d rfl ?_
    exact ⟨by rw [show sMean s = _ from if_neg h6], rfl, rfl, rfl⟩
  · intro h6
    refine zs_push (ip' := 8) rfl rfl ?_
    refine zW_0d rfl ?_
    exact ⟨by rw [show sMean s = _ from if_pos h6], rfl, rfl, rfl⟩
theorem cQ_willArrive {N : Nat} {G F : GM} {n : Nat} (hN : 229 ≤ N) {s : Int → Int} (hok : mOk s) (hR : RX G 0 s) {t : Int → Int} (he : zEq s t) (htm : s 3 ≤ 9999) {v : Int} (ht0 : zr v) : zC N 247 [.ref 192, .int (zi v)] G F n (zQx F n [3] (q_willArrive s (sTicks t 300) v) (xQf G)) := by
  obtain ⟨⟨c0, c1, c2, c3, c4, c5⟩, hf, hg, hl, hb, ht⟩ := RX_0 hR
  obtain ⟨b0, b1, b2, b3, b4, b5, bf, bc, bl, bw⟩ := id hok
  have hkt := mOk_eq he hok
  have hRt := RX_eq hok hR he
  have q0 := he 0 (by omega) (by omega)
  have q3 := he 3 (by omega) (by omega)
  have q5 := he 5 (by omega) (by omega)
  refine zC_i (L0 := [.ref 192, .int (zi v)]) rfl ?_
  refine zs_aload (ip' := 1) rfl rfl rfl ?_
  refine zs_iload (ip' := 2) rfl rfl rfl ?_
  refine zW_cT (ip' := 3) rfl rfl (cT_trav hN hok hR ht0) rfl rfl (z_ok3 (by omega) zsh_192 rfl rfl rfl) rfl rfl ?_ ?_
  · intro hn2
    exact zqx1 (if_neg hn2) rfl (xQf_r _)
  intro hc2
  obtain ⟨t0, t1⟩ := id hc2
  obtain ⟨-, t9, -⟩ := ht v t0 (by omega)
  obtain ⟨-, -, wst, -⟩ := bw v t0 (by omega)
  refine zs_aload (ip' := 4) rfl rfl rfl ?_
  refine zs_getR (ip' := 5) rfl rfl (r := 16) (by omega) zsh_192 rfl ?_
  refine zs_aload (ip' := 6) rfl rfl rfl ?_
  refine zs_getR (ip' := 7) rfl rfl (r := 0) (by omega) zsh_192 rfl ?_
  refine zW_cV (ip' := 8) rfl rfl (cX_copy7 (w := 1) (w2 := 0) hN (by omega) (by omega) (by decide)) rfl rfl (z_ok3 (by omega) zsh_16 rfl rfl rfl) ?_
  rintro G1 F' n' ⟨hcp, rfl, rfl⟩
  have hR1 : RX G1 1 t := RX_cp hkt hRt hcp
  have hf1 : ∀ k, (k < 16 ∨ 32 ≤ k) → G1 k = G k := hcp.1
  refine zs_aload (ip' := 9) rfl rfl rfl ?_
  refine zs_getR (ip' := 10) rfl rfl (r := 199) (by omega) zsh_192 rfl ?_
  refine zs_aload (ip' := 11) rfl rfl rfl ?_
  refine zs_getR (ip' := 12) rfl rfl (r := 16) (by omega) zsh_192 rfl ?_
  refine zs_pushI (ip' := 13) rfl rfl zi_k300 ?_
  refine zW_cV (ip' := 14) rfl rfl (cR_run (w := 1) (k := 300) hN (by omega) hkt hR1 (by omega) (by omega)) rfl rfl (z_ok3 (by omega) zsh_199 rfl rfl rfl) ?_
  rintro G2 F' n' ⟨hR2, hDa, hSF, rfl, rfl⟩
  obtain ⟨hkT, hzT⟩ := sTicks_ok hkt 300 (by omega)
  have z5 : sTicks t 300 5 = s 5 := hzT.2.2.2.2.2.1.trans ((zp_ne (by omega)).trans q5)
  have hf2 : ∀ k, (k < 16 ∨ 32 ≤ k) → (k < 201 ∨ 225 ≤ k) → G2 k = G1 k := hSF
  have hQf : xQf G G2 := fun k a b => (hf2 k a (by omega)).trans (hf1 k a)
  refine zs_aload (ip' := 15) rfl rfl rfl ?_
  refine zs_getR (ip' := 16) rfl rfl (r := 16) (by omega) zsh_192 rfl ?_
  refine zs_getR (ip' := 17) rfl rfl (r := 23) (by omega) zsh_16 rfl ?_
  refine zs_getR (ip' := 18) rfl rfl (r := 25) (by omega) zsh_23 rfl ?_
  refine zs_iload (ip' := 19) rfl rfl rfl ?_
  refine zs_iald (ip' := 20) rfl rfl (by omega) zsh_25 (by omega) ?_
  intro hl19 hu19
  have h25 : G2 25 v = sTicks t 300 (214 + 7 * v + 2) := (hR2.2.2.2.2.2 v t0 (by omega)).2.1
  rw [h25] at hl19 hu19 ⊢
  refine zs_pushI (ip' := 21) rfl rfl zi_k1 ?_
  refine zs_icmp_ne (t := 24) (ip' := 22) rfl rfl (by omega) (by omega) ?_ ?_
  · intro h21
    refine zs_pushI (ip' := 25) rfl rfl zi_k0 ?_
    refine zW_0b rfl (Or.inl rfl) ?_
    exact zqx0 ((if_pos hc2).trans (by rw [zb_f h21])) hQf
  · intro h21
    refine zs_pushI (ip' := 23) rfl rfl zi_k1 ?_
    refine zs_goto (t := 25) rfl ?_
    refine zW_0b rfl (Or.inr rfl) ?_
    exact zqx0 ((if_pos hc2).trans (by rw [zb_t h21])) hQf
theorem cQ_arrivedAfter {N : Nat} {G F : GM} {n : Nat} (hN : 229 ≤ N) {s : Int → Int} (hok : mOk s) (hR : RX G 0 s) {t : Int → Int} (he : zEq s t) (htm : s 3 ≤ 9999) {v : Int} (ht0 : zr v) : zC N 248 [.ref 192, .int (zi v)] G F n (zQx F n [1] (q_after t v 1) (xQf G)) := by
  obtain ⟨⟨c0, c1, c2, c3, c4, c5⟩, hf, hg, hl, hb, ht⟩ := RX_0 hR
  obtain ⟨b0, b1, b2, b3, b4, b5, bf, bc, bl, bw⟩ := id hok
  have hkt := mOk_eq he hok
  have hRt := RX_eq hok hR he
  have q0 := he 0 (by omega) (by omega)
  have q3 := he 3 (by omega) (by omega)
  have q5 := he 5 (by omega) (by omega)
  refine zC_i (L0 := [.ref 192, .int (zi v)]) rfl ?_
  refine zs_iload (ip' := 1) rfl rfl rfl ?_
  refine zW_cT (ip' := 2) rfl rfl (cT_future ht0) rfl rfl rfl rfl rfl ?_ ?_
  · intro hn1
    exact zqx1 (if_neg hn1) rfl (xQf_r _)
  intro hc1
  obtain ⟨kk, rfl⟩ : ∃ kk : Nat, v = (kk : Int) := ⟨v.toNat, by omega⟩
  refine zs_aload (ip' := 3) rfl rfl rfl ?_
  refine zs_getR (ip' := 4) rfl rfl (r := 16) (by omega) zsh_192 rfl ?_
  refine zs_aload (ip' := 5) rfl rfl rfl ?_
  refine zs_getR (ip' := 6) rfl rfl (r := 0) (by omega) zsh_192 rfl ?_
  refine zW_cV (ip' := 7) rfl rfl (cX_copy7 (w := 1) (w2 := 0) hN (by omega) (by omega) (by decide)) rfl rfl (z_ok3 (by omega) zsh_16 rfl rfl rfl) ?_
  rintro G1 F' n' ⟨hcp, rfl, rfl⟩
  have hR1 : RX G1 1 t := RX_cp hkt hRt hcp
  have hf1 : ∀ k, (k < 16 ∨ 32 ≤ k) → G1 k = G k := hcp.1
  refine zs_aload (ip' := 8) rfl rfl rfl ?_
  refine zs_getR (ip' := 9) rfl rfl (r := 199) (by omega) zsh_192 rfl ?_
  refine zs_aload (ip' := 10) rfl rfl rfl ?_
  refine zs_getR (ip' := 11) rfl rfl (r := 16) (by omega) zsh_192 rfl ?_
  refine zs_iload (ip' := 12) rfl rfl rfl ?_
  refine zW_cV (ip' := 13) rfl rfl (cR_run (w := 1) (k := kk) hN (by omega) hkt hR1 (by omega) (by omega)) rfl rfl (z_ok3 (by omega) zsh_199 rfl rfl rfl) ?_
  rintro G2 F' n' ⟨hR2, hDa, hSF, rfl, rfl⟩
  obtain ⟨hkT, hzT⟩ := sTicks_ok hkt kk (by omega)
  have z5 : sTicks t kk 5 = s 5 := hzT.2.2.2.2.2.1.trans ((zp_ne (by omega)).trans q5)
  have hf2 : ∀ k, (k < 16 ∨ 32 ≤ k) → (k < 201 ∨ 225 ≤ k) → G2 k = G1 k := hSF
  have hQf : xQf G G2 := fun k a b => (hf2 k a (by omega)).trans (hf1 k a)
  refine zs_aload (ip' := 14) rfl rfl rfl ?_
  refine zs_getR (ip' := 15) rfl rfl (r := 16) (by omega) zsh_192 rfl ?_
  refine zs_getR (ip' := 16) rfl rfl (r := 23) (by omega) zsh_16 rfl ?_
  refine zs_pushI (ip' := 17) rfl rfl zi_k1 ?_
  refine zW_cP (ip' := 18) rfl rfl (cR_countIn (w := 1) hN (by omega) hkT hR2 (by omega)) rfl rfl (z_ok3 (by omega) zsh_23 rfl rfl rfl) ?_
  refine zW_0 rfl ?_
  exact zqx0 ((if_pos hc1).trans (by rw [Int.toNat_natCast])) hQf
theorem cQ_sunkAfter {N : Nat} {G F : GM} {n : Nat} (hN : 229 ≤ N) {s : Int → Int} (hok : mOk s) (hR : RX G 0 s) {t : Int → Int} (he : zEq s t) (htm : s 3 ≤ 9999) {v : Int} (ht0 : zr v) : zC N 249 [.ref 192, .int (zi v)] G F n (zQx F n [1] (q_after t v 2) (xQf G)) := by
  obtain ⟨⟨c0, c1, c2, c3, c4, c5⟩, hf, hg, hl, hb, ht⟩ := RX_0 hR
  obtain ⟨b0, b1, b2, b3, b4, b5, bf, bc, bl, bw⟩ := id hok
  have hkt := mOk_eq he hok
  have hRt := RX_eq hok hR he
  have q0 := he 0 (by omega) (by omega)
  have q3 := he 3 (by omega) (by omega)
  have q5 := he 5 (by omega) (by omega)
  refine zC_i (L0 := [.ref 192, .int (zi v)]) rfl ?_
  refine zs_iload (ip' := 1) rfl rfl rfl ?_
  refine zW_cT (ip' := 2) rfl rfl (cT_future ht0) rfl rfl rfl rfl rfl ?_ ?_
  · intro hn1
    exact zqx1 (if_neg hn1) rfl (xQf_r _)
  intro hc1
  obtain ⟨kk, rfl⟩ : ∃ kk : Nat, v = (kk : Int) := ⟨v.toNat, by omega⟩
  refine zs_aload (ip' := 3) rfl rfl rfl ?_
  refine zs_getR (ip' := 4) rfl rfl (r := 16) (by omega) zsh_192 rfl ?_
  refine zs_aload (ip' := 5) rfl rfl rfl ?_
  refine zs_getR (ip' := 6) rfl rfl (r := 0) (by omega) zsh_192 rfl ?_
  refine zW_cV (ip' := 7) rfl rfl (cX_copy7 (w := 1) (w2 := 0) hN (by omega) (by omega) (by decide)) rfl rfl (z_ok3 (by omega) zsh_16 rfl rfl rfl) ?_
  rintro G1 F' n' ⟨hcp, rfl, rfl⟩
  have hR1 : RX G1 1 t := RX_cp hkt hRt hcp
  have hf1 : ∀ k, (k < 16 ∨ 32 ≤ k) → G1 k = G k := hcp.1
  refine zs_aload (ip' := 8) rfl rfl rfl ?_
  refine zs_getR (ip' := 9) rfl rfl (r := 199) (by omega) zsh_192 rfl ?_
  refine zs_aload (ip' := 10) rfl rfl rfl ?_
  refine zs_getR (ip' := 11) rfl rfl (r := 16) (by omega) zsh_192 rfl ?_
  refine zs_iload (ip' := 12) rfl rfl rfl ?_
  refine zW_cV (ip' := 13) rfl rfl (cR_run (w := 1) (k := kk) hN (by omega) hkt hR1 (by omega) (by omega)) rfl rfl (z_ok3 (by omega) zsh_199 rfl rfl rfl) ?_
  rintro G2 F' n' ⟨hR2, hDa, hSF, rfl, rfl⟩
  obtain ⟨hkT, hzT⟩ := sTicks_ok hkt kk (by omega)
  have z5 : sTicks t kk 5 = s 5 := hzT.2.2.2.2.2.1.trans ((zp_ne (by omega)).trans q5)
  have hf2 : ∀ k, (k < 16 ∨ 32 ≤ k) → (k < 201 ∨ 225 ≤ k) → G2 k = G1 k := hSF
  have hQf : xQf G G2 := fun k a b => (hf2 k a (by omega)).trans (hf1 k a)
  refine zs_aload (ip' := 14) rfl rfl rfl ?_
  refine zs_getR (ip' := 15) rfl rfl (r := 16) (by omega) zsh_192 rfl ?_
  refine zs_getR (ip' := 16) rfl rfl (r := 23) (by omega) zsh_16 rfl ?_
  refine zs_pushI (ip' := 17) rfl rfl zi_k2 ?_
  refine zW_cP (ip' := 18) rfl rfl (cR_countIn (w := 1) hN (by omega) hkT hR2 (by omega)) rfl rfl (z_ok3 (by omega) zsh_23 rfl rfl rfl) ?_
  refine zW_0 rfl ?_
  exact zqx0 ((if_pos hc1).trans (by rw [Int.toNat_natCast])) hQf
theorem sUntil_at {t : Int → Int} {v : Int} (hok : mOk t) (htm : t 3 ≤ 9999) (v0 : 0 ≤ v) {j : Nat} (hj : j < 300) (h0 : sTicks t j (214 + 7 * v + 2) = 0) (h1 : sTicks t (j + 1) (214 + 7 * v + 2) ≠ 0) : sUntil t v = j := by
  unfold sUntil
  refine zfst_at (p := fun k : Int => sTicks t (k + 1).toNat (214 + 7 * v + 2) ≠ 0) (j := j) ?_ ?_ 300 (by omega)
  · show sTicks t ((j : Int) + 1).toNat (214 + 7 * v + 2) ≠ 0
    rw [show ((j : Int) + 1).toNat = j + 1 by omega]
    exact h1
  · intro i i0 i1 hh
    have hh2 : sTicks t (i + 1).toNat (214 + 7 * v + 2) ≠ 0 := hh
    have := sTicks_2 hok v0 hh2 (j - (i + 1).toNat) (by omega)
    rw [show (i + 1).toNat + (j - (i + 1).toNat) = j by omega] at this
    exact hh2 (this.symm.trans h0)
theorem sUntil_no {t : Int → Int} {v : Int} (hok : mOk t) (htm : t 3 ≤ 9999) (v0 : 0 ≤ v) (h0 : sTicks t 300 (214 + 7 * v + 2) = 0) : sUntil t v < 0 := by
  unfold sUntil
  rw [zfst_no (p := fun k : Int => sTicks t (k + 1).toNat (214 + 7 * v + 2) ≠ 0) 300]
  · decide
  · intro i i0 i1 hh
    have hh2 : sTicks t (i + 1).toNat (214 + 7 * v + 2) ≠ 0 := hh
    have := sTicks_2 hok v0 hh2 (300 - (i + 1).toNat) (by omega)
    rw [show (i + 1).toNat + (300 - (i + 1).toNat) = 300 by omega] at this
    exact hh2 (this.symm.trans h0)
theorem cQ_ticksUntilDone {N : Nat} {G F : GM} {n : Nat} (hN : 229 ≤ N) {s : Int → Int} (hok : mOk s) (hR : RX G 0 s) {t : Int → Int} (he : zEq s t) (htm : s 3 ≤ 9999) {v : Int} (ht0 : zr v) : zC N 246 [.ref 192, .int (zi v)] G F n (zQx F n [3, 0, 2] (q_until s t v) (xQf G)) := by
  obtain ⟨⟨c0, c1, c2, c3, c4, c5⟩, hf, hg, hl, hb, ht⟩ := RX_0 hR
  obtain ⟨b0, b1, b2, b3, b4, b5, bf, bc, bl, bw⟩ := id hok
  have hkt := mOk_eq he hok
  have hRt := RX_eq hok hR he
  have q0 := he 0 (by omega) (by omega)
  have q3 := he 3 (by omega) (by omega)
  have q5 := he 5 (by omega) (by omega)
  refine zC_i (L0 := [.ref 192, .int (zi v)]) rfl ?_
  refine zs_aload (ip' := 1) rfl rfl rfl ?_
  refine zs_iload (ip' := 2) rfl rfl rfl ?_
  refine zW_cT (ip' := 3) rfl rfl (cT_trav hN hok hR ht0) rfl rfl (z_ok3 (by omega) zsh_192 rfl rfl rfl) rfl rfl ?_ ?_
  · intro hn2
    exact zqx1 (if_neg hn2) rfl (xQf_r _)
  intro hc2
  obtain ⟨t0, t1⟩ := id hc2
  obtain ⟨-, t9, -⟩ := ht v t0 (by omega)
  obtain ⟨-, -, wst, -⟩ := bw v t0 (by omega)
  refine zs_aload (ip' := 4) rfl rfl rfl ?_
  refine zs_iload (ip' := 5) rfl rfl rfl ?_
  refine zW_cT (ip' := 6) rfl rfl (cT_walk hN hok hR hc2) rfl rfl (z_ok3 (by omega) zsh_192 rfl rfl rfl) rfl rfl ?_ ?_
  · intro hn5
    exact zqx2 ((if_pos hc2).trans (if_pos hn5)) rfl (xQf_r _)
  intro hc5
  refine zs_aload (ip' := 7) rfl rfl rfl ?_
  refine zs_getR (ip' := 8) rfl rfl (r := 16) (by omega) zsh_192 rfl ?_
  refine zs_aload (ip' := 9) rfl rfl rfl ?_
  refine zs_getR (ip' := 10) rfl rfl (r := 0) (by omega) zsh_192 rfl ?_
  refine zW_cV (ip' := 11) rfl rfl (cX_copy7 (w := 1) (w2 := 0) hN (by omega) (by omega) (by decide)) rfl rfl (z_ok3 (by omega) zsh_16 rfl rfl rfl) ?_
  rintro G1 F' n' ⟨hcp, rfl, rfl⟩
  have hR1 : RX G1 1 t := RX_cp hkt hRt hcp
  have hf1 : ∀ k, (k < 16 ∨ 32 ≤ k) → G1 k = G k := hcp.1
  refine zs_aload (ip' := 12) rfl rfl rfl ?_
  refine zs_getR (ip' := 13) rfl rfl (r := 199) (by omega) zsh_192 rfl ?_
  refine zs_aload (ip' := 14) rfl rfl rfl ?_
  refine zs_getR (ip' := 15) rfl rfl (r := 16) (by omega) zsh_192 rfl ?_
  refine zs_pushI (ip' := 16) rfl rfl zi_k300 ?_
  refine zW_cV (ip' := 17) rfl rfl (cR_run (w := 1) (k := 300) hN (by omega) hkt hR1 (by omega) (by omega)) rfl rfl (z_ok3 (by omega) zsh_199 rfl rfl rfl) ?_
  rintro G2 F' n' ⟨hR2, hDa, hSF, rfl, rfl⟩
  obtain ⟨hkT, hzT⟩ := sTicks_ok hkt 300 (by omega)
  have z5 : sTicks t 300 5 = s 5 := hzT.2.2.2.2.2.1.trans ((zp_ne (by omega)).trans q5)
  have hf2 : ∀ k, (k < 16 ∨ 32 ≤ k) → (k < 201 ∨ 225 ≤ k) → G2 k = G1 k := hSF
  have hQf : xQf G G2 := fun k a b => (hf2 k a (by omega)).trans (hf1 k a)
  refine zs_aload (ip' := 18) rfl rfl rfl ?_
  refine zs_getR (ip' := 19) rfl rfl (r := 16) (by omega) zsh_192 rfl ?_
  refine zs_getR (ip' := 20) rfl rfl (r := 23) (by omega) zsh_16 rfl ?_
  refine zs_getR (ip' := 21) rfl rfl (r := 25) (by omega) zsh_23 rfl ?_
  refine zs_iload (ip' := 22) rfl rfl rfl ?_
  refine zs_iald (ip' := 23) rfl rfl (by omega) zsh_25 (by omega) ?_
  intro hl22 hu22
  have h25 : G2 25 v = sTicks t 300 (214 + 7 * v + 2) := (hR2.2.2.2.2.2 v t0 (by omega)).2.1
  rw [h25] at hl22 hu22 ⊢
  refine zs_if_ne (t := 29) (ip' := 24) rfl rfl (by omega) ?_ ?_
  · intro h23
    refine zs_aload (ip' := 30) rfl rfl rfl ?_
    refine zs_getR (ip' := 31) rfl rfl (r := 16) (by omega) zsh_192 rfl ?_
    refine zs_getR (ip' := 32) rfl rfl (r := 23) (by omega) zsh_16 rfl ?_
    refine zs_getR (ip' := 33) rfl rfl (r := 30) (by omega) zsh_23 rfl ?_
    refine zs_iload (ip' := 34) rfl rfl rfl ?_
    refine zs_iald (ip' := 35) rfl rfl (by omega) zsh_30 (by omega) ?_
    intro hl34 hu34
    refine zs_aload (ip' := 36) rfl rfl rfl ?_
    refine zs_getR (ip' := 37) rfl rfl (r := 0) (by omega) zsh_192 rfl ?_
    refine zs_getI (ip' := 38) rfl rfl (by omega) zsh_0 rfl (q := 5) rfl ?_
    intro hl37 hu37
    rw [show G2 0 5 = s 3 from (congrFun ((hf2 0 (by omega) (by omega)).trans (hf1 0 (by omega))) 5).trans c3] at hl37 hu37 ⊢
    refine zs_isub (ip' := 39) rfl rfl ?_
    refine zW_0 rfl ?_
    obtain ⟨j, j0, j1, j2, j3⟩ := hDa v t0 (by omega) (by rw [he (214 + 7 * v + 2) (by omega) (by omega)]; exact hc5) h23
    have hu := sUntil_at hkt (by omega) t0 j0 j1 j2
    have j4 : G2 30 v = t 3 + j + 1 := j3
    exact zqx0 ((if_pos hc2).trans ((if_neg (fun q => q hc5)).trans ((if_neg (by omega)).trans (by rw [hu, show G2 30 v - s 3 = (j : Int) + 1 by omega])))) hQf
  · intro h23
    refine zW_5 rfl ?_
    exact zqx3 ((if_pos hc2).trans ((if_neg (fun q => q hc5)).trans (if_pos (sUntil_no hkt (by omega) t0 h23)))) rfl hQf
theorem cQ_best_l {N : Nat} {F : GM} {n : Nat} (hN : 229 ≤ N) {s : Int → Int} (hok : mOk s) {G0 : GM} (hR0 : RX G0 0 s) {t : Int → Int} (he : zEq s t) (htm : s 3 ≤ 9999) : ∀ (d : Nat) (k : Nat) (a4 : Value) (G : GM), 21 - (k : Int) < (d : Int) → (k : Int) ≤ 21 → xQf G0 G → zW N 250 6 [.ref 192, .int (zi (sBest t k).1), .int (zi (sBest t k).2), .int (zi (k : Int)), a4] [] G F n (fun o G' F' n' => o = .inl (some (.int (zi (sBest t 21).1))) ∧ xQf G0 G' ∧ F' = F ∧ n' = n) := by
  intro d
  induction d with
  | zero =>
    intro k a4 G hd hj hQ
    exact absurd hd (by omega)
  | succ d ih =>
    intro k a4 G hd hj hQ
    have hR : RX G 0 s := RX_fr hR0 (fun k a b => hQ k (by omega) (by omega))
    have hkt := mOk_eq he hok
    have hRt := RX_eq hok hR he
    have q3 := he 3 (by omega) (by omega)
    have bk := sBest_rng t k hj (fun i i0 => by
      have h2 := mOk_cl (v := (i : Int)) hkt ⟨by omega, i0⟩
      have h3 : zp t 2 (i : Int) 3 = t 3 := zp_ne (by omega)
      exact (sTicks_ok h2 300 (by omega)).1.2.2.2.2.2.1)
    refine zs_iload (ip' := 7) rfl rfl rfl ?_
    refine zs_pushI (ip' := 8) rfl rfl zi_k20 ?_
    refine zs_icmp_gt (t := 39) (ip' := 9) rfl rfl (by omega) (by omega) ?_ ?_
    · intro h8
      refine zs_iload (ip' := 40) rfl rfl rfl ?_
      refine zW_0 rfl ?_
      exact ⟨by rw [show k = 21 by omega], hQ, rfl, rfl⟩
    · intro h8
      refine zs_aload (ip' := 10) rfl rfl rfl ?_
      refine zs_getR (ip' := 11) rfl rfl (r := 16) (by omega) zsh_192 rfl ?_
      refine zs_aload (ip' := 12) rfl rfl rfl ?_
      refine zs_getR (ip' := 13) rfl rfl (r := 0) (by omega) zsh_192 rfl ?_
      refine zW_cV (ip' := 14) rfl rfl (cX_copy7 (w := 1) (w2 := 0) hN (by omega) (by omega) (by decide)) rfl rfl (z_ok3 (by omega) zsh_16 rfl rfl rfl) ?_
      rintro G1 F' n' ⟨hcp, rfl, rfl⟩
      have hR1 : RX G1 1 t := RX_cp hkt hRt hcp
      have hf1 : ∀ k, (k < 16 ∨ 32 ≤ k) → G1 k = G k := hcp.1
      refine zs_aload (ip' := 15) rfl rfl rfl ?_
      refine zs_getR (ip' := 16) rfl rfl (r := 16) (by omega) zsh_192 rfl ?_
      refine zs_iload (ip' := 17) rfl rfl rfl ?_
      refine zs_putI (ip' := 18) rfl rfl (by omega) zsh_16 rfl (q := 4) rfl (by omega) ?_
      have hkc := mOk_cl (v := (k : Int)) hkt ⟨by omega, by omega⟩
      have hRc : RX (zk G1 16 (zp (G1 16) 4 (k : Int))) 1 (zp t 2 (k : Int)) := RX_clear hkt hR1
      have h3c : zp t 2 (k : Int) 3 = t 3 := zp_ne (by omega)
      have hf3 : ∀ j, (j < 16 ∨ 32 ≤ j) → zk G1 16 (zp (G1 16) 4 (k : Int)) j = G1 j := fun j hj => zk_ne (by omega)
      generalize zk G1 16 (zp (G1 16) 4 (k : Int)) = G3 at hRc hf3 ⊢
      refine zs_aload (ip' := 19) rfl rfl rfl ?_
      refine zs_getR (ip' := 20) rfl rfl (r := 199) (by omega) zsh_192 rfl ?_
      refine zs_aload (ip' := 21) rfl rfl rfl ?_
      refine zs_getR (ip' := 22) rfl rfl (r := 16) (by omega) zsh_192 rfl ?_
      refine zs_pushI (ip' := 23) rfl rfl zi_k300 ?_
      refine zW_cV (ip' := 24) rfl rfl (cR_run (w := 1) (k := 300) hN (by omega) hkc hRc (by omega) (by omega)) rfl rfl (z_ok3 (by omega) zsh_199 rfl rfl rfl) ?_
      rintro G2 F' n' ⟨hR2, -, hSF, rfl, rfl⟩
      obtain ⟨hkT, -⟩ := sTicks_ok hkc 300 (by omega)
      have hf2 : ∀ k, (k < 16 ∨ 32 ≤ k) → (k < 201 ∨ 225 ≤ k) → G2 k = G3 k := hSF
      have hQ2 : xQf G0 G2 := fun k a b => (hf2 k a (by omega)).trans ((hf3 k a).trans ((hf1 k a).trans (hQ k a b)))
      have hcr := sCount_rng (sTicks (zp t 2 (k : Int)) 300) 1 hkT.2.2.2.2.2.1
      refine zs_aload (ip' := 25) rfl rfl rfl ?_
      refine zs_getR (ip' := 26) rfl rfl (r := 16) (by omega) zsh_192 rfl ?_
      refine zs_getR (ip' := 27) rfl rfl (r := 23) (by omega) zsh_16 rfl ?_
      refine zs_pushI (ip' := 28) rfl rfl zi_k1 ?_
      refine zW_cP (ip' := 29) rfl rfl (cR_countIn (w := 1) hN (by omega) hkT hR2 (by omega)) rfl rfl (z_ok3 (by omega) zsh_23 rfl rfl rfl) ?_
      refine zs_istore4 (ip' := 30) rfl rfl ?_
      refine zs_iload (ip' := 31) rfl rfl rfl ?_
      refine zs_iload (ip' := 32) rfl rfl rfl ?_
      refine zs_icmp_le (t := 37) (ip' := 33) rfl rfl (by omega) (by omega) ?_ ?_
      · intro h32
        refine zs_iinc3 (ip' := 38) rfl rfl zi_k1 ?_
        refine zs_goto (t := 6) rfl ?_
        have e : sBest t (k + 1) = sBest t k := if_pos h32
        have := ih (k + 1) (.int (zi (sCount (sTicks (zp t 2 (k : Int)) 300) 1))) G2 (by omega) (by omega) hQ2
        rw [e] at this
        exact this
      · intro h32
        refine zs_iload (ip' := 34) rfl rfl rfl ?_
        refine zs_istore2 (ip' := 35) rfl rfl ?_
        refine zs_iload (ip' := 36) rfl rfl rfl ?_
        refine zs_istore1 (ip' := 37) rfl rfl ?_
        refine zs_iinc3 (ip' := 38) rfl rfl zi_k1 ?_
        refine zs_goto (t := 6) rfl ?_
        have e : sBest t (k + 1) = ((k : Int), sCount (sTicks (zp t 2 (k : Int)) 300) 1) := if_neg (by omega)
        have := ih (k + 1) (.int (zi (sCount (sTicks (zp t 2 (k : Int)) 300) 1))) G2 (by omega) (by omega) hQ2
        rw [e] at this
        dsimp only at this
        exact this
theorem cQ_bestClearness {N : Nat} {G F : GM} {n : Nat} (hN : 229 ≤ N) {s : Int → Int} (hok : mOk s) (hR : RX G 0 s) {t : Int → Int} (he : zEq s t) (htm : s 3 ≤ 9999) : zC N 250 [.ref 192] G F n (fun o G' F' n' => o = .inl (some (.int (zi (sBest t 21).1))) ∧ xQf G G' ∧ F' = F ∧ n' = n) := by
  refine zC_i (L0 := [.ref 192, .null, .null, .null, .null]) rfl ?_
  refine zs_pushI (ip' := 1) rfl rfl zi_k0 ?_
  refine zs_istore1 (ip' := 2) rfl rfl ?_
  refine zs_pushI (ip' := 3) rfl rfl zi_km1 ?_
  refine zs_istore2 (ip' := 4) rfl rfl ?_
  refine zs_pushI (ip' := 5) rfl rfl zi_k0 ?_
  refine zs_istore3 (ip' := 6) rfl rfl ?_
  exact cQ_best_l hN hok hR he htm 22 0 _ G (by omega) (by omega) (xQf_r _)
