/-! The law's ticks(x, w): its loop of clearnesses. -/
section E5V
variable {s : Int → Int} {i : Int}
theorem vL_bcl (hok : mOk (zp s 2 i)) (h3 : (zp s 2 i) 3 ≤ 9999) : (q_after (zp s 2 i) 300 1).1 = 0 ∧ zN [1] ((q_after (zp s 2 i) 300 1).1, gI (q_after (zp s 2 i) 300 1).2) = cB s i := vL_after hok h3 (by decide)
theorem cB_rng (hok : mOk s) (h3 : s 3 ≤ 9999) (hi : 0 ≤ i ∧ i ≤ 20) : 0 ≤ cB s i ∧ cB s i ≤ 6 := by
  have e3 : (zp s 2 i) 3 = s 3 := zp_ne (by decide)
  obtain ⟨k1, z1⟩ := sTicks_ok (mOk_cl hok hi) 300 (by omega)
  exact sCount_rng (sTicks (zp s 2 i) 300) 1 k1.2.2.2.2.2.1
end E5V
theorem q344_670 : decode (zbc 344) 670 = .ok (.iload 13, 2) := by decide +kernel
theorem q344_672 : decode (zbc 344) 672 = .ok (.bipush 20, 2) := by decide +kernel
theorem q344_674 : decode (zbc 344) 674 = .ok (.if_icmp .gt 89, 3) := by decide +kernel
theorem q344_677 : decode (zbc 344) 677 = .ok (.iload 10, 2) := by decide +kernel
theorem q344_679 : decode (zbc 344) 679 = .ok (.ifCond .eq 84, 3) := by decide +kernel
theorem q344_682 : decode (zbc 344) 682 = .ok (.aload_n 0, 1) := by decide +kernel
theorem q344_683 : decode (zbc 344) 683 = .ok (.bipush 6, 2) := by decide +kernel
theorem q344_685 : decode (zbc 344) 685 = .ok (.iload 13, 2) := by decide +kernel
theorem q344_687 : decode (zbc 344) 687 = .ok (.invokestatic 185, 3) := by decide +kernel
theorem wq344_687 {L9 : Nat} {xs9 : Nat → Int32} {N9 : Nat} : z_SC N9 znl zTs (zZ L9 xs9 N9) zyn zbc zrt zfr zlo (fun _ i => i) ztb 344 687 2 336 3 := sc_S (P := fun _ i => i) zTs_good q344_687 kx_545 kx_546 kx_31 kx_547 rfl ⟨by decide, by decide, by decide +kernel⟩ ⟨Nat.le_of_ble_eq_true rfl, Nat.le_of_ble_eq_true rfl⟩
theorem q344_690 : decode (zbc 344) 690 = .ok (.ifCond .lt 7, 3) := by decide +kernel
theorem q344_693 : decode (zbc 344) 693 = .ok (.iconst 1, 1) := by decide +kernel
theorem q344_694 : decode (zbc 344) 694 = .ok (.goto 4, 3) := by decide +kernel
theorem q344_698 : decode (zbc 344) 698 = .ok (.istore 10, 2) := by decide +kernel
theorem q344_700 : decode (zbc 344) 700 = .ok (.aload_n 0, 1) := by decide +kernel
theorem q344_701 : decode (zbc 344) 701 = .ok (.bipush 45, 2) := by decide +kernel
theorem q344_703 : decode (zbc 344) 703 = .ok (.sipush 300, 3) := by decide +kernel
theorem q344_706 : decode (zbc 344) 706 = .ok (.invokestatic 185, 3) := by decide +kernel
theorem wq344_706 {L9 : Nat} {xs9 : Nat → Int32} {N9 : Nat} : z_SC N9 znl zTs (zZ L9 xs9 N9) zyn zbc zrt zfr zlo (fun _ i => i) ztb 344 706 2 336 3 := sc_S (P := fun _ i => i) zTs_good q344_706 kx_545 kx_546 kx_31 kx_547 rfl ⟨by decide, by decide, by decide +kernel⟩ ⟨Nat.le_of_ble_eq_true rfl, Nat.le_of_ble_eq_true rfl⟩
theorem q344_709 : decode (zbc 344) 709 = .ok (.istore 14, 2) := by decide +kernel
theorem q344_711 : decode (zbc 344) 711 = .ok (.iload 10, 2) := by decide +kernel
theorem q344_713 : decode (zbc 344) 713 = .ok (.ifCond .eq 41, 3) := by decide +kernel
theorem q344_716 : decode (zbc 344) 716 = .ok (.iload 13, 2) := by decide +kernel
theorem q344_718 : decode (zbc 344) 718 = .ok (.iload 11, 2) := by decide +kernel
theorem q344_720 : decode (zbc 344) 720 = .ok (.if_icmp .ge 13, 3) := by decide +kernel
theorem q344_733 : decode (zbc 344) 733 = .ok (.iload 14, 2) := by decide +kernel
theorem q344_735 : decode (zbc 344) 735 = .ok (.iload 12, 2) := by decide +kernel
theorem q344_737 : decode (zbc 344) 737 = .ok (.if_icmp .gt 17, 3) := by decide +kernel
theorem q344_740 : decode (zbc 344) 740 = .ok (.aload_n 0, 1) := by decide +kernel
theorem q344_741 : decode (zbc 344) 741 = .ok (.bipush 9, 2) := by decide +kernel
theorem q344_743 : decode (zbc 344) 743 = .ok (.iconst 0, 1) := by decide +kernel
theorem q344_744 : decode (zbc 344) 744 = .ok (.invokestatic 185, 3) := by decide +kernel
theorem wq344_744 {L9 : Nat} {xs9 : Nat → Int32} {N9 : Nat} : z_SC N9 znl zTs (zZ L9 xs9 N9) zyn zbc zrt zfr zlo (fun _ i => i) ztb 344 744 2 336 3 := sc_S (P := fun _ i => i) zTs_good q344_744 kx_545 kx_546 kx_31 kx_547 rfl ⟨by decide, by decide, by decide +kernel⟩ ⟨Nat.le_of_ble_eq_true rfl, Nat.le_of_ble_eq_true rfl⟩
theorem q344_747 : decode (zbc 344) 747 = .ok (.ifCond .lt 7, 3) := by decide +kernel
theorem q344_750 : decode (zbc 344) 750 = .ok (.iconst 1, 1) := by decide +kernel
theorem q344_751 : decode (zbc 344) 751 = .ok (.goto 4, 3) := by decide +kernel
theorem q344_755 : decode (zbc 344) 755 = .ok (.istore 10, 2) := by decide +kernel
theorem q344_757 : decode (zbc 344) 757 = .ok (.iinc 13 4, 3) := by decide +kernel
theorem q344_760 : decode (zbc 344) 760 = .ok (.goto (-90), 3) := by decide +kernel
theorem q344_723 : decode (zbc 344) 723 = .ok (.iload 14, 2) := by decide +kernel
theorem q344_725 : decode (zbc 344) 725 = .ok (.iload 12, 2) := by decide +kernel
theorem q344_727 : decode (zbc 344) 727 = .ok (.if_icmp .ge 27, 3) := by decide +kernel
theorem q344_730 : decode (zbc 344) 730 = .ok (.goto 10, 3) := by decide +kernel
theorem tk_c {X : Nat × (Nat → Int32)} {B : Int} {sv : Nat → Int → Int} {u : Int} {h : Nat → Int → Int} {s : Int → Int} {b : WB} {c d : Nat} {F : GM} {Y : DY} {Q : WQ} {i : Nat} {bs : Int} {r1 r2 r3 r4 r5 r6 r7 r8 : Value} (hb1 : c ≤ b.1) (hb2 : d ≤ b.2.1) (h3 : s 3 + 100 ≤ B) (hB : B ≤ 9999) (hu : u ≤ 7) (h0bs : 0 ≤ bs ∧ bs ≤ 20) (hbs : ∀ i : Int, 0 ≤ i → i ≤ 20 → cB s i ≤ cB s bs ∧ (i < bs → cB s i < cB s bs)) (hk : ∀ G (kc : Int) (a14 : Value), PG B sv u h s G → wW (229, X) 344 b 763 [.ref 192, r1, r2, r3, r4, r5, r6, r7, r8, .ref (1000 + i), .int (zi 1), .int (zi bs), .int (zi (cB s bs)), .int (zi kc), a14] [] G F Y c d Q) : ∀ (f : Nat) (kc : Int) (a14 : Value) (G : GM), (0 ≤ kc ∧ kc ≤ 24) → 25 ≤ kc + 4 * (f : Int) → PG B sv u h s G → wW (229, X) 344 b 670 [.ref 192, r1, r2, r3, r4, r5, r6, r7, r8, .ref (1000 + i), .int (zi 1), .int (zi bs), .int (zi (cB s bs)), .int (zi kc), a14] [] G F Y c d Q := by
  intro f
  induction f with
  | zero =>
    intro kc a14 G hk0 hf9
    omega
  | succ f ih =>
      intro kc a14 G hk0 hf9 p
      have u8 := p.u8
      have a2 := p.ok.2.2.1
      have a3 := p.ok.2.2.2.1
      have hT : s 3 ≤ 9999 := by omega
      have cbs := cB_rng p.ok hT h0bs
      refine wi_iload (i := 13) (pc' := 672) q344_670 rfl rfl ?_
      refine wi_bipush (pc' := 674) q344_672 rfl (by decide) ?_
      refine wi_icmp_gt (t := 763) (pc' := 677) q344_674 (by decide) rfl (by omega) (by omega) ?_ ?_
      · intro h9
        exact hk G kc a14 p
      · intro h9
        have ckc := cB_rng p.ok hT (i := kc) (by omega)
        obtain ⟨m1, m2⟩ := hbs kc (by omega) (by omega)
        have e3 : (zp s 2 kc) 3 = s 3 := zp_ne (by decide)
        refine wi_iload (i := 10) (pc' := 679) q344_677 rfl rfl ?_
        refine wi_if_eq (t := 763) (pc' := 682) q344_679 (by decide) rfl (by omega) (fun h1 => absurd h1 (by omega)) (fun h1 => ?_)
        refine wi_aload_n (i := 0) (pc' := 683) q344_682 rfl rfl rfl ?_
        refine wi_bipush (pc' := 685) q344_683 rfl (by decide) ?_
        refine wi_iload (i := 13) (pc' := 687) q344_685 rfl rfl ?_
        refine wi_cv (u9 := (229, X)) (pc' := 690) wq344_687 rfl (cL_s2 (pC_setClearness p (by omega)) zLc_i) (fun h => absurd h (by decide)) rfl rfl (vL_clOk (c := kc) p.ok ⟨by omega, by omega⟩).1 (by (try dsimp only); omega) (by (try dsimp only); omega) ?_
        intro G9 hx
        rw [(vL_clOk (c := kc) p.ok ⟨by omega, by omega⟩).2]
        have p9 := PGc_yes hx (vL_clOk (c := kc) p.ok ⟨by omega, by omega⟩).1
        clear hx
        refine wi_if_lt (t := 697) (pc' := 693) q344_690 (by decide) rfl (by omega) (fun h2 => absurd h2 (by omega)) (fun h2 => ?_)
        refine wi_iconst (pc' := 694) q344_693 rfl ?_
        refine wi_goto (t := 698) q344_694 (by decide) ?_
        refine wi_istore10 (pc' := 700) q344_698 rfl rfl (Or.inr rfl) ?_
        refine wi_aload_n (i := 0) (pc' := 701) q344_700 rfl rfl rfl ?_
        refine wi_bipush (pc' := 703) q344_701 rfl (by decide) ?_
        refine wi_sipush (pc' := 706) q344_703 rfl (by decide) ?_
        refine wi_cv (u9 := (229, X)) (pc' := 709) wq344_706 rfl (cL_s2 (pL_arrivedAfter p9 (by omega) (by omega)) zLc_i) (fun h => absurd h (by decide)) rfl rfl (vL_bcl p9.ok (by omega)).1 (by (try dsimp only); omega) (by (try dsimp only); omega) ?_
        intro G7 hx
        rw [(vL_bcl p9.ok (by omega)).2]
        have p7 := hx
        clear hx
        refine wi_istore14 (pc' := 711) q344_709 rfl rfl (Or.inr rfl) ?_
        refine wi_iload (i := 10) (pc' := 713) q344_711 rfl rfl ?_
        refine wi_if_eq (t := 754) (pc' := 716) q344_713 (by decide) rfl (by omega) (fun h3 => absurd h3 (by omega)) (fun h3 => ?_)
        refine wi_iload (i := 13) (pc' := 718) q344_716 rfl rfl ?_
        refine wi_iload (i := 11) (pc' := 720) q344_718 rfl rfl ?_
        refine wi_icmp_ge (t := 733) (pc' := 723) q344_720 (by decide) rfl (by omega) (by omega) ?_ ?_
        · intro h8
          refine wi_iload (i := 14) (pc' := 735) q344_733 rfl rfl ?_
          refine wi_iload (i := 12) (pc' := 737) q344_735 rfl rfl ?_
          refine wi_icmp_gt (t := 754) (pc' := 740) q344_737 (by decide) rfl (by omega) (by omega) (fun h4 => absurd h4 (by omega)) (fun h4 => ?_)
          refine wi_aload_n (i := 0) (pc' := 741) q344_740 rfl rfl rfl ?_
          refine wi_bipush (pc' := 743) q344_741 rfl (by decide) ?_
          refine wi_iconst (pc' := 744) q344_743 rfl ?_
          refine wi_cv (u9 := (229, X)) (pc' := 747) wq344_744 rfl (cL_s2 (pC_undo p7) zLc_i) (fun h => absurd h (by decide)) rfl rfl (vL_undoOk (u := min (u + 1) 8) (by omega)).1 (by (try dsimp only); omega) (by (try dsimp only); omega) ?_
          intro G8 hx
          rw [(vL_undoOk (u := min (u + 1) 8) (by omega)).2]
          have p8 := PG_bk hx u8.1 hu
          clear hx
          refine wi_if_lt (t := 754) (pc' := 750) q344_747 (by decide) rfl (by omega) (fun h5 => absurd h5 (by omega)) (fun h5 => ?_)
          refine wi_iconst (pc' := 751) q344_750 rfl ?_
          refine wi_goto (t := 755) q344_751 (by decide) ?_
          refine wi_istore10 (pc' := 757) q344_755 rfl rfl (Or.inr rfl) ?_
          refine wi_iinc13 (pc' := 760) q344_757 rfl rfl (Or.inr rfl) ?_
          refine wi_goto (t := 670) q344_760 (by decide) ?_
          exact ih (kc + 4) _ _ ⟨by omega, by omega⟩ (by omega) p8
        · intro h8
          refine wi_iload (i := 14) (pc' := 725) q344_723 rfl rfl ?_
          refine wi_iload (i := 12) (pc' := 727) q344_725 rfl rfl ?_
          refine wi_icmp_ge (t := 754) (pc' := 730) q344_727 (by decide) rfl (by omega) (by omega) (fun h6 => absurd h6 (by omega)) (fun h6 => ?_)
          refine wi_goto (t := 740) q344_730 (by decide) ?_
          refine wi_aload_n (i := 0) (pc' := 741) q344_740 rfl rfl rfl ?_
          refine wi_bipush (pc' := 743) q344_741 rfl (by decide) ?_
          refine wi_iconst (pc' := 744) q344_743 rfl ?_
          refine wi_cv (u9 := (229, X)) (pc' := 747) wq344_744 rfl (cL_s2 (pC_undo p7) zLc_i) (fun h => absurd h (by decide)) rfl rfl (vL_undoOk (u := min (u + 1) 8) (by omega)).1 (by (try dsimp only); omega) (by (try dsimp only); omega) ?_
          intro G8 hx
          rw [(vL_undoOk (u := min (u + 1) 8) (by omega)).2]
          have p8 := PG_bk hx u8.1 hu
          clear hx
          refine wi_if_lt (t := 754) (pc' := 750) q344_747 (by decide) rfl (by omega) (fun h7 => absurd h7 (by omega)) (fun h7 => ?_)
          refine wi_iconst (pc' := 751) q344_750 rfl ?_
          refine wi_goto (t := 755) q344_751 (by decide) ?_
          refine wi_istore10 (pc' := 757) q344_755 rfl rfl (Or.inr rfl) ?_
          refine wi_iinc13 (pc' := 760) q344_757 rfl rfl (Or.inr rfl) ?_
          refine wi_goto (t := 670) q344_760 (by decide) ?_
          exact ih (kc + 4) _ _ ⟨by omega, by omega⟩ (by omega) p8
