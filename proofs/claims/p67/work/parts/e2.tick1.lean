/-! The law's ticks(x, w): the strengths at first. -/
/-- a cell's strength -/
def stS (s : Int → Int) (y k : Int) : Int := if 10 < s (30 + 12 * y + k) then s (30 + 12 * y + k) - 10 else 0
/-- the strengths up to a cell -/
def stI (s D : Int → Int) (y k : Int) : Prop := ∀ yy kk, 0 ≤ kk → kk < s 0 → 0 ≤ yy → yy < s 1 → (yy < y ∨ (yy = y ∧ kk < k)) → D (12 * yy + kk) = stS s yy kk
theorem stI_put {s D : Int → Int} {y k v : Int} (h : stI s D y k) (h0 : s 0 ≤ 12) (hk : 0 ≤ k ∧ k < s 0) (hv : v = stS s y k) : stI s (zp D (12 * y + k) v) y (k + 1) := by
  intro yy kk k0 k1 y0 y1 hq
  by_cases e : yy = y ∧ kk = k
  · obtain ⟨rfl, rfl⟩ := e
    rw [zp_eq]
    exact hv
  · rw [zp_ne (by omega)]
    exact h yy kk k0 k1 y0 y1 (by omega)
theorem stI_nx {s D : Int → Int} {y k : Int} (h : stI s D y k) (hk : k = s 0) : stI s D (y + 1) 0 := fun yy kk k0 k1 y0 y1 hq => h yy kk k0 k1 y0 y1 (by omega)
theorem q344_71 : decode (zbc 344) 71 = .ok (.iload 11, 2) := by decide +kernel
theorem q344_73 : decode (zbc 344) 73 = .ok (.aload_n 0, 1) := by decide +kernel
theorem q344_74 : decode (zbc 344) 74 = .ok (.invokevirtual 233, 3) := by decide +kernel
theorem wq344_74 {L9 : Nat} {xs9 : Nat → Int32} {N9 : Nat} : z_SC N9 znl zTs (zZ L9 xs9 N9) zyn zbc zrt zfr zlo (fun _ i => i) ztb 344 74 3 206 1 := sc_V (P := fun _ i => i) (n' := 0) zTs_good q344_74 kx_509 kx_510 kx_511 kx_32 kx_512 rfl ⟨by decide, by decide, by decide +kernel⟩ rfl ⟨Nat.le_of_ble_eq_true rfl, Nat.le_of_ble_eq_true rfl⟩
theorem q344_77 : decode (zbc 344) 77 = .ok (.if_icmp .ge 48, 3) := by decide +kernel
theorem q344_80 : decode (zbc 344) 80 = .ok (.aload 9, 2) := by decide +kernel
theorem q344_82 : decode (zbc 344) 82 = .ok (.bipush 12, 2) := by decide +kernel
theorem q344_84 : decode (zbc 344) 84 = .ok (.iload 10, 2) := by decide +kernel
theorem q344_86 : decode (zbc 344) 86 = .ok (.imul, 1) := by decide +kernel
theorem q344_87 : decode (zbc 344) 87 = .ok (.iload 11, 2) := by decide +kernel
theorem q344_89 : decode (zbc 344) 89 = .ok (.iadd, 1) := by decide +kernel
theorem q344_90 : decode (zbc 344) 90 = .ok (.aload_n 0, 1) := by decide +kernel
theorem q344_91 : decode (zbc 344) 91 = .ok (.bipush 18, 2) := by decide +kernel
theorem q344_93 : decode (zbc 344) 93 = .ok (.iload 11, 2) := by decide +kernel
theorem q344_95 : decode (zbc 344) 95 = .ok (.iload 10, 2) := by decide +kernel
theorem q344_97 : decode (zbc 344) 97 = .ok (.invokestatic 251, 3) := by decide +kernel
theorem wq344_97 {L9 : Nat} {xs9 : Nat → Int32} {N9 : Nat} : z_SC N9 znl zTs (zZ L9 xs9 N9) zyn zbc zrt zfr zlo (fun _ i => i) ztb 344 97 2 335 4 := sc_S (P := fun _ i => i) zTs_good q344_97 kx_1385 kx_1386 kx_31 kx_1387 rfl ⟨by decide, by decide, by decide +kernel⟩ ⟨Nat.le_of_ble_eq_true rfl, Nat.le_of_ble_eq_true rfl⟩
theorem q344_100 : decode (zbc 344) 100 = .ok (.iconst 1, 1) := by decide +kernel
theorem q344_101 : decode (zbc 344) 101 = .ok (.if_icmp .ne 16, 3) := by decide +kernel
theorem q344_117 : decode (zbc 344) 117 = .ok (.iconst 0, 1) := by decide +kernel
theorem q344_118 : decode (zbc 344) 118 = .ok (.iastore, 1) := by decide +kernel
theorem q344_119 : decode (zbc 344) 119 = .ok (.iinc 11 1, 3) := by decide +kernel
theorem q344_122 : decode (zbc 344) 122 = .ok (.goto (-51), 3) := by decide +kernel
theorem q344_104 : decode (zbc 344) 104 = .ok (.aload_n 0, 1) := by decide +kernel
theorem q344_105 : decode (zbc 344) 105 = .ok (.bipush 19, 2) := by decide +kernel
theorem q344_107 : decode (zbc 344) 107 = .ok (.iload 11, 2) := by decide +kernel
theorem q344_109 : decode (zbc 344) 109 = .ok (.iload 10, 2) := by decide +kernel
theorem q344_111 : decode (zbc 344) 111 = .ok (.invokestatic 251, 3) := by decide +kernel
theorem wq344_111 {L9 : Nat} {xs9 : Nat → Int32} {N9 : Nat} : z_SC N9 znl zTs (zZ L9 xs9 N9) zyn zbc zrt zfr zlo (fun _ i => i) ztb 344 111 2 335 4 := sc_S (P := fun _ i => i) zTs_good q344_111 kx_1385 kx_1386 kx_31 kx_1387 rfl ⟨by decide, by decide, by decide +kernel⟩ ⟨Nat.le_of_ble_eq_true rfl, Nat.le_of_ble_eq_true rfl⟩
theorem q344_114 : decode (zbc 344) 114 = .ok (.goto 4, 3) := by decide +kernel
theorem tk_i {X : Nat × (Nat → Int32)} {B : Int} {sv : Nat → Int → Int} {u : Int} {h : Nat → Int → Int} {s : Int → Int} {b : WB} {c d : Nat} {F : GM} {Q : WQ} {Y0 : DY} {r1 r2 r3 r4 r5 r6 r7 r8 a12 a13 a14 : Value} (hb1 : c ≤ b.1) (hb2 : d ≤ b.2.1) {y : Nat} (hy : (y : Int) < s 1) (hk : ∀ G D Y (k : Nat), (k : Int) = s 0 → PG B sv u h s G → wFa Y0 144 D Y → stI s D (y : Int) (k : Int) → wW (229, X) 344 b 125 [.ref 192, r1, r2, r3, r4, r5, r6, r7, r8, .ref (1000 + Y0.2.2), .int (zi (y : Int)), .int (zi (k : Int)), a12, a13, a14] [] G F Y c d Q) : ∀ (d9 : Nat) (k : Nat) (D : Int → Int) (Y : DY) (G : GM), s 0 - (k : Int) < (d9 : Int) → (k : Int) ≤ s 0 → PG B sv u h s G → wFa Y0 144 D Y → stI s D (y : Int) (k : Int) → wW (229, X) 344 b 71 [.ref 192, r1, r2, r3, r4, r5, r6, r7, r8, .ref (1000 + Y0.2.2), .int (zi (y : Int)), .int (zi (k : Int)), a12, a13, a14] [] G F Y c d Q := by
  intro d9
  induction d9 with
  | zero =>
    intro k
    intros
    exact absurd (by assumption) (by omega)
  | succ d9 ih =>
      intro k D Y G hd hk9 p har hS
      obtain ⟨a0, a1, -⟩ := id p.ok
      refine wi_iload (i := 11) (pc' := 73) q344_71 rfl rfl ?_
      refine wi_aload_n (i := 0) (pc' := 74) q344_73 rfl rfl rfl ?_
      refine wi_cp (u9 := (229, X)) (pc' := 77) wq344_74 rfl (cQ_width (Nat.le_refl _) p.ok p.hR) (fun _ => ⟨_, _, rfl⟩) rfl rfl (by (try dsimp only); omega) (by (try dsimp only); omega) ?_
      refine wi_icmp_ge (t := 125) (pc' := 80) q344_77 (by decide) rfl (by omega) (by omega) ?_ ?_
      · intro h9
        exact hk G D Y k (by omega) p har hS
      · intro h9
        have hc8 := wOk_p (x := (k : Int)) (y := (y : Int)) p.ok (by omega) (by omega)
        refine wi_aload (i := 9) (pc' := 82) q344_80 rfl rfl ?_
        refine wi_bipush (pc' := 84) q344_82 rfl (by decide) ?_
        refine wi_iload (i := 10) (pc' := 86) q344_84 rfl rfl ?_
        refine wi_imul (pc' := 87) q344_86 rfl ?_
        refine wi_iload (i := 11) (pc' := 89) q344_87 rfl rfl ?_
        refine wi_iadd (pc' := 90) q344_89 rfl ?_
        refine wi_aload_n (i := 0) (pc' := 91) q344_90 rfl rfl rfl ?_
        refine wi_bipush (pc' := 93) q344_91 rfl (by decide) ?_
        refine wi_iload (i := 11) (pc' := 95) q344_93 rfl rfl ?_
        refine wi_iload (i := 10) (pc' := 97) q344_95 rfl rfl ?_
        refine wi_cv (u9 := (229, X)) (pc' := 100) wq344_97 rfl (cL_s3 (pL_isPlank p (by omega) (by omega)) zLc_i) (fun h => absurd h (by decide)) rfl rfl (vL_isPlank (s := s) (x := (k : Int)) (y := (y : Int)) (by omega) (by omega)).1 (by (try dsimp only); omega) (by (try dsimp only); omega) ?_
        intro Gp1 p1
        rw [(vL_isPlank (s := s) (x := (k : Int)) (y := (y : Int)) (by omega) (by omega)).2]
        refine wi_iconst (pc' := 101) q344_100 rfl ?_
        refine wi_icmp_ne (t := 117) (pc' := 104) q344_101 (by decide) rfl zr_zb (by omega) ?_ ?_
        · intro h8
          have hp8 : ¬ 10 < s (30 + 12 * (y : Int) + (k : Int)) := fun h => h8 (zb_t h)
          refine wi_iconst (pc' := 118) q344_117 rfl ?_
          refine wi_faset (pc' := 119) q344_118 rfl har ⟨by omega, by omega⟩ (by omega) (by omega) ?_
          intro Y1 hY1
          refine wi_iinc11 (pc' := 122) q344_119 rfl rfl (Or.inr rfl) ?_
          refine wi_goto (t := 71) q344_122 (by decide) ?_
          rw [show ((k : Int) + 1) = ((k + 1 : Nat) : Int) by omega]
          exact ih (k + 1) _ _ _ (by omega) (by omega) p1 hY1 (stI_put hS (by omega) (by omega) (by unfold stS; rw [if_neg hp8]))
        · intro h8
          have hp8 : 10 < s (30 + 12 * (y : Int) + (k : Int)) := zb_one.mp h8
          refine wi_aload_n (i := 0) (pc' := 105) q344_104 rfl rfl rfl ?_
          refine wi_bipush (pc' := 107) q344_105 rfl (by decide) ?_
          refine wi_iload (i := 11) (pc' := 109) q344_107 rfl rfl ?_
          refine wi_iload (i := 10) (pc' := 111) q344_109 rfl rfl ?_
          refine wi_cv (u9 := (229, X)) (pc' := 114) wq344_111 rfl (cL_s3 (pL_plankStrength p1  (by omega) (by omega)) zLc_i) (fun h => absurd h (by decide)) rfl rfl (vL_strength (x := (k : Int)) (y := (y : Int)) p1.ok (by omega) (by omega) hp8).1 (by (try dsimp only); omega) (by (try dsimp only); omega) ?_
          intro Gp2 p2
          rw [(vL_strength (x := (k : Int)) (y := (y : Int)) p1.ok (by omega) (by omega) hp8).2]
          refine wi_goto (t := 118) q344_114 (by decide) ?_
          refine wi_faset (pc' := 119) q344_118 rfl har ⟨by omega, by omega⟩ (by omega) (by omega) ?_
          intro Y2 hY2
          refine wi_iinc11 (pc' := 122) q344_119 rfl rfl (Or.inr rfl) ?_
          refine wi_goto (t := 71) q344_122 (by decide) ?_
          rw [show ((k : Int) + 1) = ((k + 1 : Nat) : Int) by omega]
          exact ih (k + 1) _ _ _ (by omega) (by omega) p2 hY2 (stI_put hS (by omega) (by omega) (by unfold stS; rw [if_pos hp8]))
theorem q344_59 : decode (zbc 344) 59 = .ok (.iload 10, 2) := by decide +kernel
theorem q344_61 : decode (zbc 344) 61 = .ok (.aload_n 0, 1) := by decide +kernel
theorem q344_62 : decode (zbc 344) 62 = .ok (.invokevirtual 236, 3) := by decide +kernel
theorem wq344_62 {L9 : Nat} {xs9 : Nat → Int32} {N9 : Nat} : z_SC N9 znl zTs (zZ L9 xs9 N9) zyn zbc zrt zfr zlo (fun _ i => i) ztb 344 62 3 207 1 := sc_V (P := fun _ i => i) (n' := 0) zTs_good q344_62 kx_513 kx_514 kx_515 kx_32 kx_516 rfl ⟨by decide, by decide, by decide +kernel⟩ rfl ⟨Nat.le_of_ble_eq_true rfl, Nat.le_of_ble_eq_true rfl⟩
theorem q344_65 : decode (zbc 344) 65 = .ok (.if_icmp .ge 66, 3) := by decide +kernel
theorem q344_68 : decode (zbc 344) 68 = .ok (.iconst 0, 1) := by decide +kernel
theorem q344_69 : decode (zbc 344) 69 = .ok (.istore 11, 2) := by decide +kernel
theorem q344_125 : decode (zbc 344) 125 = .ok (.iinc 10 1, 3) := by decide +kernel
theorem q344_128 : decode (zbc 344) 128 = .ok (.goto (-69), 3) := by decide +kernel
theorem tk_o {X : Nat × (Nat → Int32)} {B : Int} {sv : Nat → Int → Int} {u : Int} {h : Nat → Int → Int} {s : Int → Int} {b : WB} {c d : Nat} {F : GM} {Q : WQ} {Y0 : DY} {r1 r2 r3 r4 r5 r6 r7 r8 a12 a13 a14 : Value} (hb1 : c ≤ b.1) (hb2 : d ≤ b.2.1) (hk : ∀ G D Y (k : Nat) (a11 : Value), (k : Int) = s 1 → PG B sv u h s G → wFa Y0 144 D Y → stI s D (k : Int) 0 → wW (229, X) 344 b 131 [.ref 192, r1, r2, r3, r4, r5, r6, r7, r8, .ref (1000 + Y0.2.2), .int (zi (k : Int)), a11, a12, a13, a14] [] G F Y c d Q) : ∀ (d9 : Nat) (k : Nat) (D : Int → Int) (Y : DY) (a11 : Value) (G : GM), s 1 - (k : Int) < (d9 : Int) → (k : Int) ≤ s 1 → PG B sv u h s G → wFa Y0 144 D Y → stI s D (k : Int) 0 → wW (229, X) 344 b 59 [.ref 192, r1, r2, r3, r4, r5, r6, r7, r8, .ref (1000 + Y0.2.2), .int (zi (k : Int)), a11, a12, a13, a14] [] G F Y c d Q := by
  intro d9
  induction d9 with
  | zero =>
    intro k
    intros
    exact absurd (by assumption) (by omega)
  | succ d9 ih =>
      intro k D Y a11 G hd hk9 p har hS
      obtain ⟨a0, a1, -⟩ := id p.ok
      refine wi_iload (i := 10) (pc' := 61) q344_59 rfl rfl ?_
      refine wi_aload_n (i := 0) (pc' := 62) q344_61 rfl rfl rfl ?_
      refine wi_cp (u9 := (229, X)) (pc' := 65) wq344_62 rfl (cQ_height (Nat.le_refl _) p.ok p.hR) (fun _ => ⟨_, _, rfl⟩) rfl rfl (by (try dsimp only); omega) (by (try dsimp only); omega) ?_
      refine wi_icmp_ge (t := 131) (pc' := 68) q344_65 (by decide) rfl (by omega) (by omega) ?_ ?_
      · intro h9
        exact hk G D Y k a11 (by omega) p har hS
      · intro h9
        refine wi_iconst (pc' := 69) q344_68 rfl ?_
        refine wi_istore11 (pc' := 71) q344_69 rfl rfl (Or.inr rfl) ?_
        refine tk_i (y := k) hb1 hb2 (by omega) ?_ 99 0 _ _ _ (by omega) (by omega) p har hS
        intro G9 D9 Y9 k2 hk2 p9 har9 hS9
        refine wi_iinc10 (pc' := 128) q344_125 rfl rfl (Or.inr rfl) ?_
        refine wi_goto (t := 59) q344_128 (by decide) ?_
        rw [show ((k : Int) + 1) = ((k + 1 : Nat) : Int) by omega]
        have h7 := stI_nx hS9 hk2
        rw [show ((k : Int) + 1) = ((k + 1 : Nat) : Int) by omega] at h7
        exact ih (k + 1) _ _ _ _ (by omega) (by omega) p9 har9 h7
