/-! The law's lights(x). -/
section CLV
variable {s : Int → Int} {l t : Int}
theorem vL_tgtIn (hok : mOk s) (ht : 0 ≤ t ∧ t < s 5) (hs : 0 ≤ s (214 + 7 * t + 3)) : (q_target s t).1 = 0 ∧ zN [3, 2] ((q_target s t).1, gI (q_target s t).2) = s (214 + 7 * t + 3) := zN_v ((if_pos ⟨by omega, by omega⟩).trans (if_neg (by omega))) (by
  obtain ⟨a, b, -, c, -⟩ := wOk_w hok ht
  obtain ⟨-, -, -, -, a4, -⟩ := hok
  exact ⟨by omega, by omega⟩)
theorem vL_astray (hl : 0 ≤ l ∧ l < s 4) : (q_leadsAstray s l).1 = 0 ∧ zN [3] ((q_leadsAstray s l).1, gZ (q_leadsAstray s l).2) = sAst s 9 l 0 := by
  have e : q_leadsAstray s l = (0, sAst s 9 l 0) := if_pos ⟨by omega, by omega⟩
  rcases sAst_01 s 9 l 0 with h | h
  · have := zN_b (ex := [3]) (q := q_leadsAstray s l) (p := False) (by rw [e, h]; rfl)
    rw [h]
    exact this
  · have := zN_b (ex := [3]) (q := q_leadsAstray s l) (p := True) (by rw [e, h]; rfl)
    rw [h]
    exact this
theorem vL_followers (hok : mOk s) (hl : 0 ≤ l ∧ l < s 4) : (q_followers s l).1 = 0 ∧ zN [3] ((q_followers s l).1, gI (q_followers s l).2) = zcnt (fun w => s (214 + 7 * w + 2) = 0 ∧ s (214 + 7 * w + 3) = l) (s 5).toNat := zN_v (if_pos ⟨by omega, by omega⟩) (by
  have h := zcnt_rng (fun w => s (214 + 7 * w + 2) = 0 ∧ s (214 + 7 * w + 3) = l) (s 5).toNat
  obtain ⟨-, -, -, -, -, a5, -⟩ := hok
  exact ⟨by omega, by omega⟩)
theorem vL_lightOut {f : Int} (h : ¬ (0 ≤ l ∧ l ≤ s 4 - 1)) : zN [3] ((q_light s l f).1, gI (q_light s l f).2) = -104 := zN_x (c := 0) (k := 3) (by rw [show q_light s l f = (1, 0) from if_neg h]; rfl) rfl
theorem vL_astrayOut (h : ¬ (0 ≤ l ∧ l ≤ s 4 - 1)) : zN [3] ((q_leadsAstray s l).1, gZ (q_leadsAstray s l).2) = -104 := zN_x (c := 0) (k := 3) (by rw [show q_leadsAstray s l = (1, 0) from if_neg h]; rfl) rfl
theorem vL_succOut (h : ¬ (0 ≤ l ∧ l ≤ s 4 - 1)) : zN [3, 2] ((q_successor s l).1, gI (q_successor s l).2) = -104 := zN_x (c := 0) (k := 3) (by rw [show q_successor s l = (1, 0) from if_neg h]; rfl) rfl
end CLV
theorem q342_73 : decode (zbc 342) 73 = .ok (.iload 4, 2) := by decide +kernel
theorem q342_75 : decode (zbc 342) 75 = .ok (.ifCond .lt 75, 3) := by decide +kernel
theorem q342_78 : decode (zbc 342) 78 = .ok (.iload 6, 2) := by decide +kernel
theorem q342_80 : decode (zbc 342) 80 = .ok (.ifCond .ne 70, 3) := by decide +kernel
theorem q342_83 : decode (zbc 342) 83 = .ok (.aload_n 0, 1) := by decide +kernel
theorem q342_84 : decode (zbc 342) 84 = .ok (.bipush 26, 2) := by decide +kernel
theorem q342_86 : decode (zbc 342) 86 = .ok (.iload 4, 2) := by decide +kernel
theorem q342_88 : decode (zbc 342) 88 = .ok (.invokestatic 185, 3) := by decide +kernel
theorem wq342_88 {L9 : Nat} {xs9 : Nat → Int32} {N9 : Nat} : z_SC N9 znl zTs (zZ L9 xs9 N9) zyn zbc zrt zfr zlo (fun _ i => i) ztb 342 88 2 336 3 := sc_S (P := fun _ i => i) zTs_good q342_88 kx_545 kx_546 kx_31 kx_547 rfl ⟨by decide, by decide, by decide +kernel⟩ ⟨Nat.le_of_ble_eq_true rfl, Nat.le_of_ble_eq_true rfl⟩
theorem q342_91 : decode (zbc 342) 91 = .ok (.ifCond .eq 14, 3) := by decide +kernel
theorem q342_105 : decode (zbc 342) 105 = .ok (.iconst 1, 1) := by decide +kernel
theorem q342_106 : decode (zbc 342) 106 = .ok (.goto 4, 3) := by decide +kernel
theorem q342_110 : decode (zbc 342) 110 = .ok (.istore 6, 2) := by decide +kernel
theorem q342_112 : decode (zbc 342) 112 = .ok (.iload 5, 2) := by decide +kernel
theorem q342_114 : decode (zbc 342) 114 = .ok (.iconst 1, 1) := by decide +kernel
theorem q342_115 : decode (zbc 342) 115 = .ok (.iload 4, 2) := by decide +kernel
theorem q342_117 : decode (zbc 342) 117 = .ok (.ishl, 1) := by decide +kernel
theorem q342_118 : decode (zbc 342) 118 = .ok (.ior, 1) := by decide +kernel
theorem q342_119 : decode (zbc 342) 119 = .ok (.istore 5, 2) := by decide +kernel
theorem q342_121 : decode (zbc 342) 121 = .ok (.aload_n 0, 1) := by decide +kernel
theorem q342_122 : decode (zbc 342) 122 = .ok (.bipush 27, 2) := by decide +kernel
theorem q342_124 : decode (zbc 342) 124 = .ok (.iload 4, 2) := by decide +kernel
theorem q342_126 : decode (zbc 342) 126 = .ok (.invokestatic 185, 3) := by decide +kernel
theorem wq342_126 {L9 : Nat} {xs9 : Nat → Int32} {N9 : Nat} : z_SC N9 znl zTs (zZ L9 xs9 N9) zyn zbc zrt zfr zlo (fun _ i => i) ztb 342 126 2 336 3 := sc_S (P := fun _ i => i) zTs_good q342_126 kx_545 kx_546 kx_31 kx_547 rfl ⟨by decide, by decide, by decide +kernel⟩ ⟨Nat.le_of_ble_eq_true rfl, Nat.le_of_ble_eq_true rfl⟩
theorem q342_129 : decode (zbc 342) 129 = .ok (.iconst 1, 1) := by decide +kernel
theorem q342_130 : decode (zbc 342) 130 = .ok (.if_icmp .ne 14, 3) := by decide +kernel
theorem q342_144 : decode (zbc 342) 144 = .ok (.iconst (-1), 1) := by decide +kernel
theorem q342_145 : decode (zbc 342) 145 = .ok (.istore 4, 2) := by decide +kernel
theorem q342_147 : decode (zbc 342) 147 = .ok (.goto (-74), 3) := by decide +kernel
theorem q342_133 : decode (zbc 342) 133 = .ok (.aload_n 0, 1) := by decide +kernel
theorem q342_134 : decode (zbc 342) 134 = .ok (.bipush 28, 2) := by decide +kernel
theorem q342_136 : decode (zbc 342) 136 = .ok (.iload 4, 2) := by decide +kernel
theorem q342_138 : decode (zbc 342) 138 = .ok (.invokestatic 185, 3) := by decide +kernel
theorem wq342_138 {L9 : Nat} {xs9 : Nat → Int32} {N9 : Nat} : z_SC N9 znl zTs (zZ L9 xs9 N9) zyn zbc zrt zfr zlo (fun _ i => i) ztb 342 138 2 336 3 := sc_S (P := fun _ i => i) zTs_good q342_138 kx_545 kx_546 kx_31 kx_547 rfl ⟨by decide, by decide, by decide +kernel⟩ ⟨Nat.le_of_ble_eq_true rfl, Nat.le_of_ble_eq_true rfl⟩
theorem q342_141 : decode (zbc 342) 141 = .ok (.goto 4, 3) := by decide +kernel
theorem q342_94 : decode (zbc 342) 94 = .ok (.iload 5, 2) := by decide +kernel
theorem q342_96 : decode (zbc 342) 96 = .ok (.iload 4, 2) := by decide +kernel
theorem q342_98 : decode (zbc 342) 98 = .ok (.ishr, 1) := by decide +kernel
theorem q342_99 : decode (zbc 342) 99 = .ok (.iconst 1, 1) := by decide +kernel
theorem q342_100 : decode (zbc 342) 100 = .ok (.iand, 1) := by decide +kernel
theorem q342_101 : decode (zbc 342) 101 = .ok (.iconst 1, 1) := by decide +kernel
theorem q342_102 : decode (zbc 342) 102 = .ok (.if_icmp .ne 7, 3) := by decide +kernel
theorem q342_109 : decode (zbc 342) 109 = .ok (.iconst 0, 1) := by decide +kernel
theorem li_a {X : Nat × (Nat → Int32)} {B : Int} {sv : Nat → Int → Int} {u : Int} {h : Nat → Int → Int} {s : Int → Int} {b : WB} {c d : Nat} {F : GM} {Y : DY} {Q : WQ} (hb1 : c ≤ b.1) (hb2 : d ≤ b.2.1) {a7 a8 : Value} {l : Nat} (hk : ∀ G at9 seen, PG B sv u h s G → wW (229, X) 342 b 150 [.ref 192, .int (zi (s 4)), .int (zi 1), .int (zi (l : Int)), .int (zi at9), .int (zi seen), .int (zi (sAst s 9 (l : Int) 0)), a7, a8] [] G F Y c d Q) : ∀ (f : Nat) (at9 seen : Int) (G : GM), (-1 ≤ at9 ∧ at9 < s 4) → 9 ≤ zcnt (zSn seen) 8 + (f : Int) → sAst s 9 (l : Int) 0 = sAst s f at9 seen → PG B sv u h s G → wW (229, X) 342 b 73 [.ref 192, .int (zi (s 4)), .int (zi 1), .int (zi (l : Int)), .int (zi at9), .int (zi seen), .int (zi 0), a7, a8] [] G F Y c d Q := by
  intro f
  induction f with
  | zero =>
    intro at9 seen G hat hse
    have := zcnt_rng (zSn seen) 8
    omega
  | succ f ih =>
      intro at9 seen G hat hse hA p
      have a4 := p.ok.2.2.2.2.1
      refine wi_iload (i := 4) (pc' := 75) q342_73 rfl rfl ?_
      refine wi_if_lt (t := 150) (pc' := 78) q342_75 (by decide) rfl (by omega) ?_ ?_
      · intro h9
        have e9 : sAst s 9 (l : Int) 0 = 0 := hA.trans (if_pos h9)
        have := hk G at9 seen p
        rw [e9] at this
        exact this
      · intro h9
        have hl9 := mOk_lt p.ok (l := at9) (by omega) (by omega)
        obtain ⟨l1, l2, l3, l4, l5⟩ := hl9
        have l6 := (p.ok.2.2.2.2.2.2.2.2.1 at9 (by omega) (by omega)).2.2.2.2.2
        have e9 : sAst s 9 (l : Int) 0 = _ := hA.trans (if_neg (by omega))
        refine wi_iload (i := 6) (pc' := 80) q342_78 rfl rfl ?_
        refine wi_if_ne (t := 150) (pc' := 83) q342_80 (by decide) rfl (by omega) (fun h1 => absurd h1 (by omega)) (fun h1 => ?_)
        refine wi_aload_n (i := 0) (pc' := 84) q342_83 rfl rfl rfl ?_
        refine wi_bipush (pc' := 86) q342_84 rfl (by decide) ?_
        refine wi_iload (i := 4) (pc' := 88) q342_86 rfl rfl ?_
        refine wi_cv (u9 := (229, X)) (pc' := 91) wq342_88 rfl (cL_s2 (pL_isTrueLight p (by omega)) zLc_i) (fun h => absurd h (by decide)) rfl rfl (vL_isTrue (s := s) (l := at9) (by omega)).1 (by (try dsimp only); omega) (by (try dsimp only); omega) ?_
        intro Gp1 p1
        rw [(vL_isTrue (s := s) (l := at9) (by omega)).2]
        refine wi_if_eq (t := 105) (pc' := 94) q342_91 (by decide) rfl zr_zb ?_ ?_
        · intro h8
          have hf8 : s (174 + 5 * at9 + 3) = 0 := by
            have : s (174 + 5 * at9 + 3) ≠ 1 := fun h => by rw [zb_t h] at h8; omega
            omega
          have e9 : sAst s 9 (l : Int) 0 = 1 := e9.trans (if_pos (Or.inl hf8))
          refine wi_iconst (pc' := 106) q342_105 rfl ?_
          refine wi_goto (t := 110) q342_106 (by decide) ?_
          refine wi_istore6 (pc' := 112) q342_110 rfl rfl (Or.inr rfl) ?_
          refine wi_iload (i := 5) (pc' := 114) q342_112 rfl rfl ?_
          refine wi_iconst (pc' := 115) q342_114 rfl ?_
          refine wi_iload (i := 4) (pc' := 117) q342_115 rfl rfl ?_
          refine wi_ishl (pc' := 118) q342_117 rfl ?_
          refine wi_ior (pc' := 119) q342_118 rfl ?_
          rw [show zor seen (zshl 1 at9) = zadd seen at9 from rfl]
          refine wi_istore5 (pc' := 121) q342_119 rfl rfl (Or.inr rfl) ?_
          refine wi_aload_n (i := 0) (pc' := 122) q342_121 rfl rfl rfl ?_
          refine wi_bipush (pc' := 124) q342_122 rfl (by decide) ?_
          refine wi_iload (i := 4) (pc' := 126) q342_124 rfl rfl ?_
          refine wi_cv (u9 := (229, X)) (pc' := 129) wq342_126 rfl (cL_s2 (pL_hasSuccessor p1 (by omega)) zLc_i) (fun h => absurd h (by decide)) rfl rfl (vL_hasSucc (s := s) (l := at9) (by omega)).1 (by (try dsimp only); omega) (by (try dsimp only); omega) ?_
          intro Gp2 p2
          rw [(vL_hasSucc (s := s) (l := at9) (by omega)).2]
          refine wi_iconst (pc' := 130) q342_129 rfl ?_
          refine wi_icmp_ne (t := 144) (pc' := 133) q342_130 (by decide) rfl zr_zb (by omega) ?_ ?_
          · intro h8
            have hp8 : ¬ 0 ≤ s (174 + 5 * at9 + 4) := fun h => h8 (zb_one.mpr h)
            refine wi_iconst (pc' := 145) q342_144 rfl ?_
            refine wi_istore4 (pc' := 147) q342_145 rfl rfl (Or.inr rfl) ?_
            refine wi_goto (t := 73) q342_147 (by decide) ?_
            rw [show (-1 : Int) = s (174 + 5 * at9 + 4) by omega]
            refine wi_iload (i := 4) (pc' := 75) q342_73 rfl rfl ?_
            refine wi_if_lt (t := 150) (pc' := 78) q342_75 (by decide) rfl (by omega) ?_ ?_
            · intro _
              have := hk _ (s (174 + 5 * at9 + 4)) (zadd seen at9) p2
              rw [e9] at this
              exact this
            · intro _
              refine wi_iload (i := 6) (pc' := 80) q342_78 rfl rfl ?_
              refine wi_if_ne (t := 150) (pc' := 83) q342_80 (by decide) rfl (by omega) (fun h2 => ?_) (fun h2 => absurd h2 (by omega))
              have := hk _ (s (174 + 5 * at9 + 4)) (zadd seen at9) p2
              rw [e9] at this
              exact this
          · intro h8
            have hp8 : 0 ≤ s (174 + 5 * at9 + 4) := zb_one.mp h8
            refine wi_aload_n (i := 0) (pc' := 134) q342_133 rfl rfl rfl ?_
            refine wi_bipush (pc' := 136) q342_134 rfl (by decide) ?_
            refine wi_iload (i := 4) (pc' := 138) q342_136 rfl rfl ?_
            refine wi_cv (u9 := (229, X)) (pc' := 141) wq342_138 rfl (cL_s2 (pL_successor p2 (by omega)) zLc_i) (fun h => absurd h (by decide)) rfl rfl (vL_succ (l := at9) p2.ok (by omega) hp8).1 (by (try dsimp only); omega) (by (try dsimp only); omega) ?_
            intro Gp3 p3
            rw [(vL_succ (l := at9) p2.ok (by omega) hp8).2]
            refine wi_goto (t := 145) q342_141 (by decide) ?_
            refine wi_istore4 (pc' := 147) q342_145 rfl rfl (Or.inr rfl) ?_
            refine wi_goto (t := 73) q342_147 (by decide) ?_
            refine wi_iload (i := 4) (pc' := 75) q342_73 rfl rfl ?_
            refine wi_if_lt (t := 150) (pc' := 78) q342_75 (by decide) rfl (by omega) ?_ ?_
            · intro _
              have := hk _ (s (174 + 5 * at9 + 4)) (zadd seen at9) p3
              rw [e9] at this
              exact this
            · intro _
              refine wi_iload (i := 6) (pc' := 80) q342_78 rfl rfl ?_
              refine wi_if_ne (t := 150) (pc' := 83) q342_80 (by decide) rfl (by omega) (fun h3 => ?_) (fun h3 => absurd h3 (by omega))
              have := hk _ (s (174 + 5 * at9 + 4)) (zadd seen at9) p3
              rw [e9] at this
              exact this
        · intro h8
          have hf8 : s (174 + 5 * at9 + 3) = 1 := Decidable.byContradiction (fun h => h8 (zb_f h))
          have h01 := zhas_01 seen at9
          refine wi_iload (i := 5) (pc' := 96) q342_94 rfl rfl ?_
          refine wi_iload (i := 4) (pc' := 98) q342_96 rfl rfl ?_
          refine wi_ishr (pc' := 99) q342_98 rfl ?_
          refine wi_iconst (pc' := 100) q342_99 rfl ?_
          refine wi_iand (pc' := 101) q342_100 rfl ?_
          refine wi_iconst (pc' := 102) q342_101 rfl ?_
          refine wi_icmp_ne (t := 109) (pc' := 105) q342_102 (by decide) rfl (by omega) (by omega) ?_ ?_
          · intro h7
            have hns : ¬ zhas seen at9 := h7
            have e9 : sAst s 9 (l : Int) 0 = sAst s f (s (174 + 5 * at9 + 4)) (zadd seen at9) := e9.trans (if_neg (fun h => h.elim (fun h => by omega) hns))
            refine wi_iconst (pc' := 110) q342_109 rfl ?_
            refine wi_istore6 (pc' := 112) q342_110 rfl rfl (Or.inr rfl) ?_
            refine wi_iload (i := 5) (pc' := 114) q342_112 rfl rfl ?_
            refine wi_iconst (pc' := 115) q342_114 rfl ?_
            refine wi_iload (i := 4) (pc' := 117) q342_115 rfl rfl ?_
            refine wi_ishl (pc' := 118) q342_117 rfl ?_
            refine wi_ior (pc' := 119) q342_118 rfl ?_
            rw [show zor seen (zshl 1 at9) = zadd seen at9 from rfl]
            refine wi_istore5 (pc' := 121) q342_119 rfl rfl (Or.inr rfl) ?_
            refine wi_aload_n (i := 0) (pc' := 122) q342_121 rfl rfl rfl ?_
            refine wi_bipush (pc' := 124) q342_122 rfl (by decide) ?_
            refine wi_iload (i := 4) (pc' := 126) q342_124 rfl rfl ?_
            refine wi_cv (u9 := (229, X)) (pc' := 129) wq342_126 rfl (cL_s2 (pL_hasSuccessor p1 (by omega)) zLc_i) (fun h => absurd h (by decide)) rfl rfl (vL_hasSucc (s := s) (l := at9) (by omega)).1 (by (try dsimp only); omega) (by (try dsimp only); omega) ?_
            intro Gp4 p4
            rw [(vL_hasSucc (s := s) (l := at9) (by omega)).2]
            refine wi_iconst (pc' := 130) q342_129 rfl ?_
            refine wi_icmp_ne (t := 144) (pc' := 133) q342_130 (by decide) rfl zr_zb (by omega) ?_ ?_
            · intro h8
              have hp8 : ¬ 0 ≤ s (174 + 5 * at9 + 4) := fun h => h8 (zb_one.mpr h)
              refine wi_iconst (pc' := 145) q342_144 rfl ?_
              refine wi_istore4 (pc' := 147) q342_145 rfl rfl (Or.inr rfl) ?_
              refine wi_goto (t := 73) q342_147 (by decide) ?_
              rw [show (-1 : Int) = s (174 + 5 * at9 + 4) by omega]
              exact ih _ _ _ (by omega) (by rw [zSn_add (by omega) (by omega) hns]; omega) e9 p4
            · intro h8
              have hp8 : 0 ≤ s (174 + 5 * at9 + 4) := zb_one.mp h8
              refine wi_aload_n (i := 0) (pc' := 134) q342_133 rfl rfl rfl ?_
              refine wi_bipush (pc' := 136) q342_134 rfl (by decide) ?_
              refine wi_iload (i := 4) (pc' := 138) q342_136 rfl rfl ?_
              refine wi_cv (u9 := (229, X)) (pc' := 141) wq342_138 rfl (cL_s2 (pL_successor p4 (by omega)) zLc_i) (fun h => absurd h (by decide)) rfl rfl (vL_succ (l := at9) p4.ok (by omega) hp8).1 (by (try dsimp only); omega) (by (try dsimp only); omega) ?_
              intro Gp5 p5
              rw [(vL_succ (l := at9) p4.ok (by omega) hp8).2]
              refine wi_goto (t := 145) q342_141 (by decide) ?_
              refine wi_istore4 (pc' := 147) q342_145 rfl rfl (Or.inr rfl) ?_
              refine wi_goto (t := 73) q342_147 (by decide) ?_
              exact ih _ _ _ (by omega) (by rw [zSn_add (by omega) (by omega) hns]; omega) e9 p5
          · intro h7
            have e9 : sAst s 9 (l : Int) 0 = 1 := e9.trans (if_pos (Or.inr h7))
            refine wi_iconst (pc' := 106) q342_105 rfl ?_
            refine wi_goto (t := 110) q342_106 (by decide) ?_
            refine wi_istore6 (pc' := 112) q342_110 rfl rfl (Or.inr rfl) ?_
            refine wi_iload (i := 5) (pc' := 114) q342_112 rfl rfl ?_
            refine wi_iconst (pc' := 115) q342_114 rfl ?_
            refine wi_iload (i := 4) (pc' := 117) q342_115 rfl rfl ?_
            refine wi_ishl (pc' := 118) q342_117 rfl ?_
            refine wi_ior (pc' := 119) q342_118 rfl ?_
            rw [show zor seen (zshl 1 at9) = zadd seen at9 from rfl]
            refine wi_istore5 (pc' := 121) q342_119 rfl rfl (Or.inr rfl) ?_
            refine wi_aload_n (i := 0) (pc' := 122) q342_121 rfl rfl rfl ?_
            refine wi_bipush (pc' := 124) q342_122 rfl (by decide) ?_
            refine wi_iload (i := 4) (pc' := 126) q342_124 rfl rfl ?_
            refine wi_cv (u9 := (229, X)) (pc' := 129) wq342_126 rfl (cL_s2 (pL_hasSuccessor p1 (by omega)) zLc_i) (fun h => absurd h (by decide)) rfl rfl (vL_hasSucc (s := s) (l := at9) (by omega)).1 (by (try dsimp only); omega) (by (try dsimp only); omega) ?_
            intro Gp6 p6
            rw [(vL_hasSucc (s := s) (l := at9) (by omega)).2]
            refine wi_iconst (pc' := 130) q342_129 rfl ?_
            refine wi_icmp_ne (t := 144) (pc' := 133) q342_130 (by decide) rfl zr_zb (by omega) ?_ ?_
            · intro h8
              have hp8 : ¬ 0 ≤ s (174 + 5 * at9 + 4) := fun h => h8 (zb_one.mpr h)
              refine wi_iconst (pc' := 145) q342_144 rfl ?_
              refine wi_istore4 (pc' := 147) q342_145 rfl rfl (Or.inr rfl) ?_
              refine wi_goto (t := 73) q342_147 (by decide) ?_
              rw [show (-1 : Int) = s (174 + 5 * at9 + 4) by omega]
              refine wi_iload (i := 4) (pc' := 75) q342_73 rfl rfl ?_
              refine wi_if_lt (t := 150) (pc' := 78) q342_75 (by decide) rfl (by omega) ?_ ?_
              · intro _
                have := hk _ (s (174 + 5 * at9 + 4)) (zadd seen at9) p6
                rw [e9] at this
                exact this
              · intro _
                refine wi_iload (i := 6) (pc' := 80) q342_78 rfl rfl ?_
                refine wi_if_ne (t := 150) (pc' := 83) q342_80 (by decide) rfl (by omega) (fun h4 => ?_) (fun h4 => absurd h4 (by omega))
                have := hk _ (s (174 + 5 * at9 + 4)) (zadd seen at9) p6
                rw [e9] at this
                exact this
            · intro h8
              have hp8 : 0 ≤ s (174 + 5 * at9 + 4) := zb_one.mp h8
              refine wi_aload_n (i := 0) (pc' := 134) q342_133 rfl rfl rfl ?_
              refine wi_bipush (pc' := 136) q342_134 rfl (by decide) ?_
              refine wi_iload (i := 4) (pc' := 138) q342_136 rfl rfl ?_
              refine wi_cv (u9 := (229, X)) (pc' := 141) wq342_138 rfl (cL_s2 (pL_successor p6 (by omega)) zLc_i) (fun h => absurd h (by decide)) rfl rfl (vL_succ (l := at9) p6.ok (by omega) hp8).1 (by (try dsimp only); omega) (by (try dsimp only); omega) ?_
              intro Gp7 p7
              rw [(vL_succ (l := at9) p6.ok (by omega) hp8).2]
              refine wi_goto (t := 145) q342_141 (by decide) ?_
              refine wi_istore4 (pc' := 147) q342_145 rfl rfl (Or.inr rfl) ?_
              refine wi_goto (t := 73) q342_147 (by decide) ?_
              refine wi_iload (i := 4) (pc' := 75) q342_73 rfl rfl ?_
              refine wi_if_lt (t := 150) (pc' := 78) q342_75 (by decide) rfl (by omega) ?_ ?_
              · intro _
                have := hk _ (s (174 + 5 * at9 + 4)) (zadd seen at9) p7
                rw [e9] at this
                exact this
              · intro _
                refine wi_iload (i := 6) (pc' := 80) q342_78 rfl rfl ?_
                refine wi_if_ne (t := 150) (pc' := 83) q342_80 (by decide) rfl (by omega) (fun h5 => ?_) (fun h5 => absurd h5 (by omega))
                have := hk _ (s (174 + 5 * at9 + 4)) (zadd seen at9) p7
                rw [e9] at this
                exact this
theorem q342_156 : decode (zbc 342) 156 = .ok (.iload 8, 2) := by decide +kernel
theorem q342_158 : decode (zbc 342) 158 = .ok (.aload_n 0, 1) := by decide +kernel
theorem q342_159 : decode (zbc 342) 159 = .ok (.invokevirtual 257, 3) := by decide +kernel
theorem wq342_159 {L9 : Nat} {xs9 : Nat → Int32} {N9 : Nat} : z_SC N9 znl zTs (zZ L9 xs9 N9) zyn zbc zrt zfr zlo (fun _ i => i) ztb 342 159 3 228 1 := sc_V (P := fun _ i => i) (n' := 0) zTs_good q342_159 kx_541 kx_542 kx_543 kx_32 kx_544 rfl ⟨by decide, by decide, by decide +kernel⟩ rfl ⟨Nat.le_of_ble_eq_true rfl, Nat.le_of_ble_eq_true rfl⟩
theorem q342_162 : decode (zbc 342) 162 = .ok (.if_icmp .ge 48, 3) := by decide +kernel
theorem q342_165 : decode (zbc 342) 165 = .ok (.aload_n 0, 1) := by decide +kernel
theorem q342_166 : decode (zbc 342) 166 = .ok (.bipush 33, 2) := by decide +kernel
theorem q342_168 : decode (zbc 342) 168 = .ok (.iload 8, 2) := by decide +kernel
theorem q342_170 : decode (zbc 342) 170 = .ok (.invokestatic 185, 3) := by decide +kernel
theorem wq342_170 {L9 : Nat} {xs9 : Nat → Int32} {N9 : Nat} : z_SC N9 znl zTs (zZ L9 xs9 N9) zyn zbc zrt zfr zlo (fun _ i => i) ztb 342 170 2 336 3 := sc_S (P := fun _ i => i) zTs_good q342_170 kx_545 kx_546 kx_31 kx_547 rfl ⟨by decide, by decide, by decide +kernel⟩ ⟨Nat.le_of_ble_eq_true rfl, Nat.le_of_ble_eq_true rfl⟩
theorem q342_173 : decode (zbc 342) 173 = .ok (.iconst 1, 1) := by decide +kernel
theorem q342_174 : decode (zbc 342) 174 = .ok (.if_icmp .ne 30, 3) := by decide +kernel
theorem q342_204 : decode (zbc 342) 204 = .ok (.iinc 8 1, 3) := by decide +kernel
theorem q342_207 : decode (zbc 342) 207 = .ok (.goto (-51), 3) := by decide +kernel
theorem q342_177 : decode (zbc 342) 177 = .ok (.aload_n 0, 1) := by decide +kernel
theorem q342_178 : decode (zbc 342) 178 = .ok (.bipush 37, 2) := by decide +kernel
theorem q342_180 : decode (zbc 342) 180 = .ok (.iload 8, 2) := by decide +kernel
theorem q342_182 : decode (zbc 342) 182 = .ok (.invokestatic 185, 3) := by decide +kernel
theorem wq342_182 {L9 : Nat} {xs9 : Nat → Int32} {N9 : Nat} : z_SC N9 znl zTs (zZ L9 xs9 N9) zyn zbc zrt zfr zlo (fun _ i => i) ztb 342 182 2 336 3 := sc_S (P := fun _ i => i) zTs_good q342_182 kx_545 kx_546 kx_31 kx_547 rfl ⟨by decide, by decide, by decide +kernel⟩ ⟨Nat.le_of_ble_eq_true rfl, Nat.le_of_ble_eq_true rfl⟩
theorem q342_185 : decode (zbc 342) 185 = .ok (.iconst 1, 1) := by decide +kernel
theorem q342_186 : decode (zbc 342) 186 = .ok (.if_icmp .ne 18, 3) := by decide +kernel
theorem q342_189 : decode (zbc 342) 189 = .ok (.aload_n 0, 1) := by decide +kernel
theorem q342_190 : decode (zbc 342) 190 = .ok (.bipush 38, 2) := by decide +kernel
theorem q342_192 : decode (zbc 342) 192 = .ok (.iload 8, 2) := by decide +kernel
theorem q342_194 : decode (zbc 342) 194 = .ok (.invokestatic 185, 3) := by decide +kernel
theorem wq342_194 {L9 : Nat} {xs9 : Nat → Int32} {N9 : Nat} : z_SC N9 znl zTs (zZ L9 xs9 N9) zyn zbc zrt zfr zlo (fun _ i => i) ztb 342 194 2 336 3 := sc_S (P := fun _ i => i) zTs_good q342_194 kx_545 kx_546 kx_31 kx_547 rfl ⟨by decide, by decide, by decide +kernel⟩ ⟨Nat.le_of_ble_eq_true rfl, Nat.le_of_ble_eq_true rfl⟩
theorem q342_197 : decode (zbc 342) 197 = .ok (.iload_n 3, 1) := by decide +kernel
theorem q342_198 : decode (zbc 342) 198 = .ok (.if_icmp .ne 6, 3) := by decide +kernel
theorem q342_201 : decode (zbc 342) 201 = .ok (.iinc 7 1, 3) := by decide +kernel
theorem li_f {X : Nat × (Nat → Int32)} {B : Int} {sv : Nat → Int → Int} {u : Int} {h : Nat → Int → Int} {s : Int → Int} {b : WB} {c d : Nat} {F : GM} {Y : DY} {Q : WQ} (hb1 : c ≤ b.1) (hb2 : d ≤ b.2.1) {a4 a5 a6 : Value} {l : Nat} (hl : (l : Int) < s 4) (hk : ∀ G, PG B sv u h s G → wW (229, X) 342 b 210 [.ref 192, .int (zi (s 4)), .int (zi 1), .int (zi (l : Int)), a4, a5, a6, .int (zi (zcnt (fun w => s (214 + 7 * w + 2) = 0 ∧ s (214 + 7 * w + 3) = (l : Int)) (s 5).toNat)), .int (zi ((s 5).toNat : Int))] [] G F Y c d Q) : ∀ (d9 : Nat) (k : Nat) (G : GM), s 5 - (k : Int) < (d9 : Int) → (k : Int) ≤ s 5 → PG B sv u h s G → wW (229, X) 342 b 156 [.ref 192, .int (zi (s 4)), .int (zi 1), .int (zi (l : Int)), a4, a5, a6, .int (zi (zcnt (fun w => s (214 + 7 * w + 2) = 0 ∧ s (214 + 7 * w + 3) = (l : Int)) k)), .int (zi (k : Int))] [] G F Y c d Q := by
  intro d9
  induction d9 with
  | zero =>
    intro k
    intros
    exact absurd (by assumption) (by omega)
  | succ d9 ih =>
      intro k G hd hk9 p
      have a5b := p.ok.2.2.2.2.2.1
      have a4b := p.ok.2.2.2.2.1
      refine wi_iload (i := 8) (pc' := 158) q342_156 rfl rfl ?_
      refine wi_aload_n (i := 0) (pc' := 159) q342_158 rfl rfl rfl ?_
      refine wi_cp (u9 := (229, X)) (pc' := 162) wq342_159 rfl (cQ_travellerCount (Nat.le_refl _) p.ok p.hR) (fun _ => ⟨_, _, rfl⟩) rfl rfl (by (try dsimp only); omega) (by (try dsimp only); omega) ?_
      refine wi_icmp_ge (t := 210) (pc' := 165) q342_162 (by decide) rfl (by omega) (by omega) ?_ ?_
      · intro h9
        obtain rfl : k = (s 5).toNat := by omega
        exact hk G p
      · intro h9
        have hw9 := wOk_w p.ok (t := (k : Int)) ⟨by omega, by omega⟩
        obtain ⟨l1, l2, l3, l4, l5⟩ := hw9
        refine wi_aload_n (i := 0) (pc' := 166) q342_165 rfl rfl rfl ?_
        refine wi_bipush (pc' := 168) q342_166 rfl (by decide) ?_
        refine wi_iload (i := 8) (pc' := 170) q342_168 rfl rfl ?_
        refine wi_cv (u9 := (229, X)) (pc' := 173) wq342_170 rfl (cL_s2 (pL_isWalking p (by omega)) zLc_i) (fun h => absurd h (by decide)) rfl rfl (vL_state (s := s) (t := (k : Int)) (f := 0) (by omega)).1 (by (try dsimp only); omega) (by (try dsimp only); omega) ?_
        intro Gp1 p1
        rw [(vL_state (s := s) (t := (k : Int)) (f := 0) (by omega)).2]
        refine wi_iconst (pc' := 174) q342_173 rfl ?_
        refine wi_icmp_ne (t := 204) (pc' := 177) q342_174 (by decide) rfl zr_zb (by omega) ?_ ?_
        · intro h8
          have hst : ¬ s (214 + 7 * (k : Int) + 2) = 0 := fun h => h8 (zb_one.mpr h)
          refine wi_iinc8 (pc' := 207) q342_204 rfl rfl (Or.inr rfl) ?_
          refine wi_goto (t := 156) q342_207 (by decide) ?_
          rw [show ((zcnt (fun w => s (214 + 7 * w + 2) = 0 ∧ s (214 + 7 * w + 3) = (l : Int)) k) : Int) = (zcnt (fun w => s (214 + 7 * w + 2) = 0 ∧ s (214 + 7 * w + 3) = (l : Int)) (k + 1)) from by
            show _ = zcnt _ k + (if _ then 1 else 0)
            rw [if_neg (fun h => hst h.1), Int.add_zero], show ((k : Int) + 1) = ((k + 1 : Nat) : Int) by omega]
          exact ih (k + 1) _ (by omega) (by omega) p1
        · intro h8
          have hst : s (214 + 7 * (k : Int) + 2) = 0 := zb_one.mp h8
          refine wi_aload_n (i := 0) (pc' := 178) q342_177 rfl rfl rfl ?_
          refine wi_bipush (pc' := 180) q342_178 rfl (by decide) ?_
          refine wi_iload (i := 8) (pc' := 182) q342_180 rfl rfl ?_
          refine wi_cv (u9 := (229, X)) (pc' := 185) wq342_182 rfl (cL_s2 (pL_hasTarget p1 (by omega)) zLc_i) (fun h => absurd h (by decide)) rfl rfl (vL_hasTgt (s := s) (t := (k : Int)) (by omega)).1 (by (try dsimp only); omega) (by (try dsimp only); omega) ?_
          intro Gp2 p2
          rw [(vL_hasTgt (s := s) (t := (k : Int)) (by omega)).2]
          refine wi_iconst (pc' := 186) q342_185 rfl ?_
          refine wi_icmp_ne (t := 204) (pc' := 189) q342_186 (by decide) rfl zr_zb (by omega) ?_ ?_
          · intro h8
            have hht : ¬ 0 ≤ s (214 + 7 * (k : Int) + 3) := fun h => h8 (zb_one.mpr h)
            refine wi_iinc8 (pc' := 207) q342_204 rfl rfl (Or.inr rfl) ?_
            refine wi_goto (t := 156) q342_207 (by decide) ?_
            rw [show ((zcnt (fun w => s (214 + 7 * w + 2) = 0 ∧ s (214 + 7 * w + 3) = (l : Int)) k) : Int) = (zcnt (fun w => s (214 + 7 * w + 2) = 0 ∧ s (214 + 7 * w + 3) = (l : Int)) (k + 1)) from by
              show _ = zcnt _ k + (if _ then 1 else 0)
              rw [if_neg (fun h => by have := h.2; omega), Int.add_zero], show ((k : Int) + 1) = ((k + 1 : Nat) : Int) by omega]
            exact ih (k + 1) _ (by omega) (by omega) p2
          · intro h8
            have hht : 0 ≤ s (214 + 7 * (k : Int) + 3) := zb_one.mp h8
            refine wi_aload_n (i := 0) (pc' := 190) q342_189 rfl rfl rfl ?_
            refine wi_bipush (pc' := 192) q342_190 rfl (by decide) ?_
            refine wi_iload (i := 8) (pc' := 194) q342_192 rfl rfl ?_
            refine wi_cv (u9 := (229, X)) (pc' := 197) wq342_194 rfl (cL_s2 (pL_target p2 (by omega)) zLc_i) (fun h => absurd h (by decide)) rfl rfl (vL_tgtIn (t := (k : Int)) p2.ok (by omega) hht).1 (by (try dsimp only); omega) (by (try dsimp only); omega) ?_
            intro Gp3 p3
            rw [(vL_tgtIn (t := (k : Int)) p2.ok (by omega) hht).2]
            refine wi_iload_n (i := 3) (pc' := 198) q342_197 rfl rfl rfl ?_
            refine wi_icmp_ne (t := 204) (pc' := 201) q342_198 (by decide) rfl (by omega) (by omega) ?_ ?_
            · intro h8
              have htg : ¬ s (214 + 7 * (k : Int) + 3) = (l : Int) := h8
              refine wi_iinc8 (pc' := 207) q342_204 rfl rfl (Or.inr rfl) ?_
              refine wi_goto (t := 156) q342_207 (by decide) ?_
              rw [show ((zcnt (fun w => s (214 + 7 * w + 2) = 0 ∧ s (214 + 7 * w + 3) = (l : Int)) k) : Int) = (zcnt (fun w => s (214 + 7 * w + 2) = 0 ∧ s (214 + 7 * w + 3) = (l : Int)) (k + 1)) from by
                show _ = zcnt _ k + (if _ then 1 else 0)
                rw [if_neg (fun h => htg h.2), Int.add_zero], show ((k : Int) + 1) = ((k + 1 : Nat) : Int) by omega]
              exact ih (k + 1) _ (by omega) (by omega) p3
            · intro h8
              have htg : s (214 + 7 * (k : Int) + 3) = (l : Int) := h8
              refine wi_iinc7 (pc' := 204) q342_201 rfl rfl (Or.inr rfl) ?_
              refine wi_iinc8 (pc' := 207) q342_204 rfl rfl (Or.inr rfl) ?_
              refine wi_goto (t := 156) q342_207 (by decide) ?_
              rw [show ((zcnt (fun w => s (214 + 7 * w + 2) = 0 ∧ s (214 + 7 * w + 3) = (l : Int)) k) + 1 : Int) = (zcnt (fun w => s (214 + 7 * w + 2) = 0 ∧ s (214 + 7 * w + 3) = (l : Int)) (k + 1)) from by
                show _ = zcnt _ k + (if _ then 1 else 0)
                rw [if_pos ⟨hst, htg⟩], show ((k : Int) + 1) = ((k + 1 : Nat) : Int) by omega]
              exact ih (k + 1) _ (by omega) (by omega) p3
theorem q342_217 : decode (zbc 342) 217 = .ok (.iload 6, 2) := by decide +kernel
theorem q342_219 : decode (zbc 342) 219 = .ok (.ifCond .eq 7, 3) := by decide +kernel
theorem q342_226 : decode (zbc 342) 226 = .ok (.iconst 0, 1) := by decide +kernel
theorem q342_227 : decode (zbc 342) 227 = .ok (.if_icmp .ne 56, 3) := by decide +kernel
theorem q342_222 : decode (zbc 342) 222 = .ok (.iconst 1, 1) := by decide +kernel
theorem q342_223 : decode (zbc 342) 223 = .ok (.goto 4, 3) := by decide +kernel
theorem li_c {X : Nat × (Nat → Int32)} {b : WB} {c d : Nat} {G F : GM} {Y : DY} {Q : WQ} {A : Int} (hA : A = 0 ∨ A = 1) {r0 r1 r2 r3 r4 r5 r7 r8 : Value} : wW (229, X) 342 b 230 [r0, r1, r2, r3, r4, r5, .int (zi A), r7, r8] [] G F Y c d Q → wW (229, X) 342 b 217 [r0, r1, r2, r3, r4, r5, .int (zi A), r7, r8] [.int (zi A)] G F Y c d Q := by
  intro hk
  refine wi_iload (i := 6) (pc' := 219) q342_217 rfl rfl ?_
  refine wi_if_eq (t := 226) (pc' := 222) q342_219 (by decide) rfl (by omega) ?_ ?_
  · intro h8
    refine wi_iconst (pc' := 227) q342_226 rfl ?_
    refine wi_icmp_ne (t := 283) (pc' := 230) q342_227 (by decide) rfl (by omega) (by omega) (fun h => absurd h (by omega)) (fun _ => hk)
  · intro h8
    refine wi_iconst (pc' := 223) q342_222 rfl ?_
    refine wi_goto (t := 227) q342_223 (by decide) ?_
    refine wi_icmp_ne (t := 283) (pc' := 230) q342_227 (by decide) rfl (by omega) (by omega) (fun h => absurd h (by omega)) (fun _ => hk)
theorem q342_55 : decode (zbc 342) 55 = .ok (.iload_n 3, 1) := by decide +kernel
theorem q342_56 : decode (zbc 342) 56 = .ok (.iload_n 1, 1) := by decide +kernel
theorem q342_57 : decode (zbc 342) 57 = .ok (.if_icmp .ge 234, 3) := by decide +kernel
theorem q342_60 : decode (zbc 342) 60 = .ok (.iload_n 2, 1) := by decide +kernel
theorem q342_61 : decode (zbc 342) 61 = .ok (.ifCond .eq 230, 3) := by decide +kernel
theorem q342_64 : decode (zbc 342) 64 = .ok (.iload_n 3, 1) := by decide +kernel
theorem q342_65 : decode (zbc 342) 65 = .ok (.istore 4, 2) := by decide +kernel
theorem q342_67 : decode (zbc 342) 67 = .ok (.iconst 0, 1) := by decide +kernel
theorem q342_68 : decode (zbc 342) 68 = .ok (.istore 5, 2) := by decide +kernel
theorem q342_70 : decode (zbc 342) 70 = .ok (.iconst 0, 1) := by decide +kernel
theorem q342_71 : decode (zbc 342) 71 = .ok (.istore 6, 2) := by decide +kernel
theorem q342_150 : decode (zbc 342) 150 = .ok (.iconst 0, 1) := by decide +kernel
theorem q342_151 : decode (zbc 342) 151 = .ok (.istore 7, 2) := by decide +kernel
theorem q342_153 : decode (zbc 342) 153 = .ok (.iconst 0, 1) := by decide +kernel
theorem q342_154 : decode (zbc 342) 154 = .ok (.istore 8, 2) := by decide +kernel
theorem q342_210 : decode (zbc 342) 210 = .ok (.aload_n 0, 1) := by decide +kernel
theorem q342_211 : decode (zbc 342) 211 = .ok (.bipush 30, 2) := by decide +kernel
theorem q342_213 : decode (zbc 342) 213 = .ok (.iload_n 3, 1) := by decide +kernel
theorem q342_214 : decode (zbc 342) 214 = .ok (.invokestatic 185, 3) := by decide +kernel
theorem wq342_214 {L9 : Nat} {xs9 : Nat → Int32} {N9 : Nat} : z_SC N9 znl zTs (zZ L9 xs9 N9) zyn zbc zrt zfr zlo (fun _ i => i) ztb 342 214 2 336 3 := sc_S (P := fun _ i => i) zTs_good q342_214 kx_545 kx_546 kx_31 kx_547 rfl ⟨by decide, by decide, by decide +kernel⟩ ⟨Nat.le_of_ble_eq_true rfl, Nat.le_of_ble_eq_true rfl⟩
theorem q342_230 : decode (zbc 342) 230 = .ok (.aload_n 0, 1) := by decide +kernel
theorem q342_231 : decode (zbc 342) 231 = .ok (.bipush 29, 2) := by decide +kernel
theorem q342_233 : decode (zbc 342) 233 = .ok (.iload_n 3, 1) := by decide +kernel
theorem q342_234 : decode (zbc 342) 234 = .ok (.invokestatic 185, 3) := by decide +kernel
theorem wq342_234 {L9 : Nat} {xs9 : Nat → Int32} {N9 : Nat} : z_SC N9 znl zTs (zZ L9 xs9 N9) zyn zbc zrt zfr zlo (fun _ i => i) ztb 342 234 2 336 3 := sc_S (P := fun _ i => i) zTs_good q342_234 kx_545 kx_546 kx_31 kx_547 rfl ⟨by decide, by decide, by decide +kernel⟩ ⟨Nat.le_of_ble_eq_true rfl, Nat.le_of_ble_eq_true rfl⟩
theorem q342_237 : decode (zbc 342) 237 = .ok (.iload 7, 2) := by decide +kernel
theorem q342_239 : decode (zbc 342) 239 = .ok (.if_icmp .ne 44, 3) := by decide +kernel
theorem q342_242 : decode (zbc 342) 242 = .ok (.aload_n 0, 1) := by decide +kernel
theorem q342_243 : decode (zbc 342) 243 = .ok (.bipush 27, 2) := by decide +kernel
theorem q342_245 : decode (zbc 342) 245 = .ok (.iload_n 3, 1) := by decide +kernel
theorem q342_246 : decode (zbc 342) 246 = .ok (.invokestatic 185, 3) := by decide +kernel
theorem wq342_246 {L9 : Nat} {xs9 : Nat → Int32} {N9 : Nat} : z_SC N9 znl zTs (zZ L9 xs9 N9) zyn zbc zrt zfr zlo (fun _ i => i) ztb 342 246 2 336 3 := sc_S (P := fun _ i => i) zTs_good q342_246 kx_545 kx_546 kx_31 kx_547 rfl ⟨by decide, by decide, by decide +kernel⟩ ⟨Nat.le_of_ble_eq_true rfl, Nat.le_of_ble_eq_true rfl⟩
theorem q342_249 : decode (zbc 342) 249 = .ok (.iconst 1, 1) := by decide +kernel
theorem q342_250 : decode (zbc 342) 250 = .ok (.if_icmp .ne 17, 3) := by decide +kernel
theorem q342_267 : decode (zbc 342) 267 = .ok (.aload_n 0, 1) := by decide +kernel
theorem q342_268 : decode (zbc 342) 268 = .ok (.bipush 28, 2) := by decide +kernel
theorem q342_270 : decode (zbc 342) 270 = .ok (.iload_n 3, 1) := by decide +kernel
theorem q342_271 : decode (zbc 342) 271 = .ok (.invokestatic 185, 3) := by decide +kernel
theorem wq342_271 {L9 : Nat} {xs9 : Nat → Int32} {N9 : Nat} : z_SC N9 znl zTs (zZ L9 xs9 N9) zyn zbc zrt zfr zlo (fun _ i => i) ztb 342 271 2 336 3 := sc_S (P := fun _ i => i) zTs_good q342_271 kx_545 kx_546 kx_31 kx_547 rfl ⟨by decide, by decide, by decide +kernel⟩ ⟨Nat.le_of_ble_eq_true rfl, Nat.le_of_ble_eq_true rfl⟩
theorem q342_274 : decode (zbc 342) 274 = .ok (.bipush (-101), 2) := by decide +kernel
theorem q342_276 : decode (zbc 342) 276 = .ok (.if_icmp .ne 7, 3) := by decide +kernel
theorem q342_279 : decode (zbc 342) 279 = .ok (.iconst 1, 1) := by decide +kernel
theorem q342_280 : decode (zbc 342) 280 = .ok (.goto 4, 3) := by decide +kernel
theorem q342_284 : decode (zbc 342) 284 = .ok (.istore_n 2, 1) := by decide +kernel
theorem q342_285 : decode (zbc 342) 285 = .ok (.iinc 3 1, 3) := by decide +kernel
theorem q342_288 : decode (zbc 342) 288 = .ok (.goto (-233), 3) := by decide +kernel
theorem q342_253 : decode (zbc 342) 253 = .ok (.aload_n 0, 1) := by decide +kernel
theorem q342_254 : decode (zbc 342) 254 = .ok (.bipush 28, 2) := by decide +kernel
theorem q342_256 : decode (zbc 342) 256 = .ok (.iload_n 3, 1) := by decide +kernel
theorem q342_257 : decode (zbc 342) 257 = .ok (.invokestatic 185, 3) := by decide +kernel
theorem wq342_257 {L9 : Nat} {xs9 : Nat → Int32} {N9 : Nat} : z_SC N9 znl zTs (zZ L9 xs9 N9) zyn zbc zrt zfr zlo (fun _ i => i) ztb 342 257 2 336 3 := sc_S (P := fun _ i => i) zTs_good q342_257 kx_545 kx_546 kx_31 kx_547 rfl ⟨by decide, by decide, by decide +kernel⟩ ⟨Nat.le_of_ble_eq_true rfl, Nat.le_of_ble_eq_true rfl⟩
theorem q342_260 : decode (zbc 342) 260 = .ok (.iload_n 3, 1) := by decide +kernel
theorem q342_261 : decode (zbc 342) 261 = .ok (.if_icmp .eq 22, 3) := by decide +kernel
theorem q342_264 : decode (zbc 342) 264 = .ok (.goto 15, 3) := by decide +kernel
theorem li_l {X : Nat × (Nat → Int32)} {B : Int} {sv : Nat → Int → Int} {u : Int} {h : Nat → Int → Int} {s : Int → Int} {b : WB} {c d : Nat} {F : GM} {Y : DY} {Q : WQ} (hb1 : c + 8 ≤ b.1) (hb2 : d + 48 ≤ b.2.1) (hk : ∀ G (k : Nat) (a4 a5 a6 a7 a8 : Value), PG B sv u h s G → wW (229, X) 342 b 291 [.ref 192, .int (zi (s 4)), .int (zi 1), .int (zi (k : Int)), a4, a5, a6, a7, a8] [] G F Y (c + 8) (d + 48) Q) : ∀ (d9 : Nat) (k : Nat) (a4 a5 a6 a7 a8 : Value) (G : GM), s 4 - (k : Int) < (d9 : Int) → (k : Int) ≤ s 4 → PG B sv u h s G → wW (229, X) 342 b 55 [.ref 192, .int (zi (s 4)), .int (zi 1), .int (zi (k : Int)), a4, a5, a6, a7, a8] [] G F Y (c + k) (d + 6 * k) Q := by
  intro d9
  induction d9 with
  | zero =>
    intro k
    intros
    exact absurd (by assumption) (by omega)
  | succ d9 ih =>
      intro k a4 a5 a6 a7 a8 G hd hk9 p
      have a4b := p.ok.2.2.2.2.1
      have a5b := p.ok.2.2.2.2.2.1
      refine wi_iload_n (i := 3) (pc' := 56) q342_55 rfl rfl rfl ?_
      refine wi_iload_n (i := 1) (pc' := 57) q342_56 rfl rfl rfl ?_
      refine wi_icmp_ge (t := 291) (pc' := 60) q342_57 (by decide) rfl (by omega) (by omega) ?_ ?_
      · intro h9
        exact wW_cd (by omega) (by omega) (hk G k a4 a5 a6 a7 a8 p)
      · intro h9
        have hl9 := mOk_lt p.ok (l := (k : Int)) (by omega) (by omega)
        obtain ⟨l1, l2, l3, l4, l5⟩ := hl9
        have hA9 := sAst_01 s 9 (k : Int) 0
        refine wi_iload_n (i := 2) (pc' := 61) q342_60 rfl rfl rfl ?_
        refine wi_if_eq (t := 291) (pc' := 64) q342_61 (by decide) rfl (by omega) (fun h1 => absurd h1 (by omega)) (fun h1 => ?_)
        refine wi_iload_n (i := 3) (pc' := 65) q342_64 rfl rfl rfl ?_
        refine wi_istore4 (pc' := 67) q342_65 rfl rfl (Or.inr rfl) ?_
        refine wi_iconst (pc' := 68) q342_67 rfl ?_
        refine wi_istore5 (pc' := 70) q342_68 rfl rfl (Or.inr rfl) ?_
        refine wi_iconst (pc' := 71) q342_70 rfl ?_
        refine wi_istore6 (pc' := 73) q342_71 rfl rfl (Or.inr rfl) ?_
        refine li_a (l := k) (by omega) (by omega) ?_ 9 (k : Int) 0 _ ⟨by omega, by omega⟩ (by have := zcnt_rng (zSn 0) 8; omega) rfl p
        intro G9 at9 seen p9
        refine wi_iconst (pc' := 151) q342_150 rfl ?_
        refine wi_istore7 (pc' := 153) q342_151 rfl rfl (Or.inr rfl) ?_
        refine wi_iconst (pc' := 154) q342_153 rfl ?_
        refine wi_istore8 (pc' := 156) q342_154 rfl rfl (Or.inr rfl) ?_
        refine li_f (l := k) (by omega) (by omega) (by omega) ?_ 99 0 _ (by omega) (by omega) p9
        intro G8 p8
        have hf8 := zcnt_rng (fun w => s (214 + 7 * w + 2) = 0 ∧ s (214 + 7 * w + 3) = (k : Int)) (s 5).toNat
        refine wi_aload_n (i := 0) (pc' := 211) q342_210 rfl rfl rfl ?_
        refine wi_bipush (pc' := 213) q342_211 rfl (by decide) ?_
        refine wi_iload_n (i := 3) (pc' := 214) q342_213 rfl rfl rfl ?_
        refine wi_cv (u9 := (229, X)) (pc' := 217) wq342_214 rfl (cL_s2 (pL_leadsAstray p8 (by omega)) zLc_i) (fun h => absurd h (by decide)) rfl rfl (vL_astray (s := s) (l := (k : Int)) (by omega)).1 (by (try dsimp only); omega) (by (try dsimp only); omega) ?_
        intro Gp1 p1
        rw [(vL_astray (s := s) (l := (k : Int)) (by omega)).2]
        refine li_c hA9 ?_
        refine wi_aload_n (i := 0) (pc' := 231) q342_230 rfl rfl rfl ?_
        refine wi_bipush (pc' := 233) q342_231 rfl (by decide) ?_
        refine wi_iload_n (i := 3) (pc' := 234) q342_233 rfl rfl rfl ?_
        refine wi_cv (u9 := (229, X)) (pc' := 237) wq342_234 rfl (cL_s2 (pL_followers p1 (by omega)) zLc_i) (fun h => absurd h (by decide)) rfl rfl (vL_followers (l := (k : Int)) p1.ok (by omega)).1 (by (try dsimp only); omega) (by (try dsimp only); omega) ?_
        intro Gp2 p2
        rw [(vL_followers (l := (k : Int)) p1.ok (by omega)).2]
        refine wi_iload (i := 7) (pc' := 239) q342_237 rfl rfl ?_
        refine wi_icmp_ne (t := 283) (pc' := 242) q342_239 (by decide) rfl (by omega) (by omega) (fun h2 => absurd h2 (by omega)) (fun h2 => ?_)
        refine wi_aload_n (i := 0) (pc' := 243) q342_242 rfl rfl rfl ?_
        refine wi_bipush (pc' := 245) q342_243 rfl (by decide) ?_
        refine wi_iload_n (i := 3) (pc' := 246) q342_245 rfl rfl rfl ?_
        refine wi_cv (u9 := (229, X)) (pc' := 249) wq342_246 rfl (cL_s2 (pL_hasSuccessor p2 (by omega)) zLc_i) (fun h => absurd h (by decide)) rfl rfl (vL_hasSucc (s := s) (l := (k : Int)) (by omega)).1 (by (try dsimp only); omega) (by (try dsimp only); omega) ?_
        intro Gp3 p3
        rw [(vL_hasSucc (s := s) (l := (k : Int)) (by omega)).2]
        refine wi_iconst (pc' := 250) q342_249 rfl ?_
        refine wi_icmp_ne (t := 267) (pc' := 253) q342_250 (by decide) rfl zr_zb (by omega) ?_ ?_
        · intro h8
          have hp8 : ¬ 0 ≤ s (174 + 5 * (k : Int) + 4) := fun h => h8 (zb_one.mpr h)
          refine wi_aload_n (i := 0) (pc' := 268) q342_267 rfl rfl rfl ?_
          refine wi_bipush (pc' := 270) q342_268 rfl (by decide) ?_
          refine wi_iload_n (i := 3) (pc' := 271) q342_270 rfl rfl rfl ?_
          refine wi_cx (u9 := (229, X)) (pc' := 274) wq342_271 rfl (cL_s2 (pL_successor p3 (by omega)) zLc_i) (fun h => absurd h (by decide)) rfl rfl (by (try dsimp only); omega) (by (try dsimp only); omega) ?_
          intro Gp4 p4
          rw [vL_noSucc (s := s) (l := (k : Int)) (by omega) hp8]
          refine wi_bipush (pc' := 276) q342_274 rfl (by decide) ?_
          refine wi_icmp_ne (t := 283) (pc' := 279) q342_276 (by decide) rfl (by omega) (by omega) (fun h3 => absurd h3 (by omega)) (fun h3 => ?_)
          refine wi_iconst (pc' := 280) q342_279 rfl ?_
          refine wi_goto (t := 284) q342_280 (by decide) ?_
          refine wi_istore2 (pc' := 285) q342_284 rfl rfl rfl (Or.inr rfl) ?_
          refine wi_iinc3 (pc' := 288) q342_285 rfl rfl (Or.inr rfl) ?_
          refine wi_goto (t := 55) q342_288 (by decide) ?_
          refine wW_cd (c' := c + (k + 1)) (d' := d + 6 * (k + 1)) (by omega) (by omega) ?_
          rw [show ((k : Int) + 1) = ((k + 1 : Nat) : Int) by omega]
          exact ih (k + 1) _ _ _ _ _ _ (by omega) (by omega) p4
        · intro h8
          have hp8 : 0 ≤ s (174 + 5 * (k : Int) + 4) := zb_one.mp h8
          have hne := p3.1.2.2.2.2 (k : Int) (by omega) (by omega)
          refine wi_aload_n (i := 0) (pc' := 254) q342_253 rfl rfl rfl ?_
          refine wi_bipush (pc' := 256) q342_254 rfl (by decide) ?_
          refine wi_iload_n (i := 3) (pc' := 257) q342_256 rfl rfl rfl ?_
          refine wi_cv (u9 := (229, X)) (pc' := 260) wq342_257 rfl (cL_s2 (pL_successor p3 (by omega)) zLc_i) (fun h => absurd h (by decide)) rfl rfl (vL_succ (l := (k : Int)) p3.ok (by omega) hp8).1 (by (try dsimp only); omega) (by (try dsimp only); omega) ?_
          intro Gp5 p5
          rw [(vL_succ (l := (k : Int)) p3.ok (by omega) hp8).2]
          refine wi_iload_n (i := 3) (pc' := 261) q342_260 rfl rfl rfl ?_
          refine wi_icmp_eq (t := 283) (pc' := 264) q342_261 (by decide) rfl (by omega) (by omega) (fun h4 => absurd h4 (by omega)) (fun h4 => ?_)
          refine wi_goto (t := 279) q342_264 (by decide) ?_
          refine wi_iconst (pc' := 280) q342_279 rfl ?_
          refine wi_goto (t := 284) q342_280 (by decide) ?_
          refine wi_istore2 (pc' := 285) q342_284 rfl rfl rfl (Or.inr rfl) ?_
          refine wi_iinc3 (pc' := 288) q342_285 rfl rfl (Or.inr rfl) ?_
          refine wi_goto (t := 55) q342_288 (by decide) ?_
          refine wW_cd (c' := c + (k + 1)) (d' := d + 6 * (k + 1)) (by omega) (by omega) ?_
          rw [show ((k : Int) + 1) = ((k + 1 : Nat) : Int) by omega]
          exact ih (k + 1) _ _ _ _ _ _ (by omega) (by omega) p5
theorem q342_0 : decode (zbc 342) 0 = .ok (.aload_n 0, 1) := by decide +kernel
theorem q342_1 : decode (zbc 342) 1 = .ok (.invokevirtual 254, 3) := by decide +kernel
theorem wq342_1 {L9 : Nat} {xs9 : Nat → Int32} {N9 : Nat} : z_SC N9 znl zTs (zZ L9 xs9 N9) zyn zbc zrt zfr zlo (fun _ i => i) ztb 342 1 3 219 1 := sc_V (P := fun _ i => i) (n' := 0) zTs_good q342_1 kx_1388 kx_1389 kx_1390 kx_32 kx_1391 rfl ⟨by decide, by decide, by decide +kernel⟩ rfl ⟨Nat.le_of_ble_eq_true rfl, Nat.le_of_ble_eq_true rfl⟩
theorem q342_4 : decode (zbc 342) 4 = .ok (.istore_n 1, 1) := by decide +kernel
theorem q342_5 : decode (zbc 342) 5 = .ok (.aload_n 0, 1) := by decide +kernel
theorem q342_6 : decode (zbc 342) 6 = .ok (.bipush 23, 2) := by decide +kernel
theorem q342_8 : decode (zbc 342) 8 = .ok (.iload_n 1, 1) := by decide +kernel
theorem q342_9 : decode (zbc 342) 9 = .ok (.invokestatic 185, 3) := by decide +kernel
theorem wq342_9 {L9 : Nat} {xs9 : Nat → Int32} {N9 : Nat} : z_SC N9 znl zTs (zZ L9 xs9 N9) zyn zbc zrt zfr zlo (fun _ i => i) ztb 342 9 2 336 3 := sc_S (P := fun _ i => i) zTs_good q342_9 kx_545 kx_546 kx_31 kx_547 rfl ⟨by decide, by decide, by decide +kernel⟩ ⟨Nat.le_of_ble_eq_true rfl, Nat.le_of_ble_eq_true rfl⟩
theorem q342_12 : decode (zbc 342) 12 = .ok (.bipush (-104), 2) := by decide +kernel
theorem q342_14 : decode (zbc 342) 14 = .ok (.if_icmp .ne 37, 3) := by decide +kernel
theorem q342_17 : decode (zbc 342) 17 = .ok (.aload_n 0, 1) := by decide +kernel
theorem q342_18 : decode (zbc 342) 18 = .ok (.bipush 30, 2) := by decide +kernel
theorem q342_20 : decode (zbc 342) 20 = .ok (.iconst (-1), 1) := by decide +kernel
theorem q342_21 : decode (zbc 342) 21 = .ok (.invokestatic 185, 3) := by decide +kernel
theorem wq342_21 {L9 : Nat} {xs9 : Nat → Int32} {N9 : Nat} : z_SC N9 znl zTs (zZ L9 xs9 N9) zyn zbc zrt zfr zlo (fun _ i => i) ztb 342 21 2 336 3 := sc_S (P := fun _ i => i) zTs_good q342_21 kx_545 kx_546 kx_31 kx_547 rfl ⟨by decide, by decide, by decide +kernel⟩ ⟨Nat.le_of_ble_eq_true rfl, Nat.le_of_ble_eq_true rfl⟩
theorem q342_24 : decode (zbc 342) 24 = .ok (.bipush (-104), 2) := by decide +kernel
theorem q342_26 : decode (zbc 342) 26 = .ok (.if_icmp .ne 25, 3) := by decide +kernel
theorem q342_29 : decode (zbc 342) 29 = .ok (.aload_n 0, 1) := by decide +kernel
theorem q342_30 : decode (zbc 342) 30 = .ok (.bipush 28, 2) := by decide +kernel
theorem q342_32 : decode (zbc 342) 32 = .ok (.iload_n 1, 1) := by decide +kernel
theorem q342_33 : decode (zbc 342) 33 = .ok (.invokestatic 185, 3) := by decide +kernel
theorem wq342_33 {L9 : Nat} {xs9 : Nat → Int32} {N9 : Nat} : z_SC N9 znl zTs (zZ L9 xs9 N9) zyn zbc zrt zfr zlo (fun _ i => i) ztb 342 33 2 336 3 := sc_S (P := fun _ i => i) zTs_good q342_33 kx_545 kx_546 kx_31 kx_547 rfl ⟨by decide, by decide, by decide +kernel⟩ ⟨Nat.le_of_ble_eq_true rfl, Nat.le_of_ble_eq_true rfl⟩
theorem q342_36 : decode (zbc 342) 36 = .ok (.bipush (-104), 2) := by decide +kernel
theorem q342_38 : decode (zbc 342) 38 = .ok (.if_icmp .ne 13, 3) := by decide +kernel
theorem q342_41 : decode (zbc 342) 41 = .ok (.iload_n 1, 1) := by decide +kernel
theorem q342_42 : decode (zbc 342) 42 = .ok (.bipush 8, 2) := by decide +kernel
theorem q342_44 : decode (zbc 342) 44 = .ok (.if_icmp .gt 7, 3) := by decide +kernel
theorem q342_47 : decode (zbc 342) 47 = .ok (.iconst 1, 1) := by decide +kernel
theorem q342_48 : decode (zbc 342) 48 = .ok (.goto 4, 3) := by decide +kernel
theorem q342_52 : decode (zbc 342) 52 = .ok (.istore_n 2, 1) := by decide +kernel
theorem q342_53 : decode (zbc 342) 53 = .ok (.iconst 0, 1) := by decide +kernel
theorem q342_54 : decode (zbc 342) 54 = .ok (.istore_n 3, 1) := by decide +kernel
theorem q342_291 : decode (zbc 342) 291 = .ok (.iload_n 2, 1) := by decide +kernel
theorem q342_292 : decode (zbc 342) 292 = .ok (.ireturn, 1) := by decide +kernel
theorem cS_lights {X : Nat × (Nat → Int32)} {B : Int} {sv : Nat → Int → Int} {u : Int} {h : Nat → Int → Int} {s : Int → Int} {G F : GM} {Y : DY} (p : PG B sv u h s G) : wC (229, X) 342 11 66 [.ref 192] G F Y (fun o G' F' Y' => o = some (.int (zi 1)) ∧ PG B sv u h s G' ∧ F = F' ∧ Y = Y') := by
  refine w_met (L0 := [.ref 192, .null, .null, .null, .null, .null, .null, .null, .null]) (by decide +kernel) rfl rfl ?_
  have a4 := p.ok.2.2.2.2.1
  refine wi_aload_n (i := 0) (pc' := 1) q342_0 rfl rfl rfl ?_
  refine wi_cp (u9 := (229, X)) (pc' := 4) wq342_1 rfl (cQ_lightCount (Nat.le_refl _) p.ok p.hR) (fun _ => ⟨_, _, rfl⟩) rfl rfl (by (try dsimp only); omega) (by (try dsimp only); omega) ?_
  refine wi_istore1 (pc' := 5) q342_4 rfl rfl rfl (Or.inr rfl) ?_
  refine wi_aload_n (i := 0) (pc' := 6) q342_5 rfl rfl rfl ?_
  refine wi_bipush (pc' := 8) q342_6 rfl (by decide) ?_
  refine wi_iload_n (i := 1) (pc' := 9) q342_8 rfl rfl rfl ?_
  refine wi_cx (u9 := (229, X)) (pc' := 12) wq342_9 rfl (cL_s2 (pL_lightColumn p (by omega)) zLc_i) (fun h => absurd h (by decide)) rfl rfl (by (try dsimp only); omega) (by (try dsimp only); omega) ?_
  intro Gp1 p1
  rw [vL_lightOut (s := s) (l := s 4) (f := 0) (fun h => by omega)]
  refine wi_bipush (pc' := 14) q342_12 rfl (by decide) ?_
  refine wi_icmp_ne (t := 51) (pc' := 17) q342_14 (by decide) rfl (by omega) (by omega) (fun h1 => absurd h1 (by omega)) (fun h1 => ?_)
  refine wi_aload_n (i := 0) (pc' := 18) q342_17 rfl rfl rfl ?_
  refine wi_bipush (pc' := 20) q342_18 rfl (by decide) ?_
  refine wi_iconst (pc' := 21) q342_20 rfl ?_
  refine wi_cx (u9 := (229, X)) (pc' := 24) wq342_21 rfl (cL_s2 (pL_leadsAstray p1 (by omega)) zLc_i) (fun h => absurd h (by decide)) rfl rfl (by (try dsimp only); omega) (by (try dsimp only); omega) ?_
  intro Gp2 p2
  rw [vL_astrayOut (s := s) (l := -1) (fun h => by omega)]
  refine wi_bipush (pc' := 26) q342_24 rfl (by decide) ?_
  refine wi_icmp_ne (t := 51) (pc' := 29) q342_26 (by decide) rfl (by omega) (by omega) (fun h2 => absurd h2 (by omega)) (fun h2 => ?_)
  refine wi_aload_n (i := 0) (pc' := 30) q342_29 rfl rfl rfl ?_
  refine wi_bipush (pc' := 32) q342_30 rfl (by decide) ?_
  refine wi_iload_n (i := 1) (pc' := 33) q342_32 rfl rfl rfl ?_
  refine wi_cx (u9 := (229, X)) (pc' := 36) wq342_33 rfl (cL_s2 (pL_successor p2 (by omega)) zLc_i) (fun h => absurd h (by decide)) rfl rfl (by (try dsimp only); omega) (by (try dsimp only); omega) ?_
  intro Gp3 p3
  rw [vL_succOut (s := s) (l := s 4) (fun h => by omega)]
  refine wi_bipush (pc' := 38) q342_36 rfl (by decide) ?_
  refine wi_icmp_ne (t := 51) (pc' := 41) q342_38 (by decide) rfl (by omega) (by omega) (fun h3 => absurd h3 (by omega)) (fun h3 => ?_)
  refine wi_iload_n (i := 1) (pc' := 42) q342_41 rfl rfl rfl ?_
  refine wi_bipush (pc' := 44) q342_42 rfl (by decide) ?_
  refine wi_icmp_gt (t := 51) (pc' := 47) q342_44 (by decide) rfl (by omega) (by omega) (fun h4 => absurd h4 (by omega)) (fun h4 => ?_)
  refine wi_iconst (pc' := 48) q342_47 rfl ?_
  refine wi_goto (t := 52) q342_48 (by decide) ?_
  refine wi_istore2 (pc' := 53) q342_52 rfl rfl rfl (Or.inr rfl) ?_
  refine wi_iconst (pc' := 54) q342_53 rfl ?_
  refine wi_istore3 (pc' := 55) q342_54 rfl rfl rfl (Or.inr rfl) ?_
  refine wW_cd (c' := 3) (d' := 18) (by (try dsimp only); omega) (by (try dsimp only); omega) ?_
  refine li_l (c := 3) (d := 18) (by (try dsimp only); omega) (by (try dsimp only); omega) ?_ 99 0 _ _ _ _ _ _ (by omega) (by omega) p3
  intro G9 k a4 a5 a6 a7 a8 p9
  refine wi_iload_n (i := 2) (pc' := 292) q342_291 rfl rfl rfl ?_
  refine wW_r (o := some (.int (zi 1))) ⟨q342_292, _, rfl, rfl⟩ rfl (by (try dsimp only); omega) (by (try dsimp only); omega) ?_
  exact ⟨rfl, p9, rfl, rfl⟩
