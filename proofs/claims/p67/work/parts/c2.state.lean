/-! The law's state(x). -/
theorem zr_zb {p : Prop} [Decidable p] : zr (zb p) := by
  unfold zb
  split <;> decide
theorem zr_2zb {p : Prop} [Decidable p] : zr (2 * zb p) := by
  unfold zb
  split <;> decide
theorem zb_one {p : Prop} [Decidable p] : zb p = 1 ↔ p := by
  unfold zb
  split <;> simp_all
theorem wOk_p {s : Int → Int} {x y : Int} (hok : mOk s) (hx : 0 ≤ x ∧ x < s 0) (hy : 0 ≤ y ∧ y < s 1) : 0 ≤ s (30 + 12 * y + x) ∧ s (30 + 12 * y + x) ≤ 19 := by
  have hok2 := hok
  obtain ⟨a0, a1, -⟩ := hok
  have := mOk_g hok2 (x := x) (y := y) (by omega) (by omega)
  omega
def dgA (s : Int → Int) : Nat → Int
  | 0 => (7 * s 0 + s 1) * 10007 + s 3 * 31 + s 2
  | k + 1 => dgA s k * 11 + s (6 + (k : Int))
def dgC (s : Int → Int) (y x o : Int) : Int := o * 31 + zb (s (30 + 12 * y + x) = 1) + 2 * zb (s (30 + 12 * y + x) = 2) + 4 * (if 10 < s (30 + 12 * y + x) then s (30 + 12 * y + x) - 10 else 0)
def dgR (s : Int → Int) (y : Int) : Nat → Int → Int
  | 0, o => o
  | k + 1, o => dgC s y (k : Int) (dgR s y k o)
def dgB (s : Int → Int) : Nat → Int → Int
  | 0, o => o
  | k + 1, o => dgR s (k : Int) (s 0).toNat (dgB s k o)
def dgL1 (s : Int → Int) (l o : Int) : Int := ((((o * 31 + s (174 + 5 * l + 0) + 0) * 31 + s (174 + 5 * l + 1) + 0) * 31 + s (174 + 5 * l + 2) + 0) * 31 + zb (s (174 + 5 * l + 3) = 1) + 0) * 31 + zb (0 ≤ s (174 + 5 * l + 4)) + (if 0 ≤ s (174 + 5 * l + 4) then 3 * s (174 + 5 * l + 4) else 0)
def dgL (s : Int → Int) : Nat → Int → Int
  | 0, o => o
  | k + 1, o => dgL1 s (k : Int) (dgL s k o)
def dgW1 (s : Int → Int) (t o : Int) : Int := (((((((o * 103 + s (214 + 7 * t + 0)) * 103 + s (214 + 7 * t + 1)) * 103 + zb (s (214 + 7 * t + 2) = 0)) * 103 + zb (s (214 + 7 * t + 2) = 1)) * 103 + zb (s (214 + 7 * t + 2) = 2)) * 103 + s (214 + 7 * t + 6)) * 103 + zb (0 ≤ s (214 + 7 * t + 3))) * 103 + (if s (214 + 7 * t + 3) < 0 then -101 else s (214 + 7 * t + 3))
def dgP (s : Int → Int) (t : Int) : Nat → Int → Int
  | 0, o => o
  | k + 1, o => dgP s t k o * 5 + zb (zhas (s (214 + 7 * t + 4)) (k : Int)) + 2 * zb (zhas (s (214 + 7 * t + 5)) (k : Int))
def dgW (s : Int → Int) : Nat → Int → Int
  | 0, o => o
  | k + 1, o => dgP s (k : Int) (s 4).toNat (dgW1 s (k : Int) (dgW s k o))
/-- what state(x) answers at the row s -/
def dgS (s : Int → Int) : Int := dgW s (s 5).toNat (dgL s (s 4).toNat (dgB s (s 1).toNat (dgA s 24)))
theorem q339_40 : decode (zbc 339) 40 = .ok (.iload_n 3, 1) := by decide +kernel
theorem q339_41 : decode (zbc 339) 41 = .ok (.bipush 24, 2) := by decide +kernel
theorem q339_43 : decode (zbc 339) 43 = .ok (.if_icmp .ge 24, 3) := by decide +kernel
theorem q339_46 : decode (zbc 339) 46 = .ok (.lload_n 1, 1) := by decide +kernel
theorem kx_1384 : Cond.constantLong "FalseLightMarshLaw" 249 11 ∈ zTs := z_in (i := 1384) (by decide +kernel) (by decide +kernel)
theorem q339_47 : decode (zbc 339) 47 = .ok (.ldc2_w 249, 3) := by decide +kernel
theorem q339_50 : decode (zbc 339) 50 = .ok (.lmul, 1) := by decide +kernel
theorem q339_51 : decode (zbc 339) 51 = .ok (.aload_n 0, 1) := by decide +kernel
theorem q339_52 : decode (zbc 339) 52 = .ok (.bipush 22, 2) := by decide +kernel
theorem q339_54 : decode (zbc 339) 54 = .ok (.iload_n 3, 1) := by decide +kernel
theorem q339_55 : decode (zbc 339) 55 = .ok (.invokestatic 185, 3) := by decide +kernel
theorem kx_545 : Cond.methodLink "FalseLightMarshLaw" 185 yL_call__ ∈ zTs := z_in (i := 545) (by decide +kernel) (by decide +kernel)
theorem kx_546 : Cond.static yL_call__ ∈ zTs := z_in (i := 546) (by decide +kernel) (by decide +kernel)
theorem kx_31 : Cond.initialized "FalseLightMarshLaw" ∈ zTs := z_in (i := 31) (by decide +kernel) (by decide +kernel)
theorem kx_547 : Cond.code yL_call__ cL_call__ 3 (some .int) ∈ zTs := z_in (i := 547) (by decide +kernel) (by decide +kernel)
theorem wq339_55 {L9 : Nat} {xs9 : Nat → Int32} {N9 : Nat} : z_SC N9 znl zTs (zZ L9 xs9 N9) zyn zbc zrt zfr zlo (fun _ i => i) ztb 339 55 2 336 3 := sc_S (P := fun _ i => i) zTs_good q339_55 kx_545 kx_546 kx_31 kx_547 rfl ⟨by decide, by decide, by decide +kernel⟩ ⟨Nat.le_of_ble_eq_true rfl, Nat.le_of_ble_eq_true rfl⟩
theorem q339_58 : decode (zbc 339) 58 = .ok (.i2l, 1) := by decide +kernel
theorem q339_59 : decode (zbc 339) 59 = .ok (.ladd, 1) := by decide +kernel
theorem q339_60 : decode (zbc 339) 60 = .ok (.lstore_n 1, 1) := by decide +kernel
theorem q339_61 : decode (zbc 339) 61 = .ok (.iinc 3 1, 3) := by decide +kernel
theorem q339_64 : decode (zbc 339) 64 = .ok (.goto (-24), 3) := by decide +kernel
theorem st_A {X : Nat × (Nat → Int32)} {B : Int} {sv : Nat → Int → Int} {u : Int} {h : Nat → Int → Int} {s : Int → Int} {b : WB} {c d : Nat} {F : GM} {Y : DY} {Q : WQ} (hb1 : c ≤ b.1) (hb2 : d ≤ b.2.1) {a4 : Value} (hk : ∀ G, PG B sv u h s G → wW (229, X) 339 b 67 [.ref 192, .long (zl (dgA s 24)), .null, .int (zi 24), a4] [] G F Y c d Q) : ∀ (d9 : Nat) (k : Nat) (G : GM), 24 - (k : Int) < (d9 : Int) → (k : Int) ≤ 24 → PG B sv u h s G → wW (229, X) 339 b 40 [.ref 192, .long (zl (dgA s k)), .null, .int (zi (k : Int)), a4] [] G F Y c d Q := by
  intro d9
  induction d9 with
  | zero =>
    intro k
    intros
    exact absurd (by assumption) (by omega)
  | succ d9 ih =>
      intro k G hd hk9 p
      refine wi_iload_n (i := 3) (pc' := 41) q339_40 rfl rfl rfl ?_
      refine wi_bipush (pc' := 43) q339_41 rfl (by decide) ?_
      refine wi_icmp_ge (t := 67) (pc' := 46) q339_43 (by decide) rfl (by omega) (by omega) ?_ ?_
      · intro h9
        obtain rfl : k = 24 := by omega
        exact hk G p
      · intro h9
        refine wi_lload_n (i := 1) (pc' := 47) q339_46 rfl rfl rfl ?_
        refine wi_ldc2 (z := 11) (pc' := 50) q339_47 rfl kx_1384 (by decide +kernel) ?_
        refine wi_lmul (pc' := 51) q339_50 rfl ?_
        refine wi_aload_n (i := 0) (pc' := 52) q339_51 rfl rfl rfl ?_
        refine wi_bipush (pc' := 54) q339_52 rfl (by decide) ?_
        refine wi_iload_n (i := 3) (pc' := 55) q339_54 rfl rfl rfl ?_
        refine wi_cv (u9 := (229, X)) (pc' := 58) wq339_55 rfl (cL_s2 (pL_fog p (by omega)) zLc_i) (fun h => absurd h (by decide)) rfl rfl (vL_fog (k := (k : Int)) p.ok (by omega)).1 (by (try dsimp only); omega) (by (try dsimp only); omega) ?_
        intro Gp1 p1
        rw [(vL_fog (k := (k : Int)) p.ok (by omega)).2]
        refine wi_i2l (pc' := 59) q339_58 rfl ((by have := p.ok.2.2.2.2.2.2.1 (k : Int) (by omega) (by omega); exact ⟨by omega, by omega⟩)) ?_
        refine wi_ladd (pc' := 60) q339_59 rfl ?_
        refine wi_lstore1 (pc' := 61) q339_60 rfl rfl rfl rfl (Or.inr rfl) ?_
        refine wi_iinc3 (pc' := 64) q339_61 rfl rfl (Or.inr rfl) ?_
        refine wi_goto (t := 40) q339_64 (by decide) ?_
        rw [show ((k : Int) + 1) = ((k + 1 : Nat) : Int) by omega]
        exact ih (k + 1) _ (by omega) (by omega) p1
theorem q339_80 : decode (zbc 339) 80 = .ok (.iload 4, 2) := by decide +kernel
theorem q339_82 : decode (zbc 339) 82 = .ok (.aload_n 0, 1) := by decide +kernel
theorem q339_83 : decode (zbc 339) 83 = .ok (.invokevirtual 233, 3) := by decide +kernel
theorem kx_509 : Cond.methodLink "FalseLightMarshLaw" 233 yX8_width ∈ zTs := z_in (i := 509) (by decide +kernel) (by decide +kernel)
theorem kx_510 : Cond.instanceMethod yX8_width ∈ zTs := z_in (i := 510) (by decide +kernel) (by decide +kernel)
theorem kx_511 : Cond.selects "FalseLightMarsh" yX8_width yX8_width ∈ zTs := z_in (i := 511) (by decide +kernel) (by decide +kernel)
theorem kx_32 : Cond.initialized "FalseLightMarsh" ∈ zTs := z_in (i := 32) (by decide +kernel) (by decide +kernel)
theorem kx_512 : Cond.code yX8_width cX8_width 1 (some .int) ∈ zTs := z_in (i := 512) (by decide +kernel) (by decide +kernel)
theorem wq339_83 {L9 : Nat} {xs9 : Nat → Int32} {N9 : Nat} : z_SC N9 znl zTs (zZ L9 xs9 N9) zyn zbc zrt zfr zlo (fun _ i => i) ztb 339 83 3 206 1 := sc_V (P := fun _ i => i) (n' := 0) zTs_good q339_83 kx_509 kx_510 kx_511 kx_32 kx_512 rfl ⟨by decide, by decide, by decide +kernel⟩ rfl ⟨Nat.le_of_ble_eq_true rfl, Nat.le_of_ble_eq_true rfl⟩
theorem q339_86 : decode (zbc 339) 86 = .ok (.if_icmp .ge 69, 3) := by decide +kernel
theorem q339_89 : decode (zbc 339) 89 = .ok (.lload_n 1, 1) := by decide +kernel
theorem kx_1379 : Cond.constantLong "FalseLightMarshLaw" 244 31 ∈ zTs := z_in (i := 1379) (by decide +kernel) (by decide +kernel)
theorem q339_90 : decode (zbc 339) 90 = .ok (.ldc2_w 244, 3) := by decide +kernel
theorem q339_93 : decode (zbc 339) 93 = .ok (.lmul, 1) := by decide +kernel
theorem q339_94 : decode (zbc 339) 94 = .ok (.aload_n 0, 1) := by decide +kernel
theorem q339_95 : decode (zbc 339) 95 = .ok (.bipush 16, 2) := by decide +kernel
theorem q339_97 : decode (zbc 339) 97 = .ok (.iload 4, 2) := by decide +kernel
theorem q339_99 : decode (zbc 339) 99 = .ok (.iload_n 3, 1) := by decide +kernel
theorem q339_100 : decode (zbc 339) 100 = .ok (.invokestatic 251, 3) := by decide +kernel
theorem kx_1385 : Cond.methodLink "FalseLightMarshLaw" 251 yL_call_ ∈ zTs := z_in (i := 1385) (by decide +kernel) (by decide +kernel)
theorem kx_1386 : Cond.static yL_call_ ∈ zTs := z_in (i := 1386) (by decide +kernel) (by decide +kernel)
theorem kx_1387 : Cond.code yL_call_ cL_call_ 4 (some .int) ∈ zTs := z_in (i := 1387) (by decide +kernel) (by decide +kernel)
theorem wq339_100 {L9 : Nat} {xs9 : Nat → Int32} {N9 : Nat} : z_SC N9 znl zTs (zZ L9 xs9 N9) zyn zbc zrt zfr zlo (fun _ i => i) ztb 339 100 2 335 4 := sc_S (P := fun _ i => i) zTs_good q339_100 kx_1385 kx_1386 kx_31 kx_1387 rfl ⟨by decide, by decide, by decide +kernel⟩ ⟨Nat.le_of_ble_eq_true rfl, Nat.le_of_ble_eq_true rfl⟩
theorem q339_103 : decode (zbc 339) 103 = .ok (.i2l, 1) := by decide +kernel
theorem q339_104 : decode (zbc 339) 104 = .ok (.ladd, 1) := by decide +kernel
theorem q339_105 : decode (zbc 339) 105 = .ok (.iconst 2, 1) := by decide +kernel
theorem q339_106 : decode (zbc 339) 106 = .ok (.aload_n 0, 1) := by decide +kernel
theorem q339_107 : decode (zbc 339) 107 = .ok (.bipush 17, 2) := by decide +kernel
theorem q339_109 : decode (zbc 339) 109 = .ok (.iload 4, 2) := by decide +kernel
theorem q339_111 : decode (zbc 339) 111 = .ok (.iload_n 3, 1) := by decide +kernel
theorem q339_112 : decode (zbc 339) 112 = .ok (.invokestatic 251, 3) := by decide +kernel
theorem wq339_112 {L9 : Nat} {xs9 : Nat → Int32} {N9 : Nat} : z_SC N9 znl zTs (zZ L9 xs9 N9) zyn zbc zrt zfr zlo (fun _ i => i) ztb 339 112 2 335 4 := sc_S (P := fun _ i => i) zTs_good q339_112 kx_1385 kx_1386 kx_31 kx_1387 rfl ⟨by decide, by decide, by decide +kernel⟩ ⟨Nat.le_of_ble_eq_true rfl, Nat.le_of_ble_eq_true rfl⟩
theorem q339_115 : decode (zbc 339) 115 = .ok (.imul, 1) := by decide +kernel
theorem q339_116 : decode (zbc 339) 116 = .ok (.i2l, 1) := by decide +kernel
theorem q339_117 : decode (zbc 339) 117 = .ok (.ladd, 1) := by decide +kernel
theorem q339_118 : decode (zbc 339) 118 = .ok (.iconst 4, 1) := by decide +kernel
theorem q339_119 : decode (zbc 339) 119 = .ok (.aload_n 0, 1) := by decide +kernel
theorem q339_120 : decode (zbc 339) 120 = .ok (.bipush 18, 2) := by decide +kernel
theorem q339_122 : decode (zbc 339) 122 = .ok (.iload 4, 2) := by decide +kernel
theorem q339_124 : decode (zbc 339) 124 = .ok (.iload_n 3, 1) := by decide +kernel
theorem q339_125 : decode (zbc 339) 125 = .ok (.invokestatic 251, 3) := by decide +kernel
theorem wq339_125 {L9 : Nat} {xs9 : Nat → Int32} {N9 : Nat} : z_SC N9 znl zTs (zZ L9 xs9 N9) zyn zbc zrt zfr zlo (fun _ i => i) ztb 339 125 2 335 4 := sc_S (P := fun _ i => i) zTs_good q339_125 kx_1385 kx_1386 kx_31 kx_1387 rfl ⟨by decide, by decide, by decide +kernel⟩ ⟨Nat.le_of_ble_eq_true rfl, Nat.le_of_ble_eq_true rfl⟩
theorem q339_128 : decode (zbc 339) 128 = .ok (.iconst 1, 1) := by decide +kernel
theorem q339_129 : decode (zbc 339) 129 = .ok (.if_icmp .ne 15, 3) := by decide +kernel
theorem q339_144 : decode (zbc 339) 144 = .ok (.iconst 0, 1) := by decide +kernel
theorem q339_145 : decode (zbc 339) 145 = .ok (.imul, 1) := by decide +kernel
theorem q339_146 : decode (zbc 339) 146 = .ok (.i2l, 1) := by decide +kernel
theorem q339_147 : decode (zbc 339) 147 = .ok (.ladd, 1) := by decide +kernel
theorem q339_148 : decode (zbc 339) 148 = .ok (.lstore_n 1, 1) := by decide +kernel
theorem q339_149 : decode (zbc 339) 149 = .ok (.iinc 4 1, 3) := by decide +kernel
theorem q339_152 : decode (zbc 339) 152 = .ok (.goto (-72), 3) := by decide +kernel
theorem q339_132 : decode (zbc 339) 132 = .ok (.aload_n 0, 1) := by decide +kernel
theorem q339_133 : decode (zbc 339) 133 = .ok (.bipush 19, 2) := by decide +kernel
theorem q339_135 : decode (zbc 339) 135 = .ok (.iload 4, 2) := by decide +kernel
theorem q339_137 : decode (zbc 339) 137 = .ok (.iload_n 3, 1) := by decide +kernel
theorem q339_138 : decode (zbc 339) 138 = .ok (.invokestatic 251, 3) := by decide +kernel
theorem wq339_138 {L9 : Nat} {xs9 : Nat → Int32} {N9 : Nat} : z_SC N9 znl zTs (zZ L9 xs9 N9) zyn zbc zrt zfr zlo (fun _ i => i) ztb 339 138 2 335 4 := sc_S (P := fun _ i => i) zTs_good q339_138 kx_1385 kx_1386 kx_31 kx_1387 rfl ⟨by decide, by decide, by decide +kernel⟩ ⟨Nat.le_of_ble_eq_true rfl, Nat.le_of_ble_eq_true rfl⟩
theorem q339_141 : decode (zbc 339) 141 = .ok (.goto 4, 3) := by decide +kernel
theorem st_C {X : Nat × (Nat → Int32)} {B : Int} {sv : Nat → Int → Int} {u : Int} {h : Nat → Int → Int} {s : Int → Int} {b : WB} {c d : Nat} {F : GM} {Y : DY} {Q : WQ} (hb1 : c ≤ b.1) (hb2 : d ≤ b.2.1) {o : Int} {y : Nat} (hy : (y : Int) < s 1) (hk : ∀ G (k : Nat), (k : Int) = s 0 → PG B sv u h s G → wW (229, X) 339 b 155 [.ref 192, .long (zl (dgR s (y : Int) k o)), .null, .int (zi (y : Int)), .int (zi (k : Int))] [] G F Y c d Q) : ∀ (d9 : Nat) (k : Nat) (G : GM), s 0 - (k : Int) < (d9 : Int) → (k : Int) ≤ s 0 → PG B sv u h s G → wW (229, X) 339 b 80 [.ref 192, .long (zl (dgR s (y : Int) k o)), .null, .int (zi (y : Int)), .int (zi (k : Int))] [] G F Y c d Q := by
  intro d9
  induction d9 with
  | zero =>
    intro k
    intros
    exact absurd (by assumption) (by omega)
  | succ d9 ih =>
      intro k G hd hk9 p
      have a0 := p.ok.1
      have a1 := p.ok.2.1
      refine wi_iload (i := 4) (pc' := 82) q339_80 rfl rfl ?_
      refine wi_aload_n (i := 0) (pc' := 83) q339_82 rfl rfl rfl ?_
      refine wi_cp (u9 := (229, X)) (pc' := 86) wq339_83 rfl (cQ_width (Nat.le_refl _) p.ok p.hR) (fun _ => ⟨_, _, rfl⟩) rfl rfl (by (try dsimp only); omega) (by (try dsimp only); omega) ?_
      refine wi_icmp_ge (t := 155) (pc' := 89) q339_86 (by decide) rfl (by omega) (by omega) ?_ ?_
      · intro h9
        exact hk G k (by omega) p
      · intro h9
        have hc9 := wOk_p (x := (k : Int)) (y := (y : Int)) p.ok (by omega) (by omega)
        refine wi_lload_n (i := 1) (pc' := 90) q339_89 rfl rfl rfl ?_
        refine wi_ldc2 (z := 31) (pc' := 93) q339_90 rfl kx_1379 (by decide +kernel) ?_
        refine wi_lmul (pc' := 94) q339_93 rfl ?_
        refine wi_aload_n (i := 0) (pc' := 95) q339_94 rfl rfl rfl ?_
        refine wi_bipush (pc' := 97) q339_95 rfl (by decide) ?_
        refine wi_iload (i := 4) (pc' := 99) q339_97 rfl rfl ?_
        refine wi_iload_n (i := 3) (pc' := 100) q339_99 rfl rfl rfl ?_
        refine wi_cv (u9 := (229, X)) (pc' := 103) wq339_100 rfl (cL_s3 (pL_isWater p (by omega) (by omega)) zLc_i) (fun h => absurd h (by decide)) rfl rfl (vL_isWater (s := s) (x := (k : Int)) (y := (y : Int)) (by omega) (by omega)).1 (by (try dsimp only); omega) (by (try dsimp only); omega) ?_
        intro Gp1 p1
        rw [(vL_isWater (s := s) (x := (k : Int)) (y := (y : Int)) (by omega) (by omega)).2]
        refine wi_i2l (pc' := 104) q339_103 rfl (zr_zb) ?_
        refine wi_ladd (pc' := 105) q339_104 rfl ?_
        refine wi_iconst (pc' := 106) q339_105 rfl ?_
        refine wi_aload_n (i := 0) (pc' := 107) q339_106 rfl rfl rfl ?_
        refine wi_bipush (pc' := 109) q339_107 rfl (by decide) ?_
        refine wi_iload (i := 4) (pc' := 111) q339_109 rfl rfl ?_
        refine wi_iload_n (i := 3) (pc' := 112) q339_111 rfl rfl rfl ?_
        refine wi_cv (u9 := (229, X)) (pc' := 115) wq339_112 rfl (cL_s3 (pL_isHut p1 (by omega) (by omega)) zLc_i) (fun h => absurd h (by decide)) rfl rfl (vL_isHut (s := s) (x := (k : Int)) (y := (y : Int)) (by omega) (by omega)).1 (by (try dsimp only); omega) (by (try dsimp only); omega) ?_
        intro Gp2 p2
        rw [(vL_isHut (s := s) (x := (k : Int)) (y := (y : Int)) (by omega) (by omega)).2]
        refine wi_imul (pc' := 116) q339_115 rfl ?_
        refine wi_i2l (pc' := 117) q339_116 rfl (zr_2zb) ?_
        refine wi_ladd (pc' := 118) q339_117 rfl ?_
        refine wi_iconst (pc' := 119) q339_118 rfl ?_
        refine wi_aload_n (i := 0) (pc' := 120) q339_119 rfl rfl rfl ?_
        refine wi_bipush (pc' := 122) q339_120 rfl (by decide) ?_
        refine wi_iload (i := 4) (pc' := 124) q339_122 rfl rfl ?_
        refine wi_iload_n (i := 3) (pc' := 125) q339_124 rfl rfl rfl ?_
        refine wi_cv (u9 := (229, X)) (pc' := 128) wq339_125 rfl (cL_s3 (pL_isPlank p2 (by omega) (by omega)) zLc_i) (fun h => absurd h (by decide)) rfl rfl (vL_isPlank (s := s) (x := (k : Int)) (y := (y : Int)) (by omega) (by omega)).1 (by (try dsimp only); omega) (by (try dsimp only); omega) ?_
        intro Gp3 p3
        rw [(vL_isPlank (s := s) (x := (k : Int)) (y := (y : Int)) (by omega) (by omega)).2]
        refine wi_iconst (pc' := 129) q339_128 rfl ?_
        refine wi_icmp_ne (t := 144) (pc' := 132) q339_129 (by decide) rfl zr_zb (by omega) ?_ ?_
        · intro h8
          have hp8 : ¬ 10 < s (30 + 12 * (y : Int) + (k : Int)) := fun h => h8 (zb_one.mpr h)
          refine wi_iconst (pc' := 145) q339_144 rfl ?_
          refine wi_imul (pc' := 146) q339_145 rfl ?_
          refine wi_i2l (pc' := 147) q339_146 rfl ((by omega)) ?_
          refine wi_ladd (pc' := 148) q339_147 rfl ?_
          refine wi_lstore1 (pc' := 149) q339_148 rfl rfl rfl rfl (Or.inr rfl) ?_
          refine wi_iinc4 (pc' := 152) q339_149 rfl rfl (Or.inr rfl) ?_
          refine wi_goto (t := 80) q339_152 (by decide) ?_
          rw [show ((((((dgR s (y : Int) k o) * 31) + (zb (s (30 + 12 * (y : Int) + (k : Int)) = 1))) + (2 * (zb (s (30 + 12 * (y : Int) + (k : Int)) = 2)))) + (4 * 0)) : Int) = dgR s (y : Int) (k + 1) o from by show _ = dgC s (y : Int) (k : Int) (dgR s (y : Int) k o); unfold dgC; rw [if_neg hp8], show ((k : Int) + 1) = ((k + 1 : Nat) : Int) by omega]
          exact ih (k + 1) _ (by omega) (by omega) p3
        · intro h8
          have hp8 : 10 < s (30 + 12 * (y : Int) + (k : Int)) := zb_one.mp h8
          refine wi_aload_n (i := 0) (pc' := 133) q339_132 rfl rfl rfl ?_
          refine wi_bipush (pc' := 135) q339_133 rfl (by decide) ?_
          refine wi_iload (i := 4) (pc' := 137) q339_135 rfl rfl ?_
          refine wi_iload_n (i := 3) (pc' := 138) q339_137 rfl rfl rfl ?_
          refine wi_cv (u9 := (229, X)) (pc' := 141) wq339_138 rfl (cL_s3 (pL_plankStrength p3 (by omega) (by omega)) zLc_i) (fun h => absurd h (by decide)) rfl rfl (vL_strength (x := (k : Int)) (y := (y : Int)) p3.ok (by omega) (by omega) hp8).1 (by (try dsimp only); omega) (by (try dsimp only); omega) ?_
          intro Gp4 p4
          rw [(vL_strength (x := (k : Int)) (y := (y : Int)) p3.ok (by omega) (by omega) hp8).2]
          refine wi_goto (t := 145) q339_141 (by decide) ?_
          refine wi_imul (pc' := 146) q339_145 rfl ?_
          refine wi_i2l (pc' := 147) q339_146 rfl ((by omega)) ?_
          refine wi_ladd (pc' := 148) q339_147 rfl ?_
          refine wi_lstore1 (pc' := 149) q339_148 rfl rfl rfl rfl (Or.inr rfl) ?_
          refine wi_iinc4 (pc' := 152) q339_149 rfl rfl (Or.inr rfl) ?_
          refine wi_goto (t := 80) q339_152 (by decide) ?_
          rw [show ((((((dgR s (y : Int) k o) * 31) + (zb (s (30 + 12 * (y : Int) + (k : Int)) = 1))) + (2 * (zb (s (30 + 12 * (y : Int) + (k : Int)) = 2)))) + (4 * (s (30 + 12 * (y : Int) + (k : Int)) - 10))) : Int) = dgR s (y : Int) (k + 1) o from by show _ = dgC s (y : Int) (k : Int) (dgR s (y : Int) k o); unfold dgC; rw [if_pos hp8], show ((k : Int) + 1) = ((k + 1 : Nat) : Int) by omega]
          exact ih (k + 1) _ (by omega) (by omega) p4
theorem q339_69 : decode (zbc 339) 69 = .ok (.iload_n 3, 1) := by decide +kernel
theorem q339_70 : decode (zbc 339) 70 = .ok (.aload_n 0, 1) := by decide +kernel
theorem q339_71 : decode (zbc 339) 71 = .ok (.invokevirtual 236, 3) := by decide +kernel
theorem kx_513 : Cond.methodLink "FalseLightMarshLaw" 236 yX8_height ∈ zTs := z_in (i := 513) (by decide +kernel) (by decide +kernel)
theorem kx_514 : Cond.instanceMethod yX8_height ∈ zTs := z_in (i := 514) (by decide +kernel) (by decide +kernel)
theorem kx_515 : Cond.selects "FalseLightMarsh" yX8_height yX8_height ∈ zTs := z_in (i := 515) (by decide +kernel) (by decide +kernel)
theorem kx_516 : Cond.code yX8_height cX8_height 1 (some .int) ∈ zTs := z_in (i := 516) (by decide +kernel) (by decide +kernel)
theorem wq339_71 {L9 : Nat} {xs9 : Nat → Int32} {N9 : Nat} : z_SC N9 znl zTs (zZ L9 xs9 N9) zyn zbc zrt zfr zlo (fun _ i => i) ztb 339 71 3 207 1 := sc_V (P := fun _ i => i) (n' := 0) zTs_good q339_71 kx_513 kx_514 kx_515 kx_32 kx_516 rfl ⟨by decide, by decide, by decide +kernel⟩ rfl ⟨Nat.le_of_ble_eq_true rfl, Nat.le_of_ble_eq_true rfl⟩
theorem q339_74 : decode (zbc 339) 74 = .ok (.if_icmp .ge 87, 3) := by decide +kernel
theorem q339_77 : decode (zbc 339) 77 = .ok (.iconst 0, 1) := by decide +kernel
theorem q339_78 : decode (zbc 339) 78 = .ok (.istore 4, 2) := by decide +kernel
theorem q339_155 : decode (zbc 339) 155 = .ok (.iinc 3 1, 3) := by decide +kernel
theorem q339_158 : decode (zbc 339) 158 = .ok (.goto (-89), 3) := by decide +kernel
theorem st_B {X : Nat × (Nat → Int32)} {B : Int} {sv : Nat → Int → Int} {u : Int} {h : Nat → Int → Int} {s : Int → Int} {b : WB} {c d : Nat} {F : GM} {Y : DY} {Q : WQ} (hb1 : c ≤ b.1) (hb2 : d ≤ b.2.1) {o : Int} (hk : ∀ G (k : Nat) (a4 : Value), (k : Int) = s 1 → PG B sv u h s G → wW (229, X) 339 b 161 [.ref 192, .long (zl (dgB s k o)), .null, .int (zi (k : Int)), a4] [] G F Y c d Q) : ∀ (d9 : Nat) (k : Nat) (a4 : Value) (G : GM), s 1 - (k : Int) < (d9 : Int) → (k : Int) ≤ s 1 → PG B sv u h s G → wW (229, X) 339 b 69 [.ref 192, .long (zl (dgB s k o)), .null, .int (zi (k : Int)), a4] [] G F Y c d Q := by
  intro d9
  induction d9 with
  | zero =>
    intro k
    intros
    exact absurd (by assumption) (by omega)
  | succ d9 ih =>
      intro k a4 G hd hk9 p
      have a0 := p.ok.1
      have a1 := p.ok.2.1
      refine wi_iload_n (i := 3) (pc' := 70) q339_69 rfl rfl rfl ?_
      refine wi_aload_n (i := 0) (pc' := 71) q339_70 rfl rfl rfl ?_
      refine wi_cp (u9 := (229, X)) (pc' := 74) wq339_71 rfl (cQ_height (Nat.le_refl _) p.ok p.hR) (fun _ => ⟨_, _, rfl⟩) rfl rfl (by (try dsimp only); omega) (by (try dsimp only); omega) ?_
      refine wi_icmp_ge (t := 161) (pc' := 77) q339_74 (by decide) rfl (by omega) (by omega) ?_ ?_
      · intro h9
        exact hk G k a4 (by omega) p
      · intro h9
        refine wi_iconst (pc' := 78) q339_77 rfl ?_
        refine wi_istore4 (pc' := 80) q339_78 rfl rfl (Or.inr rfl) ?_
        refine st_C (y := k) (o := dgB s k o) hb1 hb2 (by omega) ?_ 99 0 _ (by omega) (by omega) p
        intro G9 k2 hk2 p9
        refine wi_iinc3 (pc' := 158) q339_155 rfl rfl (Or.inr rfl) ?_
        refine wi_goto (t := 69) q339_158 (by decide) ?_
        rw [show ((k : Int) + 1) = ((k + 1 : Nat) : Int) by omega]
        obtain rfl : k2 = (s 0).toNat := by omega
        exact ih (k + 1) _ _ (by omega) (by omega) p9
theorem q339_163 : decode (zbc 339) 163 = .ok (.iload_n 3, 1) := by decide +kernel
theorem q339_164 : decode (zbc 339) 164 = .ok (.aload_n 0, 1) := by decide +kernel
theorem q339_165 : decode (zbc 339) 165 = .ok (.invokevirtual 254, 3) := by decide +kernel
theorem kx_1388 : Cond.methodLink "FalseLightMarshLaw" 254 yX8_lightCount ∈ zTs := z_in (i := 1388) (by decide +kernel) (by decide +kernel)
theorem kx_1389 : Cond.instanceMethod yX8_lightCount ∈ zTs := z_in (i := 1389) (by decide +kernel) (by decide +kernel)
theorem kx_1390 : Cond.selects "FalseLightMarsh" yX8_lightCount yX8_lightCount ∈ zTs := z_in (i := 1390) (by decide +kernel) (by decide +kernel)
theorem kx_1391 : Cond.code yX8_lightCount cX8_lightCount 1 (some .int) ∈ zTs := z_in (i := 1391) (by decide +kernel) (by decide +kernel)
theorem wq339_165 {L9 : Nat} {xs9 : Nat → Int32} {N9 : Nat} : z_SC N9 znl zTs (zZ L9 xs9 N9) zyn zbc zrt zfr zlo (fun _ i => i) ztb 339 165 3 219 1 := sc_V (P := fun _ i => i) (n' := 0) zTs_good q339_165 kx_1388 kx_1389 kx_1390 kx_32 kx_1391 rfl ⟨by decide, by decide, by decide +kernel⟩ rfl ⟨Nat.le_of_ble_eq_true rfl, Nat.le_of_ble_eq_true rfl⟩
theorem q339_168 : decode (zbc 339) 168 = .ok (.if_icmp .ge 74, 3) := by decide +kernel
theorem q339_171 : decode (zbc 339) 171 = .ok (.bipush 23, 2) := by decide +kernel
theorem q339_173 : decode (zbc 339) 173 = .ok (.istore 4, 2) := by decide +kernel
theorem q339_175 : decode (zbc 339) 175 = .ok (.iload 4, 2) := by decide +kernel
theorem q339_177 : decode (zbc 339) 177 = .ok (.bipush 28, 2) := by decide +kernel
theorem q339_179 : decode (zbc 339) 179 = .ok (.if_icmp .ge 57, 3) := by decide +kernel
theorem q339_182 : decode (zbc 339) 182 = .ok (.lload_n 1, 1) := by decide +kernel
theorem q339_183 : decode (zbc 339) 183 = .ok (.ldc2_w 244, 3) := by decide +kernel
theorem q339_186 : decode (zbc 339) 186 = .ok (.lmul, 1) := by decide +kernel
theorem q339_187 : decode (zbc 339) 187 = .ok (.aload_n 0, 1) := by decide +kernel
theorem q339_188 : decode (zbc 339) 188 = .ok (.iload 4, 2) := by decide +kernel
theorem q339_190 : decode (zbc 339) 190 = .ok (.iload_n 3, 1) := by decide +kernel
theorem q339_191 : decode (zbc 339) 191 = .ok (.invokestatic 185, 3) := by decide +kernel
theorem wq339_191 {L9 : Nat} {xs9 : Nat → Int32} {N9 : Nat} : z_SC N9 znl zTs (zZ L9 xs9 N9) zyn zbc zrt zfr zlo (fun _ i => i) ztb 339 191 2 336 3 := sc_S (P := fun _ i => i) zTs_good q339_191 kx_545 kx_546 kx_31 kx_547 rfl ⟨by decide, by decide, by decide +kernel⟩ ⟨Nat.le_of_ble_eq_true rfl, Nat.le_of_ble_eq_true rfl⟩
theorem q339_194 : decode (zbc 339) 194 = .ok (.i2l, 1) := by decide +kernel
theorem q339_195 : decode (zbc 339) 195 = .ok (.ladd, 1) := by decide +kernel
theorem q339_196 : decode (zbc 339) 196 = .ok (.iload 4, 2) := by decide +kernel
theorem q339_198 : decode (zbc 339) 198 = .ok (.bipush 27, 2) := by decide +kernel
theorem q339_200 : decode (zbc 339) 200 = .ok (.if_icmp .ne 26, 3) := by decide +kernel
theorem q339_226 : decode (zbc 339) 226 = .ok (.iconst 0, 1) := by decide +kernel
theorem q339_227 : decode (zbc 339) 227 = .ok (.i2l, 1) := by decide +kernel
theorem q339_228 : decode (zbc 339) 228 = .ok (.ladd, 1) := by decide +kernel
theorem q339_229 : decode (zbc 339) 229 = .ok (.lstore_n 1, 1) := by decide +kernel
theorem q339_230 : decode (zbc 339) 230 = .ok (.iinc 4 1, 3) := by decide +kernel
theorem q339_233 : decode (zbc 339) 233 = .ok (.goto (-58), 3) := by decide +kernel
theorem q339_203 : decode (zbc 339) 203 = .ok (.aload_n 0, 1) := by decide +kernel
theorem q339_204 : decode (zbc 339) 204 = .ok (.bipush 27, 2) := by decide +kernel
theorem q339_206 : decode (zbc 339) 206 = .ok (.iload_n 3, 1) := by decide +kernel
theorem q339_207 : decode (zbc 339) 207 = .ok (.invokestatic 185, 3) := by decide +kernel
theorem wq339_207 {L9 : Nat} {xs9 : Nat → Int32} {N9 : Nat} : z_SC N9 znl zTs (zZ L9 xs9 N9) zyn zbc zrt zfr zlo (fun _ i => i) ztb 339 207 2 336 3 := sc_S (P := fun _ i => i) zTs_good q339_207 kx_545 kx_546 kx_31 kx_547 rfl ⟨by decide, by decide, by decide +kernel⟩ ⟨Nat.le_of_ble_eq_true rfl, Nat.le_of_ble_eq_true rfl⟩
theorem q339_210 : decode (zbc 339) 210 = .ok (.iconst 1, 1) := by decide +kernel
theorem q339_211 : decode (zbc 339) 211 = .ok (.if_icmp .ne 15, 3) := by decide +kernel
theorem q339_236 : decode (zbc 339) 236 = .ok (.iinc 3 1, 3) := by decide +kernel
theorem q339_239 : decode (zbc 339) 239 = .ok (.goto (-76), 3) := by decide +kernel
theorem q339_214 : decode (zbc 339) 214 = .ok (.iconst 3, 1) := by decide +kernel
theorem q339_215 : decode (zbc 339) 215 = .ok (.aload_n 0, 1) := by decide +kernel
theorem q339_216 : decode (zbc 339) 216 = .ok (.bipush 28, 2) := by decide +kernel
theorem q339_218 : decode (zbc 339) 218 = .ok (.iload_n 3, 1) := by decide +kernel
theorem q339_219 : decode (zbc 339) 219 = .ok (.invokestatic 185, 3) := by decide +kernel
theorem wq339_219 {L9 : Nat} {xs9 : Nat → Int32} {N9 : Nat} : z_SC N9 znl zTs (zZ L9 xs9 N9) zyn zbc zrt zfr zlo (fun _ i => i) ztb 339 219 2 336 3 := sc_S (P := fun _ i => i) zTs_good q339_219 kx_545 kx_546 kx_31 kx_547 rfl ⟨by decide, by decide, by decide +kernel⟩ ⟨Nat.le_of_ble_eq_true rfl, Nat.le_of_ble_eq_true rfl⟩
theorem q339_222 : decode (zbc 339) 222 = .ok (.imul, 1) := by decide +kernel
theorem q339_223 : decode (zbc 339) 223 = .ok (.goto 4, 3) := by decide +kernel
theorem st_L {X : Nat × (Nat → Int32)} {B : Int} {sv : Nat → Int → Int} {u : Int} {h : Nat → Int → Int} {s : Int → Int} {b : WB} {c d : Nat} {F : GM} {Y : DY} {Q : WQ} (hb1 : c ≤ b.1) (hb2 : d ≤ b.2.1) {o : Int} (hk : ∀ G (k : Nat) (a4 : Value), (k : Int) = s 4 → PG B sv u h s G → wW (229, X) 339 b 242 [.ref 192, .long (zl (dgL s k o)), .null, .int (zi (k : Int)), a4] [] G F Y c d Q) : ∀ (d9 : Nat) (k : Nat) (a4 : Value) (G : GM), s 4 - (k : Int) < (d9 : Int) → (k : Int) ≤ s 4 → PG B sv u h s G → wW (229, X) 339 b 163 [.ref 192, .long (zl (dgL s k o)), .null, .int (zi (k : Int)), a4] [] G F Y c d Q := by
  intro d9
  induction d9 with
  | zero =>
    intro k
    intros
    exact absurd (by assumption) (by omega)
  | succ d9 ih =>
      intro k a4 G hd hk9 p
      have a4b := p.ok.2.2.2.2.1
      refine wi_iload_n (i := 3) (pc' := 164) q339_163 rfl rfl rfl ?_
      refine wi_aload_n (i := 0) (pc' := 165) q339_164 rfl rfl rfl ?_
      refine wi_cp (u9 := (229, X)) (pc' := 168) wq339_165 rfl (cQ_lightCount (Nat.le_refl _) p.ok p.hR) (fun _ => ⟨_, _, rfl⟩) rfl rfl (by (try dsimp only); omega) (by (try dsimp only); omega) ?_
      refine wi_icmp_ge (t := 242) (pc' := 171) q339_168 (by decide) rfl (by omega) (by omega) ?_ ?_
      · intro h9
        exact hk G k a4 (by omega) p
      · intro h9
        have hl9 := mOk_lt p.ok (l := (k : Int)) (by omega) (by omega)
        obtain ⟨l1, l2, l3, l4, l5⟩ := hl9
        refine wi_bipush (pc' := 173) q339_171 rfl (by decide) ?_
        refine wi_istore4 (pc' := 175) q339_173 rfl rfl (Or.inr rfl) ?_
        refine wi_iload (i := 4) (pc' := 177) q339_175 rfl rfl ?_
        refine wi_bipush (pc' := 179) q339_177 rfl (by decide) ?_
        refine wi_icmp_ge (t := 236) (pc' := 182) q339_179 (by decide) rfl (by omega) (by omega) (fun h => absurd h (by decide)) (fun _ => ?_)
        refine wi_lload_n (i := 1) (pc' := 183) q339_182 rfl rfl rfl ?_
        refine wi_ldc2 (z := 31) (pc' := 186) q339_183 rfl kx_1379 (by decide +kernel) ?_
        refine wi_lmul (pc' := 187) q339_186 rfl ?_
        refine wi_aload_n (i := 0) (pc' := 188) q339_187 rfl rfl rfl ?_
        refine wi_iload (i := 4) (pc' := 190) q339_188 rfl rfl ?_
        refine wi_iload_n (i := 3) (pc' := 191) q339_190 rfl rfl rfl ?_
        refine wi_cv (u9 := (229, X)) (pc' := 194) wq339_191 rfl (cL_s2 (pL_lightColumn p (by omega)) zLc_i) (fun h => absurd h (by decide)) rfl rfl (vL_light (l := (k : Int)) (f := 0) p.ok (by omega) (by omega)).1 (by (try dsimp only); omega) (by (try dsimp only); omega) ?_
        intro Gp1 p1
        rw [(vL_light (l := (k : Int)) (f := 0) p.ok (by omega) (by omega)).2]
        refine wi_i2l (pc' := 195) q339_194 rfl ((by omega)) ?_
        refine wi_ladd (pc' := 196) q339_195 rfl ?_
        refine wi_iload (i := 4) (pc' := 198) q339_196 rfl rfl ?_
        refine wi_bipush (pc' := 200) q339_198 rfl (by decide) ?_
        refine wi_icmp_ne (t := 226) (pc' := 203) q339_200 (by decide) rfl (by omega) (by omega) (fun _ => ?_) (fun h => absurd h (by decide))
        refine wi_iconst (pc' := 227) q339_226 rfl ?_
        refine wi_i2l (pc' := 228) q339_227 rfl (by omega) ?_
        refine wi_ladd (pc' := 229) q339_228 rfl ?_
        refine wi_lstore1 (pc' := 230) q339_229 rfl rfl rfl rfl (Or.inr rfl) ?_
        refine wi_iinc4 (pc' := 233) q339_230 rfl rfl (Or.inr rfl) ?_
        rw [show ((23 + 1) : Int) = 24 from rfl]
        refine wi_goto (t := 175) q339_233 (by decide) ?_
        refine wi_iload (i := 4) (pc' := 177) q339_175 rfl rfl ?_
        refine wi_bipush (pc' := 179) q339_177 rfl (by decide) ?_
        refine wi_icmp_ge (t := 236) (pc' := 182) q339_179 (by decide) rfl (by omega) (by omega) (fun h => absurd h (by decide)) (fun _ => ?_)
        refine wi_lload_n (i := 1) (pc' := 183) q339_182 rfl rfl rfl ?_
        refine wi_ldc2 (z := 31) (pc' := 186) q339_183 rfl kx_1379 (by decide +kernel) ?_
        refine wi_lmul (pc' := 187) q339_186 rfl ?_
        refine wi_aload_n (i := 0) (pc' := 188) q339_187 rfl rfl rfl ?_
        refine wi_iload (i := 4) (pc' := 190) q339_188 rfl rfl ?_
        refine wi_iload_n (i := 3) (pc' := 191) q339_190 rfl rfl rfl ?_
        refine wi_cv (u9 := (229, X)) (pc' := 194) wq339_191 rfl (cL_s2 (pL_lightRow p1 (by omega)) zLc_i) (fun h => absurd h (by decide)) rfl rfl (vL_light (l := (k : Int)) (f := 1) p1.ok (by omega) (by omega)).1 (by (try dsimp only); omega) (by (try dsimp only); omega) ?_
        intro Gp2 p2
        rw [(vL_light (l := (k : Int)) (f := 1) p1.ok (by omega) (by omega)).2]
        refine wi_i2l (pc' := 195) q339_194 rfl ((by omega)) ?_
        refine wi_ladd (pc' := 196) q339_195 rfl ?_
        refine wi_iload (i := 4) (pc' := 198) q339_196 rfl rfl ?_
        refine wi_bipush (pc' := 200) q339_198 rfl (by decide) ?_
        refine wi_icmp_ne (t := 226) (pc' := 203) q339_200 (by decide) rfl (by omega) (by omega) (fun _ => ?_) (fun h => absurd h (by decide))
        refine wi_iconst (pc' := 227) q339_226 rfl ?_
        refine wi_i2l (pc' := 228) q339_227 rfl (by omega) ?_
        refine wi_ladd (pc' := 229) q339_228 rfl ?_
        refine wi_lstore1 (pc' := 230) q339_229 rfl rfl rfl rfl (Or.inr rfl) ?_
        refine wi_iinc4 (pc' := 233) q339_230 rfl rfl (Or.inr rfl) ?_
        rw [show ((24 + 1) : Int) = 25 from rfl]
        refine wi_goto (t := 175) q339_233 (by decide) ?_
        refine wi_iload (i := 4) (pc' := 177) q339_175 rfl rfl ?_
        refine wi_bipush (pc' := 179) q339_177 rfl (by decide) ?_
        refine wi_icmp_ge (t := 236) (pc' := 182) q339_179 (by decide) rfl (by omega) (by omega) (fun h => absurd h (by decide)) (fun _ => ?_)
        refine wi_lload_n (i := 1) (pc' := 183) q339_182 rfl rfl rfl ?_
        refine wi_ldc2 (z := 31) (pc' := 186) q339_183 rfl kx_1379 (by decide +kernel) ?_
        refine wi_lmul (pc' := 187) q339_186 rfl ?_
        refine wi_aload_n (i := 0) (pc' := 188) q339_187 rfl rfl rfl ?_
        refine wi_iload (i := 4) (pc' := 190) q339_188 rfl rfl ?_
        refine wi_iload_n (i := 3) (pc' := 191) q339_190 rfl rfl rfl ?_
        refine wi_cv (u9 := (229, X)) (pc' := 194) wq339_191 rfl (cL_s2 (pL_brightness p2 (by omega)) zLc_i) (fun h => absurd h (by decide)) rfl rfl (vL_light (l := (k : Int)) (f := 2) p2.ok (by omega) (by omega)).1 (by (try dsimp only); omega) (by (try dsimp only); omega) ?_
        intro Gp3 p3
        rw [(vL_light (l := (k : Int)) (f := 2) p2.ok (by omega) (by omega)).2]
        refine wi_i2l (pc' := 195) q339_194 rfl ((by omega)) ?_
        refine wi_ladd (pc' := 196) q339_195 rfl ?_
        refine wi_iload (i := 4) (pc' := 198) q339_196 rfl rfl ?_
        refine wi_bipush (pc' := 200) q339_198 rfl (by decide) ?_
        refine wi_icmp_ne (t := 226) (pc' := 203) q339_200 (by decide) rfl (by omega) (by omega) (fun _ => ?_) (fun h => absurd h (by decide))
        refine wi_iconst (pc' := 227) q339_226 rfl ?_
        refine wi_i2l (pc' := 228) q339_227 rfl (by omega) ?_
        refine wi_ladd (pc' := 229) q339_228 rfl ?_
        refine wi_lstore1 (pc' := 230) q339_229 rfl rfl rfl rfl (Or.inr rfl) ?_
        refine wi_iinc4 (pc' := 233) q339_230 rfl rfl (Or.inr rfl) ?_
        rw [show ((25 + 1) : Int) = 26 from rfl]
        refine wi_goto (t := 175) q339_233 (by decide) ?_
        refine wi_iload (i := 4) (pc' := 177) q339_175 rfl rfl ?_
        refine wi_bipush (pc' := 179) q339_177 rfl (by decide) ?_
        refine wi_icmp_ge (t := 236) (pc' := 182) q339_179 (by decide) rfl (by omega) (by omega) (fun h => absurd h (by decide)) (fun _ => ?_)
        refine wi_lload_n (i := 1) (pc' := 183) q339_182 rfl rfl rfl ?_
        refine wi_ldc2 (z := 31) (pc' := 186) q339_183 rfl kx_1379 (by decide +kernel) ?_
        refine wi_lmul (pc' := 187) q339_186 rfl ?_
        refine wi_aload_n (i := 0) (pc' := 188) q339_187 rfl rfl rfl ?_
        refine wi_iload (i := 4) (pc' := 190) q339_188 rfl rfl ?_
        refine wi_iload_n (i := 3) (pc' := 191) q339_190 rfl rfl rfl ?_
        refine wi_cv (u9 := (229, X)) (pc' := 194) wq339_191 rfl (cL_s2 (pL_isTrueLight p3 (by omega)) zLc_i) (fun h => absurd h (by decide)) rfl rfl (vL_isTrue (s := s) (l := (k : Int)) (by omega)).1 (by (try dsimp only); omega) (by (try dsimp only); omega) ?_
        intro Gp4 p4
        rw [(vL_isTrue (s := s) (l := (k : Int)) (by omega)).2]
        refine wi_i2l (pc' := 195) q339_194 rfl (zr_zb) ?_
        refine wi_ladd (pc' := 196) q339_195 rfl ?_
        refine wi_iload (i := 4) (pc' := 198) q339_196 rfl rfl ?_
        refine wi_bipush (pc' := 200) q339_198 rfl (by decide) ?_
        refine wi_icmp_ne (t := 226) (pc' := 203) q339_200 (by decide) rfl (by omega) (by omega) (fun _ => ?_) (fun h => absurd h (by decide))
        refine wi_iconst (pc' := 227) q339_226 rfl ?_
        refine wi_i2l (pc' := 228) q339_227 rfl (by omega) ?_
        refine wi_ladd (pc' := 229) q339_228 rfl ?_
        refine wi_lstore1 (pc' := 230) q339_229 rfl rfl rfl rfl (Or.inr rfl) ?_
        refine wi_iinc4 (pc' := 233) q339_230 rfl rfl (Or.inr rfl) ?_
        rw [show ((26 + 1) : Int) = 27 from rfl]
        refine wi_goto (t := 175) q339_233 (by decide) ?_
        refine wi_iload (i := 4) (pc' := 177) q339_175 rfl rfl ?_
        refine wi_bipush (pc' := 179) q339_177 rfl (by decide) ?_
        refine wi_icmp_ge (t := 236) (pc' := 182) q339_179 (by decide) rfl (by omega) (by omega) (fun h => absurd h (by decide)) (fun _ => ?_)
        refine wi_lload_n (i := 1) (pc' := 183) q339_182 rfl rfl rfl ?_
        refine wi_ldc2 (z := 31) (pc' := 186) q339_183 rfl kx_1379 (by decide +kernel) ?_
        refine wi_lmul (pc' := 187) q339_186 rfl ?_
        refine wi_aload_n (i := 0) (pc' := 188) q339_187 rfl rfl rfl ?_
        refine wi_iload (i := 4) (pc' := 190) q339_188 rfl rfl ?_
        refine wi_iload_n (i := 3) (pc' := 191) q339_190 rfl rfl rfl ?_
        refine wi_cv (u9 := (229, X)) (pc' := 194) wq339_191 rfl (cL_s2 (pL_hasSuccessor p4 (by omega)) zLc_i) (fun h => absurd h (by decide)) rfl rfl (vL_hasSucc (s := s) (l := (k : Int)) (by omega)).1 (by (try dsimp only); omega) (by (try dsimp only); omega) ?_
        intro Gp5 p5
        rw [(vL_hasSucc (s := s) (l := (k : Int)) (by omega)).2]
        refine wi_i2l (pc' := 195) q339_194 rfl (zr_zb) ?_
        refine wi_ladd (pc' := 196) q339_195 rfl ?_
        refine wi_iload (i := 4) (pc' := 198) q339_196 rfl rfl ?_
        refine wi_bipush (pc' := 200) q339_198 rfl (by decide) ?_
        refine wi_icmp_ne (t := 226) (pc' := 203) q339_200 (by decide) rfl (by omega) (by omega) (fun h => absurd rfl h) (fun _ => ?_)
        refine wi_aload_n (i := 0) (pc' := 204) q339_203 rfl rfl rfl ?_
        refine wi_bipush (pc' := 206) q339_204 rfl (by decide) ?_
        refine wi_iload_n (i := 3) (pc' := 207) q339_206 rfl rfl rfl ?_
        refine wi_cv (u9 := (229, X)) (pc' := 210) wq339_207 rfl (cL_s2 (pL_hasSuccessor p5 (by omega)) zLc_i) (fun h => absurd h (by decide)) rfl rfl (vL_hasSucc (s := s) (l := (k : Int)) (by omega)).1 (by (try dsimp only); omega) (by (try dsimp only); omega) ?_
        intro Gp6 p6
        rw [(vL_hasSucc (s := s) (l := (k : Int)) (by omega)).2]
        refine wi_iconst (pc' := 211) q339_210 rfl ?_
        refine wi_icmp_ne (t := 226) (pc' := 214) q339_211 (by decide) rfl zr_zb (by omega) ?_ ?_
        · intro h8
          have hp8 : ¬ 0 ≤ s (174 + 5 * (k : Int) + 4) := fun h => h8 (zb_one.mpr h)
          refine wi_iconst (pc' := 227) q339_226 rfl ?_
          refine wi_i2l (pc' := 228) q339_227 rfl (by omega) ?_
          refine wi_ladd (pc' := 229) q339_228 rfl ?_
          refine wi_lstore1 (pc' := 230) q339_229 rfl rfl rfl rfl (Or.inr rfl) ?_
          refine wi_iinc4 (pc' := 233) q339_230 rfl rfl (Or.inr rfl) ?_
          rw [show ((27 + 1) : Int) = 28 from rfl]
          refine wi_goto (t := 175) q339_233 (by decide) ?_
          refine wi_iload (i := 4) (pc' := 177) q339_175 rfl rfl ?_
          refine wi_bipush (pc' := 179) q339_177 rfl (by decide) ?_
          refine wi_icmp_ge (t := 236) (pc' := 182) q339_179 (by decide) rfl (by omega) (by omega) (fun _ => ?_) (fun h => absurd h (by decide))
          refine wi_iinc3 (pc' := 239) q339_236 rfl rfl (Or.inr rfl) ?_
          refine wi_goto (t := 163) q339_239 (by decide) ?_
          rw [show (((((((((((((((((dgL s k o) * 31) + (s (174 + 5 * (k : Int) + 0))) + 0) * 31) + (s (174 + 5 * (k : Int) + 1))) + 0) * 31) + (s (174 + 5 * (k : Int) + 2))) + 0) * 31) + (zb (s (174 + 5 * (k : Int) + 3) = 1))) + 0) * 31) + (zb (0 ≤ s (174 + 5 * (k : Int) + 4)))) + 0) : Int) = dgL s (k + 1) o from by show _ = dgL1 s (k : Int) (dgL s k o); unfold dgL1; rw [if_neg hp8], show ((k : Int) + 1) = ((k + 1 : Nat) : Int) by omega]
          exact ih (k + 1) _ _ (by omega) (by omega) p6
        · intro h8
          have hp8 : 0 ≤ s (174 + 5 * (k : Int) + 4) := zb_one.mp h8
          refine wi_iconst (pc' := 215) q339_214 rfl ?_
          refine wi_aload_n (i := 0) (pc' := 216) q339_215 rfl rfl rfl ?_
          refine wi_bipush (pc' := 218) q339_216 rfl (by decide) ?_
          refine wi_iload_n (i := 3) (pc' := 219) q339_218 rfl rfl rfl ?_
          refine wi_cv (u9 := (229, X)) (pc' := 222) wq339_219 rfl (cL_s2 (pL_successor p6 (by omega)) zLc_i) (fun h => absurd h (by decide)) rfl rfl (vL_succ (l := (k : Int)) p6.ok (by omega) hp8).1 (by (try dsimp only); omega) (by (try dsimp only); omega) ?_
          intro Gp7 p7
          rw [(vL_succ (l := (k : Int)) p6.ok (by omega) hp8).2]
          refine wi_imul (pc' := 223) q339_222 rfl ?_
          refine wi_goto (t := 227) q339_223 (by decide) ?_
          refine wi_i2l (pc' := 228) q339_227 rfl (by omega) ?_
          refine wi_ladd (pc' := 229) q339_228 rfl ?_
          refine wi_lstore1 (pc' := 230) q339_229 rfl rfl rfl rfl (Or.inr rfl) ?_
          refine wi_iinc4 (pc' := 233) q339_230 rfl rfl (Or.inr rfl) ?_
          rw [show ((27 + 1) : Int) = 28 from rfl]
          refine wi_goto (t := 175) q339_233 (by decide) ?_
          refine wi_iload (i := 4) (pc' := 177) q339_175 rfl rfl ?_
          refine wi_bipush (pc' := 179) q339_177 rfl (by decide) ?_
          refine wi_icmp_ge (t := 236) (pc' := 182) q339_179 (by decide) rfl (by omega) (by omega) (fun _ => ?_) (fun h => absurd h (by decide))
          refine wi_iinc3 (pc' := 239) q339_236 rfl rfl (Or.inr rfl) ?_
          refine wi_goto (t := 163) q339_239 (by decide) ?_
          rw [show (((((((((((((((((dgL s k o) * 31) + (s (174 + 5 * (k : Int) + 0))) + 0) * 31) + (s (174 + 5 * (k : Int) + 1))) + 0) * 31) + (s (174 + 5 * (k : Int) + 2))) + 0) * 31) + (zb (s (174 + 5 * (k : Int) + 3) = 1))) + 0) * 31) + (zb (0 ≤ s (174 + 5 * (k : Int) + 4)))) + (3 * (s (174 + 5 * (k : Int) + 4)))) : Int) = dgL s (k + 1) o from by show _ = dgL1 s (k : Int) (dgL s k o); unfold dgL1; rw [if_pos hp8], show ((k : Int) + 1) = ((k + 1 : Nat) : Int) by omega]
          exact ih (k + 1) _ _ (by omega) (by omega) p7
theorem q339_287 : decode (zbc 339) 287 = .ok (.iload 4, 2) := by decide +kernel
theorem q339_289 : decode (zbc 339) 289 = .ok (.aload_n 0, 1) := by decide +kernel
theorem q339_290 : decode (zbc 339) 290 = .ok (.invokevirtual 254, 3) := by decide +kernel
theorem wq339_290 {L9 : Nat} {xs9 : Nat → Int32} {N9 : Nat} : z_SC N9 znl zTs (zZ L9 xs9 N9) zyn zbc zrt zfr zlo (fun _ i => i) ztb 339 290 3 219 1 := sc_V (P := fun _ i => i) (n' := 0) zTs_good q339_290 kx_1388 kx_1389 kx_1390 kx_32 kx_1391 rfl ⟨by decide, by decide, by decide +kernel⟩ rfl ⟨Nat.le_of_ble_eq_true rfl, Nat.le_of_ble_eq_true rfl⟩
theorem q339_293 : decode (zbc 339) 293 = .ok (.if_icmp .ge 39, 3) := by decide +kernel
theorem q339_296 : decode (zbc 339) 296 = .ok (.lload_n 1, 1) := by decide +kernel
theorem kx_1393 : Cond.constantLong "FalseLightMarshLaw" 262 5 ∈ zTs := z_in (i := 1393) (by decide +kernel) (by decide +kernel)
theorem q339_297 : decode (zbc 339) 297 = .ok (.ldc2_w 262, 3) := by decide +kernel
theorem q339_300 : decode (zbc 339) 300 = .ok (.lmul, 1) := by decide +kernel
theorem q339_301 : decode (zbc 339) 301 = .ok (.aload_n 0, 1) := by decide +kernel
theorem q339_302 : decode (zbc 339) 302 = .ok (.bipush 39, 2) := by decide +kernel
theorem q339_304 : decode (zbc 339) 304 = .ok (.iload_n 3, 1) := by decide +kernel
theorem q339_305 : decode (zbc 339) 305 = .ok (.iload 4, 2) := by decide +kernel
theorem q339_307 : decode (zbc 339) 307 = .ok (.invokestatic 251, 3) := by decide +kernel
theorem wq339_307 {L9 : Nat} {xs9 : Nat → Int32} {N9 : Nat} : z_SC N9 znl zTs (zZ L9 xs9 N9) zyn zbc zrt zfr zlo (fun _ i => i) ztb 339 307 2 335 4 := sc_S (P := fun _ i => i) zTs_good q339_307 kx_1385 kx_1386 kx_31 kx_1387 rfl ⟨by decide, by decide, by decide +kernel⟩ ⟨Nat.le_of_ble_eq_true rfl, Nat.le_of_ble_eq_true rfl⟩
theorem q339_310 : decode (zbc 339) 310 = .ok (.i2l, 1) := by decide +kernel
theorem q339_311 : decode (zbc 339) 311 = .ok (.ladd, 1) := by decide +kernel
theorem q339_312 : decode (zbc 339) 312 = .ok (.iconst 2, 1) := by decide +kernel
theorem q339_313 : decode (zbc 339) 313 = .ok (.aload_n 0, 1) := by decide +kernel
theorem q339_314 : decode (zbc 339) 314 = .ok (.bipush 40, 2) := by decide +kernel
theorem q339_316 : decode (zbc 339) 316 = .ok (.iload_n 3, 1) := by decide +kernel
theorem q339_317 : decode (zbc 339) 317 = .ok (.iload 4, 2) := by decide +kernel
theorem q339_319 : decode (zbc 339) 319 = .ok (.invokestatic 251, 3) := by decide +kernel
theorem wq339_319 {L9 : Nat} {xs9 : Nat → Int32} {N9 : Nat} : z_SC N9 znl zTs (zZ L9 xs9 N9) zyn zbc zrt zfr zlo (fun _ i => i) ztb 339 319 2 335 4 := sc_S (P := fun _ i => i) zTs_good q339_319 kx_1385 kx_1386 kx_31 kx_1387 rfl ⟨by decide, by decide, by decide +kernel⟩ ⟨Nat.le_of_ble_eq_true rfl, Nat.le_of_ble_eq_true rfl⟩
theorem q339_322 : decode (zbc 339) 322 = .ok (.imul, 1) := by decide +kernel
theorem q339_323 : decode (zbc 339) 323 = .ok (.i2l, 1) := by decide +kernel
theorem q339_324 : decode (zbc 339) 324 = .ok (.ladd, 1) := by decide +kernel
theorem q339_325 : decode (zbc 339) 325 = .ok (.lstore_n 1, 1) := by decide +kernel
theorem q339_326 : decode (zbc 339) 326 = .ok (.iinc 4 1, 3) := by decide +kernel
theorem q339_329 : decode (zbc 339) 329 = .ok (.goto (-42), 3) := by decide +kernel
theorem st_P {X : Nat × (Nat → Int32)} {B : Int} {sv : Nat → Int → Int} {u : Int} {h : Nat → Int → Int} {s : Int → Int} {b : WB} {c d : Nat} {F : GM} {Y : DY} {Q : WQ} (hb1 : c ≤ b.1) (hb2 : d ≤ b.2.1) {o : Int} {t : Nat} (ht : (t : Int) < s 5) (hk : ∀ G (k : Nat), (k : Int) = s 4 → PG B sv u h s G → wW (229, X) 339 b 332 [.ref 192, .long (zl (dgP s (t : Int) k o)), .null, .int (zi (t : Int)), .int (zi (k : Int))] [] G F Y c d Q) : ∀ (d9 : Nat) (k : Nat) (G : GM), s 4 - (k : Int) < (d9 : Int) → (k : Int) ≤ s 4 → PG B sv u h s G → wW (229, X) 339 b 287 [.ref 192, .long (zl (dgP s (t : Int) k o)), .null, .int (zi (t : Int)), .int (zi (k : Int))] [] G F Y c d Q := by
  intro d9
  induction d9 with
  | zero =>
    intro k
    intros
    exact absurd (by assumption) (by omega)
  | succ d9 ih =>
      intro k G hd hk9 p
      have a4b := p.ok.2.2.2.2.1
      have a5b := p.ok.2.2.2.2.2.1
      refine wi_iload (i := 4) (pc' := 289) q339_287 rfl rfl ?_
      refine wi_aload_n (i := 0) (pc' := 290) q339_289 rfl rfl rfl ?_
      refine wi_cp (u9 := (229, X)) (pc' := 293) wq339_290 rfl (cQ_lightCount (Nat.le_refl _) p.ok p.hR) (fun _ => ⟨_, _, rfl⟩) rfl rfl (by (try dsimp only); omega) (by (try dsimp only); omega) ?_
      refine wi_icmp_ge (t := 332) (pc' := 296) q339_293 (by decide) rfl (by omega) (by omega) ?_ ?_
      · intro h9
        exact hk G k (by omega) p
      · intro h9
        refine wi_lload_n (i := 1) (pc' := 297) q339_296 rfl rfl rfl ?_
        refine wi_ldc2 (z := 5) (pc' := 300) q339_297 rfl kx_1393 (by decide +kernel) ?_
        refine wi_lmul (pc' := 301) q339_300 rfl ?_
        refine wi_aload_n (i := 0) (pc' := 302) q339_301 rfl rfl rfl ?_
        refine wi_bipush (pc' := 304) q339_302 rfl (by decide) ?_
        refine wi_iload_n (i := 3) (pc' := 305) q339_304 rfl rfl rfl ?_
        refine wi_iload (i := 4) (pc' := 307) q339_305 rfl rfl ?_
        refine wi_cv (u9 := (229, X)) (pc' := 310) wq339_307 rfl (cL_s3 (pL_hasPassed p (by omega) (by omega)) zLc_i) (fun h => absurd h (by decide)) rfl rfl (vL_passed (s := s) (t := (t : Int)) (l := (k : Int)) (by omega) (by omega)).1 (by (try dsimp only); omega) (by (try dsimp only); omega) ?_
        intro Gp1 p1
        rw [(vL_passed (s := s) (t := (t : Int)) (l := (k : Int)) (by omega) (by omega)).2]
        refine wi_i2l (pc' := 311) q339_310 rfl (zr_zb) ?_
        refine wi_ladd (pc' := 312) q339_311 rfl ?_
        refine wi_iconst (pc' := 313) q339_312 rfl ?_
        refine wi_aload_n (i := 0) (pc' := 314) q339_313 rfl rfl rfl ?_
        refine wi_bipush (pc' := 316) q339_314 rfl (by decide) ?_
        refine wi_iload_n (i := 3) (pc' := 317) q339_316 rfl rfl rfl ?_
        refine wi_iload (i := 4) (pc' := 319) q339_317 rfl rfl ?_
        refine wi_cv (u9 := (229, X)) (pc' := 322) wq339_319 rfl (cL_s3 (pL_distrusts p1 (by omega) (by omega)) zLc_i) (fun h => absurd h (by decide)) rfl rfl (vL_distr (s := s) (t := (t : Int)) (l := (k : Int)) (by omega) (by omega)).1 (by (try dsimp only); omega) (by (try dsimp only); omega) ?_
        intro Gp2 p2
        rw [(vL_distr (s := s) (t := (t : Int)) (l := (k : Int)) (by omega) (by omega)).2]
        refine wi_imul (pc' := 323) q339_322 rfl ?_
        refine wi_i2l (pc' := 324) q339_323 rfl (zr_2zb) ?_
        refine wi_ladd (pc' := 325) q339_324 rfl ?_
        refine wi_lstore1 (pc' := 326) q339_325 rfl rfl rfl rfl (Or.inr rfl) ?_
        refine wi_iinc4 (pc' := 329) q339_326 rfl rfl (Or.inr rfl) ?_
        refine wi_goto (t := 287) q339_329 (by decide) ?_
        rw [show ((k : Int) + 1) = ((k + 1 : Nat) : Int) by omega]
        exact ih (k + 1) _ (by omega) (by omega) p2
theorem q339_244 : decode (zbc 339) 244 = .ok (.iload_n 3, 1) := by decide +kernel
theorem q339_245 : decode (zbc 339) 245 = .ok (.aload_n 0, 1) := by decide +kernel
theorem q339_246 : decode (zbc 339) 246 = .ok (.invokevirtual 257, 3) := by decide +kernel
theorem kx_541 : Cond.methodLink "FalseLightMarshLaw" 257 yX8_travellerCount ∈ zTs := z_in (i := 541) (by decide +kernel) (by decide +kernel)
theorem kx_542 : Cond.instanceMethod yX8_travellerCount ∈ zTs := z_in (i := 542) (by decide +kernel) (by decide +kernel)
theorem kx_543 : Cond.selects "FalseLightMarsh" yX8_travellerCount yX8_travellerCount ∈ zTs := z_in (i := 543) (by decide +kernel) (by decide +kernel)
theorem kx_544 : Cond.code yX8_travellerCount cX8_travellerCount 1 (some .int) ∈ zTs := z_in (i := 544) (by decide +kernel) (by decide +kernel)
theorem wq339_246 {L9 : Nat} {xs9 : Nat → Int32} {N9 : Nat} : z_SC N9 znl zTs (zZ L9 xs9 N9) zyn zbc zrt zfr zlo (fun _ i => i) ztb 339 246 3 228 1 := sc_V (P := fun _ i => i) (n' := 0) zTs_good q339_246 kx_541 kx_542 kx_543 kx_32 kx_544 rfl ⟨by decide, by decide, by decide +kernel⟩ rfl ⟨Nat.le_of_ble_eq_true rfl, Nat.le_of_ble_eq_true rfl⟩
theorem q339_249 : decode (zbc 339) 249 = .ok (.if_icmp .ge 89, 3) := by decide +kernel
theorem q339_252 : decode (zbc 339) 252 = .ok (.bipush 31, 2) := by decide +kernel
theorem q339_254 : decode (zbc 339) 254 = .ok (.istore 4, 2) := by decide +kernel
theorem q339_256 : decode (zbc 339) 256 = .ok (.iload 4, 2) := by decide +kernel
theorem q339_258 : decode (zbc 339) 258 = .ok (.bipush 39, 2) := by decide +kernel
theorem q339_260 : decode (zbc 339) 260 = .ok (.if_icmp .ge 24, 3) := by decide +kernel
theorem q339_263 : decode (zbc 339) 263 = .ok (.lload_n 1, 1) := by decide +kernel
theorem kx_1392 : Cond.constantLong "FalseLightMarshLaw" 260 103 ∈ zTs := z_in (i := 1392) (by decide +kernel) (by decide +kernel)
theorem q339_264 : decode (zbc 339) 264 = .ok (.ldc2_w 260, 3) := by decide +kernel
theorem q339_267 : decode (zbc 339) 267 = .ok (.lmul, 1) := by decide +kernel
theorem q339_268 : decode (zbc 339) 268 = .ok (.aload_n 0, 1) := by decide +kernel
theorem q339_269 : decode (zbc 339) 269 = .ok (.iload 4, 2) := by decide +kernel
theorem q339_271 : decode (zbc 339) 271 = .ok (.iload_n 3, 1) := by decide +kernel
theorem q339_272 : decode (zbc 339) 272 = .ok (.invokestatic 185, 3) := by decide +kernel
theorem wq339_272 {L9 : Nat} {xs9 : Nat → Int32} {N9 : Nat} : z_SC N9 znl zTs (zZ L9 xs9 N9) zyn zbc zrt zfr zlo (fun _ i => i) ztb 339 272 2 336 3 := sc_S (P := fun _ i => i) zTs_good q339_272 kx_545 kx_546 kx_31 kx_547 rfl ⟨by decide, by decide, by decide +kernel⟩ ⟨Nat.le_of_ble_eq_true rfl, Nat.le_of_ble_eq_true rfl⟩
theorem q339_275 : decode (zbc 339) 275 = .ok (.i2l, 1) := by decide +kernel
theorem q339_276 : decode (zbc 339) 276 = .ok (.ladd, 1) := by decide +kernel
theorem q339_277 : decode (zbc 339) 277 = .ok (.lstore_n 1, 1) := by decide +kernel
theorem q339_278 : decode (zbc 339) 278 = .ok (.iinc 4 1, 3) := by decide +kernel
theorem q339_281 : decode (zbc 339) 281 = .ok (.goto (-25), 3) := by decide +kernel
theorem q339_284 : decode (zbc 339) 284 = .ok (.iconst 0, 1) := by decide +kernel
theorem q339_285 : decode (zbc 339) 285 = .ok (.istore 4, 2) := by decide +kernel
theorem q339_332 : decode (zbc 339) 332 = .ok (.iinc 3 1, 3) := by decide +kernel
theorem q339_335 : decode (zbc 339) 335 = .ok (.goto (-91), 3) := by decide +kernel
theorem st_W {X : Nat × (Nat → Int32)} {B : Int} {sv : Nat → Int → Int} {u : Int} {h : Nat → Int → Int} {s : Int → Int} {b : WB} {c d : Nat} {F : GM} {Y : DY} {Q : WQ} (hb1 : c + 6 ≤ b.1) (hb2 : d + 36 ≤ b.2.1) {o : Int} (hk : ∀ G (k : Nat) (a4 : Value), (k : Int) = s 5 → PG B sv u h s G → wW (229, X) 339 b 338 [.ref 192, .long (zl (dgW s k o)), .null, .int (zi (k : Int)), a4] [] G F Y (c + k) (d + 6 * k) Q) : ∀ (d9 : Nat) (k : Nat) (a4 : Value) (G : GM), s 5 - (k : Int) < (d9 : Int) → (k : Int) ≤ s 5 → PG B sv u h s G → wW (229, X) 339 b 244 [.ref 192, .long (zl (dgW s k o)), .null, .int (zi (k : Int)), a4] [] G F Y (c + k) (d + 6 * k) Q := by
  intro d9
  induction d9 with
  | zero =>
    intro k
    intros
    exact absurd (by assumption) (by omega)
  | succ d9 ih =>
      intro k a4 G hd hk9 p
      have a4b := p.ok.2.2.2.2.1
      have a5b := p.ok.2.2.2.2.2.1
      refine wi_iload_n (i := 3) (pc' := 245) q339_244 rfl rfl rfl ?_
      refine wi_aload_n (i := 0) (pc' := 246) q339_245 rfl rfl rfl ?_
      refine wi_cp (u9 := (229, X)) (pc' := 249) wq339_246 rfl (cQ_travellerCount (Nat.le_refl _) p.ok p.hR) (fun _ => ⟨_, _, rfl⟩) rfl rfl (by (try dsimp only); omega) (by (try dsimp only); omega) ?_
      refine wi_icmp_ge (t := 338) (pc' := 252) q339_249 (by decide) rfl (by omega) (by omega) ?_ ?_
      · intro h9
        exact hk G k a4 (by omega) p
      · intro h9
        have hw9 := wOk_w p.ok (t := (k : Int)) ⟨by omega, by omega⟩
        obtain ⟨l1, l2, l3, l4, l5⟩ := hw9
        have a00 := p.ok.1
        have a01 := p.ok.2.1
        have a03 := p.ok.2.2.2.1
        refine wi_bipush (pc' := 254) q339_252 rfl (by decide) ?_
        refine wi_istore4 (pc' := 256) q339_254 rfl rfl (Or.inr rfl) ?_
        refine wi_iload (i := 4) (pc' := 258) q339_256 rfl rfl ?_
        refine wi_bipush (pc' := 260) q339_258 rfl (by decide) ?_
        refine wi_icmp_ge (t := 284) (pc' := 263) q339_260 (by decide) rfl (by omega) (by omega) (fun h => absurd h (by decide)) (fun _ => ?_)
        refine wi_lload_n (i := 1) (pc' := 264) q339_263 rfl rfl rfl ?_
        refine wi_ldc2 (z := 103) (pc' := 267) q339_264 rfl kx_1392 (by decide +kernel) ?_
        refine wi_lmul (pc' := 268) q339_267 rfl ?_
        refine wi_aload_n (i := 0) (pc' := 269) q339_268 rfl rfl rfl ?_
        refine wi_iload (i := 4) (pc' := 271) q339_269 rfl rfl ?_
        refine wi_iload_n (i := 3) (pc' := 272) q339_271 rfl rfl rfl ?_
        refine wi_cv (u9 := (229, X)) (pc' := 275) wq339_272 rfl (cL_s2 (pL_travellerColumn p (by omega)) zLc_i) (fun h => absurd h (by decide)) rfl rfl (vL_walker (t := (k : Int)) (f := 0) p.ok (by omega) (by omega)).1 (by (try dsimp only); omega) (by (try dsimp only); omega) ?_
        intro Gp1 p1
        rw [(vL_walker (t := (k : Int)) (f := 0) p.ok (by omega) (by omega)).2]
        refine wi_i2l (pc' := 276) q339_275 rfl ((by omega)) ?_
        refine wi_ladd (pc' := 277) q339_276 rfl ?_
        refine wi_lstore1 (pc' := 278) q339_277 rfl rfl rfl rfl (Or.inr rfl) ?_
        refine wi_iinc4 (pc' := 281) q339_278 rfl rfl (Or.inr rfl) ?_
        rw [show ((31 + 1) : Int) = 32 from rfl]
        refine wi_goto (t := 256) q339_281 (by decide) ?_
        refine wi_iload (i := 4) (pc' := 258) q339_256 rfl rfl ?_
        refine wi_bipush (pc' := 260) q339_258 rfl (by decide) ?_
        refine wi_icmp_ge (t := 284) (pc' := 263) q339_260 (by decide) rfl (by omega) (by omega) (fun h => absurd h (by decide)) (fun _ => ?_)
        refine wi_lload_n (i := 1) (pc' := 264) q339_263 rfl rfl rfl ?_
        refine wi_ldc2 (z := 103) (pc' := 267) q339_264 rfl kx_1392 (by decide +kernel) ?_
        refine wi_lmul (pc' := 268) q339_267 rfl ?_
        refine wi_aload_n (i := 0) (pc' := 269) q339_268 rfl rfl rfl ?_
        refine wi_iload (i := 4) (pc' := 271) q339_269 rfl rfl ?_
        refine wi_iload_n (i := 3) (pc' := 272) q339_271 rfl rfl rfl ?_
        refine wi_cv (u9 := (229, X)) (pc' := 275) wq339_272 rfl (cL_s2 (pL_travellerRow p1 (by omega)) zLc_i) (fun h => absurd h (by decide)) rfl rfl (vL_walker (t := (k : Int)) (f := 1) p1.ok (by omega) (by omega)).1 (by (try dsimp only); omega) (by (try dsimp only); omega) ?_
        intro Gp2 p2
        rw [(vL_walker (t := (k : Int)) (f := 1) p1.ok (by omega) (by omega)).2]
        refine wi_i2l (pc' := 276) q339_275 rfl ((by omega)) ?_
        refine wi_ladd (pc' := 277) q339_276 rfl ?_
        refine wi_lstore1 (pc' := 278) q339_277 rfl rfl rfl rfl (Or.inr rfl) ?_
        refine wi_iinc4 (pc' := 281) q339_278 rfl rfl (Or.inr rfl) ?_
        rw [show ((32 + 1) : Int) = 33 from rfl]
        refine wi_goto (t := 256) q339_281 (by decide) ?_
        refine wi_iload (i := 4) (pc' := 258) q339_256 rfl rfl ?_
        refine wi_bipush (pc' := 260) q339_258 rfl (by decide) ?_
        refine wi_icmp_ge (t := 284) (pc' := 263) q339_260 (by decide) rfl (by omega) (by omega) (fun h => absurd h (by decide)) (fun _ => ?_)
        refine wi_lload_n (i := 1) (pc' := 264) q339_263 rfl rfl rfl ?_
        refine wi_ldc2 (z := 103) (pc' := 267) q339_264 rfl kx_1392 (by decide +kernel) ?_
        refine wi_lmul (pc' := 268) q339_267 rfl ?_
        refine wi_aload_n (i := 0) (pc' := 269) q339_268 rfl rfl rfl ?_
        refine wi_iload (i := 4) (pc' := 271) q339_269 rfl rfl ?_
        refine wi_iload_n (i := 3) (pc' := 272) q339_271 rfl rfl rfl ?_
        refine wi_cv (u9 := (229, X)) (pc' := 275) wq339_272 rfl (cL_s2 (pL_isWalking p2 (by omega)) zLc_i) (fun h => absurd h (by decide)) rfl rfl (vL_state (s := s) (t := (k : Int)) (f := 0) (by omega)).1 (by (try dsimp only); omega) (by (try dsimp only); omega) ?_
        intro Gp3 p3
        rw [(vL_state (s := s) (t := (k : Int)) (f := 0) (by omega)).2]
        refine wi_i2l (pc' := 276) q339_275 rfl (zr_zb) ?_
        refine wi_ladd (pc' := 277) q339_276 rfl ?_
        refine wi_lstore1 (pc' := 278) q339_277 rfl rfl rfl rfl (Or.inr rfl) ?_
        refine wi_iinc4 (pc' := 281) q339_278 rfl rfl (Or.inr rfl) ?_
        rw [show ((33 + 1) : Int) = 34 from rfl]
        refine wi_goto (t := 256) q339_281 (by decide) ?_
        refine wi_iload (i := 4) (pc' := 258) q339_256 rfl rfl ?_
        refine wi_bipush (pc' := 260) q339_258 rfl (by decide) ?_
        refine wi_icmp_ge (t := 284) (pc' := 263) q339_260 (by decide) rfl (by omega) (by omega) (fun h => absurd h (by decide)) (fun _ => ?_)
        refine wi_lload_n (i := 1) (pc' := 264) q339_263 rfl rfl rfl ?_
        refine wi_ldc2 (z := 103) (pc' := 267) q339_264 rfl kx_1392 (by decide +kernel) ?_
        refine wi_lmul (pc' := 268) q339_267 rfl ?_
        refine wi_aload_n (i := 0) (pc' := 269) q339_268 rfl rfl rfl ?_
        refine wi_iload (i := 4) (pc' := 271) q339_269 rfl rfl ?_
        refine wi_iload_n (i := 3) (pc' := 272) q339_271 rfl rfl rfl ?_
        refine wi_cv (u9 := (229, X)) (pc' := 275) wq339_272 rfl (cL_s2 (pL_hasArrived p3 (by omega)) zLc_i) (fun h => absurd h (by decide)) rfl rfl (vL_state (s := s) (t := (k : Int)) (f := 1) (by omega)).1 (by (try dsimp only); omega) (by (try dsimp only); omega) ?_
        intro Gp4 p4
        rw [(vL_state (s := s) (t := (k : Int)) (f := 1) (by omega)).2]
        refine wi_i2l (pc' := 276) q339_275 rfl (zr_zb) ?_
        refine wi_ladd (pc' := 277) q339_276 rfl ?_
        refine wi_lstore1 (pc' := 278) q339_277 rfl rfl rfl rfl (Or.inr rfl) ?_
        refine wi_iinc4 (pc' := 281) q339_278 rfl rfl (Or.inr rfl) ?_
        rw [show ((34 + 1) : Int) = 35 from rfl]
        refine wi_goto (t := 256) q339_281 (by decide) ?_
        refine wi_iload (i := 4) (pc' := 258) q339_256 rfl rfl ?_
        refine wi_bipush (pc' := 260) q339_258 rfl (by decide) ?_
        refine wi_icmp_ge (t := 284) (pc' := 263) q339_260 (by decide) rfl (by omega) (by omega) (fun h => absurd h (by decide)) (fun _ => ?_)
        refine wi_lload_n (i := 1) (pc' := 264) q339_263 rfl rfl rfl ?_
        refine wi_ldc2 (z := 103) (pc' := 267) q339_264 rfl kx_1392 (by decide +kernel) ?_
        refine wi_lmul (pc' := 268) q339_267 rfl ?_
        refine wi_aload_n (i := 0) (pc' := 269) q339_268 rfl rfl rfl ?_
        refine wi_iload (i := 4) (pc' := 271) q339_269 rfl rfl ?_
        refine wi_iload_n (i := 3) (pc' := 272) q339_271 rfl rfl rfl ?_
        refine wi_cv (u9 := (229, X)) (pc' := 275) wq339_272 rfl (cL_s2 (pL_hasSunk p4 (by omega)) zLc_i) (fun h => absurd h (by decide)) rfl rfl (vL_state (s := s) (t := (k : Int)) (f := 2) (by omega)).1 (by (try dsimp only); omega) (by (try dsimp only); omega) ?_
        intro Gp5 p5
        rw [(vL_state (s := s) (t := (k : Int)) (f := 2) (by omega)).2]
        refine wi_i2l (pc' := 276) q339_275 rfl (zr_zb) ?_
        refine wi_ladd (pc' := 277) q339_276 rfl ?_
        refine wi_lstore1 (pc' := 278) q339_277 rfl rfl rfl rfl (Or.inr rfl) ?_
        refine wi_iinc4 (pc' := 281) q339_278 rfl rfl (Or.inr rfl) ?_
        rw [show ((35 + 1) : Int) = 36 from rfl]
        refine wi_goto (t := 256) q339_281 (by decide) ?_
        refine wi_iload (i := 4) (pc' := 258) q339_256 rfl rfl ?_
        refine wi_bipush (pc' := 260) q339_258 rfl (by decide) ?_
        refine wi_icmp_ge (t := 284) (pc' := 263) q339_260 (by decide) rfl (by omega) (by omega) (fun h => absurd h (by decide)) (fun _ => ?_)
        refine wi_lload_n (i := 1) (pc' := 264) q339_263 rfl rfl rfl ?_
        refine wi_ldc2 (z := 103) (pc' := 267) q339_264 rfl kx_1392 (by decide +kernel) ?_
        refine wi_lmul (pc' := 268) q339_267 rfl ?_
        refine wi_aload_n (i := 0) (pc' := 269) q339_268 rfl rfl rfl ?_
        refine wi_iload (i := 4) (pc' := 271) q339_269 rfl rfl ?_
        refine wi_iload_n (i := 3) (pc' := 272) q339_271 rfl rfl rfl ?_
        refine wi_cv (u9 := (229, X)) (pc' := 275) wq339_272 rfl (cL_s2 (pL_stepsTaken p5 (by omega)) zLc_i) (fun h => absurd h (by decide)) rfl rfl (vL_walker (t := (k : Int)) (f := 6) p5.ok (by omega) (by omega)).1 (by (try dsimp only); omega) (by (try dsimp only); omega) ?_
        intro Gp6 p6
        rw [(vL_walker (t := (k : Int)) (f := 6) p5.ok (by omega) (by omega)).2]
        refine wi_i2l (pc' := 276) q339_275 rfl ((by omega)) ?_
        refine wi_ladd (pc' := 277) q339_276 rfl ?_
        refine wi_lstore1 (pc' := 278) q339_277 rfl rfl rfl rfl (Or.inr rfl) ?_
        refine wi_iinc4 (pc' := 281) q339_278 rfl rfl (Or.inr rfl) ?_
        rw [show ((36 + 1) : Int) = 37 from rfl]
        refine wi_goto (t := 256) q339_281 (by decide) ?_
        refine wi_iload (i := 4) (pc' := 258) q339_256 rfl rfl ?_
        refine wi_bipush (pc' := 260) q339_258 rfl (by decide) ?_
        refine wi_icmp_ge (t := 284) (pc' := 263) q339_260 (by decide) rfl (by omega) (by omega) (fun h => absurd h (by decide)) (fun _ => ?_)
        refine wi_lload_n (i := 1) (pc' := 264) q339_263 rfl rfl rfl ?_
        refine wi_ldc2 (z := 103) (pc' := 267) q339_264 rfl kx_1392 (by decide +kernel) ?_
        refine wi_lmul (pc' := 268) q339_267 rfl ?_
        refine wi_aload_n (i := 0) (pc' := 269) q339_268 rfl rfl rfl ?_
        refine wi_iload (i := 4) (pc' := 271) q339_269 rfl rfl ?_
        refine wi_iload_n (i := 3) (pc' := 272) q339_271 rfl rfl rfl ?_
        refine wi_cv (u9 := (229, X)) (pc' := 275) wq339_272 rfl (cL_s2 (pL_hasTarget p6 (by omega)) zLc_i) (fun h => absurd h (by decide)) rfl rfl (vL_hasTgt (s := s) (t := (k : Int)) (by omega)).1 (by (try dsimp only); omega) (by (try dsimp only); omega) ?_
        intro Gp7 p7
        rw [(vL_hasTgt (s := s) (t := (k : Int)) (by omega)).2]
        refine wi_i2l (pc' := 276) q339_275 rfl (zr_zb) ?_
        refine wi_ladd (pc' := 277) q339_276 rfl ?_
        refine wi_lstore1 (pc' := 278) q339_277 rfl rfl rfl rfl (Or.inr rfl) ?_
        refine wi_iinc4 (pc' := 281) q339_278 rfl rfl (Or.inr rfl) ?_
        rw [show ((37 + 1) : Int) = 38 from rfl]
        refine wi_goto (t := 256) q339_281 (by decide) ?_
        refine wi_iload (i := 4) (pc' := 258) q339_256 rfl rfl ?_
        refine wi_bipush (pc' := 260) q339_258 rfl (by decide) ?_
        refine wi_icmp_ge (t := 284) (pc' := 263) q339_260 (by decide) rfl (by omega) (by omega) (fun h => absurd h (by decide)) (fun _ => ?_)
        refine wi_lload_n (i := 1) (pc' := 264) q339_263 rfl rfl rfl ?_
        refine wi_ldc2 (z := 103) (pc' := 267) q339_264 rfl kx_1392 (by decide +kernel) ?_
        refine wi_lmul (pc' := 268) q339_267 rfl ?_
        refine wi_aload_n (i := 0) (pc' := 269) q339_268 rfl rfl rfl ?_
        refine wi_iload (i := 4) (pc' := 271) q339_269 rfl rfl ?_
        refine wi_iload_n (i := 3) (pc' := 272) q339_271 rfl rfl rfl ?_
        refine wi_cx (u9 := (229, X)) (pc' := 275) wq339_272 rfl (cL_s2 (pL_target p7 (by omega)) zLc_i) (fun h => absurd h (by decide)) rfl rfl (by (try dsimp only); omega) (by (try dsimp only); omega) ?_
        intro Gp8 p8
        rw [vL_tgt (t := (k : Int)) p7.ok (by omega)]
        refine wi_i2l (pc' := 276) q339_275 rfl ((by split <;> exact ⟨by omega, by omega⟩)) ?_
        refine wi_ladd (pc' := 277) q339_276 rfl ?_
        refine wi_lstore1 (pc' := 278) q339_277 rfl rfl rfl rfl (Or.inr rfl) ?_
        refine wi_iinc4 (pc' := 281) q339_278 rfl rfl (Or.inr rfl) ?_
        rw [show ((38 + 1) : Int) = 39 from rfl]
        refine wi_goto (t := 256) q339_281 (by decide) ?_
        refine wi_iload (i := 4) (pc' := 258) q339_256 rfl rfl ?_
        refine wi_bipush (pc' := 260) q339_258 rfl (by decide) ?_
        refine wi_icmp_ge (t := 284) (pc' := 263) q339_260 (by decide) rfl (by omega) (by omega) (fun _ => ?_) (fun h => absurd h (by decide))
        refine wi_iconst (pc' := 285) q339_284 rfl ?_
        refine wi_istore4 (pc' := 287) q339_285 rfl rfl (Or.inr rfl) ?_
        refine wW_cd (c' := c + (k + 1)) (d' := d + 6 * (k + 1)) (by omega) (by omega) ?_
        refine st_P (t := k) (o := (((((((((((((((((dgW s k o) * 103) + (s (214 + 7 * (k : Int) + 0))) * 103) + (s (214 + 7 * (k : Int) + 1))) * 103) + (zb (s (214 + 7 * (k : Int) + 2) = 0))) * 103) + (zb (s (214 + 7 * (k : Int) + 2) = 1))) * 103) + (zb (s (214 + 7 * (k : Int) + 2) = 2))) * 103) + (s (214 + 7 * (k : Int) + 6))) * 103) + (zb (0 ≤ s (214 + 7 * (k : Int) + 3)))) * 103) + (if s (214 + 7 * (k : Int) + 3) < 0 then -101 else s (214 + 7 * (k : Int) + 3)))) (by omega) (by omega) (by omega) ?_ 99 0 _ (by omega) (by omega) p8
        intro G9 k2 hk2 p9
        refine wi_iinc3 (pc' := 335) q339_332 rfl rfl (Or.inr rfl) ?_
        refine wi_goto (t := 244) q339_335 (by decide) ?_
        rw [show ((k : Int) + 1) = ((k + 1 : Nat) : Int) by omega]
        obtain rfl : k2 = (s 4).toNat := by omega
        exact ih (k + 1) _ _ (by omega) (by omega) p9
theorem kx_1373 : Cond.constantLong "FalseLightMarshLaw" 231 7 ∈ zTs := z_in (i := 1373) (by decide +kernel) (by decide +kernel)
theorem q339_0 : decode (zbc 339) 0 = .ok (.ldc2_w 231, 3) := by decide +kernel
theorem q339_3 : decode (zbc 339) 3 = .ok (.aload_n 0, 1) := by decide +kernel
theorem q339_4 : decode (zbc 339) 4 = .ok (.invokevirtual 233, 3) := by decide +kernel
theorem wq339_4 {L9 : Nat} {xs9 : Nat → Int32} {N9 : Nat} : z_SC N9 znl zTs (zZ L9 xs9 N9) zyn zbc zrt zfr zlo (fun _ i => i) ztb 339 4 3 206 1 := sc_V (P := fun _ i => i) (n' := 0) zTs_good q339_4 kx_509 kx_510 kx_511 kx_32 kx_512 rfl ⟨by decide, by decide, by decide +kernel⟩ rfl ⟨Nat.le_of_ble_eq_true rfl, Nat.le_of_ble_eq_true rfl⟩
theorem q339_7 : decode (zbc 339) 7 = .ok (.i2l, 1) := by decide +kernel
theorem q339_8 : decode (zbc 339) 8 = .ok (.lmul, 1) := by decide +kernel
theorem q339_9 : decode (zbc 339) 9 = .ok (.aload_n 0, 1) := by decide +kernel
theorem q339_10 : decode (zbc 339) 10 = .ok (.invokevirtual 236, 3) := by decide +kernel
theorem wq339_10 {L9 : Nat} {xs9 : Nat → Int32} {N9 : Nat} : z_SC N9 znl zTs (zZ L9 xs9 N9) zyn zbc zrt zfr zlo (fun _ i => i) ztb 339 10 3 207 1 := sc_V (P := fun _ i => i) (n' := 0) zTs_good q339_10 kx_513 kx_514 kx_515 kx_32 kx_516 rfl ⟨by decide, by decide, by decide +kernel⟩ rfl ⟨Nat.le_of_ble_eq_true rfl, Nat.le_of_ble_eq_true rfl⟩
theorem q339_13 : decode (zbc 339) 13 = .ok (.i2l, 1) := by decide +kernel
theorem q339_14 : decode (zbc 339) 14 = .ok (.ladd, 1) := by decide +kernel
theorem q339_15 : decode (zbc 339) 15 = .ok (.lstore_n 1, 1) := by decide +kernel
theorem q339_16 : decode (zbc 339) 16 = .ok (.lload_n 1, 1) := by decide +kernel
theorem kx_1374 : Cond.constantLong "FalseLightMarshLaw" 239 10007 ∈ zTs := z_in (i := 1374) (by decide +kernel) (by decide +kernel)
theorem q339_17 : decode (zbc 339) 17 = .ok (.ldc2_w 239, 3) := by decide +kernel
theorem q339_20 : decode (zbc 339) 20 = .ok (.lmul, 1) := by decide +kernel
theorem q339_21 : decode (zbc 339) 21 = .ok (.aload_n 0, 1) := by decide +kernel
theorem q339_22 : decode (zbc 339) 22 = .ok (.invokevirtual 241, 3) := by decide +kernel
theorem kx_1375 : Cond.methodLink "FalseLightMarshLaw" 241 yX8_time ∈ zTs := z_in (i := 1375) (by decide +kernel) (by decide +kernel)
theorem kx_1376 : Cond.instanceMethod yX8_time ∈ zTs := z_in (i := 1376) (by decide +kernel) (by decide +kernel)
theorem kx_1377 : Cond.selects "FalseLightMarsh" yX8_time yX8_time ∈ zTs := z_in (i := 1377) (by decide +kernel) (by decide +kernel)
theorem kx_1378 : Cond.code yX8_time cX8_time 1 (some .int) ∈ zTs := z_in (i := 1378) (by decide +kernel) (by decide +kernel)
theorem wq339_22 {L9 : Nat} {xs9 : Nat → Int32} {N9 : Nat} : z_SC N9 znl zTs (zZ L9 xs9 N9) zyn zbc zrt zfr zlo (fun _ i => i) ztb 339 22 3 215 1 := sc_V (P := fun _ i => i) (n' := 0) zTs_good q339_22 kx_1375 kx_1376 kx_1377 kx_32 kx_1378 rfl ⟨by decide, by decide, by decide +kernel⟩ rfl ⟨Nat.le_of_ble_eq_true rfl, Nat.le_of_ble_eq_true rfl⟩
theorem q339_25 : decode (zbc 339) 25 = .ok (.i2l, 1) := by decide +kernel
theorem q339_26 : decode (zbc 339) 26 = .ok (.ldc2_w 244, 3) := by decide +kernel
theorem q339_29 : decode (zbc 339) 29 = .ok (.lmul, 1) := by decide +kernel
theorem q339_30 : decode (zbc 339) 30 = .ok (.ladd, 1) := by decide +kernel
theorem q339_31 : decode (zbc 339) 31 = .ok (.aload_n 0, 1) := by decide +kernel
theorem q339_32 : decode (zbc 339) 32 = .ok (.invokevirtual 246, 3) := by decide +kernel
theorem kx_1380 : Cond.methodLink "FalseLightMarshLaw" 246 yX8_clearness ∈ zTs := z_in (i := 1380) (by decide +kernel) (by decide +kernel)
theorem kx_1381 : Cond.instanceMethod yX8_clearness ∈ zTs := z_in (i := 1381) (by decide +kernel) (by decide +kernel)
theorem kx_1382 : Cond.selects "FalseLightMarsh" yX8_clearness yX8_clearness ∈ zTs := z_in (i := 1382) (by decide +kernel) (by decide +kernel)
theorem kx_1383 : Cond.code yX8_clearness cX8_clearness 1 (some .int) ∈ zTs := z_in (i := 1383) (by decide +kernel) (by decide +kernel)
theorem wq339_32 {L9 : Nat} {xs9 : Nat → Int32} {N9 : Nat} : z_SC N9 znl zTs (zZ L9 xs9 N9) zyn zbc zrt zfr zlo (fun _ i => i) ztb 339 32 3 216 1 := sc_V (P := fun _ i => i) (n' := 0) zTs_good q339_32 kx_1380 kx_1381 kx_1382 kx_32 kx_1383 rfl ⟨by decide, by decide, by decide +kernel⟩ rfl ⟨Nat.le_of_ble_eq_true rfl, Nat.le_of_ble_eq_true rfl⟩
theorem q339_35 : decode (zbc 339) 35 = .ok (.i2l, 1) := by decide +kernel
theorem q339_36 : decode (zbc 339) 36 = .ok (.ladd, 1) := by decide +kernel
theorem q339_37 : decode (zbc 339) 37 = .ok (.lstore_n 1, 1) := by decide +kernel
theorem q339_38 : decode (zbc 339) 38 = .ok (.iconst 0, 1) := by decide +kernel
theorem q339_39 : decode (zbc 339) 39 = .ok (.istore_n 3, 1) := by decide +kernel
theorem q339_67 : decode (zbc 339) 67 = .ok (.iconst 0, 1) := by decide +kernel
theorem q339_68 : decode (zbc 339) 68 = .ok (.istore_n 3, 1) := by decide +kernel
theorem q339_161 : decode (zbc 339) 161 = .ok (.iconst 0, 1) := by decide +kernel
theorem q339_162 : decode (zbc 339) 162 = .ok (.istore_n 3, 1) := by decide +kernel
theorem q339_242 : decode (zbc 339) 242 = .ok (.iconst 0, 1) := by decide +kernel
theorem q339_243 : decode (zbc 339) 243 = .ok (.istore_n 3, 1) := by decide +kernel
theorem q339_338 : decode (zbc 339) 338 = .ok (.lload_n 1, 1) := by decide +kernel
theorem q339_339 : decode (zbc 339) 339 = .ok (.lreturn, 1) := by decide +kernel
theorem cS_state {X : Nat × (Nat → Int32)} {B : Int} {sv : Nat → Int → Int} {u : Int} {h : Nat → Int → Int} {s : Int → Int} {G F : GM} {Y : DY} (p : PG B sv u h s G) : wC (229, X) 339 6 36 [.ref 192] G F Y (fun o G' F' Y' => o = some (.long (zl (dgS s))) ∧ PG B sv u h s G' ∧ F = F' ∧ Y = Y') := by
  refine w_met (L0 := [.ref 192, .null, .null, .null, .null]) (by decide +kernel) rfl rfl ?_
  have a0 := p.ok.1
  have a1 := p.ok.2.1
  have a2 := p.ok.2.2.1
  have a3 := p.ok.2.2.2.1
  have a4 := p.ok.2.2.2.2.1
  have a5 := p.ok.2.2.2.2.2.1
  refine wi_ldc2 (z := 7) (pc' := 3) q339_0 rfl kx_1373 (by decide +kernel) ?_
  refine wi_aload_n (i := 0) (pc' := 4) q339_3 rfl rfl rfl ?_
  refine wi_cp (u9 := (229, X)) (pc' := 7) wq339_4 rfl (cQ_width (Nat.le_refl _) p.ok p.hR) (fun _ => ⟨_, _, rfl⟩) rfl rfl (by (try dsimp only); omega) (by (try dsimp only); omega) ?_
  refine wi_i2l (pc' := 8) q339_7 rfl (by omega) ?_
  refine wi_lmul (pc' := 9) q339_8 rfl ?_
  refine wi_aload_n (i := 0) (pc' := 10) q339_9 rfl rfl rfl ?_
  refine wi_cp (u9 := (229, X)) (pc' := 13) wq339_10 rfl (cQ_height (Nat.le_refl _) p.ok p.hR) (fun _ => ⟨_, _, rfl⟩) rfl rfl (by (try dsimp only); omega) (by (try dsimp only); omega) ?_
  refine wi_i2l (pc' := 14) q339_13 rfl (by omega) ?_
  refine wi_ladd (pc' := 15) q339_14 rfl ?_
  refine wi_lstore1 (pc' := 16) q339_15 rfl rfl rfl rfl (Or.inr rfl) ?_
  refine wi_lload_n (i := 1) (pc' := 17) q339_16 rfl rfl rfl ?_
  refine wi_ldc2 (z := 10007) (pc' := 20) q339_17 rfl kx_1374 (by decide +kernel) ?_
  refine wi_lmul (pc' := 21) q339_20 rfl ?_
  refine wi_aload_n (i := 0) (pc' := 22) q339_21 rfl rfl rfl ?_
  refine wi_cp (u9 := (229, X)) (pc' := 25) wq339_22 rfl (cQ_time (Nat.le_refl _) p.ok p.hR) (fun _ => ⟨_, _, rfl⟩) rfl rfl (by (try dsimp only); omega) (by (try dsimp only); omega) ?_
  refine wi_i2l (pc' := 26) q339_25 rfl (by omega) ?_
  refine wi_ldc2 (z := 31) (pc' := 29) q339_26 rfl kx_1379 (by decide +kernel) ?_
  refine wi_lmul (pc' := 30) q339_29 rfl ?_
  refine wi_ladd (pc' := 31) q339_30 rfl ?_
  refine wi_aload_n (i := 0) (pc' := 32) q339_31 rfl rfl rfl ?_
  refine wi_cp (u9 := (229, X)) (pc' := 35) wq339_32 rfl (cQ_clearness (Nat.le_refl _) p.ok p.hR) (fun _ => ⟨_, _, rfl⟩) rfl rfl (by (try dsimp only); omega) (by (try dsimp only); omega) ?_
  refine wi_i2l (pc' := 36) q339_35 rfl (by omega) ?_
  refine wi_ladd (pc' := 37) q339_36 rfl ?_
  refine wi_lstore1 (pc' := 38) q339_37 rfl rfl rfl rfl (Or.inr rfl) ?_
  refine wi_iconst (pc' := 39) q339_38 rfl ?_
  refine wi_istore3 (pc' := 40) q339_39 rfl rfl rfl (Or.inr rfl) ?_
  refine st_A (Nat.zero_le _) (Nat.zero_le _) ?_ 99 0 _ (by omega) (by omega) p
  intro G1 p1
  refine wi_iconst (pc' := 68) q339_67 rfl ?_
  refine wi_istore3 (pc' := 69) q339_68 rfl rfl rfl (Or.inr rfl) ?_
  refine st_B (o := dgA s 24) (Nat.zero_le _) (Nat.zero_le _) ?_ 99 0 _ _ (by omega) (by omega) p1
  intro G2 k2 a2 hk2 p2
  obtain rfl : k2 = (s 1).toNat := by omega
  refine wi_iconst (pc' := 162) q339_161 rfl ?_
  refine wi_istore3 (pc' := 163) q339_162 rfl rfl rfl (Or.inr rfl) ?_
  refine st_L (Nat.zero_le _) (Nat.zero_le _) ?_ 99 0 _ _ (by omega) (by omega) p2
  intro G3 k3 a3 hk3 p3
  obtain rfl : k3 = (s 4).toNat := by omega
  refine wi_iconst (pc' := 243) q339_242 rfl ?_
  refine wi_istore3 (pc' := 244) q339_243 rfl rfl rfl (Or.inr rfl) ?_
  refine st_W (c := 0) (d := 0) (Nat.le_refl _) (Nat.le_refl _) ?_ 99 0 _ _ (by omega) (by omega) p3
  intro G4 k4 a4 hk4 p4
  obtain rfl : k4 = (s 5).toNat := by omega
  refine wi_lload_n (i := 1) (pc' := 339) q339_338 rfl rfl rfl ?_
  refine wW_r (o := some (.long (zl (dgS s)))) ⟨q339_339, rfl⟩ rfl (by (try dsimp only); omega) (by (try dsimp only); omega) ?_
  exact ⟨rfl, p4, rfl, rfl⟩
