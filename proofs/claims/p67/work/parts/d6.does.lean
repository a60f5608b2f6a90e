/-! The law's does(x, w, v): its cases. -/
theorem lg_self {a : Int64} : lg_cmp a a = zi 0 := by
  unfold lg_cmp
  simp
  try rfl
theorem PGd_of {B B' : Int} {sv : Nat → Int → Int} {u : Int} {h : Nat → Int → Int} {s s' : Int → Int} {q : Int} {G' : GM} (hx : PGc B B' sv u h s s' q G') (hb : B' ≤ B + 4) : (q = 0 ∧ ∃ sv u h s, PG (B + 4) sv u h s G') ∨ (q ≠ 0 ∧ PG B sv u h s G') := hx.imp (fun a => ⟨a.1, _, _, _, _, PG_up a.2 hb⟩) id
theorem q345_328 : decode (zbc 345) 328 = .ok (.iload 9, 2) := by decide +kernel
theorem q345_330 : decode (zbc 345) 330 = .ok (.ifCond .ge 12, 3) := by decide +kernel
theorem q345_342 : decode (zbc 345) 342 = .ok (.iconst 1, 1) := by decide +kernel
theorem q345_343 : decode (zbc 345) 343 = .ok (.goto 4, 3) := by decide +kernel
theorem q345_347 : decode (zbc 345) 347 = .ok (.ireturn, 1) := by decide +kernel
theorem q345_333 : decode (zbc 345) 333 = .ok (.aload_n 0, 1) := by decide +kernel
theorem q345_334 : decode (zbc 345) 334 = .ok (.invokestatic 301, 3) := by decide +kernel
theorem kx_1370 : Cond.methodLink "FalseLightMarshLaw" 301 yL_state ∈ zTs := z_in (i := 1370) (by decide +kernel) (by decide +kernel)
theorem kx_1371 : Cond.static yL_state ∈ zTs := z_in (i := 1371) (by decide +kernel) (by decide +kernel)
theorem kx_1372 : Cond.code yL_state cL_state 5 (some .long) ∈ zTs := z_in (i := 1372) (by decide +kernel) (by decide +kernel)
theorem wk345_334 : wSC 345 334 339 1 none := wk_S q345_334 kx_1370 kx_1371 kx_31 kx_1372 ⟨by decide, by decide, by decide +kernel⟩ ⟨Nat.le_of_ble_eq_true rfl, Nat.le_of_ble_eq_true rfl⟩
theorem q345_337 : decode (zbc 345) 337 = .ok (.lload_n 3, 1) := by decide +kernel
theorem q345_338 : decode (zbc 345) 338 = .ok (.lcmp, 1) := by decide +kernel
theorem q345_339 : decode (zbc 345) 339 = .ok (.ifCond .ne 7, 3) := by decide +kernel
theorem dz_t {X : Nat × (Nat → Int32)} {B : Int} {sv : Nat → Int → Int} {u : Int} {h : Nat → Int → Int} {s : Int → Int} {b : WB} {c d : Nat} {F : GM} {Y : DY} {w v cu cv l9 t9 : Int} {G : GM} {got : Int} (hb1 : c + 6 ≤ b.1) (hb2 : d + 36 ≤ b.2.1) (hg : zr got) (hx : (0 ≤ got ∧ (fun G' => ∃ sv u h s, PG (B + 4) sv u h s G') G) ∨ (got < 0 ∧ (PG B sv u h s) G)) : wW (229, X) 345 b 328 [.ref 192, .int (zi w), .int (zi v), .long (zl (dgS s)), .null, .int (zi cu), .int (zi cv), .int (zi l9), .int (zi t9), .int (zi got)] [] G F Y c d (fun o G' F' Y' => o = some (.int (zi 1)) ∧ F = F' ∧ Y = Y' ∧ ∃ sv u h s, PG (B + 4) sv u h s G') := by
  refine wi_iload (i := 9) (pc' := 330) q345_328 rfl rfl ?_
  refine wi_if_ge (t := 342) (pc' := 333) q345_330 (by decide) rfl hg ?_ ?_
  · intro h8
    have hA : ∃ sv u h s, PG (B + 4) sv u h s G := hx.elim (fun a => a.2) (fun a => by omega)
    refine wi_iconst (pc' := 343) q345_342 rfl ?_
    refine wi_goto (t := 347) q345_343 (by decide) ?_
    refine wW_r (o := some (.int (zi 1))) ⟨q345_347, _, rfl, rfl⟩ rfl (by (try dsimp only); omega) (by (try dsimp only); omega) ?_
    exact ⟨rfl, rfl, rfl, hA⟩
  · intro h8
    have p : PG B sv u h s G := hx.elim (fun a => by omega) (fun a => a.2)
    refine wi_aload_n (i := 0) (pc' := 334) q345_333 rfl rfl rfl ?_
    refine wi_call (pc' := 337) wk345_334 rfl (cS_state p) rfl (Nat.le_of_ble_eq_true rfl) (Nat.le_of_ble_eq_true rfl) (by (try dsimp only); omega) (by (try dsimp only); omega) (wrv_n) ?_
    rintro o9 G9 F9 Y9 ⟨rfl, p9, rfl, rfl⟩ hle9
    refine wi_lload_n (i := 3) (pc' := 338) q345_337 rfl rfl rfl ?_
    refine wi_lcmp (v := 0) (pc' := 339) q345_338 rfl lg_self ?_
    refine wi_if_ne (t := 346) (pc' := 342) q345_339 (by decide) rfl (by omega) (fun h1 => absurd h1 (by omega)) (fun h1 => ?_)
    refine wi_iconst (pc' := 343) q345_342 rfl ?_
    refine wi_goto (t := 347) q345_343 (by decide) ?_
    refine wW_r (o := some (.int (zi 1))) ⟨q345_347, _, rfl, rfl⟩ rfl (by (try dsimp only); omega) (by (try dsimp only); omega) ?_
    exact ⟨rfl, rfl, rfl, _, _, _, _, PG_up p9 (by omega)⟩
theorem q345_124 : decode (zbc 345) 124 = .ok (.aload_n 0, 1) := by decide +kernel
theorem q345_125 : decode (zbc 345) 125 = .ok (.iconst 1, 1) := by decide +kernel
theorem q345_126 : decode (zbc 345) 126 = .ok (.iload 5, 2) := by decide +kernel
theorem q345_128 : decode (zbc 345) 128 = .ok (.iload 6, 2) := by decide +kernel
theorem q345_130 : decode (zbc 345) 130 = .ok (.iload_n 2, 1) := by decide +kernel
theorem q345_131 : decode (zbc 345) 131 = .ok (.bipush 6, 2) := by decide +kernel
theorem q345_133 : decode (zbc 345) 133 = .ok (.ishr, 1) := by decide +kernel
theorem q345_134 : decode (zbc 345) 134 = .ok (.bipush 7, 2) := by decide +kernel
theorem q345_136 : decode (zbc 345) 136 = .ok (.iand, 1) := by decide +kernel
theorem q345_137 : decode (zbc 345) 137 = .ok (.iload_n 2, 1) := by decide +kernel
theorem q345_138 : decode (zbc 345) 138 = .ok (.bipush 9, 2) := by decide +kernel
theorem q345_140 : decode (zbc 345) 140 = .ok (.ishr, 1) := by decide +kernel
theorem q345_141 : decode (zbc 345) 141 = .ok (.iconst 1, 1) := by decide +kernel
theorem q345_142 : decode (zbc 345) 142 = .ok (.iand, 1) := by decide +kernel
theorem q345_143 : decode (zbc 345) 143 = .ok (.iconst 0, 1) := by decide +kernel
theorem q345_144 : decode (zbc 345) 144 = .ok (.invokestatic 172, 3) := by decide +kernel
theorem wq345_144 {L9 : Nat} {xs9 : Nat → Int32} {N9 : Nat} : z_SC N9 znl zTs (zZ L9 xs9 N9) zyn zbc zrt zfr zlo (fun _ i => i) ztb 345 144 2 334 7 := sc_SW (P := fun _ i => i) zTs_good q345_144 kx_548 kx_549 kx_31 wc_550 (by decide +kernel) ⟨by decide, by decide, by decide +kernel⟩ ⟨Nat.le_of_ble_eq_true rfl, Nat.le_of_ble_eq_true rfl⟩
theorem q345_147 : decode (zbc 345) 147 = .ok (.istore 9, 2) := by decide +kernel
theorem q345_149 : decode (zbc 345) 149 = .ok (.goto 179, 3) := by decide +kernel
theorem dz_124 {X : Nat × (Nat → Int32)} {B : Int} {sv : Nat → Int → Int} {u : Int} {h : Nat → Int → Int} {s : Int → Int} {b : WB} {c d : Nat} {F : GM} {Y : DY} {w v cu cv l9 t9 : Int} {a9 : Value} {G : GM} (hb1 : c + 7 ≤ b.1) (hb2 : d + 42 ≤ b.2.1) (hB : B ≤ 9000) (p : PG B sv u h s G) (hcu : zr cu) (hcv : zr cv) (hl9 : zr l9) (ht9 : zr t9) (hv : zr v) : wW (229, X) 345 b 124 [.ref 192, .int (zi w), .int (zi v), .long (zl (dgS s)), .null, .int (zi cu), .int (zi cv), .int (zi l9), .int (zi t9), a9] [] G F Y c d (fun o G' F' Y' => o = some (.int (zi 1)) ∧ F = F' ∧ Y = Y' ∧ ∃ sv u h s, PG (B + 4) sv u h s G') := by
  refine wi_aload_n (i := 0) (pc' := 125) q345_124 rfl rfl rfl ?_
  refine wi_iconst (pc' := 126) q345_125 rfl ?_
  refine wi_iload (i := 5) (pc' := 128) q345_126 rfl rfl ?_
  refine wi_iload (i := 6) (pc' := 130) q345_128 rfl rfl ?_
  refine wi_iload_n (i := 2) (pc' := 131) q345_130 rfl rfl rfl ?_
  refine wi_bipush (pc' := 133) q345_131 rfl (by decide) ?_
  refine wi_ishr (pc' := 134) q345_133 rfl ?_
  refine wi_bipush (pc' := 136) q345_134 rfl (by decide) ?_
  refine wi_iand (pc' := 137) q345_136 rfl ?_
  refine wi_iload_n (i := 2) (pc' := 138) q345_137 rfl rfl rfl ?_
  refine wi_bipush (pc' := 140) q345_138 rfl (by decide) ?_
  refine wi_ishr (pc' := 141) q345_140 rfl ?_
  refine wi_iconst (pc' := 142) q345_141 rfl ?_
  refine wi_iand (pc' := 143) q345_142 rfl ?_
  refine wi_iconst (pc' := 144) q345_143 rfl ?_
  refine wi_ch (u9 := (229, X)) (q := q_addLight s cu cv (zand (zshr v 6) 7)) (ex := [3, 1, 0]) (A := (fun G' => ∃ sv u h s, PG (B + 4) sv u h s G')) (C := (PG B sv u h s)) (pc' := 147) wq345_144 rfl (pC_addLight p hcu hcv (zr_and _ _) (zr_and _ _) ) (fun h => absurd h (by decide)) rfl rfl (qn_addLight p.ok) (fun _ h => PGd_of h (by omega)) (by (try dsimp only); omega) (by (try dsimp only); omega) ?_
  intro G9 got hg hx
  refine wi_istore9 (pc' := 149) q345_147 rfl rfl (Or.inr rfl) ?_
  refine wi_goto (t := 328) q345_149 (by decide) ?_
  exact dz_t (by (try dsimp only); omega) (by (try dsimp only); omega) hg hx
theorem q345_152 : decode (zbc 345) 152 = .ok (.aload_n 0, 1) := by decide +kernel
theorem q345_153 : decode (zbc 345) 153 = .ok (.iconst 2, 1) := by decide +kernel
theorem q345_154 : decode (zbc 345) 154 = .ok (.iload 5, 2) := by decide +kernel
theorem q345_156 : decode (zbc 345) 156 = .ok (.iload 6, 2) := by decide +kernel
theorem q345_158 : decode (zbc 345) 158 = .ok (.invokestatic 251, 3) := by decide +kernel
theorem wq345_158 {L9 : Nat} {xs9 : Nat → Int32} {N9 : Nat} : z_SC N9 znl zTs (zZ L9 xs9 N9) zyn zbc zrt zfr zlo (fun _ i => i) ztb 345 158 2 335 4 := sc_S (P := fun _ i => i) zTs_good q345_158 kx_1385 kx_1386 kx_31 kx_1387 rfl ⟨by decide, by decide, by decide +kernel⟩ ⟨Nat.le_of_ble_eq_true rfl, Nat.le_of_ble_eq_true rfl⟩
theorem q345_161 : decode (zbc 345) 161 = .ok (.istore 9, 2) := by decide +kernel
theorem q345_163 : decode (zbc 345) 163 = .ok (.goto 165, 3) := by decide +kernel
theorem dz_152 {X : Nat × (Nat → Int32)} {B : Int} {sv : Nat → Int → Int} {u : Int} {h : Nat → Int → Int} {s : Int → Int} {b : WB} {c d : Nat} {F : GM} {Y : DY} {w v cu cv l9 t9 : Int} {a9 : Value} {G : GM} (hb1 : c + 7 ≤ b.1) (hb2 : d + 42 ≤ b.2.1) (hB : B ≤ 9000) (p : PG B sv u h s G) (hcu : zr cu) (hcv : zr cv) (hl9 : zr l9) (ht9 : zr t9) (hv : zr v) : wW (229, X) 345 b 152 [.ref 192, .int (zi w), .int (zi v), .long (zl (dgS s)), .null, .int (zi cu), .int (zi cv), .int (zi l9), .int (zi t9), a9] [] G F Y c d (fun o G' F' Y' => o = some (.int (zi 1)) ∧ F = F' ∧ Y = Y' ∧ ∃ sv u h s, PG (B + 4) sv u h s G') := by
  refine wi_aload_n (i := 0) (pc' := 153) q345_152 rfl rfl rfl ?_
  refine wi_iconst (pc' := 154) q345_153 rfl ?_
  refine wi_iload (i := 5) (pc' := 156) q345_154 rfl rfl ?_
  refine wi_iload (i := 6) (pc' := 158) q345_156 rfl rfl ?_
  refine wi_ch (u9 := (229, X)) (q := q_addTraveller s cu cv) (ex := [3, 0]) (A := (fun G' => ∃ sv u h s, PG (B + 4) sv u h s G')) (C := (PG B sv u h s)) (pc' := 161) wq345_158 rfl (cL_s3 (pC_addTraveller p hcu hcv ) zLc_i) (fun h => absurd h (by decide)) rfl rfl (qn_addTraveller p.ok) (fun _ h => PGd_of h (by omega)) (by (try dsimp only); omega) (by (try dsimp only); omega) ?_
  intro G9 got hg hx
  refine wi_istore9 (pc' := 163) q345_161 rfl rfl (Or.inr rfl) ?_
  refine wi_goto (t := 328) q345_163 (by decide) ?_
  exact dz_t (by (try dsimp only); omega) (by (try dsimp only); omega) hg hx
theorem q345_166 : decode (zbc 345) 166 = .ok (.aload_n 0, 1) := by decide +kernel
theorem q345_167 : decode (zbc 345) 167 = .ok (.iconst 3, 1) := by decide +kernel
theorem q345_168 : decode (zbc 345) 168 = .ok (.iload 7, 2) := by decide +kernel
theorem q345_170 : decode (zbc 345) 170 = .ok (.iload_n 2, 1) := by decide +kernel
theorem q345_171 : decode (zbc 345) 171 = .ok (.bipush 7, 2) := by decide +kernel
theorem q345_173 : decode (zbc 345) 173 = .ok (.iand, 1) := by decide +kernel
theorem q345_174 : decode (zbc 345) 174 = .ok (.invokestatic 251, 3) := by decide +kernel
theorem wq345_174 {L9 : Nat} {xs9 : Nat → Int32} {N9 : Nat} : z_SC N9 znl zTs (zZ L9 xs9 N9) zyn zbc zrt zfr zlo (fun _ i => i) ztb 345 174 2 335 4 := sc_S (P := fun _ i => i) zTs_good q345_174 kx_1385 kx_1386 kx_31 kx_1387 rfl ⟨by decide, by decide, by decide +kernel⟩ ⟨Nat.le_of_ble_eq_true rfl, Nat.le_of_ble_eq_true rfl⟩
theorem q345_177 : decode (zbc 345) 177 = .ok (.istore 9, 2) := by decide +kernel
theorem q345_179 : decode (zbc 345) 179 = .ok (.goto 149, 3) := by decide +kernel
theorem dz_166 {X : Nat × (Nat → Int32)} {B : Int} {sv : Nat → Int → Int} {u : Int} {h : Nat → Int → Int} {s : Int → Int} {b : WB} {c d : Nat} {F : GM} {Y : DY} {w v cu cv l9 t9 : Int} {a9 : Value} {G : GM} (hb1 : c + 7 ≤ b.1) (hb2 : d + 42 ≤ b.2.1) (hB : B ≤ 9000) (p : PG B sv u h s G) (hcu : zr cu) (hcv : zr cv) (hl9 : zr l9) (ht9 : zr t9) (hv : zr v) : wW (229, X) 345 b 166 [.ref 192, .int (zi w), .int (zi v), .long (zl (dgS s)), .null, .int (zi cu), .int (zi cv), .int (zi l9), .int (zi t9), a9] [] G F Y c d (fun o G' F' Y' => o = some (.int (zi 1)) ∧ F = F' ∧ Y = Y' ∧ ∃ sv u h s, PG (B + 4) sv u h s G') := by
  refine wi_aload_n (i := 0) (pc' := 167) q345_166 rfl rfl rfl ?_
  refine wi_iconst (pc' := 168) q345_167 rfl ?_
  refine wi_iload (i := 7) (pc' := 170) q345_168 rfl rfl ?_
  refine wi_iload_n (i := 2) (pc' := 171) q345_170 rfl rfl rfl ?_
  refine wi_bipush (pc' := 173) q345_171 rfl (by decide) ?_
  refine wi_iand (pc' := 174) q345_173 rfl ?_
  refine wi_ch (u9 := (229, X)) (q := q_setSuccessor s l9 (zand v 7)) (ex := [3, 1]) (A := (fun G' => ∃ sv u h s, PG (B + 4) sv u h s G')) (C := (PG B sv u h s)) (pc' := 177) wq345_174 rfl (cL_s3 (pC_setSuccessor p hl9 (zr_and _ _) ) zLc_i) (fun h => absurd h (by decide)) rfl rfl (qn_setSuccessor p.ok) (fun _ h => PGd_of h (by omega)) (by (try dsimp only); omega) (by (try dsimp only); omega) ?_
  intro G9 got hg hx
  refine wi_istore9 (pc' := 179) q345_177 rfl rfl (Or.inr rfl) ?_
  refine wi_goto (t := 328) q345_179 (by decide) ?_
  exact dz_t (by (try dsimp only); omega) (by (try dsimp only); omega) hg hx
theorem q345_182 : decode (zbc 345) 182 = .ok (.aload_n 0, 1) := by decide +kernel
theorem q345_183 : decode (zbc 345) 183 = .ok (.iconst 4, 1) := by decide +kernel
theorem q345_184 : decode (zbc 345) 184 = .ok (.iload 7, 2) := by decide +kernel
theorem q345_186 : decode (zbc 345) 186 = .ok (.invokestatic 185, 3) := by decide +kernel
theorem wq345_186 {L9 : Nat} {xs9 : Nat → Int32} {N9 : Nat} : z_SC N9 znl zTs (zZ L9 xs9 N9) zyn zbc zrt zfr zlo (fun _ i => i) ztb 345 186 2 336 3 := sc_S (P := fun _ i => i) zTs_good q345_186 kx_545 kx_546 kx_31 kx_547 rfl ⟨by decide, by decide, by decide +kernel⟩ ⟨Nat.le_of_ble_eq_true rfl, Nat.le_of_ble_eq_true rfl⟩
theorem q345_189 : decode (zbc 345) 189 = .ok (.istore 9, 2) := by decide +kernel
theorem q345_191 : decode (zbc 345) 191 = .ok (.goto 137, 3) := by decide +kernel
theorem dz_182 {X : Nat × (Nat → Int32)} {B : Int} {sv : Nat → Int → Int} {u : Int} {h : Nat → Int → Int} {s : Int → Int} {b : WB} {c d : Nat} {F : GM} {Y : DY} {w v cu cv l9 t9 : Int} {a9 : Value} {G : GM} (hb1 : c + 7 ≤ b.1) (hb2 : d + 42 ≤ b.2.1) (hB : B ≤ 9000) (p : PG B sv u h s G) (hcu : zr cu) (hcv : zr cv) (hl9 : zr l9) (ht9 : zr t9) (hv : zr v) : wW (229, X) 345 b 182 [.ref 192, .int (zi w), .int (zi v), .long (zl (dgS s)), .null, .int (zi cu), .int (zi cv), .int (zi l9), .int (zi t9), a9] [] G F Y c d (fun o G' F' Y' => o = some (.int (zi 1)) ∧ F = F' ∧ Y = Y' ∧ ∃ sv u h s, PG (B + 4) sv u h s G') := by
  refine wi_aload_n (i := 0) (pc' := 183) q345_182 rfl rfl rfl ?_
  refine wi_iconst (pc' := 184) q345_183 rfl ?_
  refine wi_iload (i := 7) (pc' := 186) q345_184 rfl rfl ?_
  refine wi_ch (u9 := (229, X)) (q := q_clearSuccessor s l9) (ex := [3, 2]) (A := (fun G' => ∃ sv u h s, PG (B + 4) sv u h s G')) (C := (PG B sv u h s)) (pc' := 189) wq345_186 rfl (cL_s2 (pC_clearSuccessor p hl9 ) zLc_i) (fun h => absurd h (by decide)) rfl rfl (qn_clearSuccessor p.ok) (fun _ h => PGd_of h (by omega)) (by (try dsimp only); omega) (by (try dsimp only); omega) ?_
  intro G9 got hg hx
  refine wi_istore9 (pc' := 191) q345_189 rfl rfl (Or.inr rfl) ?_
  refine wi_goto (t := 328) q345_191 (by decide) ?_
  exact dz_t (by (try dsimp only); omega) (by (try dsimp only); omega) hg hx
theorem q345_194 : decode (zbc 345) 194 = .ok (.aload_n 0, 1) := by decide +kernel
theorem q345_195 : decode (zbc 345) 195 = .ok (.iconst 5, 1) := by decide +kernel
theorem q345_196 : decode (zbc 345) 196 = .ok (.iload 5, 2) := by decide +kernel
theorem q345_198 : decode (zbc 345) 198 = .ok (.iload 6, 2) := by decide +kernel
theorem q345_200 : decode (zbc 345) 200 = .ok (.iload_n 2, 1) := by decide +kernel
theorem q345_201 : decode (zbc 345) 201 = .ok (.bipush 6, 2) := by decide +kernel
theorem q345_203 : decode (zbc 345) 203 = .ok (.ishr, 1) := by decide +kernel
theorem q345_204 : decode (zbc 345) 204 = .ok (.bipush 7, 2) := by decide +kernel
theorem q345_206 : decode (zbc 345) 206 = .ok (.iand, 1) := by decide +kernel
theorem q345_207 : decode (zbc 345) 207 = .ok (.iconst 0, 1) := by decide +kernel
theorem q345_208 : decode (zbc 345) 208 = .ok (.iconst 0, 1) := by decide +kernel
theorem q345_209 : decode (zbc 345) 209 = .ok (.invokestatic 172, 3) := by decide +kernel
theorem wq345_209 {L9 : Nat} {xs9 : Nat → Int32} {N9 : Nat} : z_SC N9 znl zTs (zZ L9 xs9 N9) zyn zbc zrt zfr zlo (fun _ i => i) ztb 345 209 2 334 7 := sc_SW (P := fun _ i => i) zTs_good q345_209 kx_548 kx_549 kx_31 wc_550 (by decide +kernel) ⟨by decide, by decide, by decide +kernel⟩ ⟨Nat.le_of_ble_eq_true rfl, Nat.le_of_ble_eq_true rfl⟩
theorem q345_212 : decode (zbc 345) 212 = .ok (.istore 9, 2) := by decide +kernel
theorem q345_214 : decode (zbc 345) 214 = .ok (.goto 114, 3) := by decide +kernel
theorem dz_194 {X : Nat × (Nat → Int32)} {B : Int} {sv : Nat → Int → Int} {u : Int} {h : Nat → Int → Int} {s : Int → Int} {b : WB} {c d : Nat} {F : GM} {Y : DY} {w v cu cv l9 t9 : Int} {a9 : Value} {G : GM} (hb1 : c + 7 ≤ b.1) (hb2 : d + 42 ≤ b.2.1) (hB : B ≤ 9000) (p : PG B sv u h s G) (hcu : zr cu) (hcv : zr cv) (hl9 : zr l9) (ht9 : zr t9) (hv : zr v) : wW (229, X) 345 b 194 [.ref 192, .int (zi w), .int (zi v), .long (zl (dgS s)), .null, .int (zi cu), .int (zi cv), .int (zi l9), .int (zi t9), a9] [] G F Y c d (fun o G' F' Y' => o = some (.int (zi 1)) ∧ F = F' ∧ Y = Y' ∧ ∃ sv u h s, PG (B + 4) sv u h s G') := by
  refine wi_aload_n (i := 0) (pc' := 195) q345_194 rfl rfl rfl ?_
  refine wi_iconst (pc' := 196) q345_195 rfl ?_
  refine wi_iload (i := 5) (pc' := 198) q345_196 rfl rfl ?_
  refine wi_iload (i := 6) (pc' := 200) q345_198 rfl rfl ?_
  refine wi_iload_n (i := 2) (pc' := 201) q345_200 rfl rfl rfl ?_
  refine wi_bipush (pc' := 203) q345_201 rfl (by decide) ?_
  refine wi_ishr (pc' := 204) q345_203 rfl ?_
  refine wi_bipush (pc' := 206) q345_204 rfl (by decide) ?_
  refine wi_iand (pc' := 207) q345_206 rfl ?_
  refine wi_iconst (pc' := 208) q345_207 rfl ?_
  refine wi_iconst (pc' := 209) q345_208 rfl ?_
  refine wi_ch (u9 := (229, X)) (q := q_layPlank s cu cv (zand (zshr v 6) 7)) (ex := [3, 1, 0]) (A := (fun G' => ∃ sv u h s, PG (B + 4) sv u h s G')) (C := (PG B sv u h s)) (pc' := 212) wq345_209 rfl (pC_layPlank p hcu hcv (zr_and _ _) ) (fun h => absurd h (by decide)) rfl rfl (qn_layPlank p.ok) (fun _ h => PGd_of h (by omega)) (by (try dsimp only); omega) (by (try dsimp only); omega) ?_
  intro G9 got hg hx
  refine wi_istore9 (pc' := 214) q345_212 rfl rfl (Or.inr rfl) ?_
  refine wi_goto (t := 328) q345_214 (by decide) ?_
  exact dz_t (by (try dsimp only); omega) (by (try dsimp only); omega) hg hx
theorem q345_217 : decode (zbc 345) 217 = .ok (.aload_n 0, 1) := by decide +kernel
theorem q345_218 : decode (zbc 345) 218 = .ok (.bipush 6, 2) := by decide +kernel
theorem q345_220 : decode (zbc 345) 220 = .ok (.iload_n 2, 1) := by decide +kernel
theorem q345_221 : decode (zbc 345) 221 = .ok (.bipush 31, 2) := by decide +kernel
theorem q345_223 : decode (zbc 345) 223 = .ok (.iand, 1) := by decide +kernel
theorem q345_224 : decode (zbc 345) 224 = .ok (.invokestatic 185, 3) := by decide +kernel
theorem wq345_224 {L9 : Nat} {xs9 : Nat → Int32} {N9 : Nat} : z_SC N9 znl zTs (zZ L9 xs9 N9) zyn zbc zrt zfr zlo (fun _ i => i) ztb 345 224 2 336 3 := sc_S (P := fun _ i => i) zTs_good q345_224 kx_545 kx_546 kx_31 kx_547 rfl ⟨by decide, by decide, by decide +kernel⟩ ⟨Nat.le_of_ble_eq_true rfl, Nat.le_of_ble_eq_true rfl⟩
theorem q345_227 : decode (zbc 345) 227 = .ok (.istore 9, 2) := by decide +kernel
theorem q345_229 : decode (zbc 345) 229 = .ok (.goto 99, 3) := by decide +kernel
theorem dz_217 {X : Nat × (Nat → Int32)} {B : Int} {sv : Nat → Int → Int} {u : Int} {h : Nat → Int → Int} {s : Int → Int} {b : WB} {c d : Nat} {F : GM} {Y : DY} {w v cu cv l9 t9 : Int} {a9 : Value} {G : GM} (hb1 : c + 7 ≤ b.1) (hb2 : d + 42 ≤ b.2.1) (hB : B ≤ 9000) (p : PG B sv u h s G) (hcu : zr cu) (hcv : zr cv) (hl9 : zr l9) (ht9 : zr t9) (hv : zr v) : wW (229, X) 345 b 217 [.ref 192, .int (zi w), .int (zi v), .long (zl (dgS s)), .null, .int (zi cu), .int (zi cv), .int (zi l9), .int (zi t9), a9] [] G F Y c d (fun o G' F' Y' => o = some (.int (zi 1)) ∧ F = F' ∧ Y = Y' ∧ ∃ sv u h s, PG (B + 4) sv u h s G') := by
  refine wi_aload_n (i := 0) (pc' := 218) q345_217 rfl rfl rfl ?_
  refine wi_bipush (pc' := 220) q345_218 rfl (by decide) ?_
  refine wi_iload_n (i := 2) (pc' := 221) q345_220 rfl rfl rfl ?_
  refine wi_bipush (pc' := 223) q345_221 rfl (by decide) ?_
  refine wi_iand (pc' := 224) q345_223 rfl ?_
  refine wi_ch (u9 := (229, X)) (q := q_setClearness s (zand v 31)) (ex := [1]) (A := (fun G' => ∃ sv u h s, PG (B + 4) sv u h s G')) (C := (PG B sv u h s)) (pc' := 227) wq345_224 rfl (cL_s2 (pC_setClearness p (zr_and _ _) ) zLc_i) (fun h => absurd h (by decide)) rfl rfl (qn_setClearness p.ok) (fun _ h => PGd_of h (by omega)) (by (try dsimp only); omega) (by (try dsimp only); omega) ?_
  intro G9 got hg hx
  refine wi_istore9 (pc' := 229) q345_227 rfl rfl (Or.inr rfl) ?_
  refine wi_goto (t := 328) q345_229 (by decide) ?_
  exact dz_t (by (try dsimp only); omega) (by (try dsimp only); omega) hg hx
theorem q345_232 : decode (zbc 345) 232 = .ok (.aload_n 0, 1) := by decide +kernel
theorem q345_233 : decode (zbc 345) 233 = .ok (.bipush 7, 2) := by decide +kernel
theorem q345_235 : decode (zbc 345) 235 = .ok (.iload_n 2, 1) := by decide +kernel
theorem q345_236 : decode (zbc 345) 236 = .ok (.bipush 31, 2) := by decide +kernel
theorem q345_238 : decode (zbc 345) 238 = .ok (.iand, 1) := by decide +kernel
theorem q345_239 : decode (zbc 345) 239 = .ok (.iload_n 2, 1) := by decide +kernel
theorem q345_240 : decode (zbc 345) 240 = .ok (.iconst 5, 1) := by decide +kernel
theorem q345_241 : decode (zbc 345) 241 = .ok (.ishr, 1) := by decide +kernel
theorem q345_242 : decode (zbc 345) 242 = .ok (.bipush 15, 2) := by decide +kernel
theorem q345_244 : decode (zbc 345) 244 = .ok (.iand, 1) := by decide +kernel
theorem q345_245 : decode (zbc 345) 245 = .ok (.invokestatic 251, 3) := by decide +kernel
theorem wq345_245 {L9 : Nat} {xs9 : Nat → Int32} {N9 : Nat} : z_SC N9 znl zTs (zZ L9 xs9 N9) zyn zbc zrt zfr zlo (fun _ i => i) ztb 345 245 2 335 4 := sc_S (P := fun _ i => i) zTs_good q345_245 kx_1385 kx_1386 kx_31 kx_1387 rfl ⟨by decide, by decide, by decide +kernel⟩ ⟨Nat.le_of_ble_eq_true rfl, Nat.le_of_ble_eq_true rfl⟩
theorem q345_248 : decode (zbc 345) 248 = .ok (.istore 9, 2) := by decide +kernel
theorem q345_250 : decode (zbc 345) 250 = .ok (.goto 78, 3) := by decide +kernel
theorem dz_232 {X : Nat × (Nat → Int32)} {B : Int} {sv : Nat → Int → Int} {u : Int} {h : Nat → Int → Int} {s : Int → Int} {b : WB} {c d : Nat} {F : GM} {Y : DY} {w v cu cv l9 t9 : Int} {a9 : Value} {G : GM} (hb1 : c + 7 ≤ b.1) (hb2 : d + 42 ≤ b.2.1) (hB : B ≤ 9000) (p : PG B sv u h s G) (hcu : zr cu) (hcv : zr cv) (hl9 : zr l9) (ht9 : zr t9) (hv : zr v) : wW (229, X) 345 b 232 [.ref 192, .int (zi w), .int (zi v), .long (zl (dgS s)), .null, .int (zi cu), .int (zi cv), .int (zi l9), .int (zi t9), a9] [] G F Y c d (fun o G' F' Y' => o = some (.int (zi 1)) ∧ F = F' ∧ Y = Y' ∧ ∃ sv u h s, PG (B + 4) sv u h s G') := by
  refine wi_aload_n (i := 0) (pc' := 233) q345_232 rfl rfl rfl ?_
  refine wi_bipush (pc' := 235) q345_233 rfl (by decide) ?_
  refine wi_iload_n (i := 2) (pc' := 236) q345_235 rfl rfl rfl ?_
  refine wi_bipush (pc' := 238) q345_236 rfl (by decide) ?_
  refine wi_iand (pc' := 239) q345_238 rfl ?_
  refine wi_iload_n (i := 2) (pc' := 240) q345_239 rfl rfl rfl ?_
  refine wi_iconst (pc' := 241) q345_240 rfl ?_
  refine wi_ishr (pc' := 242) q345_241 rfl ?_
  refine wi_bipush (pc' := 244) q345_242 rfl (by decide) ?_
  refine wi_iand (pc' := 245) q345_244 rfl ?_
  refine wi_ch (u9 := (229, X)) (q := q_setFog s (zand v 31) (zand (zshr v 5) 15)) (ex := [3, 1]) (A := (fun G' => ∃ sv u h s, PG (B + 4) sv u h s G')) (C := (PG B sv u h s)) (pc' := 248) wq345_245 rfl (cL_s3 (pC_setFog p (zr_and _ _) (zr_and _ _) ) zLc_i) (fun h => absurd h (by decide)) rfl rfl (qn_setFog p.ok) (fun _ h => PGd_of h (by omega)) (by (try dsimp only); omega) (by (try dsimp only); omega) ?_
  intro G9 got hg hx
  refine wi_istore9 (pc' := 250) q345_248 rfl rfl (Or.inr rfl) ?_
  refine wi_goto (t := 328) q345_250 (by decide) ?_
  exact dz_t (by (try dsimp only); omega) (by (try dsimp only); omega) hg hx
theorem q345_253 : decode (zbc 345) 253 = .ok (.aload_n 0, 1) := by decide +kernel
theorem q345_254 : decode (zbc 345) 254 = .ok (.bipush 8, 2) := by decide +kernel
theorem q345_256 : decode (zbc 345) 256 = .ok (.iload 8, 2) := by decide +kernel
theorem q345_258 : decode (zbc 345) 258 = .ok (.iload 7, 2) := by decide +kernel
theorem q345_260 : decode (zbc 345) 260 = .ok (.invokestatic 251, 3) := by decide +kernel
theorem wq345_260 {L9 : Nat} {xs9 : Nat → Int32} {N9 : Nat} : z_SC N9 znl zTs (zZ L9 xs9 N9) zyn zbc zrt zfr zlo (fun _ i => i) ztb 345 260 2 335 4 := sc_S (P := fun _ i => i) zTs_good q345_260 kx_1385 kx_1386 kx_31 kx_1387 rfl ⟨by decide, by decide, by decide +kernel⟩ ⟨Nat.le_of_ble_eq_true rfl, Nat.le_of_ble_eq_true rfl⟩
theorem q345_263 : decode (zbc 345) 263 = .ok (.istore 9, 2) := by decide +kernel
theorem q345_265 : decode (zbc 345) 265 = .ok (.goto 63, 3) := by decide +kernel
theorem dz_253 {X : Nat × (Nat → Int32)} {B : Int} {sv : Nat → Int → Int} {u : Int} {h : Nat → Int → Int} {s : Int → Int} {b : WB} {c d : Nat} {F : GM} {Y : DY} {w v cu cv l9 t9 : Int} {a9 : Value} {G : GM} (hb1 : c + 7 ≤ b.1) (hb2 : d + 42 ≤ b.2.1) (hB : B ≤ 9000) (p : PG B sv u h s G) (hcu : zr cu) (hcv : zr cv) (hl9 : zr l9) (ht9 : zr t9) (hv : zr v) : wW (229, X) 345 b 253 [.ref 192, .int (zi w), .int (zi v), .long (zl (dgS s)), .null, .int (zi cu), .int (zi cv), .int (zi l9), .int (zi t9), a9] [] G F Y c d (fun o G' F' Y' => o = some (.int (zi 1)) ∧ F = F' ∧ Y = Y' ∧ ∃ sv u h s, PG (B + 4) sv u h s G') := by
  refine wi_aload_n (i := 0) (pc' := 254) q345_253 rfl rfl rfl ?_
  refine wi_bipush (pc' := 256) q345_254 rfl (by decide) ?_
  refine wi_iload (i := 8) (pc' := 258) q345_256 rfl rfl ?_
  refine wi_iload (i := 7) (pc' := 260) q345_258 rfl rfl ?_
  refine wi_ch (u9 := (229, X)) (q := q_setTarget s t9 l9) (ex := [3, 0]) (A := (fun G' => ∃ sv u h s, PG (B + 4) sv u h s G')) (C := (PG B sv u h s)) (pc' := 263) wq345_260 rfl (cL_s3 (pC_setTarget p ht9 hl9 ) zLc_i) (fun h => absurd h (by decide)) rfl rfl (qn_setTarget p.ok) (fun _ h => PGd_of h (by omega)) (by (try dsimp only); omega) (by (try dsimp only); omega) ?_
  intro G9 got hg hx
  refine wi_istore9 (pc' := 265) q345_263 rfl rfl (Or.inr rfl) ?_
  refine wi_goto (t := 328) q345_265 (by decide) ?_
  exact dz_t (by (try dsimp only); omega) (by (try dsimp only); omega) hg hx
theorem q345_268 : decode (zbc 345) 268 = .ok (.aload_n 0, 1) := by decide +kernel
theorem q345_269 : decode (zbc 345) 269 = .ok (.iconst 0, 1) := by decide +kernel
theorem q345_270 : decode (zbc 345) 270 = .ok (.iconst 1, 1) := by decide +kernel
theorem q345_271 : decode (zbc 345) 271 = .ok (.iload_n 2, 1) := by decide +kernel
theorem q345_272 : decode (zbc 345) 272 = .ok (.iconst 3, 1) := by decide +kernel
theorem q345_273 : decode (zbc 345) 273 = .ok (.iand, 1) := by decide +kernel
theorem q345_274 : decode (zbc 345) 274 = .ok (.iadd, 1) := by decide +kernel
theorem q345_275 : decode (zbc 345) 275 = .ok (.invokestatic 185, 3) := by decide +kernel
theorem wq345_275 {L9 : Nat} {xs9 : Nat → Int32} {N9 : Nat} : z_SC N9 znl zTs (zZ L9 xs9 N9) zyn zbc zrt zfr zlo (fun _ i => i) ztb 345 275 2 336 3 := sc_S (P := fun _ i => i) zTs_good q345_275 kx_545 kx_546 kx_31 kx_547 rfl ⟨by decide, by decide, by decide +kernel⟩ ⟨Nat.le_of_ble_eq_true rfl, Nat.le_of_ble_eq_true rfl⟩
theorem q345_278 : decode (zbc 345) 278 = .ok (.istore 9, 2) := by decide +kernel
theorem q345_280 : decode (zbc 345) 280 = .ok (.goto 48, 3) := by decide +kernel
theorem dz_268 {X : Nat × (Nat → Int32)} {B : Int} {sv : Nat → Int → Int} {u : Int} {h : Nat → Int → Int} {s : Int → Int} {b : WB} {c d : Nat} {F : GM} {Y : DY} {w v cu cv l9 t9 : Int} {a9 : Value} {G : GM} (hb1 : c + 7 ≤ b.1) (hb2 : d + 42 ≤ b.2.1) (hB : B ≤ 9000) (p : PG B sv u h s G) (hcu : zr cu) (hcv : zr cv) (hl9 : zr l9) (ht9 : zr t9) (hv : zr v) : wW (229, X) 345 b 268 [.ref 192, .int (zi w), .int (zi v), .long (zl (dgS s)), .null, .int (zi cu), .int (zi cv), .int (zi l9), .int (zi t9), a9] [] G F Y c d (fun o G' F' Y' => o = some (.int (zi 1)) ∧ F = F' ∧ Y = Y' ∧ ∃ sv u h s, PG (B + 4) sv u h s G') := by
  have e3 := zand_3 v
  refine wi_aload_n (i := 0) (pc' := 269) q345_268 rfl rfl rfl ?_
  refine wi_iconst (pc' := 270) q345_269 rfl ?_
  refine wi_iconst (pc' := 271) q345_270 rfl ?_
  refine wi_iload_n (i := 2) (pc' := 272) q345_271 rfl rfl rfl ?_
  refine wi_iconst (pc' := 273) q345_272 rfl ?_
  refine wi_iand (pc' := 274) q345_273 rfl ?_
  refine wi_iadd (pc' := 275) q345_274 rfl ?_
  refine wi_ch (u9 := (229, X)) (q := q_tick s (1 + (zand v 3))) (ex := [1, 0]) (A := (fun G' => ∃ sv u h s, PG (B + 4) sv u h s G')) (C := (PG B sv u h s)) (pc' := 278) wq345_275 rfl (cL_s2 (pC_tick p (by omega) (B' := B + 4) (by omega) (fun _ _ _ => by have := p.1.2.2.1; omega) (by omega)) zLc_i) (fun h => absurd h (by decide)) rfl rfl (qn_tick p.ok) (fun _ h => PGd_of h (by omega)) (by (try dsimp only); omega) (by (try dsimp only); omega) ?_
  intro G9 got hg hx
  refine wi_istore9 (pc' := 280) q345_278 rfl rfl (Or.inr rfl) ?_
  refine wi_goto (t := 328) q345_280 (by decide) ?_
  exact dz_t (by (try dsimp only); omega) (by (try dsimp only); omega) hg hx
