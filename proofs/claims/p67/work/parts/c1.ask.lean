/-! The law's questions, over the program's state. -/
theorem zLc_P {N y : Nat} {as : List Value} {G F : GM} {n : Nat} {e w : Int} {P P' : GM → Prop} (h : zC N y as G F n (zLc F n e w P)) (hp : ∀ G', P G' → P' G') : zC N y as G F n (zLc F n e w P') :=
  zW_w (fun o G' F' n' q => ⟨q.1, hp _ q.2.1, q.2.2⟩) h
theorem zLc_i {F : GM} {n : Nat} {e w : Int} {P : GM → Prop} : ∀ o G' F' n', zLc F n e w P o G' F' n' → ∃ v, o = .inl (some (.int v)) := fun o G' F' n' h => ⟨_, h.1⟩
theorem zN_v {ex : List Nat} {q : Int × Int} {v : Int} (h : q = (0, v)) (hz : zr v) : q.1 = 0 ∧ zN ex (q.1, gI q.2) = v := by
  subst h
  exact ⟨rfl, zi_to hz⟩
theorem zN_b {ex : List Nat} {q : Int × Int} {p : Prop} [Decidable p] (h : q = (0, zb p)) : q.1 = 0 ∧ zN ex (q.1, gZ q.2) = zb p := by
  subst h
  refine ⟨rfl, ?_⟩
  show gB (zi (zb p)).toInt = zb p
  by_cases hp : p
  · rw [zb_t hp]
    decide +kernel
  · rw [zb_f hp]
    decide +kernel
theorem zN_x {ex : List Nat} {q : Int × Int} {w : Int} {c : Nat} {k : Nat} (h : q.1 = (c : Int) + 1) (hk : ex.getD c 0 = k) : zN ex (q.1, w) = zcd k := by
  unfold zN
  rw [if_neg (by dsimp only; omega)]
  dsimp only
  rw [h, show ((c : Int) + 1 - 1).toNat = c by omega, hk]
section C1
variable {u9 : WU} {y : Nat} {b : WB} {pc pc' : Nat} {L st : List Value} {G F : GM} {Y : DY} {c d : Nat} {Q : WQ}
theorem wi_cv {k1 y2 n : Nat} {as : List Value} {e w : Int} {P : GM → Prop} (hsc : z_SC u9.1 znl zTs (zZ u9.2.1 u9.2.2 u9.1) zyn zbc zrt zfr zlo (fun _ i => i) ztb y pc k1 y2 n) (hp : pc + 3 = pc') (hc : zC u9.1 y2 as G F 0 (zLc F 0 e w P)) (hcl : k1 = 3 → ∃ T Nf, vwCl[zcl y2]? = some ((zyn y2).cls, T, Nf)) (ha : (st.take n).reverse = as) (hok : z_okc u9.1 (zcl y2) (znl y2) (zc2 y2) k1 n st = true) (he : e = 0) (hb1 : c ≤ b.1) (hb2 : d ≤ b.2.1)
    (k : ∀ G', P G' → wW u9 y b pc' L (.int (zi w) :: st.drop n) G' F Y c d Q) : wW u9 y b pc L st G F Y c d Q := by
  refine wi_call1 hsc hp hc hcl ha hok (by rintro z G9 F9 n9 ⟨h9, -⟩; cases h9) (by rintro v9 G9 F9 n9 ⟨h9, -⟩; cases h9; exact w_v_i _ _) (by rintro v9 G9 F9 n9 ⟨h9, -, -, h8⟩; rw [if_pos he] at h8; subst h8; exact ⟨hb1, by omega⟩) ?_
  rintro v9 G9 F9 n9 ⟨h9, h7, h6, h8⟩
  rw [if_pos he] at h8
  cases h9
  rw [h6, h8]
  exact k G9 h7
theorem wi_cx {k1 y2 n : Nat} {as : List Value} {e w : Int} {P : GM → Prop} (hsc : z_SC u9.1 znl zTs (zZ u9.2.1 u9.2.2 u9.1) zyn zbc zrt zfr zlo (fun _ i => i) ztb y pc k1 y2 n) (hp : pc + 3 = pc') (hc : zC u9.1 y2 as G F 0 (zLc F 0 e w P)) (hcl : k1 = 3 → ∃ T Nf, vwCl[zcl y2]? = some ((zyn y2).cls, T, Nf)) (ha : (st.take n).reverse = as) (hok : z_okc u9.1 (zcl y2) (znl y2) (zc2 y2) k1 n st = true) (hb1 : c + 1 ≤ b.1) (hb2 : d + 6 ≤ b.2.1)
    (k : ∀ G', P G' → wW u9 y b pc' L (.int (zi w) :: st.drop n) G' F Y (c + 1) (d + 6) Q) : wW u9 y b pc L st G F Y c d Q := by
  have key : ∀ n9 : Nat, n9 = (if e = 0 then 0 else 0 + 1) → n9 ≤ 1 := fun n9 h => by
    rw [h]
    split <;> omega
  refine wi_call1 hsc hp hc hcl ha hok (by rintro z G9 F9 n9 ⟨h9, -⟩; cases h9) (by rintro v9 G9 F9 n9 ⟨h9, -⟩; cases h9; exact w_v_i _ _) (by rintro v9 G9 F9 n9 ⟨h9, -, -, h8⟩; have := key n9 h8; exact ⟨by omega, by omega⟩) ?_
  rintro v9 G9 F9 n9 ⟨h9, h7, h6, h8⟩
  have := key n9 h8
  cases h9
  rw [h6]
  exact wW_cd (by omega) (by omega) (k G9 h7)
theorem wi_cp {k1 y2 n : Nat} {as : List Value} {w : Int} (hsc : z_SC u9.1 znl zTs (zZ u9.2.1 u9.2.2 u9.1) zyn zbc zrt zfr zlo (fun _ i => i) ztb y pc k1 y2 n) (hp : pc + 3 = pc') (hc : zPu u9.1 y2 as w G F 0) (hcl : k1 = 3 → ∃ T Nf, vwCl[zcl y2]? = some ((zyn y2).cls, T, Nf)) (ha : (st.take n).reverse = as) (hok : z_okc u9.1 (zcl y2) (znl y2) (zc2 y2) k1 n st = true) (hb1 : c ≤ b.1) (hb2 : d ≤ b.2.1)
    (k : wW u9 y b pc' L (.int (zi w) :: st.drop n) G F Y c d Q) : wW u9 y b pc L st G F Y c d Q := by
  refine wi_call1 hsc hp hc hcl ha hok (by rintro z G9 F9 n9 ⟨h9, -⟩; cases h9) (by rintro v9 G9 F9 n9 ⟨h9, -⟩; cases h9; exact w_v_i _ _) (by rintro v9 G9 F9 n9 ⟨-, -, -, rfl⟩; exact ⟨hb1, by omega⟩) ?_
  rintro v9 G9 F9 n9 ⟨h9, h7, h6, h8⟩
  cases h9
  rw [h7, h6, h8]
  exact k
end C1
section C1P
variable {B : Int} {sv : Nat → Int → Int} {u9 : Int} {h9 : Nat → Int → Int} {s : Int → Int} {G F : GM}
theorem pL_isWater (p : PG B sv u9 h9 s G) {x y : Int} (hx : zr x) (hy : zr y) {w4 : Int32} {w5 : Int32} {w6 : Int32} : zC 229 334 [.ref 192, .int (zi 16), .int (zi x), .int (zi y), .int w4, .int w5, .int w6] G F 0 (zLc F 0 (q_isWater s x y).1 (zN [3] ((q_isWater s x y).1, gZ (q_isWater s x y).2)) (PG B sv u9 h9 s)) := zLc_P (cL_isWater (by decide) p.ok p.hR hx hy) (fun G' hx => PG_q p hx)
theorem pL_isHut (p : PG B sv u9 h9 s G) {x y : Int} (hx : zr x) (hy : zr y) {w4 : Int32} {w5 : Int32} {w6 : Int32} : zC 229 334 [.ref 192, .int (zi 17), .int (zi x), .int (zi y), .int w4, .int w5, .int w6] G F 0 (zLc F 0 (q_isHut s x y).1 (zN [3] ((q_isHut s x y).1, gZ (q_isHut s x y).2)) (PG B sv u9 h9 s)) := zLc_P (cL_isHut (by decide) p.ok p.hR hx hy) (fun G' hx => PG_q p hx)
theorem pL_isPlank (p : PG B sv u9 h9 s G) {x y : Int} (hx : zr x) (hy : zr y) {w4 : Int32} {w5 : Int32} {w6 : Int32} : zC 229 334 [.ref 192, .int (zi 18), .int (zi x), .int (zi y), .int w4, .int w5, .int w6] G F 0 (zLc F 0 (q_isPlank s x y).1 (zN [3] ((q_isPlank s x y).1, gZ (q_isPlank s x y).2)) (PG B sv u9 h9 s)) := zLc_P (cL_isPlank (by decide) p.ok p.hR hx hy) (fun G' hx => PG_q p hx)
theorem pL_plankStrength (p : PG B sv u9 h9 s G) {x y : Int} (hx : zr x) (hy : zr y) {w4 : Int32} {w5 : Int32} {w6 : Int32} : zC 229 334 [.ref 192, .int (zi 19), .int (zi x), .int (zi y), .int w4, .int w5, .int w6] G F 0 (zLc F 0 (q_plankStrength s x y).1 (zN [3, 2] ((q_plankStrength s x y).1, gI (q_plankStrength s x y).2)) (PG B sv u9 h9 s)) := zLc_P (cL_plankStrength (by decide) p.ok p.hR hx hy) (fun G' hx => PG_q p hx)
theorem pL_pathLength (p : PG B sv u9 h9 s G) {x y u v : Int} (hx : zr x) (hy : zr y) (hu : zr u) (hv : zr v) {w6 : Int32} : zC 229 334 [.ref 192, .int (zi 20), .int (zi x), .int (zi y), .int (zi u), .int (zi v), .int w6] G F 0 (zLc F 0 (q_path s x y u v).1 (zN [3, 2] ((q_path s x y u v).1, gI (q_path s x y u v).2)) (PG B sv u9 h9 s)) := zLc_P (cL_pathLength (by decide) p.ok p.hR hx hy hu hv) (fun G' hx => PG_q p hx)
theorem pL_stepsToHut (p : PG B sv u9 h9 s G) {x y : Int} (hx : zr x) (hy : zr y) {w4 : Int32} {w5 : Int32} {w6 : Int32} : zC 229 334 [.ref 192, .int (zi 21), .int (zi x), .int (zi y), .int w4, .int w5, .int w6] G F 0 (zLc F 0 (q_hutSteps s x y).1 (zN [3, 2] ((q_hutSteps s x y).1, gI (q_hutSteps s x y).2)) (PG B sv u9 h9 s)) := zLc_P (cL_stepsToHut (by decide) p.ok p.hR hx hy) (fun G' hx => PG_q p hx)
theorem pL_fog (p : PG B sv u9 h9 s G) {h : Int} (hh : zr h) {w3 : Int32} {w4 : Int32} {w5 : Int32} {w6 : Int32} : zC 229 334 [.ref 192, .int (zi 22), .int (zi h), .int w3, .int w4, .int w5, .int w6] G F 0 (zLc F 0 (q_fog s h).1 (zN [3] ((q_fog s h).1, gI (q_fog s h).2)) (PG B sv u9 h9 s)) := zLc_P (cL_fog (by decide) p.ok p.hR hh) (fun G' hx => PG_q p hx)
theorem pL_lightColumn (p : PG B sv u9 h9 s G) {l : Int} (hl0 : zr l) {w3 : Int32} {w4 : Int32} {w5 : Int32} {w6 : Int32} : zC 229 334 [.ref 192, .int (zi 23), .int (zi l), .int w3, .int w4, .int w5, .int w6] G F 0 (zLc F 0 (q_light s l 0).1 (zN [3] ((q_light s l 0).1, gI (q_light s l 0).2)) (PG B sv u9 h9 s)) := zLc_P (cL_lightColumn (by decide) p.ok p.hR hl0) (fun G' hx => PG_q p hx)
theorem pL_lightRow (p : PG B sv u9 h9 s G) {l : Int} (hl0 : zr l) {w3 : Int32} {w4 : Int32} {w5 : Int32} {w6 : Int32} : zC 229 334 [.ref 192, .int (zi 24), .int (zi l), .int w3, .int w4, .int w5, .int w6] G F 0 (zLc F 0 (q_light s l 1).1 (zN [3] ((q_light s l 1).1, gI (q_light s l 1).2)) (PG B sv u9 h9 s)) := zLc_P (cL_lightRow (by decide) p.ok p.hR hl0) (fun G' hx => PG_q p hx)
theorem pL_brightness (p : PG B sv u9 h9 s G) {l : Int} (hl0 : zr l) {w3 : Int32} {w4 : Int32} {w5 : Int32} {w6 : Int32} : zC 229 334 [.ref 192, .int (zi 25), .int (zi l), .int w3, .int w4, .int w5, .int w6] G F 0 (zLc F 0 (q_light s l 2).1 (zN [3] ((q_light s l 2).1, gI (q_light s l 2).2)) (PG B sv u9 h9 s)) := zLc_P (cL_brightness (by decide) p.ok p.hR hl0) (fun G' hx => PG_q p hx)
theorem pL_isTrueLight (p : PG B sv u9 h9 s G) {l : Int} (hl0 : zr l) {w3 : Int32} {w4 : Int32} {w5 : Int32} {w6 : Int32} : zC 229 334 [.ref 192, .int (zi 26), .int (zi l), .int w3, .int w4, .int w5, .int w6] G F 0 (zLc F 0 (q_isTrueLight s l).1 (zN [3] ((q_isTrueLight s l).1, gZ (q_isTrueLight s l).2)) (PG B sv u9 h9 s)) := zLc_P (cL_isTrueLight (by decide) p.ok p.hR hl0) (fun G' hx => PG_q p hx)
theorem pL_hasSuccessor (p : PG B sv u9 h9 s G) {l : Int} (hl0 : zr l) {w3 : Int32} {w4 : Int32} {w5 : Int32} {w6 : Int32} : zC 229 334 [.ref 192, .int (zi 27), .int (zi l), .int w3, .int w4, .int w5, .int w6] G F 0 (zLc F 0 (q_hasSuccessor s l).1 (zN [3] ((q_hasSuccessor s l).1, gZ (q_hasSuccessor s l).2)) (PG B sv u9 h9 s)) := zLc_P (cL_hasSuccessor (by decide) p.ok p.hR hl0) (fun G' hx => PG_q p hx)
theorem pL_successor (p : PG B sv u9 h9 s G) {l : Int} (hl0 : zr l) {w3 : Int32} {w4 : Int32} {w5 : Int32} {w6 : Int32} : zC 229 334 [.ref 192, .int (zi 28), .int (zi l), .int w3, .int w4, .int w5, .int w6] G F 0 (zLc F 0 (q_successor s l).1 (zN [3, 2] ((q_successor s l).1, gI (q_successor s l).2)) (PG B sv u9 h9 s)) := zLc_P (cL_successor (by decide) p.ok p.hR hl0) (fun G' hx => PG_q p hx)
theorem pL_followers (p : PG B sv u9 h9 s G) {l : Int} (hl0 : zr l) {w3 : Int32} {w4 : Int32} {w5 : Int32} {w6 : Int32} : zC 229 334 [.ref 192, .int (zi 29), .int (zi l), .int w3, .int w4, .int w5, .int w6] G F 0 (zLc F 0 (q_followers s l).1 (zN [3] ((q_followers s l).1, gI (q_followers s l).2)) (PG B sv u9 h9 s)) := zLc_P (cL_followers (by decide) p.ok p.hR hl0) (fun G' hx => PG_q p hx)
theorem pL_leadsAstray (p : PG B sv u9 h9 s G) {l : Int} (hl0 : zr l) {w3 : Int32} {w4 : Int32} {w5 : Int32} {w6 : Int32} : zC 229 334 [.ref 192, .int (zi 30), .int (zi l), .int w3, .int w4, .int w5, .int w6] G F 0 (zLc F 0 (q_leadsAstray s l).1 (zN [3] ((q_leadsAstray s l).1, gZ (q_leadsAstray s l).2)) (PG B sv u9 h9 s)) := zLc_P (cL_leadsAstray (by decide) p.ok p.hR hl0) (fun G' hx => PG_q p hx)
theorem pL_travellerColumn (p : PG B sv u9 h9 s G) {t : Int} (ht0 : zr t) {w3 : Int32} {w4 : Int32} {w5 : Int32} {w6 : Int32} : zC 229 334 [.ref 192, .int (zi 31), .int (zi t), .int w3, .int w4, .int w5, .int w6] G F 0 (zLc F 0 (q_walker s t 0).1 (zN [3] ((q_walker s t 0).1, gI (q_walker s t 0).2)) (PG B sv u9 h9 s)) := zLc_P (cL_travellerColumn (by decide) p.ok p.hR ht0) (fun G' hx => PG_q p hx)
theorem pL_travellerRow (p : PG B sv u9 h9 s G) {t : Int} (ht0 : zr t) {w3 : Int32} {w4 : Int32} {w5 : Int32} {w6 : Int32} : zC 229 334 [.ref 192, .int (zi 32), .int (zi t), .int w3, .int w4, .int w5, .int w6] G F 0 (zLc F 0 (q_walker s t 1).1 (zN [3] ((q_walker s t 1).1, gI (q_walker s t 1).2)) (PG B sv u9 h9 s)) := zLc_P (cL_travellerRow (by decide) p.ok p.hR ht0) (fun G' hx => PG_q p hx)
theorem pL_isWalking (p : PG B sv u9 h9 s G) {t : Int} (ht0 : zr t) {w3 : Int32} {w4 : Int32} {w5 : Int32} {w6 : Int32} : zC 229 334 [.ref 192, .int (zi 33), .int (zi t), .int w3, .int w4, .int w5, .int w6] G F 0 (zLc F 0 (q_state s t 0).1 (zN [3] ((q_state s t 0).1, gZ (q_state s t 0).2)) (PG B sv u9 h9 s)) := zLc_P (cL_isWalking (by decide) p.ok p.hR ht0) (fun G' hx => PG_q p hx)
theorem pL_hasArrived (p : PG B sv u9 h9 s G) {t : Int} (ht0 : zr t) {w3 : Int32} {w4 : Int32} {w5 : Int32} {w6 : Int32} : zC 229 334 [.ref 192, .int (zi 34), .int (zi t), .int w3, .int w4, .int w5, .int w6] G F 0 (zLc F 0 (q_state s t 1).1 (zN [3] ((q_state s t 1).1, gZ (q_state s t 1).2)) (PG B sv u9 h9 s)) := zLc_P (cL_hasArrived (by decide) p.ok p.hR ht0) (fun G' hx => PG_q p hx)
theorem pL_hasSunk (p : PG B sv u9 h9 s G) {t : Int} (ht0 : zr t) {w3 : Int32} {w4 : Int32} {w5 : Int32} {w6 : Int32} : zC 229 334 [.ref 192, .int (zi 35), .int (zi t), .int w3, .int w4, .int w5, .int w6] G F 0 (zLc F 0 (q_state s t 2).1 (zN [3] ((q_state s t 2).1, gZ (q_state s t 2).2)) (PG B sv u9 h9 s)) := zLc_P (cL_hasSunk (by decide) p.ok p.hR ht0) (fun G' hx => PG_q p hx)
theorem pL_stepsTaken (p : PG B sv u9 h9 s G) {t : Int} (ht0 : zr t) {w3 : Int32} {w4 : Int32} {w5 : Int32} {w6 : Int32} : zC 229 334 [.ref 192, .int (zi 36), .int (zi t), .int w3, .int w4, .int w5, .int w6] G F 0 (zLc F 0 (q_walker s t 6).1 (zN [3] ((q_walker s t 6).1, gI (q_walker s t 6).2)) (PG B sv u9 h9 s)) := zLc_P (cL_stepsTaken (by decide) p.ok p.hR ht0) (fun G' hx => PG_q p hx)
theorem pL_hasTarget (p : PG B sv u9 h9 s G) {t : Int} (ht0 : zr t) {w3 : Int32} {w4 : Int32} {w5 : Int32} {w6 : Int32} : zC 229 334 [.ref 192, .int (zi 37), .int (zi t), .int w3, .int w4, .int w5, .int w6] G F 0 (zLc F 0 (q_hasTarget s t).1 (zN [3] ((q_hasTarget s t).1, gZ (q_hasTarget s t).2)) (PG B sv u9 h9 s)) := zLc_P (cL_hasTarget (by decide) p.ok p.hR ht0) (fun G' hx => PG_q p hx)
theorem pL_target (p : PG B sv u9 h9 s G) {t : Int} (ht0 : zr t) {w3 : Int32} {w4 : Int32} {w5 : Int32} {w6 : Int32} : zC 229 334 [.ref 192, .int (zi 38), .int (zi t), .int w3, .int w4, .int w5, .int w6] G F 0 (zLc F 0 (q_target s t).1 (zN [3, 2] ((q_target s t).1, gI (q_target s t).2)) (PG B sv u9 h9 s)) := zLc_P (cL_target (by decide) p.ok p.hR ht0) (fun G' hx => PG_q p hx)
theorem pL_hasPassed (p : PG B sv u9 h9 s G) {t : Int} (ht0 : zr t) {l : Int} (hl0 : zr l) {w4 : Int32} {w5 : Int32} {w6 : Int32} : zC 229 334 [.ref 192, .int (zi 39), .int (zi t), .int (zi l), .int w4, .int w5, .int w6] G F 0 (zLc F 0 (q_hasPassed s t l).1 (zN [3] ((q_hasPassed s t l).1, gZ (q_hasPassed s t l).2)) (PG B sv u9 h9 s)) := zLc_P (cL_hasPassed (by decide) p.ok p.hR ht0 hl0) (fun G' hx => PG_q p hx)
theorem pL_distrusts (p : PG B sv u9 h9 s G) {t : Int} (ht0 : zr t) {l : Int} (hl0 : zr l) {w4 : Int32} {w5 : Int32} {w6 : Int32} : zC 229 334 [.ref 192, .int (zi 40), .int (zi t), .int (zi l), .int w4, .int w5, .int w6] G F 0 (zLc F 0 (q_distrusts s t l).1 (zN [3] ((q_distrusts s t l).1, gZ (q_distrusts s t l).2)) (PG B sv u9 h9 s)) := zLc_P (cL_distrusts (by decide) p.ok p.hR ht0 hl0) (fun G' hx => PG_q p hx)
theorem pL_sees (p : PG B sv u9 h9 s G) {t : Int} (ht0 : zr t) {l : Int} (hl0 : zr l) {w4 : Int32} {w5 : Int32} {w6 : Int32} : zC 229 334 [.ref 192, .int (zi 41), .int (zi t), .int (zi l), .int w4, .int w5, .int w6] G F 0 (zLc F 0 (q_sees s t l).1 (zN [3] ((q_sees s t l).1, gZ (q_sees s t l).2)) (PG B sv u9 h9 s)) := zLc_P (cL_sees (by decide) p.ok p.hR ht0 hl0) (fun G' hx => PG_q p hx)
theorem pL_nearestLight (p : PG B sv u9 h9 s G) {t : Int} (ht0 : zr t) {w3 : Int32} {w4 : Int32} {w5 : Int32} {w6 : Int32} : zC 229 334 [.ref 192, .int (zi 42), .int (zi t), .int w3, .int w4, .int w5, .int w6] G F 0 (zLc F 0 (q_nearestLight s t).1 (zN [3, 2] ((q_nearestLight s t).1, gI (q_nearestLight s t).2)) (PG B sv u9 h9 s)) := zLc_P (cL_nearestLight (by decide) p.ok p.hR ht0) (fun G' hx => PG_q p hx)
theorem pL_ticksUntilDone (p : PG B sv u9 h9 s G) (hB : s 3 ≤ 9999) {v : Int} (ht0 : zr v) {w3 : Int32} {w4 : Int32} {w5 : Int32} {w6 : Int32} : zC 229 334 [.ref 192, .int (zi 43), .int (zi v), .int w3, .int w4, .int w5, .int w6] G F 0 (zLc F 0 (q_until s s v).1 (zN [3, 0, 2] ((q_until s s v).1, gI (q_until s s v).2)) (PG B sv u9 h9 s)) := zLc_P (cL_ticksUntilDone (by decide) p.ok p.hR (t := s) (fun _ _ _ => rfl) hB ht0) (fun G' hx => PG_q p hx)
theorem pL_willArrive (p : PG B sv u9 h9 s G) (hB : s 3 ≤ 9999) {v : Int} (ht0 : zr v) {w3 : Int32} {w4 : Int32} {w5 : Int32} {w6 : Int32} : zC 229 334 [.ref 192, .int (zi 44), .int (zi v), .int w3, .int w4, .int w5, .int w6] G F 0 (zLc F 0 (q_willArrive s (sTicks s 300) v).1 (zN [3] ((q_willArrive s (sTicks s 300) v).1, gZ (q_willArrive s (sTicks s 300) v).2)) (PG B sv u9 h9 s)) := zLc_P (cL_willArrive (by decide) p.ok p.hR (t := s) (fun _ _ _ => rfl) hB ht0) (fun G' hx => PG_q p hx)
theorem pL_arrivedAfter (p : PG B sv u9 h9 s G) (hB : s 3 ≤ 9999) {v : Int} (ht0 : zr v) {w3 : Int32} {w4 : Int32} {w5 : Int32} {w6 : Int32} : zC 229 334 [.ref 192, .int (zi 45), .int (zi v), .int w3, .int w4, .int w5, .int w6] G F 0 (zLc F 0 (q_after s v 1).1 (zN [1] ((q_after s v 1).1, gI (q_after s v 1).2)) (PG B sv u9 h9 s)) := zLc_P (cL_arrivedAfter (by decide) p.ok p.hR (t := s) (fun _ _ _ => rfl) hB ht0) (fun G' hx => PG_q p hx)
theorem pL_sunkAfter (p : PG B sv u9 h9 s G) (hB : s 3 ≤ 9999) {v : Int} (ht0 : zr v) {w3 : Int32} {w4 : Int32} {w5 : Int32} {w6 : Int32} : zC 229 334 [.ref 192, .int (zi 46), .int (zi v), .int w3, .int w4, .int w5, .int w6] G F 0 (zLc F 0 (q_after s v 2).1 (zN [1] ((q_after s v 2).1, gI (q_after s v 2).2)) (PG B sv u9 h9 s)) := zLc_P (cL_sunkAfter (by decide) p.ok p.hR (t := s) (fun _ _ _ => rfl) hB ht0) (fun G' hx => PG_q p hx)
end C1P
/-! answers, where the arguments are good -/
section C1V
variable {s : Int → Int} {x y k l t f : Int}
theorem wOk_c (hok : mOk s) (hx : 0 ≤ x ∧ x < s 0) (hy : 0 ≤ y ∧ y < s 1) : zr (s (30 + 12 * y + x)) := by
  have hok2 := hok
  obtain ⟨a0, a1, -⟩ := hok
  have := mOk_g hok2 (x := x) (y := y) (by omega) (by omega)
  exact ⟨by omega, by omega⟩
theorem vL_isWater (hx : 0 ≤ x ∧ x < s 0) (hy : 0 ≤ y ∧ y < s 1) : (q_isWater s x y).1 = 0 ∧ zN [3] ((q_isWater s x y).1, gZ (q_isWater s x y).2) = zb (s (30 + 12 * y + x) = 1) := zN_b (if_pos ⟨by omega, by omega⟩)
theorem vL_isHut (hx : 0 ≤ x ∧ x < s 0) (hy : 0 ≤ y ∧ y < s 1) : (q_isHut s x y).1 = 0 ∧ zN [3] ((q_isHut s x y).1, gZ (q_isHut s x y).2) = zb (s (30 + 12 * y + x) = 2) := zN_b (if_pos ⟨by omega, by omega⟩)
theorem vL_isPlank (hx : 0 ≤ x ∧ x < s 0) (hy : 0 ≤ y ∧ y < s 1) : (q_isPlank s x y).1 = 0 ∧ zN [3] ((q_isPlank s x y).1, gZ (q_isPlank s x y).2) = zb (10 < s (30 + 12 * y + x)) := zN_b (if_pos ⟨by omega, by omega⟩)
theorem vL_strength (hok : mOk s) (hx : 0 ≤ x ∧ x < s 0) (hy : 0 ≤ y ∧ y < s 1) (hp : 10 < s (30 + 12 * y + x)) : (q_plankStrength s x y).1 = 0 ∧ zN [3, 2] ((q_plankStrength s x y).1, gI (q_plankStrength s x y).2) = s (30 + 12 * y + x) - 10 := zN_v ((if_pos ⟨by omega, by omega⟩).trans (if_pos hp)) (by have := wOk_c hok hx hy; exact ⟨by have := this.1; omega, by have := this.2; omega⟩)
theorem vL_noStrength (hx : 0 ≤ x ∧ x < s 0) (hy : 0 ≤ y ∧ y < s 1) (hp : ¬ 10 < s (30 + 12 * y + x)) : zN [3, 2] ((q_plankStrength s x y).1, gI (q_plankStrength s x y).2) = -101 := zN_x (c := 1) (k := 2) (by rw [show q_plankStrength s x y = (2, 0) from (if_pos ⟨by omega, by omega⟩).trans (if_neg hp)]; rfl) rfl
theorem vL_fog (hok : mOk s) (hk : 0 ≤ k ∧ k < 24) : (q_fog s k).1 = 0 ∧ zN [3] ((q_fog s k).1, gI (q_fog s k).2) = s (6 + k) := zN_v (if_pos ⟨by omega, by omega⟩) (by obtain ⟨-, -, -, -, -, -, a, -⟩ := hok; have := a k hk.1 hk.2; exact ⟨by omega, by omega⟩)
theorem vL_light (hok : mOk s) (hl : 0 ≤ l ∧ l < s 4) (hf : 0 ≤ f ∧ f < 3) : (q_light s l f).1 = 0 ∧ zN [3] ((q_light s l f).1, gI (q_light s l f).2) = s (174 + 5 * l + f) := zN_v (if_pos ⟨by omega, by omega⟩) (by
  have h := mOk_lt hok hl.1 hl.2
  obtain ⟨a, b, c, -⟩ := h
  rcases (show f = 0 ∨ f = 1 ∨ f = 2 by omega) with rfl | rfl | rfl
  · exact ⟨by omega, by omega⟩
  · exact ⟨by omega, by omega⟩
  · exact ⟨by omega, by omega⟩)
theorem vL_isTrue (hl : 0 ≤ l ∧ l < s 4) : (q_isTrueLight s l).1 = 0 ∧ zN [3] ((q_isTrueLight s l).1, gZ (q_isTrueLight s l).2) = zb (s (174 + 5 * l + 3) = 1) := zN_b (if_pos ⟨by omega, by omega⟩)
theorem vL_hasSucc (hl : 0 ≤ l ∧ l < s 4) : (q_hasSuccessor s l).1 = 0 ∧ zN [3] ((q_hasSuccessor s l).1, gZ (q_hasSuccessor s l).2) = zb (0 ≤ s (174 + 5 * l + 4)) := zN_b (if_pos ⟨by omega, by omega⟩)
theorem vL_succ (hok : mOk s) (hl : 0 ≤ l ∧ l < s 4) (hs : 0 ≤ s (174 + 5 * l + 4)) : (q_successor s l).1 = 0 ∧ zN [3, 2] ((q_successor s l).1, gI (q_successor s l).2) = s (174 + 5 * l + 4) := zN_v ((if_pos ⟨by omega, by omega⟩).trans (if_neg (by omega))) (by
  obtain ⟨-, -, -, -, a⟩ := mOk_lt hok hl.1 hl.2
  exact ⟨by omega, by omega⟩)
theorem vL_noSucc (hl : 0 ≤ l ∧ l < s 4) (hs : ¬ 0 ≤ s (174 + 5 * l + 4)) : zN [3, 2] ((q_successor s l).1, gI (q_successor s l).2) = -101 := zN_x (c := 1) (k := 2) (by rw [show q_successor s l = (2, 0) from (if_pos ⟨by omega, by omega⟩).trans (if_pos (by omega))]; rfl) rfl
theorem wOk_w (hok : mOk s) (ht : 0 ≤ t ∧ t < s 5) : mWi s t := hok.2.2.2.2.2.2.2.2.2 t ht.1 ht.2
theorem vL_walker (hok : mOk s) (ht : 0 ≤ t ∧ t < s 5) (hf : f = 0 ∨ f = 1 ∨ f = 6) : (q_walker s t f).1 = 0 ∧ zN [3] ((q_walker s t f).1, gI (q_walker s t f).2) = s (214 + 7 * t + f) := zN_v (if_pos ⟨by omega, by omega⟩) (by
  obtain ⟨a, b, -, -, c⟩ := wOk_w hok ht
  obtain ⟨a0, a1, -, a3, -⟩ := hok
  rcases hf with rfl | rfl | rfl
  · exact ⟨by omega, by omega⟩
  · exact ⟨by omega, by omega⟩
  · exact ⟨by omega, by omega⟩)
theorem vL_state (ht : 0 ≤ t ∧ t < s 5) : (q_state s t f).1 = 0 ∧ zN [3] ((q_state s t f).1, gZ (q_state s t f).2) = zb (s (214 + 7 * t + 2) = f) := zN_b (if_pos ⟨by omega, by omega⟩)
theorem vL_hasTgt (ht : 0 ≤ t ∧ t < s 5) : (q_hasTarget s t).1 = 0 ∧ zN [3] ((q_hasTarget s t).1, gZ (q_hasTarget s t).2) = zb (0 ≤ s (214 + 7 * t + 3)) := zN_b (if_pos ⟨by omega, by omega⟩)
theorem vL_tgt (hok : mOk s) (ht : 0 ≤ t ∧ t < s 5) : zN [3, 2] ((q_target s t).1, gI (q_target s t).2) = if s (214 + 7 * t + 3) < 0 then -101 else s (214 + 7 * t + 3) := by
  by_cases hs : s (214 + 7 * t + 3) < 0
  · rw [if_pos hs]
    exact zN_x (c := 1) (k := 2) (by rw [show q_target s t = (2, 0) from (if_pos ⟨by omega, by omega⟩).trans (if_pos hs)]; rfl) rfl
  · rw [if_neg hs]
    refine (zN_v ((if_pos ⟨by omega, by omega⟩).trans (if_neg hs)) ?_).2
    obtain ⟨a, b, -, c, -⟩ := wOk_w hok ht
    obtain ⟨-, -, -, -, a4, -⟩ := hok
    exact ⟨by omega, by omega⟩
theorem vL_passed (ht : 0 ≤ t ∧ t < s 5) (hl : 0 ≤ l ∧ l < s 4) : (q_hasPassed s t l).1 = 0 ∧ zN [3] ((q_hasPassed s t l).1, gZ (q_hasPassed s t l).2) = zb (zhas (s (214 + 7 * t + 4)) l) := zN_b (if_pos ⟨⟨by omega, by omega⟩, by omega, by omega⟩)
theorem vL_distr (ht : 0 ≤ t ∧ t < s 5) (hl : 0 ≤ l ∧ l < s 4) : (q_distrusts s t l).1 = 0 ∧ zN [3] ((q_distrusts s t l).1, gZ (q_distrusts s t l).2) = zb (zhas (s (214 + 7 * t + 5)) l) := zN_b (if_pos ⟨⟨by omega, by omega⟩, by omega, by omega⟩)
theorem vL_sees (ht : 0 ≤ t ∧ t < s 5) (hl : 0 ≤ l ∧ l < s 4) : (q_sees s t l).1 = 0 ∧ zN [3] ((q_sees s t l).1, gZ (q_sees s t l).2) = zb (sSeen s t l) := zN_b (if_pos ⟨⟨by omega, by omega⟩, by omega, by omega⟩)
end C1V
