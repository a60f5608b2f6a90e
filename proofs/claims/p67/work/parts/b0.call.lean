/-! The law's call: what it answers. -/
/-- what the law's call gives for an exception, by its kind -/
def zcd (k : Nat) : Int := match k with
  | 0 => -102
  | 1 => -103
  | 2 => -101
  | _ => -104
/-- what the law's call answers -/
def zN (ex : List Nat) (q : Int × Int) : Int := if q.1 = 0 then q.2 else zcd (ex.getD (q.1 - 1).toNat 0)
def gB (v : Int) : Int := if v = 0 then 0 else 1
def gI (v : Int) : Int := (zi v).toInt
def gZ (v : Int) : Int := gB (zi v).toInt
def zLc (F : GM) (n : Nat) (e w : Int) (P : GM → Prop) : Zq := fun o G' F' n' => o = .inl (some (.int (zi w))) ∧ P G' ∧ F' = F ∧ n' = (if e = 0 then n else n + 1)
theorem zs_tsw {N y ip : Nat} {L st : List Value} {G F : GM} {n : Nat} {Q : Zq} {lo hi v : Int} {ts : List Nat} {d t : Nat} (ht : ztab N y ip = some (.inl (i_tsw lo hi ts d))) (hv : zr v) (h : (if v < lo ∨ hi < v then some d else ts[(v - lo).toNat]?) = some t) (k : zW N y t L st G F n Q) : zW N y ip L (.int (zi v) :: st) G F n Q := by
  refine zW_s ht ?_ id id k
  show (if (zi v).toInt < lo ∨ hi < (zi v).toInt then some (d, L, st, mM G F n) else (match ts[((zi v).toInt - lo).toNat]? with
    | some t => some (t, L, st, mM G F n)
    | none => none)) = _
  rw [zi_to hv]
  by_cases h9 : v < lo ∨ hi < v
  · rw [if_pos h9] at h ⊢
    cases h
    rfl
  · rw [if_neg h9] at h ⊢
    rw [h]
theorem zx334 : ∀ k, k < 4 → zhnd 334 k = some (zi (zcd k)) := by
  intro k hk
  rcases (show k = 0 ∨ k = 1 ∨ k = 2 ∨ k = 3 by omega) with rfl | rfl | rfl | rfl <;> decide +kernel
theorem zW_cN {N ip ip' : Nat} {L st : List Value} {G F : GM} {n : Nat} {k y2 m : Nat} {as : List Value} {g : Int → Int} {q : Int × Int} {P : GM → Prop} {ex : List Nat} (ht : ztab N 334 ip = some (.inr (k, y2, m))) (hip : ip + 1 = ip') (hc : zC N y2 as G F n (zQx F n ex q P)) (hk : (Nat.ble 2 k && (k != 5)) = true) (ha : (st.take m).reverse = as) (hok : z_okc N (zcl y2) (znl y2) (zc2 y2) k m st = true) (h4 : (k != 4) = true) (hx : (ex.all fun k => Nat.blt k 4) = true)
    (k1 : ∀ (G' : GM), P G' → q.1 = 0 → zW N 334 ip' L (.int (zi (zi q.2).toInt) :: st.drop m) G' F n (zLc F n q.1 (zN ex (q.1, g q.2)) P)) : zW N 334 ip L st G F n (zLc F n q.1 (zN ex (q.1, g q.2)) P) := by
  refine zW_c ht hip hc hk ha hok ?_ ?_
  · rintro v' G' F' n' ⟨rfl, hP, ⟨h0, h1, rfl⟩ | ⟨h0, j, h1, h2, -⟩⟩
    · cases h1
      have := k1 G' hP h0
      rw [zi_of] at this
      exact this
    · cases h2
  · rintro e G' F' n' ⟨rfl, hP, ⟨h0, h1, -⟩ | ⟨h0, j, h1, h2, rfl⟩⟩
    · cases h1
    · have hej := Sum.inr.inj h2
      have hj : j < 4 := Nat.le_of_ble_eq_true (List.all_eq_true.mp hx j (List.mem_of_getElem? h1))
      have hz := zx334 j hj
      refine ⟨fun h => (by rw [h] at h4; cases h4), fun z hz' => ?_, fun hn => (by rw [hej, hz] at hn; cases hn)⟩
      rw [hej, hz] at hz'
      cases hz'
      have e1 : zN ex (q.1, g q.2) = zcd j := by
        unfold zN
        rw [if_neg (by dsimp only; omega)]
        show zcd (ex.getD (q.1 - 1).toNat 0) = zcd j
        rw [List.getD_eq_getElem?_getD, h1]
        rfl
      exact ⟨by rw [e1], hP, rfl, (if_neg (by omega)).symm⟩
theorem zN_0 {ex : List Nat} {q : Int × Int} {v : Int} (h : q.1 = 0) : zN ex (q.1, v) = v := if_pos h
theorem cL_tick {N : Nat} {G F : GM} {n : Nat} (hN : 229 ≤ N) {s : Int → Int} (hok : mOk s) (hR : RX G 0 s) (hH0 : 0 ≤ G 193 0 ∧ G 193 0 ≤ 8) (hH1 : 0 ≤ G 193 1 ∧ G 193 1 ≤ 7) {q : Int} (hq0 : zr q) {w3 : Int32} {w4 : Int32} {w5 : Int32} {w6 : Int32} : zC N 334 [.ref 192, .int (zi 0), .int (zi q), .int w3, .int w4, .int w5, .int w6] G F n (zLc F n (q_tick s q).1 (zN [1, 0] ((q_tick s q).1, gI (q_tick s q).2)) (xCq (q_tick s q) G s (sTicks s q.toNat))) := by
  refine zC_i (L0 := [.ref 192, .int (zi 0), .int (zi q), .int w3, .int w4, .int w5, .int w6, .null]) rfl ?_
  refine zs_iload (ip' := 1) rfl rfl rfl ?_
  refine zs_tsw (t := 2) rfl (by omega) (by decide) ?_
  refine zs_aload (ip' := 3) rfl rfl rfl ?_
  refine zs_iload (ip' := 4) rfl rfl rfl ?_
  refine zW_cN (g := gI) (ip' := 5) rfl rfl (cQ_tick (by omega) hok hR hH0 hH1 hq0) rfl rfl (z_ok3 (by omega) zsh_192 rfl rfl rfl) rfl rfl ?_
  intro G' hP9 h09
  refine zW_0 rfl ?_
  exact ⟨by rw [zN_0 h09]; rfl, hP9, rfl, (if_pos h09).symm⟩
theorem cL_addLight {N : Nat} {G F : GM} {n : Nat} (hN : 229 ≤ N) {s : Int → Int} (hok : mOk s) (hR : RX G 0 s) (hH0 : 0 ≤ G 193 0 ∧ G 193 0 ≤ 8) (hH1 : 0 ≤ G 193 1 ∧ G 193 1 ≤ 7) {x y b : Int} (hx : zr x) (hy : zr y) (hb0 : zr b) {d9 : Int} (hd9 : zr d9) {w6 : Int32} : zC N 334 [.ref 192, .int (zi 1), .int (zi x), .int (zi y), .int (zi b), .int (zi d9), .int w6] G F n (zLc F n (q_addLight s x y b).1 (zN [3, 1, 0] ((q_addLight s x y b).1, gI (q_addLight s x y b).2)) (xCq (q_addLight s x y b) G s (sAddL s x y b (zb (d9 = 1))))) := by
  refine zC_i (L0 := [.ref 192, .int (zi 1), .int (zi x), .int (zi y), .int (zi b), .int (zi d9), .int w6, .null]) rfl ?_
  refine zs_iload (ip' := 1) rfl rfl rfl ?_
  refine zs_tsw (t := 6) rfl (by omega) (by decide) ?_
  refine zs_aload (ip' := 7) rfl rfl rfl ?_
  refine zs_iload (ip' := 8) rfl rfl rfl ?_
  refine zs_iload (ip' := 9) rfl rfl rfl ?_
  refine zs_iload (ip' := 10) rfl rfl rfl ?_
  refine zs_iload (ip' := 11) rfl rfl rfl ?_
  refine zs_pushI (ip' := 12) rfl rfl zi_k1 ?_
  refine zs_icmp_ne (t := 15) (ip' := 13) rfl rfl hd9 (by omega) ?_ ?_
  · intro h5
    rw [show zb (d9 = 1) = 0 from zb_f h5]
    have hv : (0 : Int) = 0 ∨ (0 : Int) = 1 := Or.inl rfl
    refine zs_pushI (ip' := 16) rfl rfl zi_k0 ?_
    refine zW_cN (g := gI) (ip' := 17) rfl rfl (cQ_addLight (by omega) hok hR hH0 hH1 hx hy hb0 hv) rfl rfl (z_ok3 (by omega) zsh_192 rfl rfl rfl) rfl rfl ?_
    intro G' hP9 h09
    refine zW_0 rfl ?_
    exact ⟨by rw [zN_0 h09]; rfl, hP9, rfl, (if_pos h09).symm⟩
  · intro h5
    rw [show zb (d9 = 1) = 1 from zb_t h5]
    have hv : (1 : Int) = 0 ∨ (1 : Int) = 1 := Or.inr rfl
    refine zs_pushI (ip' := 14) rfl rfl zi_k1 ?_
    refine zs_goto (t := 16) rfl ?_
    refine zW_cN (g := gI) (ip' := 17) rfl rfl (cQ_addLight (by omega) hok hR hH0 hH1 hx hy hb0 hv) rfl rfl (z_ok3 (by omega) zsh_192 rfl rfl rfl) rfl rfl ?_
    intro G' hP9 h09
    refine zW_0 rfl ?_
    exact ⟨by rw [zN_0 h09]; rfl, hP9, rfl, (if_pos h09).symm⟩
theorem cL_addTraveller {N : Nat} {G F : GM} {n : Nat} (hN : 229 ≤ N) {s : Int → Int} (hok : mOk s) (hR : RX G 0 s) (hH0 : 0 ≤ G 193 0 ∧ G 193 0 ≤ 8) (hH1 : 0 ≤ G 193 1 ∧ G 193 1 ≤ 7) {x y : Int} (hx : zr x) (hy : zr y) {w4 : Int32} {w5 : Int32} {w6 : Int32} : zC N 334 [.ref 192, .int (zi 2), .int (zi x), .int (zi y), .int w4, .int w5, .int w6] G F n (zLc F n (q_addTraveller s x y).1 (zN [3, 0] ((q_addTraveller s x y).1, gI (q_addTraveller s x y).2)) (xCq (q_addTraveller s x y) G s (sAddW s x y))) := by
  refine zC_i (L0 := [.ref 192, .int (zi 2), .int (zi x), .int (zi y), .int w4, .int w5, .int w6, .null]) rfl ?_
  refine zs_iload (ip' := 1) rfl rfl rfl ?_
  refine zs_tsw (t := 18) rfl (by omega) (by decide) ?_
  refine zs_aload (ip' := 19) rfl rfl rfl ?_
  refine zs_iload (ip' := 20) rfl rfl rfl ?_
  refine zs_iload (ip' := 21) rfl rfl rfl ?_
  refine zW_cN (g := gI) (ip' := 22) rfl rfl (cQ_addTraveller (by omega) hok hR hH0 hH1 hx hy) rfl rfl (z_ok3 (by omega) zsh_192 rfl rfl rfl) rfl rfl ?_
  intro G' hP9 h09
  refine zW_0 rfl ?_
  exact ⟨by rw [zN_0 h09]; rfl, hP9, rfl, (if_pos h09).symm⟩
theorem cL_setSuccessor {N : Nat} {G F : GM} {n : Nat} (hN : 229 ≤ N) {s : Int → Int} (hok : mOk s) (hR : RX G 0 s) (hH0 : 0 ≤ G 193 0 ∧ G 193 0 ≤ 8) (hH1 : 0 ≤ G 193 1 ∧ G 193 1 ≤ 7) {l v : Int} (hl0 : zr l) (hv0 : zr v) {w4 : Int32} {w5 : Int32} {w6 : Int32} : zC N 334 [.ref 192, .int (zi 3), .int (zi l), .int (zi v), .int w4, .int w5, .int w6] G F n (zLc F n (q_setSuccessor s l v).1 (zN [3, 1] ((q_setSuccessor s l v).1, gI (q_setSuccessor s l v).2)) (xCq (q_setSuccessor s l v) G s (zp s (174 + 5 * l + 4) v))) := by
  refine zC_i (L0 := [.ref 192, .int (zi 3), .int (zi l), .int (zi v), .int w4, .int w5, .int w6, .null]) rfl ?_
  refine zs_iload (ip' := 1) rfl rfl rfl ?_
  refine zs_tsw (t := 23) rfl (by omega) (by decide) ?_
  refine zs_aload (ip' := 24) rfl rfl rfl ?_
  refine zs_iload (ip' := 25) rfl rfl rfl ?_
  refine zs_iload (ip' := 26) rfl rfl rfl ?_
  refine zW_cN (g := gI) (ip' := 27) rfl rfl (cQ_setSuccessor (by omega) hok hR hH0 hH1 hl0 hv0) rfl rfl (z_ok3 (by omega) zsh_192 rfl rfl rfl) rfl rfl ?_
  intro G' hP9 h09
  refine zW_0 rfl ?_
  exact ⟨by rw [zN_0 h09]; rfl, hP9, rfl, (if_pos h09).symm⟩
theorem cL_clearSuccessor {N : Nat} {G F : GM} {n : Nat} (hN : 229 ≤ N) {s : Int → Int} (hok : mOk s) (hR : RX G 0 s) (hH0 : 0 ≤ G 193 0 ∧ G 193 0 ≤ 8) (hH1 : 0 ≤ G 193 1 ∧ G 193 1 ≤ 7) {l : Int} (hl0 : zr l) {w3 : Int32} {w4 : Int32} {w5 : Int32} {w6 : Int32} : zC N 334 [.ref 192, .int (zi 4), .int (zi l), .int w3, .int w4, .int w5, .int w6] G F n (zLc F n (q_clearSuccessor s l).1 (zN [3, 2] ((q_clearSuccessor s l).1, gI (q_clearSuccessor s l).2)) (xCq (q_clearSuccessor s l) G s (zp s (174 + 5 * l + 4) (-1)))) := by
  refine zC_i (L0 := [.ref 192, .int (zi 4), .int (zi l), .int w3, .int w4, .int w5, .int w6, .null]) rfl ?_
  refine zs_iload (ip' := 1) rfl rfl rfl ?_
  refine zs_tsw (t := 28) rfl (by omega) (by decide) ?_
  refine zs_aload (ip' := 29) rfl rfl rfl ?_
  refine zs_iload (ip' := 30) rfl rfl rfl ?_
  refine zW_cN (g := gI) (ip' := 31) rfl rfl (cQ_clearSuccessor (by omega) hok hR hH0 hH1 hl0) rfl rfl (z_ok3 (by omega) zsh_192 rfl rfl rfl) rfl rfl ?_
  intro G' hP9 h09
  refine zW_0 rfl ?_
  exact ⟨by rw [zN_0 h09]; rfl, hP9, rfl, (if_pos h09).symm⟩
theorem cL_layPlank {N : Nat} {G F : GM} {n : Nat} (hN : 229 ≤ N) {s : Int → Int} (hok : mOk s) (hR : RX G 0 s) (hH0 : 0 ≤ G 193 0 ∧ G 193 0 ≤ 8) (hH1 : 0 ≤ G 193 1 ∧ G 193 1 ≤ 7) {x y q : Int} (hx : zr x) (hy : zr y) (hq0 : zr q) {w5 : Int32} {w6 : Int32} : zC N 334 [.ref 192, .int (zi 5), .int (zi x), .int (zi y), .int (zi q), .int w5, .int w6] G F n (zLc F n (q_layPlank s x y q).1 (zN [3, 1, 0] ((q_layPlank s x y q).1, gI (q_layPlank s x y q).2)) (xCq (q_layPlank s x y q) G s (zp s (30 + 12 * y + x) (10 + q)))) := by
  refine zC_i (L0 := [.ref 192, .int (zi 5), .int (zi x), .int (zi y), .int (zi q), .int w5, .int w6, .null]) rfl ?_
  refine zs_iload (ip' := 1) rfl rfl rfl ?_
  refine zs_tsw (t := 32) rfl (by omega) (by decide) ?_
  refine zs_aload (ip' := 33) rfl rfl rfl ?_
  refine zs_iload (ip' := 34) rfl rfl rfl ?_
  refine zs_iload (ip' := 35) rfl rfl rfl ?_
  refine zs_iload (ip' := 36) rfl rfl rfl ?_
  refine zW_cN (g := gI) (ip' := 37) rfl rfl (cQ_layPlank (by omega) hok hR hH0 hH1 hx hy hq0) rfl rfl (z_ok3 (by omega) zsh_192 rfl rfl rfl) rfl rfl ?_
  intro G' hP9 h09
  refine zW_0 rfl ?_
  exact ⟨by rw [zN_0 h09]; rfl, hP9, rfl, (if_pos h09).symm⟩
theorem cL_setClearness {N : Nat} {G F : GM} {n : Nat} (hN : 229 ≤ N) {s : Int → Int} (hok : mOk s) (hR : RX G 0 s) (hH0 : 0 ≤ G 193 0 ∧ G 193 0 ≤ 8) (hH1 : 0 ≤ G 193 1 ∧ G 193 1 ≤ 7) {c : Int} (hc : zr c) {w3 : Int32} {w4 : Int32} {w5 : Int32} {w6 : Int32} : zC N 334 [.ref 192, .int (zi 6), .int (zi c), .int w3, .int w4, .int w5, .int w6] G F n (zLc F n (q_setClearness s c).1 (zN [1] ((q_setClearness s c).1, gI (q_setClearness s c).2)) (xCq (q_setClearness s c) G s (zp s 2 c))) := by
  refine zC_i (L0 := [.ref 192, .int (zi 6), .int (zi c), .int w3, .int w4, .int w5, .int w6, .null]) rfl ?_
  refine zs_iload (ip' := 1) rfl rfl rfl ?_
  refine zs_tsw (t := 38) rfl (by omega) (by decide) ?_
  refine zs_aload (ip' := 39) rfl rfl rfl ?_
  refine zs_iload (ip' := 40) rfl rfl rfl ?_
  refine zW_cN (g := gI) (ip' := 41) rfl rfl (cQ_setClearness (by omega) hok hR hH0 hH1 hc) rfl rfl (z_ok3 (by omega) zsh_192 rfl rfl rfl) rfl rfl ?_
  intro G' hP9 h09
  refine zW_0 rfl ?_
  exact ⟨by rw [zN_0 h09]; rfl, hP9, rfl, (if_pos h09).symm⟩
theorem cL_setFog {N : Nat} {G F : GM} {n : Nat} (hN : 229 ≤ N) {s : Int → Int} (hok : mOk s) (hR : RX G 0 s) (hH0 : 0 ≤ G 193 0 ∧ G 193 0 ≤ 8) (hH1 : 0 ≤ G 193 1 ∧ G 193 1 ≤ 7) {h v : Int} (hh : zr h) (hv : zr v) {w4 : Int32} {w5 : Int32} {w6 : Int32} : zC N 334 [.ref 192, .int (zi 7), .int (zi h), .int (zi v), .int w4, .int w5, .int w6] G F n (zLc F n (q_setFog s h v).1 (zN [3, 1] ((q_setFog s h v).1, gI (q_setFog s h v).2)) (xCq (q_setFog s h v) G s (zp s (6 + h) v))) := by
  refine zC_i (L0 := [.ref 192, .int (zi 7), .int (zi h), .int (zi v), .int w4, .int w5, .int w6, .null]) rfl ?_
  refine zs_iload (ip' := 1) rfl rfl rfl ?_
  refine zs_tsw (t := 42) rfl (by omega) (by decide) ?_
  refine zs_aload (ip' := 43) rfl rfl rfl ?_
  refine zs_iload (ip' := 44) rfl rfl rfl ?_
  refine zs_iload (ip' := 45) rfl rfl rfl ?_
  refine zW_cN (g := gI) (ip' := 46) rfl rfl (cQ_setFog (by omega) hok hR hH0 hH1 hh hv) rfl rfl (z_ok3 (by omega) zsh_192 rfl rfl rfl) rfl rfl ?_
  intro G' hP9 h09
  refine zW_0 rfl ?_
  exact ⟨by rw [zN_0 h09]; rfl, hP9, rfl, (if_pos h09).symm⟩
theorem cL_setTarget {N : Nat} {G F : GM} {n : Nat} (hN : 229 ≤ N) {s : Int → Int} (hok : mOk s) (hR : RX G 0 s) (hH0 : 0 ≤ G 193 0 ∧ G 193 0 ≤ 8) (hH1 : 0 ≤ G 193 1 ∧ G 193 1 ≤ 7) {t l : Int} (ht0 : zr t) (hl0 : zr l) {w4 : Int32} {w5 : Int32} {w6 : Int32} : zC N 334 [.ref 192, .int (zi 8), .int (zi t), .int (zi l), .int w4, .int w5, .int w6] G F n (zLc F n (q_setTarget s t l).1 (zN [3, 0] ((q_setTarget s t l).1, gI (q_setTarget s t l).2)) (xCq (q_setTarget s t l) G s (zp s (214 + 7 * t + 3) l))) := by
  refine zC_i (L0 := [.ref 192, .int (zi 8), .int (zi t), .int (zi l), .int w4, .int w5, .int w6, .null]) rfl ?_
  refine zs_iload (ip' := 1) rfl rfl rfl ?_
  refine zs_tsw (t := 47) rfl (by omega) (by decide) ?_
  refine zs_aload (ip' := 48) rfl rfl rfl ?_
  refine zs_iload (ip' := 49) rfl rfl rfl ?_
  refine zs_iload (ip' := 50) rfl rfl rfl ?_
  refine zW_cN (g := gI) (ip' := 51) rfl rfl (cQ_setTarget (by omega) hok hR hH0 hH1 ht0 hl0) rfl rfl (z_ok3 (by omega) zsh_192 rfl rfl rfl) rfl rfl ?_
  intro G' hP9 h09
  refine zW_0 rfl ?_
  exact ⟨by rw [zN_0 h09]; rfl, hP9, rfl, (if_pos h09).symm⟩
theorem cL_undo {N : Nat} {G F : GM} {n : Nat} (hN : 229 ≤ N) {u : Int} {h : Nat → Int → Int} (hX : XH G u h) (hok0 : 0 < u → mOk (h 0)) {w2 : Int32} {w3 : Int32} {w4 : Int32} {w5 : Int32} {w6 : Int32} : zC N 334 [.ref 192, .int (zi 9), .int w2, .int w3, .int w4, .int w5, .int w6] G F n (zLc F n (q_undo u).1 (zN [0] ((q_undo u).1, gI (q_undo u).2)) (fun G' => ((q_undo u).1 = 0 ∧ xUn G G' h) ∨ ((q_undo u).1 ≠ 0 ∧ G' = G))) := by
  refine zC_i (L0 := [.ref 192, .int (zi 9), .int w2, .int w3, .int w4, .int w5, .int w6, .null]) rfl ?_
  refine zs_iload (ip' := 1) rfl rfl rfl ?_
  refine zs_tsw (t := 52) rfl (by omega) (by decide) ?_
  refine zs_aload (ip' := 53) rfl rfl rfl ?_
  refine zW_cN (g := gI) (ip' := 54) rfl rfl (cQ_undo (by omega) hX hok0) rfl rfl (z_ok3 (by omega) zsh_192 rfl rfl rfl) rfl rfl ?_
  intro G' hP9 h09
  refine zW_0 rfl ?_
  exact ⟨by rw [zN_0 h09]; rfl, hP9, rfl, (if_pos h09).symm⟩
theorem cL_saveSnapshot {N : Nat} {G F : GM} {n : Nat} (hN : 229 ≤ N) {s : Int → Int} (hok : mOk s) (hR : RX G 0 s) {c : Int} (hc : zr c) {w3 : Int32} {w4 : Int32} {w5 : Int32} {w6 : Int32} : zC N 334 [.ref 192, .int (zi 10), .int (zi c), .int w3, .int w4, .int w5, .int w6] G F n (zLc F n (q_save s c).1 (zN [3] ((q_save s c).1, gI (q_save s c).2)) (fun G' => ((q_save s c).1 = 0 ∧ xSv c s G G') ∨ ((q_save s c).1 ≠ 0 ∧ G' = G))) := by
  refine zC_i (L0 := [.ref 192, .int (zi 10), .int (zi c), .int w3, .int w4, .int w5, .int w6, .null]) rfl ?_
  refine zs_iload (ip' := 1) rfl rfl rfl ?_
  refine zs_tsw (t := 55) rfl (by omega) (by decide) ?_
  refine zs_aload (ip' := 56) rfl rfl rfl ?_
  refine zs_iload (ip' := 57) rfl rfl rfl ?_
  refine zW_cN (g := gI) (ip' := 58) rfl rfl (cQ_saveSnapshot (by omega) hok hR hc) rfl rfl (z_ok3 (by omega) zsh_192 rfl rfl rfl) rfl rfl ?_
  intro G' hP9 h09
  refine zW_0 rfl ?_
  exact ⟨by rw [zN_0 h09]; rfl, hP9, rfl, (if_pos h09).symm⟩
theorem cL_restoreSnapshot {N : Nat} {G F : GM} {n : Nat} (hN : 229 ≤ N) {s : Int → Int} (hok : mOk s) (hR : RX G 0 s) (hH0 : 0 ≤ G 193 0 ∧ G 193 0 ≤ 8) (hH1 : 0 ≤ G 193 1 ∧ G 193 1 ≤ 7) {c : Int} (hc : zr c) {t : Int → Int} (hokt : mOk t) (hRt : G 196 c ≠ 0 → ∀ w : Nat, (w : Int) - 10 = c → RX G w t) {w3 : Int32} {w4 : Int32} {w5 : Int32} {w6 : Int32} : zC N 334 [.ref 192, .int (zi 11), .int (zi c), .int w3, .int w4, .int w5, .int w6] G F n (zLc F n (q_restore (G 196) t c).1 (zN [3, 2] ((q_restore (G 196) t c).1, gI (q_restore (G 196) t c).2)) (xCq (q_restore (G 196) t c) G s t)) := by
  refine zC_i (L0 := [.ref 192, .int (zi 11), .int (zi c), .int w3, .int w4, .int w5, .int w6, .null]) rfl ?_
  refine zs_iload (ip' := 1) rfl rfl rfl ?_
  refine zs_tsw (t := 59) rfl (by omega) (by decide) ?_
  refine zs_aload (ip' := 60) rfl rfl rfl ?_
  refine zs_iload (ip' := 61) rfl rfl rfl ?_
  refine zW_cN (g := gI) (ip' := 62) rfl rfl (cQ_restoreSnapshot (by omega) hok hR hH0 hH1 hc hokt hRt) rfl rfl (z_ok3 (by omega) zsh_192 rfl rfl rfl) rfl rfl ?_
  intro G' hP9 h09
  refine zW_0 rfl ?_
  exact ⟨by rw [zN_0 h09]; rfl, hP9, rfl, (if_pos h09).symm⟩
theorem cL_load {N : Nat} {G F : GM} {n : Nat} (hN : 229 ≤ N) {T : Int → Int} {m : Int} {D0 : Int → Int} (hB : xBu G T m) (hz : ∀ i, 0 ≤ i → i < 256 → D0 i = 0) {x : zTx} (hx : x = pText T m (0, 0, -1, D0)) {w2 : Int32} {w3 : Int32} {w4 : Int32} {w5 : Int32} {w6 : Int32} : zC N 334 [.ref 192, .int (zi 12), .int w2, .int w3, .int w4, .int w5, .int w6] G F n (zLc F n (q_load x).1 (zN [1] ((q_load x).1, gI (q_load x).2)) (xLd x G)) := by
  refine zC_i (L0 := [.ref 192, .int (zi 12), .int w2, .int w3, .int w4, .int w5, .int w6, .null]) rfl ?_
  refine zs_iload (ip' := 1) rfl rfl rfl ?_
  refine zs_tsw (t := 63) rfl (by omega) (by decide) ?_
  refine zs_aload (ip' := 64) rfl rfl rfl ?_
  refine zW_cN (g := gI) (ip' := 65) rfl rfl (cQ_load (by omega) hB hz hx) rfl rfl (z_ok3 (by omega) zsh_192 rfl rfl rfl) rfl rfl ?_
  intro G' hP9 h09
  refine zW_0 rfl ?_
  exact ⟨by rw [zN_0 h09]; rfl, hP9, rfl, (if_pos h09).symm⟩
theorem cL_append {N : Nat} {G F : GM} {n : Nat} (hN : 229 ≤ N) (hl : 0 ≤ G 197 0 ∧ G 197 0 ≤ 800) {a b c d e : Int} (ha : zr a) (hb : zr b) (hc : zr c) (hd : zr d) (he : zr e)  : zC N 334 [.ref 192, .int (zi 13), .int (zi a), .int (zi b), .int (zi c), .int (zi d), .int (zi e)] G F n (zLc F n (q_append (G 197 0)).1 (zN [0] ((q_append (G 197 0)).1, gI (q_append (G 197 0)).2)) (fun G' => ((q_append (G 197 0)).1 = 0 ∧ xTx G G' ∧ G' 197 0 = G 197 0 + 20 ∧ (∀ j, j < G 197 0 → G' 198 j = G 198 j) ∧ ∀ j, 0 ≤ j → j < 20 → G' 198 (G 197 0 + j) % 256 = sByte a b c d e j ∧ -128 ≤ G' 198 (G 197 0 + j) ∧ G' 198 (G 197 0 + j) ≤ 127) ∨ ((q_append (G 197 0)).1 ≠ 0 ∧ G' = G))) := by
  refine zC_i (L0 := [.ref 192, .int (zi 13), .int (zi a), .int (zi b), .int (zi c), .int (zi d), .int (zi e), .null]) rfl ?_
  refine zs_iload (ip' := 1) rfl rfl rfl ?_
  refine zs_tsw (t := 66) rfl (by omega) (by decide) ?_
  refine zs_aload (ip' := 67) rfl rfl rfl ?_
  refine zs_iload (ip' := 68) rfl rfl rfl ?_
  refine zs_iload (ip' := 69) rfl rfl rfl ?_
  refine zs_iload (ip' := 70) rfl rfl rfl ?_
  refine zs_iload (ip' := 71) rfl rfl rfl ?_
  refine zs_iload (ip' := 72) rfl rfl rfl ?_
  refine zW_cN (g := gI) (ip' := 73) rfl rfl (cQ_append (by omega) hl ha hb hc hd he) rfl rfl (z_ok3 (by omega) zsh_192 rfl rfl rfl) rfl rfl ?_
  intro G' hP9 h09
  refine zW_0 rfl ?_
  exact ⟨by rw [zN_0 h09]; rfl, hP9, rfl, (if_pos h09).symm⟩
theorem cL_shorten {N : Nat} {G F : GM} {n : Nat} (hN : 229 ≤ N) (hl : 0 ≤ G 197 0 ∧ G 197 0 ≤ 800) {c : Int} (hc : zr c) {w3 : Int32} {w4 : Int32} {w5 : Int32} {w6 : Int32} : zC N 334 [.ref 192, .int (zi 14), .int (zi c), .int w3, .int w4, .int w5, .int w6] G F n (zLc F n (q_shorten (G 197 0) c).1 (zN [1] ((q_shorten (G 197 0) c).1, gI (q_shorten (G 197 0) c).2)) (fun G' => ((q_shorten (G 197 0) c).1 = 0 ∧ G' = zk G 197 (zp (G 197) 0 c)) ∨ ((q_shorten (G 197 0) c).1 ≠ 0 ∧ G' = G))) := by
  refine zC_i (L0 := [.ref 192, .int (zi 14), .int (zi c), .int w3, .int w4, .int w5, .int w6, .null]) rfl ?_
  refine zs_iload (ip' := 1) rfl rfl rfl ?_
  refine zs_tsw (t := 74) rfl (by omega) (by decide) ?_
  refine zs_aload (ip' := 75) rfl rfl rfl ?_
  refine zs_iload (ip' := 76) rfl rfl rfl ?_
  refine zW_cN (g := gI) (ip' := 77) rfl rfl (cQ_shorten (by omega) hl hc) rfl rfl (z_ok3 (by omega) zsh_192 rfl rfl rfl) rfl rfl ?_
  intro G' hP9 h09
  refine zW_0 rfl ?_
  exact ⟨by rw [zN_0 h09]; rfl, hP9, rfl, (if_pos h09).symm⟩
theorem cL_errorOffset {N : Nat} {G F : GM} {n : Nat} (hN : 229 ≤ N) (he : -1 ≤ G 192 10) {w2 : Int32} {w3 : Int32} {w4 : Int32} {w5 : Int32} {w6 : Int32} : zC N 334 [.ref 192, .int (zi 15), .int w2, .int w3, .int w4, .int w5, .int w6] G F n (zLc F n (q_errorOffset (G 192 10)).1 (zN [2] ((q_errorOffset (G 192 10)).1, gI (q_errorOffset (G 192 10)).2)) (xQf G)) := by
  refine zC_i (L0 := [.ref 192, .int (zi 15), .int w2, .int w3, .int w4, .int w5, .int w6, .null]) rfl ?_
  refine zs_iload (ip' := 1) rfl rfl rfl ?_
  refine zs_tsw (t := 78) rfl (by omega) (by decide) ?_
  refine zs_aload (ip' := 79) rfl rfl rfl ?_
  refine zW_cN (g := gI) (ip' := 80) rfl rfl (cQ_errorOffset (by omega) he) rfl rfl (z_ok3 (by omega) zsh_192 rfl rfl rfl) rfl rfl ?_
  intro G' hP9 h09
  refine zW_0 rfl ?_
  exact ⟨by rw [zN_0 h09]; rfl, hP9, rfl, (if_pos h09).symm⟩
theorem cL_isWater {N : Nat} {G F : GM} {n : Nat} (hN : 229 ≤ N) {s : Int → Int} (hok : mOk s) (hR : RX G 0 s) {x y : Int} (hx : zr x) (hy : zr y) {w4 : Int32} {w5 : Int32} {w6 : Int32} : zC N 334 [.ref 192, .int (zi 16), .int (zi x), .int (zi y), .int w4, .int w5, .int w6] G F n (zLc F n (q_isWater s x y).1 (zN [3] ((q_isWater s x y).1, gZ (q_isWater s x y).2)) (xQf G)) := by
  refine zC_i (L0 := [.ref 192, .int (zi 16), .int (zi x), .int (zi y), .int w4, .int w5, .int w6, .null]) rfl ?_
  refine zs_iload (ip' := 1) rfl rfl rfl ?_
  refine zs_tsw (t := 81) rfl (by omega) (by decide) ?_
  refine zs_aload (ip' := 82) rfl rfl rfl ?_
  refine zs_iload (ip' := 83) rfl rfl rfl ?_
  refine zs_iload (ip' := 84) rfl rfl rfl ?_
  refine zW_cN (g := gZ) (ip' := 85) rfl rfl (cQ_isWater (by omega) hok hR hx hy) rfl rfl (z_ok3 (by omega) zsh_192 rfl rfl rfl) rfl rfl ?_
  intro G' hP9 h09
  refine zs_if_eq (t := 88) (ip' := 86) rfl rfl (zr_to _) ?_ ?_
  · intro h5
    refine zs_pushI (ip' := 89) rfl rfl zi_k0 ?_
    refine zW_0 rfl ?_
    exact ⟨by rw [zN_0 h09]; unfold gZ gB; rw [if_pos h5], hP9, rfl, (if_pos h09).symm⟩
  · intro h5
    refine zs_pushI (ip' := 87) rfl rfl zi_k1 ?_
    refine zs_goto (t := 89) rfl ?_
    refine zW_0 rfl ?_
    exact ⟨by rw [zN_0 h09]; unfold gZ gB; rw [if_neg h5], hP9, rfl, (if_pos h09).symm⟩
theorem cL_isHut {N : Nat} {G F : GM} {n : Nat} (hN : 229 ≤ N) {s : Int → Int} (hok : mOk s) (hR : RX G 0 s) {x y : Int} (hx : zr x) (hy : zr y) {w4 : Int32} {w5 : Int32} {w6 : Int32} : zC N 334 [.ref 192, .int (zi 17), .int (zi x), .int (zi y), .int w4, .int w5, .int w6] G F n (zLc F n (q_isHut s x y).1 (zN [3] ((q_isHut s x y).1, gZ (q_isHut s x y).2)) (xQf G)) := by
  refine zC_i (L0 := [.ref 192, .int (zi 17), .int (zi x), .int (zi y), .int w4, .int w5, .int w6, .null]) rfl ?_
  refine zs_iload (ip' := 1) rfl rfl rfl ?_
  refine zs_tsw (t := 90) rfl (by omega) (by decide) ?_
  refine zs_aload (ip' := 91) rfl rfl rfl ?_
  refine zs_iload (ip' := 92) rfl rfl rfl ?_
  refine zs_iload (ip' := 93) rfl rfl rfl ?_
  refine zW_cN (g := gZ) (ip' := 94) rfl rfl (cQ_isHut (by omega) hok hR hx hy) rfl rfl (z_ok3 (by omega) zsh_192 rfl rfl rfl) rfl rfl ?_
  intro G' hP9 h09
  refine zs_if_eq (t := 97) (ip' := 95) rfl rfl (zr_to _) ?_ ?_
  · intro h5
    refine zs_pushI (ip' := 98) rfl rfl zi_k0 ?_
    refine zW_0 rfl ?_
    exact ⟨by rw [zN_0 h09]; unfold gZ gB; rw [if_pos h5], hP9, rfl, (if_pos h09).symm⟩
  · intro h5
    refine zs_pushI (ip' := 96) rfl rfl zi_k1 ?_
    refine zs_goto (t := 98) rfl ?_
    refine zW_0 rfl ?_
    exact ⟨by rw [zN_0 h09]; unfold gZ gB; rw [if_neg h5], hP9, rfl, (if_pos h09).symm⟩
theorem cL_isPlank {N : Nat} {G F : GM} {n : Nat} (hN : 229 ≤ N) {s : Int → Int} (hok : mOk s) (hR : RX G 0 s) {x y : Int} (hx : zr x) (hy : zr y) {w4 : Int32} {w5 : Int32} {w6 : Int32} : zC N 334 [.ref 192, .int (zi 18), .int (zi x), .int (zi y), .int w4, .int w5, .int w6] G F n (zLc F n (q_isPlank s x y).1 (zN [3] ((q_isPlank s x y).1, gZ (q_isPlank s x y).2)) (xQf G)) := by
  refine zC_i (L0 := [.ref 192, .int (zi 18), .int (zi x), .int (zi y), .int w4, .int w5, .int w6, .null]) rfl ?_
  refine zs_iload (ip' := 1) rfl rfl rfl ?_
  refine zs_tsw (t := 99) rfl (by omega) (by decide) ?_
  refine zs_aload (ip' := 100) rfl rfl rfl ?_
  refine zs_iload (ip' := 101) rfl rfl rfl ?_
  refine zs_iload (ip' := 102) rfl rfl rfl ?_
  refine zW_cN (g := gZ) (ip' := 103) rfl rfl (cQ_isPlank (by omega) hok hR hx hy) rfl rfl (z_ok3 (by omega) zsh_192 rfl rfl rfl) rfl rfl ?_
  intro G' hP9 h09
  refine zs_if_eq (t := 106) (ip' := 104) rfl rfl (zr_to _) ?_ ?_
  · intro h5
    refine zs_pushI (ip' := 107) rfl rfl zi_k0 ?_
    refine zW_0 rfl ?_
    exact ⟨by rw [zN_0 h09]; unfold gZ gB; rw [if_pos h5], hP9, rfl, (if_pos h09).symm⟩
  · intro h5
    refine zs_pushI (ip' := 105) rfl rfl zi_k1 ?_
    refine zs_goto (t := 107) rfl ?_
    refine zW_0 rfl ?_
    exact ⟨by rw [zN_0 h09]; unfold gZ gB; rw [if_neg h5], hP9, rfl, (if_pos h09).symm⟩
theorem cL_plankStrength {N : Nat} {G F : GM} {n : Nat} (hN : 229 ≤ N) {s : Int → Int} (hok : mOk s) (hR : RX G 0 s) {x y : Int} (hx : zr x) (hy : zr y) {w4 : Int32} {w5 : Int32} {w6 : Int32} : zC N 334 [.ref 192, .int (zi 19), .int (zi x), .int (zi y), .int w4, .int w5, .int w6] G F n (zLc F n (q_plankStrength s x y).1 (zN [3, 2] ((q_plankStrength s x y).1, gI (q_plankStrength s x y).2)) (xQf G)) := by
  refine zC_i (L0 := [.ref 192, .int (zi 19), .int (zi x), .int (zi y), .int w4, .int w5, .int w6, .null]) rfl ?_
  refine zs_iload (ip' := 1) rfl rfl rfl ?_
  refine zs_tsw (t := 108) rfl (by omega) (by decide) ?_
  refine zs_aload (ip' := 109) rfl rfl rfl ?_
  refine zs_iload (ip' := 110) rfl rfl rfl ?_
  refine zs_iload (ip' := 111) rfl rfl rfl ?_
  refine zW_cN (g := gI) (ip' := 112) rfl rfl (cQ_plankStrength (by omega) hok hR hx hy) rfl rfl (z_ok3 (by omega) zsh_192 rfl rfl rfl) rfl rfl ?_
  intro G' hP9 h09
  refine zW_0 rfl ?_
  exact ⟨by rw [zN_0 h09]; rfl, hP9, rfl, (if_pos h09).symm⟩
theorem cL_pathLength {N : Nat} {G F : GM} {n : Nat} (hN : 229 ≤ N) {s : Int → Int} (hok : mOk s) (hR : RX G 0 s) {x y u v : Int} (hx : zr x) (hy : zr y) (hu : zr u) (hv : zr v) {w6 : Int32} : zC N 334 [.ref 192, .int (zi 20), .int (zi x), .int (zi y), .int (zi u), .int (zi v), .int w6] G F n (zLc F n (q_path s x y u v).1 (zN [3, 2] ((q_path s x y u v).1, gI (q_path s x y u v).2)) (xQf G)) := by
  refine zC_i (L0 := [.ref 192, .int (zi 20), .int (zi x), .int (zi y), .int (zi u), .int (zi v), .int w6, .null]) rfl ?_
  refine zs_iload (ip' := 1) rfl rfl rfl ?_
  refine zs_tsw (t := 113) rfl (by omega) (by decide) ?_
  refine zs_aload (ip' := 114) rfl rfl rfl ?_
  refine zs_iload (ip' := 115) rfl rfl rfl ?_
  refine zs_iload (ip' := 116) rfl rfl rfl ?_
  refine zs_iload (ip' := 117) rfl rfl rfl ?_
  refine zs_iload (ip' := 118) rfl rfl rfl ?_
  refine zW_cN (g := gI) (ip' := 119) rfl rfl (cQ_pathLength (by omega) hok hR hx hy hu hv) rfl rfl (z_ok3 (by omega) zsh_192 rfl rfl rfl) rfl rfl ?_
  intro G' hP9 h09
  refine zW_0 rfl ?_
  exact ⟨by rw [zN_0 h09]; rfl, hP9, rfl, (if_pos h09).symm⟩
theorem cL_stepsToHut {N : Nat} {G F : GM} {n : Nat} (hN : 229 ≤ N) {s : Int → Int} (hok : mOk s) (hR : RX G 0 s) {x y : Int} (hx : zr x) (hy : zr y) {w4 : Int32} {w5 : Int32} {w6 : Int32} : zC N 334 [.ref 192, .int (zi 21), .int (zi x), .int (zi y), .int w4, .int w5, .int w6] G F n (zLc F n (q_hutSteps s x y).1 (zN [3, 2] ((q_hutSteps s x y).1, gI (q_hutSteps s x y).2)) (xQf G)) := by
  refine zC_i (L0 := [.ref 192, .int (zi 21), .int (zi x), .int (zi y), .int w4, .int w5, .int w6, .null]) rfl ?_
  refine zs_iload (ip' := 1) rfl rfl rfl ?_
  refine zs_tsw (t := 120) rfl (by omega) (by decide) ?_
  refine zs_aload (ip' := 121) rfl rfl rfl ?_
  refine zs_iload (ip' := 122) rfl rfl rfl ?_
  refine zs_iload (ip' := 123) rfl rfl rfl ?_
  refine zW_cN (g := gI) (ip' := 124) rfl rfl (cQ_stepsToHut (by omega) hok hR hx hy) rfl rfl (z_ok3 (by omega) zsh_192 rfl rfl rfl) rfl rfl ?_
  intro G' hP9 h09
  refine zW_0 rfl ?_
  exact ⟨by rw [zN_0 h09]; rfl, hP9, rfl, (if_pos h09).symm⟩
theorem cL_fog {N : Nat} {G F : GM} {n : Nat} (hN : 229 ≤ N) {s : Int → Int} (hok : mOk s) (hR : RX G 0 s) {h : Int} (hh : zr h) {w3 : Int32} {w4 : Int32} {w5 : Int32} {w6 : Int32} : zC N 334 [.ref 192, .int (zi 22), .int (zi h), .int w3, .int w4, .int w5, .int w6] G F n (zLc F n (q_fog s h).1 (zN [3] ((q_fog s h).1, gI (q_fog s h).2)) (xQf G)) := by
  refine zC_i (L0 := [.ref 192, .int (zi 22), .int (zi h), .int w3, .int w4, .int w5, .int w6, .null]) rfl ?_
  refine zs_iload (ip' := 1) rfl rfl rfl ?_
  refine zs_tsw (t := 125) rfl (by omega) (by decide) ?_
  refine zs_aload (ip' := 126) rfl rfl rfl ?_
  refine zs_iload (ip' := 127) rfl rfl rfl ?_
  refine zW_cN (g := gI) (ip' := 128) rfl rfl (cQ_fog (by omega) hok hR hh) rfl rfl (z_ok3 (by omega) zsh_192 rfl rfl rfl) rfl rfl ?_
  intro G' hP9 h09
  refine zW_0 rfl ?_
  exact ⟨by rw [zN_0 h09]; rfl, hP9, rfl, (if_pos h09).symm⟩
theorem cL_lightColumn {N : Nat} {G F : GM} {n : Nat} (hN : 229 ≤ N) {s : Int → Int} (hok : mOk s) (hR : RX G 0 s) {l : Int} (hl0 : zr l) {w3 : Int32} {w4 : Int32} {w5 : Int32} {w6 : Int32} : zC N 334 [.ref 192, .int (zi 23), .int (zi l), .int w3, .int w4, .int w5, .int w6] G F n (zLc F n (q_light s l 0).1 (zN [3] ((q_light s l 0).1, gI (q_light s l 0).2)) (xQf G)) := by
  refine zC_i (L0 := [.ref 192, .int (zi 23), .int (zi l), .int w3, .int w4, .int w5, .int w6, .null]) rfl ?_
  refine zs_iload (ip' := 1) rfl rfl rfl ?_
  refine zs_tsw (t := 129) rfl (by omega) (by decide) ?_
  refine zs_aload (ip' := 130) rfl rfl rfl ?_
  refine zs_iload (ip' := 131) rfl rfl rfl ?_
  refine zW_cN (g := gI) (ip' := 132) rfl rfl (cQ_lightColumn (by omega) hok hR hl0) rfl rfl (z_ok3 (by omega) zsh_192 rfl rfl rfl) rfl rfl ?_
  intro G' hP9 h09
  refine zW_0 rfl ?_
  exact ⟨by rw [zN_0 h09]; rfl, hP9, rfl, (if_pos h09).symm⟩
theorem cL_lightRow {N : Nat} {G F : GM} {n : Nat} (hN : 229 ≤ N) {s : Int → Int} (hok : mOk s) (hR : RX G 0 s) {l : Int} (hl0 : zr l) {w3 : Int32} {w4 : Int32} {w5 : Int32} {w6 : Int32} : zC N 334 [.ref 192, .int (zi 24), .int (zi l), .int w3, .int w4, .int w5, .int w6] G F n (zLc F n (q_light s l 1).1 (zN [3] ((q_light s l 1).1, gI (q_light s l 1).2)) (xQf G)) := by
  refine zC_i (L0 := [.ref 192, .int (zi 24), .int (zi l), .int w3, .int w4, .int w5, .int w6, .null]) rfl ?_
  refine zs_iload (ip' := 1) rfl rfl rfl ?_
  refine zs_tsw (t := 133) rfl (by omega) (by decide) ?_
  refine zs_aload (ip' := 134) rfl rfl rfl ?_
  refine zs_iload (ip' := 135) rfl rfl rfl ?_
  refine zW_cN (g := gI) (ip' := 136) rfl rfl (cQ_lightRow (by omega) hok hR hl0) rfl rfl (z_ok3 (by omega) zsh_192 rfl rfl rfl) rfl rfl ?_
  intro G' hP9 h09
  refine zW_0 rfl ?_
  exact ⟨by rw [zN_0 h09]; rfl, hP9, rfl, (if_pos h09).symm⟩
theorem cL_brightness {N : Nat} {G F : GM} {n : Nat} (hN : 229 ≤ N) {s : Int → Int} (hok : mOk s) (hR : RX G 0 s) {l : Int} (hl0 : zr l) {w3 : Int32} {w4 : Int32} {w5 : Int32} {w6 : Int32} : zC N 334 [.ref 192, .int (zi 25), .int (zi l), .int w3, .int w4, .int w5, .int w6] G F n (zLc F n (q_light s l 2).1 (zN [3] ((q_light s l 2).1, gI (q_light s l 2).2)) (xQf G)) := by
  refine zC_i (L0 := [.ref 192, .int (zi 25), .int (zi l), .int w3, .int w4, .int w5, .int w6, .null]) rfl ?_
  refine zs_iload (ip' := 1) rfl rfl rfl ?_
  refine zs_tsw (t := 137) rfl (by omega) (by decide) ?_
  refine zs_aload (ip' := 138) rfl rfl rfl ?_
  refine zs_iload (ip' := 139) rfl rfl rfl ?_
  refine zW_cN (g := gI) (ip' := 140) rfl rfl (cQ_brightness (by omega) hok hR hl0) rfl rfl (z_ok3 (by omega) zsh_192 rfl rfl rfl) rfl rfl ?_
  intro G' hP9 h09
  refine zW_0 rfl ?_
  exact ⟨by rw [zN_0 h09]; rfl, hP9, rfl, (if_pos h09).symm⟩
theorem cL_isTrueLight {N : Nat} {G F : GM} {n : Nat} (hN : 229 ≤ N) {s : Int → Int} (hok : mOk s) (hR : RX G 0 s) {l : Int} (hl0 : zr l) {w3 : Int32} {w4 : Int32} {w5 : Int32} {w6 : Int32} : zC N 334 [.ref 192, .int (zi 26), .int (zi l), .int w3, .int w4, .int w5, .int w6] G F n (zLc F n (q_isTrueLight s l).1 (zN [3] ((q_isTrueLight s l).1, gZ (q_isTrueLight s l).2)) (xQf G)) := by
  refine zC_i (L0 := [.ref 192, .int (zi 26), .int (zi l), .int w3, .int w4, .int w5, .int w6, .null]) rfl ?_
  refine zs_iload (ip' := 1) rfl rfl rfl ?_
  refine zs_tsw (t := 141) rfl (by omega) (by decide) ?_
  refine zs_aload (ip' := 142) rfl rfl rfl ?_
  refine zs_iload (ip' := 143) rfl rfl rfl ?_
  refine zW_cN (g := gZ) (ip' := 144) rfl rfl (cQ_isTrueLight (by omega) hok hR hl0) rfl rfl (z_ok3 (by omega) zsh_192 rfl rfl rfl) rfl rfl ?_
  intro G' hP9 h09
  refine zs_if_eq (t := 147) (ip' := 145) rfl rfl (zr_to _) ?_ ?_
  · intro h5
    refine zs_pushI (ip' := 148) rfl rfl zi_k0 ?_
    refine zW_0 rfl ?_
    exact ⟨by rw [zN_0 h09]; unfold gZ gB; rw [if_pos h5], hP9, rfl, (if_pos h09).symm⟩
  · intro h5
    refine zs_pushI (ip' := 146) rfl rfl zi_k1 ?_
    refine zs_goto (t := 148) rfl ?_
    refine zW_0 rfl ?_
    exact ⟨by rw [zN_0 h09]; unfold gZ gB; rw [if_neg h5], hP9, rfl, (if_pos h09).symm⟩
theorem cL_hasSuccessor {N : Nat} {G F : GM} {n : Nat} (hN : 229 ≤ N) {s : Int → Int} (hok : mOk s) (hR : RX G 0 s) {l : Int} (hl0 : zr l) {w3 : Int32} {w4 : Int32} {w5 : Int32} {w6 : Int32} : zC N 334 [.ref 192, .int (zi 27), .int (zi l), .int w3, .int w4, .int w5, .int w6] G F n (zLc F n (q_hasSuccessor s l).1 (zN [3] ((q_hasSuccessor s l).1, gZ (q_hasSuccessor s l).2)) (xQf G)) := by
  refine zC_i (L0 := [.ref 192, .int (zi 27), .int (zi l), .int w3, .int w4, .int w5, .int w6, .null]) rfl ?_
  refine zs_iload (ip' := 1) rfl rfl rfl ?_
  refine zs_tsw (t := 149) rfl (by omega) (by decide) ?_
  refine zs_aload (ip' := 150) rfl rfl rfl ?_
  refine zs_iload (ip' := 151) rfl rfl rfl ?_
  refine zW_cN (g := gZ) (ip' := 152) rfl rfl (cQ_hasSuccessor (by omega) hok hR hl0) rfl rfl (z_ok3 (by omega) zsh_192 rfl rfl rfl) rfl rfl ?_
  intro G' hP9 h09
  refine zs_if_eq (t := 155) (ip' := 153) rfl rfl (zr_to _) ?_ ?_
  · intro h5
    refine zs_pushI (ip' := 156) rfl rfl zi_k0 ?_
    refine zW_0 rfl ?_
    exact ⟨by rw [zN_0 h09]; unfold gZ gB; rw [if_pos h5], hP9, rfl, (if_pos h09).symm⟩
  · intro h5
    refine zs_pushI (ip' := 154) rfl rfl zi_k1 ?_
    refine zs_goto (t := 156) rfl ?_
    refine zW_0 rfl ?_
    exact ⟨by rw [zN_0 h09]; unfold gZ gB; rw [if_neg h5], hP9, rfl, (if_pos h09).symm⟩
theorem cL_successor {N : Nat} {G F : GM} {n : Nat} (hN : 229 ≤ N) {s : Int → Int} (hok : mOk s) (hR : RX G 0 s) {l : Int} (hl0 : zr l) {w3 : Int32} {w4 : Int32} {w5 : Int32} {w6 : Int32} : zC N 334 [.ref 192, .int (zi 28), .int (zi l), .int w3, .int w4, .int w5, .int w6] G F n (zLc F n (q_successor s l).1 (zN [3, 2] ((q_successor s l).1, gI (q_successor s l).2)) (xQf G)) := by
  refine zC_i (L0 := [.ref 192, .int (zi 28), .int (zi l), .int w3, .int w4, .int w5, .int w6, .null]) rfl ?_
  refine zs_iload (ip' := 1) rfl rfl rfl ?_
  refine zs_tsw (t := 157) rfl (by omega) (by decide) ?_
  refine zs_aload (ip' := 158) rfl rfl rfl ?_
  refine zs_iload (ip' := 159) rfl rfl rfl ?_
  refine zW_cN (g := gI) (ip' := 160) rfl rfl (cQ_successor (by omega) hok hR hl0) rfl rfl (z_ok3 (by omega) zsh_192 rfl rfl rfl) rfl rfl ?_
  intro G' hP9 h09
  refine zW_0 rfl ?_
  exact ⟨by rw [zN_0 h09]; rfl, hP9, rfl, (if_pos h09).symm⟩
theorem cL_followers {N : Nat} {G F : GM} {n : Nat} (hN : 229 ≤ N) {s : Int → Int} (hok : mOk s) (hR : RX G 0 s) {l : Int} (hl0 : zr l) {w3 : Int32} {w4 : Int32} {w5 : Int32} {w6 : Int32} : zC N 334 [.ref 192, .int (zi 29), .int (zi l), .int w3, .int w4, .int w5, .int w6] G F n (zLc F n (q_followers s l).1 (zN [3] ((q_followers s l).1, gI (q_followers s l).2)) (xQf G)) := by
  refine zC_i (L0 := [.ref 192, .int (zi 29), .int (zi l), .int w3, .int w4, .int w5, .int w6, .null]) rfl ?_
  refine zs_iload (ip' := 1) rfl rfl rfl ?_
  refine zs_tsw (t := 161) rfl (by omega) (by decide) ?_
  refine zs_aload (ip' := 162) rfl rfl rfl ?_
  refine zs_iload (ip' := 163) rfl rfl rfl ?_
  refine zW_cN (g := gI) (ip' := 164) rfl rfl (cQ_followers (by omega) hok hR hl0) rfl rfl (z_ok3 (by omega) zsh_192 rfl rfl rfl) rfl rfl ?_
  intro G' hP9 h09
  refine zW_0 rfl ?_
  exact ⟨by rw [zN_0 h09]; rfl, hP9, rfl, (if_pos h09).symm⟩
theorem cL_leadsAstray {N : Nat} {G F : GM} {n : Nat} (hN : 229 ≤ N) {s : Int → Int} (hok : mOk s) (hR : RX G 0 s) {l : Int} (hl0 : zr l) {w3 : Int32} {w4 : Int32} {w5 : Int32} {w6 : Int32} : zC N 334 [.ref 192, .int (zi 30), .int (zi l), .int w3, .int w4, .int w5, .int w6] G F n (zLc F n (q_leadsAstray s l).1 (zN [3] ((q_leadsAstray s l).1, gZ (q_leadsAstray s l).2)) (xQf G)) := by
  refine zC_i (L0 := [.ref 192, .int (zi 30), .int (zi l), .int w3, .int w4, .int w5, .int w6, .null]) rfl ?_
  refine zs_iload (ip' := 1) rfl rfl rfl ?_
  refine zs_tsw (t := 165) rfl (by omega) (by decide) ?_
  refine zs_aload (ip' := 166) rfl rfl rfl ?_
  refine zs_iload (ip' := 167) rfl rfl rfl ?_
  refine zW_cN (g := gZ) (ip' := 168) rfl rfl (cQ_leadsAstray (by omega) hok hR hl0) rfl rfl (z_ok3 (by omega) zsh_192 rfl rfl rfl) rfl rfl ?_
  intro G' hP9 h09
  refine zs_if_eq (t := 171) (ip' := 169) rfl rfl (zr_to _) ?_ ?_
  · intro h5
    refine zs_pushI (ip' := 172) rfl rfl zi_k0 ?_
    refine zW_0 rfl ?_
    exact ⟨by rw [zN_0 h09]; unfold gZ gB; rw [if_pos h5], hP9, rfl, (if_pos h09).symm⟩
  · intro h5
    refine zs_pushI (ip' := 170) rfl rfl zi_k1 ?_
    refine zs_goto (t := 172) rfl ?_
    refine zW_0 rfl ?_
    exact ⟨by rw [zN_0 h09]; unfold gZ gB; rw [if_neg h5], hP9, rfl, (if_pos h09).symm⟩
theorem cL_travellerColumn {N : Nat} {G F : GM} {n : Nat} (hN : 229 ≤ N) {s : Int → Int} (hok : mOk s) (hR : RX G 0 s) {t : Int} (ht0 : zr t) {w3 : Int32} {w4 : Int32} {w5 : Int32} {w6 : Int32} : zC N 334 [.ref 192, .int (zi 31), .int (zi t), .int w3, .int w4, .int w5, .int w6] G F n (zLc F n (q_walker s t 0).1 (zN [3] ((q_walker s t 0).1, gI (q_walker s t 0).2)) (xQf G)) := by
  refine zC_i (L0 := [.ref 192, .int (zi 31), .int (zi t), .int w3, .int w4, .int w5, .int w6, .null]) rfl ?_
  refine zs_iload (ip' := 1) rfl rfl rfl ?_
  refine zs_tsw (t := 173) rfl (by omega) (by decide) ?_
  refine zs_aload (ip' := 174) rfl rfl rfl ?_
  refine zs_iload (ip' := 175) rfl rfl rfl ?_
  refine zW_cN (g := gI) (ip' := 176) rfl rfl (cQ_travellerColumn (by omega) hok hR ht0) rfl rfl (z_ok3 (by omega) zsh_192 rfl rfl rfl) rfl rfl ?_
  intro G' hP9 h09
  refine zW_0 rfl ?_
  exact ⟨by rw [zN_0 h09]; rfl, hP9, rfl, (if_pos h09).symm⟩
theorem cL_travellerRow {N : Nat} {G F : GM} {n : Nat} (hN : 229 ≤ N) {s : Int → Int} (hok : mOk s) (hR : RX G 0 s) {t : Int} (ht0 : zr t) {w3 : Int32} {w4 : Int32} {w5 : Int32} {w6 : Int32} : zC N 334 [.ref 192, .int (zi 32), .int (zi t), .int w3, .int w4, .int w5, .int w6] G F n (zLc F n (q_walker s t 1).1 (zN [3] ((q_walker s t 1).1, gI (q_walker s t 1).2)) (xQf G)) := by
  refine zC_i (L0 := [.ref 192, .int (zi 32), .int (zi t), .int w3, .int w4, .int w5, .int w6, .null]) rfl ?_
  refine zs_iload (ip' := 1) rfl rfl rfl ?_
  refine zs_tsw (t := 177) rfl (by omega) (by decide) ?_
  refine zs_aload (ip' := 178) rfl rfl rfl ?_
  refine zs_iload (ip' := 179) rfl rfl rfl ?_
  refine zW_cN (g := gI) (ip' := 180) rfl rfl (cQ_travellerRow (by omega) hok hR ht0) rfl rfl (z_ok3 (by omega) zsh_192 rfl rfl rfl) rfl rfl ?_
  intro G' hP9 h09
  refine zW_0 rfl ?_
  exact ⟨by rw [zN_0 h09]; rfl, hP9, rfl, (if_pos h09).symm⟩
theorem cL_isWalking {N : Nat} {G F : GM} {n : Nat} (hN : 229 ≤ N) {s : Int → Int} (hok : mOk s) (hR : RX G 0 s) {t : Int} (ht0 : zr t) {w3 : Int32} {w4 : Int32} {w5 : Int32} {w6 : Int32} : zC N 334 [.ref 192, .int (zi 33), .int (zi t), .int w3, .int w4, .int w5, .int w6] G F n (zLc F n (q_state s t 0).1 (zN [3] ((q_state s t 0).1, gZ (q_state s t 0).2)) (xQf G)) := by
  refine zC_i (L0 := [.ref 192, .int (zi 33), .int (zi t), .int w3, .int w4, .int w5, .int w6, .null]) rfl ?_
  refine zs_iload (ip' := 1) rfl rfl rfl ?_
  refine zs_tsw (t := 181) rfl (by omega) (by decide) ?_
  refine zs_aload (ip' := 182) rfl rfl rfl ?_
  refine zs_iload (ip' := 183) rfl rfl rfl ?_
  refine zW_cN (g := gZ) (ip' := 184) rfl rfl (cQ_isWalking (by omega) hok hR ht0) rfl rfl (z_ok3 (by omega) zsh_192 rfl rfl rfl) rfl rfl ?_
  intro G' hP9 h09
  refine zs_if_eq (t := 187) (ip' := 185) rfl rfl (zr_to _) ?_ ?_
  · intro h5
    refine zs_pushI (ip' := 188) rfl rfl zi_k0 ?_
    refine zW_0 rfl ?_
    exact ⟨by rw [zN_0 h09]; unfold gZ gB; rw [if_pos h5], hP9, rfl, (if_pos h09).symm⟩
  · intro h5
    refine zs_pushI (ip' := 186) rfl rfl zi_k1 ?_
    refine zs_goto (t := 188) rfl ?_
    refine zW_0 rfl ?_
    exact ⟨by rw [zN_0 h09]; unfold gZ gB; rw [if_neg h5], hP9, rfl, (if_pos h09).symm⟩
theorem cL_hasArrived {N : Nat} {G F : GM} {n : Nat} (hN : 229 ≤ N) {s : Int → Int} (hok : mOk s) (hR : RX G 0 s) {t : Int} (ht0 : zr t) {w3 : Int32} {w4 : Int32} {w5 : Int32} {w6 : Int32} : zC N 334 [.ref 192, .int (zi 34), .int (zi t), .int w3, .int w4, .int w5, .int w6] G F n (zLc F n (q_state s t 1).1 (zN [3] ((q_state s t 1).1, gZ (q_state s t 1).2)) (xQf G)) := by
  refine zC_i (L0 := [.ref 192, .int (zi 34), .int (zi t), .int w3, .int w4, .int w5, .int w6, .null]) rfl ?_
  refine zs_iload (ip' := 1) rfl rfl rfl ?_
  refine zs_tsw (t := 189) rfl (by omega) (by decide) ?_
  refine zs_aload (ip' := 190) rfl rfl rfl ?_
  refine zs_iload (ip' := 191) rfl rfl rfl ?_
  refine zW_cN (g := gZ) (ip' := 192) rfl rfl (cQ_hasArrived (by omega) hok hR ht0) rfl rfl (z_ok3 (by omega) zsh_192 rfl rfl rfl) rfl rfl ?_
  intro G' hP9 h09
  refine zs_if_eq (t := 195) (ip' := 193) rfl rfl (zr_to _) ?_ ?_
  · intro h5
    refine zs_pushI (ip' := 196) rfl rfl zi_k0 ?_
    refine zW_0 rfl ?_
    exact ⟨by rw [zN_0 h09]; unfold gZ gB; rw [if_pos h5], hP9, rfl, (if_pos h09).symm⟩
  · intro h5
    refine zs_pushI (ip' := 194) rfl rfl zi_k1 ?_
    refine zs_goto (t := 196) rfl ?_
    refine zW_0 rfl ?_
    exact ⟨by rw [zN_0 h09]; unfold gZ gB; rw [if_neg h5], hP9, rfl, (if_pos h09).symm⟩
theorem cL_hasSunk {N : Nat} {G F : GM} {n : Nat} (hN : 229 ≤ N) {s : Int → Int} (hok : mOk s) (hR : RX G 0 s) {t : Int} (ht0 : zr t) {w3 : Int32} {w4 : Int32} {w5 : Int32} {w6 : Int32} : zC N 334 [.ref 192, .int (zi 35), .int (zi t), .int w3, .int w4, .int w5, .int w6] G F n (zLc F n (q_state s t 2).1 (zN [3] ((q_state s t 2).1, gZ (q_state s t 2).2)) (xQf G)) := by
  refine zC_i (L0 := [.ref 192, .int (zi 35), .int (zi t), .int w3, .int w4, .int w5, .int w6, .null]) rfl ?_
  refine zs_iload (ip' := 1) rfl rfl rfl ?_
  refine zs_tsw (t := 197) rfl (by omega) (by decide) ?_
  refine zs_aload (ip' := 198) rfl rfl rfl ?_
  refine zs_iload (ip' := 199) rfl rfl rfl ?_
  refine zW_cN (g := gZ) (ip' := 200) rfl rfl (cQ_hasSunk (by omega) hok hR ht0) rfl rfl (z_ok3 (by omega) zsh_192 rfl rfl rfl) rfl rfl ?_
  intro G' hP9 h09
  refine zs_if_eq (t := 203) (ip' := 201) rfl rfl (zr_to _) ?_ ?_
  · intro h5
    refine zs_pushI (ip' := 204) rfl rfl zi_k0 ?_
    refine zW_0 rfl ?_
    exact ⟨by rw [zN_0 h09]; unfold gZ gB; rw [if_pos h5], hP9, rfl, (if_pos h09).symm⟩
  · intro h5
    refine zs_pushI (ip' := 202) rfl rfl zi_k1 ?_
    refine zs_goto (t := 204) rfl ?_
    refine zW_0 rfl ?_
    exact ⟨by rw [zN_0 h09]; unfold gZ gB; rw [if_neg h5], hP9, rfl, (if_pos h09).symm⟩
theorem cL_stepsTaken {N : Nat} {G F : GM} {n : Nat} (hN : 229 ≤ N) {s : Int → Int} (hok : mOk s) (hR : RX G 0 s) {t : Int} (ht0 : zr t) {w3 : Int32} {w4 : Int32} {w5 : Int32} {w6 : Int32} : zC N 334 [.ref 192, .int (zi 36), .int (zi t), .int w3, .int w4, .int w5, .int w6] G F n (zLc F n (q_walker s t 6).1 (zN [3] ((q_walker s t 6).1, gI (q_walker s t 6).2)) (xQf G)) := by
  refine zC_i (L0 := [.ref 192, .int (zi 36), .int (zi t), .int w3, .int w4, .int w5, .int w6, .null]) rfl ?_
  refine zs_iload (ip' := 1) rfl rfl rfl ?_
  refine zs_tsw (t := 205) rfl (by omega) (by decide) ?_
  refine zs_aload (ip' := 206) rfl rfl rfl ?_
  refine zs_iload (ip' := 207) rfl rfl rfl ?_
  refine zW_cN (g := gI) (ip' := 208) rfl rfl (cQ_stepsTaken (by omega) hok hR ht0) rfl rfl (z_ok3 (by omega) zsh_192 rfl rfl rfl) rfl rfl ?_
  intro G' hP9 h09
  refine zW_0 rfl ?_
  exact ⟨by rw [zN_0 h09]; rfl, hP9, rfl, (if_pos h09).symm⟩
theorem cL_hasTarget {N : Nat} {G F : GM} {n : Nat} (hN : 229 ≤ N) {s : Int → Int} (hok : mOk s) (hR : RX G 0 s) {t : Int} (ht0 : zr t) {w3 : Int32} {w4 : Int32} {w5 : Int32} {w6 : Int32} : zC N 334 [.ref 192, .int (zi 37), .int (zi t), .int w3, .int w4, .int w5, .int w6] G F n (zLc F n (q_hasTarget s t).1 (zN [3] ((q_hasTarget s t).1, gZ (q_hasTarget s t).2)) (xQf G)) := by
  refine zC_i (L0 := [.ref 192, .int (zi 37), .int (zi t), .int w3, .int w4, .int w5, .int w6, .null]) rfl ?_
  refine zs_iload (ip' := 1) rfl rfl rfl ?_
  refine zs_tsw (t := 209) rfl (by omega) (by decide) ?_
  refine zs_aload (ip' := 210) rfl rfl rfl ?_
  refine zs_iload (ip' := 211) rfl rfl rfl ?_
  refine zW_cN (g := gZ) (ip' := 212) rfl rfl (cQ_hasTarget (by omega) hok hR ht0) rfl rfl (z_ok3 (by omega) zsh_192 rfl rfl rfl) rfl rfl ?_
  intro G' hP9 h09
  refine zs_if_eq (t := 215) (ip' := 213) rfl rfl (zr_to _) ?_ ?_
  · intro h5
    refine zs_pushI (ip' := 216) rfl rfl zi_k0 ?_
    refine zW_0 rfl ?_
    exact ⟨by rw [zN_0 h09]; unfold gZ gB; rw [if_pos h5], hP9, rfl, (if_pos h09).symm⟩
  · intro h5
    refine zs_pushI (ip' := 214) rfl rfl zi_k1 ?_
    refine zs_goto (t := 216) rfl ?_
    refine zW_0 rfl ?_
    exact ⟨by rw [zN_0 h09]; unfold gZ gB; rw [if_neg h5], hP9, rfl, (if_pos h09).symm⟩
theorem cL_target {N : Nat} {G F : GM} {n : Nat} (hN : 229 ≤ N) {s : Int → Int} (hok : mOk s) (hR : RX G 0 s) {t : Int} (ht0 : zr t) {w3 : Int32} {w4 : Int32} {w5 : Int32} {w6 : Int32} : zC N 334 [.ref 192, .int (zi 38), .int (zi t), .int w3, .int w4, .int w5, .int w6] G F n (zLc F n (q_target s t).1 (zN [3, 2] ((q_target s t).1, gI (q_target s t).2)) (xQf G)) := by
  refine zC_i (L0 := [.ref 192, .int (zi 38), .int (zi t), .int w3, .int w4, .int w5, .int w6, .null]) rfl ?_
  refine zs_iload (ip' := 1) rfl rfl rfl ?_
  refine zs_tsw (t := 217) rfl (by omega) (by decide) ?_
  refine zs_aload (ip' := 218) rfl rfl rfl ?_
  refine zs_iload (ip' := 219) rfl rfl rfl ?_
  refine zW_cN (g := gI) (ip' := 220) rfl rfl (cQ_target (by omega) hok hR ht0) rfl rfl (z_ok3 (by omega) zsh_192 rfl rfl rfl) rfl rfl ?_
  intro G' hP9 h09
  refine zW_0 rfl ?_
  exact ⟨by rw [zN_0 h09]; rfl, hP9, rfl, (if_pos h09).symm⟩
theorem cL_hasPassed {N : Nat} {G F : GM} {n : Nat} (hN : 229 ≤ N) {s : Int → Int} (hok : mOk s) (hR : RX G 0 s) {t : Int} (ht0 : zr t) {l : Int} (hl0 : zr l) {w4 : Int32} {w5 : Int32} {w6 : Int32} : zC N 334 [.ref 192, .int (zi 39), .int (zi t), .int (zi l), .int w4, .int w5, .int w6] G F n (zLc F n (q_hasPassed s t l).1 (zN [3] ((q_hasPassed s t l).1, gZ (q_hasPassed s t l).2)) (xQf G)) := by
  refine zC_i (L0 := [.ref 192, .int (zi 39), .int (zi t), .int (zi l), .int w4, .int w5, .int w6, .null]) rfl ?_
  refine zs_iload (ip' := 1) rfl rfl rfl ?_
  refine zs_tsw (t := 221) rfl (by omega) (by decide) ?_
  refine zs_aload (ip' := 222) rfl rfl rfl ?_
  refine zs_iload (ip' := 223) rfl rfl rfl ?_
  refine zs_iload (ip' := 224) rfl rfl rfl ?_
  refine zW_cN (g := gZ) (ip' := 225) rfl rfl (cQ_hasPassed (by omega) hok hR ht0 hl0) rfl rfl (z_ok3 (by omega) zsh_192 rfl rfl rfl) rfl rfl ?_
  intro G' hP9 h09
  refine zs_if_eq (t := 228) (ip' := 226) rfl rfl (zr_to _) ?_ ?_
  · intro h5
    refine zs_pushI (ip' := 229) rfl rfl zi_k0 ?_
    refine zW_0 rfl ?_
    exact ⟨by rw [zN_0 h09]; unfold gZ gB; rw [if_pos h5], hP9, rfl, (if_pos h09).symm⟩
  · intro h5
    refine zs_pushI (ip' := 227) rfl rfl zi_k1 ?_
    refine zs_goto (t := 229) rfl ?_
    refine zW_0 rfl ?_
    exact ⟨by rw [zN_0 h09]; unfold gZ gB; rw [if_neg h5], hP9, rfl, (if_pos h09).symm⟩
theorem cL_distrusts {N : Nat} {G F : GM} {n : Nat} (hN : 229 ≤ N) {s : Int → Int} (hok : mOk s) (hR : RX G 0 s) {t : Int} (ht0 : zr t) {l : Int} (hl0 : zr l) {w4 : Int32} {w5 : Int32} {w6 : Int32} : zC N 334 [.ref 192, .int (zi 40), .int (zi t), .int (zi l), .int w4, .int w5, .int w6] G F n (zLc F n (q_distrusts s t l).1 (zN [3] ((q_distrusts s t l).1, gZ (q_distrusts s t l).2)) (xQf G)) := by
  refine zC_i (L0 := [.ref 192, .int (zi 40), .int (zi t), .int (zi l), .int w4, .int w5, .int w6, .null]) rfl ?_
  refine zs_iload (ip' := 1) rfl rfl rfl ?_
  refine zs_tsw (t := 230) rfl (by omega) (by decide) ?_
  refine zs_aload (ip' := 231) rfl rfl rfl ?_
  refine zs_iload (ip' := 232) rfl rfl rfl ?_
  refine zs_iload (ip' := 233) rfl rfl rfl ?_
  refine zW_cN (g := gZ) (ip' := 234) rfl rfl (cQ_distrusts (by omega) hok hR ht0 hl0) rfl rfl (z_ok3 (by omega) zsh_192 rfl rfl rfl) rfl rfl ?_
  intro G' hP9 h09
  refine zs_if_eq (t := 237) (ip' := 235) rfl rfl (zr_to _) ?_ ?_
  · intro h5
    refine zs_pushI (ip' := 238) rfl rfl zi_k0 ?_
    refine zW_0 rfl ?_
    exact ⟨by rw [zN_0 h09]; unfold gZ gB; rw [if_pos h5], hP9, rfl, (if_pos h09).symm⟩
  · intro h5
    refine zs_pushI (ip' := 236) rfl rfl zi_k1 ?_
    refine zs_goto (t := 238) rfl ?_
    refine zW_0 rfl ?_
    exact ⟨by rw [zN_0 h09]; unfold gZ gB; rw [if_neg h5], hP9, rfl, (if_pos h09).symm⟩
theorem cL_sees {N : Nat} {G F : GM} {n : Nat} (hN : 229 ≤ N) {s : Int → Int} (hok : mOk s) (hR : RX G 0 s) {t : Int} (ht0 : zr t) {l : Int} (hl0 : zr l) {w4 : Int32} {w5 : Int32} {w6 : Int32} : zC N 334 [.ref 192, .int (zi 41), .int (zi t), .int (zi l), .int w4, .int w5, .int w6] G F n (zLc F n (q_sees s t l).1 (zN [3] ((q_sees s t l).1, gZ (q_sees s t l).2)) (xQf G)) := by
  refine zC_i (L0 := [.ref 192, .int (zi 41), .int (zi t), .int (zi l), .int w4, .int w5, .int w6, .null]) rfl ?_
  refine zs_iload (ip' := 1) rfl rfl rfl ?_
  refine zs_tsw (t := 239) rfl (by omega) (by decide) ?_
  refine zs_aload (ip' := 240) rfl rfl rfl ?_
  refine zs_iload (ip' := 241) rfl rfl rfl ?_
  refine zs_iload (ip' := 242) rfl rfl rfl ?_
  refine zW_cN (g := gZ) (ip' := 243) rfl rfl (cQ_sees (by omega) hok hR ht0 hl0) rfl rfl (z_ok3 (by omega) zsh_192 rfl rfl rfl) rfl rfl ?_
  intro G' hP9 h09
  refine zs_if_eq (t := 246) (ip' := 244) rfl rfl (zr_to _) ?_ ?_
  · intro h5
    refine zs_pushI (ip' := 247) rfl rfl zi_k0 ?_
    refine zW_0 rfl ?_
    exact ⟨by rw [zN_0 h09]; unfold gZ gB; rw [if_pos h5], hP9, rfl, (if_pos h09).symm⟩
  · intro h5
    refine zs_pushI (ip' := 245) rfl rfl zi_k1 ?_
    refine zs_goto (t := 247) rfl ?_
    refine zW_0 rfl ?_
    exact ⟨by rw [zN_0 h09]; unfold gZ gB; rw [if_neg h5], hP9, rfl, (if_pos h09).symm⟩
theorem cL_nearestLight {N : Nat} {G F : GM} {n : Nat} (hN : 229 ≤ N) {s : Int → Int} (hok : mOk s) (hR : RX G 0 s) {t : Int} (ht0 : zr t) {w3 : Int32} {w4 : Int32} {w5 : Int32} {w6 : Int32} : zC N 334 [.ref 192, .int (zi 42), .int (zi t), .int w3, .int w4, .int w5, .int w6] G F n (zLc F n (q_nearestLight s t).1 (zN [3, 2] ((q_nearestLight s t).1, gI (q_nearestLight s t).2)) (xQf G)) := by
  refine zC_i (L0 := [.ref 192, .int (zi 42), .int (zi t), .int w3, .int w4, .int w5, .int w6, .null]) rfl ?_
  refine zs_iload (ip' := 1) rfl rfl rfl ?_
  refine zs_tsw (t := 248) rfl (by omega) (by decide) ?_
  refine zs_aload (ip' := 249) rfl rfl rfl ?_
  refine zs_iload (ip' := 250) rfl rfl rfl ?_
  refine zW_cN (g := gI) (ip' := 251) rfl rfl (cQ_nearestLight (by omega) hok hR ht0) rfl rfl (z_ok3 (by omega) zsh_192 rfl rfl rfl) rfl rfl ?_
  intro G' hP9 h09
  refine zW_0 rfl ?_
  exact ⟨by rw [zN_0 h09]; rfl, hP9, rfl, (if_pos h09).symm⟩
theorem cL_ticksUntilDone {N : Nat} {G F : GM} {n : Nat} (hN : 229 ≤ N) {s : Int → Int} (hok : mOk s) (hR : RX G 0 s) {t : Int → Int} (he : zEq s t) (htm : s 3 ≤ 9999) {v : Int} (ht0 : zr v) {w3 : Int32} {w4 : Int32} {w5 : Int32} {w6 : Int32} : zC N 334 [.ref 192, .int (zi 43), .int (zi v), .int w3, .int w4, .int w5, .int w6] G F n (zLc F n (q_until s t v).1 (zN [3, 0, 2] ((q_until s t v).1, gI (q_until s t v).2)) (xQf G)) := by
  refine zC_i (L0 := [.ref 192, .int (zi 43), .int (zi v), .int w3, .int w4, .int w5, .int w6, .null]) rfl ?_
  refine zs_iload (ip' := 1) rfl rfl rfl ?_
  refine zs_tsw (t := 252) rfl (by omega) (by decide) ?_
  refine zs_aload (ip' := 253) rfl rfl rfl ?_
  refine zs_iload (ip' := 254) rfl rfl rfl ?_
  refine zW_cN (g := gI) (ip' := 255) rfl rfl (cQ_ticksUntilDone (by omega) hok hR he htm ht0) rfl rfl (z_ok3 (by omega) zsh_192 rfl rfl rfl) rfl rfl ?_
  intro G' hP9 h09
  refine zW_0 rfl ?_
  exact ⟨by rw [zN_0 h09]; rfl, hP9, rfl, (if_pos h09).symm⟩
theorem cL_willArrive {N : Nat} {G F : GM} {n : Nat} (hN : 229 ≤ N) {s : Int → Int} (hok : mOk s) (hR : RX G 0 s) {t : Int → Int} (he : zEq s t) (htm : s 3 ≤ 9999) {v : Int} (ht0 : zr v) {w3 : Int32} {w4 : Int32} {w5 : Int32} {w6 : Int32} : zC N 334 [.ref 192, .int (zi 44), .int (zi v), .int w3, .int w4, .int w5, .int w6] G F n (zLc F n (q_willArrive s (sTicks t 300) v).1 (zN [3] ((q_willArrive s (sTicks t 300) v).1, gZ (q_willArrive s (sTicks t 300) v).2)) (xQf G)) := by
  refine zC_i (L0 := [.ref 192, .int (zi 44), .int (zi v), .int w3, .int w4, .int w5, .int w6, .null]) rfl ?_
  refine zs_iload (ip' := 1) rfl rfl rfl ?_
  refine zs_tsw (t := 256) rfl (by omega) (by decide) ?_
  refine zs_aload (ip' := 257) rfl rfl rfl ?_
  refine zs_iload (ip' := 258) rfl rfl rfl ?_
  refine zW_cN (g := gZ) (ip' := 259) rfl rfl (cQ_willArrive (by omega) hok hR he htm ht0) rfl rfl (z_ok3 (by omega) zsh_192 rfl rfl rfl) rfl rfl ?_
  intro G' hP9 h09
  refine zs_if_eq (t := 262) (ip' := 260) rfl rfl (zr_to _) ?_ ?_
  · intro h5
    refine zs_pushI (ip' := 263) rfl rfl zi_k0 ?_
    refine zW_0 rfl ?_
    exact ⟨by rw [zN_0 h09]; unfold gZ gB; rw [if_pos h5], hP9, rfl, (if_pos h09).symm⟩
  · intro h5
    refine zs_pushI (ip' := 261) rfl rfl zi_k1 ?_
    refine zs_goto (t := 263) rfl ?_
    refine zW_0 rfl ?_
    exact ⟨by rw [zN_0 h09]; unfold gZ gB; rw [if_neg h5], hP9, rfl, (if_pos h09).symm⟩
theorem cL_arrivedAfter {N : Nat} {G F : GM} {n : Nat} (hN : 229 ≤ N) {s : Int → Int} (hok : mOk s) (hR : RX G 0 s) {t : Int → Int} (he : zEq s t) (htm : s 3 ≤ 9999) {v : Int} (ht0 : zr v) {w3 : Int32} {w4 : Int32} {w5 : Int32} {w6 : Int32} : zC N 334 [.ref 192, .int (zi 45), .int (zi v), .int w3, .int w4, .int w5, .int w6] G F n (zLc F n (q_after t v 1).1 (zN [1] ((q_after t v 1).1, gI (q_after t v 1).2)) (xQf G)) := by
  refine zC_i (L0 := [.ref 192, .int (zi 45), .int (zi v), .int w3, .int w4, .int w5, .int w6, .null]) rfl ?_
  refine zs_iload (ip' := 1) rfl rfl rfl ?_
  refine zs_tsw (t := 264) rfl (by omega) (by decide) ?_
  refine zs_aload (ip' := 265) rfl rfl rfl ?_
  refine zs_iload (ip' := 266) rfl rfl rfl ?_
  refine zW_cN (g := gI) (ip' := 267) rfl rfl (cQ_arrivedAfter (by omega) hok hR he htm ht0) rfl rfl (z_ok3 (by omega) zsh_192 rfl rfl rfl) rfl rfl ?_
  intro G' hP9 h09
  refine zW_0 rfl ?_
  exact ⟨by rw [zN_0 h09]; rfl, hP9, rfl, (if_pos h09).symm⟩
theorem cL_sunkAfter {N : Nat} {G F : GM} {n : Nat} (hN : 229 ≤ N) {s : Int → Int} (hok : mOk s) (hR : RX G 0 s) {t : Int → Int} (he : zEq s t) (htm : s 3 ≤ 9999) {v : Int} (ht0 : zr v) {w3 : Int32} {w4 : Int32} {w5 : Int32} {w6 : Int32} : zC N 334 [.ref 192, .int (zi 46), .int (zi v), .int w3, .int w4, .int w5, .int w6] G F n (zLc F n (q_after t v 2).1 (zN [1] ((q_after t v 2).1, gI (q_after t v 2).2)) (xQf G)) := by
  refine zC_i (L0 := [.ref 192, .int (zi 46), .int (zi v), .int w3, .int w4, .int w5, .int w6, .null]) rfl ?_
  refine zs_iload (ip' := 1) rfl rfl rfl ?_
  refine zs_tsw (t := 268) rfl (by omega) (by decide) ?_
  refine zs_aload (ip' := 269) rfl rfl rfl ?_
  refine zs_iload (ip' := 270) rfl rfl rfl ?_
  refine zW_cN (g := gI) (ip' := 271) rfl rfl (cQ_sunkAfter (by omega) hok hR he htm ht0) rfl rfl (z_ok3 (by omega) zsh_192 rfl rfl rfl) rfl rfl ?_
  intro G' hP9 h09
  refine zW_0 rfl ?_
  exact ⟨by rw [zN_0 h09]; rfl, hP9, rfl, (if_pos h09).symm⟩
theorem cL_printedByte {N : Nat} {G F : GM} {n : Nat} (hN : 229 ≤ N) (h9 : 0 ≤ G 192 9 ∧ G 192 9 ≤ 156) {c : Int} (hc : zr c) {w3 : Int32} {w4 : Int32} {w5 : Int32} {w6 : Int32} : zC N 334 [.ref 192, .int (zi 47), .int (zi c), .int w3, .int w4, .int w5, .int w6] G F n (zLc F n (q_printedByte (G 228) (G 192 9) c).1 (zN [3] ((q_printedByte (G 228) (G 192 9) c).1, gI (q_printedByte (G 228) (G 192 9) c).2)) (xQf G)) := by
  refine zC_i (L0 := [.ref 192, .int (zi 47), .int (zi c), .int w3, .int w4, .int w5, .int w6, .null]) rfl ?_
  refine zs_iload (ip' := 1) rfl rfl rfl ?_
  refine zs_tsw (t := 272) rfl (by omega) (by decide) ?_
  refine zs_aload (ip' := 273) rfl rfl rfl ?_
  refine zs_iload (ip' := 274) rfl rfl rfl ?_
  refine zW_cN (g := gI) (ip' := 275) rfl rfl (cQ_printedByte (by omega) h9 hc) rfl rfl (z_ok3 (by omega) zsh_192 rfl rfl rfl) rfl rfl ?_
  intro G' hP9 h09
  refine zW_0 rfl ?_
  exact ⟨by rw [zN_0 h09]; rfl, hP9, rfl, (if_pos h09).symm⟩
/-- the short forms -/
theorem cL_s3 {N : Nat} {G F : GM} {n : Nat} {Q : Zq} {x a b : Int32} (h : zC N 334 [.ref 192, .int x, .int a, .int b, .int (zi 0), .int (zi 0), .int (zi 0)] G F n Q) (hQ : ∀ o G' F' n', Q o G' F' n' → ∃ v, o = .inl (some (.int v))) : zC N 335 [.ref 192, .int x, .int a, .int b] G F n Q := by
  refine zC_i (L0 := [.ref 192, .int x, .int a, .int b]) rfl ?_
  refine zs_aload (ip' := 1) rfl rfl rfl ?_
  refine zs_iload (ip' := 2) rfl rfl rfl ?_
  refine zs_iload (ip' := 3) rfl rfl rfl ?_
  refine zs_iload (ip' := 4) rfl rfl rfl ?_
  refine zs_pushI (ip' := 5) rfl rfl zi_k0 ?_
  refine zs_pushI (ip' := 6) rfl rfl zi_k0 ?_
  refine zs_pushI (ip' := 7) rfl rfl zi_k0 ?_
  refine zW_c (ip' := 8) rfl rfl h rfl rfl rfl ?_ ?_
  · intro v G' F' n' hq
    obtain ⟨w, hw⟩ := hQ _ _ _ _ hq
    cases hw
    rw [← zi_of w] at hq ⊢
    exact zW_0 rfl hq
  · intro e G' F' n' hq
    obtain ⟨w, hw⟩ := hQ _ _ _ _ hq
    cases hw
theorem cL_s2 {N : Nat} {G F : GM} {n : Nat} {Q : Zq} {x a : Int32} (h : zC N 334 [.ref 192, .int x, .int a, .int (zi 0), .int (zi 0), .int (zi 0), .int (zi 0)] G F n Q) (hQ : ∀ o G' F' n', Q o G' F' n' → ∃ v, o = .inl (some (.int v))) : zC N 336 [.ref 192, .int x, .int a] G F n Q := by
  refine zC_i (L0 := [.ref 192, .int x, .int a]) rfl ?_
  refine zs_aload (ip' := 1) rfl rfl rfl ?_
  refine zs_iload (ip' := 2) rfl rfl rfl ?_
  refine zs_iload (ip' := 3) rfl rfl rfl ?_
  refine zs_pushI (ip' := 4) rfl rfl zi_k0 ?_
  refine zs_pushI (ip' := 5) rfl rfl zi_k0 ?_
  refine zs_pushI (ip' := 6) rfl rfl zi_k0 ?_
  refine zs_pushI (ip' := 7) rfl rfl zi_k0 ?_
  refine zW_c (ip' := 8) rfl rfl h rfl rfl rfl ?_ ?_
  · intro v G' F' n' hq
    obtain ⟨w, hw⟩ := hQ _ _ _ _ hq
    cases hw
    rw [← zi_of w] at hq ⊢
    exact zW_0 rfl hq
  · intro e G' F' n' hq
    obtain ⟨w, hw⟩ := hQ _ _ _ _ hq
    cases hw
