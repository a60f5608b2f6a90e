/-! The law's travellers(x): its pieces. -/
/-! an array of numbers in a made cell -/
def wAr (i n : Nat) (D : Int → Int) (Y : DY) : Prop := i < Y.2.2 ∧ Y.2.1 i = (1, n, []) ∧ ∀ k : Int, 0 ≤ k → k < n → Y.1 i k = D k
theorem wAr_new {Y : DY} {n : Nat} : wAr Y.2.2 n (fun _ => 0) (w_add Y (1, n, []) (fun _ => 0)) := ⟨Nat.lt_succ_self _, if_pos rfl, fun k _ _ => by rw [w_add_En]⟩
theorem wAr_set {Y : DY} {i n : Nat} {D : Int → Int} {k v : Int} (h : wAr i n D Y) : wAr i n (zp D k v) (w_row Y i (zp (Y.1 i) k v)) := by
  obtain ⟨h1, h2, h3⟩ := h
  refine ⟨h1, h2, fun k2 k0 k1 => ?_⟩
  show zk Y.1 i (zp (Y.1 i) k v) i k2 = _
  rw [zk_eq]
  by_cases e2 : k2 = k
  · rw [e2, zp_eq, zp_eq]
  · rw [zp_ne e2, zp_ne e2]
    exact h3 k2 k0 k1
section CAR
variable {u : WU} {y : Nat} {b : WB} {pc pc' : Nat} {L st : List Value} {G F : GM} {Y : DY} {c d : Nat} {Q : WQ} {i n : Nat} {D : Int → Int}
theorem wi_arget {j : Int} (hd : decode (zbc y) pc = .ok (.iaload, 1)) (hp : pc + 1 = pc') (h : wAr i n D Y) (hj : 0 ≤ j ∧ j < n) (hn : n ≤ 100000) (k : wW u y b pc' L (.int (zi (D j)) :: st) G F Y c d Q) : wW u y b pc L (.int (zi j) :: .ref (1000 + i) :: st) G F Y c d Q := by
  refine wi_iald hd hp rfl h.1 h.2.1 ⟨hj.1, hj.2, by omega⟩ ?_
  rw [h.2.2 j hj.1 hj.2]
  exact k
theorem wi_arset {j v : Int} (hd : decode (zbc y) pc = .ok (.iastore, 1)) (hp : pc + 1 = pc') (h : wAr i n D Y) (hj : 0 ≤ j ∧ j < n) (hn : n ≤ 100000) (hv : zr v) (k : ∀ Y', wAr i n (zp D j v) Y' → wW u y b pc' L st G F Y' c d Q) : wW u y b pc L (.int (zi v) :: .int (zi j) :: .ref (1000 + i) :: st) G F Y c d Q :=
  wi_iast hd hp rfl h.1 h.2.1 ⟨hj.1, hj.2, by omega⟩ hv (k _ (wAr_set h))
end CAR
/-! the share and the mean are equal to themselves -/
theorem icmp_self (x : Int) : compare x x = Ordering.eq := by
  show compareOfLessAndEq x x = _
  unfold compareOfLessAndEq
  rw [if_neg (Int.lt_irrefl x), if_pos rfl]
theorem fsh_self : ∀ c, c < 7 → ∀ k, k < 7 → k ≠ 0 → Op.cmpValue (FP.fcmp (FP.fdiv (FP.i2f (zi ((c : Nat) : Int))) (FP.i2f (zi ((k : Nat) : Int)))) (FP.fdiv (FP.i2f (zi ((c : Nat) : Int))) (FP.i2f (zi ((k : Nat) : Int))))) .l = zi 0 := by decide +kernel
theorem dcmp_self {a : UInt64} (h : a.toNat % 9223372036854775808 ≤ 9218868437227405312) : Op.cmpValue (FP.dcmp a a) .l = zi 0 := by
  have e : FP.dcmp a a = some .eq := by
    show FP.Core.order (FP.Core.decode FP.Core.b64 a.toNat) (FP.Core.decode FP.Core.b64 a.toNat) = _
    rcases zq_dec h with ⟨s, e⟩ | ⟨s, c, q, e⟩
    · rw [e]
      exact congrArg some (icmp_self _)
    · rw [e]
      exact congrArg some (icmp_self _)
  rw [e]
  rfl
theorem dsh_rng (a : Int32) {k : Nat} (h : k < 7) (h0 : k ≠ 0) : (FP.ddiv (FP.i2d a) (FP.i2d (zi ((k : Nat) : Int)))).toNat % 9223372036854775808 ≤ 9218868437227405312 := by
  have := zq_quo (zq_i2d a) (zq_y k h h0)
  show (UInt64.ofNat (FP.Core.encode FP.Core.b64 (FP.Core.quotient FP.Core.b64 (FP.Core.decode FP.Core.b64 (FP.i2d a).toNat) (FP.Core.decode FP.Core.b64 (FP.i2d (zi ((k : Nat) : Int))).toNat)))).toNat % 9223372036854775808 ≤ 9218868437227405312
  rw [UInt64.toNat_ofNat']
  omega
theorem zap_abs {a b : Int} : (if 0 ≤ b - a then b - a else -(b - a)) = zap a b := by
  unfold zap
  split <;> split <;> omega
/-- whether a false light stands where the traveller is -/
def flS (s : Int → Int) (t : Int) : Nat → Int
  | 0 => 0
  | k + 1 => if sFarL s t (k : Int) = 0 ∧ s (174 + 5 * (k : Int) + 3) = 0 then 1 else flS s t k
theorem flS_on {s : Int → Int} {t l : Int} (l0 : 0 ≤ l) (h1 : sOn s t l) (h2 : s (174 + 5 * l + 3) = 0) : ∀ k : Nat, l < (k : Int) → flS s t k = 1 := by
  intro k
  induction k with
  | zero => intro h; omega
  | succ k ih =>
    intro h
    unfold flS
    by_cases e : l = (k : Int)
    · rw [← e]
      refine if_pos ⟨?_, h2⟩
      unfold sFarL sFar zap
      rw [h1.1, h1.2, if_neg (Int.lt_irrefl _), if_neg (Int.lt_irrefl _)]
      omega
    · rw [ih (by omega)]
      split <;> rfl
section CTV
variable {s : Int → Int} {t l x y : Int}
theorem vL_near (hok : mOk s) (ht : 0 ≤ t ∧ t < s 5) : zN [3, 2] ((q_nearestLight s t).1, gI (q_nearestLight s t).2) = if sNear s t (s 4).toNat < 0 then -101 else sNear s t (s 4).toNat := by
  have hr := sNear_rng s t (s 4).toNat
  by_cases h : sNear s t (s 4).toNat < 0
  · rw [if_pos h]
    exact zN_x (c := 1) (k := 2) (by rw [show q_nearestLight s t = (2, 0) from (if_pos ⟨by omega, by omega⟩).trans (if_pos h)]; rfl) rfl
  · rw [if_neg h]
    have a4 := hok.2.2.2.2.1
    exact (zN_v ((if_pos ⟨by omega, by omega⟩).trans (if_neg h)) ⟨by omega, by omega⟩).2
theorem vL_walkerOut {f : Int} (h : ¬ (0 ≤ t ∧ t ≤ s 5 - 1)) : zN [3] ((q_walker s t f).1, gI (q_walker s t f).2) = -104 := zN_x (c := 0) (k := 3) (by rw [show q_walker s t f = (1, 0) from if_neg h]; rfl) rfl
theorem vL_nearOut (h : ¬ (0 ≤ t ∧ t ≤ s 5 - 1)) : zN [3, 2] ((q_nearestLight s t).1, gI (q_nearestLight s t).2) = -104 := zN_x (c := 0) (k := 3) (by rw [show q_nearestLight s t = (1, 0) from if_neg h]; rfl) rfl
theorem vL_passedOut (h : ¬ (0 ≤ l ∧ l ≤ s 4 - 1)) : zN [3] ((q_hasPassed s t l).1, gZ (q_hasPassed s t l).2) = -104 := zN_x (c := 0) (k := 3) (by rw [show q_hasPassed s t l = (1, 0) from if_neg (fun q => h q.2)]; rfl) rfl
theorem vL_untilSt (ht : 0 ≤ t ∧ t < s 5) (h : s (214 + 7 * t + 2) ≠ 0) : zN [3, 0, 2] ((q_until s s t).1, gI (q_until s s t).2) = -102 := zN_x (c := 1) (k := 0) (by rw [show q_until s s t = (2, 0) from (if_pos ⟨by omega, by omega⟩).trans (if_pos h)]; rfl) rfl
theorem vL_will (hok : mOk s) (h3 : s 3 ≤ 9999) (ht : 0 ≤ t ∧ t < s 5) (h : s (214 + 7 * t + 2) ≠ 0) : (q_willArrive s (sTicks s 300) t).1 = 0 ∧ zN [3] ((q_willArrive s (sTicks s 300) t).1, gZ (q_willArrive s (sTicks s 300) t).2) = zb (s (214 + 7 * t + 2) = 1) := by
  have e := sTicks_2 hok ht.1 (n := 0) h 300 (by omega)
  rw [Nat.zero_add] at e
  refine zN_b ((if_pos ⟨by omega, by omega⟩).trans ?_)
  rw [e]
  rfl
end CTV
section CLO
variable {u : WU} {y : Nat} {b : WB} {pc pc' : Nat} {L st : List Value} {G F : GM} {Y : DY} {c d : Nat} {Q : WQ}
theorem wi_istore15 {x0 x1 x2 x3 x4 x5 x6 x7 x8 x9 x10 x11 x12 x13 x14 x15 : Value} {v : Int32} (hd : decode (zbc y) pc = .ok (.istore 15, 2)) (hp : pc + 2 = pc') (hn : Nat.ble 16 (znl y) = true) (hc : 15 = 0 ∨ zc2 y (15 - 1) = false) (k : wW u y b pc' (x0 :: x1 :: x2 :: x3 :: x4 :: x5 :: x6 :: x7 :: x8 :: x9 :: x10 :: x11 :: x12 :: x13 :: x14 :: .int v :: L) st G F Y c d Q) : wW u y b pc (x0 :: x1 :: x2 :: x3 :: x4 :: x5 :: x6 :: x7 :: x8 :: x9 :: x10 :: x11 :: x12 :: x13 :: x14 :: x15 :: L) (.int v :: st) G F Y c d Q := by
  subst hp
  refine ws_st (fun n h1 h2 => ⟨w_vs_s (i := 15) (w_vs_h h2) h1, w_vs_t h2⟩) (fun p l e R s m args below meth c0 a0 A D cA Qm ad H locs sl cells slots hC hA hL kk => ?_) k
  obtain ⟨hx, hb, hml, hown, hts, hr, hlk, hnm, hfr, hlo, hce, hse, hK, hZ, hAn, hst⟩ := hC
  exact lv_istore hx hb hd hL.1 (Nat.le_of_ble_eq_true hn) rfl (fun sl' hl' => kk sl' (z_has_set (i := 15) hL.2 rfl rfl (wc_2 hc) hl'))
theorem wi_astore15 {x0 x1 x2 x3 x4 x5 x6 x7 x8 x9 x10 x11 x12 x13 x14 x15 : Value} {v : Nat} (hd : decode (zbc y) pc = .ok (.astore 15, 2)) (hp : pc + 2 = pc') (hn : Nat.ble 16 (znl y) = true) (hc : 15 = 0 ∨ zc2 y (15 - 1) = false) (k : wW u y b pc' (x0 :: x1 :: x2 :: x3 :: x4 :: x5 :: x6 :: x7 :: x8 :: x9 :: x10 :: x11 :: x12 :: x13 :: x14 :: .ref v :: L) st G F Y c d Q) : wW u y b pc (x0 :: x1 :: x2 :: x3 :: x4 :: x5 :: x6 :: x7 :: x8 :: x9 :: x10 :: x11 :: x12 :: x13 :: x14 :: x15 :: L) (.ref v :: st) G F Y c d Q := by
  subst hp
  refine ws_st (fun n h1 h2 => ⟨w_vs_s (i := 15) (w_vs_h h2) h1, w_vs_t h2⟩) (fun p l e R s m args below meth c0 a0 A D cA Qm ad H locs sl cells slots hC hA hL kk => ?_) k
  obtain ⟨hx, hb, hml, hown, hts, hr, hlk, hnm, hfr, hlo, hce, hse, hK, hZ, hAn, hst⟩ := hC
  exact lv_astore hx hb hd hL.1 (Nat.le_of_ble_eq_true hn) rfl (fun sl' hl' => kk sl' (z_has_set (i := 15) hL.2 rfl rfl (wc_2 hc) hl'))
theorem wi_iinc15 {x0 x1 x2 x3 x4 x5 x6 x7 x8 x9 x10 x11 x12 x13 x14 : Value} {v z : Int} (hd : decode (zbc y) pc = .ok (.iinc 15 z, 3)) (hp : pc + 3 = pc') (hn : Nat.ble 16 (znl y) = true) (hc : 15 = 0 ∨ zc2 y (15 - 1) = false) (k : wW u y b pc' (x0 :: x1 :: x2 :: x3 :: x4 :: x5 :: x6 :: x7 :: x8 :: x9 :: x10 :: x11 :: x12 :: x13 :: x14 :: .int (zi (v + z)) :: L) st G F Y c d Q) : wW u y b pc (x0 :: x1 :: x2 :: x3 :: x4 :: x5 :: x6 :: x7 :: x8 :: x9 :: x10 :: x11 :: x12 :: x13 :: x14 :: .int (zi v) :: L) st G F Y c d Q := by
  subst hp
  refine ws_st (fun n h1 h2 => ⟨w_vs_s (i := 15) (w_v_i n _) h1, h2⟩) (fun p l e R s m args below meth c0 a0 A D cA Qm ad H locs sl cells slots hC hA hL kk => ?_) k
  obtain ⟨hx, hb, hml, hown, hts, hr, hlk, hnm, hfr, hlo, hce, hse, hK, hZ, hAn, hst⟩ := hC
  have hm : (15, Value.int (zi v)) ∈ z_prs ad 0 (x0 :: x1 :: x2 :: x3 :: x4 :: x5 :: x6 :: x7 :: x8 :: x9 :: x10 :: x11 :: x12 :: x13 :: x14 :: .int (zi v) :: L) := (z_prs_mem ad _ 0 _).mpr ⟨15, .int (zi v), rfl, (by intro e; cases e), rfl⟩
  obtain ⟨q, hq⟩ := List.mem_iff_getElem?.mp hm
  rw [zi_add] at kk
  exact lv_iinc hx hb hd hL.1 hq rfl (Nat.le_of_ble_eq_true hn) rfl (fun sl' hl' => kk sl' (z_has_set (i := 15) hL.2 rfl rfl (wc_2 hc) hl'))
theorem wi_istore16 {x0 x1 x2 x3 x4 x5 x6 x7 x8 x9 x10 x11 x12 x13 x14 x15 x16 : Value} {v : Int32} (hd : decode (zbc y) pc = .ok (.istore 16, 2)) (hp : pc + 2 = pc') (hn : Nat.ble 17 (znl y) = true) (hc : 16 = 0 ∨ zc2 y (16 - 1) = false) (k : wW u y b pc' (x0 :: x1 :: x2 :: x3 :: x4 :: x5 :: x6 :: x7 :: x8 :: x9 :: x10 :: x11 :: x12 :: x13 :: x14 :: x15 :: .int v :: L) st G F Y c d Q) : wW u y b pc (x0 :: x1 :: x2 :: x3 :: x4 :: x5 :: x6 :: x7 :: x8 :: x9 :: x10 :: x11 :: x12 :: x13 :: x14 :: x15 :: x16 :: L) (.int v :: st) G F Y c d Q := by
  subst hp
  refine ws_st (fun n h1 h2 => ⟨w_vs_s (i := 16) (w_vs_h h2) h1, w_vs_t h2⟩) (fun p l e R s m args below meth c0 a0 A D cA Qm ad H locs sl cells slots hC hA hL kk => ?_) k
  obtain ⟨hx, hb, hml, hown, hts, hr, hlk, hnm, hfr, hlo, hce, hse, hK, hZ, hAn, hst⟩ := hC
  exact lv_istore hx hb hd hL.1 (Nat.le_of_ble_eq_true hn) rfl (fun sl' hl' => kk sl' (z_has_set (i := 16) hL.2 rfl rfl (wc_2 hc) hl'))
theorem wi_astore16 {x0 x1 x2 x3 x4 x5 x6 x7 x8 x9 x10 x11 x12 x13 x14 x15 x16 : Value} {v : Nat} (hd : decode (zbc y) pc = .ok (.astore 16, 2)) (hp : pc + 2 = pc') (hn : Nat.ble 17 (znl y) = true) (hc : 16 = 0 ∨ zc2 y (16 - 1) = false) (k : wW u y b pc' (x0 :: x1 :: x2 :: x3 :: x4 :: x5 :: x6 :: x7 :: x8 :: x9 :: x10 :: x11 :: x12 :: x13 :: x14 :: x15 :: .ref v :: L) st G F Y c d Q) : wW u y b pc (x0 :: x1 :: x2 :: x3 :: x4 :: x5 :: x6 :: x7 :: x8 :: x9 :: x10 :: x11 :: x12 :: x13 :: x14 :: x15 :: x16 :: L) (.ref v :: st) G F Y c d Q := by
  subst hp
  refine ws_st (fun n h1 h2 => ⟨w_vs_s (i := 16) (w_vs_h h2) h1, w_vs_t h2⟩) (fun p l e R s m args below meth c0 a0 A D cA Qm ad H locs sl cells slots hC hA hL kk => ?_) k
  obtain ⟨hx, hb, hml, hown, hts, hr, hlk, hnm, hfr, hlo, hce, hse, hK, hZ, hAn, hst⟩ := hC
  exact lv_astore hx hb hd hL.1 (Nat.le_of_ble_eq_true hn) rfl (fun sl' hl' => kk sl' (z_has_set (i := 16) hL.2 rfl rfl (wc_2 hc) hl'))
theorem wi_iinc16 {x0 x1 x2 x3 x4 x5 x6 x7 x8 x9 x10 x11 x12 x13 x14 x15 : Value} {v z : Int} (hd : decode (zbc y) pc = .ok (.iinc 16 z, 3)) (hp : pc + 3 = pc') (hn : Nat.ble 17 (znl y) = true) (hc : 16 = 0 ∨ zc2 y (16 - 1) = false) (k : wW u y b pc' (x0 :: x1 :: x2 :: x3 :: x4 :: x5 :: x6 :: x7 :: x8 :: x9 :: x10 :: x11 :: x12 :: x13 :: x14 :: x15 :: .int (zi (v + z)) :: L) st G F Y c d Q) : wW u y b pc (x0 :: x1 :: x2 :: x3 :: x4 :: x5 :: x6 :: x7 :: x8 :: x9 :: x10 :: x11 :: x12 :: x13 :: x14 :: x15 :: .int (zi v) :: L) st G F Y c d Q := by
  subst hp
  refine ws_st (fun n h1 h2 => ⟨w_vs_s (i := 16) (w_v_i n _) h1, h2⟩) (fun p l e R s m args below meth c0 a0 A D cA Qm ad H locs sl cells slots hC hA hL kk => ?_) k
  obtain ⟨hx, hb, hml, hown, hts, hr, hlk, hnm, hfr, hlo, hce, hse, hK, hZ, hAn, hst⟩ := hC
  have hm : (16, Value.int (zi v)) ∈ z_prs ad 0 (x0 :: x1 :: x2 :: x3 :: x4 :: x5 :: x6 :: x7 :: x8 :: x9 :: x10 :: x11 :: x12 :: x13 :: x14 :: x15 :: .int (zi v) :: L) := (z_prs_mem ad _ 0 _).mpr ⟨16, .int (zi v), rfl, (by intro e; cases e), rfl⟩
  obtain ⟨q, hq⟩ := List.mem_iff_getElem?.mp hm
  rw [zi_add] at kk
  exact lv_iinc hx hb hd hL.1 hq rfl (Nat.le_of_ble_eq_true hn) rfl (fun sl' hl' => kk sl' (z_has_set (i := 16) hL.2 rfl rfl (wc_2 hc) hl'))
theorem wi_istore17 {x0 x1 x2 x3 x4 x5 x6 x7 x8 x9 x10 x11 x12 x13 x14 x15 x16 x17 : Value} {v : Int32} (hd : decode (zbc y) pc = .ok (.istore 17, 2)) (hp : pc + 2 = pc') (hn : Nat.ble 18 (znl y) = true) (hc : 17 = 0 ∨ zc2 y (17 - 1) = false) (k : wW u y b pc' (x0 :: x1 :: x2 :: x3 :: x4 :: x5 :: x6 :: x7 :: x8 :: x9 :: x10 :: x11 :: x12 :: x13 :: x14 :: x15 :: x16 :: .int v :: L) st G F Y c d Q) : wW u y b pc (x0 :: x1 :: x2 :: x3 :: x4 :: x5 :: x6 :: x7 :: x8 :: x9 :: x10 :: x11 :: x12 :: x13 :: x14 :: x15 :: x16 :: x17 :: L) (.int v :: st) G F Y c d Q := by
  subst hp
  refine ws_st (fun n h1 h2 => ⟨w_vs_s (i := 17) (w_vs_h h2) h1, w_vs_t h2⟩) (fun p l e R s m args below meth c0 a0 A D cA Qm ad H locs sl cells slots hC hA hL kk => ?_) k
  obtain ⟨hx, hb, hml, hown, hts, hr, hlk, hnm, hfr, hlo, hce, hse, hK, hZ, hAn, hst⟩ := hC
  exact lv_istore hx hb hd hL.1 (Nat.le_of_ble_eq_true hn) rfl (fun sl' hl' => kk sl' (z_has_set (i := 17) hL.2 rfl rfl (wc_2 hc) hl'))
theorem wi_astore17 {x0 x1 x2 x3 x4 x5 x6 x7 x8 x9 x10 x11 x12 x13 x14 x15 x16 x17 : Value} {v : Nat} (hd : decode (zbc y) pc = .ok (.astore 17, 2)) (hp : pc + 2 = pc') (hn : Nat.ble 18 (znl y) = true) (hc : 17 = 0 ∨ zc2 y (17 - 1) = false) (k : wW u y b pc' (x0 :: x1 :: x2 :: x3 :: x4 :: x5 :: x6 :: x7 :: x8 :: x9 :: x10 :: x11 :: x12 :: x13 :: x14 :: x15 :: x16 :: .ref v :: L) st G F Y c d Q) : wW u y b pc (x0 :: x1 :: x2 :: x3 :: x4 :: x5 :: x6 :: x7 :: x8 :: x9 :: x10 :: x11 :: x12 :: x13 :: x14 :: x15 :: x16 :: x17 :: L) (.ref v :: st) G F Y c d Q := by
  subst hp
  refine ws_st (fun n h1 h2 => ⟨w_vs_s (i := 17) (w_vs_h h2) h1, w_vs_t h2⟩) (fun p l e R s m args below meth c0 a0 A D cA Qm ad H locs sl cells slots hC hA hL kk => ?_) k
  obtain ⟨hx, hb, hml, hown, hts, hr, hlk, hnm, hfr, hlo, hce, hse, hK, hZ, hAn, hst⟩ := hC
  exact lv_astore hx hb hd hL.1 (Nat.le_of_ble_eq_true hn) rfl (fun sl' hl' => kk sl' (z_has_set (i := 17) hL.2 rfl rfl (wc_2 hc) hl'))
theorem wi_iinc17 {x0 x1 x2 x3 x4 x5 x6 x7 x8 x9 x10 x11 x12 x13 x14 x15 x16 : Value} {v z : Int} (hd : decode (zbc y) pc = .ok (.iinc 17 z, 3)) (hp : pc + 3 = pc') (hn : Nat.ble 18 (znl y) = true) (hc : 17 = 0 ∨ zc2 y (17 - 1) = false) (k : wW u y b pc' (x0 :: x1 :: x2 :: x3 :: x4 :: x5 :: x6 :: x7 :: x8 :: x9 :: x10 :: x11 :: x12 :: x13 :: x14 :: x15 :: x16 :: .int (zi (v + z)) :: L) st G F Y c d Q) : wW u y b pc (x0 :: x1 :: x2 :: x3 :: x4 :: x5 :: x6 :: x7 :: x8 :: x9 :: x10 :: x11 :: x12 :: x13 :: x14 :: x15 :: x16 :: .int (zi v) :: L) st G F Y c d Q := by
  subst hp
  refine ws_st (fun n h1 h2 => ⟨w_vs_s (i := 17) (w_v_i n _) h1, h2⟩) (fun p l e R s m args below meth c0 a0 A D cA Qm ad H locs sl cells slots hC hA hL kk => ?_) k
  obtain ⟨hx, hb, hml, hown, hts, hr, hlk, hnm, hfr, hlo, hce, hse, hK, hZ, hAn, hst⟩ := hC
  have hm : (17, Value.int (zi v)) ∈ z_prs ad 0 (x0 :: x1 :: x2 :: x3 :: x4 :: x5 :: x6 :: x7 :: x8 :: x9 :: x10 :: x11 :: x12 :: x13 :: x14 :: x15 :: x16 :: .int (zi v) :: L) := (z_prs_mem ad _ 0 _).mpr ⟨17, .int (zi v), rfl, (by intro e; cases e), rfl⟩
  obtain ⟨q, hq⟩ := List.mem_iff_getElem?.mp hm
  rw [zi_add] at kk
  exact lv_iinc hx hb hd hL.1 hq rfl (Nat.le_of_ble_eq_true hn) rfl (fun sl' hl' => kk sl' (z_has_set (i := 17) hL.2 rfl rfl (wc_2 hc) hl'))
theorem wi_istore18 {x0 x1 x2 x3 x4 x5 x6 x7 x8 x9 x10 x11 x12 x13 x14 x15 x16 x17 x18 : Value} {v : Int32} (hd : decode (zbc y) pc = .ok (.istore 18, 2)) (hp : pc + 2 = pc') (hn : Nat.ble 19 (znl y) = true) (hc : 18 = 0 ∨ zc2 y (18 - 1) = false) (k : wW u y b pc' (x0 :: x1 :: x2 :: x3 :: x4 :: x5 :: x6 :: x7 :: x8 :: x9 :: x10 :: x11 :: x12 :: x13 :: x14 :: x15 :: x16 :: x17 :: .int v :: L) st G F Y c d Q) : wW u y b pc (x0 :: x1 :: x2 :: x3 :: x4 :: x5 :: x6 :: x7 :: x8 :: x9 :: x10 :: x11 :: x12 :: x13 :: x14 :: x15 :: x16 :: x17 :: x18 :: L) (.int v :: st) G F Y c d Q := by
  subst hp
  refine ws_st (fun n h1 h2 => ⟨w_vs_s (i := 18) (w_vs_h h2) h1, w_vs_t h2⟩) (fun p l e R s m args below meth c0 a0 A D cA Qm ad H locs sl cells slots hC hA hL kk => ?_) k
  obtain ⟨hx, hb, hml, hown, hts, hr, hlk, hnm, hfr, hlo, hce, hse, hK, hZ, hAn, hst⟩ := hC
  exact lv_istore hx hb hd hL.1 (Nat.le_of_ble_eq_true hn) rfl (fun sl' hl' => kk sl' (z_has_set (i := 18) hL.2 rfl rfl (wc_2 hc) hl'))
theorem wi_astore18 {x0 x1 x2 x3 x4 x5 x6 x7 x8 x9 x10 x11 x12 x13 x14 x15 x16 x17 x18 : Value} {v : Nat} (hd : decode (zbc y) pc = .ok (.astore 18, 2)) (hp : pc + 2 = pc') (hn : Nat.ble 19 (znl y) = true) (hc : 18 = 0 ∨ zc2 y (18 - 1) = false) (k : wW u y b pc' (x0 :: x1 :: x2 :: x3 :: x4 :: x5 :: x6 :: x7 :: x8 :: x9 :: x10 :: x11 :: x12 :: x13 :: x14 :: x15 :: x16 :: x17 :: .ref v :: L) st G F Y c d Q) : wW u y b pc (x0 :: x1 :: x2 :: x3 :: x4 :: x5 :: x6 :: x7 :: x8 :: x9 :: x10 :: x11 :: x12 :: x13 :: x14 :: x15 :: x16 :: x17 :: x18 :: L) (.ref v :: st) G F Y c d Q := by
  subst hp
  refine ws_st (fun n h1 h2 => ⟨w_vs_s (i := 18) (w_vs_h h2) h1, w_vs_t h2⟩) (fun p l e R s m args below meth c0 a0 A D cA Qm ad H locs sl cells slots hC hA hL kk => ?_) k
  obtain ⟨hx, hb, hml, hown, hts, hr, hlk, hnm, hfr, hlo, hce, hse, hK, hZ, hAn, hst⟩ := hC
  exact lv_astore hx hb hd hL.1 (Nat.le_of_ble_eq_true hn) rfl (fun sl' hl' => kk sl' (z_has_set (i := 18) hL.2 rfl rfl (wc_2 hc) hl'))
theorem wi_iinc18 {x0 x1 x2 x3 x4 x5 x6 x7 x8 x9 x10 x11 x12 x13 x14 x15 x16 x17 : Value} {v z : Int} (hd : decode (zbc y) pc = .ok (.iinc 18 z, 3)) (hp : pc + 3 = pc') (hn : Nat.ble 19 (znl y) = true) (hc : 18 = 0 ∨ zc2 y (18 - 1) = false) (k : wW u y b pc' (x0 :: x1 :: x2 :: x3 :: x4 :: x5 :: x6 :: x7 :: x8 :: x9 :: x10 :: x11 :: x12 :: x13 :: x14 :: x15 :: x16 :: x17 :: .int (zi (v + z)) :: L) st G F Y c d Q) : wW u y b pc (x0 :: x1 :: x2 :: x3 :: x4 :: x5 :: x6 :: x7 :: x8 :: x9 :: x10 :: x11 :: x12 :: x13 :: x14 :: x15 :: x16 :: x17 :: .int (zi v) :: L) st G F Y c d Q := by
  subst hp
  refine ws_st (fun n h1 h2 => ⟨w_vs_s (i := 18) (w_v_i n _) h1, h2⟩) (fun p l e R s m args below meth c0 a0 A D cA Qm ad H locs sl cells slots hC hA hL kk => ?_) k
  obtain ⟨hx, hb, hml, hown, hts, hr, hlk, hnm, hfr, hlo, hce, hse, hK, hZ, hAn, hst⟩ := hC
  have hm : (18, Value.int (zi v)) ∈ z_prs ad 0 (x0 :: x1 :: x2 :: x3 :: x4 :: x5 :: x6 :: x7 :: x8 :: x9 :: x10 :: x11 :: x12 :: x13 :: x14 :: x15 :: x16 :: x17 :: .int (zi v) :: L) := (z_prs_mem ad _ 0 _).mpr ⟨18, .int (zi v), rfl, (by intro e; cases e), rfl⟩
  obtain ⟨q, hq⟩ := List.mem_iff_getElem?.mp hm
  rw [zi_add] at kk
  exact lv_iinc hx hb hd hL.1 hq rfl (Nat.le_of_ble_eq_true hn) rfl (fun sl' hl' => kk sl' (z_has_set (i := 18) hL.2 rfl rfl (wc_2 hc) hl'))
theorem wi_istore19 {x0 x1 x2 x3 x4 x5 x6 x7 x8 x9 x10 x11 x12 x13 x14 x15 x16 x17 x18 x19 : Value} {v : Int32} (hd : decode (zbc y) pc = .ok (.istore 19, 2)) (hp : pc + 2 = pc') (hn : Nat.ble 20 (znl y) = true) (hc : 19 = 0 ∨ zc2 y (19 - 1) = false) (k : wW u y b pc' (x0 :: x1 :: x2 :: x3 :: x4 :: x5 :: x6 :: x7 :: x8 :: x9 :: x10 :: x11 :: x12 :: x13 :: x14 :: x15 :: x16 :: x17 :: x18 :: .int v :: L) st G F Y c d Q) : wW u y b pc (x0 :: x1 :: x2 :: x3 :: x4 :: x5 :: x6 :: x7 :: x8 :: x9 :: x10 :: x11 :: x12 :: x13 :: x14 :: x15 :: x16 :: x17 :: x18 :: x19 :: L) (.int v :: st) G F Y c d Q := by
  subst hp
  refine ws_st (fun n h1 h2 => ⟨w_vs_s (i := 19) (w_vs_h h2) h1, w_vs_t h2⟩) (fun p l e R s m args below meth c0 a0 A D cA Qm ad H locs sl cells slots hC hA hL kk => ?_) k
  obtain ⟨hx, hb, hml, hown, hts, hr, hlk, hnm, hfr, hlo, hce, hse, hK, hZ, hAn, hst⟩ := hC
  exact lv_istore hx hb hd hL.1 (Nat.le_of_ble_eq_true hn) rfl (fun sl' hl' => kk sl' (z_has_set (i := 19) hL.2 rfl rfl (wc_2 hc) hl'))
theorem wi_astore19 {x0 x1 x2 x3 x4 x5 x6 x7 x8 x9 x10 x11 x12 x13 x14 x15 x16 x17 x18 x19 : Value} {v : Nat} (hd : decode (zbc y) pc = .ok (.astore 19, 2)) (hp : pc + 2 = pc') (hn : Nat.ble 20 (znl y) = true) (hc : 19 = 0 ∨ zc2 y (19 - 1) = false) (k : wW u y b pc' (x0 :: x1 :: x2 :: x3 :: x4 :: x5 :: x6 :: x7 :: x8 :: x9 :: x10 :: x11 :: x12 :: x13 :: x14 :: x15 :: x16 :: x17 :: x18 :: .ref v :: L) st G F Y c d Q) : wW u y b pc (x0 :: x1 :: x2 :: x3 :: x4 :: x5 :: x6 :: x7 :: x8 :: x9 :: x10 :: x11 :: x12 :: x13 :: x14 :: x15 :: x16 :: x17 :: x18 :: x19 :: L) (.ref v :: st) G F Y c d Q := by
  subst hp
  refine ws_st (fun n h1 h2 => ⟨w_vs_s (i := 19) (w_vs_h h2) h1, w_vs_t h2⟩) (fun p l e R s m args below meth c0 a0 A D cA Qm ad H locs sl cells slots hC hA hL kk => ?_) k
  obtain ⟨hx, hb, hml, hown, hts, hr, hlk, hnm, hfr, hlo, hce, hse, hK, hZ, hAn, hst⟩ := hC
  exact lv_astore hx hb hd hL.1 (Nat.le_of_ble_eq_true hn) rfl (fun sl' hl' => kk sl' (z_has_set (i := 19) hL.2 rfl rfl (wc_2 hc) hl'))
theorem wi_iinc19 {x0 x1 x2 x3 x4 x5 x6 x7 x8 x9 x10 x11 x12 x13 x14 x15 x16 x17 x18 : Value} {v z : Int} (hd : decode (zbc y) pc = .ok (.iinc 19 z, 3)) (hp : pc + 3 = pc') (hn : Nat.ble 20 (znl y) = true) (hc : 19 = 0 ∨ zc2 y (19 - 1) = false) (k : wW u y b pc' (x0 :: x1 :: x2 :: x3 :: x4 :: x5 :: x6 :: x7 :: x8 :: x9 :: x10 :: x11 :: x12 :: x13 :: x14 :: x15 :: x16 :: x17 :: x18 :: .int (zi (v + z)) :: L) st G F Y c d Q) : wW u y b pc (x0 :: x1 :: x2 :: x3 :: x4 :: x5 :: x6 :: x7 :: x8 :: x9 :: x10 :: x11 :: x12 :: x13 :: x14 :: x15 :: x16 :: x17 :: x18 :: .int (zi v) :: L) st G F Y c d Q := by
  subst hp
  refine ws_st (fun n h1 h2 => ⟨w_vs_s (i := 19) (w_v_i n _) h1, h2⟩) (fun p l e R s m args below meth c0 a0 A D cA Qm ad H locs sl cells slots hC hA hL kk => ?_) k
  obtain ⟨hx, hb, hml, hown, hts, hr, hlk, hnm, hfr, hlo, hce, hse, hK, hZ, hAn, hst⟩ := hC
  have hm : (19, Value.int (zi v)) ∈ z_prs ad 0 (x0 :: x1 :: x2 :: x3 :: x4 :: x5 :: x6 :: x7 :: x8 :: x9 :: x10 :: x11 :: x12 :: x13 :: x14 :: x15 :: x16 :: x17 :: x18 :: .int (zi v) :: L) := (z_prs_mem ad _ 0 _).mpr ⟨19, .int (zi v), rfl, (by intro e; cases e), rfl⟩
  obtain ⟨q, hq⟩ := List.mem_iff_getElem?.mp hm
  rw [zi_add] at kk
  exact lv_iinc hx hb hd hL.1 hq rfl (Nat.le_of_ble_eq_true hn) rfl (fun sl' hl' => kk sl' (z_has_set (i := 19) hL.2 rfl rfl (wc_2 hc) hl'))
end CLO
theorem q343_214 : decode (zbc 343) 214 = .ok (.if_icmp .gt 7, 3) := by decide +kernel
theorem q343_221 : decode (zbc 343) 221 = .ok (.iconst 0, 1) := by decide +kernel
theorem q343_217 : decode (zbc 343) 217 = .ok (.iconst 1, 1) := by decide +kernel
theorem q343_218 : decode (zbc 343) 218 = .ok (.goto 4, 3) := by decide +kernel
theorem tr_s {X : Nat × (Nat → Int32)} {b : WB} {c d : Nat} {G F : GM} {Y : DY} {Q : WQ} {L : List Value} {f r : Int} (hf : zr f) (hr : zr r) : wW (229, X) 343 b 222 L [.int (zi (zb (f ≤ r)))] G F Y c d Q → wW (229, X) 343 b 214 L [.int (zi r), .int (zi f)] G F Y c d Q := by
  intro hk
  refine wi_icmp_gt (t := 221) (pc' := 217) q343_214 (by decide) rfl hf hr ?_ ?_
  · intro h8
    refine wi_iconst (pc' := 222) q343_221 rfl ?_
    rw [zb_f (show ¬ f ≤ r by omega)] at hk
    exact hk
  · intro h8
    refine wi_iconst (pc' := 218) q343_217 rfl ?_
    refine wi_goto (t := 222) q343_218 (by decide) ?_
    rw [zb_t (show f ≤ r by omega)] at hk
    exact hk
theorem q343_258 : decode (zbc 343) 258 = .ok (.iload 16, 2) := by decide +kernel
theorem q343_260 : decode (zbc 343) 260 = .ok (.ifCond .eq 7, 3) := by decide +kernel
theorem q343_267 : decode (zbc 343) 267 = .ok (.iconst 0, 1) := by decide +kernel
theorem q343_268 : decode (zbc 343) 268 = .ok (.if_icmp .ne 7, 3) := by decide +kernel
theorem q343_263 : decode (zbc 343) 263 = .ok (.iconst 1, 1) := by decide +kernel
theorem q343_264 : decode (zbc 343) 264 = .ok (.goto 4, 3) := by decide +kernel
theorem tr_c {X : Nat × (Nat → Int32)} {b : WB} {c d : Nat} {G F : GM} {Y : DY} {Q : WQ} {A : Int} (hA : 0 ≤ A ∧ A ≤ 1) {r0 r1 r2 r3 r4 r5 r6 r7 r8 r9 r10 r11 r12 r13 r14 r15 : Value} : wW (229, X) 343 b 271 [r0, r1, r2, r3, r4, r5, r6, r7, r8, r9, r10, r11, r12, r13, r14, r15, .int (zi A)] [] G F Y c d Q → wW (229, X) 343 b 258 [r0, r1, r2, r3, r4, r5, r6, r7, r8, r9, r10, r11, r12, r13, r14, r15, .int (zi A)] [.int (zi A)] G F Y c d Q := by
  intro hk
  refine wi_iload (i := 16) (pc' := 260) q343_258 rfl rfl ?_
  refine wi_if_eq (t := 267) (pc' := 263) q343_260 (by decide) rfl (by omega) ?_ ?_
  · intro h8
    refine wi_iconst (pc' := 268) q343_267 rfl ?_
    refine wi_icmp_ne (t := 275) (pc' := 271) q343_268 (by decide) rfl (by omega) (by omega) (fun h => absurd h (by omega)) (fun _ => hk)
  · intro h8
    refine wi_iconst (pc' := 264) q343_263 rfl ?_
    refine wi_goto (t := 268) q343_264 (by decide) ?_
    refine wi_icmp_ne (t := 275) (pc' := 271) q343_268 (by decide) rfl (by omega) (by omega) (fun h => absurd h (by omega)) (fun _ => hk)
theorem q343_450 : decode (zbc 343) 450 = .ok (.iload 12, 2) := by decide +kernel
theorem q343_452 : decode (zbc 343) 452 = .ok (.ifCond .ge 8, 3) := by decide +kernel
theorem q343_460 : decode (zbc 343) 460 = .ok (.iload 12, 2) := by decide +kernel
theorem q343_462 : decode (zbc 343) 462 = .ok (.if_icmp .ne 56, 3) := by decide +kernel
theorem q343_455 : decode (zbc 343) 455 = .ok (.bipush (-101), 2) := by decide +kernel
theorem q343_457 : decode (zbc 343) 457 = .ok (.goto 5, 3) := by decide +kernel
theorem tr_m {X : Nat × (Nat → Int32)} {b : WB} {c d : Nat} {G F : GM} {Y : DY} {Q : WQ} {A : Int} (hA : zr A) {r0 r1 r2 r3 r4 r5 r6 r7 r8 r9 r10 r11 r13 r14 r15 r16 : Value} : wW (229, X) 343 b 465 [r0, r1, r2, r3, r4, r5, r6, r7, r8, r9, r10, r11, .int (zi A), r13, r14, r15, r16] [] G F Y c d Q → wW (229, X) 343 b 450 [r0, r1, r2, r3, r4, r5, r6, r7, r8, r9, r10, r11, .int (zi A), r13, r14, r15, r16] [.int (zi (if A < 0 then -101 else A))] G F Y c d Q := by
  intro hk
  refine wi_iload (i := 12) (pc' := 452) q343_450 rfl rfl ?_
  refine wi_if_ge (t := 460) (pc' := 455) q343_452 (by decide) rfl hA ?_ ?_
  · intro h8
    rw [if_neg (show ¬ A < 0 by omega)]
    refine wi_iload (i := 12) (pc' := 462) q343_460 rfl rfl ?_
    refine wi_icmp_ne (t := 518) (pc' := 465) q343_462 (by decide) rfl (by omega) (by omega) (fun h => absurd rfl h) (fun _ => hk)
  · intro h8
    rw [if_pos (show A < 0 by omega)]
    refine wi_bipush (pc' := 457) q343_455 rfl (by decide) ?_
    refine wi_goto (t := 462) q343_457 (by decide) ?_
    refine wi_icmp_ne (t := 518) (pc' := 465) q343_462 (by decide) rfl (by omega) (by omega) (fun h => absurd rfl h) (fun _ => hk)
theorem q343_224 : decode (zbc 343) 224 = .ok (.iload 15, 2) := by decide +kernel
theorem q343_226 : decode (zbc 343) 226 = .ok (.ifCond .ne 17, 3) := by decide +kernel
theorem q343_229 : decode (zbc 343) 229 = .ok (.aload_n 0, 1) := by decide +kernel
theorem q343_230 : decode (zbc 343) 230 = .ok (.bipush 26, 2) := by decide +kernel
theorem q343_232 : decode (zbc 343) 232 = .ok (.iload 14, 2) := by decide +kernel
theorem q343_234 : decode (zbc 343) 234 = .ok (.invokestatic 185, 3) := by decide +kernel
theorem wq343_234 {L9 : Nat} {xs9 : Nat → Int32} {N9 : Nat} : z_SC N9 znl zTs (zZ L9 xs9 N9) zyn zbc zrt zfr zlo (fun _ i => i) ztb 343 234 2 336 3 := sc_S (P := fun _ i => i) zTs_good q343_234 kx_545 kx_546 kx_31 kx_547 rfl ⟨by decide, by decide, by decide +kernel⟩ ⟨Nat.le_of_ble_eq_true rfl, Nat.le_of_ble_eq_true rfl⟩
theorem q343_237 : decode (zbc 343) 237 = .ok (.ifCond .ne 6, 3) := by decide +kernel
theorem q343_240 : decode (zbc 343) 240 = .ok (.iconst 1, 1) := by decide +kernel
theorem q343_241 : decode (zbc 343) 241 = .ok (.istore 11, 2) := by decide +kernel
theorem tr_f {X : Nat × (Nat → Int32)} {B : Int} {sv : Nat → Int → Int} {u : Int} {h : Nat → Int → Int} {s : Int → Int} {b : WB} {c d : Nat} {F : GM} {Y : DY} {Q : WQ} (hb1 : c ≤ b.1) (hb2 : d ≤ b.2.1) {f g l : Int} (hf : zr f) (hl : 0 ≤ l ∧ l < s 4) {G : GM} (p : PG B sv u h s G) {r1 r2 r3 r4 r5 r6 r7 r8 r9 r10 r12 r13 r16 : Value} : (∀ G, PG B sv u h s G → wW (229, X) 343 b 243 [.ref 192, r1, r2, r3, r4, r5, r6, r7, r8, r9, r10, .int (zi (if f = 0 ∧ s (174 + 5 * l + 3) = 0 then 1 else g)), r12, r13, .int (zi l), .int (zi f), r16] [] G F Y c d Q) → wW (229, X) 343 b 224 [.ref 192, r1, r2, r3, r4, r5, r6, r7, r8, r9, r10, .int (zi g), r12, r13, .int (zi l), .int (zi f), r16] [] G F Y c d Q := by
  intro hk
  refine wi_iload (i := 15) (pc' := 226) q343_224 rfl rfl ?_
  obtain ⟨-, -, -, h01, -⟩ := mOk_lt p.ok (l := l) hl.1 hl.2
  have a4 := p.ok.2.2.2.2.1
  refine wi_if_ne (t := 243) (pc' := 229) q343_226 (by decide) rfl hf ?_ ?_
  · intro h8
    have := hk _ p
    rw [if_neg (fun h => h8 h.1)] at this
    exact this
  · intro h8
    refine wi_aload_n (i := 0) (pc' := 230) q343_229 rfl rfl rfl ?_
    refine wi_bipush (pc' := 232) q343_230 rfl (by decide) ?_
    refine wi_iload (i := 14) (pc' := 234) q343_232 rfl rfl ?_
    refine wi_cv (u9 := (229, X)) (pc' := 237) wq343_234 rfl (cL_s2 (pL_isTrueLight p (by omega)) zLc_i) (fun h => absurd h (by decide)) rfl rfl (vL_isTrue (s := s) (l := l) (by omega)).1 (by (try dsimp only); omega) (by (try dsimp only); omega) ?_
    intro Gp1 p1
    rw [(vL_isTrue (s := s) (l := l) (by omega)).2]
    refine wi_if_ne (t := 243) (pc' := 240) q343_237 (by decide) rfl zr_zb ?_ ?_
    · intro h7
      have := hk _ p1
      rw [if_neg (fun h => h7 (zb_f (by omega)))] at this
      exact this
    · intro h7
      have h6 : s (174 + 5 * l + 3) = 0 := by
        have : s (174 + 5 * l + 3) ≠ 1 := fun h => by rw [zb_t h] at h7; omega
        omega
      refine wi_iconst (pc' := 241) q343_240 rfl ?_
      refine wi_istore11 (pc' := 243) q343_241 rfl rfl (Or.inr rfl) ?_
      have := hk _ p1
      rw [if_pos ⟨h8, h6⟩] at this
      exact this
