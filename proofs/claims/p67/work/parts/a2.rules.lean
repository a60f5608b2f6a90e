/-! Rules for runs over made cells, an instruction each (printed by wip/p67/genA2.py). -/
section W2
variable {u : WU} {y : Nat} {b : WB} {pc pc' : Nat} {L st : List Value} {G F : GM} {Y : DY} {c d : Nat} {Q : WQ}
theorem wb_k {n : Int} (h : -128 ≤ n ∧ n ≤ 127) : (Int8.ofInt n).toInt32 = zi n := by
  show _ = Int32.ofInt n
  rw [← Int32.ofInt_int8ToInt, Int8.toInt_ofInt_of_le (by omega) (by omega)]
theorem ws_k {n : Int} (h : -32768 ≤ n ∧ n ≤ 32767) : (Int16.ofInt n).toInt32 = zi n := by
  show _ = Int32.ofInt n
  rw [← Int32.ofInt_int16ToInt, Int16.toInt_ofInt_of_le (by omega) (by omega)]
theorem wi_iconst {z : Int} (hd : decode (zbc y) pc = .ok (.iconst z, 1)) (hp : pc + 1 = pc')  (k : wW u y b pc' L (.int (zi z) :: st) G F Y c d Q) : wW u y b pc L st G F Y c d Q := by
  subst hp
  refine ws_st (fun n h1 h2 => ⟨h1, w_vs_c (w_v_i n _) h2⟩) (fun p l e R s m args below meth c0 a0 A D cA Qm ad H locs sl cells slots hC hA hL kk => ?_) k
  obtain ⟨hx, hb, hml, hown, hts, hr, hlk, hnm, hfr, hlo, hce, hse, hK, hZ, hAn, hst⟩ := hC
  exact lv_iconst hx hb hd rfl (kk sl hL)
theorem wi_bipush {z : Int} (hd : decode (zbc y) pc = .ok (.bipush z, 2)) (hp : pc + 2 = pc') (hz : -128 ≤ z ∧ z ≤ 127) (k : wW u y b pc' L (.int (zi z) :: st) G F Y c d Q) : wW u y b pc L st G F Y c d Q := by
  subst hp
  refine ws_st (fun n h1 h2 => ⟨h1, w_vs_c (w_v_i n _) h2⟩) (fun p l e R s m args below meth c0 a0 A D cA Qm ad H locs sl cells slots hC hA hL kk => ?_) k
  obtain ⟨hx, hb, hml, hown, hts, hr, hlk, hnm, hfr, hlo, hce, hse, hK, hZ, hAn, hst⟩ := hC
  exact lv_bipush hx hb hd (wb_k hz) (kk sl hL)
theorem wi_sipush {z : Int} (hd : decode (zbc y) pc = .ok (.sipush z, 3)) (hp : pc + 3 = pc') (hz : -32768 ≤ z ∧ z ≤ 32767) (k : wW u y b pc' L (.int (zi z) :: st) G F Y c d Q) : wW u y b pc L st G F Y c d Q := by
  subst hp
  refine ws_st (fun n h1 h2 => ⟨h1, w_vs_c (w_v_i n _) h2⟩) (fun p l e R s m args below meth c0 a0 A D cA Qm ad H locs sl cells slots hC hA hL kk => ?_) k
  obtain ⟨hx, hb, hml, hown, hts, hr, hlk, hnm, hfr, hlo, hce, hse, hK, hZ, hAn, hst⟩ := hC
  exact lv_sipush hx hb hd (ws_k hz) (kk sl hL)
theorem wi_ldc {ix : Nat} {z : Int} {v : Int32} (hd : decode (zbc y) pc = .ok (.ldc ix, 2)) (hp : pc + 2 = pc') (hw : Jvm.Cond.constant (zyn y).cls ix v ∈ zTs) (hv : v = zi z) (k : wW u y b pc' L (.int (zi z) :: st) G F Y c d Q) : wW u y b pc L st G F Y c d Q := by
  subst hp
  refine ws_st (fun n h1 h2 => ⟨h1, w_vs_c (w_v_i n _) h2⟩) (fun p l e R s m args below meth c0 a0 A D cA Qm ad H locs sl cells slots hC hA hL kk => ?_) k
  obtain ⟨hx, hb, hml, hown, hts, hr, hlk, hnm, hfr, hlo, hce, hse, hK, hZ, hAn, hst⟩ := hC
  subst hv
  exact lv_ldc hx hb hown (hts _ hw) hd (kk sl hL)
theorem wi_ldc2 {ix : Nat} {z : Int} {v : Int64} (hd : decode (zbc y) pc = .ok (.ldc2_w ix, 3)) (hp : pc + 3 = pc') (hw : Jvm.Cond.constantLong (zyn y).cls ix v ∈ zTs) (hv : v = zl z) (k : wW u y b pc' L (.long (zl z) :: st) G F Y c d Q) : wW u y b pc L st G F Y c d Q := by
  subst hp
  refine ws_st (fun n h1 h2 => ⟨h1, w_vs_c (w_v_l n _) h2⟩) (fun p l e R s m args below meth c0 a0 A D cA Qm ad H locs sl cells slots hC hA hL kk => ?_) k
  obtain ⟨hx, hb, hml, hown, hts, hr, hlk, hnm, hfr, hlo, hce, hse, hK, hZ, hAn, hst⟩ := hC
  subst hv
  exact lv_ldc2 hx hb hown (hts _ hw) hd (kk sl hL)
theorem wi_lconst {q : Fin 2} {z : Int} (hd : decode (zbc y) pc = .ok (.lconst q, 1)) (hp : pc + 1 = pc') (hv : Int64.ofNat (q : Nat) = zl z) (k : wW u y b pc' L (.long (zl z) :: st) G F Y c d Q) : wW u y b pc L st G F Y c d Q := by
  subst hp
  refine ws_st (fun n h1 h2 => ⟨h1, w_vs_c (w_v_l n _) h2⟩) (fun p l e R s m args below meth c0 a0 A D cA Qm ad H locs sl cells slots hC hA hL kk => ?_) k
  obtain ⟨hx, hb, hml, hown, hts, hr, hlk, hnm, hfr, hlo, hce, hse, hK, hZ, hAn, hst⟩ := hC
  exact lv_lconst hx hb hd hv (kk sl hL)
theorem wi_fconst  (hd : decode (zbc y) pc = .ok (.fconst 0, 1)) (hp : pc + 1 = pc')  (k : wW u y b pc' L (.float FP.fconst0 :: st) G F Y c d Q) : wW u y b pc L st G F Y c d Q := by
  subst hp
  refine ws_st (fun n h1 h2 => ⟨h1, w_vs_c (w_v_f n _) h2⟩) (fun p l e R s m args below meth c0 a0 A D cA Qm ad H locs sl cells slots hC hA hL kk => ?_) k
  obtain ⟨hx, hb, hml, hown, hts, hr, hlk, hnm, hfr, hlo, hce, hse, hK, hZ, hAn, hst⟩ := hC
  exact lv_fconst0 hx hb hd (kk sl hL)
theorem wi_dconst  (hd : decode (zbc y) pc = .ok (.dconst 0, 1)) (hp : pc + 1 = pc')  (k : wW u y b pc' L (.double FP.dconst0 :: st) G F Y c d Q) : wW u y b pc L st G F Y c d Q := by
  subst hp
  refine ws_st (fun n h1 h2 => ⟨h1, w_vs_c (w_v_d n _) h2⟩) (fun p l e R s m args below meth c0 a0 A D cA Qm ad H locs sl cells slots hC hA hL kk => ?_) k
  obtain ⟨hx, hb, hml, hown, hts, hr, hlk, hnm, hfr, hlo, hce, hse, hK, hZ, hAn, hst⟩ := hC
  exact lv_dconst0 hx hb hd (kk sl hL)
theorem wi_null  (hd : decode (zbc y) pc = .ok (.aconst_null, 1)) (hp : pc + 1 = pc')  (k : wW u y b pc' L (.null :: st) G F Y c d Q) : wW u y b pc L st G F Y c d Q := by
  subst hp
  refine ws_st (fun n h1 h2 => ⟨h1, w_vs_c (w_v_n n) h2⟩) (fun p l e R s m args below meth c0 a0 A D cA Qm ad H locs sl cells slots hC hA hL kk => ?_) k
  obtain ⟨hx, hb, hml, hown, hts, hr, hlk, hnm, hfr, hlo, hce, hse, hK, hZ, hAn, hst⟩ := hC
  exact lv_null hx hb hd (kk sl hL)
theorem wi_iload_n {q : Fin 4} {i : Nat} {v : Int32} (hd : decode (zbc y) pc = .ok (.iload_n q, 1)) (hp : pc + 1 = pc') (hi : (q : Nat) = i) (hl : L[i]? = some (.int v)) (k : wW u y b pc' L (.int v :: st) G F Y c d Q) : wW u y b pc L st G F Y c d Q := by
  subst hp
  refine ws_st (fun n h1 h2 => ⟨h1, w_vs_c (w_vs_g h1 hl) h2⟩) (fun p l e R s m args below meth c0 a0 A D cA Qm ad H locs sl cells slots hC hA hL kk => ?_) k
  obtain ⟨hx, hb, hml, hown, hts, hr, hlk, hnm, hfr, hlo, hce, hse, hK, hZ, hAn, hst⟩ := hC
  exact lv_iload_n hx hb hd hi (z_has_at hL hl (by intro e; cases e)) (kk sl hL)
theorem wi_iload {i : Nat} {v : Int32} (hd : decode (zbc y) pc = .ok (.iload i, 2)) (hp : pc + 2 = pc') (hl : L[i]? = some (.int v)) (k : wW u y b pc' L (.int v :: st) G F Y c d Q) : wW u y b pc L st G F Y c d Q := by
  subst hp
  refine ws_st (fun n h1 h2 => ⟨h1, w_vs_c (w_vs_g h1 hl) h2⟩) (fun p l e R s m args below meth c0 a0 A D cA Qm ad H locs sl cells slots hC hA hL kk => ?_) k
  obtain ⟨hx, hb, hml, hown, hts, hr, hlk, hnm, hfr, hlo, hce, hse, hK, hZ, hAn, hst⟩ := hC
  exact lv_iload hx hb hd (z_has_at hL hl (by intro e; cases e)) (kk sl hL)
theorem wi_aload_n {q : Fin 4} {i : Nat} {v : Nat} (hd : decode (zbc y) pc = .ok (.aload_n q, 1)) (hp : pc + 1 = pc') (hi : (q : Nat) = i) (hl : L[i]? = some (.ref v)) (k : wW u y b pc' L (.ref v :: st) G F Y c d Q) : wW u y b pc L st G F Y c d Q := by
  subst hp
  refine ws_st (fun n h1 h2 => ⟨h1, w_vs_c (w_vs_g h1 hl) h2⟩) (fun p l e R s m args below meth c0 a0 A D cA Qm ad H locs sl cells slots hC hA hL kk => ?_) k
  obtain ⟨hx, hb, hml, hown, hts, hr, hlk, hnm, hfr, hlo, hce, hse, hK, hZ, hAn, hst⟩ := hC
  exact lv_aload_n hx hb hd hi (z_has_at hL hl (by intro e; cases e)) (kk sl hL)
theorem wi_aload {i : Nat} {v : Nat} (hd : decode (zbc y) pc = .ok (.aload i, 2)) (hp : pc + 2 = pc') (hl : L[i]? = some (.ref v)) (k : wW u y b pc' L (.ref v :: st) G F Y c d Q) : wW u y b pc L st G F Y c d Q := by
  subst hp
  refine ws_st (fun n h1 h2 => ⟨h1, w_vs_c (w_vs_g h1 hl) h2⟩) (fun p l e R s m args below meth c0 a0 A D cA Qm ad H locs sl cells slots hC hA hL kk => ?_) k
  obtain ⟨hx, hb, hml, hown, hts, hr, hlk, hnm, hfr, hlo, hce, hse, hK, hZ, hAn, hst⟩ := hC
  exact lv_aload hx hb hd (z_has_at hL hl (by intro e; cases e)) (kk sl hL)
theorem wi_lload_n {q : Fin 4} {i : Nat} {v : Int64} (hd : decode (zbc y) pc = .ok (.lload_n q, 1)) (hp : pc + 1 = pc') (hi : (q : Nat) = i) (hl : L[i]? = some (.long v)) (k : wW u y b pc' L (.long v :: st) G F Y c d Q) : wW u y b pc L st G F Y c d Q := by
  subst hp
  refine ws_st (fun n h1 h2 => ⟨h1, w_vs_c (w_vs_g h1 hl) h2⟩) (fun p l e R s m args below meth c0 a0 A D cA Qm ad H locs sl cells slots hC hA hL kk => ?_) k
  obtain ⟨hx, hb, hml, hown, hts, hr, hlk, hnm, hfr, hlo, hce, hse, hK, hZ, hAn, hst⟩ := hC
  exact lv_lload_n hx hb hd hi (z_has_at hL hl (by intro e; cases e)) (kk sl hL)
theorem wi_lload {i : Nat} {v : Int64} (hd : decode (zbc y) pc = .ok (.lload i, 2)) (hp : pc + 2 = pc') (hl : L[i]? = some (.long v)) (k : wW u y b pc' L (.long v :: st) G F Y c d Q) : wW u y b pc L st G F Y c d Q := by
  subst hp
  refine ws_st (fun n h1 h2 => ⟨h1, w_vs_c (w_vs_g h1 hl) h2⟩) (fun p l e R s m args below meth c0 a0 A D cA Qm ad H locs sl cells slots hC hA hL kk => ?_) k
  obtain ⟨hx, hb, hml, hown, hts, hr, hlk, hnm, hfr, hlo, hce, hse, hK, hZ, hAn, hst⟩ := hC
  exact lv_lload hx hb hd (z_has_at hL hl (by intro e; cases e)) (kk sl hL)
theorem wc_2 {y i : Nat} (h : i = 0 ∨ zc2 y (i - 1) = false) : ∀ j, j + 1 = i → zc2 y j = false := fun j hj => by
  rcases h with h | h
  · omega
  · rw [show j = i - 1 by omega]; exact h
theorem wi_istore0 {q : Fin 4} {x0 : Value} {v : Int32} (hd : decode (zbc y) pc = .ok (.istore_n q, 1)) (hp : pc + 1 = pc') (hi : (q : Nat) = 0) (hn : Nat.ble 1 (znl y) = true) (hc : 0 = 0 ∨ zc2 y (0 - 1) = false) (k : wW u y b pc' (.int v :: L) st G F Y c d Q) : wW u y b pc (x0 :: L) (.int v :: st) G F Y c d Q := by
  subst hp
  refine ws_st (fun n h1 h2 => ⟨w_vs_s (i := 0) (w_vs_h h2) h1, w_vs_t h2⟩) (fun p l e R s m args below meth c0 a0 A D cA Qm ad H locs sl cells slots hC hA hL kk => ?_) k
  obtain ⟨hx, hb, hml, hown, hts, hr, hlk, hnm, hfr, hlo, hce, hse, hK, hZ, hAn, hst⟩ := hC
  exact lv_istore_n hx hb hd hi hL.1 (Nat.le_of_ble_eq_true hn) rfl (fun sl' hl' => kk sl' (z_has_set (i := 0) hL.2 rfl rfl (wc_2 hc) hl'))
theorem wi_astore0 {q : Fin 4} {x0 : Value} {v : Nat} (hd : decode (zbc y) pc = .ok (.astore_n q, 1)) (hp : pc + 1 = pc') (hi : (q : Nat) = 0) (hn : Nat.ble 1 (znl y) = true) (hc : 0 = 0 ∨ zc2 y (0 - 1) = false) (k : wW u y b pc' (.ref v :: L) st G F Y c d Q) : wW u y b pc (x0 :: L) (.ref v :: st) G F Y c d Q := by
  subst hp
  refine ws_st (fun n h1 h2 => ⟨w_vs_s (i := 0) (w_vs_h h2) h1, w_vs_t h2⟩) (fun p l e R s m args below meth c0 a0 A D cA Qm ad H locs sl cells slots hC hA hL kk => ?_) k
  obtain ⟨hx, hb, hml, hown, hts, hr, hlk, hnm, hfr, hlo, hce, hse, hK, hZ, hAn, hst⟩ := hC
  exact lv_astore_n hx hb hd hi hL.1 (Nat.le_of_ble_eq_true hn) rfl (fun sl' hl' => kk sl' (z_has_set (i := 0) hL.2 rfl rfl (wc_2 hc) hl'))
theorem wi_iinc0 {a9 : Value} {v z : Int} (hd : decode (zbc y) pc = .ok (.iinc 0 z, 3)) (hp : pc + 3 = pc') (hn : Nat.ble 1 (znl y) = true) (hc : 0 = 0 ∨ zc2 y (0 - 1) = false) (k : wW u y b pc' (.int (zi (v + z)) :: L) st G F Y c d Q) : wW u y b pc (.int (zi v) :: L) st G F Y c d Q := by
  subst hp
  refine ws_st (fun n h1 h2 => ⟨w_vs_s (i := 0) (w_v_i n _) h1, h2⟩) (fun p l e R s m args below meth c0 a0 A D cA Qm ad H locs sl cells slots hC hA hL kk => ?_) k
  obtain ⟨hx, hb, hml, hown, hts, hr, hlk, hnm, hfr, hlo, hce, hse, hK, hZ, hAn, hst⟩ := hC
  have hm : (0, Value.int (zi v)) ∈ z_prs ad 0 (.int (zi v) :: L) := (z_prs_mem ad _ 0 _).mpr ⟨0, .int (zi v), rfl, (by intro e; cases e), rfl⟩
  obtain ⟨q, hq⟩ := List.mem_iff_getElem?.mp hm
  rw [zi_add] at kk
  exact lv_iinc hx hb hd hL.1 hq rfl (Nat.le_of_ble_eq_true hn) rfl (fun sl' hl' => kk sl' (z_has_set (i := 0) hL.2 rfl rfl (wc_2 hc) hl'))
theorem wi_istore1 {q : Fin 4} {x0 x1 : Value} {v : Int32} (hd : decode (zbc y) pc = .ok (.istore_n q, 1)) (hp : pc + 1 = pc') (hi : (q : Nat) = 1) (hn : Nat.ble 2 (znl y) = true) (hc : 1 = 0 ∨ zc2 y (1 - 1) = false) (k : wW u y b pc' (x0 :: .int v :: L) st G F Y c d Q) : wW u y b pc (x0 :: x1 :: L) (.int v :: st) G F Y c d Q := by
  subst hp
  refine ws_st (fun n h1 h2 => ⟨w_vs_s (i := 1) (w_vs_h h2) h1, w_vs_t h2⟩) (fun p l e R s m args below meth c0 a0 A D cA Qm ad H locs sl cells slots hC hA hL kk => ?_) k
  obtain ⟨hx, hb, hml, hown, hts, hr, hlk, hnm, hfr, hlo, hce, hse, hK, hZ, hAn, hst⟩ := hC
  exact lv_istore_n hx hb hd hi hL.1 (Nat.le_of_ble_eq_true hn) rfl (fun sl' hl' => kk sl' (z_has_set (i := 1) hL.2 rfl rfl (wc_2 hc) hl'))
theorem wi_astore1 {q : Fin 4} {x0 x1 : Value} {v : Nat} (hd : decode (zbc y) pc = .ok (.astore_n q, 1)) (hp : pc + 1 = pc') (hi : (q : Nat) = 1) (hn : Nat.ble 2 (znl y) = true) (hc : 1 = 0 ∨ zc2 y (1 - 1) = false) (k : wW u y b pc' (x0 :: .ref v :: L) st G F Y c d Q) : wW u y b pc (x0 :: x1 :: L) (.ref v :: st) G F Y c d Q := by
  subst hp
  refine ws_st (fun n h1 h2 => ⟨w_vs_s (i := 1) (w_vs_h h2) h1, w_vs_t h2⟩) (fun p l e R s m args below meth c0 a0 A D cA Qm ad H locs sl cells slots hC hA hL kk => ?_) k
  obtain ⟨hx, hb, hml, hown, hts, hr, hlk, hnm, hfr, hlo, hce, hse, hK, hZ, hAn, hst⟩ := hC
  exact lv_astore_n hx hb hd hi hL.1 (Nat.le_of_ble_eq_true hn) rfl (fun sl' hl' => kk sl' (z_has_set (i := 1) hL.2 rfl rfl (wc_2 hc) hl'))
theorem wi_iinc1 {x0 : Value} {v z : Int} (hd : decode (zbc y) pc = .ok (.iinc 1 z, 3)) (hp : pc + 3 = pc') (hn : Nat.ble 2 (znl y) = true) (hc : 1 = 0 ∨ zc2 y (1 - 1) = false) (k : wW u y b pc' (x0 :: .int (zi (v + z)) :: L) st G F Y c d Q) : wW u y b pc (x0 :: .int (zi v) :: L) st G F Y c d Q := by
  subst hp
  refine ws_st (fun n h1 h2 => ⟨w_vs_s (i := 1) (w_v_i n _) h1, h2⟩) (fun p l e R s m args below meth c0 a0 A D cA Qm ad H locs sl cells slots hC hA hL kk => ?_) k
  obtain ⟨hx, hb, hml, hown, hts, hr, hlk, hnm, hfr, hlo, hce, hse, hK, hZ, hAn, hst⟩ := hC
  have hm : (1, Value.int (zi v)) ∈ z_prs ad 0 (x0 :: .int (zi v) :: L) := (z_prs_mem ad _ 0 _).mpr ⟨1, .int (zi v), rfl, (by intro e; cases e), rfl⟩
  obtain ⟨q, hq⟩ := List.mem_iff_getElem?.mp hm
  rw [zi_add] at kk
  exact lv_iinc hx hb hd hL.1 hq rfl (Nat.le_of_ble_eq_true hn) rfl (fun sl' hl' => kk sl' (z_has_set (i := 1) hL.2 rfl rfl (wc_2 hc) hl'))
theorem wi_istore2 {q : Fin 4} {x0 x1 x2 : Value} {v : Int32} (hd : decode (zbc y) pc = .ok (.istore_n q, 1)) (hp : pc + 1 = pc') (hi : (q : Nat) = 2) (hn : Nat.ble 3 (znl y) = true) (hc : 2 = 0 ∨ zc2 y (2 - 1) = false) (k : wW u y b pc' (x0 :: x1 :: .int v :: L) st G F Y c d Q) : wW u y b pc (x0 :: x1 :: x2 :: L) (.int v :: st) G F Y c d Q := by
  subst hp
  refine ws_st (fun n h1 h2 => ⟨w_vs_s (i := 2) (w_vs_h h2) h1, w_vs_t h2⟩) (fun p l e R s m args below meth c0 a0 A D cA Qm ad H locs sl cells slots hC hA hL kk => ?_) k
  obtain ⟨hx, hb, hml, hown, hts, hr, hlk, hnm, hfr, hlo, hce, hse, hK, hZ, hAn, hst⟩ := hC
  exact lv_istore_n hx hb hd hi hL.1 (Nat.le_of_ble_eq_true hn) rfl (fun sl' hl' => kk sl' (z_has_set (i := 2) hL.2 rfl rfl (wc_2 hc) hl'))
theorem wi_astore2 {q : Fin 4} {x0 x1 x2 : Value} {v : Nat} (hd : decode (zbc y) pc = .ok (.astore_n q, 1)) (hp : pc + 1 = pc') (hi : (q : Nat) = 2) (hn : Nat.ble 3 (znl y) = true) (hc : 2 = 0 ∨ zc2 y (2 - 1) = false) (k : wW u y b pc' (x0 :: x1 :: .ref v :: L) st G F Y c d Q) : wW u y b pc (x0 :: x1 :: x2 :: L) (.ref v :: st) G F Y c d Q := by
  subst hp
  refine ws_st (fun n h1 h2 => ⟨w_vs_s (i := 2) (w_vs_h h2) h1, w_vs_t h2⟩) (fun p l e R s m args below meth c0 a0 A D cA Qm ad H locs sl cells slots hC hA hL kk => ?_) k
  obtain ⟨hx, hb, hml, hown, hts, hr, hlk, hnm, hfr, hlo, hce, hse, hK, hZ, hAn, hst⟩ := hC
  exact lv_astore_n hx hb hd hi hL.1 (Nat.le_of_ble_eq_true hn) rfl (fun sl' hl' => kk sl' (z_has_set (i := 2) hL.2 rfl rfl (wc_2 hc) hl'))
theorem wi_iinc2 {x0 x1 : Value} {v z : Int} (hd : decode (zbc y) pc = .ok (.iinc 2 z, 3)) (hp : pc + 3 = pc') (hn : Nat.ble 3 (znl y) = true) (hc : 2 = 0 ∨ zc2 y (2 - 1) = false) (k : wW u y b pc' (x0 :: x1 :: .int (zi (v + z)) :: L) st G F Y c d Q) : wW u y b pc (x0 :: x1 :: .int (zi v) :: L) st G F Y c d Q := by
  subst hp
  refine ws_st (fun n h1 h2 => ⟨w_vs_s (i := 2) (w_v_i n _) h1, h2⟩) (fun p l e R s m args below meth c0 a0 A D cA Qm ad H locs sl cells slots hC hA hL kk => ?_) k
  obtain ⟨hx, hb, hml, hown, hts, hr, hlk, hnm, hfr, hlo, hce, hse, hK, hZ, hAn, hst⟩ := hC
  have hm : (2, Value.int (zi v)) ∈ z_prs ad 0 (x0 :: x1 :: .int (zi v) :: L) := (z_prs_mem ad _ 0 _).mpr ⟨2, .int (zi v), rfl, (by intro e; cases e), rfl⟩
  obtain ⟨q, hq⟩ := List.mem_iff_getElem?.mp hm
  rw [zi_add] at kk
  exact lv_iinc hx hb hd hL.1 hq rfl (Nat.le_of_ble_eq_true hn) rfl (fun sl' hl' => kk sl' (z_has_set (i := 2) hL.2 rfl rfl (wc_2 hc) hl'))
theorem wi_istore3 {q : Fin 4} {x0 x1 x2 x3 : Value} {v : Int32} (hd : decode (zbc y) pc = .ok (.istore_n q, 1)) (hp : pc + 1 = pc') (hi : (q : Nat) = 3) (hn : Nat.ble 4 (znl y) = true) (hc : 3 = 0 ∨ zc2 y (3 - 1) = false) (k : wW u y b pc' (x0 :: x1 :: x2 :: .int v :: L) st G F Y c d Q) : wW u y b pc (x0 :: x1 :: x2 :: x3 :: L) (.int v :: st) G F Y c d Q := by
  subst hp
  refine ws_st (fun n h1 h2 => ⟨w_vs_s (i := 3) (w_vs_h h2) h1, w_vs_t h2⟩) (fun p l e R s m args below meth c0 a0 A D cA Qm ad H locs sl cells slots hC hA hL kk => ?_) k
  obtain ⟨hx, hb, hml, hown, hts, hr, hlk, hnm, hfr, hlo, hce, hse, hK, hZ, hAn, hst⟩ := hC
  exact lv_istore_n hx hb hd hi hL.1 (Nat.le_of_ble_eq_true hn) rfl (fun sl' hl' => kk sl' (z_has_set (i := 3) hL.2 rfl rfl (wc_2 hc) hl'))
theorem wi_astore3 {q : Fin 4} {x0 x1 x2 x3 : Value} {v : Nat} (hd : decode (zbc y) pc = .ok (.astore_n q, 1)) (hp : pc + 1 = pc') (hi : (q : Nat) = 3) (hn : Nat.ble 4 (znl y) = true) (hc : 3 = 0 ∨ zc2 y (3 - 1) = false) (k : wW u y b pc' (x0 :: x1 :: x2 :: .ref v :: L) st G F Y c d Q) : wW u y b pc (x0 :: x1 :: x2 :: x3 :: L) (.ref v :: st) G F Y c d Q := by
  subst hp
  refine ws_st (fun n h1 h2 => ⟨w_vs_s (i := 3) (w_vs_h h2) h1, w_vs_t h2⟩) (fun p l e R s m args below meth c0 a0 A D cA Qm ad H locs sl cells slots hC hA hL kk => ?_) k
  obtain ⟨hx, hb, hml, hown, hts, hr, hlk, hnm, hfr, hlo, hce, hse, hK, hZ, hAn, hst⟩ := hC
  exact lv_astore_n hx hb hd hi hL.1 (Nat.le_of_ble_eq_true hn) rfl (fun sl' hl' => kk sl' (z_has_set (i := 3) hL.2 rfl rfl (wc_2 hc) hl'))
theorem wi_iinc3 {x0 x1 x2 : Value} {v z : Int} (hd : decode (zbc y) pc = .ok (.iinc 3 z, 3)) (hp : pc + 3 = pc') (hn : Nat.ble 4 (znl y) = true) (hc : 3 = 0 ∨ zc2 y (3 - 1) = false) (k : wW u y b pc' (x0 :: x1 :: x2 :: .int (zi (v + z)) :: L) st G F Y c d Q) : wW u y b pc (x0 :: x1 :: x2 :: .int (zi v) :: L) st G F Y c d Q := by
  subst hp
  refine ws_st (fun n h1 h2 => ⟨w_vs_s (i := 3) (w_v_i n _) h1, h2⟩) (fun p l e R s m args below meth c0 a0 A D cA Qm ad H locs sl cells slots hC hA hL kk => ?_) k
  obtain ⟨hx, hb, hml, hown, hts, hr, hlk, hnm, hfr, hlo, hce, hse, hK, hZ, hAn, hst⟩ := hC
  have hm : (3, Value.int (zi v)) ∈ z_prs ad 0 (x0 :: x1 :: x2 :: .int (zi v) :: L) := (z_prs_mem ad _ 0 _).mpr ⟨3, .int (zi v), rfl, (by intro e; cases e), rfl⟩
  obtain ⟨q, hq⟩ := List.mem_iff_getElem?.mp hm
  rw [zi_add] at kk
  exact lv_iinc hx hb hd hL.1 hq rfl (Nat.le_of_ble_eq_true hn) rfl (fun sl' hl' => kk sl' (z_has_set (i := 3) hL.2 rfl rfl (wc_2 hc) hl'))
theorem wi_istore4 {x0 x1 x2 x3 x4 : Value} {v : Int32} (hd : decode (zbc y) pc = .ok (.istore 4, 2)) (hp : pc + 2 = pc') (hn : Nat.ble 5 (znl y) = true) (hc : 4 = 0 ∨ zc2 y (4 - 1) = false) (k : wW u y b pc' (x0 :: x1 :: x2 :: x3 :: .int v :: L) st G F Y c d Q) : wW u y b pc (x0 :: x1 :: x2 :: x3 :: x4 :: L) (.int v :: st) G F Y c d Q := by
  subst hp
  refine ws_st (fun n h1 h2 => ⟨w_vs_s (i := 4) (w_vs_h h2) h1, w_vs_t h2⟩) (fun p l e R s m args below meth c0 a0 A D cA Qm ad H locs sl cells slots hC hA hL kk => ?_) k
  obtain ⟨hx, hb, hml, hown, hts, hr, hlk, hnm, hfr, hlo, hce, hse, hK, hZ, hAn, hst⟩ := hC
  exact lv_istore hx hb hd hL.1 (Nat.le_of_ble_eq_true hn) rfl (fun sl' hl' => kk sl' (z_has_set (i := 4) hL.2 rfl rfl (wc_2 hc) hl'))
theorem wi_astore4 {x0 x1 x2 x3 x4 : Value} {v : Nat} (hd : decode (zbc y) pc = .ok (.astore 4, 2)) (hp : pc + 2 = pc') (hn : Nat.ble 5 (znl y) = true) (hc : 4 = 0 ∨ zc2 y (4 - 1) = false) (k : wW u y b pc' (x0 :: x1 :: x2 :: x3 :: .ref v :: L) st G F Y c d Q) : wW u y b pc (x0 :: x1 :: x2 :: x3 :: x4 :: L) (.ref v :: st) G F Y c d Q := by
  subst hp
  refine ws_st (fun n h1 h2 => ⟨w_vs_s (i := 4) (w_vs_h h2) h1, w_vs_t h2⟩) (fun p l e R s m args below meth c0 a0 A D cA Qm ad H locs sl cells slots hC hA hL kk => ?_) k
  obtain ⟨hx, hb, hml, hown, hts, hr, hlk, hnm, hfr, hlo, hce, hse, hK, hZ, hAn, hst⟩ := hC
  exact lv_astore hx hb hd hL.1 (Nat.le_of_ble_eq_true hn) rfl (fun sl' hl' => kk sl' (z_has_set (i := 4) hL.2 rfl rfl (wc_2 hc) hl'))
theorem wi_iinc4 {x0 x1 x2 x3 : Value} {v z : Int} (hd : decode (zbc y) pc = .ok (.iinc 4 z, 3)) (hp : pc + 3 = pc') (hn : Nat.ble 5 (znl y) = true) (hc : 4 = 0 ∨ zc2 y (4 - 1) = false) (k : wW u y b pc' (x0 :: x1 :: x2 :: x3 :: .int (zi (v + z)) :: L) st G F Y c d Q) : wW u y b pc (x0 :: x1 :: x2 :: x3 :: .int (zi v) :: L) st G F Y c d Q := by
  subst hp
  refine ws_st (fun n h1 h2 => ⟨w_vs_s (i := 4) (w_v_i n _) h1, h2⟩) (fun p l e R s m args below meth c0 a0 A D cA Qm ad H locs sl cells slots hC hA hL kk => ?_) k
  obtain ⟨hx, hb, hml, hown, hts, hr, hlk, hnm, hfr, hlo, hce, hse, hK, hZ, hAn, hst⟩ := hC
  have hm : (4, Value.int (zi v)) ∈ z_prs ad 0 (x0 :: x1 :: x2 :: x3 :: .int (zi v) :: L) := (z_prs_mem ad _ 0 _).mpr ⟨4, .int (zi v), rfl, (by intro e; cases e), rfl⟩
  obtain ⟨q, hq⟩ := List.mem_iff_getElem?.mp hm
  rw [zi_add] at kk
  exact lv_iinc hx hb hd hL.1 hq rfl (Nat.le_of_ble_eq_true hn) rfl (fun sl' hl' => kk sl' (z_has_set (i := 4) hL.2 rfl rfl (wc_2 hc) hl'))
theorem wi_istore5 {x0 x1 x2 x3 x4 x5 : Value} {v : Int32} (hd : decode (zbc y) pc = .ok (.istore 5, 2)) (hp : pc + 2 = pc') (hn : Nat.ble 6 (znl y) = true) (hc : 5 = 0 ∨ zc2 y (5 - 1) = false) (k : wW u y b pc' (x0 :: x1 :: x2 :: x3 :: x4 :: .int v :: L) st G F Y c d Q) : wW u y b pc (x0 :: x1 :: x2 :: x3 :: x4 :: x5 :: L) (.int v :: st) G F Y c d Q := by
  subst hp
  refine ws_st (fun n h1 h2 => ⟨w_vs_s (i := 5) (w_vs_h h2) h1, w_vs_t h2⟩) (fun p l e R s m args below meth c0 a0 A D cA Qm ad H locs sl cells slots hC hA hL kk => ?_) k
  obtain ⟨hx, hb, hml, hown, hts, hr, hlk, hnm, hfr, hlo, hce, hse, hK, hZ, hAn, hst⟩ := hC
  exact lv_istore hx hb hd hL.1 (Nat.le_of_ble_eq_true hn) rfl (fun sl' hl' => kk sl' (z_has_set (i := 5) hL.2 rfl rfl (wc_2 hc) hl'))
theorem wi_astore5 {x0 x1 x2 x3 x4 x5 : Value} {v : Nat} (hd : decode (zbc y) pc = .ok (.astore 5, 2)) (hp : pc + 2 = pc') (hn : Nat.ble 6 (znl y) = true) (hc : 5 = 0 ∨ zc2 y (5 - 1) = false) (k : wW u y b pc' (x0 :: x1 :: x2 :: x3 :: x4 :: .ref v :: L) st G F Y c d Q) : wW u y b pc (x0 :: x1 :: x2 :: x3 :: x4 :: x5 :: L) (.ref v :: st) G F Y c d Q := by
  subst hp
  refine ws_st (fun n h1 h2 => ⟨w_vs_s (i := 5) (w_vs_h h2) h1, w_vs_t h2⟩) (fun p l e R s m args below meth c0 a0 A D cA Qm ad H locs sl cells slots hC hA hL kk => ?_) k
  obtain ⟨hx, hb, hml, hown, hts, hr, hlk, hnm, hfr, hlo, hce, hse, hK, hZ, hAn, hst⟩ := hC
  exact lv_astore hx hb hd hL.1 (Nat.le_of_ble_eq_true hn) rfl (fun sl' hl' => kk sl' (z_has_set (i := 5) hL.2 rfl rfl (wc_2 hc) hl'))
theorem wi_iinc5 {x0 x1 x2 x3 x4 : Value} {v z : Int} (hd : decode (zbc y) pc = .ok (.iinc 5 z, 3)) (hp : pc + 3 = pc') (hn : Nat.ble 6 (znl y) = true) (hc : 5 = 0 ∨ zc2 y (5 - 1) = false) (k : wW u y b pc' (x0 :: x1 :: x2 :: x3 :: x4 :: .int (zi (v + z)) :: L) st G F Y c d Q) : wW u y b pc (x0 :: x1 :: x2 :: x3 :: x4 :: .int (zi v) :: L) st G F Y c d Q := by
  subst hp
  refine ws_st (fun n h1 h2 => ⟨w_vs_s (i := 5) (w_v_i n _) h1, h2⟩) (fun p l e R s m args below meth c0 a0 A D cA Qm ad H locs sl cells slots hC hA hL kk => ?_) k
  obtain ⟨hx, hb, hml, hown, hts, hr, hlk, hnm, hfr, hlo, hce, hse, hK, hZ, hAn, hst⟩ := hC
  have hm : (5, Value.int (zi v)) ∈ z_prs ad 0 (x0 :: x1 :: x2 :: x3 :: x4 :: .int (zi v) :: L) := (z_prs_mem ad _ 0 _).mpr ⟨5, .int (zi v), rfl, (by intro e; cases e), rfl⟩
  obtain ⟨q, hq⟩ := List.mem_iff_getElem?.mp hm
  rw [zi_add] at kk
  exact lv_iinc hx hb hd hL.1 hq rfl (Nat.le_of_ble_eq_true hn) rfl (fun sl' hl' => kk sl' (z_has_set (i := 5) hL.2 rfl rfl (wc_2 hc) hl'))
theorem wi_istore6 {x0 x1 x2 x3 x4 x5 x6 : Value} {v : Int32} (hd : decode (zbc y) pc = .ok (.istore 6, 2)) (hp : pc + 2 = pc') (hn : Nat.ble 7 (znl y) = true) (hc : 6 = 0 ∨ zc2 y (6 - 1) = false) (k : wW u y b pc' (x0 :: x1 :: x2 :: x3 :: x4 :: x5 :: .int v :: L) st G F Y c d Q) : wW u y b pc (x0 :: x1 :: x2 :: x3 :: x4 :: x5 :: x6 :: L) (.int v :: st) G F Y c d Q := by
  subst hp
  refine ws_st (fun n h1 h2 => ⟨w_vs_s (i := 6) (w_vs_h h2) h1, w_vs_t h2⟩) (fun p l e R s m args below meth c0 a0 A D cA Qm ad H locs sl cells slots hC hA hL kk => ?_) k
  obtain ⟨hx, hb, hml, hown, hts, hr, hlk, hnm, hfr, hlo, hce, hse, hK, hZ, hAn, hst⟩ := hC
  exact lv_istore hx hb hd hL.1 (Nat.le_of_ble_eq_true hn) rfl (fun sl' hl' => kk sl' (z_has_set (i := 6) hL.2 rfl rfl (wc_2 hc) hl'))
theorem wi_astore6 {x0 x1 x2 x3 x4 x5 x6 : Value} {v : Nat} (hd : decode (zbc y) pc = .ok (.astore 6, 2)) (hp : pc + 2 = pc') (hn : Nat.ble 7 (znl y) = true) (hc : 6 = 0 ∨ zc2 y (6 - 1) = false) (k : wW u y b pc' (x0 :: x1 :: x2 :: x3 :: x4 :: x5 :: .ref v :: L) st G F Y c d Q) : wW u y b pc (x0 :: x1 :: x2 :: x3 :: x4 :: x5 :: x6 :: L) (.ref v :: st) G F Y c d Q := by
  subst hp
  refine ws_st (fun n h1 h2 => ⟨w_vs_s (i := 6) (w_vs_h h2) h1, w_vs_t h2⟩) (fun p l e R s m args below meth c0 a0 A D cA Qm ad H locs sl cells slots hC hA hL kk => ?_) k
  obtain ⟨hx, hb, hml, hown, hts, hr, hlk, hnm, hfr, hlo, hce, hse, hK, hZ, hAn, hst⟩ := hC
  exact lv_astore hx hb hd hL.1 (Nat.le_of_ble_eq_true hn) rfl (fun sl' hl' => kk sl' (z_has_set (i := 6) hL.2 rfl rfl (wc_2 hc) hl'))
theorem wi_iinc6 {x0 x1 x2 x3 x4 x5 : Value} {v z : Int} (hd : decode (zbc y) pc = .ok (.iinc 6 z, 3)) (hp : pc + 3 = pc') (hn : Nat.ble 7 (znl y) = true) (hc : 6 = 0 ∨ zc2 y (6 - 1) = false) (k : wW u y b pc' (x0 :: x1 :: x2 :: x3 :: x4 :: x5 :: .int (zi (v + z)) :: L) st G F Y c d Q) : wW u y b pc (x0 :: x1 :: x2 :: x3 :: x4 :: x5 :: .int (zi v) :: L) st G F Y c d Q := by
  subst hp
  refine ws_st (fun n h1 h2 => ⟨w_vs_s (i := 6) (w_v_i n _) h1, h2⟩) (fun p l e R s m args below meth c0 a0 A D cA Qm ad H locs sl cells slots hC hA hL kk => ?_) k
  obtain ⟨hx, hb, hml, hown, hts, hr, hlk, hnm, hfr, hlo, hce, hse, hK, hZ, hAn, hst⟩ := hC
  have hm : (6, Value.int (zi v)) ∈ z_prs ad 0 (x0 :: x1 :: x2 :: x3 :: x4 :: x5 :: .int (zi v) :: L) := (z_prs_mem ad _ 0 _).mpr ⟨6, .int (zi v), rfl, (by intro e; cases e), rfl⟩
  obtain ⟨q, hq⟩ := List.mem_iff_getElem?.mp hm
  rw [zi_add] at kk
  exact lv_iinc hx hb hd hL.1 hq rfl (Nat.le_of_ble_eq_true hn) rfl (fun sl' hl' => kk sl' (z_has_set (i := 6) hL.2 rfl rfl (wc_2 hc) hl'))
theorem wi_istore7 {x0 x1 x2 x3 x4 x5 x6 x7 : Value} {v : Int32} (hd : decode (zbc y) pc = .ok (.istore 7, 2)) (hp : pc + 2 = pc') (hn : Nat.ble 8 (znl y) = true) (hc : 7 = 0 ∨ zc2 y (7 - 1) = false) (k : wW u y b pc' (x0 :: x1 :: x2 :: x3 :: x4 :: x5 :: x6 :: .int v :: L) st G F Y c d Q) : wW u y b pc (x0 :: x1 :: x2 :: x3 :: x4 :: x5 :: x6 :: x7 :: L) (.int v :: st) G F Y c d Q := by
  subst hp
  refine ws_st (fun n h1 h2 => ⟨w_vs_s (i := 7) (w_vs_h h2) h1, w_vs_t h2⟩) (fun p l e R s m args below meth c0 a0 A D cA Qm ad H locs sl cells slots hC hA hL kk => ?_) k
  obtain ⟨hx, hb, hml, hown, hts, hr, hlk, hnm, hfr, hlo, hce, hse, hK, hZ, hAn, hst⟩ := hC
  exact lv_istore hx hb hd hL.1 (Nat.le_of_ble_eq_true hn) rfl (fun sl' hl' => kk sl' (z_has_set (i := 7) hL.2 rfl rfl (wc_2 hc) hl'))
theorem wi_astore7 {x0 x1 x2 x3 x4 x5 x6 x7 : Value} {v : Nat} (hd : decode (zbc y) pc = .ok (.astore 7, 2)) (hp : pc + 2 = pc') (hn : Nat.ble 8 (znl y) = true) (hc : 7 = 0 ∨ zc2 y (7 - 1) = false) (k : wW u y b pc' (x0 :: x1 :: x2 :: x3 :: x4 :: x5 :: x6 :: .ref v :: L) st G F Y c d Q) : wW u y b pc (x0 :: x1 :: x2 :: x3 :: x4 :: x5 :: x6 :: x7 :: L) (.ref v :: st) G F Y c d Q := by
  subst hp
  refine ws_st (fun n h1 h2 => ⟨w_vs_s (i := 7) (w_vs_h h2) h1, w_vs_t h2⟩) (fun p l e R s m args below meth c0 a0 A D cA Qm ad H locs sl cells slots hC hA hL kk => ?_) k
  obtain ⟨hx, hb, hml, hown, hts, hr, hlk, hnm, hfr, hlo, hce, hse, hK, hZ, hAn, hst⟩ := hC
  exact lv_astore hx hb hd hL.1 (Nat.le_of_ble_eq_true hn) rfl (fun sl' hl' => kk sl' (z_has_set (i := 7) hL.2 rfl rfl (wc_2 hc) hl'))
theorem wi_iinc7 {x0 x1 x2 x3 x4 x5 x6 : Value} {v z : Int} (hd : decode (zbc y) pc = .ok (.iinc 7 z, 3)) (hp : pc + 3 = pc') (hn : Nat.ble 8 (znl y) = true) (hc : 7 = 0 ∨ zc2 y (7 - 1) = false) (k : wW u y b pc' (x0 :: x1 :: x2 :: x3 :: x4 :: x5 :: x6 :: .int (zi (v + z)) :: L) st G F Y c d Q) : wW u y b pc (x0 :: x1 :: x2 :: x3 :: x4 :: x5 :: x6 :: .int (zi v) :: L) st G F Y c d Q := by
  subst hp
  refine ws_st (fun n h1 h2 => ⟨w_vs_s (i := 7) (w_v_i n _) h1, h2⟩) (fun p l e R s m args below meth c0 a0 A D cA Qm ad H locs sl cells slots hC hA hL kk => ?_) k
  obtain ⟨hx, hb, hml, hown, hts, hr, hlk, hnm, hfr, hlo, hce, hse, hK, hZ, hAn, hst⟩ := hC
  have hm : (7, Value.int (zi v)) ∈ z_prs ad 0 (x0 :: x1 :: x2 :: x3 :: x4 :: x5 :: x6 :: .int (zi v) :: L) := (z_prs_mem ad _ 0 _).mpr ⟨7, .int (zi v), rfl, (by intro e; cases e), rfl⟩
  obtain ⟨q, hq⟩ := List.mem_iff_getElem?.mp hm
  rw [zi_add] at kk
  exact lv_iinc hx hb hd hL.1 hq rfl (Nat.le_of_ble_eq_true hn) rfl (fun sl' hl' => kk sl' (z_has_set (i := 7) hL.2 rfl rfl (wc_2 hc) hl'))
theorem wi_istore8 {x0 x1 x2 x3 x4 x5 x6 x7 x8 : Value} {v : Int32} (hd : decode (zbc y) pc = .ok (.istore 8, 2)) (hp : pc + 2 = pc') (hn : Nat.ble 9 (znl y) = true) (hc : 8 = 0 ∨ zc2 y (8 - 1) = false) (k : wW u y b pc' (x0 :: x1 :: x2 :: x3 :: x4 :: x5 :: x6 :: x7 :: .int v :: L) st G F Y c d Q) : wW u y b pc (x0 :: x1 :: x2 :: x3 :: x4 :: x5 :: x6 :: x7 :: x8 :: L) (.int v :: st) G F Y c d Q := by
  subst hp
  refine ws_st (fun n h1 h2 => ⟨w_vs_s (i := 8) (w_vs_h h2) h1, w_vs_t h2⟩) (fun p l e R s m args below meth c0 a0 A D cA Qm ad H locs sl cells slots hC hA hL kk => ?_) k
  obtain ⟨hx, hb, hml, hown, hts, hr, hlk, hnm, hfr, hlo, hce, hse, hK, hZ, hAn, hst⟩ := hC
  exact lv_istore hx hb hd hL.1 (Nat.le_of_ble_eq_true hn) rfl (fun sl' hl' => kk sl' (z_has_set (i := 8) hL.2 rfl rfl (wc_2 hc) hl'))
theorem wi_astore8 {x0 x1 x2 x3 x4 x5 x6 x7 x8 : Value} {v : Nat} (hd : decode (zbc y) pc = .ok (.astore 8, 2)) (hp : pc + 2 = pc') (hn : Nat.ble 9 (znl y) = true) (hc : 8 = 0 ∨ zc2 y (8 - 1) = false) (k : wW u y b pc' (x0 :: x1 :: x2 :: x3 :: x4 :: x5 :: x6 :: x7 :: .ref v :: L) st G F Y c d Q) : wW u y b pc (x0 :: x1 :: x2 :: x3 :: x4 :: x5 :: x6 :: x7 :: x8 :: L) (.ref v :: st) G F Y c d Q := by
  subst hp
  refine ws_st (fun n h1 h2 => ⟨w_vs_s (i := 8) (w_vs_h h2) h1, w_vs_t h2⟩) (fun p l e R s m args below meth c0 a0 A D cA Qm ad H locs sl cells slots hC hA hL kk => ?_) k
  obtain ⟨hx, hb, hml, hown, hts, hr, hlk, hnm, hfr, hlo, hce, hse, hK, hZ, hAn, hst⟩ := hC
  exact lv_astore hx hb hd hL.1 (Nat.le_of_ble_eq_true hn) rfl (fun sl' hl' => kk sl' (z_has_set (i := 8) hL.2 rfl rfl (wc_2 hc) hl'))
theorem wi_iinc8 {x0 x1 x2 x3 x4 x5 x6 x7 : Value} {v z : Int} (hd : decode (zbc y) pc = .ok (.iinc 8 z, 3)) (hp : pc + 3 = pc') (hn : Nat.ble 9 (znl y) = true) (hc : 8 = 0 ∨ zc2 y (8 - 1) = false) (k : wW u y b pc' (x0 :: x1 :: x2 :: x3 :: x4 :: x5 :: x6 :: x7 :: .int (zi (v + z)) :: L) st G F Y c d Q) : wW u y b pc (x0 :: x1 :: x2 :: x3 :: x4 :: x5 :: x6 :: x7 :: .int (zi v) :: L) st G F Y c d Q := by
  subst hp
  refine ws_st (fun n h1 h2 => ⟨w_vs_s (i := 8) (w_v_i n _) h1, h2⟩) (fun p l e R s m args below meth c0 a0 A D cA Qm ad H locs sl cells slots hC hA hL kk => ?_) k
  obtain ⟨hx, hb, hml, hown, hts, hr, hlk, hnm, hfr, hlo, hce, hse, hK, hZ, hAn, hst⟩ := hC
  have hm : (8, Value.int (zi v)) ∈ z_prs ad 0 (x0 :: x1 :: x2 :: x3 :: x4 :: x5 :: x6 :: x7 :: .int (zi v) :: L) := (z_prs_mem ad _ 0 _).mpr ⟨8, .int (zi v), rfl, (by intro e; cases e), rfl⟩
  obtain ⟨q, hq⟩ := List.mem_iff_getElem?.mp hm
  rw [zi_add] at kk
  exact lv_iinc hx hb hd hL.1 hq rfl (Nat.le_of_ble_eq_true hn) rfl (fun sl' hl' => kk sl' (z_has_set (i := 8) hL.2 rfl rfl (wc_2 hc) hl'))
theorem wi_istore9 {x0 x1 x2 x3 x4 x5 x6 x7 x8 x9 : Value} {v : Int32} (hd : decode (zbc y) pc = .ok (.istore 9, 2)) (hp : pc + 2 = pc') (hn : Nat.ble 10 (znl y) = true) (hc : 9 = 0 ∨ zc2 y (9 - 1) = false) (k : wW u y b pc' (x0 :: x1 :: x2 :: x3 :: x4 :: x5 :: x6 :: x7 :: x8 :: .int v :: L) st G F Y c d Q) : wW u y b pc (x0 :: x1 :: x2 :: x3 :: x4 :: x5 :: x6 :: x7 :: x8 :: x9 :: L) (.int v :: st) G F Y c d Q := by
  subst hp
  refine ws_st (fun n h1 h2 => ⟨w_vs_s (i := 9) (w_vs_h h2) h1, w_vs_t h2⟩) (fun p l e R s m args below meth c0 a0 A D cA Qm ad H locs sl cells slots hC hA hL kk => ?_) k
  obtain ⟨hx, hb, hml, hown, hts, hr, hlk, hnm, hfr, hlo, hce, hse, hK, hZ, hAn, hst⟩ := hC
  exact lv_istore hx hb hd hL.1 (Nat.le_of_ble_eq_true hn) rfl (fun sl' hl' => kk sl' (z_has_set (i := 9) hL.2 rfl rfl (wc_2 hc) hl'))
theorem wi_astore9 {x0 x1 x2 x3 x4 x5 x6 x7 x8 x9 : Value} {v : Nat} (hd : decode (zbc y) pc = .ok (.astore 9, 2)) (hp : pc + 2 = pc') (hn : Nat.ble 10 (znl y) = true) (hc : 9 = 0 ∨ zc2 y (9 - 1) = false) (k : wW u y b pc' (x0 :: x1 :: x2 :: x3 :: x4 :: x5 :: x6 :: x7 :: x8 :: .ref v :: L) st G F Y c d Q) : wW u y b pc (x0 :: x1 :: x2 :: x3 :: x4 :: x5 :: x6 :: x7 :: x8 :: x9 :: L) (.ref v :: st) G F Y c d Q := by
  subst hp
  refine ws_st (fun n h1 h2 => ⟨w_vs_s (i := 9) (w_vs_h h2) h1, w_vs_t h2⟩) (fun p l e R s m args below meth c0 a0 A D cA Qm ad H locs sl cells slots hC hA hL kk => ?_) k
  obtain ⟨hx, hb, hml, hown, hts, hr, hlk, hnm, hfr, hlo, hce, hse, hK, hZ, hAn, hst⟩ := hC
  exact lv_astore hx hb hd hL.1 (Nat.le_of_ble_eq_true hn) rfl (fun sl' hl' => kk sl' (z_has_set (i := 9) hL.2 rfl rfl (wc_2 hc) hl'))
theorem wi_iinc9 {x0 x1 x2 x3 x4 x5 x6 x7 x8 : Value} {v z : Int} (hd : decode (zbc y) pc = .ok (.iinc 9 z, 3)) (hp : pc + 3 = pc') (hn : Nat.ble 10 (znl y) = true) (hc : 9 = 0 ∨ zc2 y (9 - 1) = false) (k : wW u y b pc' (x0 :: x1 :: x2 :: x3 :: x4 :: x5 :: x6 :: x7 :: x8 :: .int (zi (v + z)) :: L) st G F Y c d Q) : wW u y b pc (x0 :: x1 :: x2 :: x3 :: x4 :: x5 :: x6 :: x7 :: x8 :: .int (zi v) :: L) st G F Y c d Q := by
  subst hp
  refine ws_st (fun n h1 h2 => ⟨w_vs_s (i := 9) (w_v_i n _) h1, h2⟩) (fun p l e R s m args below meth c0 a0 A D cA Qm ad H locs sl cells slots hC hA hL kk => ?_) k
  obtain ⟨hx, hb, hml, hown, hts, hr, hlk, hnm, hfr, hlo, hce, hse, hK, hZ, hAn, hst⟩ := hC
  have hm : (9, Value.int (zi v)) ∈ z_prs ad 0 (x0 :: x1 :: x2 :: x3 :: x4 :: x5 :: x6 :: x7 :: x8 :: .int (zi v) :: L) := (z_prs_mem ad _ 0 _).mpr ⟨9, .int (zi v), rfl, (by intro e; cases e), rfl⟩
  obtain ⟨q, hq⟩ := List.mem_iff_getElem?.mp hm
  rw [zi_add] at kk
  exact lv_iinc hx hb hd hL.1 hq rfl (Nat.le_of_ble_eq_true hn) rfl (fun sl' hl' => kk sl' (z_has_set (i := 9) hL.2 rfl rfl (wc_2 hc) hl'))
theorem wi_istore10 {x0 x1 x2 x3 x4 x5 x6 x7 x8 x9 x10 : Value} {v : Int32} (hd : decode (zbc y) pc = .ok (.istore 10, 2)) (hp : pc + 2 = pc') (hn : Nat.ble 11 (znl y) = true) (hc : 10 = 0 ∨ zc2 y (10 - 1) = false) (k : wW u y b pc' (x0 :: x1 :: x2 :: x3 :: x4 :: x5 :: x6 :: x7 :: x8 :: x9 :: .int v :: L) st G F Y c d Q) : wW u y b pc (x0 :: x1 :: x2 :: x3 :: x4 :: x5 :: x6 :: x7 :: x8 :: x9 :: x10 :: L) (.int v :: st) G F Y c d Q := by
  subst hp
  refine ws_st (fun n h1 h2 => ⟨w_vs_s (i := 10) (w_vs_h h2) h1, w_vs_t h2⟩) (fun p l e R s m args below meth c0 a0 A D cA Qm ad H locs sl cells slots hC hA hL kk => ?_) k
  obtain ⟨hx, hb, hml, hown, hts, hr, hlk, hnm, hfr, hlo, hce, hse, hK, hZ, hAn, hst⟩ := hC
  exact lv_istore hx hb hd hL.1 (Nat.le_of_ble_eq_true hn) rfl (fun sl' hl' => kk sl' (z_has_set (i := 10) hL.2 rfl rfl (wc_2 hc) hl'))
theorem wi_astore10 {x0 x1 x2 x3 x4 x5 x6 x7 x8 x9 x10 : Value} {v : Nat} (hd : decode (zbc y) pc = .ok (.astore 10, 2)) (hp : pc + 2 = pc') (hn : Nat.ble 11 (znl y) = true) (hc : 10 = 0 ∨ zc2 y (10 - 1) = false) (k : wW u y b pc' (x0 :: x1 :: x2 :: x3 :: x4 :: x5 :: x6 :: x7 :: x8 :: x9 :: .ref v :: L) st G F Y c d Q) : wW u y b pc (x0 :: x1 :: x2 :: x3 :: x4 :: x5 :: x6 :: x7 :: x8 :: x9 :: x10 :: L) (.ref v :: st) G F Y c d Q := by
  subst hp
  refine ws_st (fun n h1 h2 => ⟨w_vs_s (i := 10) (w_vs_h h2) h1, w_vs_t h2⟩) (fun p l e R s m args below meth c0 a0 A D cA Qm ad H locs sl cells slots hC hA hL kk => ?_) k
  obtain ⟨hx, hb, hml, hown, hts, hr, hlk, hnm, hfr, hlo, hce, hse, hK, hZ, hAn, hst⟩ := hC
  exact lv_astore hx hb hd hL.1 (Nat.le_of_ble_eq_true hn) rfl (fun sl' hl' => kk sl' (z_has_set (i := 10) hL.2 rfl rfl (wc_2 hc) hl'))
theorem wi_iinc10 {x0 x1 x2 x3 x4 x5 x6 x7 x8 x9 : Value} {v z : Int} (hd : decode (zbc y) pc = .ok (.iinc 10 z, 3)) (hp : pc + 3 = pc') (hn : Nat.ble 11 (znl y) = true) (hc : 10 = 0 ∨ zc2 y (10 - 1) = false) (k : wW u y b pc' (x0 :: x1 :: x2 :: x3 :: x4 :: x5 :: x6 :: x7 :: x8 :: x9 :: .int (zi (v + z)) :: L) st G F Y c d Q) : wW u y b pc (x0 :: x1 :: x2 :: x3 :: x4 :: x5 :: x6 :: x7 :: x8 :: x9 :: .int (zi v) :: L) st G F Y c d Q := by
  subst hp
  refine ws_st (fun n h1 h2 => ⟨w_vs_s (i := 10) (w_v_i n _) h1, h2⟩) (fun p l e R s m args below meth c0 a0 A D cA Qm ad H locs sl cells slots hC hA hL kk => ?_) k
  obtain ⟨hx, hb, hml, hown, hts, hr, hlk, hnm, hfr, hlo, hce, hse, hK, hZ, hAn, hst⟩ := hC
  have hm : (10, Value.int (zi v)) ∈ z_prs ad 0 (x0 :: x1 :: x2 :: x3 :: x4 :: x5 :: x6 :: x7 :: x8 :: x9 :: .int (zi v) :: L) := (z_prs_mem ad _ 0 _).mpr ⟨10, .int (zi v), rfl, (by intro e; cases e), rfl⟩
  obtain ⟨q, hq⟩ := List.mem_iff_getElem?.mp hm
  rw [zi_add] at kk
  exact lv_iinc hx hb hd hL.1 hq rfl (Nat.le_of_ble_eq_true hn) rfl (fun sl' hl' => kk sl' (z_has_set (i := 10) hL.2 rfl rfl (wc_2 hc) hl'))
theorem wi_istore11 {x0 x1 x2 x3 x4 x5 x6 x7 x8 x9 x10 x11 : Value} {v : Int32} (hd : decode (zbc y) pc = .ok (.istore 11, 2)) (hp : pc + 2 = pc') (hn : Nat.ble 12 (znl y) = true) (hc : 11 = 0 ∨ zc2 y (11 - 1) = false) (k : wW u y b pc' (x0 :: x1 :: x2 :: x3 :: x4 :: x5 :: x6 :: x7 :: x8 :: x9 :: x10 :: .int v :: L) st G F Y c d Q) : wW u y b pc (x0 :: x1 :: x2 :: x3 :: x4 :: x5 :: x6 :: x7 :: x8 :: x9 :: x10 :: x11 :: L) (.int v :: st) G F Y c d Q := by
  subst hp
  refine ws_st (fun n h1 h2 => ⟨w_vs_s (i := 11) (w_vs_h h2) h1, w_vs_t h2⟩) (fun p l e R s m args below meth c0 a0 A D cA Qm ad H locs sl cells slots hC hA hL kk => ?_) k
  obtain ⟨hx, hb, hml, hown, hts, hr, hlk, hnm, hfr, hlo, hce, hse, hK, hZ, hAn, hst⟩ := hC
  exact lv_istore hx hb hd hL.1 (Nat.le_of_ble_eq_true hn) rfl (fun sl' hl' => kk sl' (z_has_set (i := 11) hL.2 rfl rfl (wc_2 hc) hl'))
theorem wi_astore11 {x0 x1 x2 x3 x4 x5 x6 x7 x8 x9 x10 x11 : Value} {v : Nat} (hd : decode (zbc y) pc = .ok (.astore 11, 2)) (hp : pc + 2 = pc') (hn : Nat.ble 12 (znl y) = true) (hc : 11 = 0 ∨ zc2 y (11 - 1) = false) (k : wW u y b pc' (x0 :: x1 :: x2 :: x3 :: x4 :: x5 :: x6 :: x7 :: x8 :: x9 :: x10 :: .ref v :: L) st G F Y c d Q) : wW u y b pc (x0 :: x1 :: x2 :: x3 :: x4 :: x5 :: x6 :: x7 :: x8 :: x9 :: x10 :: x11 :: L) (.ref v :: st) G F Y c d Q := by
  subst hp
  refine ws_st (fun n h1 h2 => ⟨w_vs_s (i := 11) (w_vs_h h2) h1, w_vs_t h2⟩) (fun p l e R s m args below meth c0 a0 A D cA Qm ad H locs sl cells slots hC hA hL kk => ?_) k
  obtain ⟨hx, hb, hml, hown, hts, hr, hlk, hnm, hfr, hlo, hce, hse, hK, hZ, hAn, hst⟩ := hC
  exact lv_astore hx hb hd hL.1 (Nat.le_of_ble_eq_true hn) rfl (fun sl' hl' => kk sl' (z_has_set (i := 11) hL.2 rfl rfl (wc_2 hc) hl'))
theorem wi_iinc11 {x0 x1 x2 x3 x4 x5 x6 x7 x8 x9 x10 : Value} {v z : Int} (hd : decode (zbc y) pc = .ok (.iinc 11 z, 3)) (hp : pc + 3 = pc') (hn : Nat.ble 12 (znl y) = true) (hc : 11 = 0 ∨ zc2 y (11 - 1) = false) (k : wW u y b pc' (x0 :: x1 :: x2 :: x3 :: x4 :: x5 :: x6 :: x7 :: x8 :: x9 :: x10 :: .int (zi (v + z)) :: L) st G F Y c d Q) : wW u y b pc (x0 :: x1 :: x2 :: x3 :: x4 :: x5 :: x6 :: x7 :: x8 :: x9 :: x10 :: .int (zi v) :: L) st G F Y c d Q := by
  subst hp
  refine ws_st (fun n h1 h2 => ⟨w_vs_s (i := 11) (w_v_i n _) h1, h2⟩) (fun p l e R s m args below meth c0 a0 A D cA Qm ad H locs sl cells slots hC hA hL kk => ?_) k
  obtain ⟨hx, hb, hml, hown, hts, hr, hlk, hnm, hfr, hlo, hce, hse, hK, hZ, hAn, hst⟩ := hC
  have hm : (11, Value.int (zi v)) ∈ z_prs ad 0 (x0 :: x1 :: x2 :: x3 :: x4 :: x5 :: x6 :: x7 :: x8 :: x9 :: x10 :: .int (zi v) :: L) := (z_prs_mem ad _ 0 _).mpr ⟨11, .int (zi v), rfl, (by intro e; cases e), rfl⟩
  obtain ⟨q, hq⟩ := List.mem_iff_getElem?.mp hm
  rw [zi_add] at kk
  exact lv_iinc hx hb hd hL.1 hq rfl (Nat.le_of_ble_eq_true hn) rfl (fun sl' hl' => kk sl' (z_has_set (i := 11) hL.2 rfl rfl (wc_2 hc) hl'))
theorem wi_istore12 {x0 x1 x2 x3 x4 x5 x6 x7 x8 x9 x10 x11 x12 : Value} {v : Int32} (hd : decode (zbc y) pc = .ok (.istore 12, 2)) (hp : pc + 2 = pc') (hn : Nat.ble 13 (znl y) = true) (hc : 12 = 0 ∨ zc2 y (12 - 1) = false) (k : wW u y b pc' (x0 :: x1 :: x2 :: x3 :: x4 :: x5 :: x6 :: x7 :: x8 :: x9 :: x10 :: x11 :: .int v :: L) st G F Y c d Q) : wW u y b pc (x0 :: x1 :: x2 :: x3 :: x4 :: x5 :: x6 :: x7 :: x8 :: x9 :: x10 :: x11 :: x12 :: L) (.int v :: st) G F Y c d Q := by
  subst hp
  refine ws_st (fun n h1 h2 => ⟨w_vs_s (i := 12) (w_vs_h h2) h1, w_vs_t h2⟩) (fun p l e R s m args below meth c0 a0 A D cA Qm ad H locs sl cells slots hC hA hL kk => ?_) k
  obtain ⟨hx, hb, hml, hown, hts, hr, hlk, hnm, hfr, hlo, hce, hse, hK, hZ, hAn, hst⟩ := hC
  exact lv_istore hx hb hd hL.1 (Nat.le_of_ble_eq_true hn) rfl (fun sl' hl' => kk sl' (z_has_set (i := 12) hL.2 rfl rfl (wc_2 hc) hl'))
theorem wi_astore12 {x0 x1 x2 x3 x4 x5 x6 x7 x8 x9 x10 x11 x12 : Value} {v : Nat} (hd : decode (zbc y) pc = .ok (.astore 12, 2)) (hp : pc + 2 = pc') (hn : Nat.ble 13 (znl y) = true) (hc : 12 = 0 ∨ zc2 y (12 - 1) = false) (k : wW u y b pc' (x0 :: x1 :: x2 :: x3 :: x4 :: x5 :: x6 :: x7 :: x8 :: x9 :: x10 :: x11 :: .ref v :: L) st G F Y c d Q) : wW u y b pc (x0 :: x1 :: x2 :: x3 :: x4 :: x5 :: x6 :: x7 :: x8 :: x9 :: x10 :: x11 :: x12 :: L) (.ref v :: st) G F Y c d Q := by
  subst hp
  refine ws_st (fun n h1 h2 => ⟨w_vs_s (i := 12) (w_vs_h h2) h1, w_vs_t h2⟩) (fun p l e R s m args below meth c0 a0 A D cA Qm ad H locs sl cells slots hC hA hL kk => ?_) k
  obtain ⟨hx, hb, hml, hown, hts, hr, hlk, hnm, hfr, hlo, hce, hse, hK, hZ, hAn, hst⟩ := hC
  exact lv_astore hx hb hd hL.1 (Nat.le_of_ble_eq_true hn) rfl (fun sl' hl' => kk sl' (z_has_set (i := 12) hL.2 rfl rfl (wc_2 hc) hl'))
theorem wi_iinc12 {x0 x1 x2 x3 x4 x5 x6 x7 x8 x9 x10 x11 : Value} {v z : Int} (hd : decode (zbc y) pc = .ok (.iinc 12 z, 3)) (hp : pc + 3 = pc') (hn : Nat.ble 13 (znl y) = true) (hc : 12 = 0 ∨ zc2 y (12 - 1) = false) (k : wW u y b pc' (x0 :: x1 :: x2 :: x3 :: x4 :: x5 :: x6 :: x7 :: x8 :: x9 :: x10 :: x11 :: .int (zi (v + z)) :: L) st G F Y c d Q) : wW u y b pc (x0 :: x1 :: x2 :: x3 :: x4 :: x5 :: x6 :: x7 :: x8 :: x9 :: x10 :: x11 :: .int (zi v) :: L) st G F Y c d Q := by
  subst hp
  refine ws_st (fun n h1 h2 => ⟨w_vs_s (i := 12) (w_v_i n _) h1, h2⟩) (fun p l e R s m args below meth c0 a0 A D cA Qm ad H locs sl cells slots hC hA hL kk => ?_) k
  obtain ⟨hx, hb, hml, hown, hts, hr, hlk, hnm, hfr, hlo, hce, hse, hK, hZ, hAn, hst⟩ := hC
  have hm : (12, Value.int (zi v)) ∈ z_prs ad 0 (x0 :: x1 :: x2 :: x3 :: x4 :: x5 :: x6 :: x7 :: x8 :: x9 :: x10 :: x11 :: .int (zi v) :: L) := (z_prs_mem ad _ 0 _).mpr ⟨12, .int (zi v), rfl, (by intro e; cases e), rfl⟩
  obtain ⟨q, hq⟩ := List.mem_iff_getElem?.mp hm
  rw [zi_add] at kk
  exact lv_iinc hx hb hd hL.1 hq rfl (Nat.le_of_ble_eq_true hn) rfl (fun sl' hl' => kk sl' (z_has_set (i := 12) hL.2 rfl rfl (wc_2 hc) hl'))
theorem wi_istore13 {x0 x1 x2 x3 x4 x5 x6 x7 x8 x9 x10 x11 x12 x13 : Value} {v : Int32} (hd : decode (zbc y) pc = .ok (.istore 13, 2)) (hp : pc + 2 = pc') (hn : Nat.ble 14 (znl y) = true) (hc : 13 = 0 ∨ zc2 y (13 - 1) = false) (k : wW u y b pc' (x0 :: x1 :: x2 :: x3 :: x4 :: x5 :: x6 :: x7 :: x8 :: x9 :: x10 :: x11 :: x12 :: .int v :: L) st G F Y c d Q) : wW u y b pc (x0 :: x1 :: x2 :: x3 :: x4 :: x5 :: x6 :: x7 :: x8 :: x9 :: x10 :: x11 :: x12 :: x13 :: L) (.int v :: st) G F Y c d Q := by
  subst hp
  refine ws_st (fun n h1 h2 => ⟨w_vs_s (i := 13) (w_vs_h h2) h1, w_vs_t h2⟩) (fun p l e R s m args below meth c0 a0 A D cA Qm ad H locs sl cells slots hC hA hL kk => ?_) k
  obtain ⟨hx, hb, hml, hown, hts, hr, hlk, hnm, hfr, hlo, hce, hse, hK, hZ, hAn, hst⟩ := hC
  exact lv_istore hx hb hd hL.1 (Nat.le_of_ble_eq_true hn) rfl (fun sl' hl' => kk sl' (z_has_set (i := 13) hL.2 rfl rfl (wc_2 hc) hl'))
theorem wi_astore13 {x0 x1 x2 x3 x4 x5 x6 x7 x8 x9 x10 x11 x12 x13 : Value} {v : Nat} (hd : decode (zbc y) pc = .ok (.astore 13, 2)) (hp : pc + 2 = pc') (hn : Nat.ble 14 (znl y) = true) (hc : 13 = 0 ∨ zc2 y (13 - 1) = false) (k : wW u y b pc' (x0 :: x1 :: x2 :: x3 :: x4 :: x5 :: x6 :: x7 :: x8 :: x9 :: x10 :: x11 :: x12 :: .ref v :: L) st G F Y c d Q) : wW u y b pc (x0 :: x1 :: x2 :: x3 :: x4 :: x5 :: x6 :: x7 :: x8 :: x9 :: x10 :: x11 :: x12 :: x13 :: L) (.ref v :: st) G F Y c d Q := by
  subst hp
  refine ws_st (fun n h1 h2 => ⟨w_vs_s (i := 13) (w_vs_h h2) h1, w_vs_t h2⟩) (fun p l e R s m args below meth c0 a0 A D cA Qm ad H locs sl cells slots hC hA hL kk => ?_) k
  obtain ⟨hx, hb, hml, hown, hts, hr, hlk, hnm, hfr, hlo, hce, hse, hK, hZ, hAn, hst⟩ := hC
  exact lv_astore hx hb hd hL.1 (Nat.le_of_ble_eq_true hn) rfl (fun sl' hl' => kk sl' (z_has_set (i := 13) hL.2 rfl rfl (wc_2 hc) hl'))
theorem wi_iinc13 {x0 x1 x2 x3 x4 x5 x6 x7 x8 x9 x10 x11 x12 : Value} {v z : Int} (hd : decode (zbc y) pc = .ok (.iinc 13 z, 3)) (hp : pc + 3 = pc') (hn : Nat.ble 14 (znl y) = true) (hc : 13 = 0 ∨ zc2 y (13 - 1) = false) (k : wW u y b pc' (x0 :: x1 :: x2 :: x3 :: x4 :: x5 :: x6 :: x7 :: x8 :: x9 :: x10 :: x11 :: x12 :: .int (zi (v + z)) :: L) st G F Y c d Q) : wW u y b pc (x0 :: x1 :: x2 :: x3 :: x4 :: x5 :: x6 :: x7 :: x8 :: x9 :: x10 :: x11 :: x12 :: .int (zi v) :: L) st G F Y c d Q := by
  subst hp
  refine ws_st (fun n h1 h2 => ⟨w_vs_s (i := 13) (w_v_i n _) h1, h2⟩) (fun p l e R s m args below meth c0 a0 A D cA Qm ad H locs sl cells slots hC hA hL kk => ?_) k
  obtain ⟨hx, hb, hml, hown, hts, hr, hlk, hnm, hfr, hlo, hce, hse, hK, hZ, hAn, hst⟩ := hC
  have hm : (13, Value.int (zi v)) ∈ z_prs ad 0 (x0 :: x1 :: x2 :: x3 :: x4 :: x5 :: x6 :: x7 :: x8 :: x9 :: x10 :: x11 :: x12 :: .int (zi v) :: L) := (z_prs_mem ad _ 0 _).mpr ⟨13, .int (zi v), rfl, (by intro e; cases e), rfl⟩
  obtain ⟨q, hq⟩ := List.mem_iff_getElem?.mp hm
  rw [zi_add] at kk
  exact lv_iinc hx hb hd hL.1 hq rfl (Nat.le_of_ble_eq_true hn) rfl (fun sl' hl' => kk sl' (z_has_set (i := 13) hL.2 rfl rfl (wc_2 hc) hl'))
theorem wi_istore14 {x0 x1 x2 x3 x4 x5 x6 x7 x8 x9 x10 x11 x12 x13 x14 : Value} {v : Int32} (hd : decode (zbc y) pc = .ok (.istore 14, 2)) (hp : pc + 2 = pc') (hn : Nat.ble 15 (znl y) = true) (hc : 14 = 0 ∨ zc2 y (14 - 1) = false) (k : wW u y b pc' (x0 :: x1 :: x2 :: x3 :: x4 :: x5 :: x6 :: x7 :: x8 :: x9 :: x10 :: x11 :: x12 :: x13 :: .int v :: L) st G F Y c d Q) : wW u y b pc (x0 :: x1 :: x2 :: x3 :: x4 :: x5 :: x6 :: x7 :: x8 :: x9 :: x10 :: x11 :: x12 :: x13 :: x14 :: L) (.int v :: st) G F Y c d Q := by
  subst hp
  refine ws_st (fun n h1 h2 => ⟨w_vs_s (i := 14) (w_vs_h h2) h1, w_vs_t h2⟩) (fun p l e R s m args below meth c0 a0 A D cA Qm ad H locs sl cells slots hC hA hL kk => ?_) k
  obtain ⟨hx, hb, hml, hown, hts, hr, hlk, hnm, hfr, hlo, hce, hse, hK, hZ, hAn, hst⟩ := hC
  exact lv_istore hx hb hd hL.1 (Nat.le_of_ble_eq_true hn) rfl (fun sl' hl' => kk sl' (z_has_set (i := 14) hL.2 rfl rfl (wc_2 hc) hl'))
theorem wi_astore14 {x0 x1 x2 x3 x4 x5 x6 x7 x8 x9 x10 x11 x12 x13 x14 : Value} {v : Nat} (hd : decode (zbc y) pc = .ok (.astore 14, 2)) (hp : pc + 2 = pc') (hn : Nat.ble 15 (znl y) = true) (hc : 14 = 0 ∨ zc2 y (14 - 1) = false) (k : wW u y b pc' (x0 :: x1 :: x2 :: x3 :: x4 :: x5 :: x6 :: x7 :: x8 :: x9 :: x10 :: x11 :: x12 :: x13 :: .ref v :: L) st G F Y c d Q) : wW u y b pc (x0 :: x1 :: x2 :: x3 :: x4 :: x5 :: x6 :: x7 :: x8 :: x9 :: x10 :: x11 :: x12 :: x13 :: x14 :: L) (.ref v :: st) G F Y c d Q := by
  subst hp
  refine ws_st (fun n h1 h2 => ⟨w_vs_s (i := 14) (w_vs_h h2) h1, w_vs_t h2⟩) (fun p l e R s m args below meth c0 a0 A D cA Qm ad H locs sl cells slots hC hA hL kk => ?_) k
  obtain ⟨hx, hb, hml, hown, hts, hr, hlk, hnm, hfr, hlo, hce, hse, hK, hZ, hAn, hst⟩ := hC
  exact lv_astore hx hb hd hL.1 (Nat.le_of_ble_eq_true hn) rfl (fun sl' hl' => kk sl' (z_has_set (i := 14) hL.2 rfl rfl (wc_2 hc) hl'))
theorem wi_iinc14 {x0 x1 x2 x3 x4 x5 x6 x7 x8 x9 x10 x11 x12 x13 : Value} {v z : Int} (hd : decode (zbc y) pc = .ok (.iinc 14 z, 3)) (hp : pc + 3 = pc') (hn : Nat.ble 15 (znl y) = true) (hc : 14 = 0 ∨ zc2 y (14 - 1) = false) (k : wW u y b pc' (x0 :: x1 :: x2 :: x3 :: x4 :: x5 :: x6 :: x7 :: x8 :: x9 :: x10 :: x11 :: x12 :: x13 :: .int (zi (v + z)) :: L) st G F Y c d Q) : wW u y b pc (x0 :: x1 :: x2 :: x3 :: x4 :: x5 :: x6 :: x7 :: x8 :: x9 :: x10 :: x11 :: x12 :: x13 :: .int (zi v) :: L) st G F Y c d Q := by
  subst hp
  refine ws_st (fun n h1 h2 => ⟨w_vs_s (i := 14) (w_v_i n _) h1, h2⟩) (fun p l e R s m args below meth c0 a0 A D cA Qm ad H locs sl cells slots hC hA hL kk => ?_) k
  obtain ⟨hx, hb, hml, hown, hts, hr, hlk, hnm, hfr, hlo, hce, hse, hK, hZ, hAn, hst⟩ := hC
  have hm : (14, Value.int (zi v)) ∈ z_prs ad 0 (x0 :: x1 :: x2 :: x3 :: x4 :: x5 :: x6 :: x7 :: x8 :: x9 :: x10 :: x11 :: x12 :: x13 :: .int (zi v) :: L) := (z_prs_mem ad _ 0 _).mpr ⟨14, .int (zi v), rfl, (by intro e; cases e), rfl⟩
  obtain ⟨q, hq⟩ := List.mem_iff_getElem?.mp hm
  rw [zi_add] at kk
  exact lv_iinc hx hb hd hL.1 hq rfl (Nat.le_of_ble_eq_true hn) rfl (fun sl' hl' => kk sl' (z_has_set (i := 14) hL.2 rfl rfl (wc_2 hc) hl'))
theorem wi_lstore0 {q : Fin 4} {x0 x1 : Value} {v : Int64} (hd : decode (zbc y) pc = .ok (.lstore_n q, 1)) (hp : pc + 1 = pc') (hi : (q : Nat) = 0) (hn : Nat.ble 2 (znl y) = true) (h2 : zc2 y 0 = true) (hc : 0 = 0 ∨ zc2 y (0 - 1) = false) (k : wW u y b pc' (.long v :: .null :: L) st G F Y c d Q) : wW u y b pc (x0 :: x1 :: L) (.long v :: st) G F Y c d Q := by
  subst hp
  refine ws_st (fun n h1 h2 => ⟨w_vs_s (i := 1) (w_v_n n) (w_vs_s (i := 0) (w_vs_h h2) h1), w_vs_t h2⟩) (fun p l e R s m args below meth c0 a0 A D cA Qm ad H locs sl cells slots hC hA hL kk => ?_) k
  obtain ⟨hx, hb, hml, hown, hts, hr, hlk, hnm, hfr, hlo, hce, hse, hK, hZ, hAn, hst⟩ := hC
  exact lv_lstore_n hx hb hd hi hL.1 (Nat.le_of_ble_eq_true hn) rfl (fun sl' hl' => kk sl' (z_has_set2 (i := 0) hL.2 rfl h2 (wc_2 hc) hl'))
theorem wi_lstore1 {q : Fin 4} {x0 x1 x2 : Value} {v : Int64} (hd : decode (zbc y) pc = .ok (.lstore_n q, 1)) (hp : pc + 1 = pc') (hi : (q : Nat) = 1) (hn : Nat.ble 3 (znl y) = true) (h2 : zc2 y 1 = true) (hc : 1 = 0 ∨ zc2 y (1 - 1) = false) (k : wW u y b pc' (x0 :: .long v :: .null :: L) st G F Y c d Q) : wW u y b pc (x0 :: x1 :: x2 :: L) (.long v :: st) G F Y c d Q := by
  subst hp
  refine ws_st (fun n h1 h2 => ⟨w_vs_s (i := 2) (w_v_n n) (w_vs_s (i := 1) (w_vs_h h2) h1), w_vs_t h2⟩) (fun p l e R s m args below meth c0 a0 A D cA Qm ad H locs sl cells slots hC hA hL kk => ?_) k
  obtain ⟨hx, hb, hml, hown, hts, hr, hlk, hnm, hfr, hlo, hce, hse, hK, hZ, hAn, hst⟩ := hC
  exact lv_lstore_n hx hb hd hi hL.1 (Nat.le_of_ble_eq_true hn) rfl (fun sl' hl' => kk sl' (z_has_set2 (i := 1) hL.2 rfl h2 (wc_2 hc) hl'))
theorem wi_lstore2 {q : Fin 4} {x0 x1 x2 x3 : Value} {v : Int64} (hd : decode (zbc y) pc = .ok (.lstore_n q, 1)) (hp : pc + 1 = pc') (hi : (q : Nat) = 2) (hn : Nat.ble 4 (znl y) = true) (h2 : zc2 y 2 = true) (hc : 2 = 0 ∨ zc2 y (2 - 1) = false) (k : wW u y b pc' (x0 :: x1 :: .long v :: .null :: L) st G F Y c d Q) : wW u y b pc (x0 :: x1 :: x2 :: x3 :: L) (.long v :: st) G F Y c d Q := by
  subst hp
  refine ws_st (fun n h1 h2 => ⟨w_vs_s (i := 3) (w_v_n n) (w_vs_s (i := 2) (w_vs_h h2) h1), w_vs_t h2⟩) (fun p l e R s m args below meth c0 a0 A D cA Qm ad H locs sl cells slots hC hA hL kk => ?_) k
  obtain ⟨hx, hb, hml, hown, hts, hr, hlk, hnm, hfr, hlo, hce, hse, hK, hZ, hAn, hst⟩ := hC
  exact lv_lstore_n hx hb hd hi hL.1 (Nat.le_of_ble_eq_true hn) rfl (fun sl' hl' => kk sl' (z_has_set2 (i := 2) hL.2 rfl h2 (wc_2 hc) hl'))
theorem wi_lstore3 {q : Fin 4} {x0 x1 x2 x3 x4 : Value} {v : Int64} (hd : decode (zbc y) pc = .ok (.lstore_n q, 1)) (hp : pc + 1 = pc') (hi : (q : Nat) = 3) (hn : Nat.ble 5 (znl y) = true) (h2 : zc2 y 3 = true) (hc : 3 = 0 ∨ zc2 y (3 - 1) = false) (k : wW u y b pc' (x0 :: x1 :: x2 :: .long v :: .null :: L) st G F Y c d Q) : wW u y b pc (x0 :: x1 :: x2 :: x3 :: x4 :: L) (.long v :: st) G F Y c d Q := by
  subst hp
  refine ws_st (fun n h1 h2 => ⟨w_vs_s (i := 4) (w_v_n n) (w_vs_s (i := 3) (w_vs_h h2) h1), w_vs_t h2⟩) (fun p l e R s m args below meth c0 a0 A D cA Qm ad H locs sl cells slots hC hA hL kk => ?_) k
  obtain ⟨hx, hb, hml, hown, hts, hr, hlk, hnm, hfr, hlo, hce, hse, hK, hZ, hAn, hst⟩ := hC
  exact lv_lstore_n hx hb hd hi hL.1 (Nat.le_of_ble_eq_true hn) rfl (fun sl' hl' => kk sl' (z_has_set2 (i := 3) hL.2 rfl h2 (wc_2 hc) hl'))
theorem wi_lstore4 {x0 x1 x2 x3 x4 x5 : Value} {v : Int64} (hd : decode (zbc y) pc = .ok (.lstore 4, 2)) (hp : pc + 2 = pc') (hn : Nat.ble 6 (znl y) = true) (h2 : zc2 y 4 = true) (hc : 4 = 0 ∨ zc2 y (4 - 1) = false) (k : wW u y b pc' (x0 :: x1 :: x2 :: x3 :: .long v :: .null :: L) st G F Y c d Q) : wW u y b pc (x0 :: x1 :: x2 :: x3 :: x4 :: x5 :: L) (.long v :: st) G F Y c d Q := by
  subst hp
  refine ws_st (fun n h1 h2 => ⟨w_vs_s (i := 5) (w_v_n n) (w_vs_s (i := 4) (w_vs_h h2) h1), w_vs_t h2⟩) (fun p l e R s m args below meth c0 a0 A D cA Qm ad H locs sl cells slots hC hA hL kk => ?_) k
  obtain ⟨hx, hb, hml, hown, hts, hr, hlk, hnm, hfr, hlo, hce, hse, hK, hZ, hAn, hst⟩ := hC
  exact lv_lstore hx hb hd hL.1 (Nat.le_of_ble_eq_true hn) rfl (fun sl' hl' => kk sl' (z_has_set2 (i := 4) hL.2 rfl h2 (wc_2 hc) hl'))
theorem wi_lstore5 {x0 x1 x2 x3 x4 x5 x6 : Value} {v : Int64} (hd : decode (zbc y) pc = .ok (.lstore 5, 2)) (hp : pc + 2 = pc') (hn : Nat.ble 7 (znl y) = true) (h2 : zc2 y 5 = true) (hc : 5 = 0 ∨ zc2 y (5 - 1) = false) (k : wW u y b pc' (x0 :: x1 :: x2 :: x3 :: x4 :: .long v :: .null :: L) st G F Y c d Q) : wW u y b pc (x0 :: x1 :: x2 :: x3 :: x4 :: x5 :: x6 :: L) (.long v :: st) G F Y c d Q := by
  subst hp
  refine ws_st (fun n h1 h2 => ⟨w_vs_s (i := 6) (w_v_n n) (w_vs_s (i := 5) (w_vs_h h2) h1), w_vs_t h2⟩) (fun p l e R s m args below meth c0 a0 A D cA Qm ad H locs sl cells slots hC hA hL kk => ?_) k
  obtain ⟨hx, hb, hml, hown, hts, hr, hlk, hnm, hfr, hlo, hce, hse, hK, hZ, hAn, hst⟩ := hC
  exact lv_lstore hx hb hd hL.1 (Nat.le_of_ble_eq_true hn) rfl (fun sl' hl' => kk sl' (z_has_set2 (i := 5) hL.2 rfl h2 (wc_2 hc) hl'))
theorem wi_dupI {v : Int32} (hd : decode (zbc y) pc = .ok (.dup, 1)) (hp : pc + 1 = pc')  (k : wW u y b pc' L (.int v :: .int v :: st) G F Y c d Q) : wW u y b pc L (.int v :: st) G F Y c d Q := by
  subst hp
  refine ws_st (fun n h1 h2 => ⟨h1, w_vs_c (w_v_i n _) h2⟩) (fun p l e R s m args below meth c0 a0 A D cA Qm ad H locs sl cells slots hC hA hL kk => ?_) k
  obtain ⟨hx, hb, hml, hown, hts, hr, hlk, hnm, hfr, hlo, hce, hse, hK, hZ, hAn, hst⟩ := hC
  exact lv_dup hx hb hd rfl (kk sl hL)
theorem wi_dupR {v : Nat} (hd : decode (zbc y) pc = .ok (.dup, 1)) (hp : pc + 1 = pc')  (k : wW u y b pc' L (.ref v :: .ref v :: st) G F Y c d Q) : wW u y b pc L (.ref v :: st) G F Y c d Q := by
  subst hp
  refine ws_st (fun n h1 h2 => ⟨h1, w_vs_c (w_vs_h h2) h2⟩) (fun p l e R s m args below meth c0 a0 A D cA Qm ad H locs sl cells slots hC hA hL kk => ?_) k
  obtain ⟨hx, hb, hml, hown, hts, hr, hlk, hnm, hfr, hlo, hce, hse, hK, hZ, hAn, hst⟩ := hC
  exact lv_dup hx hb hd rfl (kk sl hL)
theorem wi_dup_x1 {v : Int32} {r : Nat} (hd : decode (zbc y) pc = .ok (.dup_x1, 1)) (hp : pc + 1 = pc')  (k : wW u y b pc' L (.int v :: .ref r :: .int v :: st) G F Y c d Q) : wW u y b pc L (.int v :: .ref r :: st) G F Y c d Q := by
  subst hp
  refine ws_st (fun n h1 h2 => ⟨h1, w_vs_c (w_v_i n _) (w_vs_c (w_vs_h (w_vs_t h2)) (w_vs_c (w_v_i n _) (w_vs_t (w_vs_t h2))))⟩) (fun p l e R s m args below meth c0 a0 A D cA Qm ad H locs sl cells slots hC hA hL kk => ?_) k
  obtain ⟨hx, hb, hml, hown, hts, hr, hlk, hnm, hfr, hlo, hce, hse, hK, hZ, hAn, hst⟩ := hC
  exact lv_dup_x1 hx hb hd rfl rfl (kk sl hL)
theorem wi_dup2 {v : Int32} {r : Nat} (hd : decode (zbc y) pc = .ok (.dup2, 1)) (hp : pc + 1 = pc')  (k : wW u y b pc' L (.int v :: .ref r :: .int v :: .ref r :: st) G F Y c d Q) : wW u y b pc L (.int v :: .ref r :: st) G F Y c d Q := by
  subst hp
  refine ws_st (fun n h1 h2 => ⟨h1, w_vs_c (w_v_i n _) (w_vs_c (w_vs_h (w_vs_t h2)) h2)⟩) (fun p l e R s m args below meth c0 a0 A D cA Qm ad H locs sl cells slots hC hA hL kk => ?_) k
  obtain ⟨hx, hb, hml, hown, hts, hr, hlk, hnm, hfr, hlo, hce, hse, hK, hZ, hAn, hst⟩ := hC
  exact lv_dup2_11 hx hb hd rfl rfl (kk sl hL)
theorem wi_popI {v : Int32} (hd : decode (zbc y) pc = .ok (.pop, 1)) (hp : pc + 1 = pc')  (k : wW u y b pc' L st G F Y c d Q) : wW u y b pc L (.int v :: st) G F Y c d Q := by
  subst hp
  refine ws_st (fun n h1 h2 => ⟨h1, w_vs_t h2⟩) (fun p l e R s m args below meth c0 a0 A D cA Qm ad H locs sl cells slots hC hA hL kk => ?_) k
  obtain ⟨hx, hb, hml, hown, hts, hr, hlk, hnm, hfr, hlo, hce, hse, hK, hZ, hAn, hst⟩ := hC
  exact lv_pop hx hb hd rfl (kk sl hL)
theorem wi_popR {v : Nat} (hd : decode (zbc y) pc = .ok (.pop, 1)) (hp : pc + 1 = pc')  (k : wW u y b pc' L st G F Y c d Q) : wW u y b pc L (.ref v :: st) G F Y c d Q := by
  subst hp
  refine ws_st (fun n h1 h2 => ⟨h1, w_vs_t h2⟩) (fun p l e R s m args below meth c0 a0 A D cA Qm ad H locs sl cells slots hC hA hL kk => ?_) k
  obtain ⟨hx, hb, hml, hown, hts, hr, hlk, hnm, hfr, hlo, hce, hse, hK, hZ, hAn, hst⟩ := hC
  exact lv_pop hx hb hd rfl (kk sl hL)
theorem wi_iadd {a a2 : Int} (hd : decode (zbc y) pc = .ok (.iadd, 1)) (hp : pc + 1 = pc')  (k : wW u y b pc' L (.int (zi (a + a2)) :: st) G F Y c d Q) : wW u y b pc L (.int (zi a2) :: .int (zi a) :: st) G F Y c d Q := by
  subst hp
  refine ws_st (fun n h1 h2 => ⟨h1, w_vs_c (w_v_i n _) (w_vs_t (w_vs_t h2))⟩) (fun p l e R s m args below meth c0 a0 A D cA Qm ad H locs sl cells slots hC hA hL kk => ?_) k
  obtain ⟨hx, hb, hml, hown, hts, hr, hlk, hnm, hfr, hlo, hce, hse, hK, hZ, hAn, hst⟩ := hC
  rw [zi_add] at kk
  exact lv_iadd hx hb hd (kk sl hL)
theorem wi_isub {a a2 : Int} (hd : decode (zbc y) pc = .ok (.isub, 1)) (hp : pc + 1 = pc')  (k : wW u y b pc' L (.int (zi (a - a2)) :: st) G F Y c d Q) : wW u y b pc L (.int (zi a2) :: .int (zi a) :: st) G F Y c d Q := by
  subst hp
  refine ws_st (fun n h1 h2 => ⟨h1, w_vs_c (w_v_i n _) (w_vs_t (w_vs_t h2))⟩) (fun p l e R s m args below meth c0 a0 A D cA Qm ad H locs sl cells slots hC hA hL kk => ?_) k
  obtain ⟨hx, hb, hml, hown, hts, hr, hlk, hnm, hfr, hlo, hce, hse, hK, hZ, hAn, hst⟩ := hC
  rw [zi_sub] at kk
  exact lv_isub hx hb hd (kk sl hL)
theorem wi_imul {a a2 : Int} (hd : decode (zbc y) pc = .ok (.imul, 1)) (hp : pc + 1 = pc')  (k : wW u y b pc' L (.int (zi (a * a2)) :: st) G F Y c d Q) : wW u y b pc L (.int (zi a2) :: .int (zi a) :: st) G F Y c d Q := by
  subst hp
  refine ws_st (fun n h1 h2 => ⟨h1, w_vs_c (w_v_i n _) (w_vs_t (w_vs_t h2))⟩) (fun p l e R s m args below meth c0 a0 A D cA Qm ad H locs sl cells slots hC hA hL kk => ?_) k
  obtain ⟨hx, hb, hml, hown, hts, hr, hlk, hnm, hfr, hlo, hce, hse, hK, hZ, hAn, hst⟩ := hC
  rw [zi_mul] at kk
  exact lv_imul hx hb hd (kk sl hL)
theorem wi_iand {a a2 : Int} (hd : decode (zbc y) pc = .ok (.iand, 1)) (hp : pc + 1 = pc')  (k : wW u y b pc' L (.int (zi (zand a a2)) :: st) G F Y c d Q) : wW u y b pc L (.int (zi a2) :: .int (zi a) :: st) G F Y c d Q := by
  subst hp
  refine ws_st (fun n h1 h2 => ⟨h1, w_vs_c (w_v_i n _) (w_vs_t (w_vs_t h2))⟩) (fun p l e R s m args below meth c0 a0 A D cA Qm ad H locs sl cells slots hC hA hL kk => ?_) k
  obtain ⟨hx, hb, hml, hown, hts, hr, hlk, hnm, hfr, hlo, hce, hse, hK, hZ, hAn, hst⟩ := hC
  unfold zand at kk
  rw [zi_of] at kk
  exact lv_iand hx hb hd (kk sl hL)
theorem wi_ior {a a2 : Int} (hd : decode (zbc y) pc = .ok (.ior, 1)) (hp : pc + 1 = pc')  (k : wW u y b pc' L (.int (zi (zor a a2)) :: st) G F Y c d Q) : wW u y b pc L (.int (zi a2) :: .int (zi a) :: st) G F Y c d Q := by
  subst hp
  refine ws_st (fun n h1 h2 => ⟨h1, w_vs_c (w_v_i n _) (w_vs_t (w_vs_t h2))⟩) (fun p l e R s m args below meth c0 a0 A D cA Qm ad H locs sl cells slots hC hA hL kk => ?_) k
  obtain ⟨hx, hb, hml, hown, hts, hr, hlk, hnm, hfr, hlo, hce, hse, hK, hZ, hAn, hst⟩ := hC
  unfold zor at kk
  rw [zi_of] at kk
  exact lv_ior hx hb hd (kk sl hL)
theorem wi_ishl {a a2 : Int} (hd : decode (zbc y) pc = .ok (.ishl, 1)) (hp : pc + 1 = pc')  (k : wW u y b pc' L (.int (zi (zshl a a2)) :: st) G F Y c d Q) : wW u y b pc L (.int (zi a2) :: .int (zi a) :: st) G F Y c d Q := by
  subst hp
  refine ws_st (fun n h1 h2 => ⟨h1, w_vs_c (w_v_i n _) (w_vs_t (w_vs_t h2))⟩) (fun p l e R s m args below meth c0 a0 A D cA Qm ad H locs sl cells slots hC hA hL kk => ?_) k
  obtain ⟨hx, hb, hml, hown, hts, hr, hlk, hnm, hfr, hlo, hce, hse, hK, hZ, hAn, hst⟩ := hC
  unfold zshl at kk
  rw [zi_of] at kk
  exact lv_ishl hx hb hd (kk sl hL)
theorem wi_ishr {a a2 : Int} (hd : decode (zbc y) pc = .ok (.ishr, 1)) (hp : pc + 1 = pc')  (k : wW u y b pc' L (.int (zi (zshr a a2)) :: st) G F Y c d Q) : wW u y b pc L (.int (zi a2) :: .int (zi a) :: st) G F Y c d Q := by
  subst hp
  refine ws_st (fun n h1 h2 => ⟨h1, w_vs_c (w_v_i n _) (w_vs_t (w_vs_t h2))⟩) (fun p l e R s m args below meth c0 a0 A D cA Qm ad H locs sl cells slots hC hA hL kk => ?_) k
  obtain ⟨hx, hb, hml, hown, hts, hr, hlk, hnm, hfr, hlo, hce, hse, hK, hZ, hAn, hst⟩ := hC
  unfold zshr at kk
  rw [zi_of] at kk
  exact lv_ishr hx hb hd (kk sl hL)
theorem wi_idiv {a a2 : Int} (hd : decode (zbc y) pc = .ok (.idiv, 1)) (hp : pc + 1 = pc') (ha : 0 ≤ a ∧ a ≤ 2147483647) (hb9 : 0 < a2 ∧ a2 ≤ 2147483647) (k : wW u y b pc' L (.int (zi (a / a2)) :: st) G F Y c d Q) : wW u y b pc L (.int (zi a2) :: .int (zi a) :: st) G F Y c d Q := by
  subst hp
  refine ws_st (fun n h1 h2 => ⟨h1, w_vs_c (w_v_i n _) (w_vs_t (w_vs_t h2))⟩) (fun p l e R s m args below meth c0 a0 A D cA Qm ad H locs sl cells slots hC hA hL kk => ?_) k
  obtain ⟨hx, hb, hml, hown, hts, hr, hlk, hnm, hfr, hlo, hce, hse, hK, hZ, hAn, hst⟩ := hC
  rw [← zi_div ha hb9] at kk
  exact lv_idiv hx hb hd (by intro h; have := (zi_eq ⟨by omega, hb9.2⟩ zr0).mp h; omega) (kk sl hL)
theorem wi_irem {a a2 : Int} (hd : decode (zbc y) pc = .ok (.irem, 1)) (hp : pc + 1 = pc') (ha : 0 ≤ a ∧ a ≤ 2147483647) (hb9 : 0 < a2 ∧ a2 ≤ 2147483647) (k : wW u y b pc' L (.int (zi (a % a2)) :: st) G F Y c d Q) : wW u y b pc L (.int (zi a2) :: .int (zi a) :: st) G F Y c d Q := by
  subst hp
  refine ws_st (fun n h1 h2 => ⟨h1, w_vs_c (w_v_i n _) (w_vs_t (w_vs_t h2))⟩) (fun p l e R s m args below meth c0 a0 A D cA Qm ad H locs sl cells slots hC hA hL kk => ?_) k
  obtain ⟨hx, hb, hml, hown, hts, hr, hlk, hnm, hfr, hlo, hce, hse, hK, hZ, hAn, hst⟩ := hC
  rw [← zi_mod ha hb9] at kk
  exact lv_irem hx hb hd (by intro h; have := (zi_eq ⟨by omega, hb9.2⟩ zr0).mp h; omega) (kk sl hL)
theorem wi_ineg {a : Int} (hd : decode (zbc y) pc = .ok (.ineg, 1)) (hp : pc + 1 = pc')  (k : wW u y b pc' L (.int (zi (-a)) :: st) G F Y c d Q) : wW u y b pc L (.int (zi a) :: st) G F Y c d Q := by
  subst hp
  refine ws_st (fun n h1 h2 => ⟨h1, w_vs_c (w_v_i n _) (w_vs_t h2)⟩) (fun p l e R s m args below meth c0 a0 A D cA Qm ad H locs sl cells slots hC hA hL kk => ?_) k
  obtain ⟨hx, hb, hml, hown, hts, hr, hlk, hnm, hfr, hlo, hce, hse, hK, hZ, hAn, hst⟩ := hC
  have e9 : zi (-a) = - zi a := Int32.ofInt_neg a
  rw [e9] at kk
  exact lv_ineg hx hb hd (kk sl hL)
theorem wi_ladd {a a2 : Int} (hd : decode (zbc y) pc = .ok (.ladd, 1)) (hp : pc + 1 = pc')  (k : wW u y b pc' L (.long (zl (a + a2)) :: st) G F Y c d Q) : wW u y b pc L (.long (zl a2) :: .long (zl a) :: st) G F Y c d Q := by
  subst hp
  refine ws_st (fun n h1 h2 => ⟨h1, w_vs_c (w_v_l n _) (w_vs_t (w_vs_t h2))⟩) (fun p l e R s m args below meth c0 a0 A D cA Qm ad H locs sl cells slots hC hA hL kk => ?_) k
  obtain ⟨hx, hb, hml, hown, hts, hr, hlk, hnm, hfr, hlo, hce, hse, hK, hZ, hAn, hst⟩ := hC
  rw [zl_add] at kk
  exact lv_ladd hx hb hd (kk sl hL)
theorem wi_lmul {a a2 : Int} (hd : decode (zbc y) pc = .ok (.lmul, 1)) (hp : pc + 1 = pc')  (k : wW u y b pc' L (.long (zl (a * a2)) :: st) G F Y c d Q) : wW u y b pc L (.long (zl a2) :: .long (zl a) :: st) G F Y c d Q := by
  subst hp
  refine ws_st (fun n h1 h2 => ⟨h1, w_vs_c (w_v_l n _) (w_vs_t (w_vs_t h2))⟩) (fun p l e R s m args below meth c0 a0 A D cA Qm ad H locs sl cells slots hC hA hL kk => ?_) k
  obtain ⟨hx, hb, hml, hown, hts, hr, hlk, hnm, hfr, hlo, hce, hse, hK, hZ, hAn, hst⟩ := hC
  rw [zl_mul] at kk
  exact lv_lmul hx hb hd (kk sl hL)
theorem wi_lsub {a a2 : Int} (hd : decode (zbc y) pc = .ok (.lsub, 1)) (hp : pc + 1 = pc')  (k : wW u y b pc' L (.long (zl (a - a2)) :: st) G F Y c d Q) : wW u y b pc L (.long (zl a2) :: .long (zl a) :: st) G F Y c d Q := by
  subst hp
  refine ws_st (fun n h1 h2 => ⟨h1, w_vs_c (w_v_l n _) (w_vs_t (w_vs_t h2))⟩) (fun p l e R s m args below meth c0 a0 A D cA Qm ad H locs sl cells slots hC hA hL kk => ?_) k
  obtain ⟨hx, hb, hml, hown, hts, hr, hlk, hnm, hfr, hlo, hce, hse, hK, hZ, hAn, hst⟩ := hC
  rw [zl_sub] at kk
  exact lv_lsub hx hb hd (kk sl hL)
theorem wi_i2l {a : Int} (hd : decode (zbc y) pc = .ok (.i2l, 1)) (hp : pc + 1 = pc') (ha : zr a) (k : wW u y b pc' L (.long (zl a) :: st) G F Y c d Q) : wW u y b pc L (.int (zi a) :: st) G F Y c d Q := by
  subst hp
  refine ws_st (fun n h1 h2 => ⟨h1, w_vs_c (w_v_l n _) (w_vs_t h2)⟩) (fun p l e R s m args below meth c0 a0 A D cA Qm ad H locs sl cells slots hC hA hL kk => ?_) k
  obtain ⟨hx, hb, hml, hown, hts, hr, hlk, hnm, hfr, hlo, hce, hse, hK, hZ, hAn, hst⟩ := hC
  rw [← zi_i2l ha] at kk
  exact lv_i2l hx hb hd rfl (kk sl hL)
theorem wi_i2b {a : Int} (hd : decode (zbc y) pc = .ok (.i2b, 1)) (hp : pc + 1 = pc')  (k : wW u y b pc' L (.int (zi (a.bmod 256)) :: st) G F Y c d Q) : wW u y b pc L (.int (zi a) :: st) G F Y c d Q := by
  subst hp
  refine ws_st (fun n h1 h2 => ⟨h1, w_vs_c (w_v_i n _) (w_vs_t h2)⟩) (fun p l e R s m args below meth c0 a0 A D cA Qm ad H locs sl cells slots hC hA hL kk => ?_) k
  obtain ⟨hx, hb, hml, hown, hts, hr, hlk, hnm, hfr, hlo, hce, hse, hK, hZ, hAn, hst⟩ := hC
  rw [← zi_i2b] at kk
  exact lv_i2b hx hb hd rfl (kk sl hL)
theorem wi_i2c {a v : Int} (hd : decode (zbc y) pc = .ok (.i2c, 1)) (hp : pc + 1 = pc') (hv : ((zi a).toUInt32 % 65536).toInt32 = zi v) (k : wW u y b pc' L (.int (zi v) :: st) G F Y c d Q) : wW u y b pc L (.int (zi a) :: st) G F Y c d Q := by
  subst hp
  refine ws_st (fun n h1 h2 => ⟨h1, w_vs_c (w_v_i n _) (w_vs_t h2)⟩) (fun p l e R s m args below meth c0 a0 A D cA Qm ad H locs sl cells slots hC hA hL kk => ?_) k
  obtain ⟨hx, hb, hml, hown, hts, hr, hlk, hnm, hfr, hlo, hce, hse, hK, hZ, hAn, hst⟩ := hC
  exact lv_i2c hx hb hd hv (kk sl hL)
theorem wi_i2f {a : Int32} (hd : decode (zbc y) pc = .ok (.i2f, 1)) (hp : pc + 1 = pc')  (k : wW u y b pc' L (.float (FP.i2f a) :: st) G F Y c d Q) : wW u y b pc L (.int a :: st) G F Y c d Q := by
  subst hp
  refine ws_st (fun n h1 h2 => ⟨h1, w_vs_c (w_v_f n _) (w_vs_t h2)⟩) (fun p l e R s m args below meth c0 a0 A D cA Qm ad H locs sl cells slots hC hA hL kk => ?_) k
  obtain ⟨hx, hb, hml, hown, hts, hr, hlk, hnm, hfr, hlo, hce, hse, hK, hZ, hAn, hst⟩ := hC
  exact lv_i2f hx hb hd (kk sl hL)
theorem wi_i2d {a : Int32} (hd : decode (zbc y) pc = .ok (.i2d, 1)) (hp : pc + 1 = pc')  (k : wW u y b pc' L (.double (FP.i2d a) :: st) G F Y c d Q) : wW u y b pc L (.int a :: st) G F Y c d Q := by
  subst hp
  refine ws_st (fun n h1 h2 => ⟨h1, w_vs_c (w_v_d n _) (w_vs_t h2)⟩) (fun p l e R s m args below meth c0 a0 A D cA Qm ad H locs sl cells slots hC hA hL kk => ?_) k
  obtain ⟨hx, hb, hml, hown, hts, hr, hlk, hnm, hfr, hlo, hce, hse, hK, hZ, hAn, hst⟩ := hC
  exact lv_i2d hx hb hd (kk sl hL)
theorem wi_fdiv {a a2 : UInt32} (hd : decode (zbc y) pc = .ok (.fdiv, 1)) (hp : pc + 1 = pc') (hn : FP.fdiv a a2 &&& 0x7fffffff ≤ 0x7f800000) (k : wW u y b pc' L (.float (FP.fdiv a a2) :: st) G F Y c d Q) : wW u y b pc L (.float a2 :: .float a :: st) G F Y c d Q := by
  subst hp
  refine ws_st (fun n h1 h2 => ⟨h1, w_vs_c (w_v_f n _) (w_vs_t (w_vs_t h2))⟩) (fun p l e R s m args below meth c0 a0 A D cA Qm ad H locs sl cells slots hC hA hL kk => ?_) k
  obtain ⟨hx, hb, hml, hown, hts, hr, hlk, hnm, hfr, hlo, hce, hse, hK, hZ, hAn, hst⟩ := hC
  exact lv_fdiv hx hb hd hn (kk sl hL)
theorem wi_ddiv {a a2 : UInt64} (hd : decode (zbc y) pc = .ok (.ddiv, 1)) (hp : pc + 1 = pc') (hn : FP.ddiv a a2 &&& 0x7fffffffffffffff ≤ 0x7ff0000000000000) (k : wW u y b pc' L (.double (FP.ddiv a a2) :: st) G F Y c d Q) : wW u y b pc L (.double a2 :: .double a :: st) G F Y c d Q := by
  subst hp
  refine ws_st (fun n h1 h2 => ⟨h1, w_vs_c (w_v_d n _) (w_vs_t (w_vs_t h2))⟩) (fun p l e R s m args below meth c0 a0 A D cA Qm ad H locs sl cells slots hC hA hL kk => ?_) k
  obtain ⟨hx, hb, hml, hown, hts, hr, hlk, hnm, hfr, hlo, hce, hse, hK, hZ, hAn, hst⟩ := hC
  exact lv_ddiv hx hb hd hn (kk sl hL)
theorem wi_fcmp {a a2 : UInt32} {op : CmpOp} {v : Int} (hd : decode (zbc y) pc = .ok (.fcmp op, 1)) (hp : pc + 1 = pc') (hv : Op.cmpValue (FP.fcmp a a2) op = zi v) (k : wW u y b pc' L (.int (zi v) :: st) G F Y c d Q) : wW u y b pc L (.float a2 :: .float a :: st) G F Y c d Q := by
  subst hp
  refine ws_st (fun n h1 h2 => ⟨h1, w_vs_c (w_v_i n _) (w_vs_t (w_vs_t h2))⟩) (fun p l e R s m args below meth c0 a0 A D cA Qm ad H locs sl cells slots hC hA hL kk => ?_) k
  obtain ⟨hx, hb, hml, hown, hts, hr, hlk, hnm, hfr, hlo, hce, hse, hK, hZ, hAn, hst⟩ := hC
  rw [← hv] at kk
  exact lv_fcmp hx hb hd (kk sl hL)
theorem wi_dcmp {a a2 : UInt64} {op : CmpOp} {v : Int} (hd : decode (zbc y) pc = .ok (.dcmp op, 1)) (hp : pc + 1 = pc') (hv : Op.cmpValue (FP.dcmp a a2) op = zi v) (k : wW u y b pc' L (.int (zi v) :: st) G F Y c d Q) : wW u y b pc L (.double a2 :: .double a :: st) G F Y c d Q := by
  subst hp
  refine ws_st (fun n h1 h2 => ⟨h1, w_vs_c (w_v_i n _) (w_vs_t (w_vs_t h2))⟩) (fun p l e R s m args below meth c0 a0 A D cA Qm ad H locs sl cells slots hC hA hL kk => ?_) k
  obtain ⟨hx, hb, hml, hown, hts, hr, hlk, hnm, hfr, hlo, hce, hse, hK, hZ, hAn, hst⟩ := hC
  rw [← hv] at kk
  exact lv_dcmp hx hb hd (kk sl hL)
theorem wi_lcmp {a a2 : Int64} {v : Int} (hd : decode (zbc y) pc = .ok (.lcmp, 1)) (hp : pc + 1 = pc') (hv : lg_cmp a a2 = zi v) (k : wW u y b pc' L (.int (zi v) :: st) G F Y c d Q) : wW u y b pc L (.long a2 :: .long a :: st) G F Y c d Q := by
  subst hp
  refine ws_st (fun n h1 h2 => ⟨h1, w_vs_c (w_v_i n _) (w_vs_t (w_vs_t h2))⟩) (fun p l e R s m args below meth c0 a0 A D cA Qm ad H locs sl cells slots hC hA hL kk => ?_) k
  obtain ⟨hx, hb, hml, hown, hts, hr, hlk, hnm, hfr, hlo, hce, hse, hK, hZ, hAn, hst⟩ := hC
  rw [← hv] at kk
  exact W.lcmp hx hb hd (kk sl hL)
theorem wi_goto {t : Nat} {off : Int} (hd : decode (zbc y) pc = .ok (.goto off, 3)) (ht : (pc : Int) + off = (t : Int)) (k : wW u y b t L st G F Y c d Q) : wW u y b pc L st G F Y c d Q := by
  refine ws_st (fun n h1 h2 => ⟨h1, h2⟩) (fun p l e R s m args below meth c0 a0 A D cA Qm ad H locs sl cells slots hC hA hL kk => ?_) k
  obtain ⟨hx, hb, hml, hown, hts, hr, hlk, hnm, hfr, hlo, hce, hse, hK, hZ, hAn, hst⟩ := hC
  exact lv_goto hx hb hd ht (kk sl hL)
theorem wi_ifnonnull {t r : Nat} {off : Int} (hd : decode (zbc y) pc = .ok (.ifnonnull off, 3)) (ht : (pc : Int) + off = (t : Int)) (k : wW u y b t L st G F Y c d Q) : wW u y b pc L (.ref r :: st) G F Y c d Q := by
  refine ws_st (fun n h1 h2 => ⟨h1, w_vs_t h2⟩) (fun p l e R s m args below meth c0 a0 A D cA Qm ad H locs sl cells slots hC hA hL kk => ?_) k
  obtain ⟨hx, hb, hml, hown, hts, hr, hlk, hnm, hfr, hlo, hce, hse, hK, hZ, hAn, hst⟩ := hC
  exact lv_ifnonnull hx hb hd ht (kk sl hL)
theorem wi_if_eq {t : Nat} {off : Int} {a : Int} (hd : decode (zbc y) pc = .ok (.ifCond .eq off, 3)) (ht : (pc : Int) + off = (t : Int)) (hp : pc + 3 = pc') (ha : zr a) (k1 : a = 0 → wW u y b t L st G F Y c d Q) (k2 : a ≠ 0 → wW u y b pc' L st G F Y c d Q) : wW u y b pc L (.int (zi a) :: st) G F Y c d Q := by
  subst hp
  by_cases h : a = 0
  · refine ws_st (fun n h1 h2 => ⟨h1, w_vs_t h2⟩) (fun p l e R s m args below meth c0 a0 A D cA Qm ad H locs sl cells slots hC hA hL kk => ?_) (k1 h)
    obtain ⟨hx, hb, hml, hown, hts, hr, hlk, hnm, hfr, hlo, hce, hse, hK, hZ, hAn, hst⟩ := hC
    refine lv_if_eq hx hb hd ht (fun z => kk sl hL) (fun z => ?_)
    rw [zi_0] at z
    exact absurd z (by exact fun hz => hz ((zi_eq ha zr0).mpr h))
  · refine ws_st (fun n h1 h2 => ⟨h1, w_vs_t h2⟩) (fun p l e R s m args below meth c0 a0 A D cA Qm ad H locs sl cells slots hC hA hL kk => ?_) (k2 (by omega))
    obtain ⟨hx, hb, hml, hown, hts, hr, hlk, hnm, hfr, hlo, hce, hse, hK, hZ, hAn, hst⟩ := hC
    refine lv_if_eq hx hb hd ht (fun z => ?_) (fun z => kk sl hL)
    rw [zi_0] at z
    exact absurd z (by exact fun hz => h ((zi_eq ha zr0).mp hz))
theorem wi_icmp_eq {t : Nat} {off : Int} {a a2 : Int} (hd : decode (zbc y) pc = .ok (.if_icmp .eq off, 3)) (ht : (pc : Int) + off = (t : Int)) (hp : pc + 3 = pc') (ha : zr a) (hb9 : zr a2) (k1 : a = a2 → wW u y b t L st G F Y c d Q) (k2 : a ≠ a2 → wW u y b pc' L st G F Y c d Q) : wW u y b pc L (.int (zi a2) :: .int (zi a) :: st) G F Y c d Q := by
  subst hp
  by_cases h : a = a2
  · refine ws_st (fun n h1 h2 => ⟨h1, w_vs_t (w_vs_t h2)⟩) (fun p l e R s m args below meth c0 a0 A D cA Qm ad H locs sl cells slots hC hA hL kk => ?_) (k1 h)
    obtain ⟨hx, hb, hml, hown, hts, hr, hlk, hnm, hfr, hlo, hce, hse, hK, hZ, hAn, hst⟩ := hC
    refine lv_icmp_eq hx hb hd ht (fun z => kk sl hL) (fun z => ?_)
    exact absurd z (by exact fun hz => hz ((zi_eq ha hb9).mpr h))
  · refine ws_st (fun n h1 h2 => ⟨h1, w_vs_t (w_vs_t h2)⟩) (fun p l e R s m args below meth c0 a0 A D cA Qm ad H locs sl cells slots hC hA hL kk => ?_) (k2 (by omega))
    obtain ⟨hx, hb, hml, hown, hts, hr, hlk, hnm, hfr, hlo, hce, hse, hK, hZ, hAn, hst⟩ := hC
    refine lv_icmp_eq hx hb hd ht (fun z => ?_) (fun z => kk sl hL)
    exact absurd z (by exact fun hz => h ((zi_eq ha hb9).mp hz))
theorem wi_if_ne {t : Nat} {off : Int} {a : Int} (hd : decode (zbc y) pc = .ok (.ifCond .ne off, 3)) (ht : (pc : Int) + off = (t : Int)) (hp : pc + 3 = pc') (ha : zr a) (k1 : a ≠ 0 → wW u y b t L st G F Y c d Q) (k2 : a = 0 → wW u y b pc' L st G F Y c d Q) : wW u y b pc L (.int (zi a) :: st) G F Y c d Q := by
  subst hp
  by_cases h : a ≠ 0
  · refine ws_st (fun n h1 h2 => ⟨h1, w_vs_t h2⟩) (fun p l e R s m args below meth c0 a0 A D cA Qm ad H locs sl cells slots hC hA hL kk => ?_) (k1 h)
    obtain ⟨hx, hb, hml, hown, hts, hr, hlk, hnm, hfr, hlo, hce, hse, hK, hZ, hAn, hst⟩ := hC
    refine lv_if_ne hx hb hd ht (fun z => kk sl hL) (fun z => ?_)
    rw [zi_0] at z
    exact absurd z (by exact fun hz => h ((zi_eq ha zr0).mp hz))
  · refine ws_st (fun n h1 h2 => ⟨h1, w_vs_t h2⟩) (fun p l e R s m args below meth c0 a0 A D cA Qm ad H locs sl cells slots hC hA hL kk => ?_) (k2 (by omega))
    obtain ⟨hx, hb, hml, hown, hts, hr, hlk, hnm, hfr, hlo, hce, hse, hK, hZ, hAn, hst⟩ := hC
    refine lv_if_ne hx hb hd ht (fun z => ?_) (fun z => kk sl hL)
    rw [zi_0] at z
    exact absurd z (by exact fun hz => hz ((zi_eq ha zr0).mpr (by omega)))
theorem wi_icmp_ne {t : Nat} {off : Int} {a a2 : Int} (hd : decode (zbc y) pc = .ok (.if_icmp .ne off, 3)) (ht : (pc : Int) + off = (t : Int)) (hp : pc + 3 = pc') (ha : zr a) (hb9 : zr a2) (k1 : a ≠ a2 → wW u y b t L st G F Y c d Q) (k2 : a = a2 → wW u y b pc' L st G F Y c d Q) : wW u y b pc L (.int (zi a2) :: .int (zi a) :: st) G F Y c d Q := by
  subst hp
  by_cases h : a ≠ a2
  · refine ws_st (fun n h1 h2 => ⟨h1, w_vs_t (w_vs_t h2)⟩) (fun p l e R s m args below meth c0 a0 A D cA Qm ad H locs sl cells slots hC hA hL kk => ?_) (k1 h)
    obtain ⟨hx, hb, hml, hown, hts, hr, hlk, hnm, hfr, hlo, hce, hse, hK, hZ, hAn, hst⟩ := hC
    refine lv_icmp_ne hx hb hd ht (fun z => kk sl hL) (fun z => ?_)
    exact absurd z (by exact fun hz => h ((zi_eq ha hb9).mp hz))
  · refine ws_st (fun n h1 h2 => ⟨h1, w_vs_t (w_vs_t h2)⟩) (fun p l e R s m args below meth c0 a0 A D cA Qm ad H locs sl cells slots hC hA hL kk => ?_) (k2 (by omega))
    obtain ⟨hx, hb, hml, hown, hts, hr, hlk, hnm, hfr, hlo, hce, hse, hK, hZ, hAn, hst⟩ := hC
    refine lv_icmp_ne hx hb hd ht (fun z => ?_) (fun z => kk sl hL)
    exact absurd z (by exact fun hz => hz ((zi_eq ha hb9).mpr (by omega)))
theorem wi_if_lt {t : Nat} {off : Int} {a : Int} (hd : decode (zbc y) pc = .ok (.ifCond .lt off, 3)) (ht : (pc : Int) + off = (t : Int)) (hp : pc + 3 = pc') (ha : zr a) (k1 : a < 0 → wW u y b t L st G F Y c d Q) (k2 : 0 ≤ a → wW u y b pc' L st G F Y c d Q) : wW u y b pc L (.int (zi a) :: st) G F Y c d Q := by
  subst hp
  by_cases h : a < 0
  · refine ws_st (fun n h1 h2 => ⟨h1, w_vs_t h2⟩) (fun p l e R s m args below meth c0 a0 A D cA Qm ad H locs sl cells slots hC hA hL kk => ?_) (k1 h)
    obtain ⟨hx, hb, hml, hown, hts, hr, hlk, hnm, hfr, hlo, hce, hse, hK, hZ, hAn, hst⟩ := hC
    refine lv_if_lt hx hb hd ht (fun z => kk sl hL) (fun z => ?_)
    rw [zi_0] at z
    exact absurd z (by exact fun hz => hz ((zi_lt ha zr0).mpr h))
  · refine ws_st (fun n h1 h2 => ⟨h1, w_vs_t h2⟩) (fun p l e R s m args below meth c0 a0 A D cA Qm ad H locs sl cells slots hC hA hL kk => ?_) (k2 (by omega))
    obtain ⟨hx, hb, hml, hown, hts, hr, hlk, hnm, hfr, hlo, hce, hse, hK, hZ, hAn, hst⟩ := hC
    refine lv_if_lt hx hb hd ht (fun z => ?_) (fun z => kk sl hL)
    rw [zi_0] at z
    exact absurd z (by exact fun hz => h ((zi_lt ha zr0).mp hz))
theorem wi_icmp_lt {t : Nat} {off : Int} {a a2 : Int} (hd : decode (zbc y) pc = .ok (.if_icmp .lt off, 3)) (ht : (pc : Int) + off = (t : Int)) (hp : pc + 3 = pc') (ha : zr a) (hb9 : zr a2) (k1 : a < a2 → wW u y b t L st G F Y c d Q) (k2 : a2 ≤ a → wW u y b pc' L st G F Y c d Q) : wW u y b pc L (.int (zi a2) :: .int (zi a) :: st) G F Y c d Q := by
  subst hp
  by_cases h : a < a2
  · refine ws_st (fun n h1 h2 => ⟨h1, w_vs_t (w_vs_t h2)⟩) (fun p l e R s m args below meth c0 a0 A D cA Qm ad H locs sl cells slots hC hA hL kk => ?_) (k1 h)
    obtain ⟨hx, hb, hml, hown, hts, hr, hlk, hnm, hfr, hlo, hce, hse, hK, hZ, hAn, hst⟩ := hC
    refine lv_icmp_lt hx hb hd ht (fun z => kk sl hL) (fun z => ?_)
    exact absurd z (by exact fun hz => hz ((zi_lt ha hb9).mpr h))
  · refine ws_st (fun n h1 h2 => ⟨h1, w_vs_t (w_vs_t h2)⟩) (fun p l e R s m args below meth c0 a0 A D cA Qm ad H locs sl cells slots hC hA hL kk => ?_) (k2 (by omega))
    obtain ⟨hx, hb, hml, hown, hts, hr, hlk, hnm, hfr, hlo, hce, hse, hK, hZ, hAn, hst⟩ := hC
    refine lv_icmp_lt hx hb hd ht (fun z => ?_) (fun z => kk sl hL)
    exact absurd z (by exact fun hz => h ((zi_lt ha hb9).mp hz))
theorem wi_if_ge {t : Nat} {off : Int} {a : Int} (hd : decode (zbc y) pc = .ok (.ifCond .ge off, 3)) (ht : (pc : Int) + off = (t : Int)) (hp : pc + 3 = pc') (ha : zr a) (k1 : 0 ≤ a → wW u y b t L st G F Y c d Q) (k2 : a < 0 → wW u y b pc' L st G F Y c d Q) : wW u y b pc L (.int (zi a) :: st) G F Y c d Q := by
  subst hp
  by_cases h : 0 ≤ a
  · refine ws_st (fun n h1 h2 => ⟨h1, w_vs_t h2⟩) (fun p l e R s m args below meth c0 a0 A D cA Qm ad H locs sl cells slots hC hA hL kk => ?_) (k1 h)
    obtain ⟨hx, hb, hml, hown, hts, hr, hlk, hnm, hfr, hlo, hce, hse, hK, hZ, hAn, hst⟩ := hC
    refine lv_if_ge hx hb hd ht (fun z => kk sl hL) (fun z => ?_)
    rw [zi_0] at z
    exact absurd z (by exact fun hz => hz ((zi_le zr0 ha).mpr h))
  · refine ws_st (fun n h1 h2 => ⟨h1, w_vs_t h2⟩) (fun p l e R s m args below meth c0 a0 A D cA Qm ad H locs sl cells slots hC hA hL kk => ?_) (k2 (by omega))
    obtain ⟨hx, hb, hml, hown, hts, hr, hlk, hnm, hfr, hlo, hce, hse, hK, hZ, hAn, hst⟩ := hC
    refine lv_if_ge hx hb hd ht (fun z => ?_) (fun z => kk sl hL)
    rw [zi_0] at z
    exact absurd z (by exact fun hz => h ((zi_le zr0 ha).mp hz))
theorem wi_icmp_ge {t : Nat} {off : Int} {a a2 : Int} (hd : decode (zbc y) pc = .ok (.if_icmp .ge off, 3)) (ht : (pc : Int) + off = (t : Int)) (hp : pc + 3 = pc') (ha : zr a) (hb9 : zr a2) (k1 : a2 ≤ a → wW u y b t L st G F Y c d Q) (k2 : a < a2 → wW u y b pc' L st G F Y c d Q) : wW u y b pc L (.int (zi a2) :: .int (zi a) :: st) G F Y c d Q := by
  subst hp
  by_cases h : a2 ≤ a
  · refine ws_st (fun n h1 h2 => ⟨h1, w_vs_t (w_vs_t h2)⟩) (fun p l e R s m args below meth c0 a0 A D cA Qm ad H locs sl cells slots hC hA hL kk => ?_) (k1 h)
    obtain ⟨hx, hb, hml, hown, hts, hr, hlk, hnm, hfr, hlo, hce, hse, hK, hZ, hAn, hst⟩ := hC
    refine lv_icmp_ge hx hb hd ht (fun z => kk sl hL) (fun z => ?_)
    exact absurd z (by exact fun hz => hz ((zi_le hb9 ha).mpr h))
  · refine ws_st (fun n h1 h2 => ⟨h1, w_vs_t (w_vs_t h2)⟩) (fun p l e R s m args below meth c0 a0 A D cA Qm ad H locs sl cells slots hC hA hL kk => ?_) (k2 (by omega))
    obtain ⟨hx, hb, hml, hown, hts, hr, hlk, hnm, hfr, hlo, hce, hse, hK, hZ, hAn, hst⟩ := hC
    refine lv_icmp_ge hx hb hd ht (fun z => ?_) (fun z => kk sl hL)
    exact absurd z (by exact fun hz => h ((zi_le hb9 ha).mp hz))
theorem wi_if_gt {t : Nat} {off : Int} {a : Int} (hd : decode (zbc y) pc = .ok (.ifCond .gt off, 3)) (ht : (pc : Int) + off = (t : Int)) (hp : pc + 3 = pc') (ha : zr a) (k1 : 0 < a → wW u y b t L st G F Y c d Q) (k2 : a ≤ 0 → wW u y b pc' L st G F Y c d Q) : wW u y b pc L (.int (zi a) :: st) G F Y c d Q := by
  subst hp
  by_cases h : 0 < a
  · refine ws_st (fun n h1 h2 => ⟨h1, w_vs_t h2⟩) (fun p l e R s m args below meth c0 a0 A D cA Qm ad H locs sl cells slots hC hA hL kk => ?_) (k1 h)
    obtain ⟨hx, hb, hml, hown, hts, hr, hlk, hnm, hfr, hlo, hce, hse, hK, hZ, hAn, hst⟩ := hC
    refine lv_if_gt hx hb hd ht (fun z => kk sl hL) (fun z => ?_)
    rw [zi_0] at z
    exact absurd z (by exact fun hz => hz ((zi_lt zr0 ha).mpr h))
  · refine ws_st (fun n h1 h2 => ⟨h1, w_vs_t h2⟩) (fun p l e R s m args below meth c0 a0 A D cA Qm ad H locs sl cells slots hC hA hL kk => ?_) (k2 (by omega))
    obtain ⟨hx, hb, hml, hown, hts, hr, hlk, hnm, hfr, hlo, hce, hse, hK, hZ, hAn, hst⟩ := hC
    refine lv_if_gt hx hb hd ht (fun z => ?_) (fun z => kk sl hL)
    rw [zi_0] at z
    exact absurd z (by exact fun hz => h ((zi_lt zr0 ha).mp hz))
theorem wi_icmp_gt {t : Nat} {off : Int} {a a2 : Int} (hd : decode (zbc y) pc = .ok (.if_icmp .gt off, 3)) (ht : (pc : Int) + off = (t : Int)) (hp : pc + 3 = pc') (ha : zr a) (hb9 : zr a2) (k1 : a2 < a → wW u y b t L st G F Y c d Q) (k2 : a ≤ a2 → wW u y b pc' L st G F Y c d Q) : wW u y b pc L (.int (zi a2) :: .int (zi a) :: st) G F Y c d Q := by
  subst hp
  by_cases h : a2 < a
  · refine ws_st (fun n h1 h2 => ⟨h1, w_vs_t (w_vs_t h2)⟩) (fun p l e R s m args below meth c0 a0 A D cA Qm ad H locs sl cells slots hC hA hL kk => ?_) (k1 h)
    obtain ⟨hx, hb, hml, hown, hts, hr, hlk, hnm, hfr, hlo, hce, hse, hK, hZ, hAn, hst⟩ := hC
    refine lv_icmp_gt hx hb hd ht (fun z => kk sl hL) (fun z => ?_)
    exact absurd z (by exact fun hz => hz ((zi_lt hb9 ha).mpr h))
  · refine ws_st (fun n h1 h2 => ⟨h1, w_vs_t (w_vs_t h2)⟩) (fun p l e R s m args below meth c0 a0 A D cA Qm ad H locs sl cells slots hC hA hL kk => ?_) (k2 (by omega))
    obtain ⟨hx, hb, hml, hown, hts, hr, hlk, hnm, hfr, hlo, hce, hse, hK, hZ, hAn, hst⟩ := hC
    refine lv_icmp_gt hx hb hd ht (fun z => ?_) (fun z => kk sl hL)
    exact absurd z (by exact fun hz => h ((zi_lt hb9 ha).mp hz))
theorem wi_if_le {t : Nat} {off : Int} {a : Int} (hd : decode (zbc y) pc = .ok (.ifCond .le off, 3)) (ht : (pc : Int) + off = (t : Int)) (hp : pc + 3 = pc') (ha : zr a) (k1 : a ≤ 0 → wW u y b t L st G F Y c d Q) (k2 : 0 < a → wW u y b pc' L st G F Y c d Q) : wW u y b pc L (.int (zi a) :: st) G F Y c d Q := by
  subst hp
  by_cases h : a ≤ 0
  · refine ws_st (fun n h1 h2 => ⟨h1, w_vs_t h2⟩) (fun p l e R s m args below meth c0 a0 A D cA Qm ad H locs sl cells slots hC hA hL kk => ?_) (k1 h)
    obtain ⟨hx, hb, hml, hown, hts, hr, hlk, hnm, hfr, hlo, hce, hse, hK, hZ, hAn, hst⟩ := hC
    refine lv_if_le hx hb hd ht (fun z => kk sl hL) (fun z => ?_)
    rw [zi_0] at z
    exact absurd z (by exact fun hz => hz ((zi_le ha zr0).mpr h))
  · refine ws_st (fun n h1 h2 => ⟨h1, w_vs_t h2⟩) (fun p l e R s m args below meth c0 a0 A D cA Qm ad H locs sl cells slots hC hA hL kk => ?_) (k2 (by omega))
    obtain ⟨hx, hb, hml, hown, hts, hr, hlk, hnm, hfr, hlo, hce, hse, hK, hZ, hAn, hst⟩ := hC
    refine lv_if_le hx hb hd ht (fun z => ?_) (fun z => kk sl hL)
    rw [zi_0] at z
    exact absurd z (by exact fun hz => h ((zi_le ha zr0).mp hz))
theorem wi_icmp_le {t : Nat} {off : Int} {a a2 : Int} (hd : decode (zbc y) pc = .ok (.if_icmp .le off, 3)) (ht : (pc : Int) + off = (t : Int)) (hp : pc + 3 = pc') (ha : zr a) (hb9 : zr a2) (k1 : a ≤ a2 → wW u y b t L st G F Y c d Q) (k2 : a2 < a → wW u y b pc' L st G F Y c d Q) : wW u y b pc L (.int (zi a2) :: .int (zi a) :: st) G F Y c d Q := by
  subst hp
  by_cases h : a ≤ a2
  · refine ws_st (fun n h1 h2 => ⟨h1, w_vs_t (w_vs_t h2)⟩) (fun p l e R s m args below meth c0 a0 A D cA Qm ad H locs sl cells slots hC hA hL kk => ?_) (k1 h)
    obtain ⟨hx, hb, hml, hown, hts, hr, hlk, hnm, hfr, hlo, hce, hse, hK, hZ, hAn, hst⟩ := hC
    refine lv_icmp_le hx hb hd ht (fun z => kk sl hL) (fun z => ?_)
    exact absurd z (by exact fun hz => hz ((zi_le ha hb9).mpr h))
  · refine ws_st (fun n h1 h2 => ⟨h1, w_vs_t (w_vs_t h2)⟩) (fun p l e R s m args below meth c0 a0 A D cA Qm ad H locs sl cells slots hC hA hL kk => ?_) (k2 (by omega))
    obtain ⟨hx, hb, hml, hown, hts, hr, hlk, hnm, hfr, hlo, hce, hse, hK, hZ, hAn, hst⟩ := hC
    refine lv_icmp_le hx hb hd ht (fun z => ?_) (fun z => kk sl hL)
    exact absurd z (by exact fun hz => h ((zi_le ha hb9).mp hz))
theorem wi_if_eqB {t : Nat} {off : Int} {p : Prop} [Decidable p] (hd : decode (zbc y) pc = .ok (.ifCond .eq off, 3)) (ht : (pc : Int) + off = (t : Int)) (hp : pc + 3 = pc') (k1 : ¬ p → wW u y b t L st G F Y c d Q) (k2 : p → wW u y b pc' L st G F Y c d Q) : wW u y b pc L (.int (zi (zb p)) :: st) G F Y c d Q := by
  by_cases h : p
  · rw [zb_t h]
    exact wi_if_eq hd ht hp ⟨by omega, by omega⟩ (fun h => absurd h (by omega)) (fun _ => k2 h)
  · rw [zb_f h]
    exact wi_if_eq hd ht hp zr0 (fun _ => k1 h) (fun h => absurd rfl h)
theorem wi_if_neB {t : Nat} {off : Int} {p : Prop} [Decidable p] (hd : decode (zbc y) pc = .ok (.ifCond .ne off, 3)) (ht : (pc : Int) + off = (t : Int)) (hp : pc + 3 = pc') (k1 : p → wW u y b t L st G F Y c d Q) (k2 : ¬ p → wW u y b pc' L st G F Y c d Q) : wW u y b pc L (.int (zi (zb p)) :: st) G F Y c d Q := by
  by_cases h : p
  · rw [zb_t h]
    exact wi_if_ne hd ht hp ⟨by omega, by omega⟩ (fun _ => k1 h) (fun h => absurd h (by omega))
  · rw [zb_f h]
    exact wi_if_ne hd ht hp zr0 (fun h => absurd rfl h) (fun _ => k2 h)
end W2
