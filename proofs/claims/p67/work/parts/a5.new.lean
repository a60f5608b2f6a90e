/-! Runs over made cells: new cells, fields, constants. -/
theorem inJ0 : ∀ w ∈ u_ws RJ0 TJ0 4, w ∈ zTs := z_inr _ [1360, 1362, 1364, 1366] (by decide +kernel) (by decide +kernel)
theorem inJ4 : ∀ w ∈ u_ws RJ4 TJ4 4, w ∈ zTs := z_inr _ [1238, 1240, 1242, 1244] (by decide +kernel) (by decide +kernel)
theorem instJ0 : Cond.instantiable RJ0 4 ∈ zTs := z_in (i := 1304) (by decide +kernel) (by decide +kernel)
theorem instJ4 : Cond.instantiable RJ4 4 ∈ zTs := z_in (i := 1115) (by decide +kernel) (by decide +kernel)
theorem initJ0 : Cond.initialized RJ0 ∈ zTs := z_in (i := 41) (by decide +kernel) (by decide +kernel)
theorem initJ4 : Cond.initialized RJ4 ∈ zTs := z_in (i := 56) (by decide +kernel) (by decide +kernel)
section W5
variable {u : WU} {y : Nat} {b : WB} {pc pc' : Nat} {L st st' : List Value} {G F : GM} {Y : DY} {c d : Nat} {Q : WQ}
/-- a step that makes a cell -/
theorem ws_add {h : Sh} {E : Int → Int} {ns : Nat} (hsh : w_sh (1000 + Y.2.2) h) (hE : ∀ j, zr (E j)) (hv : ∀ n, w_vs n st → w_vs n st')
    (h9 : ∀ (p : Program) (l : Launch) (e : Env) (R : Room) (s : State) (m : MethodId) (args : Array Value) (below : List Frame) (meth : Method) (c0 : Code) (a0 : Nat → Nat) (A : Nat → Prop) (D : va_G) (cA : Nat → ClassId) (Qm : State → Prop) (ad : Nat → Nat) (H : Heap) (locs : List Loc) (sl : Array Slot) (cells slots : Nat),
      wCx u y b l a0 A D cA p R s m args meth c0 → cells ≤ c → slots ≤ d → va_P D vwCl (w_W u.1 ad cA G F Y) H → va_D A (w_W u.1 ad cA G F Y) → va_S A s.heap H locs → z_has ad (zc2 y) (znl y) sl L →
      (∀ (q : Nat) (H' : Heap), va_P D vwCl (w_W u.1 ad cA G F Y ++ [(q, w_el ad cA h E)]) H' → va_D A (w_W u.1 ad cA G F Y ++ [(q, w_el ad cA h E)]) → va_S A s.heap H' locs → W p l e R s m args below meth c0 H' locs (cells + 1) (slots + ns) Qm (F0 m pc' sl (.ref q :: st'.map (z_cv ad)))) →
      W p l e R s m args below meth c0 H locs cells slots Qm (F0 m pc sl (st.map (z_cv ad))))
    (k : wW u y b pc' L (.ref (1000 + Y.2.2) :: st') G F (w_add Y h E) (c + 1) (d + ns) Q) : wW u y b pc L st G F Y c d Q := by
  intro g h1 h2 p l e R s m args below meth c0 a0 A D cA Qm hC hE' ad H locs sl cells slots hA hL
  obtain ⟨e1, e2, e3, hP, hD, hS⟩ := hA
  refine h9 p l e R s m args below meth c0 a0 A D cA Qm ad H locs sl cells slots hC e2 e3 hP hD hS hL (fun q H' hP' hD' hS' => ?_)
  have gb := g.2.2.2.2.2
  have hel : w_el ad cA h E = w_el (w_ad ad (1000 + Y.2.2) q) cA h E := (w_el_c hsh (fun k hk => w_ad_n hk)).symm
  rw [w_W_add g.1 g.2.2.2.2.1 hel] at hP' hD'
  have hst : Value.ref q :: st'.map (z_cv ad) = (Value.ref (1000 + Y.2.2) :: st').map (z_cv (w_ad ad (1000 + Y.2.2) q)) := by
    rw [List.map_cons, z_map_c (hv _ h2) (fun k hk => w_ad_n hk)]
    show _ = Value.ref (w_ad ad (1000 + Y.2.2) q (1000 + Y.2.2)) :: _
    rw [w_ad_e]
  rw [hst]
  refine k ⟨g.1, g.2.1, g.2.2.1, ?_, w_ok_add g.2.2.2.2.1 (w_sh_up hsh (by omega)), by show b.2.2 ≤ Y.2.2 + 1; omega⟩ (w_vs_up h1 (by show _ ≤ 1000 + (Y.2.2 + 1); omega)) (w_vs_c (w_v_r (by show _ < 1000 + (Y.2.2 + 1); omega)) (w_vs_up (hv _ h2) (by show _ ≤ 1000 + (Y.2.2 + 1); omega))) p l e R s m args below meth c0 a0 A D cA Qm hC hE' _ H' locs sl (cells + 1) (slots + ns) ⟨fun k hk => (w_ad_n (by omega)).trans (e1 k hk), by omega, by omega, hP', hD', hS'⟩ (z_has_c h1 (fun k hk => w_ad_n hk) hL)
  intro k j
  show zr (zk Y.1 Y.2.2 E k j)
  by_cases h : k = Y.2.2
  · rw [h, zk_eq]; exact hE j
  · rw [zk_ne h]; exact g.2.2.2.1 k j
theorem w_sh_n {t n m : Nat} : w_sh m (t, n, []) := fun c hc => by cases hc
theorem wi_newI {n : Nat} {v : Int} (hd : decode (zbc y) pc = .ok (.newarray .int, 2)) (hp : pc + 2 = pc') (hw : Cond.arrayClass .int ∈ zTs) (hn : v = (n : Int)) (hn2 : n ≤ 100000) (hc : c + 1 ≤ b.1) (hd2 : d + n ≤ b.2.1) (k : wW u y b pc' L (.ref (1000 + Y.2.2) :: st) G F (w_add Y (1, n, []) (fun _ => 0)) (c + 1) (d + n) Q) : wW u y b pc L (.int (zi v) :: st) G F Y c d Q := by
  subst hp
  subst hn
  refine ws_add (st' := st) (ns := n) w_sh_n (fun _ => zr0) (fun n h2 => w_vs_t h2) (fun p l e R s m args below meth c0 a0 A D cA Qm ad H locs sl cells slots hC e2 e3 hP hD hS hL kk => ?_) k
  obtain ⟨hx, hb, hml, hown, hts, hr, hlk, hnm, hfr, hlo, hce, hse, hK, hZ, hAn, hst⟩ := hC
  have hn0 : ¬ zi (n : Int) < 0 := fun hz => by
    have h9 := (zi_lt (a := (n : Int)) (b := 0) ⟨by omega, by omega⟩ zr0).mp (by rw [zi_k0]; exact hz)
    omega
  refine va_newa (D := D) (atype := .int) (ty := .int) (a0 := (n, .inl fun _ => 0)) (N' := n) hx hb (hts _ hw) rfl hK.1 hP hD hS hAn (fun _ => rfl) hn0 (by rw [zi_n ⟨by omega, by omega⟩]; exact Int.toNat_natCast n) (by show n * _ ≤ _; exact Nat.le_trans (Nat.mul_le_mul_left n (show _ ≤ 8 by decide)) (by omega)) (by omega) (by omega) hd (fun q cB H1 hK1 hP1 hD1 hS1 => ?_)
  have eB : cB = cA 1 := k_uni (fun C h => by cases h) (hK1.2 10 _ rfl).2 (hK.1.2 0 _ rfl).2
  subst eB
  exact kk q H1 hP1 hD1 hS1
theorem wi_newB {n : Nat} {v : Int} (hd : decode (zbc y) pc = .ok (.newarray .byte, 2)) (hp : pc + 2 = pc') (hw : Cond.arrayClass .byte ∈ zTs) (hn : v = (n : Int)) (hn2 : n ≤ 100000) (hc : c + 1 ≤ b.1) (hd2 : d + n ≤ b.2.1) (k : wW u y b pc' L (.ref (1000 + Y.2.2) :: st) G F (w_add Y (2, n, []) (fun _ => 0)) (c + 1) (d + n) Q) : wW u y b pc L (.int (zi v) :: st) G F Y c d Q := by
  subst hp
  subst hn
  refine ws_add (st' := st) (ns := n) w_sh_n (fun _ => zr0) (fun n h2 => w_vs_t h2) (fun p l e R s m args below meth c0 a0 A D cA Qm ad H locs sl cells slots hC e2 e3 hP hD hS hL kk => ?_) k
  obtain ⟨hx, hb, hml, hown, hts, hr, hlk, hnm, hfr, hlo, hce, hse, hK, hZ, hAn, hst⟩ := hC
  have hn0 : ¬ zi (n : Int) < 0 := fun hz => by
    have h9 := (zi_lt (a := (n : Int)) (b := 0) ⟨by omega, by omega⟩ zr0).mp (by rw [zi_k0]; exact hz)
    omega
  refine va_newa (D := D) (atype := .byte) (ty := .byte) (a0 := (n, .inl fun _ => 0)) (N' := n) hx hb (hts _ hw) rfl hK.1 hP hD hS hAn (fun _ => rfl) hn0 (by rw [zi_n ⟨by omega, by omega⟩]; exact Int.toNat_natCast n) (by show n * _ ≤ _; exact Nat.le_trans (Nat.mul_le_mul_left n (show _ ≤ 8 by decide)) (by omega)) (by omega) (by omega) hd (fun q cB H1 hK1 hP1 hD1 hS1 => ?_)
  have eB : cB = cA 2 := k_uni (fun C h => by cases h) (hK1.2 10 _ rfl).2 (hK.1.2 1 _ rfl).2
  subst eB
  exact kk q H1 hP1 hD1 hS1
theorem wi_newZ {n : Nat} {v : Int} (hd : decode (zbc y) pc = .ok (.newarray .boolean, 2)) (hp : pc + 2 = pc') (hw : Cond.arrayClass .boolean ∈ zTs) (hn : v = (n : Int)) (hn2 : n ≤ 100000) (hc : c + 1 ≤ b.1) (hd2 : d + n ≤ b.2.1) (k : wW u y b pc' L (.ref (1000 + Y.2.2) :: st) G F (w_add Y (3, n, []) (fun _ => 0)) (c + 1) (d + n) Q) : wW u y b pc L (.int (zi v) :: st) G F Y c d Q := by
  subst hp
  subst hn
  refine ws_add (st' := st) (ns := n) w_sh_n (fun _ => zr0) (fun n h2 => w_vs_t h2) (fun p l e R s m args below meth c0 a0 A D cA Qm ad H locs sl cells slots hC e2 e3 hP hD hS hL kk => ?_) k
  obtain ⟨hx, hb, hml, hown, hts, hr, hlk, hnm, hfr, hlo, hce, hse, hK, hZ, hAn, hst⟩ := hC
  have hn0 : ¬ zi (n : Int) < 0 := fun hz => by
    have h9 := (zi_lt (a := (n : Int)) (b := 0) ⟨by omega, by omega⟩ zr0).mp (by rw [zi_k0]; exact hz)
    omega
  refine va_newa (D := D) (atype := .boolean) (ty := .boolean) (a0 := (n, .inl fun _ => 0)) (N' := n) hx hb (hts _ hw) rfl hK.1 hP hD hS hAn (fun _ => rfl) hn0 (by rw [zi_n ⟨by omega, by omega⟩]; exact Int.toNat_natCast n) (by show n * _ ≤ _; exact Nat.le_trans (Nat.mul_le_mul_left n (show _ ≤ 8 by decide)) (by omega)) (by omega) (by omega) hd (fun q cB H1 hK1 hP1 hD1 hS1 => ?_)
  have eB : cB = cA 3 := k_uni (fun C h => by cases h) (hK1.2 10 _ rfl).2 (hK.1.2 2 _ rfl).2
  subst eB
  exact kk q H1 hP1 hD1 hS1
theorem wi_newC {n : Nat} {v : Int} (hd : decode (zbc y) pc = .ok (.newarray .char, 2)) (hp : pc + 2 = pc') (hw : Cond.arrayClass .char ∈ zTs) (hn : v = (n : Int)) (hn2 : n ≤ 100000) (hc : c + 1 ≤ b.1) (hd2 : d + n ≤ b.2.1) (k : wW u y b pc' L (.ref (1000 + Y.2.2) :: st) G F (w_add Y (7, n, []) (fun _ => 0)) (c + 1) (d + n) Q) : wW u y b pc L (.int (zi v) :: st) G F Y c d Q := by
  subst hp
  subst hn
  refine ws_add (st' := st) (ns := n) w_sh_n (fun _ => zr0) (fun n h2 => w_vs_t h2) (fun p l e R s m args below meth c0 a0 A D cA Qm ad H locs sl cells slots hC e2 e3 hP hD hS hL kk => ?_) k
  obtain ⟨hx, hb, hml, hown, hts, hr, hlk, hnm, hfr, hlo, hce, hse, hK, hZ, hAn, hst⟩ := hC
  have hn0 : ¬ zi (n : Int) < 0 := fun hz => by
    have h9 := (zi_lt (a := (n : Int)) (b := 0) ⟨by omega, by omega⟩ zr0).mp (by rw [zi_k0]; exact hz)
    omega
  refine va_newa (D := D) (atype := .char) (ty := .char) (a0 := (n, .inl fun _ => 0)) (N' := n) hx hb (hts _ hw) rfl hK.1 hP hD hS hAn (fun _ => rfl) hn0 (by rw [zi_n ⟨by omega, by omega⟩]; exact Int.toNat_natCast n) (by show n * _ ≤ _; exact Nat.le_trans (Nat.mul_le_mul_left n (show _ ≤ 8 by decide)) (by omega)) (by omega) (by omega) hd (fun q cB H1 hK1 hP1 hD1 hS1 => ?_)
  have eB : cB = cA 7 := k_uni (fun C h => by cases h) (hK1.2 10 _ rfl).2 (hK.1.2 6 _ rfl).2
  subst eB
  exact kk q H1 hP1 hD1 hS1
theorem wi_mkS {index : Nat} (hd : decode (zbc y) pc = .ok (.new index, 3)) (hp : pc + 3 = pc') (hw : Cond.classLink (zyn y).cls index RJ0 ∈ zTs) (hc : c + 1 ≤ b.1) (hd2 : d + 4 ≤ b.2.1) (k : wW u y b pc' L (.ref (1000 + Y.2.2) :: st) G F (w_add Y (0, 9, [1, 0, 0, 0]) (fun _ => 0)) (c + 1) (d + 4) Q) : wW u y b pc L st G F Y c d Q := by
  subst hp
  refine ws_add (st' := st) (ns := 4) (fun c hc => ⟨fun _ => by have h : c ∈ ([1, 0, 0, 0] : List Nat) := hc; simp only [List.mem_cons, List.not_mem_nil, or_false] at h; omega, fun h => absurd h (by show ¬ 8 ≤ 0; omega)⟩) (fun _ => zr0) (fun n h2 => h2) (fun p l e R s m args below meth c0 a0 A D cA Qm ad H locs sl cells slots hC e2 e3 hP hD hS hL kk => ?_) k
  obtain ⟨hx, hb, hml, hown, hts, hr, hlk, hnm, hfr, hlo, hce, hse, hK, hZ, hAn, hst⟩ := hC
  refine va_new (ci := 9) (fs := (w_fs (fun _ => 0) 0 [1, 0, 0, 0]).map (z_cv ad)) (C := RJ0) (T := TJ0) (N := 4) hx hb hts inJ0 tyJ0 tyJ0_ok hown (hts _ hw) (hts _ instJ0) (hts _ initJ0) hK.1 hP hD hS hAn rfl (fun j hj => by rcases (show j = 0 ∨ j = 1 ∨ j = 2 ∨ j = 3 by omega) with rfl | rfl | rfl | rfl <;> rfl) (by omega) (by omega) hd (fun q H1 hP1 hD1 hS1 => ?_)
  exact kk q H1 hP1 hD1 hS1
theorem wi_mkSB {index : Nat} (hd : decode (zbc y) pc = .ok (.new index, 3)) (hp : pc + 3 = pc') (hw : Cond.classLink (zyn y).cls index RJ4 ∈ zTs) (hc : c + 1 ≤ b.1) (hd2 : d + 4 ≤ b.2.1) (k : wW u y b pc' L (.ref (1000 + Y.2.2) :: st) G F (w_add Y (0, 10, [1, 0, 0, 0]) (fun _ => 0)) (c + 1) (d + 4) Q) : wW u y b pc L st G F Y c d Q := by
  subst hp
  refine ws_add (st' := st) (ns := 4) (fun c hc => ⟨fun _ => by have h : c ∈ ([1, 0, 0, 0] : List Nat) := hc; simp only [List.mem_cons, List.not_mem_nil, or_false] at h; omega, fun h => absurd h (by show ¬ 8 ≤ 0; omega)⟩) (fun _ => zr0) (fun n h2 => h2) (fun p l e R s m args below meth c0 a0 A D cA Qm ad H locs sl cells slots hC e2 e3 hP hD hS hL kk => ?_) k
  obtain ⟨hx, hb, hml, hown, hts, hr, hlk, hnm, hfr, hlo, hce, hse, hK, hZ, hAn, hst⟩ := hC
  refine va_new (ci := 10) (fs := (w_fs (fun _ => 0) 0 [1, 0, 0, 0]).map (z_cv ad)) (C := RJ4) (T := TJ4) (N := 4) hx hb hts inJ4 tyJ4 tyJ4_ok hown (hts _ hw) (hts _ instJ4) (hts _ initJ4) hK.1 hP hD hS hAn rfl (fun j hj => by rcases (show j = 0 ∨ j = 1 ∨ j = 2 ∨ j = 3 by omega) with rfl | rfl | rfl | rfl <;> rfl) (by omega) (by omega) hd (fun q H1 hP1 hD1 hS1 => ?_)
  exact kk q H1 hP1 hD1 hS1
/-! fields -/
theorem w_fs_getI {ad : Nat → Nat} {E : Int → Int} {cs : List Nat} {j : Nat} (h : cs[j]? = some 0) : ((w_fs E 0 cs).map (z_cv ad))[j]? = some (.int (zi (E (j : Int)))) := by
  rw [List.getElem?_map, w_fs_at, h, Nat.zero_add]
  rfl
theorem w_fs_getR {ad : Nat → Nat} {E : Int → Int} {cs : List Nat} {j q : Nat} (h : cs[j]? = some (q + 2)) : ((w_fs E 0 cs).map (z_cv ad))[j]? = some (.ref (ad q)) := by
  rw [List.getElem?_map, w_fs_at, h, Nat.zero_add]
  rfl
theorem w_fs_setI {ad : Nat → Nat} {E : Int → Int} {cs : List Nat} {j : Nat} {v : Int} (h : cs[j]? = some 0) : ((w_fs E 0 cs).map (z_cv ad)).set j (z_cv ad (.int (zi v))) = (w_fs (zp E (j : Int) v) 0 cs).map (z_cv ad) := by
  have hl := (List.getElem?_eq_some_iff.mp h).1
  apply List.ext_getElem?
  intro i
  rw [List.getElem?_set, List.length_map, w_fs_len]
  by_cases hi : j = i
  · subst hi
    rw [if_pos rfl, if_pos hl, w_fs_getI h, zp_eq]
    rfl
  · rw [if_neg hi, List.getElem?_map, List.getElem?_map, w_fs_at, w_fs_at, Nat.zero_add]
    cases hc : cs[i]? with
    | none => rfl
    | some c =>
      match c with
      | 0 =>
        show some (Value.int (zi (E (i : Int)))) = some (Value.int (zi (zp E (j : Int) v (i : Int))))
        rw [zp_ne (show (i : Int) ≠ (j : Int) by omega)]
      | 1 => rfl
      | r + 2 => rfl
theorem w_fs_setR {ad : Nat → Nat} {E : Int → Int} {cs : List Nat} {j q : Nat} (hl : j < cs.length) : ((w_fs E 0 cs).map (z_cv ad)).set j (z_cv ad (.ref q)) = (w_fs E 0 (cs.set j (q + 2))).map (z_cv ad) := by
  apply List.ext_getElem?
  intro i
  rw [List.getElem?_set, List.length_map, w_fs_len]
  by_cases hi : j = i
  · subst hi
    rw [if_pos rfl, if_pos hl, w_fs_getR (q := q) (by rw [List.getElem?_set, if_pos rfl, if_pos hl])]
    rfl
  · rw [if_neg hi, List.getElem?_map, List.getElem?_map, w_fs_at, w_fs_at, List.getElem?_set, if_neg hi]
theorem w_he {ad : Nat → Nat} {cA : Nat → ClassId} {N i ci : Nat} {cs : List Nat} (hi : i < Y.2.2) (hs : Y.2.1 i = (0, ci, cs)) : (w_W N ad cA G F Y)[N + i]? = some (ad (1000 + i), .inr (ci, (w_fs (Y.1 i) 0 cs).map (z_cv ad))) := by
  rw [w_W_hi hi, w_el_obj hs]
theorem wi_getI {ci j i Nf index : Nat} {T : u_T} {C : String} {cs : List Nat} {r : Nat} (hd : decode (zbc y) pc = .ok (.getfield index, 3)) (hp : pc + 3 = pc') (hcl : vwCl[ci]? = some (C, T, Nf)) (hin : ∀ w ∈ u_ws C T Nf, w ∈ zTs) (hj : j < Nf) (hw : Cond.fieldLink (zyn y).cls index (T j).1 (T j).2.1 (T j).2.2.1 ∈ zTs) (hr0 : r = 1000 + i) (hi : i < Y.2.2) (hs : Y.2.1 i = (0, ci, cs)) (hcj : cs[j]? = some 0) (k : wW u y b pc' L (.int (zi (Y.1 i (j : Int))) :: st) G F Y c d Q) : wW u y b pc L (.ref r :: st) G F Y c d Q := by
  subst hp
  subst hr0
  refine ws_st (fun n h1 h2 => ⟨h1, w_vs_c (w_v_i n _) (w_vs_t h2)⟩) (fun p l e R s m args below meth c0 a0 A D cA Qm ad H locs sl cells slots hC hA hL kk => ?_) k
  obtain ⟨hx, hb, hml, hown, hts, hr, hlk, hnm, hfr, hlo, hce, hse, hK, hZ, hAn, hst⟩ := hC
  exact va_get hx hb hts hin hown hK.1 hA.2.2.2.1 (u.1 + i) (w_he hi hs) hcl j hj (hts _ hw) (fun _ h => h) (w_fs_getI hcj) hd (kk sl hL)
theorem wi_getR {ci j i Nf index q : Nat} {T : u_T} {C : String} {cs : List Nat} {r : Nat} (hd : decode (zbc y) pc = .ok (.getfield index, 3)) (hp : pc + 3 = pc') (hcl : vwCl[ci]? = some (C, T, Nf)) (hin : ∀ w ∈ u_ws C T Nf, w ∈ zTs) (hj : j < Nf) (hw : Cond.fieldLink (zyn y).cls index (T j).1 (T j).2.1 (T j).2.2.1 ∈ zTs) (hr0 : r = 1000 + i) (hi : i < Y.2.2) (hs : Y.2.1 i = (0, ci, cs)) (hcj : cs[j]? = some (q + 2)) (k : wW u y b pc' L (.ref q :: st) G F Y c d Q) : wW u y b pc L (.ref r :: st) G F Y c d Q := by
  subst hp
  subst hr0
  refine ws_st1 (fun g h1 h2 => ⟨h1, w_vs_c (w_v_r ?_) (w_vs_t h2)⟩) (fun p l e R s m args below meth c0 a0 A D cA Qm ad H locs sl cells slots hC hA hL kk => ?_) k
  · have h9 := ((g.2.2.2.2.1 i hi) (q + 2) (by rw [hs]; exact List.mem_of_getElem? hcj)).1 (by rw [hs])
    omega
  · obtain ⟨hx, hb, hml, hown, hts, hr, hlk, hnm, hfr, hlo, hce, hse, hK, hZ, hAn, hst⟩ := hC
    exact va_get hx hb hts hin hown hK.1 hA.2.2.2.1 (u.1 + i) (w_he hi hs) hcl j hj (hts _ hw) (fun _ h => h) (w_fs_getR hcj) hd (kk sl hL)
theorem wi_putI {ci j i Nf index : Nat} {T : u_T} {ty0 : Nat → FieldType} {C : String} {cs : List Nat} {r : Nat} {v : Int} (hd : decode (zbc y) pc = .ok (.putfield index, 3)) (hp : pc + 3 = pc') (hcl : vwCl[ci]? = some (C, T, Nf)) (hin : ∀ w ∈ u_ws C T Nf, w ∈ zTs) (hty : ∀ k, k < Nf → parseFieldDescriptor (T k).2.2.1 = some (ty0 k)) (hnn : ∀ a, a < Nf → ∀ b, b < Nf → a ≠ b → (T a).2.1 ≠ (T b).2.1) (hj : j < Nf) (hw : Cond.fieldLink (zyn y).cls index (T j).1 (T j).2.1 (T j).2.2.1 ∈ zTs) (hfin : (T j).2.2.2 = false) (hna : narrow (ty0 j) (.int (zi v)) = .int (zi v)) (hfi : fits (ty0 j) (.int (zi v)) = true) (hv9 : zr v) (hr0 : r = 1000 + i) (hi : i < Y.2.2) (hs : Y.2.1 i = (0, ci, cs)) (hcj : cs[j]? = some 0) (k : wW u y b pc' L st G F (w_row Y i (zp (Y.1 i) (j : Int) v)) c d Q) : wW u y b pc L (.int (zi v) :: .ref r :: st) G F Y c d Q := by
  subst hp
  subst hr0
  refine ws_m (st' := st) (fun g => wGd_zp hv9 g) rfl (fun n h1 h2 => w_vs_t (w_vs_t h2)) (fun p l e R s m args below meth c0 a0 A D cA Qm ad H locs sl cells slots hC hP hD hS hL kk => ?_) k
  obtain ⟨hx, hb, hml, hown, hts, hr, hlk, hnm, hfr, hlo, hce, hse, hK, hZ, hAn, hst⟩ := hC
  refine va_put hx hb hts hin ty0 hty hnn hown hK.1 hP hD hS (u.1 + i) (w_he hi hs) hcl j hj (hts _ hw) (fun _ h => h) hfin (hty j hj) hna hfi (by rw [List.length_map, w_fs_len]; exact (List.getElem?_eq_some_iff.mp hcj).1) hd (fun H1 locs1 hP1 hD1 hS1 => ?_)
  rw [w_fs_setI hcj, ← w_el_obj (ad := ad) (cA := cA) (E := zp (Y.1 i) (j : Int) v) hs, w_W_row hi] at hP1
  exact kk H1 locs1 hP1 hS1
theorem wi_putR {ci j i Nf index q : Nat} {T : u_T} {ty0 : Nat → FieldType} {C : String} {cs cs' : List Nat} {r : Nat} (hd : decode (zbc y) pc = .ok (.putfield index, 3)) (hp : pc + 3 = pc') (hcl : vwCl[ci]? = some (C, T, Nf)) (hin : ∀ w ∈ u_ws C T Nf, w ∈ zTs) (hty : ∀ k, k < Nf → parseFieldDescriptor (T k).2.2.1 = some (ty0 k)) (hnn : ∀ a, a < Nf → ∀ b, b < Nf → a ≠ b → (T a).2.1 ≠ (T b).2.1) (hj : j < Nf) (hw : Cond.fieldLink (zyn y).cls index (T j).1 (T j).2.1 (T j).2.2.1 ∈ zTs) (hfin : (T j).2.2.2 = false) (hna : ∀ a : Nat, narrow (ty0 j) (.ref a) = .ref a) (hfi : ∀ a : Nat, fits (ty0 j) (.ref a) = true) (hr0 : r = 1000 + i) (hi : i < Y.2.2) (hs : Y.2.1 i = (0, ci, cs)) (hl : j < cs.length) (hcs : cs.set j (q + 2) = cs') (k : wW u y b pc' L st G F (w_put Y i (0, ci, cs') (Y.1 i)) c d Q) : wW u y b pc L (.ref q :: .ref r :: st) G F Y c d Q := by
  subst hp
  subst hr0
  subst hcs
  intro g h1 h2
  have hq : q < 1000 + Y.2.2 := h2 (.ref q) List.mem_cons_self q rfl
  have hsh : w_sh (1000 + Y.2.2) (0, ci, cs.set j (q + 2)) := fun c hc => ⟨fun _ => by
    rcases List.mem_or_eq_of_mem_set hc with h | h
    · exact ((g.2.2.2.2.1 i hi) c (by rw [hs]; exact h)).1 (by rw [hs])
    · omega, fun h => absurd h (by show ¬ 8 ≤ 0; omega)⟩
  refine ws_m (st' := st) (fun g => wGd_put hsh g) rfl (fun n h1 h2 => w_vs_t (w_vs_t h2)) (fun p l e R s m args below meth c0 a0 A D cA Qm ad H locs sl cells slots hC hP hD hS hL kk => ?_) k g h1 h2
  obtain ⟨hx, hb, hml, hown, hts, hr, hlk, hnm, hfr, hlo, hce, hse, hK, hZ, hAn, hst⟩ := hC
  refine va_put hx hb hts hin ty0 hty hnn hown hK.1 hP hD hS (u.1 + i) (w_he hi hs) hcl j hj (hts _ hw) (fun _ h => h) hfin (hty j hj) (hna _) (hfi _) (by rw [List.length_map, w_fs_len]; exact hl) hd (fun H1 locs1 hP1 hD1 hS1 => ?_)
  rw [w_fs_setR hl, ← w_el_obj (ad := ad) (cA := cA) (h := (0, ci, cs.set j (q + 2))) (E := Y.1 i) rfl, w_W_set hi] at hP1
  exact kk H1 locs1 hP1 hS1
theorem wi_putFI {ci j i Nf index : Nat} {T : u_T} {ty0 : Nat → FieldType} {C : String} {cs : List Nat} {r : Nat} {v : Int} (hd : decode (zbc y) pc = .ok (.putfield index, 3)) (hp : pc + 3 = pc') (hcl : vwCl[ci]? = some (C, T, Nf)) (hin : ∀ w ∈ u_ws C T Nf, w ∈ zTs) (hty : ∀ k, k < Nf → parseFieldDescriptor (T k).2.2.1 = some (ty0 k)) (hnn : ∀ a, a < Nf → ∀ b, b < Nf → a ≠ b → (T a).2.1 ≠ (T b).2.1) (hj : j < Nf) (hw : Cond.fieldLink (zyn y).cls index (T j).1 (T j).2.1 (T j).2.2.1 ∈ zTs) (hfin : (T j).2.2.2 = true) (hini : (zyn y).name = "<init>") (hdec : (T j).1 = (zyn y).cls) (hna : narrow (ty0 j) (.int (zi v)) = .int (zi v)) (hfi : fits (ty0 j) (.int (zi v)) = true) (hv9 : zr v) (hr0 : r = 1000 + i) (hi : i < Y.2.2) (hs : Y.2.1 i = (0, ci, cs)) (hcj : cs[j]? = some 0) (k : wW u y b pc' L st G F (w_row Y i (zp (Y.1 i) (j : Int) v)) c d Q) : wW u y b pc L (.int (zi v) :: .ref r :: st) G F Y c d Q := by
  subst hp
  subst hr0
  refine ws_m (st' := st) (fun g => wGd_zp hv9 g) rfl (fun n h1 h2 => w_vs_t (w_vs_t h2)) (fun p l e R s m args below meth c0 a0 A D cA Qm ad H locs sl cells slots hC hP hD hS hL kk => ?_) k
  obtain ⟨hx, hb, hml, hown, hts, hr, hlk, hnm, hfr, hlo, hce, hse, hK, hZ, hAn, hst⟩ := hC
  refine va_putF hx hb hts hin ty0 hty hnn hown hK.1 hP hD hS (u.1 + i) (w_he hi hs) hcl j hj (hts _ hw) (fun _ h => h) hfin (hnm.trans hini) hdec (hty j hj) hna hfi (by rw [List.length_map, w_fs_len]; exact (List.getElem?_eq_some_iff.mp hcj).1) hd (fun H1 locs1 hP1 hD1 hS1 => ?_)
  rw [w_fs_setI hcj, ← w_el_obj (ad := ad) (cA := cA) (E := zp (Y.1 i) (j : Int) v) hs, w_W_row hi] at hP1
  exact kk H1 locs1 hP1 hS1
theorem wi_putFR {ci j i Nf index q : Nat} {T : u_T} {ty0 : Nat → FieldType} {C : String} {cs cs' : List Nat} {r : Nat} (hd : decode (zbc y) pc = .ok (.putfield index, 3)) (hp : pc + 3 = pc') (hcl : vwCl[ci]? = some (C, T, Nf)) (hin : ∀ w ∈ u_ws C T Nf, w ∈ zTs) (hty : ∀ k, k < Nf → parseFieldDescriptor (T k).2.2.1 = some (ty0 k)) (hnn : ∀ a, a < Nf → ∀ b, b < Nf → a ≠ b → (T a).2.1 ≠ (T b).2.1) (hj : j < Nf) (hw : Cond.fieldLink (zyn y).cls index (T j).1 (T j).2.1 (T j).2.2.1 ∈ zTs) (hfin : (T j).2.2.2 = true) (hini : (zyn y).name = "<init>") (hdec : (T j).1 = (zyn y).cls) (hna : ∀ a : Nat, narrow (ty0 j) (.ref a) = .ref a) (hfi : ∀ a : Nat, fits (ty0 j) (.ref a) = true) (hr0 : r = 1000 + i) (hi : i < Y.2.2) (hs : Y.2.1 i = (0, ci, cs)) (hl : j < cs.length) (hcs : cs.set j (q + 2) = cs') (k : wW u y b pc' L st G F (w_put Y i (0, ci, cs') (Y.1 i)) c d Q) : wW u y b pc L (.ref q :: .ref r :: st) G F Y c d Q := by
  subst hp
  subst hr0
  subst hcs
  intro g h1 h2
  have hq : q < 1000 + Y.2.2 := h2 (.ref q) List.mem_cons_self q rfl
  have hsh : w_sh (1000 + Y.2.2) (0, ci, cs.set j (q + 2)) := fun c hc => ⟨fun _ => by
    rcases List.mem_or_eq_of_mem_set hc with h | h
    · exact ((g.2.2.2.2.1 i hi) c (by rw [hs]; exact h)).1 (by rw [hs])
    · omega, fun h => absurd h (by show ¬ 8 ≤ 0; omega)⟩
  refine ws_m (st' := st) (fun g => wGd_put hsh g) rfl (fun n h1 h2 => w_vs_t (w_vs_t h2)) (fun p l e R s m args below meth c0 a0 A D cA Qm ad H locs sl cells slots hC hP hD hS hL kk => ?_) k g h1 h2
  obtain ⟨hx, hb, hml, hown, hts, hr, hlk, hnm, hfr, hlo, hce, hse, hK, hZ, hAn, hst⟩ := hC
  refine va_putF hx hb hts hin ty0 hty hnn hown hK.1 hP hD hS (u.1 + i) (w_he hi hs) hcl j hj (hts _ hw) (fun _ h => h) hfin (hnm.trans hini) hdec (hty j hj) (hna _) (hfi _) (by rw [List.length_map, w_fs_len]; exact hl) hd (fun H1 locs1 hP1 hD1 hS1 => ?_)
  rw [w_fs_setR hl, ← w_el_obj (ad := ad) (cA := cA) (h := (0, ci, cs.set j (q + 2))) (E := Y.1 i) rfl, w_W_set hi] at hP1
  exact kk H1 locs1 hP1 hS1
/-! constants -/
theorem wi_ldcS {index r : Nat} {tx : String} (hd : decode (zbc y) pc = .ok (.ldc index, 2)) (hp : pc + 2 = pc') (hy : (zyn y).cls = "FalseLightMarshLaw") (hq : (index, tx, r) ∈ wSt) (hr1 : r < 1000) (k : wW u y b pc' L (.ref r :: st) G F Y c d Q) : wW u y b pc L st G F Y c d Q := by
  subst hp
  refine ws_st1 (fun g h1 h2 => ⟨h1, w_vs_c (w_v_r (by omega)) h2⟩) (fun p l e R s m args below meth c0 a0 A D cA Qm ad H locs sl cells slots hC hA hL kk => ?_) k
  obtain ⟨hx, hb, hml, hown, hts, hr, hlk, hnm, hfr, hlo, hce, hse, hK, hZ, hAn, hst⟩ := hC
  have h9 := hZ.2.1 _ hq
  have e9 : ad r = a0 r := hA.1 r (by omega)
  rw [hy] at hown
  dsimp only at h9
  rw [← e9] at h9
  exact va_ldcS hx hb hown h9 hd (kk sl hL)
theorem wi_gsC {index : Nat} (hd : decode (zbc y) pc = .ok (.getstatic index, 3)) (hp : pc + 3 = pc') (hw : Cond.fieldLink (zyn y).cls index "java/lang/String" "COMPACT_STRINGS" "Z" ∈ zTs) (k : wW u y b pc' L (.int (zi 1) :: st) G F Y c d Q) : wW u y b pc L st G F Y c d Q := by
  subst hp
  refine ws_st (fun n h1 h2 => ⟨h1, w_vs_c (w_v_i n _) h2⟩) (fun p l e R s m args below meth c0 a0 A D cA Qm ad H locs sl cells slots hC hA hL kk => ?_) k
  obtain ⟨hx, hb, hml, hown, hts, hr, hlk, hnm, hfr, hlo, hce, hse, hK, hZ, hAn, hst⟩ := hC
  have kk := kk sl hL
  obtain ⟨g, q1, q2, q3, q4, q5, q6, q7, q8, q9⟩ := hZ.1
  rw [zi_k1] at kk
  exact va_gets hx hb q8 hA.2.2.2.2.2 hown (hts _ hw) (fun _ h => h) hd kk
theorem wi_gs1 {index : Nat} (hd : decode (zbc y) pc = .ok (.getstatic index, 3)) (hp : pc + 3 = pc') (hw : Cond.fieldLink (zyn y).cls index "java/lang/Integer" "DigitOnes" "[B" ∈ zTs) (k : wW u y b pc' L (.ref 302 :: st) G F Y c d Q) : wW u y b pc L st G F Y c d Q := by
  subst hp
  refine ws_st1 (fun g h1 h2 => ⟨h1, w_vs_c (w_v_r (by omega)) h2⟩) (fun p l e R s m args below meth c0 a0 A D cA Qm ad H locs sl cells slots hC hA hL kk => ?_) k
  obtain ⟨hx, hb, hml, hown, hts, hr, hlk, hnm, hfr, hlo, hce, hse, hK, hZ, hAn, hst⟩ := hC
  have kk := kk sl hL
  have e9 : ad 302 = a0 302 := hA.1 _ (by omega)
  have h9 := hZ.2.2.2.1
  rw [← e9] at h9
  exact va_gets hx hb h9 hA.2.2.2.2.2 hown (hts _ hw) (fun _ h => h) hd kk
theorem wi_gs2 {index : Nat} (hd : decode (zbc y) pc = .ok (.getstatic index, 3)) (hp : pc + 3 = pc') (hw : Cond.fieldLink (zyn y).cls index "java/lang/Integer" "DigitTens" "[B" ∈ zTs) (k : wW u y b pc' L (.ref 303 :: st) G F Y c d Q) : wW u y b pc L st G F Y c d Q := by
  subst hp
  refine ws_st1 (fun g h1 h2 => ⟨h1, w_vs_c (w_v_r (by omega)) h2⟩) (fun p l e R s m args below meth c0 a0 A D cA Qm ad H locs sl cells slots hC hA hL kk => ?_) k
  obtain ⟨hx, hb, hml, hown, hts, hr, hlk, hnm, hfr, hlo, hce, hse, hK, hZ, hAn, hst⟩ := hC
  have kk := kk sl hL
  have e9 : ad 303 = a0 303 := hA.1 _ (by omega)
  have h9 := hZ.2.2.2.2.2.1
  rw [← e9] at h9
  exact va_gets hx hb h9 hA.2.2.2.2.2 hown (hts _ hw) (fun _ h => h) hd kk
theorem wi_dig1 {j : Int} (hd : decode (zbc y) pc = .ok (.baload, 1)) (hp : pc + 1 = pc') (hj : 0 ≤ j ∧ j < 100) (k : wW u y b pc' L (.int (zi (48 + j % 10)) :: st) G F Y c d Q) : wW u y b pc L (.int (zi j) :: .ref 302 :: st) G F Y c d Q := by
  subst hp
  refine ws_st (fun n h1 h2 => ⟨h1, w_vs_c (w_v_i n _) (w_vs_t (w_vs_t h2))⟩) (fun p l e R s m args below meth c0 a0 A D cA Qm ad H locs sl cells slots hC hA hL kk => ?_) k
  obtain ⟨hx, hb, hml, hown, hts, hr, hlk, hnm, hfr, hlo, hce, hse, hK, hZ, hAn, hst⟩ := hC
  have kk := kk sl hL
  have e9 : ad 302 = a0 302 := hA.1 _ (by omega)
  have h9 := hZ.2.2.2.2.1
  rw [← e9] at h9
  refine va_tb hx hb h9 hA.2.2.2.2.2 (i := zi j) (zi_ix ⟨hj.1, by omega, by omega⟩) (v := .int (zi (48 + j % 10))) ?_ hd kk
  have e8 : (((zi j).toNatClampNeg : Nat) : Int) = j := by rw [zi_n ⟨by omega, by omega⟩, Int.toNat_of_nonneg hj.1]
  (try dsimp only)
  rw [e8]
theorem wi_dig2 {j : Int} (hd : decode (zbc y) pc = .ok (.baload, 1)) (hp : pc + 1 = pc') (hj : 0 ≤ j ∧ j < 100) (k : wW u y b pc' L (.int (zi (48 + j / 10)) :: st) G F Y c d Q) : wW u y b pc L (.int (zi j) :: .ref 303 :: st) G F Y c d Q := by
  subst hp
  refine ws_st (fun n h1 h2 => ⟨h1, w_vs_c (w_v_i n _) (w_vs_t (w_vs_t h2))⟩) (fun p l e R s m args below meth c0 a0 A D cA Qm ad H locs sl cells slots hC hA hL kk => ?_) k
  obtain ⟨hx, hb, hml, hown, hts, hr, hlk, hnm, hfr, hlo, hce, hse, hK, hZ, hAn, hst⟩ := hC
  have kk := kk sl hL
  have e9 : ad 303 = a0 303 := hA.1 _ (by omega)
  have h9 := hZ.2.2.2.2.2.2.1
  rw [← e9] at h9
  refine va_tb hx hb h9 hA.2.2.2.2.2 (i := zi j) (zi_ix ⟨hj.1, by omega, by omega⟩) (v := .int (zi (48 + j / 10))) ?_ hd kk
  have e8 : (((zi j).toNatClampNeg : Nat) : Int) = j := by rw [zi_n ⟨by omega, by omega⟩, Int.toNat_of_nonneg hj.1]
  (try dsimp only)
  rw [e8]
theorem wi_cval {index i : Nat} (hd : decode (zbc y) pc = .ok (.getfield index, 3)) (hp : pc + 3 = pc') (hw : Cond.fieldLink (zyn y).cls index "java/lang/String" "value" "[B" ∈ zTs) (hi : i < 10) (k : wW u y b pc' L (.ref (350 + i) :: st) G F Y c d Q) : wW u y b pc L (.ref (330 + i) :: st) G F Y c d Q := by
  subst hp
  refine ws_st1 (fun g h1 h2 => ⟨h1, w_vs_c (w_v_r (by omega)) (w_vs_t h2)⟩) (fun p l e R s m args below meth c0 a0 A D cA Qm ad H locs sl cells slots hC hA hL kk => ?_) k
  obtain ⟨hx, hb, hml, hown, hts, hr, hlk, hnm, hfr, hlo, hce, hse, hK, hZ, hAn, hst⟩ := hC
  have kk := kk sl hL
  have h9 := (hZ.2.2.1.1 i hi).2.2.1
  dsimp only at h9
  have e9 : ad (330 + i) = a0 (330 + i) := hA.1 _ (by omega)
  have e8 : ad (350 + i) = a0 (350 + i) := hA.1 _ (by omega)
  rw [← e9, ← e8] at h9
  exact vk_getf hx hb h9 hA.2.2.2.2.2 hown (hts _ hw) (fun _ h => h) hd kk
theorem wi_ccod {index i : Nat} (hd : decode (zbc y) pc = .ok (.getfield index, 3)) (hp : pc + 3 = pc') (hw : Cond.fieldLink (zyn y).cls index "java/lang/String" "coder" "B" ∈ zTs) (hi : i < 10) (k : wW u y b pc' L (.int (zi 0) :: st) G F Y c d Q) : wW u y b pc L (.ref (330 + i) :: st) G F Y c d Q := by
  subst hp
  refine ws_st (fun n h1 h2 => ⟨h1, w_vs_c (w_v_i n _) (w_vs_t h2)⟩) (fun p l e R s m args below meth c0 a0 A D cA Qm ad H locs sl cells slots hC hA hL kk => ?_) k
  obtain ⟨hx, hb, hml, hown, hts, hr, hlk, hnm, hfr, hlo, hce, hse, hK, hZ, hAn, hst⟩ := hC
  have kk := kk sl hL
  have h9 := (hZ.2.2.1.1 i hi).2.1
  dsimp only at h9
  have e9 : ad (330 + i) = a0 (330 + i) := hA.1 _ (by omega)
  rw [← e9] at h9
  rw [zi_k0] at kk
  exact vk_getf hx hb h9 hA.2.2.2.2.2 hown (hts _ hw) (fun _ h => h) hd kk
theorem wi_clen {i : Nat} (hd : decode (zbc y) pc = .ok (.arraylength, 1)) (hp : pc + 1 = pc') (hi : i < 10) (k : wW u y b pc' L (.int (zi ((wSl.getD i 0 : Nat) : Int)) :: st) G F Y c d Q) : wW u y b pc L (.ref (350 + i) :: st) G F Y c d Q := by
  subst hp
  refine ws_st (fun n h1 h2 => ⟨h1, w_vs_c (w_v_i n _) (w_vs_t h2)⟩) (fun p l e R s m args below meth c0 a0 A D cA Qm ad H locs sl cells slots hC hA hL kk => ?_) k
  obtain ⟨hx, hb, hml, hown, hts, hr, hlk, hnm, hfr, hlo, hce, hse, hK, hZ, hAn, hst⟩ := hC
  have kk := kk sl hL
  have h9 := (hZ.2.2.1.1 i hi).2.2.2
  dsimp only at h9
  have e8 : ad (350 + i) = a0 (350 + i) := hA.1 _ (by omega)
  rw [← e8] at h9
  exact va_tlen hx hb h9 hA.2.2.2.2.2 rfl hd kk
theorem wi_cbal {i : Nat} {j v : Int} (hd : decode (zbc y) pc = .ok (.baload, 1)) (hp : pc + 1 = pc') (hi : i < 10) (hj : 0 ≤ j ∧ j < (wSl.getD i 0 : Nat)) (hj2 : j ≤ 2147483647) (hv : (wSb.getD i []).getD j.toNat 0 = zi v) (k : wW u y b pc' L (.int (zi v) :: st) G F Y c d Q) : wW u y b pc L (.int (zi j) :: .ref (350 + i) :: st) G F Y c d Q := by
  subst hp
  refine ws_st (fun n h1 h2 => ⟨h1, w_vs_c (w_v_i n _) (w_vs_t (w_vs_t h2))⟩) (fun p l e R s m args below meth c0 a0 A D cA Qm ad H locs sl cells slots hC hA hL kk => ?_) k
  obtain ⟨hx, hb, hml, hown, hts, hr, hlk, hnm, hfr, hlo, hce, hse, hK, hZ, hAn, hst⟩ := hC
  have kk := kk sl hL
  have h9 := (hZ.2.2.1.1 i hi).2.2.2
  dsimp only at h9
  have e8 : ad (350 + i) = a0 (350 + i) := hA.1 _ (by omega)
  rw [← e8] at h9
  refine va_tb hx hb h9 hA.2.2.2.2.2 (i := zi j) (zi_ix ⟨hj.1, hj.2, hj2⟩) (v := .int (zi v)) ?_ hd kk
  (try dsimp only)
  rw [zi_n ⟨by omega, hj2⟩, hv]
/-! a table of cases -/
theorem wi_ts {dflt hi : Int} {offs : Array Int} {len t : Nat} {off v : Int} (hd : decode (zbc y) pc = .ok (.tableswitch dflt 0 hi offs, len)) (hv : 0 ≤ v ∧ v ≤ hi) (hv2 : v ≤ 2147483647) (ho : offs[v.toNat]? = some off) (ht : (pc : Int) + off = (t : Int)) (k : wW u y b t L st G F Y c d Q) : wW u y b pc L (.int (zi v) :: st) G F Y c d Q := by
  refine ws_st (fun n h1 h2 => ⟨h1, w_vs_t h2⟩) (fun p l e R s m args below meth c0 a0 A D cA Qm ad H locs sl cells slots hC hA hL kk => ?_) k
  obtain ⟨hx, hb, hml, hown, hts, hr, hlk, hnm, hfr, hlo, hce, hse, hK, hZ, hAn, hst⟩ := hC
  have e9 : (zi v).toInt = v := zi_to ⟨by omega, hv2⟩
  exact lv_tableIn hx hb hd (by rw [e9]; omega) (by rw [e9]; omega) (by rw [e9, Int.sub_zero]; exact ho) ht (kk sl hL)
theorem wi_tsD {dflt hi : Int} {offs : Array Int} {len t : Nat} {v : Int} (hd : decode (zbc y) pc = .ok (.tableswitch dflt 0 hi offs, len)) (hv : hi < v) (hv2 : zr v) (ht : (pc : Int) + dflt = (t : Int)) (k : wW u y b t L st G F Y c d Q) : wW u y b pc L (.int (zi v) :: st) G F Y c d Q := by
  refine ws_st (fun n h1 h2 => ⟨h1, w_vs_t h2⟩) (fun p l e R s m args below meth c0 a0 A D cA Qm ad H locs sl cells slots hC hA hL kk => ?_) k
  obtain ⟨hx, hb, hml, hown, hts, hr, hlk, hnm, hfr, hlo, hce, hse, hK, hZ, hAn, hst⟩ := hC
  have e9 : (zi v).toInt = v := zi_to hv2
  exact lv_tableOut hx hb hd (by rw [e9]; omega) ht (kk sl hL)
end W5
