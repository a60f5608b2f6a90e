/-! The claim. -/
/-! THE CLAIM OUT OF ONE WALK OF THE LAW'S BODY. Your part is whole_start (and what it stands on); all else here is the same for every law, but numbers. -/
def R_law : String := "FalseLightMarshLaw"
def lw_P (b : Addr) (xs : List Int32) (args : Array Value) (s : State) : Prop := args = #[.ref b] ∧ s.IntsAt b xs ∧ xs.length ≤ 260 ∧ (Jvm.Cond.and given_1 narrow_1).before args s = true
/-- what a walk over the start with the record d0 says of its end, said of the start itself -/
theorem lw_closed {s t : State} {o : Outcome} {d0 : Drawn} {L : List Loc} {k n : Nat} (hd0 : s.drawn.sameBut d0 lw_cs) (hv : ∃ v, o = .returned v) (hW : (s.setDrawn d0).WarmedH t.vm) (hs : (s.setDrawn d0).sameButNew ({ t with vm := s.vm } : State) L k n) : State.butDraws s t lw_cs (fun t1 => Framed s o t1 L k n) := by
  have h2 : t.drawn = d0 := congrArg State.drawn hs.1
  refine ⟨⟨hv, hW, State.sameButNew.setDrawn hs s.drawn⟩, ?_, by decide⟩
  rw [h2]
  exact hd0
def lw_Q (_ : Array Value) (s : State) (o : Outcome) (t : State) : Prop := o = .returned (some (.int 1)) ∧ State.butDraws s t lw_cs (fun t1 => Framed s o t1 [] 600086 7301442)
def lw_Z (below : List Frame) (a : Array Value) (s : State) : State → Prop := fun t => ∃ o, t.status = .running ∧ Ended t below o ∧ lw_Q a s o t
/-- the law's own end, with 1 on the stack, nothing written that was there before, its room as the claim has it; d0: the record of draws at this point (at the entry s.drawn: begin with 'refine W.base ?_' and 'have hd0 := Drawn.sameBut.refl s.drawn lw_cs') -/
theorem lw_ret {p : Program} {l : Launch} {e : Env} {s : State} {m : MethodId} {below : List Frame} {meth : Method} {c : Code} {b : Nat} {d0 : Drawn} (hd0 : s.drawn.sameBut d0 lw_cs) (hx : p.tables.exec = Jvm.exec) (hb : c.code = code) (hr : meth.sig.returnType = ret) (hlocks : meth.locks = false) {pc : Nat} {H : Heap} {ls : Array Slot} (hdg : decode code pc = .ok (.ireturn, 1)) : W p l e room_1 (s.setDrawn d0) m #[Value.ref b] below meth c H [] 600086 7301442 (lw_Z below #[Value.ref b] s) (F0 m pc ls [.int 1]) := by
  intro T hT X
  obtain ⟨fs, hret, hrun, hended, hW, hframe⟩ := X.leave (v := some (.int 1)) (hlocks := hlocks) (fun h => by rw [hr] at h; cases h)
  have hmeth' : T.vm.method? m = some meth := X.method'
  refine ⟨T.setFrames fs, ?_, .returned (some (.int 1)), hrun, hended, rfl, lw_closed hd0 ⟨_, rfl⟩ hW hframe⟩
  jvm_step X.here [X.here.top, hx, hb, hdg, hmeth', hr, ret, narrow_b1]
  (try refine ⟨rfl, ?_⟩); (try refine ⟨rfl, ?_⟩)
  first | (intro acts; rw [hret _ acts rfl rfl rfl]) | rw [hret _ _ rfl rfl rfl]
  exact Steps.refl _
/-- what holds at the law's entry: the machine, the code, the tables' words (any of lw_tbl by 'hts w (by decide +kernel)'), the script of L ints xs at the cell b, what the Statement gives of the start (any of its parts by flat_of_before) -/
def lw_At (p : Program) (s : State) (m : MethodId) (meth : Method) (c : Code) (b L : Nat) (xs : Nat → Int32) : Prop :=
  p.tables.exec = Jvm.exec ∧ c.code = code ∧ meth.sig.returnType = ret ∧ c.maxLocals = 7 ∧ s.vm.findClass R_law = some m.cls ∧ (∀ w ∈ lw_tbl, w.before #[Value.ref b] s = true) ∧ va_X b L xs s s.heap ∧ b < s.heap.size ∧ meth.locks = false ∧ (Jvm.Cond.and given_1 narrow_1).before #[Value.ref b] s = true ∧ meth.name = "law"
def Y00 : DY := (fun _ _ => 0, fun _ => (0, 0, []), 0)
set_option maxHeartbeats 4000000 in
theorem whole_start {p : Program} {e : Env} {s : State} {m : MethodId} {below : List Frame} {meth : Method} {c : Code} (l : Launch) (hflags : l.flags = flags0) {b L : Nat} {xs : Nat → Int32} (hL : L ≤ 260) (C0 : lw_At p s m meth c b L xs) : W p l e room_1 s m #[Value.ref b] below meth c s.heap [] 0 0 (lw_Z below #[Value.ref b] s) (entryFrame m ([Value.ref b] : List Value).toArray 7) := by
  obtain ⟨hx, hb, hr, hml, hown, hts, hX, hbl, hlocks, hgv, hnm⟩ := id C0
  have hst : l.stackTraces = false := by
    unfold Launch.stackTraces
    rw [hflags]
    rfl
  have htz : ∀ w ∈ zTs, w.before #[Value.ref b] s = true := fun w hw => hts w (List.mem_filter.mp hw).1
  obtain ⟨D, cA, hWK, hKK⟩ := k_wK hts
  obtain ⟨a0, ha0, hZ⟩ := k_wZ hWK hts (fun w hw => flat_of_before _ hgv w hw) hX hbl
  have hA : ∀ q : Nat, s.heap.size ≤ q → (fun q : Nat => s.heap.size ≤ q) q := fun _ h => h
  have hbA : ¬ (fun q : Nat => s.heap.size ≤ q) b := Nat.not_le.mpr hbl
  have hS : va_S (fun q : Nat => s.heap.size ≤ q) s.heap s.heap [] := va_S.rf
  have hP : va_P D vwCl [] s.heap := fun k q h => by simp at h
  have hD : va_D (fun q : Nat => s.heap.size ≤ q) [] := ⟨fun i j p q h => by simp at h, fun k q h => by simp at h⟩
  have hl := lv_entry ([.ref b]) (n := 7) (Nat.le_of_ble_eq_true rfl)
  rw [lg_entry_eq]
  generalize (lg_sl ([.ref b]) ++ List.replicate (7 - (lg_sl ([.ref b])).length) Slot.unset).toArray = ls at hl ⊢
  have hl : lv_has ls 7 [(0, .ref b)] := hl
  refine lv_bipush (v := 6) hx hb dL_law_0 (by decide) ?_
  refine va_newa (D := D) (atype := .int) (ty := .int) (a0 := (6, .inl fun _ => 0)) (N' := 6) hx hb (htz _ kw_103) rfl hWK.1 hP hD hS hA (fun _ => rfl) (by decide) rfl (by decide) (Nat.le_of_ble_eq_true rfl) (Nat.le_of_ble_eq_true rfl) dL_law_2 (fun q3 cB H hK1 hP hD hS => ?_)
  have eB : cB = cA 1 := k_uni (fun C h => by cases h) (hK1.2 10 _ rfl).2 (hWK.1.2 0 _ rfl).2
  subst eB
  have hP : va_P D vwCl [(q3, (.inl (cA 1, 6, .inl fun _ => 0) : va_E))] H := hP
  have hD : va_D (fun q : Nat => s.heap.size ≤ q) [(q3, (.inl (cA 1, 6, .inl fun _ => 0) : va_E))] := hD
  have hq3 : s.heap.size ≤ q3 := hD.2 0 _ rfl
  refine lv_astore_n (lv' := [(1, .ref q3), (0, .ref b)]) hx hb dL_law_4 rfl hl (by decide) rfl (fun ls hl => ?_)
  refine lv_iconst (v := zi 0) hx hb dL_law_5 (by decide +kernel) ?_
  refine lv_istore_n (lv' := [(2, .int (zi 0)), (1, .ref q3), (0, .ref b)]) hx hb dL_law_6 rfl hl (by decide) rfl (fun ls hl => ?_)
  refine st_loop (b := b) (L := L) (xs := xs) (q3 := q3) (A := fun q : Nat => s.heap.size ≤ q) hx hb hown htz hWK hX hbl hbA hL (fun fs => k_d1 hq3) (fun fs H locs ls x2 hP hS hl => ?_) 8 0 _ H _ ls (by decide) (by decide) hP hS hl
  have hD : va_D (fun q : Nat => s.heap.size ≤ q) [(q3, (.inl (cA 1, 6, .inl fs) : va_E))] := k_d1 hq3
  refine va_new (ci := 8) (fs := [.null, .null, .null, .null, .null, .null, .null, .null, .null, .int 0, .int 0]) (C := RX8) (T := TX8) (N := 11) hx hb htz inX8 tyX8 tyX8_ok hown (htz _ kh_60) (htz _ kh_61) (htz _ kh_32) hWK.1 hP hD hS hA rfl (fun j hj => by rcases (show j = 0 ∨ j = 1 ∨ j = 2 ∨ j = 3 ∨ j = 4 ∨ j = 5 ∨ j = 6 ∨ j = 7 ∨ j = 8 ∨ j = 9 ∨ j = 10 by omega) with rfl | rfl | rfl | rfl | rfl | rfl | rfl | rfl | rfl | rfl | rfl <;> rfl) (Nat.le_of_ble_eq_true rfl) (Nat.le_of_ble_eq_true rfl) dL_law_35 (fun q0 H hP hD hS => ?_)
  refine lv_dup hx hb dL_law_38 rfl ?_
  refine k8_call (LL := L) (xs := xs) (a0 := a0) (wr := [(q3, (.inl (cA 1, 6, .inl fs) : va_E))]) (A := fun q : Nat => s.heap.size ≤ q) hst hx hb hml hown htz hKK hZ.1 hP hD hS hA kh_62 ⟨Nat.le_of_ble_eq_true rfl, Nat.le_of_ble_eq_true rfl⟩ (Nat.le_of_ble_eq_true rfl) hl.1 dL_law_39 (Nat.le_of_ble_eq_true rfl) (Nat.le_of_ble_eq_true rfl) (fun ad8 G H locs h192 hhi hG hJ hP hD hS => ?_)
  refine lv_astore_n (lv' := [(2, .ref q0), (1, .ref q3), (0, .ref b)]) hx hb dL_law_42 rfl hl (by decide) rfl (fun ls hl => ?_)
  have hP := va_P_sw hP
  have hD := va_D_sw hD
  obtain ⟨ad, had⟩ : ∃ ad : Nat → Nat, ad = fun k => if k = 1000 then q3 else ad8 k := ⟨_, rfl⟩
  have e1000 : ad 1000 = q3 := by
    rw [had]
    exact if_pos rfl
  have elo : ∀ k, k < 1000 → ad k = ad8 k := fun k hk => by
    rw [had]
    exact if_neg (by omega)
  obtain ⟨S, hSd⟩ : ∃ S : Int → Int, S = fun j => (fs j.toNat).toInt := ⟨_, rfl⟩
  have hSz : ∀ j, zr (S j) := fun j => by
    rw [hSd]
    exact zr_to _
  have hfs : fs = fun k : Nat => zi (S (k : Int)) := by
    funext k
    rw [hSd]
    show fs k = zi ((fs ((k : Int)).toNat).toInt)
    rw [Int.toNat_natCast, zi_of]
  have eY1 : (w_add Y00 (1, 6, []) S).2.1 0 = (1, 6, []) := w_add_hi (Y := Y00)
  have eY2 : (w_add Y00 (1, 6, []) S).1 0 = S := w_add_En (Y := Y00)
  have hW : z_W 229 ad8 cA (mM G Gz 0) ++ [(q3, (.inl (cA 1, 6, .inl fs) : va_E))] = w_W 229 ad cA G Gz (w_add Y00 (1, 6, []) S) := by
    unfold w_W
    rw [z_W_ad (ad := ad) (ad' := ad8) (fun k hk => elo k (by omega))]
    refine congrArg (fun x => z_W 229 ad8 cA (mM G Gz 0) ++ x) ?_
    show _ = [(ad 1000, w_el ad cA ((w_add Y00 (1, 6, []) S).2.1 0) ((w_add Y00 (1, 6, []) S).1 0))]
    rw [e1000, eY1, eY2, w_el_ints (t := 1) (n := 6) (cs := []) rfl ⟨by decide, by decide⟩, hfs]
  rw [hW] at hP hD
  have e192 : ad 192 = q0 := (elo 192 (by decide)).trans h192
  have e310 : ad 310 = b := ((elo 310 (by decide)).trans (hhi 310 (by decide))).trans ha0
  have hZ9 : wZ (L, xs) (fun q : Nat => s.heap.size ≤ q) ad s s.heap := wZ_ad3 hZ (fun k k0 k1 => (elo k k1).trans (hhi k (by omega)))
  have hCx : wCx (229, (L, xs)) 375 (600086, 7301442, 0) l ad (fun q : Nat => s.heap.size ≤ q) D cA p room_1 s m #[Value.ref b] meth c := ⟨hx, hb, hml, hown, htz, hr, hlocks, hnm, rfl, rfl, rfl, rfl, hWK, hZ9, hA, hst⟩
  have hg : wGd (229, (L, xs)) (600086, 7301442, 0) G Gz (w_add Y00 (1, 6, []) S) := ⟨Nat.le_refl _, hG, zrL_z, fun k j => by
    show zr (zk Y00.1 0 S k j)
    by_cases hk : k = 0
    · rw [hk, zk_eq]
      exact hSz j
    · rw [zk_ne hk]
      show zr 0
      decide, w_ok_add (fun i hi => absurd hi (Nat.not_lt_zero i)) (fun c hc => by cases hc), Nat.zero_le _⟩
  have hv : w_vs (1000 + 1) [.ref 310, .ref (1000 + 0), .ref 192, .null, .null, .null, .null] := w_vs_c (w_v_r (by decide)) (w_vs_c (w_v_r (by decide)) (w_vs_c (w_v_r (by decide)) (w_vs_c (w_v_n _) (w_vs_c (w_v_n _) (w_vs_c (w_v_n _) (w_vs_c (w_v_n _) w_vs_0))))))
  have har : wAr 0 6 S (w_add Y00 (1, 6, []) S) := ⟨Nat.lt_succ_self _, eY1, fun k _ _ => by rw [eY2]⟩
  have hend : wEnd (229, (L, xs)) 375 (600086, 7301442, 0) (fun o _ _ _ => o = some (.int (zi 1))) p l e room_1 s m #[Value.ref b] below meth c ad (fun q : Nat => s.heap.size ≤ q) D cA (lw_Z below #[Value.ref b] s) := by
    intro o G' F' Y' ad' H' locs' sl pc cells slots hr' hq' hg' hv' hA'
    subst hq'
    obtain ⟨h1, -⟩ := hr'
    obtain ⟨-, e2, e3, -, -, hS'⟩ := hA'
    refine va_forget (fun q hq => hS'.2.2 q hq) ?_
    refine W.widen (k := 600086) (n := 7301442) e2 e3 ?_
    refine W.base ?_
    show W p l e room_1 _ m #[Value.ref b] below meth c H' [] 600086 7301442 (lw_Z below #[Value.ref b] s) (F0 m pc sl [.int (zi 1)])
    rw [zi_k1]
    exact lw_ret (Drawn.sameBut.refl s.drawn lw_cs) hx hb hr hlocks h1
  have K := lw_43 (X := (L, xs)) (b := (600086, 7301442, 0)) (F := Gz) (i6 := 0) (S := S) (G := G) (Y := w_add Y00 (1, 6, []) S) (a3 := .null) (a4 := .null) (a5 := .null) (a6 := .null) (c := 230) (d := 6704) (by decide) (by decide) (by decide) (by decide) har hJ hg hv w_vs_0
  refine K p l e room_1 s m #[Value.ref b] below meth c ad (fun q : Nat => s.heap.size ≤ q) D cA (lw_Z below #[Value.ref b] s) hCx hend ad H locs ls _ _ ⟨fun _ _ => rfl, Nat.le_of_ble_eq_true rfl, Nat.le_of_ble_eq_true rfl, hP, hD, hS⟩ ⟨?_, fun i v hi hc => ?_⟩
  · have h9 : lv_has ls 7 [(0, .ref b), (1, .ref q3), (2, .ref q0)] := lv_sub hl [2, 1, 0] rfl
    rw [← e310, ← e1000, ← e192] at h9
    exact h9
  · exfalso
    match i, hi with
    | 0, hi => cases hi; cases hc
    | 1, hi => cases hi; cases hc
    | 2, hi => cases hi; cases hc
    | 3, hi => cases hi; cases hc
    | 4, hi => cases hi; cases hc
    | 5, hi => cases hi; cases hc
    | 6, hi => cases hi; cases hc
    | i + 7, hi => cases hi
set_option maxHeartbeats 4000000 in
theorem lw_walk (l : Launch) (hflags : l.flags = flags0) (b : Addr) (xs : List Int32) : MetFree l x (headSpec (Jvm.Cond.code x code maxLocals ret :: tables_1) room_1) (lw_P b xs) (fun _ _ _ _ _ => True) lw_Q := by
  refine MetFree.of_bodyS (code := code) (maxLocals := maxLocals) (ret := ret) (by decide) ?_ ?_
  · intro args s m h hn
    obtain ⟨meth, c, h1, h2, h3, h4, h5, h6, -, -⟩ := Cond.code_spec hn (atoms_spec (ws := Jvm.Cond.code x code maxLocals ret :: tables_1) h _ List.mem_cons_self)
    exact ⟨meth, c, h1, h2, h3, h4, h5, h6⟩
  · intro p e s m args below meth c s₁ B hml0 hP _
    obtain ⟨rfl, hx, hbd, hgv⟩ := hP
    obtain ⟨scr, harrAt, hlist, hof, hsmall⟩ := hx
    obtain ⟨hcb, hkn, -, -⟩ := State.arrayAt?_spec harrAt
    have hown : s.vm.findClass R_law = some m.cls := findClass_of_methodNamed B.named
    have hts0 : ∀ c ∈ (Jvm.Cond.code x code maxLocals ret :: tables_1), c.before #[Value.ref b] s = true := atoms_spec (ws := Jvm.Cond.code x code maxLocals ret :: tables_1) B.pre
    have hts : ∀ w ∈ lw_tbl, w.before #[Value.ref b] s = true := k2_hts_sels lw_privs (fun w hw => hts0 w (List.mem_cons_of_mem _ hw)) lw_privs_ok
    have hml : c.maxLocals = 7 := B.maxLocals_eq (hts0 _ List.mem_cons_self)
    have X₀ : Stand p l e room_1 s m #[Value.ref b] below meth c s₁ [] 0 0 := Stand.of_body B
    have hh0 : s₁.heap = s.heap := by rw [B.state]; rfl
    have hsz : scr.slots.size = xs.length := by rw [← Array.length_toList, hlist, List.length_map]
    have hval : ∀ j : Nat, j < xs.length → scr.slots[j]? = some (.int (xs.getD j 0)) := fun j hj => by
      rw [← Array.getElem?_toList, hlist]
      simp [hj]
    have hbl : b < s.heap.size := (Array.getElem?_eq_some_iff.mp hcb).1
    have hX : va_X b xs.length (fun j => xs.getD j 0) s s.heap := ⟨scr, hcb, hof, hkn, hsz, hval⟩
    have K : W p l e room_1 s m #[Value.ref b] below meth c s₁.heap [] 0 0 (lw_Z below #[Value.ref b] s) (entryFrame m ([Value.ref b] : List Value).toArray 7) := by
      rw [hh0]
      exact whole_start l hflags hbd ⟨B.exec, B.bytes, B.returns, hml, hown, hts, hX, hbl, B.notSynchronized, hgv, (name_of_methodNamed B.named B.method).1⟩
    obtain ⟨t, a1, o, b1, b2, b3⟩ := K s₁ rfl X₀
    exact ⟨t, o, a1, b1, b2, b3⟩
theorem lw_pre_spec {args : Array Value} {s : State} (h : (Jvm.Cond.and given_1 narrow_1).before args s = true) (hr : rest_1_c.before args s = true) : ∃ (b : Addr) (xs : List Int32), lw_P b xs args s := by
  have hs := flat_of_before _ h
  have hq := flat_of_before _ hr
  have hc : (Cond.count 1).before args s = true := hs _ (by decide +kernel)
  have harr : (Cond.arrayOf (.arg 0) .int).before args s = true := hs _ (by decide +kernel)
  have hle : (Cond.le (.length (.arg 0)) (.int 260)).before args s = true := hs _ (by decide +kernel)
  have hlen : (Cond.isInt (.length (.arg 0))).before args s = true := hq _ (by decide +kernel)
  have hall : (Cond.all (.arg 0) (.isInt (.elem (.arg 0) (.index 0)))).before args s = true := hq _ (by decide +kernel)
  obtain ⟨b, xs, hb, hx⟩ := State.ints_of_pre rfl harr hlen hall
  have hsm : xs.length < 2 ^ 31 := hx.choose_spec.2.2.2
  have hev : (Term.length (.arg 0)).eval args s none [] s = some (.int xs.length.toInt32) := hx.length_eval hb
  have hv := Cond.le_ints hev (show (Term.int 260).eval args s none [] s = some (.int 260) from rfl)
  have hd : xs.length.toInt32 ≤ 260 := by
    simpa [Cond.before, Cond.holds, hv] using hle
  have hN : xs.length ≤ 260 := (Int32.ofNat_le_ofNat hsm (by decide)).mp (show Int32.ofNat xs.length ≤ Int32.ofNat 260 from hd)
  exact ⟨b, xs, Cond.one_arg hc (show args[0]? = some (.ref b) from hb), hx, hN, h⟩
theorem lw_comes (l : Launch) (hflags : l.flags = flags0) : Comes l x (Jvm.Cond.code x code maxLocals ret :: tables_1) room_1 (fun tb e args s => Calls_1 tb e args s ∧ rest_1 tb e args s ∧ Pre_1 tb e args s)
    (fun _ _ args s o t => lw_Q args s o t) := by
  intro p e ha hc hk s m args below hf hfit hheap happ hpre
  obtain ⟨b, xs, hP⟩ := lw_pre_spec hpre.2.2 hpre.2.1
  obtain ⟨k, o, h1, h2, h3, hQ⟩ := lw_walk l hflags b xs p e ha hc hk s m args below hf ((Spec.applies_iff_loose hf).mp happ).1 hP trivial
  exact ⟨k, o, h1, h2, h3, hQ⟩
theorem lw_frame {s t : State} {o : Outcome} {args : Array Value} (h : State.butDraws s t lw_cs (fun t1 => Framed s o t1 [] 600086 7301442)) :
    State.butDraws s t [Jvm.Choice.named "NaN.bits"] (fun t1 => Framed s o t1 (fieldLocs frame_1_writes args s ++ arrayLocs frame_1_arrays args s ++ staticLocs frame_1_statics s) 600086 7301442) := h
theorem lw_limb (L : Cond) (hL : ∀ (args : Array Value) (s t : State), L.after args s (.returned (some (.int 1))) t = true) :
    ArmFor flags0 classFile x code maxLocals ret World_1 tables_1 room_1 Calls_1 rest_1 Pre_1
      (fun tb e a s o t => postC L tb e a s o t ∧ State.butDraws s t [Jvm.Choice.named "NaN.bits"] (fun t1 => Framed s o t1 (fieldLocs frame_1_writes a s ++ arrayLocs frame_1_arrays a s ++ staticLocs frame_1_statics s) 600086 7301442)) := by
  intro l hflags _ _ p e ha hc hk s m args below hf hfit hheap happ hpre
  obtain ⟨k, o, h1, h2, h3, rfl, hF⟩ := lw_comes l hflags p e ha hc hk s m args below hf hfit hheap happ hpre
  exact ⟨k, _, h1, h2, h3, hL args s _, lw_frame hF⟩
theorem i_vc : Claimed_1_1 ∧ Claimed_1_2 := ⟨lw_limb limb_1_1 (fun args s t => by simp [limb_1_1, Cond.after, Cond.holds, Cond.value]), lw_limb limb_1_2 (fun args s t => Cond.after_iff.mpr (by
  first | (rw [show limb_1_2 = Cond.eq .result (.int 1) from rfl, Cond.eq_ints (x := 1) (y := 1) rfl rfl]; simp; done) | (simp [limb_1_2, Cond.value, Term.eval]; done)))⟩
