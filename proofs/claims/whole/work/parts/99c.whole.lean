/-! The claim. -/
/-! THE CLAIM OUT OF ONE WALK OF THE LAW'S BODY. Your part is whole_start (and what it stands on); all else here is the same for every law, but numbers. -/
def R_law : String := "FalseLightMarshLaw"
def lw_P (b : Addr) (xs : List Int32) (args : Array Value) (s : State) : Prop := args = #[.ref b] ∧ s.IntsAt b xs ∧ xs.length ≤ 3072 ∧ (Jvm.Cond.and given_1 narrow_1).before args s = true
/-- what a walk over the start with the record d0 says of its end, said of the start itself -/
theorem lw_closed {s t : State} {o : Outcome} {d0 : Drawn} {L : List Loc} {k n : Nat} (hd0 : s.drawn.sameBut d0 lw_cs) (hv : ∃ v, o = .returned v) (hW : (s.setDrawn d0).WarmedH t.vm) (hs : (s.setDrawn d0).sameButNew ({ t with vm := s.vm } : State) L k n) : State.butDraws s t lw_cs (fun t1 => Framed s o t1 L k n) := by
  have h2 : t.drawn = d0 := congrArg State.drawn hs.1
  refine ⟨⟨hv, hW, State.sameButNew.setDrawn hs s.drawn⟩, ?_, by decide⟩
  rw [h2]
  exact hd0
def lw_Q (_ : Array Value) (s : State) (o : Outcome) (t : State) : Prop := o = .returned (some (.int 1)) ∧ State.butDraws s t lw_cs (fun t1 => Framed s o t1 [] 601024 7293034)
def lw_Z (below : List Frame) (a : Array Value) (s : State) : State → Prop := fun t => ∃ o, t.status = .running ∧ Ended t below o ∧ lw_Q a s o t
/-- the law's own end, with 1 on the stack, nothing written that was there before, its room as the claim has it; d0: the record of draws at this point (at the entry s.drawn: begin with 'refine W.base ?_' and 'have hd0 := Drawn.sameBut.refl s.drawn lw_cs') -/
theorem lw_ret {p : Program} {l : Launch} {e : Env} {s : State} {m : MethodId} {below : List Frame} {meth : Method} {c : Code} {b : Nat} {d0 : Drawn} (hd0 : s.drawn.sameBut d0 lw_cs) (hx : p.tables.exec = Jvm.exec) (hb : c.code = code) (hr : meth.sig.returnType = ret) (hlocks : meth.locks = false) {pc : Nat} {H : Heap} {ls : Array Slot} (hdg : decode code pc = .ok (.ireturn, 1)) : W p l e room_1 (s.setDrawn d0) m #[Value.ref b] below meth c H [] 601024 7293034 (lw_Z below #[Value.ref b] s) (F0 m pc ls [.int 1]) := by
  intro T hT X
  obtain ⟨fs, hret, hrun, hended, hW, hframe⟩ := X.leave (v := some (.int 1)) (hlocks := hlocks) (fun h => by rw [hr] at h; cases h)
  have hmeth' : T.vm.method? m = some meth := X.method'
  refine ⟨T.setFrames fs, ?_, .returned (some (.int 1)), hrun, hended, rfl, lw_closed hd0 ⟨_, rfl⟩ hW hframe⟩
  jvm_step X.here [X.here.top, hx, hb, hdg, hmeth', hr, ret, narrow_b1]
  (try refine ⟨rfl, ?_⟩); (try refine ⟨rfl, ?_⟩)
  first | (intro acts; rw [hret _ acts rfl rfl rfl]) | rw [hret _ _ rfl rfl rfl]
  exact Steps.refl _
/-- what holds at the law's entry: the machine, the code, the tables' words (any of lw_tbl by 'hts w (by decide +kernel)'), the script of L ints xs at the cell b, what the Statement gives of the start (any of its parts by flat_of_before) -/
def lw_At (p : Program) (s : State) (m : MethodId) (meth : Method) (c : Code) (b L : Nat) (xs : Nat → Int32) : Prop :=
  p.tables.exec = Jvm.exec ∧ c.code = code ∧ meth.sig.returnType = ret ∧ c.maxLocals = 9 ∧ s.vm.findClass R_law = some m.cls ∧ (∀ w ∈ lw_tbl, w.before #[Value.ref b] s = true) ∧ va_X b L xs s s.heap ∧ b < s.heap.size ∧ meth.locks = false ∧ (Jvm.Cond.and given_1 narrow_1).before #[Value.ref b] s = true
theorem dL_law_0 : decode cL_law 0 = .ok (.new 8, 3) := by decide +kernel
theorem dL_law_3 : decode cL_law 3 = .ok (.dup, 1) := by decide +kernel
theorem dL_law_4 : decode cL_law 4 = .ok (.invokespecial 170, 3) := by decide +kernel
theorem dL_law_7 : decode cL_law 7 = .ok (.astore_n 1, 1) := by decide +kernel
theorem dL_law_8 : decode cL_law 8 = .ok (.new 171, 3) := by decide +kernel
theorem dL_law_11 : decode cL_law 11 = .ok (.dup, 1) := by decide +kernel
theorem dL_law_12 : decode cL_law 12 = .ok (.invokespecial 173, 3) := by decide +kernel
theorem dL_law_15 : decode cL_law 15 = .ok (.astore_n 2, 1) := by decide +kernel
theorem dL_law_16 : decode cL_law 16 = .ok (.iconst 1, 1) := by decide +kernel
theorem dL_law_17 : decode cL_law 17 = .ok (.newarray .long, 2) := by decide +kernel
theorem dL_law_19 : decode cL_law 19 = .ok (.astore_n 3, 1) := by decide +kernel
theorem dL_law_20 : decode cL_law 20 = .ok (.iconst 0, 1) := by decide +kernel
theorem dL_law_21 : decode cL_law 21 = .ok (.istore 4, 2) := by decide +kernel
theorem kw_73 : Cond.initialized "FalseLightMarsh" ∈ zTs := z_in (i := 73) (by decide +kernel) (by decide +kernel)
theorem kw_87 : Cond.initialized "FalseLightMarshModel" ∈ zTs := z_in (i := 87) (by decide +kernel) (by decide +kernel)
theorem kw_97 : Cond.classLink "FalseLightMarshLaw" 8 "FalseLightMarsh" ∈ zTs := z_in (i := 97) (by decide +kernel) (by decide +kernel)
theorem kw_98 : Cond.instantiable "FalseLightMarsh" 11 ∈ zTs := z_in (i := 98) (by decide +kernel) (by decide +kernel)
theorem kw_99 : Cond.methodLink "FalseLightMarshLaw" 170 yX8_init ∈ zTs := z_in (i := 99) (by decide +kernel) (by decide +kernel)
theorem kw_100 : Cond.instanceMethod yX8_init ∈ zTs := z_in (i := 100) (by decide +kernel) (by decide +kernel)
theorem kw_101 : Cond.code yX8_init cX8_init 2 none ∈ zTs := z_in (i := 101) (by decide +kernel) (by decide +kernel)
theorem kw_1337 : Cond.classLink "FalseLightMarshLaw" 171 "FalseLightMarshModel" ∈ zTs := z_in (i := 1337) (by decide +kernel) (by decide +kernel)
theorem kw_1338 : Cond.instantiable "FalseLightMarshModel" 23 ∈ zTs := z_in (i := 1338) (by decide +kernel) (by decide +kernel)
theorem kw_1339 : Cond.methodLink "FalseLightMarshLaw" 173 yX9_init ∈ zTs := z_in (i := 1339) (by decide +kernel) (by decide +kernel)
theorem kw_1340 : Cond.instanceMethod yX9_init ∈ zTs := z_in (i := 1340) (by decide +kernel) (by decide +kernel)
theorem kw_1341 : Cond.code yX9_init cX9_init 1 none ∈ zTs := z_in (i := 1341) (by decide +kernel) (by decide +kernel)
theorem kw_1935 : Cond.arrayClass .long ∈ zTs := z_in (i := 1935) (by decide +kernel) (by decide +kernel)
set_option maxHeartbeats 4000000 in
theorem whole_start {p : Program} {e : Env} {s : State} {m : MethodId} {below : List Frame} {meth : Method} {c : Code} (l : Launch) (hflags : l.flags = flags0) {b L : Nat} {xs : Nat → Int32} (hL : L ≤ 3072) (C0 : lw_At p s m meth c b L xs) : W p l e room_1 s m #[Value.ref b] below meth c s.heap [] 0 0 (lw_Z below #[Value.ref b] s) (entryFrame m ([Value.ref b] : List Value).toArray 9) := by
  obtain ⟨hx, hb, hr, hml, hown, hts, hX, hbl, hlocks, hgv⟩ := id C0
  have hst : l.stackTraces = false := by
    unfold Launch.stackTraces
    rw [hflags]
    rfl
  have htz : ∀ w ∈ zTs, w.before #[Value.ref b] s = true := fun w hw => hts w (List.mem_filter.mp hw).1
  obtain ⟨D, cA, hK⟩ := k_kK hts
  obtain ⟨a0, ha0, hZ⟩ := k_zZA hts (fun w hw => flat_of_before _ hgv w hw) hX hbl
  have hA : ∀ q : Nat, s.heap.size ≤ q → (fun q : Nat => s.heap.size ≤ q) q := fun _ h => h
  have hS : va_S (fun q : Nat => s.heap.size ≤ q) s.heap s.heap [] := va_S.rf
  have hP : va_P D vwCl [] s.heap := fun k q h => by simp at h
  have hD : va_D (fun q : Nat => s.heap.size ≤ q) [] := ⟨fun i j p q h => by simp at h, fun k q h => by simp at h⟩
  have hl := lv_entry ([.ref b]) (n := 9) (Nat.le_of_ble_eq_true rfl)
  rw [lg_entry_eq]
  generalize (lg_sl ([.ref b]) ++ List.replicate (9 - (lg_sl ([.ref b])).length) Slot.unset).toArray = ls at hl ⊢
  have hl : lv_has ls 9 [(0, .ref b)] := hl
  refine va_new (ci := 8) (fs := [.null, .null, .null, .null, .null, .null, .null, .null, .null, .int 0, .int 0]) (C := RX8) (T := TX8) (N := 11) hx hb htz inX8 tyX8 tyX8_ok hown (htz _ kw_97) (htz _ kw_98) (htz _ kw_73) hK.1 hP hD hS hA rfl (fun j hj => by rcases (show j = 0 ∨ j = 1 ∨ j = 2 ∨ j = 3 ∨ j = 4 ∨ j = 5 ∨ j = 6 ∨ j = 7 ∨ j = 8 ∨ j = 9 ∨ j = 10 by omega) with rfl | rfl | rfl | rfl | rfl | rfl | rfl | rfl | rfl | rfl | rfl <;> rfl) (Nat.le_of_ble_eq_true rfl) (Nat.le_of_ble_eq_true rfl) dL_law_0 (fun q0 H hP hD hS => ?_)
  have hP : va_P D vwCl [(q0, .inr (8, [.null, .null, .null, .null, .null, .null, .null, .null, .null, .int 0, .int 0]))] H := hP
  have hD : va_D (fun q : Nat => s.heap.size ≤ q) [(q0, .inr (8, [.null, .null, .null, .null, .null, .null, .null, .null, .null, .int 0, .int 0]))] := hD
  have hq0 : s.heap.size ≤ q0 := hD.2 0 _ rfl
  refine lv_dup hx hb dL_law_3 rfl ?_
  have hF8 : ∀ x, va_A [(q0, (.inr (8, [.null, .null, .null, .null, .null, .null, .null, .null, .null, .int 0, .int 0]) : va_E))] H.size x → s.heap.size ≤ x := by
    rintro x (⟨k, e, h⟩ | h)
    · cases k with
      | zero => cases h; exact hq0
      | succ k => cases h
    · exact Nat.le_trans hS.1 h
  refine va_callv (va_runI (As := []) (rest := [.ref q0]) ⟨hx, hb, hml, hown, htz⟩ (k8_con (LL := L) (xs := xs) (D := D) (cA := cA) hst a0 (fun q => s.heap.size ≤ q) q0 H.size) (cwI 0 htz (z_good zTs_good (fun w hw => ?_)) rfl rfl rfl (htz _ kw_73) (htz _ kw_99) (htz _ kw_100) rfl ⟨by decide, by decide, by decide +kernel⟩ ⟨Nat.le_of_ble_eq_true rfl, Nat.le_of_ble_eq_true rfl⟩) ⟨fun a U g mk h => ?_, fun U hU hW => ?_⟩ rfl rfl hl.1 rfl (lv_room (Nat.le_of_ble_eq_true rfl)) dL_law_4 ⟨Nat.le_of_ble_eq_true rfl, Nat.le_of_ble_eq_true rfl⟩) hS (fun x _ h => hF8 x h) hF8 (fun u t H1 locs ht hvm hw hB hz1 hk1 hS => ?_)
  · rcases List.mem_cons.mp hw with rfl | hw
    · exact kw_101
    · exact hw
  · obtain ⟨p0, p1, p2, p3, p4, p5, p6⟩ := h
    exact ⟨p0, p1, p2, kK_m (u := U) (U := U.calling g mk a) (Vm.Alike.refl U.vm) p3, (zZA_K L xs _).1 a0 U (U.calling g mk a) _ rfl p4, p5, p6⟩
  · have hZH := (zZA_K L xs (fun q => s.heap.size ≤ q)).2.2 a0 s s.heap H hS.1 hS.2.1 hZ
    have hZU := (zZA_K L xs (fun q => s.heap.size ≤ q)).2.1 a0 s U H hW hZH
    exact ⟨rfl, by rw [hU], by rw [hU]; exact hP, kK_m hW.alike hK, by rw [hU]; exact hZU, hq0, fun q hq => Nat.le_trans hS.1 hq⟩
  obtain ⟨ad8, G⟩ := u
  obtain ⟨h192, hhi, hG, hJ⟩ := hw
  obtain ⟨hP1, hD1⟩ := hB
  rw [ht] at hP1
  (try dsimp only at h192 hhi hG hJ hP1 hD1)
  have hD1 : va_D (fun q : Nat => s.heap.size ≤ q) (z_W 229 ad8 cA (mM G Gz 0)) := hD1.weaken (fun k q _ h => hF8 _ h)
  clear hP hD hk1 hz1 ht hvm t
  generalize H1 = H at hP1 hS ⊢
  have hP := hP1
  have hD := hD1
  clear hP1 hD1
  refine lv_astore_n (lv' := [(1, .ref q0), (0, .ref b)]) hx hb dL_law_7 rfl hl (by decide) rfl (fun ls hl => ?_)
  refine va_new (ci := 9) (fs := [.null, .null, .null, .null, .null, .null, .int 0, .null, .int 0, .int 0, .int 0, .null, .null, .int 0, .int 0, .int 0, .int 0, .int 0, .int 0, .long 0, .int 0, .null, .int 0]) (C := RX9) (T := TX9) (N := 23) hx hb htz inX9 tyX9 tyX9_ok hown (htz _ kw_1337) (htz _ kw_1338) (htz _ kw_87) hK.1 hP hD hS hA rfl (fun j hj => by rcases (show j = 0 ∨ j = 1 ∨ j = 2 ∨ j = 3 ∨ j = 4 ∨ j = 5 ∨ j = 6 ∨ j = 7 ∨ j = 8 ∨ j = 9 ∨ j = 10 ∨ j = 11 ∨ j = 12 ∨ j = 13 ∨ j = 14 ∨ j = 15 ∨ j = 16 ∨ j = 17 ∨ j = 18 ∨ j = 19 ∨ j = 20 ∨ j = 21 ∨ j = 22 by omega) with rfl | rfl | rfl | rfl | rfl | rfl | rfl | rfl | rfl | rfl | rfl | rfl | rfl | rfl | rfl | rfl | rfl | rfl | rfl | rfl | rfl | rfl | rfl <;> rfl) (Nat.le_of_ble_eq_true rfl) (Nat.le_of_ble_eq_true rfl) dL_law_8 (fun q9 H hP hD hS => ?_)
  have hP : va_P D vwCl (z_W 229 ad8 cA (mM G Gz 0) ++ [(q9, .inr (9, [.null, .null, .null, .null, .null, .null, .int 0, .null, .int 0, .int 0, .int 0, .null, .null, .int 0, .int 0, .int 0, .int 0, .int 0, .int 0, .long 0, .int 0, .null, .int 0]))]) H := hP
  have hD : va_D (fun q : Nat => s.heap.size ≤ q) (z_W 229 ad8 cA (mM G Gz 0) ++ [(q9, .inr (9, [.null, .null, .null, .null, .null, .null, .int 0, .null, .int 0, .int 0, .int 0, .null, .null, .int 0, .int 0, .int 0, .int 0, .int 0, .int 0, .long 0, .int 0, .null, .int 0]))]) := hD
  refine lv_dup hx hb dL_law_11 rfl ?_
  refine k_call (wr := z_W 229 ad8 cA (mM G Gz 0)) hx hb hml hown htz (k_X9 l D cA) hK hP hD hS hA kw_1339 kw_1340 kw_87 kw_1341 rfl ⟨by decide, by decide, by decide +kernel⟩ ⟨Nat.le_of_ble_eq_true rfl, Nat.le_of_ble_eq_true rfl⟩ (Nat.le_of_ble_eq_true rfl) hl.1 dL_law_12 (Nat.le_of_ble_eq_true rfl) (Nat.le_of_ble_eq_true rfl) (fun f H locs hf9 hP hD hS => ?_)
  rw [← hf9]
  refine lv_astore_n (lv' := [(2, .ref (f 0)), (1, .ref q0), (0, .ref b)]) hx hb dL_law_15 rfl hl (by decide) rfl (fun ls hl => ?_)
  refine lv_iconst (v := 1) hx hb dL_law_16 (by decide) ?_
  refine va_newa (D := D) (atype := .long) (ty := .long) (a0 := (1, .inr (.inl fun _ => 0))) hx hb (htz _ kw_1935) rfl hK.1 hP hD hS hA (fun _ => rfl) (by decide) rfl (by decide) (Nat.le_of_ble_eq_true rfl) (Nat.le_of_ble_eq_true rfl) dL_law_17 (fun q3 cB H hK1 hP hD hS => ?_)
  have eB : cB = cA 4 := k_uni (fun C h => by cases h) (hK1.2 6 _ rfl).2 (hK.1.2 3 _ rfl).2
  subst eB
  have hP : va_P D vwCl (k9W ad8 f q3 cA G) H := hP
  have hD : va_D (fun q : Nat => s.heap.size ≤ q) (k9W ad8 f q3 cA G) := hD
  refine lv_astore_n (lv' := [(3, .ref q3), (2, .ref (f 0)), (1, .ref q0), (0, .ref b)]) hx hb dL_law_19 rfl hl (by decide) rfl (fun ls hl => ?_)
  refine lv_iconst (v := 0) hx hb dL_law_20 (by decide) ?_
  refine lv_istore (lv' := [(4, .int 0), (3, .ref q3), (2, .ref (f 0)), (1, .ref q0), (0, .ref b)]) hx hb dL_law_21 hl (by decide) rfl (fun ls hl => ?_)
  have hinj := k9_inj hD
  have hAd : ∀ k, k < 241 → s.heap.size ≤ k9d ad8 f q3 k := fun k hk => k9_A hD hk
  have hAz : ∀ q, z_A 241 (k9d ad8 f q3) q → s.heap.size ≤ q := by
    rintro q ⟨k, hk, rfl⟩
    exact hAd k hk
  have hPz := k9_P hP
  have e192 : k9d ad8 f q3 192 = q0 := (k9d_lo (by decide)).trans h192
  have e230 : k9d ad8 f q3 230 = f 0 := k9d_9 (i := 0) (by decide)
  have e229 : k9d ad8 f q3 229 = q3 := rfl
  have e310 : k9d ad8 f q3 310 = b := ((k9d_hi (by decide)).trans (hhi 310 (by decide))).trans ha0
  have ehi : ∀ k, 300 ≤ k → k9d ad8 f q3 k = a0 k := fun k hk => (k9d_hi (Nat.le_trans (by decide) hk)).trans (hhi k (Nat.le_trans (by decide) hk))
  clear hP hD hK1
  generalize k9d ad8 f q3 = ad at hinj hAd hAz hPz e192 e230 e229 e310 ehi
  obtain ⟨fu, o, G2, F2, n2, hrun, hG2, hF2, rfl, -, hn2⟩ := law_loop (N := 241) (LL := L) (xs := xs) (Nat.le_refl _) (by omega) 512 0 .null .null .null .null (GS G) Gz 0 (by omega) (Int.le_refl _) (by omega) (JI_0 hJ) (zrM_GS hG) zrL_z
  have C : z_C 241 znl zTs (zZ L xs 241) zyn zbc zrt zfr zlo 334 ad D cA (241 + (n2 - 0)) (11300 + 6 * (n2 - 0)) p l room_1 s m #[Value.ref b] meth c :=
    ⟨hx, hb, hml, hown, htz, hr, hlocks, rfl, rfl, hinj, hK.1, zZA_to hZ ehi hAz, by
      show 241 + (n2 - 0) ≤ 601024
      omega, by
      show 11300 + 6 * (n2 - 0) ≤ 7293034
      omega⟩
  have hlow : ∀ q, q < s.heap.size → ¬ z_A 241 ad q := fun q hq h => Nat.not_le.mpr hq (hAz q h)
  have hret : ∀ (ip k q : Nat) (Lo : List Value) (v : Value), tabx L xs 241 334 ip = some (.inr (0, k, q)) → z_ret k v = some (.int (zi 1)) → z_At 241 (zc2 334) (znl 334) ad D cA p l e room_1 s m #[Value.ref b] below meth c (lw_Z below #[Value.ref b] s) n2 (241 + (n2 - 0)) (11300 + 6 * (n2 - 0)) (Px 334 ip) (Lo, [v], mM G2 F2 n2) := by
    intro ip k q Lo v hen hw H locs sl cells slots e1 e2 hP2 hS2 hh
    have hse : z_SR 241 znl zTs (zZ L xs 241) zyn zbc zrt zfr zlo Px 334 ip k := tabx_ok 334 ip _ hen
    have h9 := hse p l e room_1 s m #[Value.ref b] below meth c ad D cA _ _ C H [] sl 601024 7293034 (fun _ _ o _ => o = .returned (some (.int 1))) (fun _ _ _ => False) (fun _ => False) v (.int (zi 1)) hw (fun t ht => by show Outcome.returned (some (Value.int (zi 1))) = _; rw [zi_k1]) (fun q hq => by cases hq)
    have e1' : cells + (n2 - n2) = 241 + (n2 - 0) := e1
    have e2' : slots + 6 * (n2 - n2) = 11300 + 6 * (n2 - 0) := e2
    refine va_forget (fun q hq => hAz _ (hS2.2.2 q hq)) ?_
    refine W.widen (k := 601024) (n := 7293034) (by omega) (by omega) ?_
    intro T hT X
    obtain ⟨t, h1, o, h2, h3, h4⟩ := h9 T hT X
    refine ⟨t, h1, o, h2, h3, ?_⟩
    rcases h4 with ⟨h5, Lx, hF, hfree⟩ | ⟨q, -, E, ce, L9, hf, -⟩
    · have hnil : Lx = [] := List.eq_nil_iff_forall_not_mem.mpr (fun q hq => hfree q hq)
      subst hnil
      subst h5
      exact ⟨rfl, lw_closed (Drawn.sameBut.refl s.drawn lw_cs) ⟨_, rfl⟩ hF.2.1 hF.2.2⟩
    · exact hf.elim
  have T := z_top (P := Px) (tab := tabx L xs 241) (exn := zexn) (tb := ztb) (cl := zcl) (c2 := zc2) (hnd := zhnd) (e := e) (below := below) (Q := lw_Z below #[Value.ref b] s) (w := .int (zi 1)) (mem' := mM G2 F2 n2) (zZ_K L xs 241) (fun y ip en h => tabx_ok y ip en h) (fun y en h => tabx_0 y en h) hst C (fun _ => rfl) hret fu 1 _ hrun
  refine va_forget (fun q hq => hS.2.2 q hq) ?_
  refine T H [] ls _ _ rfl rfl hPz ⟨hS.1, fun q h1 h2 => hS.2.1 q h1 (Nat.not_le.mpr h1), fun q h => by cases h⟩ ⟨?_, fun i v hi hc => ?_⟩
  · have h9 : lv_has ls 9 [(0, .ref b), (1, .ref q0), (2, .ref (f 0)), (3, .ref q3), (4, .int 0)] := lv_sub hl [4, 3, 2, 1, 0] rfl
    rw [← e310, ← e192, ← e230, ← e229, ← zi_k0] at h9
    exact h9
  · exfalso
    match i, hi with
    | 0, hi => cases hi; cases hc
    | 1, hi => cases hi; cases hc
    | 2, hi => cases hi; cases hc
    | 3, hi => cases hi; cases hc
    | 4, hi => cases hi; cases hc
    | 5, hi => cases hi; cases hc
    | 6, hi => cases hi; cases hc
    | 7, hi => cases hi; cases hc
    | 8, hi => cases hi; cases hc
    | i + 9, hi => cases hi
set_option maxHeartbeats 4000000 in
theorem lw_walk (l : Launch) (hflags : l.flags = flags0) (b : Addr) (xs : List Int32) : MetFree l x (headSpec (Jvm.Cond.code x code maxLocals ret :: tables_1) room_1) (lw_P b xs) (fun _ _ _ _ _ => True) lw_Q := by
  refine MetFree.of_bodyS (code := code) (maxLocals := maxLocals) (ret := ret) (by decide) ?_ ?_
  · intro args s m h hn
    obtain ⟨meth, c, h1, h2, h3, h4, h5, h6, -, -⟩ := Cond.code_spec hn (atoms_spec (ws := Jvm.Cond.code x code maxLocals ret :: tables_1) h _ List.mem_cons_self)
    exact ⟨meth, c, h1, h2, h3, h4, h5, h6⟩
  · intro p e s m args below meth c s₁ B hml0 hP _
    obtain ⟨rfl, hx, hbd, hgv⟩ := hP
    obtain ⟨scr, harrAt, hlist, hof, hsmall⟩ := hx
    obtain ⟨hcb, hkn, -, -⟩ := State.arrayAt?_spec harrAt
    have hown : s.vm.findClass R_law = some m.cls := findClass_of_methodNamed B.named
    have hts0 : ∀ c ∈ (Jvm.Cond.code x code maxLocals ret :: tables_1), c.before #[Value.ref b] s = true := atoms_spec (ws := Jvm.Cond.code x code maxLocals ret :: tables_1) B.pre
    have hts : ∀ w ∈ lw_tbl, w.before #[Value.ref b] s = true := k2_hts_sels lw_privs (fun w hw => hts0 w (List.mem_cons_of_mem _ hw)) lw_privs_ok
    have hml : c.maxLocals = 9 := B.maxLocals_eq (hts0 _ List.mem_cons_self)
    have X₀ : Stand p l e room_1 s m #[Value.ref b] below meth c s₁ [] 0 0 := Stand.of_body B
    have hh0 : s₁.heap = s.heap := by rw [B.state]; rfl
    have hsz : scr.slots.size = xs.length := by rw [← Array.length_toList, hlist, List.length_map]
    have hval : ∀ j : Nat, j < xs.length → scr.slots[j]? = some (.int (xs.getD j 0)) := fun j hj => by
      rw [← Array.getElem?_toList, hlist]
      simp [hj]
    have hbl : b < s.heap.size := (Array.getElem?_eq_some_iff.mp hcb).1
    have hX : va_X b xs.length (fun j => xs.getD j 0) s s.heap := ⟨scr, hcb, hof, hkn, hsz, hval⟩
    have K : W p l e room_1 s m #[Value.ref b] below meth c s₁.heap [] 0 0 (lw_Z below #[Value.ref b] s) (entryFrame m ([Value.ref b] : List Value).toArray 9) := by
      rw [hh0]
      exact whole_start l hflags hbd ⟨B.exec, B.bytes, B.returns, hml, hown, hts, hX, hbl, B.notSynchronized, hgv⟩
    obtain ⟨t, a1, o, b1, b2, b3⟩ := K s₁ rfl X₀
    exact ⟨t, o, a1, b1, b2, b3⟩
theorem lw_pre_spec {args : Array Value} {s : State} (h : (Jvm.Cond.and given_1 narrow_1).before args s = true) (hr : rest_1_c.before args s = true) : ∃ (b : Addr) (xs : List Int32), lw_P b xs args s := by
  have hs := flat_of_before _ h
  have hq := flat_of_before _ hr
  have hc : (Cond.count 1).before args s = true := hs _ (by decide +kernel)
  have harr : (Cond.arrayOf (.arg 0) .int).before args s = true := hs _ (by decide +kernel)
  have hle : (Cond.le (.length (.arg 0)) (.int 3072)).before args s = true := hs _ (by decide +kernel)
  have hlen : (Cond.isInt (.length (.arg 0))).before args s = true := hq _ (by decide +kernel)
  have hall : (Cond.all (.arg 0) (.isInt (.elem (.arg 0) (.index 0)))).before args s = true := hq _ (by decide +kernel)
  obtain ⟨b, xs, hb, hx⟩ := State.ints_of_pre rfl harr hlen hall
  have hsm : xs.length < 2 ^ 31 := hx.choose_spec.2.2.2
  have hev : (Term.length (.arg 0)).eval args s none [] s = some (.int xs.length.toInt32) := hx.length_eval hb
  have hv := Cond.le_ints hev (show (Term.int 3072).eval args s none [] s = some (.int 3072) from rfl)
  have hd : xs.length.toInt32 ≤ 3072 := by
    simpa [Cond.before, Cond.holds, hv] using hle
  have hN : xs.length ≤ 3072 := (Int32.ofNat_le_ofNat hsm (by decide)).mp (show Int32.ofNat xs.length ≤ Int32.ofNat 3072 from hd)
  exact ⟨b, xs, Cond.one_arg hc (show args[0]? = some (.ref b) from hb), hx, hN, h⟩
theorem lw_comes (l : Launch) (hflags : l.flags = flags0) : Comes l x (Jvm.Cond.code x code maxLocals ret :: tables_1) room_1 (fun tb e args s => Calls_1 tb e args s ∧ rest_1 tb e args s ∧ Pre_1 tb e args s)
    (fun _ _ args s o t => lw_Q args s o t) := by
  intro p e ha hc hk s m args below hf hfit hheap happ hpre
  obtain ⟨b, xs, hP⟩ := lw_pre_spec hpre.2.2 hpre.2.1
  obtain ⟨k, o, h1, h2, h3, hQ⟩ := lw_walk l hflags b xs p e ha hc hk s m args below hf ((Spec.applies_iff_loose hf).mp happ).1 hP trivial
  exact ⟨k, o, h1, h2, h3, hQ⟩
theorem lw_frame {s t : State} {o : Outcome} {args : Array Value} (h : State.butDraws s t lw_cs (fun t1 => Framed s o t1 [] 601024 7293034)) :
    State.butDraws s t [Jvm.Choice.named "NaN.bits"] (fun t1 => Framed s o t1 (fieldLocs frame_1_writes args s ++ arrayLocs frame_1_arrays args s ++ staticLocs frame_1_statics s) 601024 7293034) := h
theorem lw_limb (L : Cond) (hL : ∀ (args : Array Value) (s t : State), L.after args s (.returned (some (.int 1))) t = true) :
    ArmFor flags0 classFile x code maxLocals ret World_1 tables_1 room_1 Calls_1 rest_1 Pre_1
      (fun tb e a s o t => postC L tb e a s o t ∧ State.butDraws s t [Jvm.Choice.named "NaN.bits"] (fun t1 => Framed s o t1 (fieldLocs frame_1_writes a s ++ arrayLocs frame_1_arrays a s ++ staticLocs frame_1_statics s) 601024 7293034)) := by
  intro l hflags _ _ p e ha hc hk s m args below hf hfit hheap happ hpre
  obtain ⟨k, o, h1, h2, h3, rfl, hF⟩ := lw_comes l hflags p e ha hc hk s m args below hf hfit hheap happ hpre
  exact ⟨k, _, h1, h2, h3, hL args s _, lw_frame hF⟩
theorem i_vc : Claimed_1_1 ∧ Claimed_1_2 := ⟨lw_limb limb_1_1 (fun args s t => by simp [limb_1_1, Cond.after, Cond.holds, Cond.value]), lw_limb limb_1_2 (fun args s t => Cond.after_iff.mpr (by
  first | (rw [show limb_1_2 = Cond.eq .result (.int 1) from rfl, Cond.eq_ints (x := 1) (y := 1) rfl rfl]; simp; done) | (simp [limb_1_2, Cond.value, Term.eval]; done)))⟩
