/-! Runs over made cells: a whole method, calls. -/
/-- the end of a method that makes cells -/
def wQc (u : WU) (nc ns : Nat) (ad : Nat → Nat) (D : va_G) (cA : Nat → ClassId) (Y0 : DY) (A : Nat → Prop) (Q : WQ) : Array Value → State → Outcome → State → Prop := fun _ st oc t =>
  (∃ (o : Option Value) (G F : GM) (Y : DY) (ad' : Nat → Nat), oc = .returned (o.map (z_cv ad')) ∧ (∀ k, k < 1000 + Y0.2.2 → ad' k = ad k) ∧ Q o G F Y ∧ wGd u (nc, ns, Y0.2.2) G F Y ∧ (∀ v, o = some v → w_v (1000 + Y.2.2) v) ∧ va_P D vwCl (w_W u.1 ad' cA G F Y) t.heap ∧ va_D A (w_W u.1 ad' cA G F Y)) ∧ va_F A st t
/-- its start -/
def wPc (u : WU) (ad : Nat → Nat) (D : va_G) (cA : Nat → ClassId) (G F : GM) (Y : DY) (sz : Nat) (as : List Value) : Array Value → State → Prop :=
  va_Pc (as.map (z_cv ad)) (fun U => U.heap.size = sz ∧ va_P D vwCl (w_W u.1 ad cA G F Y) U.heap ∧ wK D cA U ∧ wZ u.2 (va_A (w_W u.1 ad cA G F Y) sz) ad U U.heap)
/-- what a call of such a method does -/
def wC (u : WU) (y nc ns : Nat) (as : List Value) (G F : GM) (Y : DY) (Q : WQ) : Prop :=
  ∀ (l : Launch), l.stackTraces = false → ∀ (ad : Nat → Nat) (D : va_G) (cA : Nat → ClassId) (sz : Nat), wGd u (nc, ns, Y.2.2) G F Y → w_vs (1000 + Y.2.2) as → (∃ B, va_D B (w_W u.1 ad cA G F Y)) →
    Met l (zyn y) (Cond.code (zyn y) (zbc y) (znl y) (zrt y) :: zTs) { frames := zfr y, cells := nc, slots := ns, locals := zlo y } (wPc u ad D cA G F Y sz as) (wQc u nc ns ad D cA Y (va_A (w_W u.1 ad cA G F Y) sz) Q) nc ns (va_A (w_W u.1 ad cA G F Y) sz)
theorem w_met {u : WU} {y nc ns : Nat} {as L0 : List Value} {G F : GM} {Y : DY} {Q : WQ} (hpl : plainName (zyn y).cls = true) (hfit : z_fit (znl y) (zc2 y) as = true) (he : z_ent (znl y) as = L0) (h : wW u y (nc, ns, Y.2.2) 0 L0 [] G F Y 0 0 Q) : wC u y nc ns as G F Y Q := by
  intro l hst ad D cA sz g hv hD
  obtain ⟨B0, hD⟩ := hD
  refine Met.ofW (cc := zbc y) (maxL := znl y) (ret := zrt y) hpl rfl ?_
  intro p e s m args below meth c s₁ X hml hpc
  obtain ⟨rfl, hsz, hP, hK, hZ⟩ := hpc
  subst hsz
  have hts0 := atoms_spec (ws := Cond.code (zyn y) (zbc y) (znl y) (zrt y) :: zTs) X.pre
  have hts : ∀ w ∈ zTs, w.before (as.map (z_cv ad)).toArray s = true := fun w hw => hts0 w (List.mem_cons_of_mem _ hw)
  have hl := z_has_ent (ad := ad) hfit
  rw [he] at hl
  rw [lg_entry_eq]
  have hC : wCx u y (nc, ns, Y.2.2) l ad (va_A (w_W u.1 ad cA G F Y) s.heap.size) D cA p { frames := zfr y, cells := nc, slots := ns, locals := zlo y } s m (as.map (z_cv ad)).toArray meth c :=
    ⟨X.exec, X.bytes, hml, findClass_of_methodNamed X.named, hts, X.returns, X.notSynchronized, (name_of_methodNamed X.named X.method).1, rfl, rfl, rfl, rfl, hK, hZ, fun q h => Or.inr h, hst⟩
  have hv0 : w_vs (1000 + Y.2.2) L0 := by
    rw [← he]
    exact w_vs_e hv
  refine h g hv0 w_vs_0 p l e _ s m _ below meth c ad _ D cA _ hC ?_ ad s.heap [] _ 0 0 ⟨fun _ _ => rfl, Nat.le_refl _, Nat.le_refl _, hP, hD.self, va_S.rf⟩ hl
  intro o G' F' Y' ad' H locs sl pc cells slots hr hq g' hv' hA
  obtain ⟨e1, e2, e3, hP', hD', hS'⟩ := hA
  have hlk := X.notSynchronized
  refine W.widen (k := nc) (n := ns) e2 e3 ?_
  have key : ∀ t : State, t.heap = H → wQc u nc ns ad D cA Y (va_A (w_W u.1 ad cA G F Y) s.heap.size) Q (as.map (z_cv ad)).toArray s (.returned (o.map (z_cv ad'))) t := fun t ht => ⟨⟨o, G', F', Y', ad', rfl, e1, hq, g', hv', by rw [ht]; exact hP', hD'⟩, hS'.F ht⟩
  have hf : ∀ q ∈ locs, va_A (w_W u.1 ad cA G F Y) s.heap.size q.base := hS'.2.2
  cases o with
  | none =>
    obtain ⟨h1, h2⟩ := hr
    exact W.vret X.exec X.bytes (X.returns.trans h2) (fun t ht _ => key t ht) hf h1 hlk
  | some v =>
    cases v with
    | int v =>
      obtain ⟨h1, ty, h2, h3⟩ := hr
      exact W.zret X.exec X.bytes (X.returns.trans h2) h3 (fun t ht _ => key t ht) hf h1 hlk
    | long v =>
      obtain ⟨h1, h2⟩ := hr
      exact W.lret X.exec X.bytes (X.returns.trans h2) (fun t ht _ => key t ht) hf h1 hlk
    | ref v =>
      obtain ⟨h1, rt, h2, h3⟩ := hr
      exact W.aret X.exec X.bytes (X.returns.trans h2) h3 (Or.inr ⟨_, rfl⟩) (fun t ht _ => key t ht) hf h1 hlk
    | null => exact hr.elim
    | float v => exact hr.elim
    | double v => exact hr.elim
    | retAddr v => exact hr.elim
/-! calls, by their kinds -/
/-- at pc stands a call of y2, with n values -/
def wSC (y pc y2 n : Nat) (rk : Option String) : Prop :=
  ∀ (p : Program) (l : Launch) (e : Env) (R : Room) (s : State) (m : MethodId) (args : Array Value) (below : List Frame) (meth : Method) (c : Code), p.tables.exec = Jvm.exec → c.code = zbc y → c.maxLocals = znl y → s.vm.findClass (zyn y).cls = some m.cls → (∀ w ∈ zTs, w.before args s = true) → R.frames = zfr y → R.locals = zlo y →
    (∃ (D : va_G) (cA : Nat → ClassId), wK D cA s) → (∀ q ∈ wPv, va_Nw (.selects "java/lang/StringBuilder" q q) s) →
    ∀ (H : Heap) (locs : List Loc) (sl : Array Slot) (cells slots mc ms : Nat) (Pc : Array Value → State → Prop) (Qc : Array Value → State → Outcome → State → Prop) (free : Addr → Prop) (As rest : List Value), Met l (zyn y2) (Cond.code (zyn y2) (zbc y2) (znl y2) (zrt y2) :: zTs) { frames := zfr y2, cells := mc, slots := ms, locals := zlo y2 } Pc Qc mc ms free → FrameBlind Pc → (∀ U : State, U.heap = H → s.WarmedH U.vm → Pc As.toArray U) →
      (∀ C, rk = some C → ∃ (b : Addr) (As' : List Value), As = .ref b :: As' ∧ ∃ cellB : Cell, H[b]? = some cellB ∧ cellB.vm.isStatics = false ∧ s.vm.findClass C = some cellB.cls) → As.length = n → (rest.map fun v => v.category).sum ≤ 8 → sl.size = znl y → cells + mc ≤ R.cells → slots + ms ≤ R.slots →
      va_Run p l e R s m args below meth c H locs cells slots mc ms (F0 m pc sl (As.reverse ++ rest)) rest (Qc As.toArray) free
section WK
variable {y pc y2 n n' index : Nat} {C : String}
theorem wk_rv {b : Addr} {As rest : List Value} : (Value.ref b :: As).reverse ++ rest = As.reverse ++ .ref b :: rest := by simp
theorem wk_S (hd : decode (zbc y) pc = .ok (.invokestatic index, 3)) (w1 : Cond.methodLink (zyn y).cls index (zyn y2) ∈ zTs) (w2 : Cond.static (zyn y2) ∈ zTs) (w4 : Cond.initialized (zyn y2).cls ∈ zTs) (w5 : Cond.code (zyn y2) (zbc y2) (znl y2) (zrt y2) ∈ zTs)
    (hd2 : (zyn y2).cls ≠ "java/lang/invoke/MethodHandle" ∧ (zyn y2).cls ≠ "java/lang/invoke/VarHandle" ∧ (parseMethodDescriptor (zyn y2).desc).map (fun d => d.parameters.length) = some n) (hR : zfr y2 + 1 ≤ zfr y ∧ 8 + (znl y2 + 11) + zlo y2 ≤ zlo y) : wSC y pc y2 n none := by
  intro p l e R s m args below meth c hx hb hml hown hts hfr hlo hKK hPV H locs sl cells slots mc ms Pc Qc free As rest hM hFB hPc hrecv hlen hsum hsl hc hs
  refine va_runS (bytes := zbc y2) (maxL := znl y2) (ret := zrt y2) (n := n) ⟨hx, hb, hml, hown, hts⟩ hM (va_cwS (ws' := zTs) n hts (z_good zTs_good fun w hw => ?_) rfl rfl rfl hd2 (by rw [hfr, hlo]; exact hR)) ⟨hFB, hPc⟩ rfl hlen hsl rfl (lv_room hsum) hd ⟨hc, hs⟩
  unfold va_wsS at hw
  simp only [List.cons_append, List.nil_append, List.mem_cons] at hw
  rcases hw with rfl | rfl | rfl | rfl | hw
  · exact w1
  · exact w2
  · exact w4
  · exact w5
  · exact hw
theorem wk_V (hd : decode (zbc y) pc = .ok (.invokevirtual index, 3)) (w1 : Cond.methodLink (zyn y).cls index (zyn y2) ∈ zTs) (w2 : Cond.instanceMethod (zyn y2) ∈ zTs) (w3 : Cond.selects (zyn y2).cls (zyn y2) (zyn y2) ∈ zTs) (w4 : Cond.initialized (zyn y2).cls ∈ zTs) (w5 : Cond.code (zyn y2) (zbc y2) (znl y2) (zrt y2) ∈ zTs)
    (hd2 : (zyn y2).cls ≠ "java/lang/invoke/MethodHandle" ∧ (zyn y2).cls ≠ "java/lang/invoke/VarHandle" ∧ (parseMethodDescriptor (zyn y2).desc).map (fun d => d.parameters.length) = some n') (hn : n = n' + 1) (hR : zfr y2 + 1 ≤ zfr y ∧ 8 + (znl y2 + 11) + zlo y2 ≤ zlo y) : wSC y pc y2 n (some (zyn y2).cls) := by
  intro p l e R s m args below meth c hx hb hml hown hts hfr hlo hKK hPV H locs sl cells slots mc ms Pc Qc free As rest hM hFB hPc hrecv hlen hsum hsl hc hs
  obtain ⟨b, As', rfl, hcell⟩ := hrecv _ rfl
  rw [wk_rv]
  refine va_runV (C := (zyn y2).cls) (bytes := zbc y2) (maxL := znl y2) (ret := zrt y2) (n := n') ⟨hx, hb, hml, hown, hts⟩ hM (cwV (ws' := zTs) n' hts (z_good zTs_good fun w hw => ?_) rfl rfl rfl ⟨rfl, hd2⟩ (by rw [hfr, hlo]; exact hR)) ⟨hFB, hcell, hPc⟩ rfl ?_ hsl rfl (lv_room hsum) hd ⟨hc, hs⟩
  · unfold wsV at hw
    simp only [List.cons_append, List.nil_append, List.mem_cons] at hw
    rcases hw with rfl | rfl | rfl | rfl | rfl | hw
    · exact w1
    · exact w2
    · exact w3
    · exact w4
    · exact w5
    · exact hw
  · simp only [List.length_cons] at hlen
    omega
/-- a method that the receiver's class has from above -/
theorem wk_U (hd : decode (zbc y) pc = .ok (.invokevirtual index, 3)) (w1 : Cond.methodLink (zyn y).cls index (zyn y2) ∈ zTs) (w0 : Cond.sameMethod (zyn y2).cls (zyn y2).cls (zyn y2).name (zyn y2).desc ∈ zTs) (w2 : Cond.instanceMethod (zyn y2) ∈ zTs) (w3 : Cond.selects C (zyn y2) (zyn y2) ∈ zTs) (w4 : Cond.initialized (zyn y2).cls ∈ zTs) (w5 : Cond.code (zyn y2) (zbc y2) (znl y2) (zrt y2) ∈ zTs)
    (hd2 : (zyn y2).cls ≠ "java/lang/invoke/MethodHandle" ∧ (zyn y2).cls ≠ "java/lang/invoke/VarHandle" ∧ (parseMethodDescriptor (zyn y2).desc).map (fun d => d.parameters.length) = some n') (hn : n = n' + 1) (hR : zfr y2 + 1 ≤ zfr y ∧ 8 + (znl y2 + 11) + zlo y2 ≤ zlo y) : wSC y pc y2 n (some C) := by
  intro p l e R s m args below meth c hx hb hml hown hts hfr hlo hKK hPV H locs sl cells slots mc ms Pc Qc free As rest hM hFB hPc hrecv hlen hsum hsl hc hs
  obtain ⟨b, As', rfl, hcell⟩ := hrecv _ rfl
  rw [wk_rv]
  refine va_runU (C := C) (owner := (zyn y2).cls) (x := zyn y2) (bytes := zbc y2) (maxL := znl y2) (ret := zrt y2) (n := n') ⟨hx, hb, hml, hown, hts⟩ hM (va_cwU (ws' := zTs) n' hts (z_good zTs_good fun w hw => ?_) rfl rfl rfl rfl hd2 (by rw [hfr, hlo]; exact hR)) ⟨hFB, hcell, hPc⟩ rfl ?_ hsl rfl (lv_room hsum) hd ⟨hc, hs⟩
  · unfold va_wsU at hw
    simp only [List.cons_append, List.nil_append, List.mem_cons] at hw
    rcases hw with rfl | rfl | rfl | rfl | rfl | rfl | hw
    · exact w1
    · exact w0
    · exact w3
    · exact w2
    · exact w4
    · exact w5
    · exact hw
  · simp only [List.length_cons] at hlen
    omega
/-- a method that the receiver's class has anew -/
theorem wk_O {x : MethodName} {b0 : ByteArray} {m0 : Nat} {r0 : Option FieldType} (hd : decode (zbc y) pc = .ok (.invokevirtual index, 3)) (w1 : Cond.methodLink (zyn y).cls index x ∈ zTs) (w0 : Cond.sameMethod x.cls x.cls x.name x.desc ∈ zTs) (w9 : Cond.instanceMethod x ∈ zTs) (w8 : Cond.code x b0 m0 r0 ∈ zTs) (w2 : Cond.instanceMethod (zyn y2) ∈ zTs) (w3 : Cond.selects C x (zyn y2) ∈ zTs) (w4 : Cond.initialized (zyn y2).cls ∈ zTs) (w5 : Cond.code (zyn y2) (zbc y2) (znl y2) (zrt y2) ∈ zTs)
    (hd2 : x.cls ≠ "java/lang/invoke/MethodHandle" ∧ x.cls ≠ "java/lang/invoke/VarHandle" ∧ (parseMethodDescriptor x.desc).map (fun d => d.parameters.length) = some n') (hn : n = n' + 1) (hR : zfr y2 + 1 ≤ zfr y ∧ 8 + (znl y2 + 11) + zlo y2 ≤ zlo y) : wSC y pc y2 n (some C) := by
  intro p l e R s m args below meth c hx hb hml hown hts hfr hlo hKK hPV H locs sl cells slots mc ms Pc Qc free As rest hM hFB hPc hrecv hlen hsum hsl hc hs
  obtain ⟨b, As', rfl, hcell⟩ := hrecv _ rfl
  rw [wk_rv]
  refine va_runU (C := C) (owner := x.cls) (x := x) (bytes := zbc y2) (maxL := znl y2) (ret := zrt y2) (n := n') ⟨hx, hb, hml, hown, hts⟩ hM (va_cwO (ws' := zTs) n' hts (z_good zTs_good fun w hw => ?_) rfl rfl rfl w8 hd2 (by rw [hfr, hlo]; exact hR)) ⟨hFB, hcell, hPc⟩ rfl ?_ hsl rfl (lv_room hsum) hd ⟨hc, hs⟩
  · unfold va_wsO at hw
    simp only [List.cons_append, List.nil_append, List.mem_cons] at hw
    rcases hw with rfl | rfl | rfl | rfl | rfl | rfl | rfl | hw
    · exact w1
    · exact w0
    · exact w9
    · exact w3
    · exact w2
    · exact w4
    · exact w5
    · exact hw
  · simp only [List.length_cons] at hlen
    omega
/-- a private method is itself what is run, whatever the receiver's class -/
theorem w_selP {s : State} {args : Array Value} {C : String} {cc : ClassId} {x : MethodName} (hfc : s.vm.findClass C = some cc) (hsame : (Cond.sameMethod x.cls x.cls x.name x.desc).before args s = true) (hpriv : (Cond.privateMethod x).before args s = true) (hinst : (Cond.instanceMethod x).before args s = true) (hy : x.cls ≠ "java/lang/invoke/MethodHandle" ∧ x.cls ≠ "java/lang/invoke/VarHandle") : (Cond.selects C x x).before args s = true := by
  obtain ⟨mk, methM, hnamed, hmethM, -, -⟩ := Cond.instanceMethod_spec hinst
  obtain ⟨cn, ck, r1, hcn, hck, hni, hf, hn1⟩ := Cond.sameMethod_found hsame
  have hfound : s.methodFound? x.cls x.name x.desc = some mk := State.methodFound?_of_named hnamed hy
  have hcls : mk.cls = cn := Option.some.inj ((findClass_of_methodNamed hnamed).symm.trans hcn)
  have hsel : selectMethod {} s.vm cc mk = .method mk := selectMethod_private hmethM (Cond.privateMethod_at hpriv mk methM hnamed hmethM)
  simp only [Cond.before, Cond.holds, Cond.value, hfc, hfound, hnamed, hsel, hcls, hck]
  simp; exact hni
theorem wk_P (hd : decode (zbc y) pc = .ok (.invokevirtual index, 3)) (w1 : Cond.methodLink (zyn y).cls index (zyn y2) ∈ zTs) (w0 : Cond.sameMethod (zyn y2).cls (zyn y2).cls (zyn y2).name (zyn y2).desc ∈ zTs) (w2 : Cond.instanceMethod (zyn y2) ∈ zTs) (w3 : zyn y2 ∈ wPv) (w4 : Cond.initialized (zyn y2).cls ∈ zTs) (w5 : Cond.code (zyn y2) (zbc y2) (znl y2) (zrt y2) ∈ zTs)
    (hd2 : (zyn y2).cls ≠ "java/lang/invoke/MethodHandle" ∧ (zyn y2).cls ≠ "java/lang/invoke/VarHandle" ∧ (parseMethodDescriptor (zyn y2).desc).map (fun d => d.parameters.length) = some n') (hn : n = n' + 1) (hR : zfr y2 + 1 ≤ zfr y ∧ 8 + (znl y2 + 11) + zlo y2 ≤ zlo y) : wSC y pc y2 n (some "java/lang/StringBuilder") := by
  intro p l e R s m args below meth c hx hb hml hown hts hfr hlo hKK hPV H locs sl cells slots mc ms Pc Qc free As rest hM hFB hPc hrecv hlen hsum hsl hc hs
  obtain ⟨b, As', rfl, hcell⟩ := hrecv _ rfl
  rw [wk_rv]
  have hc5 : Cond.code (zyn y2) (zbc y2) (znl y2) (zrt y2) ∈ Cond.code (zyn y2) (zbc y2) (znl y2) (zrt y2) :: zTs := List.mem_cons_self
  have hG : GoodIn zTs (Cond.code (zyn y2) (zbc y2) (znl y2) (zrt y2) :: zTs) := z_good zTs_good (fun w hw => by
    rcases List.mem_cons.mp hw with rfl | hw
    · exact w5
    · exact hw)
  refine va_runU (C := "java/lang/StringBuilder") (owner := (zyn y2).cls) (x := zyn y2) (bytes := zbc y2) (maxL := znl y2) (ret := zrt y2) (n := n') ⟨hx, hb, hml, hown, hts⟩ hM ⟨⟨rfl, rfl, by rw [hfr]; exact hR.1, by rw [hlo]; exact hR.2, pay_in hts hG, hc5⟩, hts _ w5, hts _ w4, ⟨hd2.1, hd2.2.1⟩, fun sig h => ?_, hts _ w1, hts _ w0, va_Decl.of (hts _ w2) (hts _ w5), hPV _ w3, hts _ w2⟩ ⟨hFB, hcell, hPc⟩ rfl ?_ hsl rfl (lv_room hsum) hd ⟨hc, hs⟩
  · have h2 := hd2.2.2
    rw [h] at h2
    exact (Option.some.inj h2).symm
  · simp only [List.length_cons] at hlen
    omega
/-- a method of the class above -/
theorem wk_SU {ci N : Nat} {T : u_T} (hcl : vwCl[ci]? = some (C, T, N)) (hd : decode (zbc y) pc = .ok (.invokespecial index, 3)) (w1 : Cond.methodLink (zyn y).cls index (zyn y2) ∈ zTs) (w0 : Cond.sameMethod (zyn y2).cls (zyn y2).cls (zyn y2).name (zyn y2).desc ∈ zTs) (w6 : Cond.superclass (zyn y).cls (zyn y2).cls ∈ zTs) (w2 : Cond.instanceMethod (zyn y2) ∈ zTs) (w4 : Cond.initialized (zyn y2).cls ∈ zTs) (w5 : Cond.code (zyn y2) (zbc y2) (znl y2) (zrt y2) ∈ zTs)
    (hd2 : (zyn y2).name ≠ "<init>" ∧ (parseMethodDescriptor (zyn y2).desc).map (fun d => d.parameters.length) = some n') (hn : n = n' + 1) (hR : zfr y2 + 1 ≤ zfr y ∧ 8 + (znl y2 + 11) + zlo y2 ≤ zlo y) : wSC y pc y2 n (some C) := by
  intro p l e R s m args below meth c hx hb hml hown hts hfr hlo hKK hPV H locs sl cells slots mc ms Pc Qc free As rest hM hFB hPc hrecv hlen hsum hsl hc hs
  obtain ⟨b, As', rfl, hcell⟩ := hrecv _ rfl
  obtain ⟨D, cA, hK⟩ := hKK
  obtain ⟨-, hfc, kC, hkC, hkind⟩ := hK.1.1 ci _ hcl
  rw [wk_rv]
  refine va_runSU (C := C) (bytes := zbc y2) (maxL := znl y2) (ret := zrt y2) (n := n') ⟨hfc, kC, hkC, hkind⟩ ⟨hx, hb, hml, hown, hts⟩ hM (va_cwSU (ws' := zTs) n' hts (z_good zTs_good fun w hw => ?_) rfl rfl rfl hd2 (by rw [hfr, hlo]; exact hR)) ⟨hFB, hcell, hPc⟩ rfl ?_ hsl rfl (lv_room hsum) hd ⟨hc, hs⟩
  · unfold va_wsSU at hw
    simp only [List.cons_append, List.nil_append, List.mem_cons] at hw
    rcases hw with rfl | rfl | rfl | rfl | rfl | rfl | hw
    · exact w1
    · exact w0
    · exact w6
    · exact w2
    · exact w4
    · exact w5
    · exact hw
  · simp only [List.length_cons] at hlen
    omega
/-- a constructor -/
theorem wk_I (hd : decode (zbc y) pc = .ok (.invokespecial index, 3)) (w1 : Cond.methodLink (zyn y).cls index (zyn y2) ∈ zTs) (w2 : Cond.instanceMethod (zyn y2) ∈ zTs) (w4 : Cond.initialized (zyn y2).cls ∈ zTs) (hrt : zrt y2 = none) (w5 : Cond.code (zyn y2) (zbc y2) (znl y2) (zrt y2) ∈ zTs) (hy1 : (zyn y2).name = "<init>")
    (hd2 : (zyn y2).cls ≠ "java/lang/invoke/MethodHandle" ∧ (zyn y2).cls ≠ "java/lang/invoke/VarHandle" ∧ (parseMethodDescriptor (zyn y2).desc).map (fun d => d.parameters.length) = some n') (hn : n = n' + 1) (hR : zfr y2 + 1 ≤ zfr y ∧ 8 + (znl y2 + 11) + zlo y2 ≤ zlo y) : wSC y pc y2 n (some C) := by
  intro p l e R s m args below meth c hx hb hml hown hts hfr hlo hKK hPV H locs sl cells slots mc ms Pc Qc free As rest hM hFB hPc hrecv hlen hsum hsl hc hs
  obtain ⟨b, As', rfl, hcell⟩ := hrecv _ rfl
  rw [hrt] at hM w5
  rw [wk_rv]
  refine va_runI (As := As') (rest := rest) ⟨hx, hb, hml, hown, hts⟩ hM (cwI (ws' := zTs) n' hts (z_good zTs_good (fun w hw => ?_)) rfl rfl rfl (hts _ w4) (hts _ w1) (hts _ w2) hy1 hd2 (by rw [hfr, hlo]; exact hR)) ⟨hFB, hPc⟩ rfl ?_ hsl rfl (lv_room hsum) hd ⟨hc, hs⟩
  · rcases List.mem_cons.mp hw with rfl | hw
    · exact w5
    · exact hw
  · simp only [List.length_cons] at hlen
    omega
end WK
/-- the receiver is one of that class -/
def wRv (Y : DY) (as : List Value) (C : String) : Prop := ∃ (r : Nat) (as' : List Value), as = .ref r :: as' ∧ ((∃ (i ci : Nat) (T : u_T) (Nf : Nat) (cs : List Nat), r = 1000 + i ∧ i < Y.2.2 ∧ Y.2.1 i = (0, ci, cs) ∧ vwCl[ci]? = some (C, T, Nf)) ∨ (C = "java/lang/String" ∧ ∃ i, i < 10 ∧ r = 330 + i))
section WCR
variable {N : Nat} {tab : Nat → Nat → Option Ent} {nl : Nat → Nat} {c2 : Nat → Nat → Bool} {cl : Nat → Nat} {hnd : Nat → Nat → Option Int32}
variable {Ts : List Cond} {Z : (Nat → Nat) → State → Heap → Prop} {exn : Nat → String} {yn : Nat → MethodName} {bc : Nat → ByteArray} {rt : Nat → Option FieldType} {fr lo : Nat → Nat} {P : Nat → Nat → Nat} {tb : Nat → List (Nat × Nat × Nat × Nat)}
/-- a call of a method of the machine, out of a method whose cells are more than the machine's -/
theorem w_crun (hZK : z_ZK N Z) {p : Program} {l : Launch} {e : Env} {R : Room} {s : State} {m : MethodId} {args : Array Value} {below : List Frame} {meth : Method} {c : Code} {ad : Nat → Nat} {D : va_G} {cA : Nat → ClassId} {CE SE : Nat} {y ip k y2 n : Nat} {st : List Value} {mem mem' : Mm} {v : Option Value}
    (C : z_C N nl Ts Z yn bc rt fr lo y ad D cA CE SE p l R s m args meth c) (hcon : z_Con N nl Ts Z exn yn bc rt fr lo tb l y2 (st.take n).reverse mem (.inl v, mem')) (hsc : z_SC N nl Ts Z yn bc rt fr lo P tb y ip k y2 n) (hcl : k = 3 → ∃ T Nf, vwCl[cl y2]? = some ((yn y2).cls, T, Nf))
    (hok : z_okc N (cl y2) (nl y2) (c2 y2) k n st = true) {H : Heap} {locs : List Loc} {sl : Array Slot} {cells slots : Nat} (hc : cells + (mem'.2.2 - mem.2.2) ≤ CE) (hs : slots + 6 * (mem'.2.2 - mem.2.2) ≤ SE) (hP : va_P D vwCl (z_W N ad cA mem) H) (hZH : Z ad s H) (hsl : sl.size = nl y) :
    vx_Run p l e R s m args below meth c H locs cells slots (mem'.2.2 - mem.2.2) (6 * (mem'.2.2 - mem.2.2)) (F0 m (P y ip) sl (st.map (z_cv ad))) ((st.drop n).map (z_cv ad)) (z_Qc N ad D cA (.inl v, mem') (((st.take n).reverse).map (z_cv ad)).toArray) (z_XC N exn ad D cA (.inl v, mem')) (z_A N ad) := by
  have C' := C
  obtain ⟨hx, hb, hml, hown, hts, hr, hlk, hfr, hlo, hinj, hK, hZ, hCE, hSE⟩ := C'
  unfold z_okc at hok
  simp only [Bool.and_eq_true] at hok
  obtain ⟨⟨⟨o1, o2⟩, o3⟩, o4⟩ := hok
  have o1 := Nat.le_of_ble_eq_true o1
  have o2 := Nat.le_of_ble_eq_true o2
  have hst : (((st.take n).reverse).map (z_cv ad)).reverse ++ (st.drop n).map (z_cv ad) = st.map (z_cv ad) := by
    rw [List.map_reverse, List.reverse_reverse, ← List.map_append, List.take_append_drop]
  rw [← hst]
  refine hsc p l e R s m args below meth c ad D cA CE SE C H locs sl cells slots _ _ _ _ _ _ _ _ (fun hk E u t hx9 => ?_) (hcon ad D cA hinj) (fun a U g mk q => ?_) (fun U hU hW => ?_) hZH (fun hk => ?_) (fun hk => ?_) ?_ ?_ hsl (Nat.le_trans hc hCE) (Nat.le_trans hs hSE)
  · obtain ⟨z, hz, -⟩ := hx9
    cases hz
  · obtain ⟨q0, q1, q2, q3⟩ := q
    exact ⟨q0, va_K.moved (u := U) (U := U.calling g mk a) (Vm.Alike.refl U.vm) q1, q2, hZK.1 ad U _ _ rfl q3⟩
  · exact ⟨rfl, va_K.moved hW.alike hK, by rw [hU]; exact hP, hZK.2.1 ad s U _ hW (by rw [hU]; exact hZH)⟩
  · subst hk
    simp only at o4
    split at o4
    · rename_i b as he
      simp only [Bool.and_eq_true, beq_iff_eq] at o4
      obtain ⟨⟨p1, p2⟩, p3⟩ := o4
      have p1 : b < N := Nat.le_of_ble_eq_true p1
      obtain ⟨T, Nf, hv⟩ := hcl rfl
      rw [he]
      exact ⟨ad b, as.map (z_cv ad), rfl, va_recv hK hP hv (q0 := b) (by rw [z_W_at p1, z_cel_obj p2 p3])⟩
    · cases o4
  · subst hk
    simp only at o4
    split at o4
    · rename_i b as he
      simp only [Bool.and_eq_true] at o4
      obtain ⟨p1, p2⟩ := o4
      have p1 := @Nat.le_of_ble_eq_true 320 b p1
      have p2 := @Nat.le_of_ble_eq_true (Nat.succ b) 330 p2
      obtain ⟨i, rfl⟩ := Nat.exists_eq_add_of_le p1
      rw [he]
      exact ⟨i, as.map (z_cv ad), Nat.lt_of_add_lt_add_left (n := 320) p2, rfl⟩
    · cases o4
  · rw [List.length_map, List.length_reverse, List.length_take]
    omega
  · exact z_sum (n := 4) o2
end WCR
section W4
variable {u : WU} {y : Nat} {b : WB} {pc pc' : Nat} {L st : List Value} {G F : GM} {Y : DY} {c d : Nat} {Q : WQ}
theorem w_cats {L : List Value} {n : Nat} (h : L.length ≤ n) {f : Value → Value} : ((L.map f).map fun v => v.category).sum ≤ 2 * n := by
  induction L generalizing n with
  | nil => simp
  | cons v L ih =>
    cases n with
    | zero => simp at h
    | succ n =>
      have h1 := ih (n := n) (by simp at h; omega)
      have h2 : (f v).category ≤ 2 := by cases f v <;> simp [Value.category]
      simp only [List.map_cons, List.sum_cons]
      omega
/-- statics and constants at a place in the run -/
theorem wZ_at {l : Launch} {a0 : Nat → Nat} {A : Nat → Prop} {D : va_G} {cA : Nat → ClassId} {p : Program} {R : Room} {s : State} {m : MethodId} {args : Array Value} {meth : Method} {c0 : Code} {ad : Nat → Nat} {H : Heap} {locs : List Loc} {cells slots : Nat}
    (hC : wCx u y b l a0 A D cA p R s m args meth c0) (hA : wAt u y b a0 A D cA s G F Y c d ad H locs cells slots) {U : State} (hU : U.heap = H) (hW : s.WarmedH U.vm) : wZ u.2 (va_A (w_W u.1 ad cA G F Y) H.size) ad U U.heap := by
  obtain ⟨hx, hb, hml, hown, hts, hr, hlk, hnm, hfr, hlo, hce, hse, hK, hZ, hAn, hst⟩ := hC
  obtain ⟨e1, e2, e3, hP, hD, hS⟩ := hA
  have h1 := (wZ_K u.2 A).2.2 a0 s s.heap H hS.1 hS.2.1 hZ
  have h2 := (wZ_K u.2 A).2.1 a0 s U H hW h1
  have h3 : wZ u.2 A ad U H := wZ_ad h2 (fun k hk => e1 k (by omega))
  rw [hU]
  refine wZ_nar h3 (fun q hq => ?_)
  rcases hq with ⟨k, e, hk⟩ | hq
  · exact hD.2 k _ hk
  · exact hAn q (Nat.le_trans hS.1 hq)
theorem w_free {l : Launch} {a0 : Nat → Nat} {A : Nat → Prop} {D : va_G} {cA : Nat → ClassId} {p : Program} {R : Room} {s : State} {m : MethodId} {args : Array Value} {meth : Method} {c0 : Code} {ad : Nat → Nat} {H : Heap} {locs : List Loc} {cells slots : Nat}
    (hC : wCx u y b l a0 A D cA p R s m args meth c0) (hA : wAt u y b a0 A D cA s G F Y c d ad H locs cells slots) : ∀ q, va_A (w_W u.1 ad cA G F Y) H.size q → A q := by
  obtain ⟨hx, hb, hml, hown, hts, hr, hlk, hnm, hfr, hlo, hce, hse, hK, hZ, hAn, hst⟩ := hC
  obtain ⟨e1, e2, e3, hP, hD, hS⟩ := hA
  intro q hq
  rcases hq with ⟨k, e, hk⟩ | hq
  · exact hD.2 k _ hk
  · exact hAn q (Nat.le_trans hS.1 hq)
theorem w_tc {ad ad' : Nat → Nat} {n : Nat} {o : Option Value} {st : List Value} (h : w_vs n st) (e : ∀ k, k < n → ad' k = ad k) : (o.map (z_cv ad')).toList ++ st.map (z_cv ad) = (o.toList ++ st).map (z_cv ad') := by
  rw [← z_map_c h e]
  cases o <;> simp
/-- a call of a method that makes cells -/
theorem wi_call {y2 n nc ns : Nat} {as : List Value} {rk : Option String} {Q2 : WQ} (hsc : wSC y pc y2 n rk) (hp : pc + 3 = pc') (hc : wC u y2 nc ns as G F Y Q2) (ha : (st.take n).reverse = as) (hn : n ≤ st.length) (h4 : (st.drop n).length ≤ 4) (hbc : c + nc ≤ b.1) (hbd : d + ns ≤ b.2.1) (hrk : ∀ C, rk = some C → wRv Y as C)
    (k : ∀ o G' F' Y', Q2 o G' F' Y' → Y.2.2 ≤ Y'.2.2 → wW u y b pc' L (o.toList ++ st.drop n) G' F' Y' (c + nc) (d + ns) Q) : wW u y b pc L st G F Y c d Q := by
  subst hp
  intro g h1 h2 p l e R s m args below meth c0 a0 A D cA Qm hC hE ad H locs sl cells slots hA hL
  have hC' := hC
  have hA' := hA
  obtain ⟨hx, hb, hml, hown, hts, hr, hlk, hnm, hfr, hlo, hce, hse, hK, hZ, hAn, hst⟩ := hC'
  obtain ⟨e1, e2, e3, hP, hD, hS⟩ := hA'
  have hva : w_vs (1000 + Y.2.2) as := by
    rw [← ha]
    exact w_vs_r (w_vs_k n h2)
  have hvd : w_vs (1000 + Y.2.2) (st.drop n) := w_vs_d n h2
  have hg2 : wGd u (nc, ns, Y.2.2) G F Y := ⟨g.1, g.2.1, g.2.2.1, g.2.2.2.1, g.2.2.2.2.1, Nat.le_refl _⟩
  have hM := hc l hst ad D cA H.size hg2 hva ⟨A, hD⟩
  have hst2 : (as.map (z_cv ad)).reverse ++ (st.drop n).map (z_cv ad) = st.map (z_cv ad) := by
    rw [← ha, List.map_reverse, List.reverse_reverse, ← List.map_append, List.take_append_drop]
  have hrun := hsc p l e R s m args below meth c0 hx hb hml hown hts hfr hlo ⟨D, cA, hK⟩ hZ.2.2.2.2.2.2.2.2 H locs sl cells slots nc ns _ _ _ (as.map (z_cv ad)) ((st.drop n).map (z_cv ad)) hM (fun a U g9 mk q => by
    obtain ⟨q0, q1, q2, q3, q4⟩ := q
    exact ⟨q0, q1, q2, wK_m (u := U) (U := U.calling g9 mk a) (Vm.Alike.refl U.vm) q3, (wZ_K u.2 _).1 ad U (U.calling g9 mk a) _ rfl q4⟩) (fun U hU hW => ⟨rfl, by rw [hU], by rw [hU]; exact hP, wK_m hW.alike hK, wZ_at hC hA hU hW⟩) (fun C hC9 => by
      obtain ⟨r, as', ea, hr9⟩ := hrk C hC9
      rw [ea]
      refine ⟨ad r, as'.map (z_cv ad), rfl, ?_⟩
      rcases hr9 with ⟨i, ci, T, Nf, cs, rfl, hi, hsh, hcl⟩ | ⟨rfl, i, hi, rfl⟩
      · exact va_recv hK.1 hP hcl (q0 := u.1 + i) (by rw [w_W_hi hi, w_el_obj hsh])
      · have h9 := ((wZ_K u.2 A).2.2 a0 s s.heap H hS.1 hS.2.1 hZ).2.2.1.1 i hi
        obtain ⟨cell, k1, k2, k3, -⟩ := h9.1
        have e9 : ad (330 + i) = a0 (330 + i) := e1 _ (by omega)
        rw [e9]
        exact ⟨cell, k1, k2, k3⟩) (by rw [List.length_map, ← ha, List.length_reverse, List.length_take]; omega) (w_cats (n := 4) h4) hL.1.1 (by omega) (by omega)
  rw [hst2] at hrun
  intro T hT X
  obtain ⟨v, st₀, t, T', L', h0, X', hL', q1, q2, ⟨⟨o, G', F', Y', ad', hv, z1, z2, z3, z4, z5, z6⟩, hF⟩, stp⟩ := hrun T hT X
  cases hv
  obtain ⟨k1, k2, k3⟩ := vx_keep h0 q1 hS (fun q _ h => w_free hC hA q h) (w_free hC hA) hL' hF
  have hn2 : Y.2.2 ≤ Y'.2.2 := z3.2.2.2.2.2
  have hvn : w_vs (1000 + Y'.2.2) (o.toList ++ st.drop n) := w_vs_a (fun v hv => by
    cases o with
    | none => cases hv
    | some w =>
      rw [List.mem_singleton.mp hv]
      exact z4 _ rfl) (w_vs_up hvd (by omega))
  obtain ⟨t2, a1, b1⟩ := k o G' F' Y' z2 hn2 ⟨z3.1, z3.2.1, z3.2.2.1, z3.2.2.2.1, z3.2.2.2.2.1, Nat.le_trans g.2.2.2.2.2 hn2⟩ (w_vs_up h1 (by omega)) hvn p l e R s m args below meth c0 a0 A D cA Qm hC hE ad' T'.heap (locs ++ L') sl (cells + nc) (slots + ns)
    ⟨fun k hk => (z1 k (by have := g.2.2.2.2.2; omega)).trans (e1 k hk), by omega, by omega, by rw [q1]; exact z5, z6.weaken (fun k q _ h => w_free hC hA _ h), k3⟩ (z_has_c h1 z1 hL) T' rfl X'
  refine ⟨t2, stp t2 ?_, b1⟩
  rw [w_tc hvd z1]
  exact a1
/-- a call of a method of the machine -/
theorem wi_call1 {k1 y2 n : Nat} {as : List Value} {Q2 : Zq} (hsc : z_SC u.1 znl zTs (zZ u.2.1 u.2.2 u.1) zyn zbc zrt zfr zlo (fun _ i => i) ztb y pc k1 y2 n) (hp : pc + 3 = pc') (hc : zC u.1 y2 as G F 0 Q2) (hcl : k1 = 3 → ∃ T Nf, vwCl[zcl y2]? = some ((zyn y2).cls, T, Nf)) (ha : (st.take n).reverse = as) (hok : z_okc u.1 (zcl y2) (znl y2) (zc2 y2) k1 n st = true)
    (hx : ∀ z G' F' n', ¬ Q2 (.inr z) G' F' n') (hv : ∀ v G' F' n', Q2 (.inl (some v)) G' F' n' → w_v 0 v) (hbb : ∀ v G' F' n', Q2 (.inl v) G' F' n' → c + n' ≤ b.1 ∧ d + 6 * n' ≤ b.2.1)
    (k : ∀ v G' F' n', Q2 (.inl v) G' F' n' → wW u y b pc' L (v.toList ++ st.drop n) G' F' Y (c + n') (d + 6 * n') Q) : wW u y b pc L st G F Y c d Q := by
  subst hp
  intro g h1 h2 p l e R s m args below meth c0 a0 A D cA Qm hC hE ad H locs sl cells slots hA hL
  have hC' := hC
  have hA' := hA
  obtain ⟨hex, hb, hml, hown, hts, hr, hlk, hnm, hfr, hlo, hce, hse, hK, hZ, hAn, hst⟩ := hC'
  obtain ⟨e1, e2, e3, hP, hD, hS⟩ := hA'
  obtain ⟨f, o, G', F', n', hrun0, hG', hF', hq⟩ := hc g.2.1 g.2.2.1
  have hfit : z_fit (znl y2) (zc2 y2) (st.take n).reverse = true := by
    have hok' := hok
    unfold z_okc at hok'
    simp only [Bool.and_eq_true] at hok'
    exact hok'.1.2
  have hok' := hok
  cases o with
  | inr z => exact absurd hq (hx z G' F' n')
  | inl v =>
    rw [← ha] at hrun0
    have hz : ∃ en, ztab u.1 y2 0 = some en := by
      cases f with
      | zero => cases hrun0
      | succ f =>
        unfold z_run at hrun0
        cases ht : ztab u.1 y2 0 with
        | none => rw [ht] at hrun0; cases hrun0
        | some en => exact ⟨en, rfl⟩
    obtain ⟨en, hen⟩ := hz
    have hp0 := zE_0 (N := u.1) y2 en hen
    have hw := z_walk (zZ_K u.2.1 u.2.2 u.1) (fun y ip en h => zE_all (L := u.2.1) (xs := u.2.2) (N := u.1) y ip en h) (fun y en h => zE_0 (N := u.1) y en h) hst f y2 0 _ _ hrun0
    have hcon := z_con hp0.2 hfit hp0.1 hw
    obtain ⟨hbc, hbd⟩ := hbb v G' F' n' hq
    have hinj : ∀ i j, i < u.1 → j < u.1 → ad i = ad j → i = j := fun i j hi hj he => hD.1 i j _ _ (w_W_lo hi) (w_W_lo hj) he
    have hAz : ∀ q, z_A u.1 ad q → A q := by
      rintro q ⟨i, hi, rfl⟩
      exact hD.2 i _ (w_W_lo hi)
    have hZ9 : zZ u.2.1 u.2.2 u.1 ad s s.heap := zZA_to hZ.1 (fun k _ hk => e1 k (by omega)) hAz
    have hPz : va_P D vwCl (z_W u.1 ad cA (mM G F 0)) H := fun i q hi => hP i q (by
      unfold w_W
      rw [List.getElem?_append_left (List.getElem?_eq_some_iff.mp hi).1]
      exact hi)
    have hC9 : z_C u.1 znl zTs (zZ u.2.1 u.2.2 u.1) zyn zbc zrt zfr zlo y ad D cA b.1 b.2.1 p l R s m args meth c0 := ⟨hex, hb, hml, hown, hts, hr, hlk, hfr, hlo, hinj, wK_z hK, hZ9, Nat.le_of_eq hce.symm, Nat.le_of_eq hse.symm⟩
    have hSN : va_S (fun q => A q) s.heap H locs := hS
    have hZH : zZ u.2.1 u.2.2 u.1 ad s H := zZA_to ((zZA_K u.2.1 u.2.2 A).2.2 a0 s s.heap H hS.1 hS.2.1 hZ.1) (fun k _ hk => e1 k (by omega)) hAz
    have hrun := w_crun (e := e) (below := below) (cells := cells) (slots := slots) (locs := locs) (zZ_K u.2.1 u.2.2 u.1) hC9 hcon hsc hcl hok (by show cells + (n' - 0) ≤ b.1; omega) (by show slots + 6 * (n' - 0) ≤ b.2.1; omega) hPz hZH hL.1.1
    intro T hT X
    rcases hrun T hT X with ⟨v', st₀, t, T', L', h0, X', hL', q1, q2, ⟨v9, hv9, ho, hPt, hF⟩, stp⟩ | ⟨q, st₀, t, T', L', E, ce, h0, X', hL', q1, q2, ⟨k9, hk9, -⟩, -⟩
    · cases hv9
      cases ho
      obtain ⟨k1, k2, k3⟩ := vx_keep h0 q1 hS (fun q _ h => hAz q h) hAz hL' hF
      have hP2 : va_P D vwCl (w_W u.1 ad cA G' F' Y) T'.heap := by
        refine va_P.app ?_ ?_
        · rw [q1]
          intro i q hi
          have e9 : z_W u.1 ad cA (mM G' F' 0) = z_W u.1 ad cA (mM G' F' n') := z_W_k
          exact hPt i q (by rw [← e9]; exact hi)
        · intro i q hi
          have hi2 : i < Y.2.2 := by
            have := (List.getElem?_eq_some_iff.mp hi).1
            rwa [w_X_len] at this
          have hi3 : (w_W u.1 ad cA G F Y)[u.1 + i]? = some q := by rw [w_W_hi hi2, ← w_X_at hi2]; exact hi
          have h9 := hP _ _ hi3
          refine h9.kept (k2 _ h9.lt (fun hz => ?_))
          obtain ⟨j, hj, he⟩ := hz
          have := hD.1 (u.1 + i) j _ _ hi3 (w_W_lo hj) he
          omega
      have hv0 : w_vs (1000 + Y.2.2) (v.toList ++ st.drop n) := w_vs_a (fun x hx => by
        cases v with
        | none => cases hx
        | some w =>
          rw [List.mem_singleton.mp hx]
          exact w_v_up (hv w _ _ _ hq) (by omega)) (w_vs_d n h2)
      obtain ⟨t2, a1, b1⟩ := k v G' F' n' hq ⟨g.1, hG', hF', g.2.2.2⟩ h1 hv0 p l e R s m args below meth c0 a0 A D cA Qm hC hE ad T'.heap (locs ++ L') sl _ _
        ⟨e1, Nat.add_le_add_right e2 _, Nat.add_le_add_right e3 _, hP2, w_D_c hD rfl, k3⟩ hL T' rfl X'
      refine ⟨t2, stp t2 ?_, b1⟩
      have hst9 : ((v.map (z_cv ad)).toList ++ (st.drop n).map (z_cv ad)) = (v.toList ++ st.drop n).map (z_cv ad) := by
        cases v <;> simp
      rw [hst9]
      exact a1
    · cases hk9
end W4
