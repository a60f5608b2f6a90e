/-! A run in a method that makes cells: from a place in it, with these locals, this stack, these cells, it comes to its end as said. -/
/-- what holds all through of classes, apart from what z_ty says -/
def w_AOA (t : FieldType) (U : State) : Prop := (Cond.arrayOver (.array t)).before #[] U = true
theorem w_AOA.spec {t : FieldType} {U : State} (h : w_AOA t U) : ∃ comp c k, U.vm.findClass (FieldType.array t).toString = some comp ∧ (U.vm.classes.findIdx? fun x => match x.kind with | .array component _ => component == comp | _ => false) = some c ∧ U.vm.classes[c]? = some k ∧ k.kind = .array comp (.array t) ∧ U.vm.findClass ("[" ++ (FieldType.array t).toString) = some c := by
  have h : (Cond.arrayOver (.array t)).holds #[] U none U [] = true := h
  simp only [Cond.holds, Cond.value, beq_iff_eq] at h
  cases hc : U.vm.findClass (FieldType.array t).toString with
  | none => simp [hc] at h
  | some comp =>
    simp only [hc, Option.bind_some, Option.bind_eq_some_iff, Option.map_eq_some_iff] at h
    obtain ⟨c, hi, k, hk, hb⟩ := h
    obtain ⟨hlt, hp, -⟩ := Array.findIdx?_eq_some_iff_getElem.mp hi
    have hkk : U.vm.classes[c] = k := (Array.getElem?_eq_some_iff.mp hk).2
    rw [hkk] at hp
    cases hkind : k.kind with
    | array component ty =>
      rw [hkind] at hb hp
      simp at hb hp
      exact ⟨comp, c, k, rfl, hi, hk, by rw [hkind, hp, hb.1], hb.2⟩
    | _ => rw [hkind] at hb; simp at hb
theorem w_AOA.moved {t : FieldType} {u U : State} (hvm : u.vm.Alike U.vm) (h : w_AOA t u) : w_AOA t U := by
  obtain ⟨comp, c, k, h1, h2, h3, h4, h5⟩ := h.spec
  obtain ⟨k', hk', he⟩ := hvm.2.2 _ _ h3
  have hi : (U.vm.classes.findIdx? fun (x : Class) => match x.kind with | .array component _ => component == comp | _ => false) = some c := by
    have hb : U.vm.bare = u.vm.bare := by first | exact hvm.bare_eq | exact hvm.bare_eq.symm
    have e1 := va_idx_bare U.vm comp
    rw [hb, va_idx_bare u.vm comp] at e1
    exact e1.symm.trans h2
  have hkind : k'.kind = .array comp (.array t) := by rw [he]; exact h4
  have f1 : U.vm.findClass (FieldType.array t).toString = some comp := by rw [hvm.findClass]; exact h1
  have f2 : U.vm.findClass ("[" ++ (FieldType.array t).toString) = some c := by rw [hvm.findClass]; exact h5
  unfold w_AOA Cond.before Cond.holds
  simp only [Cond.value]
  rw [f1, Option.bind_some]
  refine (congrArg (fun o : Option Nat => (o.bind (fun c => (U.vm.classes[c]?).map fun (k : Class) => match k.kind with | .array _ ty => decide (ty = FieldType.array t) && decide (U.vm.findClass ("[" ++ (FieldType.array t).toString) = some c) | _ => false) == some true)) hi).trans ?_
  simp [hk', hkind, f2]
def wK (D : va_G) (cA : Nat → ClassId) (U : State) : Prop := va_K D vwCl (w_ty cA) U ∧ w_AOA .int U ∧ w_AOA .char U ∧ w_AOA .boolean U
theorem wK_m {D : va_G} {cA : Nat → ClassId} {u U : State} (hvm : u.vm.Alike U.vm) (h : wK D cA u) : wK D cA U := ⟨va_K.moved hvm h.1, h.2.1.moved hvm, h.2.2.1.moved hvm, h.2.2.2.moved hvm⟩
theorem wK_z {D : va_G} {cA : Nat → ClassId} {U : State} (h : wK D cA U) : va_K D vwCl (z_ty cA) U := h.1.sub [0, 1, 2, 3, 4, 5] rfl
/-- what the law's own constants are: the place in its table, the text, its number -/
def wSt : List (Nat × String × Nat) := [(190, "marsh ", 330), (201, " clear ", 331), (208, "row ", 332), (211, "ffffffffwwphfpff", 333), (213, "fog ", 334), (217, "light ", 335), (219, " false", 336), (221, " true", 337), (223, " next ", 338), (225, "traveller ", 339)]
def wSl : List Nat := [6, 7, 4, 16, 4, 6, 6, 5, 6, 10]
def wSb : List (List Int32) := [[109, 97, 114, 115, 104, 32], [32, 99, 108, 101, 97, 114, 32], [114, 111, 119, 32], [102, 102, 102, 102, 102, 102, 102, 102, 119, 119, 112, 104, 102, 112, 102, 102], [102, 111, 103, 32], [108, 105, 103, 104, 116, 32], [32, 102, 97, 108, 115, 101], [32, 116, 114, 117, 101], [32, 110, 101, 120, 116, 32], [116, 114, 97, 118, 101, 108, 108, 101, 114, 32]]
/-- private methods that a builder has from above -/
def wPv : List MethodName := [yJ5_ensureCapacityInternal_d00df, yJ5_newCapacity_0f7a4, yJ5_putStringAt_47b60, yJ5_inflateIfNeededFor_a7421]
/-- what holds of statics and constants, apart from the cells in A -/
def wZ (X : Nat × (Nat → Int32)) (A : Nat → Prop) (ad : Nat → Nat) (U : State) (H : Heap) : Prop :=
  zZA X.1 X.2 A ad U H ∧ (∀ q ∈ wSt, vk_R "FalseLightMarshLaw" q.1 q.2.1 (ad q.2.2) U) ∧ vk_S 10 wSl wSb (fun i => ad (330 + i)) (fun i => ad (350 + i)) A U H ∧
  va_Z "java/lang/Integer" "DigitOnes" "[B" (.ref (ad 302)) A U H ∧ va_T .byte (ad 302) 100 (fun j => .int (zi (48 + (j : Int) % 10))) A U H ∧ va_Z "java/lang/Integer" "DigitTens" "[B" (.ref (ad 303)) A U H ∧ va_T .byte (ad 303) 100 (fun j => .int (zi (48 + (j : Int) / 10))) A U H ∧ va_Nw (.castable "[B" "java/lang/Cloneable") U ∧ ∀ q ∈ wPv, va_Nw (.selects "java/lang/StringBuilder" q q) U
theorem zZA_nar {X : Nat × (Nat → Int32)} {A B : Nat → Prop} {ad : Nat → Nat} {U : State} {H : Heap} (h : zZA X.1 X.2 A ad U H) (hAB : ∀ q, B q → A q) : zZA X.1 X.2 B ad U H := by
  obtain ⟨g, h1, h2, h3, h4, h5, h6, h7, h8, h9, h10, h11, h12⟩ := h
  exact ⟨g, h1.narrow hAB, h2.narrow hAB, h3.narrow hAB, h4.narrow hAB, h5.narrow hAB, h6.narrow hAB, h7.narrow hAB, h8.narrow hAB, va_Zq.narrow h9 hAB, h10, h11, fun z => h12 (hAB _ z)⟩
theorem zZA_ad {X : Nat × (Nat → Int32)} {A : Nat → Prop} {ad a0 : Nat → Nat} {U : State} {H : Heap} (h : zZA X.1 X.2 A a0 U H) (e : ∀ k, k < 1000 → ad k = a0 k) : zZA X.1 X.2 A ad U H := by
  obtain ⟨⟨g1, g2, g3, g4, g5, g6, g7⟩, h1, h2, h3, h4, h5, h6, h7, h8, h9, h10, h11, h12⟩ := h
  have hS : vk_S 10 zSl zSb (fun i => ad (320 + i)) (fun i => ad (340 + i)) A U H := by
    refine ⟨fun i hi => ?_, fun i j hi hj => ?_⟩
    · have h := h3.1 i hi
      dsimp only at h ⊢
      rw [e (320 + i) (by omega), e (340 + i) (by omega)]
      exact h
    · have h := h3.2 i j hi hj
      dsimp only at h ⊢
      rw [e (320 + i) (by omega), e (320 + j) (by omega)]
      exact h
  unfold zZA
  rw [e 310 (by decide), e 300 (by decide), e 301 (by decide)]
  refine ⟨⟨g1, g2, g3, g4, g5, fun q hq => ?_, g7⟩, h1, h2, hS, h4, h5, h6, h7, h8, h9, h10, h11, h12⟩
  have hz : (zSt.all fun q => Nat.blt q.2.2.2 1000) = true := by decide +kernel
  rw [e _ (Nat.le_of_ble_eq_true (List.all_eq_true.mp hz q hq))]
  exact g6 q hq
theorem wZ_nar {X : Nat × (Nat → Int32)} {A B : Nat → Prop} {ad : Nat → Nat} {U : State} {H : Heap} (h : wZ X A ad U H) (hAB : ∀ q, B q → A q) : wZ X B ad U H := by
  obtain ⟨h0, h1, h2, h3, h4, h5, h6, h7, h8⟩ := h
  exact ⟨zZA_nar h0 hAB, h1, h2.narrow hAB, h3.narrow hAB, h4.narrow hAB, h5.narrow hAB, h6.narrow hAB, h7, h8⟩
theorem wZ_ad {X : Nat × (Nat → Int32)} {A : Nat → Prop} {ad a0 : Nat → Nat} {U : State} {H : Heap} (h : wZ X A a0 U H) (e : ∀ k, k < 1000 → ad k = a0 k) : wZ X A ad U H := by
  obtain ⟨h0, h1, h2, h3, h4, h5, h6, h7, h8⟩ := h
  refine ⟨zZA_ad h0 e, fun q hq => ?_, ⟨fun i hi => ?_, fun i j hi hj => ?_⟩, ?_, ?_, ?_, ?_, h7, h8⟩
  · have hz : (wSt.all fun q => Nat.blt q.2.2 1000) = true := by decide +kernel
    rw [e _ (Nat.le_of_ble_eq_true (List.all_eq_true.mp hz q hq))]
    exact h1 q hq
  · have h := h2.1 i hi
    dsimp only at h ⊢
    rw [e (330 + i) (by omega), e (350 + i) (by omega)]
    exact h
  · have h := h2.2 i j hi hj
    dsimp only at h ⊢
    rw [e (330 + i) (by omega), e (330 + j) (by omega)]
    exact h
  · rw [e 302 (by decide)]; exact h3
  · rw [e 302 (by decide)]; exact h4
  · rw [e 303 (by decide)]; exact h5
  · rw [e 303 (by decide)]; exact h6
theorem wZ_K (X : Nat × (Nat → Int32)) (A : Nat → Prop) : (∀ ad u U H, U.vm = u.vm → wZ X A ad u H → wZ X A ad U H) ∧ (∀ (ad : Nat → Nat) (s U : State) H, s.WarmedH U.vm → wZ X A ad s H → wZ X A ad U H) ∧ (∀ ad U (H H1 : Heap), H.size ≤ H1.size → (∀ q : Nat, q < H.size → ¬ A q → H1[q]? = H[q]?) → wZ X A ad U H → wZ X A ad U H1) := by
  refine ⟨fun ad u U H hv h => ?_, fun ad s U H hW h => ?_, fun ad U H H1 hz hq h => ?_⟩
  · obtain ⟨h0, h1, h2, h3, h4, h5, h6, h7, h8⟩ := h
    have ha : u.vm.Alike U.vm := by rw [hv]; exact Vm.Alike.refl _
    exact ⟨(zZA_K X.1 X.2 A).1 ad u U H hv h0, fun q hq => vk_R.same hv (h1 q hq), vk_S.moved ha h2, va_Z.moved ha h3, va_T.moved ha h4, va_Z.moved ha h5, va_T.moved ha h6, va_Nw.same rfl hv.symm h7, fun q hq => va_Nw.same rfl hv.symm (h8 q hq)⟩
  · obtain ⟨h0, h1, h2, h3, h4, h5, h6, h7, h8⟩ := h
    exact ⟨(zZA_K X.1 X.2 A).2.1 ad s U H hW h0, fun q hq => vk_R.warm hW (h1 q hq), vk_S.moved hW.alike h2, va_Z.moved hW.alike h3, va_T.moved hW.alike h4, va_Z.moved hW.alike h5, va_T.moved hW.alike h6, va_Nw.warmC hW h7, fun q hq => word_at hW (Or.inl (by first | rfl | simp [Cond.onTables, Cond.keeps, Cond.steady])) (h8 q hq)⟩
  · obtain ⟨h0, h1, h2, h3, h4, h5, h6, h7, h8⟩ := h
    exact ⟨(zZA_K X.1 X.2 A).2.2 ad U H H1 hz hq h0, h1, h2.kept hq, h3.kept hq, h4.kept hq, h5.kept hq, h6.kept hq, h7, h8⟩
abbrev WQ : Type := Option Value → GM → GM → DY → Prop
/-- how many fixed cells there are, the script -/
abbrev WU : Type := Nat × (Nat × (Nat → Int32))
/-- room for cells, for slots; how many cells there were at the method's start -/
abbrev WB : Type := Nat × Nat × Nat
/-- what stands all through a method -/
def wCx (u : WU) (y : Nat) (b : WB) (l : Launch) (a0 : Nat → Nat) (A : Nat → Prop) (D : va_G) (cA : Nat → ClassId) (p : Program) (R : Room) (s : State) (m : MethodId) (args : Array Value) (meth : Method) (c : Code) : Prop :=
  p.tables.exec = Jvm.exec ∧ c.code = zbc y ∧ c.maxLocals = znl y ∧ s.vm.findClass (zyn y).cls = some m.cls ∧ (∀ w ∈ zTs, w.before args s = true) ∧ meth.sig.returnType = zrt y ∧ meth.locks = false ∧ meth.name = (zyn y).name ∧ R.frames = zfr y ∧ R.locals = zlo y ∧ R.cells = b.1 ∧ R.slots = b.2.1 ∧
  wK D cA s ∧ wZ u.2 A a0 s s.heap ∧ (∀ q, s.heap.size ≤ q → A q) ∧ l.stackTraces = false
/-- a return of this answer stands at pc -/
def wRet (y pc : Nat) (o : Option Value) : Prop := match o with
  | none => decode (zbc y) pc = .ok (.return_, 1) ∧ zrt y = none
  | some (.int v) => decode (zbc y) pc = .ok (.ireturn, 1) ∧ ∃ ty, zrt y = some ty ∧ narrow ty (.int v) = .int v
  | some (.long _) => decode (zbc y) pc = .ok (.lreturn, 1) ∧ zrt y = some .long
  | some (.ref _) => decode (zbc y) pc = .ok (.areturn, 1) ∧ ∃ rt, zrt y = some rt ∧ ((∃ n, rt = .object n) ∨ ∃ t, rt = .array t)
  | _ => False
/-- a state of the machine is this one -/
def wAt (u : WU) (y : Nat) (b : WB) (a0 : Nat → Nat) (A : Nat → Prop) (D : va_G) (cA : Nat → ClassId) (s : State) (G F : GM) (Y : DY) (c d : Nat) (ad : Nat → Nat) (H : Heap) (locs : List Loc) (cells slots : Nat) : Prop :=
  (∀ k, k < 1000 + b.2.2 → ad k = a0 k) ∧ cells ≤ c ∧ slots ≤ d ∧ va_P D vwCl (w_W u.1 ad cA G F Y) H ∧ va_D A (w_W u.1 ad cA G F Y) ∧ va_S A s.heap H locs
/-- what is good in itself -/
def wGd (u : WU) (b : WB) (G F : GM) (Y : DY) : Prop := u.1 ≤ 229 ∧ zrM G ∧ zrL F ∧ zrM Y.1 ∧ w_ok Y ∧ b.2.2 ≤ Y.2.2
def wEnd (u : WU) (y : Nat) (b : WB) (Q : WQ) (p : Program) (l : Launch) (e : Env) (R : Room) (s : State) (m : MethodId) (args : Array Value) (below : List Frame) (meth : Method) (c : Code) (a0 : Nat → Nat) (A : Nat → Prop) (D : va_G) (cA : Nat → ClassId) (Qm : State → Prop) : Prop :=
  ∀ (o : Option Value) (G F : GM) (Y : DY) (ad : Nat → Nat) (H : Heap) (locs : List Loc) (sl : Array Slot) (pc cells slots : Nat), wRet y pc o → Q o G F Y → wGd u b G F Y → (∀ v, o = some v → w_v (1000 + Y.2.2) v) → wAt u y b a0 A D cA s G F Y b.1 b.2.1 ad H locs cells slots →
    W p l e R s m args below meth c H locs cells slots Qm (F0 m pc sl (o.toList.map (z_cv ad)))
def wW (u : WU) (y : Nat) (b : WB) (pc : Nat) (L st : List Value) (G F : GM) (Y : DY) (c d : Nat) (Q : WQ) : Prop :=
  wGd u b G F Y → w_vs (1000 + Y.2.2) L → w_vs (1000 + Y.2.2) st →
  ∀ (p : Program) (l : Launch) (e : Env) (R : Room) (s : State) (m : MethodId) (args : Array Value) (below : List Frame) (meth : Method) (c0 : Code) (a0 : Nat → Nat) (A : Nat → Prop) (D : va_G) (cA : Nat → ClassId) (Qm : State → Prop),
    wCx u y b l a0 A D cA p R s m args meth c0 → wEnd u y b Q p l e R s m args below meth c0 a0 A D cA Qm →
    ∀ (ad : Nat → Nat) (H : Heap) (locs : List Loc) (sl : Array Slot) (cells slots : Nat), wAt u y b a0 A D cA s G F Y c d ad H locs cells slots → z_has ad (zc2 y) (znl y) sl L →
      W p l e R s m args below meth c0 H locs cells slots Qm (F0 m pc sl (st.map (z_cv ad)))
section W1
variable {u : WU} {y : Nat} {b : WB} {pc pc' : Nat} {L st L' st' : List Value} {G F : GM} {Y : DY} {c d : Nat} {Q : WQ}
/-- a step that leaves the cells -/
theorem ws_st (hv : ∀ n, w_vs n L → w_vs n st → w_vs n L' ∧ w_vs n st')
    (h : ∀ (p : Program) (l : Launch) (e : Env) (R : Room) (s : State) (m : MethodId) (args : Array Value) (below : List Frame) (meth : Method) (c0 : Code) (a0 : Nat → Nat) (A : Nat → Prop) (D : va_G) (cA : Nat → ClassId) (Qm : State → Prop) (ad : Nat → Nat) (H : Heap) (locs : List Loc) (sl : Array Slot) (cells slots : Nat),
      wCx u y b l a0 A D cA p R s m args meth c0 → wAt u y b a0 A D cA s G F Y c d ad H locs cells slots → z_has ad (zc2 y) (znl y) sl L →
      (∀ sl', z_has ad (zc2 y) (znl y) sl' L' → W p l e R s m args below meth c0 H locs cells slots Qm (F0 m pc' sl' (st'.map (z_cv ad)))) →
      W p l e R s m args below meth c0 H locs cells slots Qm (F0 m pc sl (st.map (z_cv ad))))
    (k : wW u y b pc' L' st' G F Y c d Q) : wW u y b pc L st G F Y c d Q := by
  intro g h1 h2 p l e R s m args below meth c0 a0 A D cA Qm hC hE ad H locs sl cells slots hA hL
  obtain ⟨v1, v2⟩ := hv _ h1 h2
  exact h p l e R s m args below meth c0 a0 A D cA Qm ad H locs sl cells slots hC hA hL (fun sl' hl' => k g v1 v2 p l e R s m args below meth c0 a0 A D cA Qm hC hE ad H locs sl' cells slots hA hl')
theorem wW_w {Q' : WQ} (h : ∀ o G F Y, Q o G F Y → Q' o G F Y) (k : wW u y b pc L st G F Y c d Q) : wW u y b pc L st G F Y c d Q' := by
  intro g h1 h2 p l e R s m args below meth c0 a0 A D cA Qm hC hE
  exact k g h1 h2 p l e R s m args below meth c0 a0 A D cA Qm hC (fun o G F Y ad H locs sl pc cells slots r q => hE o G F Y ad H locs sl pc cells slots r (h _ _ _ _ q))
theorem wW_g (k : wGd u b G F Y → wW u y b pc L st G F Y c d Q) : wW u y b pc L st G F Y c d Q := fun g => k g g
theorem wW_cd {c' d' : Nat} (hc : c ≤ c') (hd : d ≤ d') (k : wW u y b pc L st G F Y c' d' Q) : wW u y b pc L st G F Y c d Q := by
  intro g h1 h2 p l e R s m args below meth c0 a0 A D cA Qm hC hE ad H locs sl cells slots hA hL
  exact k g h1 h2 p l e R s m args below meth c0 a0 A D cA Qm hC hE ad H locs sl cells slots ⟨hA.1, Nat.le_trans hA.2.1 hc, Nat.le_trans hA.2.2.1 hd, hA.2.2.2⟩ hL
/-- a return -/
theorem wW_r {o : Option Value} (hr : wRet y pc o) (ho : st = o.toList) (hc : c ≤ b.1) (hd : d ≤ b.2.1) (k : Q o G F Y) : wW u y b pc L st G F Y c d Q := by
  intro g h1 h2 p l e R s m args below meth c0 a0 A D cA Qm hC hE ad H locs sl cells slots hA hL
  subst ho
  exact hE o G F Y ad H locs sl pc cells slots hr k g (fun v hv => by subst hv; exact h2 v List.mem_cons_self) ⟨hA.1, Nat.le_trans hA.2.1 hc, Nat.le_trans hA.2.2.1 hd, hA.2.2.2⟩
end W1
