/-! Constructors: what they owe, how they are called. -/
theorem k_oi : Cond.instanceMethod Lib.objectInit ∈ zTs := z_in (i := 66) (by decide +kernel) (by decide +kernel)
theorem k_oc : Cond.code Lib.objectInit ⟨#[0xb1]⟩ 1 none ∈ zTs := z_in (i := 67) (by decide +kernel) (by decide +kernel)
section K89
variable {D : va_G} {cl : List vw_C} {H H1 : Heap} {A0 : Nat → Prop} {wr wc w1 : va_W}
theorem k_pr (h : va_P D cl (wr ++ wc) H) : va_P D cl wc H := fun k q hk => h (wr.length + k) q (by rw [List.getElem?_append_right (by omega), Nat.add_sub_cancel_left]; exact hk)
theorem k_pl (h : va_P D cl (wr ++ wc) H) : va_P D cl wr H := fun k q hk => h k q (by rw [List.getElem?_append_left (List.getElem?_eq_some_iff.mp hk).1]; exact hk)
theorem k_d1 {A : Nat → Prop} {x : Nat × va_E} (h : A x.1) : va_D A [x] := by
  have one : ∀ (i : Nat) (p : Nat × va_E), [x][i]? = some p → i = 0 ∧ p = x := by
    intro i p hp
    cases i with
    | zero => cases hp; exact ⟨rfl, rfl⟩
    | succ i => cases hp
  refine ⟨fun i j p q hp hq _ => ?_, fun i p hp => ?_⟩
  · rw [(one i p hp).1, (one j q hq).1]
  · rw [(one i p hp).2]
    exact h
/-- behind a call whose world stands last: what stands before it stays -/
theorem k_join (hP : va_P D cl (wr ++ wc) H) (hD : va_D A0 (wr ++ wc)) (hk : ∀ q : Nat, q < H.size → ¬ va_A wc H.size q → H1[q]? = H[q]?) (hF : ∀ q, va_A wc H.size q → A0 q) (hP1 : va_P D cl w1 H1) (hD1 : va_D (va_A wc H.size) w1) : va_P D cl (wr ++ w1) H1 ∧ va_D A0 (wr ++ w1) := by
  have hl : ∀ (k : Nat) (q : Nat × va_E), wr[k]? = some q → (wr ++ wc)[k]? = some q := fun k q hk => by rw [List.getElem?_append_left (List.getElem?_eq_some_iff.mp hk).1]; exact hk
  have apart : ∀ (k : Nat) (q : Nat × va_E), wr[k]? = some q → q.1 < H.size ∧ ¬ va_A wc H.size q.1 := by
    intro k q hq
    have h2 := hl k q hq
    have hz := (hP k q h2).lt
    refine ⟨hz, fun h => ?_⟩
    rcases h with ⟨k2, e, h⟩ | h
    · have h4 : (wr ++ wc)[wr.length + k2]? = some (q.1, e) := by rw [List.getElem?_append_right (by omega), Nat.add_sub_cancel_left]; exact h
      have hij := hD.1 k _ q (q.1, e) h2 h4 rfl
      have := (List.getElem?_eq_some_iff.mp hq).1
      omega
    · omega
  refine ⟨(va_P.kept (k_pl hP) (fun k q hq => hk q.1 (apart k q hq).1 (apart k q hq).2)).app hP1, ⟨fun i j p q hi hj he => ?_, fun k q hq => ?_⟩⟩
  · by_cases h1 : i < wr.length
    · rw [List.getElem?_append_left h1] at hi
      by_cases h2 : j < wr.length
      · rw [List.getElem?_append_left h2] at hj
        exact hD.1 i j p q (hl i p hi) (hl j q hj) he
      · rw [List.getElem?_append_right (by omega)] at hj
        exact absurd (by rw [he]; exact hD1.2 _ q hj) (apart i p hi).2
    · rw [List.getElem?_append_right (by omega)] at hi
      by_cases h2 : j < wr.length
      · rw [List.getElem?_append_left h2] at hj
        exact absurd (by rw [← he]; exact hD1.2 _ p hi) (apart j q hj).2
      · rw [List.getElem?_append_right (by omega)] at hj
        have := hD1.1 _ _ p q hi hj he
        omega
  · rcases List.mem_append.mp (List.mem_of_getElem? hq) with h | h
    · obtain ⟨i, hi⟩ := List.getElem?_of_mem h
      exact hD.2 i q (hl i q hi)
    · obtain ⟨i, hi⟩ := List.getElem?_of_mem h
      exact hF _ (hD1.2 i q hi)
end K89
/-- what holds of the classes all along -/
def kK (D : va_G) (cA : Nat → ClassId) (U : State) : Prop := va_K D vwCl (z_ty cA) U ∧ va_AO "FalseLightMarsh$World" U ∧ va_AO "FalseLightMarsh$Distances" U
theorem kK_m {D : va_G} {cA : Nat → ClassId} {u U : State} (hvm : u.vm.Alike U.vm) (h : kK D cA u) : kK D cA U := ⟨va_K.moved hvm h.1, va_AO.moved hvm h.2.1, va_AO.moved hvm h.2.2⟩
theorem k_uni {s : State} {c1 c2 : ClassId} {ty : FieldType} (hp : ∀ C, ty ≠ .object C) (h1 : va_RA s c1 ty) (h2 : va_RA s c2 ty) : c1 = c2 := by
  cases ty with
  | object C => exact absurd rfl (hp C)
  | _ => exact Option.some.inj (h1.symm.trans h2)
theorem k_uniO {s : State} {c1 c2 : ClassId} {C : String} (h1 : va_RA s c1 (.object C)) (h2 : va_RA s c2 (.object C)) : c1 = c2 := by
  obtain ⟨-, -, -, -, -, h1⟩ := h1
  obtain ⟨-, -, -, -, -, h2⟩ := h2
  exact Option.some.inj (h1.symm.trans h2)
/-- a constructor: out of its blank object it makes these cells -/
def kCon (l : Launch) (y : MethodName) (cc : ByteArray) (nl : Nat) (R : Room) (D : va_G) (cA : Nat → ClassId) (ci : Nat) (fs0 : List Value) (cs : (Nat → Nat) → va_W) : Prop :=
  ∀ (h0 sz : Nat), Met l y (Cond.code y cc nl none :: zTs) R
    (va_Pc [.ref h0] (fun U => U.heap.size = sz ∧ va_P D vwCl [(h0, .inr (ci, fs0))] U.heap ∧ kK D cA U))
    (va_Qv (fun f : Nat → Nat => f 0 = h0) (fun f t => va_P D vwCl (cs f) t.heap ∧ va_D (va_A [(h0, .inr (ci, fs0))] sz) (cs f)) (va_A [(h0, .inr (ci, fs0))] sz)) R.cells R.slots (va_A [(h0, .inr (ci, fs0))] sz)
section K89C
variable {l : Launch} {y : MethodName} {cc : ByteArray} {nl : Nat} {R : Room} {D : va_G} {cA : Nat → ClassId} {ci : Nat} {fs0 : List Value} {cs : (Nat → Nat) → va_W}
/-- its walk, from behind Object's own constructor -/
theorem k_con {idx : Nat} (hy : plainName y.cls = true) (hyn : y.name = "<init>") (hnl : (lg_sl [Value.ref 0]).length ≤ nl) (d0 : decode cc 0 = .ok (.aload_n 0, 1)) (d1 : decode cc 1 = .ok (.invokespecial idx, 3)) (w1 : Cond.methodLink y.cls idx Lib.objectInit ∈ zTs) (hR : 1 ≤ R.frames ∧ 20 ≤ R.locals)
    (body : ∀ (p : Program) (e : Env) (s : State) (m : MethodId) (below : List Frame) (meth : Method) (c : Code) (h0 : Nat) (ls : Array Slot) (A : Nat → Prop) (Q : State → Prop), p.tables.exec = Jvm.exec → c.code = cc → c.maxLocals = nl → s.vm.findClass y.cls = some m.cls → (∀ w ∈ zTs, w.before #[Value.ref h0] s = true) → meth.name = "<init>" → kK D cA s → va_P D vwCl [(h0, .inr (ci, fs0))] s.heap → va_D A [(h0, .inr (ci, fs0))] → va_S A s.heap s.heap [] → (∀ q, s.heap.size ≤ q → A q) → lv_has ls nl [(0, .ref h0)] →
      (∀ (pc : Nat) (ls : Array Slot) (H : Heap) (locs : List Loc) (f : Nat → Nat), decode cc pc = .ok (.return_, 1) → f 0 = h0 → va_P D vwCl (cs f) H → va_D A (cs f) → va_S A s.heap H locs → W p l e R s m #[Value.ref h0] below meth c H locs R.cells R.slots Q (F0 m pc ls [])) →
      W p l e R s m #[Value.ref h0] below meth c s.heap [] 0 0 Q (F0 m 4 ls [])) : kCon l y cc nl R D cA ci fs0 cs := by
  intro h0 sz
  refine Met.ofW (cc := cc) (maxL := nl) (ret := none) hy rfl ?_
  intro p e s m args below meth c s₁ B hml hv
  obtain ⟨rfl, hsz, hP, hK⟩ := hv
  have hts0 := atoms_spec (ws := Cond.code y cc nl none :: zTs) B.pre
  have hts : ∀ w ∈ zTs, w.before #[Value.ref h0] s = true := fun w hw => hts0 w (List.mem_cons_of_mem _ hw)
  have hown : s.vm.findClass y.cls = some m.cls := findClass_of_methodNamed B.named
  subst hsz
  have hl := lv_entry ([.ref h0]) (n := nl) (show (lg_sl [Value.ref h0]).length ≤ nl from hnl)
  rw [lg_entry_eq]
  generalize (lg_sl ([.ref h0]) ++ List.replicate (nl - (lg_sl ([.ref h0])).length) Slot.unset).toArray = ls at hl ⊢
  have hl : lv_has ls nl [(0, .ref h0)] := hl
  refine lv_aload_n B.exec B.bytes d0 rfl (lv_at hl 0 rfl) ?_
  refine W.objInit B.exec B.bytes hown (hts _ w1) (hts _ k_oi) (hts _ k_oc) rfl (by rw [hml]; exact hl.1) rfl d1 hR.1 (Nat.le_trans (Nat.le_of_ble_eq_true rfl) hR.2) ?_
  refine W.eq (g2 := F0 m 4 ls []) rfl ?_
  have hA0 : va_A [(h0, (.inr (ci, fs0) : va_E))] s.heap.size h0 := Or.inl ⟨0, _, rfl⟩
  refine body p e s m below meth c h0 ls (va_A [(h0, .inr (ci, fs0))] s.heap.size) _ B.exec B.bytes hml hown hts ((name_of_methodNamed B.named B.method).1.trans hyn) hK hP (k_d1 hA0) va_S.rf (fun q h => Or.inr h) hl ?_
  intro pc ls H locs f hd hf hP hD hS
  have hlocks := B.notSynchronized
  exact W.vret B.exec B.bytes B.returns (fun t ht hW => ⟨⟨f, rfl, hf, by rw [ht]; exact hP, hD⟩, hS.F ht⟩) hS.2.2 hd
/-- a call of a constructor -/
theorem k_call {y2 : MethodName} {cc2 : ByteArray} {nl2 : Nat} {R2 : Room} {ci2 : Nat} {fs2 : List Value} {cs2 : (Nat → Nat) → va_W} {p : Program} {e : Env} {s : State} {m : MethodId} {args : Array Value} {below : List Frame} {meth : Method} {c : Code} {H : Heap} {locs : List Loc} {cells slots : Nat} {Q : State → Prop} {own : String} {index pc q : Nat} {ls : Array Slot} {rest : List Value} {A : Nat → Prop} {wr : va_W}
    (hx : p.tables.exec = Jvm.exec) (hb : c.code = cc) (hml : c.maxLocals = nl) (hown : s.vm.findClass own = some m.cls) (hts : ∀ w ∈ zTs, w.before args s = true) (hcon : kCon l y2 cc2 nl2 R2 D cA ci2 fs2 cs2) (hK : kK D cA s) (hP : va_P D vwCl (wr ++ [(q, .inr (ci2, fs2))]) H) (hD : va_D A (wr ++ [(q, .inr (ci2, fs2))])) (hS : va_S A s.heap H locs) (hA : ∀ q, s.heap.size ≤ q → A q)
    (w1 : Cond.methodLink own index y2 ∈ zTs) (w2 : Cond.instanceMethod y2 ∈ zTs) (w3 : Cond.initialized y2.cls ∈ zTs) (w5 : Cond.code y2 cc2 nl2 none ∈ zTs) (hy1 : y2.name = "<init>") (hd2 : y2.cls ≠ "java/lang/invoke/MethodHandle" ∧ y2.cls ≠ "java/lang/invoke/VarHandle" ∧ (parseMethodDescriptor y2.desc).map (fun d => d.parameters.length) = some 0) (hR : R2.frames + 1 ≤ R.frames ∧ 8 + (nl2 + 11) + R2.locals ≤ R.locals) (hrest : (rest.map fun v => v.category).sum ≤ 8) (hsz : ls.size = nl) (hdg : decode cc pc = .ok (.invokespecial index, 3)) (hc : cells + R2.cells ≤ R.cells) (hs : slots + R2.slots ≤ R.slots)
    (kk : ∀ (f : Nat → Nat) (H1 : Heap) (locs1 : List Loc), f 0 = q → va_P D vwCl (wr ++ cs2 f) H1 → va_D A (wr ++ cs2 f) → va_S A s.heap H1 locs1 → W p l e R s m args below meth c H1 locs1 (cells + R2.cells) (slots + R2.slots) Q (F0 m (pc + 3) ls rest)) :
    W p l e R s m args below meth c H locs cells slots Q (F0 m pc ls (.ref q :: rest)) := by
  have hPc := k_pr hP
  have hq : A q := hD.2 wr.length (q, .inr (ci2, fs2)) (by rw [List.getElem?_append_right (Nat.le_refl _), Nat.sub_self]; rfl)
  have hFc : ∀ x, va_A [(q, (.inr (ci2, fs2) : va_E))] H.size x → A x := by
    rintro x (⟨k, e, h⟩ | h)
    · cases k with
      | zero => cases h; exact hq
      | succ k => cases h
    · exact hA x (Nat.le_trans hS.1 h)
  refine va_callv (va_runI (As := []) (rest := rest) ⟨hx, hb, hml, hown, hts⟩ (hcon q H.size) (cwI 0 hts (z_good zTs_good (fun w hw => ?_)) rfl rfl rfl (hts _ w3) (hts _ w1) (hts _ w2) hy1 hd2 hR) ⟨fun a U g mk h => ?_, fun U hU hW => ?_⟩ rfl rfl hsz rfl (lv_room hrest) hdg ⟨hc, hs⟩) hS (fun x _ h => hFc x h) hFc (fun f t H1 locs1 ht hvm hf hB hz1 hk1 hS1 => ?_)
  · rcases List.mem_cons.mp hw with rfl | hw
    · exact w5
    · exact hw
  · obtain ⟨q0, q1, q2, q3⟩ := h
    exact ⟨q0, q1, q2, kK_m (u := U) (U := U.calling g mk a) (Vm.Alike.refl U.vm) q3⟩
  · exact ⟨rfl, by rw [hU], by rw [hU]; exact hPc, kK_m hW.alike hK⟩
  · obtain ⟨hP1, hD1⟩ := hB
    rw [ht] at hP1
    obtain ⟨hP2, hD2⟩ := k_join hP hD hk1 hFc hP1 hD1
    exact kk f H1 locs1 hf hP2 hD2 hS1
end K89C
