/-! fields, arrays, switches of the abstract machine (printed by wip/whole/gen06.py) -/
section Z6
variable {N : Nat} {Ts : List Cond} {Z : (Nat → Nat) → State → Heap → Prop} {own : String} {cc : ByteArray} {nL : Nat} {rt : Option FieldType} {fr lo : Nat} {c2 : Nat → Bool} {P : Nat → Nat} {ip : Nat}
theorem z_cel_obj {ad : Nat → Nat} {cA : Nat → ClassId} {k : Nat} {mem : Mm} {ci : Nat} (h0 : (z_sh k).1 = 0) (h1 : (z_sh k).2.1 = ci) : z_cel ad cA k mem = .inr (ci, (z_fvs k mem 0 (z_sh k).2.2).map (z_cv ad)) := by
  unfold z_cel
  rw [if_pos h0, h1]
theorem z_cel_ints {ad : Nat → Nat} {cA : Nat → ClassId} {k : Nat} {mem : Mm} {t : Nat} (h0 : (z_sh k).1 = t) (ht : ¬ t = 0 ∧ ¬ t = 4 ∧ ¬ 5 ≤ t) : z_cel ad cA k mem = .inl (cA t, (z_sh k).2.1, .inl (mem.1 k)) := by
  unfold z_cel
  rw [h0, if_neg ht.1, if_neg ht.2.1, if_neg ht.2.2]
theorem z_cel_longs {ad : Nat → Nat} {cA : Nat → ClassId} {k : Nat} {mem : Mm} (h0 : (z_sh k).1 = 4) : z_cel ad cA k mem = .inl (cA 4, (z_sh k).2.1, .inr (.inl (mem.2.1 k))) := by
  unfold z_cel
  rw [h0, if_neg (by decide), if_pos rfl]
theorem z_cel_refs {ad : Nat → Nat} {cA : Nat → ClassId} {k : Nat} {mem : Mm} {t : Nat} (h0 : (z_sh k).1 = t) (ht : ¬ t = 0 ∧ ¬ t = 4 ∧ 5 ≤ t) : z_cel ad cA k mem = .inl (cA t, (z_sh k).2.1, .inr (.inr (.inr (.inr fun j => ((z_sh k).2.2[j]?).map ad)))) := by
  unfold z_cel
  rw [h0, if_neg ht.1, if_neg ht.2.1, if_pos ht.2.2]
theorem z_up_ne {α : Type} {f : Nat → Nat → α} {k j : Nat} {x : α} (a : Nat) (h : a ≠ k) : f a = z_up f k j x a := by
  funext b
  simp [z_up, h]
theorem z_up_eq {α : Type} {f : Nat → Nat → α} {k j : Nat} {x : α} : z_up f k j x k = fun b => if b = j then x else f k b := by
  funext b
  simp [z_up]
theorem z_fvs_put {ad : Nat → Nat} {k j : Nat} {m1 m2 : Mm} {v : Value} {cs : List Nat} (hj : ∀ c, cs[j]? = some c → z_fv k m2 c j = v) (ho : ∀ i c, i ≠ j → z_fv k m2 c i = z_fv k m1 c i) : ((z_fvs k m1 0 cs).map (z_cv ad)).set j (z_cv ad v) = (z_fvs k m2 0 cs).map (z_cv ad) := by
  apply List.ext_getElem?
  intro i
  rw [List.getElem?_set, List.getElem?_map, List.getElem?_map, z_fvs_at, z_fvs_at, Nat.zero_add]
  by_cases hi : j = i
  · subst hi
    rw [if_pos rfl, List.length_map, z_fvs_len]
    cases hc : cs[j]? with
    | none =>
      have : ¬ j < cs.length := fun h => by rw [List.getElem?_eq_getElem h] at hc; cases hc
      rw [if_neg this]; rfl
    | some c =>
      have : j < cs.length := (List.getElem?_eq_some_iff.mp hc).1
      rw [if_pos this]
      simp only [Option.map_some]
      rw [hj c hc]
  · rw [if_neg hi]
    cases hc : cs[i]? with
    | none => rfl
    | some c =>
      simp only [Option.map_some]
      rw [ho i c (Ne.symm hi)]
theorem z_up_out {f : Nat → Nat → Int32} {k j : Nat} {x : Int32} : upd (f k) j x = z_up f k j x k := by
  funext b
  simp only [upd, z_up, if_true]
theorem z_upL_out {f : Nat → Nat → Int64} {k j : Nat} {x : Int64} : vp_updL (f k) j x = z_up f k j x k := by
  funext b
  simp only [vp_updL, z_up, if_true]
def i_getf (N ci j : Nat) : Ico := fun ip x => match x with
  | (L, .ref k :: st, mem) => if k < N ∧ (z_sh k).1 = 0 ∧ (z_sh k).2.1 = ci then (match (z_sh k).2.2[j]? with
    | some c => some (ip + 1, L, z_fv k mem c j :: st, mem)
    | none => none) else none
  | _ => none
theorem sp_getf {ci j index : Nat} {C : String} {T : u_T} {Nf : Nat} (hd : decode cc (P ip) = .ok (.getfield index, 3)) (hc : vwCl[ci]? = some (C, T, Nf)) (hin : ∀ w ∈ u_ws C T Nf, w ∈ Ts) (hj : j < Nf) (hw : Cond.fieldLink own index (T j).1 (T j).2.1 (T j).2.2.1 ∈ Ts) (hp : P (ip + 1) = P ip + 3) : z_SP N Ts Z own cc nL rt fr lo c2 P ip (i_getf N ci j) := by
  refine ⟨?_, ?_⟩
  · intro x ip' x' hf
    unfold i_getf at hf
    (repeat' split at hf) <;> first | (cases hf; rfl) | (cases hf)
  · intro p l e R s m args below meth c Q ad D cA kE CE SE C x ip' x' hf k
    obtain ⟨hx, hb, hml, hown, hts, hr, hlk, hfr, hlo, hinj, hK, hZ, hCE, hSE⟩ := C
    unfold i_getf at hf
    (repeat' split at hf) <;> first | (cases hf; done) | skip
    all_goals cases hf
    all_goals intro H locs sl cells slots h1 h2 hP hS hL
    rename_i L q st mem hq o c hc9
    refine va_get (N := Nf) hx hb hts hin hown hK hP q (by rw [z_W_at hq.1, z_cel_obj hq.2.1 hq.2.2]) hc j hj (hts _ hw) (fun _ h9 => h9) (v := z_cv ad (z_fv q mem c j)) (by rw [List.getElem?_map, z_fvs_at, hc9, Nat.zero_add]; rfl) hd ?_
    rw [← hp]
    exact k H locs sl cells slots h1 h2 hP hS hL
def i_putI (N ci j : Nat) : Ico := fun ip x => match x with
  | (L, .int v :: .ref k :: st, mem) => if k < N ∧ (z_sh k).1 = 0 ∧ (z_sh k).2.1 = ci ∧ (z_sh k).2.2[j]? = some 0 then some (ip + 1, L, st, (z_up mem.1 k j v, mem.2.1, mem.2.2)) else none
  | _ => none
theorem sp_putI {ci j index : Nat} {C : String} {T : u_T} {Nf : Nat} {ty0 : Nat → FieldType} (hd : decode cc (P ip) = .ok (.putfield index, 3)) (hc : vwCl[ci]? = some (C, T, Nf)) (hin : ∀ w ∈ u_ws C T Nf, w ∈ Ts) (hty : ∀ k, k < Nf → parseFieldDescriptor (T k).2.2.1 = some (ty0 k)) (hnm : ∀ a, a < Nf → ∀ b, b < Nf → a ≠ b → (T a).2.1 ≠ (T b).2.1) (hj : j < Nf) (hw : Cond.fieldLink own index (T j).1 (T j).2.1 (T j).2.2.1 ∈ Ts) (hfin : (T j).2.2.2 = false) (hpd : parseFieldDescriptor (T j).2.2.1 = some .int) (hp : P (ip + 1) = P ip + 3) : z_SP N Ts Z own cc nL rt fr lo c2 P ip (i_putI N ci j) := by
  refine ⟨?_, ?_⟩
  · intro x ip' x' hf
    unfold i_putI at hf
    (repeat' split at hf) <;> first | (cases hf; rfl) | (cases hf)
  · intro p l e R s m args below meth c Q ad D cA kE CE SE C x ip' x' hf k
    obtain ⟨hx, hb, hml, hown, hts, hr, hlk, hfr, hlo, hinj, hK, hZ, hCE, hSE⟩ := C
    unfold i_putI at hf
    (repeat' split at hf) <;> first | (cases hf; done) | skip
    all_goals cases hf
    all_goals intro H locs sl cells slots h1 h2 hP hS hL
    rename_i L v q st mem hq
    have hlen : j < ((z_fvs q mem 0 (z_sh q).2.2).map (z_cv ad)).length := by
      rw [List.length_map, z_fvs_len]
      exact (List.getElem?_eq_some_iff.mp hq.2.2.2).1
    refine va_put (N := Nf) (v := .int v) hx hb hts hin ty0 hty hnm hown hK hP (z_D hinj) hS q (by rw [z_W_at hq.1, z_cel_obj hq.2.1 hq.2.2.1]) hc j hj (hts _ hw) (fun _ h9 => h9) hfin hpd rfl rfl hlen hd (fun H1 locs1 hP1 hD1 hS1 => ?_)
    rw [← hp]
    refine k H1 locs1 sl cells slots h1 h2 ?_ hS1 hL
    rw [z_W_set hq.1 (m2 := (z_up mem.1 q j v, mem.2.1, mem.2.2)) (by intro a ha; exact z_up_ne a ha) (by intro a _; rfl)] at hP1
    · exact hP1
    · rw [z_cel_obj hq.2.1 hq.2.2.1]
      congr 2
      refine z_fvs_put (v := .int v) (fun c hc9 => ?_) (fun i c hi => ?_)
      · rw [hq.2.2.2] at hc9
        cases hc9
        simp [z_fv, z_up]
      · unfold z_fv
        split <;> simp [z_up, hi]
def i_putZ (N ci j : Nat) : Ico := fun ip x => match x with
  | (L, .int v :: .ref k :: st, mem) => if k < N ∧ (z_sh k).1 = 0 ∧ (z_sh k).2.1 = ci ∧ (z_sh k).2.2[j]? = some 0 ∧ v &&& 1 = v then some (ip + 1, L, st, (z_up mem.1 k j v, mem.2.1, mem.2.2)) else none
  | _ => none
theorem sp_putZ {ci j index : Nat} {C : String} {T : u_T} {Nf : Nat} {ty0 : Nat → FieldType} (hd : decode cc (P ip) = .ok (.putfield index, 3)) (hc : vwCl[ci]? = some (C, T, Nf)) (hin : ∀ w ∈ u_ws C T Nf, w ∈ Ts) (hty : ∀ k, k < Nf → parseFieldDescriptor (T k).2.2.1 = some (ty0 k)) (hnm : ∀ a, a < Nf → ∀ b, b < Nf → a ≠ b → (T a).2.1 ≠ (T b).2.1) (hj : j < Nf) (hw : Cond.fieldLink own index (T j).1 (T j).2.1 (T j).2.2.1 ∈ Ts) (hfin : (T j).2.2.2 = false) (hpd : parseFieldDescriptor (T j).2.2.1 = some .boolean) (hp : P (ip + 1) = P ip + 3) : z_SP N Ts Z own cc nL rt fr lo c2 P ip (i_putZ N ci j) := by
  refine ⟨?_, ?_⟩
  · intro x ip' x' hf
    unfold i_putZ at hf
    (repeat' split at hf) <;> first | (cases hf; rfl) | (cases hf)
  · intro p l e R s m args below meth c Q ad D cA kE CE SE C x ip' x' hf k
    obtain ⟨hx, hb, hml, hown, hts, hr, hlk, hfr, hlo, hinj, hK, hZ, hCE, hSE⟩ := C
    unfold i_putZ at hf
    (repeat' split at hf) <;> first | (cases hf; done) | skip
    all_goals cases hf
    all_goals intro H locs sl cells slots h1 h2 hP hS hL
    rename_i L v q st mem hq
    have hlen : j < ((z_fvs q mem 0 (z_sh q).2.2).map (z_cv ad)).length := by
      rw [List.length_map, z_fvs_len]
      exact (List.getElem?_eq_some_iff.mp hq.2.2.2.1).1
    refine va_put (N := Nf) (v := .int v) hx hb hts hin ty0 hty hnm hown hK hP (z_D hinj) hS q (by rw [z_W_at hq.1, z_cel_obj hq.2.1 hq.2.2.1]) hc j hj (hts _ hw) (fun _ h9 => h9) hfin hpd (by show Value.int (v &&& 1) = _; rw [hq.2.2.2.2]) (by have h9 := fits_narrow_boolean v; rw [show narrow .boolean (.int v) = .int v from (by show Value.int (v &&& 1) = _; rw [hq.2.2.2.2])] at h9; exact h9) hlen hd (fun H1 locs1 hP1 hD1 hS1 => ?_)
    rw [← hp]
    refine k H1 locs1 sl cells slots h1 h2 ?_ hS1 hL
    rw [z_W_set hq.1 (m2 := (z_up mem.1 q j v, mem.2.1, mem.2.2)) (by intro a ha; exact z_up_ne a ha) (by intro a _; rfl)] at hP1
    · exact hP1
    · rw [z_cel_obj hq.2.1 hq.2.2.1]
      congr 2
      refine z_fvs_put (v := .int v) (fun c hc9 => ?_) (fun i c hi => ?_)
      · rw [hq.2.2.2.1] at hc9
        cases hc9
        simp [z_fv, z_up]
      · unfold z_fv
        split <;> simp [z_up, hi]
def i_putL (N ci j : Nat) : Ico := fun ip x => match x with
  | (L, .long v :: .ref k :: st, mem) => if k < N ∧ (z_sh k).1 = 0 ∧ (z_sh k).2.1 = ci ∧ (z_sh k).2.2[j]? = some 1 then some (ip + 1, L, st, (mem.1, z_up mem.2.1 k j v, mem.2.2)) else none
  | _ => none
theorem sp_putL {ci j index : Nat} {C : String} {T : u_T} {Nf : Nat} {ty0 : Nat → FieldType} (hd : decode cc (P ip) = .ok (.putfield index, 3)) (hc : vwCl[ci]? = some (C, T, Nf)) (hin : ∀ w ∈ u_ws C T Nf, w ∈ Ts) (hty : ∀ k, k < Nf → parseFieldDescriptor (T k).2.2.1 = some (ty0 k)) (hnm : ∀ a, a < Nf → ∀ b, b < Nf → a ≠ b → (T a).2.1 ≠ (T b).2.1) (hj : j < Nf) (hw : Cond.fieldLink own index (T j).1 (T j).2.1 (T j).2.2.1 ∈ Ts) (hfin : (T j).2.2.2 = false) (hpd : parseFieldDescriptor (T j).2.2.1 = some .long) (hp : P (ip + 1) = P ip + 3) : z_SP N Ts Z own cc nL rt fr lo c2 P ip (i_putL N ci j) := by
  refine ⟨?_, ?_⟩
  · intro x ip' x' hf
    unfold i_putL at hf
    (repeat' split at hf) <;> first | (cases hf; rfl) | (cases hf)
  · intro p l e R s m args below meth c Q ad D cA kE CE SE C x ip' x' hf k
    obtain ⟨hx, hb, hml, hown, hts, hr, hlk, hfr, hlo, hinj, hK, hZ, hCE, hSE⟩ := C
    unfold i_putL at hf
    (repeat' split at hf) <;> first | (cases hf; done) | skip
    all_goals cases hf
    all_goals intro H locs sl cells slots h1 h2 hP hS hL
    rename_i L v q st mem hq
    have hlen : j < ((z_fvs q mem 0 (z_sh q).2.2).map (z_cv ad)).length := by
      rw [List.length_map, z_fvs_len]
      exact (List.getElem?_eq_some_iff.mp hq.2.2.2).1
    refine va_put (N := Nf) (v := .long v) hx hb hts hin ty0 hty hnm hown hK hP (z_D hinj) hS q (by rw [z_W_at hq.1, z_cel_obj hq.2.1 hq.2.2.1]) hc j hj (hts _ hw) (fun _ h9 => h9) hfin hpd rfl rfl hlen hd (fun H1 locs1 hP1 hD1 hS1 => ?_)
    rw [← hp]
    refine k H1 locs1 sl cells slots h1 h2 ?_ hS1 hL
    rw [z_W_set hq.1 (m2 := (mem.1, z_up mem.2.1 q j v, mem.2.2)) (by intro a _; rfl) (by intro a ha; exact z_up_ne a ha)] at hP1
    · exact hP1
    · rw [z_cel_obj hq.2.1 hq.2.2.1]
      congr 2
      refine z_fvs_put (v := .long v) (fun c hc9 => ?_) (fun i c hi => ?_)
      · rw [hq.2.2.2] at hc9
        cases hc9
        simp [z_fv, z_up]
      · unfold z_fv
        split <;> simp [z_up, hi]
def i_iald (N : Nat) : Ico := fun ip x => match x with
  | (L, .int i :: .ref k :: st, mem) => if k < N ∧ (z_sh k).1 = 1 then (if i < 0 ∨ (z_sh k).2.1 ≤ i.toNatClampNeg then none else some (ip + 1, L, .int (mem.1 k i.toNatClampNeg) :: st, mem)) else none
  | _ => none
theorem sp_iald  (hd : decode cc (P ip) = .ok (.iaload, 1)) (hp : P (ip + 1) = P ip + 1) : z_SP N Ts Z own cc nL rt fr lo c2 P ip (i_iald N) := by
  refine ⟨?_, ?_⟩
  · intro x ip' x' hf
    unfold i_iald at hf
    (repeat' split at hf) <;> first | (cases hf; rfl) | (cases hf)
  · intro p l e R s m args below meth c Q ad D cA kE CE SE C x ip' x' hf k
    obtain ⟨hx, hb, hml, hown, hts, hr, hlk, hfr, hlo, hinj, hK, hZ, hCE, hSE⟩ := C
    unfold i_iald at hf
    (repeat' split at hf) <;> first | (cases hf; done) | skip
    all_goals cases hf
    all_goals intro H locs sl cells slots h1 h2 hP hS hL
    rename_i L i q st mem hq hi
    refine va_iald hx hb hK hP q 0 (by rw [z_W_at hq.1, z_cel_ints hq.2 (by decide)]) rfl hi hd ?_
    rw [← hp]
    exact k H locs sl cells slots h1 h2 hP hS hL
def i_bald (N : Nat) : Ico := fun ip x => match x with
  | (L, .int i :: .ref k :: st, mem) => if k < N ∧ (z_sh k).1 = 2 then (if i < 0 ∨ (z_sh k).2.1 ≤ i.toNatClampNeg then none else some (ip + 1, L, .int (mem.1 k i.toNatClampNeg) :: st, mem)) else none
  | _ => none
theorem sp_bald  (hd : decode cc (P ip) = .ok (.baload, 1)) (hp : P (ip + 1) = P ip + 1) : z_SP N Ts Z own cc nL rt fr lo c2 P ip (i_bald N) := by
  refine ⟨?_, ?_⟩
  · intro x ip' x' hf
    unfold i_bald at hf
    (repeat' split at hf) <;> first | (cases hf; rfl) | (cases hf)
  · intro p l e R s m args below meth c Q ad D cA kE CE SE C x ip' x' hf k
    obtain ⟨hx, hb, hml, hown, hts, hr, hlk, hfr, hlo, hinj, hK, hZ, hCE, hSE⟩ := C
    unfold i_bald at hf
    (repeat' split at hf) <;> first | (cases hf; done) | skip
    all_goals cases hf
    all_goals intro H locs sl cells slots h1 h2 hP hS hL
    rename_i L i q st mem hq hi
    refine va_bald hx hb hK hP q 1 (by rw [z_W_at hq.1, z_cel_ints hq.2 (by decide)]) rfl hi hd ?_
    rw [← hp]
    exact k H locs sl cells slots h1 h2 hP hS hL
def i_zald (N : Nat) : Ico := fun ip x => match x with
  | (L, .int i :: .ref k :: st, mem) => if k < N ∧ (z_sh k).1 = 3 then (if i < 0 ∨ (z_sh k).2.1 ≤ i.toNatClampNeg then none else some (ip + 1, L, .int (mem.1 k i.toNatClampNeg) :: st, mem)) else none
  | _ => none
theorem sp_zald  (hd : decode cc (P ip) = .ok (.baload, 1)) (hp : P (ip + 1) = P ip + 1) : z_SP N Ts Z own cc nL rt fr lo c2 P ip (i_zald N) := by
  refine ⟨?_, ?_⟩
  · intro x ip' x' hf
    unfold i_zald at hf
    (repeat' split at hf) <;> first | (cases hf; rfl) | (cases hf)
  · intro p l e R s m args below meth c Q ad D cA kE CE SE C x ip' x' hf k
    obtain ⟨hx, hb, hml, hown, hts, hr, hlk, hfr, hlo, hinj, hK, hZ, hCE, hSE⟩ := C
    unfold i_zald at hf
    (repeat' split at hf) <;> first | (cases hf; done) | skip
    all_goals cases hf
    all_goals intro H locs sl cells slots h1 h2 hP hS hL
    rename_i L i q st mem hq hi
    refine va_zald hx hb hK hP q 2 (by rw [z_W_at hq.1, z_cel_ints hq.2 (by decide)]) rfl hi hd ?_
    rw [← hp]
    exact k H locs sl cells slots h1 h2 hP hS hL
def i_aald (N : Nat) : Ico := fun ip x => match x with
  | (L, .int i :: .ref k :: st, mem) => if k < N ∧ ((z_sh k).1 = 5 ∨ (z_sh k).1 = 6) then (if i < 0 ∨ (z_sh k).2.1 ≤ i.toNatClampNeg then none else (match (z_sh k).2.2[i.toNatClampNeg]? with
    | some r => some (ip + 1, L, .ref r :: st, mem)
    | none => none)) else none
  | _ => none
theorem sp_aald  (hd : decode cc (P ip) = .ok (.aaload, 1)) (hp : P (ip + 1) = P ip + 1) : z_SP N Ts Z own cc nL rt fr lo c2 P ip (i_aald N) := by
  refine ⟨?_, ?_⟩
  · intro x ip' x' hf
    unfold i_aald at hf
    (repeat' split at hf) <;> first | (cases hf; rfl) | (cases hf)
  · intro p l e R s m args below meth c Q ad D cA kE CE SE C x ip' x' hf k
    obtain ⟨hx, hb, hml, hown, hts, hr, hlk, hfr, hlo, hinj, hK, hZ, hCE, hSE⟩ := C
    unfold i_aald at hf
    (repeat' split at hf) <;> first | (cases hf; done) | skip
    all_goals cases hf
    all_goals intro H locs sl cells slots h1 h2 hP hS hL
    rename_i L i q st mem hq hi o r hr9
    have hv : va_rf (((z_sh q).2.2[i.toNatClampNeg]?).map ad) = .ref (ad r) := by rw [hr9]; rfl
    rcases hq.2 with h5 | h6
    · refine va_aldq hx hb hK hP q 4 (by rw [z_W_at hq.1, z_cel_refs h5 (by decide)]) rfl hi hd ?_
      rw [← hp, hv]
      exact k H locs sl cells slots h1 h2 hP hS hL
    · refine va_aldq hx hb hK hP q 5 (by rw [z_W_at hq.1, z_cel_refs h6 (by decide)]) rfl hi hd ?_
      rw [← hp, hv]
      exact k H locs sl cells slots h1 h2 hP hS hL
def i_iast (N : Nat) : Ico := fun ip x => match x with
  | (L, .int v :: .int i :: .ref k :: st, mem) => if k < N ∧ (z_sh k).1 = 1 then (if i < 0 ∨ (z_sh k).2.1 ≤ i.toNatClampNeg then none else some (ip + 1, L, st, (z_up mem.1 k i.toNatClampNeg v, mem.2.1, mem.2.2))) else none
  | _ => none
theorem sp_iast  (hd : decode cc (P ip) = .ok (.iastore, 1)) (hp : P (ip + 1) = P ip + 1) : z_SP N Ts Z own cc nL rt fr lo c2 P ip (i_iast N) := by
  refine ⟨?_, ?_⟩
  · intro x ip' x' hf
    unfold i_iast at hf
    (repeat' split at hf) <;> first | (cases hf; rfl) | (cases hf)
  · intro p l e R s m args below meth c Q ad D cA kE CE SE C x ip' x' hf k
    obtain ⟨hx, hb, hml, hown, hts, hr, hlk, hfr, hlo, hinj, hK, hZ, hCE, hSE⟩ := C
    unfold i_iast at hf
    (repeat' split at hf) <;> first | (cases hf; done) | skip
    all_goals cases hf
    all_goals intro H locs sl cells slots h1 h2 hP hS hL
    rename_i L v i q st mem hq hi
    refine va_iast hx hb hK hP (z_D hinj) hS q 0 (by rw [z_W_at hq.1, z_cel_ints hq.2 (by decide)]) rfl hi hd (fun H1 locs1 hP1 hD1 hS1 => ?_)
    rw [← hp]
    refine k H1 locs1 sl cells slots h1 h2 ?_ hS1 hL
    rw [z_W_set hq.1 (m2 := (z_up mem.1 q i.toNatClampNeg v, mem.2.1, mem.2.2)) (by intro a ha; exact z_up_ne a ha) (by intro a _; rfl)] at hP1
    · exact hP1
    · rw [z_cel_ints hq.2 (by decide), z_up_out]
def i_bast (N : Nat) : Ico := fun ip x => match x with
  | (L, .int v :: .int i :: .ref k :: st, mem) => if k < N ∧ (z_sh k).1 = 2 then (if i < 0 ∨ (z_sh k).2.1 ≤ i.toNatClampNeg then none else some (ip + 1, L, st, (z_up mem.1 k i.toNatClampNeg (vp_nar .byte v), mem.2.1, mem.2.2))) else none
  | _ => none
theorem sp_bast  (hd : decode cc (P ip) = .ok (.bastore, 1)) (hp : P (ip + 1) = P ip + 1) : z_SP N Ts Z own cc nL rt fr lo c2 P ip (i_bast N) := by
  refine ⟨?_, ?_⟩
  · intro x ip' x' hf
    unfold i_bast at hf
    (repeat' split at hf) <;> first | (cases hf; rfl) | (cases hf)
  · intro p l e R s m args below meth c Q ad D cA kE CE SE C x ip' x' hf k
    obtain ⟨hx, hb, hml, hown, hts, hr, hlk, hfr, hlo, hinj, hK, hZ, hCE, hSE⟩ := C
    unfold i_bast at hf
    (repeat' split at hf) <;> first | (cases hf; done) | skip
    all_goals cases hf
    all_goals intro H locs sl cells slots h1 h2 hP hS hL
    rename_i L v i q st mem hq hi
    refine va_bast hx hb hK hP (z_D hinj) hS q 1 (by rw [z_W_at hq.1, z_cel_ints hq.2 (by decide)]) rfl hi hd (fun H1 locs1 hP1 hD1 hS1 => ?_)
    rw [← hp]
    refine k H1 locs1 sl cells slots h1 h2 ?_ hS1 hL
    rw [z_W_set hq.1 (m2 := (z_up mem.1 q i.toNatClampNeg (vp_nar .byte v), mem.2.1, mem.2.2)) (by intro a ha; exact z_up_ne a ha) (by intro a _; rfl)] at hP1
    · exact hP1
    · rw [z_cel_ints hq.2 (by decide), z_up_out]
def i_zast (N : Nat) : Ico := fun ip x => match x with
  | (L, .int v :: .int i :: .ref k :: st, mem) => if k < N ∧ (z_sh k).1 = 3 then (if i < 0 ∨ (z_sh k).2.1 ≤ i.toNatClampNeg then none else some (ip + 1, L, st, (z_up mem.1 k i.toNatClampNeg (vp_nar .boolean v), mem.2.1, mem.2.2))) else none
  | _ => none
theorem sp_zast  (hd : decode cc (P ip) = .ok (.bastore, 1)) (hp : P (ip + 1) = P ip + 1) : z_SP N Ts Z own cc nL rt fr lo c2 P ip (i_zast N) := by
  refine ⟨?_, ?_⟩
  · intro x ip' x' hf
    unfold i_zast at hf
    (repeat' split at hf) <;> first | (cases hf; rfl) | (cases hf)
  · intro p l e R s m args below meth c Q ad D cA kE CE SE C x ip' x' hf k
    obtain ⟨hx, hb, hml, hown, hts, hr, hlk, hfr, hlo, hinj, hK, hZ, hCE, hSE⟩ := C
    unfold i_zast at hf
    (repeat' split at hf) <;> first | (cases hf; done) | skip
    all_goals cases hf
    all_goals intro H locs sl cells slots h1 h2 hP hS hL
    rename_i L v i q st mem hq hi
    refine va_zast hx hb hK hP (z_D hinj) hS q 2 (by rw [z_W_at hq.1, z_cel_ints hq.2 (by decide)]) rfl hi hd (fun H1 locs1 hP1 hD1 hS1 => ?_)
    rw [← hp]
    refine k H1 locs1 sl cells slots h1 h2 ?_ hS1 hL
    rw [z_W_set hq.1 (m2 := (z_up mem.1 q i.toNatClampNeg (vp_nar .boolean v), mem.2.1, mem.2.2)) (by intro a ha; exact z_up_ne a ha) (by intro a _; rfl)] at hP1
    · exact hP1
    · rw [z_cel_ints hq.2 (by decide), z_up_out]
def i_alen (N : Nat) : Ico := fun ip x => match x with
  | (L, .ref k :: st, mem) => if k < N ∧ (z_sh k).1 = 1 then some (ip + 1, L, .int (Int32.ofNat (z_sh k).2.1) :: st, mem) else none
  | _ => none
theorem sp_alen  (hd : decode cc (P ip) = .ok (.arraylength, 1)) (hp : P (ip + 1) = P ip + 1) : z_SP N Ts Z own cc nL rt fr lo c2 P ip (i_alen N) := by
  refine ⟨?_, ?_⟩
  · intro x ip' x' hf
    unfold i_alen at hf
    (repeat' split at hf) <;> first | (cases hf; rfl) | (cases hf)
  · intro p l e R s m args below meth c Q ad D cA kE CE SE C x ip' x' hf k
    obtain ⟨hx, hb, hml, hown, hts, hr, hlk, hfr, hlo, hinj, hK, hZ, hCE, hSE⟩ := C
    unfold i_alen at hf
    (repeat' split at hf) <;> first | (cases hf; done) | skip
    all_goals cases hf
    all_goals intro H locs sl cells slots h1 h2 hP hS hL
    rename_i L q st mem hq
    refine va_alen hx hb hK hP q 0 (by rw [z_W_at hq.1, z_cel_ints hq.2 (by decide)]) rfl rfl hd ?_
    rw [← hp]
    exact k H locs sl cells slots h1 h2 hP hS hL
def z_max (a b : Int32) : Int32 := if a < b then b else a
def z_min (a b : Int32) : Int32 := if b < a then b else a
def z_abs (a : Int32) : Int32 := if a < 0 then 0 - a else a
theorem z_sum {st : List Value} {ad : Nat → Nat} {n : Nat} (h : st.length ≤ n) : ((st.map (z_cv ad)).map fun v => v.category).sum ≤ 2 * n := by
  have h1 : ∀ st : List Value, ((st.map (z_cv ad)).map fun v => v.category).sum ≤ 2 * st.length := by
    intro st
    induction st with
    | nil => simp
    | cons v vs ih =>
      have hv : (z_cv ad v).category ≤ 2 := by cases v <;> simp [z_cv, Value.category]
      simp only [List.map_cons, List.sum_cons, List.length_cons]
      omega
  have := h1 st
  omega
def i_mmax : Ico := fun ip x => match x with
  | (L, .int b :: .int a :: st, mem) => if st.length ≤ 4 then some (ip + 1, L, .int (z_max a b) :: st, mem) else none
  | _ => none
theorem sp_mmax {index : Nat} (hd : decode cc (P ip) = .ok (.invokestatic index, 3)) (w1 : Cond.methodLink own index Lib.Math.max.name ∈ Ts) (w2 : Cond.static Lib.Math.max.name ∈ Ts) (w3 : Cond.initialized "java/lang/Math" ∈ Ts) (w4 : Cond.code Lib.Math.max.name Lib.Math.max.code 2 (some .int) ∈ Ts) (hfr1 : 1 ≤ fr) (hlo1 : 21 ≤ lo) (hp : P (ip + 1) = P ip + 3) : z_SP N Ts Z own cc nL rt fr lo c2 P ip (i_mmax) := by
  refine ⟨?_, ?_⟩
  · intro x ip' x' hf
    unfold i_mmax at hf
    (repeat' split at hf) <;> first | (cases hf; rfl) | (cases hf)
  · intro p l e R s m args below meth c Q ad D cA kE CE SE C x ip' x' hf k
    obtain ⟨hx, hb, hml, hown, hts, hr, hlk, hfr, hlo, hinj, hK, hZ, hCE, hSE⟩ := C
    unfold i_mmax at hf
    (repeat' split at hf) <;> first | (cases hf; done) | skip
    all_goals cases hf
    all_goals intro H locs sl cells slots h1 h2 hP hS hL
    rename_i L b a st mem hl
    have hsum := z_sum (ad := ad) hl
    exact (va_mmax hx hb (by rw [hml]; exact hL.1.1.symm) hown (hts _ w1) (hts _ w2) (hts _ w3) (hts _ w4) (by rw [hfr]; exact hfr1) (by rw [hlo]; omega) (by omega) (by omega) hd (by rw [← hp]; exact k H locs sl cells slots h1 h2 hP hS hL))
def i_mmin : Ico := fun ip x => match x with
  | (L, .int b :: .int a :: st, mem) => if st.length ≤ 4 then some (ip + 1, L, .int (z_min a b) :: st, mem) else none
  | _ => none
theorem sp_mmin {index : Nat} (hd : decode cc (P ip) = .ok (.invokestatic index, 3)) (w1 : Cond.methodLink own index Lib.Math.min.name ∈ Ts) (w2 : Cond.static Lib.Math.min.name ∈ Ts) (w3 : Cond.initialized "java/lang/Math" ∈ Ts) (w4 : Cond.code Lib.Math.min.name Lib.Math.min.code 2 (some .int) ∈ Ts) (hfr1 : 1 ≤ fr) (hlo1 : 21 ≤ lo) (hp : P (ip + 1) = P ip + 3) : z_SP N Ts Z own cc nL rt fr lo c2 P ip (i_mmin) := by
  refine ⟨?_, ?_⟩
  · intro x ip' x' hf
    unfold i_mmin at hf
    (repeat' split at hf) <;> first | (cases hf; rfl) | (cases hf)
  · intro p l e R s m args below meth c Q ad D cA kE CE SE C x ip' x' hf k
    obtain ⟨hx, hb, hml, hown, hts, hr, hlk, hfr, hlo, hinj, hK, hZ, hCE, hSE⟩ := C
    unfold i_mmin at hf
    (repeat' split at hf) <;> first | (cases hf; done) | skip
    all_goals cases hf
    all_goals intro H locs sl cells slots h1 h2 hP hS hL
    rename_i L b a st mem hl
    have hsum := z_sum (ad := ad) hl
    exact (va_mmin hx hb (by rw [hml]; exact hL.1.1.symm) hown (hts _ w1) (hts _ w2) (hts _ w3) (hts _ w4) (by rw [hfr]; exact hfr1) (by rw [hlo]; omega) (by omega) (by omega) hd (by rw [← hp]; exact k H locs sl cells slots h1 h2 hP hS hL))
/-- a copy among int arrays -/
def z_upf (f : Nat → Nat → Int32) (k : Nat) (g : Nat → Int32) : Nat → Nat → Int32 := fun a b => if a = k then g b else f a b
def i_acopy (N : Nat) : Ico := fun ip x => match x with
  | (L, .int n :: .int dp :: .ref k1 :: .int sp :: .ref k0 :: st, mem) => if k0 < N ∧ k1 < N ∧ (z_sh k0).1 = 1 ∧ (z_sh k1).1 = 1 ∧ st.length ≤ 0 then (if sp < 0 ∨ dp < 0 ∨ n < 0 ∨ (z_sh k0).2.1 < sp.toNatClampNeg + n.toNatClampNeg ∨ (z_sh k1).2.1 < dp.toNatClampNeg + n.toNatClampNeg then none
      else some (ip + 1, L, st, (z_upf mem.1 k1 (va_cpy (mem.1 k0) (mem.1 k1) sp.toNatClampNeg dp.toNatClampNeg n.toNatClampNeg), mem.2.1, mem.2.2))) else none
  | _ => none
theorem sp_acopy {index : Nat} (hd : decode cc (P ip) = .ok (.invokestatic index, 3)) (w1 : Cond.methodLink own index arraycopyName ∈ Ts) (w2 : Cond.native arraycopyName ∈ Ts) (w3 : Cond.static arraycopyName ∈ Ts) (w4 : Cond.initialized "java/lang/System" ∈ Ts) (hfr1 : 1 ≤ fr) (hlo1 : nativeFrameWords "java/lang/System" "arraycopy" 5 + 11 ≤ lo) (hp : P (ip + 1) = P ip + 3) : z_SP N Ts Z own cc nL rt fr lo c2 P ip (i_acopy N) := by
  refine ⟨?_, ?_⟩
  · intro x ip' x' hf
    unfold i_acopy at hf
    (repeat' split at hf) <;> first | (cases hf; rfl) | (cases hf)
  · intro p l e R s m args below meth c Q ad D cA kE CE SE C x ip' x' hf k
    obtain ⟨hx, hb, hml, hown, hts, hr, hlk, hfr, hlo, hinj, hK, hZ, hCE, hSE⟩ := C
    unfold i_acopy at hf
    (repeat' split at hf) <;> first | (cases hf; done) | skip
    all_goals cases hf
    all_goals intro H locs sl cells slots h1 h2 hP hS hL
    rename_i L n dp q1 sp q0 st mem hq hi
    simp only [not_or] at hi
    have hst : st = [] := List.length_eq_zero_iff.mp (Nat.le_zero.mp hq.2.2.2.2)
    subst hst
    refine va_copyi hx hb (by rw [hml]; exact hL.1.1.symm) hown (hts _ w1) (hts _ w2) (hts _ w3) (hts _ w4) hK hP (z_D hinj) hS q0 q1 0 0 (ty := .int) (by rw [z_W_at hq.1, z_cel_ints hq.2.2.1 (by decide)]) (by rw [z_W_at hq.2.1, z_cel_ints hq.2.2.2.1 (by decide)]) rfl rfl rfl hi.1 hi.2.1 hi.2.2.1 (Nat.not_lt.mp hi.2.2.2.1) (Nat.not_lt.mp hi.2.2.2.2) (fun _ _ => rfl) (by rw [hfr]; exact hfr1) (by rw [hlo]; simpa using hlo1) hd (fun H1 locs1 hP1 hD1 hS1 => ?_)
    rw [← hp]
    refine k H1 locs1 sl cells slots h1 h2 ?_ hS1 hL
    rw [z_W_set hq.2.1 (m2 := (z_upf mem.1 q1 (va_cpy (mem.1 q0) (mem.1 q1) sp.toNatClampNeg dp.toNatClampNeg n.toNatClampNeg), mem.2.1, mem.2.2)) (by intro a ha; funext b; simp [z_upf, ha]) (by intro a _; rfl)] at hP1
    · exact hP1
    · rw [z_cel_ints hq.2.2.2.1 (by decide)]
      congr 4
      funext b
      simp [z_upf]
def i_lsw (g : Int → Nat) : Ico := fun _ x => match x with
  | (L, .int a :: st, mem) => some (g a.toInt, L, st, mem)
  | _ => none
theorem sp_lsw {g : Int → Nat} {dflt : Int} {ps : Array (Int × Int)} {len : Nat} (hd : decode cc (P ip) = .ok (.lookupswitch dflt ps, len)) (hs : (ps.toList.zip (ps.toList.drop 1)).all (fun (a, next) => a.1 < next.1) = true) (ht : ∀ z : Int, (P ip : Int) + Op.lookupswitch.offset ps.toList dflt z = (P (g z) : Int)) : z_SP N Ts Z own cc nL rt fr lo c2 P ip (i_lsw g) := by
  refine ⟨?_, ?_⟩
  · intro x ip' x' hf
    unfold i_lsw at hf
    (repeat' split at hf) <;> first | (cases hf; rfl) | (cases hf)
  · intro p l e R s m args below meth c Q ad D cA kE CE SE C x ip' x' hf k
    obtain ⟨hx, hb, hml, hown, hts, hr, hlk, hfr, hlo, hinj, hK, hZ, hCE, hSE⟩ := C
    unfold i_lsw at hf
    (repeat' split at hf) <;> first | (cases hf; done) | skip
    all_goals cases hf
    all_goals intro H locs sl cells slots h1 h2 hP hS hL
    exact lv_lookup hx hb hd hs rfl (ht _) (k H locs sl cells slots h1 h2 hP hS hL)
def i_tsw (lo0 hi0 : Int) (ts : List Nat) (d : Nat) : Ico := fun _ x => match x with
  | (L, .int a :: st, mem) => if a.toInt < lo0 ∨ hi0 < a.toInt then some (d, L, st, mem) else (match ts[(a.toInt - lo0).toNat]? with
    | some t => some (t, L, st, mem)
    | none => none)
  | _ => none
theorem sp_tsw {lo0 hi0 dflt : Int} {ts : List Nat} {d : Nat} {offs : Array Int} {len : Nat} (hd : decode cc (P ip) = .ok (.tableswitch dflt lo0 hi0 offs, len)) (h0 : (P ip : Int) + dflt = (P d : Int)) (ht : ts.map (fun t => (P t : Int) - (P ip : Int)) = offs.toList) : z_SP N Ts Z own cc nL rt fr lo c2 P ip (i_tsw lo0 hi0 ts d) := by
  refine ⟨?_, ?_⟩
  · intro x ip' x' hf
    unfold i_tsw at hf
    (repeat' split at hf) <;> first | (cases hf; rfl) | (cases hf)
  · intro p l e R s m args below meth c Q ad D cA kE CE SE C x ip' x' hf k
    obtain ⟨hx, hb, hml, hown, hts, hr, hlk, hfr, hlo, hinj, hK, hZ, hCE, hSE⟩ := C
    unfold i_tsw at hf
    (repeat' split at hf) <;> first | (cases hf; done) | skip
    all_goals cases hf
    all_goals intro H locs sl cells slots h1 h2 hP hS hL
    · exact lv_tableOut hx hb hd (by assumption) h0 (k H locs sl cells slots h1 h2 hP hS hL)
    · rename_i mm hn o ht9
      rw [not_or] at hn
      refine lv_tableIn hx hb hd hn.1 hn.2 (off := (P ip' : Int) - (P ip : Int)) ?_ (by omega) (k H locs sl cells slots h1 h2 hP hS hL)
      rw [← Array.getElem?_toList, ← ht, List.getElem?_map, ht9]
      rfl
end Z6
