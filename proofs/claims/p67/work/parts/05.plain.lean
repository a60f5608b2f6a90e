/-! plain instructions of the abstract machine (printed by wip/whole/gen05.py) -/
section Z5
variable {N : Nat} {Ts : List Cond} {Z : (Nat → Nat) → State → Heap → Prop} {own : String} {cc : ByteArray} {nL : Nat} {rt : Option FieldType} {fr lo : Nat} {c2 : Nat → Bool} {P : Nat → Nat} {ip : Nat}
def i_push (v : Value) : Ico := fun ip x => some (ip + 1, x.1, v :: x.2.1, x.2.2)
theorem sp_iconst {n : Int} {v : Int32} (hd : decode cc (P ip) = .ok (.iconst n, 1)) (hv : Int32.ofInt n = v) (hp : P (ip + 1) = P ip + 1) : z_SP N Ts Z own cc nL rt fr lo c2 P ip (i_push (.int v)) := by
  refine ⟨?_, ?_⟩
  · intro x ip' x' hf
    unfold i_push at hf
    (repeat' split at hf) <;> first | (cases hf; rfl) | (cases hf)
  · intro p l e R s m args below meth c Q ad D cA kE CE SE C x ip' x' hf k
    obtain ⟨hx, hb, hml, hown, hts, hr, hlk, hfr, hlo, hinj, hK, hZ, hCE, hSE⟩ := C
    unfold i_push at hf
    (repeat' split at hf) <;> first | (cases hf; done) | skip
    all_goals cases hf
    all_goals intro H locs sl cells slots h1 h2 hP hS hL
    refine lv_iconst hx hb hd hv ?_
    rw [← hp]
    exact k H locs sl cells slots h1 h2 hP hS hL
theorem sp_bipush {n : Int} {v : Int32} (hd : decode cc (P ip) = .ok (.bipush n, 2)) (hv : (Int8.ofInt n).toInt32 = v) (hp : P (ip + 1) = P ip + 2) : z_SP N Ts Z own cc nL rt fr lo c2 P ip (i_push (.int v)) := by
  refine ⟨?_, ?_⟩
  · intro x ip' x' hf
    unfold i_push at hf
    (repeat' split at hf) <;> first | (cases hf; rfl) | (cases hf)
  · intro p l e R s m args below meth c Q ad D cA kE CE SE C x ip' x' hf k
    obtain ⟨hx, hb, hml, hown, hts, hr, hlk, hfr, hlo, hinj, hK, hZ, hCE, hSE⟩ := C
    unfold i_push at hf
    (repeat' split at hf) <;> first | (cases hf; done) | skip
    all_goals cases hf
    all_goals intro H locs sl cells slots h1 h2 hP hS hL
    refine lv_bipush hx hb hd hv ?_
    rw [← hp]
    exact k H locs sl cells slots h1 h2 hP hS hL
theorem sp_sipush {n : Int} {v : Int32} (hd : decode cc (P ip) = .ok (.sipush n, 3)) (hv : (Int16.ofInt n).toInt32 = v) (hp : P (ip + 1) = P ip + 3) : z_SP N Ts Z own cc nL rt fr lo c2 P ip (i_push (.int v)) := by
  refine ⟨?_, ?_⟩
  · intro x ip' x' hf
    unfold i_push at hf
    (repeat' split at hf) <;> first | (cases hf; rfl) | (cases hf)
  · intro p l e R s m args below meth c Q ad D cA kE CE SE C x ip' x' hf k
    obtain ⟨hx, hb, hml, hown, hts, hr, hlk, hfr, hlo, hinj, hK, hZ, hCE, hSE⟩ := C
    unfold i_push at hf
    (repeat' split at hf) <;> first | (cases hf; done) | skip
    all_goals cases hf
    all_goals intro H locs sl cells slots h1 h2 hP hS hL
    refine lv_sipush hx hb hd hv ?_
    rw [← hp]
    exact k H locs sl cells slots h1 h2 hP hS hL
theorem sp_lconst {n : Fin 2} {v : Int64} (hd : decode cc (P ip) = .ok (.lconst n, 1)) (hv : Int64.ofNat (n : Nat) = v) (hp : P (ip + 1) = P ip + 1) : z_SP N Ts Z own cc nL rt fr lo c2 P ip (i_push (.long v)) := by
  refine ⟨?_, ?_⟩
  · intro x ip' x' hf
    unfold i_push at hf
    (repeat' split at hf) <;> first | (cases hf; rfl) | (cases hf)
  · intro p l e R s m args below meth c Q ad D cA kE CE SE C x ip' x' hf k
    obtain ⟨hx, hb, hml, hown, hts, hr, hlk, hfr, hlo, hinj, hK, hZ, hCE, hSE⟩ := C
    unfold i_push at hf
    (repeat' split at hf) <;> first | (cases hf; done) | skip
    all_goals cases hf
    all_goals intro H locs sl cells slots h1 h2 hP hS hL
    refine lv_lconst hx hb hd hv ?_
    rw [← hp]
    exact k H locs sl cells slots h1 h2 hP hS hL
theorem sp_fconst0  (hd : decode cc (P ip) = .ok (.fconst 0, 1)) (hp : P (ip + 1) = P ip + 1) : z_SP N Ts Z own cc nL rt fr lo c2 P ip (i_push (.float FP.fconst0)) := by
  refine ⟨?_, ?_⟩
  · intro x ip' x' hf
    unfold i_push at hf
    (repeat' split at hf) <;> first | (cases hf; rfl) | (cases hf)
  · intro p l e R s m args below meth c Q ad D cA kE CE SE C x ip' x' hf k
    obtain ⟨hx, hb, hml, hown, hts, hr, hlk, hfr, hlo, hinj, hK, hZ, hCE, hSE⟩ := C
    unfold i_push at hf
    (repeat' split at hf) <;> first | (cases hf; done) | skip
    all_goals cases hf
    all_goals intro H locs sl cells slots h1 h2 hP hS hL
    refine lv_fconst0 hx hb hd ?_
    rw [← hp]
    exact k H locs sl cells slots h1 h2 hP hS hL
theorem sp_dconst0  (hd : decode cc (P ip) = .ok (.dconst 0, 1)) (hp : P (ip + 1) = P ip + 1) : z_SP N Ts Z own cc nL rt fr lo c2 P ip (i_push (.double FP.dconst0)) := by
  refine ⟨?_, ?_⟩
  · intro x ip' x' hf
    unfold i_push at hf
    (repeat' split at hf) <;> first | (cases hf; rfl) | (cases hf)
  · intro p l e R s m args below meth c Q ad D cA kE CE SE C x ip' x' hf k
    obtain ⟨hx, hb, hml, hown, hts, hr, hlk, hfr, hlo, hinj, hK, hZ, hCE, hSE⟩ := C
    unfold i_push at hf
    (repeat' split at hf) <;> first | (cases hf; done) | skip
    all_goals cases hf
    all_goals intro H locs sl cells slots h1 h2 hP hS hL
    refine lv_dconst0 hx hb hd ?_
    rw [← hp]
    exact k H locs sl cells slots h1 h2 hP hS hL
theorem sp_ldc {index : Nat} {v : Int32} (hd : decode cc (P ip) = .ok (.ldc index, 2)) (hw : Jvm.Cond.constant own index v ∈ Ts) (hp : P (ip + 1) = P ip + 2) : z_SP N Ts Z own cc nL rt fr lo c2 P ip (i_push (.int v)) := by
  refine ⟨?_, ?_⟩
  · intro x ip' x' hf
    unfold i_push at hf
    (repeat' split at hf) <;> first | (cases hf; rfl) | (cases hf)
  · intro p l e R s m args below meth c Q ad D cA kE CE SE C x ip' x' hf k
    obtain ⟨hx, hb, hml, hown, hts, hr, hlk, hfr, hlo, hinj, hK, hZ, hCE, hSE⟩ := C
    unfold i_push at hf
    (repeat' split at hf) <;> first | (cases hf; done) | skip
    all_goals cases hf
    all_goals intro H locs sl cells slots h1 h2 hP hS hL
    refine lv_ldc hx hb hown (hts _ hw) hd ?_
    rw [← hp]
    exact k H locs sl cells slots h1 h2 hP hS hL
theorem sp_ldc2 {index : Nat} {v : Int64} (hd : decode cc (P ip) = .ok (.ldc2_w index, 3)) (hw : Jvm.Cond.constantLong own index v ∈ Ts) (hp : P (ip + 1) = P ip + 3) : z_SP N Ts Z own cc nL rt fr lo c2 P ip (i_push (.long v)) := by
  refine ⟨?_, ?_⟩
  · intro x ip' x' hf
    unfold i_push at hf
    (repeat' split at hf) <;> first | (cases hf; rfl) | (cases hf)
  · intro p l e R s m args below meth c Q ad D cA kE CE SE C x ip' x' hf k
    obtain ⟨hx, hb, hml, hown, hts, hr, hlk, hfr, hlo, hinj, hK, hZ, hCE, hSE⟩ := C
    unfold i_push at hf
    (repeat' split at hf) <;> first | (cases hf; done) | skip
    all_goals cases hf
    all_goals intro H locs sl cells slots h1 h2 hP hS hL
    refine lv_ldc2 hx hb hown (hts _ hw) hd ?_
    rw [← hp]
    exact k H locs sl cells slots h1 h2 hP hS hL
def i_iload (i : Nat) : Ico := fun ip x => match x.1[i]? with
  | some (.int v) => some (ip + 1, x.1, .int v :: x.2.1, x.2.2)
  | _ => none
theorem sp_iload_n {q : Fin 4} {i : Nat} (hd : decode cc (P ip) = .ok (.iload_n q, 1)) (hi : (q : Nat) = i) (hp : P (ip + 1) = P ip + 1) : z_SP N Ts Z own cc nL rt fr lo c2 P ip (i_iload i) := by
  refine ⟨?_, ?_⟩
  · intro x ip' x' hf
    unfold i_iload at hf
    (repeat' split at hf) <;> first | (cases hf; rfl) | (cases hf)
  · intro p l e R s m args below meth c Q ad D cA kE CE SE C x ip' x' hf k
    obtain ⟨hx, hb, hml, hown, hts, hr, hlk, hfr, hlo, hinj, hK, hZ, hCE, hSE⟩ := C
    unfold i_iload at hf
    (repeat' split at hf) <;> first | (cases hf; done) | skip
    all_goals cases hf
    all_goals intro H locs sl cells slots h1 h2 hP hS hL
    refine lv_iload_n hx hb hd hi (z_has_at hL (by assumption) (by intro e; cases e)) ?_
    rw [← hp]
    exact k H locs sl cells slots h1 h2 hP hS hL
theorem sp_iload {i : Nat} (hd : decode cc (P ip) = .ok (.iload i, 2)) (hp : P (ip + 1) = P ip + 2) : z_SP N Ts Z own cc nL rt fr lo c2 P ip (i_iload i) := by
  refine ⟨?_, ?_⟩
  · intro x ip' x' hf
    unfold i_iload at hf
    (repeat' split at hf) <;> first | (cases hf; rfl) | (cases hf)
  · intro p l e R s m args below meth c Q ad D cA kE CE SE C x ip' x' hf k
    obtain ⟨hx, hb, hml, hown, hts, hr, hlk, hfr, hlo, hinj, hK, hZ, hCE, hSE⟩ := C
    unfold i_iload at hf
    (repeat' split at hf) <;> first | (cases hf; done) | skip
    all_goals cases hf
    all_goals intro H locs sl cells slots h1 h2 hP hS hL
    refine lv_iload hx hb hd (z_has_at hL (by assumption) (by intro e; cases e)) ?_
    rw [← hp]
    exact k H locs sl cells slots h1 h2 hP hS hL
def i_aload (i : Nat) : Ico := fun ip x => match x.1[i]? with
  | some (.ref v) => some (ip + 1, x.1, .ref v :: x.2.1, x.2.2)
  | _ => none
theorem sp_aload_n {q : Fin 4} {i : Nat} (hd : decode cc (P ip) = .ok (.aload_n q, 1)) (hi : (q : Nat) = i) (hp : P (ip + 1) = P ip + 1) : z_SP N Ts Z own cc nL rt fr lo c2 P ip (i_aload i) := by
  refine ⟨?_, ?_⟩
  · intro x ip' x' hf
    unfold i_aload at hf
    (repeat' split at hf) <;> first | (cases hf; rfl) | (cases hf)
  · intro p l e R s m args below meth c Q ad D cA kE CE SE C x ip' x' hf k
    obtain ⟨hx, hb, hml, hown, hts, hr, hlk, hfr, hlo, hinj, hK, hZ, hCE, hSE⟩ := C
    unfold i_aload at hf
    (repeat' split at hf) <;> first | (cases hf; done) | skip
    all_goals cases hf
    all_goals intro H locs sl cells slots h1 h2 hP hS hL
    refine lv_aload_n hx hb hd hi (z_has_at hL (by assumption) (by intro e; cases e)) ?_
    rw [← hp]
    exact k H locs sl cells slots h1 h2 hP hS hL
theorem sp_aload {i : Nat} (hd : decode cc (P ip) = .ok (.aload i, 2)) (hp : P (ip + 1) = P ip + 2) : z_SP N Ts Z own cc nL rt fr lo c2 P ip (i_aload i) := by
  refine ⟨?_, ?_⟩
  · intro x ip' x' hf
    unfold i_aload at hf
    (repeat' split at hf) <;> first | (cases hf; rfl) | (cases hf)
  · intro p l e R s m args below meth c Q ad D cA kE CE SE C x ip' x' hf k
    obtain ⟨hx, hb, hml, hown, hts, hr, hlk, hfr, hlo, hinj, hK, hZ, hCE, hSE⟩ := C
    unfold i_aload at hf
    (repeat' split at hf) <;> first | (cases hf; done) | skip
    all_goals cases hf
    all_goals intro H locs sl cells slots h1 h2 hP hS hL
    refine lv_aload hx hb hd (z_has_at hL (by assumption) (by intro e; cases e)) ?_
    rw [← hp]
    exact k H locs sl cells slots h1 h2 hP hS hL
def i_lload (i : Nat) : Ico := fun ip x => match x.1[i]? with
  | some (.long v) => some (ip + 1, x.1, .long v :: x.2.1, x.2.2)
  | _ => none
theorem sp_lload_n {q : Fin 4} {i : Nat} (hd : decode cc (P ip) = .ok (.lload_n q, 1)) (hi : (q : Nat) = i) (hp : P (ip + 1) = P ip + 1) : z_SP N Ts Z own cc nL rt fr lo c2 P ip (i_lload i) := by
  refine ⟨?_, ?_⟩
  · intro x ip' x' hf
    unfold i_lload at hf
    (repeat' split at hf) <;> first | (cases hf; rfl) | (cases hf)
  · intro p l e R s m args below meth c Q ad D cA kE CE SE C x ip' x' hf k
    obtain ⟨hx, hb, hml, hown, hts, hr, hlk, hfr, hlo, hinj, hK, hZ, hCE, hSE⟩ := C
    unfold i_lload at hf
    (repeat' split at hf) <;> first | (cases hf; done) | skip
    all_goals cases hf
    all_goals intro H locs sl cells slots h1 h2 hP hS hL
    refine lv_lload_n hx hb hd hi (z_has_at hL (by assumption) (by intro e; cases e)) ?_
    rw [← hp]
    exact k H locs sl cells slots h1 h2 hP hS hL
def i_dload (i : Nat) : Ico := fun ip x => match x.1[i]? with
  | some (.double v) => some (ip + 1, x.1, .double v :: x.2.1, x.2.2)
  | _ => none
theorem sp_dload {i : Nat} (hd : decode cc (P ip) = .ok (.dload i, 2)) (hp : P (ip + 1) = P ip + 2) : z_SP N Ts Z own cc nL rt fr lo c2 P ip (i_dload i) := by
  refine ⟨?_, ?_⟩
  · intro x ip' x' hf
    unfold i_dload at hf
    (repeat' split at hf) <;> first | (cases hf; rfl) | (cases hf)
  · intro p l e R s m args below meth c Q ad D cA kE CE SE C x ip' x' hf k
    obtain ⟨hx, hb, hml, hown, hts, hr, hlk, hfr, hlo, hinj, hK, hZ, hCE, hSE⟩ := C
    unfold i_dload at hf
    (repeat' split at hf) <;> first | (cases hf; done) | skip
    all_goals cases hf
    all_goals intro H locs sl cells slots h1 h2 hP hS hL
    refine lv_dload hx hb hd (z_has_at hL (by assumption) (by intro e; cases e)) ?_
    rw [← hp]
    exact k H locs sl cells slots h1 h2 hP hS hL
def i_istore (i : Nat) : Ico := fun ip x => match x with
  | (L, .int v :: st, mem) => some (ip + 1, L.set i (.int v), st, mem)
  | _ => none
theorem sp_istore_n {q : Fin 4} {i : Nat} (hd : decode cc (P ip) = .ok (.istore_n q, 1)) (hi : (q : Nat) = i) (hn : i < nL) (hc : ∀ j, j + 1 = i → c2 j = false) (hp : P (ip + 1) = P ip + 1) : z_SP N Ts Z own cc nL rt fr lo c2 P ip (i_istore i) := by
  refine ⟨?_, ?_⟩
  · intro x ip' x' hf
    unfold i_istore at hf
    (repeat' split at hf) <;> first | (cases hf; rfl) | (cases hf)
  · intro p l e R s m args below meth c Q ad D cA kE CE SE C x ip' x' hf k
    obtain ⟨hx, hb, hml, hown, hts, hr, hlk, hfr, hlo, hinj, hK, hZ, hCE, hSE⟩ := C
    unfold i_istore at hf
    (repeat' split at hf) <;> first | (cases hf; done) | skip
    all_goals cases hf
    all_goals intro H locs sl cells slots h1 h2 hP hS hL
    refine lv_istore_n hx hb hd hi hL.1 hn rfl (fun sl' hl' => ?_)
    rw [← hp]
    exact k H locs sl' cells slots h1 h2 hP hS (z_has_set hL.2 rfl rfl hc hl')
theorem sp_istore {i : Nat} (hd : decode cc (P ip) = .ok (.istore i, 2)) (hn : i < nL) (hc : ∀ j, j + 1 = i → c2 j = false) (hp : P (ip + 1) = P ip + 2) : z_SP N Ts Z own cc nL rt fr lo c2 P ip (i_istore i) := by
  refine ⟨?_, ?_⟩
  · intro x ip' x' hf
    unfold i_istore at hf
    (repeat' split at hf) <;> first | (cases hf; rfl) | (cases hf)
  · intro p l e R s m args below meth c Q ad D cA kE CE SE C x ip' x' hf k
    obtain ⟨hx, hb, hml, hown, hts, hr, hlk, hfr, hlo, hinj, hK, hZ, hCE, hSE⟩ := C
    unfold i_istore at hf
    (repeat' split at hf) <;> first | (cases hf; done) | skip
    all_goals cases hf
    all_goals intro H locs sl cells slots h1 h2 hP hS hL
    refine lv_istore hx hb hd hL.1 hn rfl (fun sl' hl' => ?_)
    rw [← hp]
    exact k H locs sl' cells slots h1 h2 hP hS (z_has_set hL.2 rfl rfl hc hl')
def i_astore (i : Nat) : Ico := fun ip x => match x with
  | (L, .ref v :: st, mem) => some (ip + 1, L.set i (.ref v), st, mem)
  | _ => none
theorem sp_astore_n {q : Fin 4} {i : Nat} (hd : decode cc (P ip) = .ok (.astore_n q, 1)) (hi : (q : Nat) = i) (hn : i < nL) (hc : ∀ j, j + 1 = i → c2 j = false) (hp : P (ip + 1) = P ip + 1) : z_SP N Ts Z own cc nL rt fr lo c2 P ip (i_astore i) := by
  refine ⟨?_, ?_⟩
  · intro x ip' x' hf
    unfold i_astore at hf
    (repeat' split at hf) <;> first | (cases hf; rfl) | (cases hf)
  · intro p l e R s m args below meth c Q ad D cA kE CE SE C x ip' x' hf k
    obtain ⟨hx, hb, hml, hown, hts, hr, hlk, hfr, hlo, hinj, hK, hZ, hCE, hSE⟩ := C
    unfold i_astore at hf
    (repeat' split at hf) <;> first | (cases hf; done) | skip
    all_goals cases hf
    all_goals intro H locs sl cells slots h1 h2 hP hS hL
    refine lv_astore_n hx hb hd hi hL.1 hn rfl (fun sl' hl' => ?_)
    rw [← hp]
    exact k H locs sl' cells slots h1 h2 hP hS (z_has_set hL.2 rfl rfl hc hl')
theorem sp_astore {i : Nat} (hd : decode cc (P ip) = .ok (.astore i, 2)) (hn : i < nL) (hc : ∀ j, j + 1 = i → c2 j = false) (hp : P (ip + 1) = P ip + 2) : z_SP N Ts Z own cc nL rt fr lo c2 P ip (i_astore i) := by
  refine ⟨?_, ?_⟩
  · intro x ip' x' hf
    unfold i_astore at hf
    (repeat' split at hf) <;> first | (cases hf; rfl) | (cases hf)
  · intro p l e R s m args below meth c Q ad D cA kE CE SE C x ip' x' hf k
    obtain ⟨hx, hb, hml, hown, hts, hr, hlk, hfr, hlo, hinj, hK, hZ, hCE, hSE⟩ := C
    unfold i_astore at hf
    (repeat' split at hf) <;> first | (cases hf; done) | skip
    all_goals cases hf
    all_goals intro H locs sl cells slots h1 h2 hP hS hL
    refine lv_astore hx hb hd hL.1 hn rfl (fun sl' hl' => ?_)
    rw [← hp]
    exact k H locs sl' cells slots h1 h2 hP hS (z_has_set hL.2 rfl rfl hc hl')
def i_dstore (i : Nat) : Ico := fun ip x => match x with
  | (L, .double v :: st, mem) => some (ip + 1, (L.set i (.double v)).set (i + 1) .null, st, mem)
  | _ => none
theorem sp_dstore {i : Nat} (hd : decode cc (P ip) = .ok (.dstore i, 2)) (hn : i + 1 < nL) (hc2 : c2 i = true) (hc : ∀ j, j + 1 = i → c2 j = false) (hp : P (ip + 1) = P ip + 2) : z_SP N Ts Z own cc nL rt fr lo c2 P ip (i_dstore i) := by
  refine ⟨?_, ?_⟩
  · intro x ip' x' hf
    unfold i_dstore at hf
    (repeat' split at hf) <;> first | (cases hf; rfl) | (cases hf)
  · intro p l e R s m args below meth c Q ad D cA kE CE SE C x ip' x' hf k
    obtain ⟨hx, hb, hml, hown, hts, hr, hlk, hfr, hlo, hinj, hK, hZ, hCE, hSE⟩ := C
    unfold i_dstore at hf
    (repeat' split at hf) <;> first | (cases hf; done) | skip
    all_goals cases hf
    all_goals intro H locs sl cells slots h1 h2 hP hS hL
    refine lv_dstore hx hb hd hL.1 hn rfl (fun sl' hl' => ?_)
    rw [← hp]
    exact k H locs sl' cells slots h1 h2 hP hS (z_has_set2 hL.2 rfl hc2 hc hl')
def i_iinc (i : Nat) (d : Int32) : Ico := fun ip x => match x.1[i]? with
  | some (.int v) => some (ip + 1, x.1.set i (.int (v + d)), x.2.1, x.2.2)
  | _ => none
theorem sp_iinc {i : Nat} {n : Int} {d : Int32} (hd : decode cc (P ip) = .ok (.iinc i n, 3)) (hv : Int32.ofInt n = d) (hn : i < nL) (hc : ∀ j, j + 1 = i → c2 j = false) (hp : P (ip + 1) = P ip + 3) : z_SP N Ts Z own cc nL rt fr lo c2 P ip (i_iinc i d) := by
  refine ⟨?_, ?_⟩
  · intro x ip' x' hf
    unfold i_iinc at hf
    (repeat' split at hf) <;> first | (cases hf; rfl) | (cases hf)
  · intro p l e R s m args below meth c Q ad D cA kE CE SE C x ip' x' hf k
    obtain ⟨hx, hb, hml, hown, hts, hr, hlk, hfr, hlo, hinj, hK, hZ, hCE, hSE⟩ := C
    unfold i_iinc at hf
    (repeat' split at hf) <;> first | (cases hf; done) | skip
    all_goals cases hf
    all_goals intro H locs sl cells slots h1 h2 hP hS hL
    subst hv
    rename_i v hv9
    have hm : (i, Value.int v) ∈ z_prs ad 0 x.1 := (z_prs_mem ad _ 0 _).mpr ⟨i, .int v, hv9, (by intro e; cases e), by rw [Nat.zero_add]; rfl⟩
    obtain ⟨q, hq⟩ := List.mem_iff_getElem?.mp hm
    refine lv_iinc hx hb hd hL.1 hq rfl hn rfl (fun sl' hl' => ?_)
    rw [← hp]
    exact k H locs sl' cells slots h1 h2 hP hS (z_has_set hL.2 rfl rfl hc hl')
def i_dup : Ico := fun ip x => match x with
  | (L, .int v :: st, mem) => some (ip + 1, L, .int v :: .int v :: st, mem)
  | (L, .ref v :: st, mem) => some (ip + 1, L, .ref v :: .ref v :: st, mem)
  | _ => none
theorem sp_dup  (hd : decode cc (P ip) = .ok (.dup, 1)) (hp : P (ip + 1) = P ip + 1) : z_SP N Ts Z own cc nL rt fr lo c2 P ip (i_dup) := by
  refine ⟨?_, ?_⟩
  · intro x ip' x' hf
    unfold i_dup at hf
    (repeat' split at hf) <;> first | (cases hf; rfl) | (cases hf)
  · intro p l e R s m args below meth c Q ad D cA kE CE SE C x ip' x' hf k
    obtain ⟨hx, hb, hml, hown, hts, hr, hlk, hfr, hlo, hinj, hK, hZ, hCE, hSE⟩ := C
    unfold i_dup at hf
    (repeat' split at hf) <;> first | (cases hf; done) | skip
    all_goals cases hf
    all_goals intro H locs sl cells slots h1 h2 hP hS hL
    all_goals refine lv_dup hx hb hd rfl ?_
    all_goals rw [← hp]
    all_goals exact k H locs sl cells slots h1 h2 hP hS hL
def i_dup2 : Ico := fun ip x => match x with
  | (L, .int v :: .ref u :: st, mem) => some (ip + 1, L, .int v :: .ref u :: .int v :: .ref u :: st, mem)
  | _ => none
theorem sp_dup2  (hd : decode cc (P ip) = .ok (.dup2, 1)) (hp : P (ip + 1) = P ip + 1) : z_SP N Ts Z own cc nL rt fr lo c2 P ip (i_dup2) := by
  refine ⟨?_, ?_⟩
  · intro x ip' x' hf
    unfold i_dup2 at hf
    (repeat' split at hf) <;> first | (cases hf; rfl) | (cases hf)
  · intro p l e R s m args below meth c Q ad D cA kE CE SE C x ip' x' hf k
    obtain ⟨hx, hb, hml, hown, hts, hr, hlk, hfr, hlo, hinj, hK, hZ, hCE, hSE⟩ := C
    unfold i_dup2 at hf
    (repeat' split at hf) <;> first | (cases hf; done) | skip
    all_goals cases hf
    all_goals intro H locs sl cells slots h1 h2 hP hS hL
    refine lv_dup2_11 hx hb hd rfl rfl ?_
    rw [← hp]
    exact k H locs sl cells slots h1 h2 hP hS hL
def i_pop : Ico := fun ip x => match x with
  | (L, .int _ :: st, mem) => some (ip + 1, L, st, mem)
  | _ => none
theorem sp_pop  (hd : decode cc (P ip) = .ok (.pop, 1)) (hp : P (ip + 1) = P ip + 1) : z_SP N Ts Z own cc nL rt fr lo c2 P ip (i_pop) := by
  refine ⟨?_, ?_⟩
  · intro x ip' x' hf
    unfold i_pop at hf
    (repeat' split at hf) <;> first | (cases hf; rfl) | (cases hf)
  · intro p l e R s m args below meth c Q ad D cA kE CE SE C x ip' x' hf k
    obtain ⟨hx, hb, hml, hown, hts, hr, hlk, hfr, hlo, hinj, hK, hZ, hCE, hSE⟩ := C
    unfold i_pop at hf
    (repeat' split at hf) <;> first | (cases hf; done) | skip
    all_goals cases hf
    all_goals intro H locs sl cells slots h1 h2 hP hS hL
    refine lv_pop hx hb hd rfl ?_
    rw [← hp]
    exact k H locs sl cells slots h1 h2 hP hS hL
def i_iadd : Ico := fun ip x => match x with
  | (L, .int b :: .int a :: st, mem) => some (ip + 1, L, .int (a + b) :: st, mem)
  | _ => none
theorem sp_iadd  (hd : decode cc (P ip) = .ok (.iadd, 1)) (hp : P (ip + 1) = P ip + 1) : z_SP N Ts Z own cc nL rt fr lo c2 P ip (i_iadd) := by
  refine ⟨?_, ?_⟩
  · intro x ip' x' hf
    unfold i_iadd at hf
    (repeat' split at hf) <;> first | (cases hf; rfl) | (cases hf)
  · intro p l e R s m args below meth c Q ad D cA kE CE SE C x ip' x' hf k
    obtain ⟨hx, hb, hml, hown, hts, hr, hlk, hfr, hlo, hinj, hK, hZ, hCE, hSE⟩ := C
    unfold i_iadd at hf
    (repeat' split at hf) <;> first | (cases hf; done) | skip
    all_goals cases hf
    all_goals intro H locs sl cells slots h1 h2 hP hS hL
    refine lv_iadd hx hb hd ?_
    rw [← hp]
    exact k H locs sl cells slots h1 h2 hP hS hL
def i_isub : Ico := fun ip x => match x with
  | (L, .int b :: .int a :: st, mem) => some (ip + 1, L, .int (a - b) :: st, mem)
  | _ => none
theorem sp_isub  (hd : decode cc (P ip) = .ok (.isub, 1)) (hp : P (ip + 1) = P ip + 1) : z_SP N Ts Z own cc nL rt fr lo c2 P ip (i_isub) := by
  refine ⟨?_, ?_⟩
  · intro x ip' x' hf
    unfold i_isub at hf
    (repeat' split at hf) <;> first | (cases hf; rfl) | (cases hf)
  · intro p l e R s m args below meth c Q ad D cA kE CE SE C x ip' x' hf k
    obtain ⟨hx, hb, hml, hown, hts, hr, hlk, hfr, hlo, hinj, hK, hZ, hCE, hSE⟩ := C
    unfold i_isub at hf
    (repeat' split at hf) <;> first | (cases hf; done) | skip
    all_goals cases hf
    all_goals intro H locs sl cells slots h1 h2 hP hS hL
    refine lv_isub hx hb hd ?_
    rw [← hp]
    exact k H locs sl cells slots h1 h2 hP hS hL
def i_imul : Ico := fun ip x => match x with
  | (L, .int b :: .int a :: st, mem) => some (ip + 1, L, .int (a * b) :: st, mem)
  | _ => none
theorem sp_imul  (hd : decode cc (P ip) = .ok (.imul, 1)) (hp : P (ip + 1) = P ip + 1) : z_SP N Ts Z own cc nL rt fr lo c2 P ip (i_imul) := by
  refine ⟨?_, ?_⟩
  · intro x ip' x' hf
    unfold i_imul at hf
    (repeat' split at hf) <;> first | (cases hf; rfl) | (cases hf)
  · intro p l e R s m args below meth c Q ad D cA kE CE SE C x ip' x' hf k
    obtain ⟨hx, hb, hml, hown, hts, hr, hlk, hfr, hlo, hinj, hK, hZ, hCE, hSE⟩ := C
    unfold i_imul at hf
    (repeat' split at hf) <;> first | (cases hf; done) | skip
    all_goals cases hf
    all_goals intro H locs sl cells slots h1 h2 hP hS hL
    refine lv_imul hx hb hd ?_
    rw [← hp]
    exact k H locs sl cells slots h1 h2 hP hS hL
def i_iand : Ico := fun ip x => match x with
  | (L, .int b :: .int a :: st, mem) => some (ip + 1, L, .int (a &&& b) :: st, mem)
  | _ => none
theorem sp_iand  (hd : decode cc (P ip) = .ok (.iand, 1)) (hp : P (ip + 1) = P ip + 1) : z_SP N Ts Z own cc nL rt fr lo c2 P ip (i_iand) := by
  refine ⟨?_, ?_⟩
  · intro x ip' x' hf
    unfold i_iand at hf
    (repeat' split at hf) <;> first | (cases hf; rfl) | (cases hf)
  · intro p l e R s m args below meth c Q ad D cA kE CE SE C x ip' x' hf k
    obtain ⟨hx, hb, hml, hown, hts, hr, hlk, hfr, hlo, hinj, hK, hZ, hCE, hSE⟩ := C
    unfold i_iand at hf
    (repeat' split at hf) <;> first | (cases hf; done) | skip
    all_goals cases hf
    all_goals intro H locs sl cells slots h1 h2 hP hS hL
    refine lv_iand hx hb hd ?_
    rw [← hp]
    exact k H locs sl cells slots h1 h2 hP hS hL
def i_ior : Ico := fun ip x => match x with
  | (L, .int b :: .int a :: st, mem) => some (ip + 1, L, .int (a ||| b) :: st, mem)
  | _ => none
theorem sp_ior  (hd : decode cc (P ip) = .ok (.ior, 1)) (hp : P (ip + 1) = P ip + 1) : z_SP N Ts Z own cc nL rt fr lo c2 P ip (i_ior) := by
  refine ⟨?_, ?_⟩
  · intro x ip' x' hf
    unfold i_ior at hf
    (repeat' split at hf) <;> first | (cases hf; rfl) | (cases hf)
  · intro p l e R s m args below meth c Q ad D cA kE CE SE C x ip' x' hf k
    obtain ⟨hx, hb, hml, hown, hts, hr, hlk, hfr, hlo, hinj, hK, hZ, hCE, hSE⟩ := C
    unfold i_ior at hf
    (repeat' split at hf) <;> first | (cases hf; done) | skip
    all_goals cases hf
    all_goals intro H locs sl cells slots h1 h2 hP hS hL
    refine lv_ior hx hb hd ?_
    rw [← hp]
    exact k H locs sl cells slots h1 h2 hP hS hL
def i_ishl : Ico := fun ip x => match x with
  | (L, .int b :: .int a :: st, mem) => some (ip + 1, L, .int (a <<< (b &&& 31)) :: st, mem)
  | _ => none
theorem sp_ishl  (hd : decode cc (P ip) = .ok (.ishl, 1)) (hp : P (ip + 1) = P ip + 1) : z_SP N Ts Z own cc nL rt fr lo c2 P ip (i_ishl) := by
  refine ⟨?_, ?_⟩
  · intro x ip' x' hf
    unfold i_ishl at hf
    (repeat' split at hf) <;> first | (cases hf; rfl) | (cases hf)
  · intro p l e R s m args below meth c Q ad D cA kE CE SE C x ip' x' hf k
    obtain ⟨hx, hb, hml, hown, hts, hr, hlk, hfr, hlo, hinj, hK, hZ, hCE, hSE⟩ := C
    unfold i_ishl at hf
    (repeat' split at hf) <;> first | (cases hf; done) | skip
    all_goals cases hf
    all_goals intro H locs sl cells slots h1 h2 hP hS hL
    refine lv_ishl hx hb hd ?_
    rw [← hp]
    exact k H locs sl cells slots h1 h2 hP hS hL
def i_ishr : Ico := fun ip x => match x with
  | (L, .int b :: .int a :: st, mem) => some (ip + 1, L, .int (a >>> (b &&& 31)) :: st, mem)
  | _ => none
theorem sp_ishr  (hd : decode cc (P ip) = .ok (.ishr, 1)) (hp : P (ip + 1) = P ip + 1) : z_SP N Ts Z own cc nL rt fr lo c2 P ip (i_ishr) := by
  refine ⟨?_, ?_⟩
  · intro x ip' x' hf
    unfold i_ishr at hf
    (repeat' split at hf) <;> first | (cases hf; rfl) | (cases hf)
  · intro p l e R s m args below meth c Q ad D cA kE CE SE C x ip' x' hf k
    obtain ⟨hx, hb, hml, hown, hts, hr, hlk, hfr, hlo, hinj, hK, hZ, hCE, hSE⟩ := C
    unfold i_ishr at hf
    (repeat' split at hf) <;> first | (cases hf; done) | skip
    all_goals cases hf
    all_goals intro H locs sl cells slots h1 h2 hP hS hL
    refine lv_ishr hx hb hd ?_
    rw [← hp]
    exact k H locs sl cells slots h1 h2 hP hS hL
def i_iushr : Ico := fun ip x => match x with
  | (L, .int b :: .int a :: st, mem) => some (ip + 1, L, .int ((a.toUInt32 >>> (b.toUInt32 &&& Int32.toUInt32 31)).toInt32) :: st, mem)
  | _ => none
theorem sp_iushr  (hd : decode cc (P ip) = .ok (.iushr, 1)) (hp : P (ip + 1) = P ip + 1) : z_SP N Ts Z own cc nL rt fr lo c2 P ip (i_iushr) := by
  refine ⟨?_, ?_⟩
  · intro x ip' x' hf
    unfold i_iushr at hf
    (repeat' split at hf) <;> first | (cases hf; rfl) | (cases hf)
  · intro p l e R s m args below meth c Q ad D cA kE CE SE C x ip' x' hf k
    obtain ⟨hx, hb, hml, hown, hts, hr, hlk, hfr, hlo, hinj, hK, hZ, hCE, hSE⟩ := C
    unfold i_iushr at hf
    (repeat' split at hf) <;> first | (cases hf; done) | skip
    all_goals cases hf
    all_goals intro H locs sl cells slots h1 h2 hP hS hL
    refine lv_iushr hx hb hd rfl ?_
    rw [← hp]
    exact k H locs sl cells slots h1 h2 hP hS hL
def i_idiv : Ico := fun ip x => match x with
  | (L, .int b :: .int a :: st, mem) => if b = 0 then none else some (ip + 1, L, .int (a / b) :: st, mem)
  | _ => none
theorem sp_idiv  (hd : decode cc (P ip) = .ok (.idiv, 1)) (hp : P (ip + 1) = P ip + 1) : z_SP N Ts Z own cc nL rt fr lo c2 P ip (i_idiv) := by
  refine ⟨?_, ?_⟩
  · intro x ip' x' hf
    unfold i_idiv at hf
    (repeat' split at hf) <;> first | (cases hf; rfl) | (cases hf)
  · intro p l e R s m args below meth c Q ad D cA kE CE SE C x ip' x' hf k
    obtain ⟨hx, hb, hml, hown, hts, hr, hlk, hfr, hlo, hinj, hK, hZ, hCE, hSE⟩ := C
    unfold i_idiv at hf
    (repeat' split at hf) <;> first | (cases hf; done) | skip
    all_goals cases hf
    all_goals intro H locs sl cells slots h1 h2 hP hS hL
    refine lv_idiv hx hb hd (by assumption) ?_
    rw [← hp]
    exact k H locs sl cells slots h1 h2 hP hS hL
def i_irem : Ico := fun ip x => match x with
  | (L, .int b :: .int a :: st, mem) => if b = 0 then none else some (ip + 1, L, .int (a - a / b * b) :: st, mem)
  | _ => none
theorem sp_irem  (hd : decode cc (P ip) = .ok (.irem, 1)) (hp : P (ip + 1) = P ip + 1) : z_SP N Ts Z own cc nL rt fr lo c2 P ip (i_irem) := by
  refine ⟨?_, ?_⟩
  · intro x ip' x' hf
    unfold i_irem at hf
    (repeat' split at hf) <;> first | (cases hf; rfl) | (cases hf)
  · intro p l e R s m args below meth c Q ad D cA kE CE SE C x ip' x' hf k
    obtain ⟨hx, hb, hml, hown, hts, hr, hlk, hfr, hlo, hinj, hK, hZ, hCE, hSE⟩ := C
    unfold i_irem at hf
    (repeat' split at hf) <;> first | (cases hf; done) | skip
    all_goals cases hf
    all_goals intro H locs sl cells slots h1 h2 hP hS hL
    refine lv_irem hx hb hd (by assumption) ?_
    rw [← hp]
    exact k H locs sl cells slots h1 h2 hP hS hL
def i_ladd : Ico := fun ip x => match x with
  | (L, .long b :: .long a :: st, mem) => some (ip + 1, L, .long (a + b) :: st, mem)
  | _ => none
theorem sp_ladd  (hd : decode cc (P ip) = .ok (.ladd, 1)) (hp : P (ip + 1) = P ip + 1) : z_SP N Ts Z own cc nL rt fr lo c2 P ip (i_ladd) := by
  refine ⟨?_, ?_⟩
  · intro x ip' x' hf
    unfold i_ladd at hf
    (repeat' split at hf) <;> first | (cases hf; rfl) | (cases hf)
  · intro p l e R s m args below meth c Q ad D cA kE CE SE C x ip' x' hf k
    obtain ⟨hx, hb, hml, hown, hts, hr, hlk, hfr, hlo, hinj, hK, hZ, hCE, hSE⟩ := C
    unfold i_ladd at hf
    (repeat' split at hf) <;> first | (cases hf; done) | skip
    all_goals cases hf
    all_goals intro H locs sl cells slots h1 h2 hP hS hL
    refine lv_ladd hx hb hd ?_
    rw [← hp]
    exact k H locs sl cells slots h1 h2 hP hS hL
def i_lsub : Ico := fun ip x => match x with
  | (L, .long b :: .long a :: st, mem) => some (ip + 1, L, .long (a - b) :: st, mem)
  | _ => none
theorem sp_lsub  (hd : decode cc (P ip) = .ok (.lsub, 1)) (hp : P (ip + 1) = P ip + 1) : z_SP N Ts Z own cc nL rt fr lo c2 P ip (i_lsub) := by
  refine ⟨?_, ?_⟩
  · intro x ip' x' hf
    unfold i_lsub at hf
    (repeat' split at hf) <;> first | (cases hf; rfl) | (cases hf)
  · intro p l e R s m args below meth c Q ad D cA kE CE SE C x ip' x' hf k
    obtain ⟨hx, hb, hml, hown, hts, hr, hlk, hfr, hlo, hinj, hK, hZ, hCE, hSE⟩ := C
    unfold i_lsub at hf
    (repeat' split at hf) <;> first | (cases hf; done) | skip
    all_goals cases hf
    all_goals intro H locs sl cells slots h1 h2 hP hS hL
    refine lv_lsub hx hb hd ?_
    rw [← hp]
    exact k H locs sl cells slots h1 h2 hP hS hL
def i_lmul : Ico := fun ip x => match x with
  | (L, .long b :: .long a :: st, mem) => some (ip + 1, L, .long (a * b) :: st, mem)
  | _ => none
theorem sp_lmul  (hd : decode cc (P ip) = .ok (.lmul, 1)) (hp : P (ip + 1) = P ip + 1) : z_SP N Ts Z own cc nL rt fr lo c2 P ip (i_lmul) := by
  refine ⟨?_, ?_⟩
  · intro x ip' x' hf
    unfold i_lmul at hf
    (repeat' split at hf) <;> first | (cases hf; rfl) | (cases hf)
  · intro p l e R s m args below meth c Q ad D cA kE CE SE C x ip' x' hf k
    obtain ⟨hx, hb, hml, hown, hts, hr, hlk, hfr, hlo, hinj, hK, hZ, hCE, hSE⟩ := C
    unfold i_lmul at hf
    (repeat' split at hf) <;> first | (cases hf; done) | skip
    all_goals cases hf
    all_goals intro H locs sl cells slots h1 h2 hP hS hL
    refine lv_lmul hx hb hd ?_
    rw [← hp]
    exact k H locs sl cells slots h1 h2 hP hS hL
def i_lcmp : Ico := fun ip x => match x with
  | (L, .long b :: .long a :: st, mem) => some (ip + 1, L, .int (lg_cmp a b) :: st, mem)
  | _ => none
theorem sp_lcmp  (hd : decode cc (P ip) = .ok (.lcmp, 1)) (hp : P (ip + 1) = P ip + 1) : z_SP N Ts Z own cc nL rt fr lo c2 P ip (i_lcmp) := by
  refine ⟨?_, ?_⟩
  · intro x ip' x' hf
    unfold i_lcmp at hf
    (repeat' split at hf) <;> first | (cases hf; rfl) | (cases hf)
  · intro p l e R s m args below meth c Q ad D cA kE CE SE C x ip' x' hf k
    obtain ⟨hx, hb, hml, hown, hts, hr, hlk, hfr, hlo, hinj, hK, hZ, hCE, hSE⟩ := C
    unfold i_lcmp at hf
    (repeat' split at hf) <;> first | (cases hf; done) | skip
    all_goals cases hf
    all_goals intro H locs sl cells slots h1 h2 hP hS hL
    refine W.lcmp hx hb hd ?_
    rw [← hp]
    exact k H locs sl cells slots h1 h2 hP hS hL
def i_dcmp (o : CmpOp) : Ico := fun ip x => match x with
  | (L, .double b :: .double a :: st, mem) => some (ip + 1, L, .int (Op.cmpValue (FP.dcmp a b) o) :: st, mem)
  | _ => none
theorem sp_dcmp {o : CmpOp} (hd : decode cc (P ip) = .ok (.dcmp o, 1)) (hp : P (ip + 1) = P ip + 1) : z_SP N Ts Z own cc nL rt fr lo c2 P ip (i_dcmp o) := by
  refine ⟨?_, ?_⟩
  · intro x ip' x' hf
    unfold i_dcmp at hf
    (repeat' split at hf) <;> first | (cases hf; rfl) | (cases hf)
  · intro p l e R s m args below meth c Q ad D cA kE CE SE C x ip' x' hf k
    obtain ⟨hx, hb, hml, hown, hts, hr, hlk, hfr, hlo, hinj, hK, hZ, hCE, hSE⟩ := C
    unfold i_dcmp at hf
    (repeat' split at hf) <;> first | (cases hf; done) | skip
    all_goals cases hf
    all_goals intro H locs sl cells slots h1 h2 hP hS hL
    refine lv_dcmp hx hb hd ?_
    rw [← hp]
    exact k H locs sl cells slots h1 h2 hP hS hL
def i_fdiv : Ico := fun ip x => match x with
  | (L, .float b :: .float a :: st, mem) => if FP.fdiv a b &&& 0x7fffffff ≤ 0x7f800000 then some (ip + 1, L, .float (FP.fdiv a b) :: st, mem) else none
  | _ => none
theorem sp_fdiv  (hd : decode cc (P ip) = .ok (.fdiv, 1)) (hp : P (ip + 1) = P ip + 1) : z_SP N Ts Z own cc nL rt fr lo c2 P ip (i_fdiv) := by
  refine ⟨?_, ?_⟩
  · intro x ip' x' hf
    unfold i_fdiv at hf
    (repeat' split at hf) <;> first | (cases hf; rfl) | (cases hf)
  · intro p l e R s m args below meth c Q ad D cA kE CE SE C x ip' x' hf k
    obtain ⟨hx, hb, hml, hown, hts, hr, hlk, hfr, hlo, hinj, hK, hZ, hCE, hSE⟩ := C
    unfold i_fdiv at hf
    (repeat' split at hf) <;> first | (cases hf; done) | skip
    all_goals cases hf
    all_goals intro H locs sl cells slots h1 h2 hP hS hL
    refine lv_fdiv hx hb hd (by assumption) ?_
    rw [← hp]
    exact k H locs sl cells slots h1 h2 hP hS hL
def i_ddiv : Ico := fun ip x => match x with
  | (L, .double b :: .double a :: st, mem) => if FP.ddiv a b &&& 0x7fffffffffffffff ≤ 0x7ff0000000000000 then some (ip + 1, L, .double (FP.ddiv a b) :: st, mem) else none
  | _ => none
theorem sp_ddiv  (hd : decode cc (P ip) = .ok (.ddiv, 1)) (hp : P (ip + 1) = P ip + 1) : z_SP N Ts Z own cc nL rt fr lo c2 P ip (i_ddiv) := by
  refine ⟨?_, ?_⟩
  · intro x ip' x' hf
    unfold i_ddiv at hf
    (repeat' split at hf) <;> first | (cases hf; rfl) | (cases hf)
  · intro p l e R s m args below meth c Q ad D cA kE CE SE C x ip' x' hf k
    obtain ⟨hx, hb, hml, hown, hts, hr, hlk, hfr, hlo, hinj, hK, hZ, hCE, hSE⟩ := C
    unfold i_ddiv at hf
    (repeat' split at hf) <;> first | (cases hf; done) | skip
    all_goals cases hf
    all_goals intro H locs sl cells slots h1 h2 hP hS hL
    refine lv_ddiv hx hb hd (by assumption) ?_
    rw [← hp]
    exact k H locs sl cells slots h1 h2 hP hS hL
def i_i2l : Ico := fun ip x => match x with
  | (L, .int a :: st, mem) => some (ip + 1, L, .long (a.toInt64) :: st, mem)
  | _ => none
theorem sp_i2l  (hd : decode cc (P ip) = .ok (.i2l, 1)) (hp : P (ip + 1) = P ip + 1) : z_SP N Ts Z own cc nL rt fr lo c2 P ip (i_i2l) := by
  refine ⟨?_, ?_⟩
  · intro x ip' x' hf
    unfold i_i2l at hf
    (repeat' split at hf) <;> first | (cases hf; rfl) | (cases hf)
  · intro p l e R s m args below meth c Q ad D cA kE CE SE C x ip' x' hf k
    obtain ⟨hx, hb, hml, hown, hts, hr, hlk, hfr, hlo, hinj, hK, hZ, hCE, hSE⟩ := C
    unfold i_i2l at hf
    (repeat' split at hf) <;> first | (cases hf; done) | skip
    all_goals cases hf
    all_goals intro H locs sl cells slots h1 h2 hP hS hL
    refine lv_i2l hx hb hd rfl ?_
    rw [← hp]
    exact k H locs sl cells slots h1 h2 hP hS hL
def i_i2b : Ico := fun ip x => match x with
  | (L, .int a :: st, mem) => some (ip + 1, L, .int (a.toInt8.toInt32) :: st, mem)
  | _ => none
theorem sp_i2b  (hd : decode cc (P ip) = .ok (.i2b, 1)) (hp : P (ip + 1) = P ip + 1) : z_SP N Ts Z own cc nL rt fr lo c2 P ip (i_i2b) := by
  refine ⟨?_, ?_⟩
  · intro x ip' x' hf
    unfold i_i2b at hf
    (repeat' split at hf) <;> first | (cases hf; rfl) | (cases hf)
  · intro p l e R s m args below meth c Q ad D cA kE CE SE C x ip' x' hf k
    obtain ⟨hx, hb, hml, hown, hts, hr, hlk, hfr, hlo, hinj, hK, hZ, hCE, hSE⟩ := C
    unfold i_i2b at hf
    (repeat' split at hf) <;> first | (cases hf; done) | skip
    all_goals cases hf
    all_goals intro H locs sl cells slots h1 h2 hP hS hL
    refine lv_i2b hx hb hd rfl ?_
    rw [← hp]
    exact k H locs sl cells slots h1 h2 hP hS hL
def i_i2f : Ico := fun ip x => match x with
  | (L, .int a :: st, mem) => some (ip + 1, L, .float (FP.i2f a) :: st, mem)
  | _ => none
theorem sp_i2f  (hd : decode cc (P ip) = .ok (.i2f, 1)) (hp : P (ip + 1) = P ip + 1) : z_SP N Ts Z own cc nL rt fr lo c2 P ip (i_i2f) := by
  refine ⟨?_, ?_⟩
  · intro x ip' x' hf
    unfold i_i2f at hf
    (repeat' split at hf) <;> first | (cases hf; rfl) | (cases hf)
  · intro p l e R s m args below meth c Q ad D cA kE CE SE C x ip' x' hf k
    obtain ⟨hx, hb, hml, hown, hts, hr, hlk, hfr, hlo, hinj, hK, hZ, hCE, hSE⟩ := C
    unfold i_i2f at hf
    (repeat' split at hf) <;> first | (cases hf; done) | skip
    all_goals cases hf
    all_goals intro H locs sl cells slots h1 h2 hP hS hL
    refine lv_i2f hx hb hd ?_
    rw [← hp]
    exact k H locs sl cells slots h1 h2 hP hS hL
def i_i2d : Ico := fun ip x => match x with
  | (L, .int a :: st, mem) => some (ip + 1, L, .double (FP.i2d a) :: st, mem)
  | _ => none
theorem sp_i2d  (hd : decode cc (P ip) = .ok (.i2d, 1)) (hp : P (ip + 1) = P ip + 1) : z_SP N Ts Z own cc nL rt fr lo c2 P ip (i_i2d) := by
  refine ⟨?_, ?_⟩
  · intro x ip' x' hf
    unfold i_i2d at hf
    (repeat' split at hf) <;> first | (cases hf; rfl) | (cases hf)
  · intro p l e R s m args below meth c Q ad D cA kE CE SE C x ip' x' hf k
    obtain ⟨hx, hb, hml, hown, hts, hr, hlk, hfr, hlo, hinj, hK, hZ, hCE, hSE⟩ := C
    unfold i_i2d at hf
    (repeat' split at hf) <;> first | (cases hf; done) | skip
    all_goals cases hf
    all_goals intro H locs sl cells slots h1 h2 hP hS hL
    refine lv_i2d hx hb hd ?_
    rw [← hp]
    exact k H locs sl cells slots h1 h2 hP hS hL
def i_f2d : Ico := fun ip x => match x with
  | (L, .float a :: st, mem) => if FP.f2d a &&& 0x7fffffffffffffff ≤ 0x7ff0000000000000 then some (ip + 1, L, .double (FP.f2d a) :: st, mem) else none
  | _ => none
theorem sp_f2d  (hd : decode cc (P ip) = .ok (.f2d, 1)) (hp : P (ip + 1) = P ip + 1) : z_SP N Ts Z own cc nL rt fr lo c2 P ip (i_f2d) := by
  refine ⟨?_, ?_⟩
  · intro x ip' x' hf
    unfold i_f2d at hf
    (repeat' split at hf) <;> first | (cases hf; rfl) | (cases hf)
  · intro p l e R s m args below meth c Q ad D cA kE CE SE C x ip' x' hf k
    obtain ⟨hx, hb, hml, hown, hts, hr, hlk, hfr, hlo, hinj, hK, hZ, hCE, hSE⟩ := C
    unfold i_f2d at hf
    (repeat' split at hf) <;> first | (cases hf; done) | skip
    all_goals cases hf
    all_goals intro H locs sl cells slots h1 h2 hP hS hL
    refine lv_f2d hx hb hd (by assumption) ?_
    rw [← hp]
    exact k H locs sl cells slots h1 h2 hP hS hL
def i_goto (t : Nat) : Ico := fun _ x => some (t, x)
theorem sp_goto {t : Nat} {off : Int} (hd : decode cc (P ip) = .ok (.goto off, 3)) (ht : (P ip : Int) + off = (P t : Int)) : z_SP N Ts Z own cc nL rt fr lo c2 P ip (i_goto t) := by
  refine ⟨?_, ?_⟩
  · intro x ip' x' hf
    unfold i_goto at hf
    (repeat' split at hf) <;> first | (cases hf; rfl) | (cases hf)
  · intro p l e R s m args below meth c Q ad D cA kE CE SE C x ip' x' hf k
    obtain ⟨hx, hb, hml, hown, hts, hr, hlk, hfr, hlo, hinj, hK, hZ, hCE, hSE⟩ := C
    unfold i_goto at hf
    (repeat' split at hf) <;> first | (cases hf; done) | skip
    all_goals cases hf
    all_goals intro H locs sl cells slots h1 h2 hP hS hL
    exact lv_goto hx hb hd ht (k H locs sl cells slots h1 h2 hP hS hL)
def i_if_eq (t : Nat) : Ico := fun ip x => match x with
  | (L, .int a :: st, mem) => if a = 0 then some (t, L, st, mem) else some (ip + 1, L, st, mem)
  | _ => none
theorem sp_if_eq {t : Nat} {off : Int} (hd : decode cc (P ip) = .ok (.ifCond .eq off, 3)) (ht : (P ip : Int) + off = (P t : Int)) (hp : P (ip + 1) = P ip + 3) : z_SP N Ts Z own cc nL rt fr lo c2 P ip (i_if_eq t) := by
  refine ⟨?_, ?_⟩
  · intro x ip' x' hf
    unfold i_if_eq at hf
    (repeat' split at hf) <;> first | (cases hf; rfl) | (cases hf)
  · intro p l e R s m args below meth c Q ad D cA kE CE SE C x ip' x' hf k
    obtain ⟨hx, hb, hml, hown, hts, hr, hlk, hfr, hlo, hinj, hK, hZ, hCE, hSE⟩ := C
    unfold i_if_eq at hf
    (repeat' split at hf) <;> first | (cases hf; done) | skip
    all_goals cases hf
    all_goals intro H locs sl cells slots h1 h2 hP hS hL
    all_goals refine lv_if_eq hx hb hd ht (fun z => ?_) (fun z => ?_)
    all_goals first
      | (exfalso; first | (exact absurd z (by assumption)) | (exact absurd (by assumption) z))
      | exact k H locs sl cells slots h1 h2 hP hS hL
      | (rw [← hp]; exact k H locs sl cells slots h1 h2 hP hS hL)
def i_icmp_eq (t : Nat) : Ico := fun ip x => match x with
  | (L, .int b :: .int a :: st, mem) => if a = b then some (t, L, st, mem) else some (ip + 1, L, st, mem)
  | _ => none
theorem sp_icmp_eq {t : Nat} {off : Int} (hd : decode cc (P ip) = .ok (.if_icmp .eq off, 3)) (ht : (P ip : Int) + off = (P t : Int)) (hp : P (ip + 1) = P ip + 3) : z_SP N Ts Z own cc nL rt fr lo c2 P ip (i_icmp_eq t) := by
  refine ⟨?_, ?_⟩
  · intro x ip' x' hf
    unfold i_icmp_eq at hf
    (repeat' split at hf) <;> first | (cases hf; rfl) | (cases hf)
  · intro p l e R s m args below meth c Q ad D cA kE CE SE C x ip' x' hf k
    obtain ⟨hx, hb, hml, hown, hts, hr, hlk, hfr, hlo, hinj, hK, hZ, hCE, hSE⟩ := C
    unfold i_icmp_eq at hf
    (repeat' split at hf) <;> first | (cases hf; done) | skip
    all_goals cases hf
    all_goals intro H locs sl cells slots h1 h2 hP hS hL
    all_goals refine lv_icmp_eq hx hb hd ht (fun z => ?_) (fun z => ?_)
    all_goals first
      | (exfalso; first | (exact absurd z (by assumption)) | (exact absurd (by assumption) z))
      | exact k H locs sl cells slots h1 h2 hP hS hL
      | (rw [← hp]; exact k H locs sl cells slots h1 h2 hP hS hL)
def i_if_ne (t : Nat) : Ico := fun ip x => match x with
  | (L, .int a :: st, mem) => if a = 0 then some (ip + 1, L, st, mem) else some (t, L, st, mem)
  | _ => none
theorem sp_if_ne {t : Nat} {off : Int} (hd : decode cc (P ip) = .ok (.ifCond .ne off, 3)) (ht : (P ip : Int) + off = (P t : Int)) (hp : P (ip + 1) = P ip + 3) : z_SP N Ts Z own cc nL rt fr lo c2 P ip (i_if_ne t) := by
  refine ⟨?_, ?_⟩
  · intro x ip' x' hf
    unfold i_if_ne at hf
    (repeat' split at hf) <;> first | (cases hf; rfl) | (cases hf)
  · intro p l e R s m args below meth c Q ad D cA kE CE SE C x ip' x' hf k
    obtain ⟨hx, hb, hml, hown, hts, hr, hlk, hfr, hlo, hinj, hK, hZ, hCE, hSE⟩ := C
    unfold i_if_ne at hf
    (repeat' split at hf) <;> first | (cases hf; done) | skip
    all_goals cases hf
    all_goals intro H locs sl cells slots h1 h2 hP hS hL
    all_goals refine lv_if_ne hx hb hd ht (fun z => ?_) (fun z => ?_)
    all_goals first
      | (exfalso; first | (exact absurd z (by assumption)) | (exact absurd (by assumption) z))
      | exact k H locs sl cells slots h1 h2 hP hS hL
      | (rw [← hp]; exact k H locs sl cells slots h1 h2 hP hS hL)
def i_icmp_ne (t : Nat) : Ico := fun ip x => match x with
  | (L, .int b :: .int a :: st, mem) => if a = b then some (ip + 1, L, st, mem) else some (t, L, st, mem)
  | _ => none
theorem sp_icmp_ne {t : Nat} {off : Int} (hd : decode cc (P ip) = .ok (.if_icmp .ne off, 3)) (ht : (P ip : Int) + off = (P t : Int)) (hp : P (ip + 1) = P ip + 3) : z_SP N Ts Z own cc nL rt fr lo c2 P ip (i_icmp_ne t) := by
  refine ⟨?_, ?_⟩
  · intro x ip' x' hf
    unfold i_icmp_ne at hf
    (repeat' split at hf) <;> first | (cases hf; rfl) | (cases hf)
  · intro p l e R s m args below meth c Q ad D cA kE CE SE C x ip' x' hf k
    obtain ⟨hx, hb, hml, hown, hts, hr, hlk, hfr, hlo, hinj, hK, hZ, hCE, hSE⟩ := C
    unfold i_icmp_ne at hf
    (repeat' split at hf) <;> first | (cases hf; done) | skip
    all_goals cases hf
    all_goals intro H locs sl cells slots h1 h2 hP hS hL
    all_goals refine lv_icmp_ne hx hb hd ht (fun z => ?_) (fun z => ?_)
    all_goals first
      | (exfalso; first | (exact absurd z (by assumption)) | (exact absurd (by assumption) z))
      | exact k H locs sl cells slots h1 h2 hP hS hL
      | (rw [← hp]; exact k H locs sl cells slots h1 h2 hP hS hL)
def i_if_lt (t : Nat) : Ico := fun ip x => match x with
  | (L, .int a :: st, mem) => if a < 0 then some (t, L, st, mem) else some (ip + 1, L, st, mem)
  | _ => none
theorem sp_if_lt {t : Nat} {off : Int} (hd : decode cc (P ip) = .ok (.ifCond .lt off, 3)) (ht : (P ip : Int) + off = (P t : Int)) (hp : P (ip + 1) = P ip + 3) : z_SP N Ts Z own cc nL rt fr lo c2 P ip (i_if_lt t) := by
  refine ⟨?_, ?_⟩
  · intro x ip' x' hf
    unfold i_if_lt at hf
    (repeat' split at hf) <;> first | (cases hf; rfl) | (cases hf)
  · intro p l e R s m args below meth c Q ad D cA kE CE SE C x ip' x' hf k
    obtain ⟨hx, hb, hml, hown, hts, hr, hlk, hfr, hlo, hinj, hK, hZ, hCE, hSE⟩ := C
    unfold i_if_lt at hf
    (repeat' split at hf) <;> first | (cases hf; done) | skip
    all_goals cases hf
    all_goals intro H locs sl cells slots h1 h2 hP hS hL
    all_goals refine lv_if_lt hx hb hd ht (fun z => ?_) (fun z => ?_)
    all_goals first
      | (exfalso; first | (exact absurd z (by assumption)) | (exact absurd (by assumption) z))
      | exact k H locs sl cells slots h1 h2 hP hS hL
      | (rw [← hp]; exact k H locs sl cells slots h1 h2 hP hS hL)
def i_icmp_lt (t : Nat) : Ico := fun ip x => match x with
  | (L, .int b :: .int a :: st, mem) => if a < b then some (t, L, st, mem) else some (ip + 1, L, st, mem)
  | _ => none
theorem sp_icmp_lt {t : Nat} {off : Int} (hd : decode cc (P ip) = .ok (.if_icmp .lt off, 3)) (ht : (P ip : Int) + off = (P t : Int)) (hp : P (ip + 1) = P ip + 3) : z_SP N Ts Z own cc nL rt fr lo c2 P ip (i_icmp_lt t) := by
  refine ⟨?_, ?_⟩
  · intro x ip' x' hf
    unfold i_icmp_lt at hf
    (repeat' split at hf) <;> first | (cases hf; rfl) | (cases hf)
  · intro p l e R s m args below meth c Q ad D cA kE CE SE C x ip' x' hf k
    obtain ⟨hx, hb, hml, hown, hts, hr, hlk, hfr, hlo, hinj, hK, hZ, hCE, hSE⟩ := C
    unfold i_icmp_lt at hf
    (repeat' split at hf) <;> first | (cases hf; done) | skip
    all_goals cases hf
    all_goals intro H locs sl cells slots h1 h2 hP hS hL
    all_goals refine lv_icmp_lt hx hb hd ht (fun z => ?_) (fun z => ?_)
    all_goals first
      | (exfalso; first | (exact absurd z (by assumption)) | (exact absurd (by assumption) z))
      | exact k H locs sl cells slots h1 h2 hP hS hL
      | (rw [← hp]; exact k H locs sl cells slots h1 h2 hP hS hL)
def i_if_ge (t : Nat) : Ico := fun ip x => match x with
  | (L, .int a :: st, mem) => if 0 ≤ a then some (t, L, st, mem) else some (ip + 1, L, st, mem)
  | _ => none
theorem sp_if_ge {t : Nat} {off : Int} (hd : decode cc (P ip) = .ok (.ifCond .ge off, 3)) (ht : (P ip : Int) + off = (P t : Int)) (hp : P (ip + 1) = P ip + 3) : z_SP N Ts Z own cc nL rt fr lo c2 P ip (i_if_ge t) := by
  refine ⟨?_, ?_⟩
  · intro x ip' x' hf
    unfold i_if_ge at hf
    (repeat' split at hf) <;> first | (cases hf; rfl) | (cases hf)
  · intro p l e R s m args below meth c Q ad D cA kE CE SE C x ip' x' hf k
    obtain ⟨hx, hb, hml, hown, hts, hr, hlk, hfr, hlo, hinj, hK, hZ, hCE, hSE⟩ := C
    unfold i_if_ge at hf
    (repeat' split at hf) <;> first | (cases hf; done) | skip
    all_goals cases hf
    all_goals intro H locs sl cells slots h1 h2 hP hS hL
    all_goals refine lv_if_ge hx hb hd ht (fun z => ?_) (fun z => ?_)
    all_goals first
      | (exfalso; first | (exact absurd z (by assumption)) | (exact absurd (by assumption) z))
      | exact k H locs sl cells slots h1 h2 hP hS hL
      | (rw [← hp]; exact k H locs sl cells slots h1 h2 hP hS hL)
def i_icmp_ge (t : Nat) : Ico := fun ip x => match x with
  | (L, .int b :: .int a :: st, mem) => if b ≤ a then some (t, L, st, mem) else some (ip + 1, L, st, mem)
  | _ => none
theorem sp_icmp_ge {t : Nat} {off : Int} (hd : decode cc (P ip) = .ok (.if_icmp .ge off, 3)) (ht : (P ip : Int) + off = (P t : Int)) (hp : P (ip + 1) = P ip + 3) : z_SP N Ts Z own cc nL rt fr lo c2 P ip (i_icmp_ge t) := by
  refine ⟨?_, ?_⟩
  · intro x ip' x' hf
    unfold i_icmp_ge at hf
    (repeat' split at hf) <;> first | (cases hf; rfl) | (cases hf)
  · intro p l e R s m args below meth c Q ad D cA kE CE SE C x ip' x' hf k
    obtain ⟨hx, hb, hml, hown, hts, hr, hlk, hfr, hlo, hinj, hK, hZ, hCE, hSE⟩ := C
    unfold i_icmp_ge at hf
    (repeat' split at hf) <;> first | (cases hf; done) | skip
    all_goals cases hf
    all_goals intro H locs sl cells slots h1 h2 hP hS hL
    all_goals refine lv_icmp_ge hx hb hd ht (fun z => ?_) (fun z => ?_)
    all_goals first
      | (exfalso; first | (exact absurd z (by assumption)) | (exact absurd (by assumption) z))
      | exact k H locs sl cells slots h1 h2 hP hS hL
      | (rw [← hp]; exact k H locs sl cells slots h1 h2 hP hS hL)
def i_if_gt (t : Nat) : Ico := fun ip x => match x with
  | (L, .int a :: st, mem) => if 0 < a then some (t, L, st, mem) else some (ip + 1, L, st, mem)
  | _ => none
theorem sp_if_gt {t : Nat} {off : Int} (hd : decode cc (P ip) = .ok (.ifCond .gt off, 3)) (ht : (P ip : Int) + off = (P t : Int)) (hp : P (ip + 1) = P ip + 3) : z_SP N Ts Z own cc nL rt fr lo c2 P ip (i_if_gt t) := by
  refine ⟨?_, ?_⟩
  · intro x ip' x' hf
    unfold i_if_gt at hf
    (repeat' split at hf) <;> first | (cases hf; rfl) | (cases hf)
  · intro p l e R s m args below meth c Q ad D cA kE CE SE C x ip' x' hf k
    obtain ⟨hx, hb, hml, hown, hts, hr, hlk, hfr, hlo, hinj, hK, hZ, hCE, hSE⟩ := C
    unfold i_if_gt at hf
    (repeat' split at hf) <;> first | (cases hf; done) | skip
    all_goals cases hf
    all_goals intro H locs sl cells slots h1 h2 hP hS hL
    all_goals refine lv_if_gt hx hb hd ht (fun z => ?_) (fun z => ?_)
    all_goals first
      | (exfalso; first | (exact absurd z (by assumption)) | (exact absurd (by assumption) z))
      | exact k H locs sl cells slots h1 h2 hP hS hL
      | (rw [← hp]; exact k H locs sl cells slots h1 h2 hP hS hL)
def i_icmp_gt (t : Nat) : Ico := fun ip x => match x with
  | (L, .int b :: .int a :: st, mem) => if b < a then some (t, L, st, mem) else some (ip + 1, L, st, mem)
  | _ => none
theorem sp_icmp_gt {t : Nat} {off : Int} (hd : decode cc (P ip) = .ok (.if_icmp .gt off, 3)) (ht : (P ip : Int) + off = (P t : Int)) (hp : P (ip + 1) = P ip + 3) : z_SP N Ts Z own cc nL rt fr lo c2 P ip (i_icmp_gt t) := by
  refine ⟨?_, ?_⟩
  · intro x ip' x' hf
    unfold i_icmp_gt at hf
    (repeat' split at hf) <;> first | (cases hf; rfl) | (cases hf)
  · intro p l e R s m args below meth c Q ad D cA kE CE SE C x ip' x' hf k
    obtain ⟨hx, hb, hml, hown, hts, hr, hlk, hfr, hlo, hinj, hK, hZ, hCE, hSE⟩ := C
    unfold i_icmp_gt at hf
    (repeat' split at hf) <;> first | (cases hf; done) | skip
    all_goals cases hf
    all_goals intro H locs sl cells slots h1 h2 hP hS hL
    all_goals refine lv_icmp_gt hx hb hd ht (fun z => ?_) (fun z => ?_)
    all_goals first
      | (exfalso; first | (exact absurd z (by assumption)) | (exact absurd (by assumption) z))
      | exact k H locs sl cells slots h1 h2 hP hS hL
      | (rw [← hp]; exact k H locs sl cells slots h1 h2 hP hS hL)
def i_if_le (t : Nat) : Ico := fun ip x => match x with
  | (L, .int a :: st, mem) => if a ≤ 0 then some (t, L, st, mem) else some (ip + 1, L, st, mem)
  | _ => none
theorem sp_if_le {t : Nat} {off : Int} (hd : decode cc (P ip) = .ok (.ifCond .le off, 3)) (ht : (P ip : Int) + off = (P t : Int)) (hp : P (ip + 1) = P ip + 3) : z_SP N Ts Z own cc nL rt fr lo c2 P ip (i_if_le t) := by
  refine ⟨?_, ?_⟩
  · intro x ip' x' hf
    unfold i_if_le at hf
    (repeat' split at hf) <;> first | (cases hf; rfl) | (cases hf)
  · intro p l e R s m args below meth c Q ad D cA kE CE SE C x ip' x' hf k
    obtain ⟨hx, hb, hml, hown, hts, hr, hlk, hfr, hlo, hinj, hK, hZ, hCE, hSE⟩ := C
    unfold i_if_le at hf
    (repeat' split at hf) <;> first | (cases hf; done) | skip
    all_goals cases hf
    all_goals intro H locs sl cells slots h1 h2 hP hS hL
    all_goals refine lv_if_le hx hb hd ht (fun z => ?_) (fun z => ?_)
    all_goals first
      | (exfalso; first | (exact absurd z (by assumption)) | (exact absurd (by assumption) z))
      | exact k H locs sl cells slots h1 h2 hP hS hL
      | (rw [← hp]; exact k H locs sl cells slots h1 h2 hP hS hL)
def i_icmp_le (t : Nat) : Ico := fun ip x => match x with
  | (L, .int b :: .int a :: st, mem) => if a ≤ b then some (t, L, st, mem) else some (ip + 1, L, st, mem)
  | _ => none
theorem sp_icmp_le {t : Nat} {off : Int} (hd : decode cc (P ip) = .ok (.if_icmp .le off, 3)) (ht : (P ip : Int) + off = (P t : Int)) (hp : P (ip + 1) = P ip + 3) : z_SP N Ts Z own cc nL rt fr lo c2 P ip (i_icmp_le t) := by
  refine ⟨?_, ?_⟩
  · intro x ip' x' hf
    unfold i_icmp_le at hf
    (repeat' split at hf) <;> first | (cases hf; rfl) | (cases hf)
  · intro p l e R s m args below meth c Q ad D cA kE CE SE C x ip' x' hf k
    obtain ⟨hx, hb, hml, hown, hts, hr, hlk, hfr, hlo, hinj, hK, hZ, hCE, hSE⟩ := C
    unfold i_icmp_le at hf
    (repeat' split at hf) <;> first | (cases hf; done) | skip
    all_goals cases hf
    all_goals intro H locs sl cells slots h1 h2 hP hS hL
    all_goals refine lv_icmp_le hx hb hd ht (fun z => ?_) (fun z => ?_)
    all_goals first
      | (exfalso; first | (exact absurd z (by assumption)) | (exact absurd (by assumption) z))
      | exact k H locs sl cells slots h1 h2 hP hS hL
      | (rw [← hp]; exact k H locs sl cells slots h1 h2 hP hS hL)
end Z5
