/-! The abstract machine, and that the machine follows it. -/
abbrev Ent : Type := Ico ⊕ (Nat × Nat × Nat)
abbrev Res : Type := (Option Value ⊕ Nat) × Mm
def z_flat : List Value → List Value
  | [] => []
  | v :: vs => match v with
    | .long w => .long w :: .null :: z_flat vs
    | .double w => .double w :: .null :: z_flat vs
    | v => v :: z_flat vs
def z_ent (nL : Nat) (args : List Value) : List Value := z_flat args ++ List.replicate (nL - (z_flat args).length) .null
def z_c2ok (c2 : Nat → Bool) : Nat → List Value → Bool
  | _, [] => true
  | i, v :: vs => match v with
    | .long _ => c2 i && z_c2ok c2 (i + 1) vs
    | .double _ => c2 i && z_c2ok c2 (i + 1) vs
    | _ => z_c2ok c2 (i + 1) vs
def z_fit (nL : Nat) (c2 : Nat → Bool) (args : List Value) : Bool := Nat.ble (z_flat args).length nL && z_c2ok c2 0 (z_ent nL args)
def z_ret (k : Nat) (v : Value) : Option Value := match k, v with
  | 0, .int x => some (.int x)
  | 1, .int x => some (.int (vp_nar .boolean x))
  | 2, .int x => some (.int (vp_nar .byte x))
  | 3, .float x => some (.float x)
  | 4, .double x => some (.double x)
  | 5, .int x => some (.int (vp_nar .char x))
  | _, _ => none
def z_rty (k : Nat) : FieldType := match k with
  | 0 => .int
  | 1 => .boolean
  | 2 => .byte
  | 3 => .float
  | _ => .double
def z_okc (N : Nat) (ci : Nat) (nL : Nat) (c2 : Nat → Bool) (k n : Nat) (st : List Value) : Bool :=
  Nat.ble n st.length && Nat.ble (st.drop n).length 4 && z_fit nL c2 (st.take n).reverse && (match k with
  | 3 => (match (st.take n).reverse with
    | .ref r :: _ => Nat.blt r N && ((z_sh r).1 == 0) && ((z_sh r).2.1 == ci)
    | _ => false)
  | 6 => (match (st.take n).reverse with
    | .ref r :: _ => Nat.ble 320 r && Nat.blt r 330
    | _ => false)
  | _ => true)
section RUN
variable (N : Nat) (tab : Nat → Nat → Option Ent) (nl : Nat → Nat) (c2 : Nat → Nat → Bool) (cl : Nat → Nat) (hnd : Nat → Nat → Option Int32)
/-- the abstract machine: by its fuel, a method, a place in it, a state; what the method returns or throws, and the memory behind it -/
def z_run : Nat → Nat → Nat → Sx → Option Res
  | 0, _, _, _ => none
  | f + 1, y, ip, x => match tab y ip with
    | none => none
    | some (.inl g) => match g ip x with
      | none => none
      | some (ip', x') => z_run f y ip' x'
    | some (.inr (0, k, _)) => match x.2.1 with
      | [v] => match z_ret k v with
        | some w => some (.inl (some w), x.2.2)
        | none => none
      | _ => none
    | some (.inr (1, _, _)) => match x.2.1 with
      | [] => some (.inl none, x.2.2)
      | _ => none
    | some (.inr (5, k, _)) => match x.2.1 with
      | [] => some (.inr k, (x.2.2.1, x.2.2.2.1, x.2.2.2.2 + 1))
      | _ => none
    | some (.inr (k, y2, n)) => if z_okc N (cl y2) (nl y2) (c2 y2) k n x.2.1 = true then (match z_run f y2 0 (z_ent (nl y2) (x.2.1.take n).reverse, [], x.2.2) with
      | none => none
      | some (.inl v, mem') => z_run f y (ip + 1) (x.1, v.toList ++ x.2.1.drop n, mem')
      | some (.inr ex, mem') => if k = 4 then none else (match hnd y ex with
        | some z => some (.inl (some (.int z)), mem')
        | none => some (.inr ex, mem'))) else none
variable (Ts : List Cond) (Z : (Nat → Nat) → State → Heap → Prop) (exn : Nat → String) (yn : Nat → MethodName) (bc : Nat → ByteArray) (rt : Nat → Option FieldType) (fr lo : Nat → Nat) (P : Nat → Nat → Nat) (tb : Nat → List (Nat × Nat × Nat × Nat))
def z_hd (y : Nat) : Cond := if tb y = [] then .code (yn y) (bc y) (nl y) (rt y) else .codeWith (yn y) (bc y) (nl y) (rt y) (tb y)
/-- the post of a run, for a return and for a throw -/
def z_Qc (ad : Nat → Nat) (D : va_G) (cA : Nat → ClassId) (r : Res) : Array Value → State → Outcome → State → Prop := fun _ st o t =>
  ∃ v, r.1 = .inl v ∧ o = .returned (v.map (z_cv ad)) ∧ va_P D vwCl (z_W N ad cA r.2) t.heap ∧ va_F (z_A N ad) st t
def z_XC (ad : Nat → Nat) (D : va_G) (cA : Nat → ClassId) (r : Res) : String → State → State → Prop := fun E st t =>
  ∃ k, r.1 = .inr k ∧ E = exn k ∧ va_P D vwCl (z_W N ad cA r.2) t.heap ∧ va_F (z_A N ad) st t
def z_Pc (ad : Nat → Nat) (D : va_G) (cA : Nat → ClassId) (args : List Value) (mem : Mm) : Array Value → State → Prop :=
  va_Pc (args.map (z_cv ad)) (fun U => va_K D vwCl (z_ty cA) U ∧ va_P D vwCl (z_W N ad cA mem) U.heap ∧ Z ad U U.heap)
def z_Con (l : Launch) (y : Nat) (args : List Value) (mem : Mm) (r : Res) : Prop :=
  ∀ (ad : Nat → Nat) (D : va_G) (cA : Nat → ClassId), (∀ i j, i < N → j < N → ad i = ad j → i = j) →
    vx_Met l (yn y) (z_hd nl yn bc rt tb y :: Ts) { frames := fr y, cells := r.2.2.2 - mem.2.2, slots := 6 * (r.2.2.2 - mem.2.2), locals := lo y } (z_Pc N Z ad D cA args mem) (z_Qc N ad D cA r) (z_XC N exn ad D cA r) (r.2.2.2 - mem.2.2) (6 * (r.2.2.2 - mem.2.2)) (z_A N ad)
/-- the context of a walk in method y -/
abbrev z_C (y : Nat) := z_Cx N Ts Z (yn y).cls (bc y) (nl y) (rt y) (fr y) (lo y)
/-- a return of a value -/
def z_SR (y ip k : Nat) : Prop :=
  ∀ (p : Program) (l : Launch) (e : Env) (R : Room) (s : State) (m : MethodId) (args : Array Value) (below : List Frame) (meth : Method) (c : Code) (ad : Nat → Nat) (D : va_G) (cA : Nat → ClassId) (CE SE : Nat), z_C N nl Ts Z yn bc rt fr lo y ad D cA CE SE p l R s m args meth c →
    ∀ (H : Heap) (locs : List Loc) (sl : Array Slot) (cells slots : Nat) (Qc : Array Value → State → Outcome → State → Prop) (XC : String → State → State → Prop) (free : Addr → Prop) (v w : Value), z_ret k v = some w →
    (∀ t : State, t.heap = H → Qc args s (.returned (some (z_cv ad w))) t) → (∀ q ∈ locs, free q.base) →
    W p l e R s m args below meth c H locs cells slots (vx_MQ below Qc XC args s cells slots free) (F0 m (P y ip) sl [z_cv ad v])
def z_SV (y ip : Nat) : Prop :=
  ∀ (p : Program) (l : Launch) (e : Env) (R : Room) (s : State) (m : MethodId) (args : Array Value) (below : List Frame) (meth : Method) (c : Code) (ad : Nat → Nat) (D : va_G) (cA : Nat → ClassId) (CE SE : Nat), z_C N nl Ts Z yn bc rt fr lo y ad D cA CE SE p l R s m args meth c →
    ∀ (H : Heap) (locs : List Loc) (sl : Array Slot) (cells slots : Nat) (Qc : Array Value → State → Outcome → State → Prop) (XC : String → State → State → Prop) (free : Addr → Prop),
    (∀ t : State, t.heap = H → Qc args s (.returned none) t) → (∀ q ∈ locs, free q.base) →
    W p l e R s m args below meth c H locs cells slots (vx_MQ below Qc XC args s cells slots free) (F0 m (P y ip) sl [])
/-- a throw of a new exception -/
def z_ST (y ip k : Nat) : Prop :=
  ∀ (p : Program) (l : Launch) (e : Env) (R : Room) (s : State) (m : MethodId) (args : Array Value) (below : List Frame) (meth : Method) (c : Code) (ad : Nat → Nat) (D : va_G) (cA : Nat → ClassId) (CE SE : Nat), z_C N nl Ts Z yn bc rt fr lo y ad D cA CE SE p l R s m args meth c → l.stackTraces = false → c.exceptionTable.toList = tableOf (tb y) →
    ∀ (H : Heap) (locs : List Loc) (sl : Array Slot) (cells slots : Nat) (Qc : Array Value → State → Outcome → State → Prop) (XC : String → State → State → Prop) (free : Addr → Prop), va_S (z_A N ad) s.heap H locs → sl.size = nl y →
    (∀ t : State, s.vm.Alike t.vm → H.size ≤ t.heap.size → (∀ q : Nat, q < H.size → t.heap[q]? = H[q]?) → XC (exn k) s t) → (∀ q ∈ locs, free q.base) → cells + 1 ≤ CE → slots + 6 ≤ SE →
    W p l e R s m args below meth c H locs cells slots (vx_MQ below Qc XC args s CE SE free) (F0 m (P y ip) sl [])
/-- a call: of y2, with n values; k is 3 where the first is a receiver, 4 where nothing is thrown -/
def z_SC (y ip k y2 n : Nat) : Prop :=
  ∀ (p : Program) (l : Launch) (e : Env) (R : Room) (s : State) (m : MethodId) (args : Array Value) (below : List Frame) (meth : Method) (c : Code) (ad : Nat → Nat) (D : va_G) (cA : Nat → ClassId) (CE SE : Nat), z_C N nl Ts Z yn bc rt fr lo y ad D cA CE SE p l R s m args meth c →
    ∀ (H : Heap) (locs : List Loc) (sl : Array Slot) (cells slots mc ms : Nat) (Pc : Array Value → State → Prop) (Qc : Array Value → State → Outcome → State → Prop) (XC : String → State → State → Prop) (free : Addr → Prop) (As rest : List Value),
    (k = 4 → ∀ E st t, ¬ XC E st t) → vx_Met l (yn y2) (z_hd nl yn bc rt tb y2 :: Ts) { frames := fr y2, cells := mc, slots := ms, locals := lo y2 } Pc Qc XC mc ms free → FrameBlind Pc → (∀ U : State, U.heap = H → s.WarmedH U.vm → Pc As.toArray U) → Z ad s H →
    (k = 3 → ∃ (b : Addr) (As' : List Value), As = .ref b :: As' ∧ ∃ cellB : Cell, H[b]? = some cellB ∧ cellB.vm.isStatics = false ∧ s.vm.findClass (yn y2).cls = some cellB.cls) → (k = 6 → ∃ (i : Nat) (As' : List Value), i < 10 ∧ As = .ref (ad (320 + i)) :: As') → As.length = n → (rest.map fun v => v.category).sum ≤ 8 → sl.size = nl y → cells + mc ≤ R.cells → slots + ms ≤ R.slots →
    vx_Run p l e R s m args below meth c H locs cells slots mc ms (F0 m (P y ip) sl (As.reverse ++ rest)) rest (Qc As.toArray) XC free
/-- what becomes of an exception that a call throws -/
def z_SH (y ip : Nat) : Prop :=
  ∀ (p : Program) (l : Launch) (e : Env) (R : Room) (s : State) (m : MethodId) (args : Array Value) (below : List Frame) (meth : Method) (c : Code) (ad : Nat → Nat) (D : va_G) (cA : Nat → ClassId) (CE SE : Nat), z_C N nl Ts Z yn bc rt fr lo y ad D cA CE SE p l R s m args meth c → c.exceptionTable.toList = tableOf (tb y) →
    ∀ (k : Nat) (H : Heap) (locs : List Loc) (sl : Array Slot) (cells slots : Nat) (Qc : Array Value → State → Outcome → State → Prop) (XC : String → State → State → Prop) (free : Addr → Prop) (ce : Cell) (q : Addr) (rest : List Value), lv_has sl (nl y) [] → H[q]? = some ce → ce.vm = .none → s.vm.findClass (exn k) = some ce.cls → (∀ z ∈ locs, free z.base) → Z ad s s.heap →
    (∀ z, hnd y k = some z → (∀ t : State, t.heap = H → Qc args s (.returned (some (.int z))) t) → vx_W p l e R s m args below meth c H locs cells slots (vx_MQ below Qc XC args s cells slots free) (F0 m (P y ip) sl rest) q) ∧
    (hnd y k = none → (∀ t : State, t.heap = H → s.vm.Alike t.vm → XC (exn k) s t) → vx_W p l e R s m args below meth c H locs cells slots (vx_MQ below Qc XC args s cells slots free) (F0 m (P y ip) sl rest) q)
def z_SE (y ip : Nat) : Ent → Prop
  | .inl g => z_SP N Ts Z (yn y).cls (bc y) (nl y) (rt y) (fr y) (lo y) (c2 y) (P y) ip g
  | .inr (0, k, _) => z_SR N nl Ts Z yn bc rt fr lo P y ip k
  | .inr (1, _, _) => z_SV N nl Ts Z yn bc rt fr lo P y ip
  | .inr (5, k, _) => z_ST N nl Ts Z exn yn bc rt fr lo P tb y ip k
  | .inr (k, y2, n) => z_SC N nl Ts Z yn bc rt fr lo P tb y ip k y2 n ∧ z_SH N nl hnd Ts Z exn yn bc rt fr lo P tb y ip ∧ P y (ip + 1) = P y ip + 3 ∧ (k = 3 → ∃ T Nf, vwCl[cl y2]? = some ((yn y2).cls, T, Nf))
/-- the counter only grows -/
theorem z_mono (hE : ∀ y ip en, tab y ip = some en → z_SE N nl c2 cl hnd Ts Z exn yn bc rt fr lo P tb y ip en) : ∀ (f y ip : Nat) (x : Sx) (r : Res), z_run N tab nl c2 cl hnd f y ip x = some r → x.2.2.2.2 ≤ r.2.2.2 := by
  intro f
  induction f with
  | zero => intro y ip x r h; cases h
  | succ f ih =>
    intro y ip x r h
    unfold z_run at h
    split at h
    · cases h
    · rename_i g hg
      split at h
      · cases h
      · rename_i ip' x' hx
        have := (hE y ip _ hg).1 x ip' x' hx
        have := ih _ _ _ _ h
        omega
    · (repeat' split at h) <;> cases h
      exact Nat.le_refl _
    · (repeat' split at h) <;> cases h
      exact Nat.le_refl _
    · (repeat' split at h) <;> cases h
      exact Nat.le_succ _
    · split at h
      · split at h
        · cases h
        · rename_i v mem' h1
          have h2 := ih _ _ _ _ h1
          have h3 := ih _ _ _ _ h
          exact Nat.le_trans h2 h3
        · rename_i ex mem' h1
          have h2 := ih _ _ _ _ h1
          (repeat' split at h) <;> cases h <;> exact h2
      · cases h
end RUN
