/-! The flat memory of the whole system, and rows of the machine said of it. -/
abbrev Mm : Type := (Nat → Nat → Int32) × (Nat → Nat → Int64) × Nat
abbrev Sx : Type := List Value × List Value × Mm
abbrev Ico : Type := Nat → Sx → Option (Nat × Sx)
def z_up {α : Type} (f : Nat → Nat → α) (k j : Nat) (x : α) : Nat → Nat → α := fun a b => if a = k then (if b = j then x else f k b) else f a b
def z_cv (ad : Nat → Nat) : Value → Value
  | .ref k => .ref (ad k)
  | .int x => .int x
  | .long x => .long x
  | .float x => .float x
  | .double x => .double x
  | .null => .null
  | .retAddr a => .retAddr a
theorem z_cat (ad : Nat → Nat) (v : Value) : (z_cv ad v).category = v.category := by cases v <;> rfl
/-- the shape of a world's cells, by their role -/
def z_shW (w r : Nat) : Nat × Nat × List Nat := match r with
  | 0 => (0, 7, [w + 3, w + 5, w + 9, w + 17, 0, 0])
  | 1 => (0, 1, [0, 0, w + 4])
  | 2 => (1, 144, [])
  | 3 => (0, 3, [0, 0, w + 6, w + 7, w + 8])
  | 4 => (1, 8, [])
  | 5 => (1, 8, [])
  | 6 => (1, 8, [])
  | 7 => (0, 6, [0, w + 10, w + 11, w + 12, w + 13, w + 14, w + 15, w + 16])
  | 15 => (1, 24, [])
  | _ => (1, 6, [])
def z_shD (d r : Nat) : Nat × Nat × List Nat := match r with
  | 0 => (0, 0, [d + 3, 0, d + 4, 0])
  | _ => (1, 144, [])
/-- the shape of a cell: (0, class, what its slots hold) or (kind, length, references): kinds 1 int, 2 byte, 3 boolean, 4 long, 5 worlds, 6 distances; what a slot holds: 0 an int, 1 a long, r + 2 the cell r -/
def z_sh (k : Nat) : Nat × Nat × List Nat :=
  if k < 192 then z_shW (16 * (k / 16)) (k % 16)
  else if 201 ≤ k ∧ k < 228 then z_shD (201 + 3 * ((k - 201) / 3)) ((k - 201) % 3)
  else match k with
  | 192 => (0, 8, [2, 18, 195, 197, 198, 199, 201, 227, 230, 0, 0])
  | 193 => (0, 2, [0, 0, 196])
  | 194 => (5, 8, [32, 48, 64, 80, 96, 112, 128, 144])
  | 195 => (5, 2, [160, 176])
  | 196 => (3, 2, [])
  | 197 => (0, 5, [0, 200, 0, 0, 0, 0, 0])
  | 198 => (2, 800, [])
  | 199 => (0, 4, [202])
  | 200 => (6, 8, [201, 204, 207, 210, 213, 216, 219, 222])
  | 228 => (2, 156, [])
  | 229 => (4, 1, [])
  | 230 => (0, 9, [233, 234, 235, 236, 237, 238, 0, 239, 0, 0, 0, 240, 241, 0, 0, 0, 0, 0, 0, 1, 0, 242, 0])
  | 231 => (1, 256, [])
  | 232 => (1, 256, [])
  | 233 => (1, 256, [])
  | 234 => (1, 2048, [])
  | 235 => (1, 512, [])
  | 236 => (3, 2, [])
  | 237 => (1, 800, [])
  | 238 => (1, 144, [])
  | 239 => (1, 144, [])
  | 240 => (1, 160, [])
  | _ => (9, 0, [])
def z_fv (k : Nat) (mem : Mm) (c j : Nat) : Value := match c with
  | 0 => .int (mem.1 k j)
  | 1 => .long (mem.2.1 k j)
  | r + 2 => .ref r
def z_fvs (k : Nat) (mem : Mm) : Nat → List Nat → List Value
  | _, [] => []
  | j, c :: cs => z_fv k mem c j :: z_fvs k mem (j + 1) cs
theorem z_fvs_at (k : Nat) (mem : Mm) (cs : List Nat) (j i : Nat) : (z_fvs k mem j cs)[i]? = (cs[i]?).map (fun c => z_fv k mem c (j + i)) := by
  induction cs generalizing j i with
  | nil => simp [z_fvs]
  | cons c cs ih =>
    cases i with
    | zero => simp [z_fvs]
    | succ i =>
      simp only [z_fvs, List.getElem?_cons_succ]
      rw [ih (j + 1) i, show j + 1 + i = j + (i + 1) by omega]
theorem z_fvs_len (k : Nat) (mem : Mm) (cs : List Nat) (j : Nat) : (z_fvs k mem j cs).length = cs.length := by
  induction cs generalizing j with
  | nil => rfl
  | cons c cs ih => simp only [z_fvs, List.length_cons, ih]
theorem z_fvs_congr {k : Nat} {m1 m2 : Mm} (h1 : m1.1 k = m2.1 k) (h2 : m1.2.1 k = m2.2.1 k) (cs : List Nat) (j : Nat) : z_fvs k m1 j cs = z_fvs k m2 j cs := by
  induction cs generalizing j with
  | nil => rfl
  | cons c cs ih =>
    simp only [z_fvs, ih]
    congr 1
    unfold z_fv
    rw [h1, h2]
def z_cel (ad : Nat → Nat) (cA : Nat → ClassId) (k : Nat) (mem : Mm) : va_E :=
  if (z_sh k).1 = 0 then .inr ((z_sh k).2.1, (z_fvs k mem 0 (z_sh k).2.2).map (z_cv ad))
  else if (z_sh k).1 = 4 then .inl (cA 4, (z_sh k).2.1, .inr (.inl (mem.2.1 k)))
  else if 5 ≤ (z_sh k).1 then .inl (cA (z_sh k).1, (z_sh k).2.1, .inr (.inr (.inr (.inr fun j => ((z_sh k).2.2[j]?).map ad))))
  else .inl (cA (z_sh k).1, (z_sh k).2.1, .inl (mem.1 k))
theorem z_cel_congr {ad : Nat → Nat} {cA : Nat → ClassId} {k : Nat} {m1 m2 : Mm} (h1 : m1.1 k = m2.1 k) (h2 : m1.2.1 k = m2.2.1 k) : z_cel ad cA k m1 = z_cel ad cA k m2 := by
  unfold z_cel
  rw [z_fvs_congr h1 h2, h1, h2]
def z_W (N : Nat) (ad : Nat → Nat) (cA : Nat → ClassId) (mem : Mm) : va_W := (List.range N).map fun k => (ad k, z_cel ad cA k mem)
theorem z_W_at {N : Nat} {ad : Nat → Nat} {cA : Nat → ClassId} {mem : Mm} {k : Nat} (h : k < N) : (z_W N ad cA mem)[k]? = some (ad k, z_cel ad cA k mem) := by
  simp [z_W, List.getElem?_map, List.getElem?_range h]
theorem z_W_set {N : Nat} {ad : Nat → Nat} {cA : Nat → ClassId} {m1 m2 : Mm} {k : Nat} (h : k < N) (h1 : ∀ j, j ≠ k → m1.1 j = m2.1 j) (h2 : ∀ j, j ≠ k → m1.2.1 j = m2.2.1 j) {e : va_E} (he : e = z_cel ad cA k m2) : (z_W N ad cA m1).set k (ad k, e) = z_W N ad cA m2 := by
  subst he
  apply List.ext_getElem?
  intro i
  rw [List.getElem?_set]
  by_cases hi : i < N
  · rw [z_W_at hi, z_W_at hi]
    by_cases hk : k = i
    · subst hk
      rw [if_pos rfl, if_pos (by simp [z_W, h])]
    · rw [if_neg hk, z_cel_congr (h1 i (Ne.symm hk)) (h2 i (Ne.symm hk))]
  · have hn : ∀ mm : Mm, (z_W N ad cA mm)[i]? = none := fun mm => by
      apply List.getElem?_eq_none
      simp [z_W]; omega
    rw [hn, hn, if_neg (by omega)]
def z_A (N : Nat) (ad : Nat → Nat) : Nat → Prop := fun q => ∃ k, k < N ∧ q = ad k
theorem z_D {N : Nat} {ad : Nat → Nat} {cA : Nat → ClassId} {mem : Mm} (hinj : ∀ i j, i < N → j < N → ad i = ad j → i = j) : va_D (z_A N ad) (z_W N ad cA mem) := by
  have hat : ∀ (i : Nat) (p : Nat × va_E), (z_W N ad cA mem)[i]? = some p → i < N ∧ p.1 = ad i := by
    intro i p hp
    by_cases hi : i < N
    · rw [z_W_at hi] at hp
      cases hp
      exact ⟨hi, rfl⟩
    · rw [List.getElem?_eq_none (by simp [z_W]; omega)] at hp
      cases hp
  refine ⟨fun i j p q hp hq he => ?_, fun k q hq => ?_⟩
  · obtain ⟨a1, a2⟩ := hat i p hp
    obtain ⟨b1, b2⟩ := hat j q hq
    exact hinj i j a1 b1 (by rw [← a2, ← b2, he])
  · obtain ⟨a1, a2⟩ := hat k q hq
    exact ⟨k, a1, a2⟩
abbrev z_ty (cA : Nat → ClassId) : List (ClassId × FieldType) := [(cA 1, .int), (cA 2, .byte), (cA 3, .boolean), (cA 4, .int), (cA 5, .object "FalseLightMarsh$World"), (cA 6, .object "FalseLightMarsh$Distances")]
/-- the locals that are known: all but .null -/
def z_prs (ad : Nat → Nat) : Nat → List Value → List (Nat × Value)
  | _, [] => []
  | i, v :: vs => match v with
    | .null => z_prs ad (i + 1) vs
    | v => (i, z_cv ad v) :: z_prs ad (i + 1) vs
theorem z_prs_mem (ad : Nat → Nat) (L : List Value) (b : Nat) (q : Nat × Value) : q ∈ z_prs ad b L ↔ ∃ (i : Nat) (v : Value), L[i]? = some v ∧ v ≠ .null ∧ q = (b + i, z_cv ad v) := by
  induction L generalizing b with
  | nil => simp [z_prs]
  | cons v vs ih =>
    have hstep : (∃ (i : Nat) (w : Value), (v :: vs)[i]? = some w ∧ w ≠ .null ∧ q = (b + i, z_cv ad w)) ↔ (v ≠ .null ∧ q = (b, z_cv ad v)) ∨ ∃ (i : Nat) (w : Value), vs[i]? = some w ∧ w ≠ .null ∧ q = (b + 1 + i, z_cv ad w) := by
      constructor
      · rintro ⟨i, w, h1, h2, h3⟩
        cases i with
        | zero => simp only [List.getElem?_cons_zero, Option.some.injEq] at h1; subst h1; exact Or.inl ⟨h2, h3⟩
        | succ i => exact Or.inr ⟨i, w, by simpa using h1, h2, by rw [h3]; congr 1; omega⟩
      · rintro (⟨h2, h3⟩ | ⟨i, w, h1, h2, h3⟩)
        · exact ⟨0, v, rfl, h2, h3⟩
        · exact ⟨i + 1, w, by simpa using h1, h2, by rw [h3]; congr 1; omega⟩
    rw [hstep]
    unfold z_prs
    split
    · rw [ih (b + 1)]
      simp
    · rename_i v' hv
      rw [List.mem_cons, ih (b + 1)]
      constructor
      · rintro (h | h)
        · exact Or.inl ⟨fun e => hv e, h⟩
        · exact Or.inr h
      · rintro (⟨-, h⟩ | h)
        · exact Or.inl h
        · exact Or.inr h
def z_has (ad : Nat → Nat) (c2 : Nat → Bool) (nL : Nat) (sl : Array Slot) (L : List Value) : Prop := lv_has sl nL (z_prs ad 0 L) ∧ ∀ (i : Nat) (v : Value), L[i]? = some v → v.category = 2 → c2 i = true
theorem z_has_at {ad : Nat → Nat} {c2 : Nat → Bool} {nL : Nat} {sl : Array Slot} {L : List Value} (h : z_has ad c2 nL sl L) {i : Nat} {v : Value} (hi : L[i]? = some v) (hv : v ≠ .null) : sl[i]? = some (.val (z_cv ad v)) := by
  have := h.1.2.2 (i, z_cv ad v) ((z_prs_mem ad L 0 _).mpr ⟨i, v, hi, hv, by rw [Nat.zero_add]⟩)
  exact this
/-- what the new list of known locals says behind a store of one word -/
theorem z_has_set {ad : Nat → Nat} {c2 : Nat → Bool} {nL : Nat} {sl' : Array Slot} {L : List Value} {i : Nat} {v w : Value} (h2 : ∀ (i : Nat) (v : Value), L[i]? = some v → v.category = 2 → c2 i = true) (hw : w = z_cv ad v) (hv1 : v.category = 1) (hc : ∀ j, j + 1 = i → c2 j = false)
    (h : lv_has sl' nL ((i, w) :: (z_prs ad 0 L).filter (fun q => !(q.1 == i) && !(q.1 + 1 == i && q.2.category == 2)))) : z_has ad c2 nL sl' (L.set i v) := by
  refine ⟨⟨h.1, h.2.1, fun q hq => ?_⟩, fun j u hj hu => ?_⟩
  · obtain ⟨j, u, h3, h4, h5⟩ := (z_prs_mem ad _ 0 q).mp hq
    rw [Nat.zero_add] at h5
    subst h5
    apply h.2.2
    by_cases hji : i = j
    · subst hji
      have : u = v := by
        rw [List.getElem?_set] at h3
        rw [if_pos rfl] at h3
        split at h3
        · exact (Option.some.inj h3).symm
        · cases h3
      subst this
      rw [hw]
      exact List.mem_cons_self
    · rw [List.getElem?_set, if_neg hji] at h3
      refine List.mem_cons_of_mem _ (List.mem_filter.mpr ⟨(z_prs_mem ad L 0 _).mpr ⟨j, u, h3, h4, by rw [Nat.zero_add]⟩, ?_⟩)
      have h6 : (j == i) = false := by simp; omega
      have h7 : (j + 1 == i && (z_cv ad u).category == 2) = false := by
        rw [z_cat]
        by_cases hj1 : j + 1 = i
        · have h8 := hc j hj1
          have h9 : ¬ u.category = 2 := fun e => by rw [h2 j u h3 e] at h8; cases h8
          simp [h9]
        · simp [hj1]
      simp only [h6, h7]
      rfl
  · rw [List.getElem?_set] at hj
    split at hj
    · split at hj
      · cases hj
        omega
      · cases hj
    · exact h2 j u hj hu
/-- the same behind a store of two words -/
theorem z_has_set2 {ad : Nat → Nat} {c2 : Nat → Bool} {nL : Nat} {sl' : Array Slot} {L : List Value} {i : Nat} {v w : Value} (h2 : ∀ (i : Nat) (v : Value), L[i]? = some v → v.category = 2 → c2 i = true) (hw : w = z_cv ad v) (hv1 : c2 i = true) (hc : ∀ j, j + 1 = i → c2 j = false)
    (h : lv_has sl' nL ((i, w) :: (z_prs ad 0 L).filter (fun q => !(q.1 == i) && (!(q.1 == i + 1) && !(q.1 + 1 == i && q.2.category == 2))))) : z_has ad c2 nL sl' ((L.set i v).set (i + 1) .null) := by
  refine ⟨⟨h.1, h.2.1, fun q hq => ?_⟩, fun j u hj hu => ?_⟩
  · obtain ⟨j, u, h3, h4, h5⟩ := (z_prs_mem ad _ 0 q).mp hq
    rw [Nat.zero_add] at h5
    subst h5
    apply h.2.2
    rw [List.getElem?_set] at h3
    by_cases hj2 : i + 1 = j
    · rw [if_pos hj2] at h3
      split at h3
      · cases h3; exact absurd rfl h4
      · cases h3
    · rw [if_neg hj2] at h3
      by_cases hji : i = j
      · subst hji
        have : u = v := by
          rw [List.getElem?_set] at h3
          rw [if_pos rfl] at h3
          split at h3
          · exact (Option.some.inj h3).symm
          · cases h3
        subst this
        rw [hw]
        exact List.mem_cons_self
      · rw [List.getElem?_set, if_neg hji] at h3
        refine List.mem_cons_of_mem _ (List.mem_filter.mpr ⟨(z_prs_mem ad L 0 _).mpr ⟨j, u, h3, h4, by rw [Nat.zero_add]⟩, ?_⟩)
        have h6 : (j == i) = false := by simp; omega
        have h6' : (j == i + 1) = false := by simp; omega
        have h7 : (j + 1 == i && (z_cv ad u).category == 2) = false := by
          rw [z_cat]
          by_cases hj1 : j + 1 = i
          · have h8 := hc j hj1
            have h9 : ¬ u.category = 2 := fun e => by rw [h2 j u h3 e] at h8; cases h8
            simp [h9]
          · simp [hj1]
        simp only [h6, h6', h7]
        rfl
  · rw [List.getElem?_set] at hj
    split at hj
    · split at hj
      · cases hj
        cases hu
      · cases hj
    · rw [List.getElem?_set] at hj
      split at hj
      · split at hj
        · rename_i e1 e2
          rw [← e1]; exact hv1
        · cases hj
      · exact h2 j u hj hu
/-- what holds all through a method -/
def z_Cx (N : Nat) (Ts : List Cond) (Z : (Nat → Nat) → State → Heap → Prop) (own : String) (cc : ByteArray) (nL : Nat) (rt : Option FieldType) (fr lo : Nat) (ad : Nat → Nat) (D : va_G) (cA : Nat → ClassId) (CE SE : Nat) (p : Program) (l : Launch) (R : Room) (s : State) (m : MethodId) (args : Array Value) (meth : Method) (c : Code) : Prop :=
  p.tables.exec = Jvm.exec ∧ c.code = cc ∧ c.maxLocals = nL ∧ s.vm.findClass own = some m.cls ∧ (∀ w ∈ Ts, w.before args s = true) ∧ meth.sig.returnType = rt ∧ meth.locks = false ∧ R.frames = fr ∧ R.locals = lo ∧ (∀ i j, i < N → j < N → ad i = ad j → i = j) ∧ va_K D vwCl (z_ty cA) s ∧ Z ad s s.heap ∧ CE ≤ R.cells ∧ SE ≤ R.slots
def z_At (N : Nat) (c2 : Nat → Bool) (nL : Nat) (ad : Nat → Nat) (D : va_G) (cA : Nat → ClassId) (p : Program) (l : Launch) (e : Env) (R : Room) (s : State) (m : MethodId) (args : Array Value) (below : List Frame) (meth : Method) (c : Code) (Q : State → Prop) (kE CE SE : Nat) (pc : Nat) (x : Sx) : Prop :=
  ∀ (H : Heap) (locs : List Loc) (sl : Array Slot) (cells slots : Nat), cells + (kE - x.2.2.2.2) = CE → slots + 6 * (kE - x.2.2.2.2) = SE → va_P D vwCl (z_W N ad cA x.2.2) H → va_S (z_A N ad) s.heap H locs → z_has ad c2 nL sl x.1 →
    W p l e R s m args below meth c H locs cells slots Q (F0 m pc sl (x.2.1.map (z_cv ad)))
/-- a step of the abstract machine is one of the machine -/
def z_SP (N : Nat) (Ts : List Cond) (Z : (Nat → Nat) → State → Heap → Prop) (own : String) (cc : ByteArray) (nL : Nat) (rt : Option FieldType) (fr lo : Nat) (c2 : Nat → Bool) (P : Nat → Nat) (ip : Nat) (f : Ico) : Prop :=
  (∀ x ip' x', f ip x = some (ip', x') → x'.2.2.2.2 = x.2.2.2.2) ∧
  ∀ (p : Program) (l : Launch) (e : Env) (R : Room) (s : State) (m : MethodId) (args : Array Value) (below : List Frame) (meth : Method) (c : Code) (Q : State → Prop) (ad : Nat → Nat) (D : va_G) (cA : Nat → ClassId) (kE CE SE : Nat),
    z_Cx N Ts Z own cc nL rt fr lo ad D cA CE SE p l R s m args meth c → ∀ x ip' x', f ip x = some (ip', x') →
    z_At N c2 nL ad D cA p l e R s m args below meth c Q kE CE SE (P ip') x' → z_At N c2 nL ad D cA p l e R s m args below meth c Q kE CE SE (P ip) x
