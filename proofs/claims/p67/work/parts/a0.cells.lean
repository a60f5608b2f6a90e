/-! Runs over cells that are made on the way: what a state is, and that it is one of the machine's. -/
abbrev Sh : Type := Nat × Nat × List Nat
/-- cells that come on the way: what they hold, their shapes, how many there are -/
abbrev DY : Type := GM × (Nat → Sh) × Nat
def w_f (E : Int → Int) (c j : Nat) : Value := match c with
  | 0 => .int (zi (E (j : Int)))
  | 1 => .null
  | r + 2 => .ref r
def w_fs (E : Int → Int) : Nat → List Nat → List Value
  | _, [] => []
  | j, c :: cs => w_f E c j :: w_fs E (j + 1) cs
theorem w_fs_at (E : Int → Int) (cs : List Nat) (j i : Nat) : (w_fs E j cs)[i]? = (cs[i]?).map (fun c => w_f E c (j + i)) := by
  induction cs generalizing j i with
  | nil => simp [w_fs]
  | cons c cs ih =>
    cases i with
    | zero => simp [w_fs]
    | succ i =>
      simp only [w_fs, List.getElem?_cons_succ]
      rw [ih (j + 1) i, show j + 1 + i = j + (i + 1) by omega]
theorem w_fs_len (E : Int → Int) (cs : List Nat) (j : Nat) : (w_fs E j cs).length = cs.length := by
  induction cs generalizing j with
  | nil => rfl
  | cons c cs ih => simp only [w_fs, List.length_cons, ih]
def w_el (ad : Nat → Nat) (cA : Nat → ClassId) (h : Sh) (E : Int → Int) : va_E :=
  if h.1 = 0 then .inr (h.2.1, (w_fs E 0 h.2.2).map (z_cv ad))
  else if 8 ≤ h.1 then .inl (cA h.1, h.2.1, .inr (.inr (.inr (.inr fun j => (h.2.2[j]?).map ad))))
  else .inl (cA h.1, h.2.1, .inl fun j => zi (E (j : Int)))
theorem w_el_obj {ad : Nat → Nat} {cA : Nat → ClassId} {h : Sh} {E : Int → Int} {ci : Nat} {cs : List Nat} (e : h = (0, ci, cs)) : w_el ad cA h E = .inr (ci, (w_fs E 0 cs).map (z_cv ad)) := by
  subst e
  rfl
theorem w_el_ints {ad : Nat → Nat} {cA : Nat → ClassId} {h : Sh} {E : Int → Int} {t n : Nat} {cs : List Nat} (e : h = (t, n, cs)) (ht : ¬ t = 0 ∧ ¬ 8 ≤ t) : w_el ad cA h E = .inl (cA t, n, .inl fun j => zi (E (j : Int))) := by
  subst e
  unfold w_el
  rw [if_neg ht.1, if_neg ht.2]
theorem w_el_refs {ad : Nat → Nat} {cA : Nat → ClassId} {h : Sh} {E : Int → Int} {t n : Nat} {cs : List Nat} (e : h = (t, n, cs)) (ht : ¬ t = 0 ∧ 8 ≤ t) : w_el ad cA h E = .inl (cA t, n, .inr (.inr (.inr (.inr fun j => (cs[j]?).map ad)))) := by
  subst e
  unfold w_el
  rw [if_neg ht.1, if_pos ht.2]
abbrev w_ty (cA : Nat → ClassId) : List (ClassId × FieldType) := z_ty cA ++ [(cA 7, .char), (cA 8, .array .int), (cA 9, .array .char), (cA 10, .array .boolean)]
def w_X (ad : Nat → Nat) (cA : Nat → ClassId) (Y : DY) : va_W := (List.range Y.2.2).map fun i => (ad (1000 + i), w_el ad cA (Y.2.1 i) (Y.1 i))
def w_W (N : Nat) (ad : Nat → Nat) (cA : Nat → ClassId) (G F : GM) (Y : DY) : va_W := z_W N ad cA (mM G F 0) ++ w_X ad cA Y
section WW
variable {N : Nat} {ad ad' : Nat → Nat} {cA : Nat → ClassId} {G F G' F' : GM} {Y Y' : DY} {D : va_G} {A : Nat → Prop} {H : Heap}
theorem z_W_len {mem : Mm} : (z_W N ad cA mem).length = N := by simp [z_W]
theorem w_X_len : (w_X ad cA Y).length = Y.2.2 := by simp [w_X]
theorem w_X_at {i : Nat} (h : i < Y.2.2) : (w_X ad cA Y)[i]? = some (ad (1000 + i), w_el ad cA (Y.2.1 i) (Y.1 i)) := by
  simp [w_X, List.getElem?_map, List.getElem?_range h]
theorem w_W_lo {k : Nat} (h : k < N) : (w_W N ad cA G F Y)[k]? = some (ad k, z_cel ad cA k (mM G F 0)) := by
  unfold w_W
  rw [List.getElem?_append_left (by rw [z_W_len]; exact h)]
  exact z_W_at h
theorem w_W_hi {i : Nat} (h : i < Y.2.2) : (w_W N ad cA G F Y)[N + i]? = some (ad (1000 + i), w_el ad cA (Y.2.1 i) (Y.1 i)) := by
  unfold w_W
  rw [List.getElem?_append_right (by rw [z_W_len]; omega), z_W_len, Nat.add_sub_cancel_left]
  exact w_X_at h
theorem w_W_len : (w_W N ad cA G F Y).length = N + Y.2.2 := by
  unfold w_W
  rw [List.length_append, z_W_len, w_X_len]
theorem w_W_in {k : Nat} {q : Nat × va_E} (h : (w_W N ad cA G F Y)[k]? = some q) : (k < N ∧ q.1 = ad k) ∨ ∃ i, i < Y.2.2 ∧ k = N + i ∧ q.1 = ad (1000 + i) := by
  have hl : k < N + Y.2.2 := by
    have := (List.getElem?_eq_some_iff.mp h).1
    rwa [w_W_len] at this
  by_cases hk : k < N
  · rw [w_W_lo hk] at h
    cases h
    exact Or.inl ⟨hk, rfl⟩
  · refine Or.inr ⟨k - N, by omega, by omega, ?_⟩
    rw [show k = N + (k - N) by omega, w_W_hi (by omega)] at h
    cases h
    rfl
/-- which addresses there are, and whether they are apart, does not lie in what the cells hold -/
theorem w_D_c (h : va_D A (w_W N ad cA G F Y)) (hn : Y'.2.2 = Y.2.2) : va_D A (w_W N ad cA G' F' Y') := by
  have key : ∀ (k : Nat) (q : Nat × va_E), (w_W N ad cA G' F' Y')[k]? = some q → ∃ q0, (w_W N ad cA G F Y)[k]? = some q0 ∧ q0.1 = q.1 := by
    intro k q hq
    rcases w_W_in hq with ⟨h1, h2⟩ | ⟨i, h1, h2, h3⟩
    · exact ⟨_, w_W_lo h1, h2.symm⟩
    · subst h2
      exact ⟨_, w_W_hi (by omega), h3.symm⟩
  refine ⟨fun i j p q hp hq he => ?_, fun k q hq => ?_⟩
  · obtain ⟨p0, a1, a2⟩ := key i p hp
    obtain ⟨q0, b1, b2⟩ := key j q hq
    exact h.1 i j p0 q0 a1 b1 (by rw [a2, b2, he])
  · obtain ⟨q0, a1, a2⟩ := key k q hq
    rw [← a2]
    exact h.2 k q0 a1
/-- one cell changed -/
def w_put (Y : DY) (i : Nat) (h : Sh) (E : Int → Int) : DY := (zk Y.1 i E, fun k => if k = i then h else Y.2.1 k, Y.2.2)
def w_row (Y : DY) (i : Nat) (E : Int → Int) : DY := (zk Y.1 i E, Y.2.1, Y.2.2)
theorem w_put_row {i : Nat} {E : Int → Int} : w_put Y i (Y.2.1 i) E = w_row Y i E := by
  unfold w_put w_row
  congr 2
  funext k
  by_cases h : k = i
  · rw [if_pos h, h]
  · rw [if_neg h]
theorem w_W_set {i : Nat} (hi : i < Y.2.2) (h : Sh) (E : Int → Int) : (w_W N ad cA G F Y).set (N + i) (ad (1000 + i), w_el ad cA h E) = w_W N ad cA G F (w_put Y i h E) := by
  apply List.ext_getElem?
  intro k
  rw [List.getElem?_set, w_W_len]
  by_cases hk : N + i = k
  · subst hk
    rw [if_pos rfl, if_pos (by omega), w_W_hi (Y := w_put Y i h E) hi]
    simp only [w_put, if_true]
    rw [zk_eq]
  · rw [if_neg hk]
    by_cases h1 : k < N
    · rw [w_W_lo h1, w_W_lo h1]
    · by_cases h2 : k < N + Y.2.2
      · rw [show k = N + (k - N) by omega, w_W_hi (by omega), w_W_hi (Y := w_put Y i h E) (show k - N < Y.2.2 by omega)]
        simp only [w_put]
        rw [zk_ne (show k - N ≠ i by omega), if_neg (show ¬ k - N = i by omega)]
      · rw [List.getElem?_eq_none (by rw [w_W_len]; omega), List.getElem?_eq_none (by rw [w_W_len]; show N + Y.2.2 ≤ k; omega)]
theorem w_W_row {i : Nat} (hi : i < Y.2.2) (E : Int → Int) : (w_W N ad cA G F Y).set (N + i) (ad (1000 + i), w_el ad cA (Y.2.1 i) E) = w_W N ad cA G F (w_row Y i E) := by
  rw [w_W_set hi, w_put_row]
end WW
/-! references that there are -/
def w_v (n : Nat) (v : Value) : Prop := ∀ r, v = .ref r → r < n
def w_vs (n : Nat) (L : List Value) : Prop := ∀ v, v ∈ L → w_v n v
def w_sh (n : Nat) (h : Sh) : Prop := ∀ c, c ∈ h.2.2 → (h.1 = 0 → c < n + 2) ∧ (8 ≤ h.1 → c < n)
def w_ok (Y : DY) : Prop := ∀ i, i < Y.2.2 → w_sh (1000 + Y.2.2) (Y.2.1 i)
theorem w_v_i (n : Nat) (x : Int32) : w_v n (.int x) := fun r h => by cases h
theorem w_v_l (n : Nat) (x : Int64) : w_v n (.long x) := fun r h => by cases h
theorem w_v_f (n : Nat) (x : UInt32) : w_v n (.float x) := fun r h => by cases h
theorem w_v_d (n : Nat) (x : UInt64) : w_v n (.double x) := fun r h => by cases h
theorem w_v_n (n : Nat) : w_v n .null := fun r h => by cases h
theorem w_v_r {n r : Nat} (h : r < n) : w_v n (.ref r) := fun r' h' => by cases h'; exact h
theorem w_v_up {n m : Nat} {v : Value} (h : w_v n v) (e : n ≤ m) : w_v m v := fun r hr => Nat.lt_of_lt_of_le (h r hr) e
theorem w_vs_up {n m : Nat} {L : List Value} (h : w_vs n L) (e : n ≤ m) : w_vs m L := fun v hv => w_v_up (h v hv) e
theorem w_vs_c {n : Nat} {v : Value} {L : List Value} (h1 : w_v n v) (h2 : w_vs n L) : w_vs n (v :: L) := fun u hu => (List.mem_cons.mp hu).elim (fun e => by rw [e]; exact h1) (h2 u)
theorem w_vs_h {n : Nat} {v : Value} {L : List Value} (h : w_vs n (v :: L)) : w_v n v := h v List.mem_cons_self
theorem w_vs_t {n : Nat} {v : Value} {L : List Value} (h : w_vs n (v :: L)) : w_vs n L := fun u hu => h u (List.mem_cons_of_mem _ hu)
theorem w_vs_0 {n : Nat} : w_vs n [] := fun u hu => by cases hu
theorem w_vs_d {n : Nat} {L : List Value} (k : Nat) (h : w_vs n L) : w_vs n (L.drop k) := fun u hu => h u (List.mem_of_mem_drop hu)
theorem w_vs_k {n : Nat} {L : List Value} (k : Nat) (h : w_vs n L) : w_vs n (L.take k) := fun u hu => h u (List.mem_of_mem_take hu)
theorem w_vs_r {n : Nat} {L : List Value} (h : w_vs n L) : w_vs n L.reverse := fun u hu => h u (List.mem_reverse.mp hu)
theorem w_vs_a {n : Nat} {L M : List Value} (h1 : w_vs n L) (h2 : w_vs n M) : w_vs n (L ++ M) := fun u hu => (List.mem_append.mp hu).elim (h1 u) (h2 u)
theorem w_vs_s {n i : Nat} {v : Value} {L : List Value} (h1 : w_v n v) (h2 : w_vs n L) : w_vs n (L.set i v) := fun u hu => by
  rcases List.mem_or_eq_of_mem_set hu with h | h
  · exact h2 u h
  · rw [h]; exact h1
theorem w_vs_g {n i : Nat} {v : Value} {L : List Value} (h : w_vs n L) (hi : L[i]? = some v) : w_v n v := h v (List.mem_of_getElem? hi)
theorem w_vs_n {n k : Nat} : w_vs n (List.replicate k .null) := fun u hu => by rw [List.eq_of_mem_replicate hu]; exact w_v_n n
theorem w_vs_fl {n : Nat} {L : List Value} (h : w_vs n L) : w_vs n (z_flat L) := by
  induction L with
  | nil => exact w_vs_0
  | cons v L ih =>
    have h2 := ih (w_vs_t h)
    cases v with
    | long x => exact w_vs_c (w_v_l n x) (w_vs_c (w_v_n n) h2)
    | double x => exact w_vs_c (w_v_d n x) (w_vs_c (w_v_n n) h2)
    | int x => exact w_vs_c (w_v_i n x) h2
    | float x => exact w_vs_c (w_v_f n x) h2
    | null => exact w_vs_c (w_v_n n) h2
    | ref r => exact w_vs_c (w_vs_h h) h2
    | retAddr r => exact w_vs_c (w_vs_h h) h2
theorem w_vs_e {n k : Nat} {L : List Value} (h : w_vs n L) : w_vs n (z_ent k L) := w_vs_a (w_vs_fl h) w_vs_n
section WA
variable {ad ad' : Nat → Nat} {n : Nat}
theorem z_cv_c {v : Value} (h : w_v n v) (e : ∀ k, k < n → ad' k = ad k) : z_cv ad' v = z_cv ad v := by
  cases v with
  | ref r =>
    show Value.ref (ad' r) = Value.ref (ad r)
    rw [e r (h r rfl)]
  | _ => rfl
theorem z_map_c {L : List Value} (h : w_vs n L) (e : ∀ k, k < n → ad' k = ad k) : L.map (z_cv ad') = L.map (z_cv ad) := List.map_congr_left fun v hv => z_cv_c (h v hv) e
theorem z_prs_c {L : List Value} (h : w_vs n L) (e : ∀ k, k < n → ad' k = ad k) (b : Nat) : z_prs ad' b L = z_prs ad b L := by
  induction L generalizing b with
  | nil => rfl
  | cons v L ih =>
    have h2 := ih (w_vs_t h) (b + 1)
    cases v with
    | null => exact h2
    | ref r =>
      show (b, z_cv ad' (.ref r)) :: z_prs ad' (b + 1) L = (b, z_cv ad (.ref r)) :: z_prs ad (b + 1) L
      rw [h2, z_cv_c (w_vs_h h) e]
    | int x => show (b, Value.int x) :: z_prs ad' (b + 1) L = (b, Value.int x) :: z_prs ad (b + 1) L; rw [h2]
    | long x => show (b, Value.long x) :: z_prs ad' (b + 1) L = (b, Value.long x) :: z_prs ad (b + 1) L; rw [h2]
    | float x => show (b, Value.float x) :: z_prs ad' (b + 1) L = (b, Value.float x) :: z_prs ad (b + 1) L; rw [h2]
    | double x => show (b, Value.double x) :: z_prs ad' (b + 1) L = (b, Value.double x) :: z_prs ad (b + 1) L; rw [h2]
    | retAddr x => show (b, Value.retAddr x) :: z_prs ad' (b + 1) L = (b, Value.retAddr x) :: z_prs ad (b + 1) L; rw [h2]
theorem z_has_c {c2 : Nat → Bool} {nL : Nat} {sl : Array Slot} {L : List Value} (h : w_vs n L) (e : ∀ k, k < n → ad' k = ad k) (hl : z_has ad c2 nL sl L) : z_has ad' c2 nL sl L := by
  unfold z_has at hl ⊢
  rw [z_prs_c h e]
  exact hl
theorem w_f_v {E : Int → Int} {c j : Nat} (h : c < n + 2) : w_v n (w_f E c j) := by
  match c with
  | 0 => exact w_v_i n _
  | 1 => exact w_v_n n
  | r + 2 => exact w_v_r (by omega)
theorem w_el_c {cA : Nat → ClassId} {h : Sh} {E : Int → Int} (hh : w_sh n h) (e : ∀ k, k < n → ad' k = ad k) : w_el ad' cA h E = w_el ad cA h E := by
  unfold w_el
  by_cases h0 : h.1 = 0
  · rw [if_pos h0, if_pos h0]
    have hv : w_vs n (w_fs E 0 h.2.2) := fun v hv => by
      obtain ⟨i, hi⟩ := List.getElem?_of_mem hv
      rw [w_fs_at] at hi
      cases hc : h.2.2[i]? with
      | none => rw [hc] at hi; cases hi
      | some c =>
        rw [hc] at hi
        cases hi
        exact w_f_v ((hh c (List.mem_of_getElem? hc)).1 h0)
    rw [z_map_c hv e]
  · rw [if_neg h0, if_neg h0]
    by_cases h8 : 8 ≤ h.1
    · rw [if_pos h8, if_pos h8]
      congr 8
      funext j
      cases hc : h.2.2[j]? with
      | none => rfl
      | some c =>
        show some (ad' c) = some (ad c)
        rw [e c ((hh c (List.mem_of_getElem? hc)).2 h8)]
    · rw [if_neg h8, if_neg h8]
theorem w_sh_up {m : Nat} {h : Sh} (hh : w_sh n h) (e : n ≤ m) : w_sh m h := fun c hc => ⟨fun h0 => Nat.lt_of_lt_of_le ((hh c hc).1 h0) (by omega), fun h8 => Nat.lt_of_lt_of_le ((hh c hc).2 h8) e⟩
theorem z_sh_lt {k : Nat} (hk : k < 229) : ∀ c, c ∈ (z_sh k).2.2 → c < 1000 := by
  have h : ((List.range 229).all fun k => (z_sh k).2.2.all fun c => decide (c < 1000)) = true := by decide +kernel
  intro c hc
  exact of_decide_eq_true (List.all_eq_true.mp (List.all_eq_true.mp h k (List.mem_range.mpr hk)) c hc)
theorem z_cel_c {cA : Nat → ClassId} {mem : Mm} {k : Nat} (hk : k < 229) (e : ∀ k, k < 1000 → ad' k = ad k) : z_cel ad' cA k mem = z_cel ad cA k mem := by
  have hl := z_sh_lt hk
  unfold z_cel
  by_cases h0 : (z_sh k).1 = 0
  · rw [if_pos h0, if_pos h0]
    have hv : w_vs 1000 (z_fvs k mem 0 (z_sh k).2.2) := fun v hv => by
      obtain ⟨i, hi⟩ := List.getElem?_of_mem hv
      rw [z_fvs_at] at hi
      cases hc : (z_sh k).2.2[i]? with
      | none => rw [hc] at hi; cases hi
      | some c =>
        rw [hc] at hi
        cases hi
        have hc9 := hl c (List.mem_of_getElem? hc)
        match c, hc9 with
        | 0, _ => exact w_v_i _ _
        | 1, _ => exact w_v_l _ _
        | r + 2, h9 => exact w_v_r (by omega)
    rw [z_map_c hv e]
  · rw [if_neg h0, if_neg h0]
    by_cases h4 : (z_sh k).1 = 4
    · rw [if_pos h4, if_pos h4]
    · rw [if_neg h4, if_neg h4]
      by_cases h5 : 5 ≤ (z_sh k).1
      · rw [if_pos h5, if_pos h5]
        congr 8
        funext j
        cases hc : (z_sh k).2.2[j]? with
        | none => rfl
        | some c =>
          show some (ad' c) = some (ad c)
          rw [e c (hl c (List.mem_of_getElem? hc))]
      · rw [if_neg h5, if_neg h5]
theorem w_W_c {N : Nat} {cA : Nat → ClassId} {G F : GM} {Y : DY} (hN : N ≤ 229) (hok : w_ok Y) (e : ∀ k, k < 1000 + Y.2.2 → ad' k = ad k) : w_W N ad' cA G F Y = w_W N ad cA G F Y := by
  apply List.ext_getElem?
  intro k
  by_cases h1 : k < N
  · rw [w_W_lo h1, w_W_lo h1, z_cel_c (by omega) (fun k hk => e k (by omega)), e k (by omega)]
  · by_cases h2 : k < N + Y.2.2
    · rw [show k = N + (k - N) by omega, w_W_hi (by omega), w_W_hi (by omega), w_el_c (hok _ (by omega)) e, e _ (by omega)]
    · rw [List.getElem?_eq_none (by rw [w_W_len]; omega), List.getElem?_eq_none (by rw [w_W_len]; omega)]
/-- one cell more -/
def w_add (Y : DY) (h : Sh) (E : Int → Int) : DY := (zk Y.1 Y.2.2 E, fun k => if k = Y.2.2 then h else Y.2.1 k, Y.2.2 + 1)
def w_ad (ad : Nat → Nat) (k q : Nat) : Nat → Nat := fun j => if j = k then q else ad j
theorem w_ad_e {k q : Nat} : w_ad ad k q k = q := if_pos rfl
theorem w_ad_n {k q j : Nat} (h : j < k) : w_ad ad k q j = ad j := if_neg (Nat.ne_of_lt h)
theorem w_W_add {N : Nat} {cA : Nat → ClassId} {G F : GM} {Y : DY} {q : Nat} {h : Sh} {E : Int → Int} {e : va_E} (hN : N ≤ 229) (hok : w_ok Y) (he : e = w_el (w_ad ad (1000 + Y.2.2) q) cA h E) : w_W N ad cA G F Y ++ [(q, e)] = w_W N (w_ad ad (1000 + Y.2.2) q) cA G F (w_add Y h E) := by
  rw [← w_W_c (ad' := w_ad ad (1000 + Y.2.2) q) hN hok (fun k hk => w_ad_n hk)]
  apply List.ext_getElem?
  intro k
  by_cases h1 : k < N
  · rw [List.getElem?_append_left (by rw [w_W_len]; omega), w_W_lo h1, w_W_lo h1]
  · by_cases h2 : k < N + Y.2.2
    · rw [List.getElem?_append_left (by rw [w_W_len]; omega), show k = N + (k - N) by omega, w_W_hi (by omega), w_W_hi (Y := w_add Y h E) (show k - N < Y.2.2 + 1 by omega)]
      simp only [w_add]
      rw [zk_ne (show k - N ≠ Y.2.2 by omega), if_neg (show ¬ k - N = Y.2.2 by omega)]
    · rw [List.getElem?_append_right (by rw [w_W_len]; omega), w_W_len]
      by_cases h3 : k = N + Y.2.2
      · subst h3
        rw [Nat.sub_self, w_W_hi (Y := w_add Y h E) (show Y.2.2 < Y.2.2 + 1 by omega)]
        simp only [w_add, if_true]
        rw [zk_eq, w_ad_e, he]
        rfl
      · rw [List.getElem?_eq_none (by simp only [List.length_singleton]; omega), List.getElem?_eq_none (by rw [w_W_len]; show N + (Y.2.2 + 1) ≤ k; omega)]
theorem w_ok_add {Y : DY} {h : Sh} {E : Int → Int} (hok : w_ok Y) (hh : w_sh (1000 + Y.2.2 + 1) h) : w_ok (w_add Y h E) := by
  intro i hi
  show w_sh (1000 + (Y.2.2 + 1)) (if i = Y.2.2 then h else Y.2.1 i)
  have hi' : i < Y.2.2 + 1 := hi
  by_cases e : i = Y.2.2
  · rw [if_pos e]
    exact w_sh_up hh (by omega)
  · rw [if_neg e]
    exact w_sh_up (hok i (by omega)) (by omega)
theorem w_ok_put {Y : DY} {i : Nat} {h : Sh} {E : Int → Int} (hok : w_ok Y) (hh : w_sh (1000 + Y.2.2) h) : w_ok (w_put Y i h E) := by
  intro k hk
  show w_sh (1000 + Y.2.2) (if k = i then h else Y.2.1 k)
  by_cases e : k = i
  · rw [if_pos e]
    exact hh
  · rw [if_neg e]
    exact hok k hk
theorem w_ok_row {Y : DY} {i : Nat} {E : Int → Int} (hok : w_ok Y) : w_ok (w_row Y i E) := hok
theorem w_sh_0 {t n m : Nat} : w_sh m (t, n, []) := fun c hc => by cases hc
end WA
