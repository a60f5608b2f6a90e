/-! A run of the abstract machine gives a contract. -/
section WALK
variable {N : Nat} {tab : Nat → Nat → Option Ent} {nl : Nat → Nat} {c2 : Nat → Nat → Bool} {cl : Nat → Nat} {hnd : Nat → Nat → Option Int32}
variable {Ts : List Cond} {Z : (Nat → Nat) → State → Heap → Prop} {exn : Nat → String} {yn : Nat → MethodName} {bc : Nat → ByteArray} {rt : Nat → Option FieldType} {fr lo : Nat → Nat} {P : Nat → Nat → Nat} {tb : Nat → List (Nat × Nat × Nat × Nat)}
theorem z_flat_len (ad : Nat → Nat) (args : List Value) : (lg_sl (args.map (z_cv ad))).length = (z_flat args).length := by
  induction args with
  | nil => rfl
  | cons v vs ih =>
    have h : lg_sl ((v :: vs).map (z_cv ad)) = lg_sl [z_cv ad v] ++ lg_sl (vs.map (z_cv ad)) := by simp [lg_sl]
    rw [h, List.length_append, ih]
    cases v <;> simp [lg_sl, z_cv, Value.category, z_flat] <;> omega
theorem z_prs_flat (ad : Nat → Nat) (n : Nat) (args : List Value) (b : Nat) (q : Nat × Value) (h : q ∈ z_prs ad b (z_flat args ++ List.replicate n .null)) : q ∈ lv_args b (args.map (z_cv ad)) := by
  induction args generalizing b with
  | nil =>
    exfalso
    have h1 : ∀ (n b : Nat), z_prs ad b (List.replicate n .null) = [] := by
      intro n
      induction n with
      | zero => intro b; rfl
      | succ n ih => intro b; rw [List.replicate_succ]; exact ih (b + 1)
    simp only [z_flat, List.nil_append] at h
    rw [h1] at h
    cases h
  | cons v vs ih =>
    cases v with
    | null => exact List.mem_cons_of_mem _ (ih (b + 1) h)
    | long w =>
      rcases List.mem_cons.mp h with h | h
      · subst h; exact List.mem_cons_self
      · exact List.mem_cons_of_mem _ (ih (b + 2) h)
    | double w =>
      rcases List.mem_cons.mp h with h | h
      · subst h; exact List.mem_cons_self
      · exact List.mem_cons_of_mem _ (ih (b + 2) h)
    | int w =>
      rcases List.mem_cons.mp h with h | h
      · subst h; exact List.mem_cons_self
      · exact List.mem_cons_of_mem _ (ih (b + 1) h)
    | float w =>
      rcases List.mem_cons.mp h with h | h
      · subst h; exact List.mem_cons_self
      · exact List.mem_cons_of_mem _ (ih (b + 1) h)
    | ref w =>
      rcases List.mem_cons.mp h with h | h
      · subst h; exact List.mem_cons_self
      · exact List.mem_cons_of_mem _ (ih (b + 1) h)
    | retAddr w =>
      rcases List.mem_cons.mp h with h | h
      · subst h; exact List.mem_cons_self
      · exact List.mem_cons_of_mem _ (ih (b + 1) h)
theorem z_c2ok_spec {c : Nat → Bool} {L : List Value} {b : Nat} (h : z_c2ok c b L = true) (i : Nat) (v : Value) (hi : L[i]? = some v) (hv : v.category = 2) : c (b + i) = true := by
  induction L generalizing b i with
  | nil => cases hi
  | cons w ws ih =>
    have hrest : z_c2ok c (b + 1) ws = true := by
      cases w <;> simp [z_c2ok] at h <;> first | exact h.2 | exact h
    cases i with
    | zero =>
      simp only [List.getElem?_cons_zero, Option.some.injEq] at hi
      subst hi
      cases w <;> simp [Value.category] at hv <;> simp [z_c2ok] at h <;> exact h.1
    | succ i =>
      have := ih hrest i (by simpa using hi)
      rw [show b + (i + 1) = b + 1 + i by omega]
      exact this
theorem z_has_ent {ad : Nat → Nat} {c : Nat → Bool} {n : Nat} {args : List Value} (h : z_fit n c args = true) : z_has ad c n ((lg_sl (args.map (z_cv ad)) ++ List.replicate (n - (lg_sl (args.map (z_cv ad))).length) Slot.unset).toArray) (z_ent n args) := by
  unfold z_fit at h
  rw [Bool.and_eq_true] at h
  have hlen : (lg_sl (args.map (z_cv ad))).length ≤ n := by rw [z_flat_len]; exact Nat.le_of_ble_eq_true h.1
  have he := lv_entry (args.map (z_cv ad)) hlen
  refine ⟨⟨he.1, he.2.1, fun q hq => he.2.2 q (z_prs_flat ad _ args 0 q hq)⟩, fun i v hi hv => ?_⟩
  have := z_c2ok_spec h.2 i v hi hv
  rwa [Nat.zero_add] at this
theorem z_SE_call {y ip k y2 n : Nat} (k0 : k ≠ 0) (k1 : k ≠ 1) (k5 : k ≠ 5) : z_SE N nl c2 cl hnd Ts Z exn yn bc rt fr lo P tb y ip (.inr (k, y2, n)) = (z_SC N nl Ts Z yn bc rt fr lo P tb y ip k y2 n ∧ z_SH N nl hnd Ts Z exn yn bc rt fr lo P tb y ip ∧ P y (ip + 1) = P y ip + 3 ∧ (k = 3 → ∃ T Nf, vwCl[cl y2]? = some ((yn y2).cls, T, Nf))) := by
  match k, k0, k1, k5 with
  | 0, h, _, _ => exact absurd rfl h
  | 1, _, h, _ => exact absurd rfl h
  | 5, _, _, h => exact absurd rfl h
  | 2, _, _, _ => rfl
  | 3, _, _, _ => rfl
  | 4, _, _, _ => rfl
  | k + 6, _, _, _ => rfl
theorem z_W_k {ad : Nat → Nat} {cA : Nat → ClassId} {a : Nat → Nat → Int32} {b : Nat → Nat → Int64} {n n' : Nat} : z_W N ad cA (a, b, n') = z_W N ad cA (a, b, n) := by
  unfold z_W
  congr 1
  funext k
  rw [z_cel_congr (m1 := (a, b, n')) (m2 := (a, b, n)) rfl rfl]
/-- what a run owes of the machine -/
def z_Wk (N : Nat) (nl : Nat → Nat) (c2 : Nat → Nat → Bool) (Ts : List Cond) (Z : (Nat → Nat) → State → Heap → Prop) (exn : Nat → String) (yn : Nat → MethodName) (bc : Nat → ByteArray) (rt : Nat → Option FieldType) (fr lo : Nat → Nat) (P : Nat → Nat → Nat) (tb : Nat → List (Nat × Nat × Nat × Nat)) (l : Launch) (y ip : Nat) (x : Sx) (r : Res) : Prop :=
  ∀ (p : Program) (e : Env) (R : Room) (s : State) (m : MethodId) (args : Array Value) (below : List Frame) (meth : Method) (c : Code) (ad : Nat → Nat) (D : va_G) (cA : Nat → ClassId) (CE SE : Nat), z_C N nl Ts Z yn bc rt fr lo y ad D cA CE SE p l R s m args meth c → c.exceptionTable.toList = tableOf (tb y) →
    z_At N (c2 y) (nl y) ad D cA p l e R s m args below meth c (vx_MQ below (z_Qc N ad D cA r) (z_XC N exn ad D cA r) args s CE SE (z_A N ad)) r.2.2.2 CE SE (P y ip) x
theorem z_con {l : Launch} {y : Nat} {args : List Value} {mem : Mm} {r : Res} (hpl : plainName (yn y).cls = true) (hfit : z_fit (nl y) (c2 y) args = true) (hP0 : P y 0 = 0) (hw : z_Wk N nl c2 Ts Z exn yn bc rt fr lo P tb l y 0 (z_ent (nl y) args, [], mem) r) :
    z_Con N nl Ts Z exn yn bc rt fr lo tb l y args mem r := by
  intro ad D cA hinj
  have body : ∀ (p : Program) (e : Env) (s : State) (m : MethodId) (args' : Array Value) (below : List Frame) (meth : Method) (c : Code) (s₁ : State), BodyLoose p l (yn y) (headSpec (z_hd nl yn bc rt tb y :: Ts) { frames := fr y, cells := r.2.2.2 - mem.2.2, slots := 6 * (r.2.2.2 - mem.2.2), locals := lo y }) (bc y) (nl y) (rt y) e s m args' below meth c s₁ → c.maxLocals = nl y → c.exceptionTable.toList = tableOf (tb y) → z_Pc N Z ad D cA args mem args' s →
      W p l e { frames := fr y, cells := r.2.2.2 - mem.2.2, slots := 6 * (r.2.2.2 - mem.2.2), locals := lo y } s m args' below meth c s.heap [] 0 0 (vx_MQ below (z_Qc N ad D cA r) (z_XC N exn ad D cA r) args' s (r.2.2.2 - mem.2.2) (6 * (r.2.2.2 - mem.2.2)) (z_A N ad)) (entryFrame m args' (nl y)) := by
    intro p e s m args' below meth c s₁ B hml htb hv
    obtain ⟨rfl, hK, hP, hZ⟩ := hv
    have hts := atoms_spec (ws := z_hd nl yn bc rt tb y :: Ts) B.pre
    have hC : z_C N nl Ts Z yn bc rt fr lo y ad D cA (r.2.2.2 - mem.2.2) (6 * (r.2.2.2 - mem.2.2)) p l { frames := fr y, cells := r.2.2.2 - mem.2.2, slots := 6 * (r.2.2.2 - mem.2.2), locals := lo y } s m (args.map (z_cv ad)).toArray meth c :=
      ⟨B.exec, B.bytes, hml, findClass_of_methodNamed B.named, fun w hw => hts w (List.mem_cons_of_mem _ hw), B.returns, B.notSynchronized, rfl, rfl, hinj, hK, hZ, Nat.le_refl _, Nat.le_refl _⟩
    rw [lg_entry_eq]
    have h := hw p e _ s m _ below meth c ad D cA _ _ hC htb s.heap [] _ 0 0 (Nat.zero_add _) (Nat.zero_add _) hP va_S.rf (z_has_ent hfit)
    rw [hP0] at h
    exact h
  by_cases ht : tb y = []
  · refine vx_ofW (cc := bc y) (maxL := nl y) (ret := rt y) (ws' := Ts) hpl (by unfold z_hd; rw [if_pos ht]) ?_
    intro p e s m args' below meth c s₁ B hml hx hv
    refine body p e s m args' below meth c s₁ B hml ?_ hv
    rw [ht]
    exact List.eq_nil_iff_forall_not_mem.mpr fun z hz => hx z hz
  · refine vx_ofWH (cc := bc y) (maxL := nl y) (ret := rt y) (hh := tb y) (ws' := Ts) hpl (by unfold z_hd; rw [if_neg ht]) ?_
    intro p e s m args' below meth c s₁ B hml hv
    refine body p e s m args' below meth c s₁ B hml ?_ hv
    have hts := atoms_spec (ws := z_hd nl yn bc rt tb y :: Ts) B.pre
    have h9 := hts _ List.mem_cons_self
    unfold z_hd at h9
    rw [if_neg ht] at h9
    exact vx_table (x := yn y) B h9
/-- what Z keeps -/
def z_ZK (N : Nat) (Z : (Nat → Nat) → State → Heap → Prop) : Prop :=
  (∀ ad u U H, U.vm = u.vm → Z ad u H → Z ad U H) ∧ (∀ (ad : Nat → Nat) (s U : State) H, s.WarmedH U.vm → Z ad s H → Z ad U H) ∧ (∀ ad U (H H1 : Heap), H.size ≤ H1.size → (∀ q : Nat, q < H.size → ¬ z_A N ad q → H1[q]? = H[q]?) → Z ad U H → Z ad U H1)
theorem z_Zat (hZK : z_ZK N Z) {ad : Nat → Nat} {s : State} {H : Heap} {locs : List Loc} (hZ : Z ad s s.heap) (hS : va_S (z_A N ad) s.heap H locs) : Z ad s H := hZK.2.2 ad s s.heap H hS.1 hS.2.1 hZ
theorem z_crun (hZK : z_ZK N Z) {p : Program} {l : Launch} {e : Env} {R : Room} {s : State} {m : MethodId} {args : Array Value} {below : List Frame} {meth : Method} {c : Code} {ad : Nat → Nat} {D : va_G} {cA : Nat → ClassId} {CE SE : Nat} {y ip k y2 n : Nat} {st : List Value} {mem : Mm} {r : Res}
    (C : z_C N nl Ts Z yn bc rt fr lo y ad D cA CE SE p l R s m args meth c) (hcon : z_Con N nl Ts Z exn yn bc rt fr lo tb l y2 (st.take n).reverse mem r) (hsc : z_SC N nl Ts Z yn bc rt fr lo P tb y ip k y2 n) (hcl : k = 3 → ∃ T Nf, vwCl[cl y2]? = some ((yn y2).cls, T, Nf))
    (hok : z_okc N (cl y2) (nl y2) (c2 y2) k n st = true) (h4 : k = 4 → ∀ z, r.1 ≠ .inr z) {H : Heap} {locs : List Loc} {sl : Array Slot} {cells slots : Nat} (hc : cells + (r.2.2.2 - mem.2.2) ≤ CE) (hs : slots + 6 * (r.2.2.2 - mem.2.2) ≤ SE) (hP : va_P D vwCl (z_W N ad cA mem) H) (hS : va_S (z_A N ad) s.heap H locs) (hsl : sl.size = nl y) :
    vx_Run p l e R s m args below meth c H locs cells slots (r.2.2.2 - mem.2.2) (6 * (r.2.2.2 - mem.2.2)) (F0 m (P y ip) sl (st.map (z_cv ad))) ((st.drop n).map (z_cv ad)) (z_Qc N ad D cA r (((st.take n).reverse).map (z_cv ad)).toArray) (z_XC N exn ad D cA r) (z_A N ad) := by
  have C' := C
  obtain ⟨hx, hb, hml, hown, hts, hr, hlk, hfr, hlo, hinj, hK, hZ, hCE, hSE⟩ := C'
  unfold z_okc at hok
  simp only [Bool.and_eq_true] at hok
  obtain ⟨⟨⟨o1, o2⟩, o3⟩, o4⟩ := hok
  have o1 := Nat.le_of_ble_eq_true o1
  have o2 := Nat.le_of_ble_eq_true o2
  have hst : (((st.take n).reverse).map (z_cv ad)).reverse ++ (st.drop n).map (z_cv ad) = st.map (z_cv ad) := by
    rw [List.map_reverse, List.reverse_reverse, ← List.map_append, List.take_append_drop]
  rw [← hst]
  refine hsc p l e R s m args below meth c ad D cA CE SE C H locs sl cells slots _ _ _ _ _ _ _ _ (fun hk E u t hx9 => ?_) (hcon ad D cA hinj) (fun a U g mk q => ?_) (fun U hU hW => ?_) (z_Zat hZK hZ hS) (fun hk => ?_) (fun hk => ?_) ?_ ?_ hsl (Nat.le_trans hc hCE) (Nat.le_trans hs hSE)
  · obtain ⟨z, hz, -⟩ := hx9
    exact h4 hk z hz
  · obtain ⟨q0, q1, q2, q3⟩ := q
    exact ⟨q0, va_K.moved (u := U) (U := U.calling g mk a) (Vm.Alike.refl U.vm) q1, q2, hZK.1 ad U _ _ rfl q3⟩
  · exact ⟨rfl, va_K.moved hW.alike hK, by rw [hU]; exact hP, hZK.2.1 ad s U _ hW (by rw [hU]; exact z_Zat hZK hZ hS)⟩
  · subst hk
    simp only at o4
    split at o4
    · rename_i b as he
      simp only [Bool.and_eq_true, beq_iff_eq] at o4
      obtain ⟨⟨p1, p2⟩, p3⟩ := o4
      have p1 : b < N := Nat.le_of_ble_eq_true p1
      obtain ⟨T, Nf, hv⟩ := hcl rfl
      rw [he]
      exact ⟨ad b, as.map (z_cv ad), rfl, va_recv hK hP hv (q0 := b) (by rw [z_W_at p1, z_cel_obj p2 p3])⟩
    · cases o4
  · subst hk
    simp only at o4
    split at o4
    · rename_i b as he
      simp only [Bool.and_eq_true] at o4
      obtain ⟨p1, p2⟩ := o4
      have p1 := @Nat.le_of_ble_eq_true 320 b p1
      have p2 := @Nat.le_of_ble_eq_true (Nat.succ b) 330 p2
      obtain ⟨i, rfl⟩ := Nat.exists_eq_add_of_le p1
      rw [he]
      exact ⟨i, as.map (z_cv ad), Nat.lt_of_add_lt_add_left (n := 320) p2, rfl⟩
    · cases o4
  · rw [List.length_map, List.length_reverse, List.length_take]
    omega
  · exact z_sum (n := 4) o2
theorem z_callN (hZK : z_ZK N Z) {p : Program} {l : Launch} {e : Env} {R : Room} {s : State} {m : MethodId} {args : Array Value} {below : List Frame} {meth : Method} {c : Code} {ad : Nat → Nat} {D : va_G} {cA : Nat → ClassId} {kE CE SE : Nat} {y ip k y2 n : Nat} {L st : List Value} {mem mem' : Mm} {v : Option Value} {Q : State → Prop}
    (C : z_C N nl Ts Z yn bc rt fr lo y ad D cA CE SE p l R s m args meth c) (hcon : z_Con N nl Ts Z exn yn bc rt fr lo tb l y2 (st.take n).reverse mem (.inl v, mem')) (hsc : z_SC N nl Ts Z yn bc rt fr lo P tb y ip k y2 n) (hp : P y (ip + 1) = P y ip + 3) (hcl : k = 3 → ∃ T Nf, vwCl[cl y2]? = some ((yn y2).cls, T, Nf))
    (hok : z_okc N (cl y2) (nl y2) (c2 y2) k n st = true) (g1 : mem.2.2 ≤ mem'.2.2) (g2 : mem'.2.2 ≤ kE)
    (kk : z_At N (c2 y) (nl y) ad D cA p l e R s m args below meth c Q kE CE SE (P y (ip + 1)) (L, v.toList ++ st.drop n, mem')) : z_At N (c2 y) (nl y) ad D cA p l e R s m args below meth c Q kE CE SE (P y ip) (L, st, mem) := by
  intro H locs sl cells slots h1 h2 hP hS hL
  dsimp only at h1 h2 hP hL ⊢
  have hrun := z_crun (e := e) (below := below) (r := (.inl v, mem')) hZK C hcon hsc hcl hok (fun _ z hz => by cases hz) (H := H) (locs := locs) (sl := sl) (cells := cells) (slots := slots) (by dsimp only; omega) (by dsimp only; omega) hP hS hL.1.1
  intro T hT X
  rcases hrun T hT X with ⟨v', st₀, t, T', L', h0, X', hL', e1, e2, ⟨v9, hv9, ho, hPt, hF⟩, stp⟩ | ⟨q, st₀, t, T', L', E, ce, h0, X', hL', e1, e2, ⟨k9, hk9, -⟩, -⟩
  · cases hv9
    cases ho
    obtain ⟨k1, k2, k3⟩ := vx_keep h0 e1 hS (fun q _ h => h) (fun q h => h) hL' hF
    obtain ⟨t2, a1, b1⟩ := kk T'.heap (locs ++ L') sl _ _ (by dsimp only at h1 ⊢; omega) (by dsimp only at h2 ⊢; omega) (by rw [e1]; exact hPt) k3 hL T' rfl X'
    refine ⟨t2, stp t2 ?_, b1⟩
    have hst : ((v.map (z_cv ad)).toList ++ (st.drop n).map (z_cv ad)) = (v.toList ++ st.drop n).map (z_cv ad) := by
      cases v <;> simp
    rw [hst]
    rw [hp] at a1
    exact a1
  · cases hk9
theorem z_walk (hZK : z_ZK N Z) (hE : ∀ y ip en, tab y ip = some en → z_SE N nl c2 cl hnd Ts Z exn yn bc rt fr lo P tb y ip en) (hP0 : ∀ y en, tab y 0 = some en → P y 0 = 0 ∧ plainName (yn y).cls = true) {l : Launch} (hl : l.stackTraces = false) :
    ∀ (f y ip : Nat) (x : Sx) (r : Res), z_run N tab nl c2 cl hnd f y ip x = some r → z_Wk N nl c2 Ts Z exn yn bc rt fr lo P tb l y ip x r := by
  intro f
  induction f with
  | zero => intro y ip x r h; cases h
  | succ f ih =>
    intro y ip x r h
    have hm := z_mono N tab nl c2 cl hnd Ts Z exn yn bc rt fr lo P tb hE
    unfold z_run at h
    split at h
    · cases h
    · rename_i g hg
      split at h
      · cases h
      · rename_i ip' x' hx
        intro p e R s m args below meth c ad D cA CE SE C htb
        exact (hE y ip _ hg).2 p l e R s m args below meth c _ ad D cA r.2.2.2 CE SE C x ip' x' hx (ih y ip' x' r h p e R s m args below meth c ad D cA CE SE C htb)
    · rename_i k q he
      (repeat' split at h) <;> cases h
      rename_i v hv o w hw
      intro p e R s m args below meth c ad D cA CE SE C htb H locs sl cells slots h1 h2 hP hS hL
      rw [hv]
      dsimp only at h1 h2
      rw [Nat.sub_self, Nat.add_zero] at h1
      rw [Nat.sub_self, Nat.mul_zero, Nat.add_zero] at h2
      subst h1
      subst h2
      exact hE y ip _ he p l e R s m args below meth c ad D cA _ _ C H locs sl cells slots _ _ _ v w hw (fun t ht => ⟨some w, rfl, rfl, by rw [ht]; exact hP, hS.F ht⟩) hS.2.2
    · rename_i k q he
      (repeat' split at h) <;> cases h
      rename_i hv
      intro p e R s m args below meth c ad D cA CE SE C htb H locs sl cells slots h1 h2 hP hS hL
      rw [hv]
      dsimp only at h1 h2
      rw [Nat.sub_self, Nat.add_zero] at h1
      rw [Nat.sub_self, Nat.mul_zero, Nat.add_zero] at h2
      subst h1
      subst h2
      exact hE y ip _ he p l e R s m args below meth c ad D cA _ _ C H locs sl cells slots _ _ _ (fun t ht => ⟨none, rfl, rfl, by rw [ht]; exact hP, hS.F ht⟩) hS.2.2
    · rename_i k q he
      (repeat' split at h) <;> cases h
      rename_i hv
      intro p e R s m args below meth c ad D cA CE SE C htb H locs sl cells slots h1 h2 hP hS hL
      rw [hv]
      dsimp only at h1 h2
      have hP' : va_P D vwCl (z_W N ad cA (x.2.2.1, x.2.2.2.1, x.2.2.2.2 + 1)) H := by rw [z_W_k (n := x.2.2.2.2)]; exact hP
      exact hE y ip _ he p l e R s m args below meth c ad D cA _ _ C hl htb H locs sl cells slots _ _ _ hS hL.1.1 (fun t ht hz hk => ⟨k, rfl, rfl, fun i w hw => (hP' i w hw).kept (hk _ (vx_lt hP' hw)), by exact ⟨Nat.le_trans hS.1 hz, fun q h3 h4 => by rw [hk q (Nat.lt_of_lt_of_le h3 hS.1)]; exact hS.2.1 q h3 h4⟩⟩) hS.2.2 (by omega) (by omega)
    · rename_i k y2 n z0 z1 z5 he
      have hse := hE y ip _ he
      have hse : z_SC N nl Ts Z yn bc rt fr lo P tb y ip k y2 n ∧ z_SH N nl hnd Ts Z exn yn bc rt fr lo P tb y ip ∧ P y (ip + 1) = P y ip + 3 ∧ (k = 3 → ∃ T Nf, vwCl[cl y2]? = some ((yn y2).cls, T, Nf)) := by
        rw [z_SE_call (by rintro rfl; first | exact z0 _ _ rfl | exact z0 rfl | exact z0 _ rfl) (by rintro rfl; first | exact z1 _ _ rfl | exact z1 rfl | exact z1 _ rfl) (by rintro rfl; first | exact z5 _ _ rfl | exact z5 rfl | exact z5 _ rfl)] at hse
        exact hse
      obtain ⟨hsc, hsh, hp, hcl⟩ := hse
      split at h
      · rename_i hok
        have hfit : z_fit (nl y2) (c2 y2) (x.2.1.take n).reverse = true := by
          unfold z_okc at hok
          simp only [Bool.and_eq_true] at hok
          exact hok.1.2
        split at h
        · cases h
        · rename_i v mem' h1
          have hz : ∃ en, tab y2 0 = some en := by
            cases f with
            | zero => cases h1
            | succ f =>
              unfold z_run at h1
              cases ht : tab y2 0 with
              | none => rw [ht] at h1; cases h1
              | some en => exact ⟨en, rfl⟩
          obtain ⟨en, hen⟩ := hz
          have hcon := z_con (l := l) (args := (x.2.1.take n).reverse) (hP0 y2 en hen).2 hfit (hP0 y2 en hen).1 (ih y2 0 _ _ h1)
          have g1 := hm _ _ _ _ _ h1
          have g2 := hm _ _ _ _ _ h
          intro p e R s m args below meth c ad D cA CE SE C htb
          exact z_callN (L := x.1) (st := x.2.1) (mem := x.2.2) hZK C hcon hsc hp hcl hok g1 g2 (ih y (ip + 1) _ r h p e R s m args below meth c ad D cA CE SE C htb)
        · rename_i ex mem' h1
          have hz : ∃ en, tab y2 0 = some en := by
            cases f with
            | zero => cases h1
            | succ f =>
              unfold z_run at h1
              cases ht : tab y2 0 with
              | none => rw [ht] at h1; cases h1
              | some en => exact ⟨en, rfl⟩
          obtain ⟨en, hen⟩ := hz
          have hcon := z_con (l := l) (args := (x.2.1.take n).reverse) (hP0 y2 en hen).2 hfit (hP0 y2 en hen).1 (ih y2 0 _ _ h1)
          have g1 := hm _ _ _ _ _ h1
          have hr2 : r.2 = mem' := by (repeat' split at h) <;> cases h <;> rfl
          have hk4 : k ≠ 4 := by
            intro hk
            rw [if_pos hk] at h
            cases h
          rw [if_neg hk4] at h
          intro p e R s m args below meth c ad D cA CE SE C htb H locs sl cells slots h2 h3 hP hS hL
          dsimp only at g1
          rw [hr2] at h2 h3
          have hrun := z_crun (e := e) (below := below) (r := (.inr ex, mem')) (st := x.2.1) (mem := x.2.2) hZK C hcon hsc hcl hok (fun hk => absurd hk hk4) (H := H) (locs := locs) (sl := sl) (cells := cells) (slots := slots) (by dsimp only; omega) (by dsimp only; omega) hP hS hL.1.1
          intro T hT X
          rcases hrun T hT X with ⟨v', st₀, t, T', L', h0, X', hL', e1, e2, ⟨v9, hv9, -⟩, stp⟩ | ⟨q, st₀, t, T', L', E, ce, h0, X', hL', e1, e2, ⟨k9, hk9, hE9, hPt, hF⟩, hce, hcv, hcl9, stp⟩
          · cases hv9
          · cases hk9
            obtain ⟨k1, k2, k3⟩ := vx_keep h0 e1 hS (fun q _ h => h) (fun q h => h) hL' hF
            dsimp only at X'
            rw [h2, h3] at X'
            have C' := C
            obtain ⟨-, -, -, -, -, -, -, -, -, -, -, hZ, -⟩ := C'
            have hPn : va_P D vwCl (z_W N ad cA mem') T'.heap := by rw [e1]; exact hPt
            have hh := hsh p l e R s m args below meth c ad D cA CE SE C htb ex T'.heap (locs ++ L') sl CE SE (z_Qc N ad D cA r) (z_XC N exn ad D cA r) (z_A N ad) ce q ((x.2.1.drop n).map (z_cv ad)) ⟨hL.1.1, hL.1.2.1, fun _ h => by cases h⟩ (by rw [e1]; exact hce) hcv (by rw [← hE9]; exact hcl9) k3.2.2 hZ
            cases hhn : hnd y ex with
            | some z =>
              rw [hhn] at h
              cases h
              obtain ⟨t2, a1, b1⟩ := hh.1 z hhn (fun t ht => ⟨some (.int z), rfl, rfl, by rw [ht]; exact hPn, k3.F ht⟩) T' rfl X'
              exact ⟨t2, stp.trans a1, b1⟩
            | none =>
              rw [hhn] at h
              cases h
              obtain ⟨t2, a1, b1⟩ := hh.2 hhn (fun t ht _ => ⟨ex, rfl, rfl, by rw [ht]; exact hPn, k3.F ht⟩) T' rfl X'
              exact ⟨t2, stp.trans a1, b1⟩
      · cases h
end WALK
