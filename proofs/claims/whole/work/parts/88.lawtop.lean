/-! The run of the law is a run of the machine. -/
section TOP
variable {N : Nat} {tab : Nat → Nat → Option Ent} {nl : Nat → Nat} {c2 : Nat → Nat → Bool} {cl : Nat → Nat} {hnd : Nat → Nat → Option Int32}
variable {Ts : List Cond} {Z : (Nat → Nat) → State → Heap → Prop} {exn : Nat → String} {yn : Nat → MethodName} {bc : Nat → ByteArray} {rt : Nat → Option FieldType} {fr lo : Nat → Nat} {P : Nat → Nat → Nat} {tb : Nat → List (Nat × Nat × Nat × Nat)}
/-- a run in the law itself that returns: from its place on, with what its return owes -/
theorem z_top (hZK : z_ZK N Z) (hE : ∀ y ip en, tab y ip = some en → z_SE N nl c2 cl hnd Ts Z exn yn bc rt fr lo P tb y ip en) (hP0 : ∀ y en, tab y 0 = some en → P y 0 = 0 ∧ plainName (yn y).cls = true) {l : Launch} (hl : l.stackTraces = false)
    {p : Program} {e : Env} {R : Room} {s : State} {m : MethodId} {args : Array Value} {below : List Frame} {meth : Method} {c : Code} {ad : Nat → Nat} {D : va_G} {cA : Nat → ClassId} {CE SE y : Nat} (C : z_C N nl Ts Z yn bc rt fr lo y ad D cA CE SE p l R s m args meth c) (hh : ∀ k, hnd y k = none) {Q : State → Prop} {w : Value} {mem' : Mm}
    (hret : ∀ (ip k q : Nat) (L : List Value) (v : Value), tab y ip = some (.inr (0, k, q)) → z_ret k v = some w → z_At N (c2 y) (nl y) ad D cA p l e R s m args below meth c Q mem'.2.2 CE SE (P y ip) (L, [v], mem')) :
    ∀ (f ip : Nat) (x : Sx), z_run N tab nl c2 cl hnd f y ip x = some (.inl (some w), mem') → z_At N (c2 y) (nl y) ad D cA p l e R s m args below meth c Q mem'.2.2 CE SE (P y ip) x := by
  have hm := z_mono N tab nl c2 cl hnd Ts Z exn yn bc rt fr lo P tb hE
  intro f
  induction f with
  | zero => intro ip x h; cases h
  | succ f ih =>
    intro ip x h
    cases hen : tab y ip with
    | none => rw [z_run_n N tab nl c2 cl hnd hen] at h; cases h
    | some en =>
      cases en with
      | inl g =>
        cases hg : g ip x with
        | none => rw [z_run_q N tab nl c2 cl hnd hen hg] at h; cases h
        | some q =>
          obtain ⟨ip', x'⟩ := q
          rw [z_run_p N tab nl c2 cl hnd hen hg] at h
          exact (hE y ip _ hen).2 p l e R s m args below meth c _ ad D cA mem'.2.2 CE SE C x ip' x' hg (ih ip' x' h)
      | inr q =>
        obtain ⟨k', y2, m'⟩ := q
        by_cases h0 : k' = 0
        · subst h0
          rw [z_run_0 N tab nl c2 cl hnd hen] at h
          unfold z_r0 at h
          split at h
          · rename_i v hv
            split at h
            · rename_i w' hw
              cases h
              obtain ⟨L, st, mem⟩ := x
              cases hv
              exact hret ip y2 m' L v hen hw
            · cases h
          · cases h
        · by_cases h1 : k' = 1
          · subst h1
            rw [z_run_1 N tab nl c2 cl hnd hen] at h
            unfold z_r1 at h
            split at h <;> cases h
          · by_cases h5 : k' = 5
            · subst h5
              rw [z_run_5 N tab nl c2 cl hnd hen] at h
              unfold z_r5 at h
              split at h <;> cases h
            · rw [z_run_c N tab nl c2 cl hnd ⟨h0, h1, h5⟩ hen] at h
              unfold z_cb at h
              have hse := hE y ip _ hen
              rw [z_SE_call h0 h1 h5] at hse
              obtain ⟨hsc, hsh, hp, hcl⟩ := hse
              split at h
              · rename_i hok
                have hfit : z_fit (nl y2) (c2 y2) (x.2.1.take m').reverse = true := by
                  have hok' := hok
                  unfold z_okc at hok'
                  simp only [Bool.and_eq_true] at hok'
                  exact hok'.1.2
                split at h
                · cases h
                · rename_i v mem1 h1'
                  have hz : ∃ en, tab y2 0 = some en := by
                    cases f with
                    | zero => cases h1'
                    | succ f =>
                      unfold z_run at h1'
                      cases ht : tab y2 0 with
                      | none => rw [ht] at h1'; cases h1'
                      | some en => exact ⟨en, rfl⟩
                  obtain ⟨en, hen2⟩ := hz
                  have hcon := z_con (l := l) (args := (x.2.1.take m').reverse) (hP0 y2 en hen2).2 hfit (hP0 y2 en hen2).1 (z_walk hZK hE hP0 hl f y2 0 _ _ h1')
                  have g1 := hm _ _ _ _ _ h1'
                  have g2 := hm _ _ _ _ _ h
                  exact z_callN (L := x.1) (st := x.2.1) (mem := x.2.2) hZK C hcon hsc hp hcl hok g1 g2 (ih (ip + 1) _ h)
                · rename_i ex mem1 h1'
                  split at h
                  · cases h
                  · rw [hh ex] at h
                    cases h
              · cases h
end TOP
