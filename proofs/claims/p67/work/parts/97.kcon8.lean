/-! The program's constructor whole. -/
theorem k8a_hi {a0 : Nat → Nat} {h0 qs qv qp : Nat} {f1 f2 f3 g0 g1 f5 f6 f7 : Nat → Nat} {k : Nat} (h : 229 ≤ k) : k8a a0 h0 qs qv qp f1 f2 f3 g0 g1 f5 f6 f7 k = a0 k := by
  have b : ∀ n, n ≤ 229 → Nat.blt k n = false := fun n hn => by
    cases h2 : Nat.blt k n with
    | false => rfl
    | true =>
      have := Nat.le_of_ble_eq_true h2
      omega
  have c : ∀ n, n < 229 → Nat.beq k n = false := fun n hn => by
    cases h2 : Nat.beq k n with
    | false => rfl
    | true =>
      have := Nat.eq_of_beq_eq_true h2
      omega
  unfold k8a
  rw [b 16 (by decide), b 32 (by decide), b 160 (by decide), b 176 (by decide), b 192 (by decide), c 192 (by decide), b 195 (by decide), c 195 (by decide), c 196 (by decide), b 199 (by decide), b 225 (by decide), b 228 (by decide), c 228 (by decide)]
  rfl
/-- the constructor of the program: out of its blank object its 229 cells, and what stands then -/
theorem k8_con {l : Launch} {LL : Nat} {xs : Nat → Int32} {D : va_G} {cA : Nat → ClassId} (hst : l.stackTraces = false) (a0 : Nat → Nat) (B : Nat → Prop) (h0 sz : Nat) : Met l yX8_init (Cond.code yX8_init cX8_init 2 none :: zTs) { frames := 8, cells := 228, slots := 6687, locals := 200 }
    (va_Pc [.ref h0] (fun U => U.heap.size = sz ∧ va_P D vwCl [(h0, (.inr (8, [.null, .null, .null, .null, .null, .null, .null, .null, .null, .int 0, .int 0]) : va_E))] U.heap ∧ kK D cA U ∧ zZA LL xs B a0 U U.heap ∧ B h0 ∧ ∀ q, sz ≤ q → B q))
    (va_Qv (fun u : (Nat → Nat) × GM => u.1 192 = h0 ∧ (∀ k, 229 ≤ k → u.1 k = a0 k) ∧ zrM u.2 ∧ JS Gz u.2) (fun u t => va_P D vwCl (z_W 229 u.1 cA (mM u.2 Gz 0)) t.heap ∧ va_D (va_A [(h0, (.inr (8, [.null, .null, .null, .null, .null, .null, .null, .null, .null, .int 0, .int 0]) : va_E))] sz) (z_W 229 u.1 cA (mM u.2 Gz 0))) (va_A [(h0, (.inr (8, [.null, .null, .null, .null, .null, .null, .null, .null, .null, .int 0, .int 0]) : va_E))] sz)) 228 6687 (va_A [(h0, (.inr (8, [.null, .null, .null, .null, .null, .null, .null, .null, .null, .int 0, .int 0]) : va_E))] sz) := by
  refine Met.ofW (cc := cX8_init) (maxL := 2) (ret := none) (by decide) rfl ?_
  intro p e s m args below meth c s₁ X hml hv
  obtain ⟨rfl, hsz, hP, hK, hZ, hB0, hB⟩ := hv
  have hts0 := atoms_spec (ws := Cond.code yX8_init cX8_init 2 none :: zTs) X.pre
  have hts : ∀ w ∈ zTs, w.before #[Value.ref h0] s = true := fun w hw => hts0 w (List.mem_cons_of_mem _ hw)
  have hown : s.vm.findClass yX8_init.cls = some m.cls := findClass_of_methodNamed X.named
  subst hsz
  have hl := lv_entry ([.ref h0]) (n := 2) (show (lg_sl [Value.ref h0]).length ≤ 2 from Nat.le_of_ble_eq_true rfl)
  rw [lg_entry_eq]
  generalize (lg_sl ([.ref h0]) ++ List.replicate (2 - (lg_sl ([.ref h0])).length) Slot.unset).toArray = ls at hl ⊢
  have hl : lv_has ls 2 [(0, .ref h0)] := hl
  refine lv_aload_n X.exec X.bytes dX8_init_0 rfl (lv_at hl 0 rfl) ?_
  refine W.objInit X.exec X.bytes hown (hts _ kw_65) (hts _ k_oi) (hts _ k_oc) rfl (by rw [hml]; exact hl.1) rfl dX8_init_1 (by decide) (Nat.le_of_ble_eq_true rfl) ?_
  refine W.eq (g2 := F0 m 4 ls []) rfl ?_
  have hA0 : va_A [(h0, (.inr (8, [.null, .null, .null, .null, .null, .null, .null, .null, .null, .int 0, .int 0]) : va_E))] s.heap.size h0 := Or.inl ⟨0, _, rfl⟩
  refine k8_walk l D cA X.exec X.bytes hml hown hts ((name_of_methodNamed X.named X.method).1.trans rfl) hK hP (k_d1 hA0) va_S.rf (fun q h => Or.inr h) hl ?_
  intro qs qv qp f1 f2 f3 g0 g1 f5 f6 f7 H locs ls hP hD hS hl
  have hP1 := k8_P cA a0 h0 qs qv qp f1 f2 f3 g0 g1 f5 f6 f7 hP
  rw [← mem0_eq] at hP1
  have hinj := k8_inj cA a0 h0 qs qv qp f1 f2 f3 g0 g1 f5 f6 f7 hD
  have hAd : ∀ k, k < 229 → va_A [(h0, (.inr (8, [.null, .null, .null, .null, .null, .null, .null, .null, .null, .int 0, .int 0]) : va_E))] s.heap.size (k8a a0 h0 qs qv qp f1 f2 f3 g0 g1 f5 f6 f7 k) := fun k hk => k8_D cA a0 h0 qs qv qp f1 f2 f3 g0 g1 f5 f6 f7 hD hk
  have hAz : ∀ q, z_A 229 (k8a a0 h0 qs qv qp f1 f2 f3 g0 g1 f5 f6 f7) q → va_A [(h0, (.inr (8, [.null, .null, .null, .null, .null, .null, .null, .null, .null, .int 0, .int 0]) : va_E))] s.heap.size q := by
    rintro q ⟨k, hk, rfl⟩
    exact hAd k hk
  have h192 : k8a a0 h0 qs qv qp f1 f2 f3 g0 g1 f5 f6 f7 192 = h0 := rfl
  have hhi : ∀ k, 229 ≤ k → k8a a0 h0 qs qv qp f1 f2 f3 g0 g1 f5 f6 f7 k = a0 k := fun k hk => k8a_hi hk
  have hDz : ∀ mem, va_D (va_A [(h0, (.inr (8, [.null, .null, .null, .null, .null, .null, .null, .null, .null, .int 0, .int 0]) : va_E))] s.heap.size) (z_W 229 (k8a a0 h0 qs qv qp f1 f2 f3 g0 g1 f5 f6 f7) cA mem) := fun mem => ⟨(z_D hinj).1, fun k q hk => hAz _ ((z_D hinj).2 k q hk)⟩
  generalize k8a a0 h0 qs qv qp f1 f2 f3 g0 g1 f5 f6 f7 = ad at hP1 hinj hAd hAz h192 hhi hDz
  have C : z_C 229 z8nl zTs (zZ LL xs 229) z8yn z8bc z8rt z8fr z8lo 335 ad D cA 228 6687 p l { frames := 8, cells := 228, slots := 6687, locals := 200 } s m #[Value.ref h0] meth c :=
    ⟨X.exec, X.bytes, hml, hown, hts, X.returns, X.notSynchronized, rfl, rfl, hinj, hK.1, zZA_to hZ (fun k hk _ => hhi k (Nat.le_trans (by decide) hk)) (fun q hq => by
      rcases hAz q hq with ⟨k, e, h⟩ | h
      · cases k with
        | zero => cases h; exact hB0
        | succ k => cases h
      · exact hB q h), Nat.le_refl _, Nat.le_refl _⟩
  refine k_locs (locs' := locs.filter fun y => decide (y.base < s.heap.size)) (fun y hy hb => List.mem_filter.mpr ⟨hy, decide_eq_true hb⟩) ?_
  have hlow : ∀ q, q < s.heap.size → va_A [(h0, (.inr (8, [.null, .null, .null, .null, .null, .null, .null, .null, .null, .int 0, .int 0]) : va_E))] s.heap.size q → z_A 229 ad q := by
    rintro q hq (⟨k, e, h⟩ | h)
    · cases k with
      | zero => cases h; exact ⟨192, by decide, h192.symm⟩
      | succ k => cases h
    · omega
  have hS' : va_S (z_A 229 ad) s.heap H (locs.filter fun y => decide (y.base < s.heap.size)) := ⟨hS.1, fun q h1 h2 => hS.2.1 q h1 (fun z => h2 (hlow q h1 z)), fun y hy => by
    obtain ⟨hy, hb⟩ := List.mem_filter.mp hy
    exact hlow _ (of_decide_eq_true hb) (hS.2.2 y hy)⟩
  have hh' : z_has ad (z8c2 335) (z8nl 335) ls [.ref 192, .null] := ⟨by
    have h9 : lv_has ls 2 [(0, .ref h0)] := lv_sub hl [1] rfl
    rw [← h192] at h9
    exact h9, fun i v hi hc => by
    exfalso
    match i, hi with
    | 0, hi => cases hi; cases hc
    | 1, hi => cases hi; cases hc
    | i + 2, hi => cases hi⟩
  refine k8_tail (e := e) (below := below) (F := Gz) hst C zrM_z zrL_z rfl (fun G' hG' hJ => ?_) H _ ls 228 6687 rfl rfl hP1 hS' hh'
  intro H1 locs1 sl cells slots e1 e2 hP2 hS2 hh
  obtain rfl : cells = 228 := e1
  obtain rfl : slots = 6687 := e2
  have hlocks := X.notSynchronized
  exact W.vret X.exec X.bytes X.returns (fun t ht hW => ⟨⟨(ad, G'), rfl, ⟨h192, hhi, hG', hJ⟩, by rw [ht]; exact hP2, hDz _⟩, Nat.le_trans hS2.1 (Nat.le_of_eq (by rw [ht])), fun q h1 h2 => by
      rw [ht]
      exact hS2.2.1 q h1 (fun z => h2 (hAz q z))⟩) (fun q hq => hAz _ (hS2.2.2 q hq)) dX8_init_157
