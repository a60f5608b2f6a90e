/-! A call of a method of the machine, more below it on the stack. -/
theorem w_cat5 {ad : Nat → Nat} : ∀ {L : List Value}, ((L.map (z_cv ad)).map fun v => v.category).sum = (L.map fun v => v.category).sum := by
  intro L
  induction L with
  | nil => rfl
  | cons v L ih =>
    have h2 : (z_cv ad v).category = v.category := by cases v <;> rfl
    simp only [List.map_cons, List.sum_cons]
    simp only [List.map_map] at ih ⊢
    omega
section WCR
variable {N : Nat} {tab : Nat → Nat → Option Ent} {nl : Nat → Nat} {c2 : Nat → Nat → Bool} {cl : Nat → Nat} {hnd : Nat → Nat → Option Int32}
variable {Ts : List Cond} {Z : (Nat → Nat) → State → Heap → Prop} {exn : Nat → String} {yn : Nat → MethodName} {bc : Nat → ByteArray} {rt : Nat → Option FieldType} {fr lo : Nat → Nat} {P : Nat → Nat → Nat} {tb : Nat → List (Nat × Nat × Nat × Nat)}
theorem w_crun5 (hZK : z_ZK N Z) {p : Program} {l : Launch} {e : Env} {R : Room} {s : State} {m : MethodId} {args : Array Value} {below : List Frame} {meth : Method} {c : Code} {ad : Nat → Nat} {D : va_G} {cA : Nat → ClassId} {CE SE : Nat} {y ip k y2 n : Nat} {st : List Value} {mem mem' : Mm} {v : Option Value}
    (C : z_C N nl Ts Z yn bc rt fr lo y ad D cA CE SE p l R s m args meth c) (hcon : z_Con N nl Ts Z exn yn bc rt fr lo tb l y2 (st.take n).reverse mem (.inl v, mem')) (hsc : z_SC N nl Ts Z yn bc rt fr lo P tb y ip k y2 n) (hcl : k = 3 → ∃ T Nf, vwCl[cl y2]? = some ((yn y2).cls, T, Nf))
    (hok : z_okc N (cl y2) (nl y2) (c2 y2) k n (st.take n) = true) (h5 : ((st.drop n).map fun v => v.category).sum ≤ 8) {H : Heap} {locs : List Loc} {sl : Array Slot} {cells slots : Nat} (hc : cells + (mem'.2.2 - mem.2.2) ≤ CE) (hs : slots + 6 * (mem'.2.2 - mem.2.2) ≤ SE) (hP : va_P D vwCl (z_W N ad cA mem) H) (hZH : Z ad s H) (hsl : sl.size = nl y) :
    vx_Run p l e R s m args below meth c H locs cells slots (mem'.2.2 - mem.2.2) (6 * (mem'.2.2 - mem.2.2)) (F0 m (P y ip) sl (st.map (z_cv ad))) ((st.drop n).map (z_cv ad)) (z_Qc N ad D cA (.inl v, mem') (((st.take n).reverse).map (z_cv ad)).toArray) (z_XC N exn ad D cA (.inl v, mem')) (z_A N ad) := by
  have C' := C
  obtain ⟨hx, hb, hml, hown, hts, hr, hlk, hfr, hlo, hinj, hK, hZ, hCE, hSE⟩ := C'
  unfold z_okc at hok
  rw [List.take_take, Nat.min_self] at hok
  simp only [Bool.and_eq_true] at hok
  obtain ⟨⟨⟨o1, o2⟩, o3⟩, o4⟩ := hok
  have o1 := Nat.le_of_ble_eq_true o1
  have o1 : n ≤ st.length := by rw [List.length_take] at o1; omega
  have hst : (((st.take n).reverse).map (z_cv ad)).reverse ++ (st.drop n).map (z_cv ad) = st.map (z_cv ad) := by
    rw [List.map_reverse, List.reverse_reverse, ← List.map_append, List.take_append_drop]
  rw [← hst]
  refine hsc p l e R s m args below meth c ad D cA CE SE C H locs sl cells slots _ _ _ _ _ _ _ _ (fun hk E u t hx9 => ?_) (hcon ad D cA hinj) (fun a U g mk q => ?_) (fun U hU hW => ?_) hZH (fun hk => ?_) (fun hk => ?_) ?_ ?_ hsl (Nat.le_trans hc hCE) (Nat.le_trans hs hSE)
  · obtain ⟨z, hz, -⟩ := hx9
    cases hz
  · obtain ⟨q0, q1, q2, q3⟩ := q
    exact ⟨q0, va_K.moved (u := U) (U := U.calling g mk a) (Vm.Alike.refl U.vm) q1, q2, hZK.1 ad U _ _ rfl q3⟩
  · exact ⟨rfl, va_K.moved hW.alike hK, by rw [hU]; exact hP, hZK.2.1 ad s U _ hW (by rw [hU]; exact hZH)⟩
  · subst hk
    simp only at o4
    split at o4
    · rename_i b as he
      simp only [Bool.and_eq_true, beq_iff_eq] at o4
      obtain ⟨⟨p1, p2⟩, p3⟩ := o4
      have p1 : b < N := Nat.le_of_ble_eq_true p1
      obtain ⟨T, Nf, hv⟩ := hcl rfl
      rw [he]
      exact ⟨ad b, as.map (z_cv ad), rfl, va_recv hK hP hv (q0 := b) (by rw [z_W_at p1, z_cel_obj p2 p3])⟩
    · cases o4
  · subst hk
    simp only at o4
    split at o4
    · rename_i b as he
      simp only [Bool.and_eq_true] at o4
      obtain ⟨p1, p2⟩ := o4
      have p1 := @Nat.le_of_ble_eq_true 320 b p1
      have p2 := @Nat.le_of_ble_eq_true (Nat.succ b) 330 p2
      obtain ⟨i, rfl⟩ := Nat.exists_eq_add_of_le p1
      rw [he]
      exact ⟨i, as.map (z_cv ad), Nat.lt_of_add_lt_add_left (n := 320) p2, rfl⟩
    · cases o4
  · rw [List.length_map, List.length_reverse, List.length_take]
    omega
  · rw [w_cat5]
    exact h5
end WCR
section W5
variable {u : WU} {y : Nat} {b : WB} {pc pc' : Nat} {L st : List Value} {G F : GM} {Y : DY} {c d : Nat} {Q : WQ}
theorem wi_call5 {k1 y2 n : Nat} {as : List Value} {Q2 : Zq} (hsc : z_SC u.1 znl zTs (zZ u.2.1 u.2.2 u.1) zyn zbc zrt zfr zlo (fun _ i => i) ztb y pc k1 y2 n) (hp : pc + 3 = pc') (hc : zC u.1 y2 as G F 0 Q2) (hcl : k1 = 3 → ∃ T Nf, vwCl[zcl y2]? = some ((zyn y2).cls, T, Nf)) (ha : (st.take n).reverse = as) (hok : z_okc u.1 (zcl y2) (znl y2) (zc2 y2) k1 n (st.take n) = true) (h5 : ((st.drop n).map fun v => v.category).sum ≤ 8)
    (hx : ∀ z G' F' n', ¬ Q2 (.inr z) G' F' n') (hv : ∀ v G' F' n', Q2 (.inl (some v)) G' F' n' → w_v 0 v) (hbb : ∀ v G' F' n', Q2 (.inl v) G' F' n' → c + n' ≤ b.1 ∧ d + 6 * n' ≤ b.2.1)
    (k : ∀ v G' F' n', Q2 (.inl v) G' F' n' → wW u y b pc' L (v.toList ++ st.drop n) G' F' Y (c + n') (d + 6 * n') Q) : wW u y b pc L st G F Y c d Q := by
  subst hp
  intro g h1 h2 p l e R s m args below meth c0 a0 A D cA Qm hC hE ad H locs sl cells slots hA hL
  have hC' := hC
  have hA' := hA
  obtain ⟨hex, hb, hml, hown, hts, hr, hlk, hnm, hfr, hlo, hce, hse, hK, hZ, hAn, hst⟩ := hC'
  obtain ⟨e1, e2, e3, hP, hD, hS⟩ := hA'
  obtain ⟨f, o, G', F', n', hrun0, hG', hF', hq⟩ := hc g.2.1 g.2.2.1
  have hfit : z_fit (znl y2) (zc2 y2) (st.take n).reverse = true := by
    have hok' := hok
    unfold z_okc at hok'
    rw [List.take_take, Nat.min_self] at hok'
    simp only [Bool.and_eq_true] at hok'
    exact hok'.1.2
  have hok' := hok
  cases o with
  | inr z => exact absurd hq (hx z G' F' n')
  | inl v =>
    rw [← ha] at hrun0
    have hz : ∃ en, ztab u.1 y2 0 = some en := by
      cases f with
      | zero => cases hrun0
      | succ f =>
        unfold z_run at hrun0
        cases ht : ztab u.1 y2 0 with
        | none => rw [ht] at hrun0; cases hrun0
        | some en => exact ⟨en, rfl⟩
    obtain ⟨en, hen⟩ := hz
    have hp0 := zE_0 (N := u.1) y2 en hen
    have hw := z_walk (zZ_K u.2.1 u.2.2 u.1) (fun y ip en h => zE_all (L := u.2.1) (xs := u.2.2) (N := u.1) y ip en h) (fun y en h => zE_0 (N := u.1) y en h) hst f y2 0 _ _ hrun0
    have hcon := z_con hp0.2 hfit hp0.1 hw
    obtain ⟨hbc, hbd⟩ := hbb v G' F' n' hq
    have hinj : ∀ i j, i < u.1 → j < u.1 → ad i = ad j → i = j := fun i j hi hj he => hD.1 i j _ _ (w_W_lo hi) (w_W_lo hj) he
    have hAz : ∀ q, z_A u.1 ad q → A q := by
      rintro q ⟨i, hi, rfl⟩
      exact hD.2 i _ (w_W_lo hi)
    have hZ9 : zZ u.2.1 u.2.2 u.1 ad s s.heap := zZA_to hZ.1 (fun k _ hk => e1 k (by omega)) hAz
    have hPz : va_P D vwCl (z_W u.1 ad cA (mM G F 0)) H := fun i q hi => hP i q (by
      unfold w_W
      rw [List.getElem?_append_left (List.getElem?_eq_some_iff.mp hi).1]
      exact hi)
    have hC9 : z_C u.1 znl zTs (zZ u.2.1 u.2.2 u.1) zyn zbc zrt zfr zlo y ad D cA b.1 b.2.1 p l R s m args meth c0 := ⟨hex, hb, hml, hown, hts, hr, hlk, hfr, hlo, hinj, wK_z hK, hZ9, Nat.le_of_eq hce.symm, Nat.le_of_eq hse.symm⟩
    have hSN : va_S (fun q => A q) s.heap H locs := hS
    have hZH : zZ u.2.1 u.2.2 u.1 ad s H := zZA_to ((zZA_K u.2.1 u.2.2 A).2.2 a0 s s.heap H hS.1 hS.2.1 hZ.1) (fun k _ hk => e1 k (by omega)) hAz
    have hrun := w_crun5 (e := e) (below := below) (cells := cells) (slots := slots) (locs := locs) (zZ_K u.2.1 u.2.2 u.1) hC9 hcon hsc hcl hok h5 (by show cells + (n' - 0) ≤ b.1; omega) (by show slots + 6 * (n' - 0) ≤ b.2.1; omega) hPz hZH hL.1.1
    intro T hT X
    rcases hrun T hT X with ⟨v', st₀, t, T', L', h0, X', hL', q1, q2, ⟨v9, hv9, ho, hPt, hF⟩, stp⟩ | ⟨q, st₀, t, T', L', E, ce, h0, X', hL', q1, q2, ⟨k9, hk9, -⟩, -⟩
    · cases hv9
      cases ho
      obtain ⟨k1, k2, k3⟩ := vx_keep h0 q1 hS (fun q _ h => hAz q h) hAz hL' hF
      have hP2 : va_P D vwCl (w_W u.1 ad cA G' F' Y) T'.heap := by
        refine va_P.app ?_ ?_
        · rw [q1]
          intro i q hi
          have e9 : z_W u.1 ad cA (mM G' F' 0) = z_W u.1 ad cA (mM G' F' n') := z_W_k
          exact hPt i q (by rw [← e9]; exact hi)
        · intro i q hi
          have hi2 : i < Y.2.2 := by
            have := (List.getElem?_eq_some_iff.mp hi).1
            rwa [w_X_len] at this
          have hi3 : (w_W u.1 ad cA G F Y)[u.1 + i]? = some q := by rw [w_W_hi hi2, ← w_X_at hi2]; exact hi
          have h9 := hP _ _ hi3
          refine h9.kept (k2 _ h9.lt (fun hz => ?_))
          obtain ⟨j, hj, he⟩ := hz
          have := hD.1 (u.1 + i) j _ _ hi3 (w_W_lo hj) he
          omega
      have hv0 : w_vs (1000 + Y.2.2) (v.toList ++ st.drop n) := w_vs_a (fun x hx => by
        cases v with
        | none => cases hx
        | some w =>
          rw [List.mem_singleton.mp hx]
          exact w_v_up (hv w _ _ _ hq) (by omega)) (w_vs_d n h2)
      obtain ⟨t2, a1, b1⟩ := k v G' F' n' hq ⟨g.1, hG', hF', g.2.2.2⟩ h1 hv0 p l e R s m args below meth c0 a0 A D cA Qm hC hE ad T'.heap (locs ++ L') sl _ _
        ⟨e1, Nat.add_le_add_right e2 _, Nat.add_le_add_right e3 _, hP2, w_D_c hD rfl, k3⟩ hL T' rfl X'
      refine ⟨t2, stp t2 ?_, b1⟩
      have hst9 : ((v.map (z_cv ad)).toList ++ (st.drop n).map (z_cv ad)) = (v.toList ++ st.drop n).map (z_cv ad) := by
        cases v <;> simp
      rw [hst9]
      exact a1
    · cases hk9
end W5
section C15
variable {u9 : WU} {y : Nat} {b : WB} {pc pc' : Nat} {L st : List Value} {G F : GM} {Y : DY} {c d : Nat} {Q : WQ}

theorem wi_cv5 {k1 y2 n : Nat} {as : List Value} {e w : Int} {P : GM → Prop} (hsc : z_SC u9.1 znl zTs (zZ u9.2.1 u9.2.2 u9.1) zyn zbc zrt zfr zlo (fun _ i => i) ztb y pc k1 y2 n) (hp : pc + 3 = pc') (hc : zC u9.1 y2 as G F 0 (zLc F 0 e w P)) (hcl : k1 = 3 → ∃ T Nf, vwCl[zcl y2]? = some ((zyn y2).cls, T, Nf)) (ha : (st.take n).reverse = as) (hok : z_okc u9.1 (zcl y2) (znl y2) (zc2 y2) k1 n (st.take n) = true) (h5 : ((st.drop n).map fun v => v.category).sum ≤ 8) (he : e = 0) (hb1 : c ≤ b.1) (hb2 : d ≤ b.2.1)
    (k : ∀ G', P G' → wW u9 y b pc' L (.int (zi w) :: st.drop n) G' F Y c d Q) : wW u9 y b pc L st G F Y c d Q := by
  refine wi_call5 hsc hp hc hcl ha hok h5 (by rintro z G9 F9 n9 ⟨h9, -⟩; cases h9) (by rintro v9 G9 F9 n9 ⟨h9, -⟩; cases h9; exact w_v_i _ _) (by rintro v9 G9 F9 n9 ⟨h9, -, -, h8⟩; rw [if_pos he] at h8; subst h8; exact ⟨hb1, by omega⟩) ?_
  rintro v9 G9 F9 n9 ⟨h9, h7, h6, h8⟩
  rw [if_pos he] at h8
  cases h9
  rw [h6, h8]
  exact k G9 h7
theorem wi_cx5 {k1 y2 n : Nat} {as : List Value} {e w : Int} {P : GM → Prop} (hsc : z_SC u9.1 znl zTs (zZ u9.2.1 u9.2.2 u9.1) zyn zbc zrt zfr zlo (fun _ i => i) ztb y pc k1 y2 n) (hp : pc + 3 = pc') (hc : zC u9.1 y2 as G F 0 (zLc F 0 e w P)) (hcl : k1 = 3 → ∃ T Nf, vwCl[zcl y2]? = some ((zyn y2).cls, T, Nf)) (ha : (st.take n).reverse = as) (hok : z_okc u9.1 (zcl y2) (znl y2) (zc2 y2) k1 n (st.take n) = true) (h5 : ((st.drop n).map fun v => v.category).sum ≤ 8) (hb1 : c + 1 ≤ b.1) (hb2 : d + 6 ≤ b.2.1)
    (k : ∀ G', P G' → wW u9 y b pc' L (.int (zi w) :: st.drop n) G' F Y (c + 1) (d + 6) Q) : wW u9 y b pc L st G F Y c d Q := by
  have key : ∀ n9 : Nat, n9 = (if e = 0 then 0 else 0 + 1) → n9 ≤ 1 := fun n9 h => by
    rw [h]
    split <;> omega
  refine wi_call5 hsc hp hc hcl ha hok h5 (by rintro z G9 F9 n9 ⟨h9, -⟩; cases h9) (by rintro v9 G9 F9 n9 ⟨h9, -⟩; cases h9; exact w_v_i _ _) (by rintro v9 G9 F9 n9 ⟨h9, -, -, h8⟩; have := key n9 h8; exact ⟨by omega, by omega⟩) ?_
  rintro v9 G9 F9 n9 ⟨h9, h7, h6, h8⟩
  have := key n9 h8
  cases h9
  rw [h6]
  exact wW_cd (by omega) (by omega) (k G9 h7)
theorem wi_cp5 {k1 y2 n : Nat} {as : List Value} {w : Int} (hsc : z_SC u9.1 znl zTs (zZ u9.2.1 u9.2.2 u9.1) zyn zbc zrt zfr zlo (fun _ i => i) ztb y pc k1 y2 n) (hp : pc + 3 = pc') (hc : zPu u9.1 y2 as w G F 0) (hcl : k1 = 3 → ∃ T Nf, vwCl[zcl y2]? = some ((zyn y2).cls, T, Nf)) (ha : (st.take n).reverse = as) (hok : z_okc u9.1 (zcl y2) (znl y2) (zc2 y2) k1 n (st.take n) = true) (h5 : ((st.drop n).map fun v => v.category).sum ≤ 8) (hb1 : c ≤ b.1) (hb2 : d ≤ b.2.1)
    (k : wW u9 y b pc' L (.int (zi w) :: st.drop n) G F Y c d Q) : wW u9 y b pc L st G F Y c d Q := by
  refine wi_call5 hsc hp hc hcl ha hok h5 (by rintro z G9 F9 n9 ⟨h9, -⟩; cases h9) (by rintro v9 G9 F9 n9 ⟨h9, -⟩; cases h9; exact w_v_i _ _) (by rintro v9 G9 F9 n9 ⟨-, -, -, rfl⟩; exact ⟨hb1, by omega⟩) ?_
  rintro v9 G9 F9 n9 ⟨h9, h7, h6, h8⟩
  cases h9
  rw [h7, h6, h8]
  exact k
end C15
