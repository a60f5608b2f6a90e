/-! Members of the texts among the constants: their fields, their bytes, and the check of an index. -/
theorem z_ix {q a n : Nat} (h : a ≤ q ∧ q < a + n) : ∃ i, i < n ∧ q = a + i := ⟨q - a, by omega, by omega⟩
section Z12
variable {N : Nat} {L : Nat} {xs : Nat → Int32} {Ts : List Cond} {own : String} {cc : ByteArray} {nL : Nat} {rt : Option FieldType} {fr lo : Nat} {c2 : Nat → Bool} {P : Nat → Nat} {ip : Nat}
def i_i2c : Ico := fun ip x => match x with
  | (LL, .int a :: st, mem) => some (ip + 1, LL, .int (a.toUInt32 % 65536).toInt32 :: st, mem)
  | _ => none
theorem sp_i2c {Z : (Nat → Nat) → State → Heap → Prop} (hd : decode cc (P ip) = .ok (.i2c, 1)) (hp : P (ip + 1) = P ip + 1) : z_SP N Ts Z own cc nL rt fr lo c2 P ip i_i2c := by
  refine ⟨?_, ?_⟩
  · intro x ip' x' hf
    unfold i_i2c at hf
    (repeat' split at hf) <;> first | (cases hf; rfl) | (cases hf)
  · intro p l e R s m args below meth c Q ad D cA kE CE SE C x ip' x' hf k
    obtain ⟨hx, hb, hml, hown, hts, hr, hlk, hfr, hlo, hinj, hK, hZ, hCE, hSE⟩ := C
    unfold i_i2c at hf
    (repeat' split at hf) <;> first | (cases hf; done) | skip
    all_goals cases hf
    all_goals intro H locs sl cells slots h1 h2 hP hS hL
    refine lv_i2c hx hb hd rfl ?_
    rw [← hp]
    exact k H locs sl cells slots h1 h2 hP hS hL
theorem sp_compact {index : Nat} (hd : decode cc (P ip) = .ok (.getstatic index, 3)) (w1 : Cond.fieldLink own index "java/lang/String" "COMPACT_STRINGS" "Z" ∈ Ts) (hp : P (ip + 1) = P ip + 3) : z_SP N Ts (zZ L xs N) own cc nL rt fr lo c2 P ip (i_push (.int 1)) := by
  refine ⟨?_, ?_⟩
  · intro x ip' x' hf
    cases hf; rfl
  · intro p l e R s m args below meth c Q ad D cA kE CE SE C x ip' x' hf k
    obtain ⟨hx, hb, hml, hown, hts, hr, hlk, hfr, hlo, hinj, hK, hZ, hCE, hSE⟩ := C
    cases hf
    intro H locs sl cells slots h1 h2 hP hS hL
    refine va_gets hx hb hZ.2.2.2.2.2.2.2.2.1 hS hown (hts _ w1) (fun _ h => h) hd ?_
    rw [← hp]
    exact k H locs sl cells slots h1 h2 hP hS hL
/-- the fields of a text -/
def i_scoder : Ico := fun ip x => match x with
  | (LL, .ref k :: st, mem) => if 320 ≤ k ∧ k < 330 then some (ip + 1, LL, .int 0 :: st, mem) else none
  | _ => none
def i_sval : Ico := fun ip x => match x with
  | (LL, .ref k :: st, mem) => if 320 ≤ k ∧ k < 330 then some (ip + 1, LL, .ref (Nat.add k 20) :: st, mem) else none
  | _ => none
theorem sp_scoder {index : Nat} (hd : decode cc (P ip) = .ok (.getfield index, 3)) (w1 : Cond.fieldLink own index "java/lang/String" "coder" "B" ∈ Ts) (hp : P (ip + 1) = P ip + 3) : z_SP N Ts (zZ L xs N) own cc nL rt fr lo c2 P ip i_scoder := by
  refine ⟨?_, ?_⟩
  · intro x ip' x' hf
    unfold i_scoder at hf
    (repeat' split at hf) <;> first | (cases hf; rfl) | (cases hf)
  · intro p l e R s m args below meth c Q ad D cA kE CE SE C x ip' x' hf k
    obtain ⟨hx, hb, hml, hown, hts, hr, hlk, hfr, hlo, hinj, hK, hZ, hCE, hSE⟩ := C
    unfold i_scoder at hf
    (repeat' split at hf) <;> first | (cases hf; done) | skip
    all_goals cases hf
    rename_i LL q st mem hq
    intro H locs sl cells slots h1 h2 hP hS hL
    obtain ⟨i, hi, rfl⟩ := z_ix (a := 320) (n := 10) hq
    have h9 := (hZ.2.2.2.1.1 i hi).2.1
    refine vk_getf hx hb h9 hS hown (hts _ w1) (fun _ h => h) hd ?_
    rw [← hp]
    exact k H locs sl cells slots h1 h2 hP hS hL
theorem sp_sval {index : Nat} (hd : decode cc (P ip) = .ok (.getfield index, 3)) (w1 : Cond.fieldLink own index "java/lang/String" "value" "[B" ∈ Ts) (hp : P (ip + 1) = P ip + 3) : z_SP N Ts (zZ L xs N) own cc nL rt fr lo c2 P ip i_sval := by
  refine ⟨?_, ?_⟩
  · intro x ip' x' hf
    unfold i_sval at hf
    (repeat' split at hf) <;> first | (cases hf; rfl) | (cases hf)
  · intro p l e R s m args below meth c Q ad D cA kE CE SE C x ip' x' hf k
    obtain ⟨hx, hb, hml, hown, hts, hr, hlk, hfr, hlo, hinj, hK, hZ, hCE, hSE⟩ := C
    unfold i_sval at hf
    (repeat' split at hf) <;> first | (cases hf; done) | skip
    all_goals cases hf
    rename_i LL q st mem hq
    intro H locs sl cells slots h1 h2 hP hS hL
    obtain ⟨i, hi, rfl⟩ := z_ix (a := 320) (n := 10) hq
    have h9 := (hZ.2.2.2.1.1 i hi).2.2.1
    refine vk_getf hx hb h9 hS hown (hts _ w1) (fun _ h => h) hd ?_
    have e9 : Nat.add (320 + i) 20 = 340 + i := by show 320 + i + 20 = 340 + i; omega
    rw [e9] at k
    rw [← hp]
    exact k H locs sl cells slots h1 h2 hP hS hL
/-- the bytes of a text -/
def i_salen : Ico := fun ip x => match x with
  | (LL, .ref k :: st, mem) => if 340 ≤ k ∧ k < 350 then some (ip + 1, LL, .int (Int32.ofNat (zSl.getD (Nat.sub k 340) 0)) :: st, mem) else none
  | _ => none
def i_sbald : Ico := fun ip x => match x with
  | (LL, .int i :: .ref k :: st, mem) => if 340 ≤ k ∧ k < 350 then (if i < 0 ∨ zSl.getD (Nat.sub k 340) 0 ≤ i.toNatClampNeg then none else some (ip + 1, LL, .int ((zSb.getD (Nat.sub k 340) []).getD i.toNatClampNeg 0) :: st, mem)) else none
  | _ => none
theorem sp_salen (hd : decode cc (P ip) = .ok (.arraylength, 1)) (hp : P (ip + 1) = P ip + 1) : z_SP N Ts (zZ L xs N) own cc nL rt fr lo c2 P ip i_salen := by
  refine ⟨?_, ?_⟩
  · intro x ip' x' hf
    unfold i_salen at hf
    (repeat' split at hf) <;> first | (cases hf; rfl) | (cases hf)
  · intro p l e R s m args below meth c Q ad D cA kE CE SE C x ip' x' hf k
    obtain ⟨hx, hb, hml, hown, hts, hr, hlk, hfr, hlo, hinj, hK, hZ, hCE, hSE⟩ := C
    unfold i_salen at hf
    (repeat' split at hf) <;> first | (cases hf; done) | skip
    all_goals cases hf
    rename_i LL q st mem hq
    intro H locs sl cells slots h1 h2 hP hS hL
    obtain ⟨i, hi, rfl⟩ := z_ix (a := 340) (n := 10) hq
    have h9 := (hZ.2.2.2.1.1 i hi).2.2.2
    have e9 : Nat.sub (340 + i) 340 = i := Nat.add_sub_cancel_left 340 i
    rw [e9] at k
    refine va_tlen hx hb h9 hS rfl hd ?_
    rw [← hp]
    exact k H locs sl cells slots h1 h2 hP hS hL
theorem sp_sbald (hd : decode cc (P ip) = .ok (.baload, 1)) (hp : P (ip + 1) = P ip + 1) : z_SP N Ts (zZ L xs N) own cc nL rt fr lo c2 P ip i_sbald := by
  refine ⟨?_, ?_⟩
  · intro x ip' x' hf
    unfold i_sbald at hf
    (repeat' split at hf) <;> first | (cases hf; rfl) | (cases hf)
  · intro p l e R s m args below meth c Q ad D cA kE CE SE C x ip' x' hf k
    obtain ⟨hx, hb, hml, hown, hts, hr, hlk, hfr, hlo, hinj, hK, hZ, hCE, hSE⟩ := C
    unfold i_sbald at hf
    (repeat' split at hf) <;> first | (cases hf; done) | skip
    all_goals cases hf
    rename_i LL i q st mem hq hi
    intro H locs sl cells slots h1 h2 hP hS hL
    obtain ⟨i9, hi9, rfl⟩ := z_ix (a := 340) (n := 10) hq
    have h9 := (hZ.2.2.2.1.1 i9 hi9).2.2.2
    have e9 : Nat.sub (340 + i9) 340 = i9 := Nat.add_sub_cancel_left 340 i9
    rw [e9] at k hi
    refine va_tb hx hb h9 hS hi rfl hd ?_
    rw [← hp]
    exact k H locs sl cells slots h1 h2 hP hS hL
theorem z_strO (ad : Nat → Nat) (s : State) (H : Heap) (i : Nat) (hi : i < 10) (h : zZ L xs N ad s H) : ∃ cellB : Cell, H[ad (320 + i)]? = some cellB ∧ cellB.vm.isStatics = false ∧ s.vm.findClass "java/lang/String" = some cellB.cls := by
  obtain ⟨cell, h1, h2, h3, -⟩ := (h.2.2.2.1.1 i hi).1
  exact ⟨cell, h1, h2, h3⟩
theorem dJ3_checkIndex_8e157_0 : decode cJ3_checkIndex_8e157 0 = .ok (.iload_n 0, 1) := by decide +kernel
theorem dJ3_checkIndex_8e157_1 : decode cJ3_checkIndex_8e157 1 = .ok (.ifCond .lt 8, 3) := by decide +kernel
theorem dJ3_checkIndex_8e157_4 : decode cJ3_checkIndex_8e157 4 = .ok (.iload_n 0, 1) := by decide +kernel
theorem dJ3_checkIndex_8e157_5 : decode cJ3_checkIndex_8e157 5 = .ok (.iload_n 1, 1) := by decide +kernel
theorem dJ3_checkIndex_8e157_6 : decode cJ3_checkIndex_8e157 6 = .ok (.if_icmp .lt 10, 3) := by decide +kernel
theorem dJ3_checkIndex_8e157_9 : decode cJ3_checkIndex_8e157 9 = .ok (.aload_n 2, 1) := by decide +kernel
theorem dJ3_checkIndex_8e157_10 : decode cJ3_checkIndex_8e157 10 = .ok (.iload_n 0, 1) := by decide +kernel
theorem dJ3_checkIndex_8e157_11 : decode cJ3_checkIndex_8e157 11 = .ok (.iload_n 1, 1) := by decide +kernel
theorem dJ3_checkIndex_8e157_12 : decode cJ3_checkIndex_8e157 12 = .ok (.invokestatic 95, 3) := by decide +kernel
theorem dJ3_checkIndex_8e157_15 : decode cJ3_checkIndex_8e157 15 = .ok (.athrow, 1) := by decide +kernel
theorem dJ3_checkIndex_8e157_16 : decode cJ3_checkIndex_8e157 16 = .ok (.iload_n 0, 1) := by decide +kernel
theorem dJ3_checkIndex_8e157_17 : decode cJ3_checkIndex_8e157 17 = .ok (.ireturn, 1) := by decide +kernel
/-- the check of an index, where the index is good -/
theorem z_ck {l : Launch} {A : Nat → Prop} {i n : Int32} {v : Value} (hv : v.category = 1) (hi : ¬ i < 0) (hn : i < n) : vx_Met l yJ3_checkIndex_8e157 [Cond.code yJ3_checkIndex_8e157 cJ3_checkIndex_8e157 3 (some .int)] { frames := 0, cells := 0, slots := 0, locals := 0 } (va_Pc [.int i, .int n, v] (fun _ => True)) (fun _ st o t => o = .returned (some (.int i)) ∧ t.heap = st.heap) (fun _ _ _ => False) 0 0 A := by
  refine vx_ofW (cc := cJ3_checkIndex_8e157) (maxL := 3) (ret := some .int) (ws' := []) (by decide +kernel) rfl ?_
  intro p e s m args' below meth c s₁ B hml hx hP
  obtain ⟨rfl, -⟩ := hP
  rw [lg_entry_eq]
  have hsl : (lg_sl [Value.int i, .int n, v] ++ List.replicate (3 - (lg_sl [Value.int i, .int n, v]).length) Slot.unset).toArray = #[.val (.int i), .val (.int n), .val v] := by
    cases v <;> first | rfl | (simp [Value.category] at hv)
  rw [hsl]
  refine lv_iload_n B.exec B.bytes (i := 0) dJ3_checkIndex_8e157_0 rfl rfl ?_
  refine lv_if_lt B.exec B.bytes dJ3_checkIndex_8e157_1 (tgt := 9) rfl (fun z => absurd z hi) (fun _ => ?_)
  refine lv_iload_n B.exec B.bytes (i := 0) dJ3_checkIndex_8e157_4 rfl rfl ?_
  refine lv_iload_n B.exec B.bytes (i := 1) dJ3_checkIndex_8e157_5 rfl rfl ?_
  refine lv_icmp_lt B.exec B.bytes dJ3_checkIndex_8e157_6 (tgt := 16) rfl (fun _ => ?_) (fun z => absurd hn z)
  refine lv_iload_n B.exec B.bytes (i := 0) dJ3_checkIndex_8e157_16 rfl rfl ?_
  exact vx_ret (W.iret B.exec B.bytes B.returns (fun t h _ => ⟨rfl, h⟩) (fun q hq => by cases hq) dJ3_checkIndex_8e157_17 B.notSynchronized)
/-- get the formatter, check the index, and drop the answer -/
def i_cki : Ico := fun ip x => match x with
  | (LL, .int n :: .int i :: st, mem) => if i < 0 ∨ ¬ i < n ∨ 4 < st.length then none else some (ip + 3, LL, st, mem)
  | _ => none
theorem sp_cki {index index2 : Nat} (hG : GoodIn Ts Ts) (hd : decode cc (P ip) = .ok (.getstatic index, 3)) (w1 : Cond.fieldLink own index "jdk/internal/util/Preconditions" "SIOOBE_FORMATTER" "Ljava/util/function/BiFunction;" ∈ Ts) (hd2 : decode cc (P ip + 3) = .ok (.invokestatic index2, 3)) (w2 : Cond.methodLink own index2 yJ3_checkIndex_8e157 ∈ Ts) (w3 : Cond.static yJ3_checkIndex_8e157 ∈ Ts) (w4 : Cond.initialized "jdk/internal/util/Preconditions" ∈ Ts) (w5 : Cond.code yJ3_checkIndex_8e157 cJ3_checkIndex_8e157 3 (some .int) ∈ Ts) (hd3 : decode cc (P ip + 6) = .ok (.pop, 1)) (hfr1 : 1 ≤ fr) (hlo1 : 22 ≤ lo) (hp : P (ip + 3) = P ip + 7) : z_SP N Ts (zZ L xs N) own cc nL rt fr lo c2 P ip i_cki := by
  refine ⟨?_, ?_⟩
  · intro x ip' x' hf
    unfold i_cki at hf
    (repeat' split at hf) <;> first | (cases hf; rfl) | (cases hf)
  · intro p l e R s m args below meth c Q ad D cA kE CE SE C x ip' x' hf k
    obtain ⟨hx, hb, hml, hown, hts, hr, hlk, hfr, hlo, hinj, hK, hZ, hCE, hSE⟩ := C
    unfold i_cki at hf
    (repeat' split at hf) <;> first | (cases hf; done) | skip
    all_goals cases hf
    rename_i LL n i st mem hi
    intro H locs sl cells slots h1 h2 hP hS hL
    have hi1 : ¬ i < 0 := fun z => hi (Or.inl z)
    have hi2 : i < n := Classical.byContradiction fun z => hi (Or.inr (Or.inl z))
    have hi3 : st.length ≤ 4 := Nat.le_of_not_lt fun z => hi (Or.inr (Or.inr z))
    have go : ∀ v : Value, v.category = 1 → W p l e R s m args below meth c H locs cells slots Q (F0 m (P ip + 3) sl (v :: .int n :: .int i :: st.map (z_cv ad))) := by
      intro v hv T hT X
      have hrun := vx_runS (l := l) (R := R) (e := e) (below := below) (meth := meth) (locs := locs) (cells := cells) (slots := slots) (g := F0 m (P ip + 3) sl (v :: .int n :: .int i :: st.map (z_cv ad))) (H := H) (As := [.int i, .int n, v]) (rest := st.map (z_cv ad)) (n := 3) ⟨hx, hb, hml, hown, hts⟩ (z_ck (l := l) (A := z_A N ad) hv hi1 hi2) (va_cwS (ws' := []) (bytes := cJ3_checkIndex_8e157) (maxL := 3) (ret := some .int) 3 hts (z_good hG fun w hw => ?_) rfl rfl rfl ⟨by decide, by decide, by decide +kernel⟩ (by rw [hfr, hlo]; exact ⟨hfr1, hlo1⟩)) ⟨fun a U g mk q => ⟨q.1, trivial⟩, fun U _ _ => ⟨rfl, trivial⟩⟩ rfl rfl hL.1.1 rfl (lv_room (z_sum hi3)) hd2 ⟨by omega, by omega⟩
      · rcases hrun T hT X with ⟨v', st₀, t, T', L', h0, X', hL', e1, e2, ⟨ho, hH⟩, stp⟩ | ⟨q, st₀, t, T', L', E, ce, h0, X', hL', e1, e2, hx9, -⟩
        · cases ho
          have hF : va_F (z_A N ad) st₀ t := va_S.rf.F hH
          obtain ⟨k1, k2, k3⟩ := vx_keep h0 e1 hS (fun q _ h => h) (fun q h => h) hL' hF
          have eT : T'.heap = H := by rw [e1, hH, h0]
          have kk : W p l e R s m args below meth c T'.heap (locs ++ L') cells slots Q (F0 m (P ip + 6) sl (.int i :: st.map (z_cv ad))) := by
            refine lv_pop hx hb hd3 rfl ?_
            rw [← hp]
            exact k T'.heap (locs ++ L') sl cells slots h1 h2 (by rw [eT]; exact hP) k3 hL
          obtain ⟨t2, a1, b1⟩ := kk T' rfl X'
          exact ⟨t2, stp t2 a1, b1⟩
        · exact hx9.elim
      · unfold va_wsS at hw
        simp only [List.cons_append, List.nil_append, List.mem_cons, List.not_mem_nil, or_false] at hw
        rcases hw with rfl | rfl | rfl | rfl
        · exact w2
        · exact w3
        · exact w4
        · exact w5
    rcases hZ.2.2.2.2.2.2.2.2.2.1 with hv | ⟨t, hv⟩
    · refine va_gets hx hb hv hS hown (hts _ w1) (fun _ h => h) hd ?_
      exact go .null rfl
    · refine va_gets hx hb hv hS hown (hts _ w1) (fun _ h => h) hd ?_
      exact go (.ref t) rfl
end Z12
