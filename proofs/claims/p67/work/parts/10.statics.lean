/-! What holds of statics and constants all through a run (lists printed by wip/p67/gen10.py). -/
def zNM : List (String × Nat × MethodName × String) := [("FalseLightMarsh$TextReader", 123, yX8_cellAt, "FalseLightMarsh"), ("FalseLightMarsh$Ground", 26, yX8_cellAt, "FalseLightMarsh"), ("FalseLightMarsh$Ground", 22, yX8_copyNumbers, "FalseLightMarsh"), ("FalseLightMarsh$Lights", 28, yX8_copyNumbers, "FalseLightMarsh"), ("FalseLightMarsh$Travellers", 37, yX8_copyNumbers, "FalseLightMarsh"), ("FalseLightMarsh$World", 46, yX8_copyNumbers, "FalseLightMarsh"), ("FalseLightMarsh$Travellers", 41, yX8_holds, "FalseLightMarsh"), ("FalseLightMarsh$Simulation", 110, yX8_holds, "FalseLightMarsh"), ("FalseLightMarsh$Lights", 36, yX8_holds, "FalseLightMarsh"), ("FalseLightMarsh$Distances", 38, yX8_cellAt, "FalseLightMarsh")]
def zNF : List (String × Nat × String × String × String × String) := [("FalseLightMarsh$Ground", 34, "FalseLightMarsh", "STEP_X", "[I", "FalseLightMarsh"), ("FalseLightMarsh$Ground", 37, "FalseLightMarsh", "STEP_Y", "[I", "FalseLightMarsh")]
def zCa : List (String × String) := [("java/lang/IllegalArgumentException", "java/lang/IllegalArgumentException"), ("java/lang/IllegalStateException", "java/lang/IllegalStateException"), ("java/lang/IndexOutOfBoundsException", "java/lang/IndexOutOfBoundsException"), ("java/util/NoSuchElementException", "java/util/NoSuchElementException"), ("[B", "java/lang/Cloneable"), ("FalseLightMarsh", "java/lang/Object"), ("FalseLightMarsh$World", "java/lang/Object"), ("FalseLightMarsh$Ground", "java/lang/Object"), ("FalseLightMarsh$Lights", "java/lang/Object"), ("FalseLightMarsh$Travellers", "java/lang/Object"), ("FalseLightMarsh$History", "java/lang/Object"), ("FalseLightMarsh$TextReader", "java/lang/Object"), ("FalseLightMarsh$Simulation", "java/lang/Object"), ("FalseLightMarsh$Distances", "java/lang/Object"), ("java/lang/IllegalArgumentException", "java/lang/Object"), ("java/lang/IllegalStateException", "java/lang/Object"), ("java/lang/IndexOutOfBoundsException", "java/lang/Object"), ("java/util/NoSuchElementException", "java/lang/Object"), ("java/lang/StringBuilder", "java/lang/Object"), ("java/lang/String", "java/lang/Object"), ("java/lang/Throwable", "java/lang/Object")]
def zNc : List (String × String) := [("java/lang/IllegalStateException", "java/lang/IllegalArgumentException"), ("java/lang/IllegalStateException", "java/util/NoSuchElementException"), ("java/lang/IllegalStateException", "java/lang/IndexOutOfBoundsException"), ("java/lang/IllegalArgumentException", "java/lang/IllegalStateException"), ("java/lang/IllegalArgumentException", "java/util/NoSuchElementException"), ("java/lang/IllegalArgumentException", "java/lang/IndexOutOfBoundsException"), ("java/util/NoSuchElementException", "java/lang/IllegalStateException"), ("java/util/NoSuchElementException", "java/lang/IllegalArgumentException"), ("java/util/NoSuchElementException", "java/lang/IndexOutOfBoundsException"), ("java/lang/IndexOutOfBoundsException", "java/lang/IllegalStateException"), ("java/lang/IndexOutOfBoundsException", "java/lang/IllegalArgumentException"), ("java/lang/IndexOutOfBoundsException", "java/util/NoSuchElementException")]
def zMs : List (Nat × String) := [(269, "count is out of range"), (271, "the time would exceed its limit"), (333, "no such cell"), (276, "brightness is out of range"), (281, "no light can be added here"), (290, "no traveller can be added here"), (339, "no such light"), (294, "a light cannot succeed itself"), (347, "no successor"), (299, "strength is out of range"), (301, "a plank needs water or a plank"), (303, "clearness is out of range"), (335, "no such hour"), (305, "fog is out of range"), (341, "no such traveller"), (345, "the traveller is not walking"), (308, "nothing to undo"), (343, "no such slot"), (316, "the slot is empty"), (97, "the text has an error"), (85, "the input buffer is full"), (94, "no such length"), (117, "no error"), (144, "no plank"), (349, "no path"), (232, "no target"), (246, "no light is acceptable"), (261, "still walking"), (351, "ticks is out of range"), (327, "no such byte")]
def zSt : List (String × Nat × String × Nat) := [("FalseLightMarsh", 63, "marsh 4 3 clear 4;row fffh;row fwwf;row ffpf;", 320), ("FalseLightMarsh$TextReader", 67, "marsh", 321), ("FalseLightMarsh$TextReader", 84, "clear", 322), ("FalseLightMarsh$TextReader", 98, "row", 323), ("FalseLightMarsh$TextReader", 104, "fog", 324), ("FalseLightMarsh$TextReader", 109, "light", 325), ("FalseLightMarsh$TextReader", 131, "true", 326), ("FalseLightMarsh$TextReader", 133, "false", 327), ("FalseLightMarsh$TextReader", 145, "next", 328), ("FalseLightMarsh$TextReader", 149, "traveller", 329)]
def zDe : List MethodName := [⟨"java/lang/RuntimeException", "<init>", "(Ljava/lang/String;)V"⟩, ⟨"java/lang/Exception", "<init>", "(Ljava/lang/String;)V"⟩, ⟨"java/lang/Throwable", "<init>", "(Ljava/lang/String;)V"⟩]
def zSl : List Nat := [45, 5, 5, 3, 3, 5, 4, 5, 4, 9]
def zSb : List (List Int32) := [[109, 97, 114, 115, 104, 32, 52, 32, 51, 32, 99, 108, 101, 97, 114, 32, 52, 59, 114, 111, 119, 32, 102, 102, 102, 104, 59, 114, 111, 119, 32, 102, 119, 119, 102, 59, 114, 111, 119, 32, 102, 102, 112, 102, 59], [109, 97, 114, 115, 104], [99, 108, 101, 97, 114], [114, 111, 119], [102, 111, 103], [108, 105, 103, 104, 116], [116, 114, 117, 101], [102, 97, 108, 115, 101], [110, 101, 120, 116], [116, 114, 97, 118, 101, 108, 108, 101, 114]]
def zZ (L : Nat) (xs : Nat → Int32) (N : Nat) (ad : Nat → Nat) (U : State) (H : Heap) : Prop :=
  ((∀ q ∈ zNM, va_Nw (.methodLinkNest q.1 q.2.1 q.2.2.1 q.2.2.2) U) ∧ (∀ q ∈ zNF, va_Nw (.fieldLinkNest q.1 q.2.1 q.2.2.1 q.2.2.2.1 q.2.2.2.2.1 q.2.2.2.2.2) U) ∧ (∀ q ∈ zCa, va_Nw (.castable q.1 q.2) U) ∧ (∀ q ∈ zNc, va_Nc q.1 q.2 U) ∧ (∀ q ∈ zMs, ∃ a, vk_R RX8 q.1 q.2 a U) ∧ (∀ q ∈ zSt, vk_R q.1 q.2.1 q.2.2.1 (ad q.2.2.2) U) ∧ (∀ q ∈ zDe, va_Nw (.declares q) U)) ∧
  (vx_Zq Bundle.tN "UNASSIGNED_STACK" Bundle.steD (z_A N ad) U H ∧ vx_Zq Bundle.tN "SUPPRESSED_SENTINEL" Bundle.listD (z_A N ad) U H ∧ vk_S 10 zSl zSb (fun i => ad (320 + i)) (fun i => ad (340 + i)) (z_A N ad) U H ∧
    va_Z "FalseLightMarsh" "STEP_X" "[I" (.ref (ad 300)) (z_A N ad) U H ∧ va_T .int (ad 300) 4 (fun j => .int (([0, 1, 0, -1] : List Int32).getD j 0)) (z_A N ad) U H ∧ va_Z "FalseLightMarsh" "STEP_Y" "[I" (.ref (ad 301)) (z_A N ad) U H ∧ va_T .int (ad 301) 4 (fun j => .int (([-1, 0, 1, 0] : List Int32).getD j 0)) (z_A N ad) U H ∧
    va_Z "java/lang/String" "COMPACT_STRINGS" "Z" (.int 1) (z_A N ad) U H ∧ va_Zq "jdk/internal/util/Preconditions" "SIOOBE_FORMATTER" "Ljava/util/function/BiFunction;" (z_A N ad) U H ∧
    va_X (ad 310) L xs U H ∧ ad 310 < H.size ∧ ¬ z_A N ad (ad 310))
theorem zZ_K (L : Nat) (xs : Nat → Int32) (N : Nat) : z_ZK N (zZ L xs N) := by
  have alike : ∀ (ad : Nat → Nat) (u U : State) (H : Heap), u.vm.Alike U.vm → (vx_Zq Bundle.tN "UNASSIGNED_STACK" Bundle.steD (z_A N ad) u H ∧ vx_Zq Bundle.tN "SUPPRESSED_SENTINEL" Bundle.listD (z_A N ad) u H ∧ vk_S 10 zSl zSb (fun i => ad (320 + i)) (fun i => ad (340 + i)) (z_A N ad) u H ∧
    va_Z "FalseLightMarsh" "STEP_X" "[I" (.ref (ad 300)) (z_A N ad) u H ∧ va_T .int (ad 300) 4 (fun j => .int (([0, 1, 0, -1] : List Int32).getD j 0)) (z_A N ad) u H ∧ va_Z "FalseLightMarsh" "STEP_Y" "[I" (.ref (ad 301)) (z_A N ad) u H ∧ va_T .int (ad 301) 4 (fun j => .int (([-1, 0, 1, 0] : List Int32).getD j 0)) (z_A N ad) u H ∧
    va_Z "java/lang/String" "COMPACT_STRINGS" "Z" (.int 1) (z_A N ad) u H ∧ va_Zq "jdk/internal/util/Preconditions" "SIOOBE_FORMATTER" "Ljava/util/function/BiFunction;" (z_A N ad) u H ∧
    va_X (ad 310) L xs u H ∧ ad 310 < H.size ∧ ¬ z_A N ad (ad 310)) → (vx_Zq Bundle.tN "UNASSIGNED_STACK" Bundle.steD (z_A N ad) U H ∧ vx_Zq Bundle.tN "SUPPRESSED_SENTINEL" Bundle.listD (z_A N ad) U H ∧ vk_S 10 zSl zSb (fun i => ad (320 + i)) (fun i => ad (340 + i)) (z_A N ad) U H ∧
    va_Z "FalseLightMarsh" "STEP_X" "[I" (.ref (ad 300)) (z_A N ad) U H ∧ va_T .int (ad 300) 4 (fun j => .int (([0, 1, 0, -1] : List Int32).getD j 0)) (z_A N ad) U H ∧ va_Z "FalseLightMarsh" "STEP_Y" "[I" (.ref (ad 301)) (z_A N ad) U H ∧ va_T .int (ad 301) 4 (fun j => .int (([-1, 0, 1, 0] : List Int32).getD j 0)) (z_A N ad) U H ∧
    va_Z "java/lang/String" "COMPACT_STRINGS" "Z" (.int 1) (z_A N ad) U H ∧ va_Zq "jdk/internal/util/Preconditions" "SIOOBE_FORMATTER" "Ljava/util/function/BiFunction;" (z_A N ad) U H ∧
    va_X (ad 310) L xs U H ∧ ad 310 < H.size ∧ ¬ z_A N ad (ad 310)) := by
    intro ad u U H hv h
    obtain ⟨h1, h2, h3, h4, h5, h6, h7, h8, h9, h10, h11, h12⟩ := h
    exact ⟨vx_Zq.moved hv h1, vx_Zq.moved hv h2, vk_S.moved hv h3, va_Z.moved hv h4, va_T.moved hv h5, va_Z.moved hv h6, va_T.moved hv h7, va_Z.moved hv h8, va_Zq.moved hv h9, va_X.moved hv h10, h11, h12⟩
  refine ⟨fun ad u U H hv h => ?_, fun ad s U H hW h => ?_, fun ad U H H1 hz hq h => ?_⟩
  · obtain ⟨⟨g1, g2, g3, g4, g5, g6, g7⟩, h⟩ := h
    have ha : u.vm.Alike U.vm := by rw [hv]; exact Vm.Alike.refl _
    exact ⟨⟨fun q hq => va_Nw.same rfl hv.symm (g1 q hq), fun q hq => va_Nw.same rfl hv.symm (g2 q hq), fun q hq => va_Nw.same rfl hv.symm (g3 q hq), fun q hq => va_Nc.moved ha (g4 q hq), fun q hq => by obtain ⟨a, h9⟩ := g5 q hq; exact ⟨a, vk_R.same hv h9⟩, fun q hq => vk_R.same hv (g6 q hq), fun q hq => va_Nw.same rfl hv.symm (g7 q hq)⟩, alike ad u U H ha h⟩
  · obtain ⟨⟨g1, g2, g3, g4, g5, g6, g7⟩, h⟩ := h
    exact ⟨⟨fun q hq => va_Nw.warmM hW (g1 q hq), fun q hq => va_Nw.warmF hW (g2 q hq), fun q hq => va_Nw.warmC hW (g3 q hq), fun q hq => va_Nc.moved hW.alike (g4 q hq), fun q hq => by obtain ⟨a, h9⟩ := g5 q hq; exact ⟨a, vk_R.warm hW h9⟩, fun q hq => vk_R.warm hW (g6 q hq), fun q hq => va_Nw.warmD hW (g7 q hq)⟩, alike ad s U H hW.alike h⟩
  · obtain ⟨g, h1, h2, h3, h4, h5, h6, h7, h8, h9, h10, h11, h12⟩ := h
    refine ⟨g, h1.kept hq, h2.kept hq, h3.kept hq, h4.kept hq, h5.kept hq, h6.kept hq, h7.kept hq, h8.kept hq, va_Zq.kept h9 hq, ?_, Nat.lt_of_lt_of_le h11 hz, h12⟩
    obtain ⟨scr, k1, k2⟩ := h10
    exact ⟨scr, by rw [hq _ h11 h12]; exact k1, k2⟩
section Z10
variable {N : Nat} {L : Nat} {xs : Nat → Int32} {Ts : List Cond} {own : String} {cc : ByteArray} {nL : Nat} {rt : Option FieldType} {fr lo : Nat} {c2 : Nat → Bool} {P : Nat → Nat} {ip : Nat}
/-- an instruction that no run comes to -/
def i_none : Ico := fun _ _ => none
theorem sp_none {Z : (Nat → Nat) → State → Heap → Prop} : z_SP N Ts Z own cc nL rt fr lo c2 P ip i_none := by
  refine ⟨?_, ?_⟩
  · intro x ip' x' hf
    cases hf
  · intro p l e R s m args below meth c Q ad D cA kE CE SE C x ip' x' hf k
    cases hf
def i_mabs : Ico := fun ip x => match x with
  | (L, .int a :: st, mem) => if st.length ≤ 4 then some (ip + 1, L, .int (if 0 ≤ a then a else 0 - a) :: st, mem) else none
  | _ => none
theorem sp_mabs {Z : (Nat → Nat) → State → Heap → Prop} {index : Nat} (hd : decode cc (P ip) = .ok (.invokestatic index, 3)) (w1 : Cond.methodLink own index Lib.Math.abs.name ∈ Ts) (w2 : Cond.static Lib.Math.abs.name ∈ Ts) (w3 : Cond.initialized "java/lang/Math" ∈ Ts) (w4 : Cond.code Lib.Math.abs.name Lib.Math.abs.code 1 (some .int) ∈ Ts) (hfr1 : 1 ≤ fr) (hlo1 : 21 ≤ lo) (hp : P (ip + 1) = P ip + 3) : z_SP N Ts Z own cc nL rt fr lo c2 P ip i_mabs := by
  refine ⟨?_, ?_⟩
  · intro x ip' x' hf
    unfold i_mabs at hf
    split at hf
    · split at hf
      · cases hf; rfl
      · cases hf
    · cases hf
  · intro p l e R s m args below meth c Q ad D cA kE CE SE C x ip' x' hf k
    obtain ⟨hx, hb, hml, hown, hts, hr, hlk, hfr, hlo, hinj, hK, hZ, hCE, hSE⟩ := C
    unfold i_mabs at hf
    split at hf
    · rename_i LL a st mem
      by_cases hl : st.length ≤ 4
      · rw [if_pos hl] at hf
        cases hf
        intro H locs sl cells slots h1 h2 hP hS hL
        have hsum := z_sum (ad := ad) hl
        exact va_mabs hx hb (by rw [hml]; exact hL.1.1.symm) hown (hts _ w1) (hts _ w2) (hts _ w3) (hts _ w4) (by rw [hfr]; exact hfr1) (by rw [hlo]; omega) (by omega) (by omega) hd (by rw [← hp]; exact k H locs sl cells slots h1 h2 hP hS hL)
      · rw [if_neg hl] at hf
        cases hf
    · cases hf
theorem sp_ldcS {index q : Nat} {tx : String} (hd : decode cc (P ip) = .ok (.ldc index, 2)) (hm : (own, index, tx, q) ∈ zSt) (hp : P (ip + 1) = P ip + 2) : z_SP N Ts (zZ L xs N) own cc nL rt fr lo c2 P ip (i_push (.ref q)) := by
  refine ⟨?_, ?_⟩
  · intro x ip' x' hf
    cases hf; rfl
  · intro p l e R s m args below meth c Q ad D cA kE CE SE C x ip' x' hf k
    obtain ⟨hx, hb, hml, hown, hts, hr, hlk, hfr, hlo, hinj, hK, hZ, hCE, hSE⟩ := C
    cases hf
    intro H locs sl cells slots h1 h2 hP hS hL
    refine va_ldcS hx hb hown (hZ.1.2.2.2.2.2.1 _ hm) hd ?_
    rw [← hp]
    exact k H locs sl cells slots h1 h2 hP hS hL
theorem sp_stepX {index : Nat} (hd : decode cc (P ip) = .ok (.getstatic index, 3)) (ho : (own, index, "FalseLightMarsh", "STEP_X", "[I", "FalseLightMarsh") ∈ zNF) (hp : P (ip + 1) = P ip + 3) : z_SP N Ts (zZ L xs N) own cc nL rt fr lo c2 P ip (i_push (.ref 300)) := by
  refine ⟨?_, ?_⟩
  · intro x ip' x' hf
    cases hf; rfl
  · intro p l e R s m args below meth c Q ad D cA kE CE SE C x ip' x' hf k
    obtain ⟨hx, hb, hml, hown, hts, hr, hlk, hfr, hlo, hinj, hK, hZ, hCE, hSE⟩ := C
    cases hf
    intro H locs sl cells slots h1 h2 hP hS hL
    refine va_getsN hx hb hZ.2.2.2.2.1 hS hown (va_Nw.use rfl (hZ.1.2.1 _ ho)) (fun _ h => h) hd ?_
    rw [← hp]
    exact k H locs sl cells slots h1 h2 hP hS hL
theorem sp_stepY {index : Nat} (hd : decode cc (P ip) = .ok (.getstatic index, 3)) (ho : (own, index, "FalseLightMarsh", "STEP_Y", "[I", "FalseLightMarsh") ∈ zNF) (hp : P (ip + 1) = P ip + 3) : z_SP N Ts (zZ L xs N) own cc nL rt fr lo c2 P ip (i_push (.ref 301)) := by
  refine ⟨?_, ?_⟩
  · intro x ip' x' hf
    cases hf; rfl
  · intro p l e R s m args below meth c Q ad D cA kE CE SE C x ip' x' hf k
    obtain ⟨hx, hb, hml, hown, hts, hr, hlk, hfr, hlo, hinj, hK, hZ, hCE, hSE⟩ := C
    cases hf
    intro H locs sl cells slots h1 h2 hP hS hL
    refine va_getsN hx hb hZ.2.2.2.2.2.2.1 hS hown (va_Nw.use rfl (hZ.1.2.1 _ ho)) (fun _ h => h) hd ?_
    rw [← hp]
    exact k H locs sl cells slots h1 h2 hP hS hL
/-- a load from the rows of steps -/
def i_cald : Ico := fun ip x => match x with
  | (L, .int i :: .ref k :: st, mem) => if i < 0 ∨ 4 ≤ i.toNatClampNeg then none else if k = 300 then some (ip + 1, L, .int (([0, 1, 0, -1] : List Int32).getD i.toNatClampNeg 0) :: st, mem) else if k = 301 then some (ip + 1, L, .int (([-1, 0, 1, 0] : List Int32).getD i.toNatClampNeg 0) :: st, mem) else none
  | _ => none
theorem sp_cald (hd : decode cc (P ip) = .ok (.iaload, 1)) (hp : P (ip + 1) = P ip + 1) : z_SP N Ts (zZ L xs N) own cc nL rt fr lo c2 P ip i_cald := by
  refine ⟨?_, ?_⟩
  · intro x ip' x' hf
    unfold i_cald at hf
    (repeat' split at hf) <;> first | (cases hf; rfl) | (cases hf)
  · intro p l e R s m args below meth c Q ad D cA kE CE SE C x ip' x' hf k
    obtain ⟨hx, hb, hml, hown, hts, hr, hlk, hfr, hlo, hinj, hK, hZ, hCE, hSE⟩ := C
    unfold i_cald at hf
    (repeat' split at hf) <;> first | (cases hf; done) | skip
    all_goals cases hf
    all_goals intro H locs sl cells slots h1 h2 hP hS hL
    · rename_i LL i q st mem hi hk
      subst hk
      refine va_ti hx hb hZ.2.2.2.2.2.1 hS hi rfl hd ?_
      rw [← hp]
      exact k H locs sl cells slots h1 h2 hP hS hL
    · rename_i LL i q st mem hi hk9 hk
      subst hk
      refine va_ti hx hb hZ.2.2.2.2.2.2.2.1 hS hi rfl hd ?_
      rw [← hp]
      exact k H locs sl cells slots h1 h2 hP hS hL
/-- the script -/
def i_sld (L : Nat) (xs : Nat → Int32) : Ico := fun ip x => match x with
  | (LL, .int i :: .ref k :: st, mem) => if k = 310 then (if i < 0 ∨ L ≤ i.toNatClampNeg then none else some (ip + 1, LL, .int (xs i.toNatClampNeg) :: st, mem)) else none
  | _ => none
theorem sp_sld (hd : decode cc (P ip) = .ok (.iaload, 1)) (hp : P (ip + 1) = P ip + 1) : z_SP N Ts (zZ L xs N) own cc nL rt fr lo c2 P ip (i_sld L xs) := by
  refine ⟨?_, ?_⟩
  · intro x ip' x' hf
    unfold i_sld at hf
    (repeat' split at hf) <;> first | (cases hf; rfl) | (cases hf)
  · intro p l e R s m args below meth c Q ad D cA kE CE SE C x ip' x' hf k
    obtain ⟨hx, hb, hml, hown, hts, hr, hlk, hfr, hlo, hinj, hK, hZ, hCE, hSE⟩ := C
    unfold i_sld at hf
    (repeat' split at hf) <;> first | (cases hf; done) | skip
    all_goals cases hf
    all_goals intro H locs sl cells slots h1 h2 hP hS hL
    rename_i LL i q st mem hk hi
    subst hk
    obtain ⟨-, -, -, -, -, -, -, -, -, -, hX, hlt, hnA⟩ := hZ
    refine va_sld hx hb hX hlt hnA hS hi hd ?_
    rw [← hp]
    exact k H locs sl cells slots h1 h2 hP hS hL
def i_slen0 (L : Nat) : Ico := fun ip x => match x with
  | (LL, .ref k :: st, mem) => if k = 310 then some (ip + 1, LL, .int (Int32.ofNat L) :: st, mem) else none
  | _ => none
theorem sp_slen0 (hd : decode cc (P ip) = .ok (.arraylength, 1)) (hp : P (ip + 1) = P ip + 1) : z_SP N Ts (zZ L xs N) own cc nL rt fr lo c2 P ip (i_slen0 L) := by
  refine ⟨?_, ?_⟩
  · intro x ip' x' hf
    unfold i_slen0 at hf
    (repeat' split at hf) <;> first | (cases hf; rfl) | (cases hf)
  · intro p l e R s m args below meth c Q ad D cA kE CE SE C x ip' x' hf k
    obtain ⟨hx, hb, hml, hown, hts, hr, hlk, hfr, hlo, hinj, hK, hZ, hCE, hSE⟩ := C
    unfold i_slen0 at hf
    (repeat' split at hf) <;> first | (cases hf; done) | skip
    all_goals cases hf
    all_goals intro H locs sl cells slots h1 h2 hP hS hL
    rename_i LL q st mem hk
    subst hk
    obtain ⟨-, -, -, -, -, -, -, -, -, -, hX, hlt, hnA⟩ := hZ
    refine va_slen hx hb hX hlt hnA hS hd ?_
    rw [← hp]
    exact k H locs sl cells slots h1 h2 hP hS hL
end Z10
