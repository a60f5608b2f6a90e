/-! Returns, calls and throws of the abstract machine. -/
section Z9
variable {p : Program} {l : Launch} {e : Env} {R : Room} {s : State} {m : MethodId} {args : Array Value} {below : List Frame} {meth : Method} {c : Code} {H : Heap} {locs : List Loc} {cells slots : Nat}
/-- a return of a boolean or a byte: the machine narrows it -/
theorem z_nret {cc : ByteArray} {Qc : Array Value → State → Outcome → State → Prop} {free : Addr → Prop} {v w : Int32} {ty : FieldType} (hexec : p.tables.exec = Jvm.exec) (hb : c.code = cc) (hr : meth.sig.returnType = some ty) (hn : narrow ty (.int v) = .int w)
    (hq : ∀ t : State, t.heap = H → s.WarmedH t.vm → Qc args s (.returned (some (.int w))) t) (hf : ∀ q ∈ locs, free q.base)
    {pc : Nat} {ls : Array Slot} (hdg : decode cc pc = .ok (.ireturn, 1)) (hlocks : meth.locks = false) : W p l e R s m args below meth c H locs cells slots (MQ below Qc args s cells slots free) (F0 m pc ls [.int v]) := by
  intro T hT X
  obtain ⟨fs, hret, hrun, hended, hW, hframe⟩ := X.leave (v := some (.int w)) (fun h => by rw [hr] at h; cases h)
  have hmeth' : T.vm.method? m = some meth := X.method'
  refine ⟨T.setFrames fs, ?_, .returned (some (.int w)), hrun, hended, hq _ hT hW, locs, ⟨⟨_, rfl⟩, hW, hframe⟩, hf⟩
  jvm_step X.here [X.here.top, hexec, hb, hdg, hmeth', hr, hn]
  (try refine ⟨rfl, ?_⟩); (try refine ⟨rfl, ?_⟩)
  first | (intro acts; rw [hret _ acts rfl rfl rfl]) | rw [hret _ _ rfl rfl rfl]
  exact Steps.refl _
end Z9
theorem z_metOf {l : Launch} {y : MethodName} {ws : List Cond} {rm : Room} {Pc : Array Value → State → Prop} {Qc : Array Value → State → Outcome → State → Prop} {XC : String → State → State → Prop} {mc ms : Nat} {free : Addr → Prop} (hx : ∀ E st t, ¬ XC E st t) (h : vx_Met l y ws rm Pc Qc XC mc ms free) : Met l y ws rm Pc Qc mc ms free := by
  have he : vx_Q Qc XC mc ms free = fun a st o t => Qc a st o t ∧ ∃ L, FrameEnd st o t L mc ms ∧ ∀ q ∈ L, free q.base := by
    funext a st o t
    apply propext
    unfold vx_Q
    constructor
    · rintro (h | ⟨q, -, E, ce, L, h, -⟩)
      · exact h
      · exact absurd h (hx E st t)
    · exact Or.inl
  unfold vx_Met at h
  rw [he] at h
  exact h
section Z9B
variable {N : Nat} {nl : Nat → Nat} {cl : Nat → Nat} {hnd : Nat → Nat → Option Int32}
variable {Ts : List Cond} {Z : (Nat → Nat) → State → Heap → Prop} {exn : Nat → String} {yn : Nat → MethodName} {bc : Nat → ByteArray} {rt : Nat → Option FieldType} {fr lo : Nat → Nat} {P : Nat → Nat → Nat} {tb : Nat → List (Nat × Nat × Nat × Nat)}
variable {y ip : Nat}
theorem sr_int (hd : decode (bc y) (P y ip) = .ok (.ireturn, 1)) (ht : rt y = some .int) : z_SR N nl Ts Z yn bc rt fr lo P y ip 0 := by
  intro p l e R s m args below meth c ad D cA CE SE C H locs sl cells slots Qc XC free v w hw hq hf
  obtain ⟨hx, hb, hml, hown, hts, hr, hlk, -⟩ := C
  cases v <;> simp only [z_ret] at hw <;> cases hw
  exact vx_ret (W.iret hx hb (by rw [hr, ht]) (fun t h _ => hq t h) hf hd hlk)
theorem sr_bool (hd : decode (bc y) (P y ip) = .ok (.ireturn, 1)) (ht : rt y = some .boolean) : z_SR N nl Ts Z yn bc rt fr lo P y ip 1 := by
  intro p l e R s m args below meth c ad D cA CE SE C H locs sl cells slots Qc XC free v w hw hq hf
  obtain ⟨hx, hb, hml, hown, hts, hr, hlk, -⟩ := C
  cases v <;> simp only [z_ret] at hw <;> cases hw
  exact vx_ret (z_nret hx hb (by rw [hr, ht]) rfl (fun t h _ => hq t h) hf hd hlk)
theorem sr_byte (hd : decode (bc y) (P y ip) = .ok (.ireturn, 1)) (ht : rt y = some .byte) : z_SR N nl Ts Z yn bc rt fr lo P y ip 2 := by
  intro p l e R s m args below meth c ad D cA CE SE C H locs sl cells slots Qc XC free v w hw hq hf
  obtain ⟨hx, hb, hml, hown, hts, hr, hlk, -⟩ := C
  cases v <;> simp only [z_ret] at hw <;> cases hw
  exact vx_ret (z_nret hx hb (by rw [hr, ht]) rfl (fun t h _ => hq t h) hf hd hlk)
theorem sr_char (hd : decode (bc y) (P y ip) = .ok (.ireturn, 1)) (ht : rt y = some .char) : z_SR N nl Ts Z yn bc rt fr lo P y ip 5 := by
  intro p l e R s m args below meth c ad D cA CE SE C H locs sl cells slots Qc XC free v w hw hq hf
  obtain ⟨hx, hb, hml, hown, hts, hr, hlk, -⟩ := C
  cases v <;> simp only [z_ret] at hw <;> cases hw
  exact vx_ret (z_nret hx hb (by rw [hr, ht]) rfl (fun t h _ => hq t h) hf hd hlk)
theorem sr_float (hd : decode (bc y) (P y ip) = .ok (.freturn, 1)) (ht : rt y = some .float) : z_SR N nl Ts Z yn bc rt fr lo P y ip 3 := by
  intro p l e R s m args below meth c ad D cA CE SE C H locs sl cells slots Qc XC free v w hw hq hf
  obtain ⟨hx, hb, hml, hown, hts, hr, hlk, -⟩ := C
  cases v <;> simp only [z_ret] at hw <;> cases hw
  exact vx_ret (W.fret hx hb (by rw [hr, ht]) (fun t h _ => hq t h) hf hd hlk)
theorem sr_double (hd : decode (bc y) (P y ip) = .ok (.dreturn, 1)) (ht : rt y = some .double) : z_SR N nl Ts Z yn bc rt fr lo P y ip 4 := by
  intro p l e R s m args below meth c ad D cA CE SE C H locs sl cells slots Qc XC free v w hw hq hf
  obtain ⟨hx, hb, hml, hown, hts, hr, hlk, -⟩ := C
  cases v <;> simp only [z_ret] at hw <;> cases hw
  exact vx_ret (W.dret hx hb (by rw [hr, ht]) (fun t h _ => hq t h) hf hd hlk)
theorem sv_void (hd : decode (bc y) (P y ip) = .ok (.return_, 1)) (ht : rt y = none) : z_SV N nl Ts Z yn bc rt fr lo P y ip := by
  intro p l e R s m args below meth c ad D cA CE SE C H locs sl cells slots Qc XC free hq hf
  obtain ⟨hx, hb, hml, hown, hts, hr, hlk, -⟩ := C
  exact vx_ret (W.vret hx hb (by rw [hr, ht]) (fun t h _ => hq t h) hf hd hlk)
theorem sh_none (htb : tb y = []) (hh : ∀ k, hnd y k = none) : z_SH N nl hnd Ts Z exn yn bc rt fr lo P tb y ip := by
  intro p l e R s m args below meth c ad D cA CE SE C ht k H locs sl cells slots Qc XC free ce q rest hls hce hcv hcl hf hZ
  obtain ⟨hx, hb, hml, hown, hts, hr, hlk, -⟩ := C
  refine ⟨fun z hz => ?_, fun _ hX => ?_⟩
  · rw [hh k] at hz
    cases hz
  · refine vx_out (fun x hx => ?_) hlk hce hcv hcl hX hf (Nat.le_refl _) (Nat.le_refl _)
    rw [ht, htb] at hx
    cases hx
theorem z_good {ws : List Cond} (hG : GoodIn Ts Ts) (h : ∀ w ∈ ws, w ∈ Ts) : GoodIn Ts ws := fun w hw => hG w (h w hw)
theorem sc_V {y2 n n' index : Nat} (hG : GoodIn Ts Ts) (hd : decode (bc y) (P y ip) = .ok (.invokevirtual index, 3)) (w1 : Cond.methodLink (yn y).cls index (yn y2) ∈ Ts) (w2 : Cond.instanceMethod (yn y2) ∈ Ts) (w3 : Cond.selects (yn y2).cls (yn y2) (yn y2) ∈ Ts) (w4 : Cond.initialized (yn y2).cls ∈ Ts) (w5 : Cond.code (yn y2) (bc y2) (nl y2) (rt y2) ∈ Ts) (htb : tb y2 = [])
    (hd2 : (yn y2).cls ≠ "java/lang/invoke/MethodHandle" ∧ (yn y2).cls ≠ "java/lang/invoke/VarHandle" ∧ (parseMethodDescriptor (yn y2).desc).map (fun d => d.parameters.length) = some n') (hn : n = n' + 1) (hR : fr y2 + 1 ≤ fr y ∧ 8 + (nl y2 + 11) + lo y2 ≤ lo y) : z_SC N nl Ts Z yn bc rt fr lo P tb y ip 3 y2 n := by
  intro p l e R s m args below meth c ad D cA CE SE C H locs sl cells slots mc ms Pc Qc XC free As rest hX hM hFB hPc hZH hrecv hstr hlen hsum hsl hc hs
  obtain ⟨hx, hb, hml, hown, hts, hr, hlk, hfr, hlo, -⟩ := C
  obtain ⟨b, As', rfl, hcell⟩ := hrecv rfl
  have hst : (Value.ref b :: As').reverse ++ rest = As'.reverse ++ .ref b :: rest := by simp
  rw [hst]
  have hhd : z_hd nl yn bc rt tb y2 = Cond.code (yn y2) (bc y2) (nl y2) (rt y2) := by unfold z_hd; rw [if_pos htb]
  refine vx_runV (C := (yn y2).cls) (bytes := bc y2) (maxL := nl y2) (ret := rt y2) (n := n') ⟨hx, hb, hml, hown, hts⟩ hM (cwV (ws' := Ts) n' hts (z_good hG fun w hw => ?_) (by rw [hhd]) rfl rfl ⟨rfl, hd2⟩ (by rw [hfr, hlo]; exact hR)) ⟨hFB, hcell, hPc⟩ rfl ?_ hsl rfl (lv_room hsum) hd ⟨hc, hs⟩
  · rw [hhd] at hw
    unfold wsV at hw
    simp only [List.cons_append, List.nil_append, List.mem_cons] at hw
    rcases hw with rfl | rfl | rfl | rfl | rfl | hw
    · exact w1
    · exact w2
    · exact w3
    · exact w4
    · exact w5
    · exact hw
  · simp only [List.length_cons] at hlen
    omega
/-- a call of a member of a text that lies among the constants -/
theorem sc_T {y2 n n' index : Nat} (hG : GoodIn Ts Ts) (hS : ∀ ad (s : State) H i, i < 10 → Z ad s H → ∃ cellB : Cell, H[ad (320 + i)]? = some cellB ∧ cellB.vm.isStatics = false ∧ s.vm.findClass (yn y2).cls = some cellB.cls) (hd : decode (bc y) (P y ip) = .ok (.invokevirtual index, 3)) (w1 : Cond.methodLink (yn y).cls index (yn y2) ∈ Ts) (w2 : Cond.instanceMethod (yn y2) ∈ Ts) (w3 : Cond.selects (yn y2).cls (yn y2) (yn y2) ∈ Ts) (w4 : Cond.initialized (yn y2).cls ∈ Ts) (w5 : Cond.code (yn y2) (bc y2) (nl y2) (rt y2) ∈ Ts) (htb : tb y2 = [])
    (hd2 : (yn y2).cls ≠ "java/lang/invoke/MethodHandle" ∧ (yn y2).cls ≠ "java/lang/invoke/VarHandle" ∧ (parseMethodDescriptor (yn y2).desc).map (fun d => d.parameters.length) = some n') (hn : n = n' + 1) (hR : fr y2 + 1 ≤ fr y ∧ 8 + (nl y2 + 11) + lo y2 ≤ lo y) : z_SC N nl Ts Z yn bc rt fr lo P tb y ip 6 y2 n := by
  intro p l e R s m args below meth c ad D cA CE SE C H locs sl cells slots mc ms Pc Qc XC free As rest hX hM hFB hPc hZH hrecv hstr hlen hsum hsl hc hs
  obtain ⟨hx, hb, hml, hown, hts, hr, hlk, hfr, hlo, -⟩ := C
  obtain ⟨i, As', hi, rfl⟩ := hstr rfl
  have hcell := hS ad s H i hi hZH
  have hst : (Value.ref (ad (320 + i)) :: As').reverse ++ rest = As'.reverse ++ .ref (ad (320 + i)) :: rest := by simp
  rw [hst]
  have hhd : z_hd nl yn bc rt tb y2 = Cond.code (yn y2) (bc y2) (nl y2) (rt y2) := by unfold z_hd; rw [if_pos htb]
  refine vx_runV (C := (yn y2).cls) (bytes := bc y2) (maxL := nl y2) (ret := rt y2) (n := n') ⟨hx, hb, hml, hown, hts⟩ hM (cwV (ws' := Ts) n' hts (z_good hG fun w hw => ?_) (by rw [hhd]) rfl rfl ⟨rfl, hd2⟩ (by rw [hfr, hlo]; exact hR)) ⟨hFB, hcell, hPc⟩ rfl ?_ hsl rfl (lv_room hsum) hd ⟨hc, hs⟩
  · rw [hhd] at hw
    unfold wsV at hw
    simp only [List.cons_append, List.nil_append, List.mem_cons] at hw
    rcases hw with rfl | rfl | rfl | rfl | rfl | hw
    · exact w1
    · exact w2
    · exact w3
    · exact w4
    · exact w5
    · exact hw
  · simp only [List.length_cons] at hlen
    omega
theorem sc_S {y2 n index : Nat} (hG : GoodIn Ts Ts) (hd : decode (bc y) (P y ip) = .ok (.invokestatic index, 3)) (w1 : Cond.methodLink (yn y).cls index (yn y2) ∈ Ts) (w2 : Cond.static (yn y2) ∈ Ts) (w4 : Cond.initialized (yn y2).cls ∈ Ts) (w5 : Cond.code (yn y2) (bc y2) (nl y2) (rt y2) ∈ Ts) (htb : tb y2 = [])
    (hd2 : (yn y2).cls ≠ "java/lang/invoke/MethodHandle" ∧ (yn y2).cls ≠ "java/lang/invoke/VarHandle" ∧ (parseMethodDescriptor (yn y2).desc).map (fun d => d.parameters.length) = some n) (hR : fr y2 + 1 ≤ fr y ∧ 8 + (nl y2 + 11) + lo y2 ≤ lo y) : z_SC N nl Ts Z yn bc rt fr lo P tb y ip 2 y2 n := by
  intro p l e R s m args below meth c ad D cA CE SE C H locs sl cells slots mc ms Pc Qc XC free As rest hX hM hFB hPc hZH hrecv hstr hlen hsum hsl hc hs
  obtain ⟨hx, hb, hml, hown, hts, hr, hlk, hfr, hlo, -⟩ := C
  have hhd : z_hd nl yn bc rt tb y2 = Cond.code (yn y2) (bc y2) (nl y2) (rt y2) := by unfold z_hd; rw [if_pos htb]
  refine vx_runS (bytes := bc y2) (maxL := nl y2) (ret := rt y2) (n := n) ⟨hx, hb, hml, hown, hts⟩ hM (va_cwS (ws' := Ts) n hts (z_good hG fun w hw => ?_) (by rw [hhd]) rfl rfl hd2 (by rw [hfr, hlo]; exact hR)) ⟨hFB, hPc⟩ rfl hlen hsl rfl (lv_room hsum) hd ⟨hc, hs⟩
  rw [hhd] at hw
  unfold va_wsS at hw
  simp only [List.cons_append, List.nil_append, List.mem_cons] at hw
  rcases hw with rfl | rfl | rfl | rfl | hw
  · exact w1
  · exact w2
  · exact w4
  · exact w5
  · exact hw
theorem sc_SW {y2 n index : Nat} (hG : GoodIn Ts Ts) (hd : decode (bc y) (P y ip) = .ok (.invokestatic index, 3)) (w1 : Cond.methodLink (yn y).cls index (yn y2) ∈ Ts) (w2 : Cond.static (yn y2) ∈ Ts) (w4 : Cond.initialized (yn y2).cls ∈ Ts) (w5 : Cond.codeWith (yn y2) (bc y2) (nl y2) (rt y2) (tb y2) ∈ Ts) (htb : tb y2 ≠ [])
    (hd2 : (yn y2).cls ≠ "java/lang/invoke/MethodHandle" ∧ (yn y2).cls ≠ "java/lang/invoke/VarHandle" ∧ (parseMethodDescriptor (yn y2).desc).map (fun d => d.parameters.length) = some n) (hR : fr y2 + 1 ≤ fr y ∧ 8 + (nl y2 + 11) + lo y2 ≤ lo y) : z_SC N nl Ts Z yn bc rt fr lo P tb y ip 2 y2 n := by
  intro p l e R s m args below meth c ad D cA CE SE C H locs sl cells slots mc ms Pc Qc XC free As rest hX hM hFB hPc hZH hrecv hstr hlen hsum hsl hc hs
  obtain ⟨hx, hb, hml, hown, hts, hr, hlk, hfr, hlo, -⟩ := C
  have hhd : z_hd nl yn bc rt tb y2 = Cond.codeWith (yn y2) (bc y2) (nl y2) (rt y2) (tb y2) := by unfold z_hd; rw [if_neg htb]
  refine vx_runSX (hh := tb y2) (bytes := bc y2) (maxL := nl y2) (ret := rt y2) (n := n) ⟨hx, hb, hml, hown, hts⟩ hM (vx_cwSW (ws' := Ts) n hts (z_good hG fun w hw => ?_) (by rw [hhd]) rfl rfl hd2 (by rw [hfr, hlo]; exact hR)) ⟨hFB, hPc⟩ rfl hlen hsl rfl (lv_room hsum) hd ⟨hc, hs⟩
  rw [hhd] at hw
  unfold va_wsS at hw
  simp only [List.cons_append, List.nil_append, List.mem_cons] at hw
  rcases hw with rfl | rfl | rfl | rfl | hw
  · exact w1
  · exact w2
  · exact w4
  · exact w5
  · exact hw
theorem sc_N {y2 n index : Nat} {host : String} (hG : GoodIn Ts Ts) (hd : decode (bc y) (P y ip) = .ok (.invokestatic index, 3)) (w1 : ∀ ad s H, Z ad s H → va_Nw (.methodLinkNest (yn y).cls index (yn y2) host) s) (w2 : Cond.static (yn y2) ∈ Ts) (w4 : Cond.initialized (yn y2).cls ∈ Ts) (w5 : Cond.code (yn y2) (bc y2) (nl y2) (rt y2) ∈ Ts) (htb : tb y2 = [])
    (hd2 : (yn y2).cls ≠ "java/lang/invoke/MethodHandle" ∧ (yn y2).cls ≠ "java/lang/invoke/VarHandle" ∧ (parseMethodDescriptor (yn y2).desc).map (fun d => d.parameters.length) = some n) (hR : fr y2 + 1 ≤ fr y ∧ 8 + (nl y2 + 11) + lo y2 ≤ lo y) : z_SC N nl Ts Z yn bc rt fr lo P tb y ip 4 y2 n := by
  intro p l e R s m args below meth c ad D cA CE SE C H locs sl cells slots mc ms Pc Qc XC free As rest hX hM hFB hPc hZH hrecv hstr hlen hsum hsl hc hs
  obtain ⟨hx, hb, hml, hown, hts, hr, hlk, hfr, hlo, -⟩ := C
  have hhd : z_hd nl yn bc rt tb y2 = Cond.code (yn y2) (bc y2) (nl y2) (rt y2) := by unfold z_hd; rw [if_pos htb]
  have hrun := va_runSN (bytes := bc y2) (maxL := nl y2) (ret := rt y2) (n := n) (locs := locs) (cells := cells) (slots := slots) (below := below) (meth := meth) (e := e) (g := F0 m (P y ip) sl (As.reverse ++ rest)) (H := H) (As := As) (rest := rest) ⟨hx, hb, hml, hown, hts⟩ (z_metOf (hX rfl) hM) ⟨va_cnB (ws' := Ts) n hts (z_good hG fun w hw => ?_) (by rw [hhd]) rfl rfl (w1 ad s H hZH) (hts _ w4) hd2 (by rw [hfr, hlo]; exact hR), hts _ w2, trivial⟩ ⟨hFB, hPc⟩ rfl hlen hsl rfl (lv_room hsum) hd ⟨hc, hs⟩
  · intro T hT X
    exact Or.inl (hrun T hT X)
  · rw [hhd] at hw
    rcases List.mem_cons.mp hw with rfl | hw
    · exact w5
    · exact hw
end Z9B
