/-! The tail of the program's constructor. -/
theorem dX8_init_0 : decode cX8_init 0 = .ok (.aload_n 0, 1) := by decide +kernel
theorem dX8_init_1 : decode cX8_init 1 = .ok (.invokespecial 3, 3) := by decide +kernel
theorem dX8_init_4 : decode cX8_init 4 = .ok (.aload_n 0, 1) := by decide +kernel
theorem dX8_init_5 : decode cX8_init 5 = .ok (.new 9, 3) := by decide +kernel
theorem dX8_init_8 : decode cX8_init 8 = .ok (.dup, 1) := by decide +kernel
theorem dX8_init_9 : decode cX8_init 9 = .ok (.invokespecial 11, 3) := by decide +kernel
theorem dX8_init_12 : decode cX8_init 12 = .ok (.putfield 12, 3) := by decide +kernel
theorem dX8_init_15 : decode cX8_init 15 = .ok (.aload_n 0, 1) := by decide +kernel
theorem dX8_init_16 : decode cX8_init 16 = .ok (.new 9, 3) := by decide +kernel
theorem dX8_init_19 : decode cX8_init 19 = .ok (.dup, 1) := by decide +kernel
theorem dX8_init_20 : decode cX8_init 20 = .ok (.invokespecial 11, 3) := by decide +kernel
theorem dX8_init_23 : decode cX8_init 23 = .ok (.putfield 16, 3) := by decide +kernel
theorem dX8_init_26 : decode cX8_init 26 = .ok (.aload_n 0, 1) := by decide +kernel
theorem dX8_init_27 : decode cX8_init 27 = .ok (.new 19, 3) := by decide +kernel
theorem dX8_init_30 : decode cX8_init 30 = .ok (.dup, 1) := by decide +kernel
theorem dX8_init_31 : decode cX8_init 31 = .ok (.invokespecial 21, 3) := by decide +kernel
theorem dX8_init_34 : decode cX8_init 34 = .ok (.putfield 22, 3) := by decide +kernel
theorem dX8_init_37 : decode cX8_init 37 = .ok (.aload_n 0, 1) := by decide +kernel
theorem dX8_init_38 : decode cX8_init 38 = .ok (.iconst 2, 1) := by decide +kernel
theorem dX8_init_39 : decode cX8_init 39 = .ok (.anewarray 9, 3) := by decide +kernel
theorem dX8_init_42 : decode cX8_init 42 = .ok (.putfield 26, 3) := by decide +kernel
theorem dX8_init_45 : decode cX8_init 45 = .ok (.iconst 0, 1) := by decide +kernel
theorem dX8_init_46 : decode cX8_init 46 = .ok (.istore_n 1, 1) := by decide +kernel
theorem dX8_init_47 : decode cX8_init 47 = .ok (.iload_n 1, 1) := by decide +kernel
theorem dX8_init_48 : decode cX8_init 48 = .ok (.iconst 2, 1) := by decide +kernel
theorem dX8_init_49 : decode cX8_init 49 = .ok (.if_icmp .ge 22, 3) := by decide +kernel
theorem dX8_init_52 : decode cX8_init 52 = .ok (.aload_n 0, 1) := by decide +kernel
theorem dX8_init_53 : decode cX8_init 53 = .ok (.getfield 26, 3) := by decide +kernel
theorem dX8_init_56 : decode cX8_init 56 = .ok (.iload_n 1, 1) := by decide +kernel
theorem dX8_init_57 : decode cX8_init 57 = .ok (.new 9, 3) := by decide +kernel
theorem dX8_init_60 : decode cX8_init 60 = .ok (.dup, 1) := by decide +kernel
theorem dX8_init_61 : decode cX8_init 61 = .ok (.invokespecial 11, 3) := by decide +kernel
theorem dX8_init_64 : decode cX8_init 64 = .ok (.aastore, 1) := by decide +kernel
theorem dX8_init_65 : decode cX8_init 65 = .ok (.iinc 1 1, 3) := by decide +kernel
theorem dX8_init_68 : decode cX8_init 68 = .ok (.goto (-21), 3) := by decide +kernel
theorem dX8_init_71 : decode cX8_init 71 = .ok (.aload_n 0, 1) := by decide +kernel
theorem dX8_init_72 : decode cX8_init 72 = .ok (.iconst 2, 1) := by decide +kernel
theorem dX8_init_73 : decode cX8_init 73 = .ok (.newarray .boolean, 2) := by decide +kernel
theorem dX8_init_75 : decode cX8_init 75 = .ok (.putfield 30, 3) := by decide +kernel
theorem dX8_init_78 : decode cX8_init 78 = .ok (.aload_n 0, 1) := by decide +kernel
theorem dX8_init_79 : decode cX8_init 79 = .ok (.new 34, 3) := by decide +kernel
theorem dX8_init_82 : decode cX8_init 82 = .ok (.dup, 1) := by decide +kernel
theorem dX8_init_83 : decode cX8_init 83 = .ok (.invokespecial 36, 3) := by decide +kernel
theorem dX8_init_86 : decode cX8_init 86 = .ok (.putfield 37, 3) := by decide +kernel
theorem dX8_init_89 : decode cX8_init 89 = .ok (.aload_n 0, 1) := by decide +kernel
theorem dX8_init_90 : decode cX8_init 90 = .ok (.new 41, 3) := by decide +kernel
theorem dX8_init_93 : decode cX8_init 93 = .ok (.dup, 1) := by decide +kernel
theorem dX8_init_94 : decode cX8_init 94 = .ok (.invokespecial 43, 3) := by decide +kernel
theorem dX8_init_97 : decode cX8_init 97 = .ok (.putfield 44, 3) := by decide +kernel
theorem dX8_init_100 : decode cX8_init 100 = .ok (.aload_n 0, 1) := by decide +kernel
theorem dX8_init_101 : decode cX8_init 101 = .ok (.new 48, 3) := by decide +kernel
theorem dX8_init_104 : decode cX8_init 104 = .ok (.dup, 1) := by decide +kernel
theorem dX8_init_105 : decode cX8_init 105 = .ok (.invokespecial 50, 3) := by decide +kernel
theorem dX8_init_108 : decode cX8_init 108 = .ok (.putfield 51, 3) := by decide +kernel
theorem dX8_init_111 : decode cX8_init 111 = .ok (.aload_n 0, 1) := by decide +kernel
theorem dX8_init_112 : decode cX8_init 112 = .ok (.sipush 156, 3) := by decide +kernel
theorem dX8_init_115 : decode cX8_init 115 = .ok (.newarray .byte, 2) := by decide +kernel
theorem dX8_init_117 : decode cX8_init 117 = .ok (.putfield 55, 3) := by decide +kernel
theorem dX8_init_120 : decode cX8_init 120 = .ok (.aload_n 0, 1) := by decide +kernel
theorem dX8_init_121 : decode cX8_init 121 = .ok (.iconst 0, 1) := by decide +kernel
theorem dX8_init_122 : decode cX8_init 122 = .ok (.putfield 59, 3) := by decide +kernel
theorem dX8_init_125 : decode cX8_init 125 = .ok (.aload_n 0, 1) := by decide +kernel
theorem dX8_init_126 : decode cX8_init 126 = .ok (.getfield 37, 3) := by decide +kernel
theorem dX8_init_129 : decode cX8_init 129 = .ok (.ldc 63, 2) := by decide +kernel
theorem dX8_init_131 : decode cX8_init 131 = .ok (.invokevirtual 65, 3) := by decide +kernel
theorem dX8_init_134 : decode cX8_init 134 = .ok (.aload_n 0, 1) := by decide +kernel
theorem dX8_init_135 : decode cX8_init 135 = .ok (.aload_n 0, 1) := by decide +kernel
theorem dX8_init_136 : decode cX8_init 136 = .ok (.getfield 37, 3) := by decide +kernel
theorem dX8_init_139 : decode cX8_init 139 = .ok (.aload_n 0, 1) := by decide +kernel
theorem dX8_init_140 : decode cX8_init 140 = .ok (.getfield 12, 3) := by decide +kernel
theorem dX8_init_143 : decode cX8_init 143 = .ok (.invokevirtual 69, 3) := by decide +kernel
theorem dX8_init_146 : decode cX8_init 146 = .ok (.putfield 73, 3) := by decide +kernel
theorem dX8_init_149 : decode cX8_init 149 = .ok (.aload_n 0, 1) := by decide +kernel
theorem dX8_init_150 : decode cX8_init 150 = .ok (.getfield 37, 3) := by decide +kernel
theorem dX8_init_153 : decode cX8_init 153 = .ok (.iconst 0, 1) := by decide +kernel
theorem dX8_init_154 : decode cX8_init 154 = .ok (.invokevirtual 76, 3) := by decide +kernel
theorem dX8_init_157 : decode cX8_init 157 = .ok (.return_, 1) := by decide +kernel
theorem kw_306 : Cond.methodLink "FalseLightMarsh" 65 yX5_putText ∈ zTs := z_in (i := 306) (by decide +kernel) (by decide +kernel)
theorem kw_362 : Cond.methodLink "FalseLightMarsh" 69 yX5_readInto ∈ zTs := z_in (i := 362) (by decide +kernel) (by decide +kernel)
theorem kw_467 : Cond.methodLink "FalseLightMarsh" 76 yX5_cutTo ∈ zTs := z_in (i := 467) (by decide +kernel) (by decide +kernel)
theorem kw_476 : Cond.fieldLink "FalseLightMarsh" 37 "FalseLightMarsh" "reader" "LFalseLightMarsh$TextReader;" ∈ zTs := z_in (i := 476) (by decide +kernel) (by decide +kernel)
theorem kw_471 : Cond.fieldLink "FalseLightMarsh" 12 "FalseLightMarsh" "world" "LFalseLightMarsh$World;" ∈ zTs := z_in (i := 471) (by decide +kernel) (by decide +kernel)
theorem kw_481 : Cond.fieldLink "FalseLightMarsh" 73 "FalseLightMarsh" "error" "I" ∈ zTs := z_in (i := 481) (by decide +kernel) (by decide +kernel)
def z8P : List Nat := [125, 126, 129, 131, 134, 135, 136, 139, 140, 143, 146, 149, 150, 153, 154, 157]
/-- the constructor of the program stands as 335 -/
def z8p (y ip : Nat) : Nat := bif Nat.beq y 335 then z_at 0 z8P ip else zP y ip
def z8yn (y : Nat) : MethodName := bif Nat.beq y 335 then yX8_init else zyn y
def z8bc (y : Nat) : ByteArray := bif Nat.beq y 335 then cX8_init else zbc y
def z8nl (y : Nat) : Nat := bif Nat.beq y 335 then 2 else znl y
def z8rt (y : Nat) : Option FieldType := bif Nat.beq y 335 then none else zrt y
def z8fr (y : Nat) : Nat := bif Nat.beq y 335 then 8 else zfr y
def z8lo (y : Nat) : Nat := bif Nat.beq y 335 then 200 else zlo y
def z8tb (y : Nat) : List (Nat × Nat × Nat × Nat) := bif Nat.beq y 335 then [] else ztb y
def z8cl (y : Nat) : Nat := bif Nat.beq y 335 then 8 else zcl y
def z8c2 (y i : Nat) : Bool := bif Nat.beq y 335 then false else zc2 y i
/-- a run of a method is what its caller may build on -/
theorem z_Con_of {l : Launch} {LL : Nat} {xs : Nat → Int32} {N y : Nat} {args : List Value} {mem : Mm} {r : Res} (hl : l.stackTraces = false) (hfit : z_fit (znl y) (zc2 y) args = true) {f : Nat} (h : z_run N (ztab N) znl zc2 zcl zhnd f y 0 (z_ent (znl y) args, [], mem) = some r) : z_Con N znl zTs (zZ LL xs N) zexn zyn zbc zrt zfr zlo ztb l y args mem r :=
  z_con (P := zP) (c2 := zc2) (zP_0 y).2 hfit (zP_0 y).1 (z_walk (cl := zcl) (hnd := zhnd) (tab := ztab N) (zZ_K LL xs N) (fun y ip en h => zE_all y ip en h) (fun y en h => zE_0 (N := N) y en h) hl f y 0 _ r h)
/-- what stands behind the constructor's tail -/
def JS (G G' : GM) : Prop := (pFst.2.1 = 0 ∧ mOk pFst.2.2.2 ∧ RX G' 0 pFst.2.2.2) ∧ (∀ k, 16 ≤ k → k ≠ 192 → k ≠ 197 → k ≠ 198 → G' k = G k) ∧ (∀ j, j ≠ 10 → G' 192 j = G 192 j) ∧ G' 192 10 = -1 ∧ G' 197 0 = 0
section TAIL
variable {p : Program} {l : Launch} {e : Env} {R : Room} {s : State} {m : MethodId} {args : Array Value} {below : List Frame} {meth : Method} {c : Code} {ad : Nat → Nat} {D : va_G} {cA : Nat → ClassId} {CE SE : Nat} {LL : Nat} {xs : Nat → Int32} {Q : State → Prop} {G F : GM}
abbrev k8At (p : Program) (l : Launch) (e : Env) (R : Room) (s : State) (m : MethodId) (args : Array Value) (below : List Frame) (meth : Method) (c : Code) (ad : Nat → Nat) (D : va_G) (cA : Nat → ClassId) (CE SE : Nat) (Q : State → Prop) (pc : Nat) (st : List Value) (G F : GM) : Prop := z_At 229 (z8c2 335) (z8nl 335) ad D cA p l e R s m args below meth c Q 0 CE SE pc ([.ref 192, .null], st, mM G F 0)
theorem k8_s {g : Ico} {ip : Nat} {st st' : List Value} {G' F' : GM} (C : z_C 229 z8nl zTs (zZ LL xs 229) z8yn z8bc z8rt z8fr z8lo 335 ad D cA CE SE p l R s m args meth c) (hs : z_SP 229 zTs (zZ LL xs 229) (z8yn 335).cls (z8bc 335) (z8nl 335) (z8rt 335) (z8fr 335) (z8lo 335) (z8c2 335) (z8p 335) ip g) (hg : g ip ([.ref 192, .null], st, mM G F 0) = some (ip + 1, [.ref 192, .null], st', mM G' F' 0)) (k : k8At p l e R s m args below meth c ad D cA CE SE Q (z8p 335 (ip + 1)) st' G' F') : k8At p l e R s m args below meth c ad D cA CE SE Q (z8p 335 ip) st G F :=
  hs.2 p l e R s m args below meth c Q ad D cA 0 CE SE C _ _ _ hg k
theorem k8_c {ip y2 n : Nat} {st : List Value} {Q2 : Zq} {as : List Value} (hl : l.stackTraces = false) (C : z_C 229 z8nl zTs (zZ LL xs 229) z8yn z8bc z8rt z8fr z8lo 335 ad D cA CE SE p l R s m args meth c) (hc : zC 229 y2 as G F 0 Q2) (h1 : zrM G) (h2 : zrL F) (hno : ∀ ex G' F' n', ¬ Q2 (.inr ex) G' F' n') (hn0 : ∀ v G' F' n', Q2 (.inl v) G' F' n' → n' = 0) (ha : (st.take n).reverse = as) (hfit : z_fit (znl y2) (zc2 y2) as = true)
    (hsc : z_SC 229 z8nl zTs (zZ LL xs 229) z8yn z8bc z8rt z8fr z8lo z8p z8tb 335 ip 3 y2 n) (hcl : ∃ T Nf, vwCl[z8cl y2]? = some ((z8yn y2).cls, T, Nf)) (hok : z_okc 229 (z8cl y2) (z8nl y2) (z8c2 y2) 3 n st = true) (hp : z8p 335 (ip + 1) = z8p 335 ip + 3)
    (hcon : ∀ mem r, z_Con 229 znl zTs (zZ LL xs 229) zexn zyn zbc zrt zfr zlo ztb l y2 as mem r → z_Con 229 z8nl zTs (zZ LL xs 229) zexn z8yn z8bc z8rt z8fr z8lo z8tb l y2 as mem r)
    (k : ∀ (v : Option Value) (G' F' : GM), zrM G' → zrL F' → Q2 (.inl v) G' F' 0 → k8At p l e R s m args below meth c ad D cA CE SE Q (z8p 335 (ip + 1)) (v.toList ++ st.drop n) G' F') : k8At p l e R s m args below meth c ad D cA CE SE Q (z8p 335 ip) st G F := by
  obtain ⟨f, o, G2, F2, n2, h3, h4, h5, h6⟩ := hc h1 h2
  cases o with
  | inr ex => exact absurd h6 (hno ex G2 F2 n2)
  | inl v =>
    have e0 := hn0 v G2 F2 n2 h6
    subst e0
    subst ha
    have hcn := hcon _ _ (z_Con_of (LL := LL) (xs := xs) (N := 229) hl hfit h3)
    exact z_callN (c2 := z8c2) (cl := z8cl) (zZ_K LL xs 229) C hcn hsc hp (fun _ => hcl) hok (Nat.le_refl _) (Nat.le_refl _) (k v G2 F2 h4 h5 h6)
/-- the tail of the program's constructor -/
theorem k8_tail (hl : l.stackTraces = false) (C : z_C 229 z8nl zTs (zZ LL xs 229) z8yn z8bc z8rt z8fr z8lo 335 ad D cA CE SE p l R s m args meth c) (h1 : zrM G) (h2 : zrL F) (h0 : G 197 0 = 0)
    (kk : ∀ G' : GM, zrM G' → JS G G' → k8At p l e R s m args below meth c ad D cA CE SE Q 157 [] G' F) : k8At p l e R s m args below meth c ad D cA CE SE Q 125 [] G F := by
  refine k8_s (ip := 0) (st' := [.ref 192]) (G' := G) (F' := F) C (sp_aload_n (q := 0) dX8_init_125 rfl rfl) rfl ?_
  refine k8_s (ip := 1) (st' := [.ref 197]) (G' := G) (F' := F) C (sp_getf (ci := 8) (j := 5) (C := RX8) (T := TX8) (Nf := 11) dX8_init_126 rfl inX8 (by decide) kw_476 rfl) rfl ?_
  refine k8_s (ip := 2) (st' := [.ref 320, .ref 197]) (G' := G) (F' := F) C (sp_ldcS (tx := "marsh 4 3 clear 4;row fffh;row fwwf;row ffpf;") dX8_init_129 (by decide +kernel) rfl) rfl ?_
  refine k8_c (ip := 3) (y2 := 182) (n := 2) hl C (cX_putText (by decide) h0) h1 h2 (fun ex G' F' n' h => by cases h.1) (fun v G' F' n' h => h.2.2.2) rfl rfl (sc_V (n' := 1) zTs_good dX8_init_131 kw_306 qX5_putText.1 qX5_putText.2.1 qX5_putText.2.2.1 qX5_putText.2.2.2.1 rfl qX5_putText.2.2.2.2.2 rfl (by decide +kernel)) ⟨_, _, rfl⟩ rfl rfl (fun _ _ h => h) ?_
  rintro v G1 F1 g1 g2 ⟨hv, ⟨⟨ha1, ha2⟩, ha3, ha4⟩, rfl, -⟩
  cases hv
  refine k8_s (ip := 4) (st' := [.ref 192]) (G' := G1) (F' := F1) C (sp_aload_n (q := 0) dX8_init_134 rfl rfl) rfl ?_
  refine k8_s (ip := 5) (st' := [.ref 192, .ref 192]) (G' := G1) (F' := F1) C (sp_aload_n (q := 0) dX8_init_135 rfl rfl) rfl ?_
  refine k8_s (ip := 6) (st' := [.ref 197, .ref 192]) (G' := G1) (F' := F1) C (sp_getf (ci := 8) (j := 5) (C := RX8) (T := TX8) (Nf := 11) dX8_init_136 rfl inX8 (by decide) kw_476 rfl) rfl ?_
  refine k8_s (ip := 7) (st' := [.ref 192, .ref 197, .ref 192]) (G' := G1) (F' := F1) C (sp_aload_n (q := 0) dX8_init_139 rfl rfl) rfl ?_
  refine k8_s (ip := 8) (st' := [.ref 0, .ref 197, .ref 192]) (G' := G1) (F' := F1) C (sp_getf (ci := 8) (j := 0) (C := RX8) (T := TX8) (Nf := 11) dX8_init_140 rfl inX8 (by decide) kw_471 rfl) rfl ?_
  have hB : xBu G1 (zSc 0) 45 := ⟨ha3, by decide, fun j j0 j1 => by
    have hr := zSc0_rng (j := j) ⟨j0, j1⟩
    rw [ha4 j j0 j1]
    refine ⟨by omega, ?_⟩
    rw [Int.emod_eq_of_lt hr.1 (by omega)]⟩
  refine k8_c (ip := 9) (y2 := 185) (n := 2) hl C (cR_read (w := 0) (D0 := fun _ => 0) (by decide) (by decide) hB (fun _ _ _ => rfl)) g1 g2 (fun ex G' F' n' h => by obtain ⟨v, h, -⟩ := h; cases h) (fun v G' F' n' h => by obtain ⟨v, -, -, -, -, -, h⟩ := h; exact h) rfl rfl (sc_V (n' := 1) zTs_good dX8_init_143 kw_362 qX5_readInto.1 qX5_readInto.2.1 qX5_readInto.2.2.1 qX5_readInto.2.2.2.1 rfl qX5_readInto.2.2.2.2.2 rfl (by decide +kernel)) ⟨_, _, rfl⟩ rfl rfl (fun _ _ h => h) ?_
  rintro v G2 F2 k1 k2 ⟨ev, hv, -, hr, hw, rfl, -⟩
  cases hv
  have hr' : ev = -1 ∧ mOk pFst.2.2.2 ∧ RX G2 0 pFst.2.2.2 := by
    rcases hr with ⟨-, b, -, b2, b3⟩ | ⟨b, -⟩
    · exact ⟨b, b2, b3⟩
    · have := pFst_ok.1
      unfold pFst at this
      rw [b] at this
      exact absurd this (by decide)
  obtain ⟨rfl, hok, hR⟩ := hr'
  have hz : zrM (zk G2 192 (zp (G2 192) 10 (-1))) := zrM_k k1 (by decide)
  refine k8_s (ip := 10) (st' := []) (G' := zk G2 192 (zp (G2 192) 10 (-1))) (F' := F2) C (sp_putI (ci := 8) (j := 10) (C := RX8) (T := TX8) (Nf := 11) dX8_init_146 rfl inX8 tyX8_ok nmX8 (by decide) kw_481 rfl (by decide +kernel) rfl) (by
    show some ((11, [.ref 192, .null], [], (z_up (mM G2 F2 0).1 192 10 (zi (-1)), (mM G2 F2 0).2)) : Nat × Sx) = _
    have := mM_k G2 F2 0 192 (i := 10) (-1) (by decide)
    rw [← this]
    rfl) ?_
  refine k8_s (ip := 11) (st' := [.ref 192]) (G' := _) (F' := F2) C (sp_aload_n (q := 0) dX8_init_149 rfl rfl) rfl ?_
  refine k8_s (ip := 12) (st' := [.ref 197]) (G' := _) (F' := F2) C (sp_getf (ci := 8) (j := 5) (C := RX8) (T := TX8) (Nf := 11) dX8_init_150 rfl inX8 (by decide) kw_476 rfl) rfl ?_
  refine k8_s (ip := 13) (st' := [.int 0, .ref 197]) (G' := _) (F' := F2) C (sp_iconst (v := 0) dX8_init_153 (by decide) rfl) rfl ?_
  refine k8_c (ip := 14) (y2 := 184) (n := 2) hl C (cX_cutTo (v := 0) (by decide) (by decide)) hz k2 (fun ex G' F' n' h => by cases h.1) (fun v G' F' n' h => h.2.2.2) rfl rfl (sc_V (n' := 1) zTs_good dX8_init_154 kw_467 qX5_cutTo.1 qX5_cutTo.2.1 qX5_cutTo.2.2.1 qX5_cutTo.2.2.2.1 rfl qX5_cutTo.2.2.2.2.2 rfl (by decide +kernel)) ⟨_, _, rfl⟩ rfl rfl (fun _ _ h => h) ?_
  rintro v G3 F3 m1 m2 ⟨hv, rfl, rfl, -⟩
  cases hv
  refine kk _ m1 ⟨⟨pFst_ok.1, hok, ?_⟩, fun k a b d e9 => ?_, fun j a => ?_, ?_, ?_⟩
  · exact RX_fr hR (fun k a b => by rw [zk_ne (by omega), zk_ne (by omega)])
  · rw [zk_ne d, zk_ne b, hw.1 k d (by omega), ha1 k d e9]
  · rw [zk_ne (by decide), zk_eq, zp_ne a, hw.1 192 (by decide) (by omega), ha1 192 (by decide) (by decide)]
  · rw [zk_ne (by decide), zk_eq, zp_eq]
  · rw [zk_eq, zp_eq]
end TAIL
