/-! The law's start: addresses, the program's constructor beside other cells, the script copied. -/
theorem z_fvs_ad {ad ad' : Nat → Nat} {k : Nat} {mem : Mm} : ∀ (cs : List Nat) (j : Nat), (∀ c ∈ cs, 2 ≤ c → ad (c - 2) = ad' (c - 2)) → (z_fvs k mem j cs).map (z_cv ad) = (z_fvs k mem j cs).map (z_cv ad') := by
  intro cs
  induction cs with
  | nil => intro j h; rfl
  | cons c cs ih =>
    intro j h
    have h2 := ih (j + 1) (fun c hc => h c (List.mem_cons_of_mem _ hc))
    have h1 : z_cv ad (z_fv k mem c j) = z_cv ad' (z_fv k mem c j) := by
      have hc := h c List.mem_cons_self
      match c, hc with
      | 0, _ => rfl
      | 1, _ => rfl
      | c + 2, hc => exact congrArg Value.ref (hc (by omega))
    show z_cv ad (z_fv k mem c j) :: _ = z_cv ad' (z_fv k mem c j) :: _
    rw [h1]
    exact congrArg _ h2
theorem z_cel_ad {ad ad' : Nat → Nat} {cA : Nat → ClassId} {k : Nat} {mem : Mm} (h1 : ∀ c ∈ (z_sh k).2.2, 2 ≤ c → ad (c - 2) = ad' (c - 2)) (h2 : 5 ≤ (z_sh k).1 → ∀ c ∈ (z_sh k).2.2, ad c = ad' c) : z_cel ad cA k mem = z_cel ad' cA k mem := by
  unfold z_cel
  rw [z_fvs_ad _ 0 h1]
  by_cases h0 : (z_sh k).1 = 0
  · rw [if_pos h0, if_pos h0]
  · rw [if_neg h0, if_neg h0]
    by_cases h4 : (z_sh k).1 = 4
    · rw [if_pos h4, if_pos h4]
    · rw [if_neg h4, if_neg h4]
      by_cases h5 : 5 ≤ (z_sh k).1
      · rw [if_pos h5, if_pos h5]
        have e : (fun j : Nat => ((z_sh k).2.2[j]?).map ad) = fun j : Nat => ((z_sh k).2.2[j]?).map ad' := by
          funext j
          cases hj : (z_sh k).2.2[j]? with
          | none => rfl
          | some c => exact congrArg some (h2 h5 c (List.mem_of_getElem? hj))
        rw [e]
      · rw [if_neg h5, if_neg h5]
theorem z_sh_lo {k : Nat} (h : k < 229) : ∀ c ∈ (z_sh k).2.2, c < 231 ∧ (5 ≤ (z_sh k).1 → c < 229) := by
  have hd : ((List.range 229).all fun k => (z_sh k).2.2.all fun c => Nat.blt c 231 && (Nat.blt (z_sh k).1 5 || Nat.blt c 229)) = true := by decide +kernel
  intro c hc
  have h1 := List.all_eq_true.mp (List.all_eq_true.mp hd k (List.mem_range.mpr h)) c hc
  rw [Bool.and_eq_true, Bool.or_eq_true] at h1
  refine ⟨Nat.le_of_ble_eq_true h1.1, fun h5 => ?_⟩
  rcases h1.2 with h2 | h2
  · have : (z_sh k).1 < 5 := Nat.le_of_ble_eq_true h2
    omega
  · exact Nat.le_of_ble_eq_true h2
theorem z_W_ad {ad ad' : Nat → Nat} {cA : Nat → ClassId} {mem : Mm} (e : ∀ k, k < 231 → ad k = ad' k) : z_W 229 ad cA mem = z_W 229 ad' cA mem := by
  unfold z_W
  refine List.map_congr_left (fun k hk => ?_)
  have hk := List.mem_range.mp hk
  rw [e k (by omega), z_cel_ad (ad' := ad') (fun c hc h2 => e _ (by have := (z_sh_lo hk c hc).1; omega)) (fun h5 c hc => e _ (by have := (z_sh_lo hk c hc).2 h5; omega))]
theorem zZA_ad3 {X : Nat × (Nat → Int32)} {A : Nat → Prop} {ad a0 : Nat → Nat} {U : State} {H : Heap} (h : zZA X.1 X.2 A a0 U H) (e : ∀ k, 300 ≤ k → k < 1000 → ad k = a0 k) : zZA X.1 X.2 A ad U H := by
  obtain ⟨⟨g1, g2, g3, g4, g5, g6, g7⟩, h1, h2, h3, h4, h5, h6, h7, h8, h9, h10, h11, h12⟩ := h
  have hS : vk_S 10 zSl zSb (fun i => ad (320 + i)) (fun i => ad (340 + i)) A U H := by
    refine ⟨fun i hi => ?_, fun i j hi hj => ?_⟩
    · have h := h3.1 i hi
      dsimp only at h ⊢
      rw [e (320 + i) (by omega) (by omega), e (340 + i) (by omega) (by omega)]
      exact h
    · have h := h3.2 i j hi hj
      dsimp only at h ⊢
      rw [e (320 + i) (by omega) (by omega), e (320 + j) (by omega) (by omega)]
      exact h
  unfold zZA
  rw [e 310 (by decide) (by decide), e 300 (by decide) (by decide), e 301 (by decide) (by decide)]
  refine ⟨⟨g1, g2, g3, g4, g5, fun q hq => ?_, g7⟩, h1, h2, hS, h4, h5, h6, h7, h8, h9, h10, h11, h12⟩
  have hz : (zSt.all fun q => Nat.ble 300 q.2.2.2 && Nat.blt q.2.2.2 1000) = true := by decide +kernel
  have h9 := List.all_eq_true.mp hz q hq
  rw [e _ (Nat.le_of_ble_eq_true (Bool.and_eq_true_iff.mp h9).1) (Nat.le_of_ble_eq_true (Bool.and_eq_true_iff.mp h9).2)]
  exact g6 q hq
theorem wZ_ad3 {X : Nat × (Nat → Int32)} {A : Nat → Prop} {ad a0 : Nat → Nat} {U : State} {H : Heap} (h : wZ X A a0 U H) (e : ∀ k, 300 ≤ k → k < 1000 → ad k = a0 k) : wZ X A ad U H := by
  obtain ⟨h0, h1, h2, h3, h4, h5, h6, h7, h8⟩ := h
  refine ⟨zZA_ad3 h0 e, fun q hq => ?_, ⟨fun i hi => ?_, fun i j hi hj => ?_⟩, ?_, ?_, ?_, ?_, h7, h8⟩
  · have hz : (wSt.all fun q => Nat.ble 300 q.2.2 && Nat.blt q.2.2 1000) = true := by decide +kernel
    have h9 := List.all_eq_true.mp hz q hq
    rw [e _ (Nat.le_of_ble_eq_true (Bool.and_eq_true_iff.mp h9).1) (Nat.le_of_ble_eq_true (Bool.and_eq_true_iff.mp h9).2)]
    exact h1 q hq
  · have h := h2.1 i hi
    dsimp only at h ⊢
    rw [e (330 + i) (by omega) (by omega), e (350 + i) (by omega) (by omega)]
    exact h
  · have h := h2.2 i j hi hj
    dsimp only at h ⊢
    rw [e (330 + i) (by omega) (by omega), e (330 + j) (by omega) (by omega)]
    exact h
  · rw [e 302 (by decide) (by decide)]; exact h3
  · rw [e 302 (by decide) (by decide)]; exact h4
  · rw [e 303 (by decide) (by decide)]; exact h5
  · rw [e 303 (by decide) (by decide)]; exact h6
theorem kh_32 : Cond.initialized "FalseLightMarsh" ∈ zTs := z_in (i := 32) (by decide +kernel) (by decide +kernel)
theorem kh_60 : Cond.classLink "FalseLightMarshLaw" 8 "FalseLightMarsh" ∈ zTs := z_in (i := 60) (by decide +kernel) (by decide +kernel)
theorem kh_61 : Cond.instantiable "FalseLightMarsh" 11 ∈ zTs := z_in (i := 61) (by decide +kernel) (by decide +kernel)
theorem kh_62 : Cond.methodLink "FalseLightMarshLaw" 309 yX8_init ∈ zTs := z_in (i := 62) (by decide +kernel) (by decide +kernel)
theorem kh_63 : Cond.instanceMethod yX8_init ∈ zTs := z_in (i := 63) (by decide +kernel) (by decide +kernel)
theorem kh_64 : Cond.code yX8_init cX8_init 2 none ∈ zTs := z_in (i := 64) (by decide +kernel) (by decide +kernel)
theorem kh_1444 : Cond.constant "FalseLightMarshLaw" 308 2147483647 ∈ zTs := z_in (i := 1444) (by decide +kernel) (by decide +kernel)
theorem dL_law_0 : decode cL_law 0 = .ok (.bipush 6, 2) := by decide +kernel
theorem dL_law_2 : decode cL_law 2 = .ok (.newarray .int, 2) := by decide +kernel
theorem dL_law_4 : decode cL_law 4 = .ok (.astore_n 1, 1) := by decide +kernel
theorem dL_law_5 : decode cL_law 5 = .ok (.iconst 0, 1) := by decide +kernel
theorem dL_law_6 : decode cL_law 6 = .ok (.istore_n 2, 1) := by decide +kernel
theorem dL_law_7 : decode cL_law 7 = .ok (.iload_n 2, 1) := by decide +kernel
theorem dL_law_8 : decode cL_law 8 = .ok (.bipush 6, 2) := by decide +kernel
theorem dL_law_10 : decode cL_law 10 = .ok (.if_icmp .ge 25, 3) := by decide +kernel
theorem dL_law_13 : decode cL_law 13 = .ok (.iload_n 2, 1) := by decide +kernel
theorem dL_law_14 : decode cL_law 14 = .ok (.aload_n 0, 1) := by decide +kernel
theorem dL_law_15 : decode cL_law 15 = .ok (.arraylength, 1) := by decide +kernel
theorem dL_law_16 : decode cL_law 16 = .ok (.if_icmp .ge 19, 3) := by decide +kernel
theorem dL_law_19 : decode cL_law 19 = .ok (.aload_n 1, 1) := by decide +kernel
theorem dL_law_20 : decode cL_law 20 = .ok (.iload_n 2, 1) := by decide +kernel
theorem dL_law_21 : decode cL_law 21 = .ok (.aload_n 0, 1) := by decide +kernel
theorem dL_law_22 : decode cL_law 22 = .ok (.iload_n 2, 1) := by decide +kernel
theorem dL_law_23 : decode cL_law 23 = .ok (.iaload, 1) := by decide +kernel
theorem dL_law_24 : decode cL_law 24 = .ok (.ldc_w 308, 3) := by decide +kernel
theorem dL_law_27 : decode cL_law 27 = .ok (.iand, 1) := by decide +kernel
theorem dL_law_28 : decode cL_law 28 = .ok (.iastore, 1) := by decide +kernel
theorem dL_law_29 : decode cL_law 29 = .ok (.iinc 2 1, 3) := by decide +kernel
theorem dL_law_32 : decode cL_law 32 = .ok (.goto (-25), 3) := by decide +kernel
theorem dL_law_35 : decode cL_law 35 = .ok (.new 8, 3) := by decide +kernel
theorem dL_law_38 : decode cL_law 38 = .ok (.dup, 1) := by decide +kernel
theorem dL_law_39 : decode cL_law 39 = .ok (.invokespecial 309, 3) := by decide +kernel
theorem dL_law_42 : decode cL_law 42 = .ok (.astore_n 2, 1) := by decide +kernel
theorem va_P_sw {D : va_G} {cl : List vw_C} {a b : va_W} {H : Heap} (h : va_P D cl (a ++ b) H) : va_P D cl (b ++ a) H := fun k q hk => by
  by_cases hl : k < b.length
  · rw [List.getElem?_append_left hl] at hk
    exact h (a.length + k) q (by rw [List.getElem?_append_right (by omega), Nat.add_sub_cancel_left]; exact hk)
  · rw [List.getElem?_append_right (by omega)] at hk
    exact h (k - b.length) q (by rw [List.getElem?_append_left (List.getElem?_eq_some_iff.mp hk).1]; exact hk)
theorem va_D_sw {A : Nat → Prop} {a b : va_W} (h : va_D A (a ++ b)) : va_D A (b ++ a) := by
  have key : ∀ (k : Nat) (q : Nat × va_E), (b ++ a)[k]? = some q → ∃ k', (a ++ b)[k']? = some q ∧ ((k < b.length ∧ k' = a.length + k) ∨ (b.length ≤ k ∧ k' = k - b.length ∧ k' < a.length)) := fun k q hk => by
    by_cases hl : k < b.length
    · rw [List.getElem?_append_left hl] at hk
      exact ⟨a.length + k, by rw [List.getElem?_append_right (by omega), Nat.add_sub_cancel_left]; exact hk, Or.inl ⟨hl, rfl⟩⟩
    · rw [List.getElem?_append_right (by omega)] at hk
      have h2 := (List.getElem?_eq_some_iff.mp hk).1
      exact ⟨k - b.length, by rw [List.getElem?_append_left h2]; exact hk, Or.inr ⟨by omega, rfl, h2⟩⟩
  refine ⟨fun i j p q hi hj e => ?_, fun k q hk => ?_⟩
  · obtain ⟨i', hi', ci⟩ := key i p hi
    obtain ⟨j', hj', cj⟩ := key j q hj
    have := h.1 i' j' p q hi' hj' e
    omega
  · obtain ⟨k', hk', -⟩ := key k q hk
    exact h.2 k' q hk'
section H2
variable {p : Program} {l : Launch} {e : Env} {R : Room} {s : State} {m : MethodId} {args : Array Value} {below : List Frame} {meth : Method} {c : Code} {H : Heap} {locs : List Loc} {cells slots : Nat} {Q : State → Prop} {A : Nat → Prop} {D : va_G} {cA : Nat → ClassId}
theorem k8_call {cc : ByteArray} {nl pc q : Nat} {ls : Array Slot} {rest : List Value} {own : String} {index : Nat} {wr : va_W} {LL : Nat} {xs : Nat → Int32} {a0 : Nat → Nat} (hst : l.stackTraces = false)
    (hx : p.tables.exec = Jvm.exec) (hb : c.code = cc) (hml : c.maxLocals = nl) (hown : s.vm.findClass own = some m.cls) (hts : ∀ w ∈ zTs, w.before args s = true) (hK : kK D cA s) (hZ : zZA LL xs A a0 s s.heap) (hP : va_P D vwCl (wr ++ [(q, (.inr (8, [.null, .null, .null, .null, .null, .null, .null, .null, .null, .int 0, .int 0]) : va_E))]) H) (hD : va_D A (wr ++ [(q, (.inr (8, [.null, .null, .null, .null, .null, .null, .null, .null, .null, .int 0, .int 0]) : va_E))])) (hS : va_S A s.heap H locs) (hA : ∀ q, s.heap.size ≤ q → A q)
    (w1 : Cond.methodLink own index yX8_init ∈ zTs) (hR : 8 + 1 ≤ R.frames ∧ 8 + (2 + 11) + 200 ≤ R.locals) (hrest : (rest.map fun v => v.category).sum ≤ 8) (hsz : ls.size = nl) (hdg : decode cc pc = .ok (.invokespecial index, 3)) (hc : cells + 228 ≤ R.cells) (hs : slots + 6687 ≤ R.slots)
    (kk : ∀ (ad : Nat → Nat) (G : GM) (H1 : Heap) (locs1 : List Loc), ad 192 = q → (∀ k, 229 ≤ k → ad k = a0 k) → zrM G → JS Gz G → va_P D vwCl (wr ++ z_W 229 ad cA (mM G Gz 0)) H1 → va_D A (wr ++ z_W 229 ad cA (mM G Gz 0)) → va_S A s.heap H1 locs1 → W p l e R s m args below meth c H1 locs1 (cells + 228) (slots + 6687) Q (F0 m (pc + 3) ls rest)) :
    W p l e R s m args below meth c H locs cells slots Q (F0 m pc ls (.ref q :: rest)) := by
  have hPc := k_pr hP
  have hq : A q := hD.2 wr.length (q, (.inr (8, [.null, .null, .null, .null, .null, .null, .null, .null, .null, .int 0, .int 0]) : va_E)) (by rw [List.getElem?_append_right (Nat.le_refl _), Nat.sub_self]; rfl)
  have hFc : ∀ x, va_A [(q, (.inr (8, [.null, .null, .null, .null, .null, .null, .null, .null, .null, .int 0, .int 0]) : va_E))] H.size x → A x := by
    rintro x (⟨k, e, h⟩ | h)
    · cases k with
      | zero => cases h; exact hq
      | succ k => cases h
    · exact hA x (Nat.le_trans hS.1 h)
  refine va_callv (va_runI (As := []) (rest := rest) ⟨hx, hb, hml, hown, hts⟩ (k8_con (LL := LL) (xs := xs) (D := D) (cA := cA) hst a0 A q H.size) (cwI 0 hts (z_good zTs_good (fun w hw => ?_)) rfl rfl rfl (hts _ kh_32) (hts _ w1) (hts _ kh_63) rfl ⟨by decide, by decide, by decide +kernel⟩ hR) ⟨fun a U g mk h => ?_, fun U hU hW => ?_⟩ rfl rfl hsz rfl (lv_room hrest) hdg ⟨hc, hs⟩) hS (fun x _ h => hFc x h) hFc (fun u t H1 locs1 ht hvm hw hB hz1 hk1 hS1 => ?_)
  · rcases List.mem_cons.mp hw with rfl | hw
    · exact kh_64
    · exact hw
  · obtain ⟨p0, p1, p2, p3, p4, p5, p6⟩ := h
    exact ⟨p0, p1, p2, kK_m (u := U) (U := U.calling g mk a) (Vm.Alike.refl U.vm) p3, (zZA_K LL xs _).1 a0 U (U.calling g mk a) _ rfl p4, p5, p6⟩
  · have hZH := (zZA_K LL xs A).2.2 a0 s s.heap H hS.1 hS.2.1 hZ
    have hZU := (zZA_K LL xs A).2.1 a0 s U H hW hZH
    exact ⟨rfl, by rw [hU], by rw [hU]; exact hPc, kK_m hW.alike hK, by rw [hU]; exact hZU, hq, fun q hq => hA q (Nat.le_trans hS.1 hq)⟩
  · obtain ⟨ad, G⟩ := u
    obtain ⟨h192, hhi, hG, hJ⟩ := hw
    obtain ⟨hP1, hD1⟩ := hB
    rw [ht] at hP1
    obtain ⟨hP2, hD2⟩ := k_join hP hD hk1 hFc hP1 hD1
    exact kk ad G H1 locs1 h192 hhi hG hJ hP2 hD2 hS1
/-- the script's first six are copied -/
theorem st_loop {b L : Nat} {xs : Nat → Int32} {q3 : Nat} (hx : p.tables.exec = Jvm.exec) (hb : c.code = cL_law) (hown : s.vm.findClass "FalseLightMarshLaw" = some m.cls) (hts : ∀ w ∈ zTs, w.before args s = true) (hK : wK D cA s) (hX : va_X b L xs s s.heap) (hbl : b < s.heap.size) (hbA : ¬ A b) (hL : L ≤ 260) (hDa : ∀ fs : Nat → Int32, va_D A [(q3, (.inl (cA 1, 6, .inl fs) : va_E))])
    (kk : ∀ (fs : Nat → Int32) (H : Heap) (locs : List Loc) (ls : Array Slot) (x2 : Int32), va_P D vwCl [(q3, (.inl (cA 1, 6, .inl fs) : va_E))] H → va_S A s.heap H locs → lv_has ls 7 [(2, .int x2), (1, .ref q3), (0, .ref b)] → W p l e R s m args below meth c H locs cells slots Q (F0 m 35 ls [])) :
    ∀ (d k : Nat) (fs : Nat → Int32) (H : Heap) (locs : List Loc) (ls : Array Slot), 7 - k < d → k ≤ 6 → va_P D vwCl [(q3, (.inl (cA 1, 6, .inl fs) : va_E))] H → va_S A s.heap H locs → lv_has ls 7 [(2, .int (zi (k : Int))), (1, .ref q3), (0, .ref b)] → W p l e R s m args below meth c H locs cells slots Q (F0 m 7 ls []) := by
  intro d
  induction d with
  | zero =>
    intro k fs H locs ls hd
    omega
  | succ d ih =>
    intro k fs H locs ls hd hk6 hP hS hl
    have e6 : (Int8.ofInt 6).toInt32 = zi 6 := by decide +kernel
    refine lv_iload_n hx hb dL_law_7 rfl (lv_at hl 0 rfl) ?_
    refine lv_bipush hx hb dL_law_8 e6 ?_
    refine lv_icmp_ge (tgt := 35) hx hb dL_law_10 (by decide) (fun _ => kk fs H locs ls _ hP hS hl) (fun h6 => ?_)
    have h6 : (k : Int) < 6 := Int.not_le.mp (fun h9 => h6 ((zi_le (by decide) ⟨by omega, by omega⟩).mpr h9))
    refine lv_iload_n hx hb dL_law_13 rfl (lv_at hl 0 rfl) ?_
    refine lv_aload_n hx hb dL_law_14 rfl (lv_at hl 2 rfl) ?_
    refine va_slen hx hb hX hbl hbA hS dL_law_15 ?_
    have eL : Int32.ofNat L = zi (L : Int) := (zi_nI L).symm
    rw [eL]
    refine lv_icmp_ge (tgt := 35) hx hb dL_law_16 (by decide) (fun _ => kk fs H locs ls _ hP hS hl) (fun hk => ?_)
    have hk : (k : Int) < (L : Int) := Int.not_le.mp (fun h9 => hk ((zi_le ⟨by omega, by omega⟩ ⟨by omega, by omega⟩).mpr h9))
    refine lv_aload_n hx hb dL_law_19 rfl (lv_at hl 1 rfl) ?_
    refine lv_iload_n hx hb dL_law_20 rfl (lv_at hl 0 rfl) ?_
    refine lv_aload_n hx hb dL_law_21 rfl (lv_at hl 2 rfl) ?_
    refine lv_iload_n hx hb dL_law_22 rfl (lv_at hl 0 rfl) ?_
    refine va_sld hx hb hX hbl hbA hS (zi_ix ⟨by omega, by omega, by omega⟩) dL_law_23 ?_
    refine lv_ldcw hx hb hown (hts _ kh_1444) dL_law_24 ?_
    refine lv_iand hx hb dL_law_27 ?_
    refine va_iast hx hb hK.1 hP (hDa fs) hS 0 0 rfl rfl (zi_ix ⟨by omega, by omega, by omega⟩) dL_law_28 (fun H1 locs1 hP1 hD1 hS1 => ?_)
    refine lv_iinc (k := 0) (v := zi ((k + 1 : Nat) : Int)) (lv' := [(2, .int (zi ((k + 1 : Nat) : Int))), (1, .ref q3), (0, .ref b)]) hx hb dL_law_29 hl rfl (by rw [show ((k + 1 : Nat) : Int) = (k : Int) + 1 by omega, zi_add]; rfl) (by decide) rfl (fun ls' hl' => ?_)
    refine lv_goto (tgt := 7) hx hb dL_law_32 (by decide) ?_
    exact ih (k + 1) _ H1 locs1 ls' (by omega) (by omega) hP1 hS1 hl'
end H2
