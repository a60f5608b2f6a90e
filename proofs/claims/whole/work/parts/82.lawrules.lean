/-! The abstract machine with the law: its rules (printed by wip/whole/gen82.py). -/
section RX2
variable (N : Nat) (tab tab' : Nat → Nat → Option Ent) (nl : Nat → Nat) (c2 : Nat → Nat → Bool) (cl : Nat → Nat) (hnd : Nat → Nat → Option Int32)
/-- a larger table does no harm -/
theorem z_tm (hT : ∀ y ip e, tab y ip = some e → tab' y ip = some e) : ∀ (f y ip : Nat) (x : Sx) (r : Res), z_run N tab nl c2 cl hnd f y ip x = some r → z_run N tab' nl c2 cl hnd f y ip x = some r := by
  intro f
  induction f with
  | zero => intro y ip x r h; cases h
  | succ f ih =>
    intro y ip x r h
    cases hen : tab y ip with
    | none => rw [z_run_n N tab nl c2 cl hnd hen] at h; cases h
    | some en =>
      have hen' := hT y ip en hen
      cases en with
      | inl g =>
        cases hg : g ip x with
        | none => rw [z_run_q N tab nl c2 cl hnd hen hg] at h; cases h
        | some q =>
          obtain ⟨ip', x'⟩ := q
          rw [z_run_p N tab nl c2 cl hnd hen hg] at h
          rw [z_run_p N tab' nl c2 cl hnd hen' hg]
          exact ih _ _ _ _ h
      | inr q =>
        obtain ⟨k', y2, m⟩ := q
        by_cases h0 : k' = 0
        · subst h0
          rw [z_run_0 N tab nl c2 cl hnd hen] at h
          rw [z_run_0 N tab' nl c2 cl hnd hen']
          exact h
        · by_cases h1 : k' = 1
          · subst h1
            rw [z_run_1 N tab nl c2 cl hnd hen] at h
            rw [z_run_1 N tab' nl c2 cl hnd hen']
            exact h
          · by_cases h5 : k' = 5
            · subst h5
              rw [z_run_5 N tab nl c2 cl hnd hen] at h
              rw [z_run_5 N tab' nl c2 cl hnd hen']
              exact h
            · rw [z_run_c N tab nl c2 cl hnd ⟨h0, h1, h5⟩ hen] at h
              rw [z_run_c N tab' nl c2 cl hnd ⟨h0, h1, h5⟩ hen']
              unfold z_cb at h ⊢
              by_cases hc : z_okc N (cl y2) (nl y2) (c2 y2) k' m x.2.1 = true
              · rw [if_pos hc] at h ⊢
                cases hr : z_run N tab nl c2 cl hnd f y2 0 (z_ent (nl y2) (x.2.1.take m).reverse, [], x.2.2) with
                | none => rw [hr] at h; cases h
                | some q =>
                  rw [hr] at h
                  rw [ih _ _ _ _ hr]
                  obtain ⟨o, mem'⟩ := q
                  cases o with
                  | inl v =>
                    have h' : z_run N tab nl c2 cl hnd f y (ip + 1) (x.1, v.toList ++ x.2.1.drop m, mem') = some r := h
                    exact ih _ _ _ _ h'
                  | inr ex => exact h
              · rw [if_neg hc] at h; cases h
end RX2
section RX3
variable {N : Nat} {nl : Nat → Nat} {c2 : Nat → Nat → Bool} {cl : Nat → Nat} {hnd : Nat → Nat → Option Int32} {Ts : List Cond} {Z : (Nat → Nat) → State → Heap → Prop} {exn : Nat → String} {yn : Nat → MethodName} {bc : Nat → ByteArray} {rt : Nat → Option FieldType} {fr lo : Nat → Nat} {P P' : Nat → Nat → Nat} {tb : Nat → List (Nat × Nat × Nat × Nat)} {y ip : Nat} {en : Ent}
theorem z_SE_P (h : P y = P' y) (k : z_SE N nl c2 cl hnd Ts Z exn yn bc rt fr lo P tb y ip en) : z_SE N nl c2 cl hnd Ts Z exn yn bc rt fr lo P' tb y ip en := by
  unfold z_SE z_SR z_SV z_ST z_SC z_SH at k ⊢
  rw [← h]
  exact k
end RX3
section TX
variable {LL : Nat} {xs : Nat → Int32} {N : Nat}
theorem tabx_eq {y ip : Nat} (h : y ≠ 334) : tabx LL xs N y ip = ztab N y ip := by
  unfold tabx
  rw [show Nat.beq y 334 = false from Bool.eq_false_iff.mpr (fun e => h (Nat.eq_of_beq_eq_true e))]
  rfl
theorem Px_eq {y : Nat} (h : y ≠ 334) : zP y = Px y := by
  funext ip
  unfold Px
  rw [show Nat.beq y 334 = false from Bool.eq_false_iff.mpr (fun e => h (Nat.eq_of_beq_eq_true e))]
  rfl
theorem ztab_334 {ip : Nat} : ztab N 334 ip = none := rfl
theorem tabx_of (y ip : Nat) (e : Ent) (h : ztab N y ip = some e) : tabx LL xs N y ip = some e := by
  by_cases hy : y = 334
  · subst hy
    rw [ztab_334] at h
    cases h
  · rw [tabx_eq hy]
    exact h
def z_AllB (E : Nat → Ent → Prop) : Nat → List (List Ent) → Prop
  | _, [] => True
  | i, a :: as => z_AllE E (i + 1) a ∧ z_AllB E (i + 64) as
theorem z_bn {E : Nat → Ent → Prop} {i : Nat} : z_AllB E i [] := trivial
theorem z_bc {E : Nat → Ent → Prop} {i j : Nat} {a : List Ent} {as : List (List Ent)} (hj : i + 64 = j) (h : z_AllE E (i + 1) a) (k : z_AllB E j as) : z_AllB E i (a :: as) := by
  subst hj
  exact ⟨h, k⟩
theorem z_AllB_get {E : Nat → Ent → Prop} {L : List (List Ent)} {i q r : Nat} {e : Ent} (h : z_AllB E i L) (hj : (z_at [] L q)[r]? = some e) : E (i + 64 * q + r + 1) e := by
  induction L generalizing i q with
  | nil => cases hj
  | cons a L ih =>
    cases q with
    | zero =>
      have := z_AllE_get h.1 hj
      rwa [show i + 1 + r = i + 64 * 0 + r + 1 by omega] at this
    | succ q =>
      have := ih h.2 hj
      rwa [show i + 64 + 64 * q + r + 1 = i + 64 * (q + 1) + r + 1 by omega] at this
theorem tLaw_all : z_AllB (zX1 LL xs N) 0 (zLK LL xs N) :=
  z_bc (j := 64) rfl tLaw0 <|
  z_bc (j := 128) rfl tLaw1 <|
  z_bc (j := 192) rfl tLaw2 <|
  z_bc (j := 256) rfl tLaw3 <|
  z_bc (j := 320) rfl tLaw4 <|
  z_bc (j := 384) rfl tLaw5 <|
  z_bc (j := 448) rfl tLaw6 <|
  z_bc (j := 512) rfl tLaw7 <|
  z_bc (j := 576) rfl tLaw8 <|
  z_bc (j := 640) rfl tLaw9 <|
  z_bc (j := 704) rfl tLaw10 <|
  z_bc (j := 768) rfl tLaw11 <|
  z_bc (j := 832) rfl tLaw12 <|
  z_bc (j := 896) rfl tLaw13 <|
  z_bc (j := 960) rfl tLaw14 <|
  z_bc (j := 1024) rfl tLaw15 <|
  z_bc (j := 1088) rfl tLaw16 <|
  z_bc (j := 1152) rfl tLaw17 <|
  z_bc (j := 1216) rfl tLaw18 <|
  z_bc (j := 1280) rfl tLaw19 <|
  z_bc (j := 1344) rfl tLaw20 <|
  z_bc (j := 1408) rfl tLaw21 <|
  z_bc (j := 1472) rfl tLaw22 <|
  z_bc (j := 1536) rfl tLaw23 <|
  z_bc (j := 1600) rfl tLaw24 <|
  z_bc (j := 1664) rfl tLaw25 <|
  z_bc (j := 1728) rfl tLaw26 <|
  z_bc (j := 1792) rfl tLaw27 <|
  z_bc (j := 1856) rfl tLaw28 <|
  z_bc (j := 1920) rfl tLaw29 <|
  z_bc (j := 1984) rfl tLaw30 <|
  z_bc (j := 2048) rfl tLaw31 <|
  z_bc (j := 2112) rfl tLaw32 <| z_bn
theorem tabx_ok (y ip : Nat) (en : Ent) (h : tabx LL xs N y ip = some en) : z_SE N znl zc2 zcl zhnd zTs (zZ LL xs N) zexn zyn zbc zrt zfr zlo Px ztb y ip en := by
  by_cases hy : y = 334
  · subst hy
    cases ip with
    | zero => cases h
    | succ ip =>
      have h' : (z_at [] (zLK LL xs N) (ip / 64))[ip % 64]? = some en := h
      have q := z_AllB_get tLaw_all h'
      rwa [show 0 + 64 * (ip / 64) + ip % 64 + 1 = ip + 1 by omega] at q
  · rw [tabx_eq hy] at h
    exact z_SE_P (Px_eq hy) (zE_all y ip en h)
theorem tabx_0 (y : Nat) (en : Ent) (h : tabx LL xs N y 0 = some en) : Px y 0 = 0 ∧ plainName (zyn y).cls = true := by
  by_cases hy : y = 334
  · subst hy
    cases h
  · rw [tabx_eq hy] at h
    rw [← Px_eq hy]
    exact zE_0 y en h
/-- from a place in the law, with these locals, this stack and this memory, the run ends as said -/
def zX (LL : Nat) (xs : Nat → Int32) (N ip : Nat) (L st : List Value) (G F : GM) (n : Nat) (Q : Zq) : Prop :=
  zrM G → zrL F → ∃ (f : Nat) (o : Zo) (G' F' : GM) (n' : Nat), z_run N (tabx LL xs N) znl zc2 zcl zhnd f 334 ip (L, st, mM G F n) = some (o, mM G' F' n') ∧ zrM G' ∧ zrL F' ∧ Q o G' F' n'
variable {ip ip' : Nat} {L st L' st' : List Value} {G F G' F' : GM} {n n' : Nat} {Q : Zq}
theorem zX_s {g : Ico} (ht : tabx LL xs N 334 ip = some (.inl g)) (hg : g ip (L, st, mM G F n) = some (ip', L', st', mM G' F' n')) (hG : zrM G → zrM G') (hF : zrL F → zrL F') (k : zX LL xs N ip' L' st' G' F' n' Q) : zX LL xs N ip L st G F n Q := by
  intro h1 h2
  obtain ⟨f, o, G2, F2, n2, h3, h4⟩ := k (hG h1) (hF h2)
  exact ⟨f + 1, o, G2, F2, n2, (z_run_p N (tabx LL xs N) znl zc2 zcl zhnd ht hg).trans h3, h4⟩
theorem zX_rng (k : (∀ k j, zr (G k j)) → (∀ k j, zrl (F k j)) → zX LL xs N ip L st G F n Q) : zX LL xs N ip L st G F n Q := fun h1 h2 => k h1 h2 h1 h2
theorem zX_0b {m : Nat} {v : Int} (ht : tabx LL xs N 334 ip = some (.inr (0, 1, m))) (hv : v = 0 ∨ v = 1) (k : Q (.inl (some (.int (zi v)))) G F n) : zX LL xs N ip L [.int (zi v)] G F n Q := by
  intro h1 h2
  refine ⟨1, _, G, F, n, ?_, h1, h2, k⟩
  rw [z_run_0 N (tabx LL xs N) znl zc2 zcl zhnd ht]
  rcases hv with rfl | rfl
  · have : vp_nar .boolean (zi 0) = zi 0 := by decide +kernel
    show some ((Sum.inl (some (Value.int (vp_nar .boolean (zi 0)))), mM G F n) : Res) = _
    rw [this]
  · have : vp_nar .boolean (zi 1) = zi 1 := by decide +kernel
    show some ((Sum.inl (some (Value.int (vp_nar .boolean (zi 1)))), mM G F n) : Res) = _
    rw [this]
/-- a call, of what never throws here -/
theorem zX_c {k y2 m : Nat} {Q2 : Zq} {as : List Value} (ht : tabx LL xs N 334 ip = some (.inr (k, y2, m))) (hip : ip + 1 = ip') (hc : zC N y2 as G F n Q2) (hk : (Nat.ble 2 k && (k != 5)) = true) (ha : (st.take m).reverse = as) (hok : z_okc N (zcl y2) (znl y2) (zc2 y2) k m st = true)
    (hx : ∀ ex G' F' n', ¬ Q2 (.inr ex) G' F' n') (hv : ∀ v G' F' n', Q2 (.inl v) G' F' n' → zX LL xs N ip' L (v.toList ++ st.drop m) G' F' n' Q) : zX LL xs N ip L st G F n Q := by
  intro h1 h2
  subst hip
  subst ha
  have hk' : k ≠ 0 ∧ k ≠ 1 ∧ k ≠ 5 := by
    rw [Bool.and_eq_true, bne_iff_ne] at hk
    have := Nat.le_of_ble_eq_true hk.1
    exact ⟨by omega, by omega, hk.2⟩
  obtain ⟨f, o, G2, F2, n2, h3, h4, h5, h6⟩ := hc h1 h2
  have h3 := z_tm N (ztab N) (tabx LL xs N) znl zc2 zcl zhnd tabx_of _ _ _ _ _ h3
  cases o with
  | inl v =>
    obtain ⟨f', o', G3, F3, n3, g3, g4⟩ := hv v G2 F2 n2 h6 h4 h5
    refine ⟨f + f' + 1, o', G3, F3, n3, ?_, g4⟩
    rw [z_run_c N (tabx LL xs N) znl zc2 zcl zhnd hk' ht]
    unfold z_cb
    rw [if_pos hok]
    have e1 := z_fm N (tabx LL xs N) znl zc2 zcl zhnd f _ _ _ _ f' h3
    have e2 := z_fm N (tabx LL xs N) znl zc2 zcl zhnd f' _ _ _ _ f g3
    rw [Nat.add_comm f' f] at e2
    show (match z_run N (tabx LL xs N) znl zc2 zcl zhnd (f + f') y2 0 (z_ent (znl y2) (st.take m).reverse, [], mM G F n) with
      | none => none
      | some (.inl v, mem') => z_run N (tabx LL xs N) znl zc2 zcl zhnd (f + f') 334 (ip + 1) (L, v.toList ++ st.drop m, mem')
      | some (.inr ex, mem') => if k = 4 then none else (match zhnd 334 ex with
        | some z => some (.inl (some (.int z)), mem')
        | none => some (.inr ex, mem'))) = _
    rw [e1]
    exact e2
  | inr ex => exact absurd h6 (hx ex G2 F2 n2)
theorem zt_istoreK6 {a0 a1 a2 a3 a4 a6 : Value} {u v : Int32} (ht : tabx LL xs N 334 ip = some (.inl (i_istoreK 6))) (hip : ip + 1 = ip') (k : zX LL xs N ip' (a0 :: a1 :: a2 :: a3 :: a4 :: .int u :: .int v :: L) st G F n Q) : zX LL xs N ip (a0 :: a1 :: a2 :: a3 :: a4 :: .int u :: a6 :: L) (.int v :: st) G F n Q := zX_s ht (by subst hip; rfl) id id k
theorem zt_dstore5 {a0 a1 a2 a3 a4 a5 a6 : Value} {v : UInt64} (ht : tabx LL xs N 334 ip = some (.inl (i_dstore 5))) (hip : ip + 1 = ip') (k : zX LL xs N ip' (a0 :: a1 :: a2 :: a3 :: a4 :: .double v :: .null :: L) st G F n Q) : zX LL xs N ip (a0 :: a1 :: a2 :: a3 :: a4 :: a5 :: a6 :: L) (.double v :: st) G F n Q := zX_s ht (by subst hip; rfl) id id k
theorem zt_dstore7 {a0 a1 a2 a3 a4 a5 a6 a7 a8 : Value} {v : UInt64} (ht : tabx LL xs N 334 ip = some (.inl (i_dstore 7))) (hip : ip + 1 = ip') (k : zX LL xs N ip' (a0 :: a1 :: a2 :: a3 :: a4 :: a5 :: a6 :: .double v :: .null :: L) st G F n Q) : zX LL xs N ip (a0 :: a1 :: a2 :: a3 :: a4 :: a5 :: a6 :: a7 :: a8 :: L) (.double v :: st) G F n Q := zX_s ht (by subst hip; rfl) id id k
theorem zt_f2d {v : UInt32} (hn : FP.f2d v &&& 0x7fffffffffffffff ≤ 0x7ff0000000000000) (ht : tabx LL xs N 334 ip = some (.inl i_f2d)) (hip : ip + 1 = ip') (k : zX LL xs N ip' L (.double (FP.f2d v) :: st) G F n Q) : zX LL xs N ip L (.float v :: st) G F n Q := zX_s ht (by subst hip; show (if FP.f2d v &&& 0x7fffffffffffffff ≤ 0x7ff0000000000000 then _ else _) = _; rw [if_pos hn]) id id k
/-- a word of the script -/
theorem zt_sld {i : Int} (ht : tabx LL xs N 334 ip = some (.inl (i_sld LL xs))) (hip : ip + 1 = ip') (hi : 0 ≤ i ∧ i < LL ∧ i ≤ 2147483647) (k : zX LL xs N ip' L (.int (xs i.toNat) :: st) G F n Q) : zX LL xs N ip L (.int (zi i) :: .ref 310 :: st) G F n Q := by
  refine zX_s ht ?_ id id k
  subst hip
  show (if zi i < 0 ∨ LL ≤ (zi i).toNatClampNeg then none else some (ip + 1, L, Value.int (xs (zi i).toNatClampNeg) :: st, mM G F n)) = _
  rw [if_neg (zi_ix hi), zi_n ⟨by omega, hi.2.2⟩]
theorem zt_slen (ht : tabx LL xs N 334 ip = some (.inl (i_slen0 LL))) (hip : ip + 1 = ip') (k : zX LL xs N ip' L (.int (zi (LL : Int)) :: st) G F n Q) : zX LL xs N ip L (.ref 310 :: st) G F n Q := zX_s ht (by subst hip; rfl) id id k
theorem zt_tsw {lo0 hi0 : Int} {ts : List Nat} {d t : Nat} {a : Int} (ht : tabx LL xs N 334 ip = some (.inl (i_tsw lo0 hi0 ts d))) (ha : zr a) (h0 : lo0 ≤ a ∧ a ≤ hi0) (h1 : ts[(a - lo0).toNat]? = some t) (k : zX LL xs N t L st G F n Q) : zX LL xs N ip L (.int (zi a) :: st) G F n Q := by
  refine zX_s ht ?_ id id k
  show (if (zi a).toInt < lo0 ∨ hi0 < (zi a).toInt then some (d, L, st, mM G F n) else (match ts[((zi a).toInt - lo0).toNat]? with
    | some t => some (t, L, st, mM G F n)
    | none => none)) = _
  rw [zi_to ha, if_neg (by omega), h1]
theorem zt_push {v : Value} (ht : tabx LL xs N 334 ip = some (.inl (i_push v))) (hip : ip + 1 = ip')  (k : zX LL xs N ip' L (v :: st) G F n Q) : zX LL xs N ip L st G F n Q := zX_s ht (by subst hip; rfl) id id k
theorem zt_pushI {c : Int32} {v : Int} (ht : tabx LL xs N 334 ip = some (.inl (i_push (.int c)))) (hip : ip + 1 = ip') (hv : zi v = c) (k : zX LL xs N ip' L (.int (zi v) :: st) G F n Q) : zX LL xs N ip L st G F n Q := by
  subst hv
  exact zX_s ht (by subst hip; rfl) id id k
theorem zt_pushJ {c : Int64} {v : Int} (ht : tabx LL xs N 334 ip = some (.inl (i_push (.long c)))) (hip : ip + 1 = ip') (hv : zl v = c) (k : zX LL xs N ip' L (.long (zl v) :: st) G F n Q) : zX LL xs N ip L st G F n Q := by
  subst hv
  exact zX_s ht (by subst hip; rfl) id id k
theorem zt_iload {i : Nat} {v : Int32} (ht : tabx LL xs N 334 ip = some (.inl (i_iload i))) (hip : ip + 1 = ip') (hL : L[i]? = some (.int v)) (k : zX LL xs N ip' L (.int v :: st) G F n Q) : zX LL xs N ip L st G F n Q := zX_s ht (by subst hip; show (match L[i]? with | some (Value.int v) => some (ip + 1, L, Value.int v :: st, mM G F n) | _ => none) = _; rw [hL]) id id k
theorem zt_aload {i : Nat} {v : Nat} (ht : tabx LL xs N 334 ip = some (.inl (i_aload i))) (hip : ip + 1 = ip') (hL : L[i]? = some (.ref v)) (k : zX LL xs N ip' L (.ref v :: st) G F n Q) : zX LL xs N ip L st G F n Q := zX_s ht (by subst hip; show (match L[i]? with | some (Value.ref v) => some (ip + 1, L, Value.ref v :: st, mM G F n) | _ => none) = _; rw [hL]) id id k
theorem zt_dload {i : Nat} {v : UInt64} (ht : tabx LL xs N 334 ip = some (.inl (i_dload i))) (hip : ip + 1 = ip') (hL : L[i]? = some (.double v)) (k : zX LL xs N ip' L (.double v :: st) G F n Q) : zX LL xs N ip L st G F n Q := zX_s ht (by subst hip; show (match L[i]? with | some (Value.double v) => some (ip + 1, L, Value.double v :: st, mM G F n) | _ => none) = _; rw [hL]) id id k
theorem zt_istore5 {a0 a1 a2 a3 a4 a5 : Value} {v : Int32} (ht : tabx LL xs N 334 ip = some (.inl (i_istore 5))) (hip : ip + 1 = ip')  (k : zX LL xs N ip' (a0 :: a1 :: a2 :: a3 :: a4 :: .int v :: L) (st) G F n Q) : zX LL xs N ip (a0 :: a1 :: a2 :: a3 :: a4 :: a5 :: L) (.int v :: st) G F n Q := zX_s ht (by subst hip; rfl) id id k
theorem zt_iinc4 {a0 a1 a2 a3 : Value} {v d : Int} {c : Int32} (ht : tabx LL xs N 334 ip = some (.inl (i_iinc 4 c))) (hip : ip + 1 = ip') (hd : zi d = c) (k : zX LL xs N ip' (a0 :: a1 :: a2 :: a3 :: .int (zi (v + d)) :: L) (st) G F n Q) : zX LL xs N ip (a0 :: a1 :: a2 :: a3 :: .int (zi v) :: L) st G F n Q := by
  subst hd
  exact zX_s ht (by subst hip; rw [zi_add]; rfl) id id k
theorem zt_iadd {a b : Int} (ht : tabx LL xs N 334 ip = some (.inl (i_iadd))) (hip : ip + 1 = ip')  (k : zX LL xs N ip' L (.int (zi (a + b)) :: st) G F n Q) : zX LL xs N ip L (.int (zi b) :: .int (zi a) :: st) G F n Q := zX_s ht (by subst hip; rw [zi_add]; rfl) id id k
theorem zt_isub {a b : Int} (ht : tabx LL xs N 334 ip = some (.inl (i_isub))) (hip : ip + 1 = ip')  (k : zX LL xs N ip' L (.int (zi (a - b)) :: st) G F n Q) : zX LL xs N ip L (.int (zi b) :: .int (zi a) :: st) G F n Q := zX_s ht (by subst hip; rw [zi_sub]; rfl) id id k
theorem zt_iand {a b : Int} (ht : tabx LL xs N 334 ip = some (.inl (i_iand))) (hip : ip + 1 = ip')  (k : zX LL xs N ip' L (.int (zi (zand a b)) :: st) G F n Q) : zX LL xs N ip L (.int (zi b) :: .int (zi a) :: st) G F n Q := zX_s ht (by subst hip; unfold zand; rw [zi_of]; rfl) id id k
theorem zt_i2l {a : Int} (ht : tabx LL xs N 334 ip = some (.inl (i_i2l))) (hip : ip + 1 = ip') (ha : zr a) (k : zX LL xs N ip' L (.long (zl a) :: st) G F n Q) : zX LL xs N ip L (.int (zi a) :: st) G F n Q := zX_s ht (by subst hip; rw [← zi_i2l ha]; rfl) id id k
theorem zt_lcmp {a b : Int} (ht : tabx LL xs N 334 ip = some (.inl (i_lcmp))) (hip : ip + 1 = ip') (ha : zrl a) (hb : zrl b) (k : zX LL xs N ip' L (.int (zi (zcmp a b)) :: st) G F n Q) : zX LL xs N ip L (.long (zl b) :: .long (zl a) :: st) G F n Q := zX_s ht (by subst hip; rw [← zl_cmp ha hb]; rfl) id id k
theorem zt_lald {k0 len : Nat} {cs : List Nat} {i : Int} (ht : tabx LL xs N 334 ip = some (.inl (i_lald N))) (hip : ip + 1 = ip') (hN : k0 < N) (hs : z_sh k0 = (4, len, cs)) (hi : 0 ≤ i ∧ i < len ∧ i ≤ 2147483647) (k : -9223372036854775808 ≤ F k0 i → F k0 i ≤ 9223372036854775807 → zX LL xs N ip' L (.long (zl (F k0 i)) :: st) G F n Q) : zX LL xs N ip L (.int (zi i) :: .ref k0 :: st) G F n Q := by
  intro h1 h2
  refine zX_s ht ?_ id id (k (h2 k0 _).1 (h2 k0 _).2) h1 h2
  subst hip
  show (if k0 < N ∧ (z_sh k0).1 = 4 then (if zi i < 0 ∨ (z_sh k0).2.1 ≤ (zi i).toNatClampNeg then none else some (ip + 1, L, Value.long ((mM G F n).2.1 k0 (zi i).toNatClampNeg) :: st, mM G F n)) else none) = _
  rw [hs, if_pos ⟨hN, rfl⟩, if_neg (zi_ix hi), zi_n ⟨by omega, hi.2.2⟩]
  show some (ip + 1, L, Value.long (zl (F k0 ((i.toNat : Nat) : Int))) :: st, mM G F n) = _
  rw [Int.toNat_of_nonneg hi.1]
theorem zt_if_eq {t : Nat} {a : Int} (ht : tabx LL xs N 334 ip = some (.inl (i_if_eq t))) (hip : ip + 1 = ip') (ha : zr a) (k1 : a = 0 → zX LL xs N t L st G F n Q) (k2 : a ≠ 0 → zX LL xs N ip' L st G F n Q) : zX LL xs N ip L (.int (zi a) :: st) G F n Q := by
  subst hip
  by_cases h : a = 0
  · exact zX_s ht (by show (if zi a = 0 then _ else _) = _; rw [if_pos (by rw [zi_0]; exact (zi_eq ha zr0).mpr h)]) id id (k1 h)
  · exact zX_s ht (by show (if zi a = 0 then _ else _) = _; rw [if_neg (by rw [zi_0]; exact fun hh => h ((zi_eq ha zr0).mp hh))]) id id (k2 (by omega))
theorem zt_if_ne {t : Nat} {a : Int} (ht : tabx LL xs N 334 ip = some (.inl (i_if_ne t))) (hip : ip + 1 = ip') (ha : zr a) (k1 : a ≠ 0 → zX LL xs N t L st G F n Q) (k2 : a = 0 → zX LL xs N ip' L st G F n Q) : zX LL xs N ip L (.int (zi a) :: st) G F n Q := by
  subst hip
  by_cases h : a = 0
  · exact zX_s ht (by show (if zi a = 0 then _ else _) = _; rw [if_pos (by rw [zi_0]; exact (zi_eq ha zr0).mpr h)]) id id (k2 h)
  · exact zX_s ht (by show (if zi a = 0 then _ else _) = _; rw [if_neg (by rw [zi_0]; exact fun hh => h ((zi_eq ha zr0).mp hh))]) id id (k1 (by omega))
theorem zt_icmp_eq {t : Nat} {a b : Int} (ht : tabx LL xs N 334 ip = some (.inl (i_icmp_eq t))) (hip : ip + 1 = ip') (ha : zr a) (hb : zr b) (k1 : a = b → zX LL xs N t L st G F n Q) (k2 : a ≠ b → zX LL xs N ip' L st G F n Q) : zX LL xs N ip L (.int (zi b) :: .int (zi a) :: st) G F n Q := by
  subst hip
  by_cases h : a = b
  · exact zX_s ht (by show (if zi a = zi b then _ else _) = _; rw [if_pos (by exact (zi_eq ha hb).mpr h)]) id id (k1 h)
  · exact zX_s ht (by show (if zi a = zi b then _ else _) = _; rw [if_neg (by exact fun hh => h ((zi_eq ha hb).mp hh))]) id id (k2 (by omega))
theorem zt_icmp_gt {t : Nat} {a b : Int} (ht : tabx LL xs N 334 ip = some (.inl (i_icmp_gt t))) (hip : ip + 1 = ip') (ha : zr a) (hb : zr b) (k1 : b < a → zX LL xs N t L st G F n Q) (k2 : a ≤ b → zX LL xs N ip' L st G F n Q) : zX LL xs N ip L (.int (zi b) :: .int (zi a) :: st) G F n Q := by
  subst hip
  by_cases h : b < a
  · exact zX_s ht (by show (if zi b < zi a then _ else _) = _; rw [if_pos (by exact (zi_lt hb ha).mpr h)]) id id (k1 h)
  · exact zX_s ht (by show (if zi b < zi a then _ else _) = _; rw [if_neg (by exact fun hh => h ((zi_lt hb ha).mp hh))]) id id (k2 (by omega))
theorem zt_goto {t : Nat} (ht : tabx LL xs N 334 ip = some (.inl (i_goto t))) (k : zX LL xs N t L st G F n Q) : zX LL xs N ip L st G F n Q := zX_s ht rfl id id k
end TX
