/-! Rules by which a run of the abstract machine is followed, over a memory of integers (printed by wip/whole/gen20.py). -/
def zi (a : Int) : Int32 := Int32.ofInt a
def zl (a : Int) : Int64 := Int64.ofInt a
abbrev zr (a : Int) : Prop := -2147483648 ≤ a ∧ a ≤ 2147483647
abbrev zrl (a : Int) : Prop := -9223372036854775808 ≤ a ∧ a ≤ 9223372036854775807
theorem zi_to {a : Int} (h : zr a) : (zi a).toInt = a := by
  have h1 := h.1
  have h2 := h.2
  exact Int32.toInt_ofInt_of_le (by omega) (by omega)
theorem zl_to {a : Int} (h : zrl a) : (zl a).toInt = a := by
  have h1 := h.1
  have h2 := h.2
  exact Int64.toInt_ofInt_of_le (by omega) (by omega)
theorem zi_of (v : Int32) : zi v.toInt = v := Int32.ofInt_toInt v
theorem zl_of (v : Int64) : zl v.toInt = v := Int64.ofInt_toInt v
theorem zr_to (v : Int32) : zr v.toInt := by
  have h1 := v.le_toInt
  have h2 := v.toInt_lt
  exact ⟨by omega, by omega⟩
theorem zrl_to (v : Int64) : zrl v.toInt := by
  have h1 := v.le_toInt
  have h2 := v.toInt_lt
  exact ⟨by omega, by omega⟩
theorem zi_add (a b : Int) : zi (a + b) = zi a + zi b := Int32.ofInt_add a b
theorem zi_sub (a b : Int) : zi (a - b) = zi a - zi b := Int32.ofInt_sub a b
theorem zi_mul (a b : Int) : zi (a * b) = zi a * zi b := Int32.ofInt_mul a b
theorem zl_add (a b : Int) : zl (a + b) = zl a + zl b := Int64.ofInt_add a b
theorem zl_sub (a b : Int) : zl (a - b) = zl a - zl b := Int64.ofInt_sub a b
theorem zl_mul (a b : Int) : zl (a * b) = zl a * zl b := Int64.ofInt_mul a b
theorem zi_lt {a b : Int} (ha : zr a) (hb : zr b) : zi a < zi b ↔ a < b := by rw [Int32.lt_iff_toInt_lt, zi_to ha, zi_to hb]
theorem zi_le {a b : Int} (ha : zr a) (hb : zr b) : zi a ≤ zi b ↔ a ≤ b := by rw [Int32.le_iff_toInt_le, zi_to ha, zi_to hb]
theorem zi_eq {a b : Int} (ha : zr a) (hb : zr b) : zi a = zi b ↔ a = b := ⟨fun h => by rw [← zi_to ha, ← zi_to hb, h], fun h => by rw [h]⟩
theorem zl_lt {a b : Int} (ha : zrl a) (hb : zrl b) : zl a < zl b ↔ a < b := by rw [Int64.lt_iff_toInt_lt, zl_to ha, zl_to hb]
theorem zl_eq {a b : Int} (ha : zrl a) (hb : zrl b) : zl a = zl b ↔ a = b := ⟨fun h => by rw [← zl_to ha, ← zl_to hb, h], fun h => by rw [h]⟩
theorem zi_0 : (0 : Int32) = zi 0 := by decide +kernel
theorem zi_1 : (1 : Int32) = zi 1 := by decide +kernel
theorem zr0 : zr 0 := by decide
theorem zi_n {a : Int} (h : zr a) : (zi a).toNatClampNeg = a.toNat := by
  show (zi a).toInt.toNat = a.toNat
  rw [zi_to h]
theorem zi_div {a b : Int} (ha : 0 ≤ a ∧ a ≤ 2147483647) (hb : 0 < b ∧ b ≤ 2147483647) : zi a / zi b = zi (a / b) := by
  have ra : zr a := ⟨by omega, ha.2⟩
  have rb : zr b := ⟨by omega, hb.2⟩
  have h1 : 0 ≤ a / b := Int.ediv_nonneg ha.1 (by omega)
  have h2 : a / b ≤ a := Int.ediv_le_self _ ha.1
  have rc : zr (a / b) := ⟨by omega, by omega⟩
  apply Int32.toInt_inj.mp
  rw [Int32.toInt_div_of_ne_right _ _ ?_, zi_to ra, zi_to rb, zi_to rc, Int.tdiv_eq_ediv_of_nonneg ha.1]
  intro h
  have : (zi b).toInt = -1 := by rw [h]; decide +kernel
  rw [zi_to rb] at this
  omega
theorem zi_mod {a b : Int} (ha : 0 ≤ a ∧ a ≤ 2147483647) (hb : 0 < b ∧ b ≤ 2147483647) : zi a - zi a / zi b * zi b = zi (a % b) := by
  rw [zi_div ha hb, ← zi_mul, ← zi_sub]
  congr 1
  have := Int.emod_add_mul_ediv a b
  rw [Int.mul_comm (a / b) b]
  omega
def zshl (a b : Int) : Int := (zi a <<< (zi b &&& 31)).toInt
def zshr (a b : Int) : Int := (zi a >>> (zi b &&& 31)).toInt
def zushr (a b : Int) : Int := (((zi a).toUInt32 >>> ((zi b).toUInt32 &&& Int32.toUInt32 31)).toInt32).toInt
def zand (a b : Int) : Int := (zi a &&& zi b).toInt
def zor (a b : Int) : Int := (zi a ||| zi b).toInt
theorem zr_shl (a b : Int) : zr (zshl a b) := zr_to _
theorem zr_shr (a b : Int) : zr (zshr a b) := zr_to _
theorem zr_ushr (a b : Int) : zr (zushr a b) := zr_to _
theorem zr_and (a b : Int) : zr (zand a b) := zr_to _
theorem zr_or (a b : Int) : zr (zor a b) := zr_to _
abbrev GM : Type := Nat → Int → Int
def zrM (G : GM) : Prop := ∀ k j, zr (G k j)
def zrL (F : GM) : Prop := ∀ k j, zrl (F k j)
def mM (G F : GM) (n : Nat) : Mm := (fun k j => zi (G k (j : Int)), fun k j => zl (F k (j : Int)), n)
/-- a row with one place changed, a memory with one row changed -/
def zp (s : Int → Int) (j v : Int) : Int → Int := fun i => if i = j then v else s i
def zk (G : GM) (k : Nat) (s : Int → Int) : GM := fun a => if a = k then s else G a
theorem zp_eq (s : Int → Int) (j v : Int) : zp s j v j = v := if_pos rfl
theorem zp_ne {s : Int → Int} {j i v : Int} (h : i ≠ j) : zp s j v i = s i := if_neg h
theorem zp_zp (s : Int → Int) (j v w : Int) : zp (zp s j v) j w = zp s j w := by
  funext i
  unfold zp
  by_cases h : i = j
  · rw [if_pos h, if_pos h]
  · rw [if_neg h, if_neg h, if_neg h]
theorem zk_eq (G : GM) (k : Nat) (s : Int → Int) : zk G k s k = s := if_pos rfl
theorem zk_ne {G : GM} {k a : Nat} {s : Int → Int} (h : a ≠ k) : zk G k s a = G a := if_neg h
theorem zk_zk (G : GM) (k : Nat) (s t : Int → Int) : zk (zk G k s) k t = zk G k t := by
  funext a
  unfold zk
  by_cases h : a = k
  · rw [if_pos h, if_pos h]
  · rw [if_neg h, if_neg h, if_neg h]
theorem zk_self (G : GM) (k : Nat) : zk G k (G k) = G := by
  funext a
  unfold zk
  by_cases h : a = k
  · rw [if_pos h, h]
  · rw [if_neg h]
theorem zk_sw {G : GM} {k l : Nat} {s t : Int → Int} (h : k ≠ l) : zk (zk G k s) l t = zk (zk G l t) k s := by
  funext a
  unfold zk
  by_cases h1 : a = l
  · by_cases h2 : a = k
    · omega
    · rw [if_pos h1, if_neg h2, if_pos h1]
  · by_cases h2 : a = k
    · rw [if_neg h1, if_pos h2, if_pos h2]
    · rw [if_neg h1, if_neg h2, if_neg h2, if_neg h1]
theorem zp_sw {s : Int → Int} {i j v w : Int} (h : i ≠ j) : zp (zp s i v) j w = zp (zp s j w) i v := by
  funext a
  unfold zp
  by_cases h1 : a = j
  · by_cases h2 : a = i
    · omega
    · rw [if_pos h1, if_neg h2, if_pos h1]
  · by_cases h2 : a = i
    · rw [if_neg h1, if_pos h2, if_pos h2]
    · rw [if_neg h1, if_neg h2, if_neg h2, if_neg h1]
theorem zp_self (s : Int → Int) (j : Int) : zp s j (s j) = s := by
  funext a
  unfold zp
  by_cases h : a = j
  · rw [if_pos h, h]
  · rw [if_neg h]
theorem zrM_k {G : GM} {k : Nat} {j v : Int} (h : zrM G) (hv : zr v) : zrM (zk G k (zp (G k) j v)) := by
  intro a b
  unfold zk zp
  by_cases h1 : a = k
  · rw [if_pos h1]
    by_cases h2 : b = j
    · simp only [h2, if_true]; exact hv
    · simp only [h2, if_false]; exact h k b
  · rw [if_neg h1]; exact h a b
theorem zrL_k {G : GM} {k : Nat} {j v : Int} (h : zrL G) (hv : zrl v) : zrL (zk G k (zp (G k) j v)) := by
  intro a b
  unfold zk zp
  by_cases h1 : a = k
  · rw [if_pos h1]
    by_cases h2 : b = j
    · simp only [h2, if_true]; exact hv
    · simp only [h2, if_false]; exact h k b
  · rw [if_neg h1]; exact h a b
theorem mM_k (G F : GM) (n k : Nat) {i : Int} (v : Int) (hi : 0 ≤ i) : ((z_up (fun k j => zi (G k (j : Int))) k i.toNat (zi v), (fun k j => zl (F k (j : Int))), n) : Mm) = mM (zk G k (zp (G k) i v)) F n := by
  unfold mM
  congr 1
  funext a b
  unfold z_up zk zp
  by_cases h1 : a = k
  · rw [if_pos h1, if_pos h1]
    by_cases h2 : b = i.toNat
    · rw [if_pos h2, if_pos (by omega)]
    · rw [if_neg h2, if_neg (by omega)]
  · rw [if_neg h1, if_neg h1]
theorem mM_l (G F : GM) (n k : Nat) {i : Int} (v : Int) (hi : 0 ≤ i) : (((fun k j => zi (G k (j : Int))), z_up (fun k j => zl (F k (j : Int))) k i.toNat (zl v), n) : Mm) = mM G (zk F k (zp (F k) i v)) n := by
  unfold mM
  congr 2
  funext a b
  unfold z_up zk zp
  by_cases h1 : a = k
  · rw [if_pos h1, if_pos h1]
    by_cases h2 : b = i.toNat
    · rw [if_pos h2, if_pos (by omega)]
    · rw [if_neg h2, if_neg (by omega)]
  · rw [if_neg h1, if_neg h1]
/-- the first n places of a row, taken from another -/
def zcp (a b : Int → Int) (n : Int) : Int → Int := fun j => if j < n then a j else b j
theorem mM_c (G F : GM) (n k0 k1 len : Nat) : ((z_upf (fun k j => zi (G k (j : Int))) k1 (va_cpy (fun j => zi (G k0 (j : Int))) (fun j => zi (G k1 (j : Int))) 0 0 len), (fun k j => zl (F k (j : Int))), n) : Mm) = mM (zk G k1 (zcp (G k0) (G k1) len)) F n := by
  unfold mM
  congr 1
  funext a b
  unfold z_upf va_cpy zk zcp
  by_cases h1 : a = k1
  · rw [if_pos h1, if_pos h1]
    by_cases h2 : b < len
    · rw [if_pos ⟨Nat.zero_le _, by omega⟩, if_pos (by omega), Nat.zero_add, Nat.sub_zero]
    · rw [if_neg (by omega), if_neg (by omega)]
  · rw [if_neg h1, if_neg h1]
theorem zrM_c {G : GM} {k0 k1 len : Nat} (h : zrM G) : zrM (zk G k1 (zcp (G k0) (G k1) len)) := by
  intro a b
  unfold zk zcp
  by_cases h1 : a = k1
  · rw [if_pos h1]
    by_cases h2 : b < (len : Int)
    · simp only [h2, if_true]; exact h k0 b
    · simp only [h2, if_false]; exact h k1 b
  · rw [if_neg h1]; exact h a b
/-- a truth value -/
def zb (p : Prop) [Decidable p] : Int := if p then 1 else 0
theorem zb_t {p : Prop} [Decidable p] (h : p) : zb p = 1 := if_pos h
theorem zb_f {p : Prop} [Decidable p] (h : ¬ p) : zb p = 0 := if_neg h
theorem zb_01 (p : Prop) [Decidable p] : zb p = 0 ∨ zb p = 1 := by
  by_cases h : p
  · exact Or.inr (zb_t h)
  · exact Or.inl (zb_f h)
theorem zb_iff {p q : Prop} [Decidable p] [Decidable q] (h : p ↔ q) : zb p = zb q := by
  by_cases hp : p
  · rw [zb_t hp, zb_t (h.mp hp)]
  · rw [zb_f hp, zb_f (fun hq => hp (h.mpr hq))]
/-! one step of a run -/
section FM
variable (N : Nat) (tab : Nat → Nat → Option Ent) (nl : Nat → Nat) (c2 : Nat → Nat → Bool) (cl : Nat → Nat) (hnd : Nat → Nat → Option Int32)
theorem z_run_n {f y ip : Nat} {x : Sx} (ht : tab y ip = none) : z_run N tab nl c2 cl hnd (f + 1) y ip x = none := by
  unfold z_run
  rw [ht]
theorem z_run_q {f y ip : Nat} {x : Sx} {g : Ico} (ht : tab y ip = some (.inl g)) (hg : g ip x = none) : z_run N tab nl c2 cl hnd (f + 1) y ip x = none := by
  unfold z_run
  simp only [ht, hg]
theorem z_run_p {f y ip ip' : Nat} {x x' : Sx} {g : Ico} (ht : tab y ip = some (.inl g)) (hg : g ip x = some (ip', x')) : z_run N tab nl c2 cl hnd (f + 1) y ip x = z_run N tab nl c2 cl hnd f y ip' x' := by
  rw [z_run]
  simp only [ht, hg]
def z_r0 (k : Nat) (x : Sx) : Option Res := match x.2.1 with
  | [v] => match z_ret k v with
    | some w => some (.inl (some w), x.2.2)
    | none => none
  | _ => none
def z_r1 (x : Sx) : Option Res := match x.2.1 with
  | [] => some (.inl none, x.2.2)
  | _ => none
def z_r5 (k : Nat) (x : Sx) : Option Res := match x.2.1 with
  | [] => some (.inr k, (x.2.2.1, x.2.2.2.1, x.2.2.2.2 + 1))
  | _ => none
def z_cb (f k y2 n y ip : Nat) (x : Sx) : Option Res := if z_okc N (cl y2) (nl y2) (c2 y2) k n x.2.1 = true then (match z_run N tab nl c2 cl hnd f y2 0 (z_ent (nl y2) (x.2.1.take n).reverse, [], x.2.2) with
      | none => none
      | some (.inl v, mem') => z_run N tab nl c2 cl hnd f y (ip + 1) (x.1, v.toList ++ x.2.1.drop n, mem')
      | some (.inr ex, mem') => if k = 4 then none else (match hnd y ex with
        | some z => some (.inl (some (.int z)), mem')
        | none => some (.inr ex, mem'))) else none
theorem z_run_0 {f y ip k m : Nat} {x : Sx} (ht : tab y ip = some (.inr (0, k, m))) : z_run N tab nl c2 cl hnd (f + 1) y ip x = z_r0 k x := by
  rw [z_run, ht]
  rfl
theorem z_run_1 {f y ip k m : Nat} {x : Sx} (ht : tab y ip = some (.inr (1, k, m))) : z_run N tab nl c2 cl hnd (f + 1) y ip x = z_r1 x := by
  rw [z_run, ht]
  rfl
theorem z_run_5 {f y ip k m : Nat} {x : Sx} (ht : tab y ip = some (.inr (5, k, m))) : z_run N tab nl c2 cl hnd (f + 1) y ip x = z_r5 k x := by
  rw [z_run, ht]
  rfl
theorem z_run_c {f y ip k y2 m : Nat} {x : Sx} (hk : k ≠ 0 ∧ k ≠ 1 ∧ k ≠ 5) (ht : tab y ip = some (.inr (k, y2, m))) : z_run N tab nl c2 cl hnd (f + 1) y ip x = z_cb N tab nl c2 cl hnd f k y2 m y ip x := by
  rcases k with _ | _ | _ | _ | _ | _ | k
  · exact absurd rfl hk.1
  · exact absurd rfl hk.2.1
  · rw [z_run, ht]; rfl
  · rw [z_run, ht]; rfl
  · rw [z_run, ht]; rfl
  · exact absurd rfl hk.2.2
  · rw [z_run, ht]; rfl
/-- more fuel does no harm -/
theorem z_fm : ∀ (f y ip : Nat) (x : Sx) (r : Res) (k : Nat), z_run N tab nl c2 cl hnd f y ip x = some r → z_run N tab nl c2 cl hnd (f + k) y ip x = some r := by
  intro f
  induction f with
  | zero => intro y ip x r k h; cases h
  | succ f ih =>
    intro y ip x r k h
    rw [show f + 1 + k = (f + k) + 1 by omega]
    cases hen : tab y ip with
    | none => rw [z_run_n N tab nl c2 cl hnd hen] at h; cases h
    | some en =>
      cases en with
      | inl g =>
        cases hg : g ip x with
        | none => rw [z_run_q N tab nl c2 cl hnd hen hg] at h; cases h
        | some q =>
          obtain ⟨ip', x'⟩ := q
          rw [z_run_p N tab nl c2 cl hnd hen hg] at h ⊢
          exact ih _ _ _ _ _ h
      | inr q =>
        obtain ⟨k', y2, m⟩ := q
        by_cases h0 : k' = 0
        · subst h0
          rw [z_run_0 N tab nl c2 cl hnd hen] at h ⊢
          exact h
        · by_cases h1 : k' = 1
          · subst h1
            rw [z_run_1 N tab nl c2 cl hnd hen] at h ⊢
            exact h
          · by_cases h5 : k' = 5
            · subst h5
              rw [z_run_5 N tab nl c2 cl hnd hen] at h ⊢
              exact h
            · rw [z_run_c N tab nl c2 cl hnd ⟨h0, h1, h5⟩ hen] at h ⊢
              unfold z_cb at h ⊢
              by_cases hc : z_okc N (cl y2) (nl y2) (c2 y2) k' m x.2.1 = true
              · rw [if_pos hc] at h ⊢
                cases hr : z_run N tab nl c2 cl hnd f y2 0 (z_ent (nl y2) (x.2.1.take m).reverse, [], x.2.2) with
                | none => rw [hr] at h; cases h
                | some q =>
                  rw [hr] at h
                  rw [ih _ _ _ _ k hr]
                  obtain ⟨o, mem'⟩ := q
                  cases o with
                  | inl v =>
                    have h' : z_run N tab nl c2 cl hnd f y (ip + 1) (x.1, v.toList ++ x.2.1.drop m, mem') = some r := h
                    exact ih _ _ _ _ k h'
                  | inr ex => exact h
              · rw [if_neg hc] at h; cases h
end FM
abbrev Zo : Type := Option Value ⊕ Nat
abbrev Zq : Type := Zo → GM → GM → Nat → Prop
/-- from a place in a method, with these locals, this stack and this memory, the run ends as said -/
def zW (N y ip : Nat) (L st : List Value) (G F : GM) (n : Nat) (Q : Zq) : Prop :=
  zrM G → zrL F → ∃ (f : Nat) (o : Zo) (G' F' : GM) (n' : Nat), z_run N (ztab N) znl zc2 zcl zhnd f y ip (L, st, mM G F n) = some (o, mM G' F' n') ∧ zrM G' ∧ zrL F' ∧ Q o G' F' n'
def zC (N y : Nat) (args : List Value) (G F : GM) (n : Nat) (Q : Zq) : Prop := zW N y 0 (z_ent (znl y) args) [] G F n Q
/-- it returns this, and the memory is as it was -/
def zPu (N y : Nat) (args : List Value) (v : Int) (G F : GM) (n : Nat) : Prop := zC N y args G F n (fun o G' F' n' => o = .inl (some (.int (zi v))) ∧ G' = G ∧ F' = F ∧ n' = n)
/-- it returns an int, and then .. -/
def zR (Q : Int → GM → GM → Nat → Prop) : Zq := fun o G' F' n' => ∃ v, o = .inl (some (.int (zi v))) ∧ zr v ∧ Q v G' F' n'
/-- it returns nothing, and then .. -/
def zV (Q : GM → GM → Nat → Prop) : Zq := fun o G' F' n' => o = .inl none ∧ Q G' F' n'
/-- it throws, and nothing has changed but the count -/
def zT (k : Nat) (G F : GM) (n : Nat) : Zq := fun o G' F' n' => o = .inr k ∧ G' = G ∧ F' = F ∧ n' = n + 1
section ZW
variable {N y ip ip' : Nat} {L st L' st' : List Value} {G F G' F' : GM} {n n' : Nat} {Q : Zq}
theorem zW_w {Q' : Zq} (h : ∀ o G' F' n', Q o G' F' n' → Q' o G' F' n') (k : zW N y ip L st G F n Q) : zW N y ip L st G F n Q' := by
  intro h1 h2
  obtain ⟨f, o, G2, F2, n2, h3, h4, h5, h6⟩ := k h1 h2
  exact ⟨f, o, G2, F2, n2, h3, h4, h5, h _ _ _ _ h6⟩
theorem zW_rng (k : (∀ k j, zr (G k j)) → zW N y ip L st G F n Q) : zW N y ip L st G F n Q := fun h1 h2 => k h1 h1 h2
theorem zW_rngL (k : (∀ k j, zrl (F k j)) → zW N y ip L st G F n Q) : zW N y ip L st G F n Q := fun h1 h2 => k h2 h1 h2
theorem zW_s {g : Ico} (ht : ztab N y ip = some (.inl g)) (hg : g ip (L, st, mM G F n) = some (ip', L', st', mM G' F' n')) (hG : zrM G → zrM G') (hF : zrL F → zrL F') (k : zW N y ip' L' st' G' F' n' Q) : zW N y ip L st G F n Q := by
  intro h1 h2
  obtain ⟨f, o, G2, F2, n2, h3, h4⟩ := k (hG h1) (hF h2)
  exact ⟨f + 1, o, G2, F2, n2, (z_run_p N (ztab N) znl zc2 zcl zhnd ht hg).trans h3, h4⟩
theorem zC_i {args : List Value} {L0 : List Value} (h : z_ent (znl y) args = L0) (k : zW N y 0 L0 [] G F n Q) : zC N y args G F n Q := by
  unfold zC
  rw [h]
  exact k
theorem zPu_i {args : List Value} {v : Int} {L0 : List Value} (h : z_ent (znl y) args = L0) (k : zW N y 0 L0 [] G F n (fun o G' F' n' => o = .inl (some (.int (zi v))) ∧ G' = G ∧ F' = F ∧ n' = n)) : zPu N y args v G F n := zC_i h k
theorem zW_0 {m : Nat} {v : Int} (ht : ztab N y ip = some (.inr (0, 0, m))) (k : Q (.inl (some (.int (zi v)))) G F n) : zW N y ip L [.int (zi v)] G F n Q :=
  fun h1 h2 => ⟨1, _, G, F, n, by rw [z_run_0 N (ztab N) znl zc2 zcl zhnd ht]; rfl, h1, h2, k⟩
theorem zW_0b {m : Nat} {v : Int} (ht : ztab N y ip = some (.inr (0, 1, m))) (hv : v = 0 ∨ v = 1) (k : Q (.inl (some (.int (zi v)))) G F n) : zW N y ip L [.int (zi v)] G F n Q := by
  intro h1 h2
  refine ⟨1, _, G, F, n, ?_, h1, h2, k⟩
  rw [z_run_0 N (ztab N) znl zc2 zcl zhnd ht]
  rcases hv with rfl | rfl
  · have : vp_nar .boolean (zi 0) = zi 0 := by decide +kernel
    show some ((Sum.inl (some (Value.int (vp_nar .boolean (zi 0)))), mM G F n) : Res) = _
    rw [this]
  · have : vp_nar .boolean (zi 1) = zi 1 := by decide +kernel
    show some ((Sum.inl (some (Value.int (vp_nar .boolean (zi 1)))), mM G F n) : Res) = _
    rw [this]
theorem zi_byte {v : Int} (hv : -128 ≤ v ∧ v ≤ 127) : vp_nar .byte (zi v) = zi v := by
  have hb : (zi v).toInt8.toInt32 = zi v := by
    show ((Int32.ofInt v).toInt8).toInt32 = Int32.ofInt v
    rw [Int32.toInt8_ofInt, ← Int32.ofInt_int8ToInt, Int8.toInt_ofInt_of_le (by omega) (by omega)]
  exact hb
theorem zW_0y {m : Nat} {v : Int} (ht : ztab N y ip = some (.inr (0, 2, m))) (hv : -128 ≤ v ∧ v ≤ 127) (k : Q (.inl (some (.int (zi v)))) G F n) : zW N y ip L [.int (zi v)] G F n Q := by
  intro h1 h2
  refine ⟨1, _, G, F, n, ?_, h1, h2, k⟩
  rw [z_run_0 N (ztab N) znl zc2 zcl zhnd ht]
  show some ((Sum.inl (some (Value.int (vp_nar .byte (zi v)))), mM G F n) : Res) = _
  rw [zi_byte hv]
theorem zW_0f {m : Nat} {v : UInt32} (ht : ztab N y ip = some (.inr (0, 3, m))) (k : Q (.inl (some (.float v))) G F n) : zW N y ip L [.float v] G F n Q :=
  fun h1 h2 => ⟨1, _, G, F, n, by rw [z_run_0 N (ztab N) znl zc2 zcl zhnd ht]; rfl, h1, h2, k⟩
theorem zW_0d {m : Nat} {v : UInt64} (ht : ztab N y ip = some (.inr (0, 4, m))) (k : Q (.inl (some (.double v))) G F n) : zW N y ip L [.double v] G F n Q :=
  fun h1 h2 => ⟨1, _, G, F, n, by rw [z_run_0 N (ztab N) znl zc2 zcl zhnd ht]; rfl, h1, h2, k⟩
theorem zW_1 {k m : Nat} (ht : ztab N y ip = some (.inr (1, k, m))) (k : Q (.inl none) G F n) : zW N y ip L [] G F n Q :=
  fun h1 h2 => ⟨1, _, G, F, n, by rw [z_run_1 N (ztab N) znl zc2 zcl zhnd ht]; rfl, h1, h2, k⟩
theorem zW_5 {k m : Nat} (ht : ztab N y ip = some (.inr (5, k, m))) (k : Q (.inr k) G F (n + 1)) : zW N y ip L [] G F n Q :=
  fun h1 h2 => ⟨1, _, G, F, n + 1, by rw [z_run_5 N (ztab N) znl zc2 zcl zhnd ht]; rfl, h1, h2, k⟩
/-- a call -/
theorem zW_c {k y2 m : Nat} {Q2 : Zq} {as : List Value} (ht : ztab N y ip = some (.inr (k, y2, m))) (hip : ip + 1 = ip') (hc : zC N y2 as G F n Q2) (hk : (Nat.ble 2 k && (k != 5)) = true) (ha : (st.take m).reverse = as) (hok : z_okc N (zcl y2) (znl y2) (zc2 y2) k m st = true)
    (hv : ∀ v G' F' n', Q2 (.inl v) G' F' n' → zW N y ip' L (v.toList ++ st.drop m) G' F' n' Q) (hx : ∀ ex G' F' n', Q2 (.inr ex) G' F' n' → k ≠ 4 ∧ (∀ z, zhnd y ex = some z → Q (.inl (some (.int z))) G' F' n') ∧ (zhnd y ex = none → Q (.inr ex) G' F' n')) : zW N y ip L st G F n Q := by
  intro h1 h2
  subst hip
  subst ha
  have hk' : k ≠ 0 ∧ k ≠ 1 ∧ k ≠ 5 := by
    rw [Bool.and_eq_true, bne_iff_ne] at hk
    have := Nat.le_of_ble_eq_true hk.1
    exact ⟨by omega, by omega, hk.2⟩
  obtain ⟨f, o, G2, F2, n2, h3, h4, h5, h6⟩ := hc h1 h2
  cases o with
  | inl v =>
    obtain ⟨f', o', G3, F3, n3, g3, g4⟩ := hv v G2 F2 n2 h6 h4 h5
    refine ⟨f + f' + 1, o', G3, F3, n3, ?_, g4⟩
    rw [z_run_c N (ztab N) znl zc2 zcl zhnd hk' ht]
    unfold z_cb
    rw [if_pos hok]
    have e1 := z_fm N (ztab N) znl zc2 zcl zhnd f _ _ _ _ f' h3
    have e2 := z_fm N (ztab N) znl zc2 zcl zhnd f' _ _ _ _ f g3
    rw [Nat.add_comm f' f] at e2
    show (match z_run N (ztab N) znl zc2 zcl zhnd (f + f') y2 0 (z_ent (znl y2) (st.take m).reverse, [], mM G F n) with
      | none => none
      | some (.inl v, mem') => z_run N (ztab N) znl zc2 zcl zhnd (f + f') y (ip + 1) (L, v.toList ++ st.drop m, mem')
      | some (.inr ex, mem') => if k = 4 then none else (match zhnd y ex with
        | some z => some (.inl (some (.int z)), mem')
        | none => some (.inr ex, mem'))) = _
    rw [e1]
    exact e2
  | inr ex =>
    obtain ⟨x1, x2, x3⟩ := hx ex G2 F2 n2 h6
    cases hh : zhnd y ex with
    | some z =>
      refine ⟨f + 1, .inl (some (.int z)), G2, F2, n2, ?_, h4, h5, x2 z hh⟩
      rw [z_run_c N (ztab N) znl zc2 zcl zhnd hk' ht]
      unfold z_cb
      rw [if_pos hok]
      show (match z_run N (ztab N) znl zc2 zcl zhnd f y2 0 (z_ent (znl y2) (st.take m).reverse, [], mM G F n) with
        | none => none
        | some (.inl v, mem') => z_run N (ztab N) znl zc2 zcl zhnd f y (ip + 1) (L, v.toList ++ st.drop m, mem')
        | some (.inr ex, mem') => if k = 4 then none else (match zhnd y ex with
          | some z => some (.inl (some (.int z)), mem')
          | none => some (.inr ex, mem'))) = _
      rw [h3]
      show (if k = 4 then none else (match zhnd y ex with
          | some z => some ((Sum.inl (some (Value.int z)), mM G2 F2 n2) : Res)
          | none => some (.inr ex, mM G2 F2 n2))) = _
      rw [if_neg x1, hh]
    | none =>
      refine ⟨f + 1, .inr ex, G2, F2, n2, ?_, h4, h5, x3 hh⟩
      rw [z_run_c N (ztab N) znl zc2 zcl zhnd hk' ht]
      unfold z_cb
      rw [if_pos hok]
      show (match z_run N (ztab N) znl zc2 zcl zhnd f y2 0 (z_ent (znl y2) (st.take m).reverse, [], mM G F n) with
        | none => none
        | some (.inl v, mem') => z_run N (ztab N) znl zc2 zcl zhnd f y (ip + 1) (L, v.toList ++ st.drop m, mem')
        | some (.inr ex, mem') => if k = 4 then none else (match zhnd y ex with
          | some z => some (.inl (some (.int z)), mem')
          | none => some (.inr ex, mem'))) = _
      rw [h3]
      show (if k = 4 then none else (match zhnd y ex with
          | some z => some ((Sum.inl (some (Value.int z)), mM G2 F2 n2) : Res)
          | none => some (.inr ex, mM G2 F2 n2))) = _
      rw [if_neg x1, hh]
theorem z_ok3 {y2 m r ci : Nat} {cs : List Nat} {as : List Value} (hN : r < N) (hs : z_sh r = (0, ci, cs)) (hcl : zcl y2 = ci) (h4 : (Nat.ble m st.length && Nat.ble (st.drop m).length 4 && z_fit (znl y2) (zc2 y2) (st.take m).reverse) = true) (h5 : (st.take m).reverse = .ref r :: as) : z_okc N (zcl y2) (znl y2) (zc2 y2) 3 m st = true := by
  unfold z_okc
  rw [h4, h5, hcl]
  show (true && (Nat.blt r N && ((z_sh r).1 == 0) && ((z_sh r).2.1 == ci))) = true
  rw [hs]
  have : Nat.blt r N = true := Nat.ble_eq_true_of_le hN
  rw [this]
  show (true && (true && (0 == 0) && (ci == ci))) = true
  rw [beq_self_eq_true, beq_self_eq_true]
  rfl
/-- a call that only returns an int and leaves the memory -/
theorem zW_cP {k y2 m : Nat} {v : Int} {as : List Value} (ht : ztab N y ip = some (.inr (k, y2, m))) (hip : ip + 1 = ip') (hc : zPu N y2 as v G F n) (hk : (Nat.ble 2 k && (k != 5)) = true) (ha : (st.take m).reverse = as) (hok : z_okc N (zcl y2) (znl y2) (zc2 y2) k m st = true) (k' : zW N y ip' L (.int (zi v) :: st.drop m) G F n Q) : zW N y ip L st G F n Q := by
  refine zW_c ht hip hc hk ha hok ?_ ?_
  · rintro v G' F' n' ⟨h1, rfl, rfl, rfl⟩
    cases h1
    exact k'
  · rintro ex G' F' n' ⟨h1, -⟩
    cases h1
/-- a call that returns an int -/
theorem zW_cR {k y2 m : Nat} {Q2 : Int → GM → GM → Nat → Prop} {as : List Value} (ht : ztab N y ip = some (.inr (k, y2, m))) (hip : ip + 1 = ip') (hc : zC N y2 as G F n (zR Q2)) (hk : (Nat.ble 2 k && (k != 5)) = true) (ha : (st.take m).reverse = as) (hok : z_okc N (zcl y2) (znl y2) (zc2 y2) k m st = true) (k' : ∀ v G' F' n', zr v → Q2 v G' F' n' → zW N y ip' L (.int (zi v) :: st.drop m) G' F' n' Q) : zW N y ip L st G F n Q := by
  refine zW_c ht hip hc hk ha hok ?_ ?_
  · rintro v G' F' n' ⟨v', h1, h2, h3⟩
    cases h1
    exact k' v' G' F' n' h2 h3
  · rintro ex G' F' n' ⟨v', h1, -⟩
    cases h1
/-- a call that returns nothing -/
theorem zW_cV {k y2 m : Nat} {Q2 : GM → GM → Nat → Prop} {as : List Value} (ht : ztab N y ip = some (.inr (k, y2, m))) (hip : ip + 1 = ip') (hc : zC N y2 as G F n (zV Q2)) (hk : (Nat.ble 2 k && (k != 5)) = true) (ha : (st.take m).reverse = as) (hok : z_okc N (zcl y2) (znl y2) (zc2 y2) k m st = true) (k' : ∀ G' F' n', Q2 G' F' n' → zW N y ip' L (st.drop m) G' F' n' Q) : zW N y ip L st G F n Q := by
  refine zW_c ht hip hc hk ha hok ?_ ?_
  · rintro v G' F' n' ⟨h1, h3⟩
    cases h1
    exact k' G' F' n' h3
  · rintro ex G' F' n' ⟨h1, -⟩
    cases h1
theorem zs_pushI {c : Int32} {v : Int} (ht : ztab N y ip = some (.inl (i_push (.int c)))) (hip : ip + 1 = ip') (hv : zi v = c) (k : zW N y ip' L (.int (zi v) :: st) G F n Q) : zW N y ip L st G F n Q := by
  subst hv
  exact zW_s ht (by subst hip; rfl) id id k
theorem zs_pushJ {c : Int64} {v : Int} (ht : ztab N y ip = some (.inl (i_push (.long c)))) (hip : ip + 1 = ip') (hv : zl v = c) (k : zW N y ip' L (.long (zl v) :: st) G F n Q) : zW N y ip L st G F n Q := by
  subst hv
  exact zW_s ht (by subst hip; rfl) id id k
theorem zs_push {v : Value} (ht : ztab N y ip = some (.inl (i_push v))) (hip : ip + 1 = ip')  (k : zW N y ip' L (v :: st) G F n Q) : zW N y ip L st G F n Q := zW_s ht (by subst hip; rfl) id id k
theorem zs_iload {i : Nat} {v : Int32} (ht : ztab N y ip = some (.inl (i_iload i))) (hip : ip + 1 = ip') (hL : L[i]? = some (.int v)) (k : zW N y ip' L (.int v :: st) G F n Q) : zW N y ip L st G F n Q := zW_s ht (by subst hip; show (match L[i]? with | some (Value.int v) => some (ip + 1, L, Value.int v :: st, mM G F n) | _ => none) = _; rw [hL]) id id k
theorem zs_aload {i : Nat} {v : Nat} (ht : ztab N y ip = some (.inl (i_aload i))) (hip : ip + 1 = ip') (hL : L[i]? = some (.ref v)) (k : zW N y ip' L (.ref v :: st) G F n Q) : zW N y ip L st G F n Q := zW_s ht (by subst hip; show (match L[i]? with | some (Value.ref v) => some (ip + 1, L, Value.ref v :: st, mM G F n) | _ => none) = _; rw [hL]) id id k
theorem zs_lload {i : Nat} {v : Int64} (ht : ztab N y ip = some (.inl (i_lload i))) (hip : ip + 1 = ip') (hL : L[i]? = some (.long v)) (k : zW N y ip' L (.long v :: st) G F n Q) : zW N y ip L st G F n Q := zW_s ht (by subst hip; show (match L[i]? with | some (Value.long v) => some (ip + 1, L, Value.long v :: st, mM G F n) | _ => none) = _; rw [hL]) id id k
theorem zs_dload {i : Nat} {v : UInt64} (ht : ztab N y ip = some (.inl (i_dload i))) (hip : ip + 1 = ip') (hL : L[i]? = some (.double v)) (k : zW N y ip' L (.double v :: st) G F n Q) : zW N y ip L st G F n Q := zW_s ht (by subst hip; show (match L[i]? with | some (Value.double v) => some (ip + 1, L, Value.double v :: st, mM G F n) | _ => none) = _; rw [hL]) id id k
theorem zs_istore0 {a0 : Value} {v : Int32} (ht : ztab N y ip = some (.inl (i_istore 0))) (hip : ip + 1 = ip')  (k : zW N y ip' (.int v :: L) (st) G F n Q) : zW N y ip (a0 :: L) (.int v :: st) G F n Q := zW_s ht (by subst hip; rfl) id id k
theorem zs_astore0 {a0 : Value} {v : Nat} (ht : ztab N y ip = some (.inl (i_astore 0))) (hip : ip + 1 = ip')  (k : zW N y ip' (.ref v :: L) (st) G F n Q) : zW N y ip (a0 :: L) (.ref v :: st) G F n Q := zW_s ht (by subst hip; rfl) id id k
theorem zs_iinc0 {a0 : Value} {v d : Int} {c : Int32} (ht : ztab N y ip = some (.inl (i_iinc 0 c))) (hip : ip + 1 = ip') (hd : zi d = c) (k : zW N y ip' (.int (zi (v + d)) :: L) (st) G F n Q) : zW N y ip (.int (zi v) :: L) st G F n Q := by
  subst hd
  exact zW_s ht (by subst hip; rw [zi_add]; rfl) id id k
theorem zs_istore1 {a0 a1 : Value} {v : Int32} (ht : ztab N y ip = some (.inl (i_istore 1))) (hip : ip + 1 = ip')  (k : zW N y ip' (a0 :: .int v :: L) (st) G F n Q) : zW N y ip (a0 :: a1 :: L) (.int v :: st) G F n Q := zW_s ht (by subst hip; rfl) id id k
theorem zs_astore1 {a0 a1 : Value} {v : Nat} (ht : ztab N y ip = some (.inl (i_astore 1))) (hip : ip + 1 = ip')  (k : zW N y ip' (a0 :: .ref v :: L) (st) G F n Q) : zW N y ip (a0 :: a1 :: L) (.ref v :: st) G F n Q := zW_s ht (by subst hip; rfl) id id k
theorem zs_iinc1 {a0 : Value} {v d : Int} {c : Int32} (ht : ztab N y ip = some (.inl (i_iinc 1 c))) (hip : ip + 1 = ip') (hd : zi d = c) (k : zW N y ip' (a0 :: .int (zi (v + d)) :: L) (st) G F n Q) : zW N y ip (a0 :: .int (zi v) :: L) st G F n Q := by
  subst hd
  exact zW_s ht (by subst hip; rw [zi_add]; rfl) id id k
theorem zs_istore2 {a0 a1 a2 : Value} {v : Int32} (ht : ztab N y ip = some (.inl (i_istore 2))) (hip : ip + 1 = ip')  (k : zW N y ip' (a0 :: a1 :: .int v :: L) (st) G F n Q) : zW N y ip (a0 :: a1 :: a2 :: L) (.int v :: st) G F n Q := zW_s ht (by subst hip; rfl) id id k
theorem zs_astore2 {a0 a1 a2 : Value} {v : Nat} (ht : ztab N y ip = some (.inl (i_astore 2))) (hip : ip + 1 = ip')  (k : zW N y ip' (a0 :: a1 :: .ref v :: L) (st) G F n Q) : zW N y ip (a0 :: a1 :: a2 :: L) (.ref v :: st) G F n Q := zW_s ht (by subst hip; rfl) id id k
theorem zs_iinc2 {a0 a1 : Value} {v d : Int} {c : Int32} (ht : ztab N y ip = some (.inl (i_iinc 2 c))) (hip : ip + 1 = ip') (hd : zi d = c) (k : zW N y ip' (a0 :: a1 :: .int (zi (v + d)) :: L) (st) G F n Q) : zW N y ip (a0 :: a1 :: .int (zi v) :: L) st G F n Q := by
  subst hd
  exact zW_s ht (by subst hip; rw [zi_add]; rfl) id id k
theorem zs_istore3 {a0 a1 a2 a3 : Value} {v : Int32} (ht : ztab N y ip = some (.inl (i_istore 3))) (hip : ip + 1 = ip')  (k : zW N y ip' (a0 :: a1 :: a2 :: .int v :: L) (st) G F n Q) : zW N y ip (a0 :: a1 :: a2 :: a3 :: L) (.int v :: st) G F n Q := zW_s ht (by subst hip; rfl) id id k
theorem zs_astore3 {a0 a1 a2 a3 : Value} {v : Nat} (ht : ztab N y ip = some (.inl (i_astore 3))) (hip : ip + 1 = ip')  (k : zW N y ip' (a0 :: a1 :: a2 :: .ref v :: L) (st) G F n Q) : zW N y ip (a0 :: a1 :: a2 :: a3 :: L) (.ref v :: st) G F n Q := zW_s ht (by subst hip; rfl) id id k
theorem zs_iinc3 {a0 a1 a2 : Value} {v d : Int} {c : Int32} (ht : ztab N y ip = some (.inl (i_iinc 3 c))) (hip : ip + 1 = ip') (hd : zi d = c) (k : zW N y ip' (a0 :: a1 :: a2 :: .int (zi (v + d)) :: L) (st) G F n Q) : zW N y ip (a0 :: a1 :: a2 :: .int (zi v) :: L) st G F n Q := by
  subst hd
  exact zW_s ht (by subst hip; rw [zi_add]; rfl) id id k
theorem zs_istore4 {a0 a1 a2 a3 a4 : Value} {v : Int32} (ht : ztab N y ip = some (.inl (i_istore 4))) (hip : ip + 1 = ip')  (k : zW N y ip' (a0 :: a1 :: a2 :: a3 :: .int v :: L) (st) G F n Q) : zW N y ip (a0 :: a1 :: a2 :: a3 :: a4 :: L) (.int v :: st) G F n Q := zW_s ht (by subst hip; rfl) id id k
theorem zs_astore4 {a0 a1 a2 a3 a4 : Value} {v : Nat} (ht : ztab N y ip = some (.inl (i_astore 4))) (hip : ip + 1 = ip')  (k : zW N y ip' (a0 :: a1 :: a2 :: a3 :: .ref v :: L) (st) G F n Q) : zW N y ip (a0 :: a1 :: a2 :: a3 :: a4 :: L) (.ref v :: st) G F n Q := zW_s ht (by subst hip; rfl) id id k
theorem zs_iinc4 {a0 a1 a2 a3 : Value} {v d : Int} {c : Int32} (ht : ztab N y ip = some (.inl (i_iinc 4 c))) (hip : ip + 1 = ip') (hd : zi d = c) (k : zW N y ip' (a0 :: a1 :: a2 :: a3 :: .int (zi (v + d)) :: L) (st) G F n Q) : zW N y ip (a0 :: a1 :: a2 :: a3 :: .int (zi v) :: L) st G F n Q := by
  subst hd
  exact zW_s ht (by subst hip; rw [zi_add]; rfl) id id k
theorem zs_istore5 {a0 a1 a2 a3 a4 a5 : Value} {v : Int32} (ht : ztab N y ip = some (.inl (i_istore 5))) (hip : ip + 1 = ip')  (k : zW N y ip' (a0 :: a1 :: a2 :: a3 :: a4 :: .int v :: L) (st) G F n Q) : zW N y ip (a0 :: a1 :: a2 :: a3 :: a4 :: a5 :: L) (.int v :: st) G F n Q := zW_s ht (by subst hip; rfl) id id k
theorem zs_astore5 {a0 a1 a2 a3 a4 a5 : Value} {v : Nat} (ht : ztab N y ip = some (.inl (i_astore 5))) (hip : ip + 1 = ip')  (k : zW N y ip' (a0 :: a1 :: a2 :: a3 :: a4 :: .ref v :: L) (st) G F n Q) : zW N y ip (a0 :: a1 :: a2 :: a3 :: a4 :: a5 :: L) (.ref v :: st) G F n Q := zW_s ht (by subst hip; rfl) id id k
theorem zs_iinc5 {a0 a1 a2 a3 a4 : Value} {v d : Int} {c : Int32} (ht : ztab N y ip = some (.inl (i_iinc 5 c))) (hip : ip + 1 = ip') (hd : zi d = c) (k : zW N y ip' (a0 :: a1 :: a2 :: a3 :: a4 :: .int (zi (v + d)) :: L) (st) G F n Q) : zW N y ip (a0 :: a1 :: a2 :: a3 :: a4 :: .int (zi v) :: L) st G F n Q := by
  subst hd
  exact zW_s ht (by subst hip; rw [zi_add]; rfl) id id k
theorem zs_istore6 {a0 a1 a2 a3 a4 a5 a6 : Value} {v : Int32} (ht : ztab N y ip = some (.inl (i_istore 6))) (hip : ip + 1 = ip')  (k : zW N y ip' (a0 :: a1 :: a2 :: a3 :: a4 :: a5 :: .int v :: L) (st) G F n Q) : zW N y ip (a0 :: a1 :: a2 :: a3 :: a4 :: a5 :: a6 :: L) (.int v :: st) G F n Q := zW_s ht (by subst hip; rfl) id id k
theorem zs_astore6 {a0 a1 a2 a3 a4 a5 a6 : Value} {v : Nat} (ht : ztab N y ip = some (.inl (i_astore 6))) (hip : ip + 1 = ip')  (k : zW N y ip' (a0 :: a1 :: a2 :: a3 :: a4 :: a5 :: .ref v :: L) (st) G F n Q) : zW N y ip (a0 :: a1 :: a2 :: a3 :: a4 :: a5 :: a6 :: L) (.ref v :: st) G F n Q := zW_s ht (by subst hip; rfl) id id k
theorem zs_iinc6 {a0 a1 a2 a3 a4 a5 : Value} {v d : Int} {c : Int32} (ht : ztab N y ip = some (.inl (i_iinc 6 c))) (hip : ip + 1 = ip') (hd : zi d = c) (k : zW N y ip' (a0 :: a1 :: a2 :: a3 :: a4 :: a5 :: .int (zi (v + d)) :: L) (st) G F n Q) : zW N y ip (a0 :: a1 :: a2 :: a3 :: a4 :: a5 :: .int (zi v) :: L) st G F n Q := by
  subst hd
  exact zW_s ht (by subst hip; rw [zi_add]; rfl) id id k
theorem zs_istore7 {a0 a1 a2 a3 a4 a5 a6 a7 : Value} {v : Int32} (ht : ztab N y ip = some (.inl (i_istore 7))) (hip : ip + 1 = ip')  (k : zW N y ip' (a0 :: a1 :: a2 :: a3 :: a4 :: a5 :: a6 :: .int v :: L) (st) G F n Q) : zW N y ip (a0 :: a1 :: a2 :: a3 :: a4 :: a5 :: a6 :: a7 :: L) (.int v :: st) G F n Q := zW_s ht (by subst hip; rfl) id id k
theorem zs_astore7 {a0 a1 a2 a3 a4 a5 a6 a7 : Value} {v : Nat} (ht : ztab N y ip = some (.inl (i_astore 7))) (hip : ip + 1 = ip')  (k : zW N y ip' (a0 :: a1 :: a2 :: a3 :: a4 :: a5 :: a6 :: .ref v :: L) (st) G F n Q) : zW N y ip (a0 :: a1 :: a2 :: a3 :: a4 :: a5 :: a6 :: a7 :: L) (.ref v :: st) G F n Q := zW_s ht (by subst hip; rfl) id id k
theorem zs_iinc7 {a0 a1 a2 a3 a4 a5 a6 : Value} {v d : Int} {c : Int32} (ht : ztab N y ip = some (.inl (i_iinc 7 c))) (hip : ip + 1 = ip') (hd : zi d = c) (k : zW N y ip' (a0 :: a1 :: a2 :: a3 :: a4 :: a5 :: a6 :: .int (zi (v + d)) :: L) (st) G F n Q) : zW N y ip (a0 :: a1 :: a2 :: a3 :: a4 :: a5 :: a6 :: .int (zi v) :: L) st G F n Q := by
  subst hd
  exact zW_s ht (by subst hip; rw [zi_add]; rfl) id id k
theorem zs_istore8 {a0 a1 a2 a3 a4 a5 a6 a7 a8 : Value} {v : Int32} (ht : ztab N y ip = some (.inl (i_istore 8))) (hip : ip + 1 = ip')  (k : zW N y ip' (a0 :: a1 :: a2 :: a3 :: a4 :: a5 :: a6 :: a7 :: .int v :: L) (st) G F n Q) : zW N y ip (a0 :: a1 :: a2 :: a3 :: a4 :: a5 :: a6 :: a7 :: a8 :: L) (.int v :: st) G F n Q := zW_s ht (by subst hip; rfl) id id k
theorem zs_astore8 {a0 a1 a2 a3 a4 a5 a6 a7 a8 : Value} {v : Nat} (ht : ztab N y ip = some (.inl (i_astore 8))) (hip : ip + 1 = ip')  (k : zW N y ip' (a0 :: a1 :: a2 :: a3 :: a4 :: a5 :: a6 :: a7 :: .ref v :: L) (st) G F n Q) : zW N y ip (a0 :: a1 :: a2 :: a3 :: a4 :: a5 :: a6 :: a7 :: a8 :: L) (.ref v :: st) G F n Q := zW_s ht (by subst hip; rfl) id id k
theorem zs_iinc8 {a0 a1 a2 a3 a4 a5 a6 a7 : Value} {v d : Int} {c : Int32} (ht : ztab N y ip = some (.inl (i_iinc 8 c))) (hip : ip + 1 = ip') (hd : zi d = c) (k : zW N y ip' (a0 :: a1 :: a2 :: a3 :: a4 :: a5 :: a6 :: a7 :: .int (zi (v + d)) :: L) (st) G F n Q) : zW N y ip (a0 :: a1 :: a2 :: a3 :: a4 :: a5 :: a6 :: a7 :: .int (zi v) :: L) st G F n Q := by
  subst hd
  exact zW_s ht (by subst hip; rw [zi_add]; rfl) id id k
theorem zs_istore9 {a0 a1 a2 a3 a4 a5 a6 a7 a8 a9 : Value} {v : Int32} (ht : ztab N y ip = some (.inl (i_istore 9))) (hip : ip + 1 = ip')  (k : zW N y ip' (a0 :: a1 :: a2 :: a3 :: a4 :: a5 :: a6 :: a7 :: a8 :: .int v :: L) (st) G F n Q) : zW N y ip (a0 :: a1 :: a2 :: a3 :: a4 :: a5 :: a6 :: a7 :: a8 :: a9 :: L) (.int v :: st) G F n Q := zW_s ht (by subst hip; rfl) id id k
theorem zs_astore9 {a0 a1 a2 a3 a4 a5 a6 a7 a8 a9 : Value} {v : Nat} (ht : ztab N y ip = some (.inl (i_astore 9))) (hip : ip + 1 = ip')  (k : zW N y ip' (a0 :: a1 :: a2 :: a3 :: a4 :: a5 :: a6 :: a7 :: a8 :: .ref v :: L) (st) G F n Q) : zW N y ip (a0 :: a1 :: a2 :: a3 :: a4 :: a5 :: a6 :: a7 :: a8 :: a9 :: L) (.ref v :: st) G F n Q := zW_s ht (by subst hip; rfl) id id k
theorem zs_iinc9 {a0 a1 a2 a3 a4 a5 a6 a7 a8 : Value} {v d : Int} {c : Int32} (ht : ztab N y ip = some (.inl (i_iinc 9 c))) (hip : ip + 1 = ip') (hd : zi d = c) (k : zW N y ip' (a0 :: a1 :: a2 :: a3 :: a4 :: a5 :: a6 :: a7 :: a8 :: .int (zi (v + d)) :: L) (st) G F n Q) : zW N y ip (a0 :: a1 :: a2 :: a3 :: a4 :: a5 :: a6 :: a7 :: a8 :: .int (zi v) :: L) st G F n Q := by
  subst hd
  exact zW_s ht (by subst hip; rw [zi_add]; rfl) id id k
theorem zs_istore10 {a0 a1 a2 a3 a4 a5 a6 a7 a8 a9 a10 : Value} {v : Int32} (ht : ztab N y ip = some (.inl (i_istore 10))) (hip : ip + 1 = ip')  (k : zW N y ip' (a0 :: a1 :: a2 :: a3 :: a4 :: a5 :: a6 :: a7 :: a8 :: a9 :: .int v :: L) (st) G F n Q) : zW N y ip (a0 :: a1 :: a2 :: a3 :: a4 :: a5 :: a6 :: a7 :: a8 :: a9 :: a10 :: L) (.int v :: st) G F n Q := zW_s ht (by subst hip; rfl) id id k
theorem zs_astore10 {a0 a1 a2 a3 a4 a5 a6 a7 a8 a9 a10 : Value} {v : Nat} (ht : ztab N y ip = some (.inl (i_astore 10))) (hip : ip + 1 = ip')  (k : zW N y ip' (a0 :: a1 :: a2 :: a3 :: a4 :: a5 :: a6 :: a7 :: a8 :: a9 :: .ref v :: L) (st) G F n Q) : zW N y ip (a0 :: a1 :: a2 :: a3 :: a4 :: a5 :: a6 :: a7 :: a8 :: a9 :: a10 :: L) (.ref v :: st) G F n Q := zW_s ht (by subst hip; rfl) id id k
theorem zs_iinc10 {a0 a1 a2 a3 a4 a5 a6 a7 a8 a9 : Value} {v d : Int} {c : Int32} (ht : ztab N y ip = some (.inl (i_iinc 10 c))) (hip : ip + 1 = ip') (hd : zi d = c) (k : zW N y ip' (a0 :: a1 :: a2 :: a3 :: a4 :: a5 :: a6 :: a7 :: a8 :: a9 :: .int (zi (v + d)) :: L) (st) G F n Q) : zW N y ip (a0 :: a1 :: a2 :: a3 :: a4 :: a5 :: a6 :: a7 :: a8 :: a9 :: .int (zi v) :: L) st G F n Q := by
  subst hd
  exact zW_s ht (by subst hip; rw [zi_add]; rfl) id id k
theorem zs_istore11 {a0 a1 a2 a3 a4 a5 a6 a7 a8 a9 a10 a11 : Value} {v : Int32} (ht : ztab N y ip = some (.inl (i_istore 11))) (hip : ip + 1 = ip')  (k : zW N y ip' (a0 :: a1 :: a2 :: a3 :: a4 :: a5 :: a6 :: a7 :: a8 :: a9 :: a10 :: .int v :: L) (st) G F n Q) : zW N y ip (a0 :: a1 :: a2 :: a3 :: a4 :: a5 :: a6 :: a7 :: a8 :: a9 :: a10 :: a11 :: L) (.int v :: st) G F n Q := zW_s ht (by subst hip; rfl) id id k
theorem zs_astore11 {a0 a1 a2 a3 a4 a5 a6 a7 a8 a9 a10 a11 : Value} {v : Nat} (ht : ztab N y ip = some (.inl (i_astore 11))) (hip : ip + 1 = ip')  (k : zW N y ip' (a0 :: a1 :: a2 :: a3 :: a4 :: a5 :: a6 :: a7 :: a8 :: a9 :: a10 :: .ref v :: L) (st) G F n Q) : zW N y ip (a0 :: a1 :: a2 :: a3 :: a4 :: a5 :: a6 :: a7 :: a8 :: a9 :: a10 :: a11 :: L) (.ref v :: st) G F n Q := zW_s ht (by subst hip; rfl) id id k
theorem zs_iinc11 {a0 a1 a2 a3 a4 a5 a6 a7 a8 a9 a10 : Value} {v d : Int} {c : Int32} (ht : ztab N y ip = some (.inl (i_iinc 11 c))) (hip : ip + 1 = ip') (hd : zi d = c) (k : zW N y ip' (a0 :: a1 :: a2 :: a3 :: a4 :: a5 :: a6 :: a7 :: a8 :: a9 :: a10 :: .int (zi (v + d)) :: L) (st) G F n Q) : zW N y ip (a0 :: a1 :: a2 :: a3 :: a4 :: a5 :: a6 :: a7 :: a8 :: a9 :: a10 :: .int (zi v) :: L) st G F n Q := by
  subst hd
  exact zW_s ht (by subst hip; rw [zi_add]; rfl) id id k
theorem zs_istore12 {a0 a1 a2 a3 a4 a5 a6 a7 a8 a9 a10 a11 a12 : Value} {v : Int32} (ht : ztab N y ip = some (.inl (i_istore 12))) (hip : ip + 1 = ip')  (k : zW N y ip' (a0 :: a1 :: a2 :: a3 :: a4 :: a5 :: a6 :: a7 :: a8 :: a9 :: a10 :: a11 :: .int v :: L) (st) G F n Q) : zW N y ip (a0 :: a1 :: a2 :: a3 :: a4 :: a5 :: a6 :: a7 :: a8 :: a9 :: a10 :: a11 :: a12 :: L) (.int v :: st) G F n Q := zW_s ht (by subst hip; rfl) id id k
theorem zs_astore12 {a0 a1 a2 a3 a4 a5 a6 a7 a8 a9 a10 a11 a12 : Value} {v : Nat} (ht : ztab N y ip = some (.inl (i_astore 12))) (hip : ip + 1 = ip')  (k : zW N y ip' (a0 :: a1 :: a2 :: a3 :: a4 :: a5 :: a6 :: a7 :: a8 :: a9 :: a10 :: a11 :: .ref v :: L) (st) G F n Q) : zW N y ip (a0 :: a1 :: a2 :: a3 :: a4 :: a5 :: a6 :: a7 :: a8 :: a9 :: a10 :: a11 :: a12 :: L) (.ref v :: st) G F n Q := zW_s ht (by subst hip; rfl) id id k
theorem zs_iinc12 {a0 a1 a2 a3 a4 a5 a6 a7 a8 a9 a10 a11 : Value} {v d : Int} {c : Int32} (ht : ztab N y ip = some (.inl (i_iinc 12 c))) (hip : ip + 1 = ip') (hd : zi d = c) (k : zW N y ip' (a0 :: a1 :: a2 :: a3 :: a4 :: a5 :: a6 :: a7 :: a8 :: a9 :: a10 :: a11 :: .int (zi (v + d)) :: L) (st) G F n Q) : zW N y ip (a0 :: a1 :: a2 :: a3 :: a4 :: a5 :: a6 :: a7 :: a8 :: a9 :: a10 :: a11 :: .int (zi v) :: L) st G F n Q := by
  subst hd
  exact zW_s ht (by subst hip; rw [zi_add]; rfl) id id k
theorem zs_istore13 {a0 a1 a2 a3 a4 a5 a6 a7 a8 a9 a10 a11 a12 a13 : Value} {v : Int32} (ht : ztab N y ip = some (.inl (i_istore 13))) (hip : ip + 1 = ip')  (k : zW N y ip' (a0 :: a1 :: a2 :: a3 :: a4 :: a5 :: a6 :: a7 :: a8 :: a9 :: a10 :: a11 :: a12 :: .int v :: L) (st) G F n Q) : zW N y ip (a0 :: a1 :: a2 :: a3 :: a4 :: a5 :: a6 :: a7 :: a8 :: a9 :: a10 :: a11 :: a12 :: a13 :: L) (.int v :: st) G F n Q := zW_s ht (by subst hip; rfl) id id k
theorem zs_astore13 {a0 a1 a2 a3 a4 a5 a6 a7 a8 a9 a10 a11 a12 a13 : Value} {v : Nat} (ht : ztab N y ip = some (.inl (i_astore 13))) (hip : ip + 1 = ip')  (k : zW N y ip' (a0 :: a1 :: a2 :: a3 :: a4 :: a5 :: a6 :: a7 :: a8 :: a9 :: a10 :: a11 :: a12 :: .ref v :: L) (st) G F n Q) : zW N y ip (a0 :: a1 :: a2 :: a3 :: a4 :: a5 :: a6 :: a7 :: a8 :: a9 :: a10 :: a11 :: a12 :: a13 :: L) (.ref v :: st) G F n Q := zW_s ht (by subst hip; rfl) id id k
theorem zs_iinc13 {a0 a1 a2 a3 a4 a5 a6 a7 a8 a9 a10 a11 a12 : Value} {v d : Int} {c : Int32} (ht : ztab N y ip = some (.inl (i_iinc 13 c))) (hip : ip + 1 = ip') (hd : zi d = c) (k : zW N y ip' (a0 :: a1 :: a2 :: a3 :: a4 :: a5 :: a6 :: a7 :: a8 :: a9 :: a10 :: a11 :: a12 :: .int (zi (v + d)) :: L) (st) G F n Q) : zW N y ip (a0 :: a1 :: a2 :: a3 :: a4 :: a5 :: a6 :: a7 :: a8 :: a9 :: a10 :: a11 :: a12 :: .int (zi v) :: L) st G F n Q := by
  subst hd
  exact zW_s ht (by subst hip; rw [zi_add]; rfl) id id k
theorem zs_istore14 {a0 a1 a2 a3 a4 a5 a6 a7 a8 a9 a10 a11 a12 a13 a14 : Value} {v : Int32} (ht : ztab N y ip = some (.inl (i_istore 14))) (hip : ip + 1 = ip')  (k : zW N y ip' (a0 :: a1 :: a2 :: a3 :: a4 :: a5 :: a6 :: a7 :: a8 :: a9 :: a10 :: a11 :: a12 :: a13 :: .int v :: L) (st) G F n Q) : zW N y ip (a0 :: a1 :: a2 :: a3 :: a4 :: a5 :: a6 :: a7 :: a8 :: a9 :: a10 :: a11 :: a12 :: a13 :: a14 :: L) (.int v :: st) G F n Q := zW_s ht (by subst hip; rfl) id id k
theorem zs_astore14 {a0 a1 a2 a3 a4 a5 a6 a7 a8 a9 a10 a11 a12 a13 a14 : Value} {v : Nat} (ht : ztab N y ip = some (.inl (i_astore 14))) (hip : ip + 1 = ip')  (k : zW N y ip' (a0 :: a1 :: a2 :: a3 :: a4 :: a5 :: a6 :: a7 :: a8 :: a9 :: a10 :: a11 :: a12 :: a13 :: .ref v :: L) (st) G F n Q) : zW N y ip (a0 :: a1 :: a2 :: a3 :: a4 :: a5 :: a6 :: a7 :: a8 :: a9 :: a10 :: a11 :: a12 :: a13 :: a14 :: L) (.ref v :: st) G F n Q := zW_s ht (by subst hip; rfl) id id k
theorem zs_iinc14 {a0 a1 a2 a3 a4 a5 a6 a7 a8 a9 a10 a11 a12 a13 : Value} {v d : Int} {c : Int32} (ht : ztab N y ip = some (.inl (i_iinc 14 c))) (hip : ip + 1 = ip') (hd : zi d = c) (k : zW N y ip' (a0 :: a1 :: a2 :: a3 :: a4 :: a5 :: a6 :: a7 :: a8 :: a9 :: a10 :: a11 :: a12 :: a13 :: .int (zi (v + d)) :: L) (st) G F n Q) : zW N y ip (a0 :: a1 :: a2 :: a3 :: a4 :: a5 :: a6 :: a7 :: a8 :: a9 :: a10 :: a11 :: a12 :: a13 :: .int (zi v) :: L) st G F n Q := by
  subst hd
  exact zW_s ht (by subst hip; rw [zi_add]; rfl) id id k
theorem zs_istore15 {a0 a1 a2 a3 a4 a5 a6 a7 a8 a9 a10 a11 a12 a13 a14 a15 : Value} {v : Int32} (ht : ztab N y ip = some (.inl (i_istore 15))) (hip : ip + 1 = ip')  (k : zW N y ip' (a0 :: a1 :: a2 :: a3 :: a4 :: a5 :: a6 :: a7 :: a8 :: a9 :: a10 :: a11 :: a12 :: a13 :: a14 :: .int v :: L) (st) G F n Q) : zW N y ip (a0 :: a1 :: a2 :: a3 :: a4 :: a5 :: a6 :: a7 :: a8 :: a9 :: a10 :: a11 :: a12 :: a13 :: a14 :: a15 :: L) (.int v :: st) G F n Q := zW_s ht (by subst hip; rfl) id id k
theorem zs_astore15 {a0 a1 a2 a3 a4 a5 a6 a7 a8 a9 a10 a11 a12 a13 a14 a15 : Value} {v : Nat} (ht : ztab N y ip = some (.inl (i_astore 15))) (hip : ip + 1 = ip')  (k : zW N y ip' (a0 :: a1 :: a2 :: a3 :: a4 :: a5 :: a6 :: a7 :: a8 :: a9 :: a10 :: a11 :: a12 :: a13 :: a14 :: .ref v :: L) (st) G F n Q) : zW N y ip (a0 :: a1 :: a2 :: a3 :: a4 :: a5 :: a6 :: a7 :: a8 :: a9 :: a10 :: a11 :: a12 :: a13 :: a14 :: a15 :: L) (.ref v :: st) G F n Q := zW_s ht (by subst hip; rfl) id id k
theorem zs_iinc15 {a0 a1 a2 a3 a4 a5 a6 a7 a8 a9 a10 a11 a12 a13 a14 : Value} {v d : Int} {c : Int32} (ht : ztab N y ip = some (.inl (i_iinc 15 c))) (hip : ip + 1 = ip') (hd : zi d = c) (k : zW N y ip' (a0 :: a1 :: a2 :: a3 :: a4 :: a5 :: a6 :: a7 :: a8 :: a9 :: a10 :: a11 :: a12 :: a13 :: a14 :: .int (zi (v + d)) :: L) (st) G F n Q) : zW N y ip (a0 :: a1 :: a2 :: a3 :: a4 :: a5 :: a6 :: a7 :: a8 :: a9 :: a10 :: a11 :: a12 :: a13 :: a14 :: .int (zi v) :: L) st G F n Q := by
  subst hd
  exact zW_s ht (by subst hip; rw [zi_add]; rfl) id id k
theorem zs_dupI {v : Int32} (ht : ztab N y ip = some (.inl (i_dup))) (hip : ip + 1 = ip')  (k : zW N y ip' L (.int v :: .int v :: st) G F n Q) : zW N y ip L (.int v :: st) G F n Q := zW_s ht (by subst hip; rfl) id id k
theorem zs_dupR {v : Nat} (ht : ztab N y ip = some (.inl (i_dup))) (hip : ip + 1 = ip')  (k : zW N y ip' L (.ref v :: .ref v :: st) G F n Q) : zW N y ip L (.ref v :: st) G F n Q := zW_s ht (by subst hip; rfl) id id k
theorem zs_dup2 {v : Int32} {u : Nat} (ht : ztab N y ip = some (.inl (i_dup2))) (hip : ip + 1 = ip')  (k : zW N y ip' L (.int v :: .ref u :: .int v :: .ref u :: st) G F n Q) : zW N y ip L (.int v :: .ref u :: st) G F n Q := zW_s ht (by subst hip; rfl) id id k
theorem zs_pop {v : Int32} (ht : ztab N y ip = some (.inl (i_pop))) (hip : ip + 1 = ip')  (k : zW N y ip' L (st) G F n Q) : zW N y ip L (.int v :: st) G F n Q := zW_s ht (by subst hip; rfl) id id k
theorem zs_iadd {a b : Int} (ht : ztab N y ip = some (.inl (i_iadd))) (hip : ip + 1 = ip')  (k : zW N y ip' L (.int (zi (a + b)) :: st) G F n Q) : zW N y ip L (.int (zi b) :: .int (zi a) :: st) G F n Q := zW_s ht (by subst hip; rw [zi_add]; rfl) id id k
theorem zs_isub {a b : Int} (ht : ztab N y ip = some (.inl (i_isub))) (hip : ip + 1 = ip')  (k : zW N y ip' L (.int (zi (a - b)) :: st) G F n Q) : zW N y ip L (.int (zi b) :: .int (zi a) :: st) G F n Q := zW_s ht (by subst hip; rw [zi_sub]; rfl) id id k
theorem zs_imul {a b : Int} (ht : ztab N y ip = some (.inl (i_imul))) (hip : ip + 1 = ip')  (k : zW N y ip' L (.int (zi (a * b)) :: st) G F n Q) : zW N y ip L (.int (zi b) :: .int (zi a) :: st) G F n Q := zW_s ht (by subst hip; rw [zi_mul]; rfl) id id k
theorem zs_ladd {a b : Int} (ht : ztab N y ip = some (.inl (i_ladd))) (hip : ip + 1 = ip')  (k : zW N y ip' L (.long (zl (a + b)) :: st) G F n Q) : zW N y ip L (.long (zl b) :: .long (zl a) :: st) G F n Q := zW_s ht (by subst hip; rw [zl_add]; rfl) id id k
theorem zs_lsub {a b : Int} (ht : ztab N y ip = some (.inl (i_lsub))) (hip : ip + 1 = ip')  (k : zW N y ip' L (.long (zl (a - b)) :: st) G F n Q) : zW N y ip L (.long (zl b) :: .long (zl a) :: st) G F n Q := zW_s ht (by subst hip; rw [zl_sub]; rfl) id id k
theorem zs_lmul {a b : Int} (ht : ztab N y ip = some (.inl (i_lmul))) (hip : ip + 1 = ip')  (k : zW N y ip' L (.long (zl (a * b)) :: st) G F n Q) : zW N y ip L (.long (zl b) :: .long (zl a) :: st) G F n Q := zW_s ht (by subst hip; rw [zl_mul]; rfl) id id k
theorem zs_iand {a b : Int} (ht : ztab N y ip = some (.inl (i_iand))) (hip : ip + 1 = ip')  (k : zW N y ip' L (.int (zi (zand a b)) :: st) G F n Q) : zW N y ip L (.int (zi b) :: .int (zi a) :: st) G F n Q := zW_s ht (by subst hip; unfold zand; rw [zi_of]; rfl) id id k
theorem zs_ior {a b : Int} (ht : ztab N y ip = some (.inl (i_ior))) (hip : ip + 1 = ip')  (k : zW N y ip' L (.int (zi (zor a b)) :: st) G F n Q) : zW N y ip L (.int (zi b) :: .int (zi a) :: st) G F n Q := zW_s ht (by subst hip; unfold zor; rw [zi_of]; rfl) id id k
theorem zs_ishl {a b : Int} (ht : ztab N y ip = some (.inl (i_ishl))) (hip : ip + 1 = ip')  (k : zW N y ip' L (.int (zi (zshl a b)) :: st) G F n Q) : zW N y ip L (.int (zi b) :: .int (zi a) :: st) G F n Q := zW_s ht (by subst hip; unfold zshl; rw [zi_of]; rfl) id id k
theorem zs_ishr {a b : Int} (ht : ztab N y ip = some (.inl (i_ishr))) (hip : ip + 1 = ip')  (k : zW N y ip' L (.int (zi (zshr a b)) :: st) G F n Q) : zW N y ip L (.int (zi b) :: .int (zi a) :: st) G F n Q := zW_s ht (by subst hip; unfold zshr; rw [zi_of]; rfl) id id k
theorem zs_iushr {a b : Int} (ht : ztab N y ip = some (.inl (i_iushr))) (hip : ip + 1 = ip')  (k : zW N y ip' L (.int (zi (zushr a b)) :: st) G F n Q) : zW N y ip L (.int (zi b) :: .int (zi a) :: st) G F n Q := zW_s ht (by subst hip; unfold zushr; rw [zi_of]; rfl) id id k
theorem zs_idiv {a b : Int} (ht : ztab N y ip = some (.inl (i_idiv))) (hip : ip + 1 = ip') (ha : 0 ≤ a ∧ a ≤ 2147483647) (hb : 0 < b ∧ b ≤ 2147483647) (k : zW N y ip' L (.int (zi (a / b)) :: st) G F n Q) : zW N y ip L (.int (zi b) :: .int (zi a) :: st) G F n Q := zW_s ht (by subst hip; show (if zi b = 0 then none else some (ip + 1, L, Value.int (zi a / zi b) :: st, mM G F n)) = _; rw [if_neg (by intro h; have := (zi_eq ⟨by omega, hb.2⟩ zr0).mp (h.trans zi_0); omega), zi_div ha hb]) id id k
theorem zs_irem {a b : Int} (ht : ztab N y ip = some (.inl (i_irem))) (hip : ip + 1 = ip') (ha : 0 ≤ a ∧ a ≤ 2147483647) (hb : 0 < b ∧ b ≤ 2147483647) (k : zW N y ip' L (.int (zi (a % b)) :: st) G F n Q) : zW N y ip L (.int (zi b) :: .int (zi a) :: st) G F n Q := zW_s ht (by subst hip; show (if zi b = 0 then none else some (ip + 1, L, Value.int (zi a - zi a / zi b * zi b) :: st, mM G F n)) = _; rw [if_neg (by intro h; have := (zi_eq ⟨by omega, hb.2⟩ zr0).mp (h.trans zi_0); omega), zi_mod ha hb]) id id k
theorem zi_i2l {a : Int} (h : zr a) : (zi a).toInt64 = zl a := by
  apply Int64.toInt_inj.mp
  rw [Int32.toInt_toInt64, zi_to h, zl_to ⟨by omega, by omega⟩]
theorem zi_i2b (a : Int) : (zi a).toInt8.toInt32 = zi (a.bmod 256) := by
  show ((Int32.ofInt a).toInt8).toInt32 = Int32.ofInt (a.bmod 256)
  rw [Int32.toInt8_ofInt, ← Int32.ofInt_int8ToInt, Int8.toInt_ofInt]
def zcmp (a b : Int) : Int := if b < a then 1 else if a = b then 0 else -1
theorem zl_cmp {a b : Int} (ha : zrl a) (hb : zrl b) : lg_cmp (zl a) (zl b) = zi (zcmp a b) := by
  unfold lg_cmp zcmp
  by_cases h1 : b < a
  · rw [if_pos ((zl_lt hb ha).mpr h1), if_pos h1]
    exact zi_1
  · rw [if_neg (fun h => h1 ((zl_lt hb ha).mp h)), if_neg h1]
    by_cases h2 : a = b
    · rw [if_pos ((zl_eq ha hb).mpr h2), if_pos h2]
      exact zi_0
    · rw [if_neg (fun h => h2 ((zl_eq ha hb).mp h)), if_neg h2]
      decide +kernel
theorem zs_i2l {a : Int} (ht : ztab N y ip = some (.inl (i_i2l))) (hip : ip + 1 = ip') (ha : zr a) (k : zW N y ip' L (.long (zl a) :: st) G F n Q) : zW N y ip L (.int (zi a) :: st) G F n Q := zW_s ht (by subst hip; rw [← zi_i2l ha]; rfl) id id k
theorem zs_i2b {a : Int} (ht : ztab N y ip = some (.inl (i_i2b))) (hip : ip + 1 = ip')  (k : zW N y ip' L (.int (zi (a.bmod 256)) :: st) G F n Q) : zW N y ip L (.int (zi a) :: st) G F n Q := zW_s ht (by subst hip; rw [← zi_i2b]; rfl) id id k
theorem zs_lcmp {a b : Int} (ht : ztab N y ip = some (.inl (i_lcmp))) (hip : ip + 1 = ip') (ha : zrl a) (hb : zrl b) (k : zW N y ip' L (.int (zi (zcmp a b)) :: st) G F n Q) : zW N y ip L (.long (zl b) :: .long (zl a) :: st) G F n Q := zW_s ht (by subst hip; rw [← zl_cmp ha hb]; rfl) id id k
theorem zs_i2f {a : Int32} (ht : ztab N y ip = some (.inl (i_i2f))) (hip : ip + 1 = ip')  (k : zW N y ip' L (.float (FP.i2f a) :: st) G F n Q) : zW N y ip L (.int a :: st) G F n Q := zW_s ht (by subst hip; rfl) id id k
theorem zs_i2d {a : Int32} (ht : ztab N y ip = some (.inl (i_i2d))) (hip : ip + 1 = ip')  (k : zW N y ip' L (.double (FP.i2d a) :: st) G F n Q) : zW N y ip L (.int a :: st) G F n Q := zW_s ht (by subst hip; rfl) id id k
theorem zs_fdiv {a b : UInt32} (ht : ztab N y ip = some (.inl (i_fdiv))) (hip : ip + 1 = ip') (h : FP.fdiv a b &&& 0x7fffffff ≤ 0x7f800000) (k : zW N y ip' L (.float (FP.fdiv a b) :: st) G F n Q) : zW N y ip L (.float b :: .float a :: st) G F n Q := zW_s ht (by subst hip; show (if FP.fdiv a b &&& 0x7fffffff ≤ 0x7f800000 then _ else _) = _; rw [if_pos h]) id id k
theorem zs_ddiv {a b : UInt64} (ht : ztab N y ip = some (.inl (i_ddiv))) (hip : ip + 1 = ip') (h : FP.ddiv a b &&& 0x7fffffffffffffff ≤ 0x7ff0000000000000) (k : zW N y ip' L (.double (FP.ddiv a b) :: st) G F n Q) : zW N y ip L (.double b :: .double a :: st) G F n Q := zW_s ht (by subst hip; show (if FP.ddiv a b &&& 0x7fffffffffffffff ≤ 0x7ff0000000000000 then _ else _) = _; rw [if_pos h]) id id k
theorem zs_goto {t : Nat} (ht : ztab N y ip = some (.inl (i_goto t))) (k : zW N y t L st G F n Q) : zW N y ip L st G F n Q := zW_s ht rfl id id k
theorem zs_if_eq {t : Nat} {a : Int} (ht : ztab N y ip = some (.inl (i_if_eq t))) (hip : ip + 1 = ip') (ha : zr a) (k1 : a = 0 → zW N y t L st G F n Q) (k2 : a ≠ 0 → zW N y ip' L st G F n Q) : zW N y ip L (.int (zi a) :: st) G F n Q := by
  subst hip
  by_cases h : a = 0
  · exact zW_s ht (by show (if zi a = 0 then _ else _) = _; rw [if_pos (by rw [zi_0]; exact (zi_eq ha zr0).mpr h)]) id id (k1 h)
  · exact zW_s ht (by show (if zi a = 0 then _ else _) = _; rw [if_neg (by rw [zi_0]; exact fun hh => h ((zi_eq ha zr0).mp hh))]) id id (k2 (by omega))
theorem zs_icmp_eq {t : Nat} {a b : Int} (ht : ztab N y ip = some (.inl (i_icmp_eq t))) (hip : ip + 1 = ip') (ha : zr a) (hb : zr b) (k1 : a = b → zW N y t L st G F n Q) (k2 : a ≠ b → zW N y ip' L st G F n Q) : zW N y ip L (.int (zi b) :: .int (zi a) :: st) G F n Q := by
  subst hip
  by_cases h : a = b
  · exact zW_s ht (by show (if zi a = zi b then _ else _) = _; rw [if_pos (by exact (zi_eq ha hb).mpr h)]) id id (k1 h)
  · exact zW_s ht (by show (if zi a = zi b then _ else _) = _; rw [if_neg (by exact fun hh => h ((zi_eq ha hb).mp hh))]) id id (k2 (by omega))
theorem zs_if_ne {t : Nat} {a : Int} (ht : ztab N y ip = some (.inl (i_if_ne t))) (hip : ip + 1 = ip') (ha : zr a) (k1 : a ≠ 0 → zW N y t L st G F n Q) (k2 : a = 0 → zW N y ip' L st G F n Q) : zW N y ip L (.int (zi a) :: st) G F n Q := by
  subst hip
  by_cases h : a = 0
  · exact zW_s ht (by show (if zi a = 0 then _ else _) = _; rw [if_pos (by rw [zi_0]; exact (zi_eq ha zr0).mpr h)]) id id (k2 h)
  · exact zW_s ht (by show (if zi a = 0 then _ else _) = _; rw [if_neg (by rw [zi_0]; exact fun hh => h ((zi_eq ha zr0).mp hh))]) id id (k1 (by omega))
theorem zs_icmp_ne {t : Nat} {a b : Int} (ht : ztab N y ip = some (.inl (i_icmp_ne t))) (hip : ip + 1 = ip') (ha : zr a) (hb : zr b) (k1 : a ≠ b → zW N y t L st G F n Q) (k2 : a = b → zW N y ip' L st G F n Q) : zW N y ip L (.int (zi b) :: .int (zi a) :: st) G F n Q := by
  subst hip
  by_cases h : a = b
  · exact zW_s ht (by show (if zi a = zi b then _ else _) = _; rw [if_pos (by exact (zi_eq ha hb).mpr h)]) id id (k2 h)
  · exact zW_s ht (by show (if zi a = zi b then _ else _) = _; rw [if_neg (by exact fun hh => h ((zi_eq ha hb).mp hh))]) id id (k1 (by omega))
theorem zs_if_lt {t : Nat} {a : Int} (ht : ztab N y ip = some (.inl (i_if_lt t))) (hip : ip + 1 = ip') (ha : zr a) (k1 : a < 0 → zW N y t L st G F n Q) (k2 : 0 ≤ a → zW N y ip' L st G F n Q) : zW N y ip L (.int (zi a) :: st) G F n Q := by
  subst hip
  by_cases h : a < 0
  · exact zW_s ht (by show (if zi a < 0 then _ else _) = _; rw [if_pos (by rw [zi_0]; exact (zi_lt ha zr0).mpr h)]) id id (k1 h)
  · exact zW_s ht (by show (if zi a < 0 then _ else _) = _; rw [if_neg (by rw [zi_0]; exact fun hh => h ((zi_lt ha zr0).mp hh))]) id id (k2 (by omega))
theorem zs_icmp_lt {t : Nat} {a b : Int} (ht : ztab N y ip = some (.inl (i_icmp_lt t))) (hip : ip + 1 = ip') (ha : zr a) (hb : zr b) (k1 : a < b → zW N y t L st G F n Q) (k2 : b ≤ a → zW N y ip' L st G F n Q) : zW N y ip L (.int (zi b) :: .int (zi a) :: st) G F n Q := by
  subst hip
  by_cases h : a < b
  · exact zW_s ht (by show (if zi a < zi b then _ else _) = _; rw [if_pos (by exact (zi_lt ha hb).mpr h)]) id id (k1 h)
  · exact zW_s ht (by show (if zi a < zi b then _ else _) = _; rw [if_neg (by exact fun hh => h ((zi_lt ha hb).mp hh))]) id id (k2 (by omega))
theorem zs_if_ge {t : Nat} {a : Int} (ht : ztab N y ip = some (.inl (i_if_ge t))) (hip : ip + 1 = ip') (ha : zr a) (k1 : 0 ≤ a → zW N y t L st G F n Q) (k2 : a < 0 → zW N y ip' L st G F n Q) : zW N y ip L (.int (zi a) :: st) G F n Q := by
  subst hip
  by_cases h : 0 ≤ a
  · exact zW_s ht (by show (if 0 ≤ zi a then _ else _) = _; rw [if_pos (by rw [zi_0]; exact (zi_le zr0 ha).mpr h)]) id id (k1 h)
  · exact zW_s ht (by show (if 0 ≤ zi a then _ else _) = _; rw [if_neg (by rw [zi_0]; exact fun hh => h ((zi_le zr0 ha).mp hh))]) id id (k2 (by omega))
theorem zs_icmp_ge {t : Nat} {a b : Int} (ht : ztab N y ip = some (.inl (i_icmp_ge t))) (hip : ip + 1 = ip') (ha : zr a) (hb : zr b) (k1 : b ≤ a → zW N y t L st G F n Q) (k2 : a < b → zW N y ip' L st G F n Q) : zW N y ip L (.int (zi b) :: .int (zi a) :: st) G F n Q := by
  subst hip
  by_cases h : b ≤ a
  · exact zW_s ht (by show (if zi b ≤ zi a then _ else _) = _; rw [if_pos (by exact (zi_le hb ha).mpr h)]) id id (k1 h)
  · exact zW_s ht (by show (if zi b ≤ zi a then _ else _) = _; rw [if_neg (by exact fun hh => h ((zi_le hb ha).mp hh))]) id id (k2 (by omega))
theorem zs_if_gt {t : Nat} {a : Int} (ht : ztab N y ip = some (.inl (i_if_gt t))) (hip : ip + 1 = ip') (ha : zr a) (k1 : 0 < a → zW N y t L st G F n Q) (k2 : a ≤ 0 → zW N y ip' L st G F n Q) : zW N y ip L (.int (zi a) :: st) G F n Q := by
  subst hip
  by_cases h : 0 < a
  · exact zW_s ht (by show (if 0 < zi a then _ else _) = _; rw [if_pos (by rw [zi_0]; exact (zi_lt zr0 ha).mpr h)]) id id (k1 h)
  · exact zW_s ht (by show (if 0 < zi a then _ else _) = _; rw [if_neg (by rw [zi_0]; exact fun hh => h ((zi_lt zr0 ha).mp hh))]) id id (k2 (by omega))
theorem zs_icmp_gt {t : Nat} {a b : Int} (ht : ztab N y ip = some (.inl (i_icmp_gt t))) (hip : ip + 1 = ip') (ha : zr a) (hb : zr b) (k1 : b < a → zW N y t L st G F n Q) (k2 : a ≤ b → zW N y ip' L st G F n Q) : zW N y ip L (.int (zi b) :: .int (zi a) :: st) G F n Q := by
  subst hip
  by_cases h : b < a
  · exact zW_s ht (by show (if zi b < zi a then _ else _) = _; rw [if_pos (by exact (zi_lt hb ha).mpr h)]) id id (k1 h)
  · exact zW_s ht (by show (if zi b < zi a then _ else _) = _; rw [if_neg (by exact fun hh => h ((zi_lt hb ha).mp hh))]) id id (k2 (by omega))
theorem zs_if_le {t : Nat} {a : Int} (ht : ztab N y ip = some (.inl (i_if_le t))) (hip : ip + 1 = ip') (ha : zr a) (k1 : a ≤ 0 → zW N y t L st G F n Q) (k2 : 0 < a → zW N y ip' L st G F n Q) : zW N y ip L (.int (zi a) :: st) G F n Q := by
  subst hip
  by_cases h : a ≤ 0
  · exact zW_s ht (by show (if zi a ≤ 0 then _ else _) = _; rw [if_pos (by rw [zi_0]; exact (zi_le ha zr0).mpr h)]) id id (k1 h)
  · exact zW_s ht (by show (if zi a ≤ 0 then _ else _) = _; rw [if_neg (by rw [zi_0]; exact fun hh => h ((zi_le ha zr0).mp hh))]) id id (k2 (by omega))
theorem zs_icmp_le {t : Nat} {a b : Int} (ht : ztab N y ip = some (.inl (i_icmp_le t))) (hip : ip + 1 = ip') (ha : zr a) (hb : zr b) (k1 : a ≤ b → zW N y t L st G F n Q) (k2 : b < a → zW N y ip' L st G F n Q) : zW N y ip L (.int (zi b) :: .int (zi a) :: st) G F n Q := by
  subst hip
  by_cases h : a ≤ b
  · exact zW_s ht (by show (if zi a ≤ zi b then _ else _) = _; rw [if_pos (by exact (zi_le ha hb).mpr h)]) id id (k1 h)
  · exact zW_s ht (by show (if zi a ≤ zi b then _ else _) = _; rw [if_neg (by exact fun hh => h ((zi_le ha hb).mp hh))]) id id (k2 (by omega))
theorem zfin {a v : Int} {G F : GM} {n : Nat} (h : a = v) : (Sum.inl (some (Value.int (zi a))) : Zo) = .inl (some (.int (zi v))) ∧ G = G ∧ F = F ∧ n = n := by
  subst h
  exact ⟨rfl, rfl, rfl, rfl⟩
theorem zs_if_eqB {t : Nat} {p : Prop} [Decidable p] (ht : ztab N y ip = some (.inl (i_if_eq t))) (hip : ip + 1 = ip') (k1 : ¬ p → zW N y t L st G F n Q) (k2 : p → zW N y ip' L st G F n Q) : zW N y ip L (.int (zi (zb p)) :: st) G F n Q := by
  by_cases h : p
  · rw [zb_t h]
    exact zs_if_eq ht hip ⟨by omega, by omega⟩ (fun h => absurd h (by omega)) (fun _ => k2 h)
  · rw [zb_f h]
    exact zs_if_eq ht hip zr0 (fun _ => k1 h) (fun h => absurd rfl h)
theorem zs_if_neB {t : Nat} {p : Prop} [Decidable p] (ht : ztab N y ip = some (.inl (i_if_ne t))) (hip : ip + 1 = ip') (k1 : p → zW N y t L st G F n Q) (k2 : ¬ p → zW N y ip' L st G F n Q) : zW N y ip L (.int (zi (zb p)) :: st) G F n Q := by
  by_cases h : p
  · rw [zb_t h]
    exact zs_if_ne ht hip ⟨by omega, by omega⟩ (fun _ => k1 h) (fun h => absurd h (by omega))
  · rw [zb_f h]
    exact zs_if_ne ht hip zr0 (fun h => absurd rfl h) (fun _ => k2 h)
theorem zs_getI {k0 ci j : Nat} {q : Int} {cs : List Nat} (ht : ztab N y ip = some (.inl (i_getf N ci j))) (hip : ip + 1 = ip') (hN : k0 < N) (hs : z_sh k0 = (0, ci, cs)) (hj : cs[j]? = some 0) (hq : ((j : Nat) : Int) = q) (k : -2147483648 ≤ G k0 q → G k0 q ≤ 2147483647 → zW N y ip' L (.int (zi (G k0 q)) :: st) G F n Q) : zW N y ip L (.ref k0 :: st) G F n Q := by
  intro h1 h2
  subst hq
  refine zW_s ht ?_ id id (k (h1 k0 _).1 (h1 k0 _).2) h1 h2
  subst hip
  show (if k0 < N ∧ (z_sh k0).1 = 0 ∧ (z_sh k0).2.1 = ci then (match (z_sh k0).2.2[j]? with
    | some c => some (ip + 1, L, z_fv k0 (mM G F n) c j :: st, mM G F n)
    | none => none) else none) = _
  rw [hs, if_pos ⟨hN, rfl, rfl⟩]
  show (match cs[j]? with
    | some c => some (ip + 1, L, z_fv k0 (mM G F n) c j :: st, mM G F n)
    | none => none) = _
  rw [hj]
  rfl
theorem zs_getJ {k0 ci j : Nat} {q : Int} {cs : List Nat} (ht : ztab N y ip = some (.inl (i_getf N ci j))) (hip : ip + 1 = ip') (hN : k0 < N) (hs : z_sh k0 = (0, ci, cs)) (hj : cs[j]? = some 1) (hq : ((j : Nat) : Int) = q) (k : -9223372036854775808 ≤ F k0 q → F k0 q ≤ 9223372036854775807 → zW N y ip' L (.long (zl (F k0 q)) :: st) G F n Q) : zW N y ip L (.ref k0 :: st) G F n Q := by
  intro h1 h2
  subst hq
  refine zW_s ht ?_ id id (k (h2 k0 _).1 (h2 k0 _).2) h1 h2
  subst hip
  show (if k0 < N ∧ (z_sh k0).1 = 0 ∧ (z_sh k0).2.1 = ci then (match (z_sh k0).2.2[j]? with
    | some c => some (ip + 1, L, z_fv k0 (mM G F n) c j :: st, mM G F n)
    | none => none) else none) = _
  rw [hs, if_pos ⟨hN, rfl, rfl⟩]
  show (match cs[j]? with
    | some c => some (ip + 1, L, z_fv k0 (mM G F n) c j :: st, mM G F n)
    | none => none) = _
  rw [hj]
  rfl
theorem zs_getR {k0 ci j r : Nat} {cs : List Nat} (ht : ztab N y ip = some (.inl (i_getf N ci j))) (hip : ip + 1 = ip') (hN : k0 < N) (hs : z_sh k0 = (0, ci, cs)) (hj : cs[j]? = some (r + 2)) (k : zW N y ip' L (.ref r :: st) G F n Q) : zW N y ip L (.ref k0 :: st) G F n Q := by
  refine zW_s ht ?_ id id k
  subst hip
  show (if k0 < N ∧ (z_sh k0).1 = 0 ∧ (z_sh k0).2.1 = ci then (match (z_sh k0).2.2[j]? with
    | some c => some (ip + 1, L, z_fv k0 (mM G F n) c j :: st, mM G F n)
    | none => none) else none) = _
  rw [hs, if_pos ⟨hN, rfl, rfl⟩]
  show (match cs[j]? with
    | some c => some (ip + 1, L, z_fv k0 (mM G F n) c j :: st, mM G F n)
    | none => none) = _
  rw [hj]
  rfl
theorem zs_putI {k0 ci j : Nat} {q : Int} {cs : List Nat} {v : Int} (ht : ztab N y ip = some (.inl (i_putI N ci j))) (hip : ip + 1 = ip') (hN : k0 < N) (hs : z_sh k0 = (0, ci, cs)) (hj : cs[j]? = some 0) (hq : ((j : Nat) : Int) = q) (hv : zr v) (k : zW N y ip' L st (zk G k0 (zp (G k0) q v)) F n Q) : zW N y ip L (.int (zi v) :: .ref k0 :: st) G F n Q := by
  refine zW_s ht ?_ (fun h => zrM_k h hv) id k
  subst hip
  show (if k0 < N ∧ (z_sh k0).1 = 0 ∧ (z_sh k0).2.1 = ci ∧ (z_sh k0).2.2[j]? = some 0 then some (ip + 1, L, st, (z_up (mM G F n).1 k0 j (zi v), (mM G F n).2.1, (mM G F n).2.2)) else none) = _
  rw [hs, if_pos ⟨hN, rfl, rfl, hj⟩]
  subst hq
  rw [← mM_k G F n k0 v (Int.natCast_nonneg j), Int.toNat_natCast]
  rfl
theorem zs_putZ {k0 ci j : Nat} {q : Int} {cs : List Nat} {v : Int} (ht : ztab N y ip = some (.inl (i_putZ N ci j))) (hip : ip + 1 = ip') (hN : k0 < N) (hs : z_sh k0 = (0, ci, cs)) (hj : cs[j]? = some 0) (hq : ((j : Nat) : Int) = q) (hv : v = 0 ∨ v = 1) (k : zW N y ip' L st (zk G k0 (zp (G k0) q v)) F n Q) : zW N y ip L (.int (zi v) :: .ref k0 :: st) G F n Q := by
  refine zW_s ht ?_ (fun h => zrM_k h ⟨by omega, by omega⟩) id k
  subst hip
  have h1 : zi v &&& 1 = zi v := by rcases hv with rfl | rfl <;> decide +kernel
  show (if k0 < N ∧ (z_sh k0).1 = 0 ∧ (z_sh k0).2.1 = ci ∧ (z_sh k0).2.2[j]? = some 0 ∧ zi v &&& 1 = zi v then some (ip + 1, L, st, (z_up (mM G F n).1 k0 j (zi v), (mM G F n).2.1, (mM G F n).2.2)) else none) = _
  rw [hs, if_pos ⟨hN, rfl, rfl, hj, h1⟩]
  subst hq
  rw [← mM_k G F n k0 v (Int.natCast_nonneg j), Int.toNat_natCast]
  rfl
theorem zs_putJ {k0 ci j : Nat} {q : Int} {cs : List Nat} {v : Int} (ht : ztab N y ip = some (.inl (i_putL N ci j))) (hip : ip + 1 = ip') (hN : k0 < N) (hs : z_sh k0 = (0, ci, cs)) (hj : cs[j]? = some 1) (hq : ((j : Nat) : Int) = q) (hv : zrl v) (k : zW N y ip' L st G (zk F k0 (zp (F k0) q v)) n Q) : zW N y ip L (.long (zl v) :: .ref k0 :: st) G F n Q := by
  refine zW_s ht ?_ id (fun h => zrL_k h hv) k
  subst hip
  show (if k0 < N ∧ (z_sh k0).1 = 0 ∧ (z_sh k0).2.1 = ci ∧ (z_sh k0).2.2[j]? = some 1 then some (ip + 1, L, st, ((mM G F n).1, z_up (mM G F n).2.1 k0 j (zl v), (mM G F n).2.2)) else none) = _
  rw [hs, if_pos ⟨hN, rfl, rfl, hj⟩]
  subst hq
  rw [← mM_l G F n k0 v (Int.natCast_nonneg j), Int.toNat_natCast]
  rfl
theorem zi_ix {i : Int} {len : Nat} (hi : 0 ≤ i ∧ i < len ∧ i ≤ 2147483647) : ¬ (zi i < 0 ∨ len ≤ (zi i).toNatClampNeg) := by
  have hr : zr i := ⟨by omega, hi.2.2⟩
  rw [zi_n hr, zi_0, zi_lt hr zr0]
  omega
theorem zs_iald {k0 len : Nat} {cs : List Nat} {i : Int} (ht : ztab N y ip = some (.inl (i_iald N))) (hip : ip + 1 = ip') (hN : k0 < N) (hs : z_sh k0 = (1, len, cs)) (hi : 0 ≤ i ∧ i < len ∧ i ≤ 2147483647) (k : -2147483648 ≤ G k0 i → G k0 i ≤ 2147483647 → zW N y ip' L (.int (zi (G k0 i)) :: st) G F n Q) : zW N y ip L (.int (zi i) :: .ref k0 :: st) G F n Q := by
  intro h1 h2
  refine zW_s ht ?_ id id (k (h1 k0 _).1 (h1 k0 _).2) h1 h2
  subst hip
  show (if k0 < N ∧ (z_sh k0).1 = 1 then (if zi i < 0 ∨ (z_sh k0).2.1 ≤ (zi i).toNatClampNeg then none else some (ip + 1, L, Value.int ((mM G F n).1 k0 (zi i).toNatClampNeg) :: st, mM G F n)) else none) = _
  rw [hs, if_pos ⟨hN, rfl⟩, if_neg (zi_ix hi), zi_n ⟨by omega, hi.2.2⟩]
  show some (ip + 1, L, Value.int (zi (G k0 ((i.toNat : Nat) : Int))) :: st, mM G F n) = _
  rw [Int.toNat_of_nonneg hi.1]
theorem zs_bald {k0 len : Nat} {cs : List Nat} {i : Int} (ht : ztab N y ip = some (.inl (i_bald N))) (hip : ip + 1 = ip') (hN : k0 < N) (hs : z_sh k0 = (2, len, cs)) (hi : 0 ≤ i ∧ i < len ∧ i ≤ 2147483647) (k : -2147483648 ≤ G k0 i → G k0 i ≤ 2147483647 → zW N y ip' L (.int (zi (G k0 i)) :: st) G F n Q) : zW N y ip L (.int (zi i) :: .ref k0 :: st) G F n Q := by
  intro h1 h2
  refine zW_s ht ?_ id id (k (h1 k0 _).1 (h1 k0 _).2) h1 h2
  subst hip
  show (if k0 < N ∧ (z_sh k0).1 = 2 then (if zi i < 0 ∨ (z_sh k0).2.1 ≤ (zi i).toNatClampNeg then none else some (ip + 1, L, Value.int ((mM G F n).1 k0 (zi i).toNatClampNeg) :: st, mM G F n)) else none) = _
  rw [hs, if_pos ⟨hN, rfl⟩, if_neg (zi_ix hi), zi_n ⟨by omega, hi.2.2⟩]
  show some (ip + 1, L, Value.int (zi (G k0 ((i.toNat : Nat) : Int))) :: st, mM G F n) = _
  rw [Int.toNat_of_nonneg hi.1]
theorem zs_zald {k0 len : Nat} {cs : List Nat} {i : Int} (ht : ztab N y ip = some (.inl (i_zald N))) (hip : ip + 1 = ip') (hN : k0 < N) (hs : z_sh k0 = (3, len, cs)) (hi : 0 ≤ i ∧ i < len ∧ i ≤ 2147483647) (k : -2147483648 ≤ G k0 i → G k0 i ≤ 2147483647 → zW N y ip' L (.int (zi (G k0 i)) :: st) G F n Q) : zW N y ip L (.int (zi i) :: .ref k0 :: st) G F n Q := by
  intro h1 h2
  refine zW_s ht ?_ id id (k (h1 k0 _).1 (h1 k0 _).2) h1 h2
  subst hip
  show (if k0 < N ∧ (z_sh k0).1 = 3 then (if zi i < 0 ∨ (z_sh k0).2.1 ≤ (zi i).toNatClampNeg then none else some (ip + 1, L, Value.int ((mM G F n).1 k0 (zi i).toNatClampNeg) :: st, mM G F n)) else none) = _
  rw [hs, if_pos ⟨hN, rfl⟩, if_neg (zi_ix hi), zi_n ⟨by omega, hi.2.2⟩]
  show some (ip + 1, L, Value.int (zi (G k0 ((i.toNat : Nat) : Int))) :: st, mM G F n) = _
  rw [Int.toNat_of_nonneg hi.1]
theorem zs_aald {k0 kd len r : Nat} {cs : List Nat} {i : Int} (ht : ztab N y ip = some (.inl (i_aald N))) (hip : ip + 1 = ip') (hN : k0 < N) (hs : z_sh k0 = (kd, len, cs)) (hd : kd = 5 ∨ kd = 6) (hi : 0 ≤ i ∧ i < len ∧ i ≤ 2147483647) (hr : cs[i.toNat]? = some r) (k : zW N y ip' L (.ref r :: st) G F n Q) : zW N y ip L (.int (zi i) :: .ref k0 :: st) G F n Q := by
  refine zW_s ht ?_ id id k
  subst hip
  show (if k0 < N ∧ ((z_sh k0).1 = 5 ∨ (z_sh k0).1 = 6) then (if zi i < 0 ∨ (z_sh k0).2.1 ≤ (zi i).toNatClampNeg then none else (match (z_sh k0).2.2[(zi i).toNatClampNeg]? with
    | some r => some (ip + 1, L, Value.ref r :: st, mM G F n)
    | none => none)) else none) = _
  rw [hs, if_pos ⟨hN, hd⟩, if_neg (zi_ix hi), zi_n ⟨by omega, hi.2.2⟩]
  show (match cs[i.toNat]? with
    | some r => some (ip + 1, L, Value.ref r :: st, mM G F n)
    | none => none) = _
  rw [hr]
theorem zs_iast {k0 len : Nat} {cs : List Nat} {i v : Int} (ht : ztab N y ip = some (.inl (i_iast N))) (hip : ip + 1 = ip') (hN : k0 < N) (hs : z_sh k0 = (1, len, cs)) (hi : 0 ≤ i ∧ i < len ∧ i ≤ 2147483647) (hv : zr v) (k : zW N y ip' L st (zk G k0 (zp (G k0) i v)) F n Q) : zW N y ip L (.int (zi v) :: .int (zi i) :: .ref k0 :: st) G F n Q := by
  refine zW_s ht ?_ (fun h => zrM_k h hv) id k
  subst hip
  show (if k0 < N ∧ (z_sh k0).1 = 1 then (if zi i < 0 ∨ (z_sh k0).2.1 ≤ (zi i).toNatClampNeg then none else some (ip + 1, L, st, (z_up (mM G F n).1 k0 (zi i).toNatClampNeg (zi v), (mM G F n).2.1, (mM G F n).2.2))) else none) = _
  rw [hs, if_pos ⟨hN, rfl⟩, if_neg (zi_ix hi), zi_n ⟨by omega, hi.2.2⟩, ← mM_k G F n k0 v hi.1]
  rfl
theorem zs_bast {k0 len : Nat} {cs : List Nat} {i v : Int} (ht : ztab N y ip = some (.inl (i_bast N))) (hip : ip + 1 = ip') (hN : k0 < N) (hs : z_sh k0 = (2, len, cs)) (hi : 0 ≤ i ∧ i < len ∧ i ≤ 2147483647) (hv : -128 ≤ v ∧ v ≤ 127) (k : zW N y ip' L st (zk G k0 (zp (G k0) i v)) F n Q) : zW N y ip L (.int (zi v) :: .int (zi i) :: .ref k0 :: st) G F n Q := by
  refine zW_s ht ?_ (fun h => zrM_k h ⟨by omega, by omega⟩) id k
  subst hip
  show (if k0 < N ∧ (z_sh k0).1 = 2 then (if zi i < 0 ∨ (z_sh k0).2.1 ≤ (zi i).toNatClampNeg then none else some (ip + 1, L, st, (z_up (mM G F n).1 k0 (zi i).toNatClampNeg (vp_nar .byte (zi v)), (mM G F n).2.1, (mM G F n).2.2))) else none) = _
  rw [hs, if_pos ⟨hN, rfl⟩, if_neg (zi_ix hi), zi_n ⟨by omega, hi.2.2⟩, zi_byte hv, ← mM_k G F n k0 v hi.1]
  rfl
theorem zs_zast {k0 len : Nat} {cs : List Nat} {i v : Int} (ht : ztab N y ip = some (.inl (i_zast N))) (hip : ip + 1 = ip') (hN : k0 < N) (hs : z_sh k0 = (3, len, cs)) (hi : 0 ≤ i ∧ i < len ∧ i ≤ 2147483647) (hv : v = 0 ∨ v = 1) (k : zW N y ip' L st (zk G k0 (zp (G k0) i v)) F n Q) : zW N y ip L (.int (zi v) :: .int (zi i) :: .ref k0 :: st) G F n Q := by
  refine zW_s ht ?_ (fun h => zrM_k h ⟨by omega, by omega⟩) id k
  subst hip
  have h1 : vp_nar .boolean (zi v) = zi v := by rcases hv with rfl | rfl <;> decide +kernel
  show (if k0 < N ∧ (z_sh k0).1 = 3 then (if zi i < 0 ∨ (z_sh k0).2.1 ≤ (zi i).toNatClampNeg then none else some (ip + 1, L, st, (z_up (mM G F n).1 k0 (zi i).toNatClampNeg (vp_nar .boolean (zi v)), (mM G F n).2.1, (mM G F n).2.2))) else none) = _
  rw [hs, if_pos ⟨hN, rfl⟩, if_neg (zi_ix hi), zi_n ⟨by omega, hi.2.2⟩, h1, ← mM_k G F n k0 v hi.1]
  rfl
theorem zs_alen {k0 len : Nat} {cs : List Nat} (ht : ztab N y ip = some (.inl (i_alen N))) (hip : ip + 1 = ip') (hN : k0 < N) (hs : z_sh k0 = (1, len, cs)) (k : zW N y ip' L (.int (zi (len : Int)) :: st) G F n Q) : zW N y ip L (.ref k0 :: st) G F n Q := by
  refine zW_s ht ?_ id id k
  subst hip
  show (if k0 < N ∧ (z_sh k0).1 = 1 then some (ip + 1, L, Value.int (Int32.ofNat (z_sh k0).2.1) :: st, mM G F n) else none) = _
  rw [hs, if_pos ⟨hN, rfl⟩]
  show some (ip + 1, L, Value.int (Int32.ofNat len) :: st, mM G F n) = some (ip + 1, L, Value.int (Int32.ofInt (len : Int)) :: st, mM G F n)
  rw [Int32.ofInt_eq_ofNat]
theorem zs_mmax {a b : Int} (ht : ztab N y ip = some (.inl i_mmax)) (hip : ip + 1 = ip') (hl : Nat.ble st.length 4 = true) (ha : zr a) (hb : zr b) (k : zW N y ip' L (.int (zi (max a b)) :: st) G F n Q) : zW N y ip L (.int (zi b) :: .int (zi a) :: st) G F n Q := by
  refine zW_s ht ?_ id id k
  subst hip
  show (if st.length ≤ 4 then some (ip + 1, L, Value.int (z_max (zi a) (zi b)) :: st, mM G F n) else none) = _
  rw [if_pos (Nat.le_of_ble_eq_true hl)]
  have : z_max (zi a) (zi b) = zi (max a b) := by
    unfold z_max
    by_cases h : a < b
    · rw [if_pos ((zi_lt ha hb).mpr h), show max a b = b by omega]
    · rw [if_neg (fun hh => h ((zi_lt ha hb).mp hh)), show max a b = a by omega]
  rw [this]
theorem zs_mmin {a b : Int} (ht : ztab N y ip = some (.inl i_mmin)) (hip : ip + 1 = ip') (hl : Nat.ble st.length 4 = true) (ha : zr a) (hb : zr b) (k : zW N y ip' L (.int (zi (min a b)) :: st) G F n Q) : zW N y ip L (.int (zi b) :: .int (zi a) :: st) G F n Q := by
  refine zW_s ht ?_ id id k
  subst hip
  show (if st.length ≤ 4 then some (ip + 1, L, Value.int (z_min (zi a) (zi b)) :: st, mM G F n) else none) = _
  rw [if_pos (Nat.le_of_ble_eq_true hl)]
  have : z_min (zi a) (zi b) = zi (min a b) := by
    unfold z_min
    by_cases h : b < a
    · rw [if_pos ((zi_lt hb ha).mpr h), show min a b = b by omega]
    · rw [if_neg (fun hh => h ((zi_lt hb ha).mp hh)), show min a b = a by omega]
  rw [this]
theorem zs_mabs {a : Int} (ht : ztab N y ip = some (.inl i_mabs)) (hip : ip + 1 = ip') (hl : Nat.ble st.length 4 = true) (ha : zr a) (k : zW N y ip' L (.int (zi (a.natAbs : Int)) :: st) G F n Q) : zW N y ip L (.int (zi a) :: st) G F n Q := by
  refine zW_s ht ?_ id id k
  subst hip
  show (if st.length ≤ 4 then some (ip + 1, L, Value.int (if 0 ≤ zi a then zi a else 0 - zi a) :: st, mM G F n) else none) = _
  rw [if_pos (Nat.le_of_ble_eq_true hl)]
  have : (if 0 ≤ zi a then zi a else 0 - zi a) = zi (a.natAbs : Int) := by
    rw [zi_0]
    by_cases h : 0 ≤ a
    · rw [if_pos ((zi_le zr0 ha).mpr h), show (a.natAbs : Int) = a by omega]
    · rw [if_neg (fun hh => h ((zi_le zr0 ha).mp hh)), show (a.natAbs : Int) = 0 - a by omega, zi_sub]
  rw [this]
theorem zs_acopy {k0 k1 len : Nat} {c0 c1 : List Nat} {b : Int} (ht : ztab N y ip = some (.inl (i_acopy N))) (hip : ip + 1 = ip') (h0 : k0 < N) (h1 : k1 < N) (s0 : z_sh k0 = (1, len, c0)) (s1 : z_sh k1 = (1, len, c1)) (hb : b = (len : Int)) (hl : len ≤ 2147483647) (k : zW N y ip' L [] (zk G k1 (zcp (G k0) (G k1) len)) F n Q) : zW N y ip L [.int (zi b), .int (zi 0), .ref k1, .int (zi 0), .ref k0] G F n Q := by
  refine zW_s ht ?_ (fun h => zrM_c h) id k
  subst hip
  subst hb
  have hr : zr (len : Int) := ⟨by omega, by omega⟩
  show (if k0 < N ∧ k1 < N ∧ (z_sh k0).1 = 1 ∧ (z_sh k1).1 = 1 ∧ (0 : Nat) ≤ 0 then (if zi 0 < 0 ∨ zi 0 < 0 ∨ zi (len : Int) < 0 ∨ (z_sh k0).2.1 < (zi 0).toNatClampNeg + (zi (len : Int)).toNatClampNeg ∨ (z_sh k1).2.1 < (zi 0).toNatClampNeg + (zi (len : Int)).toNatClampNeg then none
      else some (ip + 1, L, ([] : List Value), (z_upf (mM G F n).1 k1 (va_cpy ((mM G F n).1 k0) ((mM G F n).1 k1) (zi 0).toNatClampNeg (zi 0).toNatClampNeg (zi (len : Int)).toNatClampNeg), (mM G F n).2.1, (mM G F n).2.2))) else none) = _
  rw [s0, s1, if_pos ⟨h0, h1, rfl, rfl, Nat.le_refl _⟩, zi_n zr0, zi_n hr, if_neg, ← mM_c]
  · rfl
  · rw [zi_0, zi_lt zr0 zr0, zi_lt hr zr0]
    dsimp only
    omega
theorem zs_lsw {g : Int → Nat} {a : Int} (ht : ztab N y ip = some (.inl (i_lsw g))) (ha : zr a) (k : zW N y (g a) L st G F n Q) : zW N y ip L (.int (zi a) :: st) G F n Q := by
  refine zW_s ht ?_ id id k
  show some (g (zi a).toInt, L, st, mM G F n) = _
  rw [zi_to ha]
/-- the steps of the four ways -/
def zsx (i : Int) : Int := if i = 1 then 1 else if i = 3 then -1 else 0
def zsy (i : Int) : Int := if i = 0 then -1 else if i = 2 then 1 else 0
theorem zs_caldX {i : Int} (ht : ztab N y ip = some (.inl i_cald)) (hip : ip + 1 = ip') (hi : 0 ≤ i ∧ i < 4) (k : zW N y ip' L (.int (zi (zsx i)) :: st) G F n Q) : zW N y ip L (.int (zi i) :: .ref 300 :: st) G F n Q := by
  refine zW_s ht ?_ id id k
  subst hip
  have : i = 0 ∨ i = 1 ∨ i = 2 ∨ i = 3 := by omega
  rcases this with rfl | rfl | rfl | rfl <;> rfl
theorem zs_caldY {i : Int} (ht : ztab N y ip = some (.inl i_cald)) (hip : ip + 1 = ip') (hi : 0 ≤ i ∧ i < 4) (k : zW N y ip' L (.int (zi (zsy i)) :: st) G F n Q) : zW N y ip L (.int (zi i) :: .ref 301 :: st) G F n Q := by
  refine zW_s ht ?_ id id k
  subst hip
  have : i = 0 ∨ i = 1 ∨ i = 2 ∨ i = 3 := by omega
  rcases this with rfl | rfl | rfl | rfl <;> rfl
end ZW
theorem zsh_0 : z_sh 0 = (0, 7, [3, 5, 9, 17, 0, 0]) := rfl
theorem zsh_1 : z_sh 1 = (0, 1, [0, 0, 4]) := rfl
theorem zsh_2 : z_sh 2 = (1, 144, []) := rfl
theorem zsh_3 : z_sh 3 = (0, 3, [0, 0, 6, 7, 8]) := rfl
theorem zsh_4 : z_sh 4 = (1, 8, []) := rfl
theorem zsh_5 : z_sh 5 = (1, 8, []) := rfl
theorem zsh_6 : z_sh 6 = (1, 8, []) := rfl
theorem zsh_7 : z_sh 7 = (0, 6, [0, 10, 11, 12, 13, 14, 15, 16]) := rfl
theorem zsh_8 : z_sh 8 = (1, 6, []) := rfl
theorem zsh_9 : z_sh 9 = (1, 6, []) := rfl
theorem zsh_10 : z_sh 10 = (1, 6, []) := rfl
theorem zsh_11 : z_sh 11 = (1, 6, []) := rfl
theorem zsh_12 : z_sh 12 = (1, 6, []) := rfl
theorem zsh_13 : z_sh 13 = (1, 6, []) := rfl
theorem zsh_14 : z_sh 14 = (1, 6, []) := rfl
theorem zsh_15 : z_sh 15 = (1, 24, []) := rfl
theorem zsh_16 : z_sh 16 = (0, 7, [19, 21, 25, 33, 0, 0]) := rfl
theorem zsh_17 : z_sh 17 = (0, 1, [0, 0, 20]) := rfl
theorem zsh_18 : z_sh 18 = (1, 144, []) := rfl
theorem zsh_19 : z_sh 19 = (0, 3, [0, 0, 22, 23, 24]) := rfl
theorem zsh_20 : z_sh 20 = (1, 8, []) := rfl
theorem zsh_21 : z_sh 21 = (1, 8, []) := rfl
theorem zsh_22 : z_sh 22 = (1, 8, []) := rfl
theorem zsh_23 : z_sh 23 = (0, 6, [0, 26, 27, 28, 29, 30, 31, 32]) := rfl
theorem zsh_24 : z_sh 24 = (1, 6, []) := rfl
theorem zsh_25 : z_sh 25 = (1, 6, []) := rfl
theorem zsh_26 : z_sh 26 = (1, 6, []) := rfl
theorem zsh_27 : z_sh 27 = (1, 6, []) := rfl
theorem zsh_28 : z_sh 28 = (1, 6, []) := rfl
theorem zsh_29 : z_sh 29 = (1, 6, []) := rfl
theorem zsh_30 : z_sh 30 = (1, 6, []) := rfl
theorem zsh_31 : z_sh 31 = (1, 24, []) := rfl
theorem zsh_32 : z_sh 32 = (0, 7, [35, 37, 41, 49, 0, 0]) := rfl
theorem zsh_33 : z_sh 33 = (0, 1, [0, 0, 36]) := rfl
theorem zsh_34 : z_sh 34 = (1, 144, []) := rfl
theorem zsh_35 : z_sh 35 = (0, 3, [0, 0, 38, 39, 40]) := rfl
theorem zsh_36 : z_sh 36 = (1, 8, []) := rfl
theorem zsh_37 : z_sh 37 = (1, 8, []) := rfl
theorem zsh_38 : z_sh 38 = (1, 8, []) := rfl
theorem zsh_39 : z_sh 39 = (0, 6, [0, 42, 43, 44, 45, 46, 47, 48]) := rfl
theorem zsh_40 : z_sh 40 = (1, 6, []) := rfl
theorem zsh_41 : z_sh 41 = (1, 6, []) := rfl
theorem zsh_42 : z_sh 42 = (1, 6, []) := rfl
theorem zsh_43 : z_sh 43 = (1, 6, []) := rfl
theorem zsh_44 : z_sh 44 = (1, 6, []) := rfl
theorem zsh_45 : z_sh 45 = (1, 6, []) := rfl
theorem zsh_46 : z_sh 46 = (1, 6, []) := rfl
theorem zsh_47 : z_sh 47 = (1, 24, []) := rfl
theorem zsh_48 : z_sh 48 = (0, 7, [51, 53, 57, 65, 0, 0]) := rfl
theorem zsh_49 : z_sh 49 = (0, 1, [0, 0, 52]) := rfl
theorem zsh_50 : z_sh 50 = (1, 144, []) := rfl
theorem zsh_51 : z_sh 51 = (0, 3, [0, 0, 54, 55, 56]) := rfl
theorem zsh_52 : z_sh 52 = (1, 8, []) := rfl
theorem zsh_53 : z_sh 53 = (1, 8, []) := rfl
theorem zsh_54 : z_sh 54 = (1, 8, []) := rfl
theorem zsh_55 : z_sh 55 = (0, 6, [0, 58, 59, 60, 61, 62, 63, 64]) := rfl
theorem zsh_56 : z_sh 56 = (1, 6, []) := rfl
theorem zsh_57 : z_sh 57 = (1, 6, []) := rfl
theorem zsh_58 : z_sh 58 = (1, 6, []) := rfl
theorem zsh_59 : z_sh 59 = (1, 6, []) := rfl
theorem zsh_60 : z_sh 60 = (1, 6, []) := rfl
theorem zsh_61 : z_sh 61 = (1, 6, []) := rfl
theorem zsh_62 : z_sh 62 = (1, 6, []) := rfl
theorem zsh_63 : z_sh 63 = (1, 24, []) := rfl
theorem zsh_64 : z_sh 64 = (0, 7, [67, 69, 73, 81, 0, 0]) := rfl
theorem zsh_65 : z_sh 65 = (0, 1, [0, 0, 68]) := rfl
theorem zsh_66 : z_sh 66 = (1, 144, []) := rfl
theorem zsh_67 : z_sh 67 = (0, 3, [0, 0, 70, 71, 72]) := rfl
theorem zsh_68 : z_sh 68 = (1, 8, []) := rfl
theorem zsh_69 : z_sh 69 = (1, 8, []) := rfl
theorem zsh_70 : z_sh 70 = (1, 8, []) := rfl
theorem zsh_71 : z_sh 71 = (0, 6, [0, 74, 75, 76, 77, 78, 79, 80]) := rfl
theorem zsh_72 : z_sh 72 = (1, 6, []) := rfl
theorem zsh_73 : z_sh 73 = (1, 6, []) := rfl
theorem zsh_74 : z_sh 74 = (1, 6, []) := rfl
theorem zsh_75 : z_sh 75 = (1, 6, []) := rfl
theorem zsh_76 : z_sh 76 = (1, 6, []) := rfl
theorem zsh_77 : z_sh 77 = (1, 6, []) := rfl
theorem zsh_78 : z_sh 78 = (1, 6, []) := rfl
theorem zsh_79 : z_sh 79 = (1, 24, []) := rfl
theorem zsh_80 : z_sh 80 = (0, 7, [83, 85, 89, 97, 0, 0]) := rfl
theorem zsh_81 : z_sh 81 = (0, 1, [0, 0, 84]) := rfl
theorem zsh_82 : z_sh 82 = (1, 144, []) := rfl
theorem zsh_83 : z_sh 83 = (0, 3, [0, 0, 86, 87, 88]) := rfl
theorem zsh_84 : z_sh 84 = (1, 8, []) := rfl
theorem zsh_85 : z_sh 85 = (1, 8, []) := rfl
theorem zsh_86 : z_sh 86 = (1, 8, []) := rfl
theorem zsh_87 : z_sh 87 = (0, 6, [0, 90, 91, 92, 93, 94, 95, 96]) := rfl
theorem zsh_88 : z_sh 88 = (1, 6, []) := rfl
theorem zsh_89 : z_sh 89 = (1, 6, []) := rfl
theorem zsh_90 : z_sh 90 = (1, 6, []) := rfl
theorem zsh_91 : z_sh 91 = (1, 6, []) := rfl
theorem zsh_92 : z_sh 92 = (1, 6, []) := rfl
theorem zsh_93 : z_sh 93 = (1, 6, []) := rfl
theorem zsh_94 : z_sh 94 = (1, 6, []) := rfl
theorem zsh_95 : z_sh 95 = (1, 24, []) := rfl
theorem zsh_96 : z_sh 96 = (0, 7, [99, 101, 105, 113, 0, 0]) := rfl
theorem zsh_97 : z_sh 97 = (0, 1, [0, 0, 100]) := rfl
theorem zsh_98 : z_sh 98 = (1, 144, []) := rfl
theorem zsh_99 : z_sh 99 = (0, 3, [0, 0, 102, 103, 104]) := rfl
theorem zsh_100 : z_sh 100 = (1, 8, []) := rfl
theorem zsh_101 : z_sh 101 = (1, 8, []) := rfl
theorem zsh_102 : z_sh 102 = (1, 8, []) := rfl
theorem zsh_103 : z_sh 103 = (0, 6, [0, 106, 107, 108, 109, 110, 111, 112]) := rfl
theorem zsh_104 : z_sh 104 = (1, 6, []) := rfl
theorem zsh_105 : z_sh 105 = (1, 6, []) := rfl
theorem zsh_106 : z_sh 106 = (1, 6, []) := rfl
theorem zsh_107 : z_sh 107 = (1, 6, []) := rfl
theorem zsh_108 : z_sh 108 = (1, 6, []) := rfl
theorem zsh_109 : z_sh 109 = (1, 6, []) := rfl
theorem zsh_110 : z_sh 110 = (1, 6, []) := rfl
theorem zsh_111 : z_sh 111 = (1, 24, []) := rfl
theorem zsh_112 : z_sh 112 = (0, 7, [115, 117, 121, 129, 0, 0]) := rfl
theorem zsh_113 : z_sh 113 = (0, 1, [0, 0, 116]) := rfl
theorem zsh_114 : z_sh 114 = (1, 144, []) := rfl
theorem zsh_115 : z_sh 115 = (0, 3, [0, 0, 118, 119, 120]) := rfl
theorem zsh_116 : z_sh 116 = (1, 8, []) := rfl
theorem zsh_117 : z_sh 117 = (1, 8, []) := rfl
theorem zsh_118 : z_sh 118 = (1, 8, []) := rfl
theorem zsh_119 : z_sh 119 = (0, 6, [0, 122, 123, 124, 125, 126, 127, 128]) := rfl
theorem zsh_120 : z_sh 120 = (1, 6, []) := rfl
theorem zsh_121 : z_sh 121 = (1, 6, []) := rfl
theorem zsh_122 : z_sh 122 = (1, 6, []) := rfl
theorem zsh_123 : z_sh 123 = (1, 6, []) := rfl
theorem zsh_124 : z_sh 124 = (1, 6, []) := rfl
theorem zsh_125 : z_sh 125 = (1, 6, []) := rfl
theorem zsh_126 : z_sh 126 = (1, 6, []) := rfl
theorem zsh_127 : z_sh 127 = (1, 24, []) := rfl
theorem zsh_128 : z_sh 128 = (0, 7, [131, 133, 137, 145, 0, 0]) := rfl
theorem zsh_129 : z_sh 129 = (0, 1, [0, 0, 132]) := rfl
theorem zsh_130 : z_sh 130 = (1, 144, []) := rfl
theorem zsh_131 : z_sh 131 = (0, 3, [0, 0, 134, 135, 136]) := rfl
theorem zsh_132 : z_sh 132 = (1, 8, []) := rfl
theorem zsh_133 : z_sh 133 = (1, 8, []) := rfl
theorem zsh_134 : z_sh 134 = (1, 8, []) := rfl
theorem zsh_135 : z_sh 135 = (0, 6, [0, 138, 139, 140, 141, 142, 143, 144]) := rfl
theorem zsh_136 : z_sh 136 = (1, 6, []) := rfl
theorem zsh_137 : z_sh 137 = (1, 6, []) := rfl
theorem zsh_138 : z_sh 138 = (1, 6, []) := rfl
theorem zsh_139 : z_sh 139 = (1, 6, []) := rfl
theorem zsh_140 : z_sh 140 = (1, 6, []) := rfl
theorem zsh_141 : z_sh 141 = (1, 6, []) := rfl
theorem zsh_142 : z_sh 142 = (1, 6, []) := rfl
theorem zsh_143 : z_sh 143 = (1, 24, []) := rfl
theorem zsh_144 : z_sh 144 = (0, 7, [147, 149, 153, 161, 0, 0]) := rfl
theorem zsh_145 : z_sh 145 = (0, 1, [0, 0, 148]) := rfl
theorem zsh_146 : z_sh 146 = (1, 144, []) := rfl
theorem zsh_147 : z_sh 147 = (0, 3, [0, 0, 150, 151, 152]) := rfl
theorem zsh_148 : z_sh 148 = (1, 8, []) := rfl
theorem zsh_149 : z_sh 149 = (1, 8, []) := rfl
theorem zsh_150 : z_sh 150 = (1, 8, []) := rfl
theorem zsh_151 : z_sh 151 = (0, 6, [0, 154, 155, 156, 157, 158, 159, 160]) := rfl
theorem zsh_152 : z_sh 152 = (1, 6, []) := rfl
theorem zsh_153 : z_sh 153 = (1, 6, []) := rfl
theorem zsh_154 : z_sh 154 = (1, 6, []) := rfl
theorem zsh_155 : z_sh 155 = (1, 6, []) := rfl
theorem zsh_156 : z_sh 156 = (1, 6, []) := rfl
theorem zsh_157 : z_sh 157 = (1, 6, []) := rfl
theorem zsh_158 : z_sh 158 = (1, 6, []) := rfl
theorem zsh_159 : z_sh 159 = (1, 24, []) := rfl
theorem zsh_160 : z_sh 160 = (0, 7, [163, 165, 169, 177, 0, 0]) := rfl
theorem zsh_161 : z_sh 161 = (0, 1, [0, 0, 164]) := rfl
theorem zsh_162 : z_sh 162 = (1, 144, []) := rfl
theorem zsh_163 : z_sh 163 = (0, 3, [0, 0, 166, 167, 168]) := rfl
theorem zsh_164 : z_sh 164 = (1, 8, []) := rfl
theorem zsh_165 : z_sh 165 = (1, 8, []) := rfl
theorem zsh_166 : z_sh 166 = (1, 8, []) := rfl
theorem zsh_167 : z_sh 167 = (0, 6, [0, 170, 171, 172, 173, 174, 175, 176]) := rfl
theorem zsh_168 : z_sh 168 = (1, 6, []) := rfl
theorem zsh_169 : z_sh 169 = (1, 6, []) := rfl
theorem zsh_170 : z_sh 170 = (1, 6, []) := rfl
theorem zsh_171 : z_sh 171 = (1, 6, []) := rfl
theorem zsh_172 : z_sh 172 = (1, 6, []) := rfl
theorem zsh_173 : z_sh 173 = (1, 6, []) := rfl
theorem zsh_174 : z_sh 174 = (1, 6, []) := rfl
theorem zsh_175 : z_sh 175 = (1, 24, []) := rfl
theorem zsh_176 : z_sh 176 = (0, 7, [179, 181, 185, 193, 0, 0]) := rfl
theorem zsh_177 : z_sh 177 = (0, 1, [0, 0, 180]) := rfl
theorem zsh_178 : z_sh 178 = (1, 144, []) := rfl
theorem zsh_179 : z_sh 179 = (0, 3, [0, 0, 182, 183, 184]) := rfl
theorem zsh_180 : z_sh 180 = (1, 8, []) := rfl
theorem zsh_181 : z_sh 181 = (1, 8, []) := rfl
theorem zsh_182 : z_sh 182 = (1, 8, []) := rfl
theorem zsh_183 : z_sh 183 = (0, 6, [0, 186, 187, 188, 189, 190, 191, 192]) := rfl
theorem zsh_184 : z_sh 184 = (1, 6, []) := rfl
theorem zsh_185 : z_sh 185 = (1, 6, []) := rfl
theorem zsh_186 : z_sh 186 = (1, 6, []) := rfl
theorem zsh_187 : z_sh 187 = (1, 6, []) := rfl
theorem zsh_188 : z_sh 188 = (1, 6, []) := rfl
theorem zsh_189 : z_sh 189 = (1, 6, []) := rfl
theorem zsh_190 : z_sh 190 = (1, 6, []) := rfl
theorem zsh_191 : z_sh 191 = (1, 24, []) := rfl
theorem zsh_192 : z_sh 192 = (0, 8, [2, 18, 195, 197, 198, 199, 201, 227, 230, 0, 0]) := rfl
theorem zsh_193 : z_sh 193 = (0, 2, [0, 0, 196]) := rfl
theorem zsh_194 : z_sh 194 = (5, 8, [32, 48, 64, 80, 96, 112, 128, 144]) := rfl
theorem zsh_195 : z_sh 195 = (5, 2, [160, 176]) := rfl
theorem zsh_196 : z_sh 196 = (3, 2, []) := rfl
theorem zsh_197 : z_sh 197 = (0, 5, [0, 200, 0, 0, 0, 0, 0]) := rfl
theorem zsh_198 : z_sh 198 = (2, 800, []) := rfl
theorem zsh_199 : z_sh 199 = (0, 4, [202]) := rfl
theorem zsh_200 : z_sh 200 = (6, 8, [201, 204, 207, 210, 213, 216, 219, 222]) := rfl
theorem zsh_201 : z_sh 201 = (0, 0, [204, 0, 205, 0]) := rfl
theorem zsh_202 : z_sh 202 = (1, 144, []) := rfl
theorem zsh_203 : z_sh 203 = (1, 144, []) := rfl
theorem zsh_204 : z_sh 204 = (0, 0, [207, 0, 208, 0]) := rfl
theorem zsh_205 : z_sh 205 = (1, 144, []) := rfl
theorem zsh_206 : z_sh 206 = (1, 144, []) := rfl
theorem zsh_207 : z_sh 207 = (0, 0, [210, 0, 211, 0]) := rfl
theorem zsh_208 : z_sh 208 = (1, 144, []) := rfl
theorem zsh_209 : z_sh 209 = (1, 144, []) := rfl
theorem zsh_210 : z_sh 210 = (0, 0, [213, 0, 214, 0]) := rfl
theorem zsh_211 : z_sh 211 = (1, 144, []) := rfl
theorem zsh_212 : z_sh 212 = (1, 144, []) := rfl
theorem zsh_213 : z_sh 213 = (0, 0, [216, 0, 217, 0]) := rfl
theorem zsh_214 : z_sh 214 = (1, 144, []) := rfl
theorem zsh_215 : z_sh 215 = (1, 144, []) := rfl
theorem zsh_216 : z_sh 216 = (0, 0, [219, 0, 220, 0]) := rfl
theorem zsh_217 : z_sh 217 = (1, 144, []) := rfl
theorem zsh_218 : z_sh 218 = (1, 144, []) := rfl
theorem zsh_219 : z_sh 219 = (0, 0, [222, 0, 223, 0]) := rfl
theorem zsh_220 : z_sh 220 = (1, 144, []) := rfl
theorem zsh_221 : z_sh 221 = (1, 144, []) := rfl
theorem zsh_222 : z_sh 222 = (0, 0, [225, 0, 226, 0]) := rfl
theorem zsh_223 : z_sh 223 = (1, 144, []) := rfl
theorem zsh_224 : z_sh 224 = (1, 144, []) := rfl
theorem zsh_225 : z_sh 225 = (0, 0, [228, 0, 229, 0]) := rfl
theorem zsh_226 : z_sh 226 = (1, 144, []) := rfl
theorem zsh_227 : z_sh 227 = (1, 144, []) := rfl
theorem zsh_228 : z_sh 228 = (2, 156, []) := rfl
theorem zsh_229 : z_sh 229 = (4, 1, []) := rfl
theorem zsh_230 : z_sh 230 = (0, 9, [233, 234, 235, 236, 237, 238, 0, 239, 0, 0, 0, 240, 241, 0, 0, 0, 0, 0, 0, 1, 0, 242, 0]) := rfl
theorem zsh_231 : z_sh 231 = (1, 256, []) := rfl
theorem zsh_232 : z_sh 232 = (1, 256, []) := rfl
theorem zsh_233 : z_sh 233 = (1, 256, []) := rfl
theorem zsh_234 : z_sh 234 = (1, 2048, []) := rfl
theorem zsh_235 : z_sh 235 = (1, 512, []) := rfl
theorem zsh_236 : z_sh 236 = (3, 2, []) := rfl
theorem zsh_237 : z_sh 237 = (1, 800, []) := rfl
theorem zsh_238 : z_sh 238 = (1, 144, []) := rfl
theorem zsh_239 : z_sh 239 = (1, 144, []) := rfl
theorem zsh_240 : z_sh 240 = (1, 160, []) := rfl
theorem zsh_w0 {w : Nat} (hw : w < 12) : z_sh (16 * w) = (0, 7, [16 * w + 3, 16 * w + 5, 16 * w + 9, 16 * w + 17, 0, 0]) := by
  unfold z_sh
  rw [if_pos (by omega), show (16 * w) / 16 = w by omega, show (16 * w) % 16 = 0 by omega]
  rfl
theorem zsh_w1 {w : Nat} (hw : w < 12) : z_sh (16 * w + 1) = (0, 1, [0, 0, 16 * w + 4]) := by
  unfold z_sh
  rw [if_pos (by omega), show (16 * w + 1) / 16 = w by omega, show (16 * w + 1) % 16 = 1 by omega]
  rfl
theorem zsh_w2 {w : Nat} (hw : w < 12) : z_sh (16 * w + 2) = (1, 144, []) := by
  unfold z_sh
  rw [if_pos (by omega), show (16 * w + 2) / 16 = w by omega, show (16 * w + 2) % 16 = 2 by omega]
  rfl
theorem zsh_w3 {w : Nat} (hw : w < 12) : z_sh (16 * w + 3) = (0, 3, [0, 0, 16 * w + 6, 16 * w + 7, 16 * w + 8]) := by
  unfold z_sh
  rw [if_pos (by omega), show (16 * w + 3) / 16 = w by omega, show (16 * w + 3) % 16 = 3 by omega]
  rfl
theorem zsh_w4 {w : Nat} (hw : w < 12) : z_sh (16 * w + 4) = (1, 8, []) := by
  unfold z_sh
  rw [if_pos (by omega), show (16 * w + 4) / 16 = w by omega, show (16 * w + 4) % 16 = 4 by omega]
  rfl
theorem zsh_w5 {w : Nat} (hw : w < 12) : z_sh (16 * w + 5) = (1, 8, []) := by
  unfold z_sh
  rw [if_pos (by omega), show (16 * w + 5) / 16 = w by omega, show (16 * w + 5) % 16 = 5 by omega]
  rfl
theorem zsh_w6 {w : Nat} (hw : w < 12) : z_sh (16 * w + 6) = (1, 8, []) := by
  unfold z_sh
  rw [if_pos (by omega), show (16 * w + 6) / 16 = w by omega, show (16 * w + 6) % 16 = 6 by omega]
  rfl
theorem zsh_w7 {w : Nat} (hw : w < 12) : z_sh (16 * w + 7) = (0, 6, [0, 16 * w + 10, 16 * w + 11, 16 * w + 12, 16 * w + 13, 16 * w + 14, 16 * w + 15, 16 * w + 16]) := by
  unfold z_sh
  rw [if_pos (by omega), show (16 * w + 7) / 16 = w by omega, show (16 * w + 7) % 16 = 7 by omega]
  rfl
theorem zsh_w8 {w : Nat} (hw : w < 12) : z_sh (16 * w + 8) = (1, 6, []) := by
  unfold z_sh
  rw [if_pos (by omega), show (16 * w + 8) / 16 = w by omega, show (16 * w + 8) % 16 = 8 by omega]
  rfl
theorem zsh_w9 {w : Nat} (hw : w < 12) : z_sh (16 * w + 9) = (1, 6, []) := by
  unfold z_sh
  rw [if_pos (by omega), show (16 * w + 9) / 16 = w by omega, show (16 * w + 9) % 16 = 9 by omega]
  rfl
theorem zsh_w10 {w : Nat} (hw : w < 12) : z_sh (16 * w + 10) = (1, 6, []) := by
  unfold z_sh
  rw [if_pos (by omega), show (16 * w + 10) / 16 = w by omega, show (16 * w + 10) % 16 = 10 by omega]
  rfl
theorem zsh_w11 {w : Nat} (hw : w < 12) : z_sh (16 * w + 11) = (1, 6, []) := by
  unfold z_sh
  rw [if_pos (by omega), show (16 * w + 11) / 16 = w by omega, show (16 * w + 11) % 16 = 11 by omega]
  rfl
theorem zsh_w12 {w : Nat} (hw : w < 12) : z_sh (16 * w + 12) = (1, 6, []) := by
  unfold z_sh
  rw [if_pos (by omega), show (16 * w + 12) / 16 = w by omega, show (16 * w + 12) % 16 = 12 by omega]
  rfl
theorem zsh_w13 {w : Nat} (hw : w < 12) : z_sh (16 * w + 13) = (1, 6, []) := by
  unfold z_sh
  rw [if_pos (by omega), show (16 * w + 13) / 16 = w by omega, show (16 * w + 13) % 16 = 13 by omega]
  rfl
theorem zsh_w14 {w : Nat} (hw : w < 12) : z_sh (16 * w + 14) = (1, 6, []) := by
  unfold z_sh
  rw [if_pos (by omega), show (16 * w + 14) / 16 = w by omega, show (16 * w + 14) % 16 = 14 by omega]
  rfl
theorem zsh_w15 {w : Nat} (hw : w < 12) : z_sh (16 * w + 15) = (1, 24, []) := by
  unfold z_sh
  rw [if_pos (by omega), show (16 * w + 15) / 16 = w by omega, show (16 * w + 15) % 16 = 15 by omega]
  rfl
theorem zsh_d0 {i : Nat} (hi : i < 9) : z_sh (201 + 3 * i) = (0, 0, [201 + 3 * i + 3, 0, 201 + 3 * i + 4, 0]) := by
  unfold z_sh
  rw [if_neg (by omega), if_pos (by omega), show (201 + 3 * i - 201) / 3 = i by omega, show (201 + 3 * i - 201) % 3 = 0 by omega]
  rfl
theorem zsh_d1 {i : Nat} (hi : i < 9) : z_sh (201 + 3 * i + 1) = (1, 144, []) := by
  unfold z_sh
  rw [if_neg (by omega), if_pos (by omega), show (201 + 3 * i + 1 - 201) / 3 = i by omega, show (201 + 3 * i + 1 - 201) % 3 = 1 by omega]
  rfl
theorem zsh_d2 {i : Nat} (hi : i < 9) : z_sh (201 + 3 * i + 2) = (1, 144, []) := by
  unfold z_sh
  rw [if_neg (by omega), if_pos (by omega), show (201 + 3 * i + 2 - 201) / 3 = i by omega, show (201 + 3 * i + 2 - 201) % 3 = 2 by omega]
  rfl
theorem zi_km8 : zi (-8) = (-8) := by decide +kernel
theorem zi_km1 : zi (-1) = (-1) := by decide +kernel
theorem zi_k0 : zi 0 = 0 := by decide +kernel
theorem zi_k1 : zi 1 = 1 := by decide +kernel
theorem zi_k2 : zi 2 = 2 := by decide +kernel
theorem zi_k3 : zi 3 = 3 := by decide +kernel
theorem zi_k4 : zi 4 = 4 := by decide +kernel
theorem zi_k5 : zi 5 = 5 := by decide +kernel
theorem zi_k6 : zi 6 = 6 := by decide +kernel
theorem zi_k7 : zi 7 = 7 := by decide +kernel
theorem zi_k8 : zi 8 = 8 := by decide +kernel
theorem zi_k9 : zi 9 = 9 := by decide +kernel
theorem zi_k10 : zi 10 = 10 := by decide +kernel
theorem zi_k11 : zi 11 = 11 := by decide +kernel
theorem zi_k12 : zi 12 = 12 := by decide +kernel
theorem zi_k13 : zi 13 = 13 := by decide +kernel
theorem zi_k16 : zi 16 = 16 := by decide +kernel
theorem zi_k20 : zi 20 = 20 := by decide +kernel
theorem zi_k23 : zi 23 = 23 := by decide +kernel
theorem zi_k24 : zi 24 = 24 := by decide +kernel
theorem zi_k30 : zi 30 = 30 := by decide +kernel
theorem zi_k32 : zi 32 = 32 := by decide +kernel
theorem zi_k42 : zi 42 = 42 := by decide +kernel
theorem zi_k48 : zi 48 = 48 := by decide +kernel
theorem zi_k57 : zi 57 = 57 := by decide +kernel
theorem zi_k59 : zi 59 = 59 := by decide +kernel
theorem zi_k97 : zi 97 = 97 := by decide +kernel
theorem zi_k100 : zi 100 = 100 := by decide +kernel
theorem zi_k102 : zi 102 = 102 := by decide +kernel
theorem zi_k104 : zi 104 = 104 := by decide +kernel
theorem zi_k112 : zi 112 = 112 := by decide +kernel
theorem zi_k119 : zi 119 = 119 := by decide +kernel
theorem zi_k122 : zi 122 = 122 := by decide +kernel
theorem zi_k144 : zi 144 = 144 := by decide +kernel
theorem zi_k174 : zi 174 = 174 := by decide +kernel
theorem zi_k214 : zi 214 = 214 := by decide +kernel
theorem zi_k255 : zi 255 = 255 := by decide +kernel
theorem zi_k256 : zi 256 = 256 := by decide +kernel
theorem zi_k300 : zi 300 = 300 := by decide +kernel
theorem zi_k800 : zi 800 = 800 := by decide +kernel
theorem zi_k9999 : zi 9999 = 9999 := by decide +kernel
theorem zl_k0 : zl 0 = 0 := by decide +kernel
theorem zl_k1 : zl 1 = 1 := by decide +kernel
theorem zl_k27 : zl 27 = 27 := by decide +kernel
theorem zl_k96 : zl 96 = 96 := by decide +kernel
theorem zl_k4786 : zl 4786 = 4786 := by decide +kernel
theorem zl_k13550 : zl 13550 = 13550 := by decide +kernel
theorem zl_k279875 : zl 279875 = 279875 := by decide +kernel
theorem zl_k407354 : zl 407354 = 407354 := by decide +kernel
theorem zl_k1834209 : zl 1834209 = 1834209 := by decide +kernel
theorem zl_k3217595 : zl 3217595 = 3217595 := by decide +kernel
theorem zl_k6559778 : zl 6559778 = 6559778 := by decide +kernel
theorem zl_k6942059 : zl 6942059 = 6942059 := by decide +kernel
theorem zl_k5837583086019 : zl 5837583086019 = 5837583086019 := by decide +kernel
