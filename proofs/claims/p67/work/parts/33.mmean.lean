/-! The reference model: the mean of the steps (printed by wip/whole/src33.py). -/
/-! no quotient here is a NaN -/
section QD
theorem zq_t : FP.Core.b64.tails = 4503599627370496 := by decide +kernel
theorem zq_x : FP.Core.b64.exps = 2048 := by decide +kernel
theorem zq_p : (2 : Nat) ^ FP.Core.b64.p = 9007199254740992 := by decide +kernel
theorem zq_n : FP.Core.b64.qmin = -1074 := by decide +kernel
theorem zq_m : FP.Core.b64.qmax = 971 := by decide +kernel
theorem zq_as (s : Bool) {e t : Nat} (he : e < 2048) (ht : t < 4503599627370496) (h : e < 2047 ∨ t = 0) : FP.Core.assemble FP.Core.b64 s e t % 9223372036854775808 ≤ 9218868437227405312 := by
  unfold FP.Core.assemble
  rw [zq_t, zq_x]
  cases s
  · show ((0 * 2048 + e) * 4503599627370496 + t) % 9223372036854775808 ≤ 9218868437227405312
    omega
  · show ((1 * 2048 + e) * 4503599627370496 + t) % 9223372036854775808 ≤ 9218868437227405312
    omega
theorem zq_fin (s : Bool) {c : Nat} {q : Int} (hc : c < 9007199254740992) (hq : q ≤ 971) : FP.Core.encode FP.Core.b64 (.fin s c q) % 9223372036854775808 ≤ 9218868437227405312 := by
  show (if c < FP.Core.b64.tails then FP.Core.assemble FP.Core.b64 s 0 c else FP.Core.assemble FP.Core.b64 s ((q - FP.Core.b64.qmin).toNat + 1) (c - FP.Core.b64.tails)) % 9223372036854775808 ≤ 9218868437227405312
  rw [zq_t, zq_n]
  split
  · exact zq_as s (by omega) (by omega) (Or.inl (by omega))
  · exact zq_as s (by omega) (by omega) (Or.inl (by omega))
theorem zq_inf (s : Bool) : FP.Core.encode FP.Core.b64 (.inf s) % 9223372036854775808 ≤ 9218868437227405312 := by
  show FP.Core.assemble FP.Core.b64 s (FP.Core.b64.exps - 1) 0 % 9223372036854775808 ≤ 9218868437227405312
  rw [zq_x]
  exact zq_as s (by omega) (by omega) (Or.inr rfl)
theorem zq_bd (s : Bool) {c : Nat} {q : Int} (hc : c < 9007199254740992) : FP.Core.encode FP.Core.b64 (FP.Core.bound FP.Core.b64 s c q) % 9223372036854775808 ≤ 9218868437227405312 := by
  unfold FP.Core.bound
  rw [zq_m]
  split
  · rename_i h
    exact zq_fin s hc h
  · exact zq_inf s
theorem zq_rr (s : Bool) (a b : Nat) (e : Int) : FP.Core.encode FP.Core.b64 (FP.Core.roundRatio FP.Core.b64 s a b e) % 9223372036854775808 ≤ 9218868437227405312 := by
  unfold FP.Core.roundRatio
  split
  · rw [zq_n]
    exact zq_fin s (by omega) (by omega)
  · unfold FP.Core.roundAt FP.Core.settle
    rw [zq_p]
    split
    · rename_i h
      exact zq_bd s h
    · rw [zq_t]
      exact zq_bd s (by omega)
theorem zq_msk {N : Nat} (h : N % 9223372036854775808 ≤ 9218868437227405312) : UInt64.ofNat N &&& 0x7fffffffffffffff ≤ 0x7ff0000000000000 := by
  rw [UInt64.le_iff_toNat_le, UInt64.toNat_and, UInt64.toNat_ofNat']
  show (N % 2 ^ 64) &&& (2 ^ 63 - 1) ≤ 9218868437227405312
  rw [Nat.and_two_pow_sub_one_eq_mod]
  omega
theorem zq_dec {N : Nat} (h : N % 9223372036854775808 ≤ 9218868437227405312) : (∃ s, FP.Core.decode FP.Core.b64 N = .inf s) ∨ ∃ s c q, FP.Core.decode FP.Core.b64 N = .fin s c q := by
  unfold FP.Core.decode
  split
  · rename_i h1
    split
    · exact Or.inl ⟨_, rfl⟩
    · rename_i h2
      unfold FP.Core.fieldE at h1
      unfold FP.Core.fieldT at h2
      rw [zq_t, zq_x] at h1
      rw [zq_t] at h2
      exact absurd h (by omega)
  · split
    · exact Or.inr ⟨_, _, _, rfl⟩
    · exact Or.inr ⟨_, _, _, rfl⟩
def zq_ok : FP.Core.Datum → Bool
  | .fin _ c _ => c != 0
  | _ => false
theorem zq_y : ∀ k, k < 7 → k ≠ 0 → zq_ok (FP.Core.decode FP.Core.b64 (FP.i2d (zi ((k : Nat) : Int))).toNat) = true := by decide +kernel
theorem zq_quo {x : Nat} (hx : x % 9223372036854775808 ≤ 9218868437227405312) {d : FP.Core.Datum} (hd : zq_ok d = true) : FP.Core.encode FP.Core.b64 (FP.Core.quotient FP.Core.b64 (FP.Core.decode FP.Core.b64 x) d) % 9223372036854775808 ≤ 9218868437227405312 := by
  cases d with
  | nan => cases hd
  | inf s => cases hd
  | fin t c r =>
    have hc : ¬ c = 0 := fun e => by subst e; cases hd
    rcases zq_dec hx with ⟨s, e⟩ | ⟨s, b, q, e⟩
    · rw [e]
      exact zq_inf _
    · rw [e]
      show FP.Core.encode FP.Core.b64 (if c = 0 then _ else FP.Core.roundRatio FP.Core.b64 (s != t) b c (q - r)) % 9223372036854775808 ≤ 9218868437227405312
      rw [if_neg hc]
      exact zq_rr _ _ _ _
theorem zq_i2d (a : Int32) : (FP.i2d a).toNat % 9223372036854775808 ≤ 9218868437227405312 := by
  show (UInt64.ofNat (FP.Core.encode FP.Core.b64 (FP.Core.roundRatio FP.Core.b64 (decide (a.toInt < 0)) a.toInt.natAbs 1 0))).toNat % 9223372036854775808 ≤ 9218868437227405312
  rw [UInt64.toNat_ofNat']
  have := zq_rr (decide (a.toInt < 0)) a.toInt.natAbs 1 0
  omega
theorem zq_div (a : Int32) {k : Nat} (h : k < 7) (h0 : k ≠ 0) : FP.ddiv (FP.i2d a) (FP.i2d (zi ((k : Nat) : Int))) &&& 0x7fffffffffffffff ≤ 0x7ff0000000000000 :=
  zq_msk (zq_quo (zq_i2d a) (zq_y k h h0))
/-- the steps of the first travellers, and the mean -/
def sStp (s : Int → Int) : Nat → Int
  | 0 => 0
  | k + 1 => sStp s k + s (214 + 7 * (k : Int) + 6)
theorem sStp_rng {s : Int → Int} (h : mOk s) : ∀ k : Nat, (k : Int) ≤ s 5 → 0 ≤ sStp s k ∧ sStp s k ≤ 30000 * k := by
  intro k
  induction k with
  | zero => intro _; exact ⟨Int.le_refl _, Int.le_refl _⟩
  | succ k ih =>
    intro hk
    obtain ⟨a0, a1, a2, a3, a4, a5, hfog, hc, hl, hw⟩ := h
    obtain ⟨-, -, -, -, e1, e2⟩ := hw (k : Int) (by omega) (by omega)
    have := ih (by omega)
    show 0 ≤ sStp s k + s (214 + 7 * (k : Int) + 6) ∧ sStp s k + s (214 + 7 * (k : Int) + 6) ≤ 30000 * ((k + 1 : Nat) : Int)
    omega
noncomputable def sMean (s : Int → Int) : UInt64 := if s 5 = 0 then FP.dconst0 else FP.ddiv (FP.i2d (zi (sStp s (s 5).toNat))) (FP.i2d (zi (s 5)))
end QD
