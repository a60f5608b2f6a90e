/-! The reference model: more calls (printed by wip/whole/src21.py). -/
theorem zi_nat (k : Nat) : zi (k : Int) = nI k := Int32.ofInt_eq_ofNat
theorem bt_1 : ∀ i, i < 32 → bt 1 i = decide (i = 0) := by decide +kernel
theorem zhas_bt {m l : Int} (h0 : 0 ≤ l) (h1 : l < 31) : zhas m l ↔ bt (zi m) l.toNat = true := by
  obtain ⟨k, rfl⟩ : ∃ k : Nat, l = k := ⟨l.toNat, by omega⟩
  have e1 : zi (zshr m k) = zi m >>> (nI k &&& 31) := by
    unfold zshr
    rw [zi_of, zi_nat]
  have e2 : zand (zshr m k) 1 = (zi m >>> (nI k &&& 31) &&& 1).toInt := by
    unfold zand
    rw [e1, ← zi_1]
  have e3 : bt (zi m >>> (nI k &&& 31)) 0 = bt (zi m) k := by
    rw [b_sshr k (by omega) _ (by omega), if_pos (by omega), Nat.add_zero]
  show zand (zshr m k) 1 = 1 ↔ _
  rw [e2, Int.toNat_natCast, ← e3]
  generalize zi m >>> (nI k &&& 31) = a
  constructor
  · intro h
    have h1 : a &&& 1 = 1 := Int32.toInt_inj.mp (h.trans (by decide +kernel : (1 : Int) = (1 : Int32).toInt))
    have h2 := b_and a 1 0
    rw [h1, bt_1 0 (by decide)] at h2
    cases hb : bt a 0 with
    | true => rfl
    | false =>
      rw [hb] at h2
      exact absurd h2 (by decide)
  · intro h
    have h1 : a &&& 1 = 1 := b_ext (fun i hi => by
      rw [b_and, bt_1 i hi]
      by_cases e : i = 0
      · subst e
        rw [h]
        rfl
      · rw [decide_eq_false e, Bool.and_false])
    rw [h1]
    decide +kernel
theorem zhas_add {m l j : Int} (hl : 0 ≤ l ∧ l < 31) (hj : 0 ≤ j ∧ j < 31) : zhas (zadd m l) j ↔ zhas m j ∨ j = l := by
  rw [zhas_bt hj.1 hj.2, zhas_bt hj.1 hj.2]
  obtain ⟨k, rfl⟩ : ∃ k : Nat, l = k := ⟨l.toNat, by omega⟩
  obtain ⟨i, rfl⟩ : ∃ i : Nat, j = i := ⟨j.toNat, by omega⟩
  have e1 : zi (zadd m k) = zi m ||| (zi 1 <<< (nI k &&& 31)) := by
    unfold zadd zor zshl
    rw [zi_of, zi_of, zi_nat]
  have hb : bt (zi 1 <<< (nI k &&& 31)) i = decide (i = k) := by
    rw [b_shl k (by omega) _ (by omega), ← zi_1, bt_1 (i - k) (by omega)]
    rcases Nat.lt_or_ge i k with h | h
    · rw [decide_eq_false (by omega : ¬ k ≤ i), decide_eq_false (by omega : ¬ i = k)]
      rfl
    · by_cases e : i = k
      · rw [decide_eq_true (by omega : k ≤ i), decide_eq_true (by omega : i - k = 0), decide_eq_true e]
        rfl
      · rw [decide_eq_true (by omega : k ≤ i), decide_eq_false (by omega : ¬ i - k = 0), decide_eq_false e]
        rfl
  rw [e1, Int.toNat_natCast, b_or, hb, Bool.or_eq_true, decide_eq_true_iff]
  exact ⟨fun h => h.imp id (fun e => by omega), fun h => h.imp id (fun e => by omega)⟩
theorem zhas_0 {l : Int} (h0 : 0 ≤ l) (h1 : l < 31) : ¬ zhas 0 l := by
  rw [zhas_bt h0 h1, ← zi_0, b_0]
  decide
theorem zhas_01 (m l : Int) : zand (zshr m l) 1 = 0 ∨ zand (zshr m l) 1 = 1 := by
  have e2 : zand (zshr m l) 1 = (zi (zshr m l) &&& 1).toInt := by
    unfold zand
    rw [← zi_1]
  rw [e2]
  generalize zi (zshr m l) = a
  cases h : bt a 0 with
  | true =>
    right
    have h1 : a &&& 1 = 1 := b_ext (fun i hi => by
      rw [b_and, bt_1 i hi]
      by_cases e : i = 0
      · subst e
        rw [h]
        rfl
      · rw [decide_eq_false e, Bool.and_false])
    rw [h1]
    decide +kernel
  | false =>
    left
    have h1 : a &&& 1 = 0 := b_ext (fun i hi => by
      rw [b_and, bt_1 i hi, b_0]
      by_cases e : i = 0
      · subst e
        rw [h]
        rfl
      · rw [decide_eq_false e, Bool.and_false])
    rw [h1]
    decide +kernel
/-- whether a light leads astray: by how many lights may still be looked at, the light, those seen -/
def sAst (s : Int → Int) : Nat → Int → Int → Int
  | 0, _, _ => 0
  | k + 1, c, seen => if c < 0 then 0 else if s (174 + 5 * c + 3) = 0 ∨ zhas seen c then 1 else sAst s k (s (174 + 5 * c + 4)) (zadd seen c)
abbrev zSn (seen : Int) (j : Int) : Prop := (0 ≤ j ∧ j < 8) ∧ zhas seen j
theorem zSn_add {seen c : Int} (h0 : 0 ≤ c) (h1 : c < 8) (h : ¬ zhas seen c) : zcnt (zSn (zadd seen c)) 8 = zcnt (zSn seen) 8 + 1 := by
  obtain ⟨k, hk⟩ : ∃ k : Nat, c = k := ⟨c.toNat, by omega⟩
  refine zcnt_add k (fun hh => ?_) ?_ (fun j hj => ?_) 8 (by omega)
  · rw [← hk] at hh
    exact h hh.2
  · rw [← hk]
    exact ⟨⟨h0, h1⟩, (zhas_add ⟨h0, by omega⟩ ⟨h0, by omega⟩).mpr (Or.inr rfl)⟩
  · constructor
    · intro hh
      exact ⟨hh.1, (zhas_add ⟨h0, by omega⟩ ⟨hh.1.1, by omega⟩).mpr (Or.inl hh.2)⟩
    · intro hh
      refine ⟨hh.1, ((zhas_add ⟨h0, by omega⟩ ⟨hh.1.1, by omega⟩).mp hh.2).elim id (fun e => ?_)⟩
      exact absurd (e.trans hk) hj
theorem sAst_01 (s : Int → Int) : ∀ (k : Nat) (c seen : Int), sAst s k c seen = 0 ∨ sAst s k c seen = 1 := by
  intro k
  induction k with
  | zero => intro c seen; exact Or.inl rfl
  | succ k ih =>
    intro c seen
    unfold sAst
    split
    · exact Or.inl rfl
    · split
      · exact Or.inr rfl
      · exact ih _ _
def sPlankRow (s : Int → Int) (y : Int) : Int := zcnt (fun x => 10 < s (30 + 12 * y + x)) (s 0).toNat
def sPlanks (s : Int → Int) : Int := zsum (sPlankRow s) (s 1).toNat
theorem zBI_go {W H : Int} {wt : Int → Prop} [DecidablePred wt] {go go' : Int → Prop} {mk : Prop} {c dn tl : Int} {q st : Int → Int} (h : zBI W H wt go mk c dn tl q st) (e : ∀ p, zVal W H p → (go p ↔ go' p)) : zBI W H wt go' mk c dn tl q st := by
  obtain ⟨h1, h2, h3, h4, h5, h6, h7, h8, h8', h9, h10⟩ := h
  exact ⟨h1, h2, h3, h4, h5, fun p pv => (e p pv).symm.trans (h6 p pv), h7, h8, h8', h9, h10⟩
theorem zDist_go {W H : Int} {wt : Int → Prop} {go go' : Int → Prop} {mk : Prop} {st : Int → Int} (h : zDist W H wt go mk st) (e : ∀ p, zVal W H p → (go p ↔ go' p)) : zDist W H wt go' mk st := ⟨h.1, fun p pv => (e p pv).symm.trans (h.2.1 p pv), h.2.2⟩
/-- the huts before a place -/
abbrev zHu (s : Int → Int) (t p : Int) : Prop := zVal (s 0) (s 1) p ∧ s (30 + p) = 2 ∧ p < t
noncomputable def zsh (s : Int → Int) : Int → Int := @dite _ (∃ st, zDist (s 0) (s 1) (mWt s) (fun p => s (30 + p) = 2) False st) (Classical.propDecidable _) (fun h => Classical.choose h) (fun _ _ => -1)
theorem zsh_spec {s st : Int → Int} (h : zDist (s 0) (s 1) (mWt s) (fun p => s (30 + p) = 2) False st) : zDist (s 0) (s 1) (mWt s) (fun p => s (30 + p) = 2) False (zsh s) := by
  unfold zsh
  rw [dif_pos ⟨st, h⟩]
  exact Classical.choose_spec (⟨st, h⟩ : ∃ st, zDist (s 0) (s 1) (mWt s) (fun p => s (30 + p) = 2) False st)
theorem cM_astray_l {N : Nat} {G F : GM} {n : Nat} {r : Nat} (hr : z_sh r = (1, 256, [])) (hrN : r < N) (hl4 : 0 ≤ G r 4 ∧ G r 4 ≤ 8) (hq : ∀ l, 0 ≤ l → l < G r 4 → mLt (G r) l) (hn : ∀ l, 0 ≤ l → l < G r 4 → G r (174 + 5 * l + 4) < G r 4) {l0 : Int} : ∀ (d : Nat) (c seen : Int), 9 ≤ zcnt (zSn seen) 8 + (d : Int) → zcnt (zSn seen) 8 ≤ 8 → c < G r 4 → zr c → zW N 32 4 [.ref r, .int (zi l0), .int (zi c), .int (zi seen)] [] G F n (fun o G' F' n' => o = .inl (some (.int (zi (sAst (G r) d c seen)))) ∧ G' = G ∧ F' = F ∧ n' = n) := by
  intro d
  induction d with
  | zero =>
    intro c seen hd hz hc hcr
    exact absurd hd (by omega)
  | succ d ih =>
    intro c seen hd hz hc hcr
    refine zs_iload (ip' := 5) rfl rfl rfl ?_
    refine zs_if_lt (t := 31) (ip' := 6) rfl rfl (by omega) ?_ ?_
    · intro h5
      refine zs_pushI (ip' := 32) rfl rfl zi_k0 ?_
      refine zW_0b rfl (Or.inl rfl) ?_
      exact zfin (if_pos h5).symm
    · intro h5
      obtain ⟨⟨-, -⟩, ⟨-, -⟩, ⟨-, -⟩, ⟨l3, l3'⟩, l4, l4'⟩ := hq c h5 hc
      have hn' := hn c h5 hc
      refine zs_aload (ip' := 7) rfl rfl rfl ?_
      refine zs_iload (ip' := 8) rfl rfl rfl ?_
      refine zs_pushI (ip' := 9) rfl rfl zi_k3 ?_
      refine zW_cP (ip' := 10) rfl rfl cM_lightAt rfl rfl rfl ?_
      refine zs_iald (ip' := 11) rfl rfl hrN hr (by omega) ?_
      intro hl10 hu10
      refine zs_if_eq (t := 16) (ip' := 12) rfl rfl (by omega) ?_ ?_
      · intro h11
        refine zs_pushI (ip' := 17) rfl rfl zi_k1 ?_
        refine zW_0b rfl (Or.inr rfl) ?_
        exact zfin ((if_neg (by omega)).trans (if_pos (Or.inl h11))).symm
      · intro h11
        refine zs_iload (ip' := 13) rfl rfl rfl ?_
        refine zs_iload (ip' := 14) rfl rfl rfl ?_
        refine zW_cP (ip' := 15) rfl rfl cM_has rfl rfl rfl ?_
        refine zs_if_eqB (t := 18) (ip' := 16) rfl rfl ?_ ?_
        · intro h15
          refine zs_iload (ip' := 19) rfl rfl rfl ?_
          refine zs_pushI (ip' := 20) rfl rfl zi_k1 ?_
          refine zs_iload (ip' := 21) rfl rfl rfl ?_
          refine zs_ishl (ip' := 22) rfl rfl ?_
          refine zs_ior (ip' := 23) rfl rfl ?_
          refine zs_istore3 (ip' := 24) rfl rfl ?_
          refine zs_aload (ip' := 25) rfl rfl rfl ?_
          refine zs_iload (ip' := 26) rfl rfl rfl ?_
          refine zs_pushI (ip' := 27) rfl rfl zi_k4 ?_
          refine zW_cP (ip' := 28) rfl rfl cM_lightAt rfl rfl rfl ?_
          refine zs_iald (ip' := 29) rfl rfl hrN hr (by omega) ?_
          intro hl28 hu28
          refine zs_istore2 (ip' := 30) rfl rfl ?_
          refine zs_goto (t := 4) rfl ?_
          have e : sAst (G r) (d + 1) c seen = sAst (G r) d (G r (174 + 5 * c + 4)) (zadd seen c) := (if_neg (by omega)).trans (if_neg (fun q => q.elim h11 h15))
          rw [e]
          have ez := zSn_add h5 (by omega) h15
          have ez2 := (zcnt_rng (zSn (zadd seen c)) 8).2
          exact ih _ _ (by show _ ≤ zcnt (zSn (zadd seen c)) 8 + _; omega) ez2 hn' ⟨hl28, hu28⟩
        · intro h15
          refine zs_pushI (ip' := 17) rfl rfl zi_k1 ?_
          refine zW_0b rfl (Or.inr rfl) ?_
          exact zfin ((if_neg (by omega)).trans (if_pos (Or.inr h15))).symm
theorem cM_isAstray {N : Nat} {G F : GM} {n : Nat} {r : Nat} (hr : z_sh r = (1, 256, [])) (hrN : r < N) {l : Int} (hl4 : 0 ≤ G r 4 ∧ G r 4 ≤ 8) (hq : ∀ l, 0 ≤ l → l < G r 4 → mLt (G r) l) (hn : ∀ l, 0 ≤ l → l < G r 4 → G r (174 + 5 * l + 4) < G r 4) (hl : l < G r 4) (hlr : zr l) : zPu N 32 [.ref r, .int (zi l)] (sAst (G r) 9 l 0) G F n := by
  refine zPu_i (L0 := [.ref r, .int (zi l), .null, .null]) rfl ?_
  refine zs_iload (ip' := 1) rfl rfl rfl ?_
  refine zs_istore2 (ip' := 2) rfl rfl ?_
  refine zs_pushI (ip' := 3) rfl rfl zi_k0 ?_
  refine zs_istore3 (ip' := 4) rfl rfl ?_
  exact cM_astray_l hr hrN hl4 hq hn 9 l 0 (by have := (zcnt_rng (zSn 0) 8).1; omega) (zcnt_rng _ 8).2 hl hlr
theorem mOk_nx {s : Int → Int} (h : mOk s) (l : Int) (h0 : 0 ≤ l) (h1 : l < s 4) : s (174 + 5 * l + 4) < s 4 := (h.2.2.2.2.2.2.2.2.1 l h0 h1).2.2.2.2.2
theorem zW_0bi {N y ip m : Nat} {L : List Value} {G F : GM} {n : Nat} {Q : Zq} {v : Int} (ht : ztab N y ip = some (.inr (0, 1, m))) (hv : v = 0 ∨ v = 1) (k : Q (.inl (some (.int (zi v)))) G F n) : zW N y ip L [.int (zi v)] G F n Q := zW_0b ht hv k
def q_leadsAstray (s : Int → Int) (l : Int) : Int × Int := if 0 ≤ l ∧ l ≤ s 4 - 1 then (0, sAst s 9 l 0) else (1, 0)
theorem cP_leadsAstray {N : Nat} {G F : GM} {n : Nat} (hN : 241 ≤ N) (hok : mOk (G 231)) {l : Int} (hl : zr l) : zC N 89 [.ref 230, .int (zi l)] G F n (zQm G F n (q_leadsAstray (G 231) l)) := by
  refine zC_i (L0 := [.ref 230, .int (zi l)]) rfl ?_
  refine zs_aload (ip' := 1) rfl rfl rfl ?_
  refine zs_pushI (ip' := 2) rfl rfl zi_k0 ?_
  refine zs_putI (ip' := 3) rfl rfl (by omega) zsh_230 rfl (q := 10) rfl (by omega) ?_
  have hm := zMk_0 (G := G) (t := 0)
  generalize zk G 230 (zp (G 230) 10 0) = G1 at hm ⊢
  have e1 := zMk_r hm
  rw [← e1] at hok ⊢
  have b0 := hok.1
  have b1 := hok.2.1
  have b4 := hok.2.2.2.2.1
  have b5 := hok.2.2.2.2.2.1
  refine zs_aload (ip' := 4) rfl rfl rfl ?_
  refine zs_iload (ip' := 5) rfl rfl rfl ?_
  refine zW_cP (ip' := 6) rfl rfl (cM_isLight hN (by omega) hl) rfl rfl (z_ok3 (by omega) zsh_230 rfl rfl rfl) ?_
  refine zs_if_eqB (t := 12) (ip' := 7) rfl rfl ?_ ?_
  · intro h6
    refine zs_aload (ip' := 13) rfl rfl rfl ?_
    refine zs_pushI (ip' := 14) rfl rfl zi_k1 ?_
    refine zW_cR (ip' := 15) rfl rfl (cM_isFailed hN (by decide)) rfl rfl (z_ok3 (by omega) zsh_230 rfl rfl rfl) ?_
    rintro v G' F' n' _ ⟨rfl, rfl, rfl, rfl⟩
    refine zW_0b rfl (Or.inl rfl) ?_
    exact zQ_no hm (if_neg h6)
  · intro h6
    refine zs_aload (ip' := 8) rfl rfl rfl ?_
    refine zs_getR (ip' := 9) rfl rfl (r := 231) (by omega) zsh_230 rfl ?_
    refine zs_iload (ip' := 10) rfl rfl rfl ?_
    refine zW_cP (ip' := 11) rfl rfl (cM_isAstray zsh_231 (by omega) b4 (fun l l0 l1 => mOk_lt hok l0 l1) (mOk_nx hok) (by omega) (by omega)) rfl rfl rfl ?_
    refine zs_goto (t := 15) rfl ?_
    refine zW_0b rfl (sAst_01 _ _ _ _) ?_
    exact zQ_ok hm (if_pos h6)
theorem cM_planks_i {N : Nat} {G F : GM} {n : Nat} (hN : 241 ≤ N) (hb : (0 ≤ G 231 0 ∧ G 231 0 ≤ 12) ∧ 0 ≤ G 231 1 ∧ G 231 1 ≤ 12) {K : Nat} (hK : (K : Int) < G 231 1) {Q : Zq} (hk : ∀ a3 : Value, zW N 72 4 [.ref 230, .int (zi (zsum (sPlankRow (G 231)) (K + 1))), .int (zi ((K : Int) + 1)), a3] [] G F n Q) : ∀ (d : Nat) (k : Nat), G 231 0 - k < (d : Int) → (k : Int) ≤ G 231 0 → zW N 72 12 [.ref 230, .int (zi (zsum (sPlankRow (G 231)) K + zcnt (fun x => 10 < G 231 (30 + 12 * (K : Int) + x)) k)), .int (zi (K : Int)), .int (zi (k : Int))] [] G F n Q := by
  intro d
  induction d with
  | zero =>
    intro k hd hj
    exact absurd hd (by omega)
  | succ d ih =>
    intro k hd hj
    refine zs_iload (ip' := 13) rfl rfl rfl ?_
    refine zs_aload (ip' := 14) rfl rfl rfl ?_
    refine zs_getR (ip' := 15) rfl rfl (r := 231) (by omega) zsh_230 rfl ?_
    refine zs_pushI (ip' := 16) rfl rfl zi_k0 ?_
    refine zs_iald (ip' := 17) rfl rfl (by omega) zsh_231 (by omega) ?_
    intro hl16 hu16
    refine zs_icmp_ge (t := 29) (ip' := 18) rfl rfl (by omega) (by omega) ?_ ?_
    · intro h17
      refine zs_iinc2 (ip' := 30) rfl rfl zi_k1 ?_
      refine zs_goto (t := 4) rfl ?_
      have e : zsum (sPlankRow (G 231)) K + zcnt (fun x => 10 < G 231 (30 + 12 * (K : Int) + x)) k = zsum (sPlankRow (G 231)) (K + 1) := by
        rw [show k = (G 231 0).toNat by omega]
        rfl
      rw [e]
      exact hk _
    · intro h17
      refine zs_aload (ip' := 19) rfl rfl rfl ?_
      refine zs_getR (ip' := 20) rfl rfl (r := 231) (by omega) zsh_230 rfl ?_
      refine zs_iload (ip' := 21) rfl rfl rfl ?_
      refine zs_iload (ip' := 22) rfl rfl rfl ?_
      refine zW_cP (ip' := 23) rfl rfl cM_cellAt rfl rfl rfl ?_
      refine zs_iald (ip' := 24) rfl rfl (by omega) zsh_231 (by omega) ?_
      intro hl23 hu23
      refine zs_pushI (ip' := 25) rfl rfl zi_k10 ?_
      refine zs_icmp_le (t := 27) (ip' := 26) rfl rfl (by omega) (by omega) ?_ ?_
      · intro h25
        refine zs_iinc3 (ip' := 28) rfl rfl zi_k1 ?_
        refine zs_goto (t := 12) rfl ?_
        have e : zcnt (fun x => 10 < G 231 (30 + 12 * (K : Int) + x)) (k + 1) = zcnt (fun x => 10 < G 231 (30 + 12 * (K : Int) + x)) k := by
          show _ + (if 10 < G 231 (30 + 12 * (K : Int) + (k : Int)) then 1 else 0) = _
          rw [if_neg (by omega), Int.add_zero]
        have := ih (k + 1) (by omega) (by omega)
        rw [e] at this
        exact this
      · intro h25
        refine zs_iinc1 (ip' := 27) rfl rfl zi_k1 ?_
        refine zs_iinc3 (ip' := 28) rfl rfl zi_k1 ?_
        refine zs_goto (t := 12) rfl ?_
        have e : zcnt (fun x => 10 < G 231 (30 + 12 * (K : Int) + x)) (k + 1) = zcnt (fun x => 10 < G 231 (30 + 12 * (K : Int) + x)) k + 1 := by
          show _ + (if 10 < G 231 (30 + 12 * (K : Int) + (k : Int)) then 1 else 0) = _
          rw [if_pos h25]
        have := ih (k + 1) (by omega) (by omega)
        rw [e, ← Int.add_assoc] at this
        exact this
theorem cM_planks_o {N : Nat} {G F : GM} {n : Nat} (hN : 241 ≤ N) (hb : (0 ≤ G 231 0 ∧ G 231 0 ≤ 12) ∧ 0 ≤ G 231 1 ∧ G 231 1 ≤ 12) : ∀ (d : Nat) (k : Nat) (a3 : Value), G 231 1 - k < (d : Int) → (k : Int) ≤ G 231 1 → zW N 72 4 [.ref 230, .int (zi (zsum (sPlankRow (G 231)) k)), .int (zi (k : Int)), a3] [] G F n (fun o G' F' n' => o = .inl (some (.int (zi (sPlanks (G 231))))) ∧ G' = G ∧ F' = F ∧ n' = n) := by
  intro d
  induction d with
  | zero =>
    intro k a3 hd hj
    exact absurd hd (by omega)
  | succ d ih =>
    intro k a3 hd hj
    refine zs_iload (ip' := 5) rfl rfl rfl ?_
    refine zs_aload (ip' := 6) rfl rfl rfl ?_
    refine zs_getR (ip' := 7) rfl rfl (r := 231) (by omega) zsh_230 rfl ?_
    refine zs_pushI (ip' := 8) rfl rfl zi_k1 ?_
    refine zs_iald (ip' := 9) rfl rfl (by omega) zsh_231 (by omega) ?_
    intro hl8 hu8
    refine zs_icmp_ge (t := 31) (ip' := 10) rfl rfl (by omega) (by omega) ?_ ?_
    · intro h9
      refine zs_iload (ip' := 32) rfl rfl rfl ?_
      refine zW_0 rfl ?_
      exact zfin (congrArg (zsum (sPlankRow (G 231))) (by omega))
    · intro h9
      refine zs_pushI (ip' := 11) rfl rfl zi_k0 ?_
      refine zs_istore3 (ip' := 12) rfl rfl ?_
      have := cM_planks_i (K := k) hN hb h9 (fun a3 => ih (k + 1) a3 (by omega) (by omega)) 13 0 (by omega) (by omega)
      rw [show zcnt (fun x => 10 < G 231 (30 + 12 * (k : Int) + x)) 0 = 0 from rfl, Int.add_zero] at this
      exact this
theorem cM_planks {N : Nat} {G F : GM} {n : Nat} (hN : 241 ≤ N) (hb : (0 ≤ G 231 0 ∧ G 231 0 ≤ 12) ∧ 0 ≤ G 231 1 ∧ G 231 1 ≤ 12) : zPu N 72 [.ref 230] (sPlanks (G 231)) G F n := by
  refine zPu_i (L0 := [.ref 230, .null, .null, .null]) rfl ?_
  refine zs_pushI (ip' := 1) rfl rfl zi_k0 ?_
  refine zs_istore1 (ip' := 2) rfl rfl ?_
  refine zs_pushI (ip' := 3) rfl rfl zi_k0 ?_
  refine zs_istore2 (ip' := 4) rfl rfl ?_
  exact cM_planks_o hN hb 13 0 _ (by omega) (by omega)
theorem cP_plankCount {N : Nat} {G F : GM} {n : Nat} (hN : 241 ≤ N) (hok : mOk (G 231)) : zC N 73 [.ref 230] G F n (zQm G F n (((0 : Int), sPlanks (G 231)))) := by
  refine zC_i (L0 := [.ref 230]) rfl ?_
  refine zs_aload (ip' := 1) rfl rfl rfl ?_
  refine zs_pushI (ip' := 2) rfl rfl zi_k0 ?_
  refine zs_putI (ip' := 3) rfl rfl (by omega) zsh_230 rfl (q := 10) rfl (by omega) ?_
  have hm := zMk_0 (G := G) (t := 0)
  generalize zk G 230 (zp (G 230) 10 0) = G1 at hm ⊢
  have e1 := zMk_r hm
  rw [← e1] at hok ⊢
  have b0 := hok.1
  have b1 := hok.2.1
  have b4 := hok.2.2.2.2.1
  have b5 := hok.2.2.2.2.2.1
  refine zs_aload (ip' := 4) rfl rfl rfl ?_
  refine zW_cP (ip' := 5) rfl rfl (cM_planks hN (mOk_hb hok)) rfl rfl (z_ok3 (by omega) zsh_230 rfl rfl rfl) ?_
  refine zW_0 rfl ?_
  exact zQ_ok hm (rfl)
theorem cM_followers_l {N : Nat} {G F : GM} {n : Nat} (hN : 241 ≤ N) {l : Int} (hl : zr l) (h5 : 0 ≤ G 231 5 ∧ G 231 5 ≤ 6) {Q : Zq} (hQ : Q (.inl (some (.int (zi (zcnt (fun w => G 231 (214 + 7 * w + 2) = 0 ∧ G 231 (214 + 7 * w + 3) = l) (G 231 5).toNat))))) G F n) : ∀ (d : Nat) (k : Nat), G 231 5 - k < (d : Int) → (k : Int) ≤ G 231 5 → zW N 88 15 [.ref 230, .int (zi l), .int (zi (zcnt (fun w => G 231 (214 + 7 * w + 2) = 0 ∧ G 231 (214 + 7 * w + 3) = l) k)), .int (zi (k : Int))] [] G F n Q := by
  intro d
  induction d with
  | zero =>
    intro k hd hj
    exact absurd hd (by omega)
  | succ d ih =>
    intro k hd hj
    refine zs_iload (ip' := 16) rfl rfl rfl ?_
    refine zs_aload (ip' := 17) rfl rfl rfl ?_
    refine zs_getR (ip' := 18) rfl rfl (r := 231) (by omega) zsh_230 rfl ?_
    refine zs_pushI (ip' := 19) rfl rfl zi_k5 ?_
    refine zs_iald (ip' := 20) rfl rfl (by omega) zsh_231 (by omega) ?_
    intro hl19 hu19
    refine zs_icmp_ge (t := 39) (ip' := 21) rfl rfl (by omega) (by omega) ?_ ?_
    · intro h20
      refine zs_iload (ip' := 40) rfl rfl rfl ?_
      refine zW_0 rfl ?_
      rw [show k = (G 231 5).toNat by omega]
      exact hQ
    · intro h20
      refine zs_aload (ip' := 22) rfl rfl rfl ?_
      refine zs_getR (ip' := 23) rfl rfl (r := 231) (by omega) zsh_230 rfl ?_
      refine zs_iload (ip' := 24) rfl rfl rfl ?_
      refine zs_pushI (ip' := 25) rfl rfl zi_k2 ?_
      refine zW_cP (ip' := 26) rfl rfl cM_walkerAt rfl rfl rfl ?_
      refine zs_iald (ip' := 27) rfl rfl (by omega) zsh_231 (by omega) ?_
      intro hl26 hu26
      refine zs_if_ne (t := 37) (ip' := 28) rfl rfl (by omega) ?_ ?_
      · intro h27
        refine zs_iinc3 (ip' := 38) rfl rfl zi_k1 ?_
        refine zs_goto (t := 15) rfl ?_
        have e : zcnt (fun w => G 231 (214 + 7 * w + 2) = 0 ∧ G 231 (214 + 7 * w + 3) = l) (k + 1) = zcnt (fun w => G 231 (214 + 7 * w + 2) = 0 ∧ G 231 (214 + 7 * w + 3) = l) k := by
          show _ + (if G 231 (214 + 7 * (k : Int) + 2) = 0 ∧ G 231 (214 + 7 * (k : Int) + 3) = l then 1 else 0) = _
          rw [if_neg (fun q => h27 q.1), Int.add_zero]
        have := ih (k + 1) (by omega) (by omega)
        rw [e] at this
        exact this
      · intro h27
        refine zs_aload (ip' := 29) rfl rfl rfl ?_
        refine zs_getR (ip' := 30) rfl rfl (r := 231) (by omega) zsh_230 rfl ?_
        refine zs_iload (ip' := 31) rfl rfl rfl ?_
        refine zs_pushI (ip' := 32) rfl rfl zi_k3 ?_
        refine zW_cP (ip' := 33) rfl rfl cM_walkerAt rfl rfl rfl ?_
        refine zs_iald (ip' := 34) rfl rfl (by omega) zsh_231 (by omega) ?_
        intro hl33 hu33
        refine zs_iload (ip' := 35) rfl rfl rfl ?_
        refine zs_icmp_ne (t := 37) (ip' := 36) rfl rfl (by omega) (by omega) ?_ ?_
        · intro h35
          refine zs_iinc3 (ip' := 38) rfl rfl zi_k1 ?_
          refine zs_goto (t := 15) rfl ?_
          have e : zcnt (fun w => G 231 (214 + 7 * w + 2) = 0 ∧ G 231 (214 + 7 * w + 3) = l) (k + 1) = zcnt (fun w => G 231 (214 + 7 * w + 2) = 0 ∧ G 231 (214 + 7 * w + 3) = l) k := by
            show _ + (if G 231 (214 + 7 * (k : Int) + 2) = 0 ∧ G 231 (214 + 7 * (k : Int) + 3) = l then 1 else 0) = _
            rw [if_neg (fun q => h35 q.2), Int.add_zero]
          have := ih (k + 1) (by omega) (by omega)
          rw [e] at this
          exact this
        · intro h35
          refine zs_iinc2 (ip' := 37) rfl rfl zi_k1 ?_
          refine zs_iinc3 (ip' := 38) rfl rfl zi_k1 ?_
          refine zs_goto (t := 15) rfl ?_
          have e : zcnt (fun w => G 231 (214 + 7 * w + 2) = 0 ∧ G 231 (214 + 7 * w + 3) = l) (k + 1) = zcnt (fun w => G 231 (214 + 7 * w + 2) = 0 ∧ G 231 (214 + 7 * w + 3) = l) k + 1 := by
            show _ + (if G 231 (214 + 7 * (k : Int) + 2) = 0 ∧ G 231 (214 + 7 * (k : Int) + 3) = l then 1 else 0) = _
            rw [if_pos ⟨h27, h35⟩]
          have := ih (k + 1) (by omega) (by omega)
          rw [e] at this
          exact this
def q_followers (s : Int → Int) (l : Int) : Int × Int := if 0 ≤ l ∧ l ≤ s 4 - 1 then (0, zcnt (fun w => s (214 + 7 * w + 2) = 0 ∧ s (214 + 7 * w + 3) = l) (s 5).toNat) else (1, 0)
theorem cP_followers {N : Nat} {G F : GM} {n : Nat} (hN : 241 ≤ N) (hok : mOk (G 231)) {l : Int} (hl : zr l) : zC N 88 [.ref 230, .int (zi l)] G F n (zQm G F n (q_followers (G 231) l)) := by
  refine zC_i (L0 := [.ref 230, .int (zi l), .null, .null]) rfl ?_
  refine zs_aload (ip' := 1) rfl rfl rfl ?_
  refine zs_pushI (ip' := 2) rfl rfl zi_k0 ?_
  refine zs_putI (ip' := 3) rfl rfl (by omega) zsh_230 rfl (q := 10) rfl (by omega) ?_
  have hm := zMk_0 (G := G) (t := 0)
  generalize zk G 230 (zp (G 230) 10 0) = G1 at hm ⊢
  have e1 := zMk_r hm
  rw [← e1] at hok ⊢
  have b0 := hok.1
  have b1 := hok.2.1
  have b4 := hok.2.2.2.2.1
  have b5 := hok.2.2.2.2.2.1
  refine zs_aload (ip' := 4) rfl rfl rfl ?_
  refine zs_iload (ip' := 5) rfl rfl rfl ?_
  refine zW_cP (ip' := 6) rfl rfl (cM_isLight hN (by omega) hl) rfl rfl (z_ok3 (by omega) zsh_230 rfl rfl rfl) ?_
  refine zs_if_neB (t := 11) (ip' := 7) rfl rfl ?_ ?_
  · intro h6
    refine zs_pushI (ip' := 12) rfl rfl zi_k0 ?_
    refine zs_istore2 (ip' := 13) rfl rfl ?_
    refine zs_pushI (ip' := 14) rfl rfl zi_k0 ?_
    refine zs_istore3 (ip' := 15) rfl rfl ?_
    exact cM_followers_l hN hl b5 (zQ_ok hm (if_pos h6)) 7 0 (by omega) (by omega)
  · intro h6
    refine zs_aload (ip' := 8) rfl rfl rfl ?_
    refine zs_pushI (ip' := 9) rfl rfl zi_k1 ?_
    refine zW_cR (ip' := 10) rfl rfl (cM_fails hN (by decide)) rfl rfl (z_ok3 (by omega) zsh_230 rfl rfl rfl) ?_
    rintro v G' F' n' _ ⟨rfl, rfl, rfl, rfl⟩
    refine zW_0 rfl ?_
    exact zQ_no hm (if_neg h6)
def q_isTrueLight (s : Int → Int) (l : Int) : Int × Int := if 0 ≤ l ∧ l ≤ s 4 - 1 then (0, zb (s (174 + 5 * l + 3) = 1)) else (1, 0)
theorem q_isTrueLight_2 (s : Int → Int) (l : Int) : q_isTrueLight s l = ((q_light s l 3).1, zb ((q_light s l 3).2 = 1)) := by
  unfold q_isTrueLight q_light
  by_cases e : 0 ≤ l ∧ l ≤ s 4 - 1
  · rw [if_pos e, if_pos e]
  · rw [if_neg e, if_neg e, zb_f (by decide)]
theorem q_light_rng {s : Int → Int} {l : Int} (h : mOk s) (f : Int) (hr : ∀ j, zr (s j)) : zr (q_light s l f).2 := by
  unfold q_light
  split
  · exact hr _
  · exact zr0
theorem cP_isTrueLight {N : Nat} {G F : GM} {n : Nat} (hN : 241 ≤ N) (hok : mOk (G 231)) {l : Int} (hl : zr l) : zC N 85 [.ref 230, .int (zi l)] G F n (zQm G F n (q_isTrueLight (G 231) l)) := by
  refine zC_i (L0 := [.ref 230, .int (zi l)]) rfl ?_
  refine zW_rng (fun hrg => ?_)
  refine zs_aload (ip' := 1) rfl rfl rfl ?_
  refine zs_iload (ip' := 2) rfl rfl rfl ?_
  refine zs_pushI (ip' := 3) rfl rfl zi_k3 ?_
  refine zW_c (ip' := 4) rfl rfl (cP_lightNumber hN hok hl (by decide)) rfl rfl (z_ok3 (by omega) zsh_230 rfl rfl rfl) ?_ ?_
  · rintro v G' F' n' ⟨h1, h2, h3, h4⟩
    cases h1
    obtain ⟨z1, z2⟩ := q_light_rng (l := l) hok 3 (hrg 231)
    show zW N 85 4 [.ref 230, .int (zi l)] [.int (zi (q_light (G 231) l 3).2)] G' F' n' _
    refine zs_pushI (ip' := 5) rfl rfl zi_k1 ?_
    refine zs_icmp_ne (t := 8) (ip' := 6) rfl rfl (by omega) (by omega) ?_ ?_
    · intro h5
      refine zs_pushI (ip' := 9) rfl rfl zi_k0 ?_
      refine zW_0b rfl (Or.inl rfl) ?_
      exact ⟨by rw [q_isTrueLight_2, zb_f h5], by rw [q_isTrueLight_2]; exact h2, h3, h4⟩
    · intro h5
      refine zs_pushI (ip' := 7) rfl rfl zi_k1 ?_
      refine zs_goto (t := 9) rfl ?_
      refine zW_0b rfl (Or.inr rfl) ?_
      exact ⟨by rw [q_isTrueLight_2, zb_t h5], by rw [q_isTrueLight_2]; exact h2, h3, h4⟩
  · rintro ex G' F' n' ⟨h1, -⟩
    cases h1
abbrev sBoth (s : Int → Int) (w l : Int) : Prop := (0 ≤ w ∧ w ≤ s 5 - 1) ∧ (0 ≤ l ∧ l ≤ s 4 - 1)
def q_isBoth (s : Int → Int) (w l : Int) : Int × Int := if sBoth s w l then (0, 1) else (1, 0)
theorem cP_isBoth {N : Nat} {G F : GM} {n : Nat} (hN : 241 ≤ N) (hok : mOk (G 231)) {w l : Int} (hw : zr w) (hl : zr l) : zC N 101 [.ref 230, .int (zi w), .int (zi l)] G F n (zQm G F n (q_isBoth (G 231) w l)) := by
  refine zC_i (L0 := [.ref 230, .int (zi w), .int (zi l)]) rfl ?_
  refine zs_aload (ip' := 1) rfl rfl rfl ?_
  refine zs_pushI (ip' := 2) rfl rfl zi_k0 ?_
  refine zs_putI (ip' := 3) rfl rfl (by omega) zsh_230 rfl (q := 10) rfl (by omega) ?_
  have hm := zMk_0 (G := G) (t := 0)
  generalize zk G 230 (zp (G 230) 10 0) = G1 at hm ⊢
  have e1 := zMk_r hm
  rw [← e1] at hok ⊢
  have b0 := hok.1
  have b1 := hok.2.1
  have b4 := hok.2.2.2.2.1
  have b5 := hok.2.2.2.2.2.1
  refine zs_aload (ip' := 4) rfl rfl rfl ?_
  refine zs_iload (ip' := 5) rfl rfl rfl ?_
  refine zW_cP (ip' := 6) rfl rfl (cM_isWalker hN (by omega) hw) rfl rfl (z_ok3 (by omega) zsh_230 rfl rfl rfl) ?_
  refine zs_if_eqB (t := 11) (ip' := 7) rfl rfl ?_ ?_
  · intro h6
    refine zs_aload (ip' := 12) rfl rfl rfl ?_
    refine zs_pushI (ip' := 13) rfl rfl zi_k1 ?_
    refine zW_cR (ip' := 14) rfl rfl (cM_isFailed hN (by decide)) rfl rfl (z_ok3 (by omega) zsh_230 rfl rfl rfl) ?_
    rintro v G' F' n' _ ⟨rfl, rfl, rfl, rfl⟩
    refine zs_if_eq (t := 17) (ip' := 15) rfl rfl (by omega) ?_ ?_
    · intro h14
      refine zs_pushI (ip' := 18) rfl rfl zi_k0 ?_
      refine zW_0b rfl (Or.inl rfl) ?_
      exact zQ_no hm (if_neg (fun q => h6 q.1))
    · intro h14
      exact absurd h14 (by decide)
  · intro h6
    refine zs_aload (ip' := 8) rfl rfl rfl ?_
    refine zs_iload (ip' := 9) rfl rfl rfl ?_
    refine zW_cP (ip' := 10) rfl rfl (cM_isLight hN (by omega) hl) rfl rfl (z_ok3 (by omega) zsh_230 rfl rfl rfl) ?_
    refine zs_if_neB (t := 15) (ip' := 11) rfl rfl ?_ ?_
    · intro h10
      refine zs_pushI (ip' := 16) rfl rfl zi_k1 ?_
      refine zs_goto (t := 18) rfl ?_
      refine zW_0b rfl (Or.inr rfl) ?_
      exact zQ_ok hm (if_pos ⟨h6, h10⟩)
    · intro h10
      refine zs_aload (ip' := 12) rfl rfl rfl ?_
      refine zs_pushI (ip' := 13) rfl rfl zi_k1 ?_
      refine zW_cR (ip' := 14) rfl rfl (cM_isFailed hN (by decide)) rfl rfl (z_ok3 (by omega) zsh_230 rfl rfl rfl) ?_
      rintro v G' F' n' _ ⟨rfl, rfl, rfl, rfl⟩
      refine zs_if_eq (t := 17) (ip' := 15) rfl rfl (by omega) ?_ ?_
      · intro h14
        refine zs_pushI (ip' := 18) rfl rfl zi_k0 ?_
        refine zW_0b rfl (Or.inl rfl) ?_
        exact zQ_no hm (if_neg (fun q => h10 q.2))
      · intro h14
        exact absurd h14 (by decide)
def q_hasPassed (s : Int → Int) (w l : Int) : Int × Int := if sBoth s w l then (0, zb (zhas (s (214 + 7 * w + 4)) l)) else (1, 0)
theorem cP_hasPassed {N : Nat} {G F : GM} {n : Nat} (hN : 241 ≤ N) (hok : mOk (G 231)) {w l : Int} (hw : zr w) (hl : zr l) : zC N 102 [.ref 230, .int (zi w), .int (zi l)] G F n (zQm G F n (q_hasPassed (G 231) w l)) := by
  refine zC_i (L0 := [.ref 230, .int (zi w), .int (zi l)]) rfl ?_
  refine zs_aload (ip' := 1) rfl rfl rfl ?_
  refine zs_iload (ip' := 2) rfl rfl rfl ?_
  refine zs_iload (ip' := 3) rfl rfl rfl ?_
  refine zW_c (ip' := 4) rfl rfl (cP_isBoth hN hok hw hl) rfl rfl (z_ok3 (by omega) zsh_230 rfl rfl rfl) ?_ ?_
  · rintro v G1 F' n' ⟨h1, hm, rfl, rfl⟩
    cases h1
    have e1 := zMk_r hm
    rw [← e1] at hok hm ⊢
    show zW N 102 4 [.ref 230, .int (zi w), .int (zi l)] [.int (zi (q_isBoth (G1 231) w l).2)] G1 _ _ _
    by_cases e : sBoth (G1 231) w l
    · rw [show q_isBoth (G1 231) w l = (0, 1) from if_pos e] at hm ⊢
      refine zs_if_eq (t := 16) (ip' := 5) rfl rfl (by decide) (fun h => absurd h (by decide)) (fun _ => ?_)
      have b4 := hok.2.2.2.2.1
      have b5 := hok.2.2.2.2.2.1
      obtain ⟨⟨c0, c1⟩, c2, c3⟩ := id e
      refine zs_aload (ip' := 6) rfl rfl rfl ?_
      refine zs_getR (ip' := 7) rfl rfl (r := 231) (by omega) zsh_230 rfl ?_
      refine zs_iload (ip' := 8) rfl rfl rfl ?_
      refine zs_pushI (ip' := 9) rfl rfl zi_k4 ?_
      refine zW_cP (ip' := 10) rfl rfl cM_walkerAt rfl rfl rfl ?_
      refine zs_iald (ip' := 11) rfl rfl (by omega) zsh_231 (by omega) ?_
      intro hl10 hu10
      refine zs_iload (ip' := 12) rfl rfl rfl ?_
      refine zW_cP (ip' := 13) rfl rfl cM_has rfl rfl rfl ?_
      refine zs_if_eqB (t := 16) (ip' := 14) rfl rfl ?_ ?_
      · intro h13
        refine zs_pushI (ip' := 17) rfl rfl zi_k0 ?_
        refine zW_0b rfl (Or.inl rfl) ?_
        exact ⟨by rw [show (q_hasPassed (G1 231) w l) = (0, zb (zhas ((G1 231) (214 + 7 * w + 4)) l)) from if_pos e, zb_f h13], by rw [show (q_hasPassed (G1 231) w l) = (0, zb (zhas ((G1 231) (214 + 7 * w + 4)) l)) from if_pos e]; exact hm, rfl, rfl⟩
      · intro h13
        refine zs_pushI (ip' := 15) rfl rfl zi_k1 ?_
        refine zs_goto (t := 17) rfl ?_
        refine zW_0b rfl (Or.inr rfl) ?_
        exact ⟨by rw [show (q_hasPassed (G1 231) w l) = (0, zb (zhas ((G1 231) (214 + 7 * w + 4)) l)) from if_pos e, zb_t h13], by rw [show (q_hasPassed (G1 231) w l) = (0, zb (zhas ((G1 231) (214 + 7 * w + 4)) l)) from if_pos e]; exact hm, rfl, rfl⟩
    · rw [show q_isBoth (G1 231) w l = (1, 0) from if_neg e] at hm ⊢
      refine zs_if_eq (t := 16) (ip' := 5) rfl rfl zr0 (fun _ => ?_) (fun h => absurd rfl h)
      refine zs_pushI (ip' := 17) rfl rfl zi_k0 ?_
      refine zW_0b rfl (Or.inl rfl) ?_
      exact ⟨by rw [show (q_hasPassed (G1 231) w l) = (1, 0) from if_neg e], by rw [show (q_hasPassed (G1 231) w l) = (1, 0) from if_neg e]; exact hm, rfl, rfl⟩
  · rintro ex G' F' n' ⟨h1, -⟩
    cases h1
def q_distrusts (s : Int → Int) (w l : Int) : Int × Int := if sBoth s w l then (0, zb (zhas (s (214 + 7 * w + 5)) l)) else (1, 0)
theorem cP_distrusts {N : Nat} {G F : GM} {n : Nat} (hN : 241 ≤ N) (hok : mOk (G 231)) {w l : Int} (hw : zr w) (hl : zr l) : zC N 103 [.ref 230, .int (zi w), .int (zi l)] G F n (zQm G F n (q_distrusts (G 231) w l)) := by
  refine zC_i (L0 := [.ref 230, .int (zi w), .int (zi l)]) rfl ?_
  refine zs_aload (ip' := 1) rfl rfl rfl ?_
  refine zs_iload (ip' := 2) rfl rfl rfl ?_
  refine zs_iload (ip' := 3) rfl rfl rfl ?_
  refine zW_c (ip' := 4) rfl rfl (cP_isBoth hN hok hw hl) rfl rfl (z_ok3 (by omega) zsh_230 rfl rfl rfl) ?_ ?_
  · rintro v G1 F' n' ⟨h1, hm, rfl, rfl⟩
    cases h1
    have e1 := zMk_r hm
    rw [← e1] at hok hm ⊢
    show zW N 103 4 [.ref 230, .int (zi w), .int (zi l)] [.int (zi (q_isBoth (G1 231) w l).2)] G1 _ _ _
    by_cases e : sBoth (G1 231) w l
    · rw [show q_isBoth (G1 231) w l = (0, 1) from if_pos e] at hm ⊢
      refine zs_if_eq (t := 16) (ip' := 5) rfl rfl (by decide) (fun h => absurd h (by decide)) (fun _ => ?_)
      have b4 := hok.2.2.2.2.1
      have b5 := hok.2.2.2.2.2.1
      obtain ⟨⟨c0, c1⟩, c2, c3⟩ := id e
      refine zs_aload (ip' := 6) rfl rfl rfl ?_
      refine zs_getR (ip' := 7) rfl rfl (r := 231) (by omega) zsh_230 rfl ?_
      refine zs_iload (ip' := 8) rfl rfl rfl ?_
      refine zs_pushI (ip' := 9) rfl rfl zi_k5 ?_
      refine zW_cP (ip' := 10) rfl rfl cM_walkerAt rfl rfl rfl ?_
      refine zs_iald (ip' := 11) rfl rfl (by omega) zsh_231 (by omega) ?_
      intro hl10 hu10
      refine zs_iload (ip' := 12) rfl rfl rfl ?_
      refine zW_cP (ip' := 13) rfl rfl cM_has rfl rfl rfl ?_
      refine zs_if_eqB (t := 16) (ip' := 14) rfl rfl ?_ ?_
      · intro h13
        refine zs_pushI (ip' := 17) rfl rfl zi_k0 ?_
        refine zW_0b rfl (Or.inl rfl) ?_
        exact ⟨by rw [show (q_distrusts (G1 231) w l) = (0, zb (zhas ((G1 231) (214 + 7 * w + 5)) l)) from if_pos e, zb_f h13], by rw [show (q_distrusts (G1 231) w l) = (0, zb (zhas ((G1 231) (214 + 7 * w + 5)) l)) from if_pos e]; exact hm, rfl, rfl⟩
      · intro h13
        refine zs_pushI (ip' := 15) rfl rfl zi_k1 ?_
        refine zs_goto (t := 17) rfl ?_
        refine zW_0b rfl (Or.inr rfl) ?_
        exact ⟨by rw [show (q_distrusts (G1 231) w l) = (0, zb (zhas ((G1 231) (214 + 7 * w + 5)) l)) from if_pos e, zb_t h13], by rw [show (q_distrusts (G1 231) w l) = (0, zb (zhas ((G1 231) (214 + 7 * w + 5)) l)) from if_pos e]; exact hm, rfl, rfl⟩
    · rw [show q_isBoth (G1 231) w l = (1, 0) from if_neg e] at hm ⊢
      refine zs_if_eq (t := 16) (ip' := 5) rfl rfl zr0 (fun _ => ?_) (fun h => absurd rfl h)
      refine zs_pushI (ip' := 17) rfl rfl zi_k0 ?_
      refine zW_0b rfl (Or.inl rfl) ?_
      exact ⟨by rw [show (q_distrusts (G1 231) w l) = (1, 0) from if_neg e], by rw [show (q_distrusts (G1 231) w l) = (1, 0) from if_neg e]; exact hm, rfl, rfl⟩
  · rintro ex G' F' n' ⟨h1, -⟩
    cases h1
def q_sees (s : Int → Int) (w l : Int) : Int × Int := if sBoth s w l then (0, zb (sSeen s w l)) else (1, 0)
theorem cP_sees {N : Nat} {G F : GM} {n : Nat} (hN : 241 ≤ N) (hok : mOk (G 231)) {w l : Int} (hw : zr w) (hl : zr l) : zC N 104 [.ref 230, .int (zi w), .int (zi l)] G F n (zQm G F n (q_sees (G 231) w l)) := by
  refine zC_i (L0 := [.ref 230, .int (zi w), .int (zi l)]) rfl ?_
  refine zs_aload (ip' := 1) rfl rfl rfl ?_
  refine zs_iload (ip' := 2) rfl rfl rfl ?_
  refine zs_iload (ip' := 3) rfl rfl rfl ?_
  refine zW_c (ip' := 4) rfl rfl (cP_isBoth hN hok hw hl) rfl rfl (z_ok3 (by omega) zsh_230 rfl rfl rfl) ?_ ?_
  · rintro v G1 F' n' ⟨h1, hm, rfl, rfl⟩
    cases h1
    have e1 := zMk_r hm
    rw [← e1] at hok hm ⊢
    show zW N 104 4 [.ref 230, .int (zi w), .int (zi l)] [.int (zi (q_isBoth (G1 231) w l).2)] G1 _ _ _
    by_cases e : sBoth (G1 231) w l
    · rw [show q_isBoth (G1 231) w l = (0, 1) from if_pos e] at hm ⊢
      refine zs_if_eq (t := 13) (ip' := 5) rfl rfl (by decide) (fun h => absurd h (by decide)) (fun _ => ?_)
      have b4 := hok.2.2.2.2.1
      have b5 := hok.2.2.2.2.2.1
      obtain ⟨⟨c0, c1⟩, c2, c3⟩ := id e
      refine zs_aload (ip' := 6) rfl rfl rfl ?_
      refine zs_getR (ip' := 7) rfl rfl (r := 231) (by omega) zsh_230 rfl ?_
      refine zs_iload (ip' := 8) rfl rfl rfl ?_
      refine zs_iload (ip' := 9) rfl rfl rfl ?_
      refine zW_cP (ip' := 10) rfl rfl (cM_isSeen zsh_231 (by omega) (by omega) (by omega) (mOk_sg hok) (mOk_wk hok c0 (by omega)) (mOk_lt hok c2 (by omega))) rfl rfl rfl ?_
      refine zs_if_eqB (t := 13) (ip' := 11) rfl rfl ?_ ?_
      · intro h10
        refine zs_pushI (ip' := 14) rfl rfl zi_k0 ?_
        refine zW_0b rfl (Or.inl rfl) ?_
        exact ⟨by rw [show (q_sees (G1 231) w l) = (0, zb (sSeen (G1 231) w l)) from if_pos e, zb_f h10], by rw [show (q_sees (G1 231) w l) = (0, zb (sSeen (G1 231) w l)) from if_pos e]; exact hm, rfl, rfl⟩
      · intro h10
        refine zs_pushI (ip' := 12) rfl rfl zi_k1 ?_
        refine zs_goto (t := 14) rfl ?_
        refine zW_0b rfl (Or.inr rfl) ?_
        exact ⟨by rw [show (q_sees (G1 231) w l) = (0, zb (sSeen (G1 231) w l)) from if_pos e, zb_t h10], by rw [show (q_sees (G1 231) w l) = (0, zb (sSeen (G1 231) w l)) from if_pos e]; exact hm, rfl, rfl⟩
    · rw [show q_isBoth (G1 231) w l = (1, 0) from if_neg e] at hm ⊢
      refine zs_if_eq (t := 13) (ip' := 5) rfl rfl zr0 (fun _ => ?_) (fun h => absurd rfl h)
      refine zs_pushI (ip' := 14) rfl rfl zi_k0 ?_
      refine zW_0b rfl (Or.inl rfl) ?_
      exact ⟨by rw [show (q_sees (G1 231) w l) = (1, 0) from if_neg e], by rw [show (q_sees (G1 231) w l) = (1, 0) from if_neg e]; exact hm, rfl, rfl⟩
  · rintro ex G' F' n' ⟨h1, -⟩
    cases h1
