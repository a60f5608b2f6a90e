/-! The program: planks worn, ways forgotten, a traveller who stops (printed by wip/whole/src44.py). -/
/-- all but world w is as it was -/
def xWf (w : Nat) (G G' : GM) : Prop := ∀ k, (k < 16 * w ∨ 16 * w + 16 ≤ k) → G' k = G k
theorem xWf_r (w : Nat) (G : GM) : xWf w G G := fun _ _ => rfl
theorem xWf_t {w : Nat} {G G1 G2 : GM} (h : xWf w G G1) (h2 : xWf w G1 G2) : xWf w G G2 := fun k a => (h2 k a).trans (h k a)
theorem xWf_k {w j : Nat} {G : GM} {R : Int → Int} (h : 16 * w ≤ j ∧ j < 16 * w + 16) : xWf w G (zk G j R) := fun k a => zk_ne (by omega)
theorem zways {k : Nat} (h : k < 8) : [201, 204, 207, 210, 213, 216, 219, 222][((k : Int)).toNat]? = some (201 + 3 * k) := by
  rw [Int.toNat_natCast]
  match k, h with
  | 0, _ => rfl
  | 1, _ => rfl
  | 2, _ => rfl
  | 3, _ => rfl
  | 4, _ => rfl
  | 5, _ => rfl
  | 6, _ => rfl
  | 7, _ => rfl
/-- who stops has there the time -/
def xDn (w : Nat) (G G' : GM) : Prop := G' (16 * w) = G (16 * w) ∧ ∀ q : Int, (G' (16 * w + 9) q = G (16 * w + 9) q ∧ G' (16 * w + 14) q = G (16 * w + 14) q) ∨ (G (16 * w + 9) q = 0 ∧ G' (16 * w + 9) q ≠ 0 ∧ G' (16 * w + 14) q = G (16 * w) 5)
/-- nobody stops -/
def xKp (w : Nat) (G G' : GM) : Prop := G' (16 * w) = G (16 * w) ∧ G' (16 * w + 9) = G (16 * w + 9) ∧ G' (16 * w + 14) = G (16 * w + 14)
theorem xKp_r (w : Nat) (G : GM) : xKp w G G := ⟨rfl, rfl, rfl⟩
theorem xKp_t {w : Nat} {G G1 G2 : GM} (h : xKp w G G1) (h2 : xKp w G1 G2) : xKp w G G2 := ⟨h2.1.trans h.1, h2.2.1.trans h.2.1, h2.2.2.trans h.2.2⟩
theorem xKp_k {w j : Nat} {G : GM} {R : Int → Int} (h : j ≠ 16 * w ∧ j ≠ 16 * w + 9 ∧ j ≠ 16 * w + 14) : xKp w G (zk G j R) := ⟨zk_ne (by omega), zk_ne (by omega), zk_ne (by omega)⟩
theorem xKp_d {w : Nat} {G G' : GM} (h : xKp w G G') : xDn w G G' := ⟨h.1, fun q => Or.inl ⟨by rw [h.2.1], by rw [h.2.2]⟩⟩
theorem xDn_t {w : Nat} {G G1 G2 : GM} (h : xDn w G G1) (h2 : xDn w G1 G2) : xDn w G G2 := by
  refine ⟨h2.1.trans h.1, fun q => ?_⟩
  rcases h.2 q with ⟨a, b⟩ | ⟨a, b, c⟩
  · rcases h2.2 q with ⟨a2, b2⟩ | ⟨a2, b2, c2⟩
    · exact Or.inl ⟨a2.trans a, b2.trans b⟩
    · exact Or.inr ⟨a.symm.trans a2, b2, c2.trans (by rw [h.1])⟩
  · rcases h2.2 q with ⟨a2, b2⟩ | ⟨a2, b2, c2⟩
    · exact Or.inr ⟨a, by rw [a2]; exact b, b2.trans c⟩
    · exact absurd a2 b
/-- the ways that are kept are right -/
def xWy (G : GM) (s : Int → Int) : Prop := ∀ l : Nat, l < 8 → (l : Int) < s 4 → G (201 + 3 * l) 1 ≠ 0 → zDist (s 0) (s 1) (mWt s) (fun p => p = 12 * s (174 + 5 * (l : Int) + 1) + s (174 + 5 * (l : Int) + 0)) True (G (201 + 3 * l + 1))
/-- none is kept -/
def xNo (G G' : GM) : Prop := (∀ k, (k < 201 ∨ 225 ≤ k) → G' k = G k) ∧ ∀ l : Nat, l < 8 → G' (201 + 3 * l) 1 = 0
theorem xNo_wy {G G' : GM} (h : xNo G G') (s : Int → Int) : xWy G' s := fun l l0 _ e => by
  exact absurd (h.2 l l0) e
theorem RX_gr {G : GM} {w : Nat} {s : Int → Int} {x y v v' : Int} (hok : mOk s) (h : RX G w s) (hx : 0 ≤ x ∧ x < 12) (hy : 0 ≤ y ∧ y < 12) (hv : v = zgc v') : RX (zk G (16 * w + 2) (zp (G (16 * w + 2)) (12 * y + x) v)) w (zp s (30 + 12 * y + x) v') := by
  obtain ⟨a0, a1, -, -, a4, a5, -⟩ := hok
  obtain ⟨⟨c0, c1, c2, c3, c4, c5⟩, hf, hg, hl, hb, ht⟩ := h
  have es : ∀ i, (i < 30 ∨ 174 ≤ i) → zp s (30 + 12 * y + x) v' i = s i := fun i hi => zp_ne (by omega)
  have ek : ∀ k, k ≠ 16 * w + 2 → zk G (16 * w + 2) (zp (G (16 * w + 2)) (12 * y + x) v) k = G k := fun k hk => zk_ne hk
  have e0 := es 0 (by omega)
  have e1 := es 1 (by omega)
  have e4 := es 4 (by omega)
  have e5 := es 5 (by omega)
  refine ⟨⟨?_, ?_, ?_, ?_, ?_, ?_⟩, fun h h0 h1 => ?_, fun x' y' x0 x1 y0 y1 => ?_, fun l l0 l1 => ?_, fun l l0 l1 => ?_, fun q t0 t1 => ?_⟩
  · rw [ek _ (by omega), e0]; exact c0
  · rw [ek _ (by omega), e1]; exact c1
  · rw [ek _ (by omega), es 2 (by omega)]; exact c2
  · rw [ek _ (by omega), es 3 (by omega)]; exact c3
  · rw [ek _ (by omega), e4]; exact c4
  · rw [ek _ (by omega), e5]; exact c5
  · rw [ek _ (by omega), es _ (by omega)]
    exact hf h h0 h1
  · rw [zk_eq]
    by_cases e : x' = x ∧ y' = y
    · rw [e.1, e.2, zp_eq, zp_eq]
      exact hv
    · rw [zp_ne (by omega), zp_ne (by omega)]
      exact hg x' y' x0 (by omega) y0 (by omega)
  · rw [ek _ (by omega), ek _ (by omega), ek _ (by omega), es _ (by omega), es _ (by omega), es _ (by omega), es _ (by omega)]
    exact hl l l0 (by omega)
  · rw [ek _ (by omega), e4, es (174 + 5 * l + 3) (by omega)]
    exact hb l l0 l1
  · rw [ek _ (by omega), ek _ (by omega), ek _ (by omega), ek _ (by omega), ek _ (by omega), ek _ (by omega), es _ (by omega), es _ (by omega), es _ (by omega), es _ (by omega), es _ (by omega), es _ (by omega), es _ (by omega)]
    exact ht q t0 (by omega)
theorem cX_noways_l {N : Nat} {F : GM} {n : Nat} (hN : 229 ≤ N) {G0 : GM} : ∀ (d : Nat) (i : Nat) (G : GM), 8 - (i : Int) < (d : Int) → (i : Int) ≤ 8 → (∀ k, (k < 201 ∨ 225 ≤ k) → G k = G0 k) → (∀ l : Nat, l < i → G (201 + 3 * l) 1 = 0) → zW N 172 2 [.ref 199, .int (zi (i : Int))] [] G F n (zV fun G' F' n' => xNo G0 G' ∧ F' = F ∧ n' = n) := by
  intro d
  induction d with
  | zero =>
    intro i G hd hj hf hz
    exact absurd hd (by omega)
  | succ d ih =>
    intro i G hd hj hf hz
    have hi : i < 9 := by omega
    refine zs_iload (ip' := 3) rfl rfl rfl ?_
    refine zs_pushI (ip' := 4) rfl rfl zi_k8 ?_
    refine zs_icmp_ge (t := 13) (ip' := 5) rfl rfl (by omega) (by omega) ?_ ?_
    · intro h4
      refine zW_1 rfl ?_
      exact ⟨rfl, ⟨hf, fun l hl => hz l (by omega)⟩, rfl, rfl⟩
    · intro h4
      refine zs_aload (ip' := 6) rfl rfl rfl ?_
      refine zs_getR (ip' := 7) rfl rfl (r := 200) (by omega) zsh_199 rfl ?_
      refine zs_iload (ip' := 8) rfl rfl rfl ?_
      refine zs_aald (ip' := 9) rfl rfl (r := 201 + 3 * i) (by omega) zsh_200 (by decide) (by omega) (zways (by omega)) ?_
      refine zs_pushI (ip' := 10) rfl rfl zi_k0 ?_
      refine zs_putZ (ip' := 11) rfl rfl (by omega) (zsh_d0 hi) rfl (q := 1) rfl (Or.inl rfl) ?_
      refine zs_iinc1 (ip' := 12) rfl rfl zi_k1 ?_
      refine zs_goto (t := 2) rfl ?_
      exact ih (i + 1) _ (by omega) (by omega) (fun k hk => (zk_ne (by omega)).trans (hf k hk)) (fun l hl => by
        by_cases e : l = i
        · rw [e, zk_eq, zp_eq]
        · rw [zk_ne (by omega)]
          exact hz l (by omega))
theorem cX_noways {N : Nat} {G F : GM} {n : Nat} (hN : 229 ≤ N) : zC N 172 [.ref 199] G F n (zV fun G' F' n' => xNo G G' ∧ F' = F ∧ n' = n) := by
  refine zC_i (L0 := [.ref 199, .null]) rfl ?_
  refine zs_pushI (ip' := 1) rfl rfl zi_k0 ?_
  refine zs_istore1 (ip' := 2) rfl rfl ?_
  exact cX_noways_l hN 9 0 G (by omega) (by omega) (fun _ _ => rfl) (fun l hl => absurd hl (by omega))
theorem cX_wear {N : Nat} {G F : GM} {n : Nat} (hN : 229 ≤ N) {w : Nat} (hw : w < 12) {c : Int} (hc : 0 ≤ c ∧ c < 144) : zC N 141 [.ref (16 * w + 1), .int (zi c)] G F n (zR fun v G' F' n' => ((¬ (0 < G (16 * w + 2) c ∧ G (16 * w + 2) c ≤ 9) ∧ v = 0 ∧ G' = G) ∨ ((0 < G (16 * w + 2) c ∧ G (16 * w + 2) c ≤ 9) ∧ v = zb (G (16 * w + 2) c = 1) ∧ G' = zk G (16 * w + 2) (zp (G (16 * w + 2)) c (G (16 * w + 2) c - 1)))) ∧ F' = F ∧ n' = n) := by
  refine zC_i (L0 := [.ref (16 * w + 1), .int (zi c)]) rfl ?_
  refine zs_aload (ip' := 1) rfl rfl rfl ?_
  refine zs_iload (ip' := 2) rfl rfl rfl ?_
  refine zW_cP (ip' := 3) rfl rfl (cX_holdsPlank hN hw (by omega)) rfl rfl (z_ok3 (by omega) (zsh_w1 hw) rfl rfl rfl) ?_
  refine zs_if_neB (t := 6) (ip' := 4) rfl rfl ?_ ?_
  · intro h3
    refine zs_aload (ip' := 7) rfl rfl rfl ?_
    refine zs_getR (ip' := 8) rfl rfl (r := 16 * w + 2) (by omega) (zsh_w1 hw) rfl ?_
    refine zs_iload (ip' := 9) rfl rfl rfl ?_
    refine zs_dup2 (ip' := 10) rfl rfl ?_
    refine zs_iald (ip' := 11) rfl rfl (by omega) (zsh_w2 hw) (by omega) ?_
    intro hl10 hu10
    refine zs_pushI (ip' := 12) rfl rfl zi_k1 ?_
    refine zs_isub (ip' := 13) rfl rfl ?_
    refine zs_iast (ip' := 14) rfl rfl (by omega) (zsh_w2 hw) (by omega) (by omega) ?_
    refine zs_aload (ip' := 15) rfl rfl rfl ?_
    refine zs_getR (ip' := 16) rfl rfl (r := 16 * w + 2) (by omega) (zsh_w1 hw) rfl ?_
    refine zs_iload (ip' := 17) rfl rfl rfl ?_
    refine zs_iald (ip' := 18) rfl rfl (by omega) (zsh_w2 hw) (by omega) ?_
    intro hl17 hu17
    rw [zk_eq, zp_eq] at hl17 hu17 ⊢
    refine zs_if_ne (t := 21) (ip' := 19) rfl rfl (by omega) ?_ ?_
    · intro h18
      refine zs_pushI (ip' := 22) rfl rfl zi_k0 ?_
      refine zW_0b rfl (Or.inl rfl) ?_
      exact ⟨_, rfl, by decide, Or.inr ⟨h3, (zb_f (by omega)).symm, rfl⟩, rfl, rfl⟩
    · intro h18
      refine zs_pushI (ip' := 20) rfl rfl zi_k1 ?_
      refine zs_goto (t := 22) rfl ?_
      refine zW_0b rfl (Or.inr rfl) ?_
      exact ⟨_, rfl, by decide, Or.inr ⟨h3, (zb_t (by omega)).symm, rfl⟩, rfl, rfl⟩
  · intro h3
    refine zs_pushI (ip' := 5) rfl rfl zi_k0 ?_
    refine zW_0b rfl (Or.inl rfl) ?_
    exact ⟨_, rfl, by decide, Or.inl ⟨h3, rfl, rfl⟩, rfl, rfl⟩
theorem cR_finish {N : Nat} {G F : GM} {n : Nat} (hN : 229 ≤ N) {w : Nat} (hw : w < 12) {s : Int → Int} (hok : mOk s) (hR : RX G w s) {t e m : Int} (t0 : 0 ≤ t) (t1 : t < s 5) (he : 0 ≤ e ∧ e ≤ 2) (hm : m = G (16 * w) 5) (he0 : e ≠ 0) (hz0 : G (16 * w + 9) t = 0) : zC N 152 [.ref (16 * w + 7), .int (zi t), .int (zi e), .int (zi m)] G F n (zV fun G' F' n' => (RX G' w (zp (zp s (214 + 7 * t + 2) e) (214 + 7 * t + 3) (-1)) ∧ xWf w G G' ∧ xDn w G G') ∧ F' = F ∧ n' = n) := by
  have b5 := hok.2.2.2.2.2.1
  have b3 := hok.2.2.2.1
  have hmr : m = s 3 := hm.trans hR.1.2.2.2.1
  refine zC_i (L0 := [.ref (16 * w + 7), .int (zi t), .int (zi e), .int (zi m)]) rfl ?_
  refine zs_aload (ip' := 1) rfl rfl rfl ?_
  refine zs_getR (ip' := 2) rfl rfl (r := 16 * w + 9) (by omega) (zsh_w7 hw) rfl ?_
  refine zs_iload (ip' := 3) rfl rfl rfl ?_
  refine zs_iload (ip' := 4) rfl rfl rfl ?_
  refine zs_iast (ip' := 5) rfl rfl (by omega) (zsh_w9 hw) (by omega) (by omega) ?_
  refine zs_aload (ip' := 6) rfl rfl rfl ?_
  refine zs_getR (ip' := 7) rfl rfl (r := 16 * w + 11) (by omega) (zsh_w7 hw) rfl ?_
  refine zs_iload (ip' := 8) rfl rfl rfl ?_
  refine zs_pushI (ip' := 9) rfl rfl zi_km1 ?_
  refine zs_iast (ip' := 10) rfl rfl (by omega) (zsh_w11 hw) (by omega) (by omega) ?_
  refine zs_aload (ip' := 11) rfl rfl rfl ?_
  refine zs_getR (ip' := 12) rfl rfl (r := 16 * w + 14) (by omega) (zsh_w7 hw) rfl ?_
  refine zs_iload (ip' := 13) rfl rfl rfl ?_
  refine zs_iload (ip' := 14) rfl rfl rfl ?_
  refine zs_iast (ip' := 15) rfl rfl (by omega) (zsh_w14 hw) (by omega) (by omega) ?_
  refine zW_1 rfl ?_
  have k1 := mOk_w2 hok t0 t1 he
  have k2 := RX_w9 (v := e) hok hR t0 t1
  have k3 : t < zp s (214 + 7 * t + 2) e 5 := by
    rw [zp_ne (by omega)]
    exact t1
  have k4 := RX_w11 (v := -1) k1 k2 t0 k3
  have b4 := hok.2.2.2.2.1
  have k5 := mOk_w3 (v := -1) k1 t0 k3 (by rw [zp_ne (by omega)]; omega)
  have hD : xDn w G (zk (zk (zk G (16 * w + 9) (zp (G (16 * w + 9)) t e)) (16 * w + 11) (zp (zk G (16 * w + 9) (zp (G (16 * w + 9)) t e) (16 * w + 11)) t (-1))) (16 * w + 14) (zp (zk (zk G (16 * w + 9) (zp (G (16 * w + 9)) t e)) (16 * w + 11) (zp (zk G (16 * w + 9) (zp (G (16 * w + 9)) t e) (16 * w + 11)) t (-1)) (16 * w + 14)) t m)) := by
    refine ⟨by (repeat first | rw [zk_eq] | rw [zk_ne (by omega)]), fun q => ?_⟩
    by_cases e9 : q = t
    · subst e9
      refine Or.inr ⟨hz0, ?_, ?_⟩ <;> (repeat first | rw [zk_eq] | rw [zk_ne (by omega)] | rw [zp_eq])
      · exact he0
      · exact hm
    · refine Or.inl ⟨?_, ?_⟩ <;> (repeat first | rw [zk_eq] | rw [zk_ne (by omega)] | rw [zp_ne e9])
  exact ⟨rfl, ⟨RX_w14 k5 k4, xWf_t (xWf_t (xWf_k (by omega)) (xWf_k (by omega))) (xWf_k (by omega)), hD⟩, rfl, rfl⟩
