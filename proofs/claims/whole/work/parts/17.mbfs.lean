/-! The reference model's search (printed by wip/whole/src17.py). -/
/-- the memory with the model's search done: its steps, its queue, the two ends of it -/
def zBf (G : GM) (A B : Int → Int) (f l : Int) : GM := zk (zk (zk G 238 A) 239 B) 230 (zp (zp (G 230) 13 f) 14 l)
section MS
variable {G : GM} {A B A' B' : Int → Int} {f l f' l' : Int}
theorem zBf_238 : zBf G A B f l 238 = A := rfl
theorem zBf_239 : zBf G A B f l 239 = B := rfl
theorem zBf_230 : zBf G A B f l 230 = zp (zp (G 230) 13 f) 14 l := rfl
theorem zBf_13 : zBf G A B f l 230 13 = f := rfl
theorem zBf_14 : zBf G A B f l 230 14 = l := rfl
theorem zBf_o {k : Nat} (h : k ≠ 230 ∧ k ≠ 238 ∧ k ≠ 239) : zBf G A B f l k = G k := by
  unfold zBf
  rw [zk_ne h.1, zk_ne h.2.2, zk_ne h.2.1]
theorem zBf_f {j : Int} (h : j ≠ 13 ∧ j ≠ 14) : zBf G A B f l 230 j = G 230 j := by
  rw [zBf_230, zp_ne h.2, zp_ne h.1]
theorem zBf_w238 : zk (zBf G A B f l) 238 A' = zBf G A' B f l := by
  funext a
  unfold zBf zk
  by_cases h : a = 238
  · subst h; rfl
  · simp [h]
theorem zBf_w239 : zk (zBf G A B f l) 239 B' = zBf G A B' f l := by
  funext a
  unfold zBf zk
  by_cases h : a = 239
  · subst h; rfl
  · simp [h]
theorem zBf_w13 : zk (zBf G A B f l) 230 (zp (zBf G A B f l 230) 13 f') = zBf G A B f' l := by
  rw [zBf_230, zp_sw (by decide : (14 : Int) ≠ 13), zp_zp]
  unfold zBf
  rw [zk_zk]
theorem zBf_w14 : zk (zBf G A B f l) 230 (zp (zBf G A B f l 230) 14 l') = zBf G A B f l' := by
  rw [zBf_230, zp_zp]
  unfold zBf
  rw [zk_zk]
theorem zBf_self : zBf G (G 238) (G 239) (G 230 13) (G 230 14) = G := by
  unfold zBf
  rw [zk_self, zk_self, zp_self, zp_self, zk_self]
theorem zBf_zBf : zBf (zBf G A B f l) A' B' f' l' = zBf G A' B' f' l' := by
  have e : zBf (zBf G A B f l) A' B' f' l' = zk (zk (zk (zBf G A B f l) 238 A') 239 B') 230 (zp (zp (zBf G A B f l 230) 13 f') 14 l') := rfl
  rw [e, zBf_w238, zBf_w239, zBf_230]
  have e2 : zp (zp (zp (zp (G 230) 13 f) 14 l) 13 f') 14 l' = zp (zp (G 230) 13 f') 14 l' := by
    rw [zp_sw (by decide : (14 : Int) ≠ 13), zp_zp, zp_zp]
  rw [e2]
  unfold zBf
  rw [zk_zk]
theorem zBf_r {r : Nat} {s : Int → Int} (h : r ≠ 230 ∧ r ≠ 238 ∧ r ≠ 239) : zk (zBf G A B f l) r s = zBf (zk G r s) A B f l := by
  funext a
  unfold zBf zk
  by_cases h1 : a = r
  · subst h1
    simp [h.1, h.2.1, h.2.2]
  · simp [h1, Ne.symm h.1]
end MS
theorem zp_fill {A : Int → Int} {k v : Int} (h : ∀ j, 0 ≤ j → j < k → A j = v) : ∀ j, 0 ≤ j → j < k + 1 → zp A k v j = v := by
  intro j j0 j1
  by_cases e : j = k
  · rw [e, zp_eq]
  · rw [zp_ne e]
    exact h j j0 (by omega)
abbrev mWt (s : Int → Int) (p : Int) : Prop := s (30 + p) = 1
def sStepBy (s st : Int → Int) (x y d : Int) : Int := if sIn s (x + zsx d) (y + zsy d) ∧ s (30 + 12 * (y + zsy d) + (x + zsx d)) ≠ 1 then st (12 * (y + zsy d) + (x + zsx d)) else -1
def sLeast (s st : Int → Int) (x y : Int) : Nat → Int
  | 0 => -1
  | k + 1 => if 0 ≤ sStepBy s st x y k ∧ (sLeast s st x y k < 0 ∨ sStepBy s st x y k + 1 < sLeast s st x y k) then sStepBy s st x y k + 1 else sLeast s st x y k
def sSteps (s st : Int → Int) (x y : Int) : Int := if 0 ≤ st (12 * y + x) then st (12 * y + x) else if s (30 + 12 * y + x) = 1 then sLeast s st x y 4 else -1
/-- a queue's head, said by its value -/
theorem zBI_addp {W H : Int} {wt : Int → Prop} [DecidablePred wt] {go : Int → Prop} {mk : Prop} {c dn tl p : Int} {q st : Int → Int} (hW : W ≤ 12) (hH : H ≤ 12) (h : zBI W H wt go mk c dn tl q st) (hp : q c = p) (hc : c < tl) (hd : dn < 4) (hin : zIn W H (znx p dn) (zny p dn)) (ht : st (znb p dn) = -1) (hw : ¬ wt (znb p dn)) :
    zBI W H wt go mk c (dn + 1) (tl + 1) (zp q tl (znb p dn)) (zp st (znb p dn) (st p + 1)) ∧ zp q tl (znb p dn) c = p := by
  subst hp
  exact ⟨zBI_add hW hH h hc hd hin ht hw, zp_ne (by omega)⟩
theorem zBI_skipp {W H : Int} {wt : Int → Prop} [DecidablePred wt] {go : Int → Prop} {mk : Prop} {c dn tl p : Int} {q st : Int → Int} (hW : W ≤ 12) (hH : H ≤ 12) (h : zBI W H wt go mk c dn tl q st) (hp : q c = p) (hc : c < tl) (hd : dn < 4) (hs : zIn W H (znx p dn) (zny p dn) → (wt (znb p dn) → mk) → 0 ≤ st (znb p dn)) : zBI W H wt go mk c (dn + 1) tl q st := by
  subst hp
  exact zBI_skip hW hH h hc hd hs
theorem znb_i (p d : Int) : 30 + 12 * (p / 12 + zsy d) + (p % 12 + zsx d) = 30 + znb p d := by
  show 30 + 12 * (p / 12 + zsy d) + (p % 12 + zsx d) = 30 + (12 * (p / 12 + zsy d) + (p % 12 + zsx d))
  omega
theorem cM_clears_l {N : Nat} {G F : GM} {n : Nat} (hN : 241 ≤ N) {B : Int → Int} {f l : Int} : ∀ (d : Nat) (k : Nat) (A : Int → Int), 144 - (k : Int) < (d : Int) → (k : Int) ≤ 144 → (∀ j : Int, 0 ≤ j → j < k → A j = -1) → zW N 16 2 [.ref 230, .int (zi (k : Int))] [] (zBf G A B f l) F n (zV fun G' F' n' => ∃ A', (∀ j : Int, 0 ≤ j → j < 144 → A' j = -1) ∧ G' = zBf G A' B 0 0 ∧ F' = F ∧ n' = n) := by
  intro d
  induction d with
  | zero =>
    intro k A hd hj hA
    exact absurd hd (by omega)
  | succ d ih =>
    intro k A hd hj hA
    refine zs_iload (ip' := 3) rfl rfl rfl ?_
    refine zs_pushI (ip' := 4) rfl rfl zi_k144 ?_
    refine zs_icmp_ge (t := 12) (ip' := 5) rfl rfl (by omega) (by omega) ?_ ?_
    · intro h4
      refine zs_aload (ip' := 13) rfl rfl rfl ?_
      refine zs_pushI (ip' := 14) rfl rfl zi_k0 ?_
      refine zs_putI (ip' := 15) rfl rfl (by omega) zsh_230 rfl (q := 13) rfl (by omega) ?_
      rw [zBf_w13]
      refine zs_aload (ip' := 16) rfl rfl rfl ?_
      refine zs_pushI (ip' := 17) rfl rfl zi_k0 ?_
      refine zs_putI (ip' := 18) rfl rfl (by omega) zsh_230 rfl (q := 14) rfl (by omega) ?_
      rw [zBf_w14]
      refine zW_1 rfl ?_
      exact ⟨rfl, A, fun j j0 j1 => hA j j0 (by omega), rfl, rfl, rfl⟩
    · intro h4
      refine zs_aload (ip' := 6) rfl rfl rfl ?_
      refine zs_getR (ip' := 7) rfl rfl (r := 238) (by omega) zsh_230 rfl ?_
      refine zs_iload (ip' := 8) rfl rfl rfl ?_
      refine zs_pushI (ip' := 9) rfl rfl zi_km1 ?_
      refine zs_iast (ip' := 10) rfl rfl (by omega) zsh_238 (by omega) (by omega) ?_
      rw [zBf_238, zBf_w238]
      refine zs_iinc1 (ip' := 11) rfl rfl zi_k1 ?_
      refine zs_goto (t := 2) rfl ?_
      exact ih (k + 1) _ (by omega) (by omega) (zp_fill hA)
theorem cM_clearsSteps {N : Nat} {G F : GM} {n : Nat} (hN : 241 ≤ N) {A B : Int → Int} {f l : Int} : zC N 16 [.ref 230] (zBf G A B f l) F n (zV fun G' F' n' => ∃ A', (∀ j : Int, 0 ≤ j → j < 144 → A' j = -1) ∧ G' = zBf G A' B 0 0 ∧ F' = F ∧ n' = n) := by
  refine zC_i (L0 := [.ref 230, .null]) rfl ?_
  refine zs_pushI (ip' := 1) rfl rfl zi_k0 ?_
  refine zs_istore1 (ip' := 2) rfl rfl ?_
  exact cM_clears_l hN 145 0 A (by omega) (by omega) (fun j j0 j1 => absurd j1 (by omega))
theorem cM_reaches {N : Nat} {G F : GM} {n : Nat} (hN : 241 ≤ N) {A B : Int → Int} {f l p v : Int} (hp : 0 ≤ p ∧ p < 144) (hv : zr v) (hl : 0 ≤ l ∧ l < 144) : zC N 17 [.ref 230, .int (zi p), .int (zi v)] (zBf G A B f l) F n (zV fun G' F' n' => G' = zBf G (zp A p v) (zp B l p) f (l + 1) ∧ F' = F ∧ n' = n) := by
  refine zC_i (L0 := [.ref 230, .int (zi p), .int (zi v)]) rfl ?_
  refine zs_aload (ip' := 1) rfl rfl rfl ?_
  refine zs_getR (ip' := 2) rfl rfl (r := 238) (by omega) zsh_230 rfl ?_
  refine zs_iload (ip' := 3) rfl rfl rfl ?_
  refine zs_iload (ip' := 4) rfl rfl rfl ?_
  refine zs_iast (ip' := 5) rfl rfl (by omega) zsh_238 (by omega) (by omega) ?_
  rw [zBf_238, zBf_w238]
  refine zs_aload (ip' := 6) rfl rfl rfl ?_
  refine zs_getR (ip' := 7) rfl rfl (r := 239) (by omega) zsh_230 rfl ?_
  refine zs_aload (ip' := 8) rfl rfl rfl ?_
  refine zs_getI (ip' := 9) rfl rfl (by omega) zsh_230 rfl (q := 14) rfl ?_
  intro hl8 hu8
  rw [zBf_14]
  refine zs_iload (ip' := 10) rfl rfl rfl ?_
  refine zs_iast (ip' := 11) rfl rfl (by omega) zsh_239 (by omega) (by omega) ?_
  rw [zBf_239, zBf_w239]
  refine zs_aload (ip' := 12) rfl rfl rfl ?_
  refine zs_dupR (ip' := 13) rfl rfl ?_
  refine zs_getI (ip' := 14) rfl rfl (by omega) zsh_230 rfl (q := 14) rfl ?_
  intro hl13 hu13
  rw [zBf_14]
  refine zs_pushI (ip' := 15) rfl rfl zi_k1 ?_
  refine zs_iadd (ip' := 16) rfl rfl ?_
  refine zs_putI (ip' := 17) rfl rfl (by omega) zsh_230 rfl (q := 14) rfl (by omega) ?_
  rw [zBf_w14]
  refine zW_1 rfl ?_
  exact ⟨rfl, rfl, rfl, rfl⟩
theorem cM_spr_i {N : Nat} {G F : GM} {n : Nat} (hN : 241 ≤ N) {r : Nat} (hr : z_sh r = (1, 256, [])) (hrN : r < N) (hro : r ≠ 230 ∧ r ≠ 238 ∧ r ≠ 239) (hb : (0 ≤ G r 0 ∧ G r 0 ≤ 12) ∧ 0 ≤ G r 1 ∧ G r 1 ≤ 12) {go : Int → Prop} {Q : Zq} {f p : Int} (hk : ∀ (L : List Value) (A B : Int → Int) (l : Int), L.length = 6 → zBI (G r 0) (G r 1) (mWt (G r)) go False (f + 1) 0 l B A → zW N 18 0 (.ref 230 :: .ref r :: L) [] (zBf G A B (f + 1) l) F n Q) : ∀ (d : Nat) (w : Int) (A B : Int → Int) (l : Int) (a6 a7 : Value), 4 - w < (d : Int) → 0 ≤ w → w ≤ 4 → zBI (G r 0) (G r 1) (mWt (G r)) go False f w l B A → f < l → B f = p → zW N 18 27 [.ref 230, .ref r, .int (zi p), .int (zi (p % 12)), .int (zi (p / 12)), .int (zi w), a6, a7] [] (zBf G A B (f + 1) l) F n Q := by
  intro d
  induction d with
  | zero =>
    intro w A B l a6 a7 hd h0 h1 hI hc hp
    exact absurd hd (by omega)
  | succ d ih =>
    intro w A B l a6 a7 hd h0 h1 hI hc hp
    obtain ⟨x1, x2⟩ := zsx_rng w
    obtain ⟨y1, y2⟩ := zsy_rng w
    have hIc := hI
    obtain ⟨⟨i1, i2, i3, i4, i5⟩, i6, -, i7, -⟩ := hIc
    obtain ⟨⟨v1, v2, v3⟩, v4, v5, v6⟩ := i6 f i1 hc
    rw [hp] at v1 v2 v3 v4 v5 v6
    have h144 := zBI_144 hI
    refine zs_iload (ip' := 28) rfl rfl rfl ?_
    refine zs_pushI (ip' := 29) rfl rfl zi_k4 ?_
    refine zs_icmp_ge (t := 74) (ip' := 30) rfl rfl (by omega) (by omega) ?_ ?_
    · intro h29
      refine zs_goto (t := 0) rfl ?_
      have e : w = 4 := by omega
      subst e
      exact hk _ A B l rfl (zBI_next hI)
    · intro h29
      refine zs_iload (ip' := 31) rfl rfl rfl ?_
      refine zs_iload (ip' := 32) rfl rfl rfl ?_
      refine zW_cP (ip' := 33) rfl rfl (cM_columnBy (by omega)) rfl rfl rfl ?_
      refine zs_iadd (ip' := 34) rfl rfl ?_
      refine zs_istore6 (ip' := 35) rfl rfl ?_
      refine zs_iload (ip' := 36) rfl rfl rfl ?_
      refine zs_iload (ip' := 37) rfl rfl rfl ?_
      refine zW_cP (ip' := 38) rfl rfl (cM_rowBy (by omega)) rfl rfl rfl ?_
      refine zs_iadd (ip' := 39) rfl rfl ?_
      refine zs_istore7 (ip' := 40) rfl rfl ?_
      refine zs_aload (ip' := 41) rfl rfl rfl ?_
      refine zs_iload (ip' := 42) rfl rfl rfl ?_
      refine zs_iload (ip' := 43) rfl rfl rfl ?_
      refine zW_cP (ip' := 44) rfl rfl (cM_isInside hr hrN (by rw [zBf_o hro]; omega) (by rw [zBf_o hro]; omega) (by omega) (by omega)) rfl rfl rfl ?_
      refine zs_if_eqB (t := 72) (ip' := 45) rfl rfl ?_ ?_
      · intro h44
        rw [zBf_o hro] at h44
        refine zs_iinc5 (ip' := 73) rfl rfl zi_k1 ?_
        refine zs_goto (t := 27) rfl ?_
        exact ih (w + 1) A B l _ _ (by omega) (by omega) (by omega) (zBI_skipp (by omega) (by omega) hI hp hc (by omega) (fun hin _ => absurd hin h44)) hc hp
      · intro h44
        rw [zBf_o hro] at h44
        have h44c := h44
        obtain ⟨⟨x3, x4⟩, y3, y4⟩ := h44c
        obtain ⟨nv, n144, -⟩ := znb_val (W := G r 0) (H := G r 1) (p := p) (d := w) (by omega) (by omega) h44
        have n0 := nv.1
        have ne : 12 * (p / 12 + zsy w) + (p % 12 + zsx w) = znb p w := rfl
        refine zs_aload (ip' := 46) rfl rfl rfl ?_
        refine zs_iload (ip' := 47) rfl rfl rfl ?_
        refine zs_iload (ip' := 48) rfl rfl rfl ?_
        refine zW_cP (ip' := 49) rfl rfl cM_cellAt rfl rfl rfl ?_
        refine zs_iald (ip' := 50) rfl rfl hrN hr (by omega) ?_
        intro hl49 hu49
        refine zs_pushI (ip' := 51) rfl rfl zi_k1 ?_
        refine zs_icmp_ne (t := 53) (ip' := 52) rfl rfl (by omega) (by omega) ?_ ?_
        · intro h51
          rw [zBf_o hro, znb_i] at h51
          refine zs_aload (ip' := 54) rfl rfl rfl ?_
          refine zs_getR (ip' := 55) rfl rfl (r := 238) (by omega) zsh_230 rfl ?_
          refine zs_iload (ip' := 56) rfl rfl rfl ?_
          refine zs_iload (ip' := 57) rfl rfl rfl ?_
          refine zW_cP (ip' := 58) rfl rfl cM_placeOf rfl rfl rfl ?_
          refine zs_iald (ip' := 59) rfl rfl (by omega) zsh_238 (by omega) ?_
          intro hl58 hu58
          refine zs_pushI (ip' := 60) rfl rfl zi_km1 ?_
          refine zs_icmp_ne (t := 72) (ip' := 61) rfl rfl (by omega) (by omega) ?_ ?_
          · intro h60
            rw [zBf_238] at h60
            refine zs_iinc5 (ip' := 73) rfl rfl zi_k1 ?_
            refine zs_goto (t := 27) rfl ?_
            exact ih (w + 1) A B l _ _ (by omega) (by omega) (by omega) (zBI_skipp (by omega) (by omega) hI hp hc (by omega) (fun _ _ => by have := (i7 (znb p w) (by omega) (by omega)).1; have h60' : A (znb p w) ≠ -1 := h60; omega)) hc hp
          · intro h60
            rw [zBf_238] at h60
            have hroom := zBI_room hI n0 n144 h60
            refine zs_aload (ip' := 62) rfl rfl rfl ?_
            refine zs_iload (ip' := 63) rfl rfl rfl ?_
            refine zs_iload (ip' := 64) rfl rfl rfl ?_
            refine zW_cP (ip' := 65) rfl rfl cM_placeOf rfl rfl rfl ?_
            refine zs_aload (ip' := 66) rfl rfl rfl ?_
            refine zs_getR (ip' := 67) rfl rfl (r := 238) (by omega) zsh_230 rfl ?_
            refine zs_iload (ip' := 68) rfl rfl rfl ?_
            refine zs_iald (ip' := 69) rfl rfl (by omega) zsh_238 (by omega) ?_
            intro hl68 hu68
            rw [zBf_238] at hl68 hu68 ⊢
            have i7p := i7 p (by omega) (by omega)
            refine zs_pushI (ip' := 70) rfl rfl zi_k1 ?_
            refine zs_iadd (ip' := 71) rfl rfl ?_
            refine zW_cV (ip' := 72) rfl rfl (cM_reaches hN (by omega) (by omega) (by omega)) rfl rfl (z_ok3 (by omega) zsh_230 rfl rfl rfl) ?_
            rintro G' F' n' ⟨rfl, rfl, rfl⟩
            refine zs_iinc5 (ip' := 73) rfl rfl zi_k1 ?_
            refine zs_goto (t := 27) rfl ?_
            obtain ⟨j1, j2⟩ := zBI_addp (by omega) (by omega) hI hp hc (by omega) h44 h60 h51
            exact ih (w + 1) _ _ (l + 1) _ _ (by omega) (by omega) (by omega) j1 (by omega) j2
        · intro h51
          rw [zBf_o hro, znb_i] at h51
          refine zs_goto (t := 72) rfl ?_
          refine zs_iinc5 (ip' := 73) rfl rfl zi_k1 ?_
          refine zs_goto (t := 27) rfl ?_
          exact ih (w + 1) A B l _ _ (by omega) (by omega) (by omega) (zBI_skipp (by omega) (by omega) hI hp hc (by omega) (fun _ hm => (hm h51).elim)) hc hp
theorem cM_spr_o {N : Nat} {G F : GM} {n : Nat} (hN : 241 ≤ N) {r : Nat} (hr : z_sh r = (1, 256, [])) (hrN : r < N) (hro : r ≠ 230 ∧ r ≠ 238 ∧ r ≠ 239) (hb : (0 ≤ G r 0 ∧ G r 0 ≤ 12) ∧ 0 ≤ G r 1 ∧ G r 1 ≤ 12) {go : Int → Prop} : ∀ (d : Nat) (L : List Value) (A B : Int → Int) (f l : Int), 144 - f < (d : Int) → L.length = 6 → zBI (G r 0) (G r 1) (mWt (G r)) go False f 0 l B A → zW N 18 0 (.ref 230 :: .ref r :: L) [] (zBf G A B f l) F n (zV fun G' F' n' => ∃ A' B' f' l', (zDist (G r 0) (G r 1) (mWt (G r)) go False A') ∧ G' = zBf G A' B' f' l' ∧ F' = F ∧ n' = n) := by
  intro d
  induction d with
  | zero =>
    intro L A B f l hd hL hI
    obtain ⟨⟨i1, i2, -⟩, -⟩ := id hI
    have := zBI_144 hI
    omega
  | succ d ih =>
    intro L A B f l hd hL hI
    have hIc := hI
    obtain ⟨⟨i1, i2, i3, i4, i5⟩, i6, -, i7, -⟩ := hIc
    have h144 := zBI_144 hI
    obtain ⟨b2, b3, b4, b5, b6, b7, rfl⟩ : ∃ b2 b3 b4 b5 b6 b7, L = [b2, b3, b4, b5, b6, b7] := by
      match L, hL with
      | [b2, b3, b4, b5, b6, b7], _ => exact ⟨_, _, _, _, _, _, rfl⟩
    refine zs_aload (ip' := 1) rfl rfl rfl ?_
    refine zs_getI (ip' := 2) rfl rfl (by omega) zsh_230 rfl (q := 13) rfl ?_
    intro hl1 hu1
    rw [zBf_13] at hl1 hu1 ⊢
    refine zs_aload (ip' := 3) rfl rfl rfl ?_
    refine zs_getI (ip' := 4) rfl rfl (by omega) zsh_230 rfl (q := 14) rfl ?_
    intro hl3 hu3
    rw [zBf_14] at hl3 hu3 ⊢
    refine zs_icmp_ge (t := 75) (ip' := 5) rfl rfl (by omega) (by omega) ?_ ?_
    · intro h4
      refine zW_1 rfl ?_
      exact ⟨rfl, A, B, f, l, zBI_dist (by omega) (by omega) hI h4, rfl, rfl, rfl⟩
    · intro h4
      refine zs_aload (ip' := 6) rfl rfl rfl ?_
      refine zs_getR (ip' := 7) rfl rfl (r := 239) (by omega) zsh_230 rfl ?_
      refine zs_aload (ip' := 8) rfl rfl rfl ?_
      refine zs_getI (ip' := 9) rfl rfl (by omega) zsh_230 rfl (q := 13) rfl ?_
      intro hl8 hu8
      rw [zBf_13] at hl8 hu8 ⊢
      refine zs_iald (ip' := 10) rfl rfl (by omega) zsh_239 (by omega) ?_
      intro hl9 hu9
      rw [zBf_239] at hl9 hu9 ⊢
      obtain ⟨⟨v1, v2, v3⟩, v4, v5, v6⟩ := i6 f i1 h4
      refine zs_istore2 (ip' := 11) rfl rfl ?_
      refine zs_iload (ip' := 12) rfl rfl rfl ?_
      refine zs_pushI (ip' := 13) rfl rfl zi_k12 ?_
      refine zs_irem (ip' := 14) rfl rfl (by omega) (by omega) ?_
      refine zs_istore3 (ip' := 15) rfl rfl ?_
      refine zs_iload (ip' := 16) rfl rfl rfl ?_
      refine zs_pushI (ip' := 17) rfl rfl zi_k12 ?_
      refine zs_idiv (ip' := 18) rfl rfl (by omega) (by omega) ?_
      refine zs_istore4 (ip' := 19) rfl rfl ?_
      refine zs_aload (ip' := 20) rfl rfl rfl ?_
      refine zs_dupR (ip' := 21) rfl rfl ?_
      refine zs_getI (ip' := 22) rfl rfl (by omega) zsh_230 rfl (q := 13) rfl ?_
      intro hl21 hu21
      rw [zBf_13] at hl21 hu21 ⊢
      refine zs_pushI (ip' := 23) rfl rfl zi_k1 ?_
      refine zs_iadd (ip' := 24) rfl rfl ?_
      refine zs_putI (ip' := 25) rfl rfl (by omega) zsh_230 rfl (q := 13) rfl (by omega) ?_
      rw [zBf_w13]
      refine zs_pushI (ip' := 26) rfl rfl zi_k0 ?_
      refine zs_istore5 (ip' := 27) rfl rfl ?_
      exact cM_spr_i hN hr hrN hro hb (fun L A B l hL hI => ih L A B (f + 1) l (by omega) hL hI) 5 0 A B l _ _ (by omega) (by omega) (by omega) hI h4 rfl
theorem cM_spreads {N : Nat} {G F : GM} {n : Nat} (hN : 241 ≤ N) {r : Nat} (hr : z_sh r = (1, 256, [])) (hrN : r < N) (hro : r ≠ 230 ∧ r ≠ 238 ∧ r ≠ 239) (hb : (0 ≤ G r 0 ∧ G r 0 ≤ 12) ∧ 0 ≤ G r 1 ∧ G r 1 ≤ 12) {go : Int → Prop} {A B : Int → Int} {l : Int} (hI : zBI (G r 0) (G r 1) (mWt (G r)) go False 0 0 l B A) : zC N 18 [.ref 230, .ref r] (zBf G A B 0 l) F n (zV fun G' F' n' => ∃ A' B' f' l', (zDist (G r 0) (G r 1) (mWt (G r)) go False A') ∧ G' = zBf G A' B' f' l' ∧ F' = F ∧ n' = n) := by
  refine zC_i (L0 := [.ref 230, .ref r, .null, .null, .null, .null, .null, .null]) rfl ?_
  exact cM_spr_o hN hr hrN hro hb 145 _ A B 0 l (by omega) rfl hI
theorem cM_spreadsTo0 {N : Nat} {G F : GM} {n : Nat} (hN : 241 ≤ N) {r : Nat} (hr : z_sh r = (1, 256, [])) (hrN : r < N) (hro : r ≠ 230 ∧ r ≠ 238 ∧ r ≠ 239) (hb : (0 ≤ G r 0 ∧ G r 0 ≤ 12) ∧ 0 ≤ G r 1 ∧ G r 1 ≤ 12) {A B : Int → Int} {f l x y : Int} (hx : 0 ≤ x ∧ x < G r 0) (hy : 0 ≤ y ∧ y < G r 1) : zC N 19 [.ref 230, .ref r, .int (zi x), .int (zi y)] (zBf G A B f l) F n (zV fun G' F' n' => ∃ A' B' f' l', (zDist (G r 0) (G r 1) (mWt (G r)) (fun p => p = 12 * y + x) False A') ∧ G' = zBf G A' B' f' l' ∧ F' = F ∧ n' = n) := by
  refine zC_i (L0 := [.ref 230, .ref r, .int (zi x), .int (zi y)]) rfl ?_
  refine zs_aload (ip' := 1) rfl rfl rfl ?_
  refine zW_cV (ip' := 2) rfl rfl (cM_clearsSteps hN) rfl rfl (z_ok3 (by omega) zsh_230 rfl rfl rfl) ?_
  rintro G' F' n' ⟨A1, hA1, rfl, rfl, rfl⟩
  refine zs_aload (ip' := 3) rfl rfl rfl ?_
  refine zs_iload (ip' := 4) rfl rfl rfl ?_
  refine zs_iload (ip' := 5) rfl rfl rfl ?_
  refine zW_cP (ip' := 6) rfl rfl cM_placeOf rfl rfl rfl ?_
  refine zs_pushI (ip' := 7) rfl rfl zi_k0 ?_
  refine zW_cV (ip' := 8) rfl rfl (cM_reaches hN (by omega) (by omega) (by omega)) rfl rfl (z_ok3 (by omega) zsh_230 rfl rfl rfl) ?_
  rintro G' F' n' ⟨rfl, rfl, rfl⟩
  refine zs_aload (ip' := 9) rfl rfl rfl ?_
  refine zs_iload (ip' := 10) rfl rfl rfl ?_
  refine zs_iload (ip' := 11) rfl rfl rfl ?_
  refine zW_cP (ip' := 12) rfl rfl cM_cellAt rfl rfl rfl ?_
  refine zs_iald (ip' := 13) rfl rfl hrN hr (by omega) ?_
  intro hl12 hu12
  refine zs_pushI (ip' := 14) rfl rfl zi_k1 ?_
  refine zs_icmp_eq (t := 18) (ip' := 15) rfl rfl (by omega) (by omega) ?_ ?_
  · intro h14
    rw [zBf_o hro, Int.add_assoc] at h14
    have hv : zVal (G r 0) (G r 1) (12 * y + x) := ⟨by omega, by omega, by omega⟩
    refine zW_1 rfl ?_
    exact ⟨rfl, _, _, _, _, zDist_wet (by omega) (by omega) (fun p p0 p1 hne => (zp_ne hne).trans (hA1 p p0 p1)) (zp_eq _ _ _) hv h14, rfl, rfl, rfl⟩
  · intro h14
    rw [zBf_o hro, Int.add_assoc] at h14
    have hv : zVal (G r 0) (G r 1) (12 * y + x) := ⟨by omega, by omega, by omega⟩
    have hJ := (zBI_goal (by omega) (by omega) (zBI_none (W := G r 0) (H := G r 1) (wt := mWt (G r)) (mk := False) (q := B) hA1 (by omega) (by omega)) (fun p pv => by have := hA1 p (zVal_144 (by omega) (by omega) pv).1 (zVal_144 (by omega) (by omega) pv).2; omega) hv (hA1 _ (by omega) (by omega)) h14).1
    rw [show (fun p => False ∨ p = 12 * y + x) = (fun p : Int => p = 12 * y + x) from funext fun p => propext ⟨fun h => h.elim False.elim id, Or.inr⟩] at hJ
    refine zs_aload (ip' := 16) rfl rfl rfl ?_
    refine zs_aload (ip' := 17) rfl rfl rfl ?_
    refine zW_cV (ip' := 18) rfl rfl (cM_spreads hN hr hrN hro hb hJ) rfl rfl (z_ok3 (by omega) zsh_230 rfl rfl rfl) ?_
    rintro G' F' n' ⟨A2, B2, f2, l2, hD, rfl, rfl, rfl⟩
    refine zW_1 rfl ?_
    exact ⟨rfl, A2, B2, f2, l2, hD, rfl, rfl, rfl⟩
theorem cM_spreadsTo {N : Nat} {G F : GM} {n : Nat} (hN : 241 ≤ N) {r : Nat} (hr : z_sh r = (1, 256, [])) (hrN : r < N) (hro : r ≠ 230 ∧ r ≠ 238 ∧ r ≠ 239) (hb : (0 ≤ G r 0 ∧ G r 0 ≤ 12) ∧ 0 ≤ G r 1 ∧ G r 1 ≤ 12) {x y : Int} (hx : 0 ≤ x ∧ x < G r 0) (hy : 0 ≤ y ∧ y < G r 1) : zC N 19 [.ref 230, .ref r, .int (zi x), .int (zi y)] G F n (zV fun G' F' n' => ∃ A' B' f' l', (zDist (G r 0) (G r 1) (mWt (G r)) (fun p => p = 12 * y + x) False A') ∧ G' = zBf G A' B' f' l' ∧ F' = F ∧ n' = n) := by
  have := cM_spreadsTo0 (F := F) (n := n) (A := G 238) (B := G 239) (f := G 230 13) (l := G 230 14) hN hr hrN hro hb hx hy
  rw [zBf_self] at this
  exact this
theorem cM_stepsBy {N : Nat} {G F : GM} {n : Nat} (hN : 241 ≤ N) {r : Nat} (hr : z_sh r = (1, 256, [])) (hrN : r < N) (hb : (0 ≤ G r 0 ∧ G r 0 ≤ 12) ∧ 0 ≤ G r 1 ∧ G r 1 ≤ 12) {x y w : Int} (hx : 0 ≤ x ∧ x < 12) (hy : 0 ≤ y ∧ y < 12) (hw : 0 ≤ w ∧ w < 4) : zPu N 22 [.ref 230, .ref r, .int (zi x), .int (zi y), .int (zi w)] (sStepBy (G r) (G 238) x y w) G F n := by
  refine zPu_i (L0 := [.ref 230, .ref r, .int (zi x), .int (zi y), .int (zi w), .null, .null]) rfl ?_
  obtain ⟨x1, x2⟩ := zsx_rng w
  obtain ⟨y1, y2⟩ := zsy_rng w
  refine zs_iload (ip' := 1) rfl rfl rfl ?_
  refine zs_iload (ip' := 2) rfl rfl rfl ?_
  refine zW_cP (ip' := 3) rfl rfl (cM_columnBy (by omega)) rfl rfl rfl ?_
  refine zs_iadd (ip' := 4) rfl rfl ?_
  refine zs_istore5 (ip' := 5) rfl rfl ?_
  refine zs_iload (ip' := 6) rfl rfl rfl ?_
  refine zs_iload (ip' := 7) rfl rfl rfl ?_
  refine zW_cP (ip' := 8) rfl rfl (cM_rowBy (by omega)) rfl rfl rfl ?_
  refine zs_iadd (ip' := 9) rfl rfl ?_
  refine zs_istore6 (ip' := 10) rfl rfl ?_
  refine zs_aload (ip' := 11) rfl rfl rfl ?_
  refine zs_iload (ip' := 12) rfl rfl rfl ?_
  refine zs_iload (ip' := 13) rfl rfl rfl ?_
  refine zW_cP (ip' := 14) rfl rfl (cM_isInside hr hrN (by omega) (by omega) (by omega) (by omega)) rfl rfl rfl ?_
  refine zs_if_eqB (t := 22) (ip' := 15) rfl rfl ?_ ?_
  · intro h14
    refine zs_pushI (ip' := 23) rfl rfl zi_km1 ?_
    refine zW_0 rfl ?_
    exact zfin (if_neg (fun h => h14 h.1)).symm
  · intro h14
    have h14c := h14
    obtain ⟨⟨x3, x4⟩, y3, y4⟩ := h14c
    refine zs_aload (ip' := 16) rfl rfl rfl ?_
    refine zs_iload (ip' := 17) rfl rfl rfl ?_
    refine zs_iload (ip' := 18) rfl rfl rfl ?_
    refine zW_cP (ip' := 19) rfl rfl cM_cellAt rfl rfl rfl ?_
    refine zs_iald (ip' := 20) rfl rfl hrN hr (by omega) ?_
    intro hl19 hu19
    refine zs_pushI (ip' := 21) rfl rfl zi_k1 ?_
    refine zs_icmp_ne (t := 24) (ip' := 22) rfl rfl (by omega) (by omega) ?_ ?_
    · intro h21
      refine zs_aload (ip' := 25) rfl rfl rfl ?_
      refine zs_getR (ip' := 26) rfl rfl (r := 238) (by omega) zsh_230 rfl ?_
      refine zs_iload (ip' := 27) rfl rfl rfl ?_
      refine zs_iload (ip' := 28) rfl rfl rfl ?_
      refine zW_cP (ip' := 29) rfl rfl cM_placeOf rfl rfl rfl ?_
      refine zs_iald (ip' := 30) rfl rfl (by omega) zsh_238 (by omega) ?_
      intro hl29 hu29
      refine zW_0 rfl ?_
      exact zfin (if_pos ⟨h14, h21⟩).symm
    · intro h21
      refine zs_pushI (ip' := 23) rfl rfl zi_km1 ?_
      refine zW_0 rfl ?_
      exact zfin (if_neg (fun h => h.2 h21)).symm
theorem sStepBy_rng {s st : Int → Int} (hb : (0 ≤ s 0 ∧ s 0 ≤ 12) ∧ 0 ≤ s 1 ∧ s 1 ≤ 12) (hst : ∀ p, zVal (s 0) (s 1) p → -1 ≤ st p ∧ st p ≤ 144) (x y d : Int) : -1 ≤ sStepBy s st x y d ∧ sStepBy s st x y d ≤ 144 := by
  unfold sStepBy
  split
  · rename_i h
    obtain ⟨⟨⟨h1, h2⟩, h3, h4⟩, -⟩ := h
    exact hst _ ⟨by omega, by omega, by omega⟩
  · omega
theorem sLeast_rng {s st : Int → Int} (hb : (0 ≤ s 0 ∧ s 0 ≤ 12) ∧ 0 ≤ s 1 ∧ s 1 ≤ 12) (hst : ∀ p, zVal (s 0) (s 1) p → -1 ≤ st p ∧ st p ≤ 144) (x y : Int) (k : Nat) : -1 ≤ sLeast s st x y k ∧ sLeast s st x y k ≤ 145 := by
  induction k with
  | zero => exact ⟨Int.le_refl (-1), by show (-1 : Int) ≤ 145; decide⟩
  | succ k ih =>
    have := sStepBy_rng hb hst x y k
    unfold sLeast
    split <;> omega
theorem sSteps_rng {s st : Int → Int} (hb : (0 ≤ s 0 ∧ s 0 ≤ 12) ∧ 0 ≤ s 1 ∧ s 1 ≤ 12) (hst : ∀ p, zVal (s 0) (s 1) p → -1 ≤ st p ∧ st p ≤ 144) {x y : Int} (hx : 0 ≤ x ∧ x < s 0) (hy : 0 ≤ y ∧ y < s 1) : -1 ≤ sSteps s st x y ∧ sSteps s st x y ≤ 145 := by
  have h1 := hst (12 * y + x) ⟨by omega, by omega, by omega⟩
  have h2 := sLeast_rng hb hst x y 4
  unfold sSteps
  (repeat' split) <;> omega
theorem cM_stepsFrom_l {N : Nat} {G F : GM} {n : Nat} (hN : 241 ≤ N) {r : Nat} (hr : z_sh r = (1, 256, [])) (hrN : r < N) (hb : (0 ≤ G r 0 ∧ G r 0 ≤ 12) ∧ 0 ≤ G r 1 ∧ G r 1 ≤ 12) (hst : ∀ p, zVal (G r 0) (G r 1) p → -1 ≤ G 238 p ∧ G 238 p ≤ 144) {x y : Int} (hx : 0 ≤ x ∧ x < G r 0) (hy : 0 ≤ y ∧ y < G r 1) : ∀ (d : Nat) (k : Nat) (a6 : Value), 4 - (k : Int) < (d : Int) → (k : Int) ≤ 4 → zW N 21 27 [.ref 230, .ref r, .int (zi x), .int (zi y), .int (zi (sLeast (G r) (G 238) x y k)), .int (zi (k : Int)), a6] [] G F n (fun o G' F' n' => o = .inl (some (.int (zi (sLeast (G r) (G 238) x y 4)))) ∧ G' = G ∧ F' = F ∧ n' = n) := by
  intro d
  induction d with
  | zero =>
    intro k a6 hd hj
    exact absurd hd (by omega)
  | succ d ih =>
    intro k a6 hd hj
    obtain ⟨n1, n2⟩ := sLeast_rng hb hst x y k
    obtain ⟨n3, n4⟩ := sStepBy_rng hb hst x y k
    refine zs_iload (ip' := 28) rfl rfl rfl ?_
    refine zs_pushI (ip' := 29) rfl rfl zi_k4 ?_
    refine zs_icmp_ge (t := 52) (ip' := 30) rfl rfl (by omega) (by omega) ?_ ?_
    · intro h29
      refine zs_iload (ip' := 53) rfl rfl rfl ?_
      refine zW_0 rfl ?_
      exact zfin (congrArg (sLeast (G r) (G 238) x y) (by omega))
    · intro h29
      refine zs_aload (ip' := 31) rfl rfl rfl ?_
      refine zs_aload (ip' := 32) rfl rfl rfl ?_
      refine zs_iload (ip' := 33) rfl rfl rfl ?_
      refine zs_iload (ip' := 34) rfl rfl rfl ?_
      refine zs_iload (ip' := 35) rfl rfl rfl ?_
      refine zW_cP (ip' := 36) rfl rfl (cM_stepsBy hN hr hrN hb (by omega) (by omega) (by omega)) rfl rfl (z_ok3 (by omega) zsh_230 rfl rfl rfl) ?_
      refine zs_istore6 (ip' := 37) rfl rfl ?_
      refine zs_iload (ip' := 38) rfl rfl rfl ?_
      refine zs_if_lt (t := 50) (ip' := 39) rfl rfl (by omega) ?_ ?_
      · intro h38
        refine zs_iinc5 (ip' := 51) rfl rfl zi_k1 ?_
        refine zs_goto (t := 27) rfl ?_
        have e : sLeast (G r) (G 238) x y (k + 1) = sLeast (G r) (G 238) x y k := if_neg (fun h => by omega)
        have := ih (k + 1) (.int (zi (sStepBy (G r) (G 238) x y k))) (by omega) (by omega)
        rw [e] at this
        exact this
      · intro h38
        refine zs_iload (ip' := 40) rfl rfl rfl ?_
        refine zs_if_lt (t := 46) (ip' := 41) rfl rfl (by omega) ?_ ?_
        · intro h40
          refine zs_iload (ip' := 47) rfl rfl rfl ?_
          refine zs_pushI (ip' := 48) rfl rfl zi_k1 ?_
          refine zs_iadd (ip' := 49) rfl rfl ?_
          refine zs_istore4 (ip' := 50) rfl rfl ?_
          refine zs_iinc5 (ip' := 51) rfl rfl zi_k1 ?_
          refine zs_goto (t := 27) rfl ?_
          have e : sLeast (G r) (G 238) x y (k + 1) = sStepBy (G r) (G 238) x y k + 1 := if_pos ⟨h38, Or.inl h40⟩
          have := ih (k + 1) (.int (zi (sStepBy (G r) (G 238) x y k))) (by omega) (by omega)
          rw [e] at this
          exact this
        · intro h40
          refine zs_iload (ip' := 42) rfl rfl rfl ?_
          refine zs_pushI (ip' := 43) rfl rfl zi_k1 ?_
          refine zs_iadd (ip' := 44) rfl rfl ?_
          refine zs_iload (ip' := 45) rfl rfl rfl ?_
          refine zs_icmp_ge (t := 50) (ip' := 46) rfl rfl (by omega) (by omega) ?_ ?_
          · intro h45
            refine zs_iinc5 (ip' := 51) rfl rfl zi_k1 ?_
            refine zs_goto (t := 27) rfl ?_
            have e : sLeast (G r) (G 238) x y (k + 1) = sLeast (G r) (G 238) x y k := if_neg (fun h => by omega)
            have := ih (k + 1) (.int (zi (sStepBy (G r) (G 238) x y k))) (by omega) (by omega)
            rw [e] at this
            exact this
          · intro h45
            refine zs_iload (ip' := 47) rfl rfl rfl ?_
            refine zs_pushI (ip' := 48) rfl rfl zi_k1 ?_
            refine zs_iadd (ip' := 49) rfl rfl ?_
            refine zs_istore4 (ip' := 50) rfl rfl ?_
            refine zs_iinc5 (ip' := 51) rfl rfl zi_k1 ?_
            refine zs_goto (t := 27) rfl ?_
            have e : sLeast (G r) (G 238) x y (k + 1) = sStepBy (G r) (G 238) x y k + 1 := if_pos ⟨h38, Or.inr h45⟩
            have := ih (k + 1) (.int (zi (sStepBy (G r) (G 238) x y k))) (by omega) (by omega)
            rw [e] at this
            exact this
theorem cM_stepsFrom {N : Nat} {G F : GM} {n : Nat} (hN : 241 ≤ N) {r : Nat} (hr : z_sh r = (1, 256, [])) (hrN : r < N) (hb : (0 ≤ G r 0 ∧ G r 0 ≤ 12) ∧ 0 ≤ G r 1 ∧ G r 1 ≤ 12) (hst : ∀ p, zVal (G r 0) (G r 1) p → -1 ≤ G 238 p ∧ G 238 p ≤ 144) {x y : Int} (hx : 0 ≤ x ∧ x < G r 0) (hy : 0 ≤ y ∧ y < G r 1) : zPu N 21 [.ref 230, .ref r, .int (zi x), .int (zi y)] (sSteps (G r) (G 238) x y) G F n := by
  refine zPu_i (L0 := [.ref 230, .ref r, .int (zi x), .int (zi y), .null, .null, .null]) rfl ?_
  refine zs_aload (ip' := 1) rfl rfl rfl ?_
  refine zs_getR (ip' := 2) rfl rfl (r := 238) (by omega) zsh_230 rfl ?_
  refine zs_iload (ip' := 3) rfl rfl rfl ?_
  refine zs_iload (ip' := 4) rfl rfl rfl ?_
  refine zW_cP (ip' := 5) rfl rfl cM_placeOf rfl rfl rfl ?_
  refine zs_iald (ip' := 6) rfl rfl (by omega) zsh_238 (by omega) ?_
  intro hl5 hu5
  refine zs_if_lt (t := 14) (ip' := 7) rfl rfl (by omega) ?_ ?_
  · intro h6
    refine zs_aload (ip' := 15) rfl rfl rfl ?_
    refine zs_iload (ip' := 16) rfl rfl rfl ?_
    refine zs_iload (ip' := 17) rfl rfl rfl ?_
    refine zW_cP (ip' := 18) rfl rfl cM_cellAt rfl rfl rfl ?_
    refine zs_iald (ip' := 19) rfl rfl hrN hr (by omega) ?_
    intro hl18 hu18
    refine zs_pushI (ip' := 20) rfl rfl zi_k1 ?_
    refine zs_icmp_eq (t := 23) (ip' := 21) rfl rfl (by omega) (by omega) ?_ ?_
    · intro h20
      refine zs_pushI (ip' := 24) rfl rfl zi_km1 ?_
      refine zs_istore4 (ip' := 25) rfl rfl ?_
      refine zs_pushI (ip' := 26) rfl rfl zi_k0 ?_
      refine zs_istore5 (ip' := 27) rfl rfl ?_
      have e : sSteps (G r) (G 238) x y = sLeast (G r) (G 238) x y 4 := by unfold sSteps; rw [if_neg (by omega), if_pos h20]
      rw [e]
      exact cM_stepsFrom_l hN hr hrN hb hst hx hy 5 0 _ (by omega) (by omega)
    · intro h20
      refine zs_pushI (ip' := 22) rfl rfl zi_km1 ?_
      refine zW_0 rfl ?_
      exact zfin (by unfold sSteps; rw [if_neg (by omega), if_neg h20])
  · intro h6
    refine zs_aload (ip' := 8) rfl rfl rfl ?_
    refine zs_getR (ip' := 9) rfl rfl (r := 238) (by omega) zsh_230 rfl ?_
    refine zs_iload (ip' := 10) rfl rfl rfl ?_
    refine zs_iload (ip' := 11) rfl rfl rfl ?_
    refine zW_cP (ip' := 12) rfl rfl cM_placeOf rfl rfl rfl ?_
    refine zs_iald (ip' := 13) rfl rfl (by omega) zsh_238 (by omega) ?_
    intro hl12 hu12
    refine zW_0 rfl ?_
    exact zfin (by unfold sSteps; rw [if_pos h6])
