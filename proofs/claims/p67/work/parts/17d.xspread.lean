/-! The program: a search done (printed by wip/whole/src40.py). -/
theorem zBI_markp {W H : Int} {wt : Int → Prop} [DecidablePred wt] {go : Int → Prop} {mk : Prop} {c dn tl p : Int} {q st : Int → Int} (hW : W ≤ 12) (hH : H ≤ 12) (h : zBI W H wt go mk c dn tl q st) (hp : q c = p) (hc : c < tl) (hd : dn < 4) (hin : zIn W H (znx p dn) (zny p dn)) (ht : st (znb p dn) = -1) (hw : wt (znb p dn)) (hm : mk) :
    zBI W H wt go mk c (dn + 1) tl q (zp st (znb p dn) (st p + 1)) := by
  subst hp
  exact zBI_mark hW hH h hc hd hin ht hw hm
theorem xNb_no {W H c d : Int} (h : xNb W H c d = -1) : ¬ zIn W H (znx c d) (zny c d) := by
  intro q
  obtain ⟨⟨a1, a2⟩, a3, a4⟩ := q
  have e : xNb W H c d = znb c d := if_pos ⟨a1, by omega, a3, by omega⟩
  have : znb c d = 12 * zny c d + znx c d := rfl
  omega
theorem xNb_yes {W H c d : Int} (h : ¬ xNb W H c d = -1) : zIn W H (znx c d) (zny c d) ∧ xNb W H c d = znb c d := by
  by_cases q : 0 ≤ znx c d ∧ znx c d < W ∧ 0 ≤ zny c d ∧ zny c d < H
  · exact ⟨⟨⟨q.1, by omega⟩, q.2.2.1, by omega⟩, if_pos q⟩
  · exact absurd (if_neg q) h
theorem xFr_w {i w : Nat} {G G' : GM} (h : xFr i G G') (hw : w < 12) : G' (16 * w + 1) = G (16 * w + 1) ∧ G' (16 * w + 2) = G (16 * w + 2) :=
  ⟨h _ (by omega) (by omega) (by omega), h _ (by omega) (by omega) (by omega)⟩
/-- the search is under way: from memory G0 to G -/
def xBI (i w : Nat) (go : Int → Prop) (G0 G : GM) (c dn : Int) : Prop := xFr i G0 G ∧ zBI (G0 (16 * w + 1) 0) (G0 (16 * w + 1) 1) (xWt (G0 (16 * w + 2))) go True c dn (G (201 + 3 * i) 3) (G (201 + 3 * i + 2)) (G (201 + 3 * i + 1))
theorem xBI_re {i w : Nat} {go : Int → Prop} {G0 G G' : GM} {c dn p : Int} (hw : w < 12) (hW : G0 (16 * w + 1) 0 ≤ 12) (hH : G0 (16 * w + 1) 1 ≤ 12) (h : xBI i w go G0 G c dn) (hp : G (201 + 3 * i + 2) c = p) (hc : c < G (201 + 3 * i) 3) (hd : dn < 4)
    (hin : zIn (G0 (16 * w + 1) 0) (G0 (16 * w + 1) 1) (znx p dn) (zny p dn)) (hr : xRe i (G0 (16 * w + 2)) (znb p dn) (G (201 + 3 * i + 1) p + 1) G G') : xBI i w go G0 G' c (dn + 1) ∧ G' (201 + 3 * i + 2) c = p ∧ c < G' (201 + 3 * i) 3 := by
  obtain ⟨h1, h2⟩ := h
  obtain ⟨i1, -, -, i4, -⟩ := id h2
  obtain ⟨nv, n144, -⟩ := znb_val (p := p) (d := dn) hW hH hin
  have hst := i4 (znb p dn) nv.1 n144
  rcases hr with ⟨r1, rfl⟩ | ⟨r1, r2, r3, ⟨r4, r5, r6⟩ | ⟨r4, r5, r6⟩⟩
  · exact ⟨⟨h1, zBI_skipp hW hH h2 hp hc hd (fun _ _ => by omega)⟩, hp, hc⟩
  · refine ⟨⟨xFr_t h1 r2, ?_⟩, by rw [r5]; exact hp, by omega⟩
    rw [r5, r6, r3]
    exact zBI_markp hW hH h2 hp hc hd hin r1 r4 trivial
  · obtain ⟨j1, j2⟩ := zBI_addp hW hH h2 hp hc hd hin r1 r4
    refine ⟨⟨xFr_t h1 r2, ?_⟩, by rw [r5]; exact j2, by omega⟩
    rw [r5, r6, r3]
    exact j1
theorem cX_spr_i {N : Nat} {F : GM} {n : Nat} (hN : 229 ≤ N) {w : Nat} (hw : w < 12) {i : Nat} (hi : i < 9) {G0 : GM} (hW : 0 ≤ G0 (16 * w + 1) 0 ∧ G0 (16 * w + 1) 0 ≤ 12) (hH : 0 ≤ G0 (16 * w + 1) 1 ∧ G0 (16 * w + 1) 1 ≤ 12) {go : Int → Prop} {Q : Zq} {f p : Int} (hf0 : 0 ≤ f) (hk : ∀ (G : GM) (a4 a5 : Value), xBI i w go G0 G (f + 1) 0 → f < G (201 + 3 * i) 3 → zW N 168 39 [.ref (201 + 3 * i), .ref (16 * w + 1), .int (zi f), .int (zi p), a4, a5] [] G F n Q) : ∀ (d : Nat) (q : Int) (G : GM) (a5 : Value), 4 - q < (d : Int) → 0 ≤ q → q ≤ 4 → xBI i w go G0 G f q → f < G (201 + 3 * i) 3 → G (201 + 3 * i + 2) f = p → zW N 168 16 [.ref (201 + 3 * i), .ref (16 * w + 1), .int (zi f), .int (zi p), .int (zi q), a5] [] G F n Q := by
  intro d
  induction d with
  | zero =>
    intro q G a5 hd h0 h1 hS hc hp
    exact absurd hd (by omega)
  | succ d ih =>
    intro q G a5 hd h0 h1 hS hc hp
    obtain ⟨hf, hI⟩ := id hS
    obtain ⟨ew1, ew2⟩ := xFr_w hf hw
    obtain ⟨⟨i1, i2, i3, i4, i5⟩, i6, -, i7, -⟩ := id hI
    have h144 := zBI_144 hI
    obtain ⟨⟨v1, v2, v3⟩, v4, v5, v6⟩ := i6 f hf0 hc
    rw [hp] at v1 v2 v3 v4 v5 v6
    refine zs_iload (ip' := 17) rfl rfl rfl ?_
    refine zs_pushI (ip' := 18) rfl rfl zi_k4 ?_
    refine zs_icmp_ge (t := 39) (ip' := 19) rfl rfl (by omega) (by omega) ?_ ?_
    · intro h18
      have e : q = 4 := by omega
      subst e
      exact hk G _ _ ⟨hf, zBI_next hI⟩ hc
    · intro h18
      refine zs_aload (ip' := 20) rfl rfl rfl ?_
      refine zs_iload (ip' := 21) rfl rfl rfl ?_
      refine zs_iload (ip' := 22) rfl rfl rfl ?_
      refine zW_cP (ip' := 23) rfl rfl (cX_neighbour hN hw (by omega) (by omega)) rfl rfl (z_ok3 (by omega) (zsh_w1 hw) rfl rfl rfl) ?_
      have hxr : -1 ≤ xNb (G (16 * w + 1) 0) (G (16 * w + 1) 1) p q ∧ xNb (G (16 * w + 1) 0) (G (16 * w + 1) 1) p q < 144 := by
        by_cases hx : xNb (G (16 * w + 1) 0) (G (16 * w + 1) 1) p q = -1
        · omega
        · obtain ⟨hx1, hx2⟩ := xNb_yes hx
          rw [ew1] at hx1
          obtain ⟨hx3, hx4, -⟩ := znb_val hW.2 hH.2 hx1
          have := hx3.1
          omega
      refine zs_istore5 (ip' := 24) rfl rfl ?_
      refine zs_iload (ip' := 25) rfl rfl rfl ?_
      refine zs_pushI (ip' := 26) rfl rfl zi_km1 ?_
      refine zs_icmp_eq (t := 37) (ip' := 27) rfl rfl (by omega) (by omega) ?_ ?_
      · intro h26
        rw [ew1] at h26
        refine zs_iinc4 (ip' := 38) rfl rfl zi_k1 ?_
        refine zs_goto (t := 16) rfl ?_
        exact ih (q + 1) G _ (by omega) (by omega) (by omega) ⟨hf, zBI_skipp hW.2 hH.2 hI hp hc (by omega) (fun hin _ => absurd hin (xNb_no h26))⟩ hc hp
      · intro h26
        obtain ⟨hin, hnb⟩ := xNb_yes h26
        rw [ew1] at hin
        obtain ⟨nv, n144, -⟩ := znb_val (p := p) (d := q) hW.2 hH.2 hin
        have n0 := nv.1
        refine zs_aload (ip' := 28) rfl rfl rfl ?_
        refine zs_aload (ip' := 29) rfl rfl rfl ?_
        refine zs_iload (ip' := 30) rfl rfl rfl ?_
        refine zs_aload (ip' := 31) rfl rfl rfl ?_
        refine zs_getR (ip' := 32) rfl rfl (r := 201 + 3 * i + 1) (by omega) (zsh_d0 hi) rfl ?_
        refine zs_iload (ip' := 33) rfl rfl rfl ?_
        refine zs_iald (ip' := 34) rfl rfl (by omega) (zsh_d1 hi) (by omega) ?_
        intro hl33 hu33
        refine zs_pushI (ip' := 35) rfl rfl zi_k1 ?_
        refine zs_iadd (ip' := 36) rfl rfl ?_
        refine zW_cV (ip' := 37) rfl rfl (cX_reach hN hw hi (by omega) (by omega) ⟨by omega, by omega⟩ (fun a b => zBI_room hI n0 n144 (by rw [hnb] at a; exact a))) rfl rfl (z_ok3 (by omega) (zsh_d0 hi) rfl rfl rfl) ?_
        rintro G' F' n' ⟨hre, rfl, rfl⟩
        refine zs_iinc4 (ip' := 38) rfl rfl zi_k1 ?_
        refine zs_goto (t := 16) rfl ?_
        rw [hnb, ew2] at hre
        obtain ⟨j1, j2, j3⟩ := xBI_re hw hW.2 hH.2 hS hp hc (by omega) hin hre
        exact ih (q + 1) G' _ (by omega) (by omega) (by omega) j1 j3 j2
theorem cX_spr_o {N : Nat} {F : GM} {n : Nat} (hN : 229 ≤ N) {w : Nat} (hw : w < 12) {i : Nat} (hi : i < 9) {G0 : GM} (hW : 0 ≤ G0 (16 * w + 1) 0 ∧ G0 (16 * w + 1) 0 ≤ 12) (hH : 0 ≤ G0 (16 * w + 1) 1 ∧ G0 (16 * w + 1) 1 ≤ 12) {go : Int → Prop} : ∀ (d : Nat) (f : Int) (G : GM) (a3 a4 a5 : Value), 144 - f < (d : Int) → 0 ≤ f → f ≤ 144 → xBI i w go G0 G f 0 → zW N 168 2 [.ref (201 + 3 * i), .ref (16 * w + 1), .int (zi f), a3, a4, a5] [] G F n (zV fun G' F' n' => (xFr i G0 G' ∧ G' (201 + 3 * i) 1 = 1 ∧ zDist (G0 (16 * w + 1) 0) (G0 (16 * w + 1) 1) (xWt (G0 (16 * w + 2))) go True (G' (201 + 3 * i + 1))) ∧ F' = F ∧ n' = n) := by
  intro d
  induction d with
  | zero =>
    intro f G a3 a4 a5 hd h0 h1 hS
    exact absurd hd (by omega)
  | succ d ih =>
    intro f G a3 a4 a5 hd h0 h1 hS
    obtain ⟨hf, hI⟩ := id hS
    obtain ⟨ew1, ew2⟩ := xFr_w hf hw
    obtain ⟨⟨i1, i2, i3, i4, i5⟩, i6, -, i7, -⟩ := id hI
    have h144 := zBI_144 hI
    refine zs_iload (ip' := 3) rfl rfl rfl ?_
    refine zs_pushI (ip' := 4) rfl rfl zi_k144 ?_
    refine zs_icmp_ge (t := 41) (ip' := 5) rfl rfl (by omega) (by omega) ?_ ?_
    · intro h4
      refine zs_aload (ip' := 42) rfl rfl rfl ?_
      refine zs_pushI (ip' := 43) rfl rfl zi_k1 ?_
      refine zs_putZ (ip' := 44) rfl rfl (by omega) (zsh_d0 hi) rfl (q := 1) rfl (Or.inr rfl) ?_
      refine zW_1 rfl ?_
      refine ⟨rfl, ⟨fun k a b c => (zk_ne a).trans (hf k a b c), by rw [zk_eq, zp_eq], ?_⟩, rfl, rfl⟩
      rw [zk_ne (by omega)]
      exact zBI_dist hW.2 hH.2 hI (by omega)
    · intro h4
      refine zs_iload (ip' := 6) rfl rfl rfl ?_
      refine zs_aload (ip' := 7) rfl rfl rfl ?_
      refine zs_getI (ip' := 8) rfl rfl (by omega) (zsh_d0 hi) rfl (q := 3) rfl ?_
      intro hl7 hu7
      refine zs_icmp_ge (t := 41) (ip' := 9) rfl rfl (by omega) (by omega) ?_ ?_
      · intro h8
        refine zs_aload (ip' := 42) rfl rfl rfl ?_
        refine zs_pushI (ip' := 43) rfl rfl zi_k1 ?_
        refine zs_putZ (ip' := 44) rfl rfl (by omega) (zsh_d0 hi) rfl (q := 1) rfl (Or.inr rfl) ?_
        refine zW_1 rfl ?_
        refine ⟨rfl, ⟨fun k a b c => (zk_ne a).trans (hf k a b c), by rw [zk_eq, zp_eq], ?_⟩, rfl, rfl⟩
        rw [zk_ne (by omega)]
        exact zBI_dist hW.2 hH.2 hI (by omega)
      · intro h8
        refine zs_aload (ip' := 10) rfl rfl rfl ?_
        refine zs_getR (ip' := 11) rfl rfl (r := 201 + 3 * i + 2) (by omega) (zsh_d0 hi) rfl ?_
        refine zs_iload (ip' := 12) rfl rfl rfl ?_
        refine zs_iald (ip' := 13) rfl rfl (by omega) (zsh_d2 hi) (by omega) ?_
        intro hl12 hu12
        obtain ⟨⟨v1, v2, v3⟩, v4, v5, v6⟩ := i6 f h0 h8
        refine zs_istore3 (ip' := 14) rfl rfl ?_
        refine zs_pushI (ip' := 15) rfl rfl zi_k0 ?_
        refine zs_istore4 (ip' := 16) rfl rfl ?_
        refine cX_spr_i hN hw hi hW hH h0 (fun G a4 a5 hS2 hc2 => ?_) 5 0 G _ (by omega) (by omega) (by omega) hS h8 rfl
        exact zs_iinc2 (ip' := 40) rfl rfl zi_k1 (zs_goto (t := 2) rfl (ih (f + 1) G _ _ _ (by omega) (by omega) (by omega) hS2))
theorem cX_spread {N : Nat} {G F : GM} {n : Nat} (hN : 229 ≤ N) {w : Nat} (hw : w < 12) {i : Nat} (hi : i < 9) {G0 : GM} (hW : 0 ≤ G0 (16 * w + 1) 0 ∧ G0 (16 * w + 1) 0 ≤ 12) (hH : 0 ≤ G0 (16 * w + 1) 1 ∧ G0 (16 * w + 1) 1 ≤ 12) {go : Int → Prop} (hS : xBI i w go G0 G 0 0) : zC N 168 [.ref (201 + 3 * i), .ref (16 * w + 1)] G F n (zV fun G' F' n' => (xFr i G0 G' ∧ G' (201 + 3 * i) 1 = 1 ∧ zDist (G0 (16 * w + 1) 0) (G0 (16 * w + 1) 1) (xWt (G0 (16 * w + 2))) go True (G' (201 + 3 * i + 1))) ∧ F' = F ∧ n' = n) := by
  refine zC_i (L0 := [.ref (201 + 3 * i), .ref (16 * w + 1), .null, .null, .null, .null]) rfl ?_
  refine zs_pushI (ip' := 1) rfl rfl zi_k0 ?_
  refine zs_istore2 (ip' := 2) rfl rfl ?_
  exact cX_spr_o hN hw hi hW hH 145 0 G _ _ _ (by omega) (by omega) (by omega) hS
