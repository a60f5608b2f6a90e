/-! The program: the way to the huts, paths (printed by wip/whole/src59.py). -/
/-- the huts before a place -/
abbrev xHu (W H : Int) (T : Int → Int) (t p : Int) : Prop := zVal W H p ∧ T p = 11 ∧ p < t
theorem xBI_go {i w : Nat} {go go' : Int → Prop} {G0 G : GM} {c dn : Int} (h : xBI i w go G0 G c dn) (e : ∀ p, zVal (G0 (16 * w + 1) 0) (G0 (16 * w + 1) 1) p → (go p ↔ go' p)) : xBI i w go' G0 G c dn := ⟨h.1, zBI_go h.2 e⟩
theorem xBI_hun {i w : Nat} {G0 G : GM} {t : Int} (hW : G0 (16 * w + 1) 0 ≤ 12) (hH : G0 (16 * w + 1) 1 ≤ 12) (hI : xBI i w (xHu (G0 (16 * w + 1) 0) (G0 (16 * w + 1) 1) (G0 (16 * w + 2)) t) G0 G 0 0)
    (h0 : ∀ p, zVal (G0 (16 * w + 1) 0) (G0 (16 * w + 1) 1) p → G (201 + 3 * i + 1) p ≤ 0) (tv : zVal (G0 (16 * w + 1) 0) (G0 (16 * w + 1) 1) t) : (0 ≤ G (201 + 3 * i) 3 ∧ G (201 + 3 * i) 3 < 144) ∧ G (201 + 3 * i + 1) t = -1 := by
  obtain ⟨t0, t1⟩ := zVal_144 hW hH tv
  obtain ⟨⟨-, i1, -⟩, -, -, i4, -, i6, -⟩ := id hI.2
  have e1 := i4 t t0 t1
  have e2 := h0 _ tv
  have e3 : G (201 + 3 * i + 1) t ≠ 0 := fun q => by have := ((i6 _ tv).mpr q).2.2; omega
  have e4 : G (201 + 3 * i + 1) t = -1 := by omega
  exact ⟨⟨i1, zBI_room hI.2 t0 t1 e4⟩, e4⟩
theorem xBI_hut {i w : Nat} {G0 G G2 : GM} {t : Int} (hw : w < 12) (hW : G0 (16 * w + 1) 0 ≤ 12) (hH : G0 (16 * w + 1) 1 ≤ 12) (hI : xBI i w (xHu (G0 (16 * w + 1) 0) (G0 (16 * w + 1) 1) (G0 (16 * w + 2)) t) G0 G 0 0)
    (h0 : ∀ p, zVal (G0 (16 * w + 1) 0) (G0 (16 * w + 1) 1) p → G (201 + 3 * i + 1) p ≤ 0) (tv : zVal (G0 (16 * w + 1) 0) (G0 (16 * w + 1) 1) t) (hT : G0 (16 * w + 2) t = 11) (hr : xRe i (G0 (16 * w + 2)) t 0 G G2) :
    xBI i w (xHu (G0 (16 * w + 1) 0) (G0 (16 * w + 1) 1) (G0 (16 * w + 2)) (t + 1)) G0 G2 0 0 ∧ ∀ p, zVal (G0 (16 * w + 1) 0) (G0 (16 * w + 1) 1) p → G2 (201 + 3 * i + 1) p ≤ 0 := by
  obtain ⟨-, e4⟩ := xBI_hun hW hH hI h0 tv
  have hwt : ¬ xWt (G0 (16 * w + 2)) t := fun q => by
    have : G0 (16 * w + 2) t = 0 := q
    omega
  rcases hr with ⟨r1, -⟩ | ⟨r1, r2, r3, ⟨r4, -, -⟩ | ⟨-, r5, r6⟩⟩
  · exact absurd e4 r1
  · exact absurd r4 hwt
  · obtain ⟨j1, j2⟩ := zBI_goal hW hH hI.2 h0 tv e4 hwt
    rw [r3]
    refine ⟨⟨xFr_t hI.1 r2, ?_⟩, j2⟩
    rw [r3, r5, r6]
    refine zBI_go j1 (fun p pv => ⟨fun q => q.elim (fun q => ⟨q.1, q.2.1, by have := q.2.2; omega⟩) (fun e => by rw [e]; exact ⟨tv, hT, by omega⟩), fun q => ?_⟩)
    by_cases e : p = t
    · exact Or.inr e
    · exact Or.inl ⟨q.1, q.2.1, by have := q.2.2; omega⟩
theorem cX_huts_i {N : Nat} {F : GM} {n : Nat} (hN : 229 ≤ N) {w : Nat} (hw : w < 12) {i : Nat} (hi : i < 9) {G0 : GM} (hW : 0 ≤ G0 (16 * w + 1) 0 ∧ G0 (16 * w + 1) 0 ≤ 12) (hH : 0 ≤ G0 (16 * w + 1) 1 ∧ G0 (16 * w + 1) 1 ≤ 12) {K : Nat} (hK : (K : Int) < G0 (16 * w + 1) 1) {Q : Zq} (hk : ∀ (G : GM) (a3 a4 : Value), xBI i w (xHu (G0 (16 * w + 1) 0) (G0 (16 * w + 1) 1) (G0 (16 * w + 2)) (12 * ((K : Int) + 1))) G0 G 0 0 → (∀ p, zVal (G0 (16 * w + 1) 0) (G0 (16 * w + 1) 1) p → G (201 + 3 * i + 1) p ≤ 0) → zW N 166 4 [.ref (201 + 3 * i), .ref (16 * w + 1), .int (zi ((K : Int) + 1)), a3, a4] [] G F n Q) : ∀ (d : Nat) (k : Nat) (a4 : Value) (G : GM), G0 (16 * w + 1) 0 - (k : Int) < (d : Int) → (k : Int) ≤ G0 (16 * w + 1) 0 → xBI i w (xHu (G0 (16 * w + 1) 0) (G0 (16 * w + 1) 1) (G0 (16 * w + 2)) (12 * (K : Int) + k)) G0 G 0 0 → (∀ p, zVal (G0 (16 * w + 1) 0) (G0 (16 * w + 1) 1) p → G (201 + 3 * i + 1) p ≤ 0) → zW N 166 10 [.ref (201 + 3 * i), .ref (16 * w + 1), .int (zi (K : Int)), .int (zi (k : Int)), a4] [] G F n Q := by
  intro d
  induction d with
  | zero =>
    intro k a4 G hd hj hI h0
    exact absurd hd (by omega)
  | succ d ih =>
    intro k a4 G hd hj hI h0
    obtain ⟨e1, e2⟩ := xFr_w hI.1 hw
    refine zs_iload (ip' := 11) rfl rfl rfl ?_
    refine zs_aload (ip' := 12) rfl rfl rfl ?_
    refine zs_getI (ip' := 13) rfl rfl (by omega) (zsh_w1 hw) rfl (q := 0) rfl ?_
    intro hl12 hu12
    rw [e1] at hl12 hu12 ⊢
    refine zs_icmp_ge (t := 31) (ip' := 14) rfl rfl (by omega) (by omega) ?_ ?_
    · intro h13
      refine zs_iinc2 (ip' := 32) rfl rfl zi_k1 ?_
      refine zs_goto (t := 4) rfl ?_
      exact hk G _ _ (xBI_go hI (fun p pv => ⟨fun q => ⟨q.1, q.2.1, by have := q.2.2; omega⟩, fun q => ⟨q.1, q.2.1, by have := q.2.2; have := pv.2.1; omega⟩⟩)) h0
    · intro h13
      have tv : zVal (G0 (16 * w + 1) 0) (G0 (16 * w + 1) 1) (12 * (K : Int) + k) := ⟨by omega, by omega, by omega⟩
      refine zs_iload (ip' := 15) rfl rfl rfl ?_
      refine zs_iload (ip' := 16) rfl rfl rfl ?_
      refine zW_cP (ip' := 17) rfl rfl cX_cellAt rfl rfl rfl ?_
      refine zs_istore4 (ip' := 18) rfl rfl ?_
      refine zs_aload (ip' := 19) rfl rfl rfl ?_
      refine zs_getR (ip' := 20) rfl rfl (r := 16 * w + 2) (by omega) (zsh_w1 hw) rfl ?_
      refine zs_iload (ip' := 21) rfl rfl rfl ?_
      refine zs_iald (ip' := 22) rfl rfl (by omega) (zsh_w2 hw) (by omega) ?_
      intro hl21 hu21
      rw [e2] at hl21 hu21 ⊢
      refine zs_pushI (ip' := 23) rfl rfl zi_k11 ?_
      refine zs_icmp_ne (t := 29) (ip' := 24) rfl rfl (by omega) (by omega) ?_ ?_
      · intro h23
        refine zs_iinc3 (ip' := 30) rfl rfl zi_k1 ?_
        refine zs_goto (t := 10) rfl ?_
        exact ih (k + 1) _ G (by omega) (by omega) (xBI_go hI (fun p pv => ⟨fun q => ⟨q.1, q.2.1, by have := q.2.2; omega⟩, fun q => ⟨q.1, q.2.1, by
          have q3 := q.2.2
          have : p ≠ 12 * (K : Int) + k := fun e => by rw [e] at q; exact h23 q.2.1
          omega⟩⟩)) h0
      · intro h23
        obtain ⟨hr1, hr2⟩ := xBI_hun hW.2 hH.2 hI h0 tv
        refine zs_aload (ip' := 25) rfl rfl rfl ?_
        refine zs_aload (ip' := 26) rfl rfl rfl ?_
        refine zs_iload (ip' := 27) rfl rfl rfl ?_
        refine zs_pushI (ip' := 28) rfl rfl zi_k0 ?_
        refine zW_cV (ip' := 29) rfl rfl (cX_reach hN hw hi (by omega) (by omega) (by omega) (fun _ _ => by omega)) rfl rfl (z_ok3 (by omega) (zsh_d0 hi) rfl rfl rfl) ?_
        rintro G2 F' n' ⟨hre, rfl, rfl⟩
        rw [e2] at hre
        obtain ⟨j1, j2⟩ := xBI_hut hw hW.2 hH.2 hI h0 tv h23 hre
        refine zs_iinc3 (ip' := 30) rfl rfl zi_k1 ?_
        refine zs_goto (t := 10) rfl ?_
        exact ih (k + 1) _ G2 (by omega) (by omega) (xBI_go j1 (fun p pv => ⟨fun q => ⟨q.1, q.2.1, by have := q.2.2; omega⟩, fun q => ⟨q.1, q.2.1, by have := q.2.2; omega⟩⟩)) j2
theorem cX_huts_o {N : Nat} {F : GM} {n : Nat} (hN : 229 ≤ N) {w : Nat} (hw : w < 12) {i : Nat} (hi : i < 9) {G0 : GM} (hW : 0 ≤ G0 (16 * w + 1) 0 ∧ G0 (16 * w + 1) 0 ≤ 12) (hH : 0 ≤ G0 (16 * w + 1) 1 ∧ G0 (16 * w + 1) 1 ≤ 12) : ∀ (d : Nat) (k : Nat) (a3 a4 : Value) (G : GM), G0 (16 * w + 1) 1 - (k : Int) < (d : Int) → (k : Int) ≤ G0 (16 * w + 1) 1 → xBI i w (xHu (G0 (16 * w + 1) 0) (G0 (16 * w + 1) 1) (G0 (16 * w + 2)) (12 * (k : Int))) G0 G 0 0 → (∀ p, zVal (G0 (16 * w + 1) 0) (G0 (16 * w + 1) 1) p → G (201 + 3 * i + 1) p ≤ 0) → zW N 166 4 [.ref (201 + 3 * i), .ref (16 * w + 1), .int (zi (k : Int)), a3, a4] [] G F n (zV fun G' F' n' => (xFr i G0 G' ∧ G' (201 + 3 * i) 1 = 1 ∧ zDist (G0 (16 * w + 1) 0) (G0 (16 * w + 1) 1) (xWt (G0 (16 * w + 2))) (fun p => G0 (16 * w + 2) p = 11) True (G' (201 + 3 * i + 1))) ∧ F' = F ∧ n' = n) := by
  intro d
  induction d with
  | zero =>
    intro k a3 a4 G hd hj hI h0
    exact absurd hd (by omega)
  | succ d ih =>
    intro k a3 a4 G hd hj hI h0
    obtain ⟨e1, e2⟩ := xFr_w hI.1 hw
    refine zs_iload (ip' := 5) rfl rfl rfl ?_
    refine zs_aload (ip' := 6) rfl rfl rfl ?_
    refine zs_getI (ip' := 7) rfl rfl (by omega) (zsh_w1 hw) rfl (q := 1) rfl ?_
    intro hl6 hu6
    rw [e1] at hl6 hu6 ⊢
    refine zs_icmp_ge (t := 33) (ip' := 8) rfl rfl (by omega) (by omega) ?_ ?_
    · intro h7
      have hJ : xBI i w (fun p => G0 (16 * w + 2) p = 11) G0 G 0 0 := xBI_go hI (fun p pv => ⟨fun q => q.2.1, fun q => ⟨pv, q, by have := pv.2.2; omega⟩⟩)
      refine zs_aload (ip' := 34) rfl rfl rfl ?_
      refine zs_aload (ip' := 35) rfl rfl rfl ?_
      refine zW_cV (ip' := 36) rfl rfl (cX_spread hN hw hi hW hH hJ) rfl rfl (z_ok3 (by omega) (zsh_d0 hi) rfl rfl rfl) ?_
      rintro G3 F' n' ⟨hD, rfl, rfl⟩
      refine zW_1 rfl ?_
      exact ⟨rfl, hD, rfl, rfl⟩
    · intro h7
      refine zs_pushI (ip' := 9) rfl rfl zi_k0 ?_
      refine zs_istore3 (ip' := 10) rfl rfl ?_
      exact cX_huts_i hN hw hi hW hH h7 (fun G a3 a4 hI h0 => ih (k + 1) a3 a4 G (by omega) (by omega) hI h0) 13 0 _ G (by omega) (by omega) (xBI_go hI (fun p pv => by rw [show 12 * (k : Int) + ((0 : Nat) : Int) = 12 * (k : Int) by omega])) h0
theorem cX_huts {N : Nat} {G F : GM} {n : Nat} (hN : 229 ≤ N) {w : Nat} (hw : w < 12) {i : Nat} (hi : i < 9) (hW : 0 ≤ G (16 * w + 1) 0 ∧ G (16 * w + 1) 0 ≤ 12) (hH : 0 ≤ G (16 * w + 1) 1 ∧ G (16 * w + 1) 1 ≤ 12) : zC N 166 [.ref (201 + 3 * i), .ref (16 * w + 1)] G F n (zV fun G' F' n' => (xFr i G G' ∧ G' (201 + 3 * i) 1 = 1 ∧ zDist (G (16 * w + 1) 0) (G (16 * w + 1) 1) (xWt (G (16 * w + 2))) (fun p => G (16 * w + 2) p = 11) True (G' (201 + 3 * i + 1))) ∧ F' = F ∧ n' = n) := by
  refine zC_i (L0 := [.ref (201 + 3 * i), .ref (16 * w + 1), .null, .null, .null]) rfl ?_
  refine zs_aload (ip' := 1) rfl rfl rfl ?_
  refine zW_cV (ip' := 2) rfl rfl (cX_forget hN hi) rfl rfl (z_ok3 (by omega) (zsh_d0 hi) rfl rfl rfl) ?_
  rintro G1 F' n' ⟨⟨f1, f2, f3⟩, rfl, rfl⟩
  refine zs_pushI (ip' := 3) rfl rfl zi_k0 ?_
  refine zs_istore2 (ip' := 4) rfl rfl ?_
  have hS : xBI i w (xHu (G (16 * w + 1) 0) (G (16 * w + 1) 1) (G (16 * w + 2)) (12 * ((0 : Nat) : Int))) G G1 0 0 := ⟨f1, by
    rw [f3]
    exact zBI_go (zBI_none f2 hW.2 hH.2) (fun p pv => ⟨False.elim, fun q => by have := q.2.2; have := pv.1; omega⟩)⟩
  exact cX_huts_o hN hw hi hW hH 13 0 _ _ G1 (by omega) (by omega) hS (fun p pv => by rw [f2 p (zVal_144 hW.2 hH.2 pv).1 (zVal_144 hW.2 hH.2 pv).2]; omega)
theorem zsh_ex {s : Int → Int} (hb : (0 ≤ s 0 ∧ s 0 ≤ 12) ∧ 0 ≤ s 1 ∧ s 1 ≤ 12) : zDist (s 0) (s 1) (mWt s) (fun p => s (30 + p) = 2) False (zsh s) := by
  have e1 : ∀ v : Int, (if v = 1 then (0 : Int) else if v = 2 then 11 else 10) = 0 ↔ v = 1 := fun v => by
    split
    · omega
    · split <;> omega
  have e2 : ∀ v : Int, (if v = 1 then (0 : Int) else if v = 2 then 11 else 10) = 11 ↔ v = 2 := fun v => by
    split
    · omega
    · split <;> omega
  have hF : zrL (fun _ _ => 0) := fun _ _ => (⟨by decide, by decide⟩ : zrl 0)
  have hG := zxG_rng (T := fun p => if s (30 + p) = 1 then 0 else if s (30 + p) = 2 then 11 else 10) (q := fun _ => 0) (st := fun _ => 0) (tl := 0) hb.1 hb.2 (fun j => by show zr (if s (30 + j) = 1 then (0 : Int) else if s (30 + j) = 2 then 11 else 10); (repeat' split) <;> exact ⟨by decide, by decide⟩) (fun _ => zr0) (fun _ => zr0) zr0
  have c := cX_huts (N := 229) (F := fun _ _ => 0) (n := 0) (by omega) (w := 0) (by omega) (i := 0) (by omega) (G := zxG (s 0) (s 1) (fun p => if s (30 + p) = 1 then 0 else if s (30 + p) = 2 then 11 else 10) (fun _ => 0) (fun _ => 0) 0) hb.1 hb.2 hG hF
  obtain ⟨f, o, G', F', n', -, -, -, -, ⟨-, -, hD⟩, -⟩ := c
  have hD1 : zDist (s 0) (s 1) (mWt s) (fun p => s (30 + p) = 2) True (G' (201 + 3 * 0 + 1)) := zDist_go (zDist_wt hb.1.2 hb.2.2 hD (fun p _ => e1 (s (30 + p)))) (fun p _ => e2 (s (30 + p)))
  exact zsh_spec (zDist_dry hD1)
theorem xWet {W H : Int} {wt : Int → Prop} {mk : Prop} {st : Int → Int} {g : Int} (hW : W ≤ 12) (hH : H ≤ 12) (h : zDist W H wt (fun p => p = g) mk st) (hg : wt g) : ∀ (k : Nat) (p : Int), zVal W H p → st p = (k : Int) + 1 → False := by
  intro k
  induction k with
  | zero =>
    intro p pv e
    obtain ⟨-, d, d0, d1, d2, d3, d4⟩ := h.2.2.1 p pv (by omega)
    have nv := (znb_val hW hH d2).1
    have : znb p d = g := (h.2.1 _ nv).mpr (by omega)
    exact d3 (by rw [this]; exact hg)
  | succ k ih =>
    intro p pv e
    obtain ⟨-, d, d0, d1, d2, d3, d4⟩ := h.2.2.1 p pv (by omega)
    exact ih _ (znb_val hW hH d2).1 (by omega)
theorem xPath {s st : Int → Int} (hok : mOk s) {x y u v : Int} (h1 : sIn s x y) (h2 : sIn s u v) (hX : zDist (s 0) (s 1) (mWt s) (fun p => p = 12 * v + u) True st) : q_path s x y u v = if st (12 * y + x) = -1 then (2, 0) else (0, st (12 * y + x)) := by
  have hb := mOk_hb hok
  obtain ⟨⟨x0, x1⟩, y0, y1⟩ := id h1
  obtain ⟨⟨u0, u1⟩, v0, v1⟩ := id h2
  have pv : zVal (s 0) (s 1) (12 * y + x) := ⟨by omega, by omega, by omega⟩
  have gv : zVal (s 0) (s 1) (12 * v + u) := ⟨by omega, by omega, by omega⟩
  have hr := hX.1 _ pv
  have e0 := hX.2.1 _ pv
  unfold q_path
  rw [if_pos ⟨h1, h2⟩]
  by_cases e : x = u ∧ y = v
  · rw [if_pos e]
    have : st (12 * y + x) = 0 := e0.mp (by omega)
    rw [this]
    rfl
  · rw [if_neg e]
    have hne : st (12 * y + x) ≠ 0 := fun q => by have := e0.mpr q; omega
    by_cases w : s (30 + 12 * v + u) = 1
    · have hwt : mWt s (12 * v + u) := by
        show s (30 + (12 * v + u)) = 1
        rw [← Int.add_assoc]
        exact w
      rw [if_pos w, if_pos]
      by_cases q : st (12 * y + x) = -1
      · exact q
      · exact (xWet (by omega) (by omega) hX hwt (st (12 * y + x) - 1).toNat _ pv (by omega)).elim
    · rw [if_neg w]
      have e1 := xSteps hb hX (zst_ex hb gv) pv
      rw [show (12 * y + x) % 12 = x by omega, show (12 * y + x) / 12 = y by omega] at e1
      rw [e1]
      by_cases q : st (12 * y + x) = -1
      · rw [if_pos q, if_pos (by omega)]
      · rw [if_neg q, if_neg (by omega)]
theorem xHuts {s st : Int → Int} (hok : mOk s) {x y : Int} (h1 : sIn s x y) (hX : zDist (s 0) (s 1) (mWt s) (fun p => s (30 + p) = 2) True st) : q_hutSteps s x y = if st (12 * y + x) = -1 then (2, 0) else (0, st (12 * y + x)) := by
  have hb := mOk_hb hok
  obtain ⟨⟨x0, x1⟩, y0, y1⟩ := id h1
  have pv : zVal (s 0) (s 1) (12 * y + x) := ⟨by omega, by omega, by omega⟩
  have hr := hX.1 _ pv
  unfold q_hutSteps
  rw [if_pos h1]
  have e1 := xSteps hb hX (zsh_ex hb) pv
  rw [show (12 * y + x) % 12 = x by omega, show (12 * y + x) / 12 = y by omega] at e1
  rw [e1]
  by_cases q : st (12 * y + x) = -1
  · rw [if_pos q, if_pos (by omega)]
  · rw [if_neg q, if_neg (by omega)]
theorem cQ_pathLength {N : Nat} {G F : GM} {n : Nat} (hN : 229 ≤ N) {s : Int → Int} (hok : mOk s) (hR : RX G 0 s) {x y u v : Int} (hx : zr x) (hy : zr y) (hu : zr u) (hv : zr v) : zC N 213 [.ref 192, .int (zi x), .int (zi y), .int (zi u), .int (zi v)] G F n (zQx F n [3, 2] (q_path s x y u v) (xQf G)) := by
  obtain ⟨⟨c0, c1, c2, c3, c4, c5⟩, hf, hg, hl, hb, ht⟩ := RX_0 hR
  obtain ⟨b0, b1, b2, b3, b4, b5, bf, bc, bl, bw⟩ := id hok
  refine zC_i (L0 := [.ref 192, .int (zi x), .int (zi y), .int (zi u), .int (zi v), .null, .null]) rfl ?_
  refine zs_aload (ip' := 1) rfl rfl rfl ?_
  refine zs_iload (ip' := 2) rfl rfl rfl ?_
  refine zs_iload (ip' := 3) rfl rfl rfl ?_
  refine zW_cT (ip' := 4) rfl rfl (cT_cell hN hok hR hx hy) rfl rfl (z_ok3 (by omega) zsh_192 rfl rfl rfl) rfl rfl ?_ ?_
  · intro hn3
    exact zqx1 (if_neg (fun q => hn3 q.1)) rfl (xQf_r _)
  intro hc3
  obtain ⟨⟨x0, x1⟩, y0, y1⟩ := id hc3
  refine zs_istore5 (ip' := 5) rfl rfl ?_
  refine zs_aload (ip' := 6) rfl rfl rfl ?_
  refine zs_iload (ip' := 7) rfl rfl rfl ?_
  refine zs_iload (ip' := 8) rfl rfl rfl ?_
  refine zW_cT (ip' := 9) rfl rfl (cT_cell hN hok hR hu hv) rfl rfl (z_ok3 (by omega) zsh_192 rfl rfl rfl) rfl rfl ?_ ?_
  · intro hn8
    exact zqx1 (if_neg (fun q => hn8 q.2)) rfl (xQf_r _)
  intro hc8
  obtain ⟨⟨u0, u1⟩, v0, v1⟩ := id hc8
  have gv : zVal (G 1 0) (G 1 1) (12 * v + u) := ⟨by omega, by omega, by omega⟩
  refine zs_istore6 (ip' := 10) rfl rfl ?_
  refine zs_aload (ip' := 11) rfl rfl rfl ?_
  refine zs_getR (ip' := 12) rfl rfl (r := 225) (by omega) zsh_192 rfl ?_
  refine zs_aload (ip' := 13) rfl rfl rfl ?_
  refine zs_getR (ip' := 14) rfl rfl (r := 0) (by omega) zsh_192 rfl ?_
  refine zs_getR (ip' := 15) rfl rfl (r := 1) (by omega) zsh_0 rfl ?_
  refine zs_iload (ip' := 16) rfl rfl rfl ?_
  refine zW_cV (ip' := 17) rfl rfl (cX_measure (w := 0) (i := 8) hN (by omega) (by omega) (by show 0 ≤ G 1 0 ∧ G 1 0 ≤ 12; omega) (by show 0 ≤ G 1 1 ∧ G 1 1 ≤ 12; omega) gv) rfl rfl (z_ok3 (by omega) zsh_225 rfl rfl rfl) ?_
  rintro G1 F' n' ⟨⟨hfr, -, hD⟩, rfl, rfl⟩
  have hD1 : zDist (G 1 0) (G 1 1) (xWt (G 2)) (fun p => p = 12 * v + u) True (G1 226) := hD
  rw [c0, c1] at hD1
  have hD2 := zDist_congr (wt' := mWt s) (by omega) (by omega) (fun p pv => RX_wt hok hR pv) hD1
  have hP := xPath hok hc3 hc8 hD2
  have hrg := hD2.1 (12 * y + x) ⟨by omega, by omega, by omega⟩
  have hQf : xQf G G1 := fun k a b => hfr k (by omega) (by omega) (by omega)
  refine zs_aload (ip' := 18) rfl rfl rfl ?_
  refine zs_getR (ip' := 19) rfl rfl (r := 225) (by omega) zsh_192 rfl ?_
  refine zs_getR (ip' := 20) rfl rfl (r := 226) (by omega) zsh_225 rfl ?_
  refine zs_iload (ip' := 21) rfl rfl rfl ?_
  refine zs_iald (ip' := 22) rfl rfl (by omega) zsh_226 (by omega) ?_
  intro hl21 hu21
  refine zW_cT (ip' := 23) rfl rfl (cT_path (by omega)) rfl rfl rfl rfl rfl ?_ ?_
  · intro hn22
    exact zqx2 (hP.trans (if_pos (by omega))) rfl hQf
  intro hc22
  refine zW_0 rfl ?_
  exact zqx0 (hP.trans (if_neg hc22)) hQf
theorem cQ_stepsToHut {N : Nat} {G F : GM} {n : Nat} (hN : 229 ≤ N) {s : Int → Int} (hok : mOk s) (hR : RX G 0 s) {x y : Int} (hx : zr x) (hy : zr y) : zC N 214 [.ref 192, .int (zi x), .int (zi y)] G F n (zQx F n [3, 2] (q_hutSteps s x y) (xQf G)) := by
  obtain ⟨⟨c0, c1, c2, c3, c4, c5⟩, hf, hg, hl, hb, ht⟩ := RX_0 hR
  obtain ⟨b0, b1, b2, b3, b4, b5, bf, bc, bl, bw⟩ := id hok
  refine zC_i (L0 := [.ref 192, .int (zi x), .int (zi y), .null]) rfl ?_
  refine zs_aload (ip' := 1) rfl rfl rfl ?_
  refine zs_iload (ip' := 2) rfl rfl rfl ?_
  refine zs_iload (ip' := 3) rfl rfl rfl ?_
  refine zW_cT (ip' := 4) rfl rfl (cT_cell hN hok hR hx hy) rfl rfl (z_ok3 (by omega) zsh_192 rfl rfl rfl) rfl rfl ?_ ?_
  · intro hn3
    exact zqx1 (if_neg hn3) rfl (xQf_r _)
  intro hc3
  obtain ⟨⟨x0, x1⟩, y0, y1⟩ := id hc3
  refine zs_istore3 (ip' := 5) rfl rfl ?_
  refine zs_aload (ip' := 6) rfl rfl rfl ?_
  refine zs_getR (ip' := 7) rfl rfl (r := 225) (by omega) zsh_192 rfl ?_
  refine zs_aload (ip' := 8) rfl rfl rfl ?_
  refine zs_getR (ip' := 9) rfl rfl (r := 0) (by omega) zsh_192 rfl ?_
  refine zs_getR (ip' := 10) rfl rfl (r := 1) (by omega) zsh_0 rfl ?_
  refine zW_cV (ip' := 11) rfl rfl (cX_huts (w := 0) (i := 8) hN (by omega) (by omega) (by show 0 ≤ G 1 0 ∧ G 1 0 ≤ 12; omega) (by show 0 ≤ G 1 1 ∧ G 1 1 ≤ 12; omega)) rfl rfl (z_ok3 (by omega) zsh_225 rfl rfl rfl) ?_
  rintro G1 F' n' ⟨⟨hfr, -, hD⟩, rfl, rfl⟩
  have hD1 : zDist (G 1 0) (G 1 1) (xWt (G 2)) (fun p => G 2 p = 11) True (G1 226) := hD
  rw [c0, c1] at hD1
  have hD2 := zDist_go (go' := fun p => s (30 + p) = 2) (zDist_congr (wt' := mWt s) (by omega) (by omega) (fun p pv => RX_wt hok hR pv) hD1) (fun p pv => by
    obtain ⟨p1, p2, p3⟩ := pv
    have h := RX_c hR (c := p) ⟨by omega, p2⟩ ⟨by omega, p3⟩
    have h2 : G 2 p = zgc (s (30 + 12 * (p / 12) + p % 12)) := h
    have hz := (zgc_rng (mOk_g hok (x := p % 12) (y := p / 12) ⟨by omega, by omega⟩ ⟨by omega, by omega⟩)).2.2.1
    rw [← h2, show 30 + 12 * (p / 12) + p % 12 = 30 + p by omega] at hz
    exact hz)
  have hP := xHuts hok hc3 hD2
  have hrg := hD2.1 (12 * y + x) ⟨by omega, by omega, by omega⟩
  have hQf : xQf G G1 := fun k a b => hfr k (by omega) (by omega) (by omega)
  refine zs_aload (ip' := 12) rfl rfl rfl ?_
  refine zs_getR (ip' := 13) rfl rfl (r := 225) (by omega) zsh_192 rfl ?_
  refine zs_getR (ip' := 14) rfl rfl (r := 226) (by omega) zsh_225 rfl ?_
  refine zs_iload (ip' := 15) rfl rfl rfl ?_
  refine zs_iald (ip' := 16) rfl rfl (by omega) zsh_226 (by omega) ?_
  intro hl15 hu15
  refine zW_cT (ip' := 17) rfl rfl (cT_path (by omega)) rfl rfl rfl rfl rfl ?_ ?_
  · intro hn16
    exact zqx2 (hP.trans (if_pos (by omega))) rfl hQf
  intro hc16
  refine zW_0 rfl ?_
  exact zqx0 (hP.trans (if_neg hc16)) hQf
