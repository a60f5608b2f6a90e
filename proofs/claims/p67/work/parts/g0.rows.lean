/-! The law's marsh(w, v): a builder that grows, rows of chars and of marks. -/
def wRw (tt tr K W H : Nat) (C : Int → Int) (Y : DY) : Prop := K + 1 + H ≤ Y.2.2 ∧ Y.2.1 K = (tt, H, (List.range H).map (fun i => 1000 + K + 1 + i)) ∧ ∀ r, r < H → Y.2.1 (K + 1 + r) = (tr, W, []) ∧ ∀ k : Int, 0 ≤ k → k < W → Y.1 (K + 1 + r) k = C (12 * (r : Int) + k)
section G0
variable {Y Y0 Y' : DY} {tt tr K W H i j m : Nat} {C : Int → Int} {t t' s : List Int}
theorem Yfr_mul {a b n m : Nat} : Yfr Y (w_mul Y a b n m) := by
  refine ⟨Nat.le_trans (Nat.le_succ _) (Nat.le_add_right _ _), fun k hk => ⟨if_neg (by omega), ?_⟩⟩
  show (if k = Y.2.2 then _ else if Y.2.2 < k then _ else _) = _
  rw [if_neg (by omega), if_neg (by omega)]
theorem wRw_new : wRw tt tr Y.2.2 W H (fun _ => 0) (w_mul Y tt tr H W) := by
  refine ⟨Nat.le_refl _, if_pos rfl, fun r hr => ⟨?_, fun k k0 k1 => ?_⟩⟩
  · show (if Y.2.2 + 1 + r = Y.2.2 then _ else if Y.2.2 < Y.2.2 + 1 + r then _ else _) = _
    rw [if_neg (by omega), if_pos (by omega)]
  · show (if Y.2.2 ≤ Y.2.2 + 1 + r then fun _ => 0 else Y.1 (Y.2.2 + 1 + r)) k = 0
    rw [if_pos (by omega)]
theorem wRw_fr (h : wRw tt tr K W H C Y) (hf : Yfr Y Y') : wRw tt tr K W H C Y' := by
  obtain ⟨a1, a2, a3⟩ := h
  refine ⟨Nat.le_trans a1 hf.1, (hf.2 K (by omega)).2.trans a2, fun r hr => ⟨(hf.2 _ (by omega)).2.trans (a3 r hr).1, fun k k0 k1 => ?_⟩⟩
  rw [(hf.2 (K + 1 + r) (by omega)).1]
  exact (a3 r hr).2 k k0 k1
theorem wRw_set {r : Nat} {k v : Int} (h : wRw tt tr K W H C Y) (hr : r < H) (hk : 0 ≤ k ∧ k < W) (hW : W ≤ 12) : wRw tt tr K W H (zp C (12 * (r : Int) + k) v) (w_row Y (K + 1 + r) (zp (Y.1 (K + 1 + r)) k v)) := by
  obtain ⟨h1, h2, h3⟩ := h
  refine ⟨h1, h2, fun r2 hr2 => ⟨(h3 r2 hr2).1, fun k2 k0 k1 => ?_⟩⟩
  show zk Y.1 (K + 1 + r) (zp (Y.1 (K + 1 + r)) k v) (K + 1 + r2) k2 = _
  by_cases e : r2 = r
  · subst e
    rw [zk_eq]
    by_cases e2 : k2 = k
    · rw [e2, zp_eq, zp_eq]
    · rw [zp_ne e2, zp_ne (by omega)]
      exact (h3 r2 hr2).2 k2 k0 k1
  · rw [zk_ne (by omega), zp_ne (by omega)]
    exact (h3 r2 hr2).2 k2 k0 k1
theorem wRw_oth {q tq n : Nat} {cs : List Nat} {E : Int → Int} (h : wRw tt tr K W H C Y) (hq : Y.2.1 q = (tq, n, cs)) (ht : tq ≠ tr) : wRw tt tr K W H C (w_row Y q E) := by
  obtain ⟨h1, h2, h3⟩ := h
  refine ⟨h1, h2, fun r hr => ⟨(h3 r hr).1, fun k k0 k1 => ?_⟩⟩
  have hne : K + 1 + r ≠ q := fun e => by
    have := (h3 r hr).1
    rw [e, hq] at this
    exact ht (congrArg Prod.fst this)
  show zk Y.1 q E (K + 1 + r) k = _
  rw [zk_ne hne]
  exact (h3 r hr).2 k k0 k1
theorem wRw_sbp {cap : Nat} (h : wRw tt tr K W H C Y) (hs : SBx Y i j m t) (hp : SBp Y i j t' cap Y') (h0 : tt ≠ 0 ∧ tt ≠ 2) (h1 : tr ≠ 0 ∧ tr ≠ 2) : wRw tt tr K W H C Y' := by
  obtain ⟨a1, a2, a3⟩ := h
  obtain ⟨s1, s2, s3, s4, s5, -⟩ := hs
  obtain ⟨j', m', -, -, -, b1, b2⟩ := hp
  have key : ∀ k, k < Y.2.2 → Y.2.1 k ≠ Y.2.1 i → Y.2.1 k ≠ Y.2.1 j → Y'.1 k = Y.1 k ∧ Y'.2.1 k = Y.2.1 k := fun k hk n1 n2 => b2 k hk (fun e => n1 (by rw [e])) (fun e => n2 (by rw [e]))
  have kK := key K (by omega) (fun e => by rw [a2, s4] at e; exact h0.1 (congrArg Prod.fst e)) (fun e => by rw [a2, s5] at e; exact h0.2 (congrArg Prod.fst e))
  refine ⟨by omega, kK.2.trans a2, fun r hr => ?_⟩
  have kr := key (K + 1 + r) (by omega) (fun e => by rw [(a3 r hr).1, s4] at e; exact h1.1 (congrArg Prod.fst e)) (fun e => by rw [(a3 r hr).1, s5] at e; exact h1.2 (congrArg Prod.fst e))
  refine ⟨kr.2.trans (a3 r hr).1, fun k k0 k1 => ?_⟩
  rw [kr.1]
  exact (a3 r hr).2 k k0 k1
theorem SBx_fr (h : SBx Y i j m t) (hf : Yfr Y Y') : SBx Y' i j m t := by
  obtain ⟨a1, a2, a3, a4, a5, a6, a7, a8, a9, b1, b2⟩ := h
  have e1 := hf.2 i a1
  have e2 := hf.2 j a2
  refine ⟨Nat.lt_of_lt_of_le a1 hf.1, Nat.lt_of_lt_of_le a2 hf.1, a3, e1.2.trans a4, e2.2.trans a5, by rw [e1.1]; exact a6, by rw [e1.1]; exact a7, a8, a9, fun k hk => by rw [e2.1]; exact b1 k hk, fun k hk => by rw [e2.1]; exact b2 k hk⟩
theorem SBx_row {q tq n : Nat} {cs : List Nat} {E : Int → Int} (h : SBx Y i j m t) (hq : Y.2.1 q = (tq, n, cs)) (h0 : tq ≠ 0) (h2 : tq ≠ 2) : SBx (w_row Y q E) i j m t := by
  obtain ⟨a1, a2, a3, a4, a5, a6, a7, a8, a9, b1, b2⟩ := h
  have n1 : i ≠ q := fun e => by
    rw [← e, a4] at hq
    exact h0 (congrArg Prod.fst hq).symm
  have n2 : j ≠ q := fun e => by
    rw [← e, a5] at hq
    exact h2 (congrArg Prod.fst hq).symm
  have e1 : (w_row Y q E).1 i = Y.1 i := zk_ne n1
  have e2 : (w_row Y q E).1 j = Y.1 j := zk_ne n2
  refine ⟨a1, a2, a3, a4, a5, by rw [e1]; exact a6, by rw [e1]; exact a7, a8, a9, fun k hk => by rw [e2]; exact b1 k hk, fun k hk => by rw [e2]; exact b2 k hk⟩
/-- the builder that was made first behind Y0 -/
def MB (Y0 : DY) (t : List Int) (Y : DY) : Prop := (∃ j m, SBx Y Y0.2.2 j m t ∧ Y0.2.2 < j) ∧ Yfr Y0 Y
def M2 (Y0 : DY) (K W H : Nat) (C : Int → Int) (t : List Int) (Y : DY) : Prop := (MB Y0 t Y ∧ Y0.2.2 < K) ∧ wRw 9 7 K W H C Y
def M3 (Y0 : DY) (K W H : Nat) (C : Int → Int) (K2 : Nat) (E : Int → Int) (t : List Int) (Y : DY) : Prop := M2 Y0 K W H C t Y ∧ Y0.2.2 < K2 ∧ wRw 10 3 K2 W H E Y
/-- what goes along as a builder grows -/
def MPr (i : Nat) (P : List Int → DY → Prop) : Prop := ∀ t Y, P t Y → ∃ j m, SBx Y i j m t ∧ ∀ t' Y' cap, SBp Y i j t' cap Y' → P t' Y'
theorem MP_B : MPr Y0.2.2 (MB Y0) := by
  rintro t Y ⟨⟨j, m, h1, h2⟩, h3⟩
  refine ⟨j, m, h1, fun t' Y' cap hp => ?_⟩
  obtain ⟨j', m', b1, b2, b3, b4, b5⟩ := hp
  have b0 := h3.1
  have b00 := h1.1
  refine ⟨⟨j', m', b1, by omega⟩, by omega, fun k hk => ?_⟩
  have := b5 k (by omega) (by omega) (by omega)
  exact ⟨this.1.trans (h3.2 k hk).1, this.2.trans (h3.2 k hk).2⟩
theorem MP_2 : MPr Y0.2.2 (M2 Y0 K W H C) := by
  rintro t Y ⟨⟨h1, h2⟩, h3⟩
  obtain ⟨j, m, a1, a2⟩ := MP_B t Y h1
  exact ⟨j, m, a1, fun t' Y' cap hp => ⟨⟨a2 t' Y' cap hp, h2⟩, wRw_sbp h3 a1 hp (by decide) (by decide)⟩⟩
theorem MP_3 {K2 : Nat} {E : Int → Int} : MPr Y0.2.2 (M3 Y0 K W H C K2 E) := by
  rintro t Y ⟨h1, h2, h3⟩
  obtain ⟨j, m, a1, a2⟩ := MP_2 t Y h1
  exact ⟨j, m, a1, fun t' Y' cap hp => ⟨a2 t' Y' cap hp, h2, wRw_sbp h3 a1 hp (by decide) (by decide)⟩⟩
theorem M2_new (h : MB Y0 t Y) : M2 Y0 Y.2.2 W H (fun _ => 0) t (w_mul Y 9 7 H W) := by
  obtain ⟨⟨j, m, h1, h2⟩, h3⟩ := h
  exact ⟨⟨⟨⟨j, m, SBx_fr h1 Yfr_mul, h2⟩, Yfr_t h3 Yfr_mul⟩, h1.1⟩, wRw_new⟩
theorem M3_new (h : M2 Y0 K W H C t Y) : M3 Y0 K W H C Y.2.2 (fun _ => 0) t (w_mul Y 10 3 H W) := by
  obtain ⟨⟨⟨⟨j, m, h1, h2⟩, h3⟩, h4⟩, h5⟩ := h
  exact ⟨⟨⟨⟨⟨j, m, SBx_fr h1 Yfr_mul, h2⟩, Yfr_t h3 Yfr_mul⟩, h4⟩, wRw_fr h5 Yfr_mul⟩, h1.1, wRw_new⟩
theorem MB_row {q tq n : Nat} {cs : List Nat} {E : Int → Int} (h : MB Y0 t Y) (hq : Y.2.1 q = (tq, n, cs)) (h0 : tq ≠ 0) (h2 : tq ≠ 2) (hl : Y0.2.2 ≤ q) : MB Y0 t (w_row Y q E) := by
  obtain ⟨⟨j, m, h1, h9⟩, h3⟩ := h
  exact ⟨⟨j, m, SBx_row h1 hq h0 h2, h9⟩, h3.1, fun k hk => ⟨(zk_ne (by omega)).trans (h3.2 k hk).1, (h3.2 k hk).2⟩⟩
theorem M2_set {r : Nat} {k v : Int} (h : M2 Y0 K W H C t Y) (hr : r < H) (hk : 0 ≤ k ∧ k < W) (hW : W ≤ 12) : M2 Y0 K W H (zp C (12 * (r : Int) + k) v) t (w_row Y (K + 1 + r) (zp (Y.1 (K + 1 + r)) k v)) :=
  ⟨⟨MB_row h.1.1 (h.2.2.2 r hr).1 (by decide) (by decide) (by have := h.1.2; omega), h.1.2⟩, wRw_set h.2 hr hk hW⟩
theorem M3_set {K2 r : Nat} {E : Int → Int} {k v : Int} (h : M3 Y0 K W H C K2 E t Y) (hr : r < H) (hk : 0 ≤ k ∧ k < W) (hW : W ≤ 12) : M3 Y0 K W H C K2 (zp E (12 * (r : Int) + k) v) t (w_row Y (K2 + 1 + r) (zp (Y.1 (K2 + 1 + r)) k v)) := by
  obtain ⟨h1, h2, h3⟩ := h
  have hq := (h3.2.2 r hr).1
  exact ⟨⟨⟨MB_row h1.1.1 hq (by decide) (by decide) (by omega), h1.1.2⟩, wRw_oth h1.2 hq (by decide)⟩, h2, wRw_set h3 hr hk hW⟩
end G0
section G0W
variable {u : WU} {y : Nat} {b : WB} {pc pc' : Nat} {L st : List Value} {G F : GM} {Y Y0 : DY} {c d : Nat} {Q : WQ} {tt tr K W H : Nat} {C : Int → Int}
theorem wi_rwrow {r : Int} (hd : decode (zbc y) pc = .ok (.aaload, 1)) (hp : pc + 1 = pc') (h : wRw tt tr K W H C Y) (ht : tt = 8 ∨ tt = 9 ∨ tt = 10) (hr : 0 ≤ r ∧ r < H) (hH : H ≤ 1000) (k : wW u y b pc' L (.ref (1000 + (K + 1 + r.toNat)) :: st) G F Y c d Q) : wW u y b pc L (.int (zi r) :: .ref (1000 + K) :: st) G F Y c d Q := by
  refine wi_aald (i := K) (t := tt) (n := H) (cs := (List.range H).map (fun j => 1000 + K + 1 + j)) hd hp rfl (by have := h.1; omega) h.2.1 ht ⟨hr.1, hr.2, by omega⟩ ?_ k
  rw [List.getElem?_map, List.getElem?_range (by omega)]
  show some (1000 + K + 1 + r.toNat) = _
  congr 1
  omega
theorem wi_rwgetC {r j : Int} (hd : decode (zbc y) pc = .ok (.caload, 1)) (hp : pc + 1 = pc') (h : wRw 9 7 K W H C Y) (hr : 0 ≤ r ∧ r < H) (hj : 0 ≤ j ∧ j < W) (hW : W ≤ 12) (k : wW u y b pc' L (.int (zi (C (12 * r + j))) :: st) G F Y c d Q) : wW u y b pc L (.int (zi j) :: .ref (1000 + (K + 1 + r.toNat)) :: st) G F Y c d Q := by
  obtain ⟨h1, h2⟩ := h.2.2 r.toNat (by omega)
  refine wi_cald hd hp rfl (by have := h.1; omega) h1 ⟨hj.1, hj.2, by omega⟩ ?_
  rw [h2 j hj.1 hj.2, Int.toNat_of_nonneg hr.1]
  exact k
theorem wi_rwgetZ {r j : Int} (hd : decode (zbc y) pc = .ok (.baload, 1)) (hp : pc + 1 = pc') (h : wRw 10 3 K W H C Y) (hr : 0 ≤ r ∧ r < H) (hj : 0 ≤ j ∧ j < W) (hW : W ≤ 12) (k : wW u y b pc' L (.int (zi (C (12 * r + j))) :: st) G F Y c d Q) : wW u y b pc L (.int (zi j) :: .ref (1000 + (K + 1 + r.toNat)) :: st) G F Y c d Q := by
  obtain ⟨h1, h2⟩ := h.2.2 r.toNat (by omega)
  refine wi_zald hd hp rfl (by have := h.1; omega) h1 ⟨hj.1, hj.2, by omega⟩ ?_
  rw [h2 j hj.1 hj.2, Int.toNat_of_nonneg hr.1]
  exact k
theorem wi_m2set {t : List Int} {r j v : Int} (hd : decode (zbc y) pc = .ok (.castore, 1)) (hp : pc + 1 = pc') (h : M2 Y0 K W H C t Y) (hr : 0 ≤ r ∧ r < H) (hj : 0 ≤ j ∧ j < W) (hW : W ≤ 12) (hv : 0 ≤ v ∧ v ≤ 127) (k : ∀ Y', M2 Y0 K W H (zp C (12 * r + j) v) t Y' → wW u y b pc' L st G F Y' c d Q) : wW u y b pc L (.int (zi v) :: .int (zi j) :: .ref (1000 + (K + 1 + r.toNat)) :: st) G F Y c d Q := by
  obtain ⟨h1, h2⟩ := h.2.2.2 r.toNat (by omega)
  refine wi_cast hd hp rfl (by have := h.2.1; omega) h1 ⟨hj.1, hj.2, by omega⟩ ⟨by omega, by omega⟩ hv ?_
  have := M2_set (v := v) h (r := r.toNat) (by omega) hj hW
  rw [Int.toNat_of_nonneg hr.1] at this
  exact k _ this
theorem wi_m3set {t : List Int} {K2 : Nat} {E : Int → Int} {r j v : Int} (hd : decode (zbc y) pc = .ok (.bastore, 1)) (hp : pc + 1 = pc') (h : M3 Y0 K W H C K2 E t Y) (hr : 0 ≤ r ∧ r < H) (hj : 0 ≤ j ∧ j < W) (hW : W ≤ 12) (hv : 0 ≤ v ∧ v ≤ 1) (k : ∀ Y', M3 Y0 K W H C K2 (zp E (12 * r + j) v) t Y' → wW u y b pc' L st G F Y' c d Q) : wW u y b pc L (.int (zi v) :: .int (zi j) :: .ref (1000 + (K2 + 1 + r.toNat)) :: st) G F Y c d Q := by
  obtain ⟨h1, h2⟩ := h.2.2.2.2 r.toNat (by omega)
  refine wi_zast hd hp rfl (by have := h.2.2.1; omega) h1 ⟨hj.1, hj.2, by omega⟩ ⟨by omega, by omega⟩ hv ?_
  have := M3_set (v := v) h (r := r.toNat) (by omega) hj hW
  rw [Int.toNat_of_nonneg hr.1] at this
  exact k _ this
/-! appends -/
variable {i n q : Nat} {t s : List Int} {P : List Int → DY → Prop}
theorem wi_appS {r : Nat} (hM : MPr i P) (hsc : wSC y pc 348 2 (some "java/lang/StringBuilder")) (hp : pc + 3 = pc') (h : P t Y) (hr : wCst r s) (hl : t.length ≤ n) (hs : s.length ≤ q) (hb : n + q ≤ 400) (h4 : st.length ≤ 4) (hbc : c + 1 ≤ b.1) (hbd : d + 1000 ≤ b.2.1) (k : ∀ Y', P (t ++ s) Y' → (t ++ s).length ≤ n + q → wW u y b pc' L (.ref (1000 + i) :: st) G F Y' (c + 1) (d + 1000) Q) : wW u y b pc L (.ref r :: .ref (1000 + i) :: st) G F Y c d Q := by
  obtain ⟨j, m, h1, h2⟩ := hM t Y h
  refine wi_call hsc hp (cJ_app4 h1 hr (by omega)) rfl (Nat.le_of_ble_eq_true rfl) h4 hbc hbd (wrv_sb h1) ?_
  rintro o9 G9 F9 Y9 ⟨rfl, rfl, rfl, hq9⟩ -
  exact k Y9 (h2 _ _ _ hq9) (by rw [List.length_append]; omega)
theorem wi_appC {v : Int} (hM : MPr i P) (hsc : wSC y pc 350 2 (some "java/lang/StringBuilder")) (hp : pc + 3 = pc') (h : P t Y) (hv : 0 ≤ v ∧ v ≤ 127) (hl : t.length ≤ n) (hb : n + 1 ≤ 400) (h4 : st.length ≤ 4) (hbc : c + 1 ≤ b.1) (hbd : d + 1000 ≤ b.2.1) (k : ∀ Y', P (t ++ [v]) Y' → (t ++ [v]).length ≤ n + 1 → wW u y b pc' L (.ref (1000 + i) :: st) G F Y' (c + 1) (d + 1000) Q) : wW u y b pc L (.int (zi v) :: .ref (1000 + i) :: st) G F Y c d Q := by
  obtain ⟨j, m, h1, h2⟩ := hM t Y h
  refine wi_call hsc hp (cJ_appC4 h1 hv (by omega)) rfl (Nat.le_of_ble_eq_true rfl) h4 hbc hbd (wrv_sb h1) ?_
  rintro o9 G9 F9 Y9 ⟨rfl, rfl, rfl, hq9⟩ -
  exact k Y9 (h2 _ _ _ hq9) (by rw [List.length_append, List.length_singleton]; omega)
theorem wi_appN {v : Int} (hM : MPr i P) (hsc : wSC y pc 352 2 (some "java/lang/StringBuilder")) (hp : pc + 3 = pc') (h : P t Y) (hv : 0 ≤ v ∧ v < 100) (hl : t.length ≤ n) (hb : n + 2 ≤ 400) (h4 : st.length ≤ 4) (hbc : c + 1 ≤ b.1) (hbd : d + 1000 ≤ b.2.1) (k : ∀ Y', P (t ++ wDig v) Y' → (t ++ wDig v).length ≤ n + 2 → wW u y b pc' L (.ref (1000 + i) :: st) G F Y' (c + 1) (d + 1000) Q) : wW u y b pc L (.int (zi v) :: .ref (1000 + i) :: st) G F Y c d Q := by
  obtain ⟨j, m, h1, h2⟩ := hM t Y h
  have hw := (wDig_l (v := v)).2
  refine wi_call hsc hp (cJ_appN4 h1 hv (by omega)) rfl (Nat.le_of_ble_eq_true rfl) h4 hbc hbd (wrv_sb h1) ?_
  rintro o9 G9 F9 Y9 ⟨rfl, rfl, rfl, hq9⟩ -
  exact k Y9 (h2 _ _ _ hq9) (by rw [List.length_append]; omega)
theorem wDig_1 {v : Int} (hv : v < 10) : (wDig v).length = 1 := by
  unfold wDig
  rw [if_pos hv]
  rfl
theorem wi_appN1 {v : Int} (hM : MPr i P) (hsc : wSC y pc 352 2 (some "java/lang/StringBuilder")) (hp : pc + 3 = pc') (h : P t Y) (hv : 0 ≤ v ∧ v < 10) (hl : t.length ≤ n) (hb : n + 2 ≤ 400) (h4 : st.length ≤ 4) (hbc : c + 1 ≤ b.1) (hbd : d + 1000 ≤ b.2.1) (k : ∀ Y', P (t ++ wDig v) Y' → (t ++ wDig v).length ≤ n + 1 → wW u y b pc' L (.ref (1000 + i) :: st) G F Y' (c + 1) (d + 1000) Q) : wW u y b pc L (.int (zi v) :: .ref (1000 + i) :: st) G F Y c d Q :=
  wi_appN hM hsc hp h ⟨hv.1, by omega⟩ hl hb h4 hbc hbd (fun Y' h' _ => k Y' h' (by rw [List.length_append, wDig_1 hv.2]; omega))
end G0W
/-! the texts of the law -/
def kT (i : Nat) : List Int := match i with
  | 0 => [109, 97, 114, 115, 104, 32]
  | 1 => [32, 99, 108, 101, 97, 114, 32]
  | 2 => [114, 111, 119, 32]
  | 3 => [102, 102, 102, 102, 102, 102, 102, 102, 119, 119, 112, 104, 102, 112, 102, 102]
  | 4 => [102, 111, 103, 32]
  | 5 => [108, 105, 103, 104, 116, 32]
  | 6 => [32, 102, 97, 108, 115, 101]
  | 7 => [32, 116, 114, 117, 101]
  | 8 => [32, 110, 101, 120, 116, 32]
  | _ => [116, 114, 97, 118, 101, 108, 108, 101, 114, 32]
theorem kT_ok : ∀ i, i < 10 → wSl.getD i 0 = (kT i).length ∧ (∀ k : Nat, k < (kT i).length → (wSb.getD i []).getD k 0 = zi ((kT i).getD k 0)) ∧ (kT i).length ≤ 16 ∧ ∀ k : Nat, k < (kT i).length → 0 ≤ (kT i).getD k 0 ∧ (kT i).getD k 0 ≤ 127 := by decide +kernel
theorem kT_c {i : Nat} (hi : i < 10) : wCst (330 + i) (kT i) := by
  obtain ⟨h1, h2, h3, h4⟩ := kT_ok i hi
  exact ⟨⟨i, hi, rfl, h1, h2⟩, h3, h4⟩
theorem kT3_is : ∀ k : Nat, k < 16 → (kT 3).getD k 0 = 102 ∨ (kT 3).getD k 0 = 119 ∨ (kT 3).getD k 0 = 104 ∨ (kT 3).getD k 0 = 112 := by decide
/-! the draft that the text tells of -/
def mG (W H : Nat) (C D : Int → Int) (a b : Int) : Prop := Fit 0 D ∧ (D 0 = (W : Int) ∧ D 1 = (H : Int) ∧ D 4 = a ∧ D 5 = b) ∧ ∀ y x, 0 ≤ y → y < (H : Int) → 0 ≤ x → x < (W : Int) → D (30 + 12 * y + x) = pCell (C (12 * y + x)) ∧ (C (12 * y + x) = 102 ∨ C (12 * y + x) = 119 ∨ C (12 * y + x) = 104 ∨ C (12 * y + x) = 112)
section G0M
variable {W H : Nat} {C D E : Int → Int} {a b : Int}
theorem mG_WH (h : mG W H C D a b) : (2 ≤ W ∧ W ≤ 12) ∧ 2 ≤ H ∧ H ≤ 12 := by
  obtain ⟨h1, ⟨h2, h3, -⟩, -⟩ := h
  have b0 := h1.1.1
  have b1 := h1.1.2.1
  omega
theorem mG_fog {h9 f : Int} (h : mG W H C D a b) (hh : 0 ≤ h9 ∧ h9 < 24) (hf : 0 ≤ f ∧ f ≤ 9) : mG W H C (zp D (6 + h9) f) a b := by
  obtain ⟨h1, ⟨h2, h3, h4, h5⟩, h6⟩ := h
  refine ⟨Fit_fg h1 hh hf, ⟨by rw [zp_ne (by omega)]; exact h2, by rw [zp_ne (by omega)]; exact h3, by rw [zp_ne (by omega)]; exact h4, by rw [zp_ne (by omega)]; exact h5⟩, fun y x y0 y1 x0 x1 => ?_⟩
  rw [zp_ne (by omega)]
  exact h6 y x y0 y1 x0 x1
theorem addL_lo {u v b9 i f : Int} (h0 : 0 ≤ D 4) {j : Int} (hj : j < 174 + 5 * D 4) (h4 : j ≠ 4) : addL D u v b9 i f j = D j := by
  have e4 : sAddL D u v b9 i 4 = D 4 + 1 := zp_eq _ _ _
  unfold addL
  rw [e4, zp_ne (by omega)]
  unfold sAddL
  rw [zp_ne (by omega), zp_ne (by omega), zp_ne (by omega), zp_ne (by omega), zp_ne (by omega), zp_ne (by omega)]
theorem addL_new {u v b9 i f : Int} (h0 : 0 ≤ D 4) : addL D u v b9 i f 4 = D 4 + 1 ∧ addL D u v b9 i f (174 + 5 * D 4 + 0) = u ∧ addL D u v b9 i f (174 + 5 * D 4 + 1) = v ∧ addL D u v b9 i f 5 = D 5 := by
  have e4 : sAddL D u v b9 i 4 = D 4 + 1 := zp_eq _ _ _
  unfold addL
  rw [e4]
  refine ⟨?_, ?_, ?_, ?_⟩
  · rw [zp_ne (by omega)]
    exact e4
  · rw [zp_ne (by omega)]
    unfold sAddL
    rw [zp_ne (by omega), zp_ne (by omega), zp_ne (by omega), zp_ne (by omega), zp_ne (by omega), zp_eq]
  · rw [zp_ne (by omega)]
    unfold sAddL
    rw [zp_ne (by omega), zp_ne (by omega), zp_ne (by omega), zp_ne (by omega), zp_eq]
  · rw [zp_ne (by omega)]
    unfold sAddL
    rw [zp_ne (by omega), zp_ne (by omega), zp_ne (by omega), zp_ne (by omega), zp_ne (by omega), zp_ne (by omega)]
theorem mG_light {u v b9 i f : Int} (h : mG W H C D a b) (ha : 0 ≤ a ∧ a < 8) (hu : 0 ≤ u ∧ u < (W : Int)) (hv : 0 ≤ v ∧ v < (H : Int)) (hb : 0 ≤ b9 ∧ b9 ≤ 9) (hi : i = 0 ∨ i = 1) (hf : f = -1 ∨ (0 ≤ f ∧ f < a)) : mG W H C (addL D u v b9 i f) (a + 1) b := by
  obtain ⟨h1, ⟨h2, h3, h4, h5⟩, h6⟩ := h
  have b0 := h1.1.1
  have b1 := h1.1.2.1
  have e4 : sAddL D u v b9 i 4 = D 4 + 1 := zp_eq _ _ _
  have hF := Fit_addL (x := u) (y := v) (b := b9) (c := i) h1 (by omega) (by omega) (by omega) hb (by omega)
  have hF2 := Fit_suc (l := sAddL D u v b9 i 4 - 1) (v := f) hF (by omega) (by omega) (by omega) (by omega)
  obtain ⟨n1, -, -, n4⟩ := addL_new (D := D) (u := u) (v := v) (b9 := b9) (i := i) (f := f) (by omega)
  refine ⟨hF2, ⟨by rw [addL_lo (by omega) (by omega) (by omega)]; exact h2, by rw [addL_lo (by omega) (by omega) (by omega)]; exact h3, by rw [n1, h4], by rw [n4]; exact h5⟩, fun y x y0 y1 x0 x1 => ?_⟩
  rw [addL_lo (by omega) (by omega) (by omega)]
  exact h6 y x y0 y1 x0 x1
theorem mG_walk {u v : Int} (h : mG W H C D a b) (hb : b < 6) (hu : 0 ≤ u ∧ u < (W : Int)) (hv : 0 ≤ v ∧ v < (H : Int)) : mG W H C (sAddW D u v) a (b + 1) := by
  obtain ⟨h1, ⟨h2, h3, h4, h5⟩, h6⟩ := h
  have b0 := h1.1.1
  have b1 := h1.1.2.1
  have b5 := h1.1.2.2.2.2.2.1
  have e : ∀ j, j ≠ 5 → j < 214 + 7 * D 5 → sAddW D u v j = D j := fun j hj h9 => by
    unfold sAddW
    rw [if_neg hj, if_neg (by omega), if_neg (by omega), if_neg (by omega), if_neg (by omega)]
  have e5 : sAddW D u v 5 = D 5 + 1 := if_pos rfl
  refine ⟨Fit_addW h1 (by omega) (by omega) (by omega), ⟨by rw [e _ (by omega) (by omega)]; exact h2, by rw [e _ (by omega) (by omega)]; exact h3, by rw [e _ (by omega) (by omega)]; exact h4, by rw [e5, h5]⟩, fun y x y0 y1 x0 x1 => ?_⟩
  rw [e _ (by omega) (by omega)]
  exact h6 y x y0 y1 x0 x1
/-- where lights are is marked -/
def mL (D E : Int → Int) : Prop := (∀ q, E q = 0 ∨ E q = 1) ∧ ∀ l, 0 ≤ l → l < D 4 → E (12 * D (174 + 5 * l + 1) + D (174 + 5 * l + 0)) = 1
theorem mL_no {u v : Int} (h : mL D E) (he : E (12 * v + u) = 0) : sLOn D u v < 0 := by
  by_cases hc : sLOn D u v < 0
  · exact hc
  · exfalso
    have hr := zfst_rng (sAt D u v) (D 4).toNat
    have hp := zfst_p (p := sAt D u v) (D 4).toNat (show 0 ≤ sLOn D u v by omega)
    have hl : sLOn D u v < D 4 := by
      have : sLOn D u v < ((D 4).toNat : Int) := hr.2
      omega
    have := h.2 (sLOn D u v) (by omega) hl
    have e : D (174 + 5 * sLOn D u v + 0) = u ∧ D (174 + 5 * sLOn D u v + 1) = v := hp
    rw [e.1, e.2, he] at this
    omega
theorem mL_add {u v b9 i f : Int} (h : mL D E) (h0 : 0 ≤ D 4) : mL (addL D u v b9 i f) (zp E (12 * v + u) 1) := by
  obtain ⟨n1, n2, n3, -⟩ := addL_new (D := D) (u := u) (v := v) (b9 := b9) (i := i) (f := f) h0
  refine ⟨fun q => ?_, fun l l0 l1 => ?_⟩
  · by_cases e : q = 12 * v + u
    · rw [e, zp_eq]
      exact Or.inr rfl
    · rw [zp_ne e]
      exact h.1 q
  · rw [n1] at l1
    by_cases e : l = D 4
    · rw [e, n2, n3, zp_eq]
    · rw [addL_lo h0 (by omega) (by omega), addL_lo h0 (by omega) (by omega)]
      by_cases e2 : 12 * D (174 + 5 * l + 1) + D (174 + 5 * l + 0) = 12 * v + u
      · rw [e2, zp_eq]
      · rw [zp_ne e2]
        exact h.2 l l0 (by omega)
end G0M
