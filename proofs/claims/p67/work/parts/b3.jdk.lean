/-! Runs over made cells: texts, and how a builder grows. -/
theorem w_i2c {v : Int} (h : 0 ≤ v ∧ v ≤ 127) : ((zi v).toUInt32 % 65536).toInt32 = zi v := by
  have a : ((List.range 128).all fun n => decide (((zi (n : Int)).toUInt32 % 65536).toInt32 = zi (n : Int))) = true := by decide +kernel
  have b := of_decide_eq_true (List.all_eq_true.mp a v.toNat (List.mem_range.mpr (by omega)))
  rwa [Int.toNat_of_nonneg h.1] at b
theorem w_255 {v : Int} (h : 0 ≤ v ∧ v ≤ 127) : zand v 255 = v := by
  have a : ((List.range 128).all fun n => decide (zand (n : Int) 255 = (n : Int))) = true := by decide +kernel
  have b := of_decide_eq_true (List.all_eq_true.mp a v.toNat (List.mem_range.mpr (by omega)))
  rwa [Int.toNat_of_nonneg h.1] at b
theorem w_bm {v : Int} (h : 0 ≤ v ∧ v ≤ 127) : v.bmod 256 = v := bmod_small h
/-- a text of the constants -/
def wCst (r : Nat) (t : List Int) : Prop := (∃ i, i < 10 ∧ r = 330 + i ∧ wSl.getD i 0 = t.length ∧ ∀ k : Nat, k < t.length → (wSb.getD i []).getD k 0 = zi (t.getD k 0)) ∧ t.length ≤ 16 ∧ ∀ k : Nat, k < t.length → 0 ≤ t.getD k 0 ∧ t.getD k 0 ≤ 127
theorem wCst.str {Y : DY} {r : Nat} {t : List Int} (h : wCst r t) : wStr Y r t := ⟨Or.inl h.1, by have := h.2.1; omega, h.2.2⟩
/-- what a text's letters are, by their places -/
def wTf (t : List Int) (j : Int) : Int := t.getD j.toNat 0
theorem wTf_zr {t : List Int} (h : ∀ k : Nat, k < t.length → 0 ≤ t.getD k 0 ∧ t.getD k 0 ≤ 127) (j : Int) : zr (wTf t j) := by
  unfold wTf
  by_cases hk : j.toNat < t.length
  · have := h _ hk
    exact ⟨by omega, by omega⟩
  · rw [List.getD_eq_getElem?_getD, List.getElem?_eq_none (by omega)]
    exact zr0
section B3
variable {u : WU} {y : Nat} {b : WB} {pc pc' : Nat} {L st st' : List Value} {G F : GM} {Y : DY} {c d : Nat} {Q : WQ}
theorem wi_acs {index r0 r1 i1 n1 : Nat} {t : List Int} {sp dp n : Int} (hd : decode (zbc y) pc = .ok (.invokestatic index, 3)) (hp : pc + 3 = pc') (hw : Cond.methodLink (zyn y).cls index arraycopyName ∈ zTs) (hf1 : 1 ≤ zfr y) (hl1 : 8 + (nativeFrameWords "java/lang/System" "arraycopy" 5 + 11) ≤ zlo y) (h : wByt Y r0 t) (hr1 : r1 = 1000 + i1) (hi1 : i1 < Y.2.2) (hs1 : Y.2.1 i1 = (2, n1, [])) (hsp : 0 ≤ sp) (hdp : 0 ≤ dp) (hn : 0 ≤ n) (hb0 : sp + n ≤ t.length) (hb1 : dp + n ≤ n1) (hbig : n1 ≤ 100000) (h4 : st.length ≤ 4)
    (k : wW u y b pc' L st G F (w_row Y i1 (w_cpy (wTf t) (Y.1 i1) sp dp n)) c d Q) : wW u y b pc L (.int (zi n) :: .int (zi dp) :: .ref r1 :: .int (zi sp) :: .ref r0 :: st) G F Y c d Q := by
  obtain ⟨h0, hl, hz⟩ := h
  rcases h0 with ⟨i, h1, rfl, h2, h3⟩ | ⟨j, rfl, h1, h2, h3⟩
  · refine wi_acc (f := wTf t) hd hp hw hf1 hl1 h1 hr1 hi1 hs1 hsp hdp hn (by rw [h2]; exact hb0) (by omega) hb1 hbig (fun k hk => ?_) (wTf_zr hz) h4 k
    rw [h2] at hk
    refine ⟨?_, ?_⟩
    · rw [h3 k hk]
      rfl
    · exact hz k hk
  · refine wi_acp (i0 := j) (i1 := i1) hd hp hw hf1 hl1 rfl hr1 h1 hi1 h2 hs1 hsp hdp hn hb0 hb1 ⟨by omega, hbig⟩ (fun k a1 a2 => ?_) h4 ?_
    · have e := h3 k.toNat (by omega)
      rw [Int.toNat_of_nonneg (by omega)] at e
      rw [e]
      exact hz _ (by omega)
    · have e : w_cpy (Y.1 j) (Y.1 i1) sp dp n = w_cpy (wTf t) (Y.1 i1) sp dp n := by
        funext k
        unfold w_cpy
        by_cases hk : dp ≤ k ∧ k < dp + n
        · rw [if_pos hk, if_pos hk]
          have e := h3 (sp + (k - dp)).toNat (by omega)
          rw [Int.toNat_of_nonneg (by omega)] at e
          exact e
        · rw [if_neg hk, if_neg hk]
      rw [e]
      exact k
end B3
theorem w_row_add {Y : DY} {h : Sh} {E E' : Int → Int} : w_row (w_add Y h E) Y.2.2 E' = w_add Y h E' := by
  unfold w_row w_add
  congr 1
  funext k
  by_cases hk : k = Y.2.2
  · rw [hk, zk_eq, zk_eq]
  · rw [zk_ne hk, zk_ne hk]
    exact zk_ne hk
/-- what becomes of a builder's world -/
def SBp (Y : DY) (i j : Nat) (t : List Int) (cap : Nat) (Y' : DY) : Prop := ∃ j' m', SBx Y' i j' m' t ∧ cap ≤ m' ∧ (j' = j ∨ Y.2.2 ≤ j') ∧ Y.2.2 ≤ Y'.2.2 ∧ ∀ k, k < Y.2.2 → k ≠ i → k ≠ j → Y'.1 k = Y.1 k ∧ Y'.2.1 k = Y.2.1 k
theorem SB_grow {Y : DY} {i j m n : Nat} {t : List Int} (h : SBx Y i j m t) (hn : m ≤ n) (hn2 : n ≤ 1000) : SBp Y i j t n (w_put (w_row (w_add Y (2, n, []) (fun _ => 0)) Y.2.2 (w_cpy (Y.1 j) (fun _ => 0) 0 0 m)) i (0, 10, [1000 + Y.2.2 + 2, 0, 0, 0]) ((w_row (w_add Y (2, n, []) (fun _ => 0)) Y.2.2 (w_cpy (Y.1 j) (fun _ => 0) 0 0 m)).1 i)) := by
  rw [w_row_add]
  obtain ⟨hi, hj, hij, hsi, hsj, hco, hcn, htm, hm, hby, hch⟩ := h
  have e1 : ∀ E, (w_put (w_add Y (2, n, []) E) i (0, 10, [1000 + Y.2.2 + 2, 0, 0, 0]) ((w_add Y (2, n, []) E).1 i)).1 = (w_add Y (2, n, []) E).1 := fun E => zk_self _ _
  have e2 : ∀ E k, k ≠ i → (w_put (w_add Y (2, n, []) E) i (0, 10, [1000 + Y.2.2 + 2, 0, 0, 0]) ((w_add Y (2, n, []) E).1 i)).2.1 k = (w_add Y (2, n, []) E).2.1 k := fun E k hk => if_neg hk
  refine ⟨Y.2.2, n, ⟨show i < Y.2.2 + 1 by omega, show Y.2.2 < Y.2.2 + 1 by omega, by omega, if_pos rfl, ?_, ?_, ?_, by omega, hn2, fun k hk => ?_, fun k hk => ?_⟩, Nat.le_refl _, Or.inr (Nat.le_refl _), Nat.le_succ _, fun k h1 h2 h3 => ⟨?_, ?_⟩⟩
  · rw [e2 _ _ (by omega)]
    exact w_add_hi
  · rw [e1, w_add_E hi]
    exact hco
  · rw [e1, w_add_E hi]
    exact hcn
  · rw [e1, w_add_En]
    unfold w_cpy
    by_cases h9 : (0 : Int) ≤ (k : Int) ∧ (k : Int) < 0 + (m : Int)
    · rw [if_pos h9]
      have := hby k (by omega)
      simpa using this
    · rw [if_neg h9]
      show (0 : Int) ≤ 0 ∧ (0 : Int) ≤ 127
      decide
  · rw [e1, w_add_En]
    unfold w_cpy
    rw [if_pos (by omega)]
    have := hch k hk
    simpa using this
  · rw [e1, w_add_E h1]
  · rw [e2 _ _ h2]
    exact w_add_lo h1 rfl
/-- a text's end put to a builder -/
theorem SB_app {Y1 Y2 : DY} {i j m : Nat} {t s : List Int} (h : SBx Y1 i j m t) (hl : t.length + s.length ≤ m) (h1 : Y2.2.2 = Y1.2.2) (h2 : Y2.2.1 = Y1.2.1) (h3 : Y2.1 i 1 = 0) (h4 : Y2.1 i 3 = (t.length : Int) + (s.length : Int)) (h5 : ∀ k : Nat, k < t.length → Y2.1 j (k : Int) = Y1.1 j (k : Int)) (h6 : ∀ k : Nat, k < s.length → Y2.1 j ((t.length : Int) + (k : Int)) = s.getD k 0) (h7 : ∀ k : Nat, t.length + s.length ≤ k → k < m → Y2.1 j (k : Int) = Y1.1 j (k : Int)) (hs : ∀ k : Nat, k < s.length → 0 ≤ s.getD k 0 ∧ s.getD k 0 ≤ 127) : SBx Y2 i j m (t ++ s) := by
  obtain ⟨hi, hj, hij, hsi, hsj, hco, hcn, htm, hm, hby, hch⟩ := h
  have key : ∀ k : Nat, k < t.length + s.length → Y2.1 j (k : Int) = (t ++ s).getD k 0 := by
    intro k hk
    rw [List.getD_eq_getElem?_getD]
    by_cases h9 : k < t.length
    · rw [List.getElem?_append_left h9, ← List.getD_eq_getElem?_getD, h5 k h9, hch k h9]
    · have e := h6 (k - t.length) (by omega)
      rw [show (t.length : Int) + ((k - t.length : Nat) : Int) = (k : Int) by omega] at e
      rw [List.getElem?_append_right (by omega), ← List.getD_eq_getElem?_getD, e]
  refine ⟨by rw [h1]; exact hi, by rw [h1]; exact hj, hij, by rw [h2]; exact hsi, by rw [h2]; exact hsj, h3, by rw [h4, List.length_append]; omega, by rw [List.length_append]; exact hl, hm, fun k hk => ?_, fun k hk => key k (by rw [List.length_append] at hk; exact hk)⟩
  by_cases h9 : k < t.length
  · rw [h5 k h9]
    exact hby k hk
  · by_cases h8 : k < t.length + s.length
    · have e := h6 (k - t.length) (by omega)
      rw [show (t.length : Int) + ((k - t.length : Nat) : Int) = (k : Int) by omega] at e
      rw [e]
      exact hs _ (by omega)
    · rw [h7 k (by omega) hk]
      exact hby k hk
theorem SBp_tr {Y Y1 Y2 : DY} {i j j1 : Nat} {t t' : List Int} {c1 c2 : Nat} (h1 : j1 = j ∨ Y.2.2 ≤ j1) (h2 : Y.2.2 ≤ Y1.2.2) (h3 : ∀ k, k < Y.2.2 → k ≠ i → k ≠ j → Y1.1 k = Y.1 k ∧ Y1.2.1 k = Y.2.1 k) (h : SBp Y1 i j1 t' c2 Y2) : SBp Y i j t' c2 Y2 := by
  obtain ⟨j2, m2, a1, a2, a3, a4, a5⟩ := h
  refine ⟨j2, m2, a1, a2, ?_, by omega, fun k b1 b2 b3 => ?_⟩
  · omega
  · obtain ⟨c1, c2⟩ := a5 k (by omega) b2 (by omega)
    obtain ⟨d1, d2⟩ := h3 k b1 b2 b3
    exact ⟨c1.trans d1, c2.trans d2⟩
theorem q357_0 : decode (zbc 357) 0 = .ok (.aload_n 0, 1) := by decide +kernel
theorem q357_1 : decode (zbc 357) 1 = .ok (.getfield 15, 3) := by decide +kernel
theorem q357_4 : decode (zbc 357) 4 = .ok (.arraylength, 1) := by decide +kernel
theorem q357_5 : decode (zbc 357) 5 = .ok (.aload_n 0, 1) := by decide +kernel
theorem q357_6 : decode (zbc 357) 6 = .ok (.getfield 22, 3) := by decide +kernel
theorem q357_9 : decode (zbc 357) 9 = .ok (.ishr, 1) := by decide +kernel
theorem q357_10 : decode (zbc 357) 10 = .ok (.istore_n 2, 1) := by decide +kernel
theorem q357_11 : decode (zbc 357) 11 = .ok (.iload_n 1, 1) := by decide +kernel
theorem q357_12 : decode (zbc 357) 12 = .ok (.iload_n 2, 1) := by decide +kernel
theorem q357_13 : decode (zbc 357) 13 = .ok (.isub, 1) := by decide +kernel
theorem q357_14 : decode (zbc 357) 14 = .ok (.ifCond .le 24, 3) := by decide +kernel
theorem q357_38 : decode (zbc 357) 38 = .ok (.return_, 1) := by decide +kernel
theorem q357_17 : decode (zbc 357) 17 = .ok (.aload_n 0, 1) := by decide +kernel
theorem q357_18 : decode (zbc 357) 18 = .ok (.aload_n 0, 1) := by decide +kernel
theorem q357_19 : decode (zbc 357) 19 = .ok (.getfield 15, 3) := by decide +kernel
theorem q357_22 : decode (zbc 357) 22 = .ok (.aload_n 0, 1) := by decide +kernel
theorem q357_23 : decode (zbc 357) 23 = .ok (.iload_n 1, 1) := by decide +kernel
theorem q357_24 : decode (zbc 357) 24 = .ok (.invokevirtual 104, 3) := by decide +kernel
theorem kx_1156 : Cond.methodLink "java/lang/AbstractStringBuilder" 104 yJ5_newCapacity_0f7a4 ∈ zTs := z_in (i := 1156) (by decide +kernel) (by decide +kernel)
theorem kx_1448 : Cond.sameMethod "java/lang/AbstractStringBuilder" "java/lang/AbstractStringBuilder" "newCapacity" "(I)I" ∈ zTs := z_in (i := 1448) (by decide +kernel) (by decide +kernel)
theorem kx_1158 : Cond.instanceMethod yJ5_newCapacity_0f7a4 ∈ zTs := z_in (i := 1158) (by decide +kernel) (by decide +kernel)
theorem kx_1159 : Cond.code yJ5_newCapacity_0f7a4 cJ5_newCapacity_0f7a4 6 (some .int) ∈ zTs := z_in (i := 1159) (by decide +kernel) (by decide +kernel)
theorem wk357_24 : wSC 357 24 358 2 (some "java/lang/StringBuilder") := wk_P (n' := 1) q357_24 kx_1156 kx_1448 kx_1158 (by show yJ5_newCapacity_0f7a4 ∈ wPv; simp [wPv]) kx_55 kx_1159 ⟨by decide, by decide, by decide +kernel⟩ rfl ⟨Nat.le_of_ble_eq_true rfl, Nat.le_of_ble_eq_true rfl⟩
theorem q357_27 : decode (zbc 357) 27 = .ok (.aload_n 0, 1) := by decide +kernel
theorem q357_28 : decode (zbc 357) 28 = .ok (.getfield 22, 3) := by decide +kernel
theorem q357_31 : decode (zbc 357) 31 = .ok (.ishl, 1) := by decide +kernel
theorem q357_32 : decode (zbc 357) 32 = .ok (.invokestatic 108, 3) := by decide +kernel
theorem kx_1168 : Cond.methodLink "java/lang/AbstractStringBuilder" 108 yJ7_copyOf_9075b ∈ zTs := z_in (i := 1168) (by decide +kernel) (by decide +kernel)
theorem kx_1169 : Cond.static yJ7_copyOf_9075b ∈ zTs := z_in (i := 1169) (by decide +kernel) (by decide +kernel)
theorem kx_45 : Cond.initialized "java/util/Arrays" ∈ zTs := z_in (i := 45) (by decide +kernel) (by decide +kernel)
theorem kx_1170 : Cond.code yJ7_copyOf_9075b cJ7_copyOf_9075b 3 (some (.array .byte)) ∈ zTs := z_in (i := 1170) (by decide +kernel) (by decide +kernel)
theorem wk357_32 : wSC 357 32 360 2 none := wk_S q357_32 kx_1168 kx_1169 kx_45 kx_1170 ⟨by decide, by decide, by decide +kernel⟩ ⟨Nat.le_of_ble_eq_true rfl, Nat.le_of_ble_eq_true rfl⟩
theorem q357_35 : decode (zbc 357) 35 = .ok (.putfield 15, 3) := by decide +kernel
theorem cJ_ensure {u : WU} {G F : GM} {Y : DY} {i j m : Nat} {t : List Int} (h : SBx Y i j m t) {q : Int} (hq : (t.length : Int) ≤ q ∧ q ≤ 400) : wC u 357 1 1000 [.ref (1000 + i), .int (zi q)] G F Y (fun o G' F' Y' => o = none ∧ G = G' ∧ F = F' ∧ SBp Y i j t q.toNat Y') := by
  refine w_met (L0 := [.ref (1000 + i), .int (zi q), .null]) (by decide +kernel) rfl rfl ?_
  have h0 := h
  obtain ⟨hi, hj, hij, hsi, hsj, hco, hcn, htm, hm, hby, hch⟩ := h
  refine wi_aload_n (i := 0) (pc' := 1) q357_0 rfl rfl rfl ?_
  refine wi_getR (ci := 10) (j := 0) (C := RJ4) (T := TJ4) (Nf := 4) (pc' := 4) q357_1 rfl rfl inJ4 (by decide) kx_1234 rfl hi hsi rfl ?_
  refine wi_alen (pc' := 5) q357_4 rfl rfl hj hsj (Or.inr (Or.inl rfl)) ?_
  refine wi_aload_n (i := 0) (pc' := 6) q357_5 rfl rfl rfl ?_
  refine wi_getI (ci := 10) (j := 1) (C := RJ4) (T := TJ4) (Nf := 4) (pc' := 9) q357_6 rfl rfl inJ4 (by decide) kx_1235 rfl hi hsi rfl ?_
  rw [show (Y).1 i ((1 : Nat) : Int) = 0 from hco]
  refine wi_ishr (pc' := 10) q357_9 rfl ?_
  rw [show ((zshr (m : Int) 0) : Int) = (m : Int) from wsr0 (by omega)]
  refine wi_istore2 (pc' := 11) q357_10 rfl rfl rfl (Or.inr rfl) ?_
  refine wi_iload_n (i := 1) (pc' := 12) q357_11 rfl rfl rfl ?_
  refine wi_iload_n (i := 2) (pc' := 13) q357_12 rfl rfl rfl ?_
  refine wi_isub (pc' := 14) q357_13 rfl ?_
  refine wi_if_le (t := 38) (pc' := 17) q357_14 (by decide) rfl (by omega) ?_ ?_
  · intro h9
    refine wW_r (o := none) ⟨q357_38, rfl⟩ rfl (by (try dsimp only); omega) (by (try dsimp only); omega) ?_
    exact ⟨rfl, rfl, rfl, j, m, h0, by omega, Or.inl rfl, Nat.le_refl _, fun k _ _ _ => ⟨rfl, rfl⟩⟩
  · intro h9
    refine wi_aload_n (i := 0) (pc' := 18) q357_17 rfl rfl rfl ?_
    refine wi_aload_n (i := 0) (pc' := 19) q357_18 rfl rfl rfl ?_
    refine wi_getR (ci := 10) (j := 0) (C := RJ4) (T := TJ4) (Nf := 4) (pc' := 22) q357_19 rfl rfl inJ4 (by decide) kx_1234 rfl hi hsi rfl ?_
    refine wi_aload_n (i := 0) (pc' := 23) q357_22 rfl rfl rfl ?_
    refine wi_iload_n (i := 1) (pc' := 24) q357_23 rfl rfl rfl ?_
    refine wi_call (pc' := 27) wk357_24 rfl (cJ_newCap h0 (q := q) (by omega)) rfl (Nat.le_of_ble_eq_true rfl) (Nat.le_of_ble_eq_true rfl) (by (try dsimp only); omega) (by (try dsimp only); omega) (wrv_sb h0) ?_
    rintro o9 G9 F9 Y9 ⟨rfl, rfl, rfl, rfl⟩ hle9
    obtain ⟨n, hn⟩ : ∃ n : Nat, (m : Int) + max (q - m) (m + 2) = (n : Int) := Int.eq_ofNat_of_zero_le (by omega)
    rw [hn]
    refine wi_aload_n (i := 0) (pc' := 28) q357_27 rfl rfl rfl ?_
    refine wi_getI (ci := 10) (j := 1) (C := RJ4) (T := TJ4) (Nf := 4) (pc' := 31) q357_28 rfl rfl inJ4 (by decide) kx_1235 rfl hi hsi rfl ?_
    rw [show (Y).1 i ((1 : Nat) : Int) = 0 from hco]
    refine wi_ishl (pc' := 32) q357_31 rfl ?_
    rw [show ((zshl (n : Int) 0) : Int) = (n : Int) from wsh0 (by omega)]
    refine wi_call (pc' := 35) wk357_32 rfl (cJ_copyOf (n := n) hj hsj hm (by omega) (by omega) hby) rfl (Nat.le_of_ble_eq_true rfl) (Nat.le_of_ble_eq_true rfl) (by (try dsimp only); omega) (by (try dsimp only); omega) (wrv_n) ?_
    rintro o9 G9 F9 Y9 ⟨rfl, rfl, rfl, rfl⟩ hle9
    refine wi_putR (ci := 10) (j := 0) (T := TJ4) (ty0 := tyJ4) (C := RJ4) (Nf := 4) (pc' := 38) q357_35 rfl rfl inJ4 tyJ4_ok nmJ4 (by decide) kx_1234 rfl (fun _ => rfl) (fun _ => rfl) rfl (show i < Y.2.2 + 1 by omega) (w_add_lo (E := fun _ => 0) hi hsi) (Nat.le_of_ble_eq_true rfl) rfl ?_
    refine wW_r (o := none) ⟨q357_38, rfl⟩ rfl (by (try dsimp only); omega) (by (try dsimp only); omega) ?_
    obtain ⟨j9, m9, a1, a2, a3⟩ := SB_grow (n := n) h0 (by omega) (by omega)
    exact ⟨rfl, rfl, rfl, j9, m9, a1, by omega, a3⟩
theorem q282_0 : decode (zbc 282) 0 = .ok (.getstatic 38, 3) := by decide +kernel
theorem kx_318 : Cond.fieldLink "java/lang/String" 38 "java/lang/String" "COMPACT_STRINGS" "Z" ∈ zTs := z_in (i := 318) (by decide +kernel) (by decide +kernel)
theorem q282_3 : decode (zbc 282) 3 = .ok (.ifCond .eq 10, 3) := by decide +kernel
theorem q282_6 : decode (zbc 282) 6 = .ok (.aload_n 0, 1) := by decide +kernel
theorem q282_7 : decode (zbc 282) 7 = .ok (.getfield 15, 3) := by decide +kernel
theorem kx_1359 : Cond.fieldLink "java/lang/String" 15 "java/lang/String" "coder" "B" ∈ zTs := z_in (i := 1359) (by decide +kernel) (by decide +kernel)
theorem q282_10 : decode (zbc 282) 10 = .ok (.goto 4, 3) := by decide +kernel
theorem q282_14 : decode (zbc 282) 14 = .ok (.ireturn, 1) := by decide +kernel
theorem cJ_coder {u : WU} {G F : GM} {Y : DY} {r : Nat} {t : List Int} (h : wStr Y r t) : wC u 282 0 0 [.ref r] G F Y (wPu G F Y (some (.int (zi 0)))) := by
  refine w_met (L0 := [.ref r]) (by decide +kernel) rfl rfl ?_
  refine wi_gsC (pc' := 3) q282_0 rfl kx_318 ?_
  refine wi_if_eq (t := 13) (pc' := 6) q282_3 (by decide) rfl (by omega) (fun h1 => absurd h1 (by omega)) (fun h1 => ?_)
  refine wi_aload_n (i := 0) (pc' := 7) q282_6 rfl rfl rfl ?_
  refine wi_scod (pc' := 10) q282_7 rfl kx_1359 h ?_
  refine wi_goto (t := 14) q282_10 (by decide) ?_
  refine wW_r (o := some (.int (zi 0))) ⟨q282_14, _, rfl, w_nB9 (by omega)⟩ rfl (by (try dsimp only); omega) (by (try dsimp only); omega) ?_
  exact ⟨rfl, rfl, rfl, rfl⟩
theorem q280_0 : decode (zbc 280) 0 = .ok (.aload_n 0, 1) := by decide +kernel
theorem q280_1 : decode (zbc 280) 1 = .ok (.getfield 9, 3) := by decide +kernel
theorem kx_1358 : Cond.fieldLink "java/lang/String" 9 "java/lang/String" "value" "[B" ∈ zTs := z_in (i := 1358) (by decide +kernel) (by decide +kernel)
theorem q280_4 : decode (zbc 280) 4 = .ok (.arraylength, 1) := by decide +kernel
theorem q280_5 : decode (zbc 280) 5 = .ok (.aload_n 0, 1) := by decide +kernel
theorem q280_6 : decode (zbc 280) 6 = .ok (.invokevirtual 335, 3) := by decide +kernel
theorem kx_314 : Cond.methodLink "java/lang/String" 335 yJ0_coder_7d493 ∈ zTs := z_in (i := 314) (by decide +kernel) (by decide +kernel)
theorem kx_315 : Cond.instanceMethod yJ0_coder_7d493 ∈ zTs := z_in (i := 315) (by decide +kernel) (by decide +kernel)
theorem kx_316 : Cond.selects "java/lang/String" yJ0_coder_7d493 yJ0_coder_7d493 ∈ zTs := z_in (i := 316) (by decide +kernel) (by decide +kernel)
theorem kx_41 : Cond.initialized "java/lang/String" ∈ zTs := z_in (i := 41) (by decide +kernel) (by decide +kernel)
theorem kx_317 : Cond.code yJ0_coder_7d493 cJ0_coder_7d493 1 (some .byte) ∈ zTs := z_in (i := 317) (by decide +kernel) (by decide +kernel)
theorem wk280_6 : wSC 280 6 282 1 (some "java/lang/String") := wk_V (n' := 0) q280_6 kx_314 kx_315 kx_316 kx_41 kx_317 ⟨by decide, by decide, by decide +kernel⟩ rfl ⟨Nat.le_of_ble_eq_true rfl, Nat.le_of_ble_eq_true rfl⟩
theorem q280_9 : decode (zbc 280) 9 = .ok (.ishr, 1) := by decide +kernel
theorem q280_10 : decode (zbc 280) 10 = .ok (.ireturn, 1) := by decide +kernel
theorem cJ_slen {u : WU} {G F : GM} {Y : DY} {r : Nat} {t : List Int} (h : wStr Y r t) : wC u 280 0 0 [.ref r] G F Y (wPu G F Y (some (.int (zi (t.length : Int))))) := by
  refine w_met (L0 := [.ref r]) (by decide +kernel) rfl rfl ?_
  have hl9 := h.2.1
  refine wi_aload_n (i := 0) (pc' := 1) q280_0 rfl rfl rfl ?_
  refine wi_sval (pc' := 4) q280_1 rfl kx_1358 h ?_
  intro r1 hb2
  refine wi_slen (pc' := 5) q280_4 rfl hb2 ?_
  refine wi_aload_n (i := 0) (pc' := 6) q280_5 rfl rfl rfl ?_
  refine wi_call (pc' := 9) wk280_6 rfl (cJ_coder h) rfl (Nat.le_of_ble_eq_true rfl) (Nat.le_of_ble_eq_true rfl) (by (try dsimp only); omega) (by (try dsimp only); omega) (wrv_str h) ?_
  rintro o9 G9 F9 Y9 ⟨rfl, rfl, rfl, rfl⟩ hle9
  refine wi_ishr (pc' := 10) q280_9 rfl ?_
  rw [show ((zshr (t.length : Int) 0) : Int) = (t.length : Int) from wsr0 (by omega)]
  refine wW_r (o := some (.int (zi (t.length : Int)))) ⟨q280_10, _, rfl, rfl⟩ rfl (by (try dsimp only); omega) (by (try dsimp only); omega) ?_
  exact ⟨rfl, rfl, rfl, rfl⟩
theorem q283_0 : decode (zbc 283) 0 = .ok (.getstatic 38, 3) := by decide +kernel
theorem q283_3 : decode (zbc 283) 3 = .ok (.ifCond .eq 14, 3) := by decide +kernel
theorem q283_6 : decode (zbc 283) 6 = .ok (.aload_n 0, 1) := by decide +kernel
theorem q283_7 : decode (zbc 283) 7 = .ok (.getfield 15, 3) := by decide +kernel
theorem q283_10 : decode (zbc 283) 10 = .ok (.ifCond .ne 7, 3) := by decide +kernel
theorem q283_13 : decode (zbc 283) 13 = .ok (.iconst 1, 1) := by decide +kernel
theorem q283_14 : decode (zbc 283) 14 = .ok (.goto 4, 3) := by decide +kernel
theorem q283_18 : decode (zbc 283) 18 = .ok (.ireturn, 1) := by decide +kernel
theorem cJ_sLat {u : WU} {G F : GM} {Y : DY} {r : Nat} {t : List Int} (h : wStr Y r t) : wC u 283 0 0 [.ref r] G F Y (wPu G F Y (some (.int (zi 1)))) := by
  refine w_met (L0 := [.ref r]) (by decide +kernel) rfl rfl ?_
  refine wi_gsC (pc' := 3) q283_0 rfl kx_318 ?_
  refine wi_if_eq (t := 17) (pc' := 6) q283_3 (by decide) rfl (by omega) (fun h1 => absurd h1 (by omega)) (fun h1 => ?_)
  refine wi_aload_n (i := 0) (pc' := 7) q283_6 rfl rfl rfl ?_
  refine wi_scod (pc' := 10) q283_7 rfl kx_1359 h ?_
  refine wi_if_ne (t := 17) (pc' := 13) q283_10 (by decide) rfl (by omega) (fun h2 => absurd h2 (by omega)) (fun h2 => ?_)
  refine wi_iconst (pc' := 14) q283_13 rfl ?_
  refine wi_goto (t := 18) q283_14 (by decide) ?_
  refine wW_r (o := some (.int (zi 1))) ⟨q283_18, _, rfl, w_nZ (Or.inr rfl)⟩ rfl (by (try dsimp only); omega) (by (try dsimp only); omega) ?_
  exact ⟨rfl, rfl, rfl, rfl⟩
theorem q285_0 : decode (zbc 285) 0 = .ok (.iload_n 1, 1) := by decide +kernel
theorem q285_1 : decode (zbc 285) 1 = .ok (.aload_n 0, 1) := by decide +kernel
theorem q285_2 : decode (zbc 285) 2 = .ok (.arraylength, 1) := by decide +kernel
theorem q285_3 : decode (zbc 285) 3 = .ok (.invokestatic 9, 3) := by decide +kernel
theorem kx_331 : Cond.methodLink "java/lang/StringLatin1" 9 yJ0_checkIndex_df160 ∈ zTs := z_in (i := 331) (by decide +kernel) (by decide +kernel)
theorem kx_332 : Cond.static yJ0_checkIndex_df160 ∈ zTs := z_in (i := 332) (by decide +kernel) (by decide +kernel)
theorem kx_333 : Cond.code yJ0_checkIndex_df160 cJ0_checkIndex_df160 2 none ∈ zTs := z_in (i := 333) (by decide +kernel) (by decide +kernel)
theorem wq285_3 {L9 : Nat} {xs9 : Nat → Int32} {N9 : Nat} : z_SC N9 znl zTs (zZ L9 xs9 N9) zyn zbc zrt zfr zlo (fun _ i => i) ztb 285 3 2 284 2 := sc_S (P := fun _ i => i) zTs_good q285_3 kx_331 kx_332 kx_41 kx_333 rfl ⟨by decide, by decide, by decide +kernel⟩ ⟨Nat.le_of_ble_eq_true rfl, Nat.le_of_ble_eq_true rfl⟩
theorem q285_6 : decode (zbc 285) 6 = .ok (.aload_n 0, 1) := by decide +kernel
theorem q285_7 : decode (zbc 285) 7 = .ok (.iload_n 1, 1) := by decide +kernel
theorem q285_8 : decode (zbc 285) 8 = .ok (.baload, 1) := by decide +kernel
theorem q285_9 : decode (zbc 285) 9 = .ok (.sipush 255, 3) := by decide +kernel
theorem q285_12 : decode (zbc 285) 12 = .ok (.iand, 1) := by decide +kernel
theorem q285_13 : decode (zbc 285) 13 = .ok (.i2c, 1) := by decide +kernel
theorem q285_14 : decode (zbc 285) 14 = .ok (.ireturn, 1) := by decide +kernel
theorem cJ_bchar {u : WU} {G F : GM} {Y : DY} {r : Nat} {t : List Int} (h : wByt Y r t) {j : Int} (hj : 0 ≤ j ∧ j < t.length) : wC u 285 0 0 [.ref r, .int (zi j)] G F Y (wPu G F Y (some (.int (zi (t.getD j.toNat 0))))) := by
  refine w_met (L0 := [.ref r, .int (zi j)]) (by decide +kernel) rfl rfl ?_
  have hl9 := h.2.1
  have hz9 := h.2.2 j.toNat (by omega)
  refine wi_iload_n (i := 1) (pc' := 1) q285_0 rfl rfl rfl ?_
  refine wi_aload_n (i := 0) (pc' := 2) q285_1 rfl rfl rfl ?_
  refine wi_slen (pc' := 3) q285_2 rfl h ?_
  refine wi_call1 (pc' := 6) wq285_3 rfl (zJ_cki (by omega)) (fun h => absurd h (by decide)) rfl rfl (by rintro z G9 F9 n9 ⟨h9, -⟩; cases h9) (by rintro v9 G9 F9 n9 ⟨h9, -⟩; cases h9) (by rintro v9 G9 F9 n9 ⟨h9, -, -, rfl⟩; exact ⟨by (try dsimp only); omega, by (try dsimp only); omega⟩) ?_
  rintro o9 G9 F9 n9 ⟨h9, rfl, rfl, rfl⟩
  cases h9
  refine wi_aload_n (i := 0) (pc' := 7) q285_6 rfl rfl rfl ?_
  refine wi_iload_n (i := 1) (pc' := 8) q285_7 rfl rfl rfl ?_
  refine wi_sbal (pc' := 9) q285_8 rfl h hj ?_
  refine wi_sipush (pc' := 12) q285_9 rfl (by decide) ?_
  refine wi_iand (pc' := 13) q285_12 rfl ?_
  rw [show ((zand (t.getD j.toNat 0) 255) : Int) = (t.getD j.toNat 0) from w_255 hz9]
  refine wi_i2c (v := t.getD j.toNat 0) (pc' := 14) q285_13 rfl (w_i2c hz9) ?_
  refine wW_r (o := some (.int (zi (t.getD j.toNat 0)))) ⟨q285_14, _, rfl, w_nC9 hz9⟩ rfl (by (try dsimp only); omega) (by (try dsimp only); omega) ?_
  exact ⟨rfl, rfl, rfl, rfl⟩
theorem q281_0 : decode (zbc 281) 0 = .ok (.aload_n 0, 1) := by decide +kernel
theorem q281_1 : decode (zbc 281) 1 = .ok (.invokevirtual 492, 3) := by decide +kernel
theorem kx_324 : Cond.methodLink "java/lang/String" 492 yJ0_isLatin1_aae02 ∈ zTs := z_in (i := 324) (by decide +kernel) (by decide +kernel)
theorem kx_325 : Cond.instanceMethod yJ0_isLatin1_aae02 ∈ zTs := z_in (i := 325) (by decide +kernel) (by decide +kernel)
theorem kx_326 : Cond.selects "java/lang/String" yJ0_isLatin1_aae02 yJ0_isLatin1_aae02 ∈ zTs := z_in (i := 326) (by decide +kernel) (by decide +kernel)
theorem kx_327 : Cond.code yJ0_isLatin1_aae02 cJ0_isLatin1_aae02 1 (some .boolean) ∈ zTs := z_in (i := 327) (by decide +kernel) (by decide +kernel)
theorem wk281_1 : wSC 281 1 283 1 (some "java/lang/String") := wk_V (n' := 0) q281_1 kx_324 kx_325 kx_326 kx_41 kx_327 ⟨by decide, by decide, by decide +kernel⟩ rfl ⟨Nat.le_of_ble_eq_true rfl, Nat.le_of_ble_eq_true rfl⟩
theorem q281_4 : decode (zbc 281) 4 = .ok (.ifCond .eq 12, 3) := by decide +kernel
theorem q281_7 : decode (zbc 281) 7 = .ok (.aload_n 0, 1) := by decide +kernel
theorem q281_8 : decode (zbc 281) 8 = .ok (.getfield 9, 3) := by decide +kernel
theorem q281_11 : decode (zbc 281) 11 = .ok (.iload_n 1, 1) := by decide +kernel
theorem q281_12 : decode (zbc 281) 12 = .ok (.invokestatic 495, 3) := by decide +kernel
theorem kx_328 : Cond.methodLink "java/lang/String" 495 yJ1_charAt_3b067 ∈ zTs := z_in (i := 328) (by decide +kernel) (by decide +kernel)
theorem kx_329 : Cond.static yJ1_charAt_3b067 ∈ zTs := z_in (i := 329) (by decide +kernel) (by decide +kernel)
theorem kx_42 : Cond.initialized "java/lang/StringLatin1" ∈ zTs := z_in (i := 42) (by decide +kernel) (by decide +kernel)
theorem kx_330 : Cond.code yJ1_charAt_3b067 cJ1_charAt_3b067 2 (some .char) ∈ zTs := z_in (i := 330) (by decide +kernel) (by decide +kernel)
theorem wk281_12 : wSC 281 12 285 2 none := wk_S q281_12 kx_328 kx_329 kx_42 kx_330 ⟨by decide, by decide, by decide +kernel⟩ ⟨Nat.le_of_ble_eq_true rfl, Nat.le_of_ble_eq_true rfl⟩
theorem q281_15 : decode (zbc 281) 15 = .ok (.ireturn, 1) := by decide +kernel
theorem cJ_char {u : WU} {G F : GM} {Y : DY} {r : Nat} {t : List Int} (h : wStr Y r t) {j : Int} (hj : 0 ≤ j ∧ j < t.length) : wC u 281 0 0 [.ref r, .int (zi j)] G F Y (wPu G F Y (some (.int (zi (t.getD j.toNat 0))))) := by
  refine w_met (L0 := [.ref r, .int (zi j)]) (by decide +kernel) rfl rfl ?_
  have hz9 := h.2.2 j.toNat (by omega)
  refine wi_aload_n (i := 0) (pc' := 1) q281_0 rfl rfl rfl ?_
  refine wi_call (pc' := 4) wk281_1 rfl (cJ_sLat h) rfl (Nat.le_of_ble_eq_true rfl) (Nat.le_of_ble_eq_true rfl) (by (try dsimp only); omega) (by (try dsimp only); omega) (wrv_str h) ?_
  rintro o9 G9 F9 Y9 ⟨rfl, rfl, rfl, rfl⟩ hle9
  refine wi_if_eq (t := 16) (pc' := 7) q281_4 (by decide) rfl (by omega) (fun h1 => absurd h1 (by omega)) (fun h1 => ?_)
  refine wi_aload_n (i := 0) (pc' := 8) q281_7 rfl rfl rfl ?_
  refine wi_sval (pc' := 11) q281_8 rfl kx_1358 h ?_
  intro r2 hb3
  refine wi_iload_n (i := 1) (pc' := 12) q281_11 rfl rfl rfl ?_
  refine wi_call (pc' := 15) wk281_12 rfl (cJ_bchar hb3 hj) rfl (Nat.le_of_ble_eq_true rfl) (Nat.le_of_ble_eq_true rfl) (by (try dsimp only); omega) (by (try dsimp only); omega) (wrv_n) ?_
  rintro o9 G9 F9 Y9 ⟨rfl, rfl, rfl, rfl⟩ hle9
  refine wW_r (o := some (.int (zi (t.getD j.toNat 0)))) ⟨q281_15, _, rfl, w_nC9 hz9⟩ rfl (by (try dsimp only); omega) (by (try dsimp only); omega) ?_
  exact ⟨rfl, rfl, rfl, rfl⟩
theorem q367_0 : decode (zbc 367) 0 = .ok (.aload_n 0, 1) := by decide +kernel
theorem q367_1 : decode (zbc 367) 1 = .ok (.invokevirtual 335, 3) := by decide +kernel
theorem wk367_1 : wSC 367 1 282 1 (some "java/lang/String") := wk_V (n' := 0) q367_1 kx_314 kx_315 kx_316 kx_41 kx_317 ⟨by decide, by decide, by decide +kernel⟩ rfl ⟨Nat.le_of_ble_eq_true rfl, Nat.le_of_ble_eq_true rfl⟩
theorem q367_4 : decode (zbc 367) 4 = .ok (.iload_n 3, 1) := by decide +kernel
theorem q367_5 : decode (zbc 367) 5 = .ok (.if_icmp .ne 23, 3) := by decide +kernel
theorem q367_8 : decode (zbc 367) 8 = .ok (.aload_n 0, 1) := by decide +kernel
theorem q367_9 : decode (zbc 367) 9 = .ok (.getfield 9, 3) := by decide +kernel
theorem q367_12 : decode (zbc 367) 12 = .ok (.iconst 0, 1) := by decide +kernel
theorem q367_13 : decode (zbc 367) 13 = .ok (.aload_n 1, 1) := by decide +kernel
theorem q367_14 : decode (zbc 367) 14 = .ok (.iload_n 2, 1) := by decide +kernel
theorem q367_15 : decode (zbc 367) 15 = .ok (.iload_n 3, 1) := by decide +kernel
theorem q367_16 : decode (zbc 367) 16 = .ok (.ishl, 1) := by decide +kernel
theorem q367_17 : decode (zbc 367) 17 = .ok (.aload_n 0, 1) := by decide +kernel
theorem q367_18 : decode (zbc 367) 18 = .ok (.getfield 9, 3) := by decide +kernel
theorem q367_21 : decode (zbc 367) 21 = .ok (.arraylength, 1) := by decide +kernel
theorem q367_22 : decode (zbc 367) 22 = .ok (.invokestatic 212, 3) := by decide +kernel
theorem kx_1232 : Cond.methodLink "java/lang/String" 212 ⟨"java/lang/System", "arraycopy", "(Ljava/lang/Object;ILjava/lang/Object;II)V"⟩ ∈ zTs := z_in (i := 1232) (by decide +kernel) (by decide +kernel)
theorem q367_25 : decode (zbc 367) 25 = .ok (.goto 18, 3) := by decide +kernel
theorem q367_43 : decode (zbc 367) 43 = .ok (.return_, 1) := by decide +kernel
theorem cJ_getB {u : WU} {G F : GM} {Y : DY} {r : Nat} {t : List Int} (h : wStr Y r t) {j m : Nat} (hj : j < Y.2.2) (hsj : Y.2.1 j = (2, m, [])) (hm : m ≤ 1000) {q : Int} (hq : 0 ≤ q ∧ q + t.length ≤ m) : wC u 367 0 0 [.ref r, .ref (1000 + j), .int (zi q), .int (zi 0)] G F Y (fun o G' F' Y' => o = none ∧ G = G' ∧ F = F' ∧ Y' = w_row Y j (w_cpy (wTf t) (Y.1 j) 0 q (t.length : Int))) := by
  refine w_met (L0 := [.ref r, .ref (1000 + j), .int (zi q), .int (zi 0)]) (by decide +kernel) rfl rfl ?_
  have hl9 := h.2.1
  refine wi_aload_n (i := 0) (pc' := 1) q367_0 rfl rfl rfl ?_
  refine wi_call (pc' := 4) wk367_1 rfl (cJ_coder h) rfl (Nat.le_of_ble_eq_true rfl) (Nat.le_of_ble_eq_true rfl) (by (try dsimp only); omega) (by (try dsimp only); omega) (wrv_str h) ?_
  rintro o9 G9 F9 Y9 ⟨rfl, rfl, rfl, rfl⟩ hle9
  refine wi_iload_n (i := 3) (pc' := 5) q367_4 rfl rfl rfl ?_
  refine wi_icmp_ne (t := 28) (pc' := 8) q367_5 (by decide) rfl (by omega) (by omega) (fun h1 => absurd h1 (by omega)) (fun h1 => ?_)
  refine wi_aload_n (i := 0) (pc' := 9) q367_8 rfl rfl rfl ?_
  refine wi_sval (pc' := 12) q367_9 rfl kx_1358 h ?_
  intro r2 hb3
  refine wi_iconst (pc' := 13) q367_12 rfl ?_
  refine wi_aload_n (i := 1) (pc' := 14) q367_13 rfl rfl rfl ?_
  refine wi_iload_n (i := 2) (pc' := 15) q367_14 rfl rfl rfl ?_
  refine wi_iload_n (i := 3) (pc' := 16) q367_15 rfl rfl rfl ?_
  refine wi_ishl (pc' := 17) q367_16 rfl ?_
  rw [show ((zshl q 0) : Int) = q from wsh0 (by omega)]
  refine wi_aload_n (i := 0) (pc' := 18) q367_17 rfl rfl rfl ?_
  refine wi_sval (pc' := 21) q367_18 rfl kx_1358 h ?_
  intro r4 hb5
  refine wi_slen (pc' := 22) q367_21 rfl hb5 ?_
  refine wi_acs (pc' := 25) (i1 := j) (n1 := m) q367_22 rfl kx_1232 (Nat.le_of_ble_eq_true rfl) (Nat.le_of_ble_eq_true rfl) hb3 rfl hj hsj (by omega) (by omega) (by omega) (by omega) (by omega) (by omega) (Nat.le_of_ble_eq_true rfl) ?_
  refine wi_goto (t := 43) q367_25 (by decide) ?_
  refine wW_r (o := none) ⟨q367_43, rfl⟩ rfl (by (try dsimp only); omega) (by (try dsimp only); omega) ?_
  exact ⟨rfl, rfl, rfl, rfl⟩
theorem q363_0 : decode (zbc 363) 0 = .ok (.getstatic 18, 3) := by decide +kernel
theorem q363_3 : decode (zbc 363) 3 = .ok (.ifCond .eq 18, 3) := by decide +kernel
theorem q363_6 : decode (zbc 363) 6 = .ok (.aload_n 0, 1) := by decide +kernel
theorem q363_7 : decode (zbc 363) 7 = .ok (.getfield 22, 3) := by decide +kernel
theorem q363_10 : decode (zbc 363) 10 = .ok (.aload_n 1, 1) := by decide +kernel
theorem q363_11 : decode (zbc 363) 11 = .ok (.invokevirtual 40, 3) := by decide +kernel
theorem kx_1127 : Cond.methodLink "java/lang/AbstractStringBuilder" 40 yJ0_coder_7d493 ∈ zTs := z_in (i := 1127) (by decide +kernel) (by decide +kernel)
theorem wk363_11 : wSC 363 11 282 1 (some "java/lang/String") := wk_V (n' := 0) q363_11 kx_1127 kx_315 kx_316 kx_41 kx_317 ⟨by decide, by decide, by decide +kernel⟩ rfl ⟨Nat.le_of_ble_eq_true rfl, Nat.le_of_ble_eq_true rfl⟩
theorem q363_14 : decode (zbc 363) 14 = .ok (.if_icmp .eq 7, 3) := by decide +kernel
theorem q363_21 : decode (zbc 363) 21 = .ok (.return_, 1) := by decide +kernel
theorem cJ_inf {u : WU} {G F : GM} {Y : DY} {i j m : Nat} {t : List Int} (h : SBx Y i j m t) {r : Nat} {s : List Int} (hr : wStr Y r s) : wC u 363 0 0 [.ref (1000 + i), .ref r] G F Y (wPu G F Y (none)) := by
  refine w_met (L0 := [.ref (1000 + i), .ref r]) (by decide +kernel) rfl rfl ?_
  have h0 := h
  obtain ⟨hi, hj, hij, hsi, hsj, hco, hcn, htm, hm, hby, hch⟩ := h
  refine wi_gsC (pc' := 3) q363_0 rfl kx_1185 ?_
  refine wi_if_eq (t := 21) (pc' := 6) q363_3 (by decide) rfl (by omega) (fun h1 => absurd h1 (by omega)) (fun h1 => ?_)
  refine wi_aload_n (i := 0) (pc' := 7) q363_6 rfl rfl rfl ?_
  refine wi_getI (ci := 10) (j := 1) (C := RJ4) (T := TJ4) (Nf := 4) (pc' := 10) q363_7 rfl rfl inJ4 (by decide) kx_1235 rfl hi hsi rfl ?_
  rw [show (Y).1 i ((1 : Nat) : Int) = 0 from hco]
  refine wi_aload_n (i := 1) (pc' := 11) q363_10 rfl rfl rfl ?_
  refine wi_call (pc' := 14) wk363_11 rfl (cJ_coder hr) rfl (Nat.le_of_ble_eq_true rfl) (Nat.le_of_ble_eq_true rfl) (by (try dsimp only); omega) (by (try dsimp only); omega) (wrv_str hr) ?_
  rintro o9 G9 F9 Y9 ⟨rfl, rfl, rfl, rfl⟩ hle9
  refine wi_icmp_eq (t := 21) (pc' := 17) q363_14 (by decide) rfl (by omega) (by omega) (fun h2 => ?_) (fun h2 => absurd h2 (by omega))
  refine wW_r (o := none) ⟨q363_21, rfl⟩ rfl (by (try dsimp only); omega) (by (try dsimp only); omega) ?_
  exact ⟨rfl, rfl, rfl, rfl⟩
theorem q362_0 : decode (zbc 362) 0 = .ok (.aload_n 0, 1) := by decide +kernel
theorem q362_1 : decode (zbc 362) 1 = .ok (.aload_n 2, 1) := by decide +kernel
theorem q362_2 : decode (zbc 362) 2 = .ok (.invokevirtual 397, 3) := by decide +kernel
theorem kx_1205 : Cond.methodLink "java/lang/AbstractStringBuilder" 397 yJ5_inflateIfNeededFor_a7421 ∈ zTs := z_in (i := 1205) (by decide +kernel) (by decide +kernel)
theorem kx_1450 : Cond.sameMethod "java/lang/AbstractStringBuilder" "java/lang/AbstractStringBuilder" "inflateIfNeededFor" "(Ljava/lang/String;)V" ∈ zTs := z_in (i := 1450) (by decide +kernel) (by decide +kernel)
theorem kx_1207 : Cond.instanceMethod yJ5_inflateIfNeededFor_a7421 ∈ zTs := z_in (i := 1207) (by decide +kernel) (by decide +kernel)
theorem kx_1208 : Cond.code yJ5_inflateIfNeededFor_a7421 cJ5_inflateIfNeededFor_a7421 2 none ∈ zTs := z_in (i := 1208) (by decide +kernel) (by decide +kernel)
theorem wk362_2 : wSC 362 2 363 2 (some "java/lang/StringBuilder") := wk_P (n' := 1) q362_2 kx_1205 kx_1450 kx_1207 (by show yJ5_inflateIfNeededFor_a7421 ∈ wPv; simp [wPv]) kx_55 kx_1208 ⟨by decide, by decide, by decide +kernel⟩ rfl ⟨Nat.le_of_ble_eq_true rfl, Nat.le_of_ble_eq_true rfl⟩
theorem q362_5 : decode (zbc 362) 5 = .ok (.aload_n 2, 1) := by decide +kernel
theorem q362_6 : decode (zbc 362) 6 = .ok (.aload_n 0, 1) := by decide +kernel
theorem q362_7 : decode (zbc 362) 7 = .ok (.getfield 15, 3) := by decide +kernel
theorem q362_10 : decode (zbc 362) 10 = .ok (.iload_n 1, 1) := by decide +kernel
theorem q362_11 : decode (zbc 362) 11 = .ok (.aload_n 0, 1) := by decide +kernel
theorem q362_12 : decode (zbc 362) 12 = .ok (.getfield 22, 3) := by decide +kernel
theorem q362_15 : decode (zbc 362) 15 = .ok (.invokevirtual 399, 3) := by decide +kernel
theorem kx_1228 : Cond.methodLink "java/lang/AbstractStringBuilder" 399 yJ0_getBytes_840e7 ∈ zTs := z_in (i := 1228) (by decide +kernel) (by decide +kernel)
theorem kx_1229 : Cond.instanceMethod yJ0_getBytes_840e7 ∈ zTs := z_in (i := 1229) (by decide +kernel) (by decide +kernel)
theorem kx_1230 : Cond.selects "java/lang/String" yJ0_getBytes_840e7 yJ0_getBytes_840e7 ∈ zTs := z_in (i := 1230) (by decide +kernel) (by decide +kernel)
theorem kx_1231 : Cond.code yJ0_getBytes_840e7 cJ0_getBytes_840e7 4 none ∈ zTs := z_in (i := 1231) (by decide +kernel) (by decide +kernel)
theorem wk362_15 : wSC 362 15 367 4 (some "java/lang/String") := wk_V (n' := 3) q362_15 kx_1228 kx_1229 kx_1230 kx_41 kx_1231 ⟨by decide, by decide, by decide +kernel⟩ rfl ⟨Nat.le_of_ble_eq_true rfl, Nat.le_of_ble_eq_true rfl⟩
theorem q362_18 : decode (zbc 362) 18 = .ok (.return_, 1) := by decide +kernel
theorem cJ_putS {u : WU} {G F : GM} {Y : DY} {i j m : Nat} {t : List Int} (h : SBx Y i j m t) {r : Nat} {s : List Int} (hr : wStr Y r s) {q : Int} (hq : 0 ≤ q ∧ q + s.length ≤ m) : wC u 362 0 0 [.ref (1000 + i), .int (zi q), .ref r] G F Y (fun o G' F' Y' => o = none ∧ G = G' ∧ F = F' ∧ Y' = w_row Y j (w_cpy (wTf s) (Y.1 j) 0 q (s.length : Int))) := by
  refine w_met (L0 := [.ref (1000 + i), .int (zi q), .ref r]) (by decide +kernel) rfl rfl ?_
  have h0 := h
  obtain ⟨hi, hj, hij, hsi, hsj, hco, hcn, htm, hm, hby, hch⟩ := h
  refine wi_aload_n (i := 0) (pc' := 1) q362_0 rfl rfl rfl ?_
  refine wi_aload_n (i := 2) (pc' := 2) q362_1 rfl rfl rfl ?_
  refine wi_call (pc' := 5) wk362_2 rfl (cJ_inf h0 hr) rfl (Nat.le_of_ble_eq_true rfl) (Nat.le_of_ble_eq_true rfl) (by (try dsimp only); omega) (by (try dsimp only); omega) (wrv_sb h0) ?_
  rintro o9 G9 F9 Y9 ⟨rfl, rfl, rfl, rfl⟩ hle9
  refine wi_aload_n (i := 2) (pc' := 6) q362_5 rfl rfl rfl ?_
  refine wi_aload_n (i := 0) (pc' := 7) q362_6 rfl rfl rfl ?_
  refine wi_getR (ci := 10) (j := 0) (C := RJ4) (T := TJ4) (Nf := 4) (pc' := 10) q362_7 rfl rfl inJ4 (by decide) kx_1234 rfl hi hsi rfl ?_
  refine wi_iload_n (i := 1) (pc' := 11) q362_10 rfl rfl rfl ?_
  refine wi_aload_n (i := 0) (pc' := 12) q362_11 rfl rfl rfl ?_
  refine wi_getI (ci := 10) (j := 1) (C := RJ4) (T := TJ4) (Nf := 4) (pc' := 15) q362_12 rfl rfl inJ4 (by decide) kx_1235 rfl hi hsi rfl ?_
  rw [show (Y).1 i ((1 : Nat) : Int) = 0 from hco]
  refine wi_call (pc' := 18) wk362_15 rfl (cJ_getB hr hj hsj hm hq) rfl (Nat.le_of_ble_eq_true rfl) (Nat.le_of_ble_eq_true rfl) (by (try dsimp only); omega) (by (try dsimp only); omega) (wrv_str hr) ?_
  rintro o9 G9 F9 Y9 ⟨rfl, rfl, rfl, rfl⟩ hle9
  refine wW_r (o := none) ⟨q362_18, rfl⟩ rfl (by (try dsimp only); omega) (by (try dsimp only); omega) ?_
  exact ⟨rfl, rfl, rfl, rfl⟩
