/-! The program: calls that only ask (printed by wip/whole/src58.py). -/
/-- a call that answers v or, where c is false, throws k; nothing changes -/
def zPt (N y : Nat) (as : List Value) (c : Prop) (v : Option Value) (k : Nat) (G F : GM) (n : Nat) : Prop :=
  zC N y as G F n (fun o G' F' n' => (c ∧ o = .inl v ∧ G' = G ∧ F' = F ∧ n' = n) ∨ (¬ c ∧ o = .inr k ∧ G' = G ∧ F' = F ∧ n' = n + 1))
theorem zW_cT {N y ip ip' : Nat} {L st : List Value} {G F : GM} {n : Nat} {Q : Zq} {k y2 m e : Nat} {c : Prop} {v : Option Value} {as : List Value} (ht : ztab N y ip = some (.inr (k, y2, m))) (hip : ip + 1 = ip') (hc : zPt N y2 as c v e G F n) (hk : (Nat.ble 2 k && (k != 5)) = true) (ha : (st.take m).reverse = as) (hok : z_okc N (zcl y2) (znl y2) (zc2 y2) k m st = true) (h4 : (k != 4) = true) (hh : zhnd y e = none)
    (k2 : ¬ c → Q (.inr e) G F (n + 1)) (k1 : c → zW N y ip' L (v.toList ++ st.drop m) G F n Q) : zW N y ip L st G F n Q := by
  refine zW_c ht hip hc hk ha hok ?_ ?_
  · rintro v' G' F' n' (⟨h0, h1, rfl, rfl, rfl⟩ | ⟨h0, h1, -⟩)
    · cases h1
      exact k1 h0
    · cases h1
  · rintro ex G' F' n' (⟨h0, h1, -⟩ | ⟨h0, h1, rfl, rfl, rfl⟩)
    · cases h1
    · cases h1
      refine ⟨fun q => ?_, fun z hz => ?_, fun _ => k2 h0⟩
      · rw [q] at h4
        cases h4
      · rw [hh] at hz
        cases hz
/-- a call answers q (a code of its throws, a number) -/
def zQx (F : GM) (n : Nat) (ex : List Nat) (q : Int × Int) (P : GM → Prop) : Zq := fun o G' F' n' => F' = F ∧ P G' ∧ ((q.1 = 0 ∧ o = .inl (some (.int (zi q.2))) ∧ n' = n) ∨ (0 < q.1 ∧ ∃ k, ex[(q.1 - 1).toNat]? = some k ∧ o = .inr k ∧ n' = n + 1))
theorem zqx0 {F G' : GM} {n : Nat} {ex : List Nat} {q : Int × Int} {P : GM → Prop} {u : Int} (hq : q = (0, u)) (hP : P G') : zQx F n ex q P (.inl (some (.int (zi u)))) G' F n := ⟨rfl, hP, Or.inl ⟨by rw [hq], by rw [hq], rfl⟩⟩
theorem zqx1 {F G' : GM} {n k : Nat} {ex : List Nat} {q : Int × Int} {P : GM → Prop} {u : Int} (hq : q = (1, u)) (hk : ex[0]? = some k) (hP : P G') : zQx F n ex q P (.inr k) G' F (n + 1) := ⟨rfl, hP, Or.inr ⟨by rw [hq]; exact (by decide : (0 : Int) < 1), k, by rw [hq]; exact hk, rfl, rfl⟩⟩
theorem zqx2 {F G' : GM} {n k : Nat} {ex : List Nat} {q : Int × Int} {P : GM → Prop} {u : Int} (hq : q = (2, u)) (hk : ex[1]? = some k) (hP : P G') : zQx F n ex q P (.inr k) G' F (n + 1) := ⟨rfl, hP, Or.inr ⟨by rw [hq]; exact (by decide : (0 : Int) < 2), k, by rw [hq]; exact hk, rfl, rfl⟩⟩
theorem zqx3 {F G' : GM} {n k : Nat} {ex : List Nat} {q : Int × Int} {P : GM → Prop} {u : Int} (hq : q = (3, u)) (hk : ex[2]? = some k) (hP : P G') : zQx F n ex q P (.inr k) G' F (n + 1) := ⟨rfl, hP, Or.inr ⟨by rw [hq]; exact (by decide : (0 : Int) < 3), k, by rw [hq]; exact hk, rfl, rfl⟩⟩
/-- only what no answer shows may differ -/
def xQf (G G' : GM) : Prop := ∀ k, (k < 16 ∨ 32 ≤ k) → (k < 201 ∨ 228 ≤ k) → G' k = G k
theorem xQf_r (G : GM) : xQf G G := fun _ _ _ => rfl
theorem RX_0 {G : GM} {s : Int → Int} (h : RX G 0 s) :
  (G 1 0 = s 0 ∧ G 1 1 = s 1 ∧ G 0 4 = s 2 ∧ G 0 5 = s 3 ∧ G 3 0 = s 4 ∧ G 7 0 = s 5) ∧
  (∀ h, 0 ≤ h → h < 24 → G 15 h = s (6 + h)) ∧
  (∀ x y, 0 ≤ x → x < s 0 → 0 ≤ y → y < s 1 → G 2 (12 * y + x) = zgc (s (30 + 12 * y + x))) ∧
  (∀ l, 0 ≤ l → l < s 4 → G 4 l = 12 * s (174 + 5 * l + 1) + s (174 + 5 * l + 0) ∧ G 5 l = s (174 + 5 * l + 2) ∧ G 6 l = s (174 + 5 * l + 4)) ∧
  (∀ l, 0 ≤ l → l < 8 → (zhas (G 3 1) l ↔ l < s 4 ∧ s (174 + 5 * l + 3) = 1)) ∧
  (∀ t, 0 ≤ t → t < s 5 → G 8 t = 12 * s (214 + 7 * t + 1) + s (214 + 7 * t + 0) ∧ G 9 t = s (214 + 7 * t + 2) ∧ G 10 t = s (214 + 7 * t + 6) ∧ G 11 t = s (214 + 7 * t + 3) ∧ G 12 t = s (214 + 7 * t + 4) ∧ G 13 t = s (214 + 7 * t + 5)) := h
theorem cT_hour {N : Nat} {G F : GM} {n : Nat} {h : Int} (hh : zr h) : zC N 266 [.ref 192, .int (zi h)] G F n (fun o G' F' n' => ((0 ≤ h ∧ h ≤ 23) ∧ o = .inl none ∧ G' = G ∧ F' = F ∧ n' = n) ∨ (¬ (0 ≤ h ∧ h ≤ 23) ∧ o = .inr 3 ∧ G' = G ∧ F' = F ∧ n' = n + 1)) := by
  refine zC_i (L0 := [.ref 192, .int (zi h)]) rfl ?_
  refine zs_iload (ip' := 1) rfl rfl rfl ?_
  refine zs_if_lt (t := 5) (ip' := 2) rfl rfl (by omega) ?_ ?_
  · intro h1
    refine zW_5 rfl ?_
    exact Or.inr ⟨by omega, rfl, rfl, rfl, rfl⟩
  · intro h1
    refine zs_iload (ip' := 3) rfl rfl rfl ?_
    refine zs_pushI (ip' := 4) rfl rfl zi_k24 ?_
    refine zs_icmp_lt (t := 10) (ip' := 5) rfl rfl (by omega) (by omega) ?_ ?_
    · intro h4
      refine zW_1 rfl ?_
      exact Or.inl ⟨by omega, rfl, rfl, rfl, rfl⟩
    · intro h4
      refine zW_5 rfl ?_
      exact Or.inr ⟨by omega, rfl, rfl, rfl, rfl⟩
theorem cT_slot {N : Nat} {G F : GM} {n : Nat} {h : Int} (hh : zr h) : zC N 269 [.ref 192, .int (zi h)] G F n (fun o G' F' n' => ((0 ≤ h ∧ h ≤ 1) ∧ o = .inl none ∧ G' = G ∧ F' = F ∧ n' = n) ∨ (¬ (0 ≤ h ∧ h ≤ 1) ∧ o = .inr 3 ∧ G' = G ∧ F' = F ∧ n' = n + 1)) := by
  refine zC_i (L0 := [.ref 192, .int (zi h)]) rfl ?_
  refine zs_iload (ip' := 1) rfl rfl rfl ?_
  refine zs_if_lt (t := 5) (ip' := 2) rfl rfl (by omega) ?_ ?_
  · intro h1
    refine zW_5 rfl ?_
    exact Or.inr ⟨by omega, rfl, rfl, rfl, rfl⟩
  · intro h1
    refine zs_iload (ip' := 3) rfl rfl rfl ?_
    refine zs_pushI (ip' := 4) rfl rfl zi_k2 ?_
    refine zs_icmp_lt (t := 10) (ip' := 5) rfl rfl (by omega) (by omega) ?_ ?_
    · intro h4
      refine zW_1 rfl ?_
      exact Or.inl ⟨by omega, rfl, rfl, rfl, rfl⟩
    · intro h4
      refine zW_5 rfl ?_
      exact Or.inr ⟨by omega, rfl, rfl, rfl, rfl⟩
theorem cT_future {N : Nat} {G F : GM} {n : Nat} {h : Int} (hh : zr h) : zC N 273 [.int (zi h)] G F n (fun o G' F' n' => ((0 ≤ h ∧ h ≤ 300) ∧ o = .inl none ∧ G' = G ∧ F' = F ∧ n' = n) ∨ (¬ (0 ≤ h ∧ h ≤ 300) ∧ o = .inr 1 ∧ G' = G ∧ F' = F ∧ n' = n + 1)) := by
  refine zC_i (L0 := [.int (zi h)]) rfl ?_
  refine zs_iload (ip' := 1) rfl rfl rfl ?_
  refine zs_if_lt (t := 5) (ip' := 2) rfl rfl (by omega) ?_ ?_
  · intro h1
    refine zW_5 rfl ?_
    exact Or.inr ⟨by omega, rfl, rfl, rfl, rfl⟩
  · intro h1
    refine zs_iload (ip' := 3) rfl rfl rfl ?_
    refine zs_pushI (ip' := 4) rfl rfl zi_k300 ?_
    refine zs_icmp_le (t := 10) (ip' := 5) rfl rfl (by omega) (by omega) ?_ ?_
    · intro h4
      refine zW_1 rfl ?_
      exact Or.inl ⟨by omega, rfl, rfl, rfl, rfl⟩
    · intro h4
      refine zW_5 rfl ?_
      exact Or.inr ⟨by omega, rfl, rfl, rfl, rfl⟩
theorem cT_path {N : Nat} {G F : GM} {n : Nat} {h : Int} (hh : zr h) : zC N 272 [.int (zi h)] G F n (fun o G' F' n' => ((h ≠ -1) ∧ o = .inl (some (.int (zi h))) ∧ G' = G ∧ F' = F ∧ n' = n) ∨ (¬ (h ≠ -1) ∧ o = .inr 2 ∧ G' = G ∧ F' = F ∧ n' = n + 1)) := by
  refine zC_i (L0 := [.int (zi h)]) rfl ?_
  refine zs_iload (ip' := 1) rfl rfl rfl ?_
  refine zs_pushI (ip' := 2) rfl rfl zi_km1 ?_
  refine zs_icmp_ne (t := 8) (ip' := 3) rfl rfl (by omega) (by omega) ?_ ?_
  · intro h2
    refine zs_iload (ip' := 9) rfl rfl rfl ?_
    refine zW_0 rfl ?_
    exact Or.inl ⟨by omega, rfl, rfl, rfl, rfl⟩
  · intro h2
    refine zW_5 rfl ?_
    exact Or.inr ⟨by omega, rfl, rfl, rfl, rfl⟩
theorem cT_cell {N : Nat} {G F : GM} {n : Nat} (hN : 229 ≤ N) {s : Int → Int} (hok : mOk s) (hR : RX G 0 s) {x y : Int} (hx : zr x) (hy : zr y) : zC N 265 [.ref 192, .int (zi x), .int (zi y)] G F n (fun o G' F' n' => ((sIn s x y) ∧ o = .inl (some (.int (zi (12 * y + x)))) ∧ G' = G ∧ F' = F ∧ n' = n) ∨ (¬ (sIn s x y) ∧ o = .inr 3 ∧ G' = G ∧ F' = F ∧ n' = n + 1)) := by
  obtain ⟨⟨c0, c1, c2, c3, c4, c5⟩, hf, hg, hl, hb, ht⟩ := RX_0 hR
  obtain ⟨b0, b1, b2, b3, b4, b5, bf, bc, bl, bw⟩ := id hok
  refine zC_i (L0 := [.ref 192, .int (zi x), .int (zi y)]) rfl ?_
  refine zs_aload (ip' := 1) rfl rfl rfl ?_
  refine zs_getR (ip' := 2) rfl rfl (r := 0) (by omega) zsh_192 rfl ?_
  refine zs_getR (ip' := 3) rfl rfl (r := 1) (by omega) zsh_0 rfl ?_
  refine zs_iload (ip' := 4) rfl rfl rfl ?_
  refine zs_iload (ip' := 5) rfl rfl rfl ?_
  refine zW_cP (ip' := 6) rfl rfl (cX_contains (w := 0) hN (by omega) hx hy) rfl rfl (z_ok3 (by omega) zsh_1 rfl rfl rfl) ?_
  refine zs_if_neB (t := 12) (ip' := 7) rfl rfl ?_ ?_
  · intro h6
    have hc : sIn s x y := by
      have q : 0 ≤ x ∧ x < G 1 0 ∧ 0 ≤ y ∧ y < G 1 1 := h6
      exact ⟨by omega, by omega⟩
    refine zs_iload (ip' := 13) rfl rfl rfl ?_
    refine zs_iload (ip' := 14) rfl rfl rfl ?_
    refine zW_cP (ip' := 15) rfl rfl cX_cellAt rfl rfl rfl ?_
    refine zW_0 rfl ?_
    exact Or.inl ⟨hc, rfl, rfl, rfl, rfl⟩
  · intro h6
    have hc : ¬ sIn s x y := fun q => h6 (by
      show 0 ≤ x ∧ x < G 1 0 ∧ 0 ≤ y ∧ y < G 1 1
      have q1 := q.1
      have q2 := q.2
      omega)
    refine zW_5 rfl ?_
    exact Or.inr ⟨hc, rfl, rfl, rfl, rfl⟩
theorem cT_light {N : Nat} {G F : GM} {n : Nat} (hN : 229 ≤ N) {s : Int → Int} (hok : mOk s) (hR : RX G 0 s) {l : Int} (hl0 : zr l) : zC N 267 [.ref 192, .int (zi l)] G F n (fun o G' F' n' => ((0 ≤ l ∧ l ≤ s 4 - 1) ∧ o = .inl none ∧ G' = G ∧ F' = F ∧ n' = n) ∨ (¬ (0 ≤ l ∧ l ≤ s 4 - 1) ∧ o = .inr 3 ∧ G' = G ∧ F' = F ∧ n' = n + 1)) := by
  obtain ⟨⟨c0, c1, c2, c3, c4, c5⟩, hf, hg, hl, hb, ht⟩ := RX_0 hR
  obtain ⟨b0, b1, b2, b3, b4, b5, bf, bc, bl, bw⟩ := id hok
  refine zC_i (L0 := [.ref 192, .int (zi l)]) rfl ?_
  refine zs_aload (ip' := 1) rfl rfl rfl ?_
  refine zs_getR (ip' := 2) rfl rfl (r := 0) (by omega) zsh_192 rfl ?_
  refine zs_getR (ip' := 3) rfl rfl (r := 3) (by omega) zsh_0 rfl ?_
  refine zs_iload (ip' := 4) rfl rfl rfl ?_
  refine zW_cP (ip' := 5) rfl rfl (cX_containsL (w := 0) hN (by omega) hl0) rfl rfl (z_ok3 (by omega) zsh_3 rfl rfl rfl) ?_
  refine zs_if_neB (t := 11) (ip' := 6) rfl rfl ?_ ?_
  · intro h5
    have hc : 0 ≤ l ∧ l ≤ s 4 - 1 := by
      have q : 0 ≤ l ∧ l < G 3 0 := h5
      omega
    refine zW_1 rfl ?_
    exact Or.inl ⟨hc, rfl, rfl, rfl, rfl⟩
  · intro h5
    have hc : ¬ (0 ≤ l ∧ l ≤ s 4 - 1) := fun q => h5 (by
      show 0 ≤ l ∧ l < G 3 0
      omega)
    refine zW_5 rfl ?_
    exact Or.inr ⟨hc, rfl, rfl, rfl, rfl⟩
theorem cT_trav {N : Nat} {G F : GM} {n : Nat} (hN : 229 ≤ N) {s : Int → Int} (hok : mOk s) (hR : RX G 0 s) {t : Int} (ht0 : zr t) : zC N 268 [.ref 192, .int (zi t)] G F n (fun o G' F' n' => ((0 ≤ t ∧ t ≤ s 5 - 1) ∧ o = .inl none ∧ G' = G ∧ F' = F ∧ n' = n) ∨ (¬ (0 ≤ t ∧ t ≤ s 5 - 1) ∧ o = .inr 3 ∧ G' = G ∧ F' = F ∧ n' = n + 1)) := by
  obtain ⟨⟨c0, c1, c2, c3, c4, c5⟩, hf, hg, hl, hb, ht⟩ := RX_0 hR
  obtain ⟨b0, b1, b2, b3, b4, b5, bf, bc, bl, bw⟩ := id hok
  refine zC_i (L0 := [.ref 192, .int (zi t)]) rfl ?_
  refine zs_iload (ip' := 1) rfl rfl rfl ?_
  refine zs_if_lt (t := 8) (ip' := 2) rfl rfl (by omega) ?_ ?_
  · intro h1
    refine zW_5 rfl ?_
    exact Or.inr ⟨by omega, rfl, rfl, rfl, rfl⟩
  · intro h1
    refine zs_iload (ip' := 3) rfl rfl rfl ?_
    refine zs_aload (ip' := 4) rfl rfl rfl ?_
    refine zs_getR (ip' := 5) rfl rfl (r := 0) (by omega) zsh_192 rfl ?_
    refine zs_getR (ip' := 6) rfl rfl (r := 7) (by omega) zsh_0 rfl ?_
    refine zs_getI (ip' := 7) rfl rfl (by omega) zsh_7 rfl (q := 0) rfl ?_
    intro hl6 hu6
    rw [c5] at hl6 hu6 ⊢
    refine zs_icmp_lt (t := 13) (ip' := 8) rfl rfl (by omega) (by omega) ?_ ?_
    · intro h7
      refine zW_1 rfl ?_
      exact Or.inl ⟨by omega, rfl, rfl, rfl, rfl⟩
    · intro h7
      refine zW_5 rfl ?_
      exact Or.inr ⟨by omega, rfl, rfl, rfl, rfl⟩
theorem cT_walk {N : Nat} {G F : GM} {n : Nat} (hN : 229 ≤ N) {s : Int → Int} (hok : mOk s) (hR : RX G 0 s) {t : Int} (ht0 : 0 ≤ t ∧ t ≤ s 5 - 1) : zC N 270 [.ref 192, .int (zi t)] G F n (fun o G' F' n' => ((s (214 + 7 * t + 2) = 0) ∧ o = .inl none ∧ G' = G ∧ F' = F ∧ n' = n) ∨ (¬ (s (214 + 7 * t + 2) = 0) ∧ o = .inr 0 ∧ G' = G ∧ F' = F ∧ n' = n + 1)) := by
  obtain ⟨⟨c0, c1, c2, c3, c4, c5⟩, hf, hg, hl, hb, ht⟩ := RX_0 hR
  obtain ⟨b0, b1, b2, b3, b4, b5, bf, bc, bl, bw⟩ := id hok
  obtain ⟨t8, t9, t10, t11, t12, t13⟩ := ht t ht0.1 (by omega)
  refine zC_i (L0 := [.ref 192, .int (zi t)]) rfl ?_
  refine zs_aload (ip' := 1) rfl rfl rfl ?_
  refine zs_getR (ip' := 2) rfl rfl (r := 0) (by omega) zsh_192 rfl ?_
  refine zs_getR (ip' := 3) rfl rfl (r := 7) (by omega) zsh_0 rfl ?_
  refine zs_getR (ip' := 4) rfl rfl (r := 9) (by omega) zsh_7 rfl ?_
  refine zs_iload (ip' := 5) rfl rfl rfl ?_
  refine zs_iald (ip' := 6) rfl rfl (by omega) zsh_9 (by omega) ?_
  intro hl5 hu5
  rw [t9] at hl5 hu5 ⊢
  refine zs_if_eq (t := 12) (ip' := 7) rfl rfl (by omega) ?_ ?_
  · intro h6
    refine zW_1 rfl ?_
    exact Or.inl ⟨by omega, rfl, rfl, rfl, rfl⟩
  · intro h6
    refine zW_5 rfl ?_
    exact Or.inr ⟨by omega, rfl, rfl, rfl, rfl⟩
theorem cT_succ {N : Nat} {G F : GM} {n : Nat} (hN : 229 ≤ N) {s : Int → Int} (hok : mOk s) (hR : RX G 0 s) {l : Int} (hl0 : 0 ≤ l ∧ l ≤ s 4 - 1) : zC N 271 [.ref 192, .int (zi l)] G F n (fun o G' F' n' => ((¬ s (174 + 5 * l + 4) < 0) ∧ o = .inl (some (.int (zi (s (174 + 5 * l + 4))))) ∧ G' = G ∧ F' = F ∧ n' = n) ∨ (¬ (¬ s (174 + 5 * l + 4) < 0) ∧ o = .inr 2 ∧ G' = G ∧ F' = F ∧ n' = n + 1)) := by
  obtain ⟨⟨c0, c1, c2, c3, c4, c5⟩, hf, hg, hl, hb, ht⟩ := RX_0 hR
  obtain ⟨b0, b1, b2, b3, b4, b5, bf, bc, bl, bw⟩ := id hok
  obtain ⟨l4, l5, l6⟩ := hl l hl0.1 (by omega)
  obtain ⟨-, -, -, -, lb⟩ := bl l hl0.1 (by omega)
  refine zC_i (L0 := [.ref 192, .int (zi l), .null]) rfl ?_
  refine zs_aload (ip' := 1) rfl rfl rfl ?_
  refine zs_getR (ip' := 2) rfl rfl (r := 0) (by omega) zsh_192 rfl ?_
  refine zs_getR (ip' := 3) rfl rfl (r := 3) (by omega) zsh_0 rfl ?_
  refine zs_getR (ip' := 4) rfl rfl (r := 6) (by omega) zsh_3 rfl ?_
  refine zs_iload (ip' := 5) rfl rfl rfl ?_
  refine zs_iald (ip' := 6) rfl rfl (by omega) zsh_6 (by omega) ?_
  intro hl5 hu5
  rw [l6] at hl5 hu5 ⊢
  refine zs_istore2 (ip' := 7) rfl rfl ?_
  refine zs_iload (ip' := 8) rfl rfl rfl ?_
  refine zs_pushI (ip' := 9) rfl rfl zi_km1 ?_
  refine zs_icmp_ne (t := 15) (ip' := 10) rfl rfl (by omega) (by omega) ?_ ?_
  · intro h9
    refine zs_iload (ip' := 16) rfl rfl rfl ?_
    refine zW_0 rfl ?_
    exact Or.inl ⟨by omega, rfl, rfl, rfl, rfl⟩
  · intro h9
    refine zW_5 rfl ?_
    exact Or.inr ⟨by omega, rfl, rfl, rfl, rfl⟩
theorem cQ_isWater {N : Nat} {G F : GM} {n : Nat} (hN : 229 ≤ N) {s : Int → Int} (hok : mOk s) (hR : RX G 0 s) {x y : Int} (hx : zr x) (hy : zr y) : zC N 208 [.ref 192, .int (zi x), .int (zi y)] G F n (zQx F n [3] (q_isWater s x y) (xQf G)) := by
  obtain ⟨⟨c0, c1, c2, c3, c4, c5⟩, hf, hg, hl, hb, ht⟩ := RX_0 hR
  obtain ⟨b0, b1, b2, b3, b4, b5, bf, bc, bl, bw⟩ := id hok
  refine zC_i (L0 := [.ref 192, .int (zi x), .int (zi y)]) rfl ?_
  refine zs_aload (ip' := 1) rfl rfl rfl ?_
  refine zs_getR (ip' := 2) rfl rfl (r := 0) (by omega) zsh_192 rfl ?_
  refine zs_getR (ip' := 3) rfl rfl (r := 1) (by omega) zsh_0 rfl ?_
  refine zs_getR (ip' := 4) rfl rfl (r := 2) (by omega) zsh_1 rfl ?_
  refine zs_aload (ip' := 5) rfl rfl rfl ?_
  refine zs_iload (ip' := 6) rfl rfl rfl ?_
  refine zs_iload (ip' := 7) rfl rfl rfl ?_
  refine zW_cT (ip' := 8) rfl rfl (cT_cell hN hok hR hx hy) rfl rfl (z_ok3 (by omega) zsh_192 rfl rfl rfl) rfl rfl ?_ ?_
  · intro hn7
    exact zqx1 (if_neg hn7) rfl (xQf_r _)
  intro hc7
  obtain ⟨⟨x0, x1⟩, y0, y1⟩ := id hc7
  have hgc := hg x y x0 (by omega) y0 (by omega)
  obtain ⟨g1, g2, g3, g4, g5, g6⟩ := zgc_rng (mOk_g hok (x := x) (y := y) ⟨x0, by omega⟩ ⟨y0, by omega⟩)
  rw [← hgc] at g1 g2 g3 g4 g5 g6
  refine zs_iald (ip' := 9) rfl rfl (by omega) zsh_2 (by omega) ?_
  intro hl8 hu8
  refine zs_if_ne (t := 12) (ip' := 10) rfl rfl (by omega) ?_ ?_
  · intro h9
    refine zs_pushI (ip' := 13) rfl rfl zi_k0 ?_
    refine zW_0b rfl (Or.inl rfl) ?_
    exact zqx0 ((if_pos hc7).trans (by rw [zb_f (by omega)])) (xQf_r _)
  · intro h9
    refine zs_pushI (ip' := 11) rfl rfl zi_k1 ?_
    refine zs_goto (t := 13) rfl ?_
    refine zW_0b rfl (Or.inr rfl) ?_
    exact zqx0 ((if_pos hc7).trans (by rw [zb_t (by omega)])) (xQf_r _)
theorem cQ_isHut {N : Nat} {G F : GM} {n : Nat} (hN : 229 ≤ N) {s : Int → Int} (hok : mOk s) (hR : RX G 0 s) {x y : Int} (hx : zr x) (hy : zr y) : zC N 209 [.ref 192, .int (zi x), .int (zi y)] G F n (zQx F n [3] (q_isHut s x y) (xQf G)) := by
  obtain ⟨⟨c0, c1, c2, c3, c4, c5⟩, hf, hg, hl, hb, ht⟩ := RX_0 hR
  obtain ⟨b0, b1, b2, b3, b4, b5, bf, bc, bl, bw⟩ := id hok
  refine zC_i (L0 := [.ref 192, .int (zi x), .int (zi y)]) rfl ?_
  refine zs_aload (ip' := 1) rfl rfl rfl ?_
  refine zs_getR (ip' := 2) rfl rfl (r := 0) (by omega) zsh_192 rfl ?_
  refine zs_getR (ip' := 3) rfl rfl (r := 1) (by omega) zsh_0 rfl ?_
  refine zs_getR (ip' := 4) rfl rfl (r := 2) (by omega) zsh_1 rfl ?_
  refine zs_aload (ip' := 5) rfl rfl rfl ?_
  refine zs_iload (ip' := 6) rfl rfl rfl ?_
  refine zs_iload (ip' := 7) rfl rfl rfl ?_
  refine zW_cT (ip' := 8) rfl rfl (cT_cell hN hok hR hx hy) rfl rfl (z_ok3 (by omega) zsh_192 rfl rfl rfl) rfl rfl ?_ ?_
  · intro hn7
    exact zqx1 (if_neg hn7) rfl (xQf_r _)
  intro hc7
  obtain ⟨⟨x0, x1⟩, y0, y1⟩ := id hc7
  have hgc := hg x y x0 (by omega) y0 (by omega)
  obtain ⟨g1, g2, g3, g4, g5, g6⟩ := zgc_rng (mOk_g hok (x := x) (y := y) ⟨x0, by omega⟩ ⟨y0, by omega⟩)
  rw [← hgc] at g1 g2 g3 g4 g5 g6
  refine zs_iald (ip' := 9) rfl rfl (by omega) zsh_2 (by omega) ?_
  intro hl8 hu8
  refine zs_pushI (ip' := 10) rfl rfl zi_k11 ?_
  refine zs_icmp_ne (t := 13) (ip' := 11) rfl rfl (by omega) (by omega) ?_ ?_
  · intro h10
    refine zs_pushI (ip' := 14) rfl rfl zi_k0 ?_
    refine zW_0b rfl (Or.inl rfl) ?_
    exact zqx0 ((if_pos hc7).trans (by rw [zb_f (by omega)])) (xQf_r _)
  · intro h10
    refine zs_pushI (ip' := 12) rfl rfl zi_k1 ?_
    refine zs_goto (t := 14) rfl ?_
    refine zW_0b rfl (Or.inr rfl) ?_
    exact zqx0 ((if_pos hc7).trans (by rw [zb_t (by omega)])) (xQf_r _)
theorem cQ_isPlank {N : Nat} {G F : GM} {n : Nat} (hN : 229 ≤ N) {s : Int → Int} (hok : mOk s) (hR : RX G 0 s) {x y : Int} (hx : zr x) (hy : zr y) : zC N 210 [.ref 192, .int (zi x), .int (zi y)] G F n (zQx F n [3] (q_isPlank s x y) (xQf G)) := by
  obtain ⟨⟨c0, c1, c2, c3, c4, c5⟩, hf, hg, hl, hb, ht⟩ := RX_0 hR
  obtain ⟨b0, b1, b2, b3, b4, b5, bf, bc, bl, bw⟩ := id hok
  refine zC_i (L0 := [.ref 192, .int (zi x), .int (zi y)]) rfl ?_
  refine zs_aload (ip' := 1) rfl rfl rfl ?_
  refine zs_getR (ip' := 2) rfl rfl (r := 0) (by omega) zsh_192 rfl ?_
  refine zs_getR (ip' := 3) rfl rfl (r := 1) (by omega) zsh_0 rfl ?_
  refine zs_aload (ip' := 4) rfl rfl rfl ?_
  refine zs_iload (ip' := 5) rfl rfl rfl ?_
  refine zs_iload (ip' := 6) rfl rfl rfl ?_
  refine zW_cT (ip' := 7) rfl rfl (cT_cell hN hok hR hx hy) rfl rfl (z_ok3 (by omega) zsh_192 rfl rfl rfl) rfl rfl ?_ ?_
  · intro hn6
    exact zqx1 (if_neg hn6) rfl (xQf_r _)
  intro hc6
  obtain ⟨⟨x0, x1⟩, y0, y1⟩ := id hc6
  have hgc := hg x y x0 (by omega) y0 (by omega)
  obtain ⟨g1, g2, g3, g4, g5, g6⟩ := zgc_rng (mOk_g hok (x := x) (y := y) ⟨x0, by omega⟩ ⟨y0, by omega⟩)
  rw [← hgc] at g1 g2 g3 g4 g5 g6
  refine zW_cP (ip' := 8) rfl rfl (cX_holdsPlank (w := 0) hN (by omega) (by omega)) rfl rfl (z_ok3 (by omega) zsh_1 rfl rfl rfl) ?_
  refine zW_0b rfl (zb_01 _) ?_
  exact zqx0 ((if_pos hc6).trans (by rw [zb_iff (show 10 < s (30 + 12 * y + x) ↔ 0 < G 2 (12 * y + x) ∧ G 2 (12 * y + x) ≤ 9 from g4.symm)])) (xQf_r _)
theorem cQ_plankStrength {N : Nat} {G F : GM} {n : Nat} (hN : 229 ≤ N) {s : Int → Int} (hok : mOk s) (hR : RX G 0 s) {x y : Int} (hx : zr x) (hy : zr y) : zC N 211 [.ref 192, .int (zi x), .int (zi y)] G F n (zQx F n [3, 2] (q_plankStrength s x y) (xQf G)) := by
  obtain ⟨⟨c0, c1, c2, c3, c4, c5⟩, hf, hg, hl, hb, ht⟩ := RX_0 hR
  obtain ⟨b0, b1, b2, b3, b4, b5, bf, bc, bl, bw⟩ := id hok
  refine zC_i (L0 := [.ref 192, .int (zi x), .int (zi y), .null]) rfl ?_
  refine zs_aload (ip' := 1) rfl rfl rfl ?_
  refine zs_iload (ip' := 2) rfl rfl rfl ?_
  refine zs_iload (ip' := 3) rfl rfl rfl ?_
  refine zW_cT (ip' := 4) rfl rfl (cT_cell hN hok hR hx hy) rfl rfl (z_ok3 (by omega) zsh_192 rfl rfl rfl) rfl rfl ?_ ?_
  · intro hn3
    exact zqx1 (if_neg hn3) rfl (xQf_r _)
  intro hc3
  obtain ⟨⟨x0, x1⟩, y0, y1⟩ := id hc3
  have hgc := hg x y x0 (by omega) y0 (by omega)
  obtain ⟨g1, g2, g3, g4, g5, g6⟩ := zgc_rng (mOk_g hok (x := x) (y := y) ⟨x0, by omega⟩ ⟨y0, by omega⟩)
  rw [← hgc] at g1 g2 g3 g4 g5 g6
  refine zs_istore3 (ip' := 5) rfl rfl ?_
  refine zs_aload (ip' := 6) rfl rfl rfl ?_
  refine zs_getR (ip' := 7) rfl rfl (r := 0) (by omega) zsh_192 rfl ?_
  refine zs_getR (ip' := 8) rfl rfl (r := 1) (by omega) zsh_0 rfl ?_
  refine zs_iload (ip' := 9) rfl rfl rfl ?_
  refine zW_cP (ip' := 10) rfl rfl (cX_holdsPlank (w := 0) hN (by omega) (by omega)) rfl rfl (z_ok3 (by omega) zsh_1 rfl rfl rfl) ?_
  refine zs_if_neB (t := 16) (ip' := 11) rfl rfl ?_ ?_
  · intro h10
    have hp : 10 < s (30 + 12 * y + x) := g4.mp h10
    refine zs_aload (ip' := 17) rfl rfl rfl ?_
    refine zs_getR (ip' := 18) rfl rfl (r := 0) (by omega) zsh_192 rfl ?_
    refine zs_getR (ip' := 19) rfl rfl (r := 1) (by omega) zsh_0 rfl ?_
    refine zs_getR (ip' := 20) rfl rfl (r := 2) (by omega) zsh_1 rfl ?_
    refine zs_iload (ip' := 21) rfl rfl rfl ?_
    refine zs_iald (ip' := 22) rfl rfl (by omega) zsh_2 (by omega) ?_
    intro hl21 hu21
    refine zW_0 rfl ?_
    exact zqx0 ((if_pos hc3).trans ((if_pos hp).trans (by rw [g5 hp]))) (xQf_r _)
  · intro h10
    have hp : ¬ 10 < s (30 + 12 * y + x) := fun q => h10 (g4.mpr q)
    refine zW_5 rfl ?_
    exact zqx2 ((if_pos hc3).trans (if_neg hp)) rfl (xQf_r _)
theorem cQ_fog {N : Nat} {G F : GM} {n : Nat} (hN : 229 ≤ N) {s : Int → Int} (hok : mOk s) (hR : RX G 0 s) {h : Int} (hh : zr h) : zC N 217 [.ref 192, .int (zi h)] G F n (zQx F n [3] (q_fog s h) (xQf G)) := by
  obtain ⟨⟨c0, c1, c2, c3, c4, c5⟩, hf, hg, hl, hb, ht⟩ := RX_0 hR
  obtain ⟨b0, b1, b2, b3, b4, b5, bf, bc, bl, bw⟩ := id hok
  refine zC_i (L0 := [.ref 192, .int (zi h)]) rfl ?_
  refine zs_aload (ip' := 1) rfl rfl rfl ?_
  refine zs_iload (ip' := 2) rfl rfl rfl ?_
  refine zW_cT (ip' := 3) rfl rfl (cT_hour hh) rfl rfl (z_ok3 (by omega) zsh_192 rfl rfl rfl) rfl rfl ?_ ?_
  · intro hn2
    exact zqx1 (if_neg hn2) rfl (xQf_r _)
  intro hc2
  
  refine zs_aload (ip' := 4) rfl rfl rfl ?_
  refine zs_getR (ip' := 5) rfl rfl (r := 0) (by omega) zsh_192 rfl ?_
  refine zs_getR (ip' := 6) rfl rfl (r := 15) (by omega) zsh_0 rfl ?_
  refine zs_iload (ip' := 7) rfl rfl rfl ?_
  refine zs_iald (ip' := 8) rfl rfl (by omega) zsh_15 (by omega) ?_
  intro hl7 hu7
  refine zW_0 rfl ?_
  exact zqx0 ((if_pos hc2).trans (by rw [hf h hc2.1 (by omega)])) (xQf_r _)
theorem cQ_lightColumn {N : Nat} {G F : GM} {n : Nat} (hN : 229 ≤ N) {s : Int → Int} (hok : mOk s) (hR : RX G 0 s) {l : Int} (hl0 : zr l) : zC N 220 [.ref 192, .int (zi l)] G F n (zQx F n [3] (q_light s l 0) (xQf G)) := by
  obtain ⟨⟨c0, c1, c2, c3, c4, c5⟩, hf, hg, hl, hb, ht⟩ := RX_0 hR
  obtain ⟨b0, b1, b2, b3, b4, b5, bf, bc, bl, bw⟩ := id hok
  refine zC_i (L0 := [.ref 192, .int (zi l)]) rfl ?_
  refine zs_aload (ip' := 1) rfl rfl rfl ?_
  refine zs_iload (ip' := 2) rfl rfl rfl ?_
  refine zW_cT (ip' := 3) rfl rfl (cT_light hN hok hR hl0) rfl rfl (z_ok3 (by omega) zsh_192 rfl rfl rfl) rfl rfl ?_ ?_
  · intro hn2
    exact zqx1 (if_neg hn2) rfl (xQf_r _)
  intro hc2
  obtain ⟨l0, l1⟩ := id hc2
  obtain ⟨l4, l5, l6⟩ := hl l l0 (by omega)
  obtain ⟨lx, ly, lbr, ltr, lnx⟩ := bl l l0 (by omega)
  refine zs_aload (ip' := 4) rfl rfl rfl ?_
  refine zs_getR (ip' := 5) rfl rfl (r := 0) (by omega) zsh_192 rfl ?_
  refine zs_getR (ip' := 6) rfl rfl (r := 3) (by omega) zsh_0 rfl ?_
  refine zs_getR (ip' := 7) rfl rfl (r := 4) (by omega) zsh_3 rfl ?_
  refine zs_iload (ip' := 8) rfl rfl rfl ?_
  refine zs_iald (ip' := 9) rfl rfl (by omega) zsh_4 (by omega) ?_
  intro hl8 hu8
  refine zW_cP (ip' := 10) rfl rfl (cX_columnOf (by omega)) rfl rfl rfl ?_
  refine zW_0 rfl ?_
  exact zqx0 ((if_pos hc2).trans (by rw [show G 4 l % 12 = s (174 + 5 * l + 0) by omega])) (xQf_r _)
theorem cQ_lightRow {N : Nat} {G F : GM} {n : Nat} (hN : 229 ≤ N) {s : Int → Int} (hok : mOk s) (hR : RX G 0 s) {l : Int} (hl0 : zr l) : zC N 221 [.ref 192, .int (zi l)] G F n (zQx F n [3] (q_light s l 1) (xQf G)) := by
  obtain ⟨⟨c0, c1, c2, c3, c4, c5⟩, hf, hg, hl, hb, ht⟩ := RX_0 hR
  obtain ⟨b0, b1, b2, b3, b4, b5, bf, bc, bl, bw⟩ := id hok
  refine zC_i (L0 := [.ref 192, .int (zi l)]) rfl ?_
  refine zs_aload (ip' := 1) rfl rfl rfl ?_
  refine zs_iload (ip' := 2) rfl rfl rfl ?_
  refine zW_cT (ip' := 3) rfl rfl (cT_light hN hok hR hl0) rfl rfl (z_ok3 (by omega) zsh_192 rfl rfl rfl) rfl rfl ?_ ?_
  · intro hn2
    exact zqx1 (if_neg hn2) rfl (xQf_r _)
  intro hc2
  obtain ⟨l0, l1⟩ := id hc2
  obtain ⟨l4, l5, l6⟩ := hl l l0 (by omega)
  obtain ⟨lx, ly, lbr, ltr, lnx⟩ := bl l l0 (by omega)
  refine zs_aload (ip' := 4) rfl rfl rfl ?_
  refine zs_getR (ip' := 5) rfl rfl (r := 0) (by omega) zsh_192 rfl ?_
  refine zs_getR (ip' := 6) rfl rfl (r := 3) (by omega) zsh_0 rfl ?_
  refine zs_getR (ip' := 7) rfl rfl (r := 4) (by omega) zsh_3 rfl ?_
  refine zs_iload (ip' := 8) rfl rfl rfl ?_
  refine zs_iald (ip' := 9) rfl rfl (by omega) zsh_4 (by omega) ?_
  intro hl8 hu8
  refine zW_cP (ip' := 10) rfl rfl (cX_rowOf (by omega)) rfl rfl rfl ?_
  refine zW_0 rfl ?_
  exact zqx0 ((if_pos hc2).trans (by rw [show G 4 l / 12 = s (174 + 5 * l + 1) by omega])) (xQf_r _)
theorem cQ_brightness {N : Nat} {G F : GM} {n : Nat} (hN : 229 ≤ N) {s : Int → Int} (hok : mOk s) (hR : RX G 0 s) {l : Int} (hl0 : zr l) : zC N 222 [.ref 192, .int (zi l)] G F n (zQx F n [3] (q_light s l 2) (xQf G)) := by
  obtain ⟨⟨c0, c1, c2, c3, c4, c5⟩, hf, hg, hl, hb, ht⟩ := RX_0 hR
  obtain ⟨b0, b1, b2, b3, b4, b5, bf, bc, bl, bw⟩ := id hok
  refine zC_i (L0 := [.ref 192, .int (zi l)]) rfl ?_
  refine zs_aload (ip' := 1) rfl rfl rfl ?_
  refine zs_iload (ip' := 2) rfl rfl rfl ?_
  refine zW_cT (ip' := 3) rfl rfl (cT_light hN hok hR hl0) rfl rfl (z_ok3 (by omega) zsh_192 rfl rfl rfl) rfl rfl ?_ ?_
  · intro hn2
    exact zqx1 (if_neg hn2) rfl (xQf_r _)
  intro hc2
  obtain ⟨l0, l1⟩ := id hc2
  obtain ⟨l4, l5, l6⟩ := hl l l0 (by omega)
  obtain ⟨lx, ly, lbr, ltr, lnx⟩ := bl l l0 (by omega)
  refine zs_aload (ip' := 4) rfl rfl rfl ?_
  refine zs_getR (ip' := 5) rfl rfl (r := 0) (by omega) zsh_192 rfl ?_
  refine zs_getR (ip' := 6) rfl rfl (r := 3) (by omega) zsh_0 rfl ?_
  refine zs_getR (ip' := 7) rfl rfl (r := 5) (by omega) zsh_3 rfl ?_
  refine zs_iload (ip' := 8) rfl rfl rfl ?_
  refine zs_iald (ip' := 9) rfl rfl (by omega) zsh_5 (by omega) ?_
  intro hl8 hu8
  refine zW_0 rfl ?_
  exact zqx0 ((if_pos hc2).trans (by rw [l5])) (xQf_r _)
theorem cQ_isTrueLight {N : Nat} {G F : GM} {n : Nat} (hN : 229 ≤ N) {s : Int → Int} (hok : mOk s) (hR : RX G 0 s) {l : Int} (hl0 : zr l) : zC N 223 [.ref 192, .int (zi l)] G F n (zQx F n [3] (q_isTrueLight s l) (xQf G)) := by
  obtain ⟨⟨c0, c1, c2, c3, c4, c5⟩, hf, hg, hl, hb, ht⟩ := RX_0 hR
  obtain ⟨b0, b1, b2, b3, b4, b5, bf, bc, bl, bw⟩ := id hok
  refine zC_i (L0 := [.ref 192, .int (zi l)]) rfl ?_
  refine zs_aload (ip' := 1) rfl rfl rfl ?_
  refine zs_iload (ip' := 2) rfl rfl rfl ?_
  refine zW_cT (ip' := 3) rfl rfl (cT_light hN hok hR hl0) rfl rfl (z_ok3 (by omega) zsh_192 rfl rfl rfl) rfl rfl ?_ ?_
  · intro hn2
    exact zqx1 (if_neg hn2) rfl (xQf_r _)
  intro hc2
  obtain ⟨l0, l1⟩ := id hc2
  obtain ⟨l4, l5, l6⟩ := hl l l0 (by omega)
  obtain ⟨lx, ly, lbr, ltr, lnx⟩ := bl l l0 (by omega)
  refine zs_aload (ip' := 4) rfl rfl rfl ?_
  refine zs_getR (ip' := 5) rfl rfl (r := 0) (by omega) zsh_192 rfl ?_
  refine zs_getR (ip' := 6) rfl rfl (r := 3) (by omega) zsh_0 rfl ?_
  refine zs_getI (ip' := 7) rfl rfl (by omega) zsh_3 rfl (q := 1) rfl ?_
  intro hl6 hu6
  refine zs_iload (ip' := 8) rfl rfl rfl ?_
  refine zW_cP (ip' := 9) rfl rfl cX_holds rfl rfl rfl ?_
  refine zW_0b rfl (zb_01 _) ?_
  exact zqx0 ((if_pos hc2).trans (by rw [zb_iff (show s (174 + 5 * l + 3) = 1 ↔ zhas (G 3 1) l from ⟨fun q => (hb l l0 (by omega)).mpr ⟨by omega, q⟩, fun q => ((hb l l0 (by omega)).mp q).2⟩)])) (xQf_r _)
theorem cQ_hasSuccessor {N : Nat} {G F : GM} {n : Nat} (hN : 229 ≤ N) {s : Int → Int} (hok : mOk s) (hR : RX G 0 s) {l : Int} (hl0 : zr l) : zC N 224 [.ref 192, .int (zi l)] G F n (zQx F n [3] (q_hasSuccessor s l) (xQf G)) := by
  obtain ⟨⟨c0, c1, c2, c3, c4, c5⟩, hf, hg, hl, hb, ht⟩ := RX_0 hR
  obtain ⟨b0, b1, b2, b3, b4, b5, bf, bc, bl, bw⟩ := id hok
  refine zC_i (L0 := [.ref 192, .int (zi l)]) rfl ?_
  refine zs_aload (ip' := 1) rfl rfl rfl ?_
  refine zs_iload (ip' := 2) rfl rfl rfl ?_
  refine zW_cT (ip' := 3) rfl rfl (cT_light hN hok hR hl0) rfl rfl (z_ok3 (by omega) zsh_192 rfl rfl rfl) rfl rfl ?_ ?_
  · intro hn2
    exact zqx1 (if_neg hn2) rfl (xQf_r _)
  intro hc2
  obtain ⟨l0, l1⟩ := id hc2
  obtain ⟨l4, l5, l6⟩ := hl l l0 (by omega)
  obtain ⟨lx, ly, lbr, ltr, lnx⟩ := bl l l0 (by omega)
  refine zs_aload (ip' := 4) rfl rfl rfl ?_
  refine zs_getR (ip' := 5) rfl rfl (r := 0) (by omega) zsh_192 rfl ?_
  refine zs_getR (ip' := 6) rfl rfl (r := 3) (by omega) zsh_0 rfl ?_
  refine zs_getR (ip' := 7) rfl rfl (r := 6) (by omega) zsh_3 rfl ?_
  refine zs_iload (ip' := 8) rfl rfl rfl ?_
  refine zs_iald (ip' := 9) rfl rfl (by omega) zsh_6 (by omega) ?_
  intro hl8 hu8
  refine zs_pushI (ip' := 10) rfl rfl zi_km1 ?_
  refine zs_icmp_eq (t := 13) (ip' := 11) rfl rfl (by omega) (by omega) ?_ ?_
  · intro h10
    refine zs_pushI (ip' := 14) rfl rfl zi_k0 ?_
    refine zW_0b rfl (Or.inl rfl) ?_
    exact zqx0 ((if_pos hc2).trans (by rw [zb_f (by omega)])) (xQf_r _)
  · intro h10
    refine zs_pushI (ip' := 12) rfl rfl zi_k1 ?_
    refine zs_goto (t := 14) rfl ?_
    refine zW_0b rfl (Or.inr rfl) ?_
    exact zqx0 ((if_pos hc2).trans (by rw [zb_t (by omega)])) (xQf_r _)
theorem cQ_successor {N : Nat} {G F : GM} {n : Nat} (hN : 229 ≤ N) {s : Int → Int} (hok : mOk s) (hR : RX G 0 s) {l : Int} (hl0 : zr l) : zC N 225 [.ref 192, .int (zi l)] G F n (zQx F n [3, 2] (q_successor s l) (xQf G)) := by
  obtain ⟨⟨c0, c1, c2, c3, c4, c5⟩, hf, hg, hl, hb, ht⟩ := RX_0 hR
  obtain ⟨b0, b1, b2, b3, b4, b5, bf, bc, bl, bw⟩ := id hok
  refine zC_i (L0 := [.ref 192, .int (zi l)]) rfl ?_
  refine zs_aload (ip' := 1) rfl rfl rfl ?_
  refine zs_iload (ip' := 2) rfl rfl rfl ?_
  refine zW_cT (ip' := 3) rfl rfl (cT_light hN hok hR hl0) rfl rfl (z_ok3 (by omega) zsh_192 rfl rfl rfl) rfl rfl ?_ ?_
  · intro hn2
    exact zqx1 (if_neg hn2) rfl (xQf_r _)
  intro hc2
  obtain ⟨l0, l1⟩ := id hc2
  obtain ⟨l4, l5, l6⟩ := hl l l0 (by omega)
  obtain ⟨lx, ly, lbr, ltr, lnx⟩ := bl l l0 (by omega)
  refine zs_aload (ip' := 4) rfl rfl rfl ?_
  refine zs_iload (ip' := 5) rfl rfl rfl ?_
  refine zW_cT (ip' := 6) rfl rfl (cT_succ hN hok hR hc2) rfl rfl (z_ok3 (by omega) zsh_192 rfl rfl rfl) rfl rfl ?_ ?_
  · intro hn5
    exact zqx2 ((if_pos hc2).trans (if_pos (by omega))) rfl (xQf_r _)
  intro hc5
  refine zW_0 rfl ?_
  exact zqx0 ((if_pos hc2).trans (if_neg hc5)) (xQf_r _)
theorem cQ_followers {N : Nat} {G F : GM} {n : Nat} (hN : 229 ≤ N) {s : Int → Int} (hok : mOk s) (hR : RX G 0 s) {l : Int} (hl0 : zr l) : zC N 226 [.ref 192, .int (zi l)] G F n (zQx F n [3] (q_followers s l) (xQf G)) := by
  obtain ⟨⟨c0, c1, c2, c3, c4, c5⟩, hf, hg, hl, hb, ht⟩ := RX_0 hR
  obtain ⟨b0, b1, b2, b3, b4, b5, bf, bc, bl, bw⟩ := id hok
  refine zC_i (L0 := [.ref 192, .int (zi l)]) rfl ?_
  refine zs_aload (ip' := 1) rfl rfl rfl ?_
  refine zs_iload (ip' := 2) rfl rfl rfl ?_
  refine zW_cT (ip' := 3) rfl rfl (cT_light hN hok hR hl0) rfl rfl (z_ok3 (by omega) zsh_192 rfl rfl rfl) rfl rfl ?_ ?_
  · intro hn2
    exact zqx1 (if_neg hn2) rfl (xQf_r _)
  intro hc2
  obtain ⟨l0, l1⟩ := id hc2
  obtain ⟨l4, l5, l6⟩ := hl l l0 (by omega)
  obtain ⟨lx, ly, lbr, ltr, lnx⟩ := bl l l0 (by omega)
  refine zs_aload (ip' := 4) rfl rfl rfl ?_
  refine zs_getR (ip' := 5) rfl rfl (r := 0) (by omega) zsh_192 rfl ?_
  refine zs_getR (ip' := 6) rfl rfl (r := 7) (by omega) zsh_0 rfl ?_
  refine zs_iload (ip' := 7) rfl rfl rfl ?_
  refine zW_cP (ip' := 8) rfl rfl (cR_follow hN (by omega) hok hR hl0) rfl rfl (z_ok3 (by omega) zsh_7 rfl rfl rfl) ?_
  refine zW_0 rfl ?_
  exact zqx0 (if_pos hc2) (xQf_r _)
theorem cQ_leadsAstray {N : Nat} {G F : GM} {n : Nat} (hN : 229 ≤ N) {s : Int → Int} (hok : mOk s) (hR : RX G 0 s) {l : Int} (hl0 : zr l) : zC N 227 [.ref 192, .int (zi l)] G F n (zQx F n [3] (q_leadsAstray s l) (xQf G)) := by
  obtain ⟨⟨c0, c1, c2, c3, c4, c5⟩, hf, hg, hl, hb, ht⟩ := RX_0 hR
  obtain ⟨b0, b1, b2, b3, b4, b5, bf, bc, bl, bw⟩ := id hok
  refine zC_i (L0 := [.ref 192, .int (zi l)]) rfl ?_
  refine zs_aload (ip' := 1) rfl rfl rfl ?_
  refine zs_iload (ip' := 2) rfl rfl rfl ?_
  refine zW_cT (ip' := 3) rfl rfl (cT_light hN hok hR hl0) rfl rfl (z_ok3 (by omega) zsh_192 rfl rfl rfl) rfl rfl ?_ ?_
  · intro hn2
    exact zqx1 (if_neg hn2) rfl (xQf_r _)
  intro hc2
  obtain ⟨l0, l1⟩ := id hc2
  obtain ⟨l4, l5, l6⟩ := hl l l0 (by omega)
  obtain ⟨lx, ly, lbr, ltr, lnx⟩ := bl l l0 (by omega)
  refine zs_aload (ip' := 4) rfl rfl rfl ?_
  refine zs_getR (ip' := 5) rfl rfl (r := 0) (by omega) zsh_192 rfl ?_
  refine zs_getR (ip' := 6) rfl rfl (r := 3) (by omega) zsh_0 rfl ?_
  refine zs_iload (ip' := 7) rfl rfl rfl ?_
  refine zW_cP (ip' := 8) rfl rfl (cR_wrong hN (by omega) hok hR (by omega)) rfl rfl (z_ok3 (by omega) zsh_3 rfl rfl rfl) ?_
  have hw := sAst_01 s 9 l 0
  refine zW_0b rfl (by omega) ?_
  exact zqx0 (if_pos hc2) (xQf_r _)
theorem cQ_travellerColumn {N : Nat} {G F : GM} {n : Nat} (hN : 229 ≤ N) {s : Int → Int} (hok : mOk s) (hR : RX G 0 s) {t : Int} (ht0 : zr t) : zC N 229 [.ref 192, .int (zi t)] G F n (zQx F n [3] (q_walker s t 0) (xQf G)) := by
  obtain ⟨⟨c0, c1, c2, c3, c4, c5⟩, hf, hg, hl, hb, ht⟩ := RX_0 hR
  obtain ⟨b0, b1, b2, b3, b4, b5, bf, bc, bl, bw⟩ := id hok
  refine zC_i (L0 := [.ref 192, .int (zi t)]) rfl ?_
  refine zs_aload (ip' := 1) rfl rfl rfl ?_
  refine zs_iload (ip' := 2) rfl rfl rfl ?_
  refine zW_cT (ip' := 3) rfl rfl (cT_trav hN hok hR ht0) rfl rfl (z_ok3 (by omega) zsh_192 rfl rfl rfl) rfl rfl ?_ ?_
  · intro hn2
    exact zqx1 (if_neg hn2) rfl (xQf_r _)
  intro hc2
  obtain ⟨t0, t1⟩ := id hc2
  obtain ⟨t8, t9, t10, t11, t12, t13⟩ := ht t t0 (by omega)
  obtain ⟨wx, wy, wst, wg, wstp⟩ := bw t t0 (by omega)
  refine zs_aload (ip' := 4) rfl rfl rfl ?_
  refine zs_getR (ip' := 5) rfl rfl (r := 0) (by omega) zsh_192 rfl ?_
  refine zs_getR (ip' := 6) rfl rfl (r := 7) (by omega) zsh_0 rfl ?_
  refine zs_getR (ip' := 7) rfl rfl (r := 8) (by omega) zsh_7 rfl ?_
  refine zs_iload (ip' := 8) rfl rfl rfl ?_
  refine zs_iald (ip' := 9) rfl rfl (by omega) zsh_8 (by omega) ?_
  intro hl8 hu8
  refine zW_cP (ip' := 10) rfl rfl (cX_columnOf (by omega)) rfl rfl rfl ?_
  refine zW_0 rfl ?_
  exact zqx0 ((if_pos hc2).trans (by rw [show G 8 t % 12 = s (214 + 7 * t + 0) by omega])) (xQf_r _)
theorem cQ_travellerRow {N : Nat} {G F : GM} {n : Nat} (hN : 229 ≤ N) {s : Int → Int} (hok : mOk s) (hR : RX G 0 s) {t : Int} (ht0 : zr t) : zC N 230 [.ref 192, .int (zi t)] G F n (zQx F n [3] (q_walker s t 1) (xQf G)) := by
  obtain ⟨⟨c0, c1, c2, c3, c4, c5⟩, hf, hg, hl, hb, ht⟩ := RX_0 hR
  obtain ⟨b0, b1, b2, b3, b4, b5, bf, bc, bl, bw⟩ := id hok
  refine zC_i (L0 := [.ref 192, .int (zi t)]) rfl ?_
  refine zs_aload (ip' := 1) rfl rfl rfl ?_
  refine zs_iload (ip' := 2) rfl rfl rfl ?_
  refine zW_cT (ip' := 3) rfl rfl (cT_trav hN hok hR ht0) rfl rfl (z_ok3 (by omega) zsh_192 rfl rfl rfl) rfl rfl ?_ ?_
  · intro hn2
    exact zqx1 (if_neg hn2) rfl (xQf_r _)
  intro hc2
  obtain ⟨t0, t1⟩ := id hc2
  obtain ⟨t8, t9, t10, t11, t12, t13⟩ := ht t t0 (by omega)
  obtain ⟨wx, wy, wst, wg, wstp⟩ := bw t t0 (by omega)
  refine zs_aload (ip' := 4) rfl rfl rfl ?_
  refine zs_getR (ip' := 5) rfl rfl (r := 0) (by omega) zsh_192 rfl ?_
  refine zs_getR (ip' := 6) rfl rfl (r := 7) (by omega) zsh_0 rfl ?_
  refine zs_getR (ip' := 7) rfl rfl (r := 8) (by omega) zsh_7 rfl ?_
  refine zs_iload (ip' := 8) rfl rfl rfl ?_
  refine zs_iald (ip' := 9) rfl rfl (by omega) zsh_8 (by omega) ?_
  intro hl8 hu8
  refine zW_cP (ip' := 10) rfl rfl (cX_rowOf (by omega)) rfl rfl rfl ?_
  refine zW_0 rfl ?_
  exact zqx0 ((if_pos hc2).trans (by rw [show G 8 t / 12 = s (214 + 7 * t + 1) by omega])) (xQf_r _)
theorem cQ_isWalking {N : Nat} {G F : GM} {n : Nat} (hN : 229 ≤ N) {s : Int → Int} (hok : mOk s) (hR : RX G 0 s) {t : Int} (ht0 : zr t) : zC N 231 [.ref 192, .int (zi t)] G F n (zQx F n [3] (q_state s t 0) (xQf G)) := by
  obtain ⟨⟨c0, c1, c2, c3, c4, c5⟩, hf, hg, hl, hb, ht⟩ := RX_0 hR
  obtain ⟨b0, b1, b2, b3, b4, b5, bf, bc, bl, bw⟩ := id hok
  refine zC_i (L0 := [.ref 192, .int (zi t)]) rfl ?_
  refine zs_aload (ip' := 1) rfl rfl rfl ?_
  refine zs_iload (ip' := 2) rfl rfl rfl ?_
  refine zW_cT (ip' := 3) rfl rfl (cT_trav hN hok hR ht0) rfl rfl (z_ok3 (by omega) zsh_192 rfl rfl rfl) rfl rfl ?_ ?_
  · intro hn2
    exact zqx1 (if_neg hn2) rfl (xQf_r _)
  intro hc2
  obtain ⟨t0, t1⟩ := id hc2
  obtain ⟨t8, t9, t10, t11, t12, t13⟩ := ht t t0 (by omega)
  obtain ⟨wx, wy, wst, wg, wstp⟩ := bw t t0 (by omega)
  refine zs_aload (ip' := 4) rfl rfl rfl ?_
  refine zs_getR (ip' := 5) rfl rfl (r := 0) (by omega) zsh_192 rfl ?_
  refine zs_getR (ip' := 6) rfl rfl (r := 7) (by omega) zsh_0 rfl ?_
  refine zs_getR (ip' := 7) rfl rfl (r := 9) (by omega) zsh_7 rfl ?_
  refine zs_iload (ip' := 8) rfl rfl rfl ?_
  refine zs_iald (ip' := 9) rfl rfl (by omega) zsh_9 (by omega) ?_
  intro hl8 hu8
  refine zs_if_ne (t := 12) (ip' := 10) rfl rfl (by omega) ?_ ?_
  · intro h9
    refine zs_pushI (ip' := 13) rfl rfl zi_k0 ?_
    refine zW_0b rfl (Or.inl rfl) ?_
    exact zqx0 ((if_pos hc2).trans (by rw [zb_f (by omega)])) (xQf_r _)
  · intro h9
    refine zs_pushI (ip' := 11) rfl rfl zi_k1 ?_
    refine zs_goto (t := 13) rfl ?_
    refine zW_0b rfl (Or.inr rfl) ?_
    exact zqx0 ((if_pos hc2).trans (by rw [zb_t (by omega)])) (xQf_r _)
theorem cQ_hasArrived {N : Nat} {G F : GM} {n : Nat} (hN : 229 ≤ N) {s : Int → Int} (hok : mOk s) (hR : RX G 0 s) {t : Int} (ht0 : zr t) : zC N 232 [.ref 192, .int (zi t)] G F n (zQx F n [3] (q_state s t 1) (xQf G)) := by
  obtain ⟨⟨c0, c1, c2, c3, c4, c5⟩, hf, hg, hl, hb, ht⟩ := RX_0 hR
  obtain ⟨b0, b1, b2, b3, b4, b5, bf, bc, bl, bw⟩ := id hok
  refine zC_i (L0 := [.ref 192, .int (zi t)]) rfl ?_
  refine zs_aload (ip' := 1) rfl rfl rfl ?_
  refine zs_iload (ip' := 2) rfl rfl rfl ?_
  refine zW_cT (ip' := 3) rfl rfl (cT_trav hN hok hR ht0) rfl rfl (z_ok3 (by omega) zsh_192 rfl rfl rfl) rfl rfl ?_ ?_
  · intro hn2
    exact zqx1 (if_neg hn2) rfl (xQf_r _)
  intro hc2
  obtain ⟨t0, t1⟩ := id hc2
  obtain ⟨t8, t9, t10, t11, t12, t13⟩ := ht t t0 (by omega)
  obtain ⟨wx, wy, wst, wg, wstp⟩ := bw t t0 (by omega)
  refine zs_aload (ip' := 4) rfl rfl rfl ?_
  refine zs_getR (ip' := 5) rfl rfl (r := 0) (by omega) zsh_192 rfl ?_
  refine zs_getR (ip' := 6) rfl rfl (r := 7) (by omega) zsh_0 rfl ?_
  refine zs_getR (ip' := 7) rfl rfl (r := 9) (by omega) zsh_7 rfl ?_
  refine zs_iload (ip' := 8) rfl rfl rfl ?_
  refine zs_iald (ip' := 9) rfl rfl (by omega) zsh_9 (by omega) ?_
  intro hl8 hu8
  refine zs_pushI (ip' := 10) rfl rfl zi_k1 ?_
  refine zs_icmp_ne (t := 13) (ip' := 11) rfl rfl (by omega) (by omega) ?_ ?_
  · intro h10
    refine zs_pushI (ip' := 14) rfl rfl zi_k0 ?_
    refine zW_0b rfl (Or.inl rfl) ?_
    exact zqx0 ((if_pos hc2).trans (by rw [zb_f (by omega)])) (xQf_r _)
  · intro h10
    refine zs_pushI (ip' := 12) rfl rfl zi_k1 ?_
    refine zs_goto (t := 14) rfl ?_
    refine zW_0b rfl (Or.inr rfl) ?_
    exact zqx0 ((if_pos hc2).trans (by rw [zb_t (by omega)])) (xQf_r _)
theorem cQ_hasSunk {N : Nat} {G F : GM} {n : Nat} (hN : 229 ≤ N) {s : Int → Int} (hok : mOk s) (hR : RX G 0 s) {t : Int} (ht0 : zr t) : zC N 233 [.ref 192, .int (zi t)] G F n (zQx F n [3] (q_state s t 2) (xQf G)) := by
  obtain ⟨⟨c0, c1, c2, c3, c4, c5⟩, hf, hg, hl, hb, ht⟩ := RX_0 hR
  obtain ⟨b0, b1, b2, b3, b4, b5, bf, bc, bl, bw⟩ := id hok
  refine zC_i (L0 := [.ref 192, .int (zi t)]) rfl ?_
  refine zs_aload (ip' := 1) rfl rfl rfl ?_
  refine zs_iload (ip' := 2) rfl rfl rfl ?_
  refine zW_cT (ip' := 3) rfl rfl (cT_trav hN hok hR ht0) rfl rfl (z_ok3 (by omega) zsh_192 rfl rfl rfl) rfl rfl ?_ ?_
  · intro hn2
    exact zqx1 (if_neg hn2) rfl (xQf_r _)
  intro hc2
  obtain ⟨t0, t1⟩ := id hc2
  obtain ⟨t8, t9, t10, t11, t12, t13⟩ := ht t t0 (by omega)
  obtain ⟨wx, wy, wst, wg, wstp⟩ := bw t t0 (by omega)
  refine zs_aload (ip' := 4) rfl rfl rfl ?_
  refine zs_getR (ip' := 5) rfl rfl (r := 0) (by omega) zsh_192 rfl ?_
  refine zs_getR (ip' := 6) rfl rfl (r := 7) (by omega) zsh_0 rfl ?_
  refine zs_getR (ip' := 7) rfl rfl (r := 9) (by omega) zsh_7 rfl ?_
  refine zs_iload (ip' := 8) rfl rfl rfl ?_
  refine zs_iald (ip' := 9) rfl rfl (by omega) zsh_9 (by omega) ?_
  intro hl8 hu8
  refine zs_pushI (ip' := 10) rfl rfl zi_k2 ?_
  refine zs_icmp_ne (t := 13) (ip' := 11) rfl rfl (by omega) (by omega) ?_ ?_
  · intro h10
    refine zs_pushI (ip' := 14) rfl rfl zi_k0 ?_
    refine zW_0b rfl (Or.inl rfl) ?_
    exact zqx0 ((if_pos hc2).trans (by rw [zb_f (by omega)])) (xQf_r _)
  · intro h10
    refine zs_pushI (ip' := 12) rfl rfl zi_k1 ?_
    refine zs_goto (t := 14) rfl ?_
    refine zW_0b rfl (Or.inr rfl) ?_
    exact zqx0 ((if_pos hc2).trans (by rw [zb_t (by omega)])) (xQf_r _)
theorem cQ_stepsTaken {N : Nat} {G F : GM} {n : Nat} (hN : 229 ≤ N) {s : Int → Int} (hok : mOk s) (hR : RX G 0 s) {t : Int} (ht0 : zr t) : zC N 234 [.ref 192, .int (zi t)] G F n (zQx F n [3] (q_walker s t 6) (xQf G)) := by
  obtain ⟨⟨c0, c1, c2, c3, c4, c5⟩, hf, hg, hl, hb, ht⟩ := RX_0 hR
  obtain ⟨b0, b1, b2, b3, b4, b5, bf, bc, bl, bw⟩ := id hok
  refine zC_i (L0 := [.ref 192, .int (zi t)]) rfl ?_
  refine zs_aload (ip' := 1) rfl rfl rfl ?_
  refine zs_iload (ip' := 2) rfl rfl rfl ?_
  refine zW_cT (ip' := 3) rfl rfl (cT_trav hN hok hR ht0) rfl rfl (z_ok3 (by omega) zsh_192 rfl rfl rfl) rfl rfl ?_ ?_
  · intro hn2
    exact zqx1 (if_neg hn2) rfl (xQf_r _)
  intro hc2
  obtain ⟨t0, t1⟩ := id hc2
  obtain ⟨t8, t9, t10, t11, t12, t13⟩ := ht t t0 (by omega)
  obtain ⟨wx, wy, wst, wg, wstp⟩ := bw t t0 (by omega)
  refine zs_aload (ip' := 4) rfl rfl rfl ?_
  refine zs_getR (ip' := 5) rfl rfl (r := 0) (by omega) zsh_192 rfl ?_
  refine zs_getR (ip' := 6) rfl rfl (r := 7) (by omega) zsh_0 rfl ?_
  refine zs_getR (ip' := 7) rfl rfl (r := 10) (by omega) zsh_7 rfl ?_
  refine zs_iload (ip' := 8) rfl rfl rfl ?_
  refine zs_iald (ip' := 9) rfl rfl (by omega) zsh_10 (by omega) ?_
  intro hl8 hu8
  refine zW_0 rfl ?_
  exact zqx0 ((if_pos hc2).trans (by rw [t10])) (xQf_r _)
theorem cQ_hasTarget {N : Nat} {G F : GM} {n : Nat} (hN : 229 ≤ N) {s : Int → Int} (hok : mOk s) (hR : RX G 0 s) {t : Int} (ht0 : zr t) : zC N 235 [.ref 192, .int (zi t)] G F n (zQx F n [3] (q_hasTarget s t) (xQf G)) := by
  obtain ⟨⟨c0, c1, c2, c3, c4, c5⟩, hf, hg, hl, hb, ht⟩ := RX_0 hR
  obtain ⟨b0, b1, b2, b3, b4, b5, bf, bc, bl, bw⟩ := id hok
  refine zC_i (L0 := [.ref 192, .int (zi t)]) rfl ?_
  refine zs_aload (ip' := 1) rfl rfl rfl ?_
  refine zs_iload (ip' := 2) rfl rfl rfl ?_
  refine zW_cT (ip' := 3) rfl rfl (cT_trav hN hok hR ht0) rfl rfl (z_ok3 (by omega) zsh_192 rfl rfl rfl) rfl rfl ?_ ?_
  · intro hn2
    exact zqx1 (if_neg hn2) rfl (xQf_r _)
  intro hc2
  obtain ⟨t0, t1⟩ := id hc2
  obtain ⟨t8, t9, t10, t11, t12, t13⟩ := ht t t0 (by omega)
  obtain ⟨wx, wy, wst, wg, wstp⟩ := bw t t0 (by omega)
  refine zs_aload (ip' := 4) rfl rfl rfl ?_
  refine zs_getR (ip' := 5) rfl rfl (r := 0) (by omega) zsh_192 rfl ?_
  refine zs_getR (ip' := 6) rfl rfl (r := 7) (by omega) zsh_0 rfl ?_
  refine zs_getR (ip' := 7) rfl rfl (r := 11) (by omega) zsh_7 rfl ?_
  refine zs_iload (ip' := 8) rfl rfl rfl ?_
  refine zs_iald (ip' := 9) rfl rfl (by omega) zsh_11 (by omega) ?_
  intro hl8 hu8
  refine zs_pushI (ip' := 10) rfl rfl zi_km1 ?_
  refine zs_icmp_eq (t := 13) (ip' := 11) rfl rfl (by omega) (by omega) ?_ ?_
  · intro h10
    refine zs_pushI (ip' := 14) rfl rfl zi_k0 ?_
    refine zW_0b rfl (Or.inl rfl) ?_
    exact zqx0 ((if_pos hc2).trans (by rw [zb_f (by omega)])) (xQf_r _)
  · intro h10
    refine zs_pushI (ip' := 12) rfl rfl zi_k1 ?_
    refine zs_goto (t := 14) rfl ?_
    refine zW_0b rfl (Or.inr rfl) ?_
    exact zqx0 ((if_pos hc2).trans (by rw [zb_t (by omega)])) (xQf_r _)
theorem cQ_target {N : Nat} {G F : GM} {n : Nat} (hN : 229 ≤ N) {s : Int → Int} (hok : mOk s) (hR : RX G 0 s) {t : Int} (ht0 : zr t) : zC N 236 [.ref 192, .int (zi t)] G F n (zQx F n [3, 2] (q_target s t) (xQf G)) := by
  obtain ⟨⟨c0, c1, c2, c3, c4, c5⟩, hf, hg, hl, hb, ht⟩ := RX_0 hR
  obtain ⟨b0, b1, b2, b3, b4, b5, bf, bc, bl, bw⟩ := id hok
  refine zC_i (L0 := [.ref 192, .int (zi t), .null]) rfl ?_
  refine zs_aload (ip' := 1) rfl rfl rfl ?_
  refine zs_iload (ip' := 2) rfl rfl rfl ?_
  refine zW_cT (ip' := 3) rfl rfl (cT_trav hN hok hR ht0) rfl rfl (z_ok3 (by omega) zsh_192 rfl rfl rfl) rfl rfl ?_ ?_
  · intro hn2
    exact zqx1 (if_neg hn2) rfl (xQf_r _)
  intro hc2
  obtain ⟨t0, t1⟩ := id hc2
  obtain ⟨t8, t9, t10, t11, t12, t13⟩ := ht t t0 (by omega)
  obtain ⟨wx, wy, wst, wg, wstp⟩ := bw t t0 (by omega)
  refine zs_aload (ip' := 4) rfl rfl rfl ?_
  refine zs_getR (ip' := 5) rfl rfl (r := 0) (by omega) zsh_192 rfl ?_
  refine zs_getR (ip' := 6) rfl rfl (r := 7) (by omega) zsh_0 rfl ?_
  refine zs_getR (ip' := 7) rfl rfl (r := 11) (by omega) zsh_7 rfl ?_
  refine zs_iload (ip' := 8) rfl rfl rfl ?_
  refine zs_iald (ip' := 9) rfl rfl (by omega) zsh_11 (by omega) ?_
  intro hl8 hu8
  refine zs_istore2 (ip' := 10) rfl rfl ?_
  refine zs_iload (ip' := 11) rfl rfl rfl ?_
  refine zs_pushI (ip' := 12) rfl rfl zi_km1 ?_
  refine zs_icmp_ne (t := 18) (ip' := 13) rfl rfl (by omega) (by omega) ?_ ?_
  · intro h12
    refine zs_iload (ip' := 19) rfl rfl rfl ?_
    refine zW_0 rfl ?_
    exact zqx0 ((if_pos hc2).trans ((if_neg (by omega)).trans (by rw [t11]))) (xQf_r _)
  · intro h12
    refine zW_5 rfl ?_
    exact zqx2 ((if_pos hc2).trans (if_pos (by omega))) rfl (xQf_r _)
theorem cQ_hasPassed {N : Nat} {G F : GM} {n : Nat} (hN : 229 ≤ N) {s : Int → Int} (hok : mOk s) (hR : RX G 0 s) {t : Int} (ht0 : zr t) {l : Int} (hl0 : zr l) : zC N 237 [.ref 192, .int (zi t), .int (zi l)] G F n (zQx F n [3] (q_hasPassed s t l) (xQf G)) := by
  obtain ⟨⟨c0, c1, c2, c3, c4, c5⟩, hf, hg, hl, hb, ht⟩ := RX_0 hR
  obtain ⟨b0, b1, b2, b3, b4, b5, bf, bc, bl, bw⟩ := id hok
  refine zC_i (L0 := [.ref 192, .int (zi t), .int (zi l)]) rfl ?_
  refine zs_aload (ip' := 1) rfl rfl rfl ?_
  refine zs_iload (ip' := 2) rfl rfl rfl ?_
  refine zW_cT (ip' := 3) rfl rfl (cT_trav hN hok hR ht0) rfl rfl (z_ok3 (by omega) zsh_192 rfl rfl rfl) rfl rfl ?_ ?_
  · intro hn2
    exact zqx1 (if_neg (fun q => hn2 q.1)) rfl (xQf_r _)
  intro hc2
  obtain ⟨t0, t1⟩ := id hc2
  obtain ⟨t8, t9, t10, t11, t12, t13⟩ := ht t t0 (by omega)
  obtain ⟨wx, wy, wst, wg, wstp⟩ := bw t t0 (by omega)
  refine zs_aload (ip' := 4) rfl rfl rfl ?_
  refine zs_iload (ip' := 5) rfl rfl rfl ?_
  refine zW_cT (ip' := 6) rfl rfl (cT_light hN hok hR hl0) rfl rfl (z_ok3 (by omega) zsh_192 rfl rfl rfl) rfl rfl ?_ ?_
  · intro hn5
    exact zqx1 (if_neg (fun q => hn5 q.2)) rfl (xQf_r _)
  intro hc5
  obtain ⟨l0, l1⟩ := id hc5
  obtain ⟨l4, l5, l6⟩ := hl l l0 (by omega)
  obtain ⟨lx, ly, lbr, ltr, lnx⟩ := bl l l0 (by omega)
  refine zs_aload (ip' := 7) rfl rfl rfl ?_
  refine zs_getR (ip' := 8) rfl rfl (r := 0) (by omega) zsh_192 rfl ?_
  refine zs_getR (ip' := 9) rfl rfl (r := 7) (by omega) zsh_0 rfl ?_
  refine zs_getR (ip' := 10) rfl rfl (r := 12) (by omega) zsh_7 rfl ?_
  refine zs_iload (ip' := 11) rfl rfl rfl ?_
  refine zs_iald (ip' := 12) rfl rfl (by omega) zsh_12 (by omega) ?_
  intro hl11 hu11
  refine zs_iload (ip' := 13) rfl rfl rfl ?_
  refine zW_cP (ip' := 14) rfl rfl cX_holds rfl rfl rfl ?_
  refine zW_0b rfl (zb_01 _) ?_
  exact zqx0 ((if_pos ⟨hc2, hc5⟩).trans (by rw [t12])) (xQf_r _)
theorem cQ_distrusts {N : Nat} {G F : GM} {n : Nat} (hN : 229 ≤ N) {s : Int → Int} (hok : mOk s) (hR : RX G 0 s) {t : Int} (ht0 : zr t) {l : Int} (hl0 : zr l) : zC N 238 [.ref 192, .int (zi t), .int (zi l)] G F n (zQx F n [3] (q_distrusts s t l) (xQf G)) := by
  obtain ⟨⟨c0, c1, c2, c3, c4, c5⟩, hf, hg, hl, hb, ht⟩ := RX_0 hR
  obtain ⟨b0, b1, b2, b3, b4, b5, bf, bc, bl, bw⟩ := id hok
  refine zC_i (L0 := [.ref 192, .int (zi t), .int (zi l)]) rfl ?_
  refine zs_aload (ip' := 1) rfl rfl rfl ?_
  refine zs_iload (ip' := 2) rfl rfl rfl ?_
  refine zW_cT (ip' := 3) rfl rfl (cT_trav hN hok hR ht0) rfl rfl (z_ok3 (by omega) zsh_192 rfl rfl rfl) rfl rfl ?_ ?_
  · intro hn2
    exact zqx1 (if_neg (fun q => hn2 q.1)) rfl (xQf_r _)
  intro hc2
  obtain ⟨t0, t1⟩ := id hc2
  obtain ⟨t8, t9, t10, t11, t12, t13⟩ := ht t t0 (by omega)
  obtain ⟨wx, wy, wst, wg, wstp⟩ := bw t t0 (by omega)
  refine zs_aload (ip' := 4) rfl rfl rfl ?_
  refine zs_iload (ip' := 5) rfl rfl rfl ?_
  refine zW_cT (ip' := 6) rfl rfl (cT_light hN hok hR hl0) rfl rfl (z_ok3 (by omega) zsh_192 rfl rfl rfl) rfl rfl ?_ ?_
  · intro hn5
    exact zqx1 (if_neg (fun q => hn5 q.2)) rfl (xQf_r _)
  intro hc5
  obtain ⟨l0, l1⟩ := id hc5
  obtain ⟨l4, l5, l6⟩ := hl l l0 (by omega)
  obtain ⟨lx, ly, lbr, ltr, lnx⟩ := bl l l0 (by omega)
  refine zs_aload (ip' := 7) rfl rfl rfl ?_
  refine zs_getR (ip' := 8) rfl rfl (r := 0) (by omega) zsh_192 rfl ?_
  refine zs_getR (ip' := 9) rfl rfl (r := 7) (by omega) zsh_0 rfl ?_
  refine zs_getR (ip' := 10) rfl rfl (r := 13) (by omega) zsh_7 rfl ?_
  refine zs_iload (ip' := 11) rfl rfl rfl ?_
  refine zs_iald (ip' := 12) rfl rfl (by omega) zsh_13 (by omega) ?_
  intro hl11 hu11
  refine zs_iload (ip' := 13) rfl rfl rfl ?_
  refine zW_cP (ip' := 14) rfl rfl cX_holds rfl rfl rfl ?_
  refine zW_0b rfl (zb_01 _) ?_
  exact zqx0 ((if_pos ⟨hc2, hc5⟩).trans (by rw [t13])) (xQf_r _)
theorem cQ_sees {N : Nat} {G F : GM} {n : Nat} (hN : 229 ≤ N) {s : Int → Int} (hok : mOk s) (hR : RX G 0 s) {t : Int} (ht0 : zr t) {l : Int} (hl0 : zr l) : zC N 239 [.ref 192, .int (zi t), .int (zi l)] G F n (zQx F n [3] (q_sees s t l) (xQf G)) := by
  obtain ⟨⟨c0, c1, c2, c3, c4, c5⟩, hf, hg, hl, hb, ht⟩ := RX_0 hR
  obtain ⟨b0, b1, b2, b3, b4, b5, bf, bc, bl, bw⟩ := id hok
  refine zC_i (L0 := [.ref 192, .int (zi t), .int (zi l)]) rfl ?_
  refine zs_aload (ip' := 1) rfl rfl rfl ?_
  refine zs_iload (ip' := 2) rfl rfl rfl ?_
  refine zW_cT (ip' := 3) rfl rfl (cT_trav hN hok hR ht0) rfl rfl (z_ok3 (by omega) zsh_192 rfl rfl rfl) rfl rfl ?_ ?_
  · intro hn2
    exact zqx1 (if_neg (fun q => hn2 q.1)) rfl (xQf_r _)
  intro hc2
  obtain ⟨t0, t1⟩ := id hc2
  obtain ⟨t8, t9, t10, t11, t12, t13⟩ := ht t t0 (by omega)
  obtain ⟨wx, wy, wst, wg, wstp⟩ := bw t t0 (by omega)
  refine zs_aload (ip' := 4) rfl rfl rfl ?_
  refine zs_iload (ip' := 5) rfl rfl rfl ?_
  refine zW_cT (ip' := 6) rfl rfl (cT_light hN hok hR hl0) rfl rfl (z_ok3 (by omega) zsh_192 rfl rfl rfl) rfl rfl ?_ ?_
  · intro hn5
    exact zqx1 (if_neg (fun q => hn5 q.2)) rfl (xQf_r _)
  intro hc5
  obtain ⟨l0, l1⟩ := id hc5
  obtain ⟨l4, l5, l6⟩ := hl l l0 (by omega)
  obtain ⟨lx, ly, lbr, ltr, lnx⟩ := bl l l0 (by omega)
  have hsg := sSight_rng (mOk_sg hok)
  have hfr := sFarL_rng (mOk_wk hok t0 (by omega)) (mOk_lt hok l0 (by omega))
  refine zs_aload (ip' := 7) rfl rfl rfl ?_
  refine zs_getR (ip' := 8) rfl rfl (r := 0) (by omega) zsh_192 rfl ?_
  refine zs_iload (ip' := 9) rfl rfl rfl ?_
  refine zs_iload (ip' := 10) rfl rfl rfl ?_
  refine zW_cP (ip' := 11) rfl rfl (cR_far hN (by omega) hok hR t0 (by omega) l0 (by omega)) rfl rfl (z_ok3 (by omega) zsh_0 rfl rfl rfl) ?_
  refine zs_aload (ip' := 12) rfl rfl rfl ?_
  refine zs_getR (ip' := 13) rfl rfl (r := 0) (by omega) zsh_192 rfl ?_
  refine zW_cP (ip' := 14) rfl rfl (cR_sight hN (by omega) hok hR) rfl rfl (z_ok3 (by omega) zsh_0 rfl rfl rfl) ?_
  refine zs_aload (ip' := 15) rfl rfl rfl ?_
  refine zs_getR (ip' := 16) rfl rfl (r := 0) (by omega) zsh_192 rfl ?_
  refine zs_getR (ip' := 17) rfl rfl (r := 3) (by omega) zsh_0 rfl ?_
  refine zs_getR (ip' := 18) rfl rfl (r := 5) (by omega) zsh_3 rfl ?_
  refine zs_iload (ip' := 19) rfl rfl rfl ?_
  refine zs_iald (ip' := 20) rfl rfl (by omega) zsh_5 (by omega) ?_
  intro hl19 hu19
  rw [l5] at hl19 hu19 ⊢
  refine zs_iadd (ip' := 21) rfl rfl ?_
  refine zs_icmp_gt (t := 24) (ip' := 22) rfl rfl (by omega) (by omega) ?_ ?_
  · intro h21
    refine zs_pushI (ip' := 25) rfl rfl zi_k0 ?_
    refine zW_0b rfl (Or.inl rfl) ?_
    exact zqx0 ((if_pos ⟨hc2, hc5⟩).trans (by rw [zb_f (by show ¬ sFarL s t l ≤ sSight s + s (174 + 5 * l + 2); omega)])) (xQf_r _)
  · intro h21
    refine zs_pushI (ip' := 23) rfl rfl zi_k1 ?_
    refine zs_goto (t := 25) rfl ?_
    refine zW_0b rfl (Or.inr rfl) ?_
    exact zqx0 ((if_pos ⟨hc2, hc5⟩).trans (by rw [zb_t (by show sFarL s t l ≤ sSight s + s (174 + 5 * l + 2); omega)])) (xQf_r _)
theorem cQ_nearestLight {N : Nat} {G F : GM} {n : Nat} (hN : 229 ≤ N) {s : Int → Int} (hok : mOk s) (hR : RX G 0 s) {t : Int} (ht0 : zr t) : zC N 240 [.ref 192, .int (zi t)] G F n (zQx F n [3, 2] (q_nearestLight s t) (xQf G)) := by
  obtain ⟨⟨c0, c1, c2, c3, c4, c5⟩, hf, hg, hl, hb, ht⟩ := RX_0 hR
  obtain ⟨b0, b1, b2, b3, b4, b5, bf, bc, bl, bw⟩ := id hok
  refine zC_i (L0 := [.ref 192, .int (zi t), .null]) rfl ?_
  refine zs_aload (ip' := 1) rfl rfl rfl ?_
  refine zs_iload (ip' := 2) rfl rfl rfl ?_
  refine zW_cT (ip' := 3) rfl rfl (cT_trav hN hok hR ht0) rfl rfl (z_ok3 (by omega) zsh_192 rfl rfl rfl) rfl rfl ?_ ?_
  · intro hn2
    exact zqx1 (if_neg hn2) rfl (xQf_r _)
  intro hc2
  obtain ⟨t0, t1⟩ := id hc2
  obtain ⟨t8, t9, t10, t11, t12, t13⟩ := ht t t0 (by omega)
  obtain ⟨wx, wy, wst, wg, wstp⟩ := bw t t0 (by omega)
  refine zs_aload (ip' := 4) rfl rfl rfl ?_
  refine zs_getR (ip' := 5) rfl rfl (r := 0) (by omega) zsh_192 rfl ?_
  refine zs_iload (ip' := 6) rfl rfl rfl ?_
  refine zW_cP (ip' := 7) rfl rfl (cR_near hN (by omega) hok hR t0 (by omega)) rfl rfl (z_ok3 (by omega) zsh_0 rfl rfl rfl) ?_
  have hnr := sNear_rng s t (s 4).toNat
  refine zs_istore2 (ip' := 8) rfl rfl ?_
  refine zs_iload (ip' := 9) rfl rfl rfl ?_
  refine zs_pushI (ip' := 10) rfl rfl zi_km1 ?_
  refine zs_icmp_ne (t := 16) (ip' := 11) rfl rfl (by omega) (by omega) ?_ ?_
  · intro h10
    refine zs_iload (ip' := 17) rfl rfl rfl ?_
    refine zW_0 rfl ?_
    exact zqx0 ((if_pos hc2).trans (if_neg (by omega))) (xQf_r _)
  · intro h10
    refine zW_5 rfl ?_
    exact zqx2 ((if_pos hc2).trans (if_pos (by omega))) rfl (xQf_r _)
theorem cQ_width {N : Nat} {G F : GM} {n : Nat} (hN : 229 ≤ N) {s : Int → Int} (hok : mOk s) (hR : RX G 0 s) : zPu N 206 [.ref 192] (s 0) G F n := by
  refine zPu_i (L0 := [.ref 192]) rfl ?_
  obtain ⟨⟨c0, c1, c2, c3, c4, c5⟩, hf, hg, hl, hb, ht⟩ := RX_0 hR
  obtain ⟨b0, b1, b2, b3, b4, b5, bf, bc, bl, bw⟩ := id hok
  refine zs_aload (ip' := 1) rfl rfl rfl ?_
  refine zs_getR (ip' := 2) rfl rfl (r := 0) (by omega) zsh_192 rfl ?_
  refine zs_getR (ip' := 3) rfl rfl (r := 1) (by omega) zsh_0 rfl ?_
  refine zs_getI (ip' := 4) rfl rfl (by omega) zsh_1 rfl (q := 0) rfl ?_
  intro hl3 hu3
  refine zW_0 rfl ?_
  exact zfin c0
theorem cQ_height {N : Nat} {G F : GM} {n : Nat} (hN : 229 ≤ N) {s : Int → Int} (hok : mOk s) (hR : RX G 0 s) : zPu N 207 [.ref 192] (s 1) G F n := by
  refine zPu_i (L0 := [.ref 192]) rfl ?_
  obtain ⟨⟨c0, c1, c2, c3, c4, c5⟩, hf, hg, hl, hb, ht⟩ := RX_0 hR
  obtain ⟨b0, b1, b2, b3, b4, b5, bf, bc, bl, bw⟩ := id hok
  refine zs_aload (ip' := 1) rfl rfl rfl ?_
  refine zs_getR (ip' := 2) rfl rfl (r := 0) (by omega) zsh_192 rfl ?_
  refine zs_getR (ip' := 3) rfl rfl (r := 1) (by omega) zsh_0 rfl ?_
  refine zs_getI (ip' := 4) rfl rfl (by omega) zsh_1 rfl (q := 1) rfl ?_
  intro hl3 hu3
  refine zW_0 rfl ?_
  exact zfin c1
theorem cQ_plankCount {N : Nat} {G F : GM} {n : Nat} (hN : 229 ≤ N) {s : Int → Int} (hok : mOk s) (hR : RX G 0 s) : zPu N 212 [.ref 192] (sPlanks s) G F n := by
  refine zPu_i (L0 := [.ref 192]) rfl ?_
  obtain ⟨⟨c0, c1, c2, c3, c4, c5⟩, hf, hg, hl, hb, ht⟩ := RX_0 hR
  obtain ⟨b0, b1, b2, b3, b4, b5, bf, bc, bl, bw⟩ := id hok
  refine zs_aload (ip' := 1) rfl rfl rfl ?_
  refine zs_getR (ip' := 2) rfl rfl (r := 0) (by omega) zsh_192 rfl ?_
  refine zs_getR (ip' := 3) rfl rfl (r := 1) (by omega) zsh_0 rfl ?_
  refine zW_cP (ip' := 4) rfl rfl (cR_planks hN (by omega) hok hR) rfl rfl (z_ok3 (by omega) zsh_1 rfl rfl rfl) ?_
  refine zW_0 rfl ?_
  exact zfin rfl
theorem cQ_time {N : Nat} {G F : GM} {n : Nat} (hN : 229 ≤ N) {s : Int → Int} (hok : mOk s) (hR : RX G 0 s) : zPu N 215 [.ref 192] (s 3) G F n := by
  refine zPu_i (L0 := [.ref 192]) rfl ?_
  obtain ⟨⟨c0, c1, c2, c3, c4, c5⟩, hf, hg, hl, hb, ht⟩ := RX_0 hR
  obtain ⟨b0, b1, b2, b3, b4, b5, bf, bc, bl, bw⟩ := id hok
  refine zs_aload (ip' := 1) rfl rfl rfl ?_
  refine zs_getR (ip' := 2) rfl rfl (r := 0) (by omega) zsh_192 rfl ?_
  refine zs_getI (ip' := 3) rfl rfl (by omega) zsh_0 rfl (q := 5) rfl ?_
  intro hl2 hu2
  refine zW_0 rfl ?_
  exact zfin c3
theorem cQ_clearness {N : Nat} {G F : GM} {n : Nat} (hN : 229 ≤ N) {s : Int → Int} (hok : mOk s) (hR : RX G 0 s) : zPu N 216 [.ref 192] (s 2) G F n := by
  refine zPu_i (L0 := [.ref 192]) rfl ?_
  obtain ⟨⟨c0, c1, c2, c3, c4, c5⟩, hf, hg, hl, hb, ht⟩ := RX_0 hR
  obtain ⟨b0, b1, b2, b3, b4, b5, bf, bc, bl, bw⟩ := id hok
  refine zs_aload (ip' := 1) rfl rfl rfl ?_
  refine zs_getR (ip' := 2) rfl rfl (r := 0) (by omega) zsh_192 rfl ?_
  refine zs_getI (ip' := 3) rfl rfl (by omega) zsh_0 rfl (q := 4) rfl ?_
  intro hl2 hu2
  refine zW_0 rfl ?_
  exact zfin c2
theorem cQ_sight {N : Nat} {G F : GM} {n : Nat} (hN : 229 ≤ N) {s : Int → Int} (hok : mOk s) (hR : RX G 0 s) : zPu N 218 [.ref 192] (sSight s) G F n := by
  refine zPu_i (L0 := [.ref 192]) rfl ?_
  obtain ⟨⟨c0, c1, c2, c3, c4, c5⟩, hf, hg, hl, hb, ht⟩ := RX_0 hR
  obtain ⟨b0, b1, b2, b3, b4, b5, bf, bc, bl, bw⟩ := id hok
  refine zs_aload (ip' := 1) rfl rfl rfl ?_
  refine zs_getR (ip' := 2) rfl rfl (r := 0) (by omega) zsh_192 rfl ?_
  refine zW_cP (ip' := 3) rfl rfl (cR_sight hN (by omega) hok hR) rfl rfl (z_ok3 (by omega) zsh_0 rfl rfl rfl) ?_
  refine zW_0 rfl ?_
  exact zfin rfl
theorem cQ_lightCount {N : Nat} {G F : GM} {n : Nat} (hN : 229 ≤ N) {s : Int → Int} (hok : mOk s) (hR : RX G 0 s) : zPu N 219 [.ref 192] (s 4) G F n := by
  refine zPu_i (L0 := [.ref 192]) rfl ?_
  obtain ⟨⟨c0, c1, c2, c3, c4, c5⟩, hf, hg, hl, hb, ht⟩ := RX_0 hR
  obtain ⟨b0, b1, b2, b3, b4, b5, bf, bc, bl, bw⟩ := id hok
  refine zs_aload (ip' := 1) rfl rfl rfl ?_
  refine zs_getR (ip' := 2) rfl rfl (r := 0) (by omega) zsh_192 rfl ?_
  refine zs_getR (ip' := 3) rfl rfl (r := 3) (by omega) zsh_0 rfl ?_
  refine zs_getI (ip' := 4) rfl rfl (by omega) zsh_3 rfl (q := 0) rfl ?_
  intro hl3 hu3
  refine zW_0 rfl ?_
  exact zfin c4
theorem cQ_travellerCount {N : Nat} {G F : GM} {n : Nat} (hN : 229 ≤ N) {s : Int → Int} (hok : mOk s) (hR : RX G 0 s) : zPu N 228 [.ref 192] (s 5) G F n := by
  refine zPu_i (L0 := [.ref 192]) rfl ?_
  obtain ⟨⟨c0, c1, c2, c3, c4, c5⟩, hf, hg, hl, hb, ht⟩ := RX_0 hR
  obtain ⟨b0, b1, b2, b3, b4, b5, bf, bc, bl, bw⟩ := id hok
  refine zs_aload (ip' := 1) rfl rfl rfl ?_
  refine zs_getR (ip' := 2) rfl rfl (r := 0) (by omega) zsh_192 rfl ?_
  refine zs_getR (ip' := 3) rfl rfl (r := 7) (by omega) zsh_0 rfl ?_
  refine zs_getI (ip' := 4) rfl rfl (by omega) zsh_7 rfl (q := 0) rfl ?_
  intro hl3 hu3
  refine zW_0 rfl ?_
  exact zfin c5
theorem cQ_walkingCount {N : Nat} {G F : GM} {n : Nat} (hN : 229 ≤ N) {s : Int → Int} (hok : mOk s) (hR : RX G 0 s) : zPu N 241 [.ref 192] (sCount s 0) G F n := by
  refine zPu_i (L0 := [.ref 192]) rfl ?_
  obtain ⟨⟨c0, c1, c2, c3, c4, c5⟩, hf, hg, hl, hb, ht⟩ := RX_0 hR
  obtain ⟨b0, b1, b2, b3, b4, b5, bf, bc, bl, bw⟩ := id hok
  refine zs_aload (ip' := 1) rfl rfl rfl ?_
  refine zs_getR (ip' := 2) rfl rfl (r := 0) (by omega) zsh_192 rfl ?_
  refine zs_getR (ip' := 3) rfl rfl (r := 7) (by omega) zsh_0 rfl ?_
  refine zs_pushI (ip' := 4) rfl rfl zi_k0 ?_
  refine zW_cP (ip' := 5) rfl rfl (cR_countIn hN (by omega) hok hR (by omega)) rfl rfl (z_ok3 (by omega) zsh_7 rfl rfl rfl) ?_
  refine zW_0 rfl ?_
  exact zfin rfl
theorem cQ_arrivedCount {N : Nat} {G F : GM} {n : Nat} (hN : 229 ≤ N) {s : Int → Int} (hok : mOk s) (hR : RX G 0 s) : zPu N 242 [.ref 192] (sCount s 1) G F n := by
  refine zPu_i (L0 := [.ref 192]) rfl ?_
  obtain ⟨⟨c0, c1, c2, c3, c4, c5⟩, hf, hg, hl, hb, ht⟩ := RX_0 hR
  obtain ⟨b0, b1, b2, b3, b4, b5, bf, bc, bl, bw⟩ := id hok
  refine zs_aload (ip' := 1) rfl rfl rfl ?_
  refine zs_getR (ip' := 2) rfl rfl (r := 0) (by omega) zsh_192 rfl ?_
  refine zs_getR (ip' := 3) rfl rfl (r := 7) (by omega) zsh_0 rfl ?_
  refine zs_pushI (ip' := 4) rfl rfl zi_k1 ?_
  refine zW_cP (ip' := 5) rfl rfl (cR_countIn hN (by omega) hok hR (by omega)) rfl rfl (z_ok3 (by omega) zsh_7 rfl rfl rfl) ?_
  refine zW_0 rfl ?_
  exact zfin rfl
theorem cQ_sunkCount {N : Nat} {G F : GM} {n : Nat} (hN : 229 ≤ N) {s : Int → Int} (hok : mOk s) (hR : RX G 0 s) : zPu N 243 [.ref 192] (sCount s 2) G F n := by
  refine zPu_i (L0 := [.ref 192]) rfl ?_
  obtain ⟨⟨c0, c1, c2, c3, c4, c5⟩, hf, hg, hl, hb, ht⟩ := RX_0 hR
  obtain ⟨b0, b1, b2, b3, b4, b5, bf, bc, bl, bw⟩ := id hok
  refine zs_aload (ip' := 1) rfl rfl rfl ?_
  refine zs_getR (ip' := 2) rfl rfl (r := 0) (by omega) zsh_192 rfl ?_
  refine zs_getR (ip' := 3) rfl rfl (r := 7) (by omega) zsh_0 rfl ?_
  refine zs_pushI (ip' := 4) rfl rfl zi_k2 ?_
  refine zW_cP (ip' := 5) rfl rfl (cR_countIn hN (by omega) hok hR (by omega)) rfl rfl (z_ok3 (by omega) zsh_7 rfl rfl rfl) ?_
  refine zW_0 rfl ?_
  exact zfin rfl
theorem cQ_hasError {N : Nat} {G F : GM} {n : Nat} (hN : 229 ≤ N) (he : -1 ≤ G 192 10) : zPu N 204 [.ref 192] (zb (0 ≤ G 192 10)) G F n := by
  refine zPu_i (L0 := [.ref 192]) rfl ?_
  refine zs_aload (ip' := 1) rfl rfl rfl ?_
  refine zs_getI (ip' := 2) rfl rfl (by omega) zsh_192 rfl (q := 10) rfl ?_
  intro hl1 hu1
  refine zs_pushI (ip' := 3) rfl rfl zi_km1 ?_
  refine zs_icmp_eq (t := 6) (ip' := 4) rfl rfl (by omega) (by omega) ?_ ?_
  · intro h3
    refine zs_pushI (ip' := 7) rfl rfl zi_k0 ?_
    refine zW_0b rfl (Or.inl rfl) ?_
    exact zfin (zb_f (by omega)).symm
  · intro h3
    refine zs_pushI (ip' := 5) rfl rfl zi_k1 ?_
    refine zs_goto (t := 7) rfl ?_
    refine zW_0b rfl (Or.inr rfl) ?_
    exact zfin (zb_t (by omega)).symm
theorem cQ_errorOffset {N : Nat} {G F : GM} {n : Nat} (hN : 229 ≤ N) (he : -1 ≤ G 192 10) : zC N 205 [.ref 192] G F n (zQx F n [2] (q_errorOffset (G 192 10)) (xQf G)) := by
  refine zC_i (L0 := [.ref 192]) rfl ?_
  refine zs_aload (ip' := 1) rfl rfl rfl ?_
  refine zs_getI (ip' := 2) rfl rfl (by omega) zsh_192 rfl (q := 10) rfl ?_
  intro hl1 hu1
  refine zs_pushI (ip' := 3) rfl rfl zi_km1 ?_
  refine zs_icmp_ne (t := 9) (ip' := 4) rfl rfl (by omega) (by omega) ?_ ?_
  · intro h3
    refine zs_aload (ip' := 10) rfl rfl rfl ?_
    refine zs_getI (ip' := 11) rfl rfl (by omega) zsh_192 rfl (q := 10) rfl ?_
    intro hl10 hu10
    refine zW_0 rfl ?_
    exact zqx0 (if_neg (by omega)) (xQf_r _)
  · intro h3
    refine zW_5 rfl ?_
    exact zqx1 (if_pos (by omega)) rfl (xQf_r _)
theorem cQ_printedByte {N : Nat} {G F : GM} {n : Nat} (hN : 229 ≤ N) (h9 : 0 ≤ G 192 9 ∧ G 192 9 ≤ 156) {c : Int} (hc : zr c) : zC N 264 [.ref 192, .int (zi c)] G F n (zQx F n [3] (q_printedByte (G 228) (G 192 9) c) (xQf G)) := by
  refine zC_i (L0 := [.ref 192, .int (zi c)]) rfl ?_
  refine zs_iload (ip' := 1) rfl rfl rfl ?_
  refine zs_if_lt (t := 6) (ip' := 2) rfl rfl (by omega) ?_ ?_
  · intro h1
    refine zW_5 rfl ?_
    exact zqx1 (if_neg (by omega)) rfl (xQf_r _)
  · intro h1
    refine zs_iload (ip' := 3) rfl rfl rfl ?_
    refine zs_aload (ip' := 4) rfl rfl rfl ?_
    refine zs_getI (ip' := 5) rfl rfl (by omega) zsh_192 rfl (q := 9) rfl ?_
    intro hl4 hu4
    refine zs_icmp_lt (t := 11) (ip' := 6) rfl rfl (by omega) (by omega) ?_ ?_
    · intro h5
      refine zs_aload (ip' := 12) rfl rfl rfl ?_
      refine zs_getR (ip' := 13) rfl rfl (r := 228) (by omega) zsh_192 rfl ?_
      refine zs_iload (ip' := 14) rfl rfl rfl ?_
      refine zs_bald (ip' := 15) rfl rfl (by omega) zsh_228 (by omega) ?_
      intro hl14 hu14
      refine zW_0 rfl ?_
      exact zqx0 (if_pos (by omega)) (xQf_r _)
    · intro h5
      refine zW_5 rfl ?_
      exact zqx1 (if_neg (by omega)) rfl (xQf_r _)
