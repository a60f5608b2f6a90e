/-! The wrappers of the law. -/
/-- what a wrapper of the law answers: a code, and in out what the call answers -/
def zLx (g : Int → Int) (F : GM) (n : Nat) (q : Int × Int) (P : GM → Prop) : Zq := fun o G' F' n' => o = .inl (some (.int (zi q.1))) ∧ P G' ∧ (∀ k, k ≠ 229 → F' k = F k) ∧ (n ≤ n' ∧ n' ≤ n + 1) ∧ (q.1 = 0 → ∃ v, zr v ∧ zi v = zi q.2 ∧ F' 229 0 = g v)
def gI (v : Int) : Int := v
def gB (v : Int) : Int := if v = 0 then 0 else 1
theorem zW_cL {N y ip ip' : Nat} {L st : List Value} {G F : GM} {n : Nat} {k y2 m : Nat} {as : List Value} {g : Int → Int} {q : Int × Int} {P : GM → Prop} {ex : List Nat} (ht : ztab N y ip = some (.inr (k, y2, m))) (hip : ip + 1 = ip') (hc : zC N y2 as G F n (zQx F n ex q P)) (hk : (Nat.ble 2 k && (k != 5)) = true) (ha : (st.take m).reverse = as) (hok : z_okc N (zcl y2) (znl y2) (zc2 y2) k m st = true) (h4 : (k != 4) = true) (hx : ∀ (j k : Nat), ex[j]? = some k → zhnd y k = some (zi ((j : Int) + 1)))
    (k1 : ∀ (G' : GM) (v : Int), P G' → q.1 = 0 → zr v → zi v = zi q.2 → zW N y ip' L (.int (zi v) :: st.drop m) G' F n (zLx g F n q P)) : zW N y ip L st G F n (zLx g F n q P) := by
  refine zW_c ht hip hc hk ha hok ?_ ?_
  · rintro v' G' F' n' ⟨rfl, hP, ⟨h0, h1, rfl⟩ | ⟨h0, j, h1, h2, -⟩⟩
    · cases h1
      have := k1 G' (zi q.2).toInt hP h0 (zr_to _) (zi_of _)
      rw [zi_of] at this
      exact this
    · cases h2
  · rintro e G' F' n' ⟨rfl, hP, ⟨h0, h1, -⟩ | ⟨h0, j, h1, h2, rfl⟩⟩
    · cases h1
    · cases h2
      have hz := hx _ _ h1
      refine ⟨fun h => (by rw [h] at h4; cases h4), fun z hz' => ?_, fun hn => (by rw [hz] at hn; cases hn)⟩
      rw [hz] at hz'
      cases hz'
      have e1 : (((q.1 - 1).toNat : Int) + 1) = q.1 := by omega
      refine ⟨by rw [e1], hP, fun _ _ => rfl, ⟨Nat.le_succ _, Nat.le_refl _⟩, fun h => absurd h (by omega)⟩
theorem zx1 {y a : Nat} (h1 : zhnd y a = some 1) : ∀ (j k : Nat), [a][j]? = some k → zhnd y k = some (zi ((j : Int) + 1)) := by
  intro j k h
  rcases j with _ | j
  · cases h
    rw [h1]
    rfl
  · cases h
theorem zx2 {y a b : Nat} (h1 : zhnd y a = some 1) (h2 : zhnd y b = some 2) : ∀ (j k : Nat), [a, b][j]? = some k → zhnd y k = some (zi ((j : Int) + 1)) := by
  intro j k h
  rcases j with _ | _ | j
  · cases h
    rw [h1]
    rfl
  · cases h
    rw [h2]
    rfl
  · cases h
theorem zx3 {y a b c : Nat} (h1 : zhnd y a = some 1) (h2 : zhnd y b = some 2) (h3 : zhnd y c = some 3) : ∀ (j k : Nat), [a, b, c][j]? = some k → zhnd y k = some (zi ((j : Int) + 1)) := by
  intro j k h
  rcases j with _ | _ | _ | j
  · cases h
    rw [h1]
    rfl
  · cases h
    rw [h2]
    rfl
  · cases h
    rw [h3]
    rfl
  · cases h
theorem cO_append {N : Nat} {G F : GM} {n : Nat} (hN : 241 ≤ N) (hl : 0 ≤ G 197 0 ∧ G 197 0 ≤ 800) {a b c d e : Int} (ha : zr a) (hb : zr b) (hc : zr c) (hd : zr d) (he : zr e) : zC N 286 [.ref 192, .int (zi a), .int (zi b), .int (zi c), .int (zi d), .int (zi e), .ref 229] G F n (zLx gI F n (q_append (G 197 0)) (fun G' => ((q_append (G 197 0)).1 = 0 ∧ xTx G G' ∧ G' 197 0 = G 197 0 + 20 ∧ (∀ j, j < G 197 0 → G' 198 j = G 198 j) ∧ ∀ j, 0 ≤ j → j < 20 → G' 198 (G 197 0 + j) % 256 = sByte a b c d e j ∧ -128 ≤ G' 198 (G 197 0 + j) ∧ G' 198 (G 197 0 + j) ≤ 127) ∨ ((q_append (G 197 0)).1 ≠ 0 ∧ G' = G))) := by
  refine zC_i (L0 := [.ref 192, .int (zi a), .int (zi b), .int (zi c), .int (zi d), .int (zi e), .ref 229, .null]) rfl ?_
  refine zs_aload (ip' := 1) rfl rfl rfl ?_
  refine zs_pushI (ip' := 2) rfl rfl zi_k0 ?_
  refine zs_aload (ip' := 3) rfl rfl rfl ?_
  refine zs_iload (ip' := 4) rfl rfl rfl ?_
  refine zs_iload (ip' := 5) rfl rfl rfl ?_
  refine zs_iload (ip' := 6) rfl rfl rfl ?_
  refine zs_iload (ip' := 7) rfl rfl rfl ?_
  refine zs_iload (ip' := 8) rfl rfl rfl ?_
  refine zW_cL (ip' := 9) rfl rfl (cQ_append (by omega) hl ha hb hc hd he) rfl rfl (z_ok3 (by omega) zsh_192 rfl rfl rfl) rfl (zx1 rfl) ?_
  intro G' v9 hP9 h09 hv9 hz9
  refine zs_i2l (ip' := 10) rfl rfl (by omega) ?_
  refine zs_last (ip' := 11) rfl rfl (by omega) zsh_229 (by omega) (by omega) ?_
  refine zs_goto (t := 15) rfl ?_
  refine zs_pushI (ip' := 16) rfl rfl zi_k0 ?_
  refine zW_0 rfl ?_
  exact ⟨by rw [h09], hP9, fun k hk => zk_ne hk, ⟨Nat.le_refl _, Nat.le_succ _⟩, fun _ => ⟨v9, hv9, hz9, by rw [zk_eq]; exact zp_eq _ _ _⟩⟩
theorem cO_shorten {N : Nat} {G F : GM} {n : Nat} (hN : 241 ≤ N) (hl : 0 ≤ G 197 0 ∧ G 197 0 ≤ 800) {c : Int} (hc : zr c) : zC N 287 [.ref 192, .int (zi c), .ref 229] G F n (zLx gI F n (q_shorten (G 197 0) c) (fun G' => ((q_shorten (G 197 0) c).1 = 0 ∧ G' = zk G 197 (zp (G 197) 0 c)) ∨ ((q_shorten (G 197 0) c).1 ≠ 0 ∧ G' = G))) := by
  refine zC_i (L0 := [.ref 192, .int (zi c), .ref 229, .null]) rfl ?_
  refine zs_aload (ip' := 1) rfl rfl rfl ?_
  refine zs_pushI (ip' := 2) rfl rfl zi_k0 ?_
  refine zs_aload (ip' := 3) rfl rfl rfl ?_
  refine zs_iload (ip' := 4) rfl rfl rfl ?_
  refine zW_cL (ip' := 5) rfl rfl (cQ_shorten (by omega) hl hc) rfl rfl (z_ok3 (by omega) zsh_192 rfl rfl rfl) rfl (zx1 rfl) ?_
  intro G' v9 hP9 h09 hv9 hz9
  refine zs_i2l (ip' := 6) rfl rfl (by omega) ?_
  refine zs_last (ip' := 7) rfl rfl (by omega) zsh_229 (by omega) (by omega) ?_
  refine zs_goto (t := 11) rfl ?_
  refine zs_pushI (ip' := 12) rfl rfl zi_k0 ?_
  refine zW_0 rfl ?_
  exact ⟨by rw [h09], hP9, fun k hk => zk_ne hk, ⟨Nat.le_refl _, Nat.le_succ _⟩, fun _ => ⟨v9, hv9, hz9, by rw [zk_eq]; exact zp_eq _ _ _⟩⟩
theorem cO_load {N : Nat} {G F : GM} {n : Nat} (hN : 241 ≤ N) {T : Int → Int} {m : Int} {D0 : Int → Int} (hB : xBu G T m) (hz : ∀ i, 0 ≤ i → i < 256 → D0 i = 0) {x : zTx} (hx : x = pText T m (0, 0, -1, D0)) : zC N 288 [.ref 192, .ref 229] G F n (zLx gI F n (q_load x) (xLd x G)) := by
  refine zC_i (L0 := [.ref 192, .ref 229, .null]) rfl ?_
  refine zs_aload (ip' := 1) rfl rfl rfl ?_
  refine zs_pushI (ip' := 2) rfl rfl zi_k0 ?_
  refine zs_aload (ip' := 3) rfl rfl rfl ?_
  refine zW_cL (ip' := 4) rfl rfl (cQ_load (by omega) hB hz hx) rfl rfl (z_ok3 (by omega) zsh_192 rfl rfl rfl) rfl (zx1 rfl) ?_
  intro G' v9 hP9 h09 hv9 hz9
  refine zs_i2l (ip' := 5) rfl rfl (by omega) ?_
  refine zs_last (ip' := 6) rfl rfl (by omega) zsh_229 (by omega) (by omega) ?_
  refine zs_goto (t := 10) rfl ?_
  refine zs_pushI (ip' := 11) rfl rfl zi_k0 ?_
  refine zW_0 rfl ?_
  exact ⟨by rw [h09], hP9, fun k hk => zk_ne hk, ⟨Nat.le_refl _, Nat.le_succ _⟩, fun _ => ⟨v9, hv9, hz9, by rw [zk_eq]; exact zp_eq _ _ _⟩⟩
theorem cO_errorOffset {N : Nat} {G F : GM} {n : Nat} (hN : 241 ≤ N) (he : -1 ≤ G 192 10) : zC N 289 [.ref 192, .ref 229] G F n (zLx gI F n (q_errorOffset (G 192 10)) (xQf G)) := by
  refine zC_i (L0 := [.ref 192, .ref 229, .null]) rfl ?_
  refine zs_aload (ip' := 1) rfl rfl rfl ?_
  refine zs_pushI (ip' := 2) rfl rfl zi_k0 ?_
  refine zs_aload (ip' := 3) rfl rfl rfl ?_
  refine zW_cL (ip' := 4) rfl rfl (cQ_errorOffset (by omega) he) rfl rfl (z_ok3 (by omega) zsh_192 rfl rfl rfl) rfl (zx1 rfl) ?_
  intro G' v9 hP9 h09 hv9 hz9
  refine zs_i2l (ip' := 5) rfl rfl (by omega) ?_
  refine zs_last (ip' := 6) rfl rfl (by omega) zsh_229 (by omega) (by omega) ?_
  refine zs_goto (t := 10) rfl ?_
  refine zs_pushI (ip' := 11) rfl rfl zi_k0 ?_
  refine zW_0 rfl ?_
  exact ⟨by rw [h09], hP9, fun k hk => zk_ne hk, ⟨Nat.le_refl _, Nat.le_succ _⟩, fun _ => ⟨v9, hv9, hz9, by rw [zk_eq]; exact zp_eq _ _ _⟩⟩
theorem cO_isWater {N : Nat} {G F : GM} {n : Nat} (hN : 241 ≤ N) {s : Int → Int} (hok : mOk s) (hR : RX G 0 s) {x y : Int} (hx : zr x) (hy : zr y) : zC N 290 [.ref 192, .int (zi x), .int (zi y), .ref 229] G F n (zLx gB F n (q_isWater s x y) (xQf G)) := by
  refine zC_i (L0 := [.ref 192, .int (zi x), .int (zi y), .ref 229, .null]) rfl ?_
  refine zs_aload (ip' := 1) rfl rfl rfl ?_
  refine zs_pushI (ip' := 2) rfl rfl zi_k0 ?_
  refine zs_aload (ip' := 3) rfl rfl rfl ?_
  refine zs_iload (ip' := 4) rfl rfl rfl ?_
  refine zs_iload (ip' := 5) rfl rfl rfl ?_
  refine zW_cL (ip' := 6) rfl rfl (cQ_isWater (by omega) hok hR hx hy) rfl rfl (z_ok3 (by omega) zsh_192 rfl rfl rfl) rfl (zx1 rfl) ?_
  intro G' v9 hP9 h09 hv9 hz9
  refine zs_if_eq (t := 9) (ip' := 7) rfl rfl (by omega) ?_ ?_
  · intro h6
    refine zs_pushJ (ip' := 10) rfl rfl zl_k0 ?_
    refine zs_last (ip' := 11) rfl rfl (by omega) zsh_229 (by omega) (by omega) ?_
    refine zs_goto (t := 15) rfl ?_
    refine zs_pushI (ip' := 16) rfl rfl zi_k0 ?_
    refine zW_0 rfl ?_
    exact ⟨by rw [h09], hP9, fun k hk => zk_ne hk, ⟨Nat.le_refl _, Nat.le_succ _⟩, fun _ => ⟨v9, hv9, hz9, by rw [zk_eq]; exact (zp_eq _ _ _).trans (if_pos h6).symm⟩⟩
  · intro h6
    refine zs_pushJ (ip' := 8) rfl rfl zl_k1 ?_
    refine zs_goto (t := 10) rfl ?_
    refine zs_last (ip' := 11) rfl rfl (by omega) zsh_229 (by omega) (by omega) ?_
    refine zs_goto (t := 15) rfl ?_
    refine zs_pushI (ip' := 16) rfl rfl zi_k0 ?_
    refine zW_0 rfl ?_
    exact ⟨by rw [h09], hP9, fun k hk => zk_ne hk, ⟨Nat.le_refl _, Nat.le_succ _⟩, fun _ => ⟨v9, hv9, hz9, by rw [zk_eq]; exact (zp_eq _ _ _).trans (if_neg h6).symm⟩⟩
theorem cO_isHut {N : Nat} {G F : GM} {n : Nat} (hN : 241 ≤ N) {s : Int → Int} (hok : mOk s) (hR : RX G 0 s) {x y : Int} (hx : zr x) (hy : zr y) : zC N 291 [.ref 192, .int (zi x), .int (zi y), .ref 229] G F n (zLx gB F n (q_isHut s x y) (xQf G)) := by
  refine zC_i (L0 := [.ref 192, .int (zi x), .int (zi y), .ref 229, .null]) rfl ?_
  refine zs_aload (ip' := 1) rfl rfl rfl ?_
  refine zs_pushI (ip' := 2) rfl rfl zi_k0 ?_
  refine zs_aload (ip' := 3) rfl rfl rfl ?_
  refine zs_iload (ip' := 4) rfl rfl rfl ?_
  refine zs_iload (ip' := 5) rfl rfl rfl ?_
  refine zW_cL (ip' := 6) rfl rfl (cQ_isHut (by omega) hok hR hx hy) rfl rfl (z_ok3 (by omega) zsh_192 rfl rfl rfl) rfl (zx1 rfl) ?_
  intro G' v9 hP9 h09 hv9 hz9
  refine zs_if_eq (t := 9) (ip' := 7) rfl rfl (by omega) ?_ ?_
  · intro h6
    refine zs_pushJ (ip' := 10) rfl rfl zl_k0 ?_
    refine zs_last (ip' := 11) rfl rfl (by omega) zsh_229 (by omega) (by omega) ?_
    refine zs_goto (t := 15) rfl ?_
    refine zs_pushI (ip' := 16) rfl rfl zi_k0 ?_
    refine zW_0 rfl ?_
    exact ⟨by rw [h09], hP9, fun k hk => zk_ne hk, ⟨Nat.le_refl _, Nat.le_succ _⟩, fun _ => ⟨v9, hv9, hz9, by rw [zk_eq]; exact (zp_eq _ _ _).trans (if_pos h6).symm⟩⟩
  · intro h6
    refine zs_pushJ (ip' := 8) rfl rfl zl_k1 ?_
    refine zs_goto (t := 10) rfl ?_
    refine zs_last (ip' := 11) rfl rfl (by omega) zsh_229 (by omega) (by omega) ?_
    refine zs_goto (t := 15) rfl ?_
    refine zs_pushI (ip' := 16) rfl rfl zi_k0 ?_
    refine zW_0 rfl ?_
    exact ⟨by rw [h09], hP9, fun k hk => zk_ne hk, ⟨Nat.le_refl _, Nat.le_succ _⟩, fun _ => ⟨v9, hv9, hz9, by rw [zk_eq]; exact (zp_eq _ _ _).trans (if_neg h6).symm⟩⟩
theorem cO_isPlank {N : Nat} {G F : GM} {n : Nat} (hN : 241 ≤ N) {s : Int → Int} (hok : mOk s) (hR : RX G 0 s) {x y : Int} (hx : zr x) (hy : zr y) : zC N 292 [.ref 192, .int (zi x), .int (zi y), .ref 229] G F n (zLx gB F n (q_isPlank s x y) (xQf G)) := by
  refine zC_i (L0 := [.ref 192, .int (zi x), .int (zi y), .ref 229, .null]) rfl ?_
  refine zs_aload (ip' := 1) rfl rfl rfl ?_
  refine zs_pushI (ip' := 2) rfl rfl zi_k0 ?_
  refine zs_aload (ip' := 3) rfl rfl rfl ?_
  refine zs_iload (ip' := 4) rfl rfl rfl ?_
  refine zs_iload (ip' := 5) rfl rfl rfl ?_
  refine zW_cL (ip' := 6) rfl rfl (cQ_isPlank (by omega) hok hR hx hy) rfl rfl (z_ok3 (by omega) zsh_192 rfl rfl rfl) rfl (zx1 rfl) ?_
  intro G' v9 hP9 h09 hv9 hz9
  refine zs_if_eq (t := 9) (ip' := 7) rfl rfl (by omega) ?_ ?_
  · intro h6
    refine zs_pushJ (ip' := 10) rfl rfl zl_k0 ?_
    refine zs_last (ip' := 11) rfl rfl (by omega) zsh_229 (by omega) (by omega) ?_
    refine zs_goto (t := 15) rfl ?_
    refine zs_pushI (ip' := 16) rfl rfl zi_k0 ?_
    refine zW_0 rfl ?_
    exact ⟨by rw [h09], hP9, fun k hk => zk_ne hk, ⟨Nat.le_refl _, Nat.le_succ _⟩, fun _ => ⟨v9, hv9, hz9, by rw [zk_eq]; exact (zp_eq _ _ _).trans (if_pos h6).symm⟩⟩
  · intro h6
    refine zs_pushJ (ip' := 8) rfl rfl zl_k1 ?_
    refine zs_goto (t := 10) rfl ?_
    refine zs_last (ip' := 11) rfl rfl (by omega) zsh_229 (by omega) (by omega) ?_
    refine zs_goto (t := 15) rfl ?_
    refine zs_pushI (ip' := 16) rfl rfl zi_k0 ?_
    refine zW_0 rfl ?_
    exact ⟨by rw [h09], hP9, fun k hk => zk_ne hk, ⟨Nat.le_refl _, Nat.le_succ _⟩, fun _ => ⟨v9, hv9, hz9, by rw [zk_eq]; exact (zp_eq _ _ _).trans (if_neg h6).symm⟩⟩
theorem cO_plankStrength {N : Nat} {G F : GM} {n : Nat} (hN : 241 ≤ N) {s : Int → Int} (hok : mOk s) (hR : RX G 0 s) {x y : Int} (hx : zr x) (hy : zr y) : zC N 293 [.ref 192, .int (zi x), .int (zi y), .ref 229] G F n (zLx gI F n (q_plankStrength s x y) (xQf G)) := by
  refine zC_i (L0 := [.ref 192, .int (zi x), .int (zi y), .ref 229, .null]) rfl ?_
  refine zs_aload (ip' := 1) rfl rfl rfl ?_
  refine zs_pushI (ip' := 2) rfl rfl zi_k0 ?_
  refine zs_aload (ip' := 3) rfl rfl rfl ?_
  refine zs_iload (ip' := 4) rfl rfl rfl ?_
  refine zs_iload (ip' := 5) rfl rfl rfl ?_
  refine zW_cL (ip' := 6) rfl rfl (cQ_plankStrength (by omega) hok hR hx hy) rfl rfl (z_ok3 (by omega) zsh_192 rfl rfl rfl) rfl (zx2 rfl rfl) ?_
  intro G' v9 hP9 h09 hv9 hz9
  refine zs_i2l (ip' := 7) rfl rfl (by omega) ?_
  refine zs_last (ip' := 8) rfl rfl (by omega) zsh_229 (by omega) (by omega) ?_
  refine zs_goto (t := 15) rfl ?_
  refine zs_pushI (ip' := 16) rfl rfl zi_k0 ?_
  refine zW_0 rfl ?_
  exact ⟨by rw [h09], hP9, fun k hk => zk_ne hk, ⟨Nat.le_refl _, Nat.le_succ _⟩, fun _ => ⟨v9, hv9, hz9, by rw [zk_eq]; exact zp_eq _ _ _⟩⟩
theorem cO_pathLength {N : Nat} {G F : GM} {n : Nat} (hN : 241 ≤ N) {s : Int → Int} (hok : mOk s) (hR : RX G 0 s) {x y u v : Int} (hx : zr x) (hy : zr y) (hu : zr u) (hv : zr v) : zC N 294 [.ref 192, .int (zi x), .int (zi y), .int (zi u), .int (zi v), .ref 229] G F n (zLx gI F n (q_path s x y u v) (xQf G)) := by
  refine zC_i (L0 := [.ref 192, .int (zi x), .int (zi y), .int (zi u), .int (zi v), .ref 229, .null]) rfl ?_
  refine zs_aload (ip' := 1) rfl rfl rfl ?_
  refine zs_pushI (ip' := 2) rfl rfl zi_k0 ?_
  refine zs_aload (ip' := 3) rfl rfl rfl ?_
  refine zs_iload (ip' := 4) rfl rfl rfl ?_
  refine zs_iload (ip' := 5) rfl rfl rfl ?_
  refine zs_iload (ip' := 6) rfl rfl rfl ?_
  refine zs_iload (ip' := 7) rfl rfl rfl ?_
  refine zW_cL (ip' := 8) rfl rfl (cQ_pathLength (by omega) hok hR hx hy hu hv) rfl rfl (z_ok3 (by omega) zsh_192 rfl rfl rfl) rfl (zx2 rfl rfl) ?_
  intro G' v9 hP9 h09 hv9 hz9
  refine zs_i2l (ip' := 9) rfl rfl (by omega) ?_
  refine zs_last (ip' := 10) rfl rfl (by omega) zsh_229 (by omega) (by omega) ?_
  refine zs_goto (t := 17) rfl ?_
  refine zs_pushI (ip' := 18) rfl rfl zi_k0 ?_
  refine zW_0 rfl ?_
  exact ⟨by rw [h09], hP9, fun k hk => zk_ne hk, ⟨Nat.le_refl _, Nat.le_succ _⟩, fun _ => ⟨v9, hv9, hz9, by rw [zk_eq]; exact zp_eq _ _ _⟩⟩
theorem cO_stepsToHut {N : Nat} {G F : GM} {n : Nat} (hN : 241 ≤ N) {s : Int → Int} (hok : mOk s) (hR : RX G 0 s) {x y : Int} (hx : zr x) (hy : zr y) : zC N 295 [.ref 192, .int (zi x), .int (zi y), .ref 229] G F n (zLx gI F n (q_hutSteps s x y) (xQf G)) := by
  refine zC_i (L0 := [.ref 192, .int (zi x), .int (zi y), .ref 229, .null]) rfl ?_
  refine zs_aload (ip' := 1) rfl rfl rfl ?_
  refine zs_pushI (ip' := 2) rfl rfl zi_k0 ?_
  refine zs_aload (ip' := 3) rfl rfl rfl ?_
  refine zs_iload (ip' := 4) rfl rfl rfl ?_
  refine zs_iload (ip' := 5) rfl rfl rfl ?_
  refine zW_cL (ip' := 6) rfl rfl (cQ_stepsToHut (by omega) hok hR hx hy) rfl rfl (z_ok3 (by omega) zsh_192 rfl rfl rfl) rfl (zx2 rfl rfl) ?_
  intro G' v9 hP9 h09 hv9 hz9
  refine zs_i2l (ip' := 7) rfl rfl (by omega) ?_
  refine zs_last (ip' := 8) rfl rfl (by omega) zsh_229 (by omega) (by omega) ?_
  refine zs_goto (t := 15) rfl ?_
  refine zs_pushI (ip' := 16) rfl rfl zi_k0 ?_
  refine zW_0 rfl ?_
  exact ⟨by rw [h09], hP9, fun k hk => zk_ne hk, ⟨Nat.le_refl _, Nat.le_succ _⟩, fun _ => ⟨v9, hv9, hz9, by rw [zk_eq]; exact zp_eq _ _ _⟩⟩
theorem cO_fog {N : Nat} {G F : GM} {n : Nat} (hN : 241 ≤ N) {s : Int → Int} (hok : mOk s) (hR : RX G 0 s) {h : Int} (hh : zr h) : zC N 296 [.ref 192, .int (zi h), .ref 229] G F n (zLx gI F n (q_fog s h) (xQf G)) := by
  refine zC_i (L0 := [.ref 192, .int (zi h), .ref 229, .null]) rfl ?_
  refine zs_aload (ip' := 1) rfl rfl rfl ?_
  refine zs_pushI (ip' := 2) rfl rfl zi_k0 ?_
  refine zs_aload (ip' := 3) rfl rfl rfl ?_
  refine zs_iload (ip' := 4) rfl rfl rfl ?_
  refine zW_cL (ip' := 5) rfl rfl (cQ_fog (by omega) hok hR hh) rfl rfl (z_ok3 (by omega) zsh_192 rfl rfl rfl) rfl (zx1 rfl) ?_
  intro G' v9 hP9 h09 hv9 hz9
  refine zs_i2l (ip' := 6) rfl rfl (by omega) ?_
  refine zs_last (ip' := 7) rfl rfl (by omega) zsh_229 (by omega) (by omega) ?_
  refine zs_goto (t := 11) rfl ?_
  refine zs_pushI (ip' := 12) rfl rfl zi_k0 ?_
  refine zW_0 rfl ?_
  exact ⟨by rw [h09], hP9, fun k hk => zk_ne hk, ⟨Nat.le_refl _, Nat.le_succ _⟩, fun _ => ⟨v9, hv9, hz9, by rw [zk_eq]; exact zp_eq _ _ _⟩⟩
theorem cO_lightColumn {N : Nat} {G F : GM} {n : Nat} (hN : 241 ≤ N) {s : Int → Int} (hok : mOk s) (hR : RX G 0 s) {l : Int} (hl0 : zr l) : zC N 297 [.ref 192, .int (zi l), .ref 229] G F n (zLx gI F n (q_light s l 0) (xQf G)) := by
  refine zC_i (L0 := [.ref 192, .int (zi l), .ref 229, .null]) rfl ?_
  refine zs_aload (ip' := 1) rfl rfl rfl ?_
  refine zs_pushI (ip' := 2) rfl rfl zi_k0 ?_
  refine zs_aload (ip' := 3) rfl rfl rfl ?_
  refine zs_iload (ip' := 4) rfl rfl rfl ?_
  refine zW_cL (ip' := 5) rfl rfl (cQ_lightColumn (by omega) hok hR hl0) rfl rfl (z_ok3 (by omega) zsh_192 rfl rfl rfl) rfl (zx1 rfl) ?_
  intro G' v9 hP9 h09 hv9 hz9
  refine zs_i2l (ip' := 6) rfl rfl (by omega) ?_
  refine zs_last (ip' := 7) rfl rfl (by omega) zsh_229 (by omega) (by omega) ?_
  refine zs_goto (t := 11) rfl ?_
  refine zs_pushI (ip' := 12) rfl rfl zi_k0 ?_
  refine zW_0 rfl ?_
  exact ⟨by rw [h09], hP9, fun k hk => zk_ne hk, ⟨Nat.le_refl _, Nat.le_succ _⟩, fun _ => ⟨v9, hv9, hz9, by rw [zk_eq]; exact zp_eq _ _ _⟩⟩
theorem cO_lightRow {N : Nat} {G F : GM} {n : Nat} (hN : 241 ≤ N) {s : Int → Int} (hok : mOk s) (hR : RX G 0 s) {l : Int} (hl0 : zr l) : zC N 298 [.ref 192, .int (zi l), .ref 229] G F n (zLx gI F n (q_light s l 1) (xQf G)) := by
  refine zC_i (L0 := [.ref 192, .int (zi l), .ref 229, .null]) rfl ?_
  refine zs_aload (ip' := 1) rfl rfl rfl ?_
  refine zs_pushI (ip' := 2) rfl rfl zi_k0 ?_
  refine zs_aload (ip' := 3) rfl rfl rfl ?_
  refine zs_iload (ip' := 4) rfl rfl rfl ?_
  refine zW_cL (ip' := 5) rfl rfl (cQ_lightRow (by omega) hok hR hl0) rfl rfl (z_ok3 (by omega) zsh_192 rfl rfl rfl) rfl (zx1 rfl) ?_
  intro G' v9 hP9 h09 hv9 hz9
  refine zs_i2l (ip' := 6) rfl rfl (by omega) ?_
  refine zs_last (ip' := 7) rfl rfl (by omega) zsh_229 (by omega) (by omega) ?_
  refine zs_goto (t := 11) rfl ?_
  refine zs_pushI (ip' := 12) rfl rfl zi_k0 ?_
  refine zW_0 rfl ?_
  exact ⟨by rw [h09], hP9, fun k hk => zk_ne hk, ⟨Nat.le_refl _, Nat.le_succ _⟩, fun _ => ⟨v9, hv9, hz9, by rw [zk_eq]; exact zp_eq _ _ _⟩⟩
theorem cO_brightness {N : Nat} {G F : GM} {n : Nat} (hN : 241 ≤ N) {s : Int → Int} (hok : mOk s) (hR : RX G 0 s) {l : Int} (hl0 : zr l) : zC N 299 [.ref 192, .int (zi l), .ref 229] G F n (zLx gI F n (q_light s l 2) (xQf G)) := by
  refine zC_i (L0 := [.ref 192, .int (zi l), .ref 229, .null]) rfl ?_
  refine zs_aload (ip' := 1) rfl rfl rfl ?_
  refine zs_pushI (ip' := 2) rfl rfl zi_k0 ?_
  refine zs_aload (ip' := 3) rfl rfl rfl ?_
  refine zs_iload (ip' := 4) rfl rfl rfl ?_
  refine zW_cL (ip' := 5) rfl rfl (cQ_brightness (by omega) hok hR hl0) rfl rfl (z_ok3 (by omega) zsh_192 rfl rfl rfl) rfl (zx1 rfl) ?_
  intro G' v9 hP9 h09 hv9 hz9
  refine zs_i2l (ip' := 6) rfl rfl (by omega) ?_
  refine zs_last (ip' := 7) rfl rfl (by omega) zsh_229 (by omega) (by omega) ?_
  refine zs_goto (t := 11) rfl ?_
  refine zs_pushI (ip' := 12) rfl rfl zi_k0 ?_
  refine zW_0 rfl ?_
  exact ⟨by rw [h09], hP9, fun k hk => zk_ne hk, ⟨Nat.le_refl _, Nat.le_succ _⟩, fun _ => ⟨v9, hv9, hz9, by rw [zk_eq]; exact zp_eq _ _ _⟩⟩
theorem cO_isTrueLight {N : Nat} {G F : GM} {n : Nat} (hN : 241 ≤ N) {s : Int → Int} (hok : mOk s) (hR : RX G 0 s) {l : Int} (hl0 : zr l) : zC N 300 [.ref 192, .int (zi l), .ref 229] G F n (zLx gB F n (q_isTrueLight s l) (xQf G)) := by
  refine zC_i (L0 := [.ref 192, .int (zi l), .ref 229, .null]) rfl ?_
  refine zs_aload (ip' := 1) rfl rfl rfl ?_
  refine zs_pushI (ip' := 2) rfl rfl zi_k0 ?_
  refine zs_aload (ip' := 3) rfl rfl rfl ?_
  refine zs_iload (ip' := 4) rfl rfl rfl ?_
  refine zW_cL (ip' := 5) rfl rfl (cQ_isTrueLight (by omega) hok hR hl0) rfl rfl (z_ok3 (by omega) zsh_192 rfl rfl rfl) rfl (zx1 rfl) ?_
  intro G' v9 hP9 h09 hv9 hz9
  refine zs_if_eq (t := 8) (ip' := 6) rfl rfl (by omega) ?_ ?_
  · intro h5
    refine zs_pushJ (ip' := 9) rfl rfl zl_k0 ?_
    refine zs_last (ip' := 10) rfl rfl (by omega) zsh_229 (by omega) (by omega) ?_
    refine zs_goto (t := 14) rfl ?_
    refine zs_pushI (ip' := 15) rfl rfl zi_k0 ?_
    refine zW_0 rfl ?_
    exact ⟨by rw [h09], hP9, fun k hk => zk_ne hk, ⟨Nat.le_refl _, Nat.le_succ _⟩, fun _ => ⟨v9, hv9, hz9, by rw [zk_eq]; exact (zp_eq _ _ _).trans (if_pos h5).symm⟩⟩
  · intro h5
    refine zs_pushJ (ip' := 7) rfl rfl zl_k1 ?_
    refine zs_goto (t := 9) rfl ?_
    refine zs_last (ip' := 10) rfl rfl (by omega) zsh_229 (by omega) (by omega) ?_
    refine zs_goto (t := 14) rfl ?_
    refine zs_pushI (ip' := 15) rfl rfl zi_k0 ?_
    refine zW_0 rfl ?_
    exact ⟨by rw [h09], hP9, fun k hk => zk_ne hk, ⟨Nat.le_refl _, Nat.le_succ _⟩, fun _ => ⟨v9, hv9, hz9, by rw [zk_eq]; exact (zp_eq _ _ _).trans (if_neg h5).symm⟩⟩
theorem cO_hasSuccessor {N : Nat} {G F : GM} {n : Nat} (hN : 241 ≤ N) {s : Int → Int} (hok : mOk s) (hR : RX G 0 s) {l : Int} (hl0 : zr l) : zC N 301 [.ref 192, .int (zi l), .ref 229] G F n (zLx gB F n (q_hasSuccessor s l) (xQf G)) := by
  refine zC_i (L0 := [.ref 192, .int (zi l), .ref 229, .null]) rfl ?_
  refine zs_aload (ip' := 1) rfl rfl rfl ?_
  refine zs_pushI (ip' := 2) rfl rfl zi_k0 ?_
  refine zs_aload (ip' := 3) rfl rfl rfl ?_
  refine zs_iload (ip' := 4) rfl rfl rfl ?_
  refine zW_cL (ip' := 5) rfl rfl (cQ_hasSuccessor (by omega) hok hR hl0) rfl rfl (z_ok3 (by omega) zsh_192 rfl rfl rfl) rfl (zx1 rfl) ?_
  intro G' v9 hP9 h09 hv9 hz9
  refine zs_if_eq (t := 8) (ip' := 6) rfl rfl (by omega) ?_ ?_
  · intro h5
    refine zs_pushJ (ip' := 9) rfl rfl zl_k0 ?_
    refine zs_last (ip' := 10) rfl rfl (by omega) zsh_229 (by omega) (by omega) ?_
    refine zs_goto (t := 14) rfl ?_
    refine zs_pushI (ip' := 15) rfl rfl zi_k0 ?_
    refine zW_0 rfl ?_
    exact ⟨by rw [h09], hP9, fun k hk => zk_ne hk, ⟨Nat.le_refl _, Nat.le_succ _⟩, fun _ => ⟨v9, hv9, hz9, by rw [zk_eq]; exact (zp_eq _ _ _).trans (if_pos h5).symm⟩⟩
  · intro h5
    refine zs_pushJ (ip' := 7) rfl rfl zl_k1 ?_
    refine zs_goto (t := 9) rfl ?_
    refine zs_last (ip' := 10) rfl rfl (by omega) zsh_229 (by omega) (by omega) ?_
    refine zs_goto (t := 14) rfl ?_
    refine zs_pushI (ip' := 15) rfl rfl zi_k0 ?_
    refine zW_0 rfl ?_
    exact ⟨by rw [h09], hP9, fun k hk => zk_ne hk, ⟨Nat.le_refl _, Nat.le_succ _⟩, fun _ => ⟨v9, hv9, hz9, by rw [zk_eq]; exact (zp_eq _ _ _).trans (if_neg h5).symm⟩⟩
theorem cO_successor {N : Nat} {G F : GM} {n : Nat} (hN : 241 ≤ N) {s : Int → Int} (hok : mOk s) (hR : RX G 0 s) {l : Int} (hl0 : zr l) : zC N 302 [.ref 192, .int (zi l), .ref 229] G F n (zLx gI F n (q_successor s l) (xQf G)) := by
  refine zC_i (L0 := [.ref 192, .int (zi l), .ref 229, .null]) rfl ?_
  refine zs_aload (ip' := 1) rfl rfl rfl ?_
  refine zs_pushI (ip' := 2) rfl rfl zi_k0 ?_
  refine zs_aload (ip' := 3) rfl rfl rfl ?_
  refine zs_iload (ip' := 4) rfl rfl rfl ?_
  refine zW_cL (ip' := 5) rfl rfl (cQ_successor (by omega) hok hR hl0) rfl rfl (z_ok3 (by omega) zsh_192 rfl rfl rfl) rfl (zx2 rfl rfl) ?_
  intro G' v9 hP9 h09 hv9 hz9
  refine zs_i2l (ip' := 6) rfl rfl (by omega) ?_
  refine zs_last (ip' := 7) rfl rfl (by omega) zsh_229 (by omega) (by omega) ?_
  refine zs_goto (t := 14) rfl ?_
  refine zs_pushI (ip' := 15) rfl rfl zi_k0 ?_
  refine zW_0 rfl ?_
  exact ⟨by rw [h09], hP9, fun k hk => zk_ne hk, ⟨Nat.le_refl _, Nat.le_succ _⟩, fun _ => ⟨v9, hv9, hz9, by rw [zk_eq]; exact zp_eq _ _ _⟩⟩
theorem cO_followers {N : Nat} {G F : GM} {n : Nat} (hN : 241 ≤ N) {s : Int → Int} (hok : mOk s) (hR : RX G 0 s) {l : Int} (hl0 : zr l) : zC N 303 [.ref 192, .int (zi l), .ref 229] G F n (zLx gI F n (q_followers s l) (xQf G)) := by
  refine zC_i (L0 := [.ref 192, .int (zi l), .ref 229, .null]) rfl ?_
  refine zs_aload (ip' := 1) rfl rfl rfl ?_
  refine zs_pushI (ip' := 2) rfl rfl zi_k0 ?_
  refine zs_aload (ip' := 3) rfl rfl rfl ?_
  refine zs_iload (ip' := 4) rfl rfl rfl ?_
  refine zW_cL (ip' := 5) rfl rfl (cQ_followers (by omega) hok hR hl0) rfl rfl (z_ok3 (by omega) zsh_192 rfl rfl rfl) rfl (zx1 rfl) ?_
  intro G' v9 hP9 h09 hv9 hz9
  refine zs_i2l (ip' := 6) rfl rfl (by omega) ?_
  refine zs_last (ip' := 7) rfl rfl (by omega) zsh_229 (by omega) (by omega) ?_
  refine zs_goto (t := 11) rfl ?_
  refine zs_pushI (ip' := 12) rfl rfl zi_k0 ?_
  refine zW_0 rfl ?_
  exact ⟨by rw [h09], hP9, fun k hk => zk_ne hk, ⟨Nat.le_refl _, Nat.le_succ _⟩, fun _ => ⟨v9, hv9, hz9, by rw [zk_eq]; exact zp_eq _ _ _⟩⟩
theorem cO_leadsAstray {N : Nat} {G F : GM} {n : Nat} (hN : 241 ≤ N) {s : Int → Int} (hok : mOk s) (hR : RX G 0 s) {l : Int} (hl0 : zr l) : zC N 304 [.ref 192, .int (zi l), .ref 229] G F n (zLx gB F n (q_leadsAstray s l) (xQf G)) := by
  refine zC_i (L0 := [.ref 192, .int (zi l), .ref 229, .null]) rfl ?_
  refine zs_aload (ip' := 1) rfl rfl rfl ?_
  refine zs_pushI (ip' := 2) rfl rfl zi_k0 ?_
  refine zs_aload (ip' := 3) rfl rfl rfl ?_
  refine zs_iload (ip' := 4) rfl rfl rfl ?_
  refine zW_cL (ip' := 5) rfl rfl (cQ_leadsAstray (by omega) hok hR hl0) rfl rfl (z_ok3 (by omega) zsh_192 rfl rfl rfl) rfl (zx1 rfl) ?_
  intro G' v9 hP9 h09 hv9 hz9
  refine zs_if_eq (t := 8) (ip' := 6) rfl rfl (by omega) ?_ ?_
  · intro h5
    refine zs_pushJ (ip' := 9) rfl rfl zl_k0 ?_
    refine zs_last (ip' := 10) rfl rfl (by omega) zsh_229 (by omega) (by omega) ?_
    refine zs_goto (t := 14) rfl ?_
    refine zs_pushI (ip' := 15) rfl rfl zi_k0 ?_
    refine zW_0 rfl ?_
    exact ⟨by rw [h09], hP9, fun k hk => zk_ne hk, ⟨Nat.le_refl _, Nat.le_succ _⟩, fun _ => ⟨v9, hv9, hz9, by rw [zk_eq]; exact (zp_eq _ _ _).trans (if_pos h5).symm⟩⟩
  · intro h5
    refine zs_pushJ (ip' := 7) rfl rfl zl_k1 ?_
    refine zs_goto (t := 9) rfl ?_
    refine zs_last (ip' := 10) rfl rfl (by omega) zsh_229 (by omega) (by omega) ?_
    refine zs_goto (t := 14) rfl ?_
    refine zs_pushI (ip' := 15) rfl rfl zi_k0 ?_
    refine zW_0 rfl ?_
    exact ⟨by rw [h09], hP9, fun k hk => zk_ne hk, ⟨Nat.le_refl _, Nat.le_succ _⟩, fun _ => ⟨v9, hv9, hz9, by rw [zk_eq]; exact (zp_eq _ _ _).trans (if_neg h5).symm⟩⟩
theorem cO_travellerColumn {N : Nat} {G F : GM} {n : Nat} (hN : 241 ≤ N) {s : Int → Int} (hok : mOk s) (hR : RX G 0 s) {t : Int} (ht0 : zr t) : zC N 305 [.ref 192, .int (zi t), .ref 229] G F n (zLx gI F n (q_walker s t 0) (xQf G)) := by
  refine zC_i (L0 := [.ref 192, .int (zi t), .ref 229, .null]) rfl ?_
  refine zs_aload (ip' := 1) rfl rfl rfl ?_
  refine zs_pushI (ip' := 2) rfl rfl zi_k0 ?_
  refine zs_aload (ip' := 3) rfl rfl rfl ?_
  refine zs_iload (ip' := 4) rfl rfl rfl ?_
  refine zW_cL (ip' := 5) rfl rfl (cQ_travellerColumn (by omega) hok hR ht0) rfl rfl (z_ok3 (by omega) zsh_192 rfl rfl rfl) rfl (zx1 rfl) ?_
  intro G' v9 hP9 h09 hv9 hz9
  refine zs_i2l (ip' := 6) rfl rfl (by omega) ?_
  refine zs_last (ip' := 7) rfl rfl (by omega) zsh_229 (by omega) (by omega) ?_
  refine zs_goto (t := 11) rfl ?_
  refine zs_pushI (ip' := 12) rfl rfl zi_k0 ?_
  refine zW_0 rfl ?_
  exact ⟨by rw [h09], hP9, fun k hk => zk_ne hk, ⟨Nat.le_refl _, Nat.le_succ _⟩, fun _ => ⟨v9, hv9, hz9, by rw [zk_eq]; exact zp_eq _ _ _⟩⟩
theorem cO_travellerRow {N : Nat} {G F : GM} {n : Nat} (hN : 241 ≤ N) {s : Int → Int} (hok : mOk s) (hR : RX G 0 s) {t : Int} (ht0 : zr t) : zC N 306 [.ref 192, .int (zi t), .ref 229] G F n (zLx gI F n (q_walker s t 1) (xQf G)) := by
  refine zC_i (L0 := [.ref 192, .int (zi t), .ref 229, .null]) rfl ?_
  refine zs_aload (ip' := 1) rfl rfl rfl ?_
  refine zs_pushI (ip' := 2) rfl rfl zi_k0 ?_
  refine zs_aload (ip' := 3) rfl rfl rfl ?_
  refine zs_iload (ip' := 4) rfl rfl rfl ?_
  refine zW_cL (ip' := 5) rfl rfl (cQ_travellerRow (by omega) hok hR ht0) rfl rfl (z_ok3 (by omega) zsh_192 rfl rfl rfl) rfl (zx1 rfl) ?_
  intro G' v9 hP9 h09 hv9 hz9
  refine zs_i2l (ip' := 6) rfl rfl (by omega) ?_
  refine zs_last (ip' := 7) rfl rfl (by omega) zsh_229 (by omega) (by omega) ?_
  refine zs_goto (t := 11) rfl ?_
  refine zs_pushI (ip' := 12) rfl rfl zi_k0 ?_
  refine zW_0 rfl ?_
  exact ⟨by rw [h09], hP9, fun k hk => zk_ne hk, ⟨Nat.le_refl _, Nat.le_succ _⟩, fun _ => ⟨v9, hv9, hz9, by rw [zk_eq]; exact zp_eq _ _ _⟩⟩
theorem cO_isWalking {N : Nat} {G F : GM} {n : Nat} (hN : 241 ≤ N) {s : Int → Int} (hok : mOk s) (hR : RX G 0 s) {t : Int} (ht0 : zr t) : zC N 307 [.ref 192, .int (zi t), .ref 229] G F n (zLx gB F n (q_state s t 0) (xQf G)) := by
  refine zC_i (L0 := [.ref 192, .int (zi t), .ref 229, .null]) rfl ?_
  refine zs_aload (ip' := 1) rfl rfl rfl ?_
  refine zs_pushI (ip' := 2) rfl rfl zi_k0 ?_
  refine zs_aload (ip' := 3) rfl rfl rfl ?_
  refine zs_iload (ip' := 4) rfl rfl rfl ?_
  refine zW_cL (ip' := 5) rfl rfl (cQ_isWalking (by omega) hok hR ht0) rfl rfl (z_ok3 (by omega) zsh_192 rfl rfl rfl) rfl (zx1 rfl) ?_
  intro G' v9 hP9 h09 hv9 hz9
  refine zs_if_eq (t := 8) (ip' := 6) rfl rfl (by omega) ?_ ?_
  · intro h5
    refine zs_pushJ (ip' := 9) rfl rfl zl_k0 ?_
    refine zs_last (ip' := 10) rfl rfl (by omega) zsh_229 (by omega) (by omega) ?_
    refine zs_goto (t := 14) rfl ?_
    refine zs_pushI (ip' := 15) rfl rfl zi_k0 ?_
    refine zW_0 rfl ?_
    exact ⟨by rw [h09], hP9, fun k hk => zk_ne hk, ⟨Nat.le_refl _, Nat.le_succ _⟩, fun _ => ⟨v9, hv9, hz9, by rw [zk_eq]; exact (zp_eq _ _ _).trans (if_pos h5).symm⟩⟩
  · intro h5
    refine zs_pushJ (ip' := 7) rfl rfl zl_k1 ?_
    refine zs_goto (t := 9) rfl ?_
    refine zs_last (ip' := 10) rfl rfl (by omega) zsh_229 (by omega) (by omega) ?_
    refine zs_goto (t := 14) rfl ?_
    refine zs_pushI (ip' := 15) rfl rfl zi_k0 ?_
    refine zW_0 rfl ?_
    exact ⟨by rw [h09], hP9, fun k hk => zk_ne hk, ⟨Nat.le_refl _, Nat.le_succ _⟩, fun _ => ⟨v9, hv9, hz9, by rw [zk_eq]; exact (zp_eq _ _ _).trans (if_neg h5).symm⟩⟩
theorem cO_hasArrived {N : Nat} {G F : GM} {n : Nat} (hN : 241 ≤ N) {s : Int → Int} (hok : mOk s) (hR : RX G 0 s) {t : Int} (ht0 : zr t) : zC N 308 [.ref 192, .int (zi t), .ref 229] G F n (zLx gB F n (q_state s t 1) (xQf G)) := by
  refine zC_i (L0 := [.ref 192, .int (zi t), .ref 229, .null]) rfl ?_
  refine zs_aload (ip' := 1) rfl rfl rfl ?_
  refine zs_pushI (ip' := 2) rfl rfl zi_k0 ?_
  refine zs_aload (ip' := 3) rfl rfl rfl ?_
  refine zs_iload (ip' := 4) rfl rfl rfl ?_
  refine zW_cL (ip' := 5) rfl rfl (cQ_hasArrived (by omega) hok hR ht0) rfl rfl (z_ok3 (by omega) zsh_192 rfl rfl rfl) rfl (zx1 rfl) ?_
  intro G' v9 hP9 h09 hv9 hz9
  refine zs_if_eq (t := 8) (ip' := 6) rfl rfl (by omega) ?_ ?_
  · intro h5
    refine zs_pushJ (ip' := 9) rfl rfl zl_k0 ?_
    refine zs_last (ip' := 10) rfl rfl (by omega) zsh_229 (by omega) (by omega) ?_
    refine zs_goto (t := 14) rfl ?_
    refine zs_pushI (ip' := 15) rfl rfl zi_k0 ?_
    refine zW_0 rfl ?_
    exact ⟨by rw [h09], hP9, fun k hk => zk_ne hk, ⟨Nat.le_refl _, Nat.le_succ _⟩, fun _ => ⟨v9, hv9, hz9, by rw [zk_eq]; exact (zp_eq _ _ _).trans (if_pos h5).symm⟩⟩
  · intro h5
    refine zs_pushJ (ip' := 7) rfl rfl zl_k1 ?_
    refine zs_goto (t := 9) rfl ?_
    refine zs_last (ip' := 10) rfl rfl (by omega) zsh_229 (by omega) (by omega) ?_
    refine zs_goto (t := 14) rfl ?_
    refine zs_pushI (ip' := 15) rfl rfl zi_k0 ?_
    refine zW_0 rfl ?_
    exact ⟨by rw [h09], hP9, fun k hk => zk_ne hk, ⟨Nat.le_refl _, Nat.le_succ _⟩, fun _ => ⟨v9, hv9, hz9, by rw [zk_eq]; exact (zp_eq _ _ _).trans (if_neg h5).symm⟩⟩
theorem cO_hasSunk {N : Nat} {G F : GM} {n : Nat} (hN : 241 ≤ N) {s : Int → Int} (hok : mOk s) (hR : RX G 0 s) {t : Int} (ht0 : zr t) : zC N 309 [.ref 192, .int (zi t), .ref 229] G F n (zLx gB F n (q_state s t 2) (xQf G)) := by
  refine zC_i (L0 := [.ref 192, .int (zi t), .ref 229, .null]) rfl ?_
  refine zs_aload (ip' := 1) rfl rfl rfl ?_
  refine zs_pushI (ip' := 2) rfl rfl zi_k0 ?_
  refine zs_aload (ip' := 3) rfl rfl rfl ?_
  refine zs_iload (ip' := 4) rfl rfl rfl ?_
  refine zW_cL (ip' := 5) rfl rfl (cQ_hasSunk (by omega) hok hR ht0) rfl rfl (z_ok3 (by omega) zsh_192 rfl rfl rfl) rfl (zx1 rfl) ?_
  intro G' v9 hP9 h09 hv9 hz9
  refine zs_if_eq (t := 8) (ip' := 6) rfl rfl (by omega) ?_ ?_
  · intro h5
    refine zs_pushJ (ip' := 9) rfl rfl zl_k0 ?_
    refine zs_last (ip' := 10) rfl rfl (by omega) zsh_229 (by omega) (by omega) ?_
    refine zs_goto (t := 14) rfl ?_
    refine zs_pushI (ip' := 15) rfl rfl zi_k0 ?_
    refine zW_0 rfl ?_
    exact ⟨by rw [h09], hP9, fun k hk => zk_ne hk, ⟨Nat.le_refl _, Nat.le_succ _⟩, fun _ => ⟨v9, hv9, hz9, by rw [zk_eq]; exact (zp_eq _ _ _).trans (if_pos h5).symm⟩⟩
  · intro h5
    refine zs_pushJ (ip' := 7) rfl rfl zl_k1 ?_
    refine zs_goto (t := 9) rfl ?_
    refine zs_last (ip' := 10) rfl rfl (by omega) zsh_229 (by omega) (by omega) ?_
    refine zs_goto (t := 14) rfl ?_
    refine zs_pushI (ip' := 15) rfl rfl zi_k0 ?_
    refine zW_0 rfl ?_
    exact ⟨by rw [h09], hP9, fun k hk => zk_ne hk, ⟨Nat.le_refl _, Nat.le_succ _⟩, fun _ => ⟨v9, hv9, hz9, by rw [zk_eq]; exact (zp_eq _ _ _).trans (if_neg h5).symm⟩⟩
theorem cO_stepsTaken {N : Nat} {G F : GM} {n : Nat} (hN : 241 ≤ N) {s : Int → Int} (hok : mOk s) (hR : RX G 0 s) {t : Int} (ht0 : zr t) : zC N 310 [.ref 192, .int (zi t), .ref 229] G F n (zLx gI F n (q_walker s t 6) (xQf G)) := by
  refine zC_i (L0 := [.ref 192, .int (zi t), .ref 229, .null]) rfl ?_
  refine zs_aload (ip' := 1) rfl rfl rfl ?_
  refine zs_pushI (ip' := 2) rfl rfl zi_k0 ?_
  refine zs_aload (ip' := 3) rfl rfl rfl ?_
  refine zs_iload (ip' := 4) rfl rfl rfl ?_
  refine zW_cL (ip' := 5) rfl rfl (cQ_stepsTaken (by omega) hok hR ht0) rfl rfl (z_ok3 (by omega) zsh_192 rfl rfl rfl) rfl (zx1 rfl) ?_
  intro G' v9 hP9 h09 hv9 hz9
  refine zs_i2l (ip' := 6) rfl rfl (by omega) ?_
  refine zs_last (ip' := 7) rfl rfl (by omega) zsh_229 (by omega) (by omega) ?_
  refine zs_goto (t := 11) rfl ?_
  refine zs_pushI (ip' := 12) rfl rfl zi_k0 ?_
  refine zW_0 rfl ?_
  exact ⟨by rw [h09], hP9, fun k hk => zk_ne hk, ⟨Nat.le_refl _, Nat.le_succ _⟩, fun _ => ⟨v9, hv9, hz9, by rw [zk_eq]; exact zp_eq _ _ _⟩⟩
theorem cO_hasTarget {N : Nat} {G F : GM} {n : Nat} (hN : 241 ≤ N) {s : Int → Int} (hok : mOk s) (hR : RX G 0 s) {t : Int} (ht0 : zr t) : zC N 311 [.ref 192, .int (zi t), .ref 229] G F n (zLx gB F n (q_hasTarget s t) (xQf G)) := by
  refine zC_i (L0 := [.ref 192, .int (zi t), .ref 229, .null]) rfl ?_
  refine zs_aload (ip' := 1) rfl rfl rfl ?_
  refine zs_pushI (ip' := 2) rfl rfl zi_k0 ?_
  refine zs_aload (ip' := 3) rfl rfl rfl ?_
  refine zs_iload (ip' := 4) rfl rfl rfl ?_
  refine zW_cL (ip' := 5) rfl rfl (cQ_hasTarget (by omega) hok hR ht0) rfl rfl (z_ok3 (by omega) zsh_192 rfl rfl rfl) rfl (zx1 rfl) ?_
  intro G' v9 hP9 h09 hv9 hz9
  refine zs_if_eq (t := 8) (ip' := 6) rfl rfl (by omega) ?_ ?_
  · intro h5
    refine zs_pushJ (ip' := 9) rfl rfl zl_k0 ?_
    refine zs_last (ip' := 10) rfl rfl (by omega) zsh_229 (by omega) (by omega) ?_
    refine zs_goto (t := 14) rfl ?_
    refine zs_pushI (ip' := 15) rfl rfl zi_k0 ?_
    refine zW_0 rfl ?_
    exact ⟨by rw [h09], hP9, fun k hk => zk_ne hk, ⟨Nat.le_refl _, Nat.le_succ _⟩, fun _ => ⟨v9, hv9, hz9, by rw [zk_eq]; exact (zp_eq _ _ _).trans (if_pos h5).symm⟩⟩
  · intro h5
    refine zs_pushJ (ip' := 7) rfl rfl zl_k1 ?_
    refine zs_goto (t := 9) rfl ?_
    refine zs_last (ip' := 10) rfl rfl (by omega) zsh_229 (by omega) (by omega) ?_
    refine zs_goto (t := 14) rfl ?_
    refine zs_pushI (ip' := 15) rfl rfl zi_k0 ?_
    refine zW_0 rfl ?_
    exact ⟨by rw [h09], hP9, fun k hk => zk_ne hk, ⟨Nat.le_refl _, Nat.le_succ _⟩, fun _ => ⟨v9, hv9, hz9, by rw [zk_eq]; exact (zp_eq _ _ _).trans (if_neg h5).symm⟩⟩
theorem cO_target {N : Nat} {G F : GM} {n : Nat} (hN : 241 ≤ N) {s : Int → Int} (hok : mOk s) (hR : RX G 0 s) {t : Int} (ht0 : zr t) : zC N 312 [.ref 192, .int (zi t), .ref 229] G F n (zLx gI F n (q_target s t) (xQf G)) := by
  refine zC_i (L0 := [.ref 192, .int (zi t), .ref 229, .null]) rfl ?_
  refine zs_aload (ip' := 1) rfl rfl rfl ?_
  refine zs_pushI (ip' := 2) rfl rfl zi_k0 ?_
  refine zs_aload (ip' := 3) rfl rfl rfl ?_
  refine zs_iload (ip' := 4) rfl rfl rfl ?_
  refine zW_cL (ip' := 5) rfl rfl (cQ_target (by omega) hok hR ht0) rfl rfl (z_ok3 (by omega) zsh_192 rfl rfl rfl) rfl (zx2 rfl rfl) ?_
  intro G' v9 hP9 h09 hv9 hz9
  refine zs_i2l (ip' := 6) rfl rfl (by omega) ?_
  refine zs_last (ip' := 7) rfl rfl (by omega) zsh_229 (by omega) (by omega) ?_
  refine zs_goto (t := 14) rfl ?_
  refine zs_pushI (ip' := 15) rfl rfl zi_k0 ?_
  refine zW_0 rfl ?_
  exact ⟨by rw [h09], hP9, fun k hk => zk_ne hk, ⟨Nat.le_refl _, Nat.le_succ _⟩, fun _ => ⟨v9, hv9, hz9, by rw [zk_eq]; exact zp_eq _ _ _⟩⟩
theorem cO_hasPassed {N : Nat} {G F : GM} {n : Nat} (hN : 241 ≤ N) {s : Int → Int} (hok : mOk s) (hR : RX G 0 s) {t : Int} (ht0 : zr t) {l : Int} (hl0 : zr l) : zC N 313 [.ref 192, .int (zi t), .int (zi l), .ref 229] G F n (zLx gB F n (q_hasPassed s t l) (xQf G)) := by
  refine zC_i (L0 := [.ref 192, .int (zi t), .int (zi l), .ref 229, .null]) rfl ?_
  refine zs_aload (ip' := 1) rfl rfl rfl ?_
  refine zs_pushI (ip' := 2) rfl rfl zi_k0 ?_
  refine zs_aload (ip' := 3) rfl rfl rfl ?_
  refine zs_iload (ip' := 4) rfl rfl rfl ?_
  refine zs_iload (ip' := 5) rfl rfl rfl ?_
  refine zW_cL (ip' := 6) rfl rfl (cQ_hasPassed (by omega) hok hR ht0 hl0) rfl rfl (z_ok3 (by omega) zsh_192 rfl rfl rfl) rfl (zx1 rfl) ?_
  intro G' v9 hP9 h09 hv9 hz9
  refine zs_if_eq (t := 9) (ip' := 7) rfl rfl (by omega) ?_ ?_
  · intro h6
    refine zs_pushJ (ip' := 10) rfl rfl zl_k0 ?_
    refine zs_last (ip' := 11) rfl rfl (by omega) zsh_229 (by omega) (by omega) ?_
    refine zs_goto (t := 15) rfl ?_
    refine zs_pushI (ip' := 16) rfl rfl zi_k0 ?_
    refine zW_0 rfl ?_
    exact ⟨by rw [h09], hP9, fun k hk => zk_ne hk, ⟨Nat.le_refl _, Nat.le_succ _⟩, fun _ => ⟨v9, hv9, hz9, by rw [zk_eq]; exact (zp_eq _ _ _).trans (if_pos h6).symm⟩⟩
  · intro h6
    refine zs_pushJ (ip' := 8) rfl rfl zl_k1 ?_
    refine zs_goto (t := 10) rfl ?_
    refine zs_last (ip' := 11) rfl rfl (by omega) zsh_229 (by omega) (by omega) ?_
    refine zs_goto (t := 15) rfl ?_
    refine zs_pushI (ip' := 16) rfl rfl zi_k0 ?_
    refine zW_0 rfl ?_
    exact ⟨by rw [h09], hP9, fun k hk => zk_ne hk, ⟨Nat.le_refl _, Nat.le_succ _⟩, fun _ => ⟨v9, hv9, hz9, by rw [zk_eq]; exact (zp_eq _ _ _).trans (if_neg h6).symm⟩⟩
theorem cO_distrusts {N : Nat} {G F : GM} {n : Nat} (hN : 241 ≤ N) {s : Int → Int} (hok : mOk s) (hR : RX G 0 s) {t : Int} (ht0 : zr t) {l : Int} (hl0 : zr l) : zC N 314 [.ref 192, .int (zi t), .int (zi l), .ref 229] G F n (zLx gB F n (q_distrusts s t l) (xQf G)) := by
  refine zC_i (L0 := [.ref 192, .int (zi t), .int (zi l), .ref 229, .null]) rfl ?_
  refine zs_aload (ip' := 1) rfl rfl rfl ?_
  refine zs_pushI (ip' := 2) rfl rfl zi_k0 ?_
  refine zs_aload (ip' := 3) rfl rfl rfl ?_
  refine zs_iload (ip' := 4) rfl rfl rfl ?_
  refine zs_iload (ip' := 5) rfl rfl rfl ?_
  refine zW_cL (ip' := 6) rfl rfl (cQ_distrusts (by omega) hok hR ht0 hl0) rfl rfl (z_ok3 (by omega) zsh_192 rfl rfl rfl) rfl (zx1 rfl) ?_
  intro G' v9 hP9 h09 hv9 hz9
  refine zs_if_eq (t := 9) (ip' := 7) rfl rfl (by omega) ?_ ?_
  · intro h6
    refine zs_pushJ (ip' := 10) rfl rfl zl_k0 ?_
    refine zs_last (ip' := 11) rfl rfl (by omega) zsh_229 (by omega) (by omega) ?_
    refine zs_goto (t := 15) rfl ?_
    refine zs_pushI (ip' := 16) rfl rfl zi_k0 ?_
    refine zW_0 rfl ?_
    exact ⟨by rw [h09], hP9, fun k hk => zk_ne hk, ⟨Nat.le_refl _, Nat.le_succ _⟩, fun _ => ⟨v9, hv9, hz9, by rw [zk_eq]; exact (zp_eq _ _ _).trans (if_pos h6).symm⟩⟩
  · intro h6
    refine zs_pushJ (ip' := 8) rfl rfl zl_k1 ?_
    refine zs_goto (t := 10) rfl ?_
    refine zs_last (ip' := 11) rfl rfl (by omega) zsh_229 (by omega) (by omega) ?_
    refine zs_goto (t := 15) rfl ?_
    refine zs_pushI (ip' := 16) rfl rfl zi_k0 ?_
    refine zW_0 rfl ?_
    exact ⟨by rw [h09], hP9, fun k hk => zk_ne hk, ⟨Nat.le_refl _, Nat.le_succ _⟩, fun _ => ⟨v9, hv9, hz9, by rw [zk_eq]; exact (zp_eq _ _ _).trans (if_neg h6).symm⟩⟩
theorem cO_sees {N : Nat} {G F : GM} {n : Nat} (hN : 241 ≤ N) {s : Int → Int} (hok : mOk s) (hR : RX G 0 s) {t : Int} (ht0 : zr t) {l : Int} (hl0 : zr l) : zC N 315 [.ref 192, .int (zi t), .int (zi l), .ref 229] G F n (zLx gB F n (q_sees s t l) (xQf G)) := by
  refine zC_i (L0 := [.ref 192, .int (zi t), .int (zi l), .ref 229, .null]) rfl ?_
  refine zs_aload (ip' := 1) rfl rfl rfl ?_
  refine zs_pushI (ip' := 2) rfl rfl zi_k0 ?_
  refine zs_aload (ip' := 3) rfl rfl rfl ?_
  refine zs_iload (ip' := 4) rfl rfl rfl ?_
  refine zs_iload (ip' := 5) rfl rfl rfl ?_
  refine zW_cL (ip' := 6) rfl rfl (cQ_sees (by omega) hok hR ht0 hl0) rfl rfl (z_ok3 (by omega) zsh_192 rfl rfl rfl) rfl (zx1 rfl) ?_
  intro G' v9 hP9 h09 hv9 hz9
  refine zs_if_eq (t := 9) (ip' := 7) rfl rfl (by omega) ?_ ?_
  · intro h6
    refine zs_pushJ (ip' := 10) rfl rfl zl_k0 ?_
    refine zs_last (ip' := 11) rfl rfl (by omega) zsh_229 (by omega) (by omega) ?_
    refine zs_goto (t := 15) rfl ?_
    refine zs_pushI (ip' := 16) rfl rfl zi_k0 ?_
    refine zW_0 rfl ?_
    exact ⟨by rw [h09], hP9, fun k hk => zk_ne hk, ⟨Nat.le_refl _, Nat.le_succ _⟩, fun _ => ⟨v9, hv9, hz9, by rw [zk_eq]; exact (zp_eq _ _ _).trans (if_pos h6).symm⟩⟩
  · intro h6
    refine zs_pushJ (ip' := 8) rfl rfl zl_k1 ?_
    refine zs_goto (t := 10) rfl ?_
    refine zs_last (ip' := 11) rfl rfl (by omega) zsh_229 (by omega) (by omega) ?_
    refine zs_goto (t := 15) rfl ?_
    refine zs_pushI (ip' := 16) rfl rfl zi_k0 ?_
    refine zW_0 rfl ?_
    exact ⟨by rw [h09], hP9, fun k hk => zk_ne hk, ⟨Nat.le_refl _, Nat.le_succ _⟩, fun _ => ⟨v9, hv9, hz9, by rw [zk_eq]; exact (zp_eq _ _ _).trans (if_neg h6).symm⟩⟩
theorem cO_nearestLight {N : Nat} {G F : GM} {n : Nat} (hN : 241 ≤ N) {s : Int → Int} (hok : mOk s) (hR : RX G 0 s) {t : Int} (ht0 : zr t) : zC N 316 [.ref 192, .int (zi t), .ref 229] G F n (zLx gI F n (q_nearestLight s t) (xQf G)) := by
  refine zC_i (L0 := [.ref 192, .int (zi t), .ref 229, .null]) rfl ?_
  refine zs_aload (ip' := 1) rfl rfl rfl ?_
  refine zs_pushI (ip' := 2) rfl rfl zi_k0 ?_
  refine zs_aload (ip' := 3) rfl rfl rfl ?_
  refine zs_iload (ip' := 4) rfl rfl rfl ?_
  refine zW_cL (ip' := 5) rfl rfl (cQ_nearestLight (by omega) hok hR ht0) rfl rfl (z_ok3 (by omega) zsh_192 rfl rfl rfl) rfl (zx2 rfl rfl) ?_
  intro G' v9 hP9 h09 hv9 hz9
  refine zs_i2l (ip' := 6) rfl rfl (by omega) ?_
  refine zs_last (ip' := 7) rfl rfl (by omega) zsh_229 (by omega) (by omega) ?_
  refine zs_goto (t := 14) rfl ?_
  refine zs_pushI (ip' := 15) rfl rfl zi_k0 ?_
  refine zW_0 rfl ?_
  exact ⟨by rw [h09], hP9, fun k hk => zk_ne hk, ⟨Nat.le_refl _, Nat.le_succ _⟩, fun _ => ⟨v9, hv9, hz9, by rw [zk_eq]; exact zp_eq _ _ _⟩⟩
theorem cO_ticksUntilDone {N : Nat} {G F : GM} {n : Nat} (hN : 241 ≤ N) {s : Int → Int} (hok : mOk s) (hR : RX G 0 s) {t : Int → Int} (he : zEq s t) (htm : s 3 ≤ 9999) {v : Int} (ht0 : zr v) : zC N 317 [.ref 192, .int (zi v), .ref 229] G F n (zLx gI F n (q_until s t v) (xQf G)) := by
  refine zC_i (L0 := [.ref 192, .int (zi v), .ref 229, .null]) rfl ?_
  refine zs_aload (ip' := 1) rfl rfl rfl ?_
  refine zs_pushI (ip' := 2) rfl rfl zi_k0 ?_
  refine zs_aload (ip' := 3) rfl rfl rfl ?_
  refine zs_iload (ip' := 4) rfl rfl rfl ?_
  refine zW_cL (ip' := 5) rfl rfl (cQ_ticksUntilDone (by omega) hok hR he htm ht0) rfl rfl (z_ok3 (by omega) zsh_192 rfl rfl rfl) rfl (zx3 rfl rfl rfl) ?_
  intro G' v9 hP9 h09 hv9 hz9
  refine zs_i2l (ip' := 6) rfl rfl (by omega) ?_
  refine zs_last (ip' := 7) rfl rfl (by omega) zsh_229 (by omega) (by omega) ?_
  refine zs_goto (t := 17) rfl ?_
  refine zs_pushI (ip' := 18) rfl rfl zi_k0 ?_
  refine zW_0 rfl ?_
  exact ⟨by rw [h09], hP9, fun k hk => zk_ne hk, ⟨Nat.le_refl _, Nat.le_succ _⟩, fun _ => ⟨v9, hv9, hz9, by rw [zk_eq]; exact zp_eq _ _ _⟩⟩
theorem cO_willArrive {N : Nat} {G F : GM} {n : Nat} (hN : 241 ≤ N) {s : Int → Int} (hok : mOk s) (hR : RX G 0 s) {t : Int → Int} (he : zEq s t) (htm : s 3 ≤ 9999) {v : Int} (ht0 : zr v) : zC N 318 [.ref 192, .int (zi v), .ref 229] G F n (zLx gB F n (q_willArrive s (sTicks t 300) v) (xQf G)) := by
  refine zC_i (L0 := [.ref 192, .int (zi v), .ref 229, .null]) rfl ?_
  refine zs_aload (ip' := 1) rfl rfl rfl ?_
  refine zs_pushI (ip' := 2) rfl rfl zi_k0 ?_
  refine zs_aload (ip' := 3) rfl rfl rfl ?_
  refine zs_iload (ip' := 4) rfl rfl rfl ?_
  refine zW_cL (ip' := 5) rfl rfl (cQ_willArrive (by omega) hok hR he htm ht0) rfl rfl (z_ok3 (by omega) zsh_192 rfl rfl rfl) rfl (zx1 rfl) ?_
  intro G' v9 hP9 h09 hv9 hz9
  refine zs_if_eq (t := 8) (ip' := 6) rfl rfl (by omega) ?_ ?_
  · intro h5
    refine zs_pushJ (ip' := 9) rfl rfl zl_k0 ?_
    refine zs_last (ip' := 10) rfl rfl (by omega) zsh_229 (by omega) (by omega) ?_
    refine zs_goto (t := 14) rfl ?_
    refine zs_pushI (ip' := 15) rfl rfl zi_k0 ?_
    refine zW_0 rfl ?_
    exact ⟨by rw [h09], hP9, fun k hk => zk_ne hk, ⟨Nat.le_refl _, Nat.le_succ _⟩, fun _ => ⟨v9, hv9, hz9, by rw [zk_eq]; exact (zp_eq _ _ _).trans (if_pos h5).symm⟩⟩
  · intro h5
    refine zs_pushJ (ip' := 7) rfl rfl zl_k1 ?_
    refine zs_goto (t := 9) rfl ?_
    refine zs_last (ip' := 10) rfl rfl (by omega) zsh_229 (by omega) (by omega) ?_
    refine zs_goto (t := 14) rfl ?_
    refine zs_pushI (ip' := 15) rfl rfl zi_k0 ?_
    refine zW_0 rfl ?_
    exact ⟨by rw [h09], hP9, fun k hk => zk_ne hk, ⟨Nat.le_refl _, Nat.le_succ _⟩, fun _ => ⟨v9, hv9, hz9, by rw [zk_eq]; exact (zp_eq _ _ _).trans (if_neg h5).symm⟩⟩
theorem cO_arrivedAfter {N : Nat} {G F : GM} {n : Nat} (hN : 241 ≤ N) {s : Int → Int} (hok : mOk s) (hR : RX G 0 s) {t : Int → Int} (he : zEq s t) (htm : s 3 ≤ 9999) {v : Int} (ht0 : zr v) : zC N 319 [.ref 192, .int (zi v), .ref 229] G F n (zLx gI F n (q_after t v 1) (xQf G)) := by
  refine zC_i (L0 := [.ref 192, .int (zi v), .ref 229, .null]) rfl ?_
  refine zs_aload (ip' := 1) rfl rfl rfl ?_
  refine zs_pushI (ip' := 2) rfl rfl zi_k0 ?_
  refine zs_aload (ip' := 3) rfl rfl rfl ?_
  refine zs_iload (ip' := 4) rfl rfl rfl ?_
  refine zW_cL (ip' := 5) rfl rfl (cQ_arrivedAfter (by omega) hok hR he htm ht0) rfl rfl (z_ok3 (by omega) zsh_192 rfl rfl rfl) rfl (zx1 rfl) ?_
  intro G' v9 hP9 h09 hv9 hz9
  refine zs_i2l (ip' := 6) rfl rfl (by omega) ?_
  refine zs_last (ip' := 7) rfl rfl (by omega) zsh_229 (by omega) (by omega) ?_
  refine zs_goto (t := 11) rfl ?_
  refine zs_pushI (ip' := 12) rfl rfl zi_k0 ?_
  refine zW_0 rfl ?_
  exact ⟨by rw [h09], hP9, fun k hk => zk_ne hk, ⟨Nat.le_refl _, Nat.le_succ _⟩, fun _ => ⟨v9, hv9, hz9, by rw [zk_eq]; exact zp_eq _ _ _⟩⟩
theorem cO_sunkAfter {N : Nat} {G F : GM} {n : Nat} (hN : 241 ≤ N) {s : Int → Int} (hok : mOk s) (hR : RX G 0 s) {t : Int → Int} (he : zEq s t) (htm : s 3 ≤ 9999) {v : Int} (ht0 : zr v) : zC N 320 [.ref 192, .int (zi v), .ref 229] G F n (zLx gI F n (q_after t v 2) (xQf G)) := by
  refine zC_i (L0 := [.ref 192, .int (zi v), .ref 229, .null]) rfl ?_
  refine zs_aload (ip' := 1) rfl rfl rfl ?_
  refine zs_pushI (ip' := 2) rfl rfl zi_k0 ?_
  refine zs_aload (ip' := 3) rfl rfl rfl ?_
  refine zs_iload (ip' := 4) rfl rfl rfl ?_
  refine zW_cL (ip' := 5) rfl rfl (cQ_sunkAfter (by omega) hok hR he htm ht0) rfl rfl (z_ok3 (by omega) zsh_192 rfl rfl rfl) rfl (zx1 rfl) ?_
  intro G' v9 hP9 h09 hv9 hz9
  refine zs_i2l (ip' := 6) rfl rfl (by omega) ?_
  refine zs_last (ip' := 7) rfl rfl (by omega) zsh_229 (by omega) (by omega) ?_
  refine zs_goto (t := 11) rfl ?_
  refine zs_pushI (ip' := 12) rfl rfl zi_k0 ?_
  refine zW_0 rfl ?_
  exact ⟨by rw [h09], hP9, fun k hk => zk_ne hk, ⟨Nat.le_refl _, Nat.le_succ _⟩, fun _ => ⟨v9, hv9, hz9, by rw [zk_eq]; exact zp_eq _ _ _⟩⟩
theorem cO_tick {N : Nat} {G F : GM} {n : Nat} (hN : 241 ≤ N) {s : Int → Int} (hok : mOk s) (hR : RX G 0 s) (hH0 : 0 ≤ G 193 0 ∧ G 193 0 ≤ 8) (hH1 : 0 ≤ G 193 1 ∧ G 193 1 ≤ 7) {q : Int} (hq0 : zr q) : zC N 321 [.ref 192, .int (zi q), .ref 229] G F n (zLx gI F n (q_tick s q) (xCq (q_tick s q) G s (sTicks s q.toNat))) := by
  refine zC_i (L0 := [.ref 192, .int (zi q), .ref 229, .null]) rfl ?_
  refine zs_aload (ip' := 1) rfl rfl rfl ?_
  refine zs_pushI (ip' := 2) rfl rfl zi_k0 ?_
  refine zs_aload (ip' := 3) rfl rfl rfl ?_
  refine zs_iload (ip' := 4) rfl rfl rfl ?_
  refine zW_cL (ip' := 5) rfl rfl (cQ_tick (by omega) hok hR hH0 hH1 hq0) rfl rfl (z_ok3 (by omega) zsh_192 rfl rfl rfl) rfl (zx2 rfl rfl) ?_
  intro G' v9 hP9 h09 hv9 hz9
  refine zs_i2l (ip' := 6) rfl rfl (by omega) ?_
  refine zs_last (ip' := 7) rfl rfl (by omega) zsh_229 (by omega) (by omega) ?_
  refine zs_goto (t := 14) rfl ?_
  refine zs_pushI (ip' := 15) rfl rfl zi_k0 ?_
  refine zW_0 rfl ?_
  exact ⟨by rw [h09], hP9, fun k hk => zk_ne hk, ⟨Nat.le_refl _, Nat.le_succ _⟩, fun _ => ⟨v9, hv9, hz9, by rw [zk_eq]; exact zp_eq _ _ _⟩⟩
theorem cO_addLight {N : Nat} {G F : GM} {n : Nat} (hN : 241 ≤ N) {s : Int → Int} (hok : mOk s) (hR : RX G 0 s) (hH0 : 0 ≤ G 193 0 ∧ G 193 0 ≤ 8) (hH1 : 0 ≤ G 193 1 ∧ G 193 1 ≤ 7) {x y b v : Int} (hx : zr x) (hy : zr y) (hb0 : zr b) (hv : v = 0 ∨ v = 1) : zC N 322 [.ref 192, .int (zi x), .int (zi y), .int (zi b), .int (zi v), .ref 229] G F n (zLx gI F n (q_addLight s x y b) (xCq (q_addLight s x y b) G s (sAddL s x y b v))) := by
  refine zC_i (L0 := [.ref 192, .int (zi x), .int (zi y), .int (zi b), .int (zi v), .ref 229, .null]) rfl ?_
  refine zs_aload (ip' := 1) rfl rfl rfl ?_
  refine zs_pushI (ip' := 2) rfl rfl zi_k0 ?_
  refine zs_aload (ip' := 3) rfl rfl rfl ?_
  refine zs_iload (ip' := 4) rfl rfl rfl ?_
  refine zs_iload (ip' := 5) rfl rfl rfl ?_
  refine zs_iload (ip' := 6) rfl rfl rfl ?_
  refine zs_iload (ip' := 7) rfl rfl rfl ?_
  refine zW_cL (ip' := 8) rfl rfl (cQ_addLight (by omega) hok hR hH0 hH1 hx hy hb0 hv) rfl rfl (z_ok3 (by omega) zsh_192 rfl rfl rfl) rfl (zx3 rfl rfl rfl) ?_
  intro G' v9 hP9 h09 hv9 hz9
  refine zs_i2l (ip' := 9) rfl rfl (by omega) ?_
  refine zs_last (ip' := 10) rfl rfl (by omega) zsh_229 (by omega) (by omega) ?_
  refine zs_goto (t := 20) rfl ?_
  refine zs_pushI (ip' := 21) rfl rfl zi_k0 ?_
  refine zW_0 rfl ?_
  exact ⟨by rw [h09], hP9, fun k hk => zk_ne hk, ⟨Nat.le_refl _, Nat.le_succ _⟩, fun _ => ⟨v9, hv9, hz9, by rw [zk_eq]; exact zp_eq _ _ _⟩⟩
theorem cO_addTraveller {N : Nat} {G F : GM} {n : Nat} (hN : 241 ≤ N) {s : Int → Int} (hok : mOk s) (hR : RX G 0 s) (hH0 : 0 ≤ G 193 0 ∧ G 193 0 ≤ 8) (hH1 : 0 ≤ G 193 1 ∧ G 193 1 ≤ 7) {x y : Int} (hx : zr x) (hy : zr y) : zC N 323 [.ref 192, .int (zi x), .int (zi y), .ref 229] G F n (zLx gI F n (q_addTraveller s x y) (xCq (q_addTraveller s x y) G s (sAddW s x y))) := by
  refine zC_i (L0 := [.ref 192, .int (zi x), .int (zi y), .ref 229, .null]) rfl ?_
  refine zs_aload (ip' := 1) rfl rfl rfl ?_
  refine zs_pushI (ip' := 2) rfl rfl zi_k0 ?_
  refine zs_aload (ip' := 3) rfl rfl rfl ?_
  refine zs_iload (ip' := 4) rfl rfl rfl ?_
  refine zs_iload (ip' := 5) rfl rfl rfl ?_
  refine zW_cL (ip' := 6) rfl rfl (cQ_addTraveller (by omega) hok hR hH0 hH1 hx hy) rfl rfl (z_ok3 (by omega) zsh_192 rfl rfl rfl) rfl (zx2 rfl rfl) ?_
  intro G' v9 hP9 h09 hv9 hz9
  refine zs_i2l (ip' := 7) rfl rfl (by omega) ?_
  refine zs_last (ip' := 8) rfl rfl (by omega) zsh_229 (by omega) (by omega) ?_
  refine zs_goto (t := 15) rfl ?_
  refine zs_pushI (ip' := 16) rfl rfl zi_k0 ?_
  refine zW_0 rfl ?_
  exact ⟨by rw [h09], hP9, fun k hk => zk_ne hk, ⟨Nat.le_refl _, Nat.le_succ _⟩, fun _ => ⟨v9, hv9, hz9, by rw [zk_eq]; exact zp_eq _ _ _⟩⟩
theorem cO_setSuccessor {N : Nat} {G F : GM} {n : Nat} (hN : 241 ≤ N) {s : Int → Int} (hok : mOk s) (hR : RX G 0 s) (hH0 : 0 ≤ G 193 0 ∧ G 193 0 ≤ 8) (hH1 : 0 ≤ G 193 1 ∧ G 193 1 ≤ 7) {l v : Int} (hl0 : zr l) (hv0 : zr v) : zC N 324 [.ref 192, .int (zi l), .int (zi v), .ref 229] G F n (zLx gI F n (q_setSuccessor s l v) (xCq (q_setSuccessor s l v) G s (zp s (174 + 5 * l + 4) v))) := by
  refine zC_i (L0 := [.ref 192, .int (zi l), .int (zi v), .ref 229, .null]) rfl ?_
  refine zs_aload (ip' := 1) rfl rfl rfl ?_
  refine zs_pushI (ip' := 2) rfl rfl zi_k0 ?_
  refine zs_aload (ip' := 3) rfl rfl rfl ?_
  refine zs_iload (ip' := 4) rfl rfl rfl ?_
  refine zs_iload (ip' := 5) rfl rfl rfl ?_
  refine zW_cL (ip' := 6) rfl rfl (cQ_setSuccessor (by omega) hok hR hH0 hH1 hl0 hv0) rfl rfl (z_ok3 (by omega) zsh_192 rfl rfl rfl) rfl (zx2 rfl rfl) ?_
  intro G' v9 hP9 h09 hv9 hz9
  refine zs_i2l (ip' := 7) rfl rfl (by omega) ?_
  refine zs_last (ip' := 8) rfl rfl (by omega) zsh_229 (by omega) (by omega) ?_
  refine zs_goto (t := 15) rfl ?_
  refine zs_pushI (ip' := 16) rfl rfl zi_k0 ?_
  refine zW_0 rfl ?_
  exact ⟨by rw [h09], hP9, fun k hk => zk_ne hk, ⟨Nat.le_refl _, Nat.le_succ _⟩, fun _ => ⟨v9, hv9, hz9, by rw [zk_eq]; exact zp_eq _ _ _⟩⟩
theorem cO_clearSuccessor {N : Nat} {G F : GM} {n : Nat} (hN : 241 ≤ N) {s : Int → Int} (hok : mOk s) (hR : RX G 0 s) (hH0 : 0 ≤ G 193 0 ∧ G 193 0 ≤ 8) (hH1 : 0 ≤ G 193 1 ∧ G 193 1 ≤ 7) {l : Int} (hl0 : zr l) : zC N 325 [.ref 192, .int (zi l), .ref 229] G F n (zLx gI F n (q_clearSuccessor s l) (xCq (q_clearSuccessor s l) G s (zp s (174 + 5 * l + 4) (-1)))) := by
  refine zC_i (L0 := [.ref 192, .int (zi l), .ref 229, .null]) rfl ?_
  refine zs_aload (ip' := 1) rfl rfl rfl ?_
  refine zs_pushI (ip' := 2) rfl rfl zi_k0 ?_
  refine zs_aload (ip' := 3) rfl rfl rfl ?_
  refine zs_iload (ip' := 4) rfl rfl rfl ?_
  refine zW_cL (ip' := 5) rfl rfl (cQ_clearSuccessor (by omega) hok hR hH0 hH1 hl0) rfl rfl (z_ok3 (by omega) zsh_192 rfl rfl rfl) rfl (zx2 rfl rfl) ?_
  intro G' v9 hP9 h09 hv9 hz9
  refine zs_i2l (ip' := 6) rfl rfl (by omega) ?_
  refine zs_last (ip' := 7) rfl rfl (by omega) zsh_229 (by omega) (by omega) ?_
  refine zs_goto (t := 14) rfl ?_
  refine zs_pushI (ip' := 15) rfl rfl zi_k0 ?_
  refine zW_0 rfl ?_
  exact ⟨by rw [h09], hP9, fun k hk => zk_ne hk, ⟨Nat.le_refl _, Nat.le_succ _⟩, fun _ => ⟨v9, hv9, hz9, by rw [zk_eq]; exact zp_eq _ _ _⟩⟩
theorem cO_layPlank {N : Nat} {G F : GM} {n : Nat} (hN : 241 ≤ N) {s : Int → Int} (hok : mOk s) (hR : RX G 0 s) (hH0 : 0 ≤ G 193 0 ∧ G 193 0 ≤ 8) (hH1 : 0 ≤ G 193 1 ∧ G 193 1 ≤ 7) {x y q : Int} (hx : zr x) (hy : zr y) (hq0 : zr q) : zC N 326 [.ref 192, .int (zi x), .int (zi y), .int (zi q), .ref 229] G F n (zLx gI F n (q_layPlank s x y q) (xCq (q_layPlank s x y q) G s (zp s (30 + 12 * y + x) (10 + q)))) := by
  refine zC_i (L0 := [.ref 192, .int (zi x), .int (zi y), .int (zi q), .ref 229, .null]) rfl ?_
  refine zs_aload (ip' := 1) rfl rfl rfl ?_
  refine zs_pushI (ip' := 2) rfl rfl zi_k0 ?_
  refine zs_aload (ip' := 3) rfl rfl rfl ?_
  refine zs_iload (ip' := 4) rfl rfl rfl ?_
  refine zs_iload (ip' := 5) rfl rfl rfl ?_
  refine zs_iload (ip' := 6) rfl rfl rfl ?_
  refine zW_cL (ip' := 7) rfl rfl (cQ_layPlank (by omega) hok hR hH0 hH1 hx hy hq0) rfl rfl (z_ok3 (by omega) zsh_192 rfl rfl rfl) rfl (zx3 rfl rfl rfl) ?_
  intro G' v9 hP9 h09 hv9 hz9
  refine zs_i2l (ip' := 8) rfl rfl (by omega) ?_
  refine zs_last (ip' := 9) rfl rfl (by omega) zsh_229 (by omega) (by omega) ?_
  refine zs_goto (t := 19) rfl ?_
  refine zs_pushI (ip' := 20) rfl rfl zi_k0 ?_
  refine zW_0 rfl ?_
  exact ⟨by rw [h09], hP9, fun k hk => zk_ne hk, ⟨Nat.le_refl _, Nat.le_succ _⟩, fun _ => ⟨v9, hv9, hz9, by rw [zk_eq]; exact zp_eq _ _ _⟩⟩
theorem cO_setClearness {N : Nat} {G F : GM} {n : Nat} (hN : 241 ≤ N) {s : Int → Int} (hok : mOk s) (hR : RX G 0 s) (hH0 : 0 ≤ G 193 0 ∧ G 193 0 ≤ 8) (hH1 : 0 ≤ G 193 1 ∧ G 193 1 ≤ 7) {c : Int} (hc : zr c) : zC N 327 [.ref 192, .int (zi c), .ref 229] G F n (zLx gI F n (q_setClearness s c) (xCq (q_setClearness s c) G s (zp s 2 c))) := by
  refine zC_i (L0 := [.ref 192, .int (zi c), .ref 229, .null]) rfl ?_
  refine zs_aload (ip' := 1) rfl rfl rfl ?_
  refine zs_pushI (ip' := 2) rfl rfl zi_k0 ?_
  refine zs_aload (ip' := 3) rfl rfl rfl ?_
  refine zs_iload (ip' := 4) rfl rfl rfl ?_
  refine zW_cL (ip' := 5) rfl rfl (cQ_setClearness (by omega) hok hR hH0 hH1 hc) rfl rfl (z_ok3 (by omega) zsh_192 rfl rfl rfl) rfl (zx1 rfl) ?_
  intro G' v9 hP9 h09 hv9 hz9
  refine zs_i2l (ip' := 6) rfl rfl (by omega) ?_
  refine zs_last (ip' := 7) rfl rfl (by omega) zsh_229 (by omega) (by omega) ?_
  refine zs_goto (t := 11) rfl ?_
  refine zs_pushI (ip' := 12) rfl rfl zi_k0 ?_
  refine zW_0 rfl ?_
  exact ⟨by rw [h09], hP9, fun k hk => zk_ne hk, ⟨Nat.le_refl _, Nat.le_succ _⟩, fun _ => ⟨v9, hv9, hz9, by rw [zk_eq]; exact zp_eq _ _ _⟩⟩
theorem cO_setFog {N : Nat} {G F : GM} {n : Nat} (hN : 241 ≤ N) {s : Int → Int} (hok : mOk s) (hR : RX G 0 s) (hH0 : 0 ≤ G 193 0 ∧ G 193 0 ≤ 8) (hH1 : 0 ≤ G 193 1 ∧ G 193 1 ≤ 7) {h v : Int} (hh : zr h) (hv : zr v) : zC N 328 [.ref 192, .int (zi h), .int (zi v), .ref 229] G F n (zLx gI F n (q_setFog s h v) (xCq (q_setFog s h v) G s (zp s (6 + h) v))) := by
  refine zC_i (L0 := [.ref 192, .int (zi h), .int (zi v), .ref 229, .null]) rfl ?_
  refine zs_aload (ip' := 1) rfl rfl rfl ?_
  refine zs_pushI (ip' := 2) rfl rfl zi_k0 ?_
  refine zs_aload (ip' := 3) rfl rfl rfl ?_
  refine zs_iload (ip' := 4) rfl rfl rfl ?_
  refine zs_iload (ip' := 5) rfl rfl rfl ?_
  refine zW_cL (ip' := 6) rfl rfl (cQ_setFog (by omega) hok hR hH0 hH1 hh hv) rfl rfl (z_ok3 (by omega) zsh_192 rfl rfl rfl) rfl (zx2 rfl rfl) ?_
  intro G' v9 hP9 h09 hv9 hz9
  refine zs_i2l (ip' := 7) rfl rfl (by omega) ?_
  refine zs_last (ip' := 8) rfl rfl (by omega) zsh_229 (by omega) (by omega) ?_
  refine zs_goto (t := 15) rfl ?_
  refine zs_pushI (ip' := 16) rfl rfl zi_k0 ?_
  refine zW_0 rfl ?_
  exact ⟨by rw [h09], hP9, fun k hk => zk_ne hk, ⟨Nat.le_refl _, Nat.le_succ _⟩, fun _ => ⟨v9, hv9, hz9, by rw [zk_eq]; exact zp_eq _ _ _⟩⟩
theorem cO_setTarget {N : Nat} {G F : GM} {n : Nat} (hN : 241 ≤ N) {s : Int → Int} (hok : mOk s) (hR : RX G 0 s) (hH0 : 0 ≤ G 193 0 ∧ G 193 0 ≤ 8) (hH1 : 0 ≤ G 193 1 ∧ G 193 1 ≤ 7) {t l : Int} (ht0 : zr t) (hl0 : zr l) : zC N 329 [.ref 192, .int (zi t), .int (zi l), .ref 229] G F n (zLx gI F n (q_setTarget s t l) (xCq (q_setTarget s t l) G s (zp s (214 + 7 * t + 3) l))) := by
  refine zC_i (L0 := [.ref 192, .int (zi t), .int (zi l), .ref 229, .null]) rfl ?_
  refine zs_aload (ip' := 1) rfl rfl rfl ?_
  refine zs_pushI (ip' := 2) rfl rfl zi_k0 ?_
  refine zs_aload (ip' := 3) rfl rfl rfl ?_
  refine zs_iload (ip' := 4) rfl rfl rfl ?_
  refine zs_iload (ip' := 5) rfl rfl rfl ?_
  refine zW_cL (ip' := 6) rfl rfl (cQ_setTarget (by omega) hok hR hH0 hH1 ht0 hl0) rfl rfl (z_ok3 (by omega) zsh_192 rfl rfl rfl) rfl (zx2 rfl rfl) ?_
  intro G' v9 hP9 h09 hv9 hz9
  refine zs_i2l (ip' := 7) rfl rfl (by omega) ?_
  refine zs_last (ip' := 8) rfl rfl (by omega) zsh_229 (by omega) (by omega) ?_
  refine zs_goto (t := 15) rfl ?_
  refine zs_pushI (ip' := 16) rfl rfl zi_k0 ?_
  refine zW_0 rfl ?_
  exact ⟨by rw [h09], hP9, fun k hk => zk_ne hk, ⟨Nat.le_refl _, Nat.le_succ _⟩, fun _ => ⟨v9, hv9, hz9, by rw [zk_eq]; exact zp_eq _ _ _⟩⟩
theorem cO_undo {N : Nat} {G F : GM} {n : Nat} (hN : 241 ≤ N) {u : Int} {h : Nat → Int → Int} (hX : XH G u h) (hok0 : 0 < u → mOk (h 0)) : zC N 330 [.ref 192, .ref 229] G F n (zLx gI F n (q_undo u) (fun G' => ((q_undo u).1 = 0 ∧ xUn G G' h) ∨ ((q_undo u).1 ≠ 0 ∧ G' = G))) := by
  refine zC_i (L0 := [.ref 192, .ref 229, .null]) rfl ?_
  refine zs_aload (ip' := 1) rfl rfl rfl ?_
  refine zs_pushI (ip' := 2) rfl rfl zi_k0 ?_
  refine zs_aload (ip' := 3) rfl rfl rfl ?_
  refine zW_cL (ip' := 4) rfl rfl (cQ_undo (by omega) hX hok0) rfl rfl (z_ok3 (by omega) zsh_192 rfl rfl rfl) rfl (zx1 rfl) ?_
  intro G' v9 hP9 h09 hv9 hz9
  refine zs_i2l (ip' := 5) rfl rfl (by omega) ?_
  refine zs_last (ip' := 6) rfl rfl (by omega) zsh_229 (by omega) (by omega) ?_
  refine zs_goto (t := 10) rfl ?_
  refine zs_pushI (ip' := 11) rfl rfl zi_k0 ?_
  refine zW_0 rfl ?_
  exact ⟨by rw [h09], hP9, fun k hk => zk_ne hk, ⟨Nat.le_refl _, Nat.le_succ _⟩, fun _ => ⟨v9, hv9, hz9, by rw [zk_eq]; exact zp_eq _ _ _⟩⟩
theorem cO_saveSnapshot {N : Nat} {G F : GM} {n : Nat} (hN : 241 ≤ N) {s : Int → Int} (hok : mOk s) (hR : RX G 0 s) {c : Int} (hc : zr c) : zC N 331 [.ref 192, .int (zi c), .ref 229] G F n (zLx gI F n (q_save s c) (fun G' => ((q_save s c).1 = 0 ∧ xSv c s G G') ∨ ((q_save s c).1 ≠ 0 ∧ G' = G))) := by
  refine zC_i (L0 := [.ref 192, .int (zi c), .ref 229, .null]) rfl ?_
  refine zs_aload (ip' := 1) rfl rfl rfl ?_
  refine zs_pushI (ip' := 2) rfl rfl zi_k0 ?_
  refine zs_aload (ip' := 3) rfl rfl rfl ?_
  refine zs_iload (ip' := 4) rfl rfl rfl ?_
  refine zW_cL (ip' := 5) rfl rfl (cQ_saveSnapshot (by omega) hok hR hc) rfl rfl (z_ok3 (by omega) zsh_192 rfl rfl rfl) rfl (zx1 rfl) ?_
  intro G' v9 hP9 h09 hv9 hz9
  refine zs_i2l (ip' := 6) rfl rfl (by omega) ?_
  refine zs_last (ip' := 7) rfl rfl (by omega) zsh_229 (by omega) (by omega) ?_
  refine zs_goto (t := 11) rfl ?_
  refine zs_pushI (ip' := 12) rfl rfl zi_k0 ?_
  refine zW_0 rfl ?_
  exact ⟨by rw [h09], hP9, fun k hk => zk_ne hk, ⟨Nat.le_refl _, Nat.le_succ _⟩, fun _ => ⟨v9, hv9, hz9, by rw [zk_eq]; exact zp_eq _ _ _⟩⟩
theorem cO_restoreSnapshot {N : Nat} {G F : GM} {n : Nat} (hN : 241 ≤ N) {s : Int → Int} (hok : mOk s) (hR : RX G 0 s) (hH0 : 0 ≤ G 193 0 ∧ G 193 0 ≤ 8) (hH1 : 0 ≤ G 193 1 ∧ G 193 1 ≤ 7) {c : Int} (hc : zr c) {t : Int → Int} (hokt : mOk t) (hRt : G 196 c ≠ 0 → ∀ w : Nat, (w : Int) - 10 = c → RX G w t) : zC N 332 [.ref 192, .int (zi c), .ref 229] G F n (zLx gI F n (q_restore (G 196) t c) (xCq (q_restore (G 196) t c) G s t)) := by
  refine zC_i (L0 := [.ref 192, .int (zi c), .ref 229, .null]) rfl ?_
  refine zs_aload (ip' := 1) rfl rfl rfl ?_
  refine zs_pushI (ip' := 2) rfl rfl zi_k0 ?_
  refine zs_aload (ip' := 3) rfl rfl rfl ?_
  refine zs_iload (ip' := 4) rfl rfl rfl ?_
  refine zW_cL (ip' := 5) rfl rfl (cQ_restoreSnapshot (by omega) hok hR hH0 hH1 hc hokt hRt) rfl rfl (z_ok3 (by omega) zsh_192 rfl rfl rfl) rfl (zx2 rfl rfl) ?_
  intro G' v9 hP9 h09 hv9 hz9
  refine zs_i2l (ip' := 6) rfl rfl (by omega) ?_
  refine zs_last (ip' := 7) rfl rfl (by omega) zsh_229 (by omega) (by omega) ?_
  refine zs_goto (t := 14) rfl ?_
  refine zs_pushI (ip' := 15) rfl rfl zi_k0 ?_
  refine zW_0 rfl ?_
  exact ⟨by rw [h09], hP9, fun k hk => zk_ne hk, ⟨Nat.le_refl _, Nat.le_succ _⟩, fun _ => ⟨v9, hv9, hz9, by rw [zk_eq]; exact zp_eq _ _ _⟩⟩
theorem cO_printedByte {N : Nat} {G F : GM} {n : Nat} (hN : 241 ≤ N) (h9 : 0 ≤ G 192 9 ∧ G 192 9 ≤ 156) {c : Int} (hc : zr c) : zC N 333 [.ref 192, .int (zi c), .ref 229] G F n (zLx gI F n (q_printedByte (G 228) (G 192 9) c) (xQf G)) := by
  refine zC_i (L0 := [.ref 192, .int (zi c), .ref 229, .null]) rfl ?_
  refine zs_aload (ip' := 1) rfl rfl rfl ?_
  refine zs_pushI (ip' := 2) rfl rfl zi_k0 ?_
  refine zs_aload (ip' := 3) rfl rfl rfl ?_
  refine zs_iload (ip' := 4) rfl rfl rfl ?_
  refine zW_cL (ip' := 5) rfl rfl (cQ_printedByte (by omega) h9 hc) rfl rfl (z_ok3 (by omega) zsh_192 rfl rfl rfl) rfl (zx1 rfl) ?_
  intro G' v9 hP9 h09 hv9 hz9
  refine zs_i2l (ip' := 6) rfl rfl (by omega) ?_
  refine zs_last (ip' := 7) rfl rfl (by omega) zsh_229 (by omega) (by omega) ?_
  refine zs_goto (t := 11) rfl ?_
  refine zs_pushI (ip' := 12) rfl rfl zi_k0 ?_
  refine zW_0 rfl ?_
  exact ⟨by rw [h09], hP9, fun k hk => zk_ne hk, ⟨Nat.le_refl _, Nat.le_succ _⟩, fun _ => ⟨v9, hv9, hz9, by rw [zk_eq]; exact zp_eq _ _ _⟩⟩
