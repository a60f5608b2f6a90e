/-! Program and model together: the text, what is printed, load. -/
section JK
variable {G G1 G2 Gm : GM} {c : Int}
/-- the rows of the world are left alone, the text or what was printed may change -/
theorem JI_o (h : JI G) (gx : ∀ k, (k < 16 ∨ 32 ≤ k) → k < 192 → G2 k = G k) (g3 : G2 193 = G 193) (g6 : G2 196 = G 196) (e : ∀ k, k = 231 ∨ k = 234 ∨ k = 235 ∨ k = 236 → G2 k = G k) (f6 : G2 230 6 = G 230 6) (hb : xBu G2 (G2 237) (G2 230 8)) (ha : zBa G2) (he : G2 192 10 = G2 230 9 ∧ -1 ≤ G2 230 9) (hp : G2 192 9 = G2 230 22 ∧ (0 ≤ G2 230 22 ∧ G2 230 22 ≤ 156) ∧ ∀ j, 0 ≤ j → j < G2 230 22 → G2 228 j = G2 240 j) : JI G2 := by
  obtain ⟨⟨h1, h2, h3, h4, h5, h6, h7⟩, ⟨⟨o1, o2⟩, ⟨o3, o4⟩, o5, o6, o7, o8⟩⟩ := h
  have e231 := e 231 (by omega)
  have e234 := e 234 (by omega)
  have e235 := e 235 (by omega)
  have e236 := e 236 (by omega)
  refine ⟨⟨?_, ?_, fun c c0 c1 => ?_, hb, he.1, hp.1, hp.2.2⟩, ⟨⟨?_, ?_⟩, ⟨by omega, fun j hj => ?_⟩, fun c c0 c1 => ?_, ha, he.2, hp.2.1⟩⟩
  · rw [e231]
    exact RX_fr h1 (fun k a b => gx k (by omega) (by omega))
  · have q := XH_fr2 h2 (fun k a b => by
      rcases b with b | b
      · exact gx k (by omega) (by omega)
      · rw [b]
        exact g3) (G' := G2)
    unfold xHi at q ⊢
    rw [f6, e234]
    exact q
  · rw [g6, e236]
    refine ⟨(h3 c c0 c1).1, fun hk w hw => ?_⟩
    have q := (h3 c c0 c1).2 hk w hw
    unfold xSn at q ⊢
    rw [e235]
    exact RX_fr q (fun k a b => gx k (by omega) (by omega))
  · rw [e231]
    exact o1
  · rw [e231]
    exact o2
  · unfold xHi at o4 ⊢
    rw [f6, e234]
    exact o4 j (by omega)
  · have q := o5 c c0 c1
    unfold xSn at q ⊢
    rw [e236, e235]
    exact q
/-- shorten -/
theorem JI_sh (h : JI G) (hc : 0 ≤ c ∧ c ≤ G 230 8) (hx : G1 = zk G 197 (zp (G 197) 0 c)) (m : zMk G1 Gm 0) (hg : G2 = zk Gm 230 (zp (Gm 230) 8 c)) : JI G2 := by
  have ex : ∀ k, k ≠ 197 → G1 k = G k := fun k a => by rw [hx, zk_ne a]
  have ek : ∀ k, k ≠ 197 → k ≠ 230 → k ≠ 233 → k ≠ 238 → k ≠ 239 → G2 k = G k := fun k z a c d e => by rw [hg, zk_ne a, m.1 k a c d e, ex k z]
  have ej : ∀ j, j ≠ 8 → j ≠ 10 → j ≠ 13 → j ≠ 14 → G2 230 j = G 230 j := fun j a b c d => by rw [hg, zk_eq, zp_ne a, m.2.1 j b c d, ex 230 (by omega)]
  have e8 : G2 230 8 = c := by rw [hg, zk_eq, zp_eq]
  have e197 : G2 197 0 = c := by rw [hg, zk_ne (by decide), m.1 197 (by decide) (by decide) (by decide) (by decide), hx, zk_eq, zp_eq]
  have e192 := ek 192 (by decide) (by decide) (by decide) (by decide) (by decide)
  have e198 := ek 198 (by decide) (by decide) (by decide) (by decide) (by decide)
  have e228 := ek 228 (by decide) (by decide) (by decide) (by decide) (by decide)
  have e237 := ek 237 (by decide) (by decide) (by decide) (by decide) (by decide)
  have e240 := ek 240 (by decide) (by decide) (by decide) (by decide) (by decide)
  have f9 := ej 9 (by decide) (by decide) (by decide) (by decide)
  have f22 := ej 22 (by decide) (by decide) (by decide) (by decide)
  have h' := id h
  obtain ⟨⟨-, -, -, h4, h5, h6, h7⟩, ⟨-, -, -, o6, o7, o8⟩⟩ := h'
  refine JI_o h (fun k z9 a => ek k (by omega) (by omega) (by omega) (by omega) (by omega)) (ek 193 (by decide) (by decide) (by decide) (by decide) (by decide)) (ek 196 (by decide) (by decide) (by decide) (by decide) (by decide)) (fun k hk => ek k (by omega) (by omega) (by omega) (by omega) (by omega)) (ej 6 (by decide) (by decide) (by decide) (by decide)) ?_ ?_ ?_ ?_
  · obtain ⟨b1, b2, b3⟩ := h4
    rw [e8, e237]
    unfold xBu
    rw [e198]
    exact ⟨e197, by omega, fun j j0 j1 => b3 j j0 (by omega)⟩
  · obtain ⟨b1, b2⟩ := o6
    unfold zBa
    rw [e8, e237]
    exact ⟨by omega, fun j j0 j1 => b2 j j0 (by omega)⟩
  · rw [e192, f9]
    exact ⟨h5, o7⟩
  · rw [e192, f22, e228, e240]
    exact ⟨h6, o8, h7⟩
/-- append -/
theorem JI_ap {a b d e f : Int} (h : JI G) (hl : G 230 8 + 20 ≤ 800) (hx : xTx G G1) (h1 : G1 197 0 = G 197 0 + 20) (h2 : ∀ j, j < G 197 0 → G1 198 j = G 198 j) (h3 : ∀ j, 0 ≤ j → j < 20 → G1 198 (G 197 0 + j) % 256 = sByte a b d e f j ∧ -128 ≤ G1 198 (G 197 0 + j) ∧ G1 198 (G 197 0 + j) ≤ 127) (m : zMk G1 Gm 0) (hg : G2 = zTw Gm 237 (sApp (G1 237) (G1 230 8) a b d e f 20) 8 (G1 230 8 + 20)) : JI G2 := by
  have ex : ∀ k, k ≠ 197 → k ≠ 198 → G1 k = G k := hx.1
  rw [ex 237 (by decide) (by decide), ex 230 (by decide) (by decide)] at hg
  have ek1 : ∀ k, k ≠ 230 → k ≠ 233 → k ≠ 237 → k ≠ 238 → k ≠ 239 → G2 k = G1 k := fun k a b c d e => by
    rw [hg]
    unfold zTw
    rw [zk_ne a, zk_ne c, m.1 k a b d e]
  have ek : ∀ k, k ≠ 197 → k ≠ 198 → k ≠ 230 → k ≠ 233 → k ≠ 237 → k ≠ 238 → k ≠ 239 → G2 k = G k := fun k y z a b c d e => (ek1 k a b c d e).trans (ex k y z)
  have e230 : G2 230 = zp (Gm 230) 8 (G 230 8 + 20) := by rw [hg]; exact zTw_230
  have ej : ∀ j, j ≠ 8 → j ≠ 10 → j ≠ 13 → j ≠ 14 → G2 230 j = G 230 j := fun j a b c d => by rw [e230, zp_ne a, m.2.1 j b c d, ex 230 (by decide) (by decide)]
  have e8 : G2 230 8 = G 230 8 + 20 := by rw [e230, zp_eq]
  have e237 : G2 237 = sApp (G 237) (G 230 8) a b d e f 20 := by rw [hg]; exact zTw_r (by decide)
  have e197 := ek1 197 (by decide) (by decide) (by decide) (by decide) (by decide)
  have e198 := ek1 198 (by decide) (by decide) (by decide) (by decide) (by decide)
  have e192 := ek 192 (by decide) (by decide) (by decide) (by decide) (by decide) (by decide) (by decide)
  have e228 := ek 228 (by decide) (by decide) (by decide) (by decide) (by decide) (by decide) (by decide)
  have e240 := ek 240 (by decide) (by decide) (by decide) (by decide) (by decide) (by decide) (by decide)
  have f9 := ej 9 (by decide) (by decide) (by decide) (by decide)
  have f22 := ej 22 (by decide) (by decide) (by decide) (by decide)
  have h' := id h
  obtain ⟨⟨-, -, -, h4, h5, h6, h7⟩, ⟨-, -, -, o6, o7, o8⟩⟩ := h'
  obtain ⟨b1, b2, b3⟩ := h4
  rw [b1] at h1 h2 h3
  refine JI_o h (fun k z9 a => ek k (by omega) (by omega) (by omega) (by omega) (by omega) (by omega) (by omega)) (ek 193 (by decide) (by decide) (by decide) (by decide) (by decide) (by decide) (by decide)) (ek 196 (by decide) (by decide) (by decide) (by decide) (by decide) (by decide) (by decide)) (fun k hk => ek k (by omega) (by omega) (by omega) (by omega) (by omega) (by omega) (by omega)) (ej 6 (by decide) (by decide) (by decide) (by decide)) ?_ ?_ ?_ ?_
  · rw [e8, e237]
    unfold xBu sApp
    rw [e198, e197]
    refine ⟨h1, by omega, fun j j0 j1 => ?_⟩
    by_cases hj : j < G 230 8
    · rw [if_neg (by omega), h2 j hj]
      exact b3 j j0 hj
    · rw [if_pos (by omega)]
      obtain ⟨q1, q2⟩ := h3 (j - G 230 8) (by omega) (by omega)
      rw [show G 230 8 + (j - G 230 8) = j by omega] at q1 q2
      exact ⟨q2, q1.symm⟩
  · obtain ⟨c1, c2⟩ := o6
    unfold zBa
    rw [e8, e237]
    refine ⟨by omega, fun j j0 j1 => ?_⟩
    by_cases hj : j < G 230 8
    · have e : sApp (G 237) (G 230 8) a b d e f 20 j = G 237 j := if_neg (by omega)
      rw [e]
      exact c2 j j0 hj
    · have e : sApp (G 237) (G 230 8) a b d e f 20 j = sByte a b d e f (j - G 230 8) := if_pos (by omega)
      rw [e]
      obtain ⟨q1, q2⟩ := h3 (j - G 230 8) (by omega) (by omega)
      omega
  · rw [e192, f9]
    exact ⟨h5, o7⟩
  · rw [e192, f22, e228, e240]
    exact ⟨h6, o8, h7⟩
/-- print -/
theorem JI_pr {A B : (Int → Int) × Int} (h : JI G) (hA : A = sPrO (G 231) (G 228, 0) (G 231 1).toNat) (hB : B = sPrO (G 231) (G 240, 0) (G 231 1).toNat) (hx : G1 = zk (zk G 228 A.1) 192 (zp (G 192) 9 A.2)) (m : zMk G1 Gm 0) (hg : G2 = zTw Gm 240 B.1 22 B.2) : JI G2 := by
  have ex : ∀ k, k ≠ 192 → k ≠ 228 → G1 k = G k := fun k a b => by rw [hx, zk_ne a, zk_ne b]
  have ek1 : ∀ k, k ≠ 230 → k ≠ 233 → k ≠ 238 → k ≠ 239 → k ≠ 240 → G2 k = G1 k := fun k a b c d e => by
    rw [hg]
    unfold zTw
    rw [zk_ne a, zk_ne e, m.1 k a b c d]
  have ek : ∀ k, k ≠ 192 → k ≠ 228 → k ≠ 230 → k ≠ 233 → k ≠ 238 → k ≠ 239 → k ≠ 240 → G2 k = G k := fun k y z a b c d e => (ek1 k a b c d e).trans (ex k y z)
  have e230 : G2 230 = zp (Gm 230) 22 B.2 := by rw [hg]; exact zTw_230
  have ej : ∀ j, j ≠ 22 → j ≠ 10 → j ≠ 13 → j ≠ 14 → G2 230 j = G 230 j := fun j a b c d => by rw [e230, zp_ne a, m.2.1 j b c d, ex 230 (by decide) (by decide)]
  have e22 : G2 230 22 = B.2 := by rw [e230, zp_eq]
  have e240 : G2 240 = B.1 := by rw [hg]; exact zTw_r (by decide)
  have e228 : G2 228 = A.1 := by rw [ek1 228 (by decide) (by decide) (by decide) (by decide) (by decide), hx, zk_ne (by decide), zk_eq]
  have e192 : G2 192 = zp (G 192) 9 A.2 := by rw [ek1 192 (by decide) (by decide) (by decide) (by decide) (by decide), hx, zk_eq]
  have e197 := ek 197 (by decide) (by decide) (by decide) (by decide) (by decide) (by decide) (by decide)
  have e198 := ek 198 (by decide) (by decide) (by decide) (by decide) (by decide) (by decide) (by decide)
  have e237 := ek 237 (by decide) (by decide) (by decide) (by decide) (by decide) (by decide) (by decide)
  have f8 := ej 8 (by decide) (by decide) (by decide) (by decide)
  have f9 := ej 9 (by decide) (by decide) (by decide) (by decide)
  have h' := id h
  obtain ⟨⟨-, -, -, h4, h5, h6, h7⟩, ⟨⟨o1, -⟩, -, -, o6, o7, o8⟩⟩ := h'
  obtain ⟨q1, q2⟩ := sPrO_eq (s := G 231) (A := G 228) (B := G 240) (G 231 1).toNat
  rw [← hA, ← hB] at q1
  rw [← hA, ← hB] at q2
  have q3 := sPrO_len (G 231) (G 240, 0) (mOk_hb o1).1 (G 231 1).toNat
  rw [← hB] at q3
  have q4 := (mOk_hb o1).2
  have q5 : (0 : Int) ≤ B.2 := q3.1
  have q6 : B.2 ≤ 0 + 13 * ((G 231 1).toNat : Int) := q3.2
  refine JI_o h (fun k z9 a => ek k (by omega) (by omega) (by omega) (by omega) (by omega) (by omega) (by omega)) (ek 193 (by decide) (by decide) (by decide) (by decide) (by decide) (by decide) (by decide)) (ek 196 (by decide) (by decide) (by decide) (by decide) (by decide) (by decide) (by decide)) (fun k hk => ek k (by omega) (by omega) (by omega) (by omega) (by omega) (by omega) (by omega)) (ej 6 (by decide) (by decide) (by decide) (by decide)) ?_ ?_ ?_ ?_
  · rw [e237, f8]
    unfold xBu at h4 ⊢
    rw [e197, e198]
    exact h4
  · unfold zBa at o6 ⊢
    rw [f8, e237]
    exact o6
  · rw [e192, zp_ne (by decide), f9]
    exact ⟨h5, o7⟩
  · rw [e192, zp_eq, e22, e228, e240]
    exact ⟨q1, by omega, q2⟩
/-- load -/
theorem JI_ld {x : zTx} (h : JI G) (hx : xLd x G G1) (h9 : x.2.1 = 0 → x.2.2.2 3 ≤ 9999) (m3 : ∀ k, k ≠ 230 → k ≠ 231 → k ≠ 232 → k ≠ 236 → G2 k = G1 k) (m4 : ∀ j, j ≠ 6 → j ≠ 8 → j ≠ 9 → j ≠ 10 → j ≠ 15 → j ≠ 16 → j ≠ 17 → j ≠ 18 → j ≠ 20 → G2 230 j = G1 230 j) (m8 : G2 230 8 = 0) (m9 : G2 230 9 = x.2.2.1)
    (m : (x.2.1 = 1 ∧ G2 230 6 = G1 230 6 ∧ G2 231 = G1 231 ∧ G2 236 = G1 236) ∨ (x.2.1 = 0 ∧ G2 230 6 = 0 ∧ (G2 236 0 = 0 ∧ G2 236 1 = 0) ∧ ∀ j, 0 ≤ j → j < 256 → G2 231 j = x.2.2.2 j)) : JI G2 := by
  obtain ⟨x1, x2, x3, x4, x5⟩ := hx
  have ek1 : ∀ k, k < 230 → G2 k = G1 k := fun k a => m3 k (by omega) (by omega) (by omega) (by omega)
  have g1 : ∀ k, 198 ≤ k → G1 k = G k := fun k a => x1 k (by omega) (by omega) (by omega) (by omega) (by omega)
  have f22 : G2 230 22 = G 230 22 := by rw [m4 22 (by decide) (by decide) (by decide) (by decide) (by decide) (by decide) (by decide) (by decide) (by decide), g1 230 (by decide)]
  have e192 : ∀ j, j ≠ 10 → G2 192 j = G 192 j := fun j a => by rw [ek1 192 (by decide)]; exact x2 j a
  have e228 : G2 228 = G 228 := (ek1 228 (by decide)).trans (g1 228 (by decide))
  have e240 : G2 240 = G 240 := (m3 240 (by decide) (by decide) (by decide) (by decide)).trans (g1 240 (by decide))
  have e235 : G2 235 = G 235 := (m3 235 (by decide) (by decide) (by decide) (by decide)).trans (g1 235 (by decide))
  have e234 : G2 234 = G 234 := (m3 234 (by decide) (by decide) (by decide) (by decide)).trans (g1 234 (by decide))
  have hb : xBu G2 (G2 237) (G2 230 8) := by
    rw [m8]
    exact ⟨by rw [ek1 197 (by decide)]; exact x3, by decide, fun j j0 j1 => by omega⟩
  have ha : zBa G2 := by
    unfold zBa
    rw [m8]
    exact ⟨by decide, fun j j0 j1 => by omega⟩
  have he : G2 192 10 = G2 230 9 := by rw [ek1 192 (by decide), x4, m9]
  have h' := id h
  obtain ⟨⟨h1, h2, h3, -, h5, h6, h7⟩, ⟨-, -, -, -, -, o8⟩⟩ := h'
  have hp : G2 192 9 = G2 230 22 ∧ (0 ≤ G2 230 22 ∧ G2 230 22 ≤ 156) ∧ ∀ j, 0 ≤ j → j < G2 230 22 → G2 228 j = G2 240 j := by
    rw [e192 9 (by decide), f22, e228, e240]
    exact ⟨h6, o8, h7⟩
  rcases x5 with ⟨y1, y2, y3, y4, y5, y6, y7, y8⟩ | ⟨y1, y2, y3, y4, y5⟩
  · rcases m with ⟨z1, -⟩ | ⟨z1, z2, ⟨z3, z4⟩, z5⟩
    · omega
    have hz : zEq x.2.2.2 (G2 231) := z5
    have k2 : ∀ c, 0 ≤ c → c ≤ 1 → G2 196 c = 0 ∧ G2 236 c = 0 := fun c c0 c1 => by
      rw [ek1 196 (by decide)]
      rcases (show c = 0 ∨ c = 1 by omega) with rfl | rfl
      · exact ⟨y7, z3⟩
      · exact ⟨y8, z4⟩
    refine ⟨⟨?_, ?_, fun c c0 c1 => ?_, hb, he, hp.1, hp.2.2⟩, ⟨⟨?_, ?_⟩, ⟨by omega, fun j hj => by omega⟩, fun c c0 c1 => ?_, ha, by omega, hp.2.1⟩⟩
    · exact RX_fr (RX_eq y3 y4 hz) (fun k a b => ek1 k (by omega))
    · refine ⟨?_, by omega, ?_, fun j w hj => by omega⟩
      · rw [ek1 193 (by decide), y5, z2]
      · rw [ek1 193 (by decide), y6]
        exact h2.2.2.1
    · obtain ⟨k3, k4⟩ := k2 c c0 c1
      exact ⟨k3.trans k4.symm, fun q => absurd k4 q⟩
    · exact mOk_eq hz y3
    · rw [hz 3 (by decide) (by decide)]
      exact h9 y1
    · obtain ⟨k3, k4⟩ := k2 c c0 c1
      exact ⟨Or.inl k4, fun q => absurd k4 q⟩
  · rcases m with ⟨z1, z2, z3, z4⟩ | ⟨z1, -⟩
    · refine JI_o h (fun k z9 a => ?_) ?_ ?_ (fun k hk => ?_) ?_ hb ha ⟨he, by omega⟩ hp
      · rw [ek1 k (by omega)]
        by_cases k16 : k < 16
        · exact y3 k k16
        · exact x1 k (by omega) (by omega) (by omega) (by omega) (by omega)
      · rw [ek1 193 (by decide), y4]
      · rw [ek1 196 (by decide), y5]
      · rcases hk with rfl | rfl | rfl | rfl
        · rw [z3, g1 231 (by decide)]
        · exact e234
        · exact e235
        · rw [z4, g1 236 (by decide)]
      · rw [z2, g1 230 (by decide)]
    · omega
end JK
