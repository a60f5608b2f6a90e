/-! Joint calls: what asks, what changes. -/
/-- the program's call, then M's: the same answer, and they go together again -/
def zJm (N m : Nat) (bs : List Value) (q : Int × Int) (G1 : GM) : Prop := ∀ (F2 : GM) (n2 : Nat), zC N m bs G1 F2 n2 (fun o G2 F3 n3 => o = .inl (some (.int (zi q.2))) ∧ n3 = n2 ∧ F3 229 = F2 229 ∧ G2 230 10 = q.1 ∧ JI G2)
def zJq (N m : Nat) (bs : List Value) (g : Int → Int) (n : Nat) : Zq := fun o G1 F1 n1 => ∃ q : Int × Int, o = .inl (some (.int (zi q.1))) ∧ (n ≤ n1 ∧ n1 ≤ n + 1) ∧ (q.1 = 0 → ∃ v, zr v ∧ zi v = zi q.2 ∧ F1 229 0 = g v) ∧ zJm N m bs q G1
theorem zJ_q {N yl m : Nat} {as bs : List Value} {G F : GM} {n : Nat} {g : Int → Int} {q : Int × Int} {P : GM → Prop} (hX : zC N yl as G F n (zLx g F n q P)) (hM : ∀ G1, P G1 → zJm N m bs q G1) : zC N yl as G F n (zJq N m bs g n) :=
  zW_w (fun _ G1 F1 n1 ⟨h1, h2, _, h4, h5⟩ => ⟨q, h1, h4, h5, hM G1 h2⟩) hX
theorem zJ_ask {N m : Nat} {bs : List Value} {G G1 : GM} {q q' : Int × Int} (hJ : JI G) (hP : xQf G G1) (hc : ∀ (F2 : GM) (n2 : Nat), zC N m bs G1 F2 n2 (zQm G1 F2 n2 q')) (e : q' = q) : zJm N m bs q G1 := by
  subst e
  exact fun F2 n2 => zW_w (fun _ G2 F3 n3 ⟨h1, h2, h3, h4⟩ => ⟨h1, h4, by rw [h3], h2.2.2, JI_q hJ hP h2⟩) (hc F2 n2)
theorem xCq_e {q : Int × Int} {G G1 : GM} {s s' : Int → Int} (h : xCq q G s s' G1) : ∀ k, 228 ≤ k → G1 k = G k := by
  intro k hk
  rcases h with ⟨-, h⟩ | ⟨-, h⟩
  · exact h.2.1 k (by omega) (by omega) (by omega)
  · rw [h]
theorem zJ_su {N m : Nat} {bs : List Value} {G G1 : GM} {q q' : Int × Int} {s' s'' : Int → Int} (hJ : JI G) (hP : xCq q G (G 231) s' G1) (hc : ∀ (F2 : GM) (n2 : Nat), zC N m bs G1 F2 n2 (zSu G1 F2 n2 q' s'')) (e : q' = q) (es : s'' = s') (h9 : q.1 = 0 → mOk s' ∧ s' 3 ≤ 9999) : zJm N m bs q G1 := by
  subst e
  subst es
  intro F2 n2
  refine zW_w ?_ (hc F2 n2)
  rintro o G2 F3 n3 ⟨h1, h2, h3, h4⟩
  refine ⟨h1, h3, by rw [h2], ?_⟩
  rcases h4 with ⟨h5, h6⟩ | ⟨h5, Gm, h6, h7, h8⟩
  · rcases hP with ⟨p1, -⟩ | ⟨-, p2⟩
    · exact absurd p1 h5
    · refine ⟨h6.2.2, JI_q hJ ?_ h6⟩
      rw [p2]
      exact xQf_r G
  · rcases hP with ⟨-, p2⟩ | ⟨p1, -⟩
    · refine ⟨?_, JI_ch hJ p2 h6 h7 h8 (h9 h5).1 (h9 h5).2⟩
      rw [h7.2.1 10 (by decide) (by decide) (by decide), h6.2.2, h5]
    · exact absurd h5 p1
theorem JI_h0 {G : GM} (hJ : JI G) : 0 ≤ G 193 0 ∧ G 193 0 ≤ 8 := by
  obtain ⟨h1, h2, -⟩ := hJ.1.2.1
  omega
theorem JI_h1 {G : GM} (hJ : JI G) : 0 ≤ G 193 1 ∧ G 193 1 ≤ 7 := hJ.1.2.1.2.2.1
section M9
variable {s : Int → Int}
theorem m9_setClearness (hok : mOk s) (h3 : s 3 ≤ 9999) {c : Int} (h : (q_setClearness s c).1 = 0) : mOk (zp s 2 c) ∧ zp s 2 c 3 ≤ 9999 := by
  unfold q_setClearness at h
  split at h
  · rename_i hc
    exact ⟨mOk_cl hok hc, by rw [zp_ne (by decide)]; exact h3⟩
  · exact absurd h (by decide)
theorem m9_setFog (hok : mOk s) (h3 : s 3 ≤ 9999) {a v : Int} (h : (q_setFog s a v).1 = 0) : mOk (zp s (6 + a) v) ∧ zp s (6 + a) v 3 ≤ 9999 := by
  unfold q_setFog at h
  split at h
  · rename_i hc
    split at h
    · rename_i hf
      exact ⟨mOk_fog hok (by omega) hf, by rw [zp_ne (by omega)]; exact h3⟩
    · exact absurd h (by decide)
  · exact absurd h (by decide)
theorem m9_setTarget (hok : mOk s) (h3 : s 3 ≤ 9999) {t l : Int} (h : (q_setTarget s t l).1 = 0) : mOk (zp s (214 + 7 * t + 3) l) ∧ zp s (214 + 7 * t + 3) l 3 ≤ 9999 := by
  unfold q_setTarget at h
  split at h
  · rename_i hc
    obtain ⟨⟨c1, c2⟩, c3, c4⟩ := hc
    exact ⟨mOk_w3 hok c1 (by omega) (by omega), by rw [zp_ne (by omega)]; exact h3⟩
  · exact absurd h (by decide)
theorem m9_layPlank (hok : mOk s) (h3 : s 3 ≤ 9999) {x y q : Int} (h : (q_layPlank s x y q).1 = 0) : mOk (zp s (30 + 12 * y + x) (10 + q)) ∧ zp s (30 + 12 * y + x) (10 + q) 3 ≤ 9999 := by
  have b := id hok
  obtain ⟨b0, b1, -⟩ := b
  unfold q_layPlank at h
  split at h
  · rename_i hc
    obtain ⟨⟨c1, c2⟩, c3, c4⟩ := hc
    split at h
    · rename_i hq
      rw [show 30 + 12 * y + x = 30 + (12 * y + x) by omega]
      exact ⟨mOk_c hok (by omega) (by omega) (by omega), by rw [zp_ne (by omega)]; exact h3⟩
    · exact absurd h (by decide)
  · exact absurd h (by decide)
theorem m9_tick (hok : mOk s) (h3 : s 3 ≤ 9999) {q : Int} (h : (q_tick s q).1 = 0) : mOk (sTicks s q.toNat) ∧ sTicks s q.toNat 3 ≤ 9999 := by
  unfold q_tick at h
  split at h
  · rename_i hc
    split at h
    · exact absurd h (by decide)
    · rename_i hf
      obtain ⟨r1, r2⟩ := sTicks_ok hok q.toNat (by omega)
      refine ⟨r1, ?_⟩
      have r3 := r2.2.2.2.1
      rw [r3, zp_eq]
      omega
  · exact absurd h (by decide)
theorem m9_addLight (hok : mOk s) (h3 : s 3 ≤ 9999) {x y b v : Int} (hv : v = 0 ∨ v = 1) (h : (q_addLight s x y b).1 = 0) : mOk (sAddL s x y b v) ∧ sAddL s x y b v 3 ≤ 9999 := by
  have b := id hok
  obtain ⟨-, -, -, -, b4, -⟩ := b
  unfold q_addLight at h
  split at h
  · rename_i hc
    obtain ⟨⟨c1, c2⟩, c3, c4⟩ := hc
    split at h
    · rename_i hf
      split at h
      · exact absurd h (by decide)
      · rename_i hn
        have h8 : s 4 ≠ 8 := fun q => hn (Or.inl q)
        refine ⟨mOk_addL hok (by omega) ⟨c1, by omega⟩ ⟨c3, by omega⟩ hf (by omega), ?_⟩
        unfold sAddL
        rw [zp_ne (by decide), zp_ne (by omega), zp_ne (by omega), zp_ne (by omega), zp_ne (by omega), zp_ne (by omega)]
        exact h3
    · exact absurd h (by decide)
  · exact absurd h (by decide)
theorem m9_addTraveller (hok : mOk s) (h3 : s 3 ≤ 9999) {x y : Int} (h : (q_addTraveller s x y).1 = 0) : mOk (sAddW s x y) ∧ sAddW s x y 3 ≤ 9999 := by
  have b := id hok
  obtain ⟨-, -, -, -, -, b5, -⟩ := b
  unfold q_addTraveller at h
  split at h
  · rename_i hc
    obtain ⟨⟨c1, c2⟩, c3, c4⟩ := hc
    split at h
    · exact absurd h (by decide)
    · rename_i hn
      have h6 : s 5 ≠ 6 := fun q => hn (Or.inl q)
      refine ⟨mOk_addW hok (by omega) ⟨c1, by omega⟩ ⟨c3, by omega⟩, ?_⟩
      unfold sAddW
      rw [if_neg (by omega), if_neg (by omega), if_neg (by omega), if_neg (by omega), if_neg (by omega)]
      exact h3
  · exact absurd h (by decide)
theorem m9_setSuccessor (hok : mOk s) (h3 : s 3 ≤ 9999) {l v : Int} (h : (q_setSuccessor s l v).1 = 0) : mOk (zp s (174 + 5 * l + 4) v) ∧ zp s (174 + 5 * l + 4) v 3 ≤ 9999 := by
  unfold q_setSuccessor at h
  split at h
  · rename_i hc
    obtain ⟨⟨c1, c2⟩, c3, c4⟩ := hc
    exact ⟨mOk_n hok c1 (by omega) (by omega), by rw [zp_ne (by omega)]; exact h3⟩
  · exact absurd h (by decide)
theorem m9_clearSuccessor (hok : mOk s) (h3 : s 3 ≤ 9999) {l : Int} (h : (q_clearSuccessor s l).1 = 0) : mOk (zp s (174 + 5 * l + 4) (-1)) ∧ zp s (174 + 5 * l + 4) (-1) 3 ≤ 9999 := by
  have b := id hok
  obtain ⟨-, -, -, -, b4, -⟩ := b
  unfold q_clearSuccessor at h
  split at h
  · rename_i hc
    obtain ⟨c1, c2⟩ := hc
    exact ⟨mOk_n hok c1 (by omega) (by omega), by rw [zp_ne (by omega)]; exact h3⟩
  · exact absurd h (by decide)
end M9
theorem cJ_isWater {N : Nat} {G F : GM} {n : Nat} (hN : 241 ≤ N) (hJ : JI G) {a0 : Int} (h0 : zr a0) {a1 : Int} (h1 : zr a1) : zC N 290 [.ref 192, .int (zi a0), .int (zi a1), .ref 229] G F n (zJq N 68 [.ref 230, .int (zi a0), .int (zi a1)] gB n) := by
  refine zJ_q (cO_isWater hN hJ.2.1.1 hJ.1.1 h0 h1) (fun G1 hP => ?_)
  have e : ∀ k, 228 ≤ k → G1 k = G k := fun k hk => hP k (by omega) (by omega)
  exact zJ_ask hJ hP (fun F2 n2 => cP_isWater hN (by rw [e 231 (by decide)]; exact hJ.2.1.1) h0 h1) (by rw [e 231 (by decide)])
theorem cJ_isHut {N : Nat} {G F : GM} {n : Nat} (hN : 241 ≤ N) (hJ : JI G) {a0 : Int} (h0 : zr a0) {a1 : Int} (h1 : zr a1) : zC N 291 [.ref 192, .int (zi a0), .int (zi a1), .ref 229] G F n (zJq N 69 [.ref 230, .int (zi a0), .int (zi a1)] gB n) := by
  refine zJ_q (cO_isHut hN hJ.2.1.1 hJ.1.1 h0 h1) (fun G1 hP => ?_)
  have e : ∀ k, 228 ≤ k → G1 k = G k := fun k hk => hP k (by omega) (by omega)
  exact zJ_ask hJ hP (fun F2 n2 => cP_isHut hN (by rw [e 231 (by decide)]; exact hJ.2.1.1) h0 h1) (by rw [e 231 (by decide)])
theorem cJ_isPlank {N : Nat} {G F : GM} {n : Nat} (hN : 241 ≤ N) (hJ : JI G) {a0 : Int} (h0 : zr a0) {a1 : Int} (h1 : zr a1) : zC N 292 [.ref 192, .int (zi a0), .int (zi a1), .ref 229] G F n (zJq N 70 [.ref 230, .int (zi a0), .int (zi a1)] gB n) := by
  refine zJ_q (cO_isPlank hN hJ.2.1.1 hJ.1.1 h0 h1) (fun G1 hP => ?_)
  have e : ∀ k, 228 ≤ k → G1 k = G k := fun k hk => hP k (by omega) (by omega)
  exact zJ_ask hJ hP (fun F2 n2 => cP_isPlank hN (by rw [e 231 (by decide)]; exact hJ.2.1.1) h0 h1) (by rw [e 231 (by decide)])
theorem cJ_plankStrength {N : Nat} {G F : GM} {n : Nat} (hN : 241 ≤ N) (hJ : JI G) {a0 : Int} (h0 : zr a0) {a1 : Int} (h1 : zr a1) : zC N 293 [.ref 192, .int (zi a0), .int (zi a1), .ref 229] G F n (zJq N 71 [.ref 230, .int (zi a0), .int (zi a1)] gI n) := by
  refine zJ_q (cO_plankStrength hN hJ.2.1.1 hJ.1.1 h0 h1) (fun G1 hP => ?_)
  have e : ∀ k, 228 ≤ k → G1 k = G k := fun k hk => hP k (by omega) (by omega)
  exact zJ_ask hJ hP (fun F2 n2 => cP_plankStrength hN (by rw [e 231 (by decide)]; exact hJ.2.1.1) h0 h1) (by rw [e 231 (by decide)])
theorem cJ_pathLength {N : Nat} {G F : GM} {n : Nat} (hN : 241 ≤ N) (hJ : JI G) {a0 : Int} (h0 : zr a0) {a1 : Int} (h1 : zr a1) {a2 : Int} (h2 : zr a2) {a3 : Int} (h3 : zr a3) : zC N 294 [.ref 192, .int (zi a0), .int (zi a1), .int (zi a2), .int (zi a3), .ref 229] G F n (zJq N 74 [.ref 230, .int (zi a0), .int (zi a1), .int (zi a2), .int (zi a3)] gI n) := by
  refine zJ_q (cO_pathLength hN hJ.2.1.1 hJ.1.1 h0 h1 h2 h3) (fun G1 hP => ?_)
  have e : ∀ k, 228 ≤ k → G1 k = G k := fun k hk => hP k (by omega) (by omega)
  exact zJ_ask hJ hP (fun F2 n2 => cP_pathLength hN (by rw [e 231 (by decide)]; exact hJ.2.1.1) h0 h1 h2 h3) (by rw [e 231 (by decide)])
theorem cJ_stepsToHut {N : Nat} {G F : GM} {n : Nat} (hN : 241 ≤ N) (hJ : JI G) {a0 : Int} (h0 : zr a0) {a1 : Int} (h1 : zr a1) : zC N 295 [.ref 192, .int (zi a0), .int (zi a1), .ref 229] G F n (zJq N 75 [.ref 230, .int (zi a0), .int (zi a1)] gI n) := by
  refine zJ_q (cO_stepsToHut hN hJ.2.1.1 hJ.1.1 h0 h1) (fun G1 hP => ?_)
  have e : ∀ k, 228 ≤ k → G1 k = G k := fun k hk => hP k (by omega) (by omega)
  exact zJ_ask hJ hP (fun F2 n2 => cP_stepsToHut hN (by rw [e 231 (by decide)]; exact hJ.2.1.1) h0 h1) (by rw [e 231 (by decide)])
theorem cJ_fog {N : Nat} {G F : GM} {n : Nat} (hN : 241 ≤ N) (hJ : JI G) {a0 : Int} (h0 : zr a0) : zC N 296 [.ref 192, .int (zi a0), .ref 229] G F n (zJq N 78 [.ref 230, .int (zi a0)] gI n) := by
  refine zJ_q (cO_fog hN hJ.2.1.1 hJ.1.1 h0) (fun G1 hP => ?_)
  have e : ∀ k, 228 ≤ k → G1 k = G k := fun k hk => hP k (by omega) (by omega)
  exact zJ_ask hJ hP (fun F2 n2 => cP_fog hN (by rw [e 231 (by decide)]; exact hJ.2.1.1) h0) (by rw [e 231 (by decide)])
theorem cJ_lightColumn {N : Nat} {G F : GM} {n : Nat} (hN : 241 ≤ N) (hJ : JI G) {a0 : Int} (h0 : zr a0) : zC N 297 [.ref 192, .int (zi a0), .ref 229] G F n (zJq N 82 [.ref 230, .int (zi a0)] gI n) := by
  refine zJ_q (cO_lightColumn hN hJ.2.1.1 hJ.1.1 h0) (fun G1 hP => ?_)
  have e : ∀ k, 228 ≤ k → G1 k = G k := fun k hk => hP k (by omega) (by omega)
  exact zJ_ask hJ hP (fun F2 n2 => cP_lightColumn hN (by rw [e 231 (by decide)]; exact hJ.2.1.1) h0) (by rw [e 231 (by decide)])
theorem cJ_lightRow {N : Nat} {G F : GM} {n : Nat} (hN : 241 ≤ N) (hJ : JI G) {a0 : Int} (h0 : zr a0) : zC N 298 [.ref 192, .int (zi a0), .ref 229] G F n (zJq N 83 [.ref 230, .int (zi a0)] gI n) := by
  refine zJ_q (cO_lightRow hN hJ.2.1.1 hJ.1.1 h0) (fun G1 hP => ?_)
  have e : ∀ k, 228 ≤ k → G1 k = G k := fun k hk => hP k (by omega) (by omega)
  exact zJ_ask hJ hP (fun F2 n2 => cP_lightRow hN (by rw [e 231 (by decide)]; exact hJ.2.1.1) h0) (by rw [e 231 (by decide)])
theorem cJ_brightness {N : Nat} {G F : GM} {n : Nat} (hN : 241 ≤ N) (hJ : JI G) {a0 : Int} (h0 : zr a0) : zC N 299 [.ref 192, .int (zi a0), .ref 229] G F n (zJq N 84 [.ref 230, .int (zi a0)] gI n) := by
  refine zJ_q (cO_brightness hN hJ.2.1.1 hJ.1.1 h0) (fun G1 hP => ?_)
  have e : ∀ k, 228 ≤ k → G1 k = G k := fun k hk => hP k (by omega) (by omega)
  exact zJ_ask hJ hP (fun F2 n2 => cP_brightness hN (by rw [e 231 (by decide)]; exact hJ.2.1.1) h0) (by rw [e 231 (by decide)])
theorem cJ_isTrueLight {N : Nat} {G F : GM} {n : Nat} (hN : 241 ≤ N) (hJ : JI G) {a0 : Int} (h0 : zr a0) : zC N 300 [.ref 192, .int (zi a0), .ref 229] G F n (zJq N 85 [.ref 230, .int (zi a0)] gB n) := by
  refine zJ_q (cO_isTrueLight hN hJ.2.1.1 hJ.1.1 h0) (fun G1 hP => ?_)
  have e : ∀ k, 228 ≤ k → G1 k = G k := fun k hk => hP k (by omega) (by omega)
  exact zJ_ask hJ hP (fun F2 n2 => cP_isTrueLight hN (by rw [e 231 (by decide)]; exact hJ.2.1.1) h0) (by rw [e 231 (by decide)])
theorem cJ_hasSuccessor {N : Nat} {G F : GM} {n : Nat} (hN : 241 ≤ N) (hJ : JI G) {a0 : Int} (h0 : zr a0) : zC N 301 [.ref 192, .int (zi a0), .ref 229] G F n (zJq N 86 [.ref 230, .int (zi a0)] gB n) := by
  refine zJ_q (cO_hasSuccessor hN hJ.2.1.1 hJ.1.1 h0) (fun G1 hP => ?_)
  have e : ∀ k, 228 ≤ k → G1 k = G k := fun k hk => hP k (by omega) (by omega)
  exact zJ_ask hJ hP (fun F2 n2 => cP_hasSuccessor hN (by rw [e 231 (by decide)]; exact hJ.2.1.1) h0) (by rw [e 231 (by decide)])
theorem cJ_successor {N : Nat} {G F : GM} {n : Nat} (hN : 241 ≤ N) (hJ : JI G) {a0 : Int} (h0 : zr a0) : zC N 302 [.ref 192, .int (zi a0), .ref 229] G F n (zJq N 87 [.ref 230, .int (zi a0)] gI n) := by
  refine zJ_q (cO_successor hN hJ.2.1.1 hJ.1.1 h0) (fun G1 hP => ?_)
  have e : ∀ k, 228 ≤ k → G1 k = G k := fun k hk => hP k (by omega) (by omega)
  exact zJ_ask hJ hP (fun F2 n2 => cP_successor hN (by rw [e 231 (by decide)]; exact hJ.2.1.1) h0) (by rw [e 231 (by decide)])
theorem cJ_followers {N : Nat} {G F : GM} {n : Nat} (hN : 241 ≤ N) (hJ : JI G) {a0 : Int} (h0 : zr a0) : zC N 303 [.ref 192, .int (zi a0), .ref 229] G F n (zJq N 88 [.ref 230, .int (zi a0)] gI n) := by
  refine zJ_q (cO_followers hN hJ.2.1.1 hJ.1.1 h0) (fun G1 hP => ?_)
  have e : ∀ k, 228 ≤ k → G1 k = G k := fun k hk => hP k (by omega) (by omega)
  exact zJ_ask hJ hP (fun F2 n2 => cP_followers hN (by rw [e 231 (by decide)]; exact hJ.2.1.1) h0) (by rw [e 231 (by decide)])
theorem cJ_leadsAstray {N : Nat} {G F : GM} {n : Nat} (hN : 241 ≤ N) (hJ : JI G) {a0 : Int} (h0 : zr a0) : zC N 304 [.ref 192, .int (zi a0), .ref 229] G F n (zJq N 89 [.ref 230, .int (zi a0)] gB n) := by
  refine zJ_q (cO_leadsAstray hN hJ.2.1.1 hJ.1.1 h0) (fun G1 hP => ?_)
  have e : ∀ k, 228 ≤ k → G1 k = G k := fun k hk => hP k (by omega) (by omega)
  exact zJ_ask hJ hP (fun F2 n2 => cP_leadsAstray hN (by rw [e 231 (by decide)]; exact hJ.2.1.1) h0) (by rw [e 231 (by decide)])
theorem cJ_travellerColumn {N : Nat} {G F : GM} {n : Nat} (hN : 241 ≤ N) (hJ : JI G) {a0 : Int} (h0 : zr a0) : zC N 305 [.ref 192, .int (zi a0), .ref 229] G F n (zJq N 93 [.ref 230, .int (zi a0)] gI n) := by
  refine zJ_q (cO_travellerColumn hN hJ.2.1.1 hJ.1.1 h0) (fun G1 hP => ?_)
  have e : ∀ k, 228 ≤ k → G1 k = G k := fun k hk => hP k (by omega) (by omega)
  exact zJ_ask hJ hP (fun F2 n2 => cP_travellerColumn hN (by rw [e 231 (by decide)]; exact hJ.2.1.1) h0) (by rw [e 231 (by decide)])
theorem cJ_travellerRow {N : Nat} {G F : GM} {n : Nat} (hN : 241 ≤ N) (hJ : JI G) {a0 : Int} (h0 : zr a0) : zC N 306 [.ref 192, .int (zi a0), .ref 229] G F n (zJq N 94 [.ref 230, .int (zi a0)] gI n) := by
  refine zJ_q (cO_travellerRow hN hJ.2.1.1 hJ.1.1 h0) (fun G1 hP => ?_)
  have e : ∀ k, 228 ≤ k → G1 k = G k := fun k hk => hP k (by omega) (by omega)
  exact zJ_ask hJ hP (fun F2 n2 => cP_travellerRow hN (by rw [e 231 (by decide)]; exact hJ.2.1.1) h0) (by rw [e 231 (by decide)])
theorem cJ_isWalking {N : Nat} {G F : GM} {n : Nat} (hN : 241 ≤ N) (hJ : JI G) {a0 : Int} (h0 : zr a0) : zC N 307 [.ref 192, .int (zi a0), .ref 229] G F n (zJq N 95 [.ref 230, .int (zi a0)] gB n) := by
  refine zJ_q (cO_isWalking hN hJ.2.1.1 hJ.1.1 h0) (fun G1 hP => ?_)
  have e : ∀ k, 228 ≤ k → G1 k = G k := fun k hk => hP k (by omega) (by omega)
  exact zJ_ask hJ hP (fun F2 n2 => cP_isWalking hN (by rw [e 231 (by decide)]; exact hJ.2.1.1) h0) (by rw [e 231 (by decide)])
theorem cJ_hasArrived {N : Nat} {G F : GM} {n : Nat} (hN : 241 ≤ N) (hJ : JI G) {a0 : Int} (h0 : zr a0) : zC N 308 [.ref 192, .int (zi a0), .ref 229] G F n (zJq N 96 [.ref 230, .int (zi a0)] gB n) := by
  refine zJ_q (cO_hasArrived hN hJ.2.1.1 hJ.1.1 h0) (fun G1 hP => ?_)
  have e : ∀ k, 228 ≤ k → G1 k = G k := fun k hk => hP k (by omega) (by omega)
  exact zJ_ask hJ hP (fun F2 n2 => cP_hasArrived hN (by rw [e 231 (by decide)]; exact hJ.2.1.1) h0) (by rw [e 231 (by decide)])
theorem cJ_hasSunk {N : Nat} {G F : GM} {n : Nat} (hN : 241 ≤ N) (hJ : JI G) {a0 : Int} (h0 : zr a0) : zC N 309 [.ref 192, .int (zi a0), .ref 229] G F n (zJq N 97 [.ref 230, .int (zi a0)] gB n) := by
  refine zJ_q (cO_hasSunk hN hJ.2.1.1 hJ.1.1 h0) (fun G1 hP => ?_)
  have e : ∀ k, 228 ≤ k → G1 k = G k := fun k hk => hP k (by omega) (by omega)
  exact zJ_ask hJ hP (fun F2 n2 => cP_hasSunk hN (by rw [e 231 (by decide)]; exact hJ.2.1.1) h0) (by rw [e 231 (by decide)])
theorem cJ_stepsTaken {N : Nat} {G F : GM} {n : Nat} (hN : 241 ≤ N) (hJ : JI G) {a0 : Int} (h0 : zr a0) : zC N 310 [.ref 192, .int (zi a0), .ref 229] G F n (zJq N 98 [.ref 230, .int (zi a0)] gI n) := by
  refine zJ_q (cO_stepsTaken hN hJ.2.1.1 hJ.1.1 h0) (fun G1 hP => ?_)
  have e : ∀ k, 228 ≤ k → G1 k = G k := fun k hk => hP k (by omega) (by omega)
  exact zJ_ask hJ hP (fun F2 n2 => cP_stepsTaken hN (by rw [e 231 (by decide)]; exact hJ.2.1.1) h0) (by rw [e 231 (by decide)])
theorem cJ_hasTarget {N : Nat} {G F : GM} {n : Nat} (hN : 241 ≤ N) (hJ : JI G) {a0 : Int} (h0 : zr a0) : zC N 311 [.ref 192, .int (zi a0), .ref 229] G F n (zJq N 99 [.ref 230, .int (zi a0)] gB n) := by
  refine zJ_q (cO_hasTarget hN hJ.2.1.1 hJ.1.1 h0) (fun G1 hP => ?_)
  have e : ∀ k, 228 ≤ k → G1 k = G k := fun k hk => hP k (by omega) (by omega)
  exact zJ_ask hJ hP (fun F2 n2 => cP_hasTarget hN (by rw [e 231 (by decide)]; exact hJ.2.1.1) h0) (by rw [e 231 (by decide)])
theorem cJ_target {N : Nat} {G F : GM} {n : Nat} (hN : 241 ≤ N) (hJ : JI G) {a0 : Int} (h0 : zr a0) : zC N 312 [.ref 192, .int (zi a0), .ref 229] G F n (zJq N 100 [.ref 230, .int (zi a0)] gI n) := by
  refine zJ_q (cO_target hN hJ.2.1.1 hJ.1.1 h0) (fun G1 hP => ?_)
  have e : ∀ k, 228 ≤ k → G1 k = G k := fun k hk => hP k (by omega) (by omega)
  exact zJ_ask hJ hP (fun F2 n2 => cP_target hN (by rw [e 231 (by decide)]; exact hJ.2.1.1) h0) (by rw [e 231 (by decide)])
theorem cJ_hasPassed {N : Nat} {G F : GM} {n : Nat} (hN : 241 ≤ N) (hJ : JI G) {a0 : Int} (h0 : zr a0) {a1 : Int} (h1 : zr a1) : zC N 313 [.ref 192, .int (zi a0), .int (zi a1), .ref 229] G F n (zJq N 102 [.ref 230, .int (zi a0), .int (zi a1)] gB n) := by
  refine zJ_q (cO_hasPassed hN hJ.2.1.1 hJ.1.1 h0 h1) (fun G1 hP => ?_)
  have e : ∀ k, 228 ≤ k → G1 k = G k := fun k hk => hP k (by omega) (by omega)
  exact zJ_ask hJ hP (fun F2 n2 => cP_hasPassed hN (by rw [e 231 (by decide)]; exact hJ.2.1.1) h0 h1) (by rw [e 231 (by decide)])
theorem cJ_distrusts {N : Nat} {G F : GM} {n : Nat} (hN : 241 ≤ N) (hJ : JI G) {a0 : Int} (h0 : zr a0) {a1 : Int} (h1 : zr a1) : zC N 314 [.ref 192, .int (zi a0), .int (zi a1), .ref 229] G F n (zJq N 103 [.ref 230, .int (zi a0), .int (zi a1)] gB n) := by
  refine zJ_q (cO_distrusts hN hJ.2.1.1 hJ.1.1 h0 h1) (fun G1 hP => ?_)
  have e : ∀ k, 228 ≤ k → G1 k = G k := fun k hk => hP k (by omega) (by omega)
  exact zJ_ask hJ hP (fun F2 n2 => cP_distrusts hN (by rw [e 231 (by decide)]; exact hJ.2.1.1) h0 h1) (by rw [e 231 (by decide)])
theorem cJ_sees {N : Nat} {G F : GM} {n : Nat} (hN : 241 ≤ N) (hJ : JI G) {a0 : Int} (h0 : zr a0) {a1 : Int} (h1 : zr a1) : zC N 315 [.ref 192, .int (zi a0), .int (zi a1), .ref 229] G F n (zJq N 104 [.ref 230, .int (zi a0), .int (zi a1)] gB n) := by
  refine zJ_q (cO_sees hN hJ.2.1.1 hJ.1.1 h0 h1) (fun G1 hP => ?_)
  have e : ∀ k, 228 ≤ k → G1 k = G k := fun k hk => hP k (by omega) (by omega)
  exact zJ_ask hJ hP (fun F2 n2 => cP_sees hN (by rw [e 231 (by decide)]; exact hJ.2.1.1) h0 h1) (by rw [e 231 (by decide)])
theorem cJ_nearestLight {N : Nat} {G F : GM} {n : Nat} (hN : 241 ≤ N) (hJ : JI G) {a0 : Int} (h0 : zr a0) : zC N 316 [.ref 192, .int (zi a0), .ref 229] G F n (zJq N 105 [.ref 230, .int (zi a0)] gI n) := by
  refine zJ_q (cO_nearestLight hN hJ.2.1.1 hJ.1.1 h0) (fun G1 hP => ?_)
  have e : ∀ k, 228 ≤ k → G1 k = G k := fun k hk => hP k (by omega) (by omega)
  exact zJ_ask hJ hP (fun F2 n2 => cP_nearestLight hN (by rw [e 231 (by decide)]; exact hJ.2.1.1) h0) (by rw [e 231 (by decide)])
theorem cJ_ticksUntilDone {N : Nat} {G F : GM} {n : Nat} (hN : 241 ≤ N) (hJ : JI G) {a0 : Int} (h0 : zr a0) : zC N 317 [.ref 192, .int (zi a0), .ref 229] G F n (zJq N 111 [.ref 230, .int (zi a0)] gI n) := by
  refine zJ_q (cO_ticksUntilDone hN hJ.2.1.1 hJ.1.1 (zSp_eq G) hJ.2.1.2 h0) (fun G1 hP => ?_)
  have e : ∀ k, 228 ≤ k → G1 k = G k := fun k hk => hP k (by omega) (by omega)
  exact zJ_ask hJ hP (fun F2 n2 => cP_ticksUntilDone hN (by rw [e 231 (by decide)]; exact hJ.2.1.1) (by rw [e 231 (by decide)]; exact hJ.2.1.2) h0) (by unfold zSp; rw [e 231 (by decide), e 233 (by decide)])
theorem cJ_willArrive {N : Nat} {G F : GM} {n : Nat} (hN : 241 ≤ N) (hJ : JI G) {a0 : Int} (h0 : zr a0) : zC N 318 [.ref 192, .int (zi a0), .ref 229] G F n (zJq N 112 [.ref 230, .int (zi a0)] gB n) := by
  refine zJ_q (cO_willArrive hN hJ.2.1.1 hJ.1.1 (zSp_eq G) hJ.2.1.2 h0) (fun G1 hP => ?_)
  have e : ∀ k, 228 ≤ k → G1 k = G k := fun k hk => hP k (by omega) (by omega)
  exact zJ_ask hJ hP (fun F2 n2 => cP_willArrive hN (by rw [e 231 (by decide)]; exact hJ.2.1.1) (by rw [e 231 (by decide)]; exact hJ.2.1.2) h0) (by unfold zSp; rw [e 231 (by decide), e 233 (by decide)])
theorem cJ_arrivedAfter {N : Nat} {G F : GM} {n : Nat} (hN : 241 ≤ N) (hJ : JI G) {a0 : Int} (h0 : zr a0) : zC N 319 [.ref 192, .int (zi a0), .ref 229] G F n (zJq N 114 [.ref 230, .int (zi a0)] gI n) := by
  refine zJ_q (cO_arrivedAfter hN hJ.2.1.1 hJ.1.1 (zSp_eq G) hJ.2.1.2 h0) (fun G1 hP => ?_)
  have e : ∀ k, 228 ≤ k → G1 k = G k := fun k hk => hP k (by omega) (by omega)
  exact zJ_ask hJ hP (fun F2 n2 => cP_arrivedAfter hN (by rw [e 231 (by decide)]; exact hJ.2.1.1) (by rw [e 231 (by decide)]; exact hJ.2.1.2) h0) (by unfold zSp; rw [e 231 (by decide), e 233 (by decide)])
theorem cJ_sunkAfter {N : Nat} {G F : GM} {n : Nat} (hN : 241 ≤ N) (hJ : JI G) {a0 : Int} (h0 : zr a0) : zC N 320 [.ref 192, .int (zi a0), .ref 229] G F n (zJq N 115 [.ref 230, .int (zi a0)] gI n) := by
  refine zJ_q (cO_sunkAfter hN hJ.2.1.1 hJ.1.1 (zSp_eq G) hJ.2.1.2 h0) (fun G1 hP => ?_)
  have e : ∀ k, 228 ≤ k → G1 k = G k := fun k hk => hP k (by omega) (by omega)
  exact zJ_ask hJ hP (fun F2 n2 => cP_sunkAfter hN (by rw [e 231 (by decide)]; exact hJ.2.1.1) (by rw [e 231 (by decide)]; exact hJ.2.1.2) h0) (by unfold zSp; rw [e 231 (by decide), e 233 (by decide)])
theorem cJ_tick {N : Nat} {G F : GM} {n : Nat} (hN : 241 ≤ N) (hJ : JI G) {a0 : Int} (h0 : zr a0) : zC N 321 [.ref 192, .int (zi a0), .ref 229] G F n (zJq N 118 [.ref 230, .int (zi a0)] gI n) := by
  refine zJ_q (cO_tick hN hJ.2.1.1 hJ.1.1 (JI_h0 hJ) (JI_h1 hJ) h0) (fun G1 hP => ?_)
  have e := xCq_e hP
  exact zJ_su hJ hP (fun F2 n2 => cP_tick hN (by rw [e 231 (by decide)]; exact hJ.2.1.1) (by rw [e 230 (by decide)]; exact hJ.2.2.1.1) (by rw [e 231 (by decide)]; exact hJ.2.1.2) h0) (by rw [e 231 (by decide)]) (by rw [e 231 (by decide)]) (m9_tick hJ.2.1.1 hJ.2.1.2)
theorem cJ_addLight {N : Nat} {G F : GM} {n : Nat} (hN : 241 ≤ N) (hJ : JI G) {a0 : Int} (h0 : zr a0) {a1 : Int} (h1 : zr a1) {a2 : Int} (h2 : zr a2) {a3 : Int} (h3 : a3 = 0 ∨ a3 = 1) : zC N 322 [.ref 192, .int (zi a0), .int (zi a1), .int (zi a2), .int (zi a3), .ref 229] G F n (zJq N 119 [.ref 230, .int (zi a0), .int (zi a1), .int (zi a2), .int (zi a3)] gI n) := by
  refine zJ_q (cO_addLight hN hJ.2.1.1 hJ.1.1 (JI_h0 hJ) (JI_h1 hJ) h0 h1 h2 h3) (fun G1 hP => ?_)
  have e := xCq_e hP
  exact zJ_su hJ hP (fun F2 n2 => cP_addLight hN (by rw [e 231 (by decide)]; exact hJ.2.1.1) (by rw [e 230 (by decide)]; exact hJ.2.2.1.1) h0 h1 h2 h3) (by rw [e 231 (by decide)]) (by rw [e 231 (by decide)]) (m9_addLight hJ.2.1.1 hJ.2.1.2 h3)
theorem cJ_addTraveller {N : Nat} {G F : GM} {n : Nat} (hN : 241 ≤ N) (hJ : JI G) {a0 : Int} (h0 : zr a0) {a1 : Int} (h1 : zr a1) : zC N 323 [.ref 192, .int (zi a0), .int (zi a1), .ref 229] G F n (zJq N 120 [.ref 230, .int (zi a0), .int (zi a1)] gI n) := by
  refine zJ_q (cO_addTraveller hN hJ.2.1.1 hJ.1.1 (JI_h0 hJ) (JI_h1 hJ) h0 h1) (fun G1 hP => ?_)
  have e := xCq_e hP
  exact zJ_su hJ hP (fun F2 n2 => cP_addTraveller hN (by rw [e 231 (by decide)]; exact hJ.2.1.1) (by rw [e 230 (by decide)]; exact hJ.2.2.1.1) h0 h1) (by rw [e 231 (by decide)]) (by rw [e 231 (by decide)]) (m9_addTraveller hJ.2.1.1 hJ.2.1.2)
theorem cJ_setSuccessor {N : Nat} {G F : GM} {n : Nat} (hN : 241 ≤ N) (hJ : JI G) {a0 : Int} (h0 : zr a0) {a1 : Int} (h1 : zr a1) : zC N 324 [.ref 192, .int (zi a0), .int (zi a1), .ref 229] G F n (zJq N 121 [.ref 230, .int (zi a0), .int (zi a1)] gI n) := by
  refine zJ_q (cO_setSuccessor hN hJ.2.1.1 hJ.1.1 (JI_h0 hJ) (JI_h1 hJ) h0 h1) (fun G1 hP => ?_)
  have e := xCq_e hP
  exact zJ_su hJ hP (fun F2 n2 => cP_setSuccessor hN (by rw [e 231 (by decide)]; exact hJ.2.1.1) (by rw [e 230 (by decide)]; exact hJ.2.2.1.1) h0 h1) (by rw [e 231 (by decide)]) (by rw [e 231 (by decide)]) (m9_setSuccessor hJ.2.1.1 hJ.2.1.2)
theorem cJ_clearSuccessor {N : Nat} {G F : GM} {n : Nat} (hN : 241 ≤ N) (hJ : JI G) {a0 : Int} (h0 : zr a0) : zC N 325 [.ref 192, .int (zi a0), .ref 229] G F n (zJq N 122 [.ref 230, .int (zi a0)] gI n) := by
  refine zJ_q (cO_clearSuccessor hN hJ.2.1.1 hJ.1.1 (JI_h0 hJ) (JI_h1 hJ) h0) (fun G1 hP => ?_)
  have e := xCq_e hP
  exact zJ_su hJ hP (fun F2 n2 => cP_clearSuccessor hN (by rw [e 231 (by decide)]; exact hJ.2.1.1) (by rw [e 230 (by decide)]; exact hJ.2.2.1.1) h0) (by rw [e 231 (by decide)]) (by rw [e 231 (by decide)]) (m9_clearSuccessor hJ.2.1.1 hJ.2.1.2)
theorem cJ_layPlank {N : Nat} {G F : GM} {n : Nat} (hN : 241 ≤ N) (hJ : JI G) {a0 : Int} (h0 : zr a0) {a1 : Int} (h1 : zr a1) {a2 : Int} (h2 : zr a2) : zC N 326 [.ref 192, .int (zi a0), .int (zi a1), .int (zi a2), .ref 229] G F n (zJq N 123 [.ref 230, .int (zi a0), .int (zi a1), .int (zi a2)] gI n) := by
  refine zJ_q (cO_layPlank hN hJ.2.1.1 hJ.1.1 (JI_h0 hJ) (JI_h1 hJ) h0 h1 h2) (fun G1 hP => ?_)
  have e := xCq_e hP
  exact zJ_su hJ hP (fun F2 n2 => cP_layPlank hN (by rw [e 231 (by decide)]; exact hJ.2.1.1) (by rw [e 230 (by decide)]; exact hJ.2.2.1.1) h0 h1 h2) (by rw [e 231 (by decide)]) (by rw [e 231 (by decide)]) (m9_layPlank hJ.2.1.1 hJ.2.1.2)
theorem cJ_setClearness {N : Nat} {G F : GM} {n : Nat} (hN : 241 ≤ N) (hJ : JI G) {a0 : Int} (h0 : zr a0) : zC N 327 [.ref 192, .int (zi a0), .ref 229] G F n (zJq N 124 [.ref 230, .int (zi a0)] gI n) := by
  refine zJ_q (cO_setClearness hN hJ.2.1.1 hJ.1.1 (JI_h0 hJ) (JI_h1 hJ) h0) (fun G1 hP => ?_)
  have e := xCq_e hP
  exact zJ_su hJ hP (fun F2 n2 => cP_setClearness hN (by rw [e 231 (by decide)]; exact hJ.2.1.1) (by rw [e 230 (by decide)]; exact hJ.2.2.1.1) h0) (by rw [e 231 (by decide)]) (by rw [e 231 (by decide)]) (m9_setClearness hJ.2.1.1 hJ.2.1.2)
theorem cJ_setFog {N : Nat} {G F : GM} {n : Nat} (hN : 241 ≤ N) (hJ : JI G) {a0 : Int} (h0 : zr a0) {a1 : Int} (h1 : zr a1) : zC N 328 [.ref 192, .int (zi a0), .int (zi a1), .ref 229] G F n (zJq N 125 [.ref 230, .int (zi a0), .int (zi a1)] gI n) := by
  refine zJ_q (cO_setFog hN hJ.2.1.1 hJ.1.1 (JI_h0 hJ) (JI_h1 hJ) h0 h1) (fun G1 hP => ?_)
  have e := xCq_e hP
  exact zJ_su hJ hP (fun F2 n2 => cP_setFog hN (by rw [e 231 (by decide)]; exact hJ.2.1.1) (by rw [e 230 (by decide)]; exact hJ.2.2.1.1) h0 h1) (by rw [e 231 (by decide)]) (by rw [e 231 (by decide)]) (m9_setFog hJ.2.1.1 hJ.2.1.2)
theorem cJ_setTarget {N : Nat} {G F : GM} {n : Nat} (hN : 241 ≤ N) (hJ : JI G) {a0 : Int} (h0 : zr a0) {a1 : Int} (h1 : zr a1) : zC N 329 [.ref 192, .int (zi a0), .int (zi a1), .ref 229] G F n (zJq N 126 [.ref 230, .int (zi a0), .int (zi a1)] gI n) := by
  refine zJ_q (cO_setTarget hN hJ.2.1.1 hJ.1.1 (JI_h0 hJ) (JI_h1 hJ) h0 h1) (fun G1 hP => ?_)
  have e := xCq_e hP
  exact zJ_su hJ hP (fun F2 n2 => cP_setTarget hN (by rw [e 231 (by decide)]; exact hJ.2.1.1) (by rw [e 230 (by decide)]; exact hJ.2.2.1.1) h0 h1) (by rw [e 231 (by decide)]) (by rw [e 231 (by decide)]) (m9_setTarget hJ.2.1.1 hJ.2.1.2)
