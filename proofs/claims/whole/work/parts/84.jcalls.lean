/-! Joint calls: the others. -/
theorem cQ_restoreNo {N : Nat} {G F : GM} {n : Nat} (hN : 229 ≤ N) {c : Int} (hc : zr c) (hn : ¬ (0 ≤ c ∧ c ≤ 1)) : zC N 262 [.ref 192, .int (zi c)] G F n (zQx F n [3, 2] ((1, 0) : Int × Int) (fun G' => G' = G)) := by
  refine zC_i (L0 := [.ref 192, .int (zi c)]) rfl ?_
  refine zs_aload (ip' := 1) rfl rfl rfl ?_
  refine zs_iload (ip' := 2) rfl rfl rfl ?_
  refine zW_cT (ip' := 3) rfl rfl (cT_slot hc) rfl rfl (z_ok3 (by omega) zsh_192 rfl rfl rfl) rfl rfl ?_ ?_
  · intro _
    exact zqx1 rfl rfl rfl
  · intro h
    exact absurd h hn
theorem cO_restoreNo {N : Nat} {G F : GM} {n : Nat} (hN : 241 ≤ N) {c : Int} (hc : zr c) (hn : ¬ (0 ≤ c ∧ c ≤ 1)) : zC N 332 [.ref 192, .int (zi c), .ref 229] G F n (zLx gI F n ((1, 0) : Int × Int) (fun G' => G' = G)) := by
  refine zC_i (L0 := [.ref 192, .int (zi c), .ref 229, .null]) rfl ?_
  refine zs_aload (ip' := 1) rfl rfl rfl ?_
  refine zs_pushI (ip' := 2) rfl rfl zi_k0 ?_
  refine zs_aload (ip' := 3) rfl rfl rfl ?_
  refine zs_iload (ip' := 4) rfl rfl rfl ?_
  refine zW_cL (ip' := 5) rfl rfl (cQ_restoreNo (by omega) hc hn) rfl rfl (z_ok3 (by omega) zsh_192 rfl rfl rfl) rfl (zx2 rfl rfl) ?_
  intro G' v9 hP9 h09 hv9 hz9
  exact absurd h09 (by decide)
section JS
variable {N : Nat} {G F : GM} {n : Nat}
theorem cJ_errorOffset (hN : 241 ≤ N) (hJ : JI G) : zC N 289 [.ref 192, .ref 229] G F n (zJq N 65 [.ref 230] gI n) := by
  obtain ⟨⟨h1, h2, h3, h4, h5, h6, h7⟩, ⟨⟨o1, o2⟩, ⟨o3, o4⟩, o5, o6, o7, o8⟩⟩ := id hJ
  refine zJ_q (cO_errorOffset hN (by rw [h5]; exact o7)) (fun G1 hP => ?_)
  have e : ∀ k, 228 ≤ k → G1 k = G k := fun k hk => hP k (by omega) (by omega)
  exact zJ_ask hJ hP (fun F2 n2 => cP_errorOffset hN (by rw [e 231 (by decide)]; exact o1)) (by rw [e 230 (by decide), h5])
theorem cJ_printedByte (hN : 241 ≤ N) (hJ : JI G) {a0 : Int} (h0 : zr a0) : zC N 333 [.ref 192, .int (zi a0), .ref 229] G F n (zJq N 134 [.ref 230, .int (zi a0)] gI n) := by
  obtain ⟨⟨h1, h2, h3, h4, h5, h6, h7⟩, ⟨⟨o1, o2⟩, ⟨o3, o4⟩, o5, o6, o7, o8⟩⟩ := id hJ
  refine zJ_q (cO_printedByte hN (by rw [h6]; exact o8) h0) (fun G1 hP => ?_)
  have e : ∀ k, 228 ≤ k → G1 k = G k := fun k hk => hP k (by omega) (by omega)
  refine zJ_ask hJ hP (fun F2 n2 => cP_printedByte hN (by rw [e 231 (by decide)]; exact o1) (by rw [e 230 (by decide)]; omega) h0) ?_
  rw [e 230 (by decide), e 240 (by decide), h6]
  unfold q_printedByte
  by_cases hc : 0 ≤ a0 ∧ a0 ≤ G 230 22 - 1
  · rw [if_pos hc, if_pos hc, h7 a0 hc.1 (by omega)]
  · rw [if_neg hc, if_neg hc]
theorem cJ_append (hN : 241 ≤ N) (hJ : JI G) {a0 a1 a2 a3 a4 : Int} (h0 : zr a0) (k1 : zr a1) (k2 : zr a2) (k3 : zr a3) (k4 : zr a4) : zC N 286 [.ref 192, .int (zi a0), .int (zi a1), .int (zi a2), .int (zi a3), .int (zi a4), .ref 229] G F n (zJq N 44 [.ref 230, .int (zi a0), .int (zi a1), .int (zi a2), .int (zi a3), .int (zi a4)] gI n) := by
  obtain ⟨⟨h1, h2, h3, ⟨b1, b2, b3⟩, h5, h6, h7⟩, ⟨⟨o1, o2⟩, ⟨o3, o4⟩, o5, o6, o7, o8⟩⟩ := id hJ
  refine zJ_q (cO_append hN (by rw [b1]; exact b2) h0 k1 k2 k3 k4) (fun G1 hP => ?_)
  have e : ∀ k, 228 ≤ k → G1 k = G k := fun k hk => by
    rcases hP with ⟨-, hP, -⟩ | ⟨-, hP⟩
    · exact hP.1 k (by omega) (by omega)
    · rw [hP]
  intro F2 n2
  refine zW_w ?_ (cP_append hN (by rw [e 230 (by decide)]; exact b2) h0 k1 k2 k3 k4)
  rintro o G2 F3 n3 ⟨c1, c2, c3, c4⟩
  rw [e 230 (by decide), ← b1] at c1 c4
  refine ⟨c1, c3, by rw [c2], ?_⟩
  rcases c4 with ⟨d1, d2⟩ | ⟨d1, Gm, d2, d3⟩
  · rcases hP with ⟨p1, -⟩ | ⟨-, p2⟩
    · exact absurd p1 d1
    · exact ⟨d2.2.2, JI_q hJ (by rw [p2]; exact xQf_r G) d2⟩
  · rcases hP with ⟨-, p1, p2, p3, p4⟩ | ⟨p1, -⟩
    · have hl : G 230 8 + 20 ≤ 800 := by
        rw [b1] at d1
        unfold q_append at d1
        split at d1
        · exact absurd d1 (by decide)
        · omega
      refine ⟨?_, JI_ap hJ hl p1 p2 p3 p4 d2 (by rw [d3, e 230 (by decide), b1])⟩
      rw [d3, zTw_230, zp_ne (by decide), d2.2.2, d1]
    · exact absurd d1 p1
theorem cJ_shorten (hN : 241 ≤ N) (hJ : JI G) {a0 : Int} (h0 : zr a0) : zC N 287 [.ref 192, .int (zi a0), .ref 229] G F n (zJq N 45 [.ref 230, .int (zi a0)] gI n) := by
  obtain ⟨⟨h1, h2, h3, ⟨b1, b2, b3⟩, h5, h6, h7⟩, ⟨⟨o1, o2⟩, ⟨o3, o4⟩, o5, o6, o7, o8⟩⟩ := id hJ
  refine zJ_q (cO_shorten hN (by rw [b1]; exact b2) h0) (fun G1 hP => ?_)
  have e : ∀ k, 228 ≤ k → G1 k = G k := fun k hk => by
    rcases hP with ⟨-, hP⟩ | ⟨-, hP⟩
    · rw [hP, zk_ne (by omega)]
    · rw [hP]
  intro F2 n2
  refine zW_w ?_ (cP_shorten hN (by rw [e 230 (by decide)]; exact b2) h0)
  rintro o G2 F3 n3 ⟨c1, c2, c3, c4⟩
  rw [e 230 (by decide), ← b1] at c1 c4
  refine ⟨c1, c3, by rw [c2], ?_⟩
  rcases c4 with ⟨d1, d2⟩ | ⟨d1, Gm, d2, d3⟩
  · rcases hP with ⟨p1, -⟩ | ⟨-, p2⟩
    · exact absurd p1 d1
    · exact ⟨d2.2.2, JI_q hJ (by rw [p2]; exact xQf_r G) d2⟩
  · rcases hP with ⟨-, p1⟩ | ⟨p1, -⟩
    · have hl : 0 ≤ a0 ∧ a0 ≤ G 230 8 := by
        rw [b1] at d1
        unfold q_shorten at d1
        split at d1
        · rename_i hc
          exact hc
        · exact absurd d1 (by decide)
      refine ⟨?_, JI_sh hJ hl p1 d2 d3⟩
      rw [d3, zk_eq, zp_ne (by decide), d2.2.2, d1]
    · exact absurd d1 p1
theorem cJ_undo (hN : 241 ≤ N) (hJ : JI G) : zC N 330 [.ref 192, .ref 229] G F n (zJq N 127 [.ref 230] gI n) := by
  obtain ⟨⟨h1, h2, h3, h4, h5, h6, h7⟩, ⟨⟨o1, o2⟩, ⟨o3, o4⟩, o5, o6, o7, o8⟩⟩ := id hJ
  refine zJ_q (cO_undo hN h2 (fun hu => (o4 0 (by omega)).1)) (fun G1 hP => ?_)
  have e : ∀ k, 228 ≤ k → G1 k = G k := fun k hk => by
    rcases hP with ⟨-, hP⟩ | ⟨-, hP⟩
    · exact hP.2.1 k (by omega) (by omega)
    · rw [hP]
  intro F2 n2
  refine zW_w ?_ (cP_undo hN (by rw [e 230 (by decide)]; exact o3))
  rintro o G2 F3 n3 ⟨c1, c2, c3, c4⟩
  rw [show q_undo (G1 230 6) = q_undo (G 230 6) by rw [e 230 (by decide)]] at c1 c4
  refine ⟨c1, c3, by rw [c2], ?_⟩
  rcases c4 with ⟨d1, d2⟩ | ⟨d1, Gm, d2, d3⟩
  · rcases hP with ⟨p1, -⟩ | ⟨-, p2⟩
    · exact absurd p1 d1
    · exact ⟨d2.2.2, JI_q hJ (by rw [p2]; exact xQf_r G) d2⟩
  · rcases hP with ⟨-, p1⟩ | ⟨p1, -⟩
    · have hl : 0 < G 230 6 := by
        unfold q_undo at d1
        split at d1
        · exact absurd d1 (by decide)
        · omega
      refine ⟨?_, JI_un hJ hl p1 d2 d3⟩
      rw [d3, zk_ne (by decide), zk_eq, zp_ne (by decide), d2.2.2, d1]
    · exact absurd d1 p1
theorem cJ_saveSnapshot (hN : 241 ≤ N) (hJ : JI G) {a0 : Int} (h0 : zr a0) : zC N 331 [.ref 192, .int (zi a0), .ref 229] G F n (zJq N 128 [.ref 230, .int (zi a0)] gI n) := by
  obtain ⟨⟨h1, h2, h3, h4, h5, h6, h7⟩, ⟨⟨o1, o2⟩, ⟨o3, o4⟩, o5, o6, o7, o8⟩⟩ := id hJ
  refine zJ_q (cO_saveSnapshot hN o1 h1 h0) (fun G1 hP => ?_)
  have e : ∀ k, 228 ≤ k → G1 k = G k := fun k hk => by
    rcases hP with ⟨-, hP⟩ | ⟨-, hP⟩
    · exact hP.1 k (by omega) (by omega)
    · rw [hP]
  intro F2 n2
  refine zW_w ?_ (cP_saveSnapshot hN h0)
  rintro o G2 F3 n3 ⟨c1, c2, c3, c4⟩
  rw [show q_save (G1 231) a0 = q_save (G 231) a0 by rw [e 231 (by decide)]] at c1 c4
  refine ⟨c1, c3, by rw [c2], ?_⟩
  rcases c4 with ⟨d1, d2⟩ | ⟨d1, Gm, d2, d3⟩
  · rcases hP with ⟨p1, -⟩ | ⟨-, p2⟩
    · exact absurd p1 d1
    · exact ⟨d2.2.2, JI_q hJ (by rw [p2]; exact xQf_r G) d2⟩
  · rcases hP with ⟨-, p1⟩ | ⟨p1, -⟩
    · have hl : 0 ≤ a0 ∧ a0 ≤ 1 := by
        unfold q_save at d1
        split at d1
        · rename_i hc
          exact hc
        · exact absurd d1 (by decide)
      refine ⟨?_, JI_sv hJ hl p1 d2 d3⟩
      rw [d3, zk_ne (by decide), zk_ne (by decide), d2.2.2, d1]
    · exact absurd d1 p1
theorem cJ_restoreSnapshot (hN : 241 ≤ N) (hJ : JI G) {a0 : Int} (h0 : zr a0) : zC N 332 [.ref 192, .int (zi a0), .ref 229] G F n (zJq N 129 [.ref 230, .int (zi a0)] gI n) := by
  obtain ⟨⟨h1, h2, h3, h4, h5, h6, h7⟩, ⟨⟨o1, o2⟩, ⟨o3, o4⟩, o5, o6, o7, o8⟩⟩ := id hJ
  have hz : ∀ t : Int → Int, 0 ≤ a0 ∧ a0 ≤ 1 → q_restore (G 236) t a0 = q_restore (G 196) t a0 := fun t hc => by
    unfold q_restore
    rw [(h3 a0 hc.1 hc.2).1]
  have hz2 : ∀ t : Int → Int, ¬ (0 ≤ a0 ∧ a0 ≤ 1) → ∀ (k : Int → Int) , q_restore k t a0 = (1, 0) := fun t hc k => if_neg hc
  by_cases hb : 0 ≤ a0 ∧ a0 ≤ 1
  case neg =>
    refine zJ_q (cO_restoreNo hN h0 hb) (fun G1 hP => ?_)
    subst hP
    intro F2 n2
    refine zW_w ?_ (cP_restoreSnapshot hN o1 o3 h0)
    rintro o G2 F3 n3 ⟨c1, c2, c3, c4⟩
    rw [hz2 _ hb] at c1 c4
    refine ⟨c1, c3, by rw [c2], ?_⟩
    rcases c4 with ⟨d1, d2⟩ | ⟨d1, -⟩
    · exact ⟨d2.2.2, JI_q hJ (xQf_r _) d2⟩
    · exact absurd d1 (by decide)
  by_cases hk : (0 ≤ a0 ∧ a0 ≤ 1) ∧ G 236 a0 ≠ 0
  · obtain ⟨hc, hk⟩ := hk
    have ht : zEq (xSn G a0) (zlr (G 235) (G 231) (256 * a0) 0 256) := fun i i0 i1 => by
      rw [zlr_in (by omega)]
      unfold xSn
      congr 1
      omega
    obtain ⟨q1, q2⟩ := (o5 a0 hc.1 hc.2).2 hk
    refine zJ_q (cO_restoreSnapshot hN o1 h1 (JI_h0 hJ) (JI_h1 hJ) h0 (t := zlr (G 235) (G 231) (256 * a0) 0 256) (mOk_eq ht q1) (fun _ w hw => RX_eq q1 ((h3 a0 hc.1 hc.2).2 hk w hw) ht)) (fun G1 hP => ?_)
    have e := xCq_e hP
    refine zJ_su hJ hP (fun F2 n2 => cP_restoreSnapshot hN (by rw [e 231 (by decide)]; exact o1) (by rw [e 230 (by decide)]; exact o3) h0) ?_ (by rw [e 231 (by decide), e 235 (by decide)]) (fun _ => ⟨mOk_eq ht q1, by rw [ht 3 (by decide) (by decide)]; exact q2⟩)
    rw [e 231 (by decide), e 235 (by decide), e 236 (by decide)]
    exact hz _ hc
  · have hq : ∀ (t t' : Int → Int), q_restore (G 236) t a0 = q_restore (G 196) t' a0 := fun t t' => by
      by_cases hc : 0 ≤ a0 ∧ a0 ≤ 1
      · have h0 : G 236 a0 = 0 := Classical.byContradiction fun h => hk ⟨hc, h⟩
        have h00 : G 196 a0 = 0 := (h3 a0 hc.1 hc.2).1.trans h0
        unfold q_restore
        rw [if_pos hc, if_pos hc, if_pos h0, if_pos h00]
      · rw [hz2 t hc, hz2 t' hc]
    have hn : (q_restore (G 196) (G 231) a0).1 ≠ 0 := by
      unfold q_restore
      by_cases hc : 0 ≤ a0 ∧ a0 ≤ 1
      · have h0 : G 236 a0 = 0 := Classical.byContradiction fun h => hk ⟨hc, h⟩
        rw [if_pos hc, if_pos ((h3 a0 hc.1 hc.2).1.trans h0)]
        decide
      · rw [if_neg hc]
        decide
    refine zJ_q (cO_restoreSnapshot hN o1 h1 (JI_h0 hJ) (JI_h1 hJ) h0 (t := G 231) o1 (fun h w hw => ?_)) (fun G1 hP => ?_)
    · by_cases hc : 0 ≤ a0 ∧ a0 ≤ 1
      · have h0 : G 236 a0 = 0 := Classical.byContradiction fun h => hk ⟨hc, h⟩
        exact absurd ((h3 a0 hc.1 hc.2).1.trans h0) h
      · exact absurd hb hc
    · have e := xCq_e hP
      intro F2 n2
      refine zW_w ?_ (cP_restoreSnapshot hN (by rw [e 231 (by decide)]; exact o1) (by rw [e 230 (by decide)]; exact o3) h0)
      rintro o G2 F3 n3 ⟨c1, c2, c3, c4⟩
      rw [show q_restore (G1 236) (zlr (G1 235) (G1 231) (256 * a0) 0 256) a0 = q_restore (G 196) (G 231) a0 by rw [e 236 (by decide)]; exact hq _ _] at c1 c4
      refine ⟨c1, c3, by rw [c2], ?_⟩
      rcases c4 with ⟨d1, d2⟩ | ⟨d1, -⟩
      · rcases hP with ⟨p1, -⟩ | ⟨-, p2⟩
        · exact absurd p1 d1
        · exact ⟨d2.2.2, JI_q hJ (by rw [p2]; exact xQf_r G) d2⟩
      · exact absurd d1 hn
theorem cJ_load (hN : 241 ≤ N) (hJ : JI G) : zC N 288 [.ref 192, .ref 229] G F n (zJq N 62 [.ref 230] gI n) := by
  obtain ⟨⟨h1, h2, h3, h4, h5, h6, h7⟩, ⟨⟨o1, o2⟩, ⟨o3, o4⟩, o5, o6, o7, o8⟩⟩ := id hJ
  obtain ⟨x, hx⟩ : ∃ x, x = pText (G 237) (G 230 8) (0, 0, -1, zlr (fun _ => 0) (G 232) 0 0 256) := ⟨_, rfl⟩
  have hz : ∀ i, 0 ≤ i → i < 256 → zlr (fun _ => 0) (G 232) 0 0 256 i = 0 := fun i i0 i1 => zlr_in (by omega)
  refine zJ_q (cO_load hN h4 hz hx) (fun G1 hP => ?_)
  have e : ∀ k, 198 ≤ k → G1 k = G k := fun k hk => hP.1 k (by omega) (by omega) (by omega) (by omega) (by omega)
  intro F2 n2
  have hb : zBa G1 := by
    unfold zBa
    rw [e 230 (by decide), e 237 (by decide)]
    exact o6
  refine zW_w ?_ (cP_load hN hb)
  rintro o G2 F3 n3 hL
  rw [e 230 (by decide), e 237 (by decide), e 232 (by decide), ← hx] at hL
  obtain ⟨c1, c2, c3, c4, c5, c6, c7⟩ := hL
  have h9 : x.2.2.2 3 ≤ 9999 := by
    have q : pT3 x := by
      rw [hx]
      refine pT_text ⟨?_, ?_, ?_⟩
      · exact hz 3 (by decide) (by decide)
      · exact Int.le_of_eq (hz 4 (by decide) (by decide)).symm
      · exact Int.le_of_eq (hz 5 (by decide) (by decide)).symm
    have := q.1
    omega
  rcases c7 with ⟨d1, d2, d3, d4, d5, d6⟩ | ⟨d1, d2, d3, d4, d5, d6⟩
  · have hq : q_load x = (1, 0) := if_neg (by omega)
    refine ⟨by rw [hq]; exact d2, c1, c2 229 (by decide), by rw [hq]; exact d3, JI_ld hJ hP (fun _ => h9) c3 c4 c5 c6 (Or.inl ⟨d1, d4, d5, d6⟩)⟩
  · have hq : q_load x = (0, x.2.2.2 5) := if_pos d1
    refine ⟨by rw [hq]; exact d2, c1, c2 229 (by decide), by rw [hq]; exact d3, JI_ld hJ hP (fun _ => h9) c3 c4 c5 c6 (Or.inr ⟨d1, d4, d5, d6⟩)⟩
end JS
/-- .. an int -/
def zJi (N m : Nat) (n : Nat) : Zq := fun o G1 _ n1 => ∃ v : Int, o = .inl (some (.int (zi v))) ∧ n1 = n ∧ ∀ (F2 : GM) (n2 : Nat), zC N m [.ref 230] G1 F2 n2 (fun o G2 _ n3 => o = .inl (some (.int (zi v))) ∧ n3 = n2 ∧ JI G2)
def zJf (N m : Nat) (n : Nat) : Zq := fun o G1 _ n1 => ∃ v : UInt32, (FP.f2d v &&& 0x7fffffffffffffff ≤ 0x7ff0000000000000) ∧ o = .inl (some (.float v)) ∧ n1 = n ∧ ∀ (F2 : GM) (n2 : Nat), zC N m [.ref 230] G1 F2 n2 (fun o G2 _ n3 => o = .inl (some (.float v)) ∧ n3 = n2 ∧ JI G2)
def zJb (N m : Nat) (n : Nat) : Zq := fun o G1 _ n1 => ∃ v : UInt64, o = .inl (some (.double v)) ∧ n1 = n ∧ ∀ (F2 : GM) (n2 : Nat), zC N m [.ref 230] G1 F2 n2 (fun o G2 _ n3 => o = .inl (some (.double v)) ∧ n3 = n2 ∧ JI G2)
section JD
variable {N : Nat} {G F : GM} {n : Nat}
theorem zJ_pu (hN : 241 ≤ N) (hJ : JI G) {y m : Nat} {v v' : Int} (hX : zPu N y [.ref 192] v G F n) (hM : ∀ (F2 : GM) (n2 : Nat), zC N m [.ref 230] G F2 n2 (zQm G F2 n2 ((0 : Int), v'))) (e : v' = v) : zC N y [.ref 192] G F n (zJi N m n) := by
  subst e
  refine zW_w ?_ hX
  rintro o G1 F1 n1 ⟨h1, rfl, h3, h4⟩
  exact ⟨v', h1, h4, fun F2 n2 => zW_w (fun o G2 F3 n3 ⟨c1, c2, c3, c4⟩ => ⟨c1, c4, JI_q hJ (xQf_r _) c2⟩) (hM F2 n2)⟩
theorem cJ_width (hN : 241 ≤ N) (hJ : JI G) : zC N 206 [.ref 192] G F n (zJi N 66 n) := zJ_pu hN hJ (cQ_width (by omega) hJ.2.1.1 hJ.1.1) (fun F2 n2 => cP_width hN hJ.2.1.1) rfl
theorem cJ_height (hN : 241 ≤ N) (hJ : JI G) : zC N 207 [.ref 192] G F n (zJi N 67 n) := zJ_pu hN hJ (cQ_height (by omega) hJ.2.1.1 hJ.1.1) (fun F2 n2 => cP_height hN hJ.2.1.1) rfl
theorem cJ_plankCount (hN : 241 ≤ N) (hJ : JI G) : zC N 212 [.ref 192] G F n (zJi N 73 n) := zJ_pu hN hJ (cQ_plankCount (by omega) hJ.2.1.1 hJ.1.1) (fun F2 n2 => cP_plankCount hN hJ.2.1.1) rfl
theorem cJ_time (hN : 241 ≤ N) (hJ : JI G) : zC N 215 [.ref 192] G F n (zJi N 76 n) := zJ_pu hN hJ (cQ_time (by omega) hJ.2.1.1 hJ.1.1) (fun F2 n2 => cP_time hN hJ.2.1.1) rfl
theorem cJ_clearness (hN : 241 ≤ N) (hJ : JI G) : zC N 216 [.ref 192] G F n (zJi N 77 n) := zJ_pu hN hJ (cQ_clearness (by omega) hJ.2.1.1 hJ.1.1) (fun F2 n2 => cP_clearness hN hJ.2.1.1) rfl
theorem cJ_sight (hN : 241 ≤ N) (hJ : JI G) : zC N 218 [.ref 192] G F n (zJi N 79 n) := zJ_pu hN hJ (cQ_sight (by omega) hJ.2.1.1 hJ.1.1) (fun F2 n2 => cP_sight hN hJ.2.1.1) rfl
theorem cJ_lightCount (hN : 241 ≤ N) (hJ : JI G) : zC N 219 [.ref 192] G F n (zJi N 80 n) := zJ_pu hN hJ (cQ_lightCount (by omega) hJ.2.1.1 hJ.1.1) (fun F2 n2 => cP_lightCount hN hJ.2.1.1) rfl
theorem cJ_travellerCount (hN : 241 ≤ N) (hJ : JI G) : zC N 228 [.ref 192] G F n (zJi N 90 n) := zJ_pu hN hJ (cQ_travellerCount (by omega) hJ.2.1.1 hJ.1.1) (fun F2 n2 => cP_travellerCount hN hJ.2.1.1) rfl
theorem cJ_walkingCount (hN : 241 ≤ N) (hJ : JI G) : zC N 241 [.ref 192] G F n (zJi N 106 n) := zJ_pu hN hJ (cQ_walkingCount (by omega) hJ.2.1.1 hJ.1.1) (fun F2 n2 => cP_walkingCount hN hJ.2.1.1) rfl
theorem cJ_arrivedCount (hN : 241 ≤ N) (hJ : JI G) : zC N 242 [.ref 192] G F n (zJi N 107 n) := zJ_pu hN hJ (cQ_arrivedCount (by omega) hJ.2.1.1 hJ.1.1) (fun F2 n2 => cP_arrivedCount hN hJ.2.1.1) rfl
theorem cJ_sunkCount (hN : 241 ≤ N) (hJ : JI G) : zC N 243 [.ref 192] G F n (zJi N 108 n) := zJ_pu hN hJ (cQ_sunkCount (by omega) hJ.2.1.1 hJ.1.1) (fun F2 n2 => cP_sunkCount hN hJ.2.1.1) rfl
theorem zf_share2 : ∀ c, c < 7 → ∀ k, k < 7 → k ≠ 0 → FP.f2d (FP.fdiv (FP.i2f (zi ((c : Nat) : Int))) (FP.i2f (zi ((k : Nat) : Int)))) &&& 0x7fffffffffffffff ≤ 0x7ff0000000000000 := by decide +kernel
theorem zf_share3 {s : Int → Int} (hok : mOk s) : FP.f2d (sShare s) &&& 0x7fffffffffffffff ≤ 0x7ff0000000000000 := by
  unfold sShare
  split
  · decide +kernel
  · rename_i h5
    obtain ⟨-, -, -, -, -, b5, -⟩ := hok
    have hc := sCount_rng s 1 b5
    obtain ⟨p1, p2⟩ : ∃ c : Nat, sCount s 1 = c := ⟨(sCount s 1).toNat, by omega⟩
    obtain ⟨p3, p4⟩ : ∃ c : Nat, s 5 = c := ⟨(s 5).toNat, by omega⟩
    rw [p2, p4]
    exact zf_share2 p1 (by omega) p3 (by omega) (by omega)
theorem cJ_hasError (hN : 241 ≤ N) (hJ : JI G) : zC N 204 [.ref 192] G F n (zJi N 64 n) := by
  have h5 : G 192 10 = G 230 9 := hJ.1.2.2.2.2.1
  have o7 : -1 ≤ G 230 9 := hJ.2.2.2.2.2.1
  exact zJ_pu hN hJ (cQ_hasError (by omega) (by rw [h5]; exact o7)) (fun F2 n2 => cP_hasError hN hJ.2.1.1) (by rw [h5])
theorem cJ_bestClearness (hN : 241 ≤ N) (hJ : JI G) : zC N 250 [.ref 192] G F n (zJi N 116 n) := by
  refine zW_w ?_ (cQ_bestClearness (by omega) hJ.2.1.1 hJ.1.1 (zSp_eq G) hJ.2.1.2)
  rintro o G1 F1 n1 ⟨h1, h2, h3, h4⟩
  have e : ∀ k, 228 ≤ k → G1 k = G k := fun k hk => h2 k (by omega) (by omega)
  refine ⟨_, h1, h4, fun F2 n2 => zW_w ?_ (cP_bestClearness hN (by rw [e 231 (by decide)]; exact hJ.2.1.1) (by rw [e 231 (by decide)]; exact hJ.2.1.2))⟩
  rintro o G2 F3 n3 ⟨c1, c2, c3, c4⟩
  have e3 : zSp G1 = zSp G := by
    unfold zSp
    rw [e 231 (by decide), e 233 (by decide)]
  refine ⟨?_, c4, JI_q hJ h2 c2⟩
  rw [e3] at c1
  rw [c1]
theorem cJ_print (hN : 241 ≤ N) (hJ : JI G) : zC N 263 [.ref 192] G F n (zJi N 133 n) := by
  refine zW_w ?_ (cQ_print (by omega) hJ.2.1.1 hJ.1.1)
  rintro o G1 F1 n1 ⟨h1, h2, h3, h4⟩
  have e : ∀ k, 229 ≤ k → G1 k = G k := fun k hk => by rw [h4, zk_ne (by omega), zk_ne (by omega)]
  refine ⟨_, h1, h3, fun F2 n2 => zW_w ?_ (cP_print hN (by rw [e 231 (by decide)]; exact hJ.2.1.1))⟩
  rintro o G2 F3 n3 ⟨c1, c2, c3, Gm, c4, c5⟩
  rw [e 231 (by decide), e 240 (by decide)] at c1 c5
  refine ⟨?_, c3, JI_pr hJ rfl rfl h4 c4 c5⟩
  rw [(sPrO_eq (s := G 231) (A := G 228) (B := G 240) (G 231 1).toNat).1]
  exact c1
theorem cJ_arrivedShare (hN : 241 ≤ N) (hJ : JI G) : zC N 244 [.ref 192] G F n (zJf N 109 n) := by
  refine zW_w ?_ (cQ_arrivedShare (by omega) hJ.2.1.1 hJ.1.1)
  rintro o G1 F1 n1 ⟨h1, rfl, h3, h4⟩
  refine ⟨_, zf_share3 hJ.2.1.1, h1, h4, fun F2 n2 => zW_w ?_ (cP_arrivedShare hN hJ.2.1.1)⟩
  rintro o G2 F3 n3 ⟨c1, c2, c3, c4⟩
  exact ⟨c1, c4, JI_q hJ (xQf_r _) c2⟩
theorem cJ_meanSteps (hN : 241 ≤ N) (hJ : JI G) : zC N 245 [.ref 192] G F n (zJb N 110 n) := by
  refine zW_w ?_ (cQ_meanSteps (by omega) hJ.2.1.1 hJ.1.1)
  rintro o G1 F1 n1 ⟨h1, rfl, h3, h4⟩
  refine ⟨_, h1, h4, fun F2 n2 => zW_w ?_ (cP_meanSteps hN hJ.2.1.1)⟩
  rintro o G2 F3 n3 ⟨c1, c2, c3, c4⟩
  exact ⟨c1, c4, JI_q hJ (xQf_r _) c2⟩
end JD
