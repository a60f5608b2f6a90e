/-! The program: an hour passes (printed by wip/whole/src54.py). -/
/-- nobody below k who walks has or finds a goal -/
def sQt (u : Int → Int) (k : Nat) : Prop := ∀ j : Nat, j < k → u (214 + 7 * (j : Int) + 2) = 0 → sAim u j (214 + 7 * (j : Int) + 3) < 0
theorem sAim_self {u : Int → Int} {t : Int} (hok : mOk u) (t0 : 0 ≤ t) (t1 : t < u 5) (h : sAim u t (214 + 7 * t + 3) < 0) : sAim u t = u := by
  obtain ⟨-, -, -, wg, -⟩ := hok.2.2.2.2.2.2.2.2.2 t t0 t1
  have hn := sNear_rng u t (u 4).toNat
  unfold sAim at h ⊢
  by_cases e : u (214 + 7 * t + 3) < 0
  · rw [if_pos e] at h ⊢
    rw [zp_eq] at h
    rw [show sNear u t (u 4).toNat = u (214 + 7 * t + 3) by omega]
    exact zp_self _ _
  · rw [if_neg e]
theorem sQt_s {u : Int → Int} {k : Nat} (h : sQt u k) (h2 : u (214 + 7 * (k : Int) + 2) = 0 → sAim u k (214 + 7 * (k : Int) + 3) < 0) : sQt u (k + 1) := fun j hj hw => by
  by_cases e : j < k
  · exact h j e hw
  · have e2 : j = k := by omega
    subst e2
    exact h2 hw
theorem cR_hour {N : Nat} {F : GM} {n : Nat} (hN : 229 ≤ N) {w : Nat} (hw : w < 12) {s : Int → Int} (hok : mOk s) (ht : s 3 < 30000) {G0 : GM} {Q : Zq} {tk en e nn : Int} (hk : ∀ (G : GM) (q : Int) (a6 : Value), RX G w (sTick s) → xWy G (sTick s) → xSF w G0 G → xDn w G0 G → (q = 0 ∨ (q = e ∧ sTick s = zp s 3 (s 3 + 1) ∧ sQt (sTick s) (s 5).toNat)) → zW N 171 46 [.ref 199, .ref (16 * w), .int (zi tk), .int (zi en), .int (zi q), .int (zi nn), a6] [] G F n Q) : ∀ (d : Nat) (k : Nat) (q : Int) (G : GM), s 5 - (k : Int) < (d : Int) → (k : Int) ≤ s 5 → RX G w (sTickR s k) → xWy G (sTickR s k) → xSF w G0 G → xDn w G0 G → (q = 0 ∨ (q = e ∧ sTickR s k = zp s 3 (s 3 + 1) ∧ sQt (sTickR s k) k)) → zW N 171 26 [.ref 199, .ref (16 * w), .int (zi tk), .int (zi en), .int (zi q), .int (zi nn), .int (zi (k : Int))] [] G F n Q := by
  intro d
  induction d with
  | zero =>
    intro k q G hd hj hR hWy hSF hDn hI
    exact absurd hd (by omega)
  | succ d ih =>
    intro k q G hd hj hR hWy hSF hDn hI
    obtain ⟨hk1, hz, h6s⟩ := sTickR_ok hok ht k hj
    obtain ⟨u, hu0⟩ : ∃ u, u = sTickR s k := ⟨_, rfl⟩
    have hu : sTickR s (k + 1) = if u (214 + 7 * (k : Int) + 2) = 0 then sAct u k else u := by rw [hu0]; rfl
    rw [← hu0] at hk1 hz h6s hR hWy hI
    have b5 := hok.2.2.2.2.2.1
    have z5 : u 5 = s 5 := hz.2.2.2.2.2.1.trans (zp_ne (by omega))
    have z3 : u 3 = s 3 + 1 := hz.2.2.2.1.trans (zp_eq _ _ _)
    have hc7 := (RX_n hR).2
    rw [z5] at hc7
    refine zs_iload (ip' := 27) rfl rfl rfl ?_
    refine zs_aload (ip' := 28) rfl rfl rfl ?_
    refine zs_getR (ip' := 29) rfl rfl (r := 16 * w + 7) (by omega) (zsh_w0 hw) rfl ?_
    refine zs_getI (ip' := 30) rfl rfl (by omega) (zsh_w7 hw) rfl (q := 0) rfl ?_
    intro hl29 hu29
    rw [hc7] at hl29 hu29 ⊢
    refine zs_icmp_ge (t := 46) (ip' := 31) rfl rfl (by omega) (by omega) ?_ ?_
    · intro h30
      have eT : sTick s = u := by rw [hu0]; exact congrArg (sTickR s) (by omega)
      have ek : (s 5).toNat = k := by omega
      exact hk G q _ (by rw [eT]; exact hR) (by rw [eT]; exact hWy) hSF hDn (by rw [eT, ek]; exact hI)
    · intro h30
      refine zs_aload (ip' := 32) rfl rfl rfl ?_
      refine zs_getR (ip' := 33) rfl rfl (r := 16 * w + 7) (by omega) (zsh_w0 hw) rfl ?_
      refine zs_getR (ip' := 34) rfl rfl (r := 16 * w + 9) (by omega) (zsh_w7 hw) rfl ?_
      refine zs_iload (ip' := 35) rfl rfl rfl ?_
      refine zs_iald (ip' := 36) rfl rfl (by omega) (zsh_w9 hw) (by omega) ?_
      intro hl35 hu35
      obtain ⟨-, hp2, -⟩ := hR.2.2.2.2.2 (k : Int) (by omega) (by omega)
      rw [hp2] at hl35 hu35 ⊢
      have h6k := h6s (k : Int) (by omega) (by omega)
      obtain ⟨-, -, -, -, ws1, ws2⟩ := hok.2.2.2.2.2.2.2.2.2 (k : Int) (by omega) (by omega)
      refine zs_if_ne (t := 44) (ip' := 37) rfl rfl (by omega) ?_ ?_
      · intro h36
        refine zs_iinc6 (ip' := 45) rfl rfl zi_k1 ?_
        refine zs_goto (t := 26) rfl ?_
        have eS : sTickR s (k + 1) = u := hu.trans (if_neg h36)
        exact ih (k + 1) q G (by omega) (by omega) (by rw [eS]; exact hR) (by rw [eS]; exact hWy) hSF hDn (by rw [eS]; exact hI.imp id (fun ⟨a, b, c⟩ => ⟨a, b, sQt_s c (fun hh => absurd hh h36)⟩))
      · intro h36
        refine zs_aload (ip' := 38) rfl rfl rfl ?_
        refine zs_aload (ip' := 39) rfl rfl rfl ?_
        refine zs_iload (ip' := 40) rfl rfl rfl ?_
        refine zW_cR (ip' := 41) rfl rfl (cR_act hN hw hk1 hR (by omega) (by omega) (by omega) hWy (by rw [hp2]; exact h36)) rfl rfl (z_ok3 (by omega) zsh_199 rfl rfl rfl) ?_
        rintro v G2 F' n' hvr ⟨⟨hva, hR2, hW2⟩, ⟨hS2, hD2⟩, rfl, rfl⟩
        have eA : sTickR s (k + 1) = sAct u k := hu.trans (if_pos h36)
        refine zs_if_eq (t := 44) (ip' := 42) rfl rfl (by omega) ?_ ?_
        · intro h41
          refine zs_iinc6 (ip' := 45) rfl rfl zi_k1 ?_
          refine zs_goto (t := 26) rfl ?_
          have hneg : sAim u k (214 + 7 * (k : Int) + 3) < 0 := (hva.resolve_right (fun q => absurd (q.1.symm.trans h41) (by decide))).2
          have eu : sAct u k = u := (if_pos hneg : sAct u k = sAim u k).trans (sAim_self hk1 (by omega) (by omega) hneg)
          rw [eu] at eA hR2 hW2
          exact ih (k + 1) q G2 (by omega) (by omega) (by rw [eA]; exact hR2) (by rw [eA]; exact hW2) (xSF_t hSF hS2) (xDn_t hDn hD2) (by rw [eA]; exact hI.imp id (fun ⟨a, b, c⟩ => ⟨a, b, sQt_s c (fun _ => hneg)⟩))
        · intro h41
          refine zs_pushI (ip' := 43) rfl rfl zi_k0 ?_
          refine zs_istore4 (ip' := 44) rfl rfl ?_
          refine zs_iinc6 (ip' := 45) rfl rfl zi_k1 ?_
          refine zs_goto (t := 26) rfl ?_
          exact ih (k + 1) 0 G2 (by omega) (by omega) (by rw [eA]; exact hR2) (by rw [eA]; exact hW2) (xSF_t hSF hS2) (xDn_t hDn hD2) (Or.inl rfl)
