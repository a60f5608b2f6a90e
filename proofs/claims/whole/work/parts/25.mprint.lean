/-! The reference model: the text, printing, the share (printed by wip/whole/src25.py). -/
/-- a memory with one row and one of the model's fields changed -/
def zTw (G : GM) (r : Nat) (T : Int → Int) (j v : Int) : GM := zk (zk G r T) 230 (zp (G 230) j v)
section TW
variable {G : GM} {r : Nat} {T T' : Int → Int} {j v v' : Int}
theorem zTw_r (h : r ≠ 230) : zTw G r T j v r = T := by
  unfold zTw
  rw [zk_ne h, zk_eq]
theorem zTw_230 : zTw G r T j v 230 = zp (G 230) j v := zk_eq _ _ _
theorem zTw_j : zTw G r T j v 230 j = v := by rw [zTw_230, zp_eq]
theorem zTw_o {k : Nat} (h0 : k ≠ 230) (h : k ≠ r) : zTw G r T j v k = G k := by
  unfold zTw
  rw [zk_ne h0, zk_ne h]
theorem zTw_wr (h : r ≠ 230) : zk (zTw G r T j v) r T' = zTw G r T' j v := by
  unfold zTw
  rw [zk_sw h.symm, zk_zk]
theorem zTw_wj : zk (zTw G r T j v) 230 (zp (zTw G r T j v 230) j v') = zTw G r T j v' := by
  rw [zTw_230, zp_zp]
  unfold zTw
  rw [zk_zk]
end TW
theorem cP_hasError {N : Nat} {G F : GM} {n : Nat} (hN : 241 ≤ N) (hok : mOk (G 231)) : zC N 64 [.ref 230] G F n (zQm G F n (((0 : Int), zb (0 ≤ G 230 9)))) := by
  refine zC_i (L0 := [.ref 230]) rfl ?_
  refine zs_aload (ip' := 1) rfl rfl rfl ?_
  refine zs_pushI (ip' := 2) rfl rfl zi_k0 ?_
  refine zs_putI (ip' := 3) rfl rfl (by omega) zsh_230 rfl (q := 10) rfl (by omega) ?_
  have hm := zMk_0 (G := G) (t := 0)
  generalize zk G 230 (zp (G 230) 10 0) = G1 at hm ⊢
  have e1 := zMk_r hm
  have e9 : G1 230 9 = G 230 9 := hm.2.1 9 (by decide) (by decide) (by decide)
  rw [← e9]
  refine zs_aload (ip' := 4) rfl rfl rfl ?_
  refine zs_getI (ip' := 5) rfl rfl (by omega) zsh_230 rfl (q := 9) rfl ?_
  intro hl4 hu4
  refine zs_if_lt (t := 8) (ip' := 6) rfl rfl (by omega) ?_ ?_
  · intro h5
    refine zs_pushI (ip' := 9) rfl rfl zi_k0 ?_
    refine zW_0b rfl (Or.inl rfl) ?_
    exact zQ_ok hm (by rw [zb_f (by omega)])
  · intro h5
    refine zs_pushI (ip' := 7) rfl rfl zi_k1 ?_
    refine zs_goto (t := 9) rfl ?_
    refine zW_0b rfl (Or.inr rfl) ?_
    exact zQ_ok hm (by rw [zb_t (by omega)])
def q_errorOffset (e : Int) : Int × Int := if e < 0 then (1, 0) else (0, e)
theorem cP_errorOffset {N : Nat} {G F : GM} {n : Nat} (hN : 241 ≤ N) (hok : mOk (G 231)) : zC N 65 [.ref 230] G F n (zQm G F n (q_errorOffset (G 230 9))) := by
  refine zC_i (L0 := [.ref 230]) rfl ?_
  refine zs_aload (ip' := 1) rfl rfl rfl ?_
  refine zs_pushI (ip' := 2) rfl rfl zi_k0 ?_
  refine zs_putI (ip' := 3) rfl rfl (by omega) zsh_230 rfl (q := 10) rfl (by omega) ?_
  have hm := zMk_0 (G := G) (t := 0)
  generalize zk G 230 (zp (G 230) 10 0) = G1 at hm ⊢
  have e1 := zMk_r hm
  have e9 : G1 230 9 = G 230 9 := hm.2.1 9 (by decide) (by decide) (by decide)
  rw [← e9]
  refine zs_aload (ip' := 4) rfl rfl rfl ?_
  refine zs_getI (ip' := 5) rfl rfl (by omega) zsh_230 rfl (q := 9) rfl ?_
  intro hl4 hu4
  refine zs_if_ge (t := 10) (ip' := 6) rfl rfl (by omega) ?_ ?_
  · intro h5
    refine zs_aload (ip' := 11) rfl rfl rfl ?_
    refine zs_getI (ip' := 12) rfl rfl (by omega) zsh_230 rfl (q := 9) rfl ?_
    intro hl11 hu11
    refine zW_0 rfl ?_
    exact zQ_ok hm (if_neg (by omega))
  · intro h5
    refine zs_aload (ip' := 7) rfl rfl rfl ?_
    refine zs_pushI (ip' := 8) rfl rfl zi_k1 ?_
    refine zW_cR (ip' := 9) rfl rfl (cM_fails hN (by decide)) rfl rfl (z_ok3 (by omega) zsh_230 rfl rfl rfl) ?_
    rintro v G' F' n' _ ⟨rfl, rfl, rfl, rfl⟩
    refine zs_goto (t := 12) rfl ?_
    refine zW_0 rfl ?_
    exact zQ_no hm (if_pos h5)
def q_shorten (n c : Int) : Int × Int := if 0 ≤ c ∧ c ≤ n then (0, c) else (1, 0)
def q_append (n : Int) : Int × Int := if 800 < n + 20 then (1, 0) else (0, n + 20)
theorem cP_shorten {N : Nat} {G F : GM} {n : Nat} (hN : 241 ≤ N) (hl : 0 ≤ G 230 8 ∧ G 230 8 ≤ 800) {c : Int} (hc : zr c) : zC N 45 [.ref 230, .int (zi c)] G F n (zUn G F n (q_shorten (G 230 8) c) (fun G' => ∃ G1, zMk G G1 0 ∧ G' = zk G1 230 (zp (G1 230) 8 c))) := by
  refine zC_i (L0 := [.ref 230, .int (zi c)]) rfl ?_
  refine zs_aload (ip' := 1) rfl rfl rfl ?_
  refine zs_pushI (ip' := 2) rfl rfl zi_k0 ?_
  refine zs_putI (ip' := 3) rfl rfl (by omega) zsh_230 rfl (q := 10) rfl (by omega) ?_
  have hm := zMk_0 (G := G) (t := 0)
  generalize hG1 : zk G 230 (zp (G 230) 10 0) = G1 at hm ⊢
  have e8 : G1 230 8 = G 230 8 := hm.2.1 8 (by decide) (by decide) (by decide)
  rw [← e8] at hl ⊢
  refine zs_iload (ip' := 4) rfl rfl rfl ?_
  refine zs_pushI (ip' := 5) rfl rfl zi_k0 ?_
  refine zs_aload (ip' := 6) rfl rfl rfl ?_
  refine zs_getI (ip' := 7) rfl rfl (by omega) zsh_230 rfl (q := 8) rfl ?_
  intro hl6 hu6
  refine zW_cP (ip' := 8) rfl rfl (cM_in (by omega) (by omega) (by omega)) rfl rfl rfl ?_
  refine zs_if_neB (t := 13) (ip' := 9) rfl rfl ?_ ?_
  · intro h8
    refine zs_aload (ip' := 14) rfl rfl rfl ?_
    refine zs_iload (ip' := 15) rfl rfl rfl ?_
    refine zs_putI (ip' := 16) rfl rfl (by omega) zsh_230 rfl (q := 8) rfl (by omega) ?_
    refine zs_aload (ip' := 17) rfl rfl rfl ?_
    refine zs_getI (ip' := 18) rfl rfl (by omega) zsh_230 rfl (q := 8) rfl ?_
    intro hl17 hu17
    refine zW_0 rfl ?_
    rw [zk_eq, zp_eq]
    exact zUn_ok (if_pos h8) ⟨G1, hm, rfl⟩
  · intro h8
    refine zs_aload (ip' := 10) rfl rfl rfl ?_
    refine zs_pushI (ip' := 11) rfl rfl zi_k1 ?_
    refine zW_cR (ip' := 12) rfl rfl (cM_fails hN (by decide)) rfl rfl (z_ok3 (by omega) zsh_230 rfl rfl rfl) ?_
    rintro v G' F' n' _ ⟨rfl, rfl, rfl, rfl⟩
    refine zW_0 rfl ?_
    exact zUn_no hm (if_neg h8) (by decide)
theorem cM_append_l {N : Nat} {G F : GM} {n : Nat} (hN : 241 ≤ N) {a b c e f : Int} (ha : zr a) (hb : zr b) (hc : zr c) (he : zr e) (hf : zr f) {t : Int → Int} {n0 : Int} (hn : 0 ≤ n0 ∧ n0 ≤ 780) {Q : Zq} (hQ : Q (.inl (some (.int (zi (n0 + 20))))) (zTw G 237 (sApp t n0 a b c e f 20) 8 (n0 + 20)) F n) : ∀ (d : Nat) (k : Nat) (a7 : Value), 20 - (k : Int) < (d : Int) → (k : Int) ≤ 20 → zW N 44 15 [.ref 230, .int (zi a), .int (zi b), .int (zi c), .int (zi e), .int (zi f), .int (zi (k : Int)), a7] [] (zTw G 237 (sApp t n0 a b c e f k) 8 (n0 + k)) F n Q := by
  intro d
  induction d with
  | zero =>
    intro k a7 hd hj
    exact absurd hd (by omega)
  | succ d ih =>
    intro k a7 hd hj
    refine zs_iload (ip' := 16) rfl rfl rfl ?_
    refine zs_pushI (ip' := 17) rfl rfl zi_k20 ?_
    refine zs_icmp_ge (t := 64) (ip' := 18) rfl rfl (by omega) (by omega) ?_ ?_
    · intro h17
      refine zs_aload (ip' := 65) rfl rfl rfl ?_
      refine zs_getI (ip' := 66) rfl rfl (by omega) zsh_230 rfl (q := 8) rfl ?_
      intro hl65 hu65
      rw [zTw_j] at hl65 hu65 ⊢
      refine zW_0 rfl ?_
      rw [show (k : Int) = 20 by omega]
      exact hQ
    · intro h17
      refine zs_iload (ip' := 19) rfl rfl rfl ?_
      refine zs_pushI (ip' := 20) rfl rfl zi_k4 ?_
      refine zs_icmp_ge (t := 23) (ip' := 21) rfl rfl (by omega) (by omega) ?_ ?_
      · intro h20
        refine zs_iload (ip' := 24) rfl rfl rfl ?_
        refine zs_pushI (ip' := 25) rfl rfl zi_k8 ?_
        refine zs_icmp_ge (t := 28) (ip' := 26) rfl rfl (by omega) (by omega) ?_ ?_
        · intro h25
          refine zs_iload (ip' := 29) rfl rfl rfl ?_
          refine zs_pushI (ip' := 30) rfl rfl zi_k12 ?_
          refine zs_icmp_ge (t := 33) (ip' := 31) rfl rfl (by omega) (by omega) ?_ ?_
          · intro h30
            refine zs_iload (ip' := 34) rfl rfl rfl ?_
            refine zs_pushI (ip' := 35) rfl rfl zi_k16 ?_
            refine zs_icmp_ge (t := 38) (ip' := 36) rfl rfl (by omega) (by omega) ?_ ?_
            · intro h35
              refine zs_iload (ip' := 39) rfl rfl rfl ?_
              refine zs_istore7 (ip' := 40) rfl rfl ?_
              refine zs_aload (ip' := 41) rfl rfl rfl ?_
              refine zs_getR (ip' := 42) rfl rfl (r := 237) (by omega) zsh_230 rfl ?_
              refine zs_aload (ip' := 43) rfl rfl rfl ?_
              refine zs_getI (ip' := 44) rfl rfl (by omega) zsh_230 rfl (q := 8) rfl ?_
              intro hl43 hu43
              rw [zTw_j] at hl43 hu43 ⊢
              refine zs_iload (ip' := 45) rfl rfl rfl ?_
              refine zs_pushI (ip' := 46) rfl rfl zi_k24 ?_
              refine zs_pushI (ip' := 47) rfl rfl zi_k8 ?_
              refine zs_iload (ip' := 48) rfl rfl rfl ?_
              refine zs_pushI (ip' := 49) rfl rfl zi_k4 ?_
              refine zs_irem (ip' := 50) rfl rfl (by omega) (by omega) ?_
              refine zs_imul (ip' := 51) rfl rfl ?_
              refine zs_isub (ip' := 52) rfl rfl ?_
              refine zs_ishr (ip' := 53) rfl rfl ?_
              refine zs_pushI (ip' := 54) rfl rfl zi_k255 ?_
              refine zs_iand (ip' := 55) rfl rfl ?_
              refine zs_iast (ip' := 56) rfl rfl (by omega) zsh_237 (by omega) (zr_and _ _) ?_
              rw [zTw_r (by decide), zTw_wr (by decide)]
              refine zs_aload (ip' := 57) rfl rfl rfl ?_
              refine zs_dupR (ip' := 58) rfl rfl ?_
              refine zs_getI (ip' := 59) rfl rfl (by omega) zsh_230 rfl (q := 8) rfl ?_
              intro hl58 hu58
              rw [zTw_j] at hl58 hu58 ⊢
              refine zs_pushI (ip' := 60) rfl rfl zi_k1 ?_
              refine zs_iadd (ip' := 61) rfl rfl ?_
              refine zs_putI (ip' := 62) rfl rfl (by omega) zsh_230 rfl (q := 8) rfl (by omega) ?_
              rw [zTw_wj, show n0 + (k : Int) + 1 = n0 + ((k + 1 : Nat) : Int) by omega]
              refine zs_iinc6 (ip' := 63) rfl rfl zi_k1 ?_
              refine zs_goto (t := 15) rfl ?_
              have ew : sWord a b c e f k = f := (if_neg (by omega)).trans ((if_neg (by omega)).trans ((if_neg (by omega)).trans (if_neg (by omega))))
              have eb := sApp_s t n0 a b c e f (k := (k : Int)) (by omega)
              unfold sByte at eb
              rw [ew] at eb
              have := ih (k + 1) (.int (zi f)) (by omega) (by omega)
              rw [show ((k + 1 : Nat) : Int) = (k : Int) + 1 from rfl, ← eb] at this
              rw [show ((k + 1 : Nat) : Int) = (k : Int) + 1 from rfl]
              exact this
            · intro h35
              refine zs_iload (ip' := 37) rfl rfl rfl ?_
              refine zs_goto (t := 39) rfl ?_
              refine zs_istore7 (ip' := 40) rfl rfl ?_
              refine zs_aload (ip' := 41) rfl rfl rfl ?_
              refine zs_getR (ip' := 42) rfl rfl (r := 237) (by omega) zsh_230 rfl ?_
              refine zs_aload (ip' := 43) rfl rfl rfl ?_
              refine zs_getI (ip' := 44) rfl rfl (by omega) zsh_230 rfl (q := 8) rfl ?_
              intro hl43 hu43
              rw [zTw_j] at hl43 hu43 ⊢
              refine zs_iload (ip' := 45) rfl rfl rfl ?_
              refine zs_pushI (ip' := 46) rfl rfl zi_k24 ?_
              refine zs_pushI (ip' := 47) rfl rfl zi_k8 ?_
              refine zs_iload (ip' := 48) rfl rfl rfl ?_
              refine zs_pushI (ip' := 49) rfl rfl zi_k4 ?_
              refine zs_irem (ip' := 50) rfl rfl (by omega) (by omega) ?_
              refine zs_imul (ip' := 51) rfl rfl ?_
              refine zs_isub (ip' := 52) rfl rfl ?_
              refine zs_ishr (ip' := 53) rfl rfl ?_
              refine zs_pushI (ip' := 54) rfl rfl zi_k255 ?_
              refine zs_iand (ip' := 55) rfl rfl ?_
              refine zs_iast (ip' := 56) rfl rfl (by omega) zsh_237 (by omega) (zr_and _ _) ?_
              rw [zTw_r (by decide), zTw_wr (by decide)]
              refine zs_aload (ip' := 57) rfl rfl rfl ?_
              refine zs_dupR (ip' := 58) rfl rfl ?_
              refine zs_getI (ip' := 59) rfl rfl (by omega) zsh_230 rfl (q := 8) rfl ?_
              intro hl58 hu58
              rw [zTw_j] at hl58 hu58 ⊢
              refine zs_pushI (ip' := 60) rfl rfl zi_k1 ?_
              refine zs_iadd (ip' := 61) rfl rfl ?_
              refine zs_putI (ip' := 62) rfl rfl (by omega) zsh_230 rfl (q := 8) rfl (by omega) ?_
              rw [zTw_wj, show n0 + (k : Int) + 1 = n0 + ((k + 1 : Nat) : Int) by omega]
              refine zs_iinc6 (ip' := 63) rfl rfl zi_k1 ?_
              refine zs_goto (t := 15) rfl ?_
              have ew : sWord a b c e f k = e := (if_neg (by omega)).trans ((if_neg (by omega)).trans ((if_neg (by omega)).trans (if_pos (by omega))))
              have eb := sApp_s t n0 a b c e f (k := (k : Int)) (by omega)
              unfold sByte at eb
              rw [ew] at eb
              have := ih (k + 1) (.int (zi e)) (by omega) (by omega)
              rw [show ((k + 1 : Nat) : Int) = (k : Int) + 1 from rfl, ← eb] at this
              rw [show ((k + 1 : Nat) : Int) = (k : Int) + 1 from rfl]
              exact this
          · intro h30
            refine zs_iload (ip' := 32) rfl rfl rfl ?_
            refine zs_goto (t := 39) rfl ?_
            refine zs_istore7 (ip' := 40) rfl rfl ?_
            refine zs_aload (ip' := 41) rfl rfl rfl ?_
            refine zs_getR (ip' := 42) rfl rfl (r := 237) (by omega) zsh_230 rfl ?_
            refine zs_aload (ip' := 43) rfl rfl rfl ?_
            refine zs_getI (ip' := 44) rfl rfl (by omega) zsh_230 rfl (q := 8) rfl ?_
            intro hl43 hu43
            rw [zTw_j] at hl43 hu43 ⊢
            refine zs_iload (ip' := 45) rfl rfl rfl ?_
            refine zs_pushI (ip' := 46) rfl rfl zi_k24 ?_
            refine zs_pushI (ip' := 47) rfl rfl zi_k8 ?_
            refine zs_iload (ip' := 48) rfl rfl rfl ?_
            refine zs_pushI (ip' := 49) rfl rfl zi_k4 ?_
            refine zs_irem (ip' := 50) rfl rfl (by omega) (by omega) ?_
            refine zs_imul (ip' := 51) rfl rfl ?_
            refine zs_isub (ip' := 52) rfl rfl ?_
            refine zs_ishr (ip' := 53) rfl rfl ?_
            refine zs_pushI (ip' := 54) rfl rfl zi_k255 ?_
            refine zs_iand (ip' := 55) rfl rfl ?_
            refine zs_iast (ip' := 56) rfl rfl (by omega) zsh_237 (by omega) (zr_and _ _) ?_
            rw [zTw_r (by decide), zTw_wr (by decide)]
            refine zs_aload (ip' := 57) rfl rfl rfl ?_
            refine zs_dupR (ip' := 58) rfl rfl ?_
            refine zs_getI (ip' := 59) rfl rfl (by omega) zsh_230 rfl (q := 8) rfl ?_
            intro hl58 hu58
            rw [zTw_j] at hl58 hu58 ⊢
            refine zs_pushI (ip' := 60) rfl rfl zi_k1 ?_
            refine zs_iadd (ip' := 61) rfl rfl ?_
            refine zs_putI (ip' := 62) rfl rfl (by omega) zsh_230 rfl (q := 8) rfl (by omega) ?_
            rw [zTw_wj, show n0 + (k : Int) + 1 = n0 + ((k + 1 : Nat) : Int) by omega]
            refine zs_iinc6 (ip' := 63) rfl rfl zi_k1 ?_
            refine zs_goto (t := 15) rfl ?_
            have ew : sWord a b c e f k = c := (if_neg (by omega)).trans ((if_neg (by omega)).trans (if_pos (by omega)))
            have eb := sApp_s t n0 a b c e f (k := (k : Int)) (by omega)
            unfold sByte at eb
            rw [ew] at eb
            have := ih (k + 1) (.int (zi c)) (by omega) (by omega)
            rw [show ((k + 1 : Nat) : Int) = (k : Int) + 1 from rfl, ← eb] at this
            rw [show ((k + 1 : Nat) : Int) = (k : Int) + 1 from rfl]
            exact this
        · intro h25
          refine zs_iload (ip' := 27) rfl rfl rfl ?_
          refine zs_goto (t := 39) rfl ?_
          refine zs_istore7 (ip' := 40) rfl rfl ?_
          refine zs_aload (ip' := 41) rfl rfl rfl ?_
          refine zs_getR (ip' := 42) rfl rfl (r := 237) (by omega) zsh_230 rfl ?_
          refine zs_aload (ip' := 43) rfl rfl rfl ?_
          refine zs_getI (ip' := 44) rfl rfl (by omega) zsh_230 rfl (q := 8) rfl ?_
          intro hl43 hu43
          rw [zTw_j] at hl43 hu43 ⊢
          refine zs_iload (ip' := 45) rfl rfl rfl ?_
          refine zs_pushI (ip' := 46) rfl rfl zi_k24 ?_
          refine zs_pushI (ip' := 47) rfl rfl zi_k8 ?_
          refine zs_iload (ip' := 48) rfl rfl rfl ?_
          refine zs_pushI (ip' := 49) rfl rfl zi_k4 ?_
          refine zs_irem (ip' := 50) rfl rfl (by omega) (by omega) ?_
          refine zs_imul (ip' := 51) rfl rfl ?_
          refine zs_isub (ip' := 52) rfl rfl ?_
          refine zs_ishr (ip' := 53) rfl rfl ?_
          refine zs_pushI (ip' := 54) rfl rfl zi_k255 ?_
          refine zs_iand (ip' := 55) rfl rfl ?_
          refine zs_iast (ip' := 56) rfl rfl (by omega) zsh_237 (by omega) (zr_and _ _) ?_
          rw [zTw_r (by decide), zTw_wr (by decide)]
          refine zs_aload (ip' := 57) rfl rfl rfl ?_
          refine zs_dupR (ip' := 58) rfl rfl ?_
          refine zs_getI (ip' := 59) rfl rfl (by omega) zsh_230 rfl (q := 8) rfl ?_
          intro hl58 hu58
          rw [zTw_j] at hl58 hu58 ⊢
          refine zs_pushI (ip' := 60) rfl rfl zi_k1 ?_
          refine zs_iadd (ip' := 61) rfl rfl ?_
          refine zs_putI (ip' := 62) rfl rfl (by omega) zsh_230 rfl (q := 8) rfl (by omega) ?_
          rw [zTw_wj, show n0 + (k : Int) + 1 = n0 + ((k + 1 : Nat) : Int) by omega]
          refine zs_iinc6 (ip' := 63) rfl rfl zi_k1 ?_
          refine zs_goto (t := 15) rfl ?_
          have ew : sWord a b c e f k = b := (if_neg (by omega)).trans (if_pos (by omega))
          have eb := sApp_s t n0 a b c e f (k := (k : Int)) (by omega)
          unfold sByte at eb
          rw [ew] at eb
          have := ih (k + 1) (.int (zi b)) (by omega) (by omega)
          rw [show ((k + 1 : Nat) : Int) = (k : Int) + 1 from rfl, ← eb] at this
          rw [show ((k + 1 : Nat) : Int) = (k : Int) + 1 from rfl]
          exact this
      · intro h20
        refine zs_iload (ip' := 22) rfl rfl rfl ?_
        refine zs_goto (t := 39) rfl ?_
        refine zs_istore7 (ip' := 40) rfl rfl ?_
        refine zs_aload (ip' := 41) rfl rfl rfl ?_
        refine zs_getR (ip' := 42) rfl rfl (r := 237) (by omega) zsh_230 rfl ?_
        refine zs_aload (ip' := 43) rfl rfl rfl ?_
        refine zs_getI (ip' := 44) rfl rfl (by omega) zsh_230 rfl (q := 8) rfl ?_
        intro hl43 hu43
        rw [zTw_j] at hl43 hu43 ⊢
        refine zs_iload (ip' := 45) rfl rfl rfl ?_
        refine zs_pushI (ip' := 46) rfl rfl zi_k24 ?_
        refine zs_pushI (ip' := 47) rfl rfl zi_k8 ?_
        refine zs_iload (ip' := 48) rfl rfl rfl ?_
        refine zs_pushI (ip' := 49) rfl rfl zi_k4 ?_
        refine zs_irem (ip' := 50) rfl rfl (by omega) (by omega) ?_
        refine zs_imul (ip' := 51) rfl rfl ?_
        refine zs_isub (ip' := 52) rfl rfl ?_
        refine zs_ishr (ip' := 53) rfl rfl ?_
        refine zs_pushI (ip' := 54) rfl rfl zi_k255 ?_
        refine zs_iand (ip' := 55) rfl rfl ?_
        refine zs_iast (ip' := 56) rfl rfl (by omega) zsh_237 (by omega) (zr_and _ _) ?_
        rw [zTw_r (by decide), zTw_wr (by decide)]
        refine zs_aload (ip' := 57) rfl rfl rfl ?_
        refine zs_dupR (ip' := 58) rfl rfl ?_
        refine zs_getI (ip' := 59) rfl rfl (by omega) zsh_230 rfl (q := 8) rfl ?_
        intro hl58 hu58
        rw [zTw_j] at hl58 hu58 ⊢
        refine zs_pushI (ip' := 60) rfl rfl zi_k1 ?_
        refine zs_iadd (ip' := 61) rfl rfl ?_
        refine zs_putI (ip' := 62) rfl rfl (by omega) zsh_230 rfl (q := 8) rfl (by omega) ?_
        rw [zTw_wj, show n0 + (k : Int) + 1 = n0 + ((k + 1 : Nat) : Int) by omega]
        refine zs_iinc6 (ip' := 63) rfl rfl zi_k1 ?_
        refine zs_goto (t := 15) rfl ?_
        have ew : sWord a b c e f k = a := if_pos (by omega)
        have eb := sApp_s t n0 a b c e f (k := (k : Int)) (by omega)
        unfold sByte at eb
        rw [ew] at eb
        have := ih (k + 1) (.int (zi a)) (by omega) (by omega)
        rw [show ((k + 1 : Nat) : Int) = (k : Int) + 1 from rfl, ← eb] at this
        rw [show ((k + 1 : Nat) : Int) = (k : Int) + 1 from rfl]
        exact this
theorem cP_append {N : Nat} {G F : GM} {n : Nat} (hN : 241 ≤ N) (hl : 0 ≤ G 230 8 ∧ G 230 8 ≤ 800) {a b c e f : Int} (ha : zr a) (hb : zr b) (hc : zr c) (he : zr e) (hf : zr f) : zC N 44 [.ref 230, .int (zi a), .int (zi b), .int (zi c), .int (zi e), .int (zi f)] G F n (zUn G F n (q_append (G 230 8)) (fun G' => ∃ G1, zMk G G1 0 ∧ G' = zTw G1 237 (sApp (G 237) (G 230 8) a b c e f 20) 8 (G 230 8 + 20))) := by
  refine zC_i (L0 := [.ref 230, .int (zi a), .int (zi b), .int (zi c), .int (zi e), .int (zi f), .null, .null]) rfl ?_
  refine zs_aload (ip' := 1) rfl rfl rfl ?_
  refine zs_pushI (ip' := 2) rfl rfl zi_k0 ?_
  refine zs_putI (ip' := 3) rfl rfl (by omega) zsh_230 rfl (q := 10) rfl (by omega) ?_
  have hm := zMk_0 (G := G) (t := 0)
  generalize hG1 : zk G 230 (zp (G 230) 10 0) = G1 at hm ⊢
  have e8 : G1 230 8 = G 230 8 := hm.2.1 8 (by decide) (by decide) (by decide)
  rw [← e8] at hl ⊢
  have e37 : G1 237 = G 237 := hm.1 237 (by decide) (by decide) (by decide) (by decide)
  rw [← e37]
  refine zs_aload (ip' := 4) rfl rfl rfl ?_
  refine zs_getI (ip' := 5) rfl rfl (by omega) zsh_230 rfl (q := 8) rfl ?_
  intro hl4 hu4
  refine zs_pushI (ip' := 6) rfl rfl zi_k20 ?_
  refine zs_iadd (ip' := 7) rfl rfl ?_
  refine zs_pushI (ip' := 8) rfl rfl zi_k800 ?_
  refine zs_icmp_le (t := 13) (ip' := 9) rfl rfl (by omega) (by omega) ?_ ?_
  · intro h8
    refine zs_pushI (ip' := 14) rfl rfl zi_k0 ?_
    refine zs_istore6 (ip' := 15) rfl rfl ?_
    have := cM_append_l (F := F) (n := n) (t := G1 237) (n0 := G1 230 8) hN ha hb hc he hf ⟨hl.1, by omega⟩ (zUn_ok (G := G) (q := q_append (G1 230 8)) (P := fun G' => ∃ G1', zMk G G1' 0 ∧ G' = zTw G1' 237 (sApp (G1 237) (G1 230 8) a b c e f 20) 8 (G1 230 8 + 20)) (if_neg (by omega)) ⟨G1, hm, rfl⟩) 21 0 .null (by omega) (by omega)
    rw [show zTw G1 237 (sApp (G1 237) (G1 230 8) a b c e f ((0 : Nat) : Int)) 8 (G1 230 8 + ((0 : Nat) : Int)) = G1 from ?_] at this
    · exact this
    · have ea : sApp (G1 237) (G1 230 8) a b c e f ((0 : Nat) : Int) = G1 237 := by
        funext j
        exact if_neg (by omega)
      rw [ea, show G1 230 8 + ((0 : Nat) : Int) = G1 230 8 by omega]
      unfold zTw
      rw [zk_self, zp_self, zk_self]
  · intro h8
    refine zs_aload (ip' := 10) rfl rfl rfl ?_
    refine zs_pushI (ip' := 11) rfl rfl zi_k1 ?_
    refine zW_cR (ip' := 12) rfl rfl (cM_fails hN (by decide)) rfl rfl (z_ok3 (by omega) zsh_230 rfl rfl rfl) ?_
    rintro v G' F' n' _ ⟨rfl, rfl, rfl, rfl⟩
    refine zW_0 rfl ?_
    exact zUn_no hm (if_pos h8) (by decide)
theorem cM_puts {N : Nat} {G F : GM} {n : Nat} (hN : 241 ≤ N) {O : Int → Int} {v c : Int} (hv : 0 ≤ v ∧ v < 160) (hc : zr c) : zC N 130 [.ref 230, .int (zi c)] (zTw G 240 O 22 v) F n (zV fun G' F' n' => G' = zTw G 240 (zp O v c) 22 (v + 1) ∧ F' = F ∧ n' = n) := by
  refine zC_i (L0 := [.ref 230, .int (zi c)]) rfl ?_
  refine zs_aload (ip' := 1) rfl rfl rfl ?_
  refine zs_getR (ip' := 2) rfl rfl (r := 240) (by omega) zsh_230 rfl ?_
  refine zs_aload (ip' := 3) rfl rfl rfl ?_
  refine zs_getI (ip' := 4) rfl rfl (by omega) zsh_230 rfl (q := 22) rfl ?_
  intro hl3 hu3
  rw [zTw_j] at hl3 hu3 ⊢
  refine zs_iload (ip' := 5) rfl rfl rfl ?_
  refine zs_iast (ip' := 6) rfl rfl (by omega) zsh_240 (by omega) (by omega) ?_
  rw [zTw_r (by decide), zTw_wr (by decide)]
  refine zs_aload (ip' := 7) rfl rfl rfl ?_
  refine zs_dupR (ip' := 8) rfl rfl ?_
  refine zs_getI (ip' := 9) rfl rfl (by omega) zsh_230 rfl (q := 22) rfl ?_
  intro hl8 hu8
  rw [zTw_j] at hl8 hu8 ⊢
  refine zs_pushI (ip' := 10) rfl rfl zi_k1 ?_
  refine zs_iadd (ip' := 11) rfl rfl ?_
  refine zs_putI (ip' := 12) rfl rfl (by omega) zsh_230 rfl (q := 22) rfl (by omega) ?_
  rw [zTw_wj]
  refine zW_1 rfl ?_
  exact ⟨rfl, rfl, rfl, rfl⟩
theorem cM_print_i {N : Nat} {G F : GM} {n : Nat} (hN : 241 ≤ N) (hok : mOk (G 231)) {K : Nat} (hK : (K : Int) < G 231 1) {b : (Int → Int) × Int} (hb : 0 ≤ b.2 ∧ b.2 ≤ 13 * K) {Q : Zq} (hk : ∀ (b1 : (Int → Int) × Int) (a2 : Value), b1 = sPrI (G 231) K b (G 231 0).toNat → zW N 133 8 [.ref 230, .int (zi ((K : Int) + 1)), a2] [] (zTw G 240 (zp b1.1 b1.2 10) 22 (b1.2 + 1)) F n Q) : ∀ (d : Nat) (k : Nat), G 231 0 - k < (d : Int) → (k : Int) ≤ G 231 0 → zW N 133 16 [.ref 230, .int (zi (K : Int)), .int (zi (k : Int))] [] (zTw G 240 (sPrI (G 231) K b k).1 22 (sPrI (G 231) K b k).2) F n Q := by
  intro d
  induction d with
  | zero =>
    intro k hd hj
    exact absurd hd (by omega)
  | succ d ih =>
    intro k hd hj
    have b0 := hok.1
    have b1 := hok.2.1
    have hlen := sPrI_len (G 231) K b k
    refine zs_iload (ip' := 17) rfl rfl rfl ?_
    refine zs_aload (ip' := 18) rfl rfl rfl ?_
    refine zs_getR (ip' := 19) rfl rfl (r := 231) (by omega) zsh_230 rfl ?_
    refine zs_pushI (ip' := 20) rfl rfl zi_k0 ?_
    refine zs_iald (ip' := 21) rfl rfl (by omega) zsh_231 (by omega) ?_
    intro hl20 hu20
    rw [zTw_o (by decide) (by decide)] at hl20 hu20 ⊢
    refine zs_icmp_ge (t := 30) (ip' := 22) rfl rfl (by omega) (by omega) ?_ ?_
    · intro h21
      refine zs_aload (ip' := 31) rfl rfl rfl ?_
      refine zs_pushI (ip' := 32) rfl rfl zi_k10 ?_
      refine zW_cV (ip' := 33) rfl rfl (cM_puts hN (by omega) (by decide)) rfl rfl (z_ok3 (by omega) zsh_230 rfl rfl rfl) ?_
      rintro G' F' n' ⟨rfl, rfl, rfl⟩
      refine zs_iinc1 (ip' := 34) rfl rfl zi_k1 ?_
      refine zs_goto (t := 8) rfl ?_
      exact hk _ _ (by rw [show k = (G 231 0).toNat by omega])
    · intro h21
      refine zs_aload (ip' := 23) rfl rfl rfl ?_
      refine zs_aload (ip' := 24) rfl rfl rfl ?_
      refine zs_iload (ip' := 25) rfl rfl rfl ?_
      refine zs_iload (ip' := 26) rfl rfl rfl ?_
      refine zW_cP (ip' := 27) rfl rfl (cM_signOf hN (by omega) (by omega) (by rw [zTw_o (by decide) (by decide)]; exact hok)) rfl rfl (z_ok3 (by omega) zsh_230 rfl rfl rfl) ?_
      rw [zTw_o (by decide) (by decide)]
      obtain ⟨q1, q2⟩ : zr (sSign (G 231) k K) := by
        have o4 := (zfst_rng (fun w => G 231 (214 + 7 * w + 2) = 0 ∧ sFar (G 231) w k K = 0) (G 231 5).toNat).2
        have o4' : sWOn (G 231) k K < ((G 231 5).toNat : Int) := o4
        have b5 := hok.2.2.2.2.2.1
        unfold sSign
        (repeat' split) <;> exact ⟨by omega, by omega⟩
      refine zW_cV (ip' := 28) rfl rfl (cM_puts hN (by omega) ⟨q1, q2⟩) rfl rfl (z_ok3 (by omega) zsh_230 rfl rfl rfl) ?_
      rintro G' F' n' ⟨rfl, rfl, rfl⟩
      refine zs_iinc2 (ip' := 29) rfl rfl zi_k1 ?_
      refine zs_goto (t := 16) rfl ?_
      exact ih (k + 1) (by omega) (by omega)
theorem cM_print_o {N : Nat} {G F : GM} {n : Nat} (hN : 241 ≤ N) (hok : mOk (G 231)) {b0 : (Int → Int) × Int} (hb0 : b0.2 = 0) {Q : Zq} (hQ : Q (.inl (some (.int (zi (sPrO (G 231) b0 (G 231 1).toNat).2)))) (zTw G 240 (sPrO (G 231) b0 (G 231 1).toNat).1 22 (sPrO (G 231) b0 (G 231 1).toNat).2) F n) : ∀ (d : Nat) (k : Nat) (a2 : Value), G 231 1 - k < (d : Int) → (k : Int) ≤ G 231 1 → zW N 133 8 [.ref 230, .int (zi (k : Int)), a2] [] (zTw G 240 (sPrO (G 231) b0 k).1 22 (sPrO (G 231) b0 k).2) F n Q := by
  intro d
  induction d with
  | zero =>
    intro k a2 hd hj
    exact absurd hd (by omega)
  | succ d ih =>
    intro k a2 hd hj
    have b0' := hok.1
    have b1 := hok.2.1
    have hlen := sPrO_len (G 231) b0 (by omega) k
    refine zs_iload (ip' := 9) rfl rfl rfl ?_
    refine zs_aload (ip' := 10) rfl rfl rfl ?_
    refine zs_getR (ip' := 11) rfl rfl (r := 231) (by omega) zsh_230 rfl ?_
    refine zs_pushI (ip' := 12) rfl rfl zi_k1 ?_
    refine zs_iald (ip' := 13) rfl rfl (by omega) zsh_231 (by omega) ?_
    intro hl12 hu12
    rw [zTw_o (by decide) (by decide)] at hl12 hu12 ⊢
    refine zs_icmp_ge (t := 35) (ip' := 14) rfl rfl (by omega) (by omega) ?_ ?_
    · intro h13
      refine zs_aload (ip' := 36) rfl rfl rfl ?_
      refine zs_getI (ip' := 37) rfl rfl (by omega) zsh_230 rfl (q := 22) rfl ?_
      intro hl36 hu36
      rw [zTw_j] at hl36 hu36 ⊢
      refine zW_0 rfl ?_
      rw [show k = (G 231 1).toNat by omega]
      exact hQ
    · intro h13
      refine zs_pushI (ip' := 15) rfl rfl zi_k0 ?_
      refine zs_istore2 (ip' := 16) rfl rfl ?_
      exact cM_print_i hN hok h13 (b := sPrO (G 231) b0 k) (by omega) (fun b1 a2 hb1 => by
        have := ih (k + 1) a2 (by omega) (by omega)
        rw [hb1]
        exact this) 13 0 (by omega) (by omega)
theorem cP_print {N : Nat} {G F : GM} {n : Nat} (hN : 241 ≤ N) (hok : mOk (G 231)) : zC N 133 [.ref 230] G F n (fun o G' F' n' => o = .inl (some (.int (zi (sPrO (G 231) (G 240, 0) (G 231 1).toNat).2))) ∧ F' = F ∧ n' = n ∧ ∃ G1, zMk G G1 0 ∧ G' = zTw G1 240 (sPrO (G 231) (G 240, 0) (G 231 1).toNat).1 22 (sPrO (G 231) (G 240, 0) (G 231 1).toNat).2) := by
  refine zC_i (L0 := [.ref 230, .null, .null]) rfl ?_
  refine zs_aload (ip' := 1) rfl rfl rfl ?_
  refine zs_pushI (ip' := 2) rfl rfl zi_k0 ?_
  refine zs_putI (ip' := 3) rfl rfl (by omega) zsh_230 rfl (q := 10) rfl (by omega) ?_
  have hm := zMk_0 (G := G) (t := 0)
  generalize zk G 230 (zp (G 230) 10 0) = G1 at hm ⊢
  have e1 := zMk_r hm
  have e40 : G1 240 = G 240 := hm.1 240 (by decide) (by decide) (by decide) (by decide)
  rw [← e1] at hok ⊢
  rw [← e40]
  have b0 := hok.1
  have b1 := hok.2.1
  have b4 := hok.2.2.2.2.1
  have b5 := hok.2.2.2.2.2.1
  refine zs_aload (ip' := 4) rfl rfl rfl ?_
  refine zs_pushI (ip' := 5) rfl rfl zi_k0 ?_
  refine zs_putI (ip' := 6) rfl rfl (by omega) zsh_230 rfl (q := 22) rfl (by omega) ?_
  refine zs_pushI (ip' := 7) rfl rfl zi_k0 ?_
  refine zs_istore1 (ip' := 8) rfl rfl ?_
  rw [show zk G1 230 (zp (G1 230) 22 0) = zTw G1 240 (sPrO (G1 231) (G1 240, 0) 0).1 22 (sPrO (G1 231) (G1 240, 0) 0).2 from by unfold zTw; rw [show (sPrO (G1 231) (G1 240, 0) 0).1 = G1 240 from rfl, zk_self]; rfl]
  exact cM_print_o hN hok rfl ⟨rfl, rfl, rfl, G1, hm, rfl⟩ 13 0 _ (by omega) (by omega)
def q_printedByte (O : Int → Int) (n c : Int) : Int × Int := if 0 ≤ c ∧ c ≤ n - 1 then (0, O c) else (1, 0)
theorem cP_printedByte {N : Nat} {G F : GM} {n : Nat} (hN : 241 ≤ N) (hok : mOk (G 231)) (hw : 0 ≤ G 230 22 ∧ G 230 22 ≤ 160) {c : Int} (hc : zr c) : zC N 134 [.ref 230, .int (zi c)] G F n (zQm G F n (q_printedByte (G 240) (G 230 22) c)) := by
  refine zC_i (L0 := [.ref 230, .int (zi c)]) rfl ?_
  refine zs_aload (ip' := 1) rfl rfl rfl ?_
  refine zs_pushI (ip' := 2) rfl rfl zi_k0 ?_
  refine zs_putI (ip' := 3) rfl rfl (by omega) zsh_230 rfl (q := 10) rfl (by omega) ?_
  have hm := zMk_0 (G := G) (t := 0)
  generalize zk G 230 (zp (G 230) 10 0) = G1 at hm ⊢
  have e1 := zMk_r hm
  have e40 : G1 240 = G 240 := hm.1 240 (by decide) (by decide) (by decide) (by decide)
  have e22 : G1 230 22 = G 230 22 := hm.2.1 22 (by decide) (by decide) (by decide)
  rw [← e22] at hw ⊢
  rw [← e40]
  refine zs_iload (ip' := 4) rfl rfl rfl ?_
  refine zs_pushI (ip' := 5) rfl rfl zi_k0 ?_
  refine zs_aload (ip' := 6) rfl rfl rfl ?_
  refine zs_getI (ip' := 7) rfl rfl (by omega) zsh_230 rfl (q := 22) rfl ?_
  intro hl6 hu6
  refine zs_pushI (ip' := 8) rfl rfl zi_k1 ?_
  refine zs_isub (ip' := 9) rfl rfl ?_
  refine zW_cP (ip' := 10) rfl rfl (cM_in (by omega) (by omega) (by omega)) rfl rfl rfl ?_
  refine zs_if_eqB (t := 16) (ip' := 11) rfl rfl ?_ ?_
  · intro h10
    refine zs_aload (ip' := 17) rfl rfl rfl ?_
    refine zs_pushI (ip' := 18) rfl rfl zi_k1 ?_
    refine zW_cR (ip' := 19) rfl rfl (cM_fails hN (by decide)) rfl rfl (z_ok3 (by omega) zsh_230 rfl rfl rfl) ?_
    rintro v G' F' n' _ ⟨rfl, rfl, rfl, rfl⟩
    refine zW_0 rfl ?_
    exact zQ_no hm (if_neg h10)
  · intro h10
    refine zs_aload (ip' := 12) rfl rfl rfl ?_
    refine zs_getR (ip' := 13) rfl rfl (r := 240) (by omega) zsh_230 rfl ?_
    refine zs_iload (ip' := 14) rfl rfl rfl ?_
    refine zs_iald (ip' := 15) rfl rfl (by omega) zsh_240 (by omega) ?_
    intro hl14 hu14
    refine zs_goto (t := 19) rfl ?_
    refine zW_0 rfl ?_
    exact zQ_ok hm (if_pos h10)
theorem zf_share : ∀ c, c < 7 → ∀ k, k < 7 → k ≠ 0 → FP.fdiv (FP.i2f (zi ((c : Nat) : Int))) (FP.i2f (zi ((k : Nat) : Int))) &&& 0x7fffffff ≤ 0x7f800000 := by decide +kernel
def sShare (s : Int → Int) : UInt32 := if s 5 = 0 then FP.fconst0 else FP.fdiv (FP.i2f (zi (sCount s 1))) (FP.i2f (zi (s 5)))
theorem cP_arrivedShare {N : Nat} {G F : GM} {n : Nat} (hN : 241 ≤ N) (hok : mOk (G 231)) : zC N 109 [.ref 230] G F n (fun o G' F' n' => o = .inl (some (.float (sShare (G 231)))) ∧ zMk G G' 0 ∧ F' = F ∧ n' = n) := by
  refine zC_i (L0 := [.ref 230]) rfl ?_
  refine zs_aload (ip' := 1) rfl rfl rfl ?_
  refine zs_pushI (ip' := 2) rfl rfl zi_k0 ?_
  refine zs_putI (ip' := 3) rfl rfl (by omega) zsh_230 rfl (q := 10) rfl (by omega) ?_
  have hm := zMk_0 (G := G) (t := 0)
  generalize zk G 230 (zp (G 230) 10 0) = G1 at hm ⊢
  have e1 := zMk_r hm
  rw [← e1] at hok ⊢
  have b0 := hok.1
  have b1 := hok.2.1
  have b4 := hok.2.2.2.2.1
  have b5 := hok.2.2.2.2.2.1
  refine zs_aload (ip' := 4) rfl rfl rfl ?_
  refine zs_getR (ip' := 5) rfl rfl (r := 231) (by omega) zsh_230 rfl ?_
  refine zs_pushI (ip' := 6) rfl rfl zi_k5 ?_
  refine zs_iald (ip' := 7) rfl rfl (by omega) zsh_231 (by omega) ?_
  intro hl6 hu6
  have hc := sCount_rng (G1 231) 1 b5
  obtain ⟨p1, p2⟩ : ∃ c : Nat, sCount (G1 231) 1 = c := ⟨(sCount (G1 231) 1).toNat, by omega⟩
  obtain ⟨p3, p4⟩ : ∃ c : Nat, G1 231 5 = c := ⟨(G1 231 5).toNat, by omega⟩
  refine zs_if_ne (t := 10) (ip' := 8) rfl rfl (by omega) ?_ ?_
  · intro h7
    refine zs_aload (ip' := 11) rfl rfl rfl ?_
    refine zs_getR (ip' := 12) rfl rfl (r := 231) (by omega) zsh_230 rfl ?_
    refine zs_pushI (ip' := 13) rfl rfl zi_k1 ?_
    refine zW_cP (ip' := 14) rfl rfl (cM_countOf zsh_231 (by omega) (by omega) b5) rfl rfl rfl ?_
    refine zs_i2f (ip' := 15) rfl rfl ?_
    refine zs_aload (ip' := 16) rfl rfl rfl ?_
    refine zs_getR (ip' := 17) rfl rfl (r := 231) (by omega) zsh_230 rfl ?_
    refine zs_pushI (ip' := 18) rfl rfl zi_k5 ?_
    refine zs_iald (ip' := 19) rfl rfl (by omega) zsh_231 (by omega) ?_
    intro hl18 hu18
    refine zs_i2f (ip' := 20) rfl rfl ?_
    refine zs_fdiv (ip' := 21) rfl rfl (by rw [p2, p4]; exact zf_share p1 (by omega) p3 (by omega) (by omega)) ?_
    refine zW_0f rfl ?_
    exact ⟨by rw [show sShare (G1 231) = _ from if_neg h7], hm, rfl, rfl⟩
  · intro h7
    refine zs_push (ip' := 9) rfl rfl ?_
    refine zs_goto (t := 21) rfl ?_
    refine zW_0f rfl ?_
    exact ⟨by rw [show sShare (G1 231) = _ from if_pos h7], hm, rfl, rfl⟩
