/-! The reference model: the next token (printed by wip/whole/src27.py). -/
theorem zcmp_rng (a b : Int) : -1 ≤ zcmp a b ∧ zcmp a b ≤ 1 ∧ (zcmp a b = 0 ↔ a = b) := by
  unfold zcmp
  split
  · omega
  · split <;> omega
/-- the text: its length, its bytes -/
def zBa (G : GM) : Prop := (0 ≤ G 230 8 ∧ G 230 8 ≤ 800) ∧ ∀ j, 0 ≤ j → j < G 230 8 → 0 ≤ G 237 j ∧ G 237 j ≤ 255
/-- the next token is read -/
def zNx (G F : GM) (p : Int) (G' F' : GM) : Prop := (G' 230 15 = tE (G 237) (G 230 8) p ∧ G' 230 16 = tB (G 237) (G 230 8) p ∧ G' 230 17 = tK (G 237) (G 230 8) p ∧ G' 230 18 = tV (G 237) (G 230 8) p ∧ F' 230 19 = tW (G 237) (G 230 8) p) ∧
  (∀ k, k ≠ 230 → G' k = G k) ∧ (∀ j, j ≠ 15 → j ≠ 16 → j ≠ 17 → j ≠ 18 → G' 230 j = G 230 j) ∧ (∀ k, k ≠ 230 → F' k = F k)
def zPS (G0 F0 : GM) (x : zTx) (G F : GM) : Prop := zBa G0 ∧ (0 ≤ x.1 ∧ x.1 ≤ G0 230 8) ∧ (x.2.1 = 0 ∨ x.2.1 = 1) ∧
  (G 230 15 = tE (G0 237) (G0 230 8) x.1 ∧ G 230 16 = tB (G0 237) (G0 230 8) x.1 ∧ G 230 17 = tK (G0 237) (G0 230 8) x.1 ∧ G 230 18 = tV (G0 237) (G0 230 8) x.1 ∧ F 230 19 = tW (G0 237) (G0 230 8) x.1) ∧
  (G 230 20 = x.2.1 ∧ G 230 9 = x.2.2.1 ∧ G 232 = x.2.2.2) ∧ (∀ k, k ≠ 230 → k ≠ 232 → G k = G0 k) ∧ (∀ j, j ≠ 9 → j ≠ 15 → j ≠ 16 → j ≠ 17 → j ≠ 18 → j ≠ 20 → G 230 j = G0 230 j) ∧ (∀ k, k ≠ 230 → F k = F0 k)
theorem cM_next_q {G1 F1 G2 F2 : GM} {n : Nat} {b p v : Int} (hB : zBa G1) (hb : tB (G1 237) (G1 230 8) p = b) (hbr : 0 ≤ b ∧ b ≤ G1 230 8) (r8 : G2 230 8 = G1 230 8) (r15 : G2 230 15 = b) (r16 : G2 230 16 = b) (r18 : G2 230 18 = 0) (r37 : G2 237 = G1 237) (rk : ∀ k, k ≠ 230 → G2 k = G1 k) (rj : ∀ j, j ≠ 15 → j ≠ 16 → j ≠ 18 → G2 230 j = G1 230 j) (r19 : F2 230 19 = 0) (rf : ∀ k, k ≠ 230 → F2 k = F1 k)
    (h40 : ¬ b = G1 230 8) (hs : ¬ tSm (G1 237) b) (hd : ¬ tDg (G1 237) b) (ek : tK (G1 237) (G1 230 8) p = v) : zV (fun G' F' n' => zNx G1 F1 p G' F' ∧ n' = n) (.inl none) (zk (zk G2 230 (zp (G2 230) 17 v)) 230 (zp (zk G2 230 (zp (G2 230) 17 v) 230) 15 (b + 1))) F2 n := by
  rw [zk_eq, zk_zk]
  refine ⟨rfl, ⟨⟨?_, ?_, ?_, ?_, ?_⟩, fun k hk => ?_, fun j j1 j2 j3 j4 => ?_, fun k hk => rf k hk⟩, rfl⟩
  · rw [zk_eq, zp_eq]; unfold tE; rw [hb, if_neg h40, if_neg hs, if_neg hd]
  · rw [zk_eq, zp_ne (by decide), zp_ne (by decide), r16, hb]
  · rw [zk_eq, zp_ne (by decide), zp_eq, ek]
  · rw [zk_eq, zp_ne (by decide), zp_ne (by decide), r18]; unfold tV; rw [hb, if_neg h40, if_neg hs, if_neg hd]
  · rw [r19]; unfold tW; rw [hb, if_neg h40, if_neg hs]
  · rw [zk_ne hk]; exact rk k hk
  · rw [zk_eq, zp_ne j1, zp_ne j3]; exact rj j j1 j2 j4
