/-! The law's steps(x, column, row). -/
/-- rows of numbers in a made cell -/
def wRo (Y0 : DY) (W H : Nat) (D : Int → Int) (Y : DY) : Prop := Y.2.2 = Y0.2.2 + 1 + H ∧ Y.2.1 Y0.2.2 = (8, H, (List.range H).map (fun i => 1000 + Y0.2.2 + 1 + i)) ∧ (∀ r, r < H → Y.2.1 (Y0.2.2 + 1 + r) = (1, W, []) ∧ ∀ k : Int, 0 ≤ k → k < W → Y.1 (Y0.2.2 + 1 + r) k = D (12 * (r : Int) + k)) ∧ ∀ k, k < Y0.2.2 → Y.1 k = Y0.1 k ∧ Y.2.1 k = Y0.2.1 k
theorem wRo_new {Y : DY} {W H : Nat} : wRo Y W H (fun _ => 0) (w_mul Y 8 1 H W) := by
  refine ⟨rfl, if_pos rfl, fun r hr => ⟨?_, fun k k0 k1 => ?_⟩, fun k hk => ⟨if_neg (by omega), ?_⟩⟩
  · show (if Y.2.2 + 1 + r = Y.2.2 then _ else if Y.2.2 < Y.2.2 + 1 + r then _ else _) = _
    rw [if_neg (by omega), if_pos (by omega)]
  · show (if Y.2.2 ≤ Y.2.2 + 1 + r then fun _ => 0 else Y.1 (Y.2.2 + 1 + r)) k = 0
    rw [if_pos (by omega)]
  · show (if k = Y.2.2 then _ else if Y.2.2 < k then _ else _) = _
    rw [if_neg (by omega), if_neg (by omega)]
theorem wRo_set {Y0 Y : DY} {W H r : Nat} {D : Int → Int} {k v : Int} (h : wRo Y0 W H D Y) (hr : r < H) (hk : 0 ≤ k ∧ k < W) (hW : W ≤ 12) : wRo Y0 W H (zp D (12 * (r : Int) + k) v) (w_row Y (Y0.2.2 + 1 + r) (zp (Y.1 (Y0.2.2 + 1 + r)) k v)) := by
  obtain ⟨h1, h2, h3, h4⟩ := h
  refine ⟨h1, h2, fun r2 hr2 => ⟨(h3 r2 hr2).1, fun k2 k0 k1 => ?_⟩, fun k2 hk2 => ⟨?_, (h4 k2 hk2).2⟩⟩
  · show zk Y.1 (Y0.2.2 + 1 + r) (zp (Y.1 (Y0.2.2 + 1 + r)) k v) (Y0.2.2 + 1 + r2) k2 = _
    by_cases e : r2 = r
    · subst e
      rw [zk_eq]
      by_cases e2 : k2 = k
      · rw [e2, zp_eq, zp_eq]
      · rw [zp_ne e2, zp_ne (by omega)]
        exact (h3 r2 hr2).2 k2 k0 k1
    · rw [zk_ne (by omega), zp_ne (by omega)]
      exact (h3 r2 hr2).2 k2 k0 k1
  · show zk Y.1 (Y0.2.2 + 1 + r) _ k2 = _
    rw [zk_ne (by omega)]
    exact (h4 k2 hk2).1
section CST
variable {u : WU} {y : Nat} {b : WB} {pc pc' : Nat} {L st : List Value} {G F : GM} {Y Y0 : DY} {c d : Nat} {Q : WQ} {W H : Nat} {D : Int → Int}
theorem wi_strow {r : Int} (hd : decode (zbc y) pc = .ok (.aaload, 1)) (hp : pc + 1 = pc') (h : wRo Y0 W H D Y) (hr : 0 ≤ r ∧ r < H) (hH : H ≤ 1000) (k : wW u y b pc' L (.ref (1000 + (Y0.2.2 + 1 + r.toNat)) :: st) G F Y c d Q) : wW u y b pc L (.int (zi r) :: .ref (1000 + Y0.2.2) :: st) G F Y c d Q := by
  refine wi_aald (i := Y0.2.2) (t := 8) (n := H) (cs := (List.range H).map (fun i => 1000 + Y0.2.2 + 1 + i)) hd hp rfl (by rw [h.1]; omega) h.2.1 (Or.inl rfl) ⟨hr.1, hr.2, by omega⟩ ?_ k
  rw [List.getElem?_map, List.getElem?_range (by omega)]
  show some (1000 + Y0.2.2 + 1 + r.toNat) = _
  congr 1
  omega
theorem wi_stget {r j : Int} (hd : decode (zbc y) pc = .ok (.iaload, 1)) (hp : pc + 1 = pc') (h : wRo Y0 W H D Y) (hr : 0 ≤ r ∧ r < H) (hj : 0 ≤ j ∧ j < W) (hW : W ≤ 12) (k : wW u y b pc' L (.int (zi (D (12 * r + j))) :: st) G F Y c d Q) : wW u y b pc L (.int (zi j) :: .ref (1000 + (Y0.2.2 + 1 + r.toNat)) :: st) G F Y c d Q := by
  obtain ⟨h1, h2⟩ := h.2.2.1 r.toNat (by omega)
  refine wi_iald hd hp rfl (by rw [h.1]; omega) h1 ⟨hj.1, hj.2, by omega⟩ ?_
  rw [h2 j hj.1 hj.2, Int.toNat_of_nonneg hr.1]
  exact k
theorem wi_stset {r j v : Int} (hd : decode (zbc y) pc = .ok (.iastore, 1)) (hp : pc + 1 = pc') (h : wRo Y0 W H D Y) (hr : 0 ≤ r ∧ r < H) (hj : 0 ≤ j ∧ j < W) (hW : W ≤ 12) (hv : zr v) (k : ∀ Y', wRo Y0 W H (zp D (12 * r + j) v) Y' → wW u y b pc' L st G F Y' c d Q) : wW u y b pc L (.int (zi v) :: .int (zi j) :: .ref (1000 + (Y0.2.2 + 1 + r.toNat)) :: st) G F Y c d Q := by
  obtain ⟨h1, h2⟩ := h.2.2.1 r.toNat (by omega)
  refine wi_iast hd hp rfl (by rw [h.1]; omega) h1 ⟨hj.1, hj.2, by omega⟩ hv ?_
  have := wRo_set (v := v) h (r := r.toNat) (by omega) hj hW
  rw [Int.toNat_of_nonneg hr.1] at this
  exact k _ this
end CST
/-- the numbers at first, up to a cell -/
def DJ (s : Int → Int) (cx ry : Int) (D : Int → Int) (y k : Int) : Prop := (∀ p, 0 ≤ p → p < 144 → 0 ≤ D p ∧ D p ≤ 9999) ∧ ∀ p, zVal (s 0) (s 1) p → (p / 12 < y ∨ (p / 12 = y ∧ p % 12 < k)) → (gC s cx ry p ∧ D p = 0) ∨ (¬ gC s cx ry p ∧ D p = 9999)
theorem DJ_put {s D : Int → Int} {cx ry y k v : Int} (hok : mOk s) (h : DJ s cx ry D y k) (hy : 0 ≤ y ∧ y < s 1) (hk : 0 ≤ k ∧ k < s 0) (g : (gC s cx ry (12 * y + k) ∧ v = 0) ∨ (¬ gC s cx ry (12 * y + k) ∧ v = 9999)) : DJ s cx ry (zp D (12 * y + k) v) y (k + 1) := by
  obtain ⟨a0, a1, -⟩ := hok
  refine ⟨fun p p0 p1 => ?_, fun p hp hq => ?_⟩
  · by_cases e : p = 12 * y + k
    · rw [e, zp_eq]
      omega
    · rw [zp_ne e]
      exact h.1 p p0 p1
  · by_cases e : p = 12 * y + k
    · rw [e, zp_eq]
      exact g
    · rw [zp_ne e]
      obtain ⟨q1, q2, q3⟩ := hp
      exact h.2 p ⟨q1, q2, q3⟩ (by omega)
theorem DJ_nx {s D : Int → Int} {cx ry y : Int} (h : DJ s cx ry D y (s 0)) : DJ s cx ry D (y + 1) 0 := ⟨h.1, fun p hp hq => h.2 p hp (by have := hp.2.1; omega)⟩
theorem DJ_DI {s D : Int → Int} {cx ry : Int} (h : DJ s cx ry D (s 1) 0) : DI s (gC s cx ry) D := by
  refine ⟨h.1, fun p hp => ?_, fun p hp p0 p1 => ?_⟩
  · rcases h.2 p hp (Or.inl hp.2.2) with ⟨h1, h2⟩ | ⟨h1, h2⟩
    · exact ⟨fun _ => h2, fun _ => h1⟩
    · exact ⟨fun h9 => absurd h9 h1, fun h9 => by omega⟩
  · rcases h.2 p hp (Or.inl hp.2.2) with ⟨h1, h2⟩ | ⟨h1, h2⟩ <;> omega
/-- a pass over the cells: from D0 nothing was less so far, or it was -/
def wLs (s : Int → Int) (go : Int → Prop) (D0 D : Int → Int) (less : Int) (P : Prop) : Prop := DI s go D ∧ ((less = 0 ∧ D = D0 ∧ P) ∨ (less = 1 ∧ zsum D 144 < zsum D0 144))
theorem wLs_w {s D0 D : Int → Int} {go : Int → Prop} {less : Int} {P P' : Prop} (h : wLs s go D0 D less P) (hp : P → P') : wLs s go D0 D less P' := ⟨h.1, h.2.imp (fun q => ⟨q.1, q.2.1, hp q.2.2⟩) id⟩
theorem wLs_w2 {s D0 D : Int → Int} {go : Int → Prop} {less : Int} {P P' : Prop} (h : wLs s go D0 D less P) (hp : D = D0 → P → P') : wLs s go D0 D less P' := ⟨h.1, h.2.imp (fun q => ⟨q.1, q.2.1, hp q.2.1 q.2.2⟩) id⟩
theorem q340_33 : decode (zbc 340) 33 = .ok (.iload 7, 2) := by decide +kernel
theorem q340_35 : decode (zbc 340) 35 = .ok (.iload_n 3, 1) := by decide +kernel
theorem q340_36 : decode (zbc 340) 36 = .ok (.if_icmp .ge 57, 3) := by decide +kernel
theorem q340_39 : decode (zbc 340) 39 = .ok (.aload 5, 2) := by decide +kernel
theorem q340_41 : decode (zbc 340) 41 = .ok (.iload 6, 2) := by decide +kernel
theorem q340_43 : decode (zbc 340) 43 = .ok (.aaload, 1) := by decide +kernel
theorem q340_44 : decode (zbc 340) 44 = .ok (.iload 7, 2) := by decide +kernel
theorem q340_46 : decode (zbc 340) 46 = .ok (.iload_n 1, 1) := by decide +kernel
theorem q340_47 : decode (zbc 340) 47 = .ok (.ifCond .ge 20, 3) := by decide +kernel
theorem q340_67 : decode (zbc 340) 67 = .ok (.iload 7, 2) := by decide +kernel
theorem q340_69 : decode (zbc 340) 69 = .ok (.iload_n 1, 1) := by decide +kernel
theorem q340_70 : decode (zbc 340) 70 = .ok (.if_icmp .ne 13, 3) := by decide +kernel
theorem q340_83 : decode (zbc 340) 83 = .ok (.sipush 9999, 3) := by decide +kernel
theorem q340_86 : decode (zbc 340) 86 = .ok (.iastore, 1) := by decide +kernel
theorem q340_87 : decode (zbc 340) 87 = .ok (.iinc 7 1, 3) := by decide +kernel
theorem q340_90 : decode (zbc 340) 90 = .ok (.goto (-57), 3) := by decide +kernel
theorem q340_73 : decode (zbc 340) 73 = .ok (.iload 6, 2) := by decide +kernel
theorem q340_75 : decode (zbc 340) 75 = .ok (.iload_n 2, 1) := by decide +kernel
theorem q340_76 : decode (zbc 340) 76 = .ok (.if_icmp .ne 7, 3) := by decide +kernel
theorem q340_79 : decode (zbc 340) 79 = .ok (.iconst 0, 1) := by decide +kernel
theorem q340_80 : decode (zbc 340) 80 = .ok (.goto 6, 3) := by decide +kernel
theorem q340_50 : decode (zbc 340) 50 = .ok (.aload_n 0, 1) := by decide +kernel
theorem q340_51 : decode (zbc 340) 51 = .ok (.bipush 17, 2) := by decide +kernel
theorem q340_53 : decode (zbc 340) 53 = .ok (.iload 7, 2) := by decide +kernel
theorem q340_55 : decode (zbc 340) 55 = .ok (.iload 6, 2) := by decide +kernel
theorem q340_57 : decode (zbc 340) 57 = .ok (.invokestatic 251, 3) := by decide +kernel
theorem wq340_57 {L9 : Nat} {xs9 : Nat → Int32} {N9 : Nat} : z_SC N9 znl zTs (zZ L9 xs9 N9) zyn zbc zrt zfr zlo (fun _ i => i) ztb 340 57 2 335 4 := sc_S (P := fun _ i => i) zTs_good q340_57 kx_1385 kx_1386 kx_31 kx_1387 rfl ⟨by decide, by decide, by decide +kernel⟩ ⟨Nat.le_of_ble_eq_true rfl, Nat.le_of_ble_eq_true rfl⟩
theorem q340_60 : decode (zbc 340) 60 = .ok (.iconst 1, 1) := by decide +kernel
theorem q340_61 : decode (zbc 340) 61 = .ok (.if_icmp .ne 22, 3) := by decide +kernel
theorem q340_64 : decode (zbc 340) 64 = .ok (.goto 15, 3) := by decide +kernel
theorem sp_i {X : Nat × (Nat → Int32)} {B : Int} {sv : Nat → Int → Int} {u : Int} {h : Nat → Int → Int} {s : Int → Int} {b : WB} {c d : Nat} {F : GM} {Y0 : DY} {Q : WQ} {W H : Nat} {cx ry : Int} (hb1 : c ≤ b.1) (hb2 : d ≤ b.2.1) (hok : mOk s) (hW : s 0 = (W : Int)) (hH : s 1 = (H : Int)) (hcx : zr cx) (hry : zr ry) {a8 a9 a10 a11 : Value} {y : Nat} (hy : (y : Int) < s 1) (hk : ∀ G D Y (k : Nat), (k : Int) = s 0 → PG B sv u h s G → wRo Y0 W H D Y → DJ s cx ry D (y : Int) (k : Int) → wW (229, X) 340 b 93 [.ref 192, .int (zi cx), .int (zi ry), .int (zi (s 0)), .int (zi (s 1)), .ref (1000 + Y0.2.2), .int (zi (y : Int)), .int (zi (k : Int)), a8, a9, a10, a11] [] G F Y c d Q) : ∀ (d9 : Nat) (k : Nat) (G : GM) (D : Int → Int) (Y : DY), s 0 - (k : Int) < (d9 : Int) → (k : Int) ≤ s 0 → PG B sv u h s G → wRo Y0 W H D Y → DJ s cx ry D (y : Int) (k : Int) → wW (229, X) 340 b 33 [.ref 192, .int (zi cx), .int (zi ry), .int (zi (s 0)), .int (zi (s 1)), .ref (1000 + Y0.2.2), .int (zi (y : Int)), .int (zi (k : Int)), a8, a9, a10, a11] [] G F Y c d Q := by
  intro d9
  induction d9 with
  | zero =>
    intro k
    intros
    exact absurd (by assumption) (by omega)
  | succ d9 ih =>
      intro k G D Y hd hk9 p hS hJ
      obtain ⟨a0, a1, -⟩ := id hok
      refine wi_iload (i := 7) (pc' := 35) q340_33 rfl rfl ?_
      refine wi_iload_n (i := 3) (pc' := 36) q340_35 rfl rfl rfl ?_
      refine wi_icmp_ge (t := 93) (pc' := 39) q340_36 (by decide) rfl (by omega) (by omega) ?_ ?_
      · intro h9
        exact hk G D Y k (by omega) p hS hJ
      · intro h9
        refine wi_aload (i := 5) (pc' := 41) q340_39 rfl rfl ?_
        refine wi_iload (i := 6) (pc' := 43) q340_41 rfl rfl ?_
        refine wi_strow (pc' := 44) q340_43 rfl hS ⟨by omega, by omega⟩ (by omega) ?_
        refine wi_iload (i := 7) (pc' := 46) q340_44 rfl rfl ?_
        refine wi_iload_n (i := 1) (pc' := 47) q340_46 rfl rfl rfl ?_
        refine wi_if_ge (t := 67) (pc' := 50) q340_47 (by decide) rfl hcx ?_ ?_
        · intro h8
          refine wi_iload (i := 7) (pc' := 69) q340_67 rfl rfl ?_
          refine wi_iload_n (i := 1) (pc' := 70) q340_69 rfl rfl rfl ?_
          refine wi_icmp_ne (t := 83) (pc' := 73) q340_70 (by decide) rfl (by omega) hcx ?_ ?_
          · intro h7
            have ex : (12 * (y : Int) + (k : Int)) % 12 = (k : Int) := by omega
            have ey : (12 * (y : Int) + (k : Int)) / 12 = (y : Int) := by omega
            refine wi_sipush (pc' := 86) q340_83 rfl (by decide) ?_
            refine wi_stset (r := (y : Int)) (pc' := 87) q340_86 rfl hS ⟨by omega, by omega⟩ ⟨by omega, by omega⟩ (by omega) (by omega) ?_
            intro Y1 hY1
            refine wi_iinc7 (pc' := 90) q340_87 rfl rfl (Or.inr rfl) ?_
            refine wi_goto (t := 33) q340_90 (by decide) ?_
            rw [show ((k : Int) + 1) = ((k + 1 : Nat) : Int) by omega]
            refine ih (k + 1) _ _ _ (by omega) (by omega) p hY1 ?_
            have e9 := DJ_put (v := 9999) hok hJ (y := (y : Int)) (k := (k : Int)) ⟨by omega, by omega⟩ ⟨by omega, by omega⟩ (Or.inr ⟨fun h => h.elim (fun h => by omega) (fun h => by omega), rfl⟩)
            exact e9
          · intro h7
            refine wi_iload (i := 6) (pc' := 75) q340_73 rfl rfl ?_
            refine wi_iload_n (i := 2) (pc' := 76) q340_75 rfl rfl rfl ?_
            refine wi_icmp_ne (t := 83) (pc' := 79) q340_76 (by decide) rfl (by omega) hry ?_ ?_
            · intro h6
              have ex : (12 * (y : Int) + (k : Int)) % 12 = (k : Int) := by omega
              have ey : (12 * (y : Int) + (k : Int)) / 12 = (y : Int) := by omega
              refine wi_sipush (pc' := 86) q340_83 rfl (by decide) ?_
              refine wi_stset (r := (y : Int)) (pc' := 87) q340_86 rfl hS ⟨by omega, by omega⟩ ⟨by omega, by omega⟩ (by omega) (by omega) ?_
              intro Y2 hY2
              refine wi_iinc7 (pc' := 90) q340_87 rfl rfl (Or.inr rfl) ?_
              refine wi_goto (t := 33) q340_90 (by decide) ?_
              rw [show ((k : Int) + 1) = ((k + 1 : Nat) : Int) by omega]
              refine ih (k + 1) _ _ _ (by omega) (by omega) p hY2 ?_
              have e9 := DJ_put (v := 9999) hok hJ (y := (y : Int)) (k := (k : Int)) ⟨by omega, by omega⟩ ⟨by omega, by omega⟩ (Or.inr ⟨fun h => h.elim (fun h => by omega) (fun h => by omega), rfl⟩)
              exact e9
            · intro h6
              have ex : (12 * (y : Int) + (k : Int)) % 12 = (k : Int) := by omega
              have ey : (12 * (y : Int) + (k : Int)) / 12 = (y : Int) := by omega
              refine wi_iconst (pc' := 80) q340_79 rfl ?_
              refine wi_goto (t := 86) q340_80 (by decide) ?_
              refine wi_stset (r := (y : Int)) (pc' := 87) q340_86 rfl hS ⟨by omega, by omega⟩ ⟨by omega, by omega⟩ (by omega) (by omega) ?_
              intro Y3 hY3
              refine wi_iinc7 (pc' := 90) q340_87 rfl rfl (Or.inr rfl) ?_
              refine wi_goto (t := 33) q340_90 (by decide) ?_
              rw [show ((k : Int) + 1) = ((k + 1 : Nat) : Int) by omega]
              refine ih (k + 1) _ _ _ (by omega) (by omega) p hY3 ?_
              have e9 := DJ_put (v := 0) hok hJ (y := (y : Int)) (k := (k : Int)) ⟨by omega, by omega⟩ ⟨by omega, by omega⟩ (Or.inl ⟨Or.inr ⟨by omega, by omega, by omega⟩, rfl⟩)
              exact e9
        · intro h8
          refine wi_aload_n (i := 0) (pc' := 51) q340_50 rfl rfl rfl ?_
          refine wi_bipush (pc' := 53) q340_51 rfl (by decide) ?_
          refine wi_iload (i := 7) (pc' := 55) q340_53 rfl rfl ?_
          refine wi_iload (i := 6) (pc' := 57) q340_55 rfl rfl ?_
          refine wi_cv (u9 := (229, X)) (pc' := 60) wq340_57 rfl (cL_s3 (pL_isHut p (by omega) (by omega)) zLc_i) (fun h => absurd h (by decide)) rfl rfl (vL_isHut (s := s) (x := (k : Int)) (y := (y : Int)) (by omega) (by omega)).1 (by (try dsimp only); omega) (by (try dsimp only); omega) ?_
          intro Gp1 p1
          rw [(vL_isHut (s := s) (x := (k : Int)) (y := (y : Int)) (by omega) (by omega)).2]
          refine wi_iconst (pc' := 61) q340_60 rfl ?_
          refine wi_icmp_ne (t := 83) (pc' := 64) q340_61 (by decide) rfl zr_zb (by omega) ?_ ?_
          · intro h7
            have eg : s (30 + 12 * (y : Int) + (k : Int)) = s (30 + (12 * (y : Int) + (k : Int))) := by congr 1; omega
            refine wi_sipush (pc' := 86) q340_83 rfl (by decide) ?_
            refine wi_stset (r := (y : Int)) (pc' := 87) q340_86 rfl hS ⟨by omega, by omega⟩ ⟨by omega, by omega⟩ (by omega) (by omega) ?_
            intro Y4 hY4
            refine wi_iinc7 (pc' := 90) q340_87 rfl rfl (Or.inr rfl) ?_
            refine wi_goto (t := 33) q340_90 (by decide) ?_
            rw [show ((k : Int) + 1) = ((k + 1 : Nat) : Int) by omega]
            refine ih (k + 1) _ _ _ (by omega) (by omega) p1 hY4 ?_
            have e9 := DJ_put (v := 9999) hok hJ (y := (y : Int)) (k := (k : Int)) ⟨by omega, by omega⟩ ⟨by omega, by omega⟩ (Or.inr ⟨fun h => h.elim (fun h => h7 (zb_one.mpr (by rw [eg]; exact h.2))) (fun h => by omega), rfl⟩)
            exact e9
          · intro h7
            have eg : s (30 + 12 * (y : Int) + (k : Int)) = s (30 + (12 * (y : Int) + (k : Int))) := by congr 1; omega
            refine wi_goto (t := 79) q340_64 (by decide) ?_
            refine wi_iconst (pc' := 80) q340_79 rfl ?_
            refine wi_goto (t := 86) q340_80 (by decide) ?_
            refine wi_stset (r := (y : Int)) (pc' := 87) q340_86 rfl hS ⟨by omega, by omega⟩ ⟨by omega, by omega⟩ (by omega) (by omega) ?_
            intro Y5 hY5
            refine wi_iinc7 (pc' := 90) q340_87 rfl rfl (Or.inr rfl) ?_
            refine wi_goto (t := 33) q340_90 (by decide) ?_
            rw [show ((k : Int) + 1) = ((k + 1 : Nat) : Int) by omega]
            refine ih (k + 1) _ _ _ (by omega) (by omega) p1 hY5 ?_
            have e9 := DJ_put (v := 0) hok hJ (y := (y : Int)) (k := (k : Int)) ⟨by omega, by omega⟩ ⟨by omega, by omega⟩ (Or.inl ⟨Or.inl ⟨h8, by rw [← eg]; exact zb_one.mp h7⟩, rfl⟩)
            exact e9
theorem q340_23 : decode (zbc 340) 23 = .ok (.iload 6, 2) := by decide +kernel
theorem q340_25 : decode (zbc 340) 25 = .ok (.iload 4, 2) := by decide +kernel
theorem q340_27 : decode (zbc 340) 27 = .ok (.if_icmp .ge 72, 3) := by decide +kernel
theorem q340_30 : decode (zbc 340) 30 = .ok (.iconst 0, 1) := by decide +kernel
theorem q340_31 : decode (zbc 340) 31 = .ok (.istore 7, 2) := by decide +kernel
theorem q340_93 : decode (zbc 340) 93 = .ok (.iinc 6 1, 3) := by decide +kernel
theorem q340_96 : decode (zbc 340) 96 = .ok (.goto (-73), 3) := by decide +kernel
theorem sp_o {X : Nat × (Nat → Int32)} {B : Int} {sv : Nat → Int → Int} {u : Int} {h : Nat → Int → Int} {s : Int → Int} {b : WB} {c d : Nat} {F : GM} {Y0 : DY} {Q : WQ} {W H : Nat} {cx ry : Int} (hb1 : c ≤ b.1) (hb2 : d ≤ b.2.1) (hok : mOk s) (hW : s 0 = (W : Int)) (hH : s 1 = (H : Int)) (hcx : zr cx) (hry : zr ry) {a8 a9 a10 a11 : Value} (hk : ∀ G D Y a7, PG B sv u h s G → wRo Y0 W H D Y → DJ s cx ry D (s 1) 0 → wW (229, X) 340 b 99 [.ref 192, .int (zi cx), .int (zi ry), .int (zi (s 0)), .int (zi (s 1)), .ref (1000 + Y0.2.2), .int (zi (s 1)), a7, a8, a9, a10, a11] [] G F Y c d Q) : ∀ (d9 : Nat) (k : Nat) (a7 : Value) (G : GM) (D : Int → Int) (Y : DY), s 1 - (k : Int) < (d9 : Int) → (k : Int) ≤ s 1 → PG B sv u h s G → wRo Y0 W H D Y → DJ s cx ry D (k : Int) 0 → wW (229, X) 340 b 23 [.ref 192, .int (zi cx), .int (zi ry), .int (zi (s 0)), .int (zi (s 1)), .ref (1000 + Y0.2.2), .int (zi (k : Int)), a7, a8, a9, a10, a11] [] G F Y c d Q := by
  intro d9
  induction d9 with
  | zero =>
    intro k
    intros
    exact absurd (by assumption) (by omega)
  | succ d9 ih =>
      intro k a7 G D Y hd hk9 p hS hJ
      obtain ⟨a0, a1, -⟩ := id hok
      refine wi_iload (i := 6) (pc' := 25) q340_23 rfl rfl ?_
      refine wi_iload (i := 4) (pc' := 27) q340_25 rfl rfl ?_
      refine wi_icmp_ge (t := 99) (pc' := 30) q340_27 (by decide) rfl (by omega) (by omega) ?_ ?_
      · intro h9
        have e9 : (k : Int) = s 1 := by omega
        rw [e9] at hJ ⊢
        exact hk G D Y a7 p hS hJ
      · intro h9
        refine wi_iconst (pc' := 31) q340_30 rfl ?_
        refine wi_istore7 (pc' := 33) q340_31 rfl rfl (Or.inr rfl) ?_
        refine sp_i (y := k) hb1 hb2 hok hW hH hcx hry (by omega) ?_ 99 0 _ _ _ (by omega) (by omega) p hS hJ
        intro G9 D9 Y9 k2 hk2 p9 hS9 hJ9
        refine wi_iinc6 (pc' := 96) q340_93 rfl rfl (Or.inr rfl) ?_
        refine wi_goto (t := 23) q340_96 (by decide) ?_
        rw [show ((k : Int) + 1) = ((k + 1 : Nat) : Int) by omega]
        rw [hk2] at hJ9
        exact ih (k + 1) _ _ _ _ (by omega) (by omega) p9 hS9 (DJ_nx hJ9)
theorem q340_140 : decode (zbc 340) 140 = .ok (.iload 9, 2) := by decide +kernel
theorem q340_142 : decode (zbc 340) 142 = .ok (.iconst 1, 1) := by decide +kernel
theorem q340_143 : decode (zbc 340) 143 = .ok (.if_icmp .ne 7, 3) := by decide +kernel
theorem q340_150 : decode (zbc 340) 150 = .ok (.iload 9, 2) := by decide +kernel
theorem q340_152 : decode (zbc 340) 152 = .ok (.iconst 3, 1) := by decide +kernel
theorem q340_153 : decode (zbc 340) 153 = .ok (.if_icmp .ne 7, 3) := by decide +kernel
theorem q340_160 : decode (zbc 340) 160 = .ok (.iconst 0, 1) := by decide +kernel
theorem q340_156 : decode (zbc 340) 156 = .ok (.iconst (-1), 1) := by decide +kernel
theorem q340_157 : decode (zbc 340) 157 = .ok (.goto 4, 3) := by decide +kernel
theorem q340_146 : decode (zbc 340) 146 = .ok (.iconst 1, 1) := by decide +kernel
theorem q340_147 : decode (zbc 340) 147 = .ok (.goto 14, 3) := by decide +kernel
theorem sp_x {X : Nat × (Nat → Int32)} {s : Int → Int} {b : WB} {c d : Nat} {G F : GM} {Y Y0 : DY} {Q : WQ} {cx ry v : Int} {a6 a7 a8 a10 a11 : Value} {w : Nat} (hw : w < 4) : wW (229, X) 340 b 161 [.ref 192, .int (zi cx), .int (zi ry), .int (zi (s 0)), .int (zi (s 1)), .ref (1000 + Y0.2.2), a6, a7, a8, .int (zi (w : Int)), a10, a11] [.int (zi (zsx (w : Int))), .int (zi v)] G F Y c d Q → wW (229, X) 340 b 140 [.ref 192, .int (zi cx), .int (zi ry), .int (zi (s 0)), .int (zi (s 1)), .ref (1000 + Y0.2.2), a6, a7, a8, .int (zi (w : Int)), a10, a11] [.int (zi v)] G F Y c d Q := by
  intro hk
  refine wi_iload (i := 9) (pc' := 142) q340_140 rfl rfl ?_
  refine wi_iconst (pc' := 143) q340_142 rfl ?_
  refine wi_icmp_ne (t := 150) (pc' := 146) q340_143 (by decide) rfl (by omega) (by omega) ?_ ?_
  · intro h143
    refine wi_iload (i := 9) (pc' := 152) q340_150 rfl rfl ?_
    refine wi_iconst (pc' := 153) q340_152 rfl ?_
    refine wi_icmp_ne (t := 160) (pc' := 156) q340_153 (by decide) rfl (by omega) (by omega) ?_ ?_
    · intro h153
      refine wi_iconst (pc' := 161) q340_160 rfl ?_
      have e9 : zsx (w : Int) = 0 := by unfold zsx; repeat' split; all_goals first | omega | rfl
      rw [e9] at hk
      exact hk
    · intro h153
      refine wi_iconst (pc' := 157) q340_156 rfl ?_
      refine wi_goto (t := 161) q340_157 (by decide) ?_
      have e9 : zsx (w : Int) = (-1) := by unfold zsx; repeat' split; all_goals first | omega | rfl
      rw [e9] at hk
      exact hk
  · intro h143
    refine wi_iconst (pc' := 147) q340_146 rfl ?_
    refine wi_goto (t := 161) q340_147 (by decide) ?_
    have e9 : zsx (w : Int) = 1 := by unfold zsx; repeat' split; all_goals first | omega | rfl
    rw [e9] at hk
    exact hk
theorem q340_166 : decode (zbc 340) 166 = .ok (.iload 9, 2) := by decide +kernel
theorem q340_168 : decode (zbc 340) 168 = .ok (.ifCond .ne 7, 3) := by decide +kernel
theorem q340_175 : decode (zbc 340) 175 = .ok (.iload 9, 2) := by decide +kernel
theorem q340_177 : decode (zbc 340) 177 = .ok (.iconst 2, 1) := by decide +kernel
theorem q340_178 : decode (zbc 340) 178 = .ok (.if_icmp .ne 7, 3) := by decide +kernel
theorem q340_185 : decode (zbc 340) 185 = .ok (.iconst 0, 1) := by decide +kernel
theorem q340_181 : decode (zbc 340) 181 = .ok (.iconst 1, 1) := by decide +kernel
theorem q340_182 : decode (zbc 340) 182 = .ok (.goto 4, 3) := by decide +kernel
theorem q340_171 : decode (zbc 340) 171 = .ok (.iconst (-1), 1) := by decide +kernel
theorem q340_172 : decode (zbc 340) 172 = .ok (.goto 14, 3) := by decide +kernel
theorem sp_y {X : Nat × (Nat → Int32)} {s : Int → Int} {b : WB} {c d : Nat} {G F : GM} {Y Y0 : DY} {Q : WQ} {cx ry v : Int} {a6 a7 a8 a10 a11 : Value} {w : Nat} (hw : w < 4) : wW (229, X) 340 b 186 [.ref 192, .int (zi cx), .int (zi ry), .int (zi (s 0)), .int (zi (s 1)), .ref (1000 + Y0.2.2), a6, a7, a8, .int (zi (w : Int)), a10, a11] [.int (zi (zsy (w : Int))), .int (zi v)] G F Y c d Q → wW (229, X) 340 b 166 [.ref 192, .int (zi cx), .int (zi ry), .int (zi (s 0)), .int (zi (s 1)), .ref (1000 + Y0.2.2), a6, a7, a8, .int (zi (w : Int)), a10, a11] [.int (zi v)] G F Y c d Q := by
  intro hk
  refine wi_iload (i := 9) (pc' := 168) q340_166 rfl rfl ?_
  refine wi_if_ne (t := 175) (pc' := 171) q340_168 (by decide) rfl (by omega) ?_ ?_
  · intro h168
    refine wi_iload (i := 9) (pc' := 177) q340_175 rfl rfl ?_
    refine wi_iconst (pc' := 178) q340_177 rfl ?_
    refine wi_icmp_ne (t := 185) (pc' := 181) q340_178 (by decide) rfl (by omega) (by omega) ?_ ?_
    · intro h178
      refine wi_iconst (pc' := 186) q340_185 rfl ?_
      have e9 : zsy (w : Int) = 0 := by unfold zsy; repeat' split; all_goals first | omega | rfl
      rw [e9] at hk
      exact hk
    · intro h178
      refine wi_iconst (pc' := 182) q340_181 rfl ?_
      refine wi_goto (t := 186) q340_182 (by decide) ?_
      have e9 : zsy (w : Int) = 1 := by unfold zsy; repeat' split; all_goals first | omega | rfl
      rw [e9] at hk
      exact hk
  · intro h168
    refine wi_iconst (pc' := 172) q340_171 rfl ?_
    refine wi_goto (t := 186) q340_172 (by decide) ?_
    have e9 : zsy (w : Int) = (-1) := by unfold zsy; repeat' split; all_goals first | omega | rfl
    rw [e9] at hk
    exact hk
theorem q340_132 : decode (zbc 340) 132 = .ok (.iload 9, 2) := by decide +kernel
theorem q340_134 : decode (zbc 340) 134 = .ok (.iconst 4, 1) := by decide +kernel
theorem q340_135 : decode (zbc 340) 135 = .ok (.if_icmp .ge 142, 3) := by decide +kernel
theorem q340_138 : decode (zbc 340) 138 = .ok (.iload 8, 2) := by decide +kernel
theorem q340_161 : decode (zbc 340) 161 = .ok (.iadd, 1) := by decide +kernel
theorem q340_162 : decode (zbc 340) 162 = .ok (.istore 10, 2) := by decide +kernel
theorem q340_164 : decode (zbc 340) 164 = .ok (.iload 7, 2) := by decide +kernel
theorem q340_186 : decode (zbc 340) 186 = .ok (.iadd, 1) := by decide +kernel
theorem q340_187 : decode (zbc 340) 187 = .ok (.istore 11, 2) := by decide +kernel
theorem q340_189 : decode (zbc 340) 189 = .ok (.iload 10, 2) := by decide +kernel
theorem q340_191 : decode (zbc 340) 191 = .ok (.ifCond .lt 80, 3) := by decide +kernel
theorem q340_271 : decode (zbc 340) 271 = .ok (.iinc 9 1, 3) := by decide +kernel
theorem q340_274 : decode (zbc 340) 274 = .ok (.goto (-142), 3) := by decide +kernel
theorem q340_194 : decode (zbc 340) 194 = .ok (.iload 11, 2) := by decide +kernel
theorem q340_196 : decode (zbc 340) 196 = .ok (.ifCond .lt 75, 3) := by decide +kernel
theorem q340_199 : decode (zbc 340) 199 = .ok (.iload 10, 2) := by decide +kernel
theorem q340_201 : decode (zbc 340) 201 = .ok (.iload_n 3, 1) := by decide +kernel
theorem q340_202 : decode (zbc 340) 202 = .ok (.if_icmp .ge 69, 3) := by decide +kernel
theorem q340_205 : decode (zbc 340) 205 = .ok (.iload 11, 2) := by decide +kernel
theorem q340_207 : decode (zbc 340) 207 = .ok (.iload 4, 2) := by decide +kernel
theorem q340_209 : decode (zbc 340) 209 = .ok (.if_icmp .ge 62, 3) := by decide +kernel
theorem q340_212 : decode (zbc 340) 212 = .ok (.aload_n 0, 1) := by decide +kernel
theorem q340_213 : decode (zbc 340) 213 = .ok (.bipush 16, 2) := by decide +kernel
theorem q340_215 : decode (zbc 340) 215 = .ok (.iload 10, 2) := by decide +kernel
theorem q340_217 : decode (zbc 340) 217 = .ok (.iload 11, 2) := by decide +kernel
theorem q340_219 : decode (zbc 340) 219 = .ok (.invokestatic 251, 3) := by decide +kernel
theorem wq340_219 {L9 : Nat} {xs9 : Nat → Int32} {N9 : Nat} : z_SC N9 znl zTs (zZ L9 xs9 N9) zyn zbc zrt zfr zlo (fun _ i => i) ztb 340 219 2 335 4 := sc_S (P := fun _ i => i) zTs_good q340_219 kx_1385 kx_1386 kx_31 kx_1387 rfl ⟨by decide, by decide, by decide +kernel⟩ ⟨Nat.le_of_ble_eq_true rfl, Nat.le_of_ble_eq_true rfl⟩
theorem q340_222 : decode (zbc 340) 222 = .ok (.iconst 1, 1) := by decide +kernel
theorem q340_223 : decode (zbc 340) 223 = .ok (.if_icmp .eq 48, 3) := by decide +kernel
theorem q340_226 : decode (zbc 340) 226 = .ok (.aload 5, 2) := by decide +kernel
theorem q340_228 : decode (zbc 340) 228 = .ok (.iload 11, 2) := by decide +kernel
theorem q340_230 : decode (zbc 340) 230 = .ok (.aaload, 1) := by decide +kernel
theorem q340_231 : decode (zbc 340) 231 = .ok (.iload 10, 2) := by decide +kernel
theorem q340_233 : decode (zbc 340) 233 = .ok (.iaload, 1) := by decide +kernel
theorem q340_234 : decode (zbc 340) 234 = .ok (.iconst 1, 1) := by decide +kernel
theorem q340_235 : decode (zbc 340) 235 = .ok (.iadd, 1) := by decide +kernel
theorem q340_236 : decode (zbc 340) 236 = .ok (.aload 5, 2) := by decide +kernel
theorem q340_238 : decode (zbc 340) 238 = .ok (.iload 7, 2) := by decide +kernel
theorem q340_240 : decode (zbc 340) 240 = .ok (.aaload, 1) := by decide +kernel
theorem q340_241 : decode (zbc 340) 241 = .ok (.iload 8, 2) := by decide +kernel
theorem q340_243 : decode (zbc 340) 243 = .ok (.iaload, 1) := by decide +kernel
theorem q340_244 : decode (zbc 340) 244 = .ok (.if_icmp .lt 6, 3) := by decide +kernel
theorem q340_250 : decode (zbc 340) 250 = .ok (.aload 5, 2) := by decide +kernel
theorem q340_252 : decode (zbc 340) 252 = .ok (.iload 7, 2) := by decide +kernel
theorem q340_254 : decode (zbc 340) 254 = .ok (.aaload, 1) := by decide +kernel
theorem q340_255 : decode (zbc 340) 255 = .ok (.iload 8, 2) := by decide +kernel
theorem q340_257 : decode (zbc 340) 257 = .ok (.aload 5, 2) := by decide +kernel
theorem q340_259 : decode (zbc 340) 259 = .ok (.iload 11, 2) := by decide +kernel
theorem q340_261 : decode (zbc 340) 261 = .ok (.aaload, 1) := by decide +kernel
theorem q340_262 : decode (zbc 340) 262 = .ok (.iload 10, 2) := by decide +kernel
theorem q340_264 : decode (zbc 340) 264 = .ok (.iaload, 1) := by decide +kernel
theorem q340_265 : decode (zbc 340) 265 = .ok (.iconst 1, 1) := by decide +kernel
theorem q340_266 : decode (zbc 340) 266 = .ok (.iadd, 1) := by decide +kernel
theorem q340_267 : decode (zbc 340) 267 = .ok (.iastore, 1) := by decide +kernel
theorem q340_268 : decode (zbc 340) 268 = .ok (.iconst 1, 1) := by decide +kernel
theorem q340_269 : decode (zbc 340) 269 = .ok (.istore 6, 2) := by decide +kernel
theorem q340_247 : decode (zbc 340) 247 = .ok (.goto 24, 3) := by decide +kernel
theorem sp_w {X : Nat × (Nat → Int32)} {B : Int} {sv : Nat → Int → Int} {u : Int} {h : Nat → Int → Int} {s : Int → Int} {b : WB} {c d : Nat} {F : GM} {Y0 : DY} {Q : WQ} {W H : Nat} {cx ry : Int} (hb1 : c ≤ b.1) (hb2 : d ≤ b.2.1) (hok : mOk s) (hW : s 0 = (W : Int)) (hH : s 1 = (H : Int)) (hcx : zr cx) (hry : zr ry) {D0 : Int → Int} {Pd : Prop} {y q : Nat} (hy : (y : Int) < s 1) (hq : (q : Int) < s 0) (hk : ∀ D less G Y a10 a11, PG B sv u h s G → wRo Y0 W H D Y → wLs s (gC s cx ry) D0 D less (Pd ∧ ∀ d, 0 ≤ d → d < (4 : Int) → clo s D (12 * (y : Int) + (q : Int)) d) → wW (229, X) 340 b 277 [.ref 192, .int (zi cx), .int (zi ry), .int (zi (s 0)), .int (zi (s 1)), .ref (1000 + Y0.2.2), .int (zi less), .int (zi (y : Int)), .int (zi (q : Int)), .int (zi 4), a10, a11] [] G F Y c d Q) : ∀ (d9 : Nat) (k : Nat) (D : Int → Int) (less : Int) (G : GM) (Y : DY) (a10 a11 : Value), 4 - (k : Int) < (d9 : Int) → (k : Int) ≤ 4 → PG B sv u h s G → wRo Y0 W H D Y → wLs s (gC s cx ry) D0 D less (Pd ∧ ∀ d, 0 ≤ d → d < (k : Int) → clo s D (12 * (y : Int) + (q : Int)) d) → wW (229, X) 340 b 132 [.ref 192, .int (zi cx), .int (zi ry), .int (zi (s 0)), .int (zi (s 1)), .ref (1000 + Y0.2.2), .int (zi less), .int (zi (y : Int)), .int (zi (q : Int)), .int (zi (k : Int)), a10, a11] [] G F Y c d Q := by
  intro d9
  induction d9 with
  | zero =>
    intro k
    intros
    exact absurd (by assumption) (by omega)
  | succ d9 ih =>
      intro k D less G Y a10 a11 hd hk9 p hS hL
      obtain ⟨a0, a1, -⟩ := id hok
      have hlz : zr less := by
        rcases hL.2 with h | h
        · rw [h.1]; decide
        · rw [h.1]; decide
      refine wi_iload (i := 9) (pc' := 134) q340_132 rfl rfl ?_
      refine wi_iconst (pc' := 135) q340_134 rfl ?_
      refine wi_icmp_ge (t := 277) (pc' := 138) q340_135 (by decide) rfl (by omega) (by omega) ?_ ?_
      · intro h9
        obtain rfl : k = 4 := by omega
        exact hk D less G Y a10 a11 p hS hL
      · intro h9
        have hw4 : k < 4 := by omega
        have zx := zsx_rng (k : Int)
        have zy := zsy_rng (k : Int)
        have hpv : zVal (s 0) (s 1) (12 * (y : Int) + (q : Int)) := ⟨by omega, by omega, by omega⟩
        have ex : znx (12 * (y : Int) + (q : Int)) (k : Int) = (q : Int) + zsx (k : Int) := by unfold znx; omega
        have ey : zny (12 * (y : Int) + (q : Int)) (k : Int) = (y : Int) + zsy (k : Int) := by unfold zny; omega
        have en : znb (12 * (y : Int) + (q : Int)) (k : Int) = 12 * ((y : Int) + zsy (k : Int)) + ((q : Int) + zsx (k : Int)) := by unfold znb; rw [ex, ey]
        refine wi_iload (i := 8) (pc' := 140) q340_138 rfl rfl ?_
        refine sp_x hw4 ?_
        refine wi_iadd (pc' := 162) q340_161 rfl ?_
        refine wi_istore10 (pc' := 164) q340_162 rfl rfl (Or.inr rfl) ?_
        refine wi_iload (i := 7) (pc' := 166) q340_164 rfl rfl ?_
        refine sp_y hw4 ?_
        refine wi_iadd (pc' := 187) q340_186 rfl ?_
        refine wi_istore11 (pc' := 189) q340_187 rfl rfl (Or.inr rfl) ?_
        refine wi_iload (i := 10) (pc' := 191) q340_189 rfl rfl ?_
        refine wi_if_lt (t := 271) (pc' := 194) q340_191 (by decide) rfl (by omega) ?_ ?_
        · intro h191
          refine wi_iinc9 (pc' := 274) q340_271 rfl rfl (Or.inr rfl) ?_
          refine wi_goto (t := 132) q340_274 (by decide) ?_
          rw [show ((k : Int) + 1) = ((k + 1 : Nat) : Int) by omega]
          refine ih (k + 1) _ _ _ _ _ _ (by omega) (by omega) p hS ?_
          refine wLs_w2 hL (fun eD hP => ⟨hP.1, fun d d0 d1 => ?_⟩)
          by_cases e : d = (k : Int)
          · subst e
            intro hi9 hw9
            rw [ex] at hi9; omega
          · exact hP.2 d d0 (by omega)
        · intro h191
          refine wi_iload (i := 11) (pc' := 196) q340_194 rfl rfl ?_
          refine wi_if_lt (t := 271) (pc' := 199) q340_196 (by decide) rfl (by omega) ?_ ?_
          · intro h196
            refine wi_iinc9 (pc' := 274) q340_271 rfl rfl (Or.inr rfl) ?_
            refine wi_goto (t := 132) q340_274 (by decide) ?_
            rw [show ((k : Int) + 1) = ((k + 1 : Nat) : Int) by omega]
            refine ih (k + 1) _ _ _ _ _ _ (by omega) (by omega) p hS ?_
            refine wLs_w2 hL (fun eD hP => ⟨hP.1, fun d d0 d1 => ?_⟩)
            by_cases e : d = (k : Int)
            · subst e
              intro hi9 hw9
              rw [ey] at hi9; omega
            · exact hP.2 d d0 (by omega)
          · intro h196
            refine wi_iload (i := 10) (pc' := 201) q340_199 rfl rfl ?_
            refine wi_iload_n (i := 3) (pc' := 202) q340_201 rfl rfl rfl ?_
            refine wi_icmp_ge (t := 271) (pc' := 205) q340_202 (by decide) rfl (by omega) (by omega) ?_ ?_
            · intro h202
              refine wi_iinc9 (pc' := 274) q340_271 rfl rfl (Or.inr rfl) ?_
              refine wi_goto (t := 132) q340_274 (by decide) ?_
              rw [show ((k : Int) + 1) = ((k + 1 : Nat) : Int) by omega]
              refine ih (k + 1) _ _ _ _ _ _ (by omega) (by omega) p hS ?_
              refine wLs_w2 hL (fun eD hP => ⟨hP.1, fun d d0 d1 => ?_⟩)
              by_cases e : d = (k : Int)
              · subst e
                intro hi9 hw9
                rw [ex] at hi9; omega
              · exact hP.2 d d0 (by omega)
            · intro h202
              refine wi_iload (i := 11) (pc' := 207) q340_205 rfl rfl ?_
              refine wi_iload (i := 4) (pc' := 209) q340_207 rfl rfl ?_
              refine wi_icmp_ge (t := 271) (pc' := 212) q340_209 (by decide) rfl (by omega) (by omega) ?_ ?_
              · intro h209
                refine wi_iinc9 (pc' := 274) q340_271 rfl rfl (Or.inr rfl) ?_
                refine wi_goto (t := 132) q340_274 (by decide) ?_
                rw [show ((k : Int) + 1) = ((k + 1 : Nat) : Int) by omega]
                refine ih (k + 1) _ _ _ _ _ _ (by omega) (by omega) p hS ?_
                refine wLs_w2 hL (fun eD hP => ⟨hP.1, fun d d0 d1 => ?_⟩)
                by_cases e : d = (k : Int)
                · subst e
                  intro hi9 hw9
                  rw [ey] at hi9; omega
                · exact hP.2 d d0 (by omega)
              · intro h209
                refine wi_aload_n (i := 0) (pc' := 213) q340_212 rfl rfl rfl ?_
                refine wi_bipush (pc' := 215) q340_213 rfl (by decide) ?_
                refine wi_iload (i := 10) (pc' := 217) q340_215 rfl rfl ?_
                refine wi_iload (i := 11) (pc' := 219) q340_217 rfl rfl ?_
                refine wi_cv (u9 := (229, X)) (pc' := 222) wq340_219 rfl (cL_s3 (pL_isWater p (by omega) (by omega)) zLc_i) (fun h => absurd h (by decide)) rfl rfl (vL_isWater (s := s) (x := ((q : Int) + (zsx (k : Int)))) (y := ((y : Int) + (zsy (k : Int)))) (by omega) (by omega)).1 (by (try dsimp only); omega) (by (try dsimp only); omega) ?_
                intro Gp1 p1
                rw [(vL_isWater (s := s) (x := ((q : Int) + (zsx (k : Int)))) (y := ((y : Int) + (zsy (k : Int)))) (by omega) (by omega)).2]
                refine wi_iconst (pc' := 223) q340_222 rfl ?_
                refine wi_icmp_eq (t := 271) (pc' := 226) q340_223 (by decide) rfl zr_zb (by omega) ?_ ?_
                · intro h223
                  have hwt : s (30 + 12 * ((y : Int) + zsy (k : Int)) + ((q : Int) + zsx (k : Int))) = 1 := zb_one.mp h223
                  refine wi_iinc9 (pc' := 274) q340_271 rfl rfl (Or.inr rfl) ?_
                  refine wi_goto (t := 132) q340_274 (by decide) ?_
                  rw [show ((k : Int) + 1) = ((k + 1 : Nat) : Int) by omega]
                  refine ih (k + 1) _ _ _ _ _ _ (by omega) (by omega) p1 hS ?_
                  refine wLs_w2 hL (fun eD hP => ⟨hP.1, fun d d0 d1 => ?_⟩)
                  by_cases e : d = (k : Int)
                  · subst e
                    intro hi9 hw9
                    exact absurd (by rw [en, ← hwt]; congr 1; omega) hw9
                  · exact hP.2 d d0 (by omega)
                · intro h223
                  have hwt : s (30 + 12 * ((y : Int) + zsy (k : Int)) + ((q : Int) + zsx (k : Int))) ≠ 1 := fun h => h223 (zb_one.mpr h)
                  have hin : zIn (s 0) (s 1) (znx (12 * (y : Int) + (q : Int)) (k : Int)) (zny (12 * (y : Int) + (q : Int)) (k : Int)) := by rw [ex, ey]; exact ⟨⟨by omega, by omega⟩, by omega, by omega⟩
                  have hD1 := hL.1.1 (12 * (y : Int) + (q : Int)) (by omega) (by omega)
                  have hD2 := hL.1.1 (12 * ((y : Int) + zsy (k : Int)) + ((q : Int) + zsx (k : Int))) (by omega) (by omega)
                  refine wi_aload (i := 5) (pc' := 228) q340_226 rfl rfl ?_
                  refine wi_iload (i := 11) (pc' := 230) q340_228 rfl rfl ?_
                  refine wi_strow (pc' := 231) q340_230 rfl hS ⟨by omega, by omega⟩ (by omega) ?_
                  refine wi_iload (i := 10) (pc' := 233) q340_231 rfl rfl ?_
                  refine wi_stget (r := ((y : Int) + (zsy (k : Int)))) (pc' := 234) q340_233 rfl hS ⟨by omega, by omega⟩ ⟨by omega, by omega⟩ (by omega) ?_
                  refine wi_iconst (pc' := 235) q340_234 rfl ?_
                  refine wi_iadd (pc' := 236) q340_235 rfl ?_
                  refine wi_aload (i := 5) (pc' := 238) q340_236 rfl rfl ?_
                  refine wi_iload (i := 7) (pc' := 240) q340_238 rfl rfl ?_
                  refine wi_strow (pc' := 241) q340_240 rfl hS ⟨by omega, by omega⟩ (by omega) ?_
                  refine wi_iload (i := 8) (pc' := 243) q340_241 rfl rfl ?_
                  refine wi_stget (r := (y : Int)) (pc' := 244) q340_243 rfl hS ⟨by omega, by omega⟩ ⟨by omega, by omega⟩ (by omega) ?_
                  refine wi_icmp_lt (t := 250) (pc' := 247) q340_244 (by decide) rfl (by omega) (by omega) ?_ ?_
                  · intro h244
                    refine wi_aload (i := 5) (pc' := 252) q340_250 rfl rfl ?_
                    refine wi_iload (i := 7) (pc' := 254) q340_252 rfl rfl ?_
                    refine wi_strow (pc' := 255) q340_254 rfl hS ⟨by omega, by omega⟩ (by omega) ?_
                    refine wi_iload (i := 8) (pc' := 257) q340_255 rfl rfl ?_
                    refine wi_aload (i := 5) (pc' := 259) q340_257 rfl rfl ?_
                    refine wi_iload (i := 11) (pc' := 261) q340_259 rfl rfl ?_
                    refine wi_strow (pc' := 262) q340_261 rfl hS ⟨by omega, by omega⟩ (by omega) ?_
                    refine wi_iload (i := 10) (pc' := 264) q340_262 rfl rfl ?_
                    refine wi_stget (r := ((y : Int) + (zsy (k : Int)))) (pc' := 265) q340_264 rfl hS ⟨by omega, by omega⟩ ⟨by omega, by omega⟩ (by omega) ?_
                    refine wi_iconst (pc' := 266) q340_265 rfl ?_
                    refine wi_iadd (pc' := 267) q340_266 rfl ?_
                    refine wi_stset (r := (y : Int)) (pc' := 268) q340_267 rfl hS ⟨by omega, by omega⟩ ⟨by omega, by omega⟩ (by omega) (by omega) ?_
                    intro Y1 hY1
                    refine wi_iconst (pc' := 269) q340_268 rfl ?_
                    refine wi_istore6 (pc' := 271) q340_269 rfl rfl (Or.inr rfl) ?_
                    refine wi_iinc9 (pc' := 274) q340_271 rfl rfl (Or.inr rfl) ?_
                    refine wi_goto (t := 132) q340_274 (by decide) ?_
                    rw [show ((k : Int) + 1) = ((k + 1 : Nat) : Int) by omega]
                    refine ih (k + 1) _ _ _ _ _ _ (by omega) (by omega) p1 hY1 ?_
                    have hup := DI_upd (d := (k : Int)) hok hL.1 hpv ⟨by omega, by omega⟩ hin (by rw [en]; intro h; apply hwt; rw [← h]; congr 1; omega) (by rw [en]; omega)
                    rw [en] at hup
                    refine ⟨hup.1, Or.inr ⟨rfl, ?_⟩⟩
                    rcases hL.2 with hq | hq
                    · have e := hup.2
                      rw [hq.2.1] at e ⊢
                      exact e
                    · exact Int.lt_trans hup.2 hq.2
                  · intro h244
                    refine wi_goto (t := 271) q340_247 (by decide) ?_
                    refine wi_iinc9 (pc' := 274) q340_271 rfl rfl (Or.inr rfl) ?_
                    refine wi_goto (t := 132) q340_274 (by decide) ?_
                    rw [show ((k : Int) + 1) = ((k + 1 : Nat) : Int) by omega]
                    refine ih (k + 1) _ _ _ _ _ _ (by omega) (by omega) p1 hS ?_
                    refine wLs_w2 hL (fun eD hP => ⟨hP.1, fun d d0 d1 => ?_⟩)
                    by_cases e : d = (k : Int)
                    · subst e
                      intro hi9 hw9
                      rw [en]; omega
                    · exact hP.2 d d0 (by omega)
theorem q340_123 : decode (zbc 340) 123 = .ok (.iload 8, 2) := by decide +kernel
theorem q340_125 : decode (zbc 340) 125 = .ok (.iload_n 3, 1) := by decide +kernel
theorem q340_126 : decode (zbc 340) 126 = .ok (.if_icmp .ge 157, 3) := by decide +kernel
theorem q340_129 : decode (zbc 340) 129 = .ok (.iconst 0, 1) := by decide +kernel
theorem q340_130 : decode (zbc 340) 130 = .ok (.istore 9, 2) := by decide +kernel
theorem q340_277 : decode (zbc 340) 277 = .ok (.iinc 8 1, 3) := by decide +kernel
theorem q340_280 : decode (zbc 340) 280 = .ok (.goto (-157), 3) := by decide +kernel
theorem sp_l {X : Nat × (Nat → Int32)} {B : Int} {sv : Nat → Int → Int} {u : Int} {h : Nat → Int → Int} {s : Int → Int} {b : WB} {c d : Nat} {F : GM} {Y0 : DY} {Q : WQ} {W H : Nat} {cx ry : Int} (hb1 : c ≤ b.1) (hb2 : d ≤ b.2.1) (hok : mOk s) (hW : s 0 = (W : Int)) (hH : s 1 = (H : Int)) (hcx : zr cx) (hry : zr ry) {D0 : Int → Int} {Pd : Prop} {y : Nat} (hy : (y : Int) < s 1) (hk : ∀ D less G Y (k : Nat) a9 a10 a11, (k : Int) = s 0 → PG B sv u h s G → wRo Y0 W H D Y → wLs s (gC s cx ry) D0 D less (Pd ∧ ∀ j, 0 ≤ j → j < (k : Int) → ∀ d, 0 ≤ d → d < 4 → clo s D (12 * (y : Int) + j) d) → wW (229, X) 340 b 283 [.ref 192, .int (zi cx), .int (zi ry), .int (zi (s 0)), .int (zi (s 1)), .ref (1000 + Y0.2.2), .int (zi less), .int (zi (y : Int)), .int (zi (k : Int)), a9, a10, a11] [] G F Y c d Q) : ∀ (d9 : Nat) (k : Nat) (D : Int → Int) (less : Int) (G : GM) (Y : DY) (a9 a10 a11 : Value), s 0 - (k : Int) < (d9 : Int) → (k : Int) ≤ s 0 → PG B sv u h s G → wRo Y0 W H D Y → wLs s (gC s cx ry) D0 D less (Pd ∧ ∀ j, 0 ≤ j → j < (k : Int) → ∀ d, 0 ≤ d → d < 4 → clo s D (12 * (y : Int) + j) d) → wW (229, X) 340 b 123 [.ref 192, .int (zi cx), .int (zi ry), .int (zi (s 0)), .int (zi (s 1)), .ref (1000 + Y0.2.2), .int (zi less), .int (zi (y : Int)), .int (zi (k : Int)), a9, a10, a11] [] G F Y c d Q := by
  intro d9
  induction d9 with
  | zero =>
    intro k
    intros
    exact absurd (by assumption) (by omega)
  | succ d9 ih =>
      intro k D less G Y a9 a10 a11 hd hk9 p hS hL
      obtain ⟨a0, a1, -⟩ := id hok
      refine wi_iload (i := 8) (pc' := 125) q340_123 rfl rfl ?_
      refine wi_iload_n (i := 3) (pc' := 126) q340_125 rfl rfl rfl ?_
      refine wi_icmp_ge (t := 283) (pc' := 129) q340_126 (by decide) rfl (by omega) (by omega) ?_ ?_
      · intro h9
        exact hk D less G Y k a9 a10 a11 (by omega) p hS hL
      · intro h9
        refine wi_iconst (pc' := 130) q340_129 rfl ?_
        refine wi_istore9 (pc' := 132) q340_130 rfl rfl (Or.inr rfl) ?_
        refine sp_w (D0 := D0) (Pd := Pd ∧ ∀ j, 0 ≤ j → j < (k : Int) → ∀ d, 0 ≤ d → d < 4 → clo s D0 (12 * (y : Int) + j) d) (y := y) (q := k) hb1 hb2 hok hW hH hcx hry hy (by omega) ?_ 99 0 _ _ _ _ _ _ (by omega) (by omega) p hS (wLs_w2 hL (fun eD hP => ⟨⟨hP.1, fun j j0 j1 d d0 d1 => by have := hP.2 j j0 j1 d d0 d1; rwa [eD] at this⟩, fun d d0 d1 => by omega⟩))
        intro D9 less9 G9 Y9 b10 b11 p9 hS9 hL9
        refine wi_iinc8 (pc' := 280) q340_277 rfl rfl (Or.inr rfl) ?_
        refine wi_goto (t := 123) q340_280 (by decide) ?_
        rw [show ((k : Int) + 1) = ((k + 1 : Nat) : Int) by omega]
        refine ih (k + 1) _ _ _ _ _ _ _ (by omega) (by omega) p9 hS9 (wLs_w2 hL9 (fun eD hP => ⟨hP.1.1, fun j j0 j1 d d0 d1 => ?_⟩))
        by_cases e : j = (k : Int)
        · rw [e]
          exact hP.2 d d0 d1
        · rw [eD]
          exact hP.1.2 j j0 (by omega) d d0 d1
theorem q340_113 : decode (zbc 340) 113 = .ok (.iload 7, 2) := by decide +kernel
theorem q340_115 : decode (zbc 340) 115 = .ok (.iload 4, 2) := by decide +kernel
theorem q340_117 : decode (zbc 340) 117 = .ok (.if_icmp .ge 172, 3) := by decide +kernel
theorem q340_120 : decode (zbc 340) 120 = .ok (.iconst 0, 1) := by decide +kernel
theorem q340_121 : decode (zbc 340) 121 = .ok (.istore 8, 2) := by decide +kernel
theorem q340_283 : decode (zbc 340) 283 = .ok (.iinc 7 1, 3) := by decide +kernel
theorem q340_286 : decode (zbc 340) 286 = .ok (.goto (-173), 3) := by decide +kernel
theorem sp_p {X : Nat × (Nat → Int32)} {B : Int} {sv : Nat → Int → Int} {u : Int} {h : Nat → Int → Int} {s : Int → Int} {b : WB} {c d : Nat} {F : GM} {Y0 : DY} {Q : WQ} {W H : Nat} {cx ry : Int} (hb1 : c ≤ b.1) (hb2 : d ≤ b.2.1) (hok : mOk s) (hW : s 0 = (W : Int)) (hH : s 1 = (H : Int)) (hcx : zr cx) (hry : zr ry) {D0 : Int → Int} (hk : ∀ D less G Y (k : Nat) a8 a9 a10 a11, (k : Int) = s 1 → PG B sv u h s G → wRo Y0 W H D Y → wLs s (gC s cx ry) D0 D less (∀ i, 0 ≤ i → i < (k : Int) → ∀ j, 0 ≤ j → j < s 0 → ∀ d, 0 ≤ d → d < 4 → clo s D (12 * i + j) d) → wW (229, X) 340 b 289 [.ref 192, .int (zi cx), .int (zi ry), .int (zi (s 0)), .int (zi (s 1)), .ref (1000 + Y0.2.2), .int (zi less), .int (zi (k : Int)), a8, a9, a10, a11] [] G F Y c d Q) : ∀ (d9 : Nat) (k : Nat) (D : Int → Int) (less : Int) (G : GM) (Y : DY) (a8 a9 a10 a11 : Value), s 1 - (k : Int) < (d9 : Int) → (k : Int) ≤ s 1 → PG B sv u h s G → wRo Y0 W H D Y → wLs s (gC s cx ry) D0 D less (∀ i, 0 ≤ i → i < (k : Int) → ∀ j, 0 ≤ j → j < s 0 → ∀ d, 0 ≤ d → d < 4 → clo s D (12 * i + j) d) → wW (229, X) 340 b 113 [.ref 192, .int (zi cx), .int (zi ry), .int (zi (s 0)), .int (zi (s 1)), .ref (1000 + Y0.2.2), .int (zi less), .int (zi (k : Int)), a8, a9, a10, a11] [] G F Y c d Q := by
  intro d9
  induction d9 with
  | zero =>
    intro k
    intros
    exact absurd (by assumption) (by omega)
  | succ d9 ih =>
      intro k D less G Y a8 a9 a10 a11 hd hk9 p hS hL
      obtain ⟨a0, a1, -⟩ := id hok
      refine wi_iload (i := 7) (pc' := 115) q340_113 rfl rfl ?_
      refine wi_iload (i := 4) (pc' := 117) q340_115 rfl rfl ?_
      refine wi_icmp_ge (t := 289) (pc' := 120) q340_117 (by decide) rfl (by omega) (by omega) ?_ ?_
      · intro h9
        exact hk D less G Y k a8 a9 a10 a11 (by omega) p hS hL
      · intro h9
        refine wi_iconst (pc' := 121) q340_120 rfl ?_
        refine wi_istore8 (pc' := 123) q340_121 rfl rfl (Or.inr rfl) ?_
        refine sp_l (D0 := D0) (Pd := ∀ i, 0 ≤ i → i < (k : Int) → ∀ j, 0 ≤ j → j < s 0 → ∀ d, 0 ≤ d → d < 4 → clo s D0 (12 * i + j) d) (y := k) hb1 hb2 hok hW hH hcx hry (by omega) ?_ 99 0 _ _ _ _ _ _ _ (by omega) (by omega) p hS (wLs_w2 hL (fun eD hP => ⟨fun i i0 i1 j j0 j1 d d0 d1 => by have := hP i i0 i1 j j0 j1 d d0 d1; rwa [eD] at this, fun j j0 j1 d d0 d1 => by omega⟩))
        intro D9 less9 G9 Y9 k2 b9 b10 b11 hk2 p9 hS9 hL9
        refine wi_iinc7 (pc' := 286) q340_283 rfl rfl (Or.inr rfl) ?_
        refine wi_goto (t := 113) q340_286 (by decide) ?_
        rw [show ((k : Int) + 1) = ((k + 1 : Nat) : Int) by omega]
        refine ih (k + 1) _ _ _ _ _ _ _ _ (by omega) (by omega) p9 hS9 (wLs_w2 hL9 (fun eD hP i i0 i1 j j0 j1 d d0 d1 => ?_))
        by_cases e : i = (k : Int)
        · rw [e]
          exact hP.2 j j0 (by omega) d d0 d1
        · rw [eD]
          exact hP.1 i i0 (by omega) j j0 j1 d d0 d1
theorem q340_102 : decode (zbc 340) 102 = .ok (.iload 6, 2) := by decide +kernel
theorem q340_104 : decode (zbc 340) 104 = .ok (.ifCond .eq 188, 3) := by decide +kernel
theorem q340_107 : decode (zbc 340) 107 = .ok (.iconst 0, 1) := by decide +kernel
theorem q340_108 : decode (zbc 340) 108 = .ok (.istore 6, 2) := by decide +kernel
theorem q340_110 : decode (zbc 340) 110 = .ok (.iconst 0, 1) := by decide +kernel
theorem q340_111 : decode (zbc 340) 111 = .ok (.istore 7, 2) := by decide +kernel
theorem q340_289 : decode (zbc 340) 289 = .ok (.goto (-187), 3) := by decide +kernel
theorem sp_m {X : Nat × (Nat → Int32)} {B : Int} {sv : Nat → Int → Int} {u : Int} {h : Nat → Int → Int} {s : Int → Int} {b : WB} {c d : Nat} {F : GM} {Y0 : DY} {Q : WQ} {W H : Nat} {cx ry : Int} (hb1 : c ≤ b.1) (hb2 : d ≤ b.2.1) (hok : mOk s) (hW : s 0 = (W : Int)) (hH : s 1 = (H : Int)) (hcx : zr cx) (hry : zr ry) (hk : ∀ D less G Y a7 a8 a9 a10 a11, PG B sv u h s G → wRo Y0 W H D Y → DI s (gC s cx ry) D → (∀ q, zVal (s 0) (s 1) q → ∀ d, 0 ≤ d → d < 4 → clo s D q d) → wW (229, X) 340 b 292 [.ref 192, .int (zi cx), .int (zi ry), .int (zi (s 0)), .int (zi (s 1)), .ref (1000 + Y0.2.2), .int (zi less), a7, a8, a9, a10, a11] [] G F Y c d Q) : ∀ (n : Nat) (D : Int → Int) (less : Int) (G : GM) (Y : DY) (a7 a8 a9 a10 a11 : Value), 2 * zsum D 144 + less < (n : Int) → PG B sv u h s G → wRo Y0 W H D Y → DI s (gC s cx ry) D → (less = 1 ∨ (less = 0 ∧ ∀ q, zVal (s 0) (s 1) q → ∀ d, 0 ≤ d → d < 4 → clo s D q d)) → wW (229, X) 340 b 102 [.ref 192, .int (zi cx), .int (zi ry), .int (zi (s 0)), .int (zi (s 1)), .ref (1000 + Y0.2.2), .int (zi less), a7, a8, a9, a10, a11] [] G F Y c d Q := by
  intro n
  induction n with
  | zero =>
    intro D less G Y a7 a8 a9 a10 a11 hn p hS hI hl
    have := (zsum_rng (c := 9999) 144 (fun j j0 j1 => hI.1 j j0 j1)).1
    omega
  | succ n ih =>
      intro D less G Y a7 a8 a9 a10 a11 hn p hS hI hl
      obtain ⟨a0, a1, -⟩ := id hok
      have hlz : zr less := by
        rcases hl with h | h
        · rw [h]; decide
        · rw [h.1]; decide
      refine wi_iload (i := 6) (pc' := 104) q340_102 rfl rfl ?_
      refine wi_if_eq (t := 292) (pc' := 107) q340_104 (by decide) rfl hlz ?_ ?_
      · intro h9
        refine hk D less G Y a7 a8 a9 a10 a11 p hS hI ?_
        rcases hl with h | h
        · omega
        · exact h.2
      · intro h9
        refine wi_iconst (pc' := 108) q340_107 rfl ?_
        refine wi_istore6 (pc' := 110) q340_108 rfl rfl (Or.inr rfl) ?_
        refine wi_iconst (pc' := 111) q340_110 rfl ?_
        refine wi_istore7 (pc' := 113) q340_111 rfl rfl (Or.inr rfl) ?_
        refine sp_p (D0 := D) hb1 hb2 hok hW hH hcx hry ?_ 99 0 _ _ _ _ _ _ _ _ (by omega) (by omega) p hS ⟨hI, Or.inl ⟨rfl, rfl, fun i i0 i1 => by omega⟩⟩
        intro D9 less9 G9 Y9 k2 b8 b9 b10 b11 hk2 p9 hS9 hL9
        refine wi_goto (t := 102) q340_289 (by decide) ?_
        have hl1 : less = 1 := hl.resolve_right (fun h => h9 h.1)
        rcases hL9.2 with hq | hq
        · refine ih D9 less9 G9 Y9 _ _ _ _ _ (by rw [hq.2.1, hq.1]; omega) p9 hS9 hL9.1 (Or.inr ⟨hq.1, fun q hq9 d d0 d1 => ?_⟩)
          have e := hq.2.2 (q / 12) (by have := hq9.1; omega) (by have := hq9.2.2; omega) (q % 12) (by omega) hq9.2.1 d d0 d1
          rw [show 12 * (q / 12) + q % 12 = q by omega] at e
          exact e
        · exact ih D9 less9 G9 Y9 _ _ _ _ _ (by rw [hq.1]; have := hq.2; omega) p9 hS9 hL9.1 (Or.inl hq.1)
theorem q340_0 : decode (zbc 340) 0 = .ok (.aload_n 0, 1) := by decide +kernel
theorem q340_1 : decode (zbc 340) 1 = .ok (.invokevirtual 233, 3) := by decide +kernel
theorem wq340_1 {L9 : Nat} {xs9 : Nat → Int32} {N9 : Nat} : z_SC N9 znl zTs (zZ L9 xs9 N9) zyn zbc zrt zfr zlo (fun _ i => i) ztb 340 1 3 206 1 := sc_V (P := fun _ i => i) (n' := 0) zTs_good q340_1 kx_509 kx_510 kx_511 kx_32 kx_512 rfl ⟨by decide, by decide, by decide +kernel⟩ rfl ⟨Nat.le_of_ble_eq_true rfl, Nat.le_of_ble_eq_true rfl⟩
theorem q340_4 : decode (zbc 340) 4 = .ok (.istore_n 3, 1) := by decide +kernel
theorem q340_5 : decode (zbc 340) 5 = .ok (.aload_n 0, 1) := by decide +kernel
theorem q340_6 : decode (zbc 340) 6 = .ok (.invokevirtual 236, 3) := by decide +kernel
theorem wq340_6 {L9 : Nat} {xs9 : Nat → Int32} {N9 : Nat} : z_SC N9 znl zTs (zZ L9 xs9 N9) zyn zbc zrt zfr zlo (fun _ i => i) ztb 340 6 3 207 1 := sc_V (P := fun _ i => i) (n' := 0) zTs_good q340_6 kx_513 kx_514 kx_515 kx_32 kx_516 rfl ⟨by decide, by decide, by decide +kernel⟩ rfl ⟨Nat.le_of_ble_eq_true rfl, Nat.le_of_ble_eq_true rfl⟩
theorem q340_9 : decode (zbc 340) 9 = .ok (.istore 4, 2) := by decide +kernel
theorem q340_11 : decode (zbc 340) 11 = .ok (.iload 4, 2) := by decide +kernel
theorem q340_13 : decode (zbc 340) 13 = .ok (.iload_n 3, 1) := by decide +kernel
theorem kx_1400 : Cond.classLink "FalseLightMarshLaw" 264 "[[I" ∈ zTs := z_in (i := 1400) (by decide +kernel) (by decide +kernel)
theorem q340_14 : decode (zbc 340) 14 = .ok (.multianewarray 264 2, 4) := by decide +kernel
theorem q340_18 : decode (zbc 340) 18 = .ok (.astore 5, 2) := by decide +kernel
theorem q340_20 : decode (zbc 340) 20 = .ok (.iconst 0, 1) := by decide +kernel
theorem q340_21 : decode (zbc 340) 21 = .ok (.istore 6, 2) := by decide +kernel
theorem q340_99 : decode (zbc 340) 99 = .ok (.iconst 1, 1) := by decide +kernel
theorem q340_100 : decode (zbc 340) 100 = .ok (.istore 6, 2) := by decide +kernel
theorem q340_292 : decode (zbc 340) 292 = .ok (.aload 5, 2) := by decide +kernel
theorem q340_294 : decode (zbc 340) 294 = .ok (.areturn, 1) := by decide +kernel
theorem cS_steps {X : Nat × (Nat → Int32)} {B : Int} {sv : Nat → Int → Int} {u : Int} {h : Nat → Int → Int} {s : Int → Int} {G F : GM} {Y : DY} {cx ry : Int} (hcx : zr cx) (hry : zr ry) (p : PG B sv u h s G) : wC (229, X) 340 13 156 [.ref 192, .int (zi cx), .int (zi ry)] G F Y (fun o G' F' Y' => o = some (.ref (1000 + Y.2.2)) ∧ PG B sv u h s G' ∧ F = F' ∧ ∃ (W H : Nat) (D : Int → Int), s 0 = (W : Int) ∧ s 1 = (H : Int) ∧ wRo Y W H D Y' ∧ DI s (gC s cx ry) D ∧ ∀ q, zVal (s 0) (s 1) q → ∀ d, 0 ≤ d → d < 4 → clo s D q d) := by
  refine w_met (L0 := [.ref 192, .int (zi cx), .int (zi ry), .null, .null, .null, .null, .null, .null, .null, .null, .null]) (by decide +kernel) rfl rfl ?_
  have hok := p.ok
  obtain ⟨a0, a1, -⟩ := id hok
  obtain ⟨W, hW⟩ := Int.eq_ofNat_of_zero_le (show 0 ≤ s 0 by omega)
  obtain ⟨H, hH⟩ := Int.eq_ofNat_of_zero_le (show 0 ≤ s 1 by omega)
  have hmul : H * W ≤ 12 * 12 := Nat.mul_le_mul (by omega) (by omega)
  refine wi_aload_n (i := 0) (pc' := 1) q340_0 rfl rfl rfl ?_
  refine wi_cp (u9 := (229, X)) (pc' := 4) wq340_1 rfl (cQ_width (Nat.le_refl _) p.ok p.hR) (fun _ => ⟨_, _, rfl⟩) rfl rfl (by (try dsimp only); omega) (by (try dsimp only); omega) ?_
  refine wi_istore3 (pc' := 5) q340_4 rfl rfl rfl (Or.inr rfl) ?_
  refine wi_aload_n (i := 0) (pc' := 6) q340_5 rfl rfl rfl ?_
  refine wi_cp (u9 := (229, X)) (pc' := 9) wq340_6 rfl (cQ_height (Nat.le_refl _) p.ok p.hR) (fun _ => ⟨_, _, rfl⟩) rfl rfl (by (try dsimp only); omega) (by (try dsimp only); omega) ?_
  refine wi_istore4 (pc' := 11) q340_9 rfl rfl (Or.inr rfl) ?_
  refine wi_iload (i := 4) (pc' := 13) q340_11 rfl rfl ?_
  refine wi_iload_n (i := 3) (pc' := 14) q340_13 rfl rfl rfl ?_
  refine wi_mnaI (n := H) (m := W) (pc' := 18) q340_14 rfl (by rw [show "[" ++ (FieldType.array .int).toString = "[[I" from by decide +kernel]; exact kx_1400) hH hW (by omega) (by omega) (by (try dsimp only); omega) (by (try dsimp only); omega) ?_
  refine wW_cd (c' := 13) (d' := 156) (by omega) (by omega) ?_
  refine wi_astore5 (pc' := 20) q340_18 rfl rfl (Or.inr rfl) ?_
  refine wi_iconst (pc' := 21) q340_20 rfl ?_
  refine wi_istore6 (pc' := 23) q340_21 rfl rfl (Or.inr rfl) ?_
  refine sp_o (Y0 := Y) (cx := cx) (ry := ry) (Nat.le_refl _) (Nat.le_refl _) hok hW hH hcx hry ?_ 99 0 _ _ _ _ (by omega) (by omega) p wRo_new ⟨fun q q0 q1 => ⟨Int.le_refl 0, by show (0 : Int) ≤ 9999; decide⟩, fun q hq h9 => by have := hq.1; omega⟩
  intro G1 D1 Y1 b7 p1 hS1 hJ1
  refine wi_iconst (pc' := 100) q340_99 rfl ?_
  refine wi_istore6 (pc' := 102) q340_100 rfl rfl (Or.inr rfl) ?_
  refine sp_m (Nat.le_refl _) (Nat.le_refl _) hok hW hH hcx hry ?_ (2 * zsum D1 144 + 2).toNat D1 1 _ _ _ _ _ _ _ (by have := (zsum_rng (c := 9999) 144 (fun j j0 j1 => hJ1.1 j j0 j1)).1; omega) p1 hS1 (DJ_DI hJ1) (Or.inl rfl)
  intro D2 less2 G2 Y2 b7 b8 b9 b10 b11 p2 hS2 hI2 hc2
  refine wi_aload (i := 5) (pc' := 294) q340_292 rfl rfl ?_
  refine wW_r (o := some (.ref (1000 + Y.2.2))) ⟨q340_294, _, rfl, Or.inr ⟨_, rfl⟩⟩ rfl (by (try dsimp only); omega) (by (try dsimp only); omega) ?_
  exact ⟨rfl, p2, rfl, W, H, D2, hW, hH, hS2, hI2, hc2⟩
