/-! The law's feeds(x, text). -/
def tf (t : List Int) (j : Int) : Int := if j < t.length then t.getD j.toNat 0 else 32
theorem tf_rng {t : List Int} (h : ∀ k : Nat, k < t.length → 0 ≤ t.getD k 0 ∧ t.getD k 0 ≤ 127) {j : Int} (hj : 0 ≤ j) : 0 ≤ tf t j ∧ tf t j ≤ 127 := by
  unfold tf
  split
  · exact h j.toNat (by omega)
  · omega
theorem tf_At {t : List Int} : At (tf t) 0 t := fun k hk => by
  unfold tf
  rw [if_pos (by omega), show ((0 : Int) + (k : Int)).toNat = k by omega]
theorem pB_append {T : Int → Int} {m B : Int} {sv : Nat → Int → Int} {u9 : Int} {h9 : Nat → Int → Int} {s : Int → Int} {G F : GM} (p : PGb T m B sv u9 h9 s G) (hm : m + 20 ≤ 800) {a b c d e : Int} (ha : zr a) (hb : zr b) (hc : zr c) (hd : zr d) (he : zr e) (hby : ∀ j, 0 ≤ j → j < 20 → sByte a b c d e j = T (m + j)) : zC 229 334 [.ref 192, .int (zi 13), .int (zi a), .int (zi b), .int (zi c), .int (zi d), .int (zi e)] G F 0 (zLc F 0 0 (m + 20) (PGb T (m + 20) B sv u9 h9 s)) := by
  obtain ⟨b1, b2, b3⟩ := p.2.2.2.1
  have hq : q_append (G 197 0) = (0, m + 20) := by
    rw [b1]
    exact if_neg (by omega)
  have h := cL_append (F := F) (n := 0) (N := 229) (G := G) (by decide) (by rw [b1]; omega) ha hb hc hd he
  rw [hq] at h
  have hz : zN [0] ((0 : Int), gI (m + 20)) = m + 20 := (zN_v (ex := [0]) (q := (0, m + 20)) rfl ⟨by omega, by omega⟩).2
  dsimp only at h
  rw [hz] at h
  refine zLc_P h (fun G' hx => ?_)
  rcases hx with ⟨-, x1, x2, x3, x4⟩ | ⟨x1, -⟩
  · refine PGb_fr p x1.1 ⟨by rw [x2, b1], by omega, fun j j0 j1 => ?_⟩
    by_cases hj : j < m
    · rw [x3 j (by rw [b1]; exact hj)]
      exact b3 j j0 hj
    · obtain ⟨y1, y2, y3⟩ := x4 (j - m) (by omega) (by omega)
      rw [b1, show m + (j - m) = j by omega] at y1 y2 y3
      refine ⟨⟨y2, y3⟩, ?_⟩
      rw [y1, hby (j - m) (by omega) (by omega), show m + (j - m) = j by omega]
  · exact absurd rfl x1
theorem pB_shorten {T : Int → Int} {m B : Int} {sv : Nat → Int → Int} {u9 : Int} {h9 : Nat → Int → Int} {s : Int → Int} {G F : GM} (p : PGb T m B sv u9 h9 s G) {c : Int} (hc : 0 ≤ c ∧ c ≤ m) {w3 w4 w5 w6 : Int32} : zC 229 334 [.ref 192, .int (zi 14), .int (zi c), .int w3, .int w4, .int w5, .int w6] G F 0 (zLc F 0 0 c (PGb T c B sv u9 h9 s)) := by
  obtain ⟨b1, b2, b3⟩ := p.2.2.2.1
  have hq : q_shorten (G 197 0) c = (0, c) := by
    rw [b1]
    exact if_pos hc
  have h := cL_shorten (F := F) (n := 0) (N := 229) (G := G) (by decide) (by rw [b1]; omega) (c := c) (w3 := w3) (w4 := w4) (w5 := w5) (w6 := w6) (by omega)
  rw [hq] at h
  have hz : zN [1] ((0 : Int), gI c) = c := (zN_v (ex := [1]) (q := (0, c)) rfl ⟨by omega, by omega⟩).2
  dsimp only at h
  rw [hz] at h
  refine zLc_P h (fun G' hx => ?_)
  rcases hx with ⟨-, rfl⟩ | ⟨x1, -⟩
  · exact PGb_fr p (fun k k0 _ => zk_ne k0) ⟨by rw [zk_eq, zp_eq], by omega, fun j j0 j1 => by rw [zk_ne (by decide)]; exact b3 j j0 (by omega)⟩
  · exact absurd rfl x1
theorem q337_17 : decode (zbc 337) 17 = .ok (.iload 4, 2) := by decide +kernel
theorem q337_19 : decode (zbc 337) 19 = .ok (.bipush 20, 2) := by decide +kernel
theorem q337_21 : decode (zbc 337) 21 = .ok (.if_icmp .ge 53, 3) := by decide +kernel
theorem q337_24 : decode (zbc 337) 24 = .ok (.aload_n 3, 1) := by decide +kernel
theorem q337_25 : decode (zbc 337) 25 = .ok (.iload 4, 2) := by decide +kernel
theorem q337_27 : decode (zbc 337) 27 = .ok (.iconst 4, 1) := by decide +kernel
theorem q337_28 : decode (zbc 337) 28 = .ok (.idiv, 1) := by decide +kernel
theorem q337_29 : decode (zbc 337) 29 = .ok (.dup2, 1) := by decide +kernel
theorem q337_30 : decode (zbc 337) 30 = .ok (.iaload, 1) := by decide +kernel
theorem q337_31 : decode (zbc 337) 31 = .ok (.iload_n 2, 1) := by decide +kernel
theorem q337_32 : decode (zbc 337) 32 = .ok (.iload 4, 2) := by decide +kernel
theorem q337_34 : decode (zbc 337) 34 = .ok (.iadd, 1) := by decide +kernel
theorem q337_35 : decode (zbc 337) 35 = .ok (.aload_n 1, 1) := by decide +kernel
theorem q337_36 : decode (zbc 337) 36 = .ok (.invokevirtual 176, 3) := by decide +kernel
theorem kx_1109 : Cond.methodLink "FalseLightMarshLaw" 176 yJ0_length_8abf5 ∈ zTs := z_in (i := 1109) (by decide +kernel) (by decide +kernel)
theorem wk337_36 : wSC 337 36 280 1 (some "java/lang/String") := wk_V (n' := 0) q337_36 kx_1109 kx_311 kx_312 kx_41 kx_313 ⟨by decide, by decide, by decide +kernel⟩ rfl ⟨Nat.le_of_ble_eq_true rfl, Nat.le_of_ble_eq_true rfl⟩
theorem q337_39 : decode (zbc 337) 39 = .ok (.if_icmp .ge 14, 3) := by decide +kernel
theorem q337_53 : decode (zbc 337) 53 = .ok (.bipush 32, 2) := by decide +kernel
theorem q337_55 : decode (zbc 337) 55 = .ok (.bipush 24, 2) := by decide +kernel
theorem q337_57 : decode (zbc 337) 57 = .ok (.bipush 8, 2) := by decide +kernel
theorem q337_59 : decode (zbc 337) 59 = .ok (.iload 4, 2) := by decide +kernel
theorem q337_61 : decode (zbc 337) 61 = .ok (.iconst 4, 1) := by decide +kernel
theorem q337_62 : decode (zbc 337) 62 = .ok (.irem, 1) := by decide +kernel
theorem q337_63 : decode (zbc 337) 63 = .ok (.imul, 1) := by decide +kernel
theorem q337_64 : decode (zbc 337) 64 = .ok (.isub, 1) := by decide +kernel
theorem q337_65 : decode (zbc 337) 65 = .ok (.ishl, 1) := by decide +kernel
theorem q337_66 : decode (zbc 337) 66 = .ok (.ior, 1) := by decide +kernel
theorem q337_67 : decode (zbc 337) 67 = .ok (.iastore, 1) := by decide +kernel
theorem q337_68 : decode (zbc 337) 68 = .ok (.iinc 4 1, 3) := by decide +kernel
theorem q337_71 : decode (zbc 337) 71 = .ok (.goto (-54), 3) := by decide +kernel
theorem q337_42 : decode (zbc 337) 42 = .ok (.aload_n 1, 1) := by decide +kernel
theorem q337_43 : decode (zbc 337) 43 = .ok (.iload_n 2, 1) := by decide +kernel
theorem q337_44 : decode (zbc 337) 44 = .ok (.iload 4, 2) := by decide +kernel
theorem q337_46 : decode (zbc 337) 46 = .ok (.iadd, 1) := by decide +kernel
theorem q337_47 : decode (zbc 337) 47 = .ok (.invokevirtual 181, 3) := by decide +kernel
theorem kx_1110 : Cond.methodLink "FalseLightMarshLaw" 181 yJ0_charAt_5068e ∈ zTs := z_in (i := 1110) (by decide +kernel) (by decide +kernel)
theorem kx_321 : Cond.instanceMethod yJ0_charAt_5068e ∈ zTs := z_in (i := 321) (by decide +kernel) (by decide +kernel)
theorem kx_322 : Cond.selects "java/lang/String" yJ0_charAt_5068e yJ0_charAt_5068e ∈ zTs := z_in (i := 322) (by decide +kernel) (by decide +kernel)
theorem kx_323 : Cond.code yJ0_charAt_5068e cJ0_charAt_5068e 2 (some .char) ∈ zTs := z_in (i := 323) (by decide +kernel) (by decide +kernel)
theorem wk337_47 : wSC 337 47 281 2 (some "java/lang/String") := wk_V (n' := 1) q337_47 kx_1110 kx_321 kx_322 kx_41 kx_323 ⟨by decide, by decide, by decide +kernel⟩ rfl ⟨Nat.le_of_ble_eq_true rfl, Nat.le_of_ble_eq_true rfl⟩
theorem q337_50 : decode (zbc 337) 50 = .ok (.goto 5, 3) := by decide +kernel
theorem fe_j {X : Nat × (Nat → Int32)} {b : WB} {c d : Nat} {F : GM} {Q : WQ} {G : GM} {Y0 : DY} {r : Nat} {t : List Int} {at9 : Int} (hb1 : c ≤ b.1) (hb2 : d ≤ b.2.1) (ht : wStr Y0 r t) (hl : t.length ≤ 400) (ha : 0 ≤ at9 ∧ at9 < t.length) (hch : ∀ k : Nat, k < t.length → 0 ≤ t.getD k 0 ∧ t.getD k 0 ≤ 127) (hk : ∀ D Y, wFa Y0 5 D Y → wBy (fun q => tf t (at9 + q)) ((20 : Nat) : Int) D → (∀ q, zr (D q)) → wW (229, X) 337 b 74 [.ref 192, .ref r, .int (zi at9), .ref (1000 + Y0.2.2), .int (zi ((20 : Nat) : Int))] [] G F Y c d Q) : ∀ (d9 : Nat) (k : Nat) (D : Int → Int) (Y : DY), 20 - (k : Int) < (d9 : Int) → (k : Int) ≤ 20 → wFa Y0 5 D Y → wBy (fun q => tf t (at9 + q)) (k : Int) D → (∀ q, zr (D q)) → wW (229, X) 337 b 17 [.ref 192, .ref r, .int (zi at9), .ref (1000 + Y0.2.2), .int (zi (k : Int))] [] G F Y c d Q := by
  intro d9
  induction d9 with
  | zero =>
    intro k
    intros
    exact absurd (by assumption) (by omega)
  | succ d9 ih =>
      intro k D Y hd hk9 har hby hz
      refine wi_iload (i := 4) (pc' := 19) q337_17 rfl rfl ?_
      refine wi_bipush (pc' := 21) q337_19 rfl (by decide) ?_
      refine wi_icmp_ge (t := 74) (pc' := 24) q337_21 (by decide) rfl (by omega) (by omega) ?_ ?_
      · intro h9
        obtain rfl : k = 20 := by omega
        exact hk D Y har hby hz
      · intro h9
        refine wi_aload_n (i := 3) (pc' := 25) q337_24 rfl rfl rfl ?_
        refine wi_iload (i := 4) (pc' := 27) q337_25 rfl rfl ?_
        refine wi_iconst (pc' := 28) q337_27 rfl ?_
        refine wi_idiv (pc' := 29) q337_28 rfl (by omega) (by omega) ?_
        refine wi_dup2 (pc' := 30) q337_29 rfl ?_
        refine wi_arget (pc' := 31) q337_30 rfl har.1 ⟨by omega, by omega⟩ (by omega) ?_
        refine wi_iload_n (i := 2) (pc' := 32) q337_31 rfl rfl rfl ?_
        refine wi_iload (i := 4) (pc' := 34) q337_32 rfl rfl ?_
        refine wi_iadd (pc' := 35) q337_34 rfl ?_
        refine wi_aload_n (i := 1) (pc' := 36) q337_35 rfl rfl rfl ?_
        refine wi_call (pc' := 39) wk337_36 rfl (cJ_slen (wStr_fr har.2 ht)) rfl (Nat.le_of_ble_eq_true rfl) (Nat.le_of_ble_eq_true rfl) (by (try dsimp only); omega) (by (try dsimp only); omega) (wrv_str (wStr_fr har.2 ht)) ?_
        rintro o9 G9 F9 Y9 ⟨rfl, rfl, rfl, rfl⟩ hle9
        refine wi_icmp_ge (t := 53) (pc' := 42) q337_39 (by decide) rfl (by omega) (by omega) ?_ ?_
        · intro h8
          refine wi_bipush (pc' := 55) q337_53 rfl (by decide) ?_
          rw [show (32 : Int) = tf t (at9 + (k : Int)) from (if_neg (by omega)).symm]
          refine wi_bipush (pc' := 57) q337_55 rfl (by decide) ?_
          refine wi_bipush (pc' := 59) q337_57 rfl (by decide) ?_
          refine wi_iload (i := 4) (pc' := 61) q337_59 rfl rfl ?_
          refine wi_iconst (pc' := 62) q337_61 rfl ?_
          refine wi_irem (pc' := 63) q337_62 rfl (by omega) (by omega) ?_
          refine wi_imul (pc' := 64) q337_63 rfl ?_
          refine wi_isub (pc' := 65) q337_64 rfl ?_
          refine wi_ishl (pc' := 66) q337_65 rfl ?_
          refine wi_ior (pc' := 67) q337_66 rfl ?_
          refine wi_faset (pc' := 68) q337_67 rfl har ⟨by omega, by omega⟩ (by omega) (zr_or _ _) ?_
          intro Y1 hY1
          refine wi_iinc4 (pc' := 71) q337_68 rfl rfl (Or.inr rfl) ?_
          refine wi_goto (t := 17) q337_71 (by decide) ?_
          rw [show ((k : Int) + 1) = ((k + 1 : Nat) : Int) by omega]
          refine ih (k + 1) _ _ (by omega) (by omega) hY1 ?_ (fun q => ?_)
          · have := wBy_s hby (j := (k : Int)) ⟨by omega, by omega⟩ (fun q q0 q1 => tf_rng hch (by omega))
            rwa [show ((k : Int) + 1) = ((k + 1 : Nat) : Int) by omega] at this
          · by_cases e : q = (k : Int) / 4
            · rw [e, zp_eq]
              exact zr_or _ _
            · rw [zp_ne e]
              exact hz q
        · intro h8
          refine wi_aload_n (i := 1) (pc' := 43) q337_42 rfl rfl rfl ?_
          refine wi_iload_n (i := 2) (pc' := 44) q337_43 rfl rfl rfl ?_
          refine wi_iload (i := 4) (pc' := 46) q337_44 rfl rfl ?_
          refine wi_iadd (pc' := 47) q337_46 rfl ?_
          refine wi_call (pc' := 50) wk337_47 rfl (cJ_char (wStr_fr har.2 ht) (j := at9 + (k : Int)) ⟨by omega, by omega⟩) rfl (Nat.le_of_ble_eq_true rfl) (Nat.le_of_ble_eq_true rfl) (by (try dsimp only); omega) (by (try dsimp only); omega) (wrv_str (wStr_fr har.2 ht)) ?_
          rintro o9 G9 F9 Y9 ⟨rfl, rfl, rfl, rfl⟩ hle9
          refine wi_goto (t := 55) q337_50 (by decide) ?_
          rw [show (t.getD (at9 + (k : Int)).toNat 0) = tf t (at9 + (k : Int)) from (if_pos (by omega)).symm]
          refine wi_bipush (pc' := 57) q337_55 rfl (by decide) ?_
          refine wi_bipush (pc' := 59) q337_57 rfl (by decide) ?_
          refine wi_iload (i := 4) (pc' := 61) q337_59 rfl rfl ?_
          refine wi_iconst (pc' := 62) q337_61 rfl ?_
          refine wi_irem (pc' := 63) q337_62 rfl (by omega) (by omega) ?_
          refine wi_imul (pc' := 64) q337_63 rfl ?_
          refine wi_isub (pc' := 65) q337_64 rfl ?_
          refine wi_ishl (pc' := 66) q337_65 rfl ?_
          refine wi_ior (pc' := 67) q337_66 rfl ?_
          refine wi_faset (pc' := 68) q337_67 rfl har ⟨by omega, by omega⟩ (by omega) (zr_or _ _) ?_
          intro Y2 hY2
          refine wi_iinc4 (pc' := 71) q337_68 rfl rfl (Or.inr rfl) ?_
          refine wi_goto (t := 17) q337_71 (by decide) ?_
          rw [show ((k : Int) + 1) = ((k + 1 : Nat) : Int) by omega]
          refine ih (k + 1) _ _ (by omega) (by omega) hY2 ?_ (fun q => ?_)
          · have := wBy_s hby (j := (k : Int)) ⟨by omega, by omega⟩ (fun q q0 q1 => tf_rng hch (by omega))
            rwa [show ((k : Int) + 1) = ((k + 1 : Nat) : Int) by omega] at this
          · by_cases e : q = (k : Int) / 4
            · rw [e, zp_eq]
              exact zr_or _ _
            · rw [zp_ne e]
              exact hz q
theorem q337_2 : decode (zbc 337) 2 = .ok (.iload_n 2, 1) := by decide +kernel
theorem q337_3 : decode (zbc 337) 3 = .ok (.aload_n 1, 1) := by decide +kernel
theorem q337_4 : decode (zbc 337) 4 = .ok (.invokevirtual 176, 3) := by decide +kernel
theorem wk337_4 : wSC 337 4 280 1 (some "java/lang/String") := wk_V (n' := 0) q337_4 kx_1109 kx_311 kx_312 kx_41 kx_313 ⟨by decide, by decide, by decide +kernel⟩ rfl ⟨Nat.le_of_ble_eq_true rfl, Nat.le_of_ble_eq_true rfl⟩
theorem q337_7 : decode (zbc 337) 7 = .ok (.if_icmp .ge 103, 3) := by decide +kernel
theorem q337_10 : decode (zbc 337) 10 = .ok (.iconst 5, 1) := by decide +kernel
theorem q337_11 : decode (zbc 337) 11 = .ok (.newarray .int, 2) := by decide +kernel
theorem q337_13 : decode (zbc 337) 13 = .ok (.astore_n 3, 1) := by decide +kernel
theorem q337_14 : decode (zbc 337) 14 = .ok (.iconst 0, 1) := by decide +kernel
theorem q337_15 : decode (zbc 337) 15 = .ok (.istore 4, 2) := by decide +kernel
theorem q337_74 : decode (zbc 337) 74 = .ok (.aload_n 0, 1) := by decide +kernel
theorem q337_75 : decode (zbc 337) 75 = .ok (.bipush 13, 2) := by decide +kernel
theorem q337_77 : decode (zbc 337) 77 = .ok (.aload_n 3, 1) := by decide +kernel
theorem q337_78 : decode (zbc 337) 78 = .ok (.iconst 0, 1) := by decide +kernel
theorem q337_79 : decode (zbc 337) 79 = .ok (.iaload, 1) := by decide +kernel
theorem q337_80 : decode (zbc 337) 80 = .ok (.aload_n 3, 1) := by decide +kernel
theorem q337_81 : decode (zbc 337) 81 = .ok (.iconst 1, 1) := by decide +kernel
theorem q337_82 : decode (zbc 337) 82 = .ok (.iaload, 1) := by decide +kernel
theorem q337_83 : decode (zbc 337) 83 = .ok (.aload_n 3, 1) := by decide +kernel
theorem q337_84 : decode (zbc 337) 84 = .ok (.iconst 2, 1) := by decide +kernel
theorem q337_85 : decode (zbc 337) 85 = .ok (.iaload, 1) := by decide +kernel
theorem q337_86 : decode (zbc 337) 86 = .ok (.aload_n 3, 1) := by decide +kernel
theorem q337_87 : decode (zbc 337) 87 = .ok (.iconst 3, 1) := by decide +kernel
theorem q337_88 : decode (zbc 337) 88 = .ok (.iaload, 1) := by decide +kernel
theorem q337_89 : decode (zbc 337) 89 = .ok (.aload_n 3, 1) := by decide +kernel
theorem q337_90 : decode (zbc 337) 90 = .ok (.iconst 4, 1) := by decide +kernel
theorem q337_91 : decode (zbc 337) 91 = .ok (.iaload, 1) := by decide +kernel
theorem q337_92 : decode (zbc 337) 92 = .ok (.invokestatic 172, 3) := by decide +kernel
theorem wq337_92 {L9 : Nat} {xs9 : Nat → Int32} {N9 : Nat} : z_SC N9 znl zTs (zZ L9 xs9 N9) zyn zbc zrt zfr zlo (fun _ i => i) ztb 337 92 2 334 7 := sc_SW (P := fun _ i => i) zTs_good q337_92 kx_548 kx_549 kx_31 wc_550 (by decide +kernel) ⟨by decide, by decide, by decide +kernel⟩ ⟨Nat.le_of_ble_eq_true rfl, Nat.le_of_ble_eq_true rfl⟩
theorem q337_95 : decode (zbc 337) 95 = .ok (.iload_n 2, 1) := by decide +kernel
theorem q337_96 : decode (zbc 337) 96 = .ok (.bipush 20, 2) := by decide +kernel
theorem q337_98 : decode (zbc 337) 98 = .ok (.iadd, 1) := by decide +kernel
theorem q337_99 : decode (zbc 337) 99 = .ok (.if_icmp .eq 5, 3) := by decide +kernel
theorem q337_104 : decode (zbc 337) 104 = .ok (.iinc 2 20, 3) := by decide +kernel
theorem q337_107 : decode (zbc 337) 107 = .ok (.goto (-105), 3) := by decide +kernel
theorem fe_o {X : Nat × (Nat → Int32)} {B : Int} {sv : Nat → Int → Int} {u : Int} {h : Nat → Int → Int} {s : Int → Int} {b : WB} {c d : Nat} {F : GM} {Q : WQ} {Y0 : DY} {r : Nat} {t : List Int} (hb1 : c + 20 ≤ b.1) (hb2 : d + 100 ≤ b.2.1) (ht : wStr Y0 r t) (hl : t.length ≤ 400) (hch : ∀ k : Nat, k < t.length → 0 ≤ t.getD k 0 ∧ t.getD k 0 ≤ 127) (hk : ∀ G Y (k : Nat) (a3 a4 : Value), (t.length : Int) ≤ 20 * (k : Int) → Yfr Y0 Y → PGb (tf t) (20 * (k : Int)) B sv u h s G → wW (229, X) 337 b 110 [.ref 192, .ref r, .int (zi (20 * (k : Int))), a3, a4] [] G F Y (c + 20) (d + 100) Q) : ∀ (d9 : Nat) (k : Nat) (Y : DY) (a3 a4 : Value) (G : GM), 20 - (k : Int) < (d9 : Int) → (k : Int) ≤ 20 → Yfr Y0 Y → PGb (tf t) (20 * (k : Int)) B sv u h s G → wW (229, X) 337 b 2 [.ref 192, .ref r, .int (zi (20 * (k : Int))), a3, a4] [] G F Y (c + k) (d + 5 * k) Q := by
  intro d9
  induction d9 with
  | zero =>
    intro k
    intros
    exact absurd (by assumption) (by omega)
  | succ d9 ih =>
      intro k Y a3 a4 G hd hk9 hfr p
      refine wi_iload_n (i := 2) (pc' := 3) q337_2 rfl rfl rfl ?_
      refine wi_aload_n (i := 1) (pc' := 4) q337_3 rfl rfl rfl ?_
      refine wi_call (pc' := 7) wk337_4 rfl (cJ_slen (wStr_fr hfr ht)) rfl (Nat.le_of_ble_eq_true rfl) (Nat.le_of_ble_eq_true rfl) (by (try dsimp only); omega) (by (try dsimp only); omega) (wrv_str (wStr_fr hfr ht)) ?_
      rintro o9 G9 F9 Y9 ⟨rfl, rfl, rfl, rfl⟩ hle9
      refine wi_icmp_ge (t := 110) (pc' := 10) q337_7 (by decide) rfl (by omega) (by omega) ?_ ?_
      · intro h9
        exact wW_cd (by omega) (by omega) (hk G Y k a3 a4 (by omega) hfr p)
      · intro h9
        refine wi_iconst (pc' := 11) q337_10 rfl ?_
        refine wi_newI (n := 5) (pc' := 13) q337_11 rfl kw_103 rfl (by decide) (by (try dsimp only); omega) (by (try dsimp only); omega) ?_
        refine wi_astore3 (pc' := 14) q337_13 rfl rfl rfl (Or.inr rfl) ?_
        refine wi_iconst (pc' := 15) q337_14 rfl ?_
        refine wi_istore4 (pc' := 17) q337_15 rfl rfl (Or.inr rfl) ?_
        refine fe_j (at9 := 20 * (k : Int)) (Y0 := Y) (c := c + k + 1) (d := d + 5 * k + 5) (by (try dsimp only); omega) (by (try dsimp only); omega) (wStr_fr hfr ht) hl ⟨by omega, by omega⟩ hch ?_ 99 0 _ _ (by omega) (by omega) wFa_new wBy_0 (fun q => ⟨by decide, by decide⟩)
        intro D Y7 har hby hz
        refine wi_aload_n (i := 0) (pc' := 75) q337_74 rfl rfl rfl ?_
        refine wi_bipush (pc' := 77) q337_75 rfl (by decide) ?_
        refine wi_aload_n (i := 3) (pc' := 78) q337_77 rfl rfl rfl ?_
        refine wi_iconst (pc' := 79) q337_78 rfl ?_
        refine wi_arget (pc' := 80) q337_79 rfl har.1 ⟨by omega, by omega⟩ (by omega) ?_
        refine wi_aload_n (i := 3) (pc' := 81) q337_80 rfl rfl rfl ?_
        refine wi_iconst (pc' := 82) q337_81 rfl ?_
        refine wi_arget (pc' := 83) q337_82 rfl har.1 ⟨by omega, by omega⟩ (by omega) ?_
        refine wi_aload_n (i := 3) (pc' := 84) q337_83 rfl rfl rfl ?_
        refine wi_iconst (pc' := 85) q337_84 rfl ?_
        refine wi_arget (pc' := 86) q337_85 rfl har.1 ⟨by omega, by omega⟩ (by omega) ?_
        refine wi_aload_n (i := 3) (pc' := 87) q337_86 rfl rfl rfl ?_
        refine wi_iconst (pc' := 88) q337_87 rfl ?_
        refine wi_arget (pc' := 89) q337_88 rfl har.1 ⟨by omega, by omega⟩ (by omega) ?_
        refine wi_aload_n (i := 3) (pc' := 90) q337_89 rfl rfl rfl ?_
        refine wi_iconst (pc' := 91) q337_90 rfl ?_
        refine wi_arget (pc' := 92) q337_91 rfl har.1 ⟨by omega, by omega⟩ (by omega) ?_
        refine wi_cv (u9 := (229, X)) (pc' := 95) wq337_92 rfl (pB_append p (by omega) (hz _) (hz _) (hz _) (hz _) (hz _) (fun j j0 j1 => wBy_end hby (fun q q0 q1 => tf_rng hch (by omega)) ⟨j0, j1⟩)) (fun h => absurd h (by decide)) rfl rfl rfl (by (try dsimp only); omega) (by (try dsimp only); omega) ?_
        intro G9 p9
        refine wi_iload_n (i := 2) (pc' := 96) q337_95 rfl rfl rfl ?_
        refine wi_bipush (pc' := 98) q337_96 rfl (by decide) ?_
        refine wi_iadd (pc' := 99) q337_98 rfl ?_
        refine wi_icmp_eq (t := 104) (pc' := 102) q337_99 (by decide) rfl (by omega) (by omega) (fun h1 => ?_) (fun h1 => absurd h1 (by omega))
        refine wi_iinc2 (pc' := 107) q337_104 rfl rfl (Or.inr rfl) ?_
        refine wi_goto (t := 2) q337_107 (by decide) ?_
        refine wW_cd (c' := c + (k + 1)) (d' := d + 5 * (k + 1)) (by omega) (by omega) ?_
        rw [show (20 * (k : Int) + 20) = 20 * ((k + 1 : Nat) : Int) by omega] at p9 ⊢
        exact ih (k + 1) _ _ _ _ (by omega) (by omega) (Yfr_t hfr har.2) p9
theorem q337_0 : decode (zbc 337) 0 = .ok (.iconst 0, 1) := by decide +kernel
theorem q337_1 : decode (zbc 337) 1 = .ok (.istore_n 2, 1) := by decide +kernel
theorem q337_110 : decode (zbc 337) 110 = .ok (.aload_n 0, 1) := by decide +kernel
theorem q337_111 : decode (zbc 337) 111 = .ok (.bipush 14, 2) := by decide +kernel
theorem q337_113 : decode (zbc 337) 113 = .ok (.aload_n 1, 1) := by decide +kernel
theorem q337_114 : decode (zbc 337) 114 = .ok (.invokevirtual 176, 3) := by decide +kernel
theorem wk337_114 : wSC 337 114 280 1 (some "java/lang/String") := wk_V (n' := 0) q337_114 kx_1109 kx_311 kx_312 kx_41 kx_313 ⟨by decide, by decide, by decide +kernel⟩ rfl ⟨Nat.le_of_ble_eq_true rfl, Nat.le_of_ble_eq_true rfl⟩
theorem q337_117 : decode (zbc 337) 117 = .ok (.invokestatic 185, 3) := by decide +kernel
theorem wq337_117 {L9 : Nat} {xs9 : Nat → Int32} {N9 : Nat} : z_SC N9 znl zTs (zZ L9 xs9 N9) zyn zbc zrt zfr zlo (fun _ i => i) ztb 337 117 2 336 3 := sc_S (P := fun _ i => i) zTs_good q337_117 kx_545 kx_546 kx_31 kx_547 rfl ⟨by decide, by decide, by decide +kernel⟩ ⟨Nat.le_of_ble_eq_true rfl, Nat.le_of_ble_eq_true rfl⟩
theorem q337_120 : decode (zbc 337) 120 = .ok (.aload_n 1, 1) := by decide +kernel
theorem q337_121 : decode (zbc 337) 121 = .ok (.invokevirtual 176, 3) := by decide +kernel
theorem wk337_121 : wSC 337 121 280 1 (some "java/lang/String") := wk_V (n' := 0) q337_121 kx_1109 kx_311 kx_312 kx_41 kx_313 ⟨by decide, by decide, by decide +kernel⟩ rfl ⟨Nat.le_of_ble_eq_true rfl, Nat.le_of_ble_eq_true rfl⟩
theorem q337_124 : decode (zbc 337) 124 = .ok (.if_icmp .ne 7, 3) := by decide +kernel
theorem q337_127 : decode (zbc 337) 127 = .ok (.iconst 1, 1) := by decide +kernel
theorem q337_128 : decode (zbc 337) 128 = .ok (.goto 4, 3) := by decide +kernel
theorem q337_132 : decode (zbc 337) 132 = .ok (.ireturn, 1) := by decide +kernel
theorem cS_feeds {X : Nat × (Nat → Int32)} {B : Int} {sv : Nat → Int → Int} {u : Int} {h : Nat → Int → Int} {s : Int → Int} {G F : GM} {Y : DY} {r : Nat} {t : List Int} (ht : wStr Y r t) (hl : t.length ≤ 400) (p : PG B sv u h s G) : wC (229, X) 337 20 100 [.ref 192, .ref r] G F Y (fun o G' F' Y' => o = some (.int (zi 1)) ∧ F = F' ∧ PGb (tf t) t.length B sv u h s G' ∧ Yfr Y Y') := by
  refine w_met (L0 := [.ref 192, .ref r, .null, .null, .null]) (by decide +kernel) rfl rfl ?_
  refine wi_iconst (pc' := 1) q337_0 rfl ?_
  refine wi_istore2 (pc' := 2) q337_1 rfl rfl rfl (Or.inr rfl) ?_
  rw [show (0 : Int) = 20 * ((0 : Nat) : Int) from rfl]
  refine fe_o (t := t) (u := u) (h := h) (s := s) (B := B) (sv := sv) (by (try dsimp only); omega) (by (try dsimp only); omega) ht hl ht.2.2 ?_ 99 0 _ _ _ _ (by omega) (by omega) Yfr_r (PGb_0 p)
  intro G8 Y8 k a3 a4 hk8 hfr p8
  refine wi_aload_n (i := 0) (pc' := 111) q337_110 rfl rfl rfl ?_
  refine wi_bipush (pc' := 113) q337_111 rfl (by decide) ?_
  refine wi_aload_n (i := 1) (pc' := 114) q337_113 rfl rfl rfl ?_
  refine wi_call (pc' := 117) wk337_114 rfl (cJ_slen (wStr_fr hfr ht)) rfl (Nat.le_of_ble_eq_true rfl) (Nat.le_of_ble_eq_true rfl) (by (try dsimp only); omega) (by (try dsimp only); omega) (wrv_str (wStr_fr hfr ht)) ?_
  rintro o9 G9 F9 Y9 ⟨rfl, rfl, rfl, rfl⟩ hle9
  refine wi_cv (u9 := (229, X)) (pc' := 120) wq337_117 rfl (cL_s2 (pB_shorten p8 (c := (t.length : Int)) ⟨by omega, by omega⟩) zLc_i) (fun h => absurd h (by decide)) rfl rfl rfl (by (try dsimp only); omega) (by (try dsimp only); omega) ?_
  intro G9 p9
  refine wi_aload_n (i := 1) (pc' := 121) q337_120 rfl rfl rfl ?_
  refine wi_call (pc' := 124) wk337_121 rfl (cJ_slen (wStr_fr hfr ht)) rfl (Nat.le_of_ble_eq_true rfl) (Nat.le_of_ble_eq_true rfl) (by (try dsimp only); omega) (by (try dsimp only); omega) (wrv_str (wStr_fr hfr ht)) ?_
  rintro o9 G9 F9 Y9 ⟨rfl, rfl, rfl, rfl⟩ hle9
  refine wi_icmp_ne (t := 131) (pc' := 127) q337_124 (by decide) rfl (by omega) (by omega) (fun h1 => absurd h1 (by omega)) (fun h1 => ?_)
  refine wi_iconst (pc' := 128) q337_127 rfl ?_
  refine wi_goto (t := 132) q337_128 (by decide) ?_
  refine wW_r (o := some (.int (zi 1))) ⟨q337_132, _, rfl, rfl⟩ rfl (by (try dsimp only); omega) (by (try dsimp only); omega) ?_
  exact ⟨rfl, rfl, p9, hfr⟩
