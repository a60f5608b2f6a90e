/-! Program and model at the start of the law's loop. -/
/-- program and model at the start of the law's loop -/
def GS (G : GM) : GM := fun k j => if k < 229 then G k j else if k = 230 then (if j = 9 then -1 else 0) else if k = 231 then rFst j else 0
section GS
variable {G : GM}
theorem GS_lo {k : Nat} (h : k < 229) : GS G k = G k := by
  funext j
  exact if_pos h
theorem GS_hi {k : Nat} (h : 231 < k) (j : Int) : GS G k j = 0 := by
  unfold GS
  rw [if_neg (by omega), if_neg (by omega), if_neg (by omega)]
theorem GS_230 (j : Int) : GS G 230 j = if j = 9 then -1 else 0 := by
  unfold GS
  rw [if_neg (by decide), if_pos rfl]
theorem GS_231 : GS G 231 = rFst := by
  funext j
  unfold GS
  rw [if_neg (by decide), if_neg (by decide), if_pos rfl]
theorem zr_rFst (j : Int) : zr (rFst j) := by
  unfold rFst
  repeat' split
  all_goals decide
theorem zrM_GS (h : zrM G) : zrM (GS G) := by
  intro k j
  unfold GS
  split
  · exact h k j
  · split
    · split <;> decide
    · split
      · exact zr_rFst j
      · decide
/-- program and model agree at the start -/
theorem JI_0 (h : JS Gz G) : JI (GS G) := by
  obtain ⟨⟨h1, h2, h3⟩, h4, h5, h6, h7⟩ := h
  have e : zEq pFst.2.2.2 rFst := fun j j0 j1 => by
    obtain ⟨i, rfl⟩ := Int.eq_ofNat_of_zero_le j0
    exact (pFst_ok.2 i (by omega)).symm
  have hok : mOk rFst := mOk_eq e h2
  have h39 : rFst 3 ≤ 9999 := by decide
  have hz : ∀ k, 16 ≤ k → k < 229 → k ≠ 192 → k ≠ 197 → k ≠ 198 → ∀ j, GS G k j = 0 := fun k a b c d f j => by
    rw [GS_lo b, h4 k a c d f]
    rfl
  have e6 : GS G 230 6 = 0 := by rw [GS_230]; rfl
  have e8 : GS G 230 8 = 0 := by rw [GS_230]; rfl
  have e9 : GS G 230 9 = -1 := by rw [GS_230]; rfl
  have e22 : GS G 230 22 = 0 := by rw [GS_230]; rfl
  refine ⟨⟨?_, ?_, fun c c0 c1 => ⟨?_, fun hn => ?_⟩, ?_, ?_, ?_, fun j j0 j1 => ?_⟩, ⟨?_, ⟨?_, fun j hj => ?_⟩, fun c c0 c1 => ⟨Or.inl ?_, fun hn => ?_⟩, ⟨?_, fun j j0 j1 => ?_⟩, ?_, ?_⟩⟩
  · rw [GS_231]
    exact RX_fr (RX_eq h2 h3 e) (fun k a b => GS_lo (by omega))
  · rw [e6]
    refine ⟨hz 193 (by decide) (by decide) (by decide) (by decide) (by decide) 0, ⟨by decide, by decide⟩, ?_, fun j w hj hw => absurd hj (by omega)⟩
    rw [hz 193 (by decide) (by decide) (by decide) (by decide) (by decide) 1]
    exact ⟨by decide, by decide⟩
  · rw [hz 196 (by decide) (by decide) (by decide) (by decide) (by decide) c, GS_hi (by decide)]
  · exact absurd (GS_hi (by decide) c) hn
  · rw [e8]
    refine ⟨?_, ⟨by decide, by decide⟩, fun j j0 j1 => absurd j1 (by omega)⟩
    rw [GS_lo (by decide)]
    exact h7
  · rw [e9, GS_lo (by decide)]
    exact h6
  · rw [e22, GS_lo (by decide), h5 9 (by decide)]
    rfl
  · rw [e22] at j1
    omega
  · rw [GS_231]
    exact ⟨hok, h39⟩
  · rw [e6]
    exact ⟨by decide, by decide⟩
  · rw [e6] at hj
    omega
  · exact GS_hi (by decide) c
  · exact absurd (GS_hi (by decide) c) hn
  · rw [e8]
    exact ⟨by decide, by decide⟩
  · rw [e8] at j1
    omega
  · rw [e9]
    decide
  · rw [e22]
    exact ⟨by decide, by decide⟩
end GS
/-- a cell speaks of the addresses that it names -/
theorem z_fvs_ad {ad ad' : Nat → Nat} {k : Nat} {mem : Mm} : ∀ (cs : List Nat) (j : Nat), (∀ c ∈ cs, 2 ≤ c → ad (c - 2) = ad' (c - 2)) → (z_fvs k mem j cs).map (z_cv ad) = (z_fvs k mem j cs).map (z_cv ad') := by
  intro cs
  induction cs with
  | nil => intro j h; rfl
  | cons c cs ih =>
    intro j h
    have h2 := ih (j + 1) (fun c hc => h c (List.mem_cons_of_mem _ hc))
    have h1 : z_cv ad (z_fv k mem c j) = z_cv ad' (z_fv k mem c j) := by
      have hc := h c List.mem_cons_self
      match c, hc with
      | 0, _ => rfl
      | 1, _ => rfl
      | c + 2, hc => exact congrArg Value.ref (hc (by omega))
    show z_cv ad (z_fv k mem c j) :: _ = z_cv ad' (z_fv k mem c j) :: _
    rw [h1]
    exact congrArg _ h2
theorem z_cel_ad {ad ad' : Nat → Nat} {cA : Nat → ClassId} {k : Nat} {mem : Mm} (h1 : ∀ c ∈ (z_sh k).2.2, 2 ≤ c → ad (c - 2) = ad' (c - 2)) (h2 : 5 ≤ (z_sh k).1 → ∀ c ∈ (z_sh k).2.2, ad c = ad' c) : z_cel ad cA k mem = z_cel ad' cA k mem := by
  unfold z_cel
  rw [z_fvs_ad _ 0 h1]
  by_cases h0 : (z_sh k).1 = 0
  · rw [if_pos h0, if_pos h0]
  · rw [if_neg h0, if_neg h0]
    by_cases h4 : (z_sh k).1 = 4
    · rw [if_pos h4, if_pos h4]
    · rw [if_neg h4, if_neg h4]
      by_cases h5 : 5 ≤ (z_sh k).1
      · rw [if_pos h5, if_pos h5]
        have e : (fun j : Nat => ((z_sh k).2.2[j]?).map ad) = fun j : Nat => ((z_sh k).2.2[j]?).map ad' := by
          funext j
          cases hj : (z_sh k).2.2[j]? with
          | none => rfl
          | some c => exact congrArg some (h2 h5 c (List.mem_of_getElem? hj))
        rw [e]
      · rw [if_neg h5, if_neg h5]
theorem z_sh_lo {k : Nat} (h : k < 229) : ∀ c ∈ (z_sh k).2.2, c < 231 ∧ (5 ≤ (z_sh k).1 → c < 229) := by
  have hd : ((List.range 229).all fun k => (z_sh k).2.2.all fun c => Nat.blt c 231 && (Nat.blt (z_sh k).1 5 || Nat.blt c 229)) = true := by decide +kernel
  intro c hc
  have h1 := List.all_eq_true.mp (List.all_eq_true.mp hd k (List.mem_range.mpr h)) c hc
  rw [Bool.and_eq_true, Bool.or_eq_true] at h1
  refine ⟨Nat.le_of_ble_eq_true h1.1, fun h5 => ?_⟩
  rcases h1.2 with h2 | h2
  · have : (z_sh k).1 < 5 := Nat.le_of_ble_eq_true h2
    omega
  · exact Nat.le_of_ble_eq_true h2
/-- the addresses of program and model -/
def k9d (ad8 f : Nat → Nat) (q k : Nat) : Nat := if k < 229 then ad8 k else if k = 229 then q else if k < 241 then f (k - 230) else ad8 k
section K9D
variable {ad8 f : Nat → Nat} {q : Nat} {cA : Nat → ClassId} {G : GM}
theorem k9d_lo {k : Nat} (h : k < 229) : k9d ad8 f q k = ad8 k := if_pos h
theorem k9d_hi {k : Nat} (h : 241 ≤ k) : k9d ad8 f q k = ad8 k := by
  unfold k9d
  rw [if_neg (by omega), if_neg (by omega), if_neg (by omega)]
theorem k9d_9 {i : Nat} (h : i < 11) : k9d ad8 f q (230 + i) = f i := by
  unfold k9d
  rw [if_neg (by omega), if_neg (by omega), if_pos (by omega), show 230 + i - 230 = i by omega]
theorem k9_lo {k : Nat} (h : k < 229) : z_cel (k9d ad8 f q) cA k (mM (GS G) Gz 0) = z_cel ad8 cA k (mM G Gz 0) := by
  have hs := z_sh_lo h
  rw [z_cel_ad (ad' := ad8) (fun c hc h2 => k9d_lo (by have := (hs c hc).1; omega)) (fun h5 c hc => k9d_lo ((hs c hc).2 h5))]
  refine z_cel_congr ?_ rfl
  funext j
  show zi (GS G k (j : Int)) = zi (G k (j : Int))
  rw [GS_lo h]
theorem k9_0 {k : Nat} (h : 231 < k) : (mM (GS G) Gz 0).1 k = fun _ => 0 := by
  funext j
  show zi (GS G k (j : Int)) = 0
  rw [GS_hi h]
  rfl
theorem k9_231 : (mM (GS G) Gz 0).1 231 = rI9 := by
  funext j
  show zi (GS G 231 (j : Int)) = rI9 j
  rw [GS_231, rI9_eq]
theorem k9_9 {i : Nat} (h : i < 11) : (kX9 cA f)[i]? = some (f i, z_cel (k9d ad8 f q) cA (230 + i) (mM (GS G) Gz 0)) := by
  have e : ∀ k, 230 + k = 230 + k := fun _ => rfl
  rcases (show i = 0 ∨ i = 1 ∨ i = 2 ∨ i = 3 ∨ i = 4 ∨ i = 5 ∨ i = 6 ∨ i = 7 ∨ i = 8 ∨ i = 9 ∨ i = 10 by omega) with rfl | rfl | rfl | rfl | rfl | rfl | rfl | rfl | rfl | rfl | rfl
  · show some _ = some (f 0, Sum.inr (9, [z_cv _ (.ref 231), z_cv _ (.ref 232), z_cv _ (.ref 233), z_cv _ (.ref 234), z_cv _ (.ref 235), z_cv _ (.ref 236), .int (zi (GS G 230 ((6 : Nat) : Int))), z_cv _ (.ref 237), .int (zi (GS G 230 ((8 : Nat) : Int))), .int (zi (GS G 230 ((9 : Nat) : Int))), .int (zi (GS G 230 ((10 : Nat) : Int))), z_cv _ (.ref 238), z_cv _ (.ref 239), .int (zi (GS G 230 ((13 : Nat) : Int))), .int (zi (GS G 230 ((14 : Nat) : Int))), .int (zi (GS G 230 ((15 : Nat) : Int))), .int (zi (GS G 230 ((16 : Nat) : Int))), .int (zi (GS G 230 ((17 : Nat) : Int))), .int (zi (GS G 230 ((18 : Nat) : Int))), .long (zl (Gz 230 ((19 : Nat) : Int))), .int (zi (GS G 230 ((20 : Nat) : Int))), z_cv _ (.ref 240), .int (zi (GS G 230 ((22 : Nat) : Int)))]))
    rw [GS_230, GS_230, GS_230, GS_230, GS_230, GS_230, GS_230, GS_230, GS_230, GS_230, GS_230, GS_230]
    rfl
  · show some _ = some (f 1, (.inl (cA 1, 256, .inl ((mM (GS G) Gz 0).1 231)) : va_E))
    rw [k9_231]
  · show some _ = some (f 2, (.inl (cA 1, 256, .inl ((mM (GS G) Gz 0).1 232)) : va_E))
    rw [k9_0 (by decide)]
  · show some _ = some (f 3, (.inl (cA 1, 256, .inl ((mM (GS G) Gz 0).1 233)) : va_E))
    rw [k9_0 (by decide)]
  · show some _ = some (f 4, (.inl (cA 1, 2048, .inl ((mM (GS G) Gz 0).1 234)) : va_E))
    rw [k9_0 (by decide)]
  · show some _ = some (f 5, (.inl (cA 1, 512, .inl ((mM (GS G) Gz 0).1 235)) : va_E))
    rw [k9_0 (by decide)]
  · show some _ = some (f 6, (.inl (cA 3, 2, .inl ((mM (GS G) Gz 0).1 236)) : va_E))
    rw [k9_0 (by decide)]
  · show some _ = some (f 7, (.inl (cA 1, 800, .inl ((mM (GS G) Gz 0).1 237)) : va_E))
    rw [k9_0 (by decide)]
  · show some _ = some (f 8, (.inl (cA 1, 144, .inl ((mM (GS G) Gz 0).1 238)) : va_E))
    rw [k9_0 (by decide)]
  · show some _ = some (f 9, (.inl (cA 1, 144, .inl ((mM (GS G) Gz 0).1 239)) : va_E))
    rw [k9_0 (by decide)]
  · show some _ = some (f 10, (.inl (cA 1, 160, .inl ((mM (GS G) Gz 0).1 240)) : va_E))
    rw [k9_0 (by decide)]
/-- the cells at the start of the law's loop, in the order of their making -/
def k9W (ad8 f : Nat → Nat) (q : Nat) (cA : Nat → ClassId) (G : GM) : va_W := z_W 229 ad8 cA (mM G Gz 0) ++ kX9 cA f ++ [(q, .inl (cA 4, 1, .inr (.inl fun _ => 0)))]
def k9p (k : Nat) : Nat := if k < 229 then k else if k = 229 then 240 else k - 1
theorem k9_at {k : Nat} (h : k < 241) : (k9W ad8 f q cA G)[k9p k]? = some (k9d ad8 f q k, z_cel (k9d ad8 f q) cA k (mM (GS G) Gz 0)) := by
  have hl : (z_W 229 ad8 cA (mM G Gz 0)).length = 229 := by simp [z_W]
  have hl2 : (kX9 cA f).length = 11 := rfl
  unfold k9W k9p
  by_cases h1 : k < 229
  · rw [if_pos h1, List.getElem?_append_left (by rw [List.length_append, hl, hl2]; omega), List.getElem?_append_left (by omega), z_W_at h1, k9_lo h1, k9d_lo h1]
  · rw [if_neg h1]
    by_cases h2 : k = 229
    · subst h2
      rw [if_pos rfl, List.getElem?_append_right (by rw [List.length_append, hl, hl2]; omega), List.length_append, hl, hl2]
      rfl
    · obtain ⟨i, rfl⟩ : ∃ i, k = 230 + i := ⟨k - 230, by omega⟩
      rw [if_neg h2, List.getElem?_append_left (by rw [List.length_append, hl, hl2]; omega), List.getElem?_append_right (by omega), hl, show 230 + i - 1 - 229 = i by omega, k9_9 (by omega), k9d_9 (by omega)]
theorem k9_P {D : va_G} {cl : List vw_C} {H : Heap} (hP : va_P D cl (k9W ad8 f q cA G) H) : va_P D cl (z_W 241 (k9d ad8 f q) cA (mM (GS G) Gz 0)) H := by
  intro k x hk
  by_cases h : k < 241
  · rw [z_W_at h] at hk
    cases hk
    exact hP _ _ (k9_at h)
  · rw [List.getElem?_eq_none (by simp [z_W]; omega)] at hk
    cases hk
theorem k9_inj {A : Nat → Prop} (hD : va_D A (k9W ad8 f q cA G)) : ∀ i j, i < 241 → j < 241 → k9d ad8 f q i = k9d ad8 f q j → i = j := by
  intro i j hi hj h
  have e := hD.1 _ _ _ _ (k9_at (G := G) (cA := cA) hi) (k9_at (G := G) (cA := cA) hj) h
  unfold k9p at e
  split at e <;> split at e <;> (try split at e) <;> (try split at e) <;> omega
theorem k9_A {A : Nat → Prop} (hD : va_D A (k9W ad8 f q cA G)) {k : Nat} (h : k < 241) : A (k9d ad8 f q k) := hD.2 _ _ (k9_at (G := G) (cA := cA) h)
end K9D
