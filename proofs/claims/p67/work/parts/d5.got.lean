/-! What the law's changing calls answer where they are not thrown. -/
theorem zand_3 (y : Int) : zand y 3 = y % 4 := by
  show (zi y &&& zi 3).toInt = y % 4
  rw [show zi 3 = 3 from rfl]
  have e1 : (zi y &&& 3).toBitVec.toNat = (zi y).toBitVec.toNat % 4 := by
    rw [Int32.toBitVec_and, BitVec.toNat_and]
    exact Nat.and_two_pow_sub_one_eq_mod _ 2
  have e2 : (zi y).toBitVec.toNat = (y % 4294967296).toNat := by
    show (BitVec.ofInt 32 y).toNat = _
    rw [BitVec.toNat_ofInt]
    rfl
  show (zi y &&& 3).toBitVec.toInt = y % 4
  rw [BitVec.toInt_eq_toNat_of_lt (by omega), e1, e2]
  omega
theorem zand_15 (y : Int) : zand y 15 = y % 16 := by
  show (zi y &&& zi 15).toInt = y % 16
  rw [show zi 15 = 15 from rfl]
  have e1 : (zi y &&& 15).toBitVec.toNat = (zi y).toBitVec.toNat % 16 := by
    rw [Int32.toBitVec_and, BitVec.toNat_and]
    exact Nat.and_two_pow_sub_one_eq_mod _ 4
  have e2 : (zi y).toBitVec.toNat = (y % 4294967296).toNat := by
    show (BitVec.ofInt 32 y).toNat = _
    rw [BitVec.toNat_ofInt]
    rfl
  show (zi y &&& 15).toBitVec.toInt = y % 16
  rw [BitVec.toInt_eq_toNat_of_lt (by omega), e1, e2]
  omega
theorem zcd_neg (k : Nat) : -104 ≤ zcd k ∧ zcd k < 0 := by
  unfold zcd
  split <;> decide
theorem zN_got {ex : List Nat} {q : Int × Int} (hq : q.1 = 0 → 0 ≤ q.2 ∧ q.2 ≤ 2147483647) : zr (zN ex (q.1, gI q.2)) ∧ (zN ex (q.1, gI q.2) < 0 ↔ q.1 ≠ 0) := by
  unfold zN
  by_cases h : q.1 = 0
  · obtain ⟨a, b⟩ := hq h
    have e : gI q.2 = q.2 := zi_to ⟨by omega, b⟩
    dsimp only
    rw [if_pos h, e]
    exact ⟨⟨by omega, b⟩, fun h9 => by omega, fun h9 => absurd h h9⟩
  · have hc := zcd_neg (ex.getD (q.1 - 1).toNat 0)
    dsimp only
    rw [if_neg h]
    exact ⟨⟨by omega, by omega⟩, fun _ => h, fun _ => hc.2⟩
theorem zcnt_mono {p q : Int → Prop} [DecidablePred p] [DecidablePred q] : ∀ k : Nat, (∀ j : Int, 0 ≤ j → j < k → p j → q j) → zcnt p k ≤ zcnt q k := by
  intro k
  induction k with
  | zero => intro _; exact Int.le_refl _
  | succ k ih =>
    intro h
    have := ih (fun j h0 h1 => h j h0 (by omega))
    unfold zcnt
    by_cases h2 : p k
    · rw [if_pos h2, if_pos (h k (by omega) (by omega) h2)]
      omega
    · rw [if_neg h2]
      split <;> omega
section DG
variable {s : Int → Int} {B : Int}
theorem sCount_mono (hok : mOk s) {k : Nat} (hk : s 3 + k ≤ 30000) {q : Int} (hq : q ≠ 0) : sCount s q ≤ sCount (sTicks s k) q := by
  obtain ⟨k1, z1⟩ := sTicks_ok hok k hk
  have e5 : sTicks s k 5 = s 5 := by rw [z1.2.2.2.2.2.1, zp_ne (by omega)]
  have b5 := hok.2.2.2.2.2.1
  unfold sCount
  rw [e5]
  refine zcnt_mono _ (fun j j0 j1 hj => ?_)
  have := sTicks_2 hok j0 (n := 0) (show sTicks s 0 (214 + 7 * j + 2) ≠ 0 by show s (214 + 7 * j + 2) ≠ 0; omega) k (by omega)
  rw [Nat.zero_add] at this
  exact this.trans hj
theorem qn_tick (hok : mOk s) {q : Int} (h : (q_tick s q).1 = 0) : 0 ≤ (q_tick s q).2 ∧ (q_tick s q).2 ≤ 2147483647 := by
  have b5 := hok.2.2.2.2.2.1
  unfold q_tick at h ⊢
  split at h
  · rename_i h1
    split at h
    · cases h
    · rename_i h2
      rw [if_pos h1, if_neg h2]
      obtain ⟨k1, z1⟩ := sTicks_ok hok q.toNat (by omega)
      have := sCount_mono hok (k := q.toNat) (q := 1) (by omega) (by decide)
      have r1 := sCount_rng (sTicks s q.toNat) 1 k1.2.2.2.2.2.1
      have r2 := sCount_rng s 1 b5
      show 0 ≤ sCount (sTicks s q.toNat) 1 - sCount s 1 ∧ sCount (sTicks s q.toNat) 1 - sCount s 1 ≤ 2147483647
      omega
  · cases h
theorem qn_addLight (hok : mOk s) {x y b : Int} (h : (q_addLight s x y b).1 = 0) : 0 ≤ (q_addLight s x y b).2 ∧ (q_addLight s x y b).2 ≤ 2147483647 := by
  have b4 := hok.2.2.2.2.1
  unfold q_addLight at h ⊢
  split at h
  · rename_i h1
    split at h
    · rename_i h2
      split at h
      · cases h
      · rename_i h3
        rw [if_pos h1, if_pos h2, if_neg h3]
        exact ⟨b4.1, by show s 4 ≤ _; omega⟩
    · cases h
  · cases h
theorem qn_addTraveller (hok : mOk s) {x y : Int} (h : (q_addTraveller s x y).1 = 0) : 0 ≤ (q_addTraveller s x y).2 ∧ (q_addTraveller s x y).2 ≤ 2147483647 := by
  have b5 := hok.2.2.2.2.2.1
  unfold q_addTraveller at h ⊢
  split at h
  · rename_i h1
    split at h
    · cases h
    · rename_i h3
      rw [if_pos h1, if_neg h3]
      exact ⟨b5.1, by show s 5 ≤ _; omega⟩
  · cases h
theorem qn_setSuccessor (hok : mOk s) {l v : Int} (h : (q_setSuccessor s l v).1 = 0) : 0 ≤ (q_setSuccessor s l v).2 ∧ (q_setSuccessor s l v).2 ≤ 2147483647 := by
  have b4 := hok.2.2.2.2.1
  unfold q_setSuccessor at h ⊢
  split at h
  · rename_i h1
    split at h
    · cases h
    · rename_i h3
      rw [if_pos h1, if_neg h3]
      have hr := zcnt_rng (fun k => sAst (zp s (174 + 5 * l + 4) v) 9 k 0 = 1) (zp s (174 + 5 * l + 4) v 4).toNat
      have e4 : zp s (174 + 5 * l + 4) v 4 = s 4 := zp_ne (by omega)
      refine ⟨hr.1, ?_⟩
      show zcnt (fun k => sAst (zp s (174 + 5 * l + 4) v) 9 k 0 = 1) (zp s (174 + 5 * l + 4) v 4).toNat ≤ _
      have hr2 := hr.2
      rw [e4] at hr2 ⊢
      omega
  · cases h
theorem qn_clearSuccessor (hok : mOk s) {l : Int} (h : (q_clearSuccessor s l).1 = 0) : 0 ≤ (q_clearSuccessor s l).2 ∧ (q_clearSuccessor s l).2 ≤ 2147483647 := by
  have b4 := hok.2.2.2.2.1
  unfold q_clearSuccessor at h ⊢
  split at h
  · rename_i h1
    have := mOk_nx hok l h1.1 (by omega)
    split at h
    · cases h
    · rename_i h3
      rw [if_pos h1, if_neg h3]
      exact ⟨by show 0 ≤ s _; omega, by show s _ ≤ _; omega⟩
  · cases h
theorem qn_layPlank {x y q : Int} (hok : mOk s) (h : (q_layPlank s x y q).1 = 0) : 0 ≤ (q_layPlank s x y q).2 ∧ (q_layPlank s x y q).2 ≤ 2147483647 := by
  have b0 := hok.1
  have b1 := hok.2.1
  unfold q_layPlank at h ⊢
  split at h
  · rename_i h1
    split at h
    · rename_i h2
      split at h
      · cases h
      · rename_i h3
        rw [if_pos h1, if_pos h2, if_neg h3]
        have e0 : zp s (30 + 12 * y + x) (10 + q) 0 = s 0 := zp_ne (by omega)
        have e1 : zp s (30 + 12 * y + x) (10 + q) 1 = s 1 := zp_ne (by omega)
        have hs : 0 ≤ sPlanks (zp s (30 + 12 * y + x) (10 + q)) ∧ sPlanks (zp s (30 + 12 * y + x) (10 + q)) ≤ 12 * ((zp s (30 + 12 * y + x) (10 + q) 1).toNat : Int) := zsum_rng (c := 12) _ (fun j _ _ => by
          have := zcnt_rng (fun i => 10 < zp s (30 + 12 * y + x) (10 + q) (30 + 12 * j + i)) (zp s (30 + 12 * y + x) (10 + q) 0).toNat
          unfold sPlankRow
          rw [e0] at this ⊢
          omega)
        rw [e1] at hs
        exact ⟨hs.1, Int.le_trans hs.2 (by omega)⟩
    · cases h
  · cases h
theorem qn_setClearness (hok : mOk s) {c : Int} (h : (q_setClearness s c).1 = 0) : 0 ≤ (q_setClearness s c).2 ∧ (q_setClearness s c).2 ≤ 2147483647 := by
  have b2 := hok.2.2.1
  unfold q_setClearness at h ⊢
  split at h
  · rename_i h1
    rw [if_pos h1]
    exact ⟨b2.1, by show s 2 ≤ _; omega⟩
  · cases h
theorem qn_setFog (hok : mOk s) {k f : Int} (h : (q_setFog s k f).1 = 0) : 0 ≤ (q_setFog s k f).2 ∧ (q_setFog s k f).2 ≤ 2147483647 := by
  unfold q_setFog at h ⊢
  split at h
  · rename_i h1
    have hf := hok.2.2.2.2.2.2.1 k h1.1 (by omega)
    split at h
    · rename_i h2
      rw [if_pos h1, if_pos h2]
      exact ⟨hf.1, by show s _ ≤ _; omega⟩
    · cases h
  · cases h
theorem qn_setTarget (hok : mOk s) {t l : Int} (h : (q_setTarget s t l).1 = 0) : 0 ≤ (q_setTarget s t l).2 ∧ (q_setTarget s t l).2 ≤ 2147483647 := by
  unfold q_setTarget at h ⊢
  split at h
  · rename_i h1
    split at h
    · cases h
    · rename_i h3
      rw [if_pos h1, if_neg h3]
      obtain ⟨m1, m2, -⟩ := wOk_w hok (t := t) ⟨by omega, by omega⟩
      obtain ⟨l1, l2, -⟩ := mOk_lt hok (l := l) (by omega) (by omega)
      have b0 := hok.1
      have b1 := hok.2.1
      have b5 := hok.2.2.2.2.2.1
      have b4 := hok.2.2.2.2.1
      show 0 ≤ sFarL (zp s (214 + 7 * t + 3) l) t l ∧ sFarL (zp s (214 + 7 * t + 3) l) t l ≤ 2147483647
      have e : ∀ j, j ≠ 214 + 7 * t + 3 → zp s (214 + 7 * t + 3) l j = s j := fun j hj => zp_ne hj
      unfold sFarL sFar zap
      rw [e _ (by omega), e _ (by omega), e _ (by omega), e _ (by omega)]
      split <;> split <;> omega
  · cases h
end DG
section DGR
variable {u9 : WU} {y : Nat} {b : WB} {pc pc' : Nat} {L st : List Value} {G F : GM} {Y : DY} {c d : Nat} {Q : WQ}
/-- a changing call: changed and an answer, or as before and a code -/
theorem wi_ch {k1 y2 n : Nat} {as : List Value} {q : Int × Int} {ex : List Nat} {P : GM → Prop} {A C : GM → Prop} (hsc : z_SC u9.1 znl zTs (zZ u9.2.1 u9.2.2 u9.1) zyn zbc zrt zfr zlo (fun _ i => i) ztb y pc k1 y2 n) (hp : pc + 3 = pc') (hc : zC u9.1 y2 as G F 0 (zLc F 0 q.1 (zN ex (q.1, gI q.2)) P)) (hcl : k1 = 3 → ∃ T Nf, vwCl[zcl y2]? = some ((zyn y2).cls, T, Nf)) (ha : (st.take n).reverse = as) (hok : z_okc u9.1 (zcl y2) (znl y2) (zc2 y2) k1 n st = true) (hq : q.1 = 0 → 0 ≤ q.2 ∧ q.2 ≤ 2147483647) (hP : ∀ G', P G' → (q.1 = 0 ∧ A G') ∨ (q.1 ≠ 0 ∧ C G')) (hb1 : c + 1 ≤ b.1) (hb2 : d + 6 ≤ b.2.1)
    (k : ∀ G' got, zr got → ((0 ≤ got ∧ A G') ∨ (got < 0 ∧ C G')) → wW u9 y b pc' L (.int (zi got) :: st.drop n) G' F Y (c + 1) (d + 6) Q) : wW u9 y b pc L st G F Y c d Q := by
  refine wi_cx hsc hp hc hcl ha hok hb1 hb2 (fun G' hP' => ?_)
  obtain ⟨z1, z2⟩ := zN_got (ex := ex) hq
  refine k G' _ z1 ((hP G' hP').imp (fun h => ⟨?_, h.2⟩) (fun h => ⟨z2.mpr h.1, h.2⟩))
  have : ¬ zN ex (q.1, gI q.2) < 0 := fun h9 => z2.mp h9 h.1
  omega
end DGR
