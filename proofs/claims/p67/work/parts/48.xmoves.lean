/-! The program: the next cell is the model's (printed by wip/whole/src48.py). -/
theorem RX_wt {G : GM} {w : Nat} {s : Int → Int} (hok : mOk s) (hR : RX G w s) {q : Int} (pv : zVal (s 0) (s 1) q) : xWt (G (16 * w + 2)) q ↔ mWt s q := by
  obtain ⟨p1, p2, p3⟩ := pv
  have b0 := hok.1
  have b1 := hok.2.1
  have h := RX_c hR (c := q) ⟨by omega, p2⟩ ⟨by omega, p3⟩
  have hz := (zgc_rng (mOk_g hok (x := q % 12) (y := q / 12) ⟨by omega, by omega⟩ ⟨by omega, by omega⟩)).2.1
  have e : 30 + 12 * (q / 12) + q % 12 = 30 + q := by omega
  rw [← h, e] at hz
  exact hz
theorem xMove_nx {G : GM} {w : Nat} {s st : Int → Int} {t l : Int} (hok : mOk s) (hR : RX G w s) (t0 : 0 ≤ t) (t1 : t < s 5) (l0 : 0 ≤ l) (l1 : l < s 4) (hon : ¬ sOn s t l) (hD : zDist (s 0) (s 1) (mWt s) (fun p => p = 12 * s (174 + 5 * l + 1) + s (174 + 5 * l + 0)) True st) :
    (0 ≤ sFarT s t l → xNx (s 0) (s 1) (G (16 * w + 2)) st (12 * s (214 + 7 * t + 1) + s (214 + 7 * t + 0)) = 12 * (s (214 + 7 * t + 1) + zsy (sWay s t l)) + (s (214 + 7 * t + 0) + zsx (sWay s t l))) ∧ (¬ 0 ≤ sFarT s t l → xNx (s 0) (s 1) (G (16 * w + 2)) st (12 * s (214 + 7 * t + 1) + s (214 + 7 * t + 0)) = -1) := by
  have hM := zst_l hok ⟨l0, l1⟩
  have hb := mOk_hb hok
  obtain ⟨wx, wy, -⟩ := hok.2.2.2.2.2.2.2.2.2 t t0 t1
  obtain ⟨lx, ly, -⟩ := hok.2.2.2.2.2.2.2.2.1 l l0 l1
  obtain ⟨p, hp⟩ : ∃ p, p = 12 * s (214 + 7 * t + 1) + s (214 + 7 * t + 0) := ⟨_, rfl⟩
  have ex : p % 12 = s (214 + 7 * t + 0) := by omega
  have ey : p / 12 = s (214 + 7 * t + 1) := by omega
  have pv : zVal (s 0) (s 1) p := ⟨by omega, by omega, by omega⟩
  have e1 := xSteps hb hD hM pv
  rw [ex, ey] at e1
  have e2 : sFarT s t l = st p := e1
  have hne : st p ≠ 0 := fun q => hon (by
    have h2 : p = 12 * s (174 + 5 * l + 1) + s (174 + 5 * l + 0) := (hD.2.1 p pv).mpr q
    exact ⟨by omega, by omega⟩)
  rw [← hp]
  constructor
  · intro h
    have h3 := xNext hb hD hM (fun q qv => RX_wt hok hR qv) pv (by omega)
    rw [ex, ey, ← e2] at h3
    rw [h3]
    show znb p (sWay s t l) = _
    unfold znb znx zny
    rw [ex, ey]
  · intro h
    exact if_pos (by omega)
theorem xWy_mv {G G' : GM} {s u : Int → Int} (hok : mOk s) (h : xWy G s) (hz : sSz s u) (hw : ∀ i, 0 ≤ i → i < 144 → (mWt u i ↔ mWt s i)) (hk : ∀ k, 201 ≤ k → k < 225 → G' k = G k) : xWy G' u := by
  obtain ⟨e0, e1, -, -, e4, -, -, hl⟩ := hz
  have b4 := hok.2.2.2.2.1
  have hb := mOk_hb hok
  intro l l0 l1 hn
  rw [hk _ (by omega) (by omega)] at hn
  have hd := h l l0 (by omega) hn
  rw [hk _ (by omega) (by omega), e0, e1, hl (174 + 5 * (l : Int) + 1) (by omega) (by omega), hl (174 + 5 * (l : Int) + 0) (by omega) (by omega)]
  refine zDist_congr (by omega) (by omega) (fun p pv => ?_) hd
  obtain ⟨p0, p1⟩ := zVal_144 (by omega) (by omega) pv
  exact (hw p p0 p1).symm
theorem sStepTo_wt {s : Int → Int} {t d i : Int} (t0 : 0 ≤ t) (h : i < 144) : mWt (sStepTo s t d) i ↔ mWt s i := by
  show zp (zp (zp s (214 + 7 * t + 0) _) (214 + 7 * t + 1) _) (214 + 7 * t + 6) _ (30 + i) = 1 ↔ _
  rw [zp_ne (by omega), zp_ne (by omega), zp_ne (by omega)]
/-- all but world w and the ways is as it was -/
def xSF (w : Nat) (G G' : GM) : Prop := ∀ k, (k < 16 * w ∨ 16 * w + 16 ≤ k) → (k < 201 ∨ 225 ≤ k) → G' k = G k
theorem xSF_w {w : Nat} {G G' : GM} (h : xWf w G G') : xSF w G G' := fun k a _ => h k a
theorem xSF_t {w : Nat} {G G1 G2 : GM} (h : xSF w G G1) (h2 : xSF w G1 G2) : xSF w G G2 := fun k a b => (h2 k a b).trans (h k a b)
