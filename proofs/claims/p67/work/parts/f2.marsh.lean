/-! A light's text; how far a text is read, by its parts. -/
section F2
variable {T : Int → Int} {n p : Int} {D : Int → Int}
def tTF (i : Int) : List Int := if i = 1 then kTrue else kFalse
def tNext (f : Int) : List Int := if f < 0 then [59] else ([32] ++ kNext) ++ (([32] ++ wDig f) ++ [59])
def tLight (u v b i f : Int) : List Int := ([] ++ kLight) ++ (([32] ++ wDig u) ++ (([32] ++ wDig v) ++ (([32] ++ wDig b) ++ (([32] ++ tTF i) ++ tNext f))))
def addL (D : Int → Int) (u v b i f : Int) : Int → Int := zp (sAddL D u v b i) (174 + 5 * (sAddL D u v b i 4 - 1) + 4) f
theorem tNext_c {f : Int} : ∃ x r', tNext f = x :: r' ∧ ¬ (97 ≤ x ∧ x ≤ 122) ∧ ¬ (48 ≤ x ∧ x ≤ 57) := by
  unfold tNext
  split
  · exact ⟨59, [], rfl, by decide, by decide⟩
  · exact ⟨32, _, rfl, by decide, by decide⟩
theorem rd_tf {i : Int} {r : List Int} (hi : i = 0 ∨ i = 1) (h : At T p (([32] ++ tTF i) ++ r)) (hn : p + (([32] ++ tTF i) ++ r).length ≤ n) {x : Int} {r' : List Int} (hr : r = x :: r') (hx : ¬ (97 ≤ x ∧ x ≤ 122)) : tK T n p = 1 ∧ tW T n p = (if i = 1 then 407354 else 3217595) ∧ tE T n p = p + ([32] ++ tTF i).length ∧ At T (p + ([32] ++ tTF i).length) r ∧ p + ([32] ++ tTF i).length + r.length ≤ n := by
  rcases hi with rfl | rfl
  · obtain ⟨⟨⟨k1, w1⟩, -, -⟩, ⟨-, e1⟩, h1, n1⟩ := cw (n := n) (w := tTF 0) (D := fun _ => 0) (v := 3217595) (by decide +kernel) p32 (kl_ok kFalse (by decide)) (by decide) h hn hr hx
    exact ⟨k1, w1, e1, h1, n1⟩
  · obtain ⟨⟨⟨k1, w1⟩, -, -⟩, ⟨-, e1⟩, h1, n1⟩ := cw (n := n) (w := tTF 1) (D := fun _ => 0) (v := 407354) (by decide +kernel) p32 (kl_ok kTrue (by decide)) (by decide) h hn hr hx
    exact ⟨k1, w1, e1, h1, n1⟩
theorem rd_l8 {u v b i f : Int} (h : At T p [59]) (hn : p + 1 ≤ n) : pL8 T n (p, 0, -1, D) u v b i f = (p + 1, 0, -1, addL D u v b i f) := by
  obtain ⟨⟨q4, k4⟩, -, -⟩ := cs (n := n) (D := D) (r := []) h (by show p + 1 ≤ n; exact hn)
  unfold pL8
  rw [if_pos ⟨rfl, k4⟩, q4]
  rfl
theorem rd_l6 {u v b i f : Int} (hi : i = 0 ∨ i = 1) (h : At T p (([32] ++ tTF i) ++ tNext f)) (hn : p + (([32] ++ tTF i) ++ tNext f).length ≤ n) (hf : f = -1 ∨ (0 ≤ f ∧ f < D 4)) (h8 : D 4 ≤ 8) : pL6 T n (p, 0, -1, D) u v b i = (p + (([32] ++ tTF i) ++ tNext f).length, 0, -1, addL D u v b i f) ∧ zb (pIs T n (p, 0, -1, D) 407354) = i := by
  obtain ⟨x, r', hr, hx, -⟩ := tNext_c (f := f)
  obtain ⟨k1, w1, e1, h1, n1⟩ := rd_tf hi h hn hr hx
  have hc : pIs T n (p, 0, -1, D) 407354 ∨ pIs T n (p, 0, -1, D) 3217595 := by
    rcases hi with rfl | rfl
    · exact Or.inr ⟨k1, w1⟩
    · exact Or.inl ⟨k1, w1⟩
  refine ⟨?_, ?_⟩
  · have hlen : ((([32] ++ tTF i) ++ tNext f).length : Int) = (([32] ++ tTF i : List Int).length : Int) + ((tNext f).length : Int) := by
      rw [List.length_append]
      omega
    rw [hlen, ← Int.add_assoc]
    unfold pL6
    rw [pTk_yes (x := (p, 0, -1, D)) rfl hc]
    dsimp only
    rw [e1]
    generalize p + (([32] ++ tTF i : List Int).length : Int) = p1 at *
    by_cases hf0 : f < 0
    · have e : tNext f = [59] := if_pos hf0
      rw [e] at h1 n1 ⊢
      have n2 : p1 + 1 ≤ n := n1
      obtain ⟨-, -, k2⟩ := tk_semi (n := n) (At_0 h1) (by omega)
      rw [if_neg (fun hh => by
        have h3 : tK T n p1 = 1 := hh.2.1
        rw [k2] at h3
        exact absurd h3 (by decide))]
      rw [show f = -1 by omega]
      exact rd_l8 h1 n2
    · have e : tNext f = ([32] ++ kNext) ++ (([32] ++ wDig f) ++ [59]) := if_neg hf0
      rw [e] at h1 n1 ⊢
      obtain ⟨⟨i2, -, q2⟩, -, h2, n2⟩ := cw (n := n) (D := D) (v := 279875) (by decide +kernel) p32 (kl_ok kNext (by decide)) (by decide) h1 n1 rfl (by decide)
      obtain ⟨⟨q3, q3v, -⟩, h3, n3⟩ := cn (D := D) (lo := 0) (hi := D 4 - 1) ⟨by omega, by omega⟩ ⟨by omega, by omega⟩ p32 h2 n2 rfl (by decide)
      rw [if_pos ⟨rfl, i2⟩, q2, q3, q3v, rd_l8 h3 n3]
      refine Prod.ext ?_ rfl
      show _ = p1 + (((([32] ++ kNext) ++ (([32] ++ wDig f) ++ [59])) : List Int).length : Int)
      simp only [List.length_append, List.length_cons, List.length_nil]
      omega
  · rcases hi with rfl | rfl
    · exact zb_f (fun hh => by
        have h3 : tW T n p = 407354 := hh.2
        rw [w1] at h3
        exact absurd h3 (by decide))
    · exact zb_t ⟨k1, w1⟩
theorem rd_light {u v b i f : Int} (h : At T p (tLight u v b i f)) (hn : p + (tLight u v b i f).length ≤ n) (hu : 0 ≤ u ∧ u < D 0) (hv : 0 ≤ v ∧ v < D 1) (h12 : D 0 ≤ 12 ∧ D 1 ≤ 12) (hc1 : D (30 + 12 * v + u) ≠ 1) (hc2 : sLOn D u v < 0) (hb : 0 ≤ b ∧ b ≤ 9) (hi : i = 0 ∨ i = 1) (hf : f = -1 ∨ (0 ≤ f ∧ f < D 4)) (h8 : D 4 < 8) : pIs T n (p, 0, -1, D) 6559778 ∧ pLight T n (p, 0, -1, D) = (p + (tLight u v b i f).length, 0, -1, addL D u v b i f) := by
  obtain ⟨⟨i1, -, -⟩, ⟨-, e1⟩, h1, n1⟩ := cw (n := n) (D := D) (v := 6559778) (by decide +kernel) p00 (kl_ok kLight (by decide)) (by decide) h hn rfl (by decide)
  obtain ⟨⟨q2, q2v, -⟩, h2, n2⟩ := cn (D := D) (lo := 0) (hi := D 0 - 1) ⟨by omega, by omega⟩ ⟨by omega, by omega⟩ p32 h1 n1 rfl (by decide)
  obtain ⟨⟨-, -, k3, v3, e3⟩, h3, n3⟩ := cn (D := D) (lo := 0) (hi := 99) ⟨by omega, by omega⟩ ⟨by omega, by omega⟩ p32 h2 n2 rfl (by decide)
  obtain ⟨⟨q4, q4v, -⟩, h4, n4⟩ := cn (D := D) (lo := 0) (hi := 9) ⟨by omega, by omega⟩ hb p32 h3 n3 rfl (by decide)
  obtain ⟨q5, z5⟩ := rd_l6 (D := D) (u := u) (v := v) (b := b) hi h4 n4 hf (by omega)
  refine ⟨i1, ?_⟩
  unfold pLight
  rw [if_pos ⟨rfl, h8⟩, pTk_yes (x := (p, 0, -1, D)) rfl (by exact h8)]
  dsimp only
  rw [e1]
  unfold pL2
  dsimp only
  rw [q2, q2v]
  have hw : pLc T n (p + (([] ++ kLight : List Int).length : Int) + (([32] ++ wDig u : List Int).length : Int), 0, -1, D) u := ⟨k3, by dsimp only; rw [v3]; exact ⟨hv.2, hc1, hc2⟩⟩
  unfold pL3
  rw [if_pos ⟨rfl, hw⟩, pTk_yes rfl hw]
  dsimp only
  rw [e3, v3]
  unfold pL4
  rw [q4, q4v, z5, q5]
  refine Prod.ext ?_ rfl
  show _ = p + ((tLight u v b i f).length : Int)
  unfold tLight
  simp only [List.length_append, List.length_cons, List.length_nil]
  omega
/-! how far -/
def rdR (D0 : Int → Int) (H k : Nat) (t : List Int) (D : Int → Int) : Prop := ∀ (T : Int → Int) (n : Int), At T 0 t → (t.length : Int) ≤ n → ((pHead T n (0, 0, -1, D0)).2.2.2 1).toNat = H ∧ pRows T n k (pHead T n (0, 0, -1, D0)) = ((t.length : Int), 0, -1, D)
def rF (T : Int → Int) (n : Int) (D0 : Int → Int) (H : Nat) : zTx := pLoop T n 4786 (pFog T n) 802 (pRows T n H (pHead T n (0, 0, -1, D0)))
def rL (T : Int → Int) (n : Int) (D0 : Int → Int) (H : Nat) : zTx := pLoop T n 6559778 (pLight T n) 802 (rF T n D0 H)
def rW (T : Int → Int) (n : Int) (D0 : Int → Int) (H : Nat) : zTx := pLoop T n 5837583086019 (pWalker T n) 802 (rL T n D0 H)
def rdF (D0 : Int → Int) (H k : Nat) (t : List Int) (D : Int → Int) : Prop := ∀ (T : Int → Int) (n : Int), At T 0 t → (t.length : Int) ≤ n → ((pHead T n (0, 0, -1, D0)).2.2.2 1).toNat = H ∧ rF T n D0 H = pLoop T n 4786 (pFog T n) (802 - k) ((t.length : Int), 0, -1, D)
def rdL (D0 : Int → Int) (H k : Nat) (t : List Int) (D : Int → Int) : Prop := ∀ (T : Int → Int) (n : Int), At T 0 t → (t.length : Int) ≤ n → ¬ (tK T n t.length = 1 ∧ tW T n t.length = 4786) → ((pHead T n (0, 0, -1, D0)).2.2.2 1).toNat = H ∧ rL T n D0 H = pLoop T n 6559778 (pLight T n) (802 - k) ((t.length : Int), 0, -1, D)
def rdW (D0 : Int → Int) (H k : Nat) (t : List Int) (D : Int → Int) : Prop := ∀ (T : Int → Int) (n : Int), At T 0 t → (t.length : Int) ≤ n → ¬ (tK T n t.length = 1 ∧ tW T n t.length = 4786) → ¬ (tK T n t.length = 1 ∧ tW T n t.length = 6559778) → ((pHead T n (0, 0, -1, D0)).2.2.2 1).toNat = H ∧ rW T n D0 H = pLoop T n 5837583086019 (pWalker T n) (802 - k) ((t.length : Int), 0, -1, D)
theorem pLoop_no {v : Int} {f : zTx → zTx} {x : zTx} (h : ¬ (tK T n x.1 = 1 ∧ tW T n x.1 = v)) : ∀ k, pLoop T n v f k x = x := by
  intro k
  cases k with
  | zero => rfl
  | succ k => exact if_neg (fun hh => h hh.2)
theorem pLoop_go {v : Int} {f : zTx → zTx} {x : zTx} {k : Nat} (h0 : x.2.1 = 0) (h : pIs T n x v) (hk : k < 802) : pLoop T n v f (802 - k) x = pLoop T n v f (802 - (k + 1)) (f x) := by
  rw [show 802 - k = (802 - (k + 1)) + 1 by omega]
  exact if_pos ⟨h0, h⟩
variable {D0 : Int → Int} {H k : Nat} {t : List Int}
theorem rdR_0 {a b c : Int} (ha : 2 ≤ a ∧ a ≤ 12) (hb : 2 ≤ b ∧ b ≤ 12) (hc : 0 ≤ c ∧ c ≤ 20) : rdR D0 b.toNat 0 (tHead a b c) (zp (zp (zp D0 0 a) 1 b) 2 c) := fun T n hA hn => by
  have e := rd_head (D := D0) hA hn ha hb hc
  refine ⟨?_, e⟩
  rw [e]
  show (zp (zp (zp D0 0 a) 1 b) 2 c 1).toNat = _
  rw [zp_ne (by decide), zp_eq]
theorem at_app {s : List Int} (h : At T 0 (t ++ s)) (hn : ((t ++ s).length : Int) ≤ n) : At T 0 t ∧ (t.length : Int) ≤ n ∧ At T t.length s ∧ (t.length : Int) + s.length ≤ n ∧ ((t ++ s).length : Int) = (t.length : Int) + s.length := by
  have hl : ((t ++ s).length : Int) = (t.length : Int) + s.length := by
    rw [List.length_append]
    omega
  have h2 := At_r h
  rw [Int.zero_add] at h2
  exact ⟨At_l h, by omega, h2, by omega, hl⟩
theorem rdR_s {c : List Int} (h : rdR D0 H k t D) (hc : ∀ x, x ∈ c → x = 102 ∨ x = 119 ∨ x = 104 ∨ x = 112) (h0 : 0 < c.length) (hl : D 0 = (c.length : Int)) : rdR D0 H (k + 1) (t ++ tRow c) (rowD D k c) := fun T n hA hn => by
  obtain ⟨a1, n1, a2, n2, e⟩ := at_app hA hn
  obtain ⟨q1, q2⟩ := h T n a1 n1
  refine ⟨q1, ?_⟩
  show pRow T n k (pRows T n k (pHead T n (0, 0, -1, D0))) = _
  rw [q2, rd_row a2 n2 hc h0 hl, e]
theorem rdF_0 (h : rdR D0 H H t D) : rdF D0 H 0 t D := fun T n hA hn => by
  obtain ⟨q1, q2⟩ := h T n hA hn
  refine ⟨q1, ?_⟩
  unfold rF
  rw [q2]
theorem rdF_s {h9 f : Int} (h : rdF D0 H k t D) (hk : k < 802) (hh : 0 ≤ h9 ∧ h9 ≤ 23) (hf : 0 ≤ f ∧ f ≤ 9) : rdF D0 H (k + 1) (t ++ tFog h9 f) (zp D (6 + h9) f) := fun T n hA hn => by
  obtain ⟨a1, n1, a2, n2, e⟩ := at_app hA hn
  obtain ⟨q1, q2⟩ := h T n a1 n1
  obtain ⟨i1, e1⟩ := rd_fog (D := D) a2 n2 hh hf
  refine ⟨q1, ?_⟩
  rw [q2, pLoop_go rfl i1 hk, e1, e]
theorem rdL_0 (h : rdF D0 H k t D) : rdL D0 H 0 t D := fun T n hA hn h1 => by
  obtain ⟨q1, q2⟩ := h T n hA hn
  refine ⟨q1, ?_⟩
  unfold rL
  rw [q2, pLoop_no (x := ((t.length : Int), 0, -1, D)) h1]
theorem rdL_s {u v b i f : Int} (h : rdL D0 H k t D) (hk : k < 802) (hu : 0 ≤ u ∧ u < D 0) (hv : 0 ≤ v ∧ v < D 1) (h12 : D 0 ≤ 12 ∧ D 1 ≤ 12) (hc1 : D (30 + 12 * v + u) ≠ 1) (hc2 : sLOn D u v < 0) (hb : 0 ≤ b ∧ b ≤ 9) (hi : i = 0 ∨ i = 1) (hf : f = -1 ∨ (0 ≤ f ∧ f < D 4)) (h8 : D 4 < 8) : rdL D0 H (k + 1) (t ++ tLight u v b i f) (addL D u v b i f) := fun T n hA hn _ => by
  obtain ⟨a1, n1, a2, n2, e⟩ := at_app hA hn
  obtain ⟨i1, e1⟩ := rd_light (D := D) a2 n2 hu hv h12 hc1 hc2 hb hi hf h8
  obtain ⟨q1, q2⟩ := h T n a1 n1 (fun hh => by
    have h3 : tW T n t.length = 6559778 := i1.2
    rw [hh.2] at h3
    exact absurd h3 (by decide))
  refine ⟨q1, ?_⟩
  rw [q2, pLoop_go rfl i1 hk, e1, e]
theorem rdW_0 (h : rdL D0 H k t D) : rdW D0 H 0 t D := fun T n hA hn h1 h2 => by
  obtain ⟨q1, q2⟩ := h T n hA hn h1
  refine ⟨q1, ?_⟩
  unfold rW
  rw [q2, pLoop_no (x := ((t.length : Int), 0, -1, D)) h2]
theorem rdW_s {u v : Int} (h : rdW D0 H k t D) (hk : k < 802) (hu : 0 ≤ u ∧ u < D 0) (hv : 0 ≤ v ∧ v < D 1) (h12 : D 0 ≤ 12 ∧ D 1 ≤ 12) (hc1 : D (30 + 12 * v + u) ≠ 1) (hc2 : D (30 + 12 * v + u) ≠ 2) (h6 : D 5 < 6) : rdW D0 H (k + 1) (t ++ tWalk u v) (sAddW D u v) := fun T n hA hn _ _ => by
  obtain ⟨a1, n1, a2, n2, e⟩ := at_app hA hn
  obtain ⟨i1, e1⟩ := rd_walk (D := D) a2 n2 hu hv h12 hc1 hc2 h6
  obtain ⟨q1, q2⟩ := h T n a1 n1 (fun hh => by
    have h3 : tW T n t.length = 5837583086019 := i1.2
    rw [hh.2] at h3
    exact absurd h3 (by decide)) (fun hh => by
    have h3 : tW T n t.length = 5837583086019 := i1.2
    rw [hh.2] at h3
    exact absurd h3 (by decide))
  refine ⟨q1, ?_⟩
  rw [q2, pLoop_go rfl i1 hk, e1, e]
/-- read to its end -/
theorem rdW_end (h : rdW D0 H k t D) (hA : At T 0 t) : pText T t.length (0, 0, -1, D0) = ((t.length : Int), 0, -1, D) := by
  obtain ⟨eB, eK⟩ := tk_end (T := T) (n := (t.length : Int))
  obtain ⟨q1, q2⟩ := h T t.length hA (Int.le_refl _) (fun hh => by
    rw [eK] at hh
    exact absurd hh.1 (by decide)) (fun hh => by
    rw [eK] at hh
    exact absurd hh.1 (by decide))
  rw [pLoop_no (x := ((t.length : Int), 0, -1, D)) (fun hh => by
    dsimp only at hh
    rw [eK] at hh
    exact absurd hh.1 (by decide))] at q2
  unfold pText
  dsimp only
  rw [q1]
  unfold rW rL rF at q2
  rw [q2]
  exact if_neg (fun hh => hh.2 eK)
end F2
