/-! new T[n][m]. -/
section WMN
variable {p : Program} {l : Launch} {e : Env} {R : Room} {s : State} {m' : MethodId} {args : Array Value} {below : List Frame} {meth : Method} {c : Code} {H : Heap} {locs : List Loc} {cells slots : Nat} {Q : State → Prop}
variable {cc : ByteArray} {pc : Nat} {ls : Array Slot} {rest : List Value} {D : va_G} {cl : List vw_C} {A : Nat → Prop} {tys : List (ClassId × FieldType)} {ws : va_W} {H0 : Heap}
theorem w_mna {own : String} {index n m : Nat} {ty : FieldType} {cy : ClassId} (hx : p.tables.exec = Jvm.exec) (hb : c.code = cc) (hown : s.vm.findClass own = some m'.cls) (hcl : (Cond.classLink own index ("[" ++ (FieldType.array ty).toString)).before args s = true) (hov : w_AOA ty s) (harr : (Cond.arrayClass ty).before args s = true) (hcy : s.vm.findClass ("[" ++ ty.toString) = some cy)
    (hK : va_K D cl tys s) (hP : va_P D cl ws H) (hD : va_D A ws) (hS : va_S A H0 H locs) (hA : ∀ q, H0.size ≤ q → A q) (hty : ty = .int ∨ ty = .char ∨ ty = .boolean) (hn : n ≤ 1000) (hm : m ≤ 1000) (hcells : cells + (1 + n) ≤ R.cells) (hslots : slots + (n + n * m) ≤ R.slots) (hdg : decode cc pc = .ok (.multianewarray index 2, 4))
    (kk : ∀ (q : Nat) (r : Nat → Nat) (cB : ClassId) (H1 : Heap), va_K D cl (tys ++ [(cB, .array ty)]) s →
      va_P D cl ((ws ++ [(q, (.inl (cB, n, .inr (.inr (.inr (.inr (fun i => if i < n then some (r i) else none))))) : va_E))]) ++ (List.range n).map (fun i => (r i, (.inl (cy, m, .inl fun _ => 0) : va_E)))) H1 → va_D A ((ws ++ [(q, (.inl (cB, n, .inr (.inr (.inr (.inr (fun i => if i < n then some (r i) else none))))) : va_E))]) ++ (List.range n).map (fun i => (r i, (.inl (cy, m, .inl fun _ => 0) : va_E)))) → va_S A H0 H1 locs →
      W p l e R s m' args below meth c H1 locs (cells + 1 + n) (slots + n + n * m) Q (F0 m' (pc + 4) ls (.ref q :: rest))) : W p l e R s m' args below meth c H locs cells slots Q (F0 m' pc ls (.int (zi (m : Int)) :: .int (zi (n : Int)) :: rest)) := by
  have hn0 : ∀ a : Nat, a ≤ 1000 → ¬ zi (a : Int) < 0 := fun a ha hz => by
    have h9 := (zi_lt (a := (a : Int)) (b := 0) ⟨by omega, by omega⟩ zr0).mp (by rw [zi_k0]; exact hz)
    omega
  have hN : ∀ a : Nat, a ≤ 1000 → (zi (a : Int)).toNatClampNeg = a := fun a ha => by
    rw [zi_n ⟨by omega, by omega⟩]
    exact Int.toNat_natCast a
  have hd : defaultValue ty = .int 0 := by rcases hty with rfl | rfl | rfl <;> rfl
  have hc8 : componentBytes ty ≤ 8 := by rcases hty with rfl | rfl | rfl <;> decide
  have hz : ∀ c : ClassId, Jvm.Free.Multi.innerC c m (defaultValue ty) = vp_cell c (m, .inl fun _ => 0) := fun c => by
    rw [hd]
    show ({ cls := c, slots := Array.replicate m (.int 0), vm := .none } : Cell) = _
    rw [arrV_new]
    rfl
  have e0 : ws ++ va_pl [] (fun _ => (.inl (0, 0, .inl fun _ => 0) : va_E)) = ws := List.append_nil ws
  refine va_mna (X := ws) (L := []) (f := fun _ => (.inl (0, 0, .inl fun _ => 0) : va_E)) (z := (m, .inl fun _ => 0)) (N' := n) (K' := m) hx hb hown hcl hov harr hcy hK (by rw [e0]; exact hP) (by rw [e0]; exact hD) hS hA (hn0 n hn) (hn0 m hm) (hN n hn) (hN m hm) (by omega) (Nat.le_trans (Nat.mul_le_mul_left m hc8) (by omega)) (by omega) (by rw [hd]; rcases hty with rfl | rfl | rfl <;> rfl) (by rw [hd]; rfl) hcells hslots hz hdg (fun q r cB H1 hinj hno hK1 hP1 hD1 hS1 => ?_)
  have e1 : va_pl ([] ++ (List.range n).map r) (vr_up (fun _ => (.inl (0, 0, .inl fun _ => 0) : va_E)) ((List.range n).map r) (.inl (cy, (m, .inl fun _ => 0)))) = (List.range n).map (fun i => (r i, (.inl (cy, m, .inl fun _ => 0) : va_E))) := by
    rw [← vr_rows (fun a _ => List.not_mem_nil)]
    show [] ++ ((List.range n).map r).map (fun a => (a, (.inl (cy, (m, .inl fun _ => 0)) : va_E))) = _
    rw [List.nil_append, List.map_map]
    rfl
  rw [e1] at hP1 hD1
  exact kk q r cB H1 hK1 hP1 hD1 hS1
end WMN
