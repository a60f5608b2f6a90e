/-! new T[n][m] (its proof is put in at the end: it needs the whole library). -/
section WMN
variable {p : Program} {l : Launch} {e : Env} {R : Room} {s : State} {m' : MethodId} {args : Array Value} {below : List Frame} {meth : Method} {c : Code} {H : Heap} {locs : List Loc} {cells slots : Nat} {Q : State → Prop}
variable {cc : ByteArray} {pc : Nat} {ls : Array Slot} {rest : List Value} {D : va_G} {cl : List vw_C} {A : Nat → Prop} {tys : List (ClassId × FieldType)} {ws : va_W} {H0 : Heap}
theorem w_mna {own : String} {index n m : Nat} {ty : FieldType} {cy : ClassId} (hx : p.tables.exec = Jvm.exec) (hb : c.code = cc) (hown : s.vm.findClass own = some m'.cls) (hcl : (Cond.classLink own index ("[" ++ (FieldType.array ty).toString)).before args s = true) (hov : w_AOA ty s) (harr : (Cond.arrayClass ty).before args s = true) (hcy : s.vm.findClass ("[" ++ ty.toString) = some cy)
    (hK : va_K D cl tys s) (hP : va_P D cl ws H) (hD : va_D A ws) (hS : va_S A H0 H locs) (hA : ∀ q, H0.size ≤ q → A q) (hty : ty = .int ∨ ty = .char ∨ ty = .boolean) (hn : n ≤ 1000) (hm : m ≤ 1000) (hcells : cells + (1 + n) ≤ R.cells) (hslots : slots + (n + n * m) ≤ R.slots) (hdg : decode cc pc = .ok (.multianewarray index 2, 4))
    (kk : ∀ (q : Nat) (r : Nat → Nat) (cB : ClassId) (H1 : Heap), va_K D cl (tys ++ [(cB, .array ty)]) s →
      va_P D cl ((ws ++ [(q, (.inl (cB, n, .inr (.inr (.inr (.inr (fun i => if i < n then some (r i) else none))))) : va_E))]) ++ (List.range n).map (fun i => (r i, (.inl (cy, m, .inl fun _ => 0) : va_E)))) H1 → va_D A ((ws ++ [(q, (.inl (cB, n, .inr (.inr (.inr (.inr (fun i => if i < n then some (r i) else none))))) : va_E))]) ++ (List.range n).map (fun i => (r i, (.inl (cy, m, .inl fun _ => 0) : va_E)))) → va_S A H0 H1 locs →
      W p l e R s m' args below meth c H1 locs (cells + 1 + n) (slots + n + n * m) Q (F0 m' (pc + 4) ls (.ref q :: rest))) : W p l e R s m' args below meth c H locs cells slots Q (F0 m' pc ls (.int (zi (m : Int)) :: .int (zi (n : Int)) :: rest)) := by
  sorry
end WMN
