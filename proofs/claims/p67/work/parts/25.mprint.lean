/-! The reference model: the text, printing, the share (printed by wip/whole/src25.py). -/
/-- a memory with one row and one of the model's fields changed -/
def zTw (G : GM) (r : Nat) (T : Int → Int) (j v : Int) : GM := zk (zk G r T) 230 (zp (G 230) j v)
section TW
variable {G : GM} {r : Nat} {T T' : Int → Int} {j v v' : Int}
theorem zTw_r (h : r ≠ 230) : zTw G r T j v r = T := by
  unfold zTw
  rw [zk_ne h, zk_eq]
theorem zTw_230 : zTw G r T j v 230 = zp (G 230) j v := zk_eq _ _ _
theorem zTw_j : zTw G r T j v 230 j = v := by rw [zTw_230, zp_eq]
theorem zTw_o {k : Nat} (h0 : k ≠ 230) (h : k ≠ r) : zTw G r T j v k = G k := by
  unfold zTw
  rw [zk_ne h0, zk_ne h]
theorem zTw_wr (h : r ≠ 230) : zk (zTw G r T j v) r T' = zTw G r T' j v := by
  unfold zTw
  rw [zk_sw h.symm, zk_zk]
theorem zTw_wj : zk (zTw G r T j v) 230 (zp (zTw G r T j v 230) j v') = zTw G r T j v' := by
  rw [zTw_230, zp_zp]
  unfold zTw
  rw [zk_zk]
end TW
def q_errorOffset (e : Int) : Int × Int := if e < 0 then (1, 0) else (0, e)
def q_shorten (n c : Int) : Int × Int := if 0 ≤ c ∧ c ≤ n then (0, c) else (1, 0)
def q_append (n : Int) : Int × Int := if 800 < n + 20 then (1, 0) else (0, n + 20)
def q_printedByte (O : Int → Int) (n c : Int) : Int × Int := if 0 ≤ c ∧ c ≤ n - 1 then (0, O c) else (1, 0)
theorem zf_share : ∀ c, c < 7 → ∀ k, k < 7 → k ≠ 0 → FP.fdiv (FP.i2f (zi ((c : Nat) : Int))) (FP.i2f (zi ((k : Nat) : Int))) &&& 0x7fffffff ≤ 0x7f800000 := by decide +kernel
def sShare (s : Int → Int) : UInt32 := if s 5 = 0 then FP.fconst0 else FP.fdiv (FP.i2f (zi (sCount s 1))) (FP.i2f (zi (s 5)))
