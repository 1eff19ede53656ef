/-! SMALL: facts that the walks of the class use -/
theorem rt_upd (Q : Nat → Nat) (k v j : Nat) : upd (fun p => nI (Q p)) k (nI v) j = nI (va_up Q k v j) := by
  unfold upd va_up
  split <;> rfl
theorem rt_ix_t {x : Int32} {n : Nat} (h1 : ¬ x < 0) (h2 : ¬ nI n ≤ x) : rt_b true = rt_b (rt_ix x n).isSome := by
  unfold rt_ix
  rw [if_neg (fun q => q.elim h1 h2)]
  rfl
theorem rt_ix_f {x : Int32} {n : Nat} (h : x < 0 ∨ nI n ≤ x) : rt_b false = rt_b (rt_ix x n).isSome := by
  rw [rt_ix_none h]
  rfl
/-- open, of any int -/
def rt_opx (Q : Nat → Nat) (n : Nat) (x : Int32) : Bool := match rt_ix x (12 * n) with
  | none => false
  | some r => rt_op Q n r
theorem rt_opx_n {Q : Nat → Nat} {n : Nat} {x : Int32} (h : x < 0 ∨ nI (12 * n) ≤ x) : rt_opx Q n x = false := by
  unfold rt_opx
  rw [rt_ix_none h]
theorem rt_opx_s {Q : Nat → Nat} {n r : Nat} (hn : 12 * n < 2 ^ 31) (h : r < 12 * n) : rt_opx Q n (nI r) = rt_op Q n r := by
  unfold rt_opx
  rw [rt_ix_some hn h]
theorem rt_opx_o {Q : Nat → Nat} {n : Nat} {o : Option Nat} (hn : 12 * n < 2 ^ 31) (h : ∀ r, o = some r → r < 12 * n) : rt_opx Q n (rt_o o) = match o with
    | none => false
    | some r => rt_op Q n r := by
  cases o with
  | none => exact rt_opx_n (Or.inl (by decide))
  | some r => exact rt_opx_s hn (h r rfl)
