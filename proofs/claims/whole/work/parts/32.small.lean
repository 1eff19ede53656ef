/-! SMALL: facts that the walks of the class use -/
theorem rt_upd (Q : Nat → Nat) (k v j : Nat) : upd (fun p => nI (Q p)) k (nI v) j = nI (va_up Q k v j) := by
  unfold upd va_up
  split <;> rfl
theorem rt_ix_t {x : Int32} {n : Nat} (h1 : ¬ x < 0) (h2 : ¬ nI n ≤ x) : rt_b true = rt_b (rt_ix x n).isSome := by
  unfold rt_ix
  rw [if_neg (fun q => q.elim h1 h2)]
  rfl
theorem rt_ix_f {x : Int32} {n : Nat} (h : x < 0 ∨ nI n ≤ x) : rt_b false = rt_b (rt_ix x n).isSome := by
  rw [rt_ix_none h]
  rfl
/-- open, of any int -/
def rt_opx (Q : Nat → Nat) (n : Nat) (x : Int32) : Bool := match rt_ix x (12 * n) with
  | none => false
  | some r => rt_op Q n r
theorem rt_opx_n {Q : Nat → Nat} {n : Nat} {x : Int32} (h : x < 0 ∨ nI (12 * n) ≤ x) : rt_opx Q n x = false := by
  unfold rt_opx
  rw [rt_ix_none h]
theorem rt_opx_s {Q : Nat → Nat} {n r : Nat} (hn : 12 * n < 2 ^ 31) (h : r < 12 * n) : rt_opx Q n (nI r) = rt_op Q n r := by
  unfold rt_opx
  rw [rt_ix_some hn h]
theorem rt_opx_o {Q : Nat → Nat} {n : Nat} {o : Option Nat} (hn : 12 * n < 2 ^ 31) (h : ∀ r, o = some r → r < 12 * n) : rt_opx Q n (rt_o o) = match o with
    | none => false
    | some r => rt_op Q n r := by
  cases o with
  | none => exact rt_opx_n (Or.inl (by decide))
  | some r => exact rt_opx_s hn (h r rfl)
/-- a tile's pieces as bits -/
def rt_kb (Q : Nat → Nat) (t : Nat) : Nat → Nat
  | 0 => 0
  | i + 1 => if Q (6 * t + i) ≠ 0 then rt_kb Q t i ||| 2 ^ i else rt_kb Q t i
theorem rt_kb_t {Q : Nat → Nat} {t i : Nat} (h : Q (6 * t + i) ≠ 0) : rt_kb Q t (i + 1) = rt_kb Q t i ||| 2 ^ i := if_pos h
theorem rt_kb_f {Q : Nat → Nat} {t i : Nat} (h : ¬ Q (6 * t + i) ≠ 0) : rt_kb Q t (i + 1) = rt_kb Q t i := if_neg h
theorem rt_p6 : ∀ i, i < 6 → 1 * 2 ^ i < 2 ^ 32 := by decide +kernel
theorem rt_st_eq {v z : Nat} (hv : v ≤ 8) (hz : z < 8) (h : nI v - 1 = nI z) : v = z + 1 := by
  have h1 : nI v = nI (z + 1) := by
    rw [← nI_1, ← h]
    simp
  exact (nI_eq (by omega) (by omega)).mp h1
theorem rt_st_mk {v z : Nat} (h : v = z + 1) : nI v - 1 = nI z := by rw [h]; exact nI_pred z
/-- an open run of a station that goes on to none of it -/
def rt_la (Q : Nat → Nat) (w h z r : Nat) : Bool := decide (rt_s Q (r / 2) = z + 1) && (rt_nx Q w h r).all (fun f => decide (rt_s Q (f / 2) ≠ z + 1))
theorem rt_la_f {Q : Nat → Nat} {w h z r : Nat} (h1 : ¬ rt_s Q (r / 2) = z + 1) : rt_la Q w h z r = false := by
  unfold rt_la
  rw [decide_eq_false h1]
  rfl
theorem rt_la_n {Q : Nat → Nat} {w h z r f : Nat} (h1 : f ∈ rt_nx Q w h r) (h2 : rt_s Q (f / 2) = z + 1) : rt_la Q w h z r = false := by
  unfold rt_la
  rw [Bool.and_eq_false_iff]
  refine Or.inr ?_
  rw [List.all_eq_false]
  exact ⟨f, h1, by simp [h2]⟩
theorem rt_la_t {Q : Nat → Nat} {w h z r : Nat} (h1 : rt_s Q (r / 2) = z + 1) (h2 : ∀ f, f ∈ rt_nx Q w h r → rt_s Q (f / 2) ≠ z + 1) : rt_la Q w h z r = true := by
  unfold rt_la
  rw [Bool.and_eq_true, List.all_eq_true]
  exact ⟨decide_eq_true h1, fun f hf => decide_eq_true (h2 f hf)⟩
theorem rt_la_tg (Q : Nat → Nat) (w h z r : Nat) : rt_tg Q w h z r = (rt_op Q (w * h) r && rt_la Q w h z r) := by
  unfold rt_tg rt_la
  rw [Bool.and_assoc]
theorem rt_la_s {Q : Nat → Nat} {n z a : Nat} {l : List Nat} (h1 : ∀ f, f ∈ l → rt_s Q (f / 2) ≠ z + 1) (h2 : rt_op Q n a = true → rt_s Q (a / 2) ≠ z + 1) : ∀ f, f ∈ l ++ rt_one Q n (some a) → rt_s Q (f / 2) ≠ z + 1 := by
  intro f hf
  rcases List.mem_append.mp hf with hf | hf
  · exact h1 f hf
  · unfold rt_one at hf
    dsimp only at hf
    split at hf
    · next ho => rw [List.mem_singleton] at hf; rw [hf]; exact h2 ho
    · cases hf
