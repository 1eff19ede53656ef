/-! WHAT EACH CALL ANSWERS, of any ints -/
theorem rt_ix_is {x : Int32} {n : Nat} (hn : n < 2 ^ 31) (h : (rt_ix x n).isSome = true) : ∃ t : Nat, t < n ∧ x = nI t := by
  rcases pk_ix x hn with q | q | q
  · rw [rt_ix_none (Or.inl q)] at h; cases h
  · rw [rt_ix_none (Or.inr q)] at h; cases h
  · exact q
theorem rt_ix_no {x : Int32} {n : Nat} (h : (rt_ix x n).isSome = false) : rt_ix x n = none := by
  cases hx : rt_ix x n with
  | none => rfl
  | some t => rw [hx] at h; cases h
theorem rt_opx_is {Q : Nat → Nat} {n : Nat} {x : Int32} (hn : 12 * n < 2 ^ 31) (h : rt_opx Q n x = true) : ∃ r : Nat, r < 12 * n ∧ x = nI r ∧ rt_op Q n r = true := by
  rcases pk_ix x hn with q | q | ⟨r, hr, rfl⟩
  · rw [rt_opx_n (Or.inl q)] at h; cases h
  · rw [rt_opx_n (Or.inr q)] at h; cases h
  · exact ⟨r, hr, rfl, by rw [← rt_opx_s hn hr]; exact h⟩
def rt_at (Q : Nat → Nat) (n : Nat) (x y : Int32) : Int32 := match rt_ix x n, rt_ix y 7 with
  | some t, some 0 => nI (rt_kb Q t 6)
  | some t, some (k + 1) => nI (Q (6 * t + k))
  | _, _ => -1
theorem rt_at_n {Q : Nat → Nat} {n : Nat} {x y : Int32} (h : rt_ix x n = none ∨ rt_ix y 7 = none) : rt_at Q n x y = -1 := by
  unfold rt_at
  rcases h with h | h
  · rw [h]
  · rw [h]
    cases rt_ix x n <;> rfl
theorem rt_at_0 {Q : Nat → Nat} {n t : Nat} (hn : n < 2 ^ 31) (ht : t < n) : rt_at Q n (nI t) (nI 0) = nI (rt_kb Q t 6) := by
  unfold rt_at
  rw [rt_ix_some hn ht, rt_ix_some (by decide) (by decide)]
theorem rt_at_s {Q : Nat → Nat} {n t k : Nat} (hn : n < 2 ^ 31) (ht : t < n) (hk : k < 6) : rt_at Q n (nI t) (nI (k + 1)) = nI (Q (6 * t + k)) := by
  unfold rt_at
  rw [rt_ix_some hn ht, rt_ix_some (by decide) (by omega)]
def rt_next (Q : Nat → Nat) (w h : Nat) (x k : Int32) : Int32 := if rt_opx Q (w * h) x = true then rt_o (rt_kth (rt_nx Q w h x.toNatClampNeg) k) else -1
theorem rt_next_n {Q : Nat → Nat} {w h : Nat} {x k : Int32} (ho : rt_opx Q (w * h) x = false) : rt_next Q w h x k = -1 := if_neg (by rw [ho]; simp)
theorem rt_next_s {Q : Nat → Nat} {w h r : Nat} {k : Int32} (hn : 12 * (w * h) < 2 ^ 31) (ho : rt_op Q (w * h) r = true) : rt_next Q w h (nI r) k = rt_o (rt_kth (rt_nx Q w h r) k) := by
  have hr := rt_op_lt ho
  unfold rt_next
  rw [rt_opx_s hn hr, if_pos ho, nI_clamp (by omega)]
def rt_before (Q : Nat → Nat) (w h : Nat) (x : Int32) : Int32 := if rt_opx Q (w * h) x = true then rt_o (rt_bf Q w h x.toNatClampNeg) else -1
theorem rt_before_n {Q : Nat → Nat} {w h : Nat} {x : Int32} (ho : rt_opx Q (w * h) x = false) : rt_before Q w h x = -1 := if_neg (by rw [ho]; simp)
theorem rt_before_s {Q : Nat → Nat} {w h r : Nat} (hn : 12 * (w * h) < 2 ^ 31) (ho : rt_op Q (w * h) r = true) : rt_before Q w h (nI r) = rt_o (rt_bf Q w h r) := by
  have hr := rt_op_lt ho
  unfold rt_before
  rw [rt_opx_s hn hr, if_pos ho, nI_clamp (by omega)]
/-- the block's answer, by a block function -/
def rt_blk (Q : Nat → Nat) (n : Nat) (B : Nat → Nat) (x y : Int32) : Int32 := match rt_ix x n, rt_ix y 6 with
  | some t, some k => rt_o (if Q (6 * t + k) ≠ 0 then some (B (6 * t + k)) else none)
  | _, _ => -1
theorem rt_blk_n {Q : Nat → Nat} {n : Nat} {B : Nat → Nat} {x y : Int32} (h : rt_ix x n = none ∨ rt_ix y 6 = none) : rt_blk Q n B x y = -1 := by
  unfold rt_blk
  rcases h with h | h
  · rw [h]
  · rw [h]
    cases rt_ix x n <;> rfl
theorem rt_blk_s {Q : Nat → Nat} {n t k : Nat} {B : Nat → Nat} (hn : n < 2 ^ 31) (ht : t < n) (hk : k < 6) : rt_blk Q n B (nI t) (nI k) = rt_o (if Q (6 * t + k) ≠ 0 then some (B (6 * t + k)) else none) := by
  unfold rt_blk
  rw [rt_ix_some hn ht, rt_ix_some (by decide) hk]
def rt_sign (Q : Nat → Nat) (n : Nat) (x : Int32) : Int32 := match rt_ix x 8 with
  | none => -1
  | some z => rt_o (rt_sgn Q (6 * n) z)
theorem rt_sign_n {Q : Nat → Nat} {n : Nat} {x : Int32} (h : rt_ix x 8 = none) : rt_sign Q n x = -1 := by
  unfold rt_sign
  rw [h]
theorem rt_sign_s {Q : Nat → Nat} {n z : Nat} (hz : z < 8) : rt_sign Q n (nI z) = rt_o (rt_sgn Q (6 * n) z) := by
  unfold rt_sign
  rw [rt_ix_some (by decide) hz]
def rt_isT (Q : Nat → Nat) (w h : Nat) (x y : Int32) : Bool := match rt_ix y 8 with
  | none => false
  | some z => rt_opx Q (w * h) x && rt_la Q w h z x.toNatClampNeg
theorem rt_isT_n {Q : Nat → Nat} {w h : Nat} {x y : Int32} (hy : rt_ix y 8 = none ∨ rt_opx Q (w * h) x = false) : rt_isT Q w h x y = false := by
  unfold rt_isT
  rcases hy with hy | hy
  · rw [hy]
  · rw [hy]
    cases rt_ix y 8 <;> rfl
theorem rt_isT_s {Q : Nat → Nat} {w h r z : Nat} (hn : 12 * (w * h) < 2 ^ 31) (hr : r < 12 * (w * h)) (hz : z < 8) : rt_isT Q w h (nI r) (nI z) = (rt_op Q (w * h) r && rt_la Q w h z r) := by
  unfold rt_isT
  rw [rt_ix_some (by decide) hz, rt_opx_s hn hr, nI_clamp (by omega)]
/-- whether a cost is asked of an open run and a station -/
def rt_cq (Q : Nat → Nat) (n : Nat) (x y : Int32) : Bool := (rt_ix y 8).isSome && rt_opx Q n x
/-- the cost's answer, by a cost function -/
def rt_cost (K : Nat → Option Nat) (x : Int32) : Int32 := rt_o (K x.toNatClampNeg)
/-- the route's answer, by a cost function -/
def rt_route (Q : Nat → Nat) (w h : Nat) (K : Nat → Option Nat) (x k : Int32) : Int32 := if K x.toNatClampNeg = none ∨ K x.toNatClampNeg = some 0 ∨ k < 0 then -1 else rt_o (rt_rt Q w h K k.toNatClampNeg x.toNatClampNeg)
/-- the counts but that of blocks -/
def rt_count (Q : Nat → Nat) (n : Nat) (x : Int32) : Int32 := match rt_ix x 3 with
  | some 0 => nI ((List.range (6 * n)).countP (fun q => decide (Q q &&& 1 ≠ 0)))
  | some 1 => nI ((List.range (6 * n)).countP (fun q => decide (Q q &&& 28 ≠ 0)))
  | some 2 => nI ((List.range (6 * n)).countP (fun q => decide (Q q &&& 480 ≠ 0)))
  | _ => -1
theorem rt_count_n {Q : Nat → Nat} {n : Nat} {x : Int32} (h : rt_ix x 3 = none) : rt_count Q n x = -1 := by
  unfold rt_count
  rw [h]
theorem rt_pxb_n {Q : Nat → Nat} {w h r i : Nat} {K : Nat → Option Nat} (ho : rt_one Q (w * h) (rt_ah w h r i) = []) : rt_px Q w h r (i + 1) = rt_px Q w h r i := by rw [rt_px_succ, ho, List.append_nil]
theorem rt_one_n {Q : Nat → Nat} {n : Nat} : rt_one Q n none = [] := rfl
theorem rt_one_f {Q : Nat → Nat} {n b : Nat} (h : rt_op Q n b = false) : rt_one Q n (some b) = [] := by
  unfold rt_one
  dsimp only
  rw [if_neg (by rw [h]; simp)]
theorem rt_one_t {Q : Nat → Nat} {n b : Nat} (h : rt_op Q n b = true) : rt_one Q n (some b) = [b] := by
  unfold rt_one
  dsimp only
  rw [if_pos h]
theorem rt_pxb_s {Q : Nat → Nat} {w h r i b : Nat} {K : Nat → Option Nat} (ha : rt_ah w h r i = some b) (ho : rt_op Q (w * h) b = true) : rt_best K (rt_px Q w h r (i + 1)) = rt_bs K (rt_best K (rt_px Q w h r i)) b := by rw [rt_px_succ, ha, rt_one_t ho, rt_best_app]
theorem rt_best_lt {Q : Nat → Nat} {w h r i b : Nat} {K : Nat → Option Nat} (hb : rt_best K (rt_px Q w h r i) = some b) : b < 12 * (w * h) := by
  have h1 := rt_best_in K (rt_px Q w h r i)
  rw [hb] at h1
  obtain ⟨j, -, -, ho⟩ := rt_mem_px.mp h1.1
  exact rt_op_lt ho
-- the k-th, while the list grows
theorem rt_kth_hit {l l2 : List Nat} {b : Nat} {k : Int32} (h : nI l.length = k) (hl : l.length < 2 ^ 31) : rt_kth (l ++ b :: l2) k = some b := by
  subst h
  rw [rt_kth_nI _ hl]
  simp
theorem rt_kth_none {l : List Nat} {k : Int32} (hl : l.length < 2 ^ 31) (h : ∀ j, j < l.length → nI j ≠ k) : rt_kth l k = none := by
  unfold rt_kth
  split
  · rfl
  · next hk =>
    rw [List.getElem?_eq_none_iff]
    rcases Nat.lt_or_ge k.toNatClampNeg l.length with q | q
    · obtain ⟨j, hj, rfl⟩ := nI_of hk
      rw [nI_clamp hj] at q
      exact absurd rfl (h j q)
    · exact q
theorem rt_px_len (Q : Nat → Nat) (w h r : Nat) : ∀ i, (rt_px Q w h r i).length ≤ i := by
  intro i
  unfold rt_px
  have := List.length_filterMap_le (fun i => (rt_ah w h r i).filter (rt_op Q (w * h))) (List.range i)
  rwa [List.length_range] at this
theorem rt_px_pre {Q : Nat → Nat} {w h r i b : Nat} (hi : i < 3) (ha : rt_ah w h r i = some b) (ho : rt_op Q (w * h) b = true) : ∃ l2, rt_nx Q w h r = rt_px Q w h r i ++ b :: l2 := by
  have e0 : rt_px Q w h r (i + 1) = rt_px Q w h r i ++ [b] := by rw [rt_px_succ, ha, rt_one_t ho]
  have key : ∀ m, i + 1 ≤ m → ∃ l2, rt_px Q w h r m = rt_px Q w h r i ++ b :: l2 := by
    intro m
    induction m with
    | zero => intro q; omega
    | succ m ih =>
      intro q
      rcases Nat.lt_or_ge i m with z | z
      · obtain ⟨l2, e⟩ := ih z
        exact ⟨l2 ++ rt_one Q (w * h) (rt_ah w h r m), by rw [rt_px_succ, e]; simp⟩
      · rw [show m = i by omega]
        exact ⟨[], e0⟩
  exact key 3 hi
theorem rt_pb_pre {Q : Nat → Nat} {w h r i b : Nat} (hi : i < 3) (hp : rt_pb Q w h r i = []) (ha : rt_bh w h r i = some b) (ho : rt_op Q (w * h) b = true) : rt_bf Q w h r = some b := by
  have e0 : rt_pb Q w h r (i + 1) = [b] := by rw [rt_pb_succ, hp, ha, rt_one_t ho]; rfl
  have key : ∀ m, i + 1 ≤ m → ∃ l2, rt_pb Q w h r m = b :: l2 := by
    intro m
    induction m with
    | zero => intro q; omega
    | succ m ih =>
      intro q
      rcases Nat.lt_or_ge i m with z | z
      · obtain ⟨l2, e⟩ := ih z
        exact ⟨l2 ++ rt_one Q (w * h) (rt_bh w h r m), by rw [rt_pb_succ, e]; simp⟩
      · rw [show m = i by omega]
        exact ⟨[], e0⟩
  obtain ⟨l2, e⟩ := key 3 hi
  unfold rt_bf
  rw [e]
  rfl
theorem rt_gt6 {y : Int32} (h : ¬ y ≤ nI 6) : nI 7 ≤ y := by
  rcases pk_ix y (n := 7) (by decide) with q | q | ⟨j, hj, rfl⟩
  · exact absurd (Int32.le_of_lt (Int32.lt_of_lt_of_le q (by decide))) h
  · exact q
  · exact absurd (nI_le (by omega) (by decide)) h
