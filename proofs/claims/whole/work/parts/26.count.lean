/-! PURE: signs, counts, the parts of a piece's number -/
def rt_sgn (Q : Nat → Nat) (N st : Nat) : Option Nat := ((List.range N).find? (fun p => decide (rt_s Q p = st + 1))).map (fun p => p / 6)
theorem rt_sgn_some {Q : Nat → Nat} {N st p : Nat} (hp : p < N) (h1 : rt_s Q p = st + 1) (h2 : ∀ j, j < p → rt_s Q j ≠ st + 1) : rt_sgn Q N st = some (p / 6) := by
  unfold rt_sgn
  rw [List.find?_range_eq_some.mpr ⟨by simpa using h1, List.mem_range.mpr hp, fun j hj => by simpa using h2 j hj⟩]
  rfl
theorem rt_sgn_none {Q : Nat → Nat} {N st : Nat} (h : ∀ j, j < N → rt_s Q j ≠ st + 1) : rt_sgn Q N st = none := by
  unfold rt_sgn
  rw [List.find?_range_eq_none.mpr (fun j hj => by simpa using h j hj)]
  rfl
/-- the lowest tile of a station, found in any order -/
theorem rt_sgn_least {Q : Nat → Nat} {N st t : Nat} (hN : ∀ p, rt_s Q p ≠ 0 → p < N) (h1 : ∃ p, rt_s Q p = st + 1 ∧ p / 6 = t) (h2 : ∀ p, rt_s Q p = st + 1 → t ≤ p / 6) : rt_sgn Q N st = some t := by
  obtain ⟨p, hp, rfl⟩ := h1
  obtain ⟨k, hk, hm⟩ := pk_least (fun q => rt_s Q q = st + 1) ⟨p, hp⟩
  rw [rt_sgn_some (hN k (by rw [hk]; omega)) hk hm]
  congr 1
  have h3 := h2 k hk
  have h4 : k ≤ p := by
    rcases Nat.lt_or_ge p k with z | z
    · exact absurd hp (hm p z)
    · exact z
  have := Nat.div_le_div_right (c := 6) h4
  omega
def rt_cnt (Q : Nat → Nat) (N : Nat) (f : Nat → Bool) : Nat := (List.range N).countP f
theorem rt_cnt_succ (f : Nat → Bool) (i : Nat) : (List.range (i + 1)).countP f = (List.range i).countP f + (if f i = true then 1 else 0) := by
  rw [List.range_succ, List.countP_append]
  simp only [List.countP_cons, List.countP_nil]
  omega
theorem rt_cnt_le (f : Nat → Bool) (i : Nat) : (List.range i).countP f ≤ i := by
  have := List.countP_le_length (l := List.range i) (p := f)
  rwa [List.length_range] at this
-- the parts of a number
theorem rt_and1 : ∀ q, q < 512 → (q &&& 28) / 4 = q / 4 % 8 ∧ (q &&& 480) / 32 = q / 32 % 16 := by decide +kernel
theorem rt_and2 : ∀ q, q < 512 → q % 4 = 1 ∨ q = 0 → ((q &&& 1 = 0 ↔ q = 0) ∧ (q &&& 28 = 0 ↔ q / 4 % 8 = 0) ∧ (q &&& 480 = 0 ↔ q / 32 = 0)) := by decide +kernel
theorem rt_ok_4 {Q : Nat → Nat} {n : Nat} (h : rt_ok Q n) (p : Nat) : Q p % 4 = 1 ∨ Q p = 0 := by
  rcases h.2 p with h | ⟨g, s, h1, h2, h3⟩ <;> omega
theorem rt_ok_put {Q : Nat → Nat} {n p g s : Nat} (h : rt_ok Q n) (hp : p < n) (hg : g ≤ 4) (hs : s ≤ 8) : rt_ok (va_up Q p (1 + 4 * g + 32 * s)) n := by
  refine ⟨fun q hq => ?_, fun q => ?_⟩
  · rw [va_up_ne Q _ (by omega)]
    exact h.1 q hq
  · by_cases e : q = p
    · rw [e, va_up_self]
      exact Or.inr ⟨g, s, hg, hs, rfl⟩
    · rw [va_up_ne Q _ e]
      exact h.2 q
theorem rt_ok_del {Q : Nat → Nat} {n p : Nat} (h : rt_ok Q n) : rt_ok (va_up Q p 0) n := by
  refine ⟨fun q hq => ?_, fun q => ?_⟩
  · by_cases e : q = p
    · rw [e, va_up_self]
    · rw [va_up_ne Q _ e]
      exact h.1 q hq
  · by_cases e : q = p
    · rw [e, va_up_self]
      exact Or.inl rfl
    · rw [va_up_ne Q _ e]
      exact h.2 q
theorem rt_g_put (g s : Nat) (hg : g ≤ 4) : (1 + 4 * g + 32 * s) / 4 % 8 = g ∧ (1 + 4 * g + 32 * s) / 32 = s := by omega
-- an int as an index
def rt_ix (x : Int32) (n : Nat) : Option Nat := if x < 0 ∨ nI n ≤ x then none else some x.toNatClampNeg
theorem rt_ix_some {n j : Nat} (hn : n < 2 ^ 31) (hj : j < n) : rt_ix (nI j) n = some j := by
  unfold rt_ix
  rw [if_neg, nI_clamp (by omega)]
  rintro (h | h)
  · exact nI_pos (by omega) h
  · exact nI_ge hj hn h
theorem rt_ix_none {x : Int32} {n : Nat} (h : x < 0 ∨ nI n ≤ x) : rt_ix x n = none := if_pos h
theorem rt_o_ne (k : Nat) (h : k < 2 ^ 31) : ¬ nI k = -1 := by
  intro q
  have := congrArg Int32.toInt q
  rw [nI_toInt h] at this
  have e : (-1 : Int32).toInt = -1 := by decide
  omega
theorem rt_o_inj {a b : Option Nat} (ha : ∀ k, a = some k → k < 2 ^ 31) (hb : ∀ k, b = some k → k < 2 ^ 31) (h : rt_o a = rt_o b) : a = b := by
  cases a with
  | none =>
    cases b with
    | none => rfl
    | some k => exact absurd h.symm (rt_o_ne k (hb k rfl))
  | some k =>
    cases b with
    | none => exact absurd h (rt_o_ne k (ha k rfl))
    | some j => rw [(nI_eq (ha k rfl) (hb j rfl)).mp h]
