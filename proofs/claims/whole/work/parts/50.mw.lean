/-! THE REFERENCE'S WORLD: nine cells -/
abbrev mw (cI cZ : ClassId) (a : Nat → Nat) (w h : Nat) (tf gf sf lf : Nat → Int32) (cn : Nat) (th : Int32) (kf zf pf : Nat → Int32) : va_W :=
  [(a 0, .inr (4, [.ref (a 1), .int th, .int (nI w), .int (nI h), .ref (a 2), .ref (a 3), .ref (a 4), .ref (a 5), .int (nI cn), .ref (a 6), .ref (a 7), .ref (a 8)])), (a 1, .inl (cI, 12, .inl (fun j => nI (rt_ed j)))), (a 2, .inl (cZ, 2400, .inl tf)), (a 3, .inl (cI, 2400, .inl gf)), (a 4, .inl (cI, 2400, .inl sf)), (a 5, .inl (cI, 2400, .inl lf)), (a 6, .inl (cI, 4800, .inl kf)), (a 7, .inl (cZ, 2400, .inl zf)), (a 8, .inl (cI, 2400, .inl pf))]
def mA (a : Nat → Nat) : Nat → Prop := fun q => ∃ i, i < 9 ∧ q = a i
def mI (a : Nat → Nat) : Prop := ∀ i j, i < 9 → j < 9 → a i = a j → i = j
theorem m_D {a : Nat → Nat} (ha : mI a) (ws : va_W) (hw : ws.map (fun q => q.1) = (List.range 9).map a) : va_D (mA a) ws := by
  have key : ∀ (k : Nat) (q : Nat × va_E), ws[k]? = some q → k < 9 ∧ q.1 = a k := by
    intro k q hk
    have h1 : (ws.map (fun q => q.1))[k]? = some q.1 := by rw [List.getElem?_map, hk]; rfl
    rw [hw, List.getElem?_map] at h1
    cases h2 : (List.range 9)[k]? with
    | none => rw [h2] at h1; cases h1
    | some z =>
      rw [h2] at h1
      obtain ⟨h4, h5⟩ := List.getElem?_eq_some_iff.mp h2
      rw [List.getElem_range] at h5
      rw [List.length_range] at h4
      subst h5
      exact ⟨h4, (Option.some.inj h1).symm⟩
  refine ⟨?_, ?_⟩
  · intro i j p q hi hj e
    obtain ⟨h1, h2⟩ := key i p hi
    obtain ⟨h3, h4⟩ := key j q hj
    exact ha i j h1 h3 (by rw [← h2, ← h4]; exact e)
  · intro k q hk
    obtain ⟨h1, h2⟩ := key k q hk
    exact ⟨k, h1, h2⟩
theorem rt_updb (P : Nat → Bool) (k : Nat) (v : Bool) (j : Nat) : upd (fun p => rt_b (P p)) k (vp_nar .boolean (rt_b v)) j = rt_b (va_up P k v j) := by
  have e : vp_nar .boolean (rt_b v) = rt_b v := by cases v <;> rfl
  rw [e]
  unfold upd va_up
  split <;> rfl
def rt_isP (Q : Nat → Nat) (n : Nat) (x y : Int32) : Bool := match rt_ix x n, rt_ix y 6 with
  | some t, some k => decide (Q (6 * t + k) ≠ 0)
  | _, _ => false
theorem rt_isP_n {Q : Nat → Nat} {n : Nat} {x y : Int32} (h : rt_ix x n = none ∨ rt_ix y 6 = none) : rt_isP Q n x y = false := by
  unfold rt_isP
  rcases h with h | h
  · rw [h]
  · rw [h]
    cases rt_ix x n <;> rfl
theorem rt_isP_s {Q : Nat → Nat} {n t k : Nat} (hn : n < 2 ^ 31) (ht : t < n) (hk : k < 6) : rt_isP Q n (nI t) (nI k) = decide (Q (6 * t + k) ≠ 0) := by
  unfold rt_isP
  rw [rt_ix_some hn ht, rt_ix_some (by decide) hk]
/-- open, as the reference says it -/
theorem rt_op_m {Q : Nat → Nat} {n r : Nat} (hr : r < 12 * n) (hq : Q (r / 2) ≠ 0) : rt_op Q n r = (decide (rt_g Q (r / 2) = 0) || decide (rt_sg Q (r / 2) = r)) := by
  unfold rt_op rt_hs rt_sg
  rw [rt_rv_2, rt_rv_p, decide_eq_true hr, decide_eq_true hq]
  by_cases h0 : rt_g Q (r / 2) = 0
  · simp [h0]
  · have h1 : ((rt_g Q (r / 2) - 1) % 2 = 1 - r % 2) ↔ ¬ (2 * (r / 2) + (rt_g Q (r / 2) - 1) % 2 = r) := by omega
    by_cases h2 : 2 * (r / 2) + (rt_g Q (r / 2) - 1) % 2 = r
    · have h3 : ¬ ((rt_g Q (r / 2) - 1) % 2 = 1 - r % 2) := fun q => h1.mp q h2
      simp [h0, h2, h3]
    · have h3 := h1.mpr h2
      rw [decide_eq_true h3, decide_eq_false h0, decide_eq_false h2, decide_eq_true h0]
      rfl
theorem rt_mf_r {r : Nat} : rt_mf (r % 12) = rt_ed (2 * (r / 2 % 6) + r % 2) := by
  unfold rt_mf
  congr 1
  omega
theorem rt_mt_r {r : Nat} : rt_mt (r % 12) = rt_ed (2 * (r / 2 % 6) + 1 - r % 2) := by
  unfold rt_mt
  congr 1
  omega
