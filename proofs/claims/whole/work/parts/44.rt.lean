/-! SMALL: the route, step by step; the counts -/
theorem rt_rt_stop {Q : Nat → Nat} {w h : Nat} {K : Nat → Option Nat} {v b m : Nat} (hb : rt_best K (rt_nx Q w h v) = some b) (hs : rt_hs Q b = true ∨ K b = some 0) : rt_rt Q w h K (m + 1) v = none := by
  show (match rt_best K (rt_nx Q w h v) with
    | none => none
    | some f => if (rt_hs Q f || decide (K f = some 0)) = true then none else rt_rt Q w h K m f) = none
  rw [hb]
  dsimp only
  rw [if_pos]
  rcases hs with q | q
  · rw [q]; rfl
  · rw [q]; simp
theorem rt_rt_go {Q : Nat → Nat} {w h : Nat} {K : Nat → Option Nat} {v b m : Nat} (hb : rt_best K (rt_nx Q w h v) = some b) (h1 : rt_hs Q b = false) (h2 : K b ≠ some 0) : rt_rt Q w h K (m + 1) v = rt_rt Q w h K m b := by
  show (match rt_best K (rt_nx Q w h v) with
    | none => none
    | some f => if (rt_hs Q f || decide (K f = some 0)) = true then none else rt_rt Q w h K m f) = _
  rw [hb]
  dsimp only
  rw [if_neg]
  rw [h1]
  simp [h2]
theorem rt_route_hit {Q : Nat → Nat} {w h : Nat} {K : Nat → Option Nat} {r q i : Nat} (hr : r < 2 ^ 31) (hq : K r = some q) (h0 : q ≠ 0) (hi : i < 2 ^ 31) : rt_route Q w h K (nI r) (nI i) = rt_o (rt_rt Q w h K i r) := by
  unfold rt_route
  rw [nI_clamp hr, nI_clamp hi, if_neg]
  rintro (e | e | e)
  · rw [hq] at e; cases e
  · rw [hq] at e; cases e; exact h0 rfl
  · exact nI_pos hi e
theorem rt_route_none {Q : Nat → Nat} {w h : Nat} {K : Nat → Option Nat} {r : Nat} {k : Int32} (hr : r < 2 ^ 31) (hx : ∀ m, m < 2 ^ 31 → k = nI m → rt_rt Q w h K m r = none) : rt_route Q w h K (nI r) k = -1 := by
  unfold rt_route
  rw [nI_clamp hr]
  split
  · rfl
  · next hn =>
    obtain ⟨m, hm, rfl⟩ := nI_of (fun q => hn (Or.inr (Or.inr q)))
    rw [nI_clamp hm, hx m hm rfl]
    rfl
theorem rt_route_n {Q : Nat → Nat} {w h : Nat} {K : Nat → Option Nat} {r : Nat} {k : Int32} (hr : r < 2 ^ 31) (hx : K r = none ∨ K r = some 0) : rt_route Q w h K (nI r) k = -1 := by
  unfold rt_route
  rw [nI_clamp hr, if_pos]
  rcases hx with q | q
  · exact Or.inl q
  · exact Or.inr (Or.inl q)
/-- on the route at v after i steps, all indices under i asked and not meant -/
def rt_ro (Q : Nat → Nat) (w h : Nat) (K : Nat → Option Nat) (r : Nat) (k : Int32) (i v c : Nat) : Prop := K v = some c ∧ c ≠ 0 ∧ rt_rk K (12 * (w * h)) c + i ≤ 12 * (w * h) ∧ (∀ m, rt_rt Q w h K (i + m) r = rt_rt Q w h K m v) ∧ ∀ j, j < i → nI j ≠ k
theorem rt_ro_stop {Q : Nat → Nat} {w h : Nat} {K : Nat → Option Nat} {r : Nat} {k : Int32} {i v c b : Nat} (I : rt_ro Q w h K r k i v c) (hr : r < 2 ^ 31) (hk : ¬ nI i = k) (hb : rt_best K (rt_nx Q w h v) = some b) (hs : rt_hs Q b = true ∨ K b = some 0) : rt_route Q w h K (nI r) k = -1 := by
  refine rt_route_none hr (fun m hm e => ?_)
  rcases Nat.lt_or_ge i m with q | q
  · obtain ⟨j, rfl⟩ : ∃ j, m = i + (j + 1) := ⟨m - i - 1, by omega⟩
    rw [I.2.2.2.1]
    exact rt_rt_stop hb hs
  · rcases Nat.lt_or_ge m i with q2 | q2
    · exact absurd e.symm (I.2.2.2.2 m q2)
    · rw [show m = i by omega] at e
      exact absurd e.symm hk
theorem rt_ro_go {Q : Nat → Nat} {w h : Nat} {K : Nat → Option Nat} {r : Nat} {k : Int32} {i v c b c' : Nat} (I : rt_ro Q w h K r k i v c) (hk : ¬ nI i = k) (hb : rt_best K (rt_nx Q w h v) = some b) (hl : b < 12 * (w * h)) (hc : K b = some c') (hlt : c' < c) (h1 : rt_hs Q b = false) (h2 : c' ≠ 0) : rt_ro Q w h K r k (i + 1) b c' := by
  obtain ⟨i1, i2, i3, i4, i5⟩ := I
  refine ⟨hc, h2, by have := rt_rk_lt hl hc hlt; omega, fun m => ?_, fun j hj => ?_⟩
  · rw [show i + 1 + m = i + (m + 1) by omega, i4, rt_rt_go hb h1 (by rw [hc]; intro q; exact h2 (Option.some.inj q))]
  · rcases Nat.lt_or_ge j i with q | q
    · exact i5 j q
    · rw [show j = i by omega]
      exact hk
theorem rt_ro_0 {Q : Nat → Nat} {w h : Nat} {K : Nat → Option Nat} {r : Nat} {k : Int32} {c : Nat} (hc : K r = some c) (h0 : c ≠ 0) : rt_ro Q w h K r k 0 r c := ⟨hc, h0, by have := rt_rk_le K (12 * (w * h)) c; omega, fun m => by rw [Nat.zero_add], fun j hj => absurd hj (Nat.not_lt_zero j)⟩
theorem rt_count_s {Q : Nat → Nat} {n : Nat} : rt_count Q n (nI 0) = nI ((List.range (6 * n)).countP (fun q => decide (Q q &&& 1 ≠ 0))) ∧ rt_count Q n (nI 1) = nI ((List.range (6 * n)).countP (fun q => decide (Q q &&& 28 ≠ 0))) ∧ rt_count Q n (nI 2) = nI ((List.range (6 * n)).countP (fun q => decide (Q q &&& 480 ≠ 0))) := by
  unfold rt_count
  rw [rt_ix_some (by decide) (by decide), rt_ix_some (by decide) (by decide), rt_ix_some (by decide) (by decide)]
  exact ⟨rfl, rfl, rfl⟩
theorem rt_ge3 {x : Int32} (h : x < 0 ∨ nI 4 ≤ x) : ¬ x = nI 3 ∧ rt_ix x 3 = none := by
  refine ⟨?_, rt_ix_none ?_⟩
  · rintro rfl
    revert h
    decide
  · rcases h with q | q
    · exact Or.inl q
    · exact Or.inr (Int32.le_trans (by decide) q)
theorem rt_t4 {x : Int32} (h : x < 0 ∨ nI 4 ≤ x) : x.toInt < 0 ∨ 3 < x.toInt := by
  rcases h with q | q
  · exact Or.inl (by simpa using Int32.lt_iff_toInt_lt.mp q)
  · have := Int32.le_iff_toInt_le.mp q
    rw [nI_toInt (by decide)] at this
    exact Or.inr (by omega)
