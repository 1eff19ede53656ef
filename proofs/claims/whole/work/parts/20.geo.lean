/-! PURE: the map's geometry, runs, open runs, next runs: one mathematical picture to which both the class and the reference are tied. -/
/-- the tile beyond an edge (0 west, 1 north, 2 east, 3 south) -/
def rt_nb (w h t e : Nat) : Option Nat :=
  if e = 0 then (if t % w = 0 then none else some (t - 1))
  else if e = 1 then (if t / w = 0 then none else some (t - w))
  else if e = 2 then (if t % w + 1 = w then none else some (t + 1))
  else (if t / w + 1 = h then none else some (t + w))
def rt_to (l : Nat) : Nat := [2, 0, 3, 1, 2, 1, 2, 3, 0, 3, 0, 1].getD l 0
def rt_bg (k : Nat) : Nat := [1, 5, 7, 3, 6, 8, 0, 9, 11, 2, 4, 10].getD k 0
/-- the run the other way -/
def rt_rv (r : Nat) : Nat := if r % 2 = 0 then r + 1 else r - 1
/-- of the three runs that could begin where a run ends, the i-th -/
def rt_ah (w h r i : Nat) : Option Nat := (rt_nb w h (r / 12) (rt_to (r % 12))).map (fun t => 12 * t + rt_bg (3 * rt_to (r % 12) + i))
def rt_g (Q : Nat → Nat) (p : Nat) : Nat := Q p / 4 % 8
def rt_s (Q : Nat → Nat) (p : Nat) : Nat := Q p / 32
/-- the piece's signal is for this run -/
def rt_hs (Q : Nat → Nat) (r : Nat) : Bool := decide (rt_g Q (r / 2) ≠ 0) && decide ((rt_g Q (r / 2) - 1) % 2 = r % 2)
def rt_op (Q : Nat → Nat) (n r : Nat) : Bool := decide (r < 12 * n) && decide (Q (r / 2) ≠ 0) && !(rt_hs Q (rt_rv r))
/-- the first i of the next runs that could be -/
def rt_px (Q : Nat → Nat) (w h r i : Nat) : List Nat := (List.range i).filterMap (fun i => (rt_ah w h r i).filter (rt_op Q (w * h)))
def rt_nx (Q : Nat → Nat) (w h r : Nat) : List Nat := rt_px Q w h r 3
/-- what a state of the map may be: 0, or 1 and 4 times a signal 0 .. 4 and 32 times a station 0 .. 8; nothing beyond the map -/
def rt_ok (Q : Nat → Nat) (n : Nat) : Prop := (∀ p, n ≤ p → Q p = 0) ∧ ∀ p, Q p = 0 ∨ ∃ g s, g ≤ 4 ∧ s ≤ 8 ∧ Q p = 1 + 4 * g + 32 * s
theorem rt_ok_lt {Q : Nat → Nat} {n : Nat} (h : rt_ok Q n) (p : Nat) : Q p < 512 := by
  rcases h.2 p with h | ⟨g, s, h1, h2, h3⟩ <;> omega
theorem rt_ok_g {Q : Nat → Nat} {n : Nat} (h : rt_ok Q n) (p : Nat) : rt_g Q p ≤ 4 := by
  unfold rt_g
  rcases h.2 p with h | ⟨g, s, h1, h2, h3⟩ <;> omega
theorem rt_ok_s {Q : Nat → Nat} {n : Nat} (h : rt_ok Q n) (p : Nat) : rt_s Q p ≤ 8 := by
  unfold rt_s
  rcases h.2 p with h | ⟨g, s, h1, h2, h3⟩ <;> omega
theorem rt_ok_eq {Q : Nat → Nat} {n : Nat} (h : rt_ok Q n) {p : Nat} (hp : Q p ≠ 0) : Q p = 1 + 4 * rt_g Q p + 32 * rt_s Q p := by
  unfold rt_g rt_s
  rcases h.2 p with h | ⟨g, s, h1, h2, h3⟩ <;> omega
theorem rt_ok_0 {Q : Nat → Nat} {p : Nat} (hp : Q p = 0) : rt_g Q p = 0 ∧ rt_s Q p = 0 := by
  unfold rt_g rt_s
  rw [hp]
  exact ⟨rfl, rfl⟩
theorem rt_ok_in {Q : Nat → Nat} {n : Nat} (h : rt_ok Q n) {p : Nat} (hp : Q p ≠ 0) : p < n := by
  rcases Nat.lt_or_ge p n with q | q
  · exact q
  · exact absurd (h.1 p q) hp
theorem rt_to_lt : ∀ l, l < 12 → rt_to l < 4 := by decide +kernel
theorem rt_bg_lt : ∀ k, k < 12 → rt_bg k < 12 := by decide +kernel
theorem rt_rv_rv (r : Nat) : rt_rv (rt_rv r) = r := by
  unfold rt_rv
  split <;> split <;> omega
theorem rt_rv_2 (r : Nat) : rt_rv r / 2 = r / 2 := by
  unfold rt_rv
  split <;> omega
theorem rt_rv_12 (r : Nat) : rt_rv r / 12 = r / 12 := by
  unfold rt_rv
  split <;> omega
theorem rt_rv_m (r : Nat) : rt_rv r % 12 = rt_rv (r % 12) := by
  unfold rt_rv
  split <;> split <;> omega
theorem rt_rv_p (r : Nat) : rt_rv r % 2 = 1 - r % 2 := by
  unfold rt_rv
  split <;> omega
theorem rt_rv_lt {r n : Nat} (h : r < 12 * n) : rt_rv r < 12 * n := by
  unfold rt_rv
  split <;> omega
theorem rt_rv_xor (r : Nat) : r ^^^ 1 = rt_rv r := by
  have h1 : (r ^^^ 1) % 2 = 1 - r % 2 := by
    have h0 := @Nat.xor_mod_two_eq_one r 1
    by_cases hr : r % 2 = 1
    · have h9 : ¬ ((r ^^^ 1) % 2 = 1) := fun q => (h0.mp q) ⟨fun _ => rfl, fun _ => hr⟩
      omega
    · have h9 : (r ^^^ 1) % 2 = 1 := h0.mpr (fun q => hr (q.mpr rfl))
      omega
  have h2 : (r ^^^ 1) / 2 = r / 2 := by
    rw [Nat.xor_div_two]
    simp
  unfold rt_rv
  split <;> omega
theorem rt_xy (w h t : Nat) (hw : 0 < w) (ht : t < w * h) : ∃ x y, x < w ∧ y < h ∧ t = w * y + x :=
  ⟨t % w, t / w, Nat.mod_lt _ hw, by rw [Nat.div_lt_iff_lt_mul hw, Nat.mul_comm]; exact ht, (Nat.div_add_mod t w).symm⟩
theorem rt_xm {w x y : Nat} (hx : x < w) : (w * y + x) % w = x := by rw [Nat.mul_add_mod, Nat.mod_eq_of_lt hx]
theorem rt_xd {w x y : Nat} (hx : x < w) : (w * y + x) / w = y := by
  rw [Nat.mul_add_div (by omega), Nat.div_eq_of_lt hx, Nat.add_zero]
theorem rt_xlt {w h x y : Nat} (hx : x < w) (hy : y < h) : w * y + x < w * h := by
  have := Nat.mul_le_mul_left w (show y + 1 ≤ h from hy)
  rw [Nat.mul_add] at this
  omega
theorem rt_nb_0 (w h t : Nat) : rt_nb w h t 0 = if t % w = 0 then none else some (t - 1) := rfl
theorem rt_nb_1 (w h t : Nat) : rt_nb w h t 1 = if t / w = 0 then none else some (t - w) := rfl
theorem rt_nb_2 (w h t : Nat) : rt_nb w h t 2 = if t % w + 1 = w then none else some (t + 1) := rfl
theorem rt_nb_3 (w h t : Nat) : rt_nb w h t 3 = if t / w + 1 = h then none else some (t + w) := rfl
theorem rt_rv_add (t b : Nat) : rt_rv (12 * t + b) = 12 * t + rt_rv b := by
  unfold rt_rv
  split <;> split <;> omega
/-- the neighbour is on the map, and back from it one comes by the other edge -/
theorem rt_nb_back {w h t e t' : Nat} (hw : 0 < w) (ht : t < w * h) (he : e < 4) (hn : rt_nb w h t e = some t') : t' < w * h ∧ rt_nb w h t' ((e + 2) % 4) = some t ∧ t' ≠ t := by
  obtain ⟨x, y, hx, hy, rfl⟩ := rt_xy w h t hw ht
  rcases (show e = 0 ∨ e = 1 ∨ e = 2 ∨ e = 3 by omega) with rfl | rfl | rfl | rfl
  · rw [rt_nb_0, rt_xm hx] at hn
    split at hn
    · cases hn
    · next hx0 =>
      cases hn
      have e1 : w * y + x - 1 = w * y + (x - 1) := by omega
      have hx' : x - 1 < w := by omega
      rw [e1]
      refine ⟨rt_xlt hx' hy, ?_, by omega⟩
      show rt_nb w h _ 2 = _
      rw [rt_nb_2, rt_xm hx', if_neg (by omega)]
      congr 1
      omega
  · rw [rt_nb_1, rt_xd hx] at hn
    split at hn
    · cases hn
    · next hy0 =>
      cases hn
      obtain ⟨y, rfl⟩ : ∃ z, y = z + 1 := ⟨y - 1, by omega⟩
      have e1 : w * (y + 1) + x - w = w * y + x := by rw [Nat.mul_add]; omega
      rw [e1]
      refine ⟨rt_xlt hx (by omega), ?_, by rw [Nat.mul_add]; omega⟩
      show rt_nb w h _ 3 = _
      rw [rt_nb_3, rt_xd hx, if_neg (by omega)]
      congr 1
      rw [Nat.mul_add]
      omega
  · rw [rt_nb_2, rt_xm hx] at hn
    split at hn
    · cases hn
    · next hx0 =>
      cases hn
      have e1 : w * y + x + 1 = w * y + (x + 1) := by omega
      have hx' : x + 1 < w := by omega
      rw [e1]
      refine ⟨rt_xlt hx' hy, ?_, by omega⟩
      show rt_nb w h _ 0 = _
      rw [rt_nb_0, rt_xm hx', if_neg (by omega)]
      congr 1
  · rw [rt_nb_3, rt_xd hx] at hn
    split at hn
    · cases hn
    · next hy0 =>
      cases hn
      have e1 : w * y + x + w = w * (y + 1) + x := by rw [Nat.mul_add]; omega
      rw [e1]
      refine ⟨rt_xlt hx (by omega), ?_, by rw [Nat.mul_add]; omega⟩
      show rt_nb w h _ 1 = _
      rw [rt_nb_1, rt_xd hx, if_neg (by omega)]
      congr 1
      rw [Nat.mul_add]
      omega
theorem rt_loc : ∀ l, l < 12 → ∀ i, i < 3 → rt_to (rt_rv (rt_bg (3 * rt_to l + i))) = (rt_to l + 2) % 4 ∧ ∃ j, j < 3 ∧ rt_bg (3 * ((rt_to l + 2) % 4) + j) = rt_rv l := by decide +kernel
theorem rt_bgi_lt {l i : Nat} (hl : l < 12) (hi : i < 3) : rt_bg (3 * rt_to l + i) < 12 := rt_bg_lt _ (by have := rt_to_lt l hl; omega)
theorem rt_ah_some {w h r i a : Nat} (ha : rt_ah w h r i = some a) : ∃ t, rt_nb w h (r / 12) (rt_to (r % 12)) = some t ∧ a = 12 * t + rt_bg (3 * rt_to (r % 12) + i) := by
  unfold rt_ah at ha
  cases hn : rt_nb w h (r / 12) (rt_to (r % 12)) with
  | none => rw [hn] at ha; cases ha
  | some t => rw [hn] at ha; cases ha; exact ⟨t, rfl, rfl⟩
/-- a run that begins where another ends: it is on the map; and the other way round they are joined likewise -/
theorem rt_ah_back {w h r i a : Nat} (hw : 0 < w) (hr : r < 12 * (w * h)) (hi : i < 3) (ha : rt_ah w h r i = some a) : a < 12 * (w * h) ∧ a / 12 ≠ r / 12 ∧ ∃ j, j < 3 ∧ rt_ah w h (rt_rv a) j = some (rt_rv r) := by
  obtain ⟨t, hn, rfl⟩ := rt_ah_some ha
  have hl : r % 12 < 12 := Nat.mod_lt _ (by omega)
  have hb := rt_bgi_lt hl hi
  obtain ⟨h1, h2, h3⟩ := rt_nb_back hw (by omega) (rt_to_lt _ hl) hn
  obtain ⟨h4, j, hj, h5⟩ := rt_loc _ hl i hi
  generalize hbe : rt_bg (3 * rt_to (r % 12) + i) = bb at *
  have e1 : (12 * t + bb) / 12 = t := by omega
  have e2 : (12 * t + bb) % 12 = bb := by omega
  refine ⟨by omega, by rw [e1]; exact h3, j, hj, ?_⟩
  unfold rt_ah
  rw [rt_rv_12, e1, rt_rv_m, e2, h4, h2]
  show some _ = some _
  have e3 : rt_rv r = 12 * (r / 12) + rt_rv (r % 12) := by
    rw [← rt_rv_add]
    congr 1
    omega
  rw [h5, e3]
