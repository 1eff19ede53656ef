/-! THE CLASS'S WORLD: ten cells; Q is the map -/
abbrev xw (cI : ClassId) (a : Nat → Nat) (w h : Nat) (Q : Nat → Nat) (ff : Nat → Int32) (hd bl : Int32) (rs : Nat → Int32) (hs ts : Int32) (rc : Nat → Int32) (hc tc : Int32) : va_W :=
  [(a 0, .inr (3, [.ref (a 1), .ref (a 4)])), (a 1, .inr (1, [.ref (a 2), .ref (a 3)])), (a 2, .inl (cI, 4 * (w * h), .inl (fun j => rt_o (rt_nb w h (j / 4) (j % 4))))), (a 3, .inl (cI, 6 * (w * h), .inl (fun p => nI (Q p)))),
   (a 4, .inr (2, [.ref (a 5), .ref (a 6), .ref (a 8), .int hd, .int bl])), (a 5, .inl (cI, 12 * (w * h), .inl ff)), (a 6, .inr (0, [.ref (a 7), .int hs, .int ts])), (a 7, .inl (cI, 4 * (w * h), .inl rs)), (a 8, .inr (0, [.ref (a 9), .int hc, .int tc])), (a 9, .inl (cI, 8 * (w * h), .inl rc))]
def xA (a : Nat → Nat) : Nat → Prop := fun q => ∃ i, i < 10 ∧ q = a i
def xI (a : Nat → Nat) : Prop := ∀ i j, i < 10 → j < 10 → a i = a j → i = j
theorem x_D {a : Nat → Nat} (ha : xI a) (ws : va_W) (hw : ws.map (fun q => q.1) = (List.range 10).map a) : va_D (xA a) ws := by
  have key : ∀ (k : Nat) (q : Nat × va_E), ws[k]? = some q → k < 10 ∧ q.1 = a k := by
    intro k q hk
    have h1 : (ws.map (fun q => q.1))[k]? = some q.1 := by rw [List.getElem?_map, hk]; rfl
    rw [hw, List.getElem?_map] at h1
    cases h2 : (List.range 10)[k]? with
    | none => rw [h2] at h1; cases h1
    | some z =>
      rw [h2] at h1
      have h3 := List.getElem?_eq_some_iff.mp h2
      obtain ⟨h4, h5⟩ := h3
      rw [List.getElem_range] at h5
      rw [List.length_range] at h4
      subst h5
      exact ⟨h4, (Option.some.inj h1).symm⟩
  refine ⟨?_, ?_⟩
  · intro i j p q hi hj e
    obtain ⟨h1, h2⟩ := key i p hi
    obtain ⟨h3, h4⟩ := key j q hj
    exact ha i j h1 h3 (by rw [← h2, ← h4]; exact e)
  · intro k q hk
    obtain ⟨h1, h2⟩ := key k q hk
    exact ⟨k, h1, h2⟩
/-- the sizes, and the map's numbers -/
def rt_G (w h : Nat) (Q : Nat → Nat) : Prop := (4 ≤ w ∧ w ≤ 20) ∧ (4 ≤ h ∧ h ≤ 20) ∧ rt_ok Q (6 * (w * h))
theorem rt_G.n {w h : Nat} {Q : Nat → Nat} (hG : rt_G w h Q) : 16 ≤ w * h ∧ w * h ≤ 400 := by
  obtain ⟨⟨h1, h2⟩, ⟨h3, h4⟩, -⟩ := hG
  exact ⟨Nat.mul_le_mul h1 h3, Nat.mul_le_mul h2 h4⟩
theorem rt_G.lt {w h : Nat} {Q : Nat → Nat} (hG : rt_G w h Q) (p : Nat) : Q p < 512 := rt_ok_lt hG.2.2 p
