/-! SMALL: rows of the world may be told by another function; what join does; a flood while one piece's neighbours are joined -/
theorem x_row {D : va_G} {cI : ClassId} {n q0 b : Nat} {f f' : Nat → Int32} {ws : va_W} {H : Heap} (e : ∀ j, j < n → f j = f' j) (hp : ws[q0]? = some (b, .inl (cI, n, .inl f))) (hP : va_P D vwCl ws H) : va_P D vwCl (ws.set q0 (b, .inl (cI, n, .inl f'))) H := by
  have hl : q0 < ws.length := (List.getElem?_eq_some_iff.mp hp).1
  intro k q hk
  by_cases hq : k = q0
  · subst hq
    rw [List.getElem?_set_self hl] at hk
    cases hk
    show H[b]? = some (vp_cell cI (n, .inl f'))
    rw [← rw_cell e]
    exact hP k _ hp
  · rw [List.getElem?_set_ne (fun z => hq z.symm)] at hk
    exact hP k q hk
theorem x_ff {D : va_G} {cI : ClassId} {a : Nat → Nat} {w h : Nat} {Q : Nat → Nat} {ff ff' : Nat → Int32} {hd bl : Int32} {rs : Nat → Int32} {hs ts : Int32} {rc : Nat → Int32} {hc tc : Int32} {H : Heap} (e : ∀ j, j < 12 * (w * h) → ff j = ff' j) (hP : va_P D vwCl (xw cI a w h Q ff hd bl rs hs ts rc hc tc) H) : va_P D vwCl (xw cI a w h Q ff' hd bl rs hs ts rc hc tc) H :=
  x_row (q0 := 5) e rfl hP
theorem rt_updo (F : Nat → Option Nat) (k v j : Nat) : upd (fun r => rt_o (F r)) k (nI v) j = rt_o (va_up F k (some v) j) := by
  unfold upd va_up
  split <;> rfl
theorem rt_fill (ff : Nat → Int32) (v : Int32) (i j : Nat) : upd (fun j => if j < i then v else ff j) i v j = if j < i + 1 then v else ff j := by
  unfold upd
  by_cases h1 : j = i
  · rw [if_pos h1, if_pos (by omega)]
  · rw [if_neg h1]
    dsimp only
    by_cases h2 : j < i
    · rw [if_pos h2, if_pos (by omega)]
    · rw [if_neg h2, if_neg (by omega)]
def rt_bd (F : Nat → Option Nat) : Prop := ∀ r b, F r = some b → b < 2 ^ 31
def rt_jn (F : Nat → Option Nat) (R : Nat → Nat) (y k lo : Nat) : (Nat → Option Nat) × (Nat → Nat) × Nat := if F k = none then (va_up F k (some lo), va_up R y k, y + 1) else (F, R, y)
theorem rt_jn_t {F : Nat → Option Nat} {R : Nat → Nat} {y k lo : Nat} (h : F k = none) : rt_jn F R y k lo = (va_up F k (some lo), va_up R y k, y + 1) := if_pos h
theorem rt_jn_f {F : Nat → Option Nat} {R : Nat → Nat} {y k lo b : Nat} (h : F k = some b) : rt_jn F R y k lo = (F, R, y) := if_neg (by rw [h]; simp)
/-- a flood, k just taken; of its neighbours those with pd may still be wanting -/
def rt_fJ (Q : Nat → Nat) (w h : Nat) (F0 : Nat → Option Nat) (x n0 k : Nat) (F : Nat → Option Nat) (R : Nat → Nat) (y : Nat) (pd : Nat → Prop) : Prop := rt_fI Q w h F0 x F R n0 y (fun g q => g = k ∧ pd q) ∧ 0 < n0 ∧ R (n0 - 1) = k
theorem rt_fJ_weak {Q : Nat → Nat} {w h : Nat} {F0 : Nat → Option Nat} {x n0 k : Nat} {F : Nat → Option Nat} {R : Nat → Nat} {y : Nat} {pd pd' : Nat → Prop} (J : rt_fJ Q w h F0 x n0 k F R y pd) (hp : ∀ q, rt_tc Q w h k q → pd q → pd' q) : rt_fJ Q w h F0 x n0 k F R y pd' := by
  refine ⟨rt_fI_drop J.1 ?_, J.2⟩
  rintro j q hj ht ⟨h1, h2⟩
  exact Or.inr ⟨h1, hp q (by rw [← h1]; exact ht) h2⟩
theorem rt_fJ_jn {Q : Nat → Nat} {w h : Nat} {F0 : Nat → Option Nat} {x n0 k q : Nat} {F : Nat → Option Nat} {R : Nat → Nat} {y : Nat} {pd : Nat → Prop} (hw : 0 < w) (hQ : rt_ok Q (6 * (w * h))) (B : rt_bI Q w h F0 x) (J : rt_fJ Q w h F0 x n0 k F R y pd) (ht : rt_tc Q w h k q) : rt_fJ Q w h F0 x n0 k (rt_jn F R y q x).1 (rt_jn F R y q x).2.1 (rt_jn F R y q x).2.2 (fun r => pd r ∧ r ≠ q) := by
  have hle := J.1.1
  have hj : n0 - 1 < y := by have := J.2.1; omega
  have ht' : rt_tc Q w h (R (n0 - 1)) q := by rw [J.2.2]; exact ht
  cases hn : F q with
  | none =>
    rw [rt_jn_t hn]
    refine ⟨rt_fI_drop (rt_fI_join J.1 hw hQ hj ht' hn) ?_, J.2.1, ?_⟩
    · rintro j r hj2 _ ⟨⟨h1, h2⟩, h3⟩
      exact Or.inr ⟨h1, h2, h3⟩
    · show va_up R y q (n0 - 1) = k
      rw [va_up_ne R _ (by omega)]
      exact J.2.2
  | some b =>
    rw [rt_jn_f hn]
    have hx : F q = some x := by
      rcases rt_fI_or hw hQ B J.1 hj ht' with h1 | h1
      · rw [hn] at h1; cases h1
      · exact h1
    refine ⟨rt_fI_drop J.1 ?_, J.2⟩
    rintro j r hj2 _ ⟨h1, h2⟩
    by_cases e : r = q
    · exact Or.inl (by rw [e]; exact hx)
    · exact Or.inr ⟨h1, h2, e⟩
theorem rt_fJ_cap {Q : Nat → Nat} {w h : Nat} {F0 : Nat → Option Nat} {x n0 k q : Nat} {F : Nat → Option Nat} {R : Nat → Nat} {y : Nat} {pd : Nat → Prop} (hw : 0 < w) (hQ : rt_ok Q (6 * (w * h))) (J : rt_fJ Q w h F0 x n0 k F R y pd) (ht : rt_tc Q w h k q) (hn : F q = none) : y < 8 * (w * h) := by
  have hle := J.1.1
  have hj : n0 - 1 < y := by have := J.2.1; omega
  have h1 := rt_fI_cap hQ (rt_fI_join J.1 hw hQ hj (by rw [J.2.2]; exact ht) hn)
  omega
theorem rt_fI_bd {Q : Nat → Nat} {w h : Nat} {F0 F : Nat → Option Nat} {x n0 y : Nat} {R : Nat → Nat} {pend : Nat → Nat → Prop} (hn : w * h ≤ 400) (hx : x < 6 * (w * h)) (B : rt_bI Q w h F0 x) (I : rt_fI Q w h F0 x F R n0 y pend) : rt_bd F := by
  intro r b hr
  by_cases e : F r = some x
  · rw [e] at hr
    cases hr
    omega
  · rw [I.2.2.2.2.1 r e] at hr
    have := (B.1 r b hr).2.2.1
    omega
theorem rt_bI_bd {Q : Nat → Nat} {w h : Nat} {F : Nat → Option Nat} {x : Nat} (hn : w * h ≤ 400) (hx : x ≤ 6 * (w * h)) (B : rt_bI Q w h F x) : rt_bd F := by
  intro r b hr
  have := (B.1 r b hr).2.2.1
  omega
theorem rt_apI_ap : ∀ k, k < 6 → ∀ i, i < 6 → (rt_apI k = nI i ↔ rt_ap k = i) := by decide +kernel
theorem rt_fJ_m1 {Q : Nat → Nat} {w h : Nat} {G0 : Nat → Option Nat} {x n0 k i : Nat} {F : Nat → Option Nat} {R : Nat → Nat} {y : Nat} {pd : Nat → Prop} (J : rt_fJ Q w h G0 x n0 k F R y (fun q => pd q ∧ ¬ (rt_meet k q ∧ q % 6 < i))) (hx : ∀ q, rt_tc Q w h k q → rt_meet k q → q % 6 = i → False) : rt_fJ Q w h G0 x n0 k F R y (fun q => pd q ∧ ¬ (rt_meet k q ∧ q % 6 < i + 1)) := by
  refine rt_fJ_weak J (fun q ht hq => ⟨hq.1, fun z => ?_⟩)
  rcases Nat.lt_or_ge (q % 6) i with z2 | z2
  · exact hq.2 ⟨z.1, z2⟩
  · exact hx q ht z.1 (by omega)
theorem rt_fJ_m2 {Q : Nat → Nat} {w h : Nat} {G0 : Nat → Option Nat} {x n0 k i : Nat} {F : Nat → Option Nat} {R : Nat → Nat} {y : Nat} {pd : Nat → Prop} (J : rt_fJ Q w h G0 x n0 k F R y (fun r => (pd r ∧ ¬ (rt_meet k r ∧ r % 6 < i)) ∧ r ≠ k - k % 6 + i)) : rt_fJ Q w h G0 x n0 k F R y (fun q => pd q ∧ ¬ (rt_meet k q ∧ q % 6 < i + 1)) := by
  refine rt_fJ_weak J (fun q ht hq => ⟨hq.1.1, fun z => ?_⟩)
  rcases Nat.lt_or_ge (q % 6) i with z2 | z2
  · exact hq.1.2 ⟨z.1, z2⟩
  · have := z.1.1
    have := z.2
    exact hq.2 (by omega)
theorem rt_fJ_k {Q : Nat → Nat} {w h : Nat} {G0 : Nat → Option Nat} {x n0 k : Nat} {F : Nat → Option Nat} {R : Nat → Nat} {y : Nat} {pd : Nat → Prop} (J : rt_fJ Q w h G0 x n0 k F R y pd) : Q k ≠ 0 := by
  have h1 := J.1.1
  have h2 := J.2.1
  have h3 := (J.1.2.1 (n0 - 1) (by omega)).2.1
  rwa [J.2.2] at h3
/-- over a line: one more of the three -/
theorem rt_fJ_a1 {Q : Nat → Nat} {w h : Nat} {G0 : Nat → Option Nat} {x n0 k d i : Nat} {F : Nat → Option Nat} {R : Nat → Nat} {y : Nat} {pd : Nat → Prop} (J : rt_fJ Q w h G0 x n0 k F R y (fun q => pd q ∧ ¬ ∃ j, j < i ∧ rt_acr Q w h k d j q)) (hx : ∀ q, rt_tc Q w h k q → rt_acr Q w h k d i q → False) : rt_fJ Q w h G0 x n0 k F R y (fun q => pd q ∧ ¬ ∃ j, j < i + 1 ∧ rt_acr Q w h k d j q) := by
  refine rt_fJ_weak J (fun q ht hq => ⟨hq.1, ?_⟩)
  rintro ⟨j, hj, ha⟩
  rcases Nat.lt_or_ge j i with z2 | z2
  · exact hq.2 ⟨j, z2, ha⟩
  · rw [show j = i by omega] at ha
    exact hx q ht ha
theorem rt_fJ_a2 {Q : Nat → Nat} {w h : Nat} {G0 : Nat → Option Nat} {x n0 k d i b : Nat} {F : Nat → Option Nat} {R : Nat → Nat} {y : Nat} {pd : Nat → Prop} (hb : rt_ah w h (2 * k + d) i = some b) (J : rt_fJ Q w h G0 x n0 k F R y (fun r => (pd r ∧ ¬ ∃ j, j < i ∧ rt_acr Q w h k d j r) ∧ r ≠ b / 2)) : rt_fJ Q w h G0 x n0 k F R y (fun q => pd q ∧ ¬ ∃ j, j < i + 1 ∧ rt_acr Q w h k d j q) := by
  refine rt_fJ_weak J (fun q ht hq => ⟨hq.1.1, ?_⟩)
  rintro ⟨j, hj, ha⟩
  rcases Nat.lt_or_ge j i with z2 | z2
  · exact hq.1.2 ⟨j, z2, ha⟩
  · rw [show j = i by omega] at ha
    obtain ⟨-, b2, h1, -, h2⟩ := ha
    rw [hb] at h1
    cases h1
    exact hq.2 h2.symm
