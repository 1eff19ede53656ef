/-! SMALL: the reference's costs and route, step by step -/
/-- the first x of the list's runs stand at 0 or ENDLESS -/
def rt_rI (Q : Nat → Nat) (w h z : Nat) (L : Nat → Nat) (cn x : Nat) (K : Nat → Nat) : Prop := ∀ j e, e < 2 → j < cn → 2 * j + e < x → K (2 * L j + e) = if rt_tg Q w h z (2 * L j + e) = true then 0 else rt_E
theorem rt_rI_s {Q : Nat → Nat} {w h z : Nat} {L : Nat → Nat} {cn i d v : Nat} {K : Nat → Nat} (hL : rt_isL Q L cn) (hi : i < cn) (hd : d < 2) (I : rt_rI Q w h z L cn (2 * i + d) K) (hv : v = if rt_tg Q w h z (2 * L i + d) = true then 0 else rt_E) : rt_rI Q w h z L cn (2 * i + (d + 1)) (va_up K (2 * L i + d) v) := by
  intro j e he hj hx
  by_cases hc : 2 * L j + e = 2 * L i + d
  · have e1 : e = d := by omega
    have e2 : L j = L i := by omega
    rw [hc, va_up_self]
    exact hv
  · rw [va_up_ne K _ hc]
    refine I j e he hj ?_
    rcases Nat.lt_or_ge (2 * j + e) (2 * i + d) with q | q
    · exact q
    · have e1 : j = i := by omega
      have e2 : e = d := by omega
      rw [e1, e2] at hc
      exact absurd rfl hc
theorem rt_rI_end {Q : Nat → Nat} {w h z : Nat} {L : Nat → Nat} {cn : Nat} {K : Nat → Nat} {C : Nat → Option Nat} (hL : rt_isL Q L cn) (hC : rt_isC Q w h z C) (hs : rt_small C) (I : rt_rI Q w h z L cn (2 * cn) K) : rt_lb Q w h z C K := by
  refine rt_lb_0 hC hs (fun r hr => ?_)
  obtain ⟨j, hj, e⟩ := hL.2.2 (r / 2) (rt_op_there hr)
  have h2 : r % 2 < 2 := Nat.mod_lt _ (by omega)
  have := I j (r % 2) h2 hj (by omega)
  rw [e, show 2 * (r / 2) + r % 2 = r by omega] at this
  exact this
theorem rt_isT_tg {Q : Nat → Nat} {w h r z : Nat} (hn : 12 * (w * h) < 2 ^ 31) (hr : r < 12 * (w * h)) (hz : z < 8) : rt_isT Q w h (nI r) (nI z) = rt_tg Q w h z r := by rw [rt_isT_s hn hr hz, rt_la_tg]
theorem rt_lb_le {Q : Nat → Nat} {w h z : Nat} {C : Nat → Option Nat} {K : Nat → Nat} (I : rt_lb Q w h z C K) : ∀ q, rt_op Q (w * h) q = true → K q ≤ rt_E := fun q hq => (I q hq).2.1
/-- within a round: K at its begin, K1 now, mo: whether something fell; the first x runs were looked at -/
def rt_oI (Q : Nat → Nat) (w h z : Nat) (C : Nat → Option Nat) (L : Nat → Nat) (cn : Nat) (K K1 : Nat → Nat) (mo : Bool) (x : Nat) : Prop := rt_lb Q w h z C K1 ∧ rt_sum K1 (12 * (w * h)) + (if mo = true then 1 else 0) ≤ rt_sum K (12 * (w * h)) ∧ (mo = false → ∀ j e, e < 2 → j < cn → 2 * j + e < x → rt_op Q (w * h) (2 * L j + e) = true → K1 (2 * L j + e) ≠ 0 → K1 (2 * L j + e) ≤ rt_on K1 (rt_nx Q w h (2 * L j + e)))
theorem rt_oI_skip {Q : Nat → Nat} {w h z : Nat} {C : Nat → Option Nat} {L : Nat → Nat} {cn : Nat} {K K1 : Nat → Nat} {mo : Bool} {i d : Nat} (I : rt_oI Q w h z C L cn K K1 mo (2 * i + d)) (hd : d < 2) (hx : mo = false → rt_op Q (w * h) (2 * L i + d) = true → K1 (2 * L i + d) ≠ 0 → K1 (2 * L i + d) ≤ rt_on K1 (rt_nx Q w h (2 * L i + d))) : rt_oI Q w h z C L cn K K1 mo (2 * i + (d + 1)) := by
  refine ⟨I.1, I.2.1, fun hm j e he hj hlt ho h0 => ?_⟩
  rcases Nat.lt_or_ge (2 * j + e) (2 * i + d) with q | q
  · exact I.2.2 hm j e he hj q ho h0
  · have e1 : j = i := by omega
    have e2 : e = d := by omega
    subst e1; subst e2
    exact hx hm ho h0
theorem rt_oI_fall {Q : Nat → Nat} {w h z : Nat} {C : Nat → Option Nat} {L : Nat → Nat} {cn : Nat} {K K1 : Nat → Nat} {mo : Bool} {i d x : Nat} (hC : rt_isC Q w h z C) (hs : rt_small C) (I : rt_oI Q w h z C L cn K K1 mo x) (ho : rt_op Q (w * h) (2 * L i + d) = true) (h0 : K1 (2 * L i + d) ≠ 0) (hlt : rt_on K1 (rt_nx Q w h (2 * L i + d)) < K1 (2 * L i + d)) (y : Nat) : rt_oI Q w h z C L cn K (va_up K1 (2 * L i + d) (rt_on K1 (rt_nx Q w h (2 * L i + d)))) true y := by
  refine ⟨rt_lb_step hC hs I.1 ho h0 hlt, ?_, fun hm => (by cases hm)⟩
  have h1 := rt_sum_up (f := K1) (k := 2 * L i + d) (v := rt_on K1 (rt_nx Q w h (2 * L i + d))) (12 * (w * h)) (rt_op_lt ho)
  have h2 := I.2.1
  rw [if_pos rfl]
  split at h2 <;> omega
theorem rt_oI_more {Q : Nat → Nat} {w h z : Nat} {C : Nat → Option Nat} {L : Nat → Nat} {cn : Nat} {K K1 : Nat → Nat} {x y : Nat} (I : rt_oI Q w h z C L cn K K1 true x) : rt_oI Q w h z C L cn K K1 true y := ⟨I.1, I.2.1, fun hm => (by cases hm)⟩
theorem rt_oI_0 {Q : Nat → Nat} {w h z : Nat} {C : Nat → Option Nat} {L : Nat → Nat} {cn : Nat} {K : Nat → Nat} (I : rt_lb Q w h z C K) : rt_oI Q w h z C L cn K K false 0 := ⟨I, by simp, fun _ j e _ _ hx => absurd hx (Nat.not_lt_zero _)⟩
theorem rt_oI_fix {Q : Nat → Nat} {w h z : Nat} {C : Nat → Option Nat} {L : Nat → Nat} {cn : Nat} {K K1 : Nat → Nat} (hL : rt_isL Q L cn) (I : rt_oI Q w h z C L cn K K1 false (2 * cn)) : ∀ r, rt_op Q (w * h) r = true → K1 r ≠ 0 → K1 r ≤ rt_on K1 (rt_nx Q w h r) := by
  intro r ho h0
  obtain ⟨j, hj, e⟩ := hL.2.2 (r / 2) (rt_op_there ho)
  have h2 : r % 2 < 2 := Nat.mod_lt _ (by omega)
  have e9 : 2 * L j + r % 2 = r := by rw [e]; omega
  have := I.2.2 rfl j (r % 2) h2 hj (by omega)
  rw [e9] at this
  exact this ho h0
theorem rt_upd_id (K : Nat → Nat) (k j : Nat) : upd (fun q => nI (K q)) k (nI (K k)) j = nI (K j) := by
  unfold upd
  split
  · next e => rw [e]
  · rfl
theorem rt_hs_sg {Q : Nat → Nat} {v : Nat} (h0 : rt_g Q (v / 2) ≠ 0) : rt_hs Q v = decide (rt_sg Q (v / 2) = v) := by
  unfold rt_hs rt_sg
  rw [decide_eq_true h0, Bool.true_and]
  have h1 : ((rt_g Q (v / 2) - 1) % 2 = v % 2) ↔ (2 * (v / 2) + (rt_g Q (v / 2) - 1) % 2 = v) := by omega
  by_cases h2 : (rt_g Q (v / 2) - 1) % 2 = v % 2
  · rw [decide_eq_true h2, decide_eq_true (h1.mp h2)]
  · rw [decide_eq_false h2, decide_eq_false (fun q => h2 (h1.mpr q))]
theorem rt_hs_0 {Q : Nat → Nat} {v : Nat} (h0 : rt_g Q (v / 2) = 0) : rt_hs Q v = false := by
  unfold rt_hs
  rw [decide_eq_false (fun q => q h0)]
  rfl
/-- the reference on the route: at v before its i-th step -/
def rt_mr (Q : Nat → Nat) (w h : Nat) (C : Nat → Option Nat) (r i v c : Nat) : Prop := C v = some c ∧ rt_rk C (12 * (w * h)) c + i ≤ 12 * (w * h) + 1 ∧ ((i = 0 ∧ v = r ∧ c ≠ 0) ∨ (0 < i ∧ rt_rt Q w h C (i - 1) r = some v)) ∧ ((i = 0 ∨ ¬ (rt_hs Q v = true ∨ C v = some 0)) → ∀ m, rt_rt Q w h C (i + m) r = rt_rt Q w h C m v) ∧ ((0 < i ∧ (rt_hs Q v = true ∨ C v = some 0)) → ∀ m, rt_rt Q w h C (i + m) r = none)
theorem rt_mr_0 {Q : Nat → Nat} {w h : Nat} {C : Nat → Option Nat} {r c : Nat} (hc : C r = some c) (h0 : c ≠ 0) : rt_mr Q w h C r 0 r c := ⟨hc, by have := rt_rk_le C (12 * (w * h)) c; omega, Or.inl ⟨rfl, rfl, h0⟩, fun _ m => by rw [Nat.zero_add], fun q => absurd q.1 (Nat.lt_irrefl 0)⟩
theorem rt_mr_go {Q : Nat → Nat} {w h : Nat} {C : Nat → Option Nat} {r i v c b c' : Nat} (I : rt_mr Q w h C r i v c) (hn : i = 0 ∨ ¬ (rt_hs Q v = true ∨ C v = some 0)) (hb : rt_best C (rt_nx Q w h v) = some b) (hl : b < 12 * (w * h)) (hc : C b = some c') (hlt : c' < c) : rt_mr Q w h C r (i + 1) b c' := by
  obtain ⟨i1, i2, i3, i4, i5⟩ := I
  have h4 := i4 hn
  refine ⟨hc, by have := rt_rk_lt hl hc hlt; omega, Or.inr ⟨by omega, ?_⟩, ?_, ?_⟩
  · rw [show i + 1 - 1 = i + 0 by omega, h4]
    exact hb
  · rintro (q | q) m
    · omega
    · rw [show i + 1 + m = i + (m + 1) by omega, h4]
      exact rt_rt_go hb (by cases hh : rt_hs Q b with
        | false => rfl
        | true => exact absurd (Or.inl hh) q) (fun z => q (Or.inr z))
  · rintro ⟨-, q⟩ m
    rw [show i + 1 + m = i + (m + 1) by omega, h4]
    exact rt_rt_stop hb q
theorem rt_mr_c0 {Q : Nat → Nat} {w h : Nat} {C : Nat → Option Nat} {r i v c : Nat} (I : rt_mr Q w h C r i v c) (hn : i = 0 ∨ ¬ (rt_hs Q v = true ∨ C v = some 0)) : c ≠ 0 := by
  rcases hn with q | q
  · rcases I.2.2.1 with h1 | h1
    · exact h1.2.2
    · omega
  · rintro rfl
    exact q (Or.inr I.1)
theorem rt_cE_le {C : Nat → Option Nat} (hs : rt_small C) (r : Nat) : rt_cE (C r) ≤ rt_E := by
  cases hc : C r with
  | none => exact Nat.le_refl _
  | some c => have := hs r c hc; show c ≤ rt_E; unfold rt_E; omega
theorem rt_cE_lt {C : Nat → Option Nat} {r : Nat} (hs : rt_small C) : rt_cE (C r) < rt_E ↔ ∃ c, C r = some c := by
  cases hc : C r with
  | none => exact ⟨fun q => absurd q (Nat.lt_irrefl _), fun ⟨c, q⟩ => by cases q⟩
  | some c => exact ⟨fun _ => ⟨c, rfl⟩, fun _ => by have := hs r c hc; show c < rt_E; unfold rt_E; omega⟩
