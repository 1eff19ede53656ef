/-! PURE: blocks: touching pieces, the class's flooding, the reference's pile -/
def rt_ap (k : Nat) : Nat := [9, 9, 4, 5, 2, 3].getD k 9
def rt_meet (p q : Nat) : Prop := p / 6 = q / 6 ∧ rt_ap (p % 6) ≠ q % 6
def rt_acr (Q : Nat → Nat) (w h p d i q : Nat) : Prop := rt_hs Q (2 * p + d) = false ∧ ∃ a, rt_ah w h (2 * p + d) i = some a ∧ rt_hs Q (rt_rv a) = false ∧ a / 2 = q
def rt_tc (Q : Nat → Nat) (w h p q : Nat) : Prop := Q p ≠ 0 ∧ Q q ≠ 0 ∧ (rt_meet p q ∨ ∃ d i, d < 2 ∧ i < 3 ∧ rt_acr Q w h p d i q)
theorem rt_ap_symm : ∀ a, a < 6 → ∀ b, b < 6 → rt_ap a ≠ b → rt_ap b ≠ a := by decide +kernel
theorem rt_meet_symm {p q : Nat} (h : rt_meet p q) : rt_meet q p := ⟨h.1.symm, rt_ap_symm _ (Nat.mod_lt _ (by omega)) _ (Nat.mod_lt _ (by omega)) h.2⟩
theorem rt_tc_symm {Q : Nat → Nat} {w h p q : Nat} (hw : 0 < w) (hQ : rt_ok Q (6 * (w * h))) (ht : rt_tc Q w h p q) : rt_tc Q w h q p := by
  obtain ⟨h1, h2, h3 | ⟨d, i, hd, hi, h4, a, h5, h6, h7⟩⟩ := ht
  · exact ⟨h2, h1, Or.inl (rt_meet_symm h3)⟩
  · have hp := rt_ok_in hQ h1
    obtain ⟨-, -, j, hj, h8⟩ := rt_ah_back hw (show 2 * p + d < 12 * (w * h) by omega) hi h5
    have e1 : rt_rv a = 2 * q + rt_rv a % 2 := by
      have := rt_rv_2 a
      omega
    refine ⟨h2, h1, Or.inr ⟨rt_rv a % 2, j, Nat.mod_lt _ (by omega), hj, by rw [← e1]; exact h6, rt_rv (2 * p + d), by rw [← e1]; exact h8, by rw [rt_rv_rv]; exact h4, by rw [rt_rv_2]; omega⟩⟩
/-- B tells each piece's block by its lowest piece -/
def rt_cl (Q : Nat → Nat) (w h : Nat) (S : Nat → Prop) : Prop := ∀ x y, S x → rt_tc Q w h x y → S y
def rt_isB (Q : Nat → Nat) (w h : Nat) (B : Nat → Nat) : Prop :=
  (∀ p q, rt_tc Q w h p q → B p = B q) ∧ (∀ p, Q p ≠ 0 → B p ≤ p ∧ Q (B p) ≠ 0) ∧ (∀ p, Q p ≠ 0 → ∀ S : Nat → Prop, S p → rt_cl Q w h S → S (B p))
theorem rt_isB_B {Q : Nat → Nat} {w h : Nat} {B : Nat → Nat} (hB : rt_isB Q w h B) {p : Nat} (hp : Q p ≠ 0) : B (B p) = B p :=
  hB.2.2 p hp (fun x => B x = B p) rfl (fun x y hx ht => (hB.1 x y ht).symm.trans hx)
-- between two floods of the class: all pieces under x have their block
def rt_bI (Q : Nat → Nat) (w h : Nat) (F : Nat → Option Nat) (x : Nat) : Prop :=
  (∀ q b, F q = some b → Q q ≠ 0 ∧ b ≤ q ∧ b < x ∧ Q b ≠ 0 ∧ F b = some b ∧ ∀ S : Nat → Prop, S q → rt_cl Q w h S → S b) ∧
  (∀ q, q < x → Q q ≠ 0 → F q ≠ none) ∧ (∀ p q b, rt_tc Q w h p q → F p = some b → F q = some b)
theorem rt_bI_0 (Q : Nat → Nat) (w h : Nat) : rt_bI Q w h (fun _ => none) 0 :=
  ⟨fun q b h => (by cases h), fun q h => absurd h (Nat.not_lt_zero _), fun p q b _ h => (by cases h)⟩
theorem rt_bI_skip {Q : Nat → Nat} {w h x : Nat} {F : Nat → Option Nat} (I : rt_bI Q w h F x) (hx : Q x = 0 ∨ F x ≠ none) : rt_bI Q w h F (x + 1) := by
  obtain ⟨i1, i2, i3⟩ := I
  refine ⟨fun q b h => ?_, fun q hq h => ?_, i3⟩
  · obtain ⟨a1, a2, a3, a4⟩ := i1 q b h
    exact ⟨a1, a2, by omega, a4⟩
  · rcases Nat.lt_or_ge q x with z | z
    · exact i2 q z h
    · have : q = x := by omega
      subst this
      rcases hx with e | e
      · exact absurd e h
      · exact e
-- within a flood: the row R, places hd .. tl wait; pend: pieces that may still be wanting
def rt_fI (Q : Nat → Nat) (w h : Nat) (F0 : Nat → Option Nat) (x : Nat) (F : Nat → Option Nat) (R : Nat → Nat) (hd tl : Nat) (pend : Nat → Nat → Prop) : Prop :=
  hd ≤ tl ∧ (∀ j, j < tl → F (R j) = some x ∧ Q (R j) ≠ 0 ∧ F0 (R j) = none ∧ ∀ S : Nat → Prop, S (R j) → rt_cl Q w h S → S x) ∧ (∀ q, F q = some x → ∃ j, j < tl ∧ R j = q) ∧
  (∀ i j, i < tl → j < tl → R i = R j → i = j) ∧ (∀ q, F q ≠ some x → F q = F0 q) ∧
  (∀ j, j < hd → ∀ q, rt_tc Q w h (R j) q → F q = some x ∨ pend (R j) q) ∧ (0 < tl ∧ R 0 = x)
theorem rt_fI_0 {Q : Nat → Nat} {w h x : Nat} {F0 : Nat → Option Nat} {R : Nat → Nat} (I : rt_bI Q w h F0 x) (hx : Q x ≠ 0) (hn : F0 x = none) : rt_fI Q w h F0 x (va_up F0 x (some x)) (va_up R 0 x) 0 1 (fun _ _ => False) := by
  refine ⟨by omega, ?_, ?_, by intro i j h1 h2 _; omega, ?_, fun j h => absurd h (Nat.not_lt_zero _), by omega, va_up_self _ _ _⟩
  · intro j hj
    have : j = 0 := by omega
    subst this
    rw [va_up_self, va_up_self]
    exact ⟨rfl, hx, hn, fun S h _ => h⟩
  · intro q hq
    refine ⟨0, by omega, ?_⟩
    rw [va_up_self]
    by_cases e : q = x
    · exact e.symm
    · rw [va_up_ne F0 _ e] at hq
      have := (I.1 q x hq).2.2.1
      omega
  · intro q hq
    by_cases e : q = x
    · rw [e, va_up_self] at hq
      exact absurd rfl hq
    · rw [va_up_ne F0 _ e]
/-- what touches a piece of the flood is of it, or nowhere yet -/
theorem rt_fI_or {Q : Nat → Nat} {w h x hd tl : Nat} {F0 F : Nat → Option Nat} {R : Nat → Nat} {pend : Nat → Nat → Prop} (hw : 0 < w) (hQ : rt_ok Q (6 * (w * h))) (B : rt_bI Q w h F0 x) (I : rt_fI Q w h F0 x F R hd tl pend) {j q : Nat} (hj : j < tl) (ht : rt_tc Q w h (R j) q) : F q = none ∨ F q = some x := by
  by_cases e : F q = some x
  · exact Or.inr e
  · refine Or.inl ?_
    have h1 := I.2.2.2.2.1 q e
    rw [h1]
    cases h2 : F0 q with
    | none => rfl
    | some b =>
      have h3 := B.2.2 q (R j) b (rt_tc_symm hw hQ ht) h2
      rw [(I.2.1 j hj).2.2.1] at h3
      cases h3
theorem rt_fI_drop {Q : Nat → Nat} {w h x hd tl : Nat} {F0 F : Nat → Option Nat} {R : Nat → Nat} {pend pend' : Nat → Nat → Prop} (I : rt_fI Q w h F0 x F R hd tl pend) (hp : ∀ j q, j < hd → rt_tc Q w h (R j) q → pend (R j) q → F q = some x ∨ pend' (R j) q) : rt_fI Q w h F0 x F R hd tl pend' := by
  obtain ⟨i1, i2, i3, i4, i5, i6, i7⟩ := I
  refine ⟨i1, i2, i3, i4, i5, ?_, i7⟩
  intro j hj q ht
  rcases i6 j hj q ht with h | h
  · exact Or.inl h
  · exact hp j q hj ht h
theorem rt_fI_join {Q : Nat → Nat} {w h x hd tl : Nat} {F0 F : Nat → Option Nat} {R : Nat → Nat} {pend : Nat → Nat → Prop} (I : rt_fI Q w h F0 x F R hd tl pend) {j q : Nat} (hw : 0 < w) (hQ : rt_ok Q (6 * (w * h))) (hj : j < tl) (ht : rt_tc Q w h (R j) q) (hn : F q = none) : rt_fI Q w h F0 x (va_up F q (some x)) (va_up R tl q) hd (tl + 1) (fun g r => pend g r ∧ r ≠ q) := by
  obtain ⟨i1, i2, i3, i4, i5, i6, i7⟩ := I
  have nb : ∀ k, k < tl → R k ≠ q := fun k hk e => by have := (i2 k hk).1; rw [e, hn] at this; cases this
  have ho : ∀ k, k < tl → va_up R tl q k = R k := fun k hk => va_up_ne R q (by omega)
  have hF : ∀ k, k < tl → va_up F q (some x) (R k) = F (R k) := fun k hk => va_up_ne F _ (nb k hk)
  refine ⟨by omega, ?_, ?_, ?_, ?_, ?_, by omega, by rw [ho 0 i7.1]; exact i7.2⟩
  · intro k hk
    rcases Nat.lt_or_ge k tl with z | z
    · rw [ho k z, hF k z]
      exact i2 k z
    · have : k = tl := by omega
      subst this
      rw [va_up_self, va_up_self]
      refine ⟨rfl, ht.2.1, ?_, ?_⟩
      · have := i5 q (by rw [hn]; simp)
        rw [← this]
        exact hn
      · intro S hS hc
        exact (i2 j hj).2.2.2 S (hc q (R j) hS (rt_tc_symm hw hQ ht)) hc
  · intro p hp
    by_cases e : p = q
    · exact ⟨tl, by omega, by rw [va_up_self, e]⟩
    · rw [va_up_ne F _ e] at hp
      obtain ⟨k, hk, e2⟩ := i3 p hp
      exact ⟨k, by omega, by rw [ho k hk]; exact e2⟩
  · intro a b ha hb e
    rcases Nat.lt_or_ge a tl with z | z <;> rcases Nat.lt_or_ge b tl with z2 | z2
    · rw [ho a z, ho b z2] at e
      exact i4 a b z z2 e
    · have : b = tl := by omega
      subst this
      rw [ho a z, va_up_self] at e
      exact absurd e (nb a z)
    · have : a = tl := by omega
      subst this
      rw [ho b z2, va_up_self] at e
      exact absurd e.symm (nb b z2)
    · omega
  · intro p hp
    by_cases e : p = q
    · rw [e, va_up_self] at hp
      exact absurd rfl hp
    · rw [va_up_ne F _ e] at hp ⊢
      exact i5 p hp
  · intro k hk p hp
    rw [ho k (by omega)] at hp ⊢
    by_cases e : p = q
    · exact Or.inl (by rw [e, va_up_self])
    · rw [va_up_ne F _ e]
      rcases i6 k hk p hp with h | h
      · exact Or.inl h
      · exact Or.inr ⟨h, e⟩
theorem rt_fI_take {Q : Nat → Nat} {w h x hd tl : Nat} {F0 F : Nat → Option Nat} {R : Nat → Nat} (I : rt_fI Q w h F0 x F R hd tl (fun _ _ => False)) (hl : hd < tl) : rt_fI Q w h F0 x F R (hd + 1) tl (fun g _ => g = R hd) := by
  obtain ⟨i1, i2, i3, i4, i5, i6, i7⟩ := I
  refine ⟨hl, i2, i3, i4, i5, ?_, i7⟩
  intro j hj q ht
  rcases Nat.lt_or_ge j hd with z | z
  · rcases i6 j z q ht with h | h
    · exact Or.inl h
    · exact h.elim
  · exact Or.inr (by rw [show j = hd by omega])
theorem rt_fI_cap {Q : Nat → Nat} {w h x hd tl : Nat} {F0 F : Nat → Option Nat} {R : Nat → Nat} {pend : Nat → Nat → Prop} (hQ : rt_ok Q (6 * (w * h))) (I : rt_fI Q w h F0 x F R hd tl pend) : tl ≤ 6 * (w * h) :=
  rt_pig _ tl R (fun j hj => rt_ok_in hQ (I.2.1 j hj).2.1) I.2.2.2.1
/-- a flood's end -/
theorem rt_fI_end {Q : Nat → Nat} {w h x tl : Nat} {F0 F : Nat → Option Nat} {R : Nat → Nat} (B : rt_bI Q w h F0 x) (I : rt_fI Q w h F0 x F R tl tl (fun _ _ => False)) : rt_bI Q w h F (x + 1) ∧ F x = some x ∧ ∀ q, q < x → F q = F0 q := by
  obtain ⟨i1, i2, i3, i4, i5, i6, i7⟩ := I
  have hge : ∀ j, j < tl → x ≤ R j := by
    intro j hj
    rcases Nat.lt_or_ge (R j) x with z | z
    · exact absurd (i2 j hj).2.2.1 (B.2.1 _ z (i2 j hj).2.1)
    · exact z
  have hx : F x = some x := by
    have := (i2 0 i7.1).1
    rwa [i7.2] at this
  have hQx : Q x ≠ 0 := by
    have := (i2 0 i7.1).2.1
    rwa [i7.2] at this
  have hold : ∀ q b, F0 q = some b → F q = some b := by
    intro q b hq
    by_cases e : F q = some x
    · obtain ⟨j, hj, e2⟩ := i3 q e
      have := (i2 j hj).2.2.1
      rw [e2, hq] at this
      cases this
    · rw [i5 q e]
      exact hq
  refine ⟨⟨?_, ?_, ?_⟩, hx, ?_⟩
  · intro q b hq
    by_cases e : F q = some x
    · rw [e] at hq
      cases hq
      obtain ⟨j, hj, e2⟩ := i3 q e
      obtain ⟨a1, a2, a3, a4⟩ := i2 j hj
      have a5 := hge j hj
      rw [e2] at a2 a4 a5
      exact ⟨a2, a5, by omega, hQx, hx, a4⟩
    · rw [i5 q e] at hq
      obtain ⟨a1, a2, a3, a4, a5, a6⟩ := B.1 q b hq
      exact ⟨a1, a2, by omega, a4, hold b b a5, a6⟩
  · intro q hq h1 h2
    by_cases e : q = x
    · rw [e, hx] at h2
      cases h2
    · have h3 := B.2.1 q (by omega) h1
      cases h4 : F0 q with
      | none => exact h3 h4
      | some b => rw [hold q b h4] at h2; cases h2
  · intro p q b ht hp
    by_cases e : F p = some x
    · rw [e] at hp
      cases hp
      obtain ⟨j, hj, e2⟩ := i3 p e
      rw [← e2] at ht
      rcases i6 j hj q ht with h | h
      · exact h
      · exact h.elim
    · rw [i5 p e] at hp
      exact hold q b (B.2.2 p q b ht hp)
  · intro q hq
    by_cases e : F q = some x
    · obtain ⟨j, hj, e2⟩ := i3 q e
      have := hge j hj
      omega
    · exact i5 q e
/-- how many lowest pieces there are under x -/
def rt_cB (F : Nat → Option Nat) (x : Nat) : Nat := (List.range x).countP (fun q => decide (F q = some q))
theorem rt_cB_succ (F : Nat → Option Nat) (x : Nat) : rt_cB F (x + 1) = rt_cB F x + (if F x = some x then 1 else 0) := by
  unfold rt_cB
  rw [List.range_succ, List.countP_append]
  congr 1
  simp only [List.countP_cons, List.countP_nil]
  split <;> split <;> simp_all
theorem rt_cB_eq {F G : Nat → Option Nat} {x : Nat} (h : ∀ q, q < x → F q = G q) : rt_cB F x = rt_cB G x := by
  unfold rt_cB
  refine List.countP_congr ?_
  intro q hq
  rw [h q (List.mem_range.mp hq)]
def rt_nB (Q : Nat → Nat) (N : Nat) (B : Nat → Nat) : Nat := (List.range N).countP (fun q => decide (Q q ≠ 0) && decide (B q = q))
/-- all floods done -/
theorem rt_bI_end {Q : Nat → Nat} {w h : Nat} {F : Nat → Option Nat} (hQ : rt_ok Q (6 * (w * h))) (I : rt_bI Q w h F (6 * (w * h))) : rt_isB Q w h (fun q => (F q).getD 0) ∧ rt_cB F (6 * (w * h)) = rt_nB Q (6 * (w * h)) (fun q => (F q).getD 0) ∧ ∀ q, F q = if Q q ≠ 0 then some ((F q).getD 0) else none := by
  obtain ⟨i1, i2, i3⟩ := I
  have hs : ∀ q, Q q ≠ 0 → ∃ b, F q = some b := by
    intro q hq
    cases h : F q with
    | none => exact absurd h (i2 q (rt_ok_in hQ hq) hq)
    | some b => exact ⟨b, rfl⟩
  have hall : ∀ q, F q = if Q q ≠ 0 then some ((F q).getD 0) else none := by
    intro q
    cases h : F q with
    | none =>
      by_cases e : Q q = 0
      · simp [e]
      · obtain ⟨b, hb⟩ := hs q e
        rw [hb] at h
        cases h
    | some b => rw [if_pos (i1 q b h).1]; rfl
  refine ⟨⟨?_, ?_, ?_⟩, ?_, hall⟩
  · intro p q ht
    obtain ⟨b, hb⟩ := hs p ht.1
    simp only
    rw [i3 p q b ht hb, hb]
  · intro p hp
    obtain ⟨b, hb⟩ := hs p hp
    obtain ⟨a1, a2, a3, a4, a5, a6⟩ := i1 p b hb
    simp only
    rw [hb]
    exact ⟨a2, a4⟩
  · intro p hp S hS hc
    obtain ⟨b, hb⟩ := hs p hp
    simp only
    rw [hb]
    exact (i1 p b hb).2.2.2.2.2 S hS hc
  · unfold rt_cB rt_nB
    refine List.countP_congr ?_
    intro q _
    simp only [Bool.and_eq_true, decide_eq_true_eq]
    constructor
    · intro h
      exact ⟨(i1 q q h).1, by rw [h]; rfl⟩
    · rintro ⟨h1, h2⟩
      obtain ⟨b, hb⟩ := hs q h1
      rw [hb] at h2 ⊢
      simp only [Option.getD_some] at h2
      rw [h2]
