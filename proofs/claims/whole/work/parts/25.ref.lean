/-! PURE: the reference's touch, its pile, its list of pieces -/
def rt_sg (Q : Nat → Nat) (p : Nat) : Nat := 2 * p + (rt_g Q p - 1) % 2
def rt_gu (Q : Nat → Nat) (p e : Nat) : Bool := decide (rt_g Q p ≠ 0) && decide (rt_mt (rt_sg Q p % 12) = e)
def rt_en (p e : Nat) : Bool := decide (rt_ed (2 * (p % 6)) = e) || decide (rt_ed (2 * (p % 6) + 1) = e)
def rt_km (a b : Nat) : Bool := !(decide (a + b = 6) && decide (a ≠ b) && (decide (a = 2) || decide (a = 4))) && !(decide (a + b = 8) && decide (a ≠ b) && (decide (a = 3) || decide (a = 5)))
def rt_te (Q : Nat → Nat) (w h p q e : Nat) : Bool := decide (rt_nb w h (p / 6) (rt_tr e) = some (q / 6)) && rt_en p e && rt_en q (rt_mo e) && !(rt_gu Q p e) && !(rt_gu Q q (rt_mo e))
def rt_tm (Q : Nat → Nat) (w h p q : Nat) : Bool := if p / 6 = q / 6 then rt_km (p % 6) (q % 6) else (List.range 4).any (rt_te Q w h p q)
theorem rt_km_ap : ∀ a, a < 6 → ∀ b, b < 6 → (rt_km a b = true ↔ rt_ap a ≠ b) := by decide +kernel
theorem rt_l1 : ∀ l, l < 12 → ∀ l', l' < 12 → rt_mt l' = rt_mo (rt_mt l) → ∃ i, i < 3 ∧ rt_bg (3 * rt_to l + i) = rt_rv l' := by decide +kernel
theorem rt_l2 : ∀ l, l < 12 → ∀ i, i < 3 → rt_mt (rt_rv (rt_bg (3 * rt_to l + i))) = rt_mo (rt_mt l) := by decide +kernel
theorem rt_l3 : ∀ k, k < 6 → ∀ e, e < 4 → ((decide (rt_ed (2 * k) = e) || decide (rt_ed (2 * k + 1) = e)) = true ↔ ∃ d, d < 2 ∧ rt_mt (2 * k + d) = e) := by decide +kernel
theorem rt_l4 : ∀ k, k < 6 → ∀ d, d < 2 → ∀ d', d' < 2 → rt_mt (2 * k + d) = rt_mt (2 * k + d') → d = d' := by decide +kernel
theorem rt_en_iff {p e : Nat} (he : e < 4) : rt_en p e = true ↔ ∃ d, d < 2 ∧ rt_mt (2 * (p % 6) + d) = e := rt_l3 (p % 6) (Nat.mod_lt _ (by omega)) e he
theorem rt_mo_lt : ∀ e, e < 4 → rt_mo e < 4 := by decide +kernel
/-- a piece guards the edge to which its run d goes just if its signal is for that run -/
theorem rt_gu_hs {Q : Nat → Nat} {p d e : Nat} (hd : d < 2) (he : rt_mt (2 * (p % 6) + d) = e) : rt_gu Q p e = rt_hs Q (2 * p + d) := by
  unfold rt_gu rt_hs rt_sg
  have e1 : (2 * p + d) / 2 = p := by omega
  have e2 : (2 * p + d) % 2 = d := by omega
  have e3 : (2 * p + (rt_g Q p - 1) % 2) % 12 = 2 * (p % 6) + (rt_g Q p - 1) % 2 := by omega
  rw [e1, e2, e3]
  congr 1
  rw [← he]
  have h6 : p % 6 < 6 := Nat.mod_lt _ (by omega)
  have h2 : (rt_g Q p - 1) % 2 < 2 := Nat.mod_lt _ (by omega)
  have := rt_l4 (p % 6) h6 _ h2 d hd
  by_cases c : (rt_g Q p - 1) % 2 = d
  · rw [c]; simp
  · have hne : ¬ rt_mt (2 * (p % 6) + (rt_g Q p - 1) % 2) = rt_mt (2 * (p % 6) + d) := fun z => c (this z)
    simp [c, hne]
theorem rt_tm_tc {Q : Nat → Nat} {w h p q : Nat} (hw : 0 < w) (hQ : rt_ok Q (6 * (w * h))) (hp : Q p ≠ 0) (hq : Q q ≠ 0) : rt_tm Q w h p q = true ↔ rt_tc Q w h p q := by
  have hp6 := rt_ok_in hQ hp
  have hq6 := rt_ok_in hQ hq
  have hpk : p % 6 < 6 := Nat.mod_lt _ (by omega)
  have hqk : q % 6 < 6 := Nat.mod_lt _ (by omega)
  unfold rt_tm
  by_cases hs : p / 6 = q / 6
  · rw [if_pos hs, rt_km_ap _ hpk _ hqk]
    constructor
    · intro h1
      exact ⟨hp, hq, Or.inl ⟨hs, h1⟩⟩
    · rintro ⟨-, -, h1 | ⟨d, i, hd, hi, -, a, h2, -, h3⟩⟩
      · exact h1.2
      · have := (rt_ah_back hw (show 2 * p + d < 12 * (w * h) by omega) hi h2).2.1
        omega
  · rw [if_neg hs, List.any_eq_true]
    constructor
    · rintro ⟨e, he, h1⟩
      have he4 := List.mem_range.mp he
      unfold rt_te at h1
      simp only [Bool.and_eq_true, decide_eq_true_eq, Bool.not_eq_true'] at h1
      obtain ⟨⟨⟨⟨h1, h2⟩, h3⟩, h4⟩, h5⟩ := h1
      obtain ⟨d, hd, h6⟩ := (rt_en_iff he4).mp h2
      obtain ⟨d', hd', h7⟩ := (rt_en_iff (rt_mo_lt e he4)).mp h3
      rw [rt_gu_hs hd h6] at h4
      rw [rt_gu_hs hd' h7] at h5
      obtain ⟨i, hi, h8⟩ := rt_l1 (2 * (p % 6) + d) (by omega) (2 * (q % 6) + d') (by omega) (by rw [h6]; exact h7)
      refine ⟨hp, hq, Or.inr ⟨d, i, hd, hi, h4, 12 * (q / 6) + rt_rv (2 * (q % 6) + d'), ?_, ?_, ?_⟩⟩
      · unfold rt_ah
        have e1 : (2 * p + d) / 12 = p / 6 := by omega
        have e2 : (2 * p + d) % 12 = 2 * (p % 6) + d := by omega
        rw [e1, e2, ← rt_tr_to _ (show 2 * (p % 6) + d < 12 by omega), h6, h1]
        show some _ = some _
        rw [← h6, rt_tr_to _ (show 2 * (p % 6) + d < 12 by omega), h8]
      · rw [← rt_rv_add, rt_rv_rv]
        have e3 : 12 * (q / 6) + (2 * (q % 6) + d') = 2 * q + d' := by omega
        rw [e3]
        exact h5
      · rw [← rt_rv_add, rt_rv_2]
        omega
    · rintro ⟨-, -, h1 | ⟨d, i, hd, hi, h4, a, h2, h5, h3⟩⟩
      · exact absurd h1.1 hs
      · obtain ⟨t, h6, rfl⟩ := rt_ah_some h2
        have e1 : (2 * p + d) / 12 = p / 6 := by omega
        have e2 : (2 * p + d) % 12 = 2 * (p % 6) + d := by omega
        have hl : 2 * (p % 6) + d < 12 := by omega
        rw [e1, e2] at h6
        rw [e2] at h5 h3
        have hb := rt_bgi_lt hl hi
        have h7 := rt_l2 _ hl i hi
        generalize hbe : rt_bg (3 * rt_to (2 * (p % 6) + d) + i) = bb at *
        have hb2 : rt_rv bb < 12 := by have := rt_rv_lt (n := 1) (r := bb) (by omega); omega
        have e4 : t = q / 6 := by omega
        have e5 : rt_rv bb / 2 = q % 6 := by have := rt_rv_2 bb; omega
        have e6 : rt_rv bb = 2 * (q % 6) + rt_rv bb % 2 := by omega
        rw [rt_rv_add] at h5
        have e7 : 12 * t + rt_rv bb = 2 * q + rt_rv bb % 2 := by omega
        rw [e7] at h5
        have hm2 : rt_rv bb % 2 < 2 := Nat.mod_lt _ (by omega)
        have he4 := (rt_mt_lt _ hl).1
        rw [e6] at h7
        refine ⟨rt_mt (2 * (p % 6) + d), List.mem_range.mpr he4, ?_⟩
        unfold rt_te
        simp only [Bool.and_eq_true, decide_eq_true_eq, Bool.not_eq_true']
        refine ⟨⟨⟨⟨?_, ?_⟩, ?_⟩, ?_⟩, ?_⟩
        · rw [rt_tr_to _ hl, h6, e4]
        · exact (rt_en_iff he4).mpr ⟨d, hd, rfl⟩
        · exact (rt_en_iff (rt_mo_lt _ he4)).mpr ⟨rt_rv bb % 2, hm2, h7⟩
        · rw [rt_gu_hs hd rfl]; exact h4
        · rw [rt_gu_hs hm2 h7]; exact h5
-- the reference's pile: k of size places are done
def rt_pI (Q : Nat → Nat) (w h : Nat) (B : Nat → Nat) (Z0 : Nat → Bool) (p : Nat) (Z : Nat → Bool) (R : Nat → Nat) (k sz least : Nat) (pend : Nat → Nat → Prop) : Prop :=
  k ≤ sz ∧ (0 < sz ∧ R 0 = p) ∧ (∀ j, j < sz → Q (R j) ≠ 0 ∧ B (R j) = B p ∧ Z0 (R j) = false) ∧ (∀ i j, i < sz → j < sz → R i = R j → i = j) ∧
  (∀ q, Z q = true ↔ (Z0 q = true ∨ ∃ j, j < sz ∧ R j = q)) ∧ (∀ j, j < k → ∀ q, rt_tc Q w h (R j) q → Z q = true ∨ pend (R j) q) ∧ ((∃ j, j < sz ∧ R j = least) ∧ ∀ j, j < sz → least ≤ R j)
theorem rt_pI_0 {Q : Nat → Nat} {w h : Nat} {B : Nat → Nat} {Z0 : Nat → Bool} {p : Nat} {R : Nat → Nat} (hp : Q p ≠ 0) (hz : Z0 p = false) : rt_pI Q w h B Z0 p (va_up Z0 p true) (va_up R 0 p) 0 1 p (fun _ _ => False) := by
  refine ⟨by omega, ⟨by omega, va_up_self _ _ _⟩, ?_, by intro i j _ _ _; omega, ?_, fun j h => absurd h (Nat.not_lt_zero _), ⟨0, by omega, va_up_self _ _ _⟩, ?_⟩
  · intro j hj
    rw [show j = 0 by omega, va_up_self]
    exact ⟨hp, rfl, hz⟩
  · intro q
    by_cases e : q = p
    · subst e
      rw [va_up_self]
      exact ⟨fun _ => Or.inr ⟨0, by omega, va_up_self _ _ _⟩, fun _ => rfl⟩
    · rw [va_up_ne Z0 _ e]
      constructor
      · exact Or.inl
      · rintro (h1 | ⟨j, hj, e2⟩)
        · exact h1
        · rw [show j = 0 by omega, va_up_self] at e2
          exact absurd e2.symm e
  · intro j hj
    rw [show j = 0 by omega, va_up_self]
    exact Nat.le_refl _
theorem rt_pI_drop {Q : Nat → Nat} {w h : Nat} {B : Nat → Nat} {Z0 Z : Nat → Bool} {p : Nat} {R : Nat → Nat} {k sz least : Nat} {pend pend' : Nat → Nat → Prop} (I : rt_pI Q w h B Z0 p Z R k sz least pend) (hp : ∀ j q, j < k → rt_tc Q w h (R j) q → pend (R j) q → Z q = true ∨ pend' (R j) q) : rt_pI Q w h B Z0 p Z R k sz least pend' := by
  obtain ⟨i1, i2, i3, i4, i5, i6, i7⟩ := I
  refine ⟨i1, i2, i3, i4, i5, ?_, i7⟩
  intro j hj q ht
  rcases i6 j hj q ht with h | h
  · exact Or.inl h
  · exact hp j q hj ht h
theorem rt_pI_take {Q : Nat → Nat} {w h : Nat} {B : Nat → Nat} {Z0 Z : Nat → Bool} {p : Nat} {R : Nat → Nat} {k sz least : Nat} (I : rt_pI Q w h B Z0 p Z R k sz least (fun _ _ => False)) (hl : k < sz) : rt_pI Q w h B Z0 p Z R (k + 1) sz least (fun g _ => g = R k) := by
  obtain ⟨i1, i2, i3, i4, i5, i6, i7⟩ := I
  refine ⟨hl, i2, i3, i4, i5, ?_, i7⟩
  intro j hj q ht
  rcases Nat.lt_or_ge j k with z | z
  · rcases i6 j z q ht with h | h
    · exact Or.inl h
    · exact h.elim
  · exact Or.inr (by rw [show j = k by omega])
theorem rt_pI_join {Q : Nat → Nat} {w h : Nat} {B : Nat → Nat} {Z0 Z : Nat → Bool} {p : Nat} {R : Nat → Nat} {k sz least : Nat} {pend : Nat → Nat → Prop} (hB : rt_isB Q w h B) (I : rt_pI Q w h B Z0 p Z R k sz least pend) {j q : Nat} (hj : j < sz) (ht : rt_tc Q w h (R j) q) (hn : Z q = false) : rt_pI Q w h B Z0 p (va_up Z q true) (va_up R sz q) k (sz + 1) (if q < least then q else least) (fun g r => pend g r ∧ r ≠ q) := by
  obtain ⟨i1, i2, i3, i4, i5, i6, i7⟩ := I
  have hq0 : Z0 q = false := by
    cases hz : Z0 q with
    | false => rfl
    | true => rw [(i5 q).mpr (Or.inl hz)] at hn; cases hn
  have nb : ∀ a, a < sz → R a ≠ q := fun a ha e => by rw [(i5 q).mpr (Or.inr ⟨a, ha, e⟩)] at hn; cases hn
  have ho : ∀ a, a < sz → va_up R sz q a = R a := fun a ha => va_up_ne R q (by omega)
  refine ⟨by omega, ⟨by omega, by rw [ho 0 i2.1]; exact i2.2⟩, ?_, ?_, ?_, ?_, ?_, ?_⟩
  · intro a ha
    rcases Nat.lt_or_ge a sz with z | z
    · rw [ho a z]
      exact i3 a z
    · rw [show a = sz by omega, va_up_self]
      exact ⟨ht.2.1, by rw [← hB.1 _ _ ht]; exact (i3 j hj).2.1, hq0⟩
  · intro a b ha hb e
    rcases Nat.lt_or_ge a sz with z | z <;> rcases Nat.lt_or_ge b sz with z2 | z2
    · rw [ho a z, ho b z2] at e
      exact i4 a b z z2 e
    · rw [show b = sz by omega, ho a z, va_up_self] at e
      exact absurd e (nb a z)
    · rw [show a = sz by omega, ho b z2, va_up_self] at e
      exact absurd e.symm (nb b z2)
    · omega
  · intro x
    by_cases e : x = q
    · subst e
      rw [va_up_self]
      exact ⟨fun _ => Or.inr ⟨sz, by omega, va_up_self _ _ _⟩, fun _ => rfl⟩
    · rw [va_up_ne Z _ e, i5 x]
      constructor
      · rintro (h1 | ⟨a, ha, e2⟩)
        · exact Or.inl h1
        · exact Or.inr ⟨a, by omega, by rw [ho a ha]; exact e2⟩
      · rintro (h1 | ⟨a, ha, e2⟩)
        · exact Or.inl h1
        · rcases Nat.lt_or_ge a sz with z | z
          · exact Or.inr ⟨a, z, by rw [ho a z] at e2; exact e2⟩
          · rw [show a = sz by omega, va_up_self] at e2
            exact absurd e2.symm e
  · intro a ha x hx
    rw [ho a (by omega)] at hx ⊢
    by_cases e : x = q
    · exact Or.inl (by rw [e, va_up_self])
    · rw [va_up_ne Z _ e]
      rcases i6 a ha x hx with h | h
      · exact Or.inl h
      · exact Or.inr ⟨h, e⟩
  · split
    · exact ⟨sz, by omega, va_up_self _ _ _⟩
    · obtain ⟨a, ha, e⟩ := i7.1
      exact ⟨a, by omega, by rw [ho a ha]; exact e⟩
  · intro a ha
    rcases Nat.lt_or_ge a sz with z | z
    · rw [ho a z]
      have := i7.2 a z
      split <;> omega
    · rw [show a = sz by omega, va_up_self]
      split <;> omega
theorem rt_pI_cap {Q : Nat → Nat} {w h : Nat} {B : Nat → Nat} {Z0 Z : Nat → Bool} {p : Nat} {R : Nat → Nat} {k sz least : Nat} {pend : Nat → Nat → Prop} (hQ : rt_ok Q (6 * (w * h))) (I : rt_pI Q w h B Z0 p Z R k sz least pend) : sz ≤ 6 * (w * h) :=
  rt_pig _ sz R (fun j hj => rt_ok_in hQ (I.2.2.1 j hj).1) I.2.2.2.1
/-- what has been reached is closed -/
def rt_zc (Q : Nat → Nat) (w h : Nat) (Z : Nat → Bool) : Prop := rt_cl Q w h (fun q => Z q = true)
theorem rt_pI_end {Q : Nat → Nat} {w h : Nat} {B : Nat → Nat} {Z0 Z : Nat → Bool} {p : Nat} {R : Nat → Nat} {sz least : Nat} (hw : 0 < w) (hQ : rt_ok Q (6 * (w * h))) (hB : rt_isB Q w h B) (h0 : rt_zc Q w h Z0) (I : rt_pI Q w h B Z0 p Z R sz sz least (fun _ _ => False)) : least = B p ∧ rt_zc Q w h Z ∧ ∀ q, Q q ≠ 0 → (Z q = true ↔ (Z0 q = true ∨ B q = B p)) := by
  obtain ⟨i1, i2, i3, i4, i5, i6, i7⟩ := I
  have hcl : rt_cl Q w h (fun x => ∃ j, j < sz ∧ R j = x) := by
    rintro x y ⟨j, hj, rfl⟩ ht
    rcases i6 j hj y ht with h1 | h1
    · rcases (i5 y).mp h1 with h2 | h2
      · have h3 : Z0 (R j) = true := h0 y (R j) h2 (rt_tc_symm hw hQ ht)
        rw [(i3 j hj).2.2] at h3
        cases h3
      · exact h2
    · exact h1.elim
  have hp0 : Q p ≠ 0 := by
    have := (i3 0 i2.1).1
    rwa [i2.2] at this
  have hBp := hB.2.2 p hp0 _ ⟨0, i2.1, i2.2⟩ hcl
  refine ⟨?_, ?_, ?_⟩
  · obtain ⟨a, ha, e⟩ := hBp
    obtain ⟨b, hb, e2⟩ := i7.1
    have h1 := i7.2 a ha
    have h2 := (hB.2.1 (R b) (i3 b hb).1).1
    rw [(i3 b hb).2.1] at h2
    omega
  · intro x y hx ht
    rcases (i5 x).mp hx with h1 | h1
    · exact (i5 y).mpr (Or.inl (h0 x y h1 ht))
    · exact (i5 y).mpr (Or.inr (hcl x y h1 ht))
  · intro q hq
    rw [i5 q]
    constructor
    · rintro (h1 | ⟨j, hj, rfl⟩)
      · exact Or.inl h1
      · exact Or.inr (i3 j hj).2.1
    · rintro (h1 | h1)
      · exact Or.inl h1
      · refine Or.inr ?_
        by_cases hx : ∃ j, j < sz ∧ R j = q
        · exact hx
        · have := hB.2.2 q hq (fun x => ¬ ∃ j, j < sz ∧ R j = x) hx (fun x y hn ht hy => hn (hcl y x hy (rt_tc_symm hw hQ ht)))
          rw [h1] at this
          exact absurd hBp this
-- the list of the pieces
def rt_isL (Q : Nat → Nat) (L : Nat → Nat) (c : Nat) : Prop := (∀ i, i < c → Q (L i) ≠ 0) ∧ (∀ i j, i < c → j < c → L i = L j → i = j) ∧ ∀ p, Q p ≠ 0 → ∃ i, i < c ∧ L i = p
theorem rt_isL_cap {Q : Nat → Nat} {L : Nat → Nat} {c N : Nat} (hQ : rt_ok Q N) (h : rt_isL Q L c) : c ≤ N := rt_pig N c L (fun j hj => rt_ok_in hQ (h.1 j hj)) h.2.1
theorem rt_nodup {L : Nat → Nat} {c : Nat} (h : ∀ i j, i < c → j < c → L i = L j → i = j) : ((List.range c).map L).Nodup := by
  unfold List.Nodup
  rw [List.pairwise_map]
  refine List.Pairwise.imp_of_mem ?_ (List.nodup_range (n := c))
  intro a b ha hb hne e
  exact hne (h a b (List.mem_range.mp ha) (List.mem_range.mp hb) e)
theorem rt_isL_perm {Q : Nat → Nat} {L : Nat → Nat} {c N : Nat} (hQ : rt_ok Q N) (h : rt_isL Q L c) : ((List.range c).map L).Perm ((List.range N).filter (fun p => decide (Q p ≠ 0))) := by
  refine (List.perm_ext_iff_of_nodup (rt_nodup h.2.1) (List.Pairwise.filter _ List.nodup_range)).mpr ?_
  intro a
  simp only [List.mem_map, List.mem_range, List.mem_filter, decide_eq_true_eq]
  constructor
  · rintro ⟨i, hi, rfl⟩
    exact ⟨rt_ok_in hQ (h.1 i hi), h.1 i hi⟩
  · rintro ⟨-, h2⟩
    exact h.2.2 a h2
/-- what is counted along the list is counted along the map -/
theorem rt_isL_cnt {Q : Nat → Nat} {L : Nat → Nat} {c N : Nat} (hQ : rt_ok Q N) (h : rt_isL Q L c) (f : Nat → Bool) : (List.range c).countP (fun i => f (L i)) = (List.range N).countP (fun p => decide (Q p ≠ 0) && f p) := by
  have h1 := (rt_isL_perm hQ h).countP_eq f
  rw [List.countP_map, List.countP_filter] at h1
  have h2 : (List.range N).countP (fun a => f a && decide (Q a ≠ 0)) = (List.range N).countP (fun p => decide (Q p ≠ 0) && f p) := by
    refine List.countP_congr ?_
    intro x _
    rw [Bool.and_comm]
  rw [← h2]
  exact h1
theorem rt_cnt_one {p q : Nat → Bool} {x : Nat} : ∀ N, x < N → (∀ y, y ≠ x → p y = q y) → p x = false → q x = true → (List.range N).countP q = (List.range N).countP p + 1 := by
  intro N
  induction N with
  | zero => intro h; omega
  | succ N ih =>
    intro h h1 h2 h3
    rw [List.range_succ, List.countP_append, List.countP_append]
    simp only [List.countP_cons, List.countP_nil]
    by_cases e : x = N
    · subst e
      have : (List.range x).countP q = (List.range x).countP p := by
        refine List.countP_congr ?_
        intro y hy
        have := List.mem_range.mp hy
        rw [h1 y (by omega)]
      rw [this, h2, h3]
      simp
    · rw [ih (by omega) h1 h2 h3, h1 N (fun z => e z.symm)]
      omega
/-- lay: one more in the list -/
theorem rt_isL_lay {Q : Nat → Nat} {L : Nat → Nat} {c p v : Nat} (h : rt_isL Q L c) (hp : Q p = 0) (hv : v ≠ 0) : rt_isL (va_up Q p v) (va_up L c p) (c + 1) := by
  obtain ⟨i1, i2, i3⟩ := h
  have ho : ∀ i, i < c → va_up L c p i = L i := fun i hi => va_up_ne L p (by omega)
  have nb : ∀ i, i < c → L i ≠ p := fun i hi e => i1 i hi (by rw [e]; exact hp)
  refine ⟨?_, ?_, ?_⟩
  · intro i hi
    rcases Nat.lt_or_ge i c with z | z
    · rw [ho i z, va_up_ne Q _ (nb i z)]
      exact i1 i z
    · rw [show i = c by omega, va_up_self, va_up_self]
      exact hv
  · intro i j hi hj e
    rcases Nat.lt_or_ge i c with z | z <;> rcases Nat.lt_or_ge j c with z2 | z2
    · rw [ho i z, ho j z2] at e
      exact i2 i j z z2 e
    · rw [show j = c by omega, ho i z, va_up_self] at e
      exact absurd e (nb i z)
    · rw [show i = c by omega, ho j z2, va_up_self] at e
      exact absurd e.symm (nb j z2)
    · omega
  · intro q hq
    by_cases e : q = p
    · exact ⟨c, by omega, by rw [va_up_self, e]⟩
    · rw [va_up_ne Q _ e] at hq
      obtain ⟨i, hi, e2⟩ := i3 q hq
      exact ⟨i, by omega, by rw [ho i hi]; exact e2⟩
/-- lift: the last one comes into its place -/
theorem rt_isL_lift {Q : Nat → Nat} {L : Nat → Nat} {c a : Nat} (h : rt_isL Q L (c + 1)) (ha : a < c + 1) : rt_isL (va_up Q (L a) 0) (va_up L a (L c)) c := by
  obtain ⟨i1, i2, i3⟩ := h
  have hL : ∀ i, i < c → ∃ k, k < c + 1 ∧ k ≠ a ∧ va_up L a (L c) i = L k ∧ (k = c ∧ i = a ∨ k = i ∧ i ≠ a) := by
    intro i hi
    by_cases e : i = a
    · subst e
      exact ⟨c, by omega, by omega, va_up_self _ _ _, Or.inl ⟨rfl, rfl⟩⟩
    · exact ⟨i, by omega, e, va_up_ne L _ e, Or.inr ⟨rfl, e⟩⟩
  refine ⟨?_, ?_, ?_⟩
  · intro i hi
    obtain ⟨k, hk, hka, e, -⟩ := hL i hi
    rw [e, va_up_ne Q _ (fun z => hka (i2 k a hk ha z))]
    exact i1 k hk
  · intro i j hi hj e
    obtain ⟨k, hk, hka, e1, h1⟩ := hL i hi
    obtain ⟨k2, hk2, hka2, e2, h2⟩ := hL j hj
    rw [e1, e2] at e
    have := i2 k k2 hk hk2 e
    omega
  · intro q hq
    by_cases e : q = L a
    · rw [e, va_up_self] at hq
      exact absurd rfl hq
    · rw [va_up_ne Q _ e] at hq
      obtain ⟨i, hi, e2⟩ := i3 q hq
      by_cases hic : i = c
      · subst hic
        have hai : a ≠ i := fun z => e (by rw [z]; exact e2.symm)
        exact ⟨a, by omega, by rw [va_up_self]; exact e2⟩
      · have hia : i ≠ a := fun z => e (by rw [← z]; exact e2.symm)
        exact ⟨i, by omega, by rw [va_up_ne L _ hia]; exact e2⟩
theorem rt_isL_keep {Q : Nat → Nat} {L : Nat → Nat} {c p v : Nat} (h : rt_isL Q L c) (hp : Q p ≠ 0) (hv : v ≠ 0) : rt_isL (va_up Q p v) L c := by
  obtain ⟨i1, i2, i3⟩ := h
  refine ⟨?_, i2, ?_⟩
  · intro i hi
    by_cases e : L i = p
    · rw [e, va_up_self]; exact hv
    · rw [va_up_ne Q _ e]; exact i1 i hi
  · intro q hq
    by_cases e : q = p
    · subst e; exact i3 q hp
    · rw [va_up_ne Q _ e] at hq; exact i3 q hq
