/-! SMALL: the reference's touch by its cases; numbers of signals and stations -/
theorem rt_km_t {a b : Nat} (hx : ¬ ((a + b = 6 ∧ a ≠ b ∧ (a = 2 ∨ a = 4)) ∨ (a + b = 8 ∧ a ≠ b ∧ (a = 3 ∨ a = 5)))) : rt_km a b = true := by
  unfold rt_km
  simp only [Bool.and_eq_true, Bool.not_eq_true', Bool.and_eq_false_iff, Bool.or_eq_false_iff, decide_eq_false_iff_not]
  omega
theorem rt_km_f {a b : Nat} (hx : (a + b = 6 ∧ a ≠ b ∧ (a = 2 ∨ a = 4)) ∨ (a + b = 8 ∧ a ≠ b ∧ (a = 3 ∨ a = 5))) : rt_km a b = false := by
  cases hk : rt_km a b with
  | false => rfl
  | true =>
    unfold rt_km at hk
    simp only [Bool.and_eq_true, Bool.not_eq_true', Bool.and_eq_false_iff, Bool.or_eq_false_iff, decide_eq_false_iff_not] at hk
    omega
theorem rt_tm_s {Q : Nat → Nat} {w h p q : Nat} (hs : p / 6 = q / 6) : rt_tm Q w h p q = rt_km (p % 6) (q % 6) := if_pos hs
theorem rt_tm_t {Q : Nat → Nat} {w h p q e : Nat} (hs : ¬ p / 6 = q / 6) (he : e < 4) (ht : rt_te Q w h p q e = true) : rt_tm Q w h p q = true := by
  unfold rt_tm
  rw [if_neg hs, List.any_eq_true]
  exact ⟨e, List.mem_range.mpr he, ht⟩
theorem rt_tm_f {Q : Nat → Nat} {w h p q : Nat} (hs : ¬ p / 6 = q / 6) (ht : ∀ e, e < 4 → rt_te Q w h p q e = false) : rt_tm Q w h p q = false := by
  unfold rt_tm
  rw [if_neg hs, List.any_eq_false]
  intro e he
  rw [ht e (List.mem_range.mp he)]
  simp
theorem rt_te_t {Q : Nat → Nat} {w h p q e t : Nat} (h1 : rt_nb w h (p / 6) (rt_tr e) = some t) (h2 : t = q / 6) (h3 : rt_en p e = true) (h4 : rt_en q (rt_mo e) = true) (h5 : rt_gu Q p e = false) (h6 : rt_gu Q q (rt_mo e) = false) : rt_te Q w h p q e = true := by
  unfold rt_te
  rw [h1, h2, h3, h4, h5, h6]
  simp
theorem rt_te_f {Q : Nat → Nat} {w h p q e : Nat} (hx : rt_nb w h (p / 6) (rt_tr e) ≠ some (q / 6) ∨ rt_en p e = false ∨ rt_en q (rt_mo e) = false ∨ rt_gu Q p e = true ∨ rt_gu Q q (rt_mo e) = true) : rt_te Q w h p q e = false := by
  unfold rt_te
  rcases hx with q | q | q | q | q
  · rw [decide_eq_false q]; rfl
  · rw [q]; simp
  · rw [q]; simp
  · rw [q]; simp
  · rw [q]; simp
theorem rt_v01 {v : Int32} (h1 : ¬ v < -1) (h2 : ¬ nI 1 < v) (h3 : ¬ v = -1) : ∃ j : Nat, j ≤ 1 ∧ v = nI j := by
  rcases pk_ix v (n := 2) (by decide) with q | q | ⟨j, hj, rfl⟩
  · exfalso
    have a1 := Int32.lt_iff_toInt_lt.mp q
    have a2 := mt Int32.lt_iff_toInt_lt.mpr h1
    have a3 : ¬ v.toInt = (-1 : Int32).toInt := fun z => h3 (Int32.toInt_inj.mp z)
    have e1 : (-1 : Int32).toInt = -1 := by decide
    have e2 : (0 : Int32).toInt = 0 := by decide
    omega
  · exfalso
    exact h2 (Int32.lt_of_lt_of_le (by decide) q)
  · exact ⟨j, by omega, rfl⟩
theorem rt_u01 {v : Int32} (h1 : ¬ v < 0) (h2 : v ≤ nI 1) : ∃ j : Nat, j ≤ 1 ∧ v = nI j := nI_of2 (M := nI 1) rfl h1 h2
theorem rt_vp8 {v : Int32} (h1 : ¬ v < -1) (h2 : v ≤ nI 7) : ∃ s : Nat, s ≤ 8 ∧ v + 1 = nI s ∧ (v + 1).toNatClampNeg = s := by
  by_cases h3 : v = -1
  · exact ⟨0, by decide, by rw [h3]; decide, by rw [h3]; decide⟩
  · have h4 : ¬ v < 0 := by
      intro q
      have a1 := Int32.lt_iff_toInt_lt.mp q
      have a2 := mt Int32.lt_iff_toInt_lt.mpr h1
      have a3 : ¬ v.toInt = (-1 : Int32).toInt := fun z => h3 (Int32.toInt_inj.mp z)
      have e1 : (-1 : Int32).toInt = -1 := by decide
      have e2 : (0 : Int32).toInt = 0 := by decide
      omega
    obtain ⟨j, hj, rfl⟩ := nI_of2 (M := nI 7) (n := 7) (nI_toInt (by decide)) h4 h2
    exact ⟨j + 1, by omega, nI_1 j, by rw [nI_1, nI_clamp (by omega)]⟩
theorem rt_sv_n (u : Int32) : rt_sv (-1) u = 0 := if_pos rfl
theorem rt_sv_s {j k : Nat} (hj : j ≤ 1) (hk : k ≤ 1) : rt_sv (nI j) (nI k) = 1 + j + 2 * k := by
  unfold rt_sv
  rw [if_neg (rt_o_ne j (by omega)), nI_clamp (by omega), nI_clamp (by omega)]
theorem rt_nle1 {u : Int32} (h : ¬ u ≤ nI 1) : nI 1 < u := Int32.not_le.mp h
theorem rt_nle7 {u : Int32} (h : ¬ u ≤ nI 7) : nI 7 < u := Int32.not_le.mp h
theorem rt_ed_lt : ∀ k, k < 12 → rt_ed k < 4 := by decide +kernel
theorem rt_tr_lt : ∀ k, k < 4 → rt_tr k < 4 := by decide +kernel
