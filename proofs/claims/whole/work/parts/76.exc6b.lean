/-! numbers of the changes -/
theorem rt_rq_0 {Q : Nat → Nat} {k : Nat} (h : rt_rq Q k = 0) : Q k ≠ 0 := by
  unfold rt_rq at h
  split at h
  · cases h
  · next q => exact q
theorem rt_rq_1 {Q : Nat → Nat} {k : Nat} (h : rt_rq Q k ≠ 0) : rt_rq Q k = 2 ∧ Q k = 0 := by
  unfold rt_rq at h ⊢
  split at h
  · next q => rw [if_pos q]; exact ⟨rfl, q⟩
  · exact absurd rfl h
theorem rt_lt2 {u : Int32} (h : u < nI 2) : ¬ nI 1 < u := by
  rw [Int32.lt_iff_toInt_lt, nI_toInt (by decide)] at h
  rw [Int32.lt_iff_toInt_lt, nI_toInt (by decide)]
  omega
theorem rt_ge2 {u : Int32} (h : ¬ u < nI 2) : nI 1 < u := by
  rw [Int32.lt_iff_toInt_lt, nI_toInt (by decide)] at h
  rw [Int32.lt_iff_toInt_lt, nI_toInt (by decide)]
  omega
theorem rt_sv_n0 {v u : Int32} (h : v = -1) : rt_sv v u = 0 := if_pos h
theorem rt_m1 : (-1 : Int32).toInt = -1 := rfl
theorem rt_nn {v : Int32} (h1 : ¬ v < -1) (h2 : ¬ v = -1) : ¬ v < 0 := by
  intro z
  apply h2
  rw [Int32.lt_iff_toInt_lt] at h1 z
  apply Int32.toInt_inj.mp
  have e0 : (0 : Int32).toInt = 0 := rfl
  rw [rt_m1] at h1 ⊢
  rw [e0] at z
  omega
theorem rt_sv_y0 {v u : Int32} {X : Prop} (h : ¬ (X ∨ v < -1 ∨ nI 1 < v ∨ u < 0 ∨ nI 1 < u)) (hv : ¬ v = -1) : nI 1 + v + nI 2 * u = nI (rt_sv v u) := by
  obtain ⟨j, hj, rfl⟩ : ∃ k : Nat, k ≤ 1 ∧ u = nI k := nI_of2 (M := nI 1) rfl (fun q => h (Or.inr (Or.inr (Or.inr (Or.inl q))))) (Int32.not_lt.mp (fun q => h (Or.inr (Or.inr (Or.inr (Or.inr q))))))
  obtain ⟨i, hi, rfl⟩ : ∃ k : Nat, k ≤ 1 ∧ v = nI k := nI_of2 (M := nI 1) rfl (rt_nn (fun q => h (Or.inr (Or.inl q))) hv) (Int32.not_lt.mp (fun q => h (Or.inr (Or.inr (Or.inl q)))))
  unfold rt_sv
  rw [if_neg hv, nI_clamp (by omega), nI_clamp (by omega)]
  have h9 : (i = 0 ∨ i = 1) ∧ (j = 0 ∨ j = 1) := by omega
  obtain ⟨rfl | rfl, rfl | rfl⟩ := h9 <;> rfl
theorem rt_sub1 (n : Nat) : nI n - 1 + 1 = nI n := Int32.sub_add_cancel _ _
theorem rt_pv1 {v : Int32} (h : v = -1) : ¬ (v < -1 ∨ nI 7 < v) := by
  subst h
  decide
theorem rt_pv2 {v : Int32} (h : (rt_ix v 8).isSome = true) : ¬ (v < -1 ∨ nI 7 < v) := by
  obtain ⟨j, hj, rfl⟩ := rt_ix_is (by decide) h
  rintro (q | q)
  · rw [Int32.lt_iff_toInt_lt, nI_toInt (by omega), rt_m1] at q
    omega
  · rw [Int32.lt_iff_toInt_lt, nI_toInt (by omega), nI_toInt (by omega)] at q
    omega
theorem rt_pv3 {v : Int32} (h1 : ¬ v = -1) (h : (rt_ix v 8).isSome = false) : v < -1 ∨ nI 7 < v := by
  by_cases q : v < -1 ∨ nI 7 < v
  · exact q
  · exfalso
    obtain ⟨i, hi, rfl⟩ : ∃ k : Nat, k ≤ 7 ∧ v = nI k := nI_of2 (M := nI 7) rfl (rt_nn (fun z => q (Or.inl z)) h1) (Int32.not_lt.mp (fun z => q (Or.inr z)))
    rw [rt_ix_some (by decide) (by omega)] at h
    cases h
theorem rt_pvr {v : Int32} (h : ¬ (v < -1 ∨ nI 7 < v)) : (v + 1).toInt = v.toInt + 1 ∧ -1 ≤ v.toInt ∧ v.toInt ≤ 7 := by
  have a1 : ¬ v < -1 := fun z => h (Or.inl z)
  have a2 : ¬ nI 7 < v := fun z => h (Or.inr z)
  rw [Int32.lt_iff_toInt_lt] at a1 a2
  rw [nI_toInt (by decide)] at a2
  rw [rt_m1] at a1
  refine ⟨?_, by omega, by omega⟩
  rw [Int32.toInt_add]
  have e2 : (1 : Int32).toInt = 1 := rfl
  rw [e2, Int.bmod_eq_of_le (by omega) (by omega)]
theorem rt_pv4 {v : Int32} (h : ¬ (v < -1 ∨ nI 7 < v)) : (v + 1).toNatClampNeg ≤ 8 := by
  obtain ⟨h1, h2, h3⟩ := rt_pvr h
  show (v + 1).toInt.toNat ≤ 8
  omega
theorem rt_pv5 {v : Int32} (h : ¬ (v < -1 ∨ nI 7 < v)) : v + 1 = nI (v + 1).toNatClampNeg := by
  obtain ⟨h1, h2, h3⟩ := rt_pvr h
  apply Int32.toInt_inj.mp
  have h4 := rt_pv4 h
  rw [nI_toInt (by omega)]
  show (v + 1).toInt = ((v + 1).toInt.toNat : Int)
  omega
