/-! SMALL: the pile while one piece's neighbours are sought; counts along the list -/
def rt_zu (Z : Nat → Bool) (i : Nat) : Nat → Bool := fun p => if p < i then false else Z p
theorem rt_zu_s (Z : Nat → Bool) (i j : Nat) : upd (fun p => rt_b (rt_zu Z i p)) i (vp_nar .boolean (rt_b false)) j = rt_b (rt_zu Z (i + 1) j) := by
  have e : vp_nar .boolean (rt_b false) = rt_b false := rfl
  rw [e]
  unfold upd rt_zu
  by_cases h1 : j = i
  · rw [if_pos h1, if_pos (by omega)]
  · rw [if_neg h1]
    dsimp only
    by_cases h2 : j < i
    · rw [if_pos h2, if_pos (by omega)]
    · rw [if_neg h2, if_neg (by omega)]
theorem rt_zu_0 (Z : Nat → Bool) (j : Nat) : rt_zu Z 0 j = Z j := if_neg (Nat.not_lt_zero j)
theorem rt_zu_e {Z : Nat → Bool} {j : Nat} (h : j < 2400) : rt_zu Z 2400 j = false := if_pos h
theorem rt_zc_0 (Q : Nat → Nat) (w h : Nat) : rt_zc Q w h (fun _ => false) := fun x y hx _ => (by cases hx)
def rt_pJ (Q : Nat → Nat) (w h : Nat) (B : Nat → Nat) (Z0 : Nat → Bool) (p0 : Nat) (L : Nat → Nat) (k f0 i : Nat) (Z : Nat → Bool) (R : Nat → Nat) (sz least : Nat) : Prop := rt_pI Q w h B Z0 p0 Z R (k + 1) sz least (fun g q => g = f0 ∧ ∀ j, j < i → L j ≠ q) ∧ R k = f0 ∧ k < sz
theorem rt_pJ_0 {Q : Nat → Nat} {w h : Nat} {B : Nat → Nat} {Z0 : Nat → Bool} {p0 : Nat} {L : Nat → Nat} {k : Nat} {Z : Nat → Bool} {R : Nat → Nat} {sz least : Nat} (I : rt_pI Q w h B Z0 p0 Z R k sz least (fun _ _ => False)) (hl : k < sz) : rt_pJ Q w h B Z0 p0 L k (R k) 0 Z R sz least :=
  ⟨rt_pI_drop (rt_pI_take I hl) (fun j q _ _ hp => Or.inr ⟨hp, fun j hj => absurd hj (Nat.not_lt_zero j)⟩), rfl, hl⟩
theorem rt_pJ_skip {Q : Nat → Nat} {w h : Nat} {B : Nat → Nat} {Z0 : Nat → Bool} {p0 : Nat} {L : Nat → Nat} {k f0 i : Nat} {Z : Nat → Bool} {R : Nat → Nat} {sz least : Nat} (J : rt_pJ Q w h B Z0 p0 L k f0 i Z R sz least) (hx : Z (L i) = true ∨ ¬ rt_tc Q w h f0 (L i)) : rt_pJ Q w h B Z0 p0 L k f0 (i + 1) Z R sz least := by
  refine ⟨rt_pI_drop J.1 ?_, J.2⟩
  rintro j q _ ht ⟨h1, h2⟩
  by_cases e : L i = q
  · rcases hx with hz | hz
    · exact Or.inl (by rw [← e]; exact hz)
    · rw [h1, ← e] at ht
      exact absurd ht hz
  · refine Or.inr ⟨h1, fun j2 hj2 => ?_⟩
    rcases Nat.lt_or_ge j2 i with z | z
    · exact h2 j2 z
    · rw [show j2 = i by omega]
      exact e
theorem rt_pJ_join {Q : Nat → Nat} {w h : Nat} {B : Nat → Nat} {Z0 : Nat → Bool} {p0 : Nat} {L : Nat → Nat} {k f0 i : Nat} {Z : Nat → Bool} {R : Nat → Nat} {sz least : Nat} (hB : rt_isB Q w h B) (J : rt_pJ Q w h B Z0 p0 L k f0 i Z R sz least) (hn : Z (L i) = false) (ht : rt_tc Q w h f0 (L i)) : rt_pJ Q w h B Z0 p0 L k f0 (i + 1) (va_up Z (L i) true) (va_up R sz (L i)) (sz + 1) (if L i < least then L i else least) := by
  have hj := rt_pI_join (q := L i) hB J.1 J.2.2 (by rw [J.2.1]; exact ht) hn
  refine ⟨rt_pI_drop hj ?_, by rw [va_up_ne R _ (by have := J.2.2; omega)]; exact J.2.1, by have := J.2.2; omega⟩
  rintro j q _ _ ⟨⟨h1, h2⟩, h3⟩
  refine Or.inr ⟨h1, fun j2 hj2 => ?_⟩
  rcases Nat.lt_or_ge j2 i with z | z
  · exact h2 j2 z
  · rw [show j2 = i by omega]
    exact fun e => h3 e.symm
theorem rt_pJ_end {Q : Nat → Nat} {w h : Nat} {B : Nat → Nat} {Z0 : Nat → Bool} {p0 : Nat} {L : Nat → Nat} {k f0 cn : Nat} {Z : Nat → Bool} {R : Nat → Nat} {sz least : Nat} (hL : rt_isL Q L cn) (J : rt_pJ Q w h B Z0 p0 L k f0 cn Z R sz least) : rt_pI Q w h B Z0 p0 Z R (k + 1) sz least (fun _ _ => False) := by
  refine rt_pI_drop J.1 ?_
  rintro j q _ ht ⟨h1, h2⟩
  obtain ⟨i, hi, e⟩ := hL.2.2 q ht.2.1
  exact absurd e (h2 i hi)
/-- blocks counted along the list -/
def rt_kI (Q : Nat → Nat) (w h : Nat) (B : Nat → Nat) (L : Nat → Nat) (i : Nat) (Z : Nat → Bool) (c : Nat) : Prop := rt_zc Q w h Z ∧ (∀ q, Q q ≠ 0 → (Z q = true ↔ ∃ j, j < i ∧ B q = B (L j))) ∧ c = (List.range (6 * (w * h))).countP (fun q => (decide (Q q ≠ 0) && decide (B q = q)) && Z q)
theorem rt_kI_0 (Q : Nat → Nat) (w h : Nat) (B L : Nat → Nat) : rt_kI Q w h B L 0 (fun _ => false) 0 := by
  refine ⟨rt_zc_0 Q w h, fun q _ => ⟨fun z => (by cases z), fun ⟨j, hj, _⟩ => absurd hj (Nat.not_lt_zero j)⟩, ?_⟩
  symm
  rw [List.countP_eq_zero]
  intro q _
  simp
theorem rt_kI_skip {Q : Nat → Nat} {w h : Nat} {B L : Nat → Nat} {i : Nat} {Z : Nat → Bool} {c : Nat} (hq : Q (L i) ≠ 0) (I : rt_kI Q w h B L i Z c) (hz : Z (L i) = true) : rt_kI Q w h B L (i + 1) Z c := by
  refine ⟨I.1, fun q h1 => (I.2.1 q h1).trans ⟨fun ⟨j, hj, e⟩ => ⟨j, by omega, e⟩, fun ⟨j, hj, e⟩ => ?_⟩, I.2.2⟩
  rcases Nat.lt_or_ge j i with z | z
  · exact ⟨j, z, e⟩
  · rw [show j = i by omega] at e
    obtain ⟨j2, h2, e2⟩ := (I.2.1 (L i) hq).mp hz
    exact ⟨j2, h2, e.trans e2⟩
theorem rt_kI_add {Q : Nat → Nat} {w h : Nat} {B L : Nat → Nat} {i : Nat} {Z Z' : Nat → Bool} {c : Nat} (hQ : rt_ok Q (6 * (w * h))) (hB : rt_isB Q w h B) (hq : Q (L i) ≠ 0) (I : rt_kI Q w h B L i Z c) (hz : Z (L i) = false) (h1 : rt_zc Q w h Z') (h2 : ∀ q, Q q ≠ 0 → (Z' q = true ↔ (Z q = true ∨ B q = B (L i)))) : rt_kI Q w h B L (i + 1) Z' (c + 1) := by
  refine ⟨h1, fun q hq9 => (h2 q hq9).trans ⟨?_, ?_⟩, ?_⟩
  · rintro (z | z)
    · obtain ⟨j, hj, e⟩ := (I.2.1 q hq9).mp z
      exact ⟨j, by omega, e⟩
    · exact ⟨i, by omega, z⟩
  · rintro ⟨j, hj, e⟩
    rcases Nat.lt_or_ge j i with z | z
    · exact Or.inl ((I.2.1 q hq9).mpr ⟨j, z, e⟩)
    · rw [show j = i by omega] at e
      exact Or.inr e
  · rw [I.2.2]
    have hb := hB.2.1 (L i) hq
    have hbb := rt_isB_B hB hq
    have hzb : Z (B (L i)) = false := by
      cases hc : Z (B (L i)) with
      | false => rfl
      | true =>
        obtain ⟨j, hj, e⟩ := (I.2.1 _ hb.2).mp hc
        rw [(I.2.1 (L i) hq).mpr ⟨j, hj, by rw [← e, hbb]⟩] at hz
        cases hz
    symm
    refine rt_cnt_one (x := B (L i)) (6 * (w * h)) (rt_ok_in hQ hb.2) ?_ (by rw [hzb, Bool.and_false]) ?_
    · intro q hne
      by_cases g1 : Q q ≠ 0
      · by_cases g2 : B q = q
        · have g3 : Z q = Z' q := by
            cases g4 : Z q with
            | true => rw [(h2 q g1).mpr (Or.inl g4)]
            | false =>
              cases g5 : Z' q with
              | false => rfl
              | true =>
                rcases (h2 q g1).mp g5 with z | z
                · rw [z] at g4; cases g4
                · exact absurd (g2.symm.trans z) hne
          rw [g3]
        · rw [decide_eq_false g2]; simp
      · rw [decide_eq_false g1]; simp
    · rw [decide_eq_true hb.2, decide_eq_true hbb, (h2 _ hb.2).mpr (Or.inr hbb)]
      rfl
theorem rt_kI_end {Q : Nat → Nat} {w h : Nat} {B L : Nat → Nat} {cn : Nat} {Z : Nat → Bool} {c : Nat} (hL : rt_isL Q L cn) (I : rt_kI Q w h B L cn Z c) : c = rt_nB Q (6 * (w * h)) B := by
  rw [I.2.2]
  unfold rt_nB
  refine List.countP_congr ?_
  intro q _
  by_cases g1 : Q q ≠ 0
  · obtain ⟨j, hj, e⟩ := hL.2.2 q g1
    rw [(I.2.1 q g1).mpr ⟨j, hj, by rw [e]⟩, Bool.and_true]
  · rw [decide_eq_false g1]
    simp
theorem rt_cm {Q L : Nat → Nat} {cn N b : Nat} {f : Nat → Bool} (hQ : rt_ok Q N) (hL : rt_isL Q L cn) (hf : ∀ p, Q p ≠ 0 → (f p = true ↔ Q p &&& b ≠ 0)) (h0 : 0 &&& b = 0) : (List.range cn).countP (fun i => f (L i)) = (List.range N).countP (fun q => decide (Q q &&& b ≠ 0)) := by
  rw [rt_isL_cnt hQ hL f]
  refine List.countP_congr ?_
  intro q _
  rw [Bool.and_eq_true, decide_eq_true_eq, decide_eq_true_eq]
  constructor
  · rintro ⟨h1, h2⟩
    exact (hf q h1).mp h2
  · intro h1
    have h2 : Q q ≠ 0 := fun z => h1 (by rw [z]; exact h0)
    exact ⟨h2, (hf q h2).mpr h1⟩
theorem rt_cm_0 {Q L : Nat → Nat} {cn n : Nat} (hQ : rt_ok Q (6 * n)) (hL : rt_isL Q L cn) : rt_count Q n (nI 0) = nI cn := by
  rw [rt_count_s.1, ← rt_cm (f := fun _ => true) hQ hL (fun p hp => ⟨fun _ z => hp (((rt_and2 _ (rt_ok_lt hQ p) (rt_ok_4 hQ p)).1).mp z), fun _ => rfl⟩) rfl]
  rw [List.countP_eq_length.mpr (fun _ _ => rfl), List.length_range]
theorem rt_cm_1 {Q L : Nat → Nat} {cn n : Nat} (hQ : rt_ok Q (6 * n)) (hL : rt_isL Q L cn) : rt_count Q n (nI 1) = nI ((List.range cn).countP (fun i => decide (rt_g Q (L i) ≠ 0))) := by
  rw [rt_count_s.2.1, ← rt_cm (f := fun p => decide (rt_g Q p ≠ 0)) hQ hL (fun p hp => by
    rw [decide_eq_true_eq]
    exact not_congr ((rt_and2 _ (rt_ok_lt hQ p) (rt_ok_4 hQ p)).2.1).symm) rfl]
theorem rt_cm_2 {Q L : Nat → Nat} {cn n : Nat} (hQ : rt_ok Q (6 * n)) (hL : rt_isL Q L cn) : rt_count Q n (nI 2) = nI ((List.range cn).countP (fun i => decide (rt_s Q (L i) ≠ 0))) := by
  rw [rt_count_s.2.2, ← rt_cm (f := fun p => decide (rt_s Q p ≠ 0)) hQ hL (fun p hp => by
    rw [decide_eq_true_eq]
    exact not_congr ((rt_and2 _ (rt_ok_lt hQ p) (rt_ok_4 hQ p)).2.2).symm) rfl]
theorem rt_blk_f {Q : Nat → Nat} {n : Nat} {B : Nat → Nat} {x y : Int32} (hn : n < 2 ^ 31) (h : rt_isP Q n x y = false) : rt_blk Q n B x y = -1 := by
  rcases pk_ix x hn with q | q | ⟨t, ht, rfl⟩
  · exact rt_blk_n (Or.inl (rt_ix_none (Or.inl q)))
  · exact rt_blk_n (Or.inl (rt_ix_none (Or.inr q)))
  · rcases pk_ix y (n := 6) (by decide) with q | q | ⟨k, hk, rfl⟩
    · exact rt_blk_n (Or.inr (rt_ix_none (Or.inl q)))
    · exact rt_blk_n (Or.inr (rt_ix_none (Or.inr q)))
    · rw [rt_isP_s hn ht hk] at h
      rw [rt_blk_s hn ht hk, if_neg (of_decide_eq_false h)]
      rfl
theorem rt_isP_is {Q : Nat → Nat} {n : Nat} {x y : Int32} (hn : n < 2 ^ 31) (h : rt_isP Q n x y = true) : ∃ t k, t < n ∧ k < 6 ∧ x = nI t ∧ y = nI k ∧ Q (6 * t + k) ≠ 0 := by
  rcases pk_ix x hn with q | q | ⟨t, ht, rfl⟩
  · rw [rt_isP_n (Or.inl (rt_ix_none (Or.inl q)))] at h; cases h
  · rw [rt_isP_n (Or.inl (rt_ix_none (Or.inr q)))] at h; cases h
  · rcases pk_ix y (n := 6) (by decide) with q | q | ⟨k, hk, rfl⟩
    · rw [rt_isP_n (Or.inr (rt_ix_none (Or.inl q)))] at h; cases h
    · rw [rt_isP_n (Or.inr (rt_ix_none (Or.inr q)))] at h; cases h
    · rw [rt_isP_s hn ht hk] at h
      exact ⟨t, k, ht, hk, rfl, rfl, of_decide_eq_true h⟩
theorem rt_gt3 {y : Int32} (h : ¬ y ≤ nI 3) : nI 4 ≤ y := by
  rcases pk_ix y (n := 4) (by decide) with q | q | ⟨j, hj, rfl⟩
  · exact absurd (Int32.le_of_lt (Int32.lt_of_lt_of_le q (by decide))) h
  · exact q
  · exact absurd (nI_le (by omega) (by decide)) h
