/-! PURE: the reference's rounds come to the same costs; the cheapest next run; the route -/
def rt_E : Nat := 1000000000
/-- a cost as the reference's row has it -/
def rt_cE : Option Nat → Nat
  | none => rt_E
  | some c => c
/-- the reference's onward(run), over a list of followers -/
def rt_on (K : Nat → Nat) (l : List Nat) : Nat := l.foldl (fun b f => if K f < rt_E ∧ rt_ln f + K f < b then rt_ln f + K f else b) rt_E
theorem rt_on_app (K : Nat → Nat) (l : List Nat) (f : Nat) : rt_on K (l ++ [f]) = if K f < rt_E ∧ rt_ln f + K f < rt_on K l then rt_ln f + K f else rt_on K l := by
  unfold rt_on
  rw [List.foldl_append]
  rfl
theorem rt_on_le (K : Nat → Nat) (l : List Nat) : rt_on K l ≤ rt_E ∧ ∀ f, f ∈ l → K f < rt_E → rt_on K l ≤ rt_ln f + K f := by
  suffices H : ∀ (l2 : List Nat), rt_on K l2.reverse ≤ rt_E ∧ ∀ f, f ∈ l2.reverse → K f < rt_E → rt_on K l2.reverse ≤ rt_ln f + K f by
    have := H l.reverse
    rwa [List.reverse_reverse] at this
  intro l2
  induction l2 with
  | nil => exact ⟨Nat.le_refl _, fun f hf => by simp at hf⟩
  | cons a l ih =>
    rw [List.reverse_cons, rt_on_app]
    constructor
    · split
      · next h => have := ih.1; omega
      · exact ih.1
    · intro f hf hk
      rcases List.mem_append.mp hf with hf | hf
      · have := ih.2 f hf hk
        split <;> omega
      · rw [List.mem_singleton] at hf
        subst hf
        split <;> omega
theorem rt_on_at (K : Nat → Nat) (l : List Nat) : rt_on K l = rt_E ∨ ∃ f, f ∈ l ∧ K f < rt_E ∧ rt_on K l = rt_ln f + K f := by
  suffices H : ∀ (l2 : List Nat), rt_on K l2.reverse = rt_E ∨ ∃ f, f ∈ l2.reverse ∧ K f < rt_E ∧ rt_on K l2.reverse = rt_ln f + K f by
    have := H l.reverse
    rwa [List.reverse_reverse] at this
  intro l2
  induction l2 with
  | nil => exact Or.inl rfl
  | cons a l ih =>
    rw [List.reverse_cons, rt_on_app]
    split
    · next h => exact Or.inr ⟨a, by simp, h.1, rfl⟩
    · rcases ih with h | ⟨f, h1, h2, h3⟩
      · exact Or.inl h
      · exact Or.inr ⟨f, List.mem_append_left _ h1, h2, h3⟩
/-- the reference's row is never under the costs -/
def rt_lb (Q : Nat → Nat) (w h st : Nat) (C : Nat → Option Nat) (K : Nat → Nat) : Prop :=
  ∀ r, rt_op Q (w * h) r = true → rt_cE (C r) ≤ K r ∧ K r ≤ rt_E ∧ (rt_tg Q w h st r = true → K r = 0)
def rt_small (C : Nat → Option Nat) : Prop := ∀ r c, C r = some c → c ≤ 76800
theorem rt_lb_0 {Q : Nat → Nat} {w h st : Nat} {C : Nat → Option Nat} {K : Nat → Nat} (hC : rt_isC Q w h st C) (hs : rt_small C) (hK : ∀ r, rt_op Q (w * h) r = true → K r = if rt_tg Q w h st r = true then 0 else rt_E) : rt_lb Q w h st C K := by
  intro r hr
  rw [hK r hr]
  split
  · next ht => rw [hC.2.1 r ht]; exact ⟨Nat.le_refl _, Nat.zero_le _, fun _ => rfl⟩
  · next ht =>
    refine ⟨?_, Nat.le_refl _, fun h => absurd h ht⟩
    cases hc : C r with
    | none => exact Nat.le_refl _
    | some c => have := hs r c hc; show c ≤ rt_E; unfold rt_E; omega
theorem rt_lb_ne {Q : Nat → Nat} {w h st : Nat} {C : Nat → Option Nat} {K : Nat → Nat} (hC : rt_isC Q w h st C) (I : rt_lb Q w h st C K) {r : Nat} (hr : rt_op Q (w * h) r = true) : K r = 0 ↔ rt_tg Q w h st r = true := by
  constructor
  · intro h0
    have h1 := (I r hr).1
    cases hc : C r with
    | none => rw [hc] at h1; simp only [rt_cE, rt_E] at h1; omega
    | some c =>
      rw [hc] at h1
      simp only [rt_cE] at h1
      exact (rt_isC_pos hC).mp (by rw [hc]; congr 1; omega)
  · exact (I r hr).2.2
/-- what a run's onward says is no less than its cost -/
theorem rt_lb_on {Q : Nat → Nat} {w h st : Nat} {C : Nat → Option Nat} {K : Nat → Nat} (hC : rt_isC Q w h st C) (hs : rt_small C) (I : rt_lb Q w h st C K) {r : Nat} (hr : rt_op Q (w * h) r = true) (ht : rt_tg Q w h st r = false) : rt_cE (C r) ≤ rt_on K (rt_nx Q w h r) := by
  rcases rt_on_at K (rt_nx Q w h r) with e | ⟨f, h1, h2, h3⟩
  · rw [e]
    cases hc : C r with
    | none => exact Nat.le_refl _
    | some c => have := hs r c hc; show c ≤ rt_E; unfold rt_E; omega
  · have ho := (rt_mem_nx.mp h1).choose_spec.2.2
    have h4 := (I f ho).1
    cases hc : C f with
    | none => rw [hc] at h4; simp only [rt_cE] at h4; omega
    | some c =>
      rw [hc] at h4
      simp only [rt_cE] at h4
      obtain ⟨c', h5, h6⟩ := hC.2.2.1 r f c hr ht h1 hc
      rw [h5, h3]
      show c' ≤ _
      omega
theorem rt_lb_step {Q : Nat → Nat} {w h st : Nat} {C : Nat → Option Nat} {K : Nat → Nat} (hC : rt_isC Q w h st C) (hs : rt_small C) (I : rt_lb Q w h st C K) {r : Nat} (hr : rt_op Q (w * h) r = true) (h0 : K r ≠ 0) (hlt : rt_on K (rt_nx Q w h r) < K r) : rt_lb Q w h st C (va_up K r (rt_on K (rt_nx Q w h r))) := by
  have ht : rt_tg Q w h st r = false := by
    cases ht : rt_tg Q w h st r with
    | false => rfl
    | true => exact absurd ((I r hr).2.2 ht) h0
  intro q hq
  by_cases e : q = r
  · subst e
    rw [va_up_self]
    exact ⟨rt_lb_on hC hs I hr ht, (rt_on_le _ _).1, fun h => by rw [ht] at h; cases h⟩
  · rw [va_up_ne K _ e]
    exact I q hq
/-- where no run's onward is less, the reference's row holds the costs -/
theorem rt_lb_end {Q : Nat → Nat} {w h st : Nat} {C : Nat → Option Nat} {K : Nat → Nat} (hC : rt_isC Q w h st C) (hs : rt_small C) (I : rt_lb Q w h st C K) (hx : ∀ r, rt_op Q (w * h) r = true → K r ≠ 0 → K r ≤ rt_on K (rt_nx Q w h r)) {r : Nat} (hr : rt_op Q (w * h) r = true) : K r = rt_cE (C r) := by
  cases hc : C r with
  | none =>
    have h1 := I r hr
    rw [hc] at h1
    exact Nat.le_antisymm h1.2.1 h1.1
  | some c0 =>
    suffices H : ∀ n r c, c ≤ n → C r = some c → K r ≤ c by
      have h1 := (I r hr).1
      rw [hc] at h1
      exact Nat.le_antisymm (H c0 r c0 (Nat.le_refl _) hc) h1
    intro n
    induction n with
    | zero =>
      intro r c h1 h2
      have ht : rt_tg Q w h st r = true := (rt_isC_pos hC).mp (by rw [h2]; congr 1; omega)
      rw [(I r (hC.1 r c h2)).2.2 ht]
      omega
    | succ n ih =>
      intro r c h1 h2
      have ho := hC.1 r c h2
      cases ht : rt_tg Q w h st r with
      | true => rw [(I r ho).2.2 ht]; omega
      | false =>
        obtain ⟨f, h3, c1, h4, h5⟩ := hC.2.2.2 r c h2 ht
        have hl := rt_ln_in f
        have h6 := ih f c1 (by omega) h4
        have h7 := hs f c1 h4
        by_cases h0 : K r = 0
        · omega
        · have h8 := hx r ho h0
          have h9 := (rt_on_le K (rt_nx Q w h r)).2 f h3 (by unfold rt_E; omega)
          omega
-- sums, for the rounds' end
def rt_sum (f : Nat → Nat) : Nat → Nat
  | 0 => 0
  | n + 1 => rt_sum f n + f n
theorem rt_sum_eq {f g : Nat → Nat} : ∀ n, (∀ j, j < n → f j = g j) → rt_sum f n = rt_sum g n := by
  intro n
  induction n with
  | zero => intro _; rfl
  | succ n ih =>
    intro h
    show rt_sum f n + f n = rt_sum g n + g n
    rw [ih (fun j hj => h j (by omega)), h n (by omega)]
theorem rt_sum_up {f : Nat → Nat} {k v : Nat} : ∀ n, k < n → rt_sum (va_up f k v) n + f k = rt_sum f n + v := by
  intro n
  induction n with
  | zero => intro h; omega
  | succ n ih =>
    intro h
    show rt_sum (va_up f k v) n + va_up f k v n + f k = rt_sum f n + f n + v
    by_cases e : k = n
    · subst e
      rw [va_up_self, rt_sum_eq (g := f) k (fun j hj => va_up_ne f _ (by omega))]
      omega
    · have := ih (by omega)
      rw [va_up_ne f _ (show n ≠ k from fun q => e q.symm)]
      omega
-- the cheapest next run: of several the first
def rt_bs (C : Nat → Option Nat) (b : Option Nat) (f : Nat) : Option Nat := match C f with
  | none => b
  | some c => match b with
    | none => some f
    | some g => if rt_ln f + c < rt_ln g + (C g).getD 0 then some f else some g
def rt_best (C : Nat → Option Nat) (l : List Nat) : Option Nat := l.foldl (rt_bs C) none
theorem rt_best_app (C : Nat → Option Nat) (l : List Nat) (f : Nat) : rt_best C (l ++ [f]) = rt_bs C (rt_best C l) f := by
  unfold rt_best
  rw [List.foldl_append]
  rfl
theorem rt_best_in (C : Nat → Option Nat) (l : List Nat) : match rt_best C l with
    | none => ∀ f, f ∈ l → C f = none
    | some g => g ∈ l ∧ ∃ c, C g = some c ∧ ∀ f d, f ∈ l → C f = some d → rt_ln g + c ≤ rt_ln f + d := by
  suffices H : ∀ (l2 : List Nat), match rt_best C l2.reverse with
    | none => ∀ f, f ∈ l2.reverse → C f = none
    | some g => g ∈ l2.reverse ∧ ∃ c, C g = some c ∧ ∀ f d, f ∈ l2.reverse → C f = some d → rt_ln g + c ≤ rt_ln f + d by
    have := H l.reverse
    rwa [List.reverse_reverse] at this
  intro l2
  induction l2 with
  | nil => intro f hf; simp at hf
  | cons a l ih =>
    rw [List.reverse_cons, rt_best_app]
    unfold rt_bs
    cases ha : C a with
    | none =>
      cases hb : rt_best C l.reverse with
      | none =>
        rw [hb] at ih
        simp only at ih ⊢
        intro f hf
        rcases List.mem_append.mp hf with hf | hf
        · exact ih f hf
        · rw [List.mem_singleton] at hf; rw [hf]; exact ha
      | some g =>
        rw [hb] at ih
        simp only at ih ⊢
        obtain ⟨h1, c, h2, h3⟩ := ih
        refine ⟨List.mem_append_left _ h1, c, h2, ?_⟩
        intro f d hf hd
        rcases List.mem_append.mp hf with hf | hf
        · exact h3 f d hf hd
        · rw [List.mem_singleton] at hf; rw [hf, ha] at hd; cases hd
    | some x =>
      cases hb : rt_best C l.reverse with
      | none =>
        rw [hb] at ih
        simp only at ih ⊢
        refine ⟨by simp, x, ha, ?_⟩
        intro f d hf hd
        rcases List.mem_append.mp hf with hf | hf
        · rw [ih f hf] at hd; cases hd
        · rw [List.mem_singleton] at hf; rw [hf, ha] at hd; cases hd; rw [hf]; exact Nat.le_refl _
      | some g =>
        rw [hb] at ih
        simp only at ih ⊢
        obtain ⟨h1, c, h2, h3⟩ := ih
        rw [h2]
        simp only [Option.getD_some]
        by_cases hlt : rt_ln a + x < rt_ln g + c
        · rw [if_pos hlt]
          dsimp only
          refine ⟨by simp, x, ha, ?_⟩
          intro f d hf hd
          rcases List.mem_append.mp hf with hf | hf
          · have := h3 f d hf hd; omega
          · rw [List.mem_singleton] at hf; rw [hf, ha] at hd; cases hd; rw [hf]; exact Nat.le_refl _
        · rw [if_neg hlt]
          dsimp only
          refine ⟨List.mem_append_left _ h1, c, h2, ?_⟩
          intro f d hf hd
          rcases List.mem_append.mp hf with hf | hf
          · exact h3 f d hf hd
          · rw [List.mem_singleton] at hf; rw [hf, ha] at hd; cases hd; rw [hf]; omega
/-- a run with a cost that is no target goes on to a cheaper one -/
theorem rt_best_on {Q : Nat → Nat} {w h st : Nat} {C : Nat → Option Nat} (hC : rt_isC Q w h st C) {r c : Nat} (hc : C r = some c) (h0 : c ≠ 0) : ∃ f c', rt_best C (rt_nx Q w h r) = some f ∧ f ∈ rt_nx Q w h r ∧ C f = some c' ∧ c' < c := by
  have ht : rt_tg Q w h st r = false := by
    cases ht : rt_tg Q w h st r with
    | false => rfl
    | true => rw [hC.2.1 r ht] at hc; cases hc; exact absurd rfl h0
  obtain ⟨f, h1, d, h2, h3⟩ := hC.2.2.2 r c hc ht
  have hb := rt_best_in C (rt_nx Q w h r)
  cases hz : rt_best C (rt_nx Q w h r) with
  | none => rw [hz] at hb; simp only at hb; rw [hb f h1] at h2; cases h2
  | some g =>
    rw [hz] at hb
    simp only at hb
    obtain ⟨h4, c', h5, h6⟩ := hb
    have := h6 f d h1 h2
    have := rt_ln_in g
    exact ⟨g, c', rfl, h4, h5, by omega⟩
/-- run k of the route from r on -/
def rt_rt (Q : Nat → Nat) (w h : Nat) (C : Nat → Option Nat) : Nat → Nat → Option Nat
  | 0, r => rt_best C (rt_nx Q w h r)
  | k + 1, r => match rt_best C (rt_nx Q w h r) with
    | none => none
    | some f => if (rt_hs Q f || decide (C f = some 0)) = true then none else rt_rt Q w h C k f
/-- how many runs are cheaper -/
def rt_rk (C : Nat → Option Nat) (N c : Nat) : Nat := (List.range N).countP (fun r => match C r with
  | none => false
  | some d => decide (d < c))
theorem rt_cnt_lt {p q : Nat → Bool} {x : Nat} : ∀ (l : List Nat), (∀ y, y ∈ l → p y = true → q y = true) → x ∈ l → p x = false → q x = true → l.countP p < l.countP q := by
  intro l
  induction l with
  | nil => intro _ h; cases h
  | cons a l ih =>
    intro h1 h2 h3 h4
    rw [List.countP_cons, List.countP_cons]
    rcases List.mem_cons.mp h2 with e | hx
    · subst e
      have := List.countP_mono_left (l := l) (p := p) (q := q) (fun y hy => h1 y (List.mem_cons_of_mem _ hy))
      rw [h3, h4]
      simp
      omega
    · have := ih (fun y hy => h1 y (List.mem_cons_of_mem _ hy)) hx h3 h4
      have h5 := h1 a List.mem_cons_self
      split
      · next hp => rw [h5 hp]; simp; omega
      · split <;> omega
theorem rt_rk_lt {C : Nat → Option Nat} {N f d c : Nat} (hf : f < N) (hd : C f = some d) (hlt : d < c) : rt_rk C N d < rt_rk C N c := by
  unfold rt_rk
  refine rt_cnt_lt (x := f) _ ?_ (List.mem_range.mpr hf) (by rw [hd]; simp) (by rw [hd]; simpa using hlt)
  intro y _ hy
  cases hz : C y with
  | none => rw [hz] at hy; cases hy
  | some z =>
    rw [hz] at hy
    simp only [decide_eq_true_eq] at hy ⊢
    omega
theorem rt_rk_le (C : Nat → Option Nat) (N c : Nat) : rt_rk C N c ≤ N := by
  unfold rt_rk
  have := List.countP_le_length (l := List.range N) (p := fun r => match C r with
    | none => false
    | some d => decide (d < c))
  rwa [List.length_range] at this
