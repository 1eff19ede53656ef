/-! PURE: costs: what they are, that there is one such function alone; the class's two queues; the reference's rounds -/
def rt_ln (r : Nat) : Nat := if r / 2 % 6 < 2 then 16 else 12
def rt_st (r : Nat) : Bool := decide (r / 2 % 6 < 2)
def rt_cv (r : Nat) : Bool := !(rt_st r)
theorem rt_ln_st {r : Nat} (h : rt_st r = true) : rt_ln r = 16 := if_pos (of_decide_eq_true h)
theorem rt_ln_cv {r : Nat} (h : rt_cv r = true) : rt_ln r = 12 := by
  unfold rt_cv rt_st at h
  unfold rt_ln
  rw [if_neg]
  simpa using h
theorem rt_ln_in (r : Nat) : 12 ≤ rt_ln r ∧ rt_ln r ≤ 16 := by
  unfold rt_ln
  split <;> omega
def rt_tg (Q : Nat → Nat) (w h st r : Nat) : Bool := rt_op Q (w * h) r && decide (rt_s Q (r / 2) = st + 1) && (rt_nx Q w h r).all (fun f => decide (rt_s Q (f / 2) ≠ st + 1))
def rt_isC (Q : Nat → Nat) (w h st : Nat) (C : Nat → Option Nat) : Prop :=
  (∀ r c, C r = some c → rt_op Q (w * h) r = true) ∧
  (∀ r, rt_tg Q w h st r = true → C r = some 0) ∧
  (∀ r f c, rt_op Q (w * h) r = true → rt_tg Q w h st r = false → f ∈ rt_nx Q w h r → C f = some c → ∃ c', C r = some c' ∧ c' ≤ rt_ln f + c) ∧
  (∀ r c', C r = some c' → rt_tg Q w h st r = false → ∃ f, f ∈ rt_nx Q w h r ∧ ∃ c, C f = some c ∧ c' = rt_ln f + c)
theorem rt_isC_pos {Q : Nat → Nat} {w h st : Nat} {C : Nat → Option Nat} (hC : rt_isC Q w h st C) {r : Nat} : C r = some 0 ↔ rt_tg Q w h st r = true := by
  constructor
  · intro h0
    cases ht : rt_tg Q w h st r with
    | true => rfl
    | false =>
      obtain ⟨f, -, c, -, h1⟩ := hC.2.2.2 r 0 h0 ht
      have := rt_ln_in f
      omega
  · exact hC.2.1 r
-- one queue of the class: row R, places hd .. tl wait, M: the last that was taken
def rt_qI (P : Nat → Bool) (F : Nat → Option Nat) (R : Nat → Nat) (hd tl M : Nat) : Prop :=
  hd ≤ tl ∧ (∀ j, j < tl → P (R j) = true ∧ F (R j) ≠ none) ∧ (∀ r, P r = true → F r ≠ none → ∃ j, j < tl ∧ R j = r) ∧
  (∀ i j, i < tl → j < tl → R i = R j → i = j) ∧
  (∀ i j a b, i ≤ j → j < tl → F (R i) = some a → F (R j) = some b → a ≤ b) ∧
  (∀ j a, hd ≤ j → j < tl → F (R j) = some a → M ≤ a + rt_ln (R j))
def rt_cI (Q : Nat → Nat) (w h st : Nat) (F : Nat → Option Nat) (RS : Nat → Nat) (hS tS : Nat) (RC : Nat → Nat) (hC tC M : Nat) (T : Nat → Prop) (pend : Nat → Nat → Prop) : Prop :=
  rt_qI rt_st F RS hS tS M ∧ rt_qI rt_cv F RC hC tC M ∧
  (∀ r c, F r = some c → rt_op Q (w * h) r = true ∧ c ≤ M) ∧
  (∀ r, rt_tg Q w h st r = true → T r → F r = some 0) ∧
  (∀ r c, F r = some c → rt_tg Q w h st r = false → ∃ f, f ∈ rt_nx Q w h r ∧ ∃ c', F f = some c' ∧ c = rt_ln f + c') ∧
  (∀ g c, ((∃ j, j < hS ∧ RS j = g) ∨ (∃ j, j < hC ∧ RC j = g)) → F g = some c → ∀ r, rt_op Q (w * h) r = true → g ∈ rt_nx Q w h r → (∃ c', F r = some c' ∧ c' ≤ rt_ln g + c) ∨ pend g r)
theorem rt_cI_0 (Q : Nat → Nat) (w h st : Nat) (RS RC : Nat → Nat) (pend : Nat → Nat → Prop) : rt_cI Q w h st (fun _ => none) RS 0 0 RC 0 0 0 (fun _ => False) pend := by
  refine ⟨⟨Nat.le_refl _, ?_, ?_, ?_, ?_, ?_⟩, ⟨Nat.le_refl _, ?_, ?_, ?_, ?_, ?_⟩, ?_, ?_, ?_, ?_⟩
  · intro j h; omega
  · intro r _ h; exact absurd rfl h
  · intro i j h; omega
  · intro i j a b _ h; omega
  · intro j a _ h; omega
  · intro j h; omega
  · intro r _ h; exact absurd rfl h
  · intro i j h; omega
  · intro i j a b _ h; omega
  · intro j a _ h; omega
  · intro r c h; cases h
  · intro r _ h; exact h.elim
  · intro r c h; cases h
  · intro g c _ h; cases h
theorem rt_cI_drop {Q : Nat → Nat} {w h st : Nat} {F : Nat → Option Nat} {RS : Nat → Nat} {hS tS : Nat} {RC : Nat → Nat} {hC tC M : Nat} {T T' : Nat → Prop} {pend pend' : Nat → Nat → Prop} (I : rt_cI Q w h st F RS hS tS RC hC tC M T pend)
    (hT : ∀ r, rt_tg Q w h st r = true → T' r → T r ∨ F r = some 0)
    (hp : ∀ g r c, pend g r → rt_op Q (w * h) r = true → g ∈ rt_nx Q w h r → F g = some c → (∃ c', F r = some c' ∧ c' ≤ rt_ln g + c) ∨ pend' g r) : rt_cI Q w h st F RS hS tS RC hC tC M T' pend' := by
  obtain ⟨i1, i2, i3, i4, i5, i6⟩ := I
  refine ⟨i1, i2, i3, ?_, i5, ?_⟩
  · intro r h1 h2
    rcases hT r h1 h2 with h | h
    · exact i4 r h1 h
    · exact h
  · intro g c h1 h2 r h3 h4
    rcases i6 g c h1 h2 r h3 h4 with h | h
    · exact Or.inl h
    · exact hp g r c h h3 h4 h2
theorem rt_up_s {α : Type} (f : Nat → α) (k : Nat) (v : α) : va_up f k v k = v := va_up_self f k v
/-- a queue that gets one more -/
theorem rt_qI_add {P : Nat → Bool} {F : Nat → Option Nat} {R : Nat → Nat} {hd tl M b : Nat} (I : rt_qI P F R hd tl M) (hP : P b = true) (hb : F b = none) (hM : ∀ r c, F r = some c → c ≤ M) : rt_qI P (va_up F b (some M)) (va_up R tl b) hd (tl + 1) M := by
  obtain ⟨i1, i2, i3, i4, i5, i6⟩ := I
  have nb : ∀ j, j < tl → R j ≠ b := fun j hj e => (i2 j hj).2 (by rw [e]; exact hb)
  have ho : ∀ j, j < tl → va_up R tl b j = R j := fun j hj => va_up_ne R b (by omega)
  have hF : ∀ j, j < tl → va_up F b (some M) (R j) = F (R j) := fun j hj => va_up_ne F _ (nb j hj)
  refine ⟨by omega, ?_, ?_, ?_, ?_, ?_⟩
  · intro j hj
    rcases Nat.lt_or_ge j tl with q | q
    · rw [ho j q, hF j q]
      exact i2 j q
    · have : j = tl := by omega
      subst this
      rw [va_up_self, va_up_self]
      exact ⟨hP, by simp⟩
  · intro r h1 h2
    by_cases hr : r = b
    · exact ⟨tl, by omega, by rw [va_up_self, hr]⟩
    · rw [va_up_ne F _ hr] at h2
      obtain ⟨j, hj, e⟩ := i3 r h1 h2
      exact ⟨j, by omega, by rw [ho j hj]; exact e⟩
  · intro i j hi hj e
    rcases Nat.lt_or_ge i tl with q | q <;> rcases Nat.lt_or_ge j tl with q2 | q2
    · rw [ho i q, ho j q2] at e
      exact i4 i j q q2 e
    · have : j = tl := by omega
      subst this
      rw [ho i q, va_up_self] at e
      exact absurd e (nb i q)
    · have : i = tl := by omega
      subst this
      rw [ho j q2, va_up_self] at e
      exact absurd e.symm (nb j q2)
    · omega
  · intro i j a c hij hj ha hc
    rcases Nat.lt_or_ge j tl with q2 | q2
    · have q : i < tl := by omega
      rw [ho i q, hF i q] at ha
      rw [ho j q2, hF j q2] at hc
      exact i5 i j a c hij q2 ha hc
    · have : j = tl := by omega
      subst this
      rw [va_up_self, va_up_self] at hc
      cases hc
      rcases Nat.lt_or_ge i j with q | q
      · rw [ho i q, hF i q] at ha
        exact hM _ _ ha
      · have : i = j := by omega
        subst this
        rw [va_up_self, va_up_self] at ha
        cases ha
        exact Nat.le_refl _
  · intro j a h1 h2 ha
    rcases Nat.lt_or_ge j tl with q | q
    · rw [ho j q, hF j q] at ha
      rw [ho j q]
      exact i6 j a h1 q ha
    · have : j = tl := by omega
      subst this
      rw [va_up_self, va_up_self] at ha
      cases ha
      omega
/-- the other queue, when one is settled that isn't of its sort -/
theorem rt_qI_oth {P : Nat → Bool} {F : Nat → Option Nat} {R : Nat → Nat} {hd tl M b : Nat} {v : Option Nat} (I : rt_qI P F R hd tl M) (hP : P b = false) : rt_qI P (va_up F b v) R hd tl M := by
  obtain ⟨i1, i2, i3, i4, i5, i6⟩ := I
  have nb : ∀ r, P r = true → r ≠ b := fun r hr e => by rw [e, hP] at hr; cases hr
  have hF : ∀ j, j < tl → va_up F b v (R j) = F (R j) := fun j hj => va_up_ne F _ (nb _ (i2 j hj).1)
  refine ⟨i1, ?_, ?_, i4, ?_, ?_⟩
  · intro j hj
    rw [hF j hj]
    exact i2 j hj
  · intro r h1 h2
    rw [va_up_ne F _ (nb r h1)] at h2
    exact i3 r h1 h2
  · intro i j a c hij hj ha hc
    rw [hF i (by omega)] at ha
    rw [hF j hj] at hc
    exact i5 i j a c hij hj ha hc
  · intro j a h1 h2 ha
    rw [hF j h2] at ha
    exact i6 j a h1 h2 ha
/-- one more run is settled, at M -/
theorem rt_cI_settle {Q : Nat → Nat} {w h st : Nat} {F : Nat → Option Nat} {RS : Nat → Nat} {hS tS : Nat} {RC : Nat → Nat} {hC tC M b : Nat} {T : Nat → Prop} {pend : Nat → Nat → Prop} (I : rt_cI Q w h st F RS hS tS RC hC tC M T pend)
    (hb : F b = none) (ho : rt_op Q (w * h) b = true) (h0 : rt_tg Q w h st b = true → M = 0) (h7 : rt_tg Q w h st b = false → ∃ f, f ∈ rt_nx Q w h b ∧ ∃ c', F f = some c' ∧ M = rt_ln f + c')
    (hp : ∀ g c, pend g b → F g = some c → M ≤ rt_ln g + c) :
    (rt_st b = true → rt_cI Q w h st (va_up F b (some M)) (va_up RS tS b) hS (tS + 1) RC hC tC M (fun r => T r ∨ r = b) (fun g r => pend g r ∧ r ≠ b)) ∧
    (rt_st b = false → rt_cI Q w h st (va_up F b (some M)) RS hS tS (va_up RC tC b) hC (tC + 1) M (fun r => T r ∨ r = b) (fun g r => pend g r ∧ r ≠ b)) := by
  obtain ⟨i1, i2, i3, i4, i5, i6⟩ := I
  have hM : ∀ r c, F r = some c → c ≤ M := fun r c h => (i3 r c h).2
  have k3 : ∀ r c, va_up F b (some M) r = some c → rt_op Q (w * h) r = true ∧ c ≤ M := by
    intro r c hr
    by_cases e : r = b
    · subst e
      rw [va_up_self] at hr
      cases hr
      exact ⟨ho, Nat.le_refl _⟩
    · rw [va_up_ne F _ e] at hr
      exact i3 r c hr
  have k4 : ∀ r, rt_tg Q w h st r = true → (T r ∨ r = b) → va_up F b (some M) r = some 0 := by
    intro r h1 h2
    by_cases e : r = b
    · subst e
      rw [va_up_self, h0 h1]
    · rw [va_up_ne F _ e]
      exact i4 r h1 (h2.resolve_right e)
  have kk : ∀ f c', F f = some c' → va_up F b (some M) f = some c' := by
    intro f c' hf
    have e : f ≠ b := fun e => by rw [e, hb] at hf; cases hf
    rw [va_up_ne F _ e]
    exact hf
  have k5 : ∀ r c, va_up F b (some M) r = some c → rt_tg Q w h st r = false → ∃ f, f ∈ rt_nx Q w h r ∧ ∃ c', va_up F b (some M) f = some c' ∧ c = rt_ln f + c' := by
    intro r c hr ht
    by_cases e : r = b
    · subst e
      rw [va_up_self] at hr
      cases hr
      obtain ⟨f, h1, c', h2, h3⟩ := h7 ht
      exact ⟨f, h1, c', kk f c' h2, h3⟩
    · rw [va_up_ne F _ e] at hr
      obtain ⟨f, h1, c', h2, h3⟩ := i5 r c hr ht
      exact ⟨f, h1, c', kk f c' h2, h3⟩
  have k6 : ∀ g c, F g ≠ none → ((∃ c', F g = some c') → ∀ r, rt_op Q (w * h) r = true → g ∈ rt_nx Q w h r → ∀ c1, F g = some c1 → (∃ c', F r = some c' ∧ c' ≤ rt_ln g + c1) ∨ pend g r) → va_up F b (some M) g = some c → ∀ r, rt_op Q (w * h) r = true → g ∈ rt_nx Q w h r → (∃ c', va_up F b (some M) r = some c' ∧ c' ≤ rt_ln g + c) ∨ (pend g r ∧ r ≠ b) := by
    intro g c hn hh hg r h1 h2
    have e : g ≠ b := fun e => hn (by rw [e]; exact hb)
    rw [va_up_ne F _ e] at hg
    rcases hh ⟨c, hg⟩ r h1 h2 c hg with ⟨c', h3, h4⟩ | h3
    · exact Or.inl ⟨c', kk r c' h3, h4⟩
    · by_cases e2 : r = b
      · subst e2
        exact Or.inl ⟨M, va_up_self _ _ _, hp g c h3 hg⟩
      · exact Or.inr ⟨h3, e2⟩
  constructor
  · intro hs
    refine ⟨rt_qI_add i1 hs hb hM, rt_qI_oth i2 (by unfold rt_cv; rw [hs]; rfl), k3, k4, k5, ?_⟩
    intro g c hg hc
    have hold : (∃ j, j < hS ∧ RS j = g) ∨ (∃ j, j < hC ∧ RC j = g) := by
      rcases hg with ⟨j, hj, e⟩ | h
      · refine Or.inl ⟨j, hj, ?_⟩
        rw [va_up_ne RS _ (by have := i1.1; omega)] at e
        exact e
      · exact Or.inr h
    have hn : F g ≠ none := by
      rcases hold with ⟨j, hj, e⟩ | ⟨j, hj, e⟩
      · rw [← e]; exact (i1.2.1 j (by have := i1.1; omega)).2
      · rw [← e]; exact (i2.2.1 j (by have := i2.1; omega)).2
    exact k6 g c hn (fun _ r h1 h2 c1 h3 => i6 g c1 hold h3 r h1 h2) hc
  · intro hs
    refine ⟨rt_qI_oth i1 hs, rt_qI_add i2 (by unfold rt_cv; rw [hs]; rfl) hb hM, k3, k4, k5, ?_⟩
    intro g c hg hc
    have hold : (∃ j, j < hS ∧ RS j = g) ∨ (∃ j, j < hC ∧ RC j = g) := by
      rcases hg with h | ⟨j, hj, e⟩
      · exact Or.inl h
      · refine Or.inr ⟨j, hj, ?_⟩
        rw [va_up_ne RC _ (by have := i2.1; omega)] at e
        exact e
    have hn : F g ≠ none := by
      rcases hold with ⟨j, hj, e⟩ | ⟨j, hj, e⟩
      · rw [← e]; exact (i1.2.1 j (by have := i1.1; omega)).2
      · rw [← e]; exact (i2.2.1 j (by have := i2.1; omega)).2
    exact k6 g c hn (fun _ r h1 h2 c1 h3 => i6 g c1 hold h3 r h1 h2) hc
/-- one queue when its first is taken -/
theorem rt_qI_take {P : Nat → Bool} {F : Nat → Option Nat} {R : Nat → Nat} {hd tl M c M' L : Nat} (I : rt_qI P F R hd tl M) (hl : hd < tl) (hc : F (R hd) = some c) (hL : ∀ r, P r = true → rt_ln r = L) (hM : M' = c + L) : rt_qI P F R (hd + 1) tl M' := by
  obtain ⟨i1, i2, i3, i4, i5, i6⟩ := I
  refine ⟨hl, i2, i3, i4, i5, ?_⟩
  intro j a h1 h2 ha
  have := i5 hd j c a (by omega) h2 hc ha
  rw [hL _ (i2 j h2).1]
  omega
/-- the other queue, when one is taken whose way is no longer than its own first -/
theorem rt_qI_wait {P : Nat → Bool} {F : Nat → Option Nat} {R : Nat → Nat} {hd tl M M' L : Nat} (I : rt_qI P F R hd tl M) (hL : ∀ r, P r = true → rt_ln r = L) (hM : ∀ c, hd < tl → F (R hd) = some c → M' ≤ c + L) : rt_qI P F R hd tl M' := by
  obtain ⟨i1, i2, i3, i4, i5, i6⟩ := I
  refine ⟨i1, i2, i3, i4, i5, ?_⟩
  intro j a h1 h2 ha
  cases hc : F (R hd) with
  | none => exact absurd hc (i2 hd (by omega)).2
  | some c =>
    have := i5 hd j c a h1 h2 hc ha
    have := hM c (by omega) hc
    rw [hL _ (i2 j h2).1]
    omega
theorem rt_cI_takeS {Q : Nat → Nat} {w h st : Nat} {F : Nat → Option Nat} {RS : Nat → Nat} {hS tS : Nat} {RC : Nat → Nat} {hC tC M c : Nat} {T : Nat → Prop} (I : rt_cI Q w h st F RS hS tS RC hC tC M T (fun _ _ => False)) (hl : hS < tS) (hc : F (RS hS) = some c) (ho : ∀ c', hC < tC → F (RC hC) = some c' → c + 16 ≤ c' + 12) :
    rt_cI Q w h st F RS (hS + 1) tS RC hC tC (c + 16) T (fun g _ => g = RS hS) := by
  obtain ⟨i1, i2, i3, i4, i5, i6⟩ := I
  have hMM : M ≤ c + 16 := by
    have := i1.2.2.2.2.2 hS c (Nat.le_refl _) hl hc
    rw [rt_ln_st (i1.2.1 hS hl).1] at this
    exact this
  refine ⟨rt_qI_take i1 hl hc (fun r => rt_ln_st) rfl, rt_qI_wait i2 (fun r => rt_ln_cv) ho, fun r x hx => ⟨(i3 r x hx).1, Nat.le_trans (i3 r x hx).2 hMM⟩, i4, i5, ?_⟩
  intro g x hg hx r h1 h2
  by_cases e : g = RS hS
  · exact Or.inr e
  · have : (∃ j, j < hS ∧ RS j = g) ∨ (∃ j, j < hC ∧ RC j = g) := by
      rcases hg with ⟨j, hj, e2⟩ | h
      · rcases Nat.lt_or_ge j hS with q | q
        · exact Or.inl ⟨j, q, e2⟩
        · have : j = hS := by omega
          subst this
          exact absurd e2.symm e
      · exact Or.inr h
    rcases i6 g x this hx r h1 h2 with h | h
    · exact Or.inl h
    · exact h.elim
theorem rt_cI_takeC {Q : Nat → Nat} {w h st : Nat} {F : Nat → Option Nat} {RS : Nat → Nat} {hS tS : Nat} {RC : Nat → Nat} {hC tC M c : Nat} {T : Nat → Prop} (I : rt_cI Q w h st F RS hS tS RC hC tC M T (fun _ _ => False)) (hl : hC < tC) (hc : F (RC hC) = some c) (ho : ∀ c', hS < tS → F (RS hS) = some c' → c + 12 ≤ c' + 16) :
    rt_cI Q w h st F RS hS tS RC (hC + 1) tC (c + 12) T (fun g _ => g = RC hC) := by
  obtain ⟨i1, i2, i3, i4, i5, i6⟩ := I
  have hMM : M ≤ c + 12 := by
    have := i2.2.2.2.2.2 hC c (Nat.le_refl _) hl hc
    rw [rt_ln_cv (i2.2.1 hC hl).1] at this
    exact this
  refine ⟨rt_qI_wait i1 (fun r => rt_ln_st) ho, rt_qI_take i2 hl hc (fun r => rt_ln_cv) rfl, fun r x hx => ⟨(i3 r x hx).1, Nat.le_trans (i3 r x hx).2 hMM⟩, i4, i5, ?_⟩
  intro g x hg hx r h1 h2
  by_cases e : g = RC hC
  · exact Or.inr e
  · have : (∃ j, j < hS ∧ RS j = g) ∨ (∃ j, j < hC ∧ RC j = g) := by
      rcases hg with h | ⟨j, hj, e2⟩
      · exact Or.inl h
      · rcases Nat.lt_or_ge j hC with q | q
        · exact Or.inr ⟨j, q, e2⟩
        · have : j = hC := by omega
          subst this
          exact absurd e2.symm e
    rcases i6 g x this hx r h1 h2 with h | h
    · exact Or.inl h
    · exact h.elim
/-- nothing waits any more: these are the costs -/
theorem rt_cI_end {Q : Nat → Nat} {w h st : Nat} {F : Nat → Option Nat} {RS : Nat → Nat} {tS : Nat} {RC : Nat → Nat} {tC M : Nat} (I : rt_cI Q w h st F RS tS tS RC tC tC M (fun _ => True) (fun _ _ => False)) : rt_isC Q w h st F := by
  obtain ⟨i1, i2, i3, i4, i5, i6⟩ := I
  refine ⟨fun r c hr => (i3 r c hr).1, fun r hr => i4 r hr trivial, ?_, i5⟩
  intro r f c h1 h2 h3 h4
  have hn : F f ≠ none := by rw [h4]; simp
  have : (∃ j, j < tS ∧ RS j = f) ∨ (∃ j, j < tC ∧ RC j = f) := by
    cases hs : rt_st f with
    | true => exact Or.inl (i1.2.2.1 f hs hn)
    | false => exact Or.inr (i2.2.2.1 f (by unfold rt_cv; rw [hs]; rfl) hn)
  rcases i6 f c this h4 r h1 h3 with h | h
  · exact h
  · exact h.elim
/-- so many different numbers under N are at most N -/
theorem rt_pig : ∀ (N m : Nat) (f : Nat → Nat), (∀ j, j < m → f j < N) → (∀ i j, i < m → j < m → f i = f j → i = j) → m ≤ N := by
  intro N
  induction N with
  | zero =>
    intro m f h1 _
    rcases Nat.eq_zero_or_pos m with h | h
    · omega
    · exact absurd (h1 0 h) (Nat.not_lt_zero _)
  | succ N ih =>
    intro m f h1 h2
    by_cases hx : ∃ j, j < m ∧ f j = N
    · obtain ⟨j0, hj0, e0⟩ := hx
      have := ih (m - 1) (fun j => if j < j0 then f j else f (j + 1)) ?_ ?_
      · omega
      · intro j hj
        split
        · have := h1 j (by omega)
          have : f j ≠ N := fun e => by have := h2 j j0 (by omega) hj0 (e.trans e0.symm); omega
          omega
        · have := h1 (j + 1) (by omega)
          have : f (j + 1) ≠ N := fun e => by have := h2 (j + 1) j0 (by omega) hj0 (e.trans e0.symm); omega
          omega
      · intro i j hi hj e
        split at e <;> split at e
        · exact h2 i j (by omega) (by omega) e
        · have := h2 i (j + 1) (by omega) (by omega) e; omega
        · have := h2 (i + 1) j (by omega) (by omega) e; omega
        · have := h2 (i + 1) (j + 1) (by omega) (by omega) e; omega
    · have := ih m f ?_ h2
      · omega
      · intro j hj
        have := h1 j hj
        have : f j ≠ N := fun e => hx ⟨j, hj, e⟩
        omega
theorem rt_capS {F : Nat → Option Nat} {R : Nat → Nat} {hd tl M n : Nat} (I : rt_qI rt_st F R hd tl M) (hn : ∀ r c, F r = some c → r < 12 * n) : tl ≤ 4 * n := by
  have hR : ∀ j, j < tl → R j < 12 * n ∧ R j % 12 < 4 := by
    intro j hj
    obtain ⟨h1, h2⟩ := I.2.1 j hj
    have h3 := of_decide_eq_true h1
    cases hc : F (R j) with
    | none => exact absurd hc h2
    | some c => exact ⟨hn _ _ hc, by omega⟩
  refine rt_pig (4 * n) tl (fun j => 4 * (R j / 12) + R j % 12) ?_ ?_
  · intro j hj
    have := hR j hj
    omega
  · intro i j hi hj e
    have h1 := hR i hi
    have h2 := hR j hj
    exact I.2.2.2.1 i j hi hj (by omega)
theorem rt_capC {F : Nat → Option Nat} {R : Nat → Nat} {hd tl M n : Nat} (I : rt_qI rt_cv F R hd tl M) (hn : ∀ r c, F r = some c → r < 12 * n) : tl ≤ 8 * n := by
  have hR : ∀ j, j < tl → R j < 12 * n ∧ 4 ≤ R j % 12 := by
    intro j hj
    obtain ⟨h1, h2⟩ := I.2.1 j hj
    unfold rt_cv rt_st at h1
    have h3 : ¬ R j / 2 % 6 < 2 := by simpa using h1
    cases hc : F (R j) with
    | none => exact absurd hc h2
    | some c => exact ⟨hn _ _ hc, by omega⟩
  refine rt_pig (8 * n) tl (fun j => 8 * (R j / 12) + (R j % 12 - 4)) ?_ ?_
  · intro j hj
    have := hR j hj
    omega
  · intro i j hi hj e
    have h1 := hR i hi
    have h2 := hR j hj
    exact I.2.2.2.1 i j hi hj (by omega)
