/-! SMALL: costs, as the class's methods change its queues -/
def rt_se (RS : Nat → Nat) (ys : Nat) (RC : Nat → Nat) (yc r : Nat) : (Nat → Nat) × Nat × (Nat → Nat) × Nat := if rt_st r = true then (va_up RS ys r, ys + 1, RC, yc) else (RS, ys, va_up RC yc r, yc + 1)
theorem rt_se_t {RS : Nat → Nat} {ys : Nat} {RC : Nat → Nat} {yc r : Nat} (h : rt_st r = true) : rt_se RS ys RC yc r = (va_up RS ys r, ys + 1, RC, yc) := if_pos h
theorem rt_se_f {RS : Nat → Nat} {ys : Nat} {RC : Nat → Nat} {yc r : Nat} (h : rt_st r = false) : rt_se RS ys RC yc r = (RS, ys, va_up RC yc r, yc + 1) := if_neg (by rw [h]; simp)
theorem rt_cI_op {Q : Nat → Nat} {w h z : Nat} {F : Nat → Option Nat} {RS : Nat → Nat} {xs ys : Nat} {RC : Nat → Nat} {xc yc M : Nat} {T : Nat → Prop} {pend : Nat → Nat → Prop} (I : rt_cI Q w h z F RS xs ys RC xc yc M T pend) : ∀ r c, F r = some c → r < 12 * (w * h) := fun r c hr => rt_op_lt (I.2.2.1 r c hr).1
theorem rt_cI_se {Q : Nat → Nat} {w h z : Nat} {F : Nat → Option Nat} {RS : Nat → Nat} {xs ys : Nat} {RC : Nat → Nat} {xc yc M b : Nat} {T : Nat → Prop} {pend : Nat → Nat → Prop} (I : rt_cI Q w h z F RS xs ys RC xc yc M T pend)
    (hb : F b = none) (ho : rt_op Q (w * h) b = true) (h0 : rt_tg Q w h z b = true → M = 0) (h7 : rt_tg Q w h z b = false → ∃ f, f ∈ rt_nx Q w h b ∧ ∃ c', F f = some c' ∧ M = rt_ln f + c') (hp : ∀ g c, pend g b → F g = some c → M ≤ rt_ln g + c) :
    rt_cI Q w h z (va_up F b (some M)) (rt_se RS ys RC yc b).1 xs (rt_se RS ys RC yc b).2.1 (rt_se RS ys RC yc b).2.2.1 xc (rt_se RS ys RC yc b).2.2.2 M (fun r => T r ∨ r = b) (fun g r => pend g r ∧ r ≠ b) ∧ (rt_st b = true → ys < 4 * (w * h)) ∧ (rt_st b = false → yc < 8 * (w * h)) := by
  obtain ⟨k1, k2⟩ := rt_cI_settle I hb ho h0 h7 hp
  cases hs : rt_st b with
  | true =>
    rw [rt_se_t hs]
    have h1 := k1 hs
    refine ⟨h1, fun _ => ?_, fun q => (by cases q)⟩
    have := rt_capS h1.1 (rt_cI_op h1)
    omega
  | false =>
    rw [rt_se_f hs]
    have h1 := k2 hs
    refine ⟨h1, fun q => (by cases q), fun _ => ?_⟩
    have := rt_capC h1.2.1 (rt_cI_op h1)
    omega
theorem rt_cI_caps {Q : Nat → Nat} {w h z : Nat} {F : Nat → Option Nat} {RS : Nat → Nat} {xs ys : Nat} {RC : Nat → Nat} {xc yc M : Nat} {T : Nat → Prop} {pend : Nat → Nat → Prop} (I : rt_cI Q w h z F RS xs ys RC xc yc M T pend) : xs ≤ ys ∧ ys ≤ 4 * (w * h) ∧ xc ≤ yc ∧ yc ≤ 8 * (w * h) := ⟨I.1.1, rt_capS I.1 (rt_cI_op I), I.2.1.1, rt_capC I.2.1 (rt_cI_op I)⟩
theorem rt_cI_bd {Q : Nat → Nat} {w h z : Nat} {F : Nat → Option Nat} {RS : Nat → Nat} {xs ys : Nat} {RC : Nat → Nat} {xc yc M : Nat} {T : Nat → Prop} {pend : Nat → Nat → Prop} (hM : M ≤ 100000) (I : rt_cI Q w h z F RS xs ys RC xc yc M T pend) : rt_bd F := fun r c hr => by
  have := (I.2.2.1 r c hr).2
  omega
-- the targets, run by run
def rt_cT (Q : Nat → Nat) (w h z : Nat) (F : Nat → Option Nat) (RS : Nat → Nat) (ys : Nat) (RC : Nat → Nat) (yc x : Nat) : Prop := rt_cI Q w h z F RS 0 ys RC 0 yc 0 (fun r => r < x) (fun _ _ => False) ∧ ∀ r c, F r = some c → r < x
theorem rt_cT_0 (Q : Nat → Nat) (w h z : Nat) (RS RC : Nat → Nat) : rt_cT Q w h z (fun _ => none) RS 0 RC 0 0 := ⟨rt_cI_drop (rt_cI_0 Q w h z RS RC (fun _ _ => False)) (fun r _ h => absurd h (Nat.not_lt_zero r)) (fun _ _ _ h => h.elim), fun r c h => by cases h⟩
theorem rt_cT_skip {Q : Nat → Nat} {w h z : Nat} {F : Nat → Option Nat} {RS : Nat → Nat} {ys : Nat} {RC : Nat → Nat} {yc x x' : Nat} (I : rt_cT Q w h z F RS ys RC yc x) (hx : x ≤ x') (hn : ∀ r, x ≤ r → r < x' → rt_tg Q w h z r = false) : rt_cT Q w h z F RS ys RC yc x' := by
  refine ⟨rt_cI_drop I.1 ?_ (fun _ _ _ h => h.elim), fun r c hr => Nat.lt_of_lt_of_le (I.2 r c hr) hx⟩
  intro r h1 h2
  rcases Nat.lt_or_ge r x with q | q
  · exact Or.inl q
  · rw [hn r q h2] at h1
    cases h1
theorem rt_cT_se {Q : Nat → Nat} {w h z : Nat} {F : Nat → Option Nat} {RS : Nat → Nat} {ys : Nat} {RC : Nat → Nat} {yc x : Nat} (I : rt_cT Q w h z F RS ys RC yc x) (ht : rt_tg Q w h z x = true) :
    rt_cT Q w h z (va_up F x (some 0)) (rt_se RS ys RC yc x).1 (rt_se RS ys RC yc x).2.1 (rt_se RS ys RC yc x).2.2.1 (rt_se RS ys RC yc x).2.2.2 (x + 1) ∧ (rt_st x = true → ys < 4 * (w * h)) ∧ (rt_st x = false → yc < 8 * (w * h)) := by
  have hn : F x = none := by
    cases hf : F x with
    | none => rfl
    | some c => have := I.2 x c hf; omega
  have ho : rt_op Q (w * h) x = true := by
    rw [rt_la_tg, Bool.and_eq_true] at ht
    exact ht.1
  obtain ⟨k1, k2, k3⟩ := rt_cI_se I.1 hn ho (fun _ => rfl) (fun q => by rw [ht] at q; cases q) (fun _ _ q => q.elim)
  refine ⟨⟨rt_cI_drop k1 (fun r _ hr => Or.inl (by rcases Nat.lt_or_ge r x with q | q; exact Or.inl q; exact Or.inr (by omega))) (fun _ _ _ q => q.1.elim), ?_⟩, k2, k3⟩
  intro r c hr
  by_cases e : r = x
  · omega
  · rw [va_up_ne F _ e] at hr
    have := I.2 r c hr
    omega
theorem rt_cT_end {Q : Nat → Nat} {w h z : Nat} {F : Nat → Option Nat} {RS : Nat → Nat} {ys : Nat} {RC : Nat → Nat} {yc : Nat} (I : rt_cT Q w h z F RS ys RC yc (12 * (w * h))) : rt_cI Q w h z F RS 0 ys RC 0 yc 0 (fun _ => True) (fun _ _ => False) :=
  rt_cI_drop I.1 (fun r hr _ => Or.inl (by rw [rt_la_tg, Bool.and_eq_true] at hr; exact rt_op_lt hr.1)) (fun _ _ _ h => h.elim)
-- behind one run: the first i of three
def rt_cS (Q : Nat → Nat) (w h z : Nat) (F : Nat → Option Nat) (RS : Nat → Nat) (xs ys : Nat) (RC : Nat → Nat) (xc yc M f c i : Nat) : Prop := rt_cI Q w h z F RS xs ys RC xc yc M (fun _ => True) (fun g r => g = f ∧ r ∉ rt_pb Q w h f i) ∧ F f = some c ∧ M = rt_ln f + c
theorem rt_cS_skip {Q : Nat → Nat} {w h z : Nat} {F : Nat → Option Nat} {RS : Nat → Nat} {xs ys : Nat} {RC : Nat → Nat} {xc yc M f c i : Nat} (I : rt_cS Q w h z F RS xs ys RC xc yc M f c i) (hb : ∀ b, rt_bh w h f i = some b → rt_op Q (w * h) b = true → ∃ c', F b = some c') : rt_cS Q w h z F RS xs ys RC xc yc M f c (i + 1) := by
  obtain ⟨I, h1, h2⟩ := I
  refine ⟨rt_cI_drop I (fun r _ _ => Or.inl trivial) ?_, h1, h2⟩
  rintro g r cg ⟨rfl, hr⟩ ho hm hg
  by_cases e : r ∈ rt_pb Q w h g (i + 1)
  · rw [rt_pb_succ, List.mem_append] at e
    rcases e with e | e
    · exact absurd e hr
    · unfold rt_one at e
      cases hz : rt_bh w h g i with
      | none => rw [hz] at e; cases e
      | some b =>
        rw [hz] at e
        dsimp only at e
        split at e
        · next hop =>
          rw [List.mem_singleton] at e
          subst e
          obtain ⟨c', hc'⟩ := hb r hz hop
          have := (I.2.2.1 r c' hc').2
          rw [h1] at hg
          cases hg
          exact Or.inl ⟨c', hc', by omega⟩
        · cases e
  · exact Or.inr ⟨rfl, e⟩
theorem rt_cS_se {Q : Nat → Nat} {w h z : Nat} {F : Nat → Option Nat} {RS : Nat → Nat} {xs ys : Nat} {RC : Nat → Nat} {xc yc M f c i b : Nat} (hw : 0 < w) (hi : i < 3) (I : rt_cS Q w h z F RS xs ys RC xc yc M f c i) (hb : rt_bh w h f i = some b) (ho : rt_op Q (w * h) b = true) (hn : F b = none) :
    rt_cS Q w h z (va_up F b (some M)) (rt_se RS ys RC yc b).1 xs (rt_se RS ys RC yc b).2.1 (rt_se RS ys RC yc b).2.2.1 xc (rt_se RS ys RC yc b).2.2.2 M f c (i + 1) ∧ (rt_st b = true → ys < 4 * (w * h)) ∧ (rt_st b = false → yc < 8 * (w * h)) := by
  obtain ⟨I, h1, h2⟩ := I
  have hof := (I.2.2.1 f c h1).1
  have hm : f ∈ rt_nx Q w h b := (rt_pred hw hof ho).mpr (rt_mem_pb.mpr ⟨i, hi, hb, ho⟩)
  obtain ⟨k1, k2, k3⟩ := rt_cI_se I hn ho (fun q => by have := I.2.2.2.1 b q trivial; rw [hn] at this; cases this) (fun _ => ⟨f, hm, c, h1, h2⟩) (fun g cg hg hc => by obtain ⟨rfl, -⟩ := hg; rw [h1] at hc; cases hc; omega)
  refine ⟨⟨rt_cI_drop k1 (fun r _ _ => Or.inl (Or.inl trivial)) ?_, ?_, h2⟩, k2, k3⟩
  · rintro g r cg ⟨⟨rfl, hr⟩, hrb⟩ _ _ _
    refine Or.inr ⟨rfl, ?_⟩
    rw [rt_pb_succ, List.mem_append]
    rintro (e | e)
    · exact hr e
    · unfold rt_one at e
      rw [hb] at e
      dsimp only at e
      rw [if_pos ho, List.mem_singleton] at e
      exact hrb e
  · rw [va_up_ne F _ (fun e => by rw [e, hn] at h1; cases h1)]
    exact h1
theorem rt_cS_end {Q : Nat → Nat} {w h z : Nat} {F : Nat → Option Nat} {RS : Nat → Nat} {xs ys : Nat} {RC : Nat → Nat} {xc yc M f c : Nat} (hw : 0 < w) (I : rt_cS Q w h z F RS xs ys RC xc yc M f c 3) : rt_cI Q w h z F RS xs ys RC xc yc M (fun _ => True) (fun _ _ => False) := by
  obtain ⟨I, h1, h2⟩ := I
  refine rt_cI_drop I (fun r _ _ => Or.inl trivial) ?_
  rintro g r cg ⟨rfl, hr⟩ ho hm hg
  exact absurd ((rt_pred hw (I.2.2.1 g c h1).1 ho).mp hm) hr
theorem rt_cS_0 {Q : Nat → Nat} {w h z : Nat} {F : Nat → Option Nat} {RS : Nat → Nat} {xs ys : Nat} {RC : Nat → Nat} {xc yc M f c : Nat} (I : rt_cI Q w h z F RS xs ys RC xc yc M (fun _ => True) (fun g _ => g = f)) (h1 : F f = some c) (h2 : M = rt_ln f + c) : rt_cS Q w h z F RS xs ys RC xc yc M f c 0 :=
  ⟨rt_cI_drop I (fun r _ _ => Or.inl trivial) (fun g r cg hg _ _ _ => Or.inr ⟨hg, by intro q; cases q⟩), h1, h2⟩
/-- what takeNearest finds -/
def rt_tn (Q : Nat → Nat) (w h z : Nat) (F : Nat → Option Nat) (RS : Nat → Nat) (xs ys : Nat) (RC : Nat → Nat) (xc yc : Nat) (r : Int32) (xs' xc' : Nat) : Prop :=
  (r = -1 ∧ xs = ys ∧ xc = yc ∧ xs' = xs ∧ xc' = xc) ∨ ∃ f c, r = nI f ∧ f < 12 * (w * h) ∧ F f = some c ∧ rt_cI Q w h z F RS xs' ys RC xc' yc (rt_ln f + c) (fun _ => True) (fun g _ => g = f) ∧ xs' + xc' = xs + xc + 1
theorem rt_tn_S {Q : Nat → Nat} {w h z : Nat} {F : Nat → Option Nat} {RS : Nat → Nat} {xs ys : Nat} {RC : Nat → Nat} {xc yc M c : Nat} (I : rt_cI Q w h z F RS xs ys RC xc yc M (fun _ => True) (fun _ _ => False)) (hl : xs < ys) (hc : F (RS xs) = some c) (ho : ∀ c', xc < yc → F (RC xc) = some c' → c + 16 ≤ c' + 12) : rt_tn Q w h z F RS xs ys RC xc yc (nI (RS xs)) (xs + 1) xc := by
  have h1 := rt_cI_takeS I hl hc ho
  have h2 := rt_ln_st (I.1.2.1 xs hl).1
  exact Or.inr ⟨RS xs, c, rfl, rt_cI_op I _ _ hc, hc, by rw [h2, Nat.add_comm 16 c]; exact h1, by omega⟩
theorem rt_tn_C {Q : Nat → Nat} {w h z : Nat} {F : Nat → Option Nat} {RS : Nat → Nat} {xs ys : Nat} {RC : Nat → Nat} {xc yc M c : Nat} (I : rt_cI Q w h z F RS xs ys RC xc yc M (fun _ => True) (fun _ _ => False)) (hl : xc < yc) (hc : F (RC xc) = some c) (ho : ∀ c', xs < ys → F (RS xs) = some c' → c + 12 ≤ c' + 16) : rt_tn Q w h z F RS xs ys RC xc yc (nI (RC xc)) xs (xc + 1) := by
  have h1 := rt_cI_takeC I hl hc ho
  have h2 := rt_ln_cv (I.2.1.2.1 xc hl).1
  exact Or.inr ⟨RC xc, c, rfl, rt_cI_op I _ _ hc, hc, by rw [h2, Nat.add_comm 12 c]; exact h1, by omega⟩
theorem rt_cI_hS {Q : Nat → Nat} {w h z : Nat} {F : Nat → Option Nat} {RS : Nat → Nat} {xs ys : Nat} {RC : Nat → Nat} {xc yc M : Nat} {T : Nat → Prop} {pend : Nat → Nat → Prop} (I : rt_cI Q w h z F RS xs ys RC xc yc M T pend) (hl : xs < ys) : ∃ c, F (RS xs) = some c := by
  cases hc : F (RS xs) with
  | none => exact absurd hc (I.1.2.1 xs hl).2
  | some c => exact ⟨c, rfl⟩
theorem rt_cI_hC {Q : Nat → Nat} {w h z : Nat} {F : Nat → Option Nat} {RS : Nat → Nat} {xs ys : Nat} {RC : Nat → Nat} {xc yc M : Nat} {T : Nat → Prop} {pend : Nat → Nat → Prop} (I : rt_cI Q w h z F RS xs ys RC xc yc M T pend) (hl : xc < yc) : ∃ c, F (RC xc) = some c := by
  cases hc : F (RC xc) with
  | none => exact absurd hc (I.2.1.2.1 xc hl).2
  | some c => exact ⟨c, rfl⟩
theorem rt_cI_hCC {Q : Nat → Nat} {w h z : Nat} {F : Nat → Option Nat} {RS : Nat → Nat} {ys : Nat} {RC : Nat → Nat} {yc M : Nat} (hn : w * h ≤ 400) (hM : M ≤ 16 * (12 * (w * h))) (I : rt_cI Q w h z F RS ys ys RC yc yc M (fun _ => True) (fun _ _ => False)) : rt_hC Q w h z (fun r => rt_o (F r)) :=
  ⟨F, rt_cI_end I, fun r c hr => by have := (I.2.2.1 r c hr).2; omega, fun _ _ => rfl⟩
/-- the cheapest so far, and how far it is -/
def rt_lw (K : Nat → Option Nat) : Option Nat → Nat
  | none => 0
  | some g => rt_ln g + (K g).getD 0
theorem rt_bs_n {K : Nat → Option Nat} {b : Option Nat} {f : Nat} (h : K f = none) : rt_bs K b f = b := by
  unfold rt_bs
  rw [h]
theorem rt_bs_0 {K : Nat → Option Nat} {f c : Nat} (h : K f = some c) : rt_bs K none f = some f := by
  unfold rt_bs
  rw [h]
theorem rt_bs_t {K : Nat → Option Nat} {f c g : Nat} (h : K f = some c) (hl : rt_ln f + c < rt_lw K (some g)) : rt_bs K (some g) f = some f := by
  unfold rt_bs
  rw [h]
  exact if_pos hl
theorem rt_bs_f {K : Nat → Option Nat} {f c g : Nat} (h : K f = some c) (hl : ¬ rt_ln f + c < rt_lw K (some g)) : rt_bs K (some g) f = some g := by
  unfold rt_bs
  rw [h]
  exact if_neg hl
theorem rt_lw_le {K : Nat → Option Nat} (hs : rt_small K) (b : Option Nat) : rt_lw K b ≤ 80000 := by
  cases b with
  | none => exact Nat.zero_le _
  | some g =>
    have h1 := rt_ln_in g
    show rt_ln g + (K g).getD 0 ≤ 80000
    cases hc : K g with
    | none => simp only [Option.getD_none]; omega
    | some c => have := hs g c hc; simp only [Option.getD_some]; omega
theorem rt_bh_lt {w h f i b : Nat} (hw : 0 < w) (hf : f < 12 * (w * h)) (hi : i < 3) (hb : rt_bh w h f i = some b) : b < 12 * (w * h) := by
  unfold rt_bh at hb
  cases hz : rt_ah w h (rt_rv f) i with
  | none => rw [hz] at hb; cases hb
  | some z =>
    rw [hz] at hb
    cases hb
    exact rt_rv_lt (rt_ah_back hw (rt_rv_lt hf) hi hz).1
