/-! SMALL: a flood's steps; what the search's row holds -/
theorem rt_rN (f : Nat → Int32) : ∃ R : Nat → Nat, f = fun j => nI (R j) := by
  refine ⟨fun j => (f j).toBitVec.toNat, ?_⟩
  funext j
  apply Int32.toBitVec_inj.1
  show (f j).toBitVec = BitVec.ofNat 32 (f j).toBitVec.toNat
  simp
theorem rt_fJ_take {Q : Nat → Nat} {w h : Nat} {G0 : Nat → Option Nat} {x i y : Nat} {F : Nat → Option Nat} {R : Nat → Nat} (I : rt_fI Q w h G0 x F R i y (fun _ _ => False)) (hl : i < y) : rt_fJ Q w h G0 x (i + 1) (R i) F R y (fun _ => True) := by
  refine ⟨rt_fI_drop (rt_fI_take I hl) ?_, by omega, rfl⟩
  intro j q _ _ hp
  exact Or.inr ⟨hp, trivial⟩
theorem rt_fJ_done {Q : Nat → Nat} {w h : Nat} {G0 : Nat → Option Nat} {x n0 k y : Nat} {F : Nat → Option Nat} {R : Nat → Nat} {pd : Nat → Prop} (J : rt_fJ Q w h G0 x n0 k F R y pd) (hp : ∀ q, rt_tc Q w h k q → ¬ pd q) : rt_fI Q w h G0 x F R n0 y (fun _ _ => False) := by
  refine rt_fI_drop J.1 ?_
  rintro j q _ ht ⟨h1, h2⟩
  exact absurd h2 (hp q (by rw [← h1]; exact ht))
theorem rt_fJ_all {Q : Nat → Nat} {w h : Nat} {G0 : Nat → Option Nat} {x n0 k y : Nat} {F : Nat → Option Nat} {R : Nat → Nat} (J : rt_fJ Q w h G0 x n0 k F R y (fun q => ((True ∧ ¬ rt_meet k q) ∧ ¬ ∃ j, j < 3 ∧ rt_acr Q w h k 0 j q) ∧ ¬ ∃ j, j < 3 ∧ rt_acr Q w h k 1 j q)) : rt_fI Q w h G0 x F R n0 y (fun _ _ => False) := by
  refine rt_fJ_done J ?_
  rintro q ⟨-, -, h1 | ⟨d, i, hd, hi, h2⟩⟩ ⟨⟨⟨-, q1⟩, q2⟩, q3⟩
  · exact q1 h1
  · rcases (show d = 0 ∨ d = 1 by omega) with rfl | rfl
    · exact q2 ⟨i, hi, h2⟩
    · exact q3 ⟨i, hi, h2⟩
/-- the row holds the blocks -/
def rt_hB (Q : Nat → Nat) (w h : Nat) (ff : Nat → Int32) (bl : Int32) : Prop := ∃ B : Nat → Nat, rt_isB Q w h B ∧ (∀ q, q < 12 * (w * h) → ff q = rt_o (if Q q ≠ 0 then some (B q) else none)) ∧ bl = nI (rt_nB Q (6 * (w * h)) B)
/-- the row holds the costs to station z -/
def rt_hC (Q : Nat → Nat) (w h z : Nat) (ff : Nat → Int32) : Prop := ∃ K : Nat → Option Nat, rt_isC Q w h z K ∧ rt_small K ∧ ∀ r, r < 12 * (w * h) → ff r = rt_o (K r)
/-- what the search holds is true of the map -/
def rt_hk (Q : Nat → Nat) (w h : Nat) (hd : Int32) (ff : Nat → Int32) (bl : Int32) : Prop := hd = -1 ∨ (hd = nI 8 ∧ rt_hB Q w h ff bl) ∨ ∃ z, z < 8 ∧ hd = nI z ∧ rt_hC Q w h z ff
theorem rt_hk_B {Q : Nat → Nat} {w h : Nat} {ff : Nat → Int32} {bl : Int32} (hk : rt_hk Q w h (nI 8) ff bl) : rt_hB Q w h ff bl := by
  rcases hk with h1 | h1 | ⟨z, hz, h1, -⟩
  · exact absurd h1 (rt_o_ne 8 (by decide))
  · exact h1.2
  · have := (nI_eq (by decide) (by omega)).mp h1
    omega
theorem rt_hk_C {Q : Nat → Nat} {w h z : Nat} {ff : Nat → Int32} {bl : Int32} (hz : z < 8) (hk : rt_hk Q w h (nI z) ff bl) : rt_hC Q w h z ff := by
  rcases hk with h1 | h1 | ⟨z2, hz2, h1, h2⟩
  · exact absurd h1 (rt_o_ne z (by omega))
  · have := (nI_eq (by omega) (by decide)).mp h1.1
    omega
  · have := (nI_eq (by omega) (by omega)).mp h1
    subst this
    exact h2
theorem rt_bI_hB {Q : Nat → Nat} {w h : Nat} {F : Nat → Option Nat} (hQ : rt_ok Q (6 * (w * h))) (I : rt_bI Q w h F (6 * (w * h))) : rt_hB Q w h (fun r => rt_o (F r)) (nI (rt_cB F (6 * (w * h)))) := by
  obtain ⟨h1, h2, h3⟩ := rt_bI_end hQ I
  exact ⟨_, h1, fun q _ => congrArg rt_o (h3 q), by rw [h2]⟩
theorem rt_cB_skip {F : Nat → Option Nat} {k : Nat} (h : F k ≠ some k) : rt_cB F (k + 1) = rt_cB F k := by
  rw [rt_cB_succ, if_neg h]
  rfl
theorem rt_cB_one {F G : Nat → Option Nat} {k : Nat} (h : F k = some k) (hq : ∀ q, q < k → F q = G q) : rt_cB F (k + 1) = rt_cB G k + 1 := by
  rw [rt_cB_succ, if_pos h, rt_cB_eq hq]
theorem rt_cB_le (F : Nat → Option Nat) (x : Nat) : rt_cB F x ≤ x := rt_cnt_le _ x
