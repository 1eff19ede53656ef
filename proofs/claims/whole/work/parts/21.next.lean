/-! PURE: next runs as lists, the reference's followers, the runs before a run -/
def rt_one (Q : Nat → Nat) (n : Nat) (a : Option Nat) : List Nat := match a with
  | none => []
  | some a => if rt_op Q n a = true then [a] else []
theorem rt_px_0 (Q : Nat → Nat) (w h r : Nat) : rt_px Q w h r 0 = [] := rfl
theorem rt_px_succ (Q : Nat → Nat) (w h r i : Nat) : rt_px Q w h r (i + 1) = rt_px Q w h r i ++ rt_one Q (w * h) (rt_ah w h r i) := by
  unfold rt_px rt_one
  rw [List.range_succ, List.filterMap_append]
  congr 1
  simp only [List.filterMap_cons, List.filterMap_nil]
  cases rt_ah w h r i with
  | none => rfl
  | some a =>
    rw [Option.filter_some]
    dsimp only
    cases rt_op Q (w * h) a <;> rfl
theorem rt_mem_px {Q : Nat → Nat} {w h r i f : Nat} : f ∈ rt_px Q w h r i ↔ ∃ j, j < i ∧ rt_ah w h r j = some f ∧ rt_op Q (w * h) f = true := by
  unfold rt_px
  simp only [List.mem_filterMap, List.mem_range, Option.filter_eq_some_iff]
theorem rt_mem_nx {Q : Nat → Nat} {w h r f : Nat} : f ∈ rt_nx Q w h r ↔ ∃ j, j < 3 ∧ rt_ah w h r j = some f ∧ rt_op Q (w * h) f = true := rt_mem_px
theorem rt_op_lt {Q : Nat → Nat} {n r : Nat} (h : rt_op Q n r = true) : r < 12 * n := by
  unfold rt_op at h
  simp only [Bool.and_eq_true, decide_eq_true_eq] at h
  exact h.1.1
theorem rt_op_there {Q : Nat → Nat} {n r : Nat} (h : rt_op Q n r = true) : Q (r / 2) ≠ 0 := by
  unfold rt_op at h
  simp only [Bool.and_eq_true, decide_eq_true_eq] at h
  exact h.1.2
/-- the k-th of a list, k any int -/
def rt_kth (l : List Nat) (k : Int32) : Option Nat := if k < 0 then none else l[k.toNatClampNeg]?
theorem rt_kth_nI (l : List Nat) {k : Nat} (hk : k < 2 ^ 31) : rt_kth l (nI k) = l[k]? := by
  unfold rt_kth
  rw [if_neg (nI_pos hk), nI_clamp hk]
theorem rt_kth_neg (l : List Nat) {k : Int32} (hk : k < 0) : rt_kth l k = none := if_pos hk
-- the reference's edges: 0 west, 1 east, 2 north, 3 south
def rt_ed (k : Nat) : Nat := [0, 1, 2, 3, 2, 1, 3, 1, 3, 0, 2, 0].getD k 0
def rt_mf (l : Nat) : Nat := rt_ed (2 * (l / 2) + l % 2)
def rt_mt (l : Nat) : Nat := rt_ed (2 * (l / 2) + 1 - l % 2)
def rt_mo (e : Nat) : Nat := if e < 2 then 1 - e else 5 - e
/-- the reference's edge in the class's order -/
def rt_tr (e : Nat) : Nat := [0, 2, 1, 3].getD e 0
theorem rt_tr_to : ∀ l, l < 12 → rt_tr (rt_mt l) = rt_to l := by decide +kernel
theorem rt_mt_lt : ∀ l, l < 12 → rt_mt l < 4 ∧ rt_mf l < 4 := by decide +kernel
/-- the reference's follower(run, kind) -/
def rt_fo (Q : Nat → Nat) (w h r k : Nat) : Option Nat := match rt_nb w h (r / 12) (rt_to (r % 12)) with
  | none => none
  | some t => if (decide (rt_mf (2 * k) = rt_mo (rt_mt (r % 12))) && rt_op Q (w * h) (12 * t + 2 * k)) = true then some (12 * t + 2 * k) else if (decide (rt_mf (2 * k + 1) = rt_mo (rt_mt (r % 12))) && rt_op Q (w * h) (12 * t + (2 * k + 1))) = true then some (12 * t + (2 * k + 1)) else none
theorem rt_12 {l : Nat} (h : l < 12) : l = 0 ∨ l = 1 ∨ l = 2 ∨ l = 3 ∨ l = 4 ∨ l = 5 ∨ l = 6 ∨ l = 7 ∨ l = 8 ∨ l = 9 ∨ l = 10 ∨ l = 11 := by omega
theorem rt_fo_nx (Q : Nat → Nat) (w h r : Nat) : (List.range 6).filterMap (rt_fo Q w h r) = rt_nx Q w h r := by
  have hl : r % 12 < 12 := Nat.mod_lt _ (by omega)
  unfold rt_nx rt_px rt_ah
  show List.filterMap (fun k => rt_fo Q w h r k) (List.range 6) = _
  unfold rt_fo
  generalize r % 12 = l at *
  generalize rt_nb w h (r / 12) (rt_to l) = o
  cases o with
  | none => rfl
  | some t =>
    generalize rt_op Q (w * h) = P
    rcases rt_12 hl with rfl | rfl | rfl | rfl | rfl | rfl | rfl | rfl | rfl | rfl | rfl | rfl <;> rfl
theorem rt_fo_k {Q : Nat → Nat} {w h r k f : Nat} (hk : k < 6) (hf : rt_fo Q w h r k = some f) : f / 2 % 6 = k ∧ f ∈ rt_nx Q w h r ∧ rt_op Q (w * h) f = true := by
  have hm : f ∈ rt_nx Q w h r := by
    rw [← rt_fo_nx]
    exact List.mem_filterMap.mpr ⟨k, List.mem_range.mpr hk, hf⟩
  refine ⟨?_, hm, (rt_mem_nx.mp hm).choose_spec.2.2⟩
  unfold rt_fo at hf
  cases hn : rt_nb w h (r / 12) (rt_to (r % 12)) with
  | none => rw [hn] at hf; cases hf
  | some t =>
    rw [hn] at hf
    simp only at hf
    split at hf
    · cases hf; omega
    · split at hf
      · cases hf; omega
      · cases hf
/-- a run is a next one of r just if it is the follower of its own kind -/
theorem rt_fo_iff {Q : Nat → Nat} {w h r f : Nat} : rt_fo Q w h r (f / 2 % 6) = some f ↔ f ∈ rt_nx Q w h r := by
  constructor
  · intro hf
    exact (rt_fo_k (Nat.mod_lt _ (by omega)) hf).2.1
  · intro hm
    have hm' := hm
    rw [← rt_fo_nx] at hm
    obtain ⟨k, hk, hf⟩ := List.mem_filterMap.mp hm
    have hk6 := List.mem_range.mp hk
    rw [(rt_fo_k hk6 hf).1]
    exact hf
-- the runs before a run
def rt_bh (w h r i : Nat) : Option Nat := (rt_ah w h (rt_rv r) i).map rt_rv
def rt_pb (Q : Nat → Nat) (w h r i : Nat) : List Nat := (List.range i).filterMap (fun i => (rt_bh w h r i).filter (rt_op Q (w * h)))
theorem rt_pb_succ (Q : Nat → Nat) (w h r i : Nat) : rt_pb Q w h r (i + 1) = rt_pb Q w h r i ++ rt_one Q (w * h) (rt_bh w h r i) := by
  unfold rt_pb rt_one
  rw [List.range_succ, List.filterMap_append]
  congr 1
  simp only [List.filterMap_cons, List.filterMap_nil]
  cases rt_bh w h r i with
  | none => rfl
  | some a =>
    rw [Option.filter_some]
    dsimp only
    cases rt_op Q (w * h) a <;> rfl
theorem rt_mem_pb {Q : Nat → Nat} {w h r i f : Nat} : f ∈ rt_pb Q w h r i ↔ ∃ j, j < i ∧ rt_bh w h r j = some f ∧ rt_op Q (w * h) f = true := by
  unfold rt_pb
  simp only [List.mem_filterMap, List.mem_range, Option.filter_eq_some_iff]
/-- the open runs behind a run are those of which it is a next one -/
theorem rt_pred {Q : Nat → Nat} {w h r b : Nat} (hw : 0 < w) (hr : rt_op Q (w * h) r = true) (hb : rt_op Q (w * h) b = true) : r ∈ rt_nx Q w h b ↔ b ∈ rt_pb Q w h r 3 := by
  rw [rt_mem_nx, rt_mem_pb]
  constructor
  · rintro ⟨i, hi, ha, -⟩
    obtain ⟨-, -, j, hj, h2⟩ := rt_ah_back hw (rt_op_lt hb) hi ha
    refine ⟨j, hj, ?_, hb⟩
    unfold rt_bh
    rw [h2]
    show some _ = some _
    rw [rt_rv_rv]
  · rintro ⟨i, hi, ha, -⟩
    unfold rt_bh at ha
    cases hz : rt_ah w h (rt_rv r) i with
    | none => rw [hz] at ha; cases ha
    | some z =>
      rw [hz] at ha
      cases ha
      obtain ⟨-, -, j, hj, h2⟩ := rt_ah_back hw (rt_rv_lt (rt_op_lt hr)) hi hz
      rw [rt_rv_rv] at h2
      exact ⟨j, hj, h2, hr⟩
theorem rt_bl : ∀ l, l < 12 → rt_rv (rt_bg (3 * rt_to l)) < rt_rv (rt_bg (3 * rt_to l + 1)) ∧ rt_rv (rt_bg (3 * rt_to l + 1)) < rt_rv (rt_bg (3 * rt_to l + 2)) := by decide +kernel
/-- those behind a run rise -/
theorem rt_bh_mono {w h r i j a b : Nat} (hi : i < j) (hj : j < 3) (ha : rt_bh w h r i = some a) (hb : rt_bh w h r j = some b) : a < b := by
  unfold rt_bh at ha hb
  cases hz : rt_ah w h (rt_rv r) i with
  | none => rw [hz] at ha; cases ha
  | some z =>
    cases hy : rt_ah w h (rt_rv r) j with
    | none => rw [hy] at hb; cases hb
    | some y =>
      rw [hz] at ha
      rw [hy] at hb
      cases ha
      cases hb
      obtain ⟨t, h1, rfl⟩ := rt_ah_some hz
      obtain ⟨t2, h2, rfl⟩ := rt_ah_some hy
      cases h1.symm.trans h2
      rw [rt_rv_add, rt_rv_add]
      obtain ⟨h3, h4⟩ := rt_bl (rt_rv r % 12) (Nat.mod_lt _ (by omega))
      rcases (show (i = 0 ∧ j = 1) ∨ (i = 0 ∧ j = 2) ∨ (i = 1 ∧ j = 2) by omega) with ⟨rfl, rfl⟩ | ⟨rfl, rfl⟩ | ⟨rfl, rfl⟩
      · exact Nat.add_lt_add_left h3 _
      · exact Nat.add_lt_add_left (Nat.lt_trans h3 h4) _
      · exact Nat.add_lt_add_left h4 _
/-- the lowest run before a run -/
def rt_bf (Q : Nat → Nat) (w h r : Nat) : Option Nat := (rt_pb Q w h r 3).head?
theorem rt_pb_mono {Q : Nat → Nat} {w h r : Nat} : ∀ i, i ≤ 3 → (rt_pb Q w h r i).Pairwise (· < ·) := by
  intro i
  induction i with
  | zero => intro _; exact List.Pairwise.nil
  | succ i ih =>
    intro hi
    rw [rt_pb_succ, List.pairwise_append]
    refine ⟨ih (by omega), ?_, ?_⟩
    · unfold rt_one
      cases rt_bh w h r i with
      | none => exact List.Pairwise.nil
      | some a => simp only; split <;> simp
    · intro a ha b hb
      obtain ⟨j, hj, h1, -⟩ := rt_mem_pb.mp ha
      unfold rt_one at hb
      cases hz : rt_bh w h r i with
      | none => rw [hz] at hb; cases hb
      | some z =>
        rw [hz] at hb
        simp only at hb
        split at hb
        · rw [List.mem_singleton] at hb
          subst hb
          exact rt_bh_mono hj (by omega) h1 hz
        · cases hb
theorem rt_bf_least {Q : Nat → Nat} {w h r b : Nat} (hb : b ∈ rt_pb Q w h r 3) : ∃ a, rt_bf Q w h r = some a ∧ a ∈ rt_pb Q w h r 3 ∧ ∀ c, c ∈ rt_pb Q w h r 3 → a ≤ c := by
  have hp := rt_pb_mono (Q := Q) (w := w) (h := h) (r := r) 3 (Nat.le_refl 3)
  unfold rt_bf
  cases hl : rt_pb Q w h r 3 with
  | nil => rw [hl] at hb; cases hb
  | cons a l =>
    refine ⟨a, rfl, List.mem_cons_self, ?_⟩
    intro c hc
    rw [hl, List.pairwise_cons] at hp
    rcases List.mem_cons.mp hc with rfl | hc
    · exact Nat.le_refl _
    · exact Nat.le_of_lt (hp.1 c hc)
theorem rt_bf_none {Q : Nat → Nat} {w h r : Nat} (hb : ∀ b, b ∉ rt_pb Q w h r 3) : rt_bf Q w h r = none := by
  unfold rt_bf
  rw [List.eq_nil_iff_forall_not_mem.mpr hb]
  rfl
