/-! SMALL: the reference's followers as a growing list; least ones; what the four changes do -/
def rt_py (Q : Nat → Nat) (w h r i : Nat) : List Nat := (List.range i).filterMap (rt_fo Q w h r)
theorem rt_py_6 (Q : Nat → Nat) (w h r : Nat) : rt_py Q w h r 6 = rt_nx Q w h r := rt_fo_nx Q w h r
theorem rt_py_n {Q : Nat → Nat} {w h r i : Nat} (hf : rt_fo Q w h r i = none) : rt_py Q w h r (i + 1) = rt_py Q w h r i := by
  unfold rt_py
  rw [List.range_succ, List.filterMap_append]
  simp [hf]
theorem rt_py_s {Q : Nat → Nat} {w h r i b : Nat} (hf : rt_fo Q w h r i = some b) : rt_py Q w h r (i + 1) = rt_py Q w h r i ++ [b] := by
  unfold rt_py
  rw [List.range_succ, List.filterMap_append]
  simp [hf]
theorem rt_py_pre {Q : Nat → Nat} {w h r i b : Nat} (hi : i < 6) (hf : rt_fo Q w h r i = some b) : ∃ l2, rt_nx Q w h r = rt_py Q w h r i ++ b :: l2 := by
  have key : ∀ m, i + 1 ≤ m → ∃ l2, rt_py Q w h r m = rt_py Q w h r i ++ b :: l2 := by
    intro m
    induction m with
    | zero => intro q; omega
    | succ m ih =>
      intro q
      rcases Nat.lt_or_ge i m with z | z
      · obtain ⟨l2, e⟩ := ih z
        cases hm : rt_fo Q w h r m with
        | none => exact ⟨l2, by rw [rt_py_n hm, e]⟩
        | some d => exact ⟨l2 ++ [d], by rw [rt_py_s hm, e]; simp⟩
      · rw [show m = i by omega]
        exact ⟨[], rt_py_s hf⟩
  rw [← rt_py_6]
  exact key 6 hi
theorem rt_py_len (Q : Nat → Nat) (w h r i : Nat) : (rt_py Q w h r i).length ≤ i := by
  unfold rt_py
  have := List.length_filterMap_le (rt_fo Q w h r) (List.range i)
  rwa [List.length_range] at this
theorem rt_fo_lt {Q : Nat → Nat} {w h r k b : Nat} (hk : k < 6) (hf : rt_fo Q w h r k = some b) : b < 12 * (w * h) := rt_op_lt (rt_fo_k hk hf).2.2
-- follower, by its two tries
def rt_ft (Q : Nat → Nat) (w h r k t d : Nat) : Prop := rt_mf (2 * k + d) = rt_mo (rt_mt (r % 12)) ∧ rt_op Q (w * h) (12 * t + (2 * k + d)) = true
theorem rt_fo_none {Q : Nat → Nat} {w h r k : Nat} (hn : rt_nb w h (r / 12) (rt_to (r % 12)) = none) : rt_fo Q w h r k = none := by
  unfold rt_fo
  rw [hn]
theorem rt_fo_hit {Q : Nat → Nat} {w h r k t d : Nat} (hn : rt_nb w h (r / 12) (rt_to (r % 12)) = some t) (hd : d < 2) (hb : ∀ e, e < d → ¬ rt_ft Q w h r k t e) (hh : rt_ft Q w h r k t d) : rt_fo Q w h r k = some (12 * t + (2 * k + d)) := by
  unfold rt_fo
  rw [hn]
  dsimp only
  rcases (show d = 0 ∨ d = 1 by omega) with rfl | rfl
  · rw [if_pos]
    · rfl
    · rw [Bool.and_eq_true]
      exact ⟨decide_eq_true hh.1, hh.2⟩
  · rw [if_neg, if_pos]
    · rw [Bool.and_eq_true]
      exact ⟨decide_eq_true hh.1, hh.2⟩
    · rw [Bool.and_eq_true]
      exact fun q => hb 0 (by omega) ⟨of_decide_eq_true q.1, q.2⟩
theorem rt_fo_miss {Q : Nat → Nat} {w h r k t : Nat} (hn : rt_nb w h (r / 12) (rt_to (r % 12)) = some t) (hb : ∀ e, e < 2 → ¬ rt_ft Q w h r k t e) : rt_fo Q w h r k = none := by
  unfold rt_fo
  rw [hn]
  dsimp only
  rw [if_neg, if_neg]
  · rw [Bool.and_eq_true]
    exact fun q => hb 1 (by omega) ⟨of_decide_eq_true q.1, q.2⟩
  · rw [Bool.and_eq_true]
    exact fun q => hb 0 (by omega) ⟨of_decide_eq_true q.1, q.2⟩
-- the least of those seen
def rt_mn (S : Nat → Prop) (o : Option Nat) : Prop := match o with
  | none => ∀ r, ¬ S r
  | some m => S m ∧ ∀ r, S r → m ≤ r
theorem rt_mn_eq {S S' : Nat → Prop} {o : Option Nat} (I : rt_mn S o) (h : ∀ r, S r ↔ S' r) : rt_mn S' o := by
  cases o with
  | none => exact fun r hr => I r ((h r).mpr hr)
  | some m => exact ⟨(h m).mp I.1, fun r hr => I.2 r ((h r).mpr hr)⟩
theorem rt_mn_0 {S S' : Nat → Prop} {b : Nat} (I : rt_mn S none) (h : ∀ r, S' r ↔ (S r ∨ r = b)) : rt_mn S' (some b) := ⟨(h b).mpr (Or.inr rfl), fun r hr => by
  rcases (h r).mp hr with q | q
  · exact absurd q (I r)
  · omega⟩
theorem rt_mn_lt {S S' : Nat → Prop} {b m : Nat} (I : rt_mn S (some m)) (h : ∀ r, S' r ↔ (S r ∨ r = b)) (hl : b < m) : rt_mn S' (some b) := ⟨(h b).mpr (Or.inr rfl), fun r hr => by
  rcases (h r).mp hr with q | q
  · have := I.2 r q; omega
  · omega⟩
theorem rt_mn_ge {S S' : Nat → Prop} {b m : Nat} (I : rt_mn S (some m)) (h : ∀ r, S' r ↔ (S r ∨ r = b)) (hl : m ≤ b) : rt_mn S' (some m) := ⟨(h m).mpr (Or.inl I.1), fun r hr => by
  rcases (h r).mp hr with q | q
  · exact I.2 r q
  · omega⟩
/-- the runs before rr among the first x of the list's runs -/
def rt_bS (Q : Nat → Nat) (w h : Nat) (L : Nat → Nat) (rr x : Nat) : Nat → Prop := fun r => (∃ j e, e < 2 ∧ 2 * j + e < x ∧ r = 2 * L j + e) ∧ rt_op Q (w * h) r = true ∧ rr ∈ rt_nx Q w h r
theorem rt_bS_skip {Q : Nat → Nat} {w h : Nat} {L : Nat → Nat} {rr i d : Nat} (hd : d < 2) (hx : ¬ (rt_op Q (w * h) (2 * L i + d) = true ∧ rr ∈ rt_nx Q w h (2 * L i + d))) : ∀ r, rt_bS Q w h L rr (2 * i + d) r ↔ rt_bS Q w h L rr (2 * i + (d + 1)) r := by
  intro r
  constructor
  · rintro ⟨⟨j, e, h1, h2, h3⟩, h4⟩
    exact ⟨⟨j, e, h1, by omega, h3⟩, h4⟩
  · rintro ⟨⟨j, e, h1, h2, h3⟩, h4⟩
    refine ⟨⟨j, e, h1, ?_, h3⟩, h4⟩
    rcases Nat.lt_or_ge (2 * j + e) (2 * i + d) with q | q
    · exact q
    · have e1 : j = i := by omega
      have e2 : e = d := by omega
      subst e1; subst e2
      rw [h3] at h4
      exact absurd h4 hx
theorem rt_bS_add {Q : Nat → Nat} {w h : Nat} {L : Nat → Nat} {rr i d : Nat} (hd : d < 2) (h1 : rt_op Q (w * h) (2 * L i + d) = true) (h2 : rr ∈ rt_nx Q w h (2 * L i + d)) : ∀ r, rt_bS Q w h L rr (2 * i + (d + 1)) r ↔ (rt_bS Q w h L rr (2 * i + d) r ∨ r = 2 * L i + d) := by
  intro r
  constructor
  · rintro ⟨⟨j, e, g1, g2, g3⟩, g4⟩
    rcases Nat.lt_or_ge (2 * j + e) (2 * i + d) with q | q
    · exact Or.inl ⟨⟨j, e, g1, q, g3⟩, g4⟩
    · have e1 : j = i := by omega
      have e2 : e = d := by omega
      subst e1; subst e2
      exact Or.inr g3
  · rintro (⟨⟨j, e, g1, g2, g3⟩, g4⟩ | rfl)
    · exact ⟨⟨j, e, g1, by omega, g3⟩, g4⟩
    · exact ⟨⟨i, d, hd, by omega, rfl⟩, h1, h2⟩
theorem rt_bS_end {Q : Nat → Nat} {w h : Nat} {L : Nat → Nat} {cn rr : Nat} {o : Option Nat} (hw : 0 < w) (hL : rt_isL Q L cn) (hr : rt_op Q (w * h) rr = true) (I : rt_mn (rt_bS Q w h L rr (2 * cn)) o) : rt_bf Q w h rr = o := by
  have key : ∀ r, rt_bS Q w h L rr (2 * cn) r ↔ r ∈ rt_pb Q w h rr 3 := by
    intro r
    constructor
    · rintro ⟨-, h1, h2⟩
      exact (rt_pred hw hr h1).mp h2
    · intro hm
      have ho := (rt_mem_pb.mp hm).choose_spec.2.2
      obtain ⟨j, hj, e⟩ := hL.2.2 (r / 2) (rt_op_there ho)
      exact ⟨⟨j, r % 2, Nat.mod_lt _ (by omega), by have : r % 2 < 2 := Nat.mod_lt _ (by omega); omega, by rw [e]; omega⟩, ho, (rt_pred hw hr ho).mpr hm⟩
  cases o with
  | none => exact rt_bf_none (fun b hb => I b ((key b).mpr hb))
  | some m =>
    have hm := (key m).mp I.1
    obtain ⟨a, h1, h2, h3⟩ := rt_bf_least hm
    rw [h1]
    congr 1
    exact Nat.le_antisymm (h3 m hm) (I.2 a ((key a).mpr h2))
/-- the tiles of station z among the first i of the list -/
def rt_sS (Q L : Nat → Nat) (z i : Nat) : Nat → Prop := fun t => ∃ j, j < i ∧ rt_s Q (L j) = z + 1 ∧ t = L j / 6
theorem rt_sS_skip {Q L : Nat → Nat} {z i : Nat} (hx : rt_s Q (L i) ≠ z + 1) : ∀ t, rt_sS Q L z i t ↔ rt_sS Q L z (i + 1) t := by
  intro t
  constructor
  · rintro ⟨j, h1, h2⟩
    exact ⟨j, by omega, h2⟩
  · rintro ⟨j, h1, h2⟩
    refine ⟨j, ?_, h2⟩
    rcases Nat.lt_or_ge j i with q | q
    · exact q
    · rw [show j = i by omega] at h2
      exact absurd h2.1 hx
theorem rt_sS_add {Q L : Nat → Nat} {z i : Nat} (hx : rt_s Q (L i) = z + 1) : ∀ t, rt_sS Q L z (i + 1) t ↔ (rt_sS Q L z i t ∨ t = L i / 6) := by
  intro t
  constructor
  · rintro ⟨j, h1, h2, h3⟩
    rcases Nat.lt_or_ge j i with q | q
    · exact Or.inl ⟨j, q, h2, h3⟩
    · rw [show j = i by omega] at h3
      exact Or.inr h3
  · rintro (⟨j, h1, h2⟩ | rfl)
    · exact ⟨j, by omega, h2⟩
    · exact ⟨i, by omega, hx, rfl⟩
theorem rt_s_0 {Q : Nat → Nat} {p : Nat} (h : rt_s Q p ≠ 0) : Q p ≠ 0 := fun q => h (rt_ok_0 q).2
theorem rt_sS_end {Q L : Nat → Nat} {z cn N : Nat} {o : Option Nat} (hQ : rt_ok Q N) (hL : rt_isL Q L cn) (I : rt_mn (rt_sS Q L z cn) o) : rt_sgn Q N z = o := by
  cases o with
  | none =>
    refine rt_sgn_none (fun p _ hp => ?_)
    obtain ⟨j, hj, e⟩ := hL.2.2 p (rt_s_0 (by omega))
    exact I (p / 6) ⟨j, hj, by rw [e]; exact hp, by rw [e]⟩
  | some t =>
    obtain ⟨⟨j, hj, h1, h2⟩, h3⟩ := I
    refine rt_sgn_least (fun p hp => rt_ok_in hQ (rt_s_0 hp)) ⟨L j, h1, h2.symm⟩ (fun p hp => ?_)
    obtain ⟨i, hi, e⟩ := hL.2.2 p (rt_s_0 (by omega))
    exact h3 (p / 6) ⟨i, hi, by rw [e]; exact hp, by rw [e]⟩
-- the four changes: 0 done, 1 no such place, 2 refused; and the map behind it
def rt_lay (Q : Nat → Nat) (n : Nat) (x y : Int32) : Nat × (Nat → Nat) := match rt_ix x n, rt_ix y 6 with
  | some t, some k => if Q (6 * t + k) ≠ 0 then (2, Q) else (0, va_up Q (6 * t + k) 1)
  | _, _ => (1, Q)
def rt_lift (Q : Nat → Nat) (n : Nat) (x y : Int32) : Nat × (Nat → Nat) := match rt_ix x n, rt_ix y 6 with
  | some t, some k => if Q (6 * t + k) = 0 then (2, Q) else (0, va_up Q (6 * t + k) 0)
  | _, _ => (1, Q)
def rt_sv (v u : Int32) : Nat := if v = -1 then 0 else 1 + v.toNatClampNeg + 2 * u.toNatClampNeg
def rt_sigx (v u : Int32) : Prop := v < -1 ∨ nI 1 < v ∨ u < 0 ∨ nI 1 < u
def rt_sig (Q : Nat → Nat) (n : Nat) (x y v u : Int32) : Nat × (Nat → Nat) := match rt_ix x n, rt_ix y 6 with
  | some t, some k => if Q (6 * t + k) = 0 ∨ v < -1 ∨ nI 1 < v ∨ u < 0 ∨ nI 1 < u then (2, Q) else (0, va_up Q (6 * t + k) (1 + 4 * rt_sv v u + 32 * rt_s Q (6 * t + k)))
  | _, _ => (1, Q)
def rt_plt (Q : Nat → Nat) (n : Nat) (x y v : Int32) : Nat × (Nat → Nat) := match rt_ix x n, rt_ix y 6 with
  | some t, some k => if v < -1 ∨ nI 7 < v then (1, Q) else if Q (6 * t + k) = 0 ∨ 1 < k then (2, Q) else (0, va_up Q (6 * t + k) (1 + 4 * rt_g Q (6 * t + k) + 32 * (v + 1).toNatClampNeg))
  | _, _ => (1, Q)
theorem rt_lay_n {Q : Nat → Nat} {n : Nat} {x y : Int32} (h : rt_ix x n = none ∨ rt_ix y 6 = none) : rt_lay Q n x y = (1, Q) ∧ rt_lift Q n x y = (1, Q) := by
  unfold rt_lay rt_lift
  rcases h with h | h
  · rw [h]; exact ⟨rfl, rfl⟩
  · rw [h]
    cases rt_ix x n <;> exact ⟨rfl, rfl⟩
theorem rt_sig_n {Q : Nat → Nat} {n : Nat} {x y v u : Int32} (h : rt_ix x n = none ∨ rt_ix y 6 = none) : rt_sig Q n x y v u = (1, Q) := by
  unfold rt_sig
  rcases h with h | h
  · rw [h]
  · rw [h]
    cases rt_ix x n <;> rfl
theorem rt_plt_n {Q : Nat → Nat} {n : Nat} {x y v : Int32} (h : rt_ix x n = none ∨ rt_ix y 6 = none) : rt_plt Q n x y v = (1, Q) := by
  unfold rt_plt
  rcases h with h | h
  · rw [h]
  · rw [h]
    cases rt_ix x n <;> rfl
theorem rt_lay_s {Q : Nat → Nat} {n t k : Nat} (hn : n < 2 ^ 31) (ht : t < n) (hk : k < 6) : rt_lay Q n (nI t) (nI k) = if Q (6 * t + k) ≠ 0 then (2, Q) else (0, va_up Q (6 * t + k) 1) := by
  unfold rt_lay
  rw [rt_ix_some hn ht, rt_ix_some (by decide) hk]
theorem rt_lift_s {Q : Nat → Nat} {n t k : Nat} (hn : n < 2 ^ 31) (ht : t < n) (hk : k < 6) : rt_lift Q n (nI t) (nI k) = if Q (6 * t + k) = 0 then (2, Q) else (0, va_up Q (6 * t + k) 0) := by
  unfold rt_lift
  rw [rt_ix_some hn ht, rt_ix_some (by decide) hk]
theorem rt_sig_s {Q : Nat → Nat} {n t k : Nat} {v u : Int32} (hn : n < 2 ^ 31) (ht : t < n) (hk : k < 6) : rt_sig Q n (nI t) (nI k) v u = if Q (6 * t + k) = 0 ∨ v < -1 ∨ nI 1 < v ∨ u < 0 ∨ nI 1 < u then (2, Q) else (0, va_up Q (6 * t + k) (1 + 4 * rt_sv v u + 32 * rt_s Q (6 * t + k))) := by
  unfold rt_sig
  rw [rt_ix_some hn ht, rt_ix_some (by decide) hk]
theorem rt_plt_s {Q : Nat → Nat} {n t k : Nat} {v : Int32} (hn : n < 2 ^ 31) (ht : t < n) (hk : k < 6) : rt_plt Q n (nI t) (nI k) v = if v < -1 ∨ nI 7 < v then (1, Q) else if Q (6 * t + k) = 0 ∨ 1 < k then (2, Q) else (0, va_up Q (6 * t + k) (1 + 4 * rt_g Q (6 * t + k) + 32 * (v + 1).toNatClampNeg)) := by
  unfold rt_plt
  rw [rt_ix_some hn ht, rt_ix_some (by decide) hk]
theorem m_row {D : va_G} {cI : ClassId} {n q0 b : Nat} {f f' : Nat → Int32} {ws : va_W} {H : Heap} (e : ∀ j, j < n → f j = f' j) (hp : ws[q0]? = some (b, .inl (cI, n, .inl f))) (hP : va_P D vwCl ws H) : va_P D vwCl (ws.set q0 (b, .inl (cI, n, .inl f'))) H := x_row e hp hP
theorem m_conv {D : va_G} {cI cZ : ClassId} {a : Nat → Nat} {w h : Nat} {tf gf sf lf tf' gf' sf' lf' : Nat → Int32} {cn : Nat} {th : Int32} {kf zf pf : Nat → Int32} {H : Heap} (e1 : ∀ j, j < 2400 → tf j = tf' j) (e2 : ∀ j, j < 2400 → gf j = gf' j) (e3 : ∀ j, j < 2400 → sf j = sf' j) (e4 : ∀ j, j < 2400 → lf j = lf' j) (hP : va_P D vwCl (mw cI cZ a w h tf gf sf lf cn th kf zf pf) H) : va_P D vwCl (mw cI cZ a w h tf' gf' sf' lf' cn th kf zf pf) H := by
  have h1 : va_P D vwCl (mw cI cZ a w h tf' gf sf lf cn th kf zf pf) H := m_row (q0 := 2) e1 rfl hP
  have h2 : va_P D vwCl (mw cI cZ a w h tf' gf' sf lf cn th kf zf pf) H := m_row (q0 := 3) e2 rfl h1
  have h3 : va_P D vwCl (mw cI cZ a w h tf' gf' sf' lf cn th kf zf pf) H := m_row (q0 := 4) e3 rfl h2
  exact m_row (q0 := 5) e4 rfl h3
theorem m_zf {D : va_G} {cI cZ : ClassId} {a : Nat → Nat} {w h : Nat} {tf gf sf lf : Nat → Int32} {cn : Nat} {th : Int32} {kf zf zf' pf : Nat → Int32} {H : Heap} (e : ∀ j, j < 2400 → zf j = zf' j) (hP : va_P D vwCl (mw cI cZ a w h tf gf sf lf cn th kf zf pf) H) : va_P D vwCl (mw cI cZ a w h tf gf sf lf cn th kf zf' pf) H := m_row (q0 := 7) e rfl hP
/-- one piece's parts, when its number changes -/
theorem rt_up_t (Q : Nat → Nat) (k v j : Nat) : decide (va_up Q k v j ≠ 0) = va_up (fun p => decide (Q p ≠ 0)) k (decide (v ≠ 0)) j := by
  unfold va_up
  split <;> rfl
theorem rt_up_g (Q : Nat → Nat) (k v j : Nat) : rt_g (va_up Q k v) j = va_up (rt_g Q) k (v / 4 % 8) j := by
  unfold rt_g va_up
  split <;> rfl
theorem rt_up_sn (Q : Nat → Nat) (k v j : Nat) : rt_s (va_up Q k v) j = va_up (rt_s Q) k (v / 32) j := by
  unfold rt_s va_up
  split <;> rfl
theorem rt_up_id {f : Nat → Nat} {k v : Nat} (h : f k = v) (j : Nat) : va_up f k v j = f j := by
  unfold va_up
  split
  · next e => rw [e, h]
  · rfl
theorem rt_up_ib {f : Nat → Bool} {k : Nat} {v : Bool} (h : f k = v) (j : Nat) : va_up f k v j = f j := by
  unfold va_up
  split
  · next e => rw [e, h]
  · rfl
