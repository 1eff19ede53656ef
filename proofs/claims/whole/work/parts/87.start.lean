/-! THE LAW'S START: by program (wip/whole/gen/start.py) -/
theorem lw_1 {w : Cond} (h : w ∈ tables_1_1) : w ∈ lw_tbl := List.mem_append_right _ (List.mem_append_left _ h)
theorem lw_2 {w : Cond} (h : w ∈ tables_1_2) : w ∈ lw_tbl := List.mem_append_right _ (List.mem_append_right _ (List.mem_append_left _ h))
theorem lw_3 {w : Cond} (h : w ∈ tables_1_3) : w ∈ lw_tbl := List.mem_append_right _ (List.mem_append_right _ (List.mem_append_right _ h))
theorem l_eqi {args : Array Value} {s : State} {t : Term} {z : Int32} (h : (Cond.eq t (.int z)).before args s = true) : t.eval args s none [] s = some (.int z) := by
  cases hv : t.eval args s none [] s with
  | none => simp [Cond.before, Cond.holds, Cond.value, hv] at h
  | some w =>
    have hz : (Term.int z).eval args s none [] s = some (.int z) := rfl
    simp only [Cond.before, Cond.holds, Cond.value, hv, hz] at h
    cases w <;> simp_all
/-- a table of the class, out of the start's words -/
theorem l_tab {s : State} {args : Array Value} {C n : String} {N : Nat} {f : Nat → Int32} (hN : N < 2 ^ 31) (hs : ∀ c ∈ flatC (Jvm.Cond.and given_1 narrow_1), c.before args s = true) (hl : (Cond.laysStatic C n "[I").before args s = true) (hini : (Cond.initialized C).before args s = true)
    (h1 : Cond.arrayOf (.static C n "[I") .int ∈ flatC (Jvm.Cond.and given_1 narrow_1)) (h2 : Cond.eq (.length (.static C n "[I")) (.int (Int32.ofNat N)) ∈ flatC (Jvm.Cond.and given_1 narrow_1)) (h3 : ∀ j, j < N → Cond.eq (.elem (.static C n "[I") (.int (Int32.ofNat j))) (.int (f j)) ∈ flatC (Jvm.Cond.and given_1 narrow_1)) :
    ∃ t : Nat, va_Z C n "[I" (.ref t) (fun q : Nat => s.heap.size ≤ q) s s.heap ∧ va_T .int t N (fun j => .int (f j)) (fun q : Nat => s.heap.size ≤ q) s s.heap := by
  obtain ⟨t, ht, hT⟩ := va_Tof (f := fun j => .int (f j)) (A := fun q : Nat => s.heap.size ≤ q) hN (hs _ h1) (l_eqi (hs _ h2)) (fun j hj => l_eqi (hs _ (h3 j hj))) (fun a h => Nat.not_le.mpr h)
  exact ⟨t, va_Zof hl hini ht (fun a h => Nat.not_le.mpr h), hT⟩
set_option maxRecDepth 100000 in
theorem l_t0 : Cond.arrayOf (.static rn_A "GOES_TO" "[I") .int ∈ flatC (Jvm.Cond.and given_1 narrow_1) ∧ Cond.eq (.length (.static rn_A "GOES_TO" "[I")) (.int (Int32.ofNat 12)) ∈ flatC (Jvm.Cond.and given_1 narrow_1) ∧ ∀ j, j < 12 → Cond.eq (.elem (.static rn_A "GOES_TO" "[I") (.int (Int32.ofNat j))) (.int (nI (rt_to j))) ∈ flatC (Jvm.Cond.and given_1 narrow_1) := by decide +kernel
set_option maxRecDepth 100000 in
theorem l_t1 : Cond.arrayOf (.static rn_A "BEGIN_BEYOND" "[I") .int ∈ flatC (Jvm.Cond.and given_1 narrow_1) ∧ Cond.eq (.length (.static rn_A "BEGIN_BEYOND" "[I")) (.int (Int32.ofNat 12)) ∈ flatC (Jvm.Cond.and given_1 narrow_1) ∧ ∀ j, j < 12 → Cond.eq (.elem (.static rn_A "BEGIN_BEYOND" "[I") (.int (Int32.ofNat j))) (.int (nI (rt_bg j))) ∈ flatC (Jvm.Cond.and given_1 narrow_1) := by decide +kernel
set_option maxRecDepth 100000 in
theorem l_t2 : Cond.arrayOf (.static rn_S "APART" "[I") .int ∈ flatC (Jvm.Cond.and given_1 narrow_1) ∧ Cond.eq (.length (.static rn_S "APART" "[I")) (.int (Int32.ofNat 6)) ∈ flatC (Jvm.Cond.and given_1 narrow_1) ∧ ∀ j, j < 6 → Cond.eq (.elem (.static rn_S "APART" "[I") (.int (Int32.ofNat j))) (.int (rt_apI j)) ∈ flatC (Jvm.Cond.and given_1 narrow_1) := by decide +kernel
set_option maxRecDepth 100000 in
theorem l_e : Cond.isRef (.static Bundle.tN "UNASSIGNED_STACK" Bundle.steD) ∈ flatC (Jvm.Cond.and given_1 narrow_1) ∧ Cond.isRef (.static Bundle.tN "SUPPRESSED_SENTINEL" Bundle.listD) ∈ flatC (Jvm.Cond.and given_1 narrow_1) ∧ Cond.not (.castable xe_L xe_I) ∈ flatC (Jvm.Cond.and given_1 narrow_1) := by decide +kernel
/-- two worlds side by side: their cells are apart -/
theorem l_ap {A : Nat → Prop} {a d : Nat → Nat} {ws : va_W} (hD : va_D A ws) (e : ws.map (fun q => q.1) = (List.range 10).map a ++ (List.range 9).map d) : (xI a ∧ mI d) ∧ ((∀ q, xA a q → A q) ∧ (∀ q, mA d q → A q)) ∧ (∀ q, xA a q → mA d q → False) := by
  have key : ∀ (i z : Nat), ((List.range 10).map a ++ (List.range 9).map d)[i]? = some z → ∃ q, ws[i]? = some q ∧ q.1 = z := by
    intro i z h
    rw [← e, List.getElem?_map] at h
    cases hq : ws[i]? with
    | none => rw [hq] at h; cases h
    | some q => rw [hq] at h; exact ⟨q, rfl, Option.some.inj h⟩
  have k1 : ∀ i, i < 10 → ∃ q, ws[i]? = some q ∧ q.1 = a i := by
    intro i hi
    refine key i (a i) ?_
    rw [List.getElem?_append_left (by simpa using hi), List.getElem?_map, List.getElem?_range hi]
    rfl
  have k2 : ∀ j, j < 9 → ∃ q, ws[10 + j]? = some q ∧ q.1 = d j := by
    intro j hj
    refine key (10 + j) (d j) ?_
    rw [List.getElem?_append_right (by simp), List.getElem?_map]
    simp only [List.length_map, List.length_range]
    rw [show 10 + j - 10 = j by omega, List.getElem?_range hj]
    rfl
  refine ⟨⟨fun i j hi hj h => ?_, fun i j hi hj h => ?_⟩, ⟨?_, ?_⟩, ?_⟩
  · obtain ⟨q1, h1, h2⟩ := k1 i hi
    obtain ⟨q2, h3, h4⟩ := k1 j hj
    exact hD.1 i j q1 q2 h1 h3 (by rw [h2, h4]; exact h)
  · obtain ⟨q1, h1, h2⟩ := k2 i hi
    obtain ⟨q2, h3, h4⟩ := k2 j hj
    have := hD.1 (10 + i) (10 + j) q1 q2 h1 h3 (by rw [h2, h4]; exact h)
    omega
  · rintro q ⟨i, hi, rfl⟩
    obtain ⟨q1, h1, h2⟩ := k1 i hi
    rw [← h2]
    exact hD.2 i q1 h1
  · rintro q ⟨i, hi, rfl⟩
    obtain ⟨q1, h1, h2⟩ := k2 i hi
    rw [← h2]
    exact hD.2 (10 + i) q1 h1
  · rintro q ⟨i, hi, rfl⟩ ⟨j, hj, hq⟩
    obtain ⟨q1, h1, h2⟩ := k1 i hi
    obtain ⟨q2, h3, h4⟩ := k2 j hj
    have := hD.1 i (10 + j) q1 q2 h1 h3 (by rw [h2, h4]; exact hq)
    omega
set_option maxHeartbeats 8000000 in
set_option maxRecDepth 100000 in
theorem whole_start {p : Program} {e : Env} {s : State} {m : MethodId} {below : List Frame} {meth : Method} {c : Code} (l : Launch) (hfl : l.flags = flags0) {bq LN : Nat} {xs : Nat → Int32} (hLN : LN ≤ 2562) (C0 : lw_At p s m meth c bq LN xs) : W p l e room_1 s m #[Value.ref bq] below meth c s.heap [] 0 0 (lw_Z below #[Value.ref bq] s) (entryFrame m ([Value.ref bq] : List Value).toArray 5) := by
  obtain ⟨hx, hb, hr, hml, hown, hts0, hX, hbl, hlocks, hgv⟩ := id C0
  have hs := flat_of_before _ hgv
  have hts : ∀ w ∈ tG, w.before #[Value.ref bq] s = true := fun w hw => hts0 w (List.mem_filter.mp hw).1
  have hA : ∀ q : Nat, s.heap.size ≤ q → (fun q : Nat => s.heap.size ≤ q) q := fun _ h => h
  have hbA : ¬ (fun q : Nat => s.heap.size ≤ q) bq := Nat.not_le.mpr hbl
  obtain ⟨c0, iS0, hKn0⟩ := u_known (C := rn_Q) (T := tf_Q) (N := 3) (n := 3) hts in_Q (hts _ k_instantiable_rn_Q_3)
  obtain ⟨c1, iS1, hKn1⟩ := u_known (C := rn_A) (T := tf_A) (N := 2) (n := 2) hts in_A (hts _ k_instantiable_rn_A_2)
  obtain ⟨c2, iS2, hKn2⟩ := u_known (C := rn_S) (T := tf_S) (N := 5) (n := 5) hts in_S (hts _ k_instantiable_rn_S_5)
  obtain ⟨c3, iS3, hKn3⟩ := u_known (C := rn_R) (T := tf_R) (N := 2) (n := 2) hts in_R (hts _ k_instantiable_rn_R_2)
  obtain ⟨c4, iS4, hKn4⟩ := u_known (C := rn_M) (T := tf_M) (N := 12) (n := 12) hts in_M (hts _ k_instantiable_rn_M_12)
  obtain ⟨D, hKc⟩ : ∃ D : va_G, ∀ (k : Nat) (q : vw_C), vwCl[k]? = some q → u_Kn s q.1 q.2.1 q.2.2 (D.1 k) (D.2 k) := by
    refine ⟨(fun k => [c0, c1, c2, c3, c4].getD k 0, fun k => [iS0, iS1, iS2, iS3, iS4].getD k (fun _ => 0)), ?_⟩
    intro k q hq
    match k, hq with
    | 0, hq => cases hq; exact hKn0
    | 1, hq => cases hq; exact hKn1
    | 2, hq => cases hq; exact hKn2
    | 3, hq => cases hq; exact hKn3
    | 4, hq => cases hq; exact hKn4
    | k + 5, hq => simp [vwCl] at hq
  obtain ⟨cI, hI1, hI2⟩ := x_arr (hts _ k_arrayClass_int)
  obtain ⟨cZ, hZ1, hZ2⟩ := x_arr (hts _ k_arrayClass_boolean)
  have hK : va_K D vwCl (xT cI cZ) s := ⟨hKc, fun k q hq => by
    match k, hq with
    | 0, hq => cases hq; exact ⟨hI1, hI2⟩
    | 1, hq => cases hq; exact ⟨hZ1, hZ2⟩
    | k + 2, hq => simp [xT] at hq⟩
  obtain ⟨t0, hz0, ht0⟩ := l_tab (C := rn_A) (n := "GOES_TO") (N := 12) (f := fun j => nI (rt_to j)) (by decide) hs (hts0 (.laysStatic rn_A "GOES_TO" "[I") (lw_1 (List.mem_of_getElem? (i := 131) (by decide +kernel)))) (hts _ k_initialized_rn_A) l_t0.1 l_t0.2.1 l_t0.2.2
  obtain ⟨t1, hz1, ht1⟩ := l_tab (C := rn_A) (n := "BEGIN_BEYOND") (N := 12) (f := fun j => nI (rt_bg j)) (by decide) hs (hts0 (.laysStatic rn_A "BEGIN_BEYOND" "[I") (lw_1 (List.mem_of_getElem? (i := 133) (by decide +kernel)))) (hts _ k_initialized_rn_A) l_t1.1 l_t1.2.1 l_t1.2.2
  obtain ⟨t2, hz2, ht2⟩ := l_tab (C := rn_S) (n := "APART") (N := 6) (f := rt_apI) (by decide) hs (hts0 (.laysStatic rn_S "APART" "[I") (lw_1 (List.mem_of_getElem? (i := 188) (by decide +kernel)))) (hts _ k_initialized_rn_S) l_t2.1 l_t2.2.1 l_t2.2.2
  have hZ : xZ (fun i => [t0, t1, t2].getD i 0) (fun q : Nat => s.heap.size ≤ q) s s.heap := ⟨⟨hz0, ht0⟩, ⟨hz1, ht1⟩, hz2, ht2⟩
  have hE : xe_K (fun q : Nat => s.heap.size ≤ q) s s.heap := by
    refine ⟨⟨?_, ?_⟩, ⟨xe_Z.of (hts0 (.laysStatic "java/lang/Throwable" "UNASSIGNED_STACK" "[Ljava/lang/StackTraceElement;") (lw_2 (List.mem_of_getElem? (i := 77) (by decide +kernel)))) (hs _ l_e.1) (fun a h => Nat.not_le.mpr h), xe_Z.of (hts0 (.laysStatic "java/lang/Throwable" "SUPPRESSED_SENTINEL" "Ljava/util/List;") (lw_2 (List.mem_of_getElem? (i := 79) (by decide +kernel)))) (hs _ l_e.2.1) (fun a h => Nat.not_le.mpr h)⟩, ?_⟩
    · intro w hw
      simp only [xe_ws, List.mem_cons, List.not_mem_nil, or_false] at hw
      rcases hw with rfl | rfl | rfl | rfl | rfl
      · exact va_any rfl (hts0 (.castable "java/lang/IndexOutOfBoundsException" "java/lang/IndexOutOfBoundsException") (lw_2 (List.mem_of_getElem? (i := 52) (by decide +kernel))))
      · exact va_any rfl (hts0 (.castable "java/lang/IllegalArgumentException" "java/lang/IllegalArgumentException") (lw_2 (List.mem_of_getElem? (i := 121) (by decide +kernel))))
      · exact va_any rfl (hts0 (.declares ⟨"java/lang/RuntimeException", "<init>", "(Ljava/lang/String;)V"⟩) (lw_2 (List.mem_of_getElem? (i := 54) (by decide +kernel))))
      · exact va_any rfl (hts0 (.declares ⟨"java/lang/Exception", "<init>", "(Ljava/lang/String;)V"⟩) (lw_2 (List.mem_of_getElem? (i := 56) (by decide +kernel))))
      · exact va_any rfl (hts0 (.declares ⟨"java/lang/Throwable", "<init>", "(Ljava/lang/String;)V"⟩) (lw_2 (List.mem_of_getElem? (i := 58) (by decide +kernel))))
    · intro q hq
      simp only [xe_st, List.mem_cons, List.not_mem_nil, or_false] at hq
      rcases hq with rfl | rfl | rfl | rfl | rfl | rfl | rfl | rfl
      · exact (hts0 (.stringRef rn_R 138 "no such tile") (lw_2 (List.mem_of_getElem? (i := 90) (by decide +kernel))))
      · exact (hts0 (.stringRef rn_R 140 "no such kind") (lw_2 (List.mem_of_getElem? (i := 117) (by decide +kernel))))
      · exact (hts0 (.stringRef rn_R 40 "the piece is there") (lw_2 (List.mem_of_getElem? (i := 128) (by decide +kernel))))
      · exact (hts0 (.stringRef rn_R 142 "the piece is not there") (lw_2 (List.mem_of_getElem? (i := 154) (by decide +kernel))))
      · exact (hts0 (.stringRef rn_R 58 "no such way") (lw_2 (List.mem_of_getElem? (i := 166) (by decide +kernel))))
      · exact (hts0 (.stringRef rn_R 60 "no such sort") (lw_2 (List.mem_of_getElem? (i := 167) (by decide +kernel))))
      · exact (hts0 (.stringRef rn_R 70 "no such station") (lw_2 (List.mem_of_getElem? (i := 175) (by decide +kernel))))
      · exact (hts0 (.stringRef rn_R 73 "a curve has no station") (lw_2 (List.mem_of_getElem? (i := 176) (by decide +kernel))))
    · intro c t hc ht
      have hv := Cond.holds_not_iff.mp (hs _ l_e.2.2)
      simp only [Cond.value, hc, ht] at hv
      exact Option.some.inj hv
  have hS : va_S (fun q : Nat => s.heap.size ≤ q) s.heap s.heap [] := va_S.rf
  have hP : va_P D vwCl [] s.heap := fun k q h => by simp at h
  have hD : va_D (fun q : Nat => s.heap.size ≤ q) [] := ⟨fun i j p q h => by simp at h, fun k q h => by simp at h⟩
  have hl := lv_entry ([.ref bq]) (n := 5) (Nat.le_of_ble_eq_true rfl)
  rw [lg_entry_eq]
  generalize (lg_sl ([.ref bq]) ++ List.replicate (5 - (lg_sl ([.ref bq])).length) Slot.unset).toArray = ls at hl ⊢
  have hl : lv_has ls 5 [(0, .ref bq)] := hl
  refine va_new (ci := 3) (fs := [.null, .null]) (C := rn_R) (T := tf_R) (N := 2) hx hb hts in_R tt_R tt_R_ok hown (hts _ k_classLink_rn_L_8_rn_R) (hts _ k_instantiable_rn_R_2) (hts _ k_initialized_rn_R) hK hP hD hS hA rfl (fun j hj => by rcases (show j = 0 ∨ j = 1 by omega) with rfl | rfl <;> rfl) (Nat.le_of_ble_eq_true rfl) (Nat.le_of_ble_eq_true rfl) d_L_law_0 (fun q0 H hP hD hS => ?_)
  have hP : va_P D vwCl [(q0, .inr (3, [.null, .null]))] H := hP
  have hD : va_D (fun q : Nat => s.heap.size ≤ q) [(q0, .inr (3, [.null, .null]))] := hD
  refine lv_dup hx hb d_L_law_3 rfl ?_
  refine lv_aload_n hx hb d_L_law_4 rfl (lv_at hl 0 rfl) ?_
  refine lv_iconst (v := nI 0) hx hb d_L_law_5 (by decide) ?_
  refine w_s0 (D := D) (ws := [(q0, .inr (3, [.null, .null]))]) (As := [.ref bq, .int (nI 0)]) (rest := [.ref q0, .ref q0]) ⟨hx, hb, hml, hown, hts⟩ (c_L_cell l bq LN xs 0 (by decide) hLN) l_Xbl (fun U hU hW => by rw [hU]; exact (hX.kept (hS.2.1 bq hbl hbA)).moved hW.alike) (va_cwS 2 hts (t_gS k_methodLink_rn_L_28_y_L_cell k_static_y_L_cell k_initialized_rn_L k_code_y_L_cell_method_2_code_2_some_int) rfl rfl rfl (by decide +kernel) ⟨Nat.le_of_ble_eq_true rfl, Nat.le_of_ble_eq_true rfl⟩) hP hS rfl hl.1 rfl (Nat.le_of_ble_eq_true rfl) d_L_law_6 ⟨Nat.le_of_ble_eq_true rfl, Nat.le_of_ble_eq_true rfl⟩ (fun r_6 H locs hw_6 hP hS => ?_)
  refine rw_topI (b := (if 0 < LN then xs 0 else 0)) hw_6 ?_
  refine lv_aload_n hx hb d_L_law_9 rfl (lv_at hl 0 rfl) ?_
  refine lv_iconst (v := nI 1) hx hb d_L_law_10 (by decide) ?_
  refine w_s0 (D := D) (ws := [(q0, .inr (3, [.null, .null]))]) (As := [.ref bq, .int (nI 1)]) (rest := [.int (if 0 < LN then xs 0 else 0), .ref q0, .ref q0]) ⟨hx, hb, hml, hown, hts⟩ (c_L_cell l bq LN xs 1 (by decide) hLN) l_Xbl (fun U hU hW => by rw [hU]; exact (hX.kept (hS.2.1 bq hbl hbA)).moved hW.alike) (va_cwS 2 hts (t_gS k_methodLink_rn_L_28_y_L_cell k_static_y_L_cell k_initialized_rn_L k_code_y_L_cell_method_2_code_2_some_int) rfl rfl rfl (by decide +kernel) ⟨Nat.le_of_ble_eq_true rfl, Nat.le_of_ble_eq_true rfl⟩) hP hS rfl hl.1 rfl (Nat.le_of_ble_eq_true rfl) d_L_law_11 ⟨Nat.le_of_ble_eq_true rfl, Nat.le_of_ble_eq_true rfl⟩ (fun r_11 H locs hw_11 hP hS => ?_)
  refine rw_topI (b := (if 1 < LN then xs 1 else 0)) hw_11 ?_
  refine w_ctor (As := [.int (if 0 < LN then xs 0 else 0), .int (if 1 < LN then xs 1 else 0)]) (rest := [.ref q0]) (wc := [(q0, .inr (3, [.null, .null]))]) (wr := []) ⟨hx, hb, hml, hown, hts⟩ (c_R_init l D cI cZ H.size q0 (if 0 < LN then xs 0 else 0) (if 1 < LN then xs 1 else 0)) (cwI 2 hts (t_g k_code_y_R_init_prog_1_method_1_code_5_none) rfl rfl rfl (hts _ k_initialized_rn_R) (hts _ k_methodLink_rn_L_34_y_R_init) (hts _ k_instanceMethod_y_R_init) rfl (by decide +kernel) ⟨Nat.le_of_ble_eq_true rfl, Nat.le_of_ble_eq_true rfl⟩) hK hP hD hS hA [0] [] rfl rfl rfl (by decide) (by decide) rfl hl.1 rfl (Nat.le_of_ble_eq_true rfl) d_L_law_14 ⟨Nat.le_of_ble_eq_true rfl, Nat.le_of_ble_eq_true rfl⟩ (fun u_14 H locs hw_14 hP hD hS => ?_)
  have hP : va_P D vwCl (xw cI u_14 (rt_sd (if 0 < LN then xs 0 else 0)) (rt_sd (if 1 < LN then xs 1 else 0)) (fun _ => 0) (fun _ => 0) (-1) 0 (fun _ => 0) 0 0 (fun _ => 0) 0 0) H := hP
  have hD : va_D (fun q : Nat => s.heap.size ≤ q) (xw cI u_14 (rt_sd (if 0 < LN then xs 0 else 0)) (rt_sd (if 1 < LN then xs 1 else 0)) (fun _ => 0) (fun _ => 0) (-1) 0 (fun _ => 0) 0 0 (fun _ => 0) 0 0) := hD
  refine lv_astore_n (lv' := [(1, .ref (u_14 0)), (0, .ref bq)]) hx hb d_L_law_17 rfl hl (by decide) (by rw [hw_14]; rfl) (fun ls hl => ?_)
  refine va_new (ci := 4) (fs := [.null, .int 0, .int 0, .int 0, .null, .null, .null, .null, .int 0, .null, .null, .null]) (C := rn_M) (T := tf_M) (N := 12) hx hb hts in_M tt_M tt_M_ok hown (hts _ k_classLink_rn_L_36_rn_M) (hts _ k_instantiable_rn_M_12) (hts _ k_initialized_rn_M) hK hP hD hS hA rfl (fun j hj => by rcases (show j = 0 ∨ j = 1 ∨ j = 2 ∨ j = 3 ∨ j = 4 ∨ j = 5 ∨ j = 6 ∨ j = 7 ∨ j = 8 ∨ j = 9 ∨ j = 10 ∨ j = 11 by omega) with rfl | rfl | rfl | rfl | rfl | rfl | rfl | rfl | rfl | rfl | rfl | rfl <;> rfl) (Nat.le_of_ble_eq_true rfl) (Nat.le_of_ble_eq_true rfl) d_L_law_18 (fun q18 H hP hD hS => ?_)
  have hP : va_P D vwCl ((xw cI u_14 (rt_sd (if 0 < LN then xs 0 else 0)) (rt_sd (if 1 < LN then xs 1 else 0)) (fun _ => 0) (fun _ => 0) (-1) 0 (fun _ => 0) 0 0 (fun _ => 0) 0 0) ++ [(q18, .inr (4, [.null, .int 0, .int 0, .int 0, .null, .null, .null, .null, .int 0, .null, .null, .null]))]) H := hP
  have hD : va_D (fun q : Nat => s.heap.size ≤ q) ((xw cI u_14 (rt_sd (if 0 < LN then xs 0 else 0)) (rt_sd (if 1 < LN then xs 1 else 0)) (fun _ => 0) (fun _ => 0) (-1) 0 (fun _ => 0) 0 0 (fun _ => 0) 0 0) ++ [(q18, .inr (4, [.null, .int 0, .int 0, .int 0, .null, .null, .null, .null, .int 0, .null, .null, .null]))]) := hD
  refine lv_dup hx hb d_L_law_21 rfl ?_
  refine lv_aload_n hx hb d_L_law_22 rfl (lv_at hl 1 rfl) ?_
  refine lv_iconst (v := nI 0) hx hb d_L_law_23 (by decide) ?_
  refine w_s0 (D := D) (ws := ((xw cI u_14 (rt_sd (if 0 < LN then xs 0 else 0)) (rt_sd (if 1 < LN then xs 1 else 0)) (fun _ => 0) (fun _ => 0) (-1) 0 (fun _ => 0) 0 0 (fun _ => 0) 0 0) ++ [(q18, .inr (4, [.null, .int 0, .int 0, .int 0, .null, .null, .null, .null, .int 0, .null, .null, .null]))])) (As := [.ref bq, .int (nI 0)]) (rest := [.ref q18, .ref q18]) ⟨hx, hb, hml, hown, hts⟩ (c_L_cell l bq LN xs 0 (by decide) hLN) l_Xbl (fun U hU hW => by rw [hU]; exact (hX.kept (hS.2.1 bq hbl hbA)).moved hW.alike) (va_cwS 2 hts (t_gS k_methodLink_rn_L_28_y_L_cell k_static_y_L_cell k_initialized_rn_L k_code_y_L_cell_method_2_code_2_some_int) rfl rfl rfl (by decide +kernel) ⟨Nat.le_of_ble_eq_true rfl, Nat.le_of_ble_eq_true rfl⟩) hP hS rfl hl.1 rfl (Nat.le_of_ble_eq_true rfl) d_L_law_24 ⟨Nat.le_of_ble_eq_true rfl, Nat.le_of_ble_eq_true rfl⟩ (fun r_24 H locs hw_24 hP hS => ?_)
  refine rw_topI (b := (if 0 < LN then xs 0 else 0)) hw_24 ?_
  refine lv_aload_n hx hb d_L_law_27 rfl (lv_at hl 1 rfl) ?_
  refine lv_iconst (v := nI 1) hx hb d_L_law_28 (by decide) ?_
  refine w_s0 (D := D) (ws := ((xw cI u_14 (rt_sd (if 0 < LN then xs 0 else 0)) (rt_sd (if 1 < LN then xs 1 else 0)) (fun _ => 0) (fun _ => 0) (-1) 0 (fun _ => 0) 0 0 (fun _ => 0) 0 0) ++ [(q18, .inr (4, [.null, .int 0, .int 0, .int 0, .null, .null, .null, .null, .int 0, .null, .null, .null]))])) (As := [.ref bq, .int (nI 1)]) (rest := [.int (if 0 < LN then xs 0 else 0), .ref q18, .ref q18]) ⟨hx, hb, hml, hown, hts⟩ (c_L_cell l bq LN xs 1 (by decide) hLN) l_Xbl (fun U hU hW => by rw [hU]; exact (hX.kept (hS.2.1 bq hbl hbA)).moved hW.alike) (va_cwS 2 hts (t_gS k_methodLink_rn_L_28_y_L_cell k_static_y_L_cell k_initialized_rn_L k_code_y_L_cell_method_2_code_2_some_int) rfl rfl rfl (by decide +kernel) ⟨Nat.le_of_ble_eq_true rfl, Nat.le_of_ble_eq_true rfl⟩) hP hS rfl hl.1 rfl (Nat.le_of_ble_eq_true rfl) d_L_law_29 ⟨Nat.le_of_ble_eq_true rfl, Nat.le_of_ble_eq_true rfl⟩ (fun r_29 H locs hw_29 hP hS => ?_)
  refine rw_topI (b := (if 1 < LN then xs 1 else 0)) hw_29 ?_
  refine w_ctor (As := [.int (if 0 < LN then xs 0 else 0), .int (if 1 < LN then xs 1 else 0)]) (rest := [.ref q18]) (wc := [(q18, .inr (4, [.null, .int 0, .int 0, .int 0, .null, .null, .null, .null, .int 0, .null, .null, .null]))]) (wr := (xw cI u_14 (rt_sd (if 0 < LN then xs 0 else 0)) (rt_sd (if 1 < LN then xs 1 else 0)) (fun _ => 0) (fun _ => 0) (-1) 0 (fun _ => 0) 0 0 (fun _ => 0) 0 0)) ⟨hx, hb, hml, hown, hts⟩ (c_M_init l D cI cZ H.size q18 (if 0 < LN then xs 0 else 0) (if 1 < LN then xs 1 else 0)) (cwI 2 hts (t_g k_code_y_M_init_prog_6_method_1_code_3_none) rfl rfl rfl (hts _ k_initialized_rn_M) (hts _ k_methodLink_rn_L_38_y_M_init) (hts _ k_instanceMethod_y_M_init) rfl (by decide +kernel) ⟨Nat.le_of_ble_eq_true rfl, Nat.le_of_ble_eq_true rfl⟩) hK hP hD hS hA [10] [0, 1, 2, 3, 4, 5, 6, 7, 8, 9] rfl rfl rfl (by decide) (by decide) rfl hl.1 rfl (Nat.le_of_ble_eq_true rfl) d_L_law_32 ⟨Nat.le_of_ble_eq_true rfl, Nat.le_of_ble_eq_true rfl⟩ (fun u_32 H locs hw_32 hP hD hS => ?_)
  have hap := l_ap (a := u_14) (d := u_32) hD rfl
  have hP1 : va_P D vwCl (xw cI u_14 (rt_sd (if 0 < LN then xs 0 else 0)) (rt_sd (if 1 < LN then xs 1 else 0)) (fun _ => 0) (fun _ => 0) (-1) 0 (fun _ => 0) 0 0 (fun _ => 0) 0 0) H := hP.sub [0, 1, 2, 3, 4, 5, 6, 7, 8, 9] rfl
  have hP2 : va_P D vwCl (mw cI cZ u_32 (rt_sd (if 0 < LN then xs 0 else 0)) (rt_sd (if 1 < LN then xs 1 else 0)) (fun _ => 0) (fun _ => 0) (fun _ => 0) (fun _ => 0) 0 0 (fun _ => 0) (fun _ => 0) (fun _ => 0)) H := hP.sub [10, 11, 12, 13, 14, 15, 16, 17, 18] rfl
  have hP2 : va_P D vwCl (mw cI cZ u_32 (rt_sd (if 0 < LN then xs 0 else 0)) (rt_sd (if 1 < LN then xs 1 else 0)) (fun p => rt_b (decide ((fun _ => 0) p ≠ 0))) (fun p => nI (rt_g (fun _ => 0) p)) (fun p => nI (rt_s (fun _ => 0) p)) (fun i => nI ((fun _ => 0) i)) 0 0 (fun _ => 0) (fun p => rt_b ((fun _ => false) p)) (fun _ => 0)) H := m_zf (zf := fun _ => 0) (fun _ _ => rfl) (m_conv (tf := fun _ => 0) (gf := fun _ => 0) (sf := fun _ => 0) (lf := fun _ => 0) (zf := fun _ => 0) (fun _ _ => rfl) (fun j _ => congrArg nI (show 0 = rt_g (fun _ => 0) j by simp [rt_g])) (fun j _ => congrArg nI (show 0 = rt_s (fun _ => 0) j by simp [rt_s])) (fun _ _ => rfl) hP2)
  refine lv_astore_n (lv' := [(2, .ref (u_32 0)), (1, .ref (u_14 0)), (0, .ref bq)]) hx hb d_L_law_35 rfl hl (by decide) (by rw [hw_32]; rfl) (fun ls hl => ?_)
  refine lv_iconst (v := nI 2) hx hb d_L_law_36 (by decide) ?_
  refine lv_istore_n (lv' := [(3, .int (nI 2)), (2, .ref (u_32 0)), (1, .ref (u_14 0)), (0, .ref bq)]) hx hb d_L_law_37 rfl hl (by decide) rfl (fun ls hl => ?_)
  refine W.widen (k := 100 + 3 * 0) (n := 40000 + 18 * 0) (Nat.le_of_ble_eq_true rfl) (Nat.le_of_ble_eq_true rfl) ?_
  exact l_loop l hfl (rt_sd (if 0 < LN then xs 0 else 0)) (rt_sd (if 1 < LN then xs 1 else 0)) hx hb hml hown hts hK hZ hE hap.1.1 hap.1.2 hap.2.1.1 hap.2.1.2 hap.2.2 hX hbl hLN hr hlocks 512 0 rfl _ _ _ _ _ _ _ _ _ _ _ _ _ _ _ _ H locs ls ⟨rt_sd_bd _, rt_sd_bd _, ⟨fun _ _ => rfl, fun _ => Or.inl rfl⟩⟩ (Or.inl rfl) ⟨fun i hi => absurd hi (Nat.not_lt_zero i), fun i j hi => absurd hi (Nat.not_lt_zero i), fun p hp => absurd rfl hp⟩ hP1 hP2 hS (lv_sub hl [3, 2, 1, 0] rfl)
