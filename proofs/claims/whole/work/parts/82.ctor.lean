/-! CONSTRUCTORS: by program (wip/whole/gen/mk.py) -/
theorem rt_mx0 {n : Nat} (h : n < 2 ^ 31) : (if nI 0 < nI n then nI n else nI 0) = nI n := by
  by_cases h1 : nI 0 < nI n
  · rw [if_pos h1]
  · rw [if_neg h1]
    rw [Int32.lt_iff_toInt_lt, nI_toInt (by decide), nI_toInt h] at h1
    rw [show n = 0 by omega]

set_option maxHeartbeats 4000000 in
set_option maxRecDepth 100000 in
theorem c_Q_init (l : Launch) (D : va_G) (cI cZ : ClassId) (sz : Nat) (a0 n : Nat) (hn : n ≤ 3200) : Met l y_Q_init (.code y_Q_init b_Q_init 2 none :: tG) ({ frames := 1, cells := 1, slots := 3200, locals := 30 }) (va_Pc [.ref (a0), .int (nI (n))] (kU D cI cZ sz [(a0, .inr (0, [.null, .int 0, .int 0]))])) (va_Qv (S := Nat) (fun _ => True) (kB D (va_A [(a0, .inr (0, [.null, .int 0, .int 0]))] sz) (fun (u : Nat) => [(a0, .inr (0, [.ref u, .int 0, .int 0])), (u, .inl (cI, n, .inl (fun _ => 0)))])) (va_A [(a0, .inr (0, [.null, .int 0, .int 0]))] sz)) 1 3200 (va_A [(a0, .inr (0, [.null, .int 0, .int 0]))] sz) := by
  refine Met.ofW (cc := b_Q_init) (maxL := 2) (ret := none) (by decide) rfl ?_
  intro p e s m args below meth c s₁ BD9 hml hv
  obtain ⟨rfl, hP, hK, hsz⟩ := hv
  have hx := BD9.exec
  have hb := BD9.bytes
  have hr := BD9.returns
  have hin : meth.name = "<init>" := (name_of_methodNamed BD9.named BD9.method).1
  have hts : ∀ w ∈ tG, w.before _ s = true := fun w hw => atoms_spec (ws := .code y_Q_init b_Q_init 2 none :: tG) BD9.pre w (List.mem_cons_of_mem _ hw)
  have hown : s.vm.findClass rn_Q = some m.cls := findClass_of_methodNamed BD9.named
  have hlocks := BD9.notSynchronized
  have hS : va_S (va_A [(a0, .inr (0, [.null, .int 0, .int 0]))] sz) s.heap s.heap [] := va_S.rf
  have hD : va_D (va_A [(a0, .inr (0, [.null, .int 0, .int 0]))] sz) [(a0, .inr (0, [.null, .int 0, .int 0]))] := k_D1 _ _ _
  have hA : ∀ q, s.heap.size ≤ q → (va_A [(a0, .inr (0, [.null, .int 0, .int 0]))] sz) q := fun q h9 => Or.inr (Nat.le_trans hsz h9)
  have hP : va_P D vwCl [(a0, .inr (0, [.null, .int 0, .int 0]))] s.heap := hP
  have hl := lv_entry ([.ref (a0), .int (nI (n))]) (n := 2) (Nat.le_of_ble_eq_true rfl)
  rw [lg_entry_eq]
  generalize (lg_sl ([.ref (a0), .int (nI (n))]) ++ List.replicate (2 - (lg_sl ([.ref (a0), .int (nI (n))])).length) Slot.unset).toArray = ls at hl ⊢
  have hl : lv_has ls 2 [(0, .ref (a0)), (1, .int (nI (n)))] := hl
  refine lv_aload_n hx hb d_Q_init_0 rfl (lv_at hl 0 rfl) ?_
  refine w_oi hx hb hml hown hts k_methodLink_rn_Q_3_objectInit hl.1 d_Q_init_1 ⟨Nat.le_of_ble_eq_true rfl, Nat.le_of_ble_eq_true rfl⟩ ?_
  refine lv_aload_n hx hb d_Q_init_4 rfl (lv_at hl 0 rfl) ?_
  refine lv_iconst (v := (nI (0))) hx hb d_Q_init_5 (by decide) ?_
  refine lv_iload_n hx hb d_Q_init_6 rfl (lv_at hl 1 rfl) ?_
  refine va_mmax hx hb (hml.trans hl.1.symm) hown (hts _ k_methodLink_rn_Q_9_y_JM_max) (hts _ k_static_y_JM_max) (hts _ k_initialized_rn_JM) (hts _ k_code_y_JM_max_prog_10_method_65_code_2_some_int) (Nat.le_of_ble_eq_true rfl) (Nat.le_of_ble_eq_true rfl) (Nat.le_of_ble_eq_true rfl) (Nat.le_of_ble_eq_true rfl) d_Q_init_7 ?_
  refine rw_topI (b := nI n) (rt_mx0 (by omega)) ?_
  refine w_newI hx hb hts hK hP hD hS hA (N := n) (by omega) 1 3200 ⟨by omega, by omega⟩ ⟨Nat.le_of_ble_eq_true rfl, Nat.le_of_ble_eq_true rfl⟩ d_Q_init_10 (fun q10 H hP hD hS => ?_)
  have hP : va_P D vwCl [(a0, .inr (0, [.null, .int 0, .int 0])), (q10, .inl (cI, n, .inl (fun _ => 0)))] H := hP
  have hD : va_D (va_A [(a0, .inr (0, [.null, .int 0, .int 0]))] sz) [(a0, .inr (0, [.null, .int 0, .int 0])), (q10, .inl (cI, n, .inl (fun _ => 0)))] := hD
  refine va_putF (D := D) (ci := 0) (v := .ref (q10)) (ty := .array .int) (C := rn_Q) (T := tf_Q) (N := 3) hx hb hts in_Q tt_Q tt_Q_ok nm_Q hown hK hP hD hS 0 rfl rfl 0 (by decide) (hts _ k_fieldLink_rn_Q_15_rn_Q_row_I) (fun _ h9 => h9) rfl hin rfl (by decide +kernel) rfl rfl (Nat.le_of_ble_eq_true rfl) d_Q_init_12 (fun H locs hP hD hS => ?_)
  have hP : va_P D vwCl [(a0, .inr (0, [.ref (q10), .int 0, .int 0])), (q10, .inl (cI, n, .inl (fun _ => 0)))] H := hP
  have hD : va_D (va_A [(a0, .inr (0, [.null, .int 0, .int 0]))] sz) [(a0, .inr (0, [.ref (q10), .int 0, .int 0])), (q10, .inl (cI, n, .inl (fun _ => 0)))] := hD
  exact w_kret q10 hx hb hr hlocks hS hP hD (trivial) d_Q_init_15 ⟨Nat.le_of_ble_eq_true rfl, Nat.le_of_ble_eq_true rfl⟩

theorem rt_til {w h x y : Nat} (hy : y < h) (hx : x < w) : w * y + x < w * h := by
  have h1 := Nat.mul_le_mul_left w (show y + 1 ≤ h from hy)
  rw [Nat.mul_succ] at h1
  omega
theorem rt_dm {w x y : Nat} (hx : x < w) : (w * y + x) % w = x ∧ (w * y + x) / w = y := by
  rw [Nat.mul_add_mod, Nat.mod_eq_of_lt hx, Nat.mul_add_div (by omega), Nat.div_eq_of_lt hx]
  exact ⟨rfl, rfl⟩
theorem rt_v0n {w h x y : Nat} (hx : x < w) (c : x ≤ 0) : (-1 : Int32) = rt_o (rt_nb w h (w * y + x) 0) := by
  unfold rt_nb
  rw [if_pos rfl, (rt_dm hx).1, if_pos (by omega)]
  rfl
theorem rt_v0s {w h x y : Nat} (hx : x < w) (c : ¬ x ≤ 0) : nI (w * y + x - 1) = rt_o (rt_nb w h (w * y + x) 0) := by
  unfold rt_nb
  rw [if_pos rfl, (rt_dm hx).1, if_neg (by omega)]
  rfl
theorem rt_v1n {w h x y : Nat} (hx : x < w) (c : y ≤ 0) : (-1 : Int32) = rt_o (rt_nb w h (w * y + x) 1) := by
  unfold rt_nb
  rw [if_neg (by omega), if_pos rfl, (rt_dm hx).2, if_pos (by omega)]
  rfl
theorem rt_v1s {w h x y : Nat} (hx : x < w) (c : ¬ y ≤ 0) : nI (w * y + x - w) = rt_o (rt_nb w h (w * y + x) 1) := by
  unfold rt_nb
  rw [if_neg (by omega), if_pos rfl, (rt_dm hx).2, if_neg (by omega)]
  rfl
theorem rt_v2n {w h x y : Nat} (hx : x < w) (c : w - 1 ≤ x) : (-1 : Int32) = rt_o (rt_nb w h (w * y + x) 2) := by
  unfold rt_nb
  rw [if_neg (by omega), if_neg (by omega), if_pos rfl, (rt_dm hx).1, if_pos (by omega)]
  rfl
theorem rt_v2s {w h x y : Nat} (hx : x < w) (c : ¬ w - 1 ≤ x) : nI (w * y + x + 1) = rt_o (rt_nb w h (w * y + x) 2) := by
  unfold rt_nb
  rw [if_neg (by omega), if_neg (by omega), if_pos rfl, (rt_dm hx).1, if_neg (by omega)]
  rfl
theorem rt_v3n {w h x y : Nat} (hx : x < w ∧ y < h) (c : h - 1 ≤ y) : (-1 : Int32) = rt_o (rt_nb w h (w * y + x) 3) := by
  unfold rt_nb
  rw [if_neg (by omega), if_neg (by omega), if_neg (by omega), (rt_dm hx.1).2, if_pos (by omega)]
  rfl
theorem rt_v3s {w h x y : Nat} (hx : x < w ∧ y < h) (c : ¬ h - 1 ≤ y) : nI (w * y + x + w) = rt_o (rt_nb w h (w * y + x) 3) := by
  unfold rt_nb
  rw [if_neg (by omega), if_neg (by omega), if_neg (by omega), (rt_dm hx.1).2, if_neg (by omega)]
  rfl
theorem rt_four {w h x y : Nat} {f : Nat → Int32} {v0 v1 v2 v3 : Int32} (hI : ∀ j, j < 4 * (w * y + x) → f j = rt_o (rt_nb w h (j / 4) (j % 4))) (h0 : v0 = rt_o (rt_nb w h (w * y + x) 0)) (h1 : v1 = rt_o (rt_nb w h (w * y + x) 1)) (h2 : v2 = rt_o (rt_nb w h (w * y + x) 2)) (h3 : v3 = rt_o (rt_nb w h (w * y + x) 3)) :
    ∀ j, j < 4 * (w * y + (x + 1)) → upd (upd (upd (upd f (4 * (w * y + x) + 0) v0) (4 * (w * y + x) + 1) v1) (4 * (w * y + x) + 2) v2) (4 * (w * y + x) + 3) v3 j = rt_o (rt_nb w h (j / 4) (j % 4)) := by
  intro j hj
  rw [show w * y + (x + 1) = (w * y + x) + 1 by omega] at hj
  generalize w * y + x = t at *
  have e0 : (4 * t + 0) / 4 = t ∧ (4 * t + 0) % 4 = 0 := by omega
  have e1 : (4 * t + 1) / 4 = t ∧ (4 * t + 1) % 4 = 1 := by omega
  have e2 : (4 * t + 2) / 4 = t ∧ (4 * t + 2) % 4 = 2 := by omega
  have e3 : (4 * t + 3) / 4 = t ∧ (4 * t + 3) % 4 = 3 := by omega
  by_cases q3 : j = 4 * t + 3
  · subst q3
    rw [e3.1, e3.2, ← h3]
    simp [upd]
  · by_cases q2 : j = 4 * t + 2
    · subst q2
      rw [e2.1, e2.2, ← h2]
      simp [upd]
    · by_cases q1 : j = 4 * t + 1
      · subst q1
        rw [e1.1, e1.2, ← h1]
        simp [upd]
      · by_cases q0 : j = 4 * t + 0
        · subst q0
          rw [e0.1, e0.2, ← h0]
          simp [upd]
        · have q4 : j < 4 * t := by omega
          rw [← hI j q4]
          simp only [upd, if_neg q3, if_neg q2, if_neg q1, if_neg q0]

set_option maxHeartbeats 4000000 in
set_option maxRecDepth 100000 in
theorem c_A_init (l : Launch) (D : va_G) (cI cZ : ClassId) (sz : Nat) (a0 w h : Nat) (hw : 4 ≤ w ∧ w ≤ 20) (hh : 4 ≤ h ∧ h ≤ 20) : Met l y_A_init (.code y_A_init b_A_init 6 none :: tG) ({ frames := 1, cells := 2, slots := 4000, locals := 12 }) (va_Pc [.ref (a0), .int (nI (w)), .int (nI (h))] (kU D cI cZ sz [(a0, .inr (1, [.null, .null]))])) (va_Qv (S := (Nat × Nat)) (fun _ => True) (kB D (va_A [(a0, .inr (1, [.null, .null]))] sz) (fun (u : (Nat × Nat)) => [(a0, .inr (1, [.ref u.1, .ref u.2])), (u.1, .inl (cI, 4 * (w * h), .inl (fun j => rt_o (rt_nb w h (j / 4) (j % 4))))), (u.2, .inl (cI, 6 * (w * h), .inl (fun _ => 0)))])) (va_A [(a0, .inr (1, [.null, .null]))] sz)) 2 4000 (va_A [(a0, .inr (1, [.null, .null]))] sz) := by
  refine Met.ofW (cc := b_A_init) (maxL := 6) (ret := none) (by decide) rfl ?_
  intro p e s m args below meth c s₁ BD9 hml hv
  obtain ⟨rfl, hP, hK, hsz⟩ := hv
  have hx := BD9.exec
  have hb := BD9.bytes
  have hr := BD9.returns
  have hin : meth.name = "<init>" := (name_of_methodNamed BD9.named BD9.method).1
  have hts : ∀ w ∈ tG, w.before _ s = true := fun w hw => atoms_spec (ws := .code y_A_init b_A_init 6 none :: tG) BD9.pre w (List.mem_cons_of_mem _ hw)
  have hown : s.vm.findClass rn_A = some m.cls := findClass_of_methodNamed BD9.named
  have hlocks := BD9.notSynchronized
  have hS : va_S (va_A [(a0, .inr (1, [.null, .null]))] sz) s.heap s.heap [] := va_S.rf
  have hD : va_D (va_A [(a0, .inr (1, [.null, .null]))] sz) [(a0, .inr (1, [.null, .null]))] := k_D1 _ _ _
  have hA : ∀ q, s.heap.size ≤ q → (va_A [(a0, .inr (1, [.null, .null]))] sz) q := fun q h9 => Or.inr (Nat.le_trans hsz h9)
  have hP : va_P D vwCl [(a0, .inr (1, [.null, .null]))] s.heap := hP
  have hl := lv_entry ([.ref (a0), .int (nI (w)), .int (nI (h))]) (n := 6) (Nat.le_of_ble_eq_true rfl)
  rw [lg_entry_eq]
  generalize (lg_sl ([.ref (a0), .int (nI (w)), .int (nI (h))]) ++ List.replicate (6 - (lg_sl ([.ref (a0), .int (nI (w)), .int (nI (h))])).length) Slot.unset).toArray = ls at hl ⊢
  have hl : lv_has ls 6 [(0, .ref (a0)), (1, .int (nI (w))), (2, .int (nI (h)))] := hl
  have hn : w * h ≤ 400 := Nat.mul_le_mul hw.2 hh.2
  have hn1 : 16 ≤ w * h := Nat.mul_le_mul hw.1 hh.1
  refine lv_aload_n hx hb d_A_init_0 rfl (lv_at hl 0 rfl) ?_
  refine w_oi hx hb hml hown hts k_methodLink_rn_A_3_objectInit hl.1 d_A_init_1 ⟨Nat.le_of_ble_eq_true rfl, Nat.le_of_ble_eq_true rfl⟩ ?_
  refine lv_aload_n hx hb d_A_init_4 rfl (lv_at hl 0 rfl) ?_
  refine lv_iconst (v := (nI (4))) hx hb d_A_init_5 (by decide) ?_
  refine lv_iload_n hx hb d_A_init_6 rfl (lv_at hl 1 rfl) ?_
  refine rw_mul hx hb d_A_init_7 ?_
  refine lv_iload_n hx hb d_A_init_8 rfl (lv_at hl 2 rfl) ?_
  refine rw_mul hx hb d_A_init_9 ?_
  refine rw_top (b := 4 * (w * h)) (Nat.mul_assoc _ _ _) ?_
  refine w_newI hx hb hts hK hP hD hS hA (N := 4 * (w * h)) (by omega) 1 1600 ⟨by omega, by omega⟩ ⟨Nat.le_of_ble_eq_true rfl, Nat.le_of_ble_eq_true rfl⟩ d_A_init_10 (fun q10 H hP hD hS => ?_)
  have hP : va_P D vwCl [(a0, .inr (1, [.null, .null])), (q10, .inl (cI, 4 * (w * h), .inl (fun _ => 0)))] H := hP
  have hD : va_D (va_A [(a0, .inr (1, [.null, .null]))] sz) [(a0, .inr (1, [.null, .null])), (q10, .inl (cI, 4 * (w * h), .inl (fun _ => 0)))] := hD
  refine va_putF (D := D) (ci := 1) (v := .ref (q10)) (ty := .array .int) (C := rn_A) (T := tf_A) (N := 2) hx hb hts in_A tt_A tt_A_ok nm_A hown hK hP hD hS 0 rfl rfl 0 (by decide) (hts _ k_fieldLink_rn_A_11_rn_A_beyond_I) (fun _ h9 => h9) rfl hin rfl (by decide +kernel) rfl rfl (Nat.le_of_ble_eq_true rfl) d_A_init_12 (fun H locs hP hD hS => ?_)
  have hP : va_P D vwCl [(a0, .inr (1, [.ref (q10), .null])), (q10, .inl (cI, 4 * (w * h), .inl (fun _ => 0)))] H := hP
  have hD : va_D (va_A [(a0, .inr (1, [.null, .null]))] sz) [(a0, .inr (1, [.ref (q10), .null])), (q10, .inl (cI, 4 * (w * h), .inl (fun _ => 0)))] := hD
  refine lv_aload_n hx hb d_A_init_15 rfl (lv_at hl 0 rfl) ?_
  refine lv_bipush (v := (nI (6))) hx hb d_A_init_16 (by decide) ?_
  refine lv_iload_n hx hb d_A_init_18 rfl (lv_at hl 1 rfl) ?_
  refine rw_mul hx hb d_A_init_19 ?_
  refine lv_iload_n hx hb d_A_init_20 rfl (lv_at hl 2 rfl) ?_
  refine rw_mul hx hb d_A_init_21 ?_
  refine rw_top (b := 6 * (w * h)) (Nat.mul_assoc _ _ _) ?_
  refine w_newI hx hb hts hK hP hD hS hA (N := 6 * (w * h)) (by omega) 2 4000 ⟨by omega, by omega⟩ ⟨Nat.le_of_ble_eq_true rfl, Nat.le_of_ble_eq_true rfl⟩ d_A_init_22 (fun q22 H hP hD hS => ?_)
  have hP : va_P D vwCl [(a0, .inr (1, [.ref (q10), .null])), (q10, .inl (cI, 4 * (w * h), .inl (fun _ => 0))), (q22, .inl (cI, 6 * (w * h), .inl (fun _ => 0)))] H := hP
  have hD : va_D (va_A [(a0, .inr (1, [.null, .null]))] sz) [(a0, .inr (1, [.ref (q10), .null])), (q10, .inl (cI, 4 * (w * h), .inl (fun _ => 0))), (q22, .inl (cI, 6 * (w * h), .inl (fun _ => 0)))] := hD
  refine va_putF (D := D) (ci := 1) (v := .ref (q22)) (ty := .array .int) (C := rn_A) (T := tf_A) (N := 2) hx hb hts in_A tt_A tt_A_ok nm_A hown hK hP hD hS 0 rfl rfl 1 (by decide) (hts _ k_fieldLink_rn_A_15_rn_A_pieces_I) (fun _ h9 => h9) rfl hin rfl (by decide +kernel) rfl rfl (Nat.le_of_ble_eq_true rfl) d_A_init_24 (fun H locs hP hD hS => ?_)
  have hP : va_P D vwCl [(a0, .inr (1, [.ref (q10), .ref (q22)])), (q10, .inl (cI, 4 * (w * h), .inl (fun _ => 0))), (q22, .inl (cI, 6 * (w * h), .inl (fun _ => 0)))] H := hP
  have hD : va_D (va_A [(a0, .inr (1, [.null, .null]))] sz) [(a0, .inr (1, [.ref (q10), .ref (q22)])), (q10, .inl (cI, 4 * (w * h), .inl (fun _ => 0))), (q22, .inl (cI, 6 * (w * h), .inl (fun _ => 0)))] := hD
  refine lv_iconst (v := (nI (0))) hx hb d_A_init_27 (by decide) ?_
  refine lv_istore_n (lv' := [(3, .int (nI (0))), (0, .ref (a0)), (1, .int (nI (w))), (2, .int (nI (h)))]) hx hb d_A_init_28 rfl hl (by decide) rfl (fun ls hl => ?_)
  have hD9 := hD
  have LP_29 : ∀ (n_29 : Nat) (f : Nat → Int32) (y : Nat), y + n_29 = h → (∀ j, j < 4 * (w * y) → f j = rt_o (rt_nb w h (j / 4) (j % 4))) → ∀ (H : Heap) (locs : List Loc) (ls : Array Slot), va_P D vwCl [(a0, .inr (1, [.ref (q10), .ref (q22)])), (q10, .inl (cI, 4 * (w * h), .inl f)), (q22, .inl (cI, 6 * (w * h), .inl (fun _ => 0)))] H → va_S (va_A [(a0, .inr (1, [.null, .null]))] sz) s.heap H locs → lv_has ls 6 [(0, .ref (a0)), (1, .int (nI (w))), (2, .int (nI (h))), (3, .int (nI (y)))] → W p l e (headSpec (.code y_A_init b_A_init 6 none :: tG) ({ frames := 1, cells := 2, slots := 4000, locals := 12 })).room s m ([.ref (a0), .int (nI (w)), .int (nI (h))] : List Value).toArray below meth c H locs 2 4000 (MQ below (va_Qv (S := (Nat × Nat)) (fun _ => True) (kB D (va_A [(a0, .inr (1, [.null, .null]))] sz) (fun (u : (Nat × Nat)) => [(a0, .inr (1, [.ref u.1, .ref u.2])), (u.1, .inl (cI, 4 * (w * h), .inl (fun j => rt_o (rt_nb w h (j / 4) (j % 4))))), (u.2, .inl (cI, 6 * (w * h), .inl (fun _ => 0)))])) (va_A [(a0, .inr (1, [.null, .null]))] sz)) ([.ref (a0), .int (nI (w)), .int (nI (h))] : List Value).toArray s 2 4000 (va_A [(a0, .inr (1, [.null, .null]))] sz)) (F0 m 29 ls []) := by
    intro n_29
    induction n_29 with
    | zero =>
      intro f y hrel_29 hO H locs ls hP hS hl
      have hD : va_D (va_A [(a0, .inr (1, [.null, .null]))] sz) [(a0, .inr (1, [.ref (q10), .ref (q22)])), (q10, .inl (cI, 4 * (w * h), .inl f)), (q22, .inl (cI, 6 * (w * h), .inl (fun _ => 0)))] := k_D hD9 rfl
      refine lv_iload_n hx hb d_A_init_29 rfl (lv_at hl 3 rfl) ?_
      refine lv_iload_n hx hb d_A_init_30 rfl (lv_at hl 2 rfl) ?_
      refine rw_cge (tgt := 163) hx hb d_A_init_31 (by decide) (by omega) (by omega) (fun c_31 => ?_) (fun c_31 => ?_)
      · have hP := x_row (q0 := 1) (f' := fun j => rt_o (rt_nb w h (j / 4) (j % 4))) (fun j hj => hO j (by rw [show y = h by omega]; exact hj)) rfl hP
        have hD : va_D (va_A [(a0, .inr (1, [.null, .null]))] sz) [(a0, .inr (1, [.ref (q10), .ref (q22)])), (q10, .inl (cI, 4 * (w * h), .inl (fun j => rt_o (rt_nb w h (j / 4) (j % 4))))), (q22, .inl (cI, 6 * (w * h), .inl (fun _ => 0)))] := k_D hD rfl
        have hP : va_P D vwCl [(a0, .inr (1, [.ref (q10), .ref (q22)])), (q10, .inl (cI, 4 * (w * h), .inl (fun j => rt_o (rt_nb w h (j / 4) (j % 4))))), (q22, .inl (cI, 6 * (w * h), .inl (fun _ => 0)))] H := hP
        exact w_kret (q10, q22) hx hb hr hlocks hS hP hD trivial d_A_init_163 ⟨Nat.le_of_ble_eq_true rfl, Nat.le_of_ble_eq_true rfl⟩
      · omega
    | succ n_29 ih_29 =>
      intro f y hrel_29 hO H locs ls hP hS hl
      have hD : va_D (va_A [(a0, .inr (1, [.null, .null]))] sz) [(a0, .inr (1, [.ref (q10), .ref (q22)])), (q10, .inl (cI, 4 * (w * h), .inl f)), (q22, .inl (cI, 6 * (w * h), .inl (fun _ => 0)))] := k_D hD9 rfl
      refine lv_iload_n hx hb d_A_init_29 rfl (lv_at hl 3 rfl) ?_
      refine lv_iload_n hx hb d_A_init_30 rfl (lv_at hl 2 rfl) ?_
      refine rw_cge (tgt := 163) hx hb d_A_init_31 (by decide) (by omega) (by omega) (fun c_31 => ?_) (fun c_31 => ?_)
      · omega
      · refine lv_iconst (v := (nI (0))) hx hb d_A_init_34 (by decide) ?_
        refine lv_istore (lv' := [(4, .int (nI (0))), (0, .ref (a0)), (1, .int (nI (w))), (2, .int (nI (h))), (3, .int (nI (y)))]) hx hb d_A_init_35 hl (by decide) rfl (fun ls hl => ?_)
        have LP_37 : ∀ (n_37 : Nat) (f : Nat → Int32) (x : Nat), x + n_37 = w → (∀ j, j < 4 * (w * y + x) → f j = rt_o (rt_nb w h (j / 4) (j % 4))) → ∀ (H : Heap) (locs : List Loc) (ls : Array Slot), va_P D vwCl [(a0, .inr (1, [.ref (q10), .ref (q22)])), (q10, .inl (cI, 4 * (w * h), .inl f)), (q22, .inl (cI, 6 * (w * h), .inl (fun _ => 0)))] H → va_S (va_A [(a0, .inr (1, [.null, .null]))] sz) s.heap H locs → lv_has ls 6 [(0, .ref (a0)), (1, .int (nI (w))), (2, .int (nI (h))), (3, .int (nI (y))), (4, .int (nI (x)))] → W p l e (headSpec (.code y_A_init b_A_init 6 none :: tG) ({ frames := 1, cells := 2, slots := 4000, locals := 12 })).room s m ([.ref (a0), .int (nI (w)), .int (nI (h))] : List Value).toArray below meth c H locs 2 4000 (MQ below (va_Qv (S := (Nat × Nat)) (fun _ => True) (kB D (va_A [(a0, .inr (1, [.null, .null]))] sz) (fun (u : (Nat × Nat)) => [(a0, .inr (1, [.ref u.1, .ref u.2])), (u.1, .inl (cI, 4 * (w * h), .inl (fun j => rt_o (rt_nb w h (j / 4) (j % 4))))), (u.2, .inl (cI, 6 * (w * h), .inl (fun _ => 0)))])) (va_A [(a0, .inr (1, [.null, .null]))] sz)) ([.ref (a0), .int (nI (w)), .int (nI (h))] : List Value).toArray s 2 4000 (va_A [(a0, .inr (1, [.null, .null]))] sz)) (F0 m 37 ls []) := by
          intro n_37
          induction n_37 with
          | zero =>
            intro f x hrel_37 hI H locs ls hP hS hl
            have hD : va_D (va_A [(a0, .inr (1, [.null, .null]))] sz) [(a0, .inr (1, [.ref (q10), .ref (q22)])), (q10, .inl (cI, 4 * (w * h), .inl f)), (q22, .inl (cI, 6 * (w * h), .inl (fun _ => 0)))] := k_D hD9 rfl
            refine lv_iload hx hb d_A_init_37 (lv_at hl 4 rfl) ?_
            refine lv_iload_n hx hb d_A_init_39 rfl (lv_at hl 1 rfl) ?_
            refine rw_cge (tgt := 157) hx hb d_A_init_40 (by decide) (by omega) (by omega) (fun c_40 => ?_) (fun c_40 => ?_)
            · refine lv_iinc (v := (nI (y + 1))) (lv' := [(3, .int (nI (y + 1))), (0, .ref (a0)), (1, .int (nI (w))), (2, .int (nI (h))), (4, .int (nI (x)))]) hx hb d_A_init_157 hl (k := 3) rfl (nI_add _ _) (by decide) rfl (fun ls hl => ?_)
              refine lv_goto (tgt := 29) hx hb d_A_init_160 (by decide) ?_
              exact ih_29 f (y + 1) (by omega) (fun j hj => hI j (by rw [Nat.mul_succ] at hj; omega)) _ _ _ hP hS (lv_sub hl [1, 2, 3, 0] rfl)
            · omega
          | succ n_37 ih_37 =>
            intro f x hrel_37 hI H locs ls hP hS hl
            have hD : va_D (va_A [(a0, .inr (1, [.null, .null]))] sz) [(a0, .inr (1, [.ref (q10), .ref (q22)])), (q10, .inl (cI, 4 * (w * h), .inl f)), (q22, .inl (cI, 6 * (w * h), .inl (fun _ => 0)))] := k_D hD9 rfl
            refine lv_iload hx hb d_A_init_37 (lv_at hl 4 rfl) ?_
            refine lv_iload_n hx hb d_A_init_39 rfl (lv_at hl 1 rfl) ?_
            refine rw_cge (tgt := 157) hx hb d_A_init_40 (by decide) (by omega) (by omega) (fun c_40 => ?_) (fun c_40 => ?_)
            · omega
            · refine lv_iload_n hx hb d_A_init_43 rfl (lv_at hl 1 rfl) ?_
              refine lv_iload_n hx hb d_A_init_44 rfl (lv_at hl 3 rfl) ?_
              refine rw_mul hx hb d_A_init_45 ?_
              refine lv_iload hx hb d_A_init_46 (lv_at hl 4 rfl) ?_
              refine rw_add hx hb d_A_init_48 ?_
              have ht9 : w * y + x < w * h := rt_til (by omega) (by omega)
              refine lv_istore (lv' := [(5, .int (nI ((w * y) + x))), (0, .ref (a0)), (1, .int (nI (w))), (2, .int (nI (h))), (3, .int (nI (y))), (4, .int (nI (x)))]) hx hb d_A_init_49 hl (by decide) rfl (fun ls hl => ?_)
              refine lv_aload_n hx hb d_A_init_51 rfl (lv_at hl 1 rfl) ?_
              refine va_get (D := D) (ci := 1) (v := .ref (q10)) (C := rn_A) (T := tf_A) (N := 2) hx hb hts in_A hown hK hP 0 rfl rfl 0 (by decide) (hts _ k_fieldLink_rn_A_11_rn_A_beyond_I) (fun _ h9 => h9) rfl d_A_init_52 ?_
              refine lv_iconst (v := (nI (4))) hx hb d_A_init_55 (by decide) ?_
              refine lv_iload hx hb d_A_init_56 (lv_at hl 0 rfl) ?_
              refine rw_mul hx hb d_A_init_58 ?_
              refine lv_iconst (v := (nI (0))) hx hb d_A_init_59 (by decide) ?_
              refine rw_add hx hb d_A_init_60 ?_
              refine lv_iload hx hb d_A_init_61 (lv_at hl 5 rfl) ?_
              refine rw_zle (tgt := 73) hx hb d_A_init_63 (by decide) (by omega) (fun c_63 => ?_) (fun c_63 => ?_)
              · refine lv_iconst (v := (-1)) hx hb d_A_init_73 (by decide) ?_
                refine rw_iast (h := (upd f ((4 * ((w * y) + x)) + 0) (-1))) hx hb hK hP hD hS 1 0 rfl rfl (by omega) (by omega) (fun _ _ => rfl) d_A_init_74 (fun H locs hP hD hS => ?_)
                have hP : va_P D vwCl [(a0, .inr (1, [.ref (q10), .ref (q22)])), (q10, .inl (cI, 4 * (w * h), .inl (upd f ((4 * ((w * y) + x)) + 0) (-1)))), (q22, .inl (cI, 6 * (w * h), .inl (fun _ => 0)))] H := hP
                have hD : va_D (va_A [(a0, .inr (1, [.null, .null]))] sz) [(a0, .inr (1, [.ref (q10), .ref (q22)])), (q10, .inl (cI, 4 * (w * h), .inl (upd f ((4 * ((w * y) + x)) + 0) (-1)))), (q22, .inl (cI, 6 * (w * h), .inl (fun _ => 0)))] := hD
                refine lv_aload_n hx hb d_A_init_75 rfl (lv_at hl 1 rfl) ?_
                refine va_get (D := D) (ci := 1) (v := .ref (q10)) (C := rn_A) (T := tf_A) (N := 2) hx hb hts in_A hown hK hP 0 rfl rfl 0 (by decide) (hts _ k_fieldLink_rn_A_11_rn_A_beyond_I) (fun _ h9 => h9) rfl d_A_init_76 ?_
                refine lv_iconst (v := (nI (4))) hx hb d_A_init_79 (by decide) ?_
                refine lv_iload hx hb d_A_init_80 (lv_at hl 0 rfl) ?_
                refine rw_mul hx hb d_A_init_82 ?_
                refine lv_iconst (v := (nI (1))) hx hb d_A_init_83 (by decide) ?_
                refine rw_add hx hb d_A_init_84 ?_
                refine lv_iload_n hx hb d_A_init_85 rfl (lv_at hl 4 rfl) ?_
                refine rw_zle (tgt := 96) hx hb d_A_init_86 (by decide) (by omega) (fun c_86 => ?_) (fun c_86 => ?_)
                · refine lv_iconst (v := (-1)) hx hb d_A_init_96 (by decide) ?_
                  refine rw_iast (h := (upd (upd f ((4 * ((w * y) + x)) + 0) (-1)) ((4 * ((w * y) + x)) + 1) (-1))) hx hb hK hP hD hS 1 0 rfl rfl (by omega) (by omega) (fun _ _ => rfl) d_A_init_97 (fun H locs hP hD hS => ?_)
                  have hP : va_P D vwCl [(a0, .inr (1, [.ref (q10), .ref (q22)])), (q10, .inl (cI, 4 * (w * h), .inl (upd (upd f ((4 * ((w * y) + x)) + 0) (-1)) ((4 * ((w * y) + x)) + 1) (-1)))), (q22, .inl (cI, 6 * (w * h), .inl (fun _ => 0)))] H := hP
                  have hD : va_D (va_A [(a0, .inr (1, [.null, .null]))] sz) [(a0, .inr (1, [.ref (q10), .ref (q22)])), (q10, .inl (cI, 4 * (w * h), .inl (upd (upd f ((4 * ((w * y) + x)) + 0) (-1)) ((4 * ((w * y) + x)) + 1) (-1)))), (q22, .inl (cI, 6 * (w * h), .inl (fun _ => 0)))] := hD
                  refine lv_aload_n hx hb d_A_init_98 rfl (lv_at hl 1 rfl) ?_
                  refine va_get (D := D) (ci := 1) (v := .ref (q10)) (C := rn_A) (T := tf_A) (N := 2) hx hb hts in_A hown hK hP 0 rfl rfl 0 (by decide) (hts _ k_fieldLink_rn_A_11_rn_A_beyond_I) (fun _ h9 => h9) rfl d_A_init_99 ?_
                  refine lv_iconst (v := (nI (4))) hx hb d_A_init_102 (by decide) ?_
                  refine lv_iload hx hb d_A_init_103 (lv_at hl 0 rfl) ?_
                  refine rw_mul hx hb d_A_init_105 ?_
                  refine lv_iconst (v := (nI (2))) hx hb d_A_init_106 (by decide) ?_
                  refine rw_add hx hb d_A_init_107 ?_
                  refine lv_iload hx hb d_A_init_108 (lv_at hl 5 rfl) ?_
                  refine lv_iload_n hx hb d_A_init_110 rfl (lv_at hl 2 rfl) ?_
                  refine lv_iconst (v := (nI (1))) hx hb d_A_init_111 (by decide) ?_
                  refine rw_sub hx hb d_A_init_112 (by omega) ?_
                  refine rw_cge (tgt := 123) hx hb d_A_init_113 (by decide) (by omega) (by omega) (fun c_113 => ?_) (fun c_113 => ?_)
                  · refine lv_iconst (v := (-1)) hx hb d_A_init_123 (by decide) ?_
                    refine rw_iast (h := (upd (upd (upd f ((4 * ((w * y) + x)) + 0) (-1)) ((4 * ((w * y) + x)) + 1) (-1)) ((4 * ((w * y) + x)) + 2) (-1))) hx hb hK hP hD hS 1 0 rfl rfl (by omega) (by omega) (fun _ _ => rfl) d_A_init_124 (fun H locs hP hD hS => ?_)
                    have hP : va_P D vwCl [(a0, .inr (1, [.ref (q10), .ref (q22)])), (q10, .inl (cI, 4 * (w * h), .inl (upd (upd (upd f ((4 * ((w * y) + x)) + 0) (-1)) ((4 * ((w * y) + x)) + 1) (-1)) ((4 * ((w * y) + x)) + 2) (-1)))), (q22, .inl (cI, 6 * (w * h), .inl (fun _ => 0)))] H := hP
                    have hD : va_D (va_A [(a0, .inr (1, [.null, .null]))] sz) [(a0, .inr (1, [.ref (q10), .ref (q22)])), (q10, .inl (cI, 4 * (w * h), .inl (upd (upd (upd f ((4 * ((w * y) + x)) + 0) (-1)) ((4 * ((w * y) + x)) + 1) (-1)) ((4 * ((w * y) + x)) + 2) (-1)))), (q22, .inl (cI, 6 * (w * h), .inl (fun _ => 0)))] := hD
                    refine lv_aload_n hx hb d_A_init_125 rfl (lv_at hl 1 rfl) ?_
                    refine va_get (D := D) (ci := 1) (v := .ref (q10)) (C := rn_A) (T := tf_A) (N := 2) hx hb hts in_A hown hK hP 0 rfl rfl 0 (by decide) (hts _ k_fieldLink_rn_A_11_rn_A_beyond_I) (fun _ h9 => h9) rfl d_A_init_126 ?_
                    refine lv_iconst (v := (nI (4))) hx hb d_A_init_129 (by decide) ?_
                    refine lv_iload hx hb d_A_init_130 (lv_at hl 0 rfl) ?_
                    refine rw_mul hx hb d_A_init_132 ?_
                    refine lv_iconst (v := (nI (3))) hx hb d_A_init_133 (by decide) ?_
                    refine rw_add hx hb d_A_init_134 ?_
                    refine lv_iload_n hx hb d_A_init_135 rfl (lv_at hl 4 rfl) ?_
                    refine lv_iload_n hx hb d_A_init_136 rfl (lv_at hl 3 rfl) ?_
                    refine lv_iconst (v := (nI (1))) hx hb d_A_init_137 (by decide) ?_
                    refine rw_sub hx hb d_A_init_138 (by omega) ?_
                    refine rw_cge (tgt := 149) hx hb d_A_init_139 (by decide) (by omega) (by omega) (fun c_139 => ?_) (fun c_139 => ?_)
                    · refine lv_iconst (v := (-1)) hx hb d_A_init_149 (by decide) ?_
                      refine rw_iast (h := (upd (upd (upd (upd f ((4 * ((w * y) + x)) + 0) (-1)) ((4 * ((w * y) + x)) + 1) (-1)) ((4 * ((w * y) + x)) + 2) (-1)) ((4 * ((w * y) + x)) + 3) (-1))) hx hb hK hP hD hS 1 0 rfl rfl (by omega) (by omega) (fun _ _ => rfl) d_A_init_150 (fun H locs hP hD hS => ?_)
                      have hP : va_P D vwCl [(a0, .inr (1, [.ref (q10), .ref (q22)])), (q10, .inl (cI, 4 * (w * h), .inl (upd (upd (upd (upd f ((4 * ((w * y) + x)) + 0) (-1)) ((4 * ((w * y) + x)) + 1) (-1)) ((4 * ((w * y) + x)) + 2) (-1)) ((4 * ((w * y) + x)) + 3) (-1)))), (q22, .inl (cI, 6 * (w * h), .inl (fun _ => 0)))] H := hP
                      have hD : va_D (va_A [(a0, .inr (1, [.null, .null]))] sz) [(a0, .inr (1, [.ref (q10), .ref (q22)])), (q10, .inl (cI, 4 * (w * h), .inl (upd (upd (upd (upd f ((4 * ((w * y) + x)) + 0) (-1)) ((4 * ((w * y) + x)) + 1) (-1)) ((4 * ((w * y) + x)) + 2) (-1)) ((4 * ((w * y) + x)) + 3) (-1)))), (q22, .inl (cI, 6 * (w * h), .inl (fun _ => 0)))] := hD
                      refine lv_iinc (v := (nI (x + 1))) (lv' := [(4, .int (nI (x + 1))), (5, .int (nI ((w * y) + x))), (0, .ref (a0)), (1, .int (nI (w))), (2, .int (nI (h))), (3, .int (nI (y)))]) hx hb d_A_init_151 hl (k := 5) rfl (nI_add _ _) (by decide) rfl (fun ls hl => ?_)
                      refine lv_goto (tgt := 37) hx hb d_A_init_154 (by decide) ?_
                      have e9 := rt_four (w := w) (h := h) (y := y) (x := x) (f := f) hI (by first | exact rt_v0n (by omega) c_63 | exact rt_v0s (by omega) c_63) (by first | exact rt_v1n (by omega) c_86 | exact rt_v1s (by omega) c_86) (by first | exact rt_v2n (by omega) c_113 | exact rt_v2s (by omega) c_113) (by first | exact rt_v3n (by omega) c_139 | exact rt_v3s (by omega) c_139)
                      exact ih_37 (upd (upd (upd (upd f ((4 * ((w * y) + x)) + 0) (-1)) ((4 * ((w * y) + x)) + 1) (-1)) ((4 * ((w * y) + x)) + 2) (-1)) ((4 * ((w * y) + x)) + 3) (-1)) (x + 1) (by omega) e9 _ _ _ hP hS (lv_sub hl [2, 3, 4, 5, 0] rfl)
                    · refine lv_iload hx hb d_A_init_142 (lv_at hl 0 rfl) ?_
                      refine lv_iload_n hx hb d_A_init_144 rfl (lv_at hl 2 rfl) ?_
                      refine rw_add hx hb d_A_init_145 ?_
                      refine lv_goto (tgt := 150) hx hb d_A_init_146 (by decide) ?_
                      refine rw_iast (h := (upd (upd (upd (upd f ((4 * ((w * y) + x)) + 0) (-1)) ((4 * ((w * y) + x)) + 1) (-1)) ((4 * ((w * y) + x)) + 2) (-1)) ((4 * ((w * y) + x)) + 3) (nI (((w * y) + x) + w)))) hx hb hK hP hD hS 1 0 rfl rfl (by omega) (by omega) (fun _ _ => rfl) d_A_init_150 (fun H locs hP hD hS => ?_)
                      have hP : va_P D vwCl [(a0, .inr (1, [.ref (q10), .ref (q22)])), (q10, .inl (cI, 4 * (w * h), .inl (upd (upd (upd (upd f ((4 * ((w * y) + x)) + 0) (-1)) ((4 * ((w * y) + x)) + 1) (-1)) ((4 * ((w * y) + x)) + 2) (-1)) ((4 * ((w * y) + x)) + 3) (nI (((w * y) + x) + w))))), (q22, .inl (cI, 6 * (w * h), .inl (fun _ => 0)))] H := hP
                      have hD : va_D (va_A [(a0, .inr (1, [.null, .null]))] sz) [(a0, .inr (1, [.ref (q10), .ref (q22)])), (q10, .inl (cI, 4 * (w * h), .inl (upd (upd (upd (upd f ((4 * ((w * y) + x)) + 0) (-1)) ((4 * ((w * y) + x)) + 1) (-1)) ((4 * ((w * y) + x)) + 2) (-1)) ((4 * ((w * y) + x)) + 3) (nI (((w * y) + x) + w))))), (q22, .inl (cI, 6 * (w * h), .inl (fun _ => 0)))] := hD
                      refine lv_iinc (v := (nI (x + 1))) (lv' := [(4, .int (nI (x + 1))), (5, .int (nI ((w * y) + x))), (0, .ref (a0)), (1, .int (nI (w))), (2, .int (nI (h))), (3, .int (nI (y)))]) hx hb d_A_init_151 hl (k := 5) rfl (nI_add _ _) (by decide) rfl (fun ls hl => ?_)
                      refine lv_goto (tgt := 37) hx hb d_A_init_154 (by decide) ?_
                      have e9 := rt_four (w := w) (h := h) (y := y) (x := x) (f := f) hI (by first | exact rt_v0n (by omega) c_63 | exact rt_v0s (by omega) c_63) (by first | exact rt_v1n (by omega) c_86 | exact rt_v1s (by omega) c_86) (by first | exact rt_v2n (by omega) c_113 | exact rt_v2s (by omega) c_113) (by first | exact rt_v3n (by omega) c_139 | exact rt_v3s (by omega) c_139)
                      exact ih_37 (upd (upd (upd (upd f ((4 * ((w * y) + x)) + 0) (-1)) ((4 * ((w * y) + x)) + 1) (-1)) ((4 * ((w * y) + x)) + 2) (-1)) ((4 * ((w * y) + x)) + 3) (nI (((w * y) + x) + w))) (x + 1) (by omega) e9 _ _ _ hP hS (lv_sub hl [2, 3, 4, 5, 0] rfl)
                  · refine lv_iload hx hb d_A_init_116 (lv_at hl 0 rfl) ?_
                    refine lv_iconst (v := (nI (1))) hx hb d_A_init_118 (by decide) ?_
                    refine rw_add hx hb d_A_init_119 ?_
                    refine lv_goto (tgt := 124) hx hb d_A_init_120 (by decide) ?_
                    refine rw_iast (h := (upd (upd (upd f ((4 * ((w * y) + x)) + 0) (-1)) ((4 * ((w * y) + x)) + 1) (-1)) ((4 * ((w * y) + x)) + 2) (nI (((w * y) + x) + 1)))) hx hb hK hP hD hS 1 0 rfl rfl (by omega) (by omega) (fun _ _ => rfl) d_A_init_124 (fun H locs hP hD hS => ?_)
                    have hP : va_P D vwCl [(a0, .inr (1, [.ref (q10), .ref (q22)])), (q10, .inl (cI, 4 * (w * h), .inl (upd (upd (upd f ((4 * ((w * y) + x)) + 0) (-1)) ((4 * ((w * y) + x)) + 1) (-1)) ((4 * ((w * y) + x)) + 2) (nI (((w * y) + x) + 1))))), (q22, .inl (cI, 6 * (w * h), .inl (fun _ => 0)))] H := hP
                    have hD : va_D (va_A [(a0, .inr (1, [.null, .null]))] sz) [(a0, .inr (1, [.ref (q10), .ref (q22)])), (q10, .inl (cI, 4 * (w * h), .inl (upd (upd (upd f ((4 * ((w * y) + x)) + 0) (-1)) ((4 * ((w * y) + x)) + 1) (-1)) ((4 * ((w * y) + x)) + 2) (nI (((w * y) + x) + 1))))), (q22, .inl (cI, 6 * (w * h), .inl (fun _ => 0)))] := hD
                    refine lv_aload_n hx hb d_A_init_125 rfl (lv_at hl 1 rfl) ?_
                    refine va_get (D := D) (ci := 1) (v := .ref (q10)) (C := rn_A) (T := tf_A) (N := 2) hx hb hts in_A hown hK hP 0 rfl rfl 0 (by decide) (hts _ k_fieldLink_rn_A_11_rn_A_beyond_I) (fun _ h9 => h9) rfl d_A_init_126 ?_
                    refine lv_iconst (v := (nI (4))) hx hb d_A_init_129 (by decide) ?_
                    refine lv_iload hx hb d_A_init_130 (lv_at hl 0 rfl) ?_
                    refine rw_mul hx hb d_A_init_132 ?_
                    refine lv_iconst (v := (nI (3))) hx hb d_A_init_133 (by decide) ?_
                    refine rw_add hx hb d_A_init_134 ?_
                    refine lv_iload_n hx hb d_A_init_135 rfl (lv_at hl 4 rfl) ?_
                    refine lv_iload_n hx hb d_A_init_136 rfl (lv_at hl 3 rfl) ?_
                    refine lv_iconst (v := (nI (1))) hx hb d_A_init_137 (by decide) ?_
                    refine rw_sub hx hb d_A_init_138 (by omega) ?_
                    refine rw_cge (tgt := 149) hx hb d_A_init_139 (by decide) (by omega) (by omega) (fun c_139 => ?_) (fun c_139 => ?_)
                    · refine lv_iconst (v := (-1)) hx hb d_A_init_149 (by decide) ?_
                      refine rw_iast (h := (upd (upd (upd (upd f ((4 * ((w * y) + x)) + 0) (-1)) ((4 * ((w * y) + x)) + 1) (-1)) ((4 * ((w * y) + x)) + 2) (nI (((w * y) + x) + 1))) ((4 * ((w * y) + x)) + 3) (-1))) hx hb hK hP hD hS 1 0 rfl rfl (by omega) (by omega) (fun _ _ => rfl) d_A_init_150 (fun H locs hP hD hS => ?_)
                      have hP : va_P D vwCl [(a0, .inr (1, [.ref (q10), .ref (q22)])), (q10, .inl (cI, 4 * (w * h), .inl (upd (upd (upd (upd f ((4 * ((w * y) + x)) + 0) (-1)) ((4 * ((w * y) + x)) + 1) (-1)) ((4 * ((w * y) + x)) + 2) (nI (((w * y) + x) + 1))) ((4 * ((w * y) + x)) + 3) (-1)))), (q22, .inl (cI, 6 * (w * h), .inl (fun _ => 0)))] H := hP
                      have hD : va_D (va_A [(a0, .inr (1, [.null, .null]))] sz) [(a0, .inr (1, [.ref (q10), .ref (q22)])), (q10, .inl (cI, 4 * (w * h), .inl (upd (upd (upd (upd f ((4 * ((w * y) + x)) + 0) (-1)) ((4 * ((w * y) + x)) + 1) (-1)) ((4 * ((w * y) + x)) + 2) (nI (((w * y) + x) + 1))) ((4 * ((w * y) + x)) + 3) (-1)))), (q22, .inl (cI, 6 * (w * h), .inl (fun _ => 0)))] := hD
                      refine lv_iinc (v := (nI (x + 1))) (lv' := [(4, .int (nI (x + 1))), (5, .int (nI ((w * y) + x))), (0, .ref (a0)), (1, .int (nI (w))), (2, .int (nI (h))), (3, .int (nI (y)))]) hx hb d_A_init_151 hl (k := 5) rfl (nI_add _ _) (by decide) rfl (fun ls hl => ?_)
                      refine lv_goto (tgt := 37) hx hb d_A_init_154 (by decide) ?_
                      have e9 := rt_four (w := w) (h := h) (y := y) (x := x) (f := f) hI (by first | exact rt_v0n (by omega) c_63 | exact rt_v0s (by omega) c_63) (by first | exact rt_v1n (by omega) c_86 | exact rt_v1s (by omega) c_86) (by first | exact rt_v2n (by omega) c_113 | exact rt_v2s (by omega) c_113) (by first | exact rt_v3n (by omega) c_139 | exact rt_v3s (by omega) c_139)
                      exact ih_37 (upd (upd (upd (upd f ((4 * ((w * y) + x)) + 0) (-1)) ((4 * ((w * y) + x)) + 1) (-1)) ((4 * ((w * y) + x)) + 2) (nI (((w * y) + x) + 1))) ((4 * ((w * y) + x)) + 3) (-1)) (x + 1) (by omega) e9 _ _ _ hP hS (lv_sub hl [2, 3, 4, 5, 0] rfl)
                    · refine lv_iload hx hb d_A_init_142 (lv_at hl 0 rfl) ?_
                      refine lv_iload_n hx hb d_A_init_144 rfl (lv_at hl 2 rfl) ?_
                      refine rw_add hx hb d_A_init_145 ?_
                      refine lv_goto (tgt := 150) hx hb d_A_init_146 (by decide) ?_
                      refine rw_iast (h := (upd (upd (upd (upd f ((4 * ((w * y) + x)) + 0) (-1)) ((4 * ((w * y) + x)) + 1) (-1)) ((4 * ((w * y) + x)) + 2) (nI (((w * y) + x) + 1))) ((4 * ((w * y) + x)) + 3) (nI (((w * y) + x) + w)))) hx hb hK hP hD hS 1 0 rfl rfl (by omega) (by omega) (fun _ _ => rfl) d_A_init_150 (fun H locs hP hD hS => ?_)
                      have hP : va_P D vwCl [(a0, .inr (1, [.ref (q10), .ref (q22)])), (q10, .inl (cI, 4 * (w * h), .inl (upd (upd (upd (upd f ((4 * ((w * y) + x)) + 0) (-1)) ((4 * ((w * y) + x)) + 1) (-1)) ((4 * ((w * y) + x)) + 2) (nI (((w * y) + x) + 1))) ((4 * ((w * y) + x)) + 3) (nI (((w * y) + x) + w))))), (q22, .inl (cI, 6 * (w * h), .inl (fun _ => 0)))] H := hP
                      have hD : va_D (va_A [(a0, .inr (1, [.null, .null]))] sz) [(a0, .inr (1, [.ref (q10), .ref (q22)])), (q10, .inl (cI, 4 * (w * h), .inl (upd (upd (upd (upd f ((4 * ((w * y) + x)) + 0) (-1)) ((4 * ((w * y) + x)) + 1) (-1)) ((4 * ((w * y) + x)) + 2) (nI (((w * y) + x) + 1))) ((4 * ((w * y) + x)) + 3) (nI (((w * y) + x) + w))))), (q22, .inl (cI, 6 * (w * h), .inl (fun _ => 0)))] := hD
                      refine lv_iinc (v := (nI (x + 1))) (lv' := [(4, .int (nI (x + 1))), (5, .int (nI ((w * y) + x))), (0, .ref (a0)), (1, .int (nI (w))), (2, .int (nI (h))), (3, .int (nI (y)))]) hx hb d_A_init_151 hl (k := 5) rfl (nI_add _ _) (by decide) rfl (fun ls hl => ?_)
                      refine lv_goto (tgt := 37) hx hb d_A_init_154 (by decide) ?_
                      have e9 := rt_four (w := w) (h := h) (y := y) (x := x) (f := f) hI (by first | exact rt_v0n (by omega) c_63 | exact rt_v0s (by omega) c_63) (by first | exact rt_v1n (by omega) c_86 | exact rt_v1s (by omega) c_86) (by first | exact rt_v2n (by omega) c_113 | exact rt_v2s (by omega) c_113) (by first | exact rt_v3n (by omega) c_139 | exact rt_v3s (by omega) c_139)
                      exact ih_37 (upd (upd (upd (upd f ((4 * ((w * y) + x)) + 0) (-1)) ((4 * ((w * y) + x)) + 1) (-1)) ((4 * ((w * y) + x)) + 2) (nI (((w * y) + x) + 1))) ((4 * ((w * y) + x)) + 3) (nI (((w * y) + x) + w))) (x + 1) (by omega) e9 _ _ _ hP hS (lv_sub hl [2, 3, 4, 5, 0] rfl)
                · refine lv_iload hx hb d_A_init_89 (lv_at hl 0 rfl) ?_
                  refine lv_iload_n hx hb d_A_init_91 rfl (lv_at hl 2 rfl) ?_
                  refine rw_sub hx hb d_A_init_92 (by have := Nat.le_mul_of_pos_right w (show 0 < y by omega); omega) ?_
                  refine lv_goto (tgt := 97) hx hb d_A_init_93 (by decide) ?_
                  refine rw_iast (h := (upd (upd f ((4 * ((w * y) + x)) + 0) (-1)) ((4 * ((w * y) + x)) + 1) (nI (((w * y) + x) - w)))) hx hb hK hP hD hS 1 0 rfl rfl (by omega) (by omega) (fun _ _ => rfl) d_A_init_97 (fun H locs hP hD hS => ?_)
                  have hP : va_P D vwCl [(a0, .inr (1, [.ref (q10), .ref (q22)])), (q10, .inl (cI, 4 * (w * h), .inl (upd (upd f ((4 * ((w * y) + x)) + 0) (-1)) ((4 * ((w * y) + x)) + 1) (nI (((w * y) + x) - w))))), (q22, .inl (cI, 6 * (w * h), .inl (fun _ => 0)))] H := hP
                  have hD : va_D (va_A [(a0, .inr (1, [.null, .null]))] sz) [(a0, .inr (1, [.ref (q10), .ref (q22)])), (q10, .inl (cI, 4 * (w * h), .inl (upd (upd f ((4 * ((w * y) + x)) + 0) (-1)) ((4 * ((w * y) + x)) + 1) (nI (((w * y) + x) - w))))), (q22, .inl (cI, 6 * (w * h), .inl (fun _ => 0)))] := hD
                  refine lv_aload_n hx hb d_A_init_98 rfl (lv_at hl 1 rfl) ?_
                  refine va_get (D := D) (ci := 1) (v := .ref (q10)) (C := rn_A) (T := tf_A) (N := 2) hx hb hts in_A hown hK hP 0 rfl rfl 0 (by decide) (hts _ k_fieldLink_rn_A_11_rn_A_beyond_I) (fun _ h9 => h9) rfl d_A_init_99 ?_
                  refine lv_iconst (v := (nI (4))) hx hb d_A_init_102 (by decide) ?_
                  refine lv_iload hx hb d_A_init_103 (lv_at hl 0 rfl) ?_
                  refine rw_mul hx hb d_A_init_105 ?_
                  refine lv_iconst (v := (nI (2))) hx hb d_A_init_106 (by decide) ?_
                  refine rw_add hx hb d_A_init_107 ?_
                  refine lv_iload hx hb d_A_init_108 (lv_at hl 5 rfl) ?_
                  refine lv_iload_n hx hb d_A_init_110 rfl (lv_at hl 2 rfl) ?_
                  refine lv_iconst (v := (nI (1))) hx hb d_A_init_111 (by decide) ?_
                  refine rw_sub hx hb d_A_init_112 (by omega) ?_
                  refine rw_cge (tgt := 123) hx hb d_A_init_113 (by decide) (by omega) (by omega) (fun c_113 => ?_) (fun c_113 => ?_)
                  · refine lv_iconst (v := (-1)) hx hb d_A_init_123 (by decide) ?_
                    refine rw_iast (h := (upd (upd (upd f ((4 * ((w * y) + x)) + 0) (-1)) ((4 * ((w * y) + x)) + 1) (nI (((w * y) + x) - w))) ((4 * ((w * y) + x)) + 2) (-1))) hx hb hK hP hD hS 1 0 rfl rfl (by omega) (by omega) (fun _ _ => rfl) d_A_init_124 (fun H locs hP hD hS => ?_)
                    have hP : va_P D vwCl [(a0, .inr (1, [.ref (q10), .ref (q22)])), (q10, .inl (cI, 4 * (w * h), .inl (upd (upd (upd f ((4 * ((w * y) + x)) + 0) (-1)) ((4 * ((w * y) + x)) + 1) (nI (((w * y) + x) - w))) ((4 * ((w * y) + x)) + 2) (-1)))), (q22, .inl (cI, 6 * (w * h), .inl (fun _ => 0)))] H := hP
                    have hD : va_D (va_A [(a0, .inr (1, [.null, .null]))] sz) [(a0, .inr (1, [.ref (q10), .ref (q22)])), (q10, .inl (cI, 4 * (w * h), .inl (upd (upd (upd f ((4 * ((w * y) + x)) + 0) (-1)) ((4 * ((w * y) + x)) + 1) (nI (((w * y) + x) - w))) ((4 * ((w * y) + x)) + 2) (-1)))), (q22, .inl (cI, 6 * (w * h), .inl (fun _ => 0)))] := hD
                    refine lv_aload_n hx hb d_A_init_125 rfl (lv_at hl 1 rfl) ?_
                    refine va_get (D := D) (ci := 1) (v := .ref (q10)) (C := rn_A) (T := tf_A) (N := 2) hx hb hts in_A hown hK hP 0 rfl rfl 0 (by decide) (hts _ k_fieldLink_rn_A_11_rn_A_beyond_I) (fun _ h9 => h9) rfl d_A_init_126 ?_
                    refine lv_iconst (v := (nI (4))) hx hb d_A_init_129 (by decide) ?_
                    refine lv_iload hx hb d_A_init_130 (lv_at hl 0 rfl) ?_
                    refine rw_mul hx hb d_A_init_132 ?_
                    refine lv_iconst (v := (nI (3))) hx hb d_A_init_133 (by decide) ?_
                    refine rw_add hx hb d_A_init_134 ?_
                    refine lv_iload_n hx hb d_A_init_135 rfl (lv_at hl 4 rfl) ?_
                    refine lv_iload_n hx hb d_A_init_136 rfl (lv_at hl 3 rfl) ?_
                    refine lv_iconst (v := (nI (1))) hx hb d_A_init_137 (by decide) ?_
                    refine rw_sub hx hb d_A_init_138 (by omega) ?_
                    refine rw_cge (tgt := 149) hx hb d_A_init_139 (by decide) (by omega) (by omega) (fun c_139 => ?_) (fun c_139 => ?_)
                    · refine lv_iconst (v := (-1)) hx hb d_A_init_149 (by decide) ?_
                      refine rw_iast (h := (upd (upd (upd (upd f ((4 * ((w * y) + x)) + 0) (-1)) ((4 * ((w * y) + x)) + 1) (nI (((w * y) + x) - w))) ((4 * ((w * y) + x)) + 2) (-1)) ((4 * ((w * y) + x)) + 3) (-1))) hx hb hK hP hD hS 1 0 rfl rfl (by omega) (by omega) (fun _ _ => rfl) d_A_init_150 (fun H locs hP hD hS => ?_)
                      have hP : va_P D vwCl [(a0, .inr (1, [.ref (q10), .ref (q22)])), (q10, .inl (cI, 4 * (w * h), .inl (upd (upd (upd (upd f ((4 * ((w * y) + x)) + 0) (-1)) ((4 * ((w * y) + x)) + 1) (nI (((w * y) + x) - w))) ((4 * ((w * y) + x)) + 2) (-1)) ((4 * ((w * y) + x)) + 3) (-1)))), (q22, .inl (cI, 6 * (w * h), .inl (fun _ => 0)))] H := hP
                      have hD : va_D (va_A [(a0, .inr (1, [.null, .null]))] sz) [(a0, .inr (1, [.ref (q10), .ref (q22)])), (q10, .inl (cI, 4 * (w * h), .inl (upd (upd (upd (upd f ((4 * ((w * y) + x)) + 0) (-1)) ((4 * ((w * y) + x)) + 1) (nI (((w * y) + x) - w))) ((4 * ((w * y) + x)) + 2) (-1)) ((4 * ((w * y) + x)) + 3) (-1)))), (q22, .inl (cI, 6 * (w * h), .inl (fun _ => 0)))] := hD
                      refine lv_iinc (v := (nI (x + 1))) (lv' := [(4, .int (nI (x + 1))), (5, .int (nI ((w * y) + x))), (0, .ref (a0)), (1, .int (nI (w))), (2, .int (nI (h))), (3, .int (nI (y)))]) hx hb d_A_init_151 hl (k := 5) rfl (nI_add _ _) (by decide) rfl (fun ls hl => ?_)
                      refine lv_goto (tgt := 37) hx hb d_A_init_154 (by decide) ?_
                      have e9 := rt_four (w := w) (h := h) (y := y) (x := x) (f := f) hI (by first | exact rt_v0n (by omega) c_63 | exact rt_v0s (by omega) c_63) (by first | exact rt_v1n (by omega) c_86 | exact rt_v1s (by omega) c_86) (by first | exact rt_v2n (by omega) c_113 | exact rt_v2s (by omega) c_113) (by first | exact rt_v3n (by omega) c_139 | exact rt_v3s (by omega) c_139)
                      exact ih_37 (upd (upd (upd (upd f ((4 * ((w * y) + x)) + 0) (-1)) ((4 * ((w * y) + x)) + 1) (nI (((w * y) + x) - w))) ((4 * ((w * y) + x)) + 2) (-1)) ((4 * ((w * y) + x)) + 3) (-1)) (x + 1) (by omega) e9 _ _ _ hP hS (lv_sub hl [2, 3, 4, 5, 0] rfl)
                    · refine lv_iload hx hb d_A_init_142 (lv_at hl 0 rfl) ?_
                      refine lv_iload_n hx hb d_A_init_144 rfl (lv_at hl 2 rfl) ?_
                      refine rw_add hx hb d_A_init_145 ?_
                      refine lv_goto (tgt := 150) hx hb d_A_init_146 (by decide) ?_
                      refine rw_iast (h := (upd (upd (upd (upd f ((4 * ((w * y) + x)) + 0) (-1)) ((4 * ((w * y) + x)) + 1) (nI (((w * y) + x) - w))) ((4 * ((w * y) + x)) + 2) (-1)) ((4 * ((w * y) + x)) + 3) (nI (((w * y) + x) + w)))) hx hb hK hP hD hS 1 0 rfl rfl (by omega) (by omega) (fun _ _ => rfl) d_A_init_150 (fun H locs hP hD hS => ?_)
                      have hP : va_P D vwCl [(a0, .inr (1, [.ref (q10), .ref (q22)])), (q10, .inl (cI, 4 * (w * h), .inl (upd (upd (upd (upd f ((4 * ((w * y) + x)) + 0) (-1)) ((4 * ((w * y) + x)) + 1) (nI (((w * y) + x) - w))) ((4 * ((w * y) + x)) + 2) (-1)) ((4 * ((w * y) + x)) + 3) (nI (((w * y) + x) + w))))), (q22, .inl (cI, 6 * (w * h), .inl (fun _ => 0)))] H := hP
                      have hD : va_D (va_A [(a0, .inr (1, [.null, .null]))] sz) [(a0, .inr (1, [.ref (q10), .ref (q22)])), (q10, .inl (cI, 4 * (w * h), .inl (upd (upd (upd (upd f ((4 * ((w * y) + x)) + 0) (-1)) ((4 * ((w * y) + x)) + 1) (nI (((w * y) + x) - w))) ((4 * ((w * y) + x)) + 2) (-1)) ((4 * ((w * y) + x)) + 3) (nI (((w * y) + x) + w))))), (q22, .inl (cI, 6 * (w * h), .inl (fun _ => 0)))] := hD
                      refine lv_iinc (v := (nI (x + 1))) (lv' := [(4, .int (nI (x + 1))), (5, .int (nI ((w * y) + x))), (0, .ref (a0)), (1, .int (nI (w))), (2, .int (nI (h))), (3, .int (nI (y)))]) hx hb d_A_init_151 hl (k := 5) rfl (nI_add _ _) (by decide) rfl (fun ls hl => ?_)
                      refine lv_goto (tgt := 37) hx hb d_A_init_154 (by decide) ?_
                      have e9 := rt_four (w := w) (h := h) (y := y) (x := x) (f := f) hI (by first | exact rt_v0n (by omega) c_63 | exact rt_v0s (by omega) c_63) (by first | exact rt_v1n (by omega) c_86 | exact rt_v1s (by omega) c_86) (by first | exact rt_v2n (by omega) c_113 | exact rt_v2s (by omega) c_113) (by first | exact rt_v3n (by omega) c_139 | exact rt_v3s (by omega) c_139)
                      exact ih_37 (upd (upd (upd (upd f ((4 * ((w * y) + x)) + 0) (-1)) ((4 * ((w * y) + x)) + 1) (nI (((w * y) + x) - w))) ((4 * ((w * y) + x)) + 2) (-1)) ((4 * ((w * y) + x)) + 3) (nI (((w * y) + x) + w))) (x + 1) (by omega) e9 _ _ _ hP hS (lv_sub hl [2, 3, 4, 5, 0] rfl)
                  · refine lv_iload hx hb d_A_init_116 (lv_at hl 0 rfl) ?_
                    refine lv_iconst (v := (nI (1))) hx hb d_A_init_118 (by decide) ?_
                    refine rw_add hx hb d_A_init_119 ?_
                    refine lv_goto (tgt := 124) hx hb d_A_init_120 (by decide) ?_
                    refine rw_iast (h := (upd (upd (upd f ((4 * ((w * y) + x)) + 0) (-1)) ((4 * ((w * y) + x)) + 1) (nI (((w * y) + x) - w))) ((4 * ((w * y) + x)) + 2) (nI (((w * y) + x) + 1)))) hx hb hK hP hD hS 1 0 rfl rfl (by omega) (by omega) (fun _ _ => rfl) d_A_init_124 (fun H locs hP hD hS => ?_)
                    have hP : va_P D vwCl [(a0, .inr (1, [.ref (q10), .ref (q22)])), (q10, .inl (cI, 4 * (w * h), .inl (upd (upd (upd f ((4 * ((w * y) + x)) + 0) (-1)) ((4 * ((w * y) + x)) + 1) (nI (((w * y) + x) - w))) ((4 * ((w * y) + x)) + 2) (nI (((w * y) + x) + 1))))), (q22, .inl (cI, 6 * (w * h), .inl (fun _ => 0)))] H := hP
                    have hD : va_D (va_A [(a0, .inr (1, [.null, .null]))] sz) [(a0, .inr (1, [.ref (q10), .ref (q22)])), (q10, .inl (cI, 4 * (w * h), .inl (upd (upd (upd f ((4 * ((w * y) + x)) + 0) (-1)) ((4 * ((w * y) + x)) + 1) (nI (((w * y) + x) - w))) ((4 * ((w * y) + x)) + 2) (nI (((w * y) + x) + 1))))), (q22, .inl (cI, 6 * (w * h), .inl (fun _ => 0)))] := hD
                    refine lv_aload_n hx hb d_A_init_125 rfl (lv_at hl 1 rfl) ?_
                    refine va_get (D := D) (ci := 1) (v := .ref (q10)) (C := rn_A) (T := tf_A) (N := 2) hx hb hts in_A hown hK hP 0 rfl rfl 0 (by decide) (hts _ k_fieldLink_rn_A_11_rn_A_beyond_I) (fun _ h9 => h9) rfl d_A_init_126 ?_
                    refine lv_iconst (v := (nI (4))) hx hb d_A_init_129 (by decide) ?_
                    refine lv_iload hx hb d_A_init_130 (lv_at hl 0 rfl) ?_
                    refine rw_mul hx hb d_A_init_132 ?_
                    refine lv_iconst (v := (nI (3))) hx hb d_A_init_133 (by decide) ?_
                    refine rw_add hx hb d_A_init_134 ?_
                    refine lv_iload_n hx hb d_A_init_135 rfl (lv_at hl 4 rfl) ?_
                    refine lv_iload_n hx hb d_A_init_136 rfl (lv_at hl 3 rfl) ?_
                    refine lv_iconst (v := (nI (1))) hx hb d_A_init_137 (by decide) ?_
                    refine rw_sub hx hb d_A_init_138 (by omega) ?_
                    refine rw_cge (tgt := 149) hx hb d_A_init_139 (by decide) (by omega) (by omega) (fun c_139 => ?_) (fun c_139 => ?_)
                    · refine lv_iconst (v := (-1)) hx hb d_A_init_149 (by decide) ?_
                      refine rw_iast (h := (upd (upd (upd (upd f ((4 * ((w * y) + x)) + 0) (-1)) ((4 * ((w * y) + x)) + 1) (nI (((w * y) + x) - w))) ((4 * ((w * y) + x)) + 2) (nI (((w * y) + x) + 1))) ((4 * ((w * y) + x)) + 3) (-1))) hx hb hK hP hD hS 1 0 rfl rfl (by omega) (by omega) (fun _ _ => rfl) d_A_init_150 (fun H locs hP hD hS => ?_)
                      have hP : va_P D vwCl [(a0, .inr (1, [.ref (q10), .ref (q22)])), (q10, .inl (cI, 4 * (w * h), .inl (upd (upd (upd (upd f ((4 * ((w * y) + x)) + 0) (-1)) ((4 * ((w * y) + x)) + 1) (nI (((w * y) + x) - w))) ((4 * ((w * y) + x)) + 2) (nI (((w * y) + x) + 1))) ((4 * ((w * y) + x)) + 3) (-1)))), (q22, .inl (cI, 6 * (w * h), .inl (fun _ => 0)))] H := hP
                      have hD : va_D (va_A [(a0, .inr (1, [.null, .null]))] sz) [(a0, .inr (1, [.ref (q10), .ref (q22)])), (q10, .inl (cI, 4 * (w * h), .inl (upd (upd (upd (upd f ((4 * ((w * y) + x)) + 0) (-1)) ((4 * ((w * y) + x)) + 1) (nI (((w * y) + x) - w))) ((4 * ((w * y) + x)) + 2) (nI (((w * y) + x) + 1))) ((4 * ((w * y) + x)) + 3) (-1)))), (q22, .inl (cI, 6 * (w * h), .inl (fun _ => 0)))] := hD
                      refine lv_iinc (v := (nI (x + 1))) (lv' := [(4, .int (nI (x + 1))), (5, .int (nI ((w * y) + x))), (0, .ref (a0)), (1, .int (nI (w))), (2, .int (nI (h))), (3, .int (nI (y)))]) hx hb d_A_init_151 hl (k := 5) rfl (nI_add _ _) (by decide) rfl (fun ls hl => ?_)
                      refine lv_goto (tgt := 37) hx hb d_A_init_154 (by decide) ?_
                      have e9 := rt_four (w := w) (h := h) (y := y) (x := x) (f := f) hI (by first | exact rt_v0n (by omega) c_63 | exact rt_v0s (by omega) c_63) (by first | exact rt_v1n (by omega) c_86 | exact rt_v1s (by omega) c_86) (by first | exact rt_v2n (by omega) c_113 | exact rt_v2s (by omega) c_113) (by first | exact rt_v3n (by omega) c_139 | exact rt_v3s (by omega) c_139)
                      exact ih_37 (upd (upd (upd (upd f ((4 * ((w * y) + x)) + 0) (-1)) ((4 * ((w * y) + x)) + 1) (nI (((w * y) + x) - w))) ((4 * ((w * y) + x)) + 2) (nI (((w * y) + x) + 1))) ((4 * ((w * y) + x)) + 3) (-1)) (x + 1) (by omega) e9 _ _ _ hP hS (lv_sub hl [2, 3, 4, 5, 0] rfl)
                    · refine lv_iload hx hb d_A_init_142 (lv_at hl 0 rfl) ?_
                      refine lv_iload_n hx hb d_A_init_144 rfl (lv_at hl 2 rfl) ?_
                      refine rw_add hx hb d_A_init_145 ?_
                      refine lv_goto (tgt := 150) hx hb d_A_init_146 (by decide) ?_
                      refine rw_iast (h := (upd (upd (upd (upd f ((4 * ((w * y) + x)) + 0) (-1)) ((4 * ((w * y) + x)) + 1) (nI (((w * y) + x) - w))) ((4 * ((w * y) + x)) + 2) (nI (((w * y) + x) + 1))) ((4 * ((w * y) + x)) + 3) (nI (((w * y) + x) + w)))) hx hb hK hP hD hS 1 0 rfl rfl (by omega) (by omega) (fun _ _ => rfl) d_A_init_150 (fun H locs hP hD hS => ?_)
                      have hP : va_P D vwCl [(a0, .inr (1, [.ref (q10), .ref (q22)])), (q10, .inl (cI, 4 * (w * h), .inl (upd (upd (upd (upd f ((4 * ((w * y) + x)) + 0) (-1)) ((4 * ((w * y) + x)) + 1) (nI (((w * y) + x) - w))) ((4 * ((w * y) + x)) + 2) (nI (((w * y) + x) + 1))) ((4 * ((w * y) + x)) + 3) (nI (((w * y) + x) + w))))), (q22, .inl (cI, 6 * (w * h), .inl (fun _ => 0)))] H := hP
                      have hD : va_D (va_A [(a0, .inr (1, [.null, .null]))] sz) [(a0, .inr (1, [.ref (q10), .ref (q22)])), (q10, .inl (cI, 4 * (w * h), .inl (upd (upd (upd (upd f ((4 * ((w * y) + x)) + 0) (-1)) ((4 * ((w * y) + x)) + 1) (nI (((w * y) + x) - w))) ((4 * ((w * y) + x)) + 2) (nI (((w * y) + x) + 1))) ((4 * ((w * y) + x)) + 3) (nI (((w * y) + x) + w))))), (q22, .inl (cI, 6 * (w * h), .inl (fun _ => 0)))] := hD
                      refine lv_iinc (v := (nI (x + 1))) (lv' := [(4, .int (nI (x + 1))), (5, .int (nI ((w * y) + x))), (0, .ref (a0)), (1, .int (nI (w))), (2, .int (nI (h))), (3, .int (nI (y)))]) hx hb d_A_init_151 hl (k := 5) rfl (nI_add _ _) (by decide) rfl (fun ls hl => ?_)
                      refine lv_goto (tgt := 37) hx hb d_A_init_154 (by decide) ?_
                      have e9 := rt_four (w := w) (h := h) (y := y) (x := x) (f := f) hI (by first | exact rt_v0n (by omega) c_63 | exact rt_v0s (by omega) c_63) (by first | exact rt_v1n (by omega) c_86 | exact rt_v1s (by omega) c_86) (by first | exact rt_v2n (by omega) c_113 | exact rt_v2s (by omega) c_113) (by first | exact rt_v3n (by omega) c_139 | exact rt_v3s (by omega) c_139)
                      exact ih_37 (upd (upd (upd (upd f ((4 * ((w * y) + x)) + 0) (-1)) ((4 * ((w * y) + x)) + 1) (nI (((w * y) + x) - w))) ((4 * ((w * y) + x)) + 2) (nI (((w * y) + x) + 1))) ((4 * ((w * y) + x)) + 3) (nI (((w * y) + x) + w))) (x + 1) (by omega) e9 _ _ _ hP hS (lv_sub hl [2, 3, 4, 5, 0] rfl)
              · refine lv_iload hx hb d_A_init_66 (lv_at hl 0 rfl) ?_
                refine lv_iconst (v := (nI (1))) hx hb d_A_init_68 (by decide) ?_
                refine rw_sub hx hb d_A_init_69 (by omega) ?_
                refine lv_goto (tgt := 74) hx hb d_A_init_70 (by decide) ?_
                refine rw_iast (h := (upd f ((4 * ((w * y) + x)) + 0) (nI (((w * y) + x) - 1)))) hx hb hK hP hD hS 1 0 rfl rfl (by omega) (by omega) (fun _ _ => rfl) d_A_init_74 (fun H locs hP hD hS => ?_)
                have hP : va_P D vwCl [(a0, .inr (1, [.ref (q10), .ref (q22)])), (q10, .inl (cI, 4 * (w * h), .inl (upd f ((4 * ((w * y) + x)) + 0) (nI (((w * y) + x) - 1))))), (q22, .inl (cI, 6 * (w * h), .inl (fun _ => 0)))] H := hP
                have hD : va_D (va_A [(a0, .inr (1, [.null, .null]))] sz) [(a0, .inr (1, [.ref (q10), .ref (q22)])), (q10, .inl (cI, 4 * (w * h), .inl (upd f ((4 * ((w * y) + x)) + 0) (nI (((w * y) + x) - 1))))), (q22, .inl (cI, 6 * (w * h), .inl (fun _ => 0)))] := hD
                refine lv_aload_n hx hb d_A_init_75 rfl (lv_at hl 1 rfl) ?_
                refine va_get (D := D) (ci := 1) (v := .ref (q10)) (C := rn_A) (T := tf_A) (N := 2) hx hb hts in_A hown hK hP 0 rfl rfl 0 (by decide) (hts _ k_fieldLink_rn_A_11_rn_A_beyond_I) (fun _ h9 => h9) rfl d_A_init_76 ?_
                refine lv_iconst (v := (nI (4))) hx hb d_A_init_79 (by decide) ?_
                refine lv_iload hx hb d_A_init_80 (lv_at hl 0 rfl) ?_
                refine rw_mul hx hb d_A_init_82 ?_
                refine lv_iconst (v := (nI (1))) hx hb d_A_init_83 (by decide) ?_
                refine rw_add hx hb d_A_init_84 ?_
                refine lv_iload_n hx hb d_A_init_85 rfl (lv_at hl 4 rfl) ?_
                refine rw_zle (tgt := 96) hx hb d_A_init_86 (by decide) (by omega) (fun c_86 => ?_) (fun c_86 => ?_)
                · refine lv_iconst (v := (-1)) hx hb d_A_init_96 (by decide) ?_
                  refine rw_iast (h := (upd (upd f ((4 * ((w * y) + x)) + 0) (nI (((w * y) + x) - 1))) ((4 * ((w * y) + x)) + 1) (-1))) hx hb hK hP hD hS 1 0 rfl rfl (by omega) (by omega) (fun _ _ => rfl) d_A_init_97 (fun H locs hP hD hS => ?_)
                  have hP : va_P D vwCl [(a0, .inr (1, [.ref (q10), .ref (q22)])), (q10, .inl (cI, 4 * (w * h), .inl (upd (upd f ((4 * ((w * y) + x)) + 0) (nI (((w * y) + x) - 1))) ((4 * ((w * y) + x)) + 1) (-1)))), (q22, .inl (cI, 6 * (w * h), .inl (fun _ => 0)))] H := hP
                  have hD : va_D (va_A [(a0, .inr (1, [.null, .null]))] sz) [(a0, .inr (1, [.ref (q10), .ref (q22)])), (q10, .inl (cI, 4 * (w * h), .inl (upd (upd f ((4 * ((w * y) + x)) + 0) (nI (((w * y) + x) - 1))) ((4 * ((w * y) + x)) + 1) (-1)))), (q22, .inl (cI, 6 * (w * h), .inl (fun _ => 0)))] := hD
                  refine lv_aload_n hx hb d_A_init_98 rfl (lv_at hl 1 rfl) ?_
                  refine va_get (D := D) (ci := 1) (v := .ref (q10)) (C := rn_A) (T := tf_A) (N := 2) hx hb hts in_A hown hK hP 0 rfl rfl 0 (by decide) (hts _ k_fieldLink_rn_A_11_rn_A_beyond_I) (fun _ h9 => h9) rfl d_A_init_99 ?_
                  refine lv_iconst (v := (nI (4))) hx hb d_A_init_102 (by decide) ?_
                  refine lv_iload hx hb d_A_init_103 (lv_at hl 0 rfl) ?_
                  refine rw_mul hx hb d_A_init_105 ?_
                  refine lv_iconst (v := (nI (2))) hx hb d_A_init_106 (by decide) ?_
                  refine rw_add hx hb d_A_init_107 ?_
                  refine lv_iload hx hb d_A_init_108 (lv_at hl 5 rfl) ?_
                  refine lv_iload_n hx hb d_A_init_110 rfl (lv_at hl 2 rfl) ?_
                  refine lv_iconst (v := (nI (1))) hx hb d_A_init_111 (by decide) ?_
                  refine rw_sub hx hb d_A_init_112 (by omega) ?_
                  refine rw_cge (tgt := 123) hx hb d_A_init_113 (by decide) (by omega) (by omega) (fun c_113 => ?_) (fun c_113 => ?_)
                  · refine lv_iconst (v := (-1)) hx hb d_A_init_123 (by decide) ?_
                    refine rw_iast (h := (upd (upd (upd f ((4 * ((w * y) + x)) + 0) (nI (((w * y) + x) - 1))) ((4 * ((w * y) + x)) + 1) (-1)) ((4 * ((w * y) + x)) + 2) (-1))) hx hb hK hP hD hS 1 0 rfl rfl (by omega) (by omega) (fun _ _ => rfl) d_A_init_124 (fun H locs hP hD hS => ?_)
                    have hP : va_P D vwCl [(a0, .inr (1, [.ref (q10), .ref (q22)])), (q10, .inl (cI, 4 * (w * h), .inl (upd (upd (upd f ((4 * ((w * y) + x)) + 0) (nI (((w * y) + x) - 1))) ((4 * ((w * y) + x)) + 1) (-1)) ((4 * ((w * y) + x)) + 2) (-1)))), (q22, .inl (cI, 6 * (w * h), .inl (fun _ => 0)))] H := hP
                    have hD : va_D (va_A [(a0, .inr (1, [.null, .null]))] sz) [(a0, .inr (1, [.ref (q10), .ref (q22)])), (q10, .inl (cI, 4 * (w * h), .inl (upd (upd (upd f ((4 * ((w * y) + x)) + 0) (nI (((w * y) + x) - 1))) ((4 * ((w * y) + x)) + 1) (-1)) ((4 * ((w * y) + x)) + 2) (-1)))), (q22, .inl (cI, 6 * (w * h), .inl (fun _ => 0)))] := hD
                    refine lv_aload_n hx hb d_A_init_125 rfl (lv_at hl 1 rfl) ?_
                    refine va_get (D := D) (ci := 1) (v := .ref (q10)) (C := rn_A) (T := tf_A) (N := 2) hx hb hts in_A hown hK hP 0 rfl rfl 0 (by decide) (hts _ k_fieldLink_rn_A_11_rn_A_beyond_I) (fun _ h9 => h9) rfl d_A_init_126 ?_
                    refine lv_iconst (v := (nI (4))) hx hb d_A_init_129 (by decide) ?_
                    refine lv_iload hx hb d_A_init_130 (lv_at hl 0 rfl) ?_
                    refine rw_mul hx hb d_A_init_132 ?_
                    refine lv_iconst (v := (nI (3))) hx hb d_A_init_133 (by decide) ?_
                    refine rw_add hx hb d_A_init_134 ?_
                    refine lv_iload_n hx hb d_A_init_135 rfl (lv_at hl 4 rfl) ?_
                    refine lv_iload_n hx hb d_A_init_136 rfl (lv_at hl 3 rfl) ?_
                    refine lv_iconst (v := (nI (1))) hx hb d_A_init_137 (by decide) ?_
                    refine rw_sub hx hb d_A_init_138 (by omega) ?_
                    refine rw_cge (tgt := 149) hx hb d_A_init_139 (by decide) (by omega) (by omega) (fun c_139 => ?_) (fun c_139 => ?_)
                    · refine lv_iconst (v := (-1)) hx hb d_A_init_149 (by decide) ?_
                      refine rw_iast (h := (upd (upd (upd (upd f ((4 * ((w * y) + x)) + 0) (nI (((w * y) + x) - 1))) ((4 * ((w * y) + x)) + 1) (-1)) ((4 * ((w * y) + x)) + 2) (-1)) ((4 * ((w * y) + x)) + 3) (-1))) hx hb hK hP hD hS 1 0 rfl rfl (by omega) (by omega) (fun _ _ => rfl) d_A_init_150 (fun H locs hP hD hS => ?_)
                      have hP : va_P D vwCl [(a0, .inr (1, [.ref (q10), .ref (q22)])), (q10, .inl (cI, 4 * (w * h), .inl (upd (upd (upd (upd f ((4 * ((w * y) + x)) + 0) (nI (((w * y) + x) - 1))) ((4 * ((w * y) + x)) + 1) (-1)) ((4 * ((w * y) + x)) + 2) (-1)) ((4 * ((w * y) + x)) + 3) (-1)))), (q22, .inl (cI, 6 * (w * h), .inl (fun _ => 0)))] H := hP
                      have hD : va_D (va_A [(a0, .inr (1, [.null, .null]))] sz) [(a0, .inr (1, [.ref (q10), .ref (q22)])), (q10, .inl (cI, 4 * (w * h), .inl (upd (upd (upd (upd f ((4 * ((w * y) + x)) + 0) (nI (((w * y) + x) - 1))) ((4 * ((w * y) + x)) + 1) (-1)) ((4 * ((w * y) + x)) + 2) (-1)) ((4 * ((w * y) + x)) + 3) (-1)))), (q22, .inl (cI, 6 * (w * h), .inl (fun _ => 0)))] := hD
                      refine lv_iinc (v := (nI (x + 1))) (lv' := [(4, .int (nI (x + 1))), (5, .int (nI ((w * y) + x))), (0, .ref (a0)), (1, .int (nI (w))), (2, .int (nI (h))), (3, .int (nI (y)))]) hx hb d_A_init_151 hl (k := 5) rfl (nI_add _ _) (by decide) rfl (fun ls hl => ?_)
                      refine lv_goto (tgt := 37) hx hb d_A_init_154 (by decide) ?_
                      have e9 := rt_four (w := w) (h := h) (y := y) (x := x) (f := f) hI (by first | exact rt_v0n (by omega) c_63 | exact rt_v0s (by omega) c_63) (by first | exact rt_v1n (by omega) c_86 | exact rt_v1s (by omega) c_86) (by first | exact rt_v2n (by omega) c_113 | exact rt_v2s (by omega) c_113) (by first | exact rt_v3n (by omega) c_139 | exact rt_v3s (by omega) c_139)
                      exact ih_37 (upd (upd (upd (upd f ((4 * ((w * y) + x)) + 0) (nI (((w * y) + x) - 1))) ((4 * ((w * y) + x)) + 1) (-1)) ((4 * ((w * y) + x)) + 2) (-1)) ((4 * ((w * y) + x)) + 3) (-1)) (x + 1) (by omega) e9 _ _ _ hP hS (lv_sub hl [2, 3, 4, 5, 0] rfl)
                    · refine lv_iload hx hb d_A_init_142 (lv_at hl 0 rfl) ?_
                      refine lv_iload_n hx hb d_A_init_144 rfl (lv_at hl 2 rfl) ?_
                      refine rw_add hx hb d_A_init_145 ?_
                      refine lv_goto (tgt := 150) hx hb d_A_init_146 (by decide) ?_
                      refine rw_iast (h := (upd (upd (upd (upd f ((4 * ((w * y) + x)) + 0) (nI (((w * y) + x) - 1))) ((4 * ((w * y) + x)) + 1) (-1)) ((4 * ((w * y) + x)) + 2) (-1)) ((4 * ((w * y) + x)) + 3) (nI (((w * y) + x) + w)))) hx hb hK hP hD hS 1 0 rfl rfl (by omega) (by omega) (fun _ _ => rfl) d_A_init_150 (fun H locs hP hD hS => ?_)
                      have hP : va_P D vwCl [(a0, .inr (1, [.ref (q10), .ref (q22)])), (q10, .inl (cI, 4 * (w * h), .inl (upd (upd (upd (upd f ((4 * ((w * y) + x)) + 0) (nI (((w * y) + x) - 1))) ((4 * ((w * y) + x)) + 1) (-1)) ((4 * ((w * y) + x)) + 2) (-1)) ((4 * ((w * y) + x)) + 3) (nI (((w * y) + x) + w))))), (q22, .inl (cI, 6 * (w * h), .inl (fun _ => 0)))] H := hP
                      have hD : va_D (va_A [(a0, .inr (1, [.null, .null]))] sz) [(a0, .inr (1, [.ref (q10), .ref (q22)])), (q10, .inl (cI, 4 * (w * h), .inl (upd (upd (upd (upd f ((4 * ((w * y) + x)) + 0) (nI (((w * y) + x) - 1))) ((4 * ((w * y) + x)) + 1) (-1)) ((4 * ((w * y) + x)) + 2) (-1)) ((4 * ((w * y) + x)) + 3) (nI (((w * y) + x) + w))))), (q22, .inl (cI, 6 * (w * h), .inl (fun _ => 0)))] := hD
                      refine lv_iinc (v := (nI (x + 1))) (lv' := [(4, .int (nI (x + 1))), (5, .int (nI ((w * y) + x))), (0, .ref (a0)), (1, .int (nI (w))), (2, .int (nI (h))), (3, .int (nI (y)))]) hx hb d_A_init_151 hl (k := 5) rfl (nI_add _ _) (by decide) rfl (fun ls hl => ?_)
                      refine lv_goto (tgt := 37) hx hb d_A_init_154 (by decide) ?_
                      have e9 := rt_four (w := w) (h := h) (y := y) (x := x) (f := f) hI (by first | exact rt_v0n (by omega) c_63 | exact rt_v0s (by omega) c_63) (by first | exact rt_v1n (by omega) c_86 | exact rt_v1s (by omega) c_86) (by first | exact rt_v2n (by omega) c_113 | exact rt_v2s (by omega) c_113) (by first | exact rt_v3n (by omega) c_139 | exact rt_v3s (by omega) c_139)
                      exact ih_37 (upd (upd (upd (upd f ((4 * ((w * y) + x)) + 0) (nI (((w * y) + x) - 1))) ((4 * ((w * y) + x)) + 1) (-1)) ((4 * ((w * y) + x)) + 2) (-1)) ((4 * ((w * y) + x)) + 3) (nI (((w * y) + x) + w))) (x + 1) (by omega) e9 _ _ _ hP hS (lv_sub hl [2, 3, 4, 5, 0] rfl)
                  · refine lv_iload hx hb d_A_init_116 (lv_at hl 0 rfl) ?_
                    refine lv_iconst (v := (nI (1))) hx hb d_A_init_118 (by decide) ?_
                    refine rw_add hx hb d_A_init_119 ?_
                    refine lv_goto (tgt := 124) hx hb d_A_init_120 (by decide) ?_
                    refine rw_iast (h := (upd (upd (upd f ((4 * ((w * y) + x)) + 0) (nI (((w * y) + x) - 1))) ((4 * ((w * y) + x)) + 1) (-1)) ((4 * ((w * y) + x)) + 2) (nI (((w * y) + x) + 1)))) hx hb hK hP hD hS 1 0 rfl rfl (by omega) (by omega) (fun _ _ => rfl) d_A_init_124 (fun H locs hP hD hS => ?_)
                    have hP : va_P D vwCl [(a0, .inr (1, [.ref (q10), .ref (q22)])), (q10, .inl (cI, 4 * (w * h), .inl (upd (upd (upd f ((4 * ((w * y) + x)) + 0) (nI (((w * y) + x) - 1))) ((4 * ((w * y) + x)) + 1) (-1)) ((4 * ((w * y) + x)) + 2) (nI (((w * y) + x) + 1))))), (q22, .inl (cI, 6 * (w * h), .inl (fun _ => 0)))] H := hP
                    have hD : va_D (va_A [(a0, .inr (1, [.null, .null]))] sz) [(a0, .inr (1, [.ref (q10), .ref (q22)])), (q10, .inl (cI, 4 * (w * h), .inl (upd (upd (upd f ((4 * ((w * y) + x)) + 0) (nI (((w * y) + x) - 1))) ((4 * ((w * y) + x)) + 1) (-1)) ((4 * ((w * y) + x)) + 2) (nI (((w * y) + x) + 1))))), (q22, .inl (cI, 6 * (w * h), .inl (fun _ => 0)))] := hD
                    refine lv_aload_n hx hb d_A_init_125 rfl (lv_at hl 1 rfl) ?_
                    refine va_get (D := D) (ci := 1) (v := .ref (q10)) (C := rn_A) (T := tf_A) (N := 2) hx hb hts in_A hown hK hP 0 rfl rfl 0 (by decide) (hts _ k_fieldLink_rn_A_11_rn_A_beyond_I) (fun _ h9 => h9) rfl d_A_init_126 ?_
                    refine lv_iconst (v := (nI (4))) hx hb d_A_init_129 (by decide) ?_
                    refine lv_iload hx hb d_A_init_130 (lv_at hl 0 rfl) ?_
                    refine rw_mul hx hb d_A_init_132 ?_
                    refine lv_iconst (v := (nI (3))) hx hb d_A_init_133 (by decide) ?_
                    refine rw_add hx hb d_A_init_134 ?_
                    refine lv_iload_n hx hb d_A_init_135 rfl (lv_at hl 4 rfl) ?_
                    refine lv_iload_n hx hb d_A_init_136 rfl (lv_at hl 3 rfl) ?_
                    refine lv_iconst (v := (nI (1))) hx hb d_A_init_137 (by decide) ?_
                    refine rw_sub hx hb d_A_init_138 (by omega) ?_
                    refine rw_cge (tgt := 149) hx hb d_A_init_139 (by decide) (by omega) (by omega) (fun c_139 => ?_) (fun c_139 => ?_)
                    · refine lv_iconst (v := (-1)) hx hb d_A_init_149 (by decide) ?_
                      refine rw_iast (h := (upd (upd (upd (upd f ((4 * ((w * y) + x)) + 0) (nI (((w * y) + x) - 1))) ((4 * ((w * y) + x)) + 1) (-1)) ((4 * ((w * y) + x)) + 2) (nI (((w * y) + x) + 1))) ((4 * ((w * y) + x)) + 3) (-1))) hx hb hK hP hD hS 1 0 rfl rfl (by omega) (by omega) (fun _ _ => rfl) d_A_init_150 (fun H locs hP hD hS => ?_)
                      have hP : va_P D vwCl [(a0, .inr (1, [.ref (q10), .ref (q22)])), (q10, .inl (cI, 4 * (w * h), .inl (upd (upd (upd (upd f ((4 * ((w * y) + x)) + 0) (nI (((w * y) + x) - 1))) ((4 * ((w * y) + x)) + 1) (-1)) ((4 * ((w * y) + x)) + 2) (nI (((w * y) + x) + 1))) ((4 * ((w * y) + x)) + 3) (-1)))), (q22, .inl (cI, 6 * (w * h), .inl (fun _ => 0)))] H := hP
                      have hD : va_D (va_A [(a0, .inr (1, [.null, .null]))] sz) [(a0, .inr (1, [.ref (q10), .ref (q22)])), (q10, .inl (cI, 4 * (w * h), .inl (upd (upd (upd (upd f ((4 * ((w * y) + x)) + 0) (nI (((w * y) + x) - 1))) ((4 * ((w * y) + x)) + 1) (-1)) ((4 * ((w * y) + x)) + 2) (nI (((w * y) + x) + 1))) ((4 * ((w * y) + x)) + 3) (-1)))), (q22, .inl (cI, 6 * (w * h), .inl (fun _ => 0)))] := hD
                      refine lv_iinc (v := (nI (x + 1))) (lv' := [(4, .int (nI (x + 1))), (5, .int (nI ((w * y) + x))), (0, .ref (a0)), (1, .int (nI (w))), (2, .int (nI (h))), (3, .int (nI (y)))]) hx hb d_A_init_151 hl (k := 5) rfl (nI_add _ _) (by decide) rfl (fun ls hl => ?_)
                      refine lv_goto (tgt := 37) hx hb d_A_init_154 (by decide) ?_
                      have e9 := rt_four (w := w) (h := h) (y := y) (x := x) (f := f) hI (by first | exact rt_v0n (by omega) c_63 | exact rt_v0s (by omega) c_63) (by first | exact rt_v1n (by omega) c_86 | exact rt_v1s (by omega) c_86) (by first | exact rt_v2n (by omega) c_113 | exact rt_v2s (by omega) c_113) (by first | exact rt_v3n (by omega) c_139 | exact rt_v3s (by omega) c_139)
                      exact ih_37 (upd (upd (upd (upd f ((4 * ((w * y) + x)) + 0) (nI (((w * y) + x) - 1))) ((4 * ((w * y) + x)) + 1) (-1)) ((4 * ((w * y) + x)) + 2) (nI (((w * y) + x) + 1))) ((4 * ((w * y) + x)) + 3) (-1)) (x + 1) (by omega) e9 _ _ _ hP hS (lv_sub hl [2, 3, 4, 5, 0] rfl)
                    · refine lv_iload hx hb d_A_init_142 (lv_at hl 0 rfl) ?_
                      refine lv_iload_n hx hb d_A_init_144 rfl (lv_at hl 2 rfl) ?_
                      refine rw_add hx hb d_A_init_145 ?_
                      refine lv_goto (tgt := 150) hx hb d_A_init_146 (by decide) ?_
                      refine rw_iast (h := (upd (upd (upd (upd f ((4 * ((w * y) + x)) + 0) (nI (((w * y) + x) - 1))) ((4 * ((w * y) + x)) + 1) (-1)) ((4 * ((w * y) + x)) + 2) (nI (((w * y) + x) + 1))) ((4 * ((w * y) + x)) + 3) (nI (((w * y) + x) + w)))) hx hb hK hP hD hS 1 0 rfl rfl (by omega) (by omega) (fun _ _ => rfl) d_A_init_150 (fun H locs hP hD hS => ?_)
                      have hP : va_P D vwCl [(a0, .inr (1, [.ref (q10), .ref (q22)])), (q10, .inl (cI, 4 * (w * h), .inl (upd (upd (upd (upd f ((4 * ((w * y) + x)) + 0) (nI (((w * y) + x) - 1))) ((4 * ((w * y) + x)) + 1) (-1)) ((4 * ((w * y) + x)) + 2) (nI (((w * y) + x) + 1))) ((4 * ((w * y) + x)) + 3) (nI (((w * y) + x) + w))))), (q22, .inl (cI, 6 * (w * h), .inl (fun _ => 0)))] H := hP
                      have hD : va_D (va_A [(a0, .inr (1, [.null, .null]))] sz) [(a0, .inr (1, [.ref (q10), .ref (q22)])), (q10, .inl (cI, 4 * (w * h), .inl (upd (upd (upd (upd f ((4 * ((w * y) + x)) + 0) (nI (((w * y) + x) - 1))) ((4 * ((w * y) + x)) + 1) (-1)) ((4 * ((w * y) + x)) + 2) (nI (((w * y) + x) + 1))) ((4 * ((w * y) + x)) + 3) (nI (((w * y) + x) + w))))), (q22, .inl (cI, 6 * (w * h), .inl (fun _ => 0)))] := hD
                      refine lv_iinc (v := (nI (x + 1))) (lv' := [(4, .int (nI (x + 1))), (5, .int (nI ((w * y) + x))), (0, .ref (a0)), (1, .int (nI (w))), (2, .int (nI (h))), (3, .int (nI (y)))]) hx hb d_A_init_151 hl (k := 5) rfl (nI_add _ _) (by decide) rfl (fun ls hl => ?_)
                      refine lv_goto (tgt := 37) hx hb d_A_init_154 (by decide) ?_
                      have e9 := rt_four (w := w) (h := h) (y := y) (x := x) (f := f) hI (by first | exact rt_v0n (by omega) c_63 | exact rt_v0s (by omega) c_63) (by first | exact rt_v1n (by omega) c_86 | exact rt_v1s (by omega) c_86) (by first | exact rt_v2n (by omega) c_113 | exact rt_v2s (by omega) c_113) (by first | exact rt_v3n (by omega) c_139 | exact rt_v3s (by omega) c_139)
                      exact ih_37 (upd (upd (upd (upd f ((4 * ((w * y) + x)) + 0) (nI (((w * y) + x) - 1))) ((4 * ((w * y) + x)) + 1) (-1)) ((4 * ((w * y) + x)) + 2) (nI (((w * y) + x) + 1))) ((4 * ((w * y) + x)) + 3) (nI (((w * y) + x) + w))) (x + 1) (by omega) e9 _ _ _ hP hS (lv_sub hl [2, 3, 4, 5, 0] rfl)
                · refine lv_iload hx hb d_A_init_89 (lv_at hl 0 rfl) ?_
                  refine lv_iload_n hx hb d_A_init_91 rfl (lv_at hl 2 rfl) ?_
                  refine rw_sub hx hb d_A_init_92 (by have := Nat.le_mul_of_pos_right w (show 0 < y by omega); omega) ?_
                  refine lv_goto (tgt := 97) hx hb d_A_init_93 (by decide) ?_
                  refine rw_iast (h := (upd (upd f ((4 * ((w * y) + x)) + 0) (nI (((w * y) + x) - 1))) ((4 * ((w * y) + x)) + 1) (nI (((w * y) + x) - w)))) hx hb hK hP hD hS 1 0 rfl rfl (by omega) (by omega) (fun _ _ => rfl) d_A_init_97 (fun H locs hP hD hS => ?_)
                  have hP : va_P D vwCl [(a0, .inr (1, [.ref (q10), .ref (q22)])), (q10, .inl (cI, 4 * (w * h), .inl (upd (upd f ((4 * ((w * y) + x)) + 0) (nI (((w * y) + x) - 1))) ((4 * ((w * y) + x)) + 1) (nI (((w * y) + x) - w))))), (q22, .inl (cI, 6 * (w * h), .inl (fun _ => 0)))] H := hP
                  have hD : va_D (va_A [(a0, .inr (1, [.null, .null]))] sz) [(a0, .inr (1, [.ref (q10), .ref (q22)])), (q10, .inl (cI, 4 * (w * h), .inl (upd (upd f ((4 * ((w * y) + x)) + 0) (nI (((w * y) + x) - 1))) ((4 * ((w * y) + x)) + 1) (nI (((w * y) + x) - w))))), (q22, .inl (cI, 6 * (w * h), .inl (fun _ => 0)))] := hD
                  refine lv_aload_n hx hb d_A_init_98 rfl (lv_at hl 1 rfl) ?_
                  refine va_get (D := D) (ci := 1) (v := .ref (q10)) (C := rn_A) (T := tf_A) (N := 2) hx hb hts in_A hown hK hP 0 rfl rfl 0 (by decide) (hts _ k_fieldLink_rn_A_11_rn_A_beyond_I) (fun _ h9 => h9) rfl d_A_init_99 ?_
                  refine lv_iconst (v := (nI (4))) hx hb d_A_init_102 (by decide) ?_
                  refine lv_iload hx hb d_A_init_103 (lv_at hl 0 rfl) ?_
                  refine rw_mul hx hb d_A_init_105 ?_
                  refine lv_iconst (v := (nI (2))) hx hb d_A_init_106 (by decide) ?_
                  refine rw_add hx hb d_A_init_107 ?_
                  refine lv_iload hx hb d_A_init_108 (lv_at hl 5 rfl) ?_
                  refine lv_iload_n hx hb d_A_init_110 rfl (lv_at hl 2 rfl) ?_
                  refine lv_iconst (v := (nI (1))) hx hb d_A_init_111 (by decide) ?_
                  refine rw_sub hx hb d_A_init_112 (by omega) ?_
                  refine rw_cge (tgt := 123) hx hb d_A_init_113 (by decide) (by omega) (by omega) (fun c_113 => ?_) (fun c_113 => ?_)
                  · refine lv_iconst (v := (-1)) hx hb d_A_init_123 (by decide) ?_
                    refine rw_iast (h := (upd (upd (upd f ((4 * ((w * y) + x)) + 0) (nI (((w * y) + x) - 1))) ((4 * ((w * y) + x)) + 1) (nI (((w * y) + x) - w))) ((4 * ((w * y) + x)) + 2) (-1))) hx hb hK hP hD hS 1 0 rfl rfl (by omega) (by omega) (fun _ _ => rfl) d_A_init_124 (fun H locs hP hD hS => ?_)
                    have hP : va_P D vwCl [(a0, .inr (1, [.ref (q10), .ref (q22)])), (q10, .inl (cI, 4 * (w * h), .inl (upd (upd (upd f ((4 * ((w * y) + x)) + 0) (nI (((w * y) + x) - 1))) ((4 * ((w * y) + x)) + 1) (nI (((w * y) + x) - w))) ((4 * ((w * y) + x)) + 2) (-1)))), (q22, .inl (cI, 6 * (w * h), .inl (fun _ => 0)))] H := hP
                    have hD : va_D (va_A [(a0, .inr (1, [.null, .null]))] sz) [(a0, .inr (1, [.ref (q10), .ref (q22)])), (q10, .inl (cI, 4 * (w * h), .inl (upd (upd (upd f ((4 * ((w * y) + x)) + 0) (nI (((w * y) + x) - 1))) ((4 * ((w * y) + x)) + 1) (nI (((w * y) + x) - w))) ((4 * ((w * y) + x)) + 2) (-1)))), (q22, .inl (cI, 6 * (w * h), .inl (fun _ => 0)))] := hD
                    refine lv_aload_n hx hb d_A_init_125 rfl (lv_at hl 1 rfl) ?_
                    refine va_get (D := D) (ci := 1) (v := .ref (q10)) (C := rn_A) (T := tf_A) (N := 2) hx hb hts in_A hown hK hP 0 rfl rfl 0 (by decide) (hts _ k_fieldLink_rn_A_11_rn_A_beyond_I) (fun _ h9 => h9) rfl d_A_init_126 ?_
                    refine lv_iconst (v := (nI (4))) hx hb d_A_init_129 (by decide) ?_
                    refine lv_iload hx hb d_A_init_130 (lv_at hl 0 rfl) ?_
                    refine rw_mul hx hb d_A_init_132 ?_
                    refine lv_iconst (v := (nI (3))) hx hb d_A_init_133 (by decide) ?_
                    refine rw_add hx hb d_A_init_134 ?_
                    refine lv_iload_n hx hb d_A_init_135 rfl (lv_at hl 4 rfl) ?_
                    refine lv_iload_n hx hb d_A_init_136 rfl (lv_at hl 3 rfl) ?_
                    refine lv_iconst (v := (nI (1))) hx hb d_A_init_137 (by decide) ?_
                    refine rw_sub hx hb d_A_init_138 (by omega) ?_
                    refine rw_cge (tgt := 149) hx hb d_A_init_139 (by decide) (by omega) (by omega) (fun c_139 => ?_) (fun c_139 => ?_)
                    · refine lv_iconst (v := (-1)) hx hb d_A_init_149 (by decide) ?_
                      refine rw_iast (h := (upd (upd (upd (upd f ((4 * ((w * y) + x)) + 0) (nI (((w * y) + x) - 1))) ((4 * ((w * y) + x)) + 1) (nI (((w * y) + x) - w))) ((4 * ((w * y) + x)) + 2) (-1)) ((4 * ((w * y) + x)) + 3) (-1))) hx hb hK hP hD hS 1 0 rfl rfl (by omega) (by omega) (fun _ _ => rfl) d_A_init_150 (fun H locs hP hD hS => ?_)
                      have hP : va_P D vwCl [(a0, .inr (1, [.ref (q10), .ref (q22)])), (q10, .inl (cI, 4 * (w * h), .inl (upd (upd (upd (upd f ((4 * ((w * y) + x)) + 0) (nI (((w * y) + x) - 1))) ((4 * ((w * y) + x)) + 1) (nI (((w * y) + x) - w))) ((4 * ((w * y) + x)) + 2) (-1)) ((4 * ((w * y) + x)) + 3) (-1)))), (q22, .inl (cI, 6 * (w * h), .inl (fun _ => 0)))] H := hP
                      have hD : va_D (va_A [(a0, .inr (1, [.null, .null]))] sz) [(a0, .inr (1, [.ref (q10), .ref (q22)])), (q10, .inl (cI, 4 * (w * h), .inl (upd (upd (upd (upd f ((4 * ((w * y) + x)) + 0) (nI (((w * y) + x) - 1))) ((4 * ((w * y) + x)) + 1) (nI (((w * y) + x) - w))) ((4 * ((w * y) + x)) + 2) (-1)) ((4 * ((w * y) + x)) + 3) (-1)))), (q22, .inl (cI, 6 * (w * h), .inl (fun _ => 0)))] := hD
                      refine lv_iinc (v := (nI (x + 1))) (lv' := [(4, .int (nI (x + 1))), (5, .int (nI ((w * y) + x))), (0, .ref (a0)), (1, .int (nI (w))), (2, .int (nI (h))), (3, .int (nI (y)))]) hx hb d_A_init_151 hl (k := 5) rfl (nI_add _ _) (by decide) rfl (fun ls hl => ?_)
                      refine lv_goto (tgt := 37) hx hb d_A_init_154 (by decide) ?_
                      have e9 := rt_four (w := w) (h := h) (y := y) (x := x) (f := f) hI (by first | exact rt_v0n (by omega) c_63 | exact rt_v0s (by omega) c_63) (by first | exact rt_v1n (by omega) c_86 | exact rt_v1s (by omega) c_86) (by first | exact rt_v2n (by omega) c_113 | exact rt_v2s (by omega) c_113) (by first | exact rt_v3n (by omega) c_139 | exact rt_v3s (by omega) c_139)
                      exact ih_37 (upd (upd (upd (upd f ((4 * ((w * y) + x)) + 0) (nI (((w * y) + x) - 1))) ((4 * ((w * y) + x)) + 1) (nI (((w * y) + x) - w))) ((4 * ((w * y) + x)) + 2) (-1)) ((4 * ((w * y) + x)) + 3) (-1)) (x + 1) (by omega) e9 _ _ _ hP hS (lv_sub hl [2, 3, 4, 5, 0] rfl)
                    · refine lv_iload hx hb d_A_init_142 (lv_at hl 0 rfl) ?_
                      refine lv_iload_n hx hb d_A_init_144 rfl (lv_at hl 2 rfl) ?_
                      refine rw_add hx hb d_A_init_145 ?_
                      refine lv_goto (tgt := 150) hx hb d_A_init_146 (by decide) ?_
                      refine rw_iast (h := (upd (upd (upd (upd f ((4 * ((w * y) + x)) + 0) (nI (((w * y) + x) - 1))) ((4 * ((w * y) + x)) + 1) (nI (((w * y) + x) - w))) ((4 * ((w * y) + x)) + 2) (-1)) ((4 * ((w * y) + x)) + 3) (nI (((w * y) + x) + w)))) hx hb hK hP hD hS 1 0 rfl rfl (by omega) (by omega) (fun _ _ => rfl) d_A_init_150 (fun H locs hP hD hS => ?_)
                      have hP : va_P D vwCl [(a0, .inr (1, [.ref (q10), .ref (q22)])), (q10, .inl (cI, 4 * (w * h), .inl (upd (upd (upd (upd f ((4 * ((w * y) + x)) + 0) (nI (((w * y) + x) - 1))) ((4 * ((w * y) + x)) + 1) (nI (((w * y) + x) - w))) ((4 * ((w * y) + x)) + 2) (-1)) ((4 * ((w * y) + x)) + 3) (nI (((w * y) + x) + w))))), (q22, .inl (cI, 6 * (w * h), .inl (fun _ => 0)))] H := hP
                      have hD : va_D (va_A [(a0, .inr (1, [.null, .null]))] sz) [(a0, .inr (1, [.ref (q10), .ref (q22)])), (q10, .inl (cI, 4 * (w * h), .inl (upd (upd (upd (upd f ((4 * ((w * y) + x)) + 0) (nI (((w * y) + x) - 1))) ((4 * ((w * y) + x)) + 1) (nI (((w * y) + x) - w))) ((4 * ((w * y) + x)) + 2) (-1)) ((4 * ((w * y) + x)) + 3) (nI (((w * y) + x) + w))))), (q22, .inl (cI, 6 * (w * h), .inl (fun _ => 0)))] := hD
                      refine lv_iinc (v := (nI (x + 1))) (lv' := [(4, .int (nI (x + 1))), (5, .int (nI ((w * y) + x))), (0, .ref (a0)), (1, .int (nI (w))), (2, .int (nI (h))), (3, .int (nI (y)))]) hx hb d_A_init_151 hl (k := 5) rfl (nI_add _ _) (by decide) rfl (fun ls hl => ?_)
                      refine lv_goto (tgt := 37) hx hb d_A_init_154 (by decide) ?_
                      have e9 := rt_four (w := w) (h := h) (y := y) (x := x) (f := f) hI (by first | exact rt_v0n (by omega) c_63 | exact rt_v0s (by omega) c_63) (by first | exact rt_v1n (by omega) c_86 | exact rt_v1s (by omega) c_86) (by first | exact rt_v2n (by omega) c_113 | exact rt_v2s (by omega) c_113) (by first | exact rt_v3n (by omega) c_139 | exact rt_v3s (by omega) c_139)
                      exact ih_37 (upd (upd (upd (upd f ((4 * ((w * y) + x)) + 0) (nI (((w * y) + x) - 1))) ((4 * ((w * y) + x)) + 1) (nI (((w * y) + x) - w))) ((4 * ((w * y) + x)) + 2) (-1)) ((4 * ((w * y) + x)) + 3) (nI (((w * y) + x) + w))) (x + 1) (by omega) e9 _ _ _ hP hS (lv_sub hl [2, 3, 4, 5, 0] rfl)
                  · refine lv_iload hx hb d_A_init_116 (lv_at hl 0 rfl) ?_
                    refine lv_iconst (v := (nI (1))) hx hb d_A_init_118 (by decide) ?_
                    refine rw_add hx hb d_A_init_119 ?_
                    refine lv_goto (tgt := 124) hx hb d_A_init_120 (by decide) ?_
                    refine rw_iast (h := (upd (upd (upd f ((4 * ((w * y) + x)) + 0) (nI (((w * y) + x) - 1))) ((4 * ((w * y) + x)) + 1) (nI (((w * y) + x) - w))) ((4 * ((w * y) + x)) + 2) (nI (((w * y) + x) + 1)))) hx hb hK hP hD hS 1 0 rfl rfl (by omega) (by omega) (fun _ _ => rfl) d_A_init_124 (fun H locs hP hD hS => ?_)
                    have hP : va_P D vwCl [(a0, .inr (1, [.ref (q10), .ref (q22)])), (q10, .inl (cI, 4 * (w * h), .inl (upd (upd (upd f ((4 * ((w * y) + x)) + 0) (nI (((w * y) + x) - 1))) ((4 * ((w * y) + x)) + 1) (nI (((w * y) + x) - w))) ((4 * ((w * y) + x)) + 2) (nI (((w * y) + x) + 1))))), (q22, .inl (cI, 6 * (w * h), .inl (fun _ => 0)))] H := hP
                    have hD : va_D (va_A [(a0, .inr (1, [.null, .null]))] sz) [(a0, .inr (1, [.ref (q10), .ref (q22)])), (q10, .inl (cI, 4 * (w * h), .inl (upd (upd (upd f ((4 * ((w * y) + x)) + 0) (nI (((w * y) + x) - 1))) ((4 * ((w * y) + x)) + 1) (nI (((w * y) + x) - w))) ((4 * ((w * y) + x)) + 2) (nI (((w * y) + x) + 1))))), (q22, .inl (cI, 6 * (w * h), .inl (fun _ => 0)))] := hD
                    refine lv_aload_n hx hb d_A_init_125 rfl (lv_at hl 1 rfl) ?_
                    refine va_get (D := D) (ci := 1) (v := .ref (q10)) (C := rn_A) (T := tf_A) (N := 2) hx hb hts in_A hown hK hP 0 rfl rfl 0 (by decide) (hts _ k_fieldLink_rn_A_11_rn_A_beyond_I) (fun _ h9 => h9) rfl d_A_init_126 ?_
                    refine lv_iconst (v := (nI (4))) hx hb d_A_init_129 (by decide) ?_
                    refine lv_iload hx hb d_A_init_130 (lv_at hl 0 rfl) ?_
                    refine rw_mul hx hb d_A_init_132 ?_
                    refine lv_iconst (v := (nI (3))) hx hb d_A_init_133 (by decide) ?_
                    refine rw_add hx hb d_A_init_134 ?_
                    refine lv_iload_n hx hb d_A_init_135 rfl (lv_at hl 4 rfl) ?_
                    refine lv_iload_n hx hb d_A_init_136 rfl (lv_at hl 3 rfl) ?_
                    refine lv_iconst (v := (nI (1))) hx hb d_A_init_137 (by decide) ?_
                    refine rw_sub hx hb d_A_init_138 (by omega) ?_
                    refine rw_cge (tgt := 149) hx hb d_A_init_139 (by decide) (by omega) (by omega) (fun c_139 => ?_) (fun c_139 => ?_)
                    · refine lv_iconst (v := (-1)) hx hb d_A_init_149 (by decide) ?_
                      refine rw_iast (h := (upd (upd (upd (upd f ((4 * ((w * y) + x)) + 0) (nI (((w * y) + x) - 1))) ((4 * ((w * y) + x)) + 1) (nI (((w * y) + x) - w))) ((4 * ((w * y) + x)) + 2) (nI (((w * y) + x) + 1))) ((4 * ((w * y) + x)) + 3) (-1))) hx hb hK hP hD hS 1 0 rfl rfl (by omega) (by omega) (fun _ _ => rfl) d_A_init_150 (fun H locs hP hD hS => ?_)
                      have hP : va_P D vwCl [(a0, .inr (1, [.ref (q10), .ref (q22)])), (q10, .inl (cI, 4 * (w * h), .inl (upd (upd (upd (upd f ((4 * ((w * y) + x)) + 0) (nI (((w * y) + x) - 1))) ((4 * ((w * y) + x)) + 1) (nI (((w * y) + x) - w))) ((4 * ((w * y) + x)) + 2) (nI (((w * y) + x) + 1))) ((4 * ((w * y) + x)) + 3) (-1)))), (q22, .inl (cI, 6 * (w * h), .inl (fun _ => 0)))] H := hP
                      have hD : va_D (va_A [(a0, .inr (1, [.null, .null]))] sz) [(a0, .inr (1, [.ref (q10), .ref (q22)])), (q10, .inl (cI, 4 * (w * h), .inl (upd (upd (upd (upd f ((4 * ((w * y) + x)) + 0) (nI (((w * y) + x) - 1))) ((4 * ((w * y) + x)) + 1) (nI (((w * y) + x) - w))) ((4 * ((w * y) + x)) + 2) (nI (((w * y) + x) + 1))) ((4 * ((w * y) + x)) + 3) (-1)))), (q22, .inl (cI, 6 * (w * h), .inl (fun _ => 0)))] := hD
                      refine lv_iinc (v := (nI (x + 1))) (lv' := [(4, .int (nI (x + 1))), (5, .int (nI ((w * y) + x))), (0, .ref (a0)), (1, .int (nI (w))), (2, .int (nI (h))), (3, .int (nI (y)))]) hx hb d_A_init_151 hl (k := 5) rfl (nI_add _ _) (by decide) rfl (fun ls hl => ?_)
                      refine lv_goto (tgt := 37) hx hb d_A_init_154 (by decide) ?_
                      have e9 := rt_four (w := w) (h := h) (y := y) (x := x) (f := f) hI (by first | exact rt_v0n (by omega) c_63 | exact rt_v0s (by omega) c_63) (by first | exact rt_v1n (by omega) c_86 | exact rt_v1s (by omega) c_86) (by first | exact rt_v2n (by omega) c_113 | exact rt_v2s (by omega) c_113) (by first | exact rt_v3n (by omega) c_139 | exact rt_v3s (by omega) c_139)
                      exact ih_37 (upd (upd (upd (upd f ((4 * ((w * y) + x)) + 0) (nI (((w * y) + x) - 1))) ((4 * ((w * y) + x)) + 1) (nI (((w * y) + x) - w))) ((4 * ((w * y) + x)) + 2) (nI (((w * y) + x) + 1))) ((4 * ((w * y) + x)) + 3) (-1)) (x + 1) (by omega) e9 _ _ _ hP hS (lv_sub hl [2, 3, 4, 5, 0] rfl)
                    · refine lv_iload hx hb d_A_init_142 (lv_at hl 0 rfl) ?_
                      refine lv_iload_n hx hb d_A_init_144 rfl (lv_at hl 2 rfl) ?_
                      refine rw_add hx hb d_A_init_145 ?_
                      refine lv_goto (tgt := 150) hx hb d_A_init_146 (by decide) ?_
                      refine rw_iast (h := (upd (upd (upd (upd f ((4 * ((w * y) + x)) + 0) (nI (((w * y) + x) - 1))) ((4 * ((w * y) + x)) + 1) (nI (((w * y) + x) - w))) ((4 * ((w * y) + x)) + 2) (nI (((w * y) + x) + 1))) ((4 * ((w * y) + x)) + 3) (nI (((w * y) + x) + w)))) hx hb hK hP hD hS 1 0 rfl rfl (by omega) (by omega) (fun _ _ => rfl) d_A_init_150 (fun H locs hP hD hS => ?_)
                      have hP : va_P D vwCl [(a0, .inr (1, [.ref (q10), .ref (q22)])), (q10, .inl (cI, 4 * (w * h), .inl (upd (upd (upd (upd f ((4 * ((w * y) + x)) + 0) (nI (((w * y) + x) - 1))) ((4 * ((w * y) + x)) + 1) (nI (((w * y) + x) - w))) ((4 * ((w * y) + x)) + 2) (nI (((w * y) + x) + 1))) ((4 * ((w * y) + x)) + 3) (nI (((w * y) + x) + w))))), (q22, .inl (cI, 6 * (w * h), .inl (fun _ => 0)))] H := hP
                      have hD : va_D (va_A [(a0, .inr (1, [.null, .null]))] sz) [(a0, .inr (1, [.ref (q10), .ref (q22)])), (q10, .inl (cI, 4 * (w * h), .inl (upd (upd (upd (upd f ((4 * ((w * y) + x)) + 0) (nI (((w * y) + x) - 1))) ((4 * ((w * y) + x)) + 1) (nI (((w * y) + x) - w))) ((4 * ((w * y) + x)) + 2) (nI (((w * y) + x) + 1))) ((4 * ((w * y) + x)) + 3) (nI (((w * y) + x) + w))))), (q22, .inl (cI, 6 * (w * h), .inl (fun _ => 0)))] := hD
                      refine lv_iinc (v := (nI (x + 1))) (lv' := [(4, .int (nI (x + 1))), (5, .int (nI ((w * y) + x))), (0, .ref (a0)), (1, .int (nI (w))), (2, .int (nI (h))), (3, .int (nI (y)))]) hx hb d_A_init_151 hl (k := 5) rfl (nI_add _ _) (by decide) rfl (fun ls hl => ?_)
                      refine lv_goto (tgt := 37) hx hb d_A_init_154 (by decide) ?_
                      have e9 := rt_four (w := w) (h := h) (y := y) (x := x) (f := f) hI (by first | exact rt_v0n (by omega) c_63 | exact rt_v0s (by omega) c_63) (by first | exact rt_v1n (by omega) c_86 | exact rt_v1s (by omega) c_86) (by first | exact rt_v2n (by omega) c_113 | exact rt_v2s (by omega) c_113) (by first | exact rt_v3n (by omega) c_139 | exact rt_v3s (by omega) c_139)
                      exact ih_37 (upd (upd (upd (upd f ((4 * ((w * y) + x)) + 0) (nI (((w * y) + x) - 1))) ((4 * ((w * y) + x)) + 1) (nI (((w * y) + x) - w))) ((4 * ((w * y) + x)) + 2) (nI (((w * y) + x) + 1))) ((4 * ((w * y) + x)) + 3) (nI (((w * y) + x) + w))) (x + 1) (by omega) e9 _ _ _ hP hS (lv_sub hl [2, 3, 4, 5, 0] rfl)
        exact LP_37 w f 0 (by omega) hO _ _ _ hP hS (lv_sub hl [1, 2, 3, 4, 0] rfl)
  exact LP_29 h (fun _ => 0) 0 (by omega) (fun j hj => by omega) _ _ _ hP hS (lv_sub hl [1, 2, 3, 0] rfl)

set_option maxHeartbeats 4000000 in
set_option maxRecDepth 100000 in
theorem c_S_init (l : Launch) (D : va_G) (cI cZ : ClassId) (sz : Nat) (a0 n : Nat) (hn : n ≤ 400) : Met l y_S_init (.code y_S_init b_S_init 2 none :: tG) ({ frames := 2, cells := 5, slots := 11206, locals := 51 }) (va_Pc [.ref (a0), .int (nI (n))] (kU D cI cZ sz [(a0, .inr (2, [.null, .null, .null, .int 0, .int 0]))])) (va_Qv (S := (Nat × Nat × Nat × Nat × Nat)) (fun _ => True) (kB D (va_A [(a0, .inr (2, [.null, .null, .null, .int 0, .int 0]))] sz) (fun (u : (Nat × Nat × Nat × Nat × Nat)) => [(a0, .inr (2, [.ref u.1, .ref u.2.1, .ref u.2.2.2.1, .int (-1), .int 0])), (u.1, .inl (cI, 12 * n, .inl (fun _ => 0))), (u.2.1, .inr (0, [.ref u.2.2.1, .int 0, .int 0])), (u.2.2.1, .inl (cI, 4 * n, .inl (fun _ => 0))), (u.2.2.2.1, .inr (0, [.ref u.2.2.2.2, .int 0, .int 0])), (u.2.2.2.2, .inl (cI, 8 * n, .inl (fun _ => 0)))])) (va_A [(a0, .inr (2, [.null, .null, .null, .int 0, .int 0]))] sz)) 5 11206 (va_A [(a0, .inr (2, [.null, .null, .null, .int 0, .int 0]))] sz) := by
  refine Met.ofW (cc := b_S_init) (maxL := 2) (ret := none) (by decide) rfl ?_
  intro p e s m args below meth c s₁ BD9 hml hv
  obtain ⟨rfl, hP, hK, hsz⟩ := hv
  have hx := BD9.exec
  have hb := BD9.bytes
  have hr := BD9.returns
  have hin : meth.name = "<init>" := (name_of_methodNamed BD9.named BD9.method).1
  have hts : ∀ w ∈ tG, w.before _ s = true := fun w hw => atoms_spec (ws := .code y_S_init b_S_init 2 none :: tG) BD9.pre w (List.mem_cons_of_mem _ hw)
  have hown : s.vm.findClass rn_S = some m.cls := findClass_of_methodNamed BD9.named
  have hlocks := BD9.notSynchronized
  have hS : va_S (va_A [(a0, .inr (2, [.null, .null, .null, .int 0, .int 0]))] sz) s.heap s.heap [] := va_S.rf
  have hD : va_D (va_A [(a0, .inr (2, [.null, .null, .null, .int 0, .int 0]))] sz) [(a0, .inr (2, [.null, .null, .null, .int 0, .int 0]))] := k_D1 _ _ _
  have hA : ∀ q, s.heap.size ≤ q → (va_A [(a0, .inr (2, [.null, .null, .null, .int 0, .int 0]))] sz) q := fun q h9 => Or.inr (Nat.le_trans hsz h9)
  have hP : va_P D vwCl [(a0, .inr (2, [.null, .null, .null, .int 0, .int 0]))] s.heap := hP
  have hl := lv_entry ([.ref (a0), .int (nI (n))]) (n := 2) (Nat.le_of_ble_eq_true rfl)
  rw [lg_entry_eq]
  generalize (lg_sl ([.ref (a0), .int (nI (n))]) ++ List.replicate (2 - (lg_sl ([.ref (a0), .int (nI (n))])).length) Slot.unset).toArray = ls at hl ⊢
  have hl : lv_has ls 2 [(0, .ref (a0)), (1, .int (nI (n)))] := hl
  refine lv_aload_n hx hb d_S_init_0 rfl (lv_at hl 0 rfl) ?_
  refine w_oi hx hb hml hown hts k_methodLink_rn_S_3_objectInit hl.1 d_S_init_1 ⟨Nat.le_of_ble_eq_true rfl, Nat.le_of_ble_eq_true rfl⟩ ?_
  refine lv_aload_n hx hb d_S_init_4 rfl (lv_at hl 0 rfl) ?_
  refine lv_bipush (v := (nI (12))) hx hb d_S_init_5 (by decide) ?_
  refine lv_iload_n hx hb d_S_init_7 rfl (lv_at hl 1 rfl) ?_
  refine rw_mul hx hb d_S_init_8 ?_
  refine w_newI hx hb hts hK hP hD hS hA (N := 12 * n) (by omega) 1 4800 ⟨by omega, by omega⟩ ⟨Nat.le_of_ble_eq_true rfl, Nat.le_of_ble_eq_true rfl⟩ d_S_init_9 (fun q9 H hP hD hS => ?_)
  have hP : va_P D vwCl [(a0, .inr (2, [.null, .null, .null, .int 0, .int 0])), (q9, .inl (cI, 12 * n, .inl (fun _ => 0)))] H := hP
  have hD : va_D (va_A [(a0, .inr (2, [.null, .null, .null, .int 0, .int 0]))] sz) [(a0, .inr (2, [.null, .null, .null, .int 0, .int 0])), (q9, .inl (cI, 12 * n, .inl (fun _ => 0)))] := hD
  refine va_putF (D := D) (ci := 2) (v := .ref (q9)) (ty := .array .int) (C := rn_S) (T := tf_S) (N := 5) hx hb hts in_S tt_S tt_S_ok nm_S hown hK hP hD hS 0 rfl rfl 0 (by decide) (hts _ k_fieldLink_rn_S_11_rn_S_found_I) (fun _ h9 => h9) rfl hin rfl (by decide +kernel) rfl rfl (Nat.le_of_ble_eq_true rfl) d_S_init_11 (fun H locs hP hD hS => ?_)
  have hP : va_P D vwCl [(a0, .inr (2, [.ref (q9), .null, .null, .int 0, .int 0])), (q9, .inl (cI, 12 * n, .inl (fun _ => 0)))] H := hP
  have hD : va_D (va_A [(a0, .inr (2, [.null, .null, .null, .int 0, .int 0]))] sz) [(a0, .inr (2, [.ref (q9), .null, .null, .int 0, .int 0])), (q9, .inl (cI, 12 * n, .inl (fun _ => 0)))] := hD
  refine lv_aload_n hx hb d_S_init_14 rfl (lv_at hl 0 rfl) ?_
  refine va_new (ci := 0) (fs := [.null, .int 0, .int 0]) (C := rn_Q) (T := tf_Q) (N := 3) hx hb hts in_Q tt_Q tt_Q_ok hown (hts _ k_classLink_rn_S_17_rn_Q) (hts _ k_instantiable_rn_Q_3) (hts _ k_initialized_rn_Q) hK hP hD hS hA rfl (fun j hj => by rcases (show j = 0 ∨ j = 1 ∨ j = 2 by omega) with rfl | rfl | rfl <;> rfl) (Nat.le_of_ble_eq_true rfl) (Nat.le_of_ble_eq_true rfl) d_S_init_15 (fun q15 H hP hD hS => ?_)
  have hP : va_P D vwCl [(a0, .inr (2, [.ref (q9), .null, .null, .int 0, .int 0])), (q9, .inl (cI, 12 * n, .inl (fun _ => 0))), (q15, .inr (0, [.null, .int 0, .int 0]))] H := hP
  have hD : va_D (va_A [(a0, .inr (2, [.null, .null, .null, .int 0, .int 0]))] sz) [(a0, .inr (2, [.ref (q9), .null, .null, .int 0, .int 0])), (q9, .inl (cI, 12 * n, .inl (fun _ => 0))), (q15, .inr (0, [.null, .int 0, .int 0]))] := hD
  refine lv_dup hx hb d_S_init_18 rfl ?_
  refine lv_iconst (v := (nI (4))) hx hb d_S_init_19 (by decide) ?_
  refine lv_iload_n hx hb d_S_init_20 rfl (lv_at hl 1 rfl) ?_
  refine rw_mul hx hb d_S_init_21 ?_
  refine w_ctor (As := [.int (nI (4 * n))]) (rest := [.ref (q15), .ref (a0)]) (wc := [(q15, .inr (0, [.null, .int 0, .int 0]))]) (wr := [(a0, .inr (2, [.ref (q9), .null, .null, .int 0, .int 0])), (q9, .inl (cI, 12 * n, .inl (fun _ => 0)))]) ⟨hx, hb, hml, hown, hts⟩ (c_Q_init l D cI cZ H.size q15 (4 * n) (by omega)) (cwI 1 hts (t_g k_code_y_Q_init_prog_2_method_1_code_2_none) rfl rfl rfl (hts _ k_initialized_rn_Q) (hts _ k_methodLink_rn_S_19_y_Q_init) (hts _ k_instanceMethod_y_Q_init) rfl (by decide +kernel) ⟨Nat.le_of_ble_eq_true rfl, Nat.le_of_ble_eq_true rfl⟩) hK hP hD hS hA [2] [0, 1] rfl rfl rfl (by decide) (by decide) rfl hl.1 rfl (Nat.le_of_ble_eq_true rfl) d_S_init_22 ⟨Nat.le_of_ble_eq_true rfl, Nat.le_of_ble_eq_true rfl⟩ (fun u_22 H locs hw hP hD hS => ?_)
  have hP : va_P D vwCl [(a0, .inr (2, [.ref (q9), .null, .null, .int 0, .int 0])), (q9, .inl (cI, 12 * n, .inl (fun _ => 0))), (q15, .inr (0, [.ref (u_22), .int 0, .int 0])), (u_22, .inl (cI, 4 * n, .inl (fun _ => 0)))] H := hP
  have hD : va_D (va_A [(a0, .inr (2, [.null, .null, .null, .int 0, .int 0]))] sz) [(a0, .inr (2, [.ref (q9), .null, .null, .int 0, .int 0])), (q9, .inl (cI, 12 * n, .inl (fun _ => 0))), (q15, .inr (0, [.ref (u_22), .int 0, .int 0])), (u_22, .inl (cI, 4 * n, .inl (fun _ => 0)))] := hD
  refine va_putF (D := D) (ci := 2) (v := .ref (q15)) (ty := .object "RouteTracks$Queue") (C := rn_S) (T := tf_S) (N := 5) hx hb hts in_S tt_S tt_S_ok nm_S hown hK hP hD hS 0 rfl rfl 1 (by decide) (hts _ k_fieldLink_rn_S_22_rn_S_straights_LRouteTracks_Queue) (fun _ h9 => h9) rfl hin rfl (by decide +kernel) rfl rfl (Nat.le_of_ble_eq_true rfl) d_S_init_25 (fun H locs hP hD hS => ?_)
  have hP : va_P D vwCl [(a0, .inr (2, [.ref (q9), .ref (q15), .null, .int 0, .int 0])), (q9, .inl (cI, 12 * n, .inl (fun _ => 0))), (q15, .inr (0, [.ref (u_22), .int 0, .int 0])), (u_22, .inl (cI, 4 * n, .inl (fun _ => 0)))] H := hP
  have hD : va_D (va_A [(a0, .inr (2, [.null, .null, .null, .int 0, .int 0]))] sz) [(a0, .inr (2, [.ref (q9), .ref (q15), .null, .int 0, .int 0])), (q9, .inl (cI, 12 * n, .inl (fun _ => 0))), (q15, .inr (0, [.ref (u_22), .int 0, .int 0])), (u_22, .inl (cI, 4 * n, .inl (fun _ => 0)))] := hD
  refine lv_aload_n hx hb d_S_init_28 rfl (lv_at hl 0 rfl) ?_
  refine va_new (ci := 0) (fs := [.null, .int 0, .int 0]) (C := rn_Q) (T := tf_Q) (N := 3) hx hb hts in_Q tt_Q tt_Q_ok hown (hts _ k_classLink_rn_S_17_rn_Q) (hts _ k_instantiable_rn_Q_3) (hts _ k_initialized_rn_Q) hK hP hD hS hA rfl (fun j hj => by rcases (show j = 0 ∨ j = 1 ∨ j = 2 by omega) with rfl | rfl | rfl <;> rfl) (Nat.le_of_ble_eq_true rfl) (Nat.le_of_ble_eq_true rfl) d_S_init_29 (fun q29 H hP hD hS => ?_)
  have hP : va_P D vwCl [(a0, .inr (2, [.ref (q9), .ref (q15), .null, .int 0, .int 0])), (q9, .inl (cI, 12 * n, .inl (fun _ => 0))), (q15, .inr (0, [.ref (u_22), .int 0, .int 0])), (u_22, .inl (cI, 4 * n, .inl (fun _ => 0))), (q29, .inr (0, [.null, .int 0, .int 0]))] H := hP
  have hD : va_D (va_A [(a0, .inr (2, [.null, .null, .null, .int 0, .int 0]))] sz) [(a0, .inr (2, [.ref (q9), .ref (q15), .null, .int 0, .int 0])), (q9, .inl (cI, 12 * n, .inl (fun _ => 0))), (q15, .inr (0, [.ref (u_22), .int 0, .int 0])), (u_22, .inl (cI, 4 * n, .inl (fun _ => 0))), (q29, .inr (0, [.null, .int 0, .int 0]))] := hD
  refine lv_dup hx hb d_S_init_32 rfl ?_
  refine lv_bipush (v := (nI (8))) hx hb d_S_init_33 (by decide) ?_
  refine lv_iload_n hx hb d_S_init_35 rfl (lv_at hl 1 rfl) ?_
  refine rw_mul hx hb d_S_init_36 ?_
  refine w_ctor (As := [.int (nI (8 * n))]) (rest := [.ref (q29), .ref (a0)]) (wc := [(q29, .inr (0, [.null, .int 0, .int 0]))]) (wr := [(a0, .inr (2, [.ref (q9), .ref (q15), .null, .int 0, .int 0])), (q9, .inl (cI, 12 * n, .inl (fun _ => 0))), (q15, .inr (0, [.ref (u_22), .int 0, .int 0])), (u_22, .inl (cI, 4 * n, .inl (fun _ => 0)))]) ⟨hx, hb, hml, hown, hts⟩ (c_Q_init l D cI cZ H.size q29 (8 * n) (by omega)) (cwI 1 hts (t_g k_code_y_Q_init_prog_2_method_1_code_2_none) rfl rfl rfl (hts _ k_initialized_rn_Q) (hts _ k_methodLink_rn_S_19_y_Q_init) (hts _ k_instanceMethod_y_Q_init) rfl (by decide +kernel) ⟨Nat.le_of_ble_eq_true rfl, Nat.le_of_ble_eq_true rfl⟩) hK hP hD hS hA [4] [0, 1, 2, 3] rfl rfl rfl (by decide) (by decide) rfl hl.1 rfl (Nat.le_of_ble_eq_true rfl) d_S_init_37 ⟨Nat.le_of_ble_eq_true rfl, Nat.le_of_ble_eq_true rfl⟩ (fun u_37 H locs hw hP hD hS => ?_)
  have hP : va_P D vwCl [(a0, .inr (2, [.ref (q9), .ref (q15), .null, .int 0, .int 0])), (q9, .inl (cI, 12 * n, .inl (fun _ => 0))), (q15, .inr (0, [.ref (u_22), .int 0, .int 0])), (u_22, .inl (cI, 4 * n, .inl (fun _ => 0))), (q29, .inr (0, [.ref (u_37), .int 0, .int 0])), (u_37, .inl (cI, 8 * n, .inl (fun _ => 0)))] H := hP
  have hD : va_D (va_A [(a0, .inr (2, [.null, .null, .null, .int 0, .int 0]))] sz) [(a0, .inr (2, [.ref (q9), .ref (q15), .null, .int 0, .int 0])), (q9, .inl (cI, 12 * n, .inl (fun _ => 0))), (q15, .inr (0, [.ref (u_22), .int 0, .int 0])), (u_22, .inl (cI, 4 * n, .inl (fun _ => 0))), (q29, .inr (0, [.ref (u_37), .int 0, .int 0])), (u_37, .inl (cI, 8 * n, .inl (fun _ => 0)))] := hD
  refine va_putF (D := D) (ci := 2) (v := .ref (q29)) (ty := .object "RouteTracks$Queue") (C := rn_S) (T := tf_S) (N := 5) hx hb hts in_S tt_S tt_S_ok nm_S hown hK hP hD hS 0 rfl rfl 2 (by decide) (hts _ k_fieldLink_rn_S_26_rn_S_curves_LRouteTracks_Queue) (fun _ h9 => h9) rfl hin rfl (by decide +kernel) rfl rfl (Nat.le_of_ble_eq_true rfl) d_S_init_40 (fun H locs hP hD hS => ?_)
  have hP : va_P D vwCl [(a0, .inr (2, [.ref (q9), .ref (q15), .ref (q29), .int 0, .int 0])), (q9, .inl (cI, 12 * n, .inl (fun _ => 0))), (q15, .inr (0, [.ref (u_22), .int 0, .int 0])), (u_22, .inl (cI, 4 * n, .inl (fun _ => 0))), (q29, .inr (0, [.ref (u_37), .int 0, .int 0])), (u_37, .inl (cI, 8 * n, .inl (fun _ => 0)))] H := hP
  have hD : va_D (va_A [(a0, .inr (2, [.null, .null, .null, .int 0, .int 0]))] sz) [(a0, .inr (2, [.ref (q9), .ref (q15), .ref (q29), .int 0, .int 0])), (q9, .inl (cI, 12 * n, .inl (fun _ => 0))), (q15, .inr (0, [.ref (u_22), .int 0, .int 0])), (u_22, .inl (cI, 4 * n, .inl (fun _ => 0))), (q29, .inr (0, [.ref (u_37), .int 0, .int 0])), (u_37, .inl (cI, 8 * n, .inl (fun _ => 0)))] := hD
  refine lv_aload_n hx hb d_S_init_43 rfl (lv_at hl 0 rfl) ?_
  refine lv_iconst (v := (-1)) hx hb d_S_init_44 (by decide) ?_
  refine va_put (D := D) (ci := 2) (v := .int (-1)) (ty := .int) (C := rn_S) (T := tf_S) (N := 5) hx hb hts in_S tt_S tt_S_ok nm_S hown hK hP hD hS 0 rfl rfl 3 (by decide) (hts _ k_fieldLink_rn_S_29_rn_S_held_I) (fun _ h9 => h9) rfl (by decide +kernel) rfl rfl (Nat.le_of_ble_eq_true rfl) d_S_init_45 (fun H locs hP hD hS => ?_)
  have hP : va_P D vwCl [(a0, .inr (2, [.ref (q9), .ref (q15), .ref (q29), .int (-1), .int 0])), (q9, .inl (cI, 12 * n, .inl (fun _ => 0))), (q15, .inr (0, [.ref (u_22), .int 0, .int 0])), (u_22, .inl (cI, 4 * n, .inl (fun _ => 0))), (q29, .inr (0, [.ref (u_37), .int 0, .int 0])), (u_37, .inl (cI, 8 * n, .inl (fun _ => 0)))] H := hP
  have hD : va_D (va_A [(a0, .inr (2, [.null, .null, .null, .int 0, .int 0]))] sz) [(a0, .inr (2, [.ref (q9), .ref (q15), .ref (q29), .int (-1), .int 0])), (q9, .inl (cI, 12 * n, .inl (fun _ => 0))), (q15, .inr (0, [.ref (u_22), .int 0, .int 0])), (u_22, .inl (cI, 4 * n, .inl (fun _ => 0))), (q29, .inr (0, [.ref (u_37), .int 0, .int 0])), (u_37, .inl (cI, 8 * n, .inl (fun _ => 0)))] := hD
  exact w_kret (q9, q15, u_22, q29, u_37) hx hb hr hlocks hS hP hD (trivial) d_S_init_48 ⟨Nat.le_of_ble_eq_true rfl, Nat.le_of_ble_eq_true rfl⟩

set_option maxHeartbeats 4000000 in
set_option maxRecDepth 100000 in
theorem c_R_init (l : Launch) (D : va_G) (cI cZ : ClassId) (sz : Nat) (a0 : Nat) (x y : Int32)  : Met l y_R_init (.code y_R_init b_R_init 5 none :: tG) ({ frames := 3, cells := 9, slots := 15213, locals := 72 }) (va_Pc [.ref (a0), .int (x), .int (y)] (kU D cI cZ sz [(a0, .inr (3, [.null, .null]))])) (va_Qv (S := (Nat → Nat)) (fun u => u 0 = a0) (kB D (va_A [(a0, .inr (3, [.null, .null]))] sz) (fun (u : (Nat → Nat)) => xw cI u (rt_sd x) (rt_sd y) (fun _ => 0) (fun _ => 0) (-1) 0 (fun _ => 0) 0 0 (fun _ => 0) 0 0)) (va_A [(a0, .inr (3, [.null, .null]))] sz)) 9 15213 (va_A [(a0, .inr (3, [.null, .null]))] sz) := by
  refine Met.ofW (cc := b_R_init) (maxL := 5) (ret := none) (by decide) rfl ?_
  intro p e s m args below meth c s₁ BD9 hml hv
  obtain ⟨rfl, hP, hK, hsz⟩ := hv
  have hx := BD9.exec
  have hb := BD9.bytes
  have hr := BD9.returns
  have hin : meth.name = "<init>" := (name_of_methodNamed BD9.named BD9.method).1
  have hts : ∀ w ∈ tG, w.before _ s = true := fun w hw => atoms_spec (ws := .code y_R_init b_R_init 5 none :: tG) BD9.pre w (List.mem_cons_of_mem _ hw)
  have hown : s.vm.findClass rn_R = some m.cls := findClass_of_methodNamed BD9.named
  have hlocks := BD9.notSynchronized
  have hS : va_S (va_A [(a0, .inr (3, [.null, .null]))] sz) s.heap s.heap [] := va_S.rf
  have hD : va_D (va_A [(a0, .inr (3, [.null, .null]))] sz) [(a0, .inr (3, [.null, .null]))] := k_D1 _ _ _
  have hA : ∀ q, s.heap.size ≤ q → (va_A [(a0, .inr (3, [.null, .null]))] sz) q := fun q h9 => Or.inr (Nat.le_trans hsz h9)
  have hP : va_P D vwCl [(a0, .inr (3, [.null, .null]))] s.heap := hP
  have hl := lv_entry ([.ref (a0), .int (x), .int (y)]) (n := 5) (Nat.le_of_ble_eq_true rfl)
  rw [lg_entry_eq]
  generalize (lg_sl ([.ref (a0), .int (x), .int (y)]) ++ List.replicate (5 - (lg_sl ([.ref (a0), .int (x), .int (y)])).length) Slot.unset).toArray = ls at hl ⊢
  have hl : lv_has ls 5 [(0, .ref (a0)), (1, .int (x)), (2, .int (y))] := hl
  have hx1 := rt_sd_bd x
  have hy1 := rt_sd_bd y
  have hn : rt_sd x * rt_sd y ≤ 400 := Nat.mul_le_mul hx1.2 hy1.2
  refine lv_aload_n hx hb d_R_init_0 rfl (lv_at hl 0 rfl) ?_
  refine w_oi hx hb hml hown hts k_methodLink_rn_R_1_objectInit hl.1 d_R_init_1 ⟨Nat.le_of_ble_eq_true rfl, Nat.le_of_ble_eq_true rfl⟩ ?_
  refine lv_iload_n hx hb d_R_init_4 rfl (lv_at hl 1 rfl) ?_
  refine w_s0 (As := [.int x]) (rest := []) ⟨hx, hb, hml, hown, hts⟩ (c_R_sideWithin l x) (fun _ _ _ _ h9 => h9) (fun _ _ _ => trivial) (va_cwS 1 hts (t_gS k_methodLink_rn_R_7_y_R_sideWithin k_static_y_R_sideWithin k_initialized_rn_R k_code_y_R_sideWithin_prog_1_method_15_code_1_some_int) rfl rfl rfl (by decide +kernel) ⟨Nat.le_of_ble_eq_true rfl, Nat.le_of_ble_eq_true rfl⟩) hP hS rfl hl.1 rfl (Nat.le_of_ble_eq_true rfl) d_R_init_5 ⟨Nat.le_of_ble_eq_true rfl, Nat.le_of_ble_eq_true rfl⟩ (fun r H locs hw hP hS => ?_)
  subst hw
  refine lv_istore_n (lv' := [(3, .int (nI (rt_sd x))), (0, .ref (a0)), (1, .int (x)), (2, .int (y))]) hx hb d_R_init_8 rfl hl (by decide) rfl (fun ls hl => ?_)
  refine lv_iload_n hx hb d_R_init_9 rfl (lv_at hl 3 rfl) ?_
  refine w_s0 (As := [.int y]) (rest := []) ⟨hx, hb, hml, hown, hts⟩ (c_R_sideWithin l y) (fun _ _ _ _ h9 => h9) (fun _ _ _ => trivial) (va_cwS 1 hts (t_gS k_methodLink_rn_R_7_y_R_sideWithin k_static_y_R_sideWithin k_initialized_rn_R k_code_y_R_sideWithin_prog_1_method_15_code_1_some_int) rfl rfl rfl (by decide +kernel) ⟨Nat.le_of_ble_eq_true rfl, Nat.le_of_ble_eq_true rfl⟩) hP hS rfl hl.1 rfl (Nat.le_of_ble_eq_true rfl) d_R_init_10 ⟨Nat.le_of_ble_eq_true rfl, Nat.le_of_ble_eq_true rfl⟩ (fun r H locs hw hP hS => ?_)
  subst hw
  refine lv_istore (lv' := [(4, .int (nI (rt_sd y))), (3, .int (nI (rt_sd x))), (0, .ref (a0)), (1, .int (x)), (2, .int (y))]) hx hb d_R_init_13 hl (by decide) rfl (fun ls hl => ?_)
  refine lv_aload_n hx hb d_R_init_15 rfl (lv_at hl 2 rfl) ?_
  refine va_new (ci := 1) (fs := [.null, .null]) (C := rn_A) (T := tf_A) (N := 2) hx hb hts in_A tt_A tt_A_ok hown (hts _ k_classLink_rn_R_13_rn_A) (hts _ k_instantiable_rn_A_2) (hts _ k_initialized_rn_A) hK hP hD hS hA rfl (fun j hj => by rcases (show j = 0 ∨ j = 1 by omega) with rfl | rfl <;> rfl) (Nat.le_of_ble_eq_true rfl) (Nat.le_of_ble_eq_true rfl) d_R_init_16 (fun q16 H hP hD hS => ?_)
  have hP : va_P D vwCl [(a0, .inr (3, [.null, .null])), (q16, .inr (1, [.null, .null]))] H := hP
  have hD : va_D (va_A [(a0, .inr (3, [.null, .null]))] sz) [(a0, .inr (3, [.null, .null])), (q16, .inr (1, [.null, .null]))] := hD
  refine lv_dup hx hb d_R_init_19 rfl ?_
  refine lv_iload_n hx hb d_R_init_20 rfl (lv_at hl 1 rfl) ?_
  refine lv_iload hx hb d_R_init_21 (lv_at hl 0 rfl) ?_
  refine w_ctor (As := [.int (nI (rt_sd x)), .int (nI (rt_sd y))]) (rest := [.ref (q16), .ref (a0)]) (wc := [(q16, .inr (1, [.null, .null]))]) (wr := [(a0, .inr (3, [.null, .null]))]) ⟨hx, hb, hml, hown, hts⟩ (c_A_init l D cI cZ H.size q16 (rt_sd x) (rt_sd y) hx1 hy1) (cwI 2 hts (t_g k_code_y_A_init_prog_3_method_1_code_6_none) rfl rfl rfl (hts _ k_initialized_rn_A) (hts _ k_methodLink_rn_R_15_y_A_init) (hts _ k_instanceMethod_y_A_init) rfl (by decide +kernel) ⟨Nat.le_of_ble_eq_true rfl, Nat.le_of_ble_eq_true rfl⟩) hK hP hD hS hA [1] [0] rfl rfl rfl (by decide) (by decide) rfl hl.1 rfl (Nat.le_of_ble_eq_true rfl) d_R_init_23 ⟨Nat.le_of_ble_eq_true rfl, Nat.le_of_ble_eq_true rfl⟩ (fun u_23 H locs hw hP hD hS => ?_)
  have hP : va_P D vwCl [(a0, .inr (3, [.null, .null])), (q16, .inr (1, [.ref (u_23.1), .ref (u_23.2)])), (u_23.1, .inl (cI, 4 * (rt_sd x * rt_sd y), .inl (fun j => rt_o (rt_nb (rt_sd x) (rt_sd y) (j / 4) (j % 4))))), (u_23.2, .inl (cI, 6 * (rt_sd x * rt_sd y), .inl (fun _ => 0)))] H := hP
  have hD : va_D (va_A [(a0, .inr (3, [.null, .null]))] sz) [(a0, .inr (3, [.null, .null])), (q16, .inr (1, [.ref (u_23.1), .ref (u_23.2)])), (u_23.1, .inl (cI, 4 * (rt_sd x * rt_sd y), .inl (fun j => rt_o (rt_nb (rt_sd x) (rt_sd y) (j / 4) (j % 4))))), (u_23.2, .inl (cI, 6 * (rt_sd x * rt_sd y), .inl (fun _ => 0)))] := hD
  refine va_putF (D := D) (ci := 3) (v := .ref (q16)) (ty := .object "RouteTracks$Rails") (C := rn_R) (T := tf_R) (N := 2) hx hb hts in_R tt_R tt_R_ok nm_R hown hK hP hD hS 0 rfl rfl 0 (by decide) (hts _ k_fieldLink_rn_R_18_rn_R_rails_LRouteTracks_Rails) (fun _ h9 => h9) rfl hin rfl (by decide +kernel) rfl rfl (Nat.le_of_ble_eq_true rfl) d_R_init_26 (fun H locs hP hD hS => ?_)
  have hP : va_P D vwCl [(a0, .inr (3, [.ref (q16), .null])), (q16, .inr (1, [.ref (u_23.1), .ref (u_23.2)])), (u_23.1, .inl (cI, 4 * (rt_sd x * rt_sd y), .inl (fun j => rt_o (rt_nb (rt_sd x) (rt_sd y) (j / 4) (j % 4))))), (u_23.2, .inl (cI, 6 * (rt_sd x * rt_sd y), .inl (fun _ => 0)))] H := hP
  have hD : va_D (va_A [(a0, .inr (3, [.null, .null]))] sz) [(a0, .inr (3, [.ref (q16), .null])), (q16, .inr (1, [.ref (u_23.1), .ref (u_23.2)])), (u_23.1, .inl (cI, 4 * (rt_sd x * rt_sd y), .inl (fun j => rt_o (rt_nb (rt_sd x) (rt_sd y) (j / 4) (j % 4))))), (u_23.2, .inl (cI, 6 * (rt_sd x * rt_sd y), .inl (fun _ => 0)))] := hD
  refine lv_aload_n hx hb d_R_init_29 rfl (lv_at hl 2 rfl) ?_
  refine va_new (ci := 2) (fs := [.null, .null, .null, .int 0, .int 0]) (C := rn_S) (T := tf_S) (N := 5) hx hb hts in_S tt_S tt_S_ok hown (hts _ k_classLink_rn_R_22_rn_S) (hts _ k_instantiable_rn_S_5) (hts _ k_initialized_rn_S) hK hP hD hS hA rfl (fun j hj => by rcases (show j = 0 ∨ j = 1 ∨ j = 2 ∨ j = 3 ∨ j = 4 by omega) with rfl | rfl | rfl | rfl | rfl <;> rfl) (Nat.le_of_ble_eq_true rfl) (Nat.le_of_ble_eq_true rfl) d_R_init_30 (fun q30 H hP hD hS => ?_)
  have hP : va_P D vwCl [(a0, .inr (3, [.ref (q16), .null])), (q16, .inr (1, [.ref (u_23.1), .ref (u_23.2)])), (u_23.1, .inl (cI, 4 * (rt_sd x * rt_sd y), .inl (fun j => rt_o (rt_nb (rt_sd x) (rt_sd y) (j / 4) (j % 4))))), (u_23.2, .inl (cI, 6 * (rt_sd x * rt_sd y), .inl (fun _ => 0))), (q30, .inr (2, [.null, .null, .null, .int 0, .int 0]))] H := hP
  have hD : va_D (va_A [(a0, .inr (3, [.null, .null]))] sz) [(a0, .inr (3, [.ref (q16), .null])), (q16, .inr (1, [.ref (u_23.1), .ref (u_23.2)])), (u_23.1, .inl (cI, 4 * (rt_sd x * rt_sd y), .inl (fun j => rt_o (rt_nb (rt_sd x) (rt_sd y) (j / 4) (j % 4))))), (u_23.2, .inl (cI, 6 * (rt_sd x * rt_sd y), .inl (fun _ => 0))), (q30, .inr (2, [.null, .null, .null, .int 0, .int 0]))] := hD
  refine lv_dup hx hb d_R_init_33 rfl ?_
  refine lv_iload_n hx hb d_R_init_34 rfl (lv_at hl 1 rfl) ?_
  refine lv_iload hx hb d_R_init_35 (lv_at hl 0 rfl) ?_
  refine rw_mul hx hb d_R_init_37 ?_
  refine w_ctor (As := [.int (nI ((rt_sd x) * (rt_sd y)))]) (rest := [.ref (q30), .ref (a0)]) (wc := [(q30, .inr (2, [.null, .null, .null, .int 0, .int 0]))]) (wr := [(a0, .inr (3, [.ref (q16), .null])), (q16, .inr (1, [.ref (u_23.1), .ref (u_23.2)])), (u_23.1, .inl (cI, 4 * (rt_sd x * rt_sd y), .inl (fun j => rt_o (rt_nb (rt_sd x) (rt_sd y) (j / 4) (j % 4))))), (u_23.2, .inl (cI, 6 * (rt_sd x * rt_sd y), .inl (fun _ => 0)))]) ⟨hx, hb, hml, hown, hts⟩ (c_S_init l D cI cZ H.size q30 (rt_sd x * rt_sd y) hn) (cwI 1 hts (t_g k_code_y_S_init_prog_4_method_1_code_2_none) rfl rfl rfl (hts _ k_initialized_rn_S) (hts _ k_methodLink_rn_R_24_y_S_init) (hts _ k_instanceMethod_y_S_init) rfl (by decide +kernel) ⟨Nat.le_of_ble_eq_true rfl, Nat.le_of_ble_eq_true rfl⟩) hK hP hD hS hA [4] [0, 1, 2, 3] rfl rfl rfl (by decide) (by decide) rfl hl.1 rfl (Nat.le_of_ble_eq_true rfl) d_R_init_38 ⟨Nat.le_of_ble_eq_true rfl, Nat.le_of_ble_eq_true rfl⟩ (fun u_38 H locs hw hP hD hS => ?_)
  have hP : va_P D vwCl [(a0, .inr (3, [.ref (q16), .null])), (q16, .inr (1, [.ref (u_23.1), .ref (u_23.2)])), (u_23.1, .inl (cI, 4 * (rt_sd x * rt_sd y), .inl (fun j => rt_o (rt_nb (rt_sd x) (rt_sd y) (j / 4) (j % 4))))), (u_23.2, .inl (cI, 6 * (rt_sd x * rt_sd y), .inl (fun _ => 0))), (q30, .inr (2, [.ref (u_38.1), .ref (u_38.2.1), .ref (u_38.2.2.2.1), .int (-1), .int 0])), (u_38.1, .inl (cI, 12 * (rt_sd x * rt_sd y), .inl (fun _ => 0))), (u_38.2.1, .inr (0, [.ref (u_38.2.2.1), .int 0, .int 0])), (u_38.2.2.1, .inl (cI, 4 * (rt_sd x * rt_sd y), .inl (fun _ => 0))), (u_38.2.2.2.1, .inr (0, [.ref (u_38.2.2.2.2), .int 0, .int 0])), (u_38.2.2.2.2, .inl (cI, 8 * (rt_sd x * rt_sd y), .inl (fun _ => 0)))] H := hP
  have hD : va_D (va_A [(a0, .inr (3, [.null, .null]))] sz) [(a0, .inr (3, [.ref (q16), .null])), (q16, .inr (1, [.ref (u_23.1), .ref (u_23.2)])), (u_23.1, .inl (cI, 4 * (rt_sd x * rt_sd y), .inl (fun j => rt_o (rt_nb (rt_sd x) (rt_sd y) (j / 4) (j % 4))))), (u_23.2, .inl (cI, 6 * (rt_sd x * rt_sd y), .inl (fun _ => 0))), (q30, .inr (2, [.ref (u_38.1), .ref (u_38.2.1), .ref (u_38.2.2.2.1), .int (-1), .int 0])), (u_38.1, .inl (cI, 12 * (rt_sd x * rt_sd y), .inl (fun _ => 0))), (u_38.2.1, .inr (0, [.ref (u_38.2.2.1), .int 0, .int 0])), (u_38.2.2.1, .inl (cI, 4 * (rt_sd x * rt_sd y), .inl (fun _ => 0))), (u_38.2.2.2.1, .inr (0, [.ref (u_38.2.2.2.2), .int 0, .int 0])), (u_38.2.2.2.2, .inl (cI, 8 * (rt_sd x * rt_sd y), .inl (fun _ => 0)))] := hD
  refine va_putF (D := D) (ci := 3) (v := .ref (q30)) (ty := .object "RouteTracks$Search") (C := rn_R) (T := tf_R) (N := 2) hx hb hts in_R tt_R tt_R_ok nm_R hown hK hP hD hS 0 rfl rfl 1 (by decide) (hts _ k_fieldLink_rn_R_27_rn_R_search_LRouteTracks_Search) (fun _ h9 => h9) rfl hin rfl (by decide +kernel) rfl rfl (Nat.le_of_ble_eq_true rfl) d_R_init_41 (fun H locs hP hD hS => ?_)
  have hP : va_P D vwCl [(a0, .inr (3, [.ref (q16), .ref (q30)])), (q16, .inr (1, [.ref (u_23.1), .ref (u_23.2)])), (u_23.1, .inl (cI, 4 * (rt_sd x * rt_sd y), .inl (fun j => rt_o (rt_nb (rt_sd x) (rt_sd y) (j / 4) (j % 4))))), (u_23.2, .inl (cI, 6 * (rt_sd x * rt_sd y), .inl (fun _ => 0))), (q30, .inr (2, [.ref (u_38.1), .ref (u_38.2.1), .ref (u_38.2.2.2.1), .int (-1), .int 0])), (u_38.1, .inl (cI, 12 * (rt_sd x * rt_sd y), .inl (fun _ => 0))), (u_38.2.1, .inr (0, [.ref (u_38.2.2.1), .int 0, .int 0])), (u_38.2.2.1, .inl (cI, 4 * (rt_sd x * rt_sd y), .inl (fun _ => 0))), (u_38.2.2.2.1, .inr (0, [.ref (u_38.2.2.2.2), .int 0, .int 0])), (u_38.2.2.2.2, .inl (cI, 8 * (rt_sd x * rt_sd y), .inl (fun _ => 0)))] H := hP
  have hD : va_D (va_A [(a0, .inr (3, [.null, .null]))] sz) [(a0, .inr (3, [.ref (q16), .ref (q30)])), (q16, .inr (1, [.ref (u_23.1), .ref (u_23.2)])), (u_23.1, .inl (cI, 4 * (rt_sd x * rt_sd y), .inl (fun j => rt_o (rt_nb (rt_sd x) (rt_sd y) (j / 4) (j % 4))))), (u_23.2, .inl (cI, 6 * (rt_sd x * rt_sd y), .inl (fun _ => 0))), (q30, .inr (2, [.ref (u_38.1), .ref (u_38.2.1), .ref (u_38.2.2.2.1), .int (-1), .int 0])), (u_38.1, .inl (cI, 12 * (rt_sd x * rt_sd y), .inl (fun _ => 0))), (u_38.2.1, .inr (0, [.ref (u_38.2.2.1), .int 0, .int 0])), (u_38.2.2.1, .inl (cI, 4 * (rt_sd x * rt_sd y), .inl (fun _ => 0))), (u_38.2.2.2.1, .inr (0, [.ref (u_38.2.2.2.2), .int 0, .int 0])), (u_38.2.2.2.2, .inl (cI, 8 * (rt_sd x * rt_sd y), .inl (fun _ => 0)))] := hD
  exact w_kret (fun i => ([a0, q16, u_23.1, u_23.2, q30, u_38.1, u_38.2.1, u_38.2.2.1, u_38.2.2.2.1, u_38.2.2.2.2] : List Nat).getD i 0) hx hb hr hlocks hS hP hD (rfl) d_R_init_44 ⟨Nat.le_of_ble_eq_true rfl, Nat.le_of_ble_eq_true rfl⟩

theorem rt_edz : ∀ j, j < 12 → (upd (upd (upd (upd (upd (upd (upd (upd (upd (upd (upd (upd (fun _ => 0) 0 (nI (0))) 1 (nI (1))) 2 (nI (2))) 3 (nI (3))) 4 (nI (2))) 5 (nI (1))) 6 (nI (3))) 7 (nI (1))) 8 (nI (3))) 9 (nI (0))) 10 (nI (2))) 11 (nI (0))) j = nI (rt_ed j) := by
  intro j hj
  have h9 : j = 0 ∨ j = 1 ∨ j = 2 ∨ j = 3 ∨ j = 4 ∨ j = 5 ∨ j = 6 ∨ j = 7 ∨ j = 8 ∨ j = 9 ∨ j = 10 ∨ j = 11 := by omega
  rcases h9 with rfl | rfl | rfl | rfl | rfl | rfl | rfl | rfl | rfl | rfl | rfl | rfl <;> rfl

set_option maxHeartbeats 4000000 in
set_option maxRecDepth 100000 in
theorem c_M_init (l : Launch) (D : va_G) (cI cZ : ClassId) (sz : Nat) (a0 : Nat) (x y : Int32)  : Met l y_M_init (.code y_M_init b_M_init 3 none :: tG) ({ frames := 1, cells := 8, slots := 19212, locals := 12 }) (va_Pc [.ref (a0), .int (x), .int (y)] (kU D cI cZ sz [(a0, .inr (4, [.null, .int 0, .int 0, .int 0, .null, .null, .null, .null, .int 0, .null, .null, .null]))])) (va_Qv (S := (Nat → Nat)) (fun u => u 0 = a0) (kB D (va_A [(a0, .inr (4, [.null, .int 0, .int 0, .int 0, .null, .null, .null, .null, .int 0, .null, .null, .null]))] sz) (fun (u : (Nat → Nat)) => mw cI cZ u (rt_sd x) (rt_sd y) (fun _ => 0) (fun _ => 0) (fun _ => 0) (fun _ => 0) 0 0 (fun _ => 0) (fun _ => 0) (fun _ => 0))) (va_A [(a0, .inr (4, [.null, .int 0, .int 0, .int 0, .null, .null, .null, .null, .int 0, .null, .null, .null]))] sz)) 8 19212 (va_A [(a0, .inr (4, [.null, .int 0, .int 0, .int 0, .null, .null, .null, .null, .int 0, .null, .null, .null]))] sz) := by
  refine Met.ofW (cc := b_M_init) (maxL := 3) (ret := none) (by decide) rfl ?_
  intro p e s m args below meth c s₁ BD9 hml hv
  obtain ⟨rfl, hP, hK, hsz⟩ := hv
  have hx := BD9.exec
  have hb := BD9.bytes
  have hr := BD9.returns
  have hin : meth.name = "<init>" := (name_of_methodNamed BD9.named BD9.method).1
  have hts : ∀ w ∈ tG, w.before _ s = true := fun w hw => atoms_spec (ws := .code y_M_init b_M_init 3 none :: tG) BD9.pre w (List.mem_cons_of_mem _ hw)
  have hown : s.vm.findClass rn_M = some m.cls := findClass_of_methodNamed BD9.named
  have hlocks := BD9.notSynchronized
  have hS : va_S (va_A [(a0, .inr (4, [.null, .int 0, .int 0, .int 0, .null, .null, .null, .null, .int 0, .null, .null, .null]))] sz) s.heap s.heap [] := va_S.rf
  have hD : va_D (va_A [(a0, .inr (4, [.null, .int 0, .int 0, .int 0, .null, .null, .null, .null, .int 0, .null, .null, .null]))] sz) [(a0, .inr (4, [.null, .int 0, .int 0, .int 0, .null, .null, .null, .null, .int 0, .null, .null, .null]))] := k_D1 _ _ _
  have hA : ∀ q, s.heap.size ≤ q → (va_A [(a0, .inr (4, [.null, .int 0, .int 0, .int 0, .null, .null, .null, .null, .int 0, .null, .null, .null]))] sz) q := fun q h9 => Or.inr (Nat.le_trans hsz h9)
  have hP : va_P D vwCl [(a0, .inr (4, [.null, .int 0, .int 0, .int 0, .null, .null, .null, .null, .int 0, .null, .null, .null]))] s.heap := hP
  have hl := lv_entry ([.ref (a0), .int (x), .int (y)]) (n := 3) (Nat.le_of_ble_eq_true rfl)
  rw [lg_entry_eq]
  generalize (lg_sl ([.ref (a0), .int (x), .int (y)]) ++ List.replicate (3 - (lg_sl ([.ref (a0), .int (x), .int (y)])).length) Slot.unset).toArray = ls at hl ⊢
  have hl : lv_has ls 3 [(0, .ref (a0)), (1, .int (x)), (2, .int (y))] := hl
  refine lv_aload_n hx hb d_M_init_0 rfl (lv_at hl 0 rfl) ?_
  refine w_oi hx hb hml hown hts k_methodLink_rn_M_1_objectInit hl.1 d_M_init_1 ⟨Nat.le_of_ble_eq_true rfl, Nat.le_of_ble_eq_true rfl⟩ ?_
  refine lv_aload_n hx hb d_M_init_4 rfl (lv_at hl 0 rfl) ?_
  refine lv_bipush (v := (nI (12))) hx hb d_M_init_5 (by decide) ?_
  refine w_newI hx hb hts hK hP hD hS hA (N := 12) (by omega) 1 12 ⟨by omega, by omega⟩ ⟨Nat.le_of_ble_eq_true rfl, Nat.le_of_ble_eq_true rfl⟩ d_M_init_7 (fun q7 H hP hD hS => ?_)
  have hP : va_P D vwCl [(a0, .inr (4, [.null, .int 0, .int 0, .int 0, .null, .null, .null, .null, .int 0, .null, .null, .null])), (q7, .inl (cI, 12, .inl (fun _ => 0)))] H := hP
  have hD : va_D (va_A [(a0, .inr (4, [.null, .int 0, .int 0, .int 0, .null, .null, .null, .null, .int 0, .null, .null, .null]))] sz) [(a0, .inr (4, [.null, .int 0, .int 0, .int 0, .null, .null, .null, .null, .int 0, .null, .null, .null])), (q7, .inl (cI, 12, .inl (fun _ => 0)))] := hD
  refine lv_dup hx hb d_M_init_9 rfl ?_
  refine lv_iconst (v := (nI (0))) hx hb d_M_init_10 (by decide) ?_
  refine lv_iconst (v := (nI (0))) hx hb d_M_init_11 (by decide) ?_
  refine rw_iast (h := (upd (fun _ => 0) 0 (nI (0)))) hx hb hK hP hD hS 1 0 rfl rfl (by decide) (by decide) (fun _ _ => rfl) d_M_init_12 (fun H locs hP hD hS => ?_)
  have hP : va_P D vwCl [(a0, .inr (4, [.null, .int 0, .int 0, .int 0, .null, .null, .null, .null, .int 0, .null, .null, .null])), (q7, .inl (cI, 12, .inl (upd (fun _ => 0) 0 (nI (0)))))] H := hP
  have hD : va_D (va_A [(a0, .inr (4, [.null, .int 0, .int 0, .int 0, .null, .null, .null, .null, .int 0, .null, .null, .null]))] sz) [(a0, .inr (4, [.null, .int 0, .int 0, .int 0, .null, .null, .null, .null, .int 0, .null, .null, .null])), (q7, .inl (cI, 12, .inl (upd (fun _ => 0) 0 (nI (0)))))] := hD
  refine lv_dup hx hb d_M_init_13 rfl ?_
  refine lv_iconst (v := (nI (1))) hx hb d_M_init_14 (by decide) ?_
  refine lv_iconst (v := (nI (1))) hx hb d_M_init_15 (by decide) ?_
  refine rw_iast (h := (upd (upd (fun _ => 0) 0 (nI (0))) 1 (nI (1)))) hx hb hK hP hD hS 1 0 rfl rfl (by decide) (by decide) (fun _ _ => rfl) d_M_init_16 (fun H locs hP hD hS => ?_)
  have hP : va_P D vwCl [(a0, .inr (4, [.null, .int 0, .int 0, .int 0, .null, .null, .null, .null, .int 0, .null, .null, .null])), (q7, .inl (cI, 12, .inl (upd (upd (fun _ => 0) 0 (nI (0))) 1 (nI (1)))))] H := hP
  have hD : va_D (va_A [(a0, .inr (4, [.null, .int 0, .int 0, .int 0, .null, .null, .null, .null, .int 0, .null, .null, .null]))] sz) [(a0, .inr (4, [.null, .int 0, .int 0, .int 0, .null, .null, .null, .null, .int 0, .null, .null, .null])), (q7, .inl (cI, 12, .inl (upd (upd (fun _ => 0) 0 (nI (0))) 1 (nI (1)))))] := hD
  refine lv_dup hx hb d_M_init_17 rfl ?_
  refine lv_iconst (v := (nI (2))) hx hb d_M_init_18 (by decide) ?_
  refine lv_iconst (v := (nI (2))) hx hb d_M_init_19 (by decide) ?_
  refine rw_iast (h := (upd (upd (upd (fun _ => 0) 0 (nI (0))) 1 (nI (1))) 2 (nI (2)))) hx hb hK hP hD hS 1 0 rfl rfl (by decide) (by decide) (fun _ _ => rfl) d_M_init_20 (fun H locs hP hD hS => ?_)
  have hP : va_P D vwCl [(a0, .inr (4, [.null, .int 0, .int 0, .int 0, .null, .null, .null, .null, .int 0, .null, .null, .null])), (q7, .inl (cI, 12, .inl (upd (upd (upd (fun _ => 0) 0 (nI (0))) 1 (nI (1))) 2 (nI (2)))))] H := hP
  have hD : va_D (va_A [(a0, .inr (4, [.null, .int 0, .int 0, .int 0, .null, .null, .null, .null, .int 0, .null, .null, .null]))] sz) [(a0, .inr (4, [.null, .int 0, .int 0, .int 0, .null, .null, .null, .null, .int 0, .null, .null, .null])), (q7, .inl (cI, 12, .inl (upd (upd (upd (fun _ => 0) 0 (nI (0))) 1 (nI (1))) 2 (nI (2)))))] := hD
  refine lv_dup hx hb d_M_init_21 rfl ?_
  refine lv_iconst (v := (nI (3))) hx hb d_M_init_22 (by decide) ?_
  refine lv_iconst (v := (nI (3))) hx hb d_M_init_23 (by decide) ?_
  refine rw_iast (h := (upd (upd (upd (upd (fun _ => 0) 0 (nI (0))) 1 (nI (1))) 2 (nI (2))) 3 (nI (3)))) hx hb hK hP hD hS 1 0 rfl rfl (by decide) (by decide) (fun _ _ => rfl) d_M_init_24 (fun H locs hP hD hS => ?_)
  have hP : va_P D vwCl [(a0, .inr (4, [.null, .int 0, .int 0, .int 0, .null, .null, .null, .null, .int 0, .null, .null, .null])), (q7, .inl (cI, 12, .inl (upd (upd (upd (upd (fun _ => 0) 0 (nI (0))) 1 (nI (1))) 2 (nI (2))) 3 (nI (3)))))] H := hP
  have hD : va_D (va_A [(a0, .inr (4, [.null, .int 0, .int 0, .int 0, .null, .null, .null, .null, .int 0, .null, .null, .null]))] sz) [(a0, .inr (4, [.null, .int 0, .int 0, .int 0, .null, .null, .null, .null, .int 0, .null, .null, .null])), (q7, .inl (cI, 12, .inl (upd (upd (upd (upd (fun _ => 0) 0 (nI (0))) 1 (nI (1))) 2 (nI (2))) 3 (nI (3)))))] := hD
  refine lv_dup hx hb d_M_init_25 rfl ?_
  refine lv_iconst (v := (nI (4))) hx hb d_M_init_26 (by decide) ?_
  refine lv_iconst (v := (nI (2))) hx hb d_M_init_27 (by decide) ?_
  refine rw_iast (h := (upd (upd (upd (upd (upd (fun _ => 0) 0 (nI (0))) 1 (nI (1))) 2 (nI (2))) 3 (nI (3))) 4 (nI (2)))) hx hb hK hP hD hS 1 0 rfl rfl (by decide) (by decide) (fun _ _ => rfl) d_M_init_28 (fun H locs hP hD hS => ?_)
  have hP : va_P D vwCl [(a0, .inr (4, [.null, .int 0, .int 0, .int 0, .null, .null, .null, .null, .int 0, .null, .null, .null])), (q7, .inl (cI, 12, .inl (upd (upd (upd (upd (upd (fun _ => 0) 0 (nI (0))) 1 (nI (1))) 2 (nI (2))) 3 (nI (3))) 4 (nI (2)))))] H := hP
  have hD : va_D (va_A [(a0, .inr (4, [.null, .int 0, .int 0, .int 0, .null, .null, .null, .null, .int 0, .null, .null, .null]))] sz) [(a0, .inr (4, [.null, .int 0, .int 0, .int 0, .null, .null, .null, .null, .int 0, .null, .null, .null])), (q7, .inl (cI, 12, .inl (upd (upd (upd (upd (upd (fun _ => 0) 0 (nI (0))) 1 (nI (1))) 2 (nI (2))) 3 (nI (3))) 4 (nI (2)))))] := hD
  refine lv_dup hx hb d_M_init_29 rfl ?_
  refine lv_iconst (v := (nI (5))) hx hb d_M_init_30 (by decide) ?_
  refine lv_iconst (v := (nI (1))) hx hb d_M_init_31 (by decide) ?_
  refine rw_iast (h := (upd (upd (upd (upd (upd (upd (fun _ => 0) 0 (nI (0))) 1 (nI (1))) 2 (nI (2))) 3 (nI (3))) 4 (nI (2))) 5 (nI (1)))) hx hb hK hP hD hS 1 0 rfl rfl (by decide) (by decide) (fun _ _ => rfl) d_M_init_32 (fun H locs hP hD hS => ?_)
  have hP : va_P D vwCl [(a0, .inr (4, [.null, .int 0, .int 0, .int 0, .null, .null, .null, .null, .int 0, .null, .null, .null])), (q7, .inl (cI, 12, .inl (upd (upd (upd (upd (upd (upd (fun _ => 0) 0 (nI (0))) 1 (nI (1))) 2 (nI (2))) 3 (nI (3))) 4 (nI (2))) 5 (nI (1)))))] H := hP
  have hD : va_D (va_A [(a0, .inr (4, [.null, .int 0, .int 0, .int 0, .null, .null, .null, .null, .int 0, .null, .null, .null]))] sz) [(a0, .inr (4, [.null, .int 0, .int 0, .int 0, .null, .null, .null, .null, .int 0, .null, .null, .null])), (q7, .inl (cI, 12, .inl (upd (upd (upd (upd (upd (upd (fun _ => 0) 0 (nI (0))) 1 (nI (1))) 2 (nI (2))) 3 (nI (3))) 4 (nI (2))) 5 (nI (1)))))] := hD
  refine lv_dup hx hb d_M_init_33 rfl ?_
  refine lv_bipush (v := (nI (6))) hx hb d_M_init_34 (by decide) ?_
  refine lv_iconst (v := (nI (3))) hx hb d_M_init_36 (by decide) ?_
  refine rw_iast (h := (upd (upd (upd (upd (upd (upd (upd (fun _ => 0) 0 (nI (0))) 1 (nI (1))) 2 (nI (2))) 3 (nI (3))) 4 (nI (2))) 5 (nI (1))) 6 (nI (3)))) hx hb hK hP hD hS 1 0 rfl rfl (by decide) (by decide) (fun _ _ => rfl) d_M_init_37 (fun H locs hP hD hS => ?_)
  have hP : va_P D vwCl [(a0, .inr (4, [.null, .int 0, .int 0, .int 0, .null, .null, .null, .null, .int 0, .null, .null, .null])), (q7, .inl (cI, 12, .inl (upd (upd (upd (upd (upd (upd (upd (fun _ => 0) 0 (nI (0))) 1 (nI (1))) 2 (nI (2))) 3 (nI (3))) 4 (nI (2))) 5 (nI (1))) 6 (nI (3)))))] H := hP
  have hD : va_D (va_A [(a0, .inr (4, [.null, .int 0, .int 0, .int 0, .null, .null, .null, .null, .int 0, .null, .null, .null]))] sz) [(a0, .inr (4, [.null, .int 0, .int 0, .int 0, .null, .null, .null, .null, .int 0, .null, .null, .null])), (q7, .inl (cI, 12, .inl (upd (upd (upd (upd (upd (upd (upd (fun _ => 0) 0 (nI (0))) 1 (nI (1))) 2 (nI (2))) 3 (nI (3))) 4 (nI (2))) 5 (nI (1))) 6 (nI (3)))))] := hD
  refine lv_dup hx hb d_M_init_38 rfl ?_
  refine lv_bipush (v := (nI (7))) hx hb d_M_init_39 (by decide) ?_
  refine lv_iconst (v := (nI (1))) hx hb d_M_init_41 (by decide) ?_
  refine rw_iast (h := (upd (upd (upd (upd (upd (upd (upd (upd (fun _ => 0) 0 (nI (0))) 1 (nI (1))) 2 (nI (2))) 3 (nI (3))) 4 (nI (2))) 5 (nI (1))) 6 (nI (3))) 7 (nI (1)))) hx hb hK hP hD hS 1 0 rfl rfl (by decide) (by decide) (fun _ _ => rfl) d_M_init_42 (fun H locs hP hD hS => ?_)
  have hP : va_P D vwCl [(a0, .inr (4, [.null, .int 0, .int 0, .int 0, .null, .null, .null, .null, .int 0, .null, .null, .null])), (q7, .inl (cI, 12, .inl (upd (upd (upd (upd (upd (upd (upd (upd (fun _ => 0) 0 (nI (0))) 1 (nI (1))) 2 (nI (2))) 3 (nI (3))) 4 (nI (2))) 5 (nI (1))) 6 (nI (3))) 7 (nI (1)))))] H := hP
  have hD : va_D (va_A [(a0, .inr (4, [.null, .int 0, .int 0, .int 0, .null, .null, .null, .null, .int 0, .null, .null, .null]))] sz) [(a0, .inr (4, [.null, .int 0, .int 0, .int 0, .null, .null, .null, .null, .int 0, .null, .null, .null])), (q7, .inl (cI, 12, .inl (upd (upd (upd (upd (upd (upd (upd (upd (fun _ => 0) 0 (nI (0))) 1 (nI (1))) 2 (nI (2))) 3 (nI (3))) 4 (nI (2))) 5 (nI (1))) 6 (nI (3))) 7 (nI (1)))))] := hD
  refine lv_dup hx hb d_M_init_43 rfl ?_
  refine lv_bipush (v := (nI (8))) hx hb d_M_init_44 (by decide) ?_
  refine lv_iconst (v := (nI (3))) hx hb d_M_init_46 (by decide) ?_
  refine rw_iast (h := (upd (upd (upd (upd (upd (upd (upd (upd (upd (fun _ => 0) 0 (nI (0))) 1 (nI (1))) 2 (nI (2))) 3 (nI (3))) 4 (nI (2))) 5 (nI (1))) 6 (nI (3))) 7 (nI (1))) 8 (nI (3)))) hx hb hK hP hD hS 1 0 rfl rfl (by decide) (by decide) (fun _ _ => rfl) d_M_init_47 (fun H locs hP hD hS => ?_)
  have hP : va_P D vwCl [(a0, .inr (4, [.null, .int 0, .int 0, .int 0, .null, .null, .null, .null, .int 0, .null, .null, .null])), (q7, .inl (cI, 12, .inl (upd (upd (upd (upd (upd (upd (upd (upd (upd (fun _ => 0) 0 (nI (0))) 1 (nI (1))) 2 (nI (2))) 3 (nI (3))) 4 (nI (2))) 5 (nI (1))) 6 (nI (3))) 7 (nI (1))) 8 (nI (3)))))] H := hP
  have hD : va_D (va_A [(a0, .inr (4, [.null, .int 0, .int 0, .int 0, .null, .null, .null, .null, .int 0, .null, .null, .null]))] sz) [(a0, .inr (4, [.null, .int 0, .int 0, .int 0, .null, .null, .null, .null, .int 0, .null, .null, .null])), (q7, .inl (cI, 12, .inl (upd (upd (upd (upd (upd (upd (upd (upd (upd (fun _ => 0) 0 (nI (0))) 1 (nI (1))) 2 (nI (2))) 3 (nI (3))) 4 (nI (2))) 5 (nI (1))) 6 (nI (3))) 7 (nI (1))) 8 (nI (3)))))] := hD
  refine lv_dup hx hb d_M_init_48 rfl ?_
  refine lv_bipush (v := (nI (9))) hx hb d_M_init_49 (by decide) ?_
  refine lv_iconst (v := (nI (0))) hx hb d_M_init_51 (by decide) ?_
  refine rw_iast (h := (upd (upd (upd (upd (upd (upd (upd (upd (upd (upd (fun _ => 0) 0 (nI (0))) 1 (nI (1))) 2 (nI (2))) 3 (nI (3))) 4 (nI (2))) 5 (nI (1))) 6 (nI (3))) 7 (nI (1))) 8 (nI (3))) 9 (nI (0)))) hx hb hK hP hD hS 1 0 rfl rfl (by decide) (by decide) (fun _ _ => rfl) d_M_init_52 (fun H locs hP hD hS => ?_)
  have hP : va_P D vwCl [(a0, .inr (4, [.null, .int 0, .int 0, .int 0, .null, .null, .null, .null, .int 0, .null, .null, .null])), (q7, .inl (cI, 12, .inl (upd (upd (upd (upd (upd (upd (upd (upd (upd (upd (fun _ => 0) 0 (nI (0))) 1 (nI (1))) 2 (nI (2))) 3 (nI (3))) 4 (nI (2))) 5 (nI (1))) 6 (nI (3))) 7 (nI (1))) 8 (nI (3))) 9 (nI (0)))))] H := hP
  have hD : va_D (va_A [(a0, .inr (4, [.null, .int 0, .int 0, .int 0, .null, .null, .null, .null, .int 0, .null, .null, .null]))] sz) [(a0, .inr (4, [.null, .int 0, .int 0, .int 0, .null, .null, .null, .null, .int 0, .null, .null, .null])), (q7, .inl (cI, 12, .inl (upd (upd (upd (upd (upd (upd (upd (upd (upd (upd (fun _ => 0) 0 (nI (0))) 1 (nI (1))) 2 (nI (2))) 3 (nI (3))) 4 (nI (2))) 5 (nI (1))) 6 (nI (3))) 7 (nI (1))) 8 (nI (3))) 9 (nI (0)))))] := hD
  refine lv_dup hx hb d_M_init_53 rfl ?_
  refine lv_bipush (v := (nI (10))) hx hb d_M_init_54 (by decide) ?_
  refine lv_iconst (v := (nI (2))) hx hb d_M_init_56 (by decide) ?_
  refine rw_iast (h := (upd (upd (upd (upd (upd (upd (upd (upd (upd (upd (upd (fun _ => 0) 0 (nI (0))) 1 (nI (1))) 2 (nI (2))) 3 (nI (3))) 4 (nI (2))) 5 (nI (1))) 6 (nI (3))) 7 (nI (1))) 8 (nI (3))) 9 (nI (0))) 10 (nI (2)))) hx hb hK hP hD hS 1 0 rfl rfl (by decide) (by decide) (fun _ _ => rfl) d_M_init_57 (fun H locs hP hD hS => ?_)
  have hP : va_P D vwCl [(a0, .inr (4, [.null, .int 0, .int 0, .int 0, .null, .null, .null, .null, .int 0, .null, .null, .null])), (q7, .inl (cI, 12, .inl (upd (upd (upd (upd (upd (upd (upd (upd (upd (upd (upd (fun _ => 0) 0 (nI (0))) 1 (nI (1))) 2 (nI (2))) 3 (nI (3))) 4 (nI (2))) 5 (nI (1))) 6 (nI (3))) 7 (nI (1))) 8 (nI (3))) 9 (nI (0))) 10 (nI (2)))))] H := hP
  have hD : va_D (va_A [(a0, .inr (4, [.null, .int 0, .int 0, .int 0, .null, .null, .null, .null, .int 0, .null, .null, .null]))] sz) [(a0, .inr (4, [.null, .int 0, .int 0, .int 0, .null, .null, .null, .null, .int 0, .null, .null, .null])), (q7, .inl (cI, 12, .inl (upd (upd (upd (upd (upd (upd (upd (upd (upd (upd (upd (fun _ => 0) 0 (nI (0))) 1 (nI (1))) 2 (nI (2))) 3 (nI (3))) 4 (nI (2))) 5 (nI (1))) 6 (nI (3))) 7 (nI (1))) 8 (nI (3))) 9 (nI (0))) 10 (nI (2)))))] := hD
  refine lv_dup hx hb d_M_init_58 rfl ?_
  refine lv_bipush (v := (nI (11))) hx hb d_M_init_59 (by decide) ?_
  refine lv_iconst (v := (nI (0))) hx hb d_M_init_61 (by decide) ?_
  refine rw_iast (h := (upd (upd (upd (upd (upd (upd (upd (upd (upd (upd (upd (upd (fun _ => 0) 0 (nI (0))) 1 (nI (1))) 2 (nI (2))) 3 (nI (3))) 4 (nI (2))) 5 (nI (1))) 6 (nI (3))) 7 (nI (1))) 8 (nI (3))) 9 (nI (0))) 10 (nI (2))) 11 (nI (0)))) hx hb hK hP hD hS 1 0 rfl rfl (by decide) (by decide) (fun _ _ => rfl) d_M_init_62 (fun H locs hP hD hS => ?_)
  have hP : va_P D vwCl [(a0, .inr (4, [.null, .int 0, .int 0, .int 0, .null, .null, .null, .null, .int 0, .null, .null, .null])), (q7, .inl (cI, 12, .inl (upd (upd (upd (upd (upd (upd (upd (upd (upd (upd (upd (upd (fun _ => 0) 0 (nI (0))) 1 (nI (1))) 2 (nI (2))) 3 (nI (3))) 4 (nI (2))) 5 (nI (1))) 6 (nI (3))) 7 (nI (1))) 8 (nI (3))) 9 (nI (0))) 10 (nI (2))) 11 (nI (0)))))] H := hP
  have hD : va_D (va_A [(a0, .inr (4, [.null, .int 0, .int 0, .int 0, .null, .null, .null, .null, .int 0, .null, .null, .null]))] sz) [(a0, .inr (4, [.null, .int 0, .int 0, .int 0, .null, .null, .null, .null, .int 0, .null, .null, .null])), (q7, .inl (cI, 12, .inl (upd (upd (upd (upd (upd (upd (upd (upd (upd (upd (upd (upd (fun _ => 0) 0 (nI (0))) 1 (nI (1))) 2 (nI (2))) 3 (nI (3))) 4 (nI (2))) 5 (nI (1))) 6 (nI (3))) 7 (nI (1))) 8 (nI (3))) 9 (nI (0))) 10 (nI (2))) 11 (nI (0)))))] := hD
  refine va_putF (D := D) (ci := 4) (v := .ref (q7)) (ty := .array .int) (C := rn_M) (T := tf_M) (N := 12) hx hb hts in_M tt_M tt_M_ok nm_M hown hK hP hD hS 0 rfl rfl 0 (by decide) (hts _ k_fieldLink_rn_M_7_rn_M_edges_I) (fun _ h9 => h9) rfl hin rfl (by decide +kernel) rfl rfl (Nat.le_of_ble_eq_true rfl) d_M_init_63 (fun H locs hP hD hS => ?_)
  have hP : va_P D vwCl [(a0, .inr (4, [.ref (q7), .int 0, .int 0, .int 0, .null, .null, .null, .null, .int 0, .null, .null, .null])), (q7, .inl (cI, 12, .inl (upd (upd (upd (upd (upd (upd (upd (upd (upd (upd (upd (upd (fun _ => 0) 0 (nI (0))) 1 (nI (1))) 2 (nI (2))) 3 (nI (3))) 4 (nI (2))) 5 (nI (1))) 6 (nI (3))) 7 (nI (1))) 8 (nI (3))) 9 (nI (0))) 10 (nI (2))) 11 (nI (0)))))] H := hP
  have hD : va_D (va_A [(a0, .inr (4, [.null, .int 0, .int 0, .int 0, .null, .null, .null, .null, .int 0, .null, .null, .null]))] sz) [(a0, .inr (4, [.ref (q7), .int 0, .int 0, .int 0, .null, .null, .null, .null, .int 0, .null, .null, .null])), (q7, .inl (cI, 12, .inl (upd (upd (upd (upd (upd (upd (upd (upd (upd (upd (upd (upd (fun _ => 0) 0 (nI (0))) 1 (nI (1))) 2 (nI (2))) 3 (nI (3))) 4 (nI (2))) 5 (nI (1))) 6 (nI (3))) 7 (nI (1))) 8 (nI (3))) 9 (nI (0))) 10 (nI (2))) 11 (nI (0)))))] := hD
  refine lv_aload_n hx hb d_M_init_66 rfl (lv_at hl 0 rfl) ?_
  refine lv_sipush (v := (nI (2400))) hx hb d_M_init_67 (by decide) ?_
  refine w_newZ hx hb hts hK hP hD hS hA (N := 2400) (by omega) 2 2412 ⟨by omega, by omega⟩ ⟨Nat.le_of_ble_eq_true rfl, Nat.le_of_ble_eq_true rfl⟩ d_M_init_70 (fun q70 H hP hD hS => ?_)
  have hP : va_P D vwCl [(a0, .inr (4, [.ref (q7), .int 0, .int 0, .int 0, .null, .null, .null, .null, .int 0, .null, .null, .null])), (q7, .inl (cI, 12, .inl (upd (upd (upd (upd (upd (upd (upd (upd (upd (upd (upd (upd (fun _ => 0) 0 (nI (0))) 1 (nI (1))) 2 (nI (2))) 3 (nI (3))) 4 (nI (2))) 5 (nI (1))) 6 (nI (3))) 7 (nI (1))) 8 (nI (3))) 9 (nI (0))) 10 (nI (2))) 11 (nI (0))))), (q70, .inl (cZ, 2400, .inl (fun _ => 0)))] H := hP
  have hD : va_D (va_A [(a0, .inr (4, [.null, .int 0, .int 0, .int 0, .null, .null, .null, .null, .int 0, .null, .null, .null]))] sz) [(a0, .inr (4, [.ref (q7), .int 0, .int 0, .int 0, .null, .null, .null, .null, .int 0, .null, .null, .null])), (q7, .inl (cI, 12, .inl (upd (upd (upd (upd (upd (upd (upd (upd (upd (upd (upd (upd (fun _ => 0) 0 (nI (0))) 1 (nI (1))) 2 (nI (2))) 3 (nI (3))) 4 (nI (2))) 5 (nI (1))) 6 (nI (3))) 7 (nI (1))) 8 (nI (3))) 9 (nI (0))) 10 (nI (2))) 11 (nI (0))))), (q70, .inl (cZ, 2400, .inl (fun _ => 0)))] := hD
  refine va_putF (D := D) (ci := 4) (v := .ref (q70)) (ty := .array .boolean) (C := rn_M) (T := tf_M) (N := 12) hx hb hts in_M tt_M tt_M_ok nm_M hown hK hP hD hS 0 rfl rfl 4 (by decide) (hts _ k_fieldLink_rn_M_13_rn_M_there_Z) (fun _ h9 => h9) rfl hin rfl (by decide +kernel) rfl rfl (Nat.le_of_ble_eq_true rfl) d_M_init_72 (fun H locs hP hD hS => ?_)
  have hP : va_P D vwCl [(a0, .inr (4, [.ref (q7), .int 0, .int 0, .int 0, .ref (q70), .null, .null, .null, .int 0, .null, .null, .null])), (q7, .inl (cI, 12, .inl (upd (upd (upd (upd (upd (upd (upd (upd (upd (upd (upd (upd (fun _ => 0) 0 (nI (0))) 1 (nI (1))) 2 (nI (2))) 3 (nI (3))) 4 (nI (2))) 5 (nI (1))) 6 (nI (3))) 7 (nI (1))) 8 (nI (3))) 9 (nI (0))) 10 (nI (2))) 11 (nI (0))))), (q70, .inl (cZ, 2400, .inl (fun _ => 0)))] H := hP
  have hD : va_D (va_A [(a0, .inr (4, [.null, .int 0, .int 0, .int 0, .null, .null, .null, .null, .int 0, .null, .null, .null]))] sz) [(a0, .inr (4, [.ref (q7), .int 0, .int 0, .int 0, .ref (q70), .null, .null, .null, .int 0, .null, .null, .null])), (q7, .inl (cI, 12, .inl (upd (upd (upd (upd (upd (upd (upd (upd (upd (upd (upd (upd (fun _ => 0) 0 (nI (0))) 1 (nI (1))) 2 (nI (2))) 3 (nI (3))) 4 (nI (2))) 5 (nI (1))) 6 (nI (3))) 7 (nI (1))) 8 (nI (3))) 9 (nI (0))) 10 (nI (2))) 11 (nI (0))))), (q70, .inl (cZ, 2400, .inl (fun _ => 0)))] := hD
  refine lv_aload_n hx hb d_M_init_75 rfl (lv_at hl 0 rfl) ?_
  refine lv_sipush (v := (nI (2400))) hx hb d_M_init_76 (by decide) ?_
  refine w_newI hx hb hts hK hP hD hS hA (N := 2400) (by omega) 3 4812 ⟨by omega, by omega⟩ ⟨Nat.le_of_ble_eq_true rfl, Nat.le_of_ble_eq_true rfl⟩ d_M_init_79 (fun q79 H hP hD hS => ?_)
  have hP : va_P D vwCl [(a0, .inr (4, [.ref (q7), .int 0, .int 0, .int 0, .ref (q70), .null, .null, .null, .int 0, .null, .null, .null])), (q7, .inl (cI, 12, .inl (upd (upd (upd (upd (upd (upd (upd (upd (upd (upd (upd (upd (fun _ => 0) 0 (nI (0))) 1 (nI (1))) 2 (nI (2))) 3 (nI (3))) 4 (nI (2))) 5 (nI (1))) 6 (nI (3))) 7 (nI (1))) 8 (nI (3))) 9 (nI (0))) 10 (nI (2))) 11 (nI (0))))), (q70, .inl (cZ, 2400, .inl (fun _ => 0))), (q79, .inl (cI, 2400, .inl (fun _ => 0)))] H := hP
  have hD : va_D (va_A [(a0, .inr (4, [.null, .int 0, .int 0, .int 0, .null, .null, .null, .null, .int 0, .null, .null, .null]))] sz) [(a0, .inr (4, [.ref (q7), .int 0, .int 0, .int 0, .ref (q70), .null, .null, .null, .int 0, .null, .null, .null])), (q7, .inl (cI, 12, .inl (upd (upd (upd (upd (upd (upd (upd (upd (upd (upd (upd (upd (fun _ => 0) 0 (nI (0))) 1 (nI (1))) 2 (nI (2))) 3 (nI (3))) 4 (nI (2))) 5 (nI (1))) 6 (nI (3))) 7 (nI (1))) 8 (nI (3))) 9 (nI (0))) 10 (nI (2))) 11 (nI (0))))), (q70, .inl (cZ, 2400, .inl (fun _ => 0))), (q79, .inl (cI, 2400, .inl (fun _ => 0)))] := hD
  refine va_putF (D := D) (ci := 4) (v := .ref (q79)) (ty := .array .int) (C := rn_M) (T := tf_M) (N := 12) hx hb hts in_M tt_M tt_M_ok nm_M hown hK hP hD hS 0 rfl rfl 5 (by decide) (hts _ k_fieldLink_rn_M_17_rn_M_signs_I) (fun _ h9 => h9) rfl hin rfl (by decide +kernel) rfl rfl (Nat.le_of_ble_eq_true rfl) d_M_init_81 (fun H locs hP hD hS => ?_)
  have hP : va_P D vwCl [(a0, .inr (4, [.ref (q7), .int 0, .int 0, .int 0, .ref (q70), .ref (q79), .null, .null, .int 0, .null, .null, .null])), (q7, .inl (cI, 12, .inl (upd (upd (upd (upd (upd (upd (upd (upd (upd (upd (upd (upd (fun _ => 0) 0 (nI (0))) 1 (nI (1))) 2 (nI (2))) 3 (nI (3))) 4 (nI (2))) 5 (nI (1))) 6 (nI (3))) 7 (nI (1))) 8 (nI (3))) 9 (nI (0))) 10 (nI (2))) 11 (nI (0))))), (q70, .inl (cZ, 2400, .inl (fun _ => 0))), (q79, .inl (cI, 2400, .inl (fun _ => 0)))] H := hP
  have hD : va_D (va_A [(a0, .inr (4, [.null, .int 0, .int 0, .int 0, .null, .null, .null, .null, .int 0, .null, .null, .null]))] sz) [(a0, .inr (4, [.ref (q7), .int 0, .int 0, .int 0, .ref (q70), .ref (q79), .null, .null, .int 0, .null, .null, .null])), (q7, .inl (cI, 12, .inl (upd (upd (upd (upd (upd (upd (upd (upd (upd (upd (upd (upd (fun _ => 0) 0 (nI (0))) 1 (nI (1))) 2 (nI (2))) 3 (nI (3))) 4 (nI (2))) 5 (nI (1))) 6 (nI (3))) 7 (nI (1))) 8 (nI (3))) 9 (nI (0))) 10 (nI (2))) 11 (nI (0))))), (q70, .inl (cZ, 2400, .inl (fun _ => 0))), (q79, .inl (cI, 2400, .inl (fun _ => 0)))] := hD
  refine lv_aload_n hx hb d_M_init_84 rfl (lv_at hl 0 rfl) ?_
  refine lv_sipush (v := (nI (2400))) hx hb d_M_init_85 (by decide) ?_
  refine w_newI hx hb hts hK hP hD hS hA (N := 2400) (by omega) 4 7212 ⟨by omega, by omega⟩ ⟨Nat.le_of_ble_eq_true rfl, Nat.le_of_ble_eq_true rfl⟩ d_M_init_88 (fun q88 H hP hD hS => ?_)
  have hP : va_P D vwCl [(a0, .inr (4, [.ref (q7), .int 0, .int 0, .int 0, .ref (q70), .ref (q79), .null, .null, .int 0, .null, .null, .null])), (q7, .inl (cI, 12, .inl (upd (upd (upd (upd (upd (upd (upd (upd (upd (upd (upd (upd (fun _ => 0) 0 (nI (0))) 1 (nI (1))) 2 (nI (2))) 3 (nI (3))) 4 (nI (2))) 5 (nI (1))) 6 (nI (3))) 7 (nI (1))) 8 (nI (3))) 9 (nI (0))) 10 (nI (2))) 11 (nI (0))))), (q70, .inl (cZ, 2400, .inl (fun _ => 0))), (q79, .inl (cI, 2400, .inl (fun _ => 0))), (q88, .inl (cI, 2400, .inl (fun _ => 0)))] H := hP
  have hD : va_D (va_A [(a0, .inr (4, [.null, .int 0, .int 0, .int 0, .null, .null, .null, .null, .int 0, .null, .null, .null]))] sz) [(a0, .inr (4, [.ref (q7), .int 0, .int 0, .int 0, .ref (q70), .ref (q79), .null, .null, .int 0, .null, .null, .null])), (q7, .inl (cI, 12, .inl (upd (upd (upd (upd (upd (upd (upd (upd (upd (upd (upd (upd (fun _ => 0) 0 (nI (0))) 1 (nI (1))) 2 (nI (2))) 3 (nI (3))) 4 (nI (2))) 5 (nI (1))) 6 (nI (3))) 7 (nI (1))) 8 (nI (3))) 9 (nI (0))) 10 (nI (2))) 11 (nI (0))))), (q70, .inl (cZ, 2400, .inl (fun _ => 0))), (q79, .inl (cI, 2400, .inl (fun _ => 0))), (q88, .inl (cI, 2400, .inl (fun _ => 0)))] := hD
  refine va_putF (D := D) (ci := 4) (v := .ref (q88)) (ty := .array .int) (C := rn_M) (T := tf_M) (N := 12) hx hb hts in_M tt_M tt_M_ok nm_M hown hK hP hD hS 0 rfl rfl 6 (by decide) (hts _ k_fieldLink_rn_M_20_rn_M_stations_I) (fun _ h9 => h9) rfl hin rfl (by decide +kernel) rfl rfl (Nat.le_of_ble_eq_true rfl) d_M_init_90 (fun H locs hP hD hS => ?_)
  have hP : va_P D vwCl [(a0, .inr (4, [.ref (q7), .int 0, .int 0, .int 0, .ref (q70), .ref (q79), .ref (q88), .null, .int 0, .null, .null, .null])), (q7, .inl (cI, 12, .inl (upd (upd (upd (upd (upd (upd (upd (upd (upd (upd (upd (upd (fun _ => 0) 0 (nI (0))) 1 (nI (1))) 2 (nI (2))) 3 (nI (3))) 4 (nI (2))) 5 (nI (1))) 6 (nI (3))) 7 (nI (1))) 8 (nI (3))) 9 (nI (0))) 10 (nI (2))) 11 (nI (0))))), (q70, .inl (cZ, 2400, .inl (fun _ => 0))), (q79, .inl (cI, 2400, .inl (fun _ => 0))), (q88, .inl (cI, 2400, .inl (fun _ => 0)))] H := hP
  have hD : va_D (va_A [(a0, .inr (4, [.null, .int 0, .int 0, .int 0, .null, .null, .null, .null, .int 0, .null, .null, .null]))] sz) [(a0, .inr (4, [.ref (q7), .int 0, .int 0, .int 0, .ref (q70), .ref (q79), .ref (q88), .null, .int 0, .null, .null, .null])), (q7, .inl (cI, 12, .inl (upd (upd (upd (upd (upd (upd (upd (upd (upd (upd (upd (upd (fun _ => 0) 0 (nI (0))) 1 (nI (1))) 2 (nI (2))) 3 (nI (3))) 4 (nI (2))) 5 (nI (1))) 6 (nI (3))) 7 (nI (1))) 8 (nI (3))) 9 (nI (0))) 10 (nI (2))) 11 (nI (0))))), (q70, .inl (cZ, 2400, .inl (fun _ => 0))), (q79, .inl (cI, 2400, .inl (fun _ => 0))), (q88, .inl (cI, 2400, .inl (fun _ => 0)))] := hD
  refine lv_aload_n hx hb d_M_init_93 rfl (lv_at hl 0 rfl) ?_
  refine lv_sipush (v := (nI (2400))) hx hb d_M_init_94 (by decide) ?_
  refine w_newI hx hb hts hK hP hD hS hA (N := 2400) (by omega) 5 9612 ⟨by omega, by omega⟩ ⟨Nat.le_of_ble_eq_true rfl, Nat.le_of_ble_eq_true rfl⟩ d_M_init_97 (fun q97 H hP hD hS => ?_)
  have hP : va_P D vwCl [(a0, .inr (4, [.ref (q7), .int 0, .int 0, .int 0, .ref (q70), .ref (q79), .ref (q88), .null, .int 0, .null, .null, .null])), (q7, .inl (cI, 12, .inl (upd (upd (upd (upd (upd (upd (upd (upd (upd (upd (upd (upd (fun _ => 0) 0 (nI (0))) 1 (nI (1))) 2 (nI (2))) 3 (nI (3))) 4 (nI (2))) 5 (nI (1))) 6 (nI (3))) 7 (nI (1))) 8 (nI (3))) 9 (nI (0))) 10 (nI (2))) 11 (nI (0))))), (q70, .inl (cZ, 2400, .inl (fun _ => 0))), (q79, .inl (cI, 2400, .inl (fun _ => 0))), (q88, .inl (cI, 2400, .inl (fun _ => 0))), (q97, .inl (cI, 2400, .inl (fun _ => 0)))] H := hP
  have hD : va_D (va_A [(a0, .inr (4, [.null, .int 0, .int 0, .int 0, .null, .null, .null, .null, .int 0, .null, .null, .null]))] sz) [(a0, .inr (4, [.ref (q7), .int 0, .int 0, .int 0, .ref (q70), .ref (q79), .ref (q88), .null, .int 0, .null, .null, .null])), (q7, .inl (cI, 12, .inl (upd (upd (upd (upd (upd (upd (upd (upd (upd (upd (upd (upd (fun _ => 0) 0 (nI (0))) 1 (nI (1))) 2 (nI (2))) 3 (nI (3))) 4 (nI (2))) 5 (nI (1))) 6 (nI (3))) 7 (nI (1))) 8 (nI (3))) 9 (nI (0))) 10 (nI (2))) 11 (nI (0))))), (q70, .inl (cZ, 2400, .inl (fun _ => 0))), (q79, .inl (cI, 2400, .inl (fun _ => 0))), (q88, .inl (cI, 2400, .inl (fun _ => 0))), (q97, .inl (cI, 2400, .inl (fun _ => 0)))] := hD
  refine va_putF (D := D) (ci := 4) (v := .ref (q97)) (ty := .array .int) (C := rn_M) (T := tf_M) (N := 12) hx hb hts in_M tt_M tt_M_ok nm_M hown hK hP hD hS 0 rfl rfl 7 (by decide) (hts _ k_fieldLink_rn_M_23_rn_M_list_I) (fun _ h9 => h9) rfl hin rfl (by decide +kernel) rfl rfl (Nat.le_of_ble_eq_true rfl) d_M_init_99 (fun H locs hP hD hS => ?_)
  have hP : va_P D vwCl [(a0, .inr (4, [.ref (q7), .int 0, .int 0, .int 0, .ref (q70), .ref (q79), .ref (q88), .ref (q97), .int 0, .null, .null, .null])), (q7, .inl (cI, 12, .inl (upd (upd (upd (upd (upd (upd (upd (upd (upd (upd (upd (upd (fun _ => 0) 0 (nI (0))) 1 (nI (1))) 2 (nI (2))) 3 (nI (3))) 4 (nI (2))) 5 (nI (1))) 6 (nI (3))) 7 (nI (1))) 8 (nI (3))) 9 (nI (0))) 10 (nI (2))) 11 (nI (0))))), (q70, .inl (cZ, 2400, .inl (fun _ => 0))), (q79, .inl (cI, 2400, .inl (fun _ => 0))), (q88, .inl (cI, 2400, .inl (fun _ => 0))), (q97, .inl (cI, 2400, .inl (fun _ => 0)))] H := hP
  have hD : va_D (va_A [(a0, .inr (4, [.null, .int 0, .int 0, .int 0, .null, .null, .null, .null, .int 0, .null, .null, .null]))] sz) [(a0, .inr (4, [.ref (q7), .int 0, .int 0, .int 0, .ref (q70), .ref (q79), .ref (q88), .ref (q97), .int 0, .null, .null, .null])), (q7, .inl (cI, 12, .inl (upd (upd (upd (upd (upd (upd (upd (upd (upd (upd (upd (upd (fun _ => 0) 0 (nI (0))) 1 (nI (1))) 2 (nI (2))) 3 (nI (3))) 4 (nI (2))) 5 (nI (1))) 6 (nI (3))) 7 (nI (1))) 8 (nI (3))) 9 (nI (0))) 10 (nI (2))) 11 (nI (0))))), (q70, .inl (cZ, 2400, .inl (fun _ => 0))), (q79, .inl (cI, 2400, .inl (fun _ => 0))), (q88, .inl (cI, 2400, .inl (fun _ => 0))), (q97, .inl (cI, 2400, .inl (fun _ => 0)))] := hD
  refine lv_aload_n hx hb d_M_init_102 rfl (lv_at hl 0 rfl) ?_
  refine lv_sipush (v := (nI (4800))) hx hb d_M_init_103 (by decide) ?_
  refine w_newI hx hb hts hK hP hD hS hA (N := 4800) (by omega) 6 14412 ⟨by omega, by omega⟩ ⟨Nat.le_of_ble_eq_true rfl, Nat.le_of_ble_eq_true rfl⟩ d_M_init_106 (fun q106 H hP hD hS => ?_)
  have hP : va_P D vwCl [(a0, .inr (4, [.ref (q7), .int 0, .int 0, .int 0, .ref (q70), .ref (q79), .ref (q88), .ref (q97), .int 0, .null, .null, .null])), (q7, .inl (cI, 12, .inl (upd (upd (upd (upd (upd (upd (upd (upd (upd (upd (upd (upd (fun _ => 0) 0 (nI (0))) 1 (nI (1))) 2 (nI (2))) 3 (nI (3))) 4 (nI (2))) 5 (nI (1))) 6 (nI (3))) 7 (nI (1))) 8 (nI (3))) 9 (nI (0))) 10 (nI (2))) 11 (nI (0))))), (q70, .inl (cZ, 2400, .inl (fun _ => 0))), (q79, .inl (cI, 2400, .inl (fun _ => 0))), (q88, .inl (cI, 2400, .inl (fun _ => 0))), (q97, .inl (cI, 2400, .inl (fun _ => 0))), (q106, .inl (cI, 4800, .inl (fun _ => 0)))] H := hP
  have hD : va_D (va_A [(a0, .inr (4, [.null, .int 0, .int 0, .int 0, .null, .null, .null, .null, .int 0, .null, .null, .null]))] sz) [(a0, .inr (4, [.ref (q7), .int 0, .int 0, .int 0, .ref (q70), .ref (q79), .ref (q88), .ref (q97), .int 0, .null, .null, .null])), (q7, .inl (cI, 12, .inl (upd (upd (upd (upd (upd (upd (upd (upd (upd (upd (upd (upd (fun _ => 0) 0 (nI (0))) 1 (nI (1))) 2 (nI (2))) 3 (nI (3))) 4 (nI (2))) 5 (nI (1))) 6 (nI (3))) 7 (nI (1))) 8 (nI (3))) 9 (nI (0))) 10 (nI (2))) 11 (nI (0))))), (q70, .inl (cZ, 2400, .inl (fun _ => 0))), (q79, .inl (cI, 2400, .inl (fun _ => 0))), (q88, .inl (cI, 2400, .inl (fun _ => 0))), (q97, .inl (cI, 2400, .inl (fun _ => 0))), (q106, .inl (cI, 4800, .inl (fun _ => 0)))] := hD
  refine va_putF (D := D) (ci := 4) (v := .ref (q106)) (ty := .array .int) (C := rn_M) (T := tf_M) (N := 12) hx hb hts in_M tt_M tt_M_ok nm_M hown hK hP hD hS 0 rfl rfl 9 (by decide) (hts _ k_fieldLink_rn_M_26_rn_M_cost_I) (fun _ h9 => h9) rfl hin rfl (by decide +kernel) rfl rfl (Nat.le_of_ble_eq_true rfl) d_M_init_108 (fun H locs hP hD hS => ?_)
  have hP : va_P D vwCl [(a0, .inr (4, [.ref (q7), .int 0, .int 0, .int 0, .ref (q70), .ref (q79), .ref (q88), .ref (q97), .int 0, .ref (q106), .null, .null])), (q7, .inl (cI, 12, .inl (upd (upd (upd (upd (upd (upd (upd (upd (upd (upd (upd (upd (fun _ => 0) 0 (nI (0))) 1 (nI (1))) 2 (nI (2))) 3 (nI (3))) 4 (nI (2))) 5 (nI (1))) 6 (nI (3))) 7 (nI (1))) 8 (nI (3))) 9 (nI (0))) 10 (nI (2))) 11 (nI (0))))), (q70, .inl (cZ, 2400, .inl (fun _ => 0))), (q79, .inl (cI, 2400, .inl (fun _ => 0))), (q88, .inl (cI, 2400, .inl (fun _ => 0))), (q97, .inl (cI, 2400, .inl (fun _ => 0))), (q106, .inl (cI, 4800, .inl (fun _ => 0)))] H := hP
  have hD : va_D (va_A [(a0, .inr (4, [.null, .int 0, .int 0, .int 0, .null, .null, .null, .null, .int 0, .null, .null, .null]))] sz) [(a0, .inr (4, [.ref (q7), .int 0, .int 0, .int 0, .ref (q70), .ref (q79), .ref (q88), .ref (q97), .int 0, .ref (q106), .null, .null])), (q7, .inl (cI, 12, .inl (upd (upd (upd (upd (upd (upd (upd (upd (upd (upd (upd (upd (fun _ => 0) 0 (nI (0))) 1 (nI (1))) 2 (nI (2))) 3 (nI (3))) 4 (nI (2))) 5 (nI (1))) 6 (nI (3))) 7 (nI (1))) 8 (nI (3))) 9 (nI (0))) 10 (nI (2))) 11 (nI (0))))), (q70, .inl (cZ, 2400, .inl (fun _ => 0))), (q79, .inl (cI, 2400, .inl (fun _ => 0))), (q88, .inl (cI, 2400, .inl (fun _ => 0))), (q97, .inl (cI, 2400, .inl (fun _ => 0))), (q106, .inl (cI, 4800, .inl (fun _ => 0)))] := hD
  refine lv_aload_n hx hb d_M_init_111 rfl (lv_at hl 0 rfl) ?_
  refine lv_sipush (v := (nI (2400))) hx hb d_M_init_112 (by decide) ?_
  refine w_newZ hx hb hts hK hP hD hS hA (N := 2400) (by omega) 7 16812 ⟨by omega, by omega⟩ ⟨Nat.le_of_ble_eq_true rfl, Nat.le_of_ble_eq_true rfl⟩ d_M_init_115 (fun q115 H hP hD hS => ?_)
  have hP : va_P D vwCl [(a0, .inr (4, [.ref (q7), .int 0, .int 0, .int 0, .ref (q70), .ref (q79), .ref (q88), .ref (q97), .int 0, .ref (q106), .null, .null])), (q7, .inl (cI, 12, .inl (upd (upd (upd (upd (upd (upd (upd (upd (upd (upd (upd (upd (fun _ => 0) 0 (nI (0))) 1 (nI (1))) 2 (nI (2))) 3 (nI (3))) 4 (nI (2))) 5 (nI (1))) 6 (nI (3))) 7 (nI (1))) 8 (nI (3))) 9 (nI (0))) 10 (nI (2))) 11 (nI (0))))), (q70, .inl (cZ, 2400, .inl (fun _ => 0))), (q79, .inl (cI, 2400, .inl (fun _ => 0))), (q88, .inl (cI, 2400, .inl (fun _ => 0))), (q97, .inl (cI, 2400, .inl (fun _ => 0))), (q106, .inl (cI, 4800, .inl (fun _ => 0))), (q115, .inl (cZ, 2400, .inl (fun _ => 0)))] H := hP
  have hD : va_D (va_A [(a0, .inr (4, [.null, .int 0, .int 0, .int 0, .null, .null, .null, .null, .int 0, .null, .null, .null]))] sz) [(a0, .inr (4, [.ref (q7), .int 0, .int 0, .int 0, .ref (q70), .ref (q79), .ref (q88), .ref (q97), .int 0, .ref (q106), .null, .null])), (q7, .inl (cI, 12, .inl (upd (upd (upd (upd (upd (upd (upd (upd (upd (upd (upd (upd (fun _ => 0) 0 (nI (0))) 1 (nI (1))) 2 (nI (2))) 3 (nI (3))) 4 (nI (2))) 5 (nI (1))) 6 (nI (3))) 7 (nI (1))) 8 (nI (3))) 9 (nI (0))) 10 (nI (2))) 11 (nI (0))))), (q70, .inl (cZ, 2400, .inl (fun _ => 0))), (q79, .inl (cI, 2400, .inl (fun _ => 0))), (q88, .inl (cI, 2400, .inl (fun _ => 0))), (q97, .inl (cI, 2400, .inl (fun _ => 0))), (q106, .inl (cI, 4800, .inl (fun _ => 0))), (q115, .inl (cZ, 2400, .inl (fun _ => 0)))] := hD
  refine va_putF (D := D) (ci := 4) (v := .ref (q115)) (ty := .array .boolean) (C := rn_M) (T := tf_M) (N := 12) hx hb hts in_M tt_M tt_M_ok nm_M hown hK hP hD hS 0 rfl rfl 10 (by decide) (hts _ k_fieldLink_rn_M_29_rn_M_reached_Z) (fun _ h9 => h9) rfl hin rfl (by decide +kernel) rfl rfl (Nat.le_of_ble_eq_true rfl) d_M_init_117 (fun H locs hP hD hS => ?_)
  have hP : va_P D vwCl [(a0, .inr (4, [.ref (q7), .int 0, .int 0, .int 0, .ref (q70), .ref (q79), .ref (q88), .ref (q97), .int 0, .ref (q106), .ref (q115), .null])), (q7, .inl (cI, 12, .inl (upd (upd (upd (upd (upd (upd (upd (upd (upd (upd (upd (upd (fun _ => 0) 0 (nI (0))) 1 (nI (1))) 2 (nI (2))) 3 (nI (3))) 4 (nI (2))) 5 (nI (1))) 6 (nI (3))) 7 (nI (1))) 8 (nI (3))) 9 (nI (0))) 10 (nI (2))) 11 (nI (0))))), (q70, .inl (cZ, 2400, .inl (fun _ => 0))), (q79, .inl (cI, 2400, .inl (fun _ => 0))), (q88, .inl (cI, 2400, .inl (fun _ => 0))), (q97, .inl (cI, 2400, .inl (fun _ => 0))), (q106, .inl (cI, 4800, .inl (fun _ => 0))), (q115, .inl (cZ, 2400, .inl (fun _ => 0)))] H := hP
  have hD : va_D (va_A [(a0, .inr (4, [.null, .int 0, .int 0, .int 0, .null, .null, .null, .null, .int 0, .null, .null, .null]))] sz) [(a0, .inr (4, [.ref (q7), .int 0, .int 0, .int 0, .ref (q70), .ref (q79), .ref (q88), .ref (q97), .int 0, .ref (q106), .ref (q115), .null])), (q7, .inl (cI, 12, .inl (upd (upd (upd (upd (upd (upd (upd (upd (upd (upd (upd (upd (fun _ => 0) 0 (nI (0))) 1 (nI (1))) 2 (nI (2))) 3 (nI (3))) 4 (nI (2))) 5 (nI (1))) 6 (nI (3))) 7 (nI (1))) 8 (nI (3))) 9 (nI (0))) 10 (nI (2))) 11 (nI (0))))), (q70, .inl (cZ, 2400, .inl (fun _ => 0))), (q79, .inl (cI, 2400, .inl (fun _ => 0))), (q88, .inl (cI, 2400, .inl (fun _ => 0))), (q97, .inl (cI, 2400, .inl (fun _ => 0))), (q106, .inl (cI, 4800, .inl (fun _ => 0))), (q115, .inl (cZ, 2400, .inl (fun _ => 0)))] := hD
  refine lv_aload_n hx hb d_M_init_120 rfl (lv_at hl 0 rfl) ?_
  refine lv_sipush (v := (nI (2400))) hx hb d_M_init_121 (by decide) ?_
  refine w_newI hx hb hts hK hP hD hS hA (N := 2400) (by omega) 8 19212 ⟨by omega, by omega⟩ ⟨Nat.le_of_ble_eq_true rfl, Nat.le_of_ble_eq_true rfl⟩ d_M_init_124 (fun q124 H hP hD hS => ?_)
  have hP : va_P D vwCl [(a0, .inr (4, [.ref (q7), .int 0, .int 0, .int 0, .ref (q70), .ref (q79), .ref (q88), .ref (q97), .int 0, .ref (q106), .ref (q115), .null])), (q7, .inl (cI, 12, .inl (upd (upd (upd (upd (upd (upd (upd (upd (upd (upd (upd (upd (fun _ => 0) 0 (nI (0))) 1 (nI (1))) 2 (nI (2))) 3 (nI (3))) 4 (nI (2))) 5 (nI (1))) 6 (nI (3))) 7 (nI (1))) 8 (nI (3))) 9 (nI (0))) 10 (nI (2))) 11 (nI (0))))), (q70, .inl (cZ, 2400, .inl (fun _ => 0))), (q79, .inl (cI, 2400, .inl (fun _ => 0))), (q88, .inl (cI, 2400, .inl (fun _ => 0))), (q97, .inl (cI, 2400, .inl (fun _ => 0))), (q106, .inl (cI, 4800, .inl (fun _ => 0))), (q115, .inl (cZ, 2400, .inl (fun _ => 0))), (q124, .inl (cI, 2400, .inl (fun _ => 0)))] H := hP
  have hD : va_D (va_A [(a0, .inr (4, [.null, .int 0, .int 0, .int 0, .null, .null, .null, .null, .int 0, .null, .null, .null]))] sz) [(a0, .inr (4, [.ref (q7), .int 0, .int 0, .int 0, .ref (q70), .ref (q79), .ref (q88), .ref (q97), .int 0, .ref (q106), .ref (q115), .null])), (q7, .inl (cI, 12, .inl (upd (upd (upd (upd (upd (upd (upd (upd (upd (upd (upd (upd (fun _ => 0) 0 (nI (0))) 1 (nI (1))) 2 (nI (2))) 3 (nI (3))) 4 (nI (2))) 5 (nI (1))) 6 (nI (3))) 7 (nI (1))) 8 (nI (3))) 9 (nI (0))) 10 (nI (2))) 11 (nI (0))))), (q70, .inl (cZ, 2400, .inl (fun _ => 0))), (q79, .inl (cI, 2400, .inl (fun _ => 0))), (q88, .inl (cI, 2400, .inl (fun _ => 0))), (q97, .inl (cI, 2400, .inl (fun _ => 0))), (q106, .inl (cI, 4800, .inl (fun _ => 0))), (q115, .inl (cZ, 2400, .inl (fun _ => 0))), (q124, .inl (cI, 2400, .inl (fun _ => 0)))] := hD
  refine va_putF (D := D) (ci := 4) (v := .ref (q124)) (ty := .array .int) (C := rn_M) (T := tf_M) (N := 12) hx hb hts in_M tt_M tt_M_ok nm_M hown hK hP hD hS 0 rfl rfl 11 (by decide) (hts _ k_fieldLink_rn_M_32_rn_M_pile_I) (fun _ h9 => h9) rfl hin rfl (by decide +kernel) rfl rfl (Nat.le_of_ble_eq_true rfl) d_M_init_126 (fun H locs hP hD hS => ?_)
  have hP : va_P D vwCl [(a0, .inr (4, [.ref (q7), .int 0, .int 0, .int 0, .ref (q70), .ref (q79), .ref (q88), .ref (q97), .int 0, .ref (q106), .ref (q115), .ref (q124)])), (q7, .inl (cI, 12, .inl (upd (upd (upd (upd (upd (upd (upd (upd (upd (upd (upd (upd (fun _ => 0) 0 (nI (0))) 1 (nI (1))) 2 (nI (2))) 3 (nI (3))) 4 (nI (2))) 5 (nI (1))) 6 (nI (3))) 7 (nI (1))) 8 (nI (3))) 9 (nI (0))) 10 (nI (2))) 11 (nI (0))))), (q70, .inl (cZ, 2400, .inl (fun _ => 0))), (q79, .inl (cI, 2400, .inl (fun _ => 0))), (q88, .inl (cI, 2400, .inl (fun _ => 0))), (q97, .inl (cI, 2400, .inl (fun _ => 0))), (q106, .inl (cI, 4800, .inl (fun _ => 0))), (q115, .inl (cZ, 2400, .inl (fun _ => 0))), (q124, .inl (cI, 2400, .inl (fun _ => 0)))] H := hP
  have hD : va_D (va_A [(a0, .inr (4, [.null, .int 0, .int 0, .int 0, .null, .null, .null, .null, .int 0, .null, .null, .null]))] sz) [(a0, .inr (4, [.ref (q7), .int 0, .int 0, .int 0, .ref (q70), .ref (q79), .ref (q88), .ref (q97), .int 0, .ref (q106), .ref (q115), .ref (q124)])), (q7, .inl (cI, 12, .inl (upd (upd (upd (upd (upd (upd (upd (upd (upd (upd (upd (upd (fun _ => 0) 0 (nI (0))) 1 (nI (1))) 2 (nI (2))) 3 (nI (3))) 4 (nI (2))) 5 (nI (1))) 6 (nI (3))) 7 (nI (1))) 8 (nI (3))) 9 (nI (0))) 10 (nI (2))) 11 (nI (0))))), (q70, .inl (cZ, 2400, .inl (fun _ => 0))), (q79, .inl (cI, 2400, .inl (fun _ => 0))), (q88, .inl (cI, 2400, .inl (fun _ => 0))), (q97, .inl (cI, 2400, .inl (fun _ => 0))), (q106, .inl (cI, 4800, .inl (fun _ => 0))), (q115, .inl (cZ, 2400, .inl (fun _ => 0))), (q124, .inl (cI, 2400, .inl (fun _ => 0)))] := hD
  refine lv_aload_n hx hb d_M_init_129 rfl (lv_at hl 0 rfl) ?_
  refine lv_iload_n hx hb d_M_init_130 rfl (lv_at hl 1 rfl) ?_
  refine lv_iconst (v := (nI (4))) hx hb d_M_init_131 (by decide) ?_
  refine lv_icmp_ge (tgt := 139) hx hb d_M_init_132 (by decide) (fun c_132 => ?_) (fun c_132 => ?_)
  · refine lv_iload_n hx hb d_M_init_139 rfl (lv_at hl 1 rfl) ?_
    refine lv_bipush (v := (nI (20))) hx hb d_M_init_140 (by decide) ?_
    refine lv_icmp_le (tgt := 150) hx hb d_M_init_142 (by decide) (fun c_142 => ?_) (fun c_142 => ?_)
    · refine lv_iload_n hx hb d_M_init_150 rfl (lv_at hl 1 rfl) ?_
      refine rw_topI (b := nI (rt_sd x)) (by first | exact congrArg nI (rt_sd_lo (Int32.not_le.mp c_132)).symm | exact congrArg nI (rt_sd_hi (Int32.not_le.mp c_142)).symm | exact (rt_sd_in (Int32.not_lt.mpr c_132) (Int32.not_lt.mpr c_142)).2.2) ?_
      refine va_putF (D := D) (ci := 4) (v := .int (nI (rt_sd x))) (ty := .int) (C := rn_M) (T := tf_M) (N := 12) hx hb hts in_M tt_M tt_M_ok nm_M hown hK hP hD hS 0 rfl rfl 2 (by decide) (hts _ k_fieldLink_rn_M_35_rn_M_w_I) (fun _ h9 => h9) rfl hin rfl (by decide +kernel) rfl rfl (Nat.le_of_ble_eq_true rfl) d_M_init_151 (fun H locs hP hD hS => ?_)
      have hP : va_P D vwCl [(a0, .inr (4, [.ref (q7), .int 0, .int (nI (rt_sd x)), .int 0, .ref (q70), .ref (q79), .ref (q88), .ref (q97), .int 0, .ref (q106), .ref (q115), .ref (q124)])), (q7, .inl (cI, 12, .inl (upd (upd (upd (upd (upd (upd (upd (upd (upd (upd (upd (upd (fun _ => 0) 0 (nI (0))) 1 (nI (1))) 2 (nI (2))) 3 (nI (3))) 4 (nI (2))) 5 (nI (1))) 6 (nI (3))) 7 (nI (1))) 8 (nI (3))) 9 (nI (0))) 10 (nI (2))) 11 (nI (0))))), (q70, .inl (cZ, 2400, .inl (fun _ => 0))), (q79, .inl (cI, 2400, .inl (fun _ => 0))), (q88, .inl (cI, 2400, .inl (fun _ => 0))), (q97, .inl (cI, 2400, .inl (fun _ => 0))), (q106, .inl (cI, 4800, .inl (fun _ => 0))), (q115, .inl (cZ, 2400, .inl (fun _ => 0))), (q124, .inl (cI, 2400, .inl (fun _ => 0)))] H := hP
      have hD : va_D (va_A [(a0, .inr (4, [.null, .int 0, .int 0, .int 0, .null, .null, .null, .null, .int 0, .null, .null, .null]))] sz) [(a0, .inr (4, [.ref (q7), .int 0, .int (nI (rt_sd x)), .int 0, .ref (q70), .ref (q79), .ref (q88), .ref (q97), .int 0, .ref (q106), .ref (q115), .ref (q124)])), (q7, .inl (cI, 12, .inl (upd (upd (upd (upd (upd (upd (upd (upd (upd (upd (upd (upd (fun _ => 0) 0 (nI (0))) 1 (nI (1))) 2 (nI (2))) 3 (nI (3))) 4 (nI (2))) 5 (nI (1))) 6 (nI (3))) 7 (nI (1))) 8 (nI (3))) 9 (nI (0))) 10 (nI (2))) 11 (nI (0))))), (q70, .inl (cZ, 2400, .inl (fun _ => 0))), (q79, .inl (cI, 2400, .inl (fun _ => 0))), (q88, .inl (cI, 2400, .inl (fun _ => 0))), (q97, .inl (cI, 2400, .inl (fun _ => 0))), (q106, .inl (cI, 4800, .inl (fun _ => 0))), (q115, .inl (cZ, 2400, .inl (fun _ => 0))), (q124, .inl (cI, 2400, .inl (fun _ => 0)))] := hD
      refine lv_aload_n hx hb d_M_init_154 rfl (lv_at hl 0 rfl) ?_
      refine lv_iload_n hx hb d_M_init_155 rfl (lv_at hl 2 rfl) ?_
      refine lv_iconst (v := (nI (4))) hx hb d_M_init_156 (by decide) ?_
      refine lv_icmp_ge (tgt := 164) hx hb d_M_init_157 (by decide) (fun c_157 => ?_) (fun c_157 => ?_)
      · refine lv_iload_n hx hb d_M_init_164 rfl (lv_at hl 2 rfl) ?_
        refine lv_bipush (v := (nI (20))) hx hb d_M_init_165 (by decide) ?_
        refine lv_icmp_le (tgt := 175) hx hb d_M_init_167 (by decide) (fun c_167 => ?_) (fun c_167 => ?_)
        · refine lv_iload_n hx hb d_M_init_175 rfl (lv_at hl 2 rfl) ?_
          refine rw_topI (b := nI (rt_sd y)) (by first | exact congrArg nI (rt_sd_lo (Int32.not_le.mp c_157)).symm | exact congrArg nI (rt_sd_hi (Int32.not_le.mp c_167)).symm | exact (rt_sd_in (Int32.not_lt.mpr c_157) (Int32.not_lt.mpr c_167)).2.2) ?_
          refine va_putF (D := D) (ci := 4) (v := .int (nI (rt_sd y))) (ty := .int) (C := rn_M) (T := tf_M) (N := 12) hx hb hts in_M tt_M tt_M_ok nm_M hown hK hP hD hS 0 rfl rfl 3 (by decide) (hts _ k_fieldLink_rn_M_39_rn_M_h_I) (fun _ h9 => h9) rfl hin rfl (by decide +kernel) rfl rfl (Nat.le_of_ble_eq_true rfl) d_M_init_176 (fun H locs hP hD hS => ?_)
          have hP : va_P D vwCl [(a0, .inr (4, [.ref (q7), .int 0, .int (nI (rt_sd x)), .int (nI (rt_sd y)), .ref (q70), .ref (q79), .ref (q88), .ref (q97), .int 0, .ref (q106), .ref (q115), .ref (q124)])), (q7, .inl (cI, 12, .inl (upd (upd (upd (upd (upd (upd (upd (upd (upd (upd (upd (upd (fun _ => 0) 0 (nI (0))) 1 (nI (1))) 2 (nI (2))) 3 (nI (3))) 4 (nI (2))) 5 (nI (1))) 6 (nI (3))) 7 (nI (1))) 8 (nI (3))) 9 (nI (0))) 10 (nI (2))) 11 (nI (0))))), (q70, .inl (cZ, 2400, .inl (fun _ => 0))), (q79, .inl (cI, 2400, .inl (fun _ => 0))), (q88, .inl (cI, 2400, .inl (fun _ => 0))), (q97, .inl (cI, 2400, .inl (fun _ => 0))), (q106, .inl (cI, 4800, .inl (fun _ => 0))), (q115, .inl (cZ, 2400, .inl (fun _ => 0))), (q124, .inl (cI, 2400, .inl (fun _ => 0)))] H := hP
          have hD : va_D (va_A [(a0, .inr (4, [.null, .int 0, .int 0, .int 0, .null, .null, .null, .null, .int 0, .null, .null, .null]))] sz) [(a0, .inr (4, [.ref (q7), .int 0, .int (nI (rt_sd x)), .int (nI (rt_sd y)), .ref (q70), .ref (q79), .ref (q88), .ref (q97), .int 0, .ref (q106), .ref (q115), .ref (q124)])), (q7, .inl (cI, 12, .inl (upd (upd (upd (upd (upd (upd (upd (upd (upd (upd (upd (upd (fun _ => 0) 0 (nI (0))) 1 (nI (1))) 2 (nI (2))) 3 (nI (3))) 4 (nI (2))) 5 (nI (1))) 6 (nI (3))) 7 (nI (1))) 8 (nI (3))) 9 (nI (0))) 10 (nI (2))) 11 (nI (0))))), (q70, .inl (cZ, 2400, .inl (fun _ => 0))), (q79, .inl (cI, 2400, .inl (fun _ => 0))), (q88, .inl (cI, 2400, .inl (fun _ => 0))), (q97, .inl (cI, 2400, .inl (fun _ => 0))), (q106, .inl (cI, 4800, .inl (fun _ => 0))), (q115, .inl (cZ, 2400, .inl (fun _ => 0))), (q124, .inl (cI, 2400, .inl (fun _ => 0)))] := hD
          have hP := x_row (q0 := 1) (f' := fun j => nI (rt_ed j)) rt_edz rfl hP
          have hP : va_P D vwCl [(a0, .inr (4, [.ref (q7), .int 0, .int (nI (rt_sd x)), .int (nI (rt_sd y)), .ref (q70), .ref (q79), .ref (q88), .ref (q97), .int 0, .ref (q106), .ref (q115), .ref (q124)])), (q7, .inl (cI, 12, .inl (fun j => nI (rt_ed j)))), (q70, .inl (cZ, 2400, .inl (fun _ => 0))), (q79, .inl (cI, 2400, .inl (fun _ => 0))), (q88, .inl (cI, 2400, .inl (fun _ => 0))), (q97, .inl (cI, 2400, .inl (fun _ => 0))), (q106, .inl (cI, 4800, .inl (fun _ => 0))), (q115, .inl (cZ, 2400, .inl (fun _ => 0))), (q124, .inl (cI, 2400, .inl (fun _ => 0)))] H := hP
          have hD : va_D (va_A [(a0, .inr (4, [.null, .int 0, .int 0, .int 0, .null, .null, .null, .null, .int 0, .null, .null, .null]))] sz) [(a0, .inr (4, [.ref (q7), .int 0, .int (nI (rt_sd x)), .int (nI (rt_sd y)), .ref (q70), .ref (q79), .ref (q88), .ref (q97), .int 0, .ref (q106), .ref (q115), .ref (q124)])), (q7, .inl (cI, 12, .inl (fun j => nI (rt_ed j)))), (q70, .inl (cZ, 2400, .inl (fun _ => 0))), (q79, .inl (cI, 2400, .inl (fun _ => 0))), (q88, .inl (cI, 2400, .inl (fun _ => 0))), (q97, .inl (cI, 2400, .inl (fun _ => 0))), (q106, .inl (cI, 4800, .inl (fun _ => 0))), (q115, .inl (cZ, 2400, .inl (fun _ => 0))), (q124, .inl (cI, 2400, .inl (fun _ => 0)))] := k_D hD rfl
          exact w_kret (fun i => ([a0, q7, q70, q79, q88, q97, q106, q115, q124] : List Nat).getD i 0) hx hb hr hlocks hS hP hD rfl d_M_init_179 ⟨Nat.le_of_ble_eq_true rfl, Nat.le_of_ble_eq_true rfl⟩
        · refine lv_bipush (v := (nI (20))) hx hb d_M_init_170 (by decide) ?_
          refine lv_goto (tgt := 176) hx hb d_M_init_172 (by decide) ?_
          refine rw_topI (b := nI (rt_sd y)) (by first | exact congrArg nI (rt_sd_lo (Int32.not_le.mp c_157)).symm | exact congrArg nI (rt_sd_hi (Int32.not_le.mp c_167)).symm | exact (rt_sd_in (Int32.not_lt.mpr c_157) (Int32.not_lt.mpr c_167)).2.2) ?_
          refine va_putF (D := D) (ci := 4) (v := .int (nI (rt_sd y))) (ty := .int) (C := rn_M) (T := tf_M) (N := 12) hx hb hts in_M tt_M tt_M_ok nm_M hown hK hP hD hS 0 rfl rfl 3 (by decide) (hts _ k_fieldLink_rn_M_39_rn_M_h_I) (fun _ h9 => h9) rfl hin rfl (by decide +kernel) rfl rfl (Nat.le_of_ble_eq_true rfl) d_M_init_176 (fun H locs hP hD hS => ?_)
          have hP : va_P D vwCl [(a0, .inr (4, [.ref (q7), .int 0, .int (nI (rt_sd x)), .int (nI (rt_sd y)), .ref (q70), .ref (q79), .ref (q88), .ref (q97), .int 0, .ref (q106), .ref (q115), .ref (q124)])), (q7, .inl (cI, 12, .inl (upd (upd (upd (upd (upd (upd (upd (upd (upd (upd (upd (upd (fun _ => 0) 0 (nI (0))) 1 (nI (1))) 2 (nI (2))) 3 (nI (3))) 4 (nI (2))) 5 (nI (1))) 6 (nI (3))) 7 (nI (1))) 8 (nI (3))) 9 (nI (0))) 10 (nI (2))) 11 (nI (0))))), (q70, .inl (cZ, 2400, .inl (fun _ => 0))), (q79, .inl (cI, 2400, .inl (fun _ => 0))), (q88, .inl (cI, 2400, .inl (fun _ => 0))), (q97, .inl (cI, 2400, .inl (fun _ => 0))), (q106, .inl (cI, 4800, .inl (fun _ => 0))), (q115, .inl (cZ, 2400, .inl (fun _ => 0))), (q124, .inl (cI, 2400, .inl (fun _ => 0)))] H := hP
          have hD : va_D (va_A [(a0, .inr (4, [.null, .int 0, .int 0, .int 0, .null, .null, .null, .null, .int 0, .null, .null, .null]))] sz) [(a0, .inr (4, [.ref (q7), .int 0, .int (nI (rt_sd x)), .int (nI (rt_sd y)), .ref (q70), .ref (q79), .ref (q88), .ref (q97), .int 0, .ref (q106), .ref (q115), .ref (q124)])), (q7, .inl (cI, 12, .inl (upd (upd (upd (upd (upd (upd (upd (upd (upd (upd (upd (upd (fun _ => 0) 0 (nI (0))) 1 (nI (1))) 2 (nI (2))) 3 (nI (3))) 4 (nI (2))) 5 (nI (1))) 6 (nI (3))) 7 (nI (1))) 8 (nI (3))) 9 (nI (0))) 10 (nI (2))) 11 (nI (0))))), (q70, .inl (cZ, 2400, .inl (fun _ => 0))), (q79, .inl (cI, 2400, .inl (fun _ => 0))), (q88, .inl (cI, 2400, .inl (fun _ => 0))), (q97, .inl (cI, 2400, .inl (fun _ => 0))), (q106, .inl (cI, 4800, .inl (fun _ => 0))), (q115, .inl (cZ, 2400, .inl (fun _ => 0))), (q124, .inl (cI, 2400, .inl (fun _ => 0)))] := hD
          have hP := x_row (q0 := 1) (f' := fun j => nI (rt_ed j)) rt_edz rfl hP
          have hP : va_P D vwCl [(a0, .inr (4, [.ref (q7), .int 0, .int (nI (rt_sd x)), .int (nI (rt_sd y)), .ref (q70), .ref (q79), .ref (q88), .ref (q97), .int 0, .ref (q106), .ref (q115), .ref (q124)])), (q7, .inl (cI, 12, .inl (fun j => nI (rt_ed j)))), (q70, .inl (cZ, 2400, .inl (fun _ => 0))), (q79, .inl (cI, 2400, .inl (fun _ => 0))), (q88, .inl (cI, 2400, .inl (fun _ => 0))), (q97, .inl (cI, 2400, .inl (fun _ => 0))), (q106, .inl (cI, 4800, .inl (fun _ => 0))), (q115, .inl (cZ, 2400, .inl (fun _ => 0))), (q124, .inl (cI, 2400, .inl (fun _ => 0)))] H := hP
          have hD : va_D (va_A [(a0, .inr (4, [.null, .int 0, .int 0, .int 0, .null, .null, .null, .null, .int 0, .null, .null, .null]))] sz) [(a0, .inr (4, [.ref (q7), .int 0, .int (nI (rt_sd x)), .int (nI (rt_sd y)), .ref (q70), .ref (q79), .ref (q88), .ref (q97), .int 0, .ref (q106), .ref (q115), .ref (q124)])), (q7, .inl (cI, 12, .inl (fun j => nI (rt_ed j)))), (q70, .inl (cZ, 2400, .inl (fun _ => 0))), (q79, .inl (cI, 2400, .inl (fun _ => 0))), (q88, .inl (cI, 2400, .inl (fun _ => 0))), (q97, .inl (cI, 2400, .inl (fun _ => 0))), (q106, .inl (cI, 4800, .inl (fun _ => 0))), (q115, .inl (cZ, 2400, .inl (fun _ => 0))), (q124, .inl (cI, 2400, .inl (fun _ => 0)))] := k_D hD rfl
          exact w_kret (fun i => ([a0, q7, q70, q79, q88, q97, q106, q115, q124] : List Nat).getD i 0) hx hb hr hlocks hS hP hD rfl d_M_init_179 ⟨Nat.le_of_ble_eq_true rfl, Nat.le_of_ble_eq_true rfl⟩
      · refine lv_iconst (v := (nI (4))) hx hb d_M_init_160 (by decide) ?_
        refine lv_goto (tgt := 176) hx hb d_M_init_161 (by decide) ?_
        refine rw_topI (b := nI (rt_sd y)) (by first | exact congrArg nI (rt_sd_lo (Int32.not_le.mp c_157)).symm | exact congrArg nI (rt_sd_hi (Int32.not_le.mp c_167)).symm | exact (rt_sd_in (Int32.not_lt.mpr c_157) (Int32.not_lt.mpr c_167)).2.2) ?_
        refine va_putF (D := D) (ci := 4) (v := .int (nI (rt_sd y))) (ty := .int) (C := rn_M) (T := tf_M) (N := 12) hx hb hts in_M tt_M tt_M_ok nm_M hown hK hP hD hS 0 rfl rfl 3 (by decide) (hts _ k_fieldLink_rn_M_39_rn_M_h_I) (fun _ h9 => h9) rfl hin rfl (by decide +kernel) rfl rfl (Nat.le_of_ble_eq_true rfl) d_M_init_176 (fun H locs hP hD hS => ?_)
        have hP : va_P D vwCl [(a0, .inr (4, [.ref (q7), .int 0, .int (nI (rt_sd x)), .int (nI (rt_sd y)), .ref (q70), .ref (q79), .ref (q88), .ref (q97), .int 0, .ref (q106), .ref (q115), .ref (q124)])), (q7, .inl (cI, 12, .inl (upd (upd (upd (upd (upd (upd (upd (upd (upd (upd (upd (upd (fun _ => 0) 0 (nI (0))) 1 (nI (1))) 2 (nI (2))) 3 (nI (3))) 4 (nI (2))) 5 (nI (1))) 6 (nI (3))) 7 (nI (1))) 8 (nI (3))) 9 (nI (0))) 10 (nI (2))) 11 (nI (0))))), (q70, .inl (cZ, 2400, .inl (fun _ => 0))), (q79, .inl (cI, 2400, .inl (fun _ => 0))), (q88, .inl (cI, 2400, .inl (fun _ => 0))), (q97, .inl (cI, 2400, .inl (fun _ => 0))), (q106, .inl (cI, 4800, .inl (fun _ => 0))), (q115, .inl (cZ, 2400, .inl (fun _ => 0))), (q124, .inl (cI, 2400, .inl (fun _ => 0)))] H := hP
        have hD : va_D (va_A [(a0, .inr (4, [.null, .int 0, .int 0, .int 0, .null, .null, .null, .null, .int 0, .null, .null, .null]))] sz) [(a0, .inr (4, [.ref (q7), .int 0, .int (nI (rt_sd x)), .int (nI (rt_sd y)), .ref (q70), .ref (q79), .ref (q88), .ref (q97), .int 0, .ref (q106), .ref (q115), .ref (q124)])), (q7, .inl (cI, 12, .inl (upd (upd (upd (upd (upd (upd (upd (upd (upd (upd (upd (upd (fun _ => 0) 0 (nI (0))) 1 (nI (1))) 2 (nI (2))) 3 (nI (3))) 4 (nI (2))) 5 (nI (1))) 6 (nI (3))) 7 (nI (1))) 8 (nI (3))) 9 (nI (0))) 10 (nI (2))) 11 (nI (0))))), (q70, .inl (cZ, 2400, .inl (fun _ => 0))), (q79, .inl (cI, 2400, .inl (fun _ => 0))), (q88, .inl (cI, 2400, .inl (fun _ => 0))), (q97, .inl (cI, 2400, .inl (fun _ => 0))), (q106, .inl (cI, 4800, .inl (fun _ => 0))), (q115, .inl (cZ, 2400, .inl (fun _ => 0))), (q124, .inl (cI, 2400, .inl (fun _ => 0)))] := hD
        have hP := x_row (q0 := 1) (f' := fun j => nI (rt_ed j)) rt_edz rfl hP
        have hP : va_P D vwCl [(a0, .inr (4, [.ref (q7), .int 0, .int (nI (rt_sd x)), .int (nI (rt_sd y)), .ref (q70), .ref (q79), .ref (q88), .ref (q97), .int 0, .ref (q106), .ref (q115), .ref (q124)])), (q7, .inl (cI, 12, .inl (fun j => nI (rt_ed j)))), (q70, .inl (cZ, 2400, .inl (fun _ => 0))), (q79, .inl (cI, 2400, .inl (fun _ => 0))), (q88, .inl (cI, 2400, .inl (fun _ => 0))), (q97, .inl (cI, 2400, .inl (fun _ => 0))), (q106, .inl (cI, 4800, .inl (fun _ => 0))), (q115, .inl (cZ, 2400, .inl (fun _ => 0))), (q124, .inl (cI, 2400, .inl (fun _ => 0)))] H := hP
        have hD : va_D (va_A [(a0, .inr (4, [.null, .int 0, .int 0, .int 0, .null, .null, .null, .null, .int 0, .null, .null, .null]))] sz) [(a0, .inr (4, [.ref (q7), .int 0, .int (nI (rt_sd x)), .int (nI (rt_sd y)), .ref (q70), .ref (q79), .ref (q88), .ref (q97), .int 0, .ref (q106), .ref (q115), .ref (q124)])), (q7, .inl (cI, 12, .inl (fun j => nI (rt_ed j)))), (q70, .inl (cZ, 2400, .inl (fun _ => 0))), (q79, .inl (cI, 2400, .inl (fun _ => 0))), (q88, .inl (cI, 2400, .inl (fun _ => 0))), (q97, .inl (cI, 2400, .inl (fun _ => 0))), (q106, .inl (cI, 4800, .inl (fun _ => 0))), (q115, .inl (cZ, 2400, .inl (fun _ => 0))), (q124, .inl (cI, 2400, .inl (fun _ => 0)))] := k_D hD rfl
        exact w_kret (fun i => ([a0, q7, q70, q79, q88, q97, q106, q115, q124] : List Nat).getD i 0) hx hb hr hlocks hS hP hD rfl d_M_init_179 ⟨Nat.le_of_ble_eq_true rfl, Nat.le_of_ble_eq_true rfl⟩
    · refine lv_bipush (v := (nI (20))) hx hb d_M_init_145 (by decide) ?_
      refine lv_goto (tgt := 151) hx hb d_M_init_147 (by decide) ?_
      refine rw_topI (b := nI (rt_sd x)) (by first | exact congrArg nI (rt_sd_lo (Int32.not_le.mp c_132)).symm | exact congrArg nI (rt_sd_hi (Int32.not_le.mp c_142)).symm | exact (rt_sd_in (Int32.not_lt.mpr c_132) (Int32.not_lt.mpr c_142)).2.2) ?_
      refine va_putF (D := D) (ci := 4) (v := .int (nI (rt_sd x))) (ty := .int) (C := rn_M) (T := tf_M) (N := 12) hx hb hts in_M tt_M tt_M_ok nm_M hown hK hP hD hS 0 rfl rfl 2 (by decide) (hts _ k_fieldLink_rn_M_35_rn_M_w_I) (fun _ h9 => h9) rfl hin rfl (by decide +kernel) rfl rfl (Nat.le_of_ble_eq_true rfl) d_M_init_151 (fun H locs hP hD hS => ?_)
      have hP : va_P D vwCl [(a0, .inr (4, [.ref (q7), .int 0, .int (nI (rt_sd x)), .int 0, .ref (q70), .ref (q79), .ref (q88), .ref (q97), .int 0, .ref (q106), .ref (q115), .ref (q124)])), (q7, .inl (cI, 12, .inl (upd (upd (upd (upd (upd (upd (upd (upd (upd (upd (upd (upd (fun _ => 0) 0 (nI (0))) 1 (nI (1))) 2 (nI (2))) 3 (nI (3))) 4 (nI (2))) 5 (nI (1))) 6 (nI (3))) 7 (nI (1))) 8 (nI (3))) 9 (nI (0))) 10 (nI (2))) 11 (nI (0))))), (q70, .inl (cZ, 2400, .inl (fun _ => 0))), (q79, .inl (cI, 2400, .inl (fun _ => 0))), (q88, .inl (cI, 2400, .inl (fun _ => 0))), (q97, .inl (cI, 2400, .inl (fun _ => 0))), (q106, .inl (cI, 4800, .inl (fun _ => 0))), (q115, .inl (cZ, 2400, .inl (fun _ => 0))), (q124, .inl (cI, 2400, .inl (fun _ => 0)))] H := hP
      have hD : va_D (va_A [(a0, .inr (4, [.null, .int 0, .int 0, .int 0, .null, .null, .null, .null, .int 0, .null, .null, .null]))] sz) [(a0, .inr (4, [.ref (q7), .int 0, .int (nI (rt_sd x)), .int 0, .ref (q70), .ref (q79), .ref (q88), .ref (q97), .int 0, .ref (q106), .ref (q115), .ref (q124)])), (q7, .inl (cI, 12, .inl (upd (upd (upd (upd (upd (upd (upd (upd (upd (upd (upd (upd (fun _ => 0) 0 (nI (0))) 1 (nI (1))) 2 (nI (2))) 3 (nI (3))) 4 (nI (2))) 5 (nI (1))) 6 (nI (3))) 7 (nI (1))) 8 (nI (3))) 9 (nI (0))) 10 (nI (2))) 11 (nI (0))))), (q70, .inl (cZ, 2400, .inl (fun _ => 0))), (q79, .inl (cI, 2400, .inl (fun _ => 0))), (q88, .inl (cI, 2400, .inl (fun _ => 0))), (q97, .inl (cI, 2400, .inl (fun _ => 0))), (q106, .inl (cI, 4800, .inl (fun _ => 0))), (q115, .inl (cZ, 2400, .inl (fun _ => 0))), (q124, .inl (cI, 2400, .inl (fun _ => 0)))] := hD
      refine lv_aload_n hx hb d_M_init_154 rfl (lv_at hl 0 rfl) ?_
      refine lv_iload_n hx hb d_M_init_155 rfl (lv_at hl 2 rfl) ?_
      refine lv_iconst (v := (nI (4))) hx hb d_M_init_156 (by decide) ?_
      refine lv_icmp_ge (tgt := 164) hx hb d_M_init_157 (by decide) (fun c_157 => ?_) (fun c_157 => ?_)
      · refine lv_iload_n hx hb d_M_init_164 rfl (lv_at hl 2 rfl) ?_
        refine lv_bipush (v := (nI (20))) hx hb d_M_init_165 (by decide) ?_
        refine lv_icmp_le (tgt := 175) hx hb d_M_init_167 (by decide) (fun c_167 => ?_) (fun c_167 => ?_)
        · refine lv_iload_n hx hb d_M_init_175 rfl (lv_at hl 2 rfl) ?_
          refine rw_topI (b := nI (rt_sd y)) (by first | exact congrArg nI (rt_sd_lo (Int32.not_le.mp c_157)).symm | exact congrArg nI (rt_sd_hi (Int32.not_le.mp c_167)).symm | exact (rt_sd_in (Int32.not_lt.mpr c_157) (Int32.not_lt.mpr c_167)).2.2) ?_
          refine va_putF (D := D) (ci := 4) (v := .int (nI (rt_sd y))) (ty := .int) (C := rn_M) (T := tf_M) (N := 12) hx hb hts in_M tt_M tt_M_ok nm_M hown hK hP hD hS 0 rfl rfl 3 (by decide) (hts _ k_fieldLink_rn_M_39_rn_M_h_I) (fun _ h9 => h9) rfl hin rfl (by decide +kernel) rfl rfl (Nat.le_of_ble_eq_true rfl) d_M_init_176 (fun H locs hP hD hS => ?_)
          have hP : va_P D vwCl [(a0, .inr (4, [.ref (q7), .int 0, .int (nI (rt_sd x)), .int (nI (rt_sd y)), .ref (q70), .ref (q79), .ref (q88), .ref (q97), .int 0, .ref (q106), .ref (q115), .ref (q124)])), (q7, .inl (cI, 12, .inl (upd (upd (upd (upd (upd (upd (upd (upd (upd (upd (upd (upd (fun _ => 0) 0 (nI (0))) 1 (nI (1))) 2 (nI (2))) 3 (nI (3))) 4 (nI (2))) 5 (nI (1))) 6 (nI (3))) 7 (nI (1))) 8 (nI (3))) 9 (nI (0))) 10 (nI (2))) 11 (nI (0))))), (q70, .inl (cZ, 2400, .inl (fun _ => 0))), (q79, .inl (cI, 2400, .inl (fun _ => 0))), (q88, .inl (cI, 2400, .inl (fun _ => 0))), (q97, .inl (cI, 2400, .inl (fun _ => 0))), (q106, .inl (cI, 4800, .inl (fun _ => 0))), (q115, .inl (cZ, 2400, .inl (fun _ => 0))), (q124, .inl (cI, 2400, .inl (fun _ => 0)))] H := hP
          have hD : va_D (va_A [(a0, .inr (4, [.null, .int 0, .int 0, .int 0, .null, .null, .null, .null, .int 0, .null, .null, .null]))] sz) [(a0, .inr (4, [.ref (q7), .int 0, .int (nI (rt_sd x)), .int (nI (rt_sd y)), .ref (q70), .ref (q79), .ref (q88), .ref (q97), .int 0, .ref (q106), .ref (q115), .ref (q124)])), (q7, .inl (cI, 12, .inl (upd (upd (upd (upd (upd (upd (upd (upd (upd (upd (upd (upd (fun _ => 0) 0 (nI (0))) 1 (nI (1))) 2 (nI (2))) 3 (nI (3))) 4 (nI (2))) 5 (nI (1))) 6 (nI (3))) 7 (nI (1))) 8 (nI (3))) 9 (nI (0))) 10 (nI (2))) 11 (nI (0))))), (q70, .inl (cZ, 2400, .inl (fun _ => 0))), (q79, .inl (cI, 2400, .inl (fun _ => 0))), (q88, .inl (cI, 2400, .inl (fun _ => 0))), (q97, .inl (cI, 2400, .inl (fun _ => 0))), (q106, .inl (cI, 4800, .inl (fun _ => 0))), (q115, .inl (cZ, 2400, .inl (fun _ => 0))), (q124, .inl (cI, 2400, .inl (fun _ => 0)))] := hD
          have hP := x_row (q0 := 1) (f' := fun j => nI (rt_ed j)) rt_edz rfl hP
          have hP : va_P D vwCl [(a0, .inr (4, [.ref (q7), .int 0, .int (nI (rt_sd x)), .int (nI (rt_sd y)), .ref (q70), .ref (q79), .ref (q88), .ref (q97), .int 0, .ref (q106), .ref (q115), .ref (q124)])), (q7, .inl (cI, 12, .inl (fun j => nI (rt_ed j)))), (q70, .inl (cZ, 2400, .inl (fun _ => 0))), (q79, .inl (cI, 2400, .inl (fun _ => 0))), (q88, .inl (cI, 2400, .inl (fun _ => 0))), (q97, .inl (cI, 2400, .inl (fun _ => 0))), (q106, .inl (cI, 4800, .inl (fun _ => 0))), (q115, .inl (cZ, 2400, .inl (fun _ => 0))), (q124, .inl (cI, 2400, .inl (fun _ => 0)))] H := hP
          have hD : va_D (va_A [(a0, .inr (4, [.null, .int 0, .int 0, .int 0, .null, .null, .null, .null, .int 0, .null, .null, .null]))] sz) [(a0, .inr (4, [.ref (q7), .int 0, .int (nI (rt_sd x)), .int (nI (rt_sd y)), .ref (q70), .ref (q79), .ref (q88), .ref (q97), .int 0, .ref (q106), .ref (q115), .ref (q124)])), (q7, .inl (cI, 12, .inl (fun j => nI (rt_ed j)))), (q70, .inl (cZ, 2400, .inl (fun _ => 0))), (q79, .inl (cI, 2400, .inl (fun _ => 0))), (q88, .inl (cI, 2400, .inl (fun _ => 0))), (q97, .inl (cI, 2400, .inl (fun _ => 0))), (q106, .inl (cI, 4800, .inl (fun _ => 0))), (q115, .inl (cZ, 2400, .inl (fun _ => 0))), (q124, .inl (cI, 2400, .inl (fun _ => 0)))] := k_D hD rfl
          exact w_kret (fun i => ([a0, q7, q70, q79, q88, q97, q106, q115, q124] : List Nat).getD i 0) hx hb hr hlocks hS hP hD rfl d_M_init_179 ⟨Nat.le_of_ble_eq_true rfl, Nat.le_of_ble_eq_true rfl⟩
        · refine lv_bipush (v := (nI (20))) hx hb d_M_init_170 (by decide) ?_
          refine lv_goto (tgt := 176) hx hb d_M_init_172 (by decide) ?_
          refine rw_topI (b := nI (rt_sd y)) (by first | exact congrArg nI (rt_sd_lo (Int32.not_le.mp c_157)).symm | exact congrArg nI (rt_sd_hi (Int32.not_le.mp c_167)).symm | exact (rt_sd_in (Int32.not_lt.mpr c_157) (Int32.not_lt.mpr c_167)).2.2) ?_
          refine va_putF (D := D) (ci := 4) (v := .int (nI (rt_sd y))) (ty := .int) (C := rn_M) (T := tf_M) (N := 12) hx hb hts in_M tt_M tt_M_ok nm_M hown hK hP hD hS 0 rfl rfl 3 (by decide) (hts _ k_fieldLink_rn_M_39_rn_M_h_I) (fun _ h9 => h9) rfl hin rfl (by decide +kernel) rfl rfl (Nat.le_of_ble_eq_true rfl) d_M_init_176 (fun H locs hP hD hS => ?_)
          have hP : va_P D vwCl [(a0, .inr (4, [.ref (q7), .int 0, .int (nI (rt_sd x)), .int (nI (rt_sd y)), .ref (q70), .ref (q79), .ref (q88), .ref (q97), .int 0, .ref (q106), .ref (q115), .ref (q124)])), (q7, .inl (cI, 12, .inl (upd (upd (upd (upd (upd (upd (upd (upd (upd (upd (upd (upd (fun _ => 0) 0 (nI (0))) 1 (nI (1))) 2 (nI (2))) 3 (nI (3))) 4 (nI (2))) 5 (nI (1))) 6 (nI (3))) 7 (nI (1))) 8 (nI (3))) 9 (nI (0))) 10 (nI (2))) 11 (nI (0))))), (q70, .inl (cZ, 2400, .inl (fun _ => 0))), (q79, .inl (cI, 2400, .inl (fun _ => 0))), (q88, .inl (cI, 2400, .inl (fun _ => 0))), (q97, .inl (cI, 2400, .inl (fun _ => 0))), (q106, .inl (cI, 4800, .inl (fun _ => 0))), (q115, .inl (cZ, 2400, .inl (fun _ => 0))), (q124, .inl (cI, 2400, .inl (fun _ => 0)))] H := hP
          have hD : va_D (va_A [(a0, .inr (4, [.null, .int 0, .int 0, .int 0, .null, .null, .null, .null, .int 0, .null, .null, .null]))] sz) [(a0, .inr (4, [.ref (q7), .int 0, .int (nI (rt_sd x)), .int (nI (rt_sd y)), .ref (q70), .ref (q79), .ref (q88), .ref (q97), .int 0, .ref (q106), .ref (q115), .ref (q124)])), (q7, .inl (cI, 12, .inl (upd (upd (upd (upd (upd (upd (upd (upd (upd (upd (upd (upd (fun _ => 0) 0 (nI (0))) 1 (nI (1))) 2 (nI (2))) 3 (nI (3))) 4 (nI (2))) 5 (nI (1))) 6 (nI (3))) 7 (nI (1))) 8 (nI (3))) 9 (nI (0))) 10 (nI (2))) 11 (nI (0))))), (q70, .inl (cZ, 2400, .inl (fun _ => 0))), (q79, .inl (cI, 2400, .inl (fun _ => 0))), (q88, .inl (cI, 2400, .inl (fun _ => 0))), (q97, .inl (cI, 2400, .inl (fun _ => 0))), (q106, .inl (cI, 4800, .inl (fun _ => 0))), (q115, .inl (cZ, 2400, .inl (fun _ => 0))), (q124, .inl (cI, 2400, .inl (fun _ => 0)))] := hD
          have hP := x_row (q0 := 1) (f' := fun j => nI (rt_ed j)) rt_edz rfl hP
          have hP : va_P D vwCl [(a0, .inr (4, [.ref (q7), .int 0, .int (nI (rt_sd x)), .int (nI (rt_sd y)), .ref (q70), .ref (q79), .ref (q88), .ref (q97), .int 0, .ref (q106), .ref (q115), .ref (q124)])), (q7, .inl (cI, 12, .inl (fun j => nI (rt_ed j)))), (q70, .inl (cZ, 2400, .inl (fun _ => 0))), (q79, .inl (cI, 2400, .inl (fun _ => 0))), (q88, .inl (cI, 2400, .inl (fun _ => 0))), (q97, .inl (cI, 2400, .inl (fun _ => 0))), (q106, .inl (cI, 4800, .inl (fun _ => 0))), (q115, .inl (cZ, 2400, .inl (fun _ => 0))), (q124, .inl (cI, 2400, .inl (fun _ => 0)))] H := hP
          have hD : va_D (va_A [(a0, .inr (4, [.null, .int 0, .int 0, .int 0, .null, .null, .null, .null, .int 0, .null, .null, .null]))] sz) [(a0, .inr (4, [.ref (q7), .int 0, .int (nI (rt_sd x)), .int (nI (rt_sd y)), .ref (q70), .ref (q79), .ref (q88), .ref (q97), .int 0, .ref (q106), .ref (q115), .ref (q124)])), (q7, .inl (cI, 12, .inl (fun j => nI (rt_ed j)))), (q70, .inl (cZ, 2400, .inl (fun _ => 0))), (q79, .inl (cI, 2400, .inl (fun _ => 0))), (q88, .inl (cI, 2400, .inl (fun _ => 0))), (q97, .inl (cI, 2400, .inl (fun _ => 0))), (q106, .inl (cI, 4800, .inl (fun _ => 0))), (q115, .inl (cZ, 2400, .inl (fun _ => 0))), (q124, .inl (cI, 2400, .inl (fun _ => 0)))] := k_D hD rfl
          exact w_kret (fun i => ([a0, q7, q70, q79, q88, q97, q106, q115, q124] : List Nat).getD i 0) hx hb hr hlocks hS hP hD rfl d_M_init_179 ⟨Nat.le_of_ble_eq_true rfl, Nat.le_of_ble_eq_true rfl⟩
      · refine lv_iconst (v := (nI (4))) hx hb d_M_init_160 (by decide) ?_
        refine lv_goto (tgt := 176) hx hb d_M_init_161 (by decide) ?_
        refine rw_topI (b := nI (rt_sd y)) (by first | exact congrArg nI (rt_sd_lo (Int32.not_le.mp c_157)).symm | exact congrArg nI (rt_sd_hi (Int32.not_le.mp c_167)).symm | exact (rt_sd_in (Int32.not_lt.mpr c_157) (Int32.not_lt.mpr c_167)).2.2) ?_
        refine va_putF (D := D) (ci := 4) (v := .int (nI (rt_sd y))) (ty := .int) (C := rn_M) (T := tf_M) (N := 12) hx hb hts in_M tt_M tt_M_ok nm_M hown hK hP hD hS 0 rfl rfl 3 (by decide) (hts _ k_fieldLink_rn_M_39_rn_M_h_I) (fun _ h9 => h9) rfl hin rfl (by decide +kernel) rfl rfl (Nat.le_of_ble_eq_true rfl) d_M_init_176 (fun H locs hP hD hS => ?_)
        have hP : va_P D vwCl [(a0, .inr (4, [.ref (q7), .int 0, .int (nI (rt_sd x)), .int (nI (rt_sd y)), .ref (q70), .ref (q79), .ref (q88), .ref (q97), .int 0, .ref (q106), .ref (q115), .ref (q124)])), (q7, .inl (cI, 12, .inl (upd (upd (upd (upd (upd (upd (upd (upd (upd (upd (upd (upd (fun _ => 0) 0 (nI (0))) 1 (nI (1))) 2 (nI (2))) 3 (nI (3))) 4 (nI (2))) 5 (nI (1))) 6 (nI (3))) 7 (nI (1))) 8 (nI (3))) 9 (nI (0))) 10 (nI (2))) 11 (nI (0))))), (q70, .inl (cZ, 2400, .inl (fun _ => 0))), (q79, .inl (cI, 2400, .inl (fun _ => 0))), (q88, .inl (cI, 2400, .inl (fun _ => 0))), (q97, .inl (cI, 2400, .inl (fun _ => 0))), (q106, .inl (cI, 4800, .inl (fun _ => 0))), (q115, .inl (cZ, 2400, .inl (fun _ => 0))), (q124, .inl (cI, 2400, .inl (fun _ => 0)))] H := hP
        have hD : va_D (va_A [(a0, .inr (4, [.null, .int 0, .int 0, .int 0, .null, .null, .null, .null, .int 0, .null, .null, .null]))] sz) [(a0, .inr (4, [.ref (q7), .int 0, .int (nI (rt_sd x)), .int (nI (rt_sd y)), .ref (q70), .ref (q79), .ref (q88), .ref (q97), .int 0, .ref (q106), .ref (q115), .ref (q124)])), (q7, .inl (cI, 12, .inl (upd (upd (upd (upd (upd (upd (upd (upd (upd (upd (upd (upd (fun _ => 0) 0 (nI (0))) 1 (nI (1))) 2 (nI (2))) 3 (nI (3))) 4 (nI (2))) 5 (nI (1))) 6 (nI (3))) 7 (nI (1))) 8 (nI (3))) 9 (nI (0))) 10 (nI (2))) 11 (nI (0))))), (q70, .inl (cZ, 2400, .inl (fun _ => 0))), (q79, .inl (cI, 2400, .inl (fun _ => 0))), (q88, .inl (cI, 2400, .inl (fun _ => 0))), (q97, .inl (cI, 2400, .inl (fun _ => 0))), (q106, .inl (cI, 4800, .inl (fun _ => 0))), (q115, .inl (cZ, 2400, .inl (fun _ => 0))), (q124, .inl (cI, 2400, .inl (fun _ => 0)))] := hD
        have hP := x_row (q0 := 1) (f' := fun j => nI (rt_ed j)) rt_edz rfl hP
        have hP : va_P D vwCl [(a0, .inr (4, [.ref (q7), .int 0, .int (nI (rt_sd x)), .int (nI (rt_sd y)), .ref (q70), .ref (q79), .ref (q88), .ref (q97), .int 0, .ref (q106), .ref (q115), .ref (q124)])), (q7, .inl (cI, 12, .inl (fun j => nI (rt_ed j)))), (q70, .inl (cZ, 2400, .inl (fun _ => 0))), (q79, .inl (cI, 2400, .inl (fun _ => 0))), (q88, .inl (cI, 2400, .inl (fun _ => 0))), (q97, .inl (cI, 2400, .inl (fun _ => 0))), (q106, .inl (cI, 4800, .inl (fun _ => 0))), (q115, .inl (cZ, 2400, .inl (fun _ => 0))), (q124, .inl (cI, 2400, .inl (fun _ => 0)))] H := hP
        have hD : va_D (va_A [(a0, .inr (4, [.null, .int 0, .int 0, .int 0, .null, .null, .null, .null, .int 0, .null, .null, .null]))] sz) [(a0, .inr (4, [.ref (q7), .int 0, .int (nI (rt_sd x)), .int (nI (rt_sd y)), .ref (q70), .ref (q79), .ref (q88), .ref (q97), .int 0, .ref (q106), .ref (q115), .ref (q124)])), (q7, .inl (cI, 12, .inl (fun j => nI (rt_ed j)))), (q70, .inl (cZ, 2400, .inl (fun _ => 0))), (q79, .inl (cI, 2400, .inl (fun _ => 0))), (q88, .inl (cI, 2400, .inl (fun _ => 0))), (q97, .inl (cI, 2400, .inl (fun _ => 0))), (q106, .inl (cI, 4800, .inl (fun _ => 0))), (q115, .inl (cZ, 2400, .inl (fun _ => 0))), (q124, .inl (cI, 2400, .inl (fun _ => 0)))] := k_D hD rfl
        exact w_kret (fun i => ([a0, q7, q70, q79, q88, q97, q106, q115, q124] : List Nat).getD i 0) hx hb hr hlocks hS hP hD rfl d_M_init_179 ⟨Nat.le_of_ble_eq_true rfl, Nat.le_of_ble_eq_true rfl⟩
  · refine lv_iconst (v := (nI (4))) hx hb d_M_init_135 (by decide) ?_
    refine lv_goto (tgt := 151) hx hb d_M_init_136 (by decide) ?_
    refine rw_topI (b := nI (rt_sd x)) (by first | exact congrArg nI (rt_sd_lo (Int32.not_le.mp c_132)).symm | exact congrArg nI (rt_sd_hi (Int32.not_le.mp c_142)).symm | exact (rt_sd_in (Int32.not_lt.mpr c_132) (Int32.not_lt.mpr c_142)).2.2) ?_
    refine va_putF (D := D) (ci := 4) (v := .int (nI (rt_sd x))) (ty := .int) (C := rn_M) (T := tf_M) (N := 12) hx hb hts in_M tt_M tt_M_ok nm_M hown hK hP hD hS 0 rfl rfl 2 (by decide) (hts _ k_fieldLink_rn_M_35_rn_M_w_I) (fun _ h9 => h9) rfl hin rfl (by decide +kernel) rfl rfl (Nat.le_of_ble_eq_true rfl) d_M_init_151 (fun H locs hP hD hS => ?_)
    have hP : va_P D vwCl [(a0, .inr (4, [.ref (q7), .int 0, .int (nI (rt_sd x)), .int 0, .ref (q70), .ref (q79), .ref (q88), .ref (q97), .int 0, .ref (q106), .ref (q115), .ref (q124)])), (q7, .inl (cI, 12, .inl (upd (upd (upd (upd (upd (upd (upd (upd (upd (upd (upd (upd (fun _ => 0) 0 (nI (0))) 1 (nI (1))) 2 (nI (2))) 3 (nI (3))) 4 (nI (2))) 5 (nI (1))) 6 (nI (3))) 7 (nI (1))) 8 (nI (3))) 9 (nI (0))) 10 (nI (2))) 11 (nI (0))))), (q70, .inl (cZ, 2400, .inl (fun _ => 0))), (q79, .inl (cI, 2400, .inl (fun _ => 0))), (q88, .inl (cI, 2400, .inl (fun _ => 0))), (q97, .inl (cI, 2400, .inl (fun _ => 0))), (q106, .inl (cI, 4800, .inl (fun _ => 0))), (q115, .inl (cZ, 2400, .inl (fun _ => 0))), (q124, .inl (cI, 2400, .inl (fun _ => 0)))] H := hP
    have hD : va_D (va_A [(a0, .inr (4, [.null, .int 0, .int 0, .int 0, .null, .null, .null, .null, .int 0, .null, .null, .null]))] sz) [(a0, .inr (4, [.ref (q7), .int 0, .int (nI (rt_sd x)), .int 0, .ref (q70), .ref (q79), .ref (q88), .ref (q97), .int 0, .ref (q106), .ref (q115), .ref (q124)])), (q7, .inl (cI, 12, .inl (upd (upd (upd (upd (upd (upd (upd (upd (upd (upd (upd (upd (fun _ => 0) 0 (nI (0))) 1 (nI (1))) 2 (nI (2))) 3 (nI (3))) 4 (nI (2))) 5 (nI (1))) 6 (nI (3))) 7 (nI (1))) 8 (nI (3))) 9 (nI (0))) 10 (nI (2))) 11 (nI (0))))), (q70, .inl (cZ, 2400, .inl (fun _ => 0))), (q79, .inl (cI, 2400, .inl (fun _ => 0))), (q88, .inl (cI, 2400, .inl (fun _ => 0))), (q97, .inl (cI, 2400, .inl (fun _ => 0))), (q106, .inl (cI, 4800, .inl (fun _ => 0))), (q115, .inl (cZ, 2400, .inl (fun _ => 0))), (q124, .inl (cI, 2400, .inl (fun _ => 0)))] := hD
    refine lv_aload_n hx hb d_M_init_154 rfl (lv_at hl 0 rfl) ?_
    refine lv_iload_n hx hb d_M_init_155 rfl (lv_at hl 2 rfl) ?_
    refine lv_iconst (v := (nI (4))) hx hb d_M_init_156 (by decide) ?_
    refine lv_icmp_ge (tgt := 164) hx hb d_M_init_157 (by decide) (fun c_157 => ?_) (fun c_157 => ?_)
    · refine lv_iload_n hx hb d_M_init_164 rfl (lv_at hl 2 rfl) ?_
      refine lv_bipush (v := (nI (20))) hx hb d_M_init_165 (by decide) ?_
      refine lv_icmp_le (tgt := 175) hx hb d_M_init_167 (by decide) (fun c_167 => ?_) (fun c_167 => ?_)
      · refine lv_iload_n hx hb d_M_init_175 rfl (lv_at hl 2 rfl) ?_
        refine rw_topI (b := nI (rt_sd y)) (by first | exact congrArg nI (rt_sd_lo (Int32.not_le.mp c_157)).symm | exact congrArg nI (rt_sd_hi (Int32.not_le.mp c_167)).symm | exact (rt_sd_in (Int32.not_lt.mpr c_157) (Int32.not_lt.mpr c_167)).2.2) ?_
        refine va_putF (D := D) (ci := 4) (v := .int (nI (rt_sd y))) (ty := .int) (C := rn_M) (T := tf_M) (N := 12) hx hb hts in_M tt_M tt_M_ok nm_M hown hK hP hD hS 0 rfl rfl 3 (by decide) (hts _ k_fieldLink_rn_M_39_rn_M_h_I) (fun _ h9 => h9) rfl hin rfl (by decide +kernel) rfl rfl (Nat.le_of_ble_eq_true rfl) d_M_init_176 (fun H locs hP hD hS => ?_)
        have hP : va_P D vwCl [(a0, .inr (4, [.ref (q7), .int 0, .int (nI (rt_sd x)), .int (nI (rt_sd y)), .ref (q70), .ref (q79), .ref (q88), .ref (q97), .int 0, .ref (q106), .ref (q115), .ref (q124)])), (q7, .inl (cI, 12, .inl (upd (upd (upd (upd (upd (upd (upd (upd (upd (upd (upd (upd (fun _ => 0) 0 (nI (0))) 1 (nI (1))) 2 (nI (2))) 3 (nI (3))) 4 (nI (2))) 5 (nI (1))) 6 (nI (3))) 7 (nI (1))) 8 (nI (3))) 9 (nI (0))) 10 (nI (2))) 11 (nI (0))))), (q70, .inl (cZ, 2400, .inl (fun _ => 0))), (q79, .inl (cI, 2400, .inl (fun _ => 0))), (q88, .inl (cI, 2400, .inl (fun _ => 0))), (q97, .inl (cI, 2400, .inl (fun _ => 0))), (q106, .inl (cI, 4800, .inl (fun _ => 0))), (q115, .inl (cZ, 2400, .inl (fun _ => 0))), (q124, .inl (cI, 2400, .inl (fun _ => 0)))] H := hP
        have hD : va_D (va_A [(a0, .inr (4, [.null, .int 0, .int 0, .int 0, .null, .null, .null, .null, .int 0, .null, .null, .null]))] sz) [(a0, .inr (4, [.ref (q7), .int 0, .int (nI (rt_sd x)), .int (nI (rt_sd y)), .ref (q70), .ref (q79), .ref (q88), .ref (q97), .int 0, .ref (q106), .ref (q115), .ref (q124)])), (q7, .inl (cI, 12, .inl (upd (upd (upd (upd (upd (upd (upd (upd (upd (upd (upd (upd (fun _ => 0) 0 (nI (0))) 1 (nI (1))) 2 (nI (2))) 3 (nI (3))) 4 (nI (2))) 5 (nI (1))) 6 (nI (3))) 7 (nI (1))) 8 (nI (3))) 9 (nI (0))) 10 (nI (2))) 11 (nI (0))))), (q70, .inl (cZ, 2400, .inl (fun _ => 0))), (q79, .inl (cI, 2400, .inl (fun _ => 0))), (q88, .inl (cI, 2400, .inl (fun _ => 0))), (q97, .inl (cI, 2400, .inl (fun _ => 0))), (q106, .inl (cI, 4800, .inl (fun _ => 0))), (q115, .inl (cZ, 2400, .inl (fun _ => 0))), (q124, .inl (cI, 2400, .inl (fun _ => 0)))] := hD
        have hP := x_row (q0 := 1) (f' := fun j => nI (rt_ed j)) rt_edz rfl hP
        have hP : va_P D vwCl [(a0, .inr (4, [.ref (q7), .int 0, .int (nI (rt_sd x)), .int (nI (rt_sd y)), .ref (q70), .ref (q79), .ref (q88), .ref (q97), .int 0, .ref (q106), .ref (q115), .ref (q124)])), (q7, .inl (cI, 12, .inl (fun j => nI (rt_ed j)))), (q70, .inl (cZ, 2400, .inl (fun _ => 0))), (q79, .inl (cI, 2400, .inl (fun _ => 0))), (q88, .inl (cI, 2400, .inl (fun _ => 0))), (q97, .inl (cI, 2400, .inl (fun _ => 0))), (q106, .inl (cI, 4800, .inl (fun _ => 0))), (q115, .inl (cZ, 2400, .inl (fun _ => 0))), (q124, .inl (cI, 2400, .inl (fun _ => 0)))] H := hP
        have hD : va_D (va_A [(a0, .inr (4, [.null, .int 0, .int 0, .int 0, .null, .null, .null, .null, .int 0, .null, .null, .null]))] sz) [(a0, .inr (4, [.ref (q7), .int 0, .int (nI (rt_sd x)), .int (nI (rt_sd y)), .ref (q70), .ref (q79), .ref (q88), .ref (q97), .int 0, .ref (q106), .ref (q115), .ref (q124)])), (q7, .inl (cI, 12, .inl (fun j => nI (rt_ed j)))), (q70, .inl (cZ, 2400, .inl (fun _ => 0))), (q79, .inl (cI, 2400, .inl (fun _ => 0))), (q88, .inl (cI, 2400, .inl (fun _ => 0))), (q97, .inl (cI, 2400, .inl (fun _ => 0))), (q106, .inl (cI, 4800, .inl (fun _ => 0))), (q115, .inl (cZ, 2400, .inl (fun _ => 0))), (q124, .inl (cI, 2400, .inl (fun _ => 0)))] := k_D hD rfl
        exact w_kret (fun i => ([a0, q7, q70, q79, q88, q97, q106, q115, q124] : List Nat).getD i 0) hx hb hr hlocks hS hP hD rfl d_M_init_179 ⟨Nat.le_of_ble_eq_true rfl, Nat.le_of_ble_eq_true rfl⟩
      · refine lv_bipush (v := (nI (20))) hx hb d_M_init_170 (by decide) ?_
        refine lv_goto (tgt := 176) hx hb d_M_init_172 (by decide) ?_
        refine rw_topI (b := nI (rt_sd y)) (by first | exact congrArg nI (rt_sd_lo (Int32.not_le.mp c_157)).symm | exact congrArg nI (rt_sd_hi (Int32.not_le.mp c_167)).symm | exact (rt_sd_in (Int32.not_lt.mpr c_157) (Int32.not_lt.mpr c_167)).2.2) ?_
        refine va_putF (D := D) (ci := 4) (v := .int (nI (rt_sd y))) (ty := .int) (C := rn_M) (T := tf_M) (N := 12) hx hb hts in_M tt_M tt_M_ok nm_M hown hK hP hD hS 0 rfl rfl 3 (by decide) (hts _ k_fieldLink_rn_M_39_rn_M_h_I) (fun _ h9 => h9) rfl hin rfl (by decide +kernel) rfl rfl (Nat.le_of_ble_eq_true rfl) d_M_init_176 (fun H locs hP hD hS => ?_)
        have hP : va_P D vwCl [(a0, .inr (4, [.ref (q7), .int 0, .int (nI (rt_sd x)), .int (nI (rt_sd y)), .ref (q70), .ref (q79), .ref (q88), .ref (q97), .int 0, .ref (q106), .ref (q115), .ref (q124)])), (q7, .inl (cI, 12, .inl (upd (upd (upd (upd (upd (upd (upd (upd (upd (upd (upd (upd (fun _ => 0) 0 (nI (0))) 1 (nI (1))) 2 (nI (2))) 3 (nI (3))) 4 (nI (2))) 5 (nI (1))) 6 (nI (3))) 7 (nI (1))) 8 (nI (3))) 9 (nI (0))) 10 (nI (2))) 11 (nI (0))))), (q70, .inl (cZ, 2400, .inl (fun _ => 0))), (q79, .inl (cI, 2400, .inl (fun _ => 0))), (q88, .inl (cI, 2400, .inl (fun _ => 0))), (q97, .inl (cI, 2400, .inl (fun _ => 0))), (q106, .inl (cI, 4800, .inl (fun _ => 0))), (q115, .inl (cZ, 2400, .inl (fun _ => 0))), (q124, .inl (cI, 2400, .inl (fun _ => 0)))] H := hP
        have hD : va_D (va_A [(a0, .inr (4, [.null, .int 0, .int 0, .int 0, .null, .null, .null, .null, .int 0, .null, .null, .null]))] sz) [(a0, .inr (4, [.ref (q7), .int 0, .int (nI (rt_sd x)), .int (nI (rt_sd y)), .ref (q70), .ref (q79), .ref (q88), .ref (q97), .int 0, .ref (q106), .ref (q115), .ref (q124)])), (q7, .inl (cI, 12, .inl (upd (upd (upd (upd (upd (upd (upd (upd (upd (upd (upd (upd (fun _ => 0) 0 (nI (0))) 1 (nI (1))) 2 (nI (2))) 3 (nI (3))) 4 (nI (2))) 5 (nI (1))) 6 (nI (3))) 7 (nI (1))) 8 (nI (3))) 9 (nI (0))) 10 (nI (2))) 11 (nI (0))))), (q70, .inl (cZ, 2400, .inl (fun _ => 0))), (q79, .inl (cI, 2400, .inl (fun _ => 0))), (q88, .inl (cI, 2400, .inl (fun _ => 0))), (q97, .inl (cI, 2400, .inl (fun _ => 0))), (q106, .inl (cI, 4800, .inl (fun _ => 0))), (q115, .inl (cZ, 2400, .inl (fun _ => 0))), (q124, .inl (cI, 2400, .inl (fun _ => 0)))] := hD
        have hP := x_row (q0 := 1) (f' := fun j => nI (rt_ed j)) rt_edz rfl hP
        have hP : va_P D vwCl [(a0, .inr (4, [.ref (q7), .int 0, .int (nI (rt_sd x)), .int (nI (rt_sd y)), .ref (q70), .ref (q79), .ref (q88), .ref (q97), .int 0, .ref (q106), .ref (q115), .ref (q124)])), (q7, .inl (cI, 12, .inl (fun j => nI (rt_ed j)))), (q70, .inl (cZ, 2400, .inl (fun _ => 0))), (q79, .inl (cI, 2400, .inl (fun _ => 0))), (q88, .inl (cI, 2400, .inl (fun _ => 0))), (q97, .inl (cI, 2400, .inl (fun _ => 0))), (q106, .inl (cI, 4800, .inl (fun _ => 0))), (q115, .inl (cZ, 2400, .inl (fun _ => 0))), (q124, .inl (cI, 2400, .inl (fun _ => 0)))] H := hP
        have hD : va_D (va_A [(a0, .inr (4, [.null, .int 0, .int 0, .int 0, .null, .null, .null, .null, .int 0, .null, .null, .null]))] sz) [(a0, .inr (4, [.ref (q7), .int 0, .int (nI (rt_sd x)), .int (nI (rt_sd y)), .ref (q70), .ref (q79), .ref (q88), .ref (q97), .int 0, .ref (q106), .ref (q115), .ref (q124)])), (q7, .inl (cI, 12, .inl (fun j => nI (rt_ed j)))), (q70, .inl (cZ, 2400, .inl (fun _ => 0))), (q79, .inl (cI, 2400, .inl (fun _ => 0))), (q88, .inl (cI, 2400, .inl (fun _ => 0))), (q97, .inl (cI, 2400, .inl (fun _ => 0))), (q106, .inl (cI, 4800, .inl (fun _ => 0))), (q115, .inl (cZ, 2400, .inl (fun _ => 0))), (q124, .inl (cI, 2400, .inl (fun _ => 0)))] := k_D hD rfl
        exact w_kret (fun i => ([a0, q7, q70, q79, q88, q97, q106, q115, q124] : List Nat).getD i 0) hx hb hr hlocks hS hP hD rfl d_M_init_179 ⟨Nat.le_of_ble_eq_true rfl, Nat.le_of_ble_eq_true rfl⟩
    · refine lv_iconst (v := (nI (4))) hx hb d_M_init_160 (by decide) ?_
      refine lv_goto (tgt := 176) hx hb d_M_init_161 (by decide) ?_
      refine rw_topI (b := nI (rt_sd y)) (by first | exact congrArg nI (rt_sd_lo (Int32.not_le.mp c_157)).symm | exact congrArg nI (rt_sd_hi (Int32.not_le.mp c_167)).symm | exact (rt_sd_in (Int32.not_lt.mpr c_157) (Int32.not_lt.mpr c_167)).2.2) ?_
      refine va_putF (D := D) (ci := 4) (v := .int (nI (rt_sd y))) (ty := .int) (C := rn_M) (T := tf_M) (N := 12) hx hb hts in_M tt_M tt_M_ok nm_M hown hK hP hD hS 0 rfl rfl 3 (by decide) (hts _ k_fieldLink_rn_M_39_rn_M_h_I) (fun _ h9 => h9) rfl hin rfl (by decide +kernel) rfl rfl (Nat.le_of_ble_eq_true rfl) d_M_init_176 (fun H locs hP hD hS => ?_)
      have hP : va_P D vwCl [(a0, .inr (4, [.ref (q7), .int 0, .int (nI (rt_sd x)), .int (nI (rt_sd y)), .ref (q70), .ref (q79), .ref (q88), .ref (q97), .int 0, .ref (q106), .ref (q115), .ref (q124)])), (q7, .inl (cI, 12, .inl (upd (upd (upd (upd (upd (upd (upd (upd (upd (upd (upd (upd (fun _ => 0) 0 (nI (0))) 1 (nI (1))) 2 (nI (2))) 3 (nI (3))) 4 (nI (2))) 5 (nI (1))) 6 (nI (3))) 7 (nI (1))) 8 (nI (3))) 9 (nI (0))) 10 (nI (2))) 11 (nI (0))))), (q70, .inl (cZ, 2400, .inl (fun _ => 0))), (q79, .inl (cI, 2400, .inl (fun _ => 0))), (q88, .inl (cI, 2400, .inl (fun _ => 0))), (q97, .inl (cI, 2400, .inl (fun _ => 0))), (q106, .inl (cI, 4800, .inl (fun _ => 0))), (q115, .inl (cZ, 2400, .inl (fun _ => 0))), (q124, .inl (cI, 2400, .inl (fun _ => 0)))] H := hP
      have hD : va_D (va_A [(a0, .inr (4, [.null, .int 0, .int 0, .int 0, .null, .null, .null, .null, .int 0, .null, .null, .null]))] sz) [(a0, .inr (4, [.ref (q7), .int 0, .int (nI (rt_sd x)), .int (nI (rt_sd y)), .ref (q70), .ref (q79), .ref (q88), .ref (q97), .int 0, .ref (q106), .ref (q115), .ref (q124)])), (q7, .inl (cI, 12, .inl (upd (upd (upd (upd (upd (upd (upd (upd (upd (upd (upd (upd (fun _ => 0) 0 (nI (0))) 1 (nI (1))) 2 (nI (2))) 3 (nI (3))) 4 (nI (2))) 5 (nI (1))) 6 (nI (3))) 7 (nI (1))) 8 (nI (3))) 9 (nI (0))) 10 (nI (2))) 11 (nI (0))))), (q70, .inl (cZ, 2400, .inl (fun _ => 0))), (q79, .inl (cI, 2400, .inl (fun _ => 0))), (q88, .inl (cI, 2400, .inl (fun _ => 0))), (q97, .inl (cI, 2400, .inl (fun _ => 0))), (q106, .inl (cI, 4800, .inl (fun _ => 0))), (q115, .inl (cZ, 2400, .inl (fun _ => 0))), (q124, .inl (cI, 2400, .inl (fun _ => 0)))] := hD
      have hP := x_row (q0 := 1) (f' := fun j => nI (rt_ed j)) rt_edz rfl hP
      have hP : va_P D vwCl [(a0, .inr (4, [.ref (q7), .int 0, .int (nI (rt_sd x)), .int (nI (rt_sd y)), .ref (q70), .ref (q79), .ref (q88), .ref (q97), .int 0, .ref (q106), .ref (q115), .ref (q124)])), (q7, .inl (cI, 12, .inl (fun j => nI (rt_ed j)))), (q70, .inl (cZ, 2400, .inl (fun _ => 0))), (q79, .inl (cI, 2400, .inl (fun _ => 0))), (q88, .inl (cI, 2400, .inl (fun _ => 0))), (q97, .inl (cI, 2400, .inl (fun _ => 0))), (q106, .inl (cI, 4800, .inl (fun _ => 0))), (q115, .inl (cZ, 2400, .inl (fun _ => 0))), (q124, .inl (cI, 2400, .inl (fun _ => 0)))] H := hP
      have hD : va_D (va_A [(a0, .inr (4, [.null, .int 0, .int 0, .int 0, .null, .null, .null, .null, .int 0, .null, .null, .null]))] sz) [(a0, .inr (4, [.ref (q7), .int 0, .int (nI (rt_sd x)), .int (nI (rt_sd y)), .ref (q70), .ref (q79), .ref (q88), .ref (q97), .int 0, .ref (q106), .ref (q115), .ref (q124)])), (q7, .inl (cI, 12, .inl (fun j => nI (rt_ed j)))), (q70, .inl (cZ, 2400, .inl (fun _ => 0))), (q79, .inl (cI, 2400, .inl (fun _ => 0))), (q88, .inl (cI, 2400, .inl (fun _ => 0))), (q97, .inl (cI, 2400, .inl (fun _ => 0))), (q106, .inl (cI, 4800, .inl (fun _ => 0))), (q115, .inl (cZ, 2400, .inl (fun _ => 0))), (q124, .inl (cI, 2400, .inl (fun _ => 0)))] := k_D hD rfl
      exact w_kret (fun i => ([a0, q7, q70, q79, q88, q97, q106, q115, q124] : List Nat).getD i 0) hx hb hr hlocks hS hP hD rfl d_M_init_179 ⟨Nat.le_of_ble_eq_true rfl, Nat.le_of_ble_eq_true rfl⟩
