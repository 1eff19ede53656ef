/-! RouteTracks, questions: by program (wip/whole/gen/rmeth.py) -/
set_option maxHeartbeats 4000000 in
set_option maxRecDepth 100000 in
theorem c_R_isKind (l : Launch) (D : va_G) (cI cZ : ClassId) (g a : Nat → Nat) (ha : xI a) (w h : Nat) (Q : Nat → Nat) (ff : Nat → Int32) (hd bl : Int32) (rs : Nat → Int32) (hs ts : Int32) (rc : Nat → Int32) (hc tc : Int32) (x : Int32) (hG : rt_G w h Q) : Met l y_R_isKind (.code y_R_isKind b_R_isKind 1 (some .boolean) :: tG) ({ frames := 0, cells := 0, slots := 0, locals := 0 }) (va_Pc [.int (x)] (wU D cI cZ g (xA a) (xw cI a w h Q ff hd bl rs hs ts rc hc tc))) (va_Qi (S := Unit) (fun r _ => r = rt_b (rt_ix x 6).isSome) (wB D (fun (u : Unit) => (xw cI a w h Q ff hd bl rs hs ts rc hc tc))) (xA a)) 0 0 (xA a) := by
  refine Met.ofW (cc := b_R_isKind) (maxL := 1) (ret := (some .boolean)) (by decide) rfl ?_
  intro p e s m args below meth c s₁ BD9 hml hv
  obtain ⟨rfl, hP, hK, hZ⟩ := hv
  have hx := BD9.exec
  have hb := BD9.bytes
  have hr := BD9.returns
  have hts : ∀ w ∈ tG, w.before _ s = true := fun w hw => atoms_spec (ws := .code y_R_isKind b_R_isKind 1 (some .boolean) :: tG) BD9.pre w (List.mem_cons_of_mem _ hw)
  have hown : s.vm.findClass rn_R = some m.cls := findClass_of_methodNamed BD9.named
  have hlocks := BD9.notSynchronized
  have hS : va_S (xA a) s.heap s.heap [] := va_S.rf
  have hD : va_D (xA a) (xw cI a w h Q ff hd bl rs hs ts rc hc tc) := x_D ha _ rfl
  have hP : va_P D vwCl (xw cI a w h Q ff hd bl rs hs ts rc hc tc) s.heap := hP
  have hl := lv_entry ([.int (x)]) (n := 1) (Nat.le_of_ble_eq_true rfl)
  rw [lg_entry_eq]
  generalize (lg_sl ([.int (x)]) ++ List.replicate (1 - (lg_sl ([.int (x)])).length) Slot.unset).toArray = ls at hl ⊢
  have hl : lv_has ls 1 [(0, .int (x))] := hl
  obtain ⟨hn1, hn⟩ := hG.n
  have hw0 : 0 < w := by have := hG.1.1; omega
  have hQ := hG.2.2
  refine lv_iload_n hx hb d_R_isKind_0 rfl (lv_at hl 0 rfl) ?_
  refine lv_if_lt (tgt := 14) hx hb d_R_isKind_1 (by decide) (fun c_1 => ?_) (fun c_1 => ?_)
  · refine lv_iconst (v := (nI (0))) hx hb d_R_isKind_14 (by decide) ?_
    exact w_zret (v := false) () hx hb hr hlocks hS hP (by first | exact rt_ix_f (Or.inl c_1) | exact rt_ix_f (Or.inr c_7)) d_R_isKind_15
  · refine lv_iload_n hx hb d_R_isKind_4 rfl (lv_at hl 0 rfl) ?_
    refine lv_bipush (v := (nI (6))) hx hb d_R_isKind_5 (by decide) ?_
    refine lv_icmp_ge (tgt := 14) hx hb d_R_isKind_7 (by decide) (fun c_7 => ?_) (fun c_7 => ?_)
    · refine lv_iconst (v := (nI (0))) hx hb d_R_isKind_14 (by decide) ?_
      exact w_zret (v := false) () hx hb hr hlocks hS hP (by first | exact rt_ix_f (Or.inl c_1) | exact rt_ix_f (Or.inr c_7)) d_R_isKind_15
    · refine lv_iconst (v := (nI (1))) hx hb d_R_isKind_10 (by decide) ?_
      refine lv_goto (tgt := 15) hx hb d_R_isKind_11 (by decide) ?_
      exact w_zret (v := true) () hx hb hr hlocks hS hP (rt_ix_t c_1 c_7) d_R_isKind_15

set_option maxHeartbeats 4000000 in
set_option maxRecDepth 100000 in
theorem c_R_isStation (l : Launch) (D : va_G) (cI cZ : ClassId) (g a : Nat → Nat) (ha : xI a) (w h : Nat) (Q : Nat → Nat) (ff : Nat → Int32) (hd bl : Int32) (rs : Nat → Int32) (hs ts : Int32) (rc : Nat → Int32) (hc tc : Int32) (x : Int32) (hG : rt_G w h Q) : Met l y_R_isStation (.code y_R_isStation b_R_isStation 1 (some .boolean) :: tG) ({ frames := 0, cells := 0, slots := 0, locals := 0 }) (va_Pc [.int (x)] (wU D cI cZ g (xA a) (xw cI a w h Q ff hd bl rs hs ts rc hc tc))) (va_Qi (S := Unit) (fun r _ => r = rt_b (rt_ix x 8).isSome) (wB D (fun (u : Unit) => (xw cI a w h Q ff hd bl rs hs ts rc hc tc))) (xA a)) 0 0 (xA a) := by
  refine Met.ofW (cc := b_R_isStation) (maxL := 1) (ret := (some .boolean)) (by decide) rfl ?_
  intro p e s m args below meth c s₁ BD9 hml hv
  obtain ⟨rfl, hP, hK, hZ⟩ := hv
  have hx := BD9.exec
  have hb := BD9.bytes
  have hr := BD9.returns
  have hts : ∀ w ∈ tG, w.before _ s = true := fun w hw => atoms_spec (ws := .code y_R_isStation b_R_isStation 1 (some .boolean) :: tG) BD9.pre w (List.mem_cons_of_mem _ hw)
  have hown : s.vm.findClass rn_R = some m.cls := findClass_of_methodNamed BD9.named
  have hlocks := BD9.notSynchronized
  have hS : va_S (xA a) s.heap s.heap [] := va_S.rf
  have hD : va_D (xA a) (xw cI a w h Q ff hd bl rs hs ts rc hc tc) := x_D ha _ rfl
  have hP : va_P D vwCl (xw cI a w h Q ff hd bl rs hs ts rc hc tc) s.heap := hP
  have hl := lv_entry ([.int (x)]) (n := 1) (Nat.le_of_ble_eq_true rfl)
  rw [lg_entry_eq]
  generalize (lg_sl ([.int (x)]) ++ List.replicate (1 - (lg_sl ([.int (x)])).length) Slot.unset).toArray = ls at hl ⊢
  have hl : lv_has ls 1 [(0, .int (x))] := hl
  obtain ⟨hn1, hn⟩ := hG.n
  have hw0 : 0 < w := by have := hG.1.1; omega
  have hQ := hG.2.2
  refine lv_iload_n hx hb d_R_isStation_0 rfl (lv_at hl 0 rfl) ?_
  refine lv_if_lt (tgt := 14) hx hb d_R_isStation_1 (by decide) (fun c_1 => ?_) (fun c_1 => ?_)
  · refine lv_iconst (v := (nI (0))) hx hb d_R_isStation_14 (by decide) ?_
    exact w_zret (v := false) () hx hb hr hlocks hS hP (by first | exact rt_ix_f (Or.inl c_1) | exact rt_ix_f (Or.inr c_7)) d_R_isStation_15
  · refine lv_iload_n hx hb d_R_isStation_4 rfl (lv_at hl 0 rfl) ?_
    refine lv_bipush (v := (nI (8))) hx hb d_R_isStation_5 (by decide) ?_
    refine lv_icmp_ge (tgt := 14) hx hb d_R_isStation_7 (by decide) (fun c_7 => ?_) (fun c_7 => ?_)
    · refine lv_iconst (v := (nI (0))) hx hb d_R_isStation_14 (by decide) ?_
      exact w_zret (v := false) () hx hb hr hlocks hS hP (by first | exact rt_ix_f (Or.inl c_1) | exact rt_ix_f (Or.inr c_7)) d_R_isStation_15
    · refine lv_iconst (v := (nI (1))) hx hb d_R_isStation_10 (by decide) ?_
      refine lv_goto (tgt := 15) hx hb d_R_isStation_11 (by decide) ?_
      exact w_zret (v := true) () hx hb hr hlocks hS hP (rt_ix_t c_1 c_7) d_R_isStation_15

set_option maxHeartbeats 4000000 in
set_option maxRecDepth 100000 in
theorem c_R_at (l : Launch) (D : va_G) (cI cZ : ClassId) (g a : Nat → Nat) (ha : xI a) (w h : Nat) (Q : Nat → Nat) (ff : Nat → Int32) (hd bl : Int32) (rs : Nat → Int32) (hs ts : Int32) (rc : Nat → Int32) (hc tc : Int32) (x y : Int32) (hG : rt_G w h Q) : Met l y_R_at (.code y_R_at b_R_at 3 (some .int) :: tG) ({ frames := 2, cells := 0, slots := 0, locals := 44 }) (va_Pc [.ref (a 0), .int (x), .int (y)] (wU D cI cZ g (xA a) (xw cI a w h Q ff hd bl rs hs ts rc hc tc))) (va_Qi (S := Unit) (fun r _ => r = rt_at Q (w * h) x y) (wB D (fun (u : Unit) => (xw cI a w h Q ff hd bl rs hs ts rc hc tc))) (xA a)) 0 0 (xA a) := by
  refine Met.ofW (cc := b_R_at) (maxL := 3) (ret := (some .int)) (by decide) rfl ?_
  intro p e s m args below meth c s₁ BD9 hml hv
  obtain ⟨rfl, hP, hK, hZ⟩ := hv
  have hx := BD9.exec
  have hb := BD9.bytes
  have hr := BD9.returns
  have hts : ∀ w ∈ tG, w.before _ s = true := fun w hw => atoms_spec (ws := .code y_R_at b_R_at 3 (some .int) :: tG) BD9.pre w (List.mem_cons_of_mem _ hw)
  have hown : s.vm.findClass rn_R = some m.cls := findClass_of_methodNamed BD9.named
  have hlocks := BD9.notSynchronized
  have hS : va_S (xA a) s.heap s.heap [] := va_S.rf
  have hD : va_D (xA a) (xw cI a w h Q ff hd bl rs hs ts rc hc tc) := x_D ha _ rfl
  have hP : va_P D vwCl (xw cI a w h Q ff hd bl rs hs ts rc hc tc) s.heap := hP
  have hl := lv_entry ([.ref (a 0), .int (x), .int (y)]) (n := 3) (Nat.le_of_ble_eq_true rfl)
  rw [lg_entry_eq]
  generalize (lg_sl ([.ref (a 0), .int (x), .int (y)]) ++ List.replicate (3 - (lg_sl ([.ref (a 0), .int (x), .int (y)])).length) Slot.unset).toArray = ls at hl ⊢
  have hl : lv_has ls 3 [(0, .ref (a 0)), (1, .int (x)), (2, .int (y))] := hl
  obtain ⟨hn1, hn⟩ := hG.n
  have hw0 : 0 < w := by have := hG.1.1; omega
  have hQ := hG.2.2
  refine lv_aload_n hx hb d_R_at_0 rfl (lv_at hl 0 rfl) ?_
  refine va_get (D := D) (ci := 3) (v := .ref (a 1)) (C := rn_R) (T := tf_R) (N := 2) hx hb hts in_R hown hK hP 0 rfl rfl 0 (by decide) (hts _ k_fieldLink_rn_R_18_rn_R_rails_LRouteTracks_Rails) (fun _ h9 => h9) rfl d_R_at_1 ?_
  refine lv_iload_n hx hb d_R_at_4 rfl (lv_at hl 1 rfl) ?_
  refine w_ci (As := [.int (x)]) (rest := []) ⟨hx, hb, hml, hown, hts⟩ (c_A_hasTile l D cI cZ g a ha w h Q ff hd bl rs hs ts rc hc tc x hG) (cwV 1 hts (t_gV k_methodLink_rn_R_78_y_A_hasTile k_instanceMethod_y_A_hasTile k_selects_rn_A_y_A_hasTile_y_A_hasTile k_initialized_rn_A k_code_y_A_hasTile_prog_3_method_2_code_2_some_boolean) rfl rfl rfl (by decide +kernel) ⟨Nat.le_of_ble_eq_true rfl, Nat.le_of_ble_eq_true rfl⟩) (va_recv hK hP (ci := 1) (q0 := 1) rfl rfl) hP hK hZ hS rfl hl.1 rfl (Nat.le_of_ble_eq_true rfl) d_R_at_5 ⟨Nat.zero_le _, Nat.zero_le _⟩ (fun r_5 u_5 H locs hw hP hS => ?_)
  subst hw
  have hP : va_P D vwCl (xw cI a w h Q ff hd bl rs hs ts rc hc tc) H := hP
  refine rw_beq (tgt := 21) hx hb d_R_at_8 (by decide) (fun c_8 => ?_) (fun c_8 => ?_)
  · refine lv_iconst (v := (-1)) hx hb d_R_at_21 (by decide) ?_
    exact w_iret () hx hb hr hlocks hS hP (by first | exact (rt_at_n (Or.inl (rt_ix_no c_8))).symm | exact (rt_at_n (Or.inr (rt_ix_none (Or.inl c_12)))).symm | exact (rt_at_n (Or.inr (rt_ix_none (Or.inr (rt_gt6 c_18))))).symm) d_R_at_22
  · obtain ⟨t, ht, rfl⟩ := rt_ix_is (by omega) c_8
    refine lv_iload_n hx hb d_R_at_11 rfl (lv_at hl 2 rfl) ?_
    refine lv_if_lt (tgt := 21) hx hb d_R_at_12 (by decide) (fun c_12 => ?_) (fun c_12 => ?_)
    · refine lv_iconst (v := (-1)) hx hb d_R_at_21 (by decide) ?_
      exact w_iret () hx hb hr hlocks hS hP (by first | exact (rt_at_n (Or.inl (rt_ix_no c_8))).symm | exact (rt_at_n (Or.inr (rt_ix_none (Or.inl c_12)))).symm | exact (rt_at_n (Or.inr (rt_ix_none (Or.inr (rt_gt6 c_18))))).symm) d_R_at_22
    · refine lv_iload_n hx hb d_R_at_15 rfl (lv_at hl 2 rfl) ?_
      refine lv_bipush (v := (nI (6))) hx hb d_R_at_16 (by decide) ?_
      refine lv_icmp_le (tgt := 23) hx hb d_R_at_18 (by decide) (fun c_18 => ?_) (fun c_18 => ?_)
      · obtain ⟨k, hk, rfl⟩ : ∃ k : Nat, k ≤ 6 ∧ y = nI k := nI_of2 (M := nI 6) rfl c_12 c_18
        refine lv_iload_n hx hb d_R_at_23 rfl (lv_at hl 2 rfl) ?_
        refine rw_zne (tgt := 38) hx hb d_R_at_24 (by decide) (by omega) (fun c_24 => ?_) (fun c_24 => ?_)
        · refine lv_aload_n hx hb d_R_at_38 rfl (lv_at hl 0 rfl) ?_
          refine va_get (D := D) (ci := 3) (v := .ref (a 1)) (C := rn_R) (T := tf_R) (N := 2) hx hb hts in_R hown hK hP 0 rfl rfl 0 (by decide) (hts _ k_fieldLink_rn_R_18_rn_R_rails_LRouteTracks_Rails) (fun _ h9 => h9) rfl d_R_at_39 ?_
          refine va_get (D := D) (ci := 1) (v := .ref (a 3)) (C := rn_A) (T := tf_A) (N := 2) hx hb hts in_A hown hK hP 1 rfl rfl 1 (by decide) (hts _ k_fieldLink_rn_R_84_rn_A_pieces_I) (fun _ h9 => h9) rfl d_R_at_42 ?_
          refine lv_bipush (v := (nI (6))) hx hb d_R_at_45 (by decide) ?_
          refine lv_iload_n hx hb d_R_at_47 rfl (lv_at hl 1 rfl) ?_
          refine rw_mul hx hb d_R_at_48 ?_
          refine lv_iload_n hx hb d_R_at_49 rfl (lv_at hl 2 rfl) ?_
          refine rw_add hx hb d_R_at_50 ?_
          refine lv_iconst (v := (nI (1))) hx hb d_R_at_51 (by decide) ?_
          refine rw_sub hx hb d_R_at_52 (by omega) ?_
          refine rw_top (b := 6 * t + (k - 1)) (by omega) ?_
          refine rw_iald (v := (nI (Q (6 * t + (k - 1))))) hx hb hK hP 3 0 rfl rfl (by omega) (by omega) (rfl) d_R_at_53 ?_
          exact w_iret () hx hb hr hlocks hS hP (by obtain ⟨j, rfl⟩ : ∃ j, k = j + 1 := ⟨k - 1, by omega⟩; exact (rt_at_s (by omega) ht (by omega)).symm) d_R_at_54
        · refine lv_aload_n hx hb d_R_at_27 rfl (lv_at hl 0 rfl) ?_
          refine va_get (D := D) (ci := 3) (v := .ref (a 1)) (C := rn_R) (T := tf_R) (N := 2) hx hb hts in_R hown hK hP 0 rfl rfl 0 (by decide) (hts _ k_fieldLink_rn_R_18_rn_R_rails_LRouteTracks_Rails) (fun _ h9 => h9) rfl d_R_at_28 ?_
          refine lv_iload_n hx hb d_R_at_31 rfl (lv_at hl 1 rfl) ?_
          refine w_ci (As := [.int (nI (t))]) (rest := []) ⟨hx, hb, hml, hown, hts⟩ (c_A_kindsIn l D cI cZ g a ha w h Q ff hd bl rs hs ts rc hc tc t hG ht) (cwV 1 hts (t_gV k_methodLink_rn_R_81_y_A_kindsIn k_instanceMethod_y_A_kindsIn k_selects_rn_A_y_A_kindsIn_y_A_kindsIn k_initialized_rn_A k_code_y_A_kindsIn_prog_3_method_8_code_4_some_int) rfl rfl rfl (by decide +kernel) ⟨Nat.le_of_ble_eq_true rfl, Nat.le_of_ble_eq_true rfl⟩) (va_recv hK hP (ci := 1) (q0 := 1) rfl rfl) hP hK hZ hS rfl hl.1 rfl (Nat.le_of_ble_eq_true rfl) d_R_at_32 ⟨Nat.zero_le _, Nat.zero_le _⟩ (fun r_32 u_32 H locs hw hP hS => ?_)
          subst hw
          have hP : va_P D vwCl (xw cI a w h Q ff hd bl rs hs ts rc hc tc) H := hP
          refine lv_goto (tgt := 54) hx hb d_R_at_35 (by decide) ?_
          exact w_iret () hx hb hr hlocks hS hP (by rw [c_24]; exact (rt_at_0 (by omega) ht).symm) d_R_at_54
      · refine lv_iconst (v := (-1)) hx hb d_R_at_21 (by decide) ?_
        exact w_iret () hx hb hr hlocks hS hP (by first | exact (rt_at_n (Or.inl (rt_ix_no c_8))).symm | exact (rt_at_n (Or.inr (rt_ix_none (Or.inl c_12)))).symm | exact (rt_at_n (Or.inr (rt_ix_none (Or.inr (rt_gt6 c_18))))).symm) d_R_at_22

set_option maxHeartbeats 4000000 in
set_option maxRecDepth 100000 in
theorem c_R_next (l : Launch) (D : va_G) (cI cZ : ClassId) (g a : Nat → Nat) (ha : xI a) (w h : Nat) (Q : Nat → Nat) (ff : Nat → Int32) (hd bl : Int32) (rs : Nat → Int32) (hs ts : Int32) (rc : Nat → Int32) (hc tc : Int32) (x y : Int32) (hG : rt_G w h Q) : Met l y_R_next (.code y_R_next b_R_next 6 (some .int) :: tG) ({ frames := 3, cells := 0, slots := 0, locals := 64 }) (va_Pc [.ref (a 0), .int (x), .int (y)] (wU D cI cZ g (xA a) (xw cI a w h Q ff hd bl rs hs ts rc hc tc))) (va_Qi (S := Unit) (fun r _ => r = rt_next Q w h x y) (wB D (fun (u : Unit) => (xw cI a w h Q ff hd bl rs hs ts rc hc tc))) (xA a)) 0 0 (xA a) := by
  refine Met.ofW (cc := b_R_next) (maxL := 6) (ret := (some .int)) (by decide) rfl ?_
  intro p e s m args below meth c s₁ BD9 hml hv
  obtain ⟨rfl, hP, hK, hZ⟩ := hv
  have hx := BD9.exec
  have hb := BD9.bytes
  have hr := BD9.returns
  have hts : ∀ w ∈ tG, w.before _ s = true := fun w hw => atoms_spec (ws := .code y_R_next b_R_next 6 (some .int) :: tG) BD9.pre w (List.mem_cons_of_mem _ hw)
  have hown : s.vm.findClass rn_R = some m.cls := findClass_of_methodNamed BD9.named
  have hlocks := BD9.notSynchronized
  have hS : va_S (xA a) s.heap s.heap [] := va_S.rf
  have hD : va_D (xA a) (xw cI a w h Q ff hd bl rs hs ts rc hc tc) := x_D ha _ rfl
  have hP : va_P D vwCl (xw cI a w h Q ff hd bl rs hs ts rc hc tc) s.heap := hP
  have hl := lv_entry ([.ref (a 0), .int (x), .int (y)]) (n := 6) (Nat.le_of_ble_eq_true rfl)
  rw [lg_entry_eq]
  generalize (lg_sl ([.ref (a 0), .int (x), .int (y)]) ++ List.replicate (6 - (lg_sl ([.ref (a 0), .int (x), .int (y)])).length) Slot.unset).toArray = ls at hl ⊢
  have hl : lv_has ls 6 [(0, .ref (a 0)), (1, .int (x)), (2, .int (y))] := hl
  obtain ⟨hn1, hn⟩ := hG.n
  have hw0 : 0 < w := by have := hG.1.1; omega
  have hQ := hG.2.2
  refine lv_aload_n hx hb d_R_next_0 rfl (lv_at hl 0 rfl) ?_
  refine va_get (D := D) (ci := 3) (v := .ref (a 1)) (C := rn_R) (T := tf_R) (N := 2) hx hb hts in_R hown hK hP 0 rfl rfl 0 (by decide) (hts _ k_fieldLink_rn_R_18_rn_R_rails_LRouteTracks_Rails) (fun _ h9 => h9) rfl d_R_next_1 ?_
  refine lv_iload_n hx hb d_R_next_4 rfl (lv_at hl 1 rfl) ?_
  refine w_ci (As := [.int (x)]) (rest := []) ⟨hx, hb, hml, hown, hts⟩ (c_A_isOpen l D cI cZ g a ha w h Q ff hd bl rs hs ts rc hc tc x hG) (cwV 1 hts (t_gV k_methodLink_rn_R_88_y_A_isOpen k_instanceMethod_y_A_isOpen k_selects_rn_A_y_A_isOpen_y_A_isOpen k_initialized_rn_A k_code_y_A_isOpen_prog_3_method_11_code_2_some_boolean) rfl rfl rfl (by decide +kernel) ⟨Nat.le_of_ble_eq_true rfl, Nat.le_of_ble_eq_true rfl⟩) (va_recv hK hP (ci := 1) (q0 := 1) rfl rfl) hP hK hZ hS rfl hl.1 rfl (Nat.le_of_ble_eq_true rfl) d_R_next_5 ⟨Nat.zero_le _, Nat.zero_le _⟩ (fun r_5 u_5 H locs hw hP hS => ?_)
  subst hw
  have hP : va_P D vwCl (xw cI a w h Q ff hd bl rs hs ts rc hc tc) H := hP
  refine rw_bne (tgt := 13) hx hb d_R_next_8 (by decide) (fun c_8 => ?_) (fun c_8 => ?_)
  · obtain ⟨rr, hrr, rfl, horr⟩ := rt_opx_is (by omega) c_8
    refine lv_iconst (v := (nI (0))) hx hb d_R_next_13 (by decide) ?_
    refine lv_istore_n (lv' := [(3, .int (nI (0))), (0, .ref (a 0)), (1, .int (nI (rr))), (2, .int (y))]) hx hb d_R_next_14 rfl hl (by decide) rfl (fun ls hl => ?_)
    refine lv_iconst (v := (nI (0))) hx hb d_R_next_15 (by decide) ?_
    refine lv_istore (lv' := [(4, .int (nI (0))), (3, .int (nI (0))), (0, .ref (a 0)), (1, .int (nI (rr))), (2, .int (y))]) hx hb d_R_next_16 hl (by decide) rfl (fun ls hl => ?_)
    have LP_18 : ∀ (n_18 : Nat) (i : Nat), i + n_18 = 3 → (∀ j, j < (rt_px Q w h rr i).length → nI j ≠ y) → ∀ (H : Heap) (locs : List Loc) (ls : Array Slot), va_P D vwCl (xw cI a w h Q ff hd bl rs hs ts rc hc tc) H → va_S (xA a) s.heap H locs → lv_has ls 6 [(0, .ref (a 0)), (1, .int (nI (rr))), (2, .int (y)), (3, .int (nI ((rt_px Q w h rr i).length))), (4, .int (nI (i)))] → W p l e (headSpec (.code y_R_next b_R_next 6 (some .int) :: tG) ({ frames := 3, cells := 0, slots := 0, locals := 64 })).room s m ([.ref (a 0), .int ((nI rr)), .int (y)] : List Value).toArray below meth c H locs 0 0 (MQ below (va_Qi (S := Unit) (fun r _ => r = rt_next Q w h (nI rr) y) (wB D (fun (u : Unit) => (xw cI a w h Q ff hd bl rs hs ts rc hc tc))) (xA a)) ([.ref (a 0), .int ((nI rr)), .int (y)] : List Value).toArray s 0 0 (xA a)) (F0 m 18 ls []) := by
      intro n_18
      induction n_18 with
      | zero =>
        intro i hrel_18 hI H locs ls hP hS hl
        have hD : va_D (xA a) (xw cI a w h Q ff hd bl rs hs ts rc hc tc) := x_D ha _ rfl
        refine lv_iload hx hb d_R_next_18 (lv_at hl 4 rfl) ?_
        refine lv_iconst (v := (nI (3))) hx hb d_R_next_20 (by decide) ?_
        refine rw_cge (tgt := 65) hx hb d_R_next_21 (by decide) (by omega) (by omega) (fun c_21 => ?_) (fun c_21 => ?_)
        · refine lv_iconst (v := (-1)) hx hb d_R_next_65 (by decide) ?_
          exact w_iret () hx hb hr hlocks hS hP (by rw [rt_next_s (by omega) horr, rt_kth_none (by have := rt_px_len Q w h rr 3; show (rt_px Q w h rr 3).length < _; omega) (by rw [show i = 3 by omega] at hI; exact hI)]; rfl) d_R_next_66
        · omega
      | succ n_18 ih_18 =>
        intro i hrel_18 hI H locs ls hP hS hl
        have hD : va_D (xA a) (xw cI a w h Q ff hd bl rs hs ts rc hc tc) := x_D ha _ rfl
        refine lv_iload hx hb d_R_next_18 (lv_at hl 4 rfl) ?_
        refine lv_iconst (v := (nI (3))) hx hb d_R_next_20 (by decide) ?_
        refine rw_cge (tgt := 65) hx hb d_R_next_21 (by decide) (by omega) (by omega) (fun c_21 => ?_) (fun c_21 => ?_)
        · omega
        · refine lv_aload_n hx hb d_R_next_24 rfl (lv_at hl 0 rfl) ?_
          refine va_get (D := D) (ci := 3) (v := .ref (a 1)) (C := rn_R) (T := tf_R) (N := 2) hx hb hts in_R hown hK hP 0 rfl rfl 0 (by decide) (hts _ k_fieldLink_rn_R_18_rn_R_rails_LRouteTracks_Rails) (fun _ h9 => h9) rfl d_R_next_25 ?_
          refine lv_iload_n hx hb d_R_next_28 rfl (lv_at hl 1 rfl) ?_
          refine lv_iload hx hb d_R_next_29 (lv_at hl 4 rfl) ?_
          refine w_ci (As := [.int (nI (rr)), .int (nI (i))]) (rest := []) ⟨hx, hb, hml, hown, hts⟩ (c_A_ahead l D cI cZ g a ha w h Q ff hd bl rs hs ts rc hc tc rr i hG hrr (by omega)) (cwV 2 hts (t_gV k_methodLink_rn_R_91_y_A_ahead k_instanceMethod_y_A_ahead k_selects_rn_A_y_A_ahead_y_A_ahead k_initialized_rn_A k_code_y_A_ahead_prog_3_method_14_code_5_some_int) rfl rfl rfl (by decide +kernel) ⟨Nat.le_of_ble_eq_true rfl, Nat.le_of_ble_eq_true rfl⟩) (va_recv hK hP (ci := 1) (q0 := 1) rfl rfl) hP hK hZ hS rfl hl.1 rfl (Nat.le_of_ble_eq_true rfl) d_R_next_31 ⟨Nat.zero_le _, Nat.zero_le _⟩ (fun r_31 u_31 H locs hw hP hS => ?_)
          subst hw
          have hP : va_P D vwCl (xw cI a w h Q ff hd bl rs hs ts rc hc tc) H := hP
          cases ho_34 : rt_ah w h rr i with
          | none =>
            refine lv_istore (lv' := [(5, .int (-1)), (0, .ref (a 0)), (1, .int (nI (rr))), (2, .int (y)), (3, .int (nI ((rt_px Q w h rr i).length))), (4, .int (nI (i)))]) hx hb d_R_next_34 hl (by decide) rfl (fun ls hl => ?_)
            refine lv_aload_n hx hb d_R_next_36 rfl (lv_at hl 1 rfl) ?_
            refine va_get (D := D) (ci := 3) (v := .ref (a 1)) (C := rn_R) (T := tf_R) (N := 2) hx hb hts in_R hown hK hP 0 rfl rfl 0 (by decide) (hts _ k_fieldLink_rn_R_18_rn_R_rails_LRouteTracks_Rails) (fun _ h9 => h9) rfl d_R_next_37 ?_
            refine lv_iload hx hb d_R_next_40 (lv_at hl 0 rfl) ?_
            refine w_ci (As := [.int (-1)]) (rest := []) ⟨hx, hb, hml, hown, hts⟩ (c_A_isOpen l D cI cZ g a ha w h Q ff hd bl rs hs ts rc hc tc (-1) hG) (cwV 1 hts (t_gV k_methodLink_rn_R_88_y_A_isOpen k_instanceMethod_y_A_isOpen k_selects_rn_A_y_A_isOpen_y_A_isOpen k_initialized_rn_A k_code_y_A_isOpen_prog_3_method_11_code_2_some_boolean) rfl rfl rfl (by decide +kernel) ⟨Nat.le_of_ble_eq_true rfl, Nat.le_of_ble_eq_true rfl⟩) (va_recv hK hP (ci := 1) (q0 := 1) rfl rfl) hP hK hZ hS rfl hl.1 rfl (Nat.le_of_ble_eq_true rfl) d_R_next_42 ⟨Nat.zero_le _, Nat.zero_le _⟩ (fun r_42 u_42 H locs hw hP hS => ?_)
            subst hw
            have hP : va_P D vwCl (xw cI a w h Q ff hd bl rs hs ts rc hc tc) H := hP
            rw [rt_opx_n (Or.inl (by decide))]
            refine rw_beq (tgt := 59) hx hb d_R_next_45 (by decide) (fun c_45 => ?_) (fun c_45 => ?_)
            · refine lv_iinc (v := (nI (i + 1))) (lv' := [(4, .int (nI (i + 1))), (5, .int (-1)), (0, .ref (a 0)), (1, .int (nI (rr))), (2, .int (y)), (3, .int (nI ((rt_px Q w h rr i).length)))]) hx hb d_R_next_59 hl (k := 5) rfl (nI_add _ _) (by decide) rfl (fun ls hl => ?_)
              refine lv_goto (tgt := 18) hx hb d_R_next_62 (by decide) ?_
              have e9 := rt_pxb_n (K := fun _ => none) (Q := Q) (w := w) (h := h) (r := rr) (i := i) (by rw [ho_34]; rfl)
              have hl : lv_has ls 6 [(4, .int (nI (i + 1))), (5, .int (-1)), (0, .ref (a 0)), (1, .int (nI (rr))), (2, .int (y)), (3, .int (nI ((rt_px Q w h rr (i + 1)).length)))] := by rw [e9]; exact hl
              exact ih_18 (i + 1) (by omega) (by rw [e9]; exact hI) _ _ _ hP hS (lv_sub hl [2, 3, 4, 5, 0] rfl)
            · cases c_45
          | some b =>
            have hb9 : b < 12 * (w * h) := (rt_ah_back hw0 hrr (by omega) ho_34).1
            refine lv_istore (lv' := [(5, .int (nI (b))), (0, .ref (a 0)), (1, .int (nI (rr))), (2, .int (y)), (3, .int (nI ((rt_px Q w h rr i).length))), (4, .int (nI (i)))]) hx hb d_R_next_34 hl (by decide) rfl (fun ls hl => ?_)
            refine lv_aload_n hx hb d_R_next_36 rfl (lv_at hl 1 rfl) ?_
            refine va_get (D := D) (ci := 3) (v := .ref (a 1)) (C := rn_R) (T := tf_R) (N := 2) hx hb hts in_R hown hK hP 0 rfl rfl 0 (by decide) (hts _ k_fieldLink_rn_R_18_rn_R_rails_LRouteTracks_Rails) (fun _ h9 => h9) rfl d_R_next_37 ?_
            refine lv_iload hx hb d_R_next_40 (lv_at hl 0 rfl) ?_
            refine w_ci (As := [.int (nI (b))]) (rest := []) ⟨hx, hb, hml, hown, hts⟩ (c_A_isOpen l D cI cZ g a ha w h Q ff hd bl rs hs ts rc hc tc (nI (b)) hG) (cwV 1 hts (t_gV k_methodLink_rn_R_88_y_A_isOpen k_instanceMethod_y_A_isOpen k_selects_rn_A_y_A_isOpen_y_A_isOpen k_initialized_rn_A k_code_y_A_isOpen_prog_3_method_11_code_2_some_boolean) rfl rfl rfl (by decide +kernel) ⟨Nat.le_of_ble_eq_true rfl, Nat.le_of_ble_eq_true rfl⟩) (va_recv hK hP (ci := 1) (q0 := 1) rfl rfl) hP hK hZ hS rfl hl.1 rfl (Nat.le_of_ble_eq_true rfl) d_R_next_42 ⟨Nat.zero_le _, Nat.zero_le _⟩ (fun r_42 u_42 H locs hw hP hS => ?_)
            subst hw
            have hP : va_P D vwCl (xw cI a w h Q ff hd bl rs hs ts rc hc tc) H := hP
            rw [rt_opx_s (by omega) hb9]
            refine rw_beq (tgt := 59) hx hb d_R_next_45 (by decide) (fun c_45 => ?_) (fun c_45 => ?_)
            · refine lv_iinc (v := (nI (i + 1))) (lv' := [(4, .int (nI (i + 1))), (5, .int (nI (b))), (0, .ref (a 0)), (1, .int (nI (rr))), (2, .int (y)), (3, .int (nI ((rt_px Q w h rr i).length)))]) hx hb d_R_next_59 hl (k := 5) rfl (nI_add _ _) (by decide) rfl (fun ls hl => ?_)
              refine lv_goto (tgt := 18) hx hb d_R_next_62 (by decide) ?_
              have e9 := rt_pxb_n (K := fun _ => none) (Q := Q) (w := w) (h := h) (r := rr) (i := i) (by rw [ho_34]; exact rt_one_f c_45)
              have hl : lv_has ls 6 [(4, .int (nI (i + 1))), (5, .int (nI (b))), (0, .ref (a 0)), (1, .int (nI (rr))), (2, .int (y)), (3, .int (nI ((rt_px Q w h rr (i + 1)).length)))] := by rw [e9]; exact hl
              exact ih_18 (i + 1) (by omega) (by rw [e9]; exact hI) _ _ _ hP hS (lv_sub hl [2, 3, 4, 5, 0] rfl)
            · refine lv_iload_n hx hb d_R_next_48 rfl (lv_at hl 4 rfl) ?_
              refine lv_iload_n hx hb d_R_next_49 rfl (lv_at hl 3 rfl) ?_
              refine lv_icmp_ne (tgt := 56) hx hb d_R_next_50 (by decide) (fun c_50 => ?_) (fun c_50 => ?_)
              · refine lv_iinc (v := (nI (((rt_px Q w h rr i).length) + 1))) (lv' := [(3, .int (nI (((rt_px Q w h rr i).length) + 1))), (5, .int (nI (b))), (0, .ref (a 0)), (1, .int (nI (rr))), (2, .int (y)), (4, .int (nI (i)))]) hx hb d_R_next_56 hl (k := 4) rfl (nI_add _ _) (by decide) rfl (fun ls hl => ?_)
                refine lv_iinc (v := (nI (i + 1))) (lv' := [(4, .int (nI (i + 1))), (3, .int (nI (((rt_px Q w h rr i).length) + 1))), (5, .int (nI (b))), (0, .ref (a 0)), (1, .int (nI (rr))), (2, .int (y))]) hx hb d_R_next_59 hl (k := 5) rfl (nI_add _ _) (by decide) rfl (fun ls hl => ?_)
                refine lv_goto (tgt := 18) hx hb d_R_next_62 (by decide) ?_
                have e9 : (rt_px Q w h rr (i + 1)).length = (rt_px Q w h rr i).length + 1 := by rw [rt_px_succ, ho_34, rt_one_t c_45]; simp
                have hl : lv_has ls 6 [(4, .int (nI (i + 1))), (3, .int (nI ((rt_px Q w h rr (i + 1)).length))), (5, .int (nI (b))), (0, .ref (a 0)), (1, .int (nI (rr))), (2, .int (y))] := by rw [e9]; exact hl
                exact ih_18 (i + 1) (by omega) (by rw [e9]; intro j hj; rcases Nat.lt_or_ge j (rt_px Q w h rr i).length with z | z; exact hI j z; rw [show j = (rt_px Q w h rr i).length by omega]; exact c_50) _ _ _ hP hS (lv_sub hl [3, 4, 5, 1, 0] rfl)
              · refine lv_iload hx hb d_R_next_53 (lv_at hl 0 rfl) ?_
                exact w_iret () hx hb hr hlocks hS hP (by rw [rt_next_s (by omega) horr]; obtain ⟨l2, e2⟩ := rt_px_pre (Q := Q) (r := rr) (i := i) (by omega) ho_34 c_45; rw [e2, rt_kth_hit c_50 (by have := rt_px_len Q w h rr i; omega)]; rfl) d_R_next_55
    exact LP_18 3 0 (by omega) (fun j hj => by cases hj) _ _ _ hP hS (lv_sub hl [2, 3, 4, 1, 0] rfl)
  · refine lv_iconst (v := (-1)) hx hb d_R_next_11 (by decide) ?_
    exact w_iret () hx hb hr hlocks hS hP ((rt_next_n c_8).symm) d_R_next_12

set_option maxHeartbeats 4000000 in
set_option maxRecDepth 100000 in
theorem c_R_before (l : Launch) (D : va_G) (cI cZ : ClassId) (g a : Nat → Nat) (ha : xI a) (w h : Nat) (Q : Nat → Nat) (ff : Nat → Int32) (hd bl : Int32) (rs : Nat → Int32) (hs ts : Int32) (rc : Nat → Int32) (hc tc : Int32) (x : Int32) (hG : rt_G w h Q) : Met l y_R_before (.code y_R_before b_R_before 4 (some .int) :: tG) ({ frames := 3, cells := 0, slots := 0, locals := 64 }) (va_Pc [.ref (a 0), .int (x)] (wU D cI cZ g (xA a) (xw cI a w h Q ff hd bl rs hs ts rc hc tc))) (va_Qi (S := Unit) (fun r _ => r = rt_before Q w h x) (wB D (fun (u : Unit) => (xw cI a w h Q ff hd bl rs hs ts rc hc tc))) (xA a)) 0 0 (xA a) := by
  refine Met.ofW (cc := b_R_before) (maxL := 4) (ret := (some .int)) (by decide) rfl ?_
  intro p e s m args below meth c s₁ BD9 hml hv
  obtain ⟨rfl, hP, hK, hZ⟩ := hv
  have hx := BD9.exec
  have hb := BD9.bytes
  have hr := BD9.returns
  have hts : ∀ w ∈ tG, w.before _ s = true := fun w hw => atoms_spec (ws := .code y_R_before b_R_before 4 (some .int) :: tG) BD9.pre w (List.mem_cons_of_mem _ hw)
  have hown : s.vm.findClass rn_R = some m.cls := findClass_of_methodNamed BD9.named
  have hlocks := BD9.notSynchronized
  have hS : va_S (xA a) s.heap s.heap [] := va_S.rf
  have hD : va_D (xA a) (xw cI a w h Q ff hd bl rs hs ts rc hc tc) := x_D ha _ rfl
  have hP : va_P D vwCl (xw cI a w h Q ff hd bl rs hs ts rc hc tc) s.heap := hP
  have hl := lv_entry ([.ref (a 0), .int (x)]) (n := 4) (Nat.le_of_ble_eq_true rfl)
  rw [lg_entry_eq]
  generalize (lg_sl ([.ref (a 0), .int (x)]) ++ List.replicate (4 - (lg_sl ([.ref (a 0), .int (x)])).length) Slot.unset).toArray = ls at hl ⊢
  have hl : lv_has ls 4 [(0, .ref (a 0)), (1, .int (x))] := hl
  obtain ⟨hn1, hn⟩ := hG.n
  have hw0 : 0 < w := by have := hG.1.1; omega
  have hQ := hG.2.2
  refine lv_aload_n hx hb d_R_before_0 rfl (lv_at hl 0 rfl) ?_
  refine va_get (D := D) (ci := 3) (v := .ref (a 1)) (C := rn_R) (T := tf_R) (N := 2) hx hb hts in_R hown hK hP 0 rfl rfl 0 (by decide) (hts _ k_fieldLink_rn_R_18_rn_R_rails_LRouteTracks_Rails) (fun _ h9 => h9) rfl d_R_before_1 ?_
  refine lv_iload_n hx hb d_R_before_4 rfl (lv_at hl 1 rfl) ?_
  refine w_ci (As := [.int (x)]) (rest := []) ⟨hx, hb, hml, hown, hts⟩ (c_A_isOpen l D cI cZ g a ha w h Q ff hd bl rs hs ts rc hc tc x hG) (cwV 1 hts (t_gV k_methodLink_rn_R_88_y_A_isOpen k_instanceMethod_y_A_isOpen k_selects_rn_A_y_A_isOpen_y_A_isOpen k_initialized_rn_A k_code_y_A_isOpen_prog_3_method_11_code_2_some_boolean) rfl rfl rfl (by decide +kernel) ⟨Nat.le_of_ble_eq_true rfl, Nat.le_of_ble_eq_true rfl⟩) (va_recv hK hP (ci := 1) (q0 := 1) rfl rfl) hP hK hZ hS rfl hl.1 rfl (Nat.le_of_ble_eq_true rfl) d_R_before_5 ⟨Nat.zero_le _, Nat.zero_le _⟩ (fun r_5 u_5 H locs hw hP hS => ?_)
  subst hw
  have hP : va_P D vwCl (xw cI a w h Q ff hd bl rs hs ts rc hc tc) H := hP
  refine rw_bne (tgt := 13) hx hb d_R_before_8 (by decide) (fun c_8 => ?_) (fun c_8 => ?_)
  · obtain ⟨rr, hrr, rfl, horr⟩ := rt_opx_is (by omega) c_8
    refine lv_iconst (v := (nI (0))) hx hb d_R_before_13 (by decide) ?_
    refine lv_istore_n (lv' := [(2, .int (nI (0))), (0, .ref (a 0)), (1, .int (nI (rr)))]) hx hb d_R_before_14 rfl hl (by decide) rfl (fun ls hl => ?_)
    have LP_15 : ∀ (n_15 : Nat) (i : Nat), i + n_15 = 3 → (rt_pb Q w h rr i = []) → ∀ (H : Heap) (locs : List Loc) (ls : Array Slot), va_P D vwCl (xw cI a w h Q ff hd bl rs hs ts rc hc tc) H → va_S (xA a) s.heap H locs → lv_has ls 4 [(0, .ref (a 0)), (1, .int (nI (rr))), (2, .int (nI (i)))] → W p l e (headSpec (.code y_R_before b_R_before 4 (some .int) :: tG) ({ frames := 3, cells := 0, slots := 0, locals := 64 })).room s m ([.ref (a 0), .int ((nI rr))] : List Value).toArray below meth c H locs 0 0 (MQ below (va_Qi (S := Unit) (fun r _ => r = rt_before Q w h (nI rr)) (wB D (fun (u : Unit) => (xw cI a w h Q ff hd bl rs hs ts rc hc tc))) (xA a)) ([.ref (a 0), .int ((nI rr))] : List Value).toArray s 0 0 (xA a)) (F0 m 15 ls []) := by
      intro n_15
      induction n_15 with
      | zero =>
        intro i hrel_15 hI H locs ls hP hS hl
        have hD : va_D (xA a) (xw cI a w h Q ff hd bl rs hs ts rc hc tc) := x_D ha _ rfl
        refine lv_iload_n hx hb d_R_before_15 rfl (lv_at hl 2 rfl) ?_
        refine lv_iconst (v := (nI (3))) hx hb d_R_before_16 (by decide) ?_
        refine rw_cge (tgt := 49) hx hb d_R_before_17 (by decide) (by omega) (by omega) (fun c_17 => ?_) (fun c_17 => ?_)
        · refine lv_iconst (v := (-1)) hx hb d_R_before_49 (by decide) ?_
          exact w_iret () hx hb hr hlocks hS hP (by rw [rt_before_s (by omega) horr]; rw [show i = 3 by omega] at hI; unfold rt_bf; rw [hI]; rfl) d_R_before_50
        · omega
      | succ n_15 ih_15 =>
        intro i hrel_15 hI H locs ls hP hS hl
        have hD : va_D (xA a) (xw cI a w h Q ff hd bl rs hs ts rc hc tc) := x_D ha _ rfl
        refine lv_iload_n hx hb d_R_before_15 rfl (lv_at hl 2 rfl) ?_
        refine lv_iconst (v := (nI (3))) hx hb d_R_before_16 (by decide) ?_
        refine rw_cge (tgt := 49) hx hb d_R_before_17 (by decide) (by omega) (by omega) (fun c_17 => ?_) (fun c_17 => ?_)
        · omega
        · refine lv_aload_n hx hb d_R_before_20 rfl (lv_at hl 0 rfl) ?_
          refine va_get (D := D) (ci := 3) (v := .ref (a 1)) (C := rn_R) (T := tf_R) (N := 2) hx hb hts in_R hown hK hP 0 rfl rfl 0 (by decide) (hts _ k_fieldLink_rn_R_18_rn_R_rails_LRouteTracks_Rails) (fun _ h9 => h9) rfl d_R_before_21 ?_
          refine lv_iload_n hx hb d_R_before_24 rfl (lv_at hl 1 rfl) ?_
          refine lv_iload_n hx hb d_R_before_25 rfl (lv_at hl 2 rfl) ?_
          refine w_ci (As := [.int (nI (rr)), .int (nI (i))]) (rest := []) ⟨hx, hb, hml, hown, hts⟩ (c_A_behind l D cI cZ g a ha w h Q ff hd bl rs hs ts rc hc tc rr i hG hrr (by omega)) (cwV 2 hts (t_gV k_methodLink_rn_R_95_y_A_behind k_instanceMethod_y_A_behind k_selects_rn_A_y_A_behind_y_A_behind k_initialized_rn_A k_code_y_A_behind_prog_3_method_15_code_4_some_int) rfl rfl rfl (by decide +kernel) ⟨Nat.le_of_ble_eq_true rfl, Nat.le_of_ble_eq_true rfl⟩) (va_recv hK hP (ci := 1) (q0 := 1) rfl rfl) hP hK hZ hS rfl hl.1 rfl (Nat.le_of_ble_eq_true rfl) d_R_before_26 ⟨Nat.zero_le _, Nat.zero_le _⟩ (fun r_26 u_26 H locs hw hP hS => ?_)
          subst hw
          have hP : va_P D vwCl (xw cI a w h Q ff hd bl rs hs ts rc hc tc) H := hP
          cases ho_29 : rt_bh w h rr i with
          | none =>
            refine lv_istore_n (lv' := [(3, .int (-1)), (0, .ref (a 0)), (1, .int (nI (rr))), (2, .int (nI (i)))]) hx hb d_R_before_29 rfl hl (by decide) rfl (fun ls hl => ?_)
            refine lv_aload_n hx hb d_R_before_30 rfl (lv_at hl 1 rfl) ?_
            refine va_get (D := D) (ci := 3) (v := .ref (a 1)) (C := rn_R) (T := tf_R) (N := 2) hx hb hts in_R hown hK hP 0 rfl rfl 0 (by decide) (hts _ k_fieldLink_rn_R_18_rn_R_rails_LRouteTracks_Rails) (fun _ h9 => h9) rfl d_R_before_31 ?_
            refine lv_iload_n hx hb d_R_before_34 rfl (lv_at hl 0 rfl) ?_
            refine w_ci (As := [.int (-1)]) (rest := []) ⟨hx, hb, hml, hown, hts⟩ (c_A_isOpen l D cI cZ g a ha w h Q ff hd bl rs hs ts rc hc tc (-1) hG) (cwV 1 hts (t_gV k_methodLink_rn_R_88_y_A_isOpen k_instanceMethod_y_A_isOpen k_selects_rn_A_y_A_isOpen_y_A_isOpen k_initialized_rn_A k_code_y_A_isOpen_prog_3_method_11_code_2_some_boolean) rfl rfl rfl (by decide +kernel) ⟨Nat.le_of_ble_eq_true rfl, Nat.le_of_ble_eq_true rfl⟩) (va_recv hK hP (ci := 1) (q0 := 1) rfl rfl) hP hK hZ hS rfl hl.1 rfl (Nat.le_of_ble_eq_true rfl) d_R_before_35 ⟨Nat.zero_le _, Nat.zero_le _⟩ (fun r_35 u_35 H locs hw hP hS => ?_)
            subst hw
            have hP : va_P D vwCl (xw cI a w h Q ff hd bl rs hs ts rc hc tc) H := hP
            rw [rt_opx_n (Or.inl (by decide))]
            refine rw_beq (tgt := 43) hx hb d_R_before_38 (by decide) (fun c_38 => ?_) (fun c_38 => ?_)
            · refine lv_iinc (v := (nI (i + 1))) (lv' := [(2, .int (nI (i + 1))), (3, .int (-1)), (0, .ref (a 0)), (1, .int (nI (rr)))]) hx hb d_R_before_43 hl (k := 3) rfl (nI_add _ _) (by decide) rfl (fun ls hl => ?_)
              refine lv_goto (tgt := 15) hx hb d_R_before_46 (by decide) ?_
              exact ih_15 (i + 1) (by omega) (by rw [rt_pb_succ, hI, ho_29]; rfl) _ _ _ hP hS (lv_sub hl [2, 3, 0] rfl)
            · cases c_38
          | some b =>
            have hb9 : b < 12 * (w * h) := rt_bh_lt hw0 hrr (by omega) ho_29
            refine lv_istore_n (lv' := [(3, .int (nI (b))), (0, .ref (a 0)), (1, .int (nI (rr))), (2, .int (nI (i)))]) hx hb d_R_before_29 rfl hl (by decide) rfl (fun ls hl => ?_)
            refine lv_aload_n hx hb d_R_before_30 rfl (lv_at hl 1 rfl) ?_
            refine va_get (D := D) (ci := 3) (v := .ref (a 1)) (C := rn_R) (T := tf_R) (N := 2) hx hb hts in_R hown hK hP 0 rfl rfl 0 (by decide) (hts _ k_fieldLink_rn_R_18_rn_R_rails_LRouteTracks_Rails) (fun _ h9 => h9) rfl d_R_before_31 ?_
            refine lv_iload_n hx hb d_R_before_34 rfl (lv_at hl 0 rfl) ?_
            refine w_ci (As := [.int (nI (b))]) (rest := []) ⟨hx, hb, hml, hown, hts⟩ (c_A_isOpen l D cI cZ g a ha w h Q ff hd bl rs hs ts rc hc tc (nI (b)) hG) (cwV 1 hts (t_gV k_methodLink_rn_R_88_y_A_isOpen k_instanceMethod_y_A_isOpen k_selects_rn_A_y_A_isOpen_y_A_isOpen k_initialized_rn_A k_code_y_A_isOpen_prog_3_method_11_code_2_some_boolean) rfl rfl rfl (by decide +kernel) ⟨Nat.le_of_ble_eq_true rfl, Nat.le_of_ble_eq_true rfl⟩) (va_recv hK hP (ci := 1) (q0 := 1) rfl rfl) hP hK hZ hS rfl hl.1 rfl (Nat.le_of_ble_eq_true rfl) d_R_before_35 ⟨Nat.zero_le _, Nat.zero_le _⟩ (fun r_35 u_35 H locs hw hP hS => ?_)
            subst hw
            have hP : va_P D vwCl (xw cI a w h Q ff hd bl rs hs ts rc hc tc) H := hP
            rw [rt_opx_s (by omega) hb9]
            refine rw_beq (tgt := 43) hx hb d_R_before_38 (by decide) (fun c_38 => ?_) (fun c_38 => ?_)
            · refine lv_iinc (v := (nI (i + 1))) (lv' := [(2, .int (nI (i + 1))), (3, .int (nI (b))), (0, .ref (a 0)), (1, .int (nI (rr)))]) hx hb d_R_before_43 hl (k := 3) rfl (nI_add _ _) (by decide) rfl (fun ls hl => ?_)
              refine lv_goto (tgt := 15) hx hb d_R_before_46 (by decide) ?_
              exact ih_15 (i + 1) (by omega) (by rw [rt_pb_succ, hI, ho_29]; exact rt_one_f c_38) _ _ _ hP hS (lv_sub hl [2, 3, 0] rfl)
            · refine lv_iload_n hx hb d_R_before_41 rfl (lv_at hl 0 rfl) ?_
              exact w_iret () hx hb hr hlocks hS hP (by rw [rt_before_s (by omega) horr, rt_pb_pre (by omega) hI ho_29 c_38]; rfl) d_R_before_42
    exact LP_15 3 0 (by omega) rfl _ _ _ hP hS (lv_sub hl [1, 2, 0] rfl)
  · refine lv_iconst (v := (-1)) hx hb d_R_before_11 (by decide) ?_
    exact w_iret () hx hb hr hlocks hS hP ((rt_before_n c_8).symm) d_R_before_12

set_option maxHeartbeats 4000000 in
set_option maxRecDepth 100000 in
theorem c_R_sign (l : Launch) (D : va_G) (cI cZ : ClassId) (g a : Nat → Nat) (ha : xI a) (w h : Nat) (Q : Nat → Nat) (ff : Nat → Int32) (hd bl : Int32) (rs : Nat → Int32) (hs ts : Int32) (rc : Nat → Int32) (hc tc : Int32) (x : Int32) (hG : rt_G w h Q) : Met l y_R_sign (.code y_R_sign b_R_sign 3 (some .int) :: tG) ({ frames := 1, cells := 0, slots := 0, locals := 21 }) (va_Pc [.ref (a 0), .int (x)] (wU D cI cZ g (xA a) (xw cI a w h Q ff hd bl rs hs ts rc hc tc))) (va_Qi (S := Unit) (fun r _ => r = rt_sign Q (w * h) x) (wB D (fun (u : Unit) => (xw cI a w h Q ff hd bl rs hs ts rc hc tc))) (xA a)) 0 0 (xA a) := by
  refine Met.ofW (cc := b_R_sign) (maxL := 3) (ret := (some .int)) (by decide) rfl ?_
  intro p e s m args below meth c s₁ BD9 hml hv
  obtain ⟨rfl, hP, hK, hZ⟩ := hv
  have hx := BD9.exec
  have hb := BD9.bytes
  have hr := BD9.returns
  have hts : ∀ w ∈ tG, w.before _ s = true := fun w hw => atoms_spec (ws := .code y_R_sign b_R_sign 3 (some .int) :: tG) BD9.pre w (List.mem_cons_of_mem _ hw)
  have hown : s.vm.findClass rn_R = some m.cls := findClass_of_methodNamed BD9.named
  have hlocks := BD9.notSynchronized
  have hS : va_S (xA a) s.heap s.heap [] := va_S.rf
  have hD : va_D (xA a) (xw cI a w h Q ff hd bl rs hs ts rc hc tc) := x_D ha _ rfl
  have hP : va_P D vwCl (xw cI a w h Q ff hd bl rs hs ts rc hc tc) s.heap := hP
  have hl := lv_entry ([.ref (a 0), .int (x)]) (n := 3) (Nat.le_of_ble_eq_true rfl)
  rw [lg_entry_eq]
  generalize (lg_sl ([.ref (a 0), .int (x)]) ++ List.replicate (3 - (lg_sl ([.ref (a 0), .int (x)])).length) Slot.unset).toArray = ls at hl ⊢
  have hl : lv_has ls 3 [(0, .ref (a 0)), (1, .int (x))] := hl
  obtain ⟨hn1, hn⟩ := hG.n
  have hw0 : 0 < w := by have := hG.1.1; omega
  have hQ := hG.2.2
  refine lv_iload_n hx hb d_R_sign_0 rfl (lv_at hl 1 rfl) ?_
  refine w_si (As := [.int (x)]) (rest := []) ⟨hx, hb, hml, hown, hts⟩ (c_R_isStation l D cI cZ g a ha w h Q ff hd bl rs hs ts rc hc tc x hG) (va_cwS 1 hts (t_gS k_methodLink_rn_R_65_y_R_isStation k_static_y_R_isStation k_initialized_rn_R k_code_y_R_isStation_prog_1_method_17_code_1_some_boolean) rfl rfl rfl (by decide +kernel) ⟨Nat.le_of_ble_eq_true rfl, Nat.le_of_ble_eq_true rfl⟩) hP hK hZ hS rfl hl.1 rfl (Nat.le_of_ble_eq_true rfl) d_R_sign_1 ⟨Nat.zero_le _, Nat.zero_le _⟩ (fun r_1 u_1 H locs hw hP hS => ?_)
  subst hw
  have hP : va_P D vwCl (xw cI a w h Q ff hd bl rs hs ts rc hc tc) H := hP
  refine rw_bne (tgt := 9) hx hb d_R_sign_4 (by decide) (fun c_4 => ?_) (fun c_4 => ?_)
  · obtain ⟨z, hz, rfl⟩ := rt_ix_is (by omega) c_4
    refine lv_iconst (v := (nI (0))) hx hb d_R_sign_9 (by decide) ?_
    refine lv_istore_n (lv' := [(2, .int (nI (0))), (0, .ref (a 0)), (1, .int (nI (z)))]) hx hb d_R_sign_10 rfl hl (by decide) rfl (fun ls hl => ?_)
    have LP_11 : ∀ (n_11 : Nat) (k : Nat), k + n_11 = 6 * (w * h) → (∀ j, j < k → rt_s Q j ≠ z + 1) → ∀ (H : Heap) (locs : List Loc) (ls : Array Slot), va_P D vwCl (xw cI a w h Q ff hd bl rs hs ts rc hc tc) H → va_S (xA a) s.heap H locs → lv_has ls 3 [(0, .ref (a 0)), (1, .int (nI (z))), (2, .int (nI (k)))] → W p l e (headSpec (.code y_R_sign b_R_sign 3 (some .int) :: tG) ({ frames := 1, cells := 0, slots := 0, locals := 21 })).room s m ([.ref (a 0), .int ((nI z))] : List Value).toArray below meth c H locs 0 0 (MQ below (va_Qi (S := Unit) (fun r _ => r = rt_sign Q (w * h) (nI z)) (wB D (fun (u : Unit) => (xw cI a w h Q ff hd bl rs hs ts rc hc tc))) (xA a)) ([.ref (a 0), .int ((nI z))] : List Value).toArray s 0 0 (xA a)) (F0 m 11 ls []) := by
      intro n_11
      induction n_11 with
      | zero =>
        intro k hrel_11 hI H locs ls hP hS hl
        have hD : va_D (xA a) (xw cI a w h Q ff hd bl rs hs ts rc hc tc) := x_D ha _ rfl
        refine lv_iload_n hx hb d_R_sign_11 rfl (lv_at hl 2 rfl) ?_
        refine lv_aload_n hx hb d_R_sign_12 rfl (lv_at hl 0 rfl) ?_
        refine va_get (D := D) (ci := 3) (v := .ref (a 1)) (C := rn_R) (T := tf_R) (N := 2) hx hb hts in_R hown hK hP 0 rfl rfl 0 (by decide) (hts _ k_fieldLink_rn_R_18_rn_R_rails_LRouteTracks_Rails) (fun _ h9 => h9) rfl d_R_sign_13 ?_
        refine va_get (D := D) (ci := 1) (v := .ref (a 3)) (C := rn_A) (T := tf_A) (N := 2) hx hb hts in_A hown hK hP 1 rfl rfl 1 (by decide) (hts _ k_fieldLink_rn_R_84_rn_A_pieces_I) (fun _ h9 => h9) rfl d_R_sign_16 ?_
        refine va_alen (v := nI (6 * (w * h))) hx hb hK hP 3 0 rfl rfl rfl d_R_sign_19 ?_
        refine rw_cge (tgt := 46) hx hb d_R_sign_20 (by decide) (by omega) (by omega) (fun c_20 => ?_) (fun c_20 => ?_)
        · refine lv_iconst (v := (-1)) hx hb d_R_sign_46 (by decide) ?_
          exact w_iret () hx hb hr hlocks hS hP (by rw [rt_sign_s hz, rt_sgn_none (by rw [← show k = 6 * (w * h) by omega]; exact hI)]; rfl) d_R_sign_47
        · omega
      | succ n_11 ih_11 =>
        intro k hrel_11 hI H locs ls hP hS hl
        have hD : va_D (xA a) (xw cI a w h Q ff hd bl rs hs ts rc hc tc) := x_D ha _ rfl
        refine lv_iload_n hx hb d_R_sign_11 rfl (lv_at hl 2 rfl) ?_
        refine lv_aload_n hx hb d_R_sign_12 rfl (lv_at hl 0 rfl) ?_
        refine va_get (D := D) (ci := 3) (v := .ref (a 1)) (C := rn_R) (T := tf_R) (N := 2) hx hb hts in_R hown hK hP 0 rfl rfl 0 (by decide) (hts _ k_fieldLink_rn_R_18_rn_R_rails_LRouteTracks_Rails) (fun _ h9 => h9) rfl d_R_sign_13 ?_
        refine va_get (D := D) (ci := 1) (v := .ref (a 3)) (C := rn_A) (T := tf_A) (N := 2) hx hb hts in_A hown hK hP 1 rfl rfl 1 (by decide) (hts _ k_fieldLink_rn_R_84_rn_A_pieces_I) (fun _ h9 => h9) rfl d_R_sign_16 ?_
        refine va_alen (v := nI (6 * (w * h))) hx hb hK hP 3 0 rfl rfl rfl d_R_sign_19 ?_
        refine rw_cge (tgt := 46) hx hb d_R_sign_20 (by decide) (by omega) (by omega) (fun c_20 => ?_) (fun c_20 => ?_)
        · omega
        · refine lv_aload_n hx hb d_R_sign_23 rfl (lv_at hl 0 rfl) ?_
          refine va_get (D := D) (ci := 3) (v := .ref (a 1)) (C := rn_R) (T := tf_R) (N := 2) hx hb hts in_R hown hK hP 0 rfl rfl 0 (by decide) (hts _ k_fieldLink_rn_R_18_rn_R_rails_LRouteTracks_Rails) (fun _ h9 => h9) rfl d_R_sign_24 ?_
          refine lv_iload_n hx hb d_R_sign_27 rfl (lv_at hl 2 rfl) ?_
          refine w_ci (As := [.int (nI (k))]) (rest := []) ⟨hx, hb, hml, hown, hts⟩ (c_A_stationOf l D cI cZ g a ha w h Q ff hd bl rs hs ts rc hc tc k hG (by omega)) (cwV 1 hts (t_gV k_methodLink_rn_R_62_y_A_stationOf k_instanceMethod_y_A_stationOf k_selects_rn_A_y_A_stationOf_y_A_stationOf k_initialized_rn_A k_code_y_A_stationOf_prog_3_method_7_code_2_some_int) rfl rfl rfl (by decide +kernel) ⟨Nat.le_of_ble_eq_true rfl, Nat.le_of_ble_eq_true rfl⟩) (va_recv hK hP (ci := 1) (q0 := 1) rfl rfl) hP hK hZ hS rfl hl.1 rfl (Nat.le_of_ble_eq_true rfl) d_R_sign_28 ⟨Nat.zero_le _, Nat.zero_le _⟩ (fun r_28 u_28 H locs hw hP hS => ?_)
          subst hw
          have hP : va_P D vwCl (xw cI a w h Q ff hd bl rs hs ts rc hc tc) H := hP
          refine lv_iload_n hx hb d_R_sign_31 rfl (lv_at hl 1 rfl) ?_
          refine lv_icmp_ne (tgt := 40) hx hb d_R_sign_32 (by decide) (fun c_32 => ?_) (fun c_32 => ?_)
          · refine lv_iinc (v := (nI (k + 1))) (lv' := [(2, .int (nI (k + 1))), (0, .ref (a 0)), (1, .int (nI (z)))]) hx hb d_R_sign_40 hl (k := 2) rfl (nI_add _ _) (by decide) rfl (fun ls hl => ?_)
            refine lv_goto (tgt := 11) hx hb d_R_sign_43 (by decide) ?_
            exact ih_11 (k + 1) (by omega) (fun j hj => by rcases Nat.lt_or_ge j k with q | q; exact hI j q; rw [show j = k by omega]; exact fun e9 => c_32 (rt_st_mk e9)) _ _ _ hP hS (lv_sub hl [1, 2, 0] rfl)
          · refine lv_iload_n hx hb d_R_sign_35 rfl (lv_at hl 2 rfl) ?_
            refine lv_bipush (v := (nI (6))) hx hb d_R_sign_36 (by decide) ?_
            refine rw_div hx hb d_R_sign_38 (by omega) (by omega) (by omega) ?_
            exact w_iret () hx hb hr hlocks hS hP (by rw [rt_sign_s hz, rt_sgn_some (by omega) (rt_st_eq (rt_ok_s hQ k) hz c_32) hI]; rfl) d_R_sign_39
    exact LP_11 (6 * (w * h)) 0 (by omega) (fun j hj => absurd hj (Nat.not_lt_zero j)) _ _ _ hP hS (lv_sub hl [1, 2, 0] rfl)
  · refine lv_iconst (v := (-1)) hx hb d_R_sign_7 (by decide) ?_
    exact w_iret () hx hb hr hlocks hS hP ((rt_sign_n (rt_ix_no c_4)).symm) d_R_sign_8

set_option maxHeartbeats 4000000 in
set_option maxRecDepth 100000 in
theorem c_R_isTarget (l : Launch) (D : va_G) (cI cZ : ClassId) (g a : Nat → Nat) (ha : xI a) (w h : Nat) (Q : Nat → Nat) (ff : Nat → Int32) (hd bl : Int32) (rs : Nat → Int32) (hs ts : Int32) (rc : Nat → Int32) (hc tc : Int32) (x y : Int32) (hG : rt_G w h Q) : Met l y_R_isTarget (.code y_R_isTarget b_R_isTarget 3 (some .boolean) :: tG) ({ frames := 4, cells := 0, slots := 0, locals := 88 }) (va_Pc [.ref (a 0), .int (x), .int (y)] (wU D cI cZ g (xA a) (xw cI a w h Q ff hd bl rs hs ts rc hc tc))) (va_Qi (S := Unit) (fun r _ => r = rt_b (rt_isT Q w h x y)) (wB D (fun (u : Unit) => (xw cI a w h Q ff hd bl rs hs ts rc hc tc))) (xA a)) 0 0 (xA a) := by
  refine Met.ofW (cc := b_R_isTarget) (maxL := 3) (ret := (some .boolean)) (by decide) rfl ?_
  intro p e s m args below meth c s₁ BD9 hml hv
  obtain ⟨rfl, hP, hK, hZ⟩ := hv
  have hx := BD9.exec
  have hb := BD9.bytes
  have hr := BD9.returns
  have hts : ∀ w ∈ tG, w.before _ s = true := fun w hw => atoms_spec (ws := .code y_R_isTarget b_R_isTarget 3 (some .boolean) :: tG) BD9.pre w (List.mem_cons_of_mem _ hw)
  have hown : s.vm.findClass rn_R = some m.cls := findClass_of_methodNamed BD9.named
  have hlocks := BD9.notSynchronized
  have hS : va_S (xA a) s.heap s.heap [] := va_S.rf
  have hD : va_D (xA a) (xw cI a w h Q ff hd bl rs hs ts rc hc tc) := x_D ha _ rfl
  have hP : va_P D vwCl (xw cI a w h Q ff hd bl rs hs ts rc hc tc) s.heap := hP
  have hl := lv_entry ([.ref (a 0), .int (x), .int (y)]) (n := 3) (Nat.le_of_ble_eq_true rfl)
  rw [lg_entry_eq]
  generalize (lg_sl ([.ref (a 0), .int (x), .int (y)]) ++ List.replicate (3 - (lg_sl ([.ref (a 0), .int (x), .int (y)])).length) Slot.unset).toArray = ls at hl ⊢
  have hl : lv_has ls 3 [(0, .ref (a 0)), (1, .int (x)), (2, .int (y))] := hl
  obtain ⟨hn1, hn⟩ := hG.n
  have hw0 : 0 < w := by have := hG.1.1; omega
  have hQ := hG.2.2
  refine lv_iload_n hx hb d_R_isTarget_0 rfl (lv_at hl 2 rfl) ?_
  refine w_si (As := [.int (y)]) (rest := []) ⟨hx, hb, hml, hown, hts⟩ (c_R_isStation l D cI cZ g a ha w h Q ff hd bl rs hs ts rc hc tc y hG) (va_cwS 1 hts (t_gS k_methodLink_rn_R_65_y_R_isStation k_static_y_R_isStation k_initialized_rn_R k_code_y_R_isStation_prog_1_method_17_code_1_some_boolean) rfl rfl rfl (by decide +kernel) ⟨Nat.le_of_ble_eq_true rfl, Nat.le_of_ble_eq_true rfl⟩) hP hK hZ hS rfl hl.1 rfl (Nat.le_of_ble_eq_true rfl) d_R_isTarget_1 ⟨Nat.zero_le _, Nat.zero_le _⟩ (fun r_1 u_1 H locs hw hP hS => ?_)
  subst hw
  have hP : va_P D vwCl (xw cI a w h Q ff hd bl rs hs ts rc hc tc) H := hP
  refine rw_beq (tgt := 34) hx hb d_R_isTarget_4 (by decide) (fun c_4 => ?_) (fun c_4 => ?_)
  · refine lv_iconst (v := (nI (0))) hx hb d_R_isTarget_34 (by decide) ?_
    exact w_zret (v := false) () hx hb hr hlocks hS hP (congrArg rt_b (by first | exact (rt_isT_n (Or.inl (rt_ix_no c_4))).symm | exact (rt_isT_n (Or.inr c_15)).symm | (rw [rt_isT_s (by omega) hrr hz, horr, c_27]; rfl))) d_R_isTarget_35
  · obtain ⟨z, hz, rfl⟩ := rt_ix_is (by omega) c_4
    refine lv_aload_n hx hb d_R_isTarget_7 rfl (lv_at hl 0 rfl) ?_
    refine va_get (D := D) (ci := 3) (v := .ref (a 1)) (C := rn_R) (T := tf_R) (N := 2) hx hb hts in_R hown hK hP 0 rfl rfl 0 (by decide) (hts _ k_fieldLink_rn_R_18_rn_R_rails_LRouteTracks_Rails) (fun _ h9 => h9) rfl d_R_isTarget_8 ?_
    refine lv_iload_n hx hb d_R_isTarget_11 rfl (lv_at hl 1 rfl) ?_
    refine w_ci (As := [.int (x)]) (rest := []) ⟨hx, hb, hml, hown, hts⟩ (c_A_isOpen l D cI cZ g a ha w h Q ff hd bl rs hs ts rc hc tc x hG) (cwV 1 hts (t_gV k_methodLink_rn_R_88_y_A_isOpen k_instanceMethod_y_A_isOpen k_selects_rn_A_y_A_isOpen_y_A_isOpen k_initialized_rn_A k_code_y_A_isOpen_prog_3_method_11_code_2_some_boolean) rfl rfl rfl (by decide +kernel) ⟨Nat.le_of_ble_eq_true rfl, Nat.le_of_ble_eq_true rfl⟩) (va_recv hK hP (ci := 1) (q0 := 1) rfl rfl) hP hK hZ hS rfl hl.1 rfl (Nat.le_of_ble_eq_true rfl) d_R_isTarget_12 ⟨Nat.zero_le _, Nat.zero_le _⟩ (fun r_12 u_12 H locs hw hP hS => ?_)
    subst hw
    have hP : va_P D vwCl (xw cI a w h Q ff hd bl rs hs ts rc hc tc) H := hP
    refine rw_beq (tgt := 34) hx hb d_R_isTarget_15 (by decide) (fun c_15 => ?_) (fun c_15 => ?_)
    · refine lv_iconst (v := (nI (0))) hx hb d_R_isTarget_34 (by decide) ?_
      exact w_zret (v := false) () hx hb hr hlocks hS hP (congrArg rt_b (by first | exact (rt_isT_n (Or.inl (rt_ix_no c_4))).symm | exact (rt_isT_n (Or.inr c_15)).symm | (rw [rt_isT_s (by omega) hrr hz, horr, c_27]; rfl))) d_R_isTarget_35
    · obtain ⟨rr, hrr, rfl, horr⟩ := rt_opx_is (by omega) c_15
      refine lv_aload_n hx hb d_R_isTarget_18 rfl (lv_at hl 0 rfl) ?_
      refine va_get (D := D) (ci := 3) (v := .ref (a 1)) (C := rn_R) (T := tf_R) (N := 2) hx hb hts in_R hown hK hP 0 rfl rfl 0 (by decide) (hts _ k_fieldLink_rn_R_18_rn_R_rails_LRouteTracks_Rails) (fun _ h9 => h9) rfl d_R_isTarget_19 ?_
      refine lv_iload_n hx hb d_R_isTarget_22 rfl (lv_at hl 1 rfl) ?_
      refine lv_iload_n hx hb d_R_isTarget_23 rfl (lv_at hl 2 rfl) ?_
      refine w_ci (As := [.int (nI (rr)), .int (nI (z))]) (rest := []) ⟨hx, hb, hml, hown, hts⟩ (c_A_isLastOf l D cI cZ g a ha w h Q ff hd bl rs hs ts rc hc tc rr z hG hrr hz) (cwV 2 hts (t_gV k_methodLink_rn_R_108_y_A_isLastOf k_instanceMethod_y_A_isLastOf k_selects_rn_A_y_A_isLastOf_y_A_isLastOf k_initialized_rn_A k_code_y_A_isLastOf_prog_3_method_16_code_5_some_boolean) rfl rfl rfl (by decide +kernel) ⟨Nat.le_of_ble_eq_true rfl, Nat.le_of_ble_eq_true rfl⟩) (va_recv hK hP (ci := 1) (q0 := 1) rfl rfl) hP hK hZ hS rfl hl.1 rfl (Nat.le_of_ble_eq_true rfl) d_R_isTarget_24 ⟨Nat.zero_le _, Nat.zero_le _⟩ (fun r_24 u_24 H locs hw hP hS => ?_)
      subst hw
      have hP : va_P D vwCl (xw cI a w h Q ff hd bl rs hs ts rc hc tc) H := hP
      refine rw_beq (tgt := 34) hx hb d_R_isTarget_27 (by decide) (fun c_27 => ?_) (fun c_27 => ?_)
      · refine lv_iconst (v := (nI (0))) hx hb d_R_isTarget_34 (by decide) ?_
        exact w_zret (v := false) () hx hb hr hlocks hS hP (congrArg rt_b (by first | exact (rt_isT_n (Or.inl (rt_ix_no c_4))).symm | exact (rt_isT_n (Or.inr c_15)).symm | (rw [rt_isT_s (by omega) hrr hz, horr, c_27]; rfl))) d_R_isTarget_35
      · refine lv_iconst (v := (nI (1))) hx hb d_R_isTarget_30 (by decide) ?_
        refine lv_goto (tgt := 35) hx hb d_R_isTarget_31 (by decide) ?_
        exact w_zret (v := true) () hx hb hr hlocks hS hP (congrArg rt_b (by first | exact (rt_isT_n (Or.inl (rt_ix_no c_4))).symm | exact (rt_isT_n (Or.inr c_15)).symm | (rw [rt_isT_s (by omega) hrr hz, horr, c_27]; rfl))) d_R_isTarget_35

set_option maxHeartbeats 4000000 in
set_option maxRecDepth 100000 in
theorem c_R_block (l : Launch) (D : va_G) (cI cZ : ClassId) (g a : Nat → Nat) (ha : xI a) (w h : Nat) (Q : Nat → Nat) (ff : Nat → Int32) (hd bl : Int32) (rs : Nat → Int32) (hs ts : Int32) (rc : Nat → Int32) (hc tc : Int32) (x y : Int32) (hG : rt_G w h Q) (hk0 : rt_hk Q w h hd ff bl) : Met l y_R_block (.code y_R_block b_R_block 3 (some .int) :: tG) ({ frames := 5, cells := 0, slots := 0, locals := 115 }) (va_Pc [.ref (a 0), .int (x), .int (y)] (wU D cI cZ g (xA a) (xw cI a w h Q ff hd bl rs hs ts rc hc tc))) (va_Qi (S := ((Nat → Int32) × Int32 × Int32 × (Nat → Int32) × Int32 × Int32 × (Nat → Int32) × Int32 × Int32)) (fun r u => ((r = -1 ∧ (rt_ix x (w * h) = none ∨ rt_ix y 6 = none)) ∨ ∃ B, rt_isB Q w h B ∧ r = rt_blk Q (w * h) B x y) ∧ rt_hk Q w h u.2.1 u.1 u.2.2.1) (wB D (fun (u : ((Nat → Int32) × Int32 × Int32 × (Nat → Int32) × Int32 × Int32 × (Nat → Int32) × Int32 × Int32)) => (xw cI a w h Q u.1 u.2.1 u.2.2.1 u.2.2.2.1 u.2.2.2.2.1 u.2.2.2.2.2.1 u.2.2.2.2.2.2.1 u.2.2.2.2.2.2.2.1 u.2.2.2.2.2.2.2.2))) (xA a)) 0 0 (xA a) := by
  refine Met.ofW (cc := b_R_block) (maxL := 3) (ret := (some .int)) (by decide) rfl ?_
  intro p e s m args below meth c s₁ BD9 hml hv
  obtain ⟨rfl, hP, hK, hZ⟩ := hv
  have hx := BD9.exec
  have hb := BD9.bytes
  have hr := BD9.returns
  have hts : ∀ w ∈ tG, w.before _ s = true := fun w hw => atoms_spec (ws := .code y_R_block b_R_block 3 (some .int) :: tG) BD9.pre w (List.mem_cons_of_mem _ hw)
  have hown : s.vm.findClass rn_R = some m.cls := findClass_of_methodNamed BD9.named
  have hlocks := BD9.notSynchronized
  have hS : va_S (xA a) s.heap s.heap [] := va_S.rf
  have hD : va_D (xA a) (xw cI a w h Q ff hd bl rs hs ts rc hc tc) := x_D ha _ rfl
  have hP : va_P D vwCl (xw cI a w h Q ff hd bl rs hs ts rc hc tc) s.heap := hP
  have hl := lv_entry ([.ref (a 0), .int (x), .int (y)]) (n := 3) (Nat.le_of_ble_eq_true rfl)
  rw [lg_entry_eq]
  generalize (lg_sl ([.ref (a 0), .int (x), .int (y)]) ++ List.replicate (3 - (lg_sl ([.ref (a 0), .int (x), .int (y)])).length) Slot.unset).toArray = ls at hl ⊢
  have hl : lv_has ls 3 [(0, .ref (a 0)), (1, .int (x)), (2, .int (y))] := hl
  obtain ⟨hn1, hn⟩ := hG.n
  have hw0 : 0 < w := by have := hG.1.1; omega
  have hQ := hG.2.2
  refine lv_aload_n hx hb d_R_block_0 rfl (lv_at hl 0 rfl) ?_
  refine va_get (D := D) (ci := 3) (v := .ref (a 1)) (C := rn_R) (T := tf_R) (N := 2) hx hb hts in_R hown hK hP 0 rfl rfl 0 (by decide) (hts _ k_fieldLink_rn_R_18_rn_R_rails_LRouteTracks_Rails) (fun _ h9 => h9) rfl d_R_block_1 ?_
  refine lv_iload_n hx hb d_R_block_4 rfl (lv_at hl 1 rfl) ?_
  refine w_ci (As := [.int (x)]) (rest := []) ⟨hx, hb, hml, hown, hts⟩ (c_A_hasTile l D cI cZ g a ha w h Q ff hd bl rs hs ts rc hc tc x hG) (cwV 1 hts (t_gV k_methodLink_rn_R_78_y_A_hasTile k_instanceMethod_y_A_hasTile k_selects_rn_A_y_A_hasTile_y_A_hasTile k_initialized_rn_A k_code_y_A_hasTile_prog_3_method_2_code_2_some_boolean) rfl rfl rfl (by decide +kernel) ⟨Nat.le_of_ble_eq_true rfl, Nat.le_of_ble_eq_true rfl⟩) (va_recv hK hP (ci := 1) (q0 := 1) rfl rfl) hP hK hZ hS rfl hl.1 rfl (Nat.le_of_ble_eq_true rfl) d_R_block_5 ⟨Nat.zero_le _, Nat.zero_le _⟩ (fun r_5 u_5 H locs hw hP hS => ?_)
  subst hw
  have hP : va_P D vwCl (xw cI a w h Q ff hd bl rs hs ts rc hc tc) H := hP
  refine rw_beq (tgt := 18) hx hb d_R_block_8 (by decide) (fun c_8 => ?_) (fun c_8 => ?_)
  · refine lv_iconst (v := (-1)) hx hb d_R_block_18 (by decide) ?_
    exact w_iret (ff, hd, bl, rs, hs, ts, rc, hc, tc) hx hb hr hlocks hS hP (⟨Or.inl ⟨rfl, by first | exact Or.inl (rt_ix_no c_8) | exact Or.inr (rt_ix_no c_15)⟩, hk0⟩) d_R_block_19
  · obtain ⟨t, ht, rfl⟩ := rt_ix_is (by omega) c_8
    refine lv_iload_n hx hb d_R_block_11 rfl (lv_at hl 2 rfl) ?_
    refine w_si (As := [.int (y)]) (rest := []) ⟨hx, hb, hml, hown, hts⟩ (c_R_isKind l D cI cZ g a ha w h Q ff hd bl rs hs ts rc hc tc y hG) (va_cwS 1 hts (t_gS k_methodLink_rn_R_98_y_R_isKind k_static_y_R_isKind k_initialized_rn_R k_code_y_R_isKind_prog_1_method_16_code_1_some_boolean) rfl rfl rfl (by decide +kernel) ⟨Nat.le_of_ble_eq_true rfl, Nat.le_of_ble_eq_true rfl⟩) hP hK hZ hS rfl hl.1 rfl (Nat.le_of_ble_eq_true rfl) d_R_block_12 ⟨Nat.zero_le _, Nat.zero_le _⟩ (fun r_12 u_12 H locs hw hP hS => ?_)
    subst hw
    have hP : va_P D vwCl (xw cI a w h Q ff hd bl rs hs ts rc hc tc) H := hP
    refine rw_bne (tgt := 20) hx hb d_R_block_15 (by decide) (fun c_15 => ?_) (fun c_15 => ?_)
    · obtain ⟨k, hk, rfl⟩ := rt_ix_is (by omega) c_15
      refine lv_aload_n hx hb d_R_block_20 rfl (lv_at hl 0 rfl) ?_
      refine va_get (D := D) (ci := 3) (v := .ref (a 4)) (C := rn_R) (T := tf_R) (N := 2) hx hb hts in_R hown hK hP 0 rfl rfl 1 (by decide) (hts _ k_fieldLink_rn_R_27_rn_R_search_LRouteTracks_Search) (fun _ h9 => h9) rfl d_R_block_21 ?_
      refine lv_aload_n hx hb d_R_block_24 rfl (lv_at hl 0 rfl) ?_
      refine va_get (D := D) (ci := 3) (v := .ref (a 1)) (C := rn_R) (T := tf_R) (N := 2) hx hb hts in_R hown hK hP 0 rfl rfl 0 (by decide) (hts _ k_fieldLink_rn_R_18_rn_R_rails_LRouteTracks_Rails) (fun _ h9 => h9) rfl d_R_block_25 ?_
      refine w_cv (As := [.ref (a 1)]) (rest := []) ⟨hx, hb, hml, hown, hts⟩ (c_S_findBlocks l D cI cZ g a ha w h Q ff hd bl rs hs ts rc hc tc  hG hk0) (cwV 1 hts (t_gV k_methodLink_rn_R_101_y_S_findBlocks k_instanceMethod_y_S_findBlocks k_selects_rn_S_y_S_findBlocks_y_S_findBlocks k_initialized_rn_S k_code_y_S_findBlocks_prog_4_method_3_code_3_none) rfl rfl rfl (by decide +kernel) ⟨Nat.le_of_ble_eq_true rfl, Nat.le_of_ble_eq_true rfl⟩) (va_recv hK hP (ci := 2) (q0 := 4) rfl rfl) hP hK hZ hS rfl hl.1 rfl (Nat.le_of_ble_eq_true rfl) d_R_block_28 ⟨Nat.zero_le _, Nat.zero_le _⟩ (fun u_28 H locs hw hP hS => ?_)
      obtain ⟨ff1, bl1, rc1, hc1, tc1⟩ := u_28
      have hP : va_P D vwCl (xw cI a w h Q ff1 (nI (8)) bl1 rs hs ts rc1 hc1 tc1) H := hP
      have hD : va_D (xA a) (xw cI a w h Q ff1 (nI (8)) bl1 rs hs ts rc1 hc1 tc1) := x_D ha _ rfl
      obtain ⟨B9, hB1, hB2, hB3⟩ := id hw
      dsimp only at hB2 hB3
      refine lv_aload_n hx hb d_R_block_31 rfl (lv_at hl 0 rfl) ?_
      refine va_get (D := D) (ci := 3) (v := .ref (a 4)) (C := rn_R) (T := tf_R) (N := 2) hx hb hts in_R hown hK hP 0 rfl rfl 1 (by decide) (hts _ k_fieldLink_rn_R_27_rn_R_search_LRouteTracks_Search) (fun _ h9 => h9) rfl d_R_block_32 ?_
      refine va_get (D := D) (ci := 2) (v := .ref (a 5)) (C := rn_S) (T := tf_S) (N := 5) hx hb hts in_S hown hK hP 4 rfl rfl 0 (by decide) (hts _ k_fieldLink_rn_R_105_rn_S_found_I) (fun _ h9 => h9) rfl d_R_block_35 ?_
      refine lv_bipush (v := (nI (6))) hx hb d_R_block_38 (by decide) ?_
      refine lv_iload_n hx hb d_R_block_40 rfl (lv_at hl 1 rfl) ?_
      refine rw_mul hx hb d_R_block_41 ?_
      refine lv_iload_n hx hb d_R_block_42 rfl (lv_at hl 2 rfl) ?_
      refine rw_add hx hb d_R_block_43 ?_
      refine rw_iald (v := (rt_o (if Q (6 * t + k) ≠ 0 then some (B9 (6 * t + k)) else none))) hx hb hK hP 5 0 rfl rfl (by omega) (by omega) (hB2 _ (by omega)) d_R_block_44 ?_
      exact w_iret (ff1, nI 8, bl1, rs, hs, ts, rc1, hc1, tc1) hx hb hr hlocks hS hP (⟨Or.inr ⟨B9, hB1, (rt_blk_s (by omega) ht hk).symm⟩, Or.inr (Or.inl ⟨rfl, hw⟩)⟩) d_R_block_45
    · refine lv_iconst (v := (-1)) hx hb d_R_block_18 (by decide) ?_
      exact w_iret (ff, hd, bl, rs, hs, ts, rc, hc, tc) hx hb hr hlocks hS hP (⟨Or.inl ⟨rfl, by first | exact Or.inl (rt_ix_no c_8) | exact Or.inr (rt_ix_no c_15)⟩, hk0⟩) d_R_block_19

set_option maxHeartbeats 4000000 in
set_option maxRecDepth 100000 in
theorem c_R_cost (l : Launch) (D : va_G) (cI cZ : ClassId) (g a : Nat → Nat) (ha : xI a) (w h : Nat) (Q : Nat → Nat) (ff : Nat → Int32) (hd bl : Int32) (rs : Nat → Int32) (hs ts : Int32) (rc : Nat → Int32) (hc tc : Int32) (x y : Int32) (hG : rt_G w h Q) (hk0 : rt_hk Q w h hd ff bl) : Met l y_R_cost (.code y_R_cost b_R_cost 3 (some .int) :: tG) ({ frames := 6, cells := 0, slots := 0, locals := 136 }) (va_Pc [.ref (a 0), .int (x), .int (y)] (wU D cI cZ g (xA a) (xw cI a w h Q ff hd bl rs hs ts rc hc tc))) (va_Qi (S := ((Nat → Int32) × Int32 × Int32 × (Nat → Int32) × Int32 × Int32 × (Nat → Int32) × Int32 × Int32)) (fun r u => ((r = -1 ∧ (rt_ix y 8 = none ∨ rt_opx Q (w * h) x = false)) ∨ ∃ z0 K, z0 < 8 ∧ y = nI z0 ∧ rt_opx Q (w * h) x = true ∧ rt_isC Q w h z0 K ∧ rt_small K ∧ r = rt_cost K x) ∧ rt_hk Q w h u.2.1 u.1 u.2.2.1) (wB D (fun (u : ((Nat → Int32) × Int32 × Int32 × (Nat → Int32) × Int32 × Int32 × (Nat → Int32) × Int32 × Int32)) => (xw cI a w h Q u.1 u.2.1 u.2.2.1 u.2.2.2.1 u.2.2.2.2.1 u.2.2.2.2.2.1 u.2.2.2.2.2.2.1 u.2.2.2.2.2.2.2.1 u.2.2.2.2.2.2.2.2))) (xA a)) 0 0 (xA a) := by
  refine Met.ofW (cc := b_R_cost) (maxL := 3) (ret := (some .int)) (by decide) rfl ?_
  intro p e s m args below meth c s₁ BD9 hml hv
  obtain ⟨rfl, hP, hK, hZ⟩ := hv
  have hx := BD9.exec
  have hb := BD9.bytes
  have hr := BD9.returns
  have hts : ∀ w ∈ tG, w.before _ s = true := fun w hw => atoms_spec (ws := .code y_R_cost b_R_cost 3 (some .int) :: tG) BD9.pre w (List.mem_cons_of_mem _ hw)
  have hown : s.vm.findClass rn_R = some m.cls := findClass_of_methodNamed BD9.named
  have hlocks := BD9.notSynchronized
  have hS : va_S (xA a) s.heap s.heap [] := va_S.rf
  have hD : va_D (xA a) (xw cI a w h Q ff hd bl rs hs ts rc hc tc) := x_D ha _ rfl
  have hP : va_P D vwCl (xw cI a w h Q ff hd bl rs hs ts rc hc tc) s.heap := hP
  have hl := lv_entry ([.ref (a 0), .int (x), .int (y)]) (n := 3) (Nat.le_of_ble_eq_true rfl)
  rw [lg_entry_eq]
  generalize (lg_sl ([.ref (a 0), .int (x), .int (y)]) ++ List.replicate (3 - (lg_sl ([.ref (a 0), .int (x), .int (y)])).length) Slot.unset).toArray = ls at hl ⊢
  have hl : lv_has ls 3 [(0, .ref (a 0)), (1, .int (x)), (2, .int (y))] := hl
  obtain ⟨hn1, hn⟩ := hG.n
  have hw0 : 0 < w := by have := hG.1.1; omega
  have hQ := hG.2.2
  refine lv_iload_n hx hb d_R_cost_0 rfl (lv_at hl 2 rfl) ?_
  refine w_si (As := [.int (y)]) (rest := []) ⟨hx, hb, hml, hown, hts⟩ (c_R_isStation l D cI cZ g a ha w h Q ff hd bl rs hs ts rc hc tc y hG) (va_cwS 1 hts (t_gS k_methodLink_rn_R_65_y_R_isStation k_static_y_R_isStation k_initialized_rn_R k_code_y_R_isStation_prog_1_method_17_code_1_some_boolean) rfl rfl rfl (by decide +kernel) ⟨Nat.le_of_ble_eq_true rfl, Nat.le_of_ble_eq_true rfl⟩) hP hK hZ hS rfl hl.1 rfl (Nat.le_of_ble_eq_true rfl) d_R_cost_1 ⟨Nat.zero_le _, Nat.zero_le _⟩ (fun r_1 u_1 H locs hw hP hS => ?_)
  subst hw
  have hP : va_P D vwCl (xw cI a w h Q ff hd bl rs hs ts rc hc tc) H := hP
  refine rw_beq (tgt := 18) hx hb d_R_cost_4 (by decide) (fun c_4 => ?_) (fun c_4 => ?_)
  · refine lv_iconst (v := (-1)) hx hb d_R_cost_18 (by decide) ?_
    exact w_iret (ff, hd, bl, rs, hs, ts, rc, hc, tc) hx hb hr hlocks hS hP (⟨Or.inl ⟨rfl, by first | exact Or.inl (rt_ix_no c_4) | exact Or.inr c_15⟩, hk0⟩) d_R_cost_19
  · obtain ⟨z, hz, rfl⟩ := rt_ix_is (by omega) c_4
    refine lv_aload_n hx hb d_R_cost_7 rfl (lv_at hl 0 rfl) ?_
    refine va_get (D := D) (ci := 3) (v := .ref (a 1)) (C := rn_R) (T := tf_R) (N := 2) hx hb hts in_R hown hK hP 0 rfl rfl 0 (by decide) (hts _ k_fieldLink_rn_R_18_rn_R_rails_LRouteTracks_Rails) (fun _ h9 => h9) rfl d_R_cost_8 ?_
    refine lv_iload_n hx hb d_R_cost_11 rfl (lv_at hl 1 rfl) ?_
    refine w_ci (As := [.int (x)]) (rest := []) ⟨hx, hb, hml, hown, hts⟩ (c_A_isOpen l D cI cZ g a ha w h Q ff hd bl rs hs ts rc hc tc x hG) (cwV 1 hts (t_gV k_methodLink_rn_R_88_y_A_isOpen k_instanceMethod_y_A_isOpen k_selects_rn_A_y_A_isOpen_y_A_isOpen k_initialized_rn_A k_code_y_A_isOpen_prog_3_method_11_code_2_some_boolean) rfl rfl rfl (by decide +kernel) ⟨Nat.le_of_ble_eq_true rfl, Nat.le_of_ble_eq_true rfl⟩) (va_recv hK hP (ci := 1) (q0 := 1) rfl rfl) hP hK hZ hS rfl hl.1 rfl (Nat.le_of_ble_eq_true rfl) d_R_cost_12 ⟨Nat.zero_le _, Nat.zero_le _⟩ (fun r_12 u_12 H locs hw hP hS => ?_)
    subst hw
    have hP : va_P D vwCl (xw cI a w h Q ff hd bl rs hs ts rc hc tc) H := hP
    refine rw_bne (tgt := 20) hx hb d_R_cost_15 (by decide) (fun c_15 => ?_) (fun c_15 => ?_)
    · obtain ⟨rr, hrr, rfl, horr⟩ := rt_opx_is (by omega) c_15
      refine lv_aload_n hx hb d_R_cost_20 rfl (lv_at hl 0 rfl) ?_
      refine va_get (D := D) (ci := 3) (v := .ref (a 4)) (C := rn_R) (T := tf_R) (N := 2) hx hb hts in_R hown hK hP 0 rfl rfl 1 (by decide) (hts _ k_fieldLink_rn_R_27_rn_R_search_LRouteTracks_Search) (fun _ h9 => h9) rfl d_R_cost_21 ?_
      refine lv_aload_n hx hb d_R_cost_24 rfl (lv_at hl 0 rfl) ?_
      refine va_get (D := D) (ci := 3) (v := .ref (a 1)) (C := rn_R) (T := tf_R) (N := 2) hx hb hts in_R hown hK hP 0 rfl rfl 0 (by decide) (hts _ k_fieldLink_rn_R_18_rn_R_rails_LRouteTracks_Rails) (fun _ h9 => h9) rfl d_R_cost_25 ?_
      refine lv_iload_n hx hb d_R_cost_28 rfl (lv_at hl 2 rfl) ?_
      refine w_cv (As := [.ref (a 1), .int (nI (z))]) (rest := []) ⟨hx, hb, hml, hown, hts⟩ (c_S_findCosts l D cI cZ g a ha w h Q ff hd bl rs hs ts rc hc tc z hG hz hk0) (cwV 2 hts (t_gV k_methodLink_rn_R_112_y_S_findCosts k_instanceMethod_y_S_findCosts k_selects_rn_S_y_S_findCosts_y_S_findCosts k_initialized_rn_S k_code_y_S_findCosts_prog_4_method_8_code_5_none) rfl rfl rfl (by decide +kernel) ⟨Nat.le_of_ble_eq_true rfl, Nat.le_of_ble_eq_true rfl⟩) (va_recv hK hP (ci := 2) (q0 := 4) rfl rfl) hP hK hZ hS rfl hl.1 rfl (Nat.le_of_ble_eq_true rfl) d_R_cost_29 ⟨Nat.zero_le _, Nat.zero_le _⟩ (fun u_29 H locs hw hP hS => ?_)
      obtain ⟨ff1, rs1, hs1, ts1, rc1, hc1, tc1⟩ := u_29
      have hP : va_P D vwCl (xw cI a w h Q ff1 (nI (z)) bl rs1 hs1 ts1 rc1 hc1 tc1) H := hP
      have hD : va_D (xA a) (xw cI a w h Q ff1 (nI (z)) bl rs1 hs1 ts1 rc1 hc1 tc1) := x_D ha _ rfl
      obtain ⟨K, hK1, hK2, hK3⟩ := id hw
      dsimp only at hK3
      refine lv_aload_n hx hb d_R_cost_32 rfl (lv_at hl 0 rfl) ?_
      refine va_get (D := D) (ci := 3) (v := .ref (a 4)) (C := rn_R) (T := tf_R) (N := 2) hx hb hts in_R hown hK hP 0 rfl rfl 1 (by decide) (hts _ k_fieldLink_rn_R_27_rn_R_search_LRouteTracks_Search) (fun _ h9 => h9) rfl d_R_cost_33 ?_
      refine va_get (D := D) (ci := 2) (v := .ref (a 5)) (C := rn_S) (T := tf_S) (N := 5) hx hb hts in_S hown hK hP 4 rfl rfl 0 (by decide) (hts _ k_fieldLink_rn_R_105_rn_S_found_I) (fun _ h9 => h9) rfl d_R_cost_36 ?_
      refine lv_iload_n hx hb d_R_cost_39 rfl (lv_at hl 1 rfl) ?_
      refine rw_iald (v := (rt_o (K rr))) hx hb hK hP 5 0 rfl rfl (by omega) (by omega) (hK3 rr hrr) d_R_cost_40 ?_
      exact w_iret (ff1, nI z, bl, rs1, hs1, ts1, rc1, hc1, tc1) hx hb hr hlocks hS hP (⟨Or.inr ⟨z, K, hz, rfl, by rw [rt_opx_s (by omega) hrr]; exact horr, hK1, hK2, by unfold rt_cost; rw [nI_clamp (by omega)]⟩, Or.inr (Or.inr ⟨z, hz, rfl, hw⟩)⟩) d_R_cost_41
    · refine lv_iconst (v := (-1)) hx hb d_R_cost_18 (by decide) ?_
      exact w_iret (ff, hd, bl, rs, hs, ts, rc, hc, tc) hx hb hr hlocks hS hP (⟨Or.inl ⟨rfl, by first | exact Or.inl (rt_ix_no c_4) | exact Or.inr c_15⟩, hk0⟩) d_R_cost_19
