/-! RouteTracks, changes: by program (wip/whole/gen/exc.py) -/
set_option maxHeartbeats 4000000 in
set_option maxRecDepth 100000 in
theorem c_S_forget (l : Launch) (D : va_G) (cI cZ : ClassId) (g a : Nat → Nat) (ha : xI a) (w h : Nat) (Q : Nat → Nat) (ff : Nat → Int32) (hd bl : Int32) (rs : Nat → Int32) (hs ts : Int32) (rc : Nat → Int32) (hc tc : Int32)   : Met l y_S_forget (.code y_S_forget b_S_forget 1 none :: tG) ({ frames := 0, cells := 0, slots := 0, locals := 0 }) (va_Pc [.ref (a 4)] (wU D cI cZ g (xA a) (xw cI a w h Q ff hd bl rs hs ts rc hc tc))) (va_Qv (S := Unit) (fun _ => True) (wB D (fun (u : Unit) => (xw cI a w h Q ff (-1) bl rs hs ts rc hc tc))) (xA a)) 0 0 (xA a) := by
  refine Met.ofW (cc := b_S_forget) (maxL := 1) (ret := none) (by decide) rfl ?_
  intro p e s m args below meth c s₁ BD9 hml hv
  obtain ⟨rfl, hP, hK, hZ⟩ := hv
  have hx := BD9.exec
  have hb := BD9.bytes
  have hr := BD9.returns
  have hts : ∀ w ∈ tG, w.before _ s = true := fun w hw => atoms_spec (ws := .code y_S_forget b_S_forget 1 none :: tG) BD9.pre w (List.mem_cons_of_mem _ hw)
  have hown : s.vm.findClass rn_S = some m.cls := findClass_of_methodNamed BD9.named
  have hlocks := BD9.notSynchronized
  have hS : va_S (xA a) s.heap s.heap [] := va_S.rf
  have hD : va_D (xA a) (xw cI a w h Q ff hd bl rs hs ts rc hc tc) := x_D ha _ rfl
  have hP : va_P D vwCl (xw cI a w h Q ff hd bl rs hs ts rc hc tc) s.heap := hP
  have hl := lv_entry ([.ref (a 4)]) (n := 1) (Nat.le_of_ble_eq_true rfl)
  rw [lg_entry_eq]
  generalize (lg_sl ([.ref (a 4)]) ++ List.replicate (1 - (lg_sl ([.ref (a 4)])).length) Slot.unset).toArray = ls at hl ⊢
  have hl : lv_has ls 1 [(0, .ref (a 4))] := hl
  refine lv_aload_n hx hb d_S_forget_0 rfl (lv_at hl 0 rfl) ?_
  refine lv_iconst (v := (-1)) hx hb d_S_forget_1 (by decide) ?_
  refine va_put (D := D) (ci := 2) (v := .int (-1)) (ty := .int) (C := rn_S) (T := tf_S) (N := 5) hx hb hts in_S tt_S tt_S_ok nm_S hown hK hP hD hS 4 rfl rfl 3 (by decide) (hts _ k_fieldLink_rn_S_29_rn_S_held_I) (fun _ h9 => h9) rfl (by decide +kernel) rfl rfl (Nat.le_of_ble_eq_true rfl) d_S_forget_2 (fun H locs hP hD hS => ?_)
  have hP : va_P D vwCl (xw cI a w h Q ff (-1) bl rs hs ts rc hc tc) H := hP
  have hD : va_D (xA a) (xw cI a w h Q ff (-1) bl rs hs ts rc hc tc) := x_D ha _ rfl
  exact w_vret () hx hb hr hlocks hS hP (trivial) d_S_forget_5

set_option maxHeartbeats 4000000 in
set_option maxRecDepth 100000 in
theorem c_R_requirePlace (l : Launch) (hfl : l.flags = flags0) (D : va_G) (cI cZ : ClassId) (g a : Nat → Nat) (ha : xI a) (w h : Nat) (Q : Nat → Nat) (ff : Nat → Int32) (hd bl : Int32) (rs : Nat → Int32) (hs ts : Int32) (rc : Nat → Int32) (hc tc : Int32) (x y : Int32) (hG : rt_G w h Q) : xe_M l y_R_requirePlace (.code y_R_requirePlace b_R_requirePlace 3 none :: tG) ({ frames := 6, cells := 1, slots := 6, locals := 82 }) (va_Pc [.ref (a 0), .int (x), .int (y)] (xe_U D cI cZ g (xA a) (xw cI a w h Q ff hd bl rs hs ts rc hc tc))) (xe_Qv (S := Unit) (rt_rp (w * h) x y) (fun _ => True) (wB D (fun (u : Unit) => (xw cI a w h Q ff hd bl rs hs ts rc hc tc))) (xA a)) 1 6 (xA a) := by
  refine xe_of (cc := b_R_requirePlace) (maxL := 3) (ret := none) (by decide) rfl ?_
  intro p e s m args below meth c s₁ BD9 hml hem hv
  obtain ⟨rfl, ⟨hP, hK, hZ⟩, hE⟩ := hv
  have hx := BD9.exec
  have hb := BD9.bytes
  have hr := BD9.returns
  have htr := Launch.traces_off hfl BD9.admits
  have hts : ∀ w ∈ tG, w.before _ s = true := fun w hw => atoms_spec (ws := .code y_R_requirePlace b_R_requirePlace 3 none :: tG) BD9.pre w (List.mem_cons_of_mem _ hw)
  have hown : s.vm.findClass rn_R = some m.cls := findClass_of_methodNamed BD9.named
  have hlocks := BD9.notSynchronized
  have hS : va_S (xA a) s.heap s.heap [] := va_S.rf
  have hD : va_D (xA a) (xw cI a w h Q ff hd bl rs hs ts rc hc tc) := x_D ha _ rfl
  have hP : va_P D vwCl (xw cI a w h Q ff hd bl rs hs ts rc hc tc) s.heap := hP
  have hP0 := hP
  have hl := lv_entry ([.ref (a 0), .int (x), .int (y)]) (n := 3) (Nat.le_of_ble_eq_true rfl)
  rw [lg_entry_eq]
  generalize (lg_sl ([.ref (a 0), .int (x), .int (y)]) ++ List.replicate (3 - (lg_sl ([.ref (a 0), .int (x), .int (y)])).length) Slot.unset).toArray = ls at hl ⊢
  have hl : lv_has ls 3 [(0, .ref (a 0)), (1, .int (x)), (2, .int (y))] := hl
  obtain ⟨hn1, hn⟩ := hG.n
  have hw0 : 0 < w := by have := hG.1.1; omega
  have hQ := hG.2.2
  refine lv_aload_n hx hb d_R_requirePlace_0 rfl (lv_at hl 0 rfl) ?_
  refine va_get (D := D) (ci := 3) (v := .ref (a 1)) (C := rn_R) (T := tf_R) (N := 2) hx hb hts in_R hown hK hP 0 rfl rfl 0 (by decide) (hts _ k_fieldLink_rn_R_18_rn_R_rails_LRouteTracks_Rails) (fun _ h9 => h9) rfl d_R_requirePlace_1 ?_
  refine lv_iload_n hx hb d_R_requirePlace_4 rfl (lv_at hl 1 rfl) ?_
  refine w_ci (As := [.int (x)]) (rest := []) ⟨hx, hb, hml, hown, hts⟩ (c_A_hasTile l D cI cZ g a ha w h Q ff hd bl rs hs ts rc hc tc x hG) (cwV 1 hts (t_gV k_methodLink_rn_R_78_y_A_hasTile k_instanceMethod_y_A_hasTile k_selects_rn_A_y_A_hasTile_y_A_hasTile k_initialized_rn_A k_code_y_A_hasTile_prog_3_method_2_code_2_some_boolean) rfl rfl rfl (by decide +kernel) ⟨Nat.le_of_ble_eq_true rfl, Nat.le_of_ble_eq_true rfl⟩) (va_recv hK hP (ci := 1) (q0 := 1) rfl rfl) hP hK hZ hS rfl hl.1 rfl (Nat.le_of_ble_eq_true rfl) d_R_requirePlace_5 ⟨Nat.le_of_ble_eq_true rfl, Nat.le_of_ble_eq_true rfl⟩ (fun r_5 u_5 H locs hw hP hS => ?_)
  subst hw
  have hP : va_P D vwCl (xw cI a w h Q ff hd bl rs hs ts rc hc tc) H := hP
  refine rw_bne (tgt := 21) hx hb d_R_requirePlace_8 (by decide) (fun c_8 => ?_) (fun c_8 => ?_)
  · refine lv_iload_n hx hb d_R_requirePlace_21 rfl (lv_at hl 2 rfl) ?_
    refine w_si (As := [.int (y)]) (rest := []) ⟨hx, hb, hml, hown, hts⟩ (c_R_isKind l D cI cZ g a ha w h Q ff hd bl rs hs ts rc hc tc y hG) (va_cwS 1 hts (t_gS k_methodLink_rn_R_98_y_R_isKind k_static_y_R_isKind k_initialized_rn_R k_code_y_R_isKind_prog_1_method_16_code_1_some_boolean) rfl rfl rfl (by decide +kernel) ⟨Nat.le_of_ble_eq_true rfl, Nat.le_of_ble_eq_true rfl⟩) hP hK hZ hS rfl hl.1 rfl (Nat.le_of_ble_eq_true rfl) d_R_requirePlace_22 ⟨Nat.le_of_ble_eq_true rfl, Nat.le_of_ble_eq_true rfl⟩ (fun r_22 u_22 H locs hw hP hS => ?_)
    subst hw
    have hP : va_P D vwCl (xw cI a w h Q ff hd bl rs hs ts rc hc tc) H := hP
    refine rw_bne (tgt := 38) hx hb d_R_requirePlace_25 (by decide) (fun c_25 => ?_) (fun c_25 => ?_)
    · exact w_xret () hx hb hr hlocks hS hP (rt_rp_y c_8 c_25) (trivial) d_R_requirePlace_38 ⟨Nat.le_of_ble_eq_true rfl, Nat.le_of_ble_eq_true rfl⟩
    · exact w_xthI (text := "no such kind") () hx hb htr hts hown hlocks hem hE (by decide +kernel) hP0 hP hS x_cov (hl.1.trans hml.symm) (rt_rp_f (Or.inr c_25)) (trivial) d_R_requirePlace_28 d_R_requirePlace_31 d_R_requirePlace_32 d_R_requirePlace_34 d_R_requirePlace_37 ⟨Nat.le_of_ble_eq_true rfl, Nat.le_of_ble_eq_true rfl, Nat.le_of_ble_eq_true rfl, Nat.le_of_ble_eq_true rfl⟩ ⟨Nat.le_of_ble_eq_true rfl, Nat.le_of_ble_eq_true rfl⟩
  · exact w_xthI (text := "no such tile") () hx hb htr hts hown hlocks hem hE (by decide +kernel) hP0 hP hS x_cov (hl.1.trans hml.symm) (rt_rp_f (Or.inl c_8)) (trivial) d_R_requirePlace_11 d_R_requirePlace_14 d_R_requirePlace_15 d_R_requirePlace_17 d_R_requirePlace_20 ⟨Nat.le_of_ble_eq_true rfl, Nat.le_of_ble_eq_true rfl, Nat.le_of_ble_eq_true rfl, Nat.le_of_ble_eq_true rfl⟩ ⟨Nat.le_of_ble_eq_true rfl, Nat.le_of_ble_eq_true rfl⟩

set_option maxHeartbeats 4000000 in
set_option maxRecDepth 100000 in
theorem c_R_requireThere (l : Launch) (hfl : l.flags = flags0) (D : va_G) (cI cZ : ClassId) (g a : Nat → Nat) (ha : xI a) (w h : Nat) (Q : Nat → Nat) (ff : Nat → Int32) (hd bl : Int32) (rs : Nat → Int32) (hs ts : Int32) (rc : Nat → Int32) (hc tc : Int32) (k : Nat) (hG : rt_G w h Q) (hk : k < 6 * (w * h)) : xe_M l y_R_requireThere (.code y_R_requireThere b_R_requireThere 2 none :: tG) ({ frames := 6, cells := 1, slots := 6, locals := 82 }) (va_Pc [.ref (a 0), .int (nI (k))] (xe_U D cI cZ g (xA a) (xw cI a w h Q ff hd bl rs hs ts rc hc tc))) (xe_Qv (S := Unit) (rt_rq Q k) (fun _ => True) (wB D (fun (u : Unit) => (xw cI a w h Q ff hd bl rs hs ts rc hc tc))) (xA a)) 1 6 (xA a) := by
  refine xe_of (cc := b_R_requireThere) (maxL := 2) (ret := none) (by decide) rfl ?_
  intro p e s m args below meth c s₁ BD9 hml hem hv
  obtain ⟨rfl, ⟨hP, hK, hZ⟩, hE⟩ := hv
  have hx := BD9.exec
  have hb := BD9.bytes
  have hr := BD9.returns
  have htr := Launch.traces_off hfl BD9.admits
  have hts : ∀ w ∈ tG, w.before _ s = true := fun w hw => atoms_spec (ws := .code y_R_requireThere b_R_requireThere 2 none :: tG) BD9.pre w (List.mem_cons_of_mem _ hw)
  have hown : s.vm.findClass rn_R = some m.cls := findClass_of_methodNamed BD9.named
  have hlocks := BD9.notSynchronized
  have hS : va_S (xA a) s.heap s.heap [] := va_S.rf
  have hD : va_D (xA a) (xw cI a w h Q ff hd bl rs hs ts rc hc tc) := x_D ha _ rfl
  have hP : va_P D vwCl (xw cI a w h Q ff hd bl rs hs ts rc hc tc) s.heap := hP
  have hP0 := hP
  have hl := lv_entry ([.ref (a 0), .int (nI (k))]) (n := 2) (Nat.le_of_ble_eq_true rfl)
  rw [lg_entry_eq]
  generalize (lg_sl ([.ref (a 0), .int (nI (k))]) ++ List.replicate (2 - (lg_sl ([.ref (a 0), .int (nI (k))])).length) Slot.unset).toArray = ls at hl ⊢
  have hl : lv_has ls 2 [(0, .ref (a 0)), (1, .int (nI (k)))] := hl
  obtain ⟨hn1, hn⟩ := hG.n
  have hw0 : 0 < w := by have := hG.1.1; omega
  have hQ := hG.2.2
  refine lv_aload_n hx hb d_R_requireThere_0 rfl (lv_at hl 0 rfl) ?_
  refine va_get (D := D) (ci := 3) (v := .ref (a 1)) (C := rn_R) (T := tf_R) (N := 2) hx hb hts in_R hown hK hP 0 rfl rfl 0 (by decide) (hts _ k_fieldLink_rn_R_18_rn_R_rails_LRouteTracks_Rails) (fun _ h9 => h9) rfl d_R_requireThere_1 ?_
  refine lv_iload_n hx hb d_R_requireThere_4 rfl (lv_at hl 1 rfl) ?_
  refine w_ci (As := [.int (nI (k))]) (rest := []) ⟨hx, hb, hml, hown, hts⟩ (c_A_isThere l D cI cZ g a ha w h Q ff hd bl rs hs ts rc hc tc k hG hk) (cwV 1 hts (t_gV k_methodLink_rn_R_34_y_A_isThere k_instanceMethod_y_A_isThere k_selects_rn_A_y_A_isThere_y_A_isThere k_initialized_rn_A k_code_y_A_isThere_prog_3_method_5_code_2_some_boolean) rfl rfl rfl (by decide +kernel) ⟨Nat.le_of_ble_eq_true rfl, Nat.le_of_ble_eq_true rfl⟩) (va_recv hK hP (ci := 1) (q0 := 1) rfl rfl) hP hK hZ hS rfl hl.1 rfl (Nat.le_of_ble_eq_true rfl) d_R_requireThere_5 ⟨Nat.le_of_ble_eq_true rfl, Nat.le_of_ble_eq_true rfl⟩ (fun r_5 u_5 H locs hw hP hS => ?_)
  subst hw
  have hP : va_P D vwCl (xw cI a w h Q ff hd bl rs hs ts rc hc tc) H := hP
  refine rw_bne (tgt := 21) hx hb d_R_requireThere_8 (by decide) (fun c_8 => ?_) (fun c_8 => ?_)
  · exact w_xret () hx hb hr hlocks hS hP (if_neg (by simpa using c_8)) (trivial) d_R_requireThere_21 ⟨Nat.le_of_ble_eq_true rfl, Nat.le_of_ble_eq_true rfl⟩
  · exact w_xthL (text := "the piece is not there") () hx hb htr hts hown hlocks hem hE (by decide +kernel) hP0 hP hS x_cov (hl.1.trans hml.symm) (if_pos (by simpa using c_8)) (trivial) d_R_requireThere_11 d_R_requireThere_14 d_R_requireThere_15 d_R_requireThere_17 d_R_requireThere_20 ⟨Nat.le_of_ble_eq_true rfl, Nat.le_of_ble_eq_true rfl, Nat.le_of_ble_eq_true rfl, Nat.le_of_ble_eq_true rfl⟩ ⟨Nat.le_of_ble_eq_true rfl, Nat.le_of_ble_eq_true rfl⟩

set_option maxHeartbeats 4000000 in
set_option maxRecDepth 100000 in
theorem c_R_lay (l : Launch) (hfl : l.flags = flags0) (D : va_G) (cI cZ : ClassId) (g a : Nat → Nat) (ha : xI a) (w h : Nat) (Q : Nat → Nat) (ff : Nat → Int32) (hd bl : Int32) (rs : Nat → Int32) (hs ts : Int32) (rc : Nat → Int32) (hc tc : Int32) (x y : Int32) (hG : rt_G w h Q) (hk0 : rt_hk Q w h hd ff bl) : xe_M l y_R_lay (.code y_R_lay b_R_lay 4 none :: tG) ({ frames := 7, cells := 2, slots := 12, locals := 104 }) (va_Pc [.ref (a 0), .int (x), .int (y)] (xe_U D cI cZ g (xA a) (xw cI a w h Q ff hd bl rs hs ts rc hc tc))) (xe_Qv (S := Int32) ((rt_lay Q (w * h) x y).1) (fun u => rt_hk (rt_lay Q (w * h) x y).2 w h u ff bl) (wB D (fun (u : Int32) => (xw cI a w h ((rt_lay Q (w * h) x y).2) ff u bl rs hs ts rc hc tc))) (xA a)) 2 12 (xA a) := by
  refine xe_of (cc := b_R_lay) (maxL := 4) (ret := none) (by decide) rfl ?_
  intro p e s m args below meth c s₁ BD9 hml hem hv
  obtain ⟨rfl, ⟨hP, hK, hZ⟩, hE⟩ := hv
  have hx := BD9.exec
  have hb := BD9.bytes
  have hr := BD9.returns
  have htr := Launch.traces_off hfl BD9.admits
  have hts : ∀ w ∈ tG, w.before _ s = true := fun w hw => atoms_spec (ws := .code y_R_lay b_R_lay 4 none :: tG) BD9.pre w (List.mem_cons_of_mem _ hw)
  have hown : s.vm.findClass rn_R = some m.cls := findClass_of_methodNamed BD9.named
  have hlocks := BD9.notSynchronized
  have hS : va_S (xA a) s.heap s.heap [] := va_S.rf
  have hD : va_D (xA a) (xw cI a w h Q ff hd bl rs hs ts rc hc tc) := x_D ha _ rfl
  have hP : va_P D vwCl (xw cI a w h Q ff hd bl rs hs ts rc hc tc) s.heap := hP
  have hP0 := hP
  have hl := lv_entry ([.ref (a 0), .int (x), .int (y)]) (n := 4) (Nat.le_of_ble_eq_true rfl)
  rw [lg_entry_eq]
  generalize (lg_sl ([.ref (a 0), .int (x), .int (y)]) ++ List.replicate (4 - (lg_sl ([.ref (a 0), .int (x), .int (y)])).length) Slot.unset).toArray = ls at hl ⊢
  have hl : lv_has ls 4 [(0, .ref (a 0)), (1, .int (x)), (2, .int (y))] := hl
  obtain ⟨hn1, hn⟩ := hG.n
  have hw0 : 0 < w := by have := hG.1.1; omega
  have hQ := hG.2.2
  refine lv_aload_n hx hb d_R_lay_0 rfl (lv_at hl 0 rfl) ?_
  refine lv_iload_n hx hb d_R_lay_1 rfl (lv_at hl 1 rfl) ?_
  refine lv_iload_n hx hb d_R_lay_2 rfl (lv_at hl 2 rfl) ?_
  refine w_xv (As := [.int (x), .int (y)]) (rest := []) ⟨hx, hb, hml, hown, hts⟩ (c_R_requirePlace l hfl D cI cZ g a ha w h Q ff hd bl rs hs ts rc hc tc x y hG) (cwV 2 hts (t_gV k_methodLink_rn_R_31_y_R_requirePlace k_instanceMethod_y_R_requirePlace k_selects_rn_R_y_R_requirePlace_y_R_requirePlace k_initialized_rn_R k_code_y_R_requirePlace_prog_1_method_18_code_3_none) rfl rfl rfl (by decide +kernel) ⟨Nat.le_of_ble_eq_true rfl, Nat.le_of_ble_eq_true rfl⟩) (va_recv hK hP (ci := 3) (q0 := 0) rfl rfl) hP hK hZ hE hS rfl hl.1 rfl (Nat.le_of_ble_eq_true rfl) d_R_lay_3 ⟨Nat.le_of_ble_eq_true rfl, Nat.le_of_ble_eq_true rfl⟩ (fun hk0_3 u_3 H locs hw hP hS => ?_) (fun hk1_3 q ce u_3 H locs hq hns hcl hw hP hS => ?_)
  rotate_left
  · have e9 : rt_lay Q (w * h) x y = (1, Q) := (rt_lay_n (rt_rp_1 hk1_3).2).1
    exact w_xlv hd hlocks hem hS (by show va_P D vwCl (xw cI a w h ((rt_lay Q (w * h) x y).2) ff hd bl rs hs ts rc hc tc) H; rw [e9]; exact hP) (by rw [e9]; exact hk0) hk1_3 (by rw [e9]; exact (rt_rp_1 hk1_3).1.symm) hq hns hcl ⟨Nat.le_of_ble_eq_true rfl, Nat.le_of_ble_eq_true rfl⟩
  have hP : va_P D vwCl (xw cI a w h Q ff hd bl rs hs ts rc hc tc) H := hP
  obtain ⟨hx1, hy1⟩ := rt_rp_0 hk0_3
  obtain ⟨t, ht, rfl⟩ := rt_ix_is (by omega) hx1
  obtain ⟨k, hk, rfl⟩ := rt_ix_is (by omega) hy1
  refine lv_bipush (v := (nI (6))) hx hb d_R_lay_6 (by decide) ?_
  refine lv_iload_n hx hb d_R_lay_8 rfl (lv_at hl 1 rfl) ?_
  refine rw_mul hx hb d_R_lay_9 ?_
  refine lv_iload_n hx hb d_R_lay_10 rfl (lv_at hl 2 rfl) ?_
  refine rw_add hx hb d_R_lay_11 ?_
  refine lv_istore_n (lv' := [(3, .int (nI ((6 * t) + k))), (0, .ref (a 0)), (1, .int (nI (t))), (2, .int (nI (k)))]) hx hb d_R_lay_12 rfl hl (by decide) rfl (fun ls hl => ?_)
  refine lv_aload_n hx hb d_R_lay_13 rfl (lv_at hl 1 rfl) ?_
  refine va_get (D := D) (ci := 3) (v := .ref (a 1)) (C := rn_R) (T := tf_R) (N := 2) hx hb hts in_R hown hK hP 0 rfl rfl 0 (by decide) (hts _ k_fieldLink_rn_R_18_rn_R_rails_LRouteTracks_Rails) (fun _ h9 => h9) rfl d_R_lay_14 ?_
  refine lv_iload_n hx hb d_R_lay_17 rfl (lv_at hl 0 rfl) ?_
  refine w_ci (As := [.int (nI ((6 * t) + k))]) (rest := []) ⟨hx, hb, hml, hown, hts⟩ (c_A_isThere l D cI cZ g a ha w h Q ff hd bl rs hs ts rc hc tc (6 * t + k) hG (by omega)) (cwV 1 hts (t_gV k_methodLink_rn_R_34_y_A_isThere k_instanceMethod_y_A_isThere k_selects_rn_A_y_A_isThere_y_A_isThere k_initialized_rn_A k_code_y_A_isThere_prog_3_method_5_code_2_some_boolean) rfl rfl rfl (by decide +kernel) ⟨Nat.le_of_ble_eq_true rfl, Nat.le_of_ble_eq_true rfl⟩) (va_recv hK hP (ci := 1) (q0 := 1) rfl rfl) hP hK hZ hS rfl hl.1 rfl (Nat.le_of_ble_eq_true rfl) d_R_lay_18 ⟨Nat.le_of_ble_eq_true rfl, Nat.le_of_ble_eq_true rfl⟩ (fun r_18 u_18 H locs hw hP hS => ?_)
  subst hw
  have hP : va_P D vwCl (xw cI a w h Q ff hd bl rs hs ts rc hc tc) H := hP
  refine rw_beq (tgt := 34) hx hb d_R_lay_21 (by decide) (fun c_21 => ?_) (fun c_21 => ?_)
  · refine lv_aload_n hx hb d_R_lay_34 rfl (lv_at hl 1 rfl) ?_
    refine va_get (D := D) (ci := 3) (v := .ref (a 1)) (C := rn_R) (T := tf_R) (N := 2) hx hb hts in_R hown hK hP 0 rfl rfl 0 (by decide) (hts _ k_fieldLink_rn_R_18_rn_R_rails_LRouteTracks_Rails) (fun _ h9 => h9) rfl d_R_lay_35 ?_
    refine lv_iload_n hx hb d_R_lay_38 rfl (lv_at hl 0 rfl) ?_
    refine lv_iconst (v := (nI (0))) hx hb d_R_lay_39 (by decide) ?_
    refine lv_iconst (v := (-1)) hx hb d_R_lay_40 (by decide) ?_
    refine w_cv (As := [.int (nI ((6 * t) + k)), .int (nI (0)), .int (-1)]) (rest := []) ⟨hx, hb, hml, hown, hts⟩ (c_A_put l D cI cZ g a ha w h Q ff hd bl rs hs ts rc hc tc (6 * t + k) 0 0 (-1) hG (by omega) (by omega) (by omega) rfl) (cwV 3 hts (t_gV k_methodLink_rn_R_45_y_A_put k_instanceMethod_y_A_put k_selects_rn_A_y_A_put_y_A_put k_initialized_rn_A k_code_y_A_put_prog_3_method_3_code_4_none) rfl rfl rfl (by decide +kernel) ⟨Nat.le_of_ble_eq_true rfl, Nat.le_of_ble_eq_true rfl⟩) (va_recv hK hP (ci := 1) (q0 := 1) rfl rfl) hP hK hZ hS rfl hl.1 rfl (Nat.le_of_ble_eq_true rfl) d_R_lay_41 ⟨Nat.le_of_ble_eq_true rfl, Nat.le_of_ble_eq_true rfl⟩ (fun u_41 H locs hw hP hS => ?_)
    have hP : va_P D vwCl (xw cI a w h (va_up Q (6 * t + k) 1) ff hd bl rs hs ts rc hc tc) H := hP
    have hD : va_D (xA a) (xw cI a w h (va_up Q (6 * t + k) 1) ff hd bl rs hs ts rc hc tc) := x_D ha _ rfl
    refine lv_aload_n hx hb d_R_lay_44 rfl (lv_at hl 1 rfl) ?_
    refine va_get (D := D) (ci := 3) (v := .ref (a 4)) (C := rn_R) (T := tf_R) (N := 2) hx hb hts in_R hown hK hP 0 rfl rfl 1 (by decide) (hts _ k_fieldLink_rn_R_27_rn_R_search_LRouteTracks_Search) (fun _ h9 => h9) rfl d_R_lay_45 ?_
    refine w_cv (As := []) (rest := []) ⟨hx, hb, hml, hown, hts⟩ (c_S_forget l D cI cZ g a ha w h (va_up Q (6 * t + k) 1) ff hd bl rs hs ts rc hc tc  ) (cwV 0 hts (t_gV k_methodLink_rn_R_49_y_S_forget k_instanceMethod_y_S_forget k_selects_rn_S_y_S_forget_y_S_forget k_initialized_rn_S k_code_y_S_forget_prog_4_method_2_code_1_none) rfl rfl rfl (by decide +kernel) ⟨Nat.le_of_ble_eq_true rfl, Nat.le_of_ble_eq_true rfl⟩) (va_recv hK hP (ci := 2) (q0 := 4) rfl rfl) hP hK hZ hS rfl hl.1 rfl (Nat.le_of_ble_eq_true rfl) d_R_lay_48 ⟨Nat.le_of_ble_eq_true rfl, Nat.le_of_ble_eq_true rfl⟩ (fun u_48 H locs hw hP hS => ?_)
    have hP : va_P D vwCl (xw cI a w h (va_up Q (6 * t + k) 1) ff (-1) bl rs hs ts rc hc tc) H := hP
    have hD : va_D (xA a) (xw cI a w h (va_up Q (6 * t + k) 1) ff (-1) bl rs hs ts rc hc tc) := x_D ha _ rfl
    have e9 : rt_lay Q (w * h) (nI t) (nI k) = (0, (va_up Q (6 * t + k) 1)) := (rt_lay_s (by omega) ht hk).trans (if_neg (by simpa using c_21))
    exact w_xret (-1) hx hb hr hlocks hS (by show va_P D vwCl (xw cI a w h ((rt_lay Q (w * h) (nI t) (nI k)).2) ff (-1) bl rs hs ts rc hc tc) H; rw [e9]; exact hP) (by rw [e9]) (Or.inl rfl) d_R_lay_51 ⟨Nat.le_of_ble_eq_true rfl, Nat.le_of_ble_eq_true rfl⟩
  · have e9 : rt_lay Q (w * h) (nI t) (nI k) = (2, Q) := (rt_lay_s (by omega) ht hk).trans (if_pos (by simpa using c_21))
    have hP0 : va_P D vwCl (xw cI a w h ((rt_lay Q (w * h) (nI t) (nI k)).2) ff hd bl rs hs ts rc hc tc) s.heap := by rw [e9]; exact hP0
    have hP : va_P D vwCl (xw cI a w h ((rt_lay Q (w * h) (nI t) (nI k)).2) ff hd bl rs hs ts rc hc tc) H := by rw [e9]; exact hP
    exact w_xthL (text := "the piece is there") hd hx hb htr hts hown hlocks hem hE (by decide +kernel) hP0 hP hS x_cov (hl.1.trans hml.symm) (by rw [e9]) (by rw [e9]; exact hk0) d_R_lay_24 d_R_lay_27 d_R_lay_28 d_R_lay_30 d_R_lay_33 ⟨Nat.le_of_ble_eq_true rfl, Nat.le_of_ble_eq_true rfl, Nat.le_of_ble_eq_true rfl, Nat.le_of_ble_eq_true rfl⟩ ⟨Nat.le_of_ble_eq_true rfl, Nat.le_of_ble_eq_true rfl⟩

set_option maxHeartbeats 4000000 in
set_option maxRecDepth 100000 in
theorem c_R_lift (l : Launch) (hfl : l.flags = flags0) (D : va_G) (cI cZ : ClassId) (g a : Nat → Nat) (ha : xI a) (w h : Nat) (Q : Nat → Nat) (ff : Nat → Int32) (hd bl : Int32) (rs : Nat → Int32) (hs ts : Int32) (rc : Nat → Int32) (hc tc : Int32) (x y : Int32) (hG : rt_G w h Q) (hk0 : rt_hk Q w h hd ff bl) : xe_M l y_R_lift (.code y_R_lift b_R_lift 4 none :: tG) ({ frames := 7, cells := 2, slots := 12, locals := 104 }) (va_Pc [.ref (a 0), .int (x), .int (y)] (xe_U D cI cZ g (xA a) (xw cI a w h Q ff hd bl rs hs ts rc hc tc))) (xe_Qv (S := Int32) ((rt_lift Q (w * h) x y).1) (fun u => rt_hk (rt_lift Q (w * h) x y).2 w h u ff bl) (wB D (fun (u : Int32) => (xw cI a w h ((rt_lift Q (w * h) x y).2) ff u bl rs hs ts rc hc tc))) (xA a)) 2 12 (xA a) := by
  refine xe_of (cc := b_R_lift) (maxL := 4) (ret := none) (by decide) rfl ?_
  intro p e s m args below meth c s₁ BD9 hml hem hv
  obtain ⟨rfl, ⟨hP, hK, hZ⟩, hE⟩ := hv
  have hx := BD9.exec
  have hb := BD9.bytes
  have hr := BD9.returns
  have htr := Launch.traces_off hfl BD9.admits
  have hts : ∀ w ∈ tG, w.before _ s = true := fun w hw => atoms_spec (ws := .code y_R_lift b_R_lift 4 none :: tG) BD9.pre w (List.mem_cons_of_mem _ hw)
  have hown : s.vm.findClass rn_R = some m.cls := findClass_of_methodNamed BD9.named
  have hlocks := BD9.notSynchronized
  have hS : va_S (xA a) s.heap s.heap [] := va_S.rf
  have hD : va_D (xA a) (xw cI a w h Q ff hd bl rs hs ts rc hc tc) := x_D ha _ rfl
  have hP : va_P D vwCl (xw cI a w h Q ff hd bl rs hs ts rc hc tc) s.heap := hP
  have hP0 := hP
  have hl := lv_entry ([.ref (a 0), .int (x), .int (y)]) (n := 4) (Nat.le_of_ble_eq_true rfl)
  rw [lg_entry_eq]
  generalize (lg_sl ([.ref (a 0), .int (x), .int (y)]) ++ List.replicate (4 - (lg_sl ([.ref (a 0), .int (x), .int (y)])).length) Slot.unset).toArray = ls at hl ⊢
  have hl : lv_has ls 4 [(0, .ref (a 0)), (1, .int (x)), (2, .int (y))] := hl
  obtain ⟨hn1, hn⟩ := hG.n
  have hw0 : 0 < w := by have := hG.1.1; omega
  have hQ := hG.2.2
  refine lv_aload_n hx hb d_R_lift_0 rfl (lv_at hl 0 rfl) ?_
  refine lv_iload_n hx hb d_R_lift_1 rfl (lv_at hl 1 rfl) ?_
  refine lv_iload_n hx hb d_R_lift_2 rfl (lv_at hl 2 rfl) ?_
  refine w_xv (As := [.int (x), .int (y)]) (rest := []) ⟨hx, hb, hml, hown, hts⟩ (c_R_requirePlace l hfl D cI cZ g a ha w h Q ff hd bl rs hs ts rc hc tc x y hG) (cwV 2 hts (t_gV k_methodLink_rn_R_31_y_R_requirePlace k_instanceMethod_y_R_requirePlace k_selects_rn_R_y_R_requirePlace_y_R_requirePlace k_initialized_rn_R k_code_y_R_requirePlace_prog_1_method_18_code_3_none) rfl rfl rfl (by decide +kernel) ⟨Nat.le_of_ble_eq_true rfl, Nat.le_of_ble_eq_true rfl⟩) (va_recv hK hP (ci := 3) (q0 := 0) rfl rfl) hP hK hZ hE hS rfl hl.1 rfl (Nat.le_of_ble_eq_true rfl) d_R_lift_3 ⟨Nat.le_of_ble_eq_true rfl, Nat.le_of_ble_eq_true rfl⟩ (fun hk0_3 u_3 H locs hw hP hS => ?_) (fun hk1_3 q ce u_3 H locs hq hns hcl hw hP hS => ?_)
  rotate_left
  · have e9 : rt_lift Q (w * h) x y = (1, Q) := (rt_lay_n (rt_rp_1 hk1_3).2).2
    exact w_xlv hd hlocks hem hS (by show va_P D vwCl (xw cI a w h ((rt_lift Q (w * h) x y).2) ff hd bl rs hs ts rc hc tc) H; rw [e9]; exact hP) (by rw [e9]; exact hk0) hk1_3 (by rw [e9]; exact (rt_rp_1 hk1_3).1.symm) hq hns hcl ⟨Nat.le_of_ble_eq_true rfl, Nat.le_of_ble_eq_true rfl⟩
  have hP : va_P D vwCl (xw cI a w h Q ff hd bl rs hs ts rc hc tc) H := hP
  obtain ⟨hx1, hy1⟩ := rt_rp_0 hk0_3
  obtain ⟨t, ht, rfl⟩ := rt_ix_is (by omega) hx1
  obtain ⟨k, hk, rfl⟩ := rt_ix_is (by omega) hy1
  refine lv_bipush (v := (nI (6))) hx hb d_R_lift_6 (by decide) ?_
  refine lv_iload_n hx hb d_R_lift_8 rfl (lv_at hl 1 rfl) ?_
  refine rw_mul hx hb d_R_lift_9 ?_
  refine lv_iload_n hx hb d_R_lift_10 rfl (lv_at hl 2 rfl) ?_
  refine rw_add hx hb d_R_lift_11 ?_
  refine lv_istore_n (lv' := [(3, .int (nI ((6 * t) + k))), (0, .ref (a 0)), (1, .int (nI (t))), (2, .int (nI (k)))]) hx hb d_R_lift_12 rfl hl (by decide) rfl (fun ls hl => ?_)
  refine lv_aload_n hx hb d_R_lift_13 rfl (lv_at hl 1 rfl) ?_
  refine lv_iload_n hx hb d_R_lift_14 rfl (lv_at hl 0 rfl) ?_
  refine w_xv (As := [.int (nI ((6 * t) + k))]) (rest := []) ⟨hx, hb, hml, hown, hts⟩ (c_R_requireThere l hfl D cI cZ g a ha w h Q ff hd bl rs hs ts rc hc tc (6 * t + k) hG (by omega)) (cwV 1 hts (t_gV k_methodLink_rn_R_52_y_R_requireThere k_instanceMethod_y_R_requireThere k_selects_rn_R_y_R_requireThere_y_R_requireThere k_initialized_rn_R k_code_y_R_requireThere_prog_1_method_19_code_2_none) rfl rfl rfl (by decide +kernel) ⟨Nat.le_of_ble_eq_true rfl, Nat.le_of_ble_eq_true rfl⟩) (va_recv hK hP (ci := 3) (q0 := 0) rfl rfl) hP hK hZ hE hS rfl hl.1 rfl (Nat.le_of_ble_eq_true rfl) d_R_lift_15 ⟨Nat.le_of_ble_eq_true rfl, Nat.le_of_ble_eq_true rfl⟩ (fun hk0_15 u_15 H locs hw hP hS => ?_) (fun hk1_15 q ce u_15 H locs hq hns hcl hw hP hS => ?_)
  rotate_left
  · have e9 : rt_lift Q (w * h) (nI t) (nI k) = (2, Q) := (rt_lift_s (by omega) ht hk).trans (if_pos (rt_rq_1 hk1_15).2)
    exact w_xlv hd hlocks hem hS (by show va_P D vwCl (xw cI a w h ((rt_lift Q (w * h) (nI t) (nI k)).2) ff hd bl rs hs ts rc hc tc) H; rw [e9]; exact hP) (by rw [e9]; exact hk0) hk1_15 (by rw [e9]; exact (rt_rq_1 hk1_15).1.symm) hq hns hcl ⟨Nat.le_of_ble_eq_true rfl, Nat.le_of_ble_eq_true rfl⟩
  have hP : va_P D vwCl (xw cI a w h Q ff hd bl rs hs ts rc hc tc) H := hP
  refine lv_aload_n hx hb d_R_lift_18 rfl (lv_at hl 1 rfl) ?_
  refine va_get (D := D) (ci := 3) (v := .ref (a 1)) (C := rn_R) (T := tf_R) (N := 2) hx hb hts in_R hown hK hP 0 rfl rfl 0 (by decide) (hts _ k_fieldLink_rn_R_18_rn_R_rails_LRouteTracks_Rails) (fun _ h9 => h9) rfl d_R_lift_19 ?_
  refine lv_iload_n hx hb d_R_lift_22 rfl (lv_at hl 0 rfl) ?_
  refine w_cv (As := [.int (nI ((6 * t) + k))]) (rest := []) ⟨hx, hb, hml, hown, hts⟩ (c_A_takeAway l D cI cZ g a ha w h Q ff hd bl rs hs ts rc hc tc (6 * t + k) hG (by omega)) (cwV 1 hts (t_gV k_methodLink_rn_R_55_y_A_takeAway k_instanceMethod_y_A_takeAway k_selects_rn_A_y_A_takeAway_y_A_takeAway k_initialized_rn_A k_code_y_A_takeAway_prog_3_method_4_code_2_none) rfl rfl rfl (by decide +kernel) ⟨Nat.le_of_ble_eq_true rfl, Nat.le_of_ble_eq_true rfl⟩) (va_recv hK hP (ci := 1) (q0 := 1) rfl rfl) hP hK hZ hS rfl hl.1 rfl (Nat.le_of_ble_eq_true rfl) d_R_lift_23 ⟨Nat.le_of_ble_eq_true rfl, Nat.le_of_ble_eq_true rfl⟩ (fun u_23 H locs hw hP hS => ?_)
  have hP : va_P D vwCl (xw cI a w h (va_up Q (6 * t + k) 0) ff hd bl rs hs ts rc hc tc) H := hP
  have hD : va_D (xA a) (xw cI a w h (va_up Q (6 * t + k) 0) ff hd bl rs hs ts rc hc tc) := x_D ha _ rfl
  refine lv_aload_n hx hb d_R_lift_26 rfl (lv_at hl 1 rfl) ?_
  refine va_get (D := D) (ci := 3) (v := .ref (a 4)) (C := rn_R) (T := tf_R) (N := 2) hx hb hts in_R hown hK hP 0 rfl rfl 1 (by decide) (hts _ k_fieldLink_rn_R_27_rn_R_search_LRouteTracks_Search) (fun _ h9 => h9) rfl d_R_lift_27 ?_
  refine w_cv (As := []) (rest := []) ⟨hx, hb, hml, hown, hts⟩ (c_S_forget l D cI cZ g a ha w h (va_up Q (6 * t + k) 0) ff hd bl rs hs ts rc hc tc  ) (cwV 0 hts (t_gV k_methodLink_rn_R_49_y_S_forget k_instanceMethod_y_S_forget k_selects_rn_S_y_S_forget_y_S_forget k_initialized_rn_S k_code_y_S_forget_prog_4_method_2_code_1_none) rfl rfl rfl (by decide +kernel) ⟨Nat.le_of_ble_eq_true rfl, Nat.le_of_ble_eq_true rfl⟩) (va_recv hK hP (ci := 2) (q0 := 4) rfl rfl) hP hK hZ hS rfl hl.1 rfl (Nat.le_of_ble_eq_true rfl) d_R_lift_30 ⟨Nat.le_of_ble_eq_true rfl, Nat.le_of_ble_eq_true rfl⟩ (fun u_30 H locs hw hP hS => ?_)
  have hP : va_P D vwCl (xw cI a w h (va_up Q (6 * t + k) 0) ff (-1) bl rs hs ts rc hc tc) H := hP
  have hD : va_D (xA a) (xw cI a w h (va_up Q (6 * t + k) 0) ff (-1) bl rs hs ts rc hc tc) := x_D ha _ rfl
  have e9 : rt_lift Q (w * h) (nI t) (nI k) = (0, (va_up Q (6 * t + k) 0)) := (rt_lift_s (by omega) ht hk).trans (if_neg (rt_rq_0 hk0_15))
  exact w_xret (-1) hx hb hr hlocks hS (by show va_P D vwCl (xw cI a w h ((rt_lift Q (w * h) (nI t) (nI k)).2) ff (-1) bl rs hs ts rc hc tc) H; rw [e9]; exact hP) (by rw [e9]) (Or.inl rfl) d_R_lift_33 ⟨Nat.le_of_ble_eq_true rfl, Nat.le_of_ble_eq_true rfl⟩

set_option maxHeartbeats 4000000 in
set_option maxRecDepth 100000 in
theorem c_R_signal (l : Launch) (hfl : l.flags = flags0) (D : va_G) (cI cZ : ClassId) (g a : Nat → Nat) (ha : xI a) (w h : Nat) (Q : Nat → Nat) (ff : Nat → Int32) (hd bl : Int32) (rs : Nat → Int32) (hs ts : Int32) (rc : Nat → Int32) (hc tc : Int32) (x y v u0 : Int32) (hG : rt_G w h Q) (hk0 : rt_hk Q w h hd ff bl) : xe_M l y_R_signal (.code y_R_signal b_R_signal 7 none :: tG) ({ frames := 7, cells := 3, slots := 18, locals := 104 }) (va_Pc [.ref (a 0), .int (x), .int (y), .int (v), .int (u0)] (xe_U D cI cZ g (xA a) (xw cI a w h Q ff hd bl rs hs ts rc hc tc))) (xe_Qv (S := Int32) ((rt_sig Q (w * h) x y v u0).1) (fun u => rt_hk (rt_sig Q (w * h) x y v u0).2 w h u ff bl) (wB D (fun (u : Int32) => (xw cI a w h ((rt_sig Q (w * h) x y v u0).2) ff u bl rs hs ts rc hc tc))) (xA a)) 3 18 (xA a) := by
  refine xe_of (cc := b_R_signal) (maxL := 7) (ret := none) (by decide) rfl ?_
  intro p e s m args below meth c s₁ BD9 hml hem hv
  obtain ⟨rfl, ⟨hP, hK, hZ⟩, hE⟩ := hv
  have hx := BD9.exec
  have hb := BD9.bytes
  have hr := BD9.returns
  have htr := Launch.traces_off hfl BD9.admits
  have hts : ∀ w ∈ tG, w.before _ s = true := fun w hw => atoms_spec (ws := .code y_R_signal b_R_signal 7 none :: tG) BD9.pre w (List.mem_cons_of_mem _ hw)
  have hown : s.vm.findClass rn_R = some m.cls := findClass_of_methodNamed BD9.named
  have hlocks := BD9.notSynchronized
  have hS : va_S (xA a) s.heap s.heap [] := va_S.rf
  have hD : va_D (xA a) (xw cI a w h Q ff hd bl rs hs ts rc hc tc) := x_D ha _ rfl
  have hP : va_P D vwCl (xw cI a w h Q ff hd bl rs hs ts rc hc tc) s.heap := hP
  have hP0 := hP
  have hl := lv_entry ([.ref (a 0), .int (x), .int (y), .int (v), .int (u0)]) (n := 7) (Nat.le_of_ble_eq_true rfl)
  rw [lg_entry_eq]
  generalize (lg_sl ([.ref (a 0), .int (x), .int (y), .int (v), .int (u0)]) ++ List.replicate (7 - (lg_sl ([.ref (a 0), .int (x), .int (y), .int (v), .int (u0)])).length) Slot.unset).toArray = ls at hl ⊢
  have hl : lv_has ls 7 [(0, .ref (a 0)), (1, .int (x)), (2, .int (y)), (3, .int (v)), (4, .int (u0))] := hl
  obtain ⟨hn1, hn⟩ := hG.n
  have hw0 : 0 < w := by have := hG.1.1; omega
  have hQ := hG.2.2
  refine lv_aload_n hx hb d_R_signal_0 rfl (lv_at hl 0 rfl) ?_
  refine lv_iload_n hx hb d_R_signal_1 rfl (lv_at hl 1 rfl) ?_
  refine lv_iload_n hx hb d_R_signal_2 rfl (lv_at hl 2 rfl) ?_
  refine w_xv (As := [.int (x), .int (y)]) (rest := []) ⟨hx, hb, hml, hown, hts⟩ (c_R_requirePlace l hfl D cI cZ g a ha w h Q ff hd bl rs hs ts rc hc tc x y hG) (cwV 2 hts (t_gV k_methodLink_rn_R_31_y_R_requirePlace k_instanceMethod_y_R_requirePlace k_selects_rn_R_y_R_requirePlace_y_R_requirePlace k_initialized_rn_R k_code_y_R_requirePlace_prog_1_method_18_code_3_none) rfl rfl rfl (by decide +kernel) ⟨Nat.le_of_ble_eq_true rfl, Nat.le_of_ble_eq_true rfl⟩) (va_recv hK hP (ci := 3) (q0 := 0) rfl rfl) hP hK hZ hE hS rfl hl.1 rfl (Nat.le_of_ble_eq_true rfl) d_R_signal_3 ⟨Nat.le_of_ble_eq_true rfl, Nat.le_of_ble_eq_true rfl⟩ (fun hk0_3 u_3 H locs hw hP hS => ?_) (fun hk1_3 q ce u_3 H locs hq hns hcl hw hP hS => ?_)
  rotate_left
  · have e9 : rt_sig Q (w * h) x y v u0 = (1, Q) := rt_sig_n (rt_rp_1 hk1_3).2
    exact w_xlv hd hlocks hem hS (by show va_P D vwCl (xw cI a w h ((rt_sig Q (w * h) x y v u0).2) ff hd bl rs hs ts rc hc tc) H; rw [e9]; exact hP) (by rw [e9]; exact hk0) hk1_3 (by rw [e9]; exact (rt_rp_1 hk1_3).1.symm) hq hns hcl ⟨Nat.le_of_ble_eq_true rfl, Nat.le_of_ble_eq_true rfl⟩
  have hP : va_P D vwCl (xw cI a w h Q ff hd bl rs hs ts rc hc tc) H := hP
  obtain ⟨hx1, hy1⟩ := rt_rp_0 hk0_3
  obtain ⟨t, ht, rfl⟩ := rt_ix_is (by omega) hx1
  obtain ⟨k, hk, rfl⟩ := rt_ix_is (by omega) hy1
  refine lv_bipush (v := (nI (6))) hx hb d_R_signal_6 (by decide) ?_
  refine lv_iload_n hx hb d_R_signal_8 rfl (lv_at hl 1 rfl) ?_
  refine rw_mul hx hb d_R_signal_9 ?_
  refine lv_iload_n hx hb d_R_signal_10 rfl (lv_at hl 2 rfl) ?_
  refine rw_add hx hb d_R_signal_11 ?_
  refine lv_istore (lv' := [(5, .int (nI ((6 * t) + k))), (0, .ref (a 0)), (1, .int (nI (t))), (2, .int (nI (k))), (3, .int (v)), (4, .int (u0))]) hx hb d_R_signal_12 hl (by decide) rfl (fun ls hl => ?_)
  refine lv_aload_n hx hb d_R_signal_14 rfl (lv_at hl 1 rfl) ?_
  refine lv_iload hx hb d_R_signal_15 (lv_at hl 0 rfl) ?_
  refine w_xv (As := [.int (nI ((6 * t) + k))]) (rest := []) ⟨hx, hb, hml, hown, hts⟩ (c_R_requireThere l hfl D cI cZ g a ha w h Q ff hd bl rs hs ts rc hc tc (6 * t + k) hG (by omega)) (cwV 1 hts (t_gV k_methodLink_rn_R_52_y_R_requireThere k_instanceMethod_y_R_requireThere k_selects_rn_R_y_R_requireThere_y_R_requireThere k_initialized_rn_R k_code_y_R_requireThere_prog_1_method_19_code_2_none) rfl rfl rfl (by decide +kernel) ⟨Nat.le_of_ble_eq_true rfl, Nat.le_of_ble_eq_true rfl⟩) (va_recv hK hP (ci := 3) (q0 := 0) rfl rfl) hP hK hZ hE hS rfl hl.1 rfl (Nat.le_of_ble_eq_true rfl) d_R_signal_17 ⟨Nat.le_of_ble_eq_true rfl, Nat.le_of_ble_eq_true rfl⟩ (fun hk0_17 u_17 H locs hw hP hS => ?_) (fun hk1_17 q ce u_17 H locs hq hns hcl hw hP hS => ?_)
  rotate_left
  · have e9 : rt_sig Q (w * h) (nI t) (nI k) v u0 = (2, Q) := (rt_sig_s (by omega) ht hk).trans (if_pos (Or.inl (rt_rq_1 hk1_17).2))
    exact w_xlv hd hlocks hem hS (by show va_P D vwCl (xw cI a w h ((rt_sig Q (w * h) (nI t) (nI k) v u0).2) ff hd bl rs hs ts rc hc tc) H; rw [e9]; exact hP) (by rw [e9]; exact hk0) hk1_17 (by rw [e9]; exact (rt_rq_1 hk1_17).1.symm) hq hns hcl ⟨Nat.le_of_ble_eq_true rfl, Nat.le_of_ble_eq_true rfl⟩
  have hP : va_P D vwCl (xw cI a w h Q ff hd bl rs hs ts rc hc tc) H := hP
  refine lv_iload_n hx hb d_R_signal_20 rfl (lv_at hl 4 rfl) ?_
  refine lv_iconst (v := (-1)) hx hb d_R_signal_21 (by decide) ?_
  refine lv_icmp_lt (tgt := 30) hx hb d_R_signal_22 (by decide) (fun c_22 => ?_) (fun c_22 => ?_)
  · have e9 : rt_sig Q (w * h) (nI t) (nI k) v u0 = (2, Q) := (rt_sig_s (by omega) ht hk).trans (if_pos (by first | exact Or.inr (Or.inl c_22) | exact Or.inr (Or.inr (Or.inl (Int32.not_le.mp c_27)))))
    have hP0 : va_P D vwCl (xw cI a w h ((rt_sig Q (w * h) (nI t) (nI k) v u0).2) ff hd bl rs hs ts rc hc tc) s.heap := by rw [e9]; exact hP0
    have hP : va_P D vwCl (xw cI a w h ((rt_sig Q (w * h) (nI t) (nI k) v u0).2) ff hd bl rs hs ts rc hc tc) H := by rw [e9]; exact hP
    exact w_xthL (text := "no such way") hd hx hb htr hts hown hlocks hem hE (by decide +kernel) hP0 hP hS x_cov (hl.1.trans hml.symm) (by rw [e9]) (by rw [e9]; exact hk0) d_R_signal_30 d_R_signal_33 d_R_signal_34 d_R_signal_36 d_R_signal_39 ⟨Nat.le_of_ble_eq_true rfl, Nat.le_of_ble_eq_true rfl, Nat.le_of_ble_eq_true rfl, Nat.le_of_ble_eq_true rfl⟩ ⟨Nat.le_of_ble_eq_true rfl, Nat.le_of_ble_eq_true rfl⟩
  · refine lv_iload_n hx hb d_R_signal_25 rfl (lv_at hl 4 rfl) ?_
    refine lv_iconst (v := (nI (1))) hx hb d_R_signal_26 (by decide) ?_
    refine lv_icmp_le (tgt := 40) hx hb d_R_signal_27 (by decide) (fun c_27 => ?_) (fun c_27 => ?_)
    · refine lv_iload hx hb d_R_signal_40 (lv_at hl 5 rfl) ?_
      refine lv_if_lt (tgt := 51) hx hb d_R_signal_42 (by decide) (fun c_42 => ?_) (fun c_42 => ?_)
      · have e9 : rt_sig Q (w * h) (nI t) (nI k) v u0 = (2, Q) := (rt_sig_s (by omega) ht hk).trans (if_pos (by first | exact Or.inr (Or.inr (Or.inr (Or.inl c_42))) | exact Or.inr (Or.inr (Or.inr (Or.inr (rt_ge2 c_48))))))
        have hP0 : va_P D vwCl (xw cI a w h ((rt_sig Q (w * h) (nI t) (nI k) v u0).2) ff hd bl rs hs ts rc hc tc) s.heap := by rw [e9]; exact hP0
        have hP : va_P D vwCl (xw cI a w h ((rt_sig Q (w * h) (nI t) (nI k) v u0).2) ff hd bl rs hs ts rc hc tc) H := by rw [e9]; exact hP
        exact w_xthL (text := "no such sort") hd hx hb htr hts hown hlocks hem hE (by decide +kernel) hP0 hP hS x_cov (hl.1.trans hml.symm) (by rw [e9]) (by rw [e9]; exact hk0) d_R_signal_51 d_R_signal_54 d_R_signal_55 d_R_signal_57 d_R_signal_60 ⟨Nat.le_of_ble_eq_true rfl, Nat.le_of_ble_eq_true rfl, Nat.le_of_ble_eq_true rfl, Nat.le_of_ble_eq_true rfl⟩ ⟨Nat.le_of_ble_eq_true rfl, Nat.le_of_ble_eq_true rfl⟩
      · refine lv_iload hx hb d_R_signal_45 (lv_at hl 5 rfl) ?_
        refine lv_iconst (v := (nI (2))) hx hb d_R_signal_47 (by decide) ?_
        refine lv_icmp_lt (tgt := 61) hx hb d_R_signal_48 (by decide) (fun c_48 => ?_) (fun c_48 => ?_)
        · have nsg : ¬ (Q (6 * t + k) = 0 ∨ v < -1 ∨ nI 1 < v ∨ u0 < 0 ∨ nI 1 < u0) := by rintro (q | q | q | q | q); exact rt_rq_0 hk0_17 q; exact c_22 q; exact absurd c_27 (Int32.not_le.mpr q); exact c_42 q; exact rt_lt2 c_48 q
          refine lv_iload_n hx hb d_R_signal_61 rfl (lv_at hl 4 rfl) ?_
          refine lv_iconst (v := (-1)) hx hb d_R_signal_62 (by decide) ?_
          refine lv_icmp_ne (tgt := 70) hx hb d_R_signal_63 (by decide) (fun c_63 => ?_) (fun c_63 => ?_)
          · refine lv_iconst (v := (nI (1))) hx hb d_R_signal_70 (by decide) ?_
            refine lv_iload_n hx hb d_R_signal_71 rfl (lv_at hl 4 rfl) ?_
            refine lv_iadd hx hb d_R_signal_72 ?_
            refine lv_iconst (v := (nI (2))) hx hb d_R_signal_73 (by decide) ?_
            refine lv_iload hx hb d_R_signal_74 (lv_at hl 5 rfl) ?_
            refine lv_imul hx hb d_R_signal_76 ?_
            refine lv_iadd hx hb d_R_signal_77 ?_
            refine rw_topI (b := nI (rt_sv v u0)) (rt_sv_y0 nsg c_63) ?_
            refine lv_istore (lv' := [(6, .int (nI (rt_sv v u0))), (5, .int (nI ((6 * t) + k))), (0, .ref (a 0)), (1, .int (nI (t))), (2, .int (nI (k))), (3, .int (v)), (4, .int (u0))]) hx hb d_R_signal_78 hl (by decide) rfl (fun ls hl => ?_)
            refine lv_aload_n hx hb d_R_signal_80 rfl (lv_at hl 2 rfl) ?_
            refine va_get (D := D) (ci := 3) (v := .ref (a 1)) (C := rn_R) (T := tf_R) (N := 2) hx hb hts in_R hown hK hP 0 rfl rfl 0 (by decide) (hts _ k_fieldLink_rn_R_18_rn_R_rails_LRouteTracks_Rails) (fun _ h9 => h9) rfl d_R_signal_81 ?_
            refine lv_iload hx hb d_R_signal_84 (lv_at hl 1 rfl) ?_
            refine lv_iload hx hb d_R_signal_86 (lv_at hl 0 rfl) ?_
            refine lv_aload_n hx hb d_R_signal_88 rfl (lv_at hl 2 rfl) ?_
            refine va_get (D := D) (ci := 3) (v := .ref (a 1)) (C := rn_R) (T := tf_R) (N := 2) hx hb hts in_R hown hK hP 0 rfl rfl 0 (by decide) (hts _ k_fieldLink_rn_R_18_rn_R_rails_LRouteTracks_Rails) (fun _ h9 => h9) rfl d_R_signal_89 ?_
            refine lv_iload hx hb d_R_signal_92 (lv_at hl 1 rfl) ?_
            refine w_ci (As := [.int (nI ((6 * t) + k))]) (rest := [.int (nI (rt_sv v u0)), .int (nI ((6 * t) + k)), .ref (a 1)]) ⟨hx, hb, hml, hown, hts⟩ (c_A_stationOf l D cI cZ g a ha w h Q ff hd bl rs hs ts rc hc tc (6 * t + k) hG (by omega)) (cwV 1 hts (t_gV k_methodLink_rn_R_62_y_A_stationOf k_instanceMethod_y_A_stationOf k_selects_rn_A_y_A_stationOf_y_A_stationOf k_initialized_rn_A k_code_y_A_stationOf_prog_3_method_7_code_2_some_int) rfl rfl rfl (by decide +kernel) ⟨Nat.le_of_ble_eq_true rfl, Nat.le_of_ble_eq_true rfl⟩) (va_recv hK hP (ci := 1) (q0 := 1) rfl rfl) hP hK hZ hS rfl hl.1 rfl (Nat.le_of_ble_eq_true rfl) d_R_signal_94 ⟨Nat.le_of_ble_eq_true rfl, Nat.le_of_ble_eq_true rfl⟩ (fun r_94 u_94 H locs hw hP hS => ?_)
            subst hw
            have hP : va_P D vwCl (xw cI a w h Q ff hd bl rs hs ts rc hc tc) H := hP
            refine w_cv (As := [.int (nI ((6 * t) + k)), .int (nI (rt_sv v u0)), .int (nI (rt_s Q (6 * t + k)) - 1)]) (rest := []) ⟨hx, hb, hml, hown, hts⟩ (c_A_put l D cI cZ g a ha w h Q ff hd bl rs hs ts rc hc tc (6 * t + k) (rt_sv v u0) (rt_s Q (6 * t + k)) (nI (rt_s Q (6 * t + k)) - 1) hG (by omega) (rt_sv_le (fun z => nsg (Or.inr z))) (rt_ok_s hG.2.2 _) (rt_sub1 _)) (cwV 3 hts (t_gV k_methodLink_rn_R_45_y_A_put k_instanceMethod_y_A_put k_selects_rn_A_y_A_put_y_A_put k_initialized_rn_A k_code_y_A_put_prog_3_method_3_code_4_none) rfl rfl rfl (by decide +kernel) ⟨Nat.le_of_ble_eq_true rfl, Nat.le_of_ble_eq_true rfl⟩) (va_recv hK hP (ci := 1) (q0 := 1) rfl rfl) hP hK hZ hS rfl hl.1 rfl (Nat.le_of_ble_eq_true rfl) d_R_signal_97 ⟨Nat.le_of_ble_eq_true rfl, Nat.le_of_ble_eq_true rfl⟩ (fun u_97 H locs hw hP hS => ?_)
            have hP : va_P D vwCl (xw cI a w h (va_up Q (6 * t + k) (1 + 4 * rt_sv v u0 + 32 * rt_s Q (6 * t + k))) ff hd bl rs hs ts rc hc tc) H := hP
            have hD : va_D (xA a) (xw cI a w h (va_up Q (6 * t + k) (1 + 4 * rt_sv v u0 + 32 * rt_s Q (6 * t + k))) ff hd bl rs hs ts rc hc tc) := x_D ha _ rfl
            refine lv_aload_n hx hb d_R_signal_100 rfl (lv_at hl 2 rfl) ?_
            refine va_get (D := D) (ci := 3) (v := .ref (a 4)) (C := rn_R) (T := tf_R) (N := 2) hx hb hts in_R hown hK hP 0 rfl rfl 1 (by decide) (hts _ k_fieldLink_rn_R_27_rn_R_search_LRouteTracks_Search) (fun _ h9 => h9) rfl d_R_signal_101 ?_
            refine w_cv (As := []) (rest := []) ⟨hx, hb, hml, hown, hts⟩ (c_S_forget l D cI cZ g a ha w h (va_up Q (6 * t + k) (1 + 4 * rt_sv v u0 + 32 * rt_s Q (6 * t + k))) ff hd bl rs hs ts rc hc tc  ) (cwV 0 hts (t_gV k_methodLink_rn_R_49_y_S_forget k_instanceMethod_y_S_forget k_selects_rn_S_y_S_forget_y_S_forget k_initialized_rn_S k_code_y_S_forget_prog_4_method_2_code_1_none) rfl rfl rfl (by decide +kernel) ⟨Nat.le_of_ble_eq_true rfl, Nat.le_of_ble_eq_true rfl⟩) (va_recv hK hP (ci := 2) (q0 := 4) rfl rfl) hP hK hZ hS rfl hl.1 rfl (Nat.le_of_ble_eq_true rfl) d_R_signal_104 ⟨Nat.le_of_ble_eq_true rfl, Nat.le_of_ble_eq_true rfl⟩ (fun u_104 H locs hw hP hS => ?_)
            have hP : va_P D vwCl (xw cI a w h (va_up Q (6 * t + k) (1 + 4 * rt_sv v u0 + 32 * rt_s Q (6 * t + k))) ff (-1) bl rs hs ts rc hc tc) H := hP
            have hD : va_D (xA a) (xw cI a w h (va_up Q (6 * t + k) (1 + 4 * rt_sv v u0 + 32 * rt_s Q (6 * t + k))) ff (-1) bl rs hs ts rc hc tc) := x_D ha _ rfl
            have e9 : rt_sig Q (w * h) (nI t) (nI k) v u0 = (0, (va_up Q (6 * t + k) (1 + 4 * rt_sv v u0 + 32 * rt_s Q (6 * t + k)))) := (rt_sig_s (by omega) ht hk).trans (if_neg nsg)
            exact w_xret (-1) hx hb hr hlocks hS (by show va_P D vwCl (xw cI a w h ((rt_sig Q (w * h) (nI t) (nI k) v u0).2) ff (-1) bl rs hs ts rc hc tc) H; rw [e9]; exact hP) (by rw [e9]) (Or.inl rfl) d_R_signal_107 ⟨Nat.le_of_ble_eq_true rfl, Nat.le_of_ble_eq_true rfl⟩
          · refine lv_iconst (v := (nI (0))) hx hb d_R_signal_66 (by decide) ?_
            refine lv_goto (tgt := 78) hx hb d_R_signal_67 (by decide) ?_
            refine rw_topI (b := nI (rt_sv v u0)) (congrArg nI ((rt_sv_n0 (v := v) (u := u0) c_63).symm)) ?_
            refine lv_istore (lv' := [(6, .int (nI (rt_sv v u0))), (5, .int (nI ((6 * t) + k))), (0, .ref (a 0)), (1, .int (nI (t))), (2, .int (nI (k))), (3, .int (v)), (4, .int (u0))]) hx hb d_R_signal_78 hl (by decide) rfl (fun ls hl => ?_)
            refine lv_aload_n hx hb d_R_signal_80 rfl (lv_at hl 2 rfl) ?_
            refine va_get (D := D) (ci := 3) (v := .ref (a 1)) (C := rn_R) (T := tf_R) (N := 2) hx hb hts in_R hown hK hP 0 rfl rfl 0 (by decide) (hts _ k_fieldLink_rn_R_18_rn_R_rails_LRouteTracks_Rails) (fun _ h9 => h9) rfl d_R_signal_81 ?_
            refine lv_iload hx hb d_R_signal_84 (lv_at hl 1 rfl) ?_
            refine lv_iload hx hb d_R_signal_86 (lv_at hl 0 rfl) ?_
            refine lv_aload_n hx hb d_R_signal_88 rfl (lv_at hl 2 rfl) ?_
            refine va_get (D := D) (ci := 3) (v := .ref (a 1)) (C := rn_R) (T := tf_R) (N := 2) hx hb hts in_R hown hK hP 0 rfl rfl 0 (by decide) (hts _ k_fieldLink_rn_R_18_rn_R_rails_LRouteTracks_Rails) (fun _ h9 => h9) rfl d_R_signal_89 ?_
            refine lv_iload hx hb d_R_signal_92 (lv_at hl 1 rfl) ?_
            refine w_ci (As := [.int (nI ((6 * t) + k))]) (rest := [.int (nI (rt_sv v u0)), .int (nI ((6 * t) + k)), .ref (a 1)]) ⟨hx, hb, hml, hown, hts⟩ (c_A_stationOf l D cI cZ g a ha w h Q ff hd bl rs hs ts rc hc tc (6 * t + k) hG (by omega)) (cwV 1 hts (t_gV k_methodLink_rn_R_62_y_A_stationOf k_instanceMethod_y_A_stationOf k_selects_rn_A_y_A_stationOf_y_A_stationOf k_initialized_rn_A k_code_y_A_stationOf_prog_3_method_7_code_2_some_int) rfl rfl rfl (by decide +kernel) ⟨Nat.le_of_ble_eq_true rfl, Nat.le_of_ble_eq_true rfl⟩) (va_recv hK hP (ci := 1) (q0 := 1) rfl rfl) hP hK hZ hS rfl hl.1 rfl (Nat.le_of_ble_eq_true rfl) d_R_signal_94 ⟨Nat.le_of_ble_eq_true rfl, Nat.le_of_ble_eq_true rfl⟩ (fun r_94 u_94 H locs hw hP hS => ?_)
            subst hw
            have hP : va_P D vwCl (xw cI a w h Q ff hd bl rs hs ts rc hc tc) H := hP
            refine w_cv (As := [.int (nI ((6 * t) + k)), .int (nI (rt_sv v u0)), .int (nI (rt_s Q (6 * t + k)) - 1)]) (rest := []) ⟨hx, hb, hml, hown, hts⟩ (c_A_put l D cI cZ g a ha w h Q ff hd bl rs hs ts rc hc tc (6 * t + k) (rt_sv v u0) (rt_s Q (6 * t + k)) (nI (rt_s Q (6 * t + k)) - 1) hG (by omega) (rt_sv_le (fun z => nsg (Or.inr z))) (rt_ok_s hG.2.2 _) (rt_sub1 _)) (cwV 3 hts (t_gV k_methodLink_rn_R_45_y_A_put k_instanceMethod_y_A_put k_selects_rn_A_y_A_put_y_A_put k_initialized_rn_A k_code_y_A_put_prog_3_method_3_code_4_none) rfl rfl rfl (by decide +kernel) ⟨Nat.le_of_ble_eq_true rfl, Nat.le_of_ble_eq_true rfl⟩) (va_recv hK hP (ci := 1) (q0 := 1) rfl rfl) hP hK hZ hS rfl hl.1 rfl (Nat.le_of_ble_eq_true rfl) d_R_signal_97 ⟨Nat.le_of_ble_eq_true rfl, Nat.le_of_ble_eq_true rfl⟩ (fun u_97 H locs hw hP hS => ?_)
            have hP : va_P D vwCl (xw cI a w h (va_up Q (6 * t + k) (1 + 4 * rt_sv v u0 + 32 * rt_s Q (6 * t + k))) ff hd bl rs hs ts rc hc tc) H := hP
            have hD : va_D (xA a) (xw cI a w h (va_up Q (6 * t + k) (1 + 4 * rt_sv v u0 + 32 * rt_s Q (6 * t + k))) ff hd bl rs hs ts rc hc tc) := x_D ha _ rfl
            refine lv_aload_n hx hb d_R_signal_100 rfl (lv_at hl 2 rfl) ?_
            refine va_get (D := D) (ci := 3) (v := .ref (a 4)) (C := rn_R) (T := tf_R) (N := 2) hx hb hts in_R hown hK hP 0 rfl rfl 1 (by decide) (hts _ k_fieldLink_rn_R_27_rn_R_search_LRouteTracks_Search) (fun _ h9 => h9) rfl d_R_signal_101 ?_
            refine w_cv (As := []) (rest := []) ⟨hx, hb, hml, hown, hts⟩ (c_S_forget l D cI cZ g a ha w h (va_up Q (6 * t + k) (1 + 4 * rt_sv v u0 + 32 * rt_s Q (6 * t + k))) ff hd bl rs hs ts rc hc tc  ) (cwV 0 hts (t_gV k_methodLink_rn_R_49_y_S_forget k_instanceMethod_y_S_forget k_selects_rn_S_y_S_forget_y_S_forget k_initialized_rn_S k_code_y_S_forget_prog_4_method_2_code_1_none) rfl rfl rfl (by decide +kernel) ⟨Nat.le_of_ble_eq_true rfl, Nat.le_of_ble_eq_true rfl⟩) (va_recv hK hP (ci := 2) (q0 := 4) rfl rfl) hP hK hZ hS rfl hl.1 rfl (Nat.le_of_ble_eq_true rfl) d_R_signal_104 ⟨Nat.le_of_ble_eq_true rfl, Nat.le_of_ble_eq_true rfl⟩ (fun u_104 H locs hw hP hS => ?_)
            have hP : va_P D vwCl (xw cI a w h (va_up Q (6 * t + k) (1 + 4 * rt_sv v u0 + 32 * rt_s Q (6 * t + k))) ff (-1) bl rs hs ts rc hc tc) H := hP
            have hD : va_D (xA a) (xw cI a w h (va_up Q (6 * t + k) (1 + 4 * rt_sv v u0 + 32 * rt_s Q (6 * t + k))) ff (-1) bl rs hs ts rc hc tc) := x_D ha _ rfl
            have e9 : rt_sig Q (w * h) (nI t) (nI k) v u0 = (0, (va_up Q (6 * t + k) (1 + 4 * rt_sv v u0 + 32 * rt_s Q (6 * t + k)))) := (rt_sig_s (by omega) ht hk).trans (if_neg nsg)
            exact w_xret (-1) hx hb hr hlocks hS (by show va_P D vwCl (xw cI a w h ((rt_sig Q (w * h) (nI t) (nI k) v u0).2) ff (-1) bl rs hs ts rc hc tc) H; rw [e9]; exact hP) (by rw [e9]) (Or.inl rfl) d_R_signal_107 ⟨Nat.le_of_ble_eq_true rfl, Nat.le_of_ble_eq_true rfl⟩
        · have e9 : rt_sig Q (w * h) (nI t) (nI k) v u0 = (2, Q) := (rt_sig_s (by omega) ht hk).trans (if_pos (by first | exact Or.inr (Or.inr (Or.inr (Or.inl c_42))) | exact Or.inr (Or.inr (Or.inr (Or.inr (rt_ge2 c_48))))))
          have hP0 : va_P D vwCl (xw cI a w h ((rt_sig Q (w * h) (nI t) (nI k) v u0).2) ff hd bl rs hs ts rc hc tc) s.heap := by rw [e9]; exact hP0
          have hP : va_P D vwCl (xw cI a w h ((rt_sig Q (w * h) (nI t) (nI k) v u0).2) ff hd bl rs hs ts rc hc tc) H := by rw [e9]; exact hP
          exact w_xthL (text := "no such sort") hd hx hb htr hts hown hlocks hem hE (by decide +kernel) hP0 hP hS x_cov (hl.1.trans hml.symm) (by rw [e9]) (by rw [e9]; exact hk0) d_R_signal_51 d_R_signal_54 d_R_signal_55 d_R_signal_57 d_R_signal_60 ⟨Nat.le_of_ble_eq_true rfl, Nat.le_of_ble_eq_true rfl, Nat.le_of_ble_eq_true rfl, Nat.le_of_ble_eq_true rfl⟩ ⟨Nat.le_of_ble_eq_true rfl, Nat.le_of_ble_eq_true rfl⟩
    · have e9 : rt_sig Q (w * h) (nI t) (nI k) v u0 = (2, Q) := (rt_sig_s (by omega) ht hk).trans (if_pos (by first | exact Or.inr (Or.inl c_22) | exact Or.inr (Or.inr (Or.inl (Int32.not_le.mp c_27)))))
      have hP0 : va_P D vwCl (xw cI a w h ((rt_sig Q (w * h) (nI t) (nI k) v u0).2) ff hd bl rs hs ts rc hc tc) s.heap := by rw [e9]; exact hP0
      have hP : va_P D vwCl (xw cI a w h ((rt_sig Q (w * h) (nI t) (nI k) v u0).2) ff hd bl rs hs ts rc hc tc) H := by rw [e9]; exact hP
      exact w_xthL (text := "no such way") hd hx hb htr hts hown hlocks hem hE (by decide +kernel) hP0 hP hS x_cov (hl.1.trans hml.symm) (by rw [e9]) (by rw [e9]; exact hk0) d_R_signal_30 d_R_signal_33 d_R_signal_34 d_R_signal_36 d_R_signal_39 ⟨Nat.le_of_ble_eq_true rfl, Nat.le_of_ble_eq_true rfl, Nat.le_of_ble_eq_true rfl, Nat.le_of_ble_eq_true rfl⟩ ⟨Nat.le_of_ble_eq_true rfl, Nat.le_of_ble_eq_true rfl⟩

set_option maxHeartbeats 4000000 in
set_option maxRecDepth 100000 in
theorem c_R_platform (l : Launch) (hfl : l.flags = flags0) (D : va_G) (cI cZ : ClassId) (g a : Nat → Nat) (ha : xI a) (w h : Nat) (Q : Nat → Nat) (ff : Nat → Int32) (hd bl : Int32) (rs : Nat → Int32) (hs ts : Int32) (rc : Nat → Int32) (hc tc : Int32) (x y v : Int32) (hG : rt_G w h Q) (hk0 : rt_hk Q w h hd ff bl) : xe_M l y_R_platform (.code y_R_platform b_R_platform 5 none :: tG) ({ frames := 7, cells := 3, slots := 18, locals := 104 }) (va_Pc [.ref (a 0), .int (x), .int (y), .int (v)] (xe_U D cI cZ g (xA a) (xw cI a w h Q ff hd bl rs hs ts rc hc tc))) (xe_Qv (S := Int32) ((rt_plt Q (w * h) x y v).1) (fun u => rt_hk (rt_plt Q (w * h) x y v).2 w h u ff bl) (wB D (fun (u : Int32) => (xw cI a w h ((rt_plt Q (w * h) x y v).2) ff u bl rs hs ts rc hc tc))) (xA a)) 3 18 (xA a) := by
  refine xe_of (cc := b_R_platform) (maxL := 5) (ret := none) (by decide) rfl ?_
  intro p e s m args below meth c s₁ BD9 hml hem hv
  obtain ⟨rfl, ⟨hP, hK, hZ⟩, hE⟩ := hv
  have hx := BD9.exec
  have hb := BD9.bytes
  have hr := BD9.returns
  have htr := Launch.traces_off hfl BD9.admits
  have hts : ∀ w ∈ tG, w.before _ s = true := fun w hw => atoms_spec (ws := .code y_R_platform b_R_platform 5 none :: tG) BD9.pre w (List.mem_cons_of_mem _ hw)
  have hown : s.vm.findClass rn_R = some m.cls := findClass_of_methodNamed BD9.named
  have hlocks := BD9.notSynchronized
  have hS : va_S (xA a) s.heap s.heap [] := va_S.rf
  have hD : va_D (xA a) (xw cI a w h Q ff hd bl rs hs ts rc hc tc) := x_D ha _ rfl
  have hP : va_P D vwCl (xw cI a w h Q ff hd bl rs hs ts rc hc tc) s.heap := hP
  have hP0 := hP
  have hl := lv_entry ([.ref (a 0), .int (x), .int (y), .int (v)]) (n := 5) (Nat.le_of_ble_eq_true rfl)
  rw [lg_entry_eq]
  generalize (lg_sl ([.ref (a 0), .int (x), .int (y), .int (v)]) ++ List.replicate (5 - (lg_sl ([.ref (a 0), .int (x), .int (y), .int (v)])).length) Slot.unset).toArray = ls at hl ⊢
  have hl : lv_has ls 5 [(0, .ref (a 0)), (1, .int (x)), (2, .int (y)), (3, .int (v))] := hl
  obtain ⟨hn1, hn⟩ := hG.n
  have hw0 : 0 < w := by have := hG.1.1; omega
  have hQ := hG.2.2
  refine lv_aload_n hx hb d_R_platform_0 rfl (lv_at hl 0 rfl) ?_
  refine lv_iload_n hx hb d_R_platform_1 rfl (lv_at hl 1 rfl) ?_
  refine lv_iload_n hx hb d_R_platform_2 rfl (lv_at hl 2 rfl) ?_
  refine w_xv (As := [.int (x), .int (y)]) (rest := []) ⟨hx, hb, hml, hown, hts⟩ (c_R_requirePlace l hfl D cI cZ g a ha w h Q ff hd bl rs hs ts rc hc tc x y hG) (cwV 2 hts (t_gV k_methodLink_rn_R_31_y_R_requirePlace k_instanceMethod_y_R_requirePlace k_selects_rn_R_y_R_requirePlace_y_R_requirePlace k_initialized_rn_R k_code_y_R_requirePlace_prog_1_method_18_code_3_none) rfl rfl rfl (by decide +kernel) ⟨Nat.le_of_ble_eq_true rfl, Nat.le_of_ble_eq_true rfl⟩) (va_recv hK hP (ci := 3) (q0 := 0) rfl rfl) hP hK hZ hE hS rfl hl.1 rfl (Nat.le_of_ble_eq_true rfl) d_R_platform_3 ⟨Nat.le_of_ble_eq_true rfl, Nat.le_of_ble_eq_true rfl⟩ (fun hk0_3 u_3 H locs hw hP hS => ?_) (fun hk1_3 q ce u_3 H locs hq hns hcl hw hP hS => ?_)
  rotate_left
  · have e9 : rt_plt Q (w * h) x y v = (1, Q) := rt_plt_n (rt_rp_1 hk1_3).2
    exact w_xlv hd hlocks hem hS (by show va_P D vwCl (xw cI a w h ((rt_plt Q (w * h) x y v).2) ff hd bl rs hs ts rc hc tc) H; rw [e9]; exact hP) (by rw [e9]; exact hk0) hk1_3 (by rw [e9]; exact (rt_rp_1 hk1_3).1.symm) hq hns hcl ⟨Nat.le_of_ble_eq_true rfl, Nat.le_of_ble_eq_true rfl⟩
  have hP : va_P D vwCl (xw cI a w h Q ff hd bl rs hs ts rc hc tc) H := hP
  obtain ⟨hx1, hy1⟩ := rt_rp_0 hk0_3
  obtain ⟨t, ht, rfl⟩ := rt_ix_is (by omega) hx1
  obtain ⟨k, hk, rfl⟩ := rt_ix_is (by omega) hy1
  refine lv_iload_n hx hb d_R_platform_6 rfl (lv_at hl 3 rfl) ?_
  refine lv_iconst (v := (-1)) hx hb d_R_platform_7 (by decide) ?_
  refine lv_icmp_eq (tgt := 28) hx hb d_R_platform_8 (by decide) (fun c_8 => ?_) (fun c_8 => ?_)
  · have nst : ¬ (v < -1 ∨ nI 7 < v) := by first | exact rt_pv1 c_8 | exact rt_pv2 c_15
    refine lv_bipush (v := (nI (6))) hx hb d_R_platform_28 (by decide) ?_
    refine lv_iload_n hx hb d_R_platform_30 rfl (lv_at hl 1 rfl) ?_
    refine rw_mul hx hb d_R_platform_31 ?_
    refine lv_iload_n hx hb d_R_platform_32 rfl (lv_at hl 2 rfl) ?_
    refine rw_add hx hb d_R_platform_33 ?_
    refine lv_istore (lv' := [(4, .int (nI ((6 * t) + k))), (0, .ref (a 0)), (1, .int (nI (t))), (2, .int (nI (k))), (3, .int (v))]) hx hb d_R_platform_34 hl (by decide) rfl (fun ls hl => ?_)
    refine lv_aload_n hx hb d_R_platform_36 rfl (lv_at hl 1 rfl) ?_
    refine lv_iload hx hb d_R_platform_37 (lv_at hl 0 rfl) ?_
    refine w_xv (As := [.int (nI ((6 * t) + k))]) (rest := []) ⟨hx, hb, hml, hown, hts⟩ (c_R_requireThere l hfl D cI cZ g a ha w h Q ff hd bl rs hs ts rc hc tc (6 * t + k) hG (by omega)) (cwV 1 hts (t_gV k_methodLink_rn_R_52_y_R_requireThere k_instanceMethod_y_R_requireThere k_selects_rn_R_y_R_requireThere_y_R_requireThere k_initialized_rn_R k_code_y_R_requireThere_prog_1_method_19_code_2_none) rfl rfl rfl (by decide +kernel) ⟨Nat.le_of_ble_eq_true rfl, Nat.le_of_ble_eq_true rfl⟩) (va_recv hK hP (ci := 3) (q0 := 0) rfl rfl) hP hK hZ hE hS rfl hl.1 rfl (Nat.le_of_ble_eq_true rfl) d_R_platform_39 ⟨Nat.le_of_ble_eq_true rfl, Nat.le_of_ble_eq_true rfl⟩ (fun hk0_39 u_39 H locs hw hP hS => ?_) (fun hk1_39 q ce u_39 H locs hq hns hcl hw hP hS => ?_)
    rotate_left
    · have e9 : rt_plt Q (w * h) (nI t) (nI k) v = (2, Q) := (rt_plt_s (by omega) ht hk).trans ((if_neg nst).trans (if_pos (Or.inl (rt_rq_1 hk1_39).2)))
      exact w_xlv hd hlocks hem hS (by show va_P D vwCl (xw cI a w h ((rt_plt Q (w * h) (nI t) (nI k) v).2) ff hd bl rs hs ts rc hc tc) H; rw [e9]; exact hP) (by rw [e9]; exact hk0) hk1_39 (by rw [e9]; exact (rt_rq_1 hk1_39).1.symm) hq hns hcl ⟨Nat.le_of_ble_eq_true rfl, Nat.le_of_ble_eq_true rfl⟩
    have hP : va_P D vwCl (xw cI a w h Q ff hd bl rs hs ts rc hc tc) H := hP
    refine lv_iload_n hx hb d_R_platform_42 rfl (lv_at hl 3 rfl) ?_
    refine lv_iconst (v := (nI (2))) hx hb d_R_platform_43 (by decide) ?_
    refine rw_clt (tgt := 57) hx hb d_R_platform_44 (by decide) (by omega) (by omega) (fun c_44 => ?_) (fun c_44 => ?_)
    · refine lv_aload_n hx hb d_R_platform_57 rfl (lv_at hl 1 rfl) ?_
      refine va_get (D := D) (ci := 3) (v := .ref (a 1)) (C := rn_R) (T := tf_R) (N := 2) hx hb hts in_R hown hK hP 0 rfl rfl 0 (by decide) (hts _ k_fieldLink_rn_R_18_rn_R_rails_LRouteTracks_Rails) (fun _ h9 => h9) rfl d_R_platform_58 ?_
      refine lv_iload hx hb d_R_platform_61 (lv_at hl 0 rfl) ?_
      refine lv_aload_n hx hb d_R_platform_63 rfl (lv_at hl 1 rfl) ?_
      refine va_get (D := D) (ci := 3) (v := .ref (a 1)) (C := rn_R) (T := tf_R) (N := 2) hx hb hts in_R hown hK hP 0 rfl rfl 0 (by decide) (hts _ k_fieldLink_rn_R_18_rn_R_rails_LRouteTracks_Rails) (fun _ h9 => h9) rfl d_R_platform_64 ?_
      refine lv_iload hx hb d_R_platform_67 (lv_at hl 0 rfl) ?_
      refine w_ci (As := [.int (nI ((6 * t) + k))]) (rest := [.int (nI ((6 * t) + k)), .ref (a 1)]) ⟨hx, hb, hml, hown, hts⟩ (c_A_signalOf l D cI cZ g a ha w h Q ff hd bl rs hs ts rc hc tc (6 * t + k) hG (by omega)) (cwV 1 hts (t_gV k_methodLink_rn_R_75_y_A_signalOf k_instanceMethod_y_A_signalOf k_selects_rn_A_y_A_signalOf_y_A_signalOf k_initialized_rn_A k_code_y_A_signalOf_prog_3_method_6_code_2_some_int) rfl rfl rfl (by decide +kernel) ⟨Nat.le_of_ble_eq_true rfl, Nat.le_of_ble_eq_true rfl⟩) (va_recv hK hP (ci := 1) (q0 := 1) rfl rfl) hP hK hZ hS rfl hl.1 rfl (Nat.le_of_ble_eq_true rfl) d_R_platform_69 ⟨Nat.le_of_ble_eq_true rfl, Nat.le_of_ble_eq_true rfl⟩ (fun r_69 u_69 H locs hw hP hS => ?_)
      subst hw
      have hP : va_P D vwCl (xw cI a w h Q ff hd bl rs hs ts rc hc tc) H := hP
      refine lv_iload_n hx hb d_R_platform_72 rfl (lv_at hl 4 rfl) ?_
      refine w_cv (As := [.int (nI ((6 * t) + k)), .int (nI (rt_g Q (6 * t + k))), .int (v)]) (rest := []) ⟨hx, hb, hml, hown, hts⟩ (c_A_put l D cI cZ g a ha w h Q ff hd bl rs hs ts rc hc tc (6 * t + k) (rt_g Q (6 * t + k)) (v + 1).toNatClampNeg v hG (by omega) (rt_ok_g hG.2.2 _) (rt_pv4 nst) (rt_pv5 nst)) (cwV 3 hts (t_gV k_methodLink_rn_R_45_y_A_put k_instanceMethod_y_A_put k_selects_rn_A_y_A_put_y_A_put k_initialized_rn_A k_code_y_A_put_prog_3_method_3_code_4_none) rfl rfl rfl (by decide +kernel) ⟨Nat.le_of_ble_eq_true rfl, Nat.le_of_ble_eq_true rfl⟩) (va_recv hK hP (ci := 1) (q0 := 1) rfl rfl) hP hK hZ hS rfl hl.1 rfl (Nat.le_of_ble_eq_true rfl) d_R_platform_73 ⟨Nat.le_of_ble_eq_true rfl, Nat.le_of_ble_eq_true rfl⟩ (fun u_73 H locs hw hP hS => ?_)
      have hP : va_P D vwCl (xw cI a w h (va_up Q (6 * t + k) (1 + 4 * rt_g Q (6 * t + k) + 32 * (v + 1).toNatClampNeg)) ff hd bl rs hs ts rc hc tc) H := hP
      have hD : va_D (xA a) (xw cI a w h (va_up Q (6 * t + k) (1 + 4 * rt_g Q (6 * t + k) + 32 * (v + 1).toNatClampNeg)) ff hd bl rs hs ts rc hc tc) := x_D ha _ rfl
      refine lv_aload_n hx hb d_R_platform_76 rfl (lv_at hl 1 rfl) ?_
      refine va_get (D := D) (ci := 3) (v := .ref (a 4)) (C := rn_R) (T := tf_R) (N := 2) hx hb hts in_R hown hK hP 0 rfl rfl 1 (by decide) (hts _ k_fieldLink_rn_R_27_rn_R_search_LRouteTracks_Search) (fun _ h9 => h9) rfl d_R_platform_77 ?_
      refine w_cv (As := []) (rest := []) ⟨hx, hb, hml, hown, hts⟩ (c_S_forget l D cI cZ g a ha w h (va_up Q (6 * t + k) (1 + 4 * rt_g Q (6 * t + k) + 32 * (v + 1).toNatClampNeg)) ff hd bl rs hs ts rc hc tc  ) (cwV 0 hts (t_gV k_methodLink_rn_R_49_y_S_forget k_instanceMethod_y_S_forget k_selects_rn_S_y_S_forget_y_S_forget k_initialized_rn_S k_code_y_S_forget_prog_4_method_2_code_1_none) rfl rfl rfl (by decide +kernel) ⟨Nat.le_of_ble_eq_true rfl, Nat.le_of_ble_eq_true rfl⟩) (va_recv hK hP (ci := 2) (q0 := 4) rfl rfl) hP hK hZ hS rfl hl.1 rfl (Nat.le_of_ble_eq_true rfl) d_R_platform_80 ⟨Nat.le_of_ble_eq_true rfl, Nat.le_of_ble_eq_true rfl⟩ (fun u_80 H locs hw hP hS => ?_)
      have hP : va_P D vwCl (xw cI a w h (va_up Q (6 * t + k) (1 + 4 * rt_g Q (6 * t + k) + 32 * (v + 1).toNatClampNeg)) ff (-1) bl rs hs ts rc hc tc) H := hP
      have hD : va_D (xA a) (xw cI a w h (va_up Q (6 * t + k) (1 + 4 * rt_g Q (6 * t + k) + 32 * (v + 1).toNatClampNeg)) ff (-1) bl rs hs ts rc hc tc) := x_D ha _ rfl
      have e9 : rt_plt Q (w * h) (nI t) (nI k) v = (0, (va_up Q (6 * t + k) (1 + 4 * rt_g Q (6 * t + k) + 32 * (v + 1).toNatClampNeg))) := (rt_plt_s (by omega) ht hk).trans ((if_neg nst).trans (if_neg (by rintro (q | q); exact rt_rq_0 hk0_39 q; omega)))
      exact w_xret (-1) hx hb hr hlocks hS (by show va_P D vwCl (xw cI a w h ((rt_plt Q (w * h) (nI t) (nI k) v).2) ff (-1) bl rs hs ts rc hc tc) H; rw [e9]; exact hP) (by rw [e9]) (Or.inl rfl) d_R_platform_83 ⟨Nat.le_of_ble_eq_true rfl, Nat.le_of_ble_eq_true rfl⟩
    · have e9 : rt_plt Q (w * h) (nI t) (nI k) v = (2, Q) := (rt_plt_s (by omega) ht hk).trans ((if_neg nst).trans (if_pos (Or.inr (by omega))))
      have hP0 : va_P D vwCl (xw cI a w h ((rt_plt Q (w * h) (nI t) (nI k) v).2) ff hd bl rs hs ts rc hc tc) s.heap := by rw [e9]; exact hP0
      have hP : va_P D vwCl (xw cI a w h ((rt_plt Q (w * h) (nI t) (nI k) v).2) ff hd bl rs hs ts rc hc tc) H := by rw [e9]; exact hP
      exact w_xthL (text := "a curve has no station") hd hx hb htr hts hown hlocks hem hE (by decide +kernel) hP0 hP hS x_cov (hl.1.trans hml.symm) (by rw [e9]) (by rw [e9]; exact hk0) d_R_platform_47 d_R_platform_50 d_R_platform_51 d_R_platform_53 d_R_platform_56 ⟨Nat.le_of_ble_eq_true rfl, Nat.le_of_ble_eq_true rfl, Nat.le_of_ble_eq_true rfl, Nat.le_of_ble_eq_true rfl⟩ ⟨Nat.le_of_ble_eq_true rfl, Nat.le_of_ble_eq_true rfl⟩
  · refine lv_iload_n hx hb d_R_platform_11 rfl (lv_at hl 3 rfl) ?_
    refine w_si (As := [.int (v)]) (rest := []) ⟨hx, hb, hml, hown, hts⟩ (c_R_isStation l D cI cZ g a ha w h Q ff hd bl rs hs ts rc hc tc v hG) (va_cwS 1 hts (t_gS k_methodLink_rn_R_65_y_R_isStation k_static_y_R_isStation k_initialized_rn_R k_code_y_R_isStation_prog_1_method_17_code_1_some_boolean) rfl rfl rfl (by decide +kernel) ⟨Nat.le_of_ble_eq_true rfl, Nat.le_of_ble_eq_true rfl⟩) hP hK hZ hS rfl hl.1 rfl (Nat.le_of_ble_eq_true rfl) d_R_platform_12 ⟨Nat.le_of_ble_eq_true rfl, Nat.le_of_ble_eq_true rfl⟩ (fun r_12 u_12 H locs hw hP hS => ?_)
    subst hw
    have hP : va_P D vwCl (xw cI a w h Q ff hd bl rs hs ts rc hc tc) H := hP
    refine rw_bne (tgt := 28) hx hb d_R_platform_15 (by decide) (fun c_15 => ?_) (fun c_15 => ?_)
    · have nst : ¬ (v < -1 ∨ nI 7 < v) := by first | exact rt_pv1 c_8 | exact rt_pv2 c_15
      refine lv_bipush (v := (nI (6))) hx hb d_R_platform_28 (by decide) ?_
      refine lv_iload_n hx hb d_R_platform_30 rfl (lv_at hl 1 rfl) ?_
      refine rw_mul hx hb d_R_platform_31 ?_
      refine lv_iload_n hx hb d_R_platform_32 rfl (lv_at hl 2 rfl) ?_
      refine rw_add hx hb d_R_platform_33 ?_
      refine lv_istore (lv' := [(4, .int (nI ((6 * t) + k))), (0, .ref (a 0)), (1, .int (nI (t))), (2, .int (nI (k))), (3, .int (v))]) hx hb d_R_platform_34 hl (by decide) rfl (fun ls hl => ?_)
      refine lv_aload_n hx hb d_R_platform_36 rfl (lv_at hl 1 rfl) ?_
      refine lv_iload hx hb d_R_platform_37 (lv_at hl 0 rfl) ?_
      refine w_xv (As := [.int (nI ((6 * t) + k))]) (rest := []) ⟨hx, hb, hml, hown, hts⟩ (c_R_requireThere l hfl D cI cZ g a ha w h Q ff hd bl rs hs ts rc hc tc (6 * t + k) hG (by omega)) (cwV 1 hts (t_gV k_methodLink_rn_R_52_y_R_requireThere k_instanceMethod_y_R_requireThere k_selects_rn_R_y_R_requireThere_y_R_requireThere k_initialized_rn_R k_code_y_R_requireThere_prog_1_method_19_code_2_none) rfl rfl rfl (by decide +kernel) ⟨Nat.le_of_ble_eq_true rfl, Nat.le_of_ble_eq_true rfl⟩) (va_recv hK hP (ci := 3) (q0 := 0) rfl rfl) hP hK hZ hE hS rfl hl.1 rfl (Nat.le_of_ble_eq_true rfl) d_R_platform_39 ⟨Nat.le_of_ble_eq_true rfl, Nat.le_of_ble_eq_true rfl⟩ (fun hk0_39 u_39 H locs hw hP hS => ?_) (fun hk1_39 q ce u_39 H locs hq hns hcl hw hP hS => ?_)
      rotate_left
      · have e9 : rt_plt Q (w * h) (nI t) (nI k) v = (2, Q) := (rt_plt_s (by omega) ht hk).trans ((if_neg nst).trans (if_pos (Or.inl (rt_rq_1 hk1_39).2)))
        exact w_xlv hd hlocks hem hS (by show va_P D vwCl (xw cI a w h ((rt_plt Q (w * h) (nI t) (nI k) v).2) ff hd bl rs hs ts rc hc tc) H; rw [e9]; exact hP) (by rw [e9]; exact hk0) hk1_39 (by rw [e9]; exact (rt_rq_1 hk1_39).1.symm) hq hns hcl ⟨Nat.le_of_ble_eq_true rfl, Nat.le_of_ble_eq_true rfl⟩
      have hP : va_P D vwCl (xw cI a w h Q ff hd bl rs hs ts rc hc tc) H := hP
      refine lv_iload_n hx hb d_R_platform_42 rfl (lv_at hl 3 rfl) ?_
      refine lv_iconst (v := (nI (2))) hx hb d_R_platform_43 (by decide) ?_
      refine rw_clt (tgt := 57) hx hb d_R_platform_44 (by decide) (by omega) (by omega) (fun c_44 => ?_) (fun c_44 => ?_)
      · refine lv_aload_n hx hb d_R_platform_57 rfl (lv_at hl 1 rfl) ?_
        refine va_get (D := D) (ci := 3) (v := .ref (a 1)) (C := rn_R) (T := tf_R) (N := 2) hx hb hts in_R hown hK hP 0 rfl rfl 0 (by decide) (hts _ k_fieldLink_rn_R_18_rn_R_rails_LRouteTracks_Rails) (fun _ h9 => h9) rfl d_R_platform_58 ?_
        refine lv_iload hx hb d_R_platform_61 (lv_at hl 0 rfl) ?_
        refine lv_aload_n hx hb d_R_platform_63 rfl (lv_at hl 1 rfl) ?_
        refine va_get (D := D) (ci := 3) (v := .ref (a 1)) (C := rn_R) (T := tf_R) (N := 2) hx hb hts in_R hown hK hP 0 rfl rfl 0 (by decide) (hts _ k_fieldLink_rn_R_18_rn_R_rails_LRouteTracks_Rails) (fun _ h9 => h9) rfl d_R_platform_64 ?_
        refine lv_iload hx hb d_R_platform_67 (lv_at hl 0 rfl) ?_
        refine w_ci (As := [.int (nI ((6 * t) + k))]) (rest := [.int (nI ((6 * t) + k)), .ref (a 1)]) ⟨hx, hb, hml, hown, hts⟩ (c_A_signalOf l D cI cZ g a ha w h Q ff hd bl rs hs ts rc hc tc (6 * t + k) hG (by omega)) (cwV 1 hts (t_gV k_methodLink_rn_R_75_y_A_signalOf k_instanceMethod_y_A_signalOf k_selects_rn_A_y_A_signalOf_y_A_signalOf k_initialized_rn_A k_code_y_A_signalOf_prog_3_method_6_code_2_some_int) rfl rfl rfl (by decide +kernel) ⟨Nat.le_of_ble_eq_true rfl, Nat.le_of_ble_eq_true rfl⟩) (va_recv hK hP (ci := 1) (q0 := 1) rfl rfl) hP hK hZ hS rfl hl.1 rfl (Nat.le_of_ble_eq_true rfl) d_R_platform_69 ⟨Nat.le_of_ble_eq_true rfl, Nat.le_of_ble_eq_true rfl⟩ (fun r_69 u_69 H locs hw hP hS => ?_)
        subst hw
        have hP : va_P D vwCl (xw cI a w h Q ff hd bl rs hs ts rc hc tc) H := hP
        refine lv_iload_n hx hb d_R_platform_72 rfl (lv_at hl 4 rfl) ?_
        refine w_cv (As := [.int (nI ((6 * t) + k)), .int (nI (rt_g Q (6 * t + k))), .int (v)]) (rest := []) ⟨hx, hb, hml, hown, hts⟩ (c_A_put l D cI cZ g a ha w h Q ff hd bl rs hs ts rc hc tc (6 * t + k) (rt_g Q (6 * t + k)) (v + 1).toNatClampNeg v hG (by omega) (rt_ok_g hG.2.2 _) (rt_pv4 nst) (rt_pv5 nst)) (cwV 3 hts (t_gV k_methodLink_rn_R_45_y_A_put k_instanceMethod_y_A_put k_selects_rn_A_y_A_put_y_A_put k_initialized_rn_A k_code_y_A_put_prog_3_method_3_code_4_none) rfl rfl rfl (by decide +kernel) ⟨Nat.le_of_ble_eq_true rfl, Nat.le_of_ble_eq_true rfl⟩) (va_recv hK hP (ci := 1) (q0 := 1) rfl rfl) hP hK hZ hS rfl hl.1 rfl (Nat.le_of_ble_eq_true rfl) d_R_platform_73 ⟨Nat.le_of_ble_eq_true rfl, Nat.le_of_ble_eq_true rfl⟩ (fun u_73 H locs hw hP hS => ?_)
        have hP : va_P D vwCl (xw cI a w h (va_up Q (6 * t + k) (1 + 4 * rt_g Q (6 * t + k) + 32 * (v + 1).toNatClampNeg)) ff hd bl rs hs ts rc hc tc) H := hP
        have hD : va_D (xA a) (xw cI a w h (va_up Q (6 * t + k) (1 + 4 * rt_g Q (6 * t + k) + 32 * (v + 1).toNatClampNeg)) ff hd bl rs hs ts rc hc tc) := x_D ha _ rfl
        refine lv_aload_n hx hb d_R_platform_76 rfl (lv_at hl 1 rfl) ?_
        refine va_get (D := D) (ci := 3) (v := .ref (a 4)) (C := rn_R) (T := tf_R) (N := 2) hx hb hts in_R hown hK hP 0 rfl rfl 1 (by decide) (hts _ k_fieldLink_rn_R_27_rn_R_search_LRouteTracks_Search) (fun _ h9 => h9) rfl d_R_platform_77 ?_
        refine w_cv (As := []) (rest := []) ⟨hx, hb, hml, hown, hts⟩ (c_S_forget l D cI cZ g a ha w h (va_up Q (6 * t + k) (1 + 4 * rt_g Q (6 * t + k) + 32 * (v + 1).toNatClampNeg)) ff hd bl rs hs ts rc hc tc  ) (cwV 0 hts (t_gV k_methodLink_rn_R_49_y_S_forget k_instanceMethod_y_S_forget k_selects_rn_S_y_S_forget_y_S_forget k_initialized_rn_S k_code_y_S_forget_prog_4_method_2_code_1_none) rfl rfl rfl (by decide +kernel) ⟨Nat.le_of_ble_eq_true rfl, Nat.le_of_ble_eq_true rfl⟩) (va_recv hK hP (ci := 2) (q0 := 4) rfl rfl) hP hK hZ hS rfl hl.1 rfl (Nat.le_of_ble_eq_true rfl) d_R_platform_80 ⟨Nat.le_of_ble_eq_true rfl, Nat.le_of_ble_eq_true rfl⟩ (fun u_80 H locs hw hP hS => ?_)
        have hP : va_P D vwCl (xw cI a w h (va_up Q (6 * t + k) (1 + 4 * rt_g Q (6 * t + k) + 32 * (v + 1).toNatClampNeg)) ff (-1) bl rs hs ts rc hc tc) H := hP
        have hD : va_D (xA a) (xw cI a w h (va_up Q (6 * t + k) (1 + 4 * rt_g Q (6 * t + k) + 32 * (v + 1).toNatClampNeg)) ff (-1) bl rs hs ts rc hc tc) := x_D ha _ rfl
        have e9 : rt_plt Q (w * h) (nI t) (nI k) v = (0, (va_up Q (6 * t + k) (1 + 4 * rt_g Q (6 * t + k) + 32 * (v + 1).toNatClampNeg))) := (rt_plt_s (by omega) ht hk).trans ((if_neg nst).trans (if_neg (by rintro (q | q); exact rt_rq_0 hk0_39 q; omega)))
        exact w_xret (-1) hx hb hr hlocks hS (by show va_P D vwCl (xw cI a w h ((rt_plt Q (w * h) (nI t) (nI k) v).2) ff (-1) bl rs hs ts rc hc tc) H; rw [e9]; exact hP) (by rw [e9]) (Or.inl rfl) d_R_platform_83 ⟨Nat.le_of_ble_eq_true rfl, Nat.le_of_ble_eq_true rfl⟩
      · have e9 : rt_plt Q (w * h) (nI t) (nI k) v = (2, Q) := (rt_plt_s (by omega) ht hk).trans ((if_neg nst).trans (if_pos (Or.inr (by omega))))
        have hP0 : va_P D vwCl (xw cI a w h ((rt_plt Q (w * h) (nI t) (nI k) v).2) ff hd bl rs hs ts rc hc tc) s.heap := by rw [e9]; exact hP0
        have hP : va_P D vwCl (xw cI a w h ((rt_plt Q (w * h) (nI t) (nI k) v).2) ff hd bl rs hs ts rc hc tc) H := by rw [e9]; exact hP
        exact w_xthL (text := "a curve has no station") hd hx hb htr hts hown hlocks hem hE (by decide +kernel) hP0 hP hS x_cov (hl.1.trans hml.symm) (by rw [e9]) (by rw [e9]; exact hk0) d_R_platform_47 d_R_platform_50 d_R_platform_51 d_R_platform_53 d_R_platform_56 ⟨Nat.le_of_ble_eq_true rfl, Nat.le_of_ble_eq_true rfl, Nat.le_of_ble_eq_true rfl, Nat.le_of_ble_eq_true rfl⟩ ⟨Nat.le_of_ble_eq_true rfl, Nat.le_of_ble_eq_true rfl⟩
    · have e9 : rt_plt Q (w * h) (nI t) (nI k) v = (1, Q) := (rt_plt_s (by omega) ht hk).trans (if_pos (rt_pv3 c_8 c_15))
      have hP0 : va_P D vwCl (xw cI a w h ((rt_plt Q (w * h) (nI t) (nI k) v).2) ff hd bl rs hs ts rc hc tc) s.heap := by rw [e9]; exact hP0
      have hP : va_P D vwCl (xw cI a w h ((rt_plt Q (w * h) (nI t) (nI k) v).2) ff hd bl rs hs ts rc hc tc) H := by rw [e9]; exact hP
      exact w_xthI (text := "no such station") hd hx hb htr hts hown hlocks hem hE (by decide +kernel) hP0 hP hS x_cov (hl.1.trans hml.symm) (by rw [e9]) (by rw [e9]; exact hk0) d_R_platform_18 d_R_platform_21 d_R_platform_22 d_R_platform_24 d_R_platform_27 ⟨Nat.le_of_ble_eq_true rfl, Nat.le_of_ble_eq_true rfl, Nat.le_of_ble_eq_true rfl, Nat.le_of_ble_eq_true rfl⟩ ⟨Nat.le_of_ble_eq_true rfl, Nat.le_of_ble_eq_true rfl⟩
