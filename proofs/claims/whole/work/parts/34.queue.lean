/-! Queue: by program (wip/whole/gen/queue.py) -/
set_option maxHeartbeats 4000000 in
set_option maxRecDepth 100000 in
theorem c_Q_clear_s (l : Launch) (D : va_G) (cI cZ : ClassId) (g a : Nat → Nat) (ha : xI a) (w h : Nat) (Q : Nat → Nat) (ff : Nat → Int32) (hd bl : Int32) (rs : Nat → Int32) (hs ts : Int32) (rc : Nat → Int32) (hc tc : Int32)  (hG : rt_G w h Q) : Met l y_Q_clear (.code y_Q_clear b_Q_clear 1 none :: tG) ({ frames := 0, cells := 0, slots := 0, locals := 0 }) (va_Pc [.ref (a 6)] (wU D cI cZ g (xA a) (xw cI a w h Q ff hd bl rs hs ts rc hc tc))) (va_Qv (S := Unit) (fun _ => True) (wB D (fun (u : Unit) => (xw cI a w h Q ff hd bl rs (nI (0)) (nI (0)) rc hc tc))) (xA a)) 0 0 (xA a) := by
  refine Met.ofW (cc := b_Q_clear) (maxL := 1) (ret := none) (by decide) rfl ?_
  intro p e s m args below meth c s₁ BD9 hml hv
  obtain ⟨rfl, hP, hK, hZ⟩ := hv
  have hx := BD9.exec
  have hb := BD9.bytes
  have hr := BD9.returns
  have hts : ∀ w ∈ tG, w.before _ s = true := fun w hw => atoms_spec (ws := .code y_Q_clear b_Q_clear 1 none :: tG) BD9.pre w (List.mem_cons_of_mem _ hw)
  have hown : s.vm.findClass rn_Q = some m.cls := findClass_of_methodNamed BD9.named
  have hlocks := BD9.notSynchronized
  have hS : va_S (xA a) s.heap s.heap [] := va_S.rf
  have hD : va_D (xA a) (xw cI a w h Q ff hd bl rs hs ts rc hc tc) := x_D ha _ rfl
  have hP : va_P D vwCl (xw cI a w h Q ff hd bl rs hs ts rc hc tc) s.heap := hP
  have hl := lv_entry ([.ref (a 6)]) (n := 1) (Nat.le_of_ble_eq_true rfl)
  rw [lg_entry_eq]
  generalize (lg_sl ([.ref (a 6)]) ++ List.replicate (1 - (lg_sl ([.ref (a 6)])).length) Slot.unset).toArray = ls at hl ⊢
  have hl : lv_has ls 1 [(0, .ref (a 6))] := hl
  obtain ⟨hn1, hn⟩ := hG.n
  refine lv_aload_n hx hb d_Q_clear_0 rfl (lv_at hl 0 rfl) ?_
  refine lv_iconst (v := (nI (0))) hx hb d_Q_clear_1 (by decide) ?_
  refine va_put (D := D) (ci := 0) (v := .int (nI (0))) (ty := .int) (C := rn_Q) (T := tf_Q) (N := 3) hx hb hts in_Q tt_Q tt_Q_ok nm_Q hown hK hP hD hS 6 rfl rfl 1 (by decide) (hts _ k_fieldLink_rn_Q_21_rn_Q_head_I) (fun _ h9 => h9) rfl (by decide +kernel) rfl rfl (Nat.le_of_ble_eq_true rfl) d_Q_clear_2 (fun H locs hP hD hS => ?_)
  have hP : va_P D vwCl (xw cI a w h Q ff hd bl rs (nI (0)) ts rc hc tc) H := hP
  have hD : va_D (xA a) (xw cI a w h Q ff hd bl rs (nI (0)) ts rc hc tc) := x_D ha _ rfl
  refine lv_aload_n hx hb d_Q_clear_5 rfl (lv_at hl 0 rfl) ?_
  refine lv_iconst (v := (nI (0))) hx hb d_Q_clear_6 (by decide) ?_
  refine va_put (D := D) (ci := 0) (v := .int (nI (0))) (ty := .int) (C := rn_Q) (T := tf_Q) (N := 3) hx hb hts in_Q tt_Q tt_Q_ok nm_Q hown hK hP hD hS 6 rfl rfl 2 (by decide) (hts _ k_fieldLink_rn_Q_25_rn_Q_tail_I) (fun _ h9 => h9) rfl (by decide +kernel) rfl rfl (Nat.le_of_ble_eq_true rfl) d_Q_clear_7 (fun H locs hP hD hS => ?_)
  have hP : va_P D vwCl (xw cI a w h Q ff hd bl rs (nI (0)) (nI (0)) rc hc tc) H := hP
  have hD : va_D (xA a) (xw cI a w h Q ff hd bl rs (nI (0)) (nI (0)) rc hc tc) := x_D ha _ rfl
  exact w_vret () hx hb hr hlocks hS hP (trivial) d_Q_clear_10

set_option maxHeartbeats 4000000 in
set_option maxRecDepth 100000 in
theorem c_Q_isEmpty_s (l : Launch) (D : va_G) (cI cZ : ClassId) (g a : Nat → Nat) (ha : xI a) (w h : Nat) (Q : Nat → Nat) (ff : Nat → Int32) (hd bl : Int32) (rs : Nat → Int32) (hs ts : Int32) (rc : Nat → Int32) (hc tc : Int32) (R : Nat → Nat) (x y : Nat) (hG : rt_G w h Q) (hx0 : x < 2 ^ 31) (hy0 : y < 2 ^ 31) : Met l y_Q_isEmpty (.code y_Q_isEmpty b_Q_isEmpty 1 (some .boolean) :: tG) ({ frames := 0, cells := 0, slots := 0, locals := 0 }) (va_Pc [.ref (a 6)] (wU D cI cZ g (xA a) (xw cI a w h Q ff hd bl (fun j => nI (R j)) (nI (x)) (nI (y)) rc hc tc))) (va_Qi (S := Unit) (fun r _ => r = rt_b (decide (y ≤ x))) (wB D (fun (u : Unit) => (xw cI a w h Q ff hd bl (fun j => nI (R j)) (nI (x)) (nI (y)) rc hc tc))) (xA a)) 0 0 (xA a) := by
  refine Met.ofW (cc := b_Q_isEmpty) (maxL := 1) (ret := (some .boolean)) (by decide) rfl ?_
  intro p e s m args below meth c s₁ BD9 hml hv
  obtain ⟨rfl, hP, hK, hZ⟩ := hv
  have hx := BD9.exec
  have hb := BD9.bytes
  have hr := BD9.returns
  have hts : ∀ w ∈ tG, w.before _ s = true := fun w hw => atoms_spec (ws := .code y_Q_isEmpty b_Q_isEmpty 1 (some .boolean) :: tG) BD9.pre w (List.mem_cons_of_mem _ hw)
  have hown : s.vm.findClass rn_Q = some m.cls := findClass_of_methodNamed BD9.named
  have hlocks := BD9.notSynchronized
  have hS : va_S (xA a) s.heap s.heap [] := va_S.rf
  have hD : va_D (xA a) (xw cI a w h Q ff hd bl (fun j => nI (R j)) (nI (x)) (nI (y)) rc hc tc) := x_D ha _ rfl
  have hP : va_P D vwCl (xw cI a w h Q ff hd bl (fun j => nI (R j)) (nI (x)) (nI (y)) rc hc tc) s.heap := hP
  have hl := lv_entry ([.ref (a 6)]) (n := 1) (Nat.le_of_ble_eq_true rfl)
  rw [lg_entry_eq]
  generalize (lg_sl ([.ref (a 6)]) ++ List.replicate (1 - (lg_sl ([.ref (a 6)])).length) Slot.unset).toArray = ls at hl ⊢
  have hl : lv_has ls 1 [(0, .ref (a 6))] := hl
  obtain ⟨hn1, hn⟩ := hG.n
  refine lv_aload_n hx hb d_Q_isEmpty_0 rfl (lv_at hl 0 rfl) ?_
  refine va_get (D := D) (ci := 0) (v := .int ((nI (x)))) (C := rn_Q) (T := tf_Q) (N := 3) hx hb hts in_Q hown hK hP 6 rfl rfl 1 (by decide) (hts _ k_fieldLink_rn_Q_21_rn_Q_head_I) (fun _ h9 => h9) rfl d_Q_isEmpty_1 ?_
  refine lv_aload_n hx hb d_Q_isEmpty_4 rfl (lv_at hl 0 rfl) ?_
  refine va_get (D := D) (ci := 0) (v := .int ((nI (y)))) (C := rn_Q) (T := tf_Q) (N := 3) hx hb hts in_Q hown hK hP 6 rfl rfl 2 (by decide) (hts _ k_fieldLink_rn_Q_25_rn_Q_tail_I) (fun _ h9 => h9) rfl d_Q_isEmpty_5 ?_
  refine rw_clt (tgt := 15) hx hb d_Q_isEmpty_8 (by decide) hx0 hy0 (fun c_8 => ?_) (fun c_8 => ?_)
  · refine lv_iconst (v := (nI (0))) hx hb d_Q_isEmpty_15 (by decide) ?_
    exact w_zret (v := false) () hx hb hr hlocks hS hP (congrArg rt_b (by simp; omega)) d_Q_isEmpty_16
  · refine lv_iconst (v := (nI (1))) hx hb d_Q_isEmpty_11 (by decide) ?_
    refine lv_goto (tgt := 16) hx hb d_Q_isEmpty_12 (by decide) ?_
    exact w_zret (v := true) () hx hb hr hlocks hS hP (congrArg rt_b (by simp; omega)) d_Q_isEmpty_16

set_option maxHeartbeats 4000000 in
set_option maxRecDepth 100000 in
theorem c_Q_add_s (l : Launch) (D : va_G) (cI cZ : ClassId) (g a : Nat → Nat) (ha : xI a) (w h : Nat) (Q : Nat → Nat) (ff : Nat → Int32) (hd bl : Int32) (rs : Nat → Int32) (hs ts : Int32) (rc : Nat → Int32) (hc tc : Int32) (R : Nat → Nat) (x y : Nat) (k : Nat) (hG : rt_G w h Q) (hy0 : y < 4 * (w * h)) : Met l y_Q_add (.code y_Q_add b_Q_add 2 none :: tG) ({ frames := 0, cells := 0, slots := 0, locals := 0 }) (va_Pc [.ref (a 6), .int (nI (k))] (wU D cI cZ g (xA a) (xw cI a w h Q ff hd bl (fun j => nI (R j)) (nI (x)) (nI (y)) rc hc tc))) (va_Qv (S := Unit) (fun _ => True) (wB D (fun (u : Unit) => (xw cI a w h Q ff hd bl (fun j => nI (va_up R y k j)) (nI (x)) (nI (y + 1)) rc hc tc))) (xA a)) 0 0 (xA a) := by
  refine Met.ofW (cc := b_Q_add) (maxL := 2) (ret := none) (by decide) rfl ?_
  intro p e s m args below meth c s₁ BD9 hml hv
  obtain ⟨rfl, hP, hK, hZ⟩ := hv
  have hx := BD9.exec
  have hb := BD9.bytes
  have hr := BD9.returns
  have hts : ∀ w ∈ tG, w.before _ s = true := fun w hw => atoms_spec (ws := .code y_Q_add b_Q_add 2 none :: tG) BD9.pre w (List.mem_cons_of_mem _ hw)
  have hown : s.vm.findClass rn_Q = some m.cls := findClass_of_methodNamed BD9.named
  have hlocks := BD9.notSynchronized
  have hS : va_S (xA a) s.heap s.heap [] := va_S.rf
  have hD : va_D (xA a) (xw cI a w h Q ff hd bl (fun j => nI (R j)) (nI (x)) (nI (y)) rc hc tc) := x_D ha _ rfl
  have hP : va_P D vwCl (xw cI a w h Q ff hd bl (fun j => nI (R j)) (nI (x)) (nI (y)) rc hc tc) s.heap := hP
  have hl := lv_entry ([.ref (a 6), .int (nI (k))]) (n := 2) (Nat.le_of_ble_eq_true rfl)
  rw [lg_entry_eq]
  generalize (lg_sl ([.ref (a 6), .int (nI (k))]) ++ List.replicate (2 - (lg_sl ([.ref (a 6), .int (nI (k))])).length) Slot.unset).toArray = ls at hl ⊢
  have hl : lv_has ls 2 [(0, .ref (a 6)), (1, .int (nI (k)))] := hl
  obtain ⟨hn1, hn⟩ := hG.n
  refine lv_aload_n hx hb d_Q_add_0 rfl (lv_at hl 0 rfl) ?_
  refine va_get (D := D) (ci := 0) (v := .int ((nI (y)))) (C := rn_Q) (T := tf_Q) (N := 3) hx hb hts in_Q hown hK hP 6 rfl rfl 2 (by decide) (hts _ k_fieldLink_rn_Q_25_rn_Q_tail_I) (fun _ h9 => h9) rfl d_Q_add_1 ?_
  refine lv_aload_n hx hb d_Q_add_4 rfl (lv_at hl 0 rfl) ?_
  refine va_get (D := D) (ci := 0) (v := .ref (a 7)) (C := rn_Q) (T := tf_Q) (N := 3) hx hb hts in_Q hown hK hP 6 rfl rfl 0 (by decide) (hts _ k_fieldLink_rn_Q_15_rn_Q_row_I) (fun _ h9 => h9) rfl d_Q_add_5 ?_
  refine va_alen (v := nI (4 * (w * h))) hx hb hK hP 7 0 rfl rfl rfl d_Q_add_8 ?_
  refine rw_cge (tgt := 32) hx hb d_Q_add_9 (by decide) (by omega) (by omega) (fun c_9 => ?_) (fun c_9 => ?_)
  · omega
  · refine lv_aload_n hx hb d_Q_add_12 rfl (lv_at hl 0 rfl) ?_
    refine va_get (D := D) (ci := 0) (v := .ref (a 7)) (C := rn_Q) (T := tf_Q) (N := 3) hx hb hts in_Q hown hK hP 6 rfl rfl 0 (by decide) (hts _ k_fieldLink_rn_Q_15_rn_Q_row_I) (fun _ h9 => h9) rfl d_Q_add_13 ?_
    refine lv_aload_n hx hb d_Q_add_16 rfl (lv_at hl 0 rfl) ?_
    refine va_get (D := D) (ci := 0) (v := .int ((nI (y)))) (C := rn_Q) (T := tf_Q) (N := 3) hx hb hts in_Q hown hK hP 6 rfl rfl 2 (by decide) (hts _ k_fieldLink_rn_Q_25_rn_Q_tail_I) (fun _ h9 => h9) rfl d_Q_add_17 ?_
    refine lv_iload_n hx hb d_Q_add_20 rfl (lv_at hl 1 rfl) ?_
    refine rw_iast (h := (fun j => nI (va_up R y k j))) hx hb hK hP hD hS 7 0 rfl rfl (by omega) (by omega) (fun j _ => rt_upd R y k j) d_Q_add_21 (fun H locs hP hD hS => ?_)
    have hP : va_P D vwCl (xw cI a w h Q ff hd bl (fun j => nI (va_up R y k j)) (nI (x)) (nI (y)) rc hc tc) H := hP
    have hD : va_D (xA a) (xw cI a w h Q ff hd bl (fun j => nI (va_up R y k j)) (nI (x)) (nI (y)) rc hc tc) := x_D ha _ rfl
    refine lv_aload_n hx hb d_Q_add_22 rfl (lv_at hl 0 rfl) ?_
    refine lv_dup hx hb d_Q_add_23 rfl ?_
    refine va_get (D := D) (ci := 0) (v := .int ((nI (y)))) (C := rn_Q) (T := tf_Q) (N := 3) hx hb hts in_Q hown hK hP 6 rfl rfl 2 (by decide) (hts _ k_fieldLink_rn_Q_25_rn_Q_tail_I) (fun _ h9 => h9) rfl d_Q_add_24 ?_
    refine lv_iconst (v := (nI (1))) hx hb d_Q_add_27 (by decide) ?_
    refine lv_iadd hx hb d_Q_add_28 ?_
    refine rw_topI (b := (nI (y + 1))) (nI_add y 1) ?_
    refine va_put (D := D) (ci := 0) (v := .int (nI (y + 1))) (ty := .int) (C := rn_Q) (T := tf_Q) (N := 3) hx hb hts in_Q tt_Q tt_Q_ok nm_Q hown hK hP hD hS 6 rfl rfl 2 (by decide) (hts _ k_fieldLink_rn_Q_25_rn_Q_tail_I) (fun _ h9 => h9) rfl (by decide +kernel) rfl rfl (Nat.le_of_ble_eq_true rfl) d_Q_add_29 (fun H locs hP hD hS => ?_)
    have hP : va_P D vwCl (xw cI a w h Q ff hd bl (fun j => nI (va_up R y k j)) (nI (x)) (nI (y + 1)) rc hc tc) H := hP
    have hD : va_D (xA a) (xw cI a w h Q ff hd bl (fun j => nI (va_up R y k j)) (nI (x)) (nI (y + 1)) rc hc tc) := x_D ha _ rfl
    exact w_vret () hx hb hr hlocks hS hP (trivial) d_Q_add_32

set_option maxHeartbeats 4000000 in
set_option maxRecDepth 100000 in
theorem c_Q_first_s (l : Launch) (D : va_G) (cI cZ : ClassId) (g a : Nat → Nat) (ha : xI a) (w h : Nat) (Q : Nat → Nat) (ff : Nat → Int32) (hd bl : Int32) (rs : Nat → Int32) (hs ts : Int32) (rc : Nat → Int32) (hc tc : Int32) (R : Nat → Nat) (x y : Nat) (hG : rt_G w h Q) (hx0 : x < 2 ^ 31) (hy0 : y ≤ 4 * (w * h)) : Met l y_Q_first (.code y_Q_first b_Q_first 1 (some .int) :: tG) ({ frames := 1, cells := 0, slots := 0, locals := 20 }) (va_Pc [.ref (a 6)] (wU D cI cZ g (xA a) (xw cI a w h Q ff hd bl (fun j => nI (R j)) (nI (x)) (nI (y)) rc hc tc))) (va_Qi (S := Unit) (fun r _ => r = rt_o (if x < y then some (R x) else none)) (wB D (fun (u : Unit) => (xw cI a w h Q ff hd bl (fun j => nI (R j)) (nI (x)) (nI (y)) rc hc tc))) (xA a)) 0 0 (xA a) := by
  refine Met.ofW (cc := b_Q_first) (maxL := 1) (ret := (some .int)) (by decide) rfl ?_
  intro p e s m args below meth c s₁ BD9 hml hv
  obtain ⟨rfl, hP, hK, hZ⟩ := hv
  have hx := BD9.exec
  have hb := BD9.bytes
  have hr := BD9.returns
  have hts : ∀ w ∈ tG, w.before _ s = true := fun w hw => atoms_spec (ws := .code y_Q_first b_Q_first 1 (some .int) :: tG) BD9.pre w (List.mem_cons_of_mem _ hw)
  have hown : s.vm.findClass rn_Q = some m.cls := findClass_of_methodNamed BD9.named
  have hlocks := BD9.notSynchronized
  have hS : va_S (xA a) s.heap s.heap [] := va_S.rf
  have hD : va_D (xA a) (xw cI a w h Q ff hd bl (fun j => nI (R j)) (nI (x)) (nI (y)) rc hc tc) := x_D ha _ rfl
  have hP : va_P D vwCl (xw cI a w h Q ff hd bl (fun j => nI (R j)) (nI (x)) (nI (y)) rc hc tc) s.heap := hP
  have hl := lv_entry ([.ref (a 6)]) (n := 1) (Nat.le_of_ble_eq_true rfl)
  rw [lg_entry_eq]
  generalize (lg_sl ([.ref (a 6)]) ++ List.replicate (1 - (lg_sl ([.ref (a 6)])).length) Slot.unset).toArray = ls at hl ⊢
  have hl : lv_has ls 1 [(0, .ref (a 6))] := hl
  obtain ⟨hn1, hn⟩ := hG.n
  refine lv_aload_n hx hb d_Q_first_0 rfl (lv_at hl 0 rfl) ?_
  refine w_ci (As := []) (rest := []) ⟨hx, hb, hml, hown, hts⟩ (c_Q_isEmpty_s l D cI cZ g a ha w h Q ff hd bl (fun j => nI (R j)) (nI (x)) (nI (y)) rc hc tc R x y hG hx0 (by omega)) (cwV 0 hts (t_gV k_methodLink_rn_Q_28_y_Q_isEmpty k_instanceMethod_y_Q_isEmpty k_selects_rn_Q_y_Q_isEmpty_y_Q_isEmpty k_initialized_rn_Q k_code_y_Q_isEmpty_prog_2_method_3_code_1_some_boolean) rfl rfl rfl (by decide +kernel) ⟨Nat.le_of_ble_eq_true rfl, Nat.le_of_ble_eq_true rfl⟩) (va_recv hK hP (ci := 0) (q0 := 6) rfl rfl) hP hK hZ hS rfl hl.1 rfl (Nat.le_of_ble_eq_true rfl) d_Q_first_1 ⟨Nat.zero_le _, Nat.zero_le _⟩ (fun r_1 u_1 H locs hw hP hS => ?_)
  subst hw
  have hP : va_P D vwCl (xw cI a w h Q ff hd bl (fun j => nI (R j)) (nI (x)) (nI (y)) rc hc tc) H := hP
  refine rw_beq (tgt := 11) hx hb d_Q_first_4 (by decide) (fun c_4 => ?_) (fun c_4 => ?_)
  · refine lv_aload_n hx hb d_Q_first_11 rfl (lv_at hl 0 rfl) ?_
    refine va_get (D := D) (ci := 0) (v := .ref (a 7)) (C := rn_Q) (T := tf_Q) (N := 3) hx hb hts in_Q hown hK hP 6 rfl rfl 0 (by decide) (hts _ k_fieldLink_rn_Q_15_rn_Q_row_I) (fun _ h9 => h9) rfl d_Q_first_12 ?_
    refine lv_aload_n hx hb d_Q_first_15 rfl (lv_at hl 0 rfl) ?_
    refine va_get (D := D) (ci := 0) (v := .int ((nI (x)))) (C := rn_Q) (T := tf_Q) (N := 3) hx hb hts in_Q hown hK hP 6 rfl rfl 1 (by decide) (hts _ k_fieldLink_rn_Q_21_rn_Q_head_I) (fun _ h9 => h9) rfl d_Q_first_16 ?_
    refine rw_topI (b := (nI (x))) (rfl) ?_
    refine rw_iald (v := (nI (R x))) hx hb hK hP 7 0 rfl rfl (by have := of_decide_eq_false c_4; omega) (by omega) (rfl) d_Q_first_19 ?_
    exact w_iret () hx hb hr hlocks hS hP (by rw [if_pos (by have := of_decide_eq_false c_4; omega)]; rfl) d_Q_first_20
  · refine lv_iconst (v := (-1)) hx hb d_Q_first_7 (by decide) ?_
    refine lv_goto (tgt := 20) hx hb d_Q_first_8 (by decide) ?_
    exact w_iret () hx hb hr hlocks hS hP (by rw [if_neg (by have := of_decide_eq_true c_4; omega)]; rfl) d_Q_first_20

set_option maxHeartbeats 4000000 in
set_option maxRecDepth 100000 in
theorem c_Q_take_s (l : Launch) (D : va_G) (cI cZ : ClassId) (g a : Nat → Nat) (ha : xI a) (w h : Nat) (Q : Nat → Nat) (ff : Nat → Int32) (hd bl : Int32) (rs : Nat → Int32) (hs ts : Int32) (rc : Nat → Int32) (hc tc : Int32) (R : Nat → Nat) (x y : Nat) (hG : rt_G w h Q) (hx0 : x < 2 ^ 31) (hy0 : y ≤ 4 * (w * h)) : Met l y_Q_take (.code y_Q_take b_Q_take 2 (some .int) :: tG) ({ frames := 1, cells := 0, slots := 0, locals := 20 }) (va_Pc [.ref (a 6)] (wU D cI cZ g (xA a) (xw cI a w h Q ff hd bl (fun j => nI (R j)) (nI (x)) (nI (y)) rc hc tc))) (va_Qi (S := Nat) (fun r u => r = rt_o (if x < y then some (R x) else none) ∧ u = if x < y then x + 1 else x) (wB D (fun (u : Nat) => (xw cI a w h Q ff hd bl (fun j => nI (R j)) (nI (u)) (nI (y)) rc hc tc))) (xA a)) 0 0 (xA a) := by
  refine Met.ofW (cc := b_Q_take) (maxL := 2) (ret := (some .int)) (by decide) rfl ?_
  intro p e s m args below meth c s₁ BD9 hml hv
  obtain ⟨rfl, hP, hK, hZ⟩ := hv
  have hx := BD9.exec
  have hb := BD9.bytes
  have hr := BD9.returns
  have hts : ∀ w ∈ tG, w.before _ s = true := fun w hw => atoms_spec (ws := .code y_Q_take b_Q_take 2 (some .int) :: tG) BD9.pre w (List.mem_cons_of_mem _ hw)
  have hown : s.vm.findClass rn_Q = some m.cls := findClass_of_methodNamed BD9.named
  have hlocks := BD9.notSynchronized
  have hS : va_S (xA a) s.heap s.heap [] := va_S.rf
  have hD : va_D (xA a) (xw cI a w h Q ff hd bl (fun j => nI (R j)) (nI (x)) (nI (y)) rc hc tc) := x_D ha _ rfl
  have hP : va_P D vwCl (xw cI a w h Q ff hd bl (fun j => nI (R j)) (nI (x)) (nI (y)) rc hc tc) s.heap := hP
  have hl := lv_entry ([.ref (a 6)]) (n := 2) (Nat.le_of_ble_eq_true rfl)
  rw [lg_entry_eq]
  generalize (lg_sl ([.ref (a 6)]) ++ List.replicate (2 - (lg_sl ([.ref (a 6)])).length) Slot.unset).toArray = ls at hl ⊢
  have hl : lv_has ls 2 [(0, .ref (a 6))] := hl
  obtain ⟨hn1, hn⟩ := hG.n
  refine lv_aload_n hx hb d_Q_take_0 rfl (lv_at hl 0 rfl) ?_
  refine w_ci (As := []) (rest := []) ⟨hx, hb, hml, hown, hts⟩ (c_Q_isEmpty_s l D cI cZ g a ha w h Q ff hd bl (fun j => nI (R j)) (nI (x)) (nI (y)) rc hc tc R x y hG hx0 (by omega)) (cwV 0 hts (t_gV k_methodLink_rn_Q_28_y_Q_isEmpty k_instanceMethod_y_Q_isEmpty k_selects_rn_Q_y_Q_isEmpty_y_Q_isEmpty k_initialized_rn_Q k_code_y_Q_isEmpty_prog_2_method_3_code_1_some_boolean) rfl rfl rfl (by decide +kernel) ⟨Nat.le_of_ble_eq_true rfl, Nat.le_of_ble_eq_true rfl⟩) (va_recv hK hP (ci := 0) (q0 := 6) rfl rfl) hP hK hZ hS rfl hl.1 rfl (Nat.le_of_ble_eq_true rfl) d_Q_take_1 ⟨Nat.zero_le _, Nat.zero_le _⟩ (fun r_1 u_1 H locs hw hP hS => ?_)
  subst hw
  have hP : va_P D vwCl (xw cI a w h Q ff hd bl (fun j => nI (R j)) (nI (x)) (nI (y)) rc hc tc) H := hP
  refine rw_beq (tgt := 9) hx hb d_Q_take_4 (by decide) (fun c_4 => ?_) (fun c_4 => ?_)
  · refine lv_aload_n hx hb d_Q_take_9 rfl (lv_at hl 0 rfl) ?_
    refine va_get (D := D) (ci := 0) (v := .ref (a 7)) (C := rn_Q) (T := tf_Q) (N := 3) hx hb hts in_Q hown hK hP 6 rfl rfl 0 (by decide) (hts _ k_fieldLink_rn_Q_15_rn_Q_row_I) (fun _ h9 => h9) rfl d_Q_take_10 ?_
    refine lv_aload_n hx hb d_Q_take_13 rfl (lv_at hl 0 rfl) ?_
    refine va_get (D := D) (ci := 0) (v := .int ((nI (x)))) (C := rn_Q) (T := tf_Q) (N := 3) hx hb hts in_Q hown hK hP 6 rfl rfl 1 (by decide) (hts _ k_fieldLink_rn_Q_21_rn_Q_head_I) (fun _ h9 => h9) rfl d_Q_take_14 ?_
    refine rw_topI (b := (nI (x))) (rfl) ?_
    refine rw_iald (v := (nI (R x))) hx hb hK hP 7 0 rfl rfl (by have := of_decide_eq_false c_4; omega) (by omega) (rfl) d_Q_take_17 ?_
    refine lv_istore_n (lv' := [(1, .int (nI (R x))), (0, .ref (a 6))]) hx hb d_Q_take_18 rfl hl (by decide) rfl (fun ls hl => ?_)
    refine lv_aload_n hx hb d_Q_take_19 rfl (lv_at hl 1 rfl) ?_
    refine lv_dup hx hb d_Q_take_20 rfl ?_
    refine va_get (D := D) (ci := 0) (v := .int ((nI (x)))) (C := rn_Q) (T := tf_Q) (N := 3) hx hb hts in_Q hown hK hP 6 rfl rfl 1 (by decide) (hts _ k_fieldLink_rn_Q_21_rn_Q_head_I) (fun _ h9 => h9) rfl d_Q_take_21 ?_
    refine lv_iconst (v := (nI (1))) hx hb d_Q_take_24 (by decide) ?_
    refine lv_iadd hx hb d_Q_take_25 ?_
    refine rw_topI (b := (nI (x + 1))) (nI_add x 1) ?_
    refine va_put (D := D) (ci := 0) (v := .int (nI (x + 1))) (ty := .int) (C := rn_Q) (T := tf_Q) (N := 3) hx hb hts in_Q tt_Q tt_Q_ok nm_Q hown hK hP hD hS 6 rfl rfl 1 (by decide) (hts _ k_fieldLink_rn_Q_21_rn_Q_head_I) (fun _ h9 => h9) rfl (by decide +kernel) rfl rfl (Nat.le_of_ble_eq_true rfl) d_Q_take_26 (fun H locs hP hD hS => ?_)
    have hP : va_P D vwCl (xw cI a w h Q ff hd bl (fun j => nI (R j)) (nI (x + 1)) (nI (y)) rc hc tc) H := hP
    have hD : va_D (xA a) (xw cI a w h Q ff hd bl (fun j => nI (R j)) (nI (x + 1)) (nI (y)) rc hc tc) := x_D ha _ rfl
    refine lv_iload_n hx hb d_Q_take_29 rfl (lv_at hl 0 rfl) ?_
    exact w_iret (x + 1) hx hb hr hlocks hS hP (by rw [if_pos (by have := of_decide_eq_false c_4; omega), if_pos (by have := of_decide_eq_false c_4; omega)]; exact ⟨rfl, rfl⟩) d_Q_take_30
  · refine lv_iconst (v := (-1)) hx hb d_Q_take_7 (by decide) ?_
    exact w_iret x hx hb hr hlocks hS hP (by rw [if_neg (by have := of_decide_eq_true c_4; omega), if_neg (by have := of_decide_eq_true c_4; omega)]; exact ⟨rfl, rfl⟩) d_Q_take_8

set_option maxHeartbeats 4000000 in
set_option maxRecDepth 100000 in
theorem c_Q_clear_c (l : Launch) (D : va_G) (cI cZ : ClassId) (g a : Nat → Nat) (ha : xI a) (w h : Nat) (Q : Nat → Nat) (ff : Nat → Int32) (hd bl : Int32) (rs : Nat → Int32) (hs ts : Int32) (rc : Nat → Int32) (hc tc : Int32)  (hG : rt_G w h Q) : Met l y_Q_clear (.code y_Q_clear b_Q_clear 1 none :: tG) ({ frames := 0, cells := 0, slots := 0, locals := 0 }) (va_Pc [.ref (a 8)] (wU D cI cZ g (xA a) (xw cI a w h Q ff hd bl rs hs ts rc hc tc))) (va_Qv (S := Unit) (fun _ => True) (wB D (fun (u : Unit) => (xw cI a w h Q ff hd bl rs hs ts rc (nI (0)) (nI (0))))) (xA a)) 0 0 (xA a) := by
  refine Met.ofW (cc := b_Q_clear) (maxL := 1) (ret := none) (by decide) rfl ?_
  intro p e s m args below meth c s₁ BD9 hml hv
  obtain ⟨rfl, hP, hK, hZ⟩ := hv
  have hx := BD9.exec
  have hb := BD9.bytes
  have hr := BD9.returns
  have hts : ∀ w ∈ tG, w.before _ s = true := fun w hw => atoms_spec (ws := .code y_Q_clear b_Q_clear 1 none :: tG) BD9.pre w (List.mem_cons_of_mem _ hw)
  have hown : s.vm.findClass rn_Q = some m.cls := findClass_of_methodNamed BD9.named
  have hlocks := BD9.notSynchronized
  have hS : va_S (xA a) s.heap s.heap [] := va_S.rf
  have hD : va_D (xA a) (xw cI a w h Q ff hd bl rs hs ts rc hc tc) := x_D ha _ rfl
  have hP : va_P D vwCl (xw cI a w h Q ff hd bl rs hs ts rc hc tc) s.heap := hP
  have hl := lv_entry ([.ref (a 8)]) (n := 1) (Nat.le_of_ble_eq_true rfl)
  rw [lg_entry_eq]
  generalize (lg_sl ([.ref (a 8)]) ++ List.replicate (1 - (lg_sl ([.ref (a 8)])).length) Slot.unset).toArray = ls at hl ⊢
  have hl : lv_has ls 1 [(0, .ref (a 8))] := hl
  obtain ⟨hn1, hn⟩ := hG.n
  refine lv_aload_n hx hb d_Q_clear_0 rfl (lv_at hl 0 rfl) ?_
  refine lv_iconst (v := (nI (0))) hx hb d_Q_clear_1 (by decide) ?_
  refine va_put (D := D) (ci := 0) (v := .int (nI (0))) (ty := .int) (C := rn_Q) (T := tf_Q) (N := 3) hx hb hts in_Q tt_Q tt_Q_ok nm_Q hown hK hP hD hS 8 rfl rfl 1 (by decide) (hts _ k_fieldLink_rn_Q_21_rn_Q_head_I) (fun _ h9 => h9) rfl (by decide +kernel) rfl rfl (Nat.le_of_ble_eq_true rfl) d_Q_clear_2 (fun H locs hP hD hS => ?_)
  have hP : va_P D vwCl (xw cI a w h Q ff hd bl rs hs ts rc (nI (0)) tc) H := hP
  have hD : va_D (xA a) (xw cI a w h Q ff hd bl rs hs ts rc (nI (0)) tc) := x_D ha _ rfl
  refine lv_aload_n hx hb d_Q_clear_5 rfl (lv_at hl 0 rfl) ?_
  refine lv_iconst (v := (nI (0))) hx hb d_Q_clear_6 (by decide) ?_
  refine va_put (D := D) (ci := 0) (v := .int (nI (0))) (ty := .int) (C := rn_Q) (T := tf_Q) (N := 3) hx hb hts in_Q tt_Q tt_Q_ok nm_Q hown hK hP hD hS 8 rfl rfl 2 (by decide) (hts _ k_fieldLink_rn_Q_25_rn_Q_tail_I) (fun _ h9 => h9) rfl (by decide +kernel) rfl rfl (Nat.le_of_ble_eq_true rfl) d_Q_clear_7 (fun H locs hP hD hS => ?_)
  have hP : va_P D vwCl (xw cI a w h Q ff hd bl rs hs ts rc (nI (0)) (nI (0))) H := hP
  have hD : va_D (xA a) (xw cI a w h Q ff hd bl rs hs ts rc (nI (0)) (nI (0))) := x_D ha _ rfl
  exact w_vret () hx hb hr hlocks hS hP (trivial) d_Q_clear_10

set_option maxHeartbeats 4000000 in
set_option maxRecDepth 100000 in
theorem c_Q_isEmpty_c (l : Launch) (D : va_G) (cI cZ : ClassId) (g a : Nat → Nat) (ha : xI a) (w h : Nat) (Q : Nat → Nat) (ff : Nat → Int32) (hd bl : Int32) (rs : Nat → Int32) (hs ts : Int32) (rc : Nat → Int32) (hc tc : Int32) (R : Nat → Nat) (x y : Nat) (hG : rt_G w h Q) (hx0 : x < 2 ^ 31) (hy0 : y < 2 ^ 31) : Met l y_Q_isEmpty (.code y_Q_isEmpty b_Q_isEmpty 1 (some .boolean) :: tG) ({ frames := 0, cells := 0, slots := 0, locals := 0 }) (va_Pc [.ref (a 8)] (wU D cI cZ g (xA a) (xw cI a w h Q ff hd bl rs hs ts (fun j => nI (R j)) (nI (x)) (nI (y))))) (va_Qi (S := Unit) (fun r _ => r = rt_b (decide (y ≤ x))) (wB D (fun (u : Unit) => (xw cI a w h Q ff hd bl rs hs ts (fun j => nI (R j)) (nI (x)) (nI (y))))) (xA a)) 0 0 (xA a) := by
  refine Met.ofW (cc := b_Q_isEmpty) (maxL := 1) (ret := (some .boolean)) (by decide) rfl ?_
  intro p e s m args below meth c s₁ BD9 hml hv
  obtain ⟨rfl, hP, hK, hZ⟩ := hv
  have hx := BD9.exec
  have hb := BD9.bytes
  have hr := BD9.returns
  have hts : ∀ w ∈ tG, w.before _ s = true := fun w hw => atoms_spec (ws := .code y_Q_isEmpty b_Q_isEmpty 1 (some .boolean) :: tG) BD9.pre w (List.mem_cons_of_mem _ hw)
  have hown : s.vm.findClass rn_Q = some m.cls := findClass_of_methodNamed BD9.named
  have hlocks := BD9.notSynchronized
  have hS : va_S (xA a) s.heap s.heap [] := va_S.rf
  have hD : va_D (xA a) (xw cI a w h Q ff hd bl rs hs ts (fun j => nI (R j)) (nI (x)) (nI (y))) := x_D ha _ rfl
  have hP : va_P D vwCl (xw cI a w h Q ff hd bl rs hs ts (fun j => nI (R j)) (nI (x)) (nI (y))) s.heap := hP
  have hl := lv_entry ([.ref (a 8)]) (n := 1) (Nat.le_of_ble_eq_true rfl)
  rw [lg_entry_eq]
  generalize (lg_sl ([.ref (a 8)]) ++ List.replicate (1 - (lg_sl ([.ref (a 8)])).length) Slot.unset).toArray = ls at hl ⊢
  have hl : lv_has ls 1 [(0, .ref (a 8))] := hl
  obtain ⟨hn1, hn⟩ := hG.n
  refine lv_aload_n hx hb d_Q_isEmpty_0 rfl (lv_at hl 0 rfl) ?_
  refine va_get (D := D) (ci := 0) (v := .int ((nI (x)))) (C := rn_Q) (T := tf_Q) (N := 3) hx hb hts in_Q hown hK hP 8 rfl rfl 1 (by decide) (hts _ k_fieldLink_rn_Q_21_rn_Q_head_I) (fun _ h9 => h9) rfl d_Q_isEmpty_1 ?_
  refine lv_aload_n hx hb d_Q_isEmpty_4 rfl (lv_at hl 0 rfl) ?_
  refine va_get (D := D) (ci := 0) (v := .int ((nI (y)))) (C := rn_Q) (T := tf_Q) (N := 3) hx hb hts in_Q hown hK hP 8 rfl rfl 2 (by decide) (hts _ k_fieldLink_rn_Q_25_rn_Q_tail_I) (fun _ h9 => h9) rfl d_Q_isEmpty_5 ?_
  refine rw_clt (tgt := 15) hx hb d_Q_isEmpty_8 (by decide) hx0 hy0 (fun c_8 => ?_) (fun c_8 => ?_)
  · refine lv_iconst (v := (nI (0))) hx hb d_Q_isEmpty_15 (by decide) ?_
    exact w_zret (v := false) () hx hb hr hlocks hS hP (congrArg rt_b (by simp; omega)) d_Q_isEmpty_16
  · refine lv_iconst (v := (nI (1))) hx hb d_Q_isEmpty_11 (by decide) ?_
    refine lv_goto (tgt := 16) hx hb d_Q_isEmpty_12 (by decide) ?_
    exact w_zret (v := true) () hx hb hr hlocks hS hP (congrArg rt_b (by simp; omega)) d_Q_isEmpty_16

set_option maxHeartbeats 4000000 in
set_option maxRecDepth 100000 in
theorem c_Q_add_c (l : Launch) (D : va_G) (cI cZ : ClassId) (g a : Nat → Nat) (ha : xI a) (w h : Nat) (Q : Nat → Nat) (ff : Nat → Int32) (hd bl : Int32) (rs : Nat → Int32) (hs ts : Int32) (rc : Nat → Int32) (hc tc : Int32) (R : Nat → Nat) (x y : Nat) (k : Nat) (hG : rt_G w h Q) (hy0 : y < 8 * (w * h)) : Met l y_Q_add (.code y_Q_add b_Q_add 2 none :: tG) ({ frames := 0, cells := 0, slots := 0, locals := 0 }) (va_Pc [.ref (a 8), .int (nI (k))] (wU D cI cZ g (xA a) (xw cI a w h Q ff hd bl rs hs ts (fun j => nI (R j)) (nI (x)) (nI (y))))) (va_Qv (S := Unit) (fun _ => True) (wB D (fun (u : Unit) => (xw cI a w h Q ff hd bl rs hs ts (fun j => nI (va_up R y k j)) (nI (x)) (nI (y + 1))))) (xA a)) 0 0 (xA a) := by
  refine Met.ofW (cc := b_Q_add) (maxL := 2) (ret := none) (by decide) rfl ?_
  intro p e s m args below meth c s₁ BD9 hml hv
  obtain ⟨rfl, hP, hK, hZ⟩ := hv
  have hx := BD9.exec
  have hb := BD9.bytes
  have hr := BD9.returns
  have hts : ∀ w ∈ tG, w.before _ s = true := fun w hw => atoms_spec (ws := .code y_Q_add b_Q_add 2 none :: tG) BD9.pre w (List.mem_cons_of_mem _ hw)
  have hown : s.vm.findClass rn_Q = some m.cls := findClass_of_methodNamed BD9.named
  have hlocks := BD9.notSynchronized
  have hS : va_S (xA a) s.heap s.heap [] := va_S.rf
  have hD : va_D (xA a) (xw cI a w h Q ff hd bl rs hs ts (fun j => nI (R j)) (nI (x)) (nI (y))) := x_D ha _ rfl
  have hP : va_P D vwCl (xw cI a w h Q ff hd bl rs hs ts (fun j => nI (R j)) (nI (x)) (nI (y))) s.heap := hP
  have hl := lv_entry ([.ref (a 8), .int (nI (k))]) (n := 2) (Nat.le_of_ble_eq_true rfl)
  rw [lg_entry_eq]
  generalize (lg_sl ([.ref (a 8), .int (nI (k))]) ++ List.replicate (2 - (lg_sl ([.ref (a 8), .int (nI (k))])).length) Slot.unset).toArray = ls at hl ⊢
  have hl : lv_has ls 2 [(0, .ref (a 8)), (1, .int (nI (k)))] := hl
  obtain ⟨hn1, hn⟩ := hG.n
  refine lv_aload_n hx hb d_Q_add_0 rfl (lv_at hl 0 rfl) ?_
  refine va_get (D := D) (ci := 0) (v := .int ((nI (y)))) (C := rn_Q) (T := tf_Q) (N := 3) hx hb hts in_Q hown hK hP 8 rfl rfl 2 (by decide) (hts _ k_fieldLink_rn_Q_25_rn_Q_tail_I) (fun _ h9 => h9) rfl d_Q_add_1 ?_
  refine lv_aload_n hx hb d_Q_add_4 rfl (lv_at hl 0 rfl) ?_
  refine va_get (D := D) (ci := 0) (v := .ref (a 9)) (C := rn_Q) (T := tf_Q) (N := 3) hx hb hts in_Q hown hK hP 8 rfl rfl 0 (by decide) (hts _ k_fieldLink_rn_Q_15_rn_Q_row_I) (fun _ h9 => h9) rfl d_Q_add_5 ?_
  refine va_alen (v := nI (8 * (w * h))) hx hb hK hP 9 0 rfl rfl rfl d_Q_add_8 ?_
  refine rw_cge (tgt := 32) hx hb d_Q_add_9 (by decide) (by omega) (by omega) (fun c_9 => ?_) (fun c_9 => ?_)
  · omega
  · refine lv_aload_n hx hb d_Q_add_12 rfl (lv_at hl 0 rfl) ?_
    refine va_get (D := D) (ci := 0) (v := .ref (a 9)) (C := rn_Q) (T := tf_Q) (N := 3) hx hb hts in_Q hown hK hP 8 rfl rfl 0 (by decide) (hts _ k_fieldLink_rn_Q_15_rn_Q_row_I) (fun _ h9 => h9) rfl d_Q_add_13 ?_
    refine lv_aload_n hx hb d_Q_add_16 rfl (lv_at hl 0 rfl) ?_
    refine va_get (D := D) (ci := 0) (v := .int ((nI (y)))) (C := rn_Q) (T := tf_Q) (N := 3) hx hb hts in_Q hown hK hP 8 rfl rfl 2 (by decide) (hts _ k_fieldLink_rn_Q_25_rn_Q_tail_I) (fun _ h9 => h9) rfl d_Q_add_17 ?_
    refine lv_iload_n hx hb d_Q_add_20 rfl (lv_at hl 1 rfl) ?_
    refine rw_iast (h := (fun j => nI (va_up R y k j))) hx hb hK hP hD hS 9 0 rfl rfl (by omega) (by omega) (fun j _ => rt_upd R y k j) d_Q_add_21 (fun H locs hP hD hS => ?_)
    have hP : va_P D vwCl (xw cI a w h Q ff hd bl rs hs ts (fun j => nI (va_up R y k j)) (nI (x)) (nI (y))) H := hP
    have hD : va_D (xA a) (xw cI a w h Q ff hd bl rs hs ts (fun j => nI (va_up R y k j)) (nI (x)) (nI (y))) := x_D ha _ rfl
    refine lv_aload_n hx hb d_Q_add_22 rfl (lv_at hl 0 rfl) ?_
    refine lv_dup hx hb d_Q_add_23 rfl ?_
    refine va_get (D := D) (ci := 0) (v := .int ((nI (y)))) (C := rn_Q) (T := tf_Q) (N := 3) hx hb hts in_Q hown hK hP 8 rfl rfl 2 (by decide) (hts _ k_fieldLink_rn_Q_25_rn_Q_tail_I) (fun _ h9 => h9) rfl d_Q_add_24 ?_
    refine lv_iconst (v := (nI (1))) hx hb d_Q_add_27 (by decide) ?_
    refine lv_iadd hx hb d_Q_add_28 ?_
    refine rw_topI (b := (nI (y + 1))) (nI_add y 1) ?_
    refine va_put (D := D) (ci := 0) (v := .int (nI (y + 1))) (ty := .int) (C := rn_Q) (T := tf_Q) (N := 3) hx hb hts in_Q tt_Q tt_Q_ok nm_Q hown hK hP hD hS 8 rfl rfl 2 (by decide) (hts _ k_fieldLink_rn_Q_25_rn_Q_tail_I) (fun _ h9 => h9) rfl (by decide +kernel) rfl rfl (Nat.le_of_ble_eq_true rfl) d_Q_add_29 (fun H locs hP hD hS => ?_)
    have hP : va_P D vwCl (xw cI a w h Q ff hd bl rs hs ts (fun j => nI (va_up R y k j)) (nI (x)) (nI (y + 1))) H := hP
    have hD : va_D (xA a) (xw cI a w h Q ff hd bl rs hs ts (fun j => nI (va_up R y k j)) (nI (x)) (nI (y + 1))) := x_D ha _ rfl
    exact w_vret () hx hb hr hlocks hS hP (trivial) d_Q_add_32

set_option maxHeartbeats 4000000 in
set_option maxRecDepth 100000 in
theorem c_Q_first_c (l : Launch) (D : va_G) (cI cZ : ClassId) (g a : Nat → Nat) (ha : xI a) (w h : Nat) (Q : Nat → Nat) (ff : Nat → Int32) (hd bl : Int32) (rs : Nat → Int32) (hs ts : Int32) (rc : Nat → Int32) (hc tc : Int32) (R : Nat → Nat) (x y : Nat) (hG : rt_G w h Q) (hx0 : x < 2 ^ 31) (hy0 : y ≤ 8 * (w * h)) : Met l y_Q_first (.code y_Q_first b_Q_first 1 (some .int) :: tG) ({ frames := 1, cells := 0, slots := 0, locals := 20 }) (va_Pc [.ref (a 8)] (wU D cI cZ g (xA a) (xw cI a w h Q ff hd bl rs hs ts (fun j => nI (R j)) (nI (x)) (nI (y))))) (va_Qi (S := Unit) (fun r _ => r = rt_o (if x < y then some (R x) else none)) (wB D (fun (u : Unit) => (xw cI a w h Q ff hd bl rs hs ts (fun j => nI (R j)) (nI (x)) (nI (y))))) (xA a)) 0 0 (xA a) := by
  refine Met.ofW (cc := b_Q_first) (maxL := 1) (ret := (some .int)) (by decide) rfl ?_
  intro p e s m args below meth c s₁ BD9 hml hv
  obtain ⟨rfl, hP, hK, hZ⟩ := hv
  have hx := BD9.exec
  have hb := BD9.bytes
  have hr := BD9.returns
  have hts : ∀ w ∈ tG, w.before _ s = true := fun w hw => atoms_spec (ws := .code y_Q_first b_Q_first 1 (some .int) :: tG) BD9.pre w (List.mem_cons_of_mem _ hw)
  have hown : s.vm.findClass rn_Q = some m.cls := findClass_of_methodNamed BD9.named
  have hlocks := BD9.notSynchronized
  have hS : va_S (xA a) s.heap s.heap [] := va_S.rf
  have hD : va_D (xA a) (xw cI a w h Q ff hd bl rs hs ts (fun j => nI (R j)) (nI (x)) (nI (y))) := x_D ha _ rfl
  have hP : va_P D vwCl (xw cI a w h Q ff hd bl rs hs ts (fun j => nI (R j)) (nI (x)) (nI (y))) s.heap := hP
  have hl := lv_entry ([.ref (a 8)]) (n := 1) (Nat.le_of_ble_eq_true rfl)
  rw [lg_entry_eq]
  generalize (lg_sl ([.ref (a 8)]) ++ List.replicate (1 - (lg_sl ([.ref (a 8)])).length) Slot.unset).toArray = ls at hl ⊢
  have hl : lv_has ls 1 [(0, .ref (a 8))] := hl
  obtain ⟨hn1, hn⟩ := hG.n
  refine lv_aload_n hx hb d_Q_first_0 rfl (lv_at hl 0 rfl) ?_
  refine w_ci (As := []) (rest := []) ⟨hx, hb, hml, hown, hts⟩ (c_Q_isEmpty_c l D cI cZ g a ha w h Q ff hd bl rs hs ts (fun j => nI (R j)) (nI (x)) (nI (y)) R x y hG hx0 (by omega)) (cwV 0 hts (t_gV k_methodLink_rn_Q_28_y_Q_isEmpty k_instanceMethod_y_Q_isEmpty k_selects_rn_Q_y_Q_isEmpty_y_Q_isEmpty k_initialized_rn_Q k_code_y_Q_isEmpty_prog_2_method_3_code_1_some_boolean) rfl rfl rfl (by decide +kernel) ⟨Nat.le_of_ble_eq_true rfl, Nat.le_of_ble_eq_true rfl⟩) (va_recv hK hP (ci := 0) (q0 := 8) rfl rfl) hP hK hZ hS rfl hl.1 rfl (Nat.le_of_ble_eq_true rfl) d_Q_first_1 ⟨Nat.zero_le _, Nat.zero_le _⟩ (fun r_1 u_1 H locs hw hP hS => ?_)
  subst hw
  have hP : va_P D vwCl (xw cI a w h Q ff hd bl rs hs ts (fun j => nI (R j)) (nI (x)) (nI (y))) H := hP
  refine rw_beq (tgt := 11) hx hb d_Q_first_4 (by decide) (fun c_4 => ?_) (fun c_4 => ?_)
  · refine lv_aload_n hx hb d_Q_first_11 rfl (lv_at hl 0 rfl) ?_
    refine va_get (D := D) (ci := 0) (v := .ref (a 9)) (C := rn_Q) (T := tf_Q) (N := 3) hx hb hts in_Q hown hK hP 8 rfl rfl 0 (by decide) (hts _ k_fieldLink_rn_Q_15_rn_Q_row_I) (fun _ h9 => h9) rfl d_Q_first_12 ?_
    refine lv_aload_n hx hb d_Q_first_15 rfl (lv_at hl 0 rfl) ?_
    refine va_get (D := D) (ci := 0) (v := .int ((nI (x)))) (C := rn_Q) (T := tf_Q) (N := 3) hx hb hts in_Q hown hK hP 8 rfl rfl 1 (by decide) (hts _ k_fieldLink_rn_Q_21_rn_Q_head_I) (fun _ h9 => h9) rfl d_Q_first_16 ?_
    refine rw_topI (b := (nI (x))) (rfl) ?_
    refine rw_iald (v := (nI (R x))) hx hb hK hP 9 0 rfl rfl (by have := of_decide_eq_false c_4; omega) (by omega) (rfl) d_Q_first_19 ?_
    exact w_iret () hx hb hr hlocks hS hP (by rw [if_pos (by have := of_decide_eq_false c_4; omega)]; rfl) d_Q_first_20
  · refine lv_iconst (v := (-1)) hx hb d_Q_first_7 (by decide) ?_
    refine lv_goto (tgt := 20) hx hb d_Q_first_8 (by decide) ?_
    exact w_iret () hx hb hr hlocks hS hP (by rw [if_neg (by have := of_decide_eq_true c_4; omega)]; rfl) d_Q_first_20

set_option maxHeartbeats 4000000 in
set_option maxRecDepth 100000 in
theorem c_Q_take_c (l : Launch) (D : va_G) (cI cZ : ClassId) (g a : Nat → Nat) (ha : xI a) (w h : Nat) (Q : Nat → Nat) (ff : Nat → Int32) (hd bl : Int32) (rs : Nat → Int32) (hs ts : Int32) (rc : Nat → Int32) (hc tc : Int32) (R : Nat → Nat) (x y : Nat) (hG : rt_G w h Q) (hx0 : x < 2 ^ 31) (hy0 : y ≤ 8 * (w * h)) : Met l y_Q_take (.code y_Q_take b_Q_take 2 (some .int) :: tG) ({ frames := 1, cells := 0, slots := 0, locals := 20 }) (va_Pc [.ref (a 8)] (wU D cI cZ g (xA a) (xw cI a w h Q ff hd bl rs hs ts (fun j => nI (R j)) (nI (x)) (nI (y))))) (va_Qi (S := Nat) (fun r u => r = rt_o (if x < y then some (R x) else none) ∧ u = if x < y then x + 1 else x) (wB D (fun (u : Nat) => (xw cI a w h Q ff hd bl rs hs ts (fun j => nI (R j)) (nI (u)) (nI (y))))) (xA a)) 0 0 (xA a) := by
  refine Met.ofW (cc := b_Q_take) (maxL := 2) (ret := (some .int)) (by decide) rfl ?_
  intro p e s m args below meth c s₁ BD9 hml hv
  obtain ⟨rfl, hP, hK, hZ⟩ := hv
  have hx := BD9.exec
  have hb := BD9.bytes
  have hr := BD9.returns
  have hts : ∀ w ∈ tG, w.before _ s = true := fun w hw => atoms_spec (ws := .code y_Q_take b_Q_take 2 (some .int) :: tG) BD9.pre w (List.mem_cons_of_mem _ hw)
  have hown : s.vm.findClass rn_Q = some m.cls := findClass_of_methodNamed BD9.named
  have hlocks := BD9.notSynchronized
  have hS : va_S (xA a) s.heap s.heap [] := va_S.rf
  have hD : va_D (xA a) (xw cI a w h Q ff hd bl rs hs ts (fun j => nI (R j)) (nI (x)) (nI (y))) := x_D ha _ rfl
  have hP : va_P D vwCl (xw cI a w h Q ff hd bl rs hs ts (fun j => nI (R j)) (nI (x)) (nI (y))) s.heap := hP
  have hl := lv_entry ([.ref (a 8)]) (n := 2) (Nat.le_of_ble_eq_true rfl)
  rw [lg_entry_eq]
  generalize (lg_sl ([.ref (a 8)]) ++ List.replicate (2 - (lg_sl ([.ref (a 8)])).length) Slot.unset).toArray = ls at hl ⊢
  have hl : lv_has ls 2 [(0, .ref (a 8))] := hl
  obtain ⟨hn1, hn⟩ := hG.n
  refine lv_aload_n hx hb d_Q_take_0 rfl (lv_at hl 0 rfl) ?_
  refine w_ci (As := []) (rest := []) ⟨hx, hb, hml, hown, hts⟩ (c_Q_isEmpty_c l D cI cZ g a ha w h Q ff hd bl rs hs ts (fun j => nI (R j)) (nI (x)) (nI (y)) R x y hG hx0 (by omega)) (cwV 0 hts (t_gV k_methodLink_rn_Q_28_y_Q_isEmpty k_instanceMethod_y_Q_isEmpty k_selects_rn_Q_y_Q_isEmpty_y_Q_isEmpty k_initialized_rn_Q k_code_y_Q_isEmpty_prog_2_method_3_code_1_some_boolean) rfl rfl rfl (by decide +kernel) ⟨Nat.le_of_ble_eq_true rfl, Nat.le_of_ble_eq_true rfl⟩) (va_recv hK hP (ci := 0) (q0 := 8) rfl rfl) hP hK hZ hS rfl hl.1 rfl (Nat.le_of_ble_eq_true rfl) d_Q_take_1 ⟨Nat.zero_le _, Nat.zero_le _⟩ (fun r_1 u_1 H locs hw hP hS => ?_)
  subst hw
  have hP : va_P D vwCl (xw cI a w h Q ff hd bl rs hs ts (fun j => nI (R j)) (nI (x)) (nI (y))) H := hP
  refine rw_beq (tgt := 9) hx hb d_Q_take_4 (by decide) (fun c_4 => ?_) (fun c_4 => ?_)
  · refine lv_aload_n hx hb d_Q_take_9 rfl (lv_at hl 0 rfl) ?_
    refine va_get (D := D) (ci := 0) (v := .ref (a 9)) (C := rn_Q) (T := tf_Q) (N := 3) hx hb hts in_Q hown hK hP 8 rfl rfl 0 (by decide) (hts _ k_fieldLink_rn_Q_15_rn_Q_row_I) (fun _ h9 => h9) rfl d_Q_take_10 ?_
    refine lv_aload_n hx hb d_Q_take_13 rfl (lv_at hl 0 rfl) ?_
    refine va_get (D := D) (ci := 0) (v := .int ((nI (x)))) (C := rn_Q) (T := tf_Q) (N := 3) hx hb hts in_Q hown hK hP 8 rfl rfl 1 (by decide) (hts _ k_fieldLink_rn_Q_21_rn_Q_head_I) (fun _ h9 => h9) rfl d_Q_take_14 ?_
    refine rw_topI (b := (nI (x))) (rfl) ?_
    refine rw_iald (v := (nI (R x))) hx hb hK hP 9 0 rfl rfl (by have := of_decide_eq_false c_4; omega) (by omega) (rfl) d_Q_take_17 ?_
    refine lv_istore_n (lv' := [(1, .int (nI (R x))), (0, .ref (a 8))]) hx hb d_Q_take_18 rfl hl (by decide) rfl (fun ls hl => ?_)
    refine lv_aload_n hx hb d_Q_take_19 rfl (lv_at hl 1 rfl) ?_
    refine lv_dup hx hb d_Q_take_20 rfl ?_
    refine va_get (D := D) (ci := 0) (v := .int ((nI (x)))) (C := rn_Q) (T := tf_Q) (N := 3) hx hb hts in_Q hown hK hP 8 rfl rfl 1 (by decide) (hts _ k_fieldLink_rn_Q_21_rn_Q_head_I) (fun _ h9 => h9) rfl d_Q_take_21 ?_
    refine lv_iconst (v := (nI (1))) hx hb d_Q_take_24 (by decide) ?_
    refine lv_iadd hx hb d_Q_take_25 ?_
    refine rw_topI (b := (nI (x + 1))) (nI_add x 1) ?_
    refine va_put (D := D) (ci := 0) (v := .int (nI (x + 1))) (ty := .int) (C := rn_Q) (T := tf_Q) (N := 3) hx hb hts in_Q tt_Q tt_Q_ok nm_Q hown hK hP hD hS 8 rfl rfl 1 (by decide) (hts _ k_fieldLink_rn_Q_21_rn_Q_head_I) (fun _ h9 => h9) rfl (by decide +kernel) rfl rfl (Nat.le_of_ble_eq_true rfl) d_Q_take_26 (fun H locs hP hD hS => ?_)
    have hP : va_P D vwCl (xw cI a w h Q ff hd bl rs hs ts (fun j => nI (R j)) (nI (x + 1)) (nI (y))) H := hP
    have hD : va_D (xA a) (xw cI a w h Q ff hd bl rs hs ts (fun j => nI (R j)) (nI (x + 1)) (nI (y))) := x_D ha _ rfl
    refine lv_iload_n hx hb d_Q_take_29 rfl (lv_at hl 0 rfl) ?_
    exact w_iret (x + 1) hx hb hr hlocks hS hP (by rw [if_pos (by have := of_decide_eq_false c_4; omega), if_pos (by have := of_decide_eq_false c_4; omega)]; exact ⟨rfl, rfl⟩) d_Q_take_30
  · refine lv_iconst (v := (-1)) hx hb d_Q_take_7 (by decide) ?_
    exact w_iret x hx hb hr hlocks hS hP (by rw [if_neg (by have := of_decide_eq_true c_4; omega), if_neg (by have := of_decide_eq_true c_4; omega)]; exact ⟨rfl, rfl⟩) d_Q_take_8
