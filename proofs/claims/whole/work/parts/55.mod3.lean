/-! The reference: touch, the four changes; by program (wip/whole/gen/mod3.py) -/
set_option maxHeartbeats 4000000 in
set_option maxRecDepth 100000 in
theorem c_M_guards (l : Launch) (D : va_G) (cI cZ : ClassId) (g a : Nat → Nat) (ha : mI a) (w h : Nat) (Q L : Nat → Nat) (cn : Nat) (th : Int32) (kf : Nat → Int32) (Z : Nat → Bool) (pf : Nat → Int32) (k e0 : Nat) (hG : rt_G w h Q) (hk : k < 6 * (w * h)) (he : e0 < 4) : Met l y_M_guards (.code y_M_guards b_M_guards 3 (some .boolean) :: tG) ({ frames := 1, cells := 0, slots := 0, locals := 21 }) (va_Pc [.ref (a 0), .int (nI (k)), .int (nI (e0))] (wU D cI cZ g (mA a) (mw cI cZ a w h (fun p => rt_b (decide (Q p ≠ 0))) (fun p => nI (rt_g Q p)) (fun p => nI (rt_s Q p)) (fun i => nI (L i)) cn th kf (fun p => rt_b (Z p)) pf))) (va_Qi (S := Unit) (fun r _ => r = rt_b (rt_gu Q k e0)) (wB D (fun (u : Unit) => (mw cI cZ a w h (fun p => rt_b (decide (Q p ≠ 0))) (fun p => nI (rt_g Q p)) (fun p => nI (rt_s Q p)) (fun i => nI (L i)) cn th kf (fun p => rt_b (Z p)) pf))) (mA a)) 0 0 (mA a) := by
  refine Met.ofW (cc := b_M_guards) (maxL := 3) (ret := (some .boolean)) (by decide) rfl ?_
  intro p e s m args below meth c s₁ BD9 hml hv
  obtain ⟨rfl, hP, hK, hZ⟩ := hv
  have hx := BD9.exec
  have hb := BD9.bytes
  have hr := BD9.returns
  have hts : ∀ w ∈ tG, w.before _ s = true := fun w hw => atoms_spec (ws := .code y_M_guards b_M_guards 3 (some .boolean) :: tG) BD9.pre w (List.mem_cons_of_mem _ hw)
  have hown : s.vm.findClass rn_M = some m.cls := findClass_of_methodNamed BD9.named
  have hlocks := BD9.notSynchronized
  have hS : va_S (mA a) s.heap s.heap [] := va_S.rf
  have hD : va_D (mA a) (mw cI cZ a w h (fun p => rt_b (decide (Q p ≠ 0))) (fun p => nI (rt_g Q p)) (fun p => nI (rt_s Q p)) (fun i => nI (L i)) cn th kf (fun p => rt_b (Z p)) pf) := m_D ha _ rfl
  have hP : va_P D vwCl (mw cI cZ a w h (fun p => rt_b (decide (Q p ≠ 0))) (fun p => nI (rt_g Q p)) (fun p => nI (rt_s Q p)) (fun i => nI (L i)) cn th kf (fun p => rt_b (Z p)) pf) s.heap := hP
  have hl := lv_entry ([.ref (a 0), .int (nI (k)), .int (nI (e0))]) (n := 3) (Nat.le_of_ble_eq_true rfl)
  rw [lg_entry_eq]
  generalize (lg_sl ([.ref (a 0), .int (nI (k)), .int (nI (e0))]) ++ List.replicate (3 - (lg_sl ([.ref (a 0), .int (nI (k)), .int (nI (e0))])).length) Slot.unset).toArray = ls at hl ⊢
  have hl : lv_has ls 3 [(0, .ref (a 0)), (1, .int (nI (k))), (2, .int (nI (e0)))] := hl
  obtain ⟨hn1, hn⟩ := hG.n
  have hw0 : 0 < w := by have := hG.1.1; omega
  have hQ := hG.2.2
  refine lv_aload_n hx hb d_M_guards_0 rfl (lv_at hl 0 rfl) ?_
  refine va_get (D := D) (ci := 4) (v := .ref (a 3)) (C := rn_M) (T := tf_M) (N := 12) hx hb hts in_M hown hK hP 0 rfl rfl 5 (by decide) (hts _ k_fieldLink_rn_M_17_rn_M_signs_I) (fun _ h9 => h9) rfl d_M_guards_1 ?_
  refine lv_iload_n hx hb d_M_guards_4 rfl (lv_at hl 1 rfl) ?_
  refine rw_iald (v := (nI (rt_g Q k))) hx hb hK hP 3 0 rfl rfl (by omega) (by omega) (rfl) d_M_guards_5 ?_
  refine rw_zle (tgt := 26) hx hb d_M_guards_6 (by decide) (by have := rt_ok_g hQ k; omega) (fun c_6 => ?_) (fun c_6 => ?_)
  · refine lv_iconst (v := (nI (0))) hx hb d_M_guards_26 (by decide) ?_
    exact w_zret (v := false) () hx hb hr hlocks hS hP (congrArg rt_b (by unfold rt_gu; first | (rw [decide_eq_false (show ¬ rt_g Q k ≠ 0 by omega)]; rfl) | (rw [decide_eq_true (show rt_g Q k ≠ 0 by omega), decide_eq_true c_19]; rfl) | (rw [decide_eq_false c_19, Bool.and_false]))) d_M_guards_27
  · refine lv_aload_n hx hb d_M_guards_9 rfl (lv_at hl 0 rfl) ?_
    refine lv_aload_n hx hb d_M_guards_10 rfl (lv_at hl 0 rfl) ?_
    refine lv_iload_n hx hb d_M_guards_11 rfl (lv_at hl 1 rfl) ?_
    refine w_ci (As := [.int (nI (k))]) (rest := [.ref (a 0)]) ⟨hx, hb, hml, hown, hts⟩ (c_M_signalled l D cI cZ g a ha w h Q L cn th kf Z pf k hG hk) (cwV 1 hts (t_gV k_methodLink_rn_M_58_y_M_signalled k_instanceMethod_y_M_signalled k_selects_rn_M_y_M_signalled_y_M_signalled k_initialized_rn_M k_code_y_M_signalled_prog_6_method_12_code_2_some_int) rfl rfl rfl (by decide +kernel) ⟨Nat.le_of_ble_eq_true rfl, Nat.le_of_ble_eq_true rfl⟩) (va_recv hK hP (ci := 4) (q0 := 0) rfl rfl) hP hK hZ hS rfl hl.1 rfl (Nat.le_of_ble_eq_true rfl) d_M_guards_12 ⟨Nat.zero_le _, Nat.zero_le _⟩ (fun r_12 u_12 H locs hw hP hS => ?_)
    rw [if_neg (show ¬ rt_g Q k = 0 by omega)] at hw
    subst hw
    have hP : va_P D vwCl (mw cI cZ a w h (fun p => rt_b (decide (Q p ≠ 0))) (fun p => nI (rt_g Q p)) (fun p => nI (rt_s Q p)) (fun i => nI (L i)) cn th kf (fun p => rt_b (Z p)) pf) H := hP
    refine rw_topI (b := nI (rt_sg Q k)) rfl ?_
    have hsg : rt_sg Q k < 12 * (w * h) := by unfold rt_sg; omega
    have hmt := (rt_mt_lt (rt_sg Q k % 12) (Nat.mod_lt _ (by decide))).1
    refine w_ci (As := [.int (nI (rt_sg Q k))]) (rest := []) ⟨hx, hb, hml, hown, hts⟩ (c_M_to l D cI cZ g a ha w h Q L cn th kf Z pf (rt_sg Q k) hG hsg) (cwV 1 hts (t_gV k_methodLink_rn_M_62_y_M_to k_instanceMethod_y_M_to k_selects_rn_M_y_M_to_y_M_to k_initialized_rn_M k_code_y_M_to_prog_6_method_15_code_2_some_int) rfl rfl rfl (by decide +kernel) ⟨Nat.le_of_ble_eq_true rfl, Nat.le_of_ble_eq_true rfl⟩) (va_recv hK hP (ci := 4) (q0 := 0) rfl rfl) hP hK hZ hS rfl hl.1 rfl (Nat.le_of_ble_eq_true rfl) d_M_guards_15 ⟨Nat.zero_le _, Nat.zero_le _⟩ (fun r_15 u_15 H locs hw hP hS => ?_)
    subst hw
    have hP : va_P D vwCl (mw cI cZ a w h (fun p => rt_b (decide (Q p ≠ 0))) (fun p => nI (rt_g Q p)) (fun p => nI (rt_s Q p)) (fun i => nI (L i)) cn th kf (fun p => rt_b (Z p)) pf) H := hP
    refine lv_iload_n hx hb d_M_guards_18 rfl (lv_at hl 2 rfl) ?_
    refine rw_cne (tgt := 26) hx hb d_M_guards_19 (by decide) (by omega) (by omega) (fun c_19 => ?_) (fun c_19 => ?_)
    · refine lv_iconst (v := (nI (0))) hx hb d_M_guards_26 (by decide) ?_
      exact w_zret (v := false) () hx hb hr hlocks hS hP (congrArg rt_b (by unfold rt_gu; first | (rw [decide_eq_false (show ¬ rt_g Q k ≠ 0 by omega)]; rfl) | (rw [decide_eq_true (show rt_g Q k ≠ 0 by omega), decide_eq_true c_19]; rfl) | (rw [decide_eq_false c_19, Bool.and_false]))) d_M_guards_27
    · refine lv_iconst (v := (nI (1))) hx hb d_M_guards_22 (by decide) ?_
      refine lv_goto (tgt := 27) hx hb d_M_guards_23 (by decide) ?_
      exact w_zret (v := true) () hx hb hr hlocks hS hP (congrArg rt_b (by unfold rt_gu; first | (rw [decide_eq_false (show ¬ rt_g Q k ≠ 0 by omega)]; rfl) | (rw [decide_eq_true (show rt_g Q k ≠ 0 by omega), decide_eq_true c_19]; rfl) | (rw [decide_eq_false c_19, Bool.and_false]))) d_M_guards_27

set_option maxHeartbeats 4000000 in
set_option maxRecDepth 100000 in
theorem c_M_ends (l : Launch) (D : va_G) (cI cZ : ClassId) (g a : Nat → Nat) (ha : mI a) (w h : Nat) (Q L : Nat → Nat) (cn : Nat) (th : Int32) (kf : Nat → Int32) (Z : Nat → Bool) (pf : Nat → Int32) (k e0 : Nat) (hG : rt_G w h Q) (hk : k < 6 * (w * h)) (he : e0 < 4) : Met l y_M_ends (.code y_M_ends b_M_ends 3 (some .boolean) :: tG) ({ frames := 0, cells := 0, slots := 0, locals := 0 }) (va_Pc [.ref (a 0), .int (nI (k)), .int (nI (e0))] (wU D cI cZ g (mA a) (mw cI cZ a w h (fun p => rt_b (decide (Q p ≠ 0))) (fun p => nI (rt_g Q p)) (fun p => nI (rt_s Q p)) (fun i => nI (L i)) cn th kf (fun p => rt_b (Z p)) pf))) (va_Qi (S := Unit) (fun r _ => r = rt_b (rt_en k e0)) (wB D (fun (u : Unit) => (mw cI cZ a w h (fun p => rt_b (decide (Q p ≠ 0))) (fun p => nI (rt_g Q p)) (fun p => nI (rt_s Q p)) (fun i => nI (L i)) cn th kf (fun p => rt_b (Z p)) pf))) (mA a)) 0 0 (mA a) := by
  refine Met.ofW (cc := b_M_ends) (maxL := 3) (ret := (some .boolean)) (by decide) rfl ?_
  intro p e s m args below meth c s₁ BD9 hml hv
  obtain ⟨rfl, hP, hK, hZ⟩ := hv
  have hx := BD9.exec
  have hb := BD9.bytes
  have hr := BD9.returns
  have hts : ∀ w ∈ tG, w.before _ s = true := fun w hw => atoms_spec (ws := .code y_M_ends b_M_ends 3 (some .boolean) :: tG) BD9.pre w (List.mem_cons_of_mem _ hw)
  have hown : s.vm.findClass rn_M = some m.cls := findClass_of_methodNamed BD9.named
  have hlocks := BD9.notSynchronized
  have hS : va_S (mA a) s.heap s.heap [] := va_S.rf
  have hD : va_D (mA a) (mw cI cZ a w h (fun p => rt_b (decide (Q p ≠ 0))) (fun p => nI (rt_g Q p)) (fun p => nI (rt_s Q p)) (fun i => nI (L i)) cn th kf (fun p => rt_b (Z p)) pf) := m_D ha _ rfl
  have hP : va_P D vwCl (mw cI cZ a w h (fun p => rt_b (decide (Q p ≠ 0))) (fun p => nI (rt_g Q p)) (fun p => nI (rt_s Q p)) (fun i => nI (L i)) cn th kf (fun p => rt_b (Z p)) pf) s.heap := hP
  have hl := lv_entry ([.ref (a 0), .int (nI (k)), .int (nI (e0))]) (n := 3) (Nat.le_of_ble_eq_true rfl)
  rw [lg_entry_eq]
  generalize (lg_sl ([.ref (a 0), .int (nI (k)), .int (nI (e0))]) ++ List.replicate (3 - (lg_sl ([.ref (a 0), .int (nI (k)), .int (nI (e0))])).length) Slot.unset).toArray = ls at hl ⊢
  have hl : lv_has ls 3 [(0, .ref (a 0)), (1, .int (nI (k))), (2, .int (nI (e0)))] := hl
  obtain ⟨hn1, hn⟩ := hG.n
  have hw0 : 0 < w := by have := hG.1.1; omega
  have hQ := hG.2.2
  have he1 := rt_ed_lt (2 * (k % 6)) (by omega)
  have he2 := rt_ed_lt (2 * (k % 6) + 1) (by omega)
  refine lv_aload_n hx hb d_M_ends_0 rfl (lv_at hl 0 rfl) ?_
  refine va_get (D := D) (ci := 4) (v := .ref (a 1)) (C := rn_M) (T := tf_M) (N := 12) hx hb hts in_M hown hK hP 0 rfl rfl 0 (by decide) (hts _ k_fieldLink_rn_M_7_rn_M_edges_I) (fun _ h9 => h9) rfl d_M_ends_1 ?_
  refine lv_iconst (v := (nI (2))) hx hb d_M_ends_4 (by decide) ?_
  refine lv_iload_n hx hb d_M_ends_5 rfl (lv_at hl 1 rfl) ?_
  refine lv_bipush (v := (nI (6))) hx hb d_M_ends_6 (by decide) ?_
  refine rw_rem hx hb d_M_ends_8 (by omega) (by omega) (by omega) ?_
  refine rw_mul hx hb d_M_ends_9 ?_
  refine rw_iald (v := (nI (rt_ed (2 * (k % 6))))) hx hb hK hP 1 0 rfl rfl (by omega) (by omega) (rfl) d_M_ends_10 ?_
  refine lv_iload_n hx hb d_M_ends_11 rfl (lv_at hl 2 rfl) ?_
  refine rw_ceq (tgt := 32) hx hb d_M_ends_12 (by decide) (by omega) (by omega) (fun c_12 => ?_) (fun c_12 => ?_)
  · refine lv_iconst (v := (nI (1))) hx hb d_M_ends_32 (by decide) ?_
    refine lv_goto (tgt := 37) hx hb d_M_ends_33 (by decide) ?_
    exact w_zret (v := true) () hx hb hr hlocks hS hP (congrArg rt_b (by unfold rt_en; first | (rw [decide_eq_true c_12]; rfl) | (rw [decide_eq_false c_12, decide_eq_true c_29]; rfl) | (rw [decide_eq_false c_12, decide_eq_false c_29]; rfl))) d_M_ends_37
  · refine lv_aload_n hx hb d_M_ends_15 rfl (lv_at hl 0 rfl) ?_
    refine va_get (D := D) (ci := 4) (v := .ref (a 1)) (C := rn_M) (T := tf_M) (N := 12) hx hb hts in_M hown hK hP 0 rfl rfl 0 (by decide) (hts _ k_fieldLink_rn_M_7_rn_M_edges_I) (fun _ h9 => h9) rfl d_M_ends_16 ?_
    refine lv_iconst (v := (nI (2))) hx hb d_M_ends_19 (by decide) ?_
    refine lv_iload_n hx hb d_M_ends_20 rfl (lv_at hl 1 rfl) ?_
    refine lv_bipush (v := (nI (6))) hx hb d_M_ends_21 (by decide) ?_
    refine rw_rem hx hb d_M_ends_23 (by omega) (by omega) (by omega) ?_
    refine rw_mul hx hb d_M_ends_24 ?_
    refine lv_iconst (v := (nI (1))) hx hb d_M_ends_25 (by decide) ?_
    refine rw_add hx hb d_M_ends_26 ?_
    refine rw_iald (v := (nI (rt_ed ((2 * (k % 6)) + 1)))) hx hb hK hP 1 0 rfl rfl (by omega) (by omega) (rfl) d_M_ends_27 ?_
    refine lv_iload_n hx hb d_M_ends_28 rfl (lv_at hl 2 rfl) ?_
    refine rw_cne (tgt := 36) hx hb d_M_ends_29 (by decide) (by omega) (by omega) (fun c_29 => ?_) (fun c_29 => ?_)
    · refine lv_iconst (v := (nI (0))) hx hb d_M_ends_36 (by decide) ?_
      exact w_zret (v := false) () hx hb hr hlocks hS hP (congrArg rt_b (by unfold rt_en; first | (rw [decide_eq_true c_12]; rfl) | (rw [decide_eq_false c_12, decide_eq_true c_29]; rfl) | (rw [decide_eq_false c_12, decide_eq_false c_29]; rfl))) d_M_ends_37
    · refine lv_iconst (v := (nI (1))) hx hb d_M_ends_32 (by decide) ?_
      refine lv_goto (tgt := 37) hx hb d_M_ends_33 (by decide) ?_
      exact w_zret (v := true) () hx hb hr hlocks hS hP (congrArg rt_b (by unfold rt_en; first | (rw [decide_eq_true c_12]; rfl) | (rw [decide_eq_false c_12, decide_eq_true c_29]; rfl) | (rw [decide_eq_false c_12, decide_eq_false c_29]; rfl))) d_M_ends_37

set_option maxHeartbeats 4000000 in
set_option maxRecDepth 100000 in
theorem c_M_touch (l : Launch) (D : va_G) (cI cZ : ClassId) (g a : Nat → Nat) (ha : mI a) (w h : Nat) (Q L : Nat → Nat) (cn : Nat) (th : Int32) (kf : Nat → Int32) (Z : Nat → Bool) (pf : Nat → Int32) (k q : Nat) (hG : rt_G w h Q) (hk : k < 6 * (w * h)) (hq : q < 6 * (w * h)) : Met l y_M_touch (.code y_M_touch b_M_touch 4 (some .boolean) :: tG) ({ frames := 2, cells := 0, slots := 0, locals := 43 }) (va_Pc [.ref (a 0), .int (nI (k)), .int (nI (q))] (wU D cI cZ g (mA a) (mw cI cZ a w h (fun p => rt_b (decide (Q p ≠ 0))) (fun p => nI (rt_g Q p)) (fun p => nI (rt_s Q p)) (fun i => nI (L i)) cn th kf (fun p => rt_b (Z p)) pf))) (va_Qi (S := Unit) (fun r _ => r = rt_b (rt_tm Q w h k q)) (wB D (fun (u : Unit) => (mw cI cZ a w h (fun p => rt_b (decide (Q p ≠ 0))) (fun p => nI (rt_g Q p)) (fun p => nI (rt_s Q p)) (fun i => nI (L i)) cn th kf (fun p => rt_b (Z p)) pf))) (mA a)) 0 0 (mA a) := by
  refine Met.ofW (cc := b_M_touch) (maxL := 4) (ret := (some .boolean)) (by decide) rfl ?_
  intro p e s m args below meth c s₁ BD9 hml hv
  obtain ⟨rfl, hP, hK, hZ⟩ := hv
  have hx := BD9.exec
  have hb := BD9.bytes
  have hr := BD9.returns
  have hts : ∀ w ∈ tG, w.before _ s = true := fun w hw => atoms_spec (ws := .code y_M_touch b_M_touch 4 (some .boolean) :: tG) BD9.pre w (List.mem_cons_of_mem _ hw)
  have hown : s.vm.findClass rn_M = some m.cls := findClass_of_methodNamed BD9.named
  have hlocks := BD9.notSynchronized
  have hS : va_S (mA a) s.heap s.heap [] := va_S.rf
  have hD : va_D (mA a) (mw cI cZ a w h (fun p => rt_b (decide (Q p ≠ 0))) (fun p => nI (rt_g Q p)) (fun p => nI (rt_s Q p)) (fun i => nI (L i)) cn th kf (fun p => rt_b (Z p)) pf) := m_D ha _ rfl
  have hP : va_P D vwCl (mw cI cZ a w h (fun p => rt_b (decide (Q p ≠ 0))) (fun p => nI (rt_g Q p)) (fun p => nI (rt_s Q p)) (fun i => nI (L i)) cn th kf (fun p => rt_b (Z p)) pf) s.heap := hP
  have hl := lv_entry ([.ref (a 0), .int (nI (k)), .int (nI (q))]) (n := 4) (Nat.le_of_ble_eq_true rfl)
  rw [lg_entry_eq]
  generalize (lg_sl ([.ref (a 0), .int (nI (k)), .int (nI (q))]) ++ List.replicate (4 - (lg_sl ([.ref (a 0), .int (nI (k)), .int (nI (q))])).length) Slot.unset).toArray = ls at hl ⊢
  have hl : lv_has ls 4 [(0, .ref (a 0)), (1, .int (nI (k))), (2, .int (nI (q)))] := hl
  obtain ⟨hn1, hn⟩ := hG.n
  have hw0 : 0 < w := by have := hG.1.1; omega
  have hQ := hG.2.2
  refine lv_iload_n hx hb d_M_touch_0 rfl (lv_at hl 1 rfl) ?_
  refine lv_bipush (v := (nI (6))) hx hb d_M_touch_1 (by decide) ?_
  refine rw_div hx hb d_M_touch_3 (by omega) (by omega) (by omega) ?_
  refine lv_iload_n hx hb d_M_touch_4 rfl (lv_at hl 2 rfl) ?_
  refine lv_bipush (v := (nI (6))) hx hb d_M_touch_5 (by decide) ?_
  refine rw_div hx hb d_M_touch_7 (by omega) (by omega) (by omega) ?_
  refine rw_cne (tgt := 99) hx hb d_M_touch_8 (by decide) (by omega) (by omega) (fun c_8 => ?_) (fun c_8 => ?_)
  · refine lv_iconst (v := (nI (0))) hx hb d_M_touch_99 (by decide) ?_
    refine lv_istore_n (lv' := [(3, .int (nI (0))), (0, .ref (a 0)), (1, .int (nI (k))), (2, .int (nI (q)))]) hx hb d_M_touch_100 rfl hl (by decide) rfl (fun ls hl => ?_)
    have LP_101 : ∀ (n_101 : Nat) (i : Nat), i + n_101 = 4 → (∀ e9, e9 < i → rt_te Q w h k q e9 = false) → ∀ (H : Heap) (locs : List Loc) (ls : Array Slot), va_P D vwCl (mw cI cZ a w h (fun p => rt_b (decide (Q p ≠ 0))) (fun p => nI (rt_g Q p)) (fun p => nI (rt_s Q p)) (fun i => nI (L i)) cn th kf (fun p => rt_b (Z p)) pf) H → va_S (mA a) s.heap H locs → lv_has ls 4 [(0, .ref (a 0)), (1, .int (nI (k))), (2, .int (nI (q))), (3, .int (nI (i)))] → W p l e (headSpec (.code y_M_touch b_M_touch 4 (some .boolean) :: tG) ({ frames := 2, cells := 0, slots := 0, locals := 43 })).room s m ([.ref (a 0), .int (nI (k)), .int (nI (q))] : List Value).toArray below meth c H locs 0 0 (MQ below (va_Qi (S := Unit) (fun r _ => r = rt_b (rt_tm Q w h k q)) (wB D (fun (u : Unit) => (mw cI cZ a w h (fun p => rt_b (decide (Q p ≠ 0))) (fun p => nI (rt_g Q p)) (fun p => nI (rt_s Q p)) (fun i => nI (L i)) cn th kf (fun p => rt_b (Z p)) pf))) (mA a)) ([.ref (a 0), .int (nI (k)), .int (nI (q))] : List Value).toArray s 0 0 (mA a)) (F0 m 101 ls []) := by
      intro n_101
      induction n_101 with
      | zero =>
        intro i hrel_101 hI H locs ls hP hS hl
        have hD : va_D (mA a) (mw cI cZ a w h (fun p => rt_b (decide (Q p ≠ 0))) (fun p => nI (rt_g Q p)) (fun p => nI (rt_s Q p)) (fun i => nI (L i)) cn th kf (fun p => rt_b (Z p)) pf) := m_D ha _ rfl
        refine lv_iload_n hx hb d_M_touch_101 rfl (lv_at hl 3 rfl) ?_
        refine lv_iconst (v := (nI (4))) hx hb d_M_touch_102 (by decide) ?_
        refine rw_cge (tgt := 175) hx hb d_M_touch_103 (by decide) (by omega) (by omega) (fun c_103 => ?_) (fun c_103 => ?_)
        · refine lv_iconst (v := (nI (0))) hx hb d_M_touch_175 (by decide) ?_
          exact w_zret (v := false) () hx hb hr hlocks hS hP (congrArg rt_b (rt_tm_f c_8 (by rw [show i = 4 by omega] at hI; exact hI)).symm) d_M_touch_176
        · omega
      | succ n_101 ih_101 =>
        intro i hrel_101 hI H locs ls hP hS hl
        have hD : va_D (mA a) (mw cI cZ a w h (fun p => rt_b (decide (Q p ≠ 0))) (fun p => nI (rt_g Q p)) (fun p => nI (rt_s Q p)) (fun i => nI (L i)) cn th kf (fun p => rt_b (Z p)) pf) := m_D ha _ rfl
        refine lv_iload_n hx hb d_M_touch_101 rfl (lv_at hl 3 rfl) ?_
        refine lv_iconst (v := (nI (4))) hx hb d_M_touch_102 (by decide) ?_
        refine rw_cge (tgt := 175) hx hb d_M_touch_103 (by decide) (by omega) (by omega) (fun c_103 => ?_) (fun c_103 => ?_)
        · omega
        · refine lv_aload_n hx hb d_M_touch_106 rfl (lv_at hl 0 rfl) ?_
          refine lv_iload_n hx hb d_M_touch_107 rfl (lv_at hl 1 rfl) ?_
          refine lv_bipush (v := (nI (6))) hx hb d_M_touch_108 (by decide) ?_
          refine rw_div hx hb d_M_touch_110 (by omega) (by omega) (by omega) ?_
          refine lv_iload_n hx hb d_M_touch_111 rfl (lv_at hl 3 rfl) ?_
          refine w_ci (As := [.int (nI (k / 6)), .int (nI (i))]) (rest := []) ⟨hx, hb, hml, hown, hts⟩ (c_M_beyond l D cI cZ g a ha w h Q L cn th kf Z pf (k / 6) i hG (by omega) (by omega)) (cwV 2 hts (t_gV k_methodLink_rn_M_65_y_M_beyond k_instanceMethod_y_M_beyond k_selects_rn_M_y_M_beyond_y_M_beyond k_initialized_rn_M k_code_y_M_beyond_prog_6_method_16_code_5_some_int) rfl rfl rfl (by decide +kernel) ⟨Nat.le_of_ble_eq_true rfl, Nat.le_of_ble_eq_true rfl⟩) (va_recv hK hP (ci := 4) (q0 := 0) rfl rfl) hP hK hZ hS rfl hl.1 rfl (Nat.le_of_ble_eq_true rfl) d_M_touch_112 ⟨Nat.zero_le _, Nat.zero_le _⟩ (fun r_112 u_112 H locs hw hP hS => ?_)
          subst hw
          have hP : va_P D vwCl (mw cI cZ a w h (fun p => rt_b (decide (Q p ≠ 0))) (fun p => nI (rt_g Q p)) (fun p => nI (rt_s Q p)) (fun i => nI (L i)) cn th kf (fun p => rt_b (Z p)) pf) H := hP
          cases ho_115 : rt_nb w h (k / 6) (rt_tr i) with
          | none =>
            refine lv_iload_n hx hb d_M_touch_115 rfl (lv_at hl 2 rfl) ?_
            refine lv_bipush (v := (nI (6))) hx hb d_M_touch_116 (by decide) ?_
            refine rw_div hx hb d_M_touch_118 (by omega) (by omega) (by omega) ?_
            refine lv_icmp_eq (tgt := 125) hx hb d_M_touch_119 (by decide) (fun c_119 => ?_) (fun c_119 => ?_)
            · exact absurd c_119.symm (rt_o_ne _ (by omega))
            · refine lv_goto (tgt := 169) hx hb d_M_touch_122 (by decide) ?_
              refine lv_iinc (v := (nI (i + 1))) (lv' := [(3, .int (nI (i + 1))), (0, .ref (a 0)), (1, .int (nI (k))), (2, .int (nI (q)))]) hx hb d_M_touch_169 hl (k := 3) rfl (nI_add _ _) (by decide) rfl (fun ls hl => ?_)
              refine lv_goto (tgt := 101) hx hb d_M_touch_172 (by decide) ?_
              exact ih_101 (i + 1) (by omega) (fun e9 h9 => by rcases Nat.lt_or_ge e9 i with z | z; exact hI e9 z; rw [show e9 = i by omega]; exact rt_te_f (Or.inl (fun z9 => by rw [ho_115] at z9; cases z9))) _ _ _ hP hS (lv_sub hl [1, 2, 3, 0] rfl)
          | some tt =>
            have htt : tt < w * h := (rt_nb_back hw0 (by omega) (rt_tr_lt i (by omega)) ho_115).1
            refine lv_iload_n hx hb d_M_touch_115 rfl (lv_at hl 2 rfl) ?_
            refine lv_bipush (v := (nI (6))) hx hb d_M_touch_116 (by decide) ?_
            refine rw_div hx hb d_M_touch_118 (by omega) (by omega) (by omega) ?_
            refine rw_ceq (tgt := 125) hx hb d_M_touch_119 (by decide) (by omega) (by omega) (fun c_119 => ?_) (fun c_119 => ?_)
            · refine lv_aload_n hx hb d_M_touch_125 rfl (lv_at hl 0 rfl) ?_
              refine lv_iload_n hx hb d_M_touch_126 rfl (lv_at hl 1 rfl) ?_
              refine lv_iload_n hx hb d_M_touch_127 rfl (lv_at hl 3 rfl) ?_
              refine w_ci (As := [.int (nI (k)), .int (nI (i))]) (rest := []) ⟨hx, hb, hml, hown, hts⟩ (c_M_ends l D cI cZ g a ha w h Q L cn th kf Z pf k i hG hk (by omega)) (cwV 2 hts (t_gV k_methodLink_rn_M_81_y_M_ends k_instanceMethod_y_M_ends k_selects_rn_M_y_M_ends_y_M_ends k_initialized_rn_M k_code_y_M_ends_prog_6_method_22_code_3_some_boolean) rfl rfl rfl (by decide +kernel) ⟨Nat.le_of_ble_eq_true rfl, Nat.le_of_ble_eq_true rfl⟩) (va_recv hK hP (ci := 4) (q0 := 0) rfl rfl) hP hK hZ hS rfl hl.1 rfl (Nat.le_of_ble_eq_true rfl) d_M_touch_128 ⟨Nat.zero_le _, Nat.zero_le _⟩ (fun r_128 u_128 H locs hw hP hS => ?_)
              subst hw
              have hP : va_P D vwCl (mw cI cZ a w h (fun p => rt_b (decide (Q p ≠ 0))) (fun p => nI (rt_g Q p)) (fun p => nI (rt_s Q p)) (fun i => nI (L i)) cn th kf (fun p => rt_b (Z p)) pf) H := hP
              refine rw_beq (tgt := 169) hx hb d_M_touch_131 (by decide) (fun c_131 => ?_) (fun c_131 => ?_)
              · refine lv_iinc (v := (nI (i + 1))) (lv' := [(3, .int (nI (i + 1))), (0, .ref (a 0)), (1, .int (nI (k))), (2, .int (nI (q)))]) hx hb d_M_touch_169 hl (k := 3) rfl (nI_add _ _) (by decide) rfl (fun ls hl => ?_)
                refine lv_goto (tgt := 101) hx hb d_M_touch_172 (by decide) ?_
                exact ih_101 (i + 1) (by omega) (fun e9 h9 => by rcases Nat.lt_or_ge e9 i with z | z; exact hI e9 z; rw [show e9 = i by omega]; exact rt_te_f (Or.inr (Or.inl c_131))) _ _ _ hP hS (lv_sub hl [1, 2, 3, 0] rfl)
              · refine lv_aload_n hx hb d_M_touch_134 rfl (lv_at hl 0 rfl) ?_
                refine lv_iload_n hx hb d_M_touch_135 rfl (lv_at hl 2 rfl) ?_
                refine lv_iload_n hx hb d_M_touch_136 rfl (lv_at hl 3 rfl) ?_
                refine w_si (As := [.int (nI (i))]) (rest := [.int (nI (q)), .ref (a 0)]) ⟨hx, hb, hml, hown, hts⟩ (c_M_other l D cI cZ g a ha w h Q L cn th kf Z pf i hG (by omega)) (va_cwS 1 hts (t_gS k_methodLink_rn_M_72_y_M_other k_static_y_M_other k_initialized_rn_M k_code_y_M_other_prog_6_method_17_code_1_some_int) rfl rfl rfl (by decide +kernel) ⟨Nat.le_of_ble_eq_true rfl, Nat.le_of_ble_eq_true rfl⟩) hP hK hZ hS rfl hl.1 rfl (Nat.le_of_ble_eq_true rfl) d_M_touch_137 ⟨Nat.zero_le _, Nat.zero_le _⟩ (fun r_137 u_137 H locs hw hP hS => ?_)
                subst hw
                have hP : va_P D vwCl (mw cI cZ a w h (fun p => rt_b (decide (Q p ≠ 0))) (fun p => nI (rt_g Q p)) (fun p => nI (rt_s Q p)) (fun i => nI (L i)) cn th kf (fun p => rt_b (Z p)) pf) H := hP
                have hmo := rt_mo_lt i (by omega)
                refine w_ci (As := [.int (nI (q)), .int (nI (rt_mo i))]) (rest := []) ⟨hx, hb, hml, hown, hts⟩ (c_M_ends l D cI cZ g a ha w h Q L cn th kf Z pf q (rt_mo i) hG hq hmo) (cwV 2 hts (t_gV k_methodLink_rn_M_81_y_M_ends k_instanceMethod_y_M_ends k_selects_rn_M_y_M_ends_y_M_ends k_initialized_rn_M k_code_y_M_ends_prog_6_method_22_code_3_some_boolean) rfl rfl rfl (by decide +kernel) ⟨Nat.le_of_ble_eq_true rfl, Nat.le_of_ble_eq_true rfl⟩) (va_recv hK hP (ci := 4) (q0 := 0) rfl rfl) hP hK hZ hS rfl hl.1 rfl (Nat.le_of_ble_eq_true rfl) d_M_touch_140 ⟨Nat.zero_le _, Nat.zero_le _⟩ (fun r_140 u_140 H locs hw hP hS => ?_)
                subst hw
                have hP : va_P D vwCl (mw cI cZ a w h (fun p => rt_b (decide (Q p ≠ 0))) (fun p => nI (rt_g Q p)) (fun p => nI (rt_s Q p)) (fun i => nI (L i)) cn th kf (fun p => rt_b (Z p)) pf) H := hP
                refine rw_beq (tgt := 169) hx hb d_M_touch_143 (by decide) (fun c_143 => ?_) (fun c_143 => ?_)
                · refine lv_iinc (v := (nI (i + 1))) (lv' := [(3, .int (nI (i + 1))), (0, .ref (a 0)), (1, .int (nI (k))), (2, .int (nI (q)))]) hx hb d_M_touch_169 hl (k := 3) rfl (nI_add _ _) (by decide) rfl (fun ls hl => ?_)
                  refine lv_goto (tgt := 101) hx hb d_M_touch_172 (by decide) ?_
                  exact ih_101 (i + 1) (by omega) (fun e9 h9 => by rcases Nat.lt_or_ge e9 i with z | z; exact hI e9 z; rw [show e9 = i by omega]; exact rt_te_f (Or.inr (Or.inr (Or.inl c_143)))) _ _ _ hP hS (lv_sub hl [1, 2, 3, 0] rfl)
                · refine lv_aload_n hx hb d_M_touch_146 rfl (lv_at hl 0 rfl) ?_
                  refine lv_iload_n hx hb d_M_touch_147 rfl (lv_at hl 1 rfl) ?_
                  refine lv_iload_n hx hb d_M_touch_148 rfl (lv_at hl 3 rfl) ?_
                  refine w_ci (As := [.int (nI (k)), .int (nI (i))]) (rest := []) ⟨hx, hb, hml, hown, hts⟩ (c_M_guards l D cI cZ g a ha w h Q L cn th kf Z pf k i hG hk (by omega)) (cwV 2 hts (t_gV k_methodLink_rn_M_85_y_M_guards k_instanceMethod_y_M_guards k_selects_rn_M_y_M_guards_y_M_guards k_initialized_rn_M k_code_y_M_guards_prog_6_method_21_code_3_some_boolean) rfl rfl rfl (by decide +kernel) ⟨Nat.le_of_ble_eq_true rfl, Nat.le_of_ble_eq_true rfl⟩) (va_recv hK hP (ci := 4) (q0 := 0) rfl rfl) hP hK hZ hS rfl hl.1 rfl (Nat.le_of_ble_eq_true rfl) d_M_touch_149 ⟨Nat.zero_le _, Nat.zero_le _⟩ (fun r_149 u_149 H locs hw hP hS => ?_)
                  subst hw
                  have hP : va_P D vwCl (mw cI cZ a w h (fun p => rt_b (decide (Q p ≠ 0))) (fun p => nI (rt_g Q p)) (fun p => nI (rt_s Q p)) (fun i => nI (L i)) cn th kf (fun p => rt_b (Z p)) pf) H := hP
                  refine rw_bne (tgt := 169) hx hb d_M_touch_152 (by decide) (fun c_152 => ?_) (fun c_152 => ?_)
                  · refine lv_iinc (v := (nI (i + 1))) (lv' := [(3, .int (nI (i + 1))), (0, .ref (a 0)), (1, .int (nI (k))), (2, .int (nI (q)))]) hx hb d_M_touch_169 hl (k := 3) rfl (nI_add _ _) (by decide) rfl (fun ls hl => ?_)
                    refine lv_goto (tgt := 101) hx hb d_M_touch_172 (by decide) ?_
                    exact ih_101 (i + 1) (by omega) (fun e9 h9 => by rcases Nat.lt_or_ge e9 i with z | z; exact hI e9 z; rw [show e9 = i by omega]; exact rt_te_f (Or.inr (Or.inr (Or.inr (Or.inl c_152))))) _ _ _ hP hS (lv_sub hl [1, 2, 3, 0] rfl)
                  · refine lv_aload_n hx hb d_M_touch_155 rfl (lv_at hl 0 rfl) ?_
                    refine lv_iload_n hx hb d_M_touch_156 rfl (lv_at hl 2 rfl) ?_
                    refine lv_iload_n hx hb d_M_touch_157 rfl (lv_at hl 3 rfl) ?_
                    refine w_si (As := [.int (nI (i))]) (rest := [.int (nI (q)), .ref (a 0)]) ⟨hx, hb, hml, hown, hts⟩ (c_M_other l D cI cZ g a ha w h Q L cn th kf Z pf i hG (by omega)) (va_cwS 1 hts (t_gS k_methodLink_rn_M_72_y_M_other k_static_y_M_other k_initialized_rn_M k_code_y_M_other_prog_6_method_17_code_1_some_int) rfl rfl rfl (by decide +kernel) ⟨Nat.le_of_ble_eq_true rfl, Nat.le_of_ble_eq_true rfl⟩) hP hK hZ hS rfl hl.1 rfl (Nat.le_of_ble_eq_true rfl) d_M_touch_158 ⟨Nat.zero_le _, Nat.zero_le _⟩ (fun r_158 u_158 H locs hw hP hS => ?_)
                    subst hw
                    have hP : va_P D vwCl (mw cI cZ a w h (fun p => rt_b (decide (Q p ≠ 0))) (fun p => nI (rt_g Q p)) (fun p => nI (rt_s Q p)) (fun i => nI (L i)) cn th kf (fun p => rt_b (Z p)) pf) H := hP
                    have hmo := rt_mo_lt i (by omega)
                    refine w_ci (As := [.int (nI (q)), .int (nI (rt_mo i))]) (rest := []) ⟨hx, hb, hml, hown, hts⟩ (c_M_guards l D cI cZ g a ha w h Q L cn th kf Z pf q (rt_mo i) hG hq hmo) (cwV 2 hts (t_gV k_methodLink_rn_M_85_y_M_guards k_instanceMethod_y_M_guards k_selects_rn_M_y_M_guards_y_M_guards k_initialized_rn_M k_code_y_M_guards_prog_6_method_21_code_3_some_boolean) rfl rfl rfl (by decide +kernel) ⟨Nat.le_of_ble_eq_true rfl, Nat.le_of_ble_eq_true rfl⟩) (va_recv hK hP (ci := 4) (q0 := 0) rfl rfl) hP hK hZ hS rfl hl.1 rfl (Nat.le_of_ble_eq_true rfl) d_M_touch_161 ⟨Nat.zero_le _, Nat.zero_le _⟩ (fun r_161 u_161 H locs hw hP hS => ?_)
                    subst hw
                    have hP : va_P D vwCl (mw cI cZ a w h (fun p => rt_b (decide (Q p ≠ 0))) (fun p => nI (rt_g Q p)) (fun p => nI (rt_s Q p)) (fun i => nI (L i)) cn th kf (fun p => rt_b (Z p)) pf) H := hP
                    refine rw_bne (tgt := 169) hx hb d_M_touch_164 (by decide) (fun c_164 => ?_) (fun c_164 => ?_)
                    · refine lv_iinc (v := (nI (i + 1))) (lv' := [(3, .int (nI (i + 1))), (0, .ref (a 0)), (1, .int (nI (k))), (2, .int (nI (q)))]) hx hb d_M_touch_169 hl (k := 3) rfl (nI_add _ _) (by decide) rfl (fun ls hl => ?_)
                      refine lv_goto (tgt := 101) hx hb d_M_touch_172 (by decide) ?_
                      exact ih_101 (i + 1) (by omega) (fun e9 h9 => by rcases Nat.lt_or_ge e9 i with z | z; exact hI e9 z; rw [show e9 = i by omega]; exact rt_te_f (Or.inr (Or.inr (Or.inr (Or.inr c_164))))) _ _ _ hP hS (lv_sub hl [1, 2, 3, 0] rfl)
                    · refine lv_iconst (v := (nI (1))) hx hb d_M_touch_167 (by decide) ?_
                      exact w_zret (v := true) () hx hb hr hlocks hS hP (congrArg rt_b (rt_tm_t c_8 (show i < 4 by omega) (rt_te_t ho_115 c_119 c_131 c_143 c_152 c_164)).symm) d_M_touch_168
            · refine lv_goto (tgt := 169) hx hb d_M_touch_122 (by decide) ?_
              refine lv_iinc (v := (nI (i + 1))) (lv' := [(3, .int (nI (i + 1))), (0, .ref (a 0)), (1, .int (nI (k))), (2, .int (nI (q)))]) hx hb d_M_touch_169 hl (k := 3) rfl (nI_add _ _) (by decide) rfl (fun ls hl => ?_)
              refine lv_goto (tgt := 101) hx hb d_M_touch_172 (by decide) ?_
              exact ih_101 (i + 1) (by omega) (fun e9 h9 => by rcases Nat.lt_or_ge e9 i with z | z; exact hI e9 z; rw [show e9 = i by omega]; exact rt_te_f (Or.inl (fun z9 => by rw [ho_115] at z9; exact c_119 (Option.some.inj z9)))) _ _ _ hP hS (lv_sub hl [1, 2, 3, 0] rfl)
    exact LP_101 4 0 (by omega) (fun e9 h9 => absurd h9 (Nat.not_lt_zero _)) _ _ _ hP hS (lv_sub hl [1, 2, 3, 0] rfl)
  · refine lv_iload_n hx hb d_M_touch_11 rfl (lv_at hl 1 rfl) ?_
    refine lv_bipush (v := (nI (6))) hx hb d_M_touch_12 (by decide) ?_
    refine rw_rem hx hb d_M_touch_14 (by omega) (by omega) (by omega) ?_
    refine lv_iload_n hx hb d_M_touch_15 rfl (lv_at hl 2 rfl) ?_
    refine lv_bipush (v := (nI (6))) hx hb d_M_touch_16 (by decide) ?_
    refine rw_rem hx hb d_M_touch_18 (by omega) (by omega) (by omega) ?_
    refine rw_add hx hb d_M_touch_19 ?_
    refine lv_bipush (v := (nI (6))) hx hb d_M_touch_20 (by decide) ?_
    refine rw_cne (tgt := 52) hx hb d_M_touch_22 (by decide) (by omega) (by omega) (fun c_22 => ?_) (fun c_22 => ?_)
    · refine lv_iload_n hx hb d_M_touch_52 rfl (lv_at hl 1 rfl) ?_
      refine lv_bipush (v := (nI (6))) hx hb d_M_touch_53 (by decide) ?_
      refine rw_rem hx hb d_M_touch_55 (by omega) (by omega) (by omega) ?_
      refine lv_iload_n hx hb d_M_touch_56 rfl (lv_at hl 2 rfl) ?_
      refine lv_bipush (v := (nI (6))) hx hb d_M_touch_57 (by decide) ?_
      refine rw_rem hx hb d_M_touch_59 (by omega) (by omega) (by omega) ?_
      refine rw_add hx hb d_M_touch_60 ?_
      refine lv_bipush (v := (nI (8))) hx hb d_M_touch_61 (by decide) ?_
      refine rw_cne (tgt := 93) hx hb d_M_touch_63 (by decide) (by omega) (by omega) (fun c_63 => ?_) (fun c_63 => ?_)
      · refine lv_iconst (v := (nI (1))) hx hb d_M_touch_93 (by decide) ?_
        refine lv_goto (tgt := 98) hx hb d_M_touch_94 (by decide) ?_
        exact w_zret (v := true) () hx hb hr hlocks hS hP (congrArg rt_b (by rw [rt_tm_s c_8]; exact (rt_km_t (by omega)).symm)) d_M_touch_98
      · refine lv_iload_n hx hb d_M_touch_66 rfl (lv_at hl 1 rfl) ?_
        refine lv_bipush (v := (nI (6))) hx hb d_M_touch_67 (by decide) ?_
        refine rw_rem hx hb d_M_touch_69 (by omega) (by omega) (by omega) ?_
        refine lv_iload_n hx hb d_M_touch_70 rfl (lv_at hl 2 rfl) ?_
        refine lv_bipush (v := (nI (6))) hx hb d_M_touch_71 (by decide) ?_
        refine rw_rem hx hb d_M_touch_73 (by omega) (by omega) (by omega) ?_
        refine rw_ceq (tgt := 93) hx hb d_M_touch_74 (by decide) (by omega) (by omega) (fun c_74 => ?_) (fun c_74 => ?_)
        · refine lv_iconst (v := (nI (1))) hx hb d_M_touch_93 (by decide) ?_
          refine lv_goto (tgt := 98) hx hb d_M_touch_94 (by decide) ?_
          exact w_zret (v := true) () hx hb hr hlocks hS hP (congrArg rt_b (by rw [rt_tm_s c_8]; exact (rt_km_t (by omega)).symm)) d_M_touch_98
        · refine lv_iload_n hx hb d_M_touch_77 rfl (lv_at hl 1 rfl) ?_
          refine lv_bipush (v := (nI (6))) hx hb d_M_touch_78 (by decide) ?_
          refine rw_rem hx hb d_M_touch_80 (by omega) (by omega) (by omega) ?_
          refine lv_iconst (v := (nI (3))) hx hb d_M_touch_81 (by decide) ?_
          refine rw_ceq (tgt := 97) hx hb d_M_touch_82 (by decide) (by omega) (by omega) (fun c_82 => ?_) (fun c_82 => ?_)
          · refine lv_iconst (v := (nI (0))) hx hb d_M_touch_97 (by decide) ?_
            exact w_zret (v := false) () hx hb hr hlocks hS hP (congrArg rt_b (by rw [rt_tm_s c_8]; exact (rt_km_f (by omega)).symm)) d_M_touch_98
          · refine lv_iload_n hx hb d_M_touch_85 rfl (lv_at hl 1 rfl) ?_
            refine lv_bipush (v := (nI (6))) hx hb d_M_touch_86 (by decide) ?_
            refine rw_rem hx hb d_M_touch_88 (by omega) (by omega) (by omega) ?_
            refine lv_iconst (v := (nI (5))) hx hb d_M_touch_89 (by decide) ?_
            refine rw_ceq (tgt := 97) hx hb d_M_touch_90 (by decide) (by omega) (by omega) (fun c_90 => ?_) (fun c_90 => ?_)
            · refine lv_iconst (v := (nI (0))) hx hb d_M_touch_97 (by decide) ?_
              exact w_zret (v := false) () hx hb hr hlocks hS hP (congrArg rt_b (by rw [rt_tm_s c_8]; exact (rt_km_f (by omega)).symm)) d_M_touch_98
            · refine lv_iconst (v := (nI (1))) hx hb d_M_touch_93 (by decide) ?_
              refine lv_goto (tgt := 98) hx hb d_M_touch_94 (by decide) ?_
              exact w_zret (v := true) () hx hb hr hlocks hS hP (congrArg rt_b (by rw [rt_tm_s c_8]; exact (rt_km_t (by omega)).symm)) d_M_touch_98
    · refine lv_iload_n hx hb d_M_touch_25 rfl (lv_at hl 1 rfl) ?_
      refine lv_bipush (v := (nI (6))) hx hb d_M_touch_26 (by decide) ?_
      refine rw_rem hx hb d_M_touch_28 (by omega) (by omega) (by omega) ?_
      refine lv_iload_n hx hb d_M_touch_29 rfl (lv_at hl 2 rfl) ?_
      refine lv_bipush (v := (nI (6))) hx hb d_M_touch_30 (by decide) ?_
      refine rw_rem hx hb d_M_touch_32 (by omega) (by omega) (by omega) ?_
      refine rw_ceq (tgt := 52) hx hb d_M_touch_33 (by decide) (by omega) (by omega) (fun c_33 => ?_) (fun c_33 => ?_)
      · refine lv_iload_n hx hb d_M_touch_52 rfl (lv_at hl 1 rfl) ?_
        refine lv_bipush (v := (nI (6))) hx hb d_M_touch_53 (by decide) ?_
        refine rw_rem hx hb d_M_touch_55 (by omega) (by omega) (by omega) ?_
        refine lv_iload_n hx hb d_M_touch_56 rfl (lv_at hl 2 rfl) ?_
        refine lv_bipush (v := (nI (6))) hx hb d_M_touch_57 (by decide) ?_
        refine rw_rem hx hb d_M_touch_59 (by omega) (by omega) (by omega) ?_
        refine rw_add hx hb d_M_touch_60 ?_
        refine lv_bipush (v := (nI (8))) hx hb d_M_touch_61 (by decide) ?_
        refine rw_cne (tgt := 93) hx hb d_M_touch_63 (by decide) (by omega) (by omega) (fun c_63 => ?_) (fun c_63 => ?_)
        · refine lv_iconst (v := (nI (1))) hx hb d_M_touch_93 (by decide) ?_
          refine lv_goto (tgt := 98) hx hb d_M_touch_94 (by decide) ?_
          exact w_zret (v := true) () hx hb hr hlocks hS hP (congrArg rt_b (by rw [rt_tm_s c_8]; exact (rt_km_t (by omega)).symm)) d_M_touch_98
        · refine lv_iload_n hx hb d_M_touch_66 rfl (lv_at hl 1 rfl) ?_
          refine lv_bipush (v := (nI (6))) hx hb d_M_touch_67 (by decide) ?_
          refine rw_rem hx hb d_M_touch_69 (by omega) (by omega) (by omega) ?_
          refine lv_iload_n hx hb d_M_touch_70 rfl (lv_at hl 2 rfl) ?_
          refine lv_bipush (v := (nI (6))) hx hb d_M_touch_71 (by decide) ?_
          refine rw_rem hx hb d_M_touch_73 (by omega) (by omega) (by omega) ?_
          refine rw_ceq (tgt := 93) hx hb d_M_touch_74 (by decide) (by omega) (by omega) (fun c_74 => ?_) (fun c_74 => ?_)
          · refine lv_iconst (v := (nI (1))) hx hb d_M_touch_93 (by decide) ?_
            refine lv_goto (tgt := 98) hx hb d_M_touch_94 (by decide) ?_
            exact w_zret (v := true) () hx hb hr hlocks hS hP (congrArg rt_b (by rw [rt_tm_s c_8]; exact (rt_km_t (by omega)).symm)) d_M_touch_98
          · refine lv_iload_n hx hb d_M_touch_77 rfl (lv_at hl 1 rfl) ?_
            refine lv_bipush (v := (nI (6))) hx hb d_M_touch_78 (by decide) ?_
            refine rw_rem hx hb d_M_touch_80 (by omega) (by omega) (by omega) ?_
            refine lv_iconst (v := (nI (3))) hx hb d_M_touch_81 (by decide) ?_
            refine rw_ceq (tgt := 97) hx hb d_M_touch_82 (by decide) (by omega) (by omega) (fun c_82 => ?_) (fun c_82 => ?_)
            · refine lv_iconst (v := (nI (0))) hx hb d_M_touch_97 (by decide) ?_
              exact w_zret (v := false) () hx hb hr hlocks hS hP (congrArg rt_b (by rw [rt_tm_s c_8]; exact (rt_km_f (by omega)).symm)) d_M_touch_98
            · refine lv_iload_n hx hb d_M_touch_85 rfl (lv_at hl 1 rfl) ?_
              refine lv_bipush (v := (nI (6))) hx hb d_M_touch_86 (by decide) ?_
              refine rw_rem hx hb d_M_touch_88 (by omega) (by omega) (by omega) ?_
              refine lv_iconst (v := (nI (5))) hx hb d_M_touch_89 (by decide) ?_
              refine rw_ceq (tgt := 97) hx hb d_M_touch_90 (by decide) (by omega) (by omega) (fun c_90 => ?_) (fun c_90 => ?_)
              · refine lv_iconst (v := (nI (0))) hx hb d_M_touch_97 (by decide) ?_
                exact w_zret (v := false) () hx hb hr hlocks hS hP (congrArg rt_b (by rw [rt_tm_s c_8]; exact (rt_km_f (by omega)).symm)) d_M_touch_98
              · refine lv_iconst (v := (nI (1))) hx hb d_M_touch_93 (by decide) ?_
                refine lv_goto (tgt := 98) hx hb d_M_touch_94 (by decide) ?_
                exact w_zret (v := true) () hx hb hr hlocks hS hP (congrArg rt_b (by rw [rt_tm_s c_8]; exact (rt_km_t (by omega)).symm)) d_M_touch_98
      · refine lv_iload_n hx hb d_M_touch_36 rfl (lv_at hl 1 rfl) ?_
        refine lv_bipush (v := (nI (6))) hx hb d_M_touch_37 (by decide) ?_
        refine rw_rem hx hb d_M_touch_39 (by omega) (by omega) (by omega) ?_
        refine lv_iconst (v := (nI (2))) hx hb d_M_touch_40 (by decide) ?_
        refine rw_ceq (tgt := 97) hx hb d_M_touch_41 (by decide) (by omega) (by omega) (fun c_41 => ?_) (fun c_41 => ?_)
        · refine lv_iconst (v := (nI (0))) hx hb d_M_touch_97 (by decide) ?_
          exact w_zret (v := false) () hx hb hr hlocks hS hP (congrArg rt_b (by rw [rt_tm_s c_8]; exact (rt_km_f (by omega)).symm)) d_M_touch_98
        · refine lv_iload_n hx hb d_M_touch_44 rfl (lv_at hl 1 rfl) ?_
          refine lv_bipush (v := (nI (6))) hx hb d_M_touch_45 (by decide) ?_
          refine rw_rem hx hb d_M_touch_47 (by omega) (by omega) (by omega) ?_
          refine lv_iconst (v := (nI (4))) hx hb d_M_touch_48 (by decide) ?_
          refine rw_ceq (tgt := 97) hx hb d_M_touch_49 (by decide) (by omega) (by omega) (fun c_49 => ?_) (fun c_49 => ?_)
          · refine lv_iconst (v := (nI (0))) hx hb d_M_touch_97 (by decide) ?_
            exact w_zret (v := false) () hx hb hr hlocks hS hP (congrArg rt_b (by rw [rt_tm_s c_8]; exact (rt_km_f (by omega)).symm)) d_M_touch_98
          · refine lv_iload_n hx hb d_M_touch_52 rfl (lv_at hl 1 rfl) ?_
            refine lv_bipush (v := (nI (6))) hx hb d_M_touch_53 (by decide) ?_
            refine rw_rem hx hb d_M_touch_55 (by omega) (by omega) (by omega) ?_
            refine lv_iload_n hx hb d_M_touch_56 rfl (lv_at hl 2 rfl) ?_
            refine lv_bipush (v := (nI (6))) hx hb d_M_touch_57 (by decide) ?_
            refine rw_rem hx hb d_M_touch_59 (by omega) (by omega) (by omega) ?_
            refine rw_add hx hb d_M_touch_60 ?_
            refine lv_bipush (v := (nI (8))) hx hb d_M_touch_61 (by decide) ?_
            refine rw_cne (tgt := 93) hx hb d_M_touch_63 (by decide) (by omega) (by omega) (fun c_63 => ?_) (fun c_63 => ?_)
            · refine lv_iconst (v := (nI (1))) hx hb d_M_touch_93 (by decide) ?_
              refine lv_goto (tgt := 98) hx hb d_M_touch_94 (by decide) ?_
              exact w_zret (v := true) () hx hb hr hlocks hS hP (congrArg rt_b (by rw [rt_tm_s c_8]; exact (rt_km_t (by omega)).symm)) d_M_touch_98
            · refine lv_iload_n hx hb d_M_touch_66 rfl (lv_at hl 1 rfl) ?_
              refine lv_bipush (v := (nI (6))) hx hb d_M_touch_67 (by decide) ?_
              refine rw_rem hx hb d_M_touch_69 (by omega) (by omega) (by omega) ?_
              refine lv_iload_n hx hb d_M_touch_70 rfl (lv_at hl 2 rfl) ?_
              refine lv_bipush (v := (nI (6))) hx hb d_M_touch_71 (by decide) ?_
              refine rw_rem hx hb d_M_touch_73 (by omega) (by omega) (by omega) ?_
              refine rw_ceq (tgt := 93) hx hb d_M_touch_74 (by decide) (by omega) (by omega) (fun c_74 => ?_) (fun c_74 => ?_)
              · refine lv_iconst (v := (nI (1))) hx hb d_M_touch_93 (by decide) ?_
                refine lv_goto (tgt := 98) hx hb d_M_touch_94 (by decide) ?_
                exact w_zret (v := true) () hx hb hr hlocks hS hP (congrArg rt_b (by rw [rt_tm_s c_8]; exact (rt_km_t (by omega)).symm)) d_M_touch_98
              · refine lv_iload_n hx hb d_M_touch_77 rfl (lv_at hl 1 rfl) ?_
                refine lv_bipush (v := (nI (6))) hx hb d_M_touch_78 (by decide) ?_
                refine rw_rem hx hb d_M_touch_80 (by omega) (by omega) (by omega) ?_
                refine lv_iconst (v := (nI (3))) hx hb d_M_touch_81 (by decide) ?_
                refine rw_ceq (tgt := 97) hx hb d_M_touch_82 (by decide) (by omega) (by omega) (fun c_82 => ?_) (fun c_82 => ?_)
                · refine lv_iconst (v := (nI (0))) hx hb d_M_touch_97 (by decide) ?_
                  exact w_zret (v := false) () hx hb hr hlocks hS hP (congrArg rt_b (by rw [rt_tm_s c_8]; exact (rt_km_f (by omega)).symm)) d_M_touch_98
                · refine lv_iload_n hx hb d_M_touch_85 rfl (lv_at hl 1 rfl) ?_
                  refine lv_bipush (v := (nI (6))) hx hb d_M_touch_86 (by decide) ?_
                  refine rw_rem hx hb d_M_touch_88 (by omega) (by omega) (by omega) ?_
                  refine lv_iconst (v := (nI (5))) hx hb d_M_touch_89 (by decide) ?_
                  refine rw_ceq (tgt := 97) hx hb d_M_touch_90 (by decide) (by omega) (by omega) (fun c_90 => ?_) (fun c_90 => ?_)
                  · refine lv_iconst (v := (nI (0))) hx hb d_M_touch_97 (by decide) ?_
                    exact w_zret (v := false) () hx hb hr hlocks hS hP (congrArg rt_b (by rw [rt_tm_s c_8]; exact (rt_km_f (by omega)).symm)) d_M_touch_98
                  · refine lv_iconst (v := (nI (1))) hx hb d_M_touch_93 (by decide) ?_
                    refine lv_goto (tgt := 98) hx hb d_M_touch_94 (by decide) ?_
                    exact w_zret (v := true) () hx hb hr hlocks hS hP (congrArg rt_b (by rw [rt_tm_s c_8]; exact (rt_km_t (by omega)).symm)) d_M_touch_98

set_option maxHeartbeats 4000000 in
set_option maxRecDepth 100000 in
theorem c_M_lay (l : Launch) (D : va_G) (cI cZ : ClassId) (g a : Nat → Nat) (ha : mI a) (w h : Nat) (Q L : Nat → Nat) (cn : Nat) (th : Int32) (kf : Nat → Int32) (Z : Nat → Bool) (pf : Nat → Int32) (x y : Int32) (hG : rt_G w h Q) (hL : rt_isL Q L cn) : Met l y_M_lay (.code y_M_lay b_M_lay 3 none :: tG) ({ frames := 1, cells := 0, slots := 0, locals := 21 }) (va_Pc [.ref (a 0), .int (x), .int (y)] (wU D cI cZ g (mA a) (mw cI cZ a w h (fun p => rt_b (decide (Q p ≠ 0))) (fun p => nI (rt_g Q p)) (fun p => nI (rt_s Q p)) (fun i => nI (L i)) cn th kf (fun p => rt_b (Z p)) pf))) (va_Qv (S := ((Nat → Nat) × (Nat → Nat) × Nat × Int32)) (fun u => u.2.2.2 = nI (rt_lay Q (w * h) x y).1 ∧ u.1 = (rt_lay Q (w * h) x y).2 ∧ rt_isL u.1 u.2.1 u.2.2.1) (wB D (fun (u : ((Nat → Nat) × (Nat → Nat) × Nat × Int32)) => (mw cI cZ a w h (fun p => rt_b (decide (u.1 p ≠ 0))) (fun p => nI (rt_g u.1 p)) (fun p => nI (rt_s u.1 p)) (fun i => nI (u.2.1 i)) u.2.2.1 u.2.2.2 kf (fun p => rt_b (Z p)) pf))) (mA a)) 0 0 (mA a) := by
  refine Met.ofW (cc := b_M_lay) (maxL := 3) (ret := none) (by decide) rfl ?_
  intro p e s m args below meth c s₁ BD9 hml hv
  obtain ⟨rfl, hP, hK, hZ⟩ := hv
  have hx := BD9.exec
  have hb := BD9.bytes
  have hr := BD9.returns
  have hts : ∀ w ∈ tG, w.before _ s = true := fun w hw => atoms_spec (ws := .code y_M_lay b_M_lay 3 none :: tG) BD9.pre w (List.mem_cons_of_mem _ hw)
  have hown : s.vm.findClass rn_M = some m.cls := findClass_of_methodNamed BD9.named
  have hlocks := BD9.notSynchronized
  have hS : va_S (mA a) s.heap s.heap [] := va_S.rf
  have hD : va_D (mA a) (mw cI cZ a w h (fun p => rt_b (decide (Q p ≠ 0))) (fun p => nI (rt_g Q p)) (fun p => nI (rt_s Q p)) (fun i => nI (L i)) cn th kf (fun p => rt_b (Z p)) pf) := m_D ha _ rfl
  have hP : va_P D vwCl (mw cI cZ a w h (fun p => rt_b (decide (Q p ≠ 0))) (fun p => nI (rt_g Q p)) (fun p => nI (rt_s Q p)) (fun i => nI (L i)) cn th kf (fun p => rt_b (Z p)) pf) s.heap := hP
  have hl := lv_entry ([.ref (a 0), .int (x), .int (y)]) (n := 3) (Nat.le_of_ble_eq_true rfl)
  rw [lg_entry_eq]
  generalize (lg_sl ([.ref (a 0), .int (x), .int (y)]) ++ List.replicate (3 - (lg_sl ([.ref (a 0), .int (x), .int (y)])).length) Slot.unset).toArray = ls at hl ⊢
  have hl : lv_has ls 3 [(0, .ref (a 0)), (1, .int (x)), (2, .int (y))] := hl
  obtain ⟨hn1, hn⟩ := hG.n
  have hw0 : 0 < w := by have := hG.1.1; omega
  have hQ := hG.2.2
  have hcn := rt_isL_cap hQ hL
  refine lv_aload_n hx hb d_M_lay_0 rfl (lv_at hl 0 rfl) ?_
  refine lv_aload_n hx hb d_M_lay_1 rfl (lv_at hl 0 rfl) ?_
  refine lv_iload_n hx hb d_M_lay_2 rfl (lv_at hl 1 rfl) ?_
  refine w_ci (As := [.int (x)]) (rest := [.ref (a 0)]) ⟨hx, hb, hml, hown, hts⟩ (c_M_isTile l D cI cZ g a ha w h Q L cn th kf Z pf x hG) (cwV 1 hts (t_gV k_methodLink_rn_M_45_y_M_isTile k_instanceMethod_y_M_isTile k_selects_rn_M_y_M_isTile_y_M_isTile k_initialized_rn_M k_code_y_M_isTile_prog_6_method_3_code_2_some_boolean) rfl rfl rfl (by decide +kernel) ⟨Nat.le_of_ble_eq_true rfl, Nat.le_of_ble_eq_true rfl⟩) (va_recv hK hP (ci := 4) (q0 := 0) rfl rfl) hP hK hZ hS rfl hl.1 rfl (Nat.le_of_ble_eq_true rfl) d_M_lay_3 ⟨Nat.zero_le _, Nat.zero_le _⟩ (fun r_3 u_3 H locs hw hP hS => ?_)
  subst hw
  have hP : va_P D vwCl (mw cI cZ a w h (fun p => rt_b (decide (Q p ≠ 0))) (fun p => nI (rt_g Q p)) (fun p => nI (rt_s Q p)) (fun i => nI (L i)) cn th kf (fun p => rt_b (Z p)) pf) H := hP
  refine rw_beq (tgt := 16) hx hb d_M_lay_6 (by decide) (fun c_6 => ?_) (fun c_6 => ?_)
  · refine lv_iconst (v := (nI (1))) hx hb d_M_lay_16 (by decide) ?_
    refine lv_goto (tgt := 39) hx hb d_M_lay_17 (by decide) ?_
    refine va_put (D := D) (ci := 4) (v := .int (nI (1))) (ty := .int) (C := rn_M) (T := tf_M) (N := 12) hx hb hts in_M tt_M tt_M_ok nm_M hown hK hP hD hS 0 rfl rfl 1 (by decide) (hts _ k_fieldLink_rn_M_42_rn_M_thrown_I) (fun _ h9 => h9) rfl (by decide +kernel) rfl rfl (Nat.le_of_ble_eq_true rfl) d_M_lay_39 (fun H locs hP hD hS => ?_)
    have hP : va_P D vwCl (mw cI cZ a w h (fun p => rt_b (decide (Q p ≠ 0))) (fun p => nI (rt_g Q p)) (fun p => nI (rt_s Q p)) (fun i => nI (L i)) cn (nI (1)) kf (fun p => rt_b (Z p)) pf) H := hP
    have hD : va_D (mA a) (mw cI cZ a w h (fun p => rt_b (decide (Q p ≠ 0))) (fun p => nI (rt_g Q p)) (fun p => nI (rt_s Q p)) (fun i => nI (L i)) cn (nI (1)) kf (fun p => rt_b (Z p)) pf) := m_D ha _ rfl
    refine lv_aload_n hx hb d_M_lay_42 rfl (lv_at hl 0 rfl) ?_
    refine va_get (D := D) (ci := 4) (v := .int ((nI (1)))) (C := rn_M) (T := tf_M) (N := 12) hx hb hts in_M hown hK hP 0 rfl rfl 1 (by decide) (hts _ k_fieldLink_rn_M_42_rn_M_thrown_I) (fun _ h9 => h9) rfl d_M_lay_43 ?_
    refine lv_if_le (tgt := 50) hx hb d_M_lay_46 (by decide) (fun c_46 => ?_) (fun c_46 => ?_)
    · exact absurd c_46 (by decide)
    · exact w_vret (Q, L, cn, (nI (1))) hx hb hr hlocks hS hP (by rw [(rt_lay_n (by first | exact Or.inl (rt_ix_no c_6) | exact Or.inr (rt_ix_no c_13))).1]; exact ⟨rfl, rfl, hL⟩) d_M_lay_49
  · obtain ⟨t, ht, rfl⟩ := rt_ix_is (by omega) c_6
    refine lv_iload_n hx hb d_M_lay_9 rfl (lv_at hl 2 rfl) ?_
    refine w_si (As := [.int (y)]) (rest := [.ref (a 0)]) ⟨hx, hb, hml, hown, hts⟩ (c_M_isKind l D cI cZ g a ha w h Q L cn th kf Z pf y hG) (va_cwS 1 hts (t_gS k_methodLink_rn_M_49_y_M_isKind k_static_y_M_isKind k_initialized_rn_M k_code_y_M_isKind_prog_6_method_4_code_1_some_boolean) rfl rfl rfl (by decide +kernel) ⟨Nat.le_of_ble_eq_true rfl, Nat.le_of_ble_eq_true rfl⟩) hP hK hZ hS rfl hl.1 rfl (Nat.le_of_ble_eq_true rfl) d_M_lay_10 ⟨Nat.zero_le _, Nat.zero_le _⟩ (fun r_10 u_10 H locs hw hP hS => ?_)
    subst hw
    have hP : va_P D vwCl (mw cI cZ a w h (fun p => rt_b (decide (Q p ≠ 0))) (fun p => nI (rt_g Q p)) (fun p => nI (rt_s Q p)) (fun i => nI (L i)) cn th kf (fun p => rt_b (Z p)) pf) H := hP
    refine rw_bne (tgt := 20) hx hb d_M_lay_13 (by decide) (fun c_13 => ?_) (fun c_13 => ?_)
    · obtain ⟨k, hk, rfl⟩ := rt_ix_is (by omega) c_13
      refine lv_aload_n hx hb d_M_lay_20 rfl (lv_at hl 0 rfl) ?_
      refine va_get (D := D) (ci := 4) (v := .ref (a 2)) (C := rn_M) (T := tf_M) (N := 12) hx hb hts in_M hown hK hP 0 rfl rfl 4 (by decide) (hts _ k_fieldLink_rn_M_13_rn_M_there_Z) (fun _ h9 => h9) rfl d_M_lay_21 ?_
      refine lv_bipush (v := (nI (6))) hx hb d_M_lay_24 (by decide) ?_
      refine lv_iload_n hx hb d_M_lay_26 rfl (lv_at hl 1 rfl) ?_
      refine rw_mul hx hb d_M_lay_27 ?_
      refine lv_iload_n hx hb d_M_lay_28 rfl (lv_at hl 2 rfl) ?_
      refine rw_add hx hb d_M_lay_29 ?_
      refine rw_zald (v := (rt_b (decide (Q ((6 * t) + k) ≠ 0)))) hx hb hK hP 2 1 rfl rfl (by omega) (by omega) (rfl) d_M_lay_30 ?_
      refine rw_beq (tgt := 38) hx hb d_M_lay_31 (by decide) (fun c_31 => ?_) (fun c_31 => ?_)
      · have hq0 : Q (6 * t + k) = 0 := Decidable.not_not.mp (of_decide_eq_false c_31)
        have hL1 := rt_isL_lay (v := 1) hL hq0 (by decide)
        have hc1 := rt_isL_cap (rt_ok_put (g := 0) (s := 0) hQ (show (6 * t + k) < 6 * (w * h) by omega) (by decide) (by decide)) hL1
        refine lv_iconst (v := (nI (0))) hx hb d_M_lay_38 (by decide) ?_
        refine va_put (D := D) (ci := 4) (v := .int (nI (0))) (ty := .int) (C := rn_M) (T := tf_M) (N := 12) hx hb hts in_M tt_M tt_M_ok nm_M hown hK hP hD hS 0 rfl rfl 1 (by decide) (hts _ k_fieldLink_rn_M_42_rn_M_thrown_I) (fun _ h9 => h9) rfl (by decide +kernel) rfl rfl (Nat.le_of_ble_eq_true rfl) d_M_lay_39 (fun H locs hP hD hS => ?_)
        have hP : va_P D vwCl (mw cI cZ a w h (fun p => rt_b (decide (Q p ≠ 0))) (fun p => nI (rt_g Q p)) (fun p => nI (rt_s Q p)) (fun i => nI (L i)) cn (nI (0)) kf (fun p => rt_b (Z p)) pf) H := hP
        have hD : va_D (mA a) (mw cI cZ a w h (fun p => rt_b (decide (Q p ≠ 0))) (fun p => nI (rt_g Q p)) (fun p => nI (rt_s Q p)) (fun i => nI (L i)) cn (nI (0)) kf (fun p => rt_b (Z p)) pf) := m_D ha _ rfl
        refine lv_aload_n hx hb d_M_lay_42 rfl (lv_at hl 0 rfl) ?_
        refine va_get (D := D) (ci := 4) (v := .int ((nI (0)))) (C := rn_M) (T := tf_M) (N := 12) hx hb hts in_M hown hK hP 0 rfl rfl 1 (by decide) (hts _ k_fieldLink_rn_M_42_rn_M_thrown_I) (fun _ h9 => h9) rfl d_M_lay_43 ?_
        refine lv_if_le (tgt := 50) hx hb d_M_lay_46 (by decide) (fun c_46 => ?_) (fun c_46 => ?_)
        · refine lv_aload_n hx hb d_M_lay_50 rfl (lv_at hl 0 rfl) ?_
          refine va_get (D := D) (ci := 4) (v := .ref (a 2)) (C := rn_M) (T := tf_M) (N := 12) hx hb hts in_M hown hK hP 0 rfl rfl 4 (by decide) (hts _ k_fieldLink_rn_M_13_rn_M_there_Z) (fun _ h9 => h9) rfl d_M_lay_51 ?_
          refine lv_bipush (v := (nI (6))) hx hb d_M_lay_54 (by decide) ?_
          refine lv_iload_n hx hb d_M_lay_56 rfl (lv_at hl 1 rfl) ?_
          refine rw_mul hx hb d_M_lay_57 ?_
          refine lv_iload_n hx hb d_M_lay_58 rfl (lv_at hl 2 rfl) ?_
          refine rw_add hx hb d_M_lay_59 ?_
          refine lv_iconst (v := (nI (1))) hx hb d_M_lay_60 (by decide) ?_
          refine rw_zast (h := (fun p => rt_b (va_up (fun p => decide (Q p ≠ 0)) (6 * t + k) true p))) hx hb hK hP hD hS 2 1 rfl rfl (by omega) (by omega) (fun j _ => rt_updb (fun p => decide (Q p ≠ 0)) (6 * t + k) true j) d_M_lay_61 (fun H locs hP hD hS => ?_)
          have hP : va_P D vwCl (mw cI cZ a w h (fun p => rt_b (va_up (fun p => decide (Q p ≠ 0)) (6 * t + k) true p)) (fun p => nI (rt_g Q p)) (fun p => nI (rt_s Q p)) (fun i => nI (L i)) cn (nI (0)) kf (fun p => rt_b (Z p)) pf) H := hP
          have hD : va_D (mA a) (mw cI cZ a w h (fun p => rt_b (va_up (fun p => decide (Q p ≠ 0)) (6 * t + k) true p)) (fun p => nI (rt_g Q p)) (fun p => nI (rt_s Q p)) (fun i => nI (L i)) cn (nI (0)) kf (fun p => rt_b (Z p)) pf) := m_D ha _ rfl
          refine lv_aload_n hx hb d_M_lay_62 rfl (lv_at hl 0 rfl) ?_
          refine va_get (D := D) (ci := 4) (v := .ref (a 5)) (C := rn_M) (T := tf_M) (N := 12) hx hb hts in_M hown hK hP 0 rfl rfl 7 (by decide) (hts _ k_fieldLink_rn_M_23_rn_M_list_I) (fun _ h9 => h9) rfl d_M_lay_63 ?_
          refine lv_aload_n hx hb d_M_lay_66 rfl (lv_at hl 0 rfl) ?_
          refine va_get (D := D) (ci := 4) (v := .int (nI (cn))) (C := rn_M) (T := tf_M) (N := 12) hx hb hts in_M hown hK hP 0 rfl rfl 8 (by decide) (hts _ k_fieldLink_rn_M_52_rn_M_pieces_I) (fun _ h9 => h9) rfl d_M_lay_67 ?_
          refine lv_bipush (v := (nI (6))) hx hb d_M_lay_70 (by decide) ?_
          refine lv_iload_n hx hb d_M_lay_72 rfl (lv_at hl 1 rfl) ?_
          refine rw_mul hx hb d_M_lay_73 ?_
          refine lv_iload_n hx hb d_M_lay_74 rfl (lv_at hl 2 rfl) ?_
          refine rw_add hx hb d_M_lay_75 ?_
          refine rw_iast (h := (fun i => nI (va_up L cn (6 * t + k) i))) hx hb hK hP hD hS 5 0 rfl rfl (by omega) (by omega) (fun j _ => rt_upd L cn (6 * t + k) j) d_M_lay_76 (fun H locs hP hD hS => ?_)
          have hP : va_P D vwCl (mw cI cZ a w h (fun p => rt_b (va_up (fun p => decide (Q p ≠ 0)) (6 * t + k) true p)) (fun p => nI (rt_g Q p)) (fun p => nI (rt_s Q p)) (fun i => nI (va_up L cn (6 * t + k) i)) cn (nI (0)) kf (fun p => rt_b (Z p)) pf) H := hP
          have hD : va_D (mA a) (mw cI cZ a w h (fun p => rt_b (va_up (fun p => decide (Q p ≠ 0)) (6 * t + k) true p)) (fun p => nI (rt_g Q p)) (fun p => nI (rt_s Q p)) (fun i => nI (va_up L cn (6 * t + k) i)) cn (nI (0)) kf (fun p => rt_b (Z p)) pf) := m_D ha _ rfl
          refine lv_aload_n hx hb d_M_lay_77 rfl (lv_at hl 0 rfl) ?_
          refine lv_dup hx hb d_M_lay_78 rfl ?_
          refine va_get (D := D) (ci := 4) (v := .int (nI (cn))) (C := rn_M) (T := tf_M) (N := 12) hx hb hts in_M hown hK hP 0 rfl rfl 8 (by decide) (hts _ k_fieldLink_rn_M_52_rn_M_pieces_I) (fun _ h9 => h9) rfl d_M_lay_79 ?_
          refine lv_iconst (v := (nI (1))) hx hb d_M_lay_82 (by decide) ?_
          refine rw_add hx hb d_M_lay_83 ?_
          refine va_put (D := D) (ci := 4) (v := .int (nI (cn + 1))) (ty := .int) (C := rn_M) (T := tf_M) (N := 12) hx hb hts in_M tt_M tt_M_ok nm_M hown hK hP hD hS 0 rfl rfl 8 (by decide) (hts _ k_fieldLink_rn_M_52_rn_M_pieces_I) (fun _ h9 => h9) rfl (by decide +kernel) rfl rfl (Nat.le_of_ble_eq_true rfl) d_M_lay_84 (fun H locs hP hD hS => ?_)
          have hP : va_P D vwCl (mw cI cZ a w h (fun p => rt_b (va_up (fun p => decide (Q p ≠ 0)) (6 * t + k) true p)) (fun p => nI (rt_g Q p)) (fun p => nI (rt_s Q p)) (fun i => nI (va_up L cn (6 * t + k) i)) (cn + 1) (nI (0)) kf (fun p => rt_b (Z p)) pf) H := hP
          have hD : va_D (mA a) (mw cI cZ a w h (fun p => rt_b (va_up (fun p => decide (Q p ≠ 0)) (6 * t + k) true p)) (fun p => nI (rt_g Q p)) (fun p => nI (rt_s Q p)) (fun i => nI (va_up L cn (6 * t + k) i)) (cn + 1) (nI (0)) kf (fun p => rt_b (Z p)) pf) := m_D ha _ rfl
          have hP := m_conv (tf' := fun p => rt_b (decide (va_up Q (6 * t + k) 1 p ≠ 0))) (gf' := fun p => nI (rt_g (va_up Q (6 * t + k) 1) p)) (sf' := fun p => nI (rt_s (va_up Q (6 * t + k) 1) p)) (lf' := fun i => nI (va_up L cn (6 * t + k) i)) (fun j _ => congrArg rt_b (rt_up_t Q (6 * t + k) 1 j).symm) (fun j _ => congrArg nI ((rt_up_g Q (6 * t + k) 1 j).trans (rt_up_id (rt_ok_0 hq0).1 j)).symm) (fun j _ => congrArg nI ((rt_up_sn Q (6 * t + k) 1 j).trans (rt_up_id (rt_ok_0 hq0).2 j)).symm) (fun j _ => rfl) hP
          exact w_vret (va_up Q (6 * t + k) 1, va_up L cn (6 * t + k), cn + 1, nI 0) hx hb hr hlocks hS hP (by rw [rt_lay_s (by omega) ht hk, if_neg (by omega)]; exact ⟨rfl, rfl, hL1⟩) d_M_lay_87
        · exact absurd (by decide) c_46
      · refine lv_iconst (v := (nI (2))) hx hb d_M_lay_34 (by decide) ?_
        refine lv_goto (tgt := 39) hx hb d_M_lay_35 (by decide) ?_
        refine va_put (D := D) (ci := 4) (v := .int (nI (2))) (ty := .int) (C := rn_M) (T := tf_M) (N := 12) hx hb hts in_M tt_M tt_M_ok nm_M hown hK hP hD hS 0 rfl rfl 1 (by decide) (hts _ k_fieldLink_rn_M_42_rn_M_thrown_I) (fun _ h9 => h9) rfl (by decide +kernel) rfl rfl (Nat.le_of_ble_eq_true rfl) d_M_lay_39 (fun H locs hP hD hS => ?_)
        have hP : va_P D vwCl (mw cI cZ a w h (fun p => rt_b (decide (Q p ≠ 0))) (fun p => nI (rt_g Q p)) (fun p => nI (rt_s Q p)) (fun i => nI (L i)) cn (nI (2)) kf (fun p => rt_b (Z p)) pf) H := hP
        have hD : va_D (mA a) (mw cI cZ a w h (fun p => rt_b (decide (Q p ≠ 0))) (fun p => nI (rt_g Q p)) (fun p => nI (rt_s Q p)) (fun i => nI (L i)) cn (nI (2)) kf (fun p => rt_b (Z p)) pf) := m_D ha _ rfl
        refine lv_aload_n hx hb d_M_lay_42 rfl (lv_at hl 0 rfl) ?_
        refine va_get (D := D) (ci := 4) (v := .int ((nI (2)))) (C := rn_M) (T := tf_M) (N := 12) hx hb hts in_M hown hK hP 0 rfl rfl 1 (by decide) (hts _ k_fieldLink_rn_M_42_rn_M_thrown_I) (fun _ h9 => h9) rfl d_M_lay_43 ?_
        refine lv_if_le (tgt := 50) hx hb d_M_lay_46 (by decide) (fun c_46 => ?_) (fun c_46 => ?_)
        · exact absurd c_46 (by decide)
        · exact w_vret (Q, L, cn, (nI (2))) hx hb hr hlocks hS hP (by rw [rt_lay_s (by omega) ht hk, if_pos (of_decide_eq_true c_31)]; exact ⟨rfl, rfl, hL⟩) d_M_lay_49
    · refine lv_iconst (v := (nI (1))) hx hb d_M_lay_16 (by decide) ?_
      refine lv_goto (tgt := 39) hx hb d_M_lay_17 (by decide) ?_
      refine va_put (D := D) (ci := 4) (v := .int (nI (1))) (ty := .int) (C := rn_M) (T := tf_M) (N := 12) hx hb hts in_M tt_M tt_M_ok nm_M hown hK hP hD hS 0 rfl rfl 1 (by decide) (hts _ k_fieldLink_rn_M_42_rn_M_thrown_I) (fun _ h9 => h9) rfl (by decide +kernel) rfl rfl (Nat.le_of_ble_eq_true rfl) d_M_lay_39 (fun H locs hP hD hS => ?_)
      have hP : va_P D vwCl (mw cI cZ a w h (fun p => rt_b (decide (Q p ≠ 0))) (fun p => nI (rt_g Q p)) (fun p => nI (rt_s Q p)) (fun i => nI (L i)) cn (nI (1)) kf (fun p => rt_b (Z p)) pf) H := hP
      have hD : va_D (mA a) (mw cI cZ a w h (fun p => rt_b (decide (Q p ≠ 0))) (fun p => nI (rt_g Q p)) (fun p => nI (rt_s Q p)) (fun i => nI (L i)) cn (nI (1)) kf (fun p => rt_b (Z p)) pf) := m_D ha _ rfl
      refine lv_aload_n hx hb d_M_lay_42 rfl (lv_at hl 0 rfl) ?_
      refine va_get (D := D) (ci := 4) (v := .int ((nI (1)))) (C := rn_M) (T := tf_M) (N := 12) hx hb hts in_M hown hK hP 0 rfl rfl 1 (by decide) (hts _ k_fieldLink_rn_M_42_rn_M_thrown_I) (fun _ h9 => h9) rfl d_M_lay_43 ?_
      refine lv_if_le (tgt := 50) hx hb d_M_lay_46 (by decide) (fun c_46 => ?_) (fun c_46 => ?_)
      · exact absurd c_46 (by decide)
      · exact w_vret (Q, L, cn, (nI (1))) hx hb hr hlocks hS hP (by rw [(rt_lay_n (by first | exact Or.inl (rt_ix_no c_6) | exact Or.inr (rt_ix_no c_13))).1]; exact ⟨rfl, rfl, hL⟩) d_M_lay_49

set_option maxHeartbeats 4000000 in
set_option maxRecDepth 100000 in
theorem c_M_lift (l : Launch) (D : va_G) (cI cZ : ClassId) (g a : Nat → Nat) (ha : mI a) (w h : Nat) (Q L : Nat → Nat) (cn : Nat) (th : Int32) (kf : Nat → Int32) (Z : Nat → Bool) (pf : Nat → Int32) (x y : Int32) (hG : rt_G w h Q) (hL : rt_isL Q L cn) : Met l y_M_lift (.code y_M_lift b_M_lift 5 none :: tG) ({ frames := 1, cells := 0, slots := 0, locals := 21 }) (va_Pc [.ref (a 0), .int (x), .int (y)] (wU D cI cZ g (mA a) (mw cI cZ a w h (fun p => rt_b (decide (Q p ≠ 0))) (fun p => nI (rt_g Q p)) (fun p => nI (rt_s Q p)) (fun i => nI (L i)) cn th kf (fun p => rt_b (Z p)) pf))) (va_Qv (S := ((Nat → Nat) × (Nat → Nat) × Nat × Int32)) (fun u => u.2.2.2 = nI (rt_lift Q (w * h) x y).1 ∧ u.1 = (rt_lift Q (w * h) x y).2 ∧ rt_isL u.1 u.2.1 u.2.2.1) (wB D (fun (u : ((Nat → Nat) × (Nat → Nat) × Nat × Int32)) => (mw cI cZ a w h (fun p => rt_b (decide (u.1 p ≠ 0))) (fun p => nI (rt_g u.1 p)) (fun p => nI (rt_s u.1 p)) (fun i => nI (u.2.1 i)) u.2.2.1 u.2.2.2 kf (fun p => rt_b (Z p)) pf))) (mA a)) 0 0 (mA a) := by
  refine Met.ofW (cc := b_M_lift) (maxL := 5) (ret := none) (by decide) rfl ?_
  intro p e s m args below meth c s₁ BD9 hml hv
  obtain ⟨rfl, hP, hK, hZ⟩ := hv
  have hx := BD9.exec
  have hb := BD9.bytes
  have hr := BD9.returns
  have hts : ∀ w ∈ tG, w.before _ s = true := fun w hw => atoms_spec (ws := .code y_M_lift b_M_lift 5 none :: tG) BD9.pre w (List.mem_cons_of_mem _ hw)
  have hown : s.vm.findClass rn_M = some m.cls := findClass_of_methodNamed BD9.named
  have hlocks := BD9.notSynchronized
  have hS : va_S (mA a) s.heap s.heap [] := va_S.rf
  have hD : va_D (mA a) (mw cI cZ a w h (fun p => rt_b (decide (Q p ≠ 0))) (fun p => nI (rt_g Q p)) (fun p => nI (rt_s Q p)) (fun i => nI (L i)) cn th kf (fun p => rt_b (Z p)) pf) := m_D ha _ rfl
  have hP : va_P D vwCl (mw cI cZ a w h (fun p => rt_b (decide (Q p ≠ 0))) (fun p => nI (rt_g Q p)) (fun p => nI (rt_s Q p)) (fun i => nI (L i)) cn th kf (fun p => rt_b (Z p)) pf) s.heap := hP
  have hl := lv_entry ([.ref (a 0), .int (x), .int (y)]) (n := 5) (Nat.le_of_ble_eq_true rfl)
  rw [lg_entry_eq]
  generalize (lg_sl ([.ref (a 0), .int (x), .int (y)]) ++ List.replicate (5 - (lg_sl ([.ref (a 0), .int (x), .int (y)])).length) Slot.unset).toArray = ls at hl ⊢
  have hl : lv_has ls 5 [(0, .ref (a 0)), (1, .int (x)), (2, .int (y))] := hl
  obtain ⟨hn1, hn⟩ := hG.n
  have hw0 : 0 < w := by have := hG.1.1; omega
  have hQ := hG.2.2
  have hcn := rt_isL_cap hQ hL
  refine lv_aload_n hx hb d_M_lift_0 rfl (lv_at hl 0 rfl) ?_
  refine lv_aload_n hx hb d_M_lift_1 rfl (lv_at hl 0 rfl) ?_
  refine lv_iload_n hx hb d_M_lift_2 rfl (lv_at hl 1 rfl) ?_
  refine w_ci (As := [.int (x)]) (rest := [.ref (a 0)]) ⟨hx, hb, hml, hown, hts⟩ (c_M_isTile l D cI cZ g a ha w h Q L cn th kf Z pf x hG) (cwV 1 hts (t_gV k_methodLink_rn_M_45_y_M_isTile k_instanceMethod_y_M_isTile k_selects_rn_M_y_M_isTile_y_M_isTile k_initialized_rn_M k_code_y_M_isTile_prog_6_method_3_code_2_some_boolean) rfl rfl rfl (by decide +kernel) ⟨Nat.le_of_ble_eq_true rfl, Nat.le_of_ble_eq_true rfl⟩) (va_recv hK hP (ci := 4) (q0 := 0) rfl rfl) hP hK hZ hS rfl hl.1 rfl (Nat.le_of_ble_eq_true rfl) d_M_lift_3 ⟨Nat.zero_le _, Nat.zero_le _⟩ (fun r_3 u_3 H locs hw hP hS => ?_)
  subst hw
  have hP : va_P D vwCl (mw cI cZ a w h (fun p => rt_b (decide (Q p ≠ 0))) (fun p => nI (rt_g Q p)) (fun p => nI (rt_s Q p)) (fun i => nI (L i)) cn th kf (fun p => rt_b (Z p)) pf) H := hP
  refine rw_beq (tgt := 16) hx hb d_M_lift_6 (by decide) (fun c_6 => ?_) (fun c_6 => ?_)
  · refine lv_iconst (v := (nI (1))) hx hb d_M_lift_16 (by decide) ?_
    refine lv_goto (tgt := 39) hx hb d_M_lift_17 (by decide) ?_
    refine va_put (D := D) (ci := 4) (v := .int (nI (1))) (ty := .int) (C := rn_M) (T := tf_M) (N := 12) hx hb hts in_M tt_M tt_M_ok nm_M hown hK hP hD hS 0 rfl rfl 1 (by decide) (hts _ k_fieldLink_rn_M_42_rn_M_thrown_I) (fun _ h9 => h9) rfl (by decide +kernel) rfl rfl (Nat.le_of_ble_eq_true rfl) d_M_lift_39 (fun H locs hP hD hS => ?_)
    have hP : va_P D vwCl (mw cI cZ a w h (fun p => rt_b (decide (Q p ≠ 0))) (fun p => nI (rt_g Q p)) (fun p => nI (rt_s Q p)) (fun i => nI (L i)) cn (nI (1)) kf (fun p => rt_b (Z p)) pf) H := hP
    have hD : va_D (mA a) (mw cI cZ a w h (fun p => rt_b (decide (Q p ≠ 0))) (fun p => nI (rt_g Q p)) (fun p => nI (rt_s Q p)) (fun i => nI (L i)) cn (nI (1)) kf (fun p => rt_b (Z p)) pf) := m_D ha _ rfl
    refine lv_aload_n hx hb d_M_lift_42 rfl (lv_at hl 0 rfl) ?_
    refine va_get (D := D) (ci := 4) (v := .int ((nI (1)))) (C := rn_M) (T := tf_M) (N := 12) hx hb hts in_M hown hK hP 0 rfl rfl 1 (by decide) (hts _ k_fieldLink_rn_M_42_rn_M_thrown_I) (fun _ h9 => h9) rfl d_M_lift_43 ?_
    refine lv_if_le (tgt := 50) hx hb d_M_lift_46 (by decide) (fun c_46 => ?_) (fun c_46 => ?_)
    · exact absurd c_46 (by decide)
    · exact w_vret (Q, L, cn, (nI (1))) hx hb hr hlocks hS hP (by rw [(rt_lay_n (by first | exact Or.inl (rt_ix_no c_6) | exact Or.inr (rt_ix_no c_13))).2]; exact ⟨rfl, rfl, hL⟩) d_M_lift_49
  · obtain ⟨t, ht, rfl⟩ := rt_ix_is (by omega) c_6
    refine lv_iload_n hx hb d_M_lift_9 rfl (lv_at hl 2 rfl) ?_
    refine w_si (As := [.int (y)]) (rest := [.ref (a 0)]) ⟨hx, hb, hml, hown, hts⟩ (c_M_isKind l D cI cZ g a ha w h Q L cn th kf Z pf y hG) (va_cwS 1 hts (t_gS k_methodLink_rn_M_49_y_M_isKind k_static_y_M_isKind k_initialized_rn_M k_code_y_M_isKind_prog_6_method_4_code_1_some_boolean) rfl rfl rfl (by decide +kernel) ⟨Nat.le_of_ble_eq_true rfl, Nat.le_of_ble_eq_true rfl⟩) hP hK hZ hS rfl hl.1 rfl (Nat.le_of_ble_eq_true rfl) d_M_lift_10 ⟨Nat.zero_le _, Nat.zero_le _⟩ (fun r_10 u_10 H locs hw hP hS => ?_)
    subst hw
    have hP : va_P D vwCl (mw cI cZ a w h (fun p => rt_b (decide (Q p ≠ 0))) (fun p => nI (rt_g Q p)) (fun p => nI (rt_s Q p)) (fun i => nI (L i)) cn th kf (fun p => rt_b (Z p)) pf) H := hP
    refine rw_bne (tgt := 20) hx hb d_M_lift_13 (by decide) (fun c_13 => ?_) (fun c_13 => ?_)
    · obtain ⟨k, hk, rfl⟩ := rt_ix_is (by omega) c_13
      refine lv_aload_n hx hb d_M_lift_20 rfl (lv_at hl 0 rfl) ?_
      refine va_get (D := D) (ci := 4) (v := .ref (a 2)) (C := rn_M) (T := tf_M) (N := 12) hx hb hts in_M hown hK hP 0 rfl rfl 4 (by decide) (hts _ k_fieldLink_rn_M_13_rn_M_there_Z) (fun _ h9 => h9) rfl d_M_lift_21 ?_
      refine lv_bipush (v := (nI (6))) hx hb d_M_lift_24 (by decide) ?_
      refine lv_iload_n hx hb d_M_lift_26 rfl (lv_at hl 1 rfl) ?_
      refine rw_mul hx hb d_M_lift_27 ?_
      refine lv_iload_n hx hb d_M_lift_28 rfl (lv_at hl 2 rfl) ?_
      refine rw_add hx hb d_M_lift_29 ?_
      refine rw_zald (v := (rt_b (decide (Q ((6 * t) + k) ≠ 0)))) hx hb hK hP 2 1 rfl rfl (by omega) (by omega) (rfl) d_M_lift_30 ?_
      refine rw_bne (tgt := 38) hx hb d_M_lift_31 (by decide) (fun c_31 => ?_) (fun c_31 => ?_)
      · have hq0 : Q (6 * t + k) ≠ 0 := of_decide_eq_true c_31
        obtain ⟨i0, hi0, e0⟩ := hL.2.2 (6 * t + k) hq0
        refine lv_iconst (v := (nI (0))) hx hb d_M_lift_38 (by decide) ?_
        refine va_put (D := D) (ci := 4) (v := .int (nI (0))) (ty := .int) (C := rn_M) (T := tf_M) (N := 12) hx hb hts in_M tt_M tt_M_ok nm_M hown hK hP hD hS 0 rfl rfl 1 (by decide) (hts _ k_fieldLink_rn_M_42_rn_M_thrown_I) (fun _ h9 => h9) rfl (by decide +kernel) rfl rfl (Nat.le_of_ble_eq_true rfl) d_M_lift_39 (fun H locs hP hD hS => ?_)
        have hP : va_P D vwCl (mw cI cZ a w h (fun p => rt_b (decide (Q p ≠ 0))) (fun p => nI (rt_g Q p)) (fun p => nI (rt_s Q p)) (fun i => nI (L i)) cn (nI (0)) kf (fun p => rt_b (Z p)) pf) H := hP
        have hD : va_D (mA a) (mw cI cZ a w h (fun p => rt_b (decide (Q p ≠ 0))) (fun p => nI (rt_g Q p)) (fun p => nI (rt_s Q p)) (fun i => nI (L i)) cn (nI (0)) kf (fun p => rt_b (Z p)) pf) := m_D ha _ rfl
        refine lv_aload_n hx hb d_M_lift_42 rfl (lv_at hl 0 rfl) ?_
        refine va_get (D := D) (ci := 4) (v := .int ((nI (0)))) (C := rn_M) (T := tf_M) (N := 12) hx hb hts in_M hown hK hP 0 rfl rfl 1 (by decide) (hts _ k_fieldLink_rn_M_42_rn_M_thrown_I) (fun _ h9 => h9) rfl d_M_lift_43 ?_
        refine lv_if_le (tgt := 50) hx hb d_M_lift_46 (by decide) (fun c_46 => ?_) (fun c_46 => ?_)
        · refine lv_bipush (v := (nI (6))) hx hb d_M_lift_50 (by decide) ?_
          refine lv_iload_n hx hb d_M_lift_52 rfl (lv_at hl 1 rfl) ?_
          refine rw_mul hx hb d_M_lift_53 ?_
          refine lv_iload_n hx hb d_M_lift_54 rfl (lv_at hl 2 rfl) ?_
          refine rw_add hx hb d_M_lift_55 ?_
          refine lv_istore_n (lv' := [(3, .int (nI ((6 * t) + k))), (0, .ref (a 0)), (1, .int (nI (t))), (2, .int (nI (k)))]) hx hb d_M_lift_56 rfl hl (by decide) rfl (fun ls hl => ?_)
          refine lv_aload_n hx hb d_M_lift_57 rfl (lv_at hl 1 rfl) ?_
          refine va_get (D := D) (ci := 4) (v := .ref (a 2)) (C := rn_M) (T := tf_M) (N := 12) hx hb hts in_M hown hK hP 0 rfl rfl 4 (by decide) (hts _ k_fieldLink_rn_M_13_rn_M_there_Z) (fun _ h9 => h9) rfl d_M_lift_58 ?_
          refine lv_iload_n hx hb d_M_lift_61 rfl (lv_at hl 0 rfl) ?_
          refine lv_iconst (v := (nI (0))) hx hb d_M_lift_62 (by decide) ?_
          refine rw_zast (h := (fun p => rt_b (va_up (fun p => decide (Q p ≠ 0)) (6 * t + k) false p))) hx hb hK hP hD hS 2 1 rfl rfl (by omega) (by omega) (fun j _ => rt_updb (fun p => decide (Q p ≠ 0)) (6 * t + k) false j) d_M_lift_63 (fun H locs hP hD hS => ?_)
          have hP : va_P D vwCl (mw cI cZ a w h (fun p => rt_b (va_up (fun p => decide (Q p ≠ 0)) (6 * t + k) false p)) (fun p => nI (rt_g Q p)) (fun p => nI (rt_s Q p)) (fun i => nI (L i)) cn (nI (0)) kf (fun p => rt_b (Z p)) pf) H := hP
          have hD : va_D (mA a) (mw cI cZ a w h (fun p => rt_b (va_up (fun p => decide (Q p ≠ 0)) (6 * t + k) false p)) (fun p => nI (rt_g Q p)) (fun p => nI (rt_s Q p)) (fun i => nI (L i)) cn (nI (0)) kf (fun p => rt_b (Z p)) pf) := m_D ha _ rfl
          refine lv_aload_n hx hb d_M_lift_64 rfl (lv_at hl 1 rfl) ?_
          refine va_get (D := D) (ci := 4) (v := .ref (a 3)) (C := rn_M) (T := tf_M) (N := 12) hx hb hts in_M hown hK hP 0 rfl rfl 5 (by decide) (hts _ k_fieldLink_rn_M_17_rn_M_signs_I) (fun _ h9 => h9) rfl d_M_lift_65 ?_
          refine lv_iload_n hx hb d_M_lift_68 rfl (lv_at hl 0 rfl) ?_
          refine lv_iconst (v := (nI (0))) hx hb d_M_lift_69 (by decide) ?_
          refine rw_iast (h := (fun p => nI (va_up (rt_g Q) (6 * t + k) 0 p))) hx hb hK hP hD hS 3 0 rfl rfl (by omega) (by omega) (fun j _ => rt_upd (rt_g Q) (6 * t + k) 0 j) d_M_lift_70 (fun H locs hP hD hS => ?_)
          have hP : va_P D vwCl (mw cI cZ a w h (fun p => rt_b (va_up (fun p => decide (Q p ≠ 0)) (6 * t + k) false p)) (fun p => nI (va_up (rt_g Q) (6 * t + k) 0 p)) (fun p => nI (rt_s Q p)) (fun i => nI (L i)) cn (nI (0)) kf (fun p => rt_b (Z p)) pf) H := hP
          have hD : va_D (mA a) (mw cI cZ a w h (fun p => rt_b (va_up (fun p => decide (Q p ≠ 0)) (6 * t + k) false p)) (fun p => nI (va_up (rt_g Q) (6 * t + k) 0 p)) (fun p => nI (rt_s Q p)) (fun i => nI (L i)) cn (nI (0)) kf (fun p => rt_b (Z p)) pf) := m_D ha _ rfl
          refine lv_aload_n hx hb d_M_lift_71 rfl (lv_at hl 1 rfl) ?_
          refine va_get (D := D) (ci := 4) (v := .ref (a 4)) (C := rn_M) (T := tf_M) (N := 12) hx hb hts in_M hown hK hP 0 rfl rfl 6 (by decide) (hts _ k_fieldLink_rn_M_20_rn_M_stations_I) (fun _ h9 => h9) rfl d_M_lift_72 ?_
          refine lv_iload_n hx hb d_M_lift_75 rfl (lv_at hl 0 rfl) ?_
          refine lv_iconst (v := (nI (0))) hx hb d_M_lift_76 (by decide) ?_
          refine rw_iast (h := (fun p => nI (va_up (rt_s Q) (6 * t + k) 0 p))) hx hb hK hP hD hS 4 0 rfl rfl (by omega) (by omega) (fun j _ => rt_upd (rt_s Q) (6 * t + k) 0 j) d_M_lift_77 (fun H locs hP hD hS => ?_)
          have hP : va_P D vwCl (mw cI cZ a w h (fun p => rt_b (va_up (fun p => decide (Q p ≠ 0)) (6 * t + k) false p)) (fun p => nI (va_up (rt_g Q) (6 * t + k) 0 p)) (fun p => nI (va_up (rt_s Q) (6 * t + k) 0 p)) (fun i => nI (L i)) cn (nI (0)) kf (fun p => rt_b (Z p)) pf) H := hP
          have hD : va_D (mA a) (mw cI cZ a w h (fun p => rt_b (va_up (fun p => decide (Q p ≠ 0)) (6 * t + k) false p)) (fun p => nI (va_up (rt_g Q) (6 * t + k) 0 p)) (fun p => nI (va_up (rt_s Q) (6 * t + k) 0 p)) (fun i => nI (L i)) cn (nI (0)) kf (fun p => rt_b (Z p)) pf) := m_D ha _ rfl
          refine lv_iconst (v := (nI (0))) hx hb d_M_lift_78 (by decide) ?_
          refine lv_istore (lv' := [(4, .int (nI (0))), (3, .int (nI ((6 * t) + k))), (0, .ref (a 0)), (1, .int (nI (t))), (2, .int (nI (k)))]) hx hb d_M_lift_79 hl (by decide) rfl (fun ls hl => ?_)
          have LP_81 : ∀ (n_81 : Nat) (i : Nat), i + n_81 = i0 → ∀ (H : Heap) (locs : List Loc) (ls : Array Slot), va_P D vwCl (mw cI cZ a w h (fun p => rt_b (va_up (fun p => decide (Q p ≠ 0)) (6 * t + k) false p)) (fun p => nI (va_up (rt_g Q) (6 * t + k) 0 p)) (fun p => nI (va_up (rt_s Q) (6 * t + k) 0 p)) (fun i => nI (L i)) cn (nI (0)) kf (fun p => rt_b (Z p)) pf) H → va_S (mA a) s.heap H locs → lv_has ls 5 [(0, .ref (a 0)), (1, .int (nI (t))), (2, .int (nI (k))), (3, .int (nI (6 * t + k))), (4, .int (nI (i)))] → W p l e (headSpec (.code y_M_lift b_M_lift 5 none :: tG) ({ frames := 1, cells := 0, slots := 0, locals := 21 })).room s m ([.ref (a 0), .int ((nI t)), .int ((nI k))] : List Value).toArray below meth c H locs 0 0 (MQ below (va_Qv (S := ((Nat → Nat) × (Nat → Nat) × Nat × Int32)) (fun u => u.2.2.2 = nI (rt_lift Q (w * h) (nI t) (nI k)).1 ∧ u.1 = (rt_lift Q (w * h) (nI t) (nI k)).2 ∧ rt_isL u.1 u.2.1 u.2.2.1) (wB D (fun (u : ((Nat → Nat) × (Nat → Nat) × Nat × Int32)) => (mw cI cZ a w h (fun p => rt_b (decide (u.1 p ≠ 0))) (fun p => nI (rt_g u.1 p)) (fun p => nI (rt_s u.1 p)) (fun i => nI (u.2.1 i)) u.2.2.1 u.2.2.2 kf (fun p => rt_b (Z p)) pf))) (mA a)) ([.ref (a 0), .int ((nI t)), .int ((nI k))] : List Value).toArray s 0 0 (mA a)) (F0 m 81 ls []) := by
            intro n_81
            induction n_81 with
            | zero =>
              intro i hrel_81 H locs ls hP hS hl
              have hD : va_D (mA a) (mw cI cZ a w h (fun p => rt_b (va_up (fun p => decide (Q p ≠ 0)) (6 * t + k) false p)) (fun p => nI (va_up (rt_g Q) (6 * t + k) 0 p)) (fun p => nI (va_up (rt_s Q) (6 * t + k) 0 p)) (fun i => nI (L i)) cn (nI (0)) kf (fun p => rt_b (Z p)) pf) := m_D ha _ rfl
              refine lv_aload_n hx hb d_M_lift_81 rfl (lv_at hl 0 rfl) ?_
              refine va_get (D := D) (ci := 4) (v := .ref (a 5)) (C := rn_M) (T := tf_M) (N := 12) hx hb hts in_M hown hK hP 0 rfl rfl 7 (by decide) (hts _ k_fieldLink_rn_M_23_rn_M_list_I) (fun _ h9 => h9) rfl d_M_lift_82 ?_
              refine lv_iload hx hb d_M_lift_85 (lv_at hl 4 rfl) ?_
              refine rw_iald (v := (nI (L i))) hx hb hK hP 5 0 rfl rfl (by omega) (by omega) (rfl) d_M_lift_87 ?_
              refine lv_iload_n hx hb d_M_lift_88 rfl (lv_at hl 3 rfl) ?_
              refine rw_ceq (tgt := 98) hx hb d_M_lift_89 (by decide) (by have := rt_ok_in hQ (hL.1 i (by omega)); omega) (by have := rt_ok_in hQ (hL.1 i (by omega)); omega) (fun c_89 => ?_) (fun c_89 => ?_)
              · obtain ⟨c9, rfl⟩ : ∃ z, cn = z + 1 := ⟨cn - 1, by omega⟩
                refine lv_aload_n hx hb d_M_lift_98 rfl (lv_at hl 0 rfl) ?_
                refine lv_dup hx hb d_M_lift_99 rfl ?_
                refine va_get (D := D) (ci := 4) (v := .int (nI (c9 + 1))) (C := rn_M) (T := tf_M) (N := 12) hx hb hts in_M hown hK hP 0 rfl rfl 8 (by decide) (hts _ k_fieldLink_rn_M_52_rn_M_pieces_I) (fun _ h9 => h9) rfl d_M_lift_100 ?_
                refine lv_iconst (v := (nI (1))) hx hb d_M_lift_103 (by decide) ?_
                refine rw_sub hx hb d_M_lift_104 (by omega) ?_
                refine rw_top (b := c9) (by omega) ?_
                refine va_put (D := D) (ci := 4) (v := .int (nI (c9))) (ty := .int) (C := rn_M) (T := tf_M) (N := 12) hx hb hts in_M tt_M tt_M_ok nm_M hown hK hP hD hS 0 rfl rfl 8 (by decide) (hts _ k_fieldLink_rn_M_52_rn_M_pieces_I) (fun _ h9 => h9) rfl (by decide +kernel) rfl rfl (Nat.le_of_ble_eq_true rfl) d_M_lift_105 (fun H locs hP hD hS => ?_)
                have hP : va_P D vwCl (mw cI cZ a w h (fun p => rt_b (va_up (fun p => decide (Q p ≠ 0)) (6 * t + k) false p)) (fun p => nI (va_up (rt_g Q) (6 * t + k) 0 p)) (fun p => nI (va_up (rt_s Q) (6 * t + k) 0 p)) (fun i => nI (L i)) c9 (nI (0)) kf (fun p => rt_b (Z p)) pf) H := hP
                have hD : va_D (mA a) (mw cI cZ a w h (fun p => rt_b (va_up (fun p => decide (Q p ≠ 0)) (6 * t + k) false p)) (fun p => nI (va_up (rt_g Q) (6 * t + k) 0 p)) (fun p => nI (va_up (rt_s Q) (6 * t + k) 0 p)) (fun i => nI (L i)) c9 (nI (0)) kf (fun p => rt_b (Z p)) pf) := m_D ha _ rfl
                refine lv_aload_n hx hb d_M_lift_108 rfl (lv_at hl 0 rfl) ?_
                refine va_get (D := D) (ci := 4) (v := .ref (a 5)) (C := rn_M) (T := tf_M) (N := 12) hx hb hts in_M hown hK hP 0 rfl rfl 7 (by decide) (hts _ k_fieldLink_rn_M_23_rn_M_list_I) (fun _ h9 => h9) rfl d_M_lift_109 ?_
                refine lv_iload hx hb d_M_lift_112 (lv_at hl 4 rfl) ?_
                refine lv_aload_n hx hb d_M_lift_114 rfl (lv_at hl 0 rfl) ?_
                refine va_get (D := D) (ci := 4) (v := .ref (a 5)) (C := rn_M) (T := tf_M) (N := 12) hx hb hts in_M hown hK hP 0 rfl rfl 7 (by decide) (hts _ k_fieldLink_rn_M_23_rn_M_list_I) (fun _ h9 => h9) rfl d_M_lift_115 ?_
                refine lv_aload_n hx hb d_M_lift_118 rfl (lv_at hl 0 rfl) ?_
                refine va_get (D := D) (ci := 4) (v := .int (nI (c9))) (C := rn_M) (T := tf_M) (N := 12) hx hb hts in_M hown hK hP 0 rfl rfl 8 (by decide) (hts _ k_fieldLink_rn_M_52_rn_M_pieces_I) (fun _ h9 => h9) rfl d_M_lift_119 ?_
                refine rw_iald (v := (nI (L c9))) hx hb hK hP 5 0 rfl rfl (by omega) (by omega) (rfl) d_M_lift_122 ?_
                refine rw_iast (h := (fun j => nI (va_up L i (L c9) j))) hx hb hK hP hD hS 5 0 rfl rfl (by omega) (by omega) (fun j _ => rt_upd L i (L c9) j) d_M_lift_123 (fun H locs hP hD hS => ?_)
                have hP : va_P D vwCl (mw cI cZ a w h (fun p => rt_b (va_up (fun p => decide (Q p ≠ 0)) (6 * t + k) false p)) (fun p => nI (va_up (rt_g Q) (6 * t + k) 0 p)) (fun p => nI (va_up (rt_s Q) (6 * t + k) 0 p)) (fun j => nI (va_up L i (L c9) j)) c9 (nI (0)) kf (fun p => rt_b (Z p)) pf) H := hP
                have hD : va_D (mA a) (mw cI cZ a w h (fun p => rt_b (va_up (fun p => decide (Q p ≠ 0)) (6 * t + k) false p)) (fun p => nI (va_up (rt_g Q) (6 * t + k) 0 p)) (fun p => nI (va_up (rt_s Q) (6 * t + k) 0 p)) (fun j => nI (va_up L i (L c9) j)) c9 (nI (0)) kf (fun p => rt_b (Z p)) pf) := m_D ha _ rfl
                have hP := m_conv (tf' := fun p => rt_b (decide (va_up Q (6 * t + k) 0 p ≠ 0))) (gf' := fun p => nI (rt_g (va_up Q (6 * t + k) 0) p)) (sf' := fun p => nI (rt_s (va_up Q (6 * t + k) 0) p)) (lf' := fun j => nI (va_up L i (L c9) j)) (fun j _ => congrArg rt_b (rt_up_t Q (6 * t + k) 0 j).symm) (fun j _ => congrArg nI (rt_up_g Q (6 * t + k) 0 j).symm) (fun j _ => congrArg nI (rt_up_sn Q (6 * t + k) 0 j).symm) (fun j _ => rfl) hP
                exact w_vret (va_up Q (6 * t + k) 0, va_up L i (L c9), c9, nI 0) hx hb hr hlocks hS hP (by rw [rt_lift_s (by omega) ht hk, if_neg hq0]; refine ⟨rfl, rfl, ?_⟩; show rt_isL (va_up Q (6 * t + k) 0) _ _; rw [← c_89]; exact rt_isL_lift hL (by omega)) d_M_lift_124
              · exact absurd (by rw [show i = i0 by omega]; exact e0) c_89
            | succ n_81 ih_81 =>
              intro i hrel_81 H locs ls hP hS hl
              have hD : va_D (mA a) (mw cI cZ a w h (fun p => rt_b (va_up (fun p => decide (Q p ≠ 0)) (6 * t + k) false p)) (fun p => nI (va_up (rt_g Q) (6 * t + k) 0 p)) (fun p => nI (va_up (rt_s Q) (6 * t + k) 0 p)) (fun i => nI (L i)) cn (nI (0)) kf (fun p => rt_b (Z p)) pf) := m_D ha _ rfl
              refine lv_aload_n hx hb d_M_lift_81 rfl (lv_at hl 0 rfl) ?_
              refine va_get (D := D) (ci := 4) (v := .ref (a 5)) (C := rn_M) (T := tf_M) (N := 12) hx hb hts in_M hown hK hP 0 rfl rfl 7 (by decide) (hts _ k_fieldLink_rn_M_23_rn_M_list_I) (fun _ h9 => h9) rfl d_M_lift_82 ?_
              refine lv_iload hx hb d_M_lift_85 (lv_at hl 4 rfl) ?_
              refine rw_iald (v := (nI (L i))) hx hb hK hP 5 0 rfl rfl (by omega) (by omega) (rfl) d_M_lift_87 ?_
              refine lv_iload_n hx hb d_M_lift_88 rfl (lv_at hl 3 rfl) ?_
              refine rw_ceq (tgt := 98) hx hb d_M_lift_89 (by decide) (by have := rt_ok_in hQ (hL.1 i (by omega)); omega) (by have := rt_ok_in hQ (hL.1 i (by omega)); omega) (fun c_89 => ?_) (fun c_89 => ?_)
              · obtain ⟨c9, rfl⟩ : ∃ z, cn = z + 1 := ⟨cn - 1, by omega⟩
                refine lv_aload_n hx hb d_M_lift_98 rfl (lv_at hl 0 rfl) ?_
                refine lv_dup hx hb d_M_lift_99 rfl ?_
                refine va_get (D := D) (ci := 4) (v := .int (nI (c9 + 1))) (C := rn_M) (T := tf_M) (N := 12) hx hb hts in_M hown hK hP 0 rfl rfl 8 (by decide) (hts _ k_fieldLink_rn_M_52_rn_M_pieces_I) (fun _ h9 => h9) rfl d_M_lift_100 ?_
                refine lv_iconst (v := (nI (1))) hx hb d_M_lift_103 (by decide) ?_
                refine rw_sub hx hb d_M_lift_104 (by omega) ?_
                refine rw_top (b := c9) (by omega) ?_
                refine va_put (D := D) (ci := 4) (v := .int (nI (c9))) (ty := .int) (C := rn_M) (T := tf_M) (N := 12) hx hb hts in_M tt_M tt_M_ok nm_M hown hK hP hD hS 0 rfl rfl 8 (by decide) (hts _ k_fieldLink_rn_M_52_rn_M_pieces_I) (fun _ h9 => h9) rfl (by decide +kernel) rfl rfl (Nat.le_of_ble_eq_true rfl) d_M_lift_105 (fun H locs hP hD hS => ?_)
                have hP : va_P D vwCl (mw cI cZ a w h (fun p => rt_b (va_up (fun p => decide (Q p ≠ 0)) (6 * t + k) false p)) (fun p => nI (va_up (rt_g Q) (6 * t + k) 0 p)) (fun p => nI (va_up (rt_s Q) (6 * t + k) 0 p)) (fun i => nI (L i)) c9 (nI (0)) kf (fun p => rt_b (Z p)) pf) H := hP
                have hD : va_D (mA a) (mw cI cZ a w h (fun p => rt_b (va_up (fun p => decide (Q p ≠ 0)) (6 * t + k) false p)) (fun p => nI (va_up (rt_g Q) (6 * t + k) 0 p)) (fun p => nI (va_up (rt_s Q) (6 * t + k) 0 p)) (fun i => nI (L i)) c9 (nI (0)) kf (fun p => rt_b (Z p)) pf) := m_D ha _ rfl
                refine lv_aload_n hx hb d_M_lift_108 rfl (lv_at hl 0 rfl) ?_
                refine va_get (D := D) (ci := 4) (v := .ref (a 5)) (C := rn_M) (T := tf_M) (N := 12) hx hb hts in_M hown hK hP 0 rfl rfl 7 (by decide) (hts _ k_fieldLink_rn_M_23_rn_M_list_I) (fun _ h9 => h9) rfl d_M_lift_109 ?_
                refine lv_iload hx hb d_M_lift_112 (lv_at hl 4 rfl) ?_
                refine lv_aload_n hx hb d_M_lift_114 rfl (lv_at hl 0 rfl) ?_
                refine va_get (D := D) (ci := 4) (v := .ref (a 5)) (C := rn_M) (T := tf_M) (N := 12) hx hb hts in_M hown hK hP 0 rfl rfl 7 (by decide) (hts _ k_fieldLink_rn_M_23_rn_M_list_I) (fun _ h9 => h9) rfl d_M_lift_115 ?_
                refine lv_aload_n hx hb d_M_lift_118 rfl (lv_at hl 0 rfl) ?_
                refine va_get (D := D) (ci := 4) (v := .int (nI (c9))) (C := rn_M) (T := tf_M) (N := 12) hx hb hts in_M hown hK hP 0 rfl rfl 8 (by decide) (hts _ k_fieldLink_rn_M_52_rn_M_pieces_I) (fun _ h9 => h9) rfl d_M_lift_119 ?_
                refine rw_iald (v := (nI (L c9))) hx hb hK hP 5 0 rfl rfl (by omega) (by omega) (rfl) d_M_lift_122 ?_
                refine rw_iast (h := (fun j => nI (va_up L i (L c9) j))) hx hb hK hP hD hS 5 0 rfl rfl (by omega) (by omega) (fun j _ => rt_upd L i (L c9) j) d_M_lift_123 (fun H locs hP hD hS => ?_)
                have hP : va_P D vwCl (mw cI cZ a w h (fun p => rt_b (va_up (fun p => decide (Q p ≠ 0)) (6 * t + k) false p)) (fun p => nI (va_up (rt_g Q) (6 * t + k) 0 p)) (fun p => nI (va_up (rt_s Q) (6 * t + k) 0 p)) (fun j => nI (va_up L i (L c9) j)) c9 (nI (0)) kf (fun p => rt_b (Z p)) pf) H := hP
                have hD : va_D (mA a) (mw cI cZ a w h (fun p => rt_b (va_up (fun p => decide (Q p ≠ 0)) (6 * t + k) false p)) (fun p => nI (va_up (rt_g Q) (6 * t + k) 0 p)) (fun p => nI (va_up (rt_s Q) (6 * t + k) 0 p)) (fun j => nI (va_up L i (L c9) j)) c9 (nI (0)) kf (fun p => rt_b (Z p)) pf) := m_D ha _ rfl
                have hP := m_conv (tf' := fun p => rt_b (decide (va_up Q (6 * t + k) 0 p ≠ 0))) (gf' := fun p => nI (rt_g (va_up Q (6 * t + k) 0) p)) (sf' := fun p => nI (rt_s (va_up Q (6 * t + k) 0) p)) (lf' := fun j => nI (va_up L i (L c9) j)) (fun j _ => congrArg rt_b (rt_up_t Q (6 * t + k) 0 j).symm) (fun j _ => congrArg nI (rt_up_g Q (6 * t + k) 0 j).symm) (fun j _ => congrArg nI (rt_up_sn Q (6 * t + k) 0 j).symm) (fun j _ => rfl) hP
                exact w_vret (va_up Q (6 * t + k) 0, va_up L i (L c9), c9, nI 0) hx hb hr hlocks hS hP (by rw [rt_lift_s (by omega) ht hk, if_neg hq0]; refine ⟨rfl, rfl, ?_⟩; show rt_isL (va_up Q (6 * t + k) 0) _ _; rw [← c_89]; exact rt_isL_lift hL (by omega)) d_M_lift_124
              · refine lv_iinc (v := (nI (i + 1))) (lv' := [(4, .int (nI (i + 1))), (0, .ref (a 0)), (1, .int (nI (t))), (2, .int (nI (k))), (3, .int (nI (6 * t + k)))]) hx hb d_M_lift_92 hl (k := 4) rfl (nI_add _ _) (by decide) rfl (fun ls hl => ?_)
                refine lv_goto (tgt := 81) hx hb d_M_lift_95 (by decide) ?_
                exact ih_81 (i + 1) (by omega) _ _ _ hP hS (lv_sub hl [1, 2, 3, 4, 0] rfl)
          exact LP_81 i0 0 (by omega) _ _ _ hP hS (lv_sub hl [2, 3, 4, 1, 0] rfl)
        · exact absurd (by decide) c_46
      · refine lv_iconst (v := (nI (2))) hx hb d_M_lift_34 (by decide) ?_
        refine lv_goto (tgt := 39) hx hb d_M_lift_35 (by decide) ?_
        refine va_put (D := D) (ci := 4) (v := .int (nI (2))) (ty := .int) (C := rn_M) (T := tf_M) (N := 12) hx hb hts in_M tt_M tt_M_ok nm_M hown hK hP hD hS 0 rfl rfl 1 (by decide) (hts _ k_fieldLink_rn_M_42_rn_M_thrown_I) (fun _ h9 => h9) rfl (by decide +kernel) rfl rfl (Nat.le_of_ble_eq_true rfl) d_M_lift_39 (fun H locs hP hD hS => ?_)
        have hP : va_P D vwCl (mw cI cZ a w h (fun p => rt_b (decide (Q p ≠ 0))) (fun p => nI (rt_g Q p)) (fun p => nI (rt_s Q p)) (fun i => nI (L i)) cn (nI (2)) kf (fun p => rt_b (Z p)) pf) H := hP
        have hD : va_D (mA a) (mw cI cZ a w h (fun p => rt_b (decide (Q p ≠ 0))) (fun p => nI (rt_g Q p)) (fun p => nI (rt_s Q p)) (fun i => nI (L i)) cn (nI (2)) kf (fun p => rt_b (Z p)) pf) := m_D ha _ rfl
        refine lv_aload_n hx hb d_M_lift_42 rfl (lv_at hl 0 rfl) ?_
        refine va_get (D := D) (ci := 4) (v := .int ((nI (2)))) (C := rn_M) (T := tf_M) (N := 12) hx hb hts in_M hown hK hP 0 rfl rfl 1 (by decide) (hts _ k_fieldLink_rn_M_42_rn_M_thrown_I) (fun _ h9 => h9) rfl d_M_lift_43 ?_
        refine lv_if_le (tgt := 50) hx hb d_M_lift_46 (by decide) (fun c_46 => ?_) (fun c_46 => ?_)
        · exact absurd c_46 (by decide)
        · exact w_vret (Q, L, cn, (nI (2))) hx hb hr hlocks hS hP (by rw [rt_lift_s (by omega) ht hk, if_pos (Decidable.not_not.mp (of_decide_eq_false c_31))]; exact ⟨rfl, rfl, hL⟩) d_M_lift_49
    · refine lv_iconst (v := (nI (1))) hx hb d_M_lift_16 (by decide) ?_
      refine lv_goto (tgt := 39) hx hb d_M_lift_17 (by decide) ?_
      refine va_put (D := D) (ci := 4) (v := .int (nI (1))) (ty := .int) (C := rn_M) (T := tf_M) (N := 12) hx hb hts in_M tt_M tt_M_ok nm_M hown hK hP hD hS 0 rfl rfl 1 (by decide) (hts _ k_fieldLink_rn_M_42_rn_M_thrown_I) (fun _ h9 => h9) rfl (by decide +kernel) rfl rfl (Nat.le_of_ble_eq_true rfl) d_M_lift_39 (fun H locs hP hD hS => ?_)
      have hP : va_P D vwCl (mw cI cZ a w h (fun p => rt_b (decide (Q p ≠ 0))) (fun p => nI (rt_g Q p)) (fun p => nI (rt_s Q p)) (fun i => nI (L i)) cn (nI (1)) kf (fun p => rt_b (Z p)) pf) H := hP
      have hD : va_D (mA a) (mw cI cZ a w h (fun p => rt_b (decide (Q p ≠ 0))) (fun p => nI (rt_g Q p)) (fun p => nI (rt_s Q p)) (fun i => nI (L i)) cn (nI (1)) kf (fun p => rt_b (Z p)) pf) := m_D ha _ rfl
      refine lv_aload_n hx hb d_M_lift_42 rfl (lv_at hl 0 rfl) ?_
      refine va_get (D := D) (ci := 4) (v := .int ((nI (1)))) (C := rn_M) (T := tf_M) (N := 12) hx hb hts in_M hown hK hP 0 rfl rfl 1 (by decide) (hts _ k_fieldLink_rn_M_42_rn_M_thrown_I) (fun _ h9 => h9) rfl d_M_lift_43 ?_
      refine lv_if_le (tgt := 50) hx hb d_M_lift_46 (by decide) (fun c_46 => ?_) (fun c_46 => ?_)
      · exact absurd c_46 (by decide)
      · exact w_vret (Q, L, cn, (nI (1))) hx hb hr hlocks hS hP (by rw [(rt_lay_n (by first | exact Or.inl (rt_ix_no c_6) | exact Or.inr (rt_ix_no c_13))).2]; exact ⟨rfl, rfl, hL⟩) d_M_lift_49

set_option maxHeartbeats 4000000 in
set_option maxRecDepth 100000 in
theorem c_M_signal (l : Launch) (D : va_G) (cI cZ : ClassId) (g a : Nat → Nat) (ha : mI a) (w h : Nat) (Q L : Nat → Nat) (cn : Nat) (th : Int32) (kf : Nat → Int32) (Z : Nat → Bool) (pf : Nat → Int32) (x y v u0 : Int32) (hG : rt_G w h Q) (hL : rt_isL Q L cn) : Met l y_M_signal (.code y_M_signal b_M_signal 5 none :: tG) ({ frames := 1, cells := 0, slots := 0, locals := 21 }) (va_Pc [.ref (a 0), .int (x), .int (y), .int (v), .int (u0)] (wU D cI cZ g (mA a) (mw cI cZ a w h (fun p => rt_b (decide (Q p ≠ 0))) (fun p => nI (rt_g Q p)) (fun p => nI (rt_s Q p)) (fun i => nI (L i)) cn th kf (fun p => rt_b (Z p)) pf))) (va_Qv (S := ((Nat → Nat) × (Nat → Nat) × Nat × Int32)) (fun u => u.2.2.2 = nI (rt_sig Q (w * h) x y v u0).1 ∧ u.1 = (rt_sig Q (w * h) x y v u0).2 ∧ rt_isL u.1 u.2.1 u.2.2.1) (wB D (fun (u : ((Nat → Nat) × (Nat → Nat) × Nat × Int32)) => (mw cI cZ a w h (fun p => rt_b (decide (u.1 p ≠ 0))) (fun p => nI (rt_g u.1 p)) (fun p => nI (rt_s u.1 p)) (fun i => nI (u.2.1 i)) u.2.2.1 u.2.2.2 kf (fun p => rt_b (Z p)) pf))) (mA a)) 0 0 (mA a) := by
  refine Met.ofW (cc := b_M_signal) (maxL := 5) (ret := none) (by decide) rfl ?_
  intro p e s m args below meth c s₁ BD9 hml hv
  obtain ⟨rfl, hP, hK, hZ⟩ := hv
  have hx := BD9.exec
  have hb := BD9.bytes
  have hr := BD9.returns
  have hts : ∀ w ∈ tG, w.before _ s = true := fun w hw => atoms_spec (ws := .code y_M_signal b_M_signal 5 none :: tG) BD9.pre w (List.mem_cons_of_mem _ hw)
  have hown : s.vm.findClass rn_M = some m.cls := findClass_of_methodNamed BD9.named
  have hlocks := BD9.notSynchronized
  have hS : va_S (mA a) s.heap s.heap [] := va_S.rf
  have hD : va_D (mA a) (mw cI cZ a w h (fun p => rt_b (decide (Q p ≠ 0))) (fun p => nI (rt_g Q p)) (fun p => nI (rt_s Q p)) (fun i => nI (L i)) cn th kf (fun p => rt_b (Z p)) pf) := m_D ha _ rfl
  have hP : va_P D vwCl (mw cI cZ a w h (fun p => rt_b (decide (Q p ≠ 0))) (fun p => nI (rt_g Q p)) (fun p => nI (rt_s Q p)) (fun i => nI (L i)) cn th kf (fun p => rt_b (Z p)) pf) s.heap := hP
  have hl := lv_entry ([.ref (a 0), .int (x), .int (y), .int (v), .int (u0)]) (n := 5) (Nat.le_of_ble_eq_true rfl)
  rw [lg_entry_eq]
  generalize (lg_sl ([.ref (a 0), .int (x), .int (y), .int (v), .int (u0)]) ++ List.replicate (5 - (lg_sl ([.ref (a 0), .int (x), .int (y), .int (v), .int (u0)])).length) Slot.unset).toArray = ls at hl ⊢
  have hl : lv_has ls 5 [(0, .ref (a 0)), (1, .int (x)), (2, .int (y)), (3, .int (v)), (4, .int (u0))] := hl
  obtain ⟨hn1, hn⟩ := hG.n
  have hw0 : 0 < w := by have := hG.1.1; omega
  have hQ := hG.2.2
  have hcn := rt_isL_cap hQ hL
  refine lv_aload_n hx hb d_M_signal_0 rfl (lv_at hl 0 rfl) ?_
  refine lv_aload_n hx hb d_M_signal_1 rfl (lv_at hl 0 rfl) ?_
  refine lv_iload_n hx hb d_M_signal_2 rfl (lv_at hl 1 rfl) ?_
  refine w_ci (As := [.int (x)]) (rest := [.ref (a 0)]) ⟨hx, hb, hml, hown, hts⟩ (c_M_isTile l D cI cZ g a ha w h Q L cn th kf Z pf x hG) (cwV 1 hts (t_gV k_methodLink_rn_M_45_y_M_isTile k_instanceMethod_y_M_isTile k_selects_rn_M_y_M_isTile_y_M_isTile k_initialized_rn_M k_code_y_M_isTile_prog_6_method_3_code_2_some_boolean) rfl rfl rfl (by decide +kernel) ⟨Nat.le_of_ble_eq_true rfl, Nat.le_of_ble_eq_true rfl⟩) (va_recv hK hP (ci := 4) (q0 := 0) rfl rfl) hP hK hZ hS rfl hl.1 rfl (Nat.le_of_ble_eq_true rfl) d_M_signal_3 ⟨Nat.zero_le _, Nat.zero_le _⟩ (fun r_3 u_3 H locs hw hP hS => ?_)
  subst hw
  have hP : va_P D vwCl (mw cI cZ a w h (fun p => rt_b (decide (Q p ≠ 0))) (fun p => nI (rt_g Q p)) (fun p => nI (rt_s Q p)) (fun i => nI (L i)) cn th kf (fun p => rt_b (Z p)) pf) H := hP
  refine rw_beq (tgt := 16) hx hb d_M_signal_6 (by decide) (fun c_6 => ?_) (fun c_6 => ?_)
  · refine lv_iconst (v := (nI (1))) hx hb d_M_signal_16 (by decide) ?_
    refine lv_goto (tgt := 60) hx hb d_M_signal_17 (by decide) ?_
    refine va_put (D := D) (ci := 4) (v := .int (nI (1))) (ty := .int) (C := rn_M) (T := tf_M) (N := 12) hx hb hts in_M tt_M tt_M_ok nm_M hown hK hP hD hS 0 rfl rfl 1 (by decide) (hts _ k_fieldLink_rn_M_42_rn_M_thrown_I) (fun _ h9 => h9) rfl (by decide +kernel) rfl rfl (Nat.le_of_ble_eq_true rfl) d_M_signal_60 (fun H locs hP hD hS => ?_)
    have hP : va_P D vwCl (mw cI cZ a w h (fun p => rt_b (decide (Q p ≠ 0))) (fun p => nI (rt_g Q p)) (fun p => nI (rt_s Q p)) (fun i => nI (L i)) cn (nI (1)) kf (fun p => rt_b (Z p)) pf) H := hP
    have hD : va_D (mA a) (mw cI cZ a w h (fun p => rt_b (decide (Q p ≠ 0))) (fun p => nI (rt_g Q p)) (fun p => nI (rt_s Q p)) (fun i => nI (L i)) cn (nI (1)) kf (fun p => rt_b (Z p)) pf) := m_D ha _ rfl
    refine lv_aload_n hx hb d_M_signal_63 rfl (lv_at hl 0 rfl) ?_
    refine va_get (D := D) (ci := 4) (v := .int ((nI (1)))) (C := rn_M) (T := tf_M) (N := 12) hx hb hts in_M hown hK hP 0 rfl rfl 1 (by decide) (hts _ k_fieldLink_rn_M_42_rn_M_thrown_I) (fun _ h9 => h9) rfl d_M_signal_64 ?_
    refine lv_if_ne (tgt := 98) hx hb d_M_signal_67 (by decide) (fun c_67 => ?_) (fun c_67 => ?_)
    · exact w_vret (Q, L, cn, (nI (1))) hx hb hr hlocks hS hP (by rw [rt_sig_n (by first | exact Or.inl (rt_ix_no c_6) | exact Or.inr (rt_ix_no c_13))]; exact ⟨rfl, rfl, hL⟩) d_M_signal_98
    · exact absurd c_67 (by decide)
  · obtain ⟨t, ht, rfl⟩ := rt_ix_is (by omega) c_6
    refine lv_iload_n hx hb d_M_signal_9 rfl (lv_at hl 2 rfl) ?_
    refine w_si (As := [.int (y)]) (rest := [.ref (a 0)]) ⟨hx, hb, hml, hown, hts⟩ (c_M_isKind l D cI cZ g a ha w h Q L cn th kf Z pf y hG) (va_cwS 1 hts (t_gS k_methodLink_rn_M_49_y_M_isKind k_static_y_M_isKind k_initialized_rn_M k_code_y_M_isKind_prog_6_method_4_code_1_some_boolean) rfl rfl rfl (by decide +kernel) ⟨Nat.le_of_ble_eq_true rfl, Nat.le_of_ble_eq_true rfl⟩) hP hK hZ hS rfl hl.1 rfl (Nat.le_of_ble_eq_true rfl) d_M_signal_10 ⟨Nat.zero_le _, Nat.zero_le _⟩ (fun r_10 u_10 H locs hw hP hS => ?_)
    subst hw
    have hP : va_P D vwCl (mw cI cZ a w h (fun p => rt_b (decide (Q p ≠ 0))) (fun p => nI (rt_g Q p)) (fun p => nI (rt_s Q p)) (fun i => nI (L i)) cn th kf (fun p => rt_b (Z p)) pf) H := hP
    refine rw_bne (tgt := 20) hx hb d_M_signal_13 (by decide) (fun c_13 => ?_) (fun c_13 => ?_)
    · obtain ⟨k, hk, rfl⟩ := rt_ix_is (by omega) c_13
      refine lv_aload_n hx hb d_M_signal_20 rfl (lv_at hl 0 rfl) ?_
      refine va_get (D := D) (ci := 4) (v := .ref (a 2)) (C := rn_M) (T := tf_M) (N := 12) hx hb hts in_M hown hK hP 0 rfl rfl 4 (by decide) (hts _ k_fieldLink_rn_M_13_rn_M_there_Z) (fun _ h9 => h9) rfl d_M_signal_21 ?_
      refine lv_bipush (v := (nI (6))) hx hb d_M_signal_24 (by decide) ?_
      refine lv_iload_n hx hb d_M_signal_26 rfl (lv_at hl 1 rfl) ?_
      refine rw_mul hx hb d_M_signal_27 ?_
      refine lv_iload_n hx hb d_M_signal_28 rfl (lv_at hl 2 rfl) ?_
      refine rw_add hx hb d_M_signal_29 ?_
      refine rw_zald (v := (rt_b (decide (Q ((6 * t) + k) ≠ 0)))) hx hb hK hP 2 1 rfl rfl (by omega) (by omega) (rfl) d_M_signal_30 ?_
      refine rw_beq (tgt := 55) hx hb d_M_signal_31 (by decide) (fun c_31 => ?_) (fun c_31 => ?_)
      · refine lv_iconst (v := (nI (2))) hx hb d_M_signal_55 (by decide) ?_
        refine lv_goto (tgt := 60) hx hb d_M_signal_56 (by decide) ?_
        refine va_put (D := D) (ci := 4) (v := .int (nI (2))) (ty := .int) (C := rn_M) (T := tf_M) (N := 12) hx hb hts in_M tt_M tt_M_ok nm_M hown hK hP hD hS 0 rfl rfl 1 (by decide) (hts _ k_fieldLink_rn_M_42_rn_M_thrown_I) (fun _ h9 => h9) rfl (by decide +kernel) rfl rfl (Nat.le_of_ble_eq_true rfl) d_M_signal_60 (fun H locs hP hD hS => ?_)
        have hP : va_P D vwCl (mw cI cZ a w h (fun p => rt_b (decide (Q p ≠ 0))) (fun p => nI (rt_g Q p)) (fun p => nI (rt_s Q p)) (fun i => nI (L i)) cn (nI (2)) kf (fun p => rt_b (Z p)) pf) H := hP
        have hD : va_D (mA a) (mw cI cZ a w h (fun p => rt_b (decide (Q p ≠ 0))) (fun p => nI (rt_g Q p)) (fun p => nI (rt_s Q p)) (fun i => nI (L i)) cn (nI (2)) kf (fun p => rt_b (Z p)) pf) := m_D ha _ rfl
        refine lv_aload_n hx hb d_M_signal_63 rfl (lv_at hl 0 rfl) ?_
        refine va_get (D := D) (ci := 4) (v := .int ((nI (2)))) (C := rn_M) (T := tf_M) (N := 12) hx hb hts in_M hown hK hP 0 rfl rfl 1 (by decide) (hts _ k_fieldLink_rn_M_42_rn_M_thrown_I) (fun _ h9 => h9) rfl d_M_signal_64 ?_
        refine lv_if_ne (tgt := 98) hx hb d_M_signal_67 (by decide) (fun c_67 => ?_) (fun c_67 => ?_)
        · exact w_vret (Q, L, cn, (nI (2))) hx hb hr hlocks hS hP (by rw [rt_sig_s (by omega) ht hk, if_pos (by first | exact Or.inl (Decidable.not_not.mp (of_decide_eq_false c_31)) | exact Or.inr (Or.inl c_36) | exact Or.inr (Or.inr (Or.inl c_41)) | exact Or.inr (Or.inr (Or.inr (Or.inl c_46))) | exact Or.inr (Or.inr (Or.inr (Or.inr (rt_nle1 c_52)))))]; exact ⟨rfl, rfl, hL⟩) d_M_signal_98
        · exact absurd c_67 (by decide)
      · refine lv_iload_n hx hb d_M_signal_34 rfl (lv_at hl 3 rfl) ?_
        refine lv_iconst (v := (-1)) hx hb d_M_signal_35 (by decide) ?_
        refine lv_icmp_lt (tgt := 55) hx hb d_M_signal_36 (by decide) (fun c_36 => ?_) (fun c_36 => ?_)
        · refine lv_iconst (v := (nI (2))) hx hb d_M_signal_55 (by decide) ?_
          refine lv_goto (tgt := 60) hx hb d_M_signal_56 (by decide) ?_
          refine va_put (D := D) (ci := 4) (v := .int (nI (2))) (ty := .int) (C := rn_M) (T := tf_M) (N := 12) hx hb hts in_M tt_M tt_M_ok nm_M hown hK hP hD hS 0 rfl rfl 1 (by decide) (hts _ k_fieldLink_rn_M_42_rn_M_thrown_I) (fun _ h9 => h9) rfl (by decide +kernel) rfl rfl (Nat.le_of_ble_eq_true rfl) d_M_signal_60 (fun H locs hP hD hS => ?_)
          have hP : va_P D vwCl (mw cI cZ a w h (fun p => rt_b (decide (Q p ≠ 0))) (fun p => nI (rt_g Q p)) (fun p => nI (rt_s Q p)) (fun i => nI (L i)) cn (nI (2)) kf (fun p => rt_b (Z p)) pf) H := hP
          have hD : va_D (mA a) (mw cI cZ a w h (fun p => rt_b (decide (Q p ≠ 0))) (fun p => nI (rt_g Q p)) (fun p => nI (rt_s Q p)) (fun i => nI (L i)) cn (nI (2)) kf (fun p => rt_b (Z p)) pf) := m_D ha _ rfl
          refine lv_aload_n hx hb d_M_signal_63 rfl (lv_at hl 0 rfl) ?_
          refine va_get (D := D) (ci := 4) (v := .int ((nI (2)))) (C := rn_M) (T := tf_M) (N := 12) hx hb hts in_M hown hK hP 0 rfl rfl 1 (by decide) (hts _ k_fieldLink_rn_M_42_rn_M_thrown_I) (fun _ h9 => h9) rfl d_M_signal_64 ?_
          refine lv_if_ne (tgt := 98) hx hb d_M_signal_67 (by decide) (fun c_67 => ?_) (fun c_67 => ?_)
          · exact w_vret (Q, L, cn, (nI (2))) hx hb hr hlocks hS hP (by rw [rt_sig_s (by omega) ht hk, if_pos (by first | exact Or.inl (Decidable.not_not.mp (of_decide_eq_false c_31)) | exact Or.inr (Or.inl c_36) | exact Or.inr (Or.inr (Or.inl c_41)) | exact Or.inr (Or.inr (Or.inr (Or.inl c_46))) | exact Or.inr (Or.inr (Or.inr (Or.inr (rt_nle1 c_52)))))]; exact ⟨rfl, rfl, hL⟩) d_M_signal_98
          · exact absurd c_67 (by decide)
        · refine lv_iload_n hx hb d_M_signal_39 rfl (lv_at hl 3 rfl) ?_
          refine lv_iconst (v := (nI (1))) hx hb d_M_signal_40 (by decide) ?_
          refine lv_icmp_gt (tgt := 55) hx hb d_M_signal_41 (by decide) (fun c_41 => ?_) (fun c_41 => ?_)
          · refine lv_iconst (v := (nI (2))) hx hb d_M_signal_55 (by decide) ?_
            refine lv_goto (tgt := 60) hx hb d_M_signal_56 (by decide) ?_
            refine va_put (D := D) (ci := 4) (v := .int (nI (2))) (ty := .int) (C := rn_M) (T := tf_M) (N := 12) hx hb hts in_M tt_M tt_M_ok nm_M hown hK hP hD hS 0 rfl rfl 1 (by decide) (hts _ k_fieldLink_rn_M_42_rn_M_thrown_I) (fun _ h9 => h9) rfl (by decide +kernel) rfl rfl (Nat.le_of_ble_eq_true rfl) d_M_signal_60 (fun H locs hP hD hS => ?_)
            have hP : va_P D vwCl (mw cI cZ a w h (fun p => rt_b (decide (Q p ≠ 0))) (fun p => nI (rt_g Q p)) (fun p => nI (rt_s Q p)) (fun i => nI (L i)) cn (nI (2)) kf (fun p => rt_b (Z p)) pf) H := hP
            have hD : va_D (mA a) (mw cI cZ a w h (fun p => rt_b (decide (Q p ≠ 0))) (fun p => nI (rt_g Q p)) (fun p => nI (rt_s Q p)) (fun i => nI (L i)) cn (nI (2)) kf (fun p => rt_b (Z p)) pf) := m_D ha _ rfl
            refine lv_aload_n hx hb d_M_signal_63 rfl (lv_at hl 0 rfl) ?_
            refine va_get (D := D) (ci := 4) (v := .int ((nI (2)))) (C := rn_M) (T := tf_M) (N := 12) hx hb hts in_M hown hK hP 0 rfl rfl 1 (by decide) (hts _ k_fieldLink_rn_M_42_rn_M_thrown_I) (fun _ h9 => h9) rfl d_M_signal_64 ?_
            refine lv_if_ne (tgt := 98) hx hb d_M_signal_67 (by decide) (fun c_67 => ?_) (fun c_67 => ?_)
            · exact w_vret (Q, L, cn, (nI (2))) hx hb hr hlocks hS hP (by rw [rt_sig_s (by omega) ht hk, if_pos (by first | exact Or.inl (Decidable.not_not.mp (of_decide_eq_false c_31)) | exact Or.inr (Or.inl c_36) | exact Or.inr (Or.inr (Or.inl c_41)) | exact Or.inr (Or.inr (Or.inr (Or.inl c_46))) | exact Or.inr (Or.inr (Or.inr (Or.inr (rt_nle1 c_52)))))]; exact ⟨rfl, rfl, hL⟩) d_M_signal_98
            · exact absurd c_67 (by decide)
          · refine lv_iload hx hb d_M_signal_44 (lv_at hl 4 rfl) ?_
            refine lv_if_lt (tgt := 55) hx hb d_M_signal_46 (by decide) (fun c_46 => ?_) (fun c_46 => ?_)
            · refine lv_iconst (v := (nI (2))) hx hb d_M_signal_55 (by decide) ?_
              refine lv_goto (tgt := 60) hx hb d_M_signal_56 (by decide) ?_
              refine va_put (D := D) (ci := 4) (v := .int (nI (2))) (ty := .int) (C := rn_M) (T := tf_M) (N := 12) hx hb hts in_M tt_M tt_M_ok nm_M hown hK hP hD hS 0 rfl rfl 1 (by decide) (hts _ k_fieldLink_rn_M_42_rn_M_thrown_I) (fun _ h9 => h9) rfl (by decide +kernel) rfl rfl (Nat.le_of_ble_eq_true rfl) d_M_signal_60 (fun H locs hP hD hS => ?_)
              have hP : va_P D vwCl (mw cI cZ a w h (fun p => rt_b (decide (Q p ≠ 0))) (fun p => nI (rt_g Q p)) (fun p => nI (rt_s Q p)) (fun i => nI (L i)) cn (nI (2)) kf (fun p => rt_b (Z p)) pf) H := hP
              have hD : va_D (mA a) (mw cI cZ a w h (fun p => rt_b (decide (Q p ≠ 0))) (fun p => nI (rt_g Q p)) (fun p => nI (rt_s Q p)) (fun i => nI (L i)) cn (nI (2)) kf (fun p => rt_b (Z p)) pf) := m_D ha _ rfl
              refine lv_aload_n hx hb d_M_signal_63 rfl (lv_at hl 0 rfl) ?_
              refine va_get (D := D) (ci := 4) (v := .int ((nI (2)))) (C := rn_M) (T := tf_M) (N := 12) hx hb hts in_M hown hK hP 0 rfl rfl 1 (by decide) (hts _ k_fieldLink_rn_M_42_rn_M_thrown_I) (fun _ h9 => h9) rfl d_M_signal_64 ?_
              refine lv_if_ne (tgt := 98) hx hb d_M_signal_67 (by decide) (fun c_67 => ?_) (fun c_67 => ?_)
              · exact w_vret (Q, L, cn, (nI (2))) hx hb hr hlocks hS hP (by rw [rt_sig_s (by omega) ht hk, if_pos (by first | exact Or.inl (Decidable.not_not.mp (of_decide_eq_false c_31)) | exact Or.inr (Or.inl c_36) | exact Or.inr (Or.inr (Or.inl c_41)) | exact Or.inr (Or.inr (Or.inr (Or.inl c_46))) | exact Or.inr (Or.inr (Or.inr (Or.inr (rt_nle1 c_52)))))]; exact ⟨rfl, rfl, hL⟩) d_M_signal_98
              · exact absurd c_67 (by decide)
            · refine lv_iload hx hb d_M_signal_49 (lv_at hl 4 rfl) ?_
              refine lv_iconst (v := (nI (1))) hx hb d_M_signal_51 (by decide) ?_
              refine lv_icmp_le (tgt := 59) hx hb d_M_signal_52 (by decide) (fun c_52 => ?_) (fun c_52 => ?_)
              · refine lv_iconst (v := (nI (0))) hx hb d_M_signal_59 (by decide) ?_
                refine va_put (D := D) (ci := 4) (v := .int (nI (0))) (ty := .int) (C := rn_M) (T := tf_M) (N := 12) hx hb hts in_M tt_M tt_M_ok nm_M hown hK hP hD hS 0 rfl rfl 1 (by decide) (hts _ k_fieldLink_rn_M_42_rn_M_thrown_I) (fun _ h9 => h9) rfl (by decide +kernel) rfl rfl (Nat.le_of_ble_eq_true rfl) d_M_signal_60 (fun H locs hP hD hS => ?_)
                have hP : va_P D vwCl (mw cI cZ a w h (fun p => rt_b (decide (Q p ≠ 0))) (fun p => nI (rt_g Q p)) (fun p => nI (rt_s Q p)) (fun i => nI (L i)) cn (nI (0)) kf (fun p => rt_b (Z p)) pf) H := hP
                have hD : va_D (mA a) (mw cI cZ a w h (fun p => rt_b (decide (Q p ≠ 0))) (fun p => nI (rt_g Q p)) (fun p => nI (rt_s Q p)) (fun i => nI (L i)) cn (nI (0)) kf (fun p => rt_b (Z p)) pf) := m_D ha _ rfl
                refine lv_aload_n hx hb d_M_signal_63 rfl (lv_at hl 0 rfl) ?_
                refine va_get (D := D) (ci := 4) (v := .int ((nI (0)))) (C := rn_M) (T := tf_M) (N := 12) hx hb hts in_M hown hK hP 0 rfl rfl 1 (by decide) (hts _ k_fieldLink_rn_M_42_rn_M_thrown_I) (fun _ h9 => h9) rfl d_M_signal_64 ?_
                refine lv_if_ne (tgt := 98) hx hb d_M_signal_67 (by decide) (fun c_67 => ?_) (fun c_67 => ?_)
                · exact absurd rfl c_67
                · refine lv_aload_n hx hb d_M_signal_70 rfl (lv_at hl 0 rfl) ?_
                  refine va_get (D := D) (ci := 4) (v := .ref (a 3)) (C := rn_M) (T := tf_M) (N := 12) hx hb hts in_M hown hK hP 0 rfl rfl 5 (by decide) (hts _ k_fieldLink_rn_M_17_rn_M_signs_I) (fun _ h9 => h9) rfl d_M_signal_71 ?_
                  refine lv_bipush (v := (nI (6))) hx hb d_M_signal_74 (by decide) ?_
                  refine lv_iload_n hx hb d_M_signal_76 rfl (lv_at hl 1 rfl) ?_
                  refine rw_mul hx hb d_M_signal_77 ?_
                  refine lv_iload_n hx hb d_M_signal_78 rfl (lv_at hl 2 rfl) ?_
                  refine rw_add hx hb d_M_signal_79 ?_
                  refine lv_iload_n hx hb d_M_signal_80 rfl (lv_at hl 3 rfl) ?_
                  refine lv_iconst (v := (-1)) hx hb d_M_signal_81 (by decide) ?_
                  refine lv_icmp_ne (tgt := 89) hx hb d_M_signal_82 (by decide) (fun c_82 => ?_) (fun c_82 => ?_)
                  · obtain ⟨v1, hv1, rfl⟩ := rt_v01 c_36 c_41 c_82
                    obtain ⟨u1, hu1, rfl⟩ := rt_u01 c_46 c_52
                    refine lv_iconst (v := (nI (1))) hx hb d_M_signal_89 (by decide) ?_
                    refine lv_iload_n hx hb d_M_signal_90 rfl (lv_at hl 3 rfl) ?_
                    refine rw_add hx hb d_M_signal_91 ?_
                    refine lv_iconst (v := (nI (2))) hx hb d_M_signal_92 (by decide) ?_
                    refine lv_iload hx hb d_M_signal_93 (lv_at hl 4 rfl) ?_
                    refine rw_mul hx hb d_M_signal_95 ?_
                    refine rw_add hx hb d_M_signal_96 ?_
                    refine rw_iast (h := (fun p => nI (va_up (rt_g Q) (6 * t + k) (1 + v1 + 2 * u1) p))) hx hb hK hP hD hS 3 0 rfl rfl (by omega) (by omega) (fun j _ => rt_upd (rt_g Q) (6 * t + k) (1 + v1 + 2 * u1) j) d_M_signal_97 (fun H locs hP hD hS => ?_)
                    have hP : va_P D vwCl (mw cI cZ a w h (fun p => rt_b (decide (Q p ≠ 0))) (fun p => nI (va_up (rt_g Q) (6 * t + k) (1 + v1 + 2 * u1) p)) (fun p => nI (rt_s Q p)) (fun i => nI (L i)) cn (nI (0)) kf (fun p => rt_b (Z p)) pf) H := hP
                    have hD : va_D (mA a) (mw cI cZ a w h (fun p => rt_b (decide (Q p ≠ 0))) (fun p => nI (va_up (rt_g Q) (6 * t + k) (1 + v1 + 2 * u1) p)) (fun p => nI (rt_s Q p)) (fun i => nI (L i)) cn (nI (0)) kf (fun p => rt_b (Z p)) pf) := m_D ha _ rfl
                    have hq0 : Q (6 * t + k) ≠ 0 := of_decide_eq_true c_31
                    have hP := m_conv (tf' := fun p => rt_b (decide (va_up Q (6 * t + k) (1 + 4 * (1 + v1 + 2 * u1) + 32 * rt_s Q (6 * t + k)) p ≠ 0))) (gf' := fun p => nI (rt_g (va_up Q (6 * t + k) (1 + 4 * (1 + v1 + 2 * u1) + 32 * rt_s Q (6 * t + k))) p)) (sf' := fun p => nI (rt_s (va_up Q (6 * t + k) (1 + 4 * (1 + v1 + 2 * u1) + 32 * rt_s Q (6 * t + k))) p)) (lf' := fun i => nI (L i)) (fun j _ => congrArg rt_b ((rt_up_t Q (6 * t + k) (1 + 4 * (1 + v1 + 2 * u1) + 32 * rt_s Q (6 * t + k)) j).trans (rt_up_ib (by simp [hq0]) j)).symm) (fun j _ => congrArg nI ((rt_up_g Q (6 * t + k) (1 + 4 * (1 + v1 + 2 * u1) + 32 * rt_s Q (6 * t + k)) j).trans (by rw [show (1 + 4 * (1 + v1 + 2 * u1) + 32 * rt_s Q (6 * t + k)) / 4 % 8 = (1 + v1 + 2 * u1) by omega])).symm) (fun j _ => congrArg nI ((rt_up_sn Q (6 * t + k) (1 + 4 * (1 + v1 + 2 * u1) + 32 * rt_s Q (6 * t + k)) j).trans (rt_up_id (by omega) j)).symm) (fun j _ => rfl) hP
                    exact w_vret (va_up Q (6 * t + k) (1 + 4 * (1 + v1 + 2 * u1) + 32 * rt_s Q (6 * t + k)), L, cn, nI 0) hx hb hr hlocks hS hP (by rw [rt_sig_s (by omega) ht hk, if_neg (by rintro (q9 | q9 | q9 | q9 | q9); exact of_decide_eq_true c_31 q9; exact c_36 q9; exact c_41 q9; exact c_46 q9; exact Int32.not_lt.mpr c_52 q9), rt_sv_s hv1 hu1]; exact ⟨rfl, rfl, rt_isL_keep hL hq0 (by omega)⟩) d_M_signal_98
                  · subst c_82
                    refine lv_iconst (v := (nI (0))) hx hb d_M_signal_85 (by decide) ?_
                    refine lv_goto (tgt := 97) hx hb d_M_signal_86 (by decide) ?_
                    refine rw_iast (h := (fun p => nI (va_up (rt_g Q) (6 * t + k) 0 p))) hx hb hK hP hD hS 3 0 rfl rfl (by omega) (by omega) (fun j _ => rt_upd (rt_g Q) (6 * t + k) 0 j) d_M_signal_97 (fun H locs hP hD hS => ?_)
                    have hP : va_P D vwCl (mw cI cZ a w h (fun p => rt_b (decide (Q p ≠ 0))) (fun p => nI (va_up (rt_g Q) (6 * t + k) 0 p)) (fun p => nI (rt_s Q p)) (fun i => nI (L i)) cn (nI (0)) kf (fun p => rt_b (Z p)) pf) H := hP
                    have hD : va_D (mA a) (mw cI cZ a w h (fun p => rt_b (decide (Q p ≠ 0))) (fun p => nI (va_up (rt_g Q) (6 * t + k) 0 p)) (fun p => nI (rt_s Q p)) (fun i => nI (L i)) cn (nI (0)) kf (fun p => rt_b (Z p)) pf) := m_D ha _ rfl
                    have hq0 : Q (6 * t + k) ≠ 0 := of_decide_eq_true c_31
                    have hP := m_conv (tf' := fun p => rt_b (decide (va_up Q (6 * t + k) (1 + 4 * 0 + 32 * rt_s Q (6 * t + k)) p ≠ 0))) (gf' := fun p => nI (rt_g (va_up Q (6 * t + k) (1 + 4 * 0 + 32 * rt_s Q (6 * t + k))) p)) (sf' := fun p => nI (rt_s (va_up Q (6 * t + k) (1 + 4 * 0 + 32 * rt_s Q (6 * t + k))) p)) (lf' := fun i => nI (L i)) (fun j _ => congrArg rt_b ((rt_up_t Q (6 * t + k) (1 + 4 * 0 + 32 * rt_s Q (6 * t + k)) j).trans (rt_up_ib (by simp [hq0]) j)).symm) (fun j _ => congrArg nI ((rt_up_g Q (6 * t + k) (1 + 4 * 0 + 32 * rt_s Q (6 * t + k)) j).trans (by rw [show (1 + 4 * 0 + 32 * rt_s Q (6 * t + k)) / 4 % 8 = 0 by omega])).symm) (fun j _ => congrArg nI ((rt_up_sn Q (6 * t + k) (1 + 4 * 0 + 32 * rt_s Q (6 * t + k)) j).trans (rt_up_id (by omega) j)).symm) (fun j _ => rfl) hP
                    exact w_vret (va_up Q (6 * t + k) (1 + 4 * 0 + 32 * rt_s Q (6 * t + k)), L, cn, nI 0) hx hb hr hlocks hS hP (by rw [rt_sig_s (by omega) ht hk, if_neg (by rintro (q9 | q9 | q9 | q9 | q9); exact of_decide_eq_true c_31 q9; exact c_36 q9; exact c_41 q9; exact c_46 q9; exact Int32.not_lt.mpr c_52 q9), rt_sv_n u0]; exact ⟨rfl, rfl, rt_isL_keep hL hq0 (by omega)⟩) d_M_signal_98
              · refine lv_iconst (v := (nI (2))) hx hb d_M_signal_55 (by decide) ?_
                refine lv_goto (tgt := 60) hx hb d_M_signal_56 (by decide) ?_
                refine va_put (D := D) (ci := 4) (v := .int (nI (2))) (ty := .int) (C := rn_M) (T := tf_M) (N := 12) hx hb hts in_M tt_M tt_M_ok nm_M hown hK hP hD hS 0 rfl rfl 1 (by decide) (hts _ k_fieldLink_rn_M_42_rn_M_thrown_I) (fun _ h9 => h9) rfl (by decide +kernel) rfl rfl (Nat.le_of_ble_eq_true rfl) d_M_signal_60 (fun H locs hP hD hS => ?_)
                have hP : va_P D vwCl (mw cI cZ a w h (fun p => rt_b (decide (Q p ≠ 0))) (fun p => nI (rt_g Q p)) (fun p => nI (rt_s Q p)) (fun i => nI (L i)) cn (nI (2)) kf (fun p => rt_b (Z p)) pf) H := hP
                have hD : va_D (mA a) (mw cI cZ a w h (fun p => rt_b (decide (Q p ≠ 0))) (fun p => nI (rt_g Q p)) (fun p => nI (rt_s Q p)) (fun i => nI (L i)) cn (nI (2)) kf (fun p => rt_b (Z p)) pf) := m_D ha _ rfl
                refine lv_aload_n hx hb d_M_signal_63 rfl (lv_at hl 0 rfl) ?_
                refine va_get (D := D) (ci := 4) (v := .int ((nI (2)))) (C := rn_M) (T := tf_M) (N := 12) hx hb hts in_M hown hK hP 0 rfl rfl 1 (by decide) (hts _ k_fieldLink_rn_M_42_rn_M_thrown_I) (fun _ h9 => h9) rfl d_M_signal_64 ?_
                refine lv_if_ne (tgt := 98) hx hb d_M_signal_67 (by decide) (fun c_67 => ?_) (fun c_67 => ?_)
                · exact w_vret (Q, L, cn, (nI (2))) hx hb hr hlocks hS hP (by rw [rt_sig_s (by omega) ht hk, if_pos (by first | exact Or.inl (Decidable.not_not.mp (of_decide_eq_false c_31)) | exact Or.inr (Or.inl c_36) | exact Or.inr (Or.inr (Or.inl c_41)) | exact Or.inr (Or.inr (Or.inr (Or.inl c_46))) | exact Or.inr (Or.inr (Or.inr (Or.inr (rt_nle1 c_52)))))]; exact ⟨rfl, rfl, hL⟩) d_M_signal_98
                · exact absurd c_67 (by decide)
    · refine lv_iconst (v := (nI (1))) hx hb d_M_signal_16 (by decide) ?_
      refine lv_goto (tgt := 60) hx hb d_M_signal_17 (by decide) ?_
      refine va_put (D := D) (ci := 4) (v := .int (nI (1))) (ty := .int) (C := rn_M) (T := tf_M) (N := 12) hx hb hts in_M tt_M tt_M_ok nm_M hown hK hP hD hS 0 rfl rfl 1 (by decide) (hts _ k_fieldLink_rn_M_42_rn_M_thrown_I) (fun _ h9 => h9) rfl (by decide +kernel) rfl rfl (Nat.le_of_ble_eq_true rfl) d_M_signal_60 (fun H locs hP hD hS => ?_)
      have hP : va_P D vwCl (mw cI cZ a w h (fun p => rt_b (decide (Q p ≠ 0))) (fun p => nI (rt_g Q p)) (fun p => nI (rt_s Q p)) (fun i => nI (L i)) cn (nI (1)) kf (fun p => rt_b (Z p)) pf) H := hP
      have hD : va_D (mA a) (mw cI cZ a w h (fun p => rt_b (decide (Q p ≠ 0))) (fun p => nI (rt_g Q p)) (fun p => nI (rt_s Q p)) (fun i => nI (L i)) cn (nI (1)) kf (fun p => rt_b (Z p)) pf) := m_D ha _ rfl
      refine lv_aload_n hx hb d_M_signal_63 rfl (lv_at hl 0 rfl) ?_
      refine va_get (D := D) (ci := 4) (v := .int ((nI (1)))) (C := rn_M) (T := tf_M) (N := 12) hx hb hts in_M hown hK hP 0 rfl rfl 1 (by decide) (hts _ k_fieldLink_rn_M_42_rn_M_thrown_I) (fun _ h9 => h9) rfl d_M_signal_64 ?_
      refine lv_if_ne (tgt := 98) hx hb d_M_signal_67 (by decide) (fun c_67 => ?_) (fun c_67 => ?_)
      · exact w_vret (Q, L, cn, (nI (1))) hx hb hr hlocks hS hP (by rw [rt_sig_n (by first | exact Or.inl (rt_ix_no c_6) | exact Or.inr (rt_ix_no c_13))]; exact ⟨rfl, rfl, hL⟩) d_M_signal_98
      · exact absurd c_67 (by decide)

set_option maxHeartbeats 4000000 in
set_option maxRecDepth 100000 in
theorem c_M_platform (l : Launch) (D : va_G) (cI cZ : ClassId) (g a : Nat → Nat) (ha : mI a) (w h : Nat) (Q L : Nat → Nat) (cn : Nat) (th : Int32) (kf : Nat → Int32) (Z : Nat → Bool) (pf : Nat → Int32) (x y v : Int32) (hG : rt_G w h Q) (hL : rt_isL Q L cn) : Met l y_M_platform (.code y_M_platform b_M_platform 4 none :: tG) ({ frames := 1, cells := 0, slots := 0, locals := 21 }) (va_Pc [.ref (a 0), .int (x), .int (y), .int (v)] (wU D cI cZ g (mA a) (mw cI cZ a w h (fun p => rt_b (decide (Q p ≠ 0))) (fun p => nI (rt_g Q p)) (fun p => nI (rt_s Q p)) (fun i => nI (L i)) cn th kf (fun p => rt_b (Z p)) pf))) (va_Qv (S := ((Nat → Nat) × (Nat → Nat) × Nat × Int32)) (fun u => u.2.2.2 = nI (rt_plt Q (w * h) x y v).1 ∧ u.1 = (rt_plt Q (w * h) x y v).2 ∧ rt_isL u.1 u.2.1 u.2.2.1) (wB D (fun (u : ((Nat → Nat) × (Nat → Nat) × Nat × Int32)) => (mw cI cZ a w h (fun p => rt_b (decide (u.1 p ≠ 0))) (fun p => nI (rt_g u.1 p)) (fun p => nI (rt_s u.1 p)) (fun i => nI (u.2.1 i)) u.2.2.1 u.2.2.2 kf (fun p => rt_b (Z p)) pf))) (mA a)) 0 0 (mA a) := by
  refine Met.ofW (cc := b_M_platform) (maxL := 4) (ret := none) (by decide) rfl ?_
  intro p e s m args below meth c s₁ BD9 hml hv
  obtain ⟨rfl, hP, hK, hZ⟩ := hv
  have hx := BD9.exec
  have hb := BD9.bytes
  have hr := BD9.returns
  have hts : ∀ w ∈ tG, w.before _ s = true := fun w hw => atoms_spec (ws := .code y_M_platform b_M_platform 4 none :: tG) BD9.pre w (List.mem_cons_of_mem _ hw)
  have hown : s.vm.findClass rn_M = some m.cls := findClass_of_methodNamed BD9.named
  have hlocks := BD9.notSynchronized
  have hS : va_S (mA a) s.heap s.heap [] := va_S.rf
  have hD : va_D (mA a) (mw cI cZ a w h (fun p => rt_b (decide (Q p ≠ 0))) (fun p => nI (rt_g Q p)) (fun p => nI (rt_s Q p)) (fun i => nI (L i)) cn th kf (fun p => rt_b (Z p)) pf) := m_D ha _ rfl
  have hP : va_P D vwCl (mw cI cZ a w h (fun p => rt_b (decide (Q p ≠ 0))) (fun p => nI (rt_g Q p)) (fun p => nI (rt_s Q p)) (fun i => nI (L i)) cn th kf (fun p => rt_b (Z p)) pf) s.heap := hP
  have hl := lv_entry ([.ref (a 0), .int (x), .int (y), .int (v)]) (n := 4) (Nat.le_of_ble_eq_true rfl)
  rw [lg_entry_eq]
  generalize (lg_sl ([.ref (a 0), .int (x), .int (y), .int (v)]) ++ List.replicate (4 - (lg_sl ([.ref (a 0), .int (x), .int (y), .int (v)])).length) Slot.unset).toArray = ls at hl ⊢
  have hl : lv_has ls 4 [(0, .ref (a 0)), (1, .int (x)), (2, .int (y)), (3, .int (v))] := hl
  obtain ⟨hn1, hn⟩ := hG.n
  have hw0 : 0 < w := by have := hG.1.1; omega
  have hQ := hG.2.2
  have hcn := rt_isL_cap hQ hL
  refine lv_aload_n hx hb d_M_platform_0 rfl (lv_at hl 0 rfl) ?_
  refine lv_aload_n hx hb d_M_platform_1 rfl (lv_at hl 0 rfl) ?_
  refine lv_iload_n hx hb d_M_platform_2 rfl (lv_at hl 1 rfl) ?_
  refine w_ci (As := [.int (x)]) (rest := [.ref (a 0)]) ⟨hx, hb, hml, hown, hts⟩ (c_M_isTile l D cI cZ g a ha w h Q L cn th kf Z pf x hG) (cwV 1 hts (t_gV k_methodLink_rn_M_45_y_M_isTile k_instanceMethod_y_M_isTile k_selects_rn_M_y_M_isTile_y_M_isTile k_initialized_rn_M k_code_y_M_isTile_prog_6_method_3_code_2_some_boolean) rfl rfl rfl (by decide +kernel) ⟨Nat.le_of_ble_eq_true rfl, Nat.le_of_ble_eq_true rfl⟩) (va_recv hK hP (ci := 4) (q0 := 0) rfl rfl) hP hK hZ hS rfl hl.1 rfl (Nat.le_of_ble_eq_true rfl) d_M_platform_3 ⟨Nat.zero_le _, Nat.zero_le _⟩ (fun r_3 u_3 H locs hw hP hS => ?_)
  subst hw
  have hP : va_P D vwCl (mw cI cZ a w h (fun p => rt_b (decide (Q p ≠ 0))) (fun p => nI (rt_g Q p)) (fun p => nI (rt_s Q p)) (fun i => nI (L i)) cn th kf (fun p => rt_b (Z p)) pf) H := hP
  refine rw_beq (tgt := 27) hx hb d_M_platform_6 (by decide) (fun c_6 => ?_) (fun c_6 => ?_)
  · refine lv_iconst (v := (nI (1))) hx hb d_M_platform_27 (by decide) ?_
    refine lv_goto (tgt := 55) hx hb d_M_platform_28 (by decide) ?_
    refine va_put (D := D) (ci := 4) (v := .int (nI (1))) (ty := .int) (C := rn_M) (T := tf_M) (N := 12) hx hb hts in_M tt_M tt_M_ok nm_M hown hK hP hD hS 0 rfl rfl 1 (by decide) (hts _ k_fieldLink_rn_M_42_rn_M_thrown_I) (fun _ h9 => h9) rfl (by decide +kernel) rfl rfl (Nat.le_of_ble_eq_true rfl) d_M_platform_55 (fun H locs hP hD hS => ?_)
    have hP : va_P D vwCl (mw cI cZ a w h (fun p => rt_b (decide (Q p ≠ 0))) (fun p => nI (rt_g Q p)) (fun p => nI (rt_s Q p)) (fun i => nI (L i)) cn (nI (1)) kf (fun p => rt_b (Z p)) pf) H := hP
    have hD : va_D (mA a) (mw cI cZ a w h (fun p => rt_b (decide (Q p ≠ 0))) (fun p => nI (rt_g Q p)) (fun p => nI (rt_s Q p)) (fun i => nI (L i)) cn (nI (1)) kf (fun p => rt_b (Z p)) pf) := m_D ha _ rfl
    refine lv_aload_n hx hb d_M_platform_58 rfl (lv_at hl 0 rfl) ?_
    refine va_get (D := D) (ci := 4) (v := .int ((nI (1)))) (C := rn_M) (T := tf_M) (N := 12) hx hb hts in_M hown hK hP 0 rfl rfl 1 (by decide) (hts _ k_fieldLink_rn_M_42_rn_M_thrown_I) (fun _ h9 => h9) rfl d_M_platform_59 ?_
    refine lv_if_ne (tgt := 79) hx hb d_M_platform_62 (by decide) (fun c_62 => ?_) (fun c_62 => ?_)
    · exact w_vret (Q, L, cn, (nI (1))) hx hb hr hlocks hS hP (by rw [rt_plt_n (by first | exact Or.inl (rt_ix_no c_6) | exact Or.inr (rt_ix_no c_13))]; exact ⟨rfl, rfl, hL⟩) d_M_platform_79
    · exact absurd c_62 (by decide)
  · obtain ⟨t, ht, rfl⟩ := rt_ix_is (by omega) c_6
    refine lv_iload_n hx hb d_M_platform_9 rfl (lv_at hl 2 rfl) ?_
    refine w_si (As := [.int (y)]) (rest := [.ref (a 0)]) ⟨hx, hb, hml, hown, hts⟩ (c_M_isKind l D cI cZ g a ha w h Q L cn th kf Z pf y hG) (va_cwS 1 hts (t_gS k_methodLink_rn_M_49_y_M_isKind k_static_y_M_isKind k_initialized_rn_M k_code_y_M_isKind_prog_6_method_4_code_1_some_boolean) rfl rfl rfl (by decide +kernel) ⟨Nat.le_of_ble_eq_true rfl, Nat.le_of_ble_eq_true rfl⟩) hP hK hZ hS rfl hl.1 rfl (Nat.le_of_ble_eq_true rfl) d_M_platform_10 ⟨Nat.zero_le _, Nat.zero_le _⟩ (fun r_10 u_10 H locs hw hP hS => ?_)
    subst hw
    have hP : va_P D vwCl (mw cI cZ a w h (fun p => rt_b (decide (Q p ≠ 0))) (fun p => nI (rt_g Q p)) (fun p => nI (rt_s Q p)) (fun i => nI (L i)) cn th kf (fun p => rt_b (Z p)) pf) H := hP
    refine rw_beq (tgt := 27) hx hb d_M_platform_13 (by decide) (fun c_13 => ?_) (fun c_13 => ?_)
    · refine lv_iconst (v := (nI (1))) hx hb d_M_platform_27 (by decide) ?_
      refine lv_goto (tgt := 55) hx hb d_M_platform_28 (by decide) ?_
      refine va_put (D := D) (ci := 4) (v := .int (nI (1))) (ty := .int) (C := rn_M) (T := tf_M) (N := 12) hx hb hts in_M tt_M tt_M_ok nm_M hown hK hP hD hS 0 rfl rfl 1 (by decide) (hts _ k_fieldLink_rn_M_42_rn_M_thrown_I) (fun _ h9 => h9) rfl (by decide +kernel) rfl rfl (Nat.le_of_ble_eq_true rfl) d_M_platform_55 (fun H locs hP hD hS => ?_)
      have hP : va_P D vwCl (mw cI cZ a w h (fun p => rt_b (decide (Q p ≠ 0))) (fun p => nI (rt_g Q p)) (fun p => nI (rt_s Q p)) (fun i => nI (L i)) cn (nI (1)) kf (fun p => rt_b (Z p)) pf) H := hP
      have hD : va_D (mA a) (mw cI cZ a w h (fun p => rt_b (decide (Q p ≠ 0))) (fun p => nI (rt_g Q p)) (fun p => nI (rt_s Q p)) (fun i => nI (L i)) cn (nI (1)) kf (fun p => rt_b (Z p)) pf) := m_D ha _ rfl
      refine lv_aload_n hx hb d_M_platform_58 rfl (lv_at hl 0 rfl) ?_
      refine va_get (D := D) (ci := 4) (v := .int ((nI (1)))) (C := rn_M) (T := tf_M) (N := 12) hx hb hts in_M hown hK hP 0 rfl rfl 1 (by decide) (hts _ k_fieldLink_rn_M_42_rn_M_thrown_I) (fun _ h9 => h9) rfl d_M_platform_59 ?_
      refine lv_if_ne (tgt := 79) hx hb d_M_platform_62 (by decide) (fun c_62 => ?_) (fun c_62 => ?_)
      · exact w_vret (Q, L, cn, (nI (1))) hx hb hr hlocks hS hP (by rw [rt_plt_n (by first | exact Or.inl (rt_ix_no c_6) | exact Or.inr (rt_ix_no c_13))]; exact ⟨rfl, rfl, hL⟩) d_M_platform_79
      · exact absurd c_62 (by decide)
    · obtain ⟨k, hk, rfl⟩ := rt_ix_is (by omega) c_13
      refine lv_iload_n hx hb d_M_platform_16 rfl (lv_at hl 3 rfl) ?_
      refine lv_iconst (v := (-1)) hx hb d_M_platform_17 (by decide) ?_
      refine lv_icmp_lt (tgt := 27) hx hb d_M_platform_18 (by decide) (fun c_18 => ?_) (fun c_18 => ?_)
      · refine lv_iconst (v := (nI (1))) hx hb d_M_platform_27 (by decide) ?_
        refine lv_goto (tgt := 55) hx hb d_M_platform_28 (by decide) ?_
        refine va_put (D := D) (ci := 4) (v := .int (nI (1))) (ty := .int) (C := rn_M) (T := tf_M) (N := 12) hx hb hts in_M tt_M tt_M_ok nm_M hown hK hP hD hS 0 rfl rfl 1 (by decide) (hts _ k_fieldLink_rn_M_42_rn_M_thrown_I) (fun _ h9 => h9) rfl (by decide +kernel) rfl rfl (Nat.le_of_ble_eq_true rfl) d_M_platform_55 (fun H locs hP hD hS => ?_)
        have hP : va_P D vwCl (mw cI cZ a w h (fun p => rt_b (decide (Q p ≠ 0))) (fun p => nI (rt_g Q p)) (fun p => nI (rt_s Q p)) (fun i => nI (L i)) cn (nI (1)) kf (fun p => rt_b (Z p)) pf) H := hP
        have hD : va_D (mA a) (mw cI cZ a w h (fun p => rt_b (decide (Q p ≠ 0))) (fun p => nI (rt_g Q p)) (fun p => nI (rt_s Q p)) (fun i => nI (L i)) cn (nI (1)) kf (fun p => rt_b (Z p)) pf) := m_D ha _ rfl
        refine lv_aload_n hx hb d_M_platform_58 rfl (lv_at hl 0 rfl) ?_
        refine va_get (D := D) (ci := 4) (v := .int ((nI (1)))) (C := rn_M) (T := tf_M) (N := 12) hx hb hts in_M hown hK hP 0 rfl rfl 1 (by decide) (hts _ k_fieldLink_rn_M_42_rn_M_thrown_I) (fun _ h9 => h9) rfl d_M_platform_59 ?_
        refine lv_if_ne (tgt := 79) hx hb d_M_platform_62 (by decide) (fun c_62 => ?_) (fun c_62 => ?_)
        · exact w_vret (Q, L, cn, (nI (1))) hx hb hr hlocks hS hP (by rw [rt_plt_s (by omega) ht hk, if_pos (by first | exact Or.inl c_18 | exact Or.inr (rt_nle7 c_24))]; exact ⟨rfl, rfl, hL⟩) d_M_platform_79
        · exact absurd c_62 (by decide)
      · refine lv_iload_n hx hb d_M_platform_21 rfl (lv_at hl 3 rfl) ?_
        refine lv_bipush (v := (nI (7))) hx hb d_M_platform_22 (by decide) ?_
        refine lv_icmp_le (tgt := 31) hx hb d_M_platform_24 (by decide) (fun c_24 => ?_) (fun c_24 => ?_)
        · refine lv_aload_n hx hb d_M_platform_31 rfl (lv_at hl 0 rfl) ?_
          refine va_get (D := D) (ci := 4) (v := .ref (a 2)) (C := rn_M) (T := tf_M) (N := 12) hx hb hts in_M hown hK hP 0 rfl rfl 4 (by decide) (hts _ k_fieldLink_rn_M_13_rn_M_there_Z) (fun _ h9 => h9) rfl d_M_platform_32 ?_
          refine lv_bipush (v := (nI (6))) hx hb d_M_platform_35 (by decide) ?_
          refine lv_iload_n hx hb d_M_platform_37 rfl (lv_at hl 1 rfl) ?_
          refine rw_mul hx hb d_M_platform_38 ?_
          refine lv_iload_n hx hb d_M_platform_39 rfl (lv_at hl 2 rfl) ?_
          refine rw_add hx hb d_M_platform_40 ?_
          refine rw_zald (v := (rt_b (decide (Q ((6 * t) + k) ≠ 0)))) hx hb hK hP 2 1 rfl rfl (by omega) (by omega) (rfl) d_M_platform_41 ?_
          refine rw_beq (tgt := 50) hx hb d_M_platform_42 (by decide) (fun c_42 => ?_) (fun c_42 => ?_)
          · refine lv_iconst (v := (nI (2))) hx hb d_M_platform_50 (by decide) ?_
            refine lv_goto (tgt := 55) hx hb d_M_platform_51 (by decide) ?_
            refine va_put (D := D) (ci := 4) (v := .int (nI (2))) (ty := .int) (C := rn_M) (T := tf_M) (N := 12) hx hb hts in_M tt_M tt_M_ok nm_M hown hK hP hD hS 0 rfl rfl 1 (by decide) (hts _ k_fieldLink_rn_M_42_rn_M_thrown_I) (fun _ h9 => h9) rfl (by decide +kernel) rfl rfl (Nat.le_of_ble_eq_true rfl) d_M_platform_55 (fun H locs hP hD hS => ?_)
            have hP : va_P D vwCl (mw cI cZ a w h (fun p => rt_b (decide (Q p ≠ 0))) (fun p => nI (rt_g Q p)) (fun p => nI (rt_s Q p)) (fun i => nI (L i)) cn (nI (2)) kf (fun p => rt_b (Z p)) pf) H := hP
            have hD : va_D (mA a) (mw cI cZ a w h (fun p => rt_b (decide (Q p ≠ 0))) (fun p => nI (rt_g Q p)) (fun p => nI (rt_s Q p)) (fun i => nI (L i)) cn (nI (2)) kf (fun p => rt_b (Z p)) pf) := m_D ha _ rfl
            refine lv_aload_n hx hb d_M_platform_58 rfl (lv_at hl 0 rfl) ?_
            refine va_get (D := D) (ci := 4) (v := .int ((nI (2)))) (C := rn_M) (T := tf_M) (N := 12) hx hb hts in_M hown hK hP 0 rfl rfl 1 (by decide) (hts _ k_fieldLink_rn_M_42_rn_M_thrown_I) (fun _ h9 => h9) rfl d_M_platform_59 ?_
            refine lv_if_ne (tgt := 79) hx hb d_M_platform_62 (by decide) (fun c_62 => ?_) (fun c_62 => ?_)
            · exact w_vret (Q, L, cn, (nI (2))) hx hb hr hlocks hS hP (by rw [rt_plt_s (by omega) ht hk, if_neg (by rintro (q9 | q9); exact c_18 q9; exact Int32.not_lt.mpr c_24 q9), if_pos (by first | exact Or.inl (Decidable.not_not.mp (of_decide_eq_false c_42)) | exact Or.inr (by omega))]; exact ⟨rfl, rfl, hL⟩) d_M_platform_79
            · exact absurd c_62 (by decide)
          · refine lv_iload_n hx hb d_M_platform_45 rfl (lv_at hl 2 rfl) ?_
            refine lv_iconst (v := (nI (1))) hx hb d_M_platform_46 (by decide) ?_
            refine rw_cle (tgt := 54) hx hb d_M_platform_47 (by decide) (by omega) (by omega) (fun c_47 => ?_) (fun c_47 => ?_)
            · refine lv_iconst (v := (nI (0))) hx hb d_M_platform_54 (by decide) ?_
              refine va_put (D := D) (ci := 4) (v := .int (nI (0))) (ty := .int) (C := rn_M) (T := tf_M) (N := 12) hx hb hts in_M tt_M tt_M_ok nm_M hown hK hP hD hS 0 rfl rfl 1 (by decide) (hts _ k_fieldLink_rn_M_42_rn_M_thrown_I) (fun _ h9 => h9) rfl (by decide +kernel) rfl rfl (Nat.le_of_ble_eq_true rfl) d_M_platform_55 (fun H locs hP hD hS => ?_)
              have hP : va_P D vwCl (mw cI cZ a w h (fun p => rt_b (decide (Q p ≠ 0))) (fun p => nI (rt_g Q p)) (fun p => nI (rt_s Q p)) (fun i => nI (L i)) cn (nI (0)) kf (fun p => rt_b (Z p)) pf) H := hP
              have hD : va_D (mA a) (mw cI cZ a w h (fun p => rt_b (decide (Q p ≠ 0))) (fun p => nI (rt_g Q p)) (fun p => nI (rt_s Q p)) (fun i => nI (L i)) cn (nI (0)) kf (fun p => rt_b (Z p)) pf) := m_D ha _ rfl
              refine lv_aload_n hx hb d_M_platform_58 rfl (lv_at hl 0 rfl) ?_
              refine va_get (D := D) (ci := 4) (v := .int ((nI (0)))) (C := rn_M) (T := tf_M) (N := 12) hx hb hts in_M hown hK hP 0 rfl rfl 1 (by decide) (hts _ k_fieldLink_rn_M_42_rn_M_thrown_I) (fun _ h9 => h9) rfl d_M_platform_59 ?_
              refine lv_if_ne (tgt := 79) hx hb d_M_platform_62 (by decide) (fun c_62 => ?_) (fun c_62 => ?_)
              · exact absurd rfl c_62
              · refine lv_aload_n hx hb d_M_platform_65 rfl (lv_at hl 0 rfl) ?_
                refine va_get (D := D) (ci := 4) (v := .ref (a 4)) (C := rn_M) (T := tf_M) (N := 12) hx hb hts in_M hown hK hP 0 rfl rfl 6 (by decide) (hts _ k_fieldLink_rn_M_20_rn_M_stations_I) (fun _ h9 => h9) rfl d_M_platform_66 ?_
                refine lv_bipush (v := (nI (6))) hx hb d_M_platform_69 (by decide) ?_
                refine lv_iload_n hx hb d_M_platform_71 rfl (lv_at hl 1 rfl) ?_
                refine rw_mul hx hb d_M_platform_72 ?_
                refine lv_iload_n hx hb d_M_platform_73 rfl (lv_at hl 2 rfl) ?_
                refine rw_add hx hb d_M_platform_74 ?_
                refine lv_iload_n hx hb d_M_platform_75 rfl (lv_at hl 3 rfl) ?_
                refine lv_iconst (v := (nI (1))) hx hb d_M_platform_76 (by decide) ?_
                obtain ⟨s9, hs9, hs91, hs92⟩ := rt_vp8 c_18 c_24
                refine lv_iadd hx hb d_M_platform_77 ?_
                refine rw_topI (b := (nI (s9))) (hs91) ?_
                refine rw_iast (h := (fun p => nI (va_up (rt_s Q) (6 * t + k) s9 p))) hx hb hK hP hD hS 4 0 rfl rfl (by omega) (by omega) (fun j _ => rt_upd (rt_s Q) (6 * t + k) s9 j) d_M_platform_78 (fun H locs hP hD hS => ?_)
                have hP : va_P D vwCl (mw cI cZ a w h (fun p => rt_b (decide (Q p ≠ 0))) (fun p => nI (rt_g Q p)) (fun p => nI (va_up (rt_s Q) (6 * t + k) s9 p)) (fun i => nI (L i)) cn (nI (0)) kf (fun p => rt_b (Z p)) pf) H := hP
                have hD : va_D (mA a) (mw cI cZ a w h (fun p => rt_b (decide (Q p ≠ 0))) (fun p => nI (rt_g Q p)) (fun p => nI (va_up (rt_s Q) (6 * t + k) s9 p)) (fun i => nI (L i)) cn (nI (0)) kf (fun p => rt_b (Z p)) pf) := m_D ha _ rfl
                have hq0 : Q (6 * t + k) ≠ 0 := of_decide_eq_true c_42
                have hg4 := rt_ok_g hQ (6 * t + k)
                have hP := m_conv (tf' := fun p => rt_b (decide (va_up Q (6 * t + k) (1 + 4 * rt_g Q (6 * t + k) + 32 * s9) p ≠ 0))) (gf' := fun p => nI (rt_g (va_up Q (6 * t + k) (1 + 4 * rt_g Q (6 * t + k) + 32 * s9)) p)) (sf' := fun p => nI (rt_s (va_up Q (6 * t + k) (1 + 4 * rt_g Q (6 * t + k) + 32 * s9)) p)) (lf' := fun i => nI (L i)) (fun j _ => congrArg rt_b ((rt_up_t Q (6 * t + k) (1 + 4 * rt_g Q (6 * t + k) + 32 * s9) j).trans (rt_up_ib (by simp [hq0]) j)).symm) (fun j _ => congrArg nI ((rt_up_g Q (6 * t + k) (1 + 4 * rt_g Q (6 * t + k) + 32 * s9) j).trans (rt_up_id (by omega) j)).symm) (fun j _ => congrArg nI ((rt_up_sn Q (6 * t + k) (1 + 4 * rt_g Q (6 * t + k) + 32 * s9) j).trans (by rw [show (1 + 4 * rt_g Q (6 * t + k) + 32 * s9) / 32 = s9 by omega])).symm) (fun j _ => rfl) hP
                exact w_vret (va_up Q (6 * t + k) (1 + 4 * rt_g Q (6 * t + k) + 32 * s9), L, cn, nI 0) hx hb hr hlocks hS hP (by rw [rt_plt_s (by omega) ht hk, if_neg (by rintro (q9 | q9); exact c_18 q9; exact Int32.not_lt.mpr c_24 q9), if_neg (by rintro (q9 | q9); exact hq0 q9; omega), hs92]; exact ⟨rfl, rfl, rt_isL_keep hL hq0 (by omega)⟩) d_M_platform_79
            · refine lv_iconst (v := (nI (2))) hx hb d_M_platform_50 (by decide) ?_
              refine lv_goto (tgt := 55) hx hb d_M_platform_51 (by decide) ?_
              refine va_put (D := D) (ci := 4) (v := .int (nI (2))) (ty := .int) (C := rn_M) (T := tf_M) (N := 12) hx hb hts in_M tt_M tt_M_ok nm_M hown hK hP hD hS 0 rfl rfl 1 (by decide) (hts _ k_fieldLink_rn_M_42_rn_M_thrown_I) (fun _ h9 => h9) rfl (by decide +kernel) rfl rfl (Nat.le_of_ble_eq_true rfl) d_M_platform_55 (fun H locs hP hD hS => ?_)
              have hP : va_P D vwCl (mw cI cZ a w h (fun p => rt_b (decide (Q p ≠ 0))) (fun p => nI (rt_g Q p)) (fun p => nI (rt_s Q p)) (fun i => nI (L i)) cn (nI (2)) kf (fun p => rt_b (Z p)) pf) H := hP
              have hD : va_D (mA a) (mw cI cZ a w h (fun p => rt_b (decide (Q p ≠ 0))) (fun p => nI (rt_g Q p)) (fun p => nI (rt_s Q p)) (fun i => nI (L i)) cn (nI (2)) kf (fun p => rt_b (Z p)) pf) := m_D ha _ rfl
              refine lv_aload_n hx hb d_M_platform_58 rfl (lv_at hl 0 rfl) ?_
              refine va_get (D := D) (ci := 4) (v := .int ((nI (2)))) (C := rn_M) (T := tf_M) (N := 12) hx hb hts in_M hown hK hP 0 rfl rfl 1 (by decide) (hts _ k_fieldLink_rn_M_42_rn_M_thrown_I) (fun _ h9 => h9) rfl d_M_platform_59 ?_
              refine lv_if_ne (tgt := 79) hx hb d_M_platform_62 (by decide) (fun c_62 => ?_) (fun c_62 => ?_)
              · exact w_vret (Q, L, cn, (nI (2))) hx hb hr hlocks hS hP (by rw [rt_plt_s (by omega) ht hk, if_neg (by rintro (q9 | q9); exact c_18 q9; exact Int32.not_lt.mpr c_24 q9), if_pos (by first | exact Or.inl (Decidable.not_not.mp (of_decide_eq_false c_42)) | exact Or.inr (by omega))]; exact ⟨rfl, rfl, hL⟩) d_M_platform_79
              · exact absurd c_62 (by decide)
        · refine lv_iconst (v := (nI (1))) hx hb d_M_platform_27 (by decide) ?_
          refine lv_goto (tgt := 55) hx hb d_M_platform_28 (by decide) ?_
          refine va_put (D := D) (ci := 4) (v := .int (nI (1))) (ty := .int) (C := rn_M) (T := tf_M) (N := 12) hx hb hts in_M tt_M tt_M_ok nm_M hown hK hP hD hS 0 rfl rfl 1 (by decide) (hts _ k_fieldLink_rn_M_42_rn_M_thrown_I) (fun _ h9 => h9) rfl (by decide +kernel) rfl rfl (Nat.le_of_ble_eq_true rfl) d_M_platform_55 (fun H locs hP hD hS => ?_)
          have hP : va_P D vwCl (mw cI cZ a w h (fun p => rt_b (decide (Q p ≠ 0))) (fun p => nI (rt_g Q p)) (fun p => nI (rt_s Q p)) (fun i => nI (L i)) cn (nI (1)) kf (fun p => rt_b (Z p)) pf) H := hP
          have hD : va_D (mA a) (mw cI cZ a w h (fun p => rt_b (decide (Q p ≠ 0))) (fun p => nI (rt_g Q p)) (fun p => nI (rt_s Q p)) (fun i => nI (L i)) cn (nI (1)) kf (fun p => rt_b (Z p)) pf) := m_D ha _ rfl
          refine lv_aload_n hx hb d_M_platform_58 rfl (lv_at hl 0 rfl) ?_
          refine va_get (D := D) (ci := 4) (v := .int ((nI (1)))) (C := rn_M) (T := tf_M) (N := 12) hx hb hts in_M hown hK hP 0 rfl rfl 1 (by decide) (hts _ k_fieldLink_rn_M_42_rn_M_thrown_I) (fun _ h9 => h9) rfl d_M_platform_59 ?_
          refine lv_if_ne (tgt := 79) hx hb d_M_platform_62 (by decide) (fun c_62 => ?_) (fun c_62 => ?_)
          · exact w_vret (Q, L, cn, (nI (1))) hx hb hr hlocks hS hP (by rw [rt_plt_s (by omega) ht hk, if_pos (by first | exact Or.inl c_18 | exact Or.inr (rt_nle7 c_24))]; exact ⟨rfl, rfl, hL⟩) d_M_platform_79
          · exact absurd c_62 (by decide)
