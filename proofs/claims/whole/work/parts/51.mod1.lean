/-! The reference, small methods: by program (wip/whole/gen/mod1.py) -/
set_option maxHeartbeats 4000000 in
set_option maxRecDepth 100000 in
theorem c_M_thrown (l : Launch) (D : va_G) (cI cZ : ClassId) (g a : Nat → Nat) (ha : mI a) (w h : Nat) (Q L : Nat → Nat) (cn : Nat) (th : Int32) (kf : Nat → Int32) (Z : Nat → Bool) (pf : Nat → Int32)   : Met l y_M_thrown (.code y_M_thrown b_M_thrown 1 (some .int) :: tG) ({ frames := 0, cells := 0, slots := 0, locals := 0 }) (va_Pc [.ref (a 0)] (wU D cI cZ g (mA a) (mw cI cZ a w h (fun p => rt_b (decide (Q p ≠ 0))) (fun p => nI (rt_g Q p)) (fun p => nI (rt_s Q p)) (fun i => nI (L i)) cn th kf (fun p => rt_b (Z p)) pf))) (va_Qi (S := Unit) (fun r _ => r = th) (wB D (fun (u : Unit) => (mw cI cZ a w h (fun p => rt_b (decide (Q p ≠ 0))) (fun p => nI (rt_g Q p)) (fun p => nI (rt_s Q p)) (fun i => nI (L i)) cn th kf (fun p => rt_b (Z p)) pf))) (mA a)) 0 0 (mA a) := by
  refine Met.ofW (cc := b_M_thrown) (maxL := 1) (ret := (some .int)) (by decide) rfl ?_
  intro p e s m args below meth c s₁ BD9 hml hv
  obtain ⟨rfl, hP, hK, hZ⟩ := hv
  have hx := BD9.exec
  have hb := BD9.bytes
  have hr := BD9.returns
  have hts : ∀ w ∈ tG, w.before _ s = true := fun w hw => atoms_spec (ws := .code y_M_thrown b_M_thrown 1 (some .int) :: tG) BD9.pre w (List.mem_cons_of_mem _ hw)
  have hown : s.vm.findClass rn_M = some m.cls := findClass_of_methodNamed BD9.named
  have hlocks := BD9.notSynchronized
  have hS : va_S (mA a) s.heap s.heap [] := va_S.rf
  have hD : va_D (mA a) (mw cI cZ a w h (fun p => rt_b (decide (Q p ≠ 0))) (fun p => nI (rt_g Q p)) (fun p => nI (rt_s Q p)) (fun i => nI (L i)) cn th kf (fun p => rt_b (Z p)) pf) := m_D ha _ rfl
  have hP : va_P D vwCl (mw cI cZ a w h (fun p => rt_b (decide (Q p ≠ 0))) (fun p => nI (rt_g Q p)) (fun p => nI (rt_s Q p)) (fun i => nI (L i)) cn th kf (fun p => rt_b (Z p)) pf) s.heap := hP
  have hl := lv_entry ([.ref (a 0)]) (n := 1) (Nat.le_of_ble_eq_true rfl)
  rw [lg_entry_eq]
  generalize (lg_sl ([.ref (a 0)]) ++ List.replicate (1 - (lg_sl ([.ref (a 0)])).length) Slot.unset).toArray = ls at hl ⊢
  have hl : lv_has ls 1 [(0, .ref (a 0))] := hl
  refine lv_aload_n hx hb d_M_thrown_0 rfl (lv_at hl 0 rfl) ?_
  refine va_get (D := D) (ci := 4) (v := .int (th)) (C := rn_M) (T := tf_M) (N := 12) hx hb hts in_M hown hK hP 0 rfl rfl 1 (by decide) (hts _ k_fieldLink_rn_M_42_rn_M_thrown_I) (fun _ h9 => h9) rfl d_M_thrown_1 ?_
  exact w_iret () hx hb hr hlocks hS hP (rfl) d_M_thrown_4

set_option maxHeartbeats 4000000 in
set_option maxRecDepth 100000 in
theorem c_M_isTile (l : Launch) (D : va_G) (cI cZ : ClassId) (g a : Nat → Nat) (ha : mI a) (w h : Nat) (Q L : Nat → Nat) (cn : Nat) (th : Int32) (kf : Nat → Int32) (Z : Nat → Bool) (pf : Nat → Int32) (x : Int32) (hG : rt_G w h Q) : Met l y_M_isTile (.code y_M_isTile b_M_isTile 2 (some .boolean) :: tG) ({ frames := 0, cells := 0, slots := 0, locals := 0 }) (va_Pc [.ref (a 0), .int (x)] (wU D cI cZ g (mA a) (mw cI cZ a w h (fun p => rt_b (decide (Q p ≠ 0))) (fun p => nI (rt_g Q p)) (fun p => nI (rt_s Q p)) (fun i => nI (L i)) cn th kf (fun p => rt_b (Z p)) pf))) (va_Qi (S := Unit) (fun r _ => r = rt_b (rt_ix x (w * h)).isSome) (wB D (fun (u : Unit) => (mw cI cZ a w h (fun p => rt_b (decide (Q p ≠ 0))) (fun p => nI (rt_g Q p)) (fun p => nI (rt_s Q p)) (fun i => nI (L i)) cn th kf (fun p => rt_b (Z p)) pf))) (mA a)) 0 0 (mA a) := by
  refine Met.ofW (cc := b_M_isTile) (maxL := 2) (ret := (some .boolean)) (by decide) rfl ?_
  intro p e s m args below meth c s₁ BD9 hml hv
  obtain ⟨rfl, hP, hK, hZ⟩ := hv
  have hx := BD9.exec
  have hb := BD9.bytes
  have hr := BD9.returns
  have hts : ∀ w ∈ tG, w.before _ s = true := fun w hw => atoms_spec (ws := .code y_M_isTile b_M_isTile 2 (some .boolean) :: tG) BD9.pre w (List.mem_cons_of_mem _ hw)
  have hown : s.vm.findClass rn_M = some m.cls := findClass_of_methodNamed BD9.named
  have hlocks := BD9.notSynchronized
  have hS : va_S (mA a) s.heap s.heap [] := va_S.rf
  have hD : va_D (mA a) (mw cI cZ a w h (fun p => rt_b (decide (Q p ≠ 0))) (fun p => nI (rt_g Q p)) (fun p => nI (rt_s Q p)) (fun i => nI (L i)) cn th kf (fun p => rt_b (Z p)) pf) := m_D ha _ rfl
  have hP : va_P D vwCl (mw cI cZ a w h (fun p => rt_b (decide (Q p ≠ 0))) (fun p => nI (rt_g Q p)) (fun p => nI (rt_s Q p)) (fun i => nI (L i)) cn th kf (fun p => rt_b (Z p)) pf) s.heap := hP
  have hl := lv_entry ([.ref (a 0), .int (x)]) (n := 2) (Nat.le_of_ble_eq_true rfl)
  rw [lg_entry_eq]
  generalize (lg_sl ([.ref (a 0), .int (x)]) ++ List.replicate (2 - (lg_sl ([.ref (a 0), .int (x)])).length) Slot.unset).toArray = ls at hl ⊢
  have hl : lv_has ls 2 [(0, .ref (a 0)), (1, .int (x))] := hl
  obtain ⟨hn1, hn⟩ := hG.n
  have hw0 : 0 < w := by have := hG.1.1; omega
  have hQ := hG.2.2
  refine lv_iload_n hx hb d_M_isTile_0 rfl (lv_at hl 1 rfl) ?_
  refine lv_if_lt (tgt := 21) hx hb d_M_isTile_1 (by decide) (fun c_1 => ?_) (fun c_1 => ?_)
  · refine lv_iconst (v := (nI (0))) hx hb d_M_isTile_21 (by decide) ?_
    exact w_zret (v := false) () hx hb hr hlocks hS hP (by first | exact rt_ix_f (Or.inl c_1) | exact rt_ix_f (Or.inr c_14)) d_M_isTile_22
  · refine lv_iload_n hx hb d_M_isTile_4 rfl (lv_at hl 1 rfl) ?_
    refine lv_aload_n hx hb d_M_isTile_5 rfl (lv_at hl 0 rfl) ?_
    refine va_get (D := D) (ci := 4) (v := .int (nI (w))) (C := rn_M) (T := tf_M) (N := 12) hx hb hts in_M hown hK hP 0 rfl rfl 2 (by decide) (hts _ k_fieldLink_rn_M_35_rn_M_w_I) (fun _ h9 => h9) rfl d_M_isTile_6 ?_
    refine lv_aload_n hx hb d_M_isTile_9 rfl (lv_at hl 0 rfl) ?_
    refine va_get (D := D) (ci := 4) (v := .int (nI (h))) (C := rn_M) (T := tf_M) (N := 12) hx hb hts in_M hown hK hP 0 rfl rfl 3 (by decide) (hts _ k_fieldLink_rn_M_39_rn_M_h_I) (fun _ h9 => h9) rfl d_M_isTile_10 ?_
    refine rw_mul hx hb d_M_isTile_13 ?_
    refine lv_icmp_ge (tgt := 21) hx hb d_M_isTile_14 (by decide) (fun c_14 => ?_) (fun c_14 => ?_)
    · refine lv_iconst (v := (nI (0))) hx hb d_M_isTile_21 (by decide) ?_
      exact w_zret (v := false) () hx hb hr hlocks hS hP (by first | exact rt_ix_f (Or.inl c_1) | exact rt_ix_f (Or.inr c_14)) d_M_isTile_22
    · refine lv_iconst (v := (nI (1))) hx hb d_M_isTile_17 (by decide) ?_
      refine lv_goto (tgt := 22) hx hb d_M_isTile_18 (by decide) ?_
      exact w_zret (v := true) () hx hb hr hlocks hS hP (rt_ix_t c_1 c_14) d_M_isTile_22

set_option maxHeartbeats 4000000 in
set_option maxRecDepth 100000 in
theorem c_M_isKind (l : Launch) (D : va_G) (cI cZ : ClassId) (g a : Nat → Nat) (ha : mI a) (w h : Nat) (Q L : Nat → Nat) (cn : Nat) (th : Int32) (kf : Nat → Int32) (Z : Nat → Bool) (pf : Nat → Int32) (x : Int32) (hG : rt_G w h Q) : Met l y_M_isKind (.code y_M_isKind b_M_isKind 1 (some .boolean) :: tG) ({ frames := 0, cells := 0, slots := 0, locals := 0 }) (va_Pc [.int (x)] (wU D cI cZ g (mA a) (mw cI cZ a w h (fun p => rt_b (decide (Q p ≠ 0))) (fun p => nI (rt_g Q p)) (fun p => nI (rt_s Q p)) (fun i => nI (L i)) cn th kf (fun p => rt_b (Z p)) pf))) (va_Qi (S := Unit) (fun r _ => r = rt_b (rt_ix x 6).isSome) (wB D (fun (u : Unit) => (mw cI cZ a w h (fun p => rt_b (decide (Q p ≠ 0))) (fun p => nI (rt_g Q p)) (fun p => nI (rt_s Q p)) (fun i => nI (L i)) cn th kf (fun p => rt_b (Z p)) pf))) (mA a)) 0 0 (mA a) := by
  refine Met.ofW (cc := b_M_isKind) (maxL := 1) (ret := (some .boolean)) (by decide) rfl ?_
  intro p e s m args below meth c s₁ BD9 hml hv
  obtain ⟨rfl, hP, hK, hZ⟩ := hv
  have hx := BD9.exec
  have hb := BD9.bytes
  have hr := BD9.returns
  have hts : ∀ w ∈ tG, w.before _ s = true := fun w hw => atoms_spec (ws := .code y_M_isKind b_M_isKind 1 (some .boolean) :: tG) BD9.pre w (List.mem_cons_of_mem _ hw)
  have hown : s.vm.findClass rn_M = some m.cls := findClass_of_methodNamed BD9.named
  have hlocks := BD9.notSynchronized
  have hS : va_S (mA a) s.heap s.heap [] := va_S.rf
  have hD : va_D (mA a) (mw cI cZ a w h (fun p => rt_b (decide (Q p ≠ 0))) (fun p => nI (rt_g Q p)) (fun p => nI (rt_s Q p)) (fun i => nI (L i)) cn th kf (fun p => rt_b (Z p)) pf) := m_D ha _ rfl
  have hP : va_P D vwCl (mw cI cZ a w h (fun p => rt_b (decide (Q p ≠ 0))) (fun p => nI (rt_g Q p)) (fun p => nI (rt_s Q p)) (fun i => nI (L i)) cn th kf (fun p => rt_b (Z p)) pf) s.heap := hP
  have hl := lv_entry ([.int (x)]) (n := 1) (Nat.le_of_ble_eq_true rfl)
  rw [lg_entry_eq]
  generalize (lg_sl ([.int (x)]) ++ List.replicate (1 - (lg_sl ([.int (x)])).length) Slot.unset).toArray = ls at hl ⊢
  have hl : lv_has ls 1 [(0, .int (x))] := hl
  obtain ⟨hn1, hn⟩ := hG.n
  have hw0 : 0 < w := by have := hG.1.1; omega
  have hQ := hG.2.2
  refine lv_iload_n hx hb d_M_isKind_0 rfl (lv_at hl 0 rfl) ?_
  refine lv_if_lt (tgt := 14) hx hb d_M_isKind_1 (by decide) (fun c_1 => ?_) (fun c_1 => ?_)
  · refine lv_iconst (v := (nI (0))) hx hb d_M_isKind_14 (by decide) ?_
    exact w_zret (v := false) () hx hb hr hlocks hS hP (by first | exact rt_ix_f (Or.inl c_1) | exact rt_ix_f (Or.inr c_7)) d_M_isKind_15
  · refine lv_iload_n hx hb d_M_isKind_4 rfl (lv_at hl 0 rfl) ?_
    refine lv_bipush (v := (nI (6))) hx hb d_M_isKind_5 (by decide) ?_
    refine lv_icmp_ge (tgt := 14) hx hb d_M_isKind_7 (by decide) (fun c_7 => ?_) (fun c_7 => ?_)
    · refine lv_iconst (v := (nI (0))) hx hb d_M_isKind_14 (by decide) ?_
      exact w_zret (v := false) () hx hb hr hlocks hS hP (by first | exact rt_ix_f (Or.inl c_1) | exact rt_ix_f (Or.inr c_7)) d_M_isKind_15
    · refine lv_iconst (v := (nI (1))) hx hb d_M_isKind_10 (by decide) ?_
      refine lv_goto (tgt := 15) hx hb d_M_isKind_11 (by decide) ?_
      exact w_zret (v := true) () hx hb hr hlocks hS hP (rt_ix_t c_1 c_7) d_M_isKind_15

set_option maxHeartbeats 4000000 in
set_option maxRecDepth 100000 in
theorem c_M_isStation (l : Launch) (D : va_G) (cI cZ : ClassId) (g a : Nat → Nat) (ha : mI a) (w h : Nat) (Q L : Nat → Nat) (cn : Nat) (th : Int32) (kf : Nat → Int32) (Z : Nat → Bool) (pf : Nat → Int32) (x : Int32) (hG : rt_G w h Q) : Met l y_M_isStation (.code y_M_isStation b_M_isStation 1 (some .boolean) :: tG) ({ frames := 0, cells := 0, slots := 0, locals := 0 }) (va_Pc [.int (x)] (wU D cI cZ g (mA a) (mw cI cZ a w h (fun p => rt_b (decide (Q p ≠ 0))) (fun p => nI (rt_g Q p)) (fun p => nI (rt_s Q p)) (fun i => nI (L i)) cn th kf (fun p => rt_b (Z p)) pf))) (va_Qi (S := Unit) (fun r _ => r = rt_b (rt_ix x 8).isSome) (wB D (fun (u : Unit) => (mw cI cZ a w h (fun p => rt_b (decide (Q p ≠ 0))) (fun p => nI (rt_g Q p)) (fun p => nI (rt_s Q p)) (fun i => nI (L i)) cn th kf (fun p => rt_b (Z p)) pf))) (mA a)) 0 0 (mA a) := by
  refine Met.ofW (cc := b_M_isStation) (maxL := 1) (ret := (some .boolean)) (by decide) rfl ?_
  intro p e s m args below meth c s₁ BD9 hml hv
  obtain ⟨rfl, hP, hK, hZ⟩ := hv
  have hx := BD9.exec
  have hb := BD9.bytes
  have hr := BD9.returns
  have hts : ∀ w ∈ tG, w.before _ s = true := fun w hw => atoms_spec (ws := .code y_M_isStation b_M_isStation 1 (some .boolean) :: tG) BD9.pre w (List.mem_cons_of_mem _ hw)
  have hown : s.vm.findClass rn_M = some m.cls := findClass_of_methodNamed BD9.named
  have hlocks := BD9.notSynchronized
  have hS : va_S (mA a) s.heap s.heap [] := va_S.rf
  have hD : va_D (mA a) (mw cI cZ a w h (fun p => rt_b (decide (Q p ≠ 0))) (fun p => nI (rt_g Q p)) (fun p => nI (rt_s Q p)) (fun i => nI (L i)) cn th kf (fun p => rt_b (Z p)) pf) := m_D ha _ rfl
  have hP : va_P D vwCl (mw cI cZ a w h (fun p => rt_b (decide (Q p ≠ 0))) (fun p => nI (rt_g Q p)) (fun p => nI (rt_s Q p)) (fun i => nI (L i)) cn th kf (fun p => rt_b (Z p)) pf) s.heap := hP
  have hl := lv_entry ([.int (x)]) (n := 1) (Nat.le_of_ble_eq_true rfl)
  rw [lg_entry_eq]
  generalize (lg_sl ([.int (x)]) ++ List.replicate (1 - (lg_sl ([.int (x)])).length) Slot.unset).toArray = ls at hl ⊢
  have hl : lv_has ls 1 [(0, .int (x))] := hl
  obtain ⟨hn1, hn⟩ := hG.n
  have hw0 : 0 < w := by have := hG.1.1; omega
  have hQ := hG.2.2
  refine lv_iload_n hx hb d_M_isStation_0 rfl (lv_at hl 0 rfl) ?_
  refine lv_if_lt (tgt := 14) hx hb d_M_isStation_1 (by decide) (fun c_1 => ?_) (fun c_1 => ?_)
  · refine lv_iconst (v := (nI (0))) hx hb d_M_isStation_14 (by decide) ?_
    exact w_zret (v := false) () hx hb hr hlocks hS hP (by first | exact rt_ix_f (Or.inl c_1) | exact rt_ix_f (Or.inr c_7)) d_M_isStation_15
  · refine lv_iload_n hx hb d_M_isStation_4 rfl (lv_at hl 0 rfl) ?_
    refine lv_bipush (v := (nI (8))) hx hb d_M_isStation_5 (by decide) ?_
    refine lv_icmp_ge (tgt := 14) hx hb d_M_isStation_7 (by decide) (fun c_7 => ?_) (fun c_7 => ?_)
    · refine lv_iconst (v := (nI (0))) hx hb d_M_isStation_14 (by decide) ?_
      exact w_zret (v := false) () hx hb hr hlocks hS hP (by first | exact rt_ix_f (Or.inl c_1) | exact rt_ix_f (Or.inr c_7)) d_M_isStation_15
    · refine lv_iconst (v := (nI (1))) hx hb d_M_isStation_10 (by decide) ?_
      refine lv_goto (tgt := 15) hx hb d_M_isStation_11 (by decide) ?_
      exact w_zret (v := true) () hx hb hr hlocks hS hP (rt_ix_t c_1 c_7) d_M_isStation_15

set_option maxHeartbeats 4000000 in
set_option maxRecDepth 100000 in
theorem c_M_isPiece (l : Launch) (D : va_G) (cI cZ : ClassId) (g a : Nat → Nat) (ha : mI a) (w h : Nat) (Q L : Nat → Nat) (cn : Nat) (th : Int32) (kf : Nat → Int32) (Z : Nat → Bool) (pf : Nat → Int32) (x y : Int32) (hG : rt_G w h Q) : Met l y_M_isPiece (.code y_M_isPiece b_M_isPiece 3 (some .boolean) :: tG) ({ frames := 1, cells := 0, slots := 0, locals := 21 }) (va_Pc [.ref (a 0), .int (x), .int (y)] (wU D cI cZ g (mA a) (mw cI cZ a w h (fun p => rt_b (decide (Q p ≠ 0))) (fun p => nI (rt_g Q p)) (fun p => nI (rt_s Q p)) (fun i => nI (L i)) cn th kf (fun p => rt_b (Z p)) pf))) (va_Qi (S := Unit) (fun r _ => r = rt_b (rt_isP Q (w * h) x y)) (wB D (fun (u : Unit) => (mw cI cZ a w h (fun p => rt_b (decide (Q p ≠ 0))) (fun p => nI (rt_g Q p)) (fun p => nI (rt_s Q p)) (fun i => nI (L i)) cn th kf (fun p => rt_b (Z p)) pf))) (mA a)) 0 0 (mA a) := by
  refine Met.ofW (cc := b_M_isPiece) (maxL := 3) (ret := (some .boolean)) (by decide) rfl ?_
  intro p e s m args below meth c s₁ BD9 hml hv
  obtain ⟨rfl, hP, hK, hZ⟩ := hv
  have hx := BD9.exec
  have hb := BD9.bytes
  have hr := BD9.returns
  have hts : ∀ w ∈ tG, w.before _ s = true := fun w hw => atoms_spec (ws := .code y_M_isPiece b_M_isPiece 3 (some .boolean) :: tG) BD9.pre w (List.mem_cons_of_mem _ hw)
  have hown : s.vm.findClass rn_M = some m.cls := findClass_of_methodNamed BD9.named
  have hlocks := BD9.notSynchronized
  have hS : va_S (mA a) s.heap s.heap [] := va_S.rf
  have hD : va_D (mA a) (mw cI cZ a w h (fun p => rt_b (decide (Q p ≠ 0))) (fun p => nI (rt_g Q p)) (fun p => nI (rt_s Q p)) (fun i => nI (L i)) cn th kf (fun p => rt_b (Z p)) pf) := m_D ha _ rfl
  have hP : va_P D vwCl (mw cI cZ a w h (fun p => rt_b (decide (Q p ≠ 0))) (fun p => nI (rt_g Q p)) (fun p => nI (rt_s Q p)) (fun i => nI (L i)) cn th kf (fun p => rt_b (Z p)) pf) s.heap := hP
  have hl := lv_entry ([.ref (a 0), .int (x), .int (y)]) (n := 3) (Nat.le_of_ble_eq_true rfl)
  rw [lg_entry_eq]
  generalize (lg_sl ([.ref (a 0), .int (x), .int (y)]) ++ List.replicate (3 - (lg_sl ([.ref (a 0), .int (x), .int (y)])).length) Slot.unset).toArray = ls at hl ⊢
  have hl : lv_has ls 3 [(0, .ref (a 0)), (1, .int (x)), (2, .int (y))] := hl
  obtain ⟨hn1, hn⟩ := hG.n
  have hw0 : 0 < w := by have := hG.1.1; omega
  have hQ := hG.2.2
  refine lv_aload_n hx hb d_M_isPiece_0 rfl (lv_at hl 0 rfl) ?_
  refine lv_iload_n hx hb d_M_isPiece_1 rfl (lv_at hl 1 rfl) ?_
  refine w_ci (As := [.int (x)]) (rest := []) ⟨hx, hb, hml, hown, hts⟩ (c_M_isTile l D cI cZ g a ha w h Q L cn th kf Z pf x hG) (cwV 1 hts (t_gV k_methodLink_rn_M_45_y_M_isTile k_instanceMethod_y_M_isTile k_selects_rn_M_y_M_isTile_y_M_isTile k_initialized_rn_M k_code_y_M_isTile_prog_6_method_3_code_2_some_boolean) rfl rfl rfl (by decide +kernel) ⟨Nat.le_of_ble_eq_true rfl, Nat.le_of_ble_eq_true rfl⟩) (va_recv hK hP (ci := 4) (q0 := 0) rfl rfl) hP hK hZ hS rfl hl.1 rfl (Nat.le_of_ble_eq_true rfl) d_M_isPiece_2 ⟨Nat.zero_le _, Nat.zero_le _⟩ (fun r_2 u_2 H locs hw hP hS => ?_)
  subst hw
  have hP : va_P D vwCl (mw cI cZ a w h (fun p => rt_b (decide (Q p ≠ 0))) (fun p => nI (rt_g Q p)) (fun p => nI (rt_s Q p)) (fun i => nI (L i)) cn th kf (fun p => rt_b (Z p)) pf) H := hP
  refine rw_beq (tgt := 33) hx hb d_M_isPiece_5 (by decide) (fun c_5 => ?_) (fun c_5 => ?_)
  · refine lv_iconst (v := (nI (0))) hx hb d_M_isPiece_33 (by decide) ?_
    exact w_zret (v := false) () hx hb hr hlocks hS hP (congrArg rt_b (by first | exact (rt_isP_n (Or.inl (rt_ix_no c_5))).symm | exact (rt_isP_n (Or.inr (rt_ix_no c_12))).symm | (rw [rt_isP_s (by omega) ht hk, c_26]))) d_M_isPiece_34
  · obtain ⟨t, ht, rfl⟩ := rt_ix_is (by omega) c_5
    refine lv_iload_n hx hb d_M_isPiece_8 rfl (lv_at hl 2 rfl) ?_
    refine w_si (As := [.int (y)]) (rest := []) ⟨hx, hb, hml, hown, hts⟩ (c_M_isKind l D cI cZ g a ha w h Q L cn th kf Z pf y hG) (va_cwS 1 hts (t_gS k_methodLink_rn_M_49_y_M_isKind k_static_y_M_isKind k_initialized_rn_M k_code_y_M_isKind_prog_6_method_4_code_1_some_boolean) rfl rfl rfl (by decide +kernel) ⟨Nat.le_of_ble_eq_true rfl, Nat.le_of_ble_eq_true rfl⟩) hP hK hZ hS rfl hl.1 rfl (Nat.le_of_ble_eq_true rfl) d_M_isPiece_9 ⟨Nat.zero_le _, Nat.zero_le _⟩ (fun r_9 u_9 H locs hw hP hS => ?_)
    subst hw
    have hP : va_P D vwCl (mw cI cZ a w h (fun p => rt_b (decide (Q p ≠ 0))) (fun p => nI (rt_g Q p)) (fun p => nI (rt_s Q p)) (fun i => nI (L i)) cn th kf (fun p => rt_b (Z p)) pf) H := hP
    refine rw_beq (tgt := 33) hx hb d_M_isPiece_12 (by decide) (fun c_12 => ?_) (fun c_12 => ?_)
    · refine lv_iconst (v := (nI (0))) hx hb d_M_isPiece_33 (by decide) ?_
      exact w_zret (v := false) () hx hb hr hlocks hS hP (congrArg rt_b (by first | exact (rt_isP_n (Or.inl (rt_ix_no c_5))).symm | exact (rt_isP_n (Or.inr (rt_ix_no c_12))).symm | (rw [rt_isP_s (by omega) ht hk, c_26]))) d_M_isPiece_34
    · obtain ⟨k, hk, rfl⟩ := rt_ix_is (by omega) c_12
      refine lv_aload_n hx hb d_M_isPiece_15 rfl (lv_at hl 0 rfl) ?_
      refine va_get (D := D) (ci := 4) (v := .ref (a 2)) (C := rn_M) (T := tf_M) (N := 12) hx hb hts in_M hown hK hP 0 rfl rfl 4 (by decide) (hts _ k_fieldLink_rn_M_13_rn_M_there_Z) (fun _ h9 => h9) rfl d_M_isPiece_16 ?_
      refine lv_bipush (v := (nI (6))) hx hb d_M_isPiece_19 (by decide) ?_
      refine lv_iload_n hx hb d_M_isPiece_21 rfl (lv_at hl 1 rfl) ?_
      refine rw_mul hx hb d_M_isPiece_22 ?_
      refine lv_iload_n hx hb d_M_isPiece_23 rfl (lv_at hl 2 rfl) ?_
      refine rw_add hx hb d_M_isPiece_24 ?_
      refine rw_zald (v := (rt_b (decide (Q ((6 * t) + k) ≠ 0)))) hx hb hK hP 2 1 rfl rfl (by omega) (by omega) (rfl) d_M_isPiece_25 ?_
      refine rw_beq (tgt := 33) hx hb d_M_isPiece_26 (by decide) (fun c_26 => ?_) (fun c_26 => ?_)
      · refine lv_iconst (v := (nI (0))) hx hb d_M_isPiece_33 (by decide) ?_
        exact w_zret (v := false) () hx hb hr hlocks hS hP (congrArg rt_b (by first | exact (rt_isP_n (Or.inl (rt_ix_no c_5))).symm | exact (rt_isP_n (Or.inr (rt_ix_no c_12))).symm | (rw [rt_isP_s (by omega) ht hk, c_26]))) d_M_isPiece_34
      · refine lv_iconst (v := (nI (1))) hx hb d_M_isPiece_29 (by decide) ?_
        refine lv_goto (tgt := 34) hx hb d_M_isPiece_30 (by decide) ?_
        exact w_zret (v := true) () hx hb hr hlocks hS hP (congrArg rt_b (by first | exact (rt_isP_n (Or.inl (rt_ix_no c_5))).symm | exact (rt_isP_n (Or.inr (rt_ix_no c_12))).symm | (rw [rt_isP_s (by omega) ht hk, c_26]))) d_M_isPiece_34

set_option maxHeartbeats 4000000 in
set_option maxRecDepth 100000 in
theorem c_M_isRun (l : Launch) (D : va_G) (cI cZ : ClassId) (g a : Nat → Nat) (ha : mI a) (w h : Nat) (Q L : Nat → Nat) (cn : Nat) (th : Int32) (kf : Nat → Int32) (Z : Nat → Bool) (pf : Nat → Int32) (x : Int32) (hG : rt_G w h Q) : Met l y_M_isRun (.code y_M_isRun b_M_isRun 2 (some .boolean) :: tG) ({ frames := 0, cells := 0, slots := 0, locals := 0 }) (va_Pc [.ref (a 0), .int (x)] (wU D cI cZ g (mA a) (mw cI cZ a w h (fun p => rt_b (decide (Q p ≠ 0))) (fun p => nI (rt_g Q p)) (fun p => nI (rt_s Q p)) (fun i => nI (L i)) cn th kf (fun p => rt_b (Z p)) pf))) (va_Qi (S := Unit) (fun r _ => r = rt_b (rt_ix x (12 * (w * h))).isSome) (wB D (fun (u : Unit) => (mw cI cZ a w h (fun p => rt_b (decide (Q p ≠ 0))) (fun p => nI (rt_g Q p)) (fun p => nI (rt_s Q p)) (fun i => nI (L i)) cn th kf (fun p => rt_b (Z p)) pf))) (mA a)) 0 0 (mA a) := by
  refine Met.ofW (cc := b_M_isRun) (maxL := 2) (ret := (some .boolean)) (by decide) rfl ?_
  intro p e s m args below meth c s₁ BD9 hml hv
  obtain ⟨rfl, hP, hK, hZ⟩ := hv
  have hx := BD9.exec
  have hb := BD9.bytes
  have hr := BD9.returns
  have hts : ∀ w ∈ tG, w.before _ s = true := fun w hw => atoms_spec (ws := .code y_M_isRun b_M_isRun 2 (some .boolean) :: tG) BD9.pre w (List.mem_cons_of_mem _ hw)
  have hown : s.vm.findClass rn_M = some m.cls := findClass_of_methodNamed BD9.named
  have hlocks := BD9.notSynchronized
  have hS : va_S (mA a) s.heap s.heap [] := va_S.rf
  have hD : va_D (mA a) (mw cI cZ a w h (fun p => rt_b (decide (Q p ≠ 0))) (fun p => nI (rt_g Q p)) (fun p => nI (rt_s Q p)) (fun i => nI (L i)) cn th kf (fun p => rt_b (Z p)) pf) := m_D ha _ rfl
  have hP : va_P D vwCl (mw cI cZ a w h (fun p => rt_b (decide (Q p ≠ 0))) (fun p => nI (rt_g Q p)) (fun p => nI (rt_s Q p)) (fun i => nI (L i)) cn th kf (fun p => rt_b (Z p)) pf) s.heap := hP
  have hl := lv_entry ([.ref (a 0), .int (x)]) (n := 2) (Nat.le_of_ble_eq_true rfl)
  rw [lg_entry_eq]
  generalize (lg_sl ([.ref (a 0), .int (x)]) ++ List.replicate (2 - (lg_sl ([.ref (a 0), .int (x)])).length) Slot.unset).toArray = ls at hl ⊢
  have hl : lv_has ls 2 [(0, .ref (a 0)), (1, .int (x))] := hl
  obtain ⟨hn1, hn⟩ := hG.n
  have hw0 : 0 < w := by have := hG.1.1; omega
  have hQ := hG.2.2
  refine lv_iload_n hx hb d_M_isRun_0 rfl (lv_at hl 1 rfl) ?_
  refine lv_if_lt (tgt := 24) hx hb d_M_isRun_1 (by decide) (fun c_1 => ?_) (fun c_1 => ?_)
  · refine lv_iconst (v := (nI (0))) hx hb d_M_isRun_24 (by decide) ?_
    exact w_zret (v := false) () hx hb hr hlocks hS hP (by first | exact rt_ix_f (Or.inl c_1) | exact rt_ix_f (Or.inr c_17)) d_M_isRun_25
  · refine lv_iload_n hx hb d_M_isRun_4 rfl (lv_at hl 1 rfl) ?_
    refine lv_bipush (v := (nI (12))) hx hb d_M_isRun_5 (by decide) ?_
    refine lv_aload_n hx hb d_M_isRun_7 rfl (lv_at hl 0 rfl) ?_
    refine va_get (D := D) (ci := 4) (v := .int (nI (w))) (C := rn_M) (T := tf_M) (N := 12) hx hb hts in_M hown hK hP 0 rfl rfl 2 (by decide) (hts _ k_fieldLink_rn_M_35_rn_M_w_I) (fun _ h9 => h9) rfl d_M_isRun_8 ?_
    refine rw_mul hx hb d_M_isRun_11 ?_
    refine lv_aload_n hx hb d_M_isRun_12 rfl (lv_at hl 0 rfl) ?_
    refine va_get (D := D) (ci := 4) (v := .int (nI (h))) (C := rn_M) (T := tf_M) (N := 12) hx hb hts in_M hown hK hP 0 rfl rfl 3 (by decide) (hts _ k_fieldLink_rn_M_39_rn_M_h_I) (fun _ h9 => h9) rfl d_M_isRun_13 ?_
    refine rw_mul hx hb d_M_isRun_16 ?_
    refine rw_top (b := 12 * (w * h)) (Nat.mul_assoc _ _ _) ?_
    refine lv_icmp_ge (tgt := 24) hx hb d_M_isRun_17 (by decide) (fun c_17 => ?_) (fun c_17 => ?_)
    · refine lv_iconst (v := (nI (0))) hx hb d_M_isRun_24 (by decide) ?_
      exact w_zret (v := false) () hx hb hr hlocks hS hP (by first | exact rt_ix_f (Or.inl c_1) | exact rt_ix_f (Or.inr c_17)) d_M_isRun_25
    · refine lv_iconst (v := (nI (1))) hx hb d_M_isRun_20 (by decide) ?_
      refine lv_goto (tgt := 25) hx hb d_M_isRun_21 (by decide) ?_
      exact w_zret (v := true) () hx hb hr hlocks hS hP (rt_ix_t c_1 c_17) d_M_isRun_25

set_option maxHeartbeats 4000000 in
set_option maxRecDepth 100000 in
theorem c_M_signalled (l : Launch) (D : va_G) (cI cZ : ClassId) (g a : Nat → Nat) (ha : mI a) (w h : Nat) (Q L : Nat → Nat) (cn : Nat) (th : Int32) (kf : Nat → Int32) (Z : Nat → Bool) (pf : Nat → Int32) (k : Nat) (hG : rt_G w h Q) (hk : k < 6 * (w * h)) : Met l y_M_signalled (.code y_M_signalled b_M_signalled 2 (some .int) :: tG) ({ frames := 0, cells := 0, slots := 0, locals := 0 }) (va_Pc [.ref (a 0), .int (nI (k))] (wU D cI cZ g (mA a) (mw cI cZ a w h (fun p => rt_b (decide (Q p ≠ 0))) (fun p => nI (rt_g Q p)) (fun p => nI (rt_s Q p)) (fun i => nI (L i)) cn th kf (fun p => rt_b (Z p)) pf))) (va_Qi (S := Unit) (fun r _ => r = rt_o (if rt_g Q k = 0 then none else some (rt_sg Q k))) (wB D (fun (u : Unit) => (mw cI cZ a w h (fun p => rt_b (decide (Q p ≠ 0))) (fun p => nI (rt_g Q p)) (fun p => nI (rt_s Q p)) (fun i => nI (L i)) cn th kf (fun p => rt_b (Z p)) pf))) (mA a)) 0 0 (mA a) := by
  refine Met.ofW (cc := b_M_signalled) (maxL := 2) (ret := (some .int)) (by decide) rfl ?_
  intro p e s m args below meth c s₁ BD9 hml hv
  obtain ⟨rfl, hP, hK, hZ⟩ := hv
  have hx := BD9.exec
  have hb := BD9.bytes
  have hr := BD9.returns
  have hts : ∀ w ∈ tG, w.before _ s = true := fun w hw => atoms_spec (ws := .code y_M_signalled b_M_signalled 2 (some .int) :: tG) BD9.pre w (List.mem_cons_of_mem _ hw)
  have hown : s.vm.findClass rn_M = some m.cls := findClass_of_methodNamed BD9.named
  have hlocks := BD9.notSynchronized
  have hS : va_S (mA a) s.heap s.heap [] := va_S.rf
  have hD : va_D (mA a) (mw cI cZ a w h (fun p => rt_b (decide (Q p ≠ 0))) (fun p => nI (rt_g Q p)) (fun p => nI (rt_s Q p)) (fun i => nI (L i)) cn th kf (fun p => rt_b (Z p)) pf) := m_D ha _ rfl
  have hP : va_P D vwCl (mw cI cZ a w h (fun p => rt_b (decide (Q p ≠ 0))) (fun p => nI (rt_g Q p)) (fun p => nI (rt_s Q p)) (fun i => nI (L i)) cn th kf (fun p => rt_b (Z p)) pf) s.heap := hP
  have hl := lv_entry ([.ref (a 0), .int (nI (k))]) (n := 2) (Nat.le_of_ble_eq_true rfl)
  rw [lg_entry_eq]
  generalize (lg_sl ([.ref (a 0), .int (nI (k))]) ++ List.replicate (2 - (lg_sl ([.ref (a 0), .int (nI (k))])).length) Slot.unset).toArray = ls at hl ⊢
  have hl : lv_has ls 2 [(0, .ref (a 0)), (1, .int (nI (k)))] := hl
  obtain ⟨hn1, hn⟩ := hG.n
  have hw0 : 0 < w := by have := hG.1.1; omega
  have hQ := hG.2.2
  refine lv_aload_n hx hb d_M_signalled_0 rfl (lv_at hl 0 rfl) ?_
  refine va_get (D := D) (ci := 4) (v := .ref (a 3)) (C := rn_M) (T := tf_M) (N := 12) hx hb hts in_M hown hK hP 0 rfl rfl 5 (by decide) (hts _ k_fieldLink_rn_M_17_rn_M_signs_I) (fun _ h9 => h9) rfl d_M_signalled_1 ?_
  refine lv_iload_n hx hb d_M_signalled_4 rfl (lv_at hl 1 rfl) ?_
  refine rw_iald (v := (nI (rt_g Q k))) hx hb hK hP 3 0 rfl rfl (by omega) (by omega) (rfl) d_M_signalled_5 ?_
  refine rw_zne (tgt := 13) hx hb d_M_signalled_6 (by decide) (by have := rt_ok_g hQ k; omega) (fun c_6 => ?_) (fun c_6 => ?_)
  · refine lv_iconst (v := (nI (2))) hx hb d_M_signalled_13 (by decide) ?_
    refine lv_iload_n hx hb d_M_signalled_14 rfl (lv_at hl 1 rfl) ?_
    refine rw_mul hx hb d_M_signalled_15 ?_
    refine lv_aload_n hx hb d_M_signalled_16 rfl (lv_at hl 0 rfl) ?_
    refine va_get (D := D) (ci := 4) (v := .ref (a 3)) (C := rn_M) (T := tf_M) (N := 12) hx hb hts in_M hown hK hP 0 rfl rfl 5 (by decide) (hts _ k_fieldLink_rn_M_17_rn_M_signs_I) (fun _ h9 => h9) rfl d_M_signalled_17 ?_
    refine lv_iload_n hx hb d_M_signalled_20 rfl (lv_at hl 1 rfl) ?_
    refine rw_iald (v := (nI (rt_g Q k))) hx hb hK hP 3 0 rfl rfl (by omega) (by omega) (rfl) d_M_signalled_21 ?_
    refine lv_iconst (v := (nI (1))) hx hb d_M_signalled_22 (by decide) ?_
    refine rw_sub hx hb d_M_signalled_23 (by omega) ?_
    refine lv_iconst (v := (nI (2))) hx hb d_M_signalled_24 (by decide) ?_
    refine rw_rem hx hb d_M_signalled_25 (by have := rt_ok_g hQ k; omega) (by have := rt_ok_g hQ k; omega) (by have := rt_ok_g hQ k; omega) ?_
    refine rw_add hx hb d_M_signalled_26 ?_
    exact w_iret () hx hb hr hlocks hS hP (by rw [if_neg c_6]; rfl) d_M_signalled_27
  · refine lv_iconst (v := (-1)) hx hb d_M_signalled_9 (by decide) ?_
    refine lv_goto (tgt := 27) hx hb d_M_signalled_10 (by decide) ?_
    exact w_iret () hx hb hr hlocks hS hP (by rw [if_pos c_6]; rfl) d_M_signalled_27

set_option maxHeartbeats 4000000 in
set_option maxRecDepth 100000 in
theorem c_M_isOpen (l : Launch) (D : va_G) (cI cZ : ClassId) (g a : Nat → Nat) (ha : mI a) (w h : Nat) (Q L : Nat → Nat) (cn : Nat) (th : Int32) (kf : Nat → Int32) (Z : Nat → Bool) (pf : Nat → Int32) (x : Int32) (hG : rt_G w h Q) : Met l y_M_isOpen (.code y_M_isOpen b_M_isOpen 2 (some .boolean) :: tG) ({ frames := 1, cells := 0, slots := 0, locals := 21 }) (va_Pc [.ref (a 0), .int (x)] (wU D cI cZ g (mA a) (mw cI cZ a w h (fun p => rt_b (decide (Q p ≠ 0))) (fun p => nI (rt_g Q p)) (fun p => nI (rt_s Q p)) (fun i => nI (L i)) cn th kf (fun p => rt_b (Z p)) pf))) (va_Qi (S := Unit) (fun r _ => r = rt_b (rt_opx Q (w * h) x)) (wB D (fun (u : Unit) => (mw cI cZ a w h (fun p => rt_b (decide (Q p ≠ 0))) (fun p => nI (rt_g Q p)) (fun p => nI (rt_s Q p)) (fun i => nI (L i)) cn th kf (fun p => rt_b (Z p)) pf))) (mA a)) 0 0 (mA a) := by
  refine Met.ofW (cc := b_M_isOpen) (maxL := 2) (ret := (some .boolean)) (by decide) rfl ?_
  intro p e s m args below meth c s₁ BD9 hml hv
  obtain ⟨rfl, hP, hK, hZ⟩ := hv
  have hx := BD9.exec
  have hb := BD9.bytes
  have hr := BD9.returns
  have hts : ∀ w ∈ tG, w.before _ s = true := fun w hw => atoms_spec (ws := .code y_M_isOpen b_M_isOpen 2 (some .boolean) :: tG) BD9.pre w (List.mem_cons_of_mem _ hw)
  have hown : s.vm.findClass rn_M = some m.cls := findClass_of_methodNamed BD9.named
  have hlocks := BD9.notSynchronized
  have hS : va_S (mA a) s.heap s.heap [] := va_S.rf
  have hD : va_D (mA a) (mw cI cZ a w h (fun p => rt_b (decide (Q p ≠ 0))) (fun p => nI (rt_g Q p)) (fun p => nI (rt_s Q p)) (fun i => nI (L i)) cn th kf (fun p => rt_b (Z p)) pf) := m_D ha _ rfl
  have hP : va_P D vwCl (mw cI cZ a w h (fun p => rt_b (decide (Q p ≠ 0))) (fun p => nI (rt_g Q p)) (fun p => nI (rt_s Q p)) (fun i => nI (L i)) cn th kf (fun p => rt_b (Z p)) pf) s.heap := hP
  have hl := lv_entry ([.ref (a 0), .int (x)]) (n := 2) (Nat.le_of_ble_eq_true rfl)
  rw [lg_entry_eq]
  generalize (lg_sl ([.ref (a 0), .int (x)]) ++ List.replicate (2 - (lg_sl ([.ref (a 0), .int (x)])).length) Slot.unset).toArray = ls at hl ⊢
  have hl : lv_has ls 2 [(0, .ref (a 0)), (1, .int (x))] := hl
  obtain ⟨hn1, hn⟩ := hG.n
  have hw0 : 0 < w := by have := hG.1.1; omega
  have hQ := hG.2.2
  refine lv_aload_n hx hb d_M_isOpen_0 rfl (lv_at hl 0 rfl) ?_
  refine lv_iload_n hx hb d_M_isOpen_1 rfl (lv_at hl 1 rfl) ?_
  refine w_ci (As := [.int (x)]) (rest := []) ⟨hx, hb, hml, hown, hts⟩ (c_M_isRun l D cI cZ g a ha w h Q L cn th kf Z pf x hG) (cwV 1 hts (t_gV k_methodLink_rn_M_55_y_M_isRun k_instanceMethod_y_M_isRun k_selects_rn_M_y_M_isRun_y_M_isRun k_initialized_rn_M k_code_y_M_isRun_prog_6_method_11_code_2_some_boolean) rfl rfl rfl (by decide +kernel) ⟨Nat.le_of_ble_eq_true rfl, Nat.le_of_ble_eq_true rfl⟩) (va_recv hK hP (ci := 4) (q0 := 0) rfl rfl) hP hK hZ hS rfl hl.1 rfl (Nat.le_of_ble_eq_true rfl) d_M_isOpen_2 ⟨Nat.zero_le _, Nat.zero_le _⟩ (fun r_2 u_2 H locs hw hP hS => ?_)
  subst hw
  have hP : va_P D vwCl (mw cI cZ a w h (fun p => rt_b (decide (Q p ≠ 0))) (fun p => nI (rt_g Q p)) (fun p => nI (rt_s Q p)) (fun i => nI (L i)) cn th kf (fun p => rt_b (Z p)) pf) H := hP
  refine rw_beq (tgt := 45) hx hb d_M_isOpen_5 (by decide) (fun c_5 => ?_) (fun c_5 => ?_)
  · refine lv_iconst (v := (nI (0))) hx hb d_M_isOpen_45 (by decide) ?_
    exact w_zret (v := false) () hx hb hr hlocks hS hP (congrArg rt_b (by first | exact (rt_opx_n (by rcases pk_ix x (n := 12 * (w * h)) (by omega) with q | q | ⟨j, hj, rfl⟩; exact Or.inl q; exact Or.inr q; rw [rt_ix_some (by omega) hj] at c_5; cases c_5)).symm | (rw [rt_opx_s (by omega) hr0]; unfold rt_op; rw [c_16]; simp; done) | (rw [rt_opx_s (by omega) hr0, rt_op_m hr0 (of_decide_eq_true c_16)]; simp_all; done))) d_M_isOpen_46
  · obtain ⟨r, hr0, rfl⟩ := rt_ix_is (by omega) c_5
    refine lv_aload_n hx hb d_M_isOpen_8 rfl (lv_at hl 0 rfl) ?_
    refine va_get (D := D) (ci := 4) (v := .ref (a 2)) (C := rn_M) (T := tf_M) (N := 12) hx hb hts in_M hown hK hP 0 rfl rfl 4 (by decide) (hts _ k_fieldLink_rn_M_13_rn_M_there_Z) (fun _ h9 => h9) rfl d_M_isOpen_9 ?_
    refine lv_iload_n hx hb d_M_isOpen_12 rfl (lv_at hl 1 rfl) ?_
    refine lv_iconst (v := (nI (2))) hx hb d_M_isOpen_13 (by decide) ?_
    refine rw_div hx hb d_M_isOpen_14 (by omega) (by omega) (by omega) ?_
    refine rw_zald (v := (rt_b (decide (Q (r / 2) ≠ 0)))) hx hb hK hP 2 1 rfl rfl (by omega) (by omega) (rfl) d_M_isOpen_15 ?_
    refine rw_beq (tgt := 45) hx hb d_M_isOpen_16 (by decide) (fun c_16 => ?_) (fun c_16 => ?_)
    · refine lv_iconst (v := (nI (0))) hx hb d_M_isOpen_45 (by decide) ?_
      exact w_zret (v := false) () hx hb hr hlocks hS hP (congrArg rt_b (by first | exact (rt_opx_n (by rcases pk_ix x (n := 12 * (w * h)) (by omega) with q | q | ⟨j, hj, rfl⟩; exact Or.inl q; exact Or.inr q; rw [rt_ix_some (by omega) hj] at c_5; cases c_5)).symm | (rw [rt_opx_s (by omega) hr0]; unfold rt_op; rw [c_16]; simp; done) | (rw [rt_opx_s (by omega) hr0, rt_op_m hr0 (of_decide_eq_true c_16)]; simp_all; done))) d_M_isOpen_46
    · refine lv_aload_n hx hb d_M_isOpen_19 rfl (lv_at hl 0 rfl) ?_
      refine va_get (D := D) (ci := 4) (v := .ref (a 3)) (C := rn_M) (T := tf_M) (N := 12) hx hb hts in_M hown hK hP 0 rfl rfl 5 (by decide) (hts _ k_fieldLink_rn_M_17_rn_M_signs_I) (fun _ h9 => h9) rfl d_M_isOpen_20 ?_
      refine lv_iload_n hx hb d_M_isOpen_23 rfl (lv_at hl 1 rfl) ?_
      refine lv_iconst (v := (nI (2))) hx hb d_M_isOpen_24 (by decide) ?_
      refine rw_div hx hb d_M_isOpen_25 (by omega) (by omega) (by omega) ?_
      refine rw_iald (v := (nI (rt_g Q (r / 2)))) hx hb hK hP 3 0 rfl rfl (by omega) (by omega) (rfl) d_M_isOpen_26 ?_
      refine rw_zeq (tgt := 41) hx hb d_M_isOpen_27 (by decide) (by have := rt_ok_g hQ (r / 2); omega) (fun c_27 => ?_) (fun c_27 => ?_)
      · refine lv_iconst (v := (nI (1))) hx hb d_M_isOpen_41 (by decide) ?_
        refine lv_goto (tgt := 46) hx hb d_M_isOpen_42 (by decide) ?_
        exact w_zret (v := true) () hx hb hr hlocks hS hP (congrArg rt_b (by first | exact (rt_opx_n (by rcases pk_ix x (n := 12 * (w * h)) (by omega) with q | q | ⟨j, hj, rfl⟩; exact Or.inl q; exact Or.inr q; rw [rt_ix_some (by omega) hj] at c_5; cases c_5)).symm | (rw [rt_opx_s (by omega) hr0]; unfold rt_op; rw [c_16]; simp; done) | (rw [rt_opx_s (by omega) hr0, rt_op_m hr0 (of_decide_eq_true c_16)]; simp_all; done))) d_M_isOpen_46
      · refine lv_aload_n hx hb d_M_isOpen_30 rfl (lv_at hl 0 rfl) ?_
        refine lv_iload_n hx hb d_M_isOpen_31 rfl (lv_at hl 1 rfl) ?_
        refine lv_iconst (v := (nI (2))) hx hb d_M_isOpen_32 (by decide) ?_
        refine rw_div hx hb d_M_isOpen_33 (by omega) (by omega) (by omega) ?_
        refine w_ci (As := [.int (nI (r / 2))]) (rest := []) ⟨hx, hb, hml, hown, hts⟩ (c_M_signalled l D cI cZ g a ha w h Q L cn th kf Z pf (r / 2) hG (by omega)) (cwV 1 hts (t_gV k_methodLink_rn_M_58_y_M_signalled k_instanceMethod_y_M_signalled k_selects_rn_M_y_M_signalled_y_M_signalled k_initialized_rn_M k_code_y_M_signalled_prog_6_method_12_code_2_some_int) rfl rfl rfl (by decide +kernel) ⟨Nat.le_of_ble_eq_true rfl, Nat.le_of_ble_eq_true rfl⟩) (va_recv hK hP (ci := 4) (q0 := 0) rfl rfl) hP hK hZ hS rfl hl.1 rfl (Nat.le_of_ble_eq_true rfl) d_M_isOpen_34 ⟨Nat.zero_le _, Nat.zero_le _⟩ (fun r_34 u_34 H locs hw hP hS => ?_)
        rw [if_neg c_27] at hw
        subst hw
        have hP : va_P D vwCl (mw cI cZ a w h (fun p => rt_b (decide (Q p ≠ 0))) (fun p => nI (rt_g Q p)) (fun p => nI (rt_s Q p)) (fun i => nI (L i)) cn th kf (fun p => rt_b (Z p)) pf) H := hP
        refine rw_topI (b := nI (rt_sg Q (r / 2))) rfl ?_
        have hsg : rt_sg Q (r / 2) < 2 ^ 31 := by unfold rt_sg; omega
        refine lv_iload_n hx hb d_M_isOpen_37 rfl (lv_at hl 1 rfl) ?_
        refine rw_cne (tgt := 45) hx hb d_M_isOpen_38 (by decide) (by omega) (by omega) (fun c_38 => ?_) (fun c_38 => ?_)
        · refine lv_iconst (v := (nI (0))) hx hb d_M_isOpen_45 (by decide) ?_
          exact w_zret (v := false) () hx hb hr hlocks hS hP (congrArg rt_b (by first | exact (rt_opx_n (by rcases pk_ix x (n := 12 * (w * h)) (by omega) with q | q | ⟨j, hj, rfl⟩; exact Or.inl q; exact Or.inr q; rw [rt_ix_some (by omega) hj] at c_5; cases c_5)).symm | (rw [rt_opx_s (by omega) hr0]; unfold rt_op; rw [c_16]; simp; done) | (rw [rt_opx_s (by omega) hr0, rt_op_m hr0 (of_decide_eq_true c_16)]; simp_all; done))) d_M_isOpen_46
        · refine lv_iconst (v := (nI (1))) hx hb d_M_isOpen_41 (by decide) ?_
          refine lv_goto (tgt := 46) hx hb d_M_isOpen_42 (by decide) ?_
          exact w_zret (v := true) () hx hb hr hlocks hS hP (congrArg rt_b (by first | exact (rt_opx_n (by rcases pk_ix x (n := 12 * (w * h)) (by omega) with q | q | ⟨j, hj, rfl⟩; exact Or.inl q; exact Or.inr q; rw [rt_ix_some (by omega) hj] at c_5; cases c_5)).symm | (rw [rt_opx_s (by omega) hr0]; unfold rt_op; rw [c_16]; simp; done) | (rw [rt_opx_s (by omega) hr0, rt_op_m hr0 (of_decide_eq_true c_16)]; simp_all; done))) d_M_isOpen_46

set_option maxHeartbeats 4000000 in
set_option maxRecDepth 100000 in
theorem c_M_from (l : Launch) (D : va_G) (cI cZ : ClassId) (g a : Nat → Nat) (ha : mI a) (w h : Nat) (Q L : Nat → Nat) (cn : Nat) (th : Int32) (kf : Nat → Int32) (Z : Nat → Bool) (pf : Nat → Int32) (r : Nat) (hG : rt_G w h Q) (hr0 : r < 12 * (w * h)) : Met l y_M_from (.code y_M_from b_M_from 2 (some .int) :: tG) ({ frames := 0, cells := 0, slots := 0, locals := 0 }) (va_Pc [.ref (a 0), .int (nI (r))] (wU D cI cZ g (mA a) (mw cI cZ a w h (fun p => rt_b (decide (Q p ≠ 0))) (fun p => nI (rt_g Q p)) (fun p => nI (rt_s Q p)) (fun i => nI (L i)) cn th kf (fun p => rt_b (Z p)) pf))) (va_Qi (S := Unit) (fun x _ => x = nI (rt_mf (r % 12))) (wB D (fun (u : Unit) => (mw cI cZ a w h (fun p => rt_b (decide (Q p ≠ 0))) (fun p => nI (rt_g Q p)) (fun p => nI (rt_s Q p)) (fun i => nI (L i)) cn th kf (fun p => rt_b (Z p)) pf))) (mA a)) 0 0 (mA a) := by
  refine Met.ofW (cc := b_M_from) (maxL := 2) (ret := (some .int)) (by decide) rfl ?_
  intro p e s m args below meth c s₁ BD9 hml hv
  obtain ⟨rfl, hP, hK, hZ⟩ := hv
  have hx := BD9.exec
  have hb := BD9.bytes
  have hr := BD9.returns
  have hts : ∀ w ∈ tG, w.before _ s = true := fun w hw => atoms_spec (ws := .code y_M_from b_M_from 2 (some .int) :: tG) BD9.pre w (List.mem_cons_of_mem _ hw)
  have hown : s.vm.findClass rn_M = some m.cls := findClass_of_methodNamed BD9.named
  have hlocks := BD9.notSynchronized
  have hS : va_S (mA a) s.heap s.heap [] := va_S.rf
  have hD : va_D (mA a) (mw cI cZ a w h (fun p => rt_b (decide (Q p ≠ 0))) (fun p => nI (rt_g Q p)) (fun p => nI (rt_s Q p)) (fun i => nI (L i)) cn th kf (fun p => rt_b (Z p)) pf) := m_D ha _ rfl
  have hP : va_P D vwCl (mw cI cZ a w h (fun p => rt_b (decide (Q p ≠ 0))) (fun p => nI (rt_g Q p)) (fun p => nI (rt_s Q p)) (fun i => nI (L i)) cn th kf (fun p => rt_b (Z p)) pf) s.heap := hP
  have hl := lv_entry ([.ref (a 0), .int (nI (r))]) (n := 2) (Nat.le_of_ble_eq_true rfl)
  rw [lg_entry_eq]
  generalize (lg_sl ([.ref (a 0), .int (nI (r))]) ++ List.replicate (2 - (lg_sl ([.ref (a 0), .int (nI (r))])).length) Slot.unset).toArray = ls at hl ⊢
  have hl : lv_has ls 2 [(0, .ref (a 0)), (1, .int (nI (r)))] := hl
  obtain ⟨hn1, hn⟩ := hG.n
  have hw0 : 0 < w := by have := hG.1.1; omega
  have hQ := hG.2.2
  refine lv_aload_n hx hb d_M_from_0 rfl (lv_at hl 0 rfl) ?_
  refine va_get (D := D) (ci := 4) (v := .ref (a 1)) (C := rn_M) (T := tf_M) (N := 12) hx hb hts in_M hown hK hP 0 rfl rfl 0 (by decide) (hts _ k_fieldLink_rn_M_7_rn_M_edges_I) (fun _ h9 => h9) rfl d_M_from_1 ?_
  refine lv_iconst (v := (nI (2))) hx hb d_M_from_4 (by decide) ?_
  refine lv_iload_n hx hb d_M_from_5 rfl (lv_at hl 1 rfl) ?_
  refine lv_iconst (v := (nI (2))) hx hb d_M_from_6 (by decide) ?_
  refine rw_div hx hb d_M_from_7 (by omega) (by omega) (by omega) ?_
  refine lv_bipush (v := (nI (6))) hx hb d_M_from_8 (by decide) ?_
  refine rw_rem hx hb d_M_from_10 (by omega) (by omega) (by omega) ?_
  refine rw_mul hx hb d_M_from_11 ?_
  refine lv_iload_n hx hb d_M_from_12 rfl (lv_at hl 1 rfl) ?_
  refine lv_iconst (v := (nI (2))) hx hb d_M_from_13 (by decide) ?_
  refine rw_rem hx hb d_M_from_14 (by omega) (by omega) (by omega) ?_
  refine rw_add hx hb d_M_from_15 ?_
  refine rw_iald (v := (nI (rt_ed ((2 * ((r / 2) % 6)) + (r % 2))))) hx hb hK hP 1 0 rfl rfl (by omega) (by omega) (rfl) d_M_from_16 ?_
  exact w_iret () hx hb hr hlocks hS hP (by rw [rt_mf_r]) d_M_from_17

set_option maxHeartbeats 4000000 in
set_option maxRecDepth 100000 in
theorem c_M_to (l : Launch) (D : va_G) (cI cZ : ClassId) (g a : Nat → Nat) (ha : mI a) (w h : Nat) (Q L : Nat → Nat) (cn : Nat) (th : Int32) (kf : Nat → Int32) (Z : Nat → Bool) (pf : Nat → Int32) (r : Nat) (hG : rt_G w h Q) (hr0 : r < 12 * (w * h)) : Met l y_M_to (.code y_M_to b_M_to 2 (some .int) :: tG) ({ frames := 0, cells := 0, slots := 0, locals := 0 }) (va_Pc [.ref (a 0), .int (nI (r))] (wU D cI cZ g (mA a) (mw cI cZ a w h (fun p => rt_b (decide (Q p ≠ 0))) (fun p => nI (rt_g Q p)) (fun p => nI (rt_s Q p)) (fun i => nI (L i)) cn th kf (fun p => rt_b (Z p)) pf))) (va_Qi (S := Unit) (fun x _ => x = nI (rt_mt (r % 12))) (wB D (fun (u : Unit) => (mw cI cZ a w h (fun p => rt_b (decide (Q p ≠ 0))) (fun p => nI (rt_g Q p)) (fun p => nI (rt_s Q p)) (fun i => nI (L i)) cn th kf (fun p => rt_b (Z p)) pf))) (mA a)) 0 0 (mA a) := by
  refine Met.ofW (cc := b_M_to) (maxL := 2) (ret := (some .int)) (by decide) rfl ?_
  intro p e s m args below meth c s₁ BD9 hml hv
  obtain ⟨rfl, hP, hK, hZ⟩ := hv
  have hx := BD9.exec
  have hb := BD9.bytes
  have hr := BD9.returns
  have hts : ∀ w ∈ tG, w.before _ s = true := fun w hw => atoms_spec (ws := .code y_M_to b_M_to 2 (some .int) :: tG) BD9.pre w (List.mem_cons_of_mem _ hw)
  have hown : s.vm.findClass rn_M = some m.cls := findClass_of_methodNamed BD9.named
  have hlocks := BD9.notSynchronized
  have hS : va_S (mA a) s.heap s.heap [] := va_S.rf
  have hD : va_D (mA a) (mw cI cZ a w h (fun p => rt_b (decide (Q p ≠ 0))) (fun p => nI (rt_g Q p)) (fun p => nI (rt_s Q p)) (fun i => nI (L i)) cn th kf (fun p => rt_b (Z p)) pf) := m_D ha _ rfl
  have hP : va_P D vwCl (mw cI cZ a w h (fun p => rt_b (decide (Q p ≠ 0))) (fun p => nI (rt_g Q p)) (fun p => nI (rt_s Q p)) (fun i => nI (L i)) cn th kf (fun p => rt_b (Z p)) pf) s.heap := hP
  have hl := lv_entry ([.ref (a 0), .int (nI (r))]) (n := 2) (Nat.le_of_ble_eq_true rfl)
  rw [lg_entry_eq]
  generalize (lg_sl ([.ref (a 0), .int (nI (r))]) ++ List.replicate (2 - (lg_sl ([.ref (a 0), .int (nI (r))])).length) Slot.unset).toArray = ls at hl ⊢
  have hl : lv_has ls 2 [(0, .ref (a 0)), (1, .int (nI (r)))] := hl
  obtain ⟨hn1, hn⟩ := hG.n
  have hw0 : 0 < w := by have := hG.1.1; omega
  have hQ := hG.2.2
  refine lv_aload_n hx hb d_M_to_0 rfl (lv_at hl 0 rfl) ?_
  refine va_get (D := D) (ci := 4) (v := .ref (a 1)) (C := rn_M) (T := tf_M) (N := 12) hx hb hts in_M hown hK hP 0 rfl rfl 0 (by decide) (hts _ k_fieldLink_rn_M_7_rn_M_edges_I) (fun _ h9 => h9) rfl d_M_to_1 ?_
  refine lv_iconst (v := (nI (2))) hx hb d_M_to_4 (by decide) ?_
  refine lv_iload_n hx hb d_M_to_5 rfl (lv_at hl 1 rfl) ?_
  refine lv_iconst (v := (nI (2))) hx hb d_M_to_6 (by decide) ?_
  refine rw_div hx hb d_M_to_7 (by omega) (by omega) (by omega) ?_
  refine lv_bipush (v := (nI (6))) hx hb d_M_to_8 (by decide) ?_
  refine rw_rem hx hb d_M_to_10 (by omega) (by omega) (by omega) ?_
  refine rw_mul hx hb d_M_to_11 ?_
  refine lv_iconst (v := (nI (1))) hx hb d_M_to_12 (by decide) ?_
  refine rw_add hx hb d_M_to_13 ?_
  refine lv_iload_n hx hb d_M_to_14 rfl (lv_at hl 1 rfl) ?_
  refine lv_iconst (v := (nI (2))) hx hb d_M_to_15 (by decide) ?_
  refine rw_rem hx hb d_M_to_16 (by omega) (by omega) (by omega) ?_
  refine rw_sub hx hb d_M_to_17 (by omega) ?_
  refine rw_iald (v := (nI (rt_ed (((2 * ((r / 2) % 6)) + 1) - (r % 2))))) hx hb hK hP 1 0 rfl rfl (by omega) (by omega) (rfl) d_M_to_18 ?_
  exact w_iret () hx hb hr hlocks hS hP (by rw [rt_mt_r]) d_M_to_19

set_option maxHeartbeats 4000000 in
set_option maxRecDepth 100000 in
theorem c_M_beyond (l : Launch) (D : va_G) (cI cZ : ClassId) (g a : Nat → Nat) (ha : mI a) (w h : Nat) (Q L : Nat → Nat) (cn : Nat) (th : Int32) (kf : Nat → Int32) (Z : Nat → Bool) (pf : Nat → Int32) (t e0 : Nat) (hG : rt_G w h Q) (ht : t < w * h) (he : e0 < 4) : Met l y_M_beyond (.code y_M_beyond b_M_beyond 5 (some .int) :: tG) ({ frames := 0, cells := 0, slots := 0, locals := 0 }) (va_Pc [.ref (a 0), .int (nI (t)), .int (nI (e0))] (wU D cI cZ g (mA a) (mw cI cZ a w h (fun p => rt_b (decide (Q p ≠ 0))) (fun p => nI (rt_g Q p)) (fun p => nI (rt_s Q p)) (fun i => nI (L i)) cn th kf (fun p => rt_b (Z p)) pf))) (va_Qi (S := Unit) (fun x _ => x = rt_o (rt_nb w h t (rt_tr e0))) (wB D (fun (u : Unit) => (mw cI cZ a w h (fun p => rt_b (decide (Q p ≠ 0))) (fun p => nI (rt_g Q p)) (fun p => nI (rt_s Q p)) (fun i => nI (L i)) cn th kf (fun p => rt_b (Z p)) pf))) (mA a)) 0 0 (mA a) := by
  refine Met.ofW (cc := b_M_beyond) (maxL := 5) (ret := (some .int)) (by decide) rfl ?_
  intro p e s m args below meth c s₁ BD9 hml hv
  obtain ⟨rfl, hP, hK, hZ⟩ := hv
  have hx := BD9.exec
  have hb := BD9.bytes
  have hr := BD9.returns
  have hts : ∀ w ∈ tG, w.before _ s = true := fun w hw => atoms_spec (ws := .code y_M_beyond b_M_beyond 5 (some .int) :: tG) BD9.pre w (List.mem_cons_of_mem _ hw)
  have hown : s.vm.findClass rn_M = some m.cls := findClass_of_methodNamed BD9.named
  have hlocks := BD9.notSynchronized
  have hS : va_S (mA a) s.heap s.heap [] := va_S.rf
  have hD : va_D (mA a) (mw cI cZ a w h (fun p => rt_b (decide (Q p ≠ 0))) (fun p => nI (rt_g Q p)) (fun p => nI (rt_s Q p)) (fun i => nI (L i)) cn th kf (fun p => rt_b (Z p)) pf) := m_D ha _ rfl
  have hP : va_P D vwCl (mw cI cZ a w h (fun p => rt_b (decide (Q p ≠ 0))) (fun p => nI (rt_g Q p)) (fun p => nI (rt_s Q p)) (fun i => nI (L i)) cn th kf (fun p => rt_b (Z p)) pf) s.heap := hP
  have hl := lv_entry ([.ref (a 0), .int (nI (t)), .int (nI (e0))]) (n := 5) (Nat.le_of_ble_eq_true rfl)
  rw [lg_entry_eq]
  generalize (lg_sl ([.ref (a 0), .int (nI (t)), .int (nI (e0))]) ++ List.replicate (5 - (lg_sl ([.ref (a 0), .int (nI (t)), .int (nI (e0))])).length) Slot.unset).toArray = ls at hl ⊢
  have hl : lv_has ls 5 [(0, .ref (a 0)), (1, .int (nI (t))), (2, .int (nI (e0)))] := hl
  obtain ⟨hn1, hn⟩ := hG.n
  have hw0 : 0 < w := by have := hG.1.1; omega
  have hQ := hG.2.2
  obtain ⟨⟨w4, w20⟩, ⟨h4, h20⟩, -⟩ := id hG
  have htm : t % w < w := Nat.mod_lt _ hw0
  have htd : t / w < h := by rw [Nat.div_lt_iff_lt_mul hw0, Nat.mul_comm]; exact ht
  have htw : t / w ≠ 0 → w ≤ t := fun q => by rcases Nat.lt_or_ge t w with z | z; exact absurd (Nat.div_eq_of_lt z) q; exact z
  have hxt : t % w ≤ t := Nat.mod_le _ _
  refine lv_iload_n hx hb d_M_beyond_0 rfl (lv_at hl 1 rfl) ?_
  refine lv_aload_n hx hb d_M_beyond_1 rfl (lv_at hl 0 rfl) ?_
  refine va_get (D := D) (ci := 4) (v := .int (nI (w))) (C := rn_M) (T := tf_M) (N := 12) hx hb hts in_M hown hK hP 0 rfl rfl 2 (by decide) (hts _ k_fieldLink_rn_M_35_rn_M_w_I) (fun _ h9 => h9) rfl d_M_beyond_2 ?_
  refine rw_rem hx hb d_M_beyond_5 (by omega) (by omega) (by omega) ?_
  refine lv_istore_n (lv' := [(3, .int (nI (t % w))), (0, .ref (a 0)), (1, .int (nI (t))), (2, .int (nI (e0)))]) hx hb d_M_beyond_6 rfl hl (by decide) rfl (fun ls hl => ?_)
  refine lv_iload_n hx hb d_M_beyond_7 rfl (lv_at hl 2 rfl) ?_
  refine lv_aload_n hx hb d_M_beyond_8 rfl (lv_at hl 1 rfl) ?_
  refine va_get (D := D) (ci := 4) (v := .int (nI (w))) (C := rn_M) (T := tf_M) (N := 12) hx hb hts in_M hown hK hP 0 rfl rfl 2 (by decide) (hts _ k_fieldLink_rn_M_35_rn_M_w_I) (fun _ h9 => h9) rfl d_M_beyond_9 ?_
  refine rw_div hx hb d_M_beyond_12 (by omega) (by omega) (by omega) ?_
  refine lv_istore (lv' := [(4, .int (nI (t / w))), (3, .int (nI (t % w))), (0, .ref (a 0)), (1, .int (nI (t))), (2, .int (nI (e0)))]) hx hb d_M_beyond_13 hl (by decide) rfl (fun ls hl => ?_)
  refine lv_iload_n hx hb d_M_beyond_15 rfl (lv_at hl 4 rfl) ?_
  refine rw_zne (tgt := 31) hx hb d_M_beyond_16 (by decide) (by omega) (fun c_16 => ?_) (fun c_16 => ?_)
  · refine lv_iload_n hx hb d_M_beyond_31 rfl (lv_at hl 4 rfl) ?_
    refine lv_iconst (v := (nI (1))) hx hb d_M_beyond_32 (by decide) ?_
    refine rw_cne (tgt := 54) hx hb d_M_beyond_33 (by decide) (by omega) (by omega) (fun c_33 => ?_) (fun c_33 => ?_)
    · refine lv_iload_n hx hb d_M_beyond_54 rfl (lv_at hl 4 rfl) ?_
      refine lv_iconst (v := (nI (2))) hx hb d_M_beyond_55 (by decide) ?_
      refine rw_cne (tgt := 75) hx hb d_M_beyond_56 (by decide) (by omega) (by omega) (fun c_56 => ?_) (fun c_56 => ?_)
      · refine lv_iload hx hb d_M_beyond_75 (lv_at hl 0 rfl) ?_
        refine lv_aload_n hx hb d_M_beyond_77 rfl (lv_at hl 2 rfl) ?_
        refine va_get (D := D) (ci := 4) (v := .int (nI (h))) (C := rn_M) (T := tf_M) (N := 12) hx hb hts in_M hown hK hP 0 rfl rfl 3 (by decide) (hts _ k_fieldLink_rn_M_39_rn_M_h_I) (fun _ h9 => h9) rfl d_M_beyond_78 ?_
        refine lv_iconst (v := (nI (1))) hx hb d_M_beyond_81 (by decide) ?_
        refine rw_sub hx hb d_M_beyond_82 (by omega) ?_
        refine rw_cne (tgt := 90) hx hb d_M_beyond_83 (by decide) (by omega) (by omega) (fun c_83 => ?_) (fun c_83 => ?_)
        · refine lv_iload_n hx hb d_M_beyond_90 rfl (lv_at hl 3 rfl) ?_
          refine lv_aload_n hx hb d_M_beyond_91 rfl (lv_at hl 2 rfl) ?_
          refine va_get (D := D) (ci := 4) (v := .int (nI (w))) (C := rn_M) (T := tf_M) (N := 12) hx hb hts in_M hown hK hP 0 rfl rfl 2 (by decide) (hts _ k_fieldLink_rn_M_35_rn_M_w_I) (fun _ h9 => h9) rfl d_M_beyond_92 ?_
          refine rw_add hx hb d_M_beyond_95 ?_
          exact w_iret () hx hb hr hlocks hS hP (by rw [show e0 = 3 by omega]; show _ = rt_o (rt_nb w h t 3); rw [rt_nb_3, if_neg (by omega)]; rfl) d_M_beyond_96
        · refine lv_iconst (v := (-1)) hx hb d_M_beyond_86 (by decide) ?_
          refine lv_goto (tgt := 96) hx hb d_M_beyond_87 (by decide) ?_
          exact w_iret () hx hb hr hlocks hS hP (by rw [show e0 = 3 by omega]; show _ = rt_o (rt_nb w h t 3); rw [rt_nb_3, if_pos (by omega)]; rfl) d_M_beyond_96
      · refine lv_iload hx hb d_M_beyond_59 (lv_at hl 0 rfl) ?_
        refine rw_zne (tgt := 68) hx hb d_M_beyond_61 (by decide) (by omega) (fun c_61 => ?_) (fun c_61 => ?_)
        · refine lv_iload_n hx hb d_M_beyond_68 rfl (lv_at hl 3 rfl) ?_
          refine lv_aload_n hx hb d_M_beyond_69 rfl (lv_at hl 2 rfl) ?_
          refine va_get (D := D) (ci := 4) (v := .int (nI (w))) (C := rn_M) (T := tf_M) (N := 12) hx hb hts in_M hown hK hP 0 rfl rfl 2 (by decide) (hts _ k_fieldLink_rn_M_35_rn_M_w_I) (fun _ h9 => h9) rfl d_M_beyond_70 ?_
          refine rw_sub hx hb d_M_beyond_73 (htw c_61) ?_
          exact w_iret () hx hb hr hlocks hS hP (by rw [show e0 = 2 by omega]; show _ = rt_o (rt_nb w h t 1); rw [rt_nb_1, if_neg (by omega)]; rfl) d_M_beyond_74
        · refine lv_iconst (v := (-1)) hx hb d_M_beyond_64 (by decide) ?_
          refine lv_goto (tgt := 74) hx hb d_M_beyond_65 (by decide) ?_
          exact w_iret () hx hb hr hlocks hS hP (by rw [show e0 = 2 by omega]; show _ = rt_o (rt_nb w h t 1); rw [rt_nb_1, if_pos (by omega)]; rfl) d_M_beyond_74
    · refine lv_iload_n hx hb d_M_beyond_36 rfl (lv_at hl 1 rfl) ?_
      refine lv_aload_n hx hb d_M_beyond_37 rfl (lv_at hl 2 rfl) ?_
      refine va_get (D := D) (ci := 4) (v := .int (nI (w))) (C := rn_M) (T := tf_M) (N := 12) hx hb hts in_M hown hK hP 0 rfl rfl 2 (by decide) (hts _ k_fieldLink_rn_M_35_rn_M_w_I) (fun _ h9 => h9) rfl d_M_beyond_38 ?_
      refine lv_iconst (v := (nI (1))) hx hb d_M_beyond_41 (by decide) ?_
      refine rw_sub hx hb d_M_beyond_42 (by omega) ?_
      refine rw_cne (tgt := 50) hx hb d_M_beyond_43 (by decide) (by omega) (by omega) (fun c_43 => ?_) (fun c_43 => ?_)
      · refine lv_iload_n hx hb d_M_beyond_50 rfl (lv_at hl 3 rfl) ?_
        refine lv_iconst (v := (nI (1))) hx hb d_M_beyond_51 (by decide) ?_
        refine rw_add hx hb d_M_beyond_52 ?_
        exact w_iret () hx hb hr hlocks hS hP (by rw [show e0 = 1 by omega]; show _ = rt_o (rt_nb w h t 2); rw [rt_nb_2, if_neg (by omega)]; rfl) d_M_beyond_53
      · refine lv_iconst (v := (-1)) hx hb d_M_beyond_46 (by decide) ?_
        refine lv_goto (tgt := 53) hx hb d_M_beyond_47 (by decide) ?_
        exact w_iret () hx hb hr hlocks hS hP (by rw [show e0 = 1 by omega]; show _ = rt_o (rt_nb w h t 2); rw [rt_nb_2, if_pos (by omega)]; rfl) d_M_beyond_53
  · refine lv_iload_n hx hb d_M_beyond_19 rfl (lv_at hl 1 rfl) ?_
    refine rw_zne (tgt := 27) hx hb d_M_beyond_20 (by decide) (by omega) (fun c_20 => ?_) (fun c_20 => ?_)
    · refine lv_iload_n hx hb d_M_beyond_27 rfl (lv_at hl 3 rfl) ?_
      refine lv_iconst (v := (nI (1))) hx hb d_M_beyond_28 (by decide) ?_
      refine rw_sub hx hb d_M_beyond_29 (by have : t % w ≠ 0 := c_20; omega) ?_
      exact w_iret () hx hb hr hlocks hS hP (by rw [show e0 = 0 by omega]; show _ = rt_o (rt_nb w h t 0); rw [rt_nb_0, if_neg (by omega)]; rfl) d_M_beyond_30
    · refine lv_iconst (v := (-1)) hx hb d_M_beyond_23 (by decide) ?_
      refine lv_goto (tgt := 30) hx hb d_M_beyond_24 (by decide) ?_
      exact w_iret () hx hb hr hlocks hS hP (by rw [show e0 = 0 by omega]; show _ = rt_o (rt_nb w h t 0); rw [rt_nb_0, if_pos (by omega)]; rfl) d_M_beyond_30

set_option maxHeartbeats 4000000 in
set_option maxRecDepth 100000 in
theorem c_M_other (l : Launch) (D : va_G) (cI cZ : ClassId) (g a : Nat → Nat) (ha : mI a) (w h : Nat) (Q L : Nat → Nat) (cn : Nat) (th : Int32) (kf : Nat → Int32) (Z : Nat → Bool) (pf : Nat → Int32) (e0 : Nat) (hG : rt_G w h Q) (he : e0 < 4) : Met l y_M_other (.code y_M_other b_M_other 1 (some .int) :: tG) ({ frames := 0, cells := 0, slots := 0, locals := 0 }) (va_Pc [.int (nI (e0))] (wU D cI cZ g (mA a) (mw cI cZ a w h (fun p => rt_b (decide (Q p ≠ 0))) (fun p => nI (rt_g Q p)) (fun p => nI (rt_s Q p)) (fun i => nI (L i)) cn th kf (fun p => rt_b (Z p)) pf))) (va_Qi (S := Unit) (fun x _ => x = nI (rt_mo e0)) (wB D (fun (u : Unit) => (mw cI cZ a w h (fun p => rt_b (decide (Q p ≠ 0))) (fun p => nI (rt_g Q p)) (fun p => nI (rt_s Q p)) (fun i => nI (L i)) cn th kf (fun p => rt_b (Z p)) pf))) (mA a)) 0 0 (mA a) := by
  refine Met.ofW (cc := b_M_other) (maxL := 1) (ret := (some .int)) (by decide) rfl ?_
  intro p e s m args below meth c s₁ BD9 hml hv
  obtain ⟨rfl, hP, hK, hZ⟩ := hv
  have hx := BD9.exec
  have hb := BD9.bytes
  have hr := BD9.returns
  have hts : ∀ w ∈ tG, w.before _ s = true := fun w hw => atoms_spec (ws := .code y_M_other b_M_other 1 (some .int) :: tG) BD9.pre w (List.mem_cons_of_mem _ hw)
  have hown : s.vm.findClass rn_M = some m.cls := findClass_of_methodNamed BD9.named
  have hlocks := BD9.notSynchronized
  have hS : va_S (mA a) s.heap s.heap [] := va_S.rf
  have hD : va_D (mA a) (mw cI cZ a w h (fun p => rt_b (decide (Q p ≠ 0))) (fun p => nI (rt_g Q p)) (fun p => nI (rt_s Q p)) (fun i => nI (L i)) cn th kf (fun p => rt_b (Z p)) pf) := m_D ha _ rfl
  have hP : va_P D vwCl (mw cI cZ a w h (fun p => rt_b (decide (Q p ≠ 0))) (fun p => nI (rt_g Q p)) (fun p => nI (rt_s Q p)) (fun i => nI (L i)) cn th kf (fun p => rt_b (Z p)) pf) s.heap := hP
  have hl := lv_entry ([.int (nI (e0))]) (n := 1) (Nat.le_of_ble_eq_true rfl)
  rw [lg_entry_eq]
  generalize (lg_sl ([.int (nI (e0))]) ++ List.replicate (1 - (lg_sl ([.int (nI (e0))])).length) Slot.unset).toArray = ls at hl ⊢
  have hl : lv_has ls 1 [(0, .int (nI (e0)))] := hl
  obtain ⟨hn1, hn⟩ := hG.n
  have hw0 : 0 < w := by have := hG.1.1; omega
  have hQ := hG.2.2
  refine lv_iload_n hx hb d_M_other_0 rfl (lv_at hl 0 rfl) ?_
  refine lv_iconst (v := (nI (2))) hx hb d_M_other_1 (by decide) ?_
  refine rw_cge (tgt := 11) hx hb d_M_other_2 (by decide) (by omega) (by omega) (fun c_2 => ?_) (fun c_2 => ?_)
  · refine lv_iconst (v := (nI (5))) hx hb d_M_other_11 (by decide) ?_
    refine lv_iload_n hx hb d_M_other_12 rfl (lv_at hl 0 rfl) ?_
    refine rw_sub hx hb d_M_other_13 (by omega) ?_
    exact w_iret () hx hb hr hlocks hS hP (by unfold rt_mo; first | rw [if_pos (by omega)] | rw [if_neg (by omega)]) d_M_other_14
  · refine lv_iconst (v := (nI (1))) hx hb d_M_other_5 (by decide) ?_
    refine lv_iload_n hx hb d_M_other_6 rfl (lv_at hl 0 rfl) ?_
    refine rw_sub hx hb d_M_other_7 (by omega) ?_
    refine lv_goto (tgt := 14) hx hb d_M_other_8 (by decide) ?_
    exact w_iret () hx hb hr hlocks hS hP (by unfold rt_mo; first | rw [if_pos (by omega)] | rw [if_neg (by omega)]) d_M_other_14

set_option maxHeartbeats 4000000 in
set_option maxRecDepth 100000 in
theorem c_M_length (l : Launch) (D : va_G) (cI cZ : ClassId) (g a : Nat → Nat) (ha : mI a) (w h : Nat) (Q L : Nat → Nat) (cn : Nat) (th : Int32) (kf : Nat → Int32) (Z : Nat → Bool) (pf : Nat → Int32) (r : Nat) (hG : rt_G w h Q) (hr0 : r < 12 * (w * h)) : Met l y_M_length (.code y_M_length b_M_length 1 (some .int) :: tG) ({ frames := 0, cells := 0, slots := 0, locals := 0 }) (va_Pc [.int (nI (r))] (wU D cI cZ g (mA a) (mw cI cZ a w h (fun p => rt_b (decide (Q p ≠ 0))) (fun p => nI (rt_g Q p)) (fun p => nI (rt_s Q p)) (fun i => nI (L i)) cn th kf (fun p => rt_b (Z p)) pf))) (va_Qi (S := Unit) (fun x _ => x = nI (rt_ln r)) (wB D (fun (u : Unit) => (mw cI cZ a w h (fun p => rt_b (decide (Q p ≠ 0))) (fun p => nI (rt_g Q p)) (fun p => nI (rt_s Q p)) (fun i => nI (L i)) cn th kf (fun p => rt_b (Z p)) pf))) (mA a)) 0 0 (mA a) := by
  refine Met.ofW (cc := b_M_length) (maxL := 1) (ret := (some .int)) (by decide) rfl ?_
  intro p e s m args below meth c s₁ BD9 hml hv
  obtain ⟨rfl, hP, hK, hZ⟩ := hv
  have hx := BD9.exec
  have hb := BD9.bytes
  have hr := BD9.returns
  have hts : ∀ w ∈ tG, w.before _ s = true := fun w hw => atoms_spec (ws := .code y_M_length b_M_length 1 (some .int) :: tG) BD9.pre w (List.mem_cons_of_mem _ hw)
  have hown : s.vm.findClass rn_M = some m.cls := findClass_of_methodNamed BD9.named
  have hlocks := BD9.notSynchronized
  have hS : va_S (mA a) s.heap s.heap [] := va_S.rf
  have hD : va_D (mA a) (mw cI cZ a w h (fun p => rt_b (decide (Q p ≠ 0))) (fun p => nI (rt_g Q p)) (fun p => nI (rt_s Q p)) (fun i => nI (L i)) cn th kf (fun p => rt_b (Z p)) pf) := m_D ha _ rfl
  have hP : va_P D vwCl (mw cI cZ a w h (fun p => rt_b (decide (Q p ≠ 0))) (fun p => nI (rt_g Q p)) (fun p => nI (rt_s Q p)) (fun i => nI (L i)) cn th kf (fun p => rt_b (Z p)) pf) s.heap := hP
  have hl := lv_entry ([.int (nI (r))]) (n := 1) (Nat.le_of_ble_eq_true rfl)
  rw [lg_entry_eq]
  generalize (lg_sl ([.int (nI (r))]) ++ List.replicate (1 - (lg_sl ([.int (nI (r))])).length) Slot.unset).toArray = ls at hl ⊢
  have hl : lv_has ls 1 [(0, .int (nI (r)))] := hl
  obtain ⟨hn1, hn⟩ := hG.n
  have hw0 : 0 < w := by have := hG.1.1; omega
  have hQ := hG.2.2
  refine lv_iload_n hx hb d_M_length_0 rfl (lv_at hl 0 rfl) ?_
  refine lv_iconst (v := (nI (2))) hx hb d_M_length_1 (by decide) ?_
  refine rw_div hx hb d_M_length_2 (by omega) (by omega) (by omega) ?_
  refine lv_bipush (v := (nI (6))) hx hb d_M_length_3 (by decide) ?_
  refine rw_rem hx hb d_M_length_5 (by omega) (by omega) (by omega) ?_
  refine lv_iconst (v := (nI (2))) hx hb d_M_length_6 (by decide) ?_
  refine rw_cge (tgt := 15) hx hb d_M_length_7 (by decide) (by omega) (by omega) (fun c_7 => ?_) (fun c_7 => ?_)
  · refine lv_bipush (v := (nI (12))) hx hb d_M_length_15 (by decide) ?_
    exact w_iret () hx hb hr hlocks hS hP (by unfold rt_ln; first | rw [if_pos (by omega)] | rw [if_neg (by omega)]) d_M_length_17
  · refine lv_bipush (v := (nI (16))) hx hb d_M_length_10 (by decide) ?_
    refine lv_goto (tgt := 17) hx hb d_M_length_12 (by decide) ?_
    exact w_iret () hx hb hr hlocks hS hP (by unfold rt_ln; first | rw [if_pos (by omega)] | rw [if_neg (by omega)]) d_M_length_17
