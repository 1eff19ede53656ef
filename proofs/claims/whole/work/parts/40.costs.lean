/-! Search, costs: by program (wip/whole/gen/costs.py) -/
set_option maxHeartbeats 4000000 in
set_option maxRecDepth 100000 in
theorem c_S_settle (l : Launch) (D : va_G) (cI cZ : ClassId) (g a : Nat → Nat) (ha : xI a) (w h : Nat) (Q : Nat → Nat) (ff : Nat → Int32) (hd bl : Int32) (rs : Nat → Int32) (hs ts : Int32) (rc : Nat → Int32) (hc tc : Int32) (F : Nat → Option Nat) (RS : Nat → Nat) (xs ys : Nat) (RC : Nat → Nat) (xc yc : Nat) (r k : Nat) (hG : rt_G w h Q) (hr0 : r < 12 * (w * h)) (hcS : rt_st r = true → ys < 4 * (w * h)) (hcC : rt_st r = false → yc < 8 * (w * h)) : Met l y_S_settle (.code y_S_settle b_S_settle 4 none :: tG) ({ frames := 1, cells := 0, slots := 0, locals := 21 }) (va_Pc [.ref (a 4), .ref (a 1), .int (nI (r)), .int (nI (k))] (wU D cI cZ g (xA a) (xw cI a w h Q (fun r9 => rt_o (F r9)) hd bl (fun j => nI (RS j)) (nI (xs)) (nI (ys)) (fun j => nI (RC j)) (nI (xc)) (nI (yc))))) (va_Qv (S := ((Nat → Nat) × Nat × (Nat → Nat) × Nat)) (fun u => u = rt_se RS ys RC yc r) (wB D (fun (u : ((Nat → Nat) × Nat × (Nat → Nat) × Nat)) => (xw cI a w h Q (fun r9 => rt_o (va_up F r (some k) r9)) hd bl (fun j => nI (u.1 j)) (nI (xs)) (nI (u.2.1)) (fun j => nI (u.2.2.1 j)) (nI (xc)) (nI (u.2.2.2))))) (xA a)) 0 0 (xA a) := by
  refine Met.ofW (cc := b_S_settle) (maxL := 4) (ret := none) (by decide) rfl ?_
  intro p e s m args below meth c s₁ BD9 hml hv
  obtain ⟨rfl, hP, hK, hZ⟩ := hv
  have hx := BD9.exec
  have hb := BD9.bytes
  have hr := BD9.returns
  have hts : ∀ w ∈ tG, w.before _ s = true := fun w hw => atoms_spec (ws := .code y_S_settle b_S_settle 4 none :: tG) BD9.pre w (List.mem_cons_of_mem _ hw)
  have hown : s.vm.findClass rn_S = some m.cls := findClass_of_methodNamed BD9.named
  have hlocks := BD9.notSynchronized
  have hS : va_S (xA a) s.heap s.heap [] := va_S.rf
  have hD : va_D (xA a) (xw cI a w h Q (fun r9 => rt_o (F r9)) hd bl (fun j => nI (RS j)) (nI (xs)) (nI (ys)) (fun j => nI (RC j)) (nI (xc)) (nI (yc))) := x_D ha _ rfl
  have hP : va_P D vwCl (xw cI a w h Q (fun r9 => rt_o (F r9)) hd bl (fun j => nI (RS j)) (nI (xs)) (nI (ys)) (fun j => nI (RC j)) (nI (xc)) (nI (yc))) s.heap := hP
  have hl := lv_entry ([.ref (a 4), .ref (a 1), .int (nI (r)), .int (nI (k))]) (n := 4) (Nat.le_of_ble_eq_true rfl)
  rw [lg_entry_eq]
  generalize (lg_sl ([.ref (a 4), .ref (a 1), .int (nI (r)), .int (nI (k))]) ++ List.replicate (4 - (lg_sl ([.ref (a 4), .ref (a 1), .int (nI (r)), .int (nI (k))])).length) Slot.unset).toArray = ls at hl ⊢
  have hl : lv_has ls 4 [(0, .ref (a 4)), (1, .ref (a 1)), (2, .int (nI (r))), (3, .int (nI (k)))] := hl
  obtain ⟨hn1, hn⟩ := hG.n
  have hw0 : 0 < w := by have := hG.1.1; omega
  have hQ := hG.2.2
  refine lv_aload_n hx hb d_S_settle_0 rfl (lv_at hl 0 rfl) ?_
  refine va_get (D := D) (ci := 2) (v := .ref (a 5)) (C := rn_S) (T := tf_S) (N := 5) hx hb hts in_S hown hK hP 4 rfl rfl 0 (by decide) (hts _ k_fieldLink_rn_S_11_rn_S_found_I) (fun _ h9 => h9) rfl d_S_settle_1 ?_
  refine lv_iload_n hx hb d_S_settle_4 rfl (lv_at hl 2 rfl) ?_
  refine lv_iload_n hx hb d_S_settle_5 rfl (lv_at hl 3 rfl) ?_
  refine rw_iast (h := (fun q => rt_o (va_up F r (some k) q))) hx hb hK hP hD hS 5 0 rfl rfl (by omega) (by omega) (fun j _ => rt_updo F r k j) d_S_settle_6 (fun H locs hP hD hS => ?_)
  have hP : va_P D vwCl (xw cI a w h Q (fun q => rt_o (va_up F r (some k) q)) hd bl (fun j => nI (RS j)) (nI (xs)) (nI (ys)) (fun j => nI (RC j)) (nI (xc)) (nI (yc))) H := hP
  have hD : va_D (xA a) (xw cI a w h Q (fun q => rt_o (va_up F r (some k) q)) hd bl (fun j => nI (RS j)) (nI (xs)) (nI (ys)) (fun j => nI (RC j)) (nI (xc)) (nI (yc))) := x_D ha _ rfl
  refine lv_aload_n hx hb d_S_settle_7 rfl (lv_at hl 1 rfl) ?_
  refine lv_iload_n hx hb d_S_settle_8 rfl (lv_at hl 2 rfl) ?_
  refine w_ci (As := [.int (nI (r))]) (rest := []) ⟨hx, hb, hml, hown, hts⟩ (c_A_isStraight l D cI cZ g a ha w h Q (fun q => rt_o (va_up F r (some k) q)) hd bl (fun j => nI (RS j)) (nI (xs)) (nI (ys)) (fun j => nI (RC j)) (nI (xc)) (nI (yc)) r hG hr0) (cwV 1 hts (t_gV k_methodLink_rn_S_117_y_A_isStraight k_instanceMethod_y_A_isStraight k_selects_rn_A_y_A_isStraight_y_A_isStraight k_initialized_rn_A k_code_y_A_isStraight_prog_3_method_12_code_2_some_boolean) rfl rfl rfl (by decide +kernel) ⟨Nat.le_of_ble_eq_true rfl, Nat.le_of_ble_eq_true rfl⟩) (va_recv hK hP (ci := 1) (q0 := 1) rfl rfl) hP hK hZ hS rfl hl.1 rfl (Nat.le_of_ble_eq_true rfl) d_S_settle_9 ⟨Nat.zero_le _, Nat.zero_le _⟩ (fun r_9 u_9 H locs hw hP hS => ?_)
  subst hw
  have hP : va_P D vwCl (xw cI a w h Q (fun q => rt_o (va_up F r (some k) q)) hd bl (fun j => nI (RS j)) (nI (xs)) (nI (ys)) (fun j => nI (RC j)) (nI (xc)) (nI (yc))) H := hP
  refine rw_beq (tgt := 26) hx hb d_S_settle_12 (by decide) (fun c_12 => ?_) (fun c_12 => ?_)
  · refine lv_aload_n hx hb d_S_settle_26 rfl (lv_at hl 0 rfl) ?_
    refine va_get (D := D) (ci := 2) (v := .ref (a 8)) (C := rn_S) (T := tf_S) (N := 5) hx hb hts in_S hown hK hP 4 rfl rfl 2 (by decide) (hts _ k_fieldLink_rn_S_26_rn_S_curves_LRouteTracks_Queue) (fun _ h9 => h9) rfl d_S_settle_27 ?_
    refine lv_iload_n hx hb d_S_settle_30 rfl (lv_at hl 2 rfl) ?_
    refine w_cv (As := [.int (nI (r))]) (rest := []) ⟨hx, hb, hml, hown, hts⟩ (c_Q_add_c l D cI cZ g a ha w h Q (fun q => rt_o (va_up F r (some k) q)) hd bl (fun j => nI (RS j)) (nI (xs)) (nI (ys)) (fun j => nI (RC j)) (nI (xc)) (nI (yc)) RC xc yc r hG (hcC c_12)) (cwV 1 hts (t_gV k_methodLink_rn_S_85_y_Q_add k_instanceMethod_y_Q_add k_selects_rn_Q_y_Q_add_y_Q_add k_initialized_rn_Q k_code_y_Q_add_prog_2_method_4_code_2_none) rfl rfl rfl (by decide +kernel) ⟨Nat.le_of_ble_eq_true rfl, Nat.le_of_ble_eq_true rfl⟩) (va_recv hK hP (ci := 0) (q0 := 8) rfl rfl) hP hK hZ hS rfl hl.1 rfl (Nat.le_of_ble_eq_true rfl) d_S_settle_31 ⟨Nat.zero_le _, Nat.zero_le _⟩ (fun u_31 H locs hw hP hS => ?_)
    have hP : va_P D vwCl (xw cI a w h Q (fun q => rt_o (va_up F r (some k) q)) hd bl (fun j => nI (RS j)) (nI (xs)) (nI (ys)) (fun j => nI (va_up RC yc r j)) (nI (xc)) (nI (yc + 1))) H := hP
    have hD : va_D (xA a) (xw cI a w h Q (fun q => rt_o (va_up F r (some k) q)) hd bl (fun j => nI (RS j)) (nI (xs)) (nI (ys)) (fun j => nI (va_up RC yc r j)) (nI (xc)) (nI (yc + 1))) := x_D ha _ rfl
    exact w_vret (RS, ys, va_up RC yc r, yc + 1) hx hb hr hlocks hS hP (rt_se_f c_12).symm d_S_settle_34
  · refine lv_aload_n hx hb d_S_settle_15 rfl (lv_at hl 0 rfl) ?_
    refine va_get (D := D) (ci := 2) (v := .ref (a 6)) (C := rn_S) (T := tf_S) (N := 5) hx hb hts in_S hown hK hP 4 rfl rfl 1 (by decide) (hts _ k_fieldLink_rn_S_22_rn_S_straights_LRouteTracks_Queue) (fun _ h9 => h9) rfl d_S_settle_16 ?_
    refine lv_iload_n hx hb d_S_settle_19 rfl (lv_at hl 2 rfl) ?_
    refine w_cv (As := [.int (nI (r))]) (rest := []) ⟨hx, hb, hml, hown, hts⟩ (c_Q_add_s l D cI cZ g a ha w h Q (fun q => rt_o (va_up F r (some k) q)) hd bl (fun j => nI (RS j)) (nI (xs)) (nI (ys)) (fun j => nI (RC j)) (nI (xc)) (nI (yc)) RS xs ys r hG (hcS c_12)) (cwV 1 hts (t_gV k_methodLink_rn_S_85_y_Q_add k_instanceMethod_y_Q_add k_selects_rn_Q_y_Q_add_y_Q_add k_initialized_rn_Q k_code_y_Q_add_prog_2_method_4_code_2_none) rfl rfl rfl (by decide +kernel) ⟨Nat.le_of_ble_eq_true rfl, Nat.le_of_ble_eq_true rfl⟩) (va_recv hK hP (ci := 0) (q0 := 6) rfl rfl) hP hK hZ hS rfl hl.1 rfl (Nat.le_of_ble_eq_true rfl) d_S_settle_20 ⟨Nat.zero_le _, Nat.zero_le _⟩ (fun u_20 H locs hw hP hS => ?_)
    have hP : va_P D vwCl (xw cI a w h Q (fun q => rt_o (va_up F r (some k) q)) hd bl (fun j => nI (va_up RS ys r j)) (nI (xs)) (nI (ys + 1)) (fun j => nI (RC j)) (nI (xc)) (nI (yc))) H := hP
    have hD : va_D (xA a) (xw cI a w h Q (fun q => rt_o (va_up F r (some k) q)) hd bl (fun j => nI (va_up RS ys r j)) (nI (xs)) (nI (ys + 1)) (fun j => nI (RC j)) (nI (xc)) (nI (yc))) := x_D ha _ rfl
    refine lv_goto (tgt := 34) hx hb d_S_settle_23 (by decide) ?_
    exact w_vret (va_up RS ys r, ys + 1, RC, yc) hx hb hr hlocks hS hP (rt_se_t c_12).symm d_S_settle_34

set_option maxHeartbeats 4000000 in
set_option maxRecDepth 100000 in
theorem c_S_settleTargets (l : Launch) (D : va_G) (cI cZ : ClassId) (g a : Nat → Nat) (ha : xI a) (w h : Nat) (Q : Nat → Nat) (ff : Nat → Int32) (hd bl : Int32) (rs : Nat → Int32) (hs ts : Int32) (rc : Nat → Int32) (hc tc : Int32) (RS RC : Nat → Nat) (z : Nat) (hG : rt_G w h Q) (hz : z < 8) : Met l y_S_settleTargets (.code y_S_settleTargets b_S_settleTargets 5 none :: tG) ({ frames := 4, cells := 0, slots := 0, locals := 88 }) (va_Pc [.ref (a 4), .ref (a 1), .int (nI (z))] (wU D cI cZ g (xA a) (xw cI a w h Q (fun r9 => rt_o ((fun _ => none) r9)) hd bl (fun j => nI (RS j)) (nI (0)) (nI (0)) (fun j => nI (RC j)) (nI (0)) (nI (0))))) (va_Qv (S := ((Nat → Option Nat) × (Nat → Nat) × Nat × (Nat → Nat) × Nat)) (fun u => rt_cT Q w h z u.1 u.2.1 u.2.2.1 u.2.2.2.1 u.2.2.2.2 (12 * (w * h))) (wB D (fun (u : ((Nat → Option Nat) × (Nat → Nat) × Nat × (Nat → Nat) × Nat)) => (xw cI a w h Q (fun r9 => rt_o (u.1 r9)) hd bl (fun j => nI (u.2.1 j)) (nI (0)) (nI (u.2.2.1)) (fun j => nI (u.2.2.2.1 j)) (nI (0)) (nI (u.2.2.2.2))))) (xA a)) 0 0 (xA a) := by
  refine Met.ofW (cc := b_S_settleTargets) (maxL := 5) (ret := none) (by decide) rfl ?_
  intro p e s m args below meth c s₁ BD9 hml hv
  obtain ⟨rfl, hP, hK, hZ⟩ := hv
  have hx := BD9.exec
  have hb := BD9.bytes
  have hr := BD9.returns
  have hts : ∀ w ∈ tG, w.before _ s = true := fun w hw => atoms_spec (ws := .code y_S_settleTargets b_S_settleTargets 5 none :: tG) BD9.pre w (List.mem_cons_of_mem _ hw)
  have hown : s.vm.findClass rn_S = some m.cls := findClass_of_methodNamed BD9.named
  have hlocks := BD9.notSynchronized
  have hS : va_S (xA a) s.heap s.heap [] := va_S.rf
  have hD : va_D (xA a) (xw cI a w h Q (fun r9 => rt_o ((fun _ => none) r9)) hd bl (fun j => nI (RS j)) (nI (0)) (nI (0)) (fun j => nI (RC j)) (nI (0)) (nI (0))) := x_D ha _ rfl
  have hP : va_P D vwCl (xw cI a w h Q (fun r9 => rt_o ((fun _ => none) r9)) hd bl (fun j => nI (RS j)) (nI (0)) (nI (0)) (fun j => nI (RC j)) (nI (0)) (nI (0))) s.heap := hP
  have hl := lv_entry ([.ref (a 4), .ref (a 1), .int (nI (z))]) (n := 5) (Nat.le_of_ble_eq_true rfl)
  rw [lg_entry_eq]
  generalize (lg_sl ([.ref (a 4), .ref (a 1), .int (nI (z))]) ++ List.replicate (5 - (lg_sl ([.ref (a 4), .ref (a 1), .int (nI (z))])).length) Slot.unset).toArray = ls at hl ⊢
  have hl : lv_has ls 5 [(0, .ref (a 4)), (1, .ref (a 1)), (2, .int (nI (z)))] := hl
  obtain ⟨hn1, hn⟩ := hG.n
  have hw0 : 0 < w := by have := hG.1.1; omega
  have hQ := hG.2.2
  refine lv_iconst (v := (nI (0))) hx hb d_S_settleTargets_0 (by decide) ?_
  refine lv_istore_n (lv' := [(3, .int (nI (0))), (0, .ref (a 4)), (1, .ref (a 1)), (2, .int (nI (z)))]) hx hb d_S_settleTargets_1 rfl hl (by decide) rfl (fun ls hl => ?_)
  have LP_2 : ∀ (n_2 : Nat) (k : Nat) (F : Nat → Option Nat) (RS : Nat → Nat) (ys : Nat) (RC : Nat → Nat) (yc : Nat), k + n_2 = 6 * (w * h) → (rt_cT Q w h z F RS ys RC yc (2 * k)) → ∀ (H : Heap) (locs : List Loc) (ls : Array Slot), va_P D vwCl (xw cI a w h Q (fun r9 => rt_o (F r9)) hd bl (fun j => nI (RS j)) (nI (0)) (nI (ys)) (fun j => nI (RC j)) (nI (0)) (nI (yc))) H → va_S (xA a) s.heap H locs → lv_has ls 5 [(0, .ref (a 4)), (1, .ref (a 1)), (2, .int (nI (z))), (3, .int (nI (k)))] → W p l e (headSpec (.code y_S_settleTargets b_S_settleTargets 5 none :: tG) ({ frames := 4, cells := 0, slots := 0, locals := 88 })).room s m ([.ref (a 4), .ref (a 1), .int (nI (z))] : List Value).toArray below meth c H locs 0 0 (MQ below (va_Qv (S := ((Nat → Option Nat) × (Nat → Nat) × Nat × (Nat → Nat) × Nat)) (fun u => rt_cT Q w h z u.1 u.2.1 u.2.2.1 u.2.2.2.1 u.2.2.2.2 (12 * (w * h))) (wB D (fun (u : ((Nat → Option Nat) × (Nat → Nat) × Nat × (Nat → Nat) × Nat)) => (xw cI a w h Q (fun r9 => rt_o (u.1 r9)) hd bl (fun j => nI (u.2.1 j)) (nI (0)) (nI (u.2.2.1)) (fun j => nI (u.2.2.2.1 j)) (nI (0)) (nI (u.2.2.2.2))))) (xA a)) ([.ref (a 4), .ref (a 1), .int (nI (z))] : List Value).toArray s 0 0 (xA a)) (F0 m 2 ls []) := by
    intro n_2
    induction n_2 with
    | zero =>
      intro k F RS ys RC yc hrel_2 hI H locs ls hP hS hl
      have hD : va_D (xA a) (xw cI a w h Q (fun r9 => rt_o (F r9)) hd bl (fun j => nI (RS j)) (nI (0)) (nI (ys)) (fun j => nI (RC j)) (nI (0)) (nI (yc))) := x_D ha _ rfl
      refine lv_iload_n hx hb d_S_settleTargets_2 rfl (lv_at hl 3 rfl) ?_
      refine lv_aload_n hx hb d_S_settleTargets_3 rfl (lv_at hl 1 rfl) ?_
      refine va_get (D := D) (ci := 1) (v := .ref (a 3)) (C := rn_A) (T := tf_A) (N := 2) hx hb hts in_A hown hK hP 1 rfl rfl 1 (by decide) (hts _ k_fieldLink_rn_S_42_rn_A_pieces_I) (fun _ h9 => h9) rfl d_S_settleTargets_4 ?_
      refine va_alen (v := nI (6 * (w * h))) hx hb hK hP 3 0 rfl rfl rfl d_S_settleTargets_7 ?_
      refine rw_cge (tgt := 77) hx hb d_S_settleTargets_8 (by decide) (by omega) (by omega) (fun c_8 => ?_) (fun c_8 => ?_)
      · obtain rfl : k = 6 * (w * h) := by omega
        exact w_vret (F, RS, ys, RC, yc) hx hb hr hlocks hS hP (by rw [show 2 * (6 * (w * h)) = 12 * (w * h) by omega] at hI; exact hI) d_S_settleTargets_77
      · omega
    | succ n_2 ih_2 =>
      intro k F RS ys RC yc hrel_2 hI H locs ls hP hS hl
      have hD : va_D (xA a) (xw cI a w h Q (fun r9 => rt_o (F r9)) hd bl (fun j => nI (RS j)) (nI (0)) (nI (ys)) (fun j => nI (RC j)) (nI (0)) (nI (yc))) := x_D ha _ rfl
      refine lv_iload_n hx hb d_S_settleTargets_2 rfl (lv_at hl 3 rfl) ?_
      refine lv_aload_n hx hb d_S_settleTargets_3 rfl (lv_at hl 1 rfl) ?_
      refine va_get (D := D) (ci := 1) (v := .ref (a 3)) (C := rn_A) (T := tf_A) (N := 2) hx hb hts in_A hown hK hP 1 rfl rfl 1 (by decide) (hts _ k_fieldLink_rn_S_42_rn_A_pieces_I) (fun _ h9 => h9) rfl d_S_settleTargets_4 ?_
      refine va_alen (v := nI (6 * (w * h))) hx hb hK hP 3 0 rfl rfl rfl d_S_settleTargets_7 ?_
      refine rw_cge (tgt := 77) hx hb d_S_settleTargets_8 (by decide) (by omega) (by omega) (fun c_8 => ?_) (fun c_8 => ?_)
      · omega
      · refine lv_aload_n hx hb d_S_settleTargets_11 rfl (lv_at hl 1 rfl) ?_
        refine lv_iload_n hx hb d_S_settleTargets_12 rfl (lv_at hl 3 rfl) ?_
        refine w_ci (As := [.int (nI (k))]) (rest := []) ⟨hx, hb, hml, hown, hts⟩ (c_A_stationOf l D cI cZ g a ha w h Q (fun r9 => rt_o (F r9)) hd bl (fun j => nI (RS j)) (nI (0)) (nI (ys)) (fun j => nI (RC j)) (nI (0)) (nI (yc)) k hG (by omega)) (cwV 1 hts (t_gV k_methodLink_rn_S_97_y_A_stationOf k_instanceMethod_y_A_stationOf k_selects_rn_A_y_A_stationOf_y_A_stationOf k_initialized_rn_A k_code_y_A_stationOf_prog_3_method_7_code_2_some_int) rfl rfl rfl (by decide +kernel) ⟨Nat.le_of_ble_eq_true rfl, Nat.le_of_ble_eq_true rfl⟩) (va_recv hK hP (ci := 1) (q0 := 1) rfl rfl) hP hK hZ hS rfl hl.1 rfl (Nat.le_of_ble_eq_true rfl) d_S_settleTargets_13 ⟨Nat.zero_le _, Nat.zero_le _⟩ (fun r_13 u_13 H locs hw hP hS => ?_)
        subst hw
        have hP : va_P D vwCl (xw cI a w h Q (fun r9 => rt_o (F r9)) hd bl (fun j => nI (RS j)) (nI (0)) (nI (ys)) (fun j => nI (RC j)) (nI (0)) (nI (yc))) H := hP
        refine lv_iload_n hx hb d_S_settleTargets_16 rfl (lv_at hl 2 rfl) ?_
        refine lv_icmp_eq (tgt := 23) hx hb d_S_settleTargets_17 (by decide) (fun c_17 => ?_) (fun c_17 => ?_)
        · refine lv_iconst (v := (nI (2))) hx hb d_S_settleTargets_23 (by decide) ?_
          refine lv_iload_n hx hb d_S_settleTargets_24 rfl (lv_at hl 3 rfl) ?_
          refine rw_mul hx hb d_S_settleTargets_25 ?_
          refine lv_istore (lv' := [(4, .int (nI (2 * k))), (0, .ref (a 4)), (1, .ref (a 1)), (2, .int (nI (z))), (3, .int (nI (k)))]) hx hb d_S_settleTargets_26 hl (by decide) rfl (fun ls hl => ?_)
          have LP_28 : ∀ (n_28 : Nat) (r : Nat) (F : Nat → Option Nat) (RS : Nat → Nat) (ys : Nat) (RC : Nat → Nat) (yc : Nat), r + n_28 = 2 * k + 2 → (2 * k ≤ r) → (rt_cT Q w h z F RS ys RC yc r) → ∀ (H : Heap) (locs : List Loc) (ls : Array Slot), va_P D vwCl (xw cI a w h Q (fun r9 => rt_o (F r9)) hd bl (fun j => nI (RS j)) (nI (0)) (nI (ys)) (fun j => nI (RC j)) (nI (0)) (nI (yc))) H → va_S (xA a) s.heap H locs → lv_has ls 5 [(0, .ref (a 4)), (1, .ref (a 1)), (2, .int (nI (z))), (3, .int (nI (k))), (4, .int (nI (r)))] → W p l e (headSpec (.code y_S_settleTargets b_S_settleTargets 5 none :: tG) ({ frames := 4, cells := 0, slots := 0, locals := 88 })).room s m ([.ref (a 4), .ref (a 1), .int (nI (z))] : List Value).toArray below meth c H locs 0 0 (MQ below (va_Qv (S := ((Nat → Option Nat) × (Nat → Nat) × Nat × (Nat → Nat) × Nat)) (fun u => rt_cT Q w h z u.1 u.2.1 u.2.2.1 u.2.2.2.1 u.2.2.2.2 (12 * (w * h))) (wB D (fun (u : ((Nat → Option Nat) × (Nat → Nat) × Nat × (Nat → Nat) × Nat)) => (xw cI a w h Q (fun r9 => rt_o (u.1 r9)) hd bl (fun j => nI (u.2.1 j)) (nI (0)) (nI (u.2.2.1)) (fun j => nI (u.2.2.2.1 j)) (nI (0)) (nI (u.2.2.2.2))))) (xA a)) ([.ref (a 4), .ref (a 1), .int (nI (z))] : List Value).toArray s 0 0 (xA a)) (F0 m 28 ls []) := by
            intro n_28
            induction n_28 with
            | zero =>
              intro r F RS ys RC yc hrel_28 hr1 hI2 H locs ls hP hS hl
              have hD : va_D (xA a) (xw cI a w h Q (fun r9 => rt_o (F r9)) hd bl (fun j => nI (RS j)) (nI (0)) (nI (ys)) (fun j => nI (RC j)) (nI (0)) (nI (yc))) := x_D ha _ rfl
              refine lv_iload hx hb d_S_settleTargets_28 (lv_at hl 4 rfl) ?_
              refine lv_iconst (v := (nI (2))) hx hb d_S_settleTargets_30 (by decide) ?_
              refine lv_iload_n hx hb d_S_settleTargets_31 rfl (lv_at hl 3 rfl) ?_
              refine rw_mul hx hb d_S_settleTargets_32 ?_
              refine lv_iconst (v := (nI (1))) hx hb d_S_settleTargets_33 (by decide) ?_
              refine rw_add hx hb d_S_settleTargets_34 ?_
              refine rw_cgt (tgt := 71) hx hb d_S_settleTargets_35 (by decide) (by omega) (by omega) (fun c_35 => ?_) (fun c_35 => ?_)
              · refine lv_iinc (v := (nI (k + 1))) (lv' := [(3, .int (nI (k + 1))), (0, .ref (a 4)), (1, .ref (a 1)), (2, .int (nI (z))), (4, .int (nI (r)))]) hx hb d_S_settleTargets_71 hl (k := 3) rfl (nI_add _ _) (by decide) rfl (fun ls hl => ?_)
                refine lv_goto (tgt := 2) hx hb d_S_settleTargets_74 (by decide) ?_
                exact ih_2 (k + 1) F RS ys RC yc (by omega) (by rw [show 2 * (k + 1) = r by omega]; exact hI2) _ _ _ hP hS (lv_sub hl [1, 2, 3, 0] rfl)
              · omega
            | succ n_28 ih_28 =>
              intro r F RS ys RC yc hrel_28 hr1 hI2 H locs ls hP hS hl
              have hD : va_D (xA a) (xw cI a w h Q (fun r9 => rt_o (F r9)) hd bl (fun j => nI (RS j)) (nI (0)) (nI (ys)) (fun j => nI (RC j)) (nI (0)) (nI (yc))) := x_D ha _ rfl
              refine lv_iload hx hb d_S_settleTargets_28 (lv_at hl 4 rfl) ?_
              refine lv_iconst (v := (nI (2))) hx hb d_S_settleTargets_30 (by decide) ?_
              refine lv_iload_n hx hb d_S_settleTargets_31 rfl (lv_at hl 3 rfl) ?_
              refine rw_mul hx hb d_S_settleTargets_32 ?_
              refine lv_iconst (v := (nI (1))) hx hb d_S_settleTargets_33 (by decide) ?_
              refine rw_add hx hb d_S_settleTargets_34 ?_
              refine rw_cgt (tgt := 71) hx hb d_S_settleTargets_35 (by decide) (by omega) (by omega) (fun c_35 => ?_) (fun c_35 => ?_)
              · omega
              · refine lv_aload_n hx hb d_S_settleTargets_38 rfl (lv_at hl 1 rfl) ?_
                refine lv_iload hx hb d_S_settleTargets_39 (lv_at hl 4 rfl) ?_
                refine w_ci (As := [.int (nI (r))]) (rest := []) ⟨hx, hb, hml, hown, hts⟩ (c_A_isOpen l D cI cZ g a ha w h Q (fun r9 => rt_o (F r9)) hd bl (fun j => nI (RS j)) (nI (0)) (nI (ys)) (fun j => nI (RC j)) (nI (0)) (nI (yc)) (nI r) hG) (cwV 1 hts (t_gV k_methodLink_rn_S_101_y_A_isOpen k_instanceMethod_y_A_isOpen k_selects_rn_A_y_A_isOpen_y_A_isOpen k_initialized_rn_A k_code_y_A_isOpen_prog_3_method_11_code_2_some_boolean) rfl rfl rfl (by decide +kernel) ⟨Nat.le_of_ble_eq_true rfl, Nat.le_of_ble_eq_true rfl⟩) (va_recv hK hP (ci := 1) (q0 := 1) rfl rfl) hP hK hZ hS rfl hl.1 rfl (Nat.le_of_ble_eq_true rfl) d_S_settleTargets_41 ⟨Nat.zero_le _, Nat.zero_le _⟩ (fun r_41 u_41 H locs hw hP hS => ?_)
                subst hw
                have hP : va_P D vwCl (xw cI a w h Q (fun r9 => rt_o (F r9)) hd bl (fun j => nI (RS j)) (nI (0)) (nI (ys)) (fun j => nI (RC j)) (nI (0)) (nI (yc))) H := hP
                rw [rt_opx_s (by omega) (by omega)]
                refine rw_beq (tgt := 65) hx hb d_S_settleTargets_44 (by decide) (fun c_44 => ?_) (fun c_44 => ?_)
                · refine lv_iinc (v := (nI (r + 1))) (lv' := [(4, .int (nI (r + 1))), (0, .ref (a 4)), (1, .ref (a 1)), (2, .int (nI (z))), (3, .int (nI (k)))]) hx hb d_S_settleTargets_65 hl (k := 4) rfl (nI_add _ _) (by decide) rfl (fun ls hl => ?_)
                  refine lv_goto (tgt := 28) hx hb d_S_settleTargets_68 (by decide) ?_
                  exact ih_28 (r + 1) F RS ys RC yc (by omega) (by omega) (rt_cT_skip hI2 (by omega) (fun q h1 h2 => by rw [show q = r by omega, rt_la_tg]; simp_all)) _ _ _ hP hS (lv_sub hl [1, 2, 3, 4, 0] rfl)
                · refine lv_aload_n hx hb d_S_settleTargets_47 rfl (lv_at hl 1 rfl) ?_
                  refine lv_iload hx hb d_S_settleTargets_48 (lv_at hl 4 rfl) ?_
                  refine lv_iload_n hx hb d_S_settleTargets_50 rfl (lv_at hl 2 rfl) ?_
                  refine w_ci (As := [.int (nI (r)), .int (nI (z))]) (rest := []) ⟨hx, hb, hml, hown, hts⟩ (c_A_isLastOf l D cI cZ g a ha w h Q (fun r9 => rt_o (F r9)) hd bl (fun j => nI (RS j)) (nI (0)) (nI (ys)) (fun j => nI (RC j)) (nI (0)) (nI (yc)) r z hG (by omega) hz) (cwV 2 hts (t_gV k_methodLink_rn_S_104_y_A_isLastOf k_instanceMethod_y_A_isLastOf k_selects_rn_A_y_A_isLastOf_y_A_isLastOf k_initialized_rn_A k_code_y_A_isLastOf_prog_3_method_16_code_5_some_boolean) rfl rfl rfl (by decide +kernel) ⟨Nat.le_of_ble_eq_true rfl, Nat.le_of_ble_eq_true rfl⟩) (va_recv hK hP (ci := 1) (q0 := 1) rfl rfl) hP hK hZ hS rfl hl.1 rfl (Nat.le_of_ble_eq_true rfl) d_S_settleTargets_51 ⟨Nat.zero_le _, Nat.zero_le _⟩ (fun r_51 u_51 H locs hw hP hS => ?_)
                  subst hw
                  have hP : va_P D vwCl (xw cI a w h Q (fun r9 => rt_o (F r9)) hd bl (fun j => nI (RS j)) (nI (0)) (nI (ys)) (fun j => nI (RC j)) (nI (0)) (nI (yc))) H := hP
                  refine rw_beq (tgt := 65) hx hb d_S_settleTargets_54 (by decide) (fun c_54 => ?_) (fun c_54 => ?_)
                  · refine lv_iinc (v := (nI (r + 1))) (lv' := [(4, .int (nI (r + 1))), (0, .ref (a 4)), (1, .ref (a 1)), (2, .int (nI (z))), (3, .int (nI (k)))]) hx hb d_S_settleTargets_65 hl (k := 4) rfl (nI_add _ _) (by decide) rfl (fun ls hl => ?_)
                    refine lv_goto (tgt := 28) hx hb d_S_settleTargets_68 (by decide) ?_
                    exact ih_28 (r + 1) F RS ys RC yc (by omega) (by omega) (rt_cT_skip hI2 (by omega) (fun q h1 h2 => by rw [show q = r by omega, rt_la_tg]; simp_all)) _ _ _ hP hS (lv_sub hl [1, 2, 3, 4, 0] rfl)
                  · have hse := rt_cT_se hI2 (by rw [rt_la_tg, c_44, c_54]; rfl)
                    refine lv_aload_n hx hb d_S_settleTargets_57 rfl (lv_at hl 0 rfl) ?_
                    refine lv_aload_n hx hb d_S_settleTargets_58 rfl (lv_at hl 1 rfl) ?_
                    refine lv_iload hx hb d_S_settleTargets_59 (lv_at hl 4 rfl) ?_
                    refine lv_iconst (v := (nI (0))) hx hb d_S_settleTargets_61 (by decide) ?_
                    refine w_cv (As := [.ref (a 1), .int (nI (r)), .int (nI (0))]) (rest := []) ⟨hx, hb, hml, hown, hts⟩ (c_S_settle l D cI cZ g a ha w h Q (fun r9 => rt_o (F r9)) hd bl (fun j => nI (RS j)) (nI (0)) (nI (ys)) (fun j => nI (RC j)) (nI (0)) (nI (yc)) F RS 0 ys RC 0 yc r 0 hG (by omega) hse.2.1 hse.2.2) (cwV 3 hts (t_gV k_methodLink_rn_S_108_y_S_settle k_instanceMethod_y_S_settle k_selects_rn_S_y_S_settle_y_S_settle k_initialized_rn_S k_code_y_S_settle_prog_4_method_11_code_4_none) rfl rfl rfl (by decide +kernel) ⟨Nat.le_of_ble_eq_true rfl, Nat.le_of_ble_eq_true rfl⟩) (va_recv hK hP (ci := 2) (q0 := 4) rfl rfl) hP hK hZ hS rfl hl.1 rfl (Nat.le_of_ble_eq_true rfl) d_S_settleTargets_62 ⟨Nat.zero_le _, Nat.zero_le _⟩ (fun u_62 H locs hw hP hS => ?_)
                    have hse := hse.1
                    rw [← hw] at hse
                    obtain ⟨RS1, ys1, RC1, yc1⟩ := u_62
                    have hP : va_P D vwCl (xw cI a w h Q (fun r9 => rt_o (va_up F r (some 0) r9)) hd bl (fun j => nI (RS1 j)) (nI (0)) (nI (ys1)) (fun j => nI (RC1 j)) (nI (0)) (nI (yc1))) H := hP
                    have hD : va_D (xA a) (xw cI a w h Q (fun r9 => rt_o (va_up F r (some 0) r9)) hd bl (fun j => nI (RS1 j)) (nI (0)) (nI (ys1)) (fun j => nI (RC1 j)) (nI (0)) (nI (yc1))) := x_D ha _ rfl
                    refine lv_iinc (v := (nI (r + 1))) (lv' := [(4, .int (nI (r + 1))), (0, .ref (a 4)), (1, .ref (a 1)), (2, .int (nI (z))), (3, .int (nI (k)))]) hx hb d_S_settleTargets_65 hl (k := 4) rfl (nI_add _ _) (by decide) rfl (fun ls hl => ?_)
                    refine lv_goto (tgt := 28) hx hb d_S_settleTargets_68 (by decide) ?_
                    exact ih_28 (r + 1) _ RS1 ys1 RC1 yc1 (by omega) (by omega) hse _ _ _ hP hS (lv_sub hl [1, 2, 3, 4, 0] rfl)
          exact LP_28 2 (2 * k) F RS ys RC yc (by omega) (by omega) hI _ _ _ hP hS (lv_sub hl [1, 2, 3, 4, 0] rfl)
        · have hT : rt_cT Q w h z F RS ys RC yc (2 * (k + 1)) := rt_cT_skip hI (by omega) (fun q h1 h2 => by rw [rt_la_tg, rt_la_f (fun e => c_17 (rt_st_mk (by rw [show q / 2 = k by omega] at e; exact e))), Bool.and_false])
          refine lv_goto (tgt := 71) hx hb d_S_settleTargets_20 (by decide) ?_
          refine lv_iinc (v := (nI (k + 1))) (lv' := [(3, .int (nI (k + 1))), (0, .ref (a 4)), (1, .ref (a 1)), (2, .int (nI (z)))]) hx hb d_S_settleTargets_71 hl (k := 3) rfl (nI_add _ _) (by decide) rfl (fun ls hl => ?_)
          refine lv_goto (tgt := 2) hx hb d_S_settleTargets_74 (by decide) ?_
          exact ih_2 (k + 1) F RS ys RC yc (by omega) hT _ _ _ hP hS (lv_sub hl [1, 2, 3, 0] rfl)
  exact LP_2 (6 * (w * h)) 0 _ RS 0 RC 0 (by omega) (rt_cT_0 Q w h z RS RC) _ _ _ hP hS (lv_sub hl [1, 2, 3, 0] rfl)

set_option maxHeartbeats 4000000 in
set_option maxRecDepth 100000 in
theorem c_S_settleBehind (l : Launch) (D : va_G) (cI cZ : ClassId) (g a : Nat → Nat) (ha : xI a) (w h : Nat) (Q : Nat → Nat) (ff : Nat → Int32) (hd bl : Int32) (rs : Nat → Int32) (hs ts : Int32) (rc : Nat → Int32) (hc tc : Int32) (F : Nat → Option Nat) (RS : Nat → Nat) (xs ys : Nat) (RC : Nat → Nat) (xc yc : Nat) (z M f k : Nat) (hG : rt_G w h Q) (hI : rt_cS Q w h z F RS xs ys RC xc yc M f k 0) (hM : M ≤ 100000) : Met l y_S_settleBehind (.code y_S_settleBehind b_S_settleBehind 6 none :: tG) ({ frames := 3, cells := 0, slots := 0, locals := 64 }) (va_Pc [.ref (a 4), .ref (a 1), .int (nI (f))] (wU D cI cZ g (xA a) (xw cI a w h Q (fun r9 => rt_o (F r9)) hd bl (fun j => nI (RS j)) (nI (xs)) (nI (ys)) (fun j => nI (RC j)) (nI (xc)) (nI (yc))))) (va_Qv (S := ((Nat → Option Nat) × (Nat → Nat) × Nat × (Nat → Nat) × Nat)) (fun u => rt_cI Q w h z u.1 u.2.1 xs u.2.2.1 u.2.2.2.1 xc u.2.2.2.2 M (fun _ => True) (fun _ _ => False)) (wB D (fun (u : ((Nat → Option Nat) × (Nat → Nat) × Nat × (Nat → Nat) × Nat)) => (xw cI a w h Q (fun r9 => rt_o (u.1 r9)) hd bl (fun j => nI (u.2.1 j)) (nI (xs)) (nI (u.2.2.1)) (fun j => nI (u.2.2.2.1 j)) (nI (xc)) (nI (u.2.2.2.2))))) (xA a)) 0 0 (xA a) := by
  refine Met.ofW (cc := b_S_settleBehind) (maxL := 6) (ret := none) (by decide) rfl ?_
  intro p e s m args below meth c s₁ BD9 hml hv
  obtain ⟨rfl, hP, hK, hZ⟩ := hv
  have hx := BD9.exec
  have hb := BD9.bytes
  have hr := BD9.returns
  have hts : ∀ w ∈ tG, w.before _ s = true := fun w hw => atoms_spec (ws := .code y_S_settleBehind b_S_settleBehind 6 none :: tG) BD9.pre w (List.mem_cons_of_mem _ hw)
  have hown : s.vm.findClass rn_S = some m.cls := findClass_of_methodNamed BD9.named
  have hlocks := BD9.notSynchronized
  have hS : va_S (xA a) s.heap s.heap [] := va_S.rf
  have hD : va_D (xA a) (xw cI a w h Q (fun r9 => rt_o (F r9)) hd bl (fun j => nI (RS j)) (nI (xs)) (nI (ys)) (fun j => nI (RC j)) (nI (xc)) (nI (yc))) := x_D ha _ rfl
  have hP : va_P D vwCl (xw cI a w h Q (fun r9 => rt_o (F r9)) hd bl (fun j => nI (RS j)) (nI (xs)) (nI (ys)) (fun j => nI (RC j)) (nI (xc)) (nI (yc))) s.heap := hP
  have hl := lv_entry ([.ref (a 4), .ref (a 1), .int (nI (f))]) (n := 6) (Nat.le_of_ble_eq_true rfl)
  rw [lg_entry_eq]
  generalize (lg_sl ([.ref (a 4), .ref (a 1), .int (nI (f))]) ++ List.replicate (6 - (lg_sl ([.ref (a 4), .ref (a 1), .int (nI (f))])).length) Slot.unset).toArray = ls at hl ⊢
  have hl : lv_has ls 6 [(0, .ref (a 4)), (1, .ref (a 1)), (2, .int (nI (f)))] := hl
  obtain ⟨hn1, hn⟩ := hG.n
  have hw0 : 0 < w := by have := hG.1.1; omega
  have hQ := hG.2.2
  have hf0 : f < 12 * (w * h) := rt_cI_op hI.1 f k hI.2.1
  have hln := rt_ln_in f
  refine lv_aload_n hx hb d_S_settleBehind_0 rfl (lv_at hl 0 rfl) ?_
  refine va_get (D := D) (ci := 2) (v := .ref (a 5)) (C := rn_S) (T := tf_S) (N := 5) hx hb hts in_S hown hK hP 4 rfl rfl 0 (by decide) (hts _ k_fieldLink_rn_S_11_rn_S_found_I) (fun _ h9 => h9) rfl d_S_settleBehind_1 ?_
  refine lv_iload_n hx hb d_S_settleBehind_4 rfl (lv_at hl 2 rfl) ?_
  refine rw_iald (v := (nI (k))) hx hb hK hP 5 0 rfl rfl (hf0) (by omega) (by show rt_o (F f) = _; rw [hI.2.1]; rfl) d_S_settleBehind_5 ?_
  refine lv_aload_n hx hb d_S_settleBehind_6 rfl (lv_at hl 1 rfl) ?_
  refine lv_iload_n hx hb d_S_settleBehind_7 rfl (lv_at hl 2 rfl) ?_
  refine w_ci (As := [.int (nI (f))]) (rest := [.int (nI (k))]) ⟨hx, hb, hml, hown, hts⟩ (c_A_lengthOf l D cI cZ g a ha w h Q (fun r9 => rt_o (F r9)) hd bl (fun j => nI (RS j)) (nI (xs)) (nI (ys)) (fun j => nI (RC j)) (nI (xc)) (nI (yc)) f hG hf0) (cwV 1 hts (t_gV k_methodLink_rn_S_111_y_A_lengthOf k_instanceMethod_y_A_lengthOf k_selects_rn_A_y_A_lengthOf_y_A_lengthOf k_initialized_rn_A k_code_y_A_lengthOf_prog_3_method_13_code_2_some_int) rfl rfl rfl (by decide +kernel) ⟨Nat.le_of_ble_eq_true rfl, Nat.le_of_ble_eq_true rfl⟩) (va_recv hK hP (ci := 1) (q0 := 1) rfl rfl) hP hK hZ hS rfl hl.1 rfl (Nat.le_of_ble_eq_true rfl) d_S_settleBehind_8 ⟨Nat.zero_le _, Nat.zero_le _⟩ (fun r_8 u_8 H locs hw hP hS => ?_)
  subst hw
  have hP : va_P D vwCl (xw cI a w h Q (fun r9 => rt_o (F r9)) hd bl (fun j => nI (RS j)) (nI (xs)) (nI (ys)) (fun j => nI (RC j)) (nI (xc)) (nI (yc))) H := hP
  refine rw_add hx hb d_S_settleBehind_11 ?_
  refine rw_top (b := M) (by have := hI.2.2; omega) ?_
  refine lv_istore_n (lv' := [(3, .int (nI (M))), (0, .ref (a 4)), (1, .ref (a 1)), (2, .int (nI (f)))]) hx hb d_S_settleBehind_12 rfl hl (by decide) rfl (fun ls hl => ?_)
  refine lv_iconst (v := (nI (0))) hx hb d_S_settleBehind_13 (by decide) ?_
  refine lv_istore (lv' := [(4, .int (nI (0))), (3, .int (nI (M))), (0, .ref (a 4)), (1, .ref (a 1)), (2, .int (nI (f)))]) hx hb d_S_settleBehind_14 hl (by decide) rfl (fun ls hl => ?_)
  have LP_16 : ∀ (n_16 : Nat) (i : Nat) (F : Nat → Option Nat) (RS : Nat → Nat) (ys : Nat) (RC : Nat → Nat) (yc : Nat), i + n_16 = 3 → (rt_cS Q w h z F RS xs ys RC xc yc M f k i) → ∀ (H : Heap) (locs : List Loc) (ls : Array Slot), va_P D vwCl (xw cI a w h Q (fun r9 => rt_o (F r9)) hd bl (fun j => nI (RS j)) (nI (xs)) (nI (ys)) (fun j => nI (RC j)) (nI (xc)) (nI (yc))) H → va_S (xA a) s.heap H locs → lv_has ls 6 [(0, .ref (a 4)), (1, .ref (a 1)), (2, .int (nI (f))), (3, .int (nI (M))), (4, .int (nI (i)))] → W p l e (headSpec (.code y_S_settleBehind b_S_settleBehind 6 none :: tG) ({ frames := 3, cells := 0, slots := 0, locals := 64 })).room s m ([.ref (a 4), .ref (a 1), .int (nI (f))] : List Value).toArray below meth c H locs 0 0 (MQ below (va_Qv (S := ((Nat → Option Nat) × (Nat → Nat) × Nat × (Nat → Nat) × Nat)) (fun u => rt_cI Q w h z u.1 u.2.1 xs u.2.2.1 u.2.2.2.1 xc u.2.2.2.2 M (fun _ => True) (fun _ _ => False)) (wB D (fun (u : ((Nat → Option Nat) × (Nat → Nat) × Nat × (Nat → Nat) × Nat)) => (xw cI a w h Q (fun r9 => rt_o (u.1 r9)) hd bl (fun j => nI (u.2.1 j)) (nI (xs)) (nI (u.2.2.1)) (fun j => nI (u.2.2.2.1 j)) (nI (xc)) (nI (u.2.2.2.2))))) (xA a)) ([.ref (a 4), .ref (a 1), .int (nI (f))] : List Value).toArray s 0 0 (xA a)) (F0 m 16 ls []) := by
    intro n_16
    induction n_16 with
    | zero =>
      intro i F RS ys RC yc hrel_16 hI H locs ls hP hS hl
      have hD : va_D (xA a) (xw cI a w h Q (fun r9 => rt_o (F r9)) hd bl (fun j => nI (RS j)) (nI (xs)) (nI (ys)) (fun j => nI (RC j)) (nI (xc)) (nI (yc))) := x_D ha _ rfl
      refine lv_iload hx hb d_S_settleBehind_16 (lv_at hl 4 rfl) ?_
      refine lv_iconst (v := (nI (3))) hx hb d_S_settleBehind_18 (by decide) ?_
      refine rw_cge (tgt := 65) hx hb d_S_settleBehind_19 (by decide) (by omega) (by omega) (fun c_19 => ?_) (fun c_19 => ?_)
      · exact w_vret (F, RS, ys, RC, yc) hx hb hr hlocks hS hP (rt_cS_end hw0 (by rw [show i = 3 by omega] at hI; exact hI)) d_S_settleBehind_65
      · omega
    | succ n_16 ih_16 =>
      intro i F RS ys RC yc hrel_16 hI H locs ls hP hS hl
      have hD : va_D (xA a) (xw cI a w h Q (fun r9 => rt_o (F r9)) hd bl (fun j => nI (RS j)) (nI (xs)) (nI (ys)) (fun j => nI (RC j)) (nI (xc)) (nI (yc))) := x_D ha _ rfl
      refine lv_iload hx hb d_S_settleBehind_16 (lv_at hl 4 rfl) ?_
      refine lv_iconst (v := (nI (3))) hx hb d_S_settleBehind_18 (by decide) ?_
      refine rw_cge (tgt := 65) hx hb d_S_settleBehind_19 (by decide) (by omega) (by omega) (fun c_19 => ?_) (fun c_19 => ?_)
      · omega
      · refine lv_aload_n hx hb d_S_settleBehind_22 rfl (lv_at hl 1 rfl) ?_
        refine lv_iload_n hx hb d_S_settleBehind_23 rfl (lv_at hl 2 rfl) ?_
        refine lv_iload hx hb d_S_settleBehind_24 (lv_at hl 4 rfl) ?_
        refine w_ci (As := [.int (nI (f)), .int (nI (i))]) (rest := []) ⟨hx, hb, hml, hown, hts⟩ (c_A_behind l D cI cZ g a ha w h Q (fun r9 => rt_o (F r9)) hd bl (fun j => nI (RS j)) (nI (xs)) (nI (ys)) (fun j => nI (RC j)) (nI (xc)) (nI (yc)) f i hG hf0 (by omega)) (cwV 2 hts (t_gV k_methodLink_rn_S_114_y_A_behind k_instanceMethod_y_A_behind k_selects_rn_A_y_A_behind_y_A_behind k_initialized_rn_A k_code_y_A_behind_prog_3_method_15_code_4_some_int) rfl rfl rfl (by decide +kernel) ⟨Nat.le_of_ble_eq_true rfl, Nat.le_of_ble_eq_true rfl⟩) (va_recv hK hP (ci := 1) (q0 := 1) rfl rfl) hP hK hZ hS rfl hl.1 rfl (Nat.le_of_ble_eq_true rfl) d_S_settleBehind_26 ⟨Nat.zero_le _, Nat.zero_le _⟩ (fun r_26 u_26 H locs hw hP hS => ?_)
        subst hw
        have hP : va_P D vwCl (xw cI a w h Q (fun r9 => rt_o (F r9)) hd bl (fun j => nI (RS j)) (nI (xs)) (nI (ys)) (fun j => nI (RC j)) (nI (xc)) (nI (yc))) H := hP
        cases ho_29 : rt_bh w h f i with
        | none =>
          refine lv_istore (lv' := [(5, .int (-1)), (0, .ref (a 4)), (1, .ref (a 1)), (2, .int (nI (f))), (3, .int (nI (M))), (4, .int (nI (i)))]) hx hb d_S_settleBehind_29 hl (by decide) rfl (fun ls hl => ?_)
          refine lv_aload_n hx hb d_S_settleBehind_31 rfl (lv_at hl 2 rfl) ?_
          refine lv_iload hx hb d_S_settleBehind_32 (lv_at hl 0 rfl) ?_
          refine w_ci (As := [.int (-1)]) (rest := []) ⟨hx, hb, hml, hown, hts⟩ (c_A_isOpen l D cI cZ g a ha w h Q (fun r9 => rt_o (F r9)) hd bl (fun j => nI (RS j)) (nI (xs)) (nI (ys)) (fun j => nI (RC j)) (nI (xc)) (nI (yc)) (-1) hG) (cwV 1 hts (t_gV k_methodLink_rn_S_101_y_A_isOpen k_instanceMethod_y_A_isOpen k_selects_rn_A_y_A_isOpen_y_A_isOpen k_initialized_rn_A k_code_y_A_isOpen_prog_3_method_11_code_2_some_boolean) rfl rfl rfl (by decide +kernel) ⟨Nat.le_of_ble_eq_true rfl, Nat.le_of_ble_eq_true rfl⟩) (va_recv hK hP (ci := 1) (q0 := 1) rfl rfl) hP hK hZ hS rfl hl.1 rfl (Nat.le_of_ble_eq_true rfl) d_S_settleBehind_34 ⟨Nat.zero_le _, Nat.zero_le _⟩ (fun r_34 u_34 H locs hw hP hS => ?_)
          subst hw
          have hP : va_P D vwCl (xw cI a w h Q (fun r9 => rt_o (F r9)) hd bl (fun j => nI (RS j)) (nI (xs)) (nI (ys)) (fun j => nI (RC j)) (nI (xc)) (nI (yc))) H := hP
          rw [rt_opx_n (Or.inl (by decide))]
          refine rw_beq (tgt := 59) hx hb d_S_settleBehind_37 (by decide) (fun c_37 => ?_) (fun c_37 => ?_)
          · refine lv_iinc (v := (nI (i + 1))) (lv' := [(4, .int (nI (i + 1))), (5, .int (-1)), (0, .ref (a 4)), (1, .ref (a 1)), (2, .int (nI (f))), (3, .int (nI (M)))]) hx hb d_S_settleBehind_59 hl (k := 5) rfl (nI_add _ _) (by decide) rfl (fun ls hl => ?_)
            refine lv_goto (tgt := 16) hx hb d_S_settleBehind_62 (by decide) ?_
            exact ih_16 (i + 1) F RS ys RC yc (by omega) (rt_cS_skip hI (fun b hb9 _ => by rw [ho_29] at hb9; cases hb9)) _ _ _ hP hS (lv_sub hl [2, 3, 4, 5, 0] rfl)
          · cases c_37
        | some b =>
          have hb9 : b < 12 * (w * h) := rt_bh_lt hw0 hf0 (by omega) ho_29
          refine lv_istore (lv' := [(5, .int (nI (b))), (0, .ref (a 4)), (1, .ref (a 1)), (2, .int (nI (f))), (3, .int (nI (M))), (4, .int (nI (i)))]) hx hb d_S_settleBehind_29 hl (by decide) rfl (fun ls hl => ?_)
          refine lv_aload_n hx hb d_S_settleBehind_31 rfl (lv_at hl 2 rfl) ?_
          refine lv_iload hx hb d_S_settleBehind_32 (lv_at hl 0 rfl) ?_
          refine w_ci (As := [.int (nI (b))]) (rest := []) ⟨hx, hb, hml, hown, hts⟩ (c_A_isOpen l D cI cZ g a ha w h Q (fun r9 => rt_o (F r9)) hd bl (fun j => nI (RS j)) (nI (xs)) (nI (ys)) (fun j => nI (RC j)) (nI (xc)) (nI (yc)) (nI (b)) hG) (cwV 1 hts (t_gV k_methodLink_rn_S_101_y_A_isOpen k_instanceMethod_y_A_isOpen k_selects_rn_A_y_A_isOpen_y_A_isOpen k_initialized_rn_A k_code_y_A_isOpen_prog_3_method_11_code_2_some_boolean) rfl rfl rfl (by decide +kernel) ⟨Nat.le_of_ble_eq_true rfl, Nat.le_of_ble_eq_true rfl⟩) (va_recv hK hP (ci := 1) (q0 := 1) rfl rfl) hP hK hZ hS rfl hl.1 rfl (Nat.le_of_ble_eq_true rfl) d_S_settleBehind_34 ⟨Nat.zero_le _, Nat.zero_le _⟩ (fun r_34 u_34 H locs hw hP hS => ?_)
          subst hw
          have hP : va_P D vwCl (xw cI a w h Q (fun r9 => rt_o (F r9)) hd bl (fun j => nI (RS j)) (nI (xs)) (nI (ys)) (fun j => nI (RC j)) (nI (xc)) (nI (yc))) H := hP
          rw [rt_opx_s (by omega) hb9]
          refine rw_beq (tgt := 59) hx hb d_S_settleBehind_37 (by decide) (fun c_37 => ?_) (fun c_37 => ?_)
          · refine lv_iinc (v := (nI (i + 1))) (lv' := [(4, .int (nI (i + 1))), (5, .int (nI (b))), (0, .ref (a 4)), (1, .ref (a 1)), (2, .int (nI (f))), (3, .int (nI (M)))]) hx hb d_S_settleBehind_59 hl (k := 5) rfl (nI_add _ _) (by decide) rfl (fun ls hl => ?_)
            refine lv_goto (tgt := 16) hx hb d_S_settleBehind_62 (by decide) ?_
            exact ih_16 (i + 1) F RS ys RC yc (by omega) (rt_cS_skip hI (fun b9 hb9 ho9 => by rw [ho_29] at hb9; cases hb9; rw [c_37] at ho9; cases ho9)) _ _ _ hP hS (lv_sub hl [2, 3, 4, 5, 0] rfl)
          · refine lv_aload_n hx hb d_S_settleBehind_40 rfl (lv_at hl 1 rfl) ?_
            refine va_get (D := D) (ci := 2) (v := .ref (a 5)) (C := rn_S) (T := tf_S) (N := 5) hx hb hts in_S hown hK hP 4 rfl rfl 0 (by decide) (hts _ k_fieldLink_rn_S_11_rn_S_found_I) (fun _ h9 => h9) rfl d_S_settleBehind_41 ?_
            refine lv_iload hx hb d_S_settleBehind_44 (lv_at hl 0 rfl) ?_
            refine rw_iald (v := (rt_o (F b))) hx hb hK hP 5 0 rfl rfl (by omega) (by omega) (rfl) d_S_settleBehind_46 ?_
            cases ho_47 : F b with
            | none =>
              have hse := rt_cS_se hw0 (by omega) hI ho_29 c_37 ho_47
              refine lv_iconst (v := (-1)) hx hb d_S_settleBehind_47 (by decide) ?_
              refine lv_icmp_ne (tgt := 59) hx hb d_S_settleBehind_48 (by decide) (fun c_48 => ?_) (fun c_48 => ?_)
              · exact absurd rfl c_48
              · refine lv_aload_n hx hb d_S_settleBehind_51 rfl (lv_at hl 1 rfl) ?_
                refine lv_aload_n hx hb d_S_settleBehind_52 rfl (lv_at hl 2 rfl) ?_
                refine lv_iload hx hb d_S_settleBehind_53 (lv_at hl 0 rfl) ?_
                refine lv_iload_n hx hb d_S_settleBehind_55 rfl (lv_at hl 4 rfl) ?_
                refine w_cv (As := [.ref (a 1), .int (nI (b)), .int (nI (M))]) (rest := []) ⟨hx, hb, hml, hown, hts⟩ (c_S_settle l D cI cZ g a ha w h Q (fun r9 => rt_o (F r9)) hd bl (fun j => nI (RS j)) (nI (xs)) (nI (ys)) (fun j => nI (RC j)) (nI (xc)) (nI (yc)) F RS xs ys RC xc yc b M hG hb9 hse.2.1 hse.2.2) (cwV 3 hts (t_gV k_methodLink_rn_S_108_y_S_settle k_instanceMethod_y_S_settle k_selects_rn_S_y_S_settle_y_S_settle k_initialized_rn_S k_code_y_S_settle_prog_4_method_11_code_4_none) rfl rfl rfl (by decide +kernel) ⟨Nat.le_of_ble_eq_true rfl, Nat.le_of_ble_eq_true rfl⟩) (va_recv hK hP (ci := 2) (q0 := 4) rfl rfl) hP hK hZ hS rfl hl.1 rfl (Nat.le_of_ble_eq_true rfl) d_S_settleBehind_56 ⟨Nat.zero_le _, Nat.zero_le _⟩ (fun u_56 H locs hw hP hS => ?_)
                have hse := hse.1
                rw [← hw] at hse
                obtain ⟨RS1, ys1, RC1, yc1⟩ := u_56
                have hP : va_P D vwCl (xw cI a w h Q (fun r9 => rt_o (va_up F b (some M) r9)) hd bl (fun j => nI (RS1 j)) (nI (xs)) (nI (ys1)) (fun j => nI (RC1 j)) (nI (xc)) (nI (yc1))) H := hP
                have hD : va_D (xA a) (xw cI a w h Q (fun r9 => rt_o (va_up F b (some M) r9)) hd bl (fun j => nI (RS1 j)) (nI (xs)) (nI (ys1)) (fun j => nI (RC1 j)) (nI (xc)) (nI (yc1))) := x_D ha _ rfl
                refine lv_iinc (v := (nI (i + 1))) (lv' := [(4, .int (nI (i + 1))), (5, .int (nI (b))), (0, .ref (a 4)), (1, .ref (a 1)), (2, .int (nI (f))), (3, .int (nI (M)))]) hx hb d_S_settleBehind_59 hl (k := 5) rfl (nI_add _ _) (by decide) rfl (fun ls hl => ?_)
                refine lv_goto (tgt := 16) hx hb d_S_settleBehind_62 (by decide) ?_
                exact ih_16 (i + 1) _ RS1 ys1 RC1 yc1 (by omega) hse _ _ _ hP hS (lv_sub hl [2, 3, 4, 5, 0] rfl)
            | some q =>
              have hq9 := rt_cI_bd hM hI.1 b q ho_47
              refine lv_iconst (v := (-1)) hx hb d_S_settleBehind_47 (by decide) ?_
              refine lv_icmp_ne (tgt := 59) hx hb d_S_settleBehind_48 (by decide) (fun c_48 => ?_) (fun c_48 => ?_)
              · refine lv_iinc (v := (nI (i + 1))) (lv' := [(4, .int (nI (i + 1))), (5, .int (nI (b))), (0, .ref (a 4)), (1, .ref (a 1)), (2, .int (nI (f))), (3, .int (nI (M)))]) hx hb d_S_settleBehind_59 hl (k := 5) rfl (nI_add _ _) (by decide) rfl (fun ls hl => ?_)
                refine lv_goto (tgt := 16) hx hb d_S_settleBehind_62 (by decide) ?_
                exact ih_16 (i + 1) F RS ys RC yc (by omega) (rt_cS_skip hI (fun b9 hb9 _ => by rw [ho_29] at hb9; cases hb9; exact ⟨_, ho_47⟩)) _ _ _ hP hS (lv_sub hl [2, 3, 4, 5, 0] rfl)
              · exact absurd c_48 (rt_o_ne _ (by omega))
  exact LP_16 3 0 F RS ys RC yc (by omega) hI _ _ _ hP hS (lv_sub hl [2, 3, 4, 1, 0] rfl)

set_option maxHeartbeats 4000000 in
set_option maxRecDepth 100000 in
theorem c_S_takeNearest (l : Launch) (D : va_G) (cI cZ : ClassId) (g a : Nat → Nat) (ha : xI a) (w h : Nat) (Q : Nat → Nat) (ff : Nat → Int32) (hd bl : Int32) (rs : Nat → Int32) (hs ts : Int32) (rc : Nat → Int32) (hc tc : Int32) (F : Nat → Option Nat) (RS : Nat → Nat) (xs ys : Nat) (RC : Nat → Nat) (xc yc : Nat) (z M : Nat) (hG : rt_G w h Q) (hI : rt_cI Q w h z F RS xs ys RC xc yc M (fun _ => True) (fun _ _ => False)) (hM : M ≤ 100000) : Met l y_S_takeNearest (.code y_S_takeNearest b_S_takeNearest 5 (some .int) :: tG) ({ frames := 2, cells := 0, slots := 0, locals := 41 }) (va_Pc [.ref (a 4)] (wU D cI cZ g (xA a) (xw cI a w h Q (fun r9 => rt_o (F r9)) hd bl (fun j => nI (RS j)) (nI (xs)) (nI (ys)) (fun j => nI (RC j)) (nI (xc)) (nI (yc))))) (va_Qi (S := (Nat × Nat)) (fun r u => rt_tn Q w h z F RS xs ys RC xc yc r u.1 u.2) (wB D (fun (u : (Nat × Nat)) => (xw cI a w h Q (fun r9 => rt_o (F r9)) hd bl (fun j => nI (RS j)) (nI (u.1)) (nI (ys)) (fun j => nI (RC j)) (nI (u.2)) (nI (yc))))) (xA a)) 0 0 (xA a) := by
  refine Met.ofW (cc := b_S_takeNearest) (maxL := 5) (ret := (some .int)) (by decide) rfl ?_
  intro p e s m args below meth c s₁ BD9 hml hv
  obtain ⟨rfl, hP, hK, hZ⟩ := hv
  have hx := BD9.exec
  have hb := BD9.bytes
  have hr := BD9.returns
  have hts : ∀ w ∈ tG, w.before _ s = true := fun w hw => atoms_spec (ws := .code y_S_takeNearest b_S_takeNearest 5 (some .int) :: tG) BD9.pre w (List.mem_cons_of_mem _ hw)
  have hown : s.vm.findClass rn_S = some m.cls := findClass_of_methodNamed BD9.named
  have hlocks := BD9.notSynchronized
  have hS : va_S (xA a) s.heap s.heap [] := va_S.rf
  have hD : va_D (xA a) (xw cI a w h Q (fun r9 => rt_o (F r9)) hd bl (fun j => nI (RS j)) (nI (xs)) (nI (ys)) (fun j => nI (RC j)) (nI (xc)) (nI (yc))) := x_D ha _ rfl
  have hP : va_P D vwCl (xw cI a w h Q (fun r9 => rt_o (F r9)) hd bl (fun j => nI (RS j)) (nI (xs)) (nI (ys)) (fun j => nI (RC j)) (nI (xc)) (nI (yc))) s.heap := hP
  have hl := lv_entry ([.ref (a 4)]) (n := 5) (Nat.le_of_ble_eq_true rfl)
  rw [lg_entry_eq]
  generalize (lg_sl ([.ref (a 4)]) ++ List.replicate (5 - (lg_sl ([.ref (a 4)])).length) Slot.unset).toArray = ls at hl ⊢
  have hl : lv_has ls 5 [(0, .ref (a 4))] := hl
  obtain ⟨hn1, hn⟩ := hG.n
  have hw0 : 0 < w := by have := hG.1.1; omega
  have hQ := hG.2.2
  obtain ⟨k1, k2, k3, k4⟩ := rt_cI_caps hI
  refine lv_aload_n hx hb d_S_takeNearest_0 rfl (lv_at hl 0 rfl) ?_
  refine va_get (D := D) (ci := 2) (v := .ref (a 6)) (C := rn_S) (T := tf_S) (N := 5) hx hb hts in_S hown hK hP 4 rfl rfl 1 (by decide) (hts _ k_fieldLink_rn_S_22_rn_S_straights_LRouteTracks_Queue) (fun _ h9 => h9) rfl d_S_takeNearest_1 ?_
  refine w_ci (As := []) (rest := []) ⟨hx, hb, hml, hown, hts⟩ (c_Q_first_s l D cI cZ g a ha w h Q (fun r9 => rt_o (F r9)) hd bl (fun j => nI (RS j)) (nI (xs)) (nI (ys)) (fun j => nI (RC j)) (nI (xc)) (nI (yc)) RS xs ys hG (by omega) (by omega)) (cwV 0 hts (t_gV k_methodLink_rn_S_120_y_Q_first k_instanceMethod_y_Q_first k_selects_rn_Q_y_Q_first_y_Q_first k_initialized_rn_Q k_code_y_Q_first_prog_2_method_5_code_1_some_int) rfl rfl rfl (by decide +kernel) ⟨Nat.le_of_ble_eq_true rfl, Nat.le_of_ble_eq_true rfl⟩) (va_recv hK hP (ci := 0) (q0 := 6) rfl rfl) hP hK hZ hS rfl hl.1 rfl (Nat.le_of_ble_eq_true rfl) d_S_takeNearest_4 ⟨Nat.zero_le _, Nat.zero_le _⟩ (fun r_4 u_4 H locs hw hP hS => ?_)
  subst hw
  have hP : va_P D vwCl (xw cI a w h Q (fun r9 => rt_o (F r9)) hd bl (fun j => nI (RS j)) (nI (xs)) (nI (ys)) (fun j => nI (RC j)) (nI (xc)) (nI (yc))) H := hP
  by_cases s0 : xs < ys
  · rw [if_pos s0]
    obtain ⟨q1, hc1⟩ := rt_cI_hS hI s0
    have hr1 := rt_cI_op hI _ _ hc1
    have hb1 := (hI.2.2.1 _ _ hc1).2
    refine lv_istore_n (lv' := [(1, .int (nI (RS xs))), (0, .ref (a 4))]) hx hb d_S_takeNearest_7 rfl hl (by decide) rfl (fun ls hl => ?_)
    refine lv_aload_n hx hb d_S_takeNearest_8 rfl (lv_at hl 1 rfl) ?_
    refine va_get (D := D) (ci := 2) (v := .ref (a 8)) (C := rn_S) (T := tf_S) (N := 5) hx hb hts in_S hown hK hP 4 rfl rfl 2 (by decide) (hts _ k_fieldLink_rn_S_26_rn_S_curves_LRouteTracks_Queue) (fun _ h9 => h9) rfl d_S_takeNearest_9 ?_
    refine w_ci (As := []) (rest := []) ⟨hx, hb, hml, hown, hts⟩ (c_Q_first_c l D cI cZ g a ha w h Q (fun r9 => rt_o (F r9)) hd bl (fun j => nI (RS j)) (nI (xs)) (nI (ys)) (fun j => nI (RC j)) (nI (xc)) (nI (yc)) RC xc yc hG (by omega) (by omega)) (cwV 0 hts (t_gV k_methodLink_rn_S_120_y_Q_first k_instanceMethod_y_Q_first k_selects_rn_Q_y_Q_first_y_Q_first k_initialized_rn_Q k_code_y_Q_first_prog_2_method_5_code_1_some_int) rfl rfl rfl (by decide +kernel) ⟨Nat.le_of_ble_eq_true rfl, Nat.le_of_ble_eq_true rfl⟩) (va_recv hK hP (ci := 0) (q0 := 8) rfl rfl) hP hK hZ hS rfl hl.1 rfl (Nat.le_of_ble_eq_true rfl) d_S_takeNearest_12 ⟨Nat.zero_le _, Nat.zero_le _⟩ (fun r_12 u_12 H locs hw hP hS => ?_)
    subst hw
    have hP : va_P D vwCl (xw cI a w h Q (fun r9 => rt_o (F r9)) hd bl (fun j => nI (RS j)) (nI (xs)) (nI (ys)) (fun j => nI (RC j)) (nI (xc)) (nI (yc))) H := hP
    by_cases s1 : xc < yc
    · rw [if_pos s1]
      obtain ⟨q2, hc2⟩ := rt_cI_hC hI s1
      have hr2 := rt_cI_op hI _ _ hc2
      have hb2 := (hI.2.2.1 _ _ hc2).2
      refine lv_istore_n (lv' := [(2, .int (nI (RC xc))), (1, .int (nI (RS xs))), (0, .ref (a 4))]) hx hb d_S_takeNearest_15 rfl hl (by decide) rfl (fun ls hl => ?_)
      refine lv_iload_n hx hb d_S_takeNearest_16 rfl (lv_at hl 1 rfl) ?_
      refine lv_iconst (v := (-1)) hx hb d_S_takeNearest_17 (by decide) ?_
      refine lv_icmp_ne (tgt := 29) hx hb d_S_takeNearest_18 (by decide) (fun c_18 => ?_) (fun c_18 => ?_)
      · refine lv_iload_n hx hb d_S_takeNearest_29 rfl (lv_at hl 0 rfl) ?_
        refine lv_iconst (v := (-1)) hx hb d_S_takeNearest_30 (by decide) ?_
        refine lv_icmp_ne (tgt := 42) hx hb d_S_takeNearest_31 (by decide) (fun c_31 => ?_) (fun c_31 => ?_)
        · refine lv_aload_n hx hb d_S_takeNearest_42 rfl (lv_at hl 2 rfl) ?_
          refine va_get (D := D) (ci := 2) (v := .ref (a 5)) (C := rn_S) (T := tf_S) (N := 5) hx hb hts in_S hown hK hP 4 rfl rfl 0 (by decide) (hts _ k_fieldLink_rn_S_11_rn_S_found_I) (fun _ h9 => h9) rfl d_S_takeNearest_43 ?_
          refine lv_iload_n hx hb d_S_takeNearest_46 rfl (lv_at hl 1 rfl) ?_
          refine rw_iald (v := (nI (q1))) hx hb hK hP 5 0 rfl rfl (by omega) (by omega) (by show rt_o (F _) = _; rw [hc1]; rfl) d_S_takeNearest_47 ?_
          refine lv_bipush (v := (nI (16))) hx hb d_S_takeNearest_48 (by decide) ?_
          refine rw_add hx hb d_S_takeNearest_50 ?_
          refine lv_istore_n (lv' := [(3, .int (nI (q1 + 16))), (2, .int (nI (RC xc))), (1, .int (nI (RS xs))), (0, .ref (a 4))]) hx hb d_S_takeNearest_51 rfl hl (by decide) rfl (fun ls hl => ?_)
          refine lv_aload_n hx hb d_S_takeNearest_52 rfl (lv_at hl 3 rfl) ?_
          refine va_get (D := D) (ci := 2) (v := .ref (a 5)) (C := rn_S) (T := tf_S) (N := 5) hx hb hts in_S hown hK hP 4 rfl rfl 0 (by decide) (hts _ k_fieldLink_rn_S_11_rn_S_found_I) (fun _ h9 => h9) rfl d_S_takeNearest_53 ?_
          refine lv_iload_n hx hb d_S_takeNearest_56 rfl (lv_at hl 1 rfl) ?_
          refine rw_iald (v := (nI (q2))) hx hb hK hP 5 0 rfl rfl (by omega) (by omega) (by show rt_o (F _) = _; rw [hc2]; rfl) d_S_takeNearest_57 ?_
          refine lv_bipush (v := (nI (12))) hx hb d_S_takeNearest_58 (by decide) ?_
          refine rw_add hx hb d_S_takeNearest_60 ?_
          refine lv_istore (lv' := [(4, .int (nI (q2 + 12))), (3, .int (nI (q1 + 16))), (2, .int (nI (RC xc))), (1, .int (nI (RS xs))), (0, .ref (a 4))]) hx hb d_S_takeNearest_61 hl (by decide) rfl (fun ls hl => ?_)
          refine lv_iload_n hx hb d_S_takeNearest_63 rfl (lv_at hl 1 rfl) ?_
          refine lv_iload hx hb d_S_takeNearest_64 (lv_at hl 0 rfl) ?_
          refine rw_cgt (tgt := 79) hx hb d_S_takeNearest_66 (by decide) (by omega) (by omega) (fun c_66 => ?_) (fun c_66 => ?_)
          · refine lv_aload_n hx hb d_S_takeNearest_79 rfl (lv_at hl 4 rfl) ?_
            refine va_get (D := D) (ci := 2) (v := .ref (a 8)) (C := rn_S) (T := tf_S) (N := 5) hx hb hts in_S hown hK hP 4 rfl rfl 2 (by decide) (hts _ k_fieldLink_rn_S_26_rn_S_curves_LRouteTracks_Queue) (fun _ h9 => h9) rfl d_S_takeNearest_80 ?_
            refine w_ci (As := []) (rest := []) ⟨hx, hb, hml, hown, hts⟩ (c_Q_take_c l D cI cZ g a ha w h Q (fun r9 => rt_o (F r9)) hd bl (fun j => nI (RS j)) (nI (xs)) (nI (ys)) (fun j => nI (RC j)) (nI (xc)) (nI (yc)) RC xc yc hG (by omega) (by omega)) (cwV 0 hts (t_gV k_methodLink_rn_S_64_y_Q_take k_instanceMethod_y_Q_take k_selects_rn_Q_y_Q_take_y_Q_take k_initialized_rn_Q k_code_y_Q_take_prog_2_method_6_code_2_some_int) rfl rfl rfl (by decide +kernel) ⟨Nat.le_of_ble_eq_true rfl, Nat.le_of_ble_eq_true rfl⟩) (va_recv hK hP (ci := 0) (q0 := 8) rfl rfl) hP hK hZ hS rfl hl.1 rfl (Nat.le_of_ble_eq_true rfl) d_S_takeNearest_83 ⟨Nat.zero_le _, Nat.zero_le _⟩ (fun r_83 u_83 H locs hw hP hS => ?_)
            rw [if_pos s1, if_pos s1] at hw
            obtain ⟨hw1, hw2⟩ := hw
            subst hw1
            rw [hw2] at hP
            have hP : va_P D vwCl (xw cI a w h Q (fun r9 => rt_o (F r9)) hd bl (fun j => nI (RS j)) (nI (xs)) (nI (ys)) (fun j => nI (RC j)) (nI (xc + 1)) (nI (yc))) H := hP
            have hD : va_D (xA a) (xw cI a w h Q (fun r9 => rt_o (F r9)) hd bl (fun j => nI (RS j)) (nI (xs)) (nI (ys)) (fun j => nI (RC j)) (nI (xc + 1)) (nI (yc))) := x_D ha _ rfl
            exact w_iret (xs, xc + 1) hx hb hr hlocks hS hP (rt_tn_C hI s1 hc2 (fun c9 _ h9 => by rw [hc1] at h9; cases h9; omega)) d_S_takeNearest_86
          · refine lv_aload_n hx hb d_S_takeNearest_69 rfl (lv_at hl 4 rfl) ?_
            refine va_get (D := D) (ci := 2) (v := .ref (a 6)) (C := rn_S) (T := tf_S) (N := 5) hx hb hts in_S hown hK hP 4 rfl rfl 1 (by decide) (hts _ k_fieldLink_rn_S_22_rn_S_straights_LRouteTracks_Queue) (fun _ h9 => h9) rfl d_S_takeNearest_70 ?_
            refine w_ci (As := []) (rest := []) ⟨hx, hb, hml, hown, hts⟩ (c_Q_take_s l D cI cZ g a ha w h Q (fun r9 => rt_o (F r9)) hd bl (fun j => nI (RS j)) (nI (xs)) (nI (ys)) (fun j => nI (RC j)) (nI (xc)) (nI (yc)) RS xs ys hG (by omega) (by omega)) (cwV 0 hts (t_gV k_methodLink_rn_S_64_y_Q_take k_instanceMethod_y_Q_take k_selects_rn_Q_y_Q_take_y_Q_take k_initialized_rn_Q k_code_y_Q_take_prog_2_method_6_code_2_some_int) rfl rfl rfl (by decide +kernel) ⟨Nat.le_of_ble_eq_true rfl, Nat.le_of_ble_eq_true rfl⟩) (va_recv hK hP (ci := 0) (q0 := 6) rfl rfl) hP hK hZ hS rfl hl.1 rfl (Nat.le_of_ble_eq_true rfl) d_S_takeNearest_73 ⟨Nat.zero_le _, Nat.zero_le _⟩ (fun r_73 u_73 H locs hw hP hS => ?_)
            rw [if_pos s0, if_pos s0] at hw
            obtain ⟨hw1, hw2⟩ := hw
            subst hw1
            rw [hw2] at hP
            have hP : va_P D vwCl (xw cI a w h Q (fun r9 => rt_o (F r9)) hd bl (fun j => nI (RS j)) (nI (xs + 1)) (nI (ys)) (fun j => nI (RC j)) (nI (xc)) (nI (yc))) H := hP
            have hD : va_D (xA a) (xw cI a w h Q (fun r9 => rt_o (F r9)) hd bl (fun j => nI (RS j)) (nI (xs + 1)) (nI (ys)) (fun j => nI (RC j)) (nI (xc)) (nI (yc))) := x_D ha _ rfl
            refine lv_goto (tgt := 86) hx hb d_S_takeNearest_76 (by decide) ?_
            exact w_iret (xs + 1, xc) hx hb hr hlocks hS hP (rt_tn_S hI s0 hc1 (fun c9 _ h9 => by rw [hc2] at h9; cases h9; omega)) d_S_takeNearest_86
        · exact absurd c_31 (rt_o_ne _ (by omega))
      · exact absurd c_18 (rt_o_ne _ (by omega))
    · rw [if_neg s1]
      refine lv_istore_n (lv' := [(2, .int (-1)), (1, .int (nI (RS xs))), (0, .ref (a 4))]) hx hb d_S_takeNearest_15 rfl hl (by decide) rfl (fun ls hl => ?_)
      refine lv_iload_n hx hb d_S_takeNearest_16 rfl (lv_at hl 1 rfl) ?_
      refine lv_iconst (v := (-1)) hx hb d_S_takeNearest_17 (by decide) ?_
      refine lv_icmp_ne (tgt := 29) hx hb d_S_takeNearest_18 (by decide) (fun c_18 => ?_) (fun c_18 => ?_)
      · refine lv_iload_n hx hb d_S_takeNearest_29 rfl (lv_at hl 0 rfl) ?_
        refine lv_iconst (v := (-1)) hx hb d_S_takeNearest_30 (by decide) ?_
        refine lv_icmp_ne (tgt := 42) hx hb d_S_takeNearest_31 (by decide) (fun c_31 => ?_) (fun c_31 => ?_)
        · exact absurd rfl c_31
        · refine lv_aload_n hx hb d_S_takeNearest_34 rfl (lv_at hl 2 rfl) ?_
          refine va_get (D := D) (ci := 2) (v := .ref (a 6)) (C := rn_S) (T := tf_S) (N := 5) hx hb hts in_S hown hK hP 4 rfl rfl 1 (by decide) (hts _ k_fieldLink_rn_S_22_rn_S_straights_LRouteTracks_Queue) (fun _ h9 => h9) rfl d_S_takeNearest_35 ?_
          refine w_ci (As := []) (rest := []) ⟨hx, hb, hml, hown, hts⟩ (c_Q_take_s l D cI cZ g a ha w h Q (fun r9 => rt_o (F r9)) hd bl (fun j => nI (RS j)) (nI (xs)) (nI (ys)) (fun j => nI (RC j)) (nI (xc)) (nI (yc)) RS xs ys hG (by omega) (by omega)) (cwV 0 hts (t_gV k_methodLink_rn_S_64_y_Q_take k_instanceMethod_y_Q_take k_selects_rn_Q_y_Q_take_y_Q_take k_initialized_rn_Q k_code_y_Q_take_prog_2_method_6_code_2_some_int) rfl rfl rfl (by decide +kernel) ⟨Nat.le_of_ble_eq_true rfl, Nat.le_of_ble_eq_true rfl⟩) (va_recv hK hP (ci := 0) (q0 := 6) rfl rfl) hP hK hZ hS rfl hl.1 rfl (Nat.le_of_ble_eq_true rfl) d_S_takeNearest_38 ⟨Nat.zero_le _, Nat.zero_le _⟩ (fun r_38 u_38 H locs hw hP hS => ?_)
          rw [if_pos s0, if_pos s0] at hw
          obtain ⟨hw1, hw2⟩ := hw
          subst hw1
          rw [hw2] at hP
          have hP : va_P D vwCl (xw cI a w h Q (fun r9 => rt_o (F r9)) hd bl (fun j => nI (RS j)) (nI (xs + 1)) (nI (ys)) (fun j => nI (RC j)) (nI (xc)) (nI (yc))) H := hP
          have hD : va_D (xA a) (xw cI a w h Q (fun r9 => rt_o (F r9)) hd bl (fun j => nI (RS j)) (nI (xs + 1)) (nI (ys)) (fun j => nI (RC j)) (nI (xc)) (nI (yc))) := x_D ha _ rfl
          exact w_iret (xs + 1, xc) hx hb hr hlocks hS hP (rt_tn_S hI s0 hc1 (fun c9 h9 _ => absurd h9 s1)) d_S_takeNearest_41
      · exact absurd c_18 (rt_o_ne _ (by omega))
  · rw [if_neg s0]
    refine lv_istore_n (lv' := [(1, .int (-1)), (0, .ref (a 4))]) hx hb d_S_takeNearest_7 rfl hl (by decide) rfl (fun ls hl => ?_)
    refine lv_aload_n hx hb d_S_takeNearest_8 rfl (lv_at hl 1 rfl) ?_
    refine va_get (D := D) (ci := 2) (v := .ref (a 8)) (C := rn_S) (T := tf_S) (N := 5) hx hb hts in_S hown hK hP 4 rfl rfl 2 (by decide) (hts _ k_fieldLink_rn_S_26_rn_S_curves_LRouteTracks_Queue) (fun _ h9 => h9) rfl d_S_takeNearest_9 ?_
    refine w_ci (As := []) (rest := []) ⟨hx, hb, hml, hown, hts⟩ (c_Q_first_c l D cI cZ g a ha w h Q (fun r9 => rt_o (F r9)) hd bl (fun j => nI (RS j)) (nI (xs)) (nI (ys)) (fun j => nI (RC j)) (nI (xc)) (nI (yc)) RC xc yc hG (by omega) (by omega)) (cwV 0 hts (t_gV k_methodLink_rn_S_120_y_Q_first k_instanceMethod_y_Q_first k_selects_rn_Q_y_Q_first_y_Q_first k_initialized_rn_Q k_code_y_Q_first_prog_2_method_5_code_1_some_int) rfl rfl rfl (by decide +kernel) ⟨Nat.le_of_ble_eq_true rfl, Nat.le_of_ble_eq_true rfl⟩) (va_recv hK hP (ci := 0) (q0 := 8) rfl rfl) hP hK hZ hS rfl hl.1 rfl (Nat.le_of_ble_eq_true rfl) d_S_takeNearest_12 ⟨Nat.zero_le _, Nat.zero_le _⟩ (fun r_12 u_12 H locs hw hP hS => ?_)
    subst hw
    have hP : va_P D vwCl (xw cI a w h Q (fun r9 => rt_o (F r9)) hd bl (fun j => nI (RS j)) (nI (xs)) (nI (ys)) (fun j => nI (RC j)) (nI (xc)) (nI (yc))) H := hP
    by_cases s1 : xc < yc
    · rw [if_pos s1]
      obtain ⟨q2, hc2⟩ := rt_cI_hC hI s1
      have hr2 := rt_cI_op hI _ _ hc2
      have hb2 := (hI.2.2.1 _ _ hc2).2
      refine lv_istore_n (lv' := [(2, .int (nI (RC xc))), (1, .int (-1)), (0, .ref (a 4))]) hx hb d_S_takeNearest_15 rfl hl (by decide) rfl (fun ls hl => ?_)
      refine lv_iload_n hx hb d_S_takeNearest_16 rfl (lv_at hl 1 rfl) ?_
      refine lv_iconst (v := (-1)) hx hb d_S_takeNearest_17 (by decide) ?_
      refine lv_icmp_ne (tgt := 29) hx hb d_S_takeNearest_18 (by decide) (fun c_18 => ?_) (fun c_18 => ?_)
      · exact absurd rfl c_18
      · refine lv_aload_n hx hb d_S_takeNearest_21 rfl (lv_at hl 2 rfl) ?_
        refine va_get (D := D) (ci := 2) (v := .ref (a 8)) (C := rn_S) (T := tf_S) (N := 5) hx hb hts in_S hown hK hP 4 rfl rfl 2 (by decide) (hts _ k_fieldLink_rn_S_26_rn_S_curves_LRouteTracks_Queue) (fun _ h9 => h9) rfl d_S_takeNearest_22 ?_
        refine w_ci (As := []) (rest := []) ⟨hx, hb, hml, hown, hts⟩ (c_Q_take_c l D cI cZ g a ha w h Q (fun r9 => rt_o (F r9)) hd bl (fun j => nI (RS j)) (nI (xs)) (nI (ys)) (fun j => nI (RC j)) (nI (xc)) (nI (yc)) RC xc yc hG (by omega) (by omega)) (cwV 0 hts (t_gV k_methodLink_rn_S_64_y_Q_take k_instanceMethod_y_Q_take k_selects_rn_Q_y_Q_take_y_Q_take k_initialized_rn_Q k_code_y_Q_take_prog_2_method_6_code_2_some_int) rfl rfl rfl (by decide +kernel) ⟨Nat.le_of_ble_eq_true rfl, Nat.le_of_ble_eq_true rfl⟩) (va_recv hK hP (ci := 0) (q0 := 8) rfl rfl) hP hK hZ hS rfl hl.1 rfl (Nat.le_of_ble_eq_true rfl) d_S_takeNearest_25 ⟨Nat.zero_le _, Nat.zero_le _⟩ (fun r_25 u_25 H locs hw hP hS => ?_)
        rw [if_pos s1, if_pos s1] at hw
        obtain ⟨hw1, hw2⟩ := hw
        subst hw1
        rw [hw2] at hP
        have hP : va_P D vwCl (xw cI a w h Q (fun r9 => rt_o (F r9)) hd bl (fun j => nI (RS j)) (nI (xs)) (nI (ys)) (fun j => nI (RC j)) (nI (xc + 1)) (nI (yc))) H := hP
        have hD : va_D (xA a) (xw cI a w h Q (fun r9 => rt_o (F r9)) hd bl (fun j => nI (RS j)) (nI (xs)) (nI (ys)) (fun j => nI (RC j)) (nI (xc + 1)) (nI (yc))) := x_D ha _ rfl
        exact w_iret (xs, xc + 1) hx hb hr hlocks hS hP (rt_tn_C hI s1 hc2 (fun c9 h9 _ => absurd h9 s0)) d_S_takeNearest_28
    · rw [if_neg s1]
      refine lv_istore_n (lv' := [(2, .int (-1)), (1, .int (-1)), (0, .ref (a 4))]) hx hb d_S_takeNearest_15 rfl hl (by decide) rfl (fun ls hl => ?_)
      refine lv_iload_n hx hb d_S_takeNearest_16 rfl (lv_at hl 1 rfl) ?_
      refine lv_iconst (v := (-1)) hx hb d_S_takeNearest_17 (by decide) ?_
      refine lv_icmp_ne (tgt := 29) hx hb d_S_takeNearest_18 (by decide) (fun c_18 => ?_) (fun c_18 => ?_)
      · exact absurd rfl c_18
      · refine lv_aload_n hx hb d_S_takeNearest_21 rfl (lv_at hl 2 rfl) ?_
        refine va_get (D := D) (ci := 2) (v := .ref (a 8)) (C := rn_S) (T := tf_S) (N := 5) hx hb hts in_S hown hK hP 4 rfl rfl 2 (by decide) (hts _ k_fieldLink_rn_S_26_rn_S_curves_LRouteTracks_Queue) (fun _ h9 => h9) rfl d_S_takeNearest_22 ?_
        refine w_ci (As := []) (rest := []) ⟨hx, hb, hml, hown, hts⟩ (c_Q_take_c l D cI cZ g a ha w h Q (fun r9 => rt_o (F r9)) hd bl (fun j => nI (RS j)) (nI (xs)) (nI (ys)) (fun j => nI (RC j)) (nI (xc)) (nI (yc)) RC xc yc hG (by omega) (by omega)) (cwV 0 hts (t_gV k_methodLink_rn_S_64_y_Q_take k_instanceMethod_y_Q_take k_selects_rn_Q_y_Q_take_y_Q_take k_initialized_rn_Q k_code_y_Q_take_prog_2_method_6_code_2_some_int) rfl rfl rfl (by decide +kernel) ⟨Nat.le_of_ble_eq_true rfl, Nat.le_of_ble_eq_true rfl⟩) (va_recv hK hP (ci := 0) (q0 := 8) rfl rfl) hP hK hZ hS rfl hl.1 rfl (Nat.le_of_ble_eq_true rfl) d_S_takeNearest_25 ⟨Nat.zero_le _, Nat.zero_le _⟩ (fun r_25 u_25 H locs hw hP hS => ?_)
        rw [if_neg s1, if_neg s1] at hw
        obtain ⟨hw1, hw2⟩ := hw
        subst hw1
        rw [hw2] at hP
        have hP : va_P D vwCl (xw cI a w h Q (fun r9 => rt_o (F r9)) hd bl (fun j => nI (RS j)) (nI (xs)) (nI (ys)) (fun j => nI (RC j)) (nI (xc)) (nI (yc))) H := hP
        have hD : va_D (xA a) (xw cI a w h Q (fun r9 => rt_o (F r9)) hd bl (fun j => nI (RS j)) (nI (xs)) (nI (ys)) (fun j => nI (RC j)) (nI (xc)) (nI (yc))) := x_D ha _ rfl
        exact w_iret (xs, xc) hx hb hr hlocks hS hP (Or.inl ⟨rfl, by omega, by omega, rfl, rfl⟩) d_S_takeNearest_28
