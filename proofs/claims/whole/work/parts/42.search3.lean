/-! Search: by program (wip/whole/gen/search3.py) -/
set_option maxHeartbeats 4000000 in
set_option maxRecDepth 100000 in
theorem c_S_findCosts (l : Launch) (D : va_G) (cI cZ : ClassId) (g a : Nat → Nat) (ha : xI a) (w h : Nat) (Q : Nat → Nat) (ff : Nat → Int32) (hd bl : Int32) (rs : Nat → Int32) (hs ts : Int32) (rc : Nat → Int32) (hc tc : Int32) (z : Nat) (hG : rt_G w h Q) (hz : z < 8) (hk0 : rt_hk Q w h hd ff bl) : Met l y_S_findCosts (.code y_S_findCosts b_S_findCosts 5 none :: tG) ({ frames := 5, cells := 0, slots := 0, locals := 112 }) (va_Pc [.ref (a 4), .ref (a 1), .int (nI (z))] (wU D cI cZ g (xA a) (xw cI a w h Q ff hd bl rs hs ts rc hc tc))) (va_Qv (S := ((Nat → Int32) × (Nat → Int32) × Int32 × Int32 × (Nat → Int32) × Int32 × Int32)) (fun u => rt_hC Q w h z u.1) (wB D (fun (u : ((Nat → Int32) × (Nat → Int32) × Int32 × Int32 × (Nat → Int32) × Int32 × Int32)) => (xw cI a w h Q u.1 (nI (z)) bl u.2.1 u.2.2.1 u.2.2.2.1 u.2.2.2.2.1 u.2.2.2.2.2.1 u.2.2.2.2.2.2))) (xA a)) 0 0 (xA a) := by
  refine Met.ofW (cc := b_S_findCosts) (maxL := 5) (ret := none) (by decide) rfl ?_
  intro p e s m args below meth c s₁ BD9 hml hv
  obtain ⟨rfl, hP, hK, hZ⟩ := hv
  have hx := BD9.exec
  have hb := BD9.bytes
  have hr := BD9.returns
  have hts : ∀ w ∈ tG, w.before _ s = true := fun w hw => atoms_spec (ws := .code y_S_findCosts b_S_findCosts 5 none :: tG) BD9.pre w (List.mem_cons_of_mem _ hw)
  have hown : s.vm.findClass rn_S = some m.cls := findClass_of_methodNamed BD9.named
  have hlocks := BD9.notSynchronized
  have hS : va_S (xA a) s.heap s.heap [] := va_S.rf
  have hD : va_D (xA a) (xw cI a w h Q ff hd bl rs hs ts rc hc tc) := x_D ha _ rfl
  have hP : va_P D vwCl (xw cI a w h Q ff hd bl rs hs ts rc hc tc) s.heap := hP
  have hl := lv_entry ([.ref (a 4), .ref (a 1), .int (nI (z))]) (n := 5) (Nat.le_of_ble_eq_true rfl)
  rw [lg_entry_eq]
  generalize (lg_sl ([.ref (a 4), .ref (a 1), .int (nI (z))]) ++ List.replicate (5 - (lg_sl ([.ref (a 4), .ref (a 1), .int (nI (z))])).length) Slot.unset).toArray = ls at hl ⊢
  have hl : lv_has ls 5 [(0, .ref (a 4)), (1, .ref (a 1)), (2, .int (nI (z)))] := hl
  obtain ⟨hn1, hn⟩ := hG.n
  have hw0 : 0 < w := by have := hG.1.1; omega
  have hQ := hG.2.2
  refine lv_aload_n hx hb d_S_findCosts_0 rfl (lv_at hl 0 rfl) ?_
  refine va_get (D := D) (ci := 2) (v := .int (hd)) (C := rn_S) (T := tf_S) (N := 5) hx hb hts in_S hown hK hP 4 rfl rfl 3 (by decide) (hts _ k_fieldLink_rn_S_29_rn_S_held_I) (fun _ h9 => h9) rfl d_S_findCosts_1 ?_
  refine lv_iload_n hx hb d_S_findCosts_4 rfl (lv_at hl 2 rfl) ?_
  refine lv_icmp_ne (tgt := 9) hx hb d_S_findCosts_5 (by decide) (fun c_5 => ?_) (fun c_5 => ?_)
  · refine lv_aload_n hx hb d_S_findCosts_9 rfl (lv_at hl 0 rfl) ?_
    refine lv_iload_n hx hb d_S_findCosts_10 rfl (lv_at hl 2 rfl) ?_
    refine va_put (D := D) (ci := 2) (v := .int (nI (z))) (ty := .int) (C := rn_S) (T := tf_S) (N := 5) hx hb hts in_S tt_S tt_S_ok nm_S hown hK hP hD hS 4 rfl rfl 3 (by decide) (hts _ k_fieldLink_rn_S_29_rn_S_held_I) (fun _ h9 => h9) rfl (by decide +kernel) rfl rfl (Nat.le_of_ble_eq_true rfl) d_S_findCosts_11 (fun H locs hP hD hS => ?_)
    have hP : va_P D vwCl (xw cI a w h Q ff (nI (z)) bl rs hs ts rc hc tc) H := hP
    have hD : va_D (xA a) (xw cI a w h Q ff (nI (z)) bl rs hs ts rc hc tc) := x_D ha _ rfl
    refine lv_aload_n hx hb d_S_findCosts_14 rfl (lv_at hl 0 rfl) ?_
    refine va_get (D := D) (ci := 2) (v := .ref (a 5)) (C := rn_S) (T := tf_S) (N := 5) hx hb hts in_S hown hK hP 4 rfl rfl 0 (by decide) (hts _ k_fieldLink_rn_S_11_rn_S_found_I) (fun _ h9 => h9) rfl d_S_findCosts_15 ?_
    refine lv_iconst (v := (-1)) hx hb d_S_findCosts_18 (by decide) ?_
    refine w_sv (As := [.ref (a 5), .int (-1)]) (rest := []) ⟨hx, hb, hml, hown, hts⟩ (c_JA_fill l D cI cZ g a ha w h Q ff (nI (z)) bl rs hs ts rc hc tc (-1) hG) (va_cwS 2 hts (t_gS k_methodLink_rn_S_36_y_JA_fill k_static_y_JA_fill k_initialized_rn_JA k_code_y_JA_fill_prog_14_method_103_code_4_none) rfl rfl rfl (by decide +kernel) ⟨Nat.le_of_ble_eq_true rfl, Nat.le_of_ble_eq_true rfl⟩) hP hK hZ hS rfl hl.1 rfl (Nat.le_of_ble_eq_true rfl) d_S_findCosts_19 ⟨Nat.zero_le _, Nat.zero_le _⟩ (fun u_19 H locs hw hP hS => ?_)
    have hP : va_P D vwCl (xw cI a w h Q (fun r9 => rt_o ((fun _ => none) r9)) (nI (z)) bl rs hs ts rc hc tc) H := hP
    have hD : va_D (xA a) (xw cI a w h Q (fun r9 => rt_o ((fun _ => none) r9)) (nI (z)) bl rs hs ts rc hc tc) := x_D ha _ rfl
    obtain ⟨RS, rfl⟩ := rt_rN rs
    obtain ⟨RC, rfl⟩ := rt_rN rc
    have hP : va_P D vwCl (xw cI a w h Q (fun r9 => rt_o ((fun _ => none) r9)) (nI (z)) bl (fun j => nI (RS j)) hs ts (fun j => nI (RC j)) hc tc) H := hP
    have hD : va_D (xA a) (xw cI a w h Q (fun r9 => rt_o ((fun _ => none) r9)) (nI (z)) bl (fun j => nI (RS j)) hs ts (fun j => nI (RC j)) hc tc) := x_D ha _ rfl
    refine lv_aload_n hx hb d_S_findCosts_22 rfl (lv_at hl 0 rfl) ?_
    refine va_get (D := D) (ci := 2) (v := .ref (a 6)) (C := rn_S) (T := tf_S) (N := 5) hx hb hts in_S hown hK hP 4 rfl rfl 1 (by decide) (hts _ k_fieldLink_rn_S_22_rn_S_straights_LRouteTracks_Queue) (fun _ h9 => h9) rfl d_S_findCosts_23 ?_
    refine w_cv (As := []) (rest := []) ⟨hx, hb, hml, hown, hts⟩ (c_Q_clear_s l D cI cZ g a ha w h Q (fun r9 => rt_o ((fun _ => none) r9)) (nI (z)) bl (fun j => nI (RS j)) hs ts (fun j => nI (RC j)) hc tc  hG) (cwV 0 hts (t_gV k_methodLink_rn_S_53_y_Q_clear k_instanceMethod_y_Q_clear k_selects_rn_Q_y_Q_clear_y_Q_clear k_initialized_rn_Q k_code_y_Q_clear_prog_2_method_2_code_1_none) rfl rfl rfl (by decide +kernel) ⟨Nat.le_of_ble_eq_true rfl, Nat.le_of_ble_eq_true rfl⟩) (va_recv hK hP (ci := 0) (q0 := 6) rfl rfl) hP hK hZ hS rfl hl.1 rfl (Nat.le_of_ble_eq_true rfl) d_S_findCosts_26 ⟨Nat.zero_le _, Nat.zero_le _⟩ (fun u_26 H locs hw hP hS => ?_)
    have hP : va_P D vwCl (xw cI a w h Q (fun r9 => rt_o ((fun _ => none) r9)) (nI (z)) bl (fun j => nI (RS j)) (nI (0)) (nI (0)) (fun j => nI (RC j)) hc tc) H := hP
    have hD : va_D (xA a) (xw cI a w h Q (fun r9 => rt_o ((fun _ => none) r9)) (nI (z)) bl (fun j => nI (RS j)) (nI (0)) (nI (0)) (fun j => nI (RC j)) hc tc) := x_D ha _ rfl
    refine lv_aload_n hx hb d_S_findCosts_29 rfl (lv_at hl 0 rfl) ?_
    refine va_get (D := D) (ci := 2) (v := .ref (a 8)) (C := rn_S) (T := tf_S) (N := 5) hx hb hts in_S hown hK hP 4 rfl rfl 2 (by decide) (hts _ k_fieldLink_rn_S_26_rn_S_curves_LRouteTracks_Queue) (fun _ h9 => h9) rfl d_S_findCosts_30 ?_
    refine w_cv (As := []) (rest := []) ⟨hx, hb, hml, hown, hts⟩ (c_Q_clear_c l D cI cZ g a ha w h Q (fun r9 => rt_o ((fun _ => none) r9)) (nI (z)) bl (fun j => nI (RS j)) (nI (0)) (nI (0)) (fun j => nI (RC j)) hc tc  hG) (cwV 0 hts (t_gV k_methodLink_rn_S_53_y_Q_clear k_instanceMethod_y_Q_clear k_selects_rn_Q_y_Q_clear_y_Q_clear k_initialized_rn_Q k_code_y_Q_clear_prog_2_method_2_code_1_none) rfl rfl rfl (by decide +kernel) ⟨Nat.le_of_ble_eq_true rfl, Nat.le_of_ble_eq_true rfl⟩) (va_recv hK hP (ci := 0) (q0 := 8) rfl rfl) hP hK hZ hS rfl hl.1 rfl (Nat.le_of_ble_eq_true rfl) d_S_findCosts_33 ⟨Nat.zero_le _, Nat.zero_le _⟩ (fun u_33 H locs hw hP hS => ?_)
    have hP : va_P D vwCl (xw cI a w h Q (fun r9 => rt_o ((fun _ => none) r9)) (nI (z)) bl (fun j => nI (RS j)) (nI (0)) (nI (0)) (fun j => nI (RC j)) (nI (0)) (nI (0))) H := hP
    have hD : va_D (xA a) (xw cI a w h Q (fun r9 => rt_o ((fun _ => none) r9)) (nI (z)) bl (fun j => nI (RS j)) (nI (0)) (nI (0)) (fun j => nI (RC j)) (nI (0)) (nI (0))) := x_D ha _ rfl
    refine lv_aload_n hx hb d_S_findCosts_36 rfl (lv_at hl 0 rfl) ?_
    refine lv_aload_n hx hb d_S_findCosts_37 rfl (lv_at hl 1 rfl) ?_
    refine lv_iload_n hx hb d_S_findCosts_38 rfl (lv_at hl 2 rfl) ?_
    refine w_cv (As := [.ref (a 1), .int (nI (z))]) (rest := []) ⟨hx, hb, hml, hown, hts⟩ (c_S_settleTargets l D cI cZ g a ha w h Q (fun r9 => rt_o ((fun _ => none) r9)) (nI (z)) bl (fun j => nI (RS j)) (nI (0)) (nI (0)) (fun j => nI (RC j)) (nI (0)) (nI (0)) RS RC z hG hz) (cwV 2 hts (t_gV k_methodLink_rn_S_88_y_S_settleTargets k_instanceMethod_y_S_settleTargets k_selects_rn_S_y_S_settleTargets_y_S_settleTargets k_initialized_rn_S k_code_y_S_settleTargets_prog_4_method_9_code_5_none) rfl rfl rfl (by decide +kernel) ⟨Nat.le_of_ble_eq_true rfl, Nat.le_of_ble_eq_true rfl⟩) (va_recv hK hP (ci := 2) (q0 := 4) rfl rfl) hP hK hZ hS rfl hl.1 rfl (Nat.le_of_ble_eq_true rfl) d_S_findCosts_39 ⟨Nat.zero_le _, Nat.zero_le _⟩ (fun u_39 H locs hw hP hS => ?_)
    obtain ⟨F0v, RS1, ys1, RC1, yc1⟩ := u_39
    have hP : va_P D vwCl (xw cI a w h Q (fun r9 => rt_o (F0v r9)) (nI (z)) bl (fun j => nI (RS1 j)) (nI (0)) (nI (ys1)) (fun j => nI (RC1 j)) (nI (0)) (nI (yc1))) H := hP
    have hD : va_D (xA a) (xw cI a w h Q (fun r9 => rt_o (F0v r9)) (nI (z)) bl (fun j => nI (RS1 j)) (nI (0)) (nI (ys1)) (fun j => nI (RC1 j)) (nI (0)) (nI (yc1))) := x_D ha _ rfl
    have hI0 := rt_cT_end hw
    refine lv_iconst (v := (nI (0))) hx hb d_S_findCosts_42 (by decide) ?_
    refine lv_istore_n (lv' := [(3, .int (nI (0))), (0, .ref (a 4)), (1, .ref (a 1)), (2, .int (nI (z)))]) hx hb d_S_findCosts_43 rfl hl (by decide) rfl (fun ls hl => ?_)
    have LP_44 : ∀ (n_44 : Nat) (i : Nat) (M : Nat) (F : Nat → Option Nat) (RS : Nat → Nat) (xs : Nat) (ys : Nat) (RC : Nat → Nat) (xc : Nat) (yc : Nat), i + n_44 = 12 * (w * h) → (rt_cI Q w h z F RS xs ys RC xc yc M (fun _ => True) (fun _ _ => False)) → (xs + xc = i) → (M ≤ 16 * i) → ∀ (H : Heap) (locs : List Loc) (ls : Array Slot), va_P D vwCl (xw cI a w h Q (fun r9 => rt_o (F r9)) (nI (z)) bl (fun j => nI (RS j)) (nI (xs)) (nI (ys)) (fun j => nI (RC j)) (nI (xc)) (nI (yc))) H → va_S (xA a) s.heap H locs → lv_has ls 5 [(0, .ref (a 4)), (1, .ref (a 1)), (2, .int (nI (z))), (3, .int (nI (i)))] → W p l e (headSpec (.code y_S_findCosts b_S_findCosts 5 none :: tG) ({ frames := 5, cells := 0, slots := 0, locals := 112 })).room s m ([.ref (a 4), .ref (a 1), .int (nI (z))] : List Value).toArray below meth c H locs 0 0 (MQ below (va_Qv (S := ((Nat → Int32) × (Nat → Int32) × Int32 × Int32 × (Nat → Int32) × Int32 × Int32)) (fun u => rt_hC Q w h z u.1) (wB D (fun (u : ((Nat → Int32) × (Nat → Int32) × Int32 × Int32 × (Nat → Int32) × Int32 × Int32)) => (xw cI a w h Q u.1 (nI (z)) bl u.2.1 u.2.2.1 u.2.2.2.1 u.2.2.2.2.1 u.2.2.2.2.2.1 u.2.2.2.2.2.2))) (xA a)) ([.ref (a 4), .ref (a 1), .int (nI (z))] : List Value).toArray s 0 0 (xA a)) (F0 m 44 ls []) := by
      intro n_44
      induction n_44 with
      | zero =>
        intro i M F RS xs ys RC xc yc hrel_44 hI hsum hM H locs ls hP hS hl
        have hD : va_D (xA a) (xw cI a w h Q (fun r9 => rt_o (F r9)) (nI (z)) bl (fun j => nI (RS j)) (nI (xs)) (nI (ys)) (fun j => nI (RC j)) (nI (xc)) (nI (yc))) := x_D ha _ rfl
        refine lv_iload_n hx hb d_S_findCosts_44 rfl (lv_at hl 3 rfl) ?_
        refine lv_aload_n hx hb d_S_findCosts_45 rfl (lv_at hl 0 rfl) ?_
        refine va_get (D := D) (ci := 2) (v := .ref (a 5)) (C := rn_S) (T := tf_S) (N := 5) hx hb hts in_S hown hK hP 4 rfl rfl 0 (by decide) (hts _ k_fieldLink_rn_S_11_rn_S_found_I) (fun _ h9 => h9) rfl d_S_findCosts_46 ?_
        refine va_alen (v := nI (12 * (w * h))) hx hb hK hP 5 0 rfl rfl rfl d_S_findCosts_49 ?_
        refine rw_cge (tgt := 79) hx hb d_S_findCosts_50 (by decide) (by omega) (by omega) (fun c_50 => ?_) (fun c_50 => ?_)
        · obtain ⟨k1, k2, k3, k4⟩ := rt_cI_caps hI
          have h2 : xs = ys := by omega
          have h3 : xc = yc := by omega
          rw [h2, h3] at hI
          exact w_vret (_, _, _, _, _, _, _) hx hb hr hlocks hS hP (rt_cI_hCC hn (by omega) hI) d_S_findCosts_79
        · omega
      | succ n_44 ih_44 =>
        intro i M F RS xs ys RC xc yc hrel_44 hI hsum hM H locs ls hP hS hl
        have hD : va_D (xA a) (xw cI a w h Q (fun r9 => rt_o (F r9)) (nI (z)) bl (fun j => nI (RS j)) (nI (xs)) (nI (ys)) (fun j => nI (RC j)) (nI (xc)) (nI (yc))) := x_D ha _ rfl
        refine lv_iload_n hx hb d_S_findCosts_44 rfl (lv_at hl 3 rfl) ?_
        refine lv_aload_n hx hb d_S_findCosts_45 rfl (lv_at hl 0 rfl) ?_
        refine va_get (D := D) (ci := 2) (v := .ref (a 5)) (C := rn_S) (T := tf_S) (N := 5) hx hb hts in_S hown hK hP 4 rfl rfl 0 (by decide) (hts _ k_fieldLink_rn_S_11_rn_S_found_I) (fun _ h9 => h9) rfl d_S_findCosts_46 ?_
        refine va_alen (v := nI (12 * (w * h))) hx hb hK hP 5 0 rfl rfl rfl d_S_findCosts_49 ?_
        refine rw_cge (tgt := 79) hx hb d_S_findCosts_50 (by decide) (by omega) (by omega) (fun c_50 => ?_) (fun c_50 => ?_)
        · omega
        · refine lv_aload_n hx hb d_S_findCosts_53 rfl (lv_at hl 0 rfl) ?_
          refine w_ci (As := []) (rest := []) ⟨hx, hb, hml, hown, hts⟩ (c_S_takeNearest l D cI cZ g a ha w h Q (fun r9 => rt_o (F r9)) (nI (z)) bl (fun j => nI (RS j)) (nI (xs)) (nI (ys)) (fun j => nI (RC j)) (nI (xc)) (nI (yc)) F RS xs ys RC xc yc z M hG hI (by omega)) (cwV 0 hts (t_gV k_methodLink_rn_S_91_y_S_takeNearest k_instanceMethod_y_S_takeNearest k_selects_rn_S_y_S_takeNearest_y_S_takeNearest k_initialized_rn_S k_code_y_S_takeNearest_prog_4_method_12_code_5_some_int) rfl rfl rfl (by decide +kernel) ⟨Nat.le_of_ble_eq_true rfl, Nat.le_of_ble_eq_true rfl⟩) (va_recv hK hP (ci := 2) (q0 := 4) rfl rfl) hP hK hZ hS rfl hl.1 rfl (Nat.le_of_ble_eq_true rfl) d_S_findCosts_54 ⟨Nat.zero_le _, Nat.zero_le _⟩ (fun r_54 u_54 H locs hw hP hS => ?_)
          obtain ⟨x1, x2⟩ := u_54
          rcases hw with ⟨h1, h2, h3, h4, h5⟩ | ⟨f, k, h1, h2, h3, h4, h5⟩
          · subst h1
            have hP : va_P D vwCl (xw cI a w h Q (fun r9 => rt_o (F r9)) (nI (z)) bl (fun j => nI (RS j)) (nI (x1)) (nI (ys)) (fun j => nI (RC j)) (nI (x2)) (nI (yc))) H := hP
            dsimp only at h4 h5
            rw [h4, h5] at hP
            have hP : va_P D vwCl (xw cI a w h Q (fun r9 => rt_o (F r9)) (nI (z)) bl (fun j => nI (RS j)) (nI (xs)) (nI (ys)) (fun j => nI (RC j)) (nI (xc)) (nI (yc))) H := hP
            have hD : va_D (xA a) (xw cI a w h Q (fun r9 => rt_o (F r9)) (nI (z)) bl (fun j => nI (RS j)) (nI (xs)) (nI (ys)) (fun j => nI (RC j)) (nI (xc)) (nI (yc))) := x_D ha _ rfl
            refine lv_istore (lv' := [(4, .int (-1)), (0, .ref (a 4)), (1, .ref (a 1)), (2, .int (nI (z))), (3, .int (nI (i)))]) hx hb d_S_findCosts_57 hl (by decide) rfl (fun ls hl => ?_)
            refine lv_iload hx hb d_S_findCosts_59 (lv_at hl 0 rfl) ?_
            refine lv_iconst (v := (-1)) hx hb d_S_findCosts_61 (by decide) ?_
            refine lv_icmp_ne (tgt := 66) hx hb d_S_findCosts_62 (by decide) (fun c_62 => ?_) (fun c_62 => ?_)
            · exact absurd rfl c_62
            · rw [h2, h3] at hI
              exact w_vret (_, _, _, _, _, _, _) hx hb hr hlocks hS hP (rt_cI_hCC hn (by omega) hI) d_S_findCosts_65
          · subst h1
            have hP : va_P D vwCl (xw cI a w h Q (fun r9 => rt_o (F r9)) (nI (z)) bl (fun j => nI (RS j)) (nI (x1)) (nI (ys)) (fun j => nI (RC j)) (nI (x2)) (nI (yc))) H := hP
            have hD : va_D (xA a) (xw cI a w h Q (fun r9 => rt_o (F r9)) (nI (z)) bl (fun j => nI (RS j)) (nI (x1)) (nI (ys)) (fun j => nI (RC j)) (nI (x2)) (nI (yc))) := x_D ha _ rfl
            have hkM := (hI.2.2.1 _ _ h3).2
            have hln := rt_ln_in f
            refine lv_istore (lv' := [(4, .int (nI (f))), (0, .ref (a 4)), (1, .ref (a 1)), (2, .int (nI (z))), (3, .int (nI (i)))]) hx hb d_S_findCosts_57 hl (by decide) rfl (fun ls hl => ?_)
            refine lv_iload hx hb d_S_findCosts_59 (lv_at hl 0 rfl) ?_
            refine lv_iconst (v := (-1)) hx hb d_S_findCosts_61 (by decide) ?_
            refine lv_icmp_ne (tgt := 66) hx hb d_S_findCosts_62 (by decide) (fun c_62 => ?_) (fun c_62 => ?_)
            · refine lv_aload_n hx hb d_S_findCosts_66 rfl (lv_at hl 1 rfl) ?_
              refine lv_aload_n hx hb d_S_findCosts_67 rfl (lv_at hl 2 rfl) ?_
              refine lv_iload hx hb d_S_findCosts_68 (lv_at hl 0 rfl) ?_
              refine w_cv (As := [.ref (a 1), .int (nI (f))]) (rest := []) ⟨hx, hb, hml, hown, hts⟩ (c_S_settleBehind l D cI cZ g a ha w h Q (fun r9 => rt_o (F r9)) (nI (z)) bl (fun j => nI (RS j)) (nI (x1)) (nI (ys)) (fun j => nI (RC j)) (nI (x2)) (nI (yc)) F RS x1 ys RC x2 yc z (rt_ln f + k) f k hG (rt_cS_0 h4 h3 rfl) (by omega)) (cwV 2 hts (t_gV k_methodLink_rn_S_94_y_S_settleBehind k_instanceMethod_y_S_settleBehind k_selects_rn_S_y_S_settleBehind_y_S_settleBehind k_initialized_rn_S k_code_y_S_settleBehind_prog_4_method_10_code_6_none) rfl rfl rfl (by decide +kernel) ⟨Nat.le_of_ble_eq_true rfl, Nat.le_of_ble_eq_true rfl⟩) (va_recv hK hP (ci := 2) (q0 := 4) rfl rfl) hP hK hZ hS rfl hl.1 rfl (Nat.le_of_ble_eq_true rfl) d_S_findCosts_70 ⟨Nat.zero_le _, Nat.zero_le _⟩ (fun u_70 H locs hw hP hS => ?_)
              obtain ⟨F1, RS1, ys1, RC1, yc1⟩ := u_70
              have hP : va_P D vwCl (xw cI a w h Q (fun r9 => rt_o (F1 r9)) (nI (z)) bl (fun j => nI (RS1 j)) (nI (x1)) (nI (ys1)) (fun j => nI (RC1 j)) (nI (x2)) (nI (yc1))) H := hP
              have hD : va_D (xA a) (xw cI a w h Q (fun r9 => rt_o (F1 r9)) (nI (z)) bl (fun j => nI (RS1 j)) (nI (x1)) (nI (ys1)) (fun j => nI (RC1 j)) (nI (x2)) (nI (yc1))) := x_D ha _ rfl
              have hI1 := hw
              refine lv_iinc (v := (nI (i + 1))) (lv' := [(3, .int (nI (i + 1))), (4, .int (nI (f))), (0, .ref (a 4)), (1, .ref (a 1)), (2, .int (nI (z)))]) hx hb d_S_findCosts_73 hl (k := 4) rfl (nI_add _ _) (by decide) rfl (fun ls hl => ?_)
              refine lv_goto (tgt := 44) hx hb d_S_findCosts_76 (by decide) ?_
              exact ih_44 (i + 1) (rt_ln f + k) F1 RS1 x1 ys1 RC1 x2 yc1 (by omega) hI1 (by omega) (by omega) _ _ _ hP hS (lv_sub hl [2, 3, 4, 0] rfl)
            · exact absurd c_62 (rt_o_ne _ (by omega))
    exact LP_44 (12 * (w * h)) 0 0 F0v RS1 0 ys1 RC1 0 yc1 (by omega) hI0 (by omega) (by omega) _ _ _ hP hS (lv_sub hl [1, 2, 3, 0] rfl)
  · subst c_5
    exact w_vret (ff, rs, hs, ts, rc, hc, tc) hx hb hr hlocks hS hP (rt_hk_C hz hk0) d_S_findCosts_8

set_option maxHeartbeats 4000000 in
set_option maxRecDepth 100000 in
theorem c_S_cheapestAhead (l : Launch) (D : va_G) (cI cZ : ClassId) (g a : Nat → Nat) (ha : xI a) (w h : Nat) (Q : Nat → Nat) (ff : Nat → Int32) (hd bl : Int32) (rs : Nat → Int32) (hs ts : Int32) (rc : Nat → Int32) (hc tc : Int32) (K : Nat → Option Nat) (r : Nat) (hG : rt_G w h Q) (hr0 : r < 12 * (w * h)) (hsm : rt_small K) : Met l y_S_cheapestAhead (.code y_S_cheapestAhead b_S_cheapestAhead 8 (some .int) :: tG) ({ frames := 3, cells := 0, slots := 0, locals := 64 }) (va_Pc [.ref (a 4), .ref (a 1), .int (nI (r))] (wU D cI cZ g (xA a) (xw cI a w h Q (fun r9 => rt_o (K r9)) hd bl rs hs ts rc hc tc))) (va_Qi (S := Unit) (fun x _ => x = rt_o (rt_best K (rt_nx Q w h r))) (wB D (fun (u : Unit) => (xw cI a w h Q (fun r9 => rt_o (K r9)) hd bl rs hs ts rc hc tc))) (xA a)) 0 0 (xA a) := by
  refine Met.ofW (cc := b_S_cheapestAhead) (maxL := 8) (ret := (some .int)) (by decide) rfl ?_
  intro p e s m args below meth c s₁ BD9 hml hv
  obtain ⟨rfl, hP, hK, hZ⟩ := hv
  have hx := BD9.exec
  have hb := BD9.bytes
  have hr := BD9.returns
  have hts : ∀ w ∈ tG, w.before _ s = true := fun w hw => atoms_spec (ws := .code y_S_cheapestAhead b_S_cheapestAhead 8 (some .int) :: tG) BD9.pre w (List.mem_cons_of_mem _ hw)
  have hown : s.vm.findClass rn_S = some m.cls := findClass_of_methodNamed BD9.named
  have hlocks := BD9.notSynchronized
  have hS : va_S (xA a) s.heap s.heap [] := va_S.rf
  have hD : va_D (xA a) (xw cI a w h Q (fun r9 => rt_o (K r9)) hd bl rs hs ts rc hc tc) := x_D ha _ rfl
  have hP : va_P D vwCl (xw cI a w h Q (fun r9 => rt_o (K r9)) hd bl rs hs ts rc hc tc) s.heap := hP
  have hl := lv_entry ([.ref (a 4), .ref (a 1), .int (nI (r))]) (n := 8) (Nat.le_of_ble_eq_true rfl)
  rw [lg_entry_eq]
  generalize (lg_sl ([.ref (a 4), .ref (a 1), .int (nI (r))]) ++ List.replicate (8 - (lg_sl ([.ref (a 4), .ref (a 1), .int (nI (r))])).length) Slot.unset).toArray = ls at hl ⊢
  have hl : lv_has ls 8 [(0, .ref (a 4)), (1, .ref (a 1)), (2, .int (nI (r)))] := hl
  obtain ⟨hn1, hn⟩ := hG.n
  have hw0 : 0 < w := by have := hG.1.1; omega
  have hQ := hG.2.2
  refine lv_iconst (v := (-1)) hx hb d_S_cheapestAhead_0 (by decide) ?_
  refine lv_istore_n (lv' := [(3, .int (-1)), (0, .ref (a 4)), (1, .ref (a 1)), (2, .int (nI (r)))]) hx hb d_S_cheapestAhead_1 rfl hl (by decide) rfl (fun ls hl => ?_)
  refine lv_iconst (v := (nI (0))) hx hb d_S_cheapestAhead_2 (by decide) ?_
  refine lv_istore (lv' := [(4, .int (nI (0))), (3, .int (-1)), (0, .ref (a 4)), (1, .ref (a 1)), (2, .int (nI (r)))]) hx hb d_S_cheapestAhead_3 hl (by decide) rfl (fun ls hl => ?_)
  refine lv_iconst (v := (nI (0))) hx hb d_S_cheapestAhead_5 (by decide) ?_
  refine lv_istore (lv' := [(5, .int (nI (0))), (4, .int (nI (0))), (3, .int (-1)), (0, .ref (a 4)), (1, .ref (a 1)), (2, .int (nI (r)))]) hx hb d_S_cheapestAhead_6 hl (by decide) rfl (fun ls hl => ?_)
  have LP_8 : ∀ (n_8 : Nat) (i : Nat), i + n_8 = 3 → ∀ (H : Heap) (locs : List Loc) (ls : Array Slot), va_P D vwCl (xw cI a w h Q (fun r9 => rt_o (K r9)) hd bl rs hs ts rc hc tc) H → va_S (xA a) s.heap H locs → lv_has ls 8 [(0, .ref (a 4)), (1, .ref (a 1)), (2, .int (nI (r))), (3, .int (rt_o (rt_best K (rt_px Q w h r i)))), (4, .int (nI (rt_lw K (rt_best K (rt_px Q w h r i))))), (5, .int (nI (i)))] → W p l e (headSpec (.code y_S_cheapestAhead b_S_cheapestAhead 8 (some .int) :: tG) ({ frames := 3, cells := 0, slots := 0, locals := 64 })).room s m ([.ref (a 4), .ref (a 1), .int (nI (r))] : List Value).toArray below meth c H locs 0 0 (MQ below (va_Qi (S := Unit) (fun x _ => x = rt_o (rt_best K (rt_nx Q w h r))) (wB D (fun (u : Unit) => (xw cI a w h Q (fun r9 => rt_o (K r9)) hd bl rs hs ts rc hc tc))) (xA a)) ([.ref (a 4), .ref (a 1), .int (nI (r))] : List Value).toArray s 0 0 (xA a)) (F0 m 8 ls []) := by
    intro n_8
    induction n_8 with
    | zero =>
      intro i hrel_8 H locs ls hP hS hl
      have hD : va_D (xA a) (xw cI a w h Q (fun r9 => rt_o (K r9)) hd bl rs hs ts rc hc tc) := x_D ha _ rfl
      refine lv_iload hx hb d_S_cheapestAhead_8 (lv_at hl 5 rfl) ?_
      refine lv_iconst (v := (nI (3))) hx hb d_S_cheapestAhead_10 (by decide) ?_
      refine rw_cge (tgt := 84) hx hb d_S_cheapestAhead_11 (by decide) (by omega) (by omega) (fun c_11 => ?_) (fun c_11 => ?_)
      · refine lv_iload_n hx hb d_S_cheapestAhead_84 rfl (lv_at hl 3 rfl) ?_
        exact w_iret () hx hb hr hlocks hS hP (by rw [show i = 3 by omega]; rfl) d_S_cheapestAhead_85
      · omega
    | succ n_8 ih_8 =>
      intro i hrel_8 H locs ls hP hS hl
      have hD : va_D (xA a) (xw cI a w h Q (fun r9 => rt_o (K r9)) hd bl rs hs ts rc hc tc) := x_D ha _ rfl
      refine lv_iload hx hb d_S_cheapestAhead_8 (lv_at hl 5 rfl) ?_
      refine lv_iconst (v := (nI (3))) hx hb d_S_cheapestAhead_10 (by decide) ?_
      refine rw_cge (tgt := 84) hx hb d_S_cheapestAhead_11 (by decide) (by omega) (by omega) (fun c_11 => ?_) (fun c_11 => ?_)
      · omega
      · refine lv_aload_n hx hb d_S_cheapestAhead_14 rfl (lv_at hl 1 rfl) ?_
        refine lv_iload_n hx hb d_S_cheapestAhead_15 rfl (lv_at hl 2 rfl) ?_
        refine lv_iload hx hb d_S_cheapestAhead_16 (lv_at hl 5 rfl) ?_
        refine w_ci (As := [.int (nI (r)), .int (nI (i))]) (rest := []) ⟨hx, hb, hml, hown, hts⟩ (c_A_ahead l D cI cZ g a ha w h Q (fun r9 => rt_o (K r9)) hd bl rs hs ts rc hc tc r i hG hr0 (by omega)) (cwV 2 hts (t_gV k_methodLink_rn_S_81_y_A_ahead k_instanceMethod_y_A_ahead k_selects_rn_A_y_A_ahead_y_A_ahead k_initialized_rn_A k_code_y_A_ahead_prog_3_method_14_code_5_some_int) rfl rfl rfl (by decide +kernel) ⟨Nat.le_of_ble_eq_true rfl, Nat.le_of_ble_eq_true rfl⟩) (va_recv hK hP (ci := 1) (q0 := 1) rfl rfl) hP hK hZ hS rfl hl.1 rfl (Nat.le_of_ble_eq_true rfl) d_S_cheapestAhead_18 ⟨Nat.zero_le _, Nat.zero_le _⟩ (fun r_18 u_18 H locs hw hP hS => ?_)
        subst hw
        have hP : va_P D vwCl (xw cI a w h Q (fun r9 => rt_o (K r9)) hd bl rs hs ts rc hc tc) H := hP
        cases ho_21 : rt_ah w h r i with
        | none =>
          refine lv_istore (lv' := [(6, .int (-1)), (0, .ref (a 4)), (1, .ref (a 1)), (2, .int (nI (r))), (3, .int (rt_o (rt_best K (rt_px Q w h r i)))), (4, .int (nI (rt_lw K (rt_best K (rt_px Q w h r i))))), (5, .int (nI (i)))]) hx hb d_S_cheapestAhead_21 hl (by decide) rfl (fun ls hl => ?_)
          refine lv_aload_n hx hb d_S_cheapestAhead_23 rfl (lv_at hl 2 rfl) ?_
          refine lv_iload hx hb d_S_cheapestAhead_24 (lv_at hl 0 rfl) ?_
          refine w_ci (As := [.int (-1)]) (rest := []) ⟨hx, hb, hml, hown, hts⟩ (c_A_isOpen l D cI cZ g a ha w h Q (fun r9 => rt_o (K r9)) hd bl rs hs ts rc hc tc (-1) hG) (cwV 1 hts (t_gV k_methodLink_rn_S_101_y_A_isOpen k_instanceMethod_y_A_isOpen k_selects_rn_A_y_A_isOpen_y_A_isOpen k_initialized_rn_A k_code_y_A_isOpen_prog_3_method_11_code_2_some_boolean) rfl rfl rfl (by decide +kernel) ⟨Nat.le_of_ble_eq_true rfl, Nat.le_of_ble_eq_true rfl⟩) (va_recv hK hP (ci := 1) (q0 := 1) rfl rfl) hP hK hZ hS rfl hl.1 rfl (Nat.le_of_ble_eq_true rfl) d_S_cheapestAhead_26 ⟨Nat.zero_le _, Nat.zero_le _⟩ (fun r_26 u_26 H locs hw hP hS => ?_)
          subst hw
          have hP : va_P D vwCl (xw cI a w h Q (fun r9 => rt_o (K r9)) hd bl rs hs ts rc hc tc) H := hP
          rw [rt_opx_n (Or.inl (by decide))]
          refine rw_beq (tgt := 78) hx hb d_S_cheapestAhead_29 (by decide) (fun c_29 => ?_) (fun c_29 => ?_)
          · refine lv_iinc (v := (nI (i + 1))) (lv' := [(5, .int (nI (i + 1))), (6, .int (-1)), (0, .ref (a 4)), (1, .ref (a 1)), (2, .int (nI (r))), (3, .int (rt_o (rt_best K (rt_px Q w h r i)))), (4, .int (nI (rt_lw K (rt_best K (rt_px Q w h r i)))))]) hx hb d_S_cheapestAhead_78 hl (k := 6) rfl (nI_add _ _) (by decide) rfl (fun ls hl => ?_)
            refine lv_goto (tgt := 8) hx hb d_S_cheapestAhead_81 (by decide) ?_
            have hl : lv_has ls 8 [(5, .int (nI (i + 1))), (6, .int (-1)), (0, .ref (a 4)), (1, .ref (a 1)), (2, .int (nI (r))), (3, .int (rt_o (rt_best K (rt_px Q w h r (i + 1))))), (4, .int (nI (rt_lw K (rt_best K (rt_px Q w h r (i + 1))))))] := by rw [rt_pxb_n (K := K) (by rw [ho_21]; rfl)]; exact hl
            exact ih_8 (i + 1) (by omega) _ _ _ hP hS (lv_sub hl [2, 3, 4, 5, 6, 0] rfl)
          · cases c_29
        | some b =>
          have hb9 : b < 12 * (w * h) := (rt_ah_back hw0 hr0 (by omega) ho_21).1
          refine lv_istore (lv' := [(6, .int (nI (b))), (0, .ref (a 4)), (1, .ref (a 1)), (2, .int (nI (r))), (3, .int (rt_o (rt_best K (rt_px Q w h r i)))), (4, .int (nI (rt_lw K (rt_best K (rt_px Q w h r i))))), (5, .int (nI (i)))]) hx hb d_S_cheapestAhead_21 hl (by decide) rfl (fun ls hl => ?_)
          refine lv_aload_n hx hb d_S_cheapestAhead_23 rfl (lv_at hl 2 rfl) ?_
          refine lv_iload hx hb d_S_cheapestAhead_24 (lv_at hl 0 rfl) ?_
          refine w_ci (As := [.int (nI (b))]) (rest := []) ⟨hx, hb, hml, hown, hts⟩ (c_A_isOpen l D cI cZ g a ha w h Q (fun r9 => rt_o (K r9)) hd bl rs hs ts rc hc tc (nI (b)) hG) (cwV 1 hts (t_gV k_methodLink_rn_S_101_y_A_isOpen k_instanceMethod_y_A_isOpen k_selects_rn_A_y_A_isOpen_y_A_isOpen k_initialized_rn_A k_code_y_A_isOpen_prog_3_method_11_code_2_some_boolean) rfl rfl rfl (by decide +kernel) ⟨Nat.le_of_ble_eq_true rfl, Nat.le_of_ble_eq_true rfl⟩) (va_recv hK hP (ci := 1) (q0 := 1) rfl rfl) hP hK hZ hS rfl hl.1 rfl (Nat.le_of_ble_eq_true rfl) d_S_cheapestAhead_26 ⟨Nat.zero_le _, Nat.zero_le _⟩ (fun r_26 u_26 H locs hw hP hS => ?_)
          subst hw
          have hP : va_P D vwCl (xw cI a w h Q (fun r9 => rt_o (K r9)) hd bl rs hs ts rc hc tc) H := hP
          rw [rt_opx_s (by omega) hb9]
          refine rw_beq (tgt := 78) hx hb d_S_cheapestAhead_29 (by decide) (fun c_29 => ?_) (fun c_29 => ?_)
          · refine lv_iinc (v := (nI (i + 1))) (lv' := [(5, .int (nI (i + 1))), (6, .int (nI (b))), (0, .ref (a 4)), (1, .ref (a 1)), (2, .int (nI (r))), (3, .int (rt_o (rt_best K (rt_px Q w h r i)))), (4, .int (nI (rt_lw K (rt_best K (rt_px Q w h r i)))))]) hx hb d_S_cheapestAhead_78 hl (k := 6) rfl (nI_add _ _) (by decide) rfl (fun ls hl => ?_)
            refine lv_goto (tgt := 8) hx hb d_S_cheapestAhead_81 (by decide) ?_
            have hl : lv_has ls 8 [(5, .int (nI (i + 1))), (6, .int (nI (b))), (0, .ref (a 4)), (1, .ref (a 1)), (2, .int (nI (r))), (3, .int (rt_o (rt_best K (rt_px Q w h r (i + 1))))), (4, .int (nI (rt_lw K (rt_best K (rt_px Q w h r (i + 1))))))] := by rw [rt_pxb_n (K := K) (by rw [ho_21]; exact rt_one_f c_29)]; exact hl
            exact ih_8 (i + 1) (by omega) _ _ _ hP hS (lv_sub hl [2, 3, 4, 5, 6, 0] rfl)
          · refine lv_aload_n hx hb d_S_cheapestAhead_32 rfl (lv_at hl 1 rfl) ?_
            refine va_get (D := D) (ci := 2) (v := .ref (a 5)) (C := rn_S) (T := tf_S) (N := 5) hx hb hts in_S hown hK hP 4 rfl rfl 0 (by decide) (hts _ k_fieldLink_rn_S_11_rn_S_found_I) (fun _ h9 => h9) rfl d_S_cheapestAhead_33 ?_
            refine lv_iload hx hb d_S_cheapestAhead_36 (lv_at hl 0 rfl) ?_
            refine rw_iald (v := (rt_o (K b))) hx hb hK hP 5 0 rfl rfl (by omega) (by omega) (rfl) d_S_cheapestAhead_38 ?_
            cases ho_39 : K b with
            | none =>
              refine lv_iconst (v := (-1)) hx hb d_S_cheapestAhead_39 (by decide) ?_
              refine lv_icmp_eq (tgt := 78) hx hb d_S_cheapestAhead_40 (by decide) (fun c_40 => ?_) (fun c_40 => ?_)
              · refine lv_iinc (v := (nI (i + 1))) (lv' := [(5, .int (nI (i + 1))), (6, .int (nI (b))), (0, .ref (a 4)), (1, .ref (a 1)), (2, .int (nI (r))), (3, .int (rt_o (rt_best K (rt_px Q w h r i)))), (4, .int (nI (rt_lw K (rt_best K (rt_px Q w h r i)))))]) hx hb d_S_cheapestAhead_78 hl (k := 6) rfl (nI_add _ _) (by decide) rfl (fun ls hl => ?_)
                refine lv_goto (tgt := 8) hx hb d_S_cheapestAhead_81 (by decide) ?_
                have hl : lv_has ls 8 [(5, .int (nI (i + 1))), (6, .int (nI (b))), (0, .ref (a 4)), (1, .ref (a 1)), (2, .int (nI (r))), (3, .int (rt_o (rt_best K (rt_px Q w h r (i + 1))))), (4, .int (nI (rt_lw K (rt_best K (rt_px Q w h r (i + 1))))))] := by rw [rt_pxb_s ho_21 c_29, rt_bs_n ho_39]; exact hl
                exact ih_8 (i + 1) (by omega) _ _ _ hP hS (lv_sub hl [2, 3, 4, 5, 6, 0] rfl)
              · exact absurd rfl c_40
            | some q =>
              have hq9 := hsm b q ho_39
              have hln := rt_ln_in b
              refine lv_iconst (v := (-1)) hx hb d_S_cheapestAhead_39 (by decide) ?_
              refine lv_icmp_eq (tgt := 78) hx hb d_S_cheapestAhead_40 (by decide) (fun c_40 => ?_) (fun c_40 => ?_)
              · exact absurd c_40 (rt_o_ne _ (by omega))
              · refine lv_aload_n hx hb d_S_cheapestAhead_43 rfl (lv_at hl 2 rfl) ?_
                refine lv_iload hx hb d_S_cheapestAhead_44 (lv_at hl 0 rfl) ?_
                refine w_ci (As := [.int (nI (b))]) (rest := []) ⟨hx, hb, hml, hown, hts⟩ (c_A_lengthOf l D cI cZ g a ha w h Q (fun r9 => rt_o (K r9)) hd bl rs hs ts rc hc tc b hG hb9) (cwV 1 hts (t_gV k_methodLink_rn_S_111_y_A_lengthOf k_instanceMethod_y_A_lengthOf k_selects_rn_A_y_A_lengthOf_y_A_lengthOf k_initialized_rn_A k_code_y_A_lengthOf_prog_3_method_13_code_2_some_int) rfl rfl rfl (by decide +kernel) ⟨Nat.le_of_ble_eq_true rfl, Nat.le_of_ble_eq_true rfl⟩) (va_recv hK hP (ci := 1) (q0 := 1) rfl rfl) hP hK hZ hS rfl hl.1 rfl (Nat.le_of_ble_eq_true rfl) d_S_cheapestAhead_46 ⟨Nat.zero_le _, Nat.zero_le _⟩ (fun r_46 u_46 H locs hw hP hS => ?_)
                subst hw
                have hP : va_P D vwCl (xw cI a w h Q (fun r9 => rt_o (K r9)) hd bl rs hs ts rc hc tc) H := hP
                refine lv_aload_n hx hb d_S_cheapestAhead_49 rfl (lv_at hl 1 rfl) ?_
                refine va_get (D := D) (ci := 2) (v := .ref (a 5)) (C := rn_S) (T := tf_S) (N := 5) hx hb hts in_S hown hK hP 4 rfl rfl 0 (by decide) (hts _ k_fieldLink_rn_S_11_rn_S_found_I) (fun _ h9 => h9) rfl d_S_cheapestAhead_50 ?_
                refine lv_iload hx hb d_S_cheapestAhead_53 (lv_at hl 0 rfl) ?_
                refine rw_iald (v := (nI (q))) hx hb hK hP 5 0 rfl rfl (by omega) (by omega) (by show rt_o (K b) = _; rw [ho_39]; rfl) d_S_cheapestAhead_55 ?_
                refine rw_add hx hb d_S_cheapestAhead_56 ?_
                refine lv_istore (lv' := [(7, .int (nI ((rt_ln b) + q))), (6, .int (nI (b))), (0, .ref (a 4)), (1, .ref (a 1)), (2, .int (nI (r))), (3, .int (rt_o (rt_best K (rt_px Q w h r i)))), (4, .int (nI (rt_lw K (rt_best K (rt_px Q w h r i))))), (5, .int (nI (i)))]) hx hb d_S_cheapestAhead_57 hl (by decide) rfl (fun ls hl => ?_)
                cases ho_59 : rt_best K (rt_px Q w h r i) with
                | none =>
                  rw [ho_59] at hl
                  have hl : lv_has ls 8 [(7, .int (nI ((rt_ln b) + q))), (6, .int (nI (b))), (0, .ref (a 4)), (1, .ref (a 1)), (2, .int (nI (r))), (3, .int (-1)), (4, .int (nI (rt_lw K (none)))), (5, .int (nI (i)))] := hl
                  refine lv_iload_n hx hb d_S_cheapestAhead_59 rfl (lv_at hl 5 rfl) ?_
                  refine lv_iconst (v := (-1)) hx hb d_S_cheapestAhead_60 (by decide) ?_
                  refine lv_icmp_eq (tgt := 71) hx hb d_S_cheapestAhead_61 (by decide) (fun c_61 => ?_) (fun c_61 => ?_)
                  · refine lv_iload hx hb d_S_cheapestAhead_71 (lv_at hl 1 rfl) ?_
                    refine lv_istore_n (lv' := [(3, .int (nI (b))), (7, .int (nI ((rt_ln b) + q))), (6, .int (nI (b))), (0, .ref (a 4)), (1, .ref (a 1)), (2, .int (nI (r))), (4, .int (nI (rt_lw K (none)))), (5, .int (nI (i)))]) hx hb d_S_cheapestAhead_73 rfl hl (by decide) rfl (fun ls hl => ?_)
                    refine lv_iload hx hb d_S_cheapestAhead_74 (lv_at hl 1 rfl) ?_
                    refine lv_istore (lv' := [(4, .int (nI ((rt_ln b) + q))), (3, .int (nI (b))), (7, .int (nI ((rt_ln b) + q))), (6, .int (nI (b))), (0, .ref (a 4)), (1, .ref (a 1)), (2, .int (nI (r))), (5, .int (nI (i)))]) hx hb d_S_cheapestAhead_76 hl (by decide) rfl (fun ls hl => ?_)
                    refine lv_iinc (v := (nI (i + 1))) (lv' := [(5, .int (nI (i + 1))), (4, .int (nI ((rt_ln b) + q))), (3, .int (nI (b))), (7, .int (nI ((rt_ln b) + q))), (6, .int (nI (b))), (0, .ref (a 4)), (1, .ref (a 1)), (2, .int (nI (r)))]) hx hb d_S_cheapestAhead_78 hl (k := 7) rfl (nI_add _ _) (by decide) rfl (fun ls hl => ?_)
                    refine lv_goto (tgt := 8) hx hb d_S_cheapestAhead_81 (by decide) ?_
                    have e4 : rt_lw K (some b) = rt_ln b + q := by show rt_ln b + (K b).getD 0 = _; rw [ho_39]; rfl
                    have hl : lv_has ls 8 [(5, .int (nI (i + 1))), (4, .int (nI (rt_lw K (rt_best K (rt_px Q w h r (i + 1)))))), (3, .int (rt_o (rt_best K (rt_px Q w h r (i + 1))))), (7, .int (nI ((rt_ln b) + q))), (6, .int (nI (b))), (0, .ref (a 4)), (1, .ref (a 1)), (2, .int (nI (r)))] := by rw [rt_pxb_s ho_21 c_29, ho_59, rt_bs_0 ho_39, e4]; exact hl
                    exact ih_8 (i + 1) (by omega) _ _ _ hP hS (lv_sub hl [5, 6, 7, 2, 1, 0] rfl)
                  · exact absurd rfl c_61
                | some g9 =>
                  rw [ho_59] at hl
                  have hl : lv_has ls 8 [(7, .int (nI ((rt_ln b) + q))), (6, .int (nI (b))), (0, .ref (a 4)), (1, .ref (a 1)), (2, .int (nI (r))), (3, .int (nI (g9))), (4, .int (nI (rt_lw K (some g9)))), (5, .int (nI (i)))] := hl
                  have hg9 := rt_best_lt ho_59
                  have hlw := rt_lw_le hsm (some g9)
                  refine lv_iload_n hx hb d_S_cheapestAhead_59 rfl (lv_at hl 5 rfl) ?_
                  refine lv_iconst (v := (-1)) hx hb d_S_cheapestAhead_60 (by decide) ?_
                  refine lv_icmp_eq (tgt := 71) hx hb d_S_cheapestAhead_61 (by decide) (fun c_61 => ?_) (fun c_61 => ?_)
                  · exact absurd c_61 (rt_o_ne _ (by omega))
                  · refine lv_iload hx hb d_S_cheapestAhead_64 (lv_at hl 0 rfl) ?_
                    refine lv_iload hx hb d_S_cheapestAhead_66 (lv_at hl 6 rfl) ?_
                    refine rw_cge (tgt := 78) hx hb d_S_cheapestAhead_68 (by decide) (by omega) (by omega) (fun c_68 => ?_) (fun c_68 => ?_)
                    · refine lv_iinc (v := (nI (i + 1))) (lv' := [(5, .int (nI (i + 1))), (7, .int (nI ((rt_ln b) + q))), (6, .int (nI (b))), (0, .ref (a 4)), (1, .ref (a 1)), (2, .int (nI (r))), (3, .int (nI (g9))), (4, .int (nI (rt_lw K (some g9))))]) hx hb d_S_cheapestAhead_78 hl (k := 7) rfl (nI_add _ _) (by decide) rfl (fun ls hl => ?_)
                      refine lv_goto (tgt := 8) hx hb d_S_cheapestAhead_81 (by decide) ?_
                      have hl : lv_has ls 8 [(5, .int (nI (i + 1))), (7, .int (nI ((rt_ln b) + q))), (6, .int (nI (b))), (0, .ref (a 4)), (1, .ref (a 1)), (2, .int (nI (r))), (3, .int (rt_o (rt_best K (rt_px Q w h r (i + 1))))), (4, .int (nI (rt_lw K (rt_best K (rt_px Q w h r (i + 1))))))] := by rw [rt_pxb_s ho_21 c_29, ho_59, rt_bs_f ho_39 (Nat.not_lt_of_le c_68)]; exact hl
                      exact ih_8 (i + 1) (by omega) _ _ _ hP hS (lv_sub hl [3, 4, 5, 6, 7, 0] rfl)
                    · refine lv_iload hx hb d_S_cheapestAhead_71 (lv_at hl 1 rfl) ?_
                      refine lv_istore_n (lv' := [(3, .int (nI (b))), (7, .int (nI ((rt_ln b) + q))), (6, .int (nI (b))), (0, .ref (a 4)), (1, .ref (a 1)), (2, .int (nI (r))), (4, .int (nI (rt_lw K (some g9)))), (5, .int (nI (i)))]) hx hb d_S_cheapestAhead_73 rfl hl (by decide) rfl (fun ls hl => ?_)
                      refine lv_iload hx hb d_S_cheapestAhead_74 (lv_at hl 1 rfl) ?_
                      refine lv_istore (lv' := [(4, .int (nI ((rt_ln b) + q))), (3, .int (nI (b))), (7, .int (nI ((rt_ln b) + q))), (6, .int (nI (b))), (0, .ref (a 4)), (1, .ref (a 1)), (2, .int (nI (r))), (5, .int (nI (i)))]) hx hb d_S_cheapestAhead_76 hl (by decide) rfl (fun ls hl => ?_)
                      refine lv_iinc (v := (nI (i + 1))) (lv' := [(5, .int (nI (i + 1))), (4, .int (nI ((rt_ln b) + q))), (3, .int (nI (b))), (7, .int (nI ((rt_ln b) + q))), (6, .int (nI (b))), (0, .ref (a 4)), (1, .ref (a 1)), (2, .int (nI (r)))]) hx hb d_S_cheapestAhead_78 hl (k := 7) rfl (nI_add _ _) (by decide) rfl (fun ls hl => ?_)
                      refine lv_goto (tgt := 8) hx hb d_S_cheapestAhead_81 (by decide) ?_
                      have e4 : rt_lw K (some b) = rt_ln b + q := by show rt_ln b + (K b).getD 0 = _; rw [ho_39]; rfl
                      have hl : lv_has ls 8 [(5, .int (nI (i + 1))), (4, .int (nI (rt_lw K (rt_best K (rt_px Q w h r (i + 1)))))), (3, .int (rt_o (rt_best K (rt_px Q w h r (i + 1))))), (7, .int (nI ((rt_ln b) + q))), (6, .int (nI (b))), (0, .ref (a 4)), (1, .ref (a 1)), (2, .int (nI (r)))] := by rw [rt_pxb_s ho_21 c_29, ho_59, rt_bs_t ho_39 (Nat.lt_of_not_le c_68), e4]; exact hl
                      exact ih_8 (i + 1) (by omega) _ _ _ hP hS (lv_sub hl [5, 6, 7, 2, 1, 0] rfl)
  exact LP_8 3 0 (by omega) _ _ _ hP hS (lv_sub hl [3, 4, 5, 2, 1, 0] rfl)
