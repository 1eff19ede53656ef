/-! Search, blocks: by program (wip/whole/gen/blocks2.py) -/
set_option maxHeartbeats 4000000 in
set_option maxRecDepth 100000 in
theorem c_S_floodBlock (l : Launch) (D : va_G) (cI cZ : ClassId) (g a : Nat → Nat) (ha : xI a) (w h : Nat) (Q : Nat → Nat) (ff : Nat → Int32) (hd bl : Int32) (rs : Nat → Int32) (hs ts : Int32) (rc : Nat → Int32) (hc tc : Int32) (G0 : Nat → Option Nat) (R : Nat → Nat) (lo : Nat) (hG : rt_G w h Q) (hlo : lo < 6 * (w * h)) (hBI : rt_bI Q w h G0 lo) (hn0 : G0 lo = none) (hq0 : Q lo ≠ 0) : Met l y_S_floodBlock (.code y_S_floodBlock b_S_floodBlock 5 none :: tG) ({ frames := 3, cells := 0, slots := 0, locals := 69 }) (va_Pc [.ref (a 4), .ref (a 1), .int (nI (lo))] (wU D cI cZ g (xA a) (xw cI a w h Q (fun r => rt_o (G0 r)) hd bl rs hs ts (fun j => nI (R j)) hc tc))) (va_Qv (S := ((Nat → Option Nat) × (Nat → Nat) × Nat × Nat)) (fun u => rt_bI Q w h u.1 (lo + 1) ∧ u.1 lo = some lo ∧ ∀ q, q < lo → u.1 q = G0 q) (wB D (fun (u : ((Nat → Option Nat) × (Nat → Nat) × Nat × Nat)) => (xw cI a w h Q (fun r => rt_o (u.1 r)) hd bl rs hs ts (fun j => nI (u.2.1 j)) (nI (u.2.2.1)) (nI (u.2.2.2))))) (xA a)) 0 0 (xA a) := by
  refine Met.ofW (cc := b_S_floodBlock) (maxL := 5) (ret := none) (by decide) rfl ?_
  intro p e s m args below meth c s₁ BD9 hml hv
  obtain ⟨rfl, hP, hK, hZ⟩ := hv
  have hx := BD9.exec
  have hb := BD9.bytes
  have hr := BD9.returns
  have hts : ∀ w ∈ tG, w.before _ s = true := fun w hw => atoms_spec (ws := .code y_S_floodBlock b_S_floodBlock 5 none :: tG) BD9.pre w (List.mem_cons_of_mem _ hw)
  have hown : s.vm.findClass rn_S = some m.cls := findClass_of_methodNamed BD9.named
  have hlocks := BD9.notSynchronized
  have hS : va_S (xA a) s.heap s.heap [] := va_S.rf
  have hD : va_D (xA a) (xw cI a w h Q (fun r => rt_o (G0 r)) hd bl rs hs ts (fun j => nI (R j)) hc tc) := x_D ha _ rfl
  have hP : va_P D vwCl (xw cI a w h Q (fun r => rt_o (G0 r)) hd bl rs hs ts (fun j => nI (R j)) hc tc) s.heap := hP
  have hl := lv_entry ([.ref (a 4), .ref (a 1), .int (nI (lo))]) (n := 5) (Nat.le_of_ble_eq_true rfl)
  rw [lg_entry_eq]
  generalize (lg_sl ([.ref (a 4), .ref (a 1), .int (nI (lo))]) ++ List.replicate (5 - (lg_sl ([.ref (a 4), .ref (a 1), .int (nI (lo))])).length) Slot.unset).toArray = ls at hl ⊢
  have hl : lv_has ls 5 [(0, .ref (a 4)), (1, .ref (a 1)), (2, .int (nI (lo)))] := hl
  obtain ⟨hn1, hn⟩ := hG.n
  have hw0 : 0 < w := by have := hG.1.1; omega
  have hQ := hG.2.2
  refine lv_aload_n hx hb d_S_floodBlock_0 rfl (lv_at hl 0 rfl) ?_
  refine va_get (D := D) (ci := 2) (v := .ref (a 8)) (C := rn_S) (T := tf_S) (N := 5) hx hb hts in_S hown hK hP 4 rfl rfl 2 (by decide) (hts _ k_fieldLink_rn_S_26_rn_S_curves_LRouteTracks_Queue) (fun _ h9 => h9) rfl d_S_floodBlock_1 ?_
  refine w_cv (As := []) (rest := []) ⟨hx, hb, hml, hown, hts⟩ (c_Q_clear_c l D cI cZ g a ha w h Q (fun r => rt_o (G0 r)) hd bl rs hs ts (fun j => nI (R j)) hc tc  hG) (cwV 0 hts (t_gV k_methodLink_rn_S_53_y_Q_clear k_instanceMethod_y_Q_clear k_selects_rn_Q_y_Q_clear_y_Q_clear k_initialized_rn_Q k_code_y_Q_clear_prog_2_method_2_code_1_none) rfl rfl rfl (by decide +kernel) ⟨Nat.le_of_ble_eq_true rfl, Nat.le_of_ble_eq_true rfl⟩) (va_recv hK hP (ci := 0) (q0 := 8) rfl rfl) hP hK hZ hS rfl hl.1 rfl (Nat.le_of_ble_eq_true rfl) d_S_floodBlock_4 ⟨Nat.zero_le _, Nat.zero_le _⟩ (fun u_4 H locs hw hP hS => ?_)
  have hP : va_P D vwCl (xw cI a w h Q (fun r => rt_o (G0 r)) hd bl rs hs ts (fun j => nI (R j)) (nI (0)) (nI (0))) H := hP
  have hD : va_D (xA a) (xw cI a w h Q (fun r => rt_o (G0 r)) hd bl rs hs ts (fun j => nI (R j)) (nI (0)) (nI (0))) := x_D ha _ rfl
  refine lv_aload_n hx hb d_S_floodBlock_7 rfl (lv_at hl 0 rfl) ?_
  refine lv_iload_n hx hb d_S_floodBlock_8 rfl (lv_at hl 2 rfl) ?_
  refine lv_iload_n hx hb d_S_floodBlock_9 rfl (lv_at hl 2 rfl) ?_
  refine w_cv (As := [.int (nI (lo)), .int (nI (lo))]) (rest := []) ⟨hx, hb, hml, hown, hts⟩ (c_S_join l D cI cZ g a ha w h Q (fun r => rt_o (G0 r)) hd bl rs hs ts (fun j => nI (R j)) (nI (0)) (nI (0)) G0 R 0 0 lo lo hG (by omega) (rt_bI_bd hn (by omega) hBI) (fun _ => by omega)) (cwV 2 hts (t_gV k_methodLink_rn_S_56_y_S_join k_instanceMethod_y_S_join k_selects_rn_S_y_S_join_y_S_join k_initialized_rn_S k_code_y_S_join_prog_4_method_7_code_3_none) rfl rfl rfl (by decide +kernel) ⟨Nat.le_of_ble_eq_true rfl, Nat.le_of_ble_eq_true rfl⟩) (va_recv hK hP (ci := 2) (q0 := 4) rfl rfl) hP hK hZ hS rfl hl.1 rfl (Nat.le_of_ble_eq_true rfl) d_S_floodBlock_10 ⟨Nat.zero_le _, Nat.zero_le _⟩ (fun u_10 H locs hw hP hS => ?_)
  rw [rt_jn_t hn0] at hw
  subst hw
  have hP : va_P D vwCl (xw cI a w h Q (fun r => rt_o (va_up G0 lo (some lo) r)) hd bl rs hs ts (fun j => nI (va_up R 0 lo j)) (nI (0)) (nI (0 + 1))) H := hP
  have hD : va_D (xA a) (xw cI a w h Q (fun r => rt_o (va_up G0 lo (some lo) r)) hd bl rs hs ts (fun j => nI (va_up R 0 lo j)) (nI (0)) (nI (0 + 1))) := x_D ha _ rfl
  refine lv_iconst (v := (nI (0))) hx hb d_S_floodBlock_13 (by decide) ?_
  refine lv_istore_n (lv' := [(3, .int (nI (0))), (0, .ref (a 4)), (1, .ref (a 1)), (2, .int (nI (lo)))]) hx hb d_S_floodBlock_14 rfl hl (by decide) rfl (fun ls hl => ?_)
  have LP_15 : ∀ (n_15 : Nat) (i : Nat) (F : Nat → Option Nat) (R : Nat → Nat) (y : Nat), i + n_15 = 12 * (w * h) → (rt_fI Q w h G0 lo F R i y (fun _ _ => False)) → ∀ (H : Heap) (locs : List Loc) (ls : Array Slot), va_P D vwCl (xw cI a w h Q (fun r => rt_o (F r)) hd bl rs hs ts (fun j => nI (R j)) (nI (i)) (nI (y))) H → va_S (xA a) s.heap H locs → lv_has ls 5 [(0, .ref (a 4)), (1, .ref (a 1)), (2, .int (nI (lo))), (3, .int (nI (i)))] → W p l e (headSpec (.code y_S_floodBlock b_S_floodBlock 5 none :: tG) ({ frames := 3, cells := 0, slots := 0, locals := 69 })).room s m ([.ref (a 4), .ref (a 1), .int (nI (lo))] : List Value).toArray below meth c H locs 0 0 (MQ below (va_Qv (S := ((Nat → Option Nat) × (Nat → Nat) × Nat × Nat)) (fun u => rt_bI Q w h u.1 (lo + 1) ∧ u.1 lo = some lo ∧ ∀ q, q < lo → u.1 q = G0 q) (wB D (fun (u : ((Nat → Option Nat) × (Nat → Nat) × Nat × Nat)) => (xw cI a w h Q (fun r => rt_o (u.1 r)) hd bl rs hs ts (fun j => nI (u.2.1 j)) (nI (u.2.2.1)) (nI (u.2.2.2))))) (xA a)) ([.ref (a 4), .ref (a 1), .int (nI (lo))] : List Value).toArray s 0 0 (xA a)) (F0 m 15 ls []) := by
    intro n_15
    induction n_15 with
    | zero =>
      intro i F R y hrel_15 hI H locs ls hP hS hl
      have hD : va_D (xA a) (xw cI a w h Q (fun r => rt_o (F r)) hd bl rs hs ts (fun j => nI (R j)) (nI (i)) (nI (y))) := x_D ha _ rfl
      refine lv_iload_n hx hb d_S_floodBlock_15 rfl (lv_at hl 3 rfl) ?_
      refine lv_aload_n hx hb d_S_floodBlock_16 rfl (lv_at hl 0 rfl) ?_
      refine va_get (D := D) (ci := 2) (v := .ref (a 5)) (C := rn_S) (T := tf_S) (N := 5) hx hb hts in_S hown hK hP 4 rfl rfl 0 (by decide) (hts _ k_fieldLink_rn_S_11_rn_S_found_I) (fun _ h9 => h9) rfl d_S_floodBlock_17 ?_
      refine va_alen (v := nI (12 * (w * h))) hx hb hK hP 5 0 rfl rfl rfl d_S_floodBlock_20 ?_
      refine rw_cge (tgt := 79) hx hb d_S_floodBlock_21 (by decide) (by omega) (by omega) (fun c_21 => ?_) (fun c_21 => ?_)
      · exfalso
        have h1 := rt_fI_cap hQ hI
        have h2 := hI.1
        omega
      · omega
    | succ n_15 ih_15 =>
      intro i F R y hrel_15 hI H locs ls hP hS hl
      have hD : va_D (xA a) (xw cI a w h Q (fun r => rt_o (F r)) hd bl rs hs ts (fun j => nI (R j)) (nI (i)) (nI (y))) := x_D ha _ rfl
      refine lv_iload_n hx hb d_S_floodBlock_15 rfl (lv_at hl 3 rfl) ?_
      refine lv_aload_n hx hb d_S_floodBlock_16 rfl (lv_at hl 0 rfl) ?_
      refine va_get (D := D) (ci := 2) (v := .ref (a 5)) (C := rn_S) (T := tf_S) (N := 5) hx hb hts in_S hown hK hP 4 rfl rfl 0 (by decide) (hts _ k_fieldLink_rn_S_11_rn_S_found_I) (fun _ h9 => h9) rfl d_S_floodBlock_17 ?_
      refine va_alen (v := nI (12 * (w * h))) hx hb hK hP 5 0 rfl rfl rfl d_S_floodBlock_20 ?_
      refine rw_cge (tgt := 79) hx hb d_S_floodBlock_21 (by decide) (by omega) (by omega) (fun c_21 => ?_) (fun c_21 => ?_)
      · omega
      · refine lv_aload_n hx hb d_S_floodBlock_24 rfl (lv_at hl 0 rfl) ?_
        refine va_get (D := D) (ci := 2) (v := .ref (a 8)) (C := rn_S) (T := tf_S) (N := 5) hx hb hts in_S hown hK hP 4 rfl rfl 2 (by decide) (hts _ k_fieldLink_rn_S_26_rn_S_curves_LRouteTracks_Queue) (fun _ h9 => h9) rfl d_S_floodBlock_25 ?_
        refine w_ci (As := []) (rest := []) ⟨hx, hb, hml, hown, hts⟩ (c_Q_isEmpty_c l D cI cZ g a ha w h Q (fun r => rt_o (F r)) hd bl rs hs ts (fun j => nI (R j)) (nI (i)) (nI (y)) R i y hG (by omega) (by have := rt_fI_cap hQ hI; omega)) (cwV 0 hts (t_gV k_methodLink_rn_S_60_y_Q_isEmpty k_instanceMethod_y_Q_isEmpty k_selects_rn_Q_y_Q_isEmpty_y_Q_isEmpty k_initialized_rn_Q k_code_y_Q_isEmpty_prog_2_method_3_code_1_some_boolean) rfl rfl rfl (by decide +kernel) ⟨Nat.le_of_ble_eq_true rfl, Nat.le_of_ble_eq_true rfl⟩) (va_recv hK hP (ci := 0) (q0 := 8) rfl rfl) hP hK hZ hS rfl hl.1 rfl (Nat.le_of_ble_eq_true rfl) d_S_floodBlock_28 ⟨Nat.zero_le _, Nat.zero_le _⟩ (fun r_28 u_28 H locs hw hP hS => ?_)
        subst hw
        have hP : va_P D vwCl (xw cI a w h Q (fun r => rt_o (F r)) hd bl rs hs ts (fun j => nI (R j)) (nI (i)) (nI (y))) H := hP
        refine rw_bne (tgt := 79) hx hb d_S_floodBlock_31 (by decide) (fun c_31 => ?_) (fun c_31 => ?_)
        · obtain rfl : i = y := by have h1 := hI.1; have h2 := of_decide_eq_true c_31; omega
          exact w_vret (F, R, i, i) hx hb hr hlocks hS hP (rt_fI_end hBI hI) d_S_floodBlock_79
        · refine lv_aload_n hx hb d_S_floodBlock_34 rfl (lv_at hl 0 rfl) ?_
          refine va_get (D := D) (ci := 2) (v := .ref (a 8)) (C := rn_S) (T := tf_S) (N := 5) hx hb hts in_S hown hK hP 4 rfl rfl 2 (by decide) (hts _ k_fieldLink_rn_S_26_rn_S_curves_LRouteTracks_Queue) (fun _ h9 => h9) rfl d_S_floodBlock_35 ?_
          refine w_ci (As := []) (rest := []) ⟨hx, hb, hml, hown, hts⟩ (c_Q_take_c l D cI cZ g a ha w h Q (fun r => rt_o (F r)) hd bl rs hs ts (fun j => nI (R j)) (nI (i)) (nI (y)) R i y hG (by omega) (by have := rt_fI_cap hQ hI; omega)) (cwV 0 hts (t_gV k_methodLink_rn_S_64_y_Q_take k_instanceMethod_y_Q_take k_selects_rn_Q_y_Q_take_y_Q_take k_initialized_rn_Q k_code_y_Q_take_prog_2_method_6_code_2_some_int) rfl rfl rfl (by decide +kernel) ⟨Nat.le_of_ble_eq_true rfl, Nat.le_of_ble_eq_true rfl⟩) (va_recv hK hP (ci := 0) (q0 := 8) rfl rfl) hP hK hZ hS rfl hl.1 rfl (Nat.le_of_ble_eq_true rfl) d_S_floodBlock_38 ⟨Nat.zero_le _, Nat.zero_le _⟩ (fun r_38 u_38 H locs hw hP hS => ?_)
          have hlt : i < y := by have := of_decide_eq_false c_31; omega
          rw [if_pos hlt, if_pos hlt] at hw
          obtain ⟨hw1, hw2⟩ := hw
          subst hw1
          subst hw2
          obtain ⟨k, hk⟩ : ∃ k, k = R i := ⟨_, rfl⟩
          have hJ := rt_fJ_take hI hlt
          rw [← hk] at hJ
          have hk6 : k < 6 * (w * h) := rt_ok_in hQ (rt_fJ_k hJ)
          refine rw_topI (b := nI k) (by rw [hk]; rfl) ?_
          have hP : va_P D vwCl (xw cI a w h Q (fun r => rt_o (F r)) hd bl rs hs ts (fun j => nI (R j)) (nI (i + 1)) (nI (y))) H := hP
          have hD : va_D (xA a) (xw cI a w h Q (fun r => rt_o (F r)) hd bl rs hs ts (fun j => nI (R j)) (nI (i + 1)) (nI (y))) := x_D ha _ rfl
          refine lv_istore (lv' := [(4, .int (nI (k))), (0, .ref (a 4)), (1, .ref (a 1)), (2, .int (nI (lo))), (3, .int (nI (i)))]) hx hb d_S_floodBlock_41 hl (by decide) rfl (fun ls hl => ?_)
          refine lv_aload_n hx hb d_S_floodBlock_43 rfl (lv_at hl 1 rfl) ?_
          refine lv_aload_n hx hb d_S_floodBlock_44 rfl (lv_at hl 2 rfl) ?_
          refine lv_iload hx hb d_S_floodBlock_45 (lv_at hl 0 rfl) ?_
          refine lv_iload_n hx hb d_S_floodBlock_47 rfl (lv_at hl 3 rfl) ?_
          refine w_cv (As := [.ref (a 1), .int (nI (k)), .int (nI (lo))]) (rest := []) ⟨hx, hb, hml, hown, hts⟩ (c_S_joinMeeting l D cI cZ g a ha w h Q (fun r => rt_o (F r)) hd bl rs hs ts (fun j => nI (R j)) (nI (i + 1)) (nI (y)) G0 F R (i + 1) y k lo (fun _ => True) hG hlo hBI hJ hk6) (cwV 3 hts (t_gV k_methodLink_rn_S_68_y_S_joinMeeting k_instanceMethod_y_S_joinMeeting k_selects_rn_S_y_S_joinMeeting_y_S_joinMeeting k_initialized_rn_S k_code_y_S_joinMeeting_prog_4_method_5_code_7_none) rfl rfl rfl (by decide +kernel) ⟨Nat.le_of_ble_eq_true rfl, Nat.le_of_ble_eq_true rfl⟩) (va_recv hK hP (ci := 2) (q0 := 4) rfl rfl) hP hK hZ hS rfl hl.1 rfl (Nat.le_of_ble_eq_true rfl) d_S_floodBlock_48 ⟨Nat.zero_le _, Nat.zero_le _⟩ (fun u_48 H locs hw hP hS => ?_)
          obtain ⟨F1, R1, y1⟩ := u_48
          have hP : va_P D vwCl (xw cI a w h Q (fun r => rt_o (F1 r)) hd bl rs hs ts (fun j => nI (R1 j)) (nI (i + 1)) (nI (y1))) H := hP
          have hD : va_D (xA a) (xw cI a w h Q (fun r => rt_o (F1 r)) hd bl rs hs ts (fun j => nI (R1 j)) (nI (i + 1)) (nI (y1))) := x_D ha _ rfl
          have hJ1 := hw
          refine lv_aload_n hx hb d_S_floodBlock_51 rfl (lv_at hl 1 rfl) ?_
          refine lv_aload_n hx hb d_S_floodBlock_52 rfl (lv_at hl 2 rfl) ?_
          refine lv_iconst (v := (nI (2))) hx hb d_S_floodBlock_53 (by decide) ?_
          refine lv_iload hx hb d_S_floodBlock_54 (lv_at hl 0 rfl) ?_
          refine rw_mul hx hb d_S_floodBlock_56 ?_
          refine lv_iload_n hx hb d_S_floodBlock_57 rfl (lv_at hl 3 rfl) ?_
          refine w_cv (As := [.ref (a 1), .int (nI (2 * k)), .int (nI (lo))]) (rest := []) ⟨hx, hb, hml, hown, hts⟩ (c_S_joinAcross l D cI cZ g a ha w h Q (fun r => rt_o (F1 r)) hd bl rs hs ts (fun j => nI (R1 j)) (nI (i + 1)) (nI (y1)) G0 F1 R1 (i + 1) y1 k lo _ 0 hG hlo hBI hJ1 hk6 (by decide)) (cwV 3 hts (t_gV k_methodLink_rn_S_72_y_S_joinAcross k_instanceMethod_y_S_joinAcross k_selects_rn_S_y_S_joinAcross_y_S_joinAcross k_initialized_rn_S k_code_y_S_joinAcross_prog_4_method_6_code_6_none) rfl rfl rfl (by decide +kernel) ⟨Nat.le_of_ble_eq_true rfl, Nat.le_of_ble_eq_true rfl⟩) (va_recv hK hP (ci := 2) (q0 := 4) rfl rfl) hP hK hZ hS rfl hl.1 rfl (Nat.le_of_ble_eq_true rfl) d_S_floodBlock_58 ⟨Nat.zero_le _, Nat.zero_le _⟩ (fun u_58 H locs hw hP hS => ?_)
          obtain ⟨F2, R2, y2⟩ := u_58
          have hP : va_P D vwCl (xw cI a w h Q (fun r => rt_o (F2 r)) hd bl rs hs ts (fun j => nI (R2 j)) (nI (i + 1)) (nI (y2))) H := hP
          have hD : va_D (xA a) (xw cI a w h Q (fun r => rt_o (F2 r)) hd bl rs hs ts (fun j => nI (R2 j)) (nI (i + 1)) (nI (y2))) := x_D ha _ rfl
          have hJ2 := hw
          refine lv_aload_n hx hb d_S_floodBlock_61 rfl (lv_at hl 1 rfl) ?_
          refine lv_aload_n hx hb d_S_floodBlock_62 rfl (lv_at hl 2 rfl) ?_
          refine lv_iconst (v := (nI (2))) hx hb d_S_floodBlock_63 (by decide) ?_
          refine lv_iload hx hb d_S_floodBlock_64 (lv_at hl 0 rfl) ?_
          refine rw_mul hx hb d_S_floodBlock_66 ?_
          refine lv_iconst (v := (nI (1))) hx hb d_S_floodBlock_67 (by decide) ?_
          refine rw_add hx hb d_S_floodBlock_68 ?_
          refine lv_iload_n hx hb d_S_floodBlock_69 rfl (lv_at hl 3 rfl) ?_
          refine w_cv (As := [.ref (a 1), .int (nI ((2 * k) + 1)), .int (nI (lo))]) (rest := []) ⟨hx, hb, hml, hown, hts⟩ (c_S_joinAcross l D cI cZ g a ha w h Q (fun r => rt_o (F2 r)) hd bl rs hs ts (fun j => nI (R2 j)) (nI (i + 1)) (nI (y2)) G0 F2 R2 (i + 1) y2 k lo _ 1 hG hlo hBI hJ2 hk6 (by decide)) (cwV 3 hts (t_gV k_methodLink_rn_S_72_y_S_joinAcross k_instanceMethod_y_S_joinAcross k_selects_rn_S_y_S_joinAcross_y_S_joinAcross k_initialized_rn_S k_code_y_S_joinAcross_prog_4_method_6_code_6_none) rfl rfl rfl (by decide +kernel) ⟨Nat.le_of_ble_eq_true rfl, Nat.le_of_ble_eq_true rfl⟩) (va_recv hK hP (ci := 2) (q0 := 4) rfl rfl) hP hK hZ hS rfl hl.1 rfl (Nat.le_of_ble_eq_true rfl) d_S_floodBlock_70 ⟨Nat.zero_le _, Nat.zero_le _⟩ (fun u_70 H locs hw hP hS => ?_)
          obtain ⟨F3, R3, y3⟩ := u_70
          have hP : va_P D vwCl (xw cI a w h Q (fun r => rt_o (F3 r)) hd bl rs hs ts (fun j => nI (R3 j)) (nI (i + 1)) (nI (y3))) H := hP
          have hD : va_D (xA a) (xw cI a w h Q (fun r => rt_o (F3 r)) hd bl rs hs ts (fun j => nI (R3 j)) (nI (i + 1)) (nI (y3))) := x_D ha _ rfl
          have hJ3 := hw
          refine lv_iinc (v := (nI (i + 1))) (lv' := [(3, .int (nI (i + 1))), (4, .int (nI (k))), (0, .ref (a 4)), (1, .ref (a 1)), (2, .int (nI (lo)))]) hx hb d_S_floodBlock_73 hl (k := 4) rfl (nI_add _ _) (by decide) rfl (fun ls hl => ?_)
          refine lv_goto (tgt := 15) hx hb d_S_floodBlock_76 (by decide) ?_
          exact ih_15 (i + 1) F3 R3 y3 (by omega) (rt_fJ_all hJ3) _ _ _ hP hS (lv_sub hl [2, 3, 4, 0] rfl)
  exact LP_15 (12 * (w * h)) 0 _ _ (0 + 1) (by omega) (rt_fI_0 hBI hq0 hn0) _ _ _ hP hS (lv_sub hl [1, 2, 3, 0] rfl)

set_option maxHeartbeats 4000000 in
set_option maxRecDepth 100000 in
theorem c_S_findBlocks (l : Launch) (D : va_G) (cI cZ : ClassId) (g a : Nat → Nat) (ha : xI a) (w h : Nat) (Q : Nat → Nat) (ff : Nat → Int32) (hd bl : Int32) (rs : Nat → Int32) (hs ts : Int32) (rc : Nat → Int32) (hc tc : Int32)  (hG : rt_G w h Q) (hk0 : rt_hk Q w h hd ff bl) : Met l y_S_findBlocks (.code y_S_findBlocks b_S_findBlocks 3 none :: tG) ({ frames := 4, cells := 0, slots := 0, locals := 93 }) (va_Pc [.ref (a 4), .ref (a 1)] (wU D cI cZ g (xA a) (xw cI a w h Q ff hd bl rs hs ts rc hc tc))) (va_Qv (S := ((Nat → Int32) × Int32 × (Nat → Int32) × Int32 × Int32)) (fun u => rt_hB Q w h u.1 u.2.1) (wB D (fun (u : ((Nat → Int32) × Int32 × (Nat → Int32) × Int32 × Int32)) => (xw cI a w h Q u.1 (nI 8) u.2.1 rs hs ts u.2.2.1 u.2.2.2.1 u.2.2.2.2))) (xA a)) 0 0 (xA a) := by
  refine Met.ofW (cc := b_S_findBlocks) (maxL := 3) (ret := none) (by decide) rfl ?_
  intro p e s m args below meth c s₁ BD9 hml hv
  obtain ⟨rfl, hP, hK, hZ⟩ := hv
  have hx := BD9.exec
  have hb := BD9.bytes
  have hr := BD9.returns
  have hts : ∀ w ∈ tG, w.before _ s = true := fun w hw => atoms_spec (ws := .code y_S_findBlocks b_S_findBlocks 3 none :: tG) BD9.pre w (List.mem_cons_of_mem _ hw)
  have hown : s.vm.findClass rn_S = some m.cls := findClass_of_methodNamed BD9.named
  have hlocks := BD9.notSynchronized
  have hS : va_S (xA a) s.heap s.heap [] := va_S.rf
  have hD : va_D (xA a) (xw cI a w h Q ff hd bl rs hs ts rc hc tc) := x_D ha _ rfl
  have hP : va_P D vwCl (xw cI a w h Q ff hd bl rs hs ts rc hc tc) s.heap := hP
  have hl := lv_entry ([.ref (a 4), .ref (a 1)]) (n := 3) (Nat.le_of_ble_eq_true rfl)
  rw [lg_entry_eq]
  generalize (lg_sl ([.ref (a 4), .ref (a 1)]) ++ List.replicate (3 - (lg_sl ([.ref (a 4), .ref (a 1)])).length) Slot.unset).toArray = ls at hl ⊢
  have hl : lv_has ls 3 [(0, .ref (a 4)), (1, .ref (a 1))] := hl
  obtain ⟨hn1, hn⟩ := hG.n
  have hw0 : 0 < w := by have := hG.1.1; omega
  have hQ := hG.2.2
  refine lv_aload_n hx hb d_S_findBlocks_0 rfl (lv_at hl 0 rfl) ?_
  refine va_get (D := D) (ci := 2) (v := .int (hd)) (C := rn_S) (T := tf_S) (N := 5) hx hb hts in_S hown hK hP 4 rfl rfl 3 (by decide) (hts _ k_fieldLink_rn_S_29_rn_S_held_I) (fun _ h9 => h9) rfl d_S_findBlocks_1 ?_
  refine lv_bipush (v := (nI (8))) hx hb d_S_findBlocks_4 (by decide) ?_
  refine lv_icmp_ne (tgt := 10) hx hb d_S_findBlocks_6 (by decide) (fun c_6 => ?_) (fun c_6 => ?_)
  · refine lv_aload_n hx hb d_S_findBlocks_10 rfl (lv_at hl 0 rfl) ?_
    refine lv_bipush (v := (nI (8))) hx hb d_S_findBlocks_11 (by decide) ?_
    refine va_put (D := D) (ci := 2) (v := .int (nI (8))) (ty := .int) (C := rn_S) (T := tf_S) (N := 5) hx hb hts in_S tt_S tt_S_ok nm_S hown hK hP hD hS 4 rfl rfl 3 (by decide) (hts _ k_fieldLink_rn_S_29_rn_S_held_I) (fun _ h9 => h9) rfl (by decide +kernel) rfl rfl (Nat.le_of_ble_eq_true rfl) d_S_findBlocks_13 (fun H locs hP hD hS => ?_)
    have hP : va_P D vwCl (xw cI a w h Q ff (nI (8)) bl rs hs ts rc hc tc) H := hP
    have hD : va_D (xA a) (xw cI a w h Q ff (nI (8)) bl rs hs ts rc hc tc) := x_D ha _ rfl
    refine lv_aload_n hx hb d_S_findBlocks_16 rfl (lv_at hl 0 rfl) ?_
    refine lv_iconst (v := (nI (0))) hx hb d_S_findBlocks_17 (by decide) ?_
    refine va_put (D := D) (ci := 2) (v := .int (nI (0))) (ty := .int) (C := rn_S) (T := tf_S) (N := 5) hx hb hts in_S tt_S tt_S_ok nm_S hown hK hP hD hS 4 rfl rfl 4 (by decide) (hts _ k_fieldLink_rn_S_33_rn_S_blocks_I) (fun _ h9 => h9) rfl (by decide +kernel) rfl rfl (Nat.le_of_ble_eq_true rfl) d_S_findBlocks_18 (fun H locs hP hD hS => ?_)
    have hP : va_P D vwCl (xw cI a w h Q ff (nI (8)) (nI (0)) rs hs ts rc hc tc) H := hP
    have hD : va_D (xA a) (xw cI a w h Q ff (nI (8)) (nI (0)) rs hs ts rc hc tc) := x_D ha _ rfl
    refine lv_aload_n hx hb d_S_findBlocks_21 rfl (lv_at hl 0 rfl) ?_
    refine va_get (D := D) (ci := 2) (v := .ref (a 5)) (C := rn_S) (T := tf_S) (N := 5) hx hb hts in_S hown hK hP 4 rfl rfl 0 (by decide) (hts _ k_fieldLink_rn_S_11_rn_S_found_I) (fun _ h9 => h9) rfl d_S_findBlocks_22 ?_
    refine lv_iconst (v := (-1)) hx hb d_S_findBlocks_25 (by decide) ?_
    refine w_sv (As := [.ref (a 5), .int (-1)]) (rest := []) ⟨hx, hb, hml, hown, hts⟩ (c_JA_fill l D cI cZ g a ha w h Q ff (nI (8)) (nI (0)) rs hs ts rc hc tc (-1) hG) (va_cwS 2 hts (t_gS k_methodLink_rn_S_36_y_JA_fill k_static_y_JA_fill k_initialized_rn_JA k_code_y_JA_fill_prog_14_method_103_code_4_none) rfl rfl rfl (by decide +kernel) ⟨Nat.le_of_ble_eq_true rfl, Nat.le_of_ble_eq_true rfl⟩) hP hK hZ hS rfl hl.1 rfl (Nat.le_of_ble_eq_true rfl) d_S_findBlocks_26 ⟨Nat.zero_le _, Nat.zero_le _⟩ (fun u_26 H locs hw hP hS => ?_)
    have hP : va_P D vwCl (xw cI a w h Q (fun r => rt_o ((fun _ => none) r)) (nI (8)) (nI (0)) rs hs ts rc hc tc) H := hP
    have hD : va_D (xA a) (xw cI a w h Q (fun r => rt_o ((fun _ => none) r)) (nI (8)) (nI (0)) rs hs ts rc hc tc) := x_D ha _ rfl
    obtain ⟨R, rfl⟩ := rt_rN rc
    have hP : va_P D vwCl (xw cI a w h Q (fun r => rt_o ((fun _ => none) r)) (nI (8)) (nI (rt_cB (fun _ => none) 0)) rs hs ts (fun j => nI (R j)) hc tc) H := hP
    have hD : va_D (xA a) (xw cI a w h Q (fun r => rt_o ((fun _ => none) r)) (nI (8)) (nI (rt_cB (fun _ => none) 0)) rs hs ts (fun j => nI (R j)) hc tc) := x_D ha _ rfl
    refine lv_iconst (v := (nI (0))) hx hb d_S_findBlocks_29 (by decide) ?_
    refine lv_istore_n (lv' := [(2, .int (nI (0))), (0, .ref (a 4)), (1, .ref (a 1))]) hx hb d_S_findBlocks_30 rfl hl (by decide) rfl (fun ls hl => ?_)
    have LP_31 : ∀ (n_31 : Nat) (k : Nat) (F : Nat → Option Nat) (R : Nat → Nat) (xc : Int32) (yc : Int32), k + n_31 = 6 * (w * h) → (rt_bI Q w h F k) → ∀ (H : Heap) (locs : List Loc) (ls : Array Slot), va_P D vwCl (xw cI a w h Q (fun r => rt_o (F r)) (nI (8)) (nI (rt_cB F k)) rs hs ts (fun j => nI (R j)) xc yc) H → va_S (xA a) s.heap H locs → lv_has ls 3 [(0, .ref (a 4)), (1, .ref (a 1)), (2, .int (nI (k)))] → W p l e (headSpec (.code y_S_findBlocks b_S_findBlocks 3 none :: tG) ({ frames := 4, cells := 0, slots := 0, locals := 93 })).room s m ([.ref (a 4), .ref (a 1)] : List Value).toArray below meth c H locs 0 0 (MQ below (va_Qv (S := ((Nat → Int32) × Int32 × (Nat → Int32) × Int32 × Int32)) (fun u => rt_hB Q w h u.1 u.2.1) (wB D (fun (u : ((Nat → Int32) × Int32 × (Nat → Int32) × Int32 × Int32)) => (xw cI a w h Q u.1 (nI 8) u.2.1 rs hs ts u.2.2.1 u.2.2.2.1 u.2.2.2.2))) (xA a)) ([.ref (a 4), .ref (a 1)] : List Value).toArray s 0 0 (xA a)) (F0 m 31 ls []) := by
      intro n_31
      induction n_31 with
      | zero =>
        intro k F R xc yc hrel_31 hI H locs ls hP hS hl
        have hD : va_D (xA a) (xw cI a w h Q (fun r => rt_o (F r)) (nI (8)) (nI (rt_cB F k)) rs hs ts (fun j => nI (R j)) xc yc) := x_D ha _ rfl
        refine lv_iload_n hx hb d_S_findBlocks_31 rfl (lv_at hl 2 rfl) ?_
        refine lv_aload_n hx hb d_S_findBlocks_32 rfl (lv_at hl 1 rfl) ?_
        refine va_get (D := D) (ci := 1) (v := .ref (a 3)) (C := rn_A) (T := tf_A) (N := 2) hx hb hts in_A hown hK hP 1 rfl rfl 1 (by decide) (hts _ k_fieldLink_rn_S_42_rn_A_pieces_I) (fun _ h9 => h9) rfl d_S_findBlocks_33 ?_
        refine va_alen (v := nI (6 * (w * h))) hx hb hK hP 3 0 rfl rfl rfl d_S_findBlocks_36 ?_
        refine rw_cge (tgt := 80) hx hb d_S_findBlocks_37 (by decide) (by omega) (by omega) (fun c_37 => ?_) (fun c_37 => ?_)
        · obtain rfl : k = 6 * (w * h) := by omega
          exact w_vret (_, _, _, _, _) hx hb hr hlocks hS hP (rt_bI_hB hQ hI) d_S_findBlocks_80
        · omega
      | succ n_31 ih_31 =>
        intro k F R xc yc hrel_31 hI H locs ls hP hS hl
        have hD : va_D (xA a) (xw cI a w h Q (fun r => rt_o (F r)) (nI (8)) (nI (rt_cB F k)) rs hs ts (fun j => nI (R j)) xc yc) := x_D ha _ rfl
        refine lv_iload_n hx hb d_S_findBlocks_31 rfl (lv_at hl 2 rfl) ?_
        refine lv_aload_n hx hb d_S_findBlocks_32 rfl (lv_at hl 1 rfl) ?_
        refine va_get (D := D) (ci := 1) (v := .ref (a 3)) (C := rn_A) (T := tf_A) (N := 2) hx hb hts in_A hown hK hP 1 rfl rfl 1 (by decide) (hts _ k_fieldLink_rn_S_42_rn_A_pieces_I) (fun _ h9 => h9) rfl d_S_findBlocks_33 ?_
        refine va_alen (v := nI (6 * (w * h))) hx hb hK hP 3 0 rfl rfl rfl d_S_findBlocks_36 ?_
        refine rw_cge (tgt := 80) hx hb d_S_findBlocks_37 (by decide) (by omega) (by omega) (fun c_37 => ?_) (fun c_37 => ?_)
        · omega
        · refine lv_aload_n hx hb d_S_findBlocks_40 rfl (lv_at hl 1 rfl) ?_
          refine lv_iload_n hx hb d_S_findBlocks_41 rfl (lv_at hl 2 rfl) ?_
          refine w_ci (As := [.int (nI (k))]) (rest := []) ⟨hx, hb, hml, hown, hts⟩ (c_A_isThere l D cI cZ g a ha w h Q (fun r => rt_o (F r)) (nI (8)) (nI (rt_cB F k)) rs hs ts (fun j => nI (R j)) xc yc k hG (by omega)) (cwV 1 hts (t_gV k_methodLink_rn_S_45_y_A_isThere k_instanceMethod_y_A_isThere k_selects_rn_A_y_A_isThere_y_A_isThere k_initialized_rn_A k_code_y_A_isThere_prog_3_method_5_code_2_some_boolean) rfl rfl rfl (by decide +kernel) ⟨Nat.le_of_ble_eq_true rfl, Nat.le_of_ble_eq_true rfl⟩) (va_recv hK hP (ci := 1) (q0 := 1) rfl rfl) hP hK hZ hS rfl hl.1 rfl (Nat.le_of_ble_eq_true rfl) d_S_findBlocks_42 ⟨Nat.zero_le _, Nat.zero_le _⟩ (fun r_42 u_42 H locs hw hP hS => ?_)
          subst hw
          have hP : va_P D vwCl (xw cI a w h Q (fun r => rt_o (F r)) (nI (8)) (nI (rt_cB F k)) rs hs ts (fun j => nI (R j)) xc yc) H := hP
          refine rw_beq (tgt := 74) hx hb d_S_findBlocks_45 (by decide) (fun c_45 => ?_) (fun c_45 => ?_)
          · refine lv_iinc (v := (nI (k + 1))) (lv' := [(2, .int (nI (k + 1))), (0, .ref (a 4)), (1, .ref (a 1))]) hx hb d_S_findBlocks_74 hl (k := 2) rfl (nI_add _ _) (by decide) rfl (fun ls hl => ?_)
            refine lv_goto (tgt := 31) hx hb d_S_findBlocks_77 (by decide) ?_
            have e9 : rt_cB F (k + 1) = rt_cB F k := rt_cB_skip (fun z => of_decide_eq_false c_45 (hI.1 k k z).1)
            have hP : va_P D vwCl (xw cI a w h Q (fun r => rt_o (F r)) (nI (8)) (nI (rt_cB F (k + 1))) rs hs ts (fun j => nI (R j)) xc yc) H := by rw [e9]; exact hP
            exact ih_31 (k + 1) F R _ _ (by omega) (rt_bI_skip hI (Or.inl (Decidable.not_not.mp (of_decide_eq_false c_45)))) _ _ _ hP hS (lv_sub hl [1, 2, 0] rfl)
          · refine lv_aload_n hx hb d_S_findBlocks_48 rfl (lv_at hl 0 rfl) ?_
            refine va_get (D := D) (ci := 2) (v := .ref (a 5)) (C := rn_S) (T := tf_S) (N := 5) hx hb hts in_S hown hK hP 4 rfl rfl 0 (by decide) (hts _ k_fieldLink_rn_S_11_rn_S_found_I) (fun _ h9 => h9) rfl d_S_findBlocks_49 ?_
            refine lv_iload_n hx hb d_S_findBlocks_52 rfl (lv_at hl 2 rfl) ?_
            refine rw_iald (v := (rt_o (F k))) hx hb hK hP 5 0 rfl rfl (by omega) (by omega) (rfl) d_S_findBlocks_53 ?_
            cases ho_54 : F k with
            | none =>
              refine lv_iconst (v := (-1)) hx hb d_S_findBlocks_54 (by decide) ?_
              refine lv_icmp_ne (tgt := 74) hx hb d_S_findBlocks_55 (by decide) (fun c_55 => ?_) (fun c_55 => ?_)
              · exact absurd rfl c_55
              · refine lv_aload_n hx hb d_S_findBlocks_58 rfl (lv_at hl 0 rfl) ?_
                refine lv_dup hx hb d_S_findBlocks_59 rfl ?_
                refine va_get (D := D) (ci := 2) (v := .int ((nI (rt_cB F k)))) (C := rn_S) (T := tf_S) (N := 5) hx hb hts in_S hown hK hP 4 rfl rfl 4 (by decide) (hts _ k_fieldLink_rn_S_33_rn_S_blocks_I) (fun _ h9 => h9) rfl d_S_findBlocks_60 ?_
                refine lv_iconst (v := (nI (1))) hx hb d_S_findBlocks_63 (by decide) ?_
                refine lv_iadd hx hb d_S_findBlocks_64 ?_
                refine rw_topI (b := (nI (rt_cB F k + 1))) (nI_add _ 1) ?_
                refine va_put (D := D) (ci := 2) (v := .int (nI (rt_cB F k + 1))) (ty := .int) (C := rn_S) (T := tf_S) (N := 5) hx hb hts in_S tt_S tt_S_ok nm_S hown hK hP hD hS 4 rfl rfl 4 (by decide) (hts _ k_fieldLink_rn_S_33_rn_S_blocks_I) (fun _ h9 => h9) rfl (by decide +kernel) rfl rfl (Nat.le_of_ble_eq_true rfl) d_S_findBlocks_65 (fun H locs hP hD hS => ?_)
                have hP : va_P D vwCl (xw cI a w h Q (fun r => rt_o (F r)) (nI (8)) (nI (rt_cB F k + 1)) rs hs ts (fun j => nI (R j)) xc yc) H := hP
                have hD : va_D (xA a) (xw cI a w h Q (fun r => rt_o (F r)) (nI (8)) (nI (rt_cB F k + 1)) rs hs ts (fun j => nI (R j)) xc yc) := x_D ha _ rfl
                refine lv_aload_n hx hb d_S_findBlocks_68 rfl (lv_at hl 0 rfl) ?_
                refine lv_aload_n hx hb d_S_findBlocks_69 rfl (lv_at hl 1 rfl) ?_
                refine lv_iload_n hx hb d_S_findBlocks_70 rfl (lv_at hl 2 rfl) ?_
                refine w_cv (As := [.ref (a 1), .int (nI (k))]) (rest := []) ⟨hx, hb, hml, hown, hts⟩ (c_S_floodBlock l D cI cZ g a ha w h Q (fun r => rt_o (F r)) (nI (8)) (nI (rt_cB F k + 1)) rs hs ts (fun j => nI (R j)) xc yc F R k hG (by omega) hI ho_54 (of_decide_eq_true c_45)) (cwV 2 hts (t_gV k_methodLink_rn_S_49_y_S_floodBlock k_instanceMethod_y_S_floodBlock k_selects_rn_S_y_S_floodBlock_y_S_floodBlock k_initialized_rn_S k_code_y_S_floodBlock_prog_4_method_4_code_5_none) rfl rfl rfl (by decide +kernel) ⟨Nat.le_of_ble_eq_true rfl, Nat.le_of_ble_eq_true rfl⟩) (va_recv hK hP (ci := 2) (q0 := 4) rfl rfl) hP hK hZ hS rfl hl.1 rfl (Nat.le_of_ble_eq_true rfl) d_S_findBlocks_71 ⟨Nat.zero_le _, Nat.zero_le _⟩ (fun u_71 H locs hw hP hS => ?_)
                obtain ⟨F1, R1, n1, y1⟩ := u_71
                have hP : va_P D vwCl (xw cI a w h Q (fun r => rt_o (F1 r)) (nI (8)) (nI (rt_cB F k + 1)) rs hs ts (fun j => nI (R1 j)) (nI (n1)) (nI (y1))) H := hP
                have hD : va_D (xA a) (xw cI a w h Q (fun r => rt_o (F1 r)) (nI (8)) (nI (rt_cB F k + 1)) rs hs ts (fun j => nI (R1 j)) (nI (n1)) (nI (y1))) := x_D ha _ rfl
                obtain ⟨g1, g2, g3⟩ := hw
                have e9 : rt_cB F1 (k + 1) = rt_cB F k + 1 := rt_cB_one g2 g3
                have hP : va_P D vwCl (xw cI a w h Q (fun r => rt_o (F1 r)) (nI (8)) (nI (rt_cB F1 (k + 1))) rs hs ts (fun j => nI (R1 j)) (nI (n1)) (nI (y1))) H := by rw [e9]; exact hP
                refine lv_iinc (v := (nI (k + 1))) (lv' := [(2, .int (nI (k + 1))), (0, .ref (a 4)), (1, .ref (a 1))]) hx hb d_S_findBlocks_74 hl (k := 2) rfl (nI_add _ _) (by decide) rfl (fun ls hl => ?_)
                refine lv_goto (tgt := 31) hx hb d_S_findBlocks_77 (by decide) ?_
                exact ih_31 (k + 1) F1 R1 _ _ (by omega) g1 _ _ _ hP hS (lv_sub hl [1, 2, 0] rfl)
            | some b =>
              have hb9 := rt_bI_bd hn (by omega) hI k b ho_54
              refine lv_iconst (v := (-1)) hx hb d_S_findBlocks_54 (by decide) ?_
              refine lv_icmp_ne (tgt := 74) hx hb d_S_findBlocks_55 (by decide) (fun c_55 => ?_) (fun c_55 => ?_)
              · refine lv_iinc (v := (nI (k + 1))) (lv' := [(2, .int (nI (k + 1))), (0, .ref (a 4)), (1, .ref (a 1))]) hx hb d_S_findBlocks_74 hl (k := 2) rfl (nI_add _ _) (by decide) rfl (fun ls hl => ?_)
                refine lv_goto (tgt := 31) hx hb d_S_findBlocks_77 (by decide) ?_
                have e9 : rt_cB F (k + 1) = rt_cB F k := rt_cB_skip (fun z => by have := (hI.1 k k z).2.2.1; omega)
                have hP : va_P D vwCl (xw cI a w h Q (fun r => rt_o (F r)) (nI (8)) (nI (rt_cB F (k + 1))) rs hs ts (fun j => nI (R j)) xc yc) H := by rw [e9]; exact hP
                exact ih_31 (k + 1) F R _ _ (by omega) (rt_bI_skip hI (Or.inr (by rw [ho_54]; simp))) _ _ _ hP hS (lv_sub hl [1, 2, 0] rfl)
              · exact absurd c_55 (rt_o_ne _ (by omega))
    exact LP_31 (6 * (w * h)) 0 _ R _ _ (by omega) (rt_bI_0 Q w h) _ _ _ hP hS (lv_sub hl [1, 2, 0] rfl)
  · subst c_6
    exact w_vret (ff, bl, rc, hc, tc) hx hb hr hlocks hS hP (rt_hk_B hk0) d_S_findBlocks_9
