/-! The reference: route; by program (wip/whole/gen/mod6.py) -/
set_option maxHeartbeats 4000000 in
set_option maxRecDepth 100000 in
theorem c_M_route (l : Launch) (D : va_G) (cI cZ : ClassId) (g a : Nat → Nat) (ha : mI a) (w h : Nat) (Q L : Nat → Nat) (cn : Nat) (th : Int32) (kf : Nat → Int32) (Z : Nat → Bool) (pf : Nat → Int32) (x y kk : Int32) (C : Nat → Option Nat) (hG : rt_G w h Q) (hL : rt_isL Q L cn) (hC : rt_opx Q (w * h) x = true → ∀ z, z < 8 → y = nI z → rt_isC Q w h z C) (hsm : rt_small C) : Met l y_M_route (.code y_M_route b_M_route 9 (some .int) :: tG) ({ frames := 5, cells := 0, slots := 0, locals := 117 }) (va_Pc [.ref (a 0), .int (x), .int (y), .int (kk)] (wU D cI cZ g (mA a) (mw cI cZ a w h (fun p => rt_b (decide (Q p ≠ 0))) (fun p => nI (rt_g Q p)) (fun p => nI (rt_s Q p)) (fun i => nI (L i)) cn th kf (fun p => rt_b (Z p)) pf))) (va_Qi (S := (Nat → Int32)) (fun r _ => (rt_opx Q (w * h) x = true → (rt_ix y 8).isSome = true → r = rt_route Q w h C x kk) ∧ ((rt_opx Q (w * h) x = false ∨ rt_ix y 8 = none) → r = -1)) (wB D (fun (u : (Nat → Int32)) => (mw cI cZ a w h (fun p => rt_b (decide (Q p ≠ 0))) (fun p => nI (rt_g Q p)) (fun p => nI (rt_s Q p)) (fun i => nI (L i)) cn (nI (0)) u (fun p => rt_b (Z p)) pf))) (mA a)) 0 0 (mA a) := by
  refine Met.ofW (cc := b_M_route) (maxL := 9) (ret := (some .int)) (by decide) rfl ?_
  intro p e s m args below meth c s₁ BD9 hml hv
  obtain ⟨rfl, hP, hK, hZ⟩ := hv
  have hx := BD9.exec
  have hb := BD9.bytes
  have hr := BD9.returns
  have hts : ∀ w ∈ tG, w.before _ s = true := fun w hw => atoms_spec (ws := .code y_M_route b_M_route 9 (some .int) :: tG) BD9.pre w (List.mem_cons_of_mem _ hw)
  have hown : s.vm.findClass rn_M = some m.cls := findClass_of_methodNamed BD9.named
  have hlocks := BD9.notSynchronized
  have hS : va_S (mA a) s.heap s.heap [] := va_S.rf
  have hD : va_D (mA a) (mw cI cZ a w h (fun p => rt_b (decide (Q p ≠ 0))) (fun p => nI (rt_g Q p)) (fun p => nI (rt_s Q p)) (fun i => nI (L i)) cn th kf (fun p => rt_b (Z p)) pf) := m_D ha _ rfl
  have hP : va_P D vwCl (mw cI cZ a w h (fun p => rt_b (decide (Q p ≠ 0))) (fun p => nI (rt_g Q p)) (fun p => nI (rt_s Q p)) (fun i => nI (L i)) cn th kf (fun p => rt_b (Z p)) pf) s.heap := hP
  have hl := lv_entry ([.ref (a 0), .int (x), .int (y), .int (kk)]) (n := 9) (Nat.le_of_ble_eq_true rfl)
  rw [lg_entry_eq]
  generalize (lg_sl ([.ref (a 0), .int (x), .int (y), .int (kk)]) ++ List.replicate (9 - (lg_sl ([.ref (a 0), .int (x), .int (y), .int (kk)])).length) Slot.unset).toArray = ls at hl ⊢
  have hl : lv_has ls 9 [(0, .ref (a 0)), (1, .int (x)), (2, .int (y)), (3, .int (kk))] := hl
  obtain ⟨hn1, hn⟩ := hG.n
  have hw0 : 0 < w := by have := hG.1.1; omega
  have hQ := hG.2.2
  have hcn := rt_isL_cap hQ hL
  refine lv_aload_n hx hb d_M_route_0 rfl (lv_at hl 0 rfl) ?_
  refine lv_iconst (v := (nI (0))) hx hb d_M_route_1 (by decide) ?_
  refine va_put (D := D) (ci := 4) (v := .int (nI (0))) (ty := .int) (C := rn_M) (T := tf_M) (N := 12) hx hb hts in_M tt_M tt_M_ok nm_M hown hK hP hD hS 0 rfl rfl 1 (by decide) (hts _ k_fieldLink_rn_M_42_rn_M_thrown_I) (fun _ h9 => h9) rfl (by decide +kernel) rfl rfl (Nat.le_of_ble_eq_true rfl) d_M_route_2 (fun H locs hP hD hS => ?_)
  have hP : va_P D vwCl (mw cI cZ a w h (fun p => rt_b (decide (Q p ≠ 0))) (fun p => nI (rt_g Q p)) (fun p => nI (rt_s Q p)) (fun i => nI (L i)) cn (nI (0)) kf (fun p => rt_b (Z p)) pf) H := hP
  have hD : va_D (mA a) (mw cI cZ a w h (fun p => rt_b (decide (Q p ≠ 0))) (fun p => nI (rt_g Q p)) (fun p => nI (rt_s Q p)) (fun i => nI (L i)) cn (nI (0)) kf (fun p => rt_b (Z p)) pf) := m_D ha _ rfl
  refine lv_aload_n hx hb d_M_route_5 rfl (lv_at hl 0 rfl) ?_
  refine lv_iload_n hx hb d_M_route_6 rfl (lv_at hl 1 rfl) ?_
  refine w_ci (As := [.int (x)]) (rest := []) ⟨hx, hb, hml, hown, hts⟩ (c_M_isOpen l D cI cZ g a ha w h Q L cn (nI (0)) kf Z pf x hG) (cwV 1 hts (t_gV k_methodLink_rn_M_75_y_M_isOpen k_instanceMethod_y_M_isOpen k_selects_rn_M_y_M_isOpen_y_M_isOpen k_initialized_rn_M k_code_y_M_isOpen_prog_6_method_13_code_2_some_boolean) rfl rfl rfl (by decide +kernel) ⟨Nat.le_of_ble_eq_true rfl, Nat.le_of_ble_eq_true rfl⟩) (va_recv hK hP (ci := 4) (q0 := 0) rfl rfl) hP hK hZ hS rfl hl.1 rfl (Nat.le_of_ble_eq_true rfl) d_M_route_7 ⟨Nat.zero_le _, Nat.zero_le _⟩ (fun r_7 u_7 H locs hw hP hS => ?_)
  subst hw
  have hP : va_P D vwCl (mw cI cZ a w h (fun p => rt_b (decide (Q p ≠ 0))) (fun p => nI (rt_g Q p)) (fun p => nI (rt_s Q p)) (fun i => nI (L i)) cn (nI (0)) kf (fun p => rt_b (Z p)) pf) H := hP
  refine rw_beq (tgt := 24) hx hb d_M_route_10 (by decide) (fun c_10 => ?_) (fun c_10 => ?_)
  · refine lv_iconst (v := (-1)) hx hb d_M_route_24 (by decide) ?_
    exact w_iret kf hx hb hr hlocks hS hP (⟨fun q1 q2 => by first | (rw [c_10] at q1; cases q1; done) | (rw [c_17] at q2; cases q2; done) | (unfold rt_route; rw [if_pos (Or.inr (Or.inr (Int32.not_le.mp c_21)))]; done), fun _ => rfl⟩) d_M_route_25
  · obtain ⟨rr, hrr, rfl, horr⟩ := rt_opx_is (by omega) c_10
    refine lv_iload_n hx hb d_M_route_13 rfl (lv_at hl 2 rfl) ?_
    refine w_si (As := [.int (y)]) (rest := []) ⟨hx, hb, hml, hown, hts⟩ (c_M_isStation l D cI cZ g a ha w h Q L cn (nI (0)) kf Z pf y hG) (va_cwS 1 hts (t_gS k_methodLink_rn_M_100_y_M_isStation k_static_y_M_isStation k_initialized_rn_M k_code_y_M_isStation_prog_6_method_27_code_1_some_boolean) rfl rfl rfl (by decide +kernel) ⟨Nat.le_of_ble_eq_true rfl, Nat.le_of_ble_eq_true rfl⟩) hP hK hZ hS rfl hl.1 rfl (Nat.le_of_ble_eq_true rfl) d_M_route_14 ⟨Nat.zero_le _, Nat.zero_le _⟩ (fun r_14 u_14 H locs hw hP hS => ?_)
    subst hw
    have hP : va_P D vwCl (mw cI cZ a w h (fun p => rt_b (decide (Q p ≠ 0))) (fun p => nI (rt_g Q p)) (fun p => nI (rt_s Q p)) (fun i => nI (L i)) cn (nI (0)) kf (fun p => rt_b (Z p)) pf) H := hP
    refine rw_beq (tgt := 24) hx hb d_M_route_17 (by decide) (fun c_17 => ?_) (fun c_17 => ?_)
    · refine lv_iconst (v := (-1)) hx hb d_M_route_24 (by decide) ?_
      exact w_iret kf hx hb hr hlocks hS hP (⟨fun q1 q2 => by first | (rw [c_10] at q1; cases q1; done) | (rw [c_17] at q2; cases q2; done) | (unfold rt_route; rw [if_pos (Or.inr (Or.inr (Int32.not_le.mp c_21)))]; done), fun _ => rfl⟩) d_M_route_25
    · obtain ⟨z, hz, rfl⟩ := rt_ix_is (by omega) c_17
      refine lv_iload_n hx hb d_M_route_20 rfl (lv_at hl 3 rfl) ?_
      refine lv_if_ge (tgt := 26) hx hb d_M_route_21 (by decide) (fun c_21 => ?_) (fun c_21 => ?_)
      · obtain ⟨m9, hm9, rfl⟩ := nI_of (x := kk) (Int32.not_lt.mpr c_21)
        refine lv_aload_n hx hb d_M_route_26 rfl (lv_at hl 0 rfl) ?_
        refine lv_iload_n hx hb d_M_route_27 rfl (lv_at hl 2 rfl) ?_
        refine w_cv (As := [.int (nI (z))]) (rest := []) ⟨hx, hb, hml, hown, hts⟩ (c_M_reckon l D cI cZ g a ha w h Q L cn (nI (0)) kf Z pf C z hG hL hz (hC (by rw [rt_opx_s (by omega) hrr]; exact horr) z hz rfl) hsm) (cwV 1 hts (t_gV k_methodLink_rn_M_113_y_M_reckon k_instanceMethod_y_M_reckon k_selects_rn_M_y_M_reckon_y_M_reckon k_initialized_rn_M k_code_y_M_reckon_prog_6_method_33_code_7_none) rfl rfl rfl (by decide +kernel) ⟨Nat.le_of_ble_eq_true rfl, Nat.le_of_ble_eq_true rfl⟩) (va_recv hK hP (ci := 4) (q0 := 0) rfl rfl) hP hK hZ hS rfl hl.1 rfl (Nat.le_of_ble_eq_true rfl) d_M_route_28 ⟨Nat.zero_le _, Nat.zero_le _⟩ (fun u_28 H locs hw hP hS => ?_)
        obtain ⟨K, hKe⟩ : ∃ z9, z9 = u_28 := ⟨_, rfl⟩
        rw [← hKe] at hP hw
        have hC9 := hC (by rw [rt_opx_s (by omega) hrr]; exact horr) z hz rfl
        have hP : va_P D vwCl (mw cI cZ a w h (fun p => rt_b (decide (Q p ≠ 0))) (fun p => nI (rt_g Q p)) (fun p => nI (rt_s Q p)) (fun i => nI (L i)) cn (nI (0)) (fun q => nI (K q)) (fun p => rt_b (Z p)) pf) H := hP
        have hD : va_D (mA a) (mw cI cZ a w h (fun p => rt_b (decide (Q p ≠ 0))) (fun p => nI (rt_g Q p)) (fun p => nI (rt_s Q p)) (fun i => nI (L i)) cn (nI (0)) (fun q => nI (K q)) (fun p => rt_b (Z p)) pf) := m_D ha _ rfl
        have hKa := hw
        have hKr := hw rr horr
        have hcl := rt_cE_le hsm rr
        unfold rt_E at hcl
        refine lv_aload_n hx hb d_M_route_31 rfl (lv_at hl 0 rfl) ?_
        refine va_get (D := D) (ci := 4) (v := .ref (a 6)) (C := rn_M) (T := tf_M) (N := 12) hx hb hts in_M hown hK hP 0 rfl rfl 9 (by decide) (hts _ k_fieldLink_rn_M_26_rn_M_cost_I) (fun _ h9 => h9) rfl d_M_route_32 ?_
        refine lv_iload_n hx hb d_M_route_35 rfl (lv_at hl 1 rfl) ?_
        refine rw_iald (v := (nI (rt_cE (C rr)))) hx hb hK hP 6 0 rfl rfl (by omega) (by omega) (congrArg nI hKr) d_M_route_36 ?_
        refine lv_ldc (v := nI 1000000000) hx hb hown (hts _ k_constant_rn_M_106_1000000000) d_M_route_37 ?_
        refine rw_ceq (tgt := 51) hx hb d_M_route_39 (by decide) (by omega) (by omega) (fun c_39 => ?_) (fun c_39 => ?_)
        · refine lv_iconst (v := (-1)) hx hb d_M_route_51 (by decide) ?_
          exact w_iret _ hx hb hr hlocks hS hP (⟨fun _ _ => (rt_route_n (by omega) (Or.inl (by cases h9 : C rr with | none => rfl | some c8 => (rw [h9] at c_39; have := hsm rr c8 h9; simp only [rt_cE] at c_39; omega)))).symm, fun q => q.elim (fun q => absurd q (by rw [rt_opx_s (by omega) hrr, horr]; simp)) (fun q => absurd q (by rw [rt_ix_some (by decide) hz]; simp))⟩) d_M_route_52
        · refine lv_aload_n hx hb d_M_route_42 rfl (lv_at hl 0 rfl) ?_
          refine va_get (D := D) (ci := 4) (v := .ref (a 6)) (C := rn_M) (T := tf_M) (N := 12) hx hb hts in_M hown hK hP 0 rfl rfl 9 (by decide) (hts _ k_fieldLink_rn_M_26_rn_M_cost_I) (fun _ h9 => h9) rfl d_M_route_43 ?_
          refine lv_iload_n hx hb d_M_route_46 rfl (lv_at hl 1 rfl) ?_
          refine rw_iald (v := (nI (rt_cE (C rr)))) hx hb hK hP 6 0 rfl rfl (by omega) (by omega) (congrArg nI hKr) d_M_route_47 ?_
          refine rw_zne (tgt := 53) hx hb d_M_route_48 (by decide) (by omega) (fun c_48 => ?_) (fun c_48 => ?_)
          · obtain ⟨c1, hc1⟩ : ∃ c1, C rr = some c1 := by
              cases h9 : C rr with
              | none => rw [h9] at c_39; exact absurd rfl c_39
              | some c1 => exact ⟨c1, rfl⟩
            have hc10 : c1 ≠ 0 := by rw [hc1] at c_48; exact c_48
            refine lv_iload_n hx hb d_M_route_53 rfl (lv_at hl 1 rfl) ?_
            refine lv_istore (lv' := [(4, .int (nI (rr))), (0, .ref (a 0)), (1, .int (nI (rr))), (2, .int (nI (z))), (3, .int (nI (m9)))]) hx hb d_M_route_54 hl (by decide) rfl (fun ls hl => ?_)
            refine lv_iconst (v := (nI (0))) hx hb d_M_route_56 (by decide) ?_
            refine lv_istore (lv' := [(5, .int (nI (0))), (4, .int (nI (rr))), (0, .ref (a 0)), (1, .int (nI (rr))), (2, .int (nI (z))), (3, .int (nI (m9)))]) hx hb d_M_route_57 hl (by decide) rfl (fun ls hl => ?_)
            have LP_59 : ∀ (n_59 : Nat) (i : Nat) (v : Nat) (c0 : Nat), i + n_59 = 12 * (w * h) + 1 → (rt_mr Q w h C rr i v c0) → (i ≤ m9 + 1) → ∀ (H : Heap) (locs : List Loc) (ls : Array Slot), va_P D vwCl (mw cI cZ a w h (fun p => rt_b (decide (Q p ≠ 0))) (fun p => nI (rt_g Q p)) (fun p => nI (rt_s Q p)) (fun i => nI (L i)) cn (nI (0)) (fun q => nI (K q)) (fun p => rt_b (Z p)) pf) H → va_S (mA a) s.heap H locs → lv_has ls 9 [(0, .ref (a 0)), (1, .int (nI (rr))), (2, .int (nI (z))), (3, .int (nI (m9))), (4, .int (nI (v))), (5, .int (nI (i)))] → W p l e (headSpec (.code y_M_route b_M_route 9 (some .int) :: tG) ({ frames := 5, cells := 0, slots := 0, locals := 117 })).room s m ([.ref (a 0), .int ((nI rr)), .int ((nI z)), .int ((nI m9))] : List Value).toArray below meth c H locs 0 0 (MQ below (va_Qi (S := (Nat → Int32)) (fun r _ => (rt_opx Q (w * h) (nI rr) = true → (rt_ix (nI z) 8).isSome = true → r = rt_route Q w h C (nI rr) (nI m9)) ∧ ((rt_opx Q (w * h) (nI rr) = false ∨ rt_ix (nI z) 8 = none) → r = -1)) (wB D (fun (u : (Nat → Int32)) => (mw cI cZ a w h (fun p => rt_b (decide (Q p ≠ 0))) (fun p => nI (rt_g Q p)) (fun p => nI (rt_s Q p)) (fun i => nI (L i)) cn (nI (0)) u (fun p => rt_b (Z p)) pf))) (mA a)) ([.ref (a 0), .int ((nI rr)), .int ((nI z)), .int ((nI m9))] : List Value).toArray s 0 0 (mA a)) (F0 m 59 ls []) := by
              intro n_59
              induction n_59 with
              | zero =>
                intro i v c0 hrel_59 hI hiM H locs ls hP hS hl
                have hD : va_D (mA a) (mw cI cZ a w h (fun p => rt_b (decide (Q p ≠ 0))) (fun p => nI (rt_g Q p)) (fun p => nI (rt_s Q p)) (fun i => nI (L i)) cn (nI (0)) (fun q => nI (K q)) (fun p => rt_b (Z p)) pf) := m_D ha _ rfl
                have hov : rt_op Q (w * h) v = true := hC9.1 v c0 hI.1
                have hv9 := rt_op_lt hov
                have hc0s := hsm v c0 hI.1
                refine lv_iload hx hb d_M_route_59 (lv_at hl 5 rfl) ?_
                refine lv_iload_n hx hb d_M_route_61 rfl (lv_at hl 3 rfl) ?_
                refine rw_cgt (tgt := 191) hx hb d_M_route_62 (by decide) (by omega) (by omega) (fun c_62 => ?_) (fun c_62 => ?_)
                · refine lv_iload hx hb d_M_route_191 (lv_at hl 4 rfl) ?_
                  exact w_iret _ hx hb hr hlocks hS hP (⟨fun _ _ => by rw [rt_route_hit (by omega) hc1 hc10 hm9]; rcases hI.2.2.1 with h1 | ⟨h1, h2⟩; omega; rw [show m9 = i - 1 by omega, h2]; rfl, fun q => q.elim (fun q => absurd q (by rw [rt_opx_s (by omega) hrr, horr]; simp)) (fun q => absurd q (by rw [rt_ix_some (by decide) hz]; simp))⟩) d_M_route_193
                · refine lv_iload hx hb d_M_route_65 (lv_at hl 5 rfl) ?_
                  refine rw_zle (tgt := 95) hx hb d_M_route_67 (by decide) (by omega) (fun c_67 => ?_) (fun c_67 => ?_)
                  · have hns : i = 0 ∨ ¬ (rt_hs Q v = true ∨ C v = some 0) := Or.inl (by omega)
                    obtain ⟨b, c9, hbe, hbm, hbc, hblt⟩ := rt_best_on hC9 hI.1 (rt_mr_c0 hI hns)
                    have hb9 : b < 12 * (w * h) := rt_op_lt (hC9.1 b c9 hbc)
                    have hG1 := rt_mr_go hI hns hbe hb9 hbc hblt
                    exfalso
                    have h1 := rt_rk_lt hb9 hbc hblt
                    have h2 := hI.2.1
                    omega
                  · refine lv_aload_n hx hb d_M_route_70 rfl (lv_at hl 0 rfl) ?_
                    refine lv_iload hx hb d_M_route_71 (lv_at hl 4 rfl) ?_
                    refine lv_iconst (v := (nI (2))) hx hb d_M_route_73 (by decide) ?_
                    refine rw_div hx hb d_M_route_74 (by omega) (by omega) (by omega) ?_
                    refine w_ci (As := [.int (nI (v / 2))]) (rest := []) ⟨hx, hb, hml, hown, hts⟩ (c_M_signalled l D cI cZ g a ha w h Q L cn (nI (0)) (fun q => nI (K q)) Z pf (v / 2) hG (by omega)) (cwV 1 hts (t_gV k_methodLink_rn_M_58_y_M_signalled k_instanceMethod_y_M_signalled k_selects_rn_M_y_M_signalled_y_M_signalled k_initialized_rn_M k_code_y_M_signalled_prog_6_method_12_code_2_some_int) rfl rfl rfl (by decide +kernel) ⟨Nat.le_of_ble_eq_true rfl, Nat.le_of_ble_eq_true rfl⟩) (va_recv hK hP (ci := 4) (q0 := 0) rfl rfl) hP hK hZ hS rfl hl.1 rfl (Nat.le_of_ble_eq_true rfl) d_M_route_75 ⟨Nat.zero_le _, Nat.zero_le _⟩ (fun r_75 u_75 H locs hw hP hS => ?_)
                    subst hw
                    have hP : va_P D vwCl (mw cI cZ a w h (fun p => rt_b (decide (Q p ≠ 0))) (fun p => nI (rt_g Q p)) (fun p => nI (rt_s Q p)) (fun i => nI (L i)) cn (nI (0)) (fun q => nI (K q)) (fun p => rt_b (Z p)) pf) H := hP
                    by_cases hg0 : rt_g Q (v / 2) = 0
                    · rw [if_pos hg0]
                      have hs0 := rt_hs_0 hg0
                      refine lv_iload hx hb d_M_route_78 (lv_at hl 4 rfl) ?_
                      refine lv_icmp_eq (tgt := 93) hx hb d_M_route_80 (by decide) (fun c_80 => ?_) (fun c_80 => ?_)
                      · exact absurd c_80.symm (rt_o_ne _ (by omega))
                      · refine lv_aload_n hx hb d_M_route_83 rfl (lv_at hl 0 rfl) ?_
                        refine va_get (D := D) (ci := 4) (v := .ref (a 6)) (C := rn_M) (T := tf_M) (N := 12) hx hb hts in_M hown hK hP 0 rfl rfl 9 (by decide) (hts _ k_fieldLink_rn_M_26_rn_M_cost_I) (fun _ h9 => h9) rfl d_M_route_84 ?_
                        refine lv_iload hx hb d_M_route_87 (lv_at hl 4 rfl) ?_
                        refine rw_iald (v := (nI (c0))) hx hb hK hP 6 0 rfl rfl (by omega) (by omega) (by show nI (K v) = _; rw [hKa v hov, hI.1]; rfl) d_M_route_89 ?_
                        refine rw_zne (tgt := 95) hx hb d_M_route_90 (by decide) (by omega) (fun c_90 => ?_) (fun c_90 => ?_)
                        · have hns : i = 0 ∨ ¬ (rt_hs Q v = true ∨ C v = some 0) := Or.inr (by rintro (q | q); rw [show rt_hs Q v = false from hs0] at q; cases q; rw [hI.1] at q; cases q; exact c_90 rfl)
                          obtain ⟨b, c9, hbe, hbm, hbc, hblt⟩ := rt_best_on hC9 hI.1 (rt_mr_c0 hI hns)
                          have hb9 : b < 12 * (w * h) := rt_op_lt (hC9.1 b c9 hbc)
                          have hG1 := rt_mr_go hI hns hbe hb9 hbc hblt
                          exfalso
                          have h1 := rt_rk_lt hb9 hbc hblt
                          have h2 := hI.2.1
                          omega
                        · refine lv_iconst (v := (-1)) hx hb d_M_route_93 (by decide) ?_
                          exact w_iret _ hx hb hr hlocks hS hP (⟨fun _ _ => by rw [rt_route_hit (by omega) hc1 hc10 hm9]; obtain ⟨m8, rfl⟩ : ∃ m8, m9 = i + m8 := ⟨m9 - i, by omega⟩; rw [hI.2.2.2.2 ⟨by omega, Or.inr (by rw [hI.1]; rw [c_90])⟩]; rfl, fun q => q.elim (fun q => absurd q (by rw [rt_opx_s (by omega) hrr, horr]; simp)) (fun q => absurd q (by rw [rt_ix_some (by decide) hz]; simp))⟩) d_M_route_94
                    · rw [if_neg hg0]
                      refine rw_topI (b := nI (rt_sg Q (v / 2))) rfl ?_
                      have hsg : rt_sg Q (v / 2) < 2 ^ 31 := by unfold rt_sg; omega
                      have hsv := rt_hs_sg hg0
                      refine lv_iload hx hb d_M_route_78 (lv_at hl 4 rfl) ?_
                      refine rw_ceq (tgt := 93) hx hb d_M_route_80 (by decide) (by omega) (by omega) (fun c_80 => ?_) (fun c_80 => ?_)
                      · refine lv_iconst (v := (-1)) hx hb d_M_route_93 (by decide) ?_
                        exact w_iret _ hx hb hr hlocks hS hP (⟨fun _ _ => by rw [rt_route_hit (by omega) hc1 hc10 hm9]; obtain ⟨m8, rfl⟩ : ∃ m8, m9 = i + m8 := ⟨m9 - i, by omega⟩; rw [hI.2.2.2.2 ⟨by omega, Or.inl (by rw [hsv]; exact decide_eq_true c_80)⟩]; rfl, fun q => q.elim (fun q => absurd q (by rw [rt_opx_s (by omega) hrr, horr]; simp)) (fun q => absurd q (by rw [rt_ix_some (by decide) hz]; simp))⟩) d_M_route_94
                      · refine lv_aload_n hx hb d_M_route_83 rfl (lv_at hl 0 rfl) ?_
                        refine va_get (D := D) (ci := 4) (v := .ref (a 6)) (C := rn_M) (T := tf_M) (N := 12) hx hb hts in_M hown hK hP 0 rfl rfl 9 (by decide) (hts _ k_fieldLink_rn_M_26_rn_M_cost_I) (fun _ h9 => h9) rfl d_M_route_84 ?_
                        refine lv_iload hx hb d_M_route_87 (lv_at hl 4 rfl) ?_
                        refine rw_iald (v := (nI (c0))) hx hb hK hP 6 0 rfl rfl (by omega) (by omega) (by show nI (K v) = _; rw [hKa v hov, hI.1]; rfl) d_M_route_89 ?_
                        refine rw_zne (tgt := 95) hx hb d_M_route_90 (by decide) (by omega) (fun c_90 => ?_) (fun c_90 => ?_)
                        · have hns : i = 0 ∨ ¬ (rt_hs Q v = true ∨ C v = some 0) := Or.inr (by rintro (q | q); rw [show rt_hs Q v = false from (by rw [hsv]; exact decide_eq_false c_80)] at q; cases q; rw [hI.1] at q; cases q; exact c_90 rfl)
                          obtain ⟨b, c9, hbe, hbm, hbc, hblt⟩ := rt_best_on hC9 hI.1 (rt_mr_c0 hI hns)
                          have hb9 : b < 12 * (w * h) := rt_op_lt (hC9.1 b c9 hbc)
                          have hG1 := rt_mr_go hI hns hbe hb9 hbc hblt
                          exfalso
                          have h1 := rt_rk_lt hb9 hbc hblt
                          have h2 := hI.2.1
                          omega
                        · refine lv_iconst (v := (-1)) hx hb d_M_route_93 (by decide) ?_
                          exact w_iret _ hx hb hr hlocks hS hP (⟨fun _ _ => by rw [rt_route_hit (by omega) hc1 hc10 hm9]; obtain ⟨m8, rfl⟩ : ∃ m8, m9 = i + m8 := ⟨m9 - i, by omega⟩; rw [hI.2.2.2.2 ⟨by omega, Or.inr (by rw [hI.1]; rw [c_90])⟩]; rfl, fun q => q.elim (fun q => absurd q (by rw [rt_opx_s (by omega) hrr, horr]; simp)) (fun q => absurd q (by rw [rt_ix_some (by decide) hz]; simp))⟩) d_M_route_94
              | succ n_59 ih_59 =>
                intro i v c0 hrel_59 hI hiM H locs ls hP hS hl
                have hD : va_D (mA a) (mw cI cZ a w h (fun p => rt_b (decide (Q p ≠ 0))) (fun p => nI (rt_g Q p)) (fun p => nI (rt_s Q p)) (fun i => nI (L i)) cn (nI (0)) (fun q => nI (K q)) (fun p => rt_b (Z p)) pf) := m_D ha _ rfl
                have hov : rt_op Q (w * h) v = true := hC9.1 v c0 hI.1
                have hv9 := rt_op_lt hov
                have hc0s := hsm v c0 hI.1
                refine lv_iload hx hb d_M_route_59 (lv_at hl 5 rfl) ?_
                refine lv_iload_n hx hb d_M_route_61 rfl (lv_at hl 3 rfl) ?_
                refine rw_cgt (tgt := 191) hx hb d_M_route_62 (by decide) (by omega) (by omega) (fun c_62 => ?_) (fun c_62 => ?_)
                · refine lv_iload hx hb d_M_route_191 (lv_at hl 4 rfl) ?_
                  exact w_iret _ hx hb hr hlocks hS hP (⟨fun _ _ => by rw [rt_route_hit (by omega) hc1 hc10 hm9]; rcases hI.2.2.1 with h1 | ⟨h1, h2⟩; omega; rw [show m9 = i - 1 by omega, h2]; rfl, fun q => q.elim (fun q => absurd q (by rw [rt_opx_s (by omega) hrr, horr]; simp)) (fun q => absurd q (by rw [rt_ix_some (by decide) hz]; simp))⟩) d_M_route_193
                · refine lv_iload hx hb d_M_route_65 (lv_at hl 5 rfl) ?_
                  refine rw_zle (tgt := 95) hx hb d_M_route_67 (by decide) (by omega) (fun c_67 => ?_) (fun c_67 => ?_)
                  · have hns : i = 0 ∨ ¬ (rt_hs Q v = true ∨ C v = some 0) := Or.inl (by omega)
                    obtain ⟨b, c9, hbe, hbm, hbc, hblt⟩ := rt_best_on hC9 hI.1 (rt_mr_c0 hI hns)
                    have hb9 : b < 12 * (w * h) := rt_op_lt (hC9.1 b c9 hbc)
                    have hG1 := rt_mr_go hI hns hbe hb9 hbc hblt
                    refine lv_iconst (v := (-1)) hx hb d_M_route_95 (by decide) ?_
                    refine lv_istore (lv' := [(6, .int (-1)), (0, .ref (a 0)), (1, .int (nI (rr))), (2, .int (nI (z))), (3, .int (nI (m9))), (4, .int (nI (v))), (5, .int (nI (i)))]) hx hb d_M_route_96 hl (by decide) rfl (fun ls hl => ?_)
                    refine lv_iconst (v := (nI (0))) hx hb d_M_route_98 (by decide) ?_
                    refine lv_istore (lv' := [(7, .int (nI (0))), (6, .int (-1)), (0, .ref (a 0)), (1, .int (nI (rr))), (2, .int (nI (z))), (3, .int (nI (m9))), (4, .int (nI (v))), (5, .int (nI (i)))]) hx hb d_M_route_99 hl (by decide) rfl (fun ls hl => ?_)
                    have LP_101 : ∀ (n_101 : Nat) (j : Nat), j + n_101 = 6 → ∀ (H : Heap) (locs : List Loc) (ls : Array Slot), va_P D vwCl (mw cI cZ a w h (fun p => rt_b (decide (Q p ≠ 0))) (fun p => nI (rt_g Q p)) (fun p => nI (rt_s Q p)) (fun i => nI (L i)) cn (nI (0)) (fun q => nI (K q)) (fun p => rt_b (Z p)) pf) H → va_S (mA a) s.heap H locs → lv_has ls 9 [(0, .ref (a 0)), (1, .int (nI (rr))), (2, .int (nI (z))), (3, .int (nI (m9))), (4, .int (nI (v))), (5, .int (nI (i))), (6, .int (rt_o (rt_best C (rt_py Q w h v j)))), (7, .int (nI (j)))] → W p l e (headSpec (.code y_M_route b_M_route 9 (some .int) :: tG) ({ frames := 5, cells := 0, slots := 0, locals := 117 })).room s m ([.ref (a 0), .int ((nI rr)), .int ((nI z)), .int ((nI m9))] : List Value).toArray below meth c H locs 0 0 (MQ below (va_Qi (S := (Nat → Int32)) (fun r _ => (rt_opx Q (w * h) (nI rr) = true → (rt_ix (nI z) 8).isSome = true → r = rt_route Q w h C (nI rr) (nI m9)) ∧ ((rt_opx Q (w * h) (nI rr) = false ∨ rt_ix (nI z) 8 = none) → r = -1)) (wB D (fun (u : (Nat → Int32)) => (mw cI cZ a w h (fun p => rt_b (decide (Q p ≠ 0))) (fun p => nI (rt_g Q p)) (fun p => nI (rt_s Q p)) (fun i => nI (L i)) cn (nI (0)) u (fun p => rt_b (Z p)) pf))) (mA a)) ([.ref (a 0), .int ((nI rr)), .int ((nI z)), .int ((nI m9))] : List Value).toArray s 0 0 (mA a)) (F0 m 101 ls []) := by
                      intro n_101
                      induction n_101 with
                      | zero =>
                        intro j hrel_101 H locs ls hP hS hl
                        have hD : va_D (mA a) (mw cI cZ a w h (fun p => rt_b (decide (Q p ≠ 0))) (fun p => nI (rt_g Q p)) (fun p => nI (rt_s Q p)) (fun i => nI (L i)) cn (nI (0)) (fun q => nI (K q)) (fun p => rt_b (Z p)) pf) := m_D ha _ rfl
                        refine lv_iload hx hb d_M_route_101 (lv_at hl 7 rfl) ?_
                        refine lv_bipush (v := (nI (6))) hx hb d_M_route_103 (by decide) ?_
                        refine rw_cge (tgt := 181) hx hb d_M_route_105 (by decide) (by omega) (by omega) (fun c_105 => ?_) (fun c_105 => ?_)
                        · rw [show j = 6 by omega, rt_py_6, hbe] at hl
                          have hl : lv_has ls 9 [(0, .ref (a 0)), (1, .int (nI (rr))), (2, .int (nI (z))), (3, .int (nI (m9))), (4, .int (nI (v))), (5, .int (nI (i))), (6, .int (nI (b))), (7, .int (nI (6)))] := hl
                          refine lv_iload hx hb d_M_route_181 (lv_at hl 6 rfl) ?_
                          refine lv_istore (lv' := [(4, .int (nI (b))), (0, .ref (a 0)), (1, .int (nI (rr))), (2, .int (nI (z))), (3, .int (nI (m9))), (5, .int (nI (i))), (6, .int (nI (b))), (7, .int (nI (6)))]) hx hb d_M_route_183 hl (by decide) rfl (fun ls hl => ?_)
                          refine lv_iinc (v := (nI (i + 1))) (lv' := [(5, .int (nI (i + 1))), (4, .int (nI (b))), (0, .ref (a 0)), (1, .int (nI (rr))), (2, .int (nI (z))), (3, .int (nI (m9))), (6, .int (nI (b))), (7, .int (nI (6)))]) hx hb d_M_route_185 hl (k := 5) rfl (nI_add _ _) (by decide) rfl (fun ls hl => ?_)
                          refine lv_goto (tgt := 59) hx hb d_M_route_188 (by decide) ?_
                          exact ih_59 (i + 1) b c9 (by omega) hG1 (by omega) _ _ _ hP hS (lv_sub hl [2, 3, 4, 5, 1, 0] rfl)
                        · omega
                      | succ n_101 ih_101 =>
                        intro j hrel_101 H locs ls hP hS hl
                        have hD : va_D (mA a) (mw cI cZ a w h (fun p => rt_b (decide (Q p ≠ 0))) (fun p => nI (rt_g Q p)) (fun p => nI (rt_s Q p)) (fun i => nI (L i)) cn (nI (0)) (fun q => nI (K q)) (fun p => rt_b (Z p)) pf) := m_D ha _ rfl
                        refine lv_iload hx hb d_M_route_101 (lv_at hl 7 rfl) ?_
                        refine lv_bipush (v := (nI (6))) hx hb d_M_route_103 (by decide) ?_
                        refine rw_cge (tgt := 181) hx hb d_M_route_105 (by decide) (by omega) (by omega) (fun c_105 => ?_) (fun c_105 => ?_)
                        · omega
                        · refine lv_aload_n hx hb d_M_route_108 rfl (lv_at hl 0 rfl) ?_
                          refine lv_iload hx hb d_M_route_109 (lv_at hl 4 rfl) ?_
                          refine lv_iload hx hb d_M_route_111 (lv_at hl 7 rfl) ?_
                          refine w_ci (As := [.int (nI (v)), .int (nI (j))]) (rest := []) ⟨hx, hb, hml, hown, hts⟩ (c_M_follower l D cI cZ g a ha w h Q L cn (nI (0)) (fun q => nI (K q)) Z pf v j hG hv9 (by omega)) (cwV 2 hts (t_gV k_methodLink_rn_M_78_y_M_follower k_instanceMethod_y_M_follower k_selects_rn_M_y_M_follower_y_M_follower k_initialized_rn_M k_code_y_M_follower_prog_6_method_18_code_6_some_int) rfl rfl rfl (by decide +kernel) ⟨Nat.le_of_ble_eq_true rfl, Nat.le_of_ble_eq_true rfl⟩) (va_recv hK hP (ci := 4) (q0 := 0) rfl rfl) hP hK hZ hS rfl hl.1 rfl (Nat.le_of_ble_eq_true rfl) d_M_route_113 ⟨Nat.zero_le _, Nat.zero_le _⟩ (fun r_113 u_113 H locs hw hP hS => ?_)
                          subst hw
                          have hP : va_P D vwCl (mw cI cZ a w h (fun p => rt_b (decide (Q p ≠ 0))) (fun p => nI (rt_g Q p)) (fun p => nI (rt_s Q p)) (fun i => nI (L i)) cn (nI (0)) (fun q => nI (K q)) (fun p => rt_b (Z p)) pf) H := hP
                          cases ho_116 : rt_fo Q w h v j with
                          | none =>
                            refine lv_istore (lv' := [(8, .int (-1)), (0, .ref (a 0)), (1, .int (nI (rr))), (2, .int (nI (z))), (3, .int (nI (m9))), (4, .int (nI (v))), (5, .int (nI (i))), (6, .int (rt_o (rt_best C (rt_py Q w h v j)))), (7, .int (nI (j)))]) hx hb d_M_route_116 hl (by decide) rfl (fun ls hl => ?_)
                            refine lv_iload hx hb d_M_route_118 (lv_at hl 0 rfl) ?_
                            refine lv_iconst (v := (-1)) hx hb d_M_route_120 (by decide) ?_
                            refine lv_icmp_eq (tgt := 175) hx hb d_M_route_121 (by decide) (fun c_121 => ?_) (fun c_121 => ?_)
                            · refine lv_iinc (v := (nI (j + 1))) (lv' := [(7, .int (nI (j + 1))), (8, .int (-1)), (0, .ref (a 0)), (1, .int (nI (rr))), (2, .int (nI (z))), (3, .int (nI (m9))), (4, .int (nI (v))), (5, .int (nI (i))), (6, .int (rt_o (rt_best C (rt_py Q w h v j))))]) hx hb d_M_route_175 hl (k := 8) rfl (nI_add _ _) (by decide) rfl (fun ls hl => ?_)
                              refine lv_goto (tgt := 101) hx hb d_M_route_178 (by decide) ?_
                              have hl : lv_has ls 9 [(7, .int (nI (j + 1))), (8, .int (-1)), (0, .ref (a 0)), (1, .int (nI (rr))), (2, .int (nI (z))), (3, .int (nI (m9))), (4, .int (nI (v))), (5, .int (nI (i))), (6, .int (rt_o (rt_best C (rt_py Q w h v (j + 1)))))] := by rw [rt_py_n ho_116]; exact hl
                              exact ih_101 (j + 1) (by omega) _ _ _ hP hS (lv_sub hl [2, 3, 4, 5, 6, 7, 8, 0] rfl)
                            · exact absurd rfl c_121
                          | some f =>
                            have hf9 := rt_fo_lt (show j < 6 by omega) ho_116
                            have hof := (rt_fo_k (show j < 6 by omega) ho_116).2.2
                            have hfl := rt_cE_le hsm f
                            unfold rt_E at hfl
                            have hln := rt_ln_in f
                            refine lv_istore (lv' := [(8, .int (nI (f))), (0, .ref (a 0)), (1, .int (nI (rr))), (2, .int (nI (z))), (3, .int (nI (m9))), (4, .int (nI (v))), (5, .int (nI (i))), (6, .int (rt_o (rt_best C (rt_py Q w h v j)))), (7, .int (nI (j)))]) hx hb d_M_route_116 hl (by decide) rfl (fun ls hl => ?_)
                            refine lv_iload hx hb d_M_route_118 (lv_at hl 0 rfl) ?_
                            refine lv_iconst (v := (-1)) hx hb d_M_route_120 (by decide) ?_
                            refine lv_icmp_eq (tgt := 175) hx hb d_M_route_121 (by decide) (fun c_121 => ?_) (fun c_121 => ?_)
                            · exact absurd c_121 (rt_o_ne _ (by omega))
                            · refine lv_aload_n hx hb d_M_route_124 rfl (lv_at hl 1 rfl) ?_
                              refine va_get (D := D) (ci := 4) (v := .ref (a 6)) (C := rn_M) (T := tf_M) (N := 12) hx hb hts in_M hown hK hP 0 rfl rfl 9 (by decide) (hts _ k_fieldLink_rn_M_26_rn_M_cost_I) (fun _ h9 => h9) rfl d_M_route_125 ?_
                              refine lv_iload hx hb d_M_route_128 (lv_at hl 0 rfl) ?_
                              refine rw_iald (v := (nI (rt_cE (C f)))) hx hb hK hP 6 0 rfl rfl (by omega) (by omega) (congrArg nI (hKa f hof)) d_M_route_130 ?_
                              refine lv_ldc (v := nI 1000000000) hx hb hown (hts _ k_constant_rn_M_106_1000000000) d_M_route_131 ?_
                              refine rw_cge (tgt := 175) hx hb d_M_route_133 (by decide) (by omega) (by omega) (fun c_133 => ?_) (fun c_133 => ?_)
                              · have hfn : C f = none := by cases h9 : C f with | none => rfl | some c8 => (rw [h9] at c_133; have := hsm f c8 h9; simp only [rt_cE] at c_133; omega)
                                refine lv_iinc (v := (nI (j + 1))) (lv' := [(7, .int (nI (j + 1))), (8, .int (nI (f))), (0, .ref (a 0)), (1, .int (nI (rr))), (2, .int (nI (z))), (3, .int (nI (m9))), (4, .int (nI (v))), (5, .int (nI (i))), (6, .int (rt_o (rt_best C (rt_py Q w h v j))))]) hx hb d_M_route_175 hl (k := 8) rfl (nI_add _ _) (by decide) rfl (fun ls hl => ?_)
                                refine lv_goto (tgt := 101) hx hb d_M_route_178 (by decide) ?_
                                have hl : lv_has ls 9 [(7, .int (nI (j + 1))), (8, .int (nI (f))), (0, .ref (a 0)), (1, .int (nI (rr))), (2, .int (nI (z))), (3, .int (nI (m9))), (4, .int (nI (v))), (5, .int (nI (i))), (6, .int (rt_o (rt_best C (rt_py Q w h v (j + 1)))))] := by rw [rt_py_s ho_116, rt_best_app, rt_bs_n hfn]; exact hl
                                exact ih_101 (j + 1) (by omega) _ _ _ hP hS (lv_sub hl [2, 3, 4, 5, 6, 7, 8, 0] rfl)
                              · obtain ⟨fc, hfc⟩ : ∃ fc, C f = some fc := (rt_cE_lt hsm).mp (by unfold rt_E; omega)
                                have hfs := hsm f fc hfc
                                have hfe : rt_cE (C f) = fc := by rw [hfc]; rfl
                                cases ho_136 : rt_best C (rt_py Q w h v j) with
                                | none =>
                                  rw [ho_136] at hl
                                  have hl : lv_has ls 9 [(8, .int (nI (f))), (0, .ref (a 0)), (1, .int (nI (rr))), (2, .int (nI (z))), (3, .int (nI (m9))), (4, .int (nI (v))), (5, .int (nI (i))), (6, .int (-1)), (7, .int (nI (j)))] := hl
                                  refine lv_iload hx hb d_M_route_136 (lv_at hl 7 rfl) ?_
                                  refine lv_iconst (v := (-1)) hx hb d_M_route_138 (by decide) ?_
                                  refine lv_icmp_eq (tgt := 171) hx hb d_M_route_139 (by decide) (fun c_139 => ?_) (fun c_139 => ?_)
                                  · refine lv_iload hx hb d_M_route_171 (lv_at hl 0 rfl) ?_
                                    refine lv_istore (lv' := [(6, .int (nI (f))), (8, .int (nI (f))), (0, .ref (a 0)), (1, .int (nI (rr))), (2, .int (nI (z))), (3, .int (nI (m9))), (4, .int (nI (v))), (5, .int (nI (i))), (7, .int (nI (j)))]) hx hb d_M_route_173 hl (by decide) rfl (fun ls hl => ?_)
                                    refine lv_iinc (v := (nI (j + 1))) (lv' := [(7, .int (nI (j + 1))), (6, .int (nI (f))), (8, .int (nI (f))), (0, .ref (a 0)), (1, .int (nI (rr))), (2, .int (nI (z))), (3, .int (nI (m9))), (4, .int (nI (v))), (5, .int (nI (i)))]) hx hb d_M_route_175 hl (k := 8) rfl (nI_add _ _) (by decide) rfl (fun ls hl => ?_)
                                    refine lv_goto (tgt := 101) hx hb d_M_route_178 (by decide) ?_
                                    have hl : lv_has ls 9 [(7, .int (nI (j + 1))), (6, .int (rt_o (rt_best C (rt_py Q w h v (j + 1))))), (8, .int (nI (f))), (0, .ref (a 0)), (1, .int (nI (rr))), (2, .int (nI (z))), (3, .int (nI (m9))), (4, .int (nI (v))), (5, .int (nI (i)))] := by rw [rt_py_s ho_116, rt_best_app, ho_136, rt_bs_0 hfc]; exact hl
                                    exact ih_101 (j + 1) (by omega) _ _ _ hP hS (lv_sub hl [3, 4, 5, 6, 7, 8, 1, 0] rfl)
                                  · exact absurd rfl c_139
                                | some g9 =>
                                  rw [ho_136] at hl
                                  have hl : lv_has ls 9 [(8, .int (nI (f))), (0, .ref (a 0)), (1, .int (nI (rr))), (2, .int (nI (z))), (3, .int (nI (m9))), (4, .int (nI (v))), (5, .int (nI (i))), (6, .int (nI (g9))), (7, .int (nI (j)))] := hl
                                  have hb8 := rt_best_in C (rt_py Q w h v j)
                                  rw [ho_136] at hb8
                                  obtain ⟨hgm, gc, hgc, -⟩ := hb8
                                  have hog : rt_op Q (w * h) g9 = true := hC9.1 g9 gc hgc
                                  have hg12 := rt_op_lt hog
                                  have hgs := hsm g9 gc hgc
                                  have hlg := rt_ln_in g9
                                  have hlw : rt_lw C (some g9) = rt_ln g9 + gc := by show rt_ln g9 + (C g9).getD 0 = _; rw [hgc]; rfl
                                  refine lv_iload hx hb d_M_route_136 (lv_at hl 7 rfl) ?_
                                  refine lv_iconst (v := (-1)) hx hb d_M_route_138 (by decide) ?_
                                  refine lv_icmp_eq (tgt := 171) hx hb d_M_route_139 (by decide) (fun c_139 => ?_) (fun c_139 => ?_)
                                  · exact absurd c_139 (rt_o_ne _ (by omega))
                                  · refine lv_iload hx hb d_M_route_142 (lv_at hl 0 rfl) ?_
                                    refine w_si (As := [.int (nI (f))]) (rest := []) ⟨hx, hb, hml, hown, hts⟩ (c_M_length l D cI cZ g a ha w h Q L cn (nI (0)) (fun q => nI (K q)) Z pf f hG hf9) (va_cwS 1 hts (t_gS k_methodLink_rn_M_107_y_M_length k_static_y_M_length k_initialized_rn_M k_code_y_M_length_prog_6_method_31_code_1_some_int) rfl rfl rfl (by decide +kernel) ⟨Nat.le_of_ble_eq_true rfl, Nat.le_of_ble_eq_true rfl⟩) hP hK hZ hS rfl hl.1 rfl (Nat.le_of_ble_eq_true rfl) d_M_route_144 ⟨Nat.zero_le _, Nat.zero_le _⟩ (fun r_144 u_144 H locs hw hP hS => ?_)
                                    subst hw
                                    have hP : va_P D vwCl (mw cI cZ a w h (fun p => rt_b (decide (Q p ≠ 0))) (fun p => nI (rt_g Q p)) (fun p => nI (rt_s Q p)) (fun i => nI (L i)) cn (nI (0)) (fun q => nI (K q)) (fun p => rt_b (Z p)) pf) H := hP
                                    refine lv_aload_n hx hb d_M_route_147 rfl (lv_at hl 1 rfl) ?_
                                    refine va_get (D := D) (ci := 4) (v := .ref (a 6)) (C := rn_M) (T := tf_M) (N := 12) hx hb hts in_M hown hK hP 0 rfl rfl 9 (by decide) (hts _ k_fieldLink_rn_M_26_rn_M_cost_I) (fun _ h9 => h9) rfl d_M_route_148 ?_
                                    refine lv_iload hx hb d_M_route_151 (lv_at hl 0 rfl) ?_
                                    refine rw_iald (v := (nI (fc))) hx hb hK hP 6 0 rfl rfl (by omega) (by omega) (congrArg nI ((hKa f hof).trans hfe)) d_M_route_153 ?_
                                    refine rw_add hx hb d_M_route_154 ?_
                                    refine lv_iload hx hb d_M_route_155 (lv_at hl 7 rfl) ?_
                                    refine w_si (As := [.int (nI (g9))]) (rest := [.int (nI ((rt_ln f) + fc))]) ⟨hx, hb, hml, hown, hts⟩ (c_M_length l D cI cZ g a ha w h Q L cn (nI (0)) (fun q => nI (K q)) Z pf g9 hG hg12) (va_cwS 1 hts (t_gS k_methodLink_rn_M_107_y_M_length k_static_y_M_length k_initialized_rn_M k_code_y_M_length_prog_6_method_31_code_1_some_int) rfl rfl rfl (by decide +kernel) ⟨Nat.le_of_ble_eq_true rfl, Nat.le_of_ble_eq_true rfl⟩) hP hK hZ hS rfl hl.1 rfl (Nat.le_of_ble_eq_true rfl) d_M_route_157 ⟨Nat.zero_le _, Nat.zero_le _⟩ (fun r_157 u_157 H locs hw hP hS => ?_)
                                    subst hw
                                    have hP : va_P D vwCl (mw cI cZ a w h (fun p => rt_b (decide (Q p ≠ 0))) (fun p => nI (rt_g Q p)) (fun p => nI (rt_s Q p)) (fun i => nI (L i)) cn (nI (0)) (fun q => nI (K q)) (fun p => rt_b (Z p)) pf) H := hP
                                    refine lv_aload_n hx hb d_M_route_160 rfl (lv_at hl 1 rfl) ?_
                                    refine va_get (D := D) (ci := 4) (v := .ref (a 6)) (C := rn_M) (T := tf_M) (N := 12) hx hb hts in_M hown hK hP 0 rfl rfl 9 (by decide) (hts _ k_fieldLink_rn_M_26_rn_M_cost_I) (fun _ h9 => h9) rfl d_M_route_161 ?_
                                    refine lv_iload hx hb d_M_route_164 (lv_at hl 7 rfl) ?_
                                    refine rw_iald (v := (nI (gc))) hx hb hK hP 6 0 rfl rfl (by omega) (by omega) (congrArg nI ((hKa g9 hog).trans (by rw [hgc]; rfl))) d_M_route_166 ?_
                                    refine rw_add hx hb d_M_route_167 ?_
                                    refine rw_cge (tgt := 175) hx hb d_M_route_168 (by decide) (by omega) (by omega) (fun c_168 => ?_) (fun c_168 => ?_)
                                    · refine lv_iinc (v := (nI (j + 1))) (lv' := [(7, .int (nI (j + 1))), (8, .int (nI (f))), (0, .ref (a 0)), (1, .int (nI (rr))), (2, .int (nI (z))), (3, .int (nI (m9))), (4, .int (nI (v))), (5, .int (nI (i))), (6, .int (nI (g9)))]) hx hb d_M_route_175 hl (k := 8) rfl (nI_add _ _) (by decide) rfl (fun ls hl => ?_)
                                      refine lv_goto (tgt := 101) hx hb d_M_route_178 (by decide) ?_
                                      have hl : lv_has ls 9 [(7, .int (nI (j + 1))), (8, .int (nI (f))), (0, .ref (a 0)), (1, .int (nI (rr))), (2, .int (nI (z))), (3, .int (nI (m9))), (4, .int (nI (v))), (5, .int (nI (i))), (6, .int (rt_o (rt_best C (rt_py Q w h v (j + 1)))))] := by rw [rt_py_s ho_116, rt_best_app, ho_136, rt_bs_f hfc (by rw [hlw]; omega)]; exact hl
                                      exact ih_101 (j + 1) (by omega) _ _ _ hP hS (lv_sub hl [2, 3, 4, 5, 6, 7, 8, 0] rfl)
                                    · refine lv_iload hx hb d_M_route_171 (lv_at hl 0 rfl) ?_
                                      refine lv_istore (lv' := [(6, .int (nI (f))), (8, .int (nI (f))), (0, .ref (a 0)), (1, .int (nI (rr))), (2, .int (nI (z))), (3, .int (nI (m9))), (4, .int (nI (v))), (5, .int (nI (i))), (7, .int (nI (j)))]) hx hb d_M_route_173 hl (by decide) rfl (fun ls hl => ?_)
                                      refine lv_iinc (v := (nI (j + 1))) (lv' := [(7, .int (nI (j + 1))), (6, .int (nI (f))), (8, .int (nI (f))), (0, .ref (a 0)), (1, .int (nI (rr))), (2, .int (nI (z))), (3, .int (nI (m9))), (4, .int (nI (v))), (5, .int (nI (i)))]) hx hb d_M_route_175 hl (k := 8) rfl (nI_add _ _) (by decide) rfl (fun ls hl => ?_)
                                      refine lv_goto (tgt := 101) hx hb d_M_route_178 (by decide) ?_
                                      have hl : lv_has ls 9 [(7, .int (nI (j + 1))), (6, .int (rt_o (rt_best C (rt_py Q w h v (j + 1))))), (8, .int (nI (f))), (0, .ref (a 0)), (1, .int (nI (rr))), (2, .int (nI (z))), (3, .int (nI (m9))), (4, .int (nI (v))), (5, .int (nI (i)))] := by rw [rt_py_s ho_116, rt_best_app, ho_136, rt_bs_t hfc (by rw [hlw]; omega)]; exact hl
                                      exact ih_101 (j + 1) (by omega) _ _ _ hP hS (lv_sub hl [3, 4, 5, 6, 7, 8, 1, 0] rfl)
                    exact LP_101 6 0 (by omega) _ _ _ hP hS (lv_sub hl [2, 3, 4, 5, 6, 7, 1, 0] rfl)
                  · refine lv_aload_n hx hb d_M_route_70 rfl (lv_at hl 0 rfl) ?_
                    refine lv_iload hx hb d_M_route_71 (lv_at hl 4 rfl) ?_
                    refine lv_iconst (v := (nI (2))) hx hb d_M_route_73 (by decide) ?_
                    refine rw_div hx hb d_M_route_74 (by omega) (by omega) (by omega) ?_
                    refine w_ci (As := [.int (nI (v / 2))]) (rest := []) ⟨hx, hb, hml, hown, hts⟩ (c_M_signalled l D cI cZ g a ha w h Q L cn (nI (0)) (fun q => nI (K q)) Z pf (v / 2) hG (by omega)) (cwV 1 hts (t_gV k_methodLink_rn_M_58_y_M_signalled k_instanceMethod_y_M_signalled k_selects_rn_M_y_M_signalled_y_M_signalled k_initialized_rn_M k_code_y_M_signalled_prog_6_method_12_code_2_some_int) rfl rfl rfl (by decide +kernel) ⟨Nat.le_of_ble_eq_true rfl, Nat.le_of_ble_eq_true rfl⟩) (va_recv hK hP (ci := 4) (q0 := 0) rfl rfl) hP hK hZ hS rfl hl.1 rfl (Nat.le_of_ble_eq_true rfl) d_M_route_75 ⟨Nat.zero_le _, Nat.zero_le _⟩ (fun r_75 u_75 H locs hw hP hS => ?_)
                    subst hw
                    have hP : va_P D vwCl (mw cI cZ a w h (fun p => rt_b (decide (Q p ≠ 0))) (fun p => nI (rt_g Q p)) (fun p => nI (rt_s Q p)) (fun i => nI (L i)) cn (nI (0)) (fun q => nI (K q)) (fun p => rt_b (Z p)) pf) H := hP
                    by_cases hg0 : rt_g Q (v / 2) = 0
                    · rw [if_pos hg0]
                      have hs0 := rt_hs_0 hg0
                      refine lv_iload hx hb d_M_route_78 (lv_at hl 4 rfl) ?_
                      refine lv_icmp_eq (tgt := 93) hx hb d_M_route_80 (by decide) (fun c_80 => ?_) (fun c_80 => ?_)
                      · exact absurd c_80.symm (rt_o_ne _ (by omega))
                      · refine lv_aload_n hx hb d_M_route_83 rfl (lv_at hl 0 rfl) ?_
                        refine va_get (D := D) (ci := 4) (v := .ref (a 6)) (C := rn_M) (T := tf_M) (N := 12) hx hb hts in_M hown hK hP 0 rfl rfl 9 (by decide) (hts _ k_fieldLink_rn_M_26_rn_M_cost_I) (fun _ h9 => h9) rfl d_M_route_84 ?_
                        refine lv_iload hx hb d_M_route_87 (lv_at hl 4 rfl) ?_
                        refine rw_iald (v := (nI (c0))) hx hb hK hP 6 0 rfl rfl (by omega) (by omega) (by show nI (K v) = _; rw [hKa v hov, hI.1]; rfl) d_M_route_89 ?_
                        refine rw_zne (tgt := 95) hx hb d_M_route_90 (by decide) (by omega) (fun c_90 => ?_) (fun c_90 => ?_)
                        · have hns : i = 0 ∨ ¬ (rt_hs Q v = true ∨ C v = some 0) := Or.inr (by rintro (q | q); rw [show rt_hs Q v = false from hs0] at q; cases q; rw [hI.1] at q; cases q; exact c_90 rfl)
                          obtain ⟨b, c9, hbe, hbm, hbc, hblt⟩ := rt_best_on hC9 hI.1 (rt_mr_c0 hI hns)
                          have hb9 : b < 12 * (w * h) := rt_op_lt (hC9.1 b c9 hbc)
                          have hG1 := rt_mr_go hI hns hbe hb9 hbc hblt
                          refine lv_iconst (v := (-1)) hx hb d_M_route_95 (by decide) ?_
                          refine lv_istore (lv' := [(6, .int (-1)), (0, .ref (a 0)), (1, .int (nI (rr))), (2, .int (nI (z))), (3, .int (nI (m9))), (4, .int (nI (v))), (5, .int (nI (i)))]) hx hb d_M_route_96 hl (by decide) rfl (fun ls hl => ?_)
                          refine lv_iconst (v := (nI (0))) hx hb d_M_route_98 (by decide) ?_
                          refine lv_istore (lv' := [(7, .int (nI (0))), (6, .int (-1)), (0, .ref (a 0)), (1, .int (nI (rr))), (2, .int (nI (z))), (3, .int (nI (m9))), (4, .int (nI (v))), (5, .int (nI (i)))]) hx hb d_M_route_99 hl (by decide) rfl (fun ls hl => ?_)
                          have LP_101 : ∀ (n_101 : Nat) (j : Nat), j + n_101 = 6 → ∀ (H : Heap) (locs : List Loc) (ls : Array Slot), va_P D vwCl (mw cI cZ a w h (fun p => rt_b (decide (Q p ≠ 0))) (fun p => nI (rt_g Q p)) (fun p => nI (rt_s Q p)) (fun i => nI (L i)) cn (nI (0)) (fun q => nI (K q)) (fun p => rt_b (Z p)) pf) H → va_S (mA a) s.heap H locs → lv_has ls 9 [(0, .ref (a 0)), (1, .int (nI (rr))), (2, .int (nI (z))), (3, .int (nI (m9))), (4, .int (nI (v))), (5, .int (nI (i))), (6, .int (rt_o (rt_best C (rt_py Q w h v j)))), (7, .int (nI (j)))] → W p l e (headSpec (.code y_M_route b_M_route 9 (some .int) :: tG) ({ frames := 5, cells := 0, slots := 0, locals := 117 })).room s m ([.ref (a 0), .int ((nI rr)), .int ((nI z)), .int ((nI m9))] : List Value).toArray below meth c H locs 0 0 (MQ below (va_Qi (S := (Nat → Int32)) (fun r _ => (rt_opx Q (w * h) (nI rr) = true → (rt_ix (nI z) 8).isSome = true → r = rt_route Q w h C (nI rr) (nI m9)) ∧ ((rt_opx Q (w * h) (nI rr) = false ∨ rt_ix (nI z) 8 = none) → r = -1)) (wB D (fun (u : (Nat → Int32)) => (mw cI cZ a w h (fun p => rt_b (decide (Q p ≠ 0))) (fun p => nI (rt_g Q p)) (fun p => nI (rt_s Q p)) (fun i => nI (L i)) cn (nI (0)) u (fun p => rt_b (Z p)) pf))) (mA a)) ([.ref (a 0), .int ((nI rr)), .int ((nI z)), .int ((nI m9))] : List Value).toArray s 0 0 (mA a)) (F0 m 101 ls []) := by
                            intro n_101
                            induction n_101 with
                            | zero =>
                              intro j hrel_101 H locs ls hP hS hl
                              have hD : va_D (mA a) (mw cI cZ a w h (fun p => rt_b (decide (Q p ≠ 0))) (fun p => nI (rt_g Q p)) (fun p => nI (rt_s Q p)) (fun i => nI (L i)) cn (nI (0)) (fun q => nI (K q)) (fun p => rt_b (Z p)) pf) := m_D ha _ rfl
                              refine lv_iload hx hb d_M_route_101 (lv_at hl 7 rfl) ?_
                              refine lv_bipush (v := (nI (6))) hx hb d_M_route_103 (by decide) ?_
                              refine rw_cge (tgt := 181) hx hb d_M_route_105 (by decide) (by omega) (by omega) (fun c_105 => ?_) (fun c_105 => ?_)
                              · rw [show j = 6 by omega, rt_py_6, hbe] at hl
                                have hl : lv_has ls 9 [(0, .ref (a 0)), (1, .int (nI (rr))), (2, .int (nI (z))), (3, .int (nI (m9))), (4, .int (nI (v))), (5, .int (nI (i))), (6, .int (nI (b))), (7, .int (nI (6)))] := hl
                                refine lv_iload hx hb d_M_route_181 (lv_at hl 6 rfl) ?_
                                refine lv_istore (lv' := [(4, .int (nI (b))), (0, .ref (a 0)), (1, .int (nI (rr))), (2, .int (nI (z))), (3, .int (nI (m9))), (5, .int (nI (i))), (6, .int (nI (b))), (7, .int (nI (6)))]) hx hb d_M_route_183 hl (by decide) rfl (fun ls hl => ?_)
                                refine lv_iinc (v := (nI (i + 1))) (lv' := [(5, .int (nI (i + 1))), (4, .int (nI (b))), (0, .ref (a 0)), (1, .int (nI (rr))), (2, .int (nI (z))), (3, .int (nI (m9))), (6, .int (nI (b))), (7, .int (nI (6)))]) hx hb d_M_route_185 hl (k := 5) rfl (nI_add _ _) (by decide) rfl (fun ls hl => ?_)
                                refine lv_goto (tgt := 59) hx hb d_M_route_188 (by decide) ?_
                                exact ih_59 (i + 1) b c9 (by omega) hG1 (by omega) _ _ _ hP hS (lv_sub hl [2, 3, 4, 5, 1, 0] rfl)
                              · omega
                            | succ n_101 ih_101 =>
                              intro j hrel_101 H locs ls hP hS hl
                              have hD : va_D (mA a) (mw cI cZ a w h (fun p => rt_b (decide (Q p ≠ 0))) (fun p => nI (rt_g Q p)) (fun p => nI (rt_s Q p)) (fun i => nI (L i)) cn (nI (0)) (fun q => nI (K q)) (fun p => rt_b (Z p)) pf) := m_D ha _ rfl
                              refine lv_iload hx hb d_M_route_101 (lv_at hl 7 rfl) ?_
                              refine lv_bipush (v := (nI (6))) hx hb d_M_route_103 (by decide) ?_
                              refine rw_cge (tgt := 181) hx hb d_M_route_105 (by decide) (by omega) (by omega) (fun c_105 => ?_) (fun c_105 => ?_)
                              · omega
                              · refine lv_aload_n hx hb d_M_route_108 rfl (lv_at hl 0 rfl) ?_
                                refine lv_iload hx hb d_M_route_109 (lv_at hl 4 rfl) ?_
                                refine lv_iload hx hb d_M_route_111 (lv_at hl 7 rfl) ?_
                                refine w_ci (As := [.int (nI (v)), .int (nI (j))]) (rest := []) ⟨hx, hb, hml, hown, hts⟩ (c_M_follower l D cI cZ g a ha w h Q L cn (nI (0)) (fun q => nI (K q)) Z pf v j hG hv9 (by omega)) (cwV 2 hts (t_gV k_methodLink_rn_M_78_y_M_follower k_instanceMethod_y_M_follower k_selects_rn_M_y_M_follower_y_M_follower k_initialized_rn_M k_code_y_M_follower_prog_6_method_18_code_6_some_int) rfl rfl rfl (by decide +kernel) ⟨Nat.le_of_ble_eq_true rfl, Nat.le_of_ble_eq_true rfl⟩) (va_recv hK hP (ci := 4) (q0 := 0) rfl rfl) hP hK hZ hS rfl hl.1 rfl (Nat.le_of_ble_eq_true rfl) d_M_route_113 ⟨Nat.zero_le _, Nat.zero_le _⟩ (fun r_113 u_113 H locs hw hP hS => ?_)
                                subst hw
                                have hP : va_P D vwCl (mw cI cZ a w h (fun p => rt_b (decide (Q p ≠ 0))) (fun p => nI (rt_g Q p)) (fun p => nI (rt_s Q p)) (fun i => nI (L i)) cn (nI (0)) (fun q => nI (K q)) (fun p => rt_b (Z p)) pf) H := hP
                                cases ho_116 : rt_fo Q w h v j with
                                | none =>
                                  refine lv_istore (lv' := [(8, .int (-1)), (0, .ref (a 0)), (1, .int (nI (rr))), (2, .int (nI (z))), (3, .int (nI (m9))), (4, .int (nI (v))), (5, .int (nI (i))), (6, .int (rt_o (rt_best C (rt_py Q w h v j)))), (7, .int (nI (j)))]) hx hb d_M_route_116 hl (by decide) rfl (fun ls hl => ?_)
                                  refine lv_iload hx hb d_M_route_118 (lv_at hl 0 rfl) ?_
                                  refine lv_iconst (v := (-1)) hx hb d_M_route_120 (by decide) ?_
                                  refine lv_icmp_eq (tgt := 175) hx hb d_M_route_121 (by decide) (fun c_121 => ?_) (fun c_121 => ?_)
                                  · refine lv_iinc (v := (nI (j + 1))) (lv' := [(7, .int (nI (j + 1))), (8, .int (-1)), (0, .ref (a 0)), (1, .int (nI (rr))), (2, .int (nI (z))), (3, .int (nI (m9))), (4, .int (nI (v))), (5, .int (nI (i))), (6, .int (rt_o (rt_best C (rt_py Q w h v j))))]) hx hb d_M_route_175 hl (k := 8) rfl (nI_add _ _) (by decide) rfl (fun ls hl => ?_)
                                    refine lv_goto (tgt := 101) hx hb d_M_route_178 (by decide) ?_
                                    have hl : lv_has ls 9 [(7, .int (nI (j + 1))), (8, .int (-1)), (0, .ref (a 0)), (1, .int (nI (rr))), (2, .int (nI (z))), (3, .int (nI (m9))), (4, .int (nI (v))), (5, .int (nI (i))), (6, .int (rt_o (rt_best C (rt_py Q w h v (j + 1)))))] := by rw [rt_py_n ho_116]; exact hl
                                    exact ih_101 (j + 1) (by omega) _ _ _ hP hS (lv_sub hl [2, 3, 4, 5, 6, 7, 8, 0] rfl)
                                  · exact absurd rfl c_121
                                | some f =>
                                  have hf9 := rt_fo_lt (show j < 6 by omega) ho_116
                                  have hof := (rt_fo_k (show j < 6 by omega) ho_116).2.2
                                  have hfl := rt_cE_le hsm f
                                  unfold rt_E at hfl
                                  have hln := rt_ln_in f
                                  refine lv_istore (lv' := [(8, .int (nI (f))), (0, .ref (a 0)), (1, .int (nI (rr))), (2, .int (nI (z))), (3, .int (nI (m9))), (4, .int (nI (v))), (5, .int (nI (i))), (6, .int (rt_o (rt_best C (rt_py Q w h v j)))), (7, .int (nI (j)))]) hx hb d_M_route_116 hl (by decide) rfl (fun ls hl => ?_)
                                  refine lv_iload hx hb d_M_route_118 (lv_at hl 0 rfl) ?_
                                  refine lv_iconst (v := (-1)) hx hb d_M_route_120 (by decide) ?_
                                  refine lv_icmp_eq (tgt := 175) hx hb d_M_route_121 (by decide) (fun c_121 => ?_) (fun c_121 => ?_)
                                  · exact absurd c_121 (rt_o_ne _ (by omega))
                                  · refine lv_aload_n hx hb d_M_route_124 rfl (lv_at hl 1 rfl) ?_
                                    refine va_get (D := D) (ci := 4) (v := .ref (a 6)) (C := rn_M) (T := tf_M) (N := 12) hx hb hts in_M hown hK hP 0 rfl rfl 9 (by decide) (hts _ k_fieldLink_rn_M_26_rn_M_cost_I) (fun _ h9 => h9) rfl d_M_route_125 ?_
                                    refine lv_iload hx hb d_M_route_128 (lv_at hl 0 rfl) ?_
                                    refine rw_iald (v := (nI (rt_cE (C f)))) hx hb hK hP 6 0 rfl rfl (by omega) (by omega) (congrArg nI (hKa f hof)) d_M_route_130 ?_
                                    refine lv_ldc (v := nI 1000000000) hx hb hown (hts _ k_constant_rn_M_106_1000000000) d_M_route_131 ?_
                                    refine rw_cge (tgt := 175) hx hb d_M_route_133 (by decide) (by omega) (by omega) (fun c_133 => ?_) (fun c_133 => ?_)
                                    · have hfn : C f = none := by cases h9 : C f with | none => rfl | some c8 => (rw [h9] at c_133; have := hsm f c8 h9; simp only [rt_cE] at c_133; omega)
                                      refine lv_iinc (v := (nI (j + 1))) (lv' := [(7, .int (nI (j + 1))), (8, .int (nI (f))), (0, .ref (a 0)), (1, .int (nI (rr))), (2, .int (nI (z))), (3, .int (nI (m9))), (4, .int (nI (v))), (5, .int (nI (i))), (6, .int (rt_o (rt_best C (rt_py Q w h v j))))]) hx hb d_M_route_175 hl (k := 8) rfl (nI_add _ _) (by decide) rfl (fun ls hl => ?_)
                                      refine lv_goto (tgt := 101) hx hb d_M_route_178 (by decide) ?_
                                      have hl : lv_has ls 9 [(7, .int (nI (j + 1))), (8, .int (nI (f))), (0, .ref (a 0)), (1, .int (nI (rr))), (2, .int (nI (z))), (3, .int (nI (m9))), (4, .int (nI (v))), (5, .int (nI (i))), (6, .int (rt_o (rt_best C (rt_py Q w h v (j + 1)))))] := by rw [rt_py_s ho_116, rt_best_app, rt_bs_n hfn]; exact hl
                                      exact ih_101 (j + 1) (by omega) _ _ _ hP hS (lv_sub hl [2, 3, 4, 5, 6, 7, 8, 0] rfl)
                                    · obtain ⟨fc, hfc⟩ : ∃ fc, C f = some fc := (rt_cE_lt hsm).mp (by unfold rt_E; omega)
                                      have hfs := hsm f fc hfc
                                      have hfe : rt_cE (C f) = fc := by rw [hfc]; rfl
                                      cases ho_136 : rt_best C (rt_py Q w h v j) with
                                      | none =>
                                        rw [ho_136] at hl
                                        have hl : lv_has ls 9 [(8, .int (nI (f))), (0, .ref (a 0)), (1, .int (nI (rr))), (2, .int (nI (z))), (3, .int (nI (m9))), (4, .int (nI (v))), (5, .int (nI (i))), (6, .int (-1)), (7, .int (nI (j)))] := hl
                                        refine lv_iload hx hb d_M_route_136 (lv_at hl 7 rfl) ?_
                                        refine lv_iconst (v := (-1)) hx hb d_M_route_138 (by decide) ?_
                                        refine lv_icmp_eq (tgt := 171) hx hb d_M_route_139 (by decide) (fun c_139 => ?_) (fun c_139 => ?_)
                                        · refine lv_iload hx hb d_M_route_171 (lv_at hl 0 rfl) ?_
                                          refine lv_istore (lv' := [(6, .int (nI (f))), (8, .int (nI (f))), (0, .ref (a 0)), (1, .int (nI (rr))), (2, .int (nI (z))), (3, .int (nI (m9))), (4, .int (nI (v))), (5, .int (nI (i))), (7, .int (nI (j)))]) hx hb d_M_route_173 hl (by decide) rfl (fun ls hl => ?_)
                                          refine lv_iinc (v := (nI (j + 1))) (lv' := [(7, .int (nI (j + 1))), (6, .int (nI (f))), (8, .int (nI (f))), (0, .ref (a 0)), (1, .int (nI (rr))), (2, .int (nI (z))), (3, .int (nI (m9))), (4, .int (nI (v))), (5, .int (nI (i)))]) hx hb d_M_route_175 hl (k := 8) rfl (nI_add _ _) (by decide) rfl (fun ls hl => ?_)
                                          refine lv_goto (tgt := 101) hx hb d_M_route_178 (by decide) ?_
                                          have hl : lv_has ls 9 [(7, .int (nI (j + 1))), (6, .int (rt_o (rt_best C (rt_py Q w h v (j + 1))))), (8, .int (nI (f))), (0, .ref (a 0)), (1, .int (nI (rr))), (2, .int (nI (z))), (3, .int (nI (m9))), (4, .int (nI (v))), (5, .int (nI (i)))] := by rw [rt_py_s ho_116, rt_best_app, ho_136, rt_bs_0 hfc]; exact hl
                                          exact ih_101 (j + 1) (by omega) _ _ _ hP hS (lv_sub hl [3, 4, 5, 6, 7, 8, 1, 0] rfl)
                                        · exact absurd rfl c_139
                                      | some g9 =>
                                        rw [ho_136] at hl
                                        have hl : lv_has ls 9 [(8, .int (nI (f))), (0, .ref (a 0)), (1, .int (nI (rr))), (2, .int (nI (z))), (3, .int (nI (m9))), (4, .int (nI (v))), (5, .int (nI (i))), (6, .int (nI (g9))), (7, .int (nI (j)))] := hl
                                        have hb8 := rt_best_in C (rt_py Q w h v j)
                                        rw [ho_136] at hb8
                                        obtain ⟨hgm, gc, hgc, -⟩ := hb8
                                        have hog : rt_op Q (w * h) g9 = true := hC9.1 g9 gc hgc
                                        have hg12 := rt_op_lt hog
                                        have hgs := hsm g9 gc hgc
                                        have hlg := rt_ln_in g9
                                        have hlw : rt_lw C (some g9) = rt_ln g9 + gc := by show rt_ln g9 + (C g9).getD 0 = _; rw [hgc]; rfl
                                        refine lv_iload hx hb d_M_route_136 (lv_at hl 7 rfl) ?_
                                        refine lv_iconst (v := (-1)) hx hb d_M_route_138 (by decide) ?_
                                        refine lv_icmp_eq (tgt := 171) hx hb d_M_route_139 (by decide) (fun c_139 => ?_) (fun c_139 => ?_)
                                        · exact absurd c_139 (rt_o_ne _ (by omega))
                                        · refine lv_iload hx hb d_M_route_142 (lv_at hl 0 rfl) ?_
                                          refine w_si (As := [.int (nI (f))]) (rest := []) ⟨hx, hb, hml, hown, hts⟩ (c_M_length l D cI cZ g a ha w h Q L cn (nI (0)) (fun q => nI (K q)) Z pf f hG hf9) (va_cwS 1 hts (t_gS k_methodLink_rn_M_107_y_M_length k_static_y_M_length k_initialized_rn_M k_code_y_M_length_prog_6_method_31_code_1_some_int) rfl rfl rfl (by decide +kernel) ⟨Nat.le_of_ble_eq_true rfl, Nat.le_of_ble_eq_true rfl⟩) hP hK hZ hS rfl hl.1 rfl (Nat.le_of_ble_eq_true rfl) d_M_route_144 ⟨Nat.zero_le _, Nat.zero_le _⟩ (fun r_144 u_144 H locs hw hP hS => ?_)
                                          subst hw
                                          have hP : va_P D vwCl (mw cI cZ a w h (fun p => rt_b (decide (Q p ≠ 0))) (fun p => nI (rt_g Q p)) (fun p => nI (rt_s Q p)) (fun i => nI (L i)) cn (nI (0)) (fun q => nI (K q)) (fun p => rt_b (Z p)) pf) H := hP
                                          refine lv_aload_n hx hb d_M_route_147 rfl (lv_at hl 1 rfl) ?_
                                          refine va_get (D := D) (ci := 4) (v := .ref (a 6)) (C := rn_M) (T := tf_M) (N := 12) hx hb hts in_M hown hK hP 0 rfl rfl 9 (by decide) (hts _ k_fieldLink_rn_M_26_rn_M_cost_I) (fun _ h9 => h9) rfl d_M_route_148 ?_
                                          refine lv_iload hx hb d_M_route_151 (lv_at hl 0 rfl) ?_
                                          refine rw_iald (v := (nI (fc))) hx hb hK hP 6 0 rfl rfl (by omega) (by omega) (congrArg nI ((hKa f hof).trans hfe)) d_M_route_153 ?_
                                          refine rw_add hx hb d_M_route_154 ?_
                                          refine lv_iload hx hb d_M_route_155 (lv_at hl 7 rfl) ?_
                                          refine w_si (As := [.int (nI (g9))]) (rest := [.int (nI ((rt_ln f) + fc))]) ⟨hx, hb, hml, hown, hts⟩ (c_M_length l D cI cZ g a ha w h Q L cn (nI (0)) (fun q => nI (K q)) Z pf g9 hG hg12) (va_cwS 1 hts (t_gS k_methodLink_rn_M_107_y_M_length k_static_y_M_length k_initialized_rn_M k_code_y_M_length_prog_6_method_31_code_1_some_int) rfl rfl rfl (by decide +kernel) ⟨Nat.le_of_ble_eq_true rfl, Nat.le_of_ble_eq_true rfl⟩) hP hK hZ hS rfl hl.1 rfl (Nat.le_of_ble_eq_true rfl) d_M_route_157 ⟨Nat.zero_le _, Nat.zero_le _⟩ (fun r_157 u_157 H locs hw hP hS => ?_)
                                          subst hw
                                          have hP : va_P D vwCl (mw cI cZ a w h (fun p => rt_b (decide (Q p ≠ 0))) (fun p => nI (rt_g Q p)) (fun p => nI (rt_s Q p)) (fun i => nI (L i)) cn (nI (0)) (fun q => nI (K q)) (fun p => rt_b (Z p)) pf) H := hP
                                          refine lv_aload_n hx hb d_M_route_160 rfl (lv_at hl 1 rfl) ?_
                                          refine va_get (D := D) (ci := 4) (v := .ref (a 6)) (C := rn_M) (T := tf_M) (N := 12) hx hb hts in_M hown hK hP 0 rfl rfl 9 (by decide) (hts _ k_fieldLink_rn_M_26_rn_M_cost_I) (fun _ h9 => h9) rfl d_M_route_161 ?_
                                          refine lv_iload hx hb d_M_route_164 (lv_at hl 7 rfl) ?_
                                          refine rw_iald (v := (nI (gc))) hx hb hK hP 6 0 rfl rfl (by omega) (by omega) (congrArg nI ((hKa g9 hog).trans (by rw [hgc]; rfl))) d_M_route_166 ?_
                                          refine rw_add hx hb d_M_route_167 ?_
                                          refine rw_cge (tgt := 175) hx hb d_M_route_168 (by decide) (by omega) (by omega) (fun c_168 => ?_) (fun c_168 => ?_)
                                          · refine lv_iinc (v := (nI (j + 1))) (lv' := [(7, .int (nI (j + 1))), (8, .int (nI (f))), (0, .ref (a 0)), (1, .int (nI (rr))), (2, .int (nI (z))), (3, .int (nI (m9))), (4, .int (nI (v))), (5, .int (nI (i))), (6, .int (nI (g9)))]) hx hb d_M_route_175 hl (k := 8) rfl (nI_add _ _) (by decide) rfl (fun ls hl => ?_)
                                            refine lv_goto (tgt := 101) hx hb d_M_route_178 (by decide) ?_
                                            have hl : lv_has ls 9 [(7, .int (nI (j + 1))), (8, .int (nI (f))), (0, .ref (a 0)), (1, .int (nI (rr))), (2, .int (nI (z))), (3, .int (nI (m9))), (4, .int (nI (v))), (5, .int (nI (i))), (6, .int (rt_o (rt_best C (rt_py Q w h v (j + 1)))))] := by rw [rt_py_s ho_116, rt_best_app, ho_136, rt_bs_f hfc (by rw [hlw]; omega)]; exact hl
                                            exact ih_101 (j + 1) (by omega) _ _ _ hP hS (lv_sub hl [2, 3, 4, 5, 6, 7, 8, 0] rfl)
                                          · refine lv_iload hx hb d_M_route_171 (lv_at hl 0 rfl) ?_
                                            refine lv_istore (lv' := [(6, .int (nI (f))), (8, .int (nI (f))), (0, .ref (a 0)), (1, .int (nI (rr))), (2, .int (nI (z))), (3, .int (nI (m9))), (4, .int (nI (v))), (5, .int (nI (i))), (7, .int (nI (j)))]) hx hb d_M_route_173 hl (by decide) rfl (fun ls hl => ?_)
                                            refine lv_iinc (v := (nI (j + 1))) (lv' := [(7, .int (nI (j + 1))), (6, .int (nI (f))), (8, .int (nI (f))), (0, .ref (a 0)), (1, .int (nI (rr))), (2, .int (nI (z))), (3, .int (nI (m9))), (4, .int (nI (v))), (5, .int (nI (i)))]) hx hb d_M_route_175 hl (k := 8) rfl (nI_add _ _) (by decide) rfl (fun ls hl => ?_)
                                            refine lv_goto (tgt := 101) hx hb d_M_route_178 (by decide) ?_
                                            have hl : lv_has ls 9 [(7, .int (nI (j + 1))), (6, .int (rt_o (rt_best C (rt_py Q w h v (j + 1))))), (8, .int (nI (f))), (0, .ref (a 0)), (1, .int (nI (rr))), (2, .int (nI (z))), (3, .int (nI (m9))), (4, .int (nI (v))), (5, .int (nI (i)))] := by rw [rt_py_s ho_116, rt_best_app, ho_136, rt_bs_t hfc (by rw [hlw]; omega)]; exact hl
                                            exact ih_101 (j + 1) (by omega) _ _ _ hP hS (lv_sub hl [3, 4, 5, 6, 7, 8, 1, 0] rfl)
                          exact LP_101 6 0 (by omega) _ _ _ hP hS (lv_sub hl [2, 3, 4, 5, 6, 7, 1, 0] rfl)
                        · refine lv_iconst (v := (-1)) hx hb d_M_route_93 (by decide) ?_
                          exact w_iret _ hx hb hr hlocks hS hP (⟨fun _ _ => by rw [rt_route_hit (by omega) hc1 hc10 hm9]; obtain ⟨m8, rfl⟩ : ∃ m8, m9 = i + m8 := ⟨m9 - i, by omega⟩; rw [hI.2.2.2.2 ⟨by omega, Or.inr (by rw [hI.1]; rw [c_90])⟩]; rfl, fun q => q.elim (fun q => absurd q (by rw [rt_opx_s (by omega) hrr, horr]; simp)) (fun q => absurd q (by rw [rt_ix_some (by decide) hz]; simp))⟩) d_M_route_94
                    · rw [if_neg hg0]
                      refine rw_topI (b := nI (rt_sg Q (v / 2))) rfl ?_
                      have hsg : rt_sg Q (v / 2) < 2 ^ 31 := by unfold rt_sg; omega
                      have hsv := rt_hs_sg hg0
                      refine lv_iload hx hb d_M_route_78 (lv_at hl 4 rfl) ?_
                      refine rw_ceq (tgt := 93) hx hb d_M_route_80 (by decide) (by omega) (by omega) (fun c_80 => ?_) (fun c_80 => ?_)
                      · refine lv_iconst (v := (-1)) hx hb d_M_route_93 (by decide) ?_
                        exact w_iret _ hx hb hr hlocks hS hP (⟨fun _ _ => by rw [rt_route_hit (by omega) hc1 hc10 hm9]; obtain ⟨m8, rfl⟩ : ∃ m8, m9 = i + m8 := ⟨m9 - i, by omega⟩; rw [hI.2.2.2.2 ⟨by omega, Or.inl (by rw [hsv]; exact decide_eq_true c_80)⟩]; rfl, fun q => q.elim (fun q => absurd q (by rw [rt_opx_s (by omega) hrr, horr]; simp)) (fun q => absurd q (by rw [rt_ix_some (by decide) hz]; simp))⟩) d_M_route_94
                      · refine lv_aload_n hx hb d_M_route_83 rfl (lv_at hl 0 rfl) ?_
                        refine va_get (D := D) (ci := 4) (v := .ref (a 6)) (C := rn_M) (T := tf_M) (N := 12) hx hb hts in_M hown hK hP 0 rfl rfl 9 (by decide) (hts _ k_fieldLink_rn_M_26_rn_M_cost_I) (fun _ h9 => h9) rfl d_M_route_84 ?_
                        refine lv_iload hx hb d_M_route_87 (lv_at hl 4 rfl) ?_
                        refine rw_iald (v := (nI (c0))) hx hb hK hP 6 0 rfl rfl (by omega) (by omega) (by show nI (K v) = _; rw [hKa v hov, hI.1]; rfl) d_M_route_89 ?_
                        refine rw_zne (tgt := 95) hx hb d_M_route_90 (by decide) (by omega) (fun c_90 => ?_) (fun c_90 => ?_)
                        · have hns : i = 0 ∨ ¬ (rt_hs Q v = true ∨ C v = some 0) := Or.inr (by rintro (q | q); rw [show rt_hs Q v = false from (by rw [hsv]; exact decide_eq_false c_80)] at q; cases q; rw [hI.1] at q; cases q; exact c_90 rfl)
                          obtain ⟨b, c9, hbe, hbm, hbc, hblt⟩ := rt_best_on hC9 hI.1 (rt_mr_c0 hI hns)
                          have hb9 : b < 12 * (w * h) := rt_op_lt (hC9.1 b c9 hbc)
                          have hG1 := rt_mr_go hI hns hbe hb9 hbc hblt
                          refine lv_iconst (v := (-1)) hx hb d_M_route_95 (by decide) ?_
                          refine lv_istore (lv' := [(6, .int (-1)), (0, .ref (a 0)), (1, .int (nI (rr))), (2, .int (nI (z))), (3, .int (nI (m9))), (4, .int (nI (v))), (5, .int (nI (i)))]) hx hb d_M_route_96 hl (by decide) rfl (fun ls hl => ?_)
                          refine lv_iconst (v := (nI (0))) hx hb d_M_route_98 (by decide) ?_
                          refine lv_istore (lv' := [(7, .int (nI (0))), (6, .int (-1)), (0, .ref (a 0)), (1, .int (nI (rr))), (2, .int (nI (z))), (3, .int (nI (m9))), (4, .int (nI (v))), (5, .int (nI (i)))]) hx hb d_M_route_99 hl (by decide) rfl (fun ls hl => ?_)
                          have LP_101 : ∀ (n_101 : Nat) (j : Nat), j + n_101 = 6 → ∀ (H : Heap) (locs : List Loc) (ls : Array Slot), va_P D vwCl (mw cI cZ a w h (fun p => rt_b (decide (Q p ≠ 0))) (fun p => nI (rt_g Q p)) (fun p => nI (rt_s Q p)) (fun i => nI (L i)) cn (nI (0)) (fun q => nI (K q)) (fun p => rt_b (Z p)) pf) H → va_S (mA a) s.heap H locs → lv_has ls 9 [(0, .ref (a 0)), (1, .int (nI (rr))), (2, .int (nI (z))), (3, .int (nI (m9))), (4, .int (nI (v))), (5, .int (nI (i))), (6, .int (rt_o (rt_best C (rt_py Q w h v j)))), (7, .int (nI (j)))] → W p l e (headSpec (.code y_M_route b_M_route 9 (some .int) :: tG) ({ frames := 5, cells := 0, slots := 0, locals := 117 })).room s m ([.ref (a 0), .int ((nI rr)), .int ((nI z)), .int ((nI m9))] : List Value).toArray below meth c H locs 0 0 (MQ below (va_Qi (S := (Nat → Int32)) (fun r _ => (rt_opx Q (w * h) (nI rr) = true → (rt_ix (nI z) 8).isSome = true → r = rt_route Q w h C (nI rr) (nI m9)) ∧ ((rt_opx Q (w * h) (nI rr) = false ∨ rt_ix (nI z) 8 = none) → r = -1)) (wB D (fun (u : (Nat → Int32)) => (mw cI cZ a w h (fun p => rt_b (decide (Q p ≠ 0))) (fun p => nI (rt_g Q p)) (fun p => nI (rt_s Q p)) (fun i => nI (L i)) cn (nI (0)) u (fun p => rt_b (Z p)) pf))) (mA a)) ([.ref (a 0), .int ((nI rr)), .int ((nI z)), .int ((nI m9))] : List Value).toArray s 0 0 (mA a)) (F0 m 101 ls []) := by
                            intro n_101
                            induction n_101 with
                            | zero =>
                              intro j hrel_101 H locs ls hP hS hl
                              have hD : va_D (mA a) (mw cI cZ a w h (fun p => rt_b (decide (Q p ≠ 0))) (fun p => nI (rt_g Q p)) (fun p => nI (rt_s Q p)) (fun i => nI (L i)) cn (nI (0)) (fun q => nI (K q)) (fun p => rt_b (Z p)) pf) := m_D ha _ rfl
                              refine lv_iload hx hb d_M_route_101 (lv_at hl 7 rfl) ?_
                              refine lv_bipush (v := (nI (6))) hx hb d_M_route_103 (by decide) ?_
                              refine rw_cge (tgt := 181) hx hb d_M_route_105 (by decide) (by omega) (by omega) (fun c_105 => ?_) (fun c_105 => ?_)
                              · rw [show j = 6 by omega, rt_py_6, hbe] at hl
                                have hl : lv_has ls 9 [(0, .ref (a 0)), (1, .int (nI (rr))), (2, .int (nI (z))), (3, .int (nI (m9))), (4, .int (nI (v))), (5, .int (nI (i))), (6, .int (nI (b))), (7, .int (nI (6)))] := hl
                                refine lv_iload hx hb d_M_route_181 (lv_at hl 6 rfl) ?_
                                refine lv_istore (lv' := [(4, .int (nI (b))), (0, .ref (a 0)), (1, .int (nI (rr))), (2, .int (nI (z))), (3, .int (nI (m9))), (5, .int (nI (i))), (6, .int (nI (b))), (7, .int (nI (6)))]) hx hb d_M_route_183 hl (by decide) rfl (fun ls hl => ?_)
                                refine lv_iinc (v := (nI (i + 1))) (lv' := [(5, .int (nI (i + 1))), (4, .int (nI (b))), (0, .ref (a 0)), (1, .int (nI (rr))), (2, .int (nI (z))), (3, .int (nI (m9))), (6, .int (nI (b))), (7, .int (nI (6)))]) hx hb d_M_route_185 hl (k := 5) rfl (nI_add _ _) (by decide) rfl (fun ls hl => ?_)
                                refine lv_goto (tgt := 59) hx hb d_M_route_188 (by decide) ?_
                                exact ih_59 (i + 1) b c9 (by omega) hG1 (by omega) _ _ _ hP hS (lv_sub hl [2, 3, 4, 5, 1, 0] rfl)
                              · omega
                            | succ n_101 ih_101 =>
                              intro j hrel_101 H locs ls hP hS hl
                              have hD : va_D (mA a) (mw cI cZ a w h (fun p => rt_b (decide (Q p ≠ 0))) (fun p => nI (rt_g Q p)) (fun p => nI (rt_s Q p)) (fun i => nI (L i)) cn (nI (0)) (fun q => nI (K q)) (fun p => rt_b (Z p)) pf) := m_D ha _ rfl
                              refine lv_iload hx hb d_M_route_101 (lv_at hl 7 rfl) ?_
                              refine lv_bipush (v := (nI (6))) hx hb d_M_route_103 (by decide) ?_
                              refine rw_cge (tgt := 181) hx hb d_M_route_105 (by decide) (by omega) (by omega) (fun c_105 => ?_) (fun c_105 => ?_)
                              · omega
                              · refine lv_aload_n hx hb d_M_route_108 rfl (lv_at hl 0 rfl) ?_
                                refine lv_iload hx hb d_M_route_109 (lv_at hl 4 rfl) ?_
                                refine lv_iload hx hb d_M_route_111 (lv_at hl 7 rfl) ?_
                                refine w_ci (As := [.int (nI (v)), .int (nI (j))]) (rest := []) ⟨hx, hb, hml, hown, hts⟩ (c_M_follower l D cI cZ g a ha w h Q L cn (nI (0)) (fun q => nI (K q)) Z pf v j hG hv9 (by omega)) (cwV 2 hts (t_gV k_methodLink_rn_M_78_y_M_follower k_instanceMethod_y_M_follower k_selects_rn_M_y_M_follower_y_M_follower k_initialized_rn_M k_code_y_M_follower_prog_6_method_18_code_6_some_int) rfl rfl rfl (by decide +kernel) ⟨Nat.le_of_ble_eq_true rfl, Nat.le_of_ble_eq_true rfl⟩) (va_recv hK hP (ci := 4) (q0 := 0) rfl rfl) hP hK hZ hS rfl hl.1 rfl (Nat.le_of_ble_eq_true rfl) d_M_route_113 ⟨Nat.zero_le _, Nat.zero_le _⟩ (fun r_113 u_113 H locs hw hP hS => ?_)
                                subst hw
                                have hP : va_P D vwCl (mw cI cZ a w h (fun p => rt_b (decide (Q p ≠ 0))) (fun p => nI (rt_g Q p)) (fun p => nI (rt_s Q p)) (fun i => nI (L i)) cn (nI (0)) (fun q => nI (K q)) (fun p => rt_b (Z p)) pf) H := hP
                                cases ho_116 : rt_fo Q w h v j with
                                | none =>
                                  refine lv_istore (lv' := [(8, .int (-1)), (0, .ref (a 0)), (1, .int (nI (rr))), (2, .int (nI (z))), (3, .int (nI (m9))), (4, .int (nI (v))), (5, .int (nI (i))), (6, .int (rt_o (rt_best C (rt_py Q w h v j)))), (7, .int (nI (j)))]) hx hb d_M_route_116 hl (by decide) rfl (fun ls hl => ?_)
                                  refine lv_iload hx hb d_M_route_118 (lv_at hl 0 rfl) ?_
                                  refine lv_iconst (v := (-1)) hx hb d_M_route_120 (by decide) ?_
                                  refine lv_icmp_eq (tgt := 175) hx hb d_M_route_121 (by decide) (fun c_121 => ?_) (fun c_121 => ?_)
                                  · refine lv_iinc (v := (nI (j + 1))) (lv' := [(7, .int (nI (j + 1))), (8, .int (-1)), (0, .ref (a 0)), (1, .int (nI (rr))), (2, .int (nI (z))), (3, .int (nI (m9))), (4, .int (nI (v))), (5, .int (nI (i))), (6, .int (rt_o (rt_best C (rt_py Q w h v j))))]) hx hb d_M_route_175 hl (k := 8) rfl (nI_add _ _) (by decide) rfl (fun ls hl => ?_)
                                    refine lv_goto (tgt := 101) hx hb d_M_route_178 (by decide) ?_
                                    have hl : lv_has ls 9 [(7, .int (nI (j + 1))), (8, .int (-1)), (0, .ref (a 0)), (1, .int (nI (rr))), (2, .int (nI (z))), (3, .int (nI (m9))), (4, .int (nI (v))), (5, .int (nI (i))), (6, .int (rt_o (rt_best C (rt_py Q w h v (j + 1)))))] := by rw [rt_py_n ho_116]; exact hl
                                    exact ih_101 (j + 1) (by omega) _ _ _ hP hS (lv_sub hl [2, 3, 4, 5, 6, 7, 8, 0] rfl)
                                  · exact absurd rfl c_121
                                | some f =>
                                  have hf9 := rt_fo_lt (show j < 6 by omega) ho_116
                                  have hof := (rt_fo_k (show j < 6 by omega) ho_116).2.2
                                  have hfl := rt_cE_le hsm f
                                  unfold rt_E at hfl
                                  have hln := rt_ln_in f
                                  refine lv_istore (lv' := [(8, .int (nI (f))), (0, .ref (a 0)), (1, .int (nI (rr))), (2, .int (nI (z))), (3, .int (nI (m9))), (4, .int (nI (v))), (5, .int (nI (i))), (6, .int (rt_o (rt_best C (rt_py Q w h v j)))), (7, .int (nI (j)))]) hx hb d_M_route_116 hl (by decide) rfl (fun ls hl => ?_)
                                  refine lv_iload hx hb d_M_route_118 (lv_at hl 0 rfl) ?_
                                  refine lv_iconst (v := (-1)) hx hb d_M_route_120 (by decide) ?_
                                  refine lv_icmp_eq (tgt := 175) hx hb d_M_route_121 (by decide) (fun c_121 => ?_) (fun c_121 => ?_)
                                  · exact absurd c_121 (rt_o_ne _ (by omega))
                                  · refine lv_aload_n hx hb d_M_route_124 rfl (lv_at hl 1 rfl) ?_
                                    refine va_get (D := D) (ci := 4) (v := .ref (a 6)) (C := rn_M) (T := tf_M) (N := 12) hx hb hts in_M hown hK hP 0 rfl rfl 9 (by decide) (hts _ k_fieldLink_rn_M_26_rn_M_cost_I) (fun _ h9 => h9) rfl d_M_route_125 ?_
                                    refine lv_iload hx hb d_M_route_128 (lv_at hl 0 rfl) ?_
                                    refine rw_iald (v := (nI (rt_cE (C f)))) hx hb hK hP 6 0 rfl rfl (by omega) (by omega) (congrArg nI (hKa f hof)) d_M_route_130 ?_
                                    refine lv_ldc (v := nI 1000000000) hx hb hown (hts _ k_constant_rn_M_106_1000000000) d_M_route_131 ?_
                                    refine rw_cge (tgt := 175) hx hb d_M_route_133 (by decide) (by omega) (by omega) (fun c_133 => ?_) (fun c_133 => ?_)
                                    · have hfn : C f = none := by cases h9 : C f with | none => rfl | some c8 => (rw [h9] at c_133; have := hsm f c8 h9; simp only [rt_cE] at c_133; omega)
                                      refine lv_iinc (v := (nI (j + 1))) (lv' := [(7, .int (nI (j + 1))), (8, .int (nI (f))), (0, .ref (a 0)), (1, .int (nI (rr))), (2, .int (nI (z))), (3, .int (nI (m9))), (4, .int (nI (v))), (5, .int (nI (i))), (6, .int (rt_o (rt_best C (rt_py Q w h v j))))]) hx hb d_M_route_175 hl (k := 8) rfl (nI_add _ _) (by decide) rfl (fun ls hl => ?_)
                                      refine lv_goto (tgt := 101) hx hb d_M_route_178 (by decide) ?_
                                      have hl : lv_has ls 9 [(7, .int (nI (j + 1))), (8, .int (nI (f))), (0, .ref (a 0)), (1, .int (nI (rr))), (2, .int (nI (z))), (3, .int (nI (m9))), (4, .int (nI (v))), (5, .int (nI (i))), (6, .int (rt_o (rt_best C (rt_py Q w h v (j + 1)))))] := by rw [rt_py_s ho_116, rt_best_app, rt_bs_n hfn]; exact hl
                                      exact ih_101 (j + 1) (by omega) _ _ _ hP hS (lv_sub hl [2, 3, 4, 5, 6, 7, 8, 0] rfl)
                                    · obtain ⟨fc, hfc⟩ : ∃ fc, C f = some fc := (rt_cE_lt hsm).mp (by unfold rt_E; omega)
                                      have hfs := hsm f fc hfc
                                      have hfe : rt_cE (C f) = fc := by rw [hfc]; rfl
                                      cases ho_136 : rt_best C (rt_py Q w h v j) with
                                      | none =>
                                        rw [ho_136] at hl
                                        have hl : lv_has ls 9 [(8, .int (nI (f))), (0, .ref (a 0)), (1, .int (nI (rr))), (2, .int (nI (z))), (3, .int (nI (m9))), (4, .int (nI (v))), (5, .int (nI (i))), (6, .int (-1)), (7, .int (nI (j)))] := hl
                                        refine lv_iload hx hb d_M_route_136 (lv_at hl 7 rfl) ?_
                                        refine lv_iconst (v := (-1)) hx hb d_M_route_138 (by decide) ?_
                                        refine lv_icmp_eq (tgt := 171) hx hb d_M_route_139 (by decide) (fun c_139 => ?_) (fun c_139 => ?_)
                                        · refine lv_iload hx hb d_M_route_171 (lv_at hl 0 rfl) ?_
                                          refine lv_istore (lv' := [(6, .int (nI (f))), (8, .int (nI (f))), (0, .ref (a 0)), (1, .int (nI (rr))), (2, .int (nI (z))), (3, .int (nI (m9))), (4, .int (nI (v))), (5, .int (nI (i))), (7, .int (nI (j)))]) hx hb d_M_route_173 hl (by decide) rfl (fun ls hl => ?_)
                                          refine lv_iinc (v := (nI (j + 1))) (lv' := [(7, .int (nI (j + 1))), (6, .int (nI (f))), (8, .int (nI (f))), (0, .ref (a 0)), (1, .int (nI (rr))), (2, .int (nI (z))), (3, .int (nI (m9))), (4, .int (nI (v))), (5, .int (nI (i)))]) hx hb d_M_route_175 hl (k := 8) rfl (nI_add _ _) (by decide) rfl (fun ls hl => ?_)
                                          refine lv_goto (tgt := 101) hx hb d_M_route_178 (by decide) ?_
                                          have hl : lv_has ls 9 [(7, .int (nI (j + 1))), (6, .int (rt_o (rt_best C (rt_py Q w h v (j + 1))))), (8, .int (nI (f))), (0, .ref (a 0)), (1, .int (nI (rr))), (2, .int (nI (z))), (3, .int (nI (m9))), (4, .int (nI (v))), (5, .int (nI (i)))] := by rw [rt_py_s ho_116, rt_best_app, ho_136, rt_bs_0 hfc]; exact hl
                                          exact ih_101 (j + 1) (by omega) _ _ _ hP hS (lv_sub hl [3, 4, 5, 6, 7, 8, 1, 0] rfl)
                                        · exact absurd rfl c_139
                                      | some g9 =>
                                        rw [ho_136] at hl
                                        have hl : lv_has ls 9 [(8, .int (nI (f))), (0, .ref (a 0)), (1, .int (nI (rr))), (2, .int (nI (z))), (3, .int (nI (m9))), (4, .int (nI (v))), (5, .int (nI (i))), (6, .int (nI (g9))), (7, .int (nI (j)))] := hl
                                        have hb8 := rt_best_in C (rt_py Q w h v j)
                                        rw [ho_136] at hb8
                                        obtain ⟨hgm, gc, hgc, -⟩ := hb8
                                        have hog : rt_op Q (w * h) g9 = true := hC9.1 g9 gc hgc
                                        have hg12 := rt_op_lt hog
                                        have hgs := hsm g9 gc hgc
                                        have hlg := rt_ln_in g9
                                        have hlw : rt_lw C (some g9) = rt_ln g9 + gc := by show rt_ln g9 + (C g9).getD 0 = _; rw [hgc]; rfl
                                        refine lv_iload hx hb d_M_route_136 (lv_at hl 7 rfl) ?_
                                        refine lv_iconst (v := (-1)) hx hb d_M_route_138 (by decide) ?_
                                        refine lv_icmp_eq (tgt := 171) hx hb d_M_route_139 (by decide) (fun c_139 => ?_) (fun c_139 => ?_)
                                        · exact absurd c_139 (rt_o_ne _ (by omega))
                                        · refine lv_iload hx hb d_M_route_142 (lv_at hl 0 rfl) ?_
                                          refine w_si (As := [.int (nI (f))]) (rest := []) ⟨hx, hb, hml, hown, hts⟩ (c_M_length l D cI cZ g a ha w h Q L cn (nI (0)) (fun q => nI (K q)) Z pf f hG hf9) (va_cwS 1 hts (t_gS k_methodLink_rn_M_107_y_M_length k_static_y_M_length k_initialized_rn_M k_code_y_M_length_prog_6_method_31_code_1_some_int) rfl rfl rfl (by decide +kernel) ⟨Nat.le_of_ble_eq_true rfl, Nat.le_of_ble_eq_true rfl⟩) hP hK hZ hS rfl hl.1 rfl (Nat.le_of_ble_eq_true rfl) d_M_route_144 ⟨Nat.zero_le _, Nat.zero_le _⟩ (fun r_144 u_144 H locs hw hP hS => ?_)
                                          subst hw
                                          have hP : va_P D vwCl (mw cI cZ a w h (fun p => rt_b (decide (Q p ≠ 0))) (fun p => nI (rt_g Q p)) (fun p => nI (rt_s Q p)) (fun i => nI (L i)) cn (nI (0)) (fun q => nI (K q)) (fun p => rt_b (Z p)) pf) H := hP
                                          refine lv_aload_n hx hb d_M_route_147 rfl (lv_at hl 1 rfl) ?_
                                          refine va_get (D := D) (ci := 4) (v := .ref (a 6)) (C := rn_M) (T := tf_M) (N := 12) hx hb hts in_M hown hK hP 0 rfl rfl 9 (by decide) (hts _ k_fieldLink_rn_M_26_rn_M_cost_I) (fun _ h9 => h9) rfl d_M_route_148 ?_
                                          refine lv_iload hx hb d_M_route_151 (lv_at hl 0 rfl) ?_
                                          refine rw_iald (v := (nI (fc))) hx hb hK hP 6 0 rfl rfl (by omega) (by omega) (congrArg nI ((hKa f hof).trans hfe)) d_M_route_153 ?_
                                          refine rw_add hx hb d_M_route_154 ?_
                                          refine lv_iload hx hb d_M_route_155 (lv_at hl 7 rfl) ?_
                                          refine w_si (As := [.int (nI (g9))]) (rest := [.int (nI ((rt_ln f) + fc))]) ⟨hx, hb, hml, hown, hts⟩ (c_M_length l D cI cZ g a ha w h Q L cn (nI (0)) (fun q => nI (K q)) Z pf g9 hG hg12) (va_cwS 1 hts (t_gS k_methodLink_rn_M_107_y_M_length k_static_y_M_length k_initialized_rn_M k_code_y_M_length_prog_6_method_31_code_1_some_int) rfl rfl rfl (by decide +kernel) ⟨Nat.le_of_ble_eq_true rfl, Nat.le_of_ble_eq_true rfl⟩) hP hK hZ hS rfl hl.1 rfl (Nat.le_of_ble_eq_true rfl) d_M_route_157 ⟨Nat.zero_le _, Nat.zero_le _⟩ (fun r_157 u_157 H locs hw hP hS => ?_)
                                          subst hw
                                          have hP : va_P D vwCl (mw cI cZ a w h (fun p => rt_b (decide (Q p ≠ 0))) (fun p => nI (rt_g Q p)) (fun p => nI (rt_s Q p)) (fun i => nI (L i)) cn (nI (0)) (fun q => nI (K q)) (fun p => rt_b (Z p)) pf) H := hP
                                          refine lv_aload_n hx hb d_M_route_160 rfl (lv_at hl 1 rfl) ?_
                                          refine va_get (D := D) (ci := 4) (v := .ref (a 6)) (C := rn_M) (T := tf_M) (N := 12) hx hb hts in_M hown hK hP 0 rfl rfl 9 (by decide) (hts _ k_fieldLink_rn_M_26_rn_M_cost_I) (fun _ h9 => h9) rfl d_M_route_161 ?_
                                          refine lv_iload hx hb d_M_route_164 (lv_at hl 7 rfl) ?_
                                          refine rw_iald (v := (nI (gc))) hx hb hK hP 6 0 rfl rfl (by omega) (by omega) (congrArg nI ((hKa g9 hog).trans (by rw [hgc]; rfl))) d_M_route_166 ?_
                                          refine rw_add hx hb d_M_route_167 ?_
                                          refine rw_cge (tgt := 175) hx hb d_M_route_168 (by decide) (by omega) (by omega) (fun c_168 => ?_) (fun c_168 => ?_)
                                          · refine lv_iinc (v := (nI (j + 1))) (lv' := [(7, .int (nI (j + 1))), (8, .int (nI (f))), (0, .ref (a 0)), (1, .int (nI (rr))), (2, .int (nI (z))), (3, .int (nI (m9))), (4, .int (nI (v))), (5, .int (nI (i))), (6, .int (nI (g9)))]) hx hb d_M_route_175 hl (k := 8) rfl (nI_add _ _) (by decide) rfl (fun ls hl => ?_)
                                            refine lv_goto (tgt := 101) hx hb d_M_route_178 (by decide) ?_
                                            have hl : lv_has ls 9 [(7, .int (nI (j + 1))), (8, .int (nI (f))), (0, .ref (a 0)), (1, .int (nI (rr))), (2, .int (nI (z))), (3, .int (nI (m9))), (4, .int (nI (v))), (5, .int (nI (i))), (6, .int (rt_o (rt_best C (rt_py Q w h v (j + 1)))))] := by rw [rt_py_s ho_116, rt_best_app, ho_136, rt_bs_f hfc (by rw [hlw]; omega)]; exact hl
                                            exact ih_101 (j + 1) (by omega) _ _ _ hP hS (lv_sub hl [2, 3, 4, 5, 6, 7, 8, 0] rfl)
                                          · refine lv_iload hx hb d_M_route_171 (lv_at hl 0 rfl) ?_
                                            refine lv_istore (lv' := [(6, .int (nI (f))), (8, .int (nI (f))), (0, .ref (a 0)), (1, .int (nI (rr))), (2, .int (nI (z))), (3, .int (nI (m9))), (4, .int (nI (v))), (5, .int (nI (i))), (7, .int (nI (j)))]) hx hb d_M_route_173 hl (by decide) rfl (fun ls hl => ?_)
                                            refine lv_iinc (v := (nI (j + 1))) (lv' := [(7, .int (nI (j + 1))), (6, .int (nI (f))), (8, .int (nI (f))), (0, .ref (a 0)), (1, .int (nI (rr))), (2, .int (nI (z))), (3, .int (nI (m9))), (4, .int (nI (v))), (5, .int (nI (i)))]) hx hb d_M_route_175 hl (k := 8) rfl (nI_add _ _) (by decide) rfl (fun ls hl => ?_)
                                            refine lv_goto (tgt := 101) hx hb d_M_route_178 (by decide) ?_
                                            have hl : lv_has ls 9 [(7, .int (nI (j + 1))), (6, .int (rt_o (rt_best C (rt_py Q w h v (j + 1))))), (8, .int (nI (f))), (0, .ref (a 0)), (1, .int (nI (rr))), (2, .int (nI (z))), (3, .int (nI (m9))), (4, .int (nI (v))), (5, .int (nI (i)))] := by rw [rt_py_s ho_116, rt_best_app, ho_136, rt_bs_t hfc (by rw [hlw]; omega)]; exact hl
                                            exact ih_101 (j + 1) (by omega) _ _ _ hP hS (lv_sub hl [3, 4, 5, 6, 7, 8, 1, 0] rfl)
                          exact LP_101 6 0 (by omega) _ _ _ hP hS (lv_sub hl [2, 3, 4, 5, 6, 7, 1, 0] rfl)
                        · refine lv_iconst (v := (-1)) hx hb d_M_route_93 (by decide) ?_
                          exact w_iret _ hx hb hr hlocks hS hP (⟨fun _ _ => by rw [rt_route_hit (by omega) hc1 hc10 hm9]; obtain ⟨m8, rfl⟩ : ∃ m8, m9 = i + m8 := ⟨m9 - i, by omega⟩; rw [hI.2.2.2.2 ⟨by omega, Or.inr (by rw [hI.1]; rw [c_90])⟩]; rfl, fun q => q.elim (fun q => absurd q (by rw [rt_opx_s (by omega) hrr, horr]; simp)) (fun q => absurd q (by rw [rt_ix_some (by decide) hz]; simp))⟩) d_M_route_94
            exact LP_59 (12 * (w * h) + 1) 0 rr c1 (by omega) (rt_mr_0 hc1 hc10) (by omega) _ _ _ hP hS (lv_sub hl [2, 3, 4, 5, 1, 0] rfl)
          · refine lv_iconst (v := (-1)) hx hb d_M_route_51 (by decide) ?_
            exact w_iret _ hx hb hr hlocks hS hP (⟨fun _ _ => (rt_route_n (by omega) (Or.inr (by cases h9 : C rr with | none => (rw [h9] at c_48; simp only [rt_cE, rt_E] at c_48; omega) | some c8 => (rw [h9] at c_48; simp only [rt_cE] at c_48; rw [c_48])))).symm, fun q => q.elim (fun q => absurd q (by rw [rt_opx_s (by omega) hrr, horr]; simp)) (fun q => absurd q (by rw [rt_ix_some (by decide) hz]; simp))⟩) d_M_route_52
      · refine lv_iconst (v := (-1)) hx hb d_M_route_24 (by decide) ?_
        exact w_iret kf hx hb hr hlocks hS hP (⟨fun q1 q2 => by first | (rw [c_10] at q1; cases q1; done) | (rw [c_17] at q2; cases q2; done) | (unfold rt_route; rw [if_pos (Or.inr (Or.inr (Int32.not_le.mp c_21)))]; done), fun _ => rfl⟩) d_M_route_25
