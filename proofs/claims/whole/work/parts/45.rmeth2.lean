/-! RouteTracks: route and count, by program (wip/whole/gen/rmeth2.py) -/
set_option maxHeartbeats 4000000 in
set_option maxRecDepth 100000 in
theorem c_R_route (l : Launch) (D : va_G) (cI cZ : ClassId) (g a : Nat → Nat) (ha : xI a) (w h : Nat) (Q : Nat → Nat) (ff : Nat → Int32) (hd bl : Int32) (rs : Nat → Int32) (hs ts : Int32) (rc : Nat → Int32) (hc tc : Int32) (x y kk : Int32) (hG : rt_G w h Q) (hk0 : rt_hk Q w h hd ff bl) : Met l y_R_route (.code y_R_route b_R_route 6 (some .int) :: tG) ({ frames := 6, cells := 0, slots := 0, locals := 136 }) (va_Pc [.ref (a 0), .int (x), .int (y), .int (kk)] (wU D cI cZ g (xA a) (xw cI a w h Q ff hd bl rs hs ts rc hc tc))) (va_Qi (S := ((Nat → Int32) × Int32 × Int32 × (Nat → Int32) × Int32 × Int32 × (Nat → Int32) × Int32 × Int32)) (fun r u => ((r = -1 ∧ (rt_ix y 8 = none ∨ rt_opx Q (w * h) x = false)) ∨ ∃ z0 K, z0 < 8 ∧ y = nI z0 ∧ rt_opx Q (w * h) x = true ∧ rt_isC Q w h z0 K ∧ rt_small K ∧ r = rt_route Q w h K x kk) ∧ rt_hk Q w h u.2.1 u.1 u.2.2.1) (wB D (fun (u : ((Nat → Int32) × Int32 × Int32 × (Nat → Int32) × Int32 × Int32 × (Nat → Int32) × Int32 × Int32)) => (xw cI a w h Q u.1 u.2.1 u.2.2.1 u.2.2.2.1 u.2.2.2.2.1 u.2.2.2.2.2.1 u.2.2.2.2.2.2.1 u.2.2.2.2.2.2.2.1 u.2.2.2.2.2.2.2.2))) (xA a)) 0 0 (xA a) := by
  refine Met.ofW (cc := b_R_route) (maxL := 6) (ret := (some .int)) (by decide) rfl ?_
  intro p e s m args below meth c s₁ BD9 hml hv
  obtain ⟨rfl, hP, hK, hZ⟩ := hv
  have hx := BD9.exec
  have hb := BD9.bytes
  have hr := BD9.returns
  have hts : ∀ w ∈ tG, w.before _ s = true := fun w hw => atoms_spec (ws := .code y_R_route b_R_route 6 (some .int) :: tG) BD9.pre w (List.mem_cons_of_mem _ hw)
  have hown : s.vm.findClass rn_R = some m.cls := findClass_of_methodNamed BD9.named
  have hlocks := BD9.notSynchronized
  have hS : va_S (xA a) s.heap s.heap [] := va_S.rf
  have hD : va_D (xA a) (xw cI a w h Q ff hd bl rs hs ts rc hc tc) := x_D ha _ rfl
  have hP : va_P D vwCl (xw cI a w h Q ff hd bl rs hs ts rc hc tc) s.heap := hP
  have hl := lv_entry ([.ref (a 0), .int (x), .int (y), .int (kk)]) (n := 6) (Nat.le_of_ble_eq_true rfl)
  rw [lg_entry_eq]
  generalize (lg_sl ([.ref (a 0), .int (x), .int (y), .int (kk)]) ++ List.replicate (6 - (lg_sl ([.ref (a 0), .int (x), .int (y), .int (kk)])).length) Slot.unset).toArray = ls at hl ⊢
  have hl : lv_has ls 6 [(0, .ref (a 0)), (1, .int (x)), (2, .int (y)), (3, .int (kk))] := hl
  obtain ⟨hn1, hn⟩ := hG.n
  have hw0 : 0 < w := by have := hG.1.1; omega
  have hQ := hG.2.2
  refine lv_iload_n hx hb d_R_route_0 rfl (lv_at hl 2 rfl) ?_
  refine w_si (As := [.int (y)]) (rest := []) ⟨hx, hb, hml, hown, hts⟩ (c_R_isStation l D cI cZ g a ha w h Q ff hd bl rs hs ts rc hc tc y hG) (va_cwS 1 hts (t_gS k_methodLink_rn_R_65_y_R_isStation k_static_y_R_isStation k_initialized_rn_R k_code_y_R_isStation_prog_1_method_17_code_1_some_boolean) rfl rfl rfl (by decide +kernel) ⟨Nat.le_of_ble_eq_true rfl, Nat.le_of_ble_eq_true rfl⟩) hP hK hZ hS rfl hl.1 rfl (Nat.le_of_ble_eq_true rfl) d_R_route_1 ⟨Nat.zero_le _, Nat.zero_le _⟩ (fun r_1 u_1 H locs hw hP hS => ?_)
  subst hw
  have hP : va_P D vwCl (xw cI a w h Q ff hd bl rs hs ts rc hc tc) H := hP
  refine rw_beq (tgt := 18) hx hb d_R_route_4 (by decide) (fun c_4 => ?_) (fun c_4 => ?_)
  · refine lv_iconst (v := (-1)) hx hb d_R_route_18 (by decide) ?_
    exact w_iret (ff, hd, bl, rs, hs, ts, rc, hc, tc) hx hb hr hlocks hS hP (⟨Or.inl ⟨rfl, by first | exact Or.inl (rt_ix_no c_4) | exact Or.inr c_15⟩, hk0⟩) d_R_route_19
  · obtain ⟨z, hz, rfl⟩ := rt_ix_is (by omega) c_4
    refine lv_aload_n hx hb d_R_route_7 rfl (lv_at hl 0 rfl) ?_
    refine va_get (D := D) (ci := 3) (v := .ref (a 1)) (C := rn_R) (T := tf_R) (N := 2) hx hb hts in_R hown hK hP 0 rfl rfl 0 (by decide) (hts _ k_fieldLink_rn_R_18_rn_R_rails_LRouteTracks_Rails) (fun _ h9 => h9) rfl d_R_route_8 ?_
    refine lv_iload_n hx hb d_R_route_11 rfl (lv_at hl 1 rfl) ?_
    refine w_ci (As := [.int (x)]) (rest := []) ⟨hx, hb, hml, hown, hts⟩ (c_A_isOpen l D cI cZ g a ha w h Q ff hd bl rs hs ts rc hc tc x hG) (cwV 1 hts (t_gV k_methodLink_rn_R_88_y_A_isOpen k_instanceMethod_y_A_isOpen k_selects_rn_A_y_A_isOpen_y_A_isOpen k_initialized_rn_A k_code_y_A_isOpen_prog_3_method_11_code_2_some_boolean) rfl rfl rfl (by decide +kernel) ⟨Nat.le_of_ble_eq_true rfl, Nat.le_of_ble_eq_true rfl⟩) (va_recv hK hP (ci := 1) (q0 := 1) rfl rfl) hP hK hZ hS rfl hl.1 rfl (Nat.le_of_ble_eq_true rfl) d_R_route_12 ⟨Nat.zero_le _, Nat.zero_le _⟩ (fun r_12 u_12 H locs hw hP hS => ?_)
    subst hw
    have hP : va_P D vwCl (xw cI a w h Q ff hd bl rs hs ts rc hc tc) H := hP
    refine rw_bne (tgt := 20) hx hb d_R_route_15 (by decide) (fun c_15 => ?_) (fun c_15 => ?_)
    · obtain ⟨rr, hrr, rfl, horr⟩ := rt_opx_is (by omega) c_15
      refine lv_aload_n hx hb d_R_route_20 rfl (lv_at hl 0 rfl) ?_
      refine va_get (D := D) (ci := 3) (v := .ref (a 4)) (C := rn_R) (T := tf_R) (N := 2) hx hb hts in_R hown hK hP 0 rfl rfl 1 (by decide) (hts _ k_fieldLink_rn_R_27_rn_R_search_LRouteTracks_Search) (fun _ h9 => h9) rfl d_R_route_21 ?_
      refine lv_aload_n hx hb d_R_route_24 rfl (lv_at hl 0 rfl) ?_
      refine va_get (D := D) (ci := 3) (v := .ref (a 1)) (C := rn_R) (T := tf_R) (N := 2) hx hb hts in_R hown hK hP 0 rfl rfl 0 (by decide) (hts _ k_fieldLink_rn_R_18_rn_R_rails_LRouteTracks_Rails) (fun _ h9 => h9) rfl d_R_route_25 ?_
      refine lv_iload_n hx hb d_R_route_28 rfl (lv_at hl 2 rfl) ?_
      refine w_cv (As := [.ref (a 1), .int (nI (z))]) (rest := []) ⟨hx, hb, hml, hown, hts⟩ (c_S_findCosts l D cI cZ g a ha w h Q ff hd bl rs hs ts rc hc tc z hG hz hk0) (cwV 2 hts (t_gV k_methodLink_rn_R_112_y_S_findCosts k_instanceMethod_y_S_findCosts k_selects_rn_S_y_S_findCosts_y_S_findCosts k_initialized_rn_S k_code_y_S_findCosts_prog_4_method_8_code_5_none) rfl rfl rfl (by decide +kernel) ⟨Nat.le_of_ble_eq_true rfl, Nat.le_of_ble_eq_true rfl⟩) (va_recv hK hP (ci := 2) (q0 := 4) rfl rfl) hP hK hZ hS rfl hl.1 rfl (Nat.le_of_ble_eq_true rfl) d_R_route_29 ⟨Nat.zero_le _, Nat.zero_le _⟩ (fun u_29 H locs hw hP hS => ?_)
      obtain ⟨ff1, rs1, hs1, ts1, rc1, hc1, tc1⟩ := u_29
      have hP : va_P D vwCl (xw cI a w h Q ff1 (nI (z)) bl rs1 hs1 ts1 rc1 hc1 tc1) H := hP
      have hD : va_D (xA a) (xw cI a w h Q ff1 (nI (z)) bl rs1 hs1 ts1 rc1 hc1 tc1) := x_D ha _ rfl
      obtain ⟨K, hK1, hK2, hK3⟩ := id hw
      dsimp only at hK3
      refine lv_aload_n hx hb d_R_route_32 rfl (lv_at hl 0 rfl) ?_
      refine va_get (D := D) (ci := 3) (v := .ref (a 4)) (C := rn_R) (T := tf_R) (N := 2) hx hb hts in_R hown hK hP 0 rfl rfl 1 (by decide) (hts _ k_fieldLink_rn_R_27_rn_R_search_LRouteTracks_Search) (fun _ h9 => h9) rfl d_R_route_33 ?_
      refine va_get (D := D) (ci := 2) (v := .ref (a 5)) (C := rn_S) (T := tf_S) (N := 5) hx hb hts in_S hown hK hP 4 rfl rfl 0 (by decide) (hts _ k_fieldLink_rn_R_105_rn_S_found_I) (fun _ h9 => h9) rfl d_R_route_36 ?_
      refine lv_iload_n hx hb d_R_route_39 rfl (lv_at hl 1 rfl) ?_
      refine rw_iald (v := (rt_o (K rr))) hx hb hK hP 5 0 rfl rfl (by omega) (by omega) (hK3 rr hrr) d_R_route_40 ?_
      cases ho_41 : K rr with
      | none =>
        refine lv_if_gt (tgt := 46) hx hb d_R_route_41 (by decide) (fun c_41 => ?_) (fun c_41 => ?_)
        · exact absurd c_41 (by decide)
        · refine lv_iconst (v := (-1)) hx hb d_R_route_44 (by decide) ?_
          exact w_iret (ff1, nI z, bl, rs1, hs1, ts1, rc1, hc1, tc1) hx hb hr hlocks hS hP (⟨Or.inr ⟨z, K, hz, rfl, by rw [rt_opx_s (by omega) hrr]; exact horr, hK1, hK2, (rt_route_n (by omega) (by first | exact Or.inl ho_41 | exact Or.inr (by rw [ho_41]; congr 1; omega))).symm⟩, Or.inr (Or.inr ⟨z, hz, rfl, hw⟩)⟩) d_R_route_45
      | some q =>
        have hq9 := hK2 rr q ho_41
        refine rw_zgt (tgt := 46) hx hb d_R_route_41 (by decide) (by omega) (fun c_41 => ?_) (fun c_41 => ?_)
        · have hP := x_ff (ff' := fun r9 => rt_o (K r9)) hK3 hP
          have hP : va_P D vwCl (xw cI a w h Q (fun r9 => rt_o (K r9)) (nI (z)) bl rs1 hs1 ts1 rc1 hc1 tc1) H := hP
          have hD : va_D (xA a) (xw cI a w h Q (fun r9 => rt_o (K r9)) (nI (z)) bl rs1 hs1 ts1 rc1 hc1 tc1) := x_D ha _ rfl
          have hwK : rt_hC Q w h z (fun r9 => rt_o (K r9)) := ⟨K, hK1, hK2, fun _ _ => rfl⟩
          refine lv_iload_n hx hb d_R_route_46 rfl (lv_at hl 1 rfl) ?_
          refine lv_istore (lv' := [(4, .int (nI (rr))), (0, .ref (a 0)), (1, .int (nI (rr))), (2, .int (nI (z))), (3, .int (kk))]) hx hb d_R_route_47 hl (by decide) rfl (fun ls hl => ?_)
          refine lv_iconst (v := (nI (0))) hx hb d_R_route_49 (by decide) ?_
          refine lv_istore (lv' := [(5, .int (nI (0))), (4, .int (nI (rr))), (0, .ref (a 0)), (1, .int (nI (rr))), (2, .int (nI (z))), (3, .int (kk))]) hx hb d_R_route_50 hl (by decide) rfl (fun ls hl => ?_)
          have LP_52 : ∀ (n_52 : Nat) (i : Nat) (v : Nat) (cc : Nat), i + n_52 = 12 * (w * h) → (rt_ro Q w h K rr kk i v cc) → ∀ (H : Heap) (locs : List Loc) (ls : Array Slot), va_P D vwCl (xw cI a w h Q (fun r9 => rt_o (K r9)) (nI (z)) bl rs1 hs1 ts1 rc1 hc1 tc1) H → va_S (xA a) s.heap H locs → lv_has ls 6 [(0, .ref (a 0)), (1, .int (nI (rr))), (2, .int (nI (z))), (3, .int (kk)), (4, .int (nI (v))), (5, .int (nI (i)))] → W p l e (headSpec (.code y_R_route b_R_route 6 (some .int) :: tG) ({ frames := 6, cells := 0, slots := 0, locals := 136 })).room s m ([.ref (a 0), .int ((nI rr)), .int ((nI z)), .int (kk)] : List Value).toArray below meth c H locs 0 0 (MQ below (va_Qi (S := ((Nat → Int32) × Int32 × Int32 × (Nat → Int32) × Int32 × Int32 × (Nat → Int32) × Int32 × Int32)) (fun r u => ((r = -1 ∧ (rt_ix (nI z) 8 = none ∨ rt_opx Q (w * h) (nI rr) = false)) ∨ ∃ z0 K, z0 < 8 ∧ (nI z) = nI z0 ∧ rt_opx Q (w * h) (nI rr) = true ∧ rt_isC Q w h z0 K ∧ rt_small K ∧ r = rt_route Q w h K (nI rr) kk) ∧ rt_hk Q w h u.2.1 u.1 u.2.2.1) (wB D (fun (u : ((Nat → Int32) × Int32 × Int32 × (Nat → Int32) × Int32 × Int32 × (Nat → Int32) × Int32 × Int32)) => (xw cI a w h Q u.1 u.2.1 u.2.2.1 u.2.2.2.1 u.2.2.2.2.1 u.2.2.2.2.2.1 u.2.2.2.2.2.2.1 u.2.2.2.2.2.2.2.1 u.2.2.2.2.2.2.2.2))) (xA a)) ([.ref (a 0), .int ((nI rr)), .int ((nI z)), .int (kk)] : List Value).toArray s 0 0 (xA a)) (F0 m 52 ls []) := by
            intro n_52
            induction n_52 with
            | zero =>
              intro i v cc hrel_52 hI H locs ls hP hS hl
              have hD : va_D (xA a) (xw cI a w h Q (fun r9 => rt_o (K r9)) (nI (z)) bl rs1 hs1 ts1 rc1 hc1 tc1) := x_D ha _ rfl
              refine lv_iload hx hb d_R_route_52 (lv_at hl 5 rfl) ?_
              refine lv_aload_n hx hb d_R_route_54 rfl (lv_at hl 0 rfl) ?_
              refine va_get (D := D) (ci := 3) (v := .ref (a 4)) (C := rn_R) (T := tf_R) (N := 2) hx hb hts in_R hown hK hP 0 rfl rfl 1 (by decide) (hts _ k_fieldLink_rn_R_27_rn_R_search_LRouteTracks_Search) (fun _ h9 => h9) rfl d_R_route_55 ?_
              refine va_get (D := D) (ci := 2) (v := .ref (a 5)) (C := rn_S) (T := tf_S) (N := 5) hx hb hts in_S hown hK hP 4 rfl rfl 0 (by decide) (hts _ k_fieldLink_rn_R_105_rn_S_found_I) (fun _ h9 => h9) rfl d_R_route_58 ?_
              refine va_alen (v := nI (12 * (w * h))) hx hb hK hP 5 0 rfl rfl rfl d_R_route_61 ?_
              refine rw_cge (tgt := 128) hx hb d_R_route_62 (by decide) (by omega) (by omega) (fun c_62 => ?_) (fun c_62 => ?_)
              · refine lv_iconst (v := (-1)) hx hb d_R_route_128 (by decide) ?_
                exfalso
                obtain ⟨b, c9, hbe, hbm, hbc, hblt⟩ := rt_best_on hK1 hI.1 hI.2.1
                have h1 := rt_rk_lt (rt_op_lt (hK1.1 b c9 hbc)) hbc hblt
                have h2 := hI.2.2.1
                omega
              · omega
            | succ n_52 ih_52 =>
              intro i v cc hrel_52 hI H locs ls hP hS hl
              have hD : va_D (xA a) (xw cI a w h Q (fun r9 => rt_o (K r9)) (nI (z)) bl rs1 hs1 ts1 rc1 hc1 tc1) := x_D ha _ rfl
              refine lv_iload hx hb d_R_route_52 (lv_at hl 5 rfl) ?_
              refine lv_aload_n hx hb d_R_route_54 rfl (lv_at hl 0 rfl) ?_
              refine va_get (D := D) (ci := 3) (v := .ref (a 4)) (C := rn_R) (T := tf_R) (N := 2) hx hb hts in_R hown hK hP 0 rfl rfl 1 (by decide) (hts _ k_fieldLink_rn_R_27_rn_R_search_LRouteTracks_Search) (fun _ h9 => h9) rfl d_R_route_55 ?_
              refine va_get (D := D) (ci := 2) (v := .ref (a 5)) (C := rn_S) (T := tf_S) (N := 5) hx hb hts in_S hown hK hP 4 rfl rfl 0 (by decide) (hts _ k_fieldLink_rn_R_105_rn_S_found_I) (fun _ h9 => h9) rfl d_R_route_58 ?_
              refine va_alen (v := nI (12 * (w * h))) hx hb hK hP 5 0 rfl rfl rfl d_R_route_61 ?_
              refine rw_cge (tgt := 128) hx hb d_R_route_62 (by decide) (by omega) (by omega) (fun c_62 => ?_) (fun c_62 => ?_)
              · omega
              · refine lv_aload_n hx hb d_R_route_65 rfl (lv_at hl 0 rfl) ?_
                refine va_get (D := D) (ci := 3) (v := .ref (a 4)) (C := rn_R) (T := tf_R) (N := 2) hx hb hts in_R hown hK hP 0 rfl rfl 1 (by decide) (hts _ k_fieldLink_rn_R_27_rn_R_search_LRouteTracks_Search) (fun _ h9 => h9) rfl d_R_route_66 ?_
                refine lv_aload_n hx hb d_R_route_69 rfl (lv_at hl 0 rfl) ?_
                refine va_get (D := D) (ci := 3) (v := .ref (a 1)) (C := rn_R) (T := tf_R) (N := 2) hx hb hts in_R hown hK hP 0 rfl rfl 0 (by decide) (hts _ k_fieldLink_rn_R_18_rn_R_rails_LRouteTracks_Rails) (fun _ h9 => h9) rfl d_R_route_70 ?_
                refine lv_iload hx hb d_R_route_73 (lv_at hl 4 rfl) ?_
                refine w_ci (As := [.ref (a 1), .int (nI (v))]) (rest := []) ⟨hx, hb, hml, hown, hts⟩ (c_S_cheapestAhead l D cI cZ g a ha w h Q (fun r9 => rt_o (K r9)) (nI (z)) bl rs1 hs1 ts1 rc1 hc1 tc1 K v hG (rt_op_lt (hK1.1 v cc hI.1)) hK2) (cwV 2 hts (t_gV k_methodLink_rn_R_116_y_S_cheapestAhead k_instanceMethod_y_S_cheapestAhead k_selects_rn_S_y_S_cheapestAhead_y_S_cheapestAhead k_initialized_rn_S k_code_y_S_cheapestAhead_prog_4_method_13_code_8_some_int) rfl rfl rfl (by decide +kernel) ⟨Nat.le_of_ble_eq_true rfl, Nat.le_of_ble_eq_true rfl⟩) (va_recv hK hP (ci := 2) (q0 := 4) rfl rfl) hP hK hZ hS rfl hl.1 rfl (Nat.le_of_ble_eq_true rfl) d_R_route_75 ⟨Nat.zero_le _, Nat.zero_le _⟩ (fun r_75 u_75 H locs hw hP hS => ?_)
                obtain ⟨b, c9, hbe, hbm, hbc, hblt⟩ := rt_best_on hK1 hI.1 hI.2.1
                rw [hbe] at hw
                subst hw
                have hP : va_P D vwCl (xw cI a w h Q (fun r9 => rt_o (K r9)) (nI (z)) bl rs1 hs1 ts1 rc1 hc1 tc1) H := hP
                have hb9 : b < 12 * (w * h) := rt_op_lt (hK1.1 b c9 hbc)
                have hc9 := hK2 b c9 hbc
                refine lv_istore (lv' := [(4, .int (nI (b))), (0, .ref (a 0)), (1, .int (nI (rr))), (2, .int (nI (z))), (3, .int (kk)), (5, .int (nI (i)))]) hx hb d_R_route_78 hl (by decide) rfl (fun ls hl => ?_)
                refine lv_iload hx hb d_R_route_80 (lv_at hl 0 rfl) ?_
                refine lv_iconst (v := (-1)) hx hb d_R_route_82 (by decide) ?_
                refine lv_icmp_eq (tgt := 92) hx hb d_R_route_83 (by decide) (fun c_83 => ?_) (fun c_83 => ?_)
                · exact absurd c_83 (rt_o_ne _ (by omega))
                · refine lv_iload hx hb d_R_route_86 (lv_at hl 5 rfl) ?_
                  refine lv_iload_n hx hb d_R_route_88 rfl (lv_at hl 4 rfl) ?_
                  refine lv_icmp_ne (tgt := 95) hx hb d_R_route_89 (by decide) (fun c_89 => ?_) (fun c_89 => ?_)
                  · refine lv_aload_n hx hb d_R_route_95 rfl (lv_at hl 1 rfl) ?_
                    refine va_get (D := D) (ci := 3) (v := .ref (a 1)) (C := rn_R) (T := tf_R) (N := 2) hx hb hts in_R hown hK hP 0 rfl rfl 0 (by decide) (hts _ k_fieldLink_rn_R_18_rn_R_rails_LRouteTracks_Rails) (fun _ h9 => h9) rfl d_R_route_96 ?_
                    refine lv_iload hx hb d_R_route_99 (lv_at hl 0 rfl) ?_
                    refine w_ci (As := [.int (nI (b))]) (rest := []) ⟨hx, hb, hml, hown, hts⟩ (c_A_hasSignal l D cI cZ g a ha w h Q (fun r9 => rt_o (K r9)) (nI (z)) bl rs1 hs1 ts1 rc1 hc1 tc1 b hG hb9) (cwV 1 hts (t_gV k_methodLink_rn_R_120_y_A_hasSignal k_instanceMethod_y_A_hasSignal k_selects_rn_A_y_A_hasSignal_y_A_hasSignal k_initialized_rn_A k_code_y_A_hasSignal_prog_3_method_10_code_3_some_boolean) rfl rfl rfl (by decide +kernel) ⟨Nat.le_of_ble_eq_true rfl, Nat.le_of_ble_eq_true rfl⟩) (va_recv hK hP (ci := 1) (q0 := 1) rfl rfl) hP hK hZ hS rfl hl.1 rfl (Nat.le_of_ble_eq_true rfl) d_R_route_101 ⟨Nat.zero_le _, Nat.zero_le _⟩ (fun r_101 u_101 H locs hw hP hS => ?_)
                    subst hw
                    have hP : va_P D vwCl (xw cI a w h Q (fun r9 => rt_o (K r9)) (nI (z)) bl rs1 hs1 ts1 rc1 hc1 tc1) H := hP
                    refine rw_bne (tgt := 120) hx hb d_R_route_104 (by decide) (fun c_104 => ?_) (fun c_104 => ?_)
                    · refine lv_iconst (v := (-1)) hx hb d_R_route_120 (by decide) ?_
                      exact w_iret ((fun r9 => rt_o (K r9)), nI z, bl, rs1, hs1, ts1, rc1, hc1, tc1) hx hb hr hlocks hS hP (⟨Or.inr ⟨z, K, hz, rfl, by rw [rt_opx_s (by omega) hrr]; exact horr, hK1, hK2, by first | exact (rt_ro_stop hI (by omega) c_89 hbe (Or.inl c_104)).symm | exact (rt_ro_stop hI (by omega) c_89 hbe (Or.inr (by rw [hbc, c_117]))).symm⟩, Or.inr (Or.inr ⟨z, hz, rfl, hwK⟩)⟩) d_R_route_121
                    · refine lv_aload_n hx hb d_R_route_107 rfl (lv_at hl 1 rfl) ?_
                      refine va_get (D := D) (ci := 3) (v := .ref (a 4)) (C := rn_R) (T := tf_R) (N := 2) hx hb hts in_R hown hK hP 0 rfl rfl 1 (by decide) (hts _ k_fieldLink_rn_R_27_rn_R_search_LRouteTracks_Search) (fun _ h9 => h9) rfl d_R_route_108 ?_
                      refine va_get (D := D) (ci := 2) (v := .ref (a 5)) (C := rn_S) (T := tf_S) (N := 5) hx hb hts in_S hown hK hP 4 rfl rfl 0 (by decide) (hts _ k_fieldLink_rn_R_105_rn_S_found_I) (fun _ h9 => h9) rfl d_R_route_111 ?_
                      refine lv_iload hx hb d_R_route_114 (lv_at hl 0 rfl) ?_
                      refine rw_iald (v := (nI (c9))) hx hb hK hP 5 0 rfl rfl (by omega) (by omega) (by show rt_o (K b) = _; rw [hbc]; rfl) d_R_route_116 ?_
                      refine rw_zne (tgt := 122) hx hb d_R_route_117 (by decide) (by omega) (fun c_117 => ?_) (fun c_117 => ?_)
                      · refine lv_iinc (v := (nI (i + 1))) (lv' := [(5, .int (nI (i + 1))), (4, .int (nI (b))), (0, .ref (a 0)), (1, .int (nI (rr))), (2, .int (nI (z))), (3, .int (kk))]) hx hb d_R_route_122 hl (k := 5) rfl (nI_add _ _) (by decide) rfl (fun ls hl => ?_)
                        refine lv_goto (tgt := 52) hx hb d_R_route_125 (by decide) ?_
                        exact ih_52 (i + 1) b c9 (by omega) (rt_ro_go hI c_89 hbe hb9 hbc hblt c_104 c_117) _ _ _ hP hS (lv_sub hl [2, 3, 4, 5, 1, 0] rfl)
                      · refine lv_iconst (v := (-1)) hx hb d_R_route_120 (by decide) ?_
                        exact w_iret ((fun r9 => rt_o (K r9)), nI z, bl, rs1, hs1, ts1, rc1, hc1, tc1) hx hb hr hlocks hS hP (⟨Or.inr ⟨z, K, hz, rfl, by rw [rt_opx_s (by omega) hrr]; exact horr, hK1, hK2, by first | exact (rt_ro_stop hI (by omega) c_89 hbe (Or.inl c_104)).symm | exact (rt_ro_stop hI (by omega) c_89 hbe (Or.inr (by rw [hbc, c_117]))).symm⟩, Or.inr (Or.inr ⟨z, hz, rfl, hwK⟩)⟩) d_R_route_121
                  · refine lv_iload hx hb d_R_route_92 (lv_at hl 0 rfl) ?_
                    exact w_iret ((fun r9 => rt_o (K r9)), nI z, bl, rs1, hs1, ts1, rc1, hc1, tc1) hx hb hr hlocks hS hP (⟨Or.inr ⟨z, K, hz, rfl, by rw [rt_opx_s (by omega) hrr]; exact horr, hK1, hK2, by rw [← c_89, rt_route_hit (by omega) ho_41 (by omega) (by omega), show i = i + 0 by omega, hI.2.2.2.1]; show _ = rt_o (rt_best _ _); rw [hbe]; rfl⟩, Or.inr (Or.inr ⟨z, hz, rfl, hwK⟩)⟩) d_R_route_94
          exact LP_52 (12 * (w * h)) 0 rr q (by omega) (rt_ro_0 ho_41 (by omega)) _ _ _ hP hS (lv_sub hl [2, 3, 4, 5, 1, 0] rfl)
        · refine lv_iconst (v := (-1)) hx hb d_R_route_44 (by decide) ?_
          exact w_iret (ff1, nI z, bl, rs1, hs1, ts1, rc1, hc1, tc1) hx hb hr hlocks hS hP (⟨Or.inr ⟨z, K, hz, rfl, by rw [rt_opx_s (by omega) hrr]; exact horr, hK1, hK2, (rt_route_n (by omega) (by first | exact Or.inl ho_41 | exact Or.inr (by rw [ho_41]; congr 1; omega))).symm⟩, Or.inr (Or.inr ⟨z, hz, rfl, hw⟩)⟩) d_R_route_45
    · refine lv_iconst (v := (-1)) hx hb d_R_route_18 (by decide) ?_
      exact w_iret (ff, hd, bl, rs, hs, ts, rc, hc, tc) hx hb hr hlocks hS hP (⟨Or.inl ⟨rfl, by first | exact Or.inl (rt_ix_no c_4) | exact Or.inr c_15⟩, hk0⟩) d_R_route_19

set_option maxHeartbeats 4000000 in
set_option maxRecDepth 100000 in
theorem c_R_count (l : Launch) (D : va_G) (cI cZ : ClassId) (g a : Nat → Nat) (ha : xI a) (w h : Nat) (Q : Nat → Nat) (ff : Nat → Int32) (hd bl : Int32) (rs : Nat → Int32) (hs ts : Int32) (rc : Nat → Int32) (hc tc : Int32) (x : Int32) (hG : rt_G w h Q) (hk0 : rt_hk Q w h hd ff bl) : Met l y_R_count (.code y_R_count b_R_count 2 (some .int) :: tG) ({ frames := 5, cells := 0, slots := 0, locals := 115 }) (va_Pc [.ref (a 0), .int (x)] (wU D cI cZ g (xA a) (xw cI a w h Q ff hd bl rs hs ts rc hc tc))) (va_Qi (S := ((Nat → Int32) × Int32 × Int32 × (Nat → Int32) × Int32 × Int32 × (Nat → Int32) × Int32 × Int32)) (fun r u => ((¬ x = nI 3 ∧ r = rt_count Q (w * h) x) ∨ (x = nI 3 ∧ ∃ B, rt_isB Q w h B ∧ r = nI (rt_nB Q (6 * (w * h)) B))) ∧ rt_hk Q w h u.2.1 u.1 u.2.2.1) (wB D (fun (u : ((Nat → Int32) × Int32 × Int32 × (Nat → Int32) × Int32 × Int32 × (Nat → Int32) × Int32 × Int32)) => (xw cI a w h Q u.1 u.2.1 u.2.2.1 u.2.2.2.1 u.2.2.2.2.1 u.2.2.2.2.2.1 u.2.2.2.2.2.2.1 u.2.2.2.2.2.2.2.1 u.2.2.2.2.2.2.2.2))) (xA a)) 0 0 (xA a) := by
  refine Met.ofW (cc := b_R_count) (maxL := 2) (ret := (some .int)) (by decide) rfl ?_
  intro p e s m args below meth c s₁ BD9 hml hv
  obtain ⟨rfl, hP, hK, hZ⟩ := hv
  have hx := BD9.exec
  have hb := BD9.bytes
  have hr := BD9.returns
  have hts : ∀ w ∈ tG, w.before _ s = true := fun w hw => atoms_spec (ws := .code y_R_count b_R_count 2 (some .int) :: tG) BD9.pre w (List.mem_cons_of_mem _ hw)
  have hown : s.vm.findClass rn_R = some m.cls := findClass_of_methodNamed BD9.named
  have hlocks := BD9.notSynchronized
  have hS : va_S (xA a) s.heap s.heap [] := va_S.rf
  have hD : va_D (xA a) (xw cI a w h Q ff hd bl rs hs ts rc hc tc) := x_D ha _ rfl
  have hP : va_P D vwCl (xw cI a w h Q ff hd bl rs hs ts rc hc tc) s.heap := hP
  have hl := lv_entry ([.ref (a 0), .int (x)]) (n := 2) (Nat.le_of_ble_eq_true rfl)
  rw [lg_entry_eq]
  generalize (lg_sl ([.ref (a 0), .int (x)]) ++ List.replicate (2 - (lg_sl ([.ref (a 0), .int (x)])).length) Slot.unset).toArray = ls at hl ⊢
  have hl : lv_has ls 2 [(0, .ref (a 0)), (1, .int (x))] := hl
  obtain ⟨hn1, hn⟩ := hG.n
  have hw0 : 0 < w := by have := hG.1.1; omega
  have hQ := hG.2.2
  refine lv_iload_n hx hb d_R_count_0 rfl (lv_at hl 1 rfl) ?_
  rcases pk_ix x (n := 4) (by decide) with q9 | q9 | ⟨j, hj, rfl⟩
  · have hq9 := rt_ge3 (Or.inl q9)
    refine lv_tableOut (tgt := 81) hx hb d_R_count_1 (rt_t4 (Or.inl q9)) (by decide) ?_
    refine lv_iconst (v := (-1)) hx hb d_R_count_81 (by decide) ?_
    exact w_iret (ff, hd, bl, rs, hs, ts, rc, hc, tc) hx hb hr hlocks hS hP (⟨Or.inl ⟨hq9.1, (rt_count_n hq9.2).symm⟩, hk0⟩) d_R_count_82
  · have hq9 := rt_ge3 (Or.inr q9)
    refine lv_tableOut (tgt := 81) hx hb d_R_count_1 (rt_t4 (Or.inr q9)) (by decide) ?_
    refine lv_iconst (v := (-1)) hx hb d_R_count_81 (by decide) ?_
    exact w_iret (ff, hd, bl, rs, hs, ts, rc, hc, tc) hx hb hr hlocks hS hP (⟨Or.inl ⟨hq9.1, (rt_count_n hq9.2).symm⟩, hk0⟩) d_R_count_82
  · rcases (show j = 0 ∨ j = 1 ∨ j = 2 ∨ j = 3 by omega) with rfl | rfl | rfl | rfl
    · refine lv_tableIn (off := 31) (tgt := 32) hx hb d_R_count_1 (by decide) (by decide) (by decide) (by decide) ?_
      refine lv_aload_n hx hb d_R_count_32 rfl (lv_at hl 0 rfl) ?_
      refine va_get (D := D) (ci := 3) (v := .ref (a 1)) (C := rn_R) (T := tf_R) (N := 2) hx hb hts in_R hown hK hP 0 rfl rfl 0 (by decide) (hts _ k_fieldLink_rn_R_18_rn_R_rails_LRouteTracks_Rails) (fun _ h9 => h9) rfl d_R_count_33 ?_
      refine lv_iconst (v := (nI (1))) hx hb d_R_count_36 (by decide) ?_
      refine w_ci (As := [.int (nI (1))]) (rest := []) ⟨hx, hb, hml, hown, hts⟩ (c_A_piecesWith l D cI cZ g a ha w h Q ff hd bl rs hs ts rc hc tc 1 hG (by decide)) (cwV 1 hts (t_gV k_methodLink_rn_R_123_y_A_piecesWith k_instanceMethod_y_A_piecesWith k_selects_rn_A_y_A_piecesWith_y_A_piecesWith k_initialized_rn_A k_code_y_A_piecesWith_prog_3_method_9_code_4_some_int) rfl rfl rfl (by decide +kernel) ⟨Nat.le_of_ble_eq_true rfl, Nat.le_of_ble_eq_true rfl⟩) (va_recv hK hP (ci := 1) (q0 := 1) rfl rfl) hP hK hZ hS rfl hl.1 rfl (Nat.le_of_ble_eq_true rfl) d_R_count_37 ⟨Nat.zero_le _, Nat.zero_le _⟩ (fun r_37 u_37 H locs hw hP hS => ?_)
      subst hw
      have hP : va_P D vwCl (xw cI a w h Q ff hd bl rs hs ts rc hc tc) H := hP
      exact w_iret (ff, hd, bl, rs, hs, ts, rc, hc, tc) hx hb hr hlocks hS hP (⟨Or.inl ⟨by decide, rt_count_s.1.symm⟩, hk0⟩) d_R_count_40
    · refine lv_tableIn (off := 40) (tgt := 41) hx hb d_R_count_1 (by decide) (by decide) (by decide) (by decide) ?_
      refine lv_aload_n hx hb d_R_count_41 rfl (lv_at hl 0 rfl) ?_
      refine va_get (D := D) (ci := 3) (v := .ref (a 1)) (C := rn_R) (T := tf_R) (N := 2) hx hb hts in_R hown hK hP 0 rfl rfl 0 (by decide) (hts _ k_fieldLink_rn_R_18_rn_R_rails_LRouteTracks_Rails) (fun _ h9 => h9) rfl d_R_count_42 ?_
      refine lv_bipush (v := (nI (28))) hx hb d_R_count_45 (by decide) ?_
      refine w_ci (As := [.int (nI (28))]) (rest := []) ⟨hx, hb, hml, hown, hts⟩ (c_A_piecesWith l D cI cZ g a ha w h Q ff hd bl rs hs ts rc hc tc 28 hG (by decide)) (cwV 1 hts (t_gV k_methodLink_rn_R_123_y_A_piecesWith k_instanceMethod_y_A_piecesWith k_selects_rn_A_y_A_piecesWith_y_A_piecesWith k_initialized_rn_A k_code_y_A_piecesWith_prog_3_method_9_code_4_some_int) rfl rfl rfl (by decide +kernel) ⟨Nat.le_of_ble_eq_true rfl, Nat.le_of_ble_eq_true rfl⟩) (va_recv hK hP (ci := 1) (q0 := 1) rfl rfl) hP hK hZ hS rfl hl.1 rfl (Nat.le_of_ble_eq_true rfl) d_R_count_47 ⟨Nat.zero_le _, Nat.zero_le _⟩ (fun r_47 u_47 H locs hw hP hS => ?_)
      subst hw
      have hP : va_P D vwCl (xw cI a w h Q ff hd bl rs hs ts rc hc tc) H := hP
      exact w_iret (ff, hd, bl, rs, hs, ts, rc, hc, tc) hx hb hr hlocks hS hP (⟨Or.inl ⟨by decide, rt_count_s.2.1.symm⟩, hk0⟩) d_R_count_50
    · refine lv_tableIn (off := 50) (tgt := 51) hx hb d_R_count_1 (by decide) (by decide) (by decide) (by decide) ?_
      refine lv_aload_n hx hb d_R_count_51 rfl (lv_at hl 0 rfl) ?_
      refine va_get (D := D) (ci := 3) (v := .ref (a 1)) (C := rn_R) (T := tf_R) (N := 2) hx hb hts in_R hown hK hP 0 rfl rfl 0 (by decide) (hts _ k_fieldLink_rn_R_18_rn_R_rails_LRouteTracks_Rails) (fun _ h9 => h9) rfl d_R_count_52 ?_
      refine lv_sipush (v := (nI (480))) hx hb d_R_count_55 (by decide) ?_
      refine w_ci (As := [.int (nI (480))]) (rest := []) ⟨hx, hb, hml, hown, hts⟩ (c_A_piecesWith l D cI cZ g a ha w h Q ff hd bl rs hs ts rc hc tc 480 hG (by decide)) (cwV 1 hts (t_gV k_methodLink_rn_R_123_y_A_piecesWith k_instanceMethod_y_A_piecesWith k_selects_rn_A_y_A_piecesWith_y_A_piecesWith k_initialized_rn_A k_code_y_A_piecesWith_prog_3_method_9_code_4_some_int) rfl rfl rfl (by decide +kernel) ⟨Nat.le_of_ble_eq_true rfl, Nat.le_of_ble_eq_true rfl⟩) (va_recv hK hP (ci := 1) (q0 := 1) rfl rfl) hP hK hZ hS rfl hl.1 rfl (Nat.le_of_ble_eq_true rfl) d_R_count_58 ⟨Nat.zero_le _, Nat.zero_le _⟩ (fun r_58 u_58 H locs hw hP hS => ?_)
      subst hw
      have hP : va_P D vwCl (xw cI a w h Q ff hd bl rs hs ts rc hc tc) H := hP
      exact w_iret (ff, hd, bl, rs, hs, ts, rc, hc, tc) hx hb hr hlocks hS hP (⟨Or.inl ⟨by decide, rt_count_s.2.2.symm⟩, hk0⟩) d_R_count_61
    · refine lv_tableIn (off := 61) (tgt := 62) hx hb d_R_count_1 (by decide) (by decide) (by decide) (by decide) ?_
      refine lv_aload_n hx hb d_R_count_62 rfl (lv_at hl 0 rfl) ?_
      refine va_get (D := D) (ci := 3) (v := .ref (a 4)) (C := rn_R) (T := tf_R) (N := 2) hx hb hts in_R hown hK hP 0 rfl rfl 1 (by decide) (hts _ k_fieldLink_rn_R_27_rn_R_search_LRouteTracks_Search) (fun _ h9 => h9) rfl d_R_count_63 ?_
      refine lv_aload_n hx hb d_R_count_66 rfl (lv_at hl 0 rfl) ?_
      refine va_get (D := D) (ci := 3) (v := .ref (a 1)) (C := rn_R) (T := tf_R) (N := 2) hx hb hts in_R hown hK hP 0 rfl rfl 0 (by decide) (hts _ k_fieldLink_rn_R_18_rn_R_rails_LRouteTracks_Rails) (fun _ h9 => h9) rfl d_R_count_67 ?_
      refine w_cv (As := [.ref (a 1)]) (rest := []) ⟨hx, hb, hml, hown, hts⟩ (c_S_findBlocks l D cI cZ g a ha w h Q ff hd bl rs hs ts rc hc tc  hG hk0) (cwV 1 hts (t_gV k_methodLink_rn_R_101_y_S_findBlocks k_instanceMethod_y_S_findBlocks k_selects_rn_S_y_S_findBlocks_y_S_findBlocks k_initialized_rn_S k_code_y_S_findBlocks_prog_4_method_3_code_3_none) rfl rfl rfl (by decide +kernel) ⟨Nat.le_of_ble_eq_true rfl, Nat.le_of_ble_eq_true rfl⟩) (va_recv hK hP (ci := 2) (q0 := 4) rfl rfl) hP hK hZ hS rfl hl.1 rfl (Nat.le_of_ble_eq_true rfl) d_R_count_70 ⟨Nat.zero_le _, Nat.zero_le _⟩ (fun u_70 H locs hw hP hS => ?_)
      obtain ⟨ff1, bl1, rc1, hc1, tc1⟩ := u_70
      have hP : va_P D vwCl (xw cI a w h Q ff1 (nI (8)) bl1 rs hs ts rc1 hc1 tc1) H := hP
      have hD : va_D (xA a) (xw cI a w h Q ff1 (nI (8)) bl1 rs hs ts rc1 hc1 tc1) := x_D ha _ rfl
      obtain ⟨B9, hB1, hB2, hB3⟩ := id hw
      dsimp only at hB2 hB3
      refine lv_aload_n hx hb d_R_count_73 rfl (lv_at hl 0 rfl) ?_
      refine va_get (D := D) (ci := 3) (v := .ref (a 4)) (C := rn_R) (T := tf_R) (N := 2) hx hb hts in_R hown hK hP 0 rfl rfl 1 (by decide) (hts _ k_fieldLink_rn_R_27_rn_R_search_LRouteTracks_Search) (fun _ h9 => h9) rfl d_R_count_74 ?_
      refine va_get (D := D) (ci := 2) (v := .int (bl1)) (C := rn_S) (T := tf_S) (N := 5) hx hb hts in_S hown hK hP 4 rfl rfl 4 (by decide) (hts _ k_fieldLink_rn_R_126_rn_S_blocks_I) (fun _ h9 => h9) rfl d_R_count_77 ?_
      exact w_iret (ff1, nI 8, bl1, rs, hs, ts, rc1, hc1, tc1) hx hb hr hlocks hS hP (⟨Or.inr ⟨rfl, B9, hB1, hB3⟩, Or.inr (Or.inl ⟨rfl, hw⟩)⟩) d_R_count_80
