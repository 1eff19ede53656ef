/-! The reference: count, onward, reckon, cost; by program (wip/whole/gen/mod5.py) -/
set_option maxHeartbeats 4000000 in
set_option maxRecDepth 100000 in
theorem c_M_count (l : Launch) (D : va_G) (cI cZ : ClassId) (g a : Nat → Nat) (ha : mI a) (w h : Nat) (Q L : Nat → Nat) (cn : Nat) (th : Int32) (kf : Nat → Int32) (Z : Nat → Bool) (pf : Nat → Int32) (x : Int32) (B : Nat → Nat) (hG : rt_G w h Q) (hL : rt_isL Q L cn) (hB : x = nI 3 → rt_isB Q w h B) : Met l y_M_count (.code y_M_count b_M_count 5 (some .int) :: tG) ({ frames := 4, cells := 0, slots := 0, locals := 92 }) (va_Pc [.ref (a 0), .int (x)] (wU D cI cZ g (mA a) (mw cI cZ a w h (fun p => rt_b (decide (Q p ≠ 0))) (fun p => nI (rt_g Q p)) (fun p => nI (rt_s Q p)) (fun i => nI (L i)) cn th kf (fun p => rt_b (Z p)) pf))) (va_Qi (S := ((Nat → Bool) × (Nat → Int32))) (fun r _ => (¬ x = nI 3 → r = rt_count Q (w * h) x) ∧ (x = nI 3 → r = nI (rt_nB Q (6 * (w * h)) B))) (wB D (fun (u : ((Nat → Bool) × (Nat → Int32))) => (mw cI cZ a w h (fun p => rt_b (decide (Q p ≠ 0))) (fun p => nI (rt_g Q p)) (fun p => nI (rt_s Q p)) (fun i => nI (L i)) cn (nI (0)) kf (fun p => rt_b (u.1 p)) u.2))) (mA a)) 0 0 (mA a) := by
  refine Met.ofW (cc := b_M_count) (maxL := 5) (ret := (some .int)) (by decide) rfl ?_
  intro p e s m args below meth c s₁ BD9 hml hv
  obtain ⟨rfl, hP, hK, hZ⟩ := hv
  have hx := BD9.exec
  have hb := BD9.bytes
  have hr := BD9.returns
  have hts : ∀ w ∈ tG, w.before _ s = true := fun w hw => atoms_spec (ws := .code y_M_count b_M_count 5 (some .int) :: tG) BD9.pre w (List.mem_cons_of_mem _ hw)
  have hown : s.vm.findClass rn_M = some m.cls := findClass_of_methodNamed BD9.named
  have hlocks := BD9.notSynchronized
  have hS : va_S (mA a) s.heap s.heap [] := va_S.rf
  have hD : va_D (mA a) (mw cI cZ a w h (fun p => rt_b (decide (Q p ≠ 0))) (fun p => nI (rt_g Q p)) (fun p => nI (rt_s Q p)) (fun i => nI (L i)) cn th kf (fun p => rt_b (Z p)) pf) := m_D ha _ rfl
  have hP : va_P D vwCl (mw cI cZ a w h (fun p => rt_b (decide (Q p ≠ 0))) (fun p => nI (rt_g Q p)) (fun p => nI (rt_s Q p)) (fun i => nI (L i)) cn th kf (fun p => rt_b (Z p)) pf) s.heap := hP
  have hl := lv_entry ([.ref (a 0), .int (x)]) (n := 5) (Nat.le_of_ble_eq_true rfl)
  rw [lg_entry_eq]
  generalize (lg_sl ([.ref (a 0), .int (x)]) ++ List.replicate (5 - (lg_sl ([.ref (a 0), .int (x)])).length) Slot.unset).toArray = ls at hl ⊢
  have hl : lv_has ls 5 [(0, .ref (a 0)), (1, .int (x))] := hl
  obtain ⟨hn1, hn⟩ := hG.n
  have hw0 : 0 < w := by have := hG.1.1; omega
  have hQ := hG.2.2
  have hcn := rt_isL_cap hQ hL
  refine lv_aload_n hx hb d_M_count_0 rfl (lv_at hl 0 rfl) ?_
  refine lv_iconst (v := (nI (0))) hx hb d_M_count_1 (by decide) ?_
  refine va_put (D := D) (ci := 4) (v := .int (nI (0))) (ty := .int) (C := rn_M) (T := tf_M) (N := 12) hx hb hts in_M tt_M tt_M_ok nm_M hown hK hP hD hS 0 rfl rfl 1 (by decide) (hts _ k_fieldLink_rn_M_42_rn_M_thrown_I) (fun _ h9 => h9) rfl (by decide +kernel) rfl rfl (Nat.le_of_ble_eq_true rfl) d_M_count_2 (fun H locs hP hD hS => ?_)
  have hP : va_P D vwCl (mw cI cZ a w h (fun p => rt_b (decide (Q p ≠ 0))) (fun p => nI (rt_g Q p)) (fun p => nI (rt_s Q p)) (fun i => nI (L i)) cn (nI (0)) kf (fun p => rt_b (Z p)) pf) H := hP
  have hD : va_D (mA a) (mw cI cZ a w h (fun p => rt_b (decide (Q p ≠ 0))) (fun p => nI (rt_g Q p)) (fun p => nI (rt_s Q p)) (fun i => nI (L i)) cn (nI (0)) kf (fun p => rt_b (Z p)) pf) := m_D ha _ rfl
  refine lv_iload_n hx hb d_M_count_5 rfl (lv_at hl 1 rfl) ?_
  refine lv_if_lt (tgt := 14) hx hb d_M_count_6 (by decide) (fun c_6 => ?_) (fun c_6 => ?_)
  · refine lv_iconst (v := (-1)) hx hb d_M_count_14 (by decide) ?_
    exact w_iret (Z, pf) hx hb hr hlocks hS hP (by have h9 := rt_ge3 (x := x) (by first | exact Or.inl c_6 | exact Or.inr (rt_gt3 c_11)); exact ⟨fun _ => (rt_count_n h9.2).symm, fun q => absurd q h9.1⟩) d_M_count_15
  · refine lv_iload_n hx hb d_M_count_9 rfl (lv_at hl 1 rfl) ?_
    refine lv_iconst (v := (nI (3))) hx hb d_M_count_10 (by decide) ?_
    refine lv_icmp_le (tgt := 16) hx hb d_M_count_11 (by decide) (fun c_11 => ?_) (fun c_11 => ?_)
    · obtain ⟨j0, hj0, rfl⟩ : ∃ j : Nat, j ≤ 3 ∧ x = nI j := nI_of2 (M := nI 3) rfl c_6 c_11
      rcases (show j0 = 0 ∨ j0 = 1 ∨ j0 = 2 ∨ j0 = 3 by omega) with rfl | rfl | rfl | rfl
      · have hl : lv_has ls 5 [(0, .ref (a 0)), (1, .int (nI (0)))] := hl
        refine lv_iconst (v := (nI (0))) hx hb d_M_count_16 (by decide) ?_
        refine lv_istore_n (lv' := [(2, .int (nI (0))), (0, .ref (a 0)), (1, .int (nI (0)))]) hx hb d_M_count_17 rfl hl (by decide) rfl (fun ls hl => ?_)
        refine lv_aload_n hx hb d_M_count_18 rfl (lv_at hl 1 rfl) ?_
        refine w_cv (As := []) (rest := []) ⟨hx, hb, hml, hown, hts⟩ (c_M_unreach l D cI cZ g a ha w h Q L cn (nI (0)) kf Z pf  hG) (cwV 0 hts (t_gV k_methodLink_rn_M_94_y_M_unreach k_instanceMethod_y_M_unreach k_selects_rn_M_y_M_unreach_y_M_unreach k_initialized_rn_M k_code_y_M_unreach_prog_6_method_25_code_2_none) rfl rfl rfl (by decide +kernel) ⟨Nat.le_of_ble_eq_true rfl, Nat.le_of_ble_eq_true rfl⟩) (va_recv hK hP (ci := 4) (q0 := 0) rfl rfl) hP hK hZ hS rfl hl.1 rfl (Nat.le_of_ble_eq_true rfl) d_M_count_19 ⟨Nat.zero_le _, Nat.zero_le _⟩ (fun u_19 H locs hw hP hS => ?_)
        have hP : va_P D vwCl (mw cI cZ a w h (fun p => rt_b (decide (Q p ≠ 0))) (fun p => nI (rt_g Q p)) (fun p => nI (rt_s Q p)) (fun i => nI (L i)) cn (nI (0)) kf (fun p => rt_b ((fun _ => false) p)) pf) H := hP
        have hD : va_D (mA a) (mw cI cZ a w h (fun p => rt_b (decide (Q p ≠ 0))) (fun p => nI (rt_g Q p)) (fun p => nI (rt_s Q p)) (fun i => nI (L i)) cn (nI (0)) kf (fun p => rt_b ((fun _ => false) p)) pf) := m_D ha _ rfl
        refine lv_iconst (v := (nI (0))) hx hb d_M_count_22 (by decide) ?_
        refine lv_istore_n (lv' := [(3, .int (nI (0))), (2, .int (nI (0))), (0, .ref (a 0)), (1, .int (nI (0)))]) hx hb d_M_count_23 rfl hl (by decide) rfl (fun ls hl => ?_)
        have LP_24 : ∀ (n_24 : Nat) (i : Nat), i + n_24 = cn → ∀ (H : Heap) (locs : List Loc) (ls : Array Slot), va_P D vwCl (mw cI cZ a w h (fun p => rt_b (decide (Q p ≠ 0))) (fun p => nI (rt_g Q p)) (fun p => nI (rt_s Q p)) (fun i => nI (L i)) cn (nI (0)) kf (fun p => rt_b ((fun _ => false) p)) pf) H → va_S (mA a) s.heap H locs → lv_has ls 5 [(0, .ref (a 0)), (1, .int (nI (0))), (2, .int (nI (i))), (3, .int (nI (i)))] → W p l e (headSpec (.code y_M_count b_M_count 5 (some .int) :: tG) ({ frames := 4, cells := 0, slots := 0, locals := 92 })).room s m ([.ref (a 0), .int ((nI 0))] : List Value).toArray below meth c H locs 0 0 (MQ below (va_Qi (S := ((Nat → Bool) × (Nat → Int32))) (fun r _ => (¬ (nI 0) = nI 3 → r = rt_count Q (w * h) (nI 0)) ∧ ((nI 0) = nI 3 → r = nI (rt_nB Q (6 * (w * h)) B))) (wB D (fun (u : ((Nat → Bool) × (Nat → Int32))) => (mw cI cZ a w h (fun p => rt_b (decide (Q p ≠ 0))) (fun p => nI (rt_g Q p)) (fun p => nI (rt_s Q p)) (fun i => nI (L i)) cn (nI (0)) kf (fun p => rt_b (u.1 p)) u.2))) (mA a)) ([.ref (a 0), .int ((nI 0))] : List Value).toArray s 0 0 (mA a)) (F0 m 24 ls []) := by
          intro n_24
          induction n_24 with
          | zero =>
            intro i hrel_24 H locs ls hP hS hl
            have hD : va_D (mA a) (mw cI cZ a w h (fun p => rt_b (decide (Q p ≠ 0))) (fun p => nI (rt_g Q p)) (fun p => nI (rt_s Q p)) (fun i => nI (L i)) cn (nI (0)) kf (fun p => rt_b ((fun _ => false) p)) pf) := m_D ha _ rfl
            have hLi : i < cn → L i < 6 * (w * h) := fun q => rt_ok_in hQ (hL.1 i q)
            refine lv_iload_n hx hb d_M_count_24 rfl (lv_at hl 3 rfl) ?_
            refine lv_aload_n hx hb d_M_count_25 rfl (lv_at hl 0 rfl) ?_
            refine va_get (D := D) (ci := 4) (v := .int (nI (cn))) (C := rn_M) (T := tf_M) (N := 12) hx hb hts in_M hown hK hP 0 rfl rfl 8 (by decide) (hts _ k_fieldLink_rn_M_52_rn_M_pieces_I) (fun _ h9 => h9) rfl d_M_count_26 ?_
            refine rw_cge (tgt := 120) hx hb d_M_count_29 (by decide) (by omega) (by omega) (fun c_29 => ?_) (fun c_29 => ?_)
            · refine lv_iload_n hx hb d_M_count_120 rfl (lv_at hl 2 rfl) ?_
              exact w_iret (_, _) hx hb hr hlocks hS hP ⟨fun _ => by rw [rt_cm_0 hQ hL, ← show i = cn by omega], fun q => absurd q (by decide)⟩ d_M_count_121
            · omega
          | succ n_24 ih_24 =>
            intro i hrel_24 H locs ls hP hS hl
            have hD : va_D (mA a) (mw cI cZ a w h (fun p => rt_b (decide (Q p ≠ 0))) (fun p => nI (rt_g Q p)) (fun p => nI (rt_s Q p)) (fun i => nI (L i)) cn (nI (0)) kf (fun p => rt_b ((fun _ => false) p)) pf) := m_D ha _ rfl
            have hLi : i < cn → L i < 6 * (w * h) := fun q => rt_ok_in hQ (hL.1 i q)
            refine lv_iload_n hx hb d_M_count_24 rfl (lv_at hl 3 rfl) ?_
            refine lv_aload_n hx hb d_M_count_25 rfl (lv_at hl 0 rfl) ?_
            refine va_get (D := D) (ci := 4) (v := .int (nI (cn))) (C := rn_M) (T := tf_M) (N := 12) hx hb hts in_M hown hK hP 0 rfl rfl 8 (by decide) (hts _ k_fieldLink_rn_M_52_rn_M_pieces_I) (fun _ h9 => h9) rfl d_M_count_26 ?_
            refine rw_cge (tgt := 120) hx hb d_M_count_29 (by decide) (by omega) (by omega) (fun c_29 => ?_) (fun c_29 => ?_)
            · omega
            · refine lv_aload_n hx hb d_M_count_32 rfl (lv_at hl 0 rfl) ?_
              refine va_get (D := D) (ci := 4) (v := .ref (a 5)) (C := rn_M) (T := tf_M) (N := 12) hx hb hts in_M hown hK hP 0 rfl rfl 7 (by decide) (hts _ k_fieldLink_rn_M_23_rn_M_list_I) (fun _ h9 => h9) rfl d_M_count_33 ?_
              refine lv_iload_n hx hb d_M_count_36 rfl (lv_at hl 3 rfl) ?_
              refine rw_iald (v := (nI (L i))) hx hb hK hP 5 0 rfl rfl (by omega) (by omega) (rfl) d_M_count_37 ?_
              refine lv_istore (lv' := [(4, .int (nI (L i))), (0, .ref (a 0)), (1, .int (nI (0))), (2, .int (nI (i))), (3, .int (nI (i)))]) hx hb d_M_count_38 hl (by decide) rfl (fun ls hl => ?_)
              refine lv_iload_n hx hb d_M_count_40 rfl (lv_at hl 2 rfl) ?_
              refine rw_zeq (tgt := 89) hx hb d_M_count_41 (by decide) (by omega) (fun c_41 => ?_) (fun c_41 => ?_)
              · refine lv_iinc (v := (nI (i + 1))) (lv' := [(2, .int (nI (i + 1))), (4, .int (nI (L i))), (0, .ref (a 0)), (1, .int (nI (0))), (3, .int (nI (i)))]) hx hb d_M_count_89 hl (k := 3) rfl (nI_add _ _) (by decide) rfl (fun ls hl => ?_)
                refine lv_iload_n hx hb d_M_count_92 rfl (lv_at hl 3 rfl) ?_
                refine lv_iconst (v := (nI (3))) hx hb d_M_count_93 (by decide) ?_
                refine rw_cne (tgt := 114) hx hb d_M_count_94 (by decide) (by omega) (by omega) (fun c_94 => ?_) (fun c_94 => ?_)
                · refine lv_iinc (v := (nI (i + 1))) (lv' := [(3, .int (nI (i + 1))), (2, .int (nI (i + 1))), (4, .int (nI (L i))), (0, .ref (a 0)), (1, .int (nI (0)))]) hx hb d_M_count_114 hl (k := 4) rfl (nI_add _ _) (by decide) rfl (fun ls hl => ?_)
                  refine lv_goto (tgt := 24) hx hb d_M_count_117 (by decide) ?_
                  exact ih_24 (i + 1) (by omega) _ _ _ hP hS (lv_sub hl [3, 4, 1, 0] rfl)
                · omega
              · omega
        exact LP_24 cn 0 (by omega) _ _ _ hP hS (lv_sub hl [2, 3, 1, 0] rfl)
      · have hl : lv_has ls 5 [(0, .ref (a 0)), (1, .int (nI (1)))] := hl
        refine lv_iconst (v := (nI (0))) hx hb d_M_count_16 (by decide) ?_
        refine lv_istore_n (lv' := [(2, .int (nI (0))), (0, .ref (a 0)), (1, .int (nI (1)))]) hx hb d_M_count_17 rfl hl (by decide) rfl (fun ls hl => ?_)
        refine lv_aload_n hx hb d_M_count_18 rfl (lv_at hl 1 rfl) ?_
        refine w_cv (As := []) (rest := []) ⟨hx, hb, hml, hown, hts⟩ (c_M_unreach l D cI cZ g a ha w h Q L cn (nI (0)) kf Z pf  hG) (cwV 0 hts (t_gV k_methodLink_rn_M_94_y_M_unreach k_instanceMethod_y_M_unreach k_selects_rn_M_y_M_unreach_y_M_unreach k_initialized_rn_M k_code_y_M_unreach_prog_6_method_25_code_2_none) rfl rfl rfl (by decide +kernel) ⟨Nat.le_of_ble_eq_true rfl, Nat.le_of_ble_eq_true rfl⟩) (va_recv hK hP (ci := 4) (q0 := 0) rfl rfl) hP hK hZ hS rfl hl.1 rfl (Nat.le_of_ble_eq_true rfl) d_M_count_19 ⟨Nat.zero_le _, Nat.zero_le _⟩ (fun u_19 H locs hw hP hS => ?_)
        have hP : va_P D vwCl (mw cI cZ a w h (fun p => rt_b (decide (Q p ≠ 0))) (fun p => nI (rt_g Q p)) (fun p => nI (rt_s Q p)) (fun i => nI (L i)) cn (nI (0)) kf (fun p => rt_b ((fun _ => false) p)) pf) H := hP
        have hD : va_D (mA a) (mw cI cZ a w h (fun p => rt_b (decide (Q p ≠ 0))) (fun p => nI (rt_g Q p)) (fun p => nI (rt_s Q p)) (fun i => nI (L i)) cn (nI (0)) kf (fun p => rt_b ((fun _ => false) p)) pf) := m_D ha _ rfl
        refine lv_iconst (v := (nI (0))) hx hb d_M_count_22 (by decide) ?_
        refine lv_istore_n (lv' := [(3, .int (nI (0))), (2, .int (nI (0))), (0, .ref (a 0)), (1, .int (nI (1)))]) hx hb d_M_count_23 rfl hl (by decide) rfl (fun ls hl => ?_)
        have LP_24 : ∀ (n_24 : Nat) (i : Nat), i + n_24 = cn → ∀ (H : Heap) (locs : List Loc) (ls : Array Slot), va_P D vwCl (mw cI cZ a w h (fun p => rt_b (decide (Q p ≠ 0))) (fun p => nI (rt_g Q p)) (fun p => nI (rt_s Q p)) (fun i => nI (L i)) cn (nI (0)) kf (fun p => rt_b ((fun _ => false) p)) pf) H → va_S (mA a) s.heap H locs → lv_has ls 5 [(0, .ref (a 0)), (1, .int (nI (1))), (2, .int (nI ((List.range i).countP (fun i => decide (rt_g Q (L i) ≠ 0))))), (3, .int (nI (i)))] → W p l e (headSpec (.code y_M_count b_M_count 5 (some .int) :: tG) ({ frames := 4, cells := 0, slots := 0, locals := 92 })).room s m ([.ref (a 0), .int ((nI 1))] : List Value).toArray below meth c H locs 0 0 (MQ below (va_Qi (S := ((Nat → Bool) × (Nat → Int32))) (fun r _ => (¬ (nI 1) = nI 3 → r = rt_count Q (w * h) (nI 1)) ∧ ((nI 1) = nI 3 → r = nI (rt_nB Q (6 * (w * h)) B))) (wB D (fun (u : ((Nat → Bool) × (Nat → Int32))) => (mw cI cZ a w h (fun p => rt_b (decide (Q p ≠ 0))) (fun p => nI (rt_g Q p)) (fun p => nI (rt_s Q p)) (fun i => nI (L i)) cn (nI (0)) kf (fun p => rt_b (u.1 p)) u.2))) (mA a)) ([.ref (a 0), .int ((nI 1))] : List Value).toArray s 0 0 (mA a)) (F0 m 24 ls []) := by
          intro n_24
          induction n_24 with
          | zero =>
            intro i hrel_24 H locs ls hP hS hl
            have hD : va_D (mA a) (mw cI cZ a w h (fun p => rt_b (decide (Q p ≠ 0))) (fun p => nI (rt_g Q p)) (fun p => nI (rt_s Q p)) (fun i => nI (L i)) cn (nI (0)) kf (fun p => rt_b ((fun _ => false) p)) pf) := m_D ha _ rfl
            have hLi : i < cn → L i < 6 * (w * h) := fun q => rt_ok_in hQ (hL.1 i q)
            refine lv_iload_n hx hb d_M_count_24 rfl (lv_at hl 3 rfl) ?_
            refine lv_aload_n hx hb d_M_count_25 rfl (lv_at hl 0 rfl) ?_
            refine va_get (D := D) (ci := 4) (v := .int (nI (cn))) (C := rn_M) (T := tf_M) (N := 12) hx hb hts in_M hown hK hP 0 rfl rfl 8 (by decide) (hts _ k_fieldLink_rn_M_52_rn_M_pieces_I) (fun _ h9 => h9) rfl d_M_count_26 ?_
            refine rw_cge (tgt := 120) hx hb d_M_count_29 (by decide) (by omega) (by omega) (fun c_29 => ?_) (fun c_29 => ?_)
            · refine lv_iload_n hx hb d_M_count_120 rfl (lv_at hl 2 rfl) ?_
              exact w_iret (_, _) hx hb hr hlocks hS hP ⟨fun _ => by rw [rt_cm_1 hQ hL, ← show i = cn by omega], fun q => absurd q (by decide)⟩ d_M_count_121
            · omega
          | succ n_24 ih_24 =>
            intro i hrel_24 H locs ls hP hS hl
            have hD : va_D (mA a) (mw cI cZ a w h (fun p => rt_b (decide (Q p ≠ 0))) (fun p => nI (rt_g Q p)) (fun p => nI (rt_s Q p)) (fun i => nI (L i)) cn (nI (0)) kf (fun p => rt_b ((fun _ => false) p)) pf) := m_D ha _ rfl
            have hLi : i < cn → L i < 6 * (w * h) := fun q => rt_ok_in hQ (hL.1 i q)
            refine lv_iload_n hx hb d_M_count_24 rfl (lv_at hl 3 rfl) ?_
            refine lv_aload_n hx hb d_M_count_25 rfl (lv_at hl 0 rfl) ?_
            refine va_get (D := D) (ci := 4) (v := .int (nI (cn))) (C := rn_M) (T := tf_M) (N := 12) hx hb hts in_M hown hK hP 0 rfl rfl 8 (by decide) (hts _ k_fieldLink_rn_M_52_rn_M_pieces_I) (fun _ h9 => h9) rfl d_M_count_26 ?_
            refine rw_cge (tgt := 120) hx hb d_M_count_29 (by decide) (by omega) (by omega) (fun c_29 => ?_) (fun c_29 => ?_)
            · omega
            · refine lv_aload_n hx hb d_M_count_32 rfl (lv_at hl 0 rfl) ?_
              refine va_get (D := D) (ci := 4) (v := .ref (a 5)) (C := rn_M) (T := tf_M) (N := 12) hx hb hts in_M hown hK hP 0 rfl rfl 7 (by decide) (hts _ k_fieldLink_rn_M_23_rn_M_list_I) (fun _ h9 => h9) rfl d_M_count_33 ?_
              refine lv_iload_n hx hb d_M_count_36 rfl (lv_at hl 3 rfl) ?_
              refine rw_iald (v := (nI (L i))) hx hb hK hP 5 0 rfl rfl (by omega) (by omega) (rfl) d_M_count_37 ?_
              refine lv_istore (lv' := [(4, .int (nI (L i))), (0, .ref (a 0)), (1, .int (nI (1))), (2, .int (nI ((List.range i).countP (fun i => decide (rt_g Q (L i) ≠ 0))))), (3, .int (nI (i)))]) hx hb d_M_count_38 hl (by decide) rfl (fun ls hl => ?_)
              refine lv_iload_n hx hb d_M_count_40 rfl (lv_at hl 2 rfl) ?_
              refine rw_zeq (tgt := 89) hx hb d_M_count_41 (by decide) (by omega) (fun c_41 => ?_) (fun c_41 => ?_)
              · omega
              · refine lv_iload_n hx hb d_M_count_44 rfl (lv_at hl 2 rfl) ?_
                refine lv_iconst (v := (nI (1))) hx hb d_M_count_45 (by decide) ?_
                refine rw_cne (tgt := 59) hx hb d_M_count_46 (by decide) (by omega) (by omega) (fun c_46 => ?_) (fun c_46 => ?_)
                · omega
                · refine lv_aload_n hx hb d_M_count_49 rfl (lv_at hl 1 rfl) ?_
                  refine va_get (D := D) (ci := 4) (v := .ref (a 3)) (C := rn_M) (T := tf_M) (N := 12) hx hb hts in_M hown hK hP 0 rfl rfl 5 (by decide) (hts _ k_fieldLink_rn_M_17_rn_M_signs_I) (fun _ h9 => h9) rfl d_M_count_50 ?_
                  refine lv_iload hx hb d_M_count_53 (lv_at hl 0 rfl) ?_
                  refine rw_iald (v := (nI (rt_g Q (L i)))) hx hb hK hP 3 0 rfl rfl (by omega) (by omega) (rfl) d_M_count_55 ?_
                  refine rw_zgt (tgt := 89) hx hb d_M_count_56 (by decide) (by have := rt_ok_g hQ (L i); omega) (fun c_56 => ?_) (fun c_56 => ?_)
                  · refine lv_iinc (v := (nI (((List.range i).countP (fun i => decide (rt_g Q (L i) ≠ 0))) + 1))) (lv' := [(2, .int (nI (((List.range i).countP (fun i => decide (rt_g Q (L i) ≠ 0))) + 1))), (4, .int (nI (L i))), (0, .ref (a 0)), (1, .int (nI (1))), (3, .int (nI (i)))]) hx hb d_M_count_89 hl (k := 3) rfl (nI_add _ _) (by decide) rfl (fun ls hl => ?_)
                    refine lv_iload_n hx hb d_M_count_92 rfl (lv_at hl 3 rfl) ?_
                    refine lv_iconst (v := (nI (3))) hx hb d_M_count_93 (by decide) ?_
                    refine rw_cne (tgt := 114) hx hb d_M_count_94 (by decide) (by omega) (by omega) (fun c_94 => ?_) (fun c_94 => ?_)
                    · refine lv_iinc (v := (nI (i + 1))) (lv' := [(3, .int (nI (i + 1))), (2, .int (nI (((List.range i).countP (fun i => decide (rt_g Q (L i) ≠ 0))) + 1))), (4, .int (nI (L i))), (0, .ref (a 0)), (1, .int (nI (1)))]) hx hb d_M_count_114 hl (k := 4) rfl (nI_add _ _) (by decide) rfl (fun ls hl => ?_)
                      refine lv_goto (tgt := 24) hx hb d_M_count_117 (by decide) ?_
                      have hl : lv_has ls 5 [(3, .int (nI (i + 1))), (2, .int (nI ((List.range (i + 1)).countP (fun i => decide (rt_g Q (L i) ≠ 0))))), (4, .int (nI (L i))), (0, .ref (a 0)), (1, .int (nI (1)))] := by rw [rt_cnt_succ, if_pos (by simp; omega)]; exact hl
                      exact ih_24 (i + 1) (by omega) _ _ _ hP hS (lv_sub hl [3, 4, 1, 0] rfl)
                    · omega
                  · refine lv_iload_n hx hb d_M_count_59 rfl (lv_at hl 2 rfl) ?_
                    refine lv_iconst (v := (nI (2))) hx hb d_M_count_60 (by decide) ?_
                    refine rw_cne (tgt := 74) hx hb d_M_count_61 (by decide) (by omega) (by omega) (fun c_61 => ?_) (fun c_61 => ?_)
                    · refine lv_iload_n hx hb d_M_count_74 rfl (lv_at hl 2 rfl) ?_
                      refine lv_iconst (v := (nI (3))) hx hb d_M_count_75 (by decide) ?_
                      refine rw_cne (tgt := 92) hx hb d_M_count_76 (by decide) (by omega) (by omega) (fun c_76 => ?_) (fun c_76 => ?_)
                      · refine lv_iload_n hx hb d_M_count_92 rfl (lv_at hl 2 rfl) ?_
                        refine lv_iconst (v := (nI (3))) hx hb d_M_count_93 (by decide) ?_
                        refine rw_cne (tgt := 114) hx hb d_M_count_94 (by decide) (by omega) (by omega) (fun c_94 => ?_) (fun c_94 => ?_)
                        · refine lv_iinc (v := (nI (i + 1))) (lv' := [(3, .int (nI (i + 1))), (4, .int (nI (L i))), (0, .ref (a 0)), (1, .int (nI (1))), (2, .int (nI ((List.range i).countP (fun i => decide (rt_g Q (L i) ≠ 0)))))]) hx hb d_M_count_114 hl (k := 4) rfl (nI_add _ _) (by decide) rfl (fun ls hl => ?_)
                          refine lv_goto (tgt := 24) hx hb d_M_count_117 (by decide) ?_
                          have hl : lv_has ls 5 [(3, .int (nI (i + 1))), (4, .int (nI (L i))), (0, .ref (a 0)), (1, .int (nI (1))), (2, .int (nI ((List.range (i + 1)).countP (fun i => decide (rt_g Q (L i) ≠ 0)))))] := by rw [rt_cnt_succ, if_neg (by simp; omega)]; exact hl
                          exact ih_24 (i + 1) (by omega) _ _ _ hP hS (lv_sub hl [2, 3, 4, 0] rfl)
                        · omega
                      · omega
                    · omega
        exact LP_24 cn 0 (by omega) _ _ _ hP hS (lv_sub hl [2, 3, 1, 0] rfl)
      · have hl : lv_has ls 5 [(0, .ref (a 0)), (1, .int (nI (2)))] := hl
        refine lv_iconst (v := (nI (0))) hx hb d_M_count_16 (by decide) ?_
        refine lv_istore_n (lv' := [(2, .int (nI (0))), (0, .ref (a 0)), (1, .int (nI (2)))]) hx hb d_M_count_17 rfl hl (by decide) rfl (fun ls hl => ?_)
        refine lv_aload_n hx hb d_M_count_18 rfl (lv_at hl 1 rfl) ?_
        refine w_cv (As := []) (rest := []) ⟨hx, hb, hml, hown, hts⟩ (c_M_unreach l D cI cZ g a ha w h Q L cn (nI (0)) kf Z pf  hG) (cwV 0 hts (t_gV k_methodLink_rn_M_94_y_M_unreach k_instanceMethod_y_M_unreach k_selects_rn_M_y_M_unreach_y_M_unreach k_initialized_rn_M k_code_y_M_unreach_prog_6_method_25_code_2_none) rfl rfl rfl (by decide +kernel) ⟨Nat.le_of_ble_eq_true rfl, Nat.le_of_ble_eq_true rfl⟩) (va_recv hK hP (ci := 4) (q0 := 0) rfl rfl) hP hK hZ hS rfl hl.1 rfl (Nat.le_of_ble_eq_true rfl) d_M_count_19 ⟨Nat.zero_le _, Nat.zero_le _⟩ (fun u_19 H locs hw hP hS => ?_)
        have hP : va_P D vwCl (mw cI cZ a w h (fun p => rt_b (decide (Q p ≠ 0))) (fun p => nI (rt_g Q p)) (fun p => nI (rt_s Q p)) (fun i => nI (L i)) cn (nI (0)) kf (fun p => rt_b ((fun _ => false) p)) pf) H := hP
        have hD : va_D (mA a) (mw cI cZ a w h (fun p => rt_b (decide (Q p ≠ 0))) (fun p => nI (rt_g Q p)) (fun p => nI (rt_s Q p)) (fun i => nI (L i)) cn (nI (0)) kf (fun p => rt_b ((fun _ => false) p)) pf) := m_D ha _ rfl
        refine lv_iconst (v := (nI (0))) hx hb d_M_count_22 (by decide) ?_
        refine lv_istore_n (lv' := [(3, .int (nI (0))), (2, .int (nI (0))), (0, .ref (a 0)), (1, .int (nI (2)))]) hx hb d_M_count_23 rfl hl (by decide) rfl (fun ls hl => ?_)
        have LP_24 : ∀ (n_24 : Nat) (i : Nat), i + n_24 = cn → ∀ (H : Heap) (locs : List Loc) (ls : Array Slot), va_P D vwCl (mw cI cZ a w h (fun p => rt_b (decide (Q p ≠ 0))) (fun p => nI (rt_g Q p)) (fun p => nI (rt_s Q p)) (fun i => nI (L i)) cn (nI (0)) kf (fun p => rt_b ((fun _ => false) p)) pf) H → va_S (mA a) s.heap H locs → lv_has ls 5 [(0, .ref (a 0)), (1, .int (nI (2))), (2, .int (nI ((List.range i).countP (fun i => decide (rt_s Q (L i) ≠ 0))))), (3, .int (nI (i)))] → W p l e (headSpec (.code y_M_count b_M_count 5 (some .int) :: tG) ({ frames := 4, cells := 0, slots := 0, locals := 92 })).room s m ([.ref (a 0), .int ((nI 2))] : List Value).toArray below meth c H locs 0 0 (MQ below (va_Qi (S := ((Nat → Bool) × (Nat → Int32))) (fun r _ => (¬ (nI 2) = nI 3 → r = rt_count Q (w * h) (nI 2)) ∧ ((nI 2) = nI 3 → r = nI (rt_nB Q (6 * (w * h)) B))) (wB D (fun (u : ((Nat → Bool) × (Nat → Int32))) => (mw cI cZ a w h (fun p => rt_b (decide (Q p ≠ 0))) (fun p => nI (rt_g Q p)) (fun p => nI (rt_s Q p)) (fun i => nI (L i)) cn (nI (0)) kf (fun p => rt_b (u.1 p)) u.2))) (mA a)) ([.ref (a 0), .int ((nI 2))] : List Value).toArray s 0 0 (mA a)) (F0 m 24 ls []) := by
          intro n_24
          induction n_24 with
          | zero =>
            intro i hrel_24 H locs ls hP hS hl
            have hD : va_D (mA a) (mw cI cZ a w h (fun p => rt_b (decide (Q p ≠ 0))) (fun p => nI (rt_g Q p)) (fun p => nI (rt_s Q p)) (fun i => nI (L i)) cn (nI (0)) kf (fun p => rt_b ((fun _ => false) p)) pf) := m_D ha _ rfl
            have hLi : i < cn → L i < 6 * (w * h) := fun q => rt_ok_in hQ (hL.1 i q)
            refine lv_iload_n hx hb d_M_count_24 rfl (lv_at hl 3 rfl) ?_
            refine lv_aload_n hx hb d_M_count_25 rfl (lv_at hl 0 rfl) ?_
            refine va_get (D := D) (ci := 4) (v := .int (nI (cn))) (C := rn_M) (T := tf_M) (N := 12) hx hb hts in_M hown hK hP 0 rfl rfl 8 (by decide) (hts _ k_fieldLink_rn_M_52_rn_M_pieces_I) (fun _ h9 => h9) rfl d_M_count_26 ?_
            refine rw_cge (tgt := 120) hx hb d_M_count_29 (by decide) (by omega) (by omega) (fun c_29 => ?_) (fun c_29 => ?_)
            · refine lv_iload_n hx hb d_M_count_120 rfl (lv_at hl 2 rfl) ?_
              exact w_iret (_, _) hx hb hr hlocks hS hP ⟨fun _ => by rw [rt_cm_2 hQ hL, ← show i = cn by omega], fun q => absurd q (by decide)⟩ d_M_count_121
            · omega
          | succ n_24 ih_24 =>
            intro i hrel_24 H locs ls hP hS hl
            have hD : va_D (mA a) (mw cI cZ a w h (fun p => rt_b (decide (Q p ≠ 0))) (fun p => nI (rt_g Q p)) (fun p => nI (rt_s Q p)) (fun i => nI (L i)) cn (nI (0)) kf (fun p => rt_b ((fun _ => false) p)) pf) := m_D ha _ rfl
            have hLi : i < cn → L i < 6 * (w * h) := fun q => rt_ok_in hQ (hL.1 i q)
            refine lv_iload_n hx hb d_M_count_24 rfl (lv_at hl 3 rfl) ?_
            refine lv_aload_n hx hb d_M_count_25 rfl (lv_at hl 0 rfl) ?_
            refine va_get (D := D) (ci := 4) (v := .int (nI (cn))) (C := rn_M) (T := tf_M) (N := 12) hx hb hts in_M hown hK hP 0 rfl rfl 8 (by decide) (hts _ k_fieldLink_rn_M_52_rn_M_pieces_I) (fun _ h9 => h9) rfl d_M_count_26 ?_
            refine rw_cge (tgt := 120) hx hb d_M_count_29 (by decide) (by omega) (by omega) (fun c_29 => ?_) (fun c_29 => ?_)
            · omega
            · refine lv_aload_n hx hb d_M_count_32 rfl (lv_at hl 0 rfl) ?_
              refine va_get (D := D) (ci := 4) (v := .ref (a 5)) (C := rn_M) (T := tf_M) (N := 12) hx hb hts in_M hown hK hP 0 rfl rfl 7 (by decide) (hts _ k_fieldLink_rn_M_23_rn_M_list_I) (fun _ h9 => h9) rfl d_M_count_33 ?_
              refine lv_iload_n hx hb d_M_count_36 rfl (lv_at hl 3 rfl) ?_
              refine rw_iald (v := (nI (L i))) hx hb hK hP 5 0 rfl rfl (by omega) (by omega) (rfl) d_M_count_37 ?_
              refine lv_istore (lv' := [(4, .int (nI (L i))), (0, .ref (a 0)), (1, .int (nI (2))), (2, .int (nI ((List.range i).countP (fun i => decide (rt_s Q (L i) ≠ 0))))), (3, .int (nI (i)))]) hx hb d_M_count_38 hl (by decide) rfl (fun ls hl => ?_)
              refine lv_iload_n hx hb d_M_count_40 rfl (lv_at hl 2 rfl) ?_
              refine rw_zeq (tgt := 89) hx hb d_M_count_41 (by decide) (by omega) (fun c_41 => ?_) (fun c_41 => ?_)
              · omega
              · refine lv_iload_n hx hb d_M_count_44 rfl (lv_at hl 2 rfl) ?_
                refine lv_iconst (v := (nI (1))) hx hb d_M_count_45 (by decide) ?_
                refine rw_cne (tgt := 59) hx hb d_M_count_46 (by decide) (by omega) (by omega) (fun c_46 => ?_) (fun c_46 => ?_)
                · refine lv_iload_n hx hb d_M_count_59 rfl (lv_at hl 2 rfl) ?_
                  refine lv_iconst (v := (nI (2))) hx hb d_M_count_60 (by decide) ?_
                  refine rw_cne (tgt := 74) hx hb d_M_count_61 (by decide) (by omega) (by omega) (fun c_61 => ?_) (fun c_61 => ?_)
                  · omega
                  · refine lv_aload_n hx hb d_M_count_64 rfl (lv_at hl 1 rfl) ?_
                    refine va_get (D := D) (ci := 4) (v := .ref (a 4)) (C := rn_M) (T := tf_M) (N := 12) hx hb hts in_M hown hK hP 0 rfl rfl 6 (by decide) (hts _ k_fieldLink_rn_M_20_rn_M_stations_I) (fun _ h9 => h9) rfl d_M_count_65 ?_
                    refine lv_iload hx hb d_M_count_68 (lv_at hl 0 rfl) ?_
                    refine rw_iald (v := (nI (rt_s Q (L i)))) hx hb hK hP 4 0 rfl rfl (by omega) (by omega) (rfl) d_M_count_70 ?_
                    refine rw_zgt (tgt := 89) hx hb d_M_count_71 (by decide) (by have := rt_ok_s hQ (L i); omega) (fun c_71 => ?_) (fun c_71 => ?_)
                    · refine lv_iinc (v := (nI (((List.range i).countP (fun i => decide (rt_s Q (L i) ≠ 0))) + 1))) (lv' := [(2, .int (nI (((List.range i).countP (fun i => decide (rt_s Q (L i) ≠ 0))) + 1))), (4, .int (nI (L i))), (0, .ref (a 0)), (1, .int (nI (2))), (3, .int (nI (i)))]) hx hb d_M_count_89 hl (k := 3) rfl (nI_add _ _) (by decide) rfl (fun ls hl => ?_)
                      refine lv_iload_n hx hb d_M_count_92 rfl (lv_at hl 3 rfl) ?_
                      refine lv_iconst (v := (nI (3))) hx hb d_M_count_93 (by decide) ?_
                      refine rw_cne (tgt := 114) hx hb d_M_count_94 (by decide) (by omega) (by omega) (fun c_94 => ?_) (fun c_94 => ?_)
                      · refine lv_iinc (v := (nI (i + 1))) (lv' := [(3, .int (nI (i + 1))), (2, .int (nI (((List.range i).countP (fun i => decide (rt_s Q (L i) ≠ 0))) + 1))), (4, .int (nI (L i))), (0, .ref (a 0)), (1, .int (nI (2)))]) hx hb d_M_count_114 hl (k := 4) rfl (nI_add _ _) (by decide) rfl (fun ls hl => ?_)
                        refine lv_goto (tgt := 24) hx hb d_M_count_117 (by decide) ?_
                        have hl : lv_has ls 5 [(3, .int (nI (i + 1))), (2, .int (nI ((List.range (i + 1)).countP (fun i => decide (rt_s Q (L i) ≠ 0))))), (4, .int (nI (L i))), (0, .ref (a 0)), (1, .int (nI (2)))] := by rw [rt_cnt_succ, if_pos (by simp; omega)]; exact hl
                        exact ih_24 (i + 1) (by omega) _ _ _ hP hS (lv_sub hl [3, 4, 1, 0] rfl)
                      · omega
                    · refine lv_iload_n hx hb d_M_count_74 rfl (lv_at hl 2 rfl) ?_
                      refine lv_iconst (v := (nI (3))) hx hb d_M_count_75 (by decide) ?_
                      refine rw_cne (tgt := 92) hx hb d_M_count_76 (by decide) (by omega) (by omega) (fun c_76 => ?_) (fun c_76 => ?_)
                      · refine lv_iload_n hx hb d_M_count_92 rfl (lv_at hl 2 rfl) ?_
                        refine lv_iconst (v := (nI (3))) hx hb d_M_count_93 (by decide) ?_
                        refine rw_cne (tgt := 114) hx hb d_M_count_94 (by decide) (by omega) (by omega) (fun c_94 => ?_) (fun c_94 => ?_)
                        · refine lv_iinc (v := (nI (i + 1))) (lv' := [(3, .int (nI (i + 1))), (4, .int (nI (L i))), (0, .ref (a 0)), (1, .int (nI (2))), (2, .int (nI ((List.range i).countP (fun i => decide (rt_s Q (L i) ≠ 0)))))]) hx hb d_M_count_114 hl (k := 4) rfl (nI_add _ _) (by decide) rfl (fun ls hl => ?_)
                          refine lv_goto (tgt := 24) hx hb d_M_count_117 (by decide) ?_
                          have hl : lv_has ls 5 [(3, .int (nI (i + 1))), (4, .int (nI (L i))), (0, .ref (a 0)), (1, .int (nI (2))), (2, .int (nI ((List.range (i + 1)).countP (fun i => decide (rt_s Q (L i) ≠ 0)))))] := by rw [rt_cnt_succ, if_neg (by simp; omega)]; exact hl
                          exact ih_24 (i + 1) (by omega) _ _ _ hP hS (lv_sub hl [2, 3, 4, 0] rfl)
                        · omega
                      · omega
                · omega
        exact LP_24 cn 0 (by omega) _ _ _ hP hS (lv_sub hl [2, 3, 1, 0] rfl)
      · have hl : lv_has ls 5 [(0, .ref (a 0)), (1, .int (nI (3)))] := hl
        refine lv_iconst (v := (nI (0))) hx hb d_M_count_16 (by decide) ?_
        refine lv_istore_n (lv' := [(2, .int (nI (0))), (0, .ref (a 0)), (1, .int (nI (3)))]) hx hb d_M_count_17 rfl hl (by decide) rfl (fun ls hl => ?_)
        refine lv_aload_n hx hb d_M_count_18 rfl (lv_at hl 1 rfl) ?_
        refine w_cv (As := []) (rest := []) ⟨hx, hb, hml, hown, hts⟩ (c_M_unreach l D cI cZ g a ha w h Q L cn (nI (0)) kf Z pf  hG) (cwV 0 hts (t_gV k_methodLink_rn_M_94_y_M_unreach k_instanceMethod_y_M_unreach k_selects_rn_M_y_M_unreach_y_M_unreach k_initialized_rn_M k_code_y_M_unreach_prog_6_method_25_code_2_none) rfl rfl rfl (by decide +kernel) ⟨Nat.le_of_ble_eq_true rfl, Nat.le_of_ble_eq_true rfl⟩) (va_recv hK hP (ci := 4) (q0 := 0) rfl rfl) hP hK hZ hS rfl hl.1 rfl (Nat.le_of_ble_eq_true rfl) d_M_count_19 ⟨Nat.zero_le _, Nat.zero_le _⟩ (fun u_19 H locs hw hP hS => ?_)
        have hP : va_P D vwCl (mw cI cZ a w h (fun p => rt_b (decide (Q p ≠ 0))) (fun p => nI (rt_g Q p)) (fun p => nI (rt_s Q p)) (fun i => nI (L i)) cn (nI (0)) kf (fun p => rt_b ((fun _ => false) p)) pf) H := hP
        have hD : va_D (mA a) (mw cI cZ a w h (fun p => rt_b (decide (Q p ≠ 0))) (fun p => nI (rt_g Q p)) (fun p => nI (rt_s Q p)) (fun i => nI (L i)) cn (nI (0)) kf (fun p => rt_b ((fun _ => false) p)) pf) := m_D ha _ rfl
        refine lv_iconst (v := (nI (0))) hx hb d_M_count_22 (by decide) ?_
        refine lv_istore_n (lv' := [(3, .int (nI (0))), (2, .int (nI (0))), (0, .ref (a 0)), (1, .int (nI (3)))]) hx hb d_M_count_23 rfl hl (by decide) rfl (fun ls hl => ?_)
        have LP_24 : ∀ (n_24 : Nat) (i : Nat) (c0 : Nat) (Z1 : Nat → Bool) (pf1 : Nat → Int32), i + n_24 = cn → (rt_kI Q w h B L i Z1 c0) → ∀ (H : Heap) (locs : List Loc) (ls : Array Slot), va_P D vwCl (mw cI cZ a w h (fun p => rt_b (decide (Q p ≠ 0))) (fun p => nI (rt_g Q p)) (fun p => nI (rt_s Q p)) (fun i => nI (L i)) cn (nI (0)) kf (fun p => rt_b (Z1 p)) pf1) H → va_S (mA a) s.heap H locs → lv_has ls 5 [(0, .ref (a 0)), (1, .int (nI (3))), (2, .int (nI (c0))), (3, .int (nI (i)))] → W p l e (headSpec (.code y_M_count b_M_count 5 (some .int) :: tG) ({ frames := 4, cells := 0, slots := 0, locals := 92 })).room s m ([.ref (a 0), .int ((nI 3))] : List Value).toArray below meth c H locs 0 0 (MQ below (va_Qi (S := ((Nat → Bool) × (Nat → Int32))) (fun r _ => (¬ (nI 3) = nI 3 → r = rt_count Q (w * h) (nI 3)) ∧ ((nI 3) = nI 3 → r = nI (rt_nB Q (6 * (w * h)) B))) (wB D (fun (u : ((Nat → Bool) × (Nat → Int32))) => (mw cI cZ a w h (fun p => rt_b (decide (Q p ≠ 0))) (fun p => nI (rt_g Q p)) (fun p => nI (rt_s Q p)) (fun i => nI (L i)) cn (nI (0)) kf (fun p => rt_b (u.1 p)) u.2))) (mA a)) ([.ref (a 0), .int ((nI 3))] : List Value).toArray s 0 0 (mA a)) (F0 m 24 ls []) := by
          intro n_24
          induction n_24 with
          | zero =>
            intro i c0 Z1 pf1 hrel_24 hI H locs ls hP hS hl
            have hD : va_D (mA a) (mw cI cZ a w h (fun p => rt_b (decide (Q p ≠ 0))) (fun p => nI (rt_g Q p)) (fun p => nI (rt_s Q p)) (fun i => nI (L i)) cn (nI (0)) kf (fun p => rt_b (Z1 p)) pf1) := m_D ha _ rfl
            have hLi : i < cn → L i < 6 * (w * h) := fun q => rt_ok_in hQ (hL.1 i q)
            refine lv_iload_n hx hb d_M_count_24 rfl (lv_at hl 3 rfl) ?_
            refine lv_aload_n hx hb d_M_count_25 rfl (lv_at hl 0 rfl) ?_
            refine va_get (D := D) (ci := 4) (v := .int (nI (cn))) (C := rn_M) (T := tf_M) (N := 12) hx hb hts in_M hown hK hP 0 rfl rfl 8 (by decide) (hts _ k_fieldLink_rn_M_52_rn_M_pieces_I) (fun _ h9 => h9) rfl d_M_count_26 ?_
            refine rw_cge (tgt := 120) hx hb d_M_count_29 (by decide) (by omega) (by omega) (fun c_29 => ?_) (fun c_29 => ?_)
            · refine lv_iload_n hx hb d_M_count_120 rfl (lv_at hl 2 rfl) ?_
              exact w_iret (_, _) hx hb hr hlocks hS hP ⟨fun q => absurd rfl q, fun _ => congrArg nI (rt_kI_end hL (by rw [show i = cn by omega] at hI; exact hI))⟩ d_M_count_121
            · omega
          | succ n_24 ih_24 =>
            intro i c0 Z1 pf1 hrel_24 hI H locs ls hP hS hl
            have hD : va_D (mA a) (mw cI cZ a w h (fun p => rt_b (decide (Q p ≠ 0))) (fun p => nI (rt_g Q p)) (fun p => nI (rt_s Q p)) (fun i => nI (L i)) cn (nI (0)) kf (fun p => rt_b (Z1 p)) pf1) := m_D ha _ rfl
            have hLi : i < cn → L i < 6 * (w * h) := fun q => rt_ok_in hQ (hL.1 i q)
            refine lv_iload_n hx hb d_M_count_24 rfl (lv_at hl 3 rfl) ?_
            refine lv_aload_n hx hb d_M_count_25 rfl (lv_at hl 0 rfl) ?_
            refine va_get (D := D) (ci := 4) (v := .int (nI (cn))) (C := rn_M) (T := tf_M) (N := 12) hx hb hts in_M hown hK hP 0 rfl rfl 8 (by decide) (hts _ k_fieldLink_rn_M_52_rn_M_pieces_I) (fun _ h9 => h9) rfl d_M_count_26 ?_
            refine rw_cge (tgt := 120) hx hb d_M_count_29 (by decide) (by omega) (by omega) (fun c_29 => ?_) (fun c_29 => ?_)
            · omega
            · refine lv_aload_n hx hb d_M_count_32 rfl (lv_at hl 0 rfl) ?_
              refine va_get (D := D) (ci := 4) (v := .ref (a 5)) (C := rn_M) (T := tf_M) (N := 12) hx hb hts in_M hown hK hP 0 rfl rfl 7 (by decide) (hts _ k_fieldLink_rn_M_23_rn_M_list_I) (fun _ h9 => h9) rfl d_M_count_33 ?_
              refine lv_iload_n hx hb d_M_count_36 rfl (lv_at hl 3 rfl) ?_
              refine rw_iald (v := (nI (L i))) hx hb hK hP 5 0 rfl rfl (by omega) (by omega) (rfl) d_M_count_37 ?_
              refine lv_istore (lv' := [(4, .int (nI (L i))), (0, .ref (a 0)), (1, .int (nI (3))), (2, .int (nI (c0))), (3, .int (nI (i)))]) hx hb d_M_count_38 hl (by decide) rfl (fun ls hl => ?_)
              refine lv_iload_n hx hb d_M_count_40 rfl (lv_at hl 2 rfl) ?_
              refine rw_zeq (tgt := 89) hx hb d_M_count_41 (by decide) (by omega) (fun c_41 => ?_) (fun c_41 => ?_)
              · omega
              · refine lv_iload_n hx hb d_M_count_44 rfl (lv_at hl 2 rfl) ?_
                refine lv_iconst (v := (nI (1))) hx hb d_M_count_45 (by decide) ?_
                refine rw_cne (tgt := 59) hx hb d_M_count_46 (by decide) (by omega) (by omega) (fun c_46 => ?_) (fun c_46 => ?_)
                · refine lv_iload_n hx hb d_M_count_59 rfl (lv_at hl 2 rfl) ?_
                  refine lv_iconst (v := (nI (2))) hx hb d_M_count_60 (by decide) ?_
                  refine rw_cne (tgt := 74) hx hb d_M_count_61 (by decide) (by omega) (by omega) (fun c_61 => ?_) (fun c_61 => ?_)
                  · refine lv_iload_n hx hb d_M_count_74 rfl (lv_at hl 2 rfl) ?_
                    refine lv_iconst (v := (nI (3))) hx hb d_M_count_75 (by decide) ?_
                    refine rw_cne (tgt := 92) hx hb d_M_count_76 (by decide) (by omega) (by omega) (fun c_76 => ?_) (fun c_76 => ?_)
                    · omega
                    · refine lv_aload_n hx hb d_M_count_79 rfl (lv_at hl 1 rfl) ?_
                      refine va_get (D := D) (ci := 4) (v := .ref (a 7)) (C := rn_M) (T := tf_M) (N := 12) hx hb hts in_M hown hK hP 0 rfl rfl 10 (by decide) (hts _ k_fieldLink_rn_M_29_rn_M_reached_Z) (fun _ h9 => h9) rfl d_M_count_80 ?_
                      refine lv_iload hx hb d_M_count_83 (lv_at hl 0 rfl) ?_
                      refine rw_zald (v := (rt_b (Z1 (L i)))) hx hb hK hP 7 1 rfl rfl (by omega) (by omega) (rfl) d_M_count_85 ?_
                      refine rw_bne (tgt := 92) hx hb d_M_count_86 (by decide) (fun c_86 => ?_) (fun c_86 => ?_)
                      · refine lv_iload_n hx hb d_M_count_92 rfl (lv_at hl 2 rfl) ?_
                        refine lv_iconst (v := (nI (3))) hx hb d_M_count_93 (by decide) ?_
                        refine rw_cne (tgt := 114) hx hb d_M_count_94 (by decide) (by omega) (by omega) (fun c_94 => ?_) (fun c_94 => ?_)
                        · omega
                        · refine lv_aload_n hx hb d_M_count_97 rfl (lv_at hl 1 rfl) ?_
                          refine va_get (D := D) (ci := 4) (v := .ref (a 7)) (C := rn_M) (T := tf_M) (N := 12) hx hb hts in_M hown hK hP 0 rfl rfl 10 (by decide) (hts _ k_fieldLink_rn_M_29_rn_M_reached_Z) (fun _ h9 => h9) rfl d_M_count_98 ?_
                          refine lv_iload hx hb d_M_count_101 (lv_at hl 0 rfl) ?_
                          refine rw_zald (v := (rt_b (Z1 (L i)))) hx hb hK hP 7 1 rfl rfl (by omega) (by omega) (rfl) d_M_count_103 ?_
                          refine rw_bne (tgt := 114) hx hb d_M_count_104 (by decide) (fun c_104 => ?_) (fun c_104 => ?_)
                          · refine lv_iinc (v := (nI (i + 1))) (lv' := [(3, .int (nI (i + 1))), (4, .int (nI (L i))), (0, .ref (a 0)), (1, .int (nI (3))), (2, .int (nI (c0)))]) hx hb d_M_count_114 hl (k := 4) rfl (nI_add _ _) (by decide) rfl (fun ls hl => ?_)
                            refine lv_goto (tgt := 24) hx hb d_M_count_117 (by decide) ?_
                            exact ih_24 (i + 1) c0 Z1 pf1 (by omega) (rt_kI_skip (hL.1 i (by omega)) hI c_86) _ _ _ hP hS (lv_sub hl [2, 3, 4, 0] rfl)
                          · rw [c_86] at c_104; cases c_104
                      · refine lv_iinc (v := (nI (c0 + 1))) (lv' := [(2, .int (nI (c0 + 1))), (4, .int (nI (L i))), (0, .ref (a 0)), (1, .int (nI (3))), (3, .int (nI (i)))]) hx hb d_M_count_89 hl (k := 3) rfl (nI_add _ _) (by decide) rfl (fun ls hl => ?_)
                        refine lv_iload_n hx hb d_M_count_92 rfl (lv_at hl 3 rfl) ?_
                        refine lv_iconst (v := (nI (3))) hx hb d_M_count_93 (by decide) ?_
                        refine rw_cne (tgt := 114) hx hb d_M_count_94 (by decide) (by omega) (by omega) (fun c_94 => ?_) (fun c_94 => ?_)
                        · omega
                        · refine lv_aload_n hx hb d_M_count_97 rfl (lv_at hl 2 rfl) ?_
                          refine va_get (D := D) (ci := 4) (v := .ref (a 7)) (C := rn_M) (T := tf_M) (N := 12) hx hb hts in_M hown hK hP 0 rfl rfl 10 (by decide) (hts _ k_fieldLink_rn_M_29_rn_M_reached_Z) (fun _ h9 => h9) rfl d_M_count_98 ?_
                          refine lv_iload hx hb d_M_count_101 (lv_at hl 1 rfl) ?_
                          refine rw_zald (v := (rt_b (Z1 (L i)))) hx hb hK hP 7 1 rfl rfl (by omega) (by omega) (rfl) d_M_count_103 ?_
                          refine rw_bne (tgt := 114) hx hb d_M_count_104 (by decide) (fun c_104 => ?_) (fun c_104 => ?_)
                          · rw [c_86] at c_104; cases c_104
                          · refine lv_aload_n hx hb d_M_count_107 rfl (lv_at hl 2 rfl) ?_
                            refine lv_iload hx hb d_M_count_108 (lv_at hl 1 rfl) ?_
                            refine w_ci (As := [.int (nI (L i))]) (rest := []) ⟨hx, hb, hml, hown, hts⟩ (c_M_lowest l D cI cZ g a ha w h Q L cn (nI (0)) kf Z1 pf1 B (L i) hG hL (hB rfl) hI.1 c_86 (hL.1 i (by omega))) (cwV 1 hts (t_gV k_methodLink_rn_M_97_y_M_lowest k_instanceMethod_y_M_lowest k_selects_rn_M_y_M_lowest_y_M_lowest k_initialized_rn_M k_code_y_M_lowest_prog_6_method_24_code_7_some_int) rfl rfl rfl (by decide +kernel) ⟨Nat.le_of_ble_eq_true rfl, Nat.le_of_ble_eq_true rfl⟩) (va_recv hK hP (ci := 4) (q0 := 0) rfl rfl) hP hK hZ hS rfl hl.1 rfl (Nat.le_of_ble_eq_true rfl) d_M_count_110 ⟨Nat.zero_le _, Nat.zero_le _⟩ (fun r_110 u_110 H locs hw hP hS => ?_)
                            obtain ⟨Z2, pf2⟩ := u_110
                            obtain ⟨hw1, hw2, hw3⟩ := hw
                            have hP : va_P D vwCl (mw cI cZ a w h (fun p => rt_b (decide (Q p ≠ 0))) (fun p => nI (rt_g Q p)) (fun p => nI (rt_s Q p)) (fun i => nI (L i)) cn (nI (0)) kf (fun p => rt_b (Z2 p)) pf2) H := hP
                            have hD : va_D (mA a) (mw cI cZ a w h (fun p => rt_b (decide (Q p ≠ 0))) (fun p => nI (rt_g Q p)) (fun p => nI (rt_s Q p)) (fun i => nI (L i)) cn (nI (0)) kf (fun p => rt_b (Z2 p)) pf2) := m_D ha _ rfl
                            refine lv_pop hx hb d_M_count_113 rfl ?_
                            refine lv_iinc (v := (nI (i + 1))) (lv' := [(3, .int (nI (i + 1))), (2, .int (nI (c0 + 1))), (4, .int (nI (L i))), (0, .ref (a 0)), (1, .int (nI (3)))]) hx hb d_M_count_114 hl (k := 4) rfl (nI_add _ _) (by decide) rfl (fun ls hl => ?_)
                            refine lv_goto (tgt := 24) hx hb d_M_count_117 (by decide) ?_
                            exact ih_24 (i + 1) (c0 + 1) Z2 pf2 (by omega) (rt_kI_add hQ (hB rfl) (hL.1 i (by omega)) hI c_86 hw2 hw3) _ _ _ hP hS (lv_sub hl [3, 4, 1, 0] rfl)
                  · omega
                · omega
        exact LP_24 cn 0 0 _ _ (by omega) (rt_kI_0 Q w h B L) _ _ _ hP hS (lv_sub hl [2, 3, 1, 0] rfl)
    · refine lv_iconst (v := (-1)) hx hb d_M_count_14 (by decide) ?_
      exact w_iret (Z, pf) hx hb hr hlocks hS hP (by have h9 := rt_ge3 (x := x) (by first | exact Or.inl c_6 | exact Or.inr (rt_gt3 c_11)); exact ⟨fun _ => (rt_count_n h9.2).symm, fun q => absurd q h9.1⟩) d_M_count_15

set_option maxHeartbeats 4000000 in
set_option maxRecDepth 100000 in
theorem c_M_onward (l : Launch) (D : va_G) (cI cZ : ClassId) (g a : Nat → Nat) (ha : mI a) (w h : Nat) (Q L : Nat → Nat) (cn : Nat) (th : Int32) (kf : Nat → Int32) (Z : Nat → Bool) (pf : Nat → Int32) (K : Nat → Nat) (r : Nat) (hG : rt_G w h Q) (hr0 : r < 12 * (w * h)) (hKb : ∀ q, rt_op Q (w * h) q = true → K q ≤ rt_E) : Met l y_M_onward (.code y_M_onward b_M_onward 5 (some .int) :: tG) ({ frames := 3, cells := 0, slots := 0, locals := 67 }) (va_Pc [.ref (a 0), .int (nI (r))] (wU D cI cZ g (mA a) (mw cI cZ a w h (fun p => rt_b (decide (Q p ≠ 0))) (fun p => nI (rt_g Q p)) (fun p => nI (rt_s Q p)) (fun i => nI (L i)) cn th (fun q => nI (K q)) (fun p => rt_b (Z p)) pf))) (va_Qi (S := Unit) (fun x _ => x = nI (rt_on K (rt_nx Q w h r))) (wB D (fun (u : Unit) => (mw cI cZ a w h (fun p => rt_b (decide (Q p ≠ 0))) (fun p => nI (rt_g Q p)) (fun p => nI (rt_s Q p)) (fun i => nI (L i)) cn th (fun q => nI (K q)) (fun p => rt_b (Z p)) pf))) (mA a)) 0 0 (mA a) := by
  refine Met.ofW (cc := b_M_onward) (maxL := 5) (ret := (some .int)) (by decide) rfl ?_
  intro p e s m args below meth c s₁ BD9 hml hv
  obtain ⟨rfl, hP, hK, hZ⟩ := hv
  have hx := BD9.exec
  have hb := BD9.bytes
  have hr := BD9.returns
  have hts : ∀ w ∈ tG, w.before _ s = true := fun w hw => atoms_spec (ws := .code y_M_onward b_M_onward 5 (some .int) :: tG) BD9.pre w (List.mem_cons_of_mem _ hw)
  have hown : s.vm.findClass rn_M = some m.cls := findClass_of_methodNamed BD9.named
  have hlocks := BD9.notSynchronized
  have hS : va_S (mA a) s.heap s.heap [] := va_S.rf
  have hD : va_D (mA a) (mw cI cZ a w h (fun p => rt_b (decide (Q p ≠ 0))) (fun p => nI (rt_g Q p)) (fun p => nI (rt_s Q p)) (fun i => nI (L i)) cn th (fun q => nI (K q)) (fun p => rt_b (Z p)) pf) := m_D ha _ rfl
  have hP : va_P D vwCl (mw cI cZ a w h (fun p => rt_b (decide (Q p ≠ 0))) (fun p => nI (rt_g Q p)) (fun p => nI (rt_s Q p)) (fun i => nI (L i)) cn th (fun q => nI (K q)) (fun p => rt_b (Z p)) pf) s.heap := hP
  have hl := lv_entry ([.ref (a 0), .int (nI (r))]) (n := 5) (Nat.le_of_ble_eq_true rfl)
  rw [lg_entry_eq]
  generalize (lg_sl ([.ref (a 0), .int (nI (r))]) ++ List.replicate (5 - (lg_sl ([.ref (a 0), .int (nI (r))])).length) Slot.unset).toArray = ls at hl ⊢
  have hl : lv_has ls 5 [(0, .ref (a 0)), (1, .int (nI (r)))] := hl
  obtain ⟨hn1, hn⟩ := hG.n
  have hw0 : 0 < w := by have := hG.1.1; omega
  have hQ := hG.2.2
  refine lv_ldc (v := nI 1000000000) hx hb hown (hts _ k_constant_rn_M_106_1000000000) d_M_onward_0 ?_
  refine lv_istore_n (lv' := [(2, .int (nI (1000000000))), (0, .ref (a 0)), (1, .int (nI (r)))]) hx hb d_M_onward_2 rfl hl (by decide) rfl (fun ls hl => ?_)
  refine lv_iconst (v := (nI (0))) hx hb d_M_onward_3 (by decide) ?_
  refine lv_istore_n (lv' := [(3, .int (nI (0))), (2, .int (nI (1000000000))), (0, .ref (a 0)), (1, .int (nI (r)))]) hx hb d_M_onward_4 rfl hl (by decide) rfl (fun ls hl => ?_)
  have LP_5 : ∀ (n_5 : Nat) (i : Nat), i + n_5 = 6 → ∀ (H : Heap) (locs : List Loc) (ls : Array Slot), va_P D vwCl (mw cI cZ a w h (fun p => rt_b (decide (Q p ≠ 0))) (fun p => nI (rt_g Q p)) (fun p => nI (rt_s Q p)) (fun i => nI (L i)) cn th (fun q => nI (K q)) (fun p => rt_b (Z p)) pf) H → va_S (mA a) s.heap H locs → lv_has ls 5 [(0, .ref (a 0)), (1, .int (nI (r))), (2, .int (nI (rt_on K (rt_py Q w h r i)))), (3, .int (nI (i)))] → W p l e (headSpec (.code y_M_onward b_M_onward 5 (some .int) :: tG) ({ frames := 3, cells := 0, slots := 0, locals := 67 })).room s m ([.ref (a 0), .int (nI (r))] : List Value).toArray below meth c H locs 0 0 (MQ below (va_Qi (S := Unit) (fun x _ => x = nI (rt_on K (rt_nx Q w h r))) (wB D (fun (u : Unit) => (mw cI cZ a w h (fun p => rt_b (decide (Q p ≠ 0))) (fun p => nI (rt_g Q p)) (fun p => nI (rt_s Q p)) (fun i => nI (L i)) cn th (fun q => nI (K q)) (fun p => rt_b (Z p)) pf))) (mA a)) ([.ref (a 0), .int (nI (r))] : List Value).toArray s 0 0 (mA a)) (F0 m 5 ls []) := by
    intro n_5
    induction n_5 with
    | zero =>
      intro i hrel_5 H locs ls hP hS hl
      have hD : va_D (mA a) (mw cI cZ a w h (fun p => rt_b (decide (Q p ≠ 0))) (fun p => nI (rt_g Q p)) (fun p => nI (rt_s Q p)) (fun i => nI (L i)) cn th (fun q => nI (K q)) (fun p => rt_b (Z p)) pf) := m_D ha _ rfl
      have hon := (rt_on_le K (rt_py Q w h r i)).1
      unfold rt_E at hon
      refine lv_iload_n hx hb d_M_onward_5 rfl (lv_at hl 3 rfl) ?_
      refine lv_bipush (v := (nI (6))) hx hb d_M_onward_6 (by decide) ?_
      refine rw_cge (tgt := 74) hx hb d_M_onward_8 (by decide) (by omega) (by omega) (fun c_8 => ?_) (fun c_8 => ?_)
      · refine lv_iload_n hx hb d_M_onward_74 rfl (lv_at hl 2 rfl) ?_
        exact w_iret () hx hb hr hlocks hS hP (by rw [show i = 6 by omega, rt_py_6]) d_M_onward_75
      · omega
    | succ n_5 ih_5 =>
      intro i hrel_5 H locs ls hP hS hl
      have hD : va_D (mA a) (mw cI cZ a w h (fun p => rt_b (decide (Q p ≠ 0))) (fun p => nI (rt_g Q p)) (fun p => nI (rt_s Q p)) (fun i => nI (L i)) cn th (fun q => nI (K q)) (fun p => rt_b (Z p)) pf) := m_D ha _ rfl
      have hon := (rt_on_le K (rt_py Q w h r i)).1
      unfold rt_E at hon
      refine lv_iload_n hx hb d_M_onward_5 rfl (lv_at hl 3 rfl) ?_
      refine lv_bipush (v := (nI (6))) hx hb d_M_onward_6 (by decide) ?_
      refine rw_cge (tgt := 74) hx hb d_M_onward_8 (by decide) (by omega) (by omega) (fun c_8 => ?_) (fun c_8 => ?_)
      · omega
      · refine lv_aload_n hx hb d_M_onward_11 rfl (lv_at hl 0 rfl) ?_
        refine lv_iload_n hx hb d_M_onward_12 rfl (lv_at hl 1 rfl) ?_
        refine lv_iload_n hx hb d_M_onward_13 rfl (lv_at hl 3 rfl) ?_
        refine w_ci (As := [.int (nI (r)), .int (nI (i))]) (rest := []) ⟨hx, hb, hml, hown, hts⟩ (c_M_follower l D cI cZ g a ha w h Q L cn th (fun q => nI (K q)) Z pf r i hG hr0 (by omega)) (cwV 2 hts (t_gV k_methodLink_rn_M_78_y_M_follower k_instanceMethod_y_M_follower k_selects_rn_M_y_M_follower_y_M_follower k_initialized_rn_M k_code_y_M_follower_prog_6_method_18_code_6_some_int) rfl rfl rfl (by decide +kernel) ⟨Nat.le_of_ble_eq_true rfl, Nat.le_of_ble_eq_true rfl⟩) (va_recv hK hP (ci := 4) (q0 := 0) rfl rfl) hP hK hZ hS rfl hl.1 rfl (Nat.le_of_ble_eq_true rfl) d_M_onward_14 ⟨Nat.zero_le _, Nat.zero_le _⟩ (fun r_14 u_14 H locs hw hP hS => ?_)
        subst hw
        have hP : va_P D vwCl (mw cI cZ a w h (fun p => rt_b (decide (Q p ≠ 0))) (fun p => nI (rt_g Q p)) (fun p => nI (rt_s Q p)) (fun i => nI (L i)) cn th (fun q => nI (K q)) (fun p => rt_b (Z p)) pf) H := hP
        cases ho_17 : rt_fo Q w h r i with
        | none =>
          refine lv_istore (lv' := [(4, .int (-1)), (0, .ref (a 0)), (1, .int (nI (r))), (2, .int (nI (rt_on K (rt_py Q w h r i)))), (3, .int (nI (i)))]) hx hb d_M_onward_17 hl (by decide) rfl (fun ls hl => ?_)
          refine lv_iload hx hb d_M_onward_19 (lv_at hl 0 rfl) ?_
          refine lv_iconst (v := (-1)) hx hb d_M_onward_21 (by decide) ?_
          refine lv_icmp_eq (tgt := 68) hx hb d_M_onward_22 (by decide) (fun c_22 => ?_) (fun c_22 => ?_)
          · refine lv_iinc (v := (nI (i + 1))) (lv' := [(3, .int (nI (i + 1))), (4, .int (-1)), (0, .ref (a 0)), (1, .int (nI (r))), (2, .int (nI (rt_on K (rt_py Q w h r i))))]) hx hb d_M_onward_68 hl (k := 4) rfl (nI_add _ _) (by decide) rfl (fun ls hl => ?_)
            refine lv_goto (tgt := 5) hx hb d_M_onward_71 (by decide) ?_
            have hl : lv_has ls 5 [(3, .int (nI (i + 1))), (4, .int (-1)), (0, .ref (a 0)), (1, .int (nI (r))), (2, .int (nI (rt_on K (rt_py Q w h r (i + 1)))))] := by rw [rt_py_n ho_17]; exact hl
            exact ih_5 (i + 1) (by omega) _ _ _ hP hS (lv_sub hl [2, 3, 4, 0] rfl)
          · exact absurd rfl c_22
        | some b =>
          have hb9 := rt_fo_lt (show i < 6 by omega) ho_17
          have hkb := hKb b (rt_fo_k (show i < 6 by omega) ho_17).2.2
          unfold rt_E at hkb
          have hln := rt_ln_in b
          refine lv_istore (lv' := [(4, .int (nI (b))), (0, .ref (a 0)), (1, .int (nI (r))), (2, .int (nI (rt_on K (rt_py Q w h r i)))), (3, .int (nI (i)))]) hx hb d_M_onward_17 hl (by decide) rfl (fun ls hl => ?_)
          refine lv_iload hx hb d_M_onward_19 (lv_at hl 0 rfl) ?_
          refine lv_iconst (v := (-1)) hx hb d_M_onward_21 (by decide) ?_
          refine lv_icmp_eq (tgt := 68) hx hb d_M_onward_22 (by decide) (fun c_22 => ?_) (fun c_22 => ?_)
          · exact absurd c_22 (rt_o_ne _ (by omega))
          · refine lv_aload_n hx hb d_M_onward_25 rfl (lv_at hl 1 rfl) ?_
            refine va_get (D := D) (ci := 4) (v := .ref (a 6)) (C := rn_M) (T := tf_M) (N := 12) hx hb hts in_M hown hK hP 0 rfl rfl 9 (by decide) (hts _ k_fieldLink_rn_M_26_rn_M_cost_I) (fun _ h9 => h9) rfl d_M_onward_26 ?_
            refine lv_iload hx hb d_M_onward_29 (lv_at hl 0 rfl) ?_
            refine rw_iald (v := (nI (K b))) hx hb hK hP 6 0 rfl rfl (by omega) (by omega) (rfl) d_M_onward_31 ?_
            refine lv_ldc (v := nI 1000000000) hx hb hown (hts _ k_constant_rn_M_106_1000000000) d_M_onward_32 ?_
            refine rw_cge (tgt := 68) hx hb d_M_onward_34 (by decide) (by omega) (by omega) (fun c_34 => ?_) (fun c_34 => ?_)
            · refine lv_iinc (v := (nI (i + 1))) (lv' := [(3, .int (nI (i + 1))), (4, .int (nI (b))), (0, .ref (a 0)), (1, .int (nI (r))), (2, .int (nI (rt_on K (rt_py Q w h r i))))]) hx hb d_M_onward_68 hl (k := 4) rfl (nI_add _ _) (by decide) rfl (fun ls hl => ?_)
              refine lv_goto (tgt := 5) hx hb d_M_onward_71 (by decide) ?_
              have hl : lv_has ls 5 [(3, .int (nI (i + 1))), (4, .int (nI (b))), (0, .ref (a 0)), (1, .int (nI (r))), (2, .int (nI (rt_on K (rt_py Q w h r (i + 1)))))] := by rw [rt_py_s ho_17, rt_on_app, if_neg (by rintro ⟨q1, q2⟩; unfold rt_E at q1; omega)]; exact hl
              exact ih_5 (i + 1) (by omega) _ _ _ hP hS (lv_sub hl [2, 3, 4, 0] rfl)
            · refine lv_iload hx hb d_M_onward_37 (lv_at hl 0 rfl) ?_
              refine w_si (As := [.int (nI (b))]) (rest := []) ⟨hx, hb, hml, hown, hts⟩ (c_M_length l D cI cZ g a ha w h Q L cn th (fun q => nI (K q)) Z pf b hG hb9) (va_cwS 1 hts (t_gS k_methodLink_rn_M_107_y_M_length k_static_y_M_length k_initialized_rn_M k_code_y_M_length_prog_6_method_31_code_1_some_int) rfl rfl rfl (by decide +kernel) ⟨Nat.le_of_ble_eq_true rfl, Nat.le_of_ble_eq_true rfl⟩) hP hK hZ hS rfl hl.1 rfl (Nat.le_of_ble_eq_true rfl) d_M_onward_39 ⟨Nat.zero_le _, Nat.zero_le _⟩ (fun r_39 u_39 H locs hw hP hS => ?_)
              subst hw
              have hP : va_P D vwCl (mw cI cZ a w h (fun p => rt_b (decide (Q p ≠ 0))) (fun p => nI (rt_g Q p)) (fun p => nI (rt_s Q p)) (fun i => nI (L i)) cn th (fun q => nI (K q)) (fun p => rt_b (Z p)) pf) H := hP
              refine lv_aload_n hx hb d_M_onward_42 rfl (lv_at hl 1 rfl) ?_
              refine va_get (D := D) (ci := 4) (v := .ref (a 6)) (C := rn_M) (T := tf_M) (N := 12) hx hb hts in_M hown hK hP 0 rfl rfl 9 (by decide) (hts _ k_fieldLink_rn_M_26_rn_M_cost_I) (fun _ h9 => h9) rfl d_M_onward_43 ?_
              refine lv_iload hx hb d_M_onward_46 (lv_at hl 0 rfl) ?_
              refine rw_iald (v := (nI (K b))) hx hb hK hP 6 0 rfl rfl (by omega) (by omega) (rfl) d_M_onward_48 ?_
              refine rw_add hx hb d_M_onward_49 ?_
              refine lv_iload_n hx hb d_M_onward_50 rfl (lv_at hl 3 rfl) ?_
              refine rw_cge (tgt := 68) hx hb d_M_onward_51 (by decide) (by omega) (by omega) (fun c_51 => ?_) (fun c_51 => ?_)
              · refine lv_iinc (v := (nI (i + 1))) (lv' := [(3, .int (nI (i + 1))), (4, .int (nI (b))), (0, .ref (a 0)), (1, .int (nI (r))), (2, .int (nI (rt_on K (rt_py Q w h r i))))]) hx hb d_M_onward_68 hl (k := 4) rfl (nI_add _ _) (by decide) rfl (fun ls hl => ?_)
                refine lv_goto (tgt := 5) hx hb d_M_onward_71 (by decide) ?_
                have hl : lv_has ls 5 [(3, .int (nI (i + 1))), (4, .int (nI (b))), (0, .ref (a 0)), (1, .int (nI (r))), (2, .int (nI (rt_on K (rt_py Q w h r (i + 1)))))] := by rw [rt_py_s ho_17, rt_on_app, if_neg (by rintro ⟨q1, q2⟩; unfold rt_E at q1; omega)]; exact hl
                exact ih_5 (i + 1) (by omega) _ _ _ hP hS (lv_sub hl [2, 3, 4, 0] rfl)
              · refine lv_iload hx hb d_M_onward_54 (lv_at hl 0 rfl) ?_
                refine w_si (As := [.int (nI (b))]) (rest := []) ⟨hx, hb, hml, hown, hts⟩ (c_M_length l D cI cZ g a ha w h Q L cn th (fun q => nI (K q)) Z pf b hG hb9) (va_cwS 1 hts (t_gS k_methodLink_rn_M_107_y_M_length k_static_y_M_length k_initialized_rn_M k_code_y_M_length_prog_6_method_31_code_1_some_int) rfl rfl rfl (by decide +kernel) ⟨Nat.le_of_ble_eq_true rfl, Nat.le_of_ble_eq_true rfl⟩) hP hK hZ hS rfl hl.1 rfl (Nat.le_of_ble_eq_true rfl) d_M_onward_56 ⟨Nat.zero_le _, Nat.zero_le _⟩ (fun r_56 u_56 H locs hw hP hS => ?_)
                subst hw
                have hP : va_P D vwCl (mw cI cZ a w h (fun p => rt_b (decide (Q p ≠ 0))) (fun p => nI (rt_g Q p)) (fun p => nI (rt_s Q p)) (fun i => nI (L i)) cn th (fun q => nI (K q)) (fun p => rt_b (Z p)) pf) H := hP
                refine lv_aload_n hx hb d_M_onward_59 rfl (lv_at hl 1 rfl) ?_
                refine va_get (D := D) (ci := 4) (v := .ref (a 6)) (C := rn_M) (T := tf_M) (N := 12) hx hb hts in_M hown hK hP 0 rfl rfl 9 (by decide) (hts _ k_fieldLink_rn_M_26_rn_M_cost_I) (fun _ h9 => h9) rfl d_M_onward_60 ?_
                refine lv_iload hx hb d_M_onward_63 (lv_at hl 0 rfl) ?_
                refine rw_iald (v := (nI (K b))) hx hb hK hP 6 0 rfl rfl (by omega) (by omega) (rfl) d_M_onward_65 ?_
                refine rw_add hx hb d_M_onward_66 ?_
                refine lv_istore_n (lv' := [(2, .int (nI ((rt_ln b) + (K b)))), (4, .int (nI (b))), (0, .ref (a 0)), (1, .int (nI (r))), (3, .int (nI (i)))]) hx hb d_M_onward_67 rfl hl (by decide) rfl (fun ls hl => ?_)
                refine lv_iinc (v := (nI (i + 1))) (lv' := [(3, .int (nI (i + 1))), (2, .int (nI ((rt_ln b) + (K b)))), (4, .int (nI (b))), (0, .ref (a 0)), (1, .int (nI (r)))]) hx hb d_M_onward_68 hl (k := 4) rfl (nI_add _ _) (by decide) rfl (fun ls hl => ?_)
                refine lv_goto (tgt := 5) hx hb d_M_onward_71 (by decide) ?_
                have hl : lv_has ls 5 [(3, .int (nI (i + 1))), (2, .int (nI (rt_on K (rt_py Q w h r (i + 1))))), (4, .int (nI (b))), (0, .ref (a 0)), (1, .int (nI (r)))] := by rw [rt_py_s ho_17, rt_on_app, if_pos ⟨by unfold rt_E; omega, by omega⟩]; exact hl
                exact ih_5 (i + 1) (by omega) _ _ _ hP hS (lv_sub hl [3, 4, 1, 0] rfl)
  exact LP_5 6 0 (by omega) _ _ _ hP hS (lv_sub hl [2, 3, 1, 0] rfl)

set_option maxHeartbeats 4000000 in
set_option maxRecDepth 100000 in
theorem c_M_reckon (l : Launch) (D : va_G) (cI cZ : ClassId) (g a : Nat → Nat) (ha : mI a) (w h : Nat) (Q L : Nat → Nat) (cn : Nat) (th : Int32) (kf : Nat → Int32) (Z : Nat → Bool) (pf : Nat → Int32) (C : Nat → Option Nat) (z : Nat) (hG : rt_G w h Q) (hL : rt_isL Q L cn) (hz : z < 8) (hC : rt_isC Q w h z C) (hsm : rt_small C) : Met l y_M_reckon (.code y_M_reckon b_M_reckon 7 none :: tG) ({ frames := 4, cells := 0, slots := 0, locals := 91 }) (va_Pc [.ref (a 0), .int (nI (z))] (wU D cI cZ g (mA a) (mw cI cZ a w h (fun p => rt_b (decide (Q p ≠ 0))) (fun p => nI (rt_g Q p)) (fun p => nI (rt_s Q p)) (fun i => nI (L i)) cn th kf (fun p => rt_b (Z p)) pf))) (va_Qv (S := (Nat → Nat)) (fun u => ∀ r, rt_op Q (w * h) r = true → u r = rt_cE (C r)) (wB D (fun (u : (Nat → Nat)) => (mw cI cZ a w h (fun p => rt_b (decide (Q p ≠ 0))) (fun p => nI (rt_g Q p)) (fun p => nI (rt_s Q p)) (fun i => nI (L i)) cn th (fun q => nI (u q)) (fun p => rt_b (Z p)) pf))) (mA a)) 0 0 (mA a) := by
  refine Met.ofW (cc := b_M_reckon) (maxL := 7) (ret := none) (by decide) rfl ?_
  intro p e s m args below meth c s₁ BD9 hml hv
  obtain ⟨rfl, hP, hK, hZ⟩ := hv
  have hx := BD9.exec
  have hb := BD9.bytes
  have hr := BD9.returns
  have hts : ∀ w ∈ tG, w.before _ s = true := fun w hw => atoms_spec (ws := .code y_M_reckon b_M_reckon 7 none :: tG) BD9.pre w (List.mem_cons_of_mem _ hw)
  have hown : s.vm.findClass rn_M = some m.cls := findClass_of_methodNamed BD9.named
  have hlocks := BD9.notSynchronized
  have hS : va_S (mA a) s.heap s.heap [] := va_S.rf
  have hD : va_D (mA a) (mw cI cZ a w h (fun p => rt_b (decide (Q p ≠ 0))) (fun p => nI (rt_g Q p)) (fun p => nI (rt_s Q p)) (fun i => nI (L i)) cn th kf (fun p => rt_b (Z p)) pf) := m_D ha _ rfl
  have hP : va_P D vwCl (mw cI cZ a w h (fun p => rt_b (decide (Q p ≠ 0))) (fun p => nI (rt_g Q p)) (fun p => nI (rt_s Q p)) (fun i => nI (L i)) cn th kf (fun p => rt_b (Z p)) pf) s.heap := hP
  have hl := lv_entry ([.ref (a 0), .int (nI (z))]) (n := 7) (Nat.le_of_ble_eq_true rfl)
  rw [lg_entry_eq]
  generalize (lg_sl ([.ref (a 0), .int (nI (z))]) ++ List.replicate (7 - (lg_sl ([.ref (a 0), .int (nI (z))])).length) Slot.unset).toArray = ls at hl ⊢
  have hl : lv_has ls 7 [(0, .ref (a 0)), (1, .int (nI (z)))] := hl
  obtain ⟨hn1, hn⟩ := hG.n
  have hw0 : 0 < w := by have := hG.1.1; omega
  have hQ := hG.2.2
  have hcn := rt_isL_cap hQ hL
  obtain ⟨K0, rfl⟩ := rt_rN kf
  refine lv_iconst (v := (nI (0))) hx hb d_M_reckon_0 (by decide) ?_
  refine lv_istore_n (lv' := [(2, .int (nI (0))), (0, .ref (a 0)), (1, .int (nI (z)))]) hx hb d_M_reckon_1 rfl hl (by decide) rfl (fun ls hl => ?_)
  have LP_2 : ∀ (n_2 : Nat) (i : Nat) (K : Nat → Nat), i + n_2 = cn → (rt_rI Q w h z L cn (2 * i) K) → ∀ (H : Heap) (locs : List Loc) (ls : Array Slot), va_P D vwCl (mw cI cZ a w h (fun p => rt_b (decide (Q p ≠ 0))) (fun p => nI (rt_g Q p)) (fun p => nI (rt_s Q p)) (fun i => nI (L i)) cn th (fun q => nI (K q)) (fun p => rt_b (Z p)) pf) H → va_S (mA a) s.heap H locs → lv_has ls 7 [(0, .ref (a 0)), (1, .int (nI (z))), (2, .int (nI (i)))] → W p l e (headSpec (.code y_M_reckon b_M_reckon 7 none :: tG) ({ frames := 4, cells := 0, slots := 0, locals := 91 })).room s m ([.ref (a 0), .int (nI (z))] : List Value).toArray below meth c H locs 0 0 (MQ below (va_Qv (S := (Nat → Nat)) (fun u => ∀ r, rt_op Q (w * h) r = true → u r = rt_cE (C r)) (wB D (fun (u : (Nat → Nat)) => (mw cI cZ a w h (fun p => rt_b (decide (Q p ≠ 0))) (fun p => nI (rt_g Q p)) (fun p => nI (rt_s Q p)) (fun i => nI (L i)) cn th (fun q => nI (u q)) (fun p => rt_b (Z p)) pf))) (mA a)) ([.ref (a 0), .int (nI (z))] : List Value).toArray s 0 0 (mA a)) (F0 m 2 ls []) := by
    intro n_2
    induction n_2 with
    | zero =>
      intro i K hrel_2 hI H locs ls hP hS hl
      have hD : va_D (mA a) (mw cI cZ a w h (fun p => rt_b (decide (Q p ≠ 0))) (fun p => nI (rt_g Q p)) (fun p => nI (rt_s Q p)) (fun i => nI (L i)) cn th (fun q => nI (K q)) (fun p => rt_b (Z p)) pf) := m_D ha _ rfl
      have hLi : i < cn → L i < 6 * (w * h) := fun q => rt_ok_in hQ (hL.1 i q)
      refine lv_iload_n hx hb d_M_reckon_2 rfl (lv_at hl 2 rfl) ?_
      refine lv_aload_n hx hb d_M_reckon_3 rfl (lv_at hl 0 rfl) ?_
      refine va_get (D := D) (ci := 4) (v := .int (nI (cn))) (C := rn_M) (T := tf_M) (N := 12) hx hb hts in_M hown hK hP 0 rfl rfl 8 (by decide) (hts _ k_fieldLink_rn_M_52_rn_M_pieces_I) (fun _ h9 => h9) rfl d_M_reckon_4 ?_
      refine rw_cge (tgt := 68) hx hb d_M_reckon_7 (by decide) (by omega) (by omega) (fun c_7 => ?_) (fun c_7 => ?_)
      · refine lv_iconst (v := (nI (1))) hx hb d_M_reckon_68 (by decide) ?_
        refine lv_istore_n (lv' := [(2, .int (nI (1))), (0, .ref (a 0)), (1, .int (nI (z)))]) hx hb d_M_reckon_69 rfl hl (by decide) rfl (fun ls hl => ?_)
        have hlb := rt_rI_end hL hC hsm (by rw [show i = cn by omega] at hI; exact hI)
        have LP_70 : ∀ (n_70 : Nat) (K : Nat → Nat) (mo : Bool), rt_sum K (12 * (w * h)) + (if mo = true then 1 else 0) ≤ n_70 → (rt_lb Q w h z C K) → (mo = false → ∀ r, rt_op Q (w * h) r = true → K r ≠ 0 → K r ≤ rt_on K (rt_nx Q w h r)) → ∀ (H : Heap) (locs : List Loc) (ls : Array Slot), va_P D vwCl (mw cI cZ a w h (fun p => rt_b (decide (Q p ≠ 0))) (fun p => nI (rt_g Q p)) (fun p => nI (rt_s Q p)) (fun i => nI (L i)) cn th (fun q => nI (K q)) (fun p => rt_b (Z p)) pf) H → va_S (mA a) s.heap H locs → lv_has ls 7 [(0, .ref (a 0)), (1, .int (nI (z))), (2, .int (rt_b (mo)))] → W p l e (headSpec (.code y_M_reckon b_M_reckon 7 none :: tG) ({ frames := 4, cells := 0, slots := 0, locals := 91 })).room s m ([.ref (a 0), .int (nI (z))] : List Value).toArray below meth c H locs 0 0 (MQ below (va_Qv (S := (Nat → Nat)) (fun u => ∀ r, rt_op Q (w * h) r = true → u r = rt_cE (C r)) (wB D (fun (u : (Nat → Nat)) => (mw cI cZ a w h (fun p => rt_b (decide (Q p ≠ 0))) (fun p => nI (rt_g Q p)) (fun p => nI (rt_s Q p)) (fun i => nI (L i)) cn th (fun q => nI (u q)) (fun p => rt_b (Z p)) pf))) (mA a)) ([.ref (a 0), .int (nI (z))] : List Value).toArray s 0 0 (mA a)) (F0 m 70 ls []) := by
          intro n_70
          induction n_70 with
          | zero =>
            intro K mo hrel_70 hlb hfix H locs ls hP hS hl
            have hD : va_D (mA a) (mw cI cZ a w h (fun p => rt_b (decide (Q p ≠ 0))) (fun p => nI (rt_g Q p)) (fun p => nI (rt_s Q p)) (fun i => nI (L i)) cn th (fun q => nI (K q)) (fun p => rt_b (Z p)) pf) := m_D ha _ rfl
            refine lv_iload_n hx hb d_M_reckon_70 rfl (lv_at hl 2 rfl) ?_
            refine rw_beq (tgt := 206) hx hb d_M_reckon_71 (by decide) (fun c_71 => ?_) (fun c_71 => ?_)
            · exact w_vret K hx hb hr hlocks hS hP (fun r9 h9 => rt_lb_end hC hsm hlb (hfix c_71) h9) d_M_reckon_206
            · rw [if_pos c_71] at hrel_70; omega
          | succ n_70 ih_70 =>
            intro K mo hrel_70 hlb hfix H locs ls hP hS hl
            have hD : va_D (mA a) (mw cI cZ a w h (fun p => rt_b (decide (Q p ≠ 0))) (fun p => nI (rt_g Q p)) (fun p => nI (rt_s Q p)) (fun i => nI (L i)) cn th (fun q => nI (K q)) (fun p => rt_b (Z p)) pf) := m_D ha _ rfl
            refine lv_iload_n hx hb d_M_reckon_70 rfl (lv_at hl 2 rfl) ?_
            refine rw_beq (tgt := 206) hx hb d_M_reckon_71 (by decide) (fun c_71 => ?_) (fun c_71 => ?_)
            · exact w_vret K hx hb hr hlocks hS hP (fun r9 h9 => rt_lb_end hC hsm hlb (hfix c_71) h9) d_M_reckon_206
            · refine lv_iconst (v := (nI (0))) hx hb d_M_reckon_74 (by decide) ?_
              refine lv_istore_n (lv' := [(2, .int (nI (0))), (0, .ref (a 0)), (1, .int (nI (z)))]) hx hb d_M_reckon_75 rfl hl (by decide) rfl (fun ls hl => ?_)
              refine lv_iconst (v := (nI (0))) hx hb d_M_reckon_76 (by decide) ?_
              refine lv_istore_n (lv' := [(3, .int (nI (0))), (2, .int (nI (0))), (0, .ref (a 0)), (1, .int (nI (z)))]) hx hb d_M_reckon_77 rfl hl (by decide) rfl (fun ls hl => ?_)
              have LP_78 : ∀ (n_78 : Nat) (i : Nat) (K1 : Nat → Nat) (mo1 : Bool), i + n_78 = cn → (rt_oI Q w h z C L cn K K1 mo1 (2 * i)) → ∀ (H : Heap) (locs : List Loc) (ls : Array Slot), va_P D vwCl (mw cI cZ a w h (fun p => rt_b (decide (Q p ≠ 0))) (fun p => nI (rt_g Q p)) (fun p => nI (rt_s Q p)) (fun i => nI (L i)) cn th (fun q => nI (K1 q)) (fun p => rt_b (Z p)) pf) H → va_S (mA a) s.heap H locs → lv_has ls 7 [(0, .ref (a 0)), (1, .int (nI (z))), (2, .int (rt_b (mo1))), (3, .int (nI (i)))] → W p l e (headSpec (.code y_M_reckon b_M_reckon 7 none :: tG) ({ frames := 4, cells := 0, slots := 0, locals := 91 })).room s m ([.ref (a 0), .int (nI (z))] : List Value).toArray below meth c H locs 0 0 (MQ below (va_Qv (S := (Nat → Nat)) (fun u => ∀ r, rt_op Q (w * h) r = true → u r = rt_cE (C r)) (wB D (fun (u : (Nat → Nat)) => (mw cI cZ a w h (fun p => rt_b (decide (Q p ≠ 0))) (fun p => nI (rt_g Q p)) (fun p => nI (rt_s Q p)) (fun i => nI (L i)) cn th (fun q => nI (u q)) (fun p => rt_b (Z p)) pf))) (mA a)) ([.ref (a 0), .int (nI (z))] : List Value).toArray s 0 0 (mA a)) (F0 m 78 ls []) := by
                intro n_78
                induction n_78 with
                | zero =>
                  intro i K1 mo1 hrel_78 hO H locs ls hP hS hl
                  have hD : va_D (mA a) (mw cI cZ a w h (fun p => rt_b (decide (Q p ≠ 0))) (fun p => nI (rt_g Q p)) (fun p => nI (rt_s Q p)) (fun i => nI (L i)) cn th (fun q => nI (K1 q)) (fun p => rt_b (Z p)) pf) := m_D ha _ rfl
                  have hLi : i < cn → L i < 6 * (w * h) := fun q => rt_ok_in hQ (hL.1 i q)
                  refine lv_iload_n hx hb d_M_reckon_78 rfl (lv_at hl 3 rfl) ?_
                  refine lv_aload_n hx hb d_M_reckon_79 rfl (lv_at hl 0 rfl) ?_
                  refine va_get (D := D) (ci := 4) (v := .int (nI (cn))) (C := rn_M) (T := tf_M) (N := 12) hx hb hts in_M hown hK hP 0 rfl rfl 8 (by decide) (hts _ k_fieldLink_rn_M_52_rn_M_pieces_I) (fun _ h9 => h9) rfl d_M_reckon_80 ?_
                  refine rw_cge (tgt := 203) hx hb d_M_reckon_83 (by decide) (by omega) (by omega) (fun c_83 => ?_) (fun c_83 => ?_)
                  · refine lv_goto (tgt := 70) hx hb d_M_reckon_203 (by decide) ?_
                    exact ih_70 K1 mo1 (by have h9 := hO.2.1; rw [if_pos c_71] at hrel_70; omega) hO.1 (fun q9 => by subst q9; exact rt_oI_fix hL (by rw [show i = cn by omega] at hO; exact hO)) _ _ _ hP hS (lv_sub hl [0, 1, 2] rfl)
                  · omega
                | succ n_78 ih_78 =>
                  intro i K1 mo1 hrel_78 hO H locs ls hP hS hl
                  have hD : va_D (mA a) (mw cI cZ a w h (fun p => rt_b (decide (Q p ≠ 0))) (fun p => nI (rt_g Q p)) (fun p => nI (rt_s Q p)) (fun i => nI (L i)) cn th (fun q => nI (K1 q)) (fun p => rt_b (Z p)) pf) := m_D ha _ rfl
                  have hLi : i < cn → L i < 6 * (w * h) := fun q => rt_ok_in hQ (hL.1 i q)
                  refine lv_iload_n hx hb d_M_reckon_78 rfl (lv_at hl 3 rfl) ?_
                  refine lv_aload_n hx hb d_M_reckon_79 rfl (lv_at hl 0 rfl) ?_
                  refine va_get (D := D) (ci := 4) (v := .int (nI (cn))) (C := rn_M) (T := tf_M) (N := 12) hx hb hts in_M hown hK hP 0 rfl rfl 8 (by decide) (hts _ k_fieldLink_rn_M_52_rn_M_pieces_I) (fun _ h9 => h9) rfl d_M_reckon_80 ?_
                  refine rw_cge (tgt := 203) hx hb d_M_reckon_83 (by decide) (by omega) (by omega) (fun c_83 => ?_) (fun c_83 => ?_)
                  · omega
                  · refine lv_iconst (v := (nI (0))) hx hb d_M_reckon_86 (by decide) ?_
                    refine lv_istore (lv' := [(4, .int (nI (0))), (0, .ref (a 0)), (1, .int (nI (z))), (2, .int (rt_b (mo1))), (3, .int (nI (i)))]) hx hb d_M_reckon_87 hl (by decide) rfl (fun ls hl => ?_)
                    have LP_89 : ∀ (n_89 : Nat) (d : Nat) (K1 : Nat → Nat) (mo1 : Bool), d + n_89 = 2 → (rt_oI Q w h z C L cn K K1 mo1 (2 * i + d)) → ∀ (H : Heap) (locs : List Loc) (ls : Array Slot), va_P D vwCl (mw cI cZ a w h (fun p => rt_b (decide (Q p ≠ 0))) (fun p => nI (rt_g Q p)) (fun p => nI (rt_s Q p)) (fun i => nI (L i)) cn th (fun q => nI (K1 q)) (fun p => rt_b (Z p)) pf) H → va_S (mA a) s.heap H locs → lv_has ls 7 [(0, .ref (a 0)), (1, .int (nI (z))), (2, .int (rt_b (mo1))), (3, .int (nI (i))), (4, .int (nI (d)))] → W p l e (headSpec (.code y_M_reckon b_M_reckon 7 none :: tG) ({ frames := 4, cells := 0, slots := 0, locals := 91 })).room s m ([.ref (a 0), .int (nI (z))] : List Value).toArray below meth c H locs 0 0 (MQ below (va_Qv (S := (Nat → Nat)) (fun u => ∀ r, rt_op Q (w * h) r = true → u r = rt_cE (C r)) (wB D (fun (u : (Nat → Nat)) => (mw cI cZ a w h (fun p => rt_b (decide (Q p ≠ 0))) (fun p => nI (rt_g Q p)) (fun p => nI (rt_s Q p)) (fun i => nI (L i)) cn th (fun q => nI (u q)) (fun p => rt_b (Z p)) pf))) (mA a)) ([.ref (a 0), .int (nI (z))] : List Value).toArray s 0 0 (mA a)) (F0 m 89 ls []) := by
                      intro n_89
                      induction n_89 with
                      | zero =>
                        intro d K1 mo1 hrel_89 hO2 H locs ls hP hS hl
                        have hD : va_D (mA a) (mw cI cZ a w h (fun p => rt_b (decide (Q p ≠ 0))) (fun p => nI (rt_g Q p)) (fun p => nI (rt_s Q p)) (fun i => nI (L i)) cn th (fun q => nI (K1 q)) (fun p => rt_b (Z p)) pf) := m_D ha _ rfl
                        refine lv_iload hx hb d_M_reckon_89 (lv_at hl 4 rfl) ?_
                        refine lv_iconst (v := (nI (2))) hx hb d_M_reckon_91 (by decide) ?_
                        refine rw_cge (tgt := 197) hx hb d_M_reckon_92 (by decide) (by omega) (by omega) (fun c_92 => ?_) (fun c_92 => ?_)
                        · refine lv_iinc (v := (nI (i + 1))) (lv' := [(3, .int (nI (i + 1))), (0, .ref (a 0)), (1, .int (nI (z))), (2, .int (rt_b (mo1))), (4, .int (nI (d)))]) hx hb d_M_reckon_197 hl (k := 3) rfl (nI_add _ _) (by decide) rfl (fun ls hl => ?_)
                          refine lv_goto (tgt := 78) hx hb d_M_reckon_200 (by decide) ?_
                          exact ih_78 (i + 1) K1 mo1 (by omega) (by rw [show 2 * (i + 1) = 2 * i + d by omega]; exact hO2) _ _ _ hP hS (lv_sub hl [1, 2, 3, 0] rfl)
                        · omega
                      | succ n_89 ih_89 =>
                        intro d K1 mo1 hrel_89 hO2 H locs ls hP hS hl
                        have hD : va_D (mA a) (mw cI cZ a w h (fun p => rt_b (decide (Q p ≠ 0))) (fun p => nI (rt_g Q p)) (fun p => nI (rt_s Q p)) (fun i => nI (L i)) cn th (fun q => nI (K1 q)) (fun p => rt_b (Z p)) pf) := m_D ha _ rfl
                        refine lv_iload hx hb d_M_reckon_89 (lv_at hl 4 rfl) ?_
                        refine lv_iconst (v := (nI (2))) hx hb d_M_reckon_91 (by decide) ?_
                        refine rw_cge (tgt := 197) hx hb d_M_reckon_92 (by decide) (by omega) (by omega) (fun c_92 => ?_) (fun c_92 => ?_)
                        · omega
                        · refine lv_iconst (v := (nI (2))) hx hb d_M_reckon_95 (by decide) ?_
                          refine lv_aload_n hx hb d_M_reckon_96 rfl (lv_at hl 0 rfl) ?_
                          refine va_get (D := D) (ci := 4) (v := .ref (a 5)) (C := rn_M) (T := tf_M) (N := 12) hx hb hts in_M hown hK hP 0 rfl rfl 7 (by decide) (hts _ k_fieldLink_rn_M_23_rn_M_list_I) (fun _ h9 => h9) rfl d_M_reckon_97 ?_
                          refine lv_iload_n hx hb d_M_reckon_100 rfl (lv_at hl 3 rfl) ?_
                          refine rw_iald (v := (nI (L i))) hx hb hK hP 5 0 rfl rfl (by omega) (by omega) (rfl) d_M_reckon_101 ?_
                          refine rw_mul hx hb d_M_reckon_102 ?_
                          refine lv_iload hx hb d_M_reckon_103 (lv_at hl 4 rfl) ?_
                          refine rw_add hx hb d_M_reckon_105 ?_
                          refine lv_istore (lv' := [(5, .int (nI ((2 * (L i)) + d))), (0, .ref (a 0)), (1, .int (nI (z))), (2, .int (rt_b (mo1))), (3, .int (nI (i))), (4, .int (nI (d)))]) hx hb d_M_reckon_106 hl (by decide) rfl (fun ls hl => ?_)
                          refine lv_aload_n hx hb d_M_reckon_108 rfl (lv_at hl 1 rfl) ?_
                          refine lv_iload hx hb d_M_reckon_109 (lv_at hl 0 rfl) ?_
                          refine w_ci (As := [.int (nI ((2 * (L i)) + d))]) (rest := []) ⟨hx, hb, hml, hown, hts⟩ (c_M_isOpen l D cI cZ g a ha w h Q L cn th (fun q => nI (K1 q)) Z pf (nI (2 * L i + d)) hG) (cwV 1 hts (t_gV k_methodLink_rn_M_75_y_M_isOpen k_instanceMethod_y_M_isOpen k_selects_rn_M_y_M_isOpen_y_M_isOpen k_initialized_rn_M k_code_y_M_isOpen_prog_6_method_13_code_2_some_boolean) rfl rfl rfl (by decide +kernel) ⟨Nat.le_of_ble_eq_true rfl, Nat.le_of_ble_eq_true rfl⟩) (va_recv hK hP (ci := 4) (q0 := 0) rfl rfl) hP hK hZ hS rfl hl.1 rfl (Nat.le_of_ble_eq_true rfl) d_M_reckon_111 ⟨Nat.zero_le _, Nat.zero_le _⟩ (fun r_111 u_111 H locs hw hP hS => ?_)
                          subst hw
                          have hP : va_P D vwCl (mw cI cZ a w h (fun p => rt_b (decide (Q p ≠ 0))) (fun p => nI (rt_g Q p)) (fun p => nI (rt_s Q p)) (fun i => nI (L i)) cn th (fun q => nI (K1 q)) (fun p => rt_b (Z p)) pf) H := hP
                          rw [rt_opx_s (by omega) (by omega)]
                          refine rw_beq (tgt := 191) hx hb d_M_reckon_114 (by decide) (fun c_114 => ?_) (fun c_114 => ?_)
                          · refine lv_iinc (v := (nI (d + 1))) (lv' := [(4, .int (nI (d + 1))), (5, .int (nI ((2 * (L i)) + d))), (0, .ref (a 0)), (1, .int (nI (z))), (2, .int (rt_b (mo1))), (3, .int (nI (i)))]) hx hb d_M_reckon_191 hl (k := 5) rfl (nI_add _ _) (by decide) rfl (fun ls hl => ?_)
                            refine lv_goto (tgt := 89) hx hb d_M_reckon_194 (by decide) ?_
                            exact ih_89 (d + 1) K1 mo1 (by omega) (rt_oI_skip hO2 (by omega) (fun _ q9 _ => by rw [q9] at c_114; cases c_114)) _ _ _ hP hS (lv_sub hl [2, 3, 4, 5, 0] rfl)
                          · have hkb := rt_lb_le hO2.1 (2 * L i + d) c_114
                            unfold rt_E at hkb
                            refine lv_aload_n hx hb d_M_reckon_117 rfl (lv_at hl 1 rfl) ?_
                            refine va_get (D := D) (ci := 4) (v := .ref (a 6)) (C := rn_M) (T := tf_M) (N := 12) hx hb hts in_M hown hK hP 0 rfl rfl 9 (by decide) (hts _ k_fieldLink_rn_M_26_rn_M_cost_I) (fun _ h9 => h9) rfl d_M_reckon_118 ?_
                            refine lv_iload hx hb d_M_reckon_121 (lv_at hl 0 rfl) ?_
                            refine rw_iald (v := (nI (K1 (2 * L i + d)))) hx hb hK hP 6 0 rfl rfl (by omega) (by omega) (rfl) d_M_reckon_123 ?_
                            refine rw_zne (tgt := 130) hx hb d_M_reckon_124 (by decide) (by omega) (fun c_124 => ?_) (fun c_124 => ?_)
                            · refine lv_aload_n hx hb d_M_reckon_130 rfl (lv_at hl 1 rfl) ?_
                              refine lv_iload hx hb d_M_reckon_131 (lv_at hl 0 rfl) ?_
                              refine w_ci (As := [.int (nI ((2 * (L i)) + d))]) (rest := []) ⟨hx, hb, hml, hown, hts⟩ (c_M_onward l D cI cZ g a ha w h Q L cn th (fun q => nI (K1 q)) Z pf K1 (2 * L i + d) hG (by omega) (rt_lb_le hO2.1)) (cwV 1 hts (t_gV k_methodLink_rn_M_110_y_M_onward k_instanceMethod_y_M_onward k_selects_rn_M_y_M_onward_y_M_onward k_initialized_rn_M k_code_y_M_onward_prog_6_method_32_code_5_some_int) rfl rfl rfl (by decide +kernel) ⟨Nat.le_of_ble_eq_true rfl, Nat.le_of_ble_eq_true rfl⟩) (va_recv hK hP (ci := 4) (q0 := 0) rfl rfl) hP hK hZ hS rfl hl.1 rfl (Nat.le_of_ble_eq_true rfl) d_M_reckon_133 ⟨Nat.zero_le _, Nat.zero_le _⟩ (fun r_133 u_133 H locs hw hP hS => ?_)
                              subst hw
                              have hP : va_P D vwCl (mw cI cZ a w h (fun p => rt_b (decide (Q p ≠ 0))) (fun p => nI (rt_g Q p)) (fun p => nI (rt_s Q p)) (fun i => nI (L i)) cn th (fun q => nI (K1 q)) (fun p => rt_b (Z p)) pf) H := hP
                              have hon := (rt_on_le K1 (rt_nx Q w h (2 * L i + d))).1
                              unfold rt_E at hon
                              refine lv_istore (lv' := [(6, .int (nI (rt_on K1 (rt_nx Q w h (2 * L i + d))))), (5, .int (nI ((2 * (L i)) + d))), (0, .ref (a 0)), (1, .int (nI (z))), (2, .int (rt_b (mo1))), (3, .int (nI (i))), (4, .int (nI (d)))]) hx hb d_M_reckon_136 hl (by decide) rfl (fun ls hl => ?_)
                              refine lv_iload_n hx hb d_M_reckon_138 rfl (lv_at hl 4 rfl) ?_
                              refine rw_bne (tgt := 154) hx hb d_M_reckon_139 (by decide) (fun c_139 => ?_) (fun c_139 => ?_)
                              · refine lv_iconst (v := (nI (1))) hx hb d_M_reckon_154 (by decide) ?_
                                refine lv_goto (tgt := 159) hx hb d_M_reckon_155 (by decide) ?_
                                refine lv_istore_n (lv' := [(2, .int (nI (1))), (6, .int (nI (rt_on K1 (rt_nx Q w h (2 * L i + d))))), (5, .int (nI ((2 * (L i)) + d))), (0, .ref (a 0)), (1, .int (nI (z))), (3, .int (nI (i))), (4, .int (nI (d)))]) hx hb d_M_reckon_159 rfl hl (by decide) rfl (fun ls hl => ?_)
                                refine lv_aload_n hx hb d_M_reckon_160 rfl (lv_at hl 3 rfl) ?_
                                refine va_get (D := D) (ci := 4) (v := .ref (a 6)) (C := rn_M) (T := tf_M) (N := 12) hx hb hts in_M hown hK hP 0 rfl rfl 9 (by decide) (hts _ k_fieldLink_rn_M_26_rn_M_cost_I) (fun _ h9 => h9) rfl d_M_reckon_161 ?_
                                refine lv_iload hx hb d_M_reckon_164 (lv_at hl 2 rfl) ?_
                                refine lv_iload hx hb d_M_reckon_166 (lv_at hl 1 rfl) ?_
                                refine lv_aload_n hx hb d_M_reckon_168 rfl (lv_at hl 3 rfl) ?_
                                refine va_get (D := D) (ci := 4) (v := .ref (a 6)) (C := rn_M) (T := tf_M) (N := 12) hx hb hts in_M hown hK hP 0 rfl rfl 9 (by decide) (hts _ k_fieldLink_rn_M_26_rn_M_cost_I) (fun _ h9 => h9) rfl d_M_reckon_169 ?_
                                refine lv_iload hx hb d_M_reckon_172 (lv_at hl 2 rfl) ?_
                                refine rw_iald (v := (nI (K1 (2 * L i + d)))) hx hb hK hP 6 0 rfl rfl (by omega) (by omega) (rfl) d_M_reckon_174 ?_
                                refine rw_cge (tgt := 183) hx hb d_M_reckon_175 (by decide) (by omega) (by omega) (fun c_175 => ?_) (fun c_175 => ?_)
                                · refine lv_aload_n hx hb d_M_reckon_183 rfl (lv_at hl 3 rfl) ?_
                                  refine va_get (D := D) (ci := 4) (v := .ref (a 6)) (C := rn_M) (T := tf_M) (N := 12) hx hb hts in_M hown hK hP 0 rfl rfl 9 (by decide) (hts _ k_fieldLink_rn_M_26_rn_M_cost_I) (fun _ h9 => h9) rfl d_M_reckon_184 ?_
                                  refine lv_iload hx hb d_M_reckon_187 (lv_at hl 2 rfl) ?_
                                  refine rw_iald (v := (nI (K1 (2 * L i + d)))) hx hb hK hP 6 0 rfl rfl (by omega) (by omega) (rfl) d_M_reckon_189 ?_
                                  refine rw_iast (h := (fun q => nI (K1 q))) hx hb hK hP hD hS 6 0 rfl rfl (by omega) (by omega) (fun j _ => rt_upd_id K1 (2 * L i + d) j) d_M_reckon_190 (fun H locs hP hD hS => ?_)
                                  have hP : va_P D vwCl (mw cI cZ a w h (fun p => rt_b (decide (Q p ≠ 0))) (fun p => nI (rt_g Q p)) (fun p => nI (rt_s Q p)) (fun i => nI (L i)) cn th (fun q => nI (K1 q)) (fun p => rt_b (Z p)) pf) H := hP
                                  have hD : va_D (mA a) (mw cI cZ a w h (fun p => rt_b (decide (Q p ≠ 0))) (fun p => nI (rt_g Q p)) (fun p => nI (rt_s Q p)) (fun i => nI (L i)) cn th (fun q => nI (K1 q)) (fun p => rt_b (Z p)) pf) := m_D ha _ rfl
                                  refine lv_iinc (v := (nI (d + 1))) (lv' := [(4, .int (nI (d + 1))), (2, .int (nI (1))), (6, .int (nI (rt_on K1 (rt_nx Q w h (2 * L i + d))))), (5, .int (nI ((2 * (L i)) + d))), (0, .ref (a 0)), (1, .int (nI (z))), (3, .int (nI (i)))]) hx hb d_M_reckon_191 hl (k := 6) rfl (nI_add _ _) (by decide) rfl (fun ls hl => ?_)
                                  refine lv_goto (tgt := 89) hx hb d_M_reckon_194 (by decide) ?_
                                  exact ih_89 (d + 1) K1 true (by omega) (rt_oI_more (by rw [c_139] at hO2; exact hO2)) _ _ _ hP hS (lv_sub hl [4, 5, 1, 6, 0] rfl)
                                · refine lv_iload hx hb d_M_reckon_178 (lv_at hl 1 rfl) ?_
                                  refine lv_goto (tgt := 190) hx hb d_M_reckon_180 (by decide) ?_
                                  refine rw_iast (h := (fun q => nI (va_up K1 (2 * L i + d) (rt_on K1 (rt_nx Q w h (2 * L i + d))) q))) hx hb hK hP hD hS 6 0 rfl rfl (by omega) (by omega) (fun j _ => rt_upd K1 (2 * L i + d) (rt_on K1 (rt_nx Q w h (2 * L i + d))) j) d_M_reckon_190 (fun H locs hP hD hS => ?_)
                                  have hP : va_P D vwCl (mw cI cZ a w h (fun p => rt_b (decide (Q p ≠ 0))) (fun p => nI (rt_g Q p)) (fun p => nI (rt_s Q p)) (fun i => nI (L i)) cn th (fun q => nI (va_up K1 (2 * L i + d) (rt_on K1 (rt_nx Q w h (2 * L i + d))) q)) (fun p => rt_b (Z p)) pf) H := hP
                                  have hD : va_D (mA a) (mw cI cZ a w h (fun p => rt_b (decide (Q p ≠ 0))) (fun p => nI (rt_g Q p)) (fun p => nI (rt_s Q p)) (fun i => nI (L i)) cn th (fun q => nI (va_up K1 (2 * L i + d) (rt_on K1 (rt_nx Q w h (2 * L i + d))) q)) (fun p => rt_b (Z p)) pf) := m_D ha _ rfl
                                  refine lv_iinc (v := (nI (d + 1))) (lv' := [(4, .int (nI (d + 1))), (2, .int (nI (1))), (6, .int (nI (rt_on K1 (rt_nx Q w h (2 * L i + d))))), (5, .int (nI ((2 * (L i)) + d))), (0, .ref (a 0)), (1, .int (nI (z))), (3, .int (nI (i)))]) hx hb d_M_reckon_191 hl (k := 6) rfl (nI_add _ _) (by decide) rfl (fun ls hl => ?_)
                                  refine lv_goto (tgt := 89) hx hb d_M_reckon_194 (by decide) ?_
                                  exact ih_89 (d + 1) (va_up K1 (2 * L i + d) (rt_on K1 (rt_nx Q w h (2 * L i + d)))) true (by omega) (rt_oI_fall hC hsm hO2 c_114 c_124 (by omega) _) _ _ _ hP hS (lv_sub hl [4, 5, 1, 6, 0] rfl)
                              · refine lv_iload hx hb d_M_reckon_142 (lv_at hl 0 rfl) ?_
                                refine lv_aload_n hx hb d_M_reckon_144 rfl (lv_at hl 2 rfl) ?_
                                refine va_get (D := D) (ci := 4) (v := .ref (a 6)) (C := rn_M) (T := tf_M) (N := 12) hx hb hts in_M hown hK hP 0 rfl rfl 9 (by decide) (hts _ k_fieldLink_rn_M_26_rn_M_cost_I) (fun _ h9 => h9) rfl d_M_reckon_145 ?_
                                refine lv_iload hx hb d_M_reckon_148 (lv_at hl 1 rfl) ?_
                                refine rw_iald (v := (nI (K1 (2 * L i + d)))) hx hb hK hP 6 0 rfl rfl (by omega) (by omega) (rfl) d_M_reckon_150 ?_
                                refine rw_cge (tgt := 158) hx hb d_M_reckon_151 (by decide) (by omega) (by omega) (fun c_151 => ?_) (fun c_151 => ?_)
                                · refine lv_iconst (v := (nI (0))) hx hb d_M_reckon_158 (by decide) ?_
                                  refine lv_istore_n (lv' := [(2, .int (nI (0))), (6, .int (nI (rt_on K1 (rt_nx Q w h (2 * L i + d))))), (5, .int (nI ((2 * (L i)) + d))), (0, .ref (a 0)), (1, .int (nI (z))), (3, .int (nI (i))), (4, .int (nI (d)))]) hx hb d_M_reckon_159 rfl hl (by decide) rfl (fun ls hl => ?_)
                                  refine lv_aload_n hx hb d_M_reckon_160 rfl (lv_at hl 3 rfl) ?_
                                  refine va_get (D := D) (ci := 4) (v := .ref (a 6)) (C := rn_M) (T := tf_M) (N := 12) hx hb hts in_M hown hK hP 0 rfl rfl 9 (by decide) (hts _ k_fieldLink_rn_M_26_rn_M_cost_I) (fun _ h9 => h9) rfl d_M_reckon_161 ?_
                                  refine lv_iload hx hb d_M_reckon_164 (lv_at hl 2 rfl) ?_
                                  refine lv_iload hx hb d_M_reckon_166 (lv_at hl 1 rfl) ?_
                                  refine lv_aload_n hx hb d_M_reckon_168 rfl (lv_at hl 3 rfl) ?_
                                  refine va_get (D := D) (ci := 4) (v := .ref (a 6)) (C := rn_M) (T := tf_M) (N := 12) hx hb hts in_M hown hK hP 0 rfl rfl 9 (by decide) (hts _ k_fieldLink_rn_M_26_rn_M_cost_I) (fun _ h9 => h9) rfl d_M_reckon_169 ?_
                                  refine lv_iload hx hb d_M_reckon_172 (lv_at hl 2 rfl) ?_
                                  refine rw_iald (v := (nI (K1 (2 * L i + d)))) hx hb hK hP 6 0 rfl rfl (by omega) (by omega) (rfl) d_M_reckon_174 ?_
                                  refine rw_cge (tgt := 183) hx hb d_M_reckon_175 (by decide) (by omega) (by omega) (fun c_175 => ?_) (fun c_175 => ?_)
                                  · refine lv_aload_n hx hb d_M_reckon_183 rfl (lv_at hl 3 rfl) ?_
                                    refine va_get (D := D) (ci := 4) (v := .ref (a 6)) (C := rn_M) (T := tf_M) (N := 12) hx hb hts in_M hown hK hP 0 rfl rfl 9 (by decide) (hts _ k_fieldLink_rn_M_26_rn_M_cost_I) (fun _ h9 => h9) rfl d_M_reckon_184 ?_
                                    refine lv_iload hx hb d_M_reckon_187 (lv_at hl 2 rfl) ?_
                                    refine rw_iald (v := (nI (K1 (2 * L i + d)))) hx hb hK hP 6 0 rfl rfl (by omega) (by omega) (rfl) d_M_reckon_189 ?_
                                    refine rw_iast (h := (fun q => nI (K1 q))) hx hb hK hP hD hS 6 0 rfl rfl (by omega) (by omega) (fun j _ => rt_upd_id K1 (2 * L i + d) j) d_M_reckon_190 (fun H locs hP hD hS => ?_)
                                    have hP : va_P D vwCl (mw cI cZ a w h (fun p => rt_b (decide (Q p ≠ 0))) (fun p => nI (rt_g Q p)) (fun p => nI (rt_s Q p)) (fun i => nI (L i)) cn th (fun q => nI (K1 q)) (fun p => rt_b (Z p)) pf) H := hP
                                    have hD : va_D (mA a) (mw cI cZ a w h (fun p => rt_b (decide (Q p ≠ 0))) (fun p => nI (rt_g Q p)) (fun p => nI (rt_s Q p)) (fun i => nI (L i)) cn th (fun q => nI (K1 q)) (fun p => rt_b (Z p)) pf) := m_D ha _ rfl
                                    refine lv_iinc (v := (nI (d + 1))) (lv' := [(4, .int (nI (d + 1))), (2, .int (nI (0))), (6, .int (nI (rt_on K1 (rt_nx Q w h (2 * L i + d))))), (5, .int (nI ((2 * (L i)) + d))), (0, .ref (a 0)), (1, .int (nI (z))), (3, .int (nI (i)))]) hx hb d_M_reckon_191 hl (k := 6) rfl (nI_add _ _) (by decide) rfl (fun ls hl => ?_)
                                    refine lv_goto (tgt := 89) hx hb d_M_reckon_194 (by decide) ?_
                                    exact ih_89 (d + 1) K1 false (by omega) (rt_oI_skip (by rw [c_139] at hO2; exact hO2) (by omega) (fun _ _ _ => by omega)) _ _ _ hP hS (lv_sub hl [4, 5, 1, 6, 0] rfl)
                                  · omega
                                · refine lv_iconst (v := (nI (1))) hx hb d_M_reckon_154 (by decide) ?_
                                  refine lv_goto (tgt := 159) hx hb d_M_reckon_155 (by decide) ?_
                                  refine lv_istore_n (lv' := [(2, .int (nI (1))), (6, .int (nI (rt_on K1 (rt_nx Q w h (2 * L i + d))))), (5, .int (nI ((2 * (L i)) + d))), (0, .ref (a 0)), (1, .int (nI (z))), (3, .int (nI (i))), (4, .int (nI (d)))]) hx hb d_M_reckon_159 rfl hl (by decide) rfl (fun ls hl => ?_)
                                  refine lv_aload_n hx hb d_M_reckon_160 rfl (lv_at hl 3 rfl) ?_
                                  refine va_get (D := D) (ci := 4) (v := .ref (a 6)) (C := rn_M) (T := tf_M) (N := 12) hx hb hts in_M hown hK hP 0 rfl rfl 9 (by decide) (hts _ k_fieldLink_rn_M_26_rn_M_cost_I) (fun _ h9 => h9) rfl d_M_reckon_161 ?_
                                  refine lv_iload hx hb d_M_reckon_164 (lv_at hl 2 rfl) ?_
                                  refine lv_iload hx hb d_M_reckon_166 (lv_at hl 1 rfl) ?_
                                  refine lv_aload_n hx hb d_M_reckon_168 rfl (lv_at hl 3 rfl) ?_
                                  refine va_get (D := D) (ci := 4) (v := .ref (a 6)) (C := rn_M) (T := tf_M) (N := 12) hx hb hts in_M hown hK hP 0 rfl rfl 9 (by decide) (hts _ k_fieldLink_rn_M_26_rn_M_cost_I) (fun _ h9 => h9) rfl d_M_reckon_169 ?_
                                  refine lv_iload hx hb d_M_reckon_172 (lv_at hl 2 rfl) ?_
                                  refine rw_iald (v := (nI (K1 (2 * L i + d)))) hx hb hK hP 6 0 rfl rfl (by omega) (by omega) (rfl) d_M_reckon_174 ?_
                                  refine rw_cge (tgt := 183) hx hb d_M_reckon_175 (by decide) (by omega) (by omega) (fun c_175 => ?_) (fun c_175 => ?_)
                                  · omega
                                  · refine lv_iload hx hb d_M_reckon_178 (lv_at hl 1 rfl) ?_
                                    refine lv_goto (tgt := 190) hx hb d_M_reckon_180 (by decide) ?_
                                    refine rw_iast (h := (fun q => nI (va_up K1 (2 * L i + d) (rt_on K1 (rt_nx Q w h (2 * L i + d))) q))) hx hb hK hP hD hS 6 0 rfl rfl (by omega) (by omega) (fun j _ => rt_upd K1 (2 * L i + d) (rt_on K1 (rt_nx Q w h (2 * L i + d))) j) d_M_reckon_190 (fun H locs hP hD hS => ?_)
                                    have hP : va_P D vwCl (mw cI cZ a w h (fun p => rt_b (decide (Q p ≠ 0))) (fun p => nI (rt_g Q p)) (fun p => nI (rt_s Q p)) (fun i => nI (L i)) cn th (fun q => nI (va_up K1 (2 * L i + d) (rt_on K1 (rt_nx Q w h (2 * L i + d))) q)) (fun p => rt_b (Z p)) pf) H := hP
                                    have hD : va_D (mA a) (mw cI cZ a w h (fun p => rt_b (decide (Q p ≠ 0))) (fun p => nI (rt_g Q p)) (fun p => nI (rt_s Q p)) (fun i => nI (L i)) cn th (fun q => nI (va_up K1 (2 * L i + d) (rt_on K1 (rt_nx Q w h (2 * L i + d))) q)) (fun p => rt_b (Z p)) pf) := m_D ha _ rfl
                                    refine lv_iinc (v := (nI (d + 1))) (lv' := [(4, .int (nI (d + 1))), (2, .int (nI (1))), (6, .int (nI (rt_on K1 (rt_nx Q w h (2 * L i + d))))), (5, .int (nI ((2 * (L i)) + d))), (0, .ref (a 0)), (1, .int (nI (z))), (3, .int (nI (i)))]) hx hb d_M_reckon_191 hl (k := 6) rfl (nI_add _ _) (by decide) rfl (fun ls hl => ?_)
                                    refine lv_goto (tgt := 89) hx hb d_M_reckon_194 (by decide) ?_
                                    exact ih_89 (d + 1) (va_up K1 (2 * L i + d) (rt_on K1 (rt_nx Q w h (2 * L i + d)))) true (by omega) (rt_oI_fall hC hsm hO2 c_114 c_124 (by omega) _) _ _ _ hP hS (lv_sub hl [4, 5, 1, 6, 0] rfl)
                            · refine lv_goto (tgt := 191) hx hb d_M_reckon_127 (by decide) ?_
                              refine lv_iinc (v := (nI (d + 1))) (lv' := [(4, .int (nI (d + 1))), (5, .int (nI ((2 * (L i)) + d))), (0, .ref (a 0)), (1, .int (nI (z))), (2, .int (rt_b (mo1))), (3, .int (nI (i)))]) hx hb d_M_reckon_191 hl (k := 5) rfl (nI_add _ _) (by decide) rfl (fun ls hl => ?_)
                              refine lv_goto (tgt := 89) hx hb d_M_reckon_194 (by decide) ?_
                              exact ih_89 (d + 1) K1 mo1 (by omega) (rt_oI_skip hO2 (by omega) (fun _ _ q9 => absurd c_124 q9)) _ _ _ hP hS (lv_sub hl [2, 3, 4, 5, 0] rfl)
                    exact LP_89 2 0 K1 mo1 (by omega) hO _ _ _ hP hS (lv_sub hl [1, 2, 3, 4, 0] rfl)
              exact LP_78 cn 0 K false (by omega) (rt_oI_0 hlb) _ _ _ hP hS (lv_sub hl [2, 3, 1, 0] rfl)
        exact LP_70 (rt_sum K (12 * (w * h)) + 1) K true (by simp) hlb (fun q => by cases q) _ _ _ hP hS (lv_sub hl [1, 2, 0] rfl)
      · omega
    | succ n_2 ih_2 =>
      intro i K hrel_2 hI H locs ls hP hS hl
      have hD : va_D (mA a) (mw cI cZ a w h (fun p => rt_b (decide (Q p ≠ 0))) (fun p => nI (rt_g Q p)) (fun p => nI (rt_s Q p)) (fun i => nI (L i)) cn th (fun q => nI (K q)) (fun p => rt_b (Z p)) pf) := m_D ha _ rfl
      have hLi : i < cn → L i < 6 * (w * h) := fun q => rt_ok_in hQ (hL.1 i q)
      refine lv_iload_n hx hb d_M_reckon_2 rfl (lv_at hl 2 rfl) ?_
      refine lv_aload_n hx hb d_M_reckon_3 rfl (lv_at hl 0 rfl) ?_
      refine va_get (D := D) (ci := 4) (v := .int (nI (cn))) (C := rn_M) (T := tf_M) (N := 12) hx hb hts in_M hown hK hP 0 rfl rfl 8 (by decide) (hts _ k_fieldLink_rn_M_52_rn_M_pieces_I) (fun _ h9 => h9) rfl d_M_reckon_4 ?_
      refine rw_cge (tgt := 68) hx hb d_M_reckon_7 (by decide) (by omega) (by omega) (fun c_7 => ?_) (fun c_7 => ?_)
      · omega
      · refine lv_iconst (v := (nI (0))) hx hb d_M_reckon_10 (by decide) ?_
        refine lv_istore_n (lv' := [(3, .int (nI (0))), (0, .ref (a 0)), (1, .int (nI (z))), (2, .int (nI (i)))]) hx hb d_M_reckon_11 rfl hl (by decide) rfl (fun ls hl => ?_)
        have LP_12 : ∀ (n_12 : Nat) (d : Nat) (K : Nat → Nat), d + n_12 = 2 → (rt_rI Q w h z L cn (2 * i + d) K) → ∀ (H : Heap) (locs : List Loc) (ls : Array Slot), va_P D vwCl (mw cI cZ a w h (fun p => rt_b (decide (Q p ≠ 0))) (fun p => nI (rt_g Q p)) (fun p => nI (rt_s Q p)) (fun i => nI (L i)) cn th (fun q => nI (K q)) (fun p => rt_b (Z p)) pf) H → va_S (mA a) s.heap H locs → lv_has ls 7 [(0, .ref (a 0)), (1, .int (nI (z))), (2, .int (nI (i))), (3, .int (nI (d)))] → W p l e (headSpec (.code y_M_reckon b_M_reckon 7 none :: tG) ({ frames := 4, cells := 0, slots := 0, locals := 91 })).room s m ([.ref (a 0), .int (nI (z))] : List Value).toArray below meth c H locs 0 0 (MQ below (va_Qv (S := (Nat → Nat)) (fun u => ∀ r, rt_op Q (w * h) r = true → u r = rt_cE (C r)) (wB D (fun (u : (Nat → Nat)) => (mw cI cZ a w h (fun p => rt_b (decide (Q p ≠ 0))) (fun p => nI (rt_g Q p)) (fun p => nI (rt_s Q p)) (fun i => nI (L i)) cn th (fun q => nI (u q)) (fun p => rt_b (Z p)) pf))) (mA a)) ([.ref (a 0), .int (nI (z))] : List Value).toArray s 0 0 (mA a)) (F0 m 12 ls []) := by
          intro n_12
          induction n_12 with
          | zero =>
            intro d K hrel_12 hI2 H locs ls hP hS hl
            have hD : va_D (mA a) (mw cI cZ a w h (fun p => rt_b (decide (Q p ≠ 0))) (fun p => nI (rt_g Q p)) (fun p => nI (rt_s Q p)) (fun i => nI (L i)) cn th (fun q => nI (K q)) (fun p => rt_b (Z p)) pf) := m_D ha _ rfl
            refine lv_iload_n hx hb d_M_reckon_12 rfl (lv_at hl 3 rfl) ?_
            refine lv_iconst (v := (nI (2))) hx hb d_M_reckon_13 (by decide) ?_
            refine rw_cge (tgt := 62) hx hb d_M_reckon_14 (by decide) (by omega) (by omega) (fun c_14 => ?_) (fun c_14 => ?_)
            · refine lv_iinc (v := (nI (i + 1))) (lv' := [(2, .int (nI (i + 1))), (0, .ref (a 0)), (1, .int (nI (z))), (3, .int (nI (d)))]) hx hb d_M_reckon_62 hl (k := 2) rfl (nI_add _ _) (by decide) rfl (fun ls hl => ?_)
              refine lv_goto (tgt := 2) hx hb d_M_reckon_65 (by decide) ?_
              exact ih_2 (i + 1) K (by omega) (by rw [show 2 * (i + 1) = 2 * i + d by omega]; exact hI2) _ _ _ hP hS (lv_sub hl [1, 2, 0] rfl)
            · omega
          | succ n_12 ih_12 =>
            intro d K hrel_12 hI2 H locs ls hP hS hl
            have hD : va_D (mA a) (mw cI cZ a w h (fun p => rt_b (decide (Q p ≠ 0))) (fun p => nI (rt_g Q p)) (fun p => nI (rt_s Q p)) (fun i => nI (L i)) cn th (fun q => nI (K q)) (fun p => rt_b (Z p)) pf) := m_D ha _ rfl
            refine lv_iload_n hx hb d_M_reckon_12 rfl (lv_at hl 3 rfl) ?_
            refine lv_iconst (v := (nI (2))) hx hb d_M_reckon_13 (by decide) ?_
            refine rw_cge (tgt := 62) hx hb d_M_reckon_14 (by decide) (by omega) (by omega) (fun c_14 => ?_) (fun c_14 => ?_)
            · omega
            · refine lv_aload_n hx hb d_M_reckon_17 rfl (lv_at hl 0 rfl) ?_
              refine va_get (D := D) (ci := 4) (v := .ref (a 6)) (C := rn_M) (T := tf_M) (N := 12) hx hb hts in_M hown hK hP 0 rfl rfl 9 (by decide) (hts _ k_fieldLink_rn_M_26_rn_M_cost_I) (fun _ h9 => h9) rfl d_M_reckon_18 ?_
              refine lv_iconst (v := (nI (2))) hx hb d_M_reckon_21 (by decide) ?_
              refine lv_aload_n hx hb d_M_reckon_22 rfl (lv_at hl 0 rfl) ?_
              refine va_get (D := D) (ci := 4) (v := .ref (a 5)) (C := rn_M) (T := tf_M) (N := 12) hx hb hts in_M hown hK hP 0 rfl rfl 7 (by decide) (hts _ k_fieldLink_rn_M_23_rn_M_list_I) (fun _ h9 => h9) rfl d_M_reckon_23 ?_
              refine lv_iload_n hx hb d_M_reckon_26 rfl (lv_at hl 2 rfl) ?_
              refine rw_iald (v := (nI (L i))) hx hb hK hP 5 0 rfl rfl (by omega) (by omega) (rfl) d_M_reckon_27 ?_
              refine rw_mul hx hb d_M_reckon_28 ?_
              refine lv_iload_n hx hb d_M_reckon_29 rfl (lv_at hl 3 rfl) ?_
              refine rw_add hx hb d_M_reckon_30 ?_
              refine lv_aload_n hx hb d_M_reckon_31 rfl (lv_at hl 0 rfl) ?_
              refine lv_iconst (v := (nI (2))) hx hb d_M_reckon_32 (by decide) ?_
              refine lv_aload_n hx hb d_M_reckon_33 rfl (lv_at hl 0 rfl) ?_
              refine va_get (D := D) (ci := 4) (v := .ref (a 5)) (C := rn_M) (T := tf_M) (N := 12) hx hb hts in_M hown hK hP 0 rfl rfl 7 (by decide) (hts _ k_fieldLink_rn_M_23_rn_M_list_I) (fun _ h9 => h9) rfl d_M_reckon_34 ?_
              refine lv_iload_n hx hb d_M_reckon_37 rfl (lv_at hl 2 rfl) ?_
              refine rw_iald (v := (nI (L i))) hx hb hK hP 5 0 rfl rfl (by omega) (by omega) (rfl) d_M_reckon_38 ?_
              refine rw_mul hx hb d_M_reckon_39 ?_
              refine lv_iload_n hx hb d_M_reckon_40 rfl (lv_at hl 3 rfl) ?_
              refine rw_add hx hb d_M_reckon_41 ?_
              refine lv_iload_n hx hb d_M_reckon_42 rfl (lv_at hl 1 rfl) ?_
              refine w_ci (As := [.int (nI ((2 * (L i)) + d)), .int (nI (z))]) (rest := [.int (nI ((2 * (L i)) + d)), .ref (a 6)]) ⟨hx, hb, hml, hown, hts⟩ (c_M_target l D cI cZ g a ha w h Q L cn th (fun q => nI (K q)) Z pf (nI (2 * L i + d)) (nI z) hG) (cwV 2 hts (t_gV k_methodLink_rn_M_103_y_M_target k_instanceMethod_y_M_target k_selects_rn_M_y_M_target_y_M_target k_initialized_rn_M k_code_y_M_target_prog_6_method_29_code_5_some_boolean) rfl rfl rfl (by decide +kernel) ⟨Nat.le_of_ble_eq_true rfl, Nat.le_of_ble_eq_true rfl⟩) (va_recv hK hP (ci := 4) (q0 := 0) rfl rfl) hP hK hZ hS rfl hl.1 rfl (Nat.le_of_ble_eq_true rfl) d_M_reckon_43 ⟨Nat.zero_le _, Nat.zero_le _⟩ (fun r_43 u_43 H locs hw hP hS => ?_)
              rw [rt_isT_tg (by omega) (by omega) hz] at hw
              subst hw
              have hP : va_P D vwCl (mw cI cZ a w h (fun p => rt_b (decide (Q p ≠ 0))) (fun p => nI (rt_g Q p)) (fun p => nI (rt_s Q p)) (fun i => nI (L i)) cn th (fun q => nI (K q)) (fun p => rt_b (Z p)) pf) H := hP
              refine rw_beq (tgt := 53) hx hb d_M_reckon_46 (by decide) (fun c_46 => ?_) (fun c_46 => ?_)
              · refine lv_ldc (v := nI 1000000000) hx hb hown (hts _ k_constant_rn_M_106_1000000000) d_M_reckon_53 ?_
                refine rw_iast (h := (fun q => nI (va_up K (2 * L i + d) 1000000000 q))) hx hb hK hP hD hS 6 0 rfl rfl (by omega) (by omega) (fun j _ => rt_upd K (2 * L i + d) 1000000000 j) d_M_reckon_55 (fun H locs hP hD hS => ?_)
                have hP : va_P D vwCl (mw cI cZ a w h (fun p => rt_b (decide (Q p ≠ 0))) (fun p => nI (rt_g Q p)) (fun p => nI (rt_s Q p)) (fun i => nI (L i)) cn th (fun q => nI (va_up K (2 * L i + d) 1000000000 q)) (fun p => rt_b (Z p)) pf) H := hP
                have hD : va_D (mA a) (mw cI cZ a w h (fun p => rt_b (decide (Q p ≠ 0))) (fun p => nI (rt_g Q p)) (fun p => nI (rt_s Q p)) (fun i => nI (L i)) cn th (fun q => nI (va_up K (2 * L i + d) 1000000000 q)) (fun p => rt_b (Z p)) pf) := m_D ha _ rfl
                refine lv_iinc (v := (nI (d + 1))) (lv' := [(3, .int (nI (d + 1))), (0, .ref (a 0)), (1, .int (nI (z))), (2, .int (nI (i)))]) hx hb d_M_reckon_56 hl (k := 3) rfl (nI_add _ _) (by decide) rfl (fun ls hl => ?_)
                refine lv_goto (tgt := 12) hx hb d_M_reckon_59 (by decide) ?_
                exact ih_12 (d + 1) (va_up K (2 * L i + d) 1000000000) (by omega) (rt_rI_s hL (by omega) (by omega) hI2 (by rw [if_neg (by rw [c_46]; simp)]; rfl)) _ _ _ hP hS (lv_sub hl [1, 2, 3, 0] rfl)
              · refine lv_iconst (v := (nI (0))) hx hb d_M_reckon_49 (by decide) ?_
                refine lv_goto (tgt := 55) hx hb d_M_reckon_50 (by decide) ?_
                refine rw_iast (h := (fun q => nI (va_up K (2 * L i + d) 0 q))) hx hb hK hP hD hS 6 0 rfl rfl (by omega) (by omega) (fun j _ => rt_upd K (2 * L i + d) 0 j) d_M_reckon_55 (fun H locs hP hD hS => ?_)
                have hP : va_P D vwCl (mw cI cZ a w h (fun p => rt_b (decide (Q p ≠ 0))) (fun p => nI (rt_g Q p)) (fun p => nI (rt_s Q p)) (fun i => nI (L i)) cn th (fun q => nI (va_up K (2 * L i + d) 0 q)) (fun p => rt_b (Z p)) pf) H := hP
                have hD : va_D (mA a) (mw cI cZ a w h (fun p => rt_b (decide (Q p ≠ 0))) (fun p => nI (rt_g Q p)) (fun p => nI (rt_s Q p)) (fun i => nI (L i)) cn th (fun q => nI (va_up K (2 * L i + d) 0 q)) (fun p => rt_b (Z p)) pf) := m_D ha _ rfl
                refine lv_iinc (v := (nI (d + 1))) (lv' := [(3, .int (nI (d + 1))), (0, .ref (a 0)), (1, .int (nI (z))), (2, .int (nI (i)))]) hx hb d_M_reckon_56 hl (k := 3) rfl (nI_add _ _) (by decide) rfl (fun ls hl => ?_)
                refine lv_goto (tgt := 12) hx hb d_M_reckon_59 (by decide) ?_
                exact ih_12 (d + 1) (va_up K (2 * L i + d) 0) (by omega) (rt_rI_s hL (by omega) (by omega) hI2 (by rw [if_pos c_46])) _ _ _ hP hS (lv_sub hl [1, 2, 3, 0] rfl)
        exact LP_12 2 0 K (by omega) hI _ _ _ hP hS (lv_sub hl [1, 2, 3, 0] rfl)
  exact LP_2 cn 0 K0 (by omega) (fun j e9 _ _ h9 => absurd h9 (Nat.not_lt_zero _)) _ _ _ hP hS (lv_sub hl [1, 2, 0] rfl)

set_option maxHeartbeats 4000000 in
set_option maxRecDepth 100000 in
theorem c_M_cost (l : Launch) (D : va_G) (cI cZ : ClassId) (g a : Nat → Nat) (ha : mI a) (w h : Nat) (Q L : Nat → Nat) (cn : Nat) (th : Int32) (kf : Nat → Int32) (Z : Nat → Bool) (pf : Nat → Int32) (x y : Int32) (C : Nat → Option Nat) (hG : rt_G w h Q) (hL : rt_isL Q L cn) (hC : rt_opx Q (w * h) x = true → ∀ z, z < 8 → y = nI z → rt_isC Q w h z C) (hsm : rt_small C) : Met l y_M_cost (.code y_M_cost b_M_cost 3 (some .int) :: tG) ({ frames := 5, cells := 0, slots := 0, locals := 117 }) (va_Pc [.ref (a 0), .int (x), .int (y)] (wU D cI cZ g (mA a) (mw cI cZ a w h (fun p => rt_b (decide (Q p ≠ 0))) (fun p => nI (rt_g Q p)) (fun p => nI (rt_s Q p)) (fun i => nI (L i)) cn th kf (fun p => rt_b (Z p)) pf))) (va_Qi (S := (Nat → Int32)) (fun r _ => (rt_opx Q (w * h) x = true → (rt_ix y 8).isSome = true → r = rt_cost C x) ∧ ((rt_opx Q (w * h) x = false ∨ rt_ix y 8 = none) → r = -1)) (wB D (fun (u : (Nat → Int32)) => (mw cI cZ a w h (fun p => rt_b (decide (Q p ≠ 0))) (fun p => nI (rt_g Q p)) (fun p => nI (rt_s Q p)) (fun i => nI (L i)) cn (nI (0)) u (fun p => rt_b (Z p)) pf))) (mA a)) 0 0 (mA a) := by
  refine Met.ofW (cc := b_M_cost) (maxL := 3) (ret := (some .int)) (by decide) rfl ?_
  intro p e s m args below meth c s₁ BD9 hml hv
  obtain ⟨rfl, hP, hK, hZ⟩ := hv
  have hx := BD9.exec
  have hb := BD9.bytes
  have hr := BD9.returns
  have hts : ∀ w ∈ tG, w.before _ s = true := fun w hw => atoms_spec (ws := .code y_M_cost b_M_cost 3 (some .int) :: tG) BD9.pre w (List.mem_cons_of_mem _ hw)
  have hown : s.vm.findClass rn_M = some m.cls := findClass_of_methodNamed BD9.named
  have hlocks := BD9.notSynchronized
  have hS : va_S (mA a) s.heap s.heap [] := va_S.rf
  have hD : va_D (mA a) (mw cI cZ a w h (fun p => rt_b (decide (Q p ≠ 0))) (fun p => nI (rt_g Q p)) (fun p => nI (rt_s Q p)) (fun i => nI (L i)) cn th kf (fun p => rt_b (Z p)) pf) := m_D ha _ rfl
  have hP : va_P D vwCl (mw cI cZ a w h (fun p => rt_b (decide (Q p ≠ 0))) (fun p => nI (rt_g Q p)) (fun p => nI (rt_s Q p)) (fun i => nI (L i)) cn th kf (fun p => rt_b (Z p)) pf) s.heap := hP
  have hl := lv_entry ([.ref (a 0), .int (x), .int (y)]) (n := 3) (Nat.le_of_ble_eq_true rfl)
  rw [lg_entry_eq]
  generalize (lg_sl ([.ref (a 0), .int (x), .int (y)]) ++ List.replicate (3 - (lg_sl ([.ref (a 0), .int (x), .int (y)])).length) Slot.unset).toArray = ls at hl ⊢
  have hl : lv_has ls 3 [(0, .ref (a 0)), (1, .int (x)), (2, .int (y))] := hl
  obtain ⟨hn1, hn⟩ := hG.n
  have hw0 : 0 < w := by have := hG.1.1; omega
  have hQ := hG.2.2
  have hcn := rt_isL_cap hQ hL
  refine lv_aload_n hx hb d_M_cost_0 rfl (lv_at hl 0 rfl) ?_
  refine lv_iconst (v := (nI (0))) hx hb d_M_cost_1 (by decide) ?_
  refine va_put (D := D) (ci := 4) (v := .int (nI (0))) (ty := .int) (C := rn_M) (T := tf_M) (N := 12) hx hb hts in_M tt_M tt_M_ok nm_M hown hK hP hD hS 0 rfl rfl 1 (by decide) (hts _ k_fieldLink_rn_M_42_rn_M_thrown_I) (fun _ h9 => h9) rfl (by decide +kernel) rfl rfl (Nat.le_of_ble_eq_true rfl) d_M_cost_2 (fun H locs hP hD hS => ?_)
  have hP : va_P D vwCl (mw cI cZ a w h (fun p => rt_b (decide (Q p ≠ 0))) (fun p => nI (rt_g Q p)) (fun p => nI (rt_s Q p)) (fun i => nI (L i)) cn (nI (0)) kf (fun p => rt_b (Z p)) pf) H := hP
  have hD : va_D (mA a) (mw cI cZ a w h (fun p => rt_b (decide (Q p ≠ 0))) (fun p => nI (rt_g Q p)) (fun p => nI (rt_s Q p)) (fun i => nI (L i)) cn (nI (0)) kf (fun p => rt_b (Z p)) pf) := m_D ha _ rfl
  refine lv_aload_n hx hb d_M_cost_5 rfl (lv_at hl 0 rfl) ?_
  refine lv_iload_n hx hb d_M_cost_6 rfl (lv_at hl 1 rfl) ?_
  refine w_ci (As := [.int (x)]) (rest := []) ⟨hx, hb, hml, hown, hts⟩ (c_M_isOpen l D cI cZ g a ha w h Q L cn (nI (0)) kf Z pf x hG) (cwV 1 hts (t_gV k_methodLink_rn_M_75_y_M_isOpen k_instanceMethod_y_M_isOpen k_selects_rn_M_y_M_isOpen_y_M_isOpen k_initialized_rn_M k_code_y_M_isOpen_prog_6_method_13_code_2_some_boolean) rfl rfl rfl (by decide +kernel) ⟨Nat.le_of_ble_eq_true rfl, Nat.le_of_ble_eq_true rfl⟩) (va_recv hK hP (ci := 4) (q0 := 0) rfl rfl) hP hK hZ hS rfl hl.1 rfl (Nat.le_of_ble_eq_true rfl) d_M_cost_7 ⟨Nat.zero_le _, Nat.zero_le _⟩ (fun r_7 u_7 H locs hw hP hS => ?_)
  subst hw
  have hP : va_P D vwCl (mw cI cZ a w h (fun p => rt_b (decide (Q p ≠ 0))) (fun p => nI (rt_g Q p)) (fun p => nI (rt_s Q p)) (fun i => nI (L i)) cn (nI (0)) kf (fun p => rt_b (Z p)) pf) H := hP
  refine rw_beq (tgt := 20) hx hb d_M_cost_10 (by decide) (fun c_10 => ?_) (fun c_10 => ?_)
  · refine lv_iconst (v := (-1)) hx hb d_M_cost_20 (by decide) ?_
    exact w_iret kf hx hb hr hlocks hS hP (⟨fun q1 q2 => by first | (rw [c_10] at q1; cases q1; done) | (rw [c_17] at q2; cases q2; done), fun _ => rfl⟩) d_M_cost_21
  · obtain ⟨rr, hrr, rfl, horr⟩ := rt_opx_is (by omega) c_10
    refine lv_iload_n hx hb d_M_cost_13 rfl (lv_at hl 2 rfl) ?_
    refine w_si (As := [.int (y)]) (rest := []) ⟨hx, hb, hml, hown, hts⟩ (c_M_isStation l D cI cZ g a ha w h Q L cn (nI (0)) kf Z pf y hG) (va_cwS 1 hts (t_gS k_methodLink_rn_M_100_y_M_isStation k_static_y_M_isStation k_initialized_rn_M k_code_y_M_isStation_prog_6_method_27_code_1_some_boolean) rfl rfl rfl (by decide +kernel) ⟨Nat.le_of_ble_eq_true rfl, Nat.le_of_ble_eq_true rfl⟩) hP hK hZ hS rfl hl.1 rfl (Nat.le_of_ble_eq_true rfl) d_M_cost_14 ⟨Nat.zero_le _, Nat.zero_le _⟩ (fun r_14 u_14 H locs hw hP hS => ?_)
    subst hw
    have hP : va_P D vwCl (mw cI cZ a w h (fun p => rt_b (decide (Q p ≠ 0))) (fun p => nI (rt_g Q p)) (fun p => nI (rt_s Q p)) (fun i => nI (L i)) cn (nI (0)) kf (fun p => rt_b (Z p)) pf) H := hP
    refine rw_bne (tgt := 22) hx hb d_M_cost_17 (by decide) (fun c_17 => ?_) (fun c_17 => ?_)
    · obtain ⟨z, hz, rfl⟩ := rt_ix_is (by omega) c_17
      refine lv_aload_n hx hb d_M_cost_22 rfl (lv_at hl 0 rfl) ?_
      refine lv_iload_n hx hb d_M_cost_23 rfl (lv_at hl 2 rfl) ?_
      refine w_cv (As := [.int (nI (z))]) (rest := []) ⟨hx, hb, hml, hown, hts⟩ (c_M_reckon l D cI cZ g a ha w h Q L cn (nI (0)) kf Z pf C z hG hL hz (hC (by rw [rt_opx_s (by omega) hrr]; exact horr) z hz rfl) hsm) (cwV 1 hts (t_gV k_methodLink_rn_M_113_y_M_reckon k_instanceMethod_y_M_reckon k_selects_rn_M_y_M_reckon_y_M_reckon k_initialized_rn_M k_code_y_M_reckon_prog_6_method_33_code_7_none) rfl rfl rfl (by decide +kernel) ⟨Nat.le_of_ble_eq_true rfl, Nat.le_of_ble_eq_true rfl⟩) (va_recv hK hP (ci := 4) (q0 := 0) rfl rfl) hP hK hZ hS rfl hl.1 rfl (Nat.le_of_ble_eq_true rfl) d_M_cost_24 ⟨Nat.zero_le _, Nat.zero_le _⟩ (fun u_24 H locs hw hP hS => ?_)
      obtain ⟨K, hKe⟩ : ∃ z9, z9 = u_24 := ⟨_, rfl⟩
      rw [← hKe] at hP hw
      have hP : va_P D vwCl (mw cI cZ a w h (fun p => rt_b (decide (Q p ≠ 0))) (fun p => nI (rt_g Q p)) (fun p => nI (rt_s Q p)) (fun i => nI (L i)) cn (nI (0)) (fun q => nI (K q)) (fun p => rt_b (Z p)) pf) H := hP
      have hD : va_D (mA a) (mw cI cZ a w h (fun p => rt_b (decide (Q p ≠ 0))) (fun p => nI (rt_g Q p)) (fun p => nI (rt_s Q p)) (fun i => nI (L i)) cn (nI (0)) (fun q => nI (K q)) (fun p => rt_b (Z p)) pf) := m_D ha _ rfl
      have hKr := hw rr horr
      have hcl := rt_cE_le hsm rr
      unfold rt_E at hcl
      refine lv_aload_n hx hb d_M_cost_27 rfl (lv_at hl 0 rfl) ?_
      refine va_get (D := D) (ci := 4) (v := .ref (a 6)) (C := rn_M) (T := tf_M) (N := 12) hx hb hts in_M hown hK hP 0 rfl rfl 9 (by decide) (hts _ k_fieldLink_rn_M_26_rn_M_cost_I) (fun _ h9 => h9) rfl d_M_cost_28 ?_
      refine lv_iload_n hx hb d_M_cost_31 rfl (lv_at hl 1 rfl) ?_
      refine rw_iald (v := (nI (rt_cE (C rr)))) hx hb hK hP 6 0 rfl rfl (by omega) (by omega) (congrArg nI hKr) d_M_cost_32 ?_
      refine lv_ldc (v := nI 1000000000) hx hb hown (hts _ k_constant_rn_M_106_1000000000) d_M_cost_33 ?_
      refine rw_cne (tgt := 42) hx hb d_M_cost_35 (by decide) (by omega) (by omega) (fun c_35 => ?_) (fun c_35 => ?_)
      · refine lv_aload_n hx hb d_M_cost_42 rfl (lv_at hl 0 rfl) ?_
        refine va_get (D := D) (ci := 4) (v := .ref (a 6)) (C := rn_M) (T := tf_M) (N := 12) hx hb hts in_M hown hK hP 0 rfl rfl 9 (by decide) (hts _ k_fieldLink_rn_M_26_rn_M_cost_I) (fun _ h9 => h9) rfl d_M_cost_43 ?_
        refine lv_iload_n hx hb d_M_cost_46 rfl (lv_at hl 1 rfl) ?_
        refine rw_iald (v := (nI (rt_cE (C rr)))) hx hb hK hP 6 0 rfl rfl (by omega) (by omega) (congrArg nI hKr) d_M_cost_47 ?_
        exact w_iret _ hx hb hr hlocks hS hP (⟨fun _ _ => by unfold rt_cost; rw [nI_clamp (by omega)]; cases h9 : C rr with | none => (rw [h9] at c_35; exact absurd rfl c_35) | some c9 => rfl, fun q => q.elim (fun q => absurd q (by rw [rt_opx_s (by omega) hrr, horr]; simp)) (fun q => absurd q (by rw [rt_ix_some (by decide) hz]; simp))⟩) d_M_cost_48
      · refine lv_iconst (v := (-1)) hx hb d_M_cost_38 (by decide) ?_
        refine lv_goto (tgt := 48) hx hb d_M_cost_39 (by decide) ?_
        exact w_iret _ hx hb hr hlocks hS hP (⟨fun _ _ => by unfold rt_cost; rw [nI_clamp (by omega)]; cases h9 : C rr with | none => rfl | some c9 => (rw [h9] at c_35; have := hsm rr c9 h9; simp only [rt_cE] at c_35; omega), fun q => q.elim (fun q => absurd q (by rw [rt_opx_s (by omega) hrr, horr]; simp)) (fun q => absurd q (by rw [rt_ix_some (by decide) hz]; simp))⟩) d_M_cost_48
    · refine lv_iconst (v := (-1)) hx hb d_M_cost_20 (by decide) ?_
      exact w_iret kf hx hb hr hlocks hS hP (⟨fun q1 q2 => by first | (rw [c_10] at q1; cases q1; done) | (rw [c_17] at q2; cases q2; done), fun _ => rfl⟩) d_M_cost_21
