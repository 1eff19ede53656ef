/-! The reference: at, sign, target, lowest, block; by program (wip/whole/gen/mod4.py) -/
set_option maxHeartbeats 4000000 in
set_option maxRecDepth 100000 in
theorem c_M_at (l : Launch) (D : va_G) (cI cZ : ClassId) (g a : Nat → Nat) (ha : mI a) (w h : Nat) (Q L : Nat → Nat) (cn : Nat) (th : Int32) (kf : Nat → Int32) (Z : Nat → Bool) (pf : Nat → Int32) (x y : Int32) (hG : rt_G w h Q) : Met l y_M_at (.code y_M_at b_M_at 5 (some .int) :: tG) ({ frames := 1, cells := 0, slots := 0, locals := 21 }) (va_Pc [.ref (a 0), .int (x), .int (y)] (wU D cI cZ g (mA a) (mw cI cZ a w h (fun p => rt_b (decide (Q p ≠ 0))) (fun p => nI (rt_g Q p)) (fun p => nI (rt_s Q p)) (fun i => nI (L i)) cn th kf (fun p => rt_b (Z p)) pf))) (va_Qi (S := Unit) (fun r _ => r = rt_at Q (w * h) x y) (wB D (fun (u : Unit) => (mw cI cZ a w h (fun p => rt_b (decide (Q p ≠ 0))) (fun p => nI (rt_g Q p)) (fun p => nI (rt_s Q p)) (fun i => nI (L i)) cn (nI (0)) kf (fun p => rt_b (Z p)) pf))) (mA a)) 0 0 (mA a) := by
  refine Met.ofW (cc := b_M_at) (maxL := 5) (ret := (some .int)) (by decide) rfl ?_
  intro p e s m args below meth c s₁ BD9 hml hv
  obtain ⟨rfl, hP, hK, hZ⟩ := hv
  have hx := BD9.exec
  have hb := BD9.bytes
  have hr := BD9.returns
  have hts : ∀ w ∈ tG, w.before _ s = true := fun w hw => atoms_spec (ws := .code y_M_at b_M_at 5 (some .int) :: tG) BD9.pre w (List.mem_cons_of_mem _ hw)
  have hown : s.vm.findClass rn_M = some m.cls := findClass_of_methodNamed BD9.named
  have hlocks := BD9.notSynchronized
  have hS : va_S (mA a) s.heap s.heap [] := va_S.rf
  have hD : va_D (mA a) (mw cI cZ a w h (fun p => rt_b (decide (Q p ≠ 0))) (fun p => nI (rt_g Q p)) (fun p => nI (rt_s Q p)) (fun i => nI (L i)) cn th kf (fun p => rt_b (Z p)) pf) := m_D ha _ rfl
  have hP : va_P D vwCl (mw cI cZ a w h (fun p => rt_b (decide (Q p ≠ 0))) (fun p => nI (rt_g Q p)) (fun p => nI (rt_s Q p)) (fun i => nI (L i)) cn th kf (fun p => rt_b (Z p)) pf) s.heap := hP
  have hl := lv_entry ([.ref (a 0), .int (x), .int (y)]) (n := 5) (Nat.le_of_ble_eq_true rfl)
  rw [lg_entry_eq]
  generalize (lg_sl ([.ref (a 0), .int (x), .int (y)]) ++ List.replicate (5 - (lg_sl ([.ref (a 0), .int (x), .int (y)])).length) Slot.unset).toArray = ls at hl ⊢
  have hl : lv_has ls 5 [(0, .ref (a 0)), (1, .int (x)), (2, .int (y))] := hl
  obtain ⟨hn1, hn⟩ := hG.n
  have hw0 : 0 < w := by have := hG.1.1; omega
  have hQ := hG.2.2
  refine lv_aload_n hx hb d_M_at_0 rfl (lv_at hl 0 rfl) ?_
  refine lv_iconst (v := (nI (0))) hx hb d_M_at_1 (by decide) ?_
  refine va_put (D := D) (ci := 4) (v := .int (nI (0))) (ty := .int) (C := rn_M) (T := tf_M) (N := 12) hx hb hts in_M tt_M tt_M_ok nm_M hown hK hP hD hS 0 rfl rfl 1 (by decide) (hts _ k_fieldLink_rn_M_42_rn_M_thrown_I) (fun _ h9 => h9) rfl (by decide +kernel) rfl rfl (Nat.le_of_ble_eq_true rfl) d_M_at_2 (fun H locs hP hD hS => ?_)
  have hP : va_P D vwCl (mw cI cZ a w h (fun p => rt_b (decide (Q p ≠ 0))) (fun p => nI (rt_g Q p)) (fun p => nI (rt_s Q p)) (fun i => nI (L i)) cn (nI (0)) kf (fun p => rt_b (Z p)) pf) H := hP
  have hD : va_D (mA a) (mw cI cZ a w h (fun p => rt_b (decide (Q p ≠ 0))) (fun p => nI (rt_g Q p)) (fun p => nI (rt_s Q p)) (fun i => nI (L i)) cn (nI (0)) kf (fun p => rt_b (Z p)) pf) := m_D ha _ rfl
  refine lv_aload_n hx hb d_M_at_5 rfl (lv_at hl 0 rfl) ?_
  refine lv_iload_n hx hb d_M_at_6 rfl (lv_at hl 1 rfl) ?_
  refine w_ci (As := [.int (x)]) (rest := []) ⟨hx, hb, hml, hown, hts⟩ (c_M_isTile l D cI cZ g a ha w h Q L cn (nI (0)) kf Z pf x hG) (cwV 1 hts (t_gV k_methodLink_rn_M_45_y_M_isTile k_instanceMethod_y_M_isTile k_selects_rn_M_y_M_isTile_y_M_isTile k_initialized_rn_M k_code_y_M_isTile_prog_6_method_3_code_2_some_boolean) rfl rfl rfl (by decide +kernel) ⟨Nat.le_of_ble_eq_true rfl, Nat.le_of_ble_eq_true rfl⟩) (va_recv hK hP (ci := 4) (q0 := 0) rfl rfl) hP hK hZ hS rfl hl.1 rfl (Nat.le_of_ble_eq_true rfl) d_M_at_7 ⟨Nat.zero_le _, Nat.zero_le _⟩ (fun r_7 u_7 H locs hw hP hS => ?_)
  subst hw
  have hP : va_P D vwCl (mw cI cZ a w h (fun p => rt_b (decide (Q p ≠ 0))) (fun p => nI (rt_g Q p)) (fun p => nI (rt_s Q p)) (fun i => nI (L i)) cn (nI (0)) kf (fun p => rt_b (Z p)) pf) H := hP
  refine rw_beq (tgt := 23) hx hb d_M_at_10 (by decide) (fun c_10 => ?_) (fun c_10 => ?_)
  · refine lv_iconst (v := (-1)) hx hb d_M_at_23 (by decide) ?_
    exact w_iret () hx hb hr hlocks hS hP (by first | exact (rt_at_n (Or.inl (rt_ix_no c_10))).symm | exact (rt_at_n (Or.inr (rt_ix_none (Or.inl c_14)))).symm | exact (rt_at_n (Or.inr (rt_ix_none (Or.inr (rt_gt6 c_20))))).symm) d_M_at_24
  · obtain ⟨t, ht, rfl⟩ := rt_ix_is (by omega) c_10
    refine lv_iload_n hx hb d_M_at_13 rfl (lv_at hl 2 rfl) ?_
    refine lv_if_lt (tgt := 23) hx hb d_M_at_14 (by decide) (fun c_14 => ?_) (fun c_14 => ?_)
    · refine lv_iconst (v := (-1)) hx hb d_M_at_23 (by decide) ?_
      exact w_iret () hx hb hr hlocks hS hP (by first | exact (rt_at_n (Or.inl (rt_ix_no c_10))).symm | exact (rt_at_n (Or.inr (rt_ix_none (Or.inl c_14)))).symm | exact (rt_at_n (Or.inr (rt_ix_none (Or.inr (rt_gt6 c_20))))).symm) d_M_at_24
    · refine lv_iload_n hx hb d_M_at_17 rfl (lv_at hl 2 rfl) ?_
      refine lv_bipush (v := (nI (6))) hx hb d_M_at_18 (by decide) ?_
      refine lv_icmp_le (tgt := 25) hx hb d_M_at_20 (by decide) (fun c_20 => ?_) (fun c_20 => ?_)
      · obtain ⟨k, hk, rfl⟩ : ∃ k : Nat, k ≤ 6 ∧ y = nI k := nI_of2 (M := nI 6) rfl c_14 c_20
        refine lv_iconst (v := (nI (0))) hx hb d_M_at_25 (by decide) ?_
        refine lv_istore_n (lv' := [(3, .int (nI (0))), (0, .ref (a 0)), (1, .int (nI (t))), (2, .int (nI (k)))]) hx hb d_M_at_26 rfl hl (by decide) rfl (fun ls hl => ?_)
        refine lv_iconst (v := (nI (0))) hx hb d_M_at_27 (by decide) ?_
        refine lv_istore (lv' := [(4, .int (nI (0))), (3, .int (nI (0))), (0, .ref (a 0)), (1, .int (nI (t))), (2, .int (nI (k)))]) hx hb d_M_at_28 hl (by decide) rfl (fun ls hl => ?_)
        have LP_30 : ∀ (n_30 : Nat) (i : Nat), i + n_30 = 6 → ∀ (H : Heap) (locs : List Loc) (ls : Array Slot), va_P D vwCl (mw cI cZ a w h (fun p => rt_b (decide (Q p ≠ 0))) (fun p => nI (rt_g Q p)) (fun p => nI (rt_s Q p)) (fun i => nI (L i)) cn (nI (0)) kf (fun p => rt_b (Z p)) pf) H → va_S (mA a) s.heap H locs → lv_has ls 5 [(0, .ref (a 0)), (1, .int (nI (t))), (2, .int (nI (k))), (3, .int (nI (rt_kb Q t i))), (4, .int (nI (i)))] → W p l e (headSpec (.code y_M_at b_M_at 5 (some .int) :: tG) ({ frames := 1, cells := 0, slots := 0, locals := 21 })).room s m ([.ref (a 0), .int ((nI t)), .int ((nI k))] : List Value).toArray below meth c H locs 0 0 (MQ below (va_Qi (S := Unit) (fun r _ => r = rt_at Q (w * h) (nI t) (nI k)) (wB D (fun (u : Unit) => (mw cI cZ a w h (fun p => rt_b (decide (Q p ≠ 0))) (fun p => nI (rt_g Q p)) (fun p => nI (rt_s Q p)) (fun i => nI (L i)) cn (nI (0)) kf (fun p => rt_b (Z p)) pf))) (mA a)) ([.ref (a 0), .int ((nI t)), .int ((nI k))] : List Value).toArray s 0 0 (mA a)) (F0 m 30 ls []) := by
          intro n_30
          induction n_30 with
          | zero =>
            intro i hrel_30 H locs ls hP hS hl
            have hD : va_D (mA a) (mw cI cZ a w h (fun p => rt_b (decide (Q p ≠ 0))) (fun p => nI (rt_g Q p)) (fun p => nI (rt_s Q p)) (fun i => nI (L i)) cn (nI (0)) kf (fun p => rt_b (Z p)) pf) := m_D ha _ rfl
            refine lv_iload hx hb d_M_at_30 (lv_at hl 4 rfl) ?_
            refine lv_bipush (v := (nI (6))) hx hb d_M_at_32 (by decide) ?_
            refine rw_cge (tgt := 69) hx hb d_M_at_34 (by decide) (by omega) (by omega) (fun c_34 => ?_) (fun c_34 => ?_)
            · refine lv_iload_n hx hb d_M_at_69 rfl (lv_at hl 2 rfl) ?_
              refine rw_zne (tgt := 75) hx hb d_M_at_70 (by decide) (by omega) (fun c_70 => ?_) (fun c_70 => ?_)
              · refine lv_bipush (v := (nI (6))) hx hb d_M_at_75 (by decide) ?_
                refine lv_iload_n hx hb d_M_at_77 rfl (lv_at hl 1 rfl) ?_
                refine rw_mul hx hb d_M_at_78 ?_
                refine lv_iload_n hx hb d_M_at_79 rfl (lv_at hl 2 rfl) ?_
                refine rw_add hx hb d_M_at_80 ?_
                refine lv_iconst (v := (nI (1))) hx hb d_M_at_81 (by decide) ?_
                refine rw_sub hx hb d_M_at_82 (by omega) ?_
                refine rw_top (b := 6 * t + (k - 1)) (by omega) ?_
                refine lv_istore (lv' := [(4, .int (nI (6 * t + (k - 1)))), (0, .ref (a 0)), (1, .int (nI (t))), (2, .int (nI (k))), (3, .int (nI (rt_kb Q t i)))]) hx hb d_M_at_83 hl (by decide) rfl (fun ls hl => ?_)
                refine lv_aload_n hx hb d_M_at_85 rfl (lv_at hl 1 rfl) ?_
                refine va_get (D := D) (ci := 4) (v := .ref (a 2)) (C := rn_M) (T := tf_M) (N := 12) hx hb hts in_M hown hK hP 0 rfl rfl 4 (by decide) (hts _ k_fieldLink_rn_M_13_rn_M_there_Z) (fun _ h9 => h9) rfl d_M_at_86 ?_
                refine lv_iload hx hb d_M_at_89 (lv_at hl 0 rfl) ?_
                refine rw_zald (v := (rt_b (decide (Q (6 * t + (k - 1)) ≠ 0)))) hx hb hK hP 2 1 rfl rfl (by omega) (by omega) (rfl) d_M_at_91 ?_
                refine rw_beq (tgt := 120) hx hb d_M_at_92 (by decide) (fun c_92 => ?_) (fun c_92 => ?_)
                · refine lv_iconst (v := (nI (0))) hx hb d_M_at_120 (by decide) ?_
                  exact w_iret () hx hb hr hlocks hS hP (by obtain ⟨j, rfl⟩ : ∃ j, k = j + 1 := ⟨k - 1, by omega⟩; rw [rt_at_s (by omega) ht (by omega)]; rw [show 6 * t + j = 6 * t + (j + 1 - 1) by omega, Decidable.not_not.mp (of_decide_eq_false c_92)]) d_M_at_121
                · refine lv_iconst (v := (nI (1))) hx hb d_M_at_95 (by decide) ?_
                  refine lv_iconst (v := (nI (4))) hx hb d_M_at_96 (by decide) ?_
                  refine lv_aload_n hx hb d_M_at_97 rfl (lv_at hl 1 rfl) ?_
                  refine va_get (D := D) (ci := 4) (v := .ref (a 3)) (C := rn_M) (T := tf_M) (N := 12) hx hb hts in_M hown hK hP 0 rfl rfl 5 (by decide) (hts _ k_fieldLink_rn_M_17_rn_M_signs_I) (fun _ h9 => h9) rfl d_M_at_98 ?_
                  refine lv_iload hx hb d_M_at_101 (lv_at hl 0 rfl) ?_
                  refine rw_iald (v := (nI (rt_g Q (6 * t + (k - 1))))) hx hb hK hP 3 0 rfl rfl (by omega) (by omega) (rfl) d_M_at_103 ?_
                  refine rw_mul hx hb d_M_at_104 ?_
                  refine rw_add hx hb d_M_at_105 ?_
                  refine lv_bipush (v := (nI (32))) hx hb d_M_at_106 (by decide) ?_
                  refine lv_aload_n hx hb d_M_at_108 rfl (lv_at hl 1 rfl) ?_
                  refine va_get (D := D) (ci := 4) (v := .ref (a 4)) (C := rn_M) (T := tf_M) (N := 12) hx hb hts in_M hown hK hP 0 rfl rfl 6 (by decide) (hts _ k_fieldLink_rn_M_20_rn_M_stations_I) (fun _ h9 => h9) rfl d_M_at_109 ?_
                  refine lv_iload hx hb d_M_at_112 (lv_at hl 0 rfl) ?_
                  refine rw_iald (v := (nI (rt_s Q (6 * t + (k - 1))))) hx hb hK hP 4 0 rfl rfl (by omega) (by omega) (rfl) d_M_at_114 ?_
                  refine rw_mul hx hb d_M_at_115 ?_
                  refine rw_add hx hb d_M_at_116 ?_
                  refine lv_goto (tgt := 121) hx hb d_M_at_117 (by decide) ?_
                  exact w_iret () hx hb hr hlocks hS hP (by obtain ⟨j, rfl⟩ : ∃ j, k = j + 1 := ⟨k - 1, by omega⟩; rw [rt_at_s (by omega) ht (by omega)]; rw [show 6 * t + j = 6 * t + (j + 1 - 1) by omega, rt_ok_eq hQ (of_decide_eq_true c_92)]) d_M_at_121
              · refine lv_iload_n hx hb d_M_at_73 rfl (lv_at hl 3 rfl) ?_
                exact w_iret () hx hb hr hlocks hS hP (by rw [show i = 6 by omega, c_70]; exact (rt_at_0 (by omega) ht).symm) d_M_at_74
            · omega
          | succ n_30 ih_30 =>
            intro i hrel_30 H locs ls hP hS hl
            have hD : va_D (mA a) (mw cI cZ a w h (fun p => rt_b (decide (Q p ≠ 0))) (fun p => nI (rt_g Q p)) (fun p => nI (rt_s Q p)) (fun i => nI (L i)) cn (nI (0)) kf (fun p => rt_b (Z p)) pf) := m_D ha _ rfl
            refine lv_iload hx hb d_M_at_30 (lv_at hl 4 rfl) ?_
            refine lv_bipush (v := (nI (6))) hx hb d_M_at_32 (by decide) ?_
            refine rw_cge (tgt := 69) hx hb d_M_at_34 (by decide) (by omega) (by omega) (fun c_34 => ?_) (fun c_34 => ?_)
            · omega
            · refine lv_iload_n hx hb d_M_at_37 rfl (lv_at hl 3 rfl) ?_
              refine lv_aload_n hx hb d_M_at_38 rfl (lv_at hl 0 rfl) ?_
              refine va_get (D := D) (ci := 4) (v := .ref (a 2)) (C := rn_M) (T := tf_M) (N := 12) hx hb hts in_M hown hK hP 0 rfl rfl 4 (by decide) (hts _ k_fieldLink_rn_M_13_rn_M_there_Z) (fun _ h9 => h9) rfl d_M_at_39 ?_
              refine lv_bipush (v := (nI (6))) hx hb d_M_at_42 (by decide) ?_
              refine lv_iload_n hx hb d_M_at_44 rfl (lv_at hl 1 rfl) ?_
              refine rw_mul hx hb d_M_at_45 ?_
              refine lv_iload hx hb d_M_at_46 (lv_at hl 4 rfl) ?_
              refine rw_add hx hb d_M_at_48 ?_
              refine rw_zald (v := (rt_b (decide (Q ((6 * t) + i) ≠ 0)))) hx hb hK hP 2 1 rfl rfl (by omega) (by omega) (rfl) d_M_at_49 ?_
              refine rw_beq (tgt := 60) hx hb d_M_at_50 (by decide) (fun c_50 => ?_) (fun c_50 => ?_)
              · refine lv_iconst (v := (nI (0))) hx hb d_M_at_60 (by decide) ?_
                refine rw_or hx hb d_M_at_61 ?_
                refine rw_top (b := rt_kb Q t i) (Nat.or_zero _) ?_
                refine lv_istore_n (lv' := [(3, .int (nI (rt_kb Q t i))), (0, .ref (a 0)), (1, .int (nI (t))), (2, .int (nI (k))), (4, .int (nI (i)))]) hx hb d_M_at_62 rfl hl (by decide) rfl (fun ls hl => ?_)
                refine lv_iinc (v := (nI (i + 1))) (lv' := [(4, .int (nI (i + 1))), (3, .int (nI (rt_kb Q t i))), (0, .ref (a 0)), (1, .int (nI (t))), (2, .int (nI (k)))]) hx hb d_M_at_63 hl (k := 4) rfl (nI_add _ _) (by decide) rfl (fun ls hl => ?_)
                refine lv_goto (tgt := 30) hx hb d_M_at_66 (by decide) ?_
                have hl : lv_has ls 5 [(4, .int (nI (i + 1))), (3, .int (nI (rt_kb Q t (i + 1)))), (0, .ref (a 0)), (1, .int (nI (t))), (2, .int (nI (k)))] := by rw [rt_kb_f (of_decide_eq_false c_50)]; exact hl
                exact ih_30 (i + 1) (by omega) _ _ _ hP hS (lv_sub hl [2, 3, 4, 1, 0] rfl)
              · refine lv_iconst (v := (nI (1))) hx hb d_M_at_53 (by decide) ?_
                refine lv_iload hx hb d_M_at_54 (lv_at hl 4 rfl) ?_
                refine rw_shl hx hb d_M_at_56 (by first | omega | exact rt_p6 i (by omega)) (by first | omega | exact rt_p6 i (by omega)) ?_
                refine rw_top (b := 2 ^ i) (Nat.one_mul _) ?_
                refine lv_goto (tgt := 61) hx hb d_M_at_57 (by decide) ?_
                refine rw_or hx hb d_M_at_61 ?_
                refine lv_istore_n (lv' := [(3, .int (nI ((rt_kb Q t i) ||| (2 ^ i)))), (0, .ref (a 0)), (1, .int (nI (t))), (2, .int (nI (k))), (4, .int (nI (i)))]) hx hb d_M_at_62 rfl hl (by decide) rfl (fun ls hl => ?_)
                refine lv_iinc (v := (nI (i + 1))) (lv' := [(4, .int (nI (i + 1))), (3, .int (nI ((rt_kb Q t i) ||| (2 ^ i)))), (0, .ref (a 0)), (1, .int (nI (t))), (2, .int (nI (k)))]) hx hb d_M_at_63 hl (k := 4) rfl (nI_add _ _) (by decide) rfl (fun ls hl => ?_)
                refine lv_goto (tgt := 30) hx hb d_M_at_66 (by decide) ?_
                have hl : lv_has ls 5 [(4, .int (nI (i + 1))), (3, .int (nI (rt_kb Q t (i + 1)))), (0, .ref (a 0)), (1, .int (nI (t))), (2, .int (nI (k)))] := by rw [rt_kb_t (of_decide_eq_true c_50)]; exact hl
                exact ih_30 (i + 1) (by omega) _ _ _ hP hS (lv_sub hl [2, 3, 4, 1, 0] rfl)
        exact LP_30 6 0 (by omega) _ _ _ hP hS (lv_sub hl [2, 3, 4, 1, 0] rfl)
      · refine lv_iconst (v := (-1)) hx hb d_M_at_23 (by decide) ?_
        exact w_iret () hx hb hr hlocks hS hP (by first | exact (rt_at_n (Or.inl (rt_ix_no c_10))).symm | exact (rt_at_n (Or.inr (rt_ix_none (Or.inl c_14)))).symm | exact (rt_at_n (Or.inr (rt_ix_none (Or.inr (rt_gt6 c_20))))).symm) d_M_at_24

set_option maxHeartbeats 4000000 in
set_option maxRecDepth 100000 in
theorem c_M_sign (l : Launch) (D : va_G) (cI cZ : ClassId) (g a : Nat → Nat) (ha : mI a) (w h : Nat) (Q L : Nat → Nat) (cn : Nat) (th : Int32) (kf : Nat → Int32) (Z : Nat → Bool) (pf : Nat → Int32) (x : Int32) (hG : rt_G w h Q) (hL : rt_isL Q L cn) : Met l y_M_sign (.code y_M_sign b_M_sign 4 (some .int) :: tG) ({ frames := 1, cells := 0, slots := 0, locals := 20 }) (va_Pc [.ref (a 0), .int (x)] (wU D cI cZ g (mA a) (mw cI cZ a w h (fun p => rt_b (decide (Q p ≠ 0))) (fun p => nI (rt_g Q p)) (fun p => nI (rt_s Q p)) (fun i => nI (L i)) cn th kf (fun p => rt_b (Z p)) pf))) (va_Qi (S := Unit) (fun r _ => r = rt_sign Q (w * h) x) (wB D (fun (u : Unit) => (mw cI cZ a w h (fun p => rt_b (decide (Q p ≠ 0))) (fun p => nI (rt_g Q p)) (fun p => nI (rt_s Q p)) (fun i => nI (L i)) cn (nI (0)) kf (fun p => rt_b (Z p)) pf))) (mA a)) 0 0 (mA a) := by
  refine Met.ofW (cc := b_M_sign) (maxL := 4) (ret := (some .int)) (by decide) rfl ?_
  intro p e s m args below meth c s₁ BD9 hml hv
  obtain ⟨rfl, hP, hK, hZ⟩ := hv
  have hx := BD9.exec
  have hb := BD9.bytes
  have hr := BD9.returns
  have hts : ∀ w ∈ tG, w.before _ s = true := fun w hw => atoms_spec (ws := .code y_M_sign b_M_sign 4 (some .int) :: tG) BD9.pre w (List.mem_cons_of_mem _ hw)
  have hown : s.vm.findClass rn_M = some m.cls := findClass_of_methodNamed BD9.named
  have hlocks := BD9.notSynchronized
  have hS : va_S (mA a) s.heap s.heap [] := va_S.rf
  have hD : va_D (mA a) (mw cI cZ a w h (fun p => rt_b (decide (Q p ≠ 0))) (fun p => nI (rt_g Q p)) (fun p => nI (rt_s Q p)) (fun i => nI (L i)) cn th kf (fun p => rt_b (Z p)) pf) := m_D ha _ rfl
  have hP : va_P D vwCl (mw cI cZ a w h (fun p => rt_b (decide (Q p ≠ 0))) (fun p => nI (rt_g Q p)) (fun p => nI (rt_s Q p)) (fun i => nI (L i)) cn th kf (fun p => rt_b (Z p)) pf) s.heap := hP
  have hl := lv_entry ([.ref (a 0), .int (x)]) (n := 4) (Nat.le_of_ble_eq_true rfl)
  rw [lg_entry_eq]
  generalize (lg_sl ([.ref (a 0), .int (x)]) ++ List.replicate (4 - (lg_sl ([.ref (a 0), .int (x)])).length) Slot.unset).toArray = ls at hl ⊢
  have hl : lv_has ls 4 [(0, .ref (a 0)), (1, .int (x))] := hl
  obtain ⟨hn1, hn⟩ := hG.n
  have hw0 : 0 < w := by have := hG.1.1; omega
  have hQ := hG.2.2
  have hcn := rt_isL_cap hQ hL
  refine lv_aload_n hx hb d_M_sign_0 rfl (lv_at hl 0 rfl) ?_
  refine lv_iconst (v := (nI (0))) hx hb d_M_sign_1 (by decide) ?_
  refine va_put (D := D) (ci := 4) (v := .int (nI (0))) (ty := .int) (C := rn_M) (T := tf_M) (N := 12) hx hb hts in_M tt_M tt_M_ok nm_M hown hK hP hD hS 0 rfl rfl 1 (by decide) (hts _ k_fieldLink_rn_M_42_rn_M_thrown_I) (fun _ h9 => h9) rfl (by decide +kernel) rfl rfl (Nat.le_of_ble_eq_true rfl) d_M_sign_2 (fun H locs hP hD hS => ?_)
  have hP : va_P D vwCl (mw cI cZ a w h (fun p => rt_b (decide (Q p ≠ 0))) (fun p => nI (rt_g Q p)) (fun p => nI (rt_s Q p)) (fun i => nI (L i)) cn (nI (0)) kf (fun p => rt_b (Z p)) pf) H := hP
  have hD : va_D (mA a) (mw cI cZ a w h (fun p => rt_b (decide (Q p ≠ 0))) (fun p => nI (rt_g Q p)) (fun p => nI (rt_s Q p)) (fun i => nI (L i)) cn (nI (0)) kf (fun p => rt_b (Z p)) pf) := m_D ha _ rfl
  by_cases hst : (rt_ix x 8).isSome = true
  · obtain ⟨z, hz, rfl⟩ := rt_ix_is (by omega) hst
    have hl : lv_has ls 4 [(0, .ref (a 0)), (1, .int (nI (z)))] := hl
    refine lv_iconst (v := (-1)) hx hb d_M_sign_5 (by decide) ?_
    refine lv_istore_n (lv' := [(2, .int (-1)), (0, .ref (a 0)), (1, .int (nI (z)))]) hx hb d_M_sign_6 rfl hl (by decide) rfl (fun ls hl => ?_)
    refine lv_iconst (v := (nI (0))) hx hb d_M_sign_7 (by decide) ?_
    refine lv_istore_n (lv' := [(3, .int (nI (0))), (2, .int (-1)), (0, .ref (a 0)), (1, .int (nI (z)))]) hx hb d_M_sign_8 rfl hl (by decide) rfl (fun ls hl => ?_)
    have LP_9 : ∀ (n_9 : Nat) (i : Nat) (o : Option Nat), i + n_9 = cn → (rt_mn (rt_sS Q L z i) o) → ∀ (H : Heap) (locs : List Loc) (ls : Array Slot), va_P D vwCl (mw cI cZ a w h (fun p => rt_b (decide (Q p ≠ 0))) (fun p => nI (rt_g Q p)) (fun p => nI (rt_s Q p)) (fun i => nI (L i)) cn (nI (0)) kf (fun p => rt_b (Z p)) pf) H → va_S (mA a) s.heap H locs → lv_has ls 4 [(0, .ref (a 0)), (1, .int (nI (z))), (2, .int (rt_o (o))), (3, .int (nI (i)))] → W p l e (headSpec (.code y_M_sign b_M_sign 4 (some .int) :: tG) ({ frames := 1, cells := 0, slots := 0, locals := 20 })).room s m ([.ref (a 0), .int ((nI z))] : List Value).toArray below meth c H locs 0 0 (MQ below (va_Qi (S := Unit) (fun r _ => r = rt_sign Q (w * h) (nI z)) (wB D (fun (u : Unit) => (mw cI cZ a w h (fun p => rt_b (decide (Q p ≠ 0))) (fun p => nI (rt_g Q p)) (fun p => nI (rt_s Q p)) (fun i => nI (L i)) cn (nI (0)) kf (fun p => rt_b (Z p)) pf))) (mA a)) ([.ref (a 0), .int ((nI z))] : List Value).toArray s 0 0 (mA a)) (F0 m 9 ls []) := by
      intro n_9
      induction n_9 with
      | zero =>
        intro i o hrel_9 hI H locs ls hP hS hl
        have hD : va_D (mA a) (mw cI cZ a w h (fun p => rt_b (decide (Q p ≠ 0))) (fun p => nI (rt_g Q p)) (fun p => nI (rt_s Q p)) (fun i => nI (L i)) cn (nI (0)) kf (fun p => rt_b (Z p)) pf) := m_D ha _ rfl
        have hLi : i < cn → L i < 6 * (w * h) := fun q => rt_ok_in hQ (hL.1 i q)
        refine lv_iload_n hx hb d_M_sign_9 rfl (lv_at hl 3 rfl) ?_
        refine lv_aload_n hx hb d_M_sign_10 rfl (lv_at hl 0 rfl) ?_
        refine va_get (D := D) (ci := 4) (v := .int (nI (cn))) (C := rn_M) (T := tf_M) (N := 12) hx hb hts in_M hown hK hP 0 rfl rfl 8 (by decide) (hts _ k_fieldLink_rn_M_52_rn_M_pieces_I) (fun _ h9 => h9) rfl d_M_sign_11 ?_
        refine rw_cge (tgt := 75) hx hb d_M_sign_14 (by decide) (by omega) (by omega) (fun c_14 => ?_) (fun c_14 => ?_)
        · refine lv_iload_n hx hb d_M_sign_75 rfl (lv_at hl 2 rfl) ?_
          exact w_iret () hx hb hr hlocks hS hP (by rw [rt_sign_s hz, rt_sS_end hQ hL (by rw [show i = cn by omega] at hI; exact hI)]) d_M_sign_76
        · omega
      | succ n_9 ih_9 =>
        intro i o hrel_9 hI H locs ls hP hS hl
        have hD : va_D (mA a) (mw cI cZ a w h (fun p => rt_b (decide (Q p ≠ 0))) (fun p => nI (rt_g Q p)) (fun p => nI (rt_s Q p)) (fun i => nI (L i)) cn (nI (0)) kf (fun p => rt_b (Z p)) pf) := m_D ha _ rfl
        have hLi : i < cn → L i < 6 * (w * h) := fun q => rt_ok_in hQ (hL.1 i q)
        refine lv_iload_n hx hb d_M_sign_9 rfl (lv_at hl 3 rfl) ?_
        refine lv_aload_n hx hb d_M_sign_10 rfl (lv_at hl 0 rfl) ?_
        refine va_get (D := D) (ci := 4) (v := .int (nI (cn))) (C := rn_M) (T := tf_M) (N := 12) hx hb hts in_M hown hK hP 0 rfl rfl 8 (by decide) (hts _ k_fieldLink_rn_M_52_rn_M_pieces_I) (fun _ h9 => h9) rfl d_M_sign_11 ?_
        refine rw_cge (tgt := 75) hx hb d_M_sign_14 (by decide) (by omega) (by omega) (fun c_14 => ?_) (fun c_14 => ?_)
        · omega
        · refine lv_iload_n hx hb d_M_sign_17 rfl (lv_at hl 1 rfl) ?_
          refine w_si (As := [.int (nI (z))]) (rest := []) ⟨hx, hb, hml, hown, hts⟩ (c_M_isStation l D cI cZ g a ha w h Q L cn (nI (0)) kf Z pf (nI (z)) hG) (va_cwS 1 hts (t_gS k_methodLink_rn_M_100_y_M_isStation k_static_y_M_isStation k_initialized_rn_M k_code_y_M_isStation_prog_6_method_27_code_1_some_boolean) rfl rfl rfl (by decide +kernel) ⟨Nat.le_of_ble_eq_true rfl, Nat.le_of_ble_eq_true rfl⟩) hP hK hZ hS rfl hl.1 rfl (Nat.le_of_ble_eq_true rfl) d_M_sign_18 ⟨Nat.zero_le _, Nat.zero_le _⟩ (fun r_18 u_18 H locs hw hP hS => ?_)
          subst hw
          have hP : va_P D vwCl (mw cI cZ a w h (fun p => rt_b (decide (Q p ≠ 0))) (fun p => nI (rt_g Q p)) (fun p => nI (rt_s Q p)) (fun i => nI (L i)) cn (nI (0)) kf (fun p => rt_b (Z p)) pf) H := hP
          rw [rt_ix_some (by decide) hz]
          refine rw_topI (b := rt_b true) rfl ?_
          refine rw_beq (tgt := 75) hx hb d_M_sign_21 (by decide) (fun c_21 => ?_) (fun c_21 => ?_)
          · cases c_21
          · refine lv_aload_n hx hb d_M_sign_24 rfl (lv_at hl 0 rfl) ?_
            refine va_get (D := D) (ci := 4) (v := .ref (a 4)) (C := rn_M) (T := tf_M) (N := 12) hx hb hts in_M hown hK hP 0 rfl rfl 6 (by decide) (hts _ k_fieldLink_rn_M_20_rn_M_stations_I) (fun _ h9 => h9) rfl d_M_sign_25 ?_
            refine lv_aload_n hx hb d_M_sign_28 rfl (lv_at hl 0 rfl) ?_
            refine va_get (D := D) (ci := 4) (v := .ref (a 5)) (C := rn_M) (T := tf_M) (N := 12) hx hb hts in_M hown hK hP 0 rfl rfl 7 (by decide) (hts _ k_fieldLink_rn_M_23_rn_M_list_I) (fun _ h9 => h9) rfl d_M_sign_29 ?_
            refine lv_iload_n hx hb d_M_sign_32 rfl (lv_at hl 3 rfl) ?_
            refine rw_iald (v := (nI (L i))) hx hb hK hP 5 0 rfl rfl (by omega) (by omega) (rfl) d_M_sign_33 ?_
            refine rw_iald (v := (nI (rt_s Q (L i)))) hx hb hK hP 4 0 rfl rfl (by omega) (by omega) (rfl) d_M_sign_34 ?_
            refine lv_iload_n hx hb d_M_sign_35 rfl (lv_at hl 1 rfl) ?_
            refine lv_iconst (v := (nI (1))) hx hb d_M_sign_36 (by decide) ?_
            refine rw_add hx hb d_M_sign_37 ?_
            refine rw_cne (tgt := 69) hx hb d_M_sign_38 (by decide) (by have := rt_ok_s hQ (L i); omega) (by have := rt_ok_s hQ (L i); omega) (fun c_38 => ?_) (fun c_38 => ?_)
            · refine lv_iinc (v := (nI (i + 1))) (lv' := [(3, .int (nI (i + 1))), (0, .ref (a 0)), (1, .int (nI (z))), (2, .int (rt_o (o)))]) hx hb d_M_sign_69 hl (k := 3) rfl (nI_add _ _) (by decide) rfl (fun ls hl => ?_)
              refine lv_goto (tgt := 9) hx hb d_M_sign_72 (by decide) ?_
              exact ih_9 (i + 1) o (by omega) (rt_mn_eq hI (rt_sS_skip c_38)) _ _ _ hP hS (lv_sub hl [1, 2, 3, 0] rfl)
            · cases o with
              | none =>
                have hl : lv_has ls 4 [(0, .ref (a 0)), (1, .int (nI (z))), (2, .int (-1)), (3, .int (nI (i)))] := hl
                refine lv_iload_n hx hb d_M_sign_41 rfl (lv_at hl 2 rfl) ?_
                refine lv_iconst (v := (-1)) hx hb d_M_sign_42 (by decide) ?_
                refine lv_icmp_eq (tgt := 59) hx hb d_M_sign_43 (by decide) (fun c_43 => ?_) (fun c_43 => ?_)
                · refine lv_aload_n hx hb d_M_sign_59 rfl (lv_at hl 0 rfl) ?_
                  refine va_get (D := D) (ci := 4) (v := .ref (a 5)) (C := rn_M) (T := tf_M) (N := 12) hx hb hts in_M hown hK hP 0 rfl rfl 7 (by decide) (hts _ k_fieldLink_rn_M_23_rn_M_list_I) (fun _ h9 => h9) rfl d_M_sign_60 ?_
                  refine lv_iload_n hx hb d_M_sign_63 rfl (lv_at hl 3 rfl) ?_
                  refine rw_iald (v := (nI (L i))) hx hb hK hP 5 0 rfl rfl (by omega) (by omega) (rfl) d_M_sign_64 ?_
                  refine lv_bipush (v := (nI (6))) hx hb d_M_sign_65 (by decide) ?_
                  refine rw_div hx hb d_M_sign_67 (by omega) (by omega) (by omega) ?_
                  refine lv_istore_n (lv' := [(2, .int (nI ((L i) / 6))), (0, .ref (a 0)), (1, .int (nI (z))), (3, .int (nI (i)))]) hx hb d_M_sign_68 rfl hl (by decide) rfl (fun ls hl => ?_)
                  refine lv_iinc (v := (nI (i + 1))) (lv' := [(3, .int (nI (i + 1))), (2, .int (nI ((L i) / 6))), (0, .ref (a 0)), (1, .int (nI (z)))]) hx hb d_M_sign_69 hl (k := 3) rfl (nI_add _ _) (by decide) rfl (fun ls hl => ?_)
                  refine lv_goto (tgt := 9) hx hb d_M_sign_72 (by decide) ?_
                  exact ih_9 (i + 1) (some _) (by omega) (rt_mn_0 hI (rt_sS_add c_38)) _ _ _ hP hS (lv_sub hl [2, 3, 1, 0] rfl)
                · exact absurd rfl c_43
              | some mm =>
                have hmm : mm < w * h := by obtain ⟨⟨j9, hj9, h19, h29⟩, -⟩ := hI; have := rt_ok_in hQ (hL.1 j9 (by omega)); omega
                have hl : lv_has ls 4 [(0, .ref (a 0)), (1, .int (nI (z))), (2, .int (nI (mm))), (3, .int (nI (i)))] := hl
                refine lv_iload_n hx hb d_M_sign_41 rfl (lv_at hl 2 rfl) ?_
                refine lv_iconst (v := (-1)) hx hb d_M_sign_42 (by decide) ?_
                refine lv_icmp_eq (tgt := 59) hx hb d_M_sign_43 (by decide) (fun c_43 => ?_) (fun c_43 => ?_)
                · exact absurd c_43 (rt_o_ne _ (by omega))
                · refine lv_aload_n hx hb d_M_sign_46 rfl (lv_at hl 0 rfl) ?_
                  refine va_get (D := D) (ci := 4) (v := .ref (a 5)) (C := rn_M) (T := tf_M) (N := 12) hx hb hts in_M hown hK hP 0 rfl rfl 7 (by decide) (hts _ k_fieldLink_rn_M_23_rn_M_list_I) (fun _ h9 => h9) rfl d_M_sign_47 ?_
                  refine lv_iload_n hx hb d_M_sign_50 rfl (lv_at hl 3 rfl) ?_
                  refine rw_iald (v := (nI (L i))) hx hb hK hP 5 0 rfl rfl (by omega) (by omega) (rfl) d_M_sign_51 ?_
                  refine lv_bipush (v := (nI (6))) hx hb d_M_sign_52 (by decide) ?_
                  refine rw_div hx hb d_M_sign_54 (by omega) (by omega) (by omega) ?_
                  refine lv_iload_n hx hb d_M_sign_55 rfl (lv_at hl 2 rfl) ?_
                  refine rw_cge (tgt := 69) hx hb d_M_sign_56 (by decide) (by omega) (by omega) (fun c_56 => ?_) (fun c_56 => ?_)
                  · refine lv_iinc (v := (nI (i + 1))) (lv' := [(3, .int (nI (i + 1))), (0, .ref (a 0)), (1, .int (nI (z))), (2, .int (nI (mm)))]) hx hb d_M_sign_69 hl (k := 3) rfl (nI_add _ _) (by decide) rfl (fun ls hl => ?_)
                    refine lv_goto (tgt := 9) hx hb d_M_sign_72 (by decide) ?_
                    exact ih_9 (i + 1) (some _) (by omega) (rt_mn_ge hI (rt_sS_add c_38) (by omega)) _ _ _ hP hS (lv_sub hl [1, 2, 3, 0] rfl)
                  · refine lv_aload_n hx hb d_M_sign_59 rfl (lv_at hl 0 rfl) ?_
                    refine va_get (D := D) (ci := 4) (v := .ref (a 5)) (C := rn_M) (T := tf_M) (N := 12) hx hb hts in_M hown hK hP 0 rfl rfl 7 (by decide) (hts _ k_fieldLink_rn_M_23_rn_M_list_I) (fun _ h9 => h9) rfl d_M_sign_60 ?_
                    refine lv_iload_n hx hb d_M_sign_63 rfl (lv_at hl 3 rfl) ?_
                    refine rw_iald (v := (nI (L i))) hx hb hK hP 5 0 rfl rfl (by omega) (by omega) (rfl) d_M_sign_64 ?_
                    refine lv_bipush (v := (nI (6))) hx hb d_M_sign_65 (by decide) ?_
                    refine rw_div hx hb d_M_sign_67 (by omega) (by omega) (by omega) ?_
                    refine lv_istore_n (lv' := [(2, .int (nI ((L i) / 6))), (0, .ref (a 0)), (1, .int (nI (z))), (3, .int (nI (i)))]) hx hb d_M_sign_68 rfl hl (by decide) rfl (fun ls hl => ?_)
                    refine lv_iinc (v := (nI (i + 1))) (lv' := [(3, .int (nI (i + 1))), (2, .int (nI ((L i) / 6))), (0, .ref (a 0)), (1, .int (nI (z)))]) hx hb d_M_sign_69 hl (k := 3) rfl (nI_add _ _) (by decide) rfl (fun ls hl => ?_)
                    refine lv_goto (tgt := 9) hx hb d_M_sign_72 (by decide) ?_
                    exact ih_9 (i + 1) (some _) (by omega) (rt_mn_lt hI (rt_sS_add c_38) (by omega)) _ _ _ hP hS (lv_sub hl [2, 3, 1, 0] rfl)
    exact LP_9 cn 0 none (by omega) (fun t9 h9 => by obtain ⟨j, hj, -⟩ := h9; omega) _ _ _ hP hS (lv_sub hl [2, 3, 1, 0] rfl)
  · refine lv_iconst (v := (-1)) hx hb d_M_sign_5 (by decide) ?_
    refine lv_istore_n (lv' := [(2, .int (-1)), (0, .ref (a 0)), (1, .int (x))]) hx hb d_M_sign_6 rfl hl (by decide) rfl (fun ls hl => ?_)
    refine lv_iconst (v := (nI (0))) hx hb d_M_sign_7 (by decide) ?_
    refine lv_istore_n (lv' := [(3, .int (nI (0))), (2, .int (-1)), (0, .ref (a 0)), (1, .int (x))]) hx hb d_M_sign_8 rfl hl (by decide) rfl (fun ls hl => ?_)
    refine lv_iload_n hx hb d_M_sign_9 rfl (lv_at hl 0 rfl) ?_
    refine lv_aload_n hx hb d_M_sign_10 rfl (lv_at hl 2 rfl) ?_
    refine va_get (D := D) (ci := 4) (v := .int (nI (cn))) (C := rn_M) (T := tf_M) (N := 12) hx hb hts in_M hown hK hP 0 rfl rfl 8 (by decide) (hts _ k_fieldLink_rn_M_52_rn_M_pieces_I) (fun _ h9 => h9) rfl d_M_sign_11 ?_
    refine rw_cge (tgt := 75) hx hb d_M_sign_14 (by decide) (by omega) (by omega) (fun c_14 => ?_) (fun c_14 => ?_)
    · refine lv_iload_n hx hb d_M_sign_75 rfl (lv_at hl 1 rfl) ?_
      exact w_iret () hx hb hr hlocks hS hP ((rt_sign_n (rt_ix_no (Bool.eq_false_iff.mpr hst))).symm) d_M_sign_76
    · refine lv_iload_n hx hb d_M_sign_17 rfl (lv_at hl 3 rfl) ?_
      refine w_si (As := [.int (x)]) (rest := []) ⟨hx, hb, hml, hown, hts⟩ (c_M_isStation l D cI cZ g a ha w h Q L cn (nI (0)) kf Z pf (x) hG) (va_cwS 1 hts (t_gS k_methodLink_rn_M_100_y_M_isStation k_static_y_M_isStation k_initialized_rn_M k_code_y_M_isStation_prog_6_method_27_code_1_some_boolean) rfl rfl rfl (by decide +kernel) ⟨Nat.le_of_ble_eq_true rfl, Nat.le_of_ble_eq_true rfl⟩) hP hK hZ hS rfl hl.1 rfl (Nat.le_of_ble_eq_true rfl) d_M_sign_18 ⟨Nat.zero_le _, Nat.zero_le _⟩ (fun r_18 u_18 H locs hw hP hS => ?_)
      subst hw
      have hP : va_P D vwCl (mw cI cZ a w h (fun p => rt_b (decide (Q p ≠ 0))) (fun p => nI (rt_g Q p)) (fun p => nI (rt_s Q p)) (fun i => nI (L i)) cn (nI (0)) kf (fun p => rt_b (Z p)) pf) H := hP
      rw [Bool.eq_false_iff.mpr hst]
      refine rw_beq (tgt := 75) hx hb d_M_sign_21 (by decide) (fun c_21 => ?_) (fun c_21 => ?_)
      · refine lv_iload_n hx hb d_M_sign_75 rfl (lv_at hl 1 rfl) ?_
        exact w_iret () hx hb hr hlocks hS hP ((rt_sign_n (rt_ix_no (Bool.eq_false_iff.mpr hst))).symm) d_M_sign_76
      · cases c_21

set_option maxHeartbeats 4000000 in
set_option maxRecDepth 100000 in
theorem c_M_target (l : Launch) (D : va_G) (cI cZ : ClassId) (g a : Nat → Nat) (ha : mI a) (w h : Nat) (Q L : Nat → Nat) (cn : Nat) (th : Int32) (kf : Nat → Int32) (Z : Nat → Bool) (pf : Nat → Int32) (x y : Int32) (hG : rt_G w h Q) : Met l y_M_target (.code y_M_target b_M_target 5 (some .boolean) :: tG) ({ frames := 3, cells := 0, slots := 0, locals := 67 }) (va_Pc [.ref (a 0), .int (x), .int (y)] (wU D cI cZ g (mA a) (mw cI cZ a w h (fun p => rt_b (decide (Q p ≠ 0))) (fun p => nI (rt_g Q p)) (fun p => nI (rt_s Q p)) (fun i => nI (L i)) cn th kf (fun p => rt_b (Z p)) pf))) (va_Qi (S := Unit) (fun r _ => r = rt_b (rt_isT Q w h x y)) (wB D (fun (u : Unit) => (mw cI cZ a w h (fun p => rt_b (decide (Q p ≠ 0))) (fun p => nI (rt_g Q p)) (fun p => nI (rt_s Q p)) (fun i => nI (L i)) cn th kf (fun p => rt_b (Z p)) pf))) (mA a)) 0 0 (mA a) := by
  refine Met.ofW (cc := b_M_target) (maxL := 5) (ret := (some .boolean)) (by decide) rfl ?_
  intro p e s m args below meth c s₁ BD9 hml hv
  obtain ⟨rfl, hP, hK, hZ⟩ := hv
  have hx := BD9.exec
  have hb := BD9.bytes
  have hr := BD9.returns
  have hts : ∀ w ∈ tG, w.before _ s = true := fun w hw => atoms_spec (ws := .code y_M_target b_M_target 5 (some .boolean) :: tG) BD9.pre w (List.mem_cons_of_mem _ hw)
  have hown : s.vm.findClass rn_M = some m.cls := findClass_of_methodNamed BD9.named
  have hlocks := BD9.notSynchronized
  have hS : va_S (mA a) s.heap s.heap [] := va_S.rf
  have hD : va_D (mA a) (mw cI cZ a w h (fun p => rt_b (decide (Q p ≠ 0))) (fun p => nI (rt_g Q p)) (fun p => nI (rt_s Q p)) (fun i => nI (L i)) cn th kf (fun p => rt_b (Z p)) pf) := m_D ha _ rfl
  have hP : va_P D vwCl (mw cI cZ a w h (fun p => rt_b (decide (Q p ≠ 0))) (fun p => nI (rt_g Q p)) (fun p => nI (rt_s Q p)) (fun i => nI (L i)) cn th kf (fun p => rt_b (Z p)) pf) s.heap := hP
  have hl := lv_entry ([.ref (a 0), .int (x), .int (y)]) (n := 5) (Nat.le_of_ble_eq_true rfl)
  rw [lg_entry_eq]
  generalize (lg_sl ([.ref (a 0), .int (x), .int (y)]) ++ List.replicate (5 - (lg_sl ([.ref (a 0), .int (x), .int (y)])).length) Slot.unset).toArray = ls at hl ⊢
  have hl : lv_has ls 5 [(0, .ref (a 0)), (1, .int (x)), (2, .int (y))] := hl
  obtain ⟨hn1, hn⟩ := hG.n
  have hw0 : 0 < w := by have := hG.1.1; omega
  have hQ := hG.2.2
  refine lv_aload_n hx hb d_M_target_0 rfl (lv_at hl 0 rfl) ?_
  refine lv_iload_n hx hb d_M_target_1 rfl (lv_at hl 1 rfl) ?_
  refine w_ci (As := [.int (x)]) (rest := []) ⟨hx, hb, hml, hown, hts⟩ (c_M_isOpen l D cI cZ g a ha w h Q L cn th kf Z pf x hG) (cwV 1 hts (t_gV k_methodLink_rn_M_75_y_M_isOpen k_instanceMethod_y_M_isOpen k_selects_rn_M_y_M_isOpen_y_M_isOpen k_initialized_rn_M k_code_y_M_isOpen_prog_6_method_13_code_2_some_boolean) rfl rfl rfl (by decide +kernel) ⟨Nat.le_of_ble_eq_true rfl, Nat.le_of_ble_eq_true rfl⟩) (va_recv hK hP (ci := 4) (q0 := 0) rfl rfl) hP hK hZ hS rfl hl.1 rfl (Nat.le_of_ble_eq_true rfl) d_M_target_2 ⟨Nat.zero_le _, Nat.zero_le _⟩ (fun r_2 u_2 H locs hw hP hS => ?_)
  subst hw
  have hP : va_P D vwCl (mw cI cZ a w h (fun p => rt_b (decide (Q p ≠ 0))) (fun p => nI (rt_g Q p)) (fun p => nI (rt_s Q p)) (fun i => nI (L i)) cn th kf (fun p => rt_b (Z p)) pf) H := hP
  refine rw_beq (tgt := 29) hx hb d_M_target_5 (by decide) (fun c_5 => ?_) (fun c_5 => ?_)
  · refine lv_iconst (v := (nI (0))) hx hb d_M_target_29 (by decide) ?_
    exact w_zret (v := false) () hx hb hr hlocks hS hP (congrArg rt_b (by first | exact (rt_isT_n (Or.inr c_5)).symm | exact (rt_isT_n (Or.inl (rt_ix_no c_12))).symm | (rw [rt_isT_s (by omega) hrr hz, rt_la_f c_26, Bool.and_false]))) d_M_target_30
  · obtain ⟨rr, hrr, rfl, horr⟩ := rt_opx_is (by omega) c_5
    refine lv_iload_n hx hb d_M_target_8 rfl (lv_at hl 2 rfl) ?_
    refine w_si (As := [.int (y)]) (rest := []) ⟨hx, hb, hml, hown, hts⟩ (c_M_isStation l D cI cZ g a ha w h Q L cn th kf Z pf y hG) (va_cwS 1 hts (t_gS k_methodLink_rn_M_100_y_M_isStation k_static_y_M_isStation k_initialized_rn_M k_code_y_M_isStation_prog_6_method_27_code_1_some_boolean) rfl rfl rfl (by decide +kernel) ⟨Nat.le_of_ble_eq_true rfl, Nat.le_of_ble_eq_true rfl⟩) hP hK hZ hS rfl hl.1 rfl (Nat.le_of_ble_eq_true rfl) d_M_target_9 ⟨Nat.zero_le _, Nat.zero_le _⟩ (fun r_9 u_9 H locs hw hP hS => ?_)
    subst hw
    have hP : va_P D vwCl (mw cI cZ a w h (fun p => rt_b (decide (Q p ≠ 0))) (fun p => nI (rt_g Q p)) (fun p => nI (rt_s Q p)) (fun i => nI (L i)) cn th kf (fun p => rt_b (Z p)) pf) H := hP
    refine rw_beq (tgt := 29) hx hb d_M_target_12 (by decide) (fun c_12 => ?_) (fun c_12 => ?_)
    · refine lv_iconst (v := (nI (0))) hx hb d_M_target_29 (by decide) ?_
      exact w_zret (v := false) () hx hb hr hlocks hS hP (congrArg rt_b (by first | exact (rt_isT_n (Or.inr c_5)).symm | exact (rt_isT_n (Or.inl (rt_ix_no c_12))).symm | (rw [rt_isT_s (by omega) hrr hz, rt_la_f c_26, Bool.and_false]))) d_M_target_30
    · obtain ⟨z, hz, rfl⟩ := rt_ix_is (by omega) c_12
      refine lv_aload_n hx hb d_M_target_15 rfl (lv_at hl 0 rfl) ?_
      refine va_get (D := D) (ci := 4) (v := .ref (a 4)) (C := rn_M) (T := tf_M) (N := 12) hx hb hts in_M hown hK hP 0 rfl rfl 6 (by decide) (hts _ k_fieldLink_rn_M_20_rn_M_stations_I) (fun _ h9 => h9) rfl d_M_target_16 ?_
      refine lv_iload_n hx hb d_M_target_19 rfl (lv_at hl 1 rfl) ?_
      refine lv_iconst (v := (nI (2))) hx hb d_M_target_20 (by decide) ?_
      refine rw_div hx hb d_M_target_21 (by omega) (by omega) (by omega) ?_
      refine rw_iald (v := (nI (rt_s Q (rr / 2)))) hx hb hK hP 4 0 rfl rfl (by omega) (by omega) (rfl) d_M_target_22 ?_
      refine lv_iload_n hx hb d_M_target_23 rfl (lv_at hl 2 rfl) ?_
      refine lv_iconst (v := (nI (1))) hx hb d_M_target_24 (by decide) ?_
      refine rw_add hx hb d_M_target_25 ?_
      refine rw_ceq (tgt := 31) hx hb d_M_target_26 (by decide) (by have := rt_ok_s hQ (rr / 2); omega) (by have := rt_ok_s hQ (rr / 2); omega) (fun c_26 => ?_) (fun c_26 => ?_)
      · refine lv_iconst (v := (nI (0))) hx hb d_M_target_31 (by decide) ?_
        refine lv_istore_n (lv' := [(3, .int (nI (0))), (0, .ref (a 0)), (1, .int (nI (rr))), (2, .int (nI (z)))]) hx hb d_M_target_32 rfl hl (by decide) rfl (fun ls hl => ?_)
        have LP_33 : ∀ (n_33 : Nat) (i : Nat), i + n_33 = 6 → (∀ f9, f9 ∈ rt_py Q w h rr i → rt_s Q (f9 / 2) ≠ z + 1) → ∀ (H : Heap) (locs : List Loc) (ls : Array Slot), va_P D vwCl (mw cI cZ a w h (fun p => rt_b (decide (Q p ≠ 0))) (fun p => nI (rt_g Q p)) (fun p => nI (rt_s Q p)) (fun i => nI (L i)) cn th kf (fun p => rt_b (Z p)) pf) H → va_S (mA a) s.heap H locs → lv_has ls 5 [(0, .ref (a 0)), (1, .int (nI (rr))), (2, .int (nI (z))), (3, .int (nI (i)))] → W p l e (headSpec (.code y_M_target b_M_target 5 (some .boolean) :: tG) ({ frames := 3, cells := 0, slots := 0, locals := 67 })).room s m ([.ref (a 0), .int ((nI rr)), .int ((nI z))] : List Value).toArray below meth c H locs 0 0 (MQ below (va_Qi (S := Unit) (fun r _ => r = rt_b (rt_isT Q w h (nI rr) (nI z))) (wB D (fun (u : Unit) => (mw cI cZ a w h (fun p => rt_b (decide (Q p ≠ 0))) (fun p => nI (rt_g Q p)) (fun p => nI (rt_s Q p)) (fun i => nI (L i)) cn th kf (fun p => rt_b (Z p)) pf))) (mA a)) ([.ref (a 0), .int ((nI rr)), .int ((nI z))] : List Value).toArray s 0 0 (mA a)) (F0 m 33 ls []) := by
          intro n_33
          induction n_33 with
          | zero =>
            intro i hrel_33 hI H locs ls hP hS hl
            have hD : va_D (mA a) (mw cI cZ a w h (fun p => rt_b (decide (Q p ≠ 0))) (fun p => nI (rt_g Q p)) (fun p => nI (rt_s Q p)) (fun i => nI (L i)) cn th kf (fun p => rt_b (Z p)) pf) := m_D ha _ rfl
            refine lv_iload_n hx hb d_M_target_33 rfl (lv_at hl 3 rfl) ?_
            refine lv_bipush (v := (nI (6))) hx hb d_M_target_34 (by decide) ?_
            refine rw_cge (tgt := 76) hx hb d_M_target_36 (by decide) (by omega) (by omega) (fun c_36 => ?_) (fun c_36 => ?_)
            · refine lv_iconst (v := (nI (1))) hx hb d_M_target_76 (by decide) ?_
              exact w_zret (v := true) () hx hb hr hlocks hS hP (congrArg rt_b (by rw [rt_isT_s (by omega) hrr hz, horr, rt_la_t c_26 (by rw [show i = 6 by omega, rt_py_6] at hI; exact hI)]; rfl)) d_M_target_77
            · omega
          | succ n_33 ih_33 =>
            intro i hrel_33 hI H locs ls hP hS hl
            have hD : va_D (mA a) (mw cI cZ a w h (fun p => rt_b (decide (Q p ≠ 0))) (fun p => nI (rt_g Q p)) (fun p => nI (rt_s Q p)) (fun i => nI (L i)) cn th kf (fun p => rt_b (Z p)) pf) := m_D ha _ rfl
            refine lv_iload_n hx hb d_M_target_33 rfl (lv_at hl 3 rfl) ?_
            refine lv_bipush (v := (nI (6))) hx hb d_M_target_34 (by decide) ?_
            refine rw_cge (tgt := 76) hx hb d_M_target_36 (by decide) (by omega) (by omega) (fun c_36 => ?_) (fun c_36 => ?_)
            · omega
            · refine lv_aload_n hx hb d_M_target_39 rfl (lv_at hl 0 rfl) ?_
              refine lv_iload_n hx hb d_M_target_40 rfl (lv_at hl 1 rfl) ?_
              refine lv_iload_n hx hb d_M_target_41 rfl (lv_at hl 3 rfl) ?_
              refine w_ci (As := [.int (nI (rr)), .int (nI (i))]) (rest := []) ⟨hx, hb, hml, hown, hts⟩ (c_M_follower l D cI cZ g a ha w h Q L cn th kf Z pf rr i hG hrr (by omega)) (cwV 2 hts (t_gV k_methodLink_rn_M_78_y_M_follower k_instanceMethod_y_M_follower k_selects_rn_M_y_M_follower_y_M_follower k_initialized_rn_M k_code_y_M_follower_prog_6_method_18_code_6_some_int) rfl rfl rfl (by decide +kernel) ⟨Nat.le_of_ble_eq_true rfl, Nat.le_of_ble_eq_true rfl⟩) (va_recv hK hP (ci := 4) (q0 := 0) rfl rfl) hP hK hZ hS rfl hl.1 rfl (Nat.le_of_ble_eq_true rfl) d_M_target_42 ⟨Nat.zero_le _, Nat.zero_le _⟩ (fun r_42 u_42 H locs hw hP hS => ?_)
              subst hw
              have hP : va_P D vwCl (mw cI cZ a w h (fun p => rt_b (decide (Q p ≠ 0))) (fun p => nI (rt_g Q p)) (fun p => nI (rt_s Q p)) (fun i => nI (L i)) cn th kf (fun p => rt_b (Z p)) pf) H := hP
              cases ho_45 : rt_fo Q w h rr i with
              | none =>
                refine lv_istore (lv' := [(4, .int (-1)), (0, .ref (a 0)), (1, .int (nI (rr))), (2, .int (nI (z))), (3, .int (nI (i)))]) hx hb d_M_target_45 hl (by decide) rfl (fun ls hl => ?_)
                refine lv_iload hx hb d_M_target_47 (lv_at hl 0 rfl) ?_
                refine lv_iconst (v := (-1)) hx hb d_M_target_49 (by decide) ?_
                refine lv_icmp_eq (tgt := 70) hx hb d_M_target_50 (by decide) (fun c_50 => ?_) (fun c_50 => ?_)
                · refine lv_iinc (v := (nI (i + 1))) (lv' := [(3, .int (nI (i + 1))), (4, .int (-1)), (0, .ref (a 0)), (1, .int (nI (rr))), (2, .int (nI (z)))]) hx hb d_M_target_70 hl (k := 4) rfl (nI_add _ _) (by decide) rfl (fun ls hl => ?_)
                  refine lv_goto (tgt := 33) hx hb d_M_target_73 (by decide) ?_
                  exact ih_33 (i + 1) (by omega) (by rw [rt_py_n ho_45]; exact hI) _ _ _ hP hS (lv_sub hl [2, 3, 4, 0] rfl)
                · exact absurd rfl c_50
              | some b =>
                have hb9 := rt_fo_lt (show i < 6 by omega) ho_45
                refine lv_istore (lv' := [(4, .int (nI (b))), (0, .ref (a 0)), (1, .int (nI (rr))), (2, .int (nI (z))), (3, .int (nI (i)))]) hx hb d_M_target_45 hl (by decide) rfl (fun ls hl => ?_)
                refine lv_iload hx hb d_M_target_47 (lv_at hl 0 rfl) ?_
                refine lv_iconst (v := (-1)) hx hb d_M_target_49 (by decide) ?_
                refine lv_icmp_eq (tgt := 70) hx hb d_M_target_50 (by decide) (fun c_50 => ?_) (fun c_50 => ?_)
                · exact absurd c_50 (rt_o_ne _ (by omega))
                · refine lv_aload_n hx hb d_M_target_53 rfl (lv_at hl 1 rfl) ?_
                  refine va_get (D := D) (ci := 4) (v := .ref (a 4)) (C := rn_M) (T := tf_M) (N := 12) hx hb hts in_M hown hK hP 0 rfl rfl 6 (by decide) (hts _ k_fieldLink_rn_M_20_rn_M_stations_I) (fun _ h9 => h9) rfl d_M_target_54 ?_
                  refine lv_iload hx hb d_M_target_57 (lv_at hl 0 rfl) ?_
                  refine lv_iconst (v := (nI (2))) hx hb d_M_target_59 (by decide) ?_
                  refine rw_div hx hb d_M_target_60 (by omega) (by omega) (by omega) ?_
                  refine rw_iald (v := (nI (rt_s Q (b / 2)))) hx hb hK hP 4 0 rfl rfl (by omega) (by omega) (rfl) d_M_target_61 ?_
                  refine lv_iload_n hx hb d_M_target_62 rfl (lv_at hl 3 rfl) ?_
                  refine lv_iconst (v := (nI (1))) hx hb d_M_target_63 (by decide) ?_
                  refine rw_add hx hb d_M_target_64 ?_
                  refine rw_cne (tgt := 70) hx hb d_M_target_65 (by decide) (by have := rt_ok_s hQ (b / 2); omega) (by have := rt_ok_s hQ (b / 2); omega) (fun c_65 => ?_) (fun c_65 => ?_)
                  · refine lv_iinc (v := (nI (i + 1))) (lv' := [(3, .int (nI (i + 1))), (4, .int (nI (b))), (0, .ref (a 0)), (1, .int (nI (rr))), (2, .int (nI (z)))]) hx hb d_M_target_70 hl (k := 4) rfl (nI_add _ _) (by decide) rfl (fun ls hl => ?_)
                    refine lv_goto (tgt := 33) hx hb d_M_target_73 (by decide) ?_
                    exact ih_33 (i + 1) (by omega) (by rw [rt_py_s ho_45]; intro f9 h9; rcases List.mem_append.mp h9 with q9 | q9; exact hI f9 q9; rw [List.mem_singleton] at q9; rw [q9]; exact c_65) _ _ _ hP hS (lv_sub hl [2, 3, 4, 0] rfl)
                  · refine lv_iconst (v := (nI (0))) hx hb d_M_target_68 (by decide) ?_
                    exact w_zret (v := false) () hx hb hr hlocks hS hP (congrArg rt_b (by rw [rt_isT_s (by omega) hrr hz, rt_la_n (rt_fo_k (show i < 6 by omega) ho_45).2.1 c_65, Bool.and_false])) d_M_target_69
        exact LP_33 6 0 (by omega) (fun f9 h9 => by cases h9) _ _ _ hP hS (lv_sub hl [1, 2, 3, 0] rfl)
      · refine lv_iconst (v := (nI (0))) hx hb d_M_target_29 (by decide) ?_
        exact w_zret (v := false) () hx hb hr hlocks hS hP (congrArg rt_b (by first | exact (rt_isT_n (Or.inr c_5)).symm | exact (rt_isT_n (Or.inl (rt_ix_no c_12))).symm | (rw [rt_isT_s (by omega) hrr hz, rt_la_f c_26, Bool.and_false]))) d_M_target_30

set_option maxHeartbeats 4000000 in
set_option maxRecDepth 100000 in
theorem c_M_isTarget (l : Launch) (D : va_G) (cI cZ : ClassId) (g a : Nat → Nat) (ha : mI a) (w h : Nat) (Q L : Nat → Nat) (cn : Nat) (th : Int32) (kf : Nat → Int32) (Z : Nat → Bool) (pf : Nat → Int32) (x y : Int32) (hG : rt_G w h Q) : Met l y_M_isTarget (.code y_M_isTarget b_M_isTarget 3 (some .boolean) :: tG) ({ frames := 4, cells := 0, slots := 0, locals := 91 }) (va_Pc [.ref (a 0), .int (x), .int (y)] (wU D cI cZ g (mA a) (mw cI cZ a w h (fun p => rt_b (decide (Q p ≠ 0))) (fun p => nI (rt_g Q p)) (fun p => nI (rt_s Q p)) (fun i => nI (L i)) cn th kf (fun p => rt_b (Z p)) pf))) (va_Qi (S := Unit) (fun r _ => r = rt_b (rt_isT Q w h x y)) (wB D (fun (u : Unit) => (mw cI cZ a w h (fun p => rt_b (decide (Q p ≠ 0))) (fun p => nI (rt_g Q p)) (fun p => nI (rt_s Q p)) (fun i => nI (L i)) cn (nI (0)) kf (fun p => rt_b (Z p)) pf))) (mA a)) 0 0 (mA a) := by
  refine Met.ofW (cc := b_M_isTarget) (maxL := 3) (ret := (some .boolean)) (by decide) rfl ?_
  intro p e s m args below meth c s₁ BD9 hml hv
  obtain ⟨rfl, hP, hK, hZ⟩ := hv
  have hx := BD9.exec
  have hb := BD9.bytes
  have hr := BD9.returns
  have hts : ∀ w ∈ tG, w.before _ s = true := fun w hw => atoms_spec (ws := .code y_M_isTarget b_M_isTarget 3 (some .boolean) :: tG) BD9.pre w (List.mem_cons_of_mem _ hw)
  have hown : s.vm.findClass rn_M = some m.cls := findClass_of_methodNamed BD9.named
  have hlocks := BD9.notSynchronized
  have hS : va_S (mA a) s.heap s.heap [] := va_S.rf
  have hD : va_D (mA a) (mw cI cZ a w h (fun p => rt_b (decide (Q p ≠ 0))) (fun p => nI (rt_g Q p)) (fun p => nI (rt_s Q p)) (fun i => nI (L i)) cn th kf (fun p => rt_b (Z p)) pf) := m_D ha _ rfl
  have hP : va_P D vwCl (mw cI cZ a w h (fun p => rt_b (decide (Q p ≠ 0))) (fun p => nI (rt_g Q p)) (fun p => nI (rt_s Q p)) (fun i => nI (L i)) cn th kf (fun p => rt_b (Z p)) pf) s.heap := hP
  have hl := lv_entry ([.ref (a 0), .int (x), .int (y)]) (n := 3) (Nat.le_of_ble_eq_true rfl)
  rw [lg_entry_eq]
  generalize (lg_sl ([.ref (a 0), .int (x), .int (y)]) ++ List.replicate (3 - (lg_sl ([.ref (a 0), .int (x), .int (y)])).length) Slot.unset).toArray = ls at hl ⊢
  have hl : lv_has ls 3 [(0, .ref (a 0)), (1, .int (x)), (2, .int (y))] := hl
  obtain ⟨hn1, hn⟩ := hG.n
  have hw0 : 0 < w := by have := hG.1.1; omega
  have hQ := hG.2.2
  refine lv_aload_n hx hb d_M_isTarget_0 rfl (lv_at hl 0 rfl) ?_
  refine lv_iconst (v := (nI (0))) hx hb d_M_isTarget_1 (by decide) ?_
  refine va_put (D := D) (ci := 4) (v := .int (nI (0))) (ty := .int) (C := rn_M) (T := tf_M) (N := 12) hx hb hts in_M tt_M tt_M_ok nm_M hown hK hP hD hS 0 rfl rfl 1 (by decide) (hts _ k_fieldLink_rn_M_42_rn_M_thrown_I) (fun _ h9 => h9) rfl (by decide +kernel) rfl rfl (Nat.le_of_ble_eq_true rfl) d_M_isTarget_2 (fun H locs hP hD hS => ?_)
  have hP : va_P D vwCl (mw cI cZ a w h (fun p => rt_b (decide (Q p ≠ 0))) (fun p => nI (rt_g Q p)) (fun p => nI (rt_s Q p)) (fun i => nI (L i)) cn (nI (0)) kf (fun p => rt_b (Z p)) pf) H := hP
  have hD : va_D (mA a) (mw cI cZ a w h (fun p => rt_b (decide (Q p ≠ 0))) (fun p => nI (rt_g Q p)) (fun p => nI (rt_s Q p)) (fun i => nI (L i)) cn (nI (0)) kf (fun p => rt_b (Z p)) pf) := m_D ha _ rfl
  refine lv_aload_n hx hb d_M_isTarget_5 rfl (lv_at hl 0 rfl) ?_
  refine lv_iload_n hx hb d_M_isTarget_6 rfl (lv_at hl 1 rfl) ?_
  refine lv_iload_n hx hb d_M_isTarget_7 rfl (lv_at hl 2 rfl) ?_
  refine w_ci (As := [.int (x), .int (y)]) (rest := []) ⟨hx, hb, hml, hown, hts⟩ (c_M_target l D cI cZ g a ha w h Q L cn (nI (0)) kf Z pf x y hG) (cwV 2 hts (t_gV k_methodLink_rn_M_103_y_M_target k_instanceMethod_y_M_target k_selects_rn_M_y_M_target_y_M_target k_initialized_rn_M k_code_y_M_target_prog_6_method_29_code_5_some_boolean) rfl rfl rfl (by decide +kernel) ⟨Nat.le_of_ble_eq_true rfl, Nat.le_of_ble_eq_true rfl⟩) (va_recv hK hP (ci := 4) (q0 := 0) rfl rfl) hP hK hZ hS rfl hl.1 rfl (Nat.le_of_ble_eq_true rfl) d_M_isTarget_8 ⟨Nat.zero_le _, Nat.zero_le _⟩ (fun r_8 u_8 H locs hw hP hS => ?_)
  subst hw
  have hP : va_P D vwCl (mw cI cZ a w h (fun p => rt_b (decide (Q p ≠ 0))) (fun p => nI (rt_g Q p)) (fun p => nI (rt_s Q p)) (fun i => nI (L i)) cn (nI (0)) kf (fun p => rt_b (Z p)) pf) H := hP
  exact w_zret (v := rt_isT Q w h x y) () hx hb hr hlocks hS hP (rfl) d_M_isTarget_11

set_option maxHeartbeats 4000000 in
set_option maxRecDepth 100000 in
theorem c_M_unreach (l : Launch) (D : va_G) (cI cZ : ClassId) (g a : Nat → Nat) (ha : mI a) (w h : Nat) (Q L : Nat → Nat) (cn : Nat) (th : Int32) (kf : Nat → Int32) (Z : Nat → Bool) (pf : Nat → Int32)  (hG : rt_G w h Q) : Met l y_M_unreach (.code y_M_unreach b_M_unreach 2 none :: tG) ({ frames := 0, cells := 0, slots := 0, locals := 0 }) (va_Pc [.ref (a 0)] (wU D cI cZ g (mA a) (mw cI cZ a w h (fun p => rt_b (decide (Q p ≠ 0))) (fun p => nI (rt_g Q p)) (fun p => nI (rt_s Q p)) (fun i => nI (L i)) cn th kf (fun p => rt_b (Z p)) pf))) (va_Qv (S := Unit) (fun _ => True) (wB D (fun (u : Unit) => (mw cI cZ a w h (fun p => rt_b (decide (Q p ≠ 0))) (fun p => nI (rt_g Q p)) (fun p => nI (rt_s Q p)) (fun i => nI (L i)) cn th kf (fun p => rt_b ((fun _ => false) p)) pf))) (mA a)) 0 0 (mA a) := by
  refine Met.ofW (cc := b_M_unreach) (maxL := 2) (ret := none) (by decide) rfl ?_
  intro p e s m args below meth c s₁ BD9 hml hv
  obtain ⟨rfl, hP, hK, hZ⟩ := hv
  have hx := BD9.exec
  have hb := BD9.bytes
  have hr := BD9.returns
  have hts : ∀ w ∈ tG, w.before _ s = true := fun w hw => atoms_spec (ws := .code y_M_unreach b_M_unreach 2 none :: tG) BD9.pre w (List.mem_cons_of_mem _ hw)
  have hown : s.vm.findClass rn_M = some m.cls := findClass_of_methodNamed BD9.named
  have hlocks := BD9.notSynchronized
  have hS : va_S (mA a) s.heap s.heap [] := va_S.rf
  have hD : va_D (mA a) (mw cI cZ a w h (fun p => rt_b (decide (Q p ≠ 0))) (fun p => nI (rt_g Q p)) (fun p => nI (rt_s Q p)) (fun i => nI (L i)) cn th kf (fun p => rt_b (Z p)) pf) := m_D ha _ rfl
  have hP : va_P D vwCl (mw cI cZ a w h (fun p => rt_b (decide (Q p ≠ 0))) (fun p => nI (rt_g Q p)) (fun p => nI (rt_s Q p)) (fun i => nI (L i)) cn th kf (fun p => rt_b (Z p)) pf) s.heap := hP
  have hl := lv_entry ([.ref (a 0)]) (n := 2) (Nat.le_of_ble_eq_true rfl)
  rw [lg_entry_eq]
  generalize (lg_sl ([.ref (a 0)]) ++ List.replicate (2 - (lg_sl ([.ref (a 0)])).length) Slot.unset).toArray = ls at hl ⊢
  have hl : lv_has ls 2 [(0, .ref (a 0))] := hl
  obtain ⟨hn1, hn⟩ := hG.n
  have hw0 : 0 < w := by have := hG.1.1; omega
  have hQ := hG.2.2
  refine lv_iconst (v := (nI (0))) hx hb d_M_unreach_0 (by decide) ?_
  refine lv_istore_n (lv' := [(1, .int (nI (0))), (0, .ref (a 0))]) hx hb d_M_unreach_1 rfl hl (by decide) rfl (fun ls hl => ?_)
  have hP := m_zf (zf' := fun p => rt_b (rt_zu Z 0 p)) (fun j hj => congrArg rt_b (rt_zu_0 Z j).symm) hP
  have LP_2 : ∀ (n_2 : Nat) (i : Nat), i + n_2 = 2400 → ∀ (H : Heap) (locs : List Loc) (ls : Array Slot), va_P D vwCl (mw cI cZ a w h (fun p => rt_b (decide (Q p ≠ 0))) (fun p => nI (rt_g Q p)) (fun p => nI (rt_s Q p)) (fun i => nI (L i)) cn th kf (fun p => rt_b ((rt_zu Z i) p)) pf) H → va_S (mA a) s.heap H locs → lv_has ls 2 [(0, .ref (a 0)), (1, .int (nI (i)))] → W p l e (headSpec (.code y_M_unreach b_M_unreach 2 none :: tG) ({ frames := 0, cells := 0, slots := 0, locals := 0 })).room s m ([.ref (a 0)] : List Value).toArray below meth c H locs 0 0 (MQ below (va_Qv (S := Unit) (fun _ => True) (wB D (fun (u : Unit) => (mw cI cZ a w h (fun p => rt_b (decide (Q p ≠ 0))) (fun p => nI (rt_g Q p)) (fun p => nI (rt_s Q p)) (fun i => nI (L i)) cn th kf (fun p => rt_b ((fun _ => false) p)) pf))) (mA a)) ([.ref (a 0)] : List Value).toArray s 0 0 (mA a)) (F0 m 2 ls []) := by
    intro n_2
    induction n_2 with
    | zero =>
      intro i hrel_2 H locs ls hP hS hl
      have hD : va_D (mA a) (mw cI cZ a w h (fun p => rt_b (decide (Q p ≠ 0))) (fun p => nI (rt_g Q p)) (fun p => nI (rt_s Q p)) (fun i => nI (L i)) cn th kf (fun p => rt_b ((rt_zu Z i) p)) pf) := m_D ha _ rfl
      refine lv_iload_n hx hb d_M_unreach_2 rfl (lv_at hl 1 rfl) ?_
      refine lv_sipush (v := (nI (2400))) hx hb d_M_unreach_3 (by decide) ?_
      refine rw_cge (tgt := 22) hx hb d_M_unreach_6 (by decide) (by omega) (by omega) (fun c_6 => ?_) (fun c_6 => ?_)
      · have hP := m_zf (zf' := fun p => rt_b ((fun _ => false) p)) (fun j hj => congrArg rt_b (by rw [show i = 2400 by omega]; exact rt_zu_e hj)) hP
        exact w_vret () hx hb hr hlocks hS hP trivial d_M_unreach_22
      · omega
    | succ n_2 ih_2 =>
      intro i hrel_2 H locs ls hP hS hl
      have hD : va_D (mA a) (mw cI cZ a w h (fun p => rt_b (decide (Q p ≠ 0))) (fun p => nI (rt_g Q p)) (fun p => nI (rt_s Q p)) (fun i => nI (L i)) cn th kf (fun p => rt_b ((rt_zu Z i) p)) pf) := m_D ha _ rfl
      refine lv_iload_n hx hb d_M_unreach_2 rfl (lv_at hl 1 rfl) ?_
      refine lv_sipush (v := (nI (2400))) hx hb d_M_unreach_3 (by decide) ?_
      refine rw_cge (tgt := 22) hx hb d_M_unreach_6 (by decide) (by omega) (by omega) (fun c_6 => ?_) (fun c_6 => ?_)
      · omega
      · refine lv_aload_n hx hb d_M_unreach_9 rfl (lv_at hl 0 rfl) ?_
        refine va_get (D := D) (ci := 4) (v := .ref (a 7)) (C := rn_M) (T := tf_M) (N := 12) hx hb hts in_M hown hK hP 0 rfl rfl 10 (by decide) (hts _ k_fieldLink_rn_M_29_rn_M_reached_Z) (fun _ h9 => h9) rfl d_M_unreach_10 ?_
        refine lv_iload_n hx hb d_M_unreach_13 rfl (lv_at hl 1 rfl) ?_
        refine lv_iconst (v := (nI (0))) hx hb d_M_unreach_14 (by decide) ?_
        refine rw_zast (h := (fun p => rt_b (rt_zu Z (i + 1) p))) hx hb hK hP hD hS 7 1 rfl rfl (by omega) (by omega) (fun j _ => rt_zu_s Z i j) d_M_unreach_15 (fun H locs hP hD hS => ?_)
        have hP : va_P D vwCl (mw cI cZ a w h (fun p => rt_b (decide (Q p ≠ 0))) (fun p => nI (rt_g Q p)) (fun p => nI (rt_s Q p)) (fun i => nI (L i)) cn th kf (fun p => rt_b (rt_zu Z (i + 1) p)) pf) H := hP
        have hD : va_D (mA a) (mw cI cZ a w h (fun p => rt_b (decide (Q p ≠ 0))) (fun p => nI (rt_g Q p)) (fun p => nI (rt_s Q p)) (fun i => nI (L i)) cn th kf (fun p => rt_b (rt_zu Z (i + 1) p)) pf) := m_D ha _ rfl
        refine lv_iinc (v := (nI (i + 1))) (lv' := [(1, .int (nI (i + 1))), (0, .ref (a 0))]) hx hb d_M_unreach_16 hl (k := 1) rfl (nI_add _ _) (by decide) rfl (fun ls hl => ?_)
        refine lv_goto (tgt := 2) hx hb d_M_unreach_19 (by decide) ?_
        exact ih_2 (i + 1) (by omega) _ _ _ hP hS (lv_sub hl [1, 0] rfl)
  exact LP_2 2400 0 (by omega) _ _ _ hP hS (lv_sub hl [1, 0] rfl)

set_option maxHeartbeats 4000000 in
set_option maxRecDepth 100000 in
theorem c_M_lowest (l : Launch) (D : va_G) (cI cZ : ClassId) (g a : Nat → Nat) (ha : mI a) (w h : Nat) (Q L : Nat → Nat) (cn : Nat) (th : Int32) (kf : Nat → Int32) (Z : Nat → Bool) (pf : Nat → Int32) (B : Nat → Nat) (p0 : Nat) (hG : rt_G w h Q) (hL : rt_isL Q L cn) (hB : rt_isB Q w h B) (hzc : rt_zc Q w h Z) (hz0 : Z p0 = false) (hq0 : Q p0 ≠ 0) : Met l y_M_lowest (.code y_M_lowest b_M_lowest 7 (some .int) :: tG) ({ frames := 3, cells := 0, slots := 0, locals := 66 }) (va_Pc [.ref (a 0), .int (nI (p0))] (wU D cI cZ g (mA a) (mw cI cZ a w h (fun p => rt_b (decide (Q p ≠ 0))) (fun p => nI (rt_g Q p)) (fun p => nI (rt_s Q p)) (fun i => nI (L i)) cn th kf (fun p => rt_b (Z p)) pf))) (va_Qi (S := ((Nat → Bool) × (Nat → Int32))) (fun r u => r = nI (B p0) ∧ rt_zc Q w h u.1 ∧ ∀ q, Q q ≠ 0 → (u.1 q = true ↔ (Z q = true ∨ B q = B p0))) (wB D (fun (u : ((Nat → Bool) × (Nat → Int32))) => (mw cI cZ a w h (fun p => rt_b (decide (Q p ≠ 0))) (fun p => nI (rt_g Q p)) (fun p => nI (rt_s Q p)) (fun i => nI (L i)) cn th kf (fun p => rt_b (u.1 p)) u.2))) (mA a)) 0 0 (mA a) := by
  refine Met.ofW (cc := b_M_lowest) (maxL := 7) (ret := (some .int)) (by decide) rfl ?_
  intro p e s m args below meth c s₁ BD9 hml hv
  obtain ⟨rfl, hP, hK, hZ⟩ := hv
  have hx := BD9.exec
  have hb := BD9.bytes
  have hr := BD9.returns
  have hts : ∀ w ∈ tG, w.before _ s = true := fun w hw => atoms_spec (ws := .code y_M_lowest b_M_lowest 7 (some .int) :: tG) BD9.pre w (List.mem_cons_of_mem _ hw)
  have hown : s.vm.findClass rn_M = some m.cls := findClass_of_methodNamed BD9.named
  have hlocks := BD9.notSynchronized
  have hS : va_S (mA a) s.heap s.heap [] := va_S.rf
  have hD : va_D (mA a) (mw cI cZ a w h (fun p => rt_b (decide (Q p ≠ 0))) (fun p => nI (rt_g Q p)) (fun p => nI (rt_s Q p)) (fun i => nI (L i)) cn th kf (fun p => rt_b (Z p)) pf) := m_D ha _ rfl
  have hP : va_P D vwCl (mw cI cZ a w h (fun p => rt_b (decide (Q p ≠ 0))) (fun p => nI (rt_g Q p)) (fun p => nI (rt_s Q p)) (fun i => nI (L i)) cn th kf (fun p => rt_b (Z p)) pf) s.heap := hP
  have hl := lv_entry ([.ref (a 0), .int (nI (p0))]) (n := 7) (Nat.le_of_ble_eq_true rfl)
  rw [lg_entry_eq]
  generalize (lg_sl ([.ref (a 0), .int (nI (p0))]) ++ List.replicate (7 - (lg_sl ([.ref (a 0), .int (nI (p0))])).length) Slot.unset).toArray = ls at hl ⊢
  have hl : lv_has ls 7 [(0, .ref (a 0)), (1, .int (nI (p0)))] := hl
  obtain ⟨hn1, hn⟩ := hG.n
  have hw0 : 0 < w := by have := hG.1.1; omega
  have hQ := hG.2.2
  have hcn := rt_isL_cap hQ hL
  have hp6 := rt_ok_in hQ hq0
  obtain ⟨R, rfl⟩ := rt_rN pf
  refine lv_iconst (v := (nI (1))) hx hb d_M_lowest_0 (by decide) ?_
  refine lv_istore_n (lv' := [(2, .int (nI (1))), (0, .ref (a 0)), (1, .int (nI (p0)))]) hx hb d_M_lowest_1 rfl hl (by decide) rfl (fun ls hl => ?_)
  refine lv_iload_n hx hb d_M_lowest_2 rfl (lv_at hl 2 rfl) ?_
  refine lv_istore_n (lv' := [(3, .int (nI (p0))), (2, .int (nI (1))), (0, .ref (a 0)), (1, .int (nI (p0)))]) hx hb d_M_lowest_3 rfl hl (by decide) rfl (fun ls hl => ?_)
  refine lv_aload_n hx hb d_M_lowest_4 rfl (lv_at hl 2 rfl) ?_
  refine va_get (D := D) (ci := 4) (v := .ref (a 8)) (C := rn_M) (T := tf_M) (N := 12) hx hb hts in_M hown hK hP 0 rfl rfl 11 (by decide) (hts _ k_fieldLink_rn_M_32_rn_M_pile_I) (fun _ h9 => h9) rfl d_M_lowest_5 ?_
  refine lv_iconst (v := (nI (0))) hx hb d_M_lowest_8 (by decide) ?_
  refine lv_iload_n hx hb d_M_lowest_9 rfl (lv_at hl 3 rfl) ?_
  refine rw_iast (h := (fun j => nI (va_up R 0 p0 j))) hx hb hK hP hD hS 8 0 rfl rfl (by omega) (by omega) (fun j _ => rt_upd R 0 p0 j) d_M_lowest_10 (fun H locs hP hD hS => ?_)
  have hP : va_P D vwCl (mw cI cZ a w h (fun p => rt_b (decide (Q p ≠ 0))) (fun p => nI (rt_g Q p)) (fun p => nI (rt_s Q p)) (fun i => nI (L i)) cn th kf (fun p => rt_b (Z p)) (fun j => nI (va_up R 0 p0 j))) H := hP
  have hD : va_D (mA a) (mw cI cZ a w h (fun p => rt_b (decide (Q p ≠ 0))) (fun p => nI (rt_g Q p)) (fun p => nI (rt_s Q p)) (fun i => nI (L i)) cn th kf (fun p => rt_b (Z p)) (fun j => nI (va_up R 0 p0 j))) := m_D ha _ rfl
  refine lv_aload_n hx hb d_M_lowest_11 rfl (lv_at hl 2 rfl) ?_
  refine va_get (D := D) (ci := 4) (v := .ref (a 7)) (C := rn_M) (T := tf_M) (N := 12) hx hb hts in_M hown hK hP 0 rfl rfl 10 (by decide) (hts _ k_fieldLink_rn_M_29_rn_M_reached_Z) (fun _ h9 => h9) rfl d_M_lowest_12 ?_
  refine lv_iload_n hx hb d_M_lowest_15 rfl (lv_at hl 3 rfl) ?_
  refine lv_iconst (v := (nI (1))) hx hb d_M_lowest_16 (by decide) ?_
  refine rw_zast (h := (fun p => rt_b (va_up Z p0 true p))) hx hb hK hP hD hS 7 1 rfl rfl (by omega) (by omega) (fun j _ => rt_updb Z p0 true j) d_M_lowest_17 (fun H locs hP hD hS => ?_)
  have hP : va_P D vwCl (mw cI cZ a w h (fun p => rt_b (decide (Q p ≠ 0))) (fun p => nI (rt_g Q p)) (fun p => nI (rt_s Q p)) (fun i => nI (L i)) cn th kf (fun p => rt_b (va_up Z p0 true p)) (fun j => nI (va_up R 0 p0 j))) H := hP
  have hD : va_D (mA a) (mw cI cZ a w h (fun p => rt_b (decide (Q p ≠ 0))) (fun p => nI (rt_g Q p)) (fun p => nI (rt_s Q p)) (fun i => nI (L i)) cn th kf (fun p => rt_b (va_up Z p0 true p)) (fun j => nI (va_up R 0 p0 j))) := m_D ha _ rfl
  refine lv_iconst (v := (nI (0))) hx hb d_M_lowest_18 (by decide) ?_
  refine lv_istore (lv' := [(4, .int (nI (0))), (3, .int (nI (p0))), (2, .int (nI (1))), (0, .ref (a 0)), (1, .int (nI (p0)))]) hx hb d_M_lowest_19 hl (by decide) rfl (fun ls hl => ?_)
  have LP_21 : ∀ (n_21 : Nat) (k : Nat) (sz : Nat) (least : Nat) (Z1 : Nat → Bool) (R1 : Nat → Nat), k + n_21 = 6 * (w * h) → (rt_pI Q w h B Z p0 Z1 R1 k sz least (fun _ _ => False)) → ∀ (H : Heap) (locs : List Loc) (ls : Array Slot), va_P D vwCl (mw cI cZ a w h (fun p => rt_b (decide (Q p ≠ 0))) (fun p => nI (rt_g Q p)) (fun p => nI (rt_s Q p)) (fun i => nI (L i)) cn th kf (fun p => rt_b (Z1 p)) (fun j => nI (R1 j))) H → va_S (mA a) s.heap H locs → lv_has ls 7 [(0, .ref (a 0)), (1, .int (nI (p0))), (2, .int (nI (sz))), (3, .int (nI (least))), (4, .int (nI (k)))] → W p l e (headSpec (.code y_M_lowest b_M_lowest 7 (some .int) :: tG) ({ frames := 3, cells := 0, slots := 0, locals := 66 })).room s m ([.ref (a 0), .int (nI (p0))] : List Value).toArray below meth c H locs 0 0 (MQ below (va_Qi (S := ((Nat → Bool) × (Nat → Int32))) (fun r u => r = nI (B p0) ∧ rt_zc Q w h u.1 ∧ ∀ q, Q q ≠ 0 → (u.1 q = true ↔ (Z q = true ∨ B q = B p0))) (wB D (fun (u : ((Nat → Bool) × (Nat → Int32))) => (mw cI cZ a w h (fun p => rt_b (decide (Q p ≠ 0))) (fun p => nI (rt_g Q p)) (fun p => nI (rt_s Q p)) (fun i => nI (L i)) cn th kf (fun p => rt_b (u.1 p)) u.2))) (mA a)) ([.ref (a 0), .int (nI (p0))] : List Value).toArray s 0 0 (mA a)) (F0 m 21 ls []) := by
    intro n_21
    induction n_21 with
    | zero =>
      intro k sz least Z1 R1 hrel_21 hI H locs ls hP hS hl
      have hD : va_D (mA a) (mw cI cZ a w h (fun p => rt_b (decide (Q p ≠ 0))) (fun p => nI (rt_g Q p)) (fun p => nI (rt_s Q p)) (fun i => nI (L i)) cn th kf (fun p => rt_b (Z1 p)) (fun j => nI (R1 j))) := m_D ha _ rfl
      have hcap := rt_pI_cap hQ hI
      have hlst : least < 6 * (w * h) := by obtain ⟨⟨j9, hj9, e9⟩, -⟩ := hI.2.2.2.2.2.2; rw [← e9]; exact rt_ok_in hQ (hI.2.2.1 j9 hj9).1
      refine lv_iload hx hb d_M_lowest_21 (lv_at hl 4 rfl) ?_
      refine lv_iload_n hx hb d_M_lowest_23 rfl (lv_at hl 2 rfl) ?_
      refine rw_cge (tgt := 121) hx hb d_M_lowest_24 (by decide) (by omega) (by omega) (fun c_24 => ?_) (fun c_24 => ?_)
      · refine lv_iload_n hx hb d_M_lowest_121 rfl (lv_at hl 3 rfl) ?_
        obtain rfl : k = sz := by have := hI.1; omega
        obtain ⟨g1, g2, g3⟩ := rt_pI_end hw0 hQ hB hzc hI
        exact w_iret (Z1, _) hx hb hr hlocks hS hP ⟨by rw [g1], g2, g3⟩ d_M_lowest_122
      · omega
    | succ n_21 ih_21 =>
      intro k sz least Z1 R1 hrel_21 hI H locs ls hP hS hl
      have hD : va_D (mA a) (mw cI cZ a w h (fun p => rt_b (decide (Q p ≠ 0))) (fun p => nI (rt_g Q p)) (fun p => nI (rt_s Q p)) (fun i => nI (L i)) cn th kf (fun p => rt_b (Z1 p)) (fun j => nI (R1 j))) := m_D ha _ rfl
      have hcap := rt_pI_cap hQ hI
      have hlst : least < 6 * (w * h) := by obtain ⟨⟨j9, hj9, e9⟩, -⟩ := hI.2.2.2.2.2.2; rw [← e9]; exact rt_ok_in hQ (hI.2.2.1 j9 hj9).1
      refine lv_iload hx hb d_M_lowest_21 (lv_at hl 4 rfl) ?_
      refine lv_iload_n hx hb d_M_lowest_23 rfl (lv_at hl 2 rfl) ?_
      refine rw_cge (tgt := 121) hx hb d_M_lowest_24 (by decide) (by omega) (by omega) (fun c_24 => ?_) (fun c_24 => ?_)
      · refine lv_iload_n hx hb d_M_lowest_121 rfl (lv_at hl 3 rfl) ?_
        obtain rfl : k = sz := by have := hI.1; omega
        obtain ⟨g1, g2, g3⟩ := rt_pI_end hw0 hQ hB hzc hI
        exact w_iret (Z1, _) hx hb hr hlocks hS hP ⟨by rw [g1], g2, g3⟩ d_M_lowest_122
      · have hJ0 := rt_pJ_0 (L := L) hI (by omega)
        refine lv_iconst (v := (nI (0))) hx hb d_M_lowest_27 (by decide) ?_
        refine lv_istore (lv' := [(5, .int (nI (0))), (0, .ref (a 0)), (1, .int (nI (p0))), (2, .int (nI (sz))), (3, .int (nI (least))), (4, .int (nI (k)))]) hx hb d_M_lowest_28 hl (by decide) rfl (fun ls hl => ?_)
        obtain ⟨f0, hf0⟩ : ∃ f0, f0 = R1 k := ⟨_, rfl⟩
        rw [← hf0] at hJ0
        have hf0q : Q f0 ≠ 0 := by rw [hf0]; exact (hI.2.2.1 k hJ0.2.2).1
        have hf06 := rt_ok_in hQ hf0q
        have LP_30 : ∀ (n_30 : Nat) (i : Nat) (sz : Nat) (least : Nat) (Z1 : Nat → Bool) (R1 : Nat → Nat), i + n_30 = cn → (rt_pJ Q w h B Z p0 L k f0 i Z1 R1 sz least) → ∀ (H : Heap) (locs : List Loc) (ls : Array Slot), va_P D vwCl (mw cI cZ a w h (fun p => rt_b (decide (Q p ≠ 0))) (fun p => nI (rt_g Q p)) (fun p => nI (rt_s Q p)) (fun i => nI (L i)) cn th kf (fun p => rt_b (Z1 p)) (fun j => nI (R1 j))) H → va_S (mA a) s.heap H locs → lv_has ls 7 [(0, .ref (a 0)), (1, .int (nI (p0))), (2, .int (nI (sz))), (3, .int (nI (least))), (4, .int (nI (k))), (5, .int (nI (i)))] → W p l e (headSpec (.code y_M_lowest b_M_lowest 7 (some .int) :: tG) ({ frames := 3, cells := 0, slots := 0, locals := 66 })).room s m ([.ref (a 0), .int (nI (p0))] : List Value).toArray below meth c H locs 0 0 (MQ below (va_Qi (S := ((Nat → Bool) × (Nat → Int32))) (fun r u => r = nI (B p0) ∧ rt_zc Q w h u.1 ∧ ∀ q, Q q ≠ 0 → (u.1 q = true ↔ (Z q = true ∨ B q = B p0))) (wB D (fun (u : ((Nat → Bool) × (Nat → Int32))) => (mw cI cZ a w h (fun p => rt_b (decide (Q p ≠ 0))) (fun p => nI (rt_g Q p)) (fun p => nI (rt_s Q p)) (fun i => nI (L i)) cn th kf (fun p => rt_b (u.1 p)) u.2))) (mA a)) ([.ref (a 0), .int (nI (p0))] : List Value).toArray s 0 0 (mA a)) (F0 m 30 ls []) := by
          intro n_30
          induction n_30 with
          | zero =>
            intro i sz least Z1 R1 hrel_30 hJ H locs ls hP hS hl
            have hD : va_D (mA a) (mw cI cZ a w h (fun p => rt_b (decide (Q p ≠ 0))) (fun p => nI (rt_g Q p)) (fun p => nI (rt_s Q p)) (fun i => nI (L i)) cn th kf (fun p => rt_b (Z1 p)) (fun j => nI (R1 j))) := m_D ha _ rfl
            have hcap := rt_pI_cap hQ hJ.1
            have hksz := hJ.2.2
            have hLi : i < cn → L i < 6 * (w * h) := fun q => rt_ok_in hQ (hL.1 i q)
            have hlst : least < 6 * (w * h) := by obtain ⟨⟨j9, hj9, e9⟩, -⟩ := hJ.1.2.2.2.2.2.2; rw [← e9]; exact rt_ok_in hQ (hJ.1.2.2.1 j9 hj9).1
            refine lv_iload hx hb d_M_lowest_30 (lv_at hl 5 rfl) ?_
            refine lv_aload_n hx hb d_M_lowest_32 rfl (lv_at hl 0 rfl) ?_
            refine va_get (D := D) (ci := 4) (v := .int (nI (cn))) (C := rn_M) (T := tf_M) (N := 12) hx hb hts in_M hown hK hP 0 rfl rfl 8 (by decide) (hts _ k_fieldLink_rn_M_52_rn_M_pieces_I) (fun _ h9 => h9) rfl d_M_lowest_33 ?_
            refine rw_cge (tgt := 115) hx hb d_M_lowest_36 (by decide) (by omega) (by omega) (fun c_36 => ?_) (fun c_36 => ?_)
            · refine lv_iinc (v := (nI (k + 1))) (lv' := [(4, .int (nI (k + 1))), (0, .ref (a 0)), (1, .int (nI (p0))), (2, .int (nI (sz))), (3, .int (nI (least))), (5, .int (nI (i)))]) hx hb d_M_lowest_115 hl (k := 4) rfl (nI_add _ _) (by decide) rfl (fun ls hl => ?_)
              refine lv_goto (tgt := 21) hx hb d_M_lowest_118 (by decide) ?_
              exact ih_21 (k + 1) sz least Z1 R1 (by omega) (rt_pJ_end hL (by rw [show i = cn by omega] at hJ; exact hJ)) _ _ _ hP hS (lv_sub hl [1, 2, 3, 4, 0] rfl)
            · omega
          | succ n_30 ih_30 =>
            intro i sz least Z1 R1 hrel_30 hJ H locs ls hP hS hl
            have hD : va_D (mA a) (mw cI cZ a w h (fun p => rt_b (decide (Q p ≠ 0))) (fun p => nI (rt_g Q p)) (fun p => nI (rt_s Q p)) (fun i => nI (L i)) cn th kf (fun p => rt_b (Z1 p)) (fun j => nI (R1 j))) := m_D ha _ rfl
            have hcap := rt_pI_cap hQ hJ.1
            have hksz := hJ.2.2
            have hLi : i < cn → L i < 6 * (w * h) := fun q => rt_ok_in hQ (hL.1 i q)
            have hlst : least < 6 * (w * h) := by obtain ⟨⟨j9, hj9, e9⟩, -⟩ := hJ.1.2.2.2.2.2.2; rw [← e9]; exact rt_ok_in hQ (hJ.1.2.2.1 j9 hj9).1
            refine lv_iload hx hb d_M_lowest_30 (lv_at hl 5 rfl) ?_
            refine lv_aload_n hx hb d_M_lowest_32 rfl (lv_at hl 0 rfl) ?_
            refine va_get (D := D) (ci := 4) (v := .int (nI (cn))) (C := rn_M) (T := tf_M) (N := 12) hx hb hts in_M hown hK hP 0 rfl rfl 8 (by decide) (hts _ k_fieldLink_rn_M_52_rn_M_pieces_I) (fun _ h9 => h9) rfl d_M_lowest_33 ?_
            refine rw_cge (tgt := 115) hx hb d_M_lowest_36 (by decide) (by omega) (by omega) (fun c_36 => ?_) (fun c_36 => ?_)
            · omega
            · refine lv_aload_n hx hb d_M_lowest_39 rfl (lv_at hl 0 rfl) ?_
              refine va_get (D := D) (ci := 4) (v := .ref (a 5)) (C := rn_M) (T := tf_M) (N := 12) hx hb hts in_M hown hK hP 0 rfl rfl 7 (by decide) (hts _ k_fieldLink_rn_M_23_rn_M_list_I) (fun _ h9 => h9) rfl d_M_lowest_40 ?_
              refine lv_iload hx hb d_M_lowest_43 (lv_at hl 5 rfl) ?_
              refine rw_iald (v := (nI (L i))) hx hb hK hP 5 0 rfl rfl (by omega) (by omega) (rfl) d_M_lowest_45 ?_
              refine lv_istore (lv' := [(6, .int (nI (L i))), (0, .ref (a 0)), (1, .int (nI (p0))), (2, .int (nI (sz))), (3, .int (nI (least))), (4, .int (nI (k))), (5, .int (nI (i)))]) hx hb d_M_lowest_46 hl (by decide) rfl (fun ls hl => ?_)
              refine lv_aload_n hx hb d_M_lowest_48 rfl (lv_at hl 1 rfl) ?_
              refine va_get (D := D) (ci := 4) (v := .ref (a 7)) (C := rn_M) (T := tf_M) (N := 12) hx hb hts in_M hown hK hP 0 rfl rfl 10 (by decide) (hts _ k_fieldLink_rn_M_29_rn_M_reached_Z) (fun _ h9 => h9) rfl d_M_lowest_49 ?_
              refine lv_iload hx hb d_M_lowest_52 (lv_at hl 0 rfl) ?_
              refine rw_zald (v := (rt_b (Z1 (L i)))) hx hb hK hP 7 1 rfl rfl (by omega) (by omega) (rfl) d_M_lowest_54 ?_
              refine rw_bne (tgt := 109) hx hb d_M_lowest_55 (by decide) (fun c_55 => ?_) (fun c_55 => ?_)
              · refine lv_iinc (v := (nI (i + 1))) (lv' := [(5, .int (nI (i + 1))), (6, .int (nI (L i))), (0, .ref (a 0)), (1, .int (nI (p0))), (2, .int (nI (sz))), (3, .int (nI (least))), (4, .int (nI (k)))]) hx hb d_M_lowest_109 hl (k := 6) rfl (nI_add _ _) (by decide) rfl (fun ls hl => ?_)
                refine lv_goto (tgt := 30) hx hb d_M_lowest_112 (by decide) ?_
                exact ih_30 (i + 1) sz least Z1 R1 (by omega) (rt_pJ_skip hJ (Or.inl c_55)) _ _ _ hP hS (lv_sub hl [2, 3, 4, 5, 6, 0] rfl)
              · refine lv_aload_n hx hb d_M_lowest_58 rfl (lv_at hl 1 rfl) ?_
                refine lv_aload_n hx hb d_M_lowest_59 rfl (lv_at hl 1 rfl) ?_
                refine va_get (D := D) (ci := 4) (v := .ref (a 8)) (C := rn_M) (T := tf_M) (N := 12) hx hb hts in_M hown hK hP 0 rfl rfl 11 (by decide) (hts _ k_fieldLink_rn_M_32_rn_M_pile_I) (fun _ h9 => h9) rfl d_M_lowest_60 ?_
                refine lv_iload hx hb d_M_lowest_63 (lv_at hl 5 rfl) ?_
                refine rw_iald (v := (nI (f0))) hx hb hK hP 8 0 rfl rfl (by omega) (by omega) (by show nI (R1 k) = _; rw [hJ.2.1]) d_M_lowest_65 ?_
                refine lv_iload hx hb d_M_lowest_66 (lv_at hl 0 rfl) ?_
                refine w_ci (As := [.int (nI (f0)), .int (nI (L i))]) (rest := []) ⟨hx, hb, hml, hown, hts⟩ (c_M_touch l D cI cZ g a ha w h Q L cn th kf Z1 (fun j => nI (R1 j)) f0 (L i) hG hf06 (by omega)) (cwV 2 hts (t_gV k_methodLink_rn_M_88_y_M_touch k_instanceMethod_y_M_touch k_selects_rn_M_y_M_touch_y_M_touch k_initialized_rn_M k_code_y_M_touch_prog_6_method_23_code_4_some_boolean) rfl rfl rfl (by decide +kernel) ⟨Nat.le_of_ble_eq_true rfl, Nat.le_of_ble_eq_true rfl⟩) (va_recv hK hP (ci := 4) (q0 := 0) rfl rfl) hP hK hZ hS rfl hl.1 rfl (Nat.le_of_ble_eq_true rfl) d_M_lowest_68 ⟨Nat.zero_le _, Nat.zero_le _⟩ (fun r_68 u_68 H locs hw hP hS => ?_)
                subst hw
                have hP : va_P D vwCl (mw cI cZ a w h (fun p => rt_b (decide (Q p ≠ 0))) (fun p => nI (rt_g Q p)) (fun p => nI (rt_s Q p)) (fun i => nI (L i)) cn th kf (fun p => rt_b (Z1 p)) (fun j => nI (R1 j))) H := hP
                refine rw_bne (tgt := 77) hx hb d_M_lowest_71 (by decide) (fun c_71 => ?_) (fun c_71 => ?_)
                · have htc : rt_tc Q w h f0 (L i) := (rt_tm_tc hw0 hQ hf0q (hL.1 i (by omega))).mp c_71
                  have hJ1 := rt_pJ_join hB hJ c_55 htc
                  have hcap1 := rt_pI_cap hQ hJ1.1
                  refine lv_aload_n hx hb d_M_lowest_77 rfl (lv_at hl 1 rfl) ?_
                  refine va_get (D := D) (ci := 4) (v := .ref (a 7)) (C := rn_M) (T := tf_M) (N := 12) hx hb hts in_M hown hK hP 0 rfl rfl 10 (by decide) (hts _ k_fieldLink_rn_M_29_rn_M_reached_Z) (fun _ h9 => h9) rfl d_M_lowest_78 ?_
                  refine lv_iload hx hb d_M_lowest_81 (lv_at hl 0 rfl) ?_
                  refine lv_iconst (v := (nI (1))) hx hb d_M_lowest_83 (by decide) ?_
                  refine rw_zast (h := (fun p => rt_b (va_up Z1 (L i) true p))) hx hb hK hP hD hS 7 1 rfl rfl (by omega) (by omega) (fun j _ => rt_updb Z1 (L i) true j) d_M_lowest_84 (fun H locs hP hD hS => ?_)
                  have hP : va_P D vwCl (mw cI cZ a w h (fun p => rt_b (decide (Q p ≠ 0))) (fun p => nI (rt_g Q p)) (fun p => nI (rt_s Q p)) (fun i => nI (L i)) cn th kf (fun p => rt_b (va_up Z1 (L i) true p)) (fun j => nI (R1 j))) H := hP
                  have hD : va_D (mA a) (mw cI cZ a w h (fun p => rt_b (decide (Q p ≠ 0))) (fun p => nI (rt_g Q p)) (fun p => nI (rt_s Q p)) (fun i => nI (L i)) cn th kf (fun p => rt_b (va_up Z1 (L i) true p)) (fun j => nI (R1 j))) := m_D ha _ rfl
                  refine lv_aload_n hx hb d_M_lowest_85 rfl (lv_at hl 1 rfl) ?_
                  refine va_get (D := D) (ci := 4) (v := .ref (a 8)) (C := rn_M) (T := tf_M) (N := 12) hx hb hts in_M hown hK hP 0 rfl rfl 11 (by decide) (hts _ k_fieldLink_rn_M_32_rn_M_pile_I) (fun _ h9 => h9) rfl d_M_lowest_86 ?_
                  refine lv_iload_n hx hb d_M_lowest_89 rfl (lv_at hl 3 rfl) ?_
                  refine lv_iload hx hb d_M_lowest_90 (lv_at hl 0 rfl) ?_
                  refine rw_iast (h := (fun j => nI (va_up R1 sz (L i) j))) hx hb hK hP hD hS 8 0 rfl rfl (by omega) (by omega) (fun j _ => rt_upd R1 sz (L i) j) d_M_lowest_92 (fun H locs hP hD hS => ?_)
                  have hP : va_P D vwCl (mw cI cZ a w h (fun p => rt_b (decide (Q p ≠ 0))) (fun p => nI (rt_g Q p)) (fun p => nI (rt_s Q p)) (fun i => nI (L i)) cn th kf (fun p => rt_b (va_up Z1 (L i) true p)) (fun j => nI (va_up R1 sz (L i) j))) H := hP
                  have hD : va_D (mA a) (mw cI cZ a w h (fun p => rt_b (decide (Q p ≠ 0))) (fun p => nI (rt_g Q p)) (fun p => nI (rt_s Q p)) (fun i => nI (L i)) cn th kf (fun p => rt_b (va_up Z1 (L i) true p)) (fun j => nI (va_up R1 sz (L i) j))) := m_D ha _ rfl
                  refine lv_iinc (v := (nI (sz + 1))) (lv' := [(2, .int (nI (sz + 1))), (6, .int (nI (L i))), (0, .ref (a 0)), (1, .int (nI (p0))), (3, .int (nI (least))), (4, .int (nI (k))), (5, .int (nI (i)))]) hx hb d_M_lowest_93 hl (k := 3) rfl (nI_add _ _) (by decide) rfl (fun ls hl => ?_)
                  refine lv_iload hx hb d_M_lowest_96 (lv_at hl 1 rfl) ?_
                  refine lv_iload_n hx hb d_M_lowest_98 rfl (lv_at hl 4 rfl) ?_
                  refine rw_cge (tgt := 107) hx hb d_M_lowest_99 (by decide) (by omega) (by omega) (fun c_99 => ?_) (fun c_99 => ?_)
                  · refine lv_iload_n hx hb d_M_lowest_107 rfl (lv_at hl 4 rfl) ?_
                    refine lv_istore_n (lv' := [(3, .int (nI (least))), (2, .int (nI (sz + 1))), (6, .int (nI (L i))), (0, .ref (a 0)), (1, .int (nI (p0))), (4, .int (nI (k))), (5, .int (nI (i)))]) hx hb d_M_lowest_108 rfl hl (by decide) rfl (fun ls hl => ?_)
                    refine lv_iinc (v := (nI (i + 1))) (lv' := [(5, .int (nI (i + 1))), (3, .int (nI (least))), (2, .int (nI (sz + 1))), (6, .int (nI (L i))), (0, .ref (a 0)), (1, .int (nI (p0))), (4, .int (nI (k)))]) hx hb d_M_lowest_109 hl (k := 6) rfl (nI_add _ _) (by decide) rfl (fun ls hl => ?_)
                    refine lv_goto (tgt := 30) hx hb d_M_lowest_112 (by decide) ?_
                    rw [if_neg (show ¬ L i < least by omega)] at hJ1
                    exact ih_30 (i + 1) (sz + 1) least _ _ (by omega) hJ1 _ _ _ hP hS (lv_sub hl [4, 5, 2, 1, 6, 0] rfl)
                  · refine lv_iload hx hb d_M_lowest_102 (lv_at hl 1 rfl) ?_
                    refine lv_goto (tgt := 108) hx hb d_M_lowest_104 (by decide) ?_
                    refine lv_istore_n (lv' := [(3, .int (nI (L i))), (2, .int (nI (sz + 1))), (6, .int (nI (L i))), (0, .ref (a 0)), (1, .int (nI (p0))), (4, .int (nI (k))), (5, .int (nI (i)))]) hx hb d_M_lowest_108 rfl hl (by decide) rfl (fun ls hl => ?_)
                    refine lv_iinc (v := (nI (i + 1))) (lv' := [(5, .int (nI (i + 1))), (3, .int (nI (L i))), (2, .int (nI (sz + 1))), (6, .int (nI (L i))), (0, .ref (a 0)), (1, .int (nI (p0))), (4, .int (nI (k)))]) hx hb d_M_lowest_109 hl (k := 6) rfl (nI_add _ _) (by decide) rfl (fun ls hl => ?_)
                    refine lv_goto (tgt := 30) hx hb d_M_lowest_112 (by decide) ?_
                    rw [if_pos (show L i < least by omega)] at hJ1
                    exact ih_30 (i + 1) (sz + 1) (L i) _ _ (by omega) hJ1 _ _ _ hP hS (lv_sub hl [4, 5, 2, 1, 6, 0] rfl)
                · refine lv_goto (tgt := 109) hx hb d_M_lowest_74 (by decide) ?_
                  refine lv_iinc (v := (nI (i + 1))) (lv' := [(5, .int (nI (i + 1))), (6, .int (nI (L i))), (0, .ref (a 0)), (1, .int (nI (p0))), (2, .int (nI (sz))), (3, .int (nI (least))), (4, .int (nI (k)))]) hx hb d_M_lowest_109 hl (k := 6) rfl (nI_add _ _) (by decide) rfl (fun ls hl => ?_)
                  refine lv_goto (tgt := 30) hx hb d_M_lowest_112 (by decide) ?_
                  exact ih_30 (i + 1) sz least Z1 R1 (by omega) (rt_pJ_skip hJ (Or.inr (fun q9 => by rw [(rt_tm_tc hw0 hQ hf0q (hL.1 i (by omega))).mpr q9] at c_71; cases c_71))) _ _ _ hP hS (lv_sub hl [2, 3, 4, 5, 6, 0] rfl)
        exact LP_30 cn 0 sz least Z1 R1 (by omega) hJ0 _ _ _ hP hS (lv_sub hl [1, 2, 3, 4, 5, 0] rfl)
  exact LP_21 (6 * (w * h)) 0 1 p0 _ _ (by omega) (rt_pI_0 hq0 hz0) _ _ _ hP hS (lv_sub hl [3, 4, 2, 1, 0] rfl)

set_option maxHeartbeats 4000000 in
set_option maxRecDepth 100000 in
theorem c_M_block (l : Launch) (D : va_G) (cI cZ : ClassId) (g a : Nat → Nat) (ha : mI a) (w h : Nat) (Q L : Nat → Nat) (cn : Nat) (th : Int32) (kf : Nat → Int32) (Z : Nat → Bool) (pf : Nat → Int32) (x y : Int32) (B : Nat → Nat) (hG : rt_G w h Q) (hL : rt_isL Q L cn) (hB : rt_isP Q (w * h) x y = true → rt_isB Q w h B) : Met l y_M_block (.code y_M_block b_M_block 3 (some .int) :: tG) ({ frames := 4, cells := 0, slots := 0, locals := 92 }) (va_Pc [.ref (a 0), .int (x), .int (y)] (wU D cI cZ g (mA a) (mw cI cZ a w h (fun p => rt_b (decide (Q p ≠ 0))) (fun p => nI (rt_g Q p)) (fun p => nI (rt_s Q p)) (fun i => nI (L i)) cn th kf (fun p => rt_b (Z p)) pf))) (va_Qi (S := ((Nat → Bool) × (Nat → Int32))) (fun r _ => r = rt_blk Q (w * h) B x y) (wB D (fun (u : ((Nat → Bool) × (Nat → Int32))) => (mw cI cZ a w h (fun p => rt_b (decide (Q p ≠ 0))) (fun p => nI (rt_g Q p)) (fun p => nI (rt_s Q p)) (fun i => nI (L i)) cn (nI (0)) kf (fun p => rt_b (u.1 p)) u.2))) (mA a)) 0 0 (mA a) := by
  refine Met.ofW (cc := b_M_block) (maxL := 3) (ret := (some .int)) (by decide) rfl ?_
  intro p e s m args below meth c s₁ BD9 hml hv
  obtain ⟨rfl, hP, hK, hZ⟩ := hv
  have hx := BD9.exec
  have hb := BD9.bytes
  have hr := BD9.returns
  have hts : ∀ w ∈ tG, w.before _ s = true := fun w hw => atoms_spec (ws := .code y_M_block b_M_block 3 (some .int) :: tG) BD9.pre w (List.mem_cons_of_mem _ hw)
  have hown : s.vm.findClass rn_M = some m.cls := findClass_of_methodNamed BD9.named
  have hlocks := BD9.notSynchronized
  have hS : va_S (mA a) s.heap s.heap [] := va_S.rf
  have hD : va_D (mA a) (mw cI cZ a w h (fun p => rt_b (decide (Q p ≠ 0))) (fun p => nI (rt_g Q p)) (fun p => nI (rt_s Q p)) (fun i => nI (L i)) cn th kf (fun p => rt_b (Z p)) pf) := m_D ha _ rfl
  have hP : va_P D vwCl (mw cI cZ a w h (fun p => rt_b (decide (Q p ≠ 0))) (fun p => nI (rt_g Q p)) (fun p => nI (rt_s Q p)) (fun i => nI (L i)) cn th kf (fun p => rt_b (Z p)) pf) s.heap := hP
  have hl := lv_entry ([.ref (a 0), .int (x), .int (y)]) (n := 3) (Nat.le_of_ble_eq_true rfl)
  rw [lg_entry_eq]
  generalize (lg_sl ([.ref (a 0), .int (x), .int (y)]) ++ List.replicate (3 - (lg_sl ([.ref (a 0), .int (x), .int (y)])).length) Slot.unset).toArray = ls at hl ⊢
  have hl : lv_has ls 3 [(0, .ref (a 0)), (1, .int (x)), (2, .int (y))] := hl
  obtain ⟨hn1, hn⟩ := hG.n
  have hw0 : 0 < w := by have := hG.1.1; omega
  have hQ := hG.2.2
  have hcn := rt_isL_cap hQ hL
  refine lv_aload_n hx hb d_M_block_0 rfl (lv_at hl 0 rfl) ?_
  refine lv_iconst (v := (nI (0))) hx hb d_M_block_1 (by decide) ?_
  refine va_put (D := D) (ci := 4) (v := .int (nI (0))) (ty := .int) (C := rn_M) (T := tf_M) (N := 12) hx hb hts in_M tt_M tt_M_ok nm_M hown hK hP hD hS 0 rfl rfl 1 (by decide) (hts _ k_fieldLink_rn_M_42_rn_M_thrown_I) (fun _ h9 => h9) rfl (by decide +kernel) rfl rfl (Nat.le_of_ble_eq_true rfl) d_M_block_2 (fun H locs hP hD hS => ?_)
  have hP : va_P D vwCl (mw cI cZ a w h (fun p => rt_b (decide (Q p ≠ 0))) (fun p => nI (rt_g Q p)) (fun p => nI (rt_s Q p)) (fun i => nI (L i)) cn (nI (0)) kf (fun p => rt_b (Z p)) pf) H := hP
  have hD : va_D (mA a) (mw cI cZ a w h (fun p => rt_b (decide (Q p ≠ 0))) (fun p => nI (rt_g Q p)) (fun p => nI (rt_s Q p)) (fun i => nI (L i)) cn (nI (0)) kf (fun p => rt_b (Z p)) pf) := m_D ha _ rfl
  refine lv_aload_n hx hb d_M_block_5 rfl (lv_at hl 0 rfl) ?_
  refine lv_iload_n hx hb d_M_block_6 rfl (lv_at hl 1 rfl) ?_
  refine lv_iload_n hx hb d_M_block_7 rfl (lv_at hl 2 rfl) ?_
  refine w_ci (As := [.int (x), .int (y)]) (rest := []) ⟨hx, hb, hml, hown, hts⟩ (c_M_isPiece l D cI cZ g a ha w h Q L cn (nI (0)) kf Z pf x y hG) (cwV 2 hts (t_gV k_methodLink_rn_M_91_y_M_isPiece k_instanceMethod_y_M_isPiece k_selects_rn_M_y_M_isPiece_y_M_isPiece k_initialized_rn_M k_code_y_M_isPiece_prog_6_method_5_code_3_some_boolean) rfl rfl rfl (by decide +kernel) ⟨Nat.le_of_ble_eq_true rfl, Nat.le_of_ble_eq_true rfl⟩) (va_recv hK hP (ci := 4) (q0 := 0) rfl rfl) hP hK hZ hS rfl hl.1 rfl (Nat.le_of_ble_eq_true rfl) d_M_block_8 ⟨Nat.zero_le _, Nat.zero_le _⟩ (fun r_8 u_8 H locs hw hP hS => ?_)
  subst hw
  have hP : va_P D vwCl (mw cI cZ a w h (fun p => rt_b (decide (Q p ≠ 0))) (fun p => nI (rt_g Q p)) (fun p => nI (rt_s Q p)) (fun i => nI (L i)) cn (nI (0)) kf (fun p => rt_b (Z p)) pf) H := hP
  refine rw_bne (tgt := 16) hx hb d_M_block_11 (by decide) (fun c_11 => ?_) (fun c_11 => ?_)
  · have hB9 := hB c_11
    obtain ⟨t, k, ht, hk, rfl, rfl, hq9⟩ := rt_isP_is (by omega) c_11
    refine lv_aload_n hx hb d_M_block_16 rfl (lv_at hl 0 rfl) ?_
    refine w_cv (As := []) (rest := []) ⟨hx, hb, hml, hown, hts⟩ (c_M_unreach l D cI cZ g a ha w h Q L cn (nI (0)) kf Z pf  hG) (cwV 0 hts (t_gV k_methodLink_rn_M_94_y_M_unreach k_instanceMethod_y_M_unreach k_selects_rn_M_y_M_unreach_y_M_unreach k_initialized_rn_M k_code_y_M_unreach_prog_6_method_25_code_2_none) rfl rfl rfl (by decide +kernel) ⟨Nat.le_of_ble_eq_true rfl, Nat.le_of_ble_eq_true rfl⟩) (va_recv hK hP (ci := 4) (q0 := 0) rfl rfl) hP hK hZ hS rfl hl.1 rfl (Nat.le_of_ble_eq_true rfl) d_M_block_17 ⟨Nat.zero_le _, Nat.zero_le _⟩ (fun u_17 H locs hw hP hS => ?_)
    have hP : va_P D vwCl (mw cI cZ a w h (fun p => rt_b (decide (Q p ≠ 0))) (fun p => nI (rt_g Q p)) (fun p => nI (rt_s Q p)) (fun i => nI (L i)) cn (nI (0)) kf (fun p => rt_b ((fun _ => false) p)) pf) H := hP
    have hD : va_D (mA a) (mw cI cZ a w h (fun p => rt_b (decide (Q p ≠ 0))) (fun p => nI (rt_g Q p)) (fun p => nI (rt_s Q p)) (fun i => nI (L i)) cn (nI (0)) kf (fun p => rt_b ((fun _ => false) p)) pf) := m_D ha _ rfl
    refine lv_aload_n hx hb d_M_block_20 rfl (lv_at hl 0 rfl) ?_
    refine lv_bipush (v := (nI (6))) hx hb d_M_block_21 (by decide) ?_
    refine lv_iload_n hx hb d_M_block_23 rfl (lv_at hl 1 rfl) ?_
    refine rw_mul hx hb d_M_block_24 ?_
    refine lv_iload_n hx hb d_M_block_25 rfl (lv_at hl 2 rfl) ?_
    refine rw_add hx hb d_M_block_26 ?_
    refine w_ci (As := [.int (nI ((6 * t) + k))]) (rest := []) ⟨hx, hb, hml, hown, hts⟩ (c_M_lowest l D cI cZ g a ha w h Q L cn (nI (0)) kf (fun _ => false) pf B (6 * t + k) hG hL hB9 (rt_zc_0 Q w h) rfl hq9) (cwV 1 hts (t_gV k_methodLink_rn_M_97_y_M_lowest k_instanceMethod_y_M_lowest k_selects_rn_M_y_M_lowest_y_M_lowest k_initialized_rn_M k_code_y_M_lowest_prog_6_method_24_code_7_some_int) rfl rfl rfl (by decide +kernel) ⟨Nat.le_of_ble_eq_true rfl, Nat.le_of_ble_eq_true rfl⟩) (va_recv hK hP (ci := 4) (q0 := 0) rfl rfl) hP hK hZ hS rfl hl.1 rfl (Nat.le_of_ble_eq_true rfl) d_M_block_27 ⟨Nat.zero_le _, Nat.zero_le _⟩ (fun r_27 u_27 H locs hw hP hS => ?_)
    obtain ⟨Z1, pf1⟩ := u_27
    obtain ⟨hw1, hw2, hw3⟩ := hw
    subst hw1
    have hP : va_P D vwCl (mw cI cZ a w h (fun p => rt_b (decide (Q p ≠ 0))) (fun p => nI (rt_g Q p)) (fun p => nI (rt_s Q p)) (fun i => nI (L i)) cn (nI (0)) kf (fun p => rt_b (Z1 p)) pf1) H := hP
    have hD : va_D (mA a) (mw cI cZ a w h (fun p => rt_b (decide (Q p ≠ 0))) (fun p => nI (rt_g Q p)) (fun p => nI (rt_s Q p)) (fun i => nI (L i)) cn (nI (0)) kf (fun p => rt_b (Z1 p)) pf1) := m_D ha _ rfl
    exact w_iret (Z1, pf1) hx hb hr hlocks hS hP (by rw [rt_blk_s (by omega) ht hk, if_pos hq9]; rfl) d_M_block_30
  · refine lv_iconst (v := (-1)) hx hb d_M_block_14 (by decide) ?_
    exact w_iret (Z, pf) hx hb hr hlocks hS hP ((rt_blk_f (by omega) c_11).symm) d_M_block_15
