/-! The reference: follower, next, before; by program (wip/whole/gen/mod2.py) -/
set_option maxHeartbeats 4000000 in
set_option maxRecDepth 100000 in
theorem c_M_follower (l : Launch) (D : va_G) (cI cZ : ClassId) (g a : Nat → Nat) (ha : mI a) (w h : Nat) (Q L : Nat → Nat) (cn : Nat) (th : Int32) (kf : Nat → Int32) (Z : Nat → Bool) (pf : Nat → Int32) (r k : Nat) (hG : rt_G w h Q) (hr0 : r < 12 * (w * h)) (hk : k < 6) : Met l y_M_follower (.code y_M_follower b_M_follower 6 (some .int) :: tG) ({ frames := 2, cells := 0, slots := 0, locals := 42 }) (va_Pc [.ref (a 0), .int (nI (r)), .int (nI (k))] (wU D cI cZ g (mA a) (mw cI cZ a w h (fun p => rt_b (decide (Q p ≠ 0))) (fun p => nI (rt_g Q p)) (fun p => nI (rt_s Q p)) (fun i => nI (L i)) cn th kf (fun p => rt_b (Z p)) pf))) (va_Qi (S := Unit) (fun x _ => x = rt_o (rt_fo Q w h r k)) (wB D (fun (u : Unit) => (mw cI cZ a w h (fun p => rt_b (decide (Q p ≠ 0))) (fun p => nI (rt_g Q p)) (fun p => nI (rt_s Q p)) (fun i => nI (L i)) cn th kf (fun p => rt_b (Z p)) pf))) (mA a)) 0 0 (mA a) := by
  refine Met.ofW (cc := b_M_follower) (maxL := 6) (ret := (some .int)) (by decide) rfl ?_
  intro p e s m args below meth c s₁ BD9 hml hv
  obtain ⟨rfl, hP, hK, hZ⟩ := hv
  have hx := BD9.exec
  have hb := BD9.bytes
  have hr := BD9.returns
  have hts : ∀ w ∈ tG, w.before _ s = true := fun w hw => atoms_spec (ws := .code y_M_follower b_M_follower 6 (some .int) :: tG) BD9.pre w (List.mem_cons_of_mem _ hw)
  have hown : s.vm.findClass rn_M = some m.cls := findClass_of_methodNamed BD9.named
  have hlocks := BD9.notSynchronized
  have hS : va_S (mA a) s.heap s.heap [] := va_S.rf
  have hD : va_D (mA a) (mw cI cZ a w h (fun p => rt_b (decide (Q p ≠ 0))) (fun p => nI (rt_g Q p)) (fun p => nI (rt_s Q p)) (fun i => nI (L i)) cn th kf (fun p => rt_b (Z p)) pf) := m_D ha _ rfl
  have hP : va_P D vwCl (mw cI cZ a w h (fun p => rt_b (decide (Q p ≠ 0))) (fun p => nI (rt_g Q p)) (fun p => nI (rt_s Q p)) (fun i => nI (L i)) cn th kf (fun p => rt_b (Z p)) pf) s.heap := hP
  have hl := lv_entry ([.ref (a 0), .int (nI (r)), .int (nI (k))]) (n := 6) (Nat.le_of_ble_eq_true rfl)
  rw [lg_entry_eq]
  generalize (lg_sl ([.ref (a 0), .int (nI (r)), .int (nI (k))]) ++ List.replicate (6 - (lg_sl ([.ref (a 0), .int (nI (r)), .int (nI (k))])).length) Slot.unset).toArray = ls at hl ⊢
  have hl : lv_has ls 6 [(0, .ref (a 0)), (1, .int (nI (r))), (2, .int (nI (k)))] := hl
  obtain ⟨hn1, hn⟩ := hG.n
  have hw0 : 0 < w := by have := hG.1.1; omega
  have hQ := hG.2.2
  have hl12 : r % 12 < 12 := Nat.mod_lt _ (by decide)
  have hmt := (rt_mt_lt _ hl12).1
  have hmo := rt_mo_lt _ hmt
  refine lv_aload_n hx hb d_M_follower_0 rfl (lv_at hl 0 rfl) ?_
  refine lv_iload_n hx hb d_M_follower_1 rfl (lv_at hl 1 rfl) ?_
  refine lv_bipush (v := (nI (12))) hx hb d_M_follower_2 (by decide) ?_
  refine rw_div hx hb d_M_follower_4 (by omega) (by omega) (by omega) ?_
  refine lv_aload_n hx hb d_M_follower_5 rfl (lv_at hl 0 rfl) ?_
  refine lv_iload_n hx hb d_M_follower_6 rfl (lv_at hl 1 rfl) ?_
  refine w_ci (As := [.int (nI (r))]) (rest := [.int (nI (r / 12)), .ref (a 0)]) ⟨hx, hb, hml, hown, hts⟩ (c_M_to l D cI cZ g a ha w h Q L cn th kf Z pf r hG hr0) (cwV 1 hts (t_gV k_methodLink_rn_M_62_y_M_to k_instanceMethod_y_M_to k_selects_rn_M_y_M_to_y_M_to k_initialized_rn_M k_code_y_M_to_prog_6_method_15_code_2_some_int) rfl rfl rfl (by decide +kernel) ⟨Nat.le_of_ble_eq_true rfl, Nat.le_of_ble_eq_true rfl⟩) (va_recv hK hP (ci := 4) (q0 := 0) rfl rfl) hP hK hZ hS rfl hl.1 rfl (Nat.le_of_ble_eq_true rfl) d_M_follower_7 ⟨Nat.zero_le _, Nat.zero_le _⟩ (fun r_7 u_7 H locs hw hP hS => ?_)
  subst hw
  have hP : va_P D vwCl (mw cI cZ a w h (fun p => rt_b (decide (Q p ≠ 0))) (fun p => nI (rt_g Q p)) (fun p => nI (rt_s Q p)) (fun i => nI (L i)) cn th kf (fun p => rt_b (Z p)) pf) H := hP
  refine w_ci (As := [.int (nI (r / 12)), .int (nI (rt_mt (r % 12)))]) (rest := []) ⟨hx, hb, hml, hown, hts⟩ (c_M_beyond l D cI cZ g a ha w h Q L cn th kf Z pf (r / 12) (rt_mt (r % 12)) hG (by omega) hmt) (cwV 2 hts (t_gV k_methodLink_rn_M_65_y_M_beyond k_instanceMethod_y_M_beyond k_selects_rn_M_y_M_beyond_y_M_beyond k_initialized_rn_M k_code_y_M_beyond_prog_6_method_16_code_5_some_int) rfl rfl rfl (by decide +kernel) ⟨Nat.le_of_ble_eq_true rfl, Nat.le_of_ble_eq_true rfl⟩) (va_recv hK hP (ci := 4) (q0 := 0) rfl rfl) hP hK hZ hS rfl hl.1 rfl (Nat.le_of_ble_eq_true rfl) d_M_follower_10 ⟨Nat.zero_le _, Nat.zero_le _⟩ (fun r_10 u_10 H locs hw hP hS => ?_)
  rw [rt_tr_to _ hl12] at hw
  subst hw
  have hP : va_P D vwCl (mw cI cZ a w h (fun p => rt_b (decide (Q p ≠ 0))) (fun p => nI (rt_g Q p)) (fun p => nI (rt_s Q p)) (fun i => nI (L i)) cn th kf (fun p => rt_b (Z p)) pf) H := hP
  cases ho_13 : rt_nb w h (r / 12) (rt_to (r % 12)) with
  | none =>
    refine lv_istore_n (lv' := [(3, .int (-1)), (0, .ref (a 0)), (1, .int (nI (r))), (2, .int (nI (k)))]) hx hb d_M_follower_13 rfl hl (by decide) rfl (fun ls hl => ?_)
    refine lv_iload_n hx hb d_M_follower_14 rfl (lv_at hl 0 rfl) ?_
    refine lv_iconst (v := (-1)) hx hb d_M_follower_15 (by decide) ?_
    refine lv_icmp_ne (tgt := 21) hx hb d_M_follower_16 (by decide) (fun c_16 => ?_) (fun c_16 => ?_)
    · exact absurd rfl c_16
    · refine lv_iconst (v := (-1)) hx hb d_M_follower_19 (by decide) ?_
      exact w_iret () hx hb hr hlocks hS hP (by rw [rt_fo_none ho_13]; rfl) d_M_follower_20
  | some tt =>
    have htt : tt < w * h := (rt_nb_back hw0 (by omega) (rt_to_lt _ hl12) ho_13).1
    refine lv_istore_n (lv' := [(3, .int (nI (tt))), (0, .ref (a 0)), (1, .int (nI (r))), (2, .int (nI (k)))]) hx hb d_M_follower_13 rfl hl (by decide) rfl (fun ls hl => ?_)
    refine lv_iload_n hx hb d_M_follower_14 rfl (lv_at hl 0 rfl) ?_
    refine lv_iconst (v := (-1)) hx hb d_M_follower_15 (by decide) ?_
    refine lv_icmp_ne (tgt := 21) hx hb d_M_follower_16 (by decide) (fun c_16 => ?_) (fun c_16 => ?_)
    · refine lv_iconst (v := (nI (0))) hx hb d_M_follower_21 (by decide) ?_
      refine lv_istore (lv' := [(4, .int (nI (0))), (3, .int (nI (tt))), (0, .ref (a 0)), (1, .int (nI (r))), (2, .int (nI (k)))]) hx hb d_M_follower_22 hl (by decide) rfl (fun ls hl => ?_)
      have LP_24 : ∀ (n_24 : Nat) (i : Nat), i + n_24 = 2 → (∀ e9, e9 < i → ¬ rt_ft Q w h r k tt e9) → ∀ (H : Heap) (locs : List Loc) (ls : Array Slot), va_P D vwCl (mw cI cZ a w h (fun p => rt_b (decide (Q p ≠ 0))) (fun p => nI (rt_g Q p)) (fun p => nI (rt_s Q p)) (fun i => nI (L i)) cn th kf (fun p => rt_b (Z p)) pf) H → va_S (mA a) s.heap H locs → lv_has ls 6 [(0, .ref (a 0)), (1, .int (nI (r))), (2, .int (nI (k))), (3, .int (nI (tt))), (4, .int (nI (i)))] → W p l e (headSpec (.code y_M_follower b_M_follower 6 (some .int) :: tG) ({ frames := 2, cells := 0, slots := 0, locals := 42 })).room s m ([.ref (a 0), .int (nI (r)), .int (nI (k))] : List Value).toArray below meth c H locs 0 0 (MQ below (va_Qi (S := Unit) (fun x _ => x = rt_o (rt_fo Q w h r k)) (wB D (fun (u : Unit) => (mw cI cZ a w h (fun p => rt_b (decide (Q p ≠ 0))) (fun p => nI (rt_g Q p)) (fun p => nI (rt_s Q p)) (fun i => nI (L i)) cn th kf (fun p => rt_b (Z p)) pf))) (mA a)) ([.ref (a 0), .int (nI (r)), .int (nI (k))] : List Value).toArray s 0 0 (mA a)) (F0 m 24 ls []) := by
        intro n_24
        induction n_24 with
        | zero =>
          intro i hrel_24 hI H locs ls hP hS hl
          have hD : va_D (mA a) (mw cI cZ a w h (fun p => rt_b (decide (Q p ≠ 0))) (fun p => nI (rt_g Q p)) (fun p => nI (rt_s Q p)) (fun i => nI (L i)) cn th kf (fun p => rt_b (Z p)) pf) := m_D ha _ rfl
          refine lv_iload hx hb d_M_follower_24 (lv_at hl 4 rfl) ?_
          refine lv_iconst (v := (nI (2))) hx hb d_M_follower_26 (by decide) ?_
          refine rw_cge (tgt := 78) hx hb d_M_follower_27 (by decide) (by omega) (by omega) (fun c_27 => ?_) (fun c_27 => ?_)
          · refine lv_iconst (v := (-1)) hx hb d_M_follower_78 (by decide) ?_
            exact w_iret () hx hb hr hlocks hS hP (by rw [rt_fo_miss ho_13 (by rw [show i = 2 by omega] at hI; exact hI)]; rfl) d_M_follower_79
          · omega
        | succ n_24 ih_24 =>
          intro i hrel_24 hI H locs ls hP hS hl
          have hD : va_D (mA a) (mw cI cZ a w h (fun p => rt_b (decide (Q p ≠ 0))) (fun p => nI (rt_g Q p)) (fun p => nI (rt_s Q p)) (fun i => nI (L i)) cn th kf (fun p => rt_b (Z p)) pf) := m_D ha _ rfl
          refine lv_iload hx hb d_M_follower_24 (lv_at hl 4 rfl) ?_
          refine lv_iconst (v := (nI (2))) hx hb d_M_follower_26 (by decide) ?_
          refine rw_cge (tgt := 78) hx hb d_M_follower_27 (by decide) (by omega) (by omega) (fun c_27 => ?_) (fun c_27 => ?_)
          · omega
          · refine lv_iconst (v := (nI (2))) hx hb d_M_follower_30 (by decide) ?_
            refine lv_bipush (v := (nI (6))) hx hb d_M_follower_31 (by decide) ?_
            refine lv_iload_n hx hb d_M_follower_33 rfl (lv_at hl 3 rfl) ?_
            refine rw_mul hx hb d_M_follower_34 ?_
            refine lv_iload_n hx hb d_M_follower_35 rfl (lv_at hl 2 rfl) ?_
            refine rw_add hx hb d_M_follower_36 ?_
            refine rw_mul hx hb d_M_follower_37 ?_
            refine lv_iload hx hb d_M_follower_38 (lv_at hl 4 rfl) ?_
            refine rw_add hx hb d_M_follower_40 ?_
            refine rw_top (b := 12 * tt + (2 * k + i)) (by omega) ?_
            refine lv_istore (lv' := [(5, .int (nI (12 * tt + (2 * k + i)))), (0, .ref (a 0)), (1, .int (nI (r))), (2, .int (nI (k))), (3, .int (nI (tt))), (4, .int (nI (i)))]) hx hb d_M_follower_41 hl (by decide) rfl (fun ls hl => ?_)
            refine lv_aload_n hx hb d_M_follower_43 rfl (lv_at hl 1 rfl) ?_
            refine lv_iload hx hb d_M_follower_44 (lv_at hl 0 rfl) ?_
            refine w_ci (As := [.int (nI (12 * tt + (2 * k + i)))]) (rest := []) ⟨hx, hb, hml, hown, hts⟩ (c_M_from l D cI cZ g a ha w h Q L cn th kf Z pf (12 * tt + (2 * k + i)) hG (by omega)) (cwV 1 hts (t_gV k_methodLink_rn_M_69_y_M_from k_instanceMethod_y_M_from k_selects_rn_M_y_M_from_y_M_from k_initialized_rn_M k_code_y_M_from_prog_6_method_14_code_2_some_int) rfl rfl rfl (by decide +kernel) ⟨Nat.le_of_ble_eq_true rfl, Nat.le_of_ble_eq_true rfl⟩) (va_recv hK hP (ci := 4) (q0 := 0) rfl rfl) hP hK hZ hS rfl hl.1 rfl (Nat.le_of_ble_eq_true rfl) d_M_follower_46 ⟨Nat.zero_le _, Nat.zero_le _⟩ (fun r_46 u_46 H locs hw hP hS => ?_)
            rw [show (12 * tt + (2 * k + i)) % 12 = 2 * k + i by omega] at hw
            subst hw
            have hP : va_P D vwCl (mw cI cZ a w h (fun p => rt_b (decide (Q p ≠ 0))) (fun p => nI (rt_g Q p)) (fun p => nI (rt_s Q p)) (fun i => nI (L i)) cn th kf (fun p => rt_b (Z p)) pf) H := hP
            have hmf := (rt_mt_lt (2 * k + i) (by omega)).2
            refine lv_aload_n hx hb d_M_follower_49 rfl (lv_at hl 1 rfl) ?_
            refine lv_iload_n hx hb d_M_follower_50 rfl (lv_at hl 2 rfl) ?_
            refine w_ci (As := [.int (nI (r))]) (rest := [.int (nI (rt_mf (2 * k + i)))]) ⟨hx, hb, hml, hown, hts⟩ (c_M_to l D cI cZ g a ha w h Q L cn th kf Z pf r hG hr0) (cwV 1 hts (t_gV k_methodLink_rn_M_62_y_M_to k_instanceMethod_y_M_to k_selects_rn_M_y_M_to_y_M_to k_initialized_rn_M k_code_y_M_to_prog_6_method_15_code_2_some_int) rfl rfl rfl (by decide +kernel) ⟨Nat.le_of_ble_eq_true rfl, Nat.le_of_ble_eq_true rfl⟩) (va_recv hK hP (ci := 4) (q0 := 0) rfl rfl) hP hK hZ hS rfl hl.1 rfl (Nat.le_of_ble_eq_true rfl) d_M_follower_51 ⟨Nat.zero_le _, Nat.zero_le _⟩ (fun r_51 u_51 H locs hw hP hS => ?_)
            subst hw
            have hP : va_P D vwCl (mw cI cZ a w h (fun p => rt_b (decide (Q p ≠ 0))) (fun p => nI (rt_g Q p)) (fun p => nI (rt_s Q p)) (fun i => nI (L i)) cn th kf (fun p => rt_b (Z p)) pf) H := hP
            refine w_si (As := [.int (nI (rt_mt (r % 12)))]) (rest := [.int (nI (rt_mf (2 * k + i)))]) ⟨hx, hb, hml, hown, hts⟩ (c_M_other l D cI cZ g a ha w h Q L cn th kf Z pf (rt_mt (r % 12)) hG hmt) (va_cwS 1 hts (t_gS k_methodLink_rn_M_72_y_M_other k_static_y_M_other k_initialized_rn_M k_code_y_M_other_prog_6_method_17_code_1_some_int) rfl rfl rfl (by decide +kernel) ⟨Nat.le_of_ble_eq_true rfl, Nat.le_of_ble_eq_true rfl⟩) hP hK hZ hS rfl hl.1 rfl (Nat.le_of_ble_eq_true rfl) d_M_follower_54 ⟨Nat.zero_le _, Nat.zero_le _⟩ (fun r_54 u_54 H locs hw hP hS => ?_)
            subst hw
            have hP : va_P D vwCl (mw cI cZ a w h (fun p => rt_b (decide (Q p ≠ 0))) (fun p => nI (rt_g Q p)) (fun p => nI (rt_s Q p)) (fun i => nI (L i)) cn th kf (fun p => rt_b (Z p)) pf) H := hP
            refine rw_cne (tgt := 72) hx hb d_M_follower_57 (by decide) (by omega) (by omega) (fun c_57 => ?_) (fun c_57 => ?_)
            · refine lv_iinc (v := (nI (i + 1))) (lv' := [(4, .int (nI (i + 1))), (5, .int (nI (12 * tt + (2 * k + i)))), (0, .ref (a 0)), (1, .int (nI (r))), (2, .int (nI (k))), (3, .int (nI (tt)))]) hx hb d_M_follower_72 hl (k := 5) rfl (nI_add _ _) (by decide) rfl (fun ls hl => ?_)
              refine lv_goto (tgt := 24) hx hb d_M_follower_75 (by decide) ?_
              exact ih_24 (i + 1) (by omega) (fun e9 h9 q9 => by rcases Nat.lt_or_ge e9 i with z | z; exact hI e9 z q9; rw [show e9 = i by omega] at q9; exact c_57 q9.1) _ _ _ hP hS (lv_sub hl [2, 3, 4, 5, 0] rfl)
            · refine lv_aload_n hx hb d_M_follower_60 rfl (lv_at hl 1 rfl) ?_
              refine lv_iload hx hb d_M_follower_61 (lv_at hl 0 rfl) ?_
              refine w_ci (As := [.int (nI (12 * tt + (2 * k + i)))]) (rest := []) ⟨hx, hb, hml, hown, hts⟩ (c_M_isOpen l D cI cZ g a ha w h Q L cn th kf Z pf (nI (12 * tt + (2 * k + i))) hG) (cwV 1 hts (t_gV k_methodLink_rn_M_75_y_M_isOpen k_instanceMethod_y_M_isOpen k_selects_rn_M_y_M_isOpen_y_M_isOpen k_initialized_rn_M k_code_y_M_isOpen_prog_6_method_13_code_2_some_boolean) rfl rfl rfl (by decide +kernel) ⟨Nat.le_of_ble_eq_true rfl, Nat.le_of_ble_eq_true rfl⟩) (va_recv hK hP (ci := 4) (q0 := 0) rfl rfl) hP hK hZ hS rfl hl.1 rfl (Nat.le_of_ble_eq_true rfl) d_M_follower_63 ⟨Nat.zero_le _, Nat.zero_le _⟩ (fun r_63 u_63 H locs hw hP hS => ?_)
              subst hw
              have hP : va_P D vwCl (mw cI cZ a w h (fun p => rt_b (decide (Q p ≠ 0))) (fun p => nI (rt_g Q p)) (fun p => nI (rt_s Q p)) (fun i => nI (L i)) cn th kf (fun p => rt_b (Z p)) pf) H := hP
              rw [rt_opx_s (by omega) (by omega)]
              refine rw_beq (tgt := 72) hx hb d_M_follower_66 (by decide) (fun c_66 => ?_) (fun c_66 => ?_)
              · refine lv_iinc (v := (nI (i + 1))) (lv' := [(4, .int (nI (i + 1))), (5, .int (nI (12 * tt + (2 * k + i)))), (0, .ref (a 0)), (1, .int (nI (r))), (2, .int (nI (k))), (3, .int (nI (tt)))]) hx hb d_M_follower_72 hl (k := 5) rfl (nI_add _ _) (by decide) rfl (fun ls hl => ?_)
                refine lv_goto (tgt := 24) hx hb d_M_follower_75 (by decide) ?_
                exact ih_24 (i + 1) (by omega) (fun e9 h9 q9 => by rcases Nat.lt_or_ge e9 i with z | z; exact hI e9 z q9; rw [show e9 = i by omega] at q9; rw [q9.2] at c_66; cases c_66) _ _ _ hP hS (lv_sub hl [2, 3, 4, 5, 0] rfl)
              · refine lv_iload hx hb d_M_follower_69 (lv_at hl 0 rfl) ?_
                exact w_iret () hx hb hr hlocks hS hP (by rw [rt_fo_hit ho_13 (by omega) hI ⟨c_57, c_66⟩]; rfl) d_M_follower_71
      exact LP_24 2 0 (by omega) (fun e9 h9 => absurd h9 (Nat.not_lt_zero _)) _ _ _ hP hS (lv_sub hl [2, 3, 4, 1, 0] rfl)
    · exact absurd c_16 (rt_o_ne _ (by omega))

set_option maxHeartbeats 4000000 in
set_option maxRecDepth 100000 in
theorem c_M_next (l : Launch) (D : va_G) (cI cZ : ClassId) (g a : Nat → Nat) (ha : mI a) (w h : Nat) (Q L : Nat → Nat) (cn : Nat) (th : Int32) (kf : Nat → Int32) (Z : Nat → Bool) (pf : Nat → Int32) (x y : Int32) (hG : rt_G w h Q) : Met l y_M_next (.code y_M_next b_M_next 6 (some .int) :: tG) ({ frames := 3, cells := 0, slots := 0, locals := 67 }) (va_Pc [.ref (a 0), .int (x), .int (y)] (wU D cI cZ g (mA a) (mw cI cZ a w h (fun p => rt_b (decide (Q p ≠ 0))) (fun p => nI (rt_g Q p)) (fun p => nI (rt_s Q p)) (fun i => nI (L i)) cn th kf (fun p => rt_b (Z p)) pf))) (va_Qi (S := Unit) (fun r _ => r = rt_next Q w h x y) (wB D (fun (u : Unit) => (mw cI cZ a w h (fun p => rt_b (decide (Q p ≠ 0))) (fun p => nI (rt_g Q p)) (fun p => nI (rt_s Q p)) (fun i => nI (L i)) cn (nI (0)) kf (fun p => rt_b (Z p)) pf))) (mA a)) 0 0 (mA a) := by
  refine Met.ofW (cc := b_M_next) (maxL := 6) (ret := (some .int)) (by decide) rfl ?_
  intro p e s m args below meth c s₁ BD9 hml hv
  obtain ⟨rfl, hP, hK, hZ⟩ := hv
  have hx := BD9.exec
  have hb := BD9.bytes
  have hr := BD9.returns
  have hts : ∀ w ∈ tG, w.before _ s = true := fun w hw => atoms_spec (ws := .code y_M_next b_M_next 6 (some .int) :: tG) BD9.pre w (List.mem_cons_of_mem _ hw)
  have hown : s.vm.findClass rn_M = some m.cls := findClass_of_methodNamed BD9.named
  have hlocks := BD9.notSynchronized
  have hS : va_S (mA a) s.heap s.heap [] := va_S.rf
  have hD : va_D (mA a) (mw cI cZ a w h (fun p => rt_b (decide (Q p ≠ 0))) (fun p => nI (rt_g Q p)) (fun p => nI (rt_s Q p)) (fun i => nI (L i)) cn th kf (fun p => rt_b (Z p)) pf) := m_D ha _ rfl
  have hP : va_P D vwCl (mw cI cZ a w h (fun p => rt_b (decide (Q p ≠ 0))) (fun p => nI (rt_g Q p)) (fun p => nI (rt_s Q p)) (fun i => nI (L i)) cn th kf (fun p => rt_b (Z p)) pf) s.heap := hP
  have hl := lv_entry ([.ref (a 0), .int (x), .int (y)]) (n := 6) (Nat.le_of_ble_eq_true rfl)
  rw [lg_entry_eq]
  generalize (lg_sl ([.ref (a 0), .int (x), .int (y)]) ++ List.replicate (6 - (lg_sl ([.ref (a 0), .int (x), .int (y)])).length) Slot.unset).toArray = ls at hl ⊢
  have hl : lv_has ls 6 [(0, .ref (a 0)), (1, .int (x)), (2, .int (y))] := hl
  obtain ⟨hn1, hn⟩ := hG.n
  have hw0 : 0 < w := by have := hG.1.1; omega
  have hQ := hG.2.2
  refine lv_aload_n hx hb d_M_next_0 rfl (lv_at hl 0 rfl) ?_
  refine lv_iconst (v := (nI (0))) hx hb d_M_next_1 (by decide) ?_
  refine va_put (D := D) (ci := 4) (v := .int (nI (0))) (ty := .int) (C := rn_M) (T := tf_M) (N := 12) hx hb hts in_M tt_M tt_M_ok nm_M hown hK hP hD hS 0 rfl rfl 1 (by decide) (hts _ k_fieldLink_rn_M_42_rn_M_thrown_I) (fun _ h9 => h9) rfl (by decide +kernel) rfl rfl (Nat.le_of_ble_eq_true rfl) d_M_next_2 (fun H locs hP hD hS => ?_)
  have hP : va_P D vwCl (mw cI cZ a w h (fun p => rt_b (decide (Q p ≠ 0))) (fun p => nI (rt_g Q p)) (fun p => nI (rt_s Q p)) (fun i => nI (L i)) cn (nI (0)) kf (fun p => rt_b (Z p)) pf) H := hP
  have hD : va_D (mA a) (mw cI cZ a w h (fun p => rt_b (decide (Q p ≠ 0))) (fun p => nI (rt_g Q p)) (fun p => nI (rt_s Q p)) (fun i => nI (L i)) cn (nI (0)) kf (fun p => rt_b (Z p)) pf) := m_D ha _ rfl
  refine lv_aload_n hx hb d_M_next_5 rfl (lv_at hl 0 rfl) ?_
  refine lv_iload_n hx hb d_M_next_6 rfl (lv_at hl 1 rfl) ?_
  refine w_ci (As := [.int (x)]) (rest := []) ⟨hx, hb, hml, hown, hts⟩ (c_M_isOpen l D cI cZ g a ha w h Q L cn (nI (0)) kf Z pf x hG) (cwV 1 hts (t_gV k_methodLink_rn_M_75_y_M_isOpen k_instanceMethod_y_M_isOpen k_selects_rn_M_y_M_isOpen_y_M_isOpen k_initialized_rn_M k_code_y_M_isOpen_prog_6_method_13_code_2_some_boolean) rfl rfl rfl (by decide +kernel) ⟨Nat.le_of_ble_eq_true rfl, Nat.le_of_ble_eq_true rfl⟩) (va_recv hK hP (ci := 4) (q0 := 0) rfl rfl) hP hK hZ hS rfl hl.1 rfl (Nat.le_of_ble_eq_true rfl) d_M_next_7 ⟨Nat.zero_le _, Nat.zero_le _⟩ (fun r_7 u_7 H locs hw hP hS => ?_)
  subst hw
  have hP : va_P D vwCl (mw cI cZ a w h (fun p => rt_b (decide (Q p ≠ 0))) (fun p => nI (rt_g Q p)) (fun p => nI (rt_s Q p)) (fun i => nI (L i)) cn (nI (0)) kf (fun p => rt_b (Z p)) pf) H := hP
  refine rw_beq (tgt := 17) hx hb d_M_next_10 (by decide) (fun c_10 => ?_) (fun c_10 => ?_)
  · refine lv_iconst (v := (-1)) hx hb d_M_next_17 (by decide) ?_
    exact w_iret () hx hb hr hlocks hS hP (by first | exact (rt_next_n c_10).symm | (rw [rt_next_s (by omega) horr, rt_kth_neg _ (by rcases Int32.lt_or_le y 0 with q | q; exact q; exact absurd q c_14)]; rfl)) d_M_next_18
  · obtain ⟨rr, hrr, rfl, horr⟩ := rt_opx_is (by omega) c_10
    refine lv_iload_n hx hb d_M_next_13 rfl (lv_at hl 2 rfl) ?_
    refine lv_if_ge (tgt := 19) hx hb d_M_next_14 (by decide) (fun c_14 => ?_) (fun c_14 => ?_)
    · obtain ⟨m9, hm9, rfl⟩ := nI_of (x := y) (Int32.not_lt.mpr c_14)
      refine lv_iload_n hx hb d_M_next_19 rfl (lv_at hl 2 rfl) ?_
      refine lv_istore_n (lv' := [(3, .int (nI (m9))), (0, .ref (a 0)), (1, .int (nI (rr))), (2, .int (nI (m9)))]) hx hb d_M_next_20 rfl hl (by decide) rfl (fun ls hl => ?_)
      refine lv_iconst (v := (nI (0))) hx hb d_M_next_21 (by decide) ?_
      refine lv_istore (lv' := [(4, .int (nI (0))), (3, .int (nI (m9))), (0, .ref (a 0)), (1, .int (nI (rr))), (2, .int (nI (m9)))]) hx hb d_M_next_22 hl (by decide) rfl (fun ls hl => ?_)
      have LP_24 : ∀ (n_24 : Nat) (i : Nat), i + n_24 = 6 → ((rt_py Q w h rr i).length ≤ m9) → ∀ (H : Heap) (locs : List Loc) (ls : Array Slot), va_P D vwCl (mw cI cZ a w h (fun p => rt_b (decide (Q p ≠ 0))) (fun p => nI (rt_g Q p)) (fun p => nI (rt_s Q p)) (fun i => nI (L i)) cn (nI (0)) kf (fun p => rt_b (Z p)) pf) H → va_S (mA a) s.heap H locs → lv_has ls 6 [(0, .ref (a 0)), (1, .int (nI (rr))), (2, .int (nI (m9))), (3, .int (nI (m9 - (rt_py Q w h rr i).length))), (4, .int (nI (i)))] → W p l e (headSpec (.code y_M_next b_M_next 6 (some .int) :: tG) ({ frames := 3, cells := 0, slots := 0, locals := 67 })).room s m ([.ref (a 0), .int ((nI rr)), .int ((nI m9))] : List Value).toArray below meth c H locs 0 0 (MQ below (va_Qi (S := Unit) (fun r _ => r = rt_next Q w h (nI rr) (nI m9)) (wB D (fun (u : Unit) => (mw cI cZ a w h (fun p => rt_b (decide (Q p ≠ 0))) (fun p => nI (rt_g Q p)) (fun p => nI (rt_s Q p)) (fun i => nI (L i)) cn (nI (0)) kf (fun p => rt_b (Z p)) pf))) (mA a)) ([.ref (a 0), .int ((nI rr)), .int ((nI m9))] : List Value).toArray s 0 0 (mA a)) (F0 m 24 ls []) := by
        intro n_24
        induction n_24 with
        | zero =>
          intro i hrel_24 hI H locs ls hP hS hl
          have hD : va_D (mA a) (mw cI cZ a w h (fun p => rt_b (decide (Q p ≠ 0))) (fun p => nI (rt_g Q p)) (fun p => nI (rt_s Q p)) (fun i => nI (L i)) cn (nI (0)) kf (fun p => rt_b (Z p)) pf) := m_D ha _ rfl
          refine lv_iload hx hb d_M_next_24 (lv_at hl 4 rfl) ?_
          refine lv_bipush (v := (nI (6))) hx hb d_M_next_26 (by decide) ?_
          refine rw_cge (tgt := 65) hx hb d_M_next_28 (by decide) (by omega) (by omega) (fun c_28 => ?_) (fun c_28 => ?_)
          · refine lv_iconst (v := (-1)) hx hb d_M_next_65 (by decide) ?_
            exact w_iret () hx hb hr hlocks hS hP (by rw [rt_next_s (by omega) horr, rt_kth_nI _ hm9, List.getElem?_eq_none_iff.mpr (by rw [← rt_py_6, ← show i = 6 by omega]; exact hI)]; rfl) d_M_next_66
          · omega
        | succ n_24 ih_24 =>
          intro i hrel_24 hI H locs ls hP hS hl
          have hD : va_D (mA a) (mw cI cZ a w h (fun p => rt_b (decide (Q p ≠ 0))) (fun p => nI (rt_g Q p)) (fun p => nI (rt_s Q p)) (fun i => nI (L i)) cn (nI (0)) kf (fun p => rt_b (Z p)) pf) := m_D ha _ rfl
          refine lv_iload hx hb d_M_next_24 (lv_at hl 4 rfl) ?_
          refine lv_bipush (v := (nI (6))) hx hb d_M_next_26 (by decide) ?_
          refine rw_cge (tgt := 65) hx hb d_M_next_28 (by decide) (by omega) (by omega) (fun c_28 => ?_) (fun c_28 => ?_)
          · omega
          · refine lv_aload_n hx hb d_M_next_31 rfl (lv_at hl 0 rfl) ?_
            refine lv_iload_n hx hb d_M_next_32 rfl (lv_at hl 1 rfl) ?_
            refine lv_iload hx hb d_M_next_33 (lv_at hl 4 rfl) ?_
            refine w_ci (As := [.int (nI (rr)), .int (nI (i))]) (rest := []) ⟨hx, hb, hml, hown, hts⟩ (c_M_follower l D cI cZ g a ha w h Q L cn (nI (0)) kf Z pf rr i hG hrr (by omega)) (cwV 2 hts (t_gV k_methodLink_rn_M_78_y_M_follower k_instanceMethod_y_M_follower k_selects_rn_M_y_M_follower_y_M_follower k_initialized_rn_M k_code_y_M_follower_prog_6_method_18_code_6_some_int) rfl rfl rfl (by decide +kernel) ⟨Nat.le_of_ble_eq_true rfl, Nat.le_of_ble_eq_true rfl⟩) (va_recv hK hP (ci := 4) (q0 := 0) rfl rfl) hP hK hZ hS rfl hl.1 rfl (Nat.le_of_ble_eq_true rfl) d_M_next_35 ⟨Nat.zero_le _, Nat.zero_le _⟩ (fun r_35 u_35 H locs hw hP hS => ?_)
            subst hw
            have hP : va_P D vwCl (mw cI cZ a w h (fun p => rt_b (decide (Q p ≠ 0))) (fun p => nI (rt_g Q p)) (fun p => nI (rt_s Q p)) (fun i => nI (L i)) cn (nI (0)) kf (fun p => rt_b (Z p)) pf) H := hP
            cases ho_38 : rt_fo Q w h rr i with
            | none =>
              refine lv_istore (lv' := [(5, .int (-1)), (0, .ref (a 0)), (1, .int (nI (rr))), (2, .int (nI (m9))), (3, .int (nI (m9 - (rt_py Q w h rr i).length))), (4, .int (nI (i)))]) hx hb d_M_next_38 hl (by decide) rfl (fun ls hl => ?_)
              refine lv_iload hx hb d_M_next_40 (lv_at hl 0 rfl) ?_
              refine lv_iconst (v := (-1)) hx hb d_M_next_42 (by decide) ?_
              refine lv_icmp_ne (tgt := 49) hx hb d_M_next_43 (by decide) (fun c_43 => ?_) (fun c_43 => ?_)
              · exact absurd rfl c_43
              · refine lv_goto (tgt := 59) hx hb d_M_next_46 (by decide) ?_
                refine lv_iinc (v := (nI (i + 1))) (lv' := [(4, .int (nI (i + 1))), (5, .int (-1)), (0, .ref (a 0)), (1, .int (nI (rr))), (2, .int (nI (m9))), (3, .int (nI (m9 - (rt_py Q w h rr i).length)))]) hx hb d_M_next_59 hl (k := 5) rfl (nI_add _ _) (by decide) rfl (fun ls hl => ?_)
                refine lv_goto (tgt := 24) hx hb d_M_next_62 (by decide) ?_
                have hl : lv_has ls 6 [(4, .int (nI (i + 1))), (5, .int (-1)), (0, .ref (a 0)), (1, .int (nI (rr))), (2, .int (nI (m9))), (3, .int (nI (m9 - (rt_py Q w h rr (i + 1)).length)))] := by rw [rt_py_n ho_38]; exact hl
                exact ih_24 (i + 1) (by omega) (by rw [rt_py_n ho_38]; exact hI) _ _ _ hP hS (lv_sub hl [2, 3, 4, 5, 0] rfl)
            | some b =>
              have hb9 := rt_fo_lt (show i < 6 by omega) ho_38
              refine lv_istore (lv' := [(5, .int (nI (b))), (0, .ref (a 0)), (1, .int (nI (rr))), (2, .int (nI (m9))), (3, .int (nI (m9 - (rt_py Q w h rr i).length))), (4, .int (nI (i)))]) hx hb d_M_next_38 hl (by decide) rfl (fun ls hl => ?_)
              refine lv_iload hx hb d_M_next_40 (lv_at hl 0 rfl) ?_
              refine lv_iconst (v := (-1)) hx hb d_M_next_42 (by decide) ?_
              refine lv_icmp_ne (tgt := 49) hx hb d_M_next_43 (by decide) (fun c_43 => ?_) (fun c_43 => ?_)
              · refine lv_iload_n hx hb d_M_next_49 rfl (lv_at hl 4 rfl) ?_
                refine rw_zne (tgt := 56) hx hb d_M_next_50 (by decide) (by omega) (fun c_50 => ?_) (fun c_50 => ?_)
                · refine lv_iinc (v := (nI ((m9 - (rt_py Q w h rr i).length) - 1))) (lv' := [(3, .int (nI ((m9 - (rt_py Q w h rr i).length) - 1))), (5, .int (nI (b))), (0, .ref (a 0)), (1, .int (nI (rr))), (2, .int (nI (m9))), (4, .int (nI (i)))]) hx hb d_M_next_56 hl (k := 4) rfl (sb_m1 (by omega)) (by decide) rfl (fun ls hl => ?_)
                  refine lv_iinc (v := (nI (i + 1))) (lv' := [(4, .int (nI (i + 1))), (3, .int (nI ((m9 - (rt_py Q w h rr i).length) - 1))), (5, .int (nI (b))), (0, .ref (a 0)), (1, .int (nI (rr))), (2, .int (nI (m9)))]) hx hb d_M_next_59 hl (k := 5) rfl (nI_add _ _) (by decide) rfl (fun ls hl => ?_)
                  refine lv_goto (tgt := 24) hx hb d_M_next_62 (by decide) ?_
                  have e9 : m9 - (rt_py Q w h rr (i + 1)).length = m9 - (rt_py Q w h rr i).length - 1 := by rw [rt_py_s ho_38, List.length_append]; simp only [List.length_cons, List.length_nil]; omega
                  have hl : lv_has ls 6 [(4, .int (nI (i + 1))), (3, .int (nI (m9 - (rt_py Q w h rr (i + 1)).length))), (5, .int (nI (b))), (0, .ref (a 0)), (1, .int (nI (rr))), (2, .int (nI (m9)))] := by rw [e9]; exact hl
                  exact ih_24 (i + 1) (by omega) (by rw [rt_py_s ho_38, List.length_append]; simp only [List.length_cons, List.length_nil]; omega) _ _ _ hP hS (lv_sub hl [3, 4, 5, 1, 0] rfl)
                · refine lv_iload hx hb d_M_next_53 (lv_at hl 0 rfl) ?_
                  exact w_iret () hx hb hr hlocks hS hP (by rw [rt_next_s (by omega) horr, rt_kth_nI _ hm9]; obtain ⟨l2, e2⟩ := rt_py_pre (show i < 6 by omega) ho_38; rw [e2, show m9 = (rt_py Q w h rr i).length by omega]; simp [rt_o]) d_M_next_55
              · exact absurd c_43 (rt_o_ne _ (by omega))
      exact LP_24 6 0 (by omega) (Nat.zero_le _) _ _ _ hP hS (lv_sub hl [2, 3, 4, 1, 0] rfl)
    · refine lv_iconst (v := (-1)) hx hb d_M_next_17 (by decide) ?_
      exact w_iret () hx hb hr hlocks hS hP (by first | exact (rt_next_n c_10).symm | (rw [rt_next_s (by omega) horr, rt_kth_neg _ (by rcases Int32.lt_or_le y 0 with q | q; exact q; exact absurd q c_14)]; rfl)) d_M_next_18

set_option maxHeartbeats 4000000 in
set_option maxRecDepth 100000 in
theorem c_M_before (l : Launch) (D : va_G) (cI cZ : ClassId) (g a : Nat → Nat) (ha : mI a) (w h : Nat) (Q L : Nat → Nat) (cn : Nat) (th : Int32) (kf : Nat → Int32) (Z : Nat → Bool) (pf : Nat → Int32) (x : Int32) (hG : rt_G w h Q) (hL : rt_isL Q L cn) : Met l y_M_before (.code y_M_before b_M_before 6 (some .int) :: tG) ({ frames := 3, cells := 0, slots := 0, locals := 67 }) (va_Pc [.ref (a 0), .int (x)] (wU D cI cZ g (mA a) (mw cI cZ a w h (fun p => rt_b (decide (Q p ≠ 0))) (fun p => nI (rt_g Q p)) (fun p => nI (rt_s Q p)) (fun i => nI (L i)) cn th kf (fun p => rt_b (Z p)) pf))) (va_Qi (S := Unit) (fun r _ => r = rt_before Q w h x) (wB D (fun (u : Unit) => (mw cI cZ a w h (fun p => rt_b (decide (Q p ≠ 0))) (fun p => nI (rt_g Q p)) (fun p => nI (rt_s Q p)) (fun i => nI (L i)) cn (nI (0)) kf (fun p => rt_b (Z p)) pf))) (mA a)) 0 0 (mA a) := by
  refine Met.ofW (cc := b_M_before) (maxL := 6) (ret := (some .int)) (by decide) rfl ?_
  intro p e s m args below meth c s₁ BD9 hml hv
  obtain ⟨rfl, hP, hK, hZ⟩ := hv
  have hx := BD9.exec
  have hb := BD9.bytes
  have hr := BD9.returns
  have hts : ∀ w ∈ tG, w.before _ s = true := fun w hw => atoms_spec (ws := .code y_M_before b_M_before 6 (some .int) :: tG) BD9.pre w (List.mem_cons_of_mem _ hw)
  have hown : s.vm.findClass rn_M = some m.cls := findClass_of_methodNamed BD9.named
  have hlocks := BD9.notSynchronized
  have hS : va_S (mA a) s.heap s.heap [] := va_S.rf
  have hD : va_D (mA a) (mw cI cZ a w h (fun p => rt_b (decide (Q p ≠ 0))) (fun p => nI (rt_g Q p)) (fun p => nI (rt_s Q p)) (fun i => nI (L i)) cn th kf (fun p => rt_b (Z p)) pf) := m_D ha _ rfl
  have hP : va_P D vwCl (mw cI cZ a w h (fun p => rt_b (decide (Q p ≠ 0))) (fun p => nI (rt_g Q p)) (fun p => nI (rt_s Q p)) (fun i => nI (L i)) cn th kf (fun p => rt_b (Z p)) pf) s.heap := hP
  have hl := lv_entry ([.ref (a 0), .int (x)]) (n := 6) (Nat.le_of_ble_eq_true rfl)
  rw [lg_entry_eq]
  generalize (lg_sl ([.ref (a 0), .int (x)]) ++ List.replicate (6 - (lg_sl ([.ref (a 0), .int (x)])).length) Slot.unset).toArray = ls at hl ⊢
  have hl : lv_has ls 6 [(0, .ref (a 0)), (1, .int (x))] := hl
  obtain ⟨hn1, hn⟩ := hG.n
  have hw0 : 0 < w := by have := hG.1.1; omega
  have hQ := hG.2.2
  have hcn := rt_isL_cap hQ hL
  refine lv_aload_n hx hb d_M_before_0 rfl (lv_at hl 0 rfl) ?_
  refine lv_iconst (v := (nI (0))) hx hb d_M_before_1 (by decide) ?_
  refine va_put (D := D) (ci := 4) (v := .int (nI (0))) (ty := .int) (C := rn_M) (T := tf_M) (N := 12) hx hb hts in_M tt_M tt_M_ok nm_M hown hK hP hD hS 0 rfl rfl 1 (by decide) (hts _ k_fieldLink_rn_M_42_rn_M_thrown_I) (fun _ h9 => h9) rfl (by decide +kernel) rfl rfl (Nat.le_of_ble_eq_true rfl) d_M_before_2 (fun H locs hP hD hS => ?_)
  have hP : va_P D vwCl (mw cI cZ a w h (fun p => rt_b (decide (Q p ≠ 0))) (fun p => nI (rt_g Q p)) (fun p => nI (rt_s Q p)) (fun i => nI (L i)) cn (nI (0)) kf (fun p => rt_b (Z p)) pf) H := hP
  have hD : va_D (mA a) (mw cI cZ a w h (fun p => rt_b (decide (Q p ≠ 0))) (fun p => nI (rt_g Q p)) (fun p => nI (rt_s Q p)) (fun i => nI (L i)) cn (nI (0)) kf (fun p => rt_b (Z p)) pf) := m_D ha _ rfl
  refine lv_aload_n hx hb d_M_before_5 rfl (lv_at hl 0 rfl) ?_
  refine lv_iload_n hx hb d_M_before_6 rfl (lv_at hl 1 rfl) ?_
  refine w_ci (As := [.int (x)]) (rest := []) ⟨hx, hb, hml, hown, hts⟩ (c_M_isOpen l D cI cZ g a ha w h Q L cn (nI (0)) kf Z pf x hG) (cwV 1 hts (t_gV k_methodLink_rn_M_75_y_M_isOpen k_instanceMethod_y_M_isOpen k_selects_rn_M_y_M_isOpen_y_M_isOpen k_initialized_rn_M k_code_y_M_isOpen_prog_6_method_13_code_2_some_boolean) rfl rfl rfl (by decide +kernel) ⟨Nat.le_of_ble_eq_true rfl, Nat.le_of_ble_eq_true rfl⟩) (va_recv hK hP (ci := 4) (q0 := 0) rfl rfl) hP hK hZ hS rfl hl.1 rfl (Nat.le_of_ble_eq_true rfl) d_M_before_7 ⟨Nat.zero_le _, Nat.zero_le _⟩ (fun r_7 u_7 H locs hw hP hS => ?_)
  subst hw
  have hP : va_P D vwCl (mw cI cZ a w h (fun p => rt_b (decide (Q p ≠ 0))) (fun p => nI (rt_g Q p)) (fun p => nI (rt_s Q p)) (fun i => nI (L i)) cn (nI (0)) kf (fun p => rt_b (Z p)) pf) H := hP
  refine rw_bne (tgt := 15) hx hb d_M_before_10 (by decide) (fun c_10 => ?_) (fun c_10 => ?_)
  · obtain ⟨rr, hrr, rfl, horr⟩ := rt_opx_is (by omega) c_10
    refine lv_iconst (v := (-1)) hx hb d_M_before_15 (by decide) ?_
    refine lv_istore_n (lv' := [(2, .int (-1)), (0, .ref (a 0)), (1, .int (nI (rr)))]) hx hb d_M_before_16 rfl hl (by decide) rfl (fun ls hl => ?_)
    refine lv_iconst (v := (nI (0))) hx hb d_M_before_17 (by decide) ?_
    refine lv_istore_n (lv' := [(3, .int (nI (0))), (2, .int (-1)), (0, .ref (a 0)), (1, .int (nI (rr)))]) hx hb d_M_before_18 rfl hl (by decide) rfl (fun ls hl => ?_)
    have LP_19 : ∀ (n_19 : Nat) (i : Nat) (o : Option Nat), i + n_19 = cn → (rt_mn (rt_bS Q w h L rr (2 * i)) o) → ∀ (H : Heap) (locs : List Loc) (ls : Array Slot), va_P D vwCl (mw cI cZ a w h (fun p => rt_b (decide (Q p ≠ 0))) (fun p => nI (rt_g Q p)) (fun p => nI (rt_s Q p)) (fun i => nI (L i)) cn (nI (0)) kf (fun p => rt_b (Z p)) pf) H → va_S (mA a) s.heap H locs → lv_has ls 6 [(0, .ref (a 0)), (1, .int (nI (rr))), (2, .int (rt_o (o))), (3, .int (nI (i)))] → W p l e (headSpec (.code y_M_before b_M_before 6 (some .int) :: tG) ({ frames := 3, cells := 0, slots := 0, locals := 67 })).room s m ([.ref (a 0), .int ((nI rr))] : List Value).toArray below meth c H locs 0 0 (MQ below (va_Qi (S := Unit) (fun r _ => r = rt_before Q w h (nI rr)) (wB D (fun (u : Unit) => (mw cI cZ a w h (fun p => rt_b (decide (Q p ≠ 0))) (fun p => nI (rt_g Q p)) (fun p => nI (rt_s Q p)) (fun i => nI (L i)) cn (nI (0)) kf (fun p => rt_b (Z p)) pf))) (mA a)) ([.ref (a 0), .int ((nI rr))] : List Value).toArray s 0 0 (mA a)) (F0 m 19 ls []) := by
      intro n_19
      induction n_19 with
      | zero =>
        intro i o hrel_19 hI H locs ls hP hS hl
        have hD : va_D (mA a) (mw cI cZ a w h (fun p => rt_b (decide (Q p ≠ 0))) (fun p => nI (rt_g Q p)) (fun p => nI (rt_s Q p)) (fun i => nI (L i)) cn (nI (0)) kf (fun p => rt_b (Z p)) pf) := m_D ha _ rfl
        refine lv_iload_n hx hb d_M_before_19 rfl (lv_at hl 3 rfl) ?_
        refine lv_aload_n hx hb d_M_before_20 rfl (lv_at hl 0 rfl) ?_
        refine va_get (D := D) (ci := 4) (v := .int (nI (cn))) (C := rn_M) (T := tf_M) (N := 12) hx hb hts in_M hown hK hP 0 rfl rfl 8 (by decide) (hts _ k_fieldLink_rn_M_52_rn_M_pieces_I) (fun _ h9 => h9) rfl d_M_before_21 ?_
        refine rw_cge (tgt := 100) hx hb d_M_before_24 (by decide) (by omega) (by omega) (fun c_24 => ?_) (fun c_24 => ?_)
        · refine lv_iload_n hx hb d_M_before_100 rfl (lv_at hl 2 rfl) ?_
          exact w_iret () hx hb hr hlocks hS hP (by rw [rt_before_s (by omega) horr, rt_bS_end hw0 hL horr (by rw [show i = cn by omega] at hI; exact hI)]) d_M_before_101
        · omega
      | succ n_19 ih_19 =>
        intro i o hrel_19 hI H locs ls hP hS hl
        have hD : va_D (mA a) (mw cI cZ a w h (fun p => rt_b (decide (Q p ≠ 0))) (fun p => nI (rt_g Q p)) (fun p => nI (rt_s Q p)) (fun i => nI (L i)) cn (nI (0)) kf (fun p => rt_b (Z p)) pf) := m_D ha _ rfl
        refine lv_iload_n hx hb d_M_before_19 rfl (lv_at hl 3 rfl) ?_
        refine lv_aload_n hx hb d_M_before_20 rfl (lv_at hl 0 rfl) ?_
        refine va_get (D := D) (ci := 4) (v := .int (nI (cn))) (C := rn_M) (T := tf_M) (N := 12) hx hb hts in_M hown hK hP 0 rfl rfl 8 (by decide) (hts _ k_fieldLink_rn_M_52_rn_M_pieces_I) (fun _ h9 => h9) rfl d_M_before_21 ?_
        refine rw_cge (tgt := 100) hx hb d_M_before_24 (by decide) (by omega) (by omega) (fun c_24 => ?_) (fun c_24 => ?_)
        · omega
        · refine lv_iconst (v := (nI (0))) hx hb d_M_before_27 (by decide) ?_
          refine lv_istore (lv' := [(4, .int (nI (0))), (0, .ref (a 0)), (1, .int (nI (rr))), (2, .int (rt_o (o))), (3, .int (nI (i)))]) hx hb d_M_before_28 hl (by decide) rfl (fun ls hl => ?_)
          have LP_30 : ∀ (n_30 : Nat) (d : Nat) (o : Option Nat), d + n_30 = 2 → (rt_mn (rt_bS Q w h L rr (2 * i + d)) o) → ∀ (H : Heap) (locs : List Loc) (ls : Array Slot), va_P D vwCl (mw cI cZ a w h (fun p => rt_b (decide (Q p ≠ 0))) (fun p => nI (rt_g Q p)) (fun p => nI (rt_s Q p)) (fun i => nI (L i)) cn (nI (0)) kf (fun p => rt_b (Z p)) pf) H → va_S (mA a) s.heap H locs → lv_has ls 6 [(0, .ref (a 0)), (1, .int (nI (rr))), (2, .int (rt_o (o))), (3, .int (nI (i))), (4, .int (nI (d)))] → W p l e (headSpec (.code y_M_before b_M_before 6 (some .int) :: tG) ({ frames := 3, cells := 0, slots := 0, locals := 67 })).room s m ([.ref (a 0), .int ((nI rr))] : List Value).toArray below meth c H locs 0 0 (MQ below (va_Qi (S := Unit) (fun r _ => r = rt_before Q w h (nI rr)) (wB D (fun (u : Unit) => (mw cI cZ a w h (fun p => rt_b (decide (Q p ≠ 0))) (fun p => nI (rt_g Q p)) (fun p => nI (rt_s Q p)) (fun i => nI (L i)) cn (nI (0)) kf (fun p => rt_b (Z p)) pf))) (mA a)) ([.ref (a 0), .int ((nI rr))] : List Value).toArray s 0 0 (mA a)) (F0 m 30 ls []) := by
            intro n_30
            induction n_30 with
            | zero =>
              intro d o hrel_30 hI2 H locs ls hP hS hl
              have hD : va_D (mA a) (mw cI cZ a w h (fun p => rt_b (decide (Q p ≠ 0))) (fun p => nI (rt_g Q p)) (fun p => nI (rt_s Q p)) (fun i => nI (L i)) cn (nI (0)) kf (fun p => rt_b (Z p)) pf) := m_D ha _ rfl
              have hLi : L i < 6 * (w * h) := rt_ok_in hQ (hL.1 i (by omega))
              refine lv_iload hx hb d_M_before_30 (lv_at hl 4 rfl) ?_
              refine lv_iconst (v := (nI (2))) hx hb d_M_before_32 (by decide) ?_
              refine rw_cge (tgt := 94) hx hb d_M_before_33 (by decide) (by omega) (by omega) (fun c_33 => ?_) (fun c_33 => ?_)
              · refine lv_iinc (v := (nI (i + 1))) (lv' := [(3, .int (nI (i + 1))), (0, .ref (a 0)), (1, .int (nI (rr))), (2, .int (rt_o (o))), (4, .int (nI (d)))]) hx hb d_M_before_94 hl (k := 3) rfl (nI_add _ _) (by decide) rfl (fun ls hl => ?_)
                refine lv_goto (tgt := 19) hx hb d_M_before_97 (by decide) ?_
                exact ih_19 (i + 1) o (by omega) (by rw [show 2 * (i + 1) = 2 * i + d by omega]; exact hI2) _ _ _ hP hS (lv_sub hl [1, 2, 3, 0] rfl)
              · omega
            | succ n_30 ih_30 =>
              intro d o hrel_30 hI2 H locs ls hP hS hl
              have hD : va_D (mA a) (mw cI cZ a w h (fun p => rt_b (decide (Q p ≠ 0))) (fun p => nI (rt_g Q p)) (fun p => nI (rt_s Q p)) (fun i => nI (L i)) cn (nI (0)) kf (fun p => rt_b (Z p)) pf) := m_D ha _ rfl
              have hLi : L i < 6 * (w * h) := rt_ok_in hQ (hL.1 i (by omega))
              refine lv_iload hx hb d_M_before_30 (lv_at hl 4 rfl) ?_
              refine lv_iconst (v := (nI (2))) hx hb d_M_before_32 (by decide) ?_
              refine rw_cge (tgt := 94) hx hb d_M_before_33 (by decide) (by omega) (by omega) (fun c_33 => ?_) (fun c_33 => ?_)
              · omega
              · refine lv_iconst (v := (nI (2))) hx hb d_M_before_36 (by decide) ?_
                refine lv_aload_n hx hb d_M_before_37 rfl (lv_at hl 0 rfl) ?_
                refine va_get (D := D) (ci := 4) (v := .ref (a 5)) (C := rn_M) (T := tf_M) (N := 12) hx hb hts in_M hown hK hP 0 rfl rfl 7 (by decide) (hts _ k_fieldLink_rn_M_23_rn_M_list_I) (fun _ h9 => h9) rfl d_M_before_38 ?_
                refine lv_iload_n hx hb d_M_before_41 rfl (lv_at hl 3 rfl) ?_
                refine rw_iald (v := (nI (L i))) hx hb hK hP 5 0 rfl rfl (by omega) (by omega) (rfl) d_M_before_42 ?_
                refine rw_mul hx hb d_M_before_43 ?_
                refine lv_iload hx hb d_M_before_44 (lv_at hl 4 rfl) ?_
                refine rw_add hx hb d_M_before_46 ?_
                refine lv_istore (lv' := [(5, .int (nI ((2 * (L i)) + d))), (0, .ref (a 0)), (1, .int (nI (rr))), (2, .int (rt_o (o))), (3, .int (nI (i))), (4, .int (nI (d)))]) hx hb d_M_before_47 hl (by decide) rfl (fun ls hl => ?_)
                refine lv_aload_n hx hb d_M_before_49 rfl (lv_at hl 1 rfl) ?_
                refine lv_iload hx hb d_M_before_50 (lv_at hl 0 rfl) ?_
                refine w_ci (As := [.int (nI ((2 * (L i)) + d))]) (rest := []) ⟨hx, hb, hml, hown, hts⟩ (c_M_isOpen l D cI cZ g a ha w h Q L cn (nI (0)) kf Z pf (nI (2 * L i + d)) hG) (cwV 1 hts (t_gV k_methodLink_rn_M_75_y_M_isOpen k_instanceMethod_y_M_isOpen k_selects_rn_M_y_M_isOpen_y_M_isOpen k_initialized_rn_M k_code_y_M_isOpen_prog_6_method_13_code_2_some_boolean) rfl rfl rfl (by decide +kernel) ⟨Nat.le_of_ble_eq_true rfl, Nat.le_of_ble_eq_true rfl⟩) (va_recv hK hP (ci := 4) (q0 := 0) rfl rfl) hP hK hZ hS rfl hl.1 rfl (Nat.le_of_ble_eq_true rfl) d_M_before_52 ⟨Nat.zero_le _, Nat.zero_le _⟩ (fun r_52 u_52 H locs hw hP hS => ?_)
                subst hw
                have hP : va_P D vwCl (mw cI cZ a w h (fun p => rt_b (decide (Q p ≠ 0))) (fun p => nI (rt_g Q p)) (fun p => nI (rt_s Q p)) (fun i => nI (L i)) cn (nI (0)) kf (fun p => rt_b (Z p)) pf) H := hP
                rw [rt_opx_s (by omega) (by omega)]
                refine rw_beq (tgt := 88) hx hb d_M_before_55 (by decide) (fun c_55 => ?_) (fun c_55 => ?_)
                · refine lv_iinc (v := (nI (d + 1))) (lv' := [(4, .int (nI (d + 1))), (5, .int (nI ((2 * (L i)) + d))), (0, .ref (a 0)), (1, .int (nI (rr))), (2, .int (rt_o (o))), (3, .int (nI (i)))]) hx hb d_M_before_88 hl (k := 5) rfl (nI_add _ _) (by decide) rfl (fun ls hl => ?_)
                  refine lv_goto (tgt := 30) hx hb d_M_before_91 (by decide) ?_
                  exact ih_30 (d + 1) o (by omega) (rt_mn_eq hI2 (rt_bS_skip (by omega) (fun q => by rw [q.1] at c_55; cases c_55))) _ _ _ hP hS (lv_sub hl [2, 3, 4, 5, 0] rfl)
                · refine lv_aload_n hx hb d_M_before_58 rfl (lv_at hl 1 rfl) ?_
                  refine lv_iload hx hb d_M_before_59 (lv_at hl 0 rfl) ?_
                  refine lv_iload_n hx hb d_M_before_61 rfl (lv_at hl 2 rfl) ?_
                  refine lv_iconst (v := (nI (2))) hx hb d_M_before_62 (by decide) ?_
                  refine rw_div hx hb d_M_before_63 (by omega) (by omega) (by omega) ?_
                  refine lv_bipush (v := (nI (6))) hx hb d_M_before_64 (by decide) ?_
                  refine rw_rem hx hb d_M_before_66 (by omega) (by omega) (by omega) ?_
                  refine w_ci (As := [.int (nI ((2 * (L i)) + d)), .int (nI ((rr / 2) % 6))]) (rest := []) ⟨hx, hb, hml, hown, hts⟩ (c_M_follower l D cI cZ g a ha w h Q L cn (nI (0)) kf Z pf (2 * L i + d) (rr / 2 % 6) hG (by omega) (Nat.mod_lt _ (by decide))) (cwV 2 hts (t_gV k_methodLink_rn_M_78_y_M_follower k_instanceMethod_y_M_follower k_selects_rn_M_y_M_follower_y_M_follower k_initialized_rn_M k_code_y_M_follower_prog_6_method_18_code_6_some_int) rfl rfl rfl (by decide +kernel) ⟨Nat.le_of_ble_eq_true rfl, Nat.le_of_ble_eq_true rfl⟩) (va_recv hK hP (ci := 4) (q0 := 0) rfl rfl) hP hK hZ hS rfl hl.1 rfl (Nat.le_of_ble_eq_true rfl) d_M_before_67 ⟨Nat.zero_le _, Nat.zero_le _⟩ (fun r_67 u_67 H locs hw hP hS => ?_)
                  subst hw
                  have hP : va_P D vwCl (mw cI cZ a w h (fun p => rt_b (decide (Q p ≠ 0))) (fun p => nI (rt_g Q p)) (fun p => nI (rt_s Q p)) (fun i => nI (L i)) cn (nI (0)) kf (fun p => rt_b (Z p)) pf) H := hP
                  cases ho_70 : rt_fo Q w h (2 * L i + d) (rr / 2 % 6) with
                  | none =>
                    refine lv_iload_n hx hb d_M_before_70 rfl (lv_at hl 2 rfl) ?_
                    refine lv_icmp_ne (tgt := 88) hx hb d_M_before_71 (by decide) (fun c_71 => ?_) (fun c_71 => ?_)
                    · refine lv_iinc (v := (nI (d + 1))) (lv' := [(4, .int (nI (d + 1))), (5, .int (nI ((2 * (L i)) + d))), (0, .ref (a 0)), (1, .int (nI (rr))), (2, .int (rt_o (o))), (3, .int (nI (i)))]) hx hb d_M_before_88 hl (k := 5) rfl (nI_add _ _) (by decide) rfl (fun ls hl => ?_)
                      refine lv_goto (tgt := 30) hx hb d_M_before_91 (by decide) ?_
                      exact ih_30 (d + 1) o (by omega) (rt_mn_eq hI2 (rt_bS_skip (by omega) (fun q => by rw [rt_fo_iff.mpr q.2] at ho_70; cases ho_70))) _ _ _ hP hS (lv_sub hl [2, 3, 4, 5, 0] rfl)
                    · exact absurd c_71.symm (rt_o_ne _ (by omega))
                  | some b =>
                    have hb9 := rt_fo_lt (Nat.mod_lt _ (by decide)) ho_70
                    refine lv_iload_n hx hb d_M_before_70 rfl (lv_at hl 2 rfl) ?_
                    refine rw_cne (tgt := 88) hx hb d_M_before_71 (by decide) (by omega) (by omega) (fun c_71 => ?_) (fun c_71 => ?_)
                    · refine lv_iinc (v := (nI (d + 1))) (lv' := [(4, .int (nI (d + 1))), (5, .int (nI ((2 * (L i)) + d))), (0, .ref (a 0)), (1, .int (nI (rr))), (2, .int (rt_o (o))), (3, .int (nI (i)))]) hx hb d_M_before_88 hl (k := 5) rfl (nI_add _ _) (by decide) rfl (fun ls hl => ?_)
                      refine lv_goto (tgt := 30) hx hb d_M_before_91 (by decide) ?_
                      exact ih_30 (d + 1) o (by omega) (rt_mn_eq hI2 (rt_bS_skip (by omega) (fun q => by rw [rt_fo_iff.mpr q.2] at ho_70; cases ho_70; exact c_71 rfl))) _ _ _ hP hS (lv_sub hl [2, 3, 4, 5, 0] rfl)
                    · have hmem : rr ∈ rt_nx Q w h (2 * L i + d) := rt_fo_iff.mp (by rw [ho_70, c_71])
                      cases o with
                      | none =>
                        have hl : lv_has ls 6 [(5, .int (nI ((2 * (L i)) + d))), (0, .ref (a 0)), (1, .int (nI (rr))), (2, .int (-1)), (3, .int (nI (i))), (4, .int (nI (d)))] := hl
                        refine lv_iload_n hx hb d_M_before_74 rfl (lv_at hl 3 rfl) ?_
                        refine lv_iconst (v := (-1)) hx hb d_M_before_75 (by decide) ?_
                        refine lv_icmp_eq (tgt := 85) hx hb d_M_before_76 (by decide) (fun c_76 => ?_) (fun c_76 => ?_)
                        · refine lv_iload hx hb d_M_before_85 (lv_at hl 0 rfl) ?_
                          refine lv_istore_n (lv' := [(2, .int (nI ((2 * (L i)) + d))), (5, .int (nI ((2 * (L i)) + d))), (0, .ref (a 0)), (1, .int (nI (rr))), (3, .int (nI (i))), (4, .int (nI (d)))]) hx hb d_M_before_87 rfl hl (by decide) rfl (fun ls hl => ?_)
                          refine lv_iinc (v := (nI (d + 1))) (lv' := [(4, .int (nI (d + 1))), (2, .int (nI ((2 * (L i)) + d))), (5, .int (nI ((2 * (L i)) + d))), (0, .ref (a 0)), (1, .int (nI (rr))), (3, .int (nI (i)))]) hx hb d_M_before_88 hl (k := 5) rfl (nI_add _ _) (by decide) rfl (fun ls hl => ?_)
                          refine lv_goto (tgt := 30) hx hb d_M_before_91 (by decide) ?_
                          exact ih_30 (d + 1) (some _) (by omega) (rt_mn_0 hI2 (rt_bS_add (by omega) c_55 hmem)) _ _ _ hP hS (lv_sub hl [3, 4, 1, 5, 0] rfl)
                        · exact absurd rfl c_76
                      | some mm =>
                        have hmm : mm < 12 * (w * h) := rt_op_lt hI2.1.2.1
                        have hl : lv_has ls 6 [(5, .int (nI ((2 * (L i)) + d))), (0, .ref (a 0)), (1, .int (nI (rr))), (2, .int (nI (mm))), (3, .int (nI (i))), (4, .int (nI (d)))] := hl
                        refine lv_iload_n hx hb d_M_before_74 rfl (lv_at hl 3 rfl) ?_
                        refine lv_iconst (v := (-1)) hx hb d_M_before_75 (by decide) ?_
                        refine lv_icmp_eq (tgt := 85) hx hb d_M_before_76 (by decide) (fun c_76 => ?_) (fun c_76 => ?_)
                        · exact absurd c_76 (rt_o_ne _ (by omega))
                        · refine lv_iload hx hb d_M_before_79 (lv_at hl 0 rfl) ?_
                          refine lv_iload_n hx hb d_M_before_81 rfl (lv_at hl 3 rfl) ?_
                          refine rw_cge (tgt := 88) hx hb d_M_before_82 (by decide) (by omega) (by omega) (fun c_82 => ?_) (fun c_82 => ?_)
                          · refine lv_iinc (v := (nI (d + 1))) (lv' := [(4, .int (nI (d + 1))), (5, .int (nI ((2 * (L i)) + d))), (0, .ref (a 0)), (1, .int (nI (rr))), (2, .int (nI (mm))), (3, .int (nI (i)))]) hx hb d_M_before_88 hl (k := 5) rfl (nI_add _ _) (by decide) rfl (fun ls hl => ?_)
                            refine lv_goto (tgt := 30) hx hb d_M_before_91 (by decide) ?_
                            exact ih_30 (d + 1) (some _) (by omega) (rt_mn_ge hI2 (rt_bS_add (by omega) c_55 hmem) (by omega)) _ _ _ hP hS (lv_sub hl [2, 3, 4, 5, 0] rfl)
                          · refine lv_iload hx hb d_M_before_85 (lv_at hl 0 rfl) ?_
                            refine lv_istore_n (lv' := [(2, .int (nI ((2 * (L i)) + d))), (5, .int (nI ((2 * (L i)) + d))), (0, .ref (a 0)), (1, .int (nI (rr))), (3, .int (nI (i))), (4, .int (nI (d)))]) hx hb d_M_before_87 rfl hl (by decide) rfl (fun ls hl => ?_)
                            refine lv_iinc (v := (nI (d + 1))) (lv' := [(4, .int (nI (d + 1))), (2, .int (nI ((2 * (L i)) + d))), (5, .int (nI ((2 * (L i)) + d))), (0, .ref (a 0)), (1, .int (nI (rr))), (3, .int (nI (i)))]) hx hb d_M_before_88 hl (k := 5) rfl (nI_add _ _) (by decide) rfl (fun ls hl => ?_)
                            refine lv_goto (tgt := 30) hx hb d_M_before_91 (by decide) ?_
                            exact ih_30 (d + 1) (some _) (by omega) (rt_mn_lt hI2 (rt_bS_add (by omega) c_55 hmem) (by omega)) _ _ _ hP hS (lv_sub hl [3, 4, 1, 5, 0] rfl)
          exact LP_30 2 0 o (by omega) hI _ _ _ hP hS (lv_sub hl [1, 2, 3, 4, 0] rfl)
    exact LP_19 cn 0 none (by omega) (fun r9 h9 => by obtain ⟨⟨j, e9, h1, h2, -⟩, -⟩ := h9; omega) _ _ _ hP hS (lv_sub hl [2, 3, 1, 0] rfl)
  · refine lv_iconst (v := (-1)) hx hb d_M_before_13 (by decide) ?_
    exact w_iret () hx hb hr hlocks hS hP ((rt_before_n c_10).symm) d_M_before_14
