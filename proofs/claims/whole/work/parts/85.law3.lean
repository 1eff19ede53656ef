/-! THE LAW'S THIRTEEN CASES: by program (wip/whole/gen/law.py) -/
set_option maxHeartbeats 4000000 in
set_option maxRecDepth 100000 in
theorem l_lay {p : Program} {e : Env} {s : State} {m : MethodId} {below : List Frame} {meth : Method} {c : Code} (l : Launch) (hfl : l.flags = flags0) {D : va_G} {cI cZ : ClassId} {g a d : Nat → Nat} {bq LN : Nat} {xs : Nat → Int32} (w h : Nat) (hx : p.tables.exec = Jvm.exec) (hb : c.code = b_L_law) (hml : c.maxLocals = 5) (hown : s.vm.findClass rn_L = some m.cls) (hts : ∀ w ∈ tG, w.before #[Value.ref bq] s = true) (hK : va_K D vwCl (xT cI cZ) s) (hZ : xZ g (fun q : Nat => s.heap.size ≤ q) s s.heap) (hE : xe_K (fun q : Nat => s.heap.size ≤ q) s s.heap) (ha : xI a) (hd0 : mI d) (hax : ∀ q, xA a q → (fun q : Nat => s.heap.size ≤ q) q) (hdm : ∀ q, mA d q → (fun q : Nat => s.heap.size ≤ q) q) (hapart : ∀ q, xA a q → mA d q → False) (hX : va_X bq LN xs s s.heap) (hbl : bq < s.heap.size) (hLN : LN ≤ 2562) (k : Nat) (hk5 : 2 + 5 * k + 5 ≤ LN) (nx : ∀ (Q : Nat → Nat) (ff : Nat → Int32) (hd bl : Int32) (rs : Nat → Int32) (hs ts : Int32) (rc : Nat → Int32) (hc tc : Int32) (L : Nat → Nat) (cn : Nat) (th : Int32) (kf : Nat → Int32) (Z : Nat → Bool) (pf : Nat → Int32) (H : Heap) (locs : List Loc) (ls : Array Slot), rt_G w h Q → rt_hk Q w h hd ff bl → rt_isL Q L cn → va_P D vwCl (xw cI a w h Q ff hd bl rs hs ts rc hc tc) H → va_P D vwCl (mw cI cZ d w h (fun p => rt_b (decide (Q p ≠ 0))) (fun p => nI (rt_g Q p)) (fun p => nI (rt_s Q p)) (fun i => nI (L i)) cn th kf (fun p => rt_b (Z p)) pf) H → va_S (fun q : Nat => s.heap.size ≤ q) s.heap H locs → lv_has ls 5 [(0, .ref bq), (1, .ref (a 0)), (2, .ref (d 0)), (3, .int (nI (2 + 5 * k)))] → W p l e room_1 s m #[Value.ref bq] below meth c H locs (100 + 3 * (k + 1)) (40000 + 18 * (k + 1)) (lw_Z below #[Value.ref bq] s) (F0 m 603 ls [])) (Q : Nat → Nat) (ff : Nat → Int32) (hd bl : Int32) (rs : Nat → Int32) (hs ts : Int32) (rc : Nat → Int32) (hc tc : Int32) (L : Nat → Nat) (cn : Nat) (th : Int32) (kf : Nat → Int32) (Z : Nat → Bool) (pf : Nat → Int32) (H : Heap) (locs : List Loc) (ls : Array Slot) (hG : rt_G w h Q) (hk0 : rt_hk Q w h hd ff bl) (hL0 : rt_isL Q L cn) (hP1 : va_P D vwCl (xw cI a w h Q ff hd bl rs hs ts rc hc tc) H) (hP2 : va_P D vwCl (mw cI cZ d w h (fun p => rt_b (decide (Q p ≠ 0))) (fun p => nI (rt_g Q p)) (fun p => nI (rt_s Q p)) (fun i => nI (L i)) cn th kf (fun p => rt_b (Z p)) pf) H) (hS : va_S (fun q : Nat => s.heap.size ≤ q) s.heap H locs) (hl : lv_has ls 5 [(0, .ref bq), (1, .ref (a 0)), (2, .ref (d 0)), (3, .int (nI (2 + 5 * k)))]) : W p l e room_1 s m #[Value.ref bq] below meth c H locs (100 + 3 * k) (40000 + 18 * k) (lw_Z below #[Value.ref bq] s) (F0 m 120 ls []) := by
  refine lv_aload_n hx hb d_L_law_120 rfl (lv_at hl 1 rfl) ?_
  refine lv_aload_n hx hb d_L_law_121 rfl (lv_at hl 0 rfl) ?_
  refine lv_iload_n hx hb d_L_law_122 rfl (lv_at hl 3 rfl) ?_
  refine lv_iconst (v := nI (1)) hx hb d_L_law_123 (by decide) ?_
  refine rw_add hx hb d_L_law_124 ?_
  refine va_sld hx hb hX hbl (Nat.not_le.mpr hbl) hS (vp_in_nI (by omega) (by omega)) d_L_law_125 ?_
  refine rw_topI (b := xs (2 + 5 * k + 1)) (by rw [nI_clamp (by omega)]) ?_
  refine lv_aload_n hx hb d_L_law_126 rfl (lv_at hl 0 rfl) ?_
  refine lv_iload_n hx hb d_L_law_127 rfl (lv_at hl 3 rfl) ?_
  refine lv_iconst (v := nI (2)) hx hb d_L_law_128 (by decide) ?_
  refine rw_add hx hb d_L_law_129 ?_
  refine va_sld hx hb hX hbl (Nat.not_le.mpr hbl) hS (vp_in_nI (by omega) (by omega)) d_L_law_130 ?_
  refine rw_topI (b := xs (2 + 5 * k + 2)) (by rw [nI_clamp (by omega)]) ?_
  refine l_hs (n := 3) (As := [.ref (a 0), .int (xs (2 + 5 * k + 1)), .int (xs (2 + 5 * k + 2))]) (rest := []) ⟨hx, hb, hml, hown, hts⟩ (c_L_lay l hfl D cI cZ g a ha w h Q ff hd bl rs hs ts rc hc tc (xs (2 + 5 * k + 1)) (xs (2 + 5 * k + 2)) hG hk0) rfl rfl ⟨Nat.le_of_ble_eq_true rfl, Nat.le_of_ble_eq_true rfl⟩ (by decide +kernel) k_methodLink_rn_L_39_y_L_lay k_static_y_L_lay k_initialized_rn_L k_codeWith_y_L_lay_method_3_code_4_some_int_0_6_9_13_0_6_12_15 hP1 hP2 (fun k9 q9 hk9 h9 => hapart _ h9 ((m_D hd0 _ rfl).2 k9 q9 hk9)) hax hK hZ hE hS rfl hl.1 rfl (Nat.le_of_ble_eq_true rfl) d_L_law_131 ⟨by show _ ≤ 601024; omega, by show _ ≤ 7293000; omega⟩ (fun r1 u1 H locs hw1 hP1 hP2 hS => ?_)
  have hP1 : va_P D vwCl (xw cI a w h ((rt_lay Q (w * h) (xs (2 + 5 * k + 1)) (xs (2 + 5 * k + 2))).2) ff u1 bl rs hs ts rc hc tc) H := hP1
  have hP2 : va_P D vwCl (mw cI cZ d w h (fun p => rt_b (decide (Q p ≠ 0))) (fun p => nI (rt_g Q p)) (fun p => nI (rt_s Q p)) (fun i => nI (L i)) cn th kf (fun p => rt_b (Z p)) pf) H := hP2
  refine lv_istore (lv' := [(4, .int (r1)), (0, .ref bq), (1, .ref (a 0)), (2, .ref (d 0)), (3, .int (nI (2 + 5 * k)))]) hx hb d_L_law_134 hl (by decide) rfl (fun ls hl => ?_)
  refine lv_aload_n hx hb d_L_law_136 rfl (lv_at hl 3 rfl) ?_
  refine lv_aload_n hx hb d_L_law_137 rfl (lv_at hl 1 rfl) ?_
  refine lv_iload_n hx hb d_L_law_138 rfl (lv_at hl 4 rfl) ?_
  refine lv_iconst (v := nI (1)) hx hb d_L_law_139 (by decide) ?_
  refine rw_add hx hb d_L_law_140 ?_
  refine va_sld hx hb hX hbl (Nat.not_le.mpr hbl) hS (vp_in_nI (by omega) (by omega)) d_L_law_141 ?_
  refine rw_topI (b := xs (2 + 5 * k + 1)) (by rw [nI_clamp (by omega)]) ?_
  refine lv_aload_n hx hb d_L_law_142 rfl (lv_at hl 1 rfl) ?_
  refine lv_iload_n hx hb d_L_law_143 rfl (lv_at hl 4 rfl) ?_
  refine lv_iconst (v := nI (2)) hx hb d_L_law_144 (by decide) ?_
  refine rw_add hx hb d_L_law_145 ?_
  refine va_sld hx hb hX hbl (Nat.not_le.mpr hbl) hS (vp_in_nI (by omega) (by omega)) d_L_law_146 ?_
  refine rw_topI (b := xs (2 + 5 * k + 2)) (by rw [nI_clamp (by omega)]) ?_
  refine l_cv (As := [.int (xs (2 + 5 * k + 1)), .int (xs (2 + 5 * k + 2))]) (rest := []) ⟨hx, hb, hml, hown, hts⟩ (c_M_lay l D cI cZ g d hd0 w h Q L cn th kf Z pf (xs (2 + 5 * k + 1)) (xs (2 + 5 * k + 2)) hG hL0) (cwV 2 hts (t_gV k_methodLink_rn_L_42_y_M_lay k_instanceMethod_y_M_lay k_selects_rn_M_y_M_lay_y_M_lay k_initialized_rn_M k_code_y_M_lay_prog_6_method_6_code_3_none) rfl rfl rfl (by decide +kernel) ⟨Nat.le_of_ble_eq_true rfl, Nat.le_of_ble_eq_true rfl⟩) (va_recv hK hP2 (ci := 4) (q0 := 0) rfl rfl) hP2 hP1 (fun k9 q9 hk9 h9 => hapart _ ((x_D ha _ rfl).2 k9 q9 hk9) h9) hdm hK hZ hS rfl hl.1 rfl (Nat.le_of_ble_eq_true rfl) d_L_law_147 ⟨by show _ ≤ 601024; omega, by show _ ≤ 7293000; omega⟩ (fun u_147 H locs hw_147 hP2 hP1 hS => ?_)
  obtain ⟨Q2, L2, cn2, th2⟩ := u_147
  obtain ⟨e1, e2, e3⟩ := hw_147
  dsimp only at e1 e2 e3
  subst e2
  have hP1 : va_P D vwCl (xw cI a w h ((rt_lay Q (w * h) (xs (2 + 5 * k + 1)) (xs (2 + 5 * k + 2))).2) ff u1 bl rs hs ts rc hc tc) H := hP1
  have hP2 : va_P D vwCl (mw cI cZ d w h (fun p => rt_b (decide (((rt_lay Q (w * h) (xs (2 + 5 * k + 1)) (xs (2 + 5 * k + 2))).2) p ≠ 0))) (fun p => nI (rt_g ((rt_lay Q (w * h) (xs (2 + 5 * k + 1)) (xs (2 + 5 * k + 2))).2) p)) (fun p => nI (rt_s ((rt_lay Q (w * h) (xs (2 + 5 * k + 1)) (xs (2 + 5 * k + 2))).2) p)) (fun i => nI (L2 i)) cn2 th2 kf (fun p => rt_b (Z p)) pf) H := hP2
  refine lv_aload_n hx hb d_L_law_150 rfl (lv_at hl 3 rfl) ?_
  refine l_ci (As := []) (rest := []) ⟨hx, hb, hml, hown, hts⟩ (c_M_thrown l D cI cZ g d hd0 w h ((rt_lay Q (w * h) (xs (2 + 5 * k + 1)) (xs (2 + 5 * k + 2))).2) L2 cn2 th2 kf Z pf) (cwV 0 hts (t_gV k_methodLink_rn_L_43_y_M_thrown k_instanceMethod_y_M_thrown k_selects_rn_M_y_M_thrown_y_M_thrown k_initialized_rn_M k_code_y_M_thrown_prog_6_method_2_code_1_some_int) rfl rfl rfl (by decide +kernel) ⟨Nat.le_of_ble_eq_true rfl, Nat.le_of_ble_eq_true rfl⟩) (va_recv hK hP2 (ci := 4) (q0 := 0) rfl rfl) hP2 hP1 (fun k9 q9 hk9 h9 => hapart _ ((x_D ha _ rfl).2 k9 q9 hk9) h9) hdm hK hZ hS rfl hl.1 rfl (Nat.le_of_ble_eq_true rfl) d_L_law_151 ⟨by show _ ≤ 601024; omega, by show _ ≤ 7293000; omega⟩ (fun r_151 u_151 H locs hw_151 hP2 hP1 hS => ?_)
  have hP1 : va_P D vwCl (xw cI a w h ((rt_lay Q (w * h) (xs (2 + 5 * k + 1)) (xs (2 + 5 * k + 2))).2) ff u1 bl rs hs ts rc hc tc) H := hP1
  have hP2 : va_P D vwCl (mw cI cZ d w h (fun p => rt_b (decide (((rt_lay Q (w * h) (xs (2 + 5 * k + 1)) (xs (2 + 5 * k + 2))).2) p ≠ 0))) (fun p => nI (rt_g ((rt_lay Q (w * h) (xs (2 + 5 * k + 1)) (xs (2 + 5 * k + 2))).2) p)) (fun p => nI (rt_s ((rt_lay Q (w * h) (xs (2 + 5 * k + 1)) (xs (2 + 5 * k + 2))).2) p)) (fun i => nI (L2 i)) cn2 th2 kf (fun p => rt_b (Z p)) pf) H := hP2
  refine lv_iload hx hb d_L_law_154 (lv_at hl 0 rfl) ?_
  refine lv_icmp_eq (tgt := 161) hx hb d_L_law_156 (by decide) (fun _ => ?_) (fun c9 => absurd (hw_151.trans (e1.trans hw1.1.symm)) c9)
  refine lv_goto (tgt := 603) hx hb d_L_law_161 (by decide) ?_
  refine W.widen (k := 100 + 3 * (k + 1)) (n := 40000 + 18 * (k + 1)) (by omega) (by omega) ?_
  exact nx _ _ _ _ _ _ _ _ _ _ _ _ _ _ _ _ _ _ _ (rt_chg_G hG (xs (2 + 5 * k + 1)) (xs (2 + 5 * k + 2)) 0 0).1 hw1.2 e3 hP1 hP2 hS (lv_sub hl [1, 2, 3, 4] rfl)

set_option maxHeartbeats 4000000 in
set_option maxRecDepth 100000 in
theorem l_lift {p : Program} {e : Env} {s : State} {m : MethodId} {below : List Frame} {meth : Method} {c : Code} (l : Launch) (hfl : l.flags = flags0) {D : va_G} {cI cZ : ClassId} {g a d : Nat → Nat} {bq LN : Nat} {xs : Nat → Int32} (w h : Nat) (hx : p.tables.exec = Jvm.exec) (hb : c.code = b_L_law) (hml : c.maxLocals = 5) (hown : s.vm.findClass rn_L = some m.cls) (hts : ∀ w ∈ tG, w.before #[Value.ref bq] s = true) (hK : va_K D vwCl (xT cI cZ) s) (hZ : xZ g (fun q : Nat => s.heap.size ≤ q) s s.heap) (hE : xe_K (fun q : Nat => s.heap.size ≤ q) s s.heap) (ha : xI a) (hd0 : mI d) (hax : ∀ q, xA a q → (fun q : Nat => s.heap.size ≤ q) q) (hdm : ∀ q, mA d q → (fun q : Nat => s.heap.size ≤ q) q) (hapart : ∀ q, xA a q → mA d q → False) (hX : va_X bq LN xs s s.heap) (hbl : bq < s.heap.size) (hLN : LN ≤ 2562) (k : Nat) (hk5 : 2 + 5 * k + 5 ≤ LN) (nx : ∀ (Q : Nat → Nat) (ff : Nat → Int32) (hd bl : Int32) (rs : Nat → Int32) (hs ts : Int32) (rc : Nat → Int32) (hc tc : Int32) (L : Nat → Nat) (cn : Nat) (th : Int32) (kf : Nat → Int32) (Z : Nat → Bool) (pf : Nat → Int32) (H : Heap) (locs : List Loc) (ls : Array Slot), rt_G w h Q → rt_hk Q w h hd ff bl → rt_isL Q L cn → va_P D vwCl (xw cI a w h Q ff hd bl rs hs ts rc hc tc) H → va_P D vwCl (mw cI cZ d w h (fun p => rt_b (decide (Q p ≠ 0))) (fun p => nI (rt_g Q p)) (fun p => nI (rt_s Q p)) (fun i => nI (L i)) cn th kf (fun p => rt_b (Z p)) pf) H → va_S (fun q : Nat => s.heap.size ≤ q) s.heap H locs → lv_has ls 5 [(0, .ref bq), (1, .ref (a 0)), (2, .ref (d 0)), (3, .int (nI (2 + 5 * k)))] → W p l e room_1 s m #[Value.ref bq] below meth c H locs (100 + 3 * (k + 1)) (40000 + 18 * (k + 1)) (lw_Z below #[Value.ref bq] s) (F0 m 603 ls [])) (Q : Nat → Nat) (ff : Nat → Int32) (hd bl : Int32) (rs : Nat → Int32) (hs ts : Int32) (rc : Nat → Int32) (hc tc : Int32) (L : Nat → Nat) (cn : Nat) (th : Int32) (kf : Nat → Int32) (Z : Nat → Bool) (pf : Nat → Int32) (H : Heap) (locs : List Loc) (ls : Array Slot) (hG : rt_G w h Q) (hk0 : rt_hk Q w h hd ff bl) (hL0 : rt_isL Q L cn) (hP1 : va_P D vwCl (xw cI a w h Q ff hd bl rs hs ts rc hc tc) H) (hP2 : va_P D vwCl (mw cI cZ d w h (fun p => rt_b (decide (Q p ≠ 0))) (fun p => nI (rt_g Q p)) (fun p => nI (rt_s Q p)) (fun i => nI (L i)) cn th kf (fun p => rt_b (Z p)) pf) H) (hS : va_S (fun q : Nat => s.heap.size ≤ q) s.heap H locs) (hl : lv_has ls 5 [(0, .ref bq), (1, .ref (a 0)), (2, .ref (d 0)), (3, .int (nI (2 + 5 * k)))]) : W p l e room_1 s m #[Value.ref bq] below meth c H locs (100 + 3 * k) (40000 + 18 * k) (lw_Z below #[Value.ref bq] s) (F0 m 164 ls []) := by
  refine lv_aload_n hx hb d_L_law_164 rfl (lv_at hl 1 rfl) ?_
  refine lv_aload_n hx hb d_L_law_165 rfl (lv_at hl 0 rfl) ?_
  refine lv_iload_n hx hb d_L_law_166 rfl (lv_at hl 3 rfl) ?_
  refine lv_iconst (v := nI (1)) hx hb d_L_law_167 (by decide) ?_
  refine rw_add hx hb d_L_law_168 ?_
  refine va_sld hx hb hX hbl (Nat.not_le.mpr hbl) hS (vp_in_nI (by omega) (by omega)) d_L_law_169 ?_
  refine rw_topI (b := xs (2 + 5 * k + 1)) (by rw [nI_clamp (by omega)]) ?_
  refine lv_aload_n hx hb d_L_law_170 rfl (lv_at hl 0 rfl) ?_
  refine lv_iload_n hx hb d_L_law_171 rfl (lv_at hl 3 rfl) ?_
  refine lv_iconst (v := nI (2)) hx hb d_L_law_172 (by decide) ?_
  refine rw_add hx hb d_L_law_173 ?_
  refine va_sld hx hb hX hbl (Nat.not_le.mpr hbl) hS (vp_in_nI (by omega) (by omega)) d_L_law_174 ?_
  refine rw_topI (b := xs (2 + 5 * k + 2)) (by rw [nI_clamp (by omega)]) ?_
  refine l_hs (n := 3) (As := [.ref (a 0), .int (xs (2 + 5 * k + 1)), .int (xs (2 + 5 * k + 2))]) (rest := []) ⟨hx, hb, hml, hown, hts⟩ (c_L_lift l hfl D cI cZ g a ha w h Q ff hd bl rs hs ts rc hc tc (xs (2 + 5 * k + 1)) (xs (2 + 5 * k + 2)) hG hk0) rfl rfl ⟨Nat.le_of_ble_eq_true rfl, Nat.le_of_ble_eq_true rfl⟩ (by decide +kernel) k_methodLink_rn_L_47_y_L_lift k_static_y_L_lift k_initialized_rn_L k_codeWith_y_L_lift_method_4_code_4_some_int_0_6_9_13_0_6_12_15 hP1 hP2 (fun k9 q9 hk9 h9 => hapart _ h9 ((m_D hd0 _ rfl).2 k9 q9 hk9)) hax hK hZ hE hS rfl hl.1 rfl (Nat.le_of_ble_eq_true rfl) d_L_law_175 ⟨by show _ ≤ 601024; omega, by show _ ≤ 7293000; omega⟩ (fun r1 u1 H locs hw1 hP1 hP2 hS => ?_)
  have hP1 : va_P D vwCl (xw cI a w h ((rt_lift Q (w * h) (xs (2 + 5 * k + 1)) (xs (2 + 5 * k + 2))).2) ff u1 bl rs hs ts rc hc tc) H := hP1
  have hP2 : va_P D vwCl (mw cI cZ d w h (fun p => rt_b (decide (Q p ≠ 0))) (fun p => nI (rt_g Q p)) (fun p => nI (rt_s Q p)) (fun i => nI (L i)) cn th kf (fun p => rt_b (Z p)) pf) H := hP2
  refine lv_istore (lv' := [(4, .int (r1)), (0, .ref bq), (1, .ref (a 0)), (2, .ref (d 0)), (3, .int (nI (2 + 5 * k)))]) hx hb d_L_law_178 hl (by decide) rfl (fun ls hl => ?_)
  refine lv_aload_n hx hb d_L_law_180 rfl (lv_at hl 3 rfl) ?_
  refine lv_aload_n hx hb d_L_law_181 rfl (lv_at hl 1 rfl) ?_
  refine lv_iload_n hx hb d_L_law_182 rfl (lv_at hl 4 rfl) ?_
  refine lv_iconst (v := nI (1)) hx hb d_L_law_183 (by decide) ?_
  refine rw_add hx hb d_L_law_184 ?_
  refine va_sld hx hb hX hbl (Nat.not_le.mpr hbl) hS (vp_in_nI (by omega) (by omega)) d_L_law_185 ?_
  refine rw_topI (b := xs (2 + 5 * k + 1)) (by rw [nI_clamp (by omega)]) ?_
  refine lv_aload_n hx hb d_L_law_186 rfl (lv_at hl 1 rfl) ?_
  refine lv_iload_n hx hb d_L_law_187 rfl (lv_at hl 4 rfl) ?_
  refine lv_iconst (v := nI (2)) hx hb d_L_law_188 (by decide) ?_
  refine rw_add hx hb d_L_law_189 ?_
  refine va_sld hx hb hX hbl (Nat.not_le.mpr hbl) hS (vp_in_nI (by omega) (by omega)) d_L_law_190 ?_
  refine rw_topI (b := xs (2 + 5 * k + 2)) (by rw [nI_clamp (by omega)]) ?_
  refine l_cv (As := [.int (xs (2 + 5 * k + 1)), .int (xs (2 + 5 * k + 2))]) (rest := []) ⟨hx, hb, hml, hown, hts⟩ (c_M_lift l D cI cZ g d hd0 w h Q L cn th kf Z pf (xs (2 + 5 * k + 1)) (xs (2 + 5 * k + 2)) hG hL0) (cwV 2 hts (t_gV k_methodLink_rn_L_49_y_M_lift k_instanceMethod_y_M_lift k_selects_rn_M_y_M_lift_y_M_lift k_initialized_rn_M k_code_y_M_lift_prog_6_method_7_code_5_none) rfl rfl rfl (by decide +kernel) ⟨Nat.le_of_ble_eq_true rfl, Nat.le_of_ble_eq_true rfl⟩) (va_recv hK hP2 (ci := 4) (q0 := 0) rfl rfl) hP2 hP1 (fun k9 q9 hk9 h9 => hapart _ ((x_D ha _ rfl).2 k9 q9 hk9) h9) hdm hK hZ hS rfl hl.1 rfl (Nat.le_of_ble_eq_true rfl) d_L_law_191 ⟨by show _ ≤ 601024; omega, by show _ ≤ 7293000; omega⟩ (fun u_191 H locs hw_191 hP2 hP1 hS => ?_)
  obtain ⟨Q2, L2, cn2, th2⟩ := u_191
  obtain ⟨e1, e2, e3⟩ := hw_191
  dsimp only at e1 e2 e3
  subst e2
  have hP1 : va_P D vwCl (xw cI a w h ((rt_lift Q (w * h) (xs (2 + 5 * k + 1)) (xs (2 + 5 * k + 2))).2) ff u1 bl rs hs ts rc hc tc) H := hP1
  have hP2 : va_P D vwCl (mw cI cZ d w h (fun p => rt_b (decide (((rt_lift Q (w * h) (xs (2 + 5 * k + 1)) (xs (2 + 5 * k + 2))).2) p ≠ 0))) (fun p => nI (rt_g ((rt_lift Q (w * h) (xs (2 + 5 * k + 1)) (xs (2 + 5 * k + 2))).2) p)) (fun p => nI (rt_s ((rt_lift Q (w * h) (xs (2 + 5 * k + 1)) (xs (2 + 5 * k + 2))).2) p)) (fun i => nI (L2 i)) cn2 th2 kf (fun p => rt_b (Z p)) pf) H := hP2
  refine lv_aload_n hx hb d_L_law_194 rfl (lv_at hl 3 rfl) ?_
  refine l_ci (As := []) (rest := []) ⟨hx, hb, hml, hown, hts⟩ (c_M_thrown l D cI cZ g d hd0 w h ((rt_lift Q (w * h) (xs (2 + 5 * k + 1)) (xs (2 + 5 * k + 2))).2) L2 cn2 th2 kf Z pf) (cwV 0 hts (t_gV k_methodLink_rn_L_43_y_M_thrown k_instanceMethod_y_M_thrown k_selects_rn_M_y_M_thrown_y_M_thrown k_initialized_rn_M k_code_y_M_thrown_prog_6_method_2_code_1_some_int) rfl rfl rfl (by decide +kernel) ⟨Nat.le_of_ble_eq_true rfl, Nat.le_of_ble_eq_true rfl⟩) (va_recv hK hP2 (ci := 4) (q0 := 0) rfl rfl) hP2 hP1 (fun k9 q9 hk9 h9 => hapart _ ((x_D ha _ rfl).2 k9 q9 hk9) h9) hdm hK hZ hS rfl hl.1 rfl (Nat.le_of_ble_eq_true rfl) d_L_law_195 ⟨by show _ ≤ 601024; omega, by show _ ≤ 7293000; omega⟩ (fun r_195 u_195 H locs hw_195 hP2 hP1 hS => ?_)
  have hP1 : va_P D vwCl (xw cI a w h ((rt_lift Q (w * h) (xs (2 + 5 * k + 1)) (xs (2 + 5 * k + 2))).2) ff u1 bl rs hs ts rc hc tc) H := hP1
  have hP2 : va_P D vwCl (mw cI cZ d w h (fun p => rt_b (decide (((rt_lift Q (w * h) (xs (2 + 5 * k + 1)) (xs (2 + 5 * k + 2))).2) p ≠ 0))) (fun p => nI (rt_g ((rt_lift Q (w * h) (xs (2 + 5 * k + 1)) (xs (2 + 5 * k + 2))).2) p)) (fun p => nI (rt_s ((rt_lift Q (w * h) (xs (2 + 5 * k + 1)) (xs (2 + 5 * k + 2))).2) p)) (fun i => nI (L2 i)) cn2 th2 kf (fun p => rt_b (Z p)) pf) H := hP2
  refine lv_iload hx hb d_L_law_198 (lv_at hl 0 rfl) ?_
  refine lv_icmp_eq (tgt := 205) hx hb d_L_law_200 (by decide) (fun _ => ?_) (fun c9 => absurd (hw_195.trans (e1.trans hw1.1.symm)) c9)
  refine lv_goto (tgt := 603) hx hb d_L_law_205 (by decide) ?_
  refine W.widen (k := 100 + 3 * (k + 1)) (n := 40000 + 18 * (k + 1)) (by omega) (by omega) ?_
  exact nx _ _ _ _ _ _ _ _ _ _ _ _ _ _ _ _ _ _ _ (rt_chg_G hG (xs (2 + 5 * k + 1)) (xs (2 + 5 * k + 2)) 0 0).2.1 hw1.2 e3 hP1 hP2 hS (lv_sub hl [1, 2, 3, 4] rfl)

set_option maxHeartbeats 4000000 in
set_option maxRecDepth 100000 in
theorem l_signal {p : Program} {e : Env} {s : State} {m : MethodId} {below : List Frame} {meth : Method} {c : Code} (l : Launch) (hfl : l.flags = flags0) {D : va_G} {cI cZ : ClassId} {g a d : Nat → Nat} {bq LN : Nat} {xs : Nat → Int32} (w h : Nat) (hx : p.tables.exec = Jvm.exec) (hb : c.code = b_L_law) (hml : c.maxLocals = 5) (hown : s.vm.findClass rn_L = some m.cls) (hts : ∀ w ∈ tG, w.before #[Value.ref bq] s = true) (hK : va_K D vwCl (xT cI cZ) s) (hZ : xZ g (fun q : Nat => s.heap.size ≤ q) s s.heap) (hE : xe_K (fun q : Nat => s.heap.size ≤ q) s s.heap) (ha : xI a) (hd0 : mI d) (hax : ∀ q, xA a q → (fun q : Nat => s.heap.size ≤ q) q) (hdm : ∀ q, mA d q → (fun q : Nat => s.heap.size ≤ q) q) (hapart : ∀ q, xA a q → mA d q → False) (hX : va_X bq LN xs s s.heap) (hbl : bq < s.heap.size) (hLN : LN ≤ 2562) (k : Nat) (hk5 : 2 + 5 * k + 5 ≤ LN) (nx : ∀ (Q : Nat → Nat) (ff : Nat → Int32) (hd bl : Int32) (rs : Nat → Int32) (hs ts : Int32) (rc : Nat → Int32) (hc tc : Int32) (L : Nat → Nat) (cn : Nat) (th : Int32) (kf : Nat → Int32) (Z : Nat → Bool) (pf : Nat → Int32) (H : Heap) (locs : List Loc) (ls : Array Slot), rt_G w h Q → rt_hk Q w h hd ff bl → rt_isL Q L cn → va_P D vwCl (xw cI a w h Q ff hd bl rs hs ts rc hc tc) H → va_P D vwCl (mw cI cZ d w h (fun p => rt_b (decide (Q p ≠ 0))) (fun p => nI (rt_g Q p)) (fun p => nI (rt_s Q p)) (fun i => nI (L i)) cn th kf (fun p => rt_b (Z p)) pf) H → va_S (fun q : Nat => s.heap.size ≤ q) s.heap H locs → lv_has ls 5 [(0, .ref bq), (1, .ref (a 0)), (2, .ref (d 0)), (3, .int (nI (2 + 5 * k)))] → W p l e room_1 s m #[Value.ref bq] below meth c H locs (100 + 3 * (k + 1)) (40000 + 18 * (k + 1)) (lw_Z below #[Value.ref bq] s) (F0 m 603 ls [])) (Q : Nat → Nat) (ff : Nat → Int32) (hd bl : Int32) (rs : Nat → Int32) (hs ts : Int32) (rc : Nat → Int32) (hc tc : Int32) (L : Nat → Nat) (cn : Nat) (th : Int32) (kf : Nat → Int32) (Z : Nat → Bool) (pf : Nat → Int32) (H : Heap) (locs : List Loc) (ls : Array Slot) (hG : rt_G w h Q) (hk0 : rt_hk Q w h hd ff bl) (hL0 : rt_isL Q L cn) (hP1 : va_P D vwCl (xw cI a w h Q ff hd bl rs hs ts rc hc tc) H) (hP2 : va_P D vwCl (mw cI cZ d w h (fun p => rt_b (decide (Q p ≠ 0))) (fun p => nI (rt_g Q p)) (fun p => nI (rt_s Q p)) (fun i => nI (L i)) cn th kf (fun p => rt_b (Z p)) pf) H) (hS : va_S (fun q : Nat => s.heap.size ≤ q) s.heap H locs) (hl : lv_has ls 5 [(0, .ref bq), (1, .ref (a 0)), (2, .ref (d 0)), (3, .int (nI (2 + 5 * k)))]) : W p l e room_1 s m #[Value.ref bq] below meth c H locs (100 + 3 * k) (40000 + 18 * k) (lw_Z below #[Value.ref bq] s) (F0 m 208 ls []) := by
  refine lv_aload_n hx hb d_L_law_208 rfl (lv_at hl 1 rfl) ?_
  refine lv_aload_n hx hb d_L_law_209 rfl (lv_at hl 0 rfl) ?_
  refine lv_iload_n hx hb d_L_law_210 rfl (lv_at hl 3 rfl) ?_
  refine lv_iconst (v := nI (1)) hx hb d_L_law_211 (by decide) ?_
  refine rw_add hx hb d_L_law_212 ?_
  refine va_sld hx hb hX hbl (Nat.not_le.mpr hbl) hS (vp_in_nI (by omega) (by omega)) d_L_law_213 ?_
  refine rw_topI (b := xs (2 + 5 * k + 1)) (by rw [nI_clamp (by omega)]) ?_
  refine lv_aload_n hx hb d_L_law_214 rfl (lv_at hl 0 rfl) ?_
  refine lv_iload_n hx hb d_L_law_215 rfl (lv_at hl 3 rfl) ?_
  refine lv_iconst (v := nI (2)) hx hb d_L_law_216 (by decide) ?_
  refine rw_add hx hb d_L_law_217 ?_
  refine va_sld hx hb hX hbl (Nat.not_le.mpr hbl) hS (vp_in_nI (by omega) (by omega)) d_L_law_218 ?_
  refine rw_topI (b := xs (2 + 5 * k + 2)) (by rw [nI_clamp (by omega)]) ?_
  refine lv_aload_n hx hb d_L_law_219 rfl (lv_at hl 0 rfl) ?_
  refine lv_iload_n hx hb d_L_law_220 rfl (lv_at hl 3 rfl) ?_
  refine lv_iconst (v := nI (3)) hx hb d_L_law_221 (by decide) ?_
  refine rw_add hx hb d_L_law_222 ?_
  refine va_sld hx hb hX hbl (Nat.not_le.mpr hbl) hS (vp_in_nI (by omega) (by omega)) d_L_law_223 ?_
  refine rw_topI (b := xs (2 + 5 * k + 3)) (by rw [nI_clamp (by omega)]) ?_
  refine lv_aload_n hx hb d_L_law_224 rfl (lv_at hl 0 rfl) ?_
  refine lv_iload_n hx hb d_L_law_225 rfl (lv_at hl 3 rfl) ?_
  refine lv_iconst (v := nI (4)) hx hb d_L_law_226 (by decide) ?_
  refine rw_add hx hb d_L_law_227 ?_
  refine va_sld hx hb hX hbl (Nat.not_le.mpr hbl) hS (vp_in_nI (by omega) (by omega)) d_L_law_228 ?_
  refine rw_topI (b := xs (2 + 5 * k + 4)) (by rw [nI_clamp (by omega)]) ?_
  refine l_hs (n := 5) (As := [.ref (a 0), .int (xs (2 + 5 * k + 1)), .int (xs (2 + 5 * k + 2)), .int (xs (2 + 5 * k + 3)), .int (xs (2 + 5 * k + 4))]) (rest := []) ⟨hx, hb, hml, hown, hts⟩ (c_L_signal l hfl D cI cZ g a ha w h Q ff hd bl rs hs ts rc hc tc (xs (2 + 5 * k + 1)) (xs (2 + 5 * k + 2)) (xs (2 + 5 * k + 3)) (xs (2 + 5 * k + 4)) hG hk0) rfl rfl ⟨Nat.le_of_ble_eq_true rfl, Nat.le_of_ble_eq_true rfl⟩ (by decide +kernel) k_methodLink_rn_L_50_y_L_signal k_static_y_L_signal k_initialized_rn_L k_codeWith_y_L_signal_method_5_code_6_some_int_0_9_12_13_0_9_16_15 hP1 hP2 (fun k9 q9 hk9 h9 => hapart _ h9 ((m_D hd0 _ rfl).2 k9 q9 hk9)) hax hK hZ hE hS rfl hl.1 rfl (Nat.le_of_ble_eq_true rfl) d_L_law_229 ⟨by show _ ≤ 601024; omega, by show _ ≤ 7293000; omega⟩ (fun r1 u1 H locs hw1 hP1 hP2 hS => ?_)
  have hP1 : va_P D vwCl (xw cI a w h ((rt_sig Q (w * h) (xs (2 + 5 * k + 1)) (xs (2 + 5 * k + 2)) (xs (2 + 5 * k + 3)) (xs (2 + 5 * k + 4))).2) ff u1 bl rs hs ts rc hc tc) H := hP1
  have hP2 : va_P D vwCl (mw cI cZ d w h (fun p => rt_b (decide (Q p ≠ 0))) (fun p => nI (rt_g Q p)) (fun p => nI (rt_s Q p)) (fun i => nI (L i)) cn th kf (fun p => rt_b (Z p)) pf) H := hP2
  refine lv_istore (lv' := [(4, .int (r1)), (0, .ref bq), (1, .ref (a 0)), (2, .ref (d 0)), (3, .int (nI (2 + 5 * k)))]) hx hb d_L_law_232 hl (by decide) rfl (fun ls hl => ?_)
  refine lv_aload_n hx hb d_L_law_234 rfl (lv_at hl 3 rfl) ?_
  refine lv_aload_n hx hb d_L_law_235 rfl (lv_at hl 1 rfl) ?_
  refine lv_iload_n hx hb d_L_law_236 rfl (lv_at hl 4 rfl) ?_
  refine lv_iconst (v := nI (1)) hx hb d_L_law_237 (by decide) ?_
  refine rw_add hx hb d_L_law_238 ?_
  refine va_sld hx hb hX hbl (Nat.not_le.mpr hbl) hS (vp_in_nI (by omega) (by omega)) d_L_law_239 ?_
  refine rw_topI (b := xs (2 + 5 * k + 1)) (by rw [nI_clamp (by omega)]) ?_
  refine lv_aload_n hx hb d_L_law_240 rfl (lv_at hl 1 rfl) ?_
  refine lv_iload_n hx hb d_L_law_241 rfl (lv_at hl 4 rfl) ?_
  refine lv_iconst (v := nI (2)) hx hb d_L_law_242 (by decide) ?_
  refine rw_add hx hb d_L_law_243 ?_
  refine va_sld hx hb hX hbl (Nat.not_le.mpr hbl) hS (vp_in_nI (by omega) (by omega)) d_L_law_244 ?_
  refine rw_topI (b := xs (2 + 5 * k + 2)) (by rw [nI_clamp (by omega)]) ?_
  refine lv_aload_n hx hb d_L_law_245 rfl (lv_at hl 1 rfl) ?_
  refine lv_iload_n hx hb d_L_law_246 rfl (lv_at hl 4 rfl) ?_
  refine lv_iconst (v := nI (3)) hx hb d_L_law_247 (by decide) ?_
  refine rw_add hx hb d_L_law_248 ?_
  refine va_sld hx hb hX hbl (Nat.not_le.mpr hbl) hS (vp_in_nI (by omega) (by omega)) d_L_law_249 ?_
  refine rw_topI (b := xs (2 + 5 * k + 3)) (by rw [nI_clamp (by omega)]) ?_
  refine lv_aload_n hx hb d_L_law_250 rfl (lv_at hl 1 rfl) ?_
  refine lv_iload_n hx hb d_L_law_251 rfl (lv_at hl 4 rfl) ?_
  refine lv_iconst (v := nI (4)) hx hb d_L_law_252 (by decide) ?_
  refine rw_add hx hb d_L_law_253 ?_
  refine va_sld hx hb hX hbl (Nat.not_le.mpr hbl) hS (vp_in_nI (by omega) (by omega)) d_L_law_254 ?_
  refine rw_topI (b := xs (2 + 5 * k + 4)) (by rw [nI_clamp (by omega)]) ?_
  refine l_cv (As := [.int (xs (2 + 5 * k + 1)), .int (xs (2 + 5 * k + 2)), .int (xs (2 + 5 * k + 3)), .int (xs (2 + 5 * k + 4))]) (rest := []) ⟨hx, hb, hml, hown, hts⟩ (c_M_signal l D cI cZ g d hd0 w h Q L cn th kf Z pf (xs (2 + 5 * k + 1)) (xs (2 + 5 * k + 2)) (xs (2 + 5 * k + 3)) (xs (2 + 5 * k + 4)) hG hL0) (cwV 4 hts (t_gV k_methodLink_rn_L_53_y_M_signal k_instanceMethod_y_M_signal k_selects_rn_M_y_M_signal_y_M_signal k_initialized_rn_M k_code_y_M_signal_prog_6_method_8_code_5_none) rfl rfl rfl (by decide +kernel) ⟨Nat.le_of_ble_eq_true rfl, Nat.le_of_ble_eq_true rfl⟩) (va_recv hK hP2 (ci := 4) (q0 := 0) rfl rfl) hP2 hP1 (fun k9 q9 hk9 h9 => hapart _ ((x_D ha _ rfl).2 k9 q9 hk9) h9) hdm hK hZ hS rfl hl.1 rfl (Nat.le_of_ble_eq_true rfl) d_L_law_255 ⟨by show _ ≤ 601024; omega, by show _ ≤ 7293000; omega⟩ (fun u_255 H locs hw_255 hP2 hP1 hS => ?_)
  obtain ⟨Q2, L2, cn2, th2⟩ := u_255
  obtain ⟨e1, e2, e3⟩ := hw_255
  dsimp only at e1 e2 e3
  subst e2
  have hP1 : va_P D vwCl (xw cI a w h ((rt_sig Q (w * h) (xs (2 + 5 * k + 1)) (xs (2 + 5 * k + 2)) (xs (2 + 5 * k + 3)) (xs (2 + 5 * k + 4))).2) ff u1 bl rs hs ts rc hc tc) H := hP1
  have hP2 : va_P D vwCl (mw cI cZ d w h (fun p => rt_b (decide (((rt_sig Q (w * h) (xs (2 + 5 * k + 1)) (xs (2 + 5 * k + 2)) (xs (2 + 5 * k + 3)) (xs (2 + 5 * k + 4))).2) p ≠ 0))) (fun p => nI (rt_g ((rt_sig Q (w * h) (xs (2 + 5 * k + 1)) (xs (2 + 5 * k + 2)) (xs (2 + 5 * k + 3)) (xs (2 + 5 * k + 4))).2) p)) (fun p => nI (rt_s ((rt_sig Q (w * h) (xs (2 + 5 * k + 1)) (xs (2 + 5 * k + 2)) (xs (2 + 5 * k + 3)) (xs (2 + 5 * k + 4))).2) p)) (fun i => nI (L2 i)) cn2 th2 kf (fun p => rt_b (Z p)) pf) H := hP2
  refine lv_aload_n hx hb d_L_law_258 rfl (lv_at hl 3 rfl) ?_
  refine l_ci (As := []) (rest := []) ⟨hx, hb, hml, hown, hts⟩ (c_M_thrown l D cI cZ g d hd0 w h ((rt_sig Q (w * h) (xs (2 + 5 * k + 1)) (xs (2 + 5 * k + 2)) (xs (2 + 5 * k + 3)) (xs (2 + 5 * k + 4))).2) L2 cn2 th2 kf Z pf) (cwV 0 hts (t_gV k_methodLink_rn_L_43_y_M_thrown k_instanceMethod_y_M_thrown k_selects_rn_M_y_M_thrown_y_M_thrown k_initialized_rn_M k_code_y_M_thrown_prog_6_method_2_code_1_some_int) rfl rfl rfl (by decide +kernel) ⟨Nat.le_of_ble_eq_true rfl, Nat.le_of_ble_eq_true rfl⟩) (va_recv hK hP2 (ci := 4) (q0 := 0) rfl rfl) hP2 hP1 (fun k9 q9 hk9 h9 => hapart _ ((x_D ha _ rfl).2 k9 q9 hk9) h9) hdm hK hZ hS rfl hl.1 rfl (Nat.le_of_ble_eq_true rfl) d_L_law_259 ⟨by show _ ≤ 601024; omega, by show _ ≤ 7293000; omega⟩ (fun r_259 u_259 H locs hw_259 hP2 hP1 hS => ?_)
  have hP1 : va_P D vwCl (xw cI a w h ((rt_sig Q (w * h) (xs (2 + 5 * k + 1)) (xs (2 + 5 * k + 2)) (xs (2 + 5 * k + 3)) (xs (2 + 5 * k + 4))).2) ff u1 bl rs hs ts rc hc tc) H := hP1
  have hP2 : va_P D vwCl (mw cI cZ d w h (fun p => rt_b (decide (((rt_sig Q (w * h) (xs (2 + 5 * k + 1)) (xs (2 + 5 * k + 2)) (xs (2 + 5 * k + 3)) (xs (2 + 5 * k + 4))).2) p ≠ 0))) (fun p => nI (rt_g ((rt_sig Q (w * h) (xs (2 + 5 * k + 1)) (xs (2 + 5 * k + 2)) (xs (2 + 5 * k + 3)) (xs (2 + 5 * k + 4))).2) p)) (fun p => nI (rt_s ((rt_sig Q (w * h) (xs (2 + 5 * k + 1)) (xs (2 + 5 * k + 2)) (xs (2 + 5 * k + 3)) (xs (2 + 5 * k + 4))).2) p)) (fun i => nI (L2 i)) cn2 th2 kf (fun p => rt_b (Z p)) pf) H := hP2
  refine lv_iload hx hb d_L_law_262 (lv_at hl 0 rfl) ?_
  refine lv_icmp_eq (tgt := 269) hx hb d_L_law_264 (by decide) (fun _ => ?_) (fun c9 => absurd (hw_259.trans (e1.trans hw1.1.symm)) c9)
  refine lv_goto (tgt := 603) hx hb d_L_law_269 (by decide) ?_
  refine W.widen (k := 100 + 3 * (k + 1)) (n := 40000 + 18 * (k + 1)) (by omega) (by omega) ?_
  exact nx _ _ _ _ _ _ _ _ _ _ _ _ _ _ _ _ _ _ _ (rt_chg_G hG (xs (2 + 5 * k + 1)) (xs (2 + 5 * k + 2)) (xs (2 + 5 * k + 3)) (xs (2 + 5 * k + 4))).2.2.1 hw1.2 e3 hP1 hP2 hS (lv_sub hl [1, 2, 3, 4] rfl)

set_option maxHeartbeats 4000000 in
set_option maxRecDepth 100000 in
theorem l_platform {p : Program} {e : Env} {s : State} {m : MethodId} {below : List Frame} {meth : Method} {c : Code} (l : Launch) (hfl : l.flags = flags0) {D : va_G} {cI cZ : ClassId} {g a d : Nat → Nat} {bq LN : Nat} {xs : Nat → Int32} (w h : Nat) (hx : p.tables.exec = Jvm.exec) (hb : c.code = b_L_law) (hml : c.maxLocals = 5) (hown : s.vm.findClass rn_L = some m.cls) (hts : ∀ w ∈ tG, w.before #[Value.ref bq] s = true) (hK : va_K D vwCl (xT cI cZ) s) (hZ : xZ g (fun q : Nat => s.heap.size ≤ q) s s.heap) (hE : xe_K (fun q : Nat => s.heap.size ≤ q) s s.heap) (ha : xI a) (hd0 : mI d) (hax : ∀ q, xA a q → (fun q : Nat => s.heap.size ≤ q) q) (hdm : ∀ q, mA d q → (fun q : Nat => s.heap.size ≤ q) q) (hapart : ∀ q, xA a q → mA d q → False) (hX : va_X bq LN xs s s.heap) (hbl : bq < s.heap.size) (hLN : LN ≤ 2562) (k : Nat) (hk5 : 2 + 5 * k + 5 ≤ LN) (nx : ∀ (Q : Nat → Nat) (ff : Nat → Int32) (hd bl : Int32) (rs : Nat → Int32) (hs ts : Int32) (rc : Nat → Int32) (hc tc : Int32) (L : Nat → Nat) (cn : Nat) (th : Int32) (kf : Nat → Int32) (Z : Nat → Bool) (pf : Nat → Int32) (H : Heap) (locs : List Loc) (ls : Array Slot), rt_G w h Q → rt_hk Q w h hd ff bl → rt_isL Q L cn → va_P D vwCl (xw cI a w h Q ff hd bl rs hs ts rc hc tc) H → va_P D vwCl (mw cI cZ d w h (fun p => rt_b (decide (Q p ≠ 0))) (fun p => nI (rt_g Q p)) (fun p => nI (rt_s Q p)) (fun i => nI (L i)) cn th kf (fun p => rt_b (Z p)) pf) H → va_S (fun q : Nat => s.heap.size ≤ q) s.heap H locs → lv_has ls 5 [(0, .ref bq), (1, .ref (a 0)), (2, .ref (d 0)), (3, .int (nI (2 + 5 * k)))] → W p l e room_1 s m #[Value.ref bq] below meth c H locs (100 + 3 * (k + 1)) (40000 + 18 * (k + 1)) (lw_Z below #[Value.ref bq] s) (F0 m 603 ls [])) (Q : Nat → Nat) (ff : Nat → Int32) (hd bl : Int32) (rs : Nat → Int32) (hs ts : Int32) (rc : Nat → Int32) (hc tc : Int32) (L : Nat → Nat) (cn : Nat) (th : Int32) (kf : Nat → Int32) (Z : Nat → Bool) (pf : Nat → Int32) (H : Heap) (locs : List Loc) (ls : Array Slot) (hG : rt_G w h Q) (hk0 : rt_hk Q w h hd ff bl) (hL0 : rt_isL Q L cn) (hP1 : va_P D vwCl (xw cI a w h Q ff hd bl rs hs ts rc hc tc) H) (hP2 : va_P D vwCl (mw cI cZ d w h (fun p => rt_b (decide (Q p ≠ 0))) (fun p => nI (rt_g Q p)) (fun p => nI (rt_s Q p)) (fun i => nI (L i)) cn th kf (fun p => rt_b (Z p)) pf) H) (hS : va_S (fun q : Nat => s.heap.size ≤ q) s.heap H locs) (hl : lv_has ls 5 [(0, .ref bq), (1, .ref (a 0)), (2, .ref (d 0)), (3, .int (nI (2 + 5 * k)))]) : W p l e room_1 s m #[Value.ref bq] below meth c H locs (100 + 3 * k) (40000 + 18 * k) (lw_Z below #[Value.ref bq] s) (F0 m 272 ls []) := by
  refine lv_aload_n hx hb d_L_law_272 rfl (lv_at hl 1 rfl) ?_
  refine lv_aload_n hx hb d_L_law_273 rfl (lv_at hl 0 rfl) ?_
  refine lv_iload_n hx hb d_L_law_274 rfl (lv_at hl 3 rfl) ?_
  refine lv_iconst (v := nI (1)) hx hb d_L_law_275 (by decide) ?_
  refine rw_add hx hb d_L_law_276 ?_
  refine va_sld hx hb hX hbl (Nat.not_le.mpr hbl) hS (vp_in_nI (by omega) (by omega)) d_L_law_277 ?_
  refine rw_topI (b := xs (2 + 5 * k + 1)) (by rw [nI_clamp (by omega)]) ?_
  refine lv_aload_n hx hb d_L_law_278 rfl (lv_at hl 0 rfl) ?_
  refine lv_iload_n hx hb d_L_law_279 rfl (lv_at hl 3 rfl) ?_
  refine lv_iconst (v := nI (2)) hx hb d_L_law_280 (by decide) ?_
  refine rw_add hx hb d_L_law_281 ?_
  refine va_sld hx hb hX hbl (Nat.not_le.mpr hbl) hS (vp_in_nI (by omega) (by omega)) d_L_law_282 ?_
  refine rw_topI (b := xs (2 + 5 * k + 2)) (by rw [nI_clamp (by omega)]) ?_
  refine lv_aload_n hx hb d_L_law_283 rfl (lv_at hl 0 rfl) ?_
  refine lv_iload_n hx hb d_L_law_284 rfl (lv_at hl 3 rfl) ?_
  refine lv_iconst (v := nI (3)) hx hb d_L_law_285 (by decide) ?_
  refine rw_add hx hb d_L_law_286 ?_
  refine va_sld hx hb hX hbl (Nat.not_le.mpr hbl) hS (vp_in_nI (by omega) (by omega)) d_L_law_287 ?_
  refine rw_topI (b := xs (2 + 5 * k + 3)) (by rw [nI_clamp (by omega)]) ?_
  refine l_hs (n := 4) (As := [.ref (a 0), .int (xs (2 + 5 * k + 1)), .int (xs (2 + 5 * k + 2)), .int (xs (2 + 5 * k + 3))]) (rest := []) ⟨hx, hb, hml, hown, hts⟩ (c_L_platform l hfl D cI cZ g a ha w h Q ff hd bl rs hs ts rc hc tc (xs (2 + 5 * k + 1)) (xs (2 + 5 * k + 2)) (xs (2 + 5 * k + 3)) hG hk0) rfl rfl ⟨Nat.le_of_ble_eq_true rfl, Nat.le_of_ble_eq_true rfl⟩ (by decide +kernel) k_methodLink_rn_L_54_y_L_platform k_static_y_L_platform k_initialized_rn_L k_codeWith_y_L_platform_method_6_code_5_some_int_0_7_10_13_0_7_14_15 hP1 hP2 (fun k9 q9 hk9 h9 => hapart _ h9 ((m_D hd0 _ rfl).2 k9 q9 hk9)) hax hK hZ hE hS rfl hl.1 rfl (Nat.le_of_ble_eq_true rfl) d_L_law_288 ⟨by show _ ≤ 601024; omega, by show _ ≤ 7293000; omega⟩ (fun r1 u1 H locs hw1 hP1 hP2 hS => ?_)
  have hP1 : va_P D vwCl (xw cI a w h ((rt_plt Q (w * h) (xs (2 + 5 * k + 1)) (xs (2 + 5 * k + 2)) (xs (2 + 5 * k + 3))).2) ff u1 bl rs hs ts rc hc tc) H := hP1
  have hP2 : va_P D vwCl (mw cI cZ d w h (fun p => rt_b (decide (Q p ≠ 0))) (fun p => nI (rt_g Q p)) (fun p => nI (rt_s Q p)) (fun i => nI (L i)) cn th kf (fun p => rt_b (Z p)) pf) H := hP2
  refine lv_istore (lv' := [(4, .int (r1)), (0, .ref bq), (1, .ref (a 0)), (2, .ref (d 0)), (3, .int (nI (2 + 5 * k)))]) hx hb d_L_law_291 hl (by decide) rfl (fun ls hl => ?_)
  refine lv_aload_n hx hb d_L_law_293 rfl (lv_at hl 3 rfl) ?_
  refine lv_aload_n hx hb d_L_law_294 rfl (lv_at hl 1 rfl) ?_
  refine lv_iload_n hx hb d_L_law_295 rfl (lv_at hl 4 rfl) ?_
  refine lv_iconst (v := nI (1)) hx hb d_L_law_296 (by decide) ?_
  refine rw_add hx hb d_L_law_297 ?_
  refine va_sld hx hb hX hbl (Nat.not_le.mpr hbl) hS (vp_in_nI (by omega) (by omega)) d_L_law_298 ?_
  refine rw_topI (b := xs (2 + 5 * k + 1)) (by rw [nI_clamp (by omega)]) ?_
  refine lv_aload_n hx hb d_L_law_299 rfl (lv_at hl 1 rfl) ?_
  refine lv_iload_n hx hb d_L_law_300 rfl (lv_at hl 4 rfl) ?_
  refine lv_iconst (v := nI (2)) hx hb d_L_law_301 (by decide) ?_
  refine rw_add hx hb d_L_law_302 ?_
  refine va_sld hx hb hX hbl (Nat.not_le.mpr hbl) hS (vp_in_nI (by omega) (by omega)) d_L_law_303 ?_
  refine rw_topI (b := xs (2 + 5 * k + 2)) (by rw [nI_clamp (by omega)]) ?_
  refine lv_aload_n hx hb d_L_law_304 rfl (lv_at hl 1 rfl) ?_
  refine lv_iload_n hx hb d_L_law_305 rfl (lv_at hl 4 rfl) ?_
  refine lv_iconst (v := nI (3)) hx hb d_L_law_306 (by decide) ?_
  refine rw_add hx hb d_L_law_307 ?_
  refine va_sld hx hb hX hbl (Nat.not_le.mpr hbl) hS (vp_in_nI (by omega) (by omega)) d_L_law_308 ?_
  refine rw_topI (b := xs (2 + 5 * k + 3)) (by rw [nI_clamp (by omega)]) ?_
  refine l_cv (As := [.int (xs (2 + 5 * k + 1)), .int (xs (2 + 5 * k + 2)), .int (xs (2 + 5 * k + 3))]) (rest := []) ⟨hx, hb, hml, hown, hts⟩ (c_M_platform l D cI cZ g d hd0 w h Q L cn th kf Z pf (xs (2 + 5 * k + 1)) (xs (2 + 5 * k + 2)) (xs (2 + 5 * k + 3)) hG hL0) (cwV 3 hts (t_gV k_methodLink_rn_L_57_y_M_platform k_instanceMethod_y_M_platform k_selects_rn_M_y_M_platform_y_M_platform k_initialized_rn_M k_code_y_M_platform_prog_6_method_9_code_4_none) rfl rfl rfl (by decide +kernel) ⟨Nat.le_of_ble_eq_true rfl, Nat.le_of_ble_eq_true rfl⟩) (va_recv hK hP2 (ci := 4) (q0 := 0) rfl rfl) hP2 hP1 (fun k9 q9 hk9 h9 => hapart _ ((x_D ha _ rfl).2 k9 q9 hk9) h9) hdm hK hZ hS rfl hl.1 rfl (Nat.le_of_ble_eq_true rfl) d_L_law_309 ⟨by show _ ≤ 601024; omega, by show _ ≤ 7293000; omega⟩ (fun u_309 H locs hw_309 hP2 hP1 hS => ?_)
  obtain ⟨Q2, L2, cn2, th2⟩ := u_309
  obtain ⟨e1, e2, e3⟩ := hw_309
  dsimp only at e1 e2 e3
  subst e2
  have hP1 : va_P D vwCl (xw cI a w h ((rt_plt Q (w * h) (xs (2 + 5 * k + 1)) (xs (2 + 5 * k + 2)) (xs (2 + 5 * k + 3))).2) ff u1 bl rs hs ts rc hc tc) H := hP1
  have hP2 : va_P D vwCl (mw cI cZ d w h (fun p => rt_b (decide (((rt_plt Q (w * h) (xs (2 + 5 * k + 1)) (xs (2 + 5 * k + 2)) (xs (2 + 5 * k + 3))).2) p ≠ 0))) (fun p => nI (rt_g ((rt_plt Q (w * h) (xs (2 + 5 * k + 1)) (xs (2 + 5 * k + 2)) (xs (2 + 5 * k + 3))).2) p)) (fun p => nI (rt_s ((rt_plt Q (w * h) (xs (2 + 5 * k + 1)) (xs (2 + 5 * k + 2)) (xs (2 + 5 * k + 3))).2) p)) (fun i => nI (L2 i)) cn2 th2 kf (fun p => rt_b (Z p)) pf) H := hP2
  refine lv_aload_n hx hb d_L_law_312 rfl (lv_at hl 3 rfl) ?_
  refine l_ci (As := []) (rest := []) ⟨hx, hb, hml, hown, hts⟩ (c_M_thrown l D cI cZ g d hd0 w h ((rt_plt Q (w * h) (xs (2 + 5 * k + 1)) (xs (2 + 5 * k + 2)) (xs (2 + 5 * k + 3))).2) L2 cn2 th2 kf Z pf) (cwV 0 hts (t_gV k_methodLink_rn_L_43_y_M_thrown k_instanceMethod_y_M_thrown k_selects_rn_M_y_M_thrown_y_M_thrown k_initialized_rn_M k_code_y_M_thrown_prog_6_method_2_code_1_some_int) rfl rfl rfl (by decide +kernel) ⟨Nat.le_of_ble_eq_true rfl, Nat.le_of_ble_eq_true rfl⟩) (va_recv hK hP2 (ci := 4) (q0 := 0) rfl rfl) hP2 hP1 (fun k9 q9 hk9 h9 => hapart _ ((x_D ha _ rfl).2 k9 q9 hk9) h9) hdm hK hZ hS rfl hl.1 rfl (Nat.le_of_ble_eq_true rfl) d_L_law_313 ⟨by show _ ≤ 601024; omega, by show _ ≤ 7293000; omega⟩ (fun r_313 u_313 H locs hw_313 hP2 hP1 hS => ?_)
  have hP1 : va_P D vwCl (xw cI a w h ((rt_plt Q (w * h) (xs (2 + 5 * k + 1)) (xs (2 + 5 * k + 2)) (xs (2 + 5 * k + 3))).2) ff u1 bl rs hs ts rc hc tc) H := hP1
  have hP2 : va_P D vwCl (mw cI cZ d w h (fun p => rt_b (decide (((rt_plt Q (w * h) (xs (2 + 5 * k + 1)) (xs (2 + 5 * k + 2)) (xs (2 + 5 * k + 3))).2) p ≠ 0))) (fun p => nI (rt_g ((rt_plt Q (w * h) (xs (2 + 5 * k + 1)) (xs (2 + 5 * k + 2)) (xs (2 + 5 * k + 3))).2) p)) (fun p => nI (rt_s ((rt_plt Q (w * h) (xs (2 + 5 * k + 1)) (xs (2 + 5 * k + 2)) (xs (2 + 5 * k + 3))).2) p)) (fun i => nI (L2 i)) cn2 th2 kf (fun p => rt_b (Z p)) pf) H := hP2
  refine lv_iload hx hb d_L_law_316 (lv_at hl 0 rfl) ?_
  refine lv_icmp_eq (tgt := 323) hx hb d_L_law_318 (by decide) (fun _ => ?_) (fun c9 => absurd (hw_313.trans (e1.trans hw1.1.symm)) c9)
  refine lv_goto (tgt := 603) hx hb d_L_law_323 (by decide) ?_
  refine W.widen (k := 100 + 3 * (k + 1)) (n := 40000 + 18 * (k + 1)) (by omega) (by omega) ?_
  exact nx _ _ _ _ _ _ _ _ _ _ _ _ _ _ _ _ _ _ _ (rt_chg_G hG (xs (2 + 5 * k + 1)) (xs (2 + 5 * k + 2)) (xs (2 + 5 * k + 3)) 0).2.2.2 hw1.2 e3 hP1 hP2 hS (lv_sub hl [1, 2, 3, 4] rfl)

set_option maxHeartbeats 4000000 in
set_option maxRecDepth 100000 in
theorem l_at {p : Program} {e : Env} {s : State} {m : MethodId} {below : List Frame} {meth : Method} {c : Code} (l : Launch) (hfl : l.flags = flags0) {D : va_G} {cI cZ : ClassId} {g a d : Nat → Nat} {bq LN : Nat} {xs : Nat → Int32} (w h : Nat) (hx : p.tables.exec = Jvm.exec) (hb : c.code = b_L_law) (hml : c.maxLocals = 5) (hown : s.vm.findClass rn_L = some m.cls) (hts : ∀ w ∈ tG, w.before #[Value.ref bq] s = true) (hK : va_K D vwCl (xT cI cZ) s) (hZ : xZ g (fun q : Nat => s.heap.size ≤ q) s s.heap) (hE : xe_K (fun q : Nat => s.heap.size ≤ q) s s.heap) (ha : xI a) (hd0 : mI d) (hax : ∀ q, xA a q → (fun q : Nat => s.heap.size ≤ q) q) (hdm : ∀ q, mA d q → (fun q : Nat => s.heap.size ≤ q) q) (hapart : ∀ q, xA a q → mA d q → False) (hX : va_X bq LN xs s s.heap) (hbl : bq < s.heap.size) (hLN : LN ≤ 2562) (k : Nat) (hk5 : 2 + 5 * k + 5 ≤ LN) (nx : ∀ (Q : Nat → Nat) (ff : Nat → Int32) (hd bl : Int32) (rs : Nat → Int32) (hs ts : Int32) (rc : Nat → Int32) (hc tc : Int32) (L : Nat → Nat) (cn : Nat) (th : Int32) (kf : Nat → Int32) (Z : Nat → Bool) (pf : Nat → Int32) (H : Heap) (locs : List Loc) (ls : Array Slot), rt_G w h Q → rt_hk Q w h hd ff bl → rt_isL Q L cn → va_P D vwCl (xw cI a w h Q ff hd bl rs hs ts rc hc tc) H → va_P D vwCl (mw cI cZ d w h (fun p => rt_b (decide (Q p ≠ 0))) (fun p => nI (rt_g Q p)) (fun p => nI (rt_s Q p)) (fun i => nI (L i)) cn th kf (fun p => rt_b (Z p)) pf) H → va_S (fun q : Nat => s.heap.size ≤ q) s.heap H locs → lv_has ls 5 [(0, .ref bq), (1, .ref (a 0)), (2, .ref (d 0)), (3, .int (nI (2 + 5 * k)))] → W p l e room_1 s m #[Value.ref bq] below meth c H locs (100 + 3 * (k + 1)) (40000 + 18 * (k + 1)) (lw_Z below #[Value.ref bq] s) (F0 m 603 ls [])) (Q : Nat → Nat) (ff : Nat → Int32) (hd bl : Int32) (rs : Nat → Int32) (hs ts : Int32) (rc : Nat → Int32) (hc tc : Int32) (L : Nat → Nat) (cn : Nat) (th : Int32) (kf : Nat → Int32) (Z : Nat → Bool) (pf : Nat → Int32) (H : Heap) (locs : List Loc) (ls : Array Slot) (hG : rt_G w h Q) (hk0 : rt_hk Q w h hd ff bl) (hL0 : rt_isL Q L cn) (hP1 : va_P D vwCl (xw cI a w h Q ff hd bl rs hs ts rc hc tc) H) (hP2 : va_P D vwCl (mw cI cZ d w h (fun p => rt_b (decide (Q p ≠ 0))) (fun p => nI (rt_g Q p)) (fun p => nI (rt_s Q p)) (fun i => nI (L i)) cn th kf (fun p => rt_b (Z p)) pf) H) (hS : va_S (fun q : Nat => s.heap.size ≤ q) s.heap H locs) (hl : lv_has ls 5 [(0, .ref bq), (1, .ref (a 0)), (2, .ref (d 0)), (3, .int (nI (2 + 5 * k)))]) : W p l e room_1 s m #[Value.ref bq] below meth c H locs (100 + 3 * k) (40000 + 18 * k) (lw_Z below #[Value.ref bq] s) (F0 m 326 ls []) := by
  refine lv_aload_n hx hb d_L_law_326 rfl (lv_at hl 1 rfl) ?_
  refine lv_aload_n hx hb d_L_law_327 rfl (lv_at hl 0 rfl) ?_
  refine lv_iload_n hx hb d_L_law_328 rfl (lv_at hl 3 rfl) ?_
  refine lv_iconst (v := nI (1)) hx hb d_L_law_329 (by decide) ?_
  refine rw_add hx hb d_L_law_330 ?_
  refine va_sld hx hb hX hbl (Nat.not_le.mpr hbl) hS (vp_in_nI (by omega) (by omega)) d_L_law_331 ?_
  refine rw_topI (b := xs (2 + 5 * k + 1)) (by rw [nI_clamp (by omega)]) ?_
  refine lv_aload_n hx hb d_L_law_332 rfl (lv_at hl 0 rfl) ?_
  refine lv_iload_n hx hb d_L_law_333 rfl (lv_at hl 3 rfl) ?_
  refine lv_iconst (v := nI (2)) hx hb d_L_law_334 (by decide) ?_
  refine rw_add hx hb d_L_law_335 ?_
  refine va_sld hx hb hX hbl (Nat.not_le.mpr hbl) hS (vp_in_nI (by omega) (by omega)) d_L_law_336 ?_
  refine rw_topI (b := xs (2 + 5 * k + 2)) (by rw [nI_clamp (by omega)]) ?_
  refine l_ci (As := [.int (xs (2 + 5 * k + 1)), .int (xs (2 + 5 * k + 2))]) (rest := []) ⟨hx, hb, hml, hown, hts⟩ (c_R_at l D cI cZ g a ha w h Q ff hd bl rs hs ts rc hc tc (xs (2 + 5 * k + 1)) (xs (2 + 5 * k + 2)) hG) (cwV 2 hts (t_gV k_methodLink_rn_L_58_y_R_at k_instanceMethod_y_R_at k_selects_rn_R_y_R_at_y_R_at k_initialized_rn_R k_code_y_R_at_prog_1_method_6_code_3_some_int) rfl rfl rfl (by decide +kernel) ⟨Nat.le_of_ble_eq_true rfl, Nat.le_of_ble_eq_true rfl⟩) (va_recv hK hP1 (ci := 3) (q0 := 0) rfl rfl) hP1 hP2 (fun k9 q9 hk9 h9 => hapart _ h9 ((m_D hd0 _ rfl).2 k9 q9 hk9)) hax hK hZ hS rfl hl.1 rfl (Nat.le_of_ble_eq_true rfl) d_L_law_337 ⟨by show _ ≤ 601024; omega, by show _ ≤ 7293000; omega⟩ (fun r_337 u_337 H locs hw_337 hP1 hP2 hS => ?_)
  have hP1 : va_P D vwCl (xw cI a w h Q ff hd bl rs hs ts rc hc tc) H := hP1
  have hP2 : va_P D vwCl (mw cI cZ d w h (fun p => rt_b (decide (Q p ≠ 0))) (fun p => nI (rt_g Q p)) (fun p => nI (rt_s Q p)) (fun i => nI (L i)) cn th kf (fun p => rt_b (Z p)) pf) H := hP2
  refine lv_aload_n hx hb d_L_law_340 rfl (lv_at hl 2 rfl) ?_
  refine lv_aload_n hx hb d_L_law_341 rfl (lv_at hl 0 rfl) ?_
  refine lv_iload_n hx hb d_L_law_342 rfl (lv_at hl 3 rfl) ?_
  refine lv_iconst (v := nI (1)) hx hb d_L_law_343 (by decide) ?_
  refine rw_add hx hb d_L_law_344 ?_
  refine va_sld hx hb hX hbl (Nat.not_le.mpr hbl) hS (vp_in_nI (by omega) (by omega)) d_L_law_345 ?_
  refine rw_topI (b := xs (2 + 5 * k + 1)) (by rw [nI_clamp (by omega)]) ?_
  refine lv_aload_n hx hb d_L_law_346 rfl (lv_at hl 0 rfl) ?_
  refine lv_iload_n hx hb d_L_law_347 rfl (lv_at hl 3 rfl) ?_
  refine lv_iconst (v := nI (2)) hx hb d_L_law_348 (by decide) ?_
  refine rw_add hx hb d_L_law_349 ?_
  refine va_sld hx hb hX hbl (Nat.not_le.mpr hbl) hS (vp_in_nI (by omega) (by omega)) d_L_law_350 ?_
  refine rw_topI (b := xs (2 + 5 * k + 2)) (by rw [nI_clamp (by omega)]) ?_
  refine l_ci (As := [.int (xs (2 + 5 * k + 1)), .int (xs (2 + 5 * k + 2))]) (rest := [.int (r_337)]) ⟨hx, hb, hml, hown, hts⟩ (c_M_at l D cI cZ g d hd0 w h Q L cn th kf Z pf (xs (2 + 5 * k + 1)) (xs (2 + 5 * k + 2)) hG) (cwV 2 hts (t_gV k_methodLink_rn_L_62_y_M_at k_instanceMethod_y_M_at k_selects_rn_M_y_M_at_y_M_at k_initialized_rn_M k_code_y_M_at_prog_6_method_10_code_5_some_int) rfl rfl rfl (by decide +kernel) ⟨Nat.le_of_ble_eq_true rfl, Nat.le_of_ble_eq_true rfl⟩) (va_recv hK hP2 (ci := 4) (q0 := 0) rfl rfl) hP2 hP1 (fun k9 q9 hk9 h9 => hapart _ ((x_D ha _ rfl).2 k9 q9 hk9) h9) hdm hK hZ hS rfl hl.1 rfl (Nat.le_of_ble_eq_true rfl) d_L_law_351 ⟨by show _ ≤ 601024; omega, by show _ ≤ 7293000; omega⟩ (fun r_351 u_351 H locs hw_351 hP2 hP1 hS => ?_)
  have hP1 : va_P D vwCl (xw cI a w h Q ff hd bl rs hs ts rc hc tc) H := hP1
  have hP2 : va_P D vwCl (mw cI cZ d w h (fun p => rt_b (decide (Q p ≠ 0))) (fun p => nI (rt_g Q p)) (fun p => nI (rt_s Q p)) (fun i => nI (L i)) cn (nI (0)) kf (fun p => rt_b (Z p)) pf) H := hP2
  refine lv_icmp_eq (tgt := 603) hx hb d_L_law_354 (by decide) (fun _ => ?_) (fun c9 => absurd (hw_337.trans hw_351.symm) c9)
  refine W.widen (k := 100 + 3 * (k + 1)) (n := 40000 + 18 * (k + 1)) (by omega) (by omega) ?_
  exact nx _ _ _ _ _ _ _ _ _ _ _ _ _ _ _ _ _ _ _ hG hk0 hL0 hP1 hP2 hS (lv_sub hl [0, 1, 2, 3] rfl)

set_option maxHeartbeats 4000000 in
set_option maxRecDepth 100000 in
theorem l_next {p : Program} {e : Env} {s : State} {m : MethodId} {below : List Frame} {meth : Method} {c : Code} (l : Launch) (hfl : l.flags = flags0) {D : va_G} {cI cZ : ClassId} {g a d : Nat → Nat} {bq LN : Nat} {xs : Nat → Int32} (w h : Nat) (hx : p.tables.exec = Jvm.exec) (hb : c.code = b_L_law) (hml : c.maxLocals = 5) (hown : s.vm.findClass rn_L = some m.cls) (hts : ∀ w ∈ tG, w.before #[Value.ref bq] s = true) (hK : va_K D vwCl (xT cI cZ) s) (hZ : xZ g (fun q : Nat => s.heap.size ≤ q) s s.heap) (hE : xe_K (fun q : Nat => s.heap.size ≤ q) s s.heap) (ha : xI a) (hd0 : mI d) (hax : ∀ q, xA a q → (fun q : Nat => s.heap.size ≤ q) q) (hdm : ∀ q, mA d q → (fun q : Nat => s.heap.size ≤ q) q) (hapart : ∀ q, xA a q → mA d q → False) (hX : va_X bq LN xs s s.heap) (hbl : bq < s.heap.size) (hLN : LN ≤ 2562) (k : Nat) (hk5 : 2 + 5 * k + 5 ≤ LN) (nx : ∀ (Q : Nat → Nat) (ff : Nat → Int32) (hd bl : Int32) (rs : Nat → Int32) (hs ts : Int32) (rc : Nat → Int32) (hc tc : Int32) (L : Nat → Nat) (cn : Nat) (th : Int32) (kf : Nat → Int32) (Z : Nat → Bool) (pf : Nat → Int32) (H : Heap) (locs : List Loc) (ls : Array Slot), rt_G w h Q → rt_hk Q w h hd ff bl → rt_isL Q L cn → va_P D vwCl (xw cI a w h Q ff hd bl rs hs ts rc hc tc) H → va_P D vwCl (mw cI cZ d w h (fun p => rt_b (decide (Q p ≠ 0))) (fun p => nI (rt_g Q p)) (fun p => nI (rt_s Q p)) (fun i => nI (L i)) cn th kf (fun p => rt_b (Z p)) pf) H → va_S (fun q : Nat => s.heap.size ≤ q) s.heap H locs → lv_has ls 5 [(0, .ref bq), (1, .ref (a 0)), (2, .ref (d 0)), (3, .int (nI (2 + 5 * k)))] → W p l e room_1 s m #[Value.ref bq] below meth c H locs (100 + 3 * (k + 1)) (40000 + 18 * (k + 1)) (lw_Z below #[Value.ref bq] s) (F0 m 603 ls [])) (Q : Nat → Nat) (ff : Nat → Int32) (hd bl : Int32) (rs : Nat → Int32) (hs ts : Int32) (rc : Nat → Int32) (hc tc : Int32) (L : Nat → Nat) (cn : Nat) (th : Int32) (kf : Nat → Int32) (Z : Nat → Bool) (pf : Nat → Int32) (H : Heap) (locs : List Loc) (ls : Array Slot) (hG : rt_G w h Q) (hk0 : rt_hk Q w h hd ff bl) (hL0 : rt_isL Q L cn) (hP1 : va_P D vwCl (xw cI a w h Q ff hd bl rs hs ts rc hc tc) H) (hP2 : va_P D vwCl (mw cI cZ d w h (fun p => rt_b (decide (Q p ≠ 0))) (fun p => nI (rt_g Q p)) (fun p => nI (rt_s Q p)) (fun i => nI (L i)) cn th kf (fun p => rt_b (Z p)) pf) H) (hS : va_S (fun q : Nat => s.heap.size ≤ q) s.heap H locs) (hl : lv_has ls 5 [(0, .ref bq), (1, .ref (a 0)), (2, .ref (d 0)), (3, .int (nI (2 + 5 * k)))]) : W p l e room_1 s m #[Value.ref bq] below meth c H locs (100 + 3 * k) (40000 + 18 * k) (lw_Z below #[Value.ref bq] s) (F0 m 359 ls []) := by
  refine lv_aload_n hx hb d_L_law_359 rfl (lv_at hl 1 rfl) ?_
  refine lv_aload_n hx hb d_L_law_360 rfl (lv_at hl 0 rfl) ?_
  refine lv_iload_n hx hb d_L_law_361 rfl (lv_at hl 3 rfl) ?_
  refine lv_iconst (v := nI (1)) hx hb d_L_law_362 (by decide) ?_
  refine rw_add hx hb d_L_law_363 ?_
  refine va_sld hx hb hX hbl (Nat.not_le.mpr hbl) hS (vp_in_nI (by omega) (by omega)) d_L_law_364 ?_
  refine rw_topI (b := xs (2 + 5 * k + 1)) (by rw [nI_clamp (by omega)]) ?_
  refine lv_aload_n hx hb d_L_law_365 rfl (lv_at hl 0 rfl) ?_
  refine lv_iload_n hx hb d_L_law_366 rfl (lv_at hl 3 rfl) ?_
  refine lv_iconst (v := nI (2)) hx hb d_L_law_367 (by decide) ?_
  refine rw_add hx hb d_L_law_368 ?_
  refine va_sld hx hb hX hbl (Nat.not_le.mpr hbl) hS (vp_in_nI (by omega) (by omega)) d_L_law_369 ?_
  refine rw_topI (b := xs (2 + 5 * k + 2)) (by rw [nI_clamp (by omega)]) ?_
  refine l_ci (As := [.int (xs (2 + 5 * k + 1)), .int (xs (2 + 5 * k + 2))]) (rest := []) ⟨hx, hb, hml, hown, hts⟩ (c_R_next l D cI cZ g a ha w h Q ff hd bl rs hs ts rc hc tc (xs (2 + 5 * k + 1)) (xs (2 + 5 * k + 2)) hG) (cwV 2 hts (t_gV k_methodLink_rn_L_63_y_R_next k_instanceMethod_y_R_next k_selects_rn_R_y_R_next_y_R_next k_initialized_rn_R k_code_y_R_next_prog_1_method_7_code_6_some_int) rfl rfl rfl (by decide +kernel) ⟨Nat.le_of_ble_eq_true rfl, Nat.le_of_ble_eq_true rfl⟩) (va_recv hK hP1 (ci := 3) (q0 := 0) rfl rfl) hP1 hP2 (fun k9 q9 hk9 h9 => hapart _ h9 ((m_D hd0 _ rfl).2 k9 q9 hk9)) hax hK hZ hS rfl hl.1 rfl (Nat.le_of_ble_eq_true rfl) d_L_law_370 ⟨by show _ ≤ 601024; omega, by show _ ≤ 7293000; omega⟩ (fun r_370 u_370 H locs hw_370 hP1 hP2 hS => ?_)
  have hP1 : va_P D vwCl (xw cI a w h Q ff hd bl rs hs ts rc hc tc) H := hP1
  have hP2 : va_P D vwCl (mw cI cZ d w h (fun p => rt_b (decide (Q p ≠ 0))) (fun p => nI (rt_g Q p)) (fun p => nI (rt_s Q p)) (fun i => nI (L i)) cn th kf (fun p => rt_b (Z p)) pf) H := hP2
  refine lv_aload_n hx hb d_L_law_373 rfl (lv_at hl 2 rfl) ?_
  refine lv_aload_n hx hb d_L_law_374 rfl (lv_at hl 0 rfl) ?_
  refine lv_iload_n hx hb d_L_law_375 rfl (lv_at hl 3 rfl) ?_
  refine lv_iconst (v := nI (1)) hx hb d_L_law_376 (by decide) ?_
  refine rw_add hx hb d_L_law_377 ?_
  refine va_sld hx hb hX hbl (Nat.not_le.mpr hbl) hS (vp_in_nI (by omega) (by omega)) d_L_law_378 ?_
  refine rw_topI (b := xs (2 + 5 * k + 1)) (by rw [nI_clamp (by omega)]) ?_
  refine lv_aload_n hx hb d_L_law_379 rfl (lv_at hl 0 rfl) ?_
  refine lv_iload_n hx hb d_L_law_380 rfl (lv_at hl 3 rfl) ?_
  refine lv_iconst (v := nI (2)) hx hb d_L_law_381 (by decide) ?_
  refine rw_add hx hb d_L_law_382 ?_
  refine va_sld hx hb hX hbl (Nat.not_le.mpr hbl) hS (vp_in_nI (by omega) (by omega)) d_L_law_383 ?_
  refine rw_topI (b := xs (2 + 5 * k + 2)) (by rw [nI_clamp (by omega)]) ?_
  refine l_ci (As := [.int (xs (2 + 5 * k + 1)), .int (xs (2 + 5 * k + 2))]) (rest := [.int (r_370)]) ⟨hx, hb, hml, hown, hts⟩ (c_M_next l D cI cZ g d hd0 w h Q L cn th kf Z pf (xs (2 + 5 * k + 1)) (xs (2 + 5 * k + 2)) hG) (cwV 2 hts (t_gV k_methodLink_rn_L_66_y_M_next k_instanceMethod_y_M_next k_selects_rn_M_y_M_next_y_M_next k_initialized_rn_M k_code_y_M_next_prog_6_method_19_code_6_some_int) rfl rfl rfl (by decide +kernel) ⟨Nat.le_of_ble_eq_true rfl, Nat.le_of_ble_eq_true rfl⟩) (va_recv hK hP2 (ci := 4) (q0 := 0) rfl rfl) hP2 hP1 (fun k9 q9 hk9 h9 => hapart _ ((x_D ha _ rfl).2 k9 q9 hk9) h9) hdm hK hZ hS rfl hl.1 rfl (Nat.le_of_ble_eq_true rfl) d_L_law_384 ⟨by show _ ≤ 601024; omega, by show _ ≤ 7293000; omega⟩ (fun r_384 u_384 H locs hw_384 hP2 hP1 hS => ?_)
  have hP1 : va_P D vwCl (xw cI a w h Q ff hd bl rs hs ts rc hc tc) H := hP1
  have hP2 : va_P D vwCl (mw cI cZ d w h (fun p => rt_b (decide (Q p ≠ 0))) (fun p => nI (rt_g Q p)) (fun p => nI (rt_s Q p)) (fun i => nI (L i)) cn (nI (0)) kf (fun p => rt_b (Z p)) pf) H := hP2
  refine lv_icmp_eq (tgt := 603) hx hb d_L_law_387 (by decide) (fun _ => ?_) (fun c9 => absurd (hw_370.trans hw_384.symm) c9)
  refine W.widen (k := 100 + 3 * (k + 1)) (n := 40000 + 18 * (k + 1)) (by omega) (by omega) ?_
  exact nx _ _ _ _ _ _ _ _ _ _ _ _ _ _ _ _ _ _ _ hG hk0 hL0 hP1 hP2 hS (lv_sub hl [0, 1, 2, 3] rfl)

set_option maxHeartbeats 4000000 in
set_option maxRecDepth 100000 in
theorem l_before {p : Program} {e : Env} {s : State} {m : MethodId} {below : List Frame} {meth : Method} {c : Code} (l : Launch) (hfl : l.flags = flags0) {D : va_G} {cI cZ : ClassId} {g a d : Nat → Nat} {bq LN : Nat} {xs : Nat → Int32} (w h : Nat) (hx : p.tables.exec = Jvm.exec) (hb : c.code = b_L_law) (hml : c.maxLocals = 5) (hown : s.vm.findClass rn_L = some m.cls) (hts : ∀ w ∈ tG, w.before #[Value.ref bq] s = true) (hK : va_K D vwCl (xT cI cZ) s) (hZ : xZ g (fun q : Nat => s.heap.size ≤ q) s s.heap) (hE : xe_K (fun q : Nat => s.heap.size ≤ q) s s.heap) (ha : xI a) (hd0 : mI d) (hax : ∀ q, xA a q → (fun q : Nat => s.heap.size ≤ q) q) (hdm : ∀ q, mA d q → (fun q : Nat => s.heap.size ≤ q) q) (hapart : ∀ q, xA a q → mA d q → False) (hX : va_X bq LN xs s s.heap) (hbl : bq < s.heap.size) (hLN : LN ≤ 2562) (k : Nat) (hk5 : 2 + 5 * k + 5 ≤ LN) (nx : ∀ (Q : Nat → Nat) (ff : Nat → Int32) (hd bl : Int32) (rs : Nat → Int32) (hs ts : Int32) (rc : Nat → Int32) (hc tc : Int32) (L : Nat → Nat) (cn : Nat) (th : Int32) (kf : Nat → Int32) (Z : Nat → Bool) (pf : Nat → Int32) (H : Heap) (locs : List Loc) (ls : Array Slot), rt_G w h Q → rt_hk Q w h hd ff bl → rt_isL Q L cn → va_P D vwCl (xw cI a w h Q ff hd bl rs hs ts rc hc tc) H → va_P D vwCl (mw cI cZ d w h (fun p => rt_b (decide (Q p ≠ 0))) (fun p => nI (rt_g Q p)) (fun p => nI (rt_s Q p)) (fun i => nI (L i)) cn th kf (fun p => rt_b (Z p)) pf) H → va_S (fun q : Nat => s.heap.size ≤ q) s.heap H locs → lv_has ls 5 [(0, .ref bq), (1, .ref (a 0)), (2, .ref (d 0)), (3, .int (nI (2 + 5 * k)))] → W p l e room_1 s m #[Value.ref bq] below meth c H locs (100 + 3 * (k + 1)) (40000 + 18 * (k + 1)) (lw_Z below #[Value.ref bq] s) (F0 m 603 ls [])) (Q : Nat → Nat) (ff : Nat → Int32) (hd bl : Int32) (rs : Nat → Int32) (hs ts : Int32) (rc : Nat → Int32) (hc tc : Int32) (L : Nat → Nat) (cn : Nat) (th : Int32) (kf : Nat → Int32) (Z : Nat → Bool) (pf : Nat → Int32) (H : Heap) (locs : List Loc) (ls : Array Slot) (hG : rt_G w h Q) (hk0 : rt_hk Q w h hd ff bl) (hL0 : rt_isL Q L cn) (hP1 : va_P D vwCl (xw cI a w h Q ff hd bl rs hs ts rc hc tc) H) (hP2 : va_P D vwCl (mw cI cZ d w h (fun p => rt_b (decide (Q p ≠ 0))) (fun p => nI (rt_g Q p)) (fun p => nI (rt_s Q p)) (fun i => nI (L i)) cn th kf (fun p => rt_b (Z p)) pf) H) (hS : va_S (fun q : Nat => s.heap.size ≤ q) s.heap H locs) (hl : lv_has ls 5 [(0, .ref bq), (1, .ref (a 0)), (2, .ref (d 0)), (3, .int (nI (2 + 5 * k)))]) : W p l e room_1 s m #[Value.ref bq] below meth c H locs (100 + 3 * k) (40000 + 18 * k) (lw_Z below #[Value.ref bq] s) (F0 m 392 ls []) := by
  refine lv_aload_n hx hb d_L_law_392 rfl (lv_at hl 1 rfl) ?_
  refine lv_aload_n hx hb d_L_law_393 rfl (lv_at hl 0 rfl) ?_
  refine lv_iload_n hx hb d_L_law_394 rfl (lv_at hl 3 rfl) ?_
  refine lv_iconst (v := nI (1)) hx hb d_L_law_395 (by decide) ?_
  refine rw_add hx hb d_L_law_396 ?_
  refine va_sld hx hb hX hbl (Nat.not_le.mpr hbl) hS (vp_in_nI (by omega) (by omega)) d_L_law_397 ?_
  refine rw_topI (b := xs (2 + 5 * k + 1)) (by rw [nI_clamp (by omega)]) ?_
  refine l_ci (As := [.int (xs (2 + 5 * k + 1))]) (rest := []) ⟨hx, hb, hml, hown, hts⟩ (c_R_before l D cI cZ g a ha w h Q ff hd bl rs hs ts rc hc tc (xs (2 + 5 * k + 1)) hG) (cwV 1 hts (t_gV k_methodLink_rn_L_67_y_R_before k_instanceMethod_y_R_before k_selects_rn_R_y_R_before_y_R_before k_initialized_rn_R k_code_y_R_before_prog_1_method_8_code_4_some_int) rfl rfl rfl (by decide +kernel) ⟨Nat.le_of_ble_eq_true rfl, Nat.le_of_ble_eq_true rfl⟩) (va_recv hK hP1 (ci := 3) (q0 := 0) rfl rfl) hP1 hP2 (fun k9 q9 hk9 h9 => hapart _ h9 ((m_D hd0 _ rfl).2 k9 q9 hk9)) hax hK hZ hS rfl hl.1 rfl (Nat.le_of_ble_eq_true rfl) d_L_law_398 ⟨by show _ ≤ 601024; omega, by show _ ≤ 7293000; omega⟩ (fun r_398 u_398 H locs hw_398 hP1 hP2 hS => ?_)
  have hP1 : va_P D vwCl (xw cI a w h Q ff hd bl rs hs ts rc hc tc) H := hP1
  have hP2 : va_P D vwCl (mw cI cZ d w h (fun p => rt_b (decide (Q p ≠ 0))) (fun p => nI (rt_g Q p)) (fun p => nI (rt_s Q p)) (fun i => nI (L i)) cn th kf (fun p => rt_b (Z p)) pf) H := hP2
  refine lv_aload_n hx hb d_L_law_401 rfl (lv_at hl 2 rfl) ?_
  refine lv_aload_n hx hb d_L_law_402 rfl (lv_at hl 0 rfl) ?_
  refine lv_iload_n hx hb d_L_law_403 rfl (lv_at hl 3 rfl) ?_
  refine lv_iconst (v := nI (1)) hx hb d_L_law_404 (by decide) ?_
  refine rw_add hx hb d_L_law_405 ?_
  refine va_sld hx hb hX hbl (Nat.not_le.mpr hbl) hS (vp_in_nI (by omega) (by omega)) d_L_law_406 ?_
  refine rw_topI (b := xs (2 + 5 * k + 1)) (by rw [nI_clamp (by omega)]) ?_
  refine l_ci (As := [.int (xs (2 + 5 * k + 1))]) (rest := [.int (r_398)]) ⟨hx, hb, hml, hown, hts⟩ (c_M_before l D cI cZ g d hd0 w h Q L cn th kf Z pf (xs (2 + 5 * k + 1)) hG hL0) (cwV 1 hts (t_gV k_methodLink_rn_L_71_y_M_before k_instanceMethod_y_M_before k_selects_rn_M_y_M_before_y_M_before k_initialized_rn_M k_code_y_M_before_prog_6_method_20_code_6_some_int) rfl rfl rfl (by decide +kernel) ⟨Nat.le_of_ble_eq_true rfl, Nat.le_of_ble_eq_true rfl⟩) (va_recv hK hP2 (ci := 4) (q0 := 0) rfl rfl) hP2 hP1 (fun k9 q9 hk9 h9 => hapart _ ((x_D ha _ rfl).2 k9 q9 hk9) h9) hdm hK hZ hS rfl hl.1 rfl (Nat.le_of_ble_eq_true rfl) d_L_law_407 ⟨by show _ ≤ 601024; omega, by show _ ≤ 7293000; omega⟩ (fun r_407 u_407 H locs hw_407 hP2 hP1 hS => ?_)
  have hP1 : va_P D vwCl (xw cI a w h Q ff hd bl rs hs ts rc hc tc) H := hP1
  have hP2 : va_P D vwCl (mw cI cZ d w h (fun p => rt_b (decide (Q p ≠ 0))) (fun p => nI (rt_g Q p)) (fun p => nI (rt_s Q p)) (fun i => nI (L i)) cn (nI (0)) kf (fun p => rt_b (Z p)) pf) H := hP2
  refine lv_icmp_eq (tgt := 603) hx hb d_L_law_410 (by decide) (fun _ => ?_) (fun c9 => absurd (hw_398.trans hw_407.symm) c9)
  refine W.widen (k := 100 + 3 * (k + 1)) (n := 40000 + 18 * (k + 1)) (by omega) (by omega) ?_
  exact nx _ _ _ _ _ _ _ _ _ _ _ _ _ _ _ _ _ _ _ hG hk0 hL0 hP1 hP2 hS (lv_sub hl [0, 1, 2, 3] rfl)

set_option maxHeartbeats 4000000 in
set_option maxRecDepth 100000 in
theorem l_sign {p : Program} {e : Env} {s : State} {m : MethodId} {below : List Frame} {meth : Method} {c : Code} (l : Launch) (hfl : l.flags = flags0) {D : va_G} {cI cZ : ClassId} {g a d : Nat → Nat} {bq LN : Nat} {xs : Nat → Int32} (w h : Nat) (hx : p.tables.exec = Jvm.exec) (hb : c.code = b_L_law) (hml : c.maxLocals = 5) (hown : s.vm.findClass rn_L = some m.cls) (hts : ∀ w ∈ tG, w.before #[Value.ref bq] s = true) (hK : va_K D vwCl (xT cI cZ) s) (hZ : xZ g (fun q : Nat => s.heap.size ≤ q) s s.heap) (hE : xe_K (fun q : Nat => s.heap.size ≤ q) s s.heap) (ha : xI a) (hd0 : mI d) (hax : ∀ q, xA a q → (fun q : Nat => s.heap.size ≤ q) q) (hdm : ∀ q, mA d q → (fun q : Nat => s.heap.size ≤ q) q) (hapart : ∀ q, xA a q → mA d q → False) (hX : va_X bq LN xs s s.heap) (hbl : bq < s.heap.size) (hLN : LN ≤ 2562) (k : Nat) (hk5 : 2 + 5 * k + 5 ≤ LN) (nx : ∀ (Q : Nat → Nat) (ff : Nat → Int32) (hd bl : Int32) (rs : Nat → Int32) (hs ts : Int32) (rc : Nat → Int32) (hc tc : Int32) (L : Nat → Nat) (cn : Nat) (th : Int32) (kf : Nat → Int32) (Z : Nat → Bool) (pf : Nat → Int32) (H : Heap) (locs : List Loc) (ls : Array Slot), rt_G w h Q → rt_hk Q w h hd ff bl → rt_isL Q L cn → va_P D vwCl (xw cI a w h Q ff hd bl rs hs ts rc hc tc) H → va_P D vwCl (mw cI cZ d w h (fun p => rt_b (decide (Q p ≠ 0))) (fun p => nI (rt_g Q p)) (fun p => nI (rt_s Q p)) (fun i => nI (L i)) cn th kf (fun p => rt_b (Z p)) pf) H → va_S (fun q : Nat => s.heap.size ≤ q) s.heap H locs → lv_has ls 5 [(0, .ref bq), (1, .ref (a 0)), (2, .ref (d 0)), (3, .int (nI (2 + 5 * k)))] → W p l e room_1 s m #[Value.ref bq] below meth c H locs (100 + 3 * (k + 1)) (40000 + 18 * (k + 1)) (lw_Z below #[Value.ref bq] s) (F0 m 603 ls [])) (Q : Nat → Nat) (ff : Nat → Int32) (hd bl : Int32) (rs : Nat → Int32) (hs ts : Int32) (rc : Nat → Int32) (hc tc : Int32) (L : Nat → Nat) (cn : Nat) (th : Int32) (kf : Nat → Int32) (Z : Nat → Bool) (pf : Nat → Int32) (H : Heap) (locs : List Loc) (ls : Array Slot) (hG : rt_G w h Q) (hk0 : rt_hk Q w h hd ff bl) (hL0 : rt_isL Q L cn) (hP1 : va_P D vwCl (xw cI a w h Q ff hd bl rs hs ts rc hc tc) H) (hP2 : va_P D vwCl (mw cI cZ d w h (fun p => rt_b (decide (Q p ≠ 0))) (fun p => nI (rt_g Q p)) (fun p => nI (rt_s Q p)) (fun i => nI (L i)) cn th kf (fun p => rt_b (Z p)) pf) H) (hS : va_S (fun q : Nat => s.heap.size ≤ q) s.heap H locs) (hl : lv_has ls 5 [(0, .ref bq), (1, .ref (a 0)), (2, .ref (d 0)), (3, .int (nI (2 + 5 * k)))]) : W p l e room_1 s m #[Value.ref bq] below meth c H locs (100 + 3 * k) (40000 + 18 * k) (lw_Z below #[Value.ref bq] s) (F0 m 448 ls []) := by
  refine lv_aload_n hx hb d_L_law_448 rfl (lv_at hl 1 rfl) ?_
  refine lv_aload_n hx hb d_L_law_449 rfl (lv_at hl 0 rfl) ?_
  refine lv_iload_n hx hb d_L_law_450 rfl (lv_at hl 3 rfl) ?_
  refine lv_iconst (v := nI (1)) hx hb d_L_law_451 (by decide) ?_
  refine rw_add hx hb d_L_law_452 ?_
  refine va_sld hx hb hX hbl (Nat.not_le.mpr hbl) hS (vp_in_nI (by omega) (by omega)) d_L_law_453 ?_
  refine rw_topI (b := xs (2 + 5 * k + 1)) (by rw [nI_clamp (by omega)]) ?_
  refine l_ci (As := [.int (xs (2 + 5 * k + 1))]) (rest := []) ⟨hx, hb, hml, hown, hts⟩ (c_R_sign l D cI cZ g a ha w h Q ff hd bl rs hs ts rc hc tc (xs (2 + 5 * k + 1)) hG) (cwV 1 hts (t_gV k_methodLink_rn_L_76_y_R_sign k_instanceMethod_y_R_sign k_selects_rn_R_y_R_sign_y_R_sign k_initialized_rn_R k_code_y_R_sign_prog_1_method_10_code_3_some_int) rfl rfl rfl (by decide +kernel) ⟨Nat.le_of_ble_eq_true rfl, Nat.le_of_ble_eq_true rfl⟩) (va_recv hK hP1 (ci := 3) (q0 := 0) rfl rfl) hP1 hP2 (fun k9 q9 hk9 h9 => hapart _ h9 ((m_D hd0 _ rfl).2 k9 q9 hk9)) hax hK hZ hS rfl hl.1 rfl (Nat.le_of_ble_eq_true rfl) d_L_law_454 ⟨by show _ ≤ 601024; omega, by show _ ≤ 7293000; omega⟩ (fun r_454 u_454 H locs hw_454 hP1 hP2 hS => ?_)
  have hP1 : va_P D vwCl (xw cI a w h Q ff hd bl rs hs ts rc hc tc) H := hP1
  have hP2 : va_P D vwCl (mw cI cZ d w h (fun p => rt_b (decide (Q p ≠ 0))) (fun p => nI (rt_g Q p)) (fun p => nI (rt_s Q p)) (fun i => nI (L i)) cn th kf (fun p => rt_b (Z p)) pf) H := hP2
  refine lv_aload_n hx hb d_L_law_457 rfl (lv_at hl 2 rfl) ?_
  refine lv_aload_n hx hb d_L_law_458 rfl (lv_at hl 0 rfl) ?_
  refine lv_iload_n hx hb d_L_law_459 rfl (lv_at hl 3 rfl) ?_
  refine lv_iconst (v := nI (1)) hx hb d_L_law_460 (by decide) ?_
  refine rw_add hx hb d_L_law_461 ?_
  refine va_sld hx hb hX hbl (Nat.not_le.mpr hbl) hS (vp_in_nI (by omega) (by omega)) d_L_law_462 ?_
  refine rw_topI (b := xs (2 + 5 * k + 1)) (by rw [nI_clamp (by omega)]) ?_
  refine l_ci (As := [.int (xs (2 + 5 * k + 1))]) (rest := [.int (r_454)]) ⟨hx, hb, hml, hown, hts⟩ (c_M_sign l D cI cZ g d hd0 w h Q L cn th kf Z pf (xs (2 + 5 * k + 1)) hG hL0) (cwV 1 hts (t_gV k_methodLink_rn_L_79_y_M_sign k_instanceMethod_y_M_sign k_selects_rn_M_y_M_sign_y_M_sign k_initialized_rn_M k_code_y_M_sign_prog_6_method_28_code_4_some_int) rfl rfl rfl (by decide +kernel) ⟨Nat.le_of_ble_eq_true rfl, Nat.le_of_ble_eq_true rfl⟩) (va_recv hK hP2 (ci := 4) (q0 := 0) rfl rfl) hP2 hP1 (fun k9 q9 hk9 h9 => hapart _ ((x_D ha _ rfl).2 k9 q9 hk9) h9) hdm hK hZ hS rfl hl.1 rfl (Nat.le_of_ble_eq_true rfl) d_L_law_463 ⟨by show _ ≤ 601024; omega, by show _ ≤ 7293000; omega⟩ (fun r_463 u_463 H locs hw_463 hP2 hP1 hS => ?_)
  have hP1 : va_P D vwCl (xw cI a w h Q ff hd bl rs hs ts rc hc tc) H := hP1
  have hP2 : va_P D vwCl (mw cI cZ d w h (fun p => rt_b (decide (Q p ≠ 0))) (fun p => nI (rt_g Q p)) (fun p => nI (rt_s Q p)) (fun i => nI (L i)) cn (nI (0)) kf (fun p => rt_b (Z p)) pf) H := hP2
  refine lv_icmp_eq (tgt := 603) hx hb d_L_law_466 (by decide) (fun _ => ?_) (fun c9 => absurd (hw_454.trans hw_463.symm) c9)
  refine W.widen (k := 100 + 3 * (k + 1)) (n := 40000 + 18 * (k + 1)) (by omega) (by omega) ?_
  exact nx _ _ _ _ _ _ _ _ _ _ _ _ _ _ _ _ _ _ _ hG hk0 hL0 hP1 hP2 hS (lv_sub hl [0, 1, 2, 3] rfl)

set_option maxHeartbeats 4000000 in
set_option maxRecDepth 100000 in
theorem l_isTarget {p : Program} {e : Env} {s : State} {m : MethodId} {below : List Frame} {meth : Method} {c : Code} (l : Launch) (hfl : l.flags = flags0) {D : va_G} {cI cZ : ClassId} {g a d : Nat → Nat} {bq LN : Nat} {xs : Nat → Int32} (w h : Nat) (hx : p.tables.exec = Jvm.exec) (hb : c.code = b_L_law) (hml : c.maxLocals = 5) (hown : s.vm.findClass rn_L = some m.cls) (hts : ∀ w ∈ tG, w.before #[Value.ref bq] s = true) (hK : va_K D vwCl (xT cI cZ) s) (hZ : xZ g (fun q : Nat => s.heap.size ≤ q) s s.heap) (hE : xe_K (fun q : Nat => s.heap.size ≤ q) s s.heap) (ha : xI a) (hd0 : mI d) (hax : ∀ q, xA a q → (fun q : Nat => s.heap.size ≤ q) q) (hdm : ∀ q, mA d q → (fun q : Nat => s.heap.size ≤ q) q) (hapart : ∀ q, xA a q → mA d q → False) (hX : va_X bq LN xs s s.heap) (hbl : bq < s.heap.size) (hLN : LN ≤ 2562) (k : Nat) (hk5 : 2 + 5 * k + 5 ≤ LN) (nx : ∀ (Q : Nat → Nat) (ff : Nat → Int32) (hd bl : Int32) (rs : Nat → Int32) (hs ts : Int32) (rc : Nat → Int32) (hc tc : Int32) (L : Nat → Nat) (cn : Nat) (th : Int32) (kf : Nat → Int32) (Z : Nat → Bool) (pf : Nat → Int32) (H : Heap) (locs : List Loc) (ls : Array Slot), rt_G w h Q → rt_hk Q w h hd ff bl → rt_isL Q L cn → va_P D vwCl (xw cI a w h Q ff hd bl rs hs ts rc hc tc) H → va_P D vwCl (mw cI cZ d w h (fun p => rt_b (decide (Q p ≠ 0))) (fun p => nI (rt_g Q p)) (fun p => nI (rt_s Q p)) (fun i => nI (L i)) cn th kf (fun p => rt_b (Z p)) pf) H → va_S (fun q : Nat => s.heap.size ≤ q) s.heap H locs → lv_has ls 5 [(0, .ref bq), (1, .ref (a 0)), (2, .ref (d 0)), (3, .int (nI (2 + 5 * k)))] → W p l e room_1 s m #[Value.ref bq] below meth c H locs (100 + 3 * (k + 1)) (40000 + 18 * (k + 1)) (lw_Z below #[Value.ref bq] s) (F0 m 603 ls [])) (Q : Nat → Nat) (ff : Nat → Int32) (hd bl : Int32) (rs : Nat → Int32) (hs ts : Int32) (rc : Nat → Int32) (hc tc : Int32) (L : Nat → Nat) (cn : Nat) (th : Int32) (kf : Nat → Int32) (Z : Nat → Bool) (pf : Nat → Int32) (H : Heap) (locs : List Loc) (ls : Array Slot) (hG : rt_G w h Q) (hk0 : rt_hk Q w h hd ff bl) (hL0 : rt_isL Q L cn) (hP1 : va_P D vwCl (xw cI a w h Q ff hd bl rs hs ts rc hc tc) H) (hP2 : va_P D vwCl (mw cI cZ d w h (fun p => rt_b (decide (Q p ≠ 0))) (fun p => nI (rt_g Q p)) (fun p => nI (rt_s Q p)) (fun i => nI (L i)) cn th kf (fun p => rt_b (Z p)) pf) H) (hS : va_S (fun q : Nat => s.heap.size ≤ q) s.heap H locs) (hl : lv_has ls 5 [(0, .ref bq), (1, .ref (a 0)), (2, .ref (d 0)), (3, .int (nI (2 + 5 * k)))]) : W p l e room_1 s m #[Value.ref bq] below meth c H locs (100 + 3 * k) (40000 + 18 * k) (lw_Z below #[Value.ref bq] s) (F0 m 471 ls []) := by
  refine lv_aload_n hx hb d_L_law_471 rfl (lv_at hl 1 rfl) ?_
  refine lv_aload_n hx hb d_L_law_472 rfl (lv_at hl 0 rfl) ?_
  refine lv_iload_n hx hb d_L_law_473 rfl (lv_at hl 3 rfl) ?_
  refine lv_iconst (v := nI (1)) hx hb d_L_law_474 (by decide) ?_
  refine rw_add hx hb d_L_law_475 ?_
  refine va_sld hx hb hX hbl (Nat.not_le.mpr hbl) hS (vp_in_nI (by omega) (by omega)) d_L_law_476 ?_
  refine rw_topI (b := xs (2 + 5 * k + 1)) (by rw [nI_clamp (by omega)]) ?_
  refine lv_aload_n hx hb d_L_law_477 rfl (lv_at hl 0 rfl) ?_
  refine lv_iload_n hx hb d_L_law_478 rfl (lv_at hl 3 rfl) ?_
  refine lv_iconst (v := nI (2)) hx hb d_L_law_479 (by decide) ?_
  refine rw_add hx hb d_L_law_480 ?_
  refine va_sld hx hb hX hbl (Nat.not_le.mpr hbl) hS (vp_in_nI (by omega) (by omega)) d_L_law_481 ?_
  refine rw_topI (b := xs (2 + 5 * k + 2)) (by rw [nI_clamp (by omega)]) ?_
  refine l_ci (As := [.int (xs (2 + 5 * k + 1)), .int (xs (2 + 5 * k + 2))]) (rest := []) ⟨hx, hb, hml, hown, hts⟩ (c_R_isTarget l D cI cZ g a ha w h Q ff hd bl rs hs ts rc hc tc (xs (2 + 5 * k + 1)) (xs (2 + 5 * k + 2)) hG) (cwV 2 hts (t_gV k_methodLink_rn_L_80_y_R_isTarget k_instanceMethod_y_R_isTarget k_selects_rn_R_y_R_isTarget_y_R_isTarget k_initialized_rn_R k_code_y_R_isTarget_prog_1_method_11_code_3_some_boolean) rfl rfl rfl (by decide +kernel) ⟨Nat.le_of_ble_eq_true rfl, Nat.le_of_ble_eq_true rfl⟩) (va_recv hK hP1 (ci := 3) (q0 := 0) rfl rfl) hP1 hP2 (fun k9 q9 hk9 h9 => hapart _ h9 ((m_D hd0 _ rfl).2 k9 q9 hk9)) hax hK hZ hS rfl hl.1 rfl (Nat.le_of_ble_eq_true rfl) d_L_law_482 ⟨by show _ ≤ 601024; omega, by show _ ≤ 7293000; omega⟩ (fun r_482 u_482 H locs hw_482 hP1 hP2 hS => ?_)
  have hP1 : va_P D vwCl (xw cI a w h Q ff hd bl rs hs ts rc hc tc) H := hP1
  have hP2 : va_P D vwCl (mw cI cZ d w h (fun p => rt_b (decide (Q p ≠ 0))) (fun p => nI (rt_g Q p)) (fun p => nI (rt_s Q p)) (fun i => nI (L i)) cn th kf (fun p => rt_b (Z p)) pf) H := hP2
  refine lv_aload_n hx hb d_L_law_485 rfl (lv_at hl 2 rfl) ?_
  refine lv_aload_n hx hb d_L_law_486 rfl (lv_at hl 0 rfl) ?_
  refine lv_iload_n hx hb d_L_law_487 rfl (lv_at hl 3 rfl) ?_
  refine lv_iconst (v := nI (1)) hx hb d_L_law_488 (by decide) ?_
  refine rw_add hx hb d_L_law_489 ?_
  refine va_sld hx hb hX hbl (Nat.not_le.mpr hbl) hS (vp_in_nI (by omega) (by omega)) d_L_law_490 ?_
  refine rw_topI (b := xs (2 + 5 * k + 1)) (by rw [nI_clamp (by omega)]) ?_
  refine lv_aload_n hx hb d_L_law_491 rfl (lv_at hl 0 rfl) ?_
  refine lv_iload_n hx hb d_L_law_492 rfl (lv_at hl 3 rfl) ?_
  refine lv_iconst (v := nI (2)) hx hb d_L_law_493 (by decide) ?_
  refine rw_add hx hb d_L_law_494 ?_
  refine va_sld hx hb hX hbl (Nat.not_le.mpr hbl) hS (vp_in_nI (by omega) (by omega)) d_L_law_495 ?_
  refine rw_topI (b := xs (2 + 5 * k + 2)) (by rw [nI_clamp (by omega)]) ?_
  refine l_ci (As := [.int (xs (2 + 5 * k + 1)), .int (xs (2 + 5 * k + 2))]) (rest := [.int (r_482)]) ⟨hx, hb, hml, hown, hts⟩ (c_M_isTarget l D cI cZ g d hd0 w h Q L cn th kf Z pf (xs (2 + 5 * k + 1)) (xs (2 + 5 * k + 2)) hG) (cwV 2 hts (t_gV k_methodLink_rn_L_84_y_M_isTarget k_instanceMethod_y_M_isTarget k_selects_rn_M_y_M_isTarget_y_M_isTarget k_initialized_rn_M k_code_y_M_isTarget_prog_6_method_30_code_3_some_boolean) rfl rfl rfl (by decide +kernel) ⟨Nat.le_of_ble_eq_true rfl, Nat.le_of_ble_eq_true rfl⟩) (va_recv hK hP2 (ci := 4) (q0 := 0) rfl rfl) hP2 hP1 (fun k9 q9 hk9 h9 => hapart _ ((x_D ha _ rfl).2 k9 q9 hk9) h9) hdm hK hZ hS rfl hl.1 rfl (Nat.le_of_ble_eq_true rfl) d_L_law_496 ⟨by show _ ≤ 601024; omega, by show _ ≤ 7293000; omega⟩ (fun r_496 u_496 H locs hw_496 hP2 hP1 hS => ?_)
  have hP1 : va_P D vwCl (xw cI a w h Q ff hd bl rs hs ts rc hc tc) H := hP1
  have hP2 : va_P D vwCl (mw cI cZ d w h (fun p => rt_b (decide (Q p ≠ 0))) (fun p => nI (rt_g Q p)) (fun p => nI (rt_s Q p)) (fun i => nI (L i)) cn (nI (0)) kf (fun p => rt_b (Z p)) pf) H := hP2
  refine lv_icmp_eq (tgt := 603) hx hb d_L_law_499 (by decide) (fun _ => ?_) (fun c9 => absurd (hw_482.trans hw_496.symm) c9)
  refine W.widen (k := 100 + 3 * (k + 1)) (n := 40000 + 18 * (k + 1)) (by omega) (by omega) ?_
  exact nx _ _ _ _ _ _ _ _ _ _ _ _ _ _ _ _ _ _ _ hG hk0 hL0 hP1 hP2 hS (lv_sub hl [0, 1, 2, 3] rfl)

set_option maxHeartbeats 4000000 in
set_option maxRecDepth 100000 in
theorem l_block {p : Program} {e : Env} {s : State} {m : MethodId} {below : List Frame} {meth : Method} {c : Code} (l : Launch) (hfl : l.flags = flags0) {D : va_G} {cI cZ : ClassId} {g a d : Nat → Nat} {bq LN : Nat} {xs : Nat → Int32} (w h : Nat) (hx : p.tables.exec = Jvm.exec) (hb : c.code = b_L_law) (hml : c.maxLocals = 5) (hown : s.vm.findClass rn_L = some m.cls) (hts : ∀ w ∈ tG, w.before #[Value.ref bq] s = true) (hK : va_K D vwCl (xT cI cZ) s) (hZ : xZ g (fun q : Nat => s.heap.size ≤ q) s s.heap) (hE : xe_K (fun q : Nat => s.heap.size ≤ q) s s.heap) (ha : xI a) (hd0 : mI d) (hax : ∀ q, xA a q → (fun q : Nat => s.heap.size ≤ q) q) (hdm : ∀ q, mA d q → (fun q : Nat => s.heap.size ≤ q) q) (hapart : ∀ q, xA a q → mA d q → False) (hX : va_X bq LN xs s s.heap) (hbl : bq < s.heap.size) (hLN : LN ≤ 2562) (k : Nat) (hk5 : 2 + 5 * k + 5 ≤ LN) (nx : ∀ (Q : Nat → Nat) (ff : Nat → Int32) (hd bl : Int32) (rs : Nat → Int32) (hs ts : Int32) (rc : Nat → Int32) (hc tc : Int32) (L : Nat → Nat) (cn : Nat) (th : Int32) (kf : Nat → Int32) (Z : Nat → Bool) (pf : Nat → Int32) (H : Heap) (locs : List Loc) (ls : Array Slot), rt_G w h Q → rt_hk Q w h hd ff bl → rt_isL Q L cn → va_P D vwCl (xw cI a w h Q ff hd bl rs hs ts rc hc tc) H → va_P D vwCl (mw cI cZ d w h (fun p => rt_b (decide (Q p ≠ 0))) (fun p => nI (rt_g Q p)) (fun p => nI (rt_s Q p)) (fun i => nI (L i)) cn th kf (fun p => rt_b (Z p)) pf) H → va_S (fun q : Nat => s.heap.size ≤ q) s.heap H locs → lv_has ls 5 [(0, .ref bq), (1, .ref (a 0)), (2, .ref (d 0)), (3, .int (nI (2 + 5 * k)))] → W p l e room_1 s m #[Value.ref bq] below meth c H locs (100 + 3 * (k + 1)) (40000 + 18 * (k + 1)) (lw_Z below #[Value.ref bq] s) (F0 m 603 ls [])) (Q : Nat → Nat) (ff : Nat → Int32) (hd bl : Int32) (rs : Nat → Int32) (hs ts : Int32) (rc : Nat → Int32) (hc tc : Int32) (L : Nat → Nat) (cn : Nat) (th : Int32) (kf : Nat → Int32) (Z : Nat → Bool) (pf : Nat → Int32) (H : Heap) (locs : List Loc) (ls : Array Slot) (hG : rt_G w h Q) (hk0 : rt_hk Q w h hd ff bl) (hL0 : rt_isL Q L cn) (hP1 : va_P D vwCl (xw cI a w h Q ff hd bl rs hs ts rc hc tc) H) (hP2 : va_P D vwCl (mw cI cZ d w h (fun p => rt_b (decide (Q p ≠ 0))) (fun p => nI (rt_g Q p)) (fun p => nI (rt_s Q p)) (fun i => nI (L i)) cn th kf (fun p => rt_b (Z p)) pf) H) (hS : va_S (fun q : Nat => s.heap.size ≤ q) s.heap H locs) (hl : lv_has ls 5 [(0, .ref bq), (1, .ref (a 0)), (2, .ref (d 0)), (3, .int (nI (2 + 5 * k)))]) : W p l e room_1 s m #[Value.ref bq] below meth c H locs (100 + 3 * k) (40000 + 18 * k) (lw_Z below #[Value.ref bq] s) (F0 m 415 ls []) := by
  refine lv_aload_n hx hb d_L_law_415 rfl (lv_at hl 1 rfl) ?_
  refine lv_aload_n hx hb d_L_law_416 rfl (lv_at hl 0 rfl) ?_
  refine lv_iload_n hx hb d_L_law_417 rfl (lv_at hl 3 rfl) ?_
  refine lv_iconst (v := nI (1)) hx hb d_L_law_418 (by decide) ?_
  refine rw_add hx hb d_L_law_419 ?_
  refine va_sld hx hb hX hbl (Nat.not_le.mpr hbl) hS (vp_in_nI (by omega) (by omega)) d_L_law_420 ?_
  refine rw_topI (b := xs (2 + 5 * k + 1)) (by rw [nI_clamp (by omega)]) ?_
  refine lv_aload_n hx hb d_L_law_421 rfl (lv_at hl 0 rfl) ?_
  refine lv_iload_n hx hb d_L_law_422 rfl (lv_at hl 3 rfl) ?_
  refine lv_iconst (v := nI (2)) hx hb d_L_law_423 (by decide) ?_
  refine rw_add hx hb d_L_law_424 ?_
  refine va_sld hx hb hX hbl (Nat.not_le.mpr hbl) hS (vp_in_nI (by omega) (by omega)) d_L_law_425 ?_
  refine rw_topI (b := xs (2 + 5 * k + 2)) (by rw [nI_clamp (by omega)]) ?_
  refine l_ci (As := [.int (xs (2 + 5 * k + 1)), .int (xs (2 + 5 * k + 2))]) (rest := []) ⟨hx, hb, hml, hown, hts⟩ (c_R_block l D cI cZ g a ha w h Q ff hd bl rs hs ts rc hc tc (xs (2 + 5 * k + 1)) (xs (2 + 5 * k + 2)) hG hk0) (cwV 2 hts (t_gV k_methodLink_rn_L_72_y_R_block k_instanceMethod_y_R_block k_selects_rn_R_y_R_block_y_R_block k_initialized_rn_R k_code_y_R_block_prog_1_method_9_code_3_some_int) rfl rfl rfl (by decide +kernel) ⟨Nat.le_of_ble_eq_true rfl, Nat.le_of_ble_eq_true rfl⟩) (va_recv hK hP1 (ci := 3) (q0 := 0) rfl rfl) hP1 hP2 (fun k9 q9 hk9 h9 => hapart _ h9 ((m_D hd0 _ rfl).2 k9 q9 hk9)) hax hK hZ hS rfl hl.1 rfl (Nat.le_of_ble_eq_true rfl) d_L_law_426 ⟨by show _ ≤ 601024; omega, by show _ ≤ 7293000; omega⟩ (fun r_426 u_426 H locs hw_426 hP1 hP2 hS => ?_)
  obtain ⟨ff1, hd1, bl1, rs1, hs1, ts1, rc1, hc1, tc1⟩ := u_426
  have hP1 : va_P D vwCl (xw cI a w h Q ff1 hd1 bl1 rs1 hs1 ts1 rc1 hc1 tc1) H := hP1
  have hP2 : va_P D vwCl (mw cI cZ d w h (fun p => rt_b (decide (Q p ≠ 0))) (fun p => nI (rt_g Q p)) (fun p => nI (rt_s Q p)) (fun i => nI (L i)) cn th kf (fun p => rt_b (Z p)) pf) H := hP2
  obtain ⟨hw8, hw9⟩ := hw_426
  dsimp only at hw8 hw9
  obtain ⟨B, hB1, hB2⟩ := l_blk hw8
  refine lv_aload_n hx hb d_L_law_429 rfl (lv_at hl 2 rfl) ?_
  refine lv_aload_n hx hb d_L_law_430 rfl (lv_at hl 0 rfl) ?_
  refine lv_iload_n hx hb d_L_law_431 rfl (lv_at hl 3 rfl) ?_
  refine lv_iconst (v := nI (1)) hx hb d_L_law_432 (by decide) ?_
  refine rw_add hx hb d_L_law_433 ?_
  refine va_sld hx hb hX hbl (Nat.not_le.mpr hbl) hS (vp_in_nI (by omega) (by omega)) d_L_law_434 ?_
  refine rw_topI (b := xs (2 + 5 * k + 1)) (by rw [nI_clamp (by omega)]) ?_
  refine lv_aload_n hx hb d_L_law_435 rfl (lv_at hl 0 rfl) ?_
  refine lv_iload_n hx hb d_L_law_436 rfl (lv_at hl 3 rfl) ?_
  refine lv_iconst (v := nI (2)) hx hb d_L_law_437 (by decide) ?_
  refine rw_add hx hb d_L_law_438 ?_
  refine va_sld hx hb hX hbl (Nat.not_le.mpr hbl) hS (vp_in_nI (by omega) (by omega)) d_L_law_439 ?_
  refine rw_topI (b := xs (2 + 5 * k + 2)) (by rw [nI_clamp (by omega)]) ?_
  refine l_ci (As := [.int (xs (2 + 5 * k + 1)), .int (xs (2 + 5 * k + 2))]) (rest := [.int (r_426)]) ⟨hx, hb, hml, hown, hts⟩ (c_M_block l D cI cZ g d hd0 w h Q L cn th kf Z pf (xs (2 + 5 * k + 1)) (xs (2 + 5 * k + 2)) B hG hL0 hB1) (cwV 2 hts (t_gV k_methodLink_rn_L_75_y_M_block k_instanceMethod_y_M_block k_selects_rn_M_y_M_block_y_M_block k_initialized_rn_M k_code_y_M_block_prog_6_method_26_code_3_some_int) rfl rfl rfl (by decide +kernel) ⟨Nat.le_of_ble_eq_true rfl, Nat.le_of_ble_eq_true rfl⟩) (va_recv hK hP2 (ci := 4) (q0 := 0) rfl rfl) hP2 hP1 (fun k9 q9 hk9 h9 => hapart _ ((x_D ha _ rfl).2 k9 q9 hk9) h9) hdm hK hZ hS rfl hl.1 rfl (Nat.le_of_ble_eq_true rfl) d_L_law_440 ⟨by show _ ≤ 601024; omega, by show _ ≤ 7293000; omega⟩ (fun r_440 u_440 H locs hw_440 hP2 hP1 hS => ?_)
  have hP1 : va_P D vwCl (xw cI a w h Q ff1 hd1 bl1 rs1 hs1 ts1 rc1 hc1 tc1) H := hP1
  have hP2 : va_P D vwCl (mw cI cZ d w h (fun p => rt_b (decide (Q p ≠ 0))) (fun p => nI (rt_g Q p)) (fun p => nI (rt_s Q p)) (fun i => nI (L i)) cn (nI (0)) kf (fun p => rt_b (u_440.1 p)) u_440.2) H := hP2
  refine lv_icmp_eq (tgt := 603) hx hb d_L_law_443 (by decide) (fun _ => ?_) (fun c9 => absurd (hB2.trans hw_440.symm) c9)
  refine W.widen (k := 100 + 3 * (k + 1)) (n := 40000 + 18 * (k + 1)) (by omega) (by omega) ?_
  exact nx _ _ _ _ _ _ _ _ _ _ _ _ _ _ _ _ _ _ _ hG hw9 hL0 hP1 hP2 hS (lv_sub hl [0, 1, 2, 3] rfl)

set_option maxHeartbeats 4000000 in
set_option maxRecDepth 100000 in
theorem l_cost {p : Program} {e : Env} {s : State} {m : MethodId} {below : List Frame} {meth : Method} {c : Code} (l : Launch) (hfl : l.flags = flags0) {D : va_G} {cI cZ : ClassId} {g a d : Nat → Nat} {bq LN : Nat} {xs : Nat → Int32} (w h : Nat) (hx : p.tables.exec = Jvm.exec) (hb : c.code = b_L_law) (hml : c.maxLocals = 5) (hown : s.vm.findClass rn_L = some m.cls) (hts : ∀ w ∈ tG, w.before #[Value.ref bq] s = true) (hK : va_K D vwCl (xT cI cZ) s) (hZ : xZ g (fun q : Nat => s.heap.size ≤ q) s s.heap) (hE : xe_K (fun q : Nat => s.heap.size ≤ q) s s.heap) (ha : xI a) (hd0 : mI d) (hax : ∀ q, xA a q → (fun q : Nat => s.heap.size ≤ q) q) (hdm : ∀ q, mA d q → (fun q : Nat => s.heap.size ≤ q) q) (hapart : ∀ q, xA a q → mA d q → False) (hX : va_X bq LN xs s s.heap) (hbl : bq < s.heap.size) (hLN : LN ≤ 2562) (k : Nat) (hk5 : 2 + 5 * k + 5 ≤ LN) (nx : ∀ (Q : Nat → Nat) (ff : Nat → Int32) (hd bl : Int32) (rs : Nat → Int32) (hs ts : Int32) (rc : Nat → Int32) (hc tc : Int32) (L : Nat → Nat) (cn : Nat) (th : Int32) (kf : Nat → Int32) (Z : Nat → Bool) (pf : Nat → Int32) (H : Heap) (locs : List Loc) (ls : Array Slot), rt_G w h Q → rt_hk Q w h hd ff bl → rt_isL Q L cn → va_P D vwCl (xw cI a w h Q ff hd bl rs hs ts rc hc tc) H → va_P D vwCl (mw cI cZ d w h (fun p => rt_b (decide (Q p ≠ 0))) (fun p => nI (rt_g Q p)) (fun p => nI (rt_s Q p)) (fun i => nI (L i)) cn th kf (fun p => rt_b (Z p)) pf) H → va_S (fun q : Nat => s.heap.size ≤ q) s.heap H locs → lv_has ls 5 [(0, .ref bq), (1, .ref (a 0)), (2, .ref (d 0)), (3, .int (nI (2 + 5 * k)))] → W p l e room_1 s m #[Value.ref bq] below meth c H locs (100 + 3 * (k + 1)) (40000 + 18 * (k + 1)) (lw_Z below #[Value.ref bq] s) (F0 m 603 ls [])) (Q : Nat → Nat) (ff : Nat → Int32) (hd bl : Int32) (rs : Nat → Int32) (hs ts : Int32) (rc : Nat → Int32) (hc tc : Int32) (L : Nat → Nat) (cn : Nat) (th : Int32) (kf : Nat → Int32) (Z : Nat → Bool) (pf : Nat → Int32) (H : Heap) (locs : List Loc) (ls : Array Slot) (hG : rt_G w h Q) (hk0 : rt_hk Q w h hd ff bl) (hL0 : rt_isL Q L cn) (hP1 : va_P D vwCl (xw cI a w h Q ff hd bl rs hs ts rc hc tc) H) (hP2 : va_P D vwCl (mw cI cZ d w h (fun p => rt_b (decide (Q p ≠ 0))) (fun p => nI (rt_g Q p)) (fun p => nI (rt_s Q p)) (fun i => nI (L i)) cn th kf (fun p => rt_b (Z p)) pf) H) (hS : va_S (fun q : Nat => s.heap.size ≤ q) s.heap H locs) (hl : lv_has ls 5 [(0, .ref bq), (1, .ref (a 0)), (2, .ref (d 0)), (3, .int (nI (2 + 5 * k)))]) : W p l e room_1 s m #[Value.ref bq] below meth c H locs (100 + 3 * k) (40000 + 18 * k) (lw_Z below #[Value.ref bq] s) (F0 m 504 ls []) := by
  refine lv_aload_n hx hb d_L_law_504 rfl (lv_at hl 1 rfl) ?_
  refine lv_aload_n hx hb d_L_law_505 rfl (lv_at hl 0 rfl) ?_
  refine lv_iload_n hx hb d_L_law_506 rfl (lv_at hl 3 rfl) ?_
  refine lv_iconst (v := nI (1)) hx hb d_L_law_507 (by decide) ?_
  refine rw_add hx hb d_L_law_508 ?_
  refine va_sld hx hb hX hbl (Nat.not_le.mpr hbl) hS (vp_in_nI (by omega) (by omega)) d_L_law_509 ?_
  refine rw_topI (b := xs (2 + 5 * k + 1)) (by rw [nI_clamp (by omega)]) ?_
  refine lv_aload_n hx hb d_L_law_510 rfl (lv_at hl 0 rfl) ?_
  refine lv_iload_n hx hb d_L_law_511 rfl (lv_at hl 3 rfl) ?_
  refine lv_iconst (v := nI (2)) hx hb d_L_law_512 (by decide) ?_
  refine rw_add hx hb d_L_law_513 ?_
  refine va_sld hx hb hX hbl (Nat.not_le.mpr hbl) hS (vp_in_nI (by omega) (by omega)) d_L_law_514 ?_
  refine rw_topI (b := xs (2 + 5 * k + 2)) (by rw [nI_clamp (by omega)]) ?_
  refine l_ci (As := [.int (xs (2 + 5 * k + 1)), .int (xs (2 + 5 * k + 2))]) (rest := []) ⟨hx, hb, hml, hown, hts⟩ (c_R_cost l D cI cZ g a ha w h Q ff hd bl rs hs ts rc hc tc (xs (2 + 5 * k + 1)) (xs (2 + 5 * k + 2)) hG hk0) (cwV 2 hts (t_gV k_methodLink_rn_L_85_y_R_cost k_instanceMethod_y_R_cost k_selects_rn_R_y_R_cost_y_R_cost k_initialized_rn_R k_code_y_R_cost_prog_1_method_12_code_3_some_int) rfl rfl rfl (by decide +kernel) ⟨Nat.le_of_ble_eq_true rfl, Nat.le_of_ble_eq_true rfl⟩) (va_recv hK hP1 (ci := 3) (q0 := 0) rfl rfl) hP1 hP2 (fun k9 q9 hk9 h9 => hapart _ h9 ((m_D hd0 _ rfl).2 k9 q9 hk9)) hax hK hZ hS rfl hl.1 rfl (Nat.le_of_ble_eq_true rfl) d_L_law_515 ⟨by show _ ≤ 601024; omega, by show _ ≤ 7293000; omega⟩ (fun r_515 u_515 H locs hw_515 hP1 hP2 hS => ?_)
  obtain ⟨ff1, hd1, bl1, rs1, hs1, ts1, rc1, hc1, tc1⟩ := u_515
  have hP1 : va_P D vwCl (xw cI a w h Q ff1 hd1 bl1 rs1 hs1 ts1 rc1 hc1 tc1) H := hP1
  have hP2 : va_P D vwCl (mw cI cZ d w h (fun p => rt_b (decide (Q p ≠ 0))) (fun p => nI (rt_g Q p)) (fun p => nI (rt_s Q p)) (fun i => nI (L i)) cn th kf (fun p => rt_b (Z p)) pf) H := hP2
  obtain ⟨hw8, hw9⟩ := hw_515
  dsimp only at hw8 hw9
  obtain ⟨K, hK1, hK2, hK3⟩ := l_same (F := fun K => rt_cost K _) hw8
  refine lv_aload_n hx hb d_L_law_518 rfl (lv_at hl 2 rfl) ?_
  refine lv_aload_n hx hb d_L_law_519 rfl (lv_at hl 0 rfl) ?_
  refine lv_iload_n hx hb d_L_law_520 rfl (lv_at hl 3 rfl) ?_
  refine lv_iconst (v := nI (1)) hx hb d_L_law_521 (by decide) ?_
  refine rw_add hx hb d_L_law_522 ?_
  refine va_sld hx hb hX hbl (Nat.not_le.mpr hbl) hS (vp_in_nI (by omega) (by omega)) d_L_law_523 ?_
  refine rw_topI (b := xs (2 + 5 * k + 1)) (by rw [nI_clamp (by omega)]) ?_
  refine lv_aload_n hx hb d_L_law_524 rfl (lv_at hl 0 rfl) ?_
  refine lv_iload_n hx hb d_L_law_525 rfl (lv_at hl 3 rfl) ?_
  refine lv_iconst (v := nI (2)) hx hb d_L_law_526 (by decide) ?_
  refine rw_add hx hb d_L_law_527 ?_
  refine va_sld hx hb hX hbl (Nat.not_le.mpr hbl) hS (vp_in_nI (by omega) (by omega)) d_L_law_528 ?_
  refine rw_topI (b := xs (2 + 5 * k + 2)) (by rw [nI_clamp (by omega)]) ?_
  refine l_ci (As := [.int (xs (2 + 5 * k + 1)), .int (xs (2 + 5 * k + 2))]) (rest := [.int (r_515)]) ⟨hx, hb, hml, hown, hts⟩ (c_M_cost l D cI cZ g d hd0 w h Q L cn th kf Z pf (xs (2 + 5 * k + 1)) (xs (2 + 5 * k + 2)) K hG hL0 hK1 hK2) (cwV 2 hts (t_gV k_methodLink_rn_L_88_y_M_cost k_instanceMethod_y_M_cost k_selects_rn_M_y_M_cost_y_M_cost k_initialized_rn_M k_code_y_M_cost_prog_6_method_34_code_3_some_int) rfl rfl rfl (by decide +kernel) ⟨Nat.le_of_ble_eq_true rfl, Nat.le_of_ble_eq_true rfl⟩) (va_recv hK hP2 (ci := 4) (q0 := 0) rfl rfl) hP2 hP1 (fun k9 q9 hk9 h9 => hapart _ ((x_D ha _ rfl).2 k9 q9 hk9) h9) hdm hK hZ hS rfl hl.1 rfl (Nat.le_of_ble_eq_true rfl) d_L_law_529 ⟨by show _ ≤ 601024; omega, by show _ ≤ 7293000; omega⟩ (fun r_529 u_529 H locs hw_529 hP2 hP1 hS => ?_)
  have hP1 : va_P D vwCl (xw cI a w h Q ff1 hd1 bl1 rs1 hs1 ts1 rc1 hc1 tc1) H := hP1
  have hP2 : va_P D vwCl (mw cI cZ d w h (fun p => rt_b (decide (Q p ≠ 0))) (fun p => nI (rt_g Q p)) (fun p => nI (rt_s Q p)) (fun i => nI (L i)) cn (nI (0)) u_529 (fun p => rt_b (Z p)) pf) H := hP2
  refine lv_icmp_eq (tgt := 603) hx hb d_L_law_532 (by decide) (fun _ => ?_) (fun c9 => absurd (hK3 _ hw_529) c9)
  refine W.widen (k := 100 + 3 * (k + 1)) (n := 40000 + 18 * (k + 1)) (by omega) (by omega) ?_
  exact nx _ _ _ _ _ _ _ _ _ _ _ _ _ _ _ _ _ _ _ hG hw9 hL0 hP1 hP2 hS (lv_sub hl [0, 1, 2, 3] rfl)

set_option maxHeartbeats 4000000 in
set_option maxRecDepth 100000 in
theorem l_route {p : Program} {e : Env} {s : State} {m : MethodId} {below : List Frame} {meth : Method} {c : Code} (l : Launch) (hfl : l.flags = flags0) {D : va_G} {cI cZ : ClassId} {g a d : Nat → Nat} {bq LN : Nat} {xs : Nat → Int32} (w h : Nat) (hx : p.tables.exec = Jvm.exec) (hb : c.code = b_L_law) (hml : c.maxLocals = 5) (hown : s.vm.findClass rn_L = some m.cls) (hts : ∀ w ∈ tG, w.before #[Value.ref bq] s = true) (hK : va_K D vwCl (xT cI cZ) s) (hZ : xZ g (fun q : Nat => s.heap.size ≤ q) s s.heap) (hE : xe_K (fun q : Nat => s.heap.size ≤ q) s s.heap) (ha : xI a) (hd0 : mI d) (hax : ∀ q, xA a q → (fun q : Nat => s.heap.size ≤ q) q) (hdm : ∀ q, mA d q → (fun q : Nat => s.heap.size ≤ q) q) (hapart : ∀ q, xA a q → mA d q → False) (hX : va_X bq LN xs s s.heap) (hbl : bq < s.heap.size) (hLN : LN ≤ 2562) (k : Nat) (hk5 : 2 + 5 * k + 5 ≤ LN) (nx : ∀ (Q : Nat → Nat) (ff : Nat → Int32) (hd bl : Int32) (rs : Nat → Int32) (hs ts : Int32) (rc : Nat → Int32) (hc tc : Int32) (L : Nat → Nat) (cn : Nat) (th : Int32) (kf : Nat → Int32) (Z : Nat → Bool) (pf : Nat → Int32) (H : Heap) (locs : List Loc) (ls : Array Slot), rt_G w h Q → rt_hk Q w h hd ff bl → rt_isL Q L cn → va_P D vwCl (xw cI a w h Q ff hd bl rs hs ts rc hc tc) H → va_P D vwCl (mw cI cZ d w h (fun p => rt_b (decide (Q p ≠ 0))) (fun p => nI (rt_g Q p)) (fun p => nI (rt_s Q p)) (fun i => nI (L i)) cn th kf (fun p => rt_b (Z p)) pf) H → va_S (fun q : Nat => s.heap.size ≤ q) s.heap H locs → lv_has ls 5 [(0, .ref bq), (1, .ref (a 0)), (2, .ref (d 0)), (3, .int (nI (2 + 5 * k)))] → W p l e room_1 s m #[Value.ref bq] below meth c H locs (100 + 3 * (k + 1)) (40000 + 18 * (k + 1)) (lw_Z below #[Value.ref bq] s) (F0 m 603 ls [])) (Q : Nat → Nat) (ff : Nat → Int32) (hd bl : Int32) (rs : Nat → Int32) (hs ts : Int32) (rc : Nat → Int32) (hc tc : Int32) (L : Nat → Nat) (cn : Nat) (th : Int32) (kf : Nat → Int32) (Z : Nat → Bool) (pf : Nat → Int32) (H : Heap) (locs : List Loc) (ls : Array Slot) (hG : rt_G w h Q) (hk0 : rt_hk Q w h hd ff bl) (hL0 : rt_isL Q L cn) (hP1 : va_P D vwCl (xw cI a w h Q ff hd bl rs hs ts rc hc tc) H) (hP2 : va_P D vwCl (mw cI cZ d w h (fun p => rt_b (decide (Q p ≠ 0))) (fun p => nI (rt_g Q p)) (fun p => nI (rt_s Q p)) (fun i => nI (L i)) cn th kf (fun p => rt_b (Z p)) pf) H) (hS : va_S (fun q : Nat => s.heap.size ≤ q) s.heap H locs) (hl : lv_has ls 5 [(0, .ref bq), (1, .ref (a 0)), (2, .ref (d 0)), (3, .int (nI (2 + 5 * k)))]) : W p l e room_1 s m #[Value.ref bq] below meth c H locs (100 + 3 * k) (40000 + 18 * k) (lw_Z below #[Value.ref bq] s) (F0 m 537 ls []) := by
  refine lv_aload_n hx hb d_L_law_537 rfl (lv_at hl 1 rfl) ?_
  refine lv_aload_n hx hb d_L_law_538 rfl (lv_at hl 0 rfl) ?_
  refine lv_iload_n hx hb d_L_law_539 rfl (lv_at hl 3 rfl) ?_
  refine lv_iconst (v := nI (1)) hx hb d_L_law_540 (by decide) ?_
  refine rw_add hx hb d_L_law_541 ?_
  refine va_sld hx hb hX hbl (Nat.not_le.mpr hbl) hS (vp_in_nI (by omega) (by omega)) d_L_law_542 ?_
  refine rw_topI (b := xs (2 + 5 * k + 1)) (by rw [nI_clamp (by omega)]) ?_
  refine lv_aload_n hx hb d_L_law_543 rfl (lv_at hl 0 rfl) ?_
  refine lv_iload_n hx hb d_L_law_544 rfl (lv_at hl 3 rfl) ?_
  refine lv_iconst (v := nI (2)) hx hb d_L_law_545 (by decide) ?_
  refine rw_add hx hb d_L_law_546 ?_
  refine va_sld hx hb hX hbl (Nat.not_le.mpr hbl) hS (vp_in_nI (by omega) (by omega)) d_L_law_547 ?_
  refine rw_topI (b := xs (2 + 5 * k + 2)) (by rw [nI_clamp (by omega)]) ?_
  refine lv_aload_n hx hb d_L_law_548 rfl (lv_at hl 0 rfl) ?_
  refine lv_iload_n hx hb d_L_law_549 rfl (lv_at hl 3 rfl) ?_
  refine lv_iconst (v := nI (3)) hx hb d_L_law_550 (by decide) ?_
  refine rw_add hx hb d_L_law_551 ?_
  refine va_sld hx hb hX hbl (Nat.not_le.mpr hbl) hS (vp_in_nI (by omega) (by omega)) d_L_law_552 ?_
  refine rw_topI (b := xs (2 + 5 * k + 3)) (by rw [nI_clamp (by omega)]) ?_
  refine l_ci (As := [.int (xs (2 + 5 * k + 1)), .int (xs (2 + 5 * k + 2)), .int (xs (2 + 5 * k + 3))]) (rest := []) ⟨hx, hb, hml, hown, hts⟩ (c_R_route l D cI cZ g a ha w h Q ff hd bl rs hs ts rc hc tc (xs (2 + 5 * k + 1)) (xs (2 + 5 * k + 2)) (xs (2 + 5 * k + 3)) hG hk0) (cwV 3 hts (t_gV k_methodLink_rn_L_89_y_R_route k_instanceMethod_y_R_route k_selects_rn_R_y_R_route_y_R_route k_initialized_rn_R k_code_y_R_route_prog_1_method_13_code_6_some_int) rfl rfl rfl (by decide +kernel) ⟨Nat.le_of_ble_eq_true rfl, Nat.le_of_ble_eq_true rfl⟩) (va_recv hK hP1 (ci := 3) (q0 := 0) rfl rfl) hP1 hP2 (fun k9 q9 hk9 h9 => hapart _ h9 ((m_D hd0 _ rfl).2 k9 q9 hk9)) hax hK hZ hS rfl hl.1 rfl (Nat.le_of_ble_eq_true rfl) d_L_law_553 ⟨by show _ ≤ 601024; omega, by show _ ≤ 7293000; omega⟩ (fun r_553 u_553 H locs hw_553 hP1 hP2 hS => ?_)
  obtain ⟨ff1, hd1, bl1, rs1, hs1, ts1, rc1, hc1, tc1⟩ := u_553
  have hP1 : va_P D vwCl (xw cI a w h Q ff1 hd1 bl1 rs1 hs1 ts1 rc1 hc1 tc1) H := hP1
  have hP2 : va_P D vwCl (mw cI cZ d w h (fun p => rt_b (decide (Q p ≠ 0))) (fun p => nI (rt_g Q p)) (fun p => nI (rt_s Q p)) (fun i => nI (L i)) cn th kf (fun p => rt_b (Z p)) pf) H := hP2
  obtain ⟨hw8, hw9⟩ := hw_553
  dsimp only at hw8 hw9
  obtain ⟨K, hK1, hK2, hK3⟩ := l_same (F := fun K => rt_route Q w h K _ _) hw8
  refine lv_aload_n hx hb d_L_law_556 rfl (lv_at hl 2 rfl) ?_
  refine lv_aload_n hx hb d_L_law_557 rfl (lv_at hl 0 rfl) ?_
  refine lv_iload_n hx hb d_L_law_558 rfl (lv_at hl 3 rfl) ?_
  refine lv_iconst (v := nI (1)) hx hb d_L_law_559 (by decide) ?_
  refine rw_add hx hb d_L_law_560 ?_
  refine va_sld hx hb hX hbl (Nat.not_le.mpr hbl) hS (vp_in_nI (by omega) (by omega)) d_L_law_561 ?_
  refine rw_topI (b := xs (2 + 5 * k + 1)) (by rw [nI_clamp (by omega)]) ?_
  refine lv_aload_n hx hb d_L_law_562 rfl (lv_at hl 0 rfl) ?_
  refine lv_iload_n hx hb d_L_law_563 rfl (lv_at hl 3 rfl) ?_
  refine lv_iconst (v := nI (2)) hx hb d_L_law_564 (by decide) ?_
  refine rw_add hx hb d_L_law_565 ?_
  refine va_sld hx hb hX hbl (Nat.not_le.mpr hbl) hS (vp_in_nI (by omega) (by omega)) d_L_law_566 ?_
  refine rw_topI (b := xs (2 + 5 * k + 2)) (by rw [nI_clamp (by omega)]) ?_
  refine lv_aload_n hx hb d_L_law_567 rfl (lv_at hl 0 rfl) ?_
  refine lv_iload_n hx hb d_L_law_568 rfl (lv_at hl 3 rfl) ?_
  refine lv_iconst (v := nI (3)) hx hb d_L_law_569 (by decide) ?_
  refine rw_add hx hb d_L_law_570 ?_
  refine va_sld hx hb hX hbl (Nat.not_le.mpr hbl) hS (vp_in_nI (by omega) (by omega)) d_L_law_571 ?_
  refine rw_topI (b := xs (2 + 5 * k + 3)) (by rw [nI_clamp (by omega)]) ?_
  refine l_ci (As := [.int (xs (2 + 5 * k + 1)), .int (xs (2 + 5 * k + 2)), .int (xs (2 + 5 * k + 3))]) (rest := [.int (r_553)]) ⟨hx, hb, hml, hown, hts⟩ (c_M_route l D cI cZ g d hd0 w h Q L cn th kf Z pf (xs (2 + 5 * k + 1)) (xs (2 + 5 * k + 2)) (xs (2 + 5 * k + 3)) K hG hL0 hK1 hK2) (cwV 3 hts (t_gV k_methodLink_rn_L_93_y_M_route k_instanceMethod_y_M_route k_selects_rn_M_y_M_route_y_M_route k_initialized_rn_M k_code_y_M_route_prog_6_method_35_code_9_some_int) rfl rfl rfl (by decide +kernel) ⟨Nat.le_of_ble_eq_true rfl, Nat.le_of_ble_eq_true rfl⟩) (va_recv hK hP2 (ci := 4) (q0 := 0) rfl rfl) hP2 hP1 (fun k9 q9 hk9 h9 => hapart _ ((x_D ha _ rfl).2 k9 q9 hk9) h9) hdm hK hZ hS rfl hl.1 rfl (Nat.le_of_ble_eq_true rfl) d_L_law_572 ⟨by show _ ≤ 601024; omega, by show _ ≤ 7293000; omega⟩ (fun r_572 u_572 H locs hw_572 hP2 hP1 hS => ?_)
  have hP1 : va_P D vwCl (xw cI a w h Q ff1 hd1 bl1 rs1 hs1 ts1 rc1 hc1 tc1) H := hP1
  have hP2 : va_P D vwCl (mw cI cZ d w h (fun p => rt_b (decide (Q p ≠ 0))) (fun p => nI (rt_g Q p)) (fun p => nI (rt_s Q p)) (fun i => nI (L i)) cn (nI (0)) u_572 (fun p => rt_b (Z p)) pf) H := hP2
  refine lv_icmp_eq (tgt := 603) hx hb d_L_law_575 (by decide) (fun _ => ?_) (fun c9 => absurd (hK3 _ hw_572) c9)
  refine W.widen (k := 100 + 3 * (k + 1)) (n := 40000 + 18 * (k + 1)) (by omega) (by omega) ?_
  exact nx _ _ _ _ _ _ _ _ _ _ _ _ _ _ _ _ _ _ _ hG hw9 hL0 hP1 hP2 hS (lv_sub hl [0, 1, 2, 3] rfl)

set_option maxHeartbeats 4000000 in
set_option maxRecDepth 100000 in
theorem l_count {p : Program} {e : Env} {s : State} {m : MethodId} {below : List Frame} {meth : Method} {c : Code} (l : Launch) (hfl : l.flags = flags0) {D : va_G} {cI cZ : ClassId} {g a d : Nat → Nat} {bq LN : Nat} {xs : Nat → Int32} (w h : Nat) (hx : p.tables.exec = Jvm.exec) (hb : c.code = b_L_law) (hml : c.maxLocals = 5) (hown : s.vm.findClass rn_L = some m.cls) (hts : ∀ w ∈ tG, w.before #[Value.ref bq] s = true) (hK : va_K D vwCl (xT cI cZ) s) (hZ : xZ g (fun q : Nat => s.heap.size ≤ q) s s.heap) (hE : xe_K (fun q : Nat => s.heap.size ≤ q) s s.heap) (ha : xI a) (hd0 : mI d) (hax : ∀ q, xA a q → (fun q : Nat => s.heap.size ≤ q) q) (hdm : ∀ q, mA d q → (fun q : Nat => s.heap.size ≤ q) q) (hapart : ∀ q, xA a q → mA d q → False) (hX : va_X bq LN xs s s.heap) (hbl : bq < s.heap.size) (hLN : LN ≤ 2562) (k : Nat) (hk5 : 2 + 5 * k + 5 ≤ LN) (nx : ∀ (Q : Nat → Nat) (ff : Nat → Int32) (hd bl : Int32) (rs : Nat → Int32) (hs ts : Int32) (rc : Nat → Int32) (hc tc : Int32) (L : Nat → Nat) (cn : Nat) (th : Int32) (kf : Nat → Int32) (Z : Nat → Bool) (pf : Nat → Int32) (H : Heap) (locs : List Loc) (ls : Array Slot), rt_G w h Q → rt_hk Q w h hd ff bl → rt_isL Q L cn → va_P D vwCl (xw cI a w h Q ff hd bl rs hs ts rc hc tc) H → va_P D vwCl (mw cI cZ d w h (fun p => rt_b (decide (Q p ≠ 0))) (fun p => nI (rt_g Q p)) (fun p => nI (rt_s Q p)) (fun i => nI (L i)) cn th kf (fun p => rt_b (Z p)) pf) H → va_S (fun q : Nat => s.heap.size ≤ q) s.heap H locs → lv_has ls 5 [(0, .ref bq), (1, .ref (a 0)), (2, .ref (d 0)), (3, .int (nI (2 + 5 * k)))] → W p l e room_1 s m #[Value.ref bq] below meth c H locs (100 + 3 * (k + 1)) (40000 + 18 * (k + 1)) (lw_Z below #[Value.ref bq] s) (F0 m 603 ls [])) (Q : Nat → Nat) (ff : Nat → Int32) (hd bl : Int32) (rs : Nat → Int32) (hs ts : Int32) (rc : Nat → Int32) (hc tc : Int32) (L : Nat → Nat) (cn : Nat) (th : Int32) (kf : Nat → Int32) (Z : Nat → Bool) (pf : Nat → Int32) (H : Heap) (locs : List Loc) (ls : Array Slot) (hG : rt_G w h Q) (hk0 : rt_hk Q w h hd ff bl) (hL0 : rt_isL Q L cn) (hP1 : va_P D vwCl (xw cI a w h Q ff hd bl rs hs ts rc hc tc) H) (hP2 : va_P D vwCl (mw cI cZ d w h (fun p => rt_b (decide (Q p ≠ 0))) (fun p => nI (rt_g Q p)) (fun p => nI (rt_s Q p)) (fun i => nI (L i)) cn th kf (fun p => rt_b (Z p)) pf) H) (hS : va_S (fun q : Nat => s.heap.size ≤ q) s.heap H locs) (hl : lv_has ls 5 [(0, .ref bq), (1, .ref (a 0)), (2, .ref (d 0)), (3, .int (nI (2 + 5 * k)))]) : W p l e room_1 s m #[Value.ref bq] below meth c H locs (100 + 3 * k) (40000 + 18 * k) (lw_Z below #[Value.ref bq] s) (F0 m 580 ls []) := by
  refine lv_aload_n hx hb d_L_law_580 rfl (lv_at hl 1 rfl) ?_
  refine lv_aload_n hx hb d_L_law_581 rfl (lv_at hl 0 rfl) ?_
  refine lv_iload_n hx hb d_L_law_582 rfl (lv_at hl 3 rfl) ?_
  refine lv_iconst (v := nI (1)) hx hb d_L_law_583 (by decide) ?_
  refine rw_add hx hb d_L_law_584 ?_
  refine va_sld hx hb hX hbl (Nat.not_le.mpr hbl) hS (vp_in_nI (by omega) (by omega)) d_L_law_585 ?_
  refine rw_topI (b := xs (2 + 5 * k + 1)) (by rw [nI_clamp (by omega)]) ?_
  refine l_ci (As := [.int (xs (2 + 5 * k + 1))]) (rest := []) ⟨hx, hb, hml, hown, hts⟩ (c_R_count l D cI cZ g a ha w h Q ff hd bl rs hs ts rc hc tc (xs (2 + 5 * k + 1)) hG hk0) (cwV 1 hts (t_gV k_methodLink_rn_L_94_y_R_count k_instanceMethod_y_R_count k_selects_rn_R_y_R_count_y_R_count k_initialized_rn_R k_code_y_R_count_prog_1_method_14_code_2_some_int) rfl rfl rfl (by decide +kernel) ⟨Nat.le_of_ble_eq_true rfl, Nat.le_of_ble_eq_true rfl⟩) (va_recv hK hP1 (ci := 3) (q0 := 0) rfl rfl) hP1 hP2 (fun k9 q9 hk9 h9 => hapart _ h9 ((m_D hd0 _ rfl).2 k9 q9 hk9)) hax hK hZ hS rfl hl.1 rfl (Nat.le_of_ble_eq_true rfl) d_L_law_586 ⟨by show _ ≤ 601024; omega, by show _ ≤ 7293000; omega⟩ (fun r_586 u_586 H locs hw_586 hP1 hP2 hS => ?_)
  obtain ⟨ff1, hd1, bl1, rs1, hs1, ts1, rc1, hc1, tc1⟩ := u_586
  have hP1 : va_P D vwCl (xw cI a w h Q ff1 hd1 bl1 rs1 hs1 ts1 rc1 hc1 tc1) H := hP1
  have hP2 : va_P D vwCl (mw cI cZ d w h (fun p => rt_b (decide (Q p ≠ 0))) (fun p => nI (rt_g Q p)) (fun p => nI (rt_s Q p)) (fun i => nI (L i)) cn th kf (fun p => rt_b (Z p)) pf) H := hP2
  obtain ⟨hw8, hw9⟩ := hw_586
  dsimp only at hw8 hw9
  obtain ⟨B, hB1, hB2⟩ := l_cnt hw8
  refine lv_aload_n hx hb d_L_law_589 rfl (lv_at hl 2 rfl) ?_
  refine lv_aload_n hx hb d_L_law_590 rfl (lv_at hl 0 rfl) ?_
  refine lv_iload_n hx hb d_L_law_591 rfl (lv_at hl 3 rfl) ?_
  refine lv_iconst (v := nI (1)) hx hb d_L_law_592 (by decide) ?_
  refine rw_add hx hb d_L_law_593 ?_
  refine va_sld hx hb hX hbl (Nat.not_le.mpr hbl) hS (vp_in_nI (by omega) (by omega)) d_L_law_594 ?_
  refine rw_topI (b := xs (2 + 5 * k + 1)) (by rw [nI_clamp (by omega)]) ?_
  refine l_ci (As := [.int (xs (2 + 5 * k + 1))]) (rest := [.int (r_586)]) ⟨hx, hb, hml, hown, hts⟩ (c_M_count l D cI cZ g d hd0 w h Q L cn th kf Z pf (xs (2 + 5 * k + 1)) B hG hL0 hB1) (cwV 1 hts (t_gV k_methodLink_rn_L_97_y_M_count k_instanceMethod_y_M_count k_selects_rn_M_y_M_count_y_M_count k_initialized_rn_M k_code_y_M_count_prog_6_method_36_code_5_some_int) rfl rfl rfl (by decide +kernel) ⟨Nat.le_of_ble_eq_true rfl, Nat.le_of_ble_eq_true rfl⟩) (va_recv hK hP2 (ci := 4) (q0 := 0) rfl rfl) hP2 hP1 (fun k9 q9 hk9 h9 => hapart _ ((x_D ha _ rfl).2 k9 q9 hk9) h9) hdm hK hZ hS rfl hl.1 rfl (Nat.le_of_ble_eq_true rfl) d_L_law_595 ⟨by show _ ≤ 601024; omega, by show _ ≤ 7293000; omega⟩ (fun r_595 u_595 H locs hw_595 hP2 hP1 hS => ?_)
  have hP1 : va_P D vwCl (xw cI a w h Q ff1 hd1 bl1 rs1 hs1 ts1 rc1 hc1 tc1) H := hP1
  have hP2 : va_P D vwCl (mw cI cZ d w h (fun p => rt_b (decide (Q p ≠ 0))) (fun p => nI (rt_g Q p)) (fun p => nI (rt_s Q p)) (fun i => nI (L i)) cn (nI (0)) kf (fun p => rt_b (u_595.1 p)) u_595.2) H := hP2
  refine lv_icmp_eq (tgt := 603) hx hb d_L_law_598 (by decide) (fun _ => ?_) (fun c9 => absurd (hB2 _ hw_595) c9)
  refine W.widen (k := 100 + 3 * (k + 1)) (n := 40000 + 18 * (k + 1)) (by omega) (by omega) ?_
  exact nx _ _ _ _ _ _ _ _ _ _ _ _ _ _ _ _ _ _ _ hG hw9 hL0 hP1 hP2 hS (lv_sub hl [0, 1, 2, 3] rfl)
