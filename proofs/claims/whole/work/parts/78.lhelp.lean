/-! THE LAW'S HELPERS: a change of the class, its throw caught: by program (wip/whole/gen/lhelp.py) -/
theorem xe_tb {p : Program} {l : Launch} {y : MethodName} {ws ws' : List Cond} {rm : Room} {cc : ByteArray} {maxL : Nat} {ret : Option FieldType} {hh : List (Nat × Nat × Nat × Nat)} {e : Env} {s : State} {m : MethodId} {args : Array Value} {below : List Frame} {meth : Method} {c : Code} {s₁ : State} (B : BodyLoose p l y (headSpec ws rm) cc maxL ret e s m args below meth c s₁) (hw : ws = Cond.codeWith y cc maxL ret hh :: ws') :
    c.exceptionTable.toList.map (fun h => (h.startPc, h.endPc, h.handlerPc, h.catchType)) = hh := by
  obtain ⟨m9, meth2, c2, hn9, h1, h2, -, -, h5, -⟩ := Cond.codeWith_spec (atoms_spec (ws := ws) B.pre _ (by rw [hw]; exact List.mem_cons_self))
  cases B.named.symm.trans hn9
  cases B.method.symm.trans h1
  cases (Stand.of_body B).code.symm.trans h2
  exact h5
theorem rt_code (Q : Nat → Nat) (n : Nat) (hn : n ≤ 400) (x y v u : Int32) : (rt_lay Q n x y).1 ≤ 2 ∧ (rt_lift Q n x y).1 ≤ 2 ∧ (rt_sig Q n x y v u).1 ≤ 2 ∧ (rt_plt Q n x y v).1 ≤ 2 := by
  by_cases hp : rt_rp n x y = 0
  · obtain ⟨h1, h2⟩ := rt_rp_0 hp
    obtain ⟨t, ht, rfl⟩ := rt_ix_is (by omega) h1
    obtain ⟨k, hk, rfl⟩ := rt_ix_is (by omega) h2
    rw [rt_lay_s (by omega) ht hk, rt_lift_s (by omega) ht hk, rt_sig_s (by omega) ht hk, rt_plt_s (by omega) ht hk]
    refine ⟨?_, ?_, ?_, ?_⟩
    · split
      · exact Nat.le_refl 2
      · exact Nat.zero_le 2
    · split
      · exact Nat.le_refl 2
      · exact Nat.zero_le 2
    · split
      · exact Nat.le_refl 2
      · exact Nat.zero_le 2
    · split
      · exact Nat.le_succ 1
      · split
        · exact Nat.le_refl 2
        · exact Nat.zero_le 2
  · obtain ⟨-, h1⟩ := rt_rp_1 hp
    rw [(rt_lay_n h1).1, (rt_lay_n h1).2, rt_sig_n h1, rt_plt_n h1]
    exact ⟨Nat.le_succ 1, Nat.le_succ 1, Nat.le_succ 1, Nat.le_succ 1⟩

set_option maxHeartbeats 4000000 in
set_option maxRecDepth 100000 in
theorem c_L_lay (l : Launch) (hfl : l.flags = flags0) (D : va_G) (cI cZ : ClassId) (g a : Nat → Nat) (ha : xI a) (w h : Nat) (Q : Nat → Nat) (ff : Nat → Int32) (hd bl : Int32) (rs : Nat → Int32) (hs ts : Int32) (rc : Nat → Int32) (hc tc : Int32) (x y : Int32) (hG : rt_G w h Q) (hk0 : rt_hk Q w h hd ff bl) : Met l y_L_lay (.codeWith y_L_lay b_L_lay 4 (some .int) [(0, 6, 9, 13), (0, 6, 12, 15)] :: tG) ({ frames := 8, cells := 2, slots := 12, locals := 127 }) (va_Pc [.ref (a 0), .int (x), .int (y)] (xe_U D cI cZ g (xA a) (xw cI a w h Q ff hd bl rs hs ts rc hc tc))) (va_Qi (S := Int32) (fun r u => r = nI (rt_lay Q (w * h) x y).1 ∧ rt_hk (rt_lay Q (w * h) x y).2 w h u ff bl) (wB D (fun (u : Int32) => (xw cI a w h ((rt_lay Q (w * h) x y).2) ff u bl rs hs ts rc hc tc))) (xA a)) 2 12 (xA a) := by
  refine va_MetW (cc := b_L_lay) (maxL := 4) (ret := (some .int)) (hh := [(0, 6, 9, 13), (0, 6, 12, 15)]) (by decide) rfl ?_
  intro p e s m args below meth c s₁ BD9 hml hv
  obtain ⟨rfl, ⟨hP, hK, hZ⟩, hE⟩ := hv
  have hx := BD9.exec
  have hb := BD9.bytes
  have hr := BD9.returns
  have htb := xe_tb BD9 rfl
  have hts : ∀ w ∈ tG, w.before _ s = true := fun w hw => atoms_spec (ws := .codeWith y_L_lay b_L_lay 4 (some .int) [(0, 6, 9, 13), (0, 6, 12, 15)] :: tG) BD9.pre w (List.mem_cons_of_mem _ hw)
  have hown : s.vm.findClass rn_L = some m.cls := findClass_of_methodNamed BD9.named
  have hlocks := BD9.notSynchronized
  have hS : va_S (xA a) s.heap s.heap [] := va_S.rf
  have hP : va_P D vwCl (xw cI a w h Q ff hd bl rs hs ts rc hc tc) s.heap := hP
  have hl := lv_entry ([.ref (a 0), .int (x), .int (y)]) (n := 4) (Nat.le_of_ble_eq_true rfl)
  rw [lg_entry_eq]
  generalize (lg_sl ([.ref (a 0), .int (x), .int (y)]) ++ List.replicate (4 - (lg_sl ([.ref (a 0), .int (x), .int (y)])).length) Slot.unset).toArray = ls at hl ⊢
  have hl : lv_has ls 4 [(0, .ref (a 0)), (1, .int (x)), (2, .int (y))] := hl
  refine lv_aload_n hx hb d_L_lay_0 rfl (lv_at hl 0 rfl) ?_
  refine lv_iload_n hx hb d_L_lay_1 rfl (lv_at hl 1 rfl) ?_
  refine lv_iload_n hx hb d_L_lay_2 rfl (lv_at hl 2 rfl) ?_
  refine w_xv (As := [.int (x), .int (y)]) (rest := []) ⟨hx, hb, hml, hown, hts⟩ (c_R_lay l hfl D cI cZ g a ha w h Q ff hd bl rs hs ts rc hc tc x y hG hk0) (cwV 2 hts (t_gV k_methodLink_rn_L_7_y_R_lay k_instanceMethod_y_R_lay k_selects_rn_R_y_R_lay_y_R_lay k_initialized_rn_R k_code_y_R_lay_prog_1_method_2_code_4_none) rfl rfl rfl (by decide +kernel) ⟨Nat.le_of_ble_eq_true rfl, Nat.le_of_ble_eq_true rfl⟩) (va_recv hK hP (ci := 3) (q0 := 0) rfl rfl) hP hK hZ hE hS rfl hl.1 rfl (Nat.le_of_ble_eq_true rfl) d_L_lay_3 ⟨Nat.le_of_ble_eq_true rfl, Nat.le_of_ble_eq_true rfl⟩ (fun hk9 u H locs hw hP hS => ?_) (fun hk9 q ce u H locs hq hns hcl hw hP hS => ?_)
  · refine lv_goto (tgt := 15) hx hb d_L_lay_6 (by decide) ?_
    refine lv_iconst (v := nI 0) hx hb d_L_lay_15 (by decide) ?_
    exact w_iret u hx hb hr hlocks hS hP ⟨by rw [hk9], hw⟩ d_L_lay_16
  · by_cases hc1 : (rt_lay Q (w * h) x y).1 = 1
    · refine xe_cat1 (n := 6) (h0 := 9) (h1 := 12) hown htb (by decide) (hts _ k_classLink_rn_L_13_java_lang_IndexOutOfBoundsException) (hE.cast (w := .castable xe_I xe_I) (by simp [xe_ws]) _) hq hns (by rw [hc1] at hcl; exact hcl) ?_
      refine lv_astore_n (lv' := [(3, .ref q), (0, .ref (a 0)), (1, .int (x)), (2, .int (y))]) hx hb d_L_lay_9 rfl hl (by decide) rfl (fun ls hl => ?_)
      refine lv_iconst (v := nI 1) hx hb d_L_lay_10 (by decide) ?_
      exact w_iret u hx hb hr hlocks hS hP ⟨by rw [hc1], hw⟩ d_L_lay_11
    · have hc2 : (rt_lay Q (w * h) x y).1 = 2 := by
        have h9 := (rt_code Q (w * h) hG.n.2 x y 0 0).1
        omega
      refine xe_cat2 (n := 6) (h0 := 9) (h1 := 12) hown htb (by decide) (hts _ k_classLink_rn_L_13_java_lang_IndexOutOfBoundsException) (hts _ k_classLink_rn_L_15_java_lang_IllegalArgumentException) (hE.cast (w := .castable xe_L xe_L) (by simp [xe_ws]) _) hE.2.2 hq hns (by rw [hc2] at hcl; exact hcl) ?_
      refine lv_astore_n (lv' := [(3, .ref q), (0, .ref (a 0)), (1, .int (x)), (2, .int (y))]) hx hb d_L_lay_12 rfl hl (by decide) rfl (fun ls hl => ?_)
      refine lv_iconst (v := nI 2) hx hb d_L_lay_13 (by decide) ?_
      exact w_iret u hx hb hr hlocks hS hP ⟨by rw [hc2], hw⟩ d_L_lay_14

set_option maxHeartbeats 4000000 in
set_option maxRecDepth 100000 in
theorem c_L_lift (l : Launch) (hfl : l.flags = flags0) (D : va_G) (cI cZ : ClassId) (g a : Nat → Nat) (ha : xI a) (w h : Nat) (Q : Nat → Nat) (ff : Nat → Int32) (hd bl : Int32) (rs : Nat → Int32) (hs ts : Int32) (rc : Nat → Int32) (hc tc : Int32) (x y : Int32) (hG : rt_G w h Q) (hk0 : rt_hk Q w h hd ff bl) : Met l y_L_lift (.codeWith y_L_lift b_L_lift 4 (some .int) [(0, 6, 9, 13), (0, 6, 12, 15)] :: tG) ({ frames := 8, cells := 2, slots := 12, locals := 127 }) (va_Pc [.ref (a 0), .int (x), .int (y)] (xe_U D cI cZ g (xA a) (xw cI a w h Q ff hd bl rs hs ts rc hc tc))) (va_Qi (S := Int32) (fun r u => r = nI (rt_lift Q (w * h) x y).1 ∧ rt_hk (rt_lift Q (w * h) x y).2 w h u ff bl) (wB D (fun (u : Int32) => (xw cI a w h ((rt_lift Q (w * h) x y).2) ff u bl rs hs ts rc hc tc))) (xA a)) 2 12 (xA a) := by
  refine va_MetW (cc := b_L_lift) (maxL := 4) (ret := (some .int)) (hh := [(0, 6, 9, 13), (0, 6, 12, 15)]) (by decide) rfl ?_
  intro p e s m args below meth c s₁ BD9 hml hv
  obtain ⟨rfl, ⟨hP, hK, hZ⟩, hE⟩ := hv
  have hx := BD9.exec
  have hb := BD9.bytes
  have hr := BD9.returns
  have htb := xe_tb BD9 rfl
  have hts : ∀ w ∈ tG, w.before _ s = true := fun w hw => atoms_spec (ws := .codeWith y_L_lift b_L_lift 4 (some .int) [(0, 6, 9, 13), (0, 6, 12, 15)] :: tG) BD9.pre w (List.mem_cons_of_mem _ hw)
  have hown : s.vm.findClass rn_L = some m.cls := findClass_of_methodNamed BD9.named
  have hlocks := BD9.notSynchronized
  have hS : va_S (xA a) s.heap s.heap [] := va_S.rf
  have hP : va_P D vwCl (xw cI a w h Q ff hd bl rs hs ts rc hc tc) s.heap := hP
  have hl := lv_entry ([.ref (a 0), .int (x), .int (y)]) (n := 4) (Nat.le_of_ble_eq_true rfl)
  rw [lg_entry_eq]
  generalize (lg_sl ([.ref (a 0), .int (x), .int (y)]) ++ List.replicate (4 - (lg_sl ([.ref (a 0), .int (x), .int (y)])).length) Slot.unset).toArray = ls at hl ⊢
  have hl : lv_has ls 4 [(0, .ref (a 0)), (1, .int (x)), (2, .int (y))] := hl
  refine lv_aload_n hx hb d_L_lift_0 rfl (lv_at hl 0 rfl) ?_
  refine lv_iload_n hx hb d_L_lift_1 rfl (lv_at hl 1 rfl) ?_
  refine lv_iload_n hx hb d_L_lift_2 rfl (lv_at hl 2 rfl) ?_
  refine w_xv (As := [.int (x), .int (y)]) (rest := []) ⟨hx, hb, hml, hown, hts⟩ (c_R_lift l hfl D cI cZ g a ha w h Q ff hd bl rs hs ts rc hc tc x y hG hk0) (cwV 2 hts (t_gV k_methodLink_rn_L_17_y_R_lift k_instanceMethod_y_R_lift k_selects_rn_R_y_R_lift_y_R_lift k_initialized_rn_R k_code_y_R_lift_prog_1_method_3_code_4_none) rfl rfl rfl (by decide +kernel) ⟨Nat.le_of_ble_eq_true rfl, Nat.le_of_ble_eq_true rfl⟩) (va_recv hK hP (ci := 3) (q0 := 0) rfl rfl) hP hK hZ hE hS rfl hl.1 rfl (Nat.le_of_ble_eq_true rfl) d_L_lift_3 ⟨Nat.le_of_ble_eq_true rfl, Nat.le_of_ble_eq_true rfl⟩ (fun hk9 u H locs hw hP hS => ?_) (fun hk9 q ce u H locs hq hns hcl hw hP hS => ?_)
  · refine lv_goto (tgt := 15) hx hb d_L_lift_6 (by decide) ?_
    refine lv_iconst (v := nI 0) hx hb d_L_lift_15 (by decide) ?_
    exact w_iret u hx hb hr hlocks hS hP ⟨by rw [hk9], hw⟩ d_L_lift_16
  · by_cases hc1 : (rt_lift Q (w * h) x y).1 = 1
    · refine xe_cat1 (n := 6) (h0 := 9) (h1 := 12) hown htb (by decide) (hts _ k_classLink_rn_L_13_java_lang_IndexOutOfBoundsException) (hE.cast (w := .castable xe_I xe_I) (by simp [xe_ws]) _) hq hns (by rw [hc1] at hcl; exact hcl) ?_
      refine lv_astore_n (lv' := [(3, .ref q), (0, .ref (a 0)), (1, .int (x)), (2, .int (y))]) hx hb d_L_lift_9 rfl hl (by decide) rfl (fun ls hl => ?_)
      refine lv_iconst (v := nI 1) hx hb d_L_lift_10 (by decide) ?_
      exact w_iret u hx hb hr hlocks hS hP ⟨by rw [hc1], hw⟩ d_L_lift_11
    · have hc2 : (rt_lift Q (w * h) x y).1 = 2 := by
        have h9 := (rt_code Q (w * h) hG.n.2 x y 0 0).2.1
        omega
      refine xe_cat2 (n := 6) (h0 := 9) (h1 := 12) hown htb (by decide) (hts _ k_classLink_rn_L_13_java_lang_IndexOutOfBoundsException) (hts _ k_classLink_rn_L_15_java_lang_IllegalArgumentException) (hE.cast (w := .castable xe_L xe_L) (by simp [xe_ws]) _) hE.2.2 hq hns (by rw [hc2] at hcl; exact hcl) ?_
      refine lv_astore_n (lv' := [(3, .ref q), (0, .ref (a 0)), (1, .int (x)), (2, .int (y))]) hx hb d_L_lift_12 rfl hl (by decide) rfl (fun ls hl => ?_)
      refine lv_iconst (v := nI 2) hx hb d_L_lift_13 (by decide) ?_
      exact w_iret u hx hb hr hlocks hS hP ⟨by rw [hc2], hw⟩ d_L_lift_14

set_option maxHeartbeats 4000000 in
set_option maxRecDepth 100000 in
theorem c_L_signal (l : Launch) (hfl : l.flags = flags0) (D : va_G) (cI cZ : ClassId) (g a : Nat → Nat) (ha : xI a) (w h : Nat) (Q : Nat → Nat) (ff : Nat → Int32) (hd bl : Int32) (rs : Nat → Int32) (hs ts : Int32) (rc : Nat → Int32) (hc tc : Int32) (x y v u0 : Int32) (hG : rt_G w h Q) (hk0 : rt_hk Q w h hd ff bl) : Met l y_L_signal (.codeWith y_L_signal b_L_signal 6 (some .int) [(0, 9, 12, 13), (0, 9, 16, 15)] :: tG) ({ frames := 8, cells := 3, slots := 18, locals := 130 }) (va_Pc [.ref (a 0), .int (x), .int (y), .int (v), .int (u0)] (xe_U D cI cZ g (xA a) (xw cI a w h Q ff hd bl rs hs ts rc hc tc))) (va_Qi (S := Int32) (fun r u => r = nI (rt_sig Q (w * h) x y v u0).1 ∧ rt_hk (rt_sig Q (w * h) x y v u0).2 w h u ff bl) (wB D (fun (u : Int32) => (xw cI a w h ((rt_sig Q (w * h) x y v u0).2) ff u bl rs hs ts rc hc tc))) (xA a)) 3 18 (xA a) := by
  refine va_MetW (cc := b_L_signal) (maxL := 6) (ret := (some .int)) (hh := [(0, 9, 12, 13), (0, 9, 16, 15)]) (by decide) rfl ?_
  intro p e s m args below meth c s₁ BD9 hml hv
  obtain ⟨rfl, ⟨hP, hK, hZ⟩, hE⟩ := hv
  have hx := BD9.exec
  have hb := BD9.bytes
  have hr := BD9.returns
  have htb := xe_tb BD9 rfl
  have hts : ∀ w ∈ tG, w.before _ s = true := fun w hw => atoms_spec (ws := .codeWith y_L_signal b_L_signal 6 (some .int) [(0, 9, 12, 13), (0, 9, 16, 15)] :: tG) BD9.pre w (List.mem_cons_of_mem _ hw)
  have hown : s.vm.findClass rn_L = some m.cls := findClass_of_methodNamed BD9.named
  have hlocks := BD9.notSynchronized
  have hS : va_S (xA a) s.heap s.heap [] := va_S.rf
  have hP : va_P D vwCl (xw cI a w h Q ff hd bl rs hs ts rc hc tc) s.heap := hP
  have hl := lv_entry ([.ref (a 0), .int (x), .int (y), .int (v), .int (u0)]) (n := 6) (Nat.le_of_ble_eq_true rfl)
  rw [lg_entry_eq]
  generalize (lg_sl ([.ref (a 0), .int (x), .int (y), .int (v), .int (u0)]) ++ List.replicate (6 - (lg_sl ([.ref (a 0), .int (x), .int (y), .int (v), .int (u0)])).length) Slot.unset).toArray = ls at hl ⊢
  have hl : lv_has ls 6 [(0, .ref (a 0)), (1, .int (x)), (2, .int (y)), (3, .int (v)), (4, .int (u0))] := hl
  refine lv_aload_n hx hb d_L_signal_0 rfl (lv_at hl 0 rfl) ?_
  refine lv_iload_n hx hb d_L_signal_1 rfl (lv_at hl 1 rfl) ?_
  refine lv_iload_n hx hb d_L_signal_2 rfl (lv_at hl 2 rfl) ?_
  refine lv_iload_n hx hb d_L_signal_3 rfl (lv_at hl 3 rfl) ?_
  refine lv_iload hx hb d_L_signal_4 (lv_at hl 4 rfl) ?_
  refine w_xv (As := [.int (x), .int (y), .int (v), .int (u0)]) (rest := []) ⟨hx, hb, hml, hown, hts⟩ (c_R_signal l hfl D cI cZ g a ha w h Q ff hd bl rs hs ts rc hc tc x y v u0 hG hk0) (cwV 4 hts (t_gV k_methodLink_rn_L_20_y_R_signal k_instanceMethod_y_R_signal k_selects_rn_R_y_R_signal_y_R_signal k_initialized_rn_R k_code_y_R_signal_prog_1_method_4_code_7_none) rfl rfl rfl (by decide +kernel) ⟨Nat.le_of_ble_eq_true rfl, Nat.le_of_ble_eq_true rfl⟩) (va_recv hK hP (ci := 3) (q0 := 0) rfl rfl) hP hK hZ hE hS rfl hl.1 rfl (Nat.le_of_ble_eq_true rfl) d_L_signal_6 ⟨Nat.le_of_ble_eq_true rfl, Nat.le_of_ble_eq_true rfl⟩ (fun hk9 u H locs hw hP hS => ?_) (fun hk9 q ce u H locs hq hns hcl hw hP hS => ?_)
  · refine lv_goto (tgt := 20) hx hb d_L_signal_9 (by decide) ?_
    refine lv_iconst (v := nI 0) hx hb d_L_signal_20 (by decide) ?_
    exact w_iret u hx hb hr hlocks hS hP ⟨by rw [hk9], hw⟩ d_L_signal_21
  · by_cases hc1 : (rt_sig Q (w * h) x y v u0).1 = 1
    · refine xe_cat1 (n := 9) (h0 := 12) (h1 := 16) hown htb (by decide) (hts _ k_classLink_rn_L_13_java_lang_IndexOutOfBoundsException) (hE.cast (w := .castable xe_I xe_I) (by simp [xe_ws]) _) hq hns (by rw [hc1] at hcl; exact hcl) ?_
      refine lv_astore (lv' := [(5, .ref q), (0, .ref (a 0)), (1, .int (x)), (2, .int (y)), (3, .int (v)), (4, .int (u0))]) hx hb d_L_signal_12 hl (by decide) rfl (fun ls hl => ?_)
      refine lv_iconst (v := nI 1) hx hb d_L_signal_14 (by decide) ?_
      exact w_iret u hx hb hr hlocks hS hP ⟨by rw [hc1], hw⟩ d_L_signal_15
    · have hc2 : (rt_sig Q (w * h) x y v u0).1 = 2 := by
        have h9 := (rt_code Q (w * h) hG.n.2 x y v u0).2.2.1
        omega
      refine xe_cat2 (n := 9) (h0 := 12) (h1 := 16) hown htb (by decide) (hts _ k_classLink_rn_L_13_java_lang_IndexOutOfBoundsException) (hts _ k_classLink_rn_L_15_java_lang_IllegalArgumentException) (hE.cast (w := .castable xe_L xe_L) (by simp [xe_ws]) _) hE.2.2 hq hns (by rw [hc2] at hcl; exact hcl) ?_
      refine lv_astore (lv' := [(5, .ref q), (0, .ref (a 0)), (1, .int (x)), (2, .int (y)), (3, .int (v)), (4, .int (u0))]) hx hb d_L_signal_16 hl (by decide) rfl (fun ls hl => ?_)
      refine lv_iconst (v := nI 2) hx hb d_L_signal_18 (by decide) ?_
      exact w_iret u hx hb hr hlocks hS hP ⟨by rw [hc2], hw⟩ d_L_signal_19

set_option maxHeartbeats 4000000 in
set_option maxRecDepth 100000 in
theorem c_L_platform (l : Launch) (hfl : l.flags = flags0) (D : va_G) (cI cZ : ClassId) (g a : Nat → Nat) (ha : xI a) (w h : Nat) (Q : Nat → Nat) (ff : Nat → Int32) (hd bl : Int32) (rs : Nat → Int32) (hs ts : Int32) (rc : Nat → Int32) (hc tc : Int32) (x y v : Int32) (hG : rt_G w h Q) (hk0 : rt_hk Q w h hd ff bl) : Met l y_L_platform (.codeWith y_L_platform b_L_platform 5 (some .int) [(0, 7, 10, 13), (0, 7, 14, 15)] :: tG) ({ frames := 8, cells := 3, slots := 18, locals := 128 }) (va_Pc [.ref (a 0), .int (x), .int (y), .int (v)] (xe_U D cI cZ g (xA a) (xw cI a w h Q ff hd bl rs hs ts rc hc tc))) (va_Qi (S := Int32) (fun r u => r = nI (rt_plt Q (w * h) x y v).1 ∧ rt_hk (rt_plt Q (w * h) x y v).2 w h u ff bl) (wB D (fun (u : Int32) => (xw cI a w h ((rt_plt Q (w * h) x y v).2) ff u bl rs hs ts rc hc tc))) (xA a)) 3 18 (xA a) := by
  refine va_MetW (cc := b_L_platform) (maxL := 5) (ret := (some .int)) (hh := [(0, 7, 10, 13), (0, 7, 14, 15)]) (by decide) rfl ?_
  intro p e s m args below meth c s₁ BD9 hml hv
  obtain ⟨rfl, ⟨hP, hK, hZ⟩, hE⟩ := hv
  have hx := BD9.exec
  have hb := BD9.bytes
  have hr := BD9.returns
  have htb := xe_tb BD9 rfl
  have hts : ∀ w ∈ tG, w.before _ s = true := fun w hw => atoms_spec (ws := .codeWith y_L_platform b_L_platform 5 (some .int) [(0, 7, 10, 13), (0, 7, 14, 15)] :: tG) BD9.pre w (List.mem_cons_of_mem _ hw)
  have hown : s.vm.findClass rn_L = some m.cls := findClass_of_methodNamed BD9.named
  have hlocks := BD9.notSynchronized
  have hS : va_S (xA a) s.heap s.heap [] := va_S.rf
  have hP : va_P D vwCl (xw cI a w h Q ff hd bl rs hs ts rc hc tc) s.heap := hP
  have hl := lv_entry ([.ref (a 0), .int (x), .int (y), .int (v)]) (n := 5) (Nat.le_of_ble_eq_true rfl)
  rw [lg_entry_eq]
  generalize (lg_sl ([.ref (a 0), .int (x), .int (y), .int (v)]) ++ List.replicate (5 - (lg_sl ([.ref (a 0), .int (x), .int (y), .int (v)])).length) Slot.unset).toArray = ls at hl ⊢
  have hl : lv_has ls 5 [(0, .ref (a 0)), (1, .int (x)), (2, .int (y)), (3, .int (v))] := hl
  refine lv_aload_n hx hb d_L_platform_0 rfl (lv_at hl 0 rfl) ?_
  refine lv_iload_n hx hb d_L_platform_1 rfl (lv_at hl 1 rfl) ?_
  refine lv_iload_n hx hb d_L_platform_2 rfl (lv_at hl 2 rfl) ?_
  refine lv_iload_n hx hb d_L_platform_3 rfl (lv_at hl 3 rfl) ?_
  refine w_xv (As := [.int (x), .int (y), .int (v)]) (rest := []) ⟨hx, hb, hml, hown, hts⟩ (c_R_platform l hfl D cI cZ g a ha w h Q ff hd bl rs hs ts rc hc tc x y v hG hk0) (cwV 3 hts (t_gV k_methodLink_rn_L_24_y_R_platform k_instanceMethod_y_R_platform k_selects_rn_R_y_R_platform_y_R_platform k_initialized_rn_R k_code_y_R_platform_prog_1_method_5_code_5_none) rfl rfl rfl (by decide +kernel) ⟨Nat.le_of_ble_eq_true rfl, Nat.le_of_ble_eq_true rfl⟩) (va_recv hK hP (ci := 3) (q0 := 0) rfl rfl) hP hK hZ hE hS rfl hl.1 rfl (Nat.le_of_ble_eq_true rfl) d_L_platform_4 ⟨Nat.le_of_ble_eq_true rfl, Nat.le_of_ble_eq_true rfl⟩ (fun hk9 u H locs hw hP hS => ?_) (fun hk9 q ce u H locs hq hns hcl hw hP hS => ?_)
  · refine lv_goto (tgt := 18) hx hb d_L_platform_7 (by decide) ?_
    refine lv_iconst (v := nI 0) hx hb d_L_platform_18 (by decide) ?_
    exact w_iret u hx hb hr hlocks hS hP ⟨by rw [hk9], hw⟩ d_L_platform_19
  · by_cases hc1 : (rt_plt Q (w * h) x y v).1 = 1
    · refine xe_cat1 (n := 7) (h0 := 10) (h1 := 14) hown htb (by decide) (hts _ k_classLink_rn_L_13_java_lang_IndexOutOfBoundsException) (hE.cast (w := .castable xe_I xe_I) (by simp [xe_ws]) _) hq hns (by rw [hc1] at hcl; exact hcl) ?_
      refine lv_astore (lv' := [(4, .ref q), (0, .ref (a 0)), (1, .int (x)), (2, .int (y)), (3, .int (v))]) hx hb d_L_platform_10 hl (by decide) rfl (fun ls hl => ?_)
      refine lv_iconst (v := nI 1) hx hb d_L_platform_12 (by decide) ?_
      exact w_iret u hx hb hr hlocks hS hP ⟨by rw [hc1], hw⟩ d_L_platform_13
    · have hc2 : (rt_plt Q (w * h) x y v).1 = 2 := by
        have h9 := (rt_code Q (w * h) hG.n.2 x y v 0).2.2.2
        omega
      refine xe_cat2 (n := 7) (h0 := 10) (h1 := 14) hown htb (by decide) (hts _ k_classLink_rn_L_13_java_lang_IndexOutOfBoundsException) (hts _ k_classLink_rn_L_15_java_lang_IllegalArgumentException) (hE.cast (w := .castable xe_L xe_L) (by simp [xe_ws]) _) hE.2.2 hq hns (by rw [hc2] at hcl; exact hcl) ?_
      refine lv_astore (lv' := [(4, .ref q), (0, .ref (a 0)), (1, .int (x)), (2, .int (y)), (3, .int (v))]) hx hb d_L_platform_14 hl (by decide) rfl (fun ls hl => ?_)
      refine lv_iconst (v := nI 2) hx hb d_L_platform_16 (by decide) ?_
      exact w_iret u hx hb hr hlocks hS hP ⟨by rw [hc2], hw⟩ d_L_platform_17
