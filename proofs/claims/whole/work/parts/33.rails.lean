/-! Rails: by program (wip/whole/gen/rails.py) -/
set_option maxHeartbeats 4000000 in
set_option maxRecDepth 100000 in
theorem c_A_isThere (l : Launch) (D : va_G) (cI cZ : ClassId) (g a : Nat → Nat) (ha : xI a) (w h : Nat) (Q : Nat → Nat) (ff : Nat → Int32) (hd bl : Int32) (rs : Nat → Int32) (hs ts : Int32) (rc : Nat → Int32) (hc tc : Int32) (k : Nat) (hG : rt_G w h Q) (hk : k < 6 * (w * h)) : Met l y_A_isThere (.code y_A_isThere b_A_isThere 2 (some .boolean) :: tG) ({ frames := 0, cells := 0, slots := 0, locals := 0 }) (va_Pc [.ref (a 1), .int (nI (k))] (wU D cI cZ g (xA a) (xw cI a w h Q ff hd bl rs hs ts rc hc tc))) (va_Qi (S := Unit) (fun r _ => r = rt_b (decide (Q k ≠ 0))) (wB D (fun (u : Unit) => (xw cI a w h Q ff hd bl rs hs ts rc hc tc))) (xA a)) 0 0 (xA a) := by
  refine Met.ofW (cc := b_A_isThere) (maxL := 2) (ret := (some .boolean)) (by decide) rfl ?_
  intro p e s m args below meth c s₁ BD9 hml hv
  obtain ⟨rfl, hP, hK, hZ⟩ := hv
  have hx := BD9.exec
  have hb := BD9.bytes
  have hr := BD9.returns
  have hts : ∀ w ∈ tG, w.before _ s = true := fun w hw => atoms_spec (ws := .code y_A_isThere b_A_isThere 2 (some .boolean) :: tG) BD9.pre w (List.mem_cons_of_mem _ hw)
  have hown : s.vm.findClass rn_A = some m.cls := findClass_of_methodNamed BD9.named
  have hlocks := BD9.notSynchronized
  have hS : va_S (xA a) s.heap s.heap [] := va_S.rf
  have hD : va_D (xA a) (xw cI a w h Q ff hd bl rs hs ts rc hc tc) := x_D ha _ rfl
  have hP : va_P D vwCl (xw cI a w h Q ff hd bl rs hs ts rc hc tc) s.heap := hP
  have hl := lv_entry ([.ref (a 1), .int (nI (k))]) (n := 2) (Nat.le_of_ble_eq_true rfl)
  rw [lg_entry_eq]
  generalize (lg_sl ([.ref (a 1), .int (nI (k))]) ++ List.replicate (2 - (lg_sl ([.ref (a 1), .int (nI (k))])).length) Slot.unset).toArray = ls at hl ⊢
  have hl : lv_has ls 2 [(0, .ref (a 1)), (1, .int (nI (k)))] := hl
  obtain ⟨hn1, hn⟩ := hG.n
  refine lv_aload_n hx hb d_A_isThere_0 rfl (lv_at hl 0 rfl) ?_
  refine va_get (D := D) (ci := 1) (v := .ref (a 3)) (C := rn_A) (T := tf_A) (N := 2) hx hb hts in_A hown hK hP 1 rfl rfl 1 (by decide) (hts _ k_fieldLink_rn_A_15_rn_A_pieces_I) (fun _ h9 => h9) rfl d_A_isThere_1 ?_
  refine lv_iload_n hx hb d_A_isThere_4 rfl (lv_at hl 1 rfl) ?_
  refine rw_iald (v := (nI (Q (k)))) hx hb hK hP 3 0 rfl rfl (by omega) (by omega) (rfl) d_A_isThere_5 ?_
  refine rw_zeq (tgt := 13) hx hb d_A_isThere_6 (by decide) (Nat.lt_trans (hG.lt k) (by decide)) (fun c_6 => ?_) (fun c_6 => ?_)
  · refine lv_iconst (v := (nI (0))) hx hb d_A_isThere_13 (by decide) ?_
    exact w_zret (v := false) () hx hb hr hlocks hS hP (congrArg rt_b (by simp [c_6])) d_A_isThere_14
  · refine lv_iconst (v := (nI (1))) hx hb d_A_isThere_9 (by decide) ?_
    refine lv_goto (tgt := 14) hx hb d_A_isThere_10 (by decide) ?_
    exact w_zret (v := true) () hx hb hr hlocks hS hP (congrArg rt_b (by simp [c_6])) d_A_isThere_14

set_option maxHeartbeats 4000000 in
set_option maxRecDepth 100000 in
theorem c_A_signalOf (l : Launch) (D : va_G) (cI cZ : ClassId) (g a : Nat → Nat) (ha : xI a) (w h : Nat) (Q : Nat → Nat) (ff : Nat → Int32) (hd bl : Int32) (rs : Nat → Int32) (hs ts : Int32) (rc : Nat → Int32) (hc tc : Int32) (k : Nat) (hG : rt_G w h Q) (hk : k < 6 * (w * h)) : Met l y_A_signalOf (.code y_A_signalOf b_A_signalOf 2 (some .int) :: tG) ({ frames := 0, cells := 0, slots := 0, locals := 0 }) (va_Pc [.ref (a 1), .int (nI (k))] (wU D cI cZ g (xA a) (xw cI a w h Q ff hd bl rs hs ts rc hc tc))) (va_Qi (S := Unit) (fun r _ => r = nI (rt_g Q k)) (wB D (fun (u : Unit) => (xw cI a w h Q ff hd bl rs hs ts rc hc tc))) (xA a)) 0 0 (xA a) := by
  refine Met.ofW (cc := b_A_signalOf) (maxL := 2) (ret := (some .int)) (by decide) rfl ?_
  intro p e s m args below meth c s₁ BD9 hml hv
  obtain ⟨rfl, hP, hK, hZ⟩ := hv
  have hx := BD9.exec
  have hb := BD9.bytes
  have hr := BD9.returns
  have hts : ∀ w ∈ tG, w.before _ s = true := fun w hw => atoms_spec (ws := .code y_A_signalOf b_A_signalOf 2 (some .int) :: tG) BD9.pre w (List.mem_cons_of_mem _ hw)
  have hown : s.vm.findClass rn_A = some m.cls := findClass_of_methodNamed BD9.named
  have hlocks := BD9.notSynchronized
  have hS : va_S (xA a) s.heap s.heap [] := va_S.rf
  have hD : va_D (xA a) (xw cI a w h Q ff hd bl rs hs ts rc hc tc) := x_D ha _ rfl
  have hP : va_P D vwCl (xw cI a w h Q ff hd bl rs hs ts rc hc tc) s.heap := hP
  have hl := lv_entry ([.ref (a 1), .int (nI (k))]) (n := 2) (Nat.le_of_ble_eq_true rfl)
  rw [lg_entry_eq]
  generalize (lg_sl ([.ref (a 1), .int (nI (k))]) ++ List.replicate (2 - (lg_sl ([.ref (a 1), .int (nI (k))])).length) Slot.unset).toArray = ls at hl ⊢
  have hl : lv_has ls 2 [(0, .ref (a 1)), (1, .int (nI (k)))] := hl
  obtain ⟨hn1, hn⟩ := hG.n
  refine lv_aload_n hx hb d_A_signalOf_0 rfl (lv_at hl 0 rfl) ?_
  refine va_get (D := D) (ci := 1) (v := .ref (a 3)) (C := rn_A) (T := tf_A) (N := 2) hx hb hts in_A hown hK hP 1 rfl rfl 1 (by decide) (hts _ k_fieldLink_rn_A_15_rn_A_pieces_I) (fun _ h9 => h9) rfl d_A_signalOf_1 ?_
  refine lv_iload_n hx hb d_A_signalOf_4 rfl (lv_at hl 1 rfl) ?_
  refine rw_iald (v := (nI (Q (k)))) hx hb hK hP 3 0 rfl rfl (by omega) (by omega) (rfl) d_A_signalOf_5 ?_
  refine lv_bipush (v := (nI (28))) hx hb d_A_signalOf_6 (by decide) ?_
  refine rw_and hx hb d_A_signalOf_8 ?_
  refine lv_iconst (v := (nI (2))) hx hb d_A_signalOf_9 (by decide) ?_
  refine rw_shr hx hb d_A_signalOf_10 (by first | decide | exact Nat.lt_of_le_of_lt Nat.and_le_left (Nat.lt_trans (hG.lt k) (by decide))) (by first | decide | exact Nat.lt_of_le_of_lt Nat.and_le_left (Nat.lt_trans (hG.lt k) (by decide))) ?_
  refine rw_top (b := rt_g Q k) ((rt_and1 (Q k) (hG.lt k)).1) ?_
  exact w_iret () hx hb hr hlocks hS hP (rfl) d_A_signalOf_11

set_option maxHeartbeats 4000000 in
set_option maxRecDepth 100000 in
theorem c_A_stationOf (l : Launch) (D : va_G) (cI cZ : ClassId) (g a : Nat → Nat) (ha : xI a) (w h : Nat) (Q : Nat → Nat) (ff : Nat → Int32) (hd bl : Int32) (rs : Nat → Int32) (hs ts : Int32) (rc : Nat → Int32) (hc tc : Int32) (k : Nat) (hG : rt_G w h Q) (hk : k < 6 * (w * h)) : Met l y_A_stationOf (.code y_A_stationOf b_A_stationOf 2 (some .int) :: tG) ({ frames := 0, cells := 0, slots := 0, locals := 0 }) (va_Pc [.ref (a 1), .int (nI (k))] (wU D cI cZ g (xA a) (xw cI a w h Q ff hd bl rs hs ts rc hc tc))) (va_Qi (S := Unit) (fun r _ => r = nI (rt_s Q k) - 1) (wB D (fun (u : Unit) => (xw cI a w h Q ff hd bl rs hs ts rc hc tc))) (xA a)) 0 0 (xA a) := by
  refine Met.ofW (cc := b_A_stationOf) (maxL := 2) (ret := (some .int)) (by decide) rfl ?_
  intro p e s m args below meth c s₁ BD9 hml hv
  obtain ⟨rfl, hP, hK, hZ⟩ := hv
  have hx := BD9.exec
  have hb := BD9.bytes
  have hr := BD9.returns
  have hts : ∀ w ∈ tG, w.before _ s = true := fun w hw => atoms_spec (ws := .code y_A_stationOf b_A_stationOf 2 (some .int) :: tG) BD9.pre w (List.mem_cons_of_mem _ hw)
  have hown : s.vm.findClass rn_A = some m.cls := findClass_of_methodNamed BD9.named
  have hlocks := BD9.notSynchronized
  have hS : va_S (xA a) s.heap s.heap [] := va_S.rf
  have hD : va_D (xA a) (xw cI a w h Q ff hd bl rs hs ts rc hc tc) := x_D ha _ rfl
  have hP : va_P D vwCl (xw cI a w h Q ff hd bl rs hs ts rc hc tc) s.heap := hP
  have hl := lv_entry ([.ref (a 1), .int (nI (k))]) (n := 2) (Nat.le_of_ble_eq_true rfl)
  rw [lg_entry_eq]
  generalize (lg_sl ([.ref (a 1), .int (nI (k))]) ++ List.replicate (2 - (lg_sl ([.ref (a 1), .int (nI (k))])).length) Slot.unset).toArray = ls at hl ⊢
  have hl : lv_has ls 2 [(0, .ref (a 1)), (1, .int (nI (k)))] := hl
  obtain ⟨hn1, hn⟩ := hG.n
  refine lv_aload_n hx hb d_A_stationOf_0 rfl (lv_at hl 0 rfl) ?_
  refine va_get (D := D) (ci := 1) (v := .ref (a 3)) (C := rn_A) (T := tf_A) (N := 2) hx hb hts in_A hown hK hP 1 rfl rfl 1 (by decide) (hts _ k_fieldLink_rn_A_15_rn_A_pieces_I) (fun _ h9 => h9) rfl d_A_stationOf_1 ?_
  refine lv_iload_n hx hb d_A_stationOf_4 rfl (lv_at hl 1 rfl) ?_
  refine rw_iald (v := (nI (Q (k)))) hx hb hK hP 3 0 rfl rfl (by omega) (by omega) (rfl) d_A_stationOf_5 ?_
  refine lv_sipush (v := (nI (480))) hx hb d_A_stationOf_6 (by decide) ?_
  refine rw_and hx hb d_A_stationOf_9 ?_
  refine lv_iconst (v := (nI (5))) hx hb d_A_stationOf_10 (by decide) ?_
  refine rw_shr hx hb d_A_stationOf_11 (by first | decide | exact Nat.lt_of_le_of_lt Nat.and_le_left (Nat.lt_trans (hG.lt k) (by decide))) (by first | decide | exact Nat.lt_of_le_of_lt Nat.and_le_left (Nat.lt_trans (hG.lt k) (by decide))) ?_
  refine rw_top (b := rt_s Q k) ((rt_and1 (Q k) (hG.lt k)).2.trans (Nat.mod_eq_of_lt (by have := hG.lt k; omega))) ?_
  refine lv_iconst (v := (nI (1))) hx hb d_A_stationOf_12 (by decide) ?_
  refine lv_isub hx hb d_A_stationOf_13 ?_
  exact w_iret () hx hb hr hlocks hS hP (rfl) d_A_stationOf_14

set_option maxHeartbeats 4000000 in
set_option maxRecDepth 100000 in
theorem c_A_hasTile (l : Launch) (D : va_G) (cI cZ : ClassId) (g a : Nat → Nat) (ha : xI a) (w h : Nat) (Q : Nat → Nat) (ff : Nat → Int32) (hd bl : Int32) (rs : Nat → Int32) (hs ts : Int32) (rc : Nat → Int32) (hc tc : Int32) (x : Int32) (hG : rt_G w h Q) : Met l y_A_hasTile (.code y_A_hasTile b_A_hasTile 2 (some .boolean) :: tG) ({ frames := 0, cells := 0, slots := 0, locals := 0 }) (va_Pc [.ref (a 1), .int (x)] (wU D cI cZ g (xA a) (xw cI a w h Q ff hd bl rs hs ts rc hc tc))) (va_Qi (S := Unit) (fun r _ => r = rt_b (rt_ix x (w * h)).isSome) (wB D (fun (u : Unit) => (xw cI a w h Q ff hd bl rs hs ts rc hc tc))) (xA a)) 0 0 (xA a) := by
  refine Met.ofW (cc := b_A_hasTile) (maxL := 2) (ret := (some .boolean)) (by decide) rfl ?_
  intro p e s m args below meth c s₁ BD9 hml hv
  obtain ⟨rfl, hP, hK, hZ⟩ := hv
  have hx := BD9.exec
  have hb := BD9.bytes
  have hr := BD9.returns
  have hts : ∀ w ∈ tG, w.before _ s = true := fun w hw => atoms_spec (ws := .code y_A_hasTile b_A_hasTile 2 (some .boolean) :: tG) BD9.pre w (List.mem_cons_of_mem _ hw)
  have hown : s.vm.findClass rn_A = some m.cls := findClass_of_methodNamed BD9.named
  have hlocks := BD9.notSynchronized
  have hS : va_S (xA a) s.heap s.heap [] := va_S.rf
  have hD : va_D (xA a) (xw cI a w h Q ff hd bl rs hs ts rc hc tc) := x_D ha _ rfl
  have hP : va_P D vwCl (xw cI a w h Q ff hd bl rs hs ts rc hc tc) s.heap := hP
  have hl := lv_entry ([.ref (a 1), .int (x)]) (n := 2) (Nat.le_of_ble_eq_true rfl)
  rw [lg_entry_eq]
  generalize (lg_sl ([.ref (a 1), .int (x)]) ++ List.replicate (2 - (lg_sl ([.ref (a 1), .int (x)])).length) Slot.unset).toArray = ls at hl ⊢
  have hl : lv_has ls 2 [(0, .ref (a 1)), (1, .int (x))] := hl
  obtain ⟨hn1, hn⟩ := hG.n
  refine lv_iload_n hx hb d_A_hasTile_0 rfl (lv_at hl 1 rfl) ?_
  refine lv_if_lt (tgt := 20) hx hb d_A_hasTile_1 (by decide) (fun c_1 => ?_) (fun c_1 => ?_)
  · refine lv_iconst (v := (nI (0))) hx hb d_A_hasTile_20 (by decide) ?_
    exact w_zret (v := false) () hx hb hr hlocks hS hP (by first | exact rt_ix_f (Or.inl c_1) | exact rt_ix_f (Or.inr c_13)) d_A_hasTile_21
  · refine lv_iload_n hx hb d_A_hasTile_4 rfl (lv_at hl 1 rfl) ?_
    refine lv_aload_n hx hb d_A_hasTile_5 rfl (lv_at hl 0 rfl) ?_
    refine va_get (D := D) (ci := 1) (v := .ref (a 3)) (C := rn_A) (T := tf_A) (N := 2) hx hb hts in_A hown hK hP 1 rfl rfl 1 (by decide) (hts _ k_fieldLink_rn_A_15_rn_A_pieces_I) (fun _ h9 => h9) rfl d_A_hasTile_6 ?_
    refine va_alen (v := nI (6 * (w * h))) hx hb hK hP 3 0 rfl rfl rfl d_A_hasTile_9 ?_
    refine lv_bipush (v := (nI (6))) hx hb d_A_hasTile_10 (by decide) ?_
    refine rw_div hx hb d_A_hasTile_12 (by omega) (by omega) (by omega) ?_
    refine rw_top (b := w * h) (by omega) ?_
    refine lv_icmp_ge (tgt := 20) hx hb d_A_hasTile_13 (by decide) (fun c_13 => ?_) (fun c_13 => ?_)
    · refine lv_iconst (v := (nI (0))) hx hb d_A_hasTile_20 (by decide) ?_
      exact w_zret (v := false) () hx hb hr hlocks hS hP (by first | exact rt_ix_f (Or.inl c_1) | exact rt_ix_f (Or.inr c_13)) d_A_hasTile_21
    · refine lv_iconst (v := (nI (1))) hx hb d_A_hasTile_16 (by decide) ?_
      refine lv_goto (tgt := 21) hx hb d_A_hasTile_17 (by decide) ?_
      exact w_zret (v := true) () hx hb hr hlocks hS hP (rt_ix_t c_1 c_13) d_A_hasTile_21

set_option maxHeartbeats 4000000 in
set_option maxRecDepth 100000 in
theorem c_A_takeAway (l : Launch) (D : va_G) (cI cZ : ClassId) (g a : Nat → Nat) (ha : xI a) (w h : Nat) (Q : Nat → Nat) (ff : Nat → Int32) (hd bl : Int32) (rs : Nat → Int32) (hs ts : Int32) (rc : Nat → Int32) (hc tc : Int32) (k : Nat) (hG : rt_G w h Q) (hk : k < 6 * (w * h)) : Met l y_A_takeAway (.code y_A_takeAway b_A_takeAway 2 none :: tG) ({ frames := 0, cells := 0, slots := 0, locals := 0 }) (va_Pc [.ref (a 1), .int (nI (k))] (wU D cI cZ g (xA a) (xw cI a w h Q ff hd bl rs hs ts rc hc tc))) (va_Qv (S := Unit) (fun _ => True) (wB D (fun (u : Unit) => (xw cI a w h (va_up Q k 0) ff hd bl rs hs ts rc hc tc))) (xA a)) 0 0 (xA a) := by
  refine Met.ofW (cc := b_A_takeAway) (maxL := 2) (ret := none) (by decide) rfl ?_
  intro p e s m args below meth c s₁ BD9 hml hv
  obtain ⟨rfl, hP, hK, hZ⟩ := hv
  have hx := BD9.exec
  have hb := BD9.bytes
  have hr := BD9.returns
  have hts : ∀ w ∈ tG, w.before _ s = true := fun w hw => atoms_spec (ws := .code y_A_takeAway b_A_takeAway 2 none :: tG) BD9.pre w (List.mem_cons_of_mem _ hw)
  have hown : s.vm.findClass rn_A = some m.cls := findClass_of_methodNamed BD9.named
  have hlocks := BD9.notSynchronized
  have hS : va_S (xA a) s.heap s.heap [] := va_S.rf
  have hD : va_D (xA a) (xw cI a w h Q ff hd bl rs hs ts rc hc tc) := x_D ha _ rfl
  have hP : va_P D vwCl (xw cI a w h Q ff hd bl rs hs ts rc hc tc) s.heap := hP
  have hl := lv_entry ([.ref (a 1), .int (nI (k))]) (n := 2) (Nat.le_of_ble_eq_true rfl)
  rw [lg_entry_eq]
  generalize (lg_sl ([.ref (a 1), .int (nI (k))]) ++ List.replicate (2 - (lg_sl ([.ref (a 1), .int (nI (k))])).length) Slot.unset).toArray = ls at hl ⊢
  have hl : lv_has ls 2 [(0, .ref (a 1)), (1, .int (nI (k)))] := hl
  obtain ⟨hn1, hn⟩ := hG.n
  refine lv_aload_n hx hb d_A_takeAway_0 rfl (lv_at hl 0 rfl) ?_
  refine va_get (D := D) (ci := 1) (v := .ref (a 3)) (C := rn_A) (T := tf_A) (N := 2) hx hb hts in_A hown hK hP 1 rfl rfl 1 (by decide) (hts _ k_fieldLink_rn_A_15_rn_A_pieces_I) (fun _ h9 => h9) rfl d_A_takeAway_1 ?_
  refine lv_iload_n hx hb d_A_takeAway_4 rfl (lv_at hl 1 rfl) ?_
  refine lv_iconst (v := (nI (0))) hx hb d_A_takeAway_5 (by decide) ?_
  refine rw_iast (h := (fun p => nI (va_up Q k 0 p))) hx hb hK hP hD hS 3 0 rfl rfl (by omega) (by omega) (fun j _ => rt_upd Q k 0 j) d_A_takeAway_6 (fun H locs hP hD hS => ?_)
  have hP : va_P D vwCl (xw cI a w h (va_up Q k 0) ff hd bl rs hs ts rc hc tc) H := hP
  have hD : va_D (xA a) (xw cI a w h (va_up Q k 0) ff hd bl rs hs ts rc hc tc) := x_D ha _ rfl
  exact w_vret () hx hb hr hlocks hS hP (trivial) d_A_takeAway_7

set_option maxHeartbeats 4000000 in
set_option maxRecDepth 100000 in
theorem c_A_put (l : Launch) (D : va_G) (cI cZ : ClassId) (g a : Nat → Nat) (ha : xI a) (w h : Nat) (Q : Nat → Nat) (ff : Nat → Int32) (hd bl : Int32) (rs : Nat → Int32) (hs ts : Int32) (rc : Nat → Int32) (hc tc : Int32) (k q z : Nat) (v : Int32) (hG : rt_G w h Q) (hk : k < 6 * (w * h)) (hq : q ≤ 4) (hz : z ≤ 8) (hv0 : v + 1 = nI z) : Met l y_A_put (.code y_A_put b_A_put 4 none :: tG) ({ frames := 0, cells := 0, slots := 0, locals := 0 }) (va_Pc [.ref (a 1), .int (nI (k)), .int (nI (q)), .int (v)] (wU D cI cZ g (xA a) (xw cI a w h Q ff hd bl rs hs ts rc hc tc))) (va_Qv (S := Unit) (fun _ => True) (wB D (fun (u : Unit) => (xw cI a w h (va_up Q k (1 + 4 * q + 32 * z)) ff hd bl rs hs ts rc hc tc))) (xA a)) 0 0 (xA a) := by
  refine Met.ofW (cc := b_A_put) (maxL := 4) (ret := none) (by decide) rfl ?_
  intro p e s m args below meth c s₁ BD9 hml hv
  obtain ⟨rfl, hP, hK, hZ⟩ := hv
  have hx := BD9.exec
  have hb := BD9.bytes
  have hr := BD9.returns
  have hts : ∀ w ∈ tG, w.before _ s = true := fun w hw => atoms_spec (ws := .code y_A_put b_A_put 4 none :: tG) BD9.pre w (List.mem_cons_of_mem _ hw)
  have hown : s.vm.findClass rn_A = some m.cls := findClass_of_methodNamed BD9.named
  have hlocks := BD9.notSynchronized
  have hS : va_S (xA a) s.heap s.heap [] := va_S.rf
  have hD : va_D (xA a) (xw cI a w h Q ff hd bl rs hs ts rc hc tc) := x_D ha _ rfl
  have hP : va_P D vwCl (xw cI a w h Q ff hd bl rs hs ts rc hc tc) s.heap := hP
  have hl := lv_entry ([.ref (a 1), .int (nI (k)), .int (nI (q)), .int (v)]) (n := 4) (Nat.le_of_ble_eq_true rfl)
  rw [lg_entry_eq]
  generalize (lg_sl ([.ref (a 1), .int (nI (k)), .int (nI (q)), .int (v)]) ++ List.replicate (4 - (lg_sl ([.ref (a 1), .int (nI (k)), .int (nI (q)), .int (v)])).length) Slot.unset).toArray = ls at hl ⊢
  have hl : lv_has ls 4 [(0, .ref (a 1)), (1, .int (nI (k))), (2, .int (nI (q))), (3, .int (v))] := hl
  obtain ⟨hn1, hn⟩ := hG.n
  refine lv_aload_n hx hb d_A_put_0 rfl (lv_at hl 0 rfl) ?_
  refine va_get (D := D) (ci := 1) (v := .ref (a 3)) (C := rn_A) (T := tf_A) (N := 2) hx hb hts in_A hown hK hP 1 rfl rfl 1 (by decide) (hts _ k_fieldLink_rn_A_15_rn_A_pieces_I) (fun _ h9 => h9) rfl d_A_put_1 ?_
  refine lv_iload_n hx hb d_A_put_4 rfl (lv_at hl 1 rfl) ?_
  refine lv_iconst (v := (nI (1))) hx hb d_A_put_5 (by decide) ?_
  refine lv_iload_n hx hb d_A_put_6 rfl (lv_at hl 2 rfl) ?_
  refine lv_iconst (v := (nI (2))) hx hb d_A_put_7 (by decide) ?_
  refine rw_shl hx hb d_A_put_8 (by omega) (by omega) ?_
  refine rw_add hx hb d_A_put_9 ?_
  refine lv_iload_n hx hb d_A_put_10 rfl (lv_at hl 3 rfl) ?_
  refine lv_iconst (v := (nI (1))) hx hb d_A_put_11 (by decide) ?_
  refine lv_iadd hx hb d_A_put_12 ?_
  refine rw_topI (b := (nI (z))) (hv0) ?_
  refine lv_iconst (v := (nI (5))) hx hb d_A_put_13 (by decide) ?_
  refine rw_shl hx hb d_A_put_14 (by omega) (by omega) ?_
  refine rw_add hx hb d_A_put_15 ?_
  refine rw_top (b := 1 + 4 * q + 32 * z) (by omega) ?_
  refine rw_iast (h := (fun p => nI (va_up Q k (1 + 4 * q + 32 * z) p))) hx hb hK hP hD hS 3 0 rfl rfl (by omega) (by omega) (fun j _ => rt_upd Q k _ j) d_A_put_16 (fun H locs hP hD hS => ?_)
  have hP : va_P D vwCl (xw cI a w h (va_up Q k (1 + 4 * q + 32 * z)) ff hd bl rs hs ts rc hc tc) H := hP
  have hD : va_D (xA a) (xw cI a w h (va_up Q k (1 + 4 * q + 32 * z)) ff hd bl rs hs ts rc hc tc) := x_D ha _ rfl
  exact w_vret () hx hb hr hlocks hS hP (trivial) d_A_put_17

set_option maxHeartbeats 4000000 in
set_option maxRecDepth 100000 in
theorem c_A_hasSignal (l : Launch) (D : va_G) (cI cZ : ClassId) (g a : Nat → Nat) (ha : xI a) (w h : Nat) (Q : Nat → Nat) (ff : Nat → Int32) (hd bl : Int32) (rs : Nat → Int32) (hs ts : Int32) (rc : Nat → Int32) (hc tc : Int32) (r : Nat) (hG : rt_G w h Q) (hr0 : r < 12 * (w * h)) : Met l y_A_hasSignal (.code y_A_hasSignal b_A_hasSignal 3 (some .boolean) :: tG) ({ frames := 1, cells := 0, slots := 0, locals := 21 }) (va_Pc [.ref (a 1), .int (nI (r))] (wU D cI cZ g (xA a) (xw cI a w h Q ff hd bl rs hs ts rc hc tc))) (va_Qi (S := Unit) (fun x _ => x = rt_b (rt_hs Q r)) (wB D (fun (u : Unit) => (xw cI a w h Q ff hd bl rs hs ts rc hc tc))) (xA a)) 0 0 (xA a) := by
  refine Met.ofW (cc := b_A_hasSignal) (maxL := 3) (ret := (some .boolean)) (by decide) rfl ?_
  intro p e s m args below meth c s₁ BD9 hml hv
  obtain ⟨rfl, hP, hK, hZ⟩ := hv
  have hx := BD9.exec
  have hb := BD9.bytes
  have hr := BD9.returns
  have hts : ∀ w ∈ tG, w.before _ s = true := fun w hw => atoms_spec (ws := .code y_A_hasSignal b_A_hasSignal 3 (some .boolean) :: tG) BD9.pre w (List.mem_cons_of_mem _ hw)
  have hown : s.vm.findClass rn_A = some m.cls := findClass_of_methodNamed BD9.named
  have hlocks := BD9.notSynchronized
  have hS : va_S (xA a) s.heap s.heap [] := va_S.rf
  have hD : va_D (xA a) (xw cI a w h Q ff hd bl rs hs ts rc hc tc) := x_D ha _ rfl
  have hP : va_P D vwCl (xw cI a w h Q ff hd bl rs hs ts rc hc tc) s.heap := hP
  have hl := lv_entry ([.ref (a 1), .int (nI (r))]) (n := 3) (Nat.le_of_ble_eq_true rfl)
  rw [lg_entry_eq]
  generalize (lg_sl ([.ref (a 1), .int (nI (r))]) ++ List.replicate (3 - (lg_sl ([.ref (a 1), .int (nI (r))])).length) Slot.unset).toArray = ls at hl ⊢
  have hl : lv_has ls 3 [(0, .ref (a 1)), (1, .int (nI (r)))] := hl
  obtain ⟨hn1, hn⟩ := hG.n
  refine lv_aload_n hx hb d_A_hasSignal_0 rfl (lv_at hl 0 rfl) ?_
  refine lv_iload_n hx hb d_A_hasSignal_1 rfl (lv_at hl 1 rfl) ?_
  refine lv_iconst (v := (nI (2))) hx hb d_A_hasSignal_2 (by decide) ?_
  refine rw_div hx hb d_A_hasSignal_3 (by omega) (by omega) (by omega) ?_
  refine w_ci (As := [.int (nI (r / 2))]) (rest := []) ⟨hx, hb, hml, hown, hts⟩ (c_A_signalOf l D cI cZ g a ha w h Q ff hd bl rs hs ts rc hc tc (r / 2) hG (by omega)) (cwV 1 hts (t_gV k_methodLink_rn_A_22_y_A_signalOf k_instanceMethod_y_A_signalOf k_selects_rn_A_y_A_signalOf_y_A_signalOf k_initialized_rn_A k_code_y_A_signalOf_prog_3_method_6_code_2_some_int) rfl rfl rfl (by decide +kernel) ⟨Nat.le_of_ble_eq_true rfl, Nat.le_of_ble_eq_true rfl⟩) (va_recv hK hP (ci := 1) (q0 := 1) rfl rfl) hP hK hZ hS rfl hl.1 rfl (Nat.le_of_ble_eq_true rfl) d_A_hasSignal_4 ⟨Nat.zero_le _, Nat.zero_le _⟩ (fun r_4 u_4 H locs hw hP hS => ?_)
  subst hw
  have hP : va_P D vwCl (xw cI a w h Q ff hd bl rs hs ts rc hc tc) H := hP
  have hg4 := rt_ok_g hG.2.2 (r / 2)
  refine lv_istore_n (lv' := [(2, .int (nI (rt_g Q (r / 2)))), (0, .ref (a 1)), (1, .int (nI (r)))]) hx hb d_A_hasSignal_7 rfl hl (by decide) rfl (fun ls hl => ?_)
  refine lv_iload_n hx hb d_A_hasSignal_8 rfl (lv_at hl 0 rfl) ?_
  refine rw_zeq (tgt := 27) hx hb d_A_hasSignal_9 (by decide) (by omega) (fun c_9 => ?_) (fun c_9 => ?_)
  · refine lv_iconst (v := (nI (0))) hx hb d_A_hasSignal_27 (by decide) ?_
    exact w_zret (v := false) () hx hb hr hlocks hS hP (congrArg rt_b (by unfold rt_hs; first | (simp [c_9, c_20]; done) | (simp [c_9]; done))) d_A_hasSignal_28
  · refine lv_iload_n hx hb d_A_hasSignal_12 rfl (lv_at hl 0 rfl) ?_
    refine lv_iconst (v := (nI (1))) hx hb d_A_hasSignal_13 (by decide) ?_
    refine rw_sub hx hb d_A_hasSignal_14 (by omega) ?_
    refine lv_iconst (v := (nI (1))) hx hb d_A_hasSignal_15 (by decide) ?_
    refine rw_and hx hb d_A_hasSignal_16 ?_
    refine rw_top (b := (rt_g Q (r / 2) - 1) % 2) (Nat.and_one_is_mod _) ?_
    refine lv_iload_n hx hb d_A_hasSignal_17 rfl (lv_at hl 2 rfl) ?_
    refine lv_iconst (v := (nI (1))) hx hb d_A_hasSignal_18 (by decide) ?_
    refine rw_and hx hb d_A_hasSignal_19 ?_
    refine rw_top (b := r % 2) (Nat.and_one_is_mod _) ?_
    refine rw_cne (tgt := 27) hx hb d_A_hasSignal_20 (by decide) (by omega) (by omega) (fun c_20 => ?_) (fun c_20 => ?_)
    · refine lv_iconst (v := (nI (0))) hx hb d_A_hasSignal_27 (by decide) ?_
      exact w_zret (v := false) () hx hb hr hlocks hS hP (congrArg rt_b (by unfold rt_hs; first | (simp [c_9, c_20]; done) | (simp [c_9]; done))) d_A_hasSignal_28
    · refine lv_iconst (v := (nI (1))) hx hb d_A_hasSignal_23 (by decide) ?_
      refine lv_goto (tgt := 28) hx hb d_A_hasSignal_24 (by decide) ?_
      exact w_zret (v := true) () hx hb hr hlocks hS hP (congrArg rt_b (by unfold rt_hs; simp [c_9, c_20])) d_A_hasSignal_28

set_option maxHeartbeats 4000000 in
set_option maxRecDepth 100000 in
theorem c_A_isOpen (l : Launch) (D : va_G) (cI cZ : ClassId) (g a : Nat → Nat) (ha : xI a) (w h : Nat) (Q : Nat → Nat) (ff : Nat → Int32) (hd bl : Int32) (rs : Nat → Int32) (hs ts : Int32) (rc : Nat → Int32) (hc tc : Int32) (x : Int32) (hG : rt_G w h Q) : Met l y_A_isOpen (.code y_A_isOpen b_A_isOpen 2 (some .boolean) :: tG) ({ frames := 2, cells := 0, slots := 0, locals := 43 }) (va_Pc [.ref (a 1), .int (x)] (wU D cI cZ g (xA a) (xw cI a w h Q ff hd bl rs hs ts rc hc tc))) (va_Qi (S := Unit) (fun r _ => r = rt_b (rt_opx Q (w * h) x)) (wB D (fun (u : Unit) => (xw cI a w h Q ff hd bl rs hs ts rc hc tc))) (xA a)) 0 0 (xA a) := by
  refine Met.ofW (cc := b_A_isOpen) (maxL := 2) (ret := (some .boolean)) (by decide) rfl ?_
  intro p e s m args below meth c s₁ BD9 hml hv
  obtain ⟨rfl, hP, hK, hZ⟩ := hv
  have hx := BD9.exec
  have hb := BD9.bytes
  have hr := BD9.returns
  have hts : ∀ w ∈ tG, w.before _ s = true := fun w hw => atoms_spec (ws := .code y_A_isOpen b_A_isOpen 2 (some .boolean) :: tG) BD9.pre w (List.mem_cons_of_mem _ hw)
  have hown : s.vm.findClass rn_A = some m.cls := findClass_of_methodNamed BD9.named
  have hlocks := BD9.notSynchronized
  have hS : va_S (xA a) s.heap s.heap [] := va_S.rf
  have hD : va_D (xA a) (xw cI a w h Q ff hd bl rs hs ts rc hc tc) := x_D ha _ rfl
  have hP : va_P D vwCl (xw cI a w h Q ff hd bl rs hs ts rc hc tc) s.heap := hP
  have hl := lv_entry ([.ref (a 1), .int (x)]) (n := 2) (Nat.le_of_ble_eq_true rfl)
  rw [lg_entry_eq]
  generalize (lg_sl ([.ref (a 1), .int (x)]) ++ List.replicate (2 - (lg_sl ([.ref (a 1), .int (x)])).length) Slot.unset).toArray = ls at hl ⊢
  have hl : lv_has ls 2 [(0, .ref (a 1)), (1, .int (x))] := hl
  obtain ⟨hn1, hn⟩ := hG.n
  refine lv_iload_n hx hb d_A_isOpen_0 rfl (lv_at hl 1 rfl) ?_
  refine lv_if_lt (tgt := 39) hx hb d_A_isOpen_1 (by decide) (fun c_1 => ?_) (fun c_1 => ?_)
  · refine lv_iconst (v := (nI (0))) hx hb d_A_isOpen_39 (by decide) ?_
    exact w_zret (v := false) () hx hb hr hlocks hS hP (congrArg rt_b (by first | exact (rt_opx_n (Or.inl c_1)).symm | exact (rt_opx_n (Or.inr c_12)).symm | (rw [rt_opx_s (by omega) hr0]; unfold rt_op; simp_all))) d_A_isOpen_40
  · refine lv_iload_n hx hb d_A_isOpen_4 rfl (lv_at hl 1 rfl) ?_
    refine lv_iconst (v := (nI (2))) hx hb d_A_isOpen_5 (by decide) ?_
    refine lv_aload_n hx hb d_A_isOpen_6 rfl (lv_at hl 0 rfl) ?_
    refine va_get (D := D) (ci := 1) (v := .ref (a 3)) (C := rn_A) (T := tf_A) (N := 2) hx hb hts in_A hown hK hP 1 rfl rfl 1 (by decide) (hts _ k_fieldLink_rn_A_15_rn_A_pieces_I) (fun _ h9 => h9) rfl d_A_isOpen_7 ?_
    refine va_alen (v := nI (6 * (w * h))) hx hb hK hP 3 0 rfl rfl rfl d_A_isOpen_10 ?_
    refine rw_mul hx hb d_A_isOpen_11 ?_
    refine rw_top (b := 12 * (w * h)) (by omega) ?_
    refine lv_icmp_ge (tgt := 39) hx hb d_A_isOpen_12 (by decide) (fun c_12 => ?_) (fun c_12 => ?_)
    · refine lv_iconst (v := (nI (0))) hx hb d_A_isOpen_39 (by decide) ?_
      exact w_zret (v := false) () hx hb hr hlocks hS hP (congrArg rt_b (by first | exact (rt_opx_n (Or.inl c_1)).symm | exact (rt_opx_n (Or.inr c_12)).symm | (rw [rt_opx_s (by omega) hr0]; unfold rt_op; simp_all))) d_A_isOpen_40
    · obtain ⟨r, hr0, rfl⟩ : ∃ j : Nat, j < 12 * (w * h) ∧ x = nI j := by
        rcases pk_ix x (n := 12 * (w * h)) (by omega) with q | q | q
        · exact absurd q c_1
        · exact absurd q c_12
        · exact q
      refine lv_aload_n hx hb d_A_isOpen_15 rfl (lv_at hl 0 rfl) ?_
      refine lv_iload_n hx hb d_A_isOpen_16 rfl (lv_at hl 1 rfl) ?_
      refine lv_iconst (v := (nI (2))) hx hb d_A_isOpen_17 (by decide) ?_
      refine rw_div hx hb d_A_isOpen_18 (by omega) (by omega) (by omega) ?_
      refine w_ci (As := [.int (nI (r / 2))]) (rest := []) ⟨hx, hb, hml, hown, hts⟩ (c_A_isThere l D cI cZ g a ha w h Q ff hd bl rs hs ts rc hc tc (r / 2) hG (by omega)) (cwV 1 hts (t_gV k_methodLink_rn_A_18_y_A_isThere k_instanceMethod_y_A_isThere k_selects_rn_A_y_A_isThere_y_A_isThere k_initialized_rn_A k_code_y_A_isThere_prog_3_method_5_code_2_some_boolean) rfl rfl rfl (by decide +kernel) ⟨Nat.le_of_ble_eq_true rfl, Nat.le_of_ble_eq_true rfl⟩) (va_recv hK hP (ci := 1) (q0 := 1) rfl rfl) hP hK hZ hS rfl hl.1 rfl (Nat.le_of_ble_eq_true rfl) d_A_isOpen_19 ⟨Nat.zero_le _, Nat.zero_le _⟩ (fun r_19 u_19 H locs hw hP hS => ?_)
      subst hw
      have hP : va_P D vwCl (xw cI a w h Q ff hd bl rs hs ts rc hc tc) H := hP
      refine rw_beq (tgt := 39) hx hb d_A_isOpen_22 (by decide) (fun c_22 => ?_) (fun c_22 => ?_)
      · refine lv_iconst (v := (nI (0))) hx hb d_A_isOpen_39 (by decide) ?_
        exact w_zret (v := false) () hx hb hr hlocks hS hP (congrArg rt_b (by first | exact (rt_opx_n (Or.inl c_1)).symm | exact (rt_opx_n (Or.inr c_12)).symm | (rw [rt_opx_s (by omega) hr0]; unfold rt_op; simp_all))) d_A_isOpen_40
      · refine lv_aload_n hx hb d_A_isOpen_25 rfl (lv_at hl 0 rfl) ?_
        refine lv_iload_n hx hb d_A_isOpen_26 rfl (lv_at hl 1 rfl) ?_
        refine lv_iconst (v := (nI (1))) hx hb d_A_isOpen_27 (by decide) ?_
        refine rw_xor hx hb d_A_isOpen_28 ?_
        refine rw_top (b := rt_rv r) (rt_rv_xor r) ?_
        refine w_ci (As := [.int (nI (rt_rv r))]) (rest := []) ⟨hx, hb, hml, hown, hts⟩ (c_A_hasSignal l D cI cZ g a ha w h Q ff hd bl rs hs ts rc hc tc (rt_rv r) hG (rt_rv_lt hr0)) (cwV 1 hts (t_gV k_methodLink_rn_A_26_y_A_hasSignal k_instanceMethod_y_A_hasSignal k_selects_rn_A_y_A_hasSignal_y_A_hasSignal k_initialized_rn_A k_code_y_A_hasSignal_prog_3_method_10_code_3_some_boolean) rfl rfl rfl (by decide +kernel) ⟨Nat.le_of_ble_eq_true rfl, Nat.le_of_ble_eq_true rfl⟩) (va_recv hK hP (ci := 1) (q0 := 1) rfl rfl) hP hK hZ hS rfl hl.1 rfl (Nat.le_of_ble_eq_true rfl) d_A_isOpen_29 ⟨Nat.zero_le _, Nat.zero_le _⟩ (fun r_29 u_29 H locs hw hP hS => ?_)
        subst hw
        have hP : va_P D vwCl (xw cI a w h Q ff hd bl rs hs ts rc hc tc) H := hP
        refine rw_bne (tgt := 39) hx hb d_A_isOpen_32 (by decide) (fun c_32 => ?_) (fun c_32 => ?_)
        · refine lv_iconst (v := (nI (0))) hx hb d_A_isOpen_39 (by decide) ?_
          exact w_zret (v := false) () hx hb hr hlocks hS hP (congrArg rt_b (by first | exact (rt_opx_n (Or.inl c_1)).symm | exact (rt_opx_n (Or.inr c_12)).symm | (rw [rt_opx_s (by omega) hr0]; unfold rt_op; simp_all))) d_A_isOpen_40
        · refine lv_iconst (v := (nI (1))) hx hb d_A_isOpen_35 (by decide) ?_
          refine lv_goto (tgt := 40) hx hb d_A_isOpen_36 (by decide) ?_
          exact w_zret (v := true) () hx hb hr hlocks hS hP (congrArg rt_b (by first | exact (rt_opx_n (Or.inl c_1)).symm | exact (rt_opx_n (Or.inr c_12)).symm | (rw [rt_opx_s (by omega) hr0]; unfold rt_op; simp_all))) d_A_isOpen_40

set_option maxHeartbeats 4000000 in
set_option maxRecDepth 100000 in
theorem c_A_isStraight (l : Launch) (D : va_G) (cI cZ : ClassId) (g a : Nat → Nat) (ha : xI a) (w h : Nat) (Q : Nat → Nat) (ff : Nat → Int32) (hd bl : Int32) (rs : Nat → Int32) (hs ts : Int32) (rc : Nat → Int32) (hc tc : Int32) (r : Nat) (hG : rt_G w h Q) (hr0 : r < 12 * (w * h)) : Met l y_A_isStraight (.code y_A_isStraight b_A_isStraight 2 (some .boolean) :: tG) ({ frames := 0, cells := 0, slots := 0, locals := 0 }) (va_Pc [.ref (a 1), .int (nI (r))] (wU D cI cZ g (xA a) (xw cI a w h Q ff hd bl rs hs ts rc hc tc))) (va_Qi (S := Unit) (fun x _ => x = rt_b (rt_st r)) (wB D (fun (u : Unit) => (xw cI a w h Q ff hd bl rs hs ts rc hc tc))) (xA a)) 0 0 (xA a) := by
  refine Met.ofW (cc := b_A_isStraight) (maxL := 2) (ret := (some .boolean)) (by decide) rfl ?_
  intro p e s m args below meth c s₁ BD9 hml hv
  obtain ⟨rfl, hP, hK, hZ⟩ := hv
  have hx := BD9.exec
  have hb := BD9.bytes
  have hr := BD9.returns
  have hts : ∀ w ∈ tG, w.before _ s = true := fun w hw => atoms_spec (ws := .code y_A_isStraight b_A_isStraight 2 (some .boolean) :: tG) BD9.pre w (List.mem_cons_of_mem _ hw)
  have hown : s.vm.findClass rn_A = some m.cls := findClass_of_methodNamed BD9.named
  have hlocks := BD9.notSynchronized
  have hS : va_S (xA a) s.heap s.heap [] := va_S.rf
  have hD : va_D (xA a) (xw cI a w h Q ff hd bl rs hs ts rc hc tc) := x_D ha _ rfl
  have hP : va_P D vwCl (xw cI a w h Q ff hd bl rs hs ts rc hc tc) s.heap := hP
  have hl := lv_entry ([.ref (a 1), .int (nI (r))]) (n := 2) (Nat.le_of_ble_eq_true rfl)
  rw [lg_entry_eq]
  generalize (lg_sl ([.ref (a 1), .int (nI (r))]) ++ List.replicate (2 - (lg_sl ([.ref (a 1), .int (nI (r))])).length) Slot.unset).toArray = ls at hl ⊢
  have hl : lv_has ls 2 [(0, .ref (a 1)), (1, .int (nI (r)))] := hl
  obtain ⟨hn1, hn⟩ := hG.n
  refine lv_iload_n hx hb d_A_isStraight_0 rfl (lv_at hl 1 rfl) ?_
  refine lv_iconst (v := (nI (2))) hx hb d_A_isStraight_1 (by decide) ?_
  refine rw_div hx hb d_A_isStraight_2 (by omega) (by omega) (by omega) ?_
  refine lv_bipush (v := (nI (6))) hx hb d_A_isStraight_3 (by decide) ?_
  refine rw_rem hx hb d_A_isStraight_5 (by omega) (by omega) (by omega) ?_
  refine lv_iconst (v := (nI (2))) hx hb d_A_isStraight_6 (by decide) ?_
  refine rw_cge (tgt := 14) hx hb d_A_isStraight_7 (by decide) (by omega) (by omega) (fun c_7 => ?_) (fun c_7 => ?_)
  · refine lv_iconst (v := (nI (0))) hx hb d_A_isStraight_14 (by decide) ?_
    exact w_zret (v := false) () hx hb hr hlocks hS hP (congrArg rt_b (by unfold rt_st; simp; omega)) d_A_isStraight_15
  · refine lv_iconst (v := (nI (1))) hx hb d_A_isStraight_10 (by decide) ?_
    refine lv_goto (tgt := 15) hx hb d_A_isStraight_11 (by decide) ?_
    exact w_zret (v := true) () hx hb hr hlocks hS hP (congrArg rt_b (by unfold rt_st; simp; omega)) d_A_isStraight_15

set_option maxHeartbeats 4000000 in
set_option maxRecDepth 100000 in
theorem c_A_lengthOf (l : Launch) (D : va_G) (cI cZ : ClassId) (g a : Nat → Nat) (ha : xI a) (w h : Nat) (Q : Nat → Nat) (ff : Nat → Int32) (hd bl : Int32) (rs : Nat → Int32) (hs ts : Int32) (rc : Nat → Int32) (hc tc : Int32) (r : Nat) (hG : rt_G w h Q) (hr0 : r < 12 * (w * h)) : Met l y_A_lengthOf (.code y_A_lengthOf b_A_lengthOf 2 (some .int) :: tG) ({ frames := 1, cells := 0, slots := 0, locals := 21 }) (va_Pc [.ref (a 1), .int (nI (r))] (wU D cI cZ g (xA a) (xw cI a w h Q ff hd bl rs hs ts rc hc tc))) (va_Qi (S := Unit) (fun x _ => x = nI (rt_ln r)) (wB D (fun (u : Unit) => (xw cI a w h Q ff hd bl rs hs ts rc hc tc))) (xA a)) 0 0 (xA a) := by
  refine Met.ofW (cc := b_A_lengthOf) (maxL := 2) (ret := (some .int)) (by decide) rfl ?_
  intro p e s m args below meth c s₁ BD9 hml hv
  obtain ⟨rfl, hP, hK, hZ⟩ := hv
  have hx := BD9.exec
  have hb := BD9.bytes
  have hr := BD9.returns
  have hts : ∀ w ∈ tG, w.before _ s = true := fun w hw => atoms_spec (ws := .code y_A_lengthOf b_A_lengthOf 2 (some .int) :: tG) BD9.pre w (List.mem_cons_of_mem _ hw)
  have hown : s.vm.findClass rn_A = some m.cls := findClass_of_methodNamed BD9.named
  have hlocks := BD9.notSynchronized
  have hS : va_S (xA a) s.heap s.heap [] := va_S.rf
  have hD : va_D (xA a) (xw cI a w h Q ff hd bl rs hs ts rc hc tc) := x_D ha _ rfl
  have hP : va_P D vwCl (xw cI a w h Q ff hd bl rs hs ts rc hc tc) s.heap := hP
  have hl := lv_entry ([.ref (a 1), .int (nI (r))]) (n := 2) (Nat.le_of_ble_eq_true rfl)
  rw [lg_entry_eq]
  generalize (lg_sl ([.ref (a 1), .int (nI (r))]) ++ List.replicate (2 - (lg_sl ([.ref (a 1), .int (nI (r))])).length) Slot.unset).toArray = ls at hl ⊢
  have hl : lv_has ls 2 [(0, .ref (a 1)), (1, .int (nI (r)))] := hl
  obtain ⟨hn1, hn⟩ := hG.n
  refine lv_aload_n hx hb d_A_lengthOf_0 rfl (lv_at hl 0 rfl) ?_
  refine lv_iload_n hx hb d_A_lengthOf_1 rfl (lv_at hl 1 rfl) ?_
  refine w_ci (As := [.int (nI (r))]) (rest := []) ⟨hx, hb, hml, hown, hts⟩ (c_A_isStraight l D cI cZ g a ha w h Q ff hd bl rs hs ts rc hc tc r hG hr0) (cwV 1 hts (t_gV k_methodLink_rn_A_29_y_A_isStraight k_instanceMethod_y_A_isStraight k_selects_rn_A_y_A_isStraight_y_A_isStraight k_initialized_rn_A k_code_y_A_isStraight_prog_3_method_12_code_2_some_boolean) rfl rfl rfl (by decide +kernel) ⟨Nat.le_of_ble_eq_true rfl, Nat.le_of_ble_eq_true rfl⟩) (va_recv hK hP (ci := 1) (q0 := 1) rfl rfl) hP hK hZ hS rfl hl.1 rfl (Nat.le_of_ble_eq_true rfl) d_A_lengthOf_2 ⟨Nat.zero_le _, Nat.zero_le _⟩ (fun r_2 u_2 H locs hw hP hS => ?_)
  subst hw
  have hP : va_P D vwCl (xw cI a w h Q ff hd bl rs hs ts rc hc tc) H := hP
  refine rw_beq (tgt := 13) hx hb d_A_lengthOf_5 (by decide) (fun c_5 => ?_) (fun c_5 => ?_)
  · refine lv_bipush (v := (nI (12))) hx hb d_A_lengthOf_13 (by decide) ?_
    exact w_iret () hx hb hr hlocks hS hP (by first | (rw [rt_ln_st c_5]; done) | (rw [rt_ln_cv (by unfold rt_cv; rw [c_5]; rfl)]; done)) d_A_lengthOf_15
  · refine lv_bipush (v := (nI (16))) hx hb d_A_lengthOf_8 (by decide) ?_
    refine lv_goto (tgt := 15) hx hb d_A_lengthOf_10 (by decide) ?_
    exact w_iret () hx hb hr hlocks hS hP (by first | (rw [rt_ln_st c_5]; done) | (rw [rt_ln_cv (by unfold rt_cv; rw [c_5]; rfl)]; done)) d_A_lengthOf_15

set_option maxHeartbeats 4000000 in
set_option maxRecDepth 100000 in
theorem c_A_ahead (l : Launch) (D : va_G) (cI cZ : ClassId) (g a : Nat → Nat) (ha : xI a) (w h : Nat) (Q : Nat → Nat) (ff : Nat → Int32) (hd bl : Int32) (rs : Nat → Int32) (hs ts : Int32) (rc : Nat → Int32) (hc tc : Int32) (r i : Nat) (hG : rt_G w h Q) (hr0 : r < 12 * (w * h)) (hi : i < 3) : Met l y_A_ahead (.code y_A_ahead b_A_ahead 5 (some .int) :: tG) ({ frames := 0, cells := 0, slots := 0, locals := 0 }) (va_Pc [.ref (a 1), .int (nI (r)), .int (nI (i))] (wU D cI cZ g (xA a) (xw cI a w h Q ff hd bl rs hs ts rc hc tc))) (va_Qi (S := Unit) (fun x _ => x = rt_o (rt_ah w h r i)) (wB D (fun (u : Unit) => (xw cI a w h Q ff hd bl rs hs ts rc hc tc))) (xA a)) 0 0 (xA a) := by
  refine Met.ofW (cc := b_A_ahead) (maxL := 5) (ret := (some .int)) (by decide) rfl ?_
  intro p e s m args below meth c s₁ BD9 hml hv
  obtain ⟨rfl, hP, hK, hZ⟩ := hv
  have hx := BD9.exec
  have hb := BD9.bytes
  have hr := BD9.returns
  have hts : ∀ w ∈ tG, w.before _ s = true := fun w hw => atoms_spec (ws := .code y_A_ahead b_A_ahead 5 (some .int) :: tG) BD9.pre w (List.mem_cons_of_mem _ hw)
  have hown : s.vm.findClass rn_A = some m.cls := findClass_of_methodNamed BD9.named
  have hlocks := BD9.notSynchronized
  have hS : va_S (xA a) s.heap s.heap [] := va_S.rf
  have hD : va_D (xA a) (xw cI a w h Q ff hd bl rs hs ts rc hc tc) := x_D ha _ rfl
  have hP : va_P D vwCl (xw cI a w h Q ff hd bl rs hs ts rc hc tc) s.heap := hP
  have hl := lv_entry ([.ref (a 1), .int (nI (r)), .int (nI (i))]) (n := 5) (Nat.le_of_ble_eq_true rfl)
  rw [lg_entry_eq]
  generalize (lg_sl ([.ref (a 1), .int (nI (r)), .int (nI (i))]) ++ List.replicate (5 - (lg_sl ([.ref (a 1), .int (nI (r)), .int (nI (i))])).length) Slot.unset).toArray = ls at hl ⊢
  have hl : lv_has ls 5 [(0, .ref (a 1)), (1, .int (nI (r))), (2, .int (nI (i)))] := hl
  obtain ⟨hn1, hn⟩ := hG.n
  refine va_gets hx hb hZ.1.1 hS hown (hts _ k_fieldLink_rn_A_32_rn_A_GOES_TO_I) (fun _ h9 => h9) d_A_ahead_0 ?_
  refine lv_iload_n hx hb d_A_ahead_3 rfl (lv_at hl 1 rfl) ?_
  refine lv_bipush (v := (nI (12))) hx hb d_A_ahead_4 (by decide) ?_
  refine rw_rem hx hb d_A_ahead_6 (by omega) (by omega) (by omega) ?_
  refine va_ti hx hb hZ.1.2 hS (vp_in_nI (by omega) (by omega)) (v := .int (nI (rt_to (r % 12)))) (by rw [nI_clamp (by omega)]) d_A_ahead_7 ?_
  have hto := rt_to_lt (r % 12) (Nat.mod_lt _ (by decide))
  refine lv_istore_n (lv' := [(3, .int (nI (rt_to (r % 12)))), (0, .ref (a 1)), (1, .int (nI (r))), (2, .int (nI (i)))]) hx hb d_A_ahead_8 rfl hl (by decide) rfl (fun ls hl => ?_)
  refine lv_aload_n hx hb d_A_ahead_9 rfl (lv_at hl 1 rfl) ?_
  refine va_get (D := D) (ci := 1) (v := .ref (a 2)) (C := rn_A) (T := tf_A) (N := 2) hx hb hts in_A hown hK hP 1 rfl rfl 0 (by decide) (hts _ k_fieldLink_rn_A_11_rn_A_beyond_I) (fun _ h9 => h9) rfl d_A_ahead_10 ?_
  refine lv_iconst (v := (nI (4))) hx hb d_A_ahead_13 (by decide) ?_
  refine lv_iload_n hx hb d_A_ahead_14 rfl (lv_at hl 2 rfl) ?_
  refine lv_bipush (v := (nI (12))) hx hb d_A_ahead_15 (by decide) ?_
  refine rw_div hx hb d_A_ahead_17 (by omega) (by omega) (by omega) ?_
  refine rw_mul hx hb d_A_ahead_18 ?_
  refine lv_iload_n hx hb d_A_ahead_19 rfl (lv_at hl 0 rfl) ?_
  refine rw_add hx hb d_A_ahead_20 ?_
  refine rw_iald (v := rt_o (rt_nb w h (r / 12) (rt_to (r % 12)))) hx hb hK hP 2 0 rfl rfl (by omega) (by omega) (by show rt_o (rt_nb w h _ _) = _; rw [show (4 * (r / 12) + rt_to (r % 12)) / 4 = r / 12 by omega, show (4 * (r / 12) + rt_to (r % 12)) % 4 = rt_to (r % 12) by omega]) d_A_ahead_21 ?_
  cases ho_22 : rt_nb w h (r / 12) (rt_to (r % 12)) with
  | none =>
    refine lv_istore (lv' := [(4, .int (-1)), (3, .int (nI (rt_to (r % 12)))), (0, .ref (a 1)), (1, .int (nI (r))), (2, .int (nI (i)))]) hx hb d_A_ahead_22 hl (by decide) rfl (fun ls hl => ?_)
    refine lv_iload hx hb d_A_ahead_24 (lv_at hl 0 rfl) ?_
    refine lv_iconst (v := (-1)) hx hb d_A_ahead_26 (by decide) ?_
    refine lv_icmp_ne (tgt := 34) hx hb d_A_ahead_27 (by decide) (fun c_27 => ?_) (fun c_27 => ?_)
    · exact absurd rfl c_27
    · refine lv_iconst (v := (-1)) hx hb d_A_ahead_30 (by decide) ?_
      refine lv_goto (tgt := 49) hx hb d_A_ahead_31 (by decide) ?_
      exact w_iret () hx hb hr hlocks hS hP (by unfold rt_ah; rw [ho_22]; rfl) d_A_ahead_49
  | some tt =>
    have htt : tt < w * h := (rt_nb_back (by have := hG.1.1; omega) (by omega) hto ho_22).1
    refine lv_istore (lv' := [(4, .int (nI (tt))), (3, .int (nI (rt_to (r % 12)))), (0, .ref (a 1)), (1, .int (nI (r))), (2, .int (nI (i)))]) hx hb d_A_ahead_22 hl (by decide) rfl (fun ls hl => ?_)
    refine lv_iload hx hb d_A_ahead_24 (lv_at hl 0 rfl) ?_
    refine lv_iconst (v := (-1)) hx hb d_A_ahead_26 (by decide) ?_
    refine lv_icmp_ne (tgt := 34) hx hb d_A_ahead_27 (by decide) (fun c_27 => ?_) (fun c_27 => ?_)
    · refine lv_bipush (v := (nI (12))) hx hb d_A_ahead_34 (by decide) ?_
      refine lv_iload hx hb d_A_ahead_36 (lv_at hl 0 rfl) ?_
      refine rw_mul hx hb d_A_ahead_38 ?_
      refine va_gets hx hb hZ.2.1.1 hS hown (hts _ k_fieldLink_rn_A_35_rn_A_BEGIN_BEYOND_I) (fun _ h9 => h9) d_A_ahead_39 ?_
      refine lv_iconst (v := (nI (3))) hx hb d_A_ahead_42 (by decide) ?_
      refine lv_iload_n hx hb d_A_ahead_43 rfl (lv_at hl 1 rfl) ?_
      refine rw_mul hx hb d_A_ahead_44 ?_
      refine lv_iload_n hx hb d_A_ahead_45 rfl (lv_at hl 4 rfl) ?_
      refine rw_add hx hb d_A_ahead_46 ?_
      refine va_ti hx hb hZ.2.1.2 hS (vp_in_nI (by omega) (by omega)) (v := .int (nI (rt_bg (3 * rt_to (r % 12) + i)))) (by rw [nI_clamp (by omega)]) d_A_ahead_47 ?_
      refine rw_add hx hb d_A_ahead_48 ?_
      exact w_iret () hx hb hr hlocks hS hP (by unfold rt_ah; rw [ho_22]; rfl) d_A_ahead_49
    · exact absurd c_27 (rt_o_ne _ (by omega))

set_option maxHeartbeats 4000000 in
set_option maxRecDepth 100000 in
theorem c_A_behind (l : Launch) (D : va_G) (cI cZ : ClassId) (g a : Nat → Nat) (ha : xI a) (w h : Nat) (Q : Nat → Nat) (ff : Nat → Int32) (hd bl : Int32) (rs : Nat → Int32) (hs ts : Int32) (rc : Nat → Int32) (hc tc : Int32) (r i : Nat) (hG : rt_G w h Q) (hr0 : r < 12 * (w * h)) (hi : i < 3) : Met l y_A_behind (.code y_A_behind b_A_behind 4 (some .int) :: tG) ({ frames := 1, cells := 0, slots := 0, locals := 24 }) (va_Pc [.ref (a 1), .int (nI (r)), .int (nI (i))] (wU D cI cZ g (xA a) (xw cI a w h Q ff hd bl rs hs ts rc hc tc))) (va_Qi (S := Unit) (fun x _ => x = rt_o (rt_bh w h r i)) (wB D (fun (u : Unit) => (xw cI a w h Q ff hd bl rs hs ts rc hc tc))) (xA a)) 0 0 (xA a) := by
  refine Met.ofW (cc := b_A_behind) (maxL := 4) (ret := (some .int)) (by decide) rfl ?_
  intro p e s m args below meth c s₁ BD9 hml hv
  obtain ⟨rfl, hP, hK, hZ⟩ := hv
  have hx := BD9.exec
  have hb := BD9.bytes
  have hr := BD9.returns
  have hts : ∀ w ∈ tG, w.before _ s = true := fun w hw => atoms_spec (ws := .code y_A_behind b_A_behind 4 (some .int) :: tG) BD9.pre w (List.mem_cons_of_mem _ hw)
  have hown : s.vm.findClass rn_A = some m.cls := findClass_of_methodNamed BD9.named
  have hlocks := BD9.notSynchronized
  have hS : va_S (xA a) s.heap s.heap [] := va_S.rf
  have hD : va_D (xA a) (xw cI a w h Q ff hd bl rs hs ts rc hc tc) := x_D ha _ rfl
  have hP : va_P D vwCl (xw cI a w h Q ff hd bl rs hs ts rc hc tc) s.heap := hP
  have hl := lv_entry ([.ref (a 1), .int (nI (r)), .int (nI (i))]) (n := 4) (Nat.le_of_ble_eq_true rfl)
  rw [lg_entry_eq]
  generalize (lg_sl ([.ref (a 1), .int (nI (r)), .int (nI (i))]) ++ List.replicate (4 - (lg_sl ([.ref (a 1), .int (nI (r)), .int (nI (i))])).length) Slot.unset).toArray = ls at hl ⊢
  have hl : lv_has ls 4 [(0, .ref (a 1)), (1, .int (nI (r))), (2, .int (nI (i)))] := hl
  obtain ⟨hn1, hn⟩ := hG.n
  refine lv_aload_n hx hb d_A_behind_0 rfl (lv_at hl 0 rfl) ?_
  refine lv_iload_n hx hb d_A_behind_1 rfl (lv_at hl 1 rfl) ?_
  refine lv_iconst (v := (nI (1))) hx hb d_A_behind_2 (by decide) ?_
  refine rw_xor hx hb d_A_behind_3 ?_
  refine rw_top (b := rt_rv r) (rt_rv_xor r) ?_
  refine lv_iload_n hx hb d_A_behind_4 rfl (lv_at hl 2 rfl) ?_
  refine w_ci (As := [.int (nI (rt_rv r)), .int (nI (i))]) (rest := []) ⟨hx, hb, hml, hown, hts⟩ (c_A_ahead l D cI cZ g a ha w h Q ff hd bl rs hs ts rc hc tc (rt_rv r) i hG (rt_rv_lt hr0) hi) (cwV 2 hts (t_gV k_methodLink_rn_A_38_y_A_ahead k_instanceMethod_y_A_ahead k_selects_rn_A_y_A_ahead_y_A_ahead k_initialized_rn_A k_code_y_A_ahead_prog_3_method_14_code_5_some_int) rfl rfl rfl (by decide +kernel) ⟨Nat.le_of_ble_eq_true rfl, Nat.le_of_ble_eq_true rfl⟩) (va_recv hK hP (ci := 1) (q0 := 1) rfl rfl) hP hK hZ hS rfl hl.1 rfl (Nat.le_of_ble_eq_true rfl) d_A_behind_5 ⟨Nat.zero_le _, Nat.zero_le _⟩ (fun r_5 u_5 H locs hw hP hS => ?_)
  subst hw
  have hP : va_P D vwCl (xw cI a w h Q ff hd bl rs hs ts rc hc tc) H := hP
  cases ho_8 : rt_ah w h (rt_rv r) i with
  | none =>
    refine lv_istore_n (lv' := [(3, .int (-1)), (0, .ref (a 1)), (1, .int (nI (r))), (2, .int (nI (i)))]) hx hb d_A_behind_8 rfl hl (by decide) rfl (fun ls hl => ?_)
    refine lv_iload_n hx hb d_A_behind_9 rfl (lv_at hl 0 rfl) ?_
    refine lv_iconst (v := (-1)) hx hb d_A_behind_10 (by decide) ?_
    refine lv_icmp_ne (tgt := 18) hx hb d_A_behind_11 (by decide) (fun c_11 => ?_) (fun c_11 => ?_)
    · exact absurd rfl c_11
    · refine lv_iconst (v := (-1)) hx hb d_A_behind_14 (by decide) ?_
      refine lv_goto (tgt := 21) hx hb d_A_behind_15 (by decide) ?_
      exact w_iret () hx hb hr hlocks hS hP (by unfold rt_bh; rw [ho_8]; rfl) d_A_behind_21
  | some tt =>
    have htt : tt < 12 * (w * h) := (rt_ah_back (by have := hG.1.1; omega) (rt_rv_lt hr0) hi ho_8).1
    refine lv_istore_n (lv' := [(3, .int (nI (tt))), (0, .ref (a 1)), (1, .int (nI (r))), (2, .int (nI (i)))]) hx hb d_A_behind_8 rfl hl (by decide) rfl (fun ls hl => ?_)
    refine lv_iload_n hx hb d_A_behind_9 rfl (lv_at hl 0 rfl) ?_
    refine lv_iconst (v := (-1)) hx hb d_A_behind_10 (by decide) ?_
    refine lv_icmp_ne (tgt := 18) hx hb d_A_behind_11 (by decide) (fun c_11 => ?_) (fun c_11 => ?_)
    · refine lv_iload_n hx hb d_A_behind_18 rfl (lv_at hl 0 rfl) ?_
      refine lv_iconst (v := (nI (1))) hx hb d_A_behind_19 (by decide) ?_
      refine rw_xor hx hb d_A_behind_20 ?_
      refine rw_top (b := rt_rv tt) (rt_rv_xor tt) ?_
      exact w_iret () hx hb hr hlocks hS hP (by unfold rt_bh; rw [ho_8]; rfl) d_A_behind_21
    · exact absurd c_11 (rt_o_ne _ (by omega))

set_option maxHeartbeats 4000000 in
set_option maxRecDepth 100000 in
theorem c_A_kindsIn (l : Launch) (D : va_G) (cI cZ : ClassId) (g a : Nat → Nat) (ha : xI a) (w h : Nat) (Q : Nat → Nat) (ff : Nat → Int32) (hd bl : Int32) (rs : Nat → Int32) (hs ts : Int32) (rc : Nat → Int32) (hc tc : Int32) (t : Nat) (hG : rt_G w h Q) (ht : t < w * h) : Met l y_A_kindsIn (.code y_A_kindsIn b_A_kindsIn 4 (some .int) :: tG) ({ frames := 1, cells := 0, slots := 0, locals := 21 }) (va_Pc [.ref (a 1), .int (nI (t))] (wU D cI cZ g (xA a) (xw cI a w h Q ff hd bl rs hs ts rc hc tc))) (va_Qi (S := Unit) (fun x _ => x = nI (rt_kb Q t 6)) (wB D (fun (u : Unit) => (xw cI a w h Q ff hd bl rs hs ts rc hc tc))) (xA a)) 0 0 (xA a) := by
  refine Met.ofW (cc := b_A_kindsIn) (maxL := 4) (ret := (some .int)) (by decide) rfl ?_
  intro p e s m args below meth c s₁ BD9 hml hv
  obtain ⟨rfl, hP, hK, hZ⟩ := hv
  have hx := BD9.exec
  have hb := BD9.bytes
  have hr := BD9.returns
  have hts : ∀ w ∈ tG, w.before _ s = true := fun w hw => atoms_spec (ws := .code y_A_kindsIn b_A_kindsIn 4 (some .int) :: tG) BD9.pre w (List.mem_cons_of_mem _ hw)
  have hown : s.vm.findClass rn_A = some m.cls := findClass_of_methodNamed BD9.named
  have hlocks := BD9.notSynchronized
  have hS : va_S (xA a) s.heap s.heap [] := va_S.rf
  have hD : va_D (xA a) (xw cI a w h Q ff hd bl rs hs ts rc hc tc) := x_D ha _ rfl
  have hP : va_P D vwCl (xw cI a w h Q ff hd bl rs hs ts rc hc tc) s.heap := hP
  have hl := lv_entry ([.ref (a 1), .int (nI (t))]) (n := 4) (Nat.le_of_ble_eq_true rfl)
  rw [lg_entry_eq]
  generalize (lg_sl ([.ref (a 1), .int (nI (t))]) ++ List.replicate (4 - (lg_sl ([.ref (a 1), .int (nI (t))])).length) Slot.unset).toArray = ls at hl ⊢
  have hl : lv_has ls 4 [(0, .ref (a 1)), (1, .int (nI (t)))] := hl
  obtain ⟨hn1, hn⟩ := hG.n
  refine lv_iconst (v := (nI (0))) hx hb d_A_kindsIn_0 (by decide) ?_
  refine lv_istore_n (lv' := [(2, .int (nI (0))), (0, .ref (a 1)), (1, .int (nI (t)))]) hx hb d_A_kindsIn_1 rfl hl (by decide) rfl (fun ls hl => ?_)
  refine lv_iconst (v := (nI (0))) hx hb d_A_kindsIn_2 (by decide) ?_
  refine lv_istore_n (lv' := [(3, .int (nI (0))), (2, .int (nI (0))), (0, .ref (a 1)), (1, .int (nI (t)))]) hx hb d_A_kindsIn_3 rfl hl (by decide) rfl (fun ls hl => ?_)
  have LP_4 : ∀ (n_4 : Nat) (i : Nat), i + n_4 = 6 → ∀ (H : Heap) (locs : List Loc) (ls : Array Slot), va_P D vwCl (xw cI a w h Q ff hd bl rs hs ts rc hc tc) H → va_S (xA a) s.heap H locs → lv_has ls 4 [(0, .ref (a 1)), (1, .int (nI (t))), (2, .int (nI (rt_kb Q t i))), (3, .int (nI (i)))] → W p l e (headSpec (.code y_A_kindsIn b_A_kindsIn 4 (some .int) :: tG) ({ frames := 1, cells := 0, slots := 0, locals := 21 })).room s m ([.ref (a 1), .int (nI (t))] : List Value).toArray below meth c H locs 0 0 (MQ below (va_Qi (S := Unit) (fun x _ => x = nI (rt_kb Q t 6)) (wB D (fun (u : Unit) => (xw cI a w h Q ff hd bl rs hs ts rc hc tc))) (xA a)) ([.ref (a 1), .int (nI (t))] : List Value).toArray s 0 0 (xA a)) (F0 m 4 ls []) := by
    intro n_4
    induction n_4 with
    | zero =>
      intro i hrel_4 H locs ls hP hS hl
      have hD : va_D (xA a) (xw cI a w h Q ff hd bl rs hs ts rc hc tc) := x_D ha _ rfl
      refine lv_iload_n hx hb d_A_kindsIn_4 rfl (lv_at hl 3 rfl) ?_
      refine lv_bipush (v := (nI (6))) hx hb d_A_kindsIn_5 (by decide) ?_
      refine rw_cge (tgt := 35) hx hb d_A_kindsIn_7 (by decide) (by omega) (by omega) (fun c_7 => ?_) (fun c_7 => ?_)
      · refine lv_iload_n hx hb d_A_kindsIn_35 rfl (lv_at hl 2 rfl) ?_
        exact w_iret () hx hb hr hlocks hS hP (by rw [show i = 6 by omega]) d_A_kindsIn_36
      · omega
    | succ n_4 ih_4 =>
      intro i hrel_4 H locs ls hP hS hl
      have hD : va_D (xA a) (xw cI a w h Q ff hd bl rs hs ts rc hc tc) := x_D ha _ rfl
      refine lv_iload_n hx hb d_A_kindsIn_4 rfl (lv_at hl 3 rfl) ?_
      refine lv_bipush (v := (nI (6))) hx hb d_A_kindsIn_5 (by decide) ?_
      refine rw_cge (tgt := 35) hx hb d_A_kindsIn_7 (by decide) (by omega) (by omega) (fun c_7 => ?_) (fun c_7 => ?_)
      · omega
      · refine lv_aload_n hx hb d_A_kindsIn_10 rfl (lv_at hl 0 rfl) ?_
        refine lv_bipush (v := (nI (6))) hx hb d_A_kindsIn_11 (by decide) ?_
        refine lv_iload_n hx hb d_A_kindsIn_13 rfl (lv_at hl 1 rfl) ?_
        refine rw_mul hx hb d_A_kindsIn_14 ?_
        refine lv_iload_n hx hb d_A_kindsIn_15 rfl (lv_at hl 3 rfl) ?_
        refine rw_add hx hb d_A_kindsIn_16 ?_
        refine w_ci (As := [.int (nI ((6 * t) + i))]) (rest := []) ⟨hx, hb, hml, hown, hts⟩ (c_A_isThere l D cI cZ g a ha w h Q ff hd bl rs hs ts rc hc tc ((6 * t) + i) hG (by omega)) (cwV 1 hts (t_gV k_methodLink_rn_A_18_y_A_isThere k_instanceMethod_y_A_isThere k_selects_rn_A_y_A_isThere_y_A_isThere k_initialized_rn_A k_code_y_A_isThere_prog_3_method_5_code_2_some_boolean) rfl rfl rfl (by decide +kernel) ⟨Nat.le_of_ble_eq_true rfl, Nat.le_of_ble_eq_true rfl⟩) (va_recv hK hP (ci := 1) (q0 := 1) rfl rfl) hP hK hZ hS rfl hl.1 rfl (Nat.le_of_ble_eq_true rfl) d_A_kindsIn_17 ⟨Nat.zero_le _, Nat.zero_le _⟩ (fun r_17 u_17 H locs hw hP hS => ?_)
        subst hw
        have hP : va_P D vwCl (xw cI a w h Q ff hd bl rs hs ts rc hc tc) H := hP
        refine rw_beq (tgt := 29) hx hb d_A_kindsIn_20 (by decide) (fun c_20 => ?_) (fun c_20 => ?_)
        · refine lv_iinc (v := (nI (i + 1))) (lv' := [(3, .int (nI (i + 1))), (0, .ref (a 1)), (1, .int (nI (t))), (2, .int (nI (rt_kb Q t i)))]) hx hb d_A_kindsIn_29 hl (k := 3) rfl (nI_add _ _) (by decide) rfl (fun ls hl => ?_)
          refine lv_goto (tgt := 4) hx hb d_A_kindsIn_32 (by decide) ?_
          have hl : lv_has ls 4 [(3, .int (nI (i + 1))), (0, .ref (a 1)), (1, .int (nI (t))), (2, .int (nI (rt_kb Q t (i + 1))))] := by rw [rt_kb_f (of_decide_eq_false c_20)]; exact hl
          exact ih_4 (i + 1) (by omega) _ _ _ hP hS (lv_sub hl [1, 2, 3, 0] rfl)
        · refine lv_iload_n hx hb d_A_kindsIn_23 rfl (lv_at hl 2 rfl) ?_
          refine lv_iconst (v := (nI (1))) hx hb d_A_kindsIn_24 (by decide) ?_
          refine lv_iload_n hx hb d_A_kindsIn_25 rfl (lv_at hl 3 rfl) ?_
          refine rw_shl hx hb d_A_kindsIn_26 (by first | omega | exact rt_p6 i (by omega)) (by first | omega | exact rt_p6 i (by omega)) ?_
          refine rw_top (b := 2 ^ i) (Nat.one_mul _) ?_
          refine rw_or hx hb d_A_kindsIn_27 ?_
          refine lv_istore_n (lv' := [(2, .int (nI ((rt_kb Q t i) ||| (2 ^ i)))), (0, .ref (a 1)), (1, .int (nI (t))), (3, .int (nI (i)))]) hx hb d_A_kindsIn_28 rfl hl (by decide) rfl (fun ls hl => ?_)
          refine lv_iinc (v := (nI (i + 1))) (lv' := [(3, .int (nI (i + 1))), (2, .int (nI ((rt_kb Q t i) ||| (2 ^ i)))), (0, .ref (a 1)), (1, .int (nI (t)))]) hx hb d_A_kindsIn_29 hl (k := 3) rfl (nI_add _ _) (by decide) rfl (fun ls hl => ?_)
          refine lv_goto (tgt := 4) hx hb d_A_kindsIn_32 (by decide) ?_
          have hl : lv_has ls 4 [(3, .int (nI (i + 1))), (2, .int (nI (rt_kb Q t (i + 1)))), (0, .ref (a 1)), (1, .int (nI (t)))] := by rw [rt_kb_t (of_decide_eq_true c_20)]; exact hl
          exact ih_4 (i + 1) (by omega) _ _ _ hP hS (lv_sub hl [2, 3, 1, 0] rfl)
  exact LP_4 6 0 (by omega) _ _ _ hP hS (lv_sub hl [2, 3, 1, 0] rfl)

set_option maxHeartbeats 4000000 in
set_option maxRecDepth 100000 in
theorem c_A_piecesWith (l : Launch) (D : va_G) (cI cZ : ClassId) (g a : Nat → Nat) (ha : xI a) (w h : Nat) (Q : Nat → Nat) (ff : Nat → Int32) (hd bl : Int32) (rs : Nat → Int32) (hs ts : Int32) (rc : Nat → Int32) (hc tc : Int32) (b : Nat) (hG : rt_G w h Q) (hb0 : b < 512) : Met l y_A_piecesWith (.code y_A_piecesWith b_A_piecesWith 4 (some .int) :: tG) ({ frames := 0, cells := 0, slots := 0, locals := 0 }) (va_Pc [.ref (a 1), .int (nI (b))] (wU D cI cZ g (xA a) (xw cI a w h Q ff hd bl rs hs ts rc hc tc))) (va_Qi (S := Unit) (fun x _ => x = nI ((List.range (6 * (w * h))).countP (fun q => decide (Q q &&& b ≠ 0)))) (wB D (fun (u : Unit) => (xw cI a w h Q ff hd bl rs hs ts rc hc tc))) (xA a)) 0 0 (xA a) := by
  refine Met.ofW (cc := b_A_piecesWith) (maxL := 4) (ret := (some .int)) (by decide) rfl ?_
  intro p e s m args below meth c s₁ BD9 hml hv
  obtain ⟨rfl, hP, hK, hZ⟩ := hv
  have hx := BD9.exec
  have hb := BD9.bytes
  have hr := BD9.returns
  have hts : ∀ w ∈ tG, w.before _ s = true := fun w hw => atoms_spec (ws := .code y_A_piecesWith b_A_piecesWith 4 (some .int) :: tG) BD9.pre w (List.mem_cons_of_mem _ hw)
  have hown : s.vm.findClass rn_A = some m.cls := findClass_of_methodNamed BD9.named
  have hlocks := BD9.notSynchronized
  have hS : va_S (xA a) s.heap s.heap [] := va_S.rf
  have hD : va_D (xA a) (xw cI a w h Q ff hd bl rs hs ts rc hc tc) := x_D ha _ rfl
  have hP : va_P D vwCl (xw cI a w h Q ff hd bl rs hs ts rc hc tc) s.heap := hP
  have hl := lv_entry ([.ref (a 1), .int (nI (b))]) (n := 4) (Nat.le_of_ble_eq_true rfl)
  rw [lg_entry_eq]
  generalize (lg_sl ([.ref (a 1), .int (nI (b))]) ++ List.replicate (4 - (lg_sl ([.ref (a 1), .int (nI (b))])).length) Slot.unset).toArray = ls at hl ⊢
  have hl : lv_has ls 4 [(0, .ref (a 1)), (1, .int (nI (b)))] := hl
  obtain ⟨hn1, hn⟩ := hG.n
  refine lv_iconst (v := (nI (0))) hx hb d_A_piecesWith_0 (by decide) ?_
  refine lv_istore_n (lv' := [(2, .int (nI (0))), (0, .ref (a 1)), (1, .int (nI (b)))]) hx hb d_A_piecesWith_1 rfl hl (by decide) rfl (fun ls hl => ?_)
  refine lv_iconst (v := (nI (0))) hx hb d_A_piecesWith_2 (by decide) ?_
  refine lv_istore_n (lv' := [(3, .int (nI (0))), (2, .int (nI (0))), (0, .ref (a 1)), (1, .int (nI (b)))]) hx hb d_A_piecesWith_3 rfl hl (by decide) rfl (fun ls hl => ?_)
  have LP_4 : ∀ (n_4 : Nat) (i : Nat), i + n_4 = 6 * (w * h) → ∀ (H : Heap) (locs : List Loc) (ls : Array Slot), va_P D vwCl (xw cI a w h Q ff hd bl rs hs ts rc hc tc) H → va_S (xA a) s.heap H locs → lv_has ls 4 [(0, .ref (a 1)), (1, .int (nI (b))), (2, .int (nI ((List.range i).countP (fun q => decide (Q q &&& b ≠ 0))))), (3, .int (nI (i)))] → W p l e (headSpec (.code y_A_piecesWith b_A_piecesWith 4 (some .int) :: tG) ({ frames := 0, cells := 0, slots := 0, locals := 0 })).room s m ([.ref (a 1), .int (nI (b))] : List Value).toArray below meth c H locs 0 0 (MQ below (va_Qi (S := Unit) (fun x _ => x = nI ((List.range (6 * (w * h))).countP (fun q => decide (Q q &&& b ≠ 0)))) (wB D (fun (u : Unit) => (xw cI a w h Q ff hd bl rs hs ts rc hc tc))) (xA a)) ([.ref (a 1), .int (nI (b))] : List Value).toArray s 0 0 (xA a)) (F0 m 4 ls []) := by
    intro n_4
    induction n_4 with
    | zero =>
      intro i hrel_4 H locs ls hP hS hl
      have hD : va_D (xA a) (xw cI a w h Q ff hd bl rs hs ts rc hc tc) := x_D ha _ rfl
      refine lv_iload_n hx hb d_A_piecesWith_4 rfl (lv_at hl 3 rfl) ?_
      refine lv_aload_n hx hb d_A_piecesWith_5 rfl (lv_at hl 0 rfl) ?_
      refine va_get (D := D) (ci := 1) (v := .ref (a 3)) (C := rn_A) (T := tf_A) (N := 2) hx hb hts in_A hown hK hP 1 rfl rfl 1 (by decide) (hts _ k_fieldLink_rn_A_15_rn_A_pieces_I) (fun _ h9 => h9) rfl d_A_piecesWith_6 ?_
      refine va_alen (v := nI (6 * (w * h))) hx hb hK hP 3 0 rfl rfl rfl d_A_piecesWith_9 ?_
      refine rw_cge (tgt := 33) hx hb d_A_piecesWith_10 (by decide) (by omega) (by omega) (fun c_10 => ?_) (fun c_10 => ?_)
      · refine lv_iload_n hx hb d_A_piecesWith_33 rfl (lv_at hl 2 rfl) ?_
        exact w_iret () hx hb hr hlocks hS hP (by rw [show i = 6 * (w * h) by omega]) d_A_piecesWith_34
      · omega
    | succ n_4 ih_4 =>
      intro i hrel_4 H locs ls hP hS hl
      have hD : va_D (xA a) (xw cI a w h Q ff hd bl rs hs ts rc hc tc) := x_D ha _ rfl
      refine lv_iload_n hx hb d_A_piecesWith_4 rfl (lv_at hl 3 rfl) ?_
      refine lv_aload_n hx hb d_A_piecesWith_5 rfl (lv_at hl 0 rfl) ?_
      refine va_get (D := D) (ci := 1) (v := .ref (a 3)) (C := rn_A) (T := tf_A) (N := 2) hx hb hts in_A hown hK hP 1 rfl rfl 1 (by decide) (hts _ k_fieldLink_rn_A_15_rn_A_pieces_I) (fun _ h9 => h9) rfl d_A_piecesWith_6 ?_
      refine va_alen (v := nI (6 * (w * h))) hx hb hK hP 3 0 rfl rfl rfl d_A_piecesWith_9 ?_
      refine rw_cge (tgt := 33) hx hb d_A_piecesWith_10 (by decide) (by omega) (by omega) (fun c_10 => ?_) (fun c_10 => ?_)
      · omega
      · refine lv_aload_n hx hb d_A_piecesWith_13 rfl (lv_at hl 0 rfl) ?_
        refine va_get (D := D) (ci := 1) (v := .ref (a 3)) (C := rn_A) (T := tf_A) (N := 2) hx hb hts in_A hown hK hP 1 rfl rfl 1 (by decide) (hts _ k_fieldLink_rn_A_15_rn_A_pieces_I) (fun _ h9 => h9) rfl d_A_piecesWith_14 ?_
        refine lv_iload_n hx hb d_A_piecesWith_17 rfl (lv_at hl 3 rfl) ?_
        refine rw_iald (v := (nI (Q (i)))) hx hb hK hP 3 0 rfl rfl (by omega) (by omega) (rfl) d_A_piecesWith_18 ?_
        refine lv_iload_n hx hb d_A_piecesWith_19 rfl (lv_at hl 1 rfl) ?_
        refine rw_and hx hb d_A_piecesWith_20 ?_
        refine rw_zeq (tgt := 27) hx hb d_A_piecesWith_21 (by decide) (Nat.lt_of_le_of_lt Nat.and_le_left (Nat.lt_trans (hG.lt i) (by decide))) (fun c_21 => ?_) (fun c_21 => ?_)
        · refine lv_iinc (v := (nI (i + 1))) (lv' := [(3, .int (nI (i + 1))), (0, .ref (a 1)), (1, .int (nI (b))), (2, .int (nI ((List.range i).countP (fun q => decide (Q q &&& b ≠ 0)))))]) hx hb d_A_piecesWith_27 hl (k := 3) rfl (nI_add _ _) (by decide) rfl (fun ls hl => ?_)
          refine lv_goto (tgt := 4) hx hb d_A_piecesWith_30 (by decide) ?_
          have hl : lv_has ls 4 [(3, .int (nI (i + 1))), (0, .ref (a 1)), (1, .int (nI (b))), (2, .int (nI ((List.range (i + 1)).countP (fun q => decide (Q q &&& b ≠ 0)))))] := by rw [rt_cnt_succ, if_neg (by simp [c_21])]; exact hl
          exact ih_4 (i + 1) (by omega) _ _ _ hP hS (lv_sub hl [1, 2, 3, 0] rfl)
        · refine lv_iinc (v := (nI (((List.range i).countP (fun q => decide (Q q &&& b ≠ 0))) + 1))) (lv' := [(2, .int (nI (((List.range i).countP (fun q => decide (Q q &&& b ≠ 0))) + 1))), (0, .ref (a 1)), (1, .int (nI (b))), (3, .int (nI (i)))]) hx hb d_A_piecesWith_24 hl (k := 2) rfl (nI_add _ _) (by decide) rfl (fun ls hl => ?_)
          refine lv_iinc (v := (nI (i + 1))) (lv' := [(3, .int (nI (i + 1))), (2, .int (nI (((List.range i).countP (fun q => decide (Q q &&& b ≠ 0))) + 1))), (0, .ref (a 1)), (1, .int (nI (b)))]) hx hb d_A_piecesWith_27 hl (k := 3) rfl (nI_add _ _) (by decide) rfl (fun ls hl => ?_)
          refine lv_goto (tgt := 4) hx hb d_A_piecesWith_30 (by decide) ?_
          have hl : lv_has ls 4 [(3, .int (nI (i + 1))), (2, .int (nI ((List.range (i + 1)).countP (fun q => decide (Q q &&& b ≠ 0))))), (0, .ref (a 1)), (1, .int (nI (b)))] := by rw [rt_cnt_succ, if_pos (by simp [c_21])]; exact hl
          exact ih_4 (i + 1) (by omega) _ _ _ hP hS (lv_sub hl [2, 3, 1, 0] rfl)
  exact LP_4 (6 * (w * h)) 0 (by omega) _ _ _ hP hS (lv_sub hl [2, 3, 1, 0] rfl)

set_option maxHeartbeats 4000000 in
set_option maxRecDepth 100000 in
theorem c_A_isLastOf (l : Launch) (D : va_G) (cI cZ : ClassId) (g a : Nat → Nat) (ha : xI a) (w h : Nat) (Q : Nat → Nat) (ff : Nat → Int32) (hd bl : Int32) (rs : Nat → Int32) (hs ts : Int32) (rc : Nat → Int32) (hc tc : Int32) (r z : Nat) (hG : rt_G w h Q) (hr0 : r < 12 * (w * h)) (hz : z < 8) : Met l y_A_isLastOf (.code y_A_isLastOf b_A_isLastOf 5 (some .boolean) :: tG) ({ frames := 3, cells := 0, slots := 0, locals := 64 }) (va_Pc [.ref (a 1), .int (nI (r)), .int (nI (z))] (wU D cI cZ g (xA a) (xw cI a w h Q ff hd bl rs hs ts rc hc tc))) (va_Qi (S := Unit) (fun x _ => x = rt_b (rt_la Q w h z r)) (wB D (fun (u : Unit) => (xw cI a w h Q ff hd bl rs hs ts rc hc tc))) (xA a)) 0 0 (xA a) := by
  refine Met.ofW (cc := b_A_isLastOf) (maxL := 5) (ret := (some .boolean)) (by decide) rfl ?_
  intro p e s m args below meth c s₁ BD9 hml hv
  obtain ⟨rfl, hP, hK, hZ⟩ := hv
  have hx := BD9.exec
  have hb := BD9.bytes
  have hr := BD9.returns
  have hts : ∀ w ∈ tG, w.before _ s = true := fun w hw => atoms_spec (ws := .code y_A_isLastOf b_A_isLastOf 5 (some .boolean) :: tG) BD9.pre w (List.mem_cons_of_mem _ hw)
  have hown : s.vm.findClass rn_A = some m.cls := findClass_of_methodNamed BD9.named
  have hlocks := BD9.notSynchronized
  have hS : va_S (xA a) s.heap s.heap [] := va_S.rf
  have hD : va_D (xA a) (xw cI a w h Q ff hd bl rs hs ts rc hc tc) := x_D ha _ rfl
  have hP : va_P D vwCl (xw cI a w h Q ff hd bl rs hs ts rc hc tc) s.heap := hP
  have hl := lv_entry ([.ref (a 1), .int (nI (r)), .int (nI (z))]) (n := 5) (Nat.le_of_ble_eq_true rfl)
  rw [lg_entry_eq]
  generalize (lg_sl ([.ref (a 1), .int (nI (r)), .int (nI (z))]) ++ List.replicate (5 - (lg_sl ([.ref (a 1), .int (nI (r)), .int (nI (z))])).length) Slot.unset).toArray = ls at hl ⊢
  have hl : lv_has ls 5 [(0, .ref (a 1)), (1, .int (nI (r))), (2, .int (nI (z)))] := hl
  obtain ⟨hn1, hn⟩ := hG.n
  refine lv_aload_n hx hb d_A_isLastOf_0 rfl (lv_at hl 0 rfl) ?_
  refine lv_iload_n hx hb d_A_isLastOf_1 rfl (lv_at hl 1 rfl) ?_
  refine lv_iconst (v := (nI (2))) hx hb d_A_isLastOf_2 (by decide) ?_
  refine rw_div hx hb d_A_isLastOf_3 (by omega) (by omega) (by omega) ?_
  refine w_ci (As := [.int (nI (r / 2))]) (rest := []) ⟨hx, hb, hml, hown, hts⟩ (c_A_stationOf l D cI cZ g a ha w h Q ff hd bl rs hs ts rc hc tc (r / 2) hG (by omega)) (cwV 1 hts (t_gV k_methodLink_rn_A_42_y_A_stationOf k_instanceMethod_y_A_stationOf k_selects_rn_A_y_A_stationOf_y_A_stationOf k_initialized_rn_A k_code_y_A_stationOf_prog_3_method_7_code_2_some_int) rfl rfl rfl (by decide +kernel) ⟨Nat.le_of_ble_eq_true rfl, Nat.le_of_ble_eq_true rfl⟩) (va_recv hK hP (ci := 1) (q0 := 1) rfl rfl) hP hK hZ hS rfl hl.1 rfl (Nat.le_of_ble_eq_true rfl) d_A_isLastOf_4 ⟨Nat.zero_le _, Nat.zero_le _⟩ (fun r_4 u_4 H locs hw hP hS => ?_)
  subst hw
  have hP : va_P D vwCl (xw cI a w h Q ff hd bl rs hs ts rc hc tc) H := hP
  refine lv_iload_n hx hb d_A_isLastOf_7 rfl (lv_at hl 2 rfl) ?_
  refine lv_icmp_eq (tgt := 13) hx hb d_A_isLastOf_8 (by decide) (fun c_8 => ?_) (fun c_8 => ?_)
  · have hs1 := rt_st_eq (rt_ok_s hG.2.2 (r / 2)) hz c_8
    refine lv_iconst (v := (nI (0))) hx hb d_A_isLastOf_13 (by decide) ?_
    refine lv_istore_n (lv' := [(3, .int (nI (0))), (0, .ref (a 1)), (1, .int (nI (r))), (2, .int (nI (z)))]) hx hb d_A_isLastOf_14 rfl hl (by decide) rfl (fun ls hl => ?_)
    have LP_15 : ∀ (n_15 : Nat) (i : Nat), i + n_15 = 3 → (∀ f, f ∈ rt_px Q w h r i → rt_s Q (f / 2) ≠ z + 1) → ∀ (H : Heap) (locs : List Loc) (ls : Array Slot), va_P D vwCl (xw cI a w h Q ff hd bl rs hs ts rc hc tc) H → va_S (xA a) s.heap H locs → lv_has ls 5 [(0, .ref (a 1)), (1, .int (nI (r))), (2, .int (nI (z))), (3, .int (nI (i)))] → W p l e (headSpec (.code y_A_isLastOf b_A_isLastOf 5 (some .boolean) :: tG) ({ frames := 3, cells := 0, slots := 0, locals := 64 })).room s m ([.ref (a 1), .int (nI (r)), .int (nI (z))] : List Value).toArray below meth c H locs 0 0 (MQ below (va_Qi (S := Unit) (fun x _ => x = rt_b (rt_la Q w h z r)) (wB D (fun (u : Unit) => (xw cI a w h Q ff hd bl rs hs ts rc hc tc))) (xA a)) ([.ref (a 1), .int (nI (r)), .int (nI (z))] : List Value).toArray s 0 0 (xA a)) (F0 m 15 ls []) := by
      intro n_15
      induction n_15 with
      | zero =>
        intro i hrel_15 hI H locs ls hP hS hl
        have hD : va_D (xA a) (xw cI a w h Q ff hd bl rs hs ts rc hc tc) := x_D ha _ rfl
        refine lv_iload_n hx hb d_A_isLastOf_15 rfl (lv_at hl 3 rfl) ?_
        refine lv_iconst (v := (nI (3))) hx hb d_A_isLastOf_16 (by decide) ?_
        refine rw_cge (tgt := 57) hx hb d_A_isLastOf_17 (by decide) (by omega) (by omega) (fun c_17 => ?_) (fun c_17 => ?_)
        · refine lv_iconst (v := (nI (1))) hx hb d_A_isLastOf_57 (by decide) ?_
          exact w_zret (v := true) () hx hb hr hlocks hS hP (congrArg rt_b (rt_la_t hs1 (fun f hf => hI f (by rw [show i = 3 by omega]; exact hf))).symm) d_A_isLastOf_58
        · omega
      | succ n_15 ih_15 =>
        intro i hrel_15 hI H locs ls hP hS hl
        have hD : va_D (xA a) (xw cI a w h Q ff hd bl rs hs ts rc hc tc) := x_D ha _ rfl
        refine lv_iload_n hx hb d_A_isLastOf_15 rfl (lv_at hl 3 rfl) ?_
        refine lv_iconst (v := (nI (3))) hx hb d_A_isLastOf_16 (by decide) ?_
        refine rw_cge (tgt := 57) hx hb d_A_isLastOf_17 (by decide) (by omega) (by omega) (fun c_17 => ?_) (fun c_17 => ?_)
        · omega
        · refine lv_aload_n hx hb d_A_isLastOf_20 rfl (lv_at hl 0 rfl) ?_
          refine lv_iload_n hx hb d_A_isLastOf_21 rfl (lv_at hl 1 rfl) ?_
          refine lv_iload_n hx hb d_A_isLastOf_22 rfl (lv_at hl 3 rfl) ?_
          refine w_ci (As := [.int (nI (r)), .int (nI (i))]) (rest := []) ⟨hx, hb, hml, hown, hts⟩ (c_A_ahead l D cI cZ g a ha w h Q ff hd bl rs hs ts rc hc tc r i hG hr0 (by omega)) (cwV 2 hts (t_gV k_methodLink_rn_A_38_y_A_ahead k_instanceMethod_y_A_ahead k_selects_rn_A_y_A_ahead_y_A_ahead k_initialized_rn_A k_code_y_A_ahead_prog_3_method_14_code_5_some_int) rfl rfl rfl (by decide +kernel) ⟨Nat.le_of_ble_eq_true rfl, Nat.le_of_ble_eq_true rfl⟩) (va_recv hK hP (ci := 1) (q0 := 1) rfl rfl) hP hK hZ hS rfl hl.1 rfl (Nat.le_of_ble_eq_true rfl) d_A_isLastOf_23 ⟨Nat.zero_le _, Nat.zero_le _⟩ (fun r_23 u_23 H locs hw hP hS => ?_)
          subst hw
          have hP : va_P D vwCl (xw cI a w h Q ff hd bl rs hs ts rc hc tc) H := hP
          cases ho_26 : rt_ah w h r i with
          | none =>
            refine lv_istore (lv' := [(4, .int (-1)), (0, .ref (a 1)), (1, .int (nI (r))), (2, .int (nI (z))), (3, .int (nI (i)))]) hx hb d_A_isLastOf_26 hl (by decide) rfl (fun ls hl => ?_)
            refine lv_aload_n hx hb d_A_isLastOf_28 rfl (lv_at hl 1 rfl) ?_
            refine lv_iload hx hb d_A_isLastOf_29 (lv_at hl 0 rfl) ?_
            refine w_ci (As := [.int (-1)]) (rest := []) ⟨hx, hb, hml, hown, hts⟩ (c_A_isOpen l D cI cZ g a ha w h Q ff hd bl rs hs ts rc hc tc (-1) hG) (cwV 1 hts (t_gV k_methodLink_rn_A_45_y_A_isOpen k_instanceMethod_y_A_isOpen k_selects_rn_A_y_A_isOpen_y_A_isOpen k_initialized_rn_A k_code_y_A_isOpen_prog_3_method_11_code_2_some_boolean) rfl rfl rfl (by decide +kernel) ⟨Nat.le_of_ble_eq_true rfl, Nat.le_of_ble_eq_true rfl⟩) (va_recv hK hP (ci := 1) (q0 := 1) rfl rfl) hP hK hZ hS rfl hl.1 rfl (Nat.le_of_ble_eq_true rfl) d_A_isLastOf_31 ⟨Nat.zero_le _, Nat.zero_le _⟩ (fun r_31 u_31 H locs hw hP hS => ?_)
            subst hw
            have hP : va_P D vwCl (xw cI a w h Q ff hd bl rs hs ts rc hc tc) H := hP
            rw [rt_opx_n (Or.inl (by decide))]
            refine rw_beq (tgt := 51) hx hb d_A_isLastOf_34 (by decide) (fun c_34 => ?_) (fun c_34 => ?_)
            · refine lv_iinc (v := (nI (i + 1))) (lv' := [(3, .int (nI (i + 1))), (4, .int (-1)), (0, .ref (a 1)), (1, .int (nI (r))), (2, .int (nI (z)))]) hx hb d_A_isLastOf_51 hl (k := 4) rfl (nI_add _ _) (by decide) rfl (fun ls hl => ?_)
              refine lv_goto (tgt := 15) hx hb d_A_isLastOf_54 (by decide) ?_
              exact ih_15 (i + 1) (by omega) (by rw [rt_px_succ, ho_26]; simpa [rt_one] using hI) _ _ _ hP hS (lv_sub hl [2, 3, 4, 0] rfl)
            · cases c_34
          | some f =>
            have hf := (rt_ah_back (by have := hG.1.1; omega) hr0 (by omega) ho_26).1
            refine lv_istore (lv' := [(4, .int (nI (f))), (0, .ref (a 1)), (1, .int (nI (r))), (2, .int (nI (z))), (3, .int (nI (i)))]) hx hb d_A_isLastOf_26 hl (by decide) rfl (fun ls hl => ?_)
            refine lv_aload_n hx hb d_A_isLastOf_28 rfl (lv_at hl 1 rfl) ?_
            refine lv_iload hx hb d_A_isLastOf_29 (lv_at hl 0 rfl) ?_
            refine w_ci (As := [.int (nI (f))]) (rest := []) ⟨hx, hb, hml, hown, hts⟩ (c_A_isOpen l D cI cZ g a ha w h Q ff hd bl rs hs ts rc hc tc (nI (f)) hG) (cwV 1 hts (t_gV k_methodLink_rn_A_45_y_A_isOpen k_instanceMethod_y_A_isOpen k_selects_rn_A_y_A_isOpen_y_A_isOpen k_initialized_rn_A k_code_y_A_isOpen_prog_3_method_11_code_2_some_boolean) rfl rfl rfl (by decide +kernel) ⟨Nat.le_of_ble_eq_true rfl, Nat.le_of_ble_eq_true rfl⟩) (va_recv hK hP (ci := 1) (q0 := 1) rfl rfl) hP hK hZ hS rfl hl.1 rfl (Nat.le_of_ble_eq_true rfl) d_A_isLastOf_31 ⟨Nat.zero_le _, Nat.zero_le _⟩ (fun r_31 u_31 H locs hw hP hS => ?_)
            subst hw
            have hP : va_P D vwCl (xw cI a w h Q ff hd bl rs hs ts rc hc tc) H := hP
            rw [rt_opx_s (by omega) hf]
            refine rw_beq (tgt := 51) hx hb d_A_isLastOf_34 (by decide) (fun c_34 => ?_) (fun c_34 => ?_)
            · refine lv_iinc (v := (nI (i + 1))) (lv' := [(3, .int (nI (i + 1))), (4, .int (nI (f))), (0, .ref (a 1)), (1, .int (nI (r))), (2, .int (nI (z)))]) hx hb d_A_isLastOf_51 hl (k := 4) rfl (nI_add _ _) (by decide) rfl (fun ls hl => ?_)
              refine lv_goto (tgt := 15) hx hb d_A_isLastOf_54 (by decide) ?_
              exact ih_15 (i + 1) (by omega) (by rw [rt_px_succ, ho_26]; exact rt_la_s hI (fun _ => by first | (rw [c_34] at *; contradiction) | exact fun q => c_46 (rt_st_mk q))) _ _ _ hP hS (lv_sub hl [2, 3, 4, 0] rfl)
            · refine lv_aload_n hx hb d_A_isLastOf_37 rfl (lv_at hl 1 rfl) ?_
              refine lv_iload hx hb d_A_isLastOf_38 (lv_at hl 0 rfl) ?_
              refine lv_iconst (v := (nI (2))) hx hb d_A_isLastOf_40 (by decide) ?_
              refine rw_div hx hb d_A_isLastOf_41 (by omega) (by omega) (by omega) ?_
              refine w_ci (As := [.int (nI (f / 2))]) (rest := []) ⟨hx, hb, hml, hown, hts⟩ (c_A_stationOf l D cI cZ g a ha w h Q ff hd bl rs hs ts rc hc tc (f / 2) hG (by omega)) (cwV 1 hts (t_gV k_methodLink_rn_A_42_y_A_stationOf k_instanceMethod_y_A_stationOf k_selects_rn_A_y_A_stationOf_y_A_stationOf k_initialized_rn_A k_code_y_A_stationOf_prog_3_method_7_code_2_some_int) rfl rfl rfl (by decide +kernel) ⟨Nat.le_of_ble_eq_true rfl, Nat.le_of_ble_eq_true rfl⟩) (va_recv hK hP (ci := 1) (q0 := 1) rfl rfl) hP hK hZ hS rfl hl.1 rfl (Nat.le_of_ble_eq_true rfl) d_A_isLastOf_42 ⟨Nat.zero_le _, Nat.zero_le _⟩ (fun r_42 u_42 H locs hw hP hS => ?_)
              subst hw
              have hP : va_P D vwCl (xw cI a w h Q ff hd bl rs hs ts rc hc tc) H := hP
              refine lv_iload_n hx hb d_A_isLastOf_45 rfl (lv_at hl 3 rfl) ?_
              refine lv_icmp_ne (tgt := 51) hx hb d_A_isLastOf_46 (by decide) (fun c_46 => ?_) (fun c_46 => ?_)
              · refine lv_iinc (v := (nI (i + 1))) (lv' := [(3, .int (nI (i + 1))), (4, .int (nI (f))), (0, .ref (a 1)), (1, .int (nI (r))), (2, .int (nI (z)))]) hx hb d_A_isLastOf_51 hl (k := 4) rfl (nI_add _ _) (by decide) rfl (fun ls hl => ?_)
                refine lv_goto (tgt := 15) hx hb d_A_isLastOf_54 (by decide) ?_
                exact ih_15 (i + 1) (by omega) (by rw [rt_px_succ, ho_26]; exact rt_la_s hI (fun _ => by first | (rw [c_34] at *; contradiction) | exact fun q => c_46 (rt_st_mk q))) _ _ _ hP hS (lv_sub hl [2, 3, 4, 0] rfl)
              · refine lv_iconst (v := (nI (0))) hx hb d_A_isLastOf_49 (by decide) ?_
                exact w_zret (v := false) () hx hb hr hlocks hS hP (congrArg rt_b (rt_la_n (f := f) (rt_mem_nx.mpr ⟨i, by omega, ho_26, c_34⟩) (rt_st_eq (rt_ok_s hG.2.2 (f / 2)) hz c_46)).symm) d_A_isLastOf_50
    exact LP_15 3 0 (by omega) (fun f hf => by cases hf) _ _ _ hP hS (lv_sub hl [1, 2, 3, 0] rfl)
  · refine lv_iconst (v := (nI (0))) hx hb d_A_isLastOf_11 (by decide) ?_
    exact w_zret (v := false) () hx hb hr hlocks hS hP (congrArg rt_b (rt_la_f (fun q => c_8 (rt_st_mk q))).symm) d_A_isLastOf_12
