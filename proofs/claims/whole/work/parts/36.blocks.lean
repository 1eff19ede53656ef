/-! Search, blocks: by program (wip/whole/gen/blocks.py) -/
set_option maxHeartbeats 4000000 in
set_option maxRecDepth 100000 in
theorem c_JA_fill (l : Launch) (D : va_G) (cI cZ : ClassId) (g a : Nat → Nat) (ha : xI a) (w h : Nat) (Q : Nat → Nat) (ff : Nat → Int32) (hd bl : Int32) (rs : Nat → Int32) (hs ts : Int32) (rc : Nat → Int32) (hc tc : Int32) (v : Int32) (hG : rt_G w h Q) : Met l y_JA_fill (.code y_JA_fill b_JA_fill 4 none :: tG) ({ frames := 0, cells := 0, slots := 0, locals := 0 }) (va_Pc [.ref (a 5), .int (v)] (wU D cI cZ g (xA a) (xw cI a w h Q ff hd bl rs hs ts rc hc tc))) (va_Qv (S := Unit) (fun _ => True) (wB D (fun (u : Unit) => (xw cI a w h Q (fun _ => v) hd bl rs hs ts rc hc tc))) (xA a)) 0 0 (xA a) := by
  refine Met.ofW (cc := b_JA_fill) (maxL := 4) (ret := none) (by decide) rfl ?_
  intro p e s m args below meth c s₁ BD9 hml hv
  obtain ⟨rfl, hP, hK, hZ⟩ := hv
  have hx := BD9.exec
  have hb := BD9.bytes
  have hr := BD9.returns
  have hts : ∀ w ∈ tG, w.before _ s = true := fun w hw => atoms_spec (ws := .code y_JA_fill b_JA_fill 4 none :: tG) BD9.pre w (List.mem_cons_of_mem _ hw)
  have hown : s.vm.findClass rn_JA = some m.cls := findClass_of_methodNamed BD9.named
  have hlocks := BD9.notSynchronized
  have hS : va_S (xA a) s.heap s.heap [] := va_S.rf
  have hD : va_D (xA a) (xw cI a w h Q ff hd bl rs hs ts rc hc tc) := x_D ha _ rfl
  have hP : va_P D vwCl (xw cI a w h Q ff hd bl rs hs ts rc hc tc) s.heap := hP
  have hl := lv_entry ([.ref (a 5), .int (v)]) (n := 4) (Nat.le_of_ble_eq_true rfl)
  rw [lg_entry_eq]
  generalize (lg_sl ([.ref (a 5), .int (v)]) ++ List.replicate (4 - (lg_sl ([.ref (a 5), .int (v)])).length) Slot.unset).toArray = ls at hl ⊢
  have hl : lv_has ls 4 [(0, .ref (a 5)), (1, .int (v))] := hl
  obtain ⟨hn1, hn⟩ := hG.n
  have hw0 : 0 < w := by have := hG.1.1; omega
  have hQ := hG.2.2
  refine lv_iconst (v := (nI (0))) hx hb d_JA_fill_0 (by decide) ?_
  refine lv_istore_n (lv' := [(2, .int (nI (0))), (0, .ref (a 5)), (1, .int (v))]) hx hb d_JA_fill_1 rfl hl (by decide) rfl (fun ls hl => ?_)
  refine lv_aload_n hx hb d_JA_fill_2 rfl (lv_at hl 1 rfl) ?_
  refine va_alen (v := nI (12 * (w * h))) hx hb hK hP 5 0 rfl rfl rfl d_JA_fill_3 ?_
  refine lv_istore_n (lv' := [(3, .int (nI (12 * (w * h)))), (2, .int (nI (0))), (0, .ref (a 5)), (1, .int (v))]) hx hb d_JA_fill_4 rfl hl (by decide) rfl (fun ls hl => ?_)
  have hP := x_ff (ff' := fun j => if j < 0 then v else ff j) (fun j hj => (if_neg (Nat.not_lt_zero j)).symm) hP
  have LP_5 : ∀ (n_5 : Nat) (i : Nat), i + n_5 = 12 * (w * h) → ∀ (H : Heap) (locs : List Loc) (ls : Array Slot), va_P D vwCl (xw cI a w h Q (fun j => if j < i then v else ff j) hd bl rs hs ts rc hc tc) H → va_S (xA a) s.heap H locs → lv_has ls 4 [(0, .ref (a 5)), (1, .int (v)), (2, .int (nI (i))), (3, .int (nI (12 * (w * h))))] → W p l e (headSpec (.code y_JA_fill b_JA_fill 4 none :: tG) ({ frames := 0, cells := 0, slots := 0, locals := 0 })).room s m ([.ref (a 5), .int (v)] : List Value).toArray below meth c H locs 0 0 (MQ below (va_Qv (S := Unit) (fun _ => True) (wB D (fun (u : Unit) => (xw cI a w h Q (fun _ => v) hd bl rs hs ts rc hc tc))) (xA a)) ([.ref (a 5), .int (v)] : List Value).toArray s 0 0 (xA a)) (F0 m 5 ls []) := by
    intro n_5
    induction n_5 with
    | zero =>
      intro i hrel_5 H locs ls hP hS hl
      have hD : va_D (xA a) (xw cI a w h Q (fun j => if j < i then v else ff j) hd bl rs hs ts rc hc tc) := x_D ha _ rfl
      refine lv_iload_n hx hb d_JA_fill_5 rfl (lv_at hl 2 rfl) ?_
      refine lv_iload_n hx hb d_JA_fill_6 rfl (lv_at hl 3 rfl) ?_
      refine rw_cge (tgt := 20) hx hb d_JA_fill_7 (by decide) (by omega) (by omega) (fun c_7 => ?_) (fun c_7 => ?_)
      · have hP := x_ff (ff' := fun _ => v) (fun j hj => if_pos (show j < i by omega)) hP
        exact w_vret () hx hb hr hlocks hS hP trivial d_JA_fill_20
      · omega
    | succ n_5 ih_5 =>
      intro i hrel_5 H locs ls hP hS hl
      have hD : va_D (xA a) (xw cI a w h Q (fun j => if j < i then v else ff j) hd bl rs hs ts rc hc tc) := x_D ha _ rfl
      refine lv_iload_n hx hb d_JA_fill_5 rfl (lv_at hl 2 rfl) ?_
      refine lv_iload_n hx hb d_JA_fill_6 rfl (lv_at hl 3 rfl) ?_
      refine rw_cge (tgt := 20) hx hb d_JA_fill_7 (by decide) (by omega) (by omega) (fun c_7 => ?_) (fun c_7 => ?_)
      · omega
      · refine lv_aload_n hx hb d_JA_fill_10 rfl (lv_at hl 0 rfl) ?_
        refine lv_iload_n hx hb d_JA_fill_11 rfl (lv_at hl 2 rfl) ?_
        refine lv_iload_n hx hb d_JA_fill_12 rfl (lv_at hl 1 rfl) ?_
        refine rw_iast (h := (fun j => if j < i + 1 then v else ff j)) hx hb hK hP hD hS 5 0 rfl rfl (by omega) (by omega) (fun j _ => rt_fill ff v i j) d_JA_fill_13 (fun H locs hP hD hS => ?_)
        have hP : va_P D vwCl (xw cI a w h Q (fun j => if j < i + 1 then v else ff j) hd bl rs hs ts rc hc tc) H := hP
        have hD : va_D (xA a) (xw cI a w h Q (fun j => if j < i + 1 then v else ff j) hd bl rs hs ts rc hc tc) := x_D ha _ rfl
        refine lv_iinc (v := (nI (i + 1))) (lv' := [(2, .int (nI (i + 1))), (0, .ref (a 5)), (1, .int (v)), (3, .int (nI (12 * (w * h))))]) hx hb d_JA_fill_14 hl (k := 2) rfl (nI_add _ _) (by decide) rfl (fun ls hl => ?_)
        refine lv_goto (tgt := 5) hx hb d_JA_fill_17 (by decide) ?_
        exact ih_5 (i + 1) (by omega) _ _ _ hP hS (lv_sub hl [1, 2, 0, 3] rfl)
  exact LP_5 (12 * (w * h)) 0 (by omega) _ _ _ hP hS (lv_sub hl [2, 3, 1, 0] rfl)

set_option maxHeartbeats 4000000 in
set_option maxRecDepth 100000 in
theorem c_S_join (l : Launch) (D : va_G) (cI cZ : ClassId) (g a : Nat → Nat) (ha : xI a) (w h : Nat) (Q : Nat → Nat) (ff : Nat → Int32) (hd bl : Int32) (rs : Nat → Int32) (hs ts : Int32) (rc : Nat → Int32) (hc tc : Int32) (F : Nat → Option Nat) (R : Nat → Nat) (n0 y k lo : Nat) (hG : rt_G w h Q) (hk : k < 12 * (w * h)) (hF : rt_bd F) (hcap : F k = none → y < 8 * (w * h)) : Met l y_S_join (.code y_S_join b_S_join 3 none :: tG) ({ frames := 1, cells := 0, slots := 0, locals := 21 }) (va_Pc [.ref (a 4), .int (nI (k)), .int (nI (lo))] (wU D cI cZ g (xA a) (xw cI a w h Q (fun r => rt_o (F r)) hd bl rs hs ts (fun j => nI (R j)) (nI (n0)) (nI (y))))) (va_Qv (S := ((Nat → Option Nat) × (Nat → Nat) × Nat)) (fun u => u = rt_jn F R y k lo) (wB D (fun (u : ((Nat → Option Nat) × (Nat → Nat) × Nat)) => (xw cI a w h Q (fun r => rt_o (u.1 r)) hd bl rs hs ts (fun j => nI (u.2.1 j)) (nI (n0)) (nI (u.2.2))))) (xA a)) 0 0 (xA a) := by
  refine Met.ofW (cc := b_S_join) (maxL := 3) (ret := none) (by decide) rfl ?_
  intro p e s m args below meth c s₁ BD9 hml hv
  obtain ⟨rfl, hP, hK, hZ⟩ := hv
  have hx := BD9.exec
  have hb := BD9.bytes
  have hr := BD9.returns
  have hts : ∀ w ∈ tG, w.before _ s = true := fun w hw => atoms_spec (ws := .code y_S_join b_S_join 3 none :: tG) BD9.pre w (List.mem_cons_of_mem _ hw)
  have hown : s.vm.findClass rn_S = some m.cls := findClass_of_methodNamed BD9.named
  have hlocks := BD9.notSynchronized
  have hS : va_S (xA a) s.heap s.heap [] := va_S.rf
  have hD : va_D (xA a) (xw cI a w h Q (fun r => rt_o (F r)) hd bl rs hs ts (fun j => nI (R j)) (nI (n0)) (nI (y))) := x_D ha _ rfl
  have hP : va_P D vwCl (xw cI a w h Q (fun r => rt_o (F r)) hd bl rs hs ts (fun j => nI (R j)) (nI (n0)) (nI (y))) s.heap := hP
  have hl := lv_entry ([.ref (a 4), .int (nI (k)), .int (nI (lo))]) (n := 3) (Nat.le_of_ble_eq_true rfl)
  rw [lg_entry_eq]
  generalize (lg_sl ([.ref (a 4), .int (nI (k)), .int (nI (lo))]) ++ List.replicate (3 - (lg_sl ([.ref (a 4), .int (nI (k)), .int (nI (lo))])).length) Slot.unset).toArray = ls at hl ⊢
  have hl : lv_has ls 3 [(0, .ref (a 4)), (1, .int (nI (k))), (2, .int (nI (lo)))] := hl
  obtain ⟨hn1, hn⟩ := hG.n
  have hw0 : 0 < w := by have := hG.1.1; omega
  have hQ := hG.2.2
  refine lv_aload_n hx hb d_S_join_0 rfl (lv_at hl 0 rfl) ?_
  refine va_get (D := D) (ci := 2) (v := .ref (a 5)) (C := rn_S) (T := tf_S) (N := 5) hx hb hts in_S hown hK hP 4 rfl rfl 0 (by decide) (hts _ k_fieldLink_rn_S_11_rn_S_found_I) (fun _ h9 => h9) rfl d_S_join_1 ?_
  refine lv_iload_n hx hb d_S_join_4 rfl (lv_at hl 1 rfl) ?_
  refine rw_iald (v := (rt_o (F k))) hx hb hK hP 5 0 rfl rfl (by omega) (by omega) (rfl) d_S_join_5 ?_
  cases ho_6 : F k with
  | none =>
    refine lv_iconst (v := (-1)) hx hb d_S_join_6 (by decide) ?_
    refine lv_icmp_ne (tgt := 25) hx hb d_S_join_7 (by decide) (fun c_7 => ?_) (fun c_7 => ?_)
    · exact absurd rfl c_7
    · refine lv_aload_n hx hb d_S_join_10 rfl (lv_at hl 0 rfl) ?_
      refine va_get (D := D) (ci := 2) (v := .ref (a 5)) (C := rn_S) (T := tf_S) (N := 5) hx hb hts in_S hown hK hP 4 rfl rfl 0 (by decide) (hts _ k_fieldLink_rn_S_11_rn_S_found_I) (fun _ h9 => h9) rfl d_S_join_11 ?_
      refine lv_iload_n hx hb d_S_join_14 rfl (lv_at hl 1 rfl) ?_
      refine lv_iload_n hx hb d_S_join_15 rfl (lv_at hl 2 rfl) ?_
      refine rw_iast (h := (fun r => rt_o (va_up F k (some lo) r))) hx hb hK hP hD hS 5 0 rfl rfl (by omega) (by omega) (fun j _ => rt_updo F k lo j) d_S_join_16 (fun H locs hP hD hS => ?_)
      have hP : va_P D vwCl (xw cI a w h Q (fun r => rt_o (va_up F k (some lo) r)) hd bl rs hs ts (fun j => nI (R j)) (nI (n0)) (nI (y))) H := hP
      have hD : va_D (xA a) (xw cI a w h Q (fun r => rt_o (va_up F k (some lo) r)) hd bl rs hs ts (fun j => nI (R j)) (nI (n0)) (nI (y))) := x_D ha _ rfl
      refine lv_aload_n hx hb d_S_join_17 rfl (lv_at hl 0 rfl) ?_
      refine va_get (D := D) (ci := 2) (v := .ref (a 8)) (C := rn_S) (T := tf_S) (N := 5) hx hb hts in_S hown hK hP 4 rfl rfl 2 (by decide) (hts _ k_fieldLink_rn_S_26_rn_S_curves_LRouteTracks_Queue) (fun _ h9 => h9) rfl d_S_join_18 ?_
      refine lv_iload_n hx hb d_S_join_21 rfl (lv_at hl 1 rfl) ?_
      refine w_cv (As := [.int (nI (k))]) (rest := []) ⟨hx, hb, hml, hown, hts⟩ (c_Q_add_c l D cI cZ g a ha w h Q (fun r => rt_o (va_up F k (some lo) r)) hd bl rs hs ts (fun j => nI (R j)) (nI (n0)) (nI (y)) R n0 y k hG (hcap ho_6)) (cwV 1 hts (t_gV k_methodLink_rn_S_85_y_Q_add k_instanceMethod_y_Q_add k_selects_rn_Q_y_Q_add_y_Q_add k_initialized_rn_Q k_code_y_Q_add_prog_2_method_4_code_2_none) rfl rfl rfl (by decide +kernel) ⟨Nat.le_of_ble_eq_true rfl, Nat.le_of_ble_eq_true rfl⟩) (va_recv hK hP (ci := 0) (q0 := 8) rfl rfl) hP hK hZ hS rfl hl.1 rfl (Nat.le_of_ble_eq_true rfl) d_S_join_22 ⟨Nat.zero_le _, Nat.zero_le _⟩ (fun u_22 H locs hw hP hS => ?_)
      have hP : va_P D vwCl (xw cI a w h Q (fun r => rt_o (va_up F k (some lo) r)) hd bl rs hs ts (fun j => nI (va_up R y k j)) (nI (n0)) (nI (y + 1))) H := hP
      have hD : va_D (xA a) (xw cI a w h Q (fun r => rt_o (va_up F k (some lo) r)) hd bl rs hs ts (fun j => nI (va_up R y k j)) (nI (n0)) (nI (y + 1))) := x_D ha _ rfl
      exact w_vret (va_up F k (some lo), va_up R y k, y + 1) hx hb hr hlocks hS hP ((rt_jn_t ho_6).symm) d_S_join_25
  | some b =>
    have hb0 := hF k b ho_6
    refine lv_iconst (v := (-1)) hx hb d_S_join_6 (by decide) ?_
    refine lv_icmp_ne (tgt := 25) hx hb d_S_join_7 (by decide) (fun c_7 => ?_) (fun c_7 => ?_)
    · exact w_vret (F, R, y) hx hb hr hlocks hS hP ((rt_jn_f ho_6).symm) d_S_join_25
    · exact absurd c_7 (rt_o_ne _ (by omega))

set_option maxHeartbeats 4000000 in
set_option maxRecDepth 100000 in
theorem c_S_joinMeeting (l : Launch) (D : va_G) (cI cZ : ClassId) (g a : Nat → Nat) (ha : xI a) (w h : Nat) (Q : Nat → Nat) (ff : Nat → Int32) (hd bl : Int32) (rs : Nat → Int32) (hs ts : Int32) (rc : Nat → Int32) (hc tc : Int32) (G0 F : Nat → Option Nat) (R : Nat → Nat) (n0 y k lo : Nat) (pd : Nat → Prop) (hG : rt_G w h Q) (hlo : lo < 6 * (w * h)) (hBI : rt_bI Q w h G0 lo) (hJ : rt_fJ Q w h G0 lo n0 k F R y pd) (hk : k < 6 * (w * h)) : Met l y_S_joinMeeting (.code y_S_joinMeeting b_S_joinMeeting 7 none :: tG) ({ frames := 2, cells := 0, slots := 0, locals := 43 }) (va_Pc [.ref (a 4), .ref (a 1), .int (nI (k)), .int (nI (lo))] (wU D cI cZ g (xA a) (xw cI a w h Q (fun r => rt_o (F r)) hd bl rs hs ts (fun j => nI (R j)) (nI (n0)) (nI (y))))) (va_Qv (S := ((Nat → Option Nat) × (Nat → Nat) × Nat)) (fun u => rt_fJ Q w h G0 lo n0 k u.1 u.2.1 u.2.2 (fun q => pd q ∧ ¬ rt_meet k q)) (wB D (fun (u : ((Nat → Option Nat) × (Nat → Nat) × Nat)) => (xw cI a w h Q (fun r => rt_o (u.1 r)) hd bl rs hs ts (fun j => nI (u.2.1 j)) (nI (n0)) (nI (u.2.2))))) (xA a)) 0 0 (xA a) := by
  refine Met.ofW (cc := b_S_joinMeeting) (maxL := 7) (ret := none) (by decide) rfl ?_
  intro p e s m args below meth c s₁ BD9 hml hv
  obtain ⟨rfl, hP, hK, hZ⟩ := hv
  have hx := BD9.exec
  have hb := BD9.bytes
  have hr := BD9.returns
  have hts : ∀ w ∈ tG, w.before _ s = true := fun w hw => atoms_spec (ws := .code y_S_joinMeeting b_S_joinMeeting 7 none :: tG) BD9.pre w (List.mem_cons_of_mem _ hw)
  have hown : s.vm.findClass rn_S = some m.cls := findClass_of_methodNamed BD9.named
  have hlocks := BD9.notSynchronized
  have hS : va_S (xA a) s.heap s.heap [] := va_S.rf
  have hD : va_D (xA a) (xw cI a w h Q (fun r => rt_o (F r)) hd bl rs hs ts (fun j => nI (R j)) (nI (n0)) (nI (y))) := x_D ha _ rfl
  have hP : va_P D vwCl (xw cI a w h Q (fun r => rt_o (F r)) hd bl rs hs ts (fun j => nI (R j)) (nI (n0)) (nI (y))) s.heap := hP
  have hl := lv_entry ([.ref (a 4), .ref (a 1), .int (nI (k)), .int (nI (lo))]) (n := 7) (Nat.le_of_ble_eq_true rfl)
  rw [lg_entry_eq]
  generalize (lg_sl ([.ref (a 4), .ref (a 1), .int (nI (k)), .int (nI (lo))]) ++ List.replicate (7 - (lg_sl ([.ref (a 4), .ref (a 1), .int (nI (k)), .int (nI (lo))])).length) Slot.unset).toArray = ls at hl ⊢
  have hl : lv_has ls 7 [(0, .ref (a 4)), (1, .ref (a 1)), (2, .int (nI (k))), (3, .int (nI (lo)))] := hl
  obtain ⟨hn1, hn⟩ := hG.n
  have hw0 : 0 < w := by have := hG.1.1; omega
  have hQ := hG.2.2
  refine lv_iload_n hx hb d_S_joinMeeting_0 rfl (lv_at hl 2 rfl) ?_
  refine lv_bipush (v := (nI (6))) hx hb d_S_joinMeeting_1 (by decide) ?_
  refine rw_rem hx hb d_S_joinMeeting_3 (by omega) (by omega) (by omega) ?_
  refine lv_istore (lv' := [(4, .int (nI (k % 6))), (0, .ref (a 4)), (1, .ref (a 1)), (2, .int (nI (k))), (3, .int (nI (lo)))]) hx hb d_S_joinMeeting_4 hl (by decide) rfl (fun ls hl => ?_)
  refine lv_iload_n hx hb d_S_joinMeeting_6 rfl (lv_at hl 3 rfl) ?_
  refine lv_iload hx hb d_S_joinMeeting_7 (lv_at hl 0 rfl) ?_
  refine rw_sub hx hb d_S_joinMeeting_9 (by omega) ?_
  refine lv_istore (lv' := [(5, .int (nI (k - (k % 6)))), (4, .int (nI (k % 6))), (0, .ref (a 4)), (1, .ref (a 1)), (2, .int (nI (k))), (3, .int (nI (lo)))]) hx hb d_S_joinMeeting_10 hl (by decide) rfl (fun ls hl => ?_)
  refine lv_iconst (v := (nI (0))) hx hb d_S_joinMeeting_12 (by decide) ?_
  refine lv_istore (lv' := [(6, .int (nI (0))), (5, .int (nI (k - (k % 6)))), (4, .int (nI (k % 6))), (0, .ref (a 4)), (1, .ref (a 1)), (2, .int (nI (k))), (3, .int (nI (lo)))]) hx hb d_S_joinMeeting_13 hl (by decide) rfl (fun ls hl => ?_)
  have LP_15 : ∀ (n_15 : Nat) (i : Nat) (F : Nat → Option Nat) (R : Nat → Nat) (y : Nat), i + n_15 = 6 → (rt_fJ Q w h G0 lo n0 k F R y (fun q => pd q ∧ ¬ (rt_meet k q ∧ q % 6 < i))) → ∀ (H : Heap) (locs : List Loc) (ls : Array Slot), va_P D vwCl (xw cI a w h Q (fun r => rt_o (F r)) hd bl rs hs ts (fun j => nI (R j)) (nI (n0)) (nI (y))) H → va_S (xA a) s.heap H locs → lv_has ls 7 [(0, .ref (a 4)), (1, .ref (a 1)), (2, .int (nI (k))), (3, .int (nI (lo))), (4, .int (nI (k % 6))), (5, .int (nI (k - k % 6))), (6, .int (nI (i)))] → W p l e (headSpec (.code y_S_joinMeeting b_S_joinMeeting 7 none :: tG) ({ frames := 2, cells := 0, slots := 0, locals := 43 })).room s m ([.ref (a 4), .ref (a 1), .int (nI (k)), .int (nI (lo))] : List Value).toArray below meth c H locs 0 0 (MQ below (va_Qv (S := ((Nat → Option Nat) × (Nat → Nat) × Nat)) (fun u => rt_fJ Q w h G0 lo n0 k u.1 u.2.1 u.2.2 (fun q => pd q ∧ ¬ rt_meet k q)) (wB D (fun (u : ((Nat → Option Nat) × (Nat → Nat) × Nat)) => (xw cI a w h Q (fun r => rt_o (u.1 r)) hd bl rs hs ts (fun j => nI (u.2.1 j)) (nI (n0)) (nI (u.2.2))))) (xA a)) ([.ref (a 4), .ref (a 1), .int (nI (k)), .int (nI (lo))] : List Value).toArray s 0 0 (xA a)) (F0 m 15 ls []) := by
    intro n_15
    induction n_15 with
    | zero =>
      intro i F R y hrel_15 hI H locs ls hP hS hl
      have hD : va_D (xA a) (xw cI a w h Q (fun r => rt_o (F r)) hd bl rs hs ts (fun j => nI (R j)) (nI (n0)) (nI (y))) := x_D ha _ rfl
      refine lv_iload hx hb d_S_joinMeeting_15 (lv_at hl 6 rfl) ?_
      refine lv_bipush (v := (nI (6))) hx hb d_S_joinMeeting_17 (by decide) ?_
      refine rw_cge (tgt := 61) hx hb d_S_joinMeeting_19 (by decide) (by omega) (by omega) (fun c_19 => ?_) (fun c_19 => ?_)
      · exact w_vret (F, R, y) hx hb hr hlocks hS hP (rt_fJ_weak hI (fun q ht hq => ⟨hq.1, fun z => hq.2 ⟨z, by have : q % 6 < 6 := Nat.mod_lt _ (by decide); omega⟩⟩)) d_S_joinMeeting_61
      · omega
    | succ n_15 ih_15 =>
      intro i F R y hrel_15 hI H locs ls hP hS hl
      have hD : va_D (xA a) (xw cI a w h Q (fun r => rt_o (F r)) hd bl rs hs ts (fun j => nI (R j)) (nI (n0)) (nI (y))) := x_D ha _ rfl
      refine lv_iload hx hb d_S_joinMeeting_15 (lv_at hl 6 rfl) ?_
      refine lv_bipush (v := (nI (6))) hx hb d_S_joinMeeting_17 (by decide) ?_
      refine rw_cge (tgt := 61) hx hb d_S_joinMeeting_19 (by decide) (by omega) (by omega) (fun c_19 => ?_) (fun c_19 => ?_)
      · omega
      · refine va_gets hx hb hZ.2.2.1 hS hown (hts _ k_fieldLink_rn_S_75_rn_S_APART_I) (fun _ h9 => h9) d_S_joinMeeting_22 ?_
        refine lv_iload hx hb d_S_joinMeeting_25 (lv_at hl 4 rfl) ?_
        refine va_ti hx hb hZ.2.2.2 hS (vp_in_nI (by omega) (by omega)) (v := .int (rt_apI (k % 6))) (by rw [nI_clamp (by omega)]) d_S_joinMeeting_27 ?_
        refine lv_iload hx hb d_S_joinMeeting_28 (lv_at hl 6 rfl) ?_
        refine lv_icmp_eq (tgt := 55) hx hb d_S_joinMeeting_30 (by decide) (fun c_30 => ?_) (fun c_30 => ?_)
        · refine lv_iinc (v := (nI (i + 1))) (lv' := [(6, .int (nI (i + 1))), (0, .ref (a 4)), (1, .ref (a 1)), (2, .int (nI (k))), (3, .int (nI (lo))), (4, .int (nI (k % 6))), (5, .int (nI (k - k % 6)))]) hx hb d_S_joinMeeting_55 hl (k := 6) rfl (nI_add _ _) (by decide) rfl (fun ls hl => ?_)
          refine lv_goto (tgt := 15) hx hb d_S_joinMeeting_58 (by decide) ?_
          exact ih_15 (i + 1) F R y (by omega) (rt_fJ_m1 hI (fun q ht hm e => hm.2 (((rt_apI_ap _ (Nat.mod_lt _ (by decide)) _ (by omega)).mp c_30).trans e.symm))) _ _ _ hP hS (lv_sub hl [1, 2, 3, 4, 5, 6, 0] rfl)
        · refine lv_aload_n hx hb d_S_joinMeeting_33 rfl (lv_at hl 1 rfl) ?_
          refine lv_iload hx hb d_S_joinMeeting_34 (lv_at hl 5 rfl) ?_
          refine lv_iload hx hb d_S_joinMeeting_36 (lv_at hl 6 rfl) ?_
          refine rw_add hx hb d_S_joinMeeting_38 ?_
          refine w_ci (As := [.int (nI ((k - k % 6) + i))]) (rest := []) ⟨hx, hb, hml, hown, hts⟩ (c_A_isThere l D cI cZ g a ha w h Q (fun r => rt_o (F r)) hd bl rs hs ts (fun j => nI (R j)) (nI (n0)) (nI (y)) ((k - k % 6) + i) hG (by omega)) (cwV 1 hts (t_gV k_methodLink_rn_S_45_y_A_isThere k_instanceMethod_y_A_isThere k_selects_rn_A_y_A_isThere_y_A_isThere k_initialized_rn_A k_code_y_A_isThere_prog_3_method_5_code_2_some_boolean) rfl rfl rfl (by decide +kernel) ⟨Nat.le_of_ble_eq_true rfl, Nat.le_of_ble_eq_true rfl⟩) (va_recv hK hP (ci := 1) (q0 := 1) rfl rfl) hP hK hZ hS rfl hl.1 rfl (Nat.le_of_ble_eq_true rfl) d_S_joinMeeting_39 ⟨Nat.zero_le _, Nat.zero_le _⟩ (fun r_39 u_39 H locs hw hP hS => ?_)
          subst hw
          have hP : va_P D vwCl (xw cI a w h Q (fun r => rt_o (F r)) hd bl rs hs ts (fun j => nI (R j)) (nI (n0)) (nI (y))) H := hP
          refine rw_beq (tgt := 55) hx hb d_S_joinMeeting_42 (by decide) (fun c_42 => ?_) (fun c_42 => ?_)
          · refine lv_iinc (v := (nI (i + 1))) (lv' := [(6, .int (nI (i + 1))), (0, .ref (a 4)), (1, .ref (a 1)), (2, .int (nI (k))), (3, .int (nI (lo))), (4, .int (nI (k % 6))), (5, .int (nI (k - k % 6)))]) hx hb d_S_joinMeeting_55 hl (k := 6) rfl (nI_add _ _) (by decide) rfl (fun ls hl => ?_)
            refine lv_goto (tgt := 15) hx hb d_S_joinMeeting_58 (by decide) ?_
            exact ih_15 (i + 1) F R y (by omega) (rt_fJ_m1 hI (fun q ht hm e => of_decide_eq_false c_42 (by rw [show k - k % 6 + i = q by have := hm.1; omega]; exact ht.2.1))) _ _ _ hP hS (lv_sub hl [1, 2, 3, 4, 5, 6, 0] rfl)
          · have htc : rt_tc Q w h k (k - k % 6 + i) := ⟨rt_fJ_k hI, of_decide_eq_true c_42, Or.inl ⟨by omega, by rw [show (k - k % 6 + i) % 6 = i by omega]; exact fun z => c_30 ((rt_apI_ap _ (Nat.mod_lt _ (by decide)) _ (by omega)).mpr z)⟩⟩
            refine lv_aload_n hx hb d_S_joinMeeting_45 rfl (lv_at hl 0 rfl) ?_
            refine lv_iload hx hb d_S_joinMeeting_46 (lv_at hl 5 rfl) ?_
            refine lv_iload hx hb d_S_joinMeeting_48 (lv_at hl 6 rfl) ?_
            refine rw_add hx hb d_S_joinMeeting_50 ?_
            refine lv_iload_n hx hb d_S_joinMeeting_51 rfl (lv_at hl 3 rfl) ?_
            refine w_cv (As := [.int (nI ((k - k % 6) + i)), .int (nI (lo))]) (rest := []) ⟨hx, hb, hml, hown, hts⟩ (c_S_join l D cI cZ g a ha w h Q (fun r => rt_o (F r)) hd bl rs hs ts (fun j => nI (R j)) (nI (n0)) (nI (y)) F R n0 y (k - k % 6 + i) lo hG (by omega) (rt_fI_bd hn hlo hBI hI.1) (rt_fJ_cap hw0 hQ hI htc)) (cwV 2 hts (t_gV k_methodLink_rn_S_56_y_S_join k_instanceMethod_y_S_join k_selects_rn_S_y_S_join_y_S_join k_initialized_rn_S k_code_y_S_join_prog_4_method_7_code_3_none) rfl rfl rfl (by decide +kernel) ⟨Nat.le_of_ble_eq_true rfl, Nat.le_of_ble_eq_true rfl⟩) (va_recv hK hP (ci := 2) (q0 := 4) rfl rfl) hP hK hZ hS rfl hl.1 rfl (Nat.le_of_ble_eq_true rfl) d_S_joinMeeting_52 ⟨Nat.zero_le _, Nat.zero_le _⟩ (fun u_52 H locs hw hP hS => ?_)
            have hJ2 := rt_fJ_jn hw0 hQ hBI hI htc
            rw [← hw] at hJ2
            obtain ⟨F1, R1, y1⟩ := u_52
            have hP : va_P D vwCl (xw cI a w h Q (fun r => rt_o (F1 r)) hd bl rs hs ts (fun j => nI (R1 j)) (nI (n0)) (nI (y1))) H := hP
            have hD : va_D (xA a) (xw cI a w h Q (fun r => rt_o (F1 r)) hd bl rs hs ts (fun j => nI (R1 j)) (nI (n0)) (nI (y1))) := x_D ha _ rfl
            refine lv_iinc (v := (nI (i + 1))) (lv' := [(6, .int (nI (i + 1))), (0, .ref (a 4)), (1, .ref (a 1)), (2, .int (nI (k))), (3, .int (nI (lo))), (4, .int (nI (k % 6))), (5, .int (nI (k - k % 6)))]) hx hb d_S_joinMeeting_55 hl (k := 6) rfl (nI_add _ _) (by decide) rfl (fun ls hl => ?_)
            refine lv_goto (tgt := 15) hx hb d_S_joinMeeting_58 (by decide) ?_
            exact ih_15 (i + 1) F1 R1 y1 (by omega) (rt_fJ_m2 hJ2) _ _ _ hP hS (lv_sub hl [1, 2, 3, 4, 5, 6, 0] rfl)
  exact LP_15 6 0 F R y (by omega) (rt_fJ_weak hJ (fun q ht hq => ⟨hq, fun z => Nat.not_lt_zero _ z.2⟩)) _ _ _ hP hS (lv_sub hl [3, 4, 5, 6, 2, 1, 0] rfl)

set_option maxHeartbeats 4000000 in
set_option maxRecDepth 100000 in
theorem c_S_joinAcross (l : Launch) (D : va_G) (cI cZ : ClassId) (g a : Nat → Nat) (ha : xI a) (w h : Nat) (Q : Nat → Nat) (ff : Nat → Int32) (hd bl : Int32) (rs : Nat → Int32) (hs ts : Int32) (rc : Nat → Int32) (hc tc : Int32) (G0 F : Nat → Option Nat) (R : Nat → Nat) (n0 y k lo : Nat) (pd : Nat → Prop) (d : Nat) (hG : rt_G w h Q) (hlo : lo < 6 * (w * h)) (hBI : rt_bI Q w h G0 lo) (hJ : rt_fJ Q w h G0 lo n0 k F R y pd) (hk : k < 6 * (w * h)) (hd0 : d < 2) : Met l y_S_joinAcross (.code y_S_joinAcross b_S_joinAcross 6 none :: tG) ({ frames := 2, cells := 0, slots := 0, locals := 43 }) (va_Pc [.ref (a 4), .ref (a 1), .int (nI (2 * k + d)), .int (nI (lo))] (wU D cI cZ g (xA a) (xw cI a w h Q (fun r => rt_o (F r)) hd bl rs hs ts (fun j => nI (R j)) (nI (n0)) (nI (y))))) (va_Qv (S := ((Nat → Option Nat) × (Nat → Nat) × Nat)) (fun u => rt_fJ Q w h G0 lo n0 k u.1 u.2.1 u.2.2 (fun q => pd q ∧ ¬ ∃ j, j < 3 ∧ rt_acr Q w h k d j q)) (wB D (fun (u : ((Nat → Option Nat) × (Nat → Nat) × Nat)) => (xw cI a w h Q (fun r => rt_o (u.1 r)) hd bl rs hs ts (fun j => nI (u.2.1 j)) (nI (n0)) (nI (u.2.2))))) (xA a)) 0 0 (xA a) := by
  refine Met.ofW (cc := b_S_joinAcross) (maxL := 6) (ret := none) (by decide) rfl ?_
  intro p e s m args below meth c s₁ BD9 hml hv
  obtain ⟨rfl, hP, hK, hZ⟩ := hv
  have hx := BD9.exec
  have hb := BD9.bytes
  have hr := BD9.returns
  have hts : ∀ w ∈ tG, w.before _ s = true := fun w hw => atoms_spec (ws := .code y_S_joinAcross b_S_joinAcross 6 none :: tG) BD9.pre w (List.mem_cons_of_mem _ hw)
  have hown : s.vm.findClass rn_S = some m.cls := findClass_of_methodNamed BD9.named
  have hlocks := BD9.notSynchronized
  have hS : va_S (xA a) s.heap s.heap [] := va_S.rf
  have hD : va_D (xA a) (xw cI a w h Q (fun r => rt_o (F r)) hd bl rs hs ts (fun j => nI (R j)) (nI (n0)) (nI (y))) := x_D ha _ rfl
  have hP : va_P D vwCl (xw cI a w h Q (fun r => rt_o (F r)) hd bl rs hs ts (fun j => nI (R j)) (nI (n0)) (nI (y))) s.heap := hP
  have hl := lv_entry ([.ref (a 4), .ref (a 1), .int (nI (2 * k + d)), .int (nI (lo))]) (n := 6) (Nat.le_of_ble_eq_true rfl)
  rw [lg_entry_eq]
  generalize (lg_sl ([.ref (a 4), .ref (a 1), .int (nI (2 * k + d)), .int (nI (lo))]) ++ List.replicate (6 - (lg_sl ([.ref (a 4), .ref (a 1), .int (nI (2 * k + d)), .int (nI (lo))])).length) Slot.unset).toArray = ls at hl ⊢
  have hl : lv_has ls 6 [(0, .ref (a 4)), (1, .ref (a 1)), (2, .int (nI (2 * k + d))), (3, .int (nI (lo)))] := hl
  obtain ⟨hn1, hn⟩ := hG.n
  have hw0 : 0 < w := by have := hG.1.1; omega
  have hQ := hG.2.2
  refine lv_aload_n hx hb d_S_joinAcross_0 rfl (lv_at hl 1 rfl) ?_
  refine lv_iload_n hx hb d_S_joinAcross_1 rfl (lv_at hl 2 rfl) ?_
  refine w_ci (As := [.int (nI (2 * k + d))]) (rest := []) ⟨hx, hb, hml, hown, hts⟩ (c_A_hasSignal l D cI cZ g a ha w h Q (fun r => rt_o (F r)) hd bl rs hs ts (fun j => nI (R j)) (nI (n0)) (nI (y)) (2 * k + d) hG (by omega)) (cwV 1 hts (t_gV k_methodLink_rn_S_78_y_A_hasSignal k_instanceMethod_y_A_hasSignal k_selects_rn_A_y_A_hasSignal_y_A_hasSignal k_initialized_rn_A k_code_y_A_hasSignal_prog_3_method_10_code_3_some_boolean) rfl rfl rfl (by decide +kernel) ⟨Nat.le_of_ble_eq_true rfl, Nat.le_of_ble_eq_true rfl⟩) (va_recv hK hP (ci := 1) (q0 := 1) rfl rfl) hP hK hZ hS rfl hl.1 rfl (Nat.le_of_ble_eq_true rfl) d_S_joinAcross_2 ⟨Nat.zero_le _, Nat.zero_le _⟩ (fun r_2 u_2 H locs hw hP hS => ?_)
  subst hw
  have hP : va_P D vwCl (xw cI a w h Q (fun r => rt_o (F r)) hd bl rs hs ts (fun j => nI (R j)) (nI (n0)) (nI (y))) H := hP
  refine rw_beq (tgt := 9) hx hb d_S_joinAcross_5 (by decide) (fun c_5 => ?_) (fun c_5 => ?_)
  · refine lv_iconst (v := (nI (0))) hx hb d_S_joinAcross_9 (by decide) ?_
    refine lv_istore (lv' := [(4, .int (nI (0))), (0, .ref (a 4)), (1, .ref (a 1)), (2, .int (nI (2 * k + d))), (3, .int (nI (lo)))]) hx hb d_S_joinAcross_10 hl (by decide) rfl (fun ls hl => ?_)
    have LP_12 : ∀ (n_12 : Nat) (i : Nat) (F : Nat → Option Nat) (R : Nat → Nat) (y : Nat), i + n_12 = 3 → (rt_fJ Q w h G0 lo n0 k F R y (fun q => pd q ∧ ¬ ∃ j, j < i ∧ rt_acr Q w h k d j q)) → ∀ (H : Heap) (locs : List Loc) (ls : Array Slot), va_P D vwCl (xw cI a w h Q (fun r => rt_o (F r)) hd bl rs hs ts (fun j => nI (R j)) (nI (n0)) (nI (y))) H → va_S (xA a) s.heap H locs → lv_has ls 6 [(0, .ref (a 4)), (1, .ref (a 1)), (2, .int (nI (2 * k + d))), (3, .int (nI (lo))), (4, .int (nI (i)))] → W p l e (headSpec (.code y_S_joinAcross b_S_joinAcross 6 none :: tG) ({ frames := 2, cells := 0, slots := 0, locals := 43 })).room s m ([.ref (a 4), .ref (a 1), .int (nI (2 * k + d)), .int (nI (lo))] : List Value).toArray below meth c H locs 0 0 (MQ below (va_Qv (S := ((Nat → Option Nat) × (Nat → Nat) × Nat)) (fun u => rt_fJ Q w h G0 lo n0 k u.1 u.2.1 u.2.2 (fun q => pd q ∧ ¬ ∃ j, j < 3 ∧ rt_acr Q w h k d j q)) (wB D (fun (u : ((Nat → Option Nat) × (Nat → Nat) × Nat)) => (xw cI a w h Q (fun r => rt_o (u.1 r)) hd bl rs hs ts (fun j => nI (u.2.1 j)) (nI (n0)) (nI (u.2.2))))) (xA a)) ([.ref (a 4), .ref (a 1), .int (nI (2 * k + d)), .int (nI (lo))] : List Value).toArray s 0 0 (xA a)) (F0 m 12 ls []) := by
      intro n_12
      induction n_12 with
      | zero =>
        intro i F R y hrel_12 hI H locs ls hP hS hl
        have hD : va_D (xA a) (xw cI a w h Q (fun r => rt_o (F r)) hd bl rs hs ts (fun j => nI (R j)) (nI (n0)) (nI (y))) := x_D ha _ rfl
        refine lv_iload hx hb d_S_joinAcross_12 (lv_at hl 4 rfl) ?_
        refine lv_iconst (v := (nI (3))) hx hb d_S_joinAcross_14 (by decide) ?_
        refine rw_cge (tgt := 70) hx hb d_S_joinAcross_15 (by decide) (by omega) (by omega) (fun c_15 => ?_) (fun c_15 => ?_)
        · exact w_vret (F, R, y) hx hb hr hlocks hS hP ((by rw [show i = 3 by omega] at hI; exact hI)) d_S_joinAcross_70
        · omega
      | succ n_12 ih_12 =>
        intro i F R y hrel_12 hI H locs ls hP hS hl
        have hD : va_D (xA a) (xw cI a w h Q (fun r => rt_o (F r)) hd bl rs hs ts (fun j => nI (R j)) (nI (n0)) (nI (y))) := x_D ha _ rfl
        refine lv_iload hx hb d_S_joinAcross_12 (lv_at hl 4 rfl) ?_
        refine lv_iconst (v := (nI (3))) hx hb d_S_joinAcross_14 (by decide) ?_
        refine rw_cge (tgt := 70) hx hb d_S_joinAcross_15 (by decide) (by omega) (by omega) (fun c_15 => ?_) (fun c_15 => ?_)
        · omega
        · refine lv_aload_n hx hb d_S_joinAcross_18 rfl (lv_at hl 1 rfl) ?_
          refine lv_iload_n hx hb d_S_joinAcross_19 rfl (lv_at hl 2 rfl) ?_
          refine lv_iload hx hb d_S_joinAcross_20 (lv_at hl 4 rfl) ?_
          refine w_ci (As := [.int (nI (2 * k + d)), .int (nI (i))]) (rest := []) ⟨hx, hb, hml, hown, hts⟩ (c_A_ahead l D cI cZ g a ha w h Q (fun r => rt_o (F r)) hd bl rs hs ts (fun j => nI (R j)) (nI (n0)) (nI (y)) (2 * k + d) i hG (by omega) (by omega)) (cwV 2 hts (t_gV k_methodLink_rn_S_81_y_A_ahead k_instanceMethod_y_A_ahead k_selects_rn_A_y_A_ahead_y_A_ahead k_initialized_rn_A k_code_y_A_ahead_prog_3_method_14_code_5_some_int) rfl rfl rfl (by decide +kernel) ⟨Nat.le_of_ble_eq_true rfl, Nat.le_of_ble_eq_true rfl⟩) (va_recv hK hP (ci := 1) (q0 := 1) rfl rfl) hP hK hZ hS rfl hl.1 rfl (Nat.le_of_ble_eq_true rfl) d_S_joinAcross_22 ⟨Nat.zero_le _, Nat.zero_le _⟩ (fun r_22 u_22 H locs hw hP hS => ?_)
          subst hw
          have hP : va_P D vwCl (xw cI a w h Q (fun r => rt_o (F r)) hd bl rs hs ts (fun j => nI (R j)) (nI (n0)) (nI (y))) H := hP
          cases ho_25 : rt_ah w h (2 * k + d) i with
          | none =>
            refine lv_istore (lv' := [(5, .int (-1)), (0, .ref (a 4)), (1, .ref (a 1)), (2, .int (nI (2 * k + d))), (3, .int (nI (lo))), (4, .int (nI (i)))]) hx hb d_S_joinAcross_25 hl (by decide) rfl (fun ls hl => ?_)
            refine lv_iload hx hb d_S_joinAcross_27 (lv_at hl 0 rfl) ?_
            refine lv_iconst (v := (-1)) hx hb d_S_joinAcross_29 (by decide) ?_
            refine lv_icmp_eq (tgt := 64) hx hb d_S_joinAcross_30 (by decide) (fun c_30 => ?_) (fun c_30 => ?_)
            · refine lv_iinc (v := (nI (i + 1))) (lv' := [(4, .int (nI (i + 1))), (5, .int (-1)), (0, .ref (a 4)), (1, .ref (a 1)), (2, .int (nI (2 * k + d))), (3, .int (nI (lo)))]) hx hb d_S_joinAcross_64 hl (k := 5) rfl (nI_add _ _) (by decide) rfl (fun ls hl => ?_)
              refine lv_goto (tgt := 12) hx hb d_S_joinAcross_67 (by decide) ?_
              exact ih_12 (i + 1) F R y (by omega) (rt_fJ_a1 hI (fun q ht hm => by obtain ⟨-, b2, h1, -⟩ := hm; rw [ho_25] at h1; cases h1)) _ _ _ hP hS (lv_sub hl [2, 3, 4, 5, 0] rfl)
            · exact absurd rfl c_30
          | some b =>
            have hb9 := (rt_ah_back hw0 (show 2 * k + d < 12 * (w * h) by omega) (by omega) ho_25).1
            refine lv_istore (lv' := [(5, .int (nI (b))), (0, .ref (a 4)), (1, .ref (a 1)), (2, .int (nI (2 * k + d))), (3, .int (nI (lo))), (4, .int (nI (i)))]) hx hb d_S_joinAcross_25 hl (by decide) rfl (fun ls hl => ?_)
            refine lv_iload hx hb d_S_joinAcross_27 (lv_at hl 0 rfl) ?_
            refine lv_iconst (v := (-1)) hx hb d_S_joinAcross_29 (by decide) ?_
            refine lv_icmp_eq (tgt := 64) hx hb d_S_joinAcross_30 (by decide) (fun c_30 => ?_) (fun c_30 => ?_)
            · exact absurd c_30 (rt_o_ne _ (by omega))
            · refine lv_aload_n hx hb d_S_joinAcross_33 rfl (lv_at hl 2 rfl) ?_
              refine lv_iload hx hb d_S_joinAcross_34 (lv_at hl 0 rfl) ?_
              refine lv_iconst (v := (nI (2))) hx hb d_S_joinAcross_36 (by decide) ?_
              refine rw_div hx hb d_S_joinAcross_37 (by omega) (by omega) (by omega) ?_
              refine w_ci (As := [.int (nI (b / 2))]) (rest := []) ⟨hx, hb, hml, hown, hts⟩ (c_A_isThere l D cI cZ g a ha w h Q (fun r => rt_o (F r)) hd bl rs hs ts (fun j => nI (R j)) (nI (n0)) (nI (y)) (b / 2) hG (by omega)) (cwV 1 hts (t_gV k_methodLink_rn_S_45_y_A_isThere k_instanceMethod_y_A_isThere k_selects_rn_A_y_A_isThere_y_A_isThere k_initialized_rn_A k_code_y_A_isThere_prog_3_method_5_code_2_some_boolean) rfl rfl rfl (by decide +kernel) ⟨Nat.le_of_ble_eq_true rfl, Nat.le_of_ble_eq_true rfl⟩) (va_recv hK hP (ci := 1) (q0 := 1) rfl rfl) hP hK hZ hS rfl hl.1 rfl (Nat.le_of_ble_eq_true rfl) d_S_joinAcross_38 ⟨Nat.zero_le _, Nat.zero_le _⟩ (fun r_38 u_38 H locs hw hP hS => ?_)
              subst hw
              have hP : va_P D vwCl (xw cI a w h Q (fun r => rt_o (F r)) hd bl rs hs ts (fun j => nI (R j)) (nI (n0)) (nI (y))) H := hP
              refine rw_beq (tgt := 64) hx hb d_S_joinAcross_41 (by decide) (fun c_41 => ?_) (fun c_41 => ?_)
              · refine lv_iinc (v := (nI (i + 1))) (lv' := [(4, .int (nI (i + 1))), (5, .int (nI (b))), (0, .ref (a 4)), (1, .ref (a 1)), (2, .int (nI (2 * k + d))), (3, .int (nI (lo)))]) hx hb d_S_joinAcross_64 hl (k := 5) rfl (nI_add _ _) (by decide) rfl (fun ls hl => ?_)
                refine lv_goto (tgt := 12) hx hb d_S_joinAcross_67 (by decide) ?_
                exact ih_12 (i + 1) F R y (by omega) (rt_fJ_a1 hI (fun q ht hm => by obtain ⟨-, b2, h1, -, h3⟩ := hm; rw [ho_25] at h1; cases h1; rw [h3] at c_41; exact of_decide_eq_false c_41 ht.2.1)) _ _ _ hP hS (lv_sub hl [2, 3, 4, 5, 0] rfl)
              · refine lv_aload_n hx hb d_S_joinAcross_44 rfl (lv_at hl 2 rfl) ?_
                refine lv_iload hx hb d_S_joinAcross_45 (lv_at hl 0 rfl) ?_
                refine lv_iconst (v := (nI (1))) hx hb d_S_joinAcross_47 (by decide) ?_
                refine rw_xor hx hb d_S_joinAcross_48 ?_
                refine rw_top (b := rt_rv b) (rt_rv_xor b) ?_
                refine w_ci (As := [.int (nI (rt_rv b))]) (rest := []) ⟨hx, hb, hml, hown, hts⟩ (c_A_hasSignal l D cI cZ g a ha w h Q (fun r => rt_o (F r)) hd bl rs hs ts (fun j => nI (R j)) (nI (n0)) (nI (y)) (rt_rv b) hG (rt_rv_lt hb9)) (cwV 1 hts (t_gV k_methodLink_rn_S_78_y_A_hasSignal k_instanceMethod_y_A_hasSignal k_selects_rn_A_y_A_hasSignal_y_A_hasSignal k_initialized_rn_A k_code_y_A_hasSignal_prog_3_method_10_code_3_some_boolean) rfl rfl rfl (by decide +kernel) ⟨Nat.le_of_ble_eq_true rfl, Nat.le_of_ble_eq_true rfl⟩) (va_recv hK hP (ci := 1) (q0 := 1) rfl rfl) hP hK hZ hS rfl hl.1 rfl (Nat.le_of_ble_eq_true rfl) d_S_joinAcross_49 ⟨Nat.zero_le _, Nat.zero_le _⟩ (fun r_49 u_49 H locs hw hP hS => ?_)
                subst hw
                have hP : va_P D vwCl (xw cI a w h Q (fun r => rt_o (F r)) hd bl rs hs ts (fun j => nI (R j)) (nI (n0)) (nI (y))) H := hP
                refine rw_bne (tgt := 64) hx hb d_S_joinAcross_52 (by decide) (fun c_52 => ?_) (fun c_52 => ?_)
                · refine lv_iinc (v := (nI (i + 1))) (lv' := [(4, .int (nI (i + 1))), (5, .int (nI (b))), (0, .ref (a 4)), (1, .ref (a 1)), (2, .int (nI (2 * k + d))), (3, .int (nI (lo)))]) hx hb d_S_joinAcross_64 hl (k := 5) rfl (nI_add _ _) (by decide) rfl (fun ls hl => ?_)
                  refine lv_goto (tgt := 12) hx hb d_S_joinAcross_67 (by decide) ?_
                  exact ih_12 (i + 1) F R y (by omega) (rt_fJ_a1 hI (fun q ht hm => by obtain ⟨-, b2, h1, h2, -⟩ := hm; rw [ho_25] at h1; cases h1; rw [c_52] at h2; cases h2)) _ _ _ hP hS (lv_sub hl [2, 3, 4, 5, 0] rfl)
                · have htc : rt_tc Q w h k (b / 2) := ⟨rt_fJ_k hI, of_decide_eq_true c_41, Or.inr ⟨d, i, hd0, by omega, c_5, b, ho_25, c_52, rfl⟩⟩
                  refine lv_aload_n hx hb d_S_joinAcross_55 rfl (lv_at hl 1 rfl) ?_
                  refine lv_iload hx hb d_S_joinAcross_56 (lv_at hl 0 rfl) ?_
                  refine lv_iconst (v := (nI (2))) hx hb d_S_joinAcross_58 (by decide) ?_
                  refine rw_div hx hb d_S_joinAcross_59 (by omega) (by omega) (by omega) ?_
                  refine lv_iload_n hx hb d_S_joinAcross_60 rfl (lv_at hl 4 rfl) ?_
                  refine w_cv (As := [.int (nI (b / 2)), .int (nI (lo))]) (rest := []) ⟨hx, hb, hml, hown, hts⟩ (c_S_join l D cI cZ g a ha w h Q (fun r => rt_o (F r)) hd bl rs hs ts (fun j => nI (R j)) (nI (n0)) (nI (y)) F R n0 y (b / 2) lo hG (by omega) (rt_fI_bd hn hlo hBI hI.1) (rt_fJ_cap hw0 hQ hI htc)) (cwV 2 hts (t_gV k_methodLink_rn_S_56_y_S_join k_instanceMethod_y_S_join k_selects_rn_S_y_S_join_y_S_join k_initialized_rn_S k_code_y_S_join_prog_4_method_7_code_3_none) rfl rfl rfl (by decide +kernel) ⟨Nat.le_of_ble_eq_true rfl, Nat.le_of_ble_eq_true rfl⟩) (va_recv hK hP (ci := 2) (q0 := 4) rfl rfl) hP hK hZ hS rfl hl.1 rfl (Nat.le_of_ble_eq_true rfl) d_S_joinAcross_61 ⟨Nat.zero_le _, Nat.zero_le _⟩ (fun u_61 H locs hw hP hS => ?_)
                  have hJ2 := rt_fJ_jn hw0 hQ hBI hI htc
                  rw [← hw] at hJ2
                  obtain ⟨F1, R1, y1⟩ := u_61
                  have hP : va_P D vwCl (xw cI a w h Q (fun r => rt_o (F1 r)) hd bl rs hs ts (fun j => nI (R1 j)) (nI (n0)) (nI (y1))) H := hP
                  have hD : va_D (xA a) (xw cI a w h Q (fun r => rt_o (F1 r)) hd bl rs hs ts (fun j => nI (R1 j)) (nI (n0)) (nI (y1))) := x_D ha _ rfl
                  refine lv_iinc (v := (nI (i + 1))) (lv' := [(4, .int (nI (i + 1))), (5, .int (nI (b))), (0, .ref (a 4)), (1, .ref (a 1)), (2, .int (nI (2 * k + d))), (3, .int (nI (lo)))]) hx hb d_S_joinAcross_64 hl (k := 5) rfl (nI_add _ _) (by decide) rfl (fun ls hl => ?_)
                  refine lv_goto (tgt := 12) hx hb d_S_joinAcross_67 (by decide) ?_
                  exact ih_12 (i + 1) F1 R1 y1 (by omega) (rt_fJ_a2 ho_25 hJ2) _ _ _ hP hS (lv_sub hl [2, 3, 4, 5, 0] rfl)
    exact LP_12 3 0 F R y (by omega) (rt_fJ_weak hJ (fun q ht hq => ⟨hq, fun ⟨j, hj, _⟩ => Nat.not_lt_zero _ hj⟩)) _ _ _ hP hS (lv_sub hl [1, 2, 3, 4, 0] rfl)
  · exact w_vret (F, R, y) hx hb hr hlocks hS hP (rt_fJ_weak hJ (fun q ht hq => ⟨hq, fun ⟨j, _, hm⟩ => by rw [hm.1] at c_5; cases c_5⟩)) d_S_joinAcross_8
