/-! a side within 4 and 20; static methods without a world -/
def rt_sd (x : Int32) : Nat := if x < nI 4 then 4 else if nI 20 < x then 20 else x.toNatClampNeg
theorem rt_sd_lo {x : Int32} (h : x < nI 4) : rt_sd x = 4 := if_pos h
theorem rt_sd_hi {x : Int32} (h : nI 20 < x) : rt_sd x = 20 := by
  have h1 : ¬ x < nI 4 := by
    rw [Int32.lt_iff_toInt_lt, nI_toInt (by decide)] at h ⊢
    omega
  unfold rt_sd
  rw [if_neg h1, if_pos h]
theorem rt_sd_in {x : Int32} (h1 : ¬ x < nI 4) (h2 : ¬ nI 20 < x) : 4 ≤ rt_sd x ∧ rt_sd x ≤ 20 ∧ x = nI (rt_sd x) := by
  have e : rt_sd x = x.toNatClampNeg := by
    unfold rt_sd
    rw [if_neg h1, if_neg h2]
  rw [Int32.lt_iff_toInt_lt, nI_toInt (by decide)] at h1 h2
  rw [e]
  have h3 : x.toNatClampNeg = x.toInt.toNat := rfl
  refine ⟨by omega, by omega, ?_⟩
  apply Int32.toInt_inj.mp
  rw [nI_toInt (by omega)]
  omega
theorem rt_sd_bd (x : Int32) : 4 ≤ rt_sd x ∧ rt_sd x ≤ 20 := by
  by_cases h1 : x < nI 4
  · rw [rt_sd_lo h1]; decide
  · by_cases h2 : nI 20 < x
    · rw [rt_sd_hi h2]; decide
    · exact ⟨(rt_sd_in h1 h2).1, (rt_sd_in h1 h2).2.1⟩
theorem rt_sd_mm (x : Int32) : (if nI 4 < (if x < nI 20 then x else nI 20) then (if x < nI 20 then x else nI 20) else nI 4) = nI (rt_sd x) := by
  by_cases h1 : x < nI 4
  · rw [rt_sd_lo h1]
    have h2 : x < nI 20 := by
      rw [Int32.lt_iff_toInt_lt, nI_toInt (by decide)] at h1 ⊢
      omega
    rw [if_pos h2]
    have h3 : ¬ nI 4 < x := by
      rw [Int32.lt_iff_toInt_lt, nI_toInt (by decide)] at h1 ⊢
      omega
    rw [if_neg h3]
  · by_cases h2 : nI 20 < x
    · rw [rt_sd_hi h2]
      have h3 : ¬ x < nI 20 := by
        rw [Int32.lt_iff_toInt_lt, nI_toInt (by decide)] at h2 ⊢
        omega
      rw [if_neg h3]
      rfl
    · obtain ⟨g1, g2, g3⟩ := rt_sd_in h1 h2
      have h4 : (if x < nI 20 then x else nI 20) = x := by
        by_cases h5 : x < nI 20
        · rw [if_pos h5]
        · rw [if_neg h5]
          apply Int32.toInt_inj.mp
          rw [Int32.lt_iff_toInt_lt, nI_toInt (by decide)] at h2 h5
          rw [nI_toInt (by decide)]
          omega
      rw [h4]
      by_cases h6 : nI 4 < x
      · rw [if_pos h6]; exact g3
      · rw [if_neg h6]
        rw [Int32.lt_iff_toInt_lt, nI_toInt (by decide)] at h1 h6
        have h7 : rt_sd x = 4 := by
          have h8 := congrArg Int32.toInt g3
          rw [nI_toInt (by omega)] at h8
          omega
        rw [h7]
section MS
variable {p : Program} {l : Launch} {e : Env} {R : Room} {s : State} {m : MethodId} {args : Array Value} {below : List Frame} {meth : Method} {c : Code} {H : Heap} {locs : List Loc} {cells slots : Nat} {Q : State → Prop}
variable {cc : ByteArray} {pc : Nat} {ls : Array Slot} {rest st0 As : List Value} {D : va_G} {A : Nat → Prop} {ws : va_W}
variable {y : MethodName} {bytes : ByteArray} {maxL nL n index : Nat} {ret : Option FieldType} {rm : Room} {own : String} {K0 : State → Prop}
theorem w_s0 {post : Int32 → Prop} (F : CallFix p m c cc nL s args tG own) (hM : Met l y (.code y bytes maxL ret :: tG) rm (va_Pc As K0) (va_Qi (S := Unit) (fun r _ => post r) (fun _ _ => True) (fun _ => False)) 0 0 (fun _ => False)) (hbl : FrameBlind (va_Pc As K0)) (hk0 : ∀ U : State, U.heap = H → s.WarmedH U.vm → K0 U) (cw : CallB R s args own index y bytes maxL ret (.code y bytes maxL ret :: tG) rm 0 0 n ∧ (Cond.static y).before args s = true)
    (hP : va_P D vwCl ws H) (hS : va_S A s.heap H locs) (hn : As.length = n) (hsz : ls.size = nL) (hst : st0 = As.reverse ++ rest) (hW : (rest.map fun v => v.category).sum ≤ 8) (hdg : decode cc pc = .ok (.invokestatic index, 3)) (hf : cells ≤ R.cells ∧ slots ≤ R.slots)
    (kk : ∀ (r : Int32) (H1 : Heap) (locs1 : List Loc), post r → va_P D vwCl ws H1 → va_S A s.heap H1 locs1 → W p l e R s m args below meth c H1 locs1 cells slots Q (F0 m (pc + 3) ls (.int r :: rest))) : W p l e R s m args below meth c H locs cells slots Q (F0 m pc ls st0) :=
  va_calli (va_runS (As := As) (rest := rest) F hM cw ⟨hbl, fun U hU hW => ⟨rfl, hk0 U hU hW⟩⟩ rfl hn hsz hst (lv_room hW) hdg hf) hS (fun _ _ h => h.elim) (fun _ h => h.elim) (fun r u t H1 locs1 ht _ hw _ _ hk hS1 => kk r H1 locs1 hw (hP.kept (fun k q hq => hk q.1 (hP k q hq).lt (fun h => h))) hS1)
end MS
set_option maxHeartbeats 4000000 in
theorem c_R_sideWithin (l : Launch) (x : Int32) : Met l y_R_sideWithin (.code y_R_sideWithin b_R_sideWithin 1 (some .int) :: tG) ({ frames := 1, cells := 0, slots := 0, locals := 16 }) (va_Pc [.int x] (fun _ => True)) (va_Qi (S := Unit) (fun r _ => r = nI (rt_sd x)) (fun _ _ => True) (fun _ => False)) 0 0 (fun _ => False) := by
  refine Met.ofW (cc := b_R_sideWithin) (maxL := 1) (ret := (some .int)) (by decide) rfl ?_
  intro p e s m args below meth c s₁ BD9 hml hv
  obtain ⟨rfl, -⟩ := hv
  have hx := BD9.exec
  have hb := BD9.bytes
  have hr := BD9.returns
  have hts : ∀ w ∈ tG, w.before _ s = true := fun w hw => atoms_spec (ws := .code y_R_sideWithin b_R_sideWithin 1 (some .int) :: tG) BD9.pre w (List.mem_cons_of_mem _ hw)
  have hown : s.vm.findClass rn_R = some m.cls := findClass_of_methodNamed BD9.named
  have hlocks := BD9.notSynchronized
  have hS : va_S (fun _ => False) s.heap s.heap [] := va_S.rf
  have hl := lv_entry ([.int x]) (n := 1) (Nat.le_of_ble_eq_true rfl)
  rw [lg_entry_eq]
  generalize (lg_sl ([.int x]) ++ List.replicate (1 - (lg_sl ([.int x])).length) Slot.unset).toArray = ls at hl ⊢
  have hl : lv_has ls 1 [(0, .int x)] := hl
  refine lv_iconst (v := nI 4) hx hb d_R_sideWithin_0 (by decide) ?_
  refine lv_bipush (v := nI 20) hx hb d_R_sideWithin_1 (by decide) ?_
  refine lv_iload_n hx hb d_R_sideWithin_3 rfl (lv_at hl 0 rfl) ?_
  refine va_mmin hx hb (hml.trans hl.1.symm) hown (hts _ k_methodLink_rn_R_130_y_JM_min) (hts _ k_static_y_JM_min) (hts _ k_initialized_rn_JM) (hts _ k_code_y_JM_min_prog_10_method_69_code_2_some_int) (Nat.le_of_ble_eq_true rfl) (Nat.le_of_ble_eq_true rfl) (Nat.le_of_ble_eq_true rfl) (Nat.le_of_ble_eq_true rfl) d_R_sideWithin_4 ?_
  refine va_mmax hx hb (hml.trans hl.1.symm) hown (hts _ k_methodLink_rn_R_135_y_JM_max) (hts _ k_static_y_JM_max) (hts _ k_initialized_rn_JM) (hts _ k_code_y_JM_max_prog_10_method_65_code_2_some_int) (Nat.le_of_ble_eq_true rfl) (Nat.le_of_ble_eq_true rfl) (Nat.le_of_ble_eq_true rfl) (Nat.le_of_ble_eq_true rfl) d_R_sideWithin_7 ?_
  exact W.iret hx hb hr (fun t ht hW => ⟨⟨_, (), rfl, rt_sd_mm x, trivial⟩, hS.F ht⟩) hS.2.2 d_R_sideWithin_10 hlocks
theorem l_Xbl {b L : Nat} {xs : Nat → Int32} {av : List Value} : FrameBlind (va_Pc av (fun U => va_X b L xs U U.heap)) := by
  rintro a U f mk ⟨h0, h1⟩
  exact ⟨h0, va_X.moved (u := U) (U := U.calling f mk a) (Vm.Alike.refl U.vm) h1⟩
set_option maxHeartbeats 4000000 in
theorem c_L_cell (l : Launch) (b L : Nat) (xs : Nat → Int32) (k : Nat) (hk : k < 2) (hL : L ≤ 2562) : Met l y_L_cell (.code y_L_cell b_L_cell 2 (some .int) :: tG) ({ frames := 0, cells := 0, slots := 0, locals := 0 }) (va_Pc [.ref b, .int (nI k)] (fun U => va_X b L xs U U.heap)) (va_Qi (S := Unit) (fun r _ => r = if k < L then xs k else 0) (fun _ _ => True) (fun _ => False)) 0 0 (fun _ => False) := by
  refine Met.ofW (cc := b_L_cell) (maxL := 2) (ret := (some .int)) (by decide) rfl ?_
  intro p e s m args below meth c s₁ BD9 hml hv
  obtain ⟨rfl, hX⟩ := hv
  have hx := BD9.exec
  have hb := BD9.bytes
  have hr := BD9.returns
  have hlocks := BD9.notSynchronized
  have hbl : b < s.heap.size := by
    obtain ⟨scr, h1, -⟩ := hX
    exact (Array.getElem?_eq_some_iff.mp h1).1
  have hS : va_S (fun _ => False) s.heap s.heap [] := va_S.rf
  have hl := lv_entry ([.ref b, .int (nI k)]) (n := 2) (Nat.le_of_ble_eq_true rfl)
  rw [lg_entry_eq]
  generalize (lg_sl ([.ref b, .int (nI k)]) ++ List.replicate (2 - (lg_sl ([.ref b, .int (nI k)])).length) Slot.unset).toArray = ls at hl ⊢
  have hl : lv_has ls 2 [(0, .ref b), (1, .int (nI k))] := hl
  refine lv_iload_n hx hb d_L_cell_0 rfl (lv_at hl 1 rfl) ?_
  refine lv_aload_n hx hb d_L_cell_1 rfl (lv_at hl 0 rfl) ?_
  refine va_slen hx hb hX hbl (fun h => h) hS d_L_cell_2 ?_
  refine rw_topI (b := nI L) rfl ?_
  refine rw_cge (tgt := 12) hx hb d_L_cell_3 (by decide) (by omega) (by omega) (fun c_3 => ?_) (fun c_3 => ?_)
  · refine lv_iconst (v := nI 0) hx hb d_L_cell_12 (by decide) ?_
    exact W.iret hx hb hr (fun t ht hW => ⟨⟨_, (), rfl, by rw [if_neg (by omega)]; rfl, trivial⟩, hS.F ht⟩) hS.2.2 d_L_cell_13 hlocks
  · refine lv_aload_n hx hb d_L_cell_6 rfl (lv_at hl 0 rfl) ?_
    refine lv_iload_n hx hb d_L_cell_7 rfl (lv_at hl 1 rfl) ?_
    refine va_sld hx hb hX hbl (fun h => h) hS (vp_in_nI (by omega) (by omega)) d_L_cell_8 ?_
    refine lv_goto (tgt := 13) hx hb d_L_cell_9 (by decide) ?_
    exact W.iret hx hb hr (fun t ht hW => ⟨⟨_, (), rfl, by rw [if_pos (by omega), nI_clamp (by omega)], trivial⟩, hS.F ht⟩) hS.2.2 d_L_cell_13 hlocks
