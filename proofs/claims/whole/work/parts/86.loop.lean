/-! THE LAW'S LOOP: by program (wip/whole/gen/loop.py) -/
set_option maxHeartbeats 4000000 in
set_option maxRecDepth 100000 in
theorem l_loop {p : Program} {e : Env} {s : State} {m : MethodId} {below : List Frame} {meth : Method} {c : Code} (l : Launch) (hfl : l.flags = flags0) {D : va_G} {cI cZ : ClassId} {g a d : Nat → Nat} {bq LN : Nat} {xs : Nat → Int32} (w h : Nat) (hx : p.tables.exec = Jvm.exec) (hb : c.code = b_L_law) (hml : c.maxLocals = 5) (hown : s.vm.findClass rn_L = some m.cls) (hts : ∀ w ∈ tG, w.before #[Value.ref bq] s = true) (hK : va_K D vwCl (xT cI cZ) s) (hZ : xZ g (fun q : Nat => s.heap.size ≤ q) s s.heap) (hE : xe_K (fun q : Nat => s.heap.size ≤ q) s s.heap) (ha : xI a) (hd0 : mI d) (hax : ∀ q, xA a q → (fun q : Nat => s.heap.size ≤ q) q) (hdm : ∀ q, mA d q → (fun q : Nat => s.heap.size ≤ q) q) (hapart : ∀ q, xA a q → mA d q → False) (hX : va_X bq LN xs s s.heap) (hbl : bq < s.heap.size) (hLN : LN ≤ 2562) (hr : meth.sig.returnType = ret) (hlocks : meth.locks = false) : ∀ (n k : Nat), k + n = 512 → ∀ (Q : Nat → Nat) (ff : Nat → Int32) (hd bl : Int32) (rs : Nat → Int32) (hs ts : Int32) (rc : Nat → Int32) (hc tc : Int32) (L : Nat → Nat) (cn : Nat) (th : Int32) (kf : Nat → Int32) (Z : Nat → Bool) (pf : Nat → Int32) (H : Heap) (locs : List Loc) (ls : Array Slot), rt_G w h Q → rt_hk Q w h hd ff bl → rt_isL Q L cn → va_P D vwCl (xw cI a w h Q ff hd bl rs hs ts rc hc tc) H → va_P D vwCl (mw cI cZ d w h (fun p => rt_b (decide (Q p ≠ 0))) (fun p => nI (rt_g Q p)) (fun p => nI (rt_s Q p)) (fun i => nI (L i)) cn th kf (fun p => rt_b (Z p)) pf) H → va_S (fun q : Nat => s.heap.size ≤ q) s.heap H locs → lv_has ls 5 [(0, .ref bq), (1, .ref (a 0)), (2, .ref (d 0)), (3, .int (nI (2 + 5 * k)))] → W p l e room_1 s m #[Value.ref bq] below meth c H locs (100 + 3 * k) (40000 + 18 * k) (lw_Z below #[Value.ref bq] s) (F0 m 38 ls []) := by
  intro n
  induction n with
  | zero =>
    intro k hkn Q ff hd bl rs hs ts rc hc tc L cn th kf Z pf H locs ls hG hk0 hL0 hP1 hP2 hS hl
    refine lv_iload_n hx hb d_L_law_38 rfl (lv_at hl 3 rfl) ?_
    refine lv_aload_n hx hb d_L_law_39 rfl (lv_at hl 0 rfl) ?_
    refine va_slen hx hb hX hbl (Nat.not_le.mpr hbl) hS d_L_law_40 ?_
    refine rw_topI (b := nI LN) rfl ?_
    refine lv_iconst (v := nI 5) hx hb d_L_law_41 (by decide) ?_
    refine lv_isub hx hb d_L_law_42 ?_
    refine lv_icmp_gt (tgt := 609) hx hb d_L_law_43 (by decide) (fun c9 => ?_) (fun c9 => ?_)
    · refine lv_iconst (v := 1) hx hb d_L_law_609 (by decide) ?_
      exact va_forget (fun q hq => hS.2.2 q hq) (W.widen (by omega) (by omega) (lw_ret hx hb hr hlocks d_L_law_610))
    · exact absurd ((l_gt (by omega) (by omega)).mpr (by omega)) c9
  | succ n ih =>
    intro k hkn Q ff hd bl rs hs ts rc hc tc L cn th kf Z pf H locs ls hG hk0 hL0 hP1 hP2 hS hl
    refine lv_iload_n hx hb d_L_law_38 rfl (lv_at hl 3 rfl) ?_
    refine lv_aload_n hx hb d_L_law_39 rfl (lv_at hl 0 rfl) ?_
    refine va_slen hx hb hX hbl (Nat.not_le.mpr hbl) hS d_L_law_40 ?_
    refine rw_topI (b := nI LN) rfl ?_
    refine lv_iconst (v := nI 5) hx hb d_L_law_41 (by decide) ?_
    refine lv_isub hx hb d_L_law_42 ?_
    refine lv_icmp_gt (tgt := 609) hx hb d_L_law_43 (by decide) (fun c9 => ?_) (fun c9 => ?_)
    · refine lv_iconst (v := 1) hx hb d_L_law_609 (by decide) ?_
      exact va_forget (fun q hq => hS.2.2 q hq) (W.widen (by omega) (by omega) (lw_ret hx hb hr hlocks d_L_law_610))
    · have hk5 : 2 + 5 * k + 5 ≤ LN := by
        rcases Nat.lt_or_ge LN (2 + 5 * k + 5) with z | z
        · exact absurd ((l_gt (by omega) (by omega)).mpr z) c9
        · exact z
      have nx : ∀ (Q : Nat → Nat) (ff : Nat → Int32) (hd bl : Int32) (rs : Nat → Int32) (hs ts : Int32) (rc : Nat → Int32) (hc tc : Int32) (L : Nat → Nat) (cn : Nat) (th : Int32) (kf : Nat → Int32) (Z : Nat → Bool) (pf : Nat → Int32) (H : Heap) (locs : List Loc) (ls : Array Slot), rt_G w h Q → rt_hk Q w h hd ff bl → rt_isL Q L cn → va_P D vwCl (xw cI a w h Q ff hd bl rs hs ts rc hc tc) H → va_P D vwCl (mw cI cZ d w h (fun p => rt_b (decide (Q p ≠ 0))) (fun p => nI (rt_g Q p)) (fun p => nI (rt_s Q p)) (fun i => nI (L i)) cn th kf (fun p => rt_b (Z p)) pf) H → va_S (fun q : Nat => s.heap.size ≤ q) s.heap H locs → lv_has ls 5 [(0, .ref bq), (1, .ref (a 0)), (2, .ref (d 0)), (3, .int (nI (2 + 5 * k)))] → W p l e room_1 s m #[Value.ref bq] below meth c H locs (100 + 3 * (k + 1)) (40000 + 18 * (k + 1)) (lw_Z below #[Value.ref bq] s) (F0 m 603 ls []) := by
        intro Q ff hd bl rs hs ts rc hc tc L cn th kf Z pf H locs ls hG hk0 hL0 hP1 hP2 hS hl
        refine lv_iinc (v := nI (2 + 5 * (k + 1))) (lv' := [(3, .int (nI (2 + 5 * (k + 1)))), (0, .ref bq), (1, .ref (a 0)), (2, .ref (d 0))]) hx hb d_L_law_603 hl (k := 3) rfl ((nI_add (2 + 5 * k) 5).trans (by congr 1)) (by decide) rfl (fun ls hl => ?_)
        refine lv_goto (tgt := 38) hx hb d_L_law_606 (by decide) ?_
        exact ih (k + 1) (by omega) Q ff hd bl rs hs ts rc hc tc L cn th kf Z pf H locs ls hG hk0 hL0 hP1 hP2 hS (lv_sub hl [1, 2, 3, 0] rfl)
      refine lv_aload_n hx hb d_L_law_46 rfl (lv_at hl 0 rfl) ?_
      refine lv_iload_n hx hb d_L_law_47 rfl (lv_at hl 3 rfl) ?_
      refine va_sld hx hb hX hbl (Nat.not_le.mpr hbl) hS (vp_in_nI (by omega) (by omega)) d_L_law_48 ?_
      refine lv_bipush (v := nI 15) hx hb d_L_law_49 (by decide) ?_
      refine lv_iand hx hb d_L_law_51 ?_
      obtain ⟨dd, hdd, he⟩ := l_15 (xs (nI (2 + 5 * k)).toNatClampNeg)
      refine rw_topI (b := nI dd) he ?_
      have h9 : dd = 0 ∨ dd = 1 ∨ dd = 2 ∨ dd = 3 ∨ dd = 4 ∨ dd = 5 ∨ dd = 6 ∨ dd = 7 ∨ dd = 8 ∨ dd = 9 ∨ dd = 10 ∨ dd = 11 ∨ dd = 12 ∨ 12 < dd := by omega
      rcases h9 with rfl | rfl | rfl | rfl | rfl | rfl | rfl | rfl | rfl | rfl | rfl | rfl | rfl | h9
      · refine lv_tableIn (off := 68) (tgt := 120) hx hb d_L_law_52 (by decide) (by decide) rfl (by decide) ?_
        exact l_lay l hfl w h hx hb hml hown hts hK hZ hE ha hd0 hax hdm hapart hX hbl hLN k hk5 nx Q ff hd bl rs hs ts rc hc tc L cn th kf Z pf H locs ls hG hk0 hL0 hP1 hP2 hS hl
      · refine lv_tableIn (off := 112) (tgt := 164) hx hb d_L_law_52 (by decide) (by decide) rfl (by decide) ?_
        exact l_lift l hfl w h hx hb hml hown hts hK hZ hE ha hd0 hax hdm hapart hX hbl hLN k hk5 nx Q ff hd bl rs hs ts rc hc tc L cn th kf Z pf H locs ls hG hk0 hL0 hP1 hP2 hS hl
      · refine lv_tableIn (off := 156) (tgt := 208) hx hb d_L_law_52 (by decide) (by decide) rfl (by decide) ?_
        exact l_signal l hfl w h hx hb hml hown hts hK hZ hE ha hd0 hax hdm hapart hX hbl hLN k hk5 nx Q ff hd bl rs hs ts rc hc tc L cn th kf Z pf H locs ls hG hk0 hL0 hP1 hP2 hS hl
      · refine lv_tableIn (off := 220) (tgt := 272) hx hb d_L_law_52 (by decide) (by decide) rfl (by decide) ?_
        exact l_platform l hfl w h hx hb hml hown hts hK hZ hE ha hd0 hax hdm hapart hX hbl hLN k hk5 nx Q ff hd bl rs hs ts rc hc tc L cn th kf Z pf H locs ls hG hk0 hL0 hP1 hP2 hS hl
      · refine lv_tableIn (off := 274) (tgt := 326) hx hb d_L_law_52 (by decide) (by decide) rfl (by decide) ?_
        exact l_at l hfl w h hx hb hml hown hts hK hZ hE ha hd0 hax hdm hapart hX hbl hLN k hk5 nx Q ff hd bl rs hs ts rc hc tc L cn th kf Z pf H locs ls hG hk0 hL0 hP1 hP2 hS hl
      · refine lv_tableIn (off := 307) (tgt := 359) hx hb d_L_law_52 (by decide) (by decide) rfl (by decide) ?_
        exact l_next l hfl w h hx hb hml hown hts hK hZ hE ha hd0 hax hdm hapart hX hbl hLN k hk5 nx Q ff hd bl rs hs ts rc hc tc L cn th kf Z pf H locs ls hG hk0 hL0 hP1 hP2 hS hl
      · refine lv_tableIn (off := 340) (tgt := 392) hx hb d_L_law_52 (by decide) (by decide) rfl (by decide) ?_
        exact l_before l hfl w h hx hb hml hown hts hK hZ hE ha hd0 hax hdm hapart hX hbl hLN k hk5 nx Q ff hd bl rs hs ts rc hc tc L cn th kf Z pf H locs ls hG hk0 hL0 hP1 hP2 hS hl
      · refine lv_tableIn (off := 363) (tgt := 415) hx hb d_L_law_52 (by decide) (by decide) rfl (by decide) ?_
        exact l_block l hfl w h hx hb hml hown hts hK hZ hE ha hd0 hax hdm hapart hX hbl hLN k hk5 nx Q ff hd bl rs hs ts rc hc tc L cn th kf Z pf H locs ls hG hk0 hL0 hP1 hP2 hS hl
      · refine lv_tableIn (off := 396) (tgt := 448) hx hb d_L_law_52 (by decide) (by decide) rfl (by decide) ?_
        exact l_sign l hfl w h hx hb hml hown hts hK hZ hE ha hd0 hax hdm hapart hX hbl hLN k hk5 nx Q ff hd bl rs hs ts rc hc tc L cn th kf Z pf H locs ls hG hk0 hL0 hP1 hP2 hS hl
      · refine lv_tableIn (off := 419) (tgt := 471) hx hb d_L_law_52 (by decide) (by decide) rfl (by decide) ?_
        exact l_isTarget l hfl w h hx hb hml hown hts hK hZ hE ha hd0 hax hdm hapart hX hbl hLN k hk5 nx Q ff hd bl rs hs ts rc hc tc L cn th kf Z pf H locs ls hG hk0 hL0 hP1 hP2 hS hl
      · refine lv_tableIn (off := 452) (tgt := 504) hx hb d_L_law_52 (by decide) (by decide) rfl (by decide) ?_
        exact l_cost l hfl w h hx hb hml hown hts hK hZ hE ha hd0 hax hdm hapart hX hbl hLN k hk5 nx Q ff hd bl rs hs ts rc hc tc L cn th kf Z pf H locs ls hG hk0 hL0 hP1 hP2 hS hl
      · refine lv_tableIn (off := 485) (tgt := 537) hx hb d_L_law_52 (by decide) (by decide) rfl (by decide) ?_
        exact l_route l hfl w h hx hb hml hown hts hK hZ hE ha hd0 hax hdm hapart hX hbl hLN k hk5 nx Q ff hd bl rs hs ts rc hc tc L cn th kf Z pf H locs ls hG hk0 hL0 hP1 hP2 hS hl
      · refine lv_tableIn (off := 528) (tgt := 580) hx hb d_L_law_52 (by decide) (by decide) rfl (by decide) ?_
        exact l_count l hfl w h hx hb hml hown hts hK hZ hE ha hd0 hax hdm hapart hX hbl hLN k hk5 nx Q ff hd bl rs hs ts rc hc tc L cn th kf Z pf H locs ls hG hk0 hL0 hP1 hP2 hS hl
      · refine lv_tableOut (tgt := 603) hx hb d_L_law_52 (Or.inr (by rw [nI_toInt (by omega)]; omega)) (by decide) ?_
        refine W.widen (k := 100 + 3 * (k + 1)) (n := 40000 + 18 * (k + 1)) (by omega) (by omega) ?_
        exact nx Q ff hd bl rs hs ts rc hc tc L cn th kf Z pf H locs ls hG hk0 hL0 hP1 hP2 hS hl
