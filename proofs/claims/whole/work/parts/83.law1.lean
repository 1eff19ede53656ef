/-! THE LAW'S ROWS: calls on one of two worlds, the other unchanged -/
theorem t_gH {y : MethodName} {b : ByteArray} {n : Nat} {r : Option FieldType} {hh : List (Nat × Nat × Nat × Nat)} (k : Cond.codeWith y b n r hh ∈ tG) : GoodIn tG (.codeWith y b n r hh :: tG) := fun w h => (List.mem_cons.mp h).elim (fun e => by rw [e]; exact tG_good _ k) (fun h => tG_good w h)
theorem wU.nar {D : va_G} {cI cZ : ClassId} {g : Nat → Nat} {A0 A1 : Nat → Prop} {ws : va_W} {s : State} {H : Heap} {locs : List Loc} (hP : va_P D vwCl ws H) (hK : va_K D vwCl (xT cI cZ) s) (hZ : xZ g A0 s s.heap) (hAA : ∀ q, A1 q → A0 q) (hS : va_S A0 s.heap H locs) (U : State) (hU : U.heap = H) (hW : s.WarmedH U.vm) : wU D cI cZ g A1 ws U := by
  refine ⟨by rw [hU]; exact hP, va_K.moved hW.alike hK, ?_⟩
  rw [hU]
  exact ((hZ.kept hS.2.1).moved hW.alike).narrow hAA
theorem xe_U.nar {D : va_G} {cI cZ : ClassId} {g : Nat → Nat} {A0 A1 : Nat → Prop} {ws : va_W} {s : State} {H : Heap} {locs : List Loc} (hP : va_P D vwCl ws H) (hK : va_K D vwCl (xT cI cZ) s) (hZ : xZ g A0 s s.heap) (hE : xe_K A0 s s.heap) (hAA : ∀ q, A1 q → A0 q) (hS : va_S A0 s.heap H locs) (U : State) (hU : U.heap = H) (hW : s.WarmedH U.vm) : xe_U D cI cZ g A1 ws U :=
  ⟨wU.nar hP hK hZ hAA hS U hU hW, by rw [hU]; exact ((hE.kept hS.2.1).moved hW).narrow hAA⟩
section LR
variable {p : Program} {l : Launch} {e : Env} {R : Room} {s : State} {m : MethodId} {args : Array Value} {below : List Frame} {meth : Method} {c : Code} {H : Heap} {locs : List Loc} {cells slots : Nat} {Q : State → Prop}
variable {cc : ByteArray} {pc : Nat} {ls : Array Slot} {rest st0 As : List Value} {D : va_G} {cI cZ : ClassId} {g : Nat → Nat} {A0 A1 : Nat → Prop} {ws ws2 : va_W} {S : Type} {wf : S → va_W}
variable {y : MethodName} {bytes : ByteArray} {maxL nL n index mc ms : Nat} {ret : Option FieldType} {rm : Room} {own C : String} {b : Addr}
theorem l_ci {post : Int32 → S → Prop} (F : CallFix p m c cc nL s args tG own) (hM : Met l y (.code y bytes maxL ret :: tG) rm (va_Pc (.ref b :: As) (wU D cI cZ g A1 ws)) (va_Qi post (wB D wf) A1) 0 0 A1) (cw : CallW R s args own C index y bytes maxL ret (.code y bytes maxL ret :: tG) rm 0 0 n)
    (hr : ∃ cell : Cell, H[b]? = some cell ∧ cell.vm.isStatics = false ∧ s.vm.findClass C = some cell.cls) (hP : va_P D vwCl ws H) (hP2 : va_P D vwCl ws2 H) (hap : ∀ (k : Nat) (q : Nat × va_E), ws2[k]? = some q → ¬ A1 q.1) (hAA : ∀ q, A1 q → A0 q) (hK : va_K D vwCl (xT cI cZ) s) (hZ : xZ g A0 s s.heap) (hS : va_S A0 s.heap H locs) (hn : As.length = n) (hsz : ls.size = nL) (hst : st0 = As.reverse ++ .ref b :: rest) (hW : (rest.map fun v => v.category).sum ≤ 8) (hdg : decode cc pc = .ok (.invokevirtual index, 3)) (hf : cells ≤ R.cells ∧ slots ≤ R.slots)
    (kk : ∀ (r : Int32) (u : S) (H1 : Heap) (locs1 : List Loc), post r u → va_P D vwCl (wf u) H1 → va_P D vwCl ws2 H1 → va_S A0 s.heap H1 locs1 → W p l e R s m args below meth c H1 locs1 cells slots Q (F0 m (pc + 3) ls (.int r :: rest))) : W p l e R s m args below meth c H locs cells slots Q (F0 m pc ls st0) :=
  va_calli (va_runV (As := As) (rest := rest) F hM cw ⟨wU.bl, hr, fun U hU hW => ⟨rfl, wU.nar hP hK hZ hAA hS U hU hW⟩⟩ rfl hn hsz hst (lv_room hW) hdg hf) hS (fun q _ h => hAA q h) hAA (fun r u t H1 locs1 ht _ hw hB _ hk hS1 => kk r u H1 locs1 hw (by rw [← ht]; exact hB) (hP2.kept (fun k q hq => hk q.1 (hP2 k q hq).lt (hap k q hq))) hS1)
theorem l_cv {post : S → Prop} (F : CallFix p m c cc nL s args tG own) (hM : Met l y (.code y bytes maxL ret :: tG) rm (va_Pc (.ref b :: As) (wU D cI cZ g A1 ws)) (va_Qv post (wB D wf) A1) 0 0 A1) (cw : CallW R s args own C index y bytes maxL ret (.code y bytes maxL ret :: tG) rm 0 0 n)
    (hr : ∃ cell : Cell, H[b]? = some cell ∧ cell.vm.isStatics = false ∧ s.vm.findClass C = some cell.cls) (hP : va_P D vwCl ws H) (hP2 : va_P D vwCl ws2 H) (hap : ∀ (k : Nat) (q : Nat × va_E), ws2[k]? = some q → ¬ A1 q.1) (hAA : ∀ q, A1 q → A0 q) (hK : va_K D vwCl (xT cI cZ) s) (hZ : xZ g A0 s s.heap) (hS : va_S A0 s.heap H locs) (hn : As.length = n) (hsz : ls.size = nL) (hst : st0 = As.reverse ++ .ref b :: rest) (hW : (rest.map fun v => v.category).sum ≤ 8) (hdg : decode cc pc = .ok (.invokevirtual index, 3)) (hf : cells ≤ R.cells ∧ slots ≤ R.slots)
    (kk : ∀ (u : S) (H1 : Heap) (locs1 : List Loc), post u → va_P D vwCl (wf u) H1 → va_P D vwCl ws2 H1 → va_S A0 s.heap H1 locs1 → W p l e R s m args below meth c H1 locs1 cells slots Q (F0 m (pc + 3) ls rest)) : W p l e R s m args below meth c H locs cells slots Q (F0 m pc ls st0) :=
  va_callv (va_runV (As := As) (rest := rest) F hM cw ⟨wU.bl, hr, fun U hU hW => ⟨rfl, wU.nar hP hK hZ hAA hS U hU hW⟩⟩ rfl hn hsz hst (lv_room hW) hdg hf) hS (fun q _ h => hAA q h) hAA (fun u t H1 locs1 ht _ hw hB _ hk hS1 => kk u H1 locs1 hw (by rw [← ht]; exact hB) (hP2.kept (fun k q hq => hk q.1 (hP2 k q hq).lt (hap k q hq))) hS1)
theorem l_runH {hh : List (Nat × Nat × Nat × Nat)} {Pc : Array Value → State → Prop} {Qc : Array Value → State → Outcome → State → Prop} {free : Addr → Prop} (F : CallFix p m c cc nL s args tG own) (hM : Met l y (.codeWith y bytes maxL ret hh :: tG) rm Pc Qc mc ms free) (hrc : rm.cells = mc) (hrs : rm.slots = ms) (hR : rm.frames + 1 ≤ R.frames ∧ 8 + (maxL + 11) + rm.locals ≤ R.locals) (hy : y.cls ≠ "java/lang/invoke/MethodHandle" ∧ y.cls ≠ "java/lang/invoke/VarHandle" ∧ (parseMethodDescriptor y.desc).map (fun d => d.parameters.length) = some n)
    (kl : Cond.methodLink own index y ∈ tG) (ks : Cond.static y ∈ tG) (ki : Cond.initialized y.cls ∈ tG) (kc : Cond.codeWith y bytes maxL ret hh ∈ tG) (hp : PreS s H Pc As)
    (hn : As.length = n) (hsz : ls.size = nL) (hst : st0 = As.reverse ++ rest) (hW : (rest.map fun v => v.category).sum ≤ 8) (hdg : decode cc pc = .ok (.invokestatic index, 3)) (hf : cells + mc ≤ R.cells ∧ slots + ms ≤ R.slots) :
    va_Run p l e R s m args below meth c H locs cells slots mc ms (F0 m pc ls st0) rest (Qc As.toArray) free := by
  obtain ⟨hx, hb, hml, ho, hts⟩ := F
  have hcode := hts _ kc
  have hini := hts _ ki
  have hK : Back l R p e below s args y 3 8 (PreOf R mc ms Pc) (PostOf Qc mc ms free) := va_backW (hh := hh) (bytes := bytes) (maxL := maxL) (ret := ret) hM hp.1 hrc hrs hR.1 hR.2 (pay_in hts (t_gH kc)) List.mem_cons_self (fun a' U hW => word_at hW (tG_good _ ki).2 hini)
  obtain ⟨mk, methM, cM, hnamed, hmethM, -, -, -, -, -, -, hsigM⟩ := Cond.codeWith_spec hcode
  have hstatic : methM.isStatic = true := Cond.static_spec hnamed hmethM (hts _ ks)
  obtain ⟨kP, hkP, -⟩ := className_of_methodNamed hnamed
  have hinitP : kP.init = .initialized := Cond.initialized_spec (findClass_of_methodNamed hnamed) hkP hini
  have hlen : As.length = methM.sig.parameters.length := by
    have h2 := hy.2.2
    rw [hsigM] at h2
    exact hn.trans (Option.some.inj h2).symm
  intro T hT X
  obtain ⟨vm₁, X₁, hstep₁⟩ := X.invokestatic hx ho (hts _ kl) hnamed hmethM hstatic hkP hinitP ⟨hy.1, hy.2.1⟩ (g := F0 m pc ls st0) rfl (argsL := As) (rest := rest) hlen hst (by rw [hb]; exact hdg)
  obtain ⟨v, ⟨U', l2, c2, s2⟩, X', ⟨g', mk', t, L, e1, e2, hq, h1, hL, h2, h3⟩, hsteps⟩ := hK m meth c ⟨T.setVm vm₁, locs, cells, slots⟩ (F0 m pc ls rest) (.invokestatic index) mk As.toArray X₁ rfl (by rw [hml]; exact hsz) (by rw [hb]; exact hdg) (lv_room hW) (X₁.named hnamed) ⟨hf.1, hf.2, hp.2 (T.setVm vm₁) hT X₁.warmed⟩
  dsimp only [Pt.U, Pt.locs, Pt.cells, Pt.slots] at X' e1 e2 h1 h2 h3 hsteps
  subst h1; subst h2; subst h3
  exact ⟨v, (T.setVm vm₁).calling g' mk' As.toArray, t, U', L, hT, X', hL, e1, e2, hq, fun tg h => hstep₁ _ fun acts => by rw [doInvoke_state]; exact hsteps.trans h⟩
theorem l_hs {hh : List (Nat × Nat × Nat × Nat)} {post : Int32 → S → Prop} (F : CallFix p m c cc nL s args tG own) (hM : Met l y (.codeWith y bytes maxL ret hh :: tG) rm (va_Pc As (xe_U D cI cZ g A1 ws)) (va_Qi post (wB D wf) A1) mc ms A1) (hrc : rm.cells = mc) (hrs : rm.slots = ms) (hR : rm.frames + 1 ≤ R.frames ∧ 8 + (maxL + 11) + rm.locals ≤ R.locals) (hy : y.cls ≠ "java/lang/invoke/MethodHandle" ∧ y.cls ≠ "java/lang/invoke/VarHandle" ∧ (parseMethodDescriptor y.desc).map (fun d => d.parameters.length) = some n)
    (kl : Cond.methodLink own index y ∈ tG) (ks : Cond.static y ∈ tG) (ki : Cond.initialized y.cls ∈ tG) (kc : Cond.codeWith y bytes maxL ret hh ∈ tG)
    (hP : va_P D vwCl ws H) (hP2 : va_P D vwCl ws2 H) (hap : ∀ (k : Nat) (q : Nat × va_E), ws2[k]? = some q → ¬ A1 q.1) (hAA : ∀ q, A1 q → A0 q) (hK : va_K D vwCl (xT cI cZ) s) (hZ : xZ g A0 s s.heap) (hE : xe_K A0 s s.heap) (hS : va_S A0 s.heap H locs) (hn : As.length = n) (hsz : ls.size = nL) (hst : st0 = As.reverse ++ rest) (hW : (rest.map fun v => v.category).sum ≤ 8) (hdg : decode cc pc = .ok (.invokestatic index, 3)) (hf : cells + mc ≤ R.cells ∧ slots + ms ≤ R.slots)
    (kk : ∀ (r : Int32) (u : S) (H1 : Heap) (locs1 : List Loc), post r u → va_P D vwCl (wf u) H1 → va_P D vwCl ws2 H1 → va_S A0 s.heap H1 locs1 → W p l e R s m args below meth c H1 locs1 (cells + mc) (slots + ms) Q (F0 m (pc + 3) ls (.int r :: rest))) : W p l e R s m args below meth c H locs cells slots Q (F0 m pc ls st0) :=
  va_calli (l_runH F hM hrc hrs hR hy kl ks ki kc ⟨xe_U.bl, fun U hU hW => ⟨rfl, xe_U.nar hP hK hZ hE hAA hS U hU hW⟩⟩ hn hsz hst hW hdg hf) hS (fun q _ h => hAA q h) hAA (fun r u t H1 locs1 ht _ hw hB _ hk hS1 => kk r u H1 locs1 hw (by rw [← ht]; exact hB) (hP2.kept (fun k q hq => hk q.1 (hP2 k q hq).lt (hap k q hq))) hS1)
end LR
theorem l_gt {i L : Nat} (hi : i ≤ 3000) (hL : L ≤ 3000) : nI L - nI 5 < nI i ↔ L < i + 5 := by
  rw [Int32.lt_iff_toInt_lt, Int32.toInt_sub, nI_toInt (by omega), nI_toInt (by omega), nI_toInt (by omega), Int.bmod_eq_of_le (by omega) (by omega)]
  omega
theorem l_nat (y : Int32) : y = nI y.toUInt32.toNat := by
  apply Int32.toBitVec_inj.mp
  apply BitVec.eq_of_toNat_eq
  show y.toUInt32.toNat = (Int32.ofNat y.toUInt32.toNat).toBitVec.toNat
  rw [show (Int32.ofNat y.toUInt32.toNat).toBitVec = BitVec.ofNat 32 y.toUInt32.toNat from rfl, BitVec.toNat_ofNat]
  exact (Nat.mod_eq_of_lt y.toUInt32.toNat_lt).symm
theorem l_15 (x : Int32) : ∃ d : Nat, d < 16 ∧ x &&& nI 15 = nI d := by
  refine ⟨(x &&& nI 15).toUInt32.toNat, ?_, l_nat _⟩
  rw [Int32.toUInt32_and, UInt32.toNat_and]
  exact Nat.lt_of_le_of_lt Nat.and_le_right (by decide)
