/-! MAKING: what a constructor finds and leaves, arrays and objects that it makes, its calls -/
def kU (D : va_G) (cI cZ : ClassId) (sz : Nat) (ws : va_W) (U : State) : Prop := va_P D vwCl ws U.heap ∧ va_K D vwCl (xT cI cZ) U ∧ sz ≤ U.heap.size
def kB (D : va_G) {S : Type} (A : Nat → Prop) (wf : S → va_W) : S → State → Prop := fun u t => va_P D vwCl (wf u) t.heap ∧ va_D A (wf u)
theorem kU.bl {D : va_G} {cI cZ : ClassId} {sz : Nat} {ws : va_W} {av : List Value} : FrameBlind (va_Pc av (kU D cI cZ sz ws)) := by
  rintro a U f mk ⟨h0, hP, hK, hz⟩
  exact ⟨h0, hP, va_K.moved (u := U) (U := U.calling f mk a) (Vm.Alike.refl U.vm) hK, hz⟩
theorem kU.mk {D : va_G} {cI cZ : ClassId} {ws : va_W} {s : State} {H : Heap} (hP : va_P D vwCl ws H) (hK : va_K D vwCl (xT cI cZ) s) (U : State) (hU : U.heap = H) (hW : s.WarmedH U.vm) : kU D cI cZ H.size ws U :=
  ⟨by rw [hU]; exact hP, va_K.moved hW.alike hK, by rw [hU]; exact Nat.le_refl _⟩
theorem k_D1 (a : Nat) (b : va_E) (sz : Nat) : va_D (va_A [(a, b)] sz) [(a, b)] := by
  have key : ∀ (k : Nat) (q : Nat × va_E), [(a, b)][k]? = some q → k = 0 ∧ q = (a, b) := by
    intro k q hk
    have h1 := (List.getElem?_eq_some_iff.mp hk).1
    have h2 : k = 0 := by simp at h1; exact h1
    subst h2
    exact ⟨rfl, (Option.some.inj hk).symm⟩
  refine ⟨fun i j x y hi hj _ => (key i x hi).1.trans (key j y hj).1.symm, fun k q hk => ?_⟩
  rw [(key k q hk).2]
  exact Or.inl ⟨0, b, rfl⟩
theorem k_D {A : Nat → Prop} {ws ws' : va_W} (h : va_D A ws) (e : ws'.map (fun q => q.1) = ws.map (fun q => q.1)) : va_D A ws' := by
  have key : ∀ (k : Nat) (q : Nat × va_E), ws'[k]? = some q → ∃ q2, ws[k]? = some q2 ∧ q2.1 = q.1 := by
    intro k q hk
    have h1 : (ws'.map (fun q => q.1))[k]? = some q.1 := by rw [List.getElem?_map, hk]; rfl
    rw [e, List.getElem?_map] at h1
    cases h2 : ws[k]? with
    | none => rw [h2] at h1; cases h1
    | some z => rw [h2] at h1; exact ⟨z, rfl, Option.some.inj h1⟩
  refine ⟨fun i j x y hi hj hxy => ?_, fun k q hk => ?_⟩
  · obtain ⟨x2, h1, h2⟩ := key i x hi
    obtain ⟨y2, h3, h4⟩ := key j y hj
    exact h.1 i j x2 y2 h1 h3 (by rw [h2, h4]; exact hxy)
  · obtain ⟨q2, h1, h2⟩ := key k q hk
    rw [← h2]
    exact h.2 k q2 h1
section MK
variable {p : Program} {l : Launch} {e : Env} {R : Room} {s : State} {m : MethodId} {args : Array Value} {below : List Frame} {meth : Method} {c : Code} {H : Heap} {locs : List Loc} {cells slots : Nat} {Q : State → Prop}
variable {cc : ByteArray} {pc : Nat} {ls : Array Slot} {rest st0 As : List Value} {D : va_G} {cI cZ : ClassId} {A : Nat → Prop} {ws wc wr : va_W} {S : Type} {wf : S → va_W} {H0 : Heap}
theorem w_newI (hx : p.tables.exec = Jvm.exec) (hb : c.code = cc) (hts : ∀ w ∈ tG, w.before args s = true) (hK : va_K D vwCl (xT cI cZ) s) (hP : va_P D vwCl ws H) (hD : va_D A ws) (hS : va_S A H0 H locs) (hA : ∀ q, H0.size ≤ q → A q) {N : Nat} (hN : N ≤ 4800) (ck sk : Nat) (hc : cells + 1 ≤ ck ∧ slots + N ≤ sk) (hR : ck ≤ R.cells ∧ sk ≤ R.slots)
    (hdg : decode cc pc = .ok (.newarray .int, 2)) (kk : ∀ (q : Nat) (H1 : Heap), va_P D vwCl (ws ++ [(q, .inl (cI, N, .inl (fun _ => 0)))]) H1 → va_D A (ws ++ [(q, .inl (cI, N, .inl (fun _ => 0)))]) → va_S A H0 H1 locs → W p l e R s m args below meth c H1 locs ck sk Q (F0 m (pc + 2) ls (.ref q :: rest))) :
    W p l e R s m args below meth c H locs cells slots Q (F0 m pc ls (.int (nI N) :: rest)) := by
  refine va_newa (atype := .int) hx hb (hts _ k_arrayClass_int) (ty := .int) rfl hK hP hD hS hA (n := nI N) (N' := N) (a0 := (N, .inl (fun _ => 0))) (fun cA => rfl) (nI_pos (by omega)) (nI_clamp (by omega)) (by show N * 4 ≤ _; omega) (by omega) (by omega) hdg (fun q cA H1 hK1 hP1 hD1 hS1 => ?_)
  have h1 : s.vm.findClass ("[" ++ FieldType.int.toString) = some cA := (hK1.2 2 (cA, .int) rfl).2
  have h2 : s.vm.findClass ("[" ++ FieldType.int.toString) = some cI := (hK.2 0 (cI, .int) rfl).2
  cases h2.symm.trans h1
  exact W.widen hc.1 hc.2 (kk q H1 hP1 hD1 hS1)
theorem w_newZ (hx : p.tables.exec = Jvm.exec) (hb : c.code = cc) (hts : ∀ w ∈ tG, w.before args s = true) (hK : va_K D vwCl (xT cI cZ) s) (hP : va_P D vwCl ws H) (hD : va_D A ws) (hS : va_S A H0 H locs) (hA : ∀ q, H0.size ≤ q → A q) {N : Nat} (hN : N ≤ 4800) (ck sk : Nat) (hc : cells + 1 ≤ ck ∧ slots + N ≤ sk) (hR : ck ≤ R.cells ∧ sk ≤ R.slots)
    (hdg : decode cc pc = .ok (.newarray .boolean, 2)) (kk : ∀ (q : Nat) (H1 : Heap), va_P D vwCl (ws ++ [(q, .inl (cZ, N, .inl (fun _ => 0)))]) H1 → va_D A (ws ++ [(q, .inl (cZ, N, .inl (fun _ => 0)))]) → va_S A H0 H1 locs → W p l e R s m args below meth c H1 locs ck sk Q (F0 m (pc + 2) ls (.ref q :: rest))) :
    W p l e R s m args below meth c H locs cells slots Q (F0 m pc ls (.int (nI N) :: rest)) := by
  refine va_newa (atype := .boolean) hx hb (hts _ k_arrayClass_boolean) (ty := .boolean) rfl hK hP hD hS hA (n := nI N) (N' := N) (a0 := (N, .inl (fun _ => 0))) (fun cA => rfl) (nI_pos (by omega)) (nI_clamp (by omega)) (by show N * 1 ≤ _; omega) (by omega) (by omega) hdg (fun q cA H1 hK1 hP1 hD1 hS1 => ?_)
  have h1 : s.vm.findClass ("[" ++ FieldType.boolean.toString) = some cA := (hK1.2 2 (cA, .boolean) rfl).2
  have h2 : s.vm.findClass ("[" ++ FieldType.boolean.toString) = some cZ := (hK.2 1 (cZ, .boolean) rfl).2
  cases h2.symm.trans h1
  exact W.widen hc.1 hc.2 (kk q H1 hP1 hD1 hS1)
variable {y : MethodName} {bytes : ByteArray} {maxL nL n index mc ms : Nat} {rm : Room} {own : String} {b : Addr}
theorem w_ctor {post : S → Prop} (F : CallFix p m c cc nL s args tG own) (hM : Met l y (.code y bytes maxL none :: tG) rm (va_Pc (.ref b :: As) (kU D cI cZ H.size wc)) (va_Qv post (kB D (va_A wc H.size) wf) (va_A wc H.size)) mc ms (va_A wc H.size)) (cw : CallB R s args own index y bytes maxL none (.code y bytes maxL none :: tG) rm mc ms n ∧ y.name = "<init>" ∧ (Cond.instanceMethod y).before args s = true)
    (hK : va_K D vwCl (xT cI cZ) s) (hP : va_P D vwCl ws H) (hD : va_D A ws) (hS : va_S A s.heap H locs) (hA : ∀ q, s.heap.size ≤ q → A q) (isC isR : List Nat) (hC1 : isC.filterMap (fun i => ws[i]?) = wc) (hC : isC.map (fun i => ws[i]?) = wc.map some) (hR : isR.map (fun i => ws[i]?) = wr.map some) (hnd : va_nd isR = true) (hdis : ∀ i ∈ isR, i ∉ isC)
    (hn : As.length = n) (hsz : ls.size = nL) (hst : st0 = As.reverse ++ .ref b :: rest) (hW : (rest.map fun v => v.category).sum ≤ 8) (hdg : decode cc pc = .ok (.invokespecial index, 3)) (hf : cells + mc ≤ R.cells ∧ slots + ms ≤ R.slots)
    (kk : ∀ (u : S) (H1 : Heap) (locs1 : List Loc), post u → va_P D vwCl (wr ++ wf u) H1 → va_D A (wr ++ wf u) → va_S A s.heap H1 locs1 → W p l e R s m args below meth c H1 locs1 (cells + mc) (slots + ms) Q (F0 m (pc + 3) ls rest)) : W p l e R s m args below meth c H locs cells slots Q (F0 m pc ls st0) := by
  have hF : ∀ q, va_A wc H.size q → A q := va_free hD hS hA isC hC
  refine va_callv (va_runI (As := As) (rest := rest) F hM cw ⟨kU.bl, fun U hU hW => ⟨rfl, kU.mk (hP.sub isC hC1) hK U hU hW⟩⟩ rfl hn hsz hst (lv_room hW) hdg hf) hS (fun q _ h => hF q h) hF (fun u t H1 locs1 ht _ hw hB _ hk hS1 => ?_)
  have hB1 : va_P D vwCl (wf u) H1 := by rw [← ht]; exact hB.1
  obtain ⟨h1, h2⟩ := va_join hP hD isC isR hC hR hnd hdis hk hF hB1 hB.2
  exact kk u H1 locs1 hw h1 h2 hS1
theorem w_kret {post : S → Prop} (u : S) (hx : p.tables.exec = Jvm.exec) (hb : c.code = cc) (hr : meth.sig.returnType = none) (hlocks : meth.locks = false) (hS : va_S A s.heap H locs) (hP : va_P D vwCl (wf u) H) (hD : va_D A (wf u)) (hp : post u) (hdg : decode cc pc = .ok (.return_, 1)) (hm : cells ≤ mc ∧ slots ≤ ms) : W p l e R s m args below meth c H locs cells slots (MQ below (va_Qv post (kB D A wf) A) args s mc ms A) (F0 m pc ls []) :=
  W.widen hm.1 hm.2 (W.vret hx hb hr (fun t ht hW => ⟨⟨u, rfl, hp, by show va_P D vwCl (wf u) t.heap; rw [ht]; exact hP, hD⟩, hS.F ht⟩) hS.2.2 hdg hlocks)
theorem w_oi (hx : p.tables.exec = Jvm.exec) (hb : c.code = cc) (hml : c.maxLocals = nL) (hown : s.vm.findClass own = some m.cls) (hts : ∀ w ∈ tG, w.before args s = true) (hk : Cond.methodLink own index objectInit ∈ tG) (hsz : ls.size = nL) (hdg : decode cc pc = .ok (.invokespecial index, 3)) (hR : 1 ≤ R.frames ∧ 12 ≤ R.locals)
    (kk : W p l e R s m args below meth c H locs cells slots Q (F0 m (pc + 3) ls [])) : W p l e R s m args below meth c H locs cells slots Q (F0 m pc ls [.ref b]) :=
  W.objInit hx hb hown (hts _ hk) (hts _ k_instanceMethod_objectInit) (hts _ k_code_objectInit_object_method_1_code_1_none) rfl (by rw [hml]; exact hsz) rfl hdg hR.1 (by show 2 * 0 + 0 + 12 ≤ R.locals; omega) kk
end MK
