/-! CALLS OF METHODS THAT MAY THROW; THE TWO CATCHES OF THE LAW'S HELPERS -/
def xe_C (k : Nat) : String := if k = 1 then xe_I else xe_L
def xe_X (k : Nat) (oc : Outcome) (st t : State) : Prop := (k = 0 ∧ oc = .returned none) ∨ (k ≠ 0 ∧ ∃ (q : Nat) (ce : Cell), oc = .threw q ∧ t.heap[q]? = some ce ∧ ce.vm.isStatics = false ∧ st.vm.findClass (xe_C k) = some ce.cls)
def xe_Qv {S : Type} (k : Nat) (post : S → Prop) (B : S → State → Prop) (A : Nat → Prop) : Array Value → State → Outcome → State → Prop := fun _ st oc t => xe_X k oc st t ∧ (∃ u : S, post u ∧ B u t) ∧ va_F A st t
def xe_U (D : va_G) (cI cZ : ClassId) (g : Nat → Nat) (A : Nat → Prop) (ws : va_W) (U : State) : Prop := wU D cI cZ g A ws U ∧ xe_K A U U.heap
theorem xe_U.bl {D : va_G} {cI cZ : ClassId} {g : Nat → Nat} {A : Nat → Prop} {ws : va_W} {av : List Value} : FrameBlind (va_Pc av (xe_U D cI cZ g A ws)) := by
  rintro a U f mk ⟨h0, h1, h2⟩
  have h3 := wU.bl (D := D) (cI := cI) (cZ := cZ) (g := g) (A := A) (ws := ws) (av := av) a U f mk ⟨h0, h1⟩
  exact ⟨h0, h3.2, h2.moved (U := U.calling f mk a) (State.WarmedH.refl U)⟩
theorem xe_U.mk {D : va_G} {cI cZ : ClassId} {g : Nat → Nat} {A : Nat → Prop} {ws : va_W} {s : State} {H : Heap} {locs : List Loc} (hP : va_P D vwCl ws H) (hK : va_K D vwCl (xT cI cZ) s) (hZ : xZ g A s s.heap) (hE : xe_K A s s.heap) (hS : va_S A s.heap H locs) (U : State) (hU : U.heap = H) (hW : s.WarmedH U.vm) : xe_U D cI cZ g A ws U :=
  ⟨wU.mk hP hK hZ hS U hU hW, by rw [hU]; exact (hE.kept hS.2.1).moved hW⟩
section XC
variable {p : Program} {l : Launch} {e : Env} {R : Room} {s : State} {m : MethodId} {args : Array Value} {below : List Frame} {meth : Method} {c : Code} {H : Heap} {locs : List Loc} {cells slots : Nat} {Q : State → Prop}
variable {cc : ByteArray} {pc : Nat} {ls : Array Slot} {rest st0 As : List Value} {D : va_G} {cI cZ : ClassId} {g : Nat → Nat} {A : Nat → Prop} {ws : va_W} {S : Type} {wf : S → va_W}
variable {y : MethodName} {bytes : ByteArray} {maxL nL n index mc ms : Nat} {ret : Option FieldType} {rm : Room} {own C : String} {b : Addr}
theorem w_xv {k : Nat} {post : S → Prop} (F : CallFix p m c cc nL s args tG own) (hM : xe_M l y (.code y bytes maxL ret :: tG) rm (va_Pc (.ref b :: As) (xe_U D cI cZ g A ws)) (xe_Qv k post (wB D wf) A) mc ms A) (cw : CallW R s args own C index y bytes maxL ret (.code y bytes maxL ret :: tG) rm mc ms n)
    (hr : ∃ cell : Cell, H[b]? = some cell ∧ cell.vm.isStatics = false ∧ s.vm.findClass C = some cell.cls) (hP : va_P D vwCl ws H) (hK : va_K D vwCl (xT cI cZ) s) (hZ : xZ g A s s.heap) (hE : xe_K A s s.heap) (hS : va_S A s.heap H locs) (hn : As.length = n) (hsz : ls.size = nL) (hst : st0 = As.reverse ++ .ref b :: rest) (hW : (rest.map fun v => v.category).sum ≤ 8) (hdg : decode cc pc = .ok (.invokevirtual index, 3)) (hf : cells + mc ≤ R.cells ∧ slots + ms ≤ R.slots)
    (k1 : k = 0 → ∀ (u : S) (H1 : Heap) (locs1 : List Loc), post u → va_P D vwCl (wf u) H1 → va_S A s.heap H1 locs1 → W p l e R s m args below meth c H1 locs1 (cells + mc) (slots + ms) Q (F0 m (pc + 3) ls rest))
    (k2 : k ≠ 0 → ∀ (q : Nat) (ce : Cell) (u : S) (H1 : Heap) (locs1 : List Loc), H1[q]? = some ce → ce.vm.isStatics = false → s.vm.findClass (xe_C k) = some ce.cls → post u → va_P D vwCl (wf u) H1 → va_S A s.heap H1 locs1 → xe_W p l e R s m args below meth c H1 locs1 (cells + mc) (slots + ms) Q q (F0 m pc ls rest)) :
    W p l e R s m args below meth c H locs cells slots Q (F0 m pc ls st0) := by
  obtain ⟨⟨hrc, hrs, hfr, hlo, hws, hcw, hcode, hini, hy, hlen, hl⟩, hin, hse⟩ := cw
  obtain ⟨hx, hb, hml, ho, -⟩ := F
  obtain ⟨cellB, hcB, hoB, hclB⟩ := hr
  obtain ⟨mk, methM, hnamed, hmethM, hstM, habM⟩ := Cond.instanceMethod_spec hin
  obtain ⟨methM', cM, hmethM', hcM, -, hlM, -, -, -, hsigM⟩ := Cond.code_spec hnamed hcode
  cases hmethM.symm.trans hmethM'
  obtain ⟨c2, r2, m2, q1, q2, q3, q4, kP, hkP, hkPi⟩ := Cond.selects_spec hse
  cases hclB.symm.trans q1
  cases (State.methodFound?_of_named hnamed hy).symm.trans q2
  cases hnamed.symm.trans q3
  intro T hT X
  have hselP : selectMethod e.platform s.vm cellB.cls mk = .method mk := by rw [Launch.admits_selectMethod X.admits]; exact q4
  obtain ⟨vm₁, X₁, hstep₁⟩ := X.invokevirtual hx ho hl hnamed hmethM hstM hkP hkPi hy (a := b) (cell := cellB) (by rw [hT]; exact hcB)
    (fun z h => by rw [h] at hoB; cases hoB) hselP hmethM habM hkP hkPi (g := F0 m pc ls st0) rfl (argsL := As) (rest := rest) (hn.trans (hlen _ hsigM)) hst (by rw [hb]; exact hdg)
  have hU : (T.setVm vm₁).heap = H := hT
  obtain ⟨o, t, L, ⟨hX, ⟨u, hp, hB⟩, hF1, hF2⟩, hL, X', hcase⟩ := xe_back (maxL := maxL) hM hrc hrs hfr hlo X₁ (g := F0 m pc ls rest) rfl (by rw [hml]; exact hsz) (by rw [hb]; exact hdg) (lv_room hW) (X₁.named hnamed) (a := (Value.ref b :: As).toArray)
    (atoms_intro fun w hw => hws w hw _ _ X₁.warmed) ⟨methM, cM, by show vm₁.method? mk = _; rw [(show s.WarmedH vm₁ from X₁.warmed).alike.method?]; exact hmethM, hcM, hlM⟩ (word_at X₁.warmed (Or.inl (by first | rfl | simp [Cond.onTables, Cond.keeps, Cond.steady])) hini) hf.1 hf.2
    (xe_U.bl _ _ _ _ ⟨rfl, xe_U.mk hP hK hZ hE hS (T.setVm vm₁) hU X₁.warmed⟩)
  have hF1' : H.size ≤ t.heap.size := by rw [← hU]; exact hF1
  have hF2' : ∀ q : Nat, q < H.size → ¬ A q → t.heap[q]? = H[q]? := by rw [← hU]; exact hF2
  have hS1 : va_S A s.heap t.heap (locs ++ L) := ⟨Nat.le_trans hS.1 hF1', fun q h1 h2 => (hF2' q (Nat.lt_of_lt_of_le h1 hS.1) h2).trans (hS.2.1 q h1 h2), fun q hq => by
    rcases List.mem_append.mp hq with h | h
    · exact hS.2.2 q h
    · exact hL q h⟩
  have hP1 : va_P D vwCl (wf u) t.heap := hB
  rcases hcase with ⟨v, rfl, stp⟩ | ⟨q, rfl, stp⟩
  · rcases hX with ⟨hk, hv⟩ | ⟨-, q, ce, hv, -⟩
    · cases hv
      obtain ⟨t2, a1, b1⟩ := k1 hk u t.heap (locs ++ L) hp hP1 hS1 (xe_B (T.setVm vm₁) t) rfl X'
      exact ⟨t2, hstep₁ _ fun acts => by rw [doInvoke_state]; exact stp.trans a1, b1⟩
    · cases hv
  · rcases hX with ⟨hk, hv⟩ | ⟨hk, q', ce, hv, h1, h2, h3⟩
    · cases hv
    · cases hv
      have h3' : s.vm.findClass (xe_C k) = some ce.cls := by
        rw [← (show s.WarmedH vm₁ from X₁.warmed).alike.findClass]; exact h3
      obtain ⟨t2, a1, b1⟩ := k2 hk q ce u t.heap (locs ++ L) h1 h2 h3' hp hP1 hS1 (xe_B (T.setVm vm₁) t) rfl X'
      exact ⟨t2, hstep₁ _ fun acts => by rw [doInvoke_state]; exact stp.trans a1, b1⟩
theorem xe_tab {t : List ExceptionTableEntry} {a0 b0 h0 c0 a1 b1 h1 c1 : Nat} (h : t.map (fun h => (h.startPc, h.endPc, h.handlerPc, h.catchType)) = [(a0, b0, h0, c0), (a1, b1, h1, c1)]) :
    ∃ x0 x1, t = [x0, x1] ∧ (x0.startPc = a0 ∧ x0.endPc = b0 ∧ x0.handlerPc = h0 ∧ x0.catchType = c0) ∧ (x1.startPc = a1 ∧ x1.endPc = b1 ∧ x1.handlerPc = h1 ∧ x1.catchType = c1) := by
  match t, h with
  | [x0, x1], h =>
    simp only [List.map_cons, List.map_nil, List.cons.injEq, Prod.mk.injEq, and_true] at h
    exact ⟨x0, x1, rfl, ⟨h.1.1, h.1.2.1, h.1.2.2.1, h.1.2.2.2⟩, ⟨h.2.1, h.2.2.1, h.2.2.2.1, h.2.2.2.2⟩⟩
theorem xe_cat1 {q : Nat} {ce : Cell} {st : List Value} {n h0 h1 : Nat} (hown : s.vm.findClass rn_L = some m.cls) (htb : c.exceptionTable.toList.map (fun h => (h.startPc, h.endPc, h.handlerPc, h.catchType)) = [(0, n, h0, 13), (0, n, h1, 15)]) (hpc : pc < n)
    (hl : (Cond.classLink rn_L 13 xe_I).before args s = true) (hca : (Cond.castable xe_I xe_I).before args s = true) (hq : H[q]? = some ce) (hns : ce.vm.isStatics = false) (hcls : s.vm.findClass xe_I = some ce.cls)
    (kk : W p l e R s m args below meth c H locs cells slots Q (F0 m h0 ls [.ref q])) : xe_W p l e R s m args below meth c H locs cells slots Q q (F0 m pc ls st) := by
  intro T hT X
  have hpl : e.platform.magicAccessors = ({} : Platform).magicAccessors := by rw [X.admits.platform]
  obtain ⟨x0, x1, ht, ⟨g1, g2, g3, g4⟩, -⟩ := xe_tab htb
  obtain ⟨c', hc', hcl⟩ := Cond.classLink_spec hown hl e.platform hpl
  cases hcls.symm.trans hc'
  obtain ⟨c3, c4, hc3, hc4, hasg⟩ := Cond.castable_spec hca
  cases hcls.symm.trans hc3
  cases hcls.symm.trans hc4
  obtain ⟨kk1, hkk1⟩ := Vm.classAt_of_findClass (vm := s.vm) hcls
  obtain ⟨kk2, hkk2, -⟩ := X.warmed.alike.2.2 _ _ hkk1
  obtain ⟨-, hw1, -⟩ := State.classEntry (e := e) X.warmed hcl
  have hvm : ((T.setTop (F0 m pc ls st)).pushFrame (.throwing q)).vm = T.vm := Stand.throwing_vm T _ q
  have hhp : ((T.setTop (F0 m pc ls st)).pushFrame (.throwing q)).heap = T.heap := Stand.throwing_heap T _ q
  obtain ⟨t, a1, b1⟩ := kk (T.setVm (T.vm.noted m.cls 13 (.cls ce.cls))) hT (X.noted hw1)
  refine ⟨t, xe_caught (pc := h0) (vm' := T.vm.noted m.cls 13 (.cls ce.cls)) X.here ?_ a1, b1⟩
  intro Q2 E d acts
  rw [W.findHandler_eq (meth := meth) (code := c) (by rw [hvm]; exact X.method') X.code, ht]
  have hg := xe_goY (Q := Q2) (E := E) (e := e) (d := d) (acts := acts) (s := (T.setTop (F0 m pc ls st)).pushFrame (.throwing q)) (f := F0 m pc ls st) (a := q) (x := x0) (t := [x1]) (k := ce.cls) (cell := ce)
    (by simp [covers, g1, g2, hpc]) (by rw [g4]; decide) (by rw [hvm, g4]; exact X.warmed.classLinks hcl) (by rw [hhp, hT]; exact hq) (VmData.ne_statics_of hns) (by rw [hvm]; exact ⟨kk2, hkk2⟩) (by rw [hvm]; exact ⟨kk2, hkk2⟩) (by rw [hvm, X.warmed.alike.assignable]; exact hasg)
  rw [hg, g3, g4, hvm]
theorem xe_cat2 {q : Nat} {ce : Cell} {st : List Value} {n h0 h1 : Nat} (hown : s.vm.findClass rn_L = some m.cls) (htb : c.exceptionTable.toList.map (fun h => (h.startPc, h.endPc, h.handlerPc, h.catchType)) = [(0, n, h0, 13), (0, n, h1, 15)]) (hpc : pc < n)
    (hl : (Cond.classLink rn_L 13 xe_I).before args s = true) (hl2 : (Cond.classLink rn_L 15 xe_L).before args s = true) (hca : (Cond.castable xe_L xe_L).before args s = true) (hno : ∀ c t, s.vm.findClass xe_L = some c → s.vm.findClass xe_I = some t → s.vm.assignable c t = false) (hq : H[q]? = some ce) (hns : ce.vm.isStatics = false) (hcls : s.vm.findClass xe_L = some ce.cls)
    (kk : W p l e R s m args below meth c H locs cells slots Q (F0 m h1 ls [.ref q])) : xe_W p l e R s m args below meth c H locs cells slots Q q (F0 m pc ls st) := by
  intro T hT X
  have hpl : e.platform.magicAccessors = ({} : Platform).magicAccessors := by rw [X.admits.platform]
  obtain ⟨x0, x1, ht, ⟨g1, g2, g3, g4⟩, ⟨f1, f2, f3, f4⟩⟩ := xe_tab htb
  obtain ⟨cN, hcN, hclN⟩ := Cond.classLink_spec hown hl e.platform hpl
  have hnoN := hno _ _ hcls hcN
  obtain ⟨c', hc', hcl⟩ := Cond.classLink_spec hown hl2 e.platform hpl
  cases hcls.symm.trans hc'
  obtain ⟨c3, c4, hc3, hc4, hasg⟩ := Cond.castable_spec hca
  cases hcls.symm.trans hc3
  cases hcls.symm.trans hc4
  obtain ⟨kk1, hkk1⟩ := Vm.classAt_of_findClass (vm := s.vm) hcls
  obtain ⟨kk2, hkk2, -⟩ := X.warmed.alike.2.2 _ _ hkk1
  obtain ⟨kN1, hkN1⟩ := Vm.classAt_of_findClass (vm := s.vm) hcN
  obtain ⟨kN2, hkN2, -⟩ := X.warmed.alike.2.2 _ _ hkN1
  obtain ⟨-, hw1, -⟩ := State.classEntry (e := e) X.warmed hclN
  obtain ⟨-, hw2, -⟩ := State.classEntry (e := e) hw1 hcl
  obtain ⟨kk3, hkk3, -⟩ := hw1.alike.2.2 _ _ hkk1
  have hvm : ((T.setTop (F0 m pc ls st)).pushFrame (.throwing q)).vm = T.vm := Stand.throwing_vm T _ q
  have hhp : ((T.setTop (F0 m pc ls st)).pushFrame (.throwing q)).heap = T.heap := Stand.throwing_heap T _ q
  obtain ⟨t, a1, b1⟩ := kk (T.setVm ((T.vm.noted m.cls 13 (.cls cN)).noted m.cls 15 (.cls ce.cls))) hT (X.noted hw2)
  refine ⟨t, xe_caught (pc := h1) (vm' := (T.vm.noted m.cls 13 (.cls cN)).noted m.cls 15 (.cls ce.cls)) X.here ?_ a1, b1⟩
  intro Q2 E d acts
  rw [W.findHandler_eq (meth := meth) (code := c) (by rw [hvm]; exact X.method') X.code, ht]
  have hg := xe_goN (Q := Q2) (E := E) (e := e) (d := d) (acts := acts) (s := (T.setTop (F0 m pc ls st)).pushFrame (.throwing q)) (f := F0 m pc ls st) (a := q) (x := x0) (t := [x1]) (k := cN) (cell := ce)
    (by simp [covers, g1, g2, hpc]) (by rw [g4]; decide) (by rw [hvm, g4]; exact X.warmed.classLinks hclN) (by rw [hhp, hT]; exact hq) (VmData.ne_statics_of hns) (by rw [hvm]; exact ⟨kk2, hkk2⟩) (by rw [hvm]; exact ⟨kN2, hkN2⟩) (by rw [hvm, X.warmed.alike.assignable]; exact hnoN)
  rw [hg, g4, hvm]
  have hg2 := xe_goY (Q := Q2) (E := E) (e := e) (d := d) (acts := acts) (s := ((T.setTop (F0 m pc ls st)).pushFrame (.throwing q)).setVm (T.vm.noted m.cls 13 (.cls cN))) (f := F0 m pc ls st) (a := q) (x := x1) (t := []) (k := ce.cls) (cell := ce)
    (by simp [covers, f1, f2, hpc]) (by rw [f4]; decide) (by rw [f4]; exact hw1.classLinks hcl) (by show ((T.setTop (F0 m pc ls st)).pushFrame (.throwing q)).heap[q]? = _; rw [hhp, hT]; exact hq) (VmData.ne_statics_of hns) ⟨kk3, hkk3⟩ ⟨kk3, hkk3⟩ (by show (T.vm.noted m.cls 13 (.cls cN)).assignable _ _ = true; rw [hw1.alike.assignable]; exact hasg)
  rw [hg2, f3, f4]
  rfl
end XC
