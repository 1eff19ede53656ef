/-! THE NOTE OF A THROW OVER A FRAME; LEAVING BY IT; CATCHING IT -/
section XW
variable {p : Program} {l : Launch} {e : Env} {R : Room} {s : State} {m : MethodId} {args : Array Value} {below : List Frame} {meth : Method} {c : Code} {H : Heap} {locs : List Loc} {cells slots : Nat} {Q : State → Prop}
/-- a throw of the cell q lies over the frame g: the machine comes to a state with Q -/
def xe_W (p : Program) (l : Launch) (e : Env) (R : Room) (s : State) (m : MethodId) (args : Array Value) (below : List Frame) (meth : Method) (c : Code) (H : Heap) (locs : List Loc) (cells slots : Nat) (Q : State → Prop) (q : Addr) (g : JFrame) : Prop :=
  ∀ T : State, T.heap = H → Stand p l e R s m args below meth c T locs cells slots → ∃ t, Steps p.tables e below ((T.setTop g).pushFrame (.throwing q)) t ∧ Q t
theorem xe_none {c : Code} (h : c.exceptionTable.isEmpty = true) (pc : Nat) : ∀ x ∈ c.exceptionTable.toList, covers x pc = false := by
  intro x hx
  have h1 : c.exceptionTable = #[] := by simpa using h
  rw [h1] at hx
  exact absurd hx (by simp)
theorem xe_leave {Qc : Array Value → State → Outcome → State → Prop} {free : Addr → Prop} {mc ms : Nat} {q : Addr} {pc : Nat} {ls : Array Slot} {st : List Value} (hlocks : meth.locks = false) (hem : c.exceptionTable.isEmpty = true)
    (hq : ∀ t : State, t.heap = H → s.WarmedH t.vm → Qc args s (.threw q) t) (hf : ∀ q ∈ locs, free q.base) (hmc : cells ≤ mc) (hms : slots ≤ ms) :
    xe_W p l e R s m args below meth c H locs cells slots (xe_MQ below Qc args s mc ms free) q (F0 m pc ls st) := by
  intro T hT X
  obtain ⟨h1, h2, h3, h4, h5⟩ := X.leaveThrown q (g := F0 m pc ls st) rfl rfl rfl (xe_none hem pc) (hlocks := hlocks)
  exact ⟨_, h1, .threw q, h2, h3, hq _ hT h4, Or.inr ⟨q, rfl⟩, h4, locs, h5.mono hmc hms, hf⟩
theorem xe_ret {Qc : Array Value → State → Outcome → State → Prop} {free : Addr → Prop} {mc ms : Nat} {g : JFrame} (hmc : cells ≤ mc) (hms : slots ≤ ms) (k : W p l e R s m args below meth c H locs cells slots (MQ below Qc args s cells slots free) g) :
    W p l e R s m args below meth c H locs cells slots (xe_MQ below Qc args s mc ms free) g := by
  intro T hT X
  obtain ⟨t, a1, o, b1, b2, b3, L, ⟨b4, b5, b6⟩, b7⟩ := k T hT X
  exact ⟨t, a1, o, b1, b2, b3, Or.inl b4, b5, L, b6.mono hmc hms, b7⟩
/-- the search for a handler gives h, and leaves these tables -/
def xe_F (e : Env) (s : State) (f : JFrame) (a : Addr) (h : Handler) (vm' : Vm) : Prop :=
  ∀ (Q : Handler → Pre) (E : CtlPost) (d : Bool) (acts : List Action), wp (findHandler f a) Q E e d acts s ↔ Q h d acts (s.setVm vm')
theorem xe_goY {Q : Handler → Pre} {E : CtlPost} {e : Env} {d : Bool} {acts : List Action} {s : State} {f : JFrame} {a : Addr} {x : ExceptionTableEntry} {t : List ExceptionTableEntry} {k : ClassId} {cell : Cell} (hx : covers x f.pc = true) (h0 : x.catchType ≠ 0)
    (hl : s.vm.ClassLinks e.platform f.method.cls x.catchType k) (hcell : s.heap[a]? = some cell) (hobj : ∀ k, cell.vm ≠ .statics k)
    (hk : ∃ k, s.vm.classes[cell.cls]? = some k) (hc : ∃ z, s.vm.classes[k]? = some z) (hfit : s.vm.assignable cell.cls k = true) :
    wp (findHandler.go f a (x :: t)) Q E e d acts s ↔ Q (.found x.handlerPc) d acts (s.setVm (s.vm.noted f.method.cls x.catchType (.cls k))) := by
  simp only [covers] at hx
  obtain ⟨g1, g2⟩ := (resolveClass_links e.toSetting hl).op (op := VmOp.resolveClass f.method.cls x.catchType) rfl
  have hal : s.vm.Alike (s.vm.noted f.method.cls x.catchType (.cls k)) := (Vm.Alike.refl s.vm).noted _ _ _
  obtain ⟨k1, hk1⟩ := hk
  obtain ⟨k2, hk2⟩ := hc
  obtain ⟨k3, hk3, -⟩ := hal.2.2 _ _ hk1
  obtain ⟨k4, hk4, -⟩ := hal.2.2 _ _ hk2
  have hfit' := hfit
  rw [← hal.assignable] at hfit'
  simp [findHandler.go, hx, h0, g1, g2, hcell, hobj, hk3, hk4, hfit', VmOp.dirties, VmOp.acts]
theorem xe_goN {Q : Handler → Pre} {E : CtlPost} {e : Env} {d : Bool} {acts : List Action} {s : State} {f : JFrame} {a : Addr} {x : ExceptionTableEntry} {t : List ExceptionTableEntry} {k : ClassId} {cell : Cell} (hx : covers x f.pc = true) (h0 : x.catchType ≠ 0)
    (hl : s.vm.ClassLinks e.platform f.method.cls x.catchType k) (hcell : s.heap[a]? = some cell) (hobj : ∀ k, cell.vm ≠ .statics k)
    (hk : ∃ k, s.vm.classes[cell.cls]? = some k) (hc : ∃ z, s.vm.classes[k]? = some z) (hfit : s.vm.assignable cell.cls k = false) :
    wp (findHandler.go f a (x :: t)) Q E e d acts s ↔ wp (findHandler.go f a t) Q E e d acts (s.setVm (s.vm.noted f.method.cls x.catchType (.cls k))) := by
  simp only [covers] at hx
  obtain ⟨g1, g2⟩ := (resolveClass_links e.toSetting hl).op (op := VmOp.resolveClass f.method.cls x.catchType) rfl
  have hal : s.vm.Alike (s.vm.noted f.method.cls x.catchType (.cls k)) := (Vm.Alike.refl s.vm).noted _ _ _
  obtain ⟨k1, hk1⟩ := hk
  obtain ⟨k2, hk2⟩ := hc
  obtain ⟨k3, hk3, -⟩ := hal.2.2 _ _ hk1
  obtain ⟨k4, hk4, -⟩ := hal.2.2 _ _ hk2
  have hfit' := hfit
  rw [← hal.assignable] at hfit'
  simp [findHandler.go, hx, h0, g1, g2, hcell, hobj, hk3, hk4, hfit', VmOp.dirties, VmOp.acts]
theorem xe_step {e : Env} {s : State} {a : Addr} {f : JFrame} {r : List Frame} {pc : Nat} {vm' : Vm} (hfind : xe_F e s f a (.found pc) vm') :
    (stepThrowing e s a (.java f :: r)).Is ((s.setVm vm').setFrames (.java { f with pc := pc, stack := [.ref a] } :: r)) [] := by
  simp only [stepThrowing, searchFrame, vmDo]
  generalize hr : Sem.go _ e false [] s = res
  obtain ⟨as, rfl, ha⟩ := Sem.eq_ok_of hr (a := Handler.found pc) (s' := s.setVm vm') (acts' := []) (by simp [hfind _ _ _ _])
  exact ⟨rfl, ha⟩
theorem xe_caught {tb : Tables} {T target : State} {g : JFrame} {q : Addr} {pc : Nat} {vm' : Vm} (h : At T g.method c below) (hfind : xe_F e ((T.setTop g).pushFrame (.throwing q)) g q (.found pc) vm')
    (hrest : Steps tb e below ((T.setVm vm').setTop { g with pc := pc, stack := [.ref q] }) target) : Steps tb e below ((T.setTop g).pushFrame (.throwing q)) target := by
  obtain ⟨hgo, hw⟩ := h.throwing q
  refine Steps.head hgo hw ?_
  rw [stepThread_throwing (frames_entered h.top _), (xe_step (s := (T.setTop g).pushFrame (.throwing q)) hfind).1]
  obtain ⟨g₀, hg⟩ := Option.isSome_iff_exists.mp h.top
  obtain ⟨r, hr⟩ := State.topJava?_eq_some.mp hg
  have hr' : (T.setVm vm').frames = .java g₀ :: r := hr
  rw [State.setTop_of_frames _ hr'] at hrest
  have e1 : (((T.setTop g).pushFrame (.throwing q)).setVm vm').setFrames (.java { g with pc := pc, stack := [.ref q] } :: T.frames.tail) = (T.setVm vm').setFrames (.java { g with pc := pc, stack := [.ref q] } :: r) := by
    show ((((T.setTop g).pushFrame (.throwing q)).setFrames (.java { g with pc := pc, stack := [.ref q] } :: T.frames.tail)).setVm vm') = ((T.setFrames (.java { g with pc := pc, stack := [.ref q] } :: r)).setVm vm')
    rw [State.pushFrame, State.setFrames_setFrames, State.setTop_of_frames _ hr, State.setFrames_setFrames, hr]
    rfl
  rw [e1]
  exact hrest
end XW
