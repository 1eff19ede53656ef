/-! THE THROW'S ROW: new, dup, ldc, the constructor, athrow -/
section XT
variable {p : Program} {l : Launch} {e : Env} {R : Room} {s : State} {m : MethodId} {args : Array Value} {below : List Frame} {meth : Method} {c : Code} {H : Heap} {locs : List Loc} {cells slots : Nat} {Q : State → Prop}
/-- of the places that may have been written, those that hold another value now -/
theorem xe_min {T : State} (X : Stand p l e R s m args below meth c T locs cells slots) : ∃ L' : List Loc, (∀ q ∈ L', q ∈ locs ∧ (T.heap[q.base]?.bind fun c => c.slots[q.slot]?) ≠ (s.heap[q.base]?.bind fun c => c.slots[q.slot]?)) ∧ Stand p l e R s m args below meth c T L' cells slots := by
  refine ⟨locs.filter (fun q => @decide ((T.heap[q.base]?.bind fun c => c.slots[q.slot]?) ≠ (s.heap[q.base]?.bind fun c => c.slots[q.slot]?)) (Classical.propDecidable _)), fun q hq => ?_, { X with same := ⟨X.same.1, X.same.2.1, X.same.2.2.1, X.same.2.2.2.1, X.same.2.2.2.2.1, fun a k hk => ?_⟩ }⟩
  · obtain ⟨h1, h2⟩ := List.mem_filter.mp hq
    exact ⟨h1, @of_decide_eq_true _ (Classical.propDecidable _) h2⟩
  · obtain ⟨k', h1, h2, h3, h4⟩ := X.same.2.2.2.2.2 a k hk
    refine ⟨k', h1, h2, h3, fun i hi => ?_⟩
    by_cases hl : (⟨a, i⟩ : Loc) ∈ locs
    · by_cases hv : (T.heap[a]?.bind fun c => c.slots[i]?) = (s.heap[a]?.bind fun c => c.slots[i]?)
      · have h5 : T.heap[a]? = some k' := h1
        rw [h5, hk] at hv
        exact hv
      · exact absurd (List.mem_filter.mpr ⟨hl, @decide_eq_true _ (Classical.propDecidable _) hv⟩) hi
    · exact h4 i hl
theorem xe_obj {D : va_G} {cl : List vw_C} {ws : va_W} {H : Heap} (hP : va_P D cl ws H) {k : Nat} {q : Nat} {b : va_E} (hk : ws[k]? = some (q, b)) {cell : Cell} (hc : H[q]? = some cell) : cell.vm.isStatics = false := by
  have h := hP k _ hk
  cases b with
  | inl x =>
    have h1 : H[q]? = some (vp_cell x.1 x.2) := h
    rw [hc] at h1
    obtain rfl := Option.some.inj h1
    obtain ⟨cA, n, f⟩ := x
    rcases f with f | f | f | f | f <;> rfl
  | inr x =>
    obtain ⟨r, h1, cell2, h2, h3, h4, h5⟩ := h
    rw [show H[(q, (Sum.inr x : va_E)).1]? = H[q]? from rfl, hc] at h2
    obtain rfl := Option.some.inj h2
    rw [h4]; rfl
/-- the world is as it was at the start: it is so at every state that differs from the start in no place that differs now -/
theorem xe_world {D : va_G} {cl : List vw_C} {ws : va_W} {T U : State} {L : List Loc} {n1 n2 : Nat} (hP0 : va_P D cl ws s.heap) (hP : va_P D cl ws T.heap) (hsame : s.sameButNew ({ U with vm := s.vm } : State) L n1 n2)
    (hL : ∀ q ∈ L, (T.heap[q.base]?.bind fun c => c.slots[q.slot]?) ≠ (s.heap[q.base]?.bind fun c => c.slots[q.slot]?)) : va_P D cl ws U.heap := by
  intro k q hk
  have h0 := hP0 k q hk
  have h1 := hP k q hk
  obtain ⟨a, b⟩ := q
  cases b with
  | inl x =>
    have g0 : s.heap[a]? = some (vp_cell x.1 x.2) := h0
    have g1 : T.heap[a]? = some (vp_cell x.1 x.2) := h1
    obtain ⟨k', f1, f2, f3, f4⟩ := hsame.2.2.2.2.2 a _ g0
    have f5 : k'.slots = (vp_cell x.1 x.2).slots := Array.ext_getElem? fun i => f4 i fun hmem => hL _ hmem (by rw [g0, g1])
    rw [f5] at f2
    rw [f2] at f1
    exact f1
  | inr x =>
    obtain ⟨r, h2, cell0, g0, g2, g3, g4⟩ := h0
    obtain ⟨r1, h3, cell1, f0, f2, f3, f4⟩ := h1
    cases h2.symm.trans h3
    obtain ⟨k', e1, e2, e3, e4⟩ := hsame.2.2.2.2.2 a cell0 g0
    refine ⟨r, h2, k', e1, by rw [e2]; exact g2, by rw [e2]; exact g3, fun j hj => ?_⟩
    rw [e4 _ (fun hmem => hL _ hmem (by
      show (T.heap[a]?.bind fun c => c.slots[_]?) = (s.heap[a]?.bind fun c => c.slots[_]?)
      have g0' : s.heap[a]? = some cell0 := g0
      have f0' : T.heap[a]? = some cell1 := f0
      rw [g0', f0']
      show cell1.slots[_]? = cell0.slots[_]?
      rw [g4 j hj, f4 j hj]))]
    exact g4 j hj
theorem xe_frame {A : Nat → Prop} {U : State} {L : List Loc} {n1 n2 : Nat} (hsame : s.sameButNew ({ U with vm := s.vm } : State) L n1 n2) (hL : ∀ q ∈ L, A q.base) : va_F A s U := by
  refine ⟨hsame.2.1, fun q hq hA => ?_⟩
  obtain ⟨cell, hc⟩ : ∃ cell, s.heap[q]? = some cell := ⟨_, Array.getElem?_eq_getElem hq⟩
  obtain ⟨k', f1, f2, f3, f4⟩ := hsame.2.2.2.2.2 q _ hc
  have f5 : k'.slots = cell.slots := Array.ext_getElem? fun i => f4 i fun hmem => hA (hL _ hmem)
  rw [f5] at f2
  rw [f2] at f1
  exact f1.trans hc.symm
variable {cc : ByteArray} {pc : Nat} {ls : Array Slot} {D : va_G} {cl : List vw_C} {ws : va_W} {A : Nat → Prop}
theorem xe_thr {Qc : Array Value → State → Outcome → State → Prop} {mc ms : Nat} {X text : String} {ic ix il : Nat} (hx : p.tables.exec = Jvm.exec) (hb : c.code = cc) (htr : e.platform.stackTraces = false) (hown : s.vm.findClass rn_R = some m.cls) (hlocks : meth.locks = false) (hem : c.exceptionTable.isEmpty = true)
    (hfit : Bundle.fit X = true) (hat : ∀ w ∈ Bundle.ownAtoms rn_R ic X xe_nm, w.before args s = true) (hcl : (Cond.classLink rn_R ix X).before args s = true) (hini : (Cond.initialized X).before args s = true) (hst : (Cond.stringRef rn_R il text).before args s = true)
    (hP0 : va_P D cl ws s.heap) (hP : va_P D cl ws H) (hS : va_S A s.heap H locs) (hA : ∀ q : Nat, A q → ∃ (k : Nat) (b : va_E), ws[k]? = some (q, b))
    (hRf : 5 < R.frames) (hRl : 82 ≤ R.locals) (hc : cells + 1 ≤ R.cells) (hs : slots + 6 ≤ R.slots) (hsz : ls.size = c.maxLocals)
    (d0 : decode cc pc = .ok (.new ix, 3)) (d1 : decode cc (pc + 3) = .ok (.dup, 1)) (d2 : decode cc (pc + 4) = .ok (.ldc il, 2)) (d3 : decode cc (pc + 6) = .ok (.invokespecial ic, 3)) (d4 : decode cc (pc + 9) = .ok (.athrow, 1))
    (hmc : cells + 1 ≤ mc) (hms : slots + 6 ≤ ms)
    (kq : ∀ (t : State) (q : Nat) (ce : Cell), va_P D cl ws t.heap → va_F A s t → t.heap[q]? = some ce → ce.vm.isStatics = false → s.vm.findClass X = some ce.cls → Qc args s (.threw q) t) :
    W p l e R s m args below meth c H locs cells slots (xe_MQ below Qc args s mc ms A) (F0 m pc ls []) := by
  intro T hT Y
  have hins : (Cond.instantiable X 6).before args s = true := hat _ (by simp [Bundle.ownAtoms])
  obtain ⟨vm1, cC, kC, hfc, hk, hkind, hn, Y1, st1⟩ := Y.newCold hx hown hcl hins hini (g := F0 m pc ls []) rfl (by rw [hb]; exact d0) hc hs
  obtain ⟨-, -, -, sa, -, -, -, -, -, hev⟩ := Cond.stringRef_spec hown hst
  have key : W p l e R s m args below meth c ((T.setVm vm1).pushCell { cls := cC, slots := kC.instanceTypes.map defaultValue, vm := .none }).heap locs (cells + 1) (slots + 6) (xe_MQ below Qc args s mc ms A) (F0 m (pc + 3) ls [.ref T.heap.size]) := by
    refine lv_dup hx hb d1 rfl ?_
    intro T2 hT2 Y2
    have hheap : T2.heap = T.heap.push { cls := cC, slots := kC.instanceTypes.map defaultValue, vm := .none } := hT2
    obtain ⟨L', hL', Y3⟩ := xe_min Y2
    have hP2 : va_P D cl ws T2.heap := by
      rw [hheap]
      intro k q hq
      have h1 : va_at D cl q T.heap := by rw [hT]; exact hP k q hq
      exact h1.kept (by rw [Array.getElem?_push, if_neg (Nat.ne_of_lt h1.lt)])
    obtain ⟨U, stp, hrun, hend, hWU, hsame, ce, hce, hoc⟩ := Y3.ctorThrowS hx htr (own := rn_R) (cls := X) (names := xe_nm) (ic := ic) hown hfit (by decide +kernel) hat
      (fun x hx2 cell hcell => by
        obtain ⟨k, b, hkb⟩ := hA _ (hS.2.2 x (hL' x hx2).1)
        exact xe_obj hP0 hkb hcell)
      hfc hk (a := T.heap.size) (by rw [hheap]; simp) (by have := hS.1; rw [← hT] at this; exact this) (msg := .ref sa) rfl (g := F0 m (pc + 6) ls [.ref sa, .ref T.heap.size, .ref T.heap.size]) rfl hsz rfl rfl (rest := []) rfl (by rw [hb]; exact d3) (by rw [hb]; exact d4) (xe_none hem _) hRf (by show 2 * 0 + 1 + (13 * 3 + 42) ≤ R.locals; omega) (hlocks := hlocks)
    have hLA : ∀ q ∈ L', A q.base := fun q hq => hS.2.2 q (hL' q hq).1
    refine ⟨U, Y2.ldcString hx hown hst hev (g := F0 m (pc + 4) ls [.ref T.heap.size, .ref T.heap.size]) rfl (by rw [hb]; exact d2) _ stp, .threw T.heap.size, hrun, hend, kq U _ ce (xe_world hP0 hP2 hsame (fun q hq => (hL' q hq).2)) (xe_frame hsame hLA) hce (by rw [hoc.vm]; rfl) hoc.cls, Or.inr ⟨_, rfl⟩, hWU, L', hsame.mono hmc hms, hLA⟩
  obtain ⟨t, a1, b1⟩ := key _ rfl Y1
  exact ⟨t, st1 _ a1, b1⟩
end XT
