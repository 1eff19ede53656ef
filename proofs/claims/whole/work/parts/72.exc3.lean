/-! WHAT A THROW ASKS OF THE START; THE THROW OF A FRESH EXCEPTION -/
abbrev xe_I : String := "java/lang/IndexOutOfBoundsException"
abbrev xe_L : String := "java/lang/IllegalArgumentException"
abbrev xe_nm : List String := ["java/lang/RuntimeException", "java/lang/Exception"]
def xe_Z (n d : String) (A : Nat → Prop) (U : State) (H : Heap) : Prop := ∃ (c : ClassId) (k : Class) (i : Nat) (f : Field) (a : Nat) (cell : Cell) (v : Value), U.vm.findClass Bundle.tN = some c ∧ U.fieldFound? Bundle.tN n d = some (c, k, i, f) ∧ f.isStatic = true ∧ k.statics = some a ∧ H[a]? = some cell ∧ cell.vm.isStatics = true ∧ cell.cls = c ∧ f.slot < cell.slots.size ∧ k.staticTypes[f.slot]? = some f.type ∧ cell.slots[f.slot]? = some v ∧ v.isRef = true ∧ ¬ A a
theorem xe_Z.lays {n d : String} {A : Nat → Prop} {U : State} (h : xe_Z n d A U U.heap) (args : Array Value) : (Cond.laysStatic Bundle.tN n d).before args U = true := by
  obtain ⟨c, k, i, f, a, cell, v, h1, h2, h3, h4, h5, h6, h7, h8, h9, h10, h11, h12⟩ := h
  exact Cond.laysStatic_of h1 h2 h3 h4 h5 h6 h7 h8 h9
theorem xe_Z.isRef {n d : String} {A : Nat → Prop} {U : State} (h : xe_Z n d A U U.heap) (args : Array Value) : (Cond.isRef (.static Bundle.tN n d)).before args U = true := by
  obtain ⟨c, k, i, f, a, cell, v, h1, h2, h3, h4, h5, h6, h7, h8, h9, h10, h11, h12⟩ := h
  have he : (Term.static Bundle.tN n d).eval args U none [] U = some v := by
    simp [Term.eval, State.fieldNamed?, h2, h3, h4, h5, h6, h10]
  simp only [Cond.before, Cond.holds, Cond.value, he]
  cases v <;> simp [Value.isRef] at h11 <;> simp
theorem xe_Z.of {n d : String} {A : Nat → Prop} {s : State} {args : Array Value} (hl : (Cond.laysStatic Bundle.tN n d).before args s = true) (h : (Cond.isRef (.static Bundle.tN n d)).before args s = true) (hA : ∀ a : Nat, a < s.heap.size → ¬ A a) : xe_Z n d A s s.heap := by
  obtain ⟨c, k, i, f, a, cell, h1, h2, h3, h4, h5, h6, h7, h8, h9⟩ := Cond.laysStatic_spec hl
  obtain ⟨u, hu⟩ := Cond.staticRefV h2 h3 h4 h5 h6 h
  exact ⟨c, k, i, f, a, cell, u.v, h1, h2, h3, h4, h5, h6, h7, h8, h9, hu, u.2, hA a (Array.getElem?_eq_some_iff.mp h5).1⟩
theorem xe_Z.moved {n d : String} {A : Nat → Prop} {u U : State} {H : Heap} (hvm : u.vm.Alike U.vm) (h : xe_Z n d A u H) : xe_Z n d A U H := by
  obtain ⟨c, k, i, f, a, cell, v, h1, h2, h3, h4, h5, h6, h7, h8, h9, h10, h11, h12⟩ := h
  obtain ⟨k', hi', hek⟩ := State.fieldFound?_setVm hvm h2
  exact ⟨c, k', i, f, a, cell, v, by rw [hvm.findClass]; exact h1, hi', h3, by rw [hek]; exact h4, h5, h6, h7, h8, by rw [hek]; exact h9, h10, h11, h12⟩
theorem xe_Z.kept {n d : String} {A : Nat → Prop} {U : State} {H H1 : Heap} (h : xe_Z n d A U H) (hq : ∀ a : Nat, a < H.size → ¬ A a → H1[a]? = H[a]?) : xe_Z n d A U H1 := by
  obtain ⟨c, k, i, f, a, cell, v, h1, h2, h3, h4, h5, h6, h7, h8, h9, h10, h11, h12⟩ := h
  exact ⟨c, k, i, f, a, cell, v, h1, h2, h3, h4, by rw [hq a (Array.getElem?_eq_some_iff.mp h5).1 h12]; exact h5, h6, h7, h8, h9, h10, h11, h12⟩
theorem xe_Z.narrow {n d : String} {A B : Nat → Prop} {U : State} {H : Heap} (h : xe_Z n d A U H) (hAB : ∀ q, B q → A q) : xe_Z n d B U H := by
  obtain ⟨c, k, i, f, a, cell, v, h1, h2, h3, h4, h5, h6, h7, h8, h9, h10, h11, h12⟩ := h
  exact ⟨c, k, i, f, a, cell, v, h1, h2, h3, h4, h5, h6, h7, h8, h9, h10, h11, fun z => h12 (hAB _ z)⟩
def xe_ws : List Cond := [.castable xe_I xe_I, .castable xe_L xe_L, .declares (Bundle.initS "java/lang/RuntimeException"), .declares (Bundle.initS "java/lang/Exception"), .declares (Bundle.initS Bundle.tN)]
def xe_st : List (Nat × String) := [(138, "no such tile"), (140, "no such kind"), (40, "the piece is there"), (142, "the piece is not there"), (58, "no such way"), (60, "no such sort"), (70, "no such station"), (73, "a curve has no station")]
def xe_K (A : Nat → Prop) (U : State) (H : Heap) : Prop :=
  ((∀ w ∈ xe_ws, w.before #[] U = true) ∧ (∀ q ∈ xe_st, (Cond.stringRef rn_R q.1 q.2).before #[] U = true)) ∧
  (xe_Z "UNASSIGNED_STACK" Bundle.steD A U H ∧ xe_Z "SUPPRESSED_SENTINEL" Bundle.listD A U H) ∧ (∀ c t, U.vm.findClass xe_L = some c → U.vm.findClass xe_I = some t → U.vm.assignable c t = false)
theorem xe_ws_at {s U : State} {args args' : Array Value} (hW : s.WarmedH U.vm) {w : Cond} (hc : w.onTables = true) (ho : w.warmOk s) (h : w.before args s = true) : w.before args' U = true := by
  have h1 := Cond.before_warmed hW w ho h
  rw [Cond.onTables_vm (A := args) (A' := args') (U := s) (U' := U) U.vm w hc] at h1
  exact h1
theorem xe_K.moved {A : Nat → Prop} {s U : State} {H : Heap} (hW : s.WarmedH U.vm) (h : xe_K A s H) : xe_K A U H := by
  obtain ⟨⟨h1, h2⟩, ⟨h3, h4⟩, h5⟩ := h
  refine ⟨⟨?_, ?_⟩, ⟨h3.moved hW.alike, h4.moved hW.alike⟩, ?_⟩
  · intro w hw
    have hb := h1 w hw
    simp only [xe_ws, List.mem_cons, List.not_mem_nil, or_false] at hw
    rcases hw with rfl | rfl | rfl | rfl | rfl <;> exact xe_ws_at hW rfl trivial hb
  · intro q hq
    have h6 := Cond.stringRef_warmed (vm' := U.vm) hW (h2 q hq)
    exact h6
  · intro c t hc ht
    rw [hW.alike.findClass] at hc ht
    rw [hW.alike.assignable]
    exact h5 c t hc ht
theorem xe_K.kept {A : Nat → Prop} {U : State} {H H1 : Heap} (h : xe_K A U H) (hq : ∀ a : Nat, a < H.size → ¬ A a → H1[a]? = H[a]?) : xe_K A U H1 :=
  ⟨h.1, ⟨h.2.1.1.kept hq, h.2.1.2.kept hq⟩, h.2.2⟩
theorem xe_K.narrow {A B : Nat → Prop} {U : State} {H : Heap} (h : xe_K A U H) (hAB : ∀ q, B q → A q) : xe_K B U H :=
  ⟨h.1, ⟨h.2.1.1.narrow hAB, h.2.1.2.narrow hAB⟩, h.2.2⟩
theorem xe_K.cast {A : Nat → Prop} {U : State} {H : Heap} (h : xe_K A U H) {w : Cond} (hw : w ∈ xe_ws) (args : Array Value) : w.before args U = true := by
  have hb := h.1.1 w hw
  simp only [xe_ws, List.mem_cons, List.not_mem_nil, or_false] at hw
  rcases hw with rfl | rfl | rfl | rfl | rfl <;> exact va_any rfl hb
theorem xe_K.str {A : Nat → Prop} {U : State} {H : Heap} (h : xe_K A U H) {i : Nat} {t : String} (hq : (i, t) ∈ xe_st) (args : Array Value) : (Cond.stringRef rn_R i t).before args U = true := h.1.2 _ hq
/-- of what the kit of throws asks, each is a word of the tables, or of xe_ws, or one of the two statics -/
theorem xe_own {X : String} {ic : Nat} {A : Nat → Prop} {s : State} {args : Array Value} (hts : ∀ w ∈ tG, w.before args s = true) (hK : xe_K A s s.heap)
    (h : ∀ w ∈ Bundle.ownAtoms rn_R ic X xe_nm, w ∈ tG ∨ w ∈ xe_ws ∨ w = .isRef (.static Bundle.tN "UNASSIGNED_STACK" Bundle.steD) ∨ w = .isRef (.static Bundle.tN "SUPPRESSED_SENTINEL" Bundle.listD) ∨ w = .laysStatic Bundle.tN "UNASSIGNED_STACK" Bundle.steD ∨ w = .laysStatic Bundle.tN "SUPPRESSED_SENTINEL" Bundle.listD) :
    ∀ w ∈ Bundle.ownAtoms rn_R ic X xe_nm, w.before args s = true := by
  intro w hw
  rcases h w hw with h | h | rfl | rfl | rfl | rfl
  · exact hts w h
  · exact hK.cast h args
  · exact hK.2.1.1.isRef args
  · exact hK.2.1.2.isRef args
  · exact hK.2.1.1.lays args
  · exact hK.2.1.2.lays args
set_option maxRecDepth 100000 in
theorem xe_ownI : ∀ w ∈ Bundle.ownAtoms rn_R 72 xe_I xe_nm, w ∈ tG ∨ w ∈ xe_ws ∨ w = .isRef (.static Bundle.tN "UNASSIGNED_STACK" Bundle.steD) ∨ w = .isRef (.static Bundle.tN "SUPPRESSED_SENTINEL" Bundle.listD) ∨ w = .laysStatic Bundle.tN "UNASSIGNED_STACK" Bundle.steD ∨ w = .laysStatic Bundle.tN "SUPPRESSED_SENTINEL" Bundle.listD := by
  decide +kernel
set_option maxRecDepth 100000 in
theorem xe_ownL : ∀ w ∈ Bundle.ownAtoms rn_R 42 xe_L xe_nm, w ∈ tG ∨ w ∈ xe_ws ∨ w = .isRef (.static Bundle.tN "UNASSIGNED_STACK" Bundle.steD) ∨ w = .isRef (.static Bundle.tN "SUPPRESSED_SENTINEL" Bundle.listD) ∨ w = .laysStatic Bundle.tN "UNASSIGNED_STACK" Bundle.steD ∨ w = .laysStatic Bundle.tN "SUPPRESSED_SENTINEL" Bundle.listD := by
  decide +kernel
