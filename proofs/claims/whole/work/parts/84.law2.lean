/-! THE LAW: what its questions come to; its start and end (the last begun from the kit's skeleton) -/
theorem l_blk {Q : Nat → Nat} {w h : Nat} {x y r : Int32} (H : (r = -1 ∧ (rt_ix x (w * h) = none ∨ rt_ix y 6 = none)) ∨ ∃ B, rt_isB Q w h B ∧ r = rt_blk Q (w * h) B x y) :
    ∃ B, (rt_isP Q (w * h) x y = true → rt_isB Q w h B) ∧ r = rt_blk Q (w * h) B x y := by
  rcases H with ⟨h1, h2⟩ | ⟨B, h1, h2⟩
  · refine ⟨fun _ => 0, fun q => ?_, by rw [rt_blk_n h2, h1]⟩
    rw [rt_isP_n h2] at q
    cases q
  · exact ⟨B, fun _ => h1, h2⟩
theorem l_same {Q : Nat → Nat} {w h : Nat} {x y r : Int32} {F : (Nat → Option Nat) → Int32} (H : (r = -1 ∧ (rt_ix y 8 = none ∨ rt_opx Q (w * h) x = false)) ∨ ∃ z0 K, z0 < 8 ∧ y = nI z0 ∧ rt_opx Q (w * h) x = true ∧ rt_isC Q w h z0 K ∧ rt_small K ∧ r = F K) :
    ∃ C, (rt_opx Q (w * h) x = true → ∀ z, z < 8 → y = nI z → rt_isC Q w h z C) ∧ rt_small C ∧ ∀ r2 : Int32, ((rt_opx Q (w * h) x = true → (rt_ix y 8).isSome = true → r2 = F C) ∧ ((rt_opx Q (w * h) x = false ∨ rt_ix y 8 = none) → r2 = -1)) → r = r2 := by
  rcases H with ⟨h1, h2⟩ | ⟨z0, K, h1, rfl, h3, h4, h5, h6⟩
  · refine ⟨fun _ => none, fun q z hz e => ?_, fun _ _ q => (by cases q), fun r2 q => h1.trans (q.2 (h2.elim Or.inr Or.inl)).symm⟩
    rcases h2 with h2 | h2
    · rw [e, rt_ix_some (by decide) hz] at h2
      cases h2
    · rw [h2] at q
      cases q
  · refine ⟨K, fun _ z hz e => ?_, h5, fun r2 q => h6.trans (q.1 h3 (by rw [rt_ix_some (by decide) h1]; rfl)).symm⟩
    have e2 := congrArg Int32.toNatClampNeg e
    rw [nI_clamp (by omega), nI_clamp (by omega)] at e2
    rw [← e2]
    exact h4
theorem l_cnt {Q : Nat → Nat} {w h : Nat} {x r : Int32} (H : (¬ x = nI 3 ∧ r = rt_count Q (w * h) x) ∨ (x = nI 3 ∧ ∃ B, rt_isB Q w h B ∧ r = nI (rt_nB Q (6 * (w * h)) B))) :
    ∃ B, (x = nI 3 → rt_isB Q w h B) ∧ ∀ r2 : Int32, ((¬ x = nI 3 → r2 = rt_count Q (w * h) x) ∧ (x = nI 3 → r2 = nI (rt_nB Q (6 * (w * h)) B))) → r = r2 := by
  rcases H with ⟨h1, h2⟩ | ⟨h1, B, h2, h3⟩
  · exact ⟨fun _ => 0, fun q => absurd q h1, fun r2 q => h2.trans (q.1 h1).symm⟩
  · exact ⟨B, fun _ => h2, fun r2 q => h3.trans (q.2 h1).symm⟩
theorem x_arr {args : Array Value} {s : State} {ty : FieldType} (h : (Cond.arrayClass ty).before args s = true) : ∃ cA : ClassId, ArrOfT s cA ty ∧ s.vm.findClass ("[" ++ ty.toString) = some cA := by
  obtain ⟨cA, k, comp, h1, h2, h3⟩ := Cond.arrayClass_spec h
  exact ⟨cA, fun n z => ⟨fun k h => (by cases h), k, h2, comp, h3⟩, h1⟩
def R_law : String := "RouteTracksLaw"
def lw_P (b : Addr) (xs : List Int32) (args : Array Value) (s : State) : Prop := args = #[.ref b] ∧ s.IntsAt b xs ∧ xs.length ≤ 2562 ∧ (Jvm.Cond.and given_1 narrow_1).before args s = true
def lw_Q (_ : Array Value) (s : State) (o : Outcome) (t : State) : Prop := o = .returned (some (.int 1)) ∧ Framed s o t [] 601024 7293000
def lw_Z (below : List Frame) (a : Array Value) (s : State) : State → Prop := fun t => ∃ o, t.status = .running ∧ Ended t below o ∧ lw_Q a s o t
/-- the law's own end, with 1 on the stack, nothing written that was there before, its room as the claim has it -/
theorem lw_ret {p : Program} {l : Launch} {e : Env} {s : State} {m : MethodId} {below : List Frame} {meth : Method} {c : Code} {b : Nat} (hx : p.tables.exec = Jvm.exec) (hb : c.code = code) (hr : meth.sig.returnType = ret) (hlocks : meth.locks = false) {pc : Nat} {H : Heap} {ls : Array Slot} (hdg : decode code pc = .ok (.ireturn, 1)) : W p l e room_1 s m #[Value.ref b] below meth c H [] 601024 7293000 (lw_Z below #[Value.ref b] s) (F0 m pc ls [.int 1]) := by
  intro T hT X
  obtain ⟨fs, hret, hrun, hended, hW, hframe⟩ := X.leave (v := some (.int 1)) (hlocks := hlocks) (fun h => by rw [hr] at h; cases h)
  have hmeth' : T.vm.method? m = some meth := X.method'
  refine ⟨T.setFrames fs, ?_, .returned (some (.int 1)), hrun, hended, rfl, ⟨_, rfl⟩, hW, hframe⟩
  jvm_step X.here [X.here.top, hx, hb, hdg, hmeth', hr, ret, narrow_b1]
  (try refine ⟨rfl, ?_⟩); (try refine ⟨rfl, ?_⟩)
  first | (intro acts; rw [hret _ acts rfl rfl rfl]) | rw [hret _ _ rfl rfl rfl]
  exact Steps.refl _
/-- what holds at the law's entry -/
def lw_At (p : Program) (s : State) (m : MethodId) (meth : Method) (c : Code) (b L : Nat) (xs : Nat → Int32) : Prop :=
  p.tables.exec = Jvm.exec ∧ c.code = code ∧ meth.sig.returnType = ret ∧ c.maxLocals = 5 ∧ s.vm.findClass R_law = some m.cls ∧ (∀ w ∈ lw_tbl, w.before #[Value.ref b] s = true) ∧ va_X b L xs s s.heap ∧ b < s.heap.size ∧ meth.locks = false ∧ (Jvm.Cond.and given_1 narrow_1).before #[Value.ref b] s = true
