/-! WORLDS: the words of a call, the start of a contract, rows of calls and returns for methods that make nothing -/
abbrev xT (cI cZ : ClassId) : List (ClassId × FieldType) := [(cI, .int), (cZ, .boolean)]
def rt_apI (k : Nat) : Int32 := [-1, -1, 4, 5, 2, 3].getD k 0
/-- the three tables of the class -/
def xZ (g : Nat → Nat) (A : Nat → Prop) (U : State) (H : Heap) : Prop :=
  (va_Z rn_A "GOES_TO" "[I" (.ref (g 0)) A U H ∧ va_T .int (g 0) 12 (fun j => .int (nI (rt_to j))) A U H) ∧
  (va_Z rn_A "BEGIN_BEYOND" "[I" (.ref (g 1)) A U H ∧ va_T .int (g 1) 12 (fun j => .int (nI (rt_bg j))) A U H) ∧
  (va_Z rn_S "APART" "[I" (.ref (g 2)) A U H ∧ va_T .int (g 2) 6 (fun j => .int (rt_apI j)) A U H)
theorem xZ.moved {g : Nat → Nat} {A : Nat → Prop} {u U : State} {H : Heap} (hvm : u.vm.Alike U.vm) (h : xZ g A u H) : xZ g A U H :=
  ⟨⟨h.1.1.moved hvm, h.1.2.moved hvm⟩, ⟨h.2.1.1.moved hvm, h.2.1.2.moved hvm⟩, h.2.2.1.moved hvm, h.2.2.2.moved hvm⟩
theorem xZ.kept {g : Nat → Nat} {A : Nat → Prop} {U : State} {H H1 : Heap} (h : xZ g A U H) (hq : ∀ a : Nat, a < H.size → ¬ A a → H1[a]? = H[a]?) : xZ g A U H1 :=
  ⟨⟨h.1.1.kept hq, h.1.2.kept hq⟩, ⟨h.2.1.1.kept hq, h.2.1.2.kept hq⟩, h.2.2.1.kept hq, h.2.2.2.kept hq⟩
theorem xZ.narrow {g : Nat → Nat} {A B : Nat → Prop} {U : State} {H : Heap} (h : xZ g A U H) (hAB : ∀ q, B q → A q) : xZ g B U H :=
  ⟨⟨h.1.1.narrow hAB, h.1.2.narrow hAB⟩, ⟨h.2.1.1.narrow hAB, h.2.1.2.narrow hAB⟩, h.2.2.1.narrow hAB, h.2.2.2.narrow hAB⟩
/-- what a method finds: its world, the classes, the tables -/
def wU (D : va_G) (cI cZ : ClassId) (g : Nat → Nat) (A : Nat → Prop) (ws : va_W) (U : State) : Prop := va_P D vwCl ws U.heap ∧ va_K D vwCl (xT cI cZ) U ∧ xZ g A U U.heap
def wB (D : va_G) {S : Type} (wf : S → va_W) : S → State → Prop := fun u t => va_P D vwCl (wf u) t.heap
theorem wU.bl {D : va_G} {cI cZ : ClassId} {g : Nat → Nat} {A : Nat → Prop} {ws : va_W} {av : List Value} : FrameBlind (va_Pc av (wU D cI cZ g A ws)) := by
  rintro a U f mk ⟨h0, hP, hK, hZ⟩
  exact ⟨h0, hP, va_K.moved (u := U) (U := U.calling f mk a) (Vm.Alike.refl U.vm) hK, xZ.moved (u := U) (U := U.calling f mk a) (Vm.Alike.refl U.vm) hZ⟩
theorem wU.mk {D : va_G} {cI cZ : ClassId} {g : Nat → Nat} {A : Nat → Prop} {ws : va_W} {s : State} {H : Heap} {locs : List Loc} (hP : va_P D vwCl ws H) (hK : va_K D vwCl (xT cI cZ) s) (hZ : xZ g A s s.heap) (hS : va_S A s.heap H locs) (U : State) (hU : U.heap = H) (hW : s.WarmedH U.vm) : wU D cI cZ g A ws U := by
  refine ⟨by rw [hU]; exact hP, va_K.moved hW.alike hK, ?_⟩
  rw [hU]
  exact (hZ.kept hS.2.1).moved hW.alike
-- the words of calls
theorem t_g {y : MethodName} {b : ByteArray} {n : Nat} {r : Option FieldType} (k : Cond.code y b n r ∈ tG) : GoodIn tG (.code y b n r :: tG) := fun w h => (List.mem_cons.mp h).elim (fun e => by rw [e]; exact tG_good _ k) (fun h => tG_good w h)
theorem t_gV {own C : String} {idx : Nat} {y : MethodName} {b : ByteArray} {n : Nat} {r : Option FieldType} (k1 : Cond.methodLink own idx y ∈ tG) (k2 : Cond.instanceMethod y ∈ tG) (k3 : Cond.selects C y y ∈ tG) (k4 : Cond.initialized C ∈ tG) (k5 : Cond.code y b n r ∈ tG) : GoodIn tG (wsV own idx C y (.code y b n r :: tG)) := by
  intro w h
  rcases List.mem_append.mp h with h | h
  · simp only [List.mem_cons, List.not_mem_nil, or_false] at h
    rcases h with rfl | rfl | rfl | rfl
    · exact tG_good _ k1
    · exact tG_good _ k2
    · exact tG_good _ k3
    · exact tG_good _ k4
  · exact t_g k5 w h
theorem t_gS {own : String} {idx : Nat} {y : MethodName} {b : ByteArray} {n : Nat} {r : Option FieldType} (k1 : Cond.methodLink own idx y ∈ tG) (k2 : Cond.static y ∈ tG) (k4 : Cond.initialized y.cls ∈ tG) (k5 : Cond.code y b n r ∈ tG) : GoodIn tG (va_wsS own idx y (.code y b n r :: tG)) := by
  intro w h
  rcases List.mem_append.mp h with h | h
  · simp only [List.mem_cons, List.not_mem_nil, or_false] at h
    rcases h with rfl | rfl | rfl
    · exact tG_good _ k1
    · exact tG_good _ k2
    · exact tG_good _ k4
  · exact t_g k5 w h
section WRows
variable {p : Program} {l : Launch} {e : Env} {R : Room} {s : State} {m : MethodId} {args : Array Value} {below : List Frame} {meth : Method} {c : Code} {H : Heap} {locs : List Loc} {cells slots : Nat} {Q : State → Prop}
variable {cc : ByteArray} {pc : Nat} {ls : Array Slot} {rest st0 As : List Value} {D : va_G} {cI cZ : ClassId} {g : Nat → Nat} {A : Nat → Prop} {ws : va_W} {S : Type} {wf : S → va_W}
variable {y : MethodName} {bytes : ByteArray} {maxL nL n index : Nat} {ret : Option FieldType} {rm : Room} {own C : String} {b : Addr}
theorem w_ci {post : Int32 → S → Prop} (F : CallFix p m c cc nL s args tG own) (hM : Met l y (.code y bytes maxL ret :: tG) rm (va_Pc (.ref b :: As) (wU D cI cZ g A ws)) (va_Qi post (wB D wf) A) 0 0 A) (cw : CallW R s args own C index y bytes maxL ret (.code y bytes maxL ret :: tG) rm 0 0 n)
    (hr : ∃ cell : Cell, H[b]? = some cell ∧ cell.vm.isStatics = false ∧ s.vm.findClass C = some cell.cls) (hP : va_P D vwCl ws H) (hK : va_K D vwCl (xT cI cZ) s) (hZ : xZ g A s s.heap) (hS : va_S A s.heap H locs) (hn : As.length = n) (hsz : ls.size = nL) (hst : st0 = As.reverse ++ .ref b :: rest) (hW : (rest.map fun v => v.category).sum ≤ 8) (hdg : decode cc pc = .ok (.invokevirtual index, 3)) (hf : cells ≤ R.cells ∧ slots ≤ R.slots)
    (kk : ∀ (r : Int32) (u : S) (H1 : Heap) (locs1 : List Loc), post r u → va_P D vwCl (wf u) H1 → va_S A s.heap H1 locs1 → W p l e R s m args below meth c H1 locs1 cells slots Q (F0 m (pc + 3) ls (.int r :: rest))) : W p l e R s m args below meth c H locs cells slots Q (F0 m pc ls st0) :=
  va_calli (va_runV (As := As) (rest := rest) F hM cw ⟨wU.bl, hr, fun U hU hW => ⟨rfl, wU.mk hP hK hZ hS U hU hW⟩⟩ rfl hn hsz hst (lv_room hW) hdg hf) hS (fun _ _ h => h) (fun _ h => h) (fun r u t H1 locs1 ht _ hw hB _ _ hS1 => kk r u H1 locs1 hw (by rw [← ht]; exact hB) hS1)
theorem w_cv {post : S → Prop} (F : CallFix p m c cc nL s args tG own) (hM : Met l y (.code y bytes maxL ret :: tG) rm (va_Pc (.ref b :: As) (wU D cI cZ g A ws)) (va_Qv post (wB D wf) A) 0 0 A) (cw : CallW R s args own C index y bytes maxL ret (.code y bytes maxL ret :: tG) rm 0 0 n)
    (hr : ∃ cell : Cell, H[b]? = some cell ∧ cell.vm.isStatics = false ∧ s.vm.findClass C = some cell.cls) (hP : va_P D vwCl ws H) (hK : va_K D vwCl (xT cI cZ) s) (hZ : xZ g A s s.heap) (hS : va_S A s.heap H locs) (hn : As.length = n) (hsz : ls.size = nL) (hst : st0 = As.reverse ++ .ref b :: rest) (hW : (rest.map fun v => v.category).sum ≤ 8) (hdg : decode cc pc = .ok (.invokevirtual index, 3)) (hf : cells ≤ R.cells ∧ slots ≤ R.slots)
    (kk : ∀ (u : S) (H1 : Heap) (locs1 : List Loc), post u → va_P D vwCl (wf u) H1 → va_S A s.heap H1 locs1 → W p l e R s m args below meth c H1 locs1 cells slots Q (F0 m (pc + 3) ls rest)) : W p l e R s m args below meth c H locs cells slots Q (F0 m pc ls st0) :=
  va_callv (va_runV (As := As) (rest := rest) F hM cw ⟨wU.bl, hr, fun U hU hW => ⟨rfl, wU.mk hP hK hZ hS U hU hW⟩⟩ rfl hn hsz hst (lv_room hW) hdg hf) hS (fun _ _ h => h) (fun _ h => h) (fun u t H1 locs1 ht _ hw hB _ _ hS1 => kk u H1 locs1 hw (by rw [← ht]; exact hB) hS1)
theorem w_si {post : Int32 → S → Prop} (F : CallFix p m c cc nL s args tG own) (hM : Met l y (.code y bytes maxL ret :: tG) rm (va_Pc As (wU D cI cZ g A ws)) (va_Qi post (wB D wf) A) 0 0 A) (cw : CallB R s args own index y bytes maxL ret (.code y bytes maxL ret :: tG) rm 0 0 n ∧ (Cond.static y).before args s = true)
    (hP : va_P D vwCl ws H) (hK : va_K D vwCl (xT cI cZ) s) (hZ : xZ g A s s.heap) (hS : va_S A s.heap H locs) (hn : As.length = n) (hsz : ls.size = nL) (hst : st0 = As.reverse ++ rest) (hW : (rest.map fun v => v.category).sum ≤ 8) (hdg : decode cc pc = .ok (.invokestatic index, 3)) (hf : cells ≤ R.cells ∧ slots ≤ R.slots)
    (kk : ∀ (r : Int32) (u : S) (H1 : Heap) (locs1 : List Loc), post r u → va_P D vwCl (wf u) H1 → va_S A s.heap H1 locs1 → W p l e R s m args below meth c H1 locs1 cells slots Q (F0 m (pc + 3) ls (.int r :: rest))) : W p l e R s m args below meth c H locs cells slots Q (F0 m pc ls st0) :=
  va_calli (va_runS (As := As) (rest := rest) F hM cw ⟨wU.bl, fun U hU hW => ⟨rfl, wU.mk hP hK hZ hS U hU hW⟩⟩ rfl hn hsz hst (lv_room hW) hdg hf) hS (fun _ _ h => h) (fun _ h => h) (fun r u t H1 locs1 ht _ hw hB _ _ hS1 => kk r u H1 locs1 hw (by rw [← ht]; exact hB) hS1)
theorem w_sv {post : S → Prop} (F : CallFix p m c cc nL s args tG own) (hM : Met l y (.code y bytes maxL ret :: tG) rm (va_Pc As (wU D cI cZ g A ws)) (va_Qv post (wB D wf) A) 0 0 A) (cw : CallB R s args own index y bytes maxL ret (.code y bytes maxL ret :: tG) rm 0 0 n ∧ (Cond.static y).before args s = true)
    (hP : va_P D vwCl ws H) (hK : va_K D vwCl (xT cI cZ) s) (hZ : xZ g A s s.heap) (hS : va_S A s.heap H locs) (hn : As.length = n) (hsz : ls.size = nL) (hst : st0 = As.reverse ++ rest) (hW : (rest.map fun v => v.category).sum ≤ 8) (hdg : decode cc pc = .ok (.invokestatic index, 3)) (hf : cells ≤ R.cells ∧ slots ≤ R.slots)
    (kk : ∀ (u : S) (H1 : Heap) (locs1 : List Loc), post u → va_P D vwCl (wf u) H1 → va_S A s.heap H1 locs1 → W p l e R s m args below meth c H1 locs1 cells slots Q (F0 m (pc + 3) ls rest)) : W p l e R s m args below meth c H locs cells slots Q (F0 m pc ls st0) :=
  va_callv (va_runS (As := As) (rest := rest) F hM cw ⟨wU.bl, fun U hU hW => ⟨rfl, wU.mk hP hK hZ hS U hU hW⟩⟩ rfl hn hsz hst (lv_room hW) hdg hf) hS (fun _ _ h => h) (fun _ h => h) (fun u t H1 locs1 ht _ hw hB _ _ hS1 => kk u H1 locs1 hw (by rw [← ht]; exact hB) hS1)
-- returns
theorem w_iret {post : Int32 → S → Prop} {v : Int32} (u : S) (hx : p.tables.exec = Jvm.exec) (hb : c.code = cc) (hr : meth.sig.returnType = some .int) (hlocks : meth.locks = false) (hS : va_S A s.heap H locs) (hP : va_P D vwCl (wf u) H) (hp : post v u) (hdg : decode cc pc = .ok (.ireturn, 1)) : W p l e R s m args below meth c H locs cells slots (MQ below (va_Qi post (wB D wf) A) args s cells slots A) (F0 m pc ls [.int v]) :=
  W.iret hx hb hr (fun t ht hW => ⟨⟨v, u, rfl, hp, by show va_P D vwCl (wf u) t.heap; rw [ht]; exact hP⟩, hS.F ht⟩) hS.2.2 hdg hlocks
theorem w_zret {post : Int32 → S → Prop} {v : Bool} (u : S) (hx : p.tables.exec = Jvm.exec) (hb : c.code = cc) (hr : meth.sig.returnType = some .boolean) (hlocks : meth.locks = false) (hS : va_S A s.heap H locs) (hP : va_P D vwCl (wf u) H) (hp : post (rt_b v) u) (hdg : decode cc pc = .ok (.ireturn, 1)) : W p l e R s m args below meth c H locs cells slots (MQ below (va_Qi post (wB D wf) A) args s cells slots A) (F0 m pc ls [.int (rt_b v)]) :=
  W.zret hx hb hr (by cases v <;> rfl) (fun t ht hW => ⟨⟨_, u, rfl, hp, by show va_P D vwCl (wf u) t.heap; rw [ht]; exact hP⟩, hS.F ht⟩) hS.2.2 hdg hlocks
theorem w_vret {post : S → Prop} (u : S) (hx : p.tables.exec = Jvm.exec) (hb : c.code = cc) (hr : meth.sig.returnType = none) (hlocks : meth.locks = false) (hS : va_S A s.heap H locs) (hP : va_P D vwCl (wf u) H) (hp : post u) (hdg : decode cc pc = .ok (.return_, 1)) : W p l e R s m args below meth c H locs cells slots (MQ below (va_Qv post (wB D wf) A) args s cells slots A) (F0 m pc ls []) :=
  W.vret hx hb hr (fun t ht hW => ⟨⟨u, rfl, hp, by show va_P D vwCl (wf u) t.heap; rw [ht]; exact hP⟩, hS.F ht⟩) hS.2.2 hdg hlocks
-- arrays, by Nats
variable {a : Nat} {tys : List (ClassId × FieldType)} {H0 : Heap} {cl : List vw_C}
theorem rw_iald (hx : p.tables.exec = Jvm.exec) (hb : c.code = cc) (hK : va_K D cl tys s) (hP : va_P D cl ws H) (q0 t0 : Nat) {cA : ClassId} {n i : Nat} {f : Nat → Int32} {v : Int32} (ha : ws[q0]? = some (a, .inl (cA, n, .inl f))) (ht : tys[t0]? = some (cA, .int)) (hi : i < n) (hN : n < 2 ^ 31) (hv : f i = v) (hdg : decode cc pc = .ok (.iaload, 1))
    (kk : W p l e R s m args below meth c H locs cells slots Q (F0 m (pc + 1) ls (.int v :: rest))) : W p l e R s m args below meth c H locs cells slots Q (F0 m pc ls (.int (nI i) :: .ref a :: rest)) :=
  va_iald hx hb hK hP q0 t0 ha ht (vp_in_nI hi hN) hdg (by rw [nI_clamp (Nat.lt_trans hi hN), hv]; exact kk)
theorem rw_zald (hx : p.tables.exec = Jvm.exec) (hb : c.code = cc) (hK : va_K D cl tys s) (hP : va_P D cl ws H) (q0 t0 : Nat) {cA : ClassId} {n i : Nat} {f : Nat → Int32} {v : Int32} (ha : ws[q0]? = some (a, .inl (cA, n, .inl f))) (ht : tys[t0]? = some (cA, .boolean)) (hi : i < n) (hN : n < 2 ^ 31) (hv : f i = v) (hdg : decode cc pc = .ok (.baload, 1))
    (kk : W p l e R s m args below meth c H locs cells slots Q (F0 m (pc + 1) ls (.int v :: rest))) : W p l e R s m args below meth c H locs cells slots Q (F0 m pc ls (.int (nI i) :: .ref a :: rest)) :=
  va_zald hx hb hK hP q0 t0 ha ht (vp_in_nI hi hN) hdg (by rw [nI_clamp (Nat.lt_trans hi hN), hv]; exact kk)
theorem rw_cell {cA : ClassId} {n : Nat} {f h : Nat → Int32} (e : ∀ j, j < n → f j = h j) : vp_cell cA (n, .inl f) = vp_cell cA (n, .inl h) := by
  rw [vp_cell_i, vp_cell_i]
  unfold arrV
  congr 1
  apply Array.ext
  · simp
  · intro i h1 h2
    simp at h1
    simp [e i h1]
theorem rw_arr {cA : ClassId} {n q0 : Nat} {f h : Nat → Int32} {e0 : va_E} (e : ∀ j, j < n → f j = h j) (hD : va_D A ws) (hp : ws[q0]? = some (a, e0)) (hP : va_P D cl (ws.set q0 (a, .inl (cA, n, .inl f))) H) : va_P D cl (ws.set q0 (a, .inl (cA, n, .inl h))) H := by
  have hl : q0 < ws.length := (List.getElem?_eq_some_iff.mp hp).1
  intro k q hk
  by_cases hq : k = q0
  · subst hq
    rw [List.getElem?_set_self hl] at hk
    cases hk
    have h1 := hP k _ (List.getElem?_set_self hl)
    show H[a]? = some (vp_cell cA (n, .inl h))
    rw [← rw_cell e]
    exact h1
  · rw [List.getElem?_set_ne (fun z => hq z.symm)] at hk
    exact hP k q (by rw [List.getElem?_set_ne (fun z => hq z.symm)]; exact hk)
theorem rw_iast (hx : p.tables.exec = Jvm.exec) (hb : c.code = cc) (hK : va_K D cl tys s) (hP : va_P D cl ws H) (hD : va_D A ws) (hS : va_S A H0 H locs) (q0 t0 : Nat) {cA : ClassId} {n i : Nat} {f h : Nat → Int32} {x : Int32} (ha : ws[q0]? = some (a, .inl (cA, n, .inl f))) (ht : tys[t0]? = some (cA, .int)) (hi : i < n) (hN : n < 2 ^ 31) (hg : ∀ j, j < n → upd f i x j = h j) (hdg : decode cc pc = .ok (.iastore, 1))
    (kk : ∀ (H1 : Heap) (locs1 : List Loc), va_P D cl (ws.set q0 (a, .inl (cA, n, .inl h))) H1 → va_D A (ws.set q0 (a, .inl (cA, n, .inl h))) → va_S A H0 H1 locs1 → W p l e R s m args below meth c H1 locs1 cells slots Q (F0 m (pc + 1) ls rest)) : W p l e R s m args below meth c H locs cells slots Q (F0 m pc ls (.int x :: .int (nI i) :: .ref a :: rest)) :=
  va_iast hx hb hK hP hD hS q0 t0 ha ht (vp_in_nI hi hN) hdg (fun H1 locs1 hP1 _ hS1 => kk H1 locs1 (rw_arr (fun j hj => by rw [nI_clamp (Nat.lt_trans hi hN)]; exact hg j hj) hD ha hP1) (hD.set ha) hS1)
theorem rw_zast (hx : p.tables.exec = Jvm.exec) (hb : c.code = cc) (hK : va_K D cl tys s) (hP : va_P D cl ws H) (hD : va_D A ws) (hS : va_S A H0 H locs) (q0 t0 : Nat) {cA : ClassId} {n i : Nat} {f h : Nat → Int32} {x : Int32} (ha : ws[q0]? = some (a, .inl (cA, n, .inl f))) (ht : tys[t0]? = some (cA, .boolean)) (hi : i < n) (hN : n < 2 ^ 31) (hg : ∀ j, j < n → upd f i (vp_nar .boolean x) j = h j) (hdg : decode cc pc = .ok (.bastore, 1))
    (kk : ∀ (H1 : Heap) (locs1 : List Loc), va_P D cl (ws.set q0 (a, .inl (cA, n, .inl h))) H1 → va_D A (ws.set q0 (a, .inl (cA, n, .inl h))) → va_S A H0 H1 locs1 → W p l e R s m args below meth c H1 locs1 cells slots Q (F0 m (pc + 1) ls rest)) : W p l e R s m args below meth c H locs cells slots Q (F0 m pc ls (.int x :: .int (nI i) :: .ref a :: rest)) :=
  va_zast hx hb hK hP hD hS q0 t0 ha ht (vp_in_nI hi hN) hdg (fun H1 locs1 hP1 _ hS1 => kk H1 locs1 (rw_arr (fun j hj => by rw [nI_clamp (Nat.lt_trans hi hN)]; exact hg j hj) hD ha hP1) (hD.set ha) hS1)
end WRows
