/-! ROWS OF METHODS THAT MAY THROW, over the class's world -/
theorem x_cov {cI : ClassId} {a : Nat → Nat} {w h : Nat} {Q : Nat → Nat} {ff : Nat → Int32} {hd bl : Int32} {rs : Nat → Int32} {hs ts : Int32} {rc : Nat → Int32} {hc tc : Int32} : ∀ q : Nat, xA a q → ∃ (k : Nat) (b : va_E), (xw cI a w h Q ff hd bl rs hs ts rc hc tc)[k]? = some (q, b) := by
  rintro q ⟨i, hi, rfl⟩
  have h9 : i = 0 ∨ i = 1 ∨ i = 2 ∨ i = 3 ∨ i = 4 ∨ i = 5 ∨ i = 6 ∨ i = 7 ∨ i = 8 ∨ i = 9 := by omega
  rcases h9 with rfl | rfl | rfl | rfl | rfl | rfl | rfl | rfl | rfl | rfl
  · exact ⟨0, _, rfl⟩
  · exact ⟨1, _, rfl⟩
  · exact ⟨2, _, rfl⟩
  · exact ⟨3, _, rfl⟩
  · exact ⟨4, _, rfl⟩
  · exact ⟨5, _, rfl⟩
  · exact ⟨6, _, rfl⟩
  · exact ⟨7, _, rfl⟩
  · exact ⟨8, _, rfl⟩
  · exact ⟨9, _, rfl⟩
section XR
variable {p : Program} {l : Launch} {e : Env} {R : Room} {s : State} {m : MethodId} {args : Array Value} {below : List Frame} {meth : Method} {c : Code} {H : Heap} {locs : List Loc} {cells slots : Nat} {Q : State → Prop}
variable {cc : ByteArray} {pc : Nat} {ls : Array Slot} {st : List Value} {D : va_G} {A : Nat → Prop} {ws : va_W} {S : Type} {wf : S → va_W} {post : S → Prop} {k mc ms : Nat}
theorem w_xret (u : S) (hx : p.tables.exec = Jvm.exec) (hb : c.code = cc) (hr : meth.sig.returnType = none) (hlocks : meth.locks = false) (hS : va_S A s.heap H locs) (hP : va_P D vwCl (wf u) H) (hk : k = 0) (hp : post u) (hdg : decode cc pc = .ok (.return_, 1)) (hm : cells ≤ mc ∧ slots ≤ ms) : W p l e R s m args below meth c H locs cells slots (xe_MQ below (xe_Qv k post (wB D wf) A) args s mc ms A) (F0 m pc ls []) :=
  xe_ret hm.1 hm.2 (W.vret hx hb hr (fun t ht hW => ⟨Or.inl ⟨hk, rfl⟩, ⟨u, hp, by show va_P D vwCl (wf u) t.heap; rw [ht]; exact hP⟩, hS.F ht⟩) hS.2.2 hdg hlocks)
theorem w_xlv {k' : Nat} {q : Nat} {ce : Cell} (u : S) (hlocks : meth.locks = false) (hem : c.exceptionTable.isEmpty = true) (hS : va_S A s.heap H locs) (hP : va_P D vwCl (wf u) H) (hp : post u) (hk0 : k' ≠ 0) (hk : k = k') (hq : H[q]? = some ce) (hns : ce.vm.isStatics = false) (hcls : s.vm.findClass (xe_C k') = some ce.cls) (hm : cells ≤ mc ∧ slots ≤ ms) :
    xe_W p l e R s m args below meth c H locs cells slots (xe_MQ below (xe_Qv k post (wB D wf) A) args s mc ms A) q (F0 m pc ls st) :=
  xe_leave hlocks hem (fun t ht hW => ⟨Or.inr ⟨by rw [hk]; exact hk0, q, ce, rfl, by rw [ht]; exact hq, hns, by rw [hk]; exact hcls⟩, ⟨u, hp, by show va_P D vwCl (wf u) t.heap; rw [ht]; exact hP⟩, hS.F ht⟩) hS.2.2 hm.1 hm.2
theorem w_xthI {il : Nat} {text : String} (u : S) (hx : p.tables.exec = Jvm.exec) (hb : c.code = cc) (htr : e.platform.stackTraces = false) (hts : ∀ w ∈ tG, w.before args s = true) (hown : s.vm.findClass rn_R = some m.cls) (hlocks : meth.locks = false) (hem : c.exceptionTable.isEmpty = true) (hE : xe_K A s s.heap)
    (hil : (il, text) ∈ xe_st) (hP0 : va_P D vwCl (wf u) s.heap) (hP : va_P D vwCl (wf u) H) (hS : va_S A s.heap H locs) (hA : ∀ q : Nat, A q → ∃ (k : Nat) (b : va_E), (wf u)[k]? = some (q, b)) (hsz : ls.size = c.maxLocals) (hk : k = 1) (hp : post u)
    (d0 : decode cc pc = .ok (.new 68, 3)) (d1 : decode cc (pc + 3) = .ok (.dup, 1)) (d2 : decode cc (pc + 4) = .ok (.ldc il, 2)) (d3 : decode cc (pc + 6) = .ok (.invokespecial 72, 3)) (d4 : decode cc (pc + 9) = .ok (.athrow, 1))
    (hR : 5 < R.frames ∧ 82 ≤ R.locals ∧ cells + 1 ≤ R.cells ∧ slots + 6 ≤ R.slots) (hm : cells + 1 ≤ mc ∧ slots + 6 ≤ ms) : W p l e R s m args below meth c H locs cells slots (xe_MQ below (xe_Qv k post (wB D wf) A) args s mc ms A) (F0 m pc ls []) :=
  xe_thr hx hb htr hown hlocks hem (X := xe_I) (by decide +kernel) (xe_own hts hE xe_ownI) (hts _ k_classLink_rn_R_68_java_lang_IndexOutOfBoundsException) (hts _ k_initialized_java_lang_IndexOutOfBoundsException) (hE.str hil args) hP0 hP hS hA hR.1 hR.2.1 hR.2.2.1 hR.2.2.2 hsz d0 d1 d2 d3 d4 hm.1 hm.2
    (fun t q ce hw hF hq hns hcls => ⟨Or.inr ⟨by rw [hk]; decide, q, ce, rfl, hq, hns, by rw [hk]; exact hcls⟩, ⟨u, hp, hw⟩, hF⟩)
theorem w_xthL {il : Nat} {text : String} (u : S) (hx : p.tables.exec = Jvm.exec) (hb : c.code = cc) (htr : e.platform.stackTraces = false) (hts : ∀ w ∈ tG, w.before args s = true) (hown : s.vm.findClass rn_R = some m.cls) (hlocks : meth.locks = false) (hem : c.exceptionTable.isEmpty = true) (hE : xe_K A s s.heap)
    (hil : (il, text) ∈ xe_st) (hP0 : va_P D vwCl (wf u) s.heap) (hP : va_P D vwCl (wf u) H) (hS : va_S A s.heap H locs) (hA : ∀ q : Nat, A q → ∃ (k : Nat) (b : va_E), (wf u)[k]? = some (q, b)) (hsz : ls.size = c.maxLocals) (hk : k = 2) (hp : post u)
    (d0 : decode cc pc = .ok (.new 38, 3)) (d1 : decode cc (pc + 3) = .ok (.dup, 1)) (d2 : decode cc (pc + 4) = .ok (.ldc il, 2)) (d3 : decode cc (pc + 6) = .ok (.invokespecial 42, 3)) (d4 : decode cc (pc + 9) = .ok (.athrow, 1))
    (hR : 5 < R.frames ∧ 82 ≤ R.locals ∧ cells + 1 ≤ R.cells ∧ slots + 6 ≤ R.slots) (hm : cells + 1 ≤ mc ∧ slots + 6 ≤ ms) : W p l e R s m args below meth c H locs cells slots (xe_MQ below (xe_Qv k post (wB D wf) A) args s mc ms A) (F0 m pc ls []) :=
  xe_thr hx hb htr hown hlocks hem (X := xe_L) (by decide +kernel) (xe_own hts hE xe_ownL) (hts _ k_classLink_rn_R_38_java_lang_IllegalArgumentException) (hts _ k_initialized_java_lang_IllegalArgumentException) (hE.str hil args) hP0 hP hS hA hR.1 hR.2.1 hR.2.2.1 hR.2.2.2 hsz d0 d1 d2 d3 d4 hm.1 hm.2
    (fun t q ce hw hF hq hns hcls => ⟨Or.inr ⟨by rw [hk]; decide, q, ce, rfl, hq, hns, by rw [hk]; exact hcls⟩, ⟨u, hp, hw⟩, hF⟩)
end XR
/-- a place that is, or isn't -/
def rt_rp (n : Nat) (x y : Int32) : Nat := if (rt_ix x n).isSome = true ∧ (rt_ix y 6).isSome = true then 0 else 1
theorem rt_rp_0 {n : Nat} {x y : Int32} (h : rt_rp n x y = 0) : (rt_ix x n).isSome = true ∧ (rt_ix y 6).isSome = true := by
  unfold rt_rp at h
  split at h
  · next q => exact q
  · cases h
theorem rt_rp_1 {n : Nat} {x y : Int32} (h : rt_rp n x y ≠ 0) : rt_rp n x y = 1 ∧ (rt_ix x n = none ∨ rt_ix y 6 = none) := by
  unfold rt_rp at h ⊢
  split at h
  · exact absurd rfl h
  · next q =>
    rw [if_neg q]
    refine ⟨rfl, ?_⟩
    cases h1 : (rt_ix x n).isSome with
    | false => exact Or.inl (rt_ix_no h1)
    | true =>
      cases h2 : (rt_ix y 6).isSome with
      | false => exact Or.inr (rt_ix_no h2)
      | true => exact absurd ⟨h1, h2⟩ q
theorem rt_rp_y {n : Nat} {x y : Int32} (h1 : (rt_ix x n).isSome = true) (h2 : (rt_ix y 6).isSome = true) : rt_rp n x y = 0 := if_pos ⟨h1, h2⟩
theorem rt_rp_f {n : Nat} {x y : Int32} (h : (rt_ix x n).isSome = false ∨ (rt_ix y 6).isSome = false) : rt_rp n x y = 1 := by
  refine if_neg (fun q => ?_)
  rcases h with h | h
  · rw [h] at q; cases q.1
  · rw [h] at q; cases q.2
def rt_rq (Q : Nat → Nat) (k : Nat) : Nat := if Q k = 0 then 2 else 0
theorem rt_sv_le {v u : Int32} (h : ¬ (v < -1 ∨ nI 1 < v ∨ u < 0 ∨ nI 1 < u)) : rt_sv v u ≤ 4 := by
  have h1 : ¬ u < 0 := fun q => h (Or.inr (Or.inr (Or.inl q)))
  have h2 : ¬ nI 1 < u := fun q => h (Or.inr (Or.inr (Or.inr q)))
  obtain ⟨j, hj, rfl⟩ : ∃ k : Nat, k ≤ 1 ∧ u = nI k := nI_of2 (M := nI 1) rfl h1 (Int32.not_lt.mp h2)
  unfold rt_sv
  split
  · omega
  · next q =>
    have h3 : ¬ v < 0 := fun z => q (by
      have a1 := Int32.lt_iff_toInt_lt.mp z
      have a2 : ¬ v < -1 := fun q => h (Or.inl q)
      rw [Int32.lt_iff_toInt_lt] at a2
      apply Int32.toInt_inj.mp
      have e1 : (-1 : Int32).toInt = -1 := rfl
      have e0 : (0 : Int32).toInt = 0 := rfl
      rw [e1] at a2 ⊢
      rw [e0] at a1
      omega)
    obtain ⟨i, hi, rfl⟩ : ∃ k : Nat, k ≤ 1 ∧ v = nI k := nI_of2 (M := nI 1) rfl h3 (Int32.not_lt.mp (fun q => h (Or.inr (Or.inl q))))
    rw [nI_clamp (by omega), nI_clamp (by omega)]
    omega
theorem rt_chg_G {w h : Nat} {Q : Nat → Nat} (hG : rt_G w h Q) (x y v u : Int32) : rt_G w h (rt_lay Q (w * h) x y).2 ∧ rt_G w h (rt_lift Q (w * h) x y).2 ∧ rt_G w h (rt_sig Q (w * h) x y v u).2 ∧ rt_G w h (rt_plt Q (w * h) x y v).2 := by
  obtain ⟨hn1, hn⟩ := hG.n
  by_cases hp : rt_rp (w * h) x y = 0
  · obtain ⟨h1, h2⟩ := rt_rp_0 hp
    obtain ⟨t, ht, rfl⟩ := rt_ix_is (by omega) h1
    obtain ⟨k, hk, rfl⟩ := rt_ix_is (by omega) h2
    rw [rt_lay_s (by omega) ht hk, rt_lift_s (by omega) ht hk, rt_sig_s (by omega) ht hk, rt_plt_s (by omega) ht hk]
    have hs8 := rt_ok_s hG.2.2 (6 * t + k)
    have hg4 := rt_ok_g hG.2.2 (6 * t + k)
    refine ⟨?_, ?_, ?_, ?_⟩
    · split
      · exact hG
      · exact ⟨hG.1, hG.2.1, rt_ok_put (g := 0) (s := 0) hG.2.2 (by omega) (by omega) (by omega)⟩
    · split
      · exact hG
      · exact ⟨hG.1, hG.2.1, rt_ok_del hG.2.2⟩
    · split
      · exact hG
      · next q => exact ⟨hG.1, hG.2.1, rt_ok_put hG.2.2 (by omega) (rt_sv_le (fun z => q (Or.inr z))) hs8⟩
    · split
      · exact hG
      · next q =>
        split
        · exact hG
        · refine ⟨hG.1, hG.2.1, rt_ok_put hG.2.2 (by omega) hg4 ?_⟩
          have a1 : ¬ v < -1 := fun z => q (Or.inl z)
          have a2 : ¬ nI 7 < v := fun z => q (Or.inr z)
          rw [Int32.lt_iff_toInt_lt] at a1 a2
          rw [nI_toInt (by decide)] at a2
          have e1 : (-1 : Int32).toInt = -1 := rfl
          rw [e1] at a1
          show (v + 1).toInt.toNat ≤ 8
          rw [Int32.toInt_add]
          have e2 : (1 : Int32).toInt = 1 := rfl
          rw [e2, Int.bmod_eq_of_le (by omega) (by omega)]
          omega
  · obtain ⟨-, h1⟩ := rt_rp_1 hp
    rw [(rt_lay_n h1).1, (rt_lay_n h1).2, rt_sig_n h1, rt_plt_n h1]
    exact ⟨hG, hG, hG, hG⟩
