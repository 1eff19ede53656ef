section
-- ===== PART A: goes FIRST, ahead of the names: the tables' words, and 'selects' of the private methods out of them =====
/-- a private method of a class that the tables say can be made, by its rows of tables_1 -/
def lw_okq (q : MethodName × Nat) : Prop := (q.1.cls ≠ "java/lang/invoke/MethodHandle" ∧ q.1.cls ≠ "java/lang/invoke/VarHandle") ∧ Cond.instantiable q.1.cls q.2 ∈ tables_1 ∧ Cond.privateMethod q.1 ∈ tables_1 ∧ Cond.instanceMethod q.1 ∈ tables_1
theorem lw_p0 : lw_okq (⟨"RouteTracks$Search", "floodBlock", "(LRouteTracks$Rails;I)V"⟩, 5) := ⟨⟨by decide +kernel, by decide +kernel⟩, List.mem_of_getElem? (i := 47) (by decide +kernel), List.mem_of_getElem? (i := 159) (by decide +kernel), List.mem_of_getElem? (i := 160) (by decide +kernel)⟩
theorem lw_p1 : lw_okq (⟨"RouteTracks$Search", "join", "(II)V"⟩, 5) := ⟨⟨by decide +kernel, by decide +kernel⟩, List.mem_of_getElem? (i := 47) (by decide +kernel), List.mem_of_getElem? (i := 167) (by decide +kernel), List.mem_of_getElem? (i := 168) (by decide +kernel)⟩
theorem lw_p2 : lw_okq (⟨"RouteTracks$Search", "joinMeeting", "(LRouteTracks$Rails;II)V"⟩, 5) := ⟨⟨by decide +kernel, by decide +kernel⟩, List.mem_of_getElem? (i := 47) (by decide +kernel), List.mem_of_getElem? (i := 184) (by decide +kernel), List.mem_of_getElem? (i := 185) (by decide +kernel)⟩
theorem lw_p3 : lw_okq (⟨"RouteTracks$Search", "joinAcross", "(LRouteTracks$Rails;II)V"⟩, 5) := ⟨⟨by decide +kernel, by decide +kernel⟩, List.mem_of_getElem? (i := 47) (by decide +kernel), List.mem_of_getElem? (i := 190) (by decide +kernel), List.mem_of_getElem? (i := 191) (by decide +kernel)⟩
theorem lw_p4 : lw_okq (⟨"RouteTracks$Search", "settleTargets", "(LRouteTracks$Rails;I)V"⟩, 5) := ⟨⟨by decide +kernel, by decide +kernel⟩, List.mem_of_getElem? (i := 47) (by decide +kernel), List.mem_of_getElem? (i := 225) (by decide +kernel), List.mem_of_getElem? (i := 226) (by decide +kernel)⟩
theorem lw_p5 : lw_okq (⟨"RouteTracks$Search", "settle", "(LRouteTracks$Rails;II)V"⟩, 5) := ⟨⟨by decide +kernel, by decide +kernel⟩, List.mem_of_getElem? (i := 47) (by decide +kernel), List.mem_of_getElem? (i := 232) (by decide +kernel), List.mem_of_getElem? (i := 233) (by decide +kernel)⟩
theorem lw_p6 : lw_okq (⟨"RouteTracks$Search", "takeNearest", "()I"⟩, 5) := ⟨⟨by decide +kernel, by decide +kernel⟩, List.mem_of_getElem? (i := 47) (by decide +kernel), List.mem_of_getElem? (i := 240) (by decide +kernel), List.mem_of_getElem? (i := 241) (by decide +kernel)⟩
theorem lw_p7 : lw_okq (⟨"RouteTracks$Search", "settleBehind", "(LRouteTracks$Rails;I)V"⟩, 5) := ⟨⟨by decide +kernel, by decide +kernel⟩, List.mem_of_getElem? (i := 47) (by decide +kernel), List.mem_of_getElem? (i := 248) (by decide +kernel), List.mem_of_getElem? (i := 249) (by decide +kernel)⟩
theorem lw_p8 : lw_okq (⟨"RouteTracks", "requirePlace", "(II)V"⟩, 2) := ⟨⟨by decide +kernel, by decide +kernel⟩, List.mem_of_getElem? (i := 14) (by decide +kernel), List.mem_of_getElem? (i := 287) (by decide +kernel), List.mem_of_getElem? (i := 288) (by decide +kernel)⟩
theorem lw_p9 : lw_okq (⟨"java/lang/Throwable", "fillInStackTrace", "(I)Ljava/lang/Throwable;"⟩, 6) := ⟨⟨by decide +kernel, by decide +kernel⟩, List.mem_of_getElem? (i := 328) (by decide +kernel), List.mem_of_getElem? (i := 326) (by decide +kernel), List.mem_of_getElem? (i := 327) (by decide +kernel)⟩
theorem lw_p10 : lw_okq (⟨"RouteTracks", "requireThere", "(I)V"⟩, 2) := ⟨⟨by decide +kernel, by decide +kernel⟩, List.mem_of_getElem? (i := 14) (by decide +kernel), List.mem_of_getElem? (i := 391) (by decide +kernel), List.mem_of_getElem? (i := 392) (by decide +kernel)⟩
theorem lw_p11 : lw_okq (⟨"RouteTracksModel", "isTile", "(I)Z"⟩, 12) := ⟨⟨by decide +kernel, by decide +kernel⟩, List.mem_of_getElem? (i := 419) (by decide +kernel), List.mem_of_getElem? (i := 471) (by decide +kernel), List.mem_of_getElem? (i := 472) (by decide +kernel)⟩
theorem lw_p12 : lw_okq (⟨"RouteTracksModel", "isOpen", "(I)Z"⟩, 12) := ⟨⟨by decide +kernel, by decide +kernel⟩, List.mem_of_getElem? (i := 419) (by decide +kernel), List.mem_of_getElem? (i := 498) (by decide +kernel), List.mem_of_getElem? (i := 499) (by decide +kernel)⟩
theorem lw_p13 : lw_okq (⟨"RouteTracksModel", "isRun", "(I)Z"⟩, 12) := ⟨⟨by decide +kernel, by decide +kernel⟩, List.mem_of_getElem? (i := 419) (by decide +kernel), List.mem_of_getElem? (i := 502) (by decide +kernel), List.mem_of_getElem? (i := 503) (by decide +kernel)⟩
theorem lw_p14 : lw_okq (⟨"RouteTracksModel", "signalled", "(I)I"⟩, 12) := ⟨⟨by decide +kernel, by decide +kernel⟩, List.mem_of_getElem? (i := 419) (by decide +kernel), List.mem_of_getElem? (i := 506) (by decide +kernel), List.mem_of_getElem? (i := 507) (by decide +kernel)⟩
theorem lw_p15 : lw_okq (⟨"RouteTracksModel", "follower", "(II)I"⟩, 12) := ⟨⟨by decide +kernel, by decide +kernel⟩, List.mem_of_getElem? (i := 419) (by decide +kernel), List.mem_of_getElem? (i := 510) (by decide +kernel), List.mem_of_getElem? (i := 511) (by decide +kernel)⟩
def lw_privs_1 : List (MethodName × Nat) := [(⟨"RouteTracks$Search", "floodBlock", "(LRouteTracks$Rails;I)V"⟩, 5), (⟨"RouteTracks$Search", "join", "(II)V"⟩, 5), (⟨"RouteTracks$Search", "joinMeeting", "(LRouteTracks$Rails;II)V"⟩, 5), (⟨"RouteTracks$Search", "joinAcross", "(LRouteTracks$Rails;II)V"⟩, 5), (⟨"RouteTracks$Search", "settleTargets", "(LRouteTracks$Rails;I)V"⟩, 5), (⟨"RouteTracks$Search", "settle", "(LRouteTracks$Rails;II)V"⟩, 5), (⟨"RouteTracks$Search", "takeNearest", "()I"⟩, 5), (⟨"RouteTracks$Search", "settleBehind", "(LRouteTracks$Rails;I)V"⟩, 5), (⟨"RouteTracks", "requirePlace", "(II)V"⟩, 2), (⟨"java/lang/Throwable", "fillInStackTrace", "(I)Ljava/lang/Throwable;"⟩, 6), (⟨"RouteTracks", "requireThere", "(I)V"⟩, 2), (⟨"RouteTracksModel", "isTile", "(I)Z"⟩, 12), (⟨"RouteTracksModel", "isOpen", "(I)Z"⟩, 12), (⟨"RouteTracksModel", "isRun", "(I)Z"⟩, 12), (⟨"RouteTracksModel", "signalled", "(I)I"⟩, 12), (⟨"RouteTracksModel", "follower", "(II)I"⟩, 12)]
theorem lw_r1 : ∀ q ∈ lw_privs_1, lw_okq q := List.forall_mem_cons.mpr ⟨lw_p0, List.forall_mem_cons.mpr ⟨lw_p1, List.forall_mem_cons.mpr ⟨lw_p2, List.forall_mem_cons.mpr ⟨lw_p3, List.forall_mem_cons.mpr ⟨lw_p4, List.forall_mem_cons.mpr ⟨lw_p5, List.forall_mem_cons.mpr ⟨lw_p6, List.forall_mem_cons.mpr ⟨lw_p7, List.forall_mem_cons.mpr ⟨lw_p8, List.forall_mem_cons.mpr ⟨lw_p9, List.forall_mem_cons.mpr ⟨lw_p10, List.forall_mem_cons.mpr ⟨lw_p11, List.forall_mem_cons.mpr ⟨lw_p12, List.forall_mem_cons.mpr ⟨lw_p13, List.forall_mem_cons.mpr ⟨lw_p14, List.forall_mem_cons.mpr ⟨lw_p15, fun _ h => absurd h List.not_mem_nil⟩⟩⟩⟩⟩⟩⟩⟩⟩⟩⟩⟩⟩⟩⟩⟩
theorem lw_p16 : lw_okq (⟨"RouteTracksModel", "to", "(I)I"⟩, 12) := ⟨⟨by decide +kernel, by decide +kernel⟩, List.mem_of_getElem? (i := 419) (by decide +kernel), List.mem_of_getElem? (i := 514) (by decide +kernel), List.mem_of_getElem? (i := 515) (by decide +kernel)⟩
theorem lw_p17 : lw_okq (⟨"RouteTracksModel", "beyond", "(II)I"⟩, 12) := ⟨⟨by decide +kernel, by decide +kernel⟩, List.mem_of_getElem? (i := 419) (by decide +kernel), List.mem_of_getElem? (i := 518) (by decide +kernel), List.mem_of_getElem? (i := 519) (by decide +kernel)⟩
theorem lw_p18 : lw_okq (⟨"RouteTracksModel", "from", "(I)I"⟩, 12) := ⟨⟨by decide +kernel, by decide +kernel⟩, List.mem_of_getElem? (i := 419) (by decide +kernel), List.mem_of_getElem? (i := 522) (by decide +kernel), List.mem_of_getElem? (i := 523) (by decide +kernel)⟩
theorem lw_p19 : lw_okq (⟨"RouteTracksModel", "isPiece", "(II)Z"⟩, 12) := ⟨⟨by decide +kernel, by decide +kernel⟩, List.mem_of_getElem? (i := 419) (by decide +kernel), List.mem_of_getElem? (i := 537) (by decide +kernel), List.mem_of_getElem? (i := 538) (by decide +kernel)⟩
theorem lw_p20 : lw_okq (⟨"RouteTracksModel", "unreach", "()V"⟩, 12) := ⟨⟨by decide +kernel, by decide +kernel⟩, List.mem_of_getElem? (i := 419) (by decide +kernel), List.mem_of_getElem? (i := 541) (by decide +kernel), List.mem_of_getElem? (i := 542) (by decide +kernel)⟩
theorem lw_p21 : lw_okq (⟨"RouteTracksModel", "lowest", "(I)I"⟩, 12) := ⟨⟨by decide +kernel, by decide +kernel⟩, List.mem_of_getElem? (i := 419) (by decide +kernel), List.mem_of_getElem? (i := 545) (by decide +kernel), List.mem_of_getElem? (i := 546) (by decide +kernel)⟩
theorem lw_p22 : lw_okq (⟨"RouteTracksModel", "touch", "(II)Z"⟩, 12) := ⟨⟨by decide +kernel, by decide +kernel⟩, List.mem_of_getElem? (i := 419) (by decide +kernel), List.mem_of_getElem? (i := 549) (by decide +kernel), List.mem_of_getElem? (i := 550) (by decide +kernel)⟩
theorem lw_p23 : lw_okq (⟨"RouteTracksModel", "ends", "(II)Z"⟩, 12) := ⟨⟨by decide +kernel, by decide +kernel⟩, List.mem_of_getElem? (i := 419) (by decide +kernel), List.mem_of_getElem? (i := 553) (by decide +kernel), List.mem_of_getElem? (i := 554) (by decide +kernel)⟩
theorem lw_p24 : lw_okq (⟨"RouteTracksModel", "guards", "(II)Z"⟩, 12) := ⟨⟨by decide +kernel, by decide +kernel⟩, List.mem_of_getElem? (i := 419) (by decide +kernel), List.mem_of_getElem? (i := 557) (by decide +kernel), List.mem_of_getElem? (i := 558) (by decide +kernel)⟩
theorem lw_p25 : lw_okq (⟨"RouteTracksModel", "target", "(II)Z"⟩, 12) := ⟨⟨by decide +kernel, by decide +kernel⟩, List.mem_of_getElem? (i := 419) (by decide +kernel), List.mem_of_getElem? (i := 572) (by decide +kernel), List.mem_of_getElem? (i := 573) (by decide +kernel)⟩
theorem lw_p26 : lw_okq (⟨"RouteTracksModel", "reckon", "(I)V"⟩, 12) := ⟨⟨by decide +kernel, by decide +kernel⟩, List.mem_of_getElem? (i := 419) (by decide +kernel), List.mem_of_getElem? (i := 580) (by decide +kernel), List.mem_of_getElem? (i := 581) (by decide +kernel)⟩
theorem lw_p27 : lw_okq (⟨"RouteTracksModel", "onward", "(I)I"⟩, 12) := ⟨⟨by decide +kernel, by decide +kernel⟩, List.mem_of_getElem? (i := 419) (by decide +kernel), List.mem_of_getElem? (i := 585) (by decide +kernel), List.mem_of_getElem? (i := 586) (by decide +kernel)⟩
def lw_privs_2 : List (MethodName × Nat) := [(⟨"RouteTracksModel", "to", "(I)I"⟩, 12), (⟨"RouteTracksModel", "beyond", "(II)I"⟩, 12), (⟨"RouteTracksModel", "from", "(I)I"⟩, 12), (⟨"RouteTracksModel", "isPiece", "(II)Z"⟩, 12), (⟨"RouteTracksModel", "unreach", "()V"⟩, 12), (⟨"RouteTracksModel", "lowest", "(I)I"⟩, 12), (⟨"RouteTracksModel", "touch", "(II)Z"⟩, 12), (⟨"RouteTracksModel", "ends", "(II)Z"⟩, 12), (⟨"RouteTracksModel", "guards", "(II)Z"⟩, 12), (⟨"RouteTracksModel", "target", "(II)Z"⟩, 12), (⟨"RouteTracksModel", "reckon", "(I)V"⟩, 12), (⟨"RouteTracksModel", "onward", "(I)I"⟩, 12)]
theorem lw_r2 : ∀ q ∈ lw_privs_2, lw_okq q := List.forall_mem_cons.mpr ⟨lw_p16, List.forall_mem_cons.mpr ⟨lw_p17, List.forall_mem_cons.mpr ⟨lw_p18, List.forall_mem_cons.mpr ⟨lw_p19, List.forall_mem_cons.mpr ⟨lw_p20, List.forall_mem_cons.mpr ⟨lw_p21, List.forall_mem_cons.mpr ⟨lw_p22, List.forall_mem_cons.mpr ⟨lw_p23, List.forall_mem_cons.mpr ⟨lw_p24, List.forall_mem_cons.mpr ⟨lw_p25, List.forall_mem_cons.mpr ⟨lw_p26, List.forall_mem_cons.mpr ⟨lw_p27, fun _ h => absurd h List.not_mem_nil⟩⟩⟩⟩⟩⟩⟩⟩⟩⟩⟩⟩
def lw_privs : List (MethodName × Nat) := lw_privs_1 ++ (lw_privs_2)
def lw_tbl : List Cond := k2_sels lw_privs ++ tables_1
theorem lw_privs_ok : ∀ q ∈ lw_privs, lw_okq q := by
  show ∀ q ∈ lw_privs_1 ++ (lw_privs_2), lw_okq q
  exact List.forall_mem_append.mpr ⟨lw_r1, lw_r2⟩
end
section
/-! NAMES, by program (wip/whole/gen/mknames.py) -/
def rn_Q : String := "RouteTracks$Queue"
def rn_A : String := "RouteTracks$Rails"
def rn_S : String := "RouteTracks$Search"
def rn_R : String := "RouteTracks"
def rn_M : String := "RouteTracksModel"
def rn_L : String := "RouteTracksLaw"
def rn_JM : String := "java/lang/Math"
def rn_JA : String := "java/util/Arrays"
def tf_Q : u_T := fun k => match k with
  | 0 => ("RouteTracks$Queue", "row", "[I", true)
  | 1 => ("RouteTracks$Queue", "head", "I", false)
  | _ => ("RouteTracks$Queue", "tail", "I", false)
def tt_Q : Nat → FieldType := fun k => match k with
  | 0 => .array .int
  | 1 => .int
  | _ => .int
theorem nm_Q : ∀ a, a < 3 → ∀ b, b < 3 → a ≠ b → (tf_Q a).2.1 ≠ (tf_Q b).2.1 := by decide +kernel
theorem tt_Q_ok : ∀ k, k < 3 → parseFieldDescriptor (tf_Q k).2.2.1 = some (tt_Q k) := by decide +kernel
def tf_A : u_T := fun k => match k with
  | 0 => ("RouteTracks$Rails", "beyond", "[I", true)
  | _ => ("RouteTracks$Rails", "pieces", "[I", true)
def tt_A : Nat → FieldType := fun k => match k with
  | 0 => .array .int
  | _ => .array .int
theorem nm_A : ∀ a, a < 2 → ∀ b, b < 2 → a ≠ b → (tf_A a).2.1 ≠ (tf_A b).2.1 := by decide +kernel
theorem tt_A_ok : ∀ k, k < 2 → parseFieldDescriptor (tf_A k).2.2.1 = some (tt_A k) := by decide +kernel
def tf_S : u_T := fun k => match k with
  | 0 => ("RouteTracks$Search", "found", "[I", true)
  | 1 => ("RouteTracks$Search", "straights", "LRouteTracks$Queue;", true)
  | 2 => ("RouteTracks$Search", "curves", "LRouteTracks$Queue;", true)
  | 3 => ("RouteTracks$Search", "held", "I", false)
  | _ => ("RouteTracks$Search", "blocks", "I", false)
def tt_S : Nat → FieldType := fun k => match k with
  | 0 => .array .int
  | 1 => .object "RouteTracks$Queue"
  | 2 => .object "RouteTracks$Queue"
  | 3 => .int
  | _ => .int
theorem nm_S : ∀ a, a < 5 → ∀ b, b < 5 → a ≠ b → (tf_S a).2.1 ≠ (tf_S b).2.1 := by decide +kernel
theorem tt_S_ok : ∀ k, k < 5 → parseFieldDescriptor (tf_S k).2.2.1 = some (tt_S k) := by decide +kernel
def tf_R : u_T := fun k => match k with
  | 0 => ("RouteTracks", "rails", "LRouteTracks$Rails;", true)
  | _ => ("RouteTracks", "search", "LRouteTracks$Search;", true)
def tt_R : Nat → FieldType := fun k => match k with
  | 0 => .object "RouteTracks$Rails"
  | _ => .object "RouteTracks$Search"
theorem nm_R : ∀ a, a < 2 → ∀ b, b < 2 → a ≠ b → (tf_R a).2.1 ≠ (tf_R b).2.1 := by decide +kernel
theorem tt_R_ok : ∀ k, k < 2 → parseFieldDescriptor (tf_R k).2.2.1 = some (tt_R k) := by decide +kernel
def tf_M : u_T := fun k => match k with
  | 0 => ("RouteTracksModel", "edges", "[I", true)
  | 1 => ("RouteTracksModel", "thrown", "I", false)
  | 2 => ("RouteTracksModel", "w", "I", true)
  | 3 => ("RouteTracksModel", "h", "I", true)
  | 4 => ("RouteTracksModel", "there", "[Z", true)
  | 5 => ("RouteTracksModel", "signs", "[I", true)
  | 6 => ("RouteTracksModel", "stations", "[I", true)
  | 7 => ("RouteTracksModel", "list", "[I", true)
  | 8 => ("RouteTracksModel", "pieces", "I", false)
  | 9 => ("RouteTracksModel", "cost", "[I", true)
  | 10 => ("RouteTracksModel", "reached", "[Z", true)
  | _ => ("RouteTracksModel", "pile", "[I", true)
def tt_M : Nat → FieldType := fun k => match k with
  | 0 => .array .int
  | 1 => .int
  | 2 => .int
  | 3 => .int
  | 4 => .array .boolean
  | 5 => .array .int
  | 6 => .array .int
  | 7 => .array .int
  | 8 => .int
  | 9 => .array .int
  | 10 => .array .boolean
  | _ => .array .int
theorem nm_M : ∀ a, a < 12 → ∀ b, b < 12 → a ≠ b → (tf_M a).2.1 ≠ (tf_M b).2.1 := by decide +kernel
theorem tt_M_ok : ∀ k, k < 12 → parseFieldDescriptor (tf_M k).2.2.1 = some (tt_M k) := by decide +kernel
abbrev vwCl : List vw_C := [(rn_Q, tf_Q, 3), (rn_A, tf_A, 2), (rn_S, tf_S, 5), (rn_R, tf_R, 2), (rn_M, tf_M, 12)]
abbrev b_R_init : ByteArray := prog_1_method_1_code
def y_R_init : MethodName := ⟨rn_R, "<init>", "(II)V"⟩
abbrev b_R_sideWithin : ByteArray := prog_1_method_15_code
def y_R_sideWithin : MethodName := ⟨rn_R, "sideWithin", "(I)I"⟩
abbrev b_JM_min : ByteArray := prog_10_method_69_code
def y_JM_min : MethodName := ⟨rn_JM, "min", "(II)I"⟩
abbrev b_JM_max : ByteArray := prog_10_method_65_code
def y_JM_max : MethodName := ⟨rn_JM, "max", "(II)I"⟩
abbrev b_A_init : ByteArray := prog_3_method_1_code
def y_A_init : MethodName := ⟨rn_A, "<init>", "(II)V"⟩
abbrev b_S_init : ByteArray := prog_4_method_1_code
def y_S_init : MethodName := ⟨rn_S, "<init>", "(I)V"⟩
abbrev b_Q_init : ByteArray := prog_2_method_1_code
def y_Q_init : MethodName := ⟨rn_Q, "<init>", "(I)V"⟩
abbrev b_R_at : ByteArray := prog_1_method_6_code
def y_R_at : MethodName := ⟨rn_R, "at", "(II)I"⟩
abbrev b_A_hasTile : ByteArray := prog_3_method_2_code
def y_A_hasTile : MethodName := ⟨rn_A, "hasTile", "(I)Z"⟩
abbrev b_A_kindsIn : ByteArray := prog_3_method_8_code
def y_A_kindsIn : MethodName := ⟨rn_A, "kindsIn", "(I)I"⟩
abbrev b_A_isThere : ByteArray := prog_3_method_5_code
def y_A_isThere : MethodName := ⟨rn_A, "isThere", "(I)Z"⟩
abbrev b_R_next : ByteArray := prog_1_method_7_code
def y_R_next : MethodName := ⟨rn_R, "next", "(II)I"⟩
abbrev b_A_isOpen : ByteArray := prog_3_method_11_code
def y_A_isOpen : MethodName := ⟨rn_A, "isOpen", "(I)Z"⟩
abbrev b_A_hasSignal : ByteArray := prog_3_method_10_code
def y_A_hasSignal : MethodName := ⟨rn_A, "hasSignal", "(I)Z"⟩
abbrev b_A_signalOf : ByteArray := prog_3_method_6_code
def y_A_signalOf : MethodName := ⟨rn_A, "signalOf", "(I)I"⟩
abbrev b_A_ahead : ByteArray := prog_3_method_14_code
def y_A_ahead : MethodName := ⟨rn_A, "ahead", "(II)I"⟩
abbrev b_R_before : ByteArray := prog_1_method_8_code
def y_R_before : MethodName := ⟨rn_R, "before", "(I)I"⟩
abbrev b_A_behind : ByteArray := prog_3_method_15_code
def y_A_behind : MethodName := ⟨rn_A, "behind", "(II)I"⟩
abbrev b_R_block : ByteArray := prog_1_method_9_code
def y_R_block : MethodName := ⟨rn_R, "block", "(II)I"⟩
abbrev b_R_isKind : ByteArray := prog_1_method_16_code
def y_R_isKind : MethodName := ⟨rn_R, "isKind", "(I)Z"⟩
abbrev b_S_findBlocks : ByteArray := prog_4_method_3_code
def y_S_findBlocks : MethodName := ⟨rn_S, "findBlocks", "(LRouteTracks$Rails;)V"⟩
abbrev b_JA_fill : ByteArray := prog_14_method_103_code
def y_JA_fill : MethodName := ⟨rn_JA, "fill", "([II)V"⟩
abbrev b_S_floodBlock : ByteArray := prog_4_method_4_code
def y_S_floodBlock : MethodName := ⟨rn_S, "floodBlock", "(LRouteTracks$Rails;I)V"⟩
abbrev b_Q_clear : ByteArray := prog_2_method_2_code
def y_Q_clear : MethodName := ⟨rn_Q, "clear", "()V"⟩
abbrev b_S_join : ByteArray := prog_4_method_7_code
def y_S_join : MethodName := ⟨rn_S, "join", "(II)V"⟩
abbrev b_Q_add : ByteArray := prog_2_method_4_code
def y_Q_add : MethodName := ⟨rn_Q, "add", "(I)V"⟩
abbrev b_Q_isEmpty : ByteArray := prog_2_method_3_code
def y_Q_isEmpty : MethodName := ⟨rn_Q, "isEmpty", "()Z"⟩
abbrev b_Q_take : ByteArray := prog_2_method_6_code
def y_Q_take : MethodName := ⟨rn_Q, "take", "()I"⟩
abbrev b_S_joinMeeting : ByteArray := prog_4_method_5_code
def y_S_joinMeeting : MethodName := ⟨rn_S, "joinMeeting", "(LRouteTracks$Rails;II)V"⟩
abbrev b_S_joinAcross : ByteArray := prog_4_method_6_code
def y_S_joinAcross : MethodName := ⟨rn_S, "joinAcross", "(LRouteTracks$Rails;II)V"⟩
abbrev b_R_sign : ByteArray := prog_1_method_10_code
def y_R_sign : MethodName := ⟨rn_R, "sign", "(I)I"⟩
abbrev b_R_isStation : ByteArray := prog_1_method_17_code
def y_R_isStation : MethodName := ⟨rn_R, "isStation", "(I)Z"⟩
abbrev b_A_stationOf : ByteArray := prog_3_method_7_code
def y_A_stationOf : MethodName := ⟨rn_A, "stationOf", "(I)I"⟩
abbrev b_R_isTarget : ByteArray := prog_1_method_11_code
def y_R_isTarget : MethodName := ⟨rn_R, "isTarget", "(II)Z"⟩
abbrev b_A_isLastOf : ByteArray := prog_3_method_16_code
def y_A_isLastOf : MethodName := ⟨rn_A, "isLastOf", "(II)Z"⟩
abbrev b_R_cost : ByteArray := prog_1_method_12_code
def y_R_cost : MethodName := ⟨rn_R, "cost", "(II)I"⟩
abbrev b_S_findCosts : ByteArray := prog_4_method_8_code
def y_S_findCosts : MethodName := ⟨rn_S, "findCosts", "(LRouteTracks$Rails;I)V"⟩
abbrev b_S_settleTargets : ByteArray := prog_4_method_9_code
def y_S_settleTargets : MethodName := ⟨rn_S, "settleTargets", "(LRouteTracks$Rails;I)V"⟩
abbrev b_S_settle : ByteArray := prog_4_method_11_code
def y_S_settle : MethodName := ⟨rn_S, "settle", "(LRouteTracks$Rails;II)V"⟩
abbrev b_A_isStraight : ByteArray := prog_3_method_12_code
def y_A_isStraight : MethodName := ⟨rn_A, "isStraight", "(I)Z"⟩
abbrev b_S_takeNearest : ByteArray := prog_4_method_12_code
def y_S_takeNearest : MethodName := ⟨rn_S, "takeNearest", "()I"⟩
abbrev b_Q_first : ByteArray := prog_2_method_5_code
def y_Q_first : MethodName := ⟨rn_Q, "first", "()I"⟩
abbrev b_S_settleBehind : ByteArray := prog_4_method_10_code
def y_S_settleBehind : MethodName := ⟨rn_S, "settleBehind", "(LRouteTracks$Rails;I)V"⟩
abbrev b_A_lengthOf : ByteArray := prog_3_method_13_code
def y_A_lengthOf : MethodName := ⟨rn_A, "lengthOf", "(I)I"⟩
abbrev b_R_route : ByteArray := prog_1_method_13_code
def y_R_route : MethodName := ⟨rn_R, "route", "(III)I"⟩
abbrev b_S_cheapestAhead : ByteArray := prog_4_method_13_code
def y_S_cheapestAhead : MethodName := ⟨rn_S, "cheapestAhead", "(LRouteTracks$Rails;I)I"⟩
abbrev b_R_count : ByteArray := prog_1_method_14_code
def y_R_count : MethodName := ⟨rn_R, "count", "(I)I"⟩
abbrev b_A_piecesWith : ByteArray := prog_3_method_9_code
def y_A_piecesWith : MethodName := ⟨rn_A, "piecesWith", "(I)I"⟩
abbrev b_L_cell : ByteArray := method_2_code
def y_L_cell : MethodName := ⟨rn_L, "cell", "([II)I"⟩
abbrev b_L_lay : ByteArray := method_3_code
def y_L_lay : MethodName := ⟨rn_L, "lay", "(LRouteTracks;II)I"⟩
abbrev b_R_lay : ByteArray := prog_1_method_2_code
def y_R_lay : MethodName := ⟨rn_R, "lay", "(II)V"⟩
abbrev b_R_requirePlace : ByteArray := prog_1_method_18_code
def y_R_requirePlace : MethodName := ⟨rn_R, "requirePlace", "(II)V"⟩
abbrev b_A_put : ByteArray := prog_3_method_3_code
def y_A_put : MethodName := ⟨rn_A, "put", "(III)V"⟩
abbrev b_S_forget : ByteArray := prog_4_method_2_code
def y_S_forget : MethodName := ⟨rn_S, "forget", "()V"⟩
abbrev b_L_lift : ByteArray := method_4_code
def y_L_lift : MethodName := ⟨rn_L, "lift", "(LRouteTracks;II)I"⟩
abbrev b_R_lift : ByteArray := prog_1_method_3_code
def y_R_lift : MethodName := ⟨rn_R, "lift", "(II)V"⟩
abbrev b_R_requireThere : ByteArray := prog_1_method_19_code
def y_R_requireThere : MethodName := ⟨rn_R, "requireThere", "(I)V"⟩
abbrev b_A_takeAway : ByteArray := prog_3_method_4_code
def y_A_takeAway : MethodName := ⟨rn_A, "takeAway", "(I)V"⟩
abbrev b_L_signal : ByteArray := method_5_code
def y_L_signal : MethodName := ⟨rn_L, "signal", "(LRouteTracks;IIII)I"⟩
abbrev b_R_signal : ByteArray := prog_1_method_4_code
def y_R_signal : MethodName := ⟨rn_R, "signal", "(IIII)V"⟩
abbrev b_L_platform : ByteArray := method_6_code
def y_L_platform : MethodName := ⟨rn_L, "platform", "(LRouteTracks;III)I"⟩
abbrev b_R_platform : ByteArray := prog_1_method_5_code
def y_R_platform : MethodName := ⟨rn_R, "platform", "(III)V"⟩
abbrev b_M_init : ByteArray := prog_6_method_1_code
def y_M_init : MethodName := ⟨rn_M, "<init>", "(II)V"⟩
abbrev b_M_thrown : ByteArray := prog_6_method_2_code
def y_M_thrown : MethodName := ⟨rn_M, "thrown", "()I"⟩
abbrev b_M_lay : ByteArray := prog_6_method_6_code
def y_M_lay : MethodName := ⟨rn_M, "lay", "(II)V"⟩
abbrev b_M_isTile : ByteArray := prog_6_method_3_code
def y_M_isTile : MethodName := ⟨rn_M, "isTile", "(I)Z"⟩
abbrev b_M_isKind : ByteArray := prog_6_method_4_code
def y_M_isKind : MethodName := ⟨rn_M, "isKind", "(I)Z"⟩
abbrev b_M_lift : ByteArray := prog_6_method_7_code
def y_M_lift : MethodName := ⟨rn_M, "lift", "(II)V"⟩
abbrev b_M_signal : ByteArray := prog_6_method_8_code
def y_M_signal : MethodName := ⟨rn_M, "signal", "(IIII)V"⟩
abbrev b_M_platform : ByteArray := prog_6_method_9_code
def y_M_platform : MethodName := ⟨rn_M, "platform", "(III)V"⟩
abbrev b_M_at : ByteArray := prog_6_method_10_code
def y_M_at : MethodName := ⟨rn_M, "at", "(II)I"⟩
abbrev b_M_next : ByteArray := prog_6_method_19_code
def y_M_next : MethodName := ⟨rn_M, "next", "(II)I"⟩
abbrev b_M_isOpen : ByteArray := prog_6_method_13_code
def y_M_isOpen : MethodName := ⟨rn_M, "isOpen", "(I)Z"⟩
abbrev b_M_isRun : ByteArray := prog_6_method_11_code
def y_M_isRun : MethodName := ⟨rn_M, "isRun", "(I)Z"⟩
abbrev b_M_signalled : ByteArray := prog_6_method_12_code
def y_M_signalled : MethodName := ⟨rn_M, "signalled", "(I)I"⟩
abbrev b_M_follower : ByteArray := prog_6_method_18_code
def y_M_follower : MethodName := ⟨rn_M, "follower", "(II)I"⟩
abbrev b_M_to : ByteArray := prog_6_method_15_code
def y_M_to : MethodName := ⟨rn_M, "to", "(I)I"⟩
abbrev b_M_beyond : ByteArray := prog_6_method_16_code
def y_M_beyond : MethodName := ⟨rn_M, "beyond", "(II)I"⟩
abbrev b_M_from : ByteArray := prog_6_method_14_code
def y_M_from : MethodName := ⟨rn_M, "from", "(I)I"⟩
abbrev b_M_other : ByteArray := prog_6_method_17_code
def y_M_other : MethodName := ⟨rn_M, "other", "(I)I"⟩
abbrev b_M_before : ByteArray := prog_6_method_20_code
def y_M_before : MethodName := ⟨rn_M, "before", "(I)I"⟩
abbrev b_M_block : ByteArray := prog_6_method_26_code
def y_M_block : MethodName := ⟨rn_M, "block", "(II)I"⟩
abbrev b_M_isPiece : ByteArray := prog_6_method_5_code
def y_M_isPiece : MethodName := ⟨rn_M, "isPiece", "(II)Z"⟩
abbrev b_M_unreach : ByteArray := prog_6_method_25_code
def y_M_unreach : MethodName := ⟨rn_M, "unreach", "()V"⟩
abbrev b_M_lowest : ByteArray := prog_6_method_24_code
def y_M_lowest : MethodName := ⟨rn_M, "lowest", "(I)I"⟩
abbrev b_M_touch : ByteArray := prog_6_method_23_code
def y_M_touch : MethodName := ⟨rn_M, "touch", "(II)Z"⟩
abbrev b_M_ends : ByteArray := prog_6_method_22_code
def y_M_ends : MethodName := ⟨rn_M, "ends", "(II)Z"⟩
abbrev b_M_guards : ByteArray := prog_6_method_21_code
def y_M_guards : MethodName := ⟨rn_M, "guards", "(II)Z"⟩
abbrev b_M_sign : ByteArray := prog_6_method_28_code
def y_M_sign : MethodName := ⟨rn_M, "sign", "(I)I"⟩
abbrev b_M_isStation : ByteArray := prog_6_method_27_code
def y_M_isStation : MethodName := ⟨rn_M, "isStation", "(I)Z"⟩
abbrev b_M_isTarget : ByteArray := prog_6_method_30_code
def y_M_isTarget : MethodName := ⟨rn_M, "isTarget", "(II)Z"⟩
abbrev b_M_target : ByteArray := prog_6_method_29_code
def y_M_target : MethodName := ⟨rn_M, "target", "(II)Z"⟩
abbrev b_M_cost : ByteArray := prog_6_method_34_code
def y_M_cost : MethodName := ⟨rn_M, "cost", "(II)I"⟩
abbrev b_M_reckon : ByteArray := prog_6_method_33_code
def y_M_reckon : MethodName := ⟨rn_M, "reckon", "(I)V"⟩
abbrev b_M_onward : ByteArray := prog_6_method_32_code
def y_M_onward : MethodName := ⟨rn_M, "onward", "(I)I"⟩
abbrev b_M_length : ByteArray := prog_6_method_31_code
def y_M_length : MethodName := ⟨rn_M, "length", "(I)I"⟩
abbrev b_M_route : ByteArray := prog_6_method_35_code
def y_M_route : MethodName := ⟨rn_M, "route", "(III)I"⟩
abbrev b_M_count : ByteArray := prog_6_method_36_code
def y_M_count : MethodName := ⟨rn_M, "count", "(I)I"⟩
abbrev b_L_law : ByteArray := code
def y_L_law : MethodName := ⟨rn_L, "law", "([I)Z"⟩
/-- the words of the tables that any state of the run has -/
def tG : List Cond := lw_tbl.filter goodWord
theorem tG_1 {w : Cond} (h : w ∈ tables_1_1) (g : goodWord w = true) : w ∈ tG := List.mem_filter.mpr ⟨List.mem_append_right _ (List.mem_append_left _ h), g⟩
theorem tG_2 {w : Cond} (h : w ∈ tables_1_2) (g : goodWord w = true) : w ∈ tG := List.mem_filter.mpr ⟨List.mem_append_right _ (List.mem_append_right _ (List.mem_append_left _ h)), g⟩
theorem tG_3 {w : Cond} (h : w ∈ tables_1_3) (g : goodWord w = true) : w ∈ tG := List.mem_filter.mpr ⟨List.mem_append_right _ (List.mem_append_right _ (List.mem_append_right _ h)), g⟩
theorem tG_s {w : Cond} (h : w ∈ k2_sels lw_privs) (g : goodWord w = true) : w ∈ tG := List.mem_filter.mpr ⟨List.mem_append_left _ h, g⟩
theorem tG_good : ∀ w ∈ tG, w ∈ tG ∧ ((w.onTables && w.keeps) = true ∨ ∃ ty, w = .arrayClass ty) := fun w h => ⟨h, good_of_word (List.mem_filter.mp h).2⟩
end
section
/-! WORDS: where each stands in the tables, by program -/
theorem k_initialized_rn_L : Cond.initialized rn_L ∈ tG := tG_1 (List.mem_of_getElem? (i := 0) (by decide +kernel)) (by decide +kernel)
theorem k_initialized_rn_R : Cond.initialized rn_R ∈ tG := tG_1 (List.mem_of_getElem? (i := 1) (by decide +kernel)) (by decide +kernel)
theorem k_initialized_rn_JM : Cond.initialized rn_JM ∈ tG := tG_1 (List.mem_of_getElem? (i := 2) (by decide +kernel)) (by decide +kernel)
theorem k_initialized_rn_A : Cond.initialized rn_A ∈ tG := tG_1 (List.mem_of_getElem? (i := 3) (by decide +kernel)) (by decide +kernel)
theorem k_initialized_rn_S : Cond.initialized rn_S ∈ tG := tG_1 (List.mem_of_getElem? (i := 4) (by decide +kernel)) (by decide +kernel)
theorem k_initialized_rn_Q : Cond.initialized rn_Q ∈ tG := tG_1 (List.mem_of_getElem? (i := 5) (by decide +kernel)) (by decide +kernel)
theorem k_initialized_rn_M : Cond.initialized rn_M ∈ tG := tG_1 (List.mem_of_getElem? (i := 6) (by decide +kernel)) (by decide +kernel)
theorem k_initialized_java_lang_IndexOutOfBoundsException : Cond.initialized "java/lang/IndexOutOfBoundsException" ∈ tG := tG_1 (List.mem_of_getElem? (i := 10) (by decide +kernel)) (by decide +kernel)
theorem k_initialized_java_lang_IllegalArgumentException : Cond.initialized "java/lang/IllegalArgumentException" ∈ tG := tG_1 (List.mem_of_getElem? (i := 11) (by decide +kernel)) (by decide +kernel)
theorem k_initialized_rn_JA : Cond.initialized rn_JA ∈ tG := tG_1 (List.mem_of_getElem? (i := 12) (by decide +kernel)) (by decide +kernel)
theorem k_classLink_rn_L_8_rn_R : Cond.classLink rn_L 8 rn_R ∈ tG := tG_1 (List.mem_of_getElem? (i := 13) (by decide +kernel)) (by decide +kernel)
theorem k_instantiable_rn_R_2 : Cond.instantiable rn_R 2 ∈ tG := tG_1 (List.mem_of_getElem? (i := 14) (by decide +kernel)) (by decide +kernel)
theorem k_methodLink_rn_L_34_y_R_init : Cond.methodLink rn_L 34 y_R_init ∈ tG := tG_1 (List.mem_of_getElem? (i := 15) (by decide +kernel)) (by decide +kernel)
theorem k_instanceMethod_y_R_init : Cond.instanceMethod y_R_init ∈ tG := tG_1 (List.mem_of_getElem? (i := 16) (by decide +kernel)) (by decide +kernel)
theorem k_code_y_R_init_prog_1_method_1_code_5_none : Cond.code y_R_init prog_1_method_1_code 5 none ∈ tG := tG_1 (List.mem_of_getElem? (i := 17) (by decide +kernel)) (by decide +kernel)
theorem k_methodLink_rn_R_1_objectInit : Cond.methodLink rn_R 1 objectInit ∈ tG := tG_1 (List.mem_of_getElem? (i := 18) (by decide +kernel)) (by decide +kernel)
theorem k_instanceMethod_objectInit : Cond.instanceMethod objectInit ∈ tG := tG_1 (List.mem_of_getElem? (i := 19) (by decide +kernel)) (by decide +kernel)
theorem k_code_objectInit_object_method_1_code_1_none : Cond.code objectInit object_method_1_code 1 none ∈ tG := tG_1 (List.mem_of_getElem? (i := 20) (by decide +kernel)) (by decide +kernel)
theorem k_methodLink_rn_R_7_y_R_sideWithin : Cond.methodLink rn_R 7 y_R_sideWithin ∈ tG := tG_1 (List.mem_of_getElem? (i := 21) (by decide +kernel)) (by decide +kernel)
theorem k_static_y_R_sideWithin : Cond.static y_R_sideWithin ∈ tG := tG_1 (List.mem_of_getElem? (i := 22) (by decide +kernel)) (by decide +kernel)
theorem k_code_y_R_sideWithin_prog_1_method_15_code_1_some_int : Cond.code y_R_sideWithin prog_1_method_15_code 1 (some .int) ∈ tG := tG_1 (List.mem_of_getElem? (i := 23) (by decide +kernel)) (by decide +kernel)
theorem k_methodLink_rn_R_130_y_JM_min : Cond.methodLink rn_R 130 y_JM_min ∈ tG := tG_1 (List.mem_of_getElem? (i := 24) (by decide +kernel)) (by decide +kernel)
theorem k_static_y_JM_min : Cond.static y_JM_min ∈ tG := tG_1 (List.mem_of_getElem? (i := 25) (by decide +kernel)) (by decide +kernel)
theorem k_code_y_JM_min_prog_10_method_69_code_2_some_int : Cond.code y_JM_min prog_10_method_69_code 2 (some .int) ∈ tG := tG_1 (List.mem_of_getElem? (i := 26) (by decide +kernel)) (by decide +kernel)
theorem k_methodLink_rn_R_135_y_JM_max : Cond.methodLink rn_R 135 y_JM_max ∈ tG := tG_1 (List.mem_of_getElem? (i := 27) (by decide +kernel)) (by decide +kernel)
theorem k_static_y_JM_max : Cond.static y_JM_max ∈ tG := tG_1 (List.mem_of_getElem? (i := 28) (by decide +kernel)) (by decide +kernel)
theorem k_code_y_JM_max_prog_10_method_65_code_2_some_int : Cond.code y_JM_max prog_10_method_65_code 2 (some .int) ∈ tG := tG_1 (List.mem_of_getElem? (i := 29) (by decide +kernel)) (by decide +kernel)
theorem k_classLink_rn_R_13_rn_A : Cond.classLink rn_R 13 rn_A ∈ tG := tG_1 (List.mem_of_getElem? (i := 30) (by decide +kernel)) (by decide +kernel)
theorem k_instantiable_rn_A_2 : Cond.instantiable rn_A 2 ∈ tG := tG_1 (List.mem_of_getElem? (i := 31) (by decide +kernel)) (by decide +kernel)
theorem k_methodLink_rn_R_15_y_A_init : Cond.methodLink rn_R 15 y_A_init ∈ tG := tG_1 (List.mem_of_getElem? (i := 32) (by decide +kernel)) (by decide +kernel)
theorem k_instanceMethod_y_A_init : Cond.instanceMethod y_A_init ∈ tG := tG_1 (List.mem_of_getElem? (i := 33) (by decide +kernel)) (by decide +kernel)
theorem k_code_y_A_init_prog_3_method_1_code_6_none : Cond.code y_A_init prog_3_method_1_code 6 none ∈ tG := tG_1 (List.mem_of_getElem? (i := 34) (by decide +kernel)) (by decide +kernel)
theorem k_methodLink_rn_A_3_objectInit : Cond.methodLink rn_A 3 objectInit ∈ tG := tG_1 (List.mem_of_getElem? (i := 35) (by decide +kernel)) (by decide +kernel)
theorem k_fieldLink_rn_A_11_rn_A_beyond_I : Cond.fieldLink rn_A 11 rn_A "beyond" "[I" ∈ tG := tG_1 (List.mem_of_getElem? (i := 36) (by decide +kernel)) (by decide +kernel)
theorem k_fieldLink_rn_A_15_rn_A_pieces_I : Cond.fieldLink rn_A 15 rn_A "pieces" "[I" ∈ tG := tG_1 (List.mem_of_getElem? (i := 37) (by decide +kernel)) (by decide +kernel)
theorem k_fieldLink_rn_S_42_rn_A_pieces_I : Cond.fieldLink rn_S 42 rn_A "pieces" "[I" ∈ tG := tG_1 (List.mem_of_getElem? (i := 38) (by decide +kernel)) (by decide +kernel)
theorem k_fieldLink_rn_R_84_rn_A_pieces_I : Cond.fieldLink rn_R 84 rn_A "pieces" "[I" ∈ tG := tG_1 (List.mem_of_getElem? (i := 39) (by decide +kernel)) (by decide +kernel)
theorem k_laysFinal_rn_A_rn_A_beyond_I : Cond.laysFinal rn_A rn_A "beyond" "[I" ∈ tG := tG_1 (List.mem_of_getElem? (i := 40) (by decide +kernel)) (by decide +kernel)
theorem k_laysFinal_rn_A_rn_A_pieces_I : Cond.laysFinal rn_A rn_A "pieces" "[I" ∈ tG := tG_1 (List.mem_of_getElem? (i := 42) (by decide +kernel)) (by decide +kernel)
theorem k_arrayClass_int : Cond.arrayClass .int ∈ tG := tG_1 (List.mem_of_getElem? (i := 45) (by decide +kernel)) (by decide +kernel)
theorem k_classLink_rn_R_22_rn_S : Cond.classLink rn_R 22 rn_S ∈ tG := tG_1 (List.mem_of_getElem? (i := 46) (by decide +kernel)) (by decide +kernel)
theorem k_instantiable_rn_S_5 : Cond.instantiable rn_S 5 ∈ tG := tG_1 (List.mem_of_getElem? (i := 47) (by decide +kernel)) (by decide +kernel)
theorem k_methodLink_rn_R_24_y_S_init : Cond.methodLink rn_R 24 y_S_init ∈ tG := tG_1 (List.mem_of_getElem? (i := 48) (by decide +kernel)) (by decide +kernel)
theorem k_instanceMethod_y_S_init : Cond.instanceMethod y_S_init ∈ tG := tG_1 (List.mem_of_getElem? (i := 49) (by decide +kernel)) (by decide +kernel)
theorem k_code_y_S_init_prog_4_method_1_code_2_none : Cond.code y_S_init prog_4_method_1_code 2 none ∈ tG := tG_1 (List.mem_of_getElem? (i := 50) (by decide +kernel)) (by decide +kernel)
theorem k_methodLink_rn_S_3_objectInit : Cond.methodLink rn_S 3 objectInit ∈ tG := tG_1 (List.mem_of_getElem? (i := 51) (by decide +kernel)) (by decide +kernel)
theorem k_classLink_rn_S_17_rn_Q : Cond.classLink rn_S 17 rn_Q ∈ tG := tG_1 (List.mem_of_getElem? (i := 52) (by decide +kernel)) (by decide +kernel)
theorem k_instantiable_rn_Q_3 : Cond.instantiable rn_Q 3 ∈ tG := tG_1 (List.mem_of_getElem? (i := 53) (by decide +kernel)) (by decide +kernel)
theorem k_methodLink_rn_S_19_y_Q_init : Cond.methodLink rn_S 19 y_Q_init ∈ tG := tG_1 (List.mem_of_getElem? (i := 54) (by decide +kernel)) (by decide +kernel)
theorem k_instanceMethod_y_Q_init : Cond.instanceMethod y_Q_init ∈ tG := tG_1 (List.mem_of_getElem? (i := 55) (by decide +kernel)) (by decide +kernel)
theorem k_code_y_Q_init_prog_2_method_1_code_2_none : Cond.code y_Q_init prog_2_method_1_code 2 none ∈ tG := tG_1 (List.mem_of_getElem? (i := 56) (by decide +kernel)) (by decide +kernel)
theorem k_methodLink_rn_Q_3_objectInit : Cond.methodLink rn_Q 3 objectInit ∈ tG := tG_1 (List.mem_of_getElem? (i := 57) (by decide +kernel)) (by decide +kernel)
theorem k_methodLink_rn_Q_9_y_JM_max : Cond.methodLink rn_Q 9 y_JM_max ∈ tG := tG_1 (List.mem_of_getElem? (i := 58) (by decide +kernel)) (by decide +kernel)
theorem k_fieldLink_rn_Q_15_rn_Q_row_I : Cond.fieldLink rn_Q 15 rn_Q "row" "[I" ∈ tG := tG_1 (List.mem_of_getElem? (i := 59) (by decide +kernel)) (by decide +kernel)
theorem k_fieldLink_rn_Q_21_rn_Q_head_I : Cond.fieldLink rn_Q 21 rn_Q "head" "I" ∈ tG := tG_1 (List.mem_of_getElem? (i := 60) (by decide +kernel)) (by decide +kernel)
theorem k_fieldLink_rn_Q_25_rn_Q_tail_I : Cond.fieldLink rn_Q 25 rn_Q "tail" "I" ∈ tG := tG_1 (List.mem_of_getElem? (i := 61) (by decide +kernel)) (by decide +kernel)
theorem k_laysFinal_rn_Q_rn_Q_row_I : Cond.laysFinal rn_Q rn_Q "row" "[I" ∈ tG := tG_1 (List.mem_of_getElem? (i := 62) (by decide +kernel)) (by decide +kernel)
theorem k_lays_rn_Q_rn_Q_head_I : Cond.lays rn_Q rn_Q "head" "I" ∈ tG := tG_1 (List.mem_of_getElem? (i := 64) (by decide +kernel)) (by decide +kernel)
theorem k_lays_rn_Q_rn_Q_tail_I : Cond.lays rn_Q rn_Q "tail" "I" ∈ tG := tG_1 (List.mem_of_getElem? (i := 66) (by decide +kernel)) (by decide +kernel)
theorem k_fieldLink_rn_S_11_rn_S_found_I : Cond.fieldLink rn_S 11 rn_S "found" "[I" ∈ tG := tG_1 (List.mem_of_getElem? (i := 69) (by decide +kernel)) (by decide +kernel)
theorem k_fieldLink_rn_R_105_rn_S_found_I : Cond.fieldLink rn_R 105 rn_S "found" "[I" ∈ tG := tG_1 (List.mem_of_getElem? (i := 70) (by decide +kernel)) (by decide +kernel)
theorem k_fieldLink_rn_S_22_rn_S_straights_LRouteTracks_Queue : Cond.fieldLink rn_S 22 rn_S "straights" "LRouteTracks$Queue;" ∈ tG := tG_1 (List.mem_of_getElem? (i := 71) (by decide +kernel)) (by decide +kernel)
theorem k_fieldLink_rn_S_26_rn_S_curves_LRouteTracks_Queue : Cond.fieldLink rn_S 26 rn_S "curves" "LRouteTracks$Queue;" ∈ tG := tG_1 (List.mem_of_getElem? (i := 72) (by decide +kernel)) (by decide +kernel)
theorem k_fieldLink_rn_S_29_rn_S_held_I : Cond.fieldLink rn_S 29 rn_S "held" "I" ∈ tG := tG_1 (List.mem_of_getElem? (i := 73) (by decide +kernel)) (by decide +kernel)
theorem k_fieldLink_rn_S_33_rn_S_blocks_I : Cond.fieldLink rn_S 33 rn_S "blocks" "I" ∈ tG := tG_1 (List.mem_of_getElem? (i := 74) (by decide +kernel)) (by decide +kernel)
theorem k_fieldLink_rn_R_126_rn_S_blocks_I : Cond.fieldLink rn_R 126 rn_S "blocks" "I" ∈ tG := tG_1 (List.mem_of_getElem? (i := 75) (by decide +kernel)) (by decide +kernel)
theorem k_laysFinal_rn_S_rn_S_found_I : Cond.laysFinal rn_S rn_S "found" "[I" ∈ tG := tG_1 (List.mem_of_getElem? (i := 76) (by decide +kernel)) (by decide +kernel)
theorem k_laysFinal_rn_S_rn_S_straights_LRouteTracks_Queue : Cond.laysFinal rn_S rn_S "straights" "LRouteTracks$Queue;" ∈ tG := tG_1 (List.mem_of_getElem? (i := 78) (by decide +kernel)) (by decide +kernel)
theorem k_laysFinal_rn_S_rn_S_curves_LRouteTracks_Queue : Cond.laysFinal rn_S rn_S "curves" "LRouteTracks$Queue;" ∈ tG := tG_1 (List.mem_of_getElem? (i := 80) (by decide +kernel)) (by decide +kernel)
theorem k_lays_rn_S_rn_S_held_I : Cond.lays rn_S rn_S "held" "I" ∈ tG := tG_1 (List.mem_of_getElem? (i := 82) (by decide +kernel)) (by decide +kernel)
theorem k_lays_rn_S_rn_S_blocks_I : Cond.lays rn_S rn_S "blocks" "I" ∈ tG := tG_1 (List.mem_of_getElem? (i := 84) (by decide +kernel)) (by decide +kernel)
theorem k_fieldLink_rn_R_18_rn_R_rails_LRouteTracks_Rails : Cond.fieldLink rn_R 18 rn_R "rails" "LRouteTracks$Rails;" ∈ tG := tG_1 (List.mem_of_getElem? (i := 87) (by decide +kernel)) (by decide +kernel)
theorem k_fieldLink_rn_R_27_rn_R_search_LRouteTracks_Search : Cond.fieldLink rn_R 27 rn_R "search" "LRouteTracks$Search;" ∈ tG := tG_1 (List.mem_of_getElem? (i := 88) (by decide +kernel)) (by decide +kernel)
theorem k_laysFinal_rn_R_rn_R_rails_LRouteTracks_Rails : Cond.laysFinal rn_R rn_R "rails" "LRouteTracks$Rails;" ∈ tG := tG_1 (List.mem_of_getElem? (i := 89) (by decide +kernel)) (by decide +kernel)
theorem k_laysFinal_rn_R_rn_R_search_LRouteTracks_Search : Cond.laysFinal rn_R rn_R "search" "LRouteTracks$Search;" ∈ tG := tG_1 (List.mem_of_getElem? (i := 91) (by decide +kernel)) (by decide +kernel)
theorem k_methodLink_rn_L_58_y_R_at : Cond.methodLink rn_L 58 y_R_at ∈ tG := tG_1 (List.mem_of_getElem? (i := 94) (by decide +kernel)) (by decide +kernel)
theorem k_instanceMethod_y_R_at : Cond.instanceMethod y_R_at ∈ tG := tG_1 (List.mem_of_getElem? (i := 95) (by decide +kernel)) (by decide +kernel)
theorem k_selects_rn_R_y_R_at_y_R_at : Cond.selects rn_R y_R_at y_R_at ∈ tG := tG_1 (List.mem_of_getElem? (i := 96) (by decide +kernel)) (by decide +kernel)
theorem k_code_y_R_at_prog_1_method_6_code_3_some_int : Cond.code y_R_at prog_1_method_6_code 3 (some .int) ∈ tG := tG_1 (List.mem_of_getElem? (i := 97) (by decide +kernel)) (by decide +kernel)
theorem k_methodLink_rn_R_78_y_A_hasTile : Cond.methodLink rn_R 78 y_A_hasTile ∈ tG := tG_1 (List.mem_of_getElem? (i := 98) (by decide +kernel)) (by decide +kernel)
theorem k_instanceMethod_y_A_hasTile : Cond.instanceMethod y_A_hasTile ∈ tG := tG_1 (List.mem_of_getElem? (i := 99) (by decide +kernel)) (by decide +kernel)
theorem k_selects_rn_A_y_A_hasTile_y_A_hasTile : Cond.selects rn_A y_A_hasTile y_A_hasTile ∈ tG := tG_1 (List.mem_of_getElem? (i := 100) (by decide +kernel)) (by decide +kernel)
theorem k_code_y_A_hasTile_prog_3_method_2_code_2_some_boolean : Cond.code y_A_hasTile prog_3_method_2_code 2 (some .boolean) ∈ tG := tG_1 (List.mem_of_getElem? (i := 101) (by decide +kernel)) (by decide +kernel)
theorem k_methodLink_rn_R_81_y_A_kindsIn : Cond.methodLink rn_R 81 y_A_kindsIn ∈ tG := tG_1 (List.mem_of_getElem? (i := 102) (by decide +kernel)) (by decide +kernel)
theorem k_instanceMethod_y_A_kindsIn : Cond.instanceMethod y_A_kindsIn ∈ tG := tG_1 (List.mem_of_getElem? (i := 103) (by decide +kernel)) (by decide +kernel)
theorem k_selects_rn_A_y_A_kindsIn_y_A_kindsIn : Cond.selects rn_A y_A_kindsIn y_A_kindsIn ∈ tG := tG_1 (List.mem_of_getElem? (i := 104) (by decide +kernel)) (by decide +kernel)
theorem k_code_y_A_kindsIn_prog_3_method_8_code_4_some_int : Cond.code y_A_kindsIn prog_3_method_8_code 4 (some .int) ∈ tG := tG_1 (List.mem_of_getElem? (i := 105) (by decide +kernel)) (by decide +kernel)
theorem k_methodLink_rn_A_18_y_A_isThere : Cond.methodLink rn_A 18 y_A_isThere ∈ tG := tG_1 (List.mem_of_getElem? (i := 106) (by decide +kernel)) (by decide +kernel)
theorem k_instanceMethod_y_A_isThere : Cond.instanceMethod y_A_isThere ∈ tG := tG_1 (List.mem_of_getElem? (i := 107) (by decide +kernel)) (by decide +kernel)
theorem k_selects_rn_A_y_A_isThere_y_A_isThere : Cond.selects rn_A y_A_isThere y_A_isThere ∈ tG := tG_1 (List.mem_of_getElem? (i := 108) (by decide +kernel)) (by decide +kernel)
theorem k_code_y_A_isThere_prog_3_method_5_code_2_some_boolean : Cond.code y_A_isThere prog_3_method_5_code 2 (some .boolean) ∈ tG := tG_1 (List.mem_of_getElem? (i := 109) (by decide +kernel)) (by decide +kernel)
theorem k_methodLink_rn_L_63_y_R_next : Cond.methodLink rn_L 63 y_R_next ∈ tG := tG_1 (List.mem_of_getElem? (i := 110) (by decide +kernel)) (by decide +kernel)
theorem k_instanceMethod_y_R_next : Cond.instanceMethod y_R_next ∈ tG := tG_1 (List.mem_of_getElem? (i := 111) (by decide +kernel)) (by decide +kernel)
theorem k_selects_rn_R_y_R_next_y_R_next : Cond.selects rn_R y_R_next y_R_next ∈ tG := tG_1 (List.mem_of_getElem? (i := 112) (by decide +kernel)) (by decide +kernel)
theorem k_code_y_R_next_prog_1_method_7_code_6_some_int : Cond.code y_R_next prog_1_method_7_code 6 (some .int) ∈ tG := tG_1 (List.mem_of_getElem? (i := 113) (by decide +kernel)) (by decide +kernel)
theorem k_methodLink_rn_R_88_y_A_isOpen : Cond.methodLink rn_R 88 y_A_isOpen ∈ tG := tG_1 (List.mem_of_getElem? (i := 114) (by decide +kernel)) (by decide +kernel)
theorem k_instanceMethod_y_A_isOpen : Cond.instanceMethod y_A_isOpen ∈ tG := tG_1 (List.mem_of_getElem? (i := 115) (by decide +kernel)) (by decide +kernel)
theorem k_selects_rn_A_y_A_isOpen_y_A_isOpen : Cond.selects rn_A y_A_isOpen y_A_isOpen ∈ tG := tG_1 (List.mem_of_getElem? (i := 116) (by decide +kernel)) (by decide +kernel)
theorem k_code_y_A_isOpen_prog_3_method_11_code_2_some_boolean : Cond.code y_A_isOpen prog_3_method_11_code 2 (some .boolean) ∈ tG := tG_1 (List.mem_of_getElem? (i := 117) (by decide +kernel)) (by decide +kernel)
theorem k_methodLink_rn_A_26_y_A_hasSignal : Cond.methodLink rn_A 26 y_A_hasSignal ∈ tG := tG_1 (List.mem_of_getElem? (i := 118) (by decide +kernel)) (by decide +kernel)
theorem k_instanceMethod_y_A_hasSignal : Cond.instanceMethod y_A_hasSignal ∈ tG := tG_1 (List.mem_of_getElem? (i := 119) (by decide +kernel)) (by decide +kernel)
theorem k_selects_rn_A_y_A_hasSignal_y_A_hasSignal : Cond.selects rn_A y_A_hasSignal y_A_hasSignal ∈ tG := tG_1 (List.mem_of_getElem? (i := 120) (by decide +kernel)) (by decide +kernel)
theorem k_code_y_A_hasSignal_prog_3_method_10_code_3_some_boolean : Cond.code y_A_hasSignal prog_3_method_10_code 3 (some .boolean) ∈ tG := tG_1 (List.mem_of_getElem? (i := 121) (by decide +kernel)) (by decide +kernel)
theorem k_methodLink_rn_A_22_y_A_signalOf : Cond.methodLink rn_A 22 y_A_signalOf ∈ tG := tG_1 (List.mem_of_getElem? (i := 122) (by decide +kernel)) (by decide +kernel)
theorem k_instanceMethod_y_A_signalOf : Cond.instanceMethod y_A_signalOf ∈ tG := tG_1 (List.mem_of_getElem? (i := 123) (by decide +kernel)) (by decide +kernel)
theorem k_selects_rn_A_y_A_signalOf_y_A_signalOf : Cond.selects rn_A y_A_signalOf y_A_signalOf ∈ tG := tG_1 (List.mem_of_getElem? (i := 124) (by decide +kernel)) (by decide +kernel)
theorem k_code_y_A_signalOf_prog_3_method_6_code_2_some_int : Cond.code y_A_signalOf prog_3_method_6_code 2 (some .int) ∈ tG := tG_1 (List.mem_of_getElem? (i := 125) (by decide +kernel)) (by decide +kernel)
theorem k_methodLink_rn_R_91_y_A_ahead : Cond.methodLink rn_R 91 y_A_ahead ∈ tG := tG_1 (List.mem_of_getElem? (i := 126) (by decide +kernel)) (by decide +kernel)
theorem k_instanceMethod_y_A_ahead : Cond.instanceMethod y_A_ahead ∈ tG := tG_1 (List.mem_of_getElem? (i := 127) (by decide +kernel)) (by decide +kernel)
theorem k_selects_rn_A_y_A_ahead_y_A_ahead : Cond.selects rn_A y_A_ahead y_A_ahead ∈ tG := tG_1 (List.mem_of_getElem? (i := 128) (by decide +kernel)) (by decide +kernel)
theorem k_code_y_A_ahead_prog_3_method_14_code_5_some_int : Cond.code y_A_ahead prog_3_method_14_code 5 (some .int) ∈ tG := tG_1 (List.mem_of_getElem? (i := 129) (by decide +kernel)) (by decide +kernel)
theorem k_fieldLink_rn_A_32_rn_A_GOES_TO_I : Cond.fieldLink rn_A 32 rn_A "GOES_TO" "[I" ∈ tG := tG_1 (List.mem_of_getElem? (i := 130) (by decide +kernel)) (by decide +kernel)
theorem k_fieldLink_rn_A_35_rn_A_BEGIN_BEYOND_I : Cond.fieldLink rn_A 35 rn_A "BEGIN_BEYOND" "[I" ∈ tG := tG_1 (List.mem_of_getElem? (i := 132) (by decide +kernel)) (by decide +kernel)
theorem k_methodLink_rn_L_67_y_R_before : Cond.methodLink rn_L 67 y_R_before ∈ tG := tG_1 (List.mem_of_getElem? (i := 134) (by decide +kernel)) (by decide +kernel)
theorem k_instanceMethod_y_R_before : Cond.instanceMethod y_R_before ∈ tG := tG_1 (List.mem_of_getElem? (i := 135) (by decide +kernel)) (by decide +kernel)
theorem k_selects_rn_R_y_R_before_y_R_before : Cond.selects rn_R y_R_before y_R_before ∈ tG := tG_1 (List.mem_of_getElem? (i := 136) (by decide +kernel)) (by decide +kernel)
theorem k_code_y_R_before_prog_1_method_8_code_4_some_int : Cond.code y_R_before prog_1_method_8_code 4 (some .int) ∈ tG := tG_1 (List.mem_of_getElem? (i := 137) (by decide +kernel)) (by decide +kernel)
theorem k_methodLink_rn_R_95_y_A_behind : Cond.methodLink rn_R 95 y_A_behind ∈ tG := tG_1 (List.mem_of_getElem? (i := 138) (by decide +kernel)) (by decide +kernel)
theorem k_instanceMethod_y_A_behind : Cond.instanceMethod y_A_behind ∈ tG := tG_1 (List.mem_of_getElem? (i := 139) (by decide +kernel)) (by decide +kernel)
theorem k_selects_rn_A_y_A_behind_y_A_behind : Cond.selects rn_A y_A_behind y_A_behind ∈ tG := tG_1 (List.mem_of_getElem? (i := 140) (by decide +kernel)) (by decide +kernel)
theorem k_code_y_A_behind_prog_3_method_15_code_4_some_int : Cond.code y_A_behind prog_3_method_15_code 4 (some .int) ∈ tG := tG_1 (List.mem_of_getElem? (i := 141) (by decide +kernel)) (by decide +kernel)
theorem k_methodLink_rn_A_38_y_A_ahead : Cond.methodLink rn_A 38 y_A_ahead ∈ tG := tG_1 (List.mem_of_getElem? (i := 142) (by decide +kernel)) (by decide +kernel)
theorem k_methodLink_rn_L_72_y_R_block : Cond.methodLink rn_L 72 y_R_block ∈ tG := tG_1 (List.mem_of_getElem? (i := 143) (by decide +kernel)) (by decide +kernel)
theorem k_instanceMethod_y_R_block : Cond.instanceMethod y_R_block ∈ tG := tG_1 (List.mem_of_getElem? (i := 144) (by decide +kernel)) (by decide +kernel)
theorem k_selects_rn_R_y_R_block_y_R_block : Cond.selects rn_R y_R_block y_R_block ∈ tG := tG_1 (List.mem_of_getElem? (i := 145) (by decide +kernel)) (by decide +kernel)
theorem k_code_y_R_block_prog_1_method_9_code_3_some_int : Cond.code y_R_block prog_1_method_9_code 3 (some .int) ∈ tG := tG_1 (List.mem_of_getElem? (i := 146) (by decide +kernel)) (by decide +kernel)
theorem k_methodLink_rn_R_98_y_R_isKind : Cond.methodLink rn_R 98 y_R_isKind ∈ tG := tG_1 (List.mem_of_getElem? (i := 147) (by decide +kernel)) (by decide +kernel)
theorem k_static_y_R_isKind : Cond.static y_R_isKind ∈ tG := tG_1 (List.mem_of_getElem? (i := 148) (by decide +kernel)) (by decide +kernel)
theorem k_code_y_R_isKind_prog_1_method_16_code_1_some_boolean : Cond.code y_R_isKind prog_1_method_16_code 1 (some .boolean) ∈ tG := tG_1 (List.mem_of_getElem? (i := 149) (by decide +kernel)) (by decide +kernel)
theorem k_methodLink_rn_R_101_y_S_findBlocks : Cond.methodLink rn_R 101 y_S_findBlocks ∈ tG := tG_1 (List.mem_of_getElem? (i := 150) (by decide +kernel)) (by decide +kernel)
theorem k_instanceMethod_y_S_findBlocks : Cond.instanceMethod y_S_findBlocks ∈ tG := tG_1 (List.mem_of_getElem? (i := 151) (by decide +kernel)) (by decide +kernel)
theorem k_selects_rn_S_y_S_findBlocks_y_S_findBlocks : Cond.selects rn_S y_S_findBlocks y_S_findBlocks ∈ tG := tG_1 (List.mem_of_getElem? (i := 152) (by decide +kernel)) (by decide +kernel)
theorem k_code_y_S_findBlocks_prog_4_method_3_code_3_none : Cond.code y_S_findBlocks prog_4_method_3_code 3 none ∈ tG := tG_1 (List.mem_of_getElem? (i := 153) (by decide +kernel)) (by decide +kernel)
theorem k_methodLink_rn_S_36_y_JA_fill : Cond.methodLink rn_S 36 y_JA_fill ∈ tG := tG_1 (List.mem_of_getElem? (i := 154) (by decide +kernel)) (by decide +kernel)
theorem k_static_y_JA_fill : Cond.static y_JA_fill ∈ tG := tG_1 (List.mem_of_getElem? (i := 155) (by decide +kernel)) (by decide +kernel)
theorem k_code_y_JA_fill_prog_14_method_103_code_4_none : Cond.code y_JA_fill prog_14_method_103_code 4 none ∈ tG := tG_1 (List.mem_of_getElem? (i := 156) (by decide +kernel)) (by decide +kernel)
theorem k_methodLink_rn_S_45_y_A_isThere : Cond.methodLink rn_S 45 y_A_isThere ∈ tG := tG_1 (List.mem_of_getElem? (i := 157) (by decide +kernel)) (by decide +kernel)
theorem k_methodLink_rn_S_49_y_S_floodBlock : Cond.methodLink rn_S 49 y_S_floodBlock ∈ tG := tG_1 (List.mem_of_getElem? (i := 158) (by decide +kernel)) (by decide +kernel)
theorem k_instanceMethod_y_S_floodBlock : Cond.instanceMethod y_S_floodBlock ∈ tG := tG_1 (List.mem_of_getElem? (i := 160) (by decide +kernel)) (by decide +kernel)
theorem k_code_y_S_floodBlock_prog_4_method_4_code_5_none : Cond.code y_S_floodBlock prog_4_method_4_code 5 none ∈ tG := tG_1 (List.mem_of_getElem? (i := 161) (by decide +kernel)) (by decide +kernel)
theorem k_methodLink_rn_S_53_y_Q_clear : Cond.methodLink rn_S 53 y_Q_clear ∈ tG := tG_1 (List.mem_of_getElem? (i := 162) (by decide +kernel)) (by decide +kernel)
theorem k_instanceMethod_y_Q_clear : Cond.instanceMethod y_Q_clear ∈ tG := tG_1 (List.mem_of_getElem? (i := 163) (by decide +kernel)) (by decide +kernel)
theorem k_selects_rn_Q_y_Q_clear_y_Q_clear : Cond.selects rn_Q y_Q_clear y_Q_clear ∈ tG := tG_1 (List.mem_of_getElem? (i := 164) (by decide +kernel)) (by decide +kernel)
theorem k_code_y_Q_clear_prog_2_method_2_code_1_none : Cond.code y_Q_clear prog_2_method_2_code 1 none ∈ tG := tG_1 (List.mem_of_getElem? (i := 165) (by decide +kernel)) (by decide +kernel)
theorem k_methodLink_rn_S_56_y_S_join : Cond.methodLink rn_S 56 y_S_join ∈ tG := tG_1 (List.mem_of_getElem? (i := 166) (by decide +kernel)) (by decide +kernel)
theorem k_instanceMethod_y_S_join : Cond.instanceMethod y_S_join ∈ tG := tG_1 (List.mem_of_getElem? (i := 168) (by decide +kernel)) (by decide +kernel)
theorem k_code_y_S_join_prog_4_method_7_code_3_none : Cond.code y_S_join prog_4_method_7_code 3 none ∈ tG := tG_1 (List.mem_of_getElem? (i := 169) (by decide +kernel)) (by decide +kernel)
theorem k_methodLink_rn_S_85_y_Q_add : Cond.methodLink rn_S 85 y_Q_add ∈ tG := tG_1 (List.mem_of_getElem? (i := 170) (by decide +kernel)) (by decide +kernel)
theorem k_instanceMethod_y_Q_add : Cond.instanceMethod y_Q_add ∈ tG := tG_1 (List.mem_of_getElem? (i := 171) (by decide +kernel)) (by decide +kernel)
theorem k_selects_rn_Q_y_Q_add_y_Q_add : Cond.selects rn_Q y_Q_add y_Q_add ∈ tG := tG_1 (List.mem_of_getElem? (i := 172) (by decide +kernel)) (by decide +kernel)
theorem k_code_y_Q_add_prog_2_method_4_code_2_none : Cond.code y_Q_add prog_2_method_4_code 2 none ∈ tG := tG_1 (List.mem_of_getElem? (i := 173) (by decide +kernel)) (by decide +kernel)
theorem k_methodLink_rn_S_60_y_Q_isEmpty : Cond.methodLink rn_S 60 y_Q_isEmpty ∈ tG := tG_1 (List.mem_of_getElem? (i := 174) (by decide +kernel)) (by decide +kernel)
theorem k_instanceMethod_y_Q_isEmpty : Cond.instanceMethod y_Q_isEmpty ∈ tG := tG_1 (List.mem_of_getElem? (i := 175) (by decide +kernel)) (by decide +kernel)
theorem k_selects_rn_Q_y_Q_isEmpty_y_Q_isEmpty : Cond.selects rn_Q y_Q_isEmpty y_Q_isEmpty ∈ tG := tG_1 (List.mem_of_getElem? (i := 176) (by decide +kernel)) (by decide +kernel)
theorem k_code_y_Q_isEmpty_prog_2_method_3_code_1_some_boolean : Cond.code y_Q_isEmpty prog_2_method_3_code 1 (some .boolean) ∈ tG := tG_1 (List.mem_of_getElem? (i := 177) (by decide +kernel)) (by decide +kernel)
theorem k_methodLink_rn_S_64_y_Q_take : Cond.methodLink rn_S 64 y_Q_take ∈ tG := tG_1 (List.mem_of_getElem? (i := 178) (by decide +kernel)) (by decide +kernel)
theorem k_instanceMethod_y_Q_take : Cond.instanceMethod y_Q_take ∈ tG := tG_1 (List.mem_of_getElem? (i := 179) (by decide +kernel)) (by decide +kernel)
theorem k_selects_rn_Q_y_Q_take_y_Q_take : Cond.selects rn_Q y_Q_take y_Q_take ∈ tG := tG_1 (List.mem_of_getElem? (i := 180) (by decide +kernel)) (by decide +kernel)
theorem k_code_y_Q_take_prog_2_method_6_code_2_some_int : Cond.code y_Q_take prog_2_method_6_code 2 (some .int) ∈ tG := tG_1 (List.mem_of_getElem? (i := 181) (by decide +kernel)) (by decide +kernel)
theorem k_methodLink_rn_Q_28_y_Q_isEmpty : Cond.methodLink rn_Q 28 y_Q_isEmpty ∈ tG := tG_1 (List.mem_of_getElem? (i := 182) (by decide +kernel)) (by decide +kernel)
theorem k_methodLink_rn_S_68_y_S_joinMeeting : Cond.methodLink rn_S 68 y_S_joinMeeting ∈ tG := tG_1 (List.mem_of_getElem? (i := 183) (by decide +kernel)) (by decide +kernel)
theorem k_instanceMethod_y_S_joinMeeting : Cond.instanceMethod y_S_joinMeeting ∈ tG := tG_1 (List.mem_of_getElem? (i := 185) (by decide +kernel)) (by decide +kernel)
theorem k_code_y_S_joinMeeting_prog_4_method_5_code_7_none : Cond.code y_S_joinMeeting prog_4_method_5_code 7 none ∈ tG := tG_1 (List.mem_of_getElem? (i := 186) (by decide +kernel)) (by decide +kernel)
theorem k_fieldLink_rn_S_75_rn_S_APART_I : Cond.fieldLink rn_S 75 rn_S "APART" "[I" ∈ tG := tG_1 (List.mem_of_getElem? (i := 187) (by decide +kernel)) (by decide +kernel)
theorem k_methodLink_rn_S_72_y_S_joinAcross : Cond.methodLink rn_S 72 y_S_joinAcross ∈ tG := tG_1 (List.mem_of_getElem? (i := 189) (by decide +kernel)) (by decide +kernel)
theorem k_instanceMethod_y_S_joinAcross : Cond.instanceMethod y_S_joinAcross ∈ tG := tG_1 (List.mem_of_getElem? (i := 191) (by decide +kernel)) (by decide +kernel)
theorem k_code_y_S_joinAcross_prog_4_method_6_code_6_none : Cond.code y_S_joinAcross prog_4_method_6_code 6 none ∈ tG := tG_1 (List.mem_of_getElem? (i := 192) (by decide +kernel)) (by decide +kernel)
theorem k_methodLink_rn_S_78_y_A_hasSignal : Cond.methodLink rn_S 78 y_A_hasSignal ∈ tG := tG_1 (List.mem_of_getElem? (i := 193) (by decide +kernel)) (by decide +kernel)
theorem k_methodLink_rn_S_81_y_A_ahead : Cond.methodLink rn_S 81 y_A_ahead ∈ tG := tG_1 (List.mem_of_getElem? (i := 194) (by decide +kernel)) (by decide +kernel)
theorem k_methodLink_rn_L_76_y_R_sign : Cond.methodLink rn_L 76 y_R_sign ∈ tG := tG_1 (List.mem_of_getElem? (i := 195) (by decide +kernel)) (by decide +kernel)
theorem k_instanceMethod_y_R_sign : Cond.instanceMethod y_R_sign ∈ tG := tG_1 (List.mem_of_getElem? (i := 196) (by decide +kernel)) (by decide +kernel)
theorem k_selects_rn_R_y_R_sign_y_R_sign : Cond.selects rn_R y_R_sign y_R_sign ∈ tG := tG_1 (List.mem_of_getElem? (i := 197) (by decide +kernel)) (by decide +kernel)
theorem k_code_y_R_sign_prog_1_method_10_code_3_some_int : Cond.code y_R_sign prog_1_method_10_code 3 (some .int) ∈ tG := tG_1 (List.mem_of_getElem? (i := 198) (by decide +kernel)) (by decide +kernel)
theorem k_methodLink_rn_R_65_y_R_isStation : Cond.methodLink rn_R 65 y_R_isStation ∈ tG := tG_1 (List.mem_of_getElem? (i := 199) (by decide +kernel)) (by decide +kernel)
theorem k_static_y_R_isStation : Cond.static y_R_isStation ∈ tG := tG_1 (List.mem_of_getElem? (i := 200) (by decide +kernel)) (by decide +kernel)
theorem k_code_y_R_isStation_prog_1_method_17_code_1_some_boolean : Cond.code y_R_isStation prog_1_method_17_code 1 (some .boolean) ∈ tG := tG_1 (List.mem_of_getElem? (i := 201) (by decide +kernel)) (by decide +kernel)
theorem k_methodLink_rn_R_62_y_A_stationOf : Cond.methodLink rn_R 62 y_A_stationOf ∈ tG := tG_1 (List.mem_of_getElem? (i := 202) (by decide +kernel)) (by decide +kernel)
theorem k_instanceMethod_y_A_stationOf : Cond.instanceMethod y_A_stationOf ∈ tG := tG_1 (List.mem_of_getElem? (i := 203) (by decide +kernel)) (by decide +kernel)
theorem k_selects_rn_A_y_A_stationOf_y_A_stationOf : Cond.selects rn_A y_A_stationOf y_A_stationOf ∈ tG := tG_1 (List.mem_of_getElem? (i := 204) (by decide +kernel)) (by decide +kernel)
theorem k_code_y_A_stationOf_prog_3_method_7_code_2_some_int : Cond.code y_A_stationOf prog_3_method_7_code 2 (some .int) ∈ tG := tG_1 (List.mem_of_getElem? (i := 205) (by decide +kernel)) (by decide +kernel)
theorem k_methodLink_rn_L_80_y_R_isTarget : Cond.methodLink rn_L 80 y_R_isTarget ∈ tG := tG_1 (List.mem_of_getElem? (i := 206) (by decide +kernel)) (by decide +kernel)
theorem k_instanceMethod_y_R_isTarget : Cond.instanceMethod y_R_isTarget ∈ tG := tG_1 (List.mem_of_getElem? (i := 207) (by decide +kernel)) (by decide +kernel)
theorem k_selects_rn_R_y_R_isTarget_y_R_isTarget : Cond.selects rn_R y_R_isTarget y_R_isTarget ∈ tG := tG_1 (List.mem_of_getElem? (i := 208) (by decide +kernel)) (by decide +kernel)
theorem k_code_y_R_isTarget_prog_1_method_11_code_3_some_boolean : Cond.code y_R_isTarget prog_1_method_11_code 3 (some .boolean) ∈ tG := tG_1 (List.mem_of_getElem? (i := 209) (by decide +kernel)) (by decide +kernel)
theorem k_methodLink_rn_R_108_y_A_isLastOf : Cond.methodLink rn_R 108 y_A_isLastOf ∈ tG := tG_1 (List.mem_of_getElem? (i := 210) (by decide +kernel)) (by decide +kernel)
theorem k_instanceMethod_y_A_isLastOf : Cond.instanceMethod y_A_isLastOf ∈ tG := tG_1 (List.mem_of_getElem? (i := 211) (by decide +kernel)) (by decide +kernel)
theorem k_selects_rn_A_y_A_isLastOf_y_A_isLastOf : Cond.selects rn_A y_A_isLastOf y_A_isLastOf ∈ tG := tG_1 (List.mem_of_getElem? (i := 212) (by decide +kernel)) (by decide +kernel)
theorem k_code_y_A_isLastOf_prog_3_method_16_code_5_some_boolean : Cond.code y_A_isLastOf prog_3_method_16_code 5 (some .boolean) ∈ tG := tG_1 (List.mem_of_getElem? (i := 213) (by decide +kernel)) (by decide +kernel)
theorem k_methodLink_rn_A_42_y_A_stationOf : Cond.methodLink rn_A 42 y_A_stationOf ∈ tG := tG_1 (List.mem_of_getElem? (i := 214) (by decide +kernel)) (by decide +kernel)
theorem k_methodLink_rn_A_45_y_A_isOpen : Cond.methodLink rn_A 45 y_A_isOpen ∈ tG := tG_1 (List.mem_of_getElem? (i := 215) (by decide +kernel)) (by decide +kernel)
theorem k_methodLink_rn_L_85_y_R_cost : Cond.methodLink rn_L 85 y_R_cost ∈ tG := tG_1 (List.mem_of_getElem? (i := 216) (by decide +kernel)) (by decide +kernel)
theorem k_instanceMethod_y_R_cost : Cond.instanceMethod y_R_cost ∈ tG := tG_1 (List.mem_of_getElem? (i := 217) (by decide +kernel)) (by decide +kernel)
theorem k_selects_rn_R_y_R_cost_y_R_cost : Cond.selects rn_R y_R_cost y_R_cost ∈ tG := tG_1 (List.mem_of_getElem? (i := 218) (by decide +kernel)) (by decide +kernel)
theorem k_code_y_R_cost_prog_1_method_12_code_3_some_int : Cond.code y_R_cost prog_1_method_12_code 3 (some .int) ∈ tG := tG_1 (List.mem_of_getElem? (i := 219) (by decide +kernel)) (by decide +kernel)
theorem k_methodLink_rn_R_112_y_S_findCosts : Cond.methodLink rn_R 112 y_S_findCosts ∈ tG := tG_1 (List.mem_of_getElem? (i := 220) (by decide +kernel)) (by decide +kernel)
theorem k_instanceMethod_y_S_findCosts : Cond.instanceMethod y_S_findCosts ∈ tG := tG_1 (List.mem_of_getElem? (i := 221) (by decide +kernel)) (by decide +kernel)
theorem k_selects_rn_S_y_S_findCosts_y_S_findCosts : Cond.selects rn_S y_S_findCosts y_S_findCosts ∈ tG := tG_1 (List.mem_of_getElem? (i := 222) (by decide +kernel)) (by decide +kernel)
theorem k_code_y_S_findCosts_prog_4_method_8_code_5_none : Cond.code y_S_findCosts prog_4_method_8_code 5 none ∈ tG := tG_1 (List.mem_of_getElem? (i := 223) (by decide +kernel)) (by decide +kernel)
theorem k_methodLink_rn_S_88_y_S_settleTargets : Cond.methodLink rn_S 88 y_S_settleTargets ∈ tG := tG_1 (List.mem_of_getElem? (i := 224) (by decide +kernel)) (by decide +kernel)
theorem k_instanceMethod_y_S_settleTargets : Cond.instanceMethod y_S_settleTargets ∈ tG := tG_1 (List.mem_of_getElem? (i := 226) (by decide +kernel)) (by decide +kernel)
theorem k_code_y_S_settleTargets_prog_4_method_9_code_5_none : Cond.code y_S_settleTargets prog_4_method_9_code 5 none ∈ tG := tG_1 (List.mem_of_getElem? (i := 227) (by decide +kernel)) (by decide +kernel)
theorem k_methodLink_rn_S_97_y_A_stationOf : Cond.methodLink rn_S 97 y_A_stationOf ∈ tG := tG_1 (List.mem_of_getElem? (i := 228) (by decide +kernel)) (by decide +kernel)
theorem k_methodLink_rn_S_101_y_A_isOpen : Cond.methodLink rn_S 101 y_A_isOpen ∈ tG := tG_1 (List.mem_of_getElem? (i := 229) (by decide +kernel)) (by decide +kernel)
theorem k_methodLink_rn_S_104_y_A_isLastOf : Cond.methodLink rn_S 104 y_A_isLastOf ∈ tG := tG_1 (List.mem_of_getElem? (i := 230) (by decide +kernel)) (by decide +kernel)
theorem k_methodLink_rn_S_108_y_S_settle : Cond.methodLink rn_S 108 y_S_settle ∈ tG := tG_1 (List.mem_of_getElem? (i := 231) (by decide +kernel)) (by decide +kernel)
theorem k_instanceMethod_y_S_settle : Cond.instanceMethod y_S_settle ∈ tG := tG_1 (List.mem_of_getElem? (i := 233) (by decide +kernel)) (by decide +kernel)
theorem k_code_y_S_settle_prog_4_method_11_code_4_none : Cond.code y_S_settle prog_4_method_11_code 4 none ∈ tG := tG_1 (List.mem_of_getElem? (i := 234) (by decide +kernel)) (by decide +kernel)
theorem k_methodLink_rn_S_117_y_A_isStraight : Cond.methodLink rn_S 117 y_A_isStraight ∈ tG := tG_1 (List.mem_of_getElem? (i := 235) (by decide +kernel)) (by decide +kernel)
theorem k_instanceMethod_y_A_isStraight : Cond.instanceMethod y_A_isStraight ∈ tG := tG_1 (List.mem_of_getElem? (i := 236) (by decide +kernel)) (by decide +kernel)
theorem k_selects_rn_A_y_A_isStraight_y_A_isStraight : Cond.selects rn_A y_A_isStraight y_A_isStraight ∈ tG := tG_1 (List.mem_of_getElem? (i := 237) (by decide +kernel)) (by decide +kernel)
theorem k_code_y_A_isStraight_prog_3_method_12_code_2_some_boolean : Cond.code y_A_isStraight prog_3_method_12_code 2 (some .boolean) ∈ tG := tG_1 (List.mem_of_getElem? (i := 238) (by decide +kernel)) (by decide +kernel)
theorem k_methodLink_rn_S_91_y_S_takeNearest : Cond.methodLink rn_S 91 y_S_takeNearest ∈ tG := tG_1 (List.mem_of_getElem? (i := 239) (by decide +kernel)) (by decide +kernel)
theorem k_instanceMethod_y_S_takeNearest : Cond.instanceMethod y_S_takeNearest ∈ tG := tG_2 (List.mem_of_getElem? (i := 1) (by decide +kernel)) (by decide +kernel)
theorem k_code_y_S_takeNearest_prog_4_method_12_code_5_some_int : Cond.code y_S_takeNearest prog_4_method_12_code 5 (some .int) ∈ tG := tG_2 (List.mem_of_getElem? (i := 2) (by decide +kernel)) (by decide +kernel)
theorem k_methodLink_rn_S_120_y_Q_first : Cond.methodLink rn_S 120 y_Q_first ∈ tG := tG_2 (List.mem_of_getElem? (i := 3) (by decide +kernel)) (by decide +kernel)
theorem k_instanceMethod_y_Q_first : Cond.instanceMethod y_Q_first ∈ tG := tG_2 (List.mem_of_getElem? (i := 4) (by decide +kernel)) (by decide +kernel)
theorem k_selects_rn_Q_y_Q_first_y_Q_first : Cond.selects rn_Q y_Q_first y_Q_first ∈ tG := tG_2 (List.mem_of_getElem? (i := 5) (by decide +kernel)) (by decide +kernel)
theorem k_code_y_Q_first_prog_2_method_5_code_1_some_int : Cond.code y_Q_first prog_2_method_5_code 1 (some .int) ∈ tG := tG_2 (List.mem_of_getElem? (i := 6) (by decide +kernel)) (by decide +kernel)
theorem k_methodLink_rn_S_94_y_S_settleBehind : Cond.methodLink rn_S 94 y_S_settleBehind ∈ tG := tG_2 (List.mem_of_getElem? (i := 7) (by decide +kernel)) (by decide +kernel)
theorem k_instanceMethod_y_S_settleBehind : Cond.instanceMethod y_S_settleBehind ∈ tG := tG_2 (List.mem_of_getElem? (i := 9) (by decide +kernel)) (by decide +kernel)
theorem k_code_y_S_settleBehind_prog_4_method_10_code_6_none : Cond.code y_S_settleBehind prog_4_method_10_code 6 none ∈ tG := tG_2 (List.mem_of_getElem? (i := 10) (by decide +kernel)) (by decide +kernel)
theorem k_methodLink_rn_S_111_y_A_lengthOf : Cond.methodLink rn_S 111 y_A_lengthOf ∈ tG := tG_2 (List.mem_of_getElem? (i := 11) (by decide +kernel)) (by decide +kernel)
theorem k_instanceMethod_y_A_lengthOf : Cond.instanceMethod y_A_lengthOf ∈ tG := tG_2 (List.mem_of_getElem? (i := 12) (by decide +kernel)) (by decide +kernel)
theorem k_selects_rn_A_y_A_lengthOf_y_A_lengthOf : Cond.selects rn_A y_A_lengthOf y_A_lengthOf ∈ tG := tG_2 (List.mem_of_getElem? (i := 13) (by decide +kernel)) (by decide +kernel)
theorem k_code_y_A_lengthOf_prog_3_method_13_code_2_some_int : Cond.code y_A_lengthOf prog_3_method_13_code 2 (some .int) ∈ tG := tG_2 (List.mem_of_getElem? (i := 14) (by decide +kernel)) (by decide +kernel)
theorem k_methodLink_rn_A_29_y_A_isStraight : Cond.methodLink rn_A 29 y_A_isStraight ∈ tG := tG_2 (List.mem_of_getElem? (i := 15) (by decide +kernel)) (by decide +kernel)
theorem k_methodLink_rn_S_114_y_A_behind : Cond.methodLink rn_S 114 y_A_behind ∈ tG := tG_2 (List.mem_of_getElem? (i := 16) (by decide +kernel)) (by decide +kernel)
theorem k_methodLink_rn_L_89_y_R_route : Cond.methodLink rn_L 89 y_R_route ∈ tG := tG_2 (List.mem_of_getElem? (i := 17) (by decide +kernel)) (by decide +kernel)
theorem k_instanceMethod_y_R_route : Cond.instanceMethod y_R_route ∈ tG := tG_2 (List.mem_of_getElem? (i := 18) (by decide +kernel)) (by decide +kernel)
theorem k_selects_rn_R_y_R_route_y_R_route : Cond.selects rn_R y_R_route y_R_route ∈ tG := tG_2 (List.mem_of_getElem? (i := 19) (by decide +kernel)) (by decide +kernel)
theorem k_code_y_R_route_prog_1_method_13_code_6_some_int : Cond.code y_R_route prog_1_method_13_code 6 (some .int) ∈ tG := tG_2 (List.mem_of_getElem? (i := 20) (by decide +kernel)) (by decide +kernel)
theorem k_methodLink_rn_R_116_y_S_cheapestAhead : Cond.methodLink rn_R 116 y_S_cheapestAhead ∈ tG := tG_2 (List.mem_of_getElem? (i := 21) (by decide +kernel)) (by decide +kernel)
theorem k_instanceMethod_y_S_cheapestAhead : Cond.instanceMethod y_S_cheapestAhead ∈ tG := tG_2 (List.mem_of_getElem? (i := 22) (by decide +kernel)) (by decide +kernel)
theorem k_selects_rn_S_y_S_cheapestAhead_y_S_cheapestAhead : Cond.selects rn_S y_S_cheapestAhead y_S_cheapestAhead ∈ tG := tG_2 (List.mem_of_getElem? (i := 23) (by decide +kernel)) (by decide +kernel)
theorem k_code_y_S_cheapestAhead_prog_4_method_13_code_8_some_int : Cond.code y_S_cheapestAhead prog_4_method_13_code 8 (some .int) ∈ tG := tG_2 (List.mem_of_getElem? (i := 24) (by decide +kernel)) (by decide +kernel)
theorem k_methodLink_rn_R_120_y_A_hasSignal : Cond.methodLink rn_R 120 y_A_hasSignal ∈ tG := tG_2 (List.mem_of_getElem? (i := 25) (by decide +kernel)) (by decide +kernel)
theorem k_methodLink_rn_L_94_y_R_count : Cond.methodLink rn_L 94 y_R_count ∈ tG := tG_2 (List.mem_of_getElem? (i := 26) (by decide +kernel)) (by decide +kernel)
theorem k_instanceMethod_y_R_count : Cond.instanceMethod y_R_count ∈ tG := tG_2 (List.mem_of_getElem? (i := 27) (by decide +kernel)) (by decide +kernel)
theorem k_selects_rn_R_y_R_count_y_R_count : Cond.selects rn_R y_R_count y_R_count ∈ tG := tG_2 (List.mem_of_getElem? (i := 28) (by decide +kernel)) (by decide +kernel)
theorem k_code_y_R_count_prog_1_method_14_code_2_some_int : Cond.code y_R_count prog_1_method_14_code 2 (some .int) ∈ tG := tG_2 (List.mem_of_getElem? (i := 29) (by decide +kernel)) (by decide +kernel)
theorem k_methodLink_rn_R_123_y_A_piecesWith : Cond.methodLink rn_R 123 y_A_piecesWith ∈ tG := tG_2 (List.mem_of_getElem? (i := 30) (by decide +kernel)) (by decide +kernel)
theorem k_instanceMethod_y_A_piecesWith : Cond.instanceMethod y_A_piecesWith ∈ tG := tG_2 (List.mem_of_getElem? (i := 31) (by decide +kernel)) (by decide +kernel)
theorem k_selects_rn_A_y_A_piecesWith_y_A_piecesWith : Cond.selects rn_A y_A_piecesWith y_A_piecesWith ∈ tG := tG_2 (List.mem_of_getElem? (i := 32) (by decide +kernel)) (by decide +kernel)
theorem k_code_y_A_piecesWith_prog_3_method_9_code_4_some_int : Cond.code y_A_piecesWith prog_3_method_9_code 4 (some .int) ∈ tG := tG_2 (List.mem_of_getElem? (i := 33) (by decide +kernel)) (by decide +kernel)
theorem k_methodLink_rn_L_28_y_L_cell : Cond.methodLink rn_L 28 y_L_cell ∈ tG := tG_2 (List.mem_of_getElem? (i := 34) (by decide +kernel)) (by decide +kernel)
theorem k_static_y_L_cell : Cond.static y_L_cell ∈ tG := tG_2 (List.mem_of_getElem? (i := 35) (by decide +kernel)) (by decide +kernel)
theorem k_code_y_L_cell_method_2_code_2_some_int : Cond.code y_L_cell method_2_code 2 (some .int) ∈ tG := tG_2 (List.mem_of_getElem? (i := 36) (by decide +kernel)) (by decide +kernel)
theorem k_methodLink_rn_L_39_y_L_lay : Cond.methodLink rn_L 39 y_L_lay ∈ tG := tG_2 (List.mem_of_getElem? (i := 37) (by decide +kernel)) (by decide +kernel)
theorem k_static_y_L_lay : Cond.static y_L_lay ∈ tG := tG_2 (List.mem_of_getElem? (i := 38) (by decide +kernel)) (by decide +kernel)
theorem k_codeWith_y_L_lay_method_3_code_4_some_int_0_6_9_13_0_6_12_15 : Cond.codeWith y_L_lay method_3_code 4 (some .int) [(0, 6, 9, 13), (0, 6, 12, 15)] ∈ tG := tG_2 (List.mem_of_getElem? (i := 39) (by decide +kernel)) (by decide +kernel)
theorem k_classLink_rn_L_13_java_lang_IndexOutOfBoundsException : Cond.classLink rn_L 13 "java/lang/IndexOutOfBoundsException" ∈ tG := tG_2 (List.mem_of_getElem? (i := 40) (by decide +kernel)) (by decide +kernel)
theorem k_classLink_rn_L_15_java_lang_IllegalArgumentException : Cond.classLink rn_L 15 "java/lang/IllegalArgumentException" ∈ tG := tG_2 (List.mem_of_getElem? (i := 41) (by decide +kernel)) (by decide +kernel)
theorem k_methodLink_rn_L_7_y_R_lay : Cond.methodLink rn_L 7 y_R_lay ∈ tG := tG_2 (List.mem_of_getElem? (i := 42) (by decide +kernel)) (by decide +kernel)
theorem k_instanceMethod_y_R_lay : Cond.instanceMethod y_R_lay ∈ tG := tG_2 (List.mem_of_getElem? (i := 43) (by decide +kernel)) (by decide +kernel)
theorem k_selects_rn_R_y_R_lay_y_R_lay : Cond.selects rn_R y_R_lay y_R_lay ∈ tG := tG_2 (List.mem_of_getElem? (i := 44) (by decide +kernel)) (by decide +kernel)
theorem k_code_y_R_lay_prog_1_method_2_code_4_none : Cond.code y_R_lay prog_1_method_2_code 4 none ∈ tG := tG_2 (List.mem_of_getElem? (i := 45) (by decide +kernel)) (by decide +kernel)
theorem k_methodLink_rn_R_31_y_R_requirePlace : Cond.methodLink rn_R 31 y_R_requirePlace ∈ tG := tG_2 (List.mem_of_getElem? (i := 46) (by decide +kernel)) (by decide +kernel)
theorem k_instanceMethod_y_R_requirePlace : Cond.instanceMethod y_R_requirePlace ∈ tG := tG_2 (List.mem_of_getElem? (i := 48) (by decide +kernel)) (by decide +kernel)
theorem k_code_y_R_requirePlace_prog_1_method_18_code_3_none : Cond.code y_R_requirePlace prog_1_method_18_code 3 none ∈ tG := tG_2 (List.mem_of_getElem? (i := 49) (by decide +kernel)) (by decide +kernel)
theorem k_classLink_rn_R_68_java_lang_IndexOutOfBoundsException : Cond.classLink rn_R 68 "java/lang/IndexOutOfBoundsException" ∈ tG := tG_2 (List.mem_of_getElem? (i := 50) (by decide +kernel)) (by decide +kernel)
theorem k_instantiable_java_lang_IndexOutOfBoundsException_6 : Cond.instantiable "java/lang/IndexOutOfBoundsException" 6 ∈ tG := tG_2 (List.mem_of_getElem? (i := 51) (by decide +kernel)) (by decide +kernel)
theorem k_methodLink_rn_R_72_java_lang_IndexOutOfBoundsException_init_Ljava_lang_String_V : Cond.methodLink rn_R 72 ⟨"java/lang/IndexOutOfBoundsException", "<init>", "(Ljava/lang/String;)V"⟩ ∈ tG := tG_2 (List.mem_of_getElem? (i := 91) (by decide +kernel)) (by decide +kernel)
theorem k_instanceMethod_java_lang_IndexOutOfBoundsException_init_Ljava_lang_String_V : Cond.instanceMethod ⟨"java/lang/IndexOutOfBoundsException", "<init>", "(Ljava/lang/String;)V"⟩ ∈ tG := tG_2 (List.mem_of_getElem? (i := 92) (by decide +kernel)) (by decide +kernel)
theorem k_code_java_lang_IndexOutOfBoundsException_init_Ljava_lang_String_V_prog_9_method_2_code_2_none : Cond.code ⟨"java/lang/IndexOutOfBoundsException", "<init>", "(Ljava/lang/String;)V"⟩ prog_9_method_2_code 2 none ∈ tG := tG_2 (List.mem_of_getElem? (i := 93) (by decide +kernel)) (by decide +kernel)
theorem k_arrayClass_byte : Cond.arrayClass .byte ∈ tG := tG_2 (List.mem_of_getElem? (i := 116) (by decide +kernel)) (by decide +kernel)
theorem k_methodLink_rn_R_34_y_A_isThere : Cond.methodLink rn_R 34 y_A_isThere ∈ tG := tG_2 (List.mem_of_getElem? (i := 118) (by decide +kernel)) (by decide +kernel)
theorem k_classLink_rn_R_38_java_lang_IllegalArgumentException : Cond.classLink rn_R 38 "java/lang/IllegalArgumentException" ∈ tG := tG_2 (List.mem_of_getElem? (i := 119) (by decide +kernel)) (by decide +kernel)
theorem k_instantiable_java_lang_IllegalArgumentException_6 : Cond.instantiable "java/lang/IllegalArgumentException" 6 ∈ tG := tG_2 (List.mem_of_getElem? (i := 120) (by decide +kernel)) (by decide +kernel)
theorem k_methodLink_rn_R_42_java_lang_IllegalArgumentException_init_Ljava_lang_String_V : Cond.methodLink rn_R 42 ⟨"java/lang/IllegalArgumentException", "<init>", "(Ljava/lang/String;)V"⟩ ∈ tG := tG_2 (List.mem_of_getElem? (i := 129) (by decide +kernel)) (by decide +kernel)
theorem k_instanceMethod_java_lang_IllegalArgumentException_init_Ljava_lang_String_V : Cond.instanceMethod ⟨"java/lang/IllegalArgumentException", "<init>", "(Ljava/lang/String;)V"⟩ ∈ tG := tG_2 (List.mem_of_getElem? (i := 130) (by decide +kernel)) (by decide +kernel)
theorem k_code_java_lang_IllegalArgumentException_init_Ljava_lang_String_V_prog_8_method_2_code_2_none : Cond.code ⟨"java/lang/IllegalArgumentException", "<init>", "(Ljava/lang/String;)V"⟩ prog_8_method_2_code 2 none ∈ tG := tG_2 (List.mem_of_getElem? (i := 131) (by decide +kernel)) (by decide +kernel)
theorem k_methodLink_rn_R_45_y_A_put : Cond.methodLink rn_R 45 y_A_put ∈ tG := tG_2 (List.mem_of_getElem? (i := 135) (by decide +kernel)) (by decide +kernel)
theorem k_instanceMethod_y_A_put : Cond.instanceMethod y_A_put ∈ tG := tG_2 (List.mem_of_getElem? (i := 136) (by decide +kernel)) (by decide +kernel)
theorem k_selects_rn_A_y_A_put_y_A_put : Cond.selects rn_A y_A_put y_A_put ∈ tG := tG_2 (List.mem_of_getElem? (i := 137) (by decide +kernel)) (by decide +kernel)
theorem k_code_y_A_put_prog_3_method_3_code_4_none : Cond.code y_A_put prog_3_method_3_code 4 none ∈ tG := tG_2 (List.mem_of_getElem? (i := 138) (by decide +kernel)) (by decide +kernel)
theorem k_methodLink_rn_R_49_y_S_forget : Cond.methodLink rn_R 49 y_S_forget ∈ tG := tG_2 (List.mem_of_getElem? (i := 139) (by decide +kernel)) (by decide +kernel)
theorem k_instanceMethod_y_S_forget : Cond.instanceMethod y_S_forget ∈ tG := tG_2 (List.mem_of_getElem? (i := 140) (by decide +kernel)) (by decide +kernel)
theorem k_selects_rn_S_y_S_forget_y_S_forget : Cond.selects rn_S y_S_forget y_S_forget ∈ tG := tG_2 (List.mem_of_getElem? (i := 141) (by decide +kernel)) (by decide +kernel)
theorem k_code_y_S_forget_prog_4_method_2_code_1_none : Cond.code y_S_forget prog_4_method_2_code 1 none ∈ tG := tG_2 (List.mem_of_getElem? (i := 142) (by decide +kernel)) (by decide +kernel)
theorem k_methodLink_rn_L_47_y_L_lift : Cond.methodLink rn_L 47 y_L_lift ∈ tG := tG_2 (List.mem_of_getElem? (i := 143) (by decide +kernel)) (by decide +kernel)
theorem k_static_y_L_lift : Cond.static y_L_lift ∈ tG := tG_2 (List.mem_of_getElem? (i := 144) (by decide +kernel)) (by decide +kernel)
theorem k_codeWith_y_L_lift_method_4_code_4_some_int_0_6_9_13_0_6_12_15 : Cond.codeWith y_L_lift method_4_code 4 (some .int) [(0, 6, 9, 13), (0, 6, 12, 15)] ∈ tG := tG_2 (List.mem_of_getElem? (i := 145) (by decide +kernel)) (by decide +kernel)
theorem k_methodLink_rn_L_17_y_R_lift : Cond.methodLink rn_L 17 y_R_lift ∈ tG := tG_2 (List.mem_of_getElem? (i := 146) (by decide +kernel)) (by decide +kernel)
theorem k_instanceMethod_y_R_lift : Cond.instanceMethod y_R_lift ∈ tG := tG_2 (List.mem_of_getElem? (i := 147) (by decide +kernel)) (by decide +kernel)
theorem k_selects_rn_R_y_R_lift_y_R_lift : Cond.selects rn_R y_R_lift y_R_lift ∈ tG := tG_2 (List.mem_of_getElem? (i := 148) (by decide +kernel)) (by decide +kernel)
theorem k_code_y_R_lift_prog_1_method_3_code_4_none : Cond.code y_R_lift prog_1_method_3_code 4 none ∈ tG := tG_2 (List.mem_of_getElem? (i := 149) (by decide +kernel)) (by decide +kernel)
theorem k_methodLink_rn_R_52_y_R_requireThere : Cond.methodLink rn_R 52 y_R_requireThere ∈ tG := tG_2 (List.mem_of_getElem? (i := 150) (by decide +kernel)) (by decide +kernel)
theorem k_instanceMethod_y_R_requireThere : Cond.instanceMethod y_R_requireThere ∈ tG := tG_2 (List.mem_of_getElem? (i := 152) (by decide +kernel)) (by decide +kernel)
theorem k_code_y_R_requireThere_prog_1_method_19_code_2_none : Cond.code y_R_requireThere prog_1_method_19_code 2 none ∈ tG := tG_2 (List.mem_of_getElem? (i := 153) (by decide +kernel)) (by decide +kernel)
theorem k_methodLink_rn_R_55_y_A_takeAway : Cond.methodLink rn_R 55 y_A_takeAway ∈ tG := tG_2 (List.mem_of_getElem? (i := 155) (by decide +kernel)) (by decide +kernel)
theorem k_instanceMethod_y_A_takeAway : Cond.instanceMethod y_A_takeAway ∈ tG := tG_2 (List.mem_of_getElem? (i := 156) (by decide +kernel)) (by decide +kernel)
theorem k_selects_rn_A_y_A_takeAway_y_A_takeAway : Cond.selects rn_A y_A_takeAway y_A_takeAway ∈ tG := tG_2 (List.mem_of_getElem? (i := 157) (by decide +kernel)) (by decide +kernel)
theorem k_code_y_A_takeAway_prog_3_method_4_code_2_none : Cond.code y_A_takeAway prog_3_method_4_code 2 none ∈ tG := tG_2 (List.mem_of_getElem? (i := 158) (by decide +kernel)) (by decide +kernel)
theorem k_methodLink_rn_L_50_y_L_signal : Cond.methodLink rn_L 50 y_L_signal ∈ tG := tG_2 (List.mem_of_getElem? (i := 159) (by decide +kernel)) (by decide +kernel)
theorem k_static_y_L_signal : Cond.static y_L_signal ∈ tG := tG_2 (List.mem_of_getElem? (i := 160) (by decide +kernel)) (by decide +kernel)
theorem k_codeWith_y_L_signal_method_5_code_6_some_int_0_9_12_13_0_9_16_15 : Cond.codeWith y_L_signal method_5_code 6 (some .int) [(0, 9, 12, 13), (0, 9, 16, 15)] ∈ tG := tG_2 (List.mem_of_getElem? (i := 161) (by decide +kernel)) (by decide +kernel)
theorem k_methodLink_rn_L_20_y_R_signal : Cond.methodLink rn_L 20 y_R_signal ∈ tG := tG_2 (List.mem_of_getElem? (i := 162) (by decide +kernel)) (by decide +kernel)
theorem k_instanceMethod_y_R_signal : Cond.instanceMethod y_R_signal ∈ tG := tG_2 (List.mem_of_getElem? (i := 163) (by decide +kernel)) (by decide +kernel)
theorem k_selects_rn_R_y_R_signal_y_R_signal : Cond.selects rn_R y_R_signal y_R_signal ∈ tG := tG_2 (List.mem_of_getElem? (i := 164) (by decide +kernel)) (by decide +kernel)
theorem k_code_y_R_signal_prog_1_method_4_code_7_none : Cond.code y_R_signal prog_1_method_4_code 7 none ∈ tG := tG_2 (List.mem_of_getElem? (i := 165) (by decide +kernel)) (by decide +kernel)
theorem k_methodLink_rn_L_54_y_L_platform : Cond.methodLink rn_L 54 y_L_platform ∈ tG := tG_2 (List.mem_of_getElem? (i := 168) (by decide +kernel)) (by decide +kernel)
theorem k_static_y_L_platform : Cond.static y_L_platform ∈ tG := tG_2 (List.mem_of_getElem? (i := 169) (by decide +kernel)) (by decide +kernel)
theorem k_codeWith_y_L_platform_method_6_code_5_some_int_0_7_10_13_0_7_14_15 : Cond.codeWith y_L_platform method_6_code 5 (some .int) [(0, 7, 10, 13), (0, 7, 14, 15)] ∈ tG := tG_2 (List.mem_of_getElem? (i := 170) (by decide +kernel)) (by decide +kernel)
theorem k_methodLink_rn_L_24_y_R_platform : Cond.methodLink rn_L 24 y_R_platform ∈ tG := tG_2 (List.mem_of_getElem? (i := 171) (by decide +kernel)) (by decide +kernel)
theorem k_instanceMethod_y_R_platform : Cond.instanceMethod y_R_platform ∈ tG := tG_2 (List.mem_of_getElem? (i := 172) (by decide +kernel)) (by decide +kernel)
theorem k_selects_rn_R_y_R_platform_y_R_platform : Cond.selects rn_R y_R_platform y_R_platform ∈ tG := tG_2 (List.mem_of_getElem? (i := 173) (by decide +kernel)) (by decide +kernel)
theorem k_code_y_R_platform_prog_1_method_5_code_5_none : Cond.code y_R_platform prog_1_method_5_code 5 none ∈ tG := tG_2 (List.mem_of_getElem? (i := 174) (by decide +kernel)) (by decide +kernel)
theorem k_methodLink_rn_R_75_y_A_signalOf : Cond.methodLink rn_R 75 y_A_signalOf ∈ tG := tG_2 (List.mem_of_getElem? (i := 177) (by decide +kernel)) (by decide +kernel)
theorem k_classLink_rn_L_36_rn_M : Cond.classLink rn_L 36 rn_M ∈ tG := tG_2 (List.mem_of_getElem? (i := 178) (by decide +kernel)) (by decide +kernel)
theorem k_instantiable_rn_M_12 : Cond.instantiable rn_M 12 ∈ tG := tG_2 (List.mem_of_getElem? (i := 179) (by decide +kernel)) (by decide +kernel)
theorem k_methodLink_rn_L_38_y_M_init : Cond.methodLink rn_L 38 y_M_init ∈ tG := tG_2 (List.mem_of_getElem? (i := 180) (by decide +kernel)) (by decide +kernel)
theorem k_instanceMethod_y_M_init : Cond.instanceMethod y_M_init ∈ tG := tG_2 (List.mem_of_getElem? (i := 181) (by decide +kernel)) (by decide +kernel)
theorem k_code_y_M_init_prog_6_method_1_code_3_none : Cond.code y_M_init prog_6_method_1_code 3 none ∈ tG := tG_2 (List.mem_of_getElem? (i := 182) (by decide +kernel)) (by decide +kernel)
theorem k_methodLink_rn_M_1_objectInit : Cond.methodLink rn_M 1 objectInit ∈ tG := tG_2 (List.mem_of_getElem? (i := 183) (by decide +kernel)) (by decide +kernel)
theorem k_fieldLink_rn_M_7_rn_M_edges_I : Cond.fieldLink rn_M 7 rn_M "edges" "[I" ∈ tG := tG_2 (List.mem_of_getElem? (i := 184) (by decide +kernel)) (by decide +kernel)
theorem k_fieldLink_rn_M_42_rn_M_thrown_I : Cond.fieldLink rn_M 42 rn_M "thrown" "I" ∈ tG := tG_2 (List.mem_of_getElem? (i := 185) (by decide +kernel)) (by decide +kernel)
theorem k_fieldLink_rn_M_35_rn_M_w_I : Cond.fieldLink rn_M 35 rn_M "w" "I" ∈ tG := tG_2 (List.mem_of_getElem? (i := 186) (by decide +kernel)) (by decide +kernel)
theorem k_fieldLink_rn_M_39_rn_M_h_I : Cond.fieldLink rn_M 39 rn_M "h" "I" ∈ tG := tG_2 (List.mem_of_getElem? (i := 187) (by decide +kernel)) (by decide +kernel)
theorem k_fieldLink_rn_M_13_rn_M_there_Z : Cond.fieldLink rn_M 13 rn_M "there" "[Z" ∈ tG := tG_2 (List.mem_of_getElem? (i := 188) (by decide +kernel)) (by decide +kernel)
theorem k_fieldLink_rn_M_17_rn_M_signs_I : Cond.fieldLink rn_M 17 rn_M "signs" "[I" ∈ tG := tG_2 (List.mem_of_getElem? (i := 189) (by decide +kernel)) (by decide +kernel)
theorem k_fieldLink_rn_M_20_rn_M_stations_I : Cond.fieldLink rn_M 20 rn_M "stations" "[I" ∈ tG := tG_2 (List.mem_of_getElem? (i := 190) (by decide +kernel)) (by decide +kernel)
theorem k_fieldLink_rn_M_23_rn_M_list_I : Cond.fieldLink rn_M 23 rn_M "list" "[I" ∈ tG := tG_2 (List.mem_of_getElem? (i := 191) (by decide +kernel)) (by decide +kernel)
theorem k_fieldLink_rn_M_52_rn_M_pieces_I : Cond.fieldLink rn_M 52 rn_M "pieces" "I" ∈ tG := tG_2 (List.mem_of_getElem? (i := 192) (by decide +kernel)) (by decide +kernel)
theorem k_fieldLink_rn_M_26_rn_M_cost_I : Cond.fieldLink rn_M 26 rn_M "cost" "[I" ∈ tG := tG_2 (List.mem_of_getElem? (i := 193) (by decide +kernel)) (by decide +kernel)
theorem k_fieldLink_rn_M_29_rn_M_reached_Z : Cond.fieldLink rn_M 29 rn_M "reached" "[Z" ∈ tG := tG_2 (List.mem_of_getElem? (i := 194) (by decide +kernel)) (by decide +kernel)
theorem k_fieldLink_rn_M_32_rn_M_pile_I : Cond.fieldLink rn_M 32 rn_M "pile" "[I" ∈ tG := tG_2 (List.mem_of_getElem? (i := 195) (by decide +kernel)) (by decide +kernel)
theorem k_laysFinal_rn_M_rn_M_edges_I : Cond.laysFinal rn_M rn_M "edges" "[I" ∈ tG := tG_2 (List.mem_of_getElem? (i := 196) (by decide +kernel)) (by decide +kernel)
theorem k_lays_rn_M_rn_M_thrown_I : Cond.lays rn_M rn_M "thrown" "I" ∈ tG := tG_2 (List.mem_of_getElem? (i := 198) (by decide +kernel)) (by decide +kernel)
theorem k_laysFinal_rn_M_rn_M_w_I : Cond.laysFinal rn_M rn_M "w" "I" ∈ tG := tG_2 (List.mem_of_getElem? (i := 200) (by decide +kernel)) (by decide +kernel)
theorem k_laysFinal_rn_M_rn_M_h_I : Cond.laysFinal rn_M rn_M "h" "I" ∈ tG := tG_2 (List.mem_of_getElem? (i := 202) (by decide +kernel)) (by decide +kernel)
theorem k_laysFinal_rn_M_rn_M_there_Z : Cond.laysFinal rn_M rn_M "there" "[Z" ∈ tG := tG_2 (List.mem_of_getElem? (i := 204) (by decide +kernel)) (by decide +kernel)
theorem k_laysFinal_rn_M_rn_M_signs_I : Cond.laysFinal rn_M rn_M "signs" "[I" ∈ tG := tG_2 (List.mem_of_getElem? (i := 206) (by decide +kernel)) (by decide +kernel)
theorem k_laysFinal_rn_M_rn_M_stations_I : Cond.laysFinal rn_M rn_M "stations" "[I" ∈ tG := tG_2 (List.mem_of_getElem? (i := 208) (by decide +kernel)) (by decide +kernel)
theorem k_laysFinal_rn_M_rn_M_list_I : Cond.laysFinal rn_M rn_M "list" "[I" ∈ tG := tG_2 (List.mem_of_getElem? (i := 210) (by decide +kernel)) (by decide +kernel)
theorem k_lays_rn_M_rn_M_pieces_I : Cond.lays rn_M rn_M "pieces" "I" ∈ tG := tG_2 (List.mem_of_getElem? (i := 212) (by decide +kernel)) (by decide +kernel)
theorem k_laysFinal_rn_M_rn_M_cost_I : Cond.laysFinal rn_M rn_M "cost" "[I" ∈ tG := tG_2 (List.mem_of_getElem? (i := 214) (by decide +kernel)) (by decide +kernel)
theorem k_laysFinal_rn_M_rn_M_reached_Z : Cond.laysFinal rn_M rn_M "reached" "[Z" ∈ tG := tG_2 (List.mem_of_getElem? (i := 216) (by decide +kernel)) (by decide +kernel)
theorem k_laysFinal_rn_M_rn_M_pile_I : Cond.laysFinal rn_M rn_M "pile" "[I" ∈ tG := tG_2 (List.mem_of_getElem? (i := 218) (by decide +kernel)) (by decide +kernel)
theorem k_arrayClass_boolean : Cond.arrayClass .boolean ∈ tG := tG_2 (List.mem_of_getElem? (i := 221) (by decide +kernel)) (by decide +kernel)
theorem k_methodLink_rn_L_43_y_M_thrown : Cond.methodLink rn_L 43 y_M_thrown ∈ tG := tG_2 (List.mem_of_getElem? (i := 222) (by decide +kernel)) (by decide +kernel)
theorem k_instanceMethod_y_M_thrown : Cond.instanceMethod y_M_thrown ∈ tG := tG_2 (List.mem_of_getElem? (i := 223) (by decide +kernel)) (by decide +kernel)
theorem k_selects_rn_M_y_M_thrown_y_M_thrown : Cond.selects rn_M y_M_thrown y_M_thrown ∈ tG := tG_2 (List.mem_of_getElem? (i := 224) (by decide +kernel)) (by decide +kernel)
theorem k_code_y_M_thrown_prog_6_method_2_code_1_some_int : Cond.code y_M_thrown prog_6_method_2_code 1 (some .int) ∈ tG := tG_2 (List.mem_of_getElem? (i := 225) (by decide +kernel)) (by decide +kernel)
theorem k_methodLink_rn_L_42_y_M_lay : Cond.methodLink rn_L 42 y_M_lay ∈ tG := tG_2 (List.mem_of_getElem? (i := 226) (by decide +kernel)) (by decide +kernel)
theorem k_instanceMethod_y_M_lay : Cond.instanceMethod y_M_lay ∈ tG := tG_2 (List.mem_of_getElem? (i := 227) (by decide +kernel)) (by decide +kernel)
theorem k_selects_rn_M_y_M_lay_y_M_lay : Cond.selects rn_M y_M_lay y_M_lay ∈ tG := tG_2 (List.mem_of_getElem? (i := 228) (by decide +kernel)) (by decide +kernel)
theorem k_code_y_M_lay_prog_6_method_6_code_3_none : Cond.code y_M_lay prog_6_method_6_code 3 none ∈ tG := tG_2 (List.mem_of_getElem? (i := 229) (by decide +kernel)) (by decide +kernel)
theorem k_methodLink_rn_M_45_y_M_isTile : Cond.methodLink rn_M 45 y_M_isTile ∈ tG := tG_2 (List.mem_of_getElem? (i := 230) (by decide +kernel)) (by decide +kernel)
theorem k_instanceMethod_y_M_isTile : Cond.instanceMethod y_M_isTile ∈ tG := tG_2 (List.mem_of_getElem? (i := 232) (by decide +kernel)) (by decide +kernel)
theorem k_code_y_M_isTile_prog_6_method_3_code_2_some_boolean : Cond.code y_M_isTile prog_6_method_3_code 2 (some .boolean) ∈ tG := tG_2 (List.mem_of_getElem? (i := 233) (by decide +kernel)) (by decide +kernel)
theorem k_methodLink_rn_M_49_y_M_isKind : Cond.methodLink rn_M 49 y_M_isKind ∈ tG := tG_2 (List.mem_of_getElem? (i := 234) (by decide +kernel)) (by decide +kernel)
theorem k_static_y_M_isKind : Cond.static y_M_isKind ∈ tG := tG_2 (List.mem_of_getElem? (i := 235) (by decide +kernel)) (by decide +kernel)
theorem k_code_y_M_isKind_prog_6_method_4_code_1_some_boolean : Cond.code y_M_isKind prog_6_method_4_code 1 (some .boolean) ∈ tG := tG_2 (List.mem_of_getElem? (i := 236) (by decide +kernel)) (by decide +kernel)
theorem k_methodLink_rn_L_49_y_M_lift : Cond.methodLink rn_L 49 y_M_lift ∈ tG := tG_2 (List.mem_of_getElem? (i := 237) (by decide +kernel)) (by decide +kernel)
theorem k_instanceMethod_y_M_lift : Cond.instanceMethod y_M_lift ∈ tG := tG_2 (List.mem_of_getElem? (i := 238) (by decide +kernel)) (by decide +kernel)
theorem k_selects_rn_M_y_M_lift_y_M_lift : Cond.selects rn_M y_M_lift y_M_lift ∈ tG := tG_2 (List.mem_of_getElem? (i := 239) (by decide +kernel)) (by decide +kernel)
theorem k_code_y_M_lift_prog_6_method_7_code_5_none : Cond.code y_M_lift prog_6_method_7_code 5 none ∈ tG := tG_3 (List.mem_of_getElem? (i := 0) (by decide +kernel)) (by decide +kernel)
theorem k_methodLink_rn_L_53_y_M_signal : Cond.methodLink rn_L 53 y_M_signal ∈ tG := tG_3 (List.mem_of_getElem? (i := 1) (by decide +kernel)) (by decide +kernel)
theorem k_instanceMethod_y_M_signal : Cond.instanceMethod y_M_signal ∈ tG := tG_3 (List.mem_of_getElem? (i := 2) (by decide +kernel)) (by decide +kernel)
theorem k_selects_rn_M_y_M_signal_y_M_signal : Cond.selects rn_M y_M_signal y_M_signal ∈ tG := tG_3 (List.mem_of_getElem? (i := 3) (by decide +kernel)) (by decide +kernel)
theorem k_code_y_M_signal_prog_6_method_8_code_5_none : Cond.code y_M_signal prog_6_method_8_code 5 none ∈ tG := tG_3 (List.mem_of_getElem? (i := 4) (by decide +kernel)) (by decide +kernel)
theorem k_methodLink_rn_L_57_y_M_platform : Cond.methodLink rn_L 57 y_M_platform ∈ tG := tG_3 (List.mem_of_getElem? (i := 5) (by decide +kernel)) (by decide +kernel)
theorem k_instanceMethod_y_M_platform : Cond.instanceMethod y_M_platform ∈ tG := tG_3 (List.mem_of_getElem? (i := 6) (by decide +kernel)) (by decide +kernel)
theorem k_selects_rn_M_y_M_platform_y_M_platform : Cond.selects rn_M y_M_platform y_M_platform ∈ tG := tG_3 (List.mem_of_getElem? (i := 7) (by decide +kernel)) (by decide +kernel)
theorem k_code_y_M_platform_prog_6_method_9_code_4_none : Cond.code y_M_platform prog_6_method_9_code 4 none ∈ tG := tG_3 (List.mem_of_getElem? (i := 8) (by decide +kernel)) (by decide +kernel)
theorem k_methodLink_rn_L_62_y_M_at : Cond.methodLink rn_L 62 y_M_at ∈ tG := tG_3 (List.mem_of_getElem? (i := 9) (by decide +kernel)) (by decide +kernel)
theorem k_instanceMethod_y_M_at : Cond.instanceMethod y_M_at ∈ tG := tG_3 (List.mem_of_getElem? (i := 10) (by decide +kernel)) (by decide +kernel)
theorem k_selects_rn_M_y_M_at_y_M_at : Cond.selects rn_M y_M_at y_M_at ∈ tG := tG_3 (List.mem_of_getElem? (i := 11) (by decide +kernel)) (by decide +kernel)
theorem k_code_y_M_at_prog_6_method_10_code_5_some_int : Cond.code y_M_at prog_6_method_10_code 5 (some .int) ∈ tG := tG_3 (List.mem_of_getElem? (i := 12) (by decide +kernel)) (by decide +kernel)
theorem k_methodLink_rn_L_66_y_M_next : Cond.methodLink rn_L 66 y_M_next ∈ tG := tG_3 (List.mem_of_getElem? (i := 13) (by decide +kernel)) (by decide +kernel)
theorem k_instanceMethod_y_M_next : Cond.instanceMethod y_M_next ∈ tG := tG_3 (List.mem_of_getElem? (i := 14) (by decide +kernel)) (by decide +kernel)
theorem k_selects_rn_M_y_M_next_y_M_next : Cond.selects rn_M y_M_next y_M_next ∈ tG := tG_3 (List.mem_of_getElem? (i := 15) (by decide +kernel)) (by decide +kernel)
theorem k_code_y_M_next_prog_6_method_19_code_6_some_int : Cond.code y_M_next prog_6_method_19_code 6 (some .int) ∈ tG := tG_3 (List.mem_of_getElem? (i := 16) (by decide +kernel)) (by decide +kernel)
theorem k_methodLink_rn_M_75_y_M_isOpen : Cond.methodLink rn_M 75 y_M_isOpen ∈ tG := tG_3 (List.mem_of_getElem? (i := 17) (by decide +kernel)) (by decide +kernel)
theorem k_instanceMethod_y_M_isOpen : Cond.instanceMethod y_M_isOpen ∈ tG := tG_3 (List.mem_of_getElem? (i := 19) (by decide +kernel)) (by decide +kernel)
theorem k_code_y_M_isOpen_prog_6_method_13_code_2_some_boolean : Cond.code y_M_isOpen prog_6_method_13_code 2 (some .boolean) ∈ tG := tG_3 (List.mem_of_getElem? (i := 20) (by decide +kernel)) (by decide +kernel)
theorem k_methodLink_rn_M_55_y_M_isRun : Cond.methodLink rn_M 55 y_M_isRun ∈ tG := tG_3 (List.mem_of_getElem? (i := 21) (by decide +kernel)) (by decide +kernel)
theorem k_instanceMethod_y_M_isRun : Cond.instanceMethod y_M_isRun ∈ tG := tG_3 (List.mem_of_getElem? (i := 23) (by decide +kernel)) (by decide +kernel)
theorem k_code_y_M_isRun_prog_6_method_11_code_2_some_boolean : Cond.code y_M_isRun prog_6_method_11_code 2 (some .boolean) ∈ tG := tG_3 (List.mem_of_getElem? (i := 24) (by decide +kernel)) (by decide +kernel)
theorem k_methodLink_rn_M_58_y_M_signalled : Cond.methodLink rn_M 58 y_M_signalled ∈ tG := tG_3 (List.mem_of_getElem? (i := 25) (by decide +kernel)) (by decide +kernel)
theorem k_instanceMethod_y_M_signalled : Cond.instanceMethod y_M_signalled ∈ tG := tG_3 (List.mem_of_getElem? (i := 27) (by decide +kernel)) (by decide +kernel)
theorem k_code_y_M_signalled_prog_6_method_12_code_2_some_int : Cond.code y_M_signalled prog_6_method_12_code 2 (some .int) ∈ tG := tG_3 (List.mem_of_getElem? (i := 28) (by decide +kernel)) (by decide +kernel)
theorem k_methodLink_rn_M_78_y_M_follower : Cond.methodLink rn_M 78 y_M_follower ∈ tG := tG_3 (List.mem_of_getElem? (i := 29) (by decide +kernel)) (by decide +kernel)
theorem k_instanceMethod_y_M_follower : Cond.instanceMethod y_M_follower ∈ tG := tG_3 (List.mem_of_getElem? (i := 31) (by decide +kernel)) (by decide +kernel)
theorem k_code_y_M_follower_prog_6_method_18_code_6_some_int : Cond.code y_M_follower prog_6_method_18_code 6 (some .int) ∈ tG := tG_3 (List.mem_of_getElem? (i := 32) (by decide +kernel)) (by decide +kernel)
theorem k_methodLink_rn_M_62_y_M_to : Cond.methodLink rn_M 62 y_M_to ∈ tG := tG_3 (List.mem_of_getElem? (i := 33) (by decide +kernel)) (by decide +kernel)
theorem k_instanceMethod_y_M_to : Cond.instanceMethod y_M_to ∈ tG := tG_3 (List.mem_of_getElem? (i := 35) (by decide +kernel)) (by decide +kernel)
theorem k_code_y_M_to_prog_6_method_15_code_2_some_int : Cond.code y_M_to prog_6_method_15_code 2 (some .int) ∈ tG := tG_3 (List.mem_of_getElem? (i := 36) (by decide +kernel)) (by decide +kernel)
theorem k_methodLink_rn_M_65_y_M_beyond : Cond.methodLink rn_M 65 y_M_beyond ∈ tG := tG_3 (List.mem_of_getElem? (i := 37) (by decide +kernel)) (by decide +kernel)
theorem k_instanceMethod_y_M_beyond : Cond.instanceMethod y_M_beyond ∈ tG := tG_3 (List.mem_of_getElem? (i := 39) (by decide +kernel)) (by decide +kernel)
theorem k_code_y_M_beyond_prog_6_method_16_code_5_some_int : Cond.code y_M_beyond prog_6_method_16_code 5 (some .int) ∈ tG := tG_3 (List.mem_of_getElem? (i := 40) (by decide +kernel)) (by decide +kernel)
theorem k_methodLink_rn_M_69_y_M_from : Cond.methodLink rn_M 69 y_M_from ∈ tG := tG_3 (List.mem_of_getElem? (i := 41) (by decide +kernel)) (by decide +kernel)
theorem k_instanceMethod_y_M_from : Cond.instanceMethod y_M_from ∈ tG := tG_3 (List.mem_of_getElem? (i := 43) (by decide +kernel)) (by decide +kernel)
theorem k_code_y_M_from_prog_6_method_14_code_2_some_int : Cond.code y_M_from prog_6_method_14_code 2 (some .int) ∈ tG := tG_3 (List.mem_of_getElem? (i := 44) (by decide +kernel)) (by decide +kernel)
theorem k_methodLink_rn_M_72_y_M_other : Cond.methodLink rn_M 72 y_M_other ∈ tG := tG_3 (List.mem_of_getElem? (i := 45) (by decide +kernel)) (by decide +kernel)
theorem k_static_y_M_other : Cond.static y_M_other ∈ tG := tG_3 (List.mem_of_getElem? (i := 46) (by decide +kernel)) (by decide +kernel)
theorem k_code_y_M_other_prog_6_method_17_code_1_some_int : Cond.code y_M_other prog_6_method_17_code 1 (some .int) ∈ tG := tG_3 (List.mem_of_getElem? (i := 47) (by decide +kernel)) (by decide +kernel)
theorem k_methodLink_rn_L_71_y_M_before : Cond.methodLink rn_L 71 y_M_before ∈ tG := tG_3 (List.mem_of_getElem? (i := 48) (by decide +kernel)) (by decide +kernel)
theorem k_instanceMethod_y_M_before : Cond.instanceMethod y_M_before ∈ tG := tG_3 (List.mem_of_getElem? (i := 49) (by decide +kernel)) (by decide +kernel)
theorem k_selects_rn_M_y_M_before_y_M_before : Cond.selects rn_M y_M_before y_M_before ∈ tG := tG_3 (List.mem_of_getElem? (i := 50) (by decide +kernel)) (by decide +kernel)
theorem k_code_y_M_before_prog_6_method_20_code_6_some_int : Cond.code y_M_before prog_6_method_20_code 6 (some .int) ∈ tG := tG_3 (List.mem_of_getElem? (i := 51) (by decide +kernel)) (by decide +kernel)
theorem k_methodLink_rn_L_75_y_M_block : Cond.methodLink rn_L 75 y_M_block ∈ tG := tG_3 (List.mem_of_getElem? (i := 52) (by decide +kernel)) (by decide +kernel)
theorem k_instanceMethod_y_M_block : Cond.instanceMethod y_M_block ∈ tG := tG_3 (List.mem_of_getElem? (i := 53) (by decide +kernel)) (by decide +kernel)
theorem k_selects_rn_M_y_M_block_y_M_block : Cond.selects rn_M y_M_block y_M_block ∈ tG := tG_3 (List.mem_of_getElem? (i := 54) (by decide +kernel)) (by decide +kernel)
theorem k_code_y_M_block_prog_6_method_26_code_3_some_int : Cond.code y_M_block prog_6_method_26_code 3 (some .int) ∈ tG := tG_3 (List.mem_of_getElem? (i := 55) (by decide +kernel)) (by decide +kernel)
theorem k_methodLink_rn_M_91_y_M_isPiece : Cond.methodLink rn_M 91 y_M_isPiece ∈ tG := tG_3 (List.mem_of_getElem? (i := 56) (by decide +kernel)) (by decide +kernel)
theorem k_instanceMethod_y_M_isPiece : Cond.instanceMethod y_M_isPiece ∈ tG := tG_3 (List.mem_of_getElem? (i := 58) (by decide +kernel)) (by decide +kernel)
theorem k_code_y_M_isPiece_prog_6_method_5_code_3_some_boolean : Cond.code y_M_isPiece prog_6_method_5_code 3 (some .boolean) ∈ tG := tG_3 (List.mem_of_getElem? (i := 59) (by decide +kernel)) (by decide +kernel)
theorem k_methodLink_rn_M_94_y_M_unreach : Cond.methodLink rn_M 94 y_M_unreach ∈ tG := tG_3 (List.mem_of_getElem? (i := 60) (by decide +kernel)) (by decide +kernel)
theorem k_instanceMethod_y_M_unreach : Cond.instanceMethod y_M_unreach ∈ tG := tG_3 (List.mem_of_getElem? (i := 62) (by decide +kernel)) (by decide +kernel)
theorem k_code_y_M_unreach_prog_6_method_25_code_2_none : Cond.code y_M_unreach prog_6_method_25_code 2 none ∈ tG := tG_3 (List.mem_of_getElem? (i := 63) (by decide +kernel)) (by decide +kernel)
theorem k_methodLink_rn_M_97_y_M_lowest : Cond.methodLink rn_M 97 y_M_lowest ∈ tG := tG_3 (List.mem_of_getElem? (i := 64) (by decide +kernel)) (by decide +kernel)
theorem k_instanceMethod_y_M_lowest : Cond.instanceMethod y_M_lowest ∈ tG := tG_3 (List.mem_of_getElem? (i := 66) (by decide +kernel)) (by decide +kernel)
theorem k_code_y_M_lowest_prog_6_method_24_code_7_some_int : Cond.code y_M_lowest prog_6_method_24_code 7 (some .int) ∈ tG := tG_3 (List.mem_of_getElem? (i := 67) (by decide +kernel)) (by decide +kernel)
theorem k_methodLink_rn_M_88_y_M_touch : Cond.methodLink rn_M 88 y_M_touch ∈ tG := tG_3 (List.mem_of_getElem? (i := 68) (by decide +kernel)) (by decide +kernel)
theorem k_instanceMethod_y_M_touch : Cond.instanceMethod y_M_touch ∈ tG := tG_3 (List.mem_of_getElem? (i := 70) (by decide +kernel)) (by decide +kernel)
theorem k_code_y_M_touch_prog_6_method_23_code_4_some_boolean : Cond.code y_M_touch prog_6_method_23_code 4 (some .boolean) ∈ tG := tG_3 (List.mem_of_getElem? (i := 71) (by decide +kernel)) (by decide +kernel)
theorem k_methodLink_rn_M_81_y_M_ends : Cond.methodLink rn_M 81 y_M_ends ∈ tG := tG_3 (List.mem_of_getElem? (i := 72) (by decide +kernel)) (by decide +kernel)
theorem k_instanceMethod_y_M_ends : Cond.instanceMethod y_M_ends ∈ tG := tG_3 (List.mem_of_getElem? (i := 74) (by decide +kernel)) (by decide +kernel)
theorem k_code_y_M_ends_prog_6_method_22_code_3_some_boolean : Cond.code y_M_ends prog_6_method_22_code 3 (some .boolean) ∈ tG := tG_3 (List.mem_of_getElem? (i := 75) (by decide +kernel)) (by decide +kernel)
theorem k_methodLink_rn_M_85_y_M_guards : Cond.methodLink rn_M 85 y_M_guards ∈ tG := tG_3 (List.mem_of_getElem? (i := 76) (by decide +kernel)) (by decide +kernel)
theorem k_instanceMethod_y_M_guards : Cond.instanceMethod y_M_guards ∈ tG := tG_3 (List.mem_of_getElem? (i := 78) (by decide +kernel)) (by decide +kernel)
theorem k_code_y_M_guards_prog_6_method_21_code_3_some_boolean : Cond.code y_M_guards prog_6_method_21_code 3 (some .boolean) ∈ tG := tG_3 (List.mem_of_getElem? (i := 79) (by decide +kernel)) (by decide +kernel)
theorem k_methodLink_rn_L_79_y_M_sign : Cond.methodLink rn_L 79 y_M_sign ∈ tG := tG_3 (List.mem_of_getElem? (i := 80) (by decide +kernel)) (by decide +kernel)
theorem k_instanceMethod_y_M_sign : Cond.instanceMethod y_M_sign ∈ tG := tG_3 (List.mem_of_getElem? (i := 81) (by decide +kernel)) (by decide +kernel)
theorem k_selects_rn_M_y_M_sign_y_M_sign : Cond.selects rn_M y_M_sign y_M_sign ∈ tG := tG_3 (List.mem_of_getElem? (i := 82) (by decide +kernel)) (by decide +kernel)
theorem k_code_y_M_sign_prog_6_method_28_code_4_some_int : Cond.code y_M_sign prog_6_method_28_code 4 (some .int) ∈ tG := tG_3 (List.mem_of_getElem? (i := 83) (by decide +kernel)) (by decide +kernel)
theorem k_methodLink_rn_M_100_y_M_isStation : Cond.methodLink rn_M 100 y_M_isStation ∈ tG := tG_3 (List.mem_of_getElem? (i := 84) (by decide +kernel)) (by decide +kernel)
theorem k_static_y_M_isStation : Cond.static y_M_isStation ∈ tG := tG_3 (List.mem_of_getElem? (i := 85) (by decide +kernel)) (by decide +kernel)
theorem k_code_y_M_isStation_prog_6_method_27_code_1_some_boolean : Cond.code y_M_isStation prog_6_method_27_code 1 (some .boolean) ∈ tG := tG_3 (List.mem_of_getElem? (i := 86) (by decide +kernel)) (by decide +kernel)
theorem k_methodLink_rn_L_84_y_M_isTarget : Cond.methodLink rn_L 84 y_M_isTarget ∈ tG := tG_3 (List.mem_of_getElem? (i := 87) (by decide +kernel)) (by decide +kernel)
theorem k_instanceMethod_y_M_isTarget : Cond.instanceMethod y_M_isTarget ∈ tG := tG_3 (List.mem_of_getElem? (i := 88) (by decide +kernel)) (by decide +kernel)
theorem k_selects_rn_M_y_M_isTarget_y_M_isTarget : Cond.selects rn_M y_M_isTarget y_M_isTarget ∈ tG := tG_3 (List.mem_of_getElem? (i := 89) (by decide +kernel)) (by decide +kernel)
theorem k_code_y_M_isTarget_prog_6_method_30_code_3_some_boolean : Cond.code y_M_isTarget prog_6_method_30_code 3 (some .boolean) ∈ tG := tG_3 (List.mem_of_getElem? (i := 90) (by decide +kernel)) (by decide +kernel)
theorem k_methodLink_rn_M_103_y_M_target : Cond.methodLink rn_M 103 y_M_target ∈ tG := tG_3 (List.mem_of_getElem? (i := 91) (by decide +kernel)) (by decide +kernel)
theorem k_instanceMethod_y_M_target : Cond.instanceMethod y_M_target ∈ tG := tG_3 (List.mem_of_getElem? (i := 93) (by decide +kernel)) (by decide +kernel)
theorem k_code_y_M_target_prog_6_method_29_code_5_some_boolean : Cond.code y_M_target prog_6_method_29_code 5 (some .boolean) ∈ tG := tG_3 (List.mem_of_getElem? (i := 94) (by decide +kernel)) (by decide +kernel)
theorem k_methodLink_rn_L_88_y_M_cost : Cond.methodLink rn_L 88 y_M_cost ∈ tG := tG_3 (List.mem_of_getElem? (i := 95) (by decide +kernel)) (by decide +kernel)
theorem k_instanceMethod_y_M_cost : Cond.instanceMethod y_M_cost ∈ tG := tG_3 (List.mem_of_getElem? (i := 96) (by decide +kernel)) (by decide +kernel)
theorem k_selects_rn_M_y_M_cost_y_M_cost : Cond.selects rn_M y_M_cost y_M_cost ∈ tG := tG_3 (List.mem_of_getElem? (i := 97) (by decide +kernel)) (by decide +kernel)
theorem k_code_y_M_cost_prog_6_method_34_code_3_some_int : Cond.code y_M_cost prog_6_method_34_code 3 (some .int) ∈ tG := tG_3 (List.mem_of_getElem? (i := 98) (by decide +kernel)) (by decide +kernel)
theorem k_methodLink_rn_M_113_y_M_reckon : Cond.methodLink rn_M 113 y_M_reckon ∈ tG := tG_3 (List.mem_of_getElem? (i := 99) (by decide +kernel)) (by decide +kernel)
theorem k_instanceMethod_y_M_reckon : Cond.instanceMethod y_M_reckon ∈ tG := tG_3 (List.mem_of_getElem? (i := 101) (by decide +kernel)) (by decide +kernel)
theorem k_code_y_M_reckon_prog_6_method_33_code_7_none : Cond.code y_M_reckon prog_6_method_33_code 7 none ∈ tG := tG_3 (List.mem_of_getElem? (i := 102) (by decide +kernel)) (by decide +kernel)
theorem k_constant_rn_M_106_1000000000 : Cond.constant rn_M 106 1000000000 ∈ tG := tG_3 (List.mem_of_getElem? (i := 103) (by decide +kernel)) (by decide +kernel)
theorem k_methodLink_rn_M_110_y_M_onward : Cond.methodLink rn_M 110 y_M_onward ∈ tG := tG_3 (List.mem_of_getElem? (i := 104) (by decide +kernel)) (by decide +kernel)
theorem k_instanceMethod_y_M_onward : Cond.instanceMethod y_M_onward ∈ tG := tG_3 (List.mem_of_getElem? (i := 106) (by decide +kernel)) (by decide +kernel)
theorem k_code_y_M_onward_prog_6_method_32_code_5_some_int : Cond.code y_M_onward prog_6_method_32_code 5 (some .int) ∈ tG := tG_3 (List.mem_of_getElem? (i := 107) (by decide +kernel)) (by decide +kernel)
theorem k_methodLink_rn_M_107_y_M_length : Cond.methodLink rn_M 107 y_M_length ∈ tG := tG_3 (List.mem_of_getElem? (i := 108) (by decide +kernel)) (by decide +kernel)
theorem k_static_y_M_length : Cond.static y_M_length ∈ tG := tG_3 (List.mem_of_getElem? (i := 109) (by decide +kernel)) (by decide +kernel)
theorem k_code_y_M_length_prog_6_method_31_code_1_some_int : Cond.code y_M_length prog_6_method_31_code 1 (some .int) ∈ tG := tG_3 (List.mem_of_getElem? (i := 110) (by decide +kernel)) (by decide +kernel)
theorem k_methodLink_rn_L_93_y_M_route : Cond.methodLink rn_L 93 y_M_route ∈ tG := tG_3 (List.mem_of_getElem? (i := 111) (by decide +kernel)) (by decide +kernel)
theorem k_instanceMethod_y_M_route : Cond.instanceMethod y_M_route ∈ tG := tG_3 (List.mem_of_getElem? (i := 112) (by decide +kernel)) (by decide +kernel)
theorem k_selects_rn_M_y_M_route_y_M_route : Cond.selects rn_M y_M_route y_M_route ∈ tG := tG_3 (List.mem_of_getElem? (i := 113) (by decide +kernel)) (by decide +kernel)
theorem k_code_y_M_route_prog_6_method_35_code_9_some_int : Cond.code y_M_route prog_6_method_35_code 9 (some .int) ∈ tG := tG_3 (List.mem_of_getElem? (i := 114) (by decide +kernel)) (by decide +kernel)
theorem k_methodLink_rn_L_97_y_M_count : Cond.methodLink rn_L 97 y_M_count ∈ tG := tG_3 (List.mem_of_getElem? (i := 115) (by decide +kernel)) (by decide +kernel)
theorem k_instanceMethod_y_M_count : Cond.instanceMethod y_M_count ∈ tG := tG_3 (List.mem_of_getElem? (i := 116) (by decide +kernel)) (by decide +kernel)
theorem k_selects_rn_M_y_M_count_y_M_count : Cond.selects rn_M y_M_count y_M_count ∈ tG := tG_3 (List.mem_of_getElem? (i := 117) (by decide +kernel)) (by decide +kernel)
theorem k_code_y_M_count_prog_6_method_36_code_5_some_int : Cond.code y_M_count prog_6_method_36_code 5 (some .int) ∈ tG := tG_3 (List.mem_of_getElem? (i := 118) (by decide +kernel)) (by decide +kernel)
theorem in_Q : ∀ w ∈ u_ws rn_Q tf_Q 3, w ∈ tG := List.forall_mem_cons.mpr ⟨k_laysFinal_rn_Q_rn_Q_row_I, List.forall_mem_cons.mpr ⟨k_lays_rn_Q_rn_Q_head_I, List.forall_mem_cons.mpr ⟨k_lays_rn_Q_rn_Q_tail_I, fun _ h => absurd h List.not_mem_nil⟩⟩⟩
theorem in_A : ∀ w ∈ u_ws rn_A tf_A 2, w ∈ tG := List.forall_mem_cons.mpr ⟨k_laysFinal_rn_A_rn_A_beyond_I, List.forall_mem_cons.mpr ⟨k_laysFinal_rn_A_rn_A_pieces_I, fun _ h => absurd h List.not_mem_nil⟩⟩
theorem in_S : ∀ w ∈ u_ws rn_S tf_S 5, w ∈ tG := List.forall_mem_cons.mpr ⟨k_laysFinal_rn_S_rn_S_found_I, List.forall_mem_cons.mpr ⟨k_laysFinal_rn_S_rn_S_straights_LRouteTracks_Queue, List.forall_mem_cons.mpr ⟨k_laysFinal_rn_S_rn_S_curves_LRouteTracks_Queue, List.forall_mem_cons.mpr ⟨k_lays_rn_S_rn_S_held_I, List.forall_mem_cons.mpr ⟨k_lays_rn_S_rn_S_blocks_I, fun _ h => absurd h List.not_mem_nil⟩⟩⟩⟩⟩
theorem in_R : ∀ w ∈ u_ws rn_R tf_R 2, w ∈ tG := List.forall_mem_cons.mpr ⟨k_laysFinal_rn_R_rn_R_rails_LRouteTracks_Rails, List.forall_mem_cons.mpr ⟨k_laysFinal_rn_R_rn_R_search_LRouteTracks_Search, fun _ h => absurd h List.not_mem_nil⟩⟩
theorem in_M : ∀ w ∈ u_ws rn_M tf_M 12, w ∈ tG := List.forall_mem_cons.mpr ⟨k_laysFinal_rn_M_rn_M_edges_I, List.forall_mem_cons.mpr ⟨k_lays_rn_M_rn_M_thrown_I, List.forall_mem_cons.mpr ⟨k_laysFinal_rn_M_rn_M_w_I, List.forall_mem_cons.mpr ⟨k_laysFinal_rn_M_rn_M_h_I, List.forall_mem_cons.mpr ⟨k_laysFinal_rn_M_rn_M_there_Z, List.forall_mem_cons.mpr ⟨k_laysFinal_rn_M_rn_M_signs_I, List.forall_mem_cons.mpr ⟨k_laysFinal_rn_M_rn_M_stations_I, List.forall_mem_cons.mpr ⟨k_laysFinal_rn_M_rn_M_list_I, List.forall_mem_cons.mpr ⟨k_lays_rn_M_rn_M_pieces_I, List.forall_mem_cons.mpr ⟨k_laysFinal_rn_M_rn_M_cost_I, List.forall_mem_cons.mpr ⟨k_laysFinal_rn_M_rn_M_reached_Z, List.forall_mem_cons.mpr ⟨k_laysFinal_rn_M_rn_M_pile_I, fun _ h => absurd h List.not_mem_nil⟩⟩⟩⟩⟩⟩⟩⟩⟩⟩⟩⟩
theorem k_selects_rn_S_y_S_floodBlock_y_S_floodBlock : Cond.selects rn_S y_S_floodBlock y_S_floodBlock ∈ tG := tG_s (List.mem_of_getElem? (i := 0) (by decide +kernel)) (by decide +kernel)
theorem k_selects_rn_S_y_S_join_y_S_join : Cond.selects rn_S y_S_join y_S_join ∈ tG := tG_s (List.mem_of_getElem? (i := 1) (by decide +kernel)) (by decide +kernel)
theorem k_selects_rn_S_y_S_joinMeeting_y_S_joinMeeting : Cond.selects rn_S y_S_joinMeeting y_S_joinMeeting ∈ tG := tG_s (List.mem_of_getElem? (i := 2) (by decide +kernel)) (by decide +kernel)
theorem k_selects_rn_S_y_S_joinAcross_y_S_joinAcross : Cond.selects rn_S y_S_joinAcross y_S_joinAcross ∈ tG := tG_s (List.mem_of_getElem? (i := 3) (by decide +kernel)) (by decide +kernel)
theorem k_selects_rn_S_y_S_settleTargets_y_S_settleTargets : Cond.selects rn_S y_S_settleTargets y_S_settleTargets ∈ tG := tG_s (List.mem_of_getElem? (i := 4) (by decide +kernel)) (by decide +kernel)
theorem k_selects_rn_S_y_S_settle_y_S_settle : Cond.selects rn_S y_S_settle y_S_settle ∈ tG := tG_s (List.mem_of_getElem? (i := 5) (by decide +kernel)) (by decide +kernel)
theorem k_selects_rn_S_y_S_takeNearest_y_S_takeNearest : Cond.selects rn_S y_S_takeNearest y_S_takeNearest ∈ tG := tG_s (List.mem_of_getElem? (i := 6) (by decide +kernel)) (by decide +kernel)
theorem k_selects_rn_S_y_S_settleBehind_y_S_settleBehind : Cond.selects rn_S y_S_settleBehind y_S_settleBehind ∈ tG := tG_s (List.mem_of_getElem? (i := 7) (by decide +kernel)) (by decide +kernel)
theorem k_selects_rn_R_y_R_requirePlace_y_R_requirePlace : Cond.selects rn_R y_R_requirePlace y_R_requirePlace ∈ tG := tG_s (List.mem_of_getElem? (i := 8) (by decide +kernel)) (by decide +kernel)
theorem k_selects_rn_R_y_R_requireThere_y_R_requireThere : Cond.selects rn_R y_R_requireThere y_R_requireThere ∈ tG := tG_s (List.mem_of_getElem? (i := 10) (by decide +kernel)) (by decide +kernel)
theorem k_selects_rn_M_y_M_isTile_y_M_isTile : Cond.selects rn_M y_M_isTile y_M_isTile ∈ tG := tG_s (List.mem_of_getElem? (i := 11) (by decide +kernel)) (by decide +kernel)
theorem k_selects_rn_M_y_M_isOpen_y_M_isOpen : Cond.selects rn_M y_M_isOpen y_M_isOpen ∈ tG := tG_s (List.mem_of_getElem? (i := 12) (by decide +kernel)) (by decide +kernel)
theorem k_selects_rn_M_y_M_isRun_y_M_isRun : Cond.selects rn_M y_M_isRun y_M_isRun ∈ tG := tG_s (List.mem_of_getElem? (i := 13) (by decide +kernel)) (by decide +kernel)
theorem k_selects_rn_M_y_M_signalled_y_M_signalled : Cond.selects rn_M y_M_signalled y_M_signalled ∈ tG := tG_s (List.mem_of_getElem? (i := 14) (by decide +kernel)) (by decide +kernel)
theorem k_selects_rn_M_y_M_follower_y_M_follower : Cond.selects rn_M y_M_follower y_M_follower ∈ tG := tG_s (List.mem_of_getElem? (i := 15) (by decide +kernel)) (by decide +kernel)
theorem k_selects_rn_M_y_M_to_y_M_to : Cond.selects rn_M y_M_to y_M_to ∈ tG := tG_s (List.mem_of_getElem? (i := 16) (by decide +kernel)) (by decide +kernel)
theorem k_selects_rn_M_y_M_beyond_y_M_beyond : Cond.selects rn_M y_M_beyond y_M_beyond ∈ tG := tG_s (List.mem_of_getElem? (i := 17) (by decide +kernel)) (by decide +kernel)
theorem k_selects_rn_M_y_M_from_y_M_from : Cond.selects rn_M y_M_from y_M_from ∈ tG := tG_s (List.mem_of_getElem? (i := 18) (by decide +kernel)) (by decide +kernel)
theorem k_selects_rn_M_y_M_isPiece_y_M_isPiece : Cond.selects rn_M y_M_isPiece y_M_isPiece ∈ tG := tG_s (List.mem_of_getElem? (i := 19) (by decide +kernel)) (by decide +kernel)
theorem k_selects_rn_M_y_M_unreach_y_M_unreach : Cond.selects rn_M y_M_unreach y_M_unreach ∈ tG := tG_s (List.mem_of_getElem? (i := 20) (by decide +kernel)) (by decide +kernel)
theorem k_selects_rn_M_y_M_lowest_y_M_lowest : Cond.selects rn_M y_M_lowest y_M_lowest ∈ tG := tG_s (List.mem_of_getElem? (i := 21) (by decide +kernel)) (by decide +kernel)
theorem k_selects_rn_M_y_M_touch_y_M_touch : Cond.selects rn_M y_M_touch y_M_touch ∈ tG := tG_s (List.mem_of_getElem? (i := 22) (by decide +kernel)) (by decide +kernel)
theorem k_selects_rn_M_y_M_ends_y_M_ends : Cond.selects rn_M y_M_ends y_M_ends ∈ tG := tG_s (List.mem_of_getElem? (i := 23) (by decide +kernel)) (by decide +kernel)
theorem k_selects_rn_M_y_M_guards_y_M_guards : Cond.selects rn_M y_M_guards y_M_guards ∈ tG := tG_s (List.mem_of_getElem? (i := 24) (by decide +kernel)) (by decide +kernel)
theorem k_selects_rn_M_y_M_target_y_M_target : Cond.selects rn_M y_M_target y_M_target ∈ tG := tG_s (List.mem_of_getElem? (i := 25) (by decide +kernel)) (by decide +kernel)
theorem k_selects_rn_M_y_M_reckon_y_M_reckon : Cond.selects rn_M y_M_reckon y_M_reckon ∈ tG := tG_s (List.mem_of_getElem? (i := 26) (by decide +kernel)) (by decide +kernel)
theorem k_selects_rn_M_y_M_onward_y_M_onward : Cond.selects rn_M y_M_onward y_M_onward ∈ tG := tG_s (List.mem_of_getElem? (i := 27) (by decide +kernel)) (by decide +kernel)
end
section
/-! DECODE rows, by program -/
theorem d_A_init_0 : decode b_A_init 0 = .ok (.aload_n 0, 1) := by decide +kernel
theorem d_A_init_1 : decode b_A_init 1 = .ok (.invokespecial 3, 3) := by decide +kernel
theorem d_A_init_4 : decode b_A_init 4 = .ok (.aload_n 0, 1) := by decide +kernel
theorem d_A_init_5 : decode b_A_init 5 = .ok (.iconst 4, 1) := by decide +kernel
theorem d_A_init_6 : decode b_A_init 6 = .ok (.iload_n 1, 1) := by decide +kernel
theorem d_A_init_7 : decode b_A_init 7 = .ok (.imul, 1) := by decide +kernel
theorem d_A_init_8 : decode b_A_init 8 = .ok (.iload_n 2, 1) := by decide +kernel
theorem d_A_init_9 : decode b_A_init 9 = .ok (.imul, 1) := by decide +kernel
theorem d_A_init_10 : decode b_A_init 10 = .ok (.newarray .int, 2) := by decide +kernel
theorem d_A_init_12 : decode b_A_init 12 = .ok (.putfield 11, 3) := by decide +kernel
theorem d_A_init_15 : decode b_A_init 15 = .ok (.aload_n 0, 1) := by decide +kernel
theorem d_A_init_16 : decode b_A_init 16 = .ok (.bipush 6, 2) := by decide +kernel
theorem d_A_init_18 : decode b_A_init 18 = .ok (.iload_n 1, 1) := by decide +kernel
theorem d_A_init_19 : decode b_A_init 19 = .ok (.imul, 1) := by decide +kernel
theorem d_A_init_20 : decode b_A_init 20 = .ok (.iload_n 2, 1) := by decide +kernel
theorem d_A_init_21 : decode b_A_init 21 = .ok (.imul, 1) := by decide +kernel
theorem d_A_init_22 : decode b_A_init 22 = .ok (.newarray .int, 2) := by decide +kernel
theorem d_A_init_24 : decode b_A_init 24 = .ok (.putfield 15, 3) := by decide +kernel
theorem d_A_init_27 : decode b_A_init 27 = .ok (.iconst 0, 1) := by decide +kernel
theorem d_A_init_28 : decode b_A_init 28 = .ok (.istore_n 3, 1) := by decide +kernel
theorem d_A_init_29 : decode b_A_init 29 = .ok (.iload_n 3, 1) := by decide +kernel
theorem d_A_init_30 : decode b_A_init 30 = .ok (.iload_n 2, 1) := by decide +kernel
theorem d_A_init_31 : decode b_A_init 31 = .ok (.if_icmp .ge 132, 3) := by decide +kernel
theorem d_A_init_34 : decode b_A_init 34 = .ok (.iconst 0, 1) := by decide +kernel
theorem d_A_init_35 : decode b_A_init 35 = .ok (.istore 4, 2) := by decide +kernel
theorem d_A_init_37 : decode b_A_init 37 = .ok (.iload 4, 2) := by decide +kernel
theorem d_A_init_39 : decode b_A_init 39 = .ok (.iload_n 1, 1) := by decide +kernel
theorem d_A_init_40 : decode b_A_init 40 = .ok (.if_icmp .ge 117, 3) := by decide +kernel
theorem d_A_init_43 : decode b_A_init 43 = .ok (.iload_n 1, 1) := by decide +kernel
theorem d_A_init_44 : decode b_A_init 44 = .ok (.iload_n 3, 1) := by decide +kernel
theorem d_A_init_45 : decode b_A_init 45 = .ok (.imul, 1) := by decide +kernel
theorem d_A_init_46 : decode b_A_init 46 = .ok (.iload 4, 2) := by decide +kernel
theorem d_A_init_48 : decode b_A_init 48 = .ok (.iadd, 1) := by decide +kernel
theorem d_A_init_49 : decode b_A_init 49 = .ok (.istore 5, 2) := by decide +kernel
theorem d_A_init_51 : decode b_A_init 51 = .ok (.aload_n 0, 1) := by decide +kernel
theorem d_A_init_52 : decode b_A_init 52 = .ok (.getfield 11, 3) := by decide +kernel
theorem d_A_init_55 : decode b_A_init 55 = .ok (.iconst 4, 1) := by decide +kernel
theorem d_A_init_56 : decode b_A_init 56 = .ok (.iload 5, 2) := by decide +kernel
theorem d_A_init_58 : decode b_A_init 58 = .ok (.imul, 1) := by decide +kernel
theorem d_A_init_59 : decode b_A_init 59 = .ok (.iconst 0, 1) := by decide +kernel
theorem d_A_init_60 : decode b_A_init 60 = .ok (.iadd, 1) := by decide +kernel
theorem d_A_init_61 : decode b_A_init 61 = .ok (.iload 4, 2) := by decide +kernel
theorem d_A_init_63 : decode b_A_init 63 = .ok (.ifCond .le 10, 3) := by decide +kernel
theorem d_A_init_66 : decode b_A_init 66 = .ok (.iload 5, 2) := by decide +kernel
theorem d_A_init_68 : decode b_A_init 68 = .ok (.iconst 1, 1) := by decide +kernel
theorem d_A_init_69 : decode b_A_init 69 = .ok (.isub, 1) := by decide +kernel
theorem d_A_init_70 : decode b_A_init 70 = .ok (.goto 4, 3) := by decide +kernel
theorem d_A_init_73 : decode b_A_init 73 = .ok (.iconst (-1), 1) := by decide +kernel
theorem d_A_init_74 : decode b_A_init 74 = .ok (.iastore, 1) := by decide +kernel
theorem d_A_init_75 : decode b_A_init 75 = .ok (.aload_n 0, 1) := by decide +kernel
theorem d_A_init_76 : decode b_A_init 76 = .ok (.getfield 11, 3) := by decide +kernel
theorem d_A_init_79 : decode b_A_init 79 = .ok (.iconst 4, 1) := by decide +kernel
theorem d_A_init_80 : decode b_A_init 80 = .ok (.iload 5, 2) := by decide +kernel
theorem d_A_init_82 : decode b_A_init 82 = .ok (.imul, 1) := by decide +kernel
theorem d_A_init_83 : decode b_A_init 83 = .ok (.iconst 1, 1) := by decide +kernel
theorem d_A_init_84 : decode b_A_init 84 = .ok (.iadd, 1) := by decide +kernel
theorem d_A_init_85 : decode b_A_init 85 = .ok (.iload_n 3, 1) := by decide +kernel
theorem d_A_init_86 : decode b_A_init 86 = .ok (.ifCond .le 10, 3) := by decide +kernel
theorem d_A_init_89 : decode b_A_init 89 = .ok (.iload 5, 2) := by decide +kernel
theorem d_A_init_91 : decode b_A_init 91 = .ok (.iload_n 1, 1) := by decide +kernel
theorem d_A_init_92 : decode b_A_init 92 = .ok (.isub, 1) := by decide +kernel
theorem d_A_init_93 : decode b_A_init 93 = .ok (.goto 4, 3) := by decide +kernel
theorem d_A_init_96 : decode b_A_init 96 = .ok (.iconst (-1), 1) := by decide +kernel
theorem d_A_init_97 : decode b_A_init 97 = .ok (.iastore, 1) := by decide +kernel
theorem d_A_init_98 : decode b_A_init 98 = .ok (.aload_n 0, 1) := by decide +kernel
theorem d_A_init_99 : decode b_A_init 99 = .ok (.getfield 11, 3) := by decide +kernel
theorem d_A_init_102 : decode b_A_init 102 = .ok (.iconst 4, 1) := by decide +kernel
theorem d_A_init_103 : decode b_A_init 103 = .ok (.iload 5, 2) := by decide +kernel
theorem d_A_init_105 : decode b_A_init 105 = .ok (.imul, 1) := by decide +kernel
theorem d_A_init_106 : decode b_A_init 106 = .ok (.iconst 2, 1) := by decide +kernel
theorem d_A_init_107 : decode b_A_init 107 = .ok (.iadd, 1) := by decide +kernel
theorem d_A_init_108 : decode b_A_init 108 = .ok (.iload 4, 2) := by decide +kernel
theorem d_A_init_110 : decode b_A_init 110 = .ok (.iload_n 1, 1) := by decide +kernel
theorem d_A_init_111 : decode b_A_init 111 = .ok (.iconst 1, 1) := by decide +kernel
theorem d_A_init_112 : decode b_A_init 112 = .ok (.isub, 1) := by decide +kernel
theorem d_A_init_113 : decode b_A_init 113 = .ok (.if_icmp .ge 10, 3) := by decide +kernel
theorem d_A_init_116 : decode b_A_init 116 = .ok (.iload 5, 2) := by decide +kernel
theorem d_A_init_118 : decode b_A_init 118 = .ok (.iconst 1, 1) := by decide +kernel
theorem d_A_init_119 : decode b_A_init 119 = .ok (.iadd, 1) := by decide +kernel
theorem d_A_init_120 : decode b_A_init 120 = .ok (.goto 4, 3) := by decide +kernel
theorem d_A_init_123 : decode b_A_init 123 = .ok (.iconst (-1), 1) := by decide +kernel
theorem d_A_init_124 : decode b_A_init 124 = .ok (.iastore, 1) := by decide +kernel
theorem d_A_init_125 : decode b_A_init 125 = .ok (.aload_n 0, 1) := by decide +kernel
theorem d_A_init_126 : decode b_A_init 126 = .ok (.getfield 11, 3) := by decide +kernel
theorem d_A_init_129 : decode b_A_init 129 = .ok (.iconst 4, 1) := by decide +kernel
theorem d_A_init_130 : decode b_A_init 130 = .ok (.iload 5, 2) := by decide +kernel
theorem d_A_init_132 : decode b_A_init 132 = .ok (.imul, 1) := by decide +kernel
theorem d_A_init_133 : decode b_A_init 133 = .ok (.iconst 3, 1) := by decide +kernel
theorem d_A_init_134 : decode b_A_init 134 = .ok (.iadd, 1) := by decide +kernel
theorem d_A_init_135 : decode b_A_init 135 = .ok (.iload_n 3, 1) := by decide +kernel
theorem d_A_init_136 : decode b_A_init 136 = .ok (.iload_n 2, 1) := by decide +kernel
theorem d_A_init_137 : decode b_A_init 137 = .ok (.iconst 1, 1) := by decide +kernel
theorem d_A_init_138 : decode b_A_init 138 = .ok (.isub, 1) := by decide +kernel
theorem d_A_init_139 : decode b_A_init 139 = .ok (.if_icmp .ge 10, 3) := by decide +kernel
theorem d_A_init_142 : decode b_A_init 142 = .ok (.iload 5, 2) := by decide +kernel
theorem d_A_init_144 : decode b_A_init 144 = .ok (.iload_n 1, 1) := by decide +kernel
theorem d_A_init_145 : decode b_A_init 145 = .ok (.iadd, 1) := by decide +kernel
theorem d_A_init_146 : decode b_A_init 146 = .ok (.goto 4, 3) := by decide +kernel
theorem d_A_init_149 : decode b_A_init 149 = .ok (.iconst (-1), 1) := by decide +kernel
theorem d_A_init_150 : decode b_A_init 150 = .ok (.iastore, 1) := by decide +kernel
theorem d_A_init_151 : decode b_A_init 151 = .ok (.iinc 4 1, 3) := by decide +kernel
theorem d_A_init_154 : decode b_A_init 154 = .ok (.goto (-117), 3) := by decide +kernel
theorem d_A_init_157 : decode b_A_init 157 = .ok (.iinc 3 1, 3) := by decide +kernel
theorem d_A_init_160 : decode b_A_init 160 = .ok (.goto (-131), 3) := by decide +kernel
theorem d_A_init_163 : decode b_A_init 163 = .ok (.return_, 1) := by decide +kernel
theorem d_Q_init_0 : decode b_Q_init 0 = .ok (.aload_n 0, 1) := by decide +kernel
theorem d_Q_init_1 : decode b_Q_init 1 = .ok (.invokespecial 3, 3) := by decide +kernel
theorem d_Q_init_4 : decode b_Q_init 4 = .ok (.aload_n 0, 1) := by decide +kernel
theorem d_Q_init_5 : decode b_Q_init 5 = .ok (.iconst 0, 1) := by decide +kernel
theorem d_Q_init_6 : decode b_Q_init 6 = .ok (.iload_n 1, 1) := by decide +kernel
theorem d_Q_init_7 : decode b_Q_init 7 = .ok (.invokestatic 9, 3) := by decide +kernel
theorem d_Q_init_10 : decode b_Q_init 10 = .ok (.newarray .int, 2) := by decide +kernel
theorem d_Q_init_12 : decode b_Q_init 12 = .ok (.putfield 15, 3) := by decide +kernel
theorem d_Q_init_15 : decode b_Q_init 15 = .ok (.return_, 1) := by decide +kernel
theorem d_A_hasTile_0 : decode b_A_hasTile 0 = .ok (.iload_n 1, 1) := by decide +kernel
theorem d_A_hasTile_1 : decode b_A_hasTile 1 = .ok (.ifCond .lt 19, 3) := by decide +kernel
theorem d_A_hasTile_4 : decode b_A_hasTile 4 = .ok (.iload_n 1, 1) := by decide +kernel
theorem d_A_hasTile_5 : decode b_A_hasTile 5 = .ok (.aload_n 0, 1) := by decide +kernel
theorem d_A_hasTile_6 : decode b_A_hasTile 6 = .ok (.getfield 15, 3) := by decide +kernel
theorem d_A_hasTile_9 : decode b_A_hasTile 9 = .ok (.arraylength, 1) := by decide +kernel
theorem d_A_hasTile_10 : decode b_A_hasTile 10 = .ok (.bipush 6, 2) := by decide +kernel
theorem d_A_hasTile_12 : decode b_A_hasTile 12 = .ok (.idiv, 1) := by decide +kernel
theorem d_A_hasTile_13 : decode b_A_hasTile 13 = .ok (.if_icmp .ge 7, 3) := by decide +kernel
theorem d_A_hasTile_16 : decode b_A_hasTile 16 = .ok (.iconst 1, 1) := by decide +kernel
theorem d_A_hasTile_17 : decode b_A_hasTile 17 = .ok (.goto 4, 3) := by decide +kernel
theorem d_A_hasTile_20 : decode b_A_hasTile 20 = .ok (.iconst 0, 1) := by decide +kernel
theorem d_A_hasTile_21 : decode b_A_hasTile 21 = .ok (.ireturn, 1) := by decide +kernel
theorem d_A_kindsIn_0 : decode b_A_kindsIn 0 = .ok (.iconst 0, 1) := by decide +kernel
theorem d_A_kindsIn_1 : decode b_A_kindsIn 1 = .ok (.istore_n 2, 1) := by decide +kernel
theorem d_A_kindsIn_2 : decode b_A_kindsIn 2 = .ok (.iconst 0, 1) := by decide +kernel
theorem d_A_kindsIn_3 : decode b_A_kindsIn 3 = .ok (.istore_n 3, 1) := by decide +kernel
theorem d_A_kindsIn_4 : decode b_A_kindsIn 4 = .ok (.iload_n 3, 1) := by decide +kernel
theorem d_A_kindsIn_5 : decode b_A_kindsIn 5 = .ok (.bipush 6, 2) := by decide +kernel
theorem d_A_kindsIn_7 : decode b_A_kindsIn 7 = .ok (.if_icmp .ge 28, 3) := by decide +kernel
theorem d_A_kindsIn_10 : decode b_A_kindsIn 10 = .ok (.aload_n 0, 1) := by decide +kernel
theorem d_A_kindsIn_11 : decode b_A_kindsIn 11 = .ok (.bipush 6, 2) := by decide +kernel
theorem d_A_kindsIn_13 : decode b_A_kindsIn 13 = .ok (.iload_n 1, 1) := by decide +kernel
theorem d_A_kindsIn_14 : decode b_A_kindsIn 14 = .ok (.imul, 1) := by decide +kernel
theorem d_A_kindsIn_15 : decode b_A_kindsIn 15 = .ok (.iload_n 3, 1) := by decide +kernel
theorem d_A_kindsIn_16 : decode b_A_kindsIn 16 = .ok (.iadd, 1) := by decide +kernel
theorem d_A_kindsIn_17 : decode b_A_kindsIn 17 = .ok (.invokevirtual 18, 3) := by decide +kernel
theorem d_A_kindsIn_20 : decode b_A_kindsIn 20 = .ok (.ifCond .eq 9, 3) := by decide +kernel
theorem d_A_kindsIn_23 : decode b_A_kindsIn 23 = .ok (.iload_n 2, 1) := by decide +kernel
theorem d_A_kindsIn_24 : decode b_A_kindsIn 24 = .ok (.iconst 1, 1) := by decide +kernel
theorem d_A_kindsIn_25 : decode b_A_kindsIn 25 = .ok (.iload_n 3, 1) := by decide +kernel
theorem d_A_kindsIn_26 : decode b_A_kindsIn 26 = .ok (.ishl, 1) := by decide +kernel
theorem d_A_kindsIn_27 : decode b_A_kindsIn 27 = .ok (.ior, 1) := by decide +kernel
theorem d_A_kindsIn_28 : decode b_A_kindsIn 28 = .ok (.istore_n 2, 1) := by decide +kernel
theorem d_A_kindsIn_29 : decode b_A_kindsIn 29 = .ok (.iinc 3 1, 3) := by decide +kernel
theorem d_A_kindsIn_32 : decode b_A_kindsIn 32 = .ok (.goto (-28), 3) := by decide +kernel
theorem d_A_kindsIn_35 : decode b_A_kindsIn 35 = .ok (.iload_n 2, 1) := by decide +kernel
theorem d_A_kindsIn_36 : decode b_A_kindsIn 36 = .ok (.ireturn, 1) := by decide +kernel
theorem d_A_isThere_0 : decode b_A_isThere 0 = .ok (.aload_n 0, 1) := by decide +kernel
theorem d_A_isThere_1 : decode b_A_isThere 1 = .ok (.getfield 15, 3) := by decide +kernel
theorem d_A_isThere_4 : decode b_A_isThere 4 = .ok (.iload_n 1, 1) := by decide +kernel
theorem d_A_isThere_5 : decode b_A_isThere 5 = .ok (.iaload, 1) := by decide +kernel
theorem d_A_isThere_6 : decode b_A_isThere 6 = .ok (.ifCond .eq 7, 3) := by decide +kernel
theorem d_A_isThere_9 : decode b_A_isThere 9 = .ok (.iconst 1, 1) := by decide +kernel
theorem d_A_isThere_10 : decode b_A_isThere 10 = .ok (.goto 4, 3) := by decide +kernel
theorem d_A_isThere_13 : decode b_A_isThere 13 = .ok (.iconst 0, 1) := by decide +kernel
theorem d_A_isThere_14 : decode b_A_isThere 14 = .ok (.ireturn, 1) := by decide +kernel
theorem d_A_isOpen_0 : decode b_A_isOpen 0 = .ok (.iload_n 1, 1) := by decide +kernel
theorem d_A_isOpen_1 : decode b_A_isOpen 1 = .ok (.ifCond .lt 38, 3) := by decide +kernel
theorem d_A_isOpen_4 : decode b_A_isOpen 4 = .ok (.iload_n 1, 1) := by decide +kernel
theorem d_A_isOpen_5 : decode b_A_isOpen 5 = .ok (.iconst 2, 1) := by decide +kernel
theorem d_A_isOpen_6 : decode b_A_isOpen 6 = .ok (.aload_n 0, 1) := by decide +kernel
theorem d_A_isOpen_7 : decode b_A_isOpen 7 = .ok (.getfield 15, 3) := by decide +kernel
theorem d_A_isOpen_10 : decode b_A_isOpen 10 = .ok (.arraylength, 1) := by decide +kernel
theorem d_A_isOpen_11 : decode b_A_isOpen 11 = .ok (.imul, 1) := by decide +kernel
theorem d_A_isOpen_12 : decode b_A_isOpen 12 = .ok (.if_icmp .ge 27, 3) := by decide +kernel
theorem d_A_isOpen_15 : decode b_A_isOpen 15 = .ok (.aload_n 0, 1) := by decide +kernel
theorem d_A_isOpen_16 : decode b_A_isOpen 16 = .ok (.iload_n 1, 1) := by decide +kernel
theorem d_A_isOpen_17 : decode b_A_isOpen 17 = .ok (.iconst 2, 1) := by decide +kernel
theorem d_A_isOpen_18 : decode b_A_isOpen 18 = .ok (.idiv, 1) := by decide +kernel
theorem d_A_isOpen_19 : decode b_A_isOpen 19 = .ok (.invokevirtual 18, 3) := by decide +kernel
theorem d_A_isOpen_22 : decode b_A_isOpen 22 = .ok (.ifCond .eq 17, 3) := by decide +kernel
theorem d_A_isOpen_25 : decode b_A_isOpen 25 = .ok (.aload_n 0, 1) := by decide +kernel
theorem d_A_isOpen_26 : decode b_A_isOpen 26 = .ok (.iload_n 1, 1) := by decide +kernel
theorem d_A_isOpen_27 : decode b_A_isOpen 27 = .ok (.iconst 1, 1) := by decide +kernel
theorem d_A_isOpen_28 : decode b_A_isOpen 28 = .ok (.ixor, 1) := by decide +kernel
theorem d_A_isOpen_29 : decode b_A_isOpen 29 = .ok (.invokevirtual 26, 3) := by decide +kernel
theorem d_A_isOpen_32 : decode b_A_isOpen 32 = .ok (.ifCond .ne 7, 3) := by decide +kernel
theorem d_A_isOpen_35 : decode b_A_isOpen 35 = .ok (.iconst 1, 1) := by decide +kernel
theorem d_A_isOpen_36 : decode b_A_isOpen 36 = .ok (.goto 4, 3) := by decide +kernel
theorem d_A_isOpen_39 : decode b_A_isOpen 39 = .ok (.iconst 0, 1) := by decide +kernel
theorem d_A_isOpen_40 : decode b_A_isOpen 40 = .ok (.ireturn, 1) := by decide +kernel
theorem d_A_hasSignal_0 : decode b_A_hasSignal 0 = .ok (.aload_n 0, 1) := by decide +kernel
theorem d_A_hasSignal_1 : decode b_A_hasSignal 1 = .ok (.iload_n 1, 1) := by decide +kernel
theorem d_A_hasSignal_2 : decode b_A_hasSignal 2 = .ok (.iconst 2, 1) := by decide +kernel
theorem d_A_hasSignal_3 : decode b_A_hasSignal 3 = .ok (.idiv, 1) := by decide +kernel
theorem d_A_hasSignal_4 : decode b_A_hasSignal 4 = .ok (.invokevirtual 22, 3) := by decide +kernel
theorem d_A_hasSignal_7 : decode b_A_hasSignal 7 = .ok (.istore_n 2, 1) := by decide +kernel
theorem d_A_hasSignal_8 : decode b_A_hasSignal 8 = .ok (.iload_n 2, 1) := by decide +kernel
theorem d_A_hasSignal_9 : decode b_A_hasSignal 9 = .ok (.ifCond .eq 18, 3) := by decide +kernel
theorem d_A_hasSignal_12 : decode b_A_hasSignal 12 = .ok (.iload_n 2, 1) := by decide +kernel
theorem d_A_hasSignal_13 : decode b_A_hasSignal 13 = .ok (.iconst 1, 1) := by decide +kernel
theorem d_A_hasSignal_14 : decode b_A_hasSignal 14 = .ok (.isub, 1) := by decide +kernel
theorem d_A_hasSignal_15 : decode b_A_hasSignal 15 = .ok (.iconst 1, 1) := by decide +kernel
theorem d_A_hasSignal_16 : decode b_A_hasSignal 16 = .ok (.iand, 1) := by decide +kernel
theorem d_A_hasSignal_17 : decode b_A_hasSignal 17 = .ok (.iload_n 1, 1) := by decide +kernel
theorem d_A_hasSignal_18 : decode b_A_hasSignal 18 = .ok (.iconst 1, 1) := by decide +kernel
theorem d_A_hasSignal_19 : decode b_A_hasSignal 19 = .ok (.iand, 1) := by decide +kernel
theorem d_A_hasSignal_20 : decode b_A_hasSignal 20 = .ok (.if_icmp .ne 7, 3) := by decide +kernel
theorem d_A_hasSignal_23 : decode b_A_hasSignal 23 = .ok (.iconst 1, 1) := by decide +kernel
theorem d_A_hasSignal_24 : decode b_A_hasSignal 24 = .ok (.goto 4, 3) := by decide +kernel
theorem d_A_hasSignal_27 : decode b_A_hasSignal 27 = .ok (.iconst 0, 1) := by decide +kernel
theorem d_A_hasSignal_28 : decode b_A_hasSignal 28 = .ok (.ireturn, 1) := by decide +kernel
theorem d_A_signalOf_0 : decode b_A_signalOf 0 = .ok (.aload_n 0, 1) := by decide +kernel
theorem d_A_signalOf_1 : decode b_A_signalOf 1 = .ok (.getfield 15, 3) := by decide +kernel
theorem d_A_signalOf_4 : decode b_A_signalOf 4 = .ok (.iload_n 1, 1) := by decide +kernel
theorem d_A_signalOf_5 : decode b_A_signalOf 5 = .ok (.iaload, 1) := by decide +kernel
theorem d_A_signalOf_6 : decode b_A_signalOf 6 = .ok (.bipush 28, 2) := by decide +kernel
theorem d_A_signalOf_8 : decode b_A_signalOf 8 = .ok (.iand, 1) := by decide +kernel
theorem d_A_signalOf_9 : decode b_A_signalOf 9 = .ok (.iconst 2, 1) := by decide +kernel
theorem d_A_signalOf_10 : decode b_A_signalOf 10 = .ok (.ishr, 1) := by decide +kernel
theorem d_A_signalOf_11 : decode b_A_signalOf 11 = .ok (.ireturn, 1) := by decide +kernel
theorem d_A_ahead_0 : decode b_A_ahead 0 = .ok (.getstatic 32, 3) := by decide +kernel
theorem d_A_ahead_3 : decode b_A_ahead 3 = .ok (.iload_n 1, 1) := by decide +kernel
theorem d_A_ahead_4 : decode b_A_ahead 4 = .ok (.bipush 12, 2) := by decide +kernel
theorem d_A_ahead_6 : decode b_A_ahead 6 = .ok (.irem, 1) := by decide +kernel
theorem d_A_ahead_7 : decode b_A_ahead 7 = .ok (.iaload, 1) := by decide +kernel
theorem d_A_ahead_8 : decode b_A_ahead 8 = .ok (.istore_n 3, 1) := by decide +kernel
theorem d_A_ahead_9 : decode b_A_ahead 9 = .ok (.aload_n 0, 1) := by decide +kernel
theorem d_A_ahead_10 : decode b_A_ahead 10 = .ok (.getfield 11, 3) := by decide +kernel
theorem d_A_ahead_13 : decode b_A_ahead 13 = .ok (.iconst 4, 1) := by decide +kernel
theorem d_A_ahead_14 : decode b_A_ahead 14 = .ok (.iload_n 1, 1) := by decide +kernel
theorem d_A_ahead_15 : decode b_A_ahead 15 = .ok (.bipush 12, 2) := by decide +kernel
theorem d_A_ahead_17 : decode b_A_ahead 17 = .ok (.idiv, 1) := by decide +kernel
theorem d_A_ahead_18 : decode b_A_ahead 18 = .ok (.imul, 1) := by decide +kernel
theorem d_A_ahead_19 : decode b_A_ahead 19 = .ok (.iload_n 3, 1) := by decide +kernel
theorem d_A_ahead_20 : decode b_A_ahead 20 = .ok (.iadd, 1) := by decide +kernel
theorem d_A_ahead_21 : decode b_A_ahead 21 = .ok (.iaload, 1) := by decide +kernel
theorem d_A_ahead_22 : decode b_A_ahead 22 = .ok (.istore 4, 2) := by decide +kernel
theorem d_A_ahead_24 : decode b_A_ahead 24 = .ok (.iload 4, 2) := by decide +kernel
theorem d_A_ahead_26 : decode b_A_ahead 26 = .ok (.iconst (-1), 1) := by decide +kernel
theorem d_A_ahead_27 : decode b_A_ahead 27 = .ok (.if_icmp .ne 7, 3) := by decide +kernel
theorem d_A_ahead_30 : decode b_A_ahead 30 = .ok (.iconst (-1), 1) := by decide +kernel
theorem d_A_ahead_31 : decode b_A_ahead 31 = .ok (.goto 18, 3) := by decide +kernel
theorem d_A_ahead_34 : decode b_A_ahead 34 = .ok (.bipush 12, 2) := by decide +kernel
theorem d_A_ahead_36 : decode b_A_ahead 36 = .ok (.iload 4, 2) := by decide +kernel
theorem d_A_ahead_38 : decode b_A_ahead 38 = .ok (.imul, 1) := by decide +kernel
theorem d_A_ahead_39 : decode b_A_ahead 39 = .ok (.getstatic 35, 3) := by decide +kernel
theorem d_A_ahead_42 : decode b_A_ahead 42 = .ok (.iconst 3, 1) := by decide +kernel
theorem d_A_ahead_43 : decode b_A_ahead 43 = .ok (.iload_n 3, 1) := by decide +kernel
theorem d_A_ahead_44 : decode b_A_ahead 44 = .ok (.imul, 1) := by decide +kernel
theorem d_A_ahead_45 : decode b_A_ahead 45 = .ok (.iload_n 2, 1) := by decide +kernel
theorem d_A_ahead_46 : decode b_A_ahead 46 = .ok (.iadd, 1) := by decide +kernel
theorem d_A_ahead_47 : decode b_A_ahead 47 = .ok (.iaload, 1) := by decide +kernel
theorem d_A_ahead_48 : decode b_A_ahead 48 = .ok (.iadd, 1) := by decide +kernel
theorem d_A_ahead_49 : decode b_A_ahead 49 = .ok (.ireturn, 1) := by decide +kernel
theorem d_A_behind_0 : decode b_A_behind 0 = .ok (.aload_n 0, 1) := by decide +kernel
theorem d_A_behind_1 : decode b_A_behind 1 = .ok (.iload_n 1, 1) := by decide +kernel
theorem d_A_behind_2 : decode b_A_behind 2 = .ok (.iconst 1, 1) := by decide +kernel
theorem d_A_behind_3 : decode b_A_behind 3 = .ok (.ixor, 1) := by decide +kernel
theorem d_A_behind_4 : decode b_A_behind 4 = .ok (.iload_n 2, 1) := by decide +kernel
theorem d_A_behind_5 : decode b_A_behind 5 = .ok (.invokevirtual 38, 3) := by decide +kernel
theorem d_A_behind_8 : decode b_A_behind 8 = .ok (.istore_n 3, 1) := by decide +kernel
theorem d_A_behind_9 : decode b_A_behind 9 = .ok (.iload_n 3, 1) := by decide +kernel
theorem d_A_behind_10 : decode b_A_behind 10 = .ok (.iconst (-1), 1) := by decide +kernel
theorem d_A_behind_11 : decode b_A_behind 11 = .ok (.if_icmp .ne 7, 3) := by decide +kernel
theorem d_A_behind_14 : decode b_A_behind 14 = .ok (.iconst (-1), 1) := by decide +kernel
theorem d_A_behind_15 : decode b_A_behind 15 = .ok (.goto 6, 3) := by decide +kernel
theorem d_A_behind_18 : decode b_A_behind 18 = .ok (.iload_n 3, 1) := by decide +kernel
theorem d_A_behind_19 : decode b_A_behind 19 = .ok (.iconst 1, 1) := by decide +kernel
theorem d_A_behind_20 : decode b_A_behind 20 = .ok (.ixor, 1) := by decide +kernel
theorem d_A_behind_21 : decode b_A_behind 21 = .ok (.ireturn, 1) := by decide +kernel
theorem d_Q_clear_0 : decode b_Q_clear 0 = .ok (.aload_n 0, 1) := by decide +kernel
theorem d_Q_clear_1 : decode b_Q_clear 1 = .ok (.iconst 0, 1) := by decide +kernel
theorem d_Q_clear_2 : decode b_Q_clear 2 = .ok (.putfield 21, 3) := by decide +kernel
theorem d_Q_clear_5 : decode b_Q_clear 5 = .ok (.aload_n 0, 1) := by decide +kernel
theorem d_Q_clear_6 : decode b_Q_clear 6 = .ok (.iconst 0, 1) := by decide +kernel
theorem d_Q_clear_7 : decode b_Q_clear 7 = .ok (.putfield 25, 3) := by decide +kernel
theorem d_Q_clear_10 : decode b_Q_clear 10 = .ok (.return_, 1) := by decide +kernel
theorem d_Q_add_0 : decode b_Q_add 0 = .ok (.aload_n 0, 1) := by decide +kernel
theorem d_Q_add_1 : decode b_Q_add 1 = .ok (.getfield 25, 3) := by decide +kernel
theorem d_Q_add_4 : decode b_Q_add 4 = .ok (.aload_n 0, 1) := by decide +kernel
theorem d_Q_add_5 : decode b_Q_add 5 = .ok (.getfield 15, 3) := by decide +kernel
theorem d_Q_add_8 : decode b_Q_add 8 = .ok (.arraylength, 1) := by decide +kernel
theorem d_Q_add_9 : decode b_Q_add 9 = .ok (.if_icmp .ge 23, 3) := by decide +kernel
theorem d_Q_add_12 : decode b_Q_add 12 = .ok (.aload_n 0, 1) := by decide +kernel
theorem d_Q_add_13 : decode b_Q_add 13 = .ok (.getfield 15, 3) := by decide +kernel
theorem d_Q_add_16 : decode b_Q_add 16 = .ok (.aload_n 0, 1) := by decide +kernel
theorem d_Q_add_17 : decode b_Q_add 17 = .ok (.getfield 25, 3) := by decide +kernel
theorem d_Q_add_20 : decode b_Q_add 20 = .ok (.iload_n 1, 1) := by decide +kernel
theorem d_Q_add_21 : decode b_Q_add 21 = .ok (.iastore, 1) := by decide +kernel
theorem d_Q_add_22 : decode b_Q_add 22 = .ok (.aload_n 0, 1) := by decide +kernel
theorem d_Q_add_23 : decode b_Q_add 23 = .ok (.dup, 1) := by decide +kernel
theorem d_Q_add_24 : decode b_Q_add 24 = .ok (.getfield 25, 3) := by decide +kernel
theorem d_Q_add_27 : decode b_Q_add 27 = .ok (.iconst 1, 1) := by decide +kernel
theorem d_Q_add_28 : decode b_Q_add 28 = .ok (.iadd, 1) := by decide +kernel
theorem d_Q_add_29 : decode b_Q_add 29 = .ok (.putfield 25, 3) := by decide +kernel
theorem d_Q_add_32 : decode b_Q_add 32 = .ok (.return_, 1) := by decide +kernel
theorem d_Q_isEmpty_0 : decode b_Q_isEmpty 0 = .ok (.aload_n 0, 1) := by decide +kernel
theorem d_Q_isEmpty_1 : decode b_Q_isEmpty 1 = .ok (.getfield 21, 3) := by decide +kernel
theorem d_Q_isEmpty_4 : decode b_Q_isEmpty 4 = .ok (.aload_n 0, 1) := by decide +kernel
theorem d_Q_isEmpty_5 : decode b_Q_isEmpty 5 = .ok (.getfield 25, 3) := by decide +kernel
theorem d_Q_isEmpty_8 : decode b_Q_isEmpty 8 = .ok (.if_icmp .lt 7, 3) := by decide +kernel
theorem d_Q_isEmpty_11 : decode b_Q_isEmpty 11 = .ok (.iconst 1, 1) := by decide +kernel
theorem d_Q_isEmpty_12 : decode b_Q_isEmpty 12 = .ok (.goto 4, 3) := by decide +kernel
theorem d_Q_isEmpty_15 : decode b_Q_isEmpty 15 = .ok (.iconst 0, 1) := by decide +kernel
theorem d_Q_isEmpty_16 : decode b_Q_isEmpty 16 = .ok (.ireturn, 1) := by decide +kernel
theorem d_Q_take_0 : decode b_Q_take 0 = .ok (.aload_n 0, 1) := by decide +kernel
theorem d_Q_take_1 : decode b_Q_take 1 = .ok (.invokevirtual 28, 3) := by decide +kernel
theorem d_Q_take_4 : decode b_Q_take 4 = .ok (.ifCond .eq 5, 3) := by decide +kernel
theorem d_Q_take_7 : decode b_Q_take 7 = .ok (.iconst (-1), 1) := by decide +kernel
theorem d_Q_take_8 : decode b_Q_take 8 = .ok (.ireturn, 1) := by decide +kernel
theorem d_Q_take_9 : decode b_Q_take 9 = .ok (.aload_n 0, 1) := by decide +kernel
theorem d_Q_take_10 : decode b_Q_take 10 = .ok (.getfield 15, 3) := by decide +kernel
theorem d_Q_take_13 : decode b_Q_take 13 = .ok (.aload_n 0, 1) := by decide +kernel
theorem d_Q_take_14 : decode b_Q_take 14 = .ok (.getfield 21, 3) := by decide +kernel
theorem d_Q_take_17 : decode b_Q_take 17 = .ok (.iaload, 1) := by decide +kernel
theorem d_Q_take_18 : decode b_Q_take 18 = .ok (.istore_n 1, 1) := by decide +kernel
theorem d_Q_take_19 : decode b_Q_take 19 = .ok (.aload_n 0, 1) := by decide +kernel
theorem d_Q_take_20 : decode b_Q_take 20 = .ok (.dup, 1) := by decide +kernel
theorem d_Q_take_21 : decode b_Q_take 21 = .ok (.getfield 21, 3) := by decide +kernel
theorem d_Q_take_24 : decode b_Q_take 24 = .ok (.iconst 1, 1) := by decide +kernel
theorem d_Q_take_25 : decode b_Q_take 25 = .ok (.iadd, 1) := by decide +kernel
theorem d_Q_take_26 : decode b_Q_take 26 = .ok (.putfield 21, 3) := by decide +kernel
theorem d_Q_take_29 : decode b_Q_take 29 = .ok (.iload_n 1, 1) := by decide +kernel
theorem d_Q_take_30 : decode b_Q_take 30 = .ok (.ireturn, 1) := by decide +kernel
theorem d_A_stationOf_0 : decode b_A_stationOf 0 = .ok (.aload_n 0, 1) := by decide +kernel
theorem d_A_stationOf_1 : decode b_A_stationOf 1 = .ok (.getfield 15, 3) := by decide +kernel
theorem d_A_stationOf_4 : decode b_A_stationOf 4 = .ok (.iload_n 1, 1) := by decide +kernel
theorem d_A_stationOf_5 : decode b_A_stationOf 5 = .ok (.iaload, 1) := by decide +kernel
theorem d_A_stationOf_6 : decode b_A_stationOf 6 = .ok (.sipush 480, 3) := by decide +kernel
theorem d_A_stationOf_9 : decode b_A_stationOf 9 = .ok (.iand, 1) := by decide +kernel
theorem d_A_stationOf_10 : decode b_A_stationOf 10 = .ok (.iconst 5, 1) := by decide +kernel
theorem d_A_stationOf_11 : decode b_A_stationOf 11 = .ok (.ishr, 1) := by decide +kernel
theorem d_A_stationOf_12 : decode b_A_stationOf 12 = .ok (.iconst 1, 1) := by decide +kernel
theorem d_A_stationOf_13 : decode b_A_stationOf 13 = .ok (.isub, 1) := by decide +kernel
theorem d_A_stationOf_14 : decode b_A_stationOf 14 = .ok (.ireturn, 1) := by decide +kernel
theorem d_A_isLastOf_0 : decode b_A_isLastOf 0 = .ok (.aload_n 0, 1) := by decide +kernel
theorem d_A_isLastOf_1 : decode b_A_isLastOf 1 = .ok (.iload_n 1, 1) := by decide +kernel
theorem d_A_isLastOf_2 : decode b_A_isLastOf 2 = .ok (.iconst 2, 1) := by decide +kernel
theorem d_A_isLastOf_3 : decode b_A_isLastOf 3 = .ok (.idiv, 1) := by decide +kernel
theorem d_A_isLastOf_4 : decode b_A_isLastOf 4 = .ok (.invokevirtual 42, 3) := by decide +kernel
theorem d_A_isLastOf_7 : decode b_A_isLastOf 7 = .ok (.iload_n 2, 1) := by decide +kernel
theorem d_A_isLastOf_8 : decode b_A_isLastOf 8 = .ok (.if_icmp .eq 5, 3) := by decide +kernel
theorem d_A_isLastOf_11 : decode b_A_isLastOf 11 = .ok (.iconst 0, 1) := by decide +kernel
theorem d_A_isLastOf_12 : decode b_A_isLastOf 12 = .ok (.ireturn, 1) := by decide +kernel
theorem d_A_isLastOf_13 : decode b_A_isLastOf 13 = .ok (.iconst 0, 1) := by decide +kernel
theorem d_A_isLastOf_14 : decode b_A_isLastOf 14 = .ok (.istore_n 3, 1) := by decide +kernel
theorem d_A_isLastOf_15 : decode b_A_isLastOf 15 = .ok (.iload_n 3, 1) := by decide +kernel
theorem d_A_isLastOf_16 : decode b_A_isLastOf 16 = .ok (.iconst 3, 1) := by decide +kernel
theorem d_A_isLastOf_17 : decode b_A_isLastOf 17 = .ok (.if_icmp .ge 40, 3) := by decide +kernel
theorem d_A_isLastOf_20 : decode b_A_isLastOf 20 = .ok (.aload_n 0, 1) := by decide +kernel
theorem d_A_isLastOf_21 : decode b_A_isLastOf 21 = .ok (.iload_n 1, 1) := by decide +kernel
theorem d_A_isLastOf_22 : decode b_A_isLastOf 22 = .ok (.iload_n 3, 1) := by decide +kernel
theorem d_A_isLastOf_23 : decode b_A_isLastOf 23 = .ok (.invokevirtual 38, 3) := by decide +kernel
theorem d_A_isLastOf_26 : decode b_A_isLastOf 26 = .ok (.istore 4, 2) := by decide +kernel
theorem d_A_isLastOf_28 : decode b_A_isLastOf 28 = .ok (.aload_n 0, 1) := by decide +kernel
theorem d_A_isLastOf_29 : decode b_A_isLastOf 29 = .ok (.iload 4, 2) := by decide +kernel
theorem d_A_isLastOf_31 : decode b_A_isLastOf 31 = .ok (.invokevirtual 45, 3) := by decide +kernel
theorem d_A_isLastOf_34 : decode b_A_isLastOf 34 = .ok (.ifCond .eq 17, 3) := by decide +kernel
theorem d_A_isLastOf_37 : decode b_A_isLastOf 37 = .ok (.aload_n 0, 1) := by decide +kernel
theorem d_A_isLastOf_38 : decode b_A_isLastOf 38 = .ok (.iload 4, 2) := by decide +kernel
theorem d_A_isLastOf_40 : decode b_A_isLastOf 40 = .ok (.iconst 2, 1) := by decide +kernel
theorem d_A_isLastOf_41 : decode b_A_isLastOf 41 = .ok (.idiv, 1) := by decide +kernel
theorem d_A_isLastOf_42 : decode b_A_isLastOf 42 = .ok (.invokevirtual 42, 3) := by decide +kernel
theorem d_A_isLastOf_45 : decode b_A_isLastOf 45 = .ok (.iload_n 2, 1) := by decide +kernel
theorem d_A_isLastOf_46 : decode b_A_isLastOf 46 = .ok (.if_icmp .ne 5, 3) := by decide +kernel
theorem d_A_isLastOf_49 : decode b_A_isLastOf 49 = .ok (.iconst 0, 1) := by decide +kernel
theorem d_A_isLastOf_50 : decode b_A_isLastOf 50 = .ok (.ireturn, 1) := by decide +kernel
theorem d_A_isLastOf_51 : decode b_A_isLastOf 51 = .ok (.iinc 3 1, 3) := by decide +kernel
theorem d_A_isLastOf_54 : decode b_A_isLastOf 54 = .ok (.goto (-39), 3) := by decide +kernel
theorem d_A_isLastOf_57 : decode b_A_isLastOf 57 = .ok (.iconst 1, 1) := by decide +kernel
theorem d_A_isLastOf_58 : decode b_A_isLastOf 58 = .ok (.ireturn, 1) := by decide +kernel
theorem d_A_isStraight_0 : decode b_A_isStraight 0 = .ok (.iload_n 1, 1) := by decide +kernel
theorem d_A_isStraight_1 : decode b_A_isStraight 1 = .ok (.iconst 2, 1) := by decide +kernel
theorem d_A_isStraight_2 : decode b_A_isStraight 2 = .ok (.idiv, 1) := by decide +kernel
theorem d_A_isStraight_3 : decode b_A_isStraight 3 = .ok (.bipush 6, 2) := by decide +kernel
theorem d_A_isStraight_5 : decode b_A_isStraight 5 = .ok (.irem, 1) := by decide +kernel
theorem d_A_isStraight_6 : decode b_A_isStraight 6 = .ok (.iconst 2, 1) := by decide +kernel
theorem d_A_isStraight_7 : decode b_A_isStraight 7 = .ok (.if_icmp .ge 7, 3) := by decide +kernel
theorem d_A_isStraight_10 : decode b_A_isStraight 10 = .ok (.iconst 1, 1) := by decide +kernel
theorem d_A_isStraight_11 : decode b_A_isStraight 11 = .ok (.goto 4, 3) := by decide +kernel
theorem d_A_isStraight_14 : decode b_A_isStraight 14 = .ok (.iconst 0, 1) := by decide +kernel
theorem d_A_isStraight_15 : decode b_A_isStraight 15 = .ok (.ireturn, 1) := by decide +kernel
theorem d_Q_first_0 : decode b_Q_first 0 = .ok (.aload_n 0, 1) := by decide +kernel
theorem d_Q_first_1 : decode b_Q_first 1 = .ok (.invokevirtual 28, 3) := by decide +kernel
theorem d_Q_first_4 : decode b_Q_first 4 = .ok (.ifCond .eq 7, 3) := by decide +kernel
theorem d_Q_first_7 : decode b_Q_first 7 = .ok (.iconst (-1), 1) := by decide +kernel
theorem d_Q_first_8 : decode b_Q_first 8 = .ok (.goto 12, 3) := by decide +kernel
theorem d_Q_first_11 : decode b_Q_first 11 = .ok (.aload_n 0, 1) := by decide +kernel
theorem d_Q_first_12 : decode b_Q_first 12 = .ok (.getfield 15, 3) := by decide +kernel
theorem d_Q_first_15 : decode b_Q_first 15 = .ok (.aload_n 0, 1) := by decide +kernel
theorem d_Q_first_16 : decode b_Q_first 16 = .ok (.getfield 21, 3) := by decide +kernel
theorem d_Q_first_19 : decode b_Q_first 19 = .ok (.iaload, 1) := by decide +kernel
theorem d_Q_first_20 : decode b_Q_first 20 = .ok (.ireturn, 1) := by decide +kernel
theorem d_A_lengthOf_0 : decode b_A_lengthOf 0 = .ok (.aload_n 0, 1) := by decide +kernel
theorem d_A_lengthOf_1 : decode b_A_lengthOf 1 = .ok (.iload_n 1, 1) := by decide +kernel
theorem d_A_lengthOf_2 : decode b_A_lengthOf 2 = .ok (.invokevirtual 29, 3) := by decide +kernel
theorem d_A_lengthOf_5 : decode b_A_lengthOf 5 = .ok (.ifCond .eq 8, 3) := by decide +kernel
theorem d_A_lengthOf_8 : decode b_A_lengthOf 8 = .ok (.bipush 16, 2) := by decide +kernel
theorem d_A_lengthOf_10 : decode b_A_lengthOf 10 = .ok (.goto 5, 3) := by decide +kernel
theorem d_A_lengthOf_13 : decode b_A_lengthOf 13 = .ok (.bipush 12, 2) := by decide +kernel
theorem d_A_lengthOf_15 : decode b_A_lengthOf 15 = .ok (.ireturn, 1) := by decide +kernel
theorem d_A_piecesWith_0 : decode b_A_piecesWith 0 = .ok (.iconst 0, 1) := by decide +kernel
theorem d_A_piecesWith_1 : decode b_A_piecesWith 1 = .ok (.istore_n 2, 1) := by decide +kernel
theorem d_A_piecesWith_2 : decode b_A_piecesWith 2 = .ok (.iconst 0, 1) := by decide +kernel
theorem d_A_piecesWith_3 : decode b_A_piecesWith 3 = .ok (.istore_n 3, 1) := by decide +kernel
theorem d_A_piecesWith_4 : decode b_A_piecesWith 4 = .ok (.iload_n 3, 1) := by decide +kernel
theorem d_A_piecesWith_5 : decode b_A_piecesWith 5 = .ok (.aload_n 0, 1) := by decide +kernel
theorem d_A_piecesWith_6 : decode b_A_piecesWith 6 = .ok (.getfield 15, 3) := by decide +kernel
theorem d_A_piecesWith_9 : decode b_A_piecesWith 9 = .ok (.arraylength, 1) := by decide +kernel
theorem d_A_piecesWith_10 : decode b_A_piecesWith 10 = .ok (.if_icmp .ge 23, 3) := by decide +kernel
theorem d_A_piecesWith_13 : decode b_A_piecesWith 13 = .ok (.aload_n 0, 1) := by decide +kernel
theorem d_A_piecesWith_14 : decode b_A_piecesWith 14 = .ok (.getfield 15, 3) := by decide +kernel
theorem d_A_piecesWith_17 : decode b_A_piecesWith 17 = .ok (.iload_n 3, 1) := by decide +kernel
theorem d_A_piecesWith_18 : decode b_A_piecesWith 18 = .ok (.iaload, 1) := by decide +kernel
theorem d_A_piecesWith_19 : decode b_A_piecesWith 19 = .ok (.iload_n 1, 1) := by decide +kernel
theorem d_A_piecesWith_20 : decode b_A_piecesWith 20 = .ok (.iand, 1) := by decide +kernel
theorem d_A_piecesWith_21 : decode b_A_piecesWith 21 = .ok (.ifCond .eq 6, 3) := by decide +kernel
theorem d_A_piecesWith_24 : decode b_A_piecesWith 24 = .ok (.iinc 2 1, 3) := by decide +kernel
theorem d_A_piecesWith_27 : decode b_A_piecesWith 27 = .ok (.iinc 3 1, 3) := by decide +kernel
theorem d_A_piecesWith_30 : decode b_A_piecesWith 30 = .ok (.goto (-26), 3) := by decide +kernel
theorem d_A_piecesWith_33 : decode b_A_piecesWith 33 = .ok (.iload_n 2, 1) := by decide +kernel
theorem d_A_piecesWith_34 : decode b_A_piecesWith 34 = .ok (.ireturn, 1) := by decide +kernel
theorem d_A_put_0 : decode b_A_put 0 = .ok (.aload_n 0, 1) := by decide +kernel
theorem d_A_put_1 : decode b_A_put 1 = .ok (.getfield 15, 3) := by decide +kernel
theorem d_A_put_4 : decode b_A_put 4 = .ok (.iload_n 1, 1) := by decide +kernel
theorem d_A_put_5 : decode b_A_put 5 = .ok (.iconst 1, 1) := by decide +kernel
theorem d_A_put_6 : decode b_A_put 6 = .ok (.iload_n 2, 1) := by decide +kernel
theorem d_A_put_7 : decode b_A_put 7 = .ok (.iconst 2, 1) := by decide +kernel
theorem d_A_put_8 : decode b_A_put 8 = .ok (.ishl, 1) := by decide +kernel
theorem d_A_put_9 : decode b_A_put 9 = .ok (.iadd, 1) := by decide +kernel
theorem d_A_put_10 : decode b_A_put 10 = .ok (.iload_n 3, 1) := by decide +kernel
theorem d_A_put_11 : decode b_A_put 11 = .ok (.iconst 1, 1) := by decide +kernel
theorem d_A_put_12 : decode b_A_put 12 = .ok (.iadd, 1) := by decide +kernel
theorem d_A_put_13 : decode b_A_put 13 = .ok (.iconst 5, 1) := by decide +kernel
theorem d_A_put_14 : decode b_A_put 14 = .ok (.ishl, 1) := by decide +kernel
theorem d_A_put_15 : decode b_A_put 15 = .ok (.iadd, 1) := by decide +kernel
theorem d_A_put_16 : decode b_A_put 16 = .ok (.iastore, 1) := by decide +kernel
theorem d_A_put_17 : decode b_A_put 17 = .ok (.return_, 1) := by decide +kernel
theorem d_A_takeAway_0 : decode b_A_takeAway 0 = .ok (.aload_n 0, 1) := by decide +kernel
theorem d_A_takeAway_1 : decode b_A_takeAway 1 = .ok (.getfield 15, 3) := by decide +kernel
theorem d_A_takeAway_4 : decode b_A_takeAway 4 = .ok (.iload_n 1, 1) := by decide +kernel
theorem d_A_takeAway_5 : decode b_A_takeAway 5 = .ok (.iconst 0, 1) := by decide +kernel
theorem d_A_takeAway_6 : decode b_A_takeAway 6 = .ok (.iastore, 1) := by decide +kernel
theorem d_A_takeAway_7 : decode b_A_takeAway 7 = .ok (.return_, 1) := by decide +kernel
theorem d_JA_fill_0 : decode b_JA_fill 0 = .ok (.iconst 0, 1) := by decide +kernel
theorem d_JA_fill_1 : decode b_JA_fill 1 = .ok (.istore_n 2, 1) := by decide +kernel
theorem d_JA_fill_2 : decode b_JA_fill 2 = .ok (.aload_n 0, 1) := by decide +kernel
theorem d_JA_fill_3 : decode b_JA_fill 3 = .ok (.arraylength, 1) := by decide +kernel
theorem d_JA_fill_4 : decode b_JA_fill 4 = .ok (.istore_n 3, 1) := by decide +kernel
theorem d_JA_fill_5 : decode b_JA_fill 5 = .ok (.iload_n 2, 1) := by decide +kernel
theorem d_JA_fill_6 : decode b_JA_fill 6 = .ok (.iload_n 3, 1) := by decide +kernel
theorem d_JA_fill_7 : decode b_JA_fill 7 = .ok (.if_icmp .ge 13, 3) := by decide +kernel
theorem d_JA_fill_10 : decode b_JA_fill 10 = .ok (.aload_n 0, 1) := by decide +kernel
theorem d_JA_fill_11 : decode b_JA_fill 11 = .ok (.iload_n 2, 1) := by decide +kernel
theorem d_JA_fill_12 : decode b_JA_fill 12 = .ok (.iload_n 1, 1) := by decide +kernel
theorem d_JA_fill_13 : decode b_JA_fill 13 = .ok (.iastore, 1) := by decide +kernel
theorem d_JA_fill_14 : decode b_JA_fill 14 = .ok (.iinc 2 1, 3) := by decide +kernel
theorem d_JA_fill_17 : decode b_JA_fill 17 = .ok (.goto (-12), 3) := by decide +kernel
theorem d_JA_fill_20 : decode b_JA_fill 20 = .ok (.return_, 1) := by decide +kernel
end
section
/-! DECODE rows, by program -/
theorem d_S_init_0 : decode b_S_init 0 = .ok (.aload_n 0, 1) := by decide +kernel
theorem d_S_init_1 : decode b_S_init 1 = .ok (.invokespecial 3, 3) := by decide +kernel
theorem d_S_init_4 : decode b_S_init 4 = .ok (.aload_n 0, 1) := by decide +kernel
theorem d_S_init_5 : decode b_S_init 5 = .ok (.bipush 12, 2) := by decide +kernel
theorem d_S_init_7 : decode b_S_init 7 = .ok (.iload_n 1, 1) := by decide +kernel
theorem d_S_init_8 : decode b_S_init 8 = .ok (.imul, 1) := by decide +kernel
theorem d_S_init_9 : decode b_S_init 9 = .ok (.newarray .int, 2) := by decide +kernel
theorem d_S_init_11 : decode b_S_init 11 = .ok (.putfield 11, 3) := by decide +kernel
theorem d_S_init_14 : decode b_S_init 14 = .ok (.aload_n 0, 1) := by decide +kernel
theorem d_S_init_15 : decode b_S_init 15 = .ok (.new 17, 3) := by decide +kernel
theorem d_S_init_18 : decode b_S_init 18 = .ok (.dup, 1) := by decide +kernel
theorem d_S_init_19 : decode b_S_init 19 = .ok (.iconst 4, 1) := by decide +kernel
theorem d_S_init_20 : decode b_S_init 20 = .ok (.iload_n 1, 1) := by decide +kernel
theorem d_S_init_21 : decode b_S_init 21 = .ok (.imul, 1) := by decide +kernel
theorem d_S_init_22 : decode b_S_init 22 = .ok (.invokespecial 19, 3) := by decide +kernel
theorem d_S_init_25 : decode b_S_init 25 = .ok (.putfield 22, 3) := by decide +kernel
theorem d_S_init_28 : decode b_S_init 28 = .ok (.aload_n 0, 1) := by decide +kernel
theorem d_S_init_29 : decode b_S_init 29 = .ok (.new 17, 3) := by decide +kernel
theorem d_S_init_32 : decode b_S_init 32 = .ok (.dup, 1) := by decide +kernel
theorem d_S_init_33 : decode b_S_init 33 = .ok (.bipush 8, 2) := by decide +kernel
theorem d_S_init_35 : decode b_S_init 35 = .ok (.iload_n 1, 1) := by decide +kernel
theorem d_S_init_36 : decode b_S_init 36 = .ok (.imul, 1) := by decide +kernel
theorem d_S_init_37 : decode b_S_init 37 = .ok (.invokespecial 19, 3) := by decide +kernel
theorem d_S_init_40 : decode b_S_init 40 = .ok (.putfield 26, 3) := by decide +kernel
theorem d_S_init_43 : decode b_S_init 43 = .ok (.aload_n 0, 1) := by decide +kernel
theorem d_S_init_44 : decode b_S_init 44 = .ok (.iconst (-1), 1) := by decide +kernel
theorem d_S_init_45 : decode b_S_init 45 = .ok (.putfield 29, 3) := by decide +kernel
theorem d_S_init_48 : decode b_S_init 48 = .ok (.return_, 1) := by decide +kernel
theorem d_S_findBlocks_0 : decode b_S_findBlocks 0 = .ok (.aload_n 0, 1) := by decide +kernel
theorem d_S_findBlocks_1 : decode b_S_findBlocks 1 = .ok (.getfield 29, 3) := by decide +kernel
theorem d_S_findBlocks_4 : decode b_S_findBlocks 4 = .ok (.bipush 8, 2) := by decide +kernel
theorem d_S_findBlocks_6 : decode b_S_findBlocks 6 = .ok (.if_icmp .ne 4, 3) := by decide +kernel
theorem d_S_findBlocks_9 : decode b_S_findBlocks 9 = .ok (.return_, 1) := by decide +kernel
theorem d_S_findBlocks_10 : decode b_S_findBlocks 10 = .ok (.aload_n 0, 1) := by decide +kernel
theorem d_S_findBlocks_11 : decode b_S_findBlocks 11 = .ok (.bipush 8, 2) := by decide +kernel
theorem d_S_findBlocks_13 : decode b_S_findBlocks 13 = .ok (.putfield 29, 3) := by decide +kernel
theorem d_S_findBlocks_16 : decode b_S_findBlocks 16 = .ok (.aload_n 0, 1) := by decide +kernel
theorem d_S_findBlocks_17 : decode b_S_findBlocks 17 = .ok (.iconst 0, 1) := by decide +kernel
theorem d_S_findBlocks_18 : decode b_S_findBlocks 18 = .ok (.putfield 33, 3) := by decide +kernel
theorem d_S_findBlocks_21 : decode b_S_findBlocks 21 = .ok (.aload_n 0, 1) := by decide +kernel
theorem d_S_findBlocks_22 : decode b_S_findBlocks 22 = .ok (.getfield 11, 3) := by decide +kernel
theorem d_S_findBlocks_25 : decode b_S_findBlocks 25 = .ok (.iconst (-1), 1) := by decide +kernel
theorem d_S_findBlocks_26 : decode b_S_findBlocks 26 = .ok (.invokestatic 36, 3) := by decide +kernel
theorem d_S_findBlocks_29 : decode b_S_findBlocks 29 = .ok (.iconst 0, 1) := by decide +kernel
theorem d_S_findBlocks_30 : decode b_S_findBlocks 30 = .ok (.istore_n 2, 1) := by decide +kernel
theorem d_S_findBlocks_31 : decode b_S_findBlocks 31 = .ok (.iload_n 2, 1) := by decide +kernel
theorem d_S_findBlocks_32 : decode b_S_findBlocks 32 = .ok (.aload_n 1, 1) := by decide +kernel
theorem d_S_findBlocks_33 : decode b_S_findBlocks 33 = .ok (.getfield 42, 3) := by decide +kernel
theorem d_S_findBlocks_36 : decode b_S_findBlocks 36 = .ok (.arraylength, 1) := by decide +kernel
theorem d_S_findBlocks_37 : decode b_S_findBlocks 37 = .ok (.if_icmp .ge 43, 3) := by decide +kernel
theorem d_S_findBlocks_40 : decode b_S_findBlocks 40 = .ok (.aload_n 1, 1) := by decide +kernel
theorem d_S_findBlocks_41 : decode b_S_findBlocks 41 = .ok (.iload_n 2, 1) := by decide +kernel
theorem d_S_findBlocks_42 : decode b_S_findBlocks 42 = .ok (.invokevirtual 45, 3) := by decide +kernel
theorem d_S_findBlocks_45 : decode b_S_findBlocks 45 = .ok (.ifCond .eq 29, 3) := by decide +kernel
theorem d_S_findBlocks_48 : decode b_S_findBlocks 48 = .ok (.aload_n 0, 1) := by decide +kernel
theorem d_S_findBlocks_49 : decode b_S_findBlocks 49 = .ok (.getfield 11, 3) := by decide +kernel
theorem d_S_findBlocks_52 : decode b_S_findBlocks 52 = .ok (.iload_n 2, 1) := by decide +kernel
theorem d_S_findBlocks_53 : decode b_S_findBlocks 53 = .ok (.iaload, 1) := by decide +kernel
theorem d_S_findBlocks_54 : decode b_S_findBlocks 54 = .ok (.iconst (-1), 1) := by decide +kernel
theorem d_S_findBlocks_55 : decode b_S_findBlocks 55 = .ok (.if_icmp .ne 19, 3) := by decide +kernel
theorem d_S_findBlocks_58 : decode b_S_findBlocks 58 = .ok (.aload_n 0, 1) := by decide +kernel
theorem d_S_findBlocks_59 : decode b_S_findBlocks 59 = .ok (.dup, 1) := by decide +kernel
theorem d_S_findBlocks_60 : decode b_S_findBlocks 60 = .ok (.getfield 33, 3) := by decide +kernel
theorem d_S_findBlocks_63 : decode b_S_findBlocks 63 = .ok (.iconst 1, 1) := by decide +kernel
theorem d_S_findBlocks_64 : decode b_S_findBlocks 64 = .ok (.iadd, 1) := by decide +kernel
theorem d_S_findBlocks_65 : decode b_S_findBlocks 65 = .ok (.putfield 33, 3) := by decide +kernel
theorem d_S_findBlocks_68 : decode b_S_findBlocks 68 = .ok (.aload_n 0, 1) := by decide +kernel
theorem d_S_findBlocks_69 : decode b_S_findBlocks 69 = .ok (.aload_n 1, 1) := by decide +kernel
theorem d_S_findBlocks_70 : decode b_S_findBlocks 70 = .ok (.iload_n 2, 1) := by decide +kernel
theorem d_S_findBlocks_71 : decode b_S_findBlocks 71 = .ok (.invokevirtual 49, 3) := by decide +kernel
theorem d_S_findBlocks_74 : decode b_S_findBlocks 74 = .ok (.iinc 2 1, 3) := by decide +kernel
theorem d_S_findBlocks_77 : decode b_S_findBlocks 77 = .ok (.goto (-46), 3) := by decide +kernel
theorem d_S_findBlocks_80 : decode b_S_findBlocks 80 = .ok (.return_, 1) := by decide +kernel
theorem d_S_floodBlock_0 : decode b_S_floodBlock 0 = .ok (.aload_n 0, 1) := by decide +kernel
theorem d_S_floodBlock_1 : decode b_S_floodBlock 1 = .ok (.getfield 26, 3) := by decide +kernel
theorem d_S_floodBlock_4 : decode b_S_floodBlock 4 = .ok (.invokevirtual 53, 3) := by decide +kernel
theorem d_S_floodBlock_7 : decode b_S_floodBlock 7 = .ok (.aload_n 0, 1) := by decide +kernel
theorem d_S_floodBlock_8 : decode b_S_floodBlock 8 = .ok (.iload_n 2, 1) := by decide +kernel
theorem d_S_floodBlock_9 : decode b_S_floodBlock 9 = .ok (.iload_n 2, 1) := by decide +kernel
theorem d_S_floodBlock_10 : decode b_S_floodBlock 10 = .ok (.invokevirtual 56, 3) := by decide +kernel
theorem d_S_floodBlock_13 : decode b_S_floodBlock 13 = .ok (.iconst 0, 1) := by decide +kernel
theorem d_S_floodBlock_14 : decode b_S_floodBlock 14 = .ok (.istore_n 3, 1) := by decide +kernel
theorem d_S_floodBlock_15 : decode b_S_floodBlock 15 = .ok (.iload_n 3, 1) := by decide +kernel
theorem d_S_floodBlock_16 : decode b_S_floodBlock 16 = .ok (.aload_n 0, 1) := by decide +kernel
theorem d_S_floodBlock_17 : decode b_S_floodBlock 17 = .ok (.getfield 11, 3) := by decide +kernel
theorem d_S_floodBlock_20 : decode b_S_floodBlock 20 = .ok (.arraylength, 1) := by decide +kernel
theorem d_S_floodBlock_21 : decode b_S_floodBlock 21 = .ok (.if_icmp .ge 58, 3) := by decide +kernel
theorem d_S_floodBlock_24 : decode b_S_floodBlock 24 = .ok (.aload_n 0, 1) := by decide +kernel
theorem d_S_floodBlock_25 : decode b_S_floodBlock 25 = .ok (.getfield 26, 3) := by decide +kernel
theorem d_S_floodBlock_28 : decode b_S_floodBlock 28 = .ok (.invokevirtual 60, 3) := by decide +kernel
theorem d_S_floodBlock_31 : decode b_S_floodBlock 31 = .ok (.ifCond .ne 48, 3) := by decide +kernel
theorem d_S_floodBlock_34 : decode b_S_floodBlock 34 = .ok (.aload_n 0, 1) := by decide +kernel
theorem d_S_floodBlock_35 : decode b_S_floodBlock 35 = .ok (.getfield 26, 3) := by decide +kernel
theorem d_S_floodBlock_38 : decode b_S_floodBlock 38 = .ok (.invokevirtual 64, 3) := by decide +kernel
theorem d_S_floodBlock_41 : decode b_S_floodBlock 41 = .ok (.istore 4, 2) := by decide +kernel
theorem d_S_floodBlock_43 : decode b_S_floodBlock 43 = .ok (.aload_n 0, 1) := by decide +kernel
theorem d_S_floodBlock_44 : decode b_S_floodBlock 44 = .ok (.aload_n 1, 1) := by decide +kernel
theorem d_S_floodBlock_45 : decode b_S_floodBlock 45 = .ok (.iload 4, 2) := by decide +kernel
theorem d_S_floodBlock_47 : decode b_S_floodBlock 47 = .ok (.iload_n 2, 1) := by decide +kernel
theorem d_S_floodBlock_48 : decode b_S_floodBlock 48 = .ok (.invokevirtual 68, 3) := by decide +kernel
theorem d_S_floodBlock_51 : decode b_S_floodBlock 51 = .ok (.aload_n 0, 1) := by decide +kernel
theorem d_S_floodBlock_52 : decode b_S_floodBlock 52 = .ok (.aload_n 1, 1) := by decide +kernel
theorem d_S_floodBlock_53 : decode b_S_floodBlock 53 = .ok (.iconst 2, 1) := by decide +kernel
theorem d_S_floodBlock_54 : decode b_S_floodBlock 54 = .ok (.iload 4, 2) := by decide +kernel
theorem d_S_floodBlock_56 : decode b_S_floodBlock 56 = .ok (.imul, 1) := by decide +kernel
theorem d_S_floodBlock_57 : decode b_S_floodBlock 57 = .ok (.iload_n 2, 1) := by decide +kernel
theorem d_S_floodBlock_58 : decode b_S_floodBlock 58 = .ok (.invokevirtual 72, 3) := by decide +kernel
theorem d_S_floodBlock_61 : decode b_S_floodBlock 61 = .ok (.aload_n 0, 1) := by decide +kernel
theorem d_S_floodBlock_62 : decode b_S_floodBlock 62 = .ok (.aload_n 1, 1) := by decide +kernel
theorem d_S_floodBlock_63 : decode b_S_floodBlock 63 = .ok (.iconst 2, 1) := by decide +kernel
theorem d_S_floodBlock_64 : decode b_S_floodBlock 64 = .ok (.iload 4, 2) := by decide +kernel
theorem d_S_floodBlock_66 : decode b_S_floodBlock 66 = .ok (.imul, 1) := by decide +kernel
theorem d_S_floodBlock_67 : decode b_S_floodBlock 67 = .ok (.iconst 1, 1) := by decide +kernel
theorem d_S_floodBlock_68 : decode b_S_floodBlock 68 = .ok (.iadd, 1) := by decide +kernel
theorem d_S_floodBlock_69 : decode b_S_floodBlock 69 = .ok (.iload_n 2, 1) := by decide +kernel
theorem d_S_floodBlock_70 : decode b_S_floodBlock 70 = .ok (.invokevirtual 72, 3) := by decide +kernel
theorem d_S_floodBlock_73 : decode b_S_floodBlock 73 = .ok (.iinc 3 1, 3) := by decide +kernel
theorem d_S_floodBlock_76 : decode b_S_floodBlock 76 = .ok (.goto (-61), 3) := by decide +kernel
theorem d_S_floodBlock_79 : decode b_S_floodBlock 79 = .ok (.return_, 1) := by decide +kernel
theorem d_S_join_0 : decode b_S_join 0 = .ok (.aload_n 0, 1) := by decide +kernel
theorem d_S_join_1 : decode b_S_join 1 = .ok (.getfield 11, 3) := by decide +kernel
theorem d_S_join_4 : decode b_S_join 4 = .ok (.iload_n 1, 1) := by decide +kernel
theorem d_S_join_5 : decode b_S_join 5 = .ok (.iaload, 1) := by decide +kernel
theorem d_S_join_6 : decode b_S_join 6 = .ok (.iconst (-1), 1) := by decide +kernel
theorem d_S_join_7 : decode b_S_join 7 = .ok (.if_icmp .ne 18, 3) := by decide +kernel
theorem d_S_join_10 : decode b_S_join 10 = .ok (.aload_n 0, 1) := by decide +kernel
theorem d_S_join_11 : decode b_S_join 11 = .ok (.getfield 11, 3) := by decide +kernel
theorem d_S_join_14 : decode b_S_join 14 = .ok (.iload_n 1, 1) := by decide +kernel
theorem d_S_join_15 : decode b_S_join 15 = .ok (.iload_n 2, 1) := by decide +kernel
theorem d_S_join_16 : decode b_S_join 16 = .ok (.iastore, 1) := by decide +kernel
theorem d_S_join_17 : decode b_S_join 17 = .ok (.aload_n 0, 1) := by decide +kernel
theorem d_S_join_18 : decode b_S_join 18 = .ok (.getfield 26, 3) := by decide +kernel
theorem d_S_join_21 : decode b_S_join 21 = .ok (.iload_n 1, 1) := by decide +kernel
theorem d_S_join_22 : decode b_S_join 22 = .ok (.invokevirtual 85, 3) := by decide +kernel
theorem d_S_join_25 : decode b_S_join 25 = .ok (.return_, 1) := by decide +kernel
theorem d_S_joinMeeting_0 : decode b_S_joinMeeting 0 = .ok (.iload_n 2, 1) := by decide +kernel
theorem d_S_joinMeeting_1 : decode b_S_joinMeeting 1 = .ok (.bipush 6, 2) := by decide +kernel
theorem d_S_joinMeeting_3 : decode b_S_joinMeeting 3 = .ok (.irem, 1) := by decide +kernel
theorem d_S_joinMeeting_4 : decode b_S_joinMeeting 4 = .ok (.istore 4, 2) := by decide +kernel
theorem d_S_joinMeeting_6 : decode b_S_joinMeeting 6 = .ok (.iload_n 2, 1) := by decide +kernel
theorem d_S_joinMeeting_7 : decode b_S_joinMeeting 7 = .ok (.iload 4, 2) := by decide +kernel
theorem d_S_joinMeeting_9 : decode b_S_joinMeeting 9 = .ok (.isub, 1) := by decide +kernel
theorem d_S_joinMeeting_10 : decode b_S_joinMeeting 10 = .ok (.istore 5, 2) := by decide +kernel
theorem d_S_joinMeeting_12 : decode b_S_joinMeeting 12 = .ok (.iconst 0, 1) := by decide +kernel
theorem d_S_joinMeeting_13 : decode b_S_joinMeeting 13 = .ok (.istore 6, 2) := by decide +kernel
theorem d_S_joinMeeting_15 : decode b_S_joinMeeting 15 = .ok (.iload 6, 2) := by decide +kernel
theorem d_S_joinMeeting_17 : decode b_S_joinMeeting 17 = .ok (.bipush 6, 2) := by decide +kernel
theorem d_S_joinMeeting_19 : decode b_S_joinMeeting 19 = .ok (.if_icmp .ge 42, 3) := by decide +kernel
theorem d_S_joinMeeting_22 : decode b_S_joinMeeting 22 = .ok (.getstatic 75, 3) := by decide +kernel
theorem d_S_joinMeeting_25 : decode b_S_joinMeeting 25 = .ok (.iload 4, 2) := by decide +kernel
theorem d_S_joinMeeting_27 : decode b_S_joinMeeting 27 = .ok (.iaload, 1) := by decide +kernel
theorem d_S_joinMeeting_28 : decode b_S_joinMeeting 28 = .ok (.iload 6, 2) := by decide +kernel
theorem d_S_joinMeeting_30 : decode b_S_joinMeeting 30 = .ok (.if_icmp .eq 25, 3) := by decide +kernel
theorem d_S_joinMeeting_33 : decode b_S_joinMeeting 33 = .ok (.aload_n 1, 1) := by decide +kernel
theorem d_S_joinMeeting_34 : decode b_S_joinMeeting 34 = .ok (.iload 5, 2) := by decide +kernel
theorem d_S_joinMeeting_36 : decode b_S_joinMeeting 36 = .ok (.iload 6, 2) := by decide +kernel
theorem d_S_joinMeeting_38 : decode b_S_joinMeeting 38 = .ok (.iadd, 1) := by decide +kernel
theorem d_S_joinMeeting_39 : decode b_S_joinMeeting 39 = .ok (.invokevirtual 45, 3) := by decide +kernel
theorem d_S_joinMeeting_42 : decode b_S_joinMeeting 42 = .ok (.ifCond .eq 13, 3) := by decide +kernel
theorem d_S_joinMeeting_45 : decode b_S_joinMeeting 45 = .ok (.aload_n 0, 1) := by decide +kernel
theorem d_S_joinMeeting_46 : decode b_S_joinMeeting 46 = .ok (.iload 5, 2) := by decide +kernel
theorem d_S_joinMeeting_48 : decode b_S_joinMeeting 48 = .ok (.iload 6, 2) := by decide +kernel
theorem d_S_joinMeeting_50 : decode b_S_joinMeeting 50 = .ok (.iadd, 1) := by decide +kernel
theorem d_S_joinMeeting_51 : decode b_S_joinMeeting 51 = .ok (.iload_n 3, 1) := by decide +kernel
theorem d_S_joinMeeting_52 : decode b_S_joinMeeting 52 = .ok (.invokevirtual 56, 3) := by decide +kernel
theorem d_S_joinMeeting_55 : decode b_S_joinMeeting 55 = .ok (.iinc 6 1, 3) := by decide +kernel
theorem d_S_joinMeeting_58 : decode b_S_joinMeeting 58 = .ok (.goto (-43), 3) := by decide +kernel
theorem d_S_joinMeeting_61 : decode b_S_joinMeeting 61 = .ok (.return_, 1) := by decide +kernel
theorem d_S_joinAcross_0 : decode b_S_joinAcross 0 = .ok (.aload_n 1, 1) := by decide +kernel
theorem d_S_joinAcross_1 : decode b_S_joinAcross 1 = .ok (.iload_n 2, 1) := by decide +kernel
theorem d_S_joinAcross_2 : decode b_S_joinAcross 2 = .ok (.invokevirtual 78, 3) := by decide +kernel
theorem d_S_joinAcross_5 : decode b_S_joinAcross 5 = .ok (.ifCond .eq 4, 3) := by decide +kernel
theorem d_S_joinAcross_8 : decode b_S_joinAcross 8 = .ok (.return_, 1) := by decide +kernel
theorem d_S_joinAcross_9 : decode b_S_joinAcross 9 = .ok (.iconst 0, 1) := by decide +kernel
theorem d_S_joinAcross_10 : decode b_S_joinAcross 10 = .ok (.istore 4, 2) := by decide +kernel
theorem d_S_joinAcross_12 : decode b_S_joinAcross 12 = .ok (.iload 4, 2) := by decide +kernel
theorem d_S_joinAcross_14 : decode b_S_joinAcross 14 = .ok (.iconst 3, 1) := by decide +kernel
theorem d_S_joinAcross_15 : decode b_S_joinAcross 15 = .ok (.if_icmp .ge 55, 3) := by decide +kernel
theorem d_S_joinAcross_18 : decode b_S_joinAcross 18 = .ok (.aload_n 1, 1) := by decide +kernel
theorem d_S_joinAcross_19 : decode b_S_joinAcross 19 = .ok (.iload_n 2, 1) := by decide +kernel
theorem d_S_joinAcross_20 : decode b_S_joinAcross 20 = .ok (.iload 4, 2) := by decide +kernel
theorem d_S_joinAcross_22 : decode b_S_joinAcross 22 = .ok (.invokevirtual 81, 3) := by decide +kernel
theorem d_S_joinAcross_25 : decode b_S_joinAcross 25 = .ok (.istore 5, 2) := by decide +kernel
theorem d_S_joinAcross_27 : decode b_S_joinAcross 27 = .ok (.iload 5, 2) := by decide +kernel
theorem d_S_joinAcross_29 : decode b_S_joinAcross 29 = .ok (.iconst (-1), 1) := by decide +kernel
theorem d_S_joinAcross_30 : decode b_S_joinAcross 30 = .ok (.if_icmp .eq 34, 3) := by decide +kernel
theorem d_S_joinAcross_33 : decode b_S_joinAcross 33 = .ok (.aload_n 1, 1) := by decide +kernel
theorem d_S_joinAcross_34 : decode b_S_joinAcross 34 = .ok (.iload 5, 2) := by decide +kernel
theorem d_S_joinAcross_36 : decode b_S_joinAcross 36 = .ok (.iconst 2, 1) := by decide +kernel
theorem d_S_joinAcross_37 : decode b_S_joinAcross 37 = .ok (.idiv, 1) := by decide +kernel
theorem d_S_joinAcross_38 : decode b_S_joinAcross 38 = .ok (.invokevirtual 45, 3) := by decide +kernel
theorem d_S_joinAcross_41 : decode b_S_joinAcross 41 = .ok (.ifCond .eq 23, 3) := by decide +kernel
theorem d_S_joinAcross_44 : decode b_S_joinAcross 44 = .ok (.aload_n 1, 1) := by decide +kernel
theorem d_S_joinAcross_45 : decode b_S_joinAcross 45 = .ok (.iload 5, 2) := by decide +kernel
theorem d_S_joinAcross_47 : decode b_S_joinAcross 47 = .ok (.iconst 1, 1) := by decide +kernel
theorem d_S_joinAcross_48 : decode b_S_joinAcross 48 = .ok (.ixor, 1) := by decide +kernel
theorem d_S_joinAcross_49 : decode b_S_joinAcross 49 = .ok (.invokevirtual 78, 3) := by decide +kernel
theorem d_S_joinAcross_52 : decode b_S_joinAcross 52 = .ok (.ifCond .ne 12, 3) := by decide +kernel
theorem d_S_joinAcross_55 : decode b_S_joinAcross 55 = .ok (.aload_n 0, 1) := by decide +kernel
theorem d_S_joinAcross_56 : decode b_S_joinAcross 56 = .ok (.iload 5, 2) := by decide +kernel
theorem d_S_joinAcross_58 : decode b_S_joinAcross 58 = .ok (.iconst 2, 1) := by decide +kernel
theorem d_S_joinAcross_59 : decode b_S_joinAcross 59 = .ok (.idiv, 1) := by decide +kernel
theorem d_S_joinAcross_60 : decode b_S_joinAcross 60 = .ok (.iload_n 3, 1) := by decide +kernel
theorem d_S_joinAcross_61 : decode b_S_joinAcross 61 = .ok (.invokevirtual 56, 3) := by decide +kernel
theorem d_S_joinAcross_64 : decode b_S_joinAcross 64 = .ok (.iinc 4 1, 3) := by decide +kernel
theorem d_S_joinAcross_67 : decode b_S_joinAcross 67 = .ok (.goto (-55), 3) := by decide +kernel
theorem d_S_joinAcross_70 : decode b_S_joinAcross 70 = .ok (.return_, 1) := by decide +kernel
theorem d_S_findCosts_0 : decode b_S_findCosts 0 = .ok (.aload_n 0, 1) := by decide +kernel
theorem d_S_findCosts_1 : decode b_S_findCosts 1 = .ok (.getfield 29, 3) := by decide +kernel
theorem d_S_findCosts_4 : decode b_S_findCosts 4 = .ok (.iload_n 2, 1) := by decide +kernel
theorem d_S_findCosts_5 : decode b_S_findCosts 5 = .ok (.if_icmp .ne 4, 3) := by decide +kernel
theorem d_S_findCosts_8 : decode b_S_findCosts 8 = .ok (.return_, 1) := by decide +kernel
theorem d_S_findCosts_9 : decode b_S_findCosts 9 = .ok (.aload_n 0, 1) := by decide +kernel
theorem d_S_findCosts_10 : decode b_S_findCosts 10 = .ok (.iload_n 2, 1) := by decide +kernel
theorem d_S_findCosts_11 : decode b_S_findCosts 11 = .ok (.putfield 29, 3) := by decide +kernel
theorem d_S_findCosts_14 : decode b_S_findCosts 14 = .ok (.aload_n 0, 1) := by decide +kernel
theorem d_S_findCosts_15 : decode b_S_findCosts 15 = .ok (.getfield 11, 3) := by decide +kernel
theorem d_S_findCosts_18 : decode b_S_findCosts 18 = .ok (.iconst (-1), 1) := by decide +kernel
theorem d_S_findCosts_19 : decode b_S_findCosts 19 = .ok (.invokestatic 36, 3) := by decide +kernel
theorem d_S_findCosts_22 : decode b_S_findCosts 22 = .ok (.aload_n 0, 1) := by decide +kernel
theorem d_S_findCosts_23 : decode b_S_findCosts 23 = .ok (.getfield 22, 3) := by decide +kernel
theorem d_S_findCosts_26 : decode b_S_findCosts 26 = .ok (.invokevirtual 53, 3) := by decide +kernel
theorem d_S_findCosts_29 : decode b_S_findCosts 29 = .ok (.aload_n 0, 1) := by decide +kernel
theorem d_S_findCosts_30 : decode b_S_findCosts 30 = .ok (.getfield 26, 3) := by decide +kernel
theorem d_S_findCosts_33 : decode b_S_findCosts 33 = .ok (.invokevirtual 53, 3) := by decide +kernel
theorem d_S_findCosts_36 : decode b_S_findCosts 36 = .ok (.aload_n 0, 1) := by decide +kernel
theorem d_S_findCosts_37 : decode b_S_findCosts 37 = .ok (.aload_n 1, 1) := by decide +kernel
theorem d_S_findCosts_38 : decode b_S_findCosts 38 = .ok (.iload_n 2, 1) := by decide +kernel
theorem d_S_findCosts_39 : decode b_S_findCosts 39 = .ok (.invokevirtual 88, 3) := by decide +kernel
theorem d_S_findCosts_42 : decode b_S_findCosts 42 = .ok (.iconst 0, 1) := by decide +kernel
theorem d_S_findCosts_43 : decode b_S_findCosts 43 = .ok (.istore_n 3, 1) := by decide +kernel
theorem d_S_findCosts_44 : decode b_S_findCosts 44 = .ok (.iload_n 3, 1) := by decide +kernel
theorem d_S_findCosts_45 : decode b_S_findCosts 45 = .ok (.aload_n 0, 1) := by decide +kernel
theorem d_S_findCosts_46 : decode b_S_findCosts 46 = .ok (.getfield 11, 3) := by decide +kernel
theorem d_S_findCosts_49 : decode b_S_findCosts 49 = .ok (.arraylength, 1) := by decide +kernel
theorem d_S_findCosts_50 : decode b_S_findCosts 50 = .ok (.if_icmp .ge 29, 3) := by decide +kernel
theorem d_S_findCosts_53 : decode b_S_findCosts 53 = .ok (.aload_n 0, 1) := by decide +kernel
theorem d_S_findCosts_54 : decode b_S_findCosts 54 = .ok (.invokevirtual 91, 3) := by decide +kernel
theorem d_S_findCosts_57 : decode b_S_findCosts 57 = .ok (.istore 4, 2) := by decide +kernel
theorem d_S_findCosts_59 : decode b_S_findCosts 59 = .ok (.iload 4, 2) := by decide +kernel
theorem d_S_findCosts_61 : decode b_S_findCosts 61 = .ok (.iconst (-1), 1) := by decide +kernel
theorem d_S_findCosts_62 : decode b_S_findCosts 62 = .ok (.if_icmp .ne 4, 3) := by decide +kernel
theorem d_S_findCosts_65 : decode b_S_findCosts 65 = .ok (.return_, 1) := by decide +kernel
theorem d_S_findCosts_66 : decode b_S_findCosts 66 = .ok (.aload_n 0, 1) := by decide +kernel
theorem d_S_findCosts_67 : decode b_S_findCosts 67 = .ok (.aload_n 1, 1) := by decide +kernel
theorem d_S_findCosts_68 : decode b_S_findCosts 68 = .ok (.iload 4, 2) := by decide +kernel
theorem d_S_findCosts_70 : decode b_S_findCosts 70 = .ok (.invokevirtual 94, 3) := by decide +kernel
theorem d_S_findCosts_73 : decode b_S_findCosts 73 = .ok (.iinc 3 1, 3) := by decide +kernel
theorem d_S_findCosts_76 : decode b_S_findCosts 76 = .ok (.goto (-32), 3) := by decide +kernel
theorem d_S_findCosts_79 : decode b_S_findCosts 79 = .ok (.return_, 1) := by decide +kernel
theorem d_S_settleTargets_0 : decode b_S_settleTargets 0 = .ok (.iconst 0, 1) := by decide +kernel
theorem d_S_settleTargets_1 : decode b_S_settleTargets 1 = .ok (.istore_n 3, 1) := by decide +kernel
theorem d_S_settleTargets_2 : decode b_S_settleTargets 2 = .ok (.iload_n 3, 1) := by decide +kernel
theorem d_S_settleTargets_3 : decode b_S_settleTargets 3 = .ok (.aload_n 1, 1) := by decide +kernel
theorem d_S_settleTargets_4 : decode b_S_settleTargets 4 = .ok (.getfield 42, 3) := by decide +kernel
theorem d_S_settleTargets_7 : decode b_S_settleTargets 7 = .ok (.arraylength, 1) := by decide +kernel
theorem d_S_settleTargets_8 : decode b_S_settleTargets 8 = .ok (.if_icmp .ge 69, 3) := by decide +kernel
theorem d_S_settleTargets_11 : decode b_S_settleTargets 11 = .ok (.aload_n 1, 1) := by decide +kernel
theorem d_S_settleTargets_12 : decode b_S_settleTargets 12 = .ok (.iload_n 3, 1) := by decide +kernel
theorem d_S_settleTargets_13 : decode b_S_settleTargets 13 = .ok (.invokevirtual 97, 3) := by decide +kernel
theorem d_S_settleTargets_16 : decode b_S_settleTargets 16 = .ok (.iload_n 2, 1) := by decide +kernel
theorem d_S_settleTargets_17 : decode b_S_settleTargets 17 = .ok (.if_icmp .eq 6, 3) := by decide +kernel
theorem d_S_settleTargets_20 : decode b_S_settleTargets 20 = .ok (.goto 51, 3) := by decide +kernel
theorem d_S_settleTargets_23 : decode b_S_settleTargets 23 = .ok (.iconst 2, 1) := by decide +kernel
theorem d_S_settleTargets_24 : decode b_S_settleTargets 24 = .ok (.iload_n 3, 1) := by decide +kernel
theorem d_S_settleTargets_25 : decode b_S_settleTargets 25 = .ok (.imul, 1) := by decide +kernel
theorem d_S_settleTargets_26 : decode b_S_settleTargets 26 = .ok (.istore 4, 2) := by decide +kernel
theorem d_S_settleTargets_28 : decode b_S_settleTargets 28 = .ok (.iload 4, 2) := by decide +kernel
theorem d_S_settleTargets_30 : decode b_S_settleTargets 30 = .ok (.iconst 2, 1) := by decide +kernel
theorem d_S_settleTargets_31 : decode b_S_settleTargets 31 = .ok (.iload_n 3, 1) := by decide +kernel
theorem d_S_settleTargets_32 : decode b_S_settleTargets 32 = .ok (.imul, 1) := by decide +kernel
theorem d_S_settleTargets_33 : decode b_S_settleTargets 33 = .ok (.iconst 1, 1) := by decide +kernel
theorem d_S_settleTargets_34 : decode b_S_settleTargets 34 = .ok (.iadd, 1) := by decide +kernel
theorem d_S_settleTargets_35 : decode b_S_settleTargets 35 = .ok (.if_icmp .gt 36, 3) := by decide +kernel
theorem d_S_settleTargets_38 : decode b_S_settleTargets 38 = .ok (.aload_n 1, 1) := by decide +kernel
theorem d_S_settleTargets_39 : decode b_S_settleTargets 39 = .ok (.iload 4, 2) := by decide +kernel
theorem d_S_settleTargets_41 : decode b_S_settleTargets 41 = .ok (.invokevirtual 101, 3) := by decide +kernel
theorem d_S_settleTargets_44 : decode b_S_settleTargets 44 = .ok (.ifCond .eq 21, 3) := by decide +kernel
theorem d_S_settleTargets_47 : decode b_S_settleTargets 47 = .ok (.aload_n 1, 1) := by decide +kernel
theorem d_S_settleTargets_48 : decode b_S_settleTargets 48 = .ok (.iload 4, 2) := by decide +kernel
theorem d_S_settleTargets_50 : decode b_S_settleTargets 50 = .ok (.iload_n 2, 1) := by decide +kernel
theorem d_S_settleTargets_51 : decode b_S_settleTargets 51 = .ok (.invokevirtual 104, 3) := by decide +kernel
theorem d_S_settleTargets_54 : decode b_S_settleTargets 54 = .ok (.ifCond .eq 11, 3) := by decide +kernel
theorem d_S_settleTargets_57 : decode b_S_settleTargets 57 = .ok (.aload_n 0, 1) := by decide +kernel
theorem d_S_settleTargets_58 : decode b_S_settleTargets 58 = .ok (.aload_n 1, 1) := by decide +kernel
theorem d_S_settleTargets_59 : decode b_S_settleTargets 59 = .ok (.iload 4, 2) := by decide +kernel
theorem d_S_settleTargets_61 : decode b_S_settleTargets 61 = .ok (.iconst 0, 1) := by decide +kernel
theorem d_S_settleTargets_62 : decode b_S_settleTargets 62 = .ok (.invokevirtual 108, 3) := by decide +kernel
theorem d_S_settleTargets_65 : decode b_S_settleTargets 65 = .ok (.iinc 4 1, 3) := by decide +kernel
theorem d_S_settleTargets_68 : decode b_S_settleTargets 68 = .ok (.goto (-40), 3) := by decide +kernel
theorem d_S_settleTargets_71 : decode b_S_settleTargets 71 = .ok (.iinc 3 1, 3) := by decide +kernel
theorem d_S_settleTargets_74 : decode b_S_settleTargets 74 = .ok (.goto (-72), 3) := by decide +kernel
theorem d_S_settleTargets_77 : decode b_S_settleTargets 77 = .ok (.return_, 1) := by decide +kernel
theorem d_S_settle_0 : decode b_S_settle 0 = .ok (.aload_n 0, 1) := by decide +kernel
theorem d_S_settle_1 : decode b_S_settle 1 = .ok (.getfield 11, 3) := by decide +kernel
theorem d_S_settle_4 : decode b_S_settle 4 = .ok (.iload_n 2, 1) := by decide +kernel
theorem d_S_settle_5 : decode b_S_settle 5 = .ok (.iload_n 3, 1) := by decide +kernel
theorem d_S_settle_6 : decode b_S_settle 6 = .ok (.iastore, 1) := by decide +kernel
theorem d_S_settle_7 : decode b_S_settle 7 = .ok (.aload_n 1, 1) := by decide +kernel
theorem d_S_settle_8 : decode b_S_settle 8 = .ok (.iload_n 2, 1) := by decide +kernel
theorem d_S_settle_9 : decode b_S_settle 9 = .ok (.invokevirtual 117, 3) := by decide +kernel
theorem d_S_settle_12 : decode b_S_settle 12 = .ok (.ifCond .eq 14, 3) := by decide +kernel
theorem d_S_settle_15 : decode b_S_settle 15 = .ok (.aload_n 0, 1) := by decide +kernel
theorem d_S_settle_16 : decode b_S_settle 16 = .ok (.getfield 22, 3) := by decide +kernel
theorem d_S_settle_19 : decode b_S_settle 19 = .ok (.iload_n 2, 1) := by decide +kernel
theorem d_S_settle_20 : decode b_S_settle 20 = .ok (.invokevirtual 85, 3) := by decide +kernel
theorem d_S_settle_23 : decode b_S_settle 23 = .ok (.goto 11, 3) := by decide +kernel
theorem d_S_settle_26 : decode b_S_settle 26 = .ok (.aload_n 0, 1) := by decide +kernel
theorem d_S_settle_27 : decode b_S_settle 27 = .ok (.getfield 26, 3) := by decide +kernel
theorem d_S_settle_30 : decode b_S_settle 30 = .ok (.iload_n 2, 1) := by decide +kernel
theorem d_S_settle_31 : decode b_S_settle 31 = .ok (.invokevirtual 85, 3) := by decide +kernel
theorem d_S_settle_34 : decode b_S_settle 34 = .ok (.return_, 1) := by decide +kernel
theorem d_S_takeNearest_0 : decode b_S_takeNearest 0 = .ok (.aload_n 0, 1) := by decide +kernel
theorem d_S_takeNearest_1 : decode b_S_takeNearest 1 = .ok (.getfield 22, 3) := by decide +kernel
theorem d_S_takeNearest_4 : decode b_S_takeNearest 4 = .ok (.invokevirtual 120, 3) := by decide +kernel
theorem d_S_takeNearest_7 : decode b_S_takeNearest 7 = .ok (.istore_n 1, 1) := by decide +kernel
theorem d_S_takeNearest_8 : decode b_S_takeNearest 8 = .ok (.aload_n 0, 1) := by decide +kernel
theorem d_S_takeNearest_9 : decode b_S_takeNearest 9 = .ok (.getfield 26, 3) := by decide +kernel
theorem d_S_takeNearest_12 : decode b_S_takeNearest 12 = .ok (.invokevirtual 120, 3) := by decide +kernel
theorem d_S_takeNearest_15 : decode b_S_takeNearest 15 = .ok (.istore_n 2, 1) := by decide +kernel
theorem d_S_takeNearest_16 : decode b_S_takeNearest 16 = .ok (.iload_n 1, 1) := by decide +kernel
theorem d_S_takeNearest_17 : decode b_S_takeNearest 17 = .ok (.iconst (-1), 1) := by decide +kernel
theorem d_S_takeNearest_18 : decode b_S_takeNearest 18 = .ok (.if_icmp .ne 11, 3) := by decide +kernel
theorem d_S_takeNearest_21 : decode b_S_takeNearest 21 = .ok (.aload_n 0, 1) := by decide +kernel
theorem d_S_takeNearest_22 : decode b_S_takeNearest 22 = .ok (.getfield 26, 3) := by decide +kernel
theorem d_S_takeNearest_25 : decode b_S_takeNearest 25 = .ok (.invokevirtual 64, 3) := by decide +kernel
theorem d_S_takeNearest_28 : decode b_S_takeNearest 28 = .ok (.ireturn, 1) := by decide +kernel
theorem d_S_takeNearest_29 : decode b_S_takeNearest 29 = .ok (.iload_n 2, 1) := by decide +kernel
theorem d_S_takeNearest_30 : decode b_S_takeNearest 30 = .ok (.iconst (-1), 1) := by decide +kernel
theorem d_S_takeNearest_31 : decode b_S_takeNearest 31 = .ok (.if_icmp .ne 11, 3) := by decide +kernel
theorem d_S_takeNearest_34 : decode b_S_takeNearest 34 = .ok (.aload_n 0, 1) := by decide +kernel
theorem d_S_takeNearest_35 : decode b_S_takeNearest 35 = .ok (.getfield 22, 3) := by decide +kernel
theorem d_S_takeNearest_38 : decode b_S_takeNearest 38 = .ok (.invokevirtual 64, 3) := by decide +kernel
theorem d_S_takeNearest_41 : decode b_S_takeNearest 41 = .ok (.ireturn, 1) := by decide +kernel
theorem d_S_takeNearest_42 : decode b_S_takeNearest 42 = .ok (.aload_n 0, 1) := by decide +kernel
theorem d_S_takeNearest_43 : decode b_S_takeNearest 43 = .ok (.getfield 11, 3) := by decide +kernel
theorem d_S_takeNearest_46 : decode b_S_takeNearest 46 = .ok (.iload_n 1, 1) := by decide +kernel
theorem d_S_takeNearest_47 : decode b_S_takeNearest 47 = .ok (.iaload, 1) := by decide +kernel
theorem d_S_takeNearest_48 : decode b_S_takeNearest 48 = .ok (.bipush 16, 2) := by decide +kernel
theorem d_S_takeNearest_50 : decode b_S_takeNearest 50 = .ok (.iadd, 1) := by decide +kernel
theorem d_S_takeNearest_51 : decode b_S_takeNearest 51 = .ok (.istore_n 3, 1) := by decide +kernel
theorem d_S_takeNearest_52 : decode b_S_takeNearest 52 = .ok (.aload_n 0, 1) := by decide +kernel
theorem d_S_takeNearest_53 : decode b_S_takeNearest 53 = .ok (.getfield 11, 3) := by decide +kernel
theorem d_S_takeNearest_56 : decode b_S_takeNearest 56 = .ok (.iload_n 2, 1) := by decide +kernel
theorem d_S_takeNearest_57 : decode b_S_takeNearest 57 = .ok (.iaload, 1) := by decide +kernel
theorem d_S_takeNearest_58 : decode b_S_takeNearest 58 = .ok (.bipush 12, 2) := by decide +kernel
theorem d_S_takeNearest_60 : decode b_S_takeNearest 60 = .ok (.iadd, 1) := by decide +kernel
theorem d_S_takeNearest_61 : decode b_S_takeNearest 61 = .ok (.istore 4, 2) := by decide +kernel
theorem d_S_takeNearest_63 : decode b_S_takeNearest 63 = .ok (.iload_n 3, 1) := by decide +kernel
theorem d_S_takeNearest_64 : decode b_S_takeNearest 64 = .ok (.iload 4, 2) := by decide +kernel
theorem d_S_takeNearest_66 : decode b_S_takeNearest 66 = .ok (.if_icmp .gt 13, 3) := by decide +kernel
theorem d_S_takeNearest_69 : decode b_S_takeNearest 69 = .ok (.aload_n 0, 1) := by decide +kernel
theorem d_S_takeNearest_70 : decode b_S_takeNearest 70 = .ok (.getfield 22, 3) := by decide +kernel
theorem d_S_takeNearest_73 : decode b_S_takeNearest 73 = .ok (.invokevirtual 64, 3) := by decide +kernel
theorem d_S_takeNearest_76 : decode b_S_takeNearest 76 = .ok (.goto 10, 3) := by decide +kernel
theorem d_S_takeNearest_79 : decode b_S_takeNearest 79 = .ok (.aload_n 0, 1) := by decide +kernel
theorem d_S_takeNearest_80 : decode b_S_takeNearest 80 = .ok (.getfield 26, 3) := by decide +kernel
theorem d_S_takeNearest_83 : decode b_S_takeNearest 83 = .ok (.invokevirtual 64, 3) := by decide +kernel
theorem d_S_takeNearest_86 : decode b_S_takeNearest 86 = .ok (.ireturn, 1) := by decide +kernel
theorem d_S_settleBehind_0 : decode b_S_settleBehind 0 = .ok (.aload_n 0, 1) := by decide +kernel
theorem d_S_settleBehind_1 : decode b_S_settleBehind 1 = .ok (.getfield 11, 3) := by decide +kernel
theorem d_S_settleBehind_4 : decode b_S_settleBehind 4 = .ok (.iload_n 2, 1) := by decide +kernel
theorem d_S_settleBehind_5 : decode b_S_settleBehind 5 = .ok (.iaload, 1) := by decide +kernel
theorem d_S_settleBehind_6 : decode b_S_settleBehind 6 = .ok (.aload_n 1, 1) := by decide +kernel
theorem d_S_settleBehind_7 : decode b_S_settleBehind 7 = .ok (.iload_n 2, 1) := by decide +kernel
theorem d_S_settleBehind_8 : decode b_S_settleBehind 8 = .ok (.invokevirtual 111, 3) := by decide +kernel
theorem d_S_settleBehind_11 : decode b_S_settleBehind 11 = .ok (.iadd, 1) := by decide +kernel
theorem d_S_settleBehind_12 : decode b_S_settleBehind 12 = .ok (.istore_n 3, 1) := by decide +kernel
theorem d_S_settleBehind_13 : decode b_S_settleBehind 13 = .ok (.iconst 0, 1) := by decide +kernel
theorem d_S_settleBehind_14 : decode b_S_settleBehind 14 = .ok (.istore 4, 2) := by decide +kernel
theorem d_S_settleBehind_16 : decode b_S_settleBehind 16 = .ok (.iload 4, 2) := by decide +kernel
theorem d_S_settleBehind_18 : decode b_S_settleBehind 18 = .ok (.iconst 3, 1) := by decide +kernel
theorem d_S_settleBehind_19 : decode b_S_settleBehind 19 = .ok (.if_icmp .ge 46, 3) := by decide +kernel
theorem d_S_settleBehind_22 : decode b_S_settleBehind 22 = .ok (.aload_n 1, 1) := by decide +kernel
theorem d_S_settleBehind_23 : decode b_S_settleBehind 23 = .ok (.iload_n 2, 1) := by decide +kernel
theorem d_S_settleBehind_24 : decode b_S_settleBehind 24 = .ok (.iload 4, 2) := by decide +kernel
theorem d_S_settleBehind_26 : decode b_S_settleBehind 26 = .ok (.invokevirtual 114, 3) := by decide +kernel
theorem d_S_settleBehind_29 : decode b_S_settleBehind 29 = .ok (.istore 5, 2) := by decide +kernel
theorem d_S_settleBehind_31 : decode b_S_settleBehind 31 = .ok (.aload_n 1, 1) := by decide +kernel
theorem d_S_settleBehind_32 : decode b_S_settleBehind 32 = .ok (.iload 5, 2) := by decide +kernel
theorem d_S_settleBehind_34 : decode b_S_settleBehind 34 = .ok (.invokevirtual 101, 3) := by decide +kernel
theorem d_S_settleBehind_37 : decode b_S_settleBehind 37 = .ok (.ifCond .eq 22, 3) := by decide +kernel
theorem d_S_settleBehind_40 : decode b_S_settleBehind 40 = .ok (.aload_n 0, 1) := by decide +kernel
theorem d_S_settleBehind_41 : decode b_S_settleBehind 41 = .ok (.getfield 11, 3) := by decide +kernel
theorem d_S_settleBehind_44 : decode b_S_settleBehind 44 = .ok (.iload 5, 2) := by decide +kernel
theorem d_S_settleBehind_46 : decode b_S_settleBehind 46 = .ok (.iaload, 1) := by decide +kernel
theorem d_S_settleBehind_47 : decode b_S_settleBehind 47 = .ok (.iconst (-1), 1) := by decide +kernel
theorem d_S_settleBehind_48 : decode b_S_settleBehind 48 = .ok (.if_icmp .ne 11, 3) := by decide +kernel
theorem d_S_settleBehind_51 : decode b_S_settleBehind 51 = .ok (.aload_n 0, 1) := by decide +kernel
theorem d_S_settleBehind_52 : decode b_S_settleBehind 52 = .ok (.aload_n 1, 1) := by decide +kernel
theorem d_S_settleBehind_53 : decode b_S_settleBehind 53 = .ok (.iload 5, 2) := by decide +kernel
theorem d_S_settleBehind_55 : decode b_S_settleBehind 55 = .ok (.iload_n 3, 1) := by decide +kernel
theorem d_S_settleBehind_56 : decode b_S_settleBehind 56 = .ok (.invokevirtual 108, 3) := by decide +kernel
theorem d_S_settleBehind_59 : decode b_S_settleBehind 59 = .ok (.iinc 4 1, 3) := by decide +kernel
theorem d_S_settleBehind_62 : decode b_S_settleBehind 62 = .ok (.goto (-46), 3) := by decide +kernel
theorem d_S_settleBehind_65 : decode b_S_settleBehind 65 = .ok (.return_, 1) := by decide +kernel
theorem d_S_cheapestAhead_0 : decode b_S_cheapestAhead 0 = .ok (.iconst (-1), 1) := by decide +kernel
theorem d_S_cheapestAhead_1 : decode b_S_cheapestAhead 1 = .ok (.istore_n 3, 1) := by decide +kernel
theorem d_S_cheapestAhead_2 : decode b_S_cheapestAhead 2 = .ok (.iconst 0, 1) := by decide +kernel
theorem d_S_cheapestAhead_3 : decode b_S_cheapestAhead 3 = .ok (.istore 4, 2) := by decide +kernel
theorem d_S_cheapestAhead_5 : decode b_S_cheapestAhead 5 = .ok (.iconst 0, 1) := by decide +kernel
theorem d_S_cheapestAhead_6 : decode b_S_cheapestAhead 6 = .ok (.istore 5, 2) := by decide +kernel
theorem d_S_cheapestAhead_8 : decode b_S_cheapestAhead 8 = .ok (.iload 5, 2) := by decide +kernel
theorem d_S_cheapestAhead_10 : decode b_S_cheapestAhead 10 = .ok (.iconst 3, 1) := by decide +kernel
theorem d_S_cheapestAhead_11 : decode b_S_cheapestAhead 11 = .ok (.if_icmp .ge 73, 3) := by decide +kernel
theorem d_S_cheapestAhead_14 : decode b_S_cheapestAhead 14 = .ok (.aload_n 1, 1) := by decide +kernel
theorem d_S_cheapestAhead_15 : decode b_S_cheapestAhead 15 = .ok (.iload_n 2, 1) := by decide +kernel
theorem d_S_cheapestAhead_16 : decode b_S_cheapestAhead 16 = .ok (.iload 5, 2) := by decide +kernel
theorem d_S_cheapestAhead_18 : decode b_S_cheapestAhead 18 = .ok (.invokevirtual 81, 3) := by decide +kernel
theorem d_S_cheapestAhead_21 : decode b_S_cheapestAhead 21 = .ok (.istore 6, 2) := by decide +kernel
theorem d_S_cheapestAhead_23 : decode b_S_cheapestAhead 23 = .ok (.aload_n 1, 1) := by decide +kernel
theorem d_S_cheapestAhead_24 : decode b_S_cheapestAhead 24 = .ok (.iload 6, 2) := by decide +kernel
theorem d_S_cheapestAhead_26 : decode b_S_cheapestAhead 26 = .ok (.invokevirtual 101, 3) := by decide +kernel
theorem d_S_cheapestAhead_29 : decode b_S_cheapestAhead 29 = .ok (.ifCond .eq 49, 3) := by decide +kernel
theorem d_S_cheapestAhead_32 : decode b_S_cheapestAhead 32 = .ok (.aload_n 0, 1) := by decide +kernel
theorem d_S_cheapestAhead_33 : decode b_S_cheapestAhead 33 = .ok (.getfield 11, 3) := by decide +kernel
theorem d_S_cheapestAhead_36 : decode b_S_cheapestAhead 36 = .ok (.iload 6, 2) := by decide +kernel
theorem d_S_cheapestAhead_38 : decode b_S_cheapestAhead 38 = .ok (.iaload, 1) := by decide +kernel
theorem d_S_cheapestAhead_39 : decode b_S_cheapestAhead 39 = .ok (.iconst (-1), 1) := by decide +kernel
theorem d_S_cheapestAhead_40 : decode b_S_cheapestAhead 40 = .ok (.if_icmp .eq 38, 3) := by decide +kernel
theorem d_S_cheapestAhead_43 : decode b_S_cheapestAhead 43 = .ok (.aload_n 1, 1) := by decide +kernel
theorem d_S_cheapestAhead_44 : decode b_S_cheapestAhead 44 = .ok (.iload 6, 2) := by decide +kernel
theorem d_S_cheapestAhead_46 : decode b_S_cheapestAhead 46 = .ok (.invokevirtual 111, 3) := by decide +kernel
theorem d_S_cheapestAhead_49 : decode b_S_cheapestAhead 49 = .ok (.aload_n 0, 1) := by decide +kernel
theorem d_S_cheapestAhead_50 : decode b_S_cheapestAhead 50 = .ok (.getfield 11, 3) := by decide +kernel
theorem d_S_cheapestAhead_53 : decode b_S_cheapestAhead 53 = .ok (.iload 6, 2) := by decide +kernel
theorem d_S_cheapestAhead_55 : decode b_S_cheapestAhead 55 = .ok (.iaload, 1) := by decide +kernel
theorem d_S_cheapestAhead_56 : decode b_S_cheapestAhead 56 = .ok (.iadd, 1) := by decide +kernel
theorem d_S_cheapestAhead_57 : decode b_S_cheapestAhead 57 = .ok (.istore 7, 2) := by decide +kernel
theorem d_S_cheapestAhead_59 : decode b_S_cheapestAhead 59 = .ok (.iload_n 3, 1) := by decide +kernel
theorem d_S_cheapestAhead_60 : decode b_S_cheapestAhead 60 = .ok (.iconst (-1), 1) := by decide +kernel
theorem d_S_cheapestAhead_61 : decode b_S_cheapestAhead 61 = .ok (.if_icmp .eq 10, 3) := by decide +kernel
theorem d_S_cheapestAhead_64 : decode b_S_cheapestAhead 64 = .ok (.iload 7, 2) := by decide +kernel
theorem d_S_cheapestAhead_66 : decode b_S_cheapestAhead 66 = .ok (.iload 4, 2) := by decide +kernel
theorem d_S_cheapestAhead_68 : decode b_S_cheapestAhead 68 = .ok (.if_icmp .ge 10, 3) := by decide +kernel
theorem d_S_cheapestAhead_71 : decode b_S_cheapestAhead 71 = .ok (.iload 6, 2) := by decide +kernel
theorem d_S_cheapestAhead_73 : decode b_S_cheapestAhead 73 = .ok (.istore_n 3, 1) := by decide +kernel
theorem d_S_cheapestAhead_74 : decode b_S_cheapestAhead 74 = .ok (.iload 7, 2) := by decide +kernel
theorem d_S_cheapestAhead_76 : decode b_S_cheapestAhead 76 = .ok (.istore 4, 2) := by decide +kernel
theorem d_S_cheapestAhead_78 : decode b_S_cheapestAhead 78 = .ok (.iinc 5 1, 3) := by decide +kernel
theorem d_S_cheapestAhead_81 : decode b_S_cheapestAhead 81 = .ok (.goto (-73), 3) := by decide +kernel
theorem d_S_cheapestAhead_84 : decode b_S_cheapestAhead 84 = .ok (.iload_n 3, 1) := by decide +kernel
theorem d_S_cheapestAhead_85 : decode b_S_cheapestAhead 85 = .ok (.ireturn, 1) := by decide +kernel
theorem d_S_forget_0 : decode b_S_forget 0 = .ok (.aload_n 0, 1) := by decide +kernel
theorem d_S_forget_1 : decode b_S_forget 1 = .ok (.iconst (-1), 1) := by decide +kernel
theorem d_S_forget_2 : decode b_S_forget 2 = .ok (.putfield 29, 3) := by decide +kernel
theorem d_S_forget_5 : decode b_S_forget 5 = .ok (.return_, 1) := by decide +kernel
end
section
/-! DECODE rows, by program -/
theorem d_R_init_0 : decode b_R_init 0 = .ok (.aload_n 0, 1) := by decide +kernel
theorem d_R_init_1 : decode b_R_init 1 = .ok (.invokespecial 1, 3) := by decide +kernel
theorem d_R_init_4 : decode b_R_init 4 = .ok (.iload_n 1, 1) := by decide +kernel
theorem d_R_init_5 : decode b_R_init 5 = .ok (.invokestatic 7, 3) := by decide +kernel
theorem d_R_init_8 : decode b_R_init 8 = .ok (.istore_n 3, 1) := by decide +kernel
theorem d_R_init_9 : decode b_R_init 9 = .ok (.iload_n 2, 1) := by decide +kernel
theorem d_R_init_10 : decode b_R_init 10 = .ok (.invokestatic 7, 3) := by decide +kernel
theorem d_R_init_13 : decode b_R_init 13 = .ok (.istore 4, 2) := by decide +kernel
theorem d_R_init_15 : decode b_R_init 15 = .ok (.aload_n 0, 1) := by decide +kernel
theorem d_R_init_16 : decode b_R_init 16 = .ok (.new 13, 3) := by decide +kernel
theorem d_R_init_19 : decode b_R_init 19 = .ok (.dup, 1) := by decide +kernel
theorem d_R_init_20 : decode b_R_init 20 = .ok (.iload_n 3, 1) := by decide +kernel
theorem d_R_init_21 : decode b_R_init 21 = .ok (.iload 4, 2) := by decide +kernel
theorem d_R_init_23 : decode b_R_init 23 = .ok (.invokespecial 15, 3) := by decide +kernel
theorem d_R_init_26 : decode b_R_init 26 = .ok (.putfield 18, 3) := by decide +kernel
theorem d_R_init_29 : decode b_R_init 29 = .ok (.aload_n 0, 1) := by decide +kernel
theorem d_R_init_30 : decode b_R_init 30 = .ok (.new 22, 3) := by decide +kernel
theorem d_R_init_33 : decode b_R_init 33 = .ok (.dup, 1) := by decide +kernel
theorem d_R_init_34 : decode b_R_init 34 = .ok (.iload_n 3, 1) := by decide +kernel
theorem d_R_init_35 : decode b_R_init 35 = .ok (.iload 4, 2) := by decide +kernel
theorem d_R_init_37 : decode b_R_init 37 = .ok (.imul, 1) := by decide +kernel
theorem d_R_init_38 : decode b_R_init 38 = .ok (.invokespecial 24, 3) := by decide +kernel
theorem d_R_init_41 : decode b_R_init 41 = .ok (.putfield 27, 3) := by decide +kernel
theorem d_R_init_44 : decode b_R_init 44 = .ok (.return_, 1) := by decide +kernel
theorem d_R_sideWithin_0 : decode b_R_sideWithin 0 = .ok (.iconst 4, 1) := by decide +kernel
theorem d_R_sideWithin_1 : decode b_R_sideWithin 1 = .ok (.bipush 20, 2) := by decide +kernel
theorem d_R_sideWithin_3 : decode b_R_sideWithin 3 = .ok (.iload_n 0, 1) := by decide +kernel
theorem d_R_sideWithin_4 : decode b_R_sideWithin 4 = .ok (.invokestatic 130, 3) := by decide +kernel
theorem d_R_sideWithin_7 : decode b_R_sideWithin 7 = .ok (.invokestatic 135, 3) := by decide +kernel
theorem d_R_sideWithin_10 : decode b_R_sideWithin 10 = .ok (.ireturn, 1) := by decide +kernel
theorem d_R_at_0 : decode b_R_at 0 = .ok (.aload_n 0, 1) := by decide +kernel
theorem d_R_at_1 : decode b_R_at 1 = .ok (.getfield 18, 3) := by decide +kernel
theorem d_R_at_4 : decode b_R_at 4 = .ok (.iload_n 1, 1) := by decide +kernel
theorem d_R_at_5 : decode b_R_at 5 = .ok (.invokevirtual 78, 3) := by decide +kernel
theorem d_R_at_8 : decode b_R_at 8 = .ok (.ifCond .eq 13, 3) := by decide +kernel
theorem d_R_at_11 : decode b_R_at 11 = .ok (.iload_n 2, 1) := by decide +kernel
theorem d_R_at_12 : decode b_R_at 12 = .ok (.ifCond .lt 9, 3) := by decide +kernel
theorem d_R_at_15 : decode b_R_at 15 = .ok (.iload_n 2, 1) := by decide +kernel
theorem d_R_at_16 : decode b_R_at 16 = .ok (.bipush 6, 2) := by decide +kernel
theorem d_R_at_18 : decode b_R_at 18 = .ok (.if_icmp .le 5, 3) := by decide +kernel
theorem d_R_at_21 : decode b_R_at 21 = .ok (.iconst (-1), 1) := by decide +kernel
theorem d_R_at_22 : decode b_R_at 22 = .ok (.ireturn, 1) := by decide +kernel
theorem d_R_at_23 : decode b_R_at 23 = .ok (.iload_n 2, 1) := by decide +kernel
theorem d_R_at_24 : decode b_R_at 24 = .ok (.ifCond .ne 14, 3) := by decide +kernel
theorem d_R_at_27 : decode b_R_at 27 = .ok (.aload_n 0, 1) := by decide +kernel
theorem d_R_at_28 : decode b_R_at 28 = .ok (.getfield 18, 3) := by decide +kernel
theorem d_R_at_31 : decode b_R_at 31 = .ok (.iload_n 1, 1) := by decide +kernel
theorem d_R_at_32 : decode b_R_at 32 = .ok (.invokevirtual 81, 3) := by decide +kernel
theorem d_R_at_35 : decode b_R_at 35 = .ok (.goto 19, 3) := by decide +kernel
theorem d_R_at_38 : decode b_R_at 38 = .ok (.aload_n 0, 1) := by decide +kernel
theorem d_R_at_39 : decode b_R_at 39 = .ok (.getfield 18, 3) := by decide +kernel
theorem d_R_at_42 : decode b_R_at 42 = .ok (.getfield 84, 3) := by decide +kernel
theorem d_R_at_45 : decode b_R_at 45 = .ok (.bipush 6, 2) := by decide +kernel
theorem d_R_at_47 : decode b_R_at 47 = .ok (.iload_n 1, 1) := by decide +kernel
theorem d_R_at_48 : decode b_R_at 48 = .ok (.imul, 1) := by decide +kernel
theorem d_R_at_49 : decode b_R_at 49 = .ok (.iload_n 2, 1) := by decide +kernel
theorem d_R_at_50 : decode b_R_at 50 = .ok (.iadd, 1) := by decide +kernel
theorem d_R_at_51 : decode b_R_at 51 = .ok (.iconst 1, 1) := by decide +kernel
theorem d_R_at_52 : decode b_R_at 52 = .ok (.isub, 1) := by decide +kernel
theorem d_R_at_53 : decode b_R_at 53 = .ok (.iaload, 1) := by decide +kernel
theorem d_R_at_54 : decode b_R_at 54 = .ok (.ireturn, 1) := by decide +kernel
theorem d_R_next_0 : decode b_R_next 0 = .ok (.aload_n 0, 1) := by decide +kernel
theorem d_R_next_1 : decode b_R_next 1 = .ok (.getfield 18, 3) := by decide +kernel
theorem d_R_next_4 : decode b_R_next 4 = .ok (.iload_n 1, 1) := by decide +kernel
theorem d_R_next_5 : decode b_R_next 5 = .ok (.invokevirtual 88, 3) := by decide +kernel
theorem d_R_next_8 : decode b_R_next 8 = .ok (.ifCond .ne 5, 3) := by decide +kernel
theorem d_R_next_11 : decode b_R_next 11 = .ok (.iconst (-1), 1) := by decide +kernel
theorem d_R_next_12 : decode b_R_next 12 = .ok (.ireturn, 1) := by decide +kernel
theorem d_R_next_13 : decode b_R_next 13 = .ok (.iconst 0, 1) := by decide +kernel
theorem d_R_next_14 : decode b_R_next 14 = .ok (.istore_n 3, 1) := by decide +kernel
theorem d_R_next_15 : decode b_R_next 15 = .ok (.iconst 0, 1) := by decide +kernel
theorem d_R_next_16 : decode b_R_next 16 = .ok (.istore 4, 2) := by decide +kernel
theorem d_R_next_18 : decode b_R_next 18 = .ok (.iload 4, 2) := by decide +kernel
theorem d_R_next_20 : decode b_R_next 20 = .ok (.iconst 3, 1) := by decide +kernel
theorem d_R_next_21 : decode b_R_next 21 = .ok (.if_icmp .ge 44, 3) := by decide +kernel
theorem d_R_next_24 : decode b_R_next 24 = .ok (.aload_n 0, 1) := by decide +kernel
theorem d_R_next_25 : decode b_R_next 25 = .ok (.getfield 18, 3) := by decide +kernel
theorem d_R_next_28 : decode b_R_next 28 = .ok (.iload_n 1, 1) := by decide +kernel
theorem d_R_next_29 : decode b_R_next 29 = .ok (.iload 4, 2) := by decide +kernel
theorem d_R_next_31 : decode b_R_next 31 = .ok (.invokevirtual 91, 3) := by decide +kernel
theorem d_R_next_34 : decode b_R_next 34 = .ok (.istore 5, 2) := by decide +kernel
theorem d_R_next_36 : decode b_R_next 36 = .ok (.aload_n 0, 1) := by decide +kernel
theorem d_R_next_37 : decode b_R_next 37 = .ok (.getfield 18, 3) := by decide +kernel
theorem d_R_next_40 : decode b_R_next 40 = .ok (.iload 5, 2) := by decide +kernel
theorem d_R_next_42 : decode b_R_next 42 = .ok (.invokevirtual 88, 3) := by decide +kernel
theorem d_R_next_45 : decode b_R_next 45 = .ok (.ifCond .eq 14, 3) := by decide +kernel
theorem d_R_next_48 : decode b_R_next 48 = .ok (.iload_n 3, 1) := by decide +kernel
theorem d_R_next_49 : decode b_R_next 49 = .ok (.iload_n 2, 1) := by decide +kernel
theorem d_R_next_50 : decode b_R_next 50 = .ok (.if_icmp .ne 6, 3) := by decide +kernel
theorem d_R_next_53 : decode b_R_next 53 = .ok (.iload 5, 2) := by decide +kernel
theorem d_R_next_55 : decode b_R_next 55 = .ok (.ireturn, 1) := by decide +kernel
theorem d_R_next_56 : decode b_R_next 56 = .ok (.iinc 3 1, 3) := by decide +kernel
theorem d_R_next_59 : decode b_R_next 59 = .ok (.iinc 4 1, 3) := by decide +kernel
theorem d_R_next_62 : decode b_R_next 62 = .ok (.goto (-44), 3) := by decide +kernel
theorem d_R_next_65 : decode b_R_next 65 = .ok (.iconst (-1), 1) := by decide +kernel
theorem d_R_next_66 : decode b_R_next 66 = .ok (.ireturn, 1) := by decide +kernel
theorem d_R_before_0 : decode b_R_before 0 = .ok (.aload_n 0, 1) := by decide +kernel
theorem d_R_before_1 : decode b_R_before 1 = .ok (.getfield 18, 3) := by decide +kernel
theorem d_R_before_4 : decode b_R_before 4 = .ok (.iload_n 1, 1) := by decide +kernel
theorem d_R_before_5 : decode b_R_before 5 = .ok (.invokevirtual 88, 3) := by decide +kernel
theorem d_R_before_8 : decode b_R_before 8 = .ok (.ifCond .ne 5, 3) := by decide +kernel
theorem d_R_before_11 : decode b_R_before 11 = .ok (.iconst (-1), 1) := by decide +kernel
theorem d_R_before_12 : decode b_R_before 12 = .ok (.ireturn, 1) := by decide +kernel
theorem d_R_before_13 : decode b_R_before 13 = .ok (.iconst 0, 1) := by decide +kernel
theorem d_R_before_14 : decode b_R_before 14 = .ok (.istore_n 2, 1) := by decide +kernel
theorem d_R_before_15 : decode b_R_before 15 = .ok (.iload_n 2, 1) := by decide +kernel
theorem d_R_before_16 : decode b_R_before 16 = .ok (.iconst 3, 1) := by decide +kernel
theorem d_R_before_17 : decode b_R_before 17 = .ok (.if_icmp .ge 32, 3) := by decide +kernel
theorem d_R_before_20 : decode b_R_before 20 = .ok (.aload_n 0, 1) := by decide +kernel
theorem d_R_before_21 : decode b_R_before 21 = .ok (.getfield 18, 3) := by decide +kernel
theorem d_R_before_24 : decode b_R_before 24 = .ok (.iload_n 1, 1) := by decide +kernel
theorem d_R_before_25 : decode b_R_before 25 = .ok (.iload_n 2, 1) := by decide +kernel
theorem d_R_before_26 : decode b_R_before 26 = .ok (.invokevirtual 95, 3) := by decide +kernel
theorem d_R_before_29 : decode b_R_before 29 = .ok (.istore_n 3, 1) := by decide +kernel
theorem d_R_before_30 : decode b_R_before 30 = .ok (.aload_n 0, 1) := by decide +kernel
theorem d_R_before_31 : decode b_R_before 31 = .ok (.getfield 18, 3) := by decide +kernel
theorem d_R_before_34 : decode b_R_before 34 = .ok (.iload_n 3, 1) := by decide +kernel
theorem d_R_before_35 : decode b_R_before 35 = .ok (.invokevirtual 88, 3) := by decide +kernel
theorem d_R_before_38 : decode b_R_before 38 = .ok (.ifCond .eq 5, 3) := by decide +kernel
theorem d_R_before_41 : decode b_R_before 41 = .ok (.iload_n 3, 1) := by decide +kernel
theorem d_R_before_42 : decode b_R_before 42 = .ok (.ireturn, 1) := by decide +kernel
theorem d_R_before_43 : decode b_R_before 43 = .ok (.iinc 2 1, 3) := by decide +kernel
theorem d_R_before_46 : decode b_R_before 46 = .ok (.goto (-31), 3) := by decide +kernel
theorem d_R_before_49 : decode b_R_before 49 = .ok (.iconst (-1), 1) := by decide +kernel
theorem d_R_before_50 : decode b_R_before 50 = .ok (.ireturn, 1) := by decide +kernel
theorem d_R_block_0 : decode b_R_block 0 = .ok (.aload_n 0, 1) := by decide +kernel
theorem d_R_block_1 : decode b_R_block 1 = .ok (.getfield 18, 3) := by decide +kernel
theorem d_R_block_4 : decode b_R_block 4 = .ok (.iload_n 1, 1) := by decide +kernel
theorem d_R_block_5 : decode b_R_block 5 = .ok (.invokevirtual 78, 3) := by decide +kernel
theorem d_R_block_8 : decode b_R_block 8 = .ok (.ifCond .eq 10, 3) := by decide +kernel
theorem d_R_block_11 : decode b_R_block 11 = .ok (.iload_n 2, 1) := by decide +kernel
theorem d_R_block_12 : decode b_R_block 12 = .ok (.invokestatic 98, 3) := by decide +kernel
theorem d_R_block_15 : decode b_R_block 15 = .ok (.ifCond .ne 5, 3) := by decide +kernel
theorem d_R_block_18 : decode b_R_block 18 = .ok (.iconst (-1), 1) := by decide +kernel
theorem d_R_block_19 : decode b_R_block 19 = .ok (.ireturn, 1) := by decide +kernel
theorem d_R_block_20 : decode b_R_block 20 = .ok (.aload_n 0, 1) := by decide +kernel
theorem d_R_block_21 : decode b_R_block 21 = .ok (.getfield 27, 3) := by decide +kernel
theorem d_R_block_24 : decode b_R_block 24 = .ok (.aload_n 0, 1) := by decide +kernel
theorem d_R_block_25 : decode b_R_block 25 = .ok (.getfield 18, 3) := by decide +kernel
theorem d_R_block_28 : decode b_R_block 28 = .ok (.invokevirtual 101, 3) := by decide +kernel
theorem d_R_block_31 : decode b_R_block 31 = .ok (.aload_n 0, 1) := by decide +kernel
theorem d_R_block_32 : decode b_R_block 32 = .ok (.getfield 27, 3) := by decide +kernel
theorem d_R_block_35 : decode b_R_block 35 = .ok (.getfield 105, 3) := by decide +kernel
theorem d_R_block_38 : decode b_R_block 38 = .ok (.bipush 6, 2) := by decide +kernel
theorem d_R_block_40 : decode b_R_block 40 = .ok (.iload_n 1, 1) := by decide +kernel
theorem d_R_block_41 : decode b_R_block 41 = .ok (.imul, 1) := by decide +kernel
theorem d_R_block_42 : decode b_R_block 42 = .ok (.iload_n 2, 1) := by decide +kernel
theorem d_R_block_43 : decode b_R_block 43 = .ok (.iadd, 1) := by decide +kernel
theorem d_R_block_44 : decode b_R_block 44 = .ok (.iaload, 1) := by decide +kernel
theorem d_R_block_45 : decode b_R_block 45 = .ok (.ireturn, 1) := by decide +kernel
theorem d_R_isKind_0 : decode b_R_isKind 0 = .ok (.iload_n 0, 1) := by decide +kernel
theorem d_R_isKind_1 : decode b_R_isKind 1 = .ok (.ifCond .lt 13, 3) := by decide +kernel
theorem d_R_isKind_4 : decode b_R_isKind 4 = .ok (.iload_n 0, 1) := by decide +kernel
theorem d_R_isKind_5 : decode b_R_isKind 5 = .ok (.bipush 6, 2) := by decide +kernel
theorem d_R_isKind_7 : decode b_R_isKind 7 = .ok (.if_icmp .ge 7, 3) := by decide +kernel
theorem d_R_isKind_10 : decode b_R_isKind 10 = .ok (.iconst 1, 1) := by decide +kernel
theorem d_R_isKind_11 : decode b_R_isKind 11 = .ok (.goto 4, 3) := by decide +kernel
theorem d_R_isKind_14 : decode b_R_isKind 14 = .ok (.iconst 0, 1) := by decide +kernel
theorem d_R_isKind_15 : decode b_R_isKind 15 = .ok (.ireturn, 1) := by decide +kernel
theorem d_R_sign_0 : decode b_R_sign 0 = .ok (.iload_n 1, 1) := by decide +kernel
theorem d_R_sign_1 : decode b_R_sign 1 = .ok (.invokestatic 65, 3) := by decide +kernel
theorem d_R_sign_4 : decode b_R_sign 4 = .ok (.ifCond .ne 5, 3) := by decide +kernel
theorem d_R_sign_7 : decode b_R_sign 7 = .ok (.iconst (-1), 1) := by decide +kernel
theorem d_R_sign_8 : decode b_R_sign 8 = .ok (.ireturn, 1) := by decide +kernel
theorem d_R_sign_9 : decode b_R_sign 9 = .ok (.iconst 0, 1) := by decide +kernel
theorem d_R_sign_10 : decode b_R_sign 10 = .ok (.istore_n 2, 1) := by decide +kernel
theorem d_R_sign_11 : decode b_R_sign 11 = .ok (.iload_n 2, 1) := by decide +kernel
theorem d_R_sign_12 : decode b_R_sign 12 = .ok (.aload_n 0, 1) := by decide +kernel
theorem d_R_sign_13 : decode b_R_sign 13 = .ok (.getfield 18, 3) := by decide +kernel
theorem d_R_sign_16 : decode b_R_sign 16 = .ok (.getfield 84, 3) := by decide +kernel
theorem d_R_sign_19 : decode b_R_sign 19 = .ok (.arraylength, 1) := by decide +kernel
theorem d_R_sign_20 : decode b_R_sign 20 = .ok (.if_icmp .ge 26, 3) := by decide +kernel
theorem d_R_sign_23 : decode b_R_sign 23 = .ok (.aload_n 0, 1) := by decide +kernel
theorem d_R_sign_24 : decode b_R_sign 24 = .ok (.getfield 18, 3) := by decide +kernel
theorem d_R_sign_27 : decode b_R_sign 27 = .ok (.iload_n 2, 1) := by decide +kernel
theorem d_R_sign_28 : decode b_R_sign 28 = .ok (.invokevirtual 62, 3) := by decide +kernel
theorem d_R_sign_31 : decode b_R_sign 31 = .ok (.iload_n 1, 1) := by decide +kernel
theorem d_R_sign_32 : decode b_R_sign 32 = .ok (.if_icmp .ne 8, 3) := by decide +kernel
theorem d_R_sign_35 : decode b_R_sign 35 = .ok (.iload_n 2, 1) := by decide +kernel
theorem d_R_sign_36 : decode b_R_sign 36 = .ok (.bipush 6, 2) := by decide +kernel
theorem d_R_sign_38 : decode b_R_sign 38 = .ok (.idiv, 1) := by decide +kernel
theorem d_R_sign_39 : decode b_R_sign 39 = .ok (.ireturn, 1) := by decide +kernel
theorem d_R_sign_40 : decode b_R_sign 40 = .ok (.iinc 2 1, 3) := by decide +kernel
theorem d_R_sign_43 : decode b_R_sign 43 = .ok (.goto (-32), 3) := by decide +kernel
theorem d_R_sign_46 : decode b_R_sign 46 = .ok (.iconst (-1), 1) := by decide +kernel
theorem d_R_sign_47 : decode b_R_sign 47 = .ok (.ireturn, 1) := by decide +kernel
theorem d_R_isStation_0 : decode b_R_isStation 0 = .ok (.iload_n 0, 1) := by decide +kernel
theorem d_R_isStation_1 : decode b_R_isStation 1 = .ok (.ifCond .lt 13, 3) := by decide +kernel
theorem d_R_isStation_4 : decode b_R_isStation 4 = .ok (.iload_n 0, 1) := by decide +kernel
theorem d_R_isStation_5 : decode b_R_isStation 5 = .ok (.bipush 8, 2) := by decide +kernel
theorem d_R_isStation_7 : decode b_R_isStation 7 = .ok (.if_icmp .ge 7, 3) := by decide +kernel
theorem d_R_isStation_10 : decode b_R_isStation 10 = .ok (.iconst 1, 1) := by decide +kernel
theorem d_R_isStation_11 : decode b_R_isStation 11 = .ok (.goto 4, 3) := by decide +kernel
theorem d_R_isStation_14 : decode b_R_isStation 14 = .ok (.iconst 0, 1) := by decide +kernel
theorem d_R_isStation_15 : decode b_R_isStation 15 = .ok (.ireturn, 1) := by decide +kernel
theorem d_R_isTarget_0 : decode b_R_isTarget 0 = .ok (.iload_n 2, 1) := by decide +kernel
theorem d_R_isTarget_1 : decode b_R_isTarget 1 = .ok (.invokestatic 65, 3) := by decide +kernel
theorem d_R_isTarget_4 : decode b_R_isTarget 4 = .ok (.ifCond .eq 30, 3) := by decide +kernel
theorem d_R_isTarget_7 : decode b_R_isTarget 7 = .ok (.aload_n 0, 1) := by decide +kernel
theorem d_R_isTarget_8 : decode b_R_isTarget 8 = .ok (.getfield 18, 3) := by decide +kernel
theorem d_R_isTarget_11 : decode b_R_isTarget 11 = .ok (.iload_n 1, 1) := by decide +kernel
theorem d_R_isTarget_12 : decode b_R_isTarget 12 = .ok (.invokevirtual 88, 3) := by decide +kernel
theorem d_R_isTarget_15 : decode b_R_isTarget 15 = .ok (.ifCond .eq 19, 3) := by decide +kernel
theorem d_R_isTarget_18 : decode b_R_isTarget 18 = .ok (.aload_n 0, 1) := by decide +kernel
theorem d_R_isTarget_19 : decode b_R_isTarget 19 = .ok (.getfield 18, 3) := by decide +kernel
theorem d_R_isTarget_22 : decode b_R_isTarget 22 = .ok (.iload_n 1, 1) := by decide +kernel
theorem d_R_isTarget_23 : decode b_R_isTarget 23 = .ok (.iload_n 2, 1) := by decide +kernel
theorem d_R_isTarget_24 : decode b_R_isTarget 24 = .ok (.invokevirtual 108, 3) := by decide +kernel
theorem d_R_isTarget_27 : decode b_R_isTarget 27 = .ok (.ifCond .eq 7, 3) := by decide +kernel
theorem d_R_isTarget_30 : decode b_R_isTarget 30 = .ok (.iconst 1, 1) := by decide +kernel
theorem d_R_isTarget_31 : decode b_R_isTarget 31 = .ok (.goto 4, 3) := by decide +kernel
theorem d_R_isTarget_34 : decode b_R_isTarget 34 = .ok (.iconst 0, 1) := by decide +kernel
theorem d_R_isTarget_35 : decode b_R_isTarget 35 = .ok (.ireturn, 1) := by decide +kernel
theorem d_R_cost_0 : decode b_R_cost 0 = .ok (.iload_n 2, 1) := by decide +kernel
theorem d_R_cost_1 : decode b_R_cost 1 = .ok (.invokestatic 65, 3) := by decide +kernel
theorem d_R_cost_4 : decode b_R_cost 4 = .ok (.ifCond .eq 14, 3) := by decide +kernel
theorem d_R_cost_7 : decode b_R_cost 7 = .ok (.aload_n 0, 1) := by decide +kernel
theorem d_R_cost_8 : decode b_R_cost 8 = .ok (.getfield 18, 3) := by decide +kernel
theorem d_R_cost_11 : decode b_R_cost 11 = .ok (.iload_n 1, 1) := by decide +kernel
theorem d_R_cost_12 : decode b_R_cost 12 = .ok (.invokevirtual 88, 3) := by decide +kernel
theorem d_R_cost_15 : decode b_R_cost 15 = .ok (.ifCond .ne 5, 3) := by decide +kernel
theorem d_R_cost_18 : decode b_R_cost 18 = .ok (.iconst (-1), 1) := by decide +kernel
theorem d_R_cost_19 : decode b_R_cost 19 = .ok (.ireturn, 1) := by decide +kernel
theorem d_R_cost_20 : decode b_R_cost 20 = .ok (.aload_n 0, 1) := by decide +kernel
theorem d_R_cost_21 : decode b_R_cost 21 = .ok (.getfield 27, 3) := by decide +kernel
theorem d_R_cost_24 : decode b_R_cost 24 = .ok (.aload_n 0, 1) := by decide +kernel
theorem d_R_cost_25 : decode b_R_cost 25 = .ok (.getfield 18, 3) := by decide +kernel
theorem d_R_cost_28 : decode b_R_cost 28 = .ok (.iload_n 2, 1) := by decide +kernel
theorem d_R_cost_29 : decode b_R_cost 29 = .ok (.invokevirtual 112, 3) := by decide +kernel
theorem d_R_cost_32 : decode b_R_cost 32 = .ok (.aload_n 0, 1) := by decide +kernel
theorem d_R_cost_33 : decode b_R_cost 33 = .ok (.getfield 27, 3) := by decide +kernel
theorem d_R_cost_36 : decode b_R_cost 36 = .ok (.getfield 105, 3) := by decide +kernel
theorem d_R_cost_39 : decode b_R_cost 39 = .ok (.iload_n 1, 1) := by decide +kernel
theorem d_R_cost_40 : decode b_R_cost 40 = .ok (.iaload, 1) := by decide +kernel
theorem d_R_cost_41 : decode b_R_cost 41 = .ok (.ireturn, 1) := by decide +kernel
theorem d_R_route_0 : decode b_R_route 0 = .ok (.iload_n 2, 1) := by decide +kernel
theorem d_R_route_1 : decode b_R_route 1 = .ok (.invokestatic 65, 3) := by decide +kernel
theorem d_R_route_4 : decode b_R_route 4 = .ok (.ifCond .eq 14, 3) := by decide +kernel
theorem d_R_route_7 : decode b_R_route 7 = .ok (.aload_n 0, 1) := by decide +kernel
theorem d_R_route_8 : decode b_R_route 8 = .ok (.getfield 18, 3) := by decide +kernel
theorem d_R_route_11 : decode b_R_route 11 = .ok (.iload_n 1, 1) := by decide +kernel
theorem d_R_route_12 : decode b_R_route 12 = .ok (.invokevirtual 88, 3) := by decide +kernel
theorem d_R_route_15 : decode b_R_route 15 = .ok (.ifCond .ne 5, 3) := by decide +kernel
theorem d_R_route_18 : decode b_R_route 18 = .ok (.iconst (-1), 1) := by decide +kernel
theorem d_R_route_19 : decode b_R_route 19 = .ok (.ireturn, 1) := by decide +kernel
theorem d_R_route_20 : decode b_R_route 20 = .ok (.aload_n 0, 1) := by decide +kernel
theorem d_R_route_21 : decode b_R_route 21 = .ok (.getfield 27, 3) := by decide +kernel
theorem d_R_route_24 : decode b_R_route 24 = .ok (.aload_n 0, 1) := by decide +kernel
theorem d_R_route_25 : decode b_R_route 25 = .ok (.getfield 18, 3) := by decide +kernel
theorem d_R_route_28 : decode b_R_route 28 = .ok (.iload_n 2, 1) := by decide +kernel
theorem d_R_route_29 : decode b_R_route 29 = .ok (.invokevirtual 112, 3) := by decide +kernel
theorem d_R_route_32 : decode b_R_route 32 = .ok (.aload_n 0, 1) := by decide +kernel
theorem d_R_route_33 : decode b_R_route 33 = .ok (.getfield 27, 3) := by decide +kernel
theorem d_R_route_36 : decode b_R_route 36 = .ok (.getfield 105, 3) := by decide +kernel
theorem d_R_route_39 : decode b_R_route 39 = .ok (.iload_n 1, 1) := by decide +kernel
theorem d_R_route_40 : decode b_R_route 40 = .ok (.iaload, 1) := by decide +kernel
theorem d_R_route_41 : decode b_R_route 41 = .ok (.ifCond .gt 5, 3) := by decide +kernel
theorem d_R_route_44 : decode b_R_route 44 = .ok (.iconst (-1), 1) := by decide +kernel
theorem d_R_route_45 : decode b_R_route 45 = .ok (.ireturn, 1) := by decide +kernel
theorem d_R_route_46 : decode b_R_route 46 = .ok (.iload_n 1, 1) := by decide +kernel
theorem d_R_route_47 : decode b_R_route 47 = .ok (.istore 4, 2) := by decide +kernel
theorem d_R_route_49 : decode b_R_route 49 = .ok (.iconst 0, 1) := by decide +kernel
theorem d_R_route_50 : decode b_R_route 50 = .ok (.istore 5, 2) := by decide +kernel
theorem d_R_route_52 : decode b_R_route 52 = .ok (.iload 5, 2) := by decide +kernel
theorem d_R_route_54 : decode b_R_route 54 = .ok (.aload_n 0, 1) := by decide +kernel
theorem d_R_route_55 : decode b_R_route 55 = .ok (.getfield 27, 3) := by decide +kernel
theorem d_R_route_58 : decode b_R_route 58 = .ok (.getfield 105, 3) := by decide +kernel
theorem d_R_route_61 : decode b_R_route 61 = .ok (.arraylength, 1) := by decide +kernel
theorem d_R_route_62 : decode b_R_route 62 = .ok (.if_icmp .ge 66, 3) := by decide +kernel
theorem d_R_route_65 : decode b_R_route 65 = .ok (.aload_n 0, 1) := by decide +kernel
theorem d_R_route_66 : decode b_R_route 66 = .ok (.getfield 27, 3) := by decide +kernel
theorem d_R_route_69 : decode b_R_route 69 = .ok (.aload_n 0, 1) := by decide +kernel
theorem d_R_route_70 : decode b_R_route 70 = .ok (.getfield 18, 3) := by decide +kernel
theorem d_R_route_73 : decode b_R_route 73 = .ok (.iload 4, 2) := by decide +kernel
theorem d_R_route_75 : decode b_R_route 75 = .ok (.invokevirtual 116, 3) := by decide +kernel
theorem d_R_route_78 : decode b_R_route 78 = .ok (.istore 4, 2) := by decide +kernel
theorem d_R_route_80 : decode b_R_route 80 = .ok (.iload 4, 2) := by decide +kernel
theorem d_R_route_82 : decode b_R_route 82 = .ok (.iconst (-1), 1) := by decide +kernel
theorem d_R_route_83 : decode b_R_route 83 = .ok (.if_icmp .eq 9, 3) := by decide +kernel
theorem d_R_route_86 : decode b_R_route 86 = .ok (.iload 5, 2) := by decide +kernel
theorem d_R_route_88 : decode b_R_route 88 = .ok (.iload_n 3, 1) := by decide +kernel
theorem d_R_route_89 : decode b_R_route 89 = .ok (.if_icmp .ne 6, 3) := by decide +kernel
theorem d_R_route_92 : decode b_R_route 92 = .ok (.iload 4, 2) := by decide +kernel
theorem d_R_route_94 : decode b_R_route 94 = .ok (.ireturn, 1) := by decide +kernel
theorem d_R_route_95 : decode b_R_route 95 = .ok (.aload_n 0, 1) := by decide +kernel
theorem d_R_route_96 : decode b_R_route 96 = .ok (.getfield 18, 3) := by decide +kernel
theorem d_R_route_99 : decode b_R_route 99 = .ok (.iload 4, 2) := by decide +kernel
theorem d_R_route_101 : decode b_R_route 101 = .ok (.invokevirtual 120, 3) := by decide +kernel
theorem d_R_route_104 : decode b_R_route 104 = .ok (.ifCond .ne 16, 3) := by decide +kernel
theorem d_R_route_107 : decode b_R_route 107 = .ok (.aload_n 0, 1) := by decide +kernel
theorem d_R_route_108 : decode b_R_route 108 = .ok (.getfield 27, 3) := by decide +kernel
theorem d_R_route_111 : decode b_R_route 111 = .ok (.getfield 105, 3) := by decide +kernel
theorem d_R_route_114 : decode b_R_route 114 = .ok (.iload 4, 2) := by decide +kernel
theorem d_R_route_116 : decode b_R_route 116 = .ok (.iaload, 1) := by decide +kernel
theorem d_R_route_117 : decode b_R_route 117 = .ok (.ifCond .ne 5, 3) := by decide +kernel
theorem d_R_route_120 : decode b_R_route 120 = .ok (.iconst (-1), 1) := by decide +kernel
theorem d_R_route_121 : decode b_R_route 121 = .ok (.ireturn, 1) := by decide +kernel
theorem d_R_route_122 : decode b_R_route 122 = .ok (.iinc 5 1, 3) := by decide +kernel
theorem d_R_route_125 : decode b_R_route 125 = .ok (.goto (-73), 3) := by decide +kernel
theorem d_R_route_128 : decode b_R_route 128 = .ok (.iconst (-1), 1) := by decide +kernel
theorem d_R_route_129 : decode b_R_route 129 = .ok (.ireturn, 1) := by decide +kernel
theorem d_R_count_0 : decode b_R_count 0 = .ok (.iload_n 1, 1) := by decide +kernel
theorem d_R_count_1 : decode b_R_count 1 = .ok (.tableswitch 80 0 3 #[31, 40, 50, 61], 31) := by decide +kernel
theorem d_R_count_32 : decode b_R_count 32 = .ok (.aload_n 0, 1) := by decide +kernel
theorem d_R_count_33 : decode b_R_count 33 = .ok (.getfield 18, 3) := by decide +kernel
theorem d_R_count_36 : decode b_R_count 36 = .ok (.iconst 1, 1) := by decide +kernel
theorem d_R_count_37 : decode b_R_count 37 = .ok (.invokevirtual 123, 3) := by decide +kernel
theorem d_R_count_40 : decode b_R_count 40 = .ok (.ireturn, 1) := by decide +kernel
theorem d_R_count_41 : decode b_R_count 41 = .ok (.aload_n 0, 1) := by decide +kernel
theorem d_R_count_42 : decode b_R_count 42 = .ok (.getfield 18, 3) := by decide +kernel
theorem d_R_count_45 : decode b_R_count 45 = .ok (.bipush 28, 2) := by decide +kernel
theorem d_R_count_47 : decode b_R_count 47 = .ok (.invokevirtual 123, 3) := by decide +kernel
theorem d_R_count_50 : decode b_R_count 50 = .ok (.ireturn, 1) := by decide +kernel
theorem d_R_count_51 : decode b_R_count 51 = .ok (.aload_n 0, 1) := by decide +kernel
theorem d_R_count_52 : decode b_R_count 52 = .ok (.getfield 18, 3) := by decide +kernel
theorem d_R_count_55 : decode b_R_count 55 = .ok (.sipush 480, 3) := by decide +kernel
theorem d_R_count_58 : decode b_R_count 58 = .ok (.invokevirtual 123, 3) := by decide +kernel
theorem d_R_count_61 : decode b_R_count 61 = .ok (.ireturn, 1) := by decide +kernel
theorem d_R_count_62 : decode b_R_count 62 = .ok (.aload_n 0, 1) := by decide +kernel
theorem d_R_count_63 : decode b_R_count 63 = .ok (.getfield 27, 3) := by decide +kernel
theorem d_R_count_66 : decode b_R_count 66 = .ok (.aload_n 0, 1) := by decide +kernel
theorem d_R_count_67 : decode b_R_count 67 = .ok (.getfield 18, 3) := by decide +kernel
theorem d_R_count_70 : decode b_R_count 70 = .ok (.invokevirtual 101, 3) := by decide +kernel
theorem d_R_count_73 : decode b_R_count 73 = .ok (.aload_n 0, 1) := by decide +kernel
theorem d_R_count_74 : decode b_R_count 74 = .ok (.getfield 27, 3) := by decide +kernel
theorem d_R_count_77 : decode b_R_count 77 = .ok (.getfield 126, 3) := by decide +kernel
theorem d_R_count_80 : decode b_R_count 80 = .ok (.ireturn, 1) := by decide +kernel
theorem d_R_count_81 : decode b_R_count 81 = .ok (.iconst (-1), 1) := by decide +kernel
theorem d_R_count_82 : decode b_R_count 82 = .ok (.ireturn, 1) := by decide +kernel
theorem d_R_lay_0 : decode b_R_lay 0 = .ok (.aload_n 0, 1) := by decide +kernel
theorem d_R_lay_1 : decode b_R_lay 1 = .ok (.iload_n 1, 1) := by decide +kernel
theorem d_R_lay_2 : decode b_R_lay 2 = .ok (.iload_n 2, 1) := by decide +kernel
theorem d_R_lay_3 : decode b_R_lay 3 = .ok (.invokevirtual 31, 3) := by decide +kernel
theorem d_R_lay_6 : decode b_R_lay 6 = .ok (.bipush 6, 2) := by decide +kernel
theorem d_R_lay_8 : decode b_R_lay 8 = .ok (.iload_n 1, 1) := by decide +kernel
theorem d_R_lay_9 : decode b_R_lay 9 = .ok (.imul, 1) := by decide +kernel
theorem d_R_lay_10 : decode b_R_lay 10 = .ok (.iload_n 2, 1) := by decide +kernel
theorem d_R_lay_11 : decode b_R_lay 11 = .ok (.iadd, 1) := by decide +kernel
theorem d_R_lay_12 : decode b_R_lay 12 = .ok (.istore_n 3, 1) := by decide +kernel
theorem d_R_lay_13 : decode b_R_lay 13 = .ok (.aload_n 0, 1) := by decide +kernel
theorem d_R_lay_14 : decode b_R_lay 14 = .ok (.getfield 18, 3) := by decide +kernel
theorem d_R_lay_17 : decode b_R_lay 17 = .ok (.iload_n 3, 1) := by decide +kernel
theorem d_R_lay_18 : decode b_R_lay 18 = .ok (.invokevirtual 34, 3) := by decide +kernel
theorem d_R_lay_21 : decode b_R_lay 21 = .ok (.ifCond .eq 13, 3) := by decide +kernel
theorem d_R_lay_24 : decode b_R_lay 24 = .ok (.new 38, 3) := by decide +kernel
theorem d_R_lay_27 : decode b_R_lay 27 = .ok (.dup, 1) := by decide +kernel
theorem d_R_lay_28 : decode b_R_lay 28 = .ok (.ldc 40, 2) := by decide +kernel
theorem d_R_lay_30 : decode b_R_lay 30 = .ok (.invokespecial 42, 3) := by decide +kernel
theorem d_R_lay_33 : decode b_R_lay 33 = .ok (.athrow, 1) := by decide +kernel
theorem d_R_lay_34 : decode b_R_lay 34 = .ok (.aload_n 0, 1) := by decide +kernel
theorem d_R_lay_35 : decode b_R_lay 35 = .ok (.getfield 18, 3) := by decide +kernel
theorem d_R_lay_38 : decode b_R_lay 38 = .ok (.iload_n 3, 1) := by decide +kernel
theorem d_R_lay_39 : decode b_R_lay 39 = .ok (.iconst 0, 1) := by decide +kernel
theorem d_R_lay_40 : decode b_R_lay 40 = .ok (.iconst (-1), 1) := by decide +kernel
theorem d_R_lay_41 : decode b_R_lay 41 = .ok (.invokevirtual 45, 3) := by decide +kernel
theorem d_R_lay_44 : decode b_R_lay 44 = .ok (.aload_n 0, 1) := by decide +kernel
theorem d_R_lay_45 : decode b_R_lay 45 = .ok (.getfield 27, 3) := by decide +kernel
theorem d_R_lay_48 : decode b_R_lay 48 = .ok (.invokevirtual 49, 3) := by decide +kernel
theorem d_R_lay_51 : decode b_R_lay 51 = .ok (.return_, 1) := by decide +kernel
theorem d_R_requirePlace_0 : decode b_R_requirePlace 0 = .ok (.aload_n 0, 1) := by decide +kernel
theorem d_R_requirePlace_1 : decode b_R_requirePlace 1 = .ok (.getfield 18, 3) := by decide +kernel
theorem d_R_requirePlace_4 : decode b_R_requirePlace 4 = .ok (.iload_n 1, 1) := by decide +kernel
theorem d_R_requirePlace_5 : decode b_R_requirePlace 5 = .ok (.invokevirtual 78, 3) := by decide +kernel
theorem d_R_requirePlace_8 : decode b_R_requirePlace 8 = .ok (.ifCond .ne 13, 3) := by decide +kernel
theorem d_R_requirePlace_11 : decode b_R_requirePlace 11 = .ok (.new 68, 3) := by decide +kernel
theorem d_R_requirePlace_14 : decode b_R_requirePlace 14 = .ok (.dup, 1) := by decide +kernel
theorem d_R_requirePlace_15 : decode b_R_requirePlace 15 = .ok (.ldc 138, 2) := by decide +kernel
theorem d_R_requirePlace_17 : decode b_R_requirePlace 17 = .ok (.invokespecial 72, 3) := by decide +kernel
theorem d_R_requirePlace_20 : decode b_R_requirePlace 20 = .ok (.athrow, 1) := by decide +kernel
theorem d_R_requirePlace_21 : decode b_R_requirePlace 21 = .ok (.iload_n 2, 1) := by decide +kernel
theorem d_R_requirePlace_22 : decode b_R_requirePlace 22 = .ok (.invokestatic 98, 3) := by decide +kernel
theorem d_R_requirePlace_25 : decode b_R_requirePlace 25 = .ok (.ifCond .ne 13, 3) := by decide +kernel
theorem d_R_requirePlace_28 : decode b_R_requirePlace 28 = .ok (.new 68, 3) := by decide +kernel
theorem d_R_requirePlace_31 : decode b_R_requirePlace 31 = .ok (.dup, 1) := by decide +kernel
theorem d_R_requirePlace_32 : decode b_R_requirePlace 32 = .ok (.ldc 140, 2) := by decide +kernel
theorem d_R_requirePlace_34 : decode b_R_requirePlace 34 = .ok (.invokespecial 72, 3) := by decide +kernel
theorem d_R_requirePlace_37 : decode b_R_requirePlace 37 = .ok (.athrow, 1) := by decide +kernel
theorem d_R_requirePlace_38 : decode b_R_requirePlace 38 = .ok (.return_, 1) := by decide +kernel
theorem d_R_lift_0 : decode b_R_lift 0 = .ok (.aload_n 0, 1) := by decide +kernel
theorem d_R_lift_1 : decode b_R_lift 1 = .ok (.iload_n 1, 1) := by decide +kernel
theorem d_R_lift_2 : decode b_R_lift 2 = .ok (.iload_n 2, 1) := by decide +kernel
theorem d_R_lift_3 : decode b_R_lift 3 = .ok (.invokevirtual 31, 3) := by decide +kernel
theorem d_R_lift_6 : decode b_R_lift 6 = .ok (.bipush 6, 2) := by decide +kernel
theorem d_R_lift_8 : decode b_R_lift 8 = .ok (.iload_n 1, 1) := by decide +kernel
theorem d_R_lift_9 : decode b_R_lift 9 = .ok (.imul, 1) := by decide +kernel
theorem d_R_lift_10 : decode b_R_lift 10 = .ok (.iload_n 2, 1) := by decide +kernel
theorem d_R_lift_11 : decode b_R_lift 11 = .ok (.iadd, 1) := by decide +kernel
theorem d_R_lift_12 : decode b_R_lift 12 = .ok (.istore_n 3, 1) := by decide +kernel
theorem d_R_lift_13 : decode b_R_lift 13 = .ok (.aload_n 0, 1) := by decide +kernel
theorem d_R_lift_14 : decode b_R_lift 14 = .ok (.iload_n 3, 1) := by decide +kernel
theorem d_R_lift_15 : decode b_R_lift 15 = .ok (.invokevirtual 52, 3) := by decide +kernel
theorem d_R_lift_18 : decode b_R_lift 18 = .ok (.aload_n 0, 1) := by decide +kernel
theorem d_R_lift_19 : decode b_R_lift 19 = .ok (.getfield 18, 3) := by decide +kernel
theorem d_R_lift_22 : decode b_R_lift 22 = .ok (.iload_n 3, 1) := by decide +kernel
theorem d_R_lift_23 : decode b_R_lift 23 = .ok (.invokevirtual 55, 3) := by decide +kernel
theorem d_R_lift_26 : decode b_R_lift 26 = .ok (.aload_n 0, 1) := by decide +kernel
theorem d_R_lift_27 : decode b_R_lift 27 = .ok (.getfield 27, 3) := by decide +kernel
theorem d_R_lift_30 : decode b_R_lift 30 = .ok (.invokevirtual 49, 3) := by decide +kernel
theorem d_R_lift_33 : decode b_R_lift 33 = .ok (.return_, 1) := by decide +kernel
theorem d_R_requireThere_0 : decode b_R_requireThere 0 = .ok (.aload_n 0, 1) := by decide +kernel
theorem d_R_requireThere_1 : decode b_R_requireThere 1 = .ok (.getfield 18, 3) := by decide +kernel
theorem d_R_requireThere_4 : decode b_R_requireThere 4 = .ok (.iload_n 1, 1) := by decide +kernel
theorem d_R_requireThere_5 : decode b_R_requireThere 5 = .ok (.invokevirtual 34, 3) := by decide +kernel
theorem d_R_requireThere_8 : decode b_R_requireThere 8 = .ok (.ifCond .ne 13, 3) := by decide +kernel
theorem d_R_requireThere_11 : decode b_R_requireThere 11 = .ok (.new 38, 3) := by decide +kernel
theorem d_R_requireThere_14 : decode b_R_requireThere 14 = .ok (.dup, 1) := by decide +kernel
theorem d_R_requireThere_15 : decode b_R_requireThere 15 = .ok (.ldc 142, 2) := by decide +kernel
theorem d_R_requireThere_17 : decode b_R_requireThere 17 = .ok (.invokespecial 42, 3) := by decide +kernel
theorem d_R_requireThere_20 : decode b_R_requireThere 20 = .ok (.athrow, 1) := by decide +kernel
theorem d_R_requireThere_21 : decode b_R_requireThere 21 = .ok (.return_, 1) := by decide +kernel
theorem d_R_signal_0 : decode b_R_signal 0 = .ok (.aload_n 0, 1) := by decide +kernel
theorem d_R_signal_1 : decode b_R_signal 1 = .ok (.iload_n 1, 1) := by decide +kernel
theorem d_R_signal_2 : decode b_R_signal 2 = .ok (.iload_n 2, 1) := by decide +kernel
theorem d_R_signal_3 : decode b_R_signal 3 = .ok (.invokevirtual 31, 3) := by decide +kernel
theorem d_R_signal_6 : decode b_R_signal 6 = .ok (.bipush 6, 2) := by decide +kernel
theorem d_R_signal_8 : decode b_R_signal 8 = .ok (.iload_n 1, 1) := by decide +kernel
theorem d_R_signal_9 : decode b_R_signal 9 = .ok (.imul, 1) := by decide +kernel
theorem d_R_signal_10 : decode b_R_signal 10 = .ok (.iload_n 2, 1) := by decide +kernel
theorem d_R_signal_11 : decode b_R_signal 11 = .ok (.iadd, 1) := by decide +kernel
theorem d_R_signal_12 : decode b_R_signal 12 = .ok (.istore 5, 2) := by decide +kernel
theorem d_R_signal_14 : decode b_R_signal 14 = .ok (.aload_n 0, 1) := by decide +kernel
theorem d_R_signal_15 : decode b_R_signal 15 = .ok (.iload 5, 2) := by decide +kernel
theorem d_R_signal_17 : decode b_R_signal 17 = .ok (.invokevirtual 52, 3) := by decide +kernel
theorem d_R_signal_20 : decode b_R_signal 20 = .ok (.iload_n 3, 1) := by decide +kernel
theorem d_R_signal_21 : decode b_R_signal 21 = .ok (.iconst (-1), 1) := by decide +kernel
theorem d_R_signal_22 : decode b_R_signal 22 = .ok (.if_icmp .lt 8, 3) := by decide +kernel
theorem d_R_signal_25 : decode b_R_signal 25 = .ok (.iload_n 3, 1) := by decide +kernel
theorem d_R_signal_26 : decode b_R_signal 26 = .ok (.iconst 1, 1) := by decide +kernel
theorem d_R_signal_27 : decode b_R_signal 27 = .ok (.if_icmp .le 13, 3) := by decide +kernel
theorem d_R_signal_30 : decode b_R_signal 30 = .ok (.new 38, 3) := by decide +kernel
theorem d_R_signal_33 : decode b_R_signal 33 = .ok (.dup, 1) := by decide +kernel
theorem d_R_signal_34 : decode b_R_signal 34 = .ok (.ldc 58, 2) := by decide +kernel
theorem d_R_signal_36 : decode b_R_signal 36 = .ok (.invokespecial 42, 3) := by decide +kernel
theorem d_R_signal_39 : decode b_R_signal 39 = .ok (.athrow, 1) := by decide +kernel
theorem d_R_signal_40 : decode b_R_signal 40 = .ok (.iload 4, 2) := by decide +kernel
theorem d_R_signal_42 : decode b_R_signal 42 = .ok (.ifCond .lt 9, 3) := by decide +kernel
theorem d_R_signal_45 : decode b_R_signal 45 = .ok (.iload 4, 2) := by decide +kernel
theorem d_R_signal_47 : decode b_R_signal 47 = .ok (.iconst 2, 1) := by decide +kernel
theorem d_R_signal_48 : decode b_R_signal 48 = .ok (.if_icmp .lt 13, 3) := by decide +kernel
theorem d_R_signal_51 : decode b_R_signal 51 = .ok (.new 38, 3) := by decide +kernel
theorem d_R_signal_54 : decode b_R_signal 54 = .ok (.dup, 1) := by decide +kernel
theorem d_R_signal_55 : decode b_R_signal 55 = .ok (.ldc 60, 2) := by decide +kernel
theorem d_R_signal_57 : decode b_R_signal 57 = .ok (.invokespecial 42, 3) := by decide +kernel
theorem d_R_signal_60 : decode b_R_signal 60 = .ok (.athrow, 1) := by decide +kernel
theorem d_R_signal_61 : decode b_R_signal 61 = .ok (.iload_n 3, 1) := by decide +kernel
theorem d_R_signal_62 : decode b_R_signal 62 = .ok (.iconst (-1), 1) := by decide +kernel
theorem d_R_signal_63 : decode b_R_signal 63 = .ok (.if_icmp .ne 7, 3) := by decide +kernel
theorem d_R_signal_66 : decode b_R_signal 66 = .ok (.iconst 0, 1) := by decide +kernel
theorem d_R_signal_67 : decode b_R_signal 67 = .ok (.goto 11, 3) := by decide +kernel
theorem d_R_signal_70 : decode b_R_signal 70 = .ok (.iconst 1, 1) := by decide +kernel
theorem d_R_signal_71 : decode b_R_signal 71 = .ok (.iload_n 3, 1) := by decide +kernel
theorem d_R_signal_72 : decode b_R_signal 72 = .ok (.iadd, 1) := by decide +kernel
theorem d_R_signal_73 : decode b_R_signal 73 = .ok (.iconst 2, 1) := by decide +kernel
theorem d_R_signal_74 : decode b_R_signal 74 = .ok (.iload 4, 2) := by decide +kernel
theorem d_R_signal_76 : decode b_R_signal 76 = .ok (.imul, 1) := by decide +kernel
theorem d_R_signal_77 : decode b_R_signal 77 = .ok (.iadd, 1) := by decide +kernel
theorem d_R_signal_78 : decode b_R_signal 78 = .ok (.istore 6, 2) := by decide +kernel
theorem d_R_signal_80 : decode b_R_signal 80 = .ok (.aload_n 0, 1) := by decide +kernel
theorem d_R_signal_81 : decode b_R_signal 81 = .ok (.getfield 18, 3) := by decide +kernel
theorem d_R_signal_84 : decode b_R_signal 84 = .ok (.iload 5, 2) := by decide +kernel
theorem d_R_signal_86 : decode b_R_signal 86 = .ok (.iload 6, 2) := by decide +kernel
theorem d_R_signal_88 : decode b_R_signal 88 = .ok (.aload_n 0, 1) := by decide +kernel
theorem d_R_signal_89 : decode b_R_signal 89 = .ok (.getfield 18, 3) := by decide +kernel
theorem d_R_signal_92 : decode b_R_signal 92 = .ok (.iload 5, 2) := by decide +kernel
theorem d_R_signal_94 : decode b_R_signal 94 = .ok (.invokevirtual 62, 3) := by decide +kernel
theorem d_R_signal_97 : decode b_R_signal 97 = .ok (.invokevirtual 45, 3) := by decide +kernel
theorem d_R_signal_100 : decode b_R_signal 100 = .ok (.aload_n 0, 1) := by decide +kernel
theorem d_R_signal_101 : decode b_R_signal 101 = .ok (.getfield 27, 3) := by decide +kernel
theorem d_R_signal_104 : decode b_R_signal 104 = .ok (.invokevirtual 49, 3) := by decide +kernel
theorem d_R_signal_107 : decode b_R_signal 107 = .ok (.return_, 1) := by decide +kernel
theorem d_R_platform_0 : decode b_R_platform 0 = .ok (.aload_n 0, 1) := by decide +kernel
theorem d_R_platform_1 : decode b_R_platform 1 = .ok (.iload_n 1, 1) := by decide +kernel
theorem d_R_platform_2 : decode b_R_platform 2 = .ok (.iload_n 2, 1) := by decide +kernel
theorem d_R_platform_3 : decode b_R_platform 3 = .ok (.invokevirtual 31, 3) := by decide +kernel
theorem d_R_platform_6 : decode b_R_platform 6 = .ok (.iload_n 3, 1) := by decide +kernel
theorem d_R_platform_7 : decode b_R_platform 7 = .ok (.iconst (-1), 1) := by decide +kernel
theorem d_R_platform_8 : decode b_R_platform 8 = .ok (.if_icmp .eq 20, 3) := by decide +kernel
theorem d_R_platform_11 : decode b_R_platform 11 = .ok (.iload_n 3, 1) := by decide +kernel
theorem d_R_platform_12 : decode b_R_platform 12 = .ok (.invokestatic 65, 3) := by decide +kernel
theorem d_R_platform_15 : decode b_R_platform 15 = .ok (.ifCond .ne 13, 3) := by decide +kernel
theorem d_R_platform_18 : decode b_R_platform 18 = .ok (.new 68, 3) := by decide +kernel
theorem d_R_platform_21 : decode b_R_platform 21 = .ok (.dup, 1) := by decide +kernel
theorem d_R_platform_22 : decode b_R_platform 22 = .ok (.ldc 70, 2) := by decide +kernel
theorem d_R_platform_24 : decode b_R_platform 24 = .ok (.invokespecial 72, 3) := by decide +kernel
theorem d_R_platform_27 : decode b_R_platform 27 = .ok (.athrow, 1) := by decide +kernel
theorem d_R_platform_28 : decode b_R_platform 28 = .ok (.bipush 6, 2) := by decide +kernel
theorem d_R_platform_30 : decode b_R_platform 30 = .ok (.iload_n 1, 1) := by decide +kernel
theorem d_R_platform_31 : decode b_R_platform 31 = .ok (.imul, 1) := by decide +kernel
theorem d_R_platform_32 : decode b_R_platform 32 = .ok (.iload_n 2, 1) := by decide +kernel
theorem d_R_platform_33 : decode b_R_platform 33 = .ok (.iadd, 1) := by decide +kernel
theorem d_R_platform_34 : decode b_R_platform 34 = .ok (.istore 4, 2) := by decide +kernel
theorem d_R_platform_36 : decode b_R_platform 36 = .ok (.aload_n 0, 1) := by decide +kernel
theorem d_R_platform_37 : decode b_R_platform 37 = .ok (.iload 4, 2) := by decide +kernel
theorem d_R_platform_39 : decode b_R_platform 39 = .ok (.invokevirtual 52, 3) := by decide +kernel
theorem d_R_platform_42 : decode b_R_platform 42 = .ok (.iload_n 2, 1) := by decide +kernel
theorem d_R_platform_43 : decode b_R_platform 43 = .ok (.iconst 2, 1) := by decide +kernel
theorem d_R_platform_44 : decode b_R_platform 44 = .ok (.if_icmp .lt 13, 3) := by decide +kernel
theorem d_R_platform_47 : decode b_R_platform 47 = .ok (.new 38, 3) := by decide +kernel
theorem d_R_platform_50 : decode b_R_platform 50 = .ok (.dup, 1) := by decide +kernel
theorem d_R_platform_51 : decode b_R_platform 51 = .ok (.ldc 73, 2) := by decide +kernel
theorem d_R_platform_53 : decode b_R_platform 53 = .ok (.invokespecial 42, 3) := by decide +kernel
theorem d_R_platform_56 : decode b_R_platform 56 = .ok (.athrow, 1) := by decide +kernel
theorem d_R_platform_57 : decode b_R_platform 57 = .ok (.aload_n 0, 1) := by decide +kernel
theorem d_R_platform_58 : decode b_R_platform 58 = .ok (.getfield 18, 3) := by decide +kernel
theorem d_R_platform_61 : decode b_R_platform 61 = .ok (.iload 4, 2) := by decide +kernel
theorem d_R_platform_63 : decode b_R_platform 63 = .ok (.aload_n 0, 1) := by decide +kernel
theorem d_R_platform_64 : decode b_R_platform 64 = .ok (.getfield 18, 3) := by decide +kernel
theorem d_R_platform_67 : decode b_R_platform 67 = .ok (.iload 4, 2) := by decide +kernel
theorem d_R_platform_69 : decode b_R_platform 69 = .ok (.invokevirtual 75, 3) := by decide +kernel
theorem d_R_platform_72 : decode b_R_platform 72 = .ok (.iload_n 3, 1) := by decide +kernel
theorem d_R_platform_73 : decode b_R_platform 73 = .ok (.invokevirtual 45, 3) := by decide +kernel
theorem d_R_platform_76 : decode b_R_platform 76 = .ok (.aload_n 0, 1) := by decide +kernel
theorem d_R_platform_77 : decode b_R_platform 77 = .ok (.getfield 27, 3) := by decide +kernel
theorem d_R_platform_80 : decode b_R_platform 80 = .ok (.invokevirtual 49, 3) := by decide +kernel
theorem d_R_platform_83 : decode b_R_platform 83 = .ok (.return_, 1) := by decide +kernel
end
section
/-! DECODE rows, by program -/
theorem d_M_init_0 : decode b_M_init 0 = .ok (.aload_n 0, 1) := by decide +kernel
theorem d_M_init_1 : decode b_M_init 1 = .ok (.invokespecial 1, 3) := by decide +kernel
theorem d_M_init_4 : decode b_M_init 4 = .ok (.aload_n 0, 1) := by decide +kernel
theorem d_M_init_5 : decode b_M_init 5 = .ok (.bipush 12, 2) := by decide +kernel
theorem d_M_init_7 : decode b_M_init 7 = .ok (.newarray .int, 2) := by decide +kernel
theorem d_M_init_9 : decode b_M_init 9 = .ok (.dup, 1) := by decide +kernel
theorem d_M_init_10 : decode b_M_init 10 = .ok (.iconst 0, 1) := by decide +kernel
theorem d_M_init_11 : decode b_M_init 11 = .ok (.iconst 0, 1) := by decide +kernel
theorem d_M_init_12 : decode b_M_init 12 = .ok (.iastore, 1) := by decide +kernel
theorem d_M_init_13 : decode b_M_init 13 = .ok (.dup, 1) := by decide +kernel
theorem d_M_init_14 : decode b_M_init 14 = .ok (.iconst 1, 1) := by decide +kernel
theorem d_M_init_15 : decode b_M_init 15 = .ok (.iconst 1, 1) := by decide +kernel
theorem d_M_init_16 : decode b_M_init 16 = .ok (.iastore, 1) := by decide +kernel
theorem d_M_init_17 : decode b_M_init 17 = .ok (.dup, 1) := by decide +kernel
theorem d_M_init_18 : decode b_M_init 18 = .ok (.iconst 2, 1) := by decide +kernel
theorem d_M_init_19 : decode b_M_init 19 = .ok (.iconst 2, 1) := by decide +kernel
theorem d_M_init_20 : decode b_M_init 20 = .ok (.iastore, 1) := by decide +kernel
theorem d_M_init_21 : decode b_M_init 21 = .ok (.dup, 1) := by decide +kernel
theorem d_M_init_22 : decode b_M_init 22 = .ok (.iconst 3, 1) := by decide +kernel
theorem d_M_init_23 : decode b_M_init 23 = .ok (.iconst 3, 1) := by decide +kernel
theorem d_M_init_24 : decode b_M_init 24 = .ok (.iastore, 1) := by decide +kernel
theorem d_M_init_25 : decode b_M_init 25 = .ok (.dup, 1) := by decide +kernel
theorem d_M_init_26 : decode b_M_init 26 = .ok (.iconst 4, 1) := by decide +kernel
theorem d_M_init_27 : decode b_M_init 27 = .ok (.iconst 2, 1) := by decide +kernel
theorem d_M_init_28 : decode b_M_init 28 = .ok (.iastore, 1) := by decide +kernel
theorem d_M_init_29 : decode b_M_init 29 = .ok (.dup, 1) := by decide +kernel
theorem d_M_init_30 : decode b_M_init 30 = .ok (.iconst 5, 1) := by decide +kernel
theorem d_M_init_31 : decode b_M_init 31 = .ok (.iconst 1, 1) := by decide +kernel
theorem d_M_init_32 : decode b_M_init 32 = .ok (.iastore, 1) := by decide +kernel
theorem d_M_init_33 : decode b_M_init 33 = .ok (.dup, 1) := by decide +kernel
theorem d_M_init_34 : decode b_M_init 34 = .ok (.bipush 6, 2) := by decide +kernel
theorem d_M_init_36 : decode b_M_init 36 = .ok (.iconst 3, 1) := by decide +kernel
theorem d_M_init_37 : decode b_M_init 37 = .ok (.iastore, 1) := by decide +kernel
theorem d_M_init_38 : decode b_M_init 38 = .ok (.dup, 1) := by decide +kernel
theorem d_M_init_39 : decode b_M_init 39 = .ok (.bipush 7, 2) := by decide +kernel
theorem d_M_init_41 : decode b_M_init 41 = .ok (.iconst 1, 1) := by decide +kernel
theorem d_M_init_42 : decode b_M_init 42 = .ok (.iastore, 1) := by decide +kernel
theorem d_M_init_43 : decode b_M_init 43 = .ok (.dup, 1) := by decide +kernel
theorem d_M_init_44 : decode b_M_init 44 = .ok (.bipush 8, 2) := by decide +kernel
theorem d_M_init_46 : decode b_M_init 46 = .ok (.iconst 3, 1) := by decide +kernel
theorem d_M_init_47 : decode b_M_init 47 = .ok (.iastore, 1) := by decide +kernel
theorem d_M_init_48 : decode b_M_init 48 = .ok (.dup, 1) := by decide +kernel
theorem d_M_init_49 : decode b_M_init 49 = .ok (.bipush 9, 2) := by decide +kernel
theorem d_M_init_51 : decode b_M_init 51 = .ok (.iconst 0, 1) := by decide +kernel
theorem d_M_init_52 : decode b_M_init 52 = .ok (.iastore, 1) := by decide +kernel
theorem d_M_init_53 : decode b_M_init 53 = .ok (.dup, 1) := by decide +kernel
theorem d_M_init_54 : decode b_M_init 54 = .ok (.bipush 10, 2) := by decide +kernel
theorem d_M_init_56 : decode b_M_init 56 = .ok (.iconst 2, 1) := by decide +kernel
theorem d_M_init_57 : decode b_M_init 57 = .ok (.iastore, 1) := by decide +kernel
theorem d_M_init_58 : decode b_M_init 58 = .ok (.dup, 1) := by decide +kernel
theorem d_M_init_59 : decode b_M_init 59 = .ok (.bipush 11, 2) := by decide +kernel
theorem d_M_init_61 : decode b_M_init 61 = .ok (.iconst 0, 1) := by decide +kernel
theorem d_M_init_62 : decode b_M_init 62 = .ok (.iastore, 1) := by decide +kernel
theorem d_M_init_63 : decode b_M_init 63 = .ok (.putfield 7, 3) := by decide +kernel
theorem d_M_init_66 : decode b_M_init 66 = .ok (.aload_n 0, 1) := by decide +kernel
theorem d_M_init_67 : decode b_M_init 67 = .ok (.sipush 2400, 3) := by decide +kernel
theorem d_M_init_70 : decode b_M_init 70 = .ok (.newarray .boolean, 2) := by decide +kernel
theorem d_M_init_72 : decode b_M_init 72 = .ok (.putfield 13, 3) := by decide +kernel
theorem d_M_init_75 : decode b_M_init 75 = .ok (.aload_n 0, 1) := by decide +kernel
theorem d_M_init_76 : decode b_M_init 76 = .ok (.sipush 2400, 3) := by decide +kernel
theorem d_M_init_79 : decode b_M_init 79 = .ok (.newarray .int, 2) := by decide +kernel
theorem d_M_init_81 : decode b_M_init 81 = .ok (.putfield 17, 3) := by decide +kernel
theorem d_M_init_84 : decode b_M_init 84 = .ok (.aload_n 0, 1) := by decide +kernel
theorem d_M_init_85 : decode b_M_init 85 = .ok (.sipush 2400, 3) := by decide +kernel
theorem d_M_init_88 : decode b_M_init 88 = .ok (.newarray .int, 2) := by decide +kernel
theorem d_M_init_90 : decode b_M_init 90 = .ok (.putfield 20, 3) := by decide +kernel
theorem d_M_init_93 : decode b_M_init 93 = .ok (.aload_n 0, 1) := by decide +kernel
theorem d_M_init_94 : decode b_M_init 94 = .ok (.sipush 2400, 3) := by decide +kernel
theorem d_M_init_97 : decode b_M_init 97 = .ok (.newarray .int, 2) := by decide +kernel
theorem d_M_init_99 : decode b_M_init 99 = .ok (.putfield 23, 3) := by decide +kernel
theorem d_M_init_102 : decode b_M_init 102 = .ok (.aload_n 0, 1) := by decide +kernel
theorem d_M_init_103 : decode b_M_init 103 = .ok (.sipush 4800, 3) := by decide +kernel
theorem d_M_init_106 : decode b_M_init 106 = .ok (.newarray .int, 2) := by decide +kernel
theorem d_M_init_108 : decode b_M_init 108 = .ok (.putfield 26, 3) := by decide +kernel
theorem d_M_init_111 : decode b_M_init 111 = .ok (.aload_n 0, 1) := by decide +kernel
theorem d_M_init_112 : decode b_M_init 112 = .ok (.sipush 2400, 3) := by decide +kernel
theorem d_M_init_115 : decode b_M_init 115 = .ok (.newarray .boolean, 2) := by decide +kernel
theorem d_M_init_117 : decode b_M_init 117 = .ok (.putfield 29, 3) := by decide +kernel
theorem d_M_init_120 : decode b_M_init 120 = .ok (.aload_n 0, 1) := by decide +kernel
theorem d_M_init_121 : decode b_M_init 121 = .ok (.sipush 2400, 3) := by decide +kernel
theorem d_M_init_124 : decode b_M_init 124 = .ok (.newarray .int, 2) := by decide +kernel
theorem d_M_init_126 : decode b_M_init 126 = .ok (.putfield 32, 3) := by decide +kernel
theorem d_M_init_129 : decode b_M_init 129 = .ok (.aload_n 0, 1) := by decide +kernel
theorem d_M_init_130 : decode b_M_init 130 = .ok (.iload_n 1, 1) := by decide +kernel
theorem d_M_init_131 : decode b_M_init 131 = .ok (.iconst 4, 1) := by decide +kernel
theorem d_M_init_132 : decode b_M_init 132 = .ok (.if_icmp .ge 7, 3) := by decide +kernel
theorem d_M_init_135 : decode b_M_init 135 = .ok (.iconst 4, 1) := by decide +kernel
theorem d_M_init_136 : decode b_M_init 136 = .ok (.goto 15, 3) := by decide +kernel
theorem d_M_init_139 : decode b_M_init 139 = .ok (.iload_n 1, 1) := by decide +kernel
theorem d_M_init_140 : decode b_M_init 140 = .ok (.bipush 20, 2) := by decide +kernel
theorem d_M_init_142 : decode b_M_init 142 = .ok (.if_icmp .le 8, 3) := by decide +kernel
theorem d_M_init_145 : decode b_M_init 145 = .ok (.bipush 20, 2) := by decide +kernel
theorem d_M_init_147 : decode b_M_init 147 = .ok (.goto 4, 3) := by decide +kernel
theorem d_M_init_150 : decode b_M_init 150 = .ok (.iload_n 1, 1) := by decide +kernel
theorem d_M_init_151 : decode b_M_init 151 = .ok (.putfield 35, 3) := by decide +kernel
theorem d_M_init_154 : decode b_M_init 154 = .ok (.aload_n 0, 1) := by decide +kernel
theorem d_M_init_155 : decode b_M_init 155 = .ok (.iload_n 2, 1) := by decide +kernel
theorem d_M_init_156 : decode b_M_init 156 = .ok (.iconst 4, 1) := by decide +kernel
theorem d_M_init_157 : decode b_M_init 157 = .ok (.if_icmp .ge 7, 3) := by decide +kernel
theorem d_M_init_160 : decode b_M_init 160 = .ok (.iconst 4, 1) := by decide +kernel
theorem d_M_init_161 : decode b_M_init 161 = .ok (.goto 15, 3) := by decide +kernel
theorem d_M_init_164 : decode b_M_init 164 = .ok (.iload_n 2, 1) := by decide +kernel
theorem d_M_init_165 : decode b_M_init 165 = .ok (.bipush 20, 2) := by decide +kernel
theorem d_M_init_167 : decode b_M_init 167 = .ok (.if_icmp .le 8, 3) := by decide +kernel
theorem d_M_init_170 : decode b_M_init 170 = .ok (.bipush 20, 2) := by decide +kernel
theorem d_M_init_172 : decode b_M_init 172 = .ok (.goto 4, 3) := by decide +kernel
theorem d_M_init_175 : decode b_M_init 175 = .ok (.iload_n 2, 1) := by decide +kernel
theorem d_M_init_176 : decode b_M_init 176 = .ok (.putfield 39, 3) := by decide +kernel
theorem d_M_init_179 : decode b_M_init 179 = .ok (.return_, 1) := by decide +kernel
theorem d_M_thrown_0 : decode b_M_thrown 0 = .ok (.aload_n 0, 1) := by decide +kernel
theorem d_M_thrown_1 : decode b_M_thrown 1 = .ok (.getfield 42, 3) := by decide +kernel
theorem d_M_thrown_4 : decode b_M_thrown 4 = .ok (.ireturn, 1) := by decide +kernel
theorem d_M_lay_0 : decode b_M_lay 0 = .ok (.aload_n 0, 1) := by decide +kernel
theorem d_M_lay_1 : decode b_M_lay 1 = .ok (.aload_n 0, 1) := by decide +kernel
theorem d_M_lay_2 : decode b_M_lay 2 = .ok (.iload_n 1, 1) := by decide +kernel
theorem d_M_lay_3 : decode b_M_lay 3 = .ok (.invokevirtual 45, 3) := by decide +kernel
theorem d_M_lay_6 : decode b_M_lay 6 = .ok (.ifCond .eq 10, 3) := by decide +kernel
theorem d_M_lay_9 : decode b_M_lay 9 = .ok (.iload_n 2, 1) := by decide +kernel
theorem d_M_lay_10 : decode b_M_lay 10 = .ok (.invokestatic 49, 3) := by decide +kernel
theorem d_M_lay_13 : decode b_M_lay 13 = .ok (.ifCond .ne 7, 3) := by decide +kernel
theorem d_M_lay_16 : decode b_M_lay 16 = .ok (.iconst 1, 1) := by decide +kernel
theorem d_M_lay_17 : decode b_M_lay 17 = .ok (.goto 22, 3) := by decide +kernel
theorem d_M_lay_20 : decode b_M_lay 20 = .ok (.aload_n 0, 1) := by decide +kernel
theorem d_M_lay_21 : decode b_M_lay 21 = .ok (.getfield 13, 3) := by decide +kernel
theorem d_M_lay_24 : decode b_M_lay 24 = .ok (.bipush 6, 2) := by decide +kernel
theorem d_M_lay_26 : decode b_M_lay 26 = .ok (.iload_n 1, 1) := by decide +kernel
theorem d_M_lay_27 : decode b_M_lay 27 = .ok (.imul, 1) := by decide +kernel
theorem d_M_lay_28 : decode b_M_lay 28 = .ok (.iload_n 2, 1) := by decide +kernel
theorem d_M_lay_29 : decode b_M_lay 29 = .ok (.iadd, 1) := by decide +kernel
theorem d_M_lay_30 : decode b_M_lay 30 = .ok (.baload, 1) := by decide +kernel
theorem d_M_lay_31 : decode b_M_lay 31 = .ok (.ifCond .eq 7, 3) := by decide +kernel
theorem d_M_lay_34 : decode b_M_lay 34 = .ok (.iconst 2, 1) := by decide +kernel
theorem d_M_lay_35 : decode b_M_lay 35 = .ok (.goto 4, 3) := by decide +kernel
theorem d_M_lay_38 : decode b_M_lay 38 = .ok (.iconst 0, 1) := by decide +kernel
theorem d_M_lay_39 : decode b_M_lay 39 = .ok (.putfield 42, 3) := by decide +kernel
theorem d_M_lay_42 : decode b_M_lay 42 = .ok (.aload_n 0, 1) := by decide +kernel
theorem d_M_lay_43 : decode b_M_lay 43 = .ok (.getfield 42, 3) := by decide +kernel
theorem d_M_lay_46 : decode b_M_lay 46 = .ok (.ifCond .le 4, 3) := by decide +kernel
theorem d_M_lay_49 : decode b_M_lay 49 = .ok (.return_, 1) := by decide +kernel
theorem d_M_lay_50 : decode b_M_lay 50 = .ok (.aload_n 0, 1) := by decide +kernel
theorem d_M_lay_51 : decode b_M_lay 51 = .ok (.getfield 13, 3) := by decide +kernel
theorem d_M_lay_54 : decode b_M_lay 54 = .ok (.bipush 6, 2) := by decide +kernel
theorem d_M_lay_56 : decode b_M_lay 56 = .ok (.iload_n 1, 1) := by decide +kernel
theorem d_M_lay_57 : decode b_M_lay 57 = .ok (.imul, 1) := by decide +kernel
theorem d_M_lay_58 : decode b_M_lay 58 = .ok (.iload_n 2, 1) := by decide +kernel
theorem d_M_lay_59 : decode b_M_lay 59 = .ok (.iadd, 1) := by decide +kernel
theorem d_M_lay_60 : decode b_M_lay 60 = .ok (.iconst 1, 1) := by decide +kernel
theorem d_M_lay_61 : decode b_M_lay 61 = .ok (.bastore, 1) := by decide +kernel
theorem d_M_lay_62 : decode b_M_lay 62 = .ok (.aload_n 0, 1) := by decide +kernel
theorem d_M_lay_63 : decode b_M_lay 63 = .ok (.getfield 23, 3) := by decide +kernel
theorem d_M_lay_66 : decode b_M_lay 66 = .ok (.aload_n 0, 1) := by decide +kernel
theorem d_M_lay_67 : decode b_M_lay 67 = .ok (.getfield 52, 3) := by decide +kernel
theorem d_M_lay_70 : decode b_M_lay 70 = .ok (.bipush 6, 2) := by decide +kernel
theorem d_M_lay_72 : decode b_M_lay 72 = .ok (.iload_n 1, 1) := by decide +kernel
theorem d_M_lay_73 : decode b_M_lay 73 = .ok (.imul, 1) := by decide +kernel
theorem d_M_lay_74 : decode b_M_lay 74 = .ok (.iload_n 2, 1) := by decide +kernel
theorem d_M_lay_75 : decode b_M_lay 75 = .ok (.iadd, 1) := by decide +kernel
theorem d_M_lay_76 : decode b_M_lay 76 = .ok (.iastore, 1) := by decide +kernel
theorem d_M_lay_77 : decode b_M_lay 77 = .ok (.aload_n 0, 1) := by decide +kernel
theorem d_M_lay_78 : decode b_M_lay 78 = .ok (.dup, 1) := by decide +kernel
theorem d_M_lay_79 : decode b_M_lay 79 = .ok (.getfield 52, 3) := by decide +kernel
theorem d_M_lay_82 : decode b_M_lay 82 = .ok (.iconst 1, 1) := by decide +kernel
theorem d_M_lay_83 : decode b_M_lay 83 = .ok (.iadd, 1) := by decide +kernel
theorem d_M_lay_84 : decode b_M_lay 84 = .ok (.putfield 52, 3) := by decide +kernel
theorem d_M_lay_87 : decode b_M_lay 87 = .ok (.return_, 1) := by decide +kernel
theorem d_M_isTile_0 : decode b_M_isTile 0 = .ok (.iload_n 1, 1) := by decide +kernel
theorem d_M_isTile_1 : decode b_M_isTile 1 = .ok (.ifCond .lt 20, 3) := by decide +kernel
theorem d_M_isTile_4 : decode b_M_isTile 4 = .ok (.iload_n 1, 1) := by decide +kernel
theorem d_M_isTile_5 : decode b_M_isTile 5 = .ok (.aload_n 0, 1) := by decide +kernel
theorem d_M_isTile_6 : decode b_M_isTile 6 = .ok (.getfield 35, 3) := by decide +kernel
theorem d_M_isTile_9 : decode b_M_isTile 9 = .ok (.aload_n 0, 1) := by decide +kernel
theorem d_M_isTile_10 : decode b_M_isTile 10 = .ok (.getfield 39, 3) := by decide +kernel
theorem d_M_isTile_13 : decode b_M_isTile 13 = .ok (.imul, 1) := by decide +kernel
theorem d_M_isTile_14 : decode b_M_isTile 14 = .ok (.if_icmp .ge 7, 3) := by decide +kernel
theorem d_M_isTile_17 : decode b_M_isTile 17 = .ok (.iconst 1, 1) := by decide +kernel
theorem d_M_isTile_18 : decode b_M_isTile 18 = .ok (.goto 4, 3) := by decide +kernel
theorem d_M_isTile_21 : decode b_M_isTile 21 = .ok (.iconst 0, 1) := by decide +kernel
theorem d_M_isTile_22 : decode b_M_isTile 22 = .ok (.ireturn, 1) := by decide +kernel
theorem d_M_isKind_0 : decode b_M_isKind 0 = .ok (.iload_n 0, 1) := by decide +kernel
theorem d_M_isKind_1 : decode b_M_isKind 1 = .ok (.ifCond .lt 13, 3) := by decide +kernel
theorem d_M_isKind_4 : decode b_M_isKind 4 = .ok (.iload_n 0, 1) := by decide +kernel
theorem d_M_isKind_5 : decode b_M_isKind 5 = .ok (.bipush 6, 2) := by decide +kernel
theorem d_M_isKind_7 : decode b_M_isKind 7 = .ok (.if_icmp .ge 7, 3) := by decide +kernel
theorem d_M_isKind_10 : decode b_M_isKind 10 = .ok (.iconst 1, 1) := by decide +kernel
theorem d_M_isKind_11 : decode b_M_isKind 11 = .ok (.goto 4, 3) := by decide +kernel
theorem d_M_isKind_14 : decode b_M_isKind 14 = .ok (.iconst 0, 1) := by decide +kernel
theorem d_M_isKind_15 : decode b_M_isKind 15 = .ok (.ireturn, 1) := by decide +kernel
theorem d_M_lift_0 : decode b_M_lift 0 = .ok (.aload_n 0, 1) := by decide +kernel
theorem d_M_lift_1 : decode b_M_lift 1 = .ok (.aload_n 0, 1) := by decide +kernel
theorem d_M_lift_2 : decode b_M_lift 2 = .ok (.iload_n 1, 1) := by decide +kernel
theorem d_M_lift_3 : decode b_M_lift 3 = .ok (.invokevirtual 45, 3) := by decide +kernel
theorem d_M_lift_6 : decode b_M_lift 6 = .ok (.ifCond .eq 10, 3) := by decide +kernel
theorem d_M_lift_9 : decode b_M_lift 9 = .ok (.iload_n 2, 1) := by decide +kernel
theorem d_M_lift_10 : decode b_M_lift 10 = .ok (.invokestatic 49, 3) := by decide +kernel
theorem d_M_lift_13 : decode b_M_lift 13 = .ok (.ifCond .ne 7, 3) := by decide +kernel
theorem d_M_lift_16 : decode b_M_lift 16 = .ok (.iconst 1, 1) := by decide +kernel
theorem d_M_lift_17 : decode b_M_lift 17 = .ok (.goto 22, 3) := by decide +kernel
theorem d_M_lift_20 : decode b_M_lift 20 = .ok (.aload_n 0, 1) := by decide +kernel
theorem d_M_lift_21 : decode b_M_lift 21 = .ok (.getfield 13, 3) := by decide +kernel
theorem d_M_lift_24 : decode b_M_lift 24 = .ok (.bipush 6, 2) := by decide +kernel
theorem d_M_lift_26 : decode b_M_lift 26 = .ok (.iload_n 1, 1) := by decide +kernel
theorem d_M_lift_27 : decode b_M_lift 27 = .ok (.imul, 1) := by decide +kernel
theorem d_M_lift_28 : decode b_M_lift 28 = .ok (.iload_n 2, 1) := by decide +kernel
theorem d_M_lift_29 : decode b_M_lift 29 = .ok (.iadd, 1) := by decide +kernel
theorem d_M_lift_30 : decode b_M_lift 30 = .ok (.baload, 1) := by decide +kernel
theorem d_M_lift_31 : decode b_M_lift 31 = .ok (.ifCond .ne 7, 3) := by decide +kernel
theorem d_M_lift_34 : decode b_M_lift 34 = .ok (.iconst 2, 1) := by decide +kernel
theorem d_M_lift_35 : decode b_M_lift 35 = .ok (.goto 4, 3) := by decide +kernel
theorem d_M_lift_38 : decode b_M_lift 38 = .ok (.iconst 0, 1) := by decide +kernel
theorem d_M_lift_39 : decode b_M_lift 39 = .ok (.putfield 42, 3) := by decide +kernel
theorem d_M_lift_42 : decode b_M_lift 42 = .ok (.aload_n 0, 1) := by decide +kernel
theorem d_M_lift_43 : decode b_M_lift 43 = .ok (.getfield 42, 3) := by decide +kernel
theorem d_M_lift_46 : decode b_M_lift 46 = .ok (.ifCond .le 4, 3) := by decide +kernel
theorem d_M_lift_49 : decode b_M_lift 49 = .ok (.return_, 1) := by decide +kernel
theorem d_M_lift_50 : decode b_M_lift 50 = .ok (.bipush 6, 2) := by decide +kernel
theorem d_M_lift_52 : decode b_M_lift 52 = .ok (.iload_n 1, 1) := by decide +kernel
theorem d_M_lift_53 : decode b_M_lift 53 = .ok (.imul, 1) := by decide +kernel
theorem d_M_lift_54 : decode b_M_lift 54 = .ok (.iload_n 2, 1) := by decide +kernel
theorem d_M_lift_55 : decode b_M_lift 55 = .ok (.iadd, 1) := by decide +kernel
theorem d_M_lift_56 : decode b_M_lift 56 = .ok (.istore_n 3, 1) := by decide +kernel
theorem d_M_lift_57 : decode b_M_lift 57 = .ok (.aload_n 0, 1) := by decide +kernel
theorem d_M_lift_58 : decode b_M_lift 58 = .ok (.getfield 13, 3) := by decide +kernel
theorem d_M_lift_61 : decode b_M_lift 61 = .ok (.iload_n 3, 1) := by decide +kernel
theorem d_M_lift_62 : decode b_M_lift 62 = .ok (.iconst 0, 1) := by decide +kernel
theorem d_M_lift_63 : decode b_M_lift 63 = .ok (.bastore, 1) := by decide +kernel
theorem d_M_lift_64 : decode b_M_lift 64 = .ok (.aload_n 0, 1) := by decide +kernel
theorem d_M_lift_65 : decode b_M_lift 65 = .ok (.getfield 17, 3) := by decide +kernel
theorem d_M_lift_68 : decode b_M_lift 68 = .ok (.iload_n 3, 1) := by decide +kernel
theorem d_M_lift_69 : decode b_M_lift 69 = .ok (.iconst 0, 1) := by decide +kernel
theorem d_M_lift_70 : decode b_M_lift 70 = .ok (.iastore, 1) := by decide +kernel
theorem d_M_lift_71 : decode b_M_lift 71 = .ok (.aload_n 0, 1) := by decide +kernel
theorem d_M_lift_72 : decode b_M_lift 72 = .ok (.getfield 20, 3) := by decide +kernel
theorem d_M_lift_75 : decode b_M_lift 75 = .ok (.iload_n 3, 1) := by decide +kernel
theorem d_M_lift_76 : decode b_M_lift 76 = .ok (.iconst 0, 1) := by decide +kernel
theorem d_M_lift_77 : decode b_M_lift 77 = .ok (.iastore, 1) := by decide +kernel
theorem d_M_lift_78 : decode b_M_lift 78 = .ok (.iconst 0, 1) := by decide +kernel
theorem d_M_lift_79 : decode b_M_lift 79 = .ok (.istore 4, 2) := by decide +kernel
theorem d_M_lift_81 : decode b_M_lift 81 = .ok (.aload_n 0, 1) := by decide +kernel
theorem d_M_lift_82 : decode b_M_lift 82 = .ok (.getfield 23, 3) := by decide +kernel
theorem d_M_lift_85 : decode b_M_lift 85 = .ok (.iload 4, 2) := by decide +kernel
theorem d_M_lift_87 : decode b_M_lift 87 = .ok (.iaload, 1) := by decide +kernel
theorem d_M_lift_88 : decode b_M_lift 88 = .ok (.iload_n 3, 1) := by decide +kernel
theorem d_M_lift_89 : decode b_M_lift 89 = .ok (.if_icmp .eq 9, 3) := by decide +kernel
theorem d_M_lift_92 : decode b_M_lift 92 = .ok (.iinc 4 1, 3) := by decide +kernel
theorem d_M_lift_95 : decode b_M_lift 95 = .ok (.goto (-14), 3) := by decide +kernel
theorem d_M_lift_98 : decode b_M_lift 98 = .ok (.aload_n 0, 1) := by decide +kernel
theorem d_M_lift_99 : decode b_M_lift 99 = .ok (.dup, 1) := by decide +kernel
theorem d_M_lift_100 : decode b_M_lift 100 = .ok (.getfield 52, 3) := by decide +kernel
theorem d_M_lift_103 : decode b_M_lift 103 = .ok (.iconst 1, 1) := by decide +kernel
theorem d_M_lift_104 : decode b_M_lift 104 = .ok (.isub, 1) := by decide +kernel
theorem d_M_lift_105 : decode b_M_lift 105 = .ok (.putfield 52, 3) := by decide +kernel
theorem d_M_lift_108 : decode b_M_lift 108 = .ok (.aload_n 0, 1) := by decide +kernel
theorem d_M_lift_109 : decode b_M_lift 109 = .ok (.getfield 23, 3) := by decide +kernel
theorem d_M_lift_112 : decode b_M_lift 112 = .ok (.iload 4, 2) := by decide +kernel
theorem d_M_lift_114 : decode b_M_lift 114 = .ok (.aload_n 0, 1) := by decide +kernel
theorem d_M_lift_115 : decode b_M_lift 115 = .ok (.getfield 23, 3) := by decide +kernel
theorem d_M_lift_118 : decode b_M_lift 118 = .ok (.aload_n 0, 1) := by decide +kernel
theorem d_M_lift_119 : decode b_M_lift 119 = .ok (.getfield 52, 3) := by decide +kernel
theorem d_M_lift_122 : decode b_M_lift 122 = .ok (.iaload, 1) := by decide +kernel
theorem d_M_lift_123 : decode b_M_lift 123 = .ok (.iastore, 1) := by decide +kernel
theorem d_M_lift_124 : decode b_M_lift 124 = .ok (.return_, 1) := by decide +kernel
theorem d_M_signal_0 : decode b_M_signal 0 = .ok (.aload_n 0, 1) := by decide +kernel
theorem d_M_signal_1 : decode b_M_signal 1 = .ok (.aload_n 0, 1) := by decide +kernel
theorem d_M_signal_2 : decode b_M_signal 2 = .ok (.iload_n 1, 1) := by decide +kernel
theorem d_M_signal_3 : decode b_M_signal 3 = .ok (.invokevirtual 45, 3) := by decide +kernel
theorem d_M_signal_6 : decode b_M_signal 6 = .ok (.ifCond .eq 10, 3) := by decide +kernel
theorem d_M_signal_9 : decode b_M_signal 9 = .ok (.iload_n 2, 1) := by decide +kernel
theorem d_M_signal_10 : decode b_M_signal 10 = .ok (.invokestatic 49, 3) := by decide +kernel
theorem d_M_signal_13 : decode b_M_signal 13 = .ok (.ifCond .ne 7, 3) := by decide +kernel
theorem d_M_signal_16 : decode b_M_signal 16 = .ok (.iconst 1, 1) := by decide +kernel
theorem d_M_signal_17 : decode b_M_signal 17 = .ok (.goto 43, 3) := by decide +kernel
theorem d_M_signal_20 : decode b_M_signal 20 = .ok (.aload_n 0, 1) := by decide +kernel
theorem d_M_signal_21 : decode b_M_signal 21 = .ok (.getfield 13, 3) := by decide +kernel
theorem d_M_signal_24 : decode b_M_signal 24 = .ok (.bipush 6, 2) := by decide +kernel
theorem d_M_signal_26 : decode b_M_signal 26 = .ok (.iload_n 1, 1) := by decide +kernel
theorem d_M_signal_27 : decode b_M_signal 27 = .ok (.imul, 1) := by decide +kernel
theorem d_M_signal_28 : decode b_M_signal 28 = .ok (.iload_n 2, 1) := by decide +kernel
theorem d_M_signal_29 : decode b_M_signal 29 = .ok (.iadd, 1) := by decide +kernel
theorem d_M_signal_30 : decode b_M_signal 30 = .ok (.baload, 1) := by decide +kernel
theorem d_M_signal_31 : decode b_M_signal 31 = .ok (.ifCond .eq 24, 3) := by decide +kernel
theorem d_M_signal_34 : decode b_M_signal 34 = .ok (.iload_n 3, 1) := by decide +kernel
theorem d_M_signal_35 : decode b_M_signal 35 = .ok (.iconst (-1), 1) := by decide +kernel
theorem d_M_signal_36 : decode b_M_signal 36 = .ok (.if_icmp .lt 19, 3) := by decide +kernel
theorem d_M_signal_39 : decode b_M_signal 39 = .ok (.iload_n 3, 1) := by decide +kernel
theorem d_M_signal_40 : decode b_M_signal 40 = .ok (.iconst 1, 1) := by decide +kernel
theorem d_M_signal_41 : decode b_M_signal 41 = .ok (.if_icmp .gt 14, 3) := by decide +kernel
theorem d_M_signal_44 : decode b_M_signal 44 = .ok (.iload 4, 2) := by decide +kernel
theorem d_M_signal_46 : decode b_M_signal 46 = .ok (.ifCond .lt 9, 3) := by decide +kernel
theorem d_M_signal_49 : decode b_M_signal 49 = .ok (.iload 4, 2) := by decide +kernel
theorem d_M_signal_51 : decode b_M_signal 51 = .ok (.iconst 1, 1) := by decide +kernel
theorem d_M_signal_52 : decode b_M_signal 52 = .ok (.if_icmp .le 7, 3) := by decide +kernel
theorem d_M_signal_55 : decode b_M_signal 55 = .ok (.iconst 2, 1) := by decide +kernel
theorem d_M_signal_56 : decode b_M_signal 56 = .ok (.goto 4, 3) := by decide +kernel
theorem d_M_signal_59 : decode b_M_signal 59 = .ok (.iconst 0, 1) := by decide +kernel
theorem d_M_signal_60 : decode b_M_signal 60 = .ok (.putfield 42, 3) := by decide +kernel
theorem d_M_signal_63 : decode b_M_signal 63 = .ok (.aload_n 0, 1) := by decide +kernel
theorem d_M_signal_64 : decode b_M_signal 64 = .ok (.getfield 42, 3) := by decide +kernel
theorem d_M_signal_67 : decode b_M_signal 67 = .ok (.ifCond .ne 31, 3) := by decide +kernel
theorem d_M_signal_70 : decode b_M_signal 70 = .ok (.aload_n 0, 1) := by decide +kernel
theorem d_M_signal_71 : decode b_M_signal 71 = .ok (.getfield 17, 3) := by decide +kernel
theorem d_M_signal_74 : decode b_M_signal 74 = .ok (.bipush 6, 2) := by decide +kernel
theorem d_M_signal_76 : decode b_M_signal 76 = .ok (.iload_n 1, 1) := by decide +kernel
theorem d_M_signal_77 : decode b_M_signal 77 = .ok (.imul, 1) := by decide +kernel
theorem d_M_signal_78 : decode b_M_signal 78 = .ok (.iload_n 2, 1) := by decide +kernel
theorem d_M_signal_79 : decode b_M_signal 79 = .ok (.iadd, 1) := by decide +kernel
theorem d_M_signal_80 : decode b_M_signal 80 = .ok (.iload_n 3, 1) := by decide +kernel
theorem d_M_signal_81 : decode b_M_signal 81 = .ok (.iconst (-1), 1) := by decide +kernel
theorem d_M_signal_82 : decode b_M_signal 82 = .ok (.if_icmp .ne 7, 3) := by decide +kernel
theorem d_M_signal_85 : decode b_M_signal 85 = .ok (.iconst 0, 1) := by decide +kernel
theorem d_M_signal_86 : decode b_M_signal 86 = .ok (.goto 11, 3) := by decide +kernel
theorem d_M_signal_89 : decode b_M_signal 89 = .ok (.iconst 1, 1) := by decide +kernel
theorem d_M_signal_90 : decode b_M_signal 90 = .ok (.iload_n 3, 1) := by decide +kernel
theorem d_M_signal_91 : decode b_M_signal 91 = .ok (.iadd, 1) := by decide +kernel
theorem d_M_signal_92 : decode b_M_signal 92 = .ok (.iconst 2, 1) := by decide +kernel
theorem d_M_signal_93 : decode b_M_signal 93 = .ok (.iload 4, 2) := by decide +kernel
theorem d_M_signal_95 : decode b_M_signal 95 = .ok (.imul, 1) := by decide +kernel
theorem d_M_signal_96 : decode b_M_signal 96 = .ok (.iadd, 1) := by decide +kernel
theorem d_M_signal_97 : decode b_M_signal 97 = .ok (.iastore, 1) := by decide +kernel
theorem d_M_signal_98 : decode b_M_signal 98 = .ok (.return_, 1) := by decide +kernel
theorem d_M_platform_0 : decode b_M_platform 0 = .ok (.aload_n 0, 1) := by decide +kernel
theorem d_M_platform_1 : decode b_M_platform 1 = .ok (.aload_n 0, 1) := by decide +kernel
theorem d_M_platform_2 : decode b_M_platform 2 = .ok (.iload_n 1, 1) := by decide +kernel
theorem d_M_platform_3 : decode b_M_platform 3 = .ok (.invokevirtual 45, 3) := by decide +kernel
theorem d_M_platform_6 : decode b_M_platform 6 = .ok (.ifCond .eq 21, 3) := by decide +kernel
theorem d_M_platform_9 : decode b_M_platform 9 = .ok (.iload_n 2, 1) := by decide +kernel
theorem d_M_platform_10 : decode b_M_platform 10 = .ok (.invokestatic 49, 3) := by decide +kernel
theorem d_M_platform_13 : decode b_M_platform 13 = .ok (.ifCond .eq 14, 3) := by decide +kernel
theorem d_M_platform_16 : decode b_M_platform 16 = .ok (.iload_n 3, 1) := by decide +kernel
theorem d_M_platform_17 : decode b_M_platform 17 = .ok (.iconst (-1), 1) := by decide +kernel
theorem d_M_platform_18 : decode b_M_platform 18 = .ok (.if_icmp .lt 9, 3) := by decide +kernel
theorem d_M_platform_21 : decode b_M_platform 21 = .ok (.iload_n 3, 1) := by decide +kernel
theorem d_M_platform_22 : decode b_M_platform 22 = .ok (.bipush 7, 2) := by decide +kernel
theorem d_M_platform_24 : decode b_M_platform 24 = .ok (.if_icmp .le 7, 3) := by decide +kernel
theorem d_M_platform_27 : decode b_M_platform 27 = .ok (.iconst 1, 1) := by decide +kernel
theorem d_M_platform_28 : decode b_M_platform 28 = .ok (.goto 27, 3) := by decide +kernel
theorem d_M_platform_31 : decode b_M_platform 31 = .ok (.aload_n 0, 1) := by decide +kernel
theorem d_M_platform_32 : decode b_M_platform 32 = .ok (.getfield 13, 3) := by decide +kernel
theorem d_M_platform_35 : decode b_M_platform 35 = .ok (.bipush 6, 2) := by decide +kernel
theorem d_M_platform_37 : decode b_M_platform 37 = .ok (.iload_n 1, 1) := by decide +kernel
theorem d_M_platform_38 : decode b_M_platform 38 = .ok (.imul, 1) := by decide +kernel
theorem d_M_platform_39 : decode b_M_platform 39 = .ok (.iload_n 2, 1) := by decide +kernel
theorem d_M_platform_40 : decode b_M_platform 40 = .ok (.iadd, 1) := by decide +kernel
theorem d_M_platform_41 : decode b_M_platform 41 = .ok (.baload, 1) := by decide +kernel
theorem d_M_platform_42 : decode b_M_platform 42 = .ok (.ifCond .eq 8, 3) := by decide +kernel
theorem d_M_platform_45 : decode b_M_platform 45 = .ok (.iload_n 2, 1) := by decide +kernel
theorem d_M_platform_46 : decode b_M_platform 46 = .ok (.iconst 1, 1) := by decide +kernel
theorem d_M_platform_47 : decode b_M_platform 47 = .ok (.if_icmp .le 7, 3) := by decide +kernel
theorem d_M_platform_50 : decode b_M_platform 50 = .ok (.iconst 2, 1) := by decide +kernel
theorem d_M_platform_51 : decode b_M_platform 51 = .ok (.goto 4, 3) := by decide +kernel
theorem d_M_platform_54 : decode b_M_platform 54 = .ok (.iconst 0, 1) := by decide +kernel
theorem d_M_platform_55 : decode b_M_platform 55 = .ok (.putfield 42, 3) := by decide +kernel
theorem d_M_platform_58 : decode b_M_platform 58 = .ok (.aload_n 0, 1) := by decide +kernel
theorem d_M_platform_59 : decode b_M_platform 59 = .ok (.getfield 42, 3) := by decide +kernel
theorem d_M_platform_62 : decode b_M_platform 62 = .ok (.ifCond .ne 17, 3) := by decide +kernel
theorem d_M_platform_65 : decode b_M_platform 65 = .ok (.aload_n 0, 1) := by decide +kernel
theorem d_M_platform_66 : decode b_M_platform 66 = .ok (.getfield 20, 3) := by decide +kernel
theorem d_M_platform_69 : decode b_M_platform 69 = .ok (.bipush 6, 2) := by decide +kernel
theorem d_M_platform_71 : decode b_M_platform 71 = .ok (.iload_n 1, 1) := by decide +kernel
theorem d_M_platform_72 : decode b_M_platform 72 = .ok (.imul, 1) := by decide +kernel
theorem d_M_platform_73 : decode b_M_platform 73 = .ok (.iload_n 2, 1) := by decide +kernel
theorem d_M_platform_74 : decode b_M_platform 74 = .ok (.iadd, 1) := by decide +kernel
theorem d_M_platform_75 : decode b_M_platform 75 = .ok (.iload_n 3, 1) := by decide +kernel
theorem d_M_platform_76 : decode b_M_platform 76 = .ok (.iconst 1, 1) := by decide +kernel
theorem d_M_platform_77 : decode b_M_platform 77 = .ok (.iadd, 1) := by decide +kernel
theorem d_M_platform_78 : decode b_M_platform 78 = .ok (.iastore, 1) := by decide +kernel
theorem d_M_platform_79 : decode b_M_platform 79 = .ok (.return_, 1) := by decide +kernel
theorem d_M_at_0 : decode b_M_at 0 = .ok (.aload_n 0, 1) := by decide +kernel
theorem d_M_at_1 : decode b_M_at 1 = .ok (.iconst 0, 1) := by decide +kernel
theorem d_M_at_2 : decode b_M_at 2 = .ok (.putfield 42, 3) := by decide +kernel
theorem d_M_at_5 : decode b_M_at 5 = .ok (.aload_n 0, 1) := by decide +kernel
theorem d_M_at_6 : decode b_M_at 6 = .ok (.iload_n 1, 1) := by decide +kernel
theorem d_M_at_7 : decode b_M_at 7 = .ok (.invokevirtual 45, 3) := by decide +kernel
theorem d_M_at_10 : decode b_M_at 10 = .ok (.ifCond .eq 13, 3) := by decide +kernel
theorem d_M_at_13 : decode b_M_at 13 = .ok (.iload_n 2, 1) := by decide +kernel
theorem d_M_at_14 : decode b_M_at 14 = .ok (.ifCond .lt 9, 3) := by decide +kernel
theorem d_M_at_17 : decode b_M_at 17 = .ok (.iload_n 2, 1) := by decide +kernel
theorem d_M_at_18 : decode b_M_at 18 = .ok (.bipush 6, 2) := by decide +kernel
theorem d_M_at_20 : decode b_M_at 20 = .ok (.if_icmp .le 5, 3) := by decide +kernel
theorem d_M_at_23 : decode b_M_at 23 = .ok (.iconst (-1), 1) := by decide +kernel
theorem d_M_at_24 : decode b_M_at 24 = .ok (.ireturn, 1) := by decide +kernel
theorem d_M_at_25 : decode b_M_at 25 = .ok (.iconst 0, 1) := by decide +kernel
theorem d_M_at_26 : decode b_M_at 26 = .ok (.istore_n 3, 1) := by decide +kernel
theorem d_M_at_27 : decode b_M_at 27 = .ok (.iconst 0, 1) := by decide +kernel
theorem d_M_at_28 : decode b_M_at 28 = .ok (.istore 4, 2) := by decide +kernel
theorem d_M_at_30 : decode b_M_at 30 = .ok (.iload 4, 2) := by decide +kernel
theorem d_M_at_32 : decode b_M_at 32 = .ok (.bipush 6, 2) := by decide +kernel
theorem d_M_at_34 : decode b_M_at 34 = .ok (.if_icmp .ge 35, 3) := by decide +kernel
theorem d_M_at_37 : decode b_M_at 37 = .ok (.iload_n 3, 1) := by decide +kernel
theorem d_M_at_38 : decode b_M_at 38 = .ok (.aload_n 0, 1) := by decide +kernel
theorem d_M_at_39 : decode b_M_at 39 = .ok (.getfield 13, 3) := by decide +kernel
theorem d_M_at_42 : decode b_M_at 42 = .ok (.bipush 6, 2) := by decide +kernel
theorem d_M_at_44 : decode b_M_at 44 = .ok (.iload_n 1, 1) := by decide +kernel
theorem d_M_at_45 : decode b_M_at 45 = .ok (.imul, 1) := by decide +kernel
theorem d_M_at_46 : decode b_M_at 46 = .ok (.iload 4, 2) := by decide +kernel
theorem d_M_at_48 : decode b_M_at 48 = .ok (.iadd, 1) := by decide +kernel
theorem d_M_at_49 : decode b_M_at 49 = .ok (.baload, 1) := by decide +kernel
theorem d_M_at_50 : decode b_M_at 50 = .ok (.ifCond .eq 10, 3) := by decide +kernel
theorem d_M_at_53 : decode b_M_at 53 = .ok (.iconst 1, 1) := by decide +kernel
theorem d_M_at_54 : decode b_M_at 54 = .ok (.iload 4, 2) := by decide +kernel
theorem d_M_at_56 : decode b_M_at 56 = .ok (.ishl, 1) := by decide +kernel
theorem d_M_at_57 : decode b_M_at 57 = .ok (.goto 4, 3) := by decide +kernel
theorem d_M_at_60 : decode b_M_at 60 = .ok (.iconst 0, 1) := by decide +kernel
theorem d_M_at_61 : decode b_M_at 61 = .ok (.ior, 1) := by decide +kernel
theorem d_M_at_62 : decode b_M_at 62 = .ok (.istore_n 3, 1) := by decide +kernel
theorem d_M_at_63 : decode b_M_at 63 = .ok (.iinc 4 1, 3) := by decide +kernel
theorem d_M_at_66 : decode b_M_at 66 = .ok (.goto (-36), 3) := by decide +kernel
theorem d_M_at_69 : decode b_M_at 69 = .ok (.iload_n 2, 1) := by decide +kernel
theorem d_M_at_70 : decode b_M_at 70 = .ok (.ifCond .ne 5, 3) := by decide +kernel
theorem d_M_at_73 : decode b_M_at 73 = .ok (.iload_n 3, 1) := by decide +kernel
theorem d_M_at_74 : decode b_M_at 74 = .ok (.ireturn, 1) := by decide +kernel
theorem d_M_at_75 : decode b_M_at 75 = .ok (.bipush 6, 2) := by decide +kernel
theorem d_M_at_77 : decode b_M_at 77 = .ok (.iload_n 1, 1) := by decide +kernel
theorem d_M_at_78 : decode b_M_at 78 = .ok (.imul, 1) := by decide +kernel
theorem d_M_at_79 : decode b_M_at 79 = .ok (.iload_n 2, 1) := by decide +kernel
theorem d_M_at_80 : decode b_M_at 80 = .ok (.iadd, 1) := by decide +kernel
theorem d_M_at_81 : decode b_M_at 81 = .ok (.iconst 1, 1) := by decide +kernel
theorem d_M_at_82 : decode b_M_at 82 = .ok (.isub, 1) := by decide +kernel
theorem d_M_at_83 : decode b_M_at 83 = .ok (.istore 4, 2) := by decide +kernel
theorem d_M_at_85 : decode b_M_at 85 = .ok (.aload_n 0, 1) := by decide +kernel
theorem d_M_at_86 : decode b_M_at 86 = .ok (.getfield 13, 3) := by decide +kernel
theorem d_M_at_89 : decode b_M_at 89 = .ok (.iload 4, 2) := by decide +kernel
theorem d_M_at_91 : decode b_M_at 91 = .ok (.baload, 1) := by decide +kernel
theorem d_M_at_92 : decode b_M_at 92 = .ok (.ifCond .eq 28, 3) := by decide +kernel
theorem d_M_at_95 : decode b_M_at 95 = .ok (.iconst 1, 1) := by decide +kernel
theorem d_M_at_96 : decode b_M_at 96 = .ok (.iconst 4, 1) := by decide +kernel
theorem d_M_at_97 : decode b_M_at 97 = .ok (.aload_n 0, 1) := by decide +kernel
theorem d_M_at_98 : decode b_M_at 98 = .ok (.getfield 17, 3) := by decide +kernel
theorem d_M_at_101 : decode b_M_at 101 = .ok (.iload 4, 2) := by decide +kernel
theorem d_M_at_103 : decode b_M_at 103 = .ok (.iaload, 1) := by decide +kernel
theorem d_M_at_104 : decode b_M_at 104 = .ok (.imul, 1) := by decide +kernel
theorem d_M_at_105 : decode b_M_at 105 = .ok (.iadd, 1) := by decide +kernel
theorem d_M_at_106 : decode b_M_at 106 = .ok (.bipush 32, 2) := by decide +kernel
theorem d_M_at_108 : decode b_M_at 108 = .ok (.aload_n 0, 1) := by decide +kernel
theorem d_M_at_109 : decode b_M_at 109 = .ok (.getfield 20, 3) := by decide +kernel
theorem d_M_at_112 : decode b_M_at 112 = .ok (.iload 4, 2) := by decide +kernel
theorem d_M_at_114 : decode b_M_at 114 = .ok (.iaload, 1) := by decide +kernel
theorem d_M_at_115 : decode b_M_at 115 = .ok (.imul, 1) := by decide +kernel
theorem d_M_at_116 : decode b_M_at 116 = .ok (.iadd, 1) := by decide +kernel
theorem d_M_at_117 : decode b_M_at 117 = .ok (.goto 4, 3) := by decide +kernel
theorem d_M_at_120 : decode b_M_at 120 = .ok (.iconst 0, 1) := by decide +kernel
theorem d_M_at_121 : decode b_M_at 121 = .ok (.ireturn, 1) := by decide +kernel
theorem d_M_next_0 : decode b_M_next 0 = .ok (.aload_n 0, 1) := by decide +kernel
theorem d_M_next_1 : decode b_M_next 1 = .ok (.iconst 0, 1) := by decide +kernel
theorem d_M_next_2 : decode b_M_next 2 = .ok (.putfield 42, 3) := by decide +kernel
theorem d_M_next_5 : decode b_M_next 5 = .ok (.aload_n 0, 1) := by decide +kernel
theorem d_M_next_6 : decode b_M_next 6 = .ok (.iload_n 1, 1) := by decide +kernel
theorem d_M_next_7 : decode b_M_next 7 = .ok (.invokevirtual 75, 3) := by decide +kernel
theorem d_M_next_10 : decode b_M_next 10 = .ok (.ifCond .eq 7, 3) := by decide +kernel
theorem d_M_next_13 : decode b_M_next 13 = .ok (.iload_n 2, 1) := by decide +kernel
theorem d_M_next_14 : decode b_M_next 14 = .ok (.ifCond .ge 5, 3) := by decide +kernel
theorem d_M_next_17 : decode b_M_next 17 = .ok (.iconst (-1), 1) := by decide +kernel
theorem d_M_next_18 : decode b_M_next 18 = .ok (.ireturn, 1) := by decide +kernel
theorem d_M_next_19 : decode b_M_next 19 = .ok (.iload_n 2, 1) := by decide +kernel
theorem d_M_next_20 : decode b_M_next 20 = .ok (.istore_n 3, 1) := by decide +kernel
theorem d_M_next_21 : decode b_M_next 21 = .ok (.iconst 0, 1) := by decide +kernel
theorem d_M_next_22 : decode b_M_next 22 = .ok (.istore 4, 2) := by decide +kernel
theorem d_M_next_24 : decode b_M_next 24 = .ok (.iload 4, 2) := by decide +kernel
theorem d_M_next_26 : decode b_M_next 26 = .ok (.bipush 6, 2) := by decide +kernel
theorem d_M_next_28 : decode b_M_next 28 = .ok (.if_icmp .ge 37, 3) := by decide +kernel
theorem d_M_next_31 : decode b_M_next 31 = .ok (.aload_n 0, 1) := by decide +kernel
theorem d_M_next_32 : decode b_M_next 32 = .ok (.iload_n 1, 1) := by decide +kernel
theorem d_M_next_33 : decode b_M_next 33 = .ok (.iload 4, 2) := by decide +kernel
theorem d_M_next_35 : decode b_M_next 35 = .ok (.invokevirtual 78, 3) := by decide +kernel
theorem d_M_next_38 : decode b_M_next 38 = .ok (.istore 5, 2) := by decide +kernel
theorem d_M_next_40 : decode b_M_next 40 = .ok (.iload 5, 2) := by decide +kernel
theorem d_M_next_42 : decode b_M_next 42 = .ok (.iconst (-1), 1) := by decide +kernel
theorem d_M_next_43 : decode b_M_next 43 = .ok (.if_icmp .ne 6, 3) := by decide +kernel
theorem d_M_next_46 : decode b_M_next 46 = .ok (.goto 13, 3) := by decide +kernel
theorem d_M_next_49 : decode b_M_next 49 = .ok (.iload_n 3, 1) := by decide +kernel
theorem d_M_next_50 : decode b_M_next 50 = .ok (.ifCond .ne 6, 3) := by decide +kernel
theorem d_M_next_53 : decode b_M_next 53 = .ok (.iload 5, 2) := by decide +kernel
theorem d_M_next_55 : decode b_M_next 55 = .ok (.ireturn, 1) := by decide +kernel
theorem d_M_next_56 : decode b_M_next 56 = .ok (.iinc 3 (-1), 3) := by decide +kernel
theorem d_M_next_59 : decode b_M_next 59 = .ok (.iinc 4 1, 3) := by decide +kernel
theorem d_M_next_62 : decode b_M_next 62 = .ok (.goto (-38), 3) := by decide +kernel
theorem d_M_next_65 : decode b_M_next 65 = .ok (.iconst (-1), 1) := by decide +kernel
theorem d_M_next_66 : decode b_M_next 66 = .ok (.ireturn, 1) := by decide +kernel
theorem d_M_isOpen_0 : decode b_M_isOpen 0 = .ok (.aload_n 0, 1) := by decide +kernel
theorem d_M_isOpen_1 : decode b_M_isOpen 1 = .ok (.iload_n 1, 1) := by decide +kernel
theorem d_M_isOpen_2 : decode b_M_isOpen 2 = .ok (.invokevirtual 55, 3) := by decide +kernel
theorem d_M_isOpen_5 : decode b_M_isOpen 5 = .ok (.ifCond .eq 40, 3) := by decide +kernel
theorem d_M_isOpen_8 : decode b_M_isOpen 8 = .ok (.aload_n 0, 1) := by decide +kernel
theorem d_M_isOpen_9 : decode b_M_isOpen 9 = .ok (.getfield 13, 3) := by decide +kernel
theorem d_M_isOpen_12 : decode b_M_isOpen 12 = .ok (.iload_n 1, 1) := by decide +kernel
theorem d_M_isOpen_13 : decode b_M_isOpen 13 = .ok (.iconst 2, 1) := by decide +kernel
theorem d_M_isOpen_14 : decode b_M_isOpen 14 = .ok (.idiv, 1) := by decide +kernel
theorem d_M_isOpen_15 : decode b_M_isOpen 15 = .ok (.baload, 1) := by decide +kernel
theorem d_M_isOpen_16 : decode b_M_isOpen 16 = .ok (.ifCond .eq 29, 3) := by decide +kernel
theorem d_M_isOpen_19 : decode b_M_isOpen 19 = .ok (.aload_n 0, 1) := by decide +kernel
theorem d_M_isOpen_20 : decode b_M_isOpen 20 = .ok (.getfield 17, 3) := by decide +kernel
theorem d_M_isOpen_23 : decode b_M_isOpen 23 = .ok (.iload_n 1, 1) := by decide +kernel
theorem d_M_isOpen_24 : decode b_M_isOpen 24 = .ok (.iconst 2, 1) := by decide +kernel
theorem d_M_isOpen_25 : decode b_M_isOpen 25 = .ok (.idiv, 1) := by decide +kernel
theorem d_M_isOpen_26 : decode b_M_isOpen 26 = .ok (.iaload, 1) := by decide +kernel
theorem d_M_isOpen_27 : decode b_M_isOpen 27 = .ok (.ifCond .eq 14, 3) := by decide +kernel
theorem d_M_isOpen_30 : decode b_M_isOpen 30 = .ok (.aload_n 0, 1) := by decide +kernel
theorem d_M_isOpen_31 : decode b_M_isOpen 31 = .ok (.iload_n 1, 1) := by decide +kernel
theorem d_M_isOpen_32 : decode b_M_isOpen 32 = .ok (.iconst 2, 1) := by decide +kernel
theorem d_M_isOpen_33 : decode b_M_isOpen 33 = .ok (.idiv, 1) := by decide +kernel
theorem d_M_isOpen_34 : decode b_M_isOpen 34 = .ok (.invokevirtual 58, 3) := by decide +kernel
theorem d_M_isOpen_37 : decode b_M_isOpen 37 = .ok (.iload_n 1, 1) := by decide +kernel
theorem d_M_isOpen_38 : decode b_M_isOpen 38 = .ok (.if_icmp .ne 7, 3) := by decide +kernel
theorem d_M_isOpen_41 : decode b_M_isOpen 41 = .ok (.iconst 1, 1) := by decide +kernel
theorem d_M_isOpen_42 : decode b_M_isOpen 42 = .ok (.goto 4, 3) := by decide +kernel
theorem d_M_isOpen_45 : decode b_M_isOpen 45 = .ok (.iconst 0, 1) := by decide +kernel
theorem d_M_isOpen_46 : decode b_M_isOpen 46 = .ok (.ireturn, 1) := by decide +kernel
theorem d_M_isRun_0 : decode b_M_isRun 0 = .ok (.iload_n 1, 1) := by decide +kernel
theorem d_M_isRun_1 : decode b_M_isRun 1 = .ok (.ifCond .lt 23, 3) := by decide +kernel
theorem d_M_isRun_4 : decode b_M_isRun 4 = .ok (.iload_n 1, 1) := by decide +kernel
theorem d_M_isRun_5 : decode b_M_isRun 5 = .ok (.bipush 12, 2) := by decide +kernel
theorem d_M_isRun_7 : decode b_M_isRun 7 = .ok (.aload_n 0, 1) := by decide +kernel
theorem d_M_isRun_8 : decode b_M_isRun 8 = .ok (.getfield 35, 3) := by decide +kernel
theorem d_M_isRun_11 : decode b_M_isRun 11 = .ok (.imul, 1) := by decide +kernel
theorem d_M_isRun_12 : decode b_M_isRun 12 = .ok (.aload_n 0, 1) := by decide +kernel
theorem d_M_isRun_13 : decode b_M_isRun 13 = .ok (.getfield 39, 3) := by decide +kernel
theorem d_M_isRun_16 : decode b_M_isRun 16 = .ok (.imul, 1) := by decide +kernel
theorem d_M_isRun_17 : decode b_M_isRun 17 = .ok (.if_icmp .ge 7, 3) := by decide +kernel
theorem d_M_isRun_20 : decode b_M_isRun 20 = .ok (.iconst 1, 1) := by decide +kernel
theorem d_M_isRun_21 : decode b_M_isRun 21 = .ok (.goto 4, 3) := by decide +kernel
theorem d_M_isRun_24 : decode b_M_isRun 24 = .ok (.iconst 0, 1) := by decide +kernel
theorem d_M_isRun_25 : decode b_M_isRun 25 = .ok (.ireturn, 1) := by decide +kernel
theorem d_M_signalled_0 : decode b_M_signalled 0 = .ok (.aload_n 0, 1) := by decide +kernel
theorem d_M_signalled_1 : decode b_M_signalled 1 = .ok (.getfield 17, 3) := by decide +kernel
theorem d_M_signalled_4 : decode b_M_signalled 4 = .ok (.iload_n 1, 1) := by decide +kernel
theorem d_M_signalled_5 : decode b_M_signalled 5 = .ok (.iaload, 1) := by decide +kernel
theorem d_M_signalled_6 : decode b_M_signalled 6 = .ok (.ifCond .ne 7, 3) := by decide +kernel
theorem d_M_signalled_9 : decode b_M_signalled 9 = .ok (.iconst (-1), 1) := by decide +kernel
theorem d_M_signalled_10 : decode b_M_signalled 10 = .ok (.goto 17, 3) := by decide +kernel
theorem d_M_signalled_13 : decode b_M_signalled 13 = .ok (.iconst 2, 1) := by decide +kernel
theorem d_M_signalled_14 : decode b_M_signalled 14 = .ok (.iload_n 1, 1) := by decide +kernel
theorem d_M_signalled_15 : decode b_M_signalled 15 = .ok (.imul, 1) := by decide +kernel
theorem d_M_signalled_16 : decode b_M_signalled 16 = .ok (.aload_n 0, 1) := by decide +kernel
theorem d_M_signalled_17 : decode b_M_signalled 17 = .ok (.getfield 17, 3) := by decide +kernel
theorem d_M_signalled_20 : decode b_M_signalled 20 = .ok (.iload_n 1, 1) := by decide +kernel
theorem d_M_signalled_21 : decode b_M_signalled 21 = .ok (.iaload, 1) := by decide +kernel
theorem d_M_signalled_22 : decode b_M_signalled 22 = .ok (.iconst 1, 1) := by decide +kernel
theorem d_M_signalled_23 : decode b_M_signalled 23 = .ok (.isub, 1) := by decide +kernel
theorem d_M_signalled_24 : decode b_M_signalled 24 = .ok (.iconst 2, 1) := by decide +kernel
theorem d_M_signalled_25 : decode b_M_signalled 25 = .ok (.irem, 1) := by decide +kernel
theorem d_M_signalled_26 : decode b_M_signalled 26 = .ok (.iadd, 1) := by decide +kernel
theorem d_M_signalled_27 : decode b_M_signalled 27 = .ok (.ireturn, 1) := by decide +kernel
theorem d_M_follower_0 : decode b_M_follower 0 = .ok (.aload_n 0, 1) := by decide +kernel
theorem d_M_follower_1 : decode b_M_follower 1 = .ok (.iload_n 1, 1) := by decide +kernel
theorem d_M_follower_2 : decode b_M_follower 2 = .ok (.bipush 12, 2) := by decide +kernel
theorem d_M_follower_4 : decode b_M_follower 4 = .ok (.idiv, 1) := by decide +kernel
theorem d_M_follower_5 : decode b_M_follower 5 = .ok (.aload_n 0, 1) := by decide +kernel
theorem d_M_follower_6 : decode b_M_follower 6 = .ok (.iload_n 1, 1) := by decide +kernel
theorem d_M_follower_7 : decode b_M_follower 7 = .ok (.invokevirtual 62, 3) := by decide +kernel
theorem d_M_follower_10 : decode b_M_follower 10 = .ok (.invokevirtual 65, 3) := by decide +kernel
theorem d_M_follower_13 : decode b_M_follower 13 = .ok (.istore_n 3, 1) := by decide +kernel
theorem d_M_follower_14 : decode b_M_follower 14 = .ok (.iload_n 3, 1) := by decide +kernel
theorem d_M_follower_15 : decode b_M_follower 15 = .ok (.iconst (-1), 1) := by decide +kernel
theorem d_M_follower_16 : decode b_M_follower 16 = .ok (.if_icmp .ne 5, 3) := by decide +kernel
theorem d_M_follower_19 : decode b_M_follower 19 = .ok (.iconst (-1), 1) := by decide +kernel
theorem d_M_follower_20 : decode b_M_follower 20 = .ok (.ireturn, 1) := by decide +kernel
theorem d_M_follower_21 : decode b_M_follower 21 = .ok (.iconst 0, 1) := by decide +kernel
theorem d_M_follower_22 : decode b_M_follower 22 = .ok (.istore 4, 2) := by decide +kernel
theorem d_M_follower_24 : decode b_M_follower 24 = .ok (.iload 4, 2) := by decide +kernel
theorem d_M_follower_26 : decode b_M_follower 26 = .ok (.iconst 2, 1) := by decide +kernel
theorem d_M_follower_27 : decode b_M_follower 27 = .ok (.if_icmp .ge 51, 3) := by decide +kernel
theorem d_M_follower_30 : decode b_M_follower 30 = .ok (.iconst 2, 1) := by decide +kernel
theorem d_M_follower_31 : decode b_M_follower 31 = .ok (.bipush 6, 2) := by decide +kernel
theorem d_M_follower_33 : decode b_M_follower 33 = .ok (.iload_n 3, 1) := by decide +kernel
theorem d_M_follower_34 : decode b_M_follower 34 = .ok (.imul, 1) := by decide +kernel
theorem d_M_follower_35 : decode b_M_follower 35 = .ok (.iload_n 2, 1) := by decide +kernel
theorem d_M_follower_36 : decode b_M_follower 36 = .ok (.iadd, 1) := by decide +kernel
theorem d_M_follower_37 : decode b_M_follower 37 = .ok (.imul, 1) := by decide +kernel
theorem d_M_follower_38 : decode b_M_follower 38 = .ok (.iload 4, 2) := by decide +kernel
theorem d_M_follower_40 : decode b_M_follower 40 = .ok (.iadd, 1) := by decide +kernel
theorem d_M_follower_41 : decode b_M_follower 41 = .ok (.istore 5, 2) := by decide +kernel
theorem d_M_follower_43 : decode b_M_follower 43 = .ok (.aload_n 0, 1) := by decide +kernel
theorem d_M_follower_44 : decode b_M_follower 44 = .ok (.iload 5, 2) := by decide +kernel
theorem d_M_follower_46 : decode b_M_follower 46 = .ok (.invokevirtual 69, 3) := by decide +kernel
theorem d_M_follower_49 : decode b_M_follower 49 = .ok (.aload_n 0, 1) := by decide +kernel
theorem d_M_follower_50 : decode b_M_follower 50 = .ok (.iload_n 1, 1) := by decide +kernel
theorem d_M_follower_51 : decode b_M_follower 51 = .ok (.invokevirtual 62, 3) := by decide +kernel
theorem d_M_follower_54 : decode b_M_follower 54 = .ok (.invokestatic 72, 3) := by decide +kernel
theorem d_M_follower_57 : decode b_M_follower 57 = .ok (.if_icmp .ne 15, 3) := by decide +kernel
theorem d_M_follower_60 : decode b_M_follower 60 = .ok (.aload_n 0, 1) := by decide +kernel
theorem d_M_follower_61 : decode b_M_follower 61 = .ok (.iload 5, 2) := by decide +kernel
theorem d_M_follower_63 : decode b_M_follower 63 = .ok (.invokevirtual 75, 3) := by decide +kernel
theorem d_M_follower_66 : decode b_M_follower 66 = .ok (.ifCond .eq 6, 3) := by decide +kernel
theorem d_M_follower_69 : decode b_M_follower 69 = .ok (.iload 5, 2) := by decide +kernel
theorem d_M_follower_71 : decode b_M_follower 71 = .ok (.ireturn, 1) := by decide +kernel
theorem d_M_follower_72 : decode b_M_follower 72 = .ok (.iinc 4 1, 3) := by decide +kernel
theorem d_M_follower_75 : decode b_M_follower 75 = .ok (.goto (-51), 3) := by decide +kernel
theorem d_M_follower_78 : decode b_M_follower 78 = .ok (.iconst (-1), 1) := by decide +kernel
theorem d_M_follower_79 : decode b_M_follower 79 = .ok (.ireturn, 1) := by decide +kernel
theorem d_M_to_0 : decode b_M_to 0 = .ok (.aload_n 0, 1) := by decide +kernel
theorem d_M_to_1 : decode b_M_to 1 = .ok (.getfield 7, 3) := by decide +kernel
theorem d_M_to_4 : decode b_M_to 4 = .ok (.iconst 2, 1) := by decide +kernel
theorem d_M_to_5 : decode b_M_to 5 = .ok (.iload_n 1, 1) := by decide +kernel
theorem d_M_to_6 : decode b_M_to 6 = .ok (.iconst 2, 1) := by decide +kernel
theorem d_M_to_7 : decode b_M_to 7 = .ok (.idiv, 1) := by decide +kernel
theorem d_M_to_8 : decode b_M_to 8 = .ok (.bipush 6, 2) := by decide +kernel
theorem d_M_to_10 : decode b_M_to 10 = .ok (.irem, 1) := by decide +kernel
theorem d_M_to_11 : decode b_M_to 11 = .ok (.imul, 1) := by decide +kernel
theorem d_M_to_12 : decode b_M_to 12 = .ok (.iconst 1, 1) := by decide +kernel
theorem d_M_to_13 : decode b_M_to 13 = .ok (.iadd, 1) := by decide +kernel
theorem d_M_to_14 : decode b_M_to 14 = .ok (.iload_n 1, 1) := by decide +kernel
theorem d_M_to_15 : decode b_M_to 15 = .ok (.iconst 2, 1) := by decide +kernel
theorem d_M_to_16 : decode b_M_to 16 = .ok (.irem, 1) := by decide +kernel
theorem d_M_to_17 : decode b_M_to 17 = .ok (.isub, 1) := by decide +kernel
theorem d_M_to_18 : decode b_M_to 18 = .ok (.iaload, 1) := by decide +kernel
theorem d_M_to_19 : decode b_M_to 19 = .ok (.ireturn, 1) := by decide +kernel
theorem d_M_beyond_0 : decode b_M_beyond 0 = .ok (.iload_n 1, 1) := by decide +kernel
theorem d_M_beyond_1 : decode b_M_beyond 1 = .ok (.aload_n 0, 1) := by decide +kernel
theorem d_M_beyond_2 : decode b_M_beyond 2 = .ok (.getfield 35, 3) := by decide +kernel
theorem d_M_beyond_5 : decode b_M_beyond 5 = .ok (.irem, 1) := by decide +kernel
theorem d_M_beyond_6 : decode b_M_beyond 6 = .ok (.istore_n 3, 1) := by decide +kernel
theorem d_M_beyond_7 : decode b_M_beyond 7 = .ok (.iload_n 1, 1) := by decide +kernel
theorem d_M_beyond_8 : decode b_M_beyond 8 = .ok (.aload_n 0, 1) := by decide +kernel
theorem d_M_beyond_9 : decode b_M_beyond 9 = .ok (.getfield 35, 3) := by decide +kernel
theorem d_M_beyond_12 : decode b_M_beyond 12 = .ok (.idiv, 1) := by decide +kernel
theorem d_M_beyond_13 : decode b_M_beyond 13 = .ok (.istore 4, 2) := by decide +kernel
theorem d_M_beyond_15 : decode b_M_beyond 15 = .ok (.iload_n 2, 1) := by decide +kernel
theorem d_M_beyond_16 : decode b_M_beyond 16 = .ok (.ifCond .ne 15, 3) := by decide +kernel
theorem d_M_beyond_19 : decode b_M_beyond 19 = .ok (.iload_n 3, 1) := by decide +kernel
theorem d_M_beyond_20 : decode b_M_beyond 20 = .ok (.ifCond .ne 7, 3) := by decide +kernel
theorem d_M_beyond_23 : decode b_M_beyond 23 = .ok (.iconst (-1), 1) := by decide +kernel
theorem d_M_beyond_24 : decode b_M_beyond 24 = .ok (.goto 6, 3) := by decide +kernel
theorem d_M_beyond_27 : decode b_M_beyond 27 = .ok (.iload_n 1, 1) := by decide +kernel
theorem d_M_beyond_28 : decode b_M_beyond 28 = .ok (.iconst 1, 1) := by decide +kernel
theorem d_M_beyond_29 : decode b_M_beyond 29 = .ok (.isub, 1) := by decide +kernel
theorem d_M_beyond_30 : decode b_M_beyond 30 = .ok (.ireturn, 1) := by decide +kernel
theorem d_M_beyond_31 : decode b_M_beyond 31 = .ok (.iload_n 2, 1) := by decide +kernel
theorem d_M_beyond_32 : decode b_M_beyond 32 = .ok (.iconst 1, 1) := by decide +kernel
theorem d_M_beyond_33 : decode b_M_beyond 33 = .ok (.if_icmp .ne 21, 3) := by decide +kernel
theorem d_M_beyond_36 : decode b_M_beyond 36 = .ok (.iload_n 3, 1) := by decide +kernel
theorem d_M_beyond_37 : decode b_M_beyond 37 = .ok (.aload_n 0, 1) := by decide +kernel
theorem d_M_beyond_38 : decode b_M_beyond 38 = .ok (.getfield 35, 3) := by decide +kernel
theorem d_M_beyond_41 : decode b_M_beyond 41 = .ok (.iconst 1, 1) := by decide +kernel
theorem d_M_beyond_42 : decode b_M_beyond 42 = .ok (.isub, 1) := by decide +kernel
theorem d_M_beyond_43 : decode b_M_beyond 43 = .ok (.if_icmp .ne 7, 3) := by decide +kernel
theorem d_M_beyond_46 : decode b_M_beyond 46 = .ok (.iconst (-1), 1) := by decide +kernel
theorem d_M_beyond_47 : decode b_M_beyond 47 = .ok (.goto 6, 3) := by decide +kernel
theorem d_M_beyond_50 : decode b_M_beyond 50 = .ok (.iload_n 1, 1) := by decide +kernel
theorem d_M_beyond_51 : decode b_M_beyond 51 = .ok (.iconst 1, 1) := by decide +kernel
theorem d_M_beyond_52 : decode b_M_beyond 52 = .ok (.iadd, 1) := by decide +kernel
theorem d_M_beyond_53 : decode b_M_beyond 53 = .ok (.ireturn, 1) := by decide +kernel
theorem d_M_beyond_54 : decode b_M_beyond 54 = .ok (.iload_n 2, 1) := by decide +kernel
theorem d_M_beyond_55 : decode b_M_beyond 55 = .ok (.iconst 2, 1) := by decide +kernel
theorem d_M_beyond_56 : decode b_M_beyond 56 = .ok (.if_icmp .ne 19, 3) := by decide +kernel
theorem d_M_beyond_59 : decode b_M_beyond 59 = .ok (.iload 4, 2) := by decide +kernel
theorem d_M_beyond_61 : decode b_M_beyond 61 = .ok (.ifCond .ne 7, 3) := by decide +kernel
theorem d_M_beyond_64 : decode b_M_beyond 64 = .ok (.iconst (-1), 1) := by decide +kernel
theorem d_M_beyond_65 : decode b_M_beyond 65 = .ok (.goto 9, 3) := by decide +kernel
theorem d_M_beyond_68 : decode b_M_beyond 68 = .ok (.iload_n 1, 1) := by decide +kernel
theorem d_M_beyond_69 : decode b_M_beyond 69 = .ok (.aload_n 0, 1) := by decide +kernel
theorem d_M_beyond_70 : decode b_M_beyond 70 = .ok (.getfield 35, 3) := by decide +kernel
theorem d_M_beyond_73 : decode b_M_beyond 73 = .ok (.isub, 1) := by decide +kernel
theorem d_M_beyond_74 : decode b_M_beyond 74 = .ok (.ireturn, 1) := by decide +kernel
theorem d_M_beyond_75 : decode b_M_beyond 75 = .ok (.iload 4, 2) := by decide +kernel
theorem d_M_beyond_77 : decode b_M_beyond 77 = .ok (.aload_n 0, 1) := by decide +kernel
theorem d_M_beyond_78 : decode b_M_beyond 78 = .ok (.getfield 39, 3) := by decide +kernel
theorem d_M_beyond_81 : decode b_M_beyond 81 = .ok (.iconst 1, 1) := by decide +kernel
theorem d_M_beyond_82 : decode b_M_beyond 82 = .ok (.isub, 1) := by decide +kernel
theorem d_M_beyond_83 : decode b_M_beyond 83 = .ok (.if_icmp .ne 7, 3) := by decide +kernel
theorem d_M_beyond_86 : decode b_M_beyond 86 = .ok (.iconst (-1), 1) := by decide +kernel
theorem d_M_beyond_87 : decode b_M_beyond 87 = .ok (.goto 9, 3) := by decide +kernel
theorem d_M_beyond_90 : decode b_M_beyond 90 = .ok (.iload_n 1, 1) := by decide +kernel
theorem d_M_beyond_91 : decode b_M_beyond 91 = .ok (.aload_n 0, 1) := by decide +kernel
theorem d_M_beyond_92 : decode b_M_beyond 92 = .ok (.getfield 35, 3) := by decide +kernel
theorem d_M_beyond_95 : decode b_M_beyond 95 = .ok (.iadd, 1) := by decide +kernel
theorem d_M_beyond_96 : decode b_M_beyond 96 = .ok (.ireturn, 1) := by decide +kernel
theorem d_M_from_0 : decode b_M_from 0 = .ok (.aload_n 0, 1) := by decide +kernel
theorem d_M_from_1 : decode b_M_from 1 = .ok (.getfield 7, 3) := by decide +kernel
theorem d_M_from_4 : decode b_M_from 4 = .ok (.iconst 2, 1) := by decide +kernel
theorem d_M_from_5 : decode b_M_from 5 = .ok (.iload_n 1, 1) := by decide +kernel
theorem d_M_from_6 : decode b_M_from 6 = .ok (.iconst 2, 1) := by decide +kernel
theorem d_M_from_7 : decode b_M_from 7 = .ok (.idiv, 1) := by decide +kernel
theorem d_M_from_8 : decode b_M_from 8 = .ok (.bipush 6, 2) := by decide +kernel
theorem d_M_from_10 : decode b_M_from 10 = .ok (.irem, 1) := by decide +kernel
theorem d_M_from_11 : decode b_M_from 11 = .ok (.imul, 1) := by decide +kernel
theorem d_M_from_12 : decode b_M_from 12 = .ok (.iload_n 1, 1) := by decide +kernel
theorem d_M_from_13 : decode b_M_from 13 = .ok (.iconst 2, 1) := by decide +kernel
theorem d_M_from_14 : decode b_M_from 14 = .ok (.irem, 1) := by decide +kernel
theorem d_M_from_15 : decode b_M_from 15 = .ok (.iadd, 1) := by decide +kernel
theorem d_M_from_16 : decode b_M_from 16 = .ok (.iaload, 1) := by decide +kernel
theorem d_M_from_17 : decode b_M_from 17 = .ok (.ireturn, 1) := by decide +kernel
theorem d_M_other_0 : decode b_M_other 0 = .ok (.iload_n 0, 1) := by decide +kernel
theorem d_M_other_1 : decode b_M_other 1 = .ok (.iconst 2, 1) := by decide +kernel
theorem d_M_other_2 : decode b_M_other 2 = .ok (.if_icmp .ge 9, 3) := by decide +kernel
theorem d_M_other_5 : decode b_M_other 5 = .ok (.iconst 1, 1) := by decide +kernel
theorem d_M_other_6 : decode b_M_other 6 = .ok (.iload_n 0, 1) := by decide +kernel
theorem d_M_other_7 : decode b_M_other 7 = .ok (.isub, 1) := by decide +kernel
theorem d_M_other_8 : decode b_M_other 8 = .ok (.goto 6, 3) := by decide +kernel
theorem d_M_other_11 : decode b_M_other 11 = .ok (.iconst 5, 1) := by decide +kernel
theorem d_M_other_12 : decode b_M_other 12 = .ok (.iload_n 0, 1) := by decide +kernel
theorem d_M_other_13 : decode b_M_other 13 = .ok (.isub, 1) := by decide +kernel
theorem d_M_other_14 : decode b_M_other 14 = .ok (.ireturn, 1) := by decide +kernel
theorem d_M_before_0 : decode b_M_before 0 = .ok (.aload_n 0, 1) := by decide +kernel
theorem d_M_before_1 : decode b_M_before 1 = .ok (.iconst 0, 1) := by decide +kernel
theorem d_M_before_2 : decode b_M_before 2 = .ok (.putfield 42, 3) := by decide +kernel
theorem d_M_before_5 : decode b_M_before 5 = .ok (.aload_n 0, 1) := by decide +kernel
theorem d_M_before_6 : decode b_M_before 6 = .ok (.iload_n 1, 1) := by decide +kernel
theorem d_M_before_7 : decode b_M_before 7 = .ok (.invokevirtual 75, 3) := by decide +kernel
theorem d_M_before_10 : decode b_M_before 10 = .ok (.ifCond .ne 5, 3) := by decide +kernel
theorem d_M_before_13 : decode b_M_before 13 = .ok (.iconst (-1), 1) := by decide +kernel
theorem d_M_before_14 : decode b_M_before 14 = .ok (.ireturn, 1) := by decide +kernel
theorem d_M_before_15 : decode b_M_before 15 = .ok (.iconst (-1), 1) := by decide +kernel
theorem d_M_before_16 : decode b_M_before 16 = .ok (.istore_n 2, 1) := by decide +kernel
theorem d_M_before_17 : decode b_M_before 17 = .ok (.iconst 0, 1) := by decide +kernel
theorem d_M_before_18 : decode b_M_before 18 = .ok (.istore_n 3, 1) := by decide +kernel
theorem d_M_before_19 : decode b_M_before 19 = .ok (.iload_n 3, 1) := by decide +kernel
theorem d_M_before_20 : decode b_M_before 20 = .ok (.aload_n 0, 1) := by decide +kernel
theorem d_M_before_21 : decode b_M_before 21 = .ok (.getfield 52, 3) := by decide +kernel
theorem d_M_before_24 : decode b_M_before 24 = .ok (.if_icmp .ge 76, 3) := by decide +kernel
theorem d_M_before_27 : decode b_M_before 27 = .ok (.iconst 0, 1) := by decide +kernel
theorem d_M_before_28 : decode b_M_before 28 = .ok (.istore 4, 2) := by decide +kernel
theorem d_M_before_30 : decode b_M_before 30 = .ok (.iload 4, 2) := by decide +kernel
theorem d_M_before_32 : decode b_M_before 32 = .ok (.iconst 2, 1) := by decide +kernel
theorem d_M_before_33 : decode b_M_before 33 = .ok (.if_icmp .ge 61, 3) := by decide +kernel
theorem d_M_before_36 : decode b_M_before 36 = .ok (.iconst 2, 1) := by decide +kernel
theorem d_M_before_37 : decode b_M_before 37 = .ok (.aload_n 0, 1) := by decide +kernel
theorem d_M_before_38 : decode b_M_before 38 = .ok (.getfield 23, 3) := by decide +kernel
theorem d_M_before_41 : decode b_M_before 41 = .ok (.iload_n 3, 1) := by decide +kernel
theorem d_M_before_42 : decode b_M_before 42 = .ok (.iaload, 1) := by decide +kernel
theorem d_M_before_43 : decode b_M_before 43 = .ok (.imul, 1) := by decide +kernel
theorem d_M_before_44 : decode b_M_before 44 = .ok (.iload 4, 2) := by decide +kernel
theorem d_M_before_46 : decode b_M_before 46 = .ok (.iadd, 1) := by decide +kernel
theorem d_M_before_47 : decode b_M_before 47 = .ok (.istore 5, 2) := by decide +kernel
theorem d_M_before_49 : decode b_M_before 49 = .ok (.aload_n 0, 1) := by decide +kernel
theorem d_M_before_50 : decode b_M_before 50 = .ok (.iload 5, 2) := by decide +kernel
theorem d_M_before_52 : decode b_M_before 52 = .ok (.invokevirtual 75, 3) := by decide +kernel
theorem d_M_before_55 : decode b_M_before 55 = .ok (.ifCond .eq 33, 3) := by decide +kernel
theorem d_M_before_58 : decode b_M_before 58 = .ok (.aload_n 0, 1) := by decide +kernel
theorem d_M_before_59 : decode b_M_before 59 = .ok (.iload 5, 2) := by decide +kernel
theorem d_M_before_61 : decode b_M_before 61 = .ok (.iload_n 1, 1) := by decide +kernel
theorem d_M_before_62 : decode b_M_before 62 = .ok (.iconst 2, 1) := by decide +kernel
theorem d_M_before_63 : decode b_M_before 63 = .ok (.idiv, 1) := by decide +kernel
theorem d_M_before_64 : decode b_M_before 64 = .ok (.bipush 6, 2) := by decide +kernel
theorem d_M_before_66 : decode b_M_before 66 = .ok (.irem, 1) := by decide +kernel
theorem d_M_before_67 : decode b_M_before 67 = .ok (.invokevirtual 78, 3) := by decide +kernel
theorem d_M_before_70 : decode b_M_before 70 = .ok (.iload_n 1, 1) := by decide +kernel
theorem d_M_before_71 : decode b_M_before 71 = .ok (.if_icmp .ne 17, 3) := by decide +kernel
theorem d_M_before_74 : decode b_M_before 74 = .ok (.iload_n 2, 1) := by decide +kernel
theorem d_M_before_75 : decode b_M_before 75 = .ok (.iconst (-1), 1) := by decide +kernel
theorem d_M_before_76 : decode b_M_before 76 = .ok (.if_icmp .eq 9, 3) := by decide +kernel
theorem d_M_before_79 : decode b_M_before 79 = .ok (.iload 5, 2) := by decide +kernel
theorem d_M_before_81 : decode b_M_before 81 = .ok (.iload_n 2, 1) := by decide +kernel
theorem d_M_before_82 : decode b_M_before 82 = .ok (.if_icmp .ge 6, 3) := by decide +kernel
theorem d_M_before_85 : decode b_M_before 85 = .ok (.iload 5, 2) := by decide +kernel
theorem d_M_before_87 : decode b_M_before 87 = .ok (.istore_n 2, 1) := by decide +kernel
theorem d_M_before_88 : decode b_M_before 88 = .ok (.iinc 4 1, 3) := by decide +kernel
theorem d_M_before_91 : decode b_M_before 91 = .ok (.goto (-61), 3) := by decide +kernel
theorem d_M_before_94 : decode b_M_before 94 = .ok (.iinc 3 1, 3) := by decide +kernel
theorem d_M_before_97 : decode b_M_before 97 = .ok (.goto (-78), 3) := by decide +kernel
theorem d_M_before_100 : decode b_M_before 100 = .ok (.iload_n 2, 1) := by decide +kernel
end
section
/-! DECODE rows, by program -/
theorem d_M_before_101 : decode b_M_before 101 = .ok (.ireturn, 1) := by decide +kernel
theorem d_M_block_0 : decode b_M_block 0 = .ok (.aload_n 0, 1) := by decide +kernel
theorem d_M_block_1 : decode b_M_block 1 = .ok (.iconst 0, 1) := by decide +kernel
theorem d_M_block_2 : decode b_M_block 2 = .ok (.putfield 42, 3) := by decide +kernel
theorem d_M_block_5 : decode b_M_block 5 = .ok (.aload_n 0, 1) := by decide +kernel
theorem d_M_block_6 : decode b_M_block 6 = .ok (.iload_n 1, 1) := by decide +kernel
theorem d_M_block_7 : decode b_M_block 7 = .ok (.iload_n 2, 1) := by decide +kernel
theorem d_M_block_8 : decode b_M_block 8 = .ok (.invokevirtual 91, 3) := by decide +kernel
theorem d_M_block_11 : decode b_M_block 11 = .ok (.ifCond .ne 5, 3) := by decide +kernel
theorem d_M_block_14 : decode b_M_block 14 = .ok (.iconst (-1), 1) := by decide +kernel
theorem d_M_block_15 : decode b_M_block 15 = .ok (.ireturn, 1) := by decide +kernel
theorem d_M_block_16 : decode b_M_block 16 = .ok (.aload_n 0, 1) := by decide +kernel
theorem d_M_block_17 : decode b_M_block 17 = .ok (.invokevirtual 94, 3) := by decide +kernel
theorem d_M_block_20 : decode b_M_block 20 = .ok (.aload_n 0, 1) := by decide +kernel
theorem d_M_block_21 : decode b_M_block 21 = .ok (.bipush 6, 2) := by decide +kernel
theorem d_M_block_23 : decode b_M_block 23 = .ok (.iload_n 1, 1) := by decide +kernel
theorem d_M_block_24 : decode b_M_block 24 = .ok (.imul, 1) := by decide +kernel
theorem d_M_block_25 : decode b_M_block 25 = .ok (.iload_n 2, 1) := by decide +kernel
theorem d_M_block_26 : decode b_M_block 26 = .ok (.iadd, 1) := by decide +kernel
theorem d_M_block_27 : decode b_M_block 27 = .ok (.invokevirtual 97, 3) := by decide +kernel
theorem d_M_block_30 : decode b_M_block 30 = .ok (.ireturn, 1) := by decide +kernel
theorem d_M_isPiece_0 : decode b_M_isPiece 0 = .ok (.aload_n 0, 1) := by decide +kernel
theorem d_M_isPiece_1 : decode b_M_isPiece 1 = .ok (.iload_n 1, 1) := by decide +kernel
theorem d_M_isPiece_2 : decode b_M_isPiece 2 = .ok (.invokevirtual 45, 3) := by decide +kernel
theorem d_M_isPiece_5 : decode b_M_isPiece 5 = .ok (.ifCond .eq 28, 3) := by decide +kernel
theorem d_M_isPiece_8 : decode b_M_isPiece 8 = .ok (.iload_n 2, 1) := by decide +kernel
theorem d_M_isPiece_9 : decode b_M_isPiece 9 = .ok (.invokestatic 49, 3) := by decide +kernel
theorem d_M_isPiece_12 : decode b_M_isPiece 12 = .ok (.ifCond .eq 21, 3) := by decide +kernel
theorem d_M_isPiece_15 : decode b_M_isPiece 15 = .ok (.aload_n 0, 1) := by decide +kernel
theorem d_M_isPiece_16 : decode b_M_isPiece 16 = .ok (.getfield 13, 3) := by decide +kernel
theorem d_M_isPiece_19 : decode b_M_isPiece 19 = .ok (.bipush 6, 2) := by decide +kernel
theorem d_M_isPiece_21 : decode b_M_isPiece 21 = .ok (.iload_n 1, 1) := by decide +kernel
theorem d_M_isPiece_22 : decode b_M_isPiece 22 = .ok (.imul, 1) := by decide +kernel
theorem d_M_isPiece_23 : decode b_M_isPiece 23 = .ok (.iload_n 2, 1) := by decide +kernel
theorem d_M_isPiece_24 : decode b_M_isPiece 24 = .ok (.iadd, 1) := by decide +kernel
theorem d_M_isPiece_25 : decode b_M_isPiece 25 = .ok (.baload, 1) := by decide +kernel
theorem d_M_isPiece_26 : decode b_M_isPiece 26 = .ok (.ifCond .eq 7, 3) := by decide +kernel
theorem d_M_isPiece_29 : decode b_M_isPiece 29 = .ok (.iconst 1, 1) := by decide +kernel
theorem d_M_isPiece_30 : decode b_M_isPiece 30 = .ok (.goto 4, 3) := by decide +kernel
theorem d_M_isPiece_33 : decode b_M_isPiece 33 = .ok (.iconst 0, 1) := by decide +kernel
theorem d_M_isPiece_34 : decode b_M_isPiece 34 = .ok (.ireturn, 1) := by decide +kernel
theorem d_M_unreach_0 : decode b_M_unreach 0 = .ok (.iconst 0, 1) := by decide +kernel
theorem d_M_unreach_1 : decode b_M_unreach 1 = .ok (.istore_n 1, 1) := by decide +kernel
theorem d_M_unreach_2 : decode b_M_unreach 2 = .ok (.iload_n 1, 1) := by decide +kernel
theorem d_M_unreach_3 : decode b_M_unreach 3 = .ok (.sipush 2400, 3) := by decide +kernel
theorem d_M_unreach_6 : decode b_M_unreach 6 = .ok (.if_icmp .ge 16, 3) := by decide +kernel
theorem d_M_unreach_9 : decode b_M_unreach 9 = .ok (.aload_n 0, 1) := by decide +kernel
theorem d_M_unreach_10 : decode b_M_unreach 10 = .ok (.getfield 29, 3) := by decide +kernel
theorem d_M_unreach_13 : decode b_M_unreach 13 = .ok (.iload_n 1, 1) := by decide +kernel
theorem d_M_unreach_14 : decode b_M_unreach 14 = .ok (.iconst 0, 1) := by decide +kernel
theorem d_M_unreach_15 : decode b_M_unreach 15 = .ok (.bastore, 1) := by decide +kernel
theorem d_M_unreach_16 : decode b_M_unreach 16 = .ok (.iinc 1 1, 3) := by decide +kernel
theorem d_M_unreach_19 : decode b_M_unreach 19 = .ok (.goto (-17), 3) := by decide +kernel
theorem d_M_unreach_22 : decode b_M_unreach 22 = .ok (.return_, 1) := by decide +kernel
theorem d_M_lowest_0 : decode b_M_lowest 0 = .ok (.iconst 1, 1) := by decide +kernel
theorem d_M_lowest_1 : decode b_M_lowest 1 = .ok (.istore_n 2, 1) := by decide +kernel
theorem d_M_lowest_2 : decode b_M_lowest 2 = .ok (.iload_n 1, 1) := by decide +kernel
theorem d_M_lowest_3 : decode b_M_lowest 3 = .ok (.istore_n 3, 1) := by decide +kernel
theorem d_M_lowest_4 : decode b_M_lowest 4 = .ok (.aload_n 0, 1) := by decide +kernel
theorem d_M_lowest_5 : decode b_M_lowest 5 = .ok (.getfield 32, 3) := by decide +kernel
theorem d_M_lowest_8 : decode b_M_lowest 8 = .ok (.iconst 0, 1) := by decide +kernel
theorem d_M_lowest_9 : decode b_M_lowest 9 = .ok (.iload_n 1, 1) := by decide +kernel
theorem d_M_lowest_10 : decode b_M_lowest 10 = .ok (.iastore, 1) := by decide +kernel
theorem d_M_lowest_11 : decode b_M_lowest 11 = .ok (.aload_n 0, 1) := by decide +kernel
theorem d_M_lowest_12 : decode b_M_lowest 12 = .ok (.getfield 29, 3) := by decide +kernel
theorem d_M_lowest_15 : decode b_M_lowest 15 = .ok (.iload_n 1, 1) := by decide +kernel
theorem d_M_lowest_16 : decode b_M_lowest 16 = .ok (.iconst 1, 1) := by decide +kernel
theorem d_M_lowest_17 : decode b_M_lowest 17 = .ok (.bastore, 1) := by decide +kernel
theorem d_M_lowest_18 : decode b_M_lowest 18 = .ok (.iconst 0, 1) := by decide +kernel
theorem d_M_lowest_19 : decode b_M_lowest 19 = .ok (.istore 4, 2) := by decide +kernel
theorem d_M_lowest_21 : decode b_M_lowest 21 = .ok (.iload 4, 2) := by decide +kernel
theorem d_M_lowest_23 : decode b_M_lowest 23 = .ok (.iload_n 2, 1) := by decide +kernel
theorem d_M_lowest_24 : decode b_M_lowest 24 = .ok (.if_icmp .ge 97, 3) := by decide +kernel
theorem d_M_lowest_27 : decode b_M_lowest 27 = .ok (.iconst 0, 1) := by decide +kernel
theorem d_M_lowest_28 : decode b_M_lowest 28 = .ok (.istore 5, 2) := by decide +kernel
theorem d_M_lowest_30 : decode b_M_lowest 30 = .ok (.iload 5, 2) := by decide +kernel
theorem d_M_lowest_32 : decode b_M_lowest 32 = .ok (.aload_n 0, 1) := by decide +kernel
theorem d_M_lowest_33 : decode b_M_lowest 33 = .ok (.getfield 52, 3) := by decide +kernel
theorem d_M_lowest_36 : decode b_M_lowest 36 = .ok (.if_icmp .ge 79, 3) := by decide +kernel
theorem d_M_lowest_39 : decode b_M_lowest 39 = .ok (.aload_n 0, 1) := by decide +kernel
theorem d_M_lowest_40 : decode b_M_lowest 40 = .ok (.getfield 23, 3) := by decide +kernel
theorem d_M_lowest_43 : decode b_M_lowest 43 = .ok (.iload 5, 2) := by decide +kernel
theorem d_M_lowest_45 : decode b_M_lowest 45 = .ok (.iaload, 1) := by decide +kernel
theorem d_M_lowest_46 : decode b_M_lowest 46 = .ok (.istore 6, 2) := by decide +kernel
theorem d_M_lowest_48 : decode b_M_lowest 48 = .ok (.aload_n 0, 1) := by decide +kernel
theorem d_M_lowest_49 : decode b_M_lowest 49 = .ok (.getfield 29, 3) := by decide +kernel
theorem d_M_lowest_52 : decode b_M_lowest 52 = .ok (.iload 6, 2) := by decide +kernel
theorem d_M_lowest_54 : decode b_M_lowest 54 = .ok (.baload, 1) := by decide +kernel
theorem d_M_lowest_55 : decode b_M_lowest 55 = .ok (.ifCond .ne 54, 3) := by decide +kernel
theorem d_M_lowest_58 : decode b_M_lowest 58 = .ok (.aload_n 0, 1) := by decide +kernel
theorem d_M_lowest_59 : decode b_M_lowest 59 = .ok (.aload_n 0, 1) := by decide +kernel
theorem d_M_lowest_60 : decode b_M_lowest 60 = .ok (.getfield 32, 3) := by decide +kernel
theorem d_M_lowest_63 : decode b_M_lowest 63 = .ok (.iload 4, 2) := by decide +kernel
theorem d_M_lowest_65 : decode b_M_lowest 65 = .ok (.iaload, 1) := by decide +kernel
theorem d_M_lowest_66 : decode b_M_lowest 66 = .ok (.iload 6, 2) := by decide +kernel
theorem d_M_lowest_68 : decode b_M_lowest 68 = .ok (.invokevirtual 88, 3) := by decide +kernel
theorem d_M_lowest_71 : decode b_M_lowest 71 = .ok (.ifCond .ne 6, 3) := by decide +kernel
theorem d_M_lowest_74 : decode b_M_lowest 74 = .ok (.goto 35, 3) := by decide +kernel
theorem d_M_lowest_77 : decode b_M_lowest 77 = .ok (.aload_n 0, 1) := by decide +kernel
theorem d_M_lowest_78 : decode b_M_lowest 78 = .ok (.getfield 29, 3) := by decide +kernel
theorem d_M_lowest_81 : decode b_M_lowest 81 = .ok (.iload 6, 2) := by decide +kernel
theorem d_M_lowest_83 : decode b_M_lowest 83 = .ok (.iconst 1, 1) := by decide +kernel
theorem d_M_lowest_84 : decode b_M_lowest 84 = .ok (.bastore, 1) := by decide +kernel
theorem d_M_lowest_85 : decode b_M_lowest 85 = .ok (.aload_n 0, 1) := by decide +kernel
theorem d_M_lowest_86 : decode b_M_lowest 86 = .ok (.getfield 32, 3) := by decide +kernel
theorem d_M_lowest_89 : decode b_M_lowest 89 = .ok (.iload_n 2, 1) := by decide +kernel
theorem d_M_lowest_90 : decode b_M_lowest 90 = .ok (.iload 6, 2) := by decide +kernel
theorem d_M_lowest_92 : decode b_M_lowest 92 = .ok (.iastore, 1) := by decide +kernel
theorem d_M_lowest_93 : decode b_M_lowest 93 = .ok (.iinc 2 1, 3) := by decide +kernel
theorem d_M_lowest_96 : decode b_M_lowest 96 = .ok (.iload 6, 2) := by decide +kernel
theorem d_M_lowest_98 : decode b_M_lowest 98 = .ok (.iload_n 3, 1) := by decide +kernel
theorem d_M_lowest_99 : decode b_M_lowest 99 = .ok (.if_icmp .ge 8, 3) := by decide +kernel
theorem d_M_lowest_102 : decode b_M_lowest 102 = .ok (.iload 6, 2) := by decide +kernel
theorem d_M_lowest_104 : decode b_M_lowest 104 = .ok (.goto 4, 3) := by decide +kernel
theorem d_M_lowest_107 : decode b_M_lowest 107 = .ok (.iload_n 3, 1) := by decide +kernel
theorem d_M_lowest_108 : decode b_M_lowest 108 = .ok (.istore_n 3, 1) := by decide +kernel
theorem d_M_lowest_109 : decode b_M_lowest 109 = .ok (.iinc 5 1, 3) := by decide +kernel
theorem d_M_lowest_112 : decode b_M_lowest 112 = .ok (.goto (-82), 3) := by decide +kernel
theorem d_M_lowest_115 : decode b_M_lowest 115 = .ok (.iinc 4 1, 3) := by decide +kernel
theorem d_M_lowest_118 : decode b_M_lowest 118 = .ok (.goto (-97), 3) := by decide +kernel
theorem d_M_lowest_121 : decode b_M_lowest 121 = .ok (.iload_n 3, 1) := by decide +kernel
theorem d_M_lowest_122 : decode b_M_lowest 122 = .ok (.ireturn, 1) := by decide +kernel
theorem d_M_touch_0 : decode b_M_touch 0 = .ok (.iload_n 1, 1) := by decide +kernel
theorem d_M_touch_1 : decode b_M_touch 1 = .ok (.bipush 6, 2) := by decide +kernel
theorem d_M_touch_3 : decode b_M_touch 3 = .ok (.idiv, 1) := by decide +kernel
theorem d_M_touch_4 : decode b_M_touch 4 = .ok (.iload_n 2, 1) := by decide +kernel
theorem d_M_touch_5 : decode b_M_touch 5 = .ok (.bipush 6, 2) := by decide +kernel
theorem d_M_touch_7 : decode b_M_touch 7 = .ok (.idiv, 1) := by decide +kernel
theorem d_M_touch_8 : decode b_M_touch 8 = .ok (.if_icmp .ne 91, 3) := by decide +kernel
theorem d_M_touch_11 : decode b_M_touch 11 = .ok (.iload_n 1, 1) := by decide +kernel
theorem d_M_touch_12 : decode b_M_touch 12 = .ok (.bipush 6, 2) := by decide +kernel
theorem d_M_touch_14 : decode b_M_touch 14 = .ok (.irem, 1) := by decide +kernel
theorem d_M_touch_15 : decode b_M_touch 15 = .ok (.iload_n 2, 1) := by decide +kernel
theorem d_M_touch_16 : decode b_M_touch 16 = .ok (.bipush 6, 2) := by decide +kernel
theorem d_M_touch_18 : decode b_M_touch 18 = .ok (.irem, 1) := by decide +kernel
theorem d_M_touch_19 : decode b_M_touch 19 = .ok (.iadd, 1) := by decide +kernel
theorem d_M_touch_20 : decode b_M_touch 20 = .ok (.bipush 6, 2) := by decide +kernel
theorem d_M_touch_22 : decode b_M_touch 22 = .ok (.if_icmp .ne 30, 3) := by decide +kernel
theorem d_M_touch_25 : decode b_M_touch 25 = .ok (.iload_n 1, 1) := by decide +kernel
theorem d_M_touch_26 : decode b_M_touch 26 = .ok (.bipush 6, 2) := by decide +kernel
theorem d_M_touch_28 : decode b_M_touch 28 = .ok (.irem, 1) := by decide +kernel
theorem d_M_touch_29 : decode b_M_touch 29 = .ok (.iload_n 2, 1) := by decide +kernel
theorem d_M_touch_30 : decode b_M_touch 30 = .ok (.bipush 6, 2) := by decide +kernel
theorem d_M_touch_32 : decode b_M_touch 32 = .ok (.irem, 1) := by decide +kernel
theorem d_M_touch_33 : decode b_M_touch 33 = .ok (.if_icmp .eq 19, 3) := by decide +kernel
theorem d_M_touch_36 : decode b_M_touch 36 = .ok (.iload_n 1, 1) := by decide +kernel
theorem d_M_touch_37 : decode b_M_touch 37 = .ok (.bipush 6, 2) := by decide +kernel
theorem d_M_touch_39 : decode b_M_touch 39 = .ok (.irem, 1) := by decide +kernel
theorem d_M_touch_40 : decode b_M_touch 40 = .ok (.iconst 2, 1) := by decide +kernel
theorem d_M_touch_41 : decode b_M_touch 41 = .ok (.if_icmp .eq 56, 3) := by decide +kernel
theorem d_M_touch_44 : decode b_M_touch 44 = .ok (.iload_n 1, 1) := by decide +kernel
theorem d_M_touch_45 : decode b_M_touch 45 = .ok (.bipush 6, 2) := by decide +kernel
theorem d_M_touch_47 : decode b_M_touch 47 = .ok (.irem, 1) := by decide +kernel
theorem d_M_touch_48 : decode b_M_touch 48 = .ok (.iconst 4, 1) := by decide +kernel
theorem d_M_touch_49 : decode b_M_touch 49 = .ok (.if_icmp .eq 48, 3) := by decide +kernel
theorem d_M_touch_52 : decode b_M_touch 52 = .ok (.iload_n 1, 1) := by decide +kernel
theorem d_M_touch_53 : decode b_M_touch 53 = .ok (.bipush 6, 2) := by decide +kernel
theorem d_M_touch_55 : decode b_M_touch 55 = .ok (.irem, 1) := by decide +kernel
theorem d_M_touch_56 : decode b_M_touch 56 = .ok (.iload_n 2, 1) := by decide +kernel
theorem d_M_touch_57 : decode b_M_touch 57 = .ok (.bipush 6, 2) := by decide +kernel
theorem d_M_touch_59 : decode b_M_touch 59 = .ok (.irem, 1) := by decide +kernel
theorem d_M_touch_60 : decode b_M_touch 60 = .ok (.iadd, 1) := by decide +kernel
theorem d_M_touch_61 : decode b_M_touch 61 = .ok (.bipush 8, 2) := by decide +kernel
theorem d_M_touch_63 : decode b_M_touch 63 = .ok (.if_icmp .ne 30, 3) := by decide +kernel
theorem d_M_touch_66 : decode b_M_touch 66 = .ok (.iload_n 1, 1) := by decide +kernel
theorem d_M_touch_67 : decode b_M_touch 67 = .ok (.bipush 6, 2) := by decide +kernel
theorem d_M_touch_69 : decode b_M_touch 69 = .ok (.irem, 1) := by decide +kernel
theorem d_M_touch_70 : decode b_M_touch 70 = .ok (.iload_n 2, 1) := by decide +kernel
theorem d_M_touch_71 : decode b_M_touch 71 = .ok (.bipush 6, 2) := by decide +kernel
theorem d_M_touch_73 : decode b_M_touch 73 = .ok (.irem, 1) := by decide +kernel
theorem d_M_touch_74 : decode b_M_touch 74 = .ok (.if_icmp .eq 19, 3) := by decide +kernel
theorem d_M_touch_77 : decode b_M_touch 77 = .ok (.iload_n 1, 1) := by decide +kernel
theorem d_M_touch_78 : decode b_M_touch 78 = .ok (.bipush 6, 2) := by decide +kernel
theorem d_M_touch_80 : decode b_M_touch 80 = .ok (.irem, 1) := by decide +kernel
theorem d_M_touch_81 : decode b_M_touch 81 = .ok (.iconst 3, 1) := by decide +kernel
theorem d_M_touch_82 : decode b_M_touch 82 = .ok (.if_icmp .eq 15, 3) := by decide +kernel
theorem d_M_touch_85 : decode b_M_touch 85 = .ok (.iload_n 1, 1) := by decide +kernel
theorem d_M_touch_86 : decode b_M_touch 86 = .ok (.bipush 6, 2) := by decide +kernel
theorem d_M_touch_88 : decode b_M_touch 88 = .ok (.irem, 1) := by decide +kernel
theorem d_M_touch_89 : decode b_M_touch 89 = .ok (.iconst 5, 1) := by decide +kernel
theorem d_M_touch_90 : decode b_M_touch 90 = .ok (.if_icmp .eq 7, 3) := by decide +kernel
theorem d_M_touch_93 : decode b_M_touch 93 = .ok (.iconst 1, 1) := by decide +kernel
theorem d_M_touch_94 : decode b_M_touch 94 = .ok (.goto 4, 3) := by decide +kernel
theorem d_M_touch_97 : decode b_M_touch 97 = .ok (.iconst 0, 1) := by decide +kernel
theorem d_M_touch_98 : decode b_M_touch 98 = .ok (.ireturn, 1) := by decide +kernel
theorem d_M_touch_99 : decode b_M_touch 99 = .ok (.iconst 0, 1) := by decide +kernel
theorem d_M_touch_100 : decode b_M_touch 100 = .ok (.istore_n 3, 1) := by decide +kernel
theorem d_M_touch_101 : decode b_M_touch 101 = .ok (.iload_n 3, 1) := by decide +kernel
theorem d_M_touch_102 : decode b_M_touch 102 = .ok (.iconst 4, 1) := by decide +kernel
theorem d_M_touch_103 : decode b_M_touch 103 = .ok (.if_icmp .ge 72, 3) := by decide +kernel
theorem d_M_touch_106 : decode b_M_touch 106 = .ok (.aload_n 0, 1) := by decide +kernel
theorem d_M_touch_107 : decode b_M_touch 107 = .ok (.iload_n 1, 1) := by decide +kernel
theorem d_M_touch_108 : decode b_M_touch 108 = .ok (.bipush 6, 2) := by decide +kernel
theorem d_M_touch_110 : decode b_M_touch 110 = .ok (.idiv, 1) := by decide +kernel
theorem d_M_touch_111 : decode b_M_touch 111 = .ok (.iload_n 3, 1) := by decide +kernel
theorem d_M_touch_112 : decode b_M_touch 112 = .ok (.invokevirtual 65, 3) := by decide +kernel
theorem d_M_touch_115 : decode b_M_touch 115 = .ok (.iload_n 2, 1) := by decide +kernel
theorem d_M_touch_116 : decode b_M_touch 116 = .ok (.bipush 6, 2) := by decide +kernel
theorem d_M_touch_118 : decode b_M_touch 118 = .ok (.idiv, 1) := by decide +kernel
theorem d_M_touch_119 : decode b_M_touch 119 = .ok (.if_icmp .eq 6, 3) := by decide +kernel
theorem d_M_touch_122 : decode b_M_touch 122 = .ok (.goto 47, 3) := by decide +kernel
theorem d_M_touch_125 : decode b_M_touch 125 = .ok (.aload_n 0, 1) := by decide +kernel
theorem d_M_touch_126 : decode b_M_touch 126 = .ok (.iload_n 1, 1) := by decide +kernel
theorem d_M_touch_127 : decode b_M_touch 127 = .ok (.iload_n 3, 1) := by decide +kernel
theorem d_M_touch_128 : decode b_M_touch 128 = .ok (.invokevirtual 81, 3) := by decide +kernel
theorem d_M_touch_131 : decode b_M_touch 131 = .ok (.ifCond .eq 38, 3) := by decide +kernel
theorem d_M_touch_134 : decode b_M_touch 134 = .ok (.aload_n 0, 1) := by decide +kernel
theorem d_M_touch_135 : decode b_M_touch 135 = .ok (.iload_n 2, 1) := by decide +kernel
theorem d_M_touch_136 : decode b_M_touch 136 = .ok (.iload_n 3, 1) := by decide +kernel
theorem d_M_touch_137 : decode b_M_touch 137 = .ok (.invokestatic 72, 3) := by decide +kernel
theorem d_M_touch_140 : decode b_M_touch 140 = .ok (.invokevirtual 81, 3) := by decide +kernel
theorem d_M_touch_143 : decode b_M_touch 143 = .ok (.ifCond .eq 26, 3) := by decide +kernel
theorem d_M_touch_146 : decode b_M_touch 146 = .ok (.aload_n 0, 1) := by decide +kernel
theorem d_M_touch_147 : decode b_M_touch 147 = .ok (.iload_n 1, 1) := by decide +kernel
theorem d_M_touch_148 : decode b_M_touch 148 = .ok (.iload_n 3, 1) := by decide +kernel
theorem d_M_touch_149 : decode b_M_touch 149 = .ok (.invokevirtual 85, 3) := by decide +kernel
theorem d_M_touch_152 : decode b_M_touch 152 = .ok (.ifCond .ne 17, 3) := by decide +kernel
theorem d_M_touch_155 : decode b_M_touch 155 = .ok (.aload_n 0, 1) := by decide +kernel
theorem d_M_touch_156 : decode b_M_touch 156 = .ok (.iload_n 2, 1) := by decide +kernel
theorem d_M_touch_157 : decode b_M_touch 157 = .ok (.iload_n 3, 1) := by decide +kernel
theorem d_M_touch_158 : decode b_M_touch 158 = .ok (.invokestatic 72, 3) := by decide +kernel
theorem d_M_touch_161 : decode b_M_touch 161 = .ok (.invokevirtual 85, 3) := by decide +kernel
theorem d_M_touch_164 : decode b_M_touch 164 = .ok (.ifCond .ne 5, 3) := by decide +kernel
theorem d_M_touch_167 : decode b_M_touch 167 = .ok (.iconst 1, 1) := by decide +kernel
theorem d_M_touch_168 : decode b_M_touch 168 = .ok (.ireturn, 1) := by decide +kernel
theorem d_M_touch_169 : decode b_M_touch 169 = .ok (.iinc 3 1, 3) := by decide +kernel
theorem d_M_touch_172 : decode b_M_touch 172 = .ok (.goto (-71), 3) := by decide +kernel
theorem d_M_touch_175 : decode b_M_touch 175 = .ok (.iconst 0, 1) := by decide +kernel
theorem d_M_touch_176 : decode b_M_touch 176 = .ok (.ireturn, 1) := by decide +kernel
theorem d_M_ends_0 : decode b_M_ends 0 = .ok (.aload_n 0, 1) := by decide +kernel
theorem d_M_ends_1 : decode b_M_ends 1 = .ok (.getfield 7, 3) := by decide +kernel
theorem d_M_ends_4 : decode b_M_ends 4 = .ok (.iconst 2, 1) := by decide +kernel
theorem d_M_ends_5 : decode b_M_ends 5 = .ok (.iload_n 1, 1) := by decide +kernel
theorem d_M_ends_6 : decode b_M_ends 6 = .ok (.bipush 6, 2) := by decide +kernel
theorem d_M_ends_8 : decode b_M_ends 8 = .ok (.irem, 1) := by decide +kernel
theorem d_M_ends_9 : decode b_M_ends 9 = .ok (.imul, 1) := by decide +kernel
theorem d_M_ends_10 : decode b_M_ends 10 = .ok (.iaload, 1) := by decide +kernel
theorem d_M_ends_11 : decode b_M_ends 11 = .ok (.iload_n 2, 1) := by decide +kernel
theorem d_M_ends_12 : decode b_M_ends 12 = .ok (.if_icmp .eq 20, 3) := by decide +kernel
theorem d_M_ends_15 : decode b_M_ends 15 = .ok (.aload_n 0, 1) := by decide +kernel
theorem d_M_ends_16 : decode b_M_ends 16 = .ok (.getfield 7, 3) := by decide +kernel
theorem d_M_ends_19 : decode b_M_ends 19 = .ok (.iconst 2, 1) := by decide +kernel
theorem d_M_ends_20 : decode b_M_ends 20 = .ok (.iload_n 1, 1) := by decide +kernel
theorem d_M_ends_21 : decode b_M_ends 21 = .ok (.bipush 6, 2) := by decide +kernel
theorem d_M_ends_23 : decode b_M_ends 23 = .ok (.irem, 1) := by decide +kernel
theorem d_M_ends_24 : decode b_M_ends 24 = .ok (.imul, 1) := by decide +kernel
theorem d_M_ends_25 : decode b_M_ends 25 = .ok (.iconst 1, 1) := by decide +kernel
theorem d_M_ends_26 : decode b_M_ends 26 = .ok (.iadd, 1) := by decide +kernel
theorem d_M_ends_27 : decode b_M_ends 27 = .ok (.iaload, 1) := by decide +kernel
theorem d_M_ends_28 : decode b_M_ends 28 = .ok (.iload_n 2, 1) := by decide +kernel
theorem d_M_ends_29 : decode b_M_ends 29 = .ok (.if_icmp .ne 7, 3) := by decide +kernel
theorem d_M_ends_32 : decode b_M_ends 32 = .ok (.iconst 1, 1) := by decide +kernel
theorem d_M_ends_33 : decode b_M_ends 33 = .ok (.goto 4, 3) := by decide +kernel
theorem d_M_ends_36 : decode b_M_ends 36 = .ok (.iconst 0, 1) := by decide +kernel
theorem d_M_ends_37 : decode b_M_ends 37 = .ok (.ireturn, 1) := by decide +kernel
theorem d_M_guards_0 : decode b_M_guards 0 = .ok (.aload_n 0, 1) := by decide +kernel
theorem d_M_guards_1 : decode b_M_guards 1 = .ok (.getfield 17, 3) := by decide +kernel
theorem d_M_guards_4 : decode b_M_guards 4 = .ok (.iload_n 1, 1) := by decide +kernel
theorem d_M_guards_5 : decode b_M_guards 5 = .ok (.iaload, 1) := by decide +kernel
theorem d_M_guards_6 : decode b_M_guards 6 = .ok (.ifCond .le 20, 3) := by decide +kernel
theorem d_M_guards_9 : decode b_M_guards 9 = .ok (.aload_n 0, 1) := by decide +kernel
theorem d_M_guards_10 : decode b_M_guards 10 = .ok (.aload_n 0, 1) := by decide +kernel
theorem d_M_guards_11 : decode b_M_guards 11 = .ok (.iload_n 1, 1) := by decide +kernel
theorem d_M_guards_12 : decode b_M_guards 12 = .ok (.invokevirtual 58, 3) := by decide +kernel
theorem d_M_guards_15 : decode b_M_guards 15 = .ok (.invokevirtual 62, 3) := by decide +kernel
theorem d_M_guards_18 : decode b_M_guards 18 = .ok (.iload_n 2, 1) := by decide +kernel
theorem d_M_guards_19 : decode b_M_guards 19 = .ok (.if_icmp .ne 7, 3) := by decide +kernel
theorem d_M_guards_22 : decode b_M_guards 22 = .ok (.iconst 1, 1) := by decide +kernel
theorem d_M_guards_23 : decode b_M_guards 23 = .ok (.goto 4, 3) := by decide +kernel
theorem d_M_guards_26 : decode b_M_guards 26 = .ok (.iconst 0, 1) := by decide +kernel
theorem d_M_guards_27 : decode b_M_guards 27 = .ok (.ireturn, 1) := by decide +kernel
theorem d_M_sign_0 : decode b_M_sign 0 = .ok (.aload_n 0, 1) := by decide +kernel
theorem d_M_sign_1 : decode b_M_sign 1 = .ok (.iconst 0, 1) := by decide +kernel
theorem d_M_sign_2 : decode b_M_sign 2 = .ok (.putfield 42, 3) := by decide +kernel
theorem d_M_sign_5 : decode b_M_sign 5 = .ok (.iconst (-1), 1) := by decide +kernel
theorem d_M_sign_6 : decode b_M_sign 6 = .ok (.istore_n 2, 1) := by decide +kernel
theorem d_M_sign_7 : decode b_M_sign 7 = .ok (.iconst 0, 1) := by decide +kernel
theorem d_M_sign_8 : decode b_M_sign 8 = .ok (.istore_n 3, 1) := by decide +kernel
theorem d_M_sign_9 : decode b_M_sign 9 = .ok (.iload_n 3, 1) := by decide +kernel
theorem d_M_sign_10 : decode b_M_sign 10 = .ok (.aload_n 0, 1) := by decide +kernel
theorem d_M_sign_11 : decode b_M_sign 11 = .ok (.getfield 52, 3) := by decide +kernel
theorem d_M_sign_14 : decode b_M_sign 14 = .ok (.if_icmp .ge 61, 3) := by decide +kernel
theorem d_M_sign_17 : decode b_M_sign 17 = .ok (.iload_n 1, 1) := by decide +kernel
theorem d_M_sign_18 : decode b_M_sign 18 = .ok (.invokestatic 100, 3) := by decide +kernel
theorem d_M_sign_21 : decode b_M_sign 21 = .ok (.ifCond .eq 54, 3) := by decide +kernel
theorem d_M_sign_24 : decode b_M_sign 24 = .ok (.aload_n 0, 1) := by decide +kernel
theorem d_M_sign_25 : decode b_M_sign 25 = .ok (.getfield 20, 3) := by decide +kernel
theorem d_M_sign_28 : decode b_M_sign 28 = .ok (.aload_n 0, 1) := by decide +kernel
theorem d_M_sign_29 : decode b_M_sign 29 = .ok (.getfield 23, 3) := by decide +kernel
theorem d_M_sign_32 : decode b_M_sign 32 = .ok (.iload_n 3, 1) := by decide +kernel
theorem d_M_sign_33 : decode b_M_sign 33 = .ok (.iaload, 1) := by decide +kernel
theorem d_M_sign_34 : decode b_M_sign 34 = .ok (.iaload, 1) := by decide +kernel
theorem d_M_sign_35 : decode b_M_sign 35 = .ok (.iload_n 1, 1) := by decide +kernel
theorem d_M_sign_36 : decode b_M_sign 36 = .ok (.iconst 1, 1) := by decide +kernel
theorem d_M_sign_37 : decode b_M_sign 37 = .ok (.iadd, 1) := by decide +kernel
theorem d_M_sign_38 : decode b_M_sign 38 = .ok (.if_icmp .ne 31, 3) := by decide +kernel
theorem d_M_sign_41 : decode b_M_sign 41 = .ok (.iload_n 2, 1) := by decide +kernel
theorem d_M_sign_42 : decode b_M_sign 42 = .ok (.iconst (-1), 1) := by decide +kernel
theorem d_M_sign_43 : decode b_M_sign 43 = .ok (.if_icmp .eq 16, 3) := by decide +kernel
theorem d_M_sign_46 : decode b_M_sign 46 = .ok (.aload_n 0, 1) := by decide +kernel
theorem d_M_sign_47 : decode b_M_sign 47 = .ok (.getfield 23, 3) := by decide +kernel
theorem d_M_sign_50 : decode b_M_sign 50 = .ok (.iload_n 3, 1) := by decide +kernel
theorem d_M_sign_51 : decode b_M_sign 51 = .ok (.iaload, 1) := by decide +kernel
theorem d_M_sign_52 : decode b_M_sign 52 = .ok (.bipush 6, 2) := by decide +kernel
theorem d_M_sign_54 : decode b_M_sign 54 = .ok (.idiv, 1) := by decide +kernel
theorem d_M_sign_55 : decode b_M_sign 55 = .ok (.iload_n 2, 1) := by decide +kernel
theorem d_M_sign_56 : decode b_M_sign 56 = .ok (.if_icmp .ge 13, 3) := by decide +kernel
theorem d_M_sign_59 : decode b_M_sign 59 = .ok (.aload_n 0, 1) := by decide +kernel
theorem d_M_sign_60 : decode b_M_sign 60 = .ok (.getfield 23, 3) := by decide +kernel
theorem d_M_sign_63 : decode b_M_sign 63 = .ok (.iload_n 3, 1) := by decide +kernel
theorem d_M_sign_64 : decode b_M_sign 64 = .ok (.iaload, 1) := by decide +kernel
theorem d_M_sign_65 : decode b_M_sign 65 = .ok (.bipush 6, 2) := by decide +kernel
theorem d_M_sign_67 : decode b_M_sign 67 = .ok (.idiv, 1) := by decide +kernel
theorem d_M_sign_68 : decode b_M_sign 68 = .ok (.istore_n 2, 1) := by decide +kernel
theorem d_M_sign_69 : decode b_M_sign 69 = .ok (.iinc 3 1, 3) := by decide +kernel
theorem d_M_sign_72 : decode b_M_sign 72 = .ok (.goto (-63), 3) := by decide +kernel
theorem d_M_sign_75 : decode b_M_sign 75 = .ok (.iload_n 2, 1) := by decide +kernel
theorem d_M_sign_76 : decode b_M_sign 76 = .ok (.ireturn, 1) := by decide +kernel
theorem d_M_isStation_0 : decode b_M_isStation 0 = .ok (.iload_n 0, 1) := by decide +kernel
theorem d_M_isStation_1 : decode b_M_isStation 1 = .ok (.ifCond .lt 13, 3) := by decide +kernel
theorem d_M_isStation_4 : decode b_M_isStation 4 = .ok (.iload_n 0, 1) := by decide +kernel
theorem d_M_isStation_5 : decode b_M_isStation 5 = .ok (.bipush 8, 2) := by decide +kernel
theorem d_M_isStation_7 : decode b_M_isStation 7 = .ok (.if_icmp .ge 7, 3) := by decide +kernel
theorem d_M_isStation_10 : decode b_M_isStation 10 = .ok (.iconst 1, 1) := by decide +kernel
theorem d_M_isStation_11 : decode b_M_isStation 11 = .ok (.goto 4, 3) := by decide +kernel
theorem d_M_isStation_14 : decode b_M_isStation 14 = .ok (.iconst 0, 1) := by decide +kernel
theorem d_M_isStation_15 : decode b_M_isStation 15 = .ok (.ireturn, 1) := by decide +kernel
theorem d_M_isTarget_0 : decode b_M_isTarget 0 = .ok (.aload_n 0, 1) := by decide +kernel
theorem d_M_isTarget_1 : decode b_M_isTarget 1 = .ok (.iconst 0, 1) := by decide +kernel
theorem d_M_isTarget_2 : decode b_M_isTarget 2 = .ok (.putfield 42, 3) := by decide +kernel
theorem d_M_isTarget_5 : decode b_M_isTarget 5 = .ok (.aload_n 0, 1) := by decide +kernel
theorem d_M_isTarget_6 : decode b_M_isTarget 6 = .ok (.iload_n 1, 1) := by decide +kernel
theorem d_M_isTarget_7 : decode b_M_isTarget 7 = .ok (.iload_n 2, 1) := by decide +kernel
theorem d_M_isTarget_8 : decode b_M_isTarget 8 = .ok (.invokevirtual 103, 3) := by decide +kernel
theorem d_M_isTarget_11 : decode b_M_isTarget 11 = .ok (.ireturn, 1) := by decide +kernel
theorem d_M_target_0 : decode b_M_target 0 = .ok (.aload_n 0, 1) := by decide +kernel
theorem d_M_target_1 : decode b_M_target 1 = .ok (.iload_n 1, 1) := by decide +kernel
theorem d_M_target_2 : decode b_M_target 2 = .ok (.invokevirtual 75, 3) := by decide +kernel
theorem d_M_target_5 : decode b_M_target 5 = .ok (.ifCond .eq 24, 3) := by decide +kernel
theorem d_M_target_8 : decode b_M_target 8 = .ok (.iload_n 2, 1) := by decide +kernel
theorem d_M_target_9 : decode b_M_target 9 = .ok (.invokestatic 100, 3) := by decide +kernel
theorem d_M_target_12 : decode b_M_target 12 = .ok (.ifCond .eq 17, 3) := by decide +kernel
theorem d_M_target_15 : decode b_M_target 15 = .ok (.aload_n 0, 1) := by decide +kernel
theorem d_M_target_16 : decode b_M_target 16 = .ok (.getfield 20, 3) := by decide +kernel
theorem d_M_target_19 : decode b_M_target 19 = .ok (.iload_n 1, 1) := by decide +kernel
theorem d_M_target_20 : decode b_M_target 20 = .ok (.iconst 2, 1) := by decide +kernel
theorem d_M_target_21 : decode b_M_target 21 = .ok (.idiv, 1) := by decide +kernel
theorem d_M_target_22 : decode b_M_target 22 = .ok (.iaload, 1) := by decide +kernel
theorem d_M_target_23 : decode b_M_target 23 = .ok (.iload_n 2, 1) := by decide +kernel
theorem d_M_target_24 : decode b_M_target 24 = .ok (.iconst 1, 1) := by decide +kernel
theorem d_M_target_25 : decode b_M_target 25 = .ok (.iadd, 1) := by decide +kernel
theorem d_M_target_26 : decode b_M_target 26 = .ok (.if_icmp .eq 5, 3) := by decide +kernel
theorem d_M_target_29 : decode b_M_target 29 = .ok (.iconst 0, 1) := by decide +kernel
theorem d_M_target_30 : decode b_M_target 30 = .ok (.ireturn, 1) := by decide +kernel
theorem d_M_target_31 : decode b_M_target 31 = .ok (.iconst 0, 1) := by decide +kernel
theorem d_M_target_32 : decode b_M_target 32 = .ok (.istore_n 3, 1) := by decide +kernel
theorem d_M_target_33 : decode b_M_target 33 = .ok (.iload_n 3, 1) := by decide +kernel
theorem d_M_target_34 : decode b_M_target 34 = .ok (.bipush 6, 2) := by decide +kernel
theorem d_M_target_36 : decode b_M_target 36 = .ok (.if_icmp .ge 40, 3) := by decide +kernel
theorem d_M_target_39 : decode b_M_target 39 = .ok (.aload_n 0, 1) := by decide +kernel
theorem d_M_target_40 : decode b_M_target 40 = .ok (.iload_n 1, 1) := by decide +kernel
theorem d_M_target_41 : decode b_M_target 41 = .ok (.iload_n 3, 1) := by decide +kernel
theorem d_M_target_42 : decode b_M_target 42 = .ok (.invokevirtual 78, 3) := by decide +kernel
theorem d_M_target_45 : decode b_M_target 45 = .ok (.istore 4, 2) := by decide +kernel
theorem d_M_target_47 : decode b_M_target 47 = .ok (.iload 4, 2) := by decide +kernel
theorem d_M_target_49 : decode b_M_target 49 = .ok (.iconst (-1), 1) := by decide +kernel
theorem d_M_target_50 : decode b_M_target 50 = .ok (.if_icmp .eq 20, 3) := by decide +kernel
theorem d_M_target_53 : decode b_M_target 53 = .ok (.aload_n 0, 1) := by decide +kernel
theorem d_M_target_54 : decode b_M_target 54 = .ok (.getfield 20, 3) := by decide +kernel
theorem d_M_target_57 : decode b_M_target 57 = .ok (.iload 4, 2) := by decide +kernel
theorem d_M_target_59 : decode b_M_target 59 = .ok (.iconst 2, 1) := by decide +kernel
theorem d_M_target_60 : decode b_M_target 60 = .ok (.idiv, 1) := by decide +kernel
theorem d_M_target_61 : decode b_M_target 61 = .ok (.iaload, 1) := by decide +kernel
theorem d_M_target_62 : decode b_M_target 62 = .ok (.iload_n 2, 1) := by decide +kernel
theorem d_M_target_63 : decode b_M_target 63 = .ok (.iconst 1, 1) := by decide +kernel
theorem d_M_target_64 : decode b_M_target 64 = .ok (.iadd, 1) := by decide +kernel
theorem d_M_target_65 : decode b_M_target 65 = .ok (.if_icmp .ne 5, 3) := by decide +kernel
theorem d_M_target_68 : decode b_M_target 68 = .ok (.iconst 0, 1) := by decide +kernel
theorem d_M_target_69 : decode b_M_target 69 = .ok (.ireturn, 1) := by decide +kernel
theorem d_M_target_70 : decode b_M_target 70 = .ok (.iinc 3 1, 3) := by decide +kernel
theorem d_M_target_73 : decode b_M_target 73 = .ok (.goto (-40), 3) := by decide +kernel
theorem d_M_target_76 : decode b_M_target 76 = .ok (.iconst 1, 1) := by decide +kernel
theorem d_M_target_77 : decode b_M_target 77 = .ok (.ireturn, 1) := by decide +kernel
theorem d_M_cost_0 : decode b_M_cost 0 = .ok (.aload_n 0, 1) := by decide +kernel
theorem d_M_cost_1 : decode b_M_cost 1 = .ok (.iconst 0, 1) := by decide +kernel
theorem d_M_cost_2 : decode b_M_cost 2 = .ok (.putfield 42, 3) := by decide +kernel
theorem d_M_cost_5 : decode b_M_cost 5 = .ok (.aload_n 0, 1) := by decide +kernel
theorem d_M_cost_6 : decode b_M_cost 6 = .ok (.iload_n 1, 1) := by decide +kernel
theorem d_M_cost_7 : decode b_M_cost 7 = .ok (.invokevirtual 75, 3) := by decide +kernel
theorem d_M_cost_10 : decode b_M_cost 10 = .ok (.ifCond .eq 10, 3) := by decide +kernel
theorem d_M_cost_13 : decode b_M_cost 13 = .ok (.iload_n 2, 1) := by decide +kernel
theorem d_M_cost_14 : decode b_M_cost 14 = .ok (.invokestatic 100, 3) := by decide +kernel
theorem d_M_cost_17 : decode b_M_cost 17 = .ok (.ifCond .ne 5, 3) := by decide +kernel
theorem d_M_cost_20 : decode b_M_cost 20 = .ok (.iconst (-1), 1) := by decide +kernel
theorem d_M_cost_21 : decode b_M_cost 21 = .ok (.ireturn, 1) := by decide +kernel
theorem d_M_cost_22 : decode b_M_cost 22 = .ok (.aload_n 0, 1) := by decide +kernel
theorem d_M_cost_23 : decode b_M_cost 23 = .ok (.iload_n 2, 1) := by decide +kernel
theorem d_M_cost_24 : decode b_M_cost 24 = .ok (.invokevirtual 113, 3) := by decide +kernel
theorem d_M_cost_27 : decode b_M_cost 27 = .ok (.aload_n 0, 1) := by decide +kernel
theorem d_M_cost_28 : decode b_M_cost 28 = .ok (.getfield 26, 3) := by decide +kernel
theorem d_M_cost_31 : decode b_M_cost 31 = .ok (.iload_n 1, 1) := by decide +kernel
theorem d_M_cost_32 : decode b_M_cost 32 = .ok (.iaload, 1) := by decide +kernel
theorem d_M_cost_33 : decode b_M_cost 33 = .ok (.ldc 106, 2) := by decide +kernel
theorem d_M_cost_35 : decode b_M_cost 35 = .ok (.if_icmp .ne 7, 3) := by decide +kernel
theorem d_M_cost_38 : decode b_M_cost 38 = .ok (.iconst (-1), 1) := by decide +kernel
theorem d_M_cost_39 : decode b_M_cost 39 = .ok (.goto 9, 3) := by decide +kernel
theorem d_M_cost_42 : decode b_M_cost 42 = .ok (.aload_n 0, 1) := by decide +kernel
theorem d_M_cost_43 : decode b_M_cost 43 = .ok (.getfield 26, 3) := by decide +kernel
theorem d_M_cost_46 : decode b_M_cost 46 = .ok (.iload_n 1, 1) := by decide +kernel
theorem d_M_cost_47 : decode b_M_cost 47 = .ok (.iaload, 1) := by decide +kernel
theorem d_M_cost_48 : decode b_M_cost 48 = .ok (.ireturn, 1) := by decide +kernel
theorem d_M_reckon_0 : decode b_M_reckon 0 = .ok (.iconst 0, 1) := by decide +kernel
theorem d_M_reckon_1 : decode b_M_reckon 1 = .ok (.istore_n 2, 1) := by decide +kernel
theorem d_M_reckon_2 : decode b_M_reckon 2 = .ok (.iload_n 2, 1) := by decide +kernel
theorem d_M_reckon_3 : decode b_M_reckon 3 = .ok (.aload_n 0, 1) := by decide +kernel
theorem d_M_reckon_4 : decode b_M_reckon 4 = .ok (.getfield 52, 3) := by decide +kernel
theorem d_M_reckon_7 : decode b_M_reckon 7 = .ok (.if_icmp .ge 61, 3) := by decide +kernel
theorem d_M_reckon_10 : decode b_M_reckon 10 = .ok (.iconst 0, 1) := by decide +kernel
theorem d_M_reckon_11 : decode b_M_reckon 11 = .ok (.istore_n 3, 1) := by decide +kernel
theorem d_M_reckon_12 : decode b_M_reckon 12 = .ok (.iload_n 3, 1) := by decide +kernel
theorem d_M_reckon_13 : decode b_M_reckon 13 = .ok (.iconst 2, 1) := by decide +kernel
theorem d_M_reckon_14 : decode b_M_reckon 14 = .ok (.if_icmp .ge 48, 3) := by decide +kernel
theorem d_M_reckon_17 : decode b_M_reckon 17 = .ok (.aload_n 0, 1) := by decide +kernel
theorem d_M_reckon_18 : decode b_M_reckon 18 = .ok (.getfield 26, 3) := by decide +kernel
theorem d_M_reckon_21 : decode b_M_reckon 21 = .ok (.iconst 2, 1) := by decide +kernel
theorem d_M_reckon_22 : decode b_M_reckon 22 = .ok (.aload_n 0, 1) := by decide +kernel
theorem d_M_reckon_23 : decode b_M_reckon 23 = .ok (.getfield 23, 3) := by decide +kernel
theorem d_M_reckon_26 : decode b_M_reckon 26 = .ok (.iload_n 2, 1) := by decide +kernel
theorem d_M_reckon_27 : decode b_M_reckon 27 = .ok (.iaload, 1) := by decide +kernel
theorem d_M_reckon_28 : decode b_M_reckon 28 = .ok (.imul, 1) := by decide +kernel
theorem d_M_reckon_29 : decode b_M_reckon 29 = .ok (.iload_n 3, 1) := by decide +kernel
theorem d_M_reckon_30 : decode b_M_reckon 30 = .ok (.iadd, 1) := by decide +kernel
theorem d_M_reckon_31 : decode b_M_reckon 31 = .ok (.aload_n 0, 1) := by decide +kernel
theorem d_M_reckon_32 : decode b_M_reckon 32 = .ok (.iconst 2, 1) := by decide +kernel
theorem d_M_reckon_33 : decode b_M_reckon 33 = .ok (.aload_n 0, 1) := by decide +kernel
theorem d_M_reckon_34 : decode b_M_reckon 34 = .ok (.getfield 23, 3) := by decide +kernel
theorem d_M_reckon_37 : decode b_M_reckon 37 = .ok (.iload_n 2, 1) := by decide +kernel
theorem d_M_reckon_38 : decode b_M_reckon 38 = .ok (.iaload, 1) := by decide +kernel
theorem d_M_reckon_39 : decode b_M_reckon 39 = .ok (.imul, 1) := by decide +kernel
theorem d_M_reckon_40 : decode b_M_reckon 40 = .ok (.iload_n 3, 1) := by decide +kernel
theorem d_M_reckon_41 : decode b_M_reckon 41 = .ok (.iadd, 1) := by decide +kernel
theorem d_M_reckon_42 : decode b_M_reckon 42 = .ok (.iload_n 1, 1) := by decide +kernel
theorem d_M_reckon_43 : decode b_M_reckon 43 = .ok (.invokevirtual 103, 3) := by decide +kernel
theorem d_M_reckon_46 : decode b_M_reckon 46 = .ok (.ifCond .eq 7, 3) := by decide +kernel
theorem d_M_reckon_49 : decode b_M_reckon 49 = .ok (.iconst 0, 1) := by decide +kernel
theorem d_M_reckon_50 : decode b_M_reckon 50 = .ok (.goto 5, 3) := by decide +kernel
theorem d_M_reckon_53 : decode b_M_reckon 53 = .ok (.ldc 106, 2) := by decide +kernel
theorem d_M_reckon_55 : decode b_M_reckon 55 = .ok (.iastore, 1) := by decide +kernel
theorem d_M_reckon_56 : decode b_M_reckon 56 = .ok (.iinc 3 1, 3) := by decide +kernel
theorem d_M_reckon_59 : decode b_M_reckon 59 = .ok (.goto (-47), 3) := by decide +kernel
theorem d_M_reckon_62 : decode b_M_reckon 62 = .ok (.iinc 2 1, 3) := by decide +kernel
theorem d_M_reckon_65 : decode b_M_reckon 65 = .ok (.goto (-63), 3) := by decide +kernel
theorem d_M_reckon_68 : decode b_M_reckon 68 = .ok (.iconst 1, 1) := by decide +kernel
theorem d_M_reckon_69 : decode b_M_reckon 69 = .ok (.istore_n 2, 1) := by decide +kernel
theorem d_M_reckon_70 : decode b_M_reckon 70 = .ok (.iload_n 2, 1) := by decide +kernel
theorem d_M_reckon_71 : decode b_M_reckon 71 = .ok (.ifCond .eq 135, 3) := by decide +kernel
theorem d_M_reckon_74 : decode b_M_reckon 74 = .ok (.iconst 0, 1) := by decide +kernel
theorem d_M_reckon_75 : decode b_M_reckon 75 = .ok (.istore_n 2, 1) := by decide +kernel
theorem d_M_reckon_76 : decode b_M_reckon 76 = .ok (.iconst 0, 1) := by decide +kernel
theorem d_M_reckon_77 : decode b_M_reckon 77 = .ok (.istore_n 3, 1) := by decide +kernel
theorem d_M_reckon_78 : decode b_M_reckon 78 = .ok (.iload_n 3, 1) := by decide +kernel
theorem d_M_reckon_79 : decode b_M_reckon 79 = .ok (.aload_n 0, 1) := by decide +kernel
theorem d_M_reckon_80 : decode b_M_reckon 80 = .ok (.getfield 52, 3) := by decide +kernel
theorem d_M_reckon_83 : decode b_M_reckon 83 = .ok (.if_icmp .ge 120, 3) := by decide +kernel
theorem d_M_reckon_86 : decode b_M_reckon 86 = .ok (.iconst 0, 1) := by decide +kernel
theorem d_M_reckon_87 : decode b_M_reckon 87 = .ok (.istore 4, 2) := by decide +kernel
theorem d_M_reckon_89 : decode b_M_reckon 89 = .ok (.iload 4, 2) := by decide +kernel
theorem d_M_reckon_91 : decode b_M_reckon 91 = .ok (.iconst 2, 1) := by decide +kernel
theorem d_M_reckon_92 : decode b_M_reckon 92 = .ok (.if_icmp .ge 105, 3) := by decide +kernel
theorem d_M_reckon_95 : decode b_M_reckon 95 = .ok (.iconst 2, 1) := by decide +kernel
theorem d_M_reckon_96 : decode b_M_reckon 96 = .ok (.aload_n 0, 1) := by decide +kernel
theorem d_M_reckon_97 : decode b_M_reckon 97 = .ok (.getfield 23, 3) := by decide +kernel
theorem d_M_reckon_100 : decode b_M_reckon 100 = .ok (.iload_n 3, 1) := by decide +kernel
theorem d_M_reckon_101 : decode b_M_reckon 101 = .ok (.iaload, 1) := by decide +kernel
theorem d_M_reckon_102 : decode b_M_reckon 102 = .ok (.imul, 1) := by decide +kernel
theorem d_M_reckon_103 : decode b_M_reckon 103 = .ok (.iload 4, 2) := by decide +kernel
theorem d_M_reckon_105 : decode b_M_reckon 105 = .ok (.iadd, 1) := by decide +kernel
theorem d_M_reckon_106 : decode b_M_reckon 106 = .ok (.istore 5, 2) := by decide +kernel
theorem d_M_reckon_108 : decode b_M_reckon 108 = .ok (.aload_n 0, 1) := by decide +kernel
theorem d_M_reckon_109 : decode b_M_reckon 109 = .ok (.iload 5, 2) := by decide +kernel
theorem d_M_reckon_111 : decode b_M_reckon 111 = .ok (.invokevirtual 75, 3) := by decide +kernel
theorem d_M_reckon_114 : decode b_M_reckon 114 = .ok (.ifCond .eq 77, 3) := by decide +kernel
theorem d_M_reckon_117 : decode b_M_reckon 117 = .ok (.aload_n 0, 1) := by decide +kernel
theorem d_M_reckon_118 : decode b_M_reckon 118 = .ok (.getfield 26, 3) := by decide +kernel
theorem d_M_reckon_121 : decode b_M_reckon 121 = .ok (.iload 5, 2) := by decide +kernel
theorem d_M_reckon_123 : decode b_M_reckon 123 = .ok (.iaload, 1) := by decide +kernel
theorem d_M_reckon_124 : decode b_M_reckon 124 = .ok (.ifCond .ne 6, 3) := by decide +kernel
theorem d_M_reckon_127 : decode b_M_reckon 127 = .ok (.goto 64, 3) := by decide +kernel
theorem d_M_reckon_130 : decode b_M_reckon 130 = .ok (.aload_n 0, 1) := by decide +kernel
theorem d_M_reckon_131 : decode b_M_reckon 131 = .ok (.iload 5, 2) := by decide +kernel
theorem d_M_reckon_133 : decode b_M_reckon 133 = .ok (.invokevirtual 110, 3) := by decide +kernel
theorem d_M_reckon_136 : decode b_M_reckon 136 = .ok (.istore 6, 2) := by decide +kernel
theorem d_M_reckon_138 : decode b_M_reckon 138 = .ok (.iload_n 2, 1) := by decide +kernel
theorem d_M_reckon_139 : decode b_M_reckon 139 = .ok (.ifCond .ne 15, 3) := by decide +kernel
theorem d_M_reckon_142 : decode b_M_reckon 142 = .ok (.iload 6, 2) := by decide +kernel
theorem d_M_reckon_144 : decode b_M_reckon 144 = .ok (.aload_n 0, 1) := by decide +kernel
theorem d_M_reckon_145 : decode b_M_reckon 145 = .ok (.getfield 26, 3) := by decide +kernel
theorem d_M_reckon_148 : decode b_M_reckon 148 = .ok (.iload 5, 2) := by decide +kernel
theorem d_M_reckon_150 : decode b_M_reckon 150 = .ok (.iaload, 1) := by decide +kernel
theorem d_M_reckon_151 : decode b_M_reckon 151 = .ok (.if_icmp .ge 7, 3) := by decide +kernel
theorem d_M_reckon_154 : decode b_M_reckon 154 = .ok (.iconst 1, 1) := by decide +kernel
theorem d_M_reckon_155 : decode b_M_reckon 155 = .ok (.goto 4, 3) := by decide +kernel
theorem d_M_reckon_158 : decode b_M_reckon 158 = .ok (.iconst 0, 1) := by decide +kernel
theorem d_M_reckon_159 : decode b_M_reckon 159 = .ok (.istore_n 2, 1) := by decide +kernel
theorem d_M_reckon_160 : decode b_M_reckon 160 = .ok (.aload_n 0, 1) := by decide +kernel
theorem d_M_reckon_161 : decode b_M_reckon 161 = .ok (.getfield 26, 3) := by decide +kernel
theorem d_M_reckon_164 : decode b_M_reckon 164 = .ok (.iload 5, 2) := by decide +kernel
theorem d_M_reckon_166 : decode b_M_reckon 166 = .ok (.iload 6, 2) := by decide +kernel
theorem d_M_reckon_168 : decode b_M_reckon 168 = .ok (.aload_n 0, 1) := by decide +kernel
theorem d_M_reckon_169 : decode b_M_reckon 169 = .ok (.getfield 26, 3) := by decide +kernel
theorem d_M_reckon_172 : decode b_M_reckon 172 = .ok (.iload 5, 2) := by decide +kernel
theorem d_M_reckon_174 : decode b_M_reckon 174 = .ok (.iaload, 1) := by decide +kernel
theorem d_M_reckon_175 : decode b_M_reckon 175 = .ok (.if_icmp .ge 8, 3) := by decide +kernel
theorem d_M_reckon_178 : decode b_M_reckon 178 = .ok (.iload 6, 2) := by decide +kernel
theorem d_M_reckon_180 : decode b_M_reckon 180 = .ok (.goto 10, 3) := by decide +kernel
theorem d_M_reckon_183 : decode b_M_reckon 183 = .ok (.aload_n 0, 1) := by decide +kernel
theorem d_M_reckon_184 : decode b_M_reckon 184 = .ok (.getfield 26, 3) := by decide +kernel
theorem d_M_reckon_187 : decode b_M_reckon 187 = .ok (.iload 5, 2) := by decide +kernel
theorem d_M_reckon_189 : decode b_M_reckon 189 = .ok (.iaload, 1) := by decide +kernel
theorem d_M_reckon_190 : decode b_M_reckon 190 = .ok (.iastore, 1) := by decide +kernel
theorem d_M_reckon_191 : decode b_M_reckon 191 = .ok (.iinc 4 1, 3) := by decide +kernel
theorem d_M_reckon_194 : decode b_M_reckon 194 = .ok (.goto (-105), 3) := by decide +kernel
theorem d_M_reckon_197 : decode b_M_reckon 197 = .ok (.iinc 3 1, 3) := by decide +kernel
theorem d_M_reckon_200 : decode b_M_reckon 200 = .ok (.goto (-122), 3) := by decide +kernel
theorem d_M_reckon_203 : decode b_M_reckon 203 = .ok (.goto (-133), 3) := by decide +kernel
theorem d_M_reckon_206 : decode b_M_reckon 206 = .ok (.return_, 1) := by decide +kernel
theorem d_M_onward_0 : decode b_M_onward 0 = .ok (.ldc 106, 2) := by decide +kernel
theorem d_M_onward_2 : decode b_M_onward 2 = .ok (.istore_n 2, 1) := by decide +kernel
theorem d_M_onward_3 : decode b_M_onward 3 = .ok (.iconst 0, 1) := by decide +kernel
theorem d_M_onward_4 : decode b_M_onward 4 = .ok (.istore_n 3, 1) := by decide +kernel
theorem d_M_onward_5 : decode b_M_onward 5 = .ok (.iload_n 3, 1) := by decide +kernel
theorem d_M_onward_6 : decode b_M_onward 6 = .ok (.bipush 6, 2) := by decide +kernel
theorem d_M_onward_8 : decode b_M_onward 8 = .ok (.if_icmp .ge 66, 3) := by decide +kernel
theorem d_M_onward_11 : decode b_M_onward 11 = .ok (.aload_n 0, 1) := by decide +kernel
theorem d_M_onward_12 : decode b_M_onward 12 = .ok (.iload_n 1, 1) := by decide +kernel
theorem d_M_onward_13 : decode b_M_onward 13 = .ok (.iload_n 3, 1) := by decide +kernel
theorem d_M_onward_14 : decode b_M_onward 14 = .ok (.invokevirtual 78, 3) := by decide +kernel
theorem d_M_onward_17 : decode b_M_onward 17 = .ok (.istore 4, 2) := by decide +kernel
theorem d_M_onward_19 : decode b_M_onward 19 = .ok (.iload 4, 2) := by decide +kernel
theorem d_M_onward_21 : decode b_M_onward 21 = .ok (.iconst (-1), 1) := by decide +kernel
theorem d_M_onward_22 : decode b_M_onward 22 = .ok (.if_icmp .eq 46, 3) := by decide +kernel
theorem d_M_onward_25 : decode b_M_onward 25 = .ok (.aload_n 0, 1) := by decide +kernel
theorem d_M_onward_26 : decode b_M_onward 26 = .ok (.getfield 26, 3) := by decide +kernel
theorem d_M_onward_29 : decode b_M_onward 29 = .ok (.iload 4, 2) := by decide +kernel
theorem d_M_onward_31 : decode b_M_onward 31 = .ok (.iaload, 1) := by decide +kernel
theorem d_M_onward_32 : decode b_M_onward 32 = .ok (.ldc 106, 2) := by decide +kernel
theorem d_M_onward_34 : decode b_M_onward 34 = .ok (.if_icmp .ge 34, 3) := by decide +kernel
theorem d_M_onward_37 : decode b_M_onward 37 = .ok (.iload 4, 2) := by decide +kernel
theorem d_M_onward_39 : decode b_M_onward 39 = .ok (.invokestatic 107, 3) := by decide +kernel
theorem d_M_onward_42 : decode b_M_onward 42 = .ok (.aload_n 0, 1) := by decide +kernel
theorem d_M_onward_43 : decode b_M_onward 43 = .ok (.getfield 26, 3) := by decide +kernel
theorem d_M_onward_46 : decode b_M_onward 46 = .ok (.iload 4, 2) := by decide +kernel
theorem d_M_onward_48 : decode b_M_onward 48 = .ok (.iaload, 1) := by decide +kernel
theorem d_M_onward_49 : decode b_M_onward 49 = .ok (.iadd, 1) := by decide +kernel
theorem d_M_onward_50 : decode b_M_onward 50 = .ok (.iload_n 2, 1) := by decide +kernel
theorem d_M_onward_51 : decode b_M_onward 51 = .ok (.if_icmp .ge 17, 3) := by decide +kernel
theorem d_M_onward_54 : decode b_M_onward 54 = .ok (.iload 4, 2) := by decide +kernel
theorem d_M_onward_56 : decode b_M_onward 56 = .ok (.invokestatic 107, 3) := by decide +kernel
theorem d_M_onward_59 : decode b_M_onward 59 = .ok (.aload_n 0, 1) := by decide +kernel
theorem d_M_onward_60 : decode b_M_onward 60 = .ok (.getfield 26, 3) := by decide +kernel
theorem d_M_onward_63 : decode b_M_onward 63 = .ok (.iload 4, 2) := by decide +kernel
theorem d_M_onward_65 : decode b_M_onward 65 = .ok (.iaload, 1) := by decide +kernel
theorem d_M_onward_66 : decode b_M_onward 66 = .ok (.iadd, 1) := by decide +kernel
theorem d_M_onward_67 : decode b_M_onward 67 = .ok (.istore_n 2, 1) := by decide +kernel
theorem d_M_onward_68 : decode b_M_onward 68 = .ok (.iinc 3 1, 3) := by decide +kernel
theorem d_M_onward_71 : decode b_M_onward 71 = .ok (.goto (-66), 3) := by decide +kernel
theorem d_M_onward_74 : decode b_M_onward 74 = .ok (.iload_n 2, 1) := by decide +kernel
theorem d_M_onward_75 : decode b_M_onward 75 = .ok (.ireturn, 1) := by decide +kernel
theorem d_M_length_0 : decode b_M_length 0 = .ok (.iload_n 0, 1) := by decide +kernel
theorem d_M_length_1 : decode b_M_length 1 = .ok (.iconst 2, 1) := by decide +kernel
theorem d_M_length_2 : decode b_M_length 2 = .ok (.idiv, 1) := by decide +kernel
theorem d_M_length_3 : decode b_M_length 3 = .ok (.bipush 6, 2) := by decide +kernel
theorem d_M_length_5 : decode b_M_length 5 = .ok (.irem, 1) := by decide +kernel
theorem d_M_length_6 : decode b_M_length 6 = .ok (.iconst 2, 1) := by decide +kernel
theorem d_M_length_7 : decode b_M_length 7 = .ok (.if_icmp .ge 8, 3) := by decide +kernel
theorem d_M_length_10 : decode b_M_length 10 = .ok (.bipush 16, 2) := by decide +kernel
theorem d_M_length_12 : decode b_M_length 12 = .ok (.goto 5, 3) := by decide +kernel
theorem d_M_length_15 : decode b_M_length 15 = .ok (.bipush 12, 2) := by decide +kernel
theorem d_M_length_17 : decode b_M_length 17 = .ok (.ireturn, 1) := by decide +kernel
theorem d_M_route_0 : decode b_M_route 0 = .ok (.aload_n 0, 1) := by decide +kernel
theorem d_M_route_1 : decode b_M_route 1 = .ok (.iconst 0, 1) := by decide +kernel
theorem d_M_route_2 : decode b_M_route 2 = .ok (.putfield 42, 3) := by decide +kernel
theorem d_M_route_5 : decode b_M_route 5 = .ok (.aload_n 0, 1) := by decide +kernel
theorem d_M_route_6 : decode b_M_route 6 = .ok (.iload_n 1, 1) := by decide +kernel
theorem d_M_route_7 : decode b_M_route 7 = .ok (.invokevirtual 75, 3) := by decide +kernel
theorem d_M_route_10 : decode b_M_route 10 = .ok (.ifCond .eq 14, 3) := by decide +kernel
theorem d_M_route_13 : decode b_M_route 13 = .ok (.iload_n 2, 1) := by decide +kernel
theorem d_M_route_14 : decode b_M_route 14 = .ok (.invokestatic 100, 3) := by decide +kernel
theorem d_M_route_17 : decode b_M_route 17 = .ok (.ifCond .eq 7, 3) := by decide +kernel
theorem d_M_route_20 : decode b_M_route 20 = .ok (.iload_n 3, 1) := by decide +kernel
theorem d_M_route_21 : decode b_M_route 21 = .ok (.ifCond .ge 5, 3) := by decide +kernel
theorem d_M_route_24 : decode b_M_route 24 = .ok (.iconst (-1), 1) := by decide +kernel
theorem d_M_route_25 : decode b_M_route 25 = .ok (.ireturn, 1) := by decide +kernel
theorem d_M_route_26 : decode b_M_route 26 = .ok (.aload_n 0, 1) := by decide +kernel
theorem d_M_route_27 : decode b_M_route 27 = .ok (.iload_n 2, 1) := by decide +kernel
theorem d_M_route_28 : decode b_M_route 28 = .ok (.invokevirtual 113, 3) := by decide +kernel
theorem d_M_route_31 : decode b_M_route 31 = .ok (.aload_n 0, 1) := by decide +kernel
theorem d_M_route_32 : decode b_M_route 32 = .ok (.getfield 26, 3) := by decide +kernel
theorem d_M_route_35 : decode b_M_route 35 = .ok (.iload_n 1, 1) := by decide +kernel
theorem d_M_route_36 : decode b_M_route 36 = .ok (.iaload, 1) := by decide +kernel
theorem d_M_route_37 : decode b_M_route 37 = .ok (.ldc 106, 2) := by decide +kernel
theorem d_M_route_39 : decode b_M_route 39 = .ok (.if_icmp .eq 12, 3) := by decide +kernel
theorem d_M_route_42 : decode b_M_route 42 = .ok (.aload_n 0, 1) := by decide +kernel
theorem d_M_route_43 : decode b_M_route 43 = .ok (.getfield 26, 3) := by decide +kernel
theorem d_M_route_46 : decode b_M_route 46 = .ok (.iload_n 1, 1) := by decide +kernel
theorem d_M_route_47 : decode b_M_route 47 = .ok (.iaload, 1) := by decide +kernel
theorem d_M_route_48 : decode b_M_route 48 = .ok (.ifCond .ne 5, 3) := by decide +kernel
theorem d_M_route_51 : decode b_M_route 51 = .ok (.iconst (-1), 1) := by decide +kernel
theorem d_M_route_52 : decode b_M_route 52 = .ok (.ireturn, 1) := by decide +kernel
theorem d_M_route_53 : decode b_M_route 53 = .ok (.iload_n 1, 1) := by decide +kernel
theorem d_M_route_54 : decode b_M_route 54 = .ok (.istore 4, 2) := by decide +kernel
theorem d_M_route_56 : decode b_M_route 56 = .ok (.iconst 0, 1) := by decide +kernel
theorem d_M_route_57 : decode b_M_route 57 = .ok (.istore 5, 2) := by decide +kernel
theorem d_M_route_59 : decode b_M_route 59 = .ok (.iload 5, 2) := by decide +kernel
theorem d_M_route_61 : decode b_M_route 61 = .ok (.iload_n 3, 1) := by decide +kernel
theorem d_M_route_62 : decode b_M_route 62 = .ok (.if_icmp .gt 129, 3) := by decide +kernel
theorem d_M_route_65 : decode b_M_route 65 = .ok (.iload 5, 2) := by decide +kernel
theorem d_M_route_67 : decode b_M_route 67 = .ok (.ifCond .le 28, 3) := by decide +kernel
theorem d_M_route_70 : decode b_M_route 70 = .ok (.aload_n 0, 1) := by decide +kernel
theorem d_M_route_71 : decode b_M_route 71 = .ok (.iload 4, 2) := by decide +kernel
theorem d_M_route_73 : decode b_M_route 73 = .ok (.iconst 2, 1) := by decide +kernel
theorem d_M_route_74 : decode b_M_route 74 = .ok (.idiv, 1) := by decide +kernel
theorem d_M_route_75 : decode b_M_route 75 = .ok (.invokevirtual 58, 3) := by decide +kernel
theorem d_M_route_78 : decode b_M_route 78 = .ok (.iload 4, 2) := by decide +kernel
theorem d_M_route_80 : decode b_M_route 80 = .ok (.if_icmp .eq 13, 3) := by decide +kernel
theorem d_M_route_83 : decode b_M_route 83 = .ok (.aload_n 0, 1) := by decide +kernel
theorem d_M_route_84 : decode b_M_route 84 = .ok (.getfield 26, 3) := by decide +kernel
theorem d_M_route_87 : decode b_M_route 87 = .ok (.iload 4, 2) := by decide +kernel
theorem d_M_route_89 : decode b_M_route 89 = .ok (.iaload, 1) := by decide +kernel
theorem d_M_route_90 : decode b_M_route 90 = .ok (.ifCond .ne 5, 3) := by decide +kernel
theorem d_M_route_93 : decode b_M_route 93 = .ok (.iconst (-1), 1) := by decide +kernel
theorem d_M_route_94 : decode b_M_route 94 = .ok (.ireturn, 1) := by decide +kernel
theorem d_M_route_95 : decode b_M_route 95 = .ok (.iconst (-1), 1) := by decide +kernel
theorem d_M_route_96 : decode b_M_route 96 = .ok (.istore 6, 2) := by decide +kernel
theorem d_M_route_98 : decode b_M_route 98 = .ok (.iconst 0, 1) := by decide +kernel
theorem d_M_route_99 : decode b_M_route 99 = .ok (.istore 7, 2) := by decide +kernel
theorem d_M_route_101 : decode b_M_route 101 = .ok (.iload 7, 2) := by decide +kernel
theorem d_M_route_103 : decode b_M_route 103 = .ok (.bipush 6, 2) := by decide +kernel
theorem d_M_route_105 : decode b_M_route 105 = .ok (.if_icmp .ge 76, 3) := by decide +kernel
theorem d_M_route_108 : decode b_M_route 108 = .ok (.aload_n 0, 1) := by decide +kernel
theorem d_M_route_109 : decode b_M_route 109 = .ok (.iload 4, 2) := by decide +kernel
theorem d_M_route_111 : decode b_M_route 111 = .ok (.iload 7, 2) := by decide +kernel
theorem d_M_route_113 : decode b_M_route 113 = .ok (.invokevirtual 78, 3) := by decide +kernel
theorem d_M_route_116 : decode b_M_route 116 = .ok (.istore 8, 2) := by decide +kernel
theorem d_M_route_118 : decode b_M_route 118 = .ok (.iload 8, 2) := by decide +kernel
theorem d_M_route_120 : decode b_M_route 120 = .ok (.iconst (-1), 1) := by decide +kernel
theorem d_M_route_121 : decode b_M_route 121 = .ok (.if_icmp .eq 54, 3) := by decide +kernel
theorem d_M_route_124 : decode b_M_route 124 = .ok (.aload_n 0, 1) := by decide +kernel
theorem d_M_route_125 : decode b_M_route 125 = .ok (.getfield 26, 3) := by decide +kernel
theorem d_M_route_128 : decode b_M_route 128 = .ok (.iload 8, 2) := by decide +kernel
theorem d_M_route_130 : decode b_M_route 130 = .ok (.iaload, 1) := by decide +kernel
theorem d_M_route_131 : decode b_M_route 131 = .ok (.ldc 106, 2) := by decide +kernel
theorem d_M_route_133 : decode b_M_route 133 = .ok (.if_icmp .ge 42, 3) := by decide +kernel
theorem d_M_route_136 : decode b_M_route 136 = .ok (.iload 6, 2) := by decide +kernel
theorem d_M_route_138 : decode b_M_route 138 = .ok (.iconst (-1), 1) := by decide +kernel
theorem d_M_route_139 : decode b_M_route 139 = .ok (.if_icmp .eq 32, 3) := by decide +kernel
theorem d_M_route_142 : decode b_M_route 142 = .ok (.iload 8, 2) := by decide +kernel
theorem d_M_route_144 : decode b_M_route 144 = .ok (.invokestatic 107, 3) := by decide +kernel
theorem d_M_route_147 : decode b_M_route 147 = .ok (.aload_n 0, 1) := by decide +kernel
theorem d_M_route_148 : decode b_M_route 148 = .ok (.getfield 26, 3) := by decide +kernel
theorem d_M_route_151 : decode b_M_route 151 = .ok (.iload 8, 2) := by decide +kernel
theorem d_M_route_153 : decode b_M_route 153 = .ok (.iaload, 1) := by decide +kernel
theorem d_M_route_154 : decode b_M_route 154 = .ok (.iadd, 1) := by decide +kernel
theorem d_M_route_155 : decode b_M_route 155 = .ok (.iload 6, 2) := by decide +kernel
theorem d_M_route_157 : decode b_M_route 157 = .ok (.invokestatic 107, 3) := by decide +kernel
theorem d_M_route_160 : decode b_M_route 160 = .ok (.aload_n 0, 1) := by decide +kernel
theorem d_M_route_161 : decode b_M_route 161 = .ok (.getfield 26, 3) := by decide +kernel
theorem d_M_route_164 : decode b_M_route 164 = .ok (.iload 6, 2) := by decide +kernel
theorem d_M_route_166 : decode b_M_route 166 = .ok (.iaload, 1) := by decide +kernel
theorem d_M_route_167 : decode b_M_route 167 = .ok (.iadd, 1) := by decide +kernel
theorem d_M_route_168 : decode b_M_route 168 = .ok (.if_icmp .ge 7, 3) := by decide +kernel
theorem d_M_route_171 : decode b_M_route 171 = .ok (.iload 8, 2) := by decide +kernel
theorem d_M_route_173 : decode b_M_route 173 = .ok (.istore 6, 2) := by decide +kernel
theorem d_M_route_175 : decode b_M_route 175 = .ok (.iinc 7 1, 3) := by decide +kernel
theorem d_M_route_178 : decode b_M_route 178 = .ok (.goto (-77), 3) := by decide +kernel
theorem d_M_route_181 : decode b_M_route 181 = .ok (.iload 6, 2) := by decide +kernel
theorem d_M_route_183 : decode b_M_route 183 = .ok (.istore 4, 2) := by decide +kernel
theorem d_M_route_185 : decode b_M_route 185 = .ok (.iinc 5 1, 3) := by decide +kernel
theorem d_M_route_188 : decode b_M_route 188 = .ok (.goto (-129), 3) := by decide +kernel
theorem d_M_route_191 : decode b_M_route 191 = .ok (.iload 4, 2) := by decide +kernel
theorem d_M_route_193 : decode b_M_route 193 = .ok (.ireturn, 1) := by decide +kernel
theorem d_M_count_0 : decode b_M_count 0 = .ok (.aload_n 0, 1) := by decide +kernel
theorem d_M_count_1 : decode b_M_count 1 = .ok (.iconst 0, 1) := by decide +kernel
theorem d_M_count_2 : decode b_M_count 2 = .ok (.putfield 42, 3) := by decide +kernel
theorem d_M_count_5 : decode b_M_count 5 = .ok (.iload_n 1, 1) := by decide +kernel
theorem d_M_count_6 : decode b_M_count 6 = .ok (.ifCond .lt 8, 3) := by decide +kernel
theorem d_M_count_9 : decode b_M_count 9 = .ok (.iload_n 1, 1) := by decide +kernel
theorem d_M_count_10 : decode b_M_count 10 = .ok (.iconst 3, 1) := by decide +kernel
theorem d_M_count_11 : decode b_M_count 11 = .ok (.if_icmp .le 5, 3) := by decide +kernel
theorem d_M_count_14 : decode b_M_count 14 = .ok (.iconst (-1), 1) := by decide +kernel
theorem d_M_count_15 : decode b_M_count 15 = .ok (.ireturn, 1) := by decide +kernel
theorem d_M_count_16 : decode b_M_count 16 = .ok (.iconst 0, 1) := by decide +kernel
theorem d_M_count_17 : decode b_M_count 17 = .ok (.istore_n 2, 1) := by decide +kernel
theorem d_M_count_18 : decode b_M_count 18 = .ok (.aload_n 0, 1) := by decide +kernel
theorem d_M_count_19 : decode b_M_count 19 = .ok (.invokevirtual 94, 3) := by decide +kernel
theorem d_M_count_22 : decode b_M_count 22 = .ok (.iconst 0, 1) := by decide +kernel
theorem d_M_count_23 : decode b_M_count 23 = .ok (.istore_n 3, 1) := by decide +kernel
theorem d_M_count_24 : decode b_M_count 24 = .ok (.iload_n 3, 1) := by decide +kernel
theorem d_M_count_25 : decode b_M_count 25 = .ok (.aload_n 0, 1) := by decide +kernel
theorem d_M_count_26 : decode b_M_count 26 = .ok (.getfield 52, 3) := by decide +kernel
theorem d_M_count_29 : decode b_M_count 29 = .ok (.if_icmp .ge 91, 3) := by decide +kernel
theorem d_M_count_32 : decode b_M_count 32 = .ok (.aload_n 0, 1) := by decide +kernel
theorem d_M_count_33 : decode b_M_count 33 = .ok (.getfield 23, 3) := by decide +kernel
theorem d_M_count_36 : decode b_M_count 36 = .ok (.iload_n 3, 1) := by decide +kernel
theorem d_M_count_37 : decode b_M_count 37 = .ok (.iaload, 1) := by decide +kernel
theorem d_M_count_38 : decode b_M_count 38 = .ok (.istore 4, 2) := by decide +kernel
theorem d_M_count_40 : decode b_M_count 40 = .ok (.iload_n 1, 1) := by decide +kernel
theorem d_M_count_41 : decode b_M_count 41 = .ok (.ifCond .eq 48, 3) := by decide +kernel
theorem d_M_count_44 : decode b_M_count 44 = .ok (.iload_n 1, 1) := by decide +kernel
theorem d_M_count_45 : decode b_M_count 45 = .ok (.iconst 1, 1) := by decide +kernel
theorem d_M_count_46 : decode b_M_count 46 = .ok (.if_icmp .ne 13, 3) := by decide +kernel
theorem d_M_count_49 : decode b_M_count 49 = .ok (.aload_n 0, 1) := by decide +kernel
theorem d_M_count_50 : decode b_M_count 50 = .ok (.getfield 17, 3) := by decide +kernel
theorem d_M_count_53 : decode b_M_count 53 = .ok (.iload 4, 2) := by decide +kernel
theorem d_M_count_55 : decode b_M_count 55 = .ok (.iaload, 1) := by decide +kernel
theorem d_M_count_56 : decode b_M_count 56 = .ok (.ifCond .gt 33, 3) := by decide +kernel
theorem d_M_count_59 : decode b_M_count 59 = .ok (.iload_n 1, 1) := by decide +kernel
theorem d_M_count_60 : decode b_M_count 60 = .ok (.iconst 2, 1) := by decide +kernel
theorem d_M_count_61 : decode b_M_count 61 = .ok (.if_icmp .ne 13, 3) := by decide +kernel
theorem d_M_count_64 : decode b_M_count 64 = .ok (.aload_n 0, 1) := by decide +kernel
theorem d_M_count_65 : decode b_M_count 65 = .ok (.getfield 20, 3) := by decide +kernel
theorem d_M_count_68 : decode b_M_count 68 = .ok (.iload 4, 2) := by decide +kernel
theorem d_M_count_70 : decode b_M_count 70 = .ok (.iaload, 1) := by decide +kernel
theorem d_M_count_71 : decode b_M_count 71 = .ok (.ifCond .gt 18, 3) := by decide +kernel
theorem d_M_count_74 : decode b_M_count 74 = .ok (.iload_n 1, 1) := by decide +kernel
theorem d_M_count_75 : decode b_M_count 75 = .ok (.iconst 3, 1) := by decide +kernel
theorem d_M_count_76 : decode b_M_count 76 = .ok (.if_icmp .ne 16, 3) := by decide +kernel
theorem d_M_count_79 : decode b_M_count 79 = .ok (.aload_n 0, 1) := by decide +kernel
theorem d_M_count_80 : decode b_M_count 80 = .ok (.getfield 29, 3) := by decide +kernel
theorem d_M_count_83 : decode b_M_count 83 = .ok (.iload 4, 2) := by decide +kernel
theorem d_M_count_85 : decode b_M_count 85 = .ok (.baload, 1) := by decide +kernel
theorem d_M_count_86 : decode b_M_count 86 = .ok (.ifCond .ne 6, 3) := by decide +kernel
theorem d_M_count_89 : decode b_M_count 89 = .ok (.iinc 2 1, 3) := by decide +kernel
theorem d_M_count_92 : decode b_M_count 92 = .ok (.iload_n 1, 1) := by decide +kernel
theorem d_M_count_93 : decode b_M_count 93 = .ok (.iconst 3, 1) := by decide +kernel
theorem d_M_count_94 : decode b_M_count 94 = .ok (.if_icmp .ne 20, 3) := by decide +kernel
theorem d_M_count_97 : decode b_M_count 97 = .ok (.aload_n 0, 1) := by decide +kernel
theorem d_M_count_98 : decode b_M_count 98 = .ok (.getfield 29, 3) := by decide +kernel
theorem d_M_count_101 : decode b_M_count 101 = .ok (.iload 4, 2) := by decide +kernel
theorem d_M_count_103 : decode b_M_count 103 = .ok (.baload, 1) := by decide +kernel
theorem d_M_count_104 : decode b_M_count 104 = .ok (.ifCond .ne 10, 3) := by decide +kernel
theorem d_M_count_107 : decode b_M_count 107 = .ok (.aload_n 0, 1) := by decide +kernel
theorem d_M_count_108 : decode b_M_count 108 = .ok (.iload 4, 2) := by decide +kernel
theorem d_M_count_110 : decode b_M_count 110 = .ok (.invokevirtual 97, 3) := by decide +kernel
theorem d_M_count_113 : decode b_M_count 113 = .ok (.pop, 1) := by decide +kernel
theorem d_M_count_114 : decode b_M_count 114 = .ok (.iinc 3 1, 3) := by decide +kernel
theorem d_M_count_117 : decode b_M_count 117 = .ok (.goto (-93), 3) := by decide +kernel
theorem d_M_count_120 : decode b_M_count 120 = .ok (.iload_n 2, 1) := by decide +kernel
theorem d_M_count_121 : decode b_M_count 121 = .ok (.ireturn, 1) := by decide +kernel
end
section
/-! DECODE rows, by program -/
theorem d_L_cell_0 : decode b_L_cell 0 = .ok (.iload_n 1, 1) := by decide +kernel
theorem d_L_cell_1 : decode b_L_cell 1 = .ok (.aload_n 0, 1) := by decide +kernel
theorem d_L_cell_2 : decode b_L_cell 2 = .ok (.arraylength, 1) := by decide +kernel
theorem d_L_cell_3 : decode b_L_cell 3 = .ok (.if_icmp .ge 9, 3) := by decide +kernel
theorem d_L_cell_6 : decode b_L_cell 6 = .ok (.aload_n 0, 1) := by decide +kernel
theorem d_L_cell_7 : decode b_L_cell 7 = .ok (.iload_n 1, 1) := by decide +kernel
theorem d_L_cell_8 : decode b_L_cell 8 = .ok (.iaload, 1) := by decide +kernel
theorem d_L_cell_9 : decode b_L_cell 9 = .ok (.goto 4, 3) := by decide +kernel
theorem d_L_cell_12 : decode b_L_cell 12 = .ok (.iconst 0, 1) := by decide +kernel
theorem d_L_cell_13 : decode b_L_cell 13 = .ok (.ireturn, 1) := by decide +kernel
theorem d_L_lay_0 : decode b_L_lay 0 = .ok (.aload_n 0, 1) := by decide +kernel
theorem d_L_lay_1 : decode b_L_lay 1 = .ok (.iload_n 1, 1) := by decide +kernel
theorem d_L_lay_2 : decode b_L_lay 2 = .ok (.iload_n 2, 1) := by decide +kernel
theorem d_L_lay_3 : decode b_L_lay 3 = .ok (.invokevirtual 7, 3) := by decide +kernel
theorem d_L_lay_6 : decode b_L_lay 6 = .ok (.goto 9, 3) := by decide +kernel
theorem d_L_lay_9 : decode b_L_lay 9 = .ok (.astore_n 3, 1) := by decide +kernel
theorem d_L_lay_10 : decode b_L_lay 10 = .ok (.iconst 1, 1) := by decide +kernel
theorem d_L_lay_11 : decode b_L_lay 11 = .ok (.ireturn, 1) := by decide +kernel
theorem d_L_lay_12 : decode b_L_lay 12 = .ok (.astore_n 3, 1) := by decide +kernel
theorem d_L_lay_13 : decode b_L_lay 13 = .ok (.iconst 2, 1) := by decide +kernel
theorem d_L_lay_14 : decode b_L_lay 14 = .ok (.ireturn, 1) := by decide +kernel
theorem d_L_lay_15 : decode b_L_lay 15 = .ok (.iconst 0, 1) := by decide +kernel
theorem d_L_lay_16 : decode b_L_lay 16 = .ok (.ireturn, 1) := by decide +kernel
theorem d_L_lift_0 : decode b_L_lift 0 = .ok (.aload_n 0, 1) := by decide +kernel
theorem d_L_lift_1 : decode b_L_lift 1 = .ok (.iload_n 1, 1) := by decide +kernel
theorem d_L_lift_2 : decode b_L_lift 2 = .ok (.iload_n 2, 1) := by decide +kernel
theorem d_L_lift_3 : decode b_L_lift 3 = .ok (.invokevirtual 17, 3) := by decide +kernel
theorem d_L_lift_6 : decode b_L_lift 6 = .ok (.goto 9, 3) := by decide +kernel
theorem d_L_lift_9 : decode b_L_lift 9 = .ok (.astore_n 3, 1) := by decide +kernel
theorem d_L_lift_10 : decode b_L_lift 10 = .ok (.iconst 1, 1) := by decide +kernel
theorem d_L_lift_11 : decode b_L_lift 11 = .ok (.ireturn, 1) := by decide +kernel
theorem d_L_lift_12 : decode b_L_lift 12 = .ok (.astore_n 3, 1) := by decide +kernel
theorem d_L_lift_13 : decode b_L_lift 13 = .ok (.iconst 2, 1) := by decide +kernel
theorem d_L_lift_14 : decode b_L_lift 14 = .ok (.ireturn, 1) := by decide +kernel
theorem d_L_lift_15 : decode b_L_lift 15 = .ok (.iconst 0, 1) := by decide +kernel
theorem d_L_lift_16 : decode b_L_lift 16 = .ok (.ireturn, 1) := by decide +kernel
theorem d_L_signal_0 : decode b_L_signal 0 = .ok (.aload_n 0, 1) := by decide +kernel
theorem d_L_signal_1 : decode b_L_signal 1 = .ok (.iload_n 1, 1) := by decide +kernel
theorem d_L_signal_2 : decode b_L_signal 2 = .ok (.iload_n 2, 1) := by decide +kernel
theorem d_L_signal_3 : decode b_L_signal 3 = .ok (.iload_n 3, 1) := by decide +kernel
theorem d_L_signal_4 : decode b_L_signal 4 = .ok (.iload 4, 2) := by decide +kernel
theorem d_L_signal_6 : decode b_L_signal 6 = .ok (.invokevirtual 20, 3) := by decide +kernel
theorem d_L_signal_9 : decode b_L_signal 9 = .ok (.goto 11, 3) := by decide +kernel
theorem d_L_signal_12 : decode b_L_signal 12 = .ok (.astore 5, 2) := by decide +kernel
theorem d_L_signal_14 : decode b_L_signal 14 = .ok (.iconst 1, 1) := by decide +kernel
theorem d_L_signal_15 : decode b_L_signal 15 = .ok (.ireturn, 1) := by decide +kernel
theorem d_L_signal_16 : decode b_L_signal 16 = .ok (.astore 5, 2) := by decide +kernel
theorem d_L_signal_18 : decode b_L_signal 18 = .ok (.iconst 2, 1) := by decide +kernel
theorem d_L_signal_19 : decode b_L_signal 19 = .ok (.ireturn, 1) := by decide +kernel
theorem d_L_signal_20 : decode b_L_signal 20 = .ok (.iconst 0, 1) := by decide +kernel
theorem d_L_signal_21 : decode b_L_signal 21 = .ok (.ireturn, 1) := by decide +kernel
theorem d_L_platform_0 : decode b_L_platform 0 = .ok (.aload_n 0, 1) := by decide +kernel
theorem d_L_platform_1 : decode b_L_platform 1 = .ok (.iload_n 1, 1) := by decide +kernel
theorem d_L_platform_2 : decode b_L_platform 2 = .ok (.iload_n 2, 1) := by decide +kernel
theorem d_L_platform_3 : decode b_L_platform 3 = .ok (.iload_n 3, 1) := by decide +kernel
theorem d_L_platform_4 : decode b_L_platform 4 = .ok (.invokevirtual 24, 3) := by decide +kernel
theorem d_L_platform_7 : decode b_L_platform 7 = .ok (.goto 11, 3) := by decide +kernel
theorem d_L_platform_10 : decode b_L_platform 10 = .ok (.astore 4, 2) := by decide +kernel
theorem d_L_platform_12 : decode b_L_platform 12 = .ok (.iconst 1, 1) := by decide +kernel
theorem d_L_platform_13 : decode b_L_platform 13 = .ok (.ireturn, 1) := by decide +kernel
theorem d_L_platform_14 : decode b_L_platform 14 = .ok (.astore 4, 2) := by decide +kernel
theorem d_L_platform_16 : decode b_L_platform 16 = .ok (.iconst 2, 1) := by decide +kernel
theorem d_L_platform_17 : decode b_L_platform 17 = .ok (.ireturn, 1) := by decide +kernel
theorem d_L_platform_18 : decode b_L_platform 18 = .ok (.iconst 0, 1) := by decide +kernel
theorem d_L_platform_19 : decode b_L_platform 19 = .ok (.ireturn, 1) := by decide +kernel
theorem d_L_law_0 : decode b_L_law 0 = .ok (.new 8, 3) := by decide +kernel
theorem d_L_law_3 : decode b_L_law 3 = .ok (.dup, 1) := by decide +kernel
theorem d_L_law_4 : decode b_L_law 4 = .ok (.aload_n 0, 1) := by decide +kernel
theorem d_L_law_5 : decode b_L_law 5 = .ok (.iconst 0, 1) := by decide +kernel
theorem d_L_law_6 : decode b_L_law 6 = .ok (.invokestatic 28, 3) := by decide +kernel
theorem d_L_law_9 : decode b_L_law 9 = .ok (.aload_n 0, 1) := by decide +kernel
theorem d_L_law_10 : decode b_L_law 10 = .ok (.iconst 1, 1) := by decide +kernel
theorem d_L_law_11 : decode b_L_law 11 = .ok (.invokestatic 28, 3) := by decide +kernel
theorem d_L_law_14 : decode b_L_law 14 = .ok (.invokespecial 34, 3) := by decide +kernel
theorem d_L_law_17 : decode b_L_law 17 = .ok (.astore_n 1, 1) := by decide +kernel
theorem d_L_law_18 : decode b_L_law 18 = .ok (.new 36, 3) := by decide +kernel
theorem d_L_law_21 : decode b_L_law 21 = .ok (.dup, 1) := by decide +kernel
theorem d_L_law_22 : decode b_L_law 22 = .ok (.aload_n 0, 1) := by decide +kernel
theorem d_L_law_23 : decode b_L_law 23 = .ok (.iconst 0, 1) := by decide +kernel
theorem d_L_law_24 : decode b_L_law 24 = .ok (.invokestatic 28, 3) := by decide +kernel
theorem d_L_law_27 : decode b_L_law 27 = .ok (.aload_n 0, 1) := by decide +kernel
theorem d_L_law_28 : decode b_L_law 28 = .ok (.iconst 1, 1) := by decide +kernel
theorem d_L_law_29 : decode b_L_law 29 = .ok (.invokestatic 28, 3) := by decide +kernel
theorem d_L_law_32 : decode b_L_law 32 = .ok (.invokespecial 38, 3) := by decide +kernel
theorem d_L_law_35 : decode b_L_law 35 = .ok (.astore_n 2, 1) := by decide +kernel
theorem d_L_law_36 : decode b_L_law 36 = .ok (.iconst 2, 1) := by decide +kernel
theorem d_L_law_37 : decode b_L_law 37 = .ok (.istore_n 3, 1) := by decide +kernel
theorem d_L_law_38 : decode b_L_law 38 = .ok (.iload_n 3, 1) := by decide +kernel
theorem d_L_law_39 : decode b_L_law 39 = .ok (.aload_n 0, 1) := by decide +kernel
theorem d_L_law_40 : decode b_L_law 40 = .ok (.arraylength, 1) := by decide +kernel
theorem d_L_law_41 : decode b_L_law 41 = .ok (.iconst 5, 1) := by decide +kernel
theorem d_L_law_42 : decode b_L_law 42 = .ok (.isub, 1) := by decide +kernel
theorem d_L_law_43 : decode b_L_law 43 = .ok (.if_icmp .gt 566, 3) := by decide +kernel
theorem d_L_law_46 : decode b_L_law 46 = .ok (.aload_n 0, 1) := by decide +kernel
theorem d_L_law_47 : decode b_L_law 47 = .ok (.iload_n 3, 1) := by decide +kernel
theorem d_L_law_48 : decode b_L_law 48 = .ok (.iaload, 1) := by decide +kernel
theorem d_L_law_49 : decode b_L_law 49 = .ok (.bipush 15, 2) := by decide +kernel
theorem d_L_law_51 : decode b_L_law 51 = .ok (.iand, 1) := by decide +kernel
theorem d_L_law_52 : decode b_L_law 52 = .ok (.tableswitch 551 0 12 #[68, 112, 156, 220, 274, 307, 340, 363, 396, 419, 452, 485, 528], 68) := by decide +kernel
theorem d_L_law_120 : decode b_L_law 120 = .ok (.aload_n 1, 1) := by decide +kernel
theorem d_L_law_121 : decode b_L_law 121 = .ok (.aload_n 0, 1) := by decide +kernel
theorem d_L_law_122 : decode b_L_law 122 = .ok (.iload_n 3, 1) := by decide +kernel
theorem d_L_law_123 : decode b_L_law 123 = .ok (.iconst 1, 1) := by decide +kernel
theorem d_L_law_124 : decode b_L_law 124 = .ok (.iadd, 1) := by decide +kernel
theorem d_L_law_125 : decode b_L_law 125 = .ok (.iaload, 1) := by decide +kernel
theorem d_L_law_126 : decode b_L_law 126 = .ok (.aload_n 0, 1) := by decide +kernel
theorem d_L_law_127 : decode b_L_law 127 = .ok (.iload_n 3, 1) := by decide +kernel
theorem d_L_law_128 : decode b_L_law 128 = .ok (.iconst 2, 1) := by decide +kernel
theorem d_L_law_129 : decode b_L_law 129 = .ok (.iadd, 1) := by decide +kernel
theorem d_L_law_130 : decode b_L_law 130 = .ok (.iaload, 1) := by decide +kernel
theorem d_L_law_131 : decode b_L_law 131 = .ok (.invokestatic 39, 3) := by decide +kernel
theorem d_L_law_134 : decode b_L_law 134 = .ok (.istore 4, 2) := by decide +kernel
theorem d_L_law_136 : decode b_L_law 136 = .ok (.aload_n 2, 1) := by decide +kernel
theorem d_L_law_137 : decode b_L_law 137 = .ok (.aload_n 0, 1) := by decide +kernel
theorem d_L_law_138 : decode b_L_law 138 = .ok (.iload_n 3, 1) := by decide +kernel
theorem d_L_law_139 : decode b_L_law 139 = .ok (.iconst 1, 1) := by decide +kernel
theorem d_L_law_140 : decode b_L_law 140 = .ok (.iadd, 1) := by decide +kernel
theorem d_L_law_141 : decode b_L_law 141 = .ok (.iaload, 1) := by decide +kernel
theorem d_L_law_142 : decode b_L_law 142 = .ok (.aload_n 0, 1) := by decide +kernel
theorem d_L_law_143 : decode b_L_law 143 = .ok (.iload_n 3, 1) := by decide +kernel
theorem d_L_law_144 : decode b_L_law 144 = .ok (.iconst 2, 1) := by decide +kernel
theorem d_L_law_145 : decode b_L_law 145 = .ok (.iadd, 1) := by decide +kernel
theorem d_L_law_146 : decode b_L_law 146 = .ok (.iaload, 1) := by decide +kernel
theorem d_L_law_147 : decode b_L_law 147 = .ok (.invokevirtual 42, 3) := by decide +kernel
theorem d_L_law_150 : decode b_L_law 150 = .ok (.aload_n 2, 1) := by decide +kernel
theorem d_L_law_151 : decode b_L_law 151 = .ok (.invokevirtual 43, 3) := by decide +kernel
theorem d_L_law_154 : decode b_L_law 154 = .ok (.iload 4, 2) := by decide +kernel
theorem d_L_law_156 : decode b_L_law 156 = .ok (.if_icmp .eq 5, 3) := by decide +kernel
theorem d_L_law_159 : decode b_L_law 159 = .ok (.iconst 0, 1) := by decide +kernel
theorem d_L_law_160 : decode b_L_law 160 = .ok (.ireturn, 1) := by decide +kernel
theorem d_L_law_161 : decode b_L_law 161 = .ok (.goto 442, 3) := by decide +kernel
theorem d_L_law_164 : decode b_L_law 164 = .ok (.aload_n 1, 1) := by decide +kernel
theorem d_L_law_165 : decode b_L_law 165 = .ok (.aload_n 0, 1) := by decide +kernel
theorem d_L_law_166 : decode b_L_law 166 = .ok (.iload_n 3, 1) := by decide +kernel
theorem d_L_law_167 : decode b_L_law 167 = .ok (.iconst 1, 1) := by decide +kernel
theorem d_L_law_168 : decode b_L_law 168 = .ok (.iadd, 1) := by decide +kernel
theorem d_L_law_169 : decode b_L_law 169 = .ok (.iaload, 1) := by decide +kernel
theorem d_L_law_170 : decode b_L_law 170 = .ok (.aload_n 0, 1) := by decide +kernel
theorem d_L_law_171 : decode b_L_law 171 = .ok (.iload_n 3, 1) := by decide +kernel
theorem d_L_law_172 : decode b_L_law 172 = .ok (.iconst 2, 1) := by decide +kernel
theorem d_L_law_173 : decode b_L_law 173 = .ok (.iadd, 1) := by decide +kernel
theorem d_L_law_174 : decode b_L_law 174 = .ok (.iaload, 1) := by decide +kernel
theorem d_L_law_175 : decode b_L_law 175 = .ok (.invokestatic 47, 3) := by decide +kernel
theorem d_L_law_178 : decode b_L_law 178 = .ok (.istore 4, 2) := by decide +kernel
theorem d_L_law_180 : decode b_L_law 180 = .ok (.aload_n 2, 1) := by decide +kernel
theorem d_L_law_181 : decode b_L_law 181 = .ok (.aload_n 0, 1) := by decide +kernel
theorem d_L_law_182 : decode b_L_law 182 = .ok (.iload_n 3, 1) := by decide +kernel
theorem d_L_law_183 : decode b_L_law 183 = .ok (.iconst 1, 1) := by decide +kernel
theorem d_L_law_184 : decode b_L_law 184 = .ok (.iadd, 1) := by decide +kernel
theorem d_L_law_185 : decode b_L_law 185 = .ok (.iaload, 1) := by decide +kernel
theorem d_L_law_186 : decode b_L_law 186 = .ok (.aload_n 0, 1) := by decide +kernel
theorem d_L_law_187 : decode b_L_law 187 = .ok (.iload_n 3, 1) := by decide +kernel
theorem d_L_law_188 : decode b_L_law 188 = .ok (.iconst 2, 1) := by decide +kernel
theorem d_L_law_189 : decode b_L_law 189 = .ok (.iadd, 1) := by decide +kernel
theorem d_L_law_190 : decode b_L_law 190 = .ok (.iaload, 1) := by decide +kernel
theorem d_L_law_191 : decode b_L_law 191 = .ok (.invokevirtual 49, 3) := by decide +kernel
theorem d_L_law_194 : decode b_L_law 194 = .ok (.aload_n 2, 1) := by decide +kernel
theorem d_L_law_195 : decode b_L_law 195 = .ok (.invokevirtual 43, 3) := by decide +kernel
theorem d_L_law_198 : decode b_L_law 198 = .ok (.iload 4, 2) := by decide +kernel
theorem d_L_law_200 : decode b_L_law 200 = .ok (.if_icmp .eq 5, 3) := by decide +kernel
theorem d_L_law_203 : decode b_L_law 203 = .ok (.iconst 0, 1) := by decide +kernel
theorem d_L_law_204 : decode b_L_law 204 = .ok (.ireturn, 1) := by decide +kernel
theorem d_L_law_205 : decode b_L_law 205 = .ok (.goto 398, 3) := by decide +kernel
theorem d_L_law_208 : decode b_L_law 208 = .ok (.aload_n 1, 1) := by decide +kernel
theorem d_L_law_209 : decode b_L_law 209 = .ok (.aload_n 0, 1) := by decide +kernel
theorem d_L_law_210 : decode b_L_law 210 = .ok (.iload_n 3, 1) := by decide +kernel
theorem d_L_law_211 : decode b_L_law 211 = .ok (.iconst 1, 1) := by decide +kernel
theorem d_L_law_212 : decode b_L_law 212 = .ok (.iadd, 1) := by decide +kernel
theorem d_L_law_213 : decode b_L_law 213 = .ok (.iaload, 1) := by decide +kernel
theorem d_L_law_214 : decode b_L_law 214 = .ok (.aload_n 0, 1) := by decide +kernel
theorem d_L_law_215 : decode b_L_law 215 = .ok (.iload_n 3, 1) := by decide +kernel
theorem d_L_law_216 : decode b_L_law 216 = .ok (.iconst 2, 1) := by decide +kernel
theorem d_L_law_217 : decode b_L_law 217 = .ok (.iadd, 1) := by decide +kernel
theorem d_L_law_218 : decode b_L_law 218 = .ok (.iaload, 1) := by decide +kernel
theorem d_L_law_219 : decode b_L_law 219 = .ok (.aload_n 0, 1) := by decide +kernel
theorem d_L_law_220 : decode b_L_law 220 = .ok (.iload_n 3, 1) := by decide +kernel
theorem d_L_law_221 : decode b_L_law 221 = .ok (.iconst 3, 1) := by decide +kernel
theorem d_L_law_222 : decode b_L_law 222 = .ok (.iadd, 1) := by decide +kernel
theorem d_L_law_223 : decode b_L_law 223 = .ok (.iaload, 1) := by decide +kernel
theorem d_L_law_224 : decode b_L_law 224 = .ok (.aload_n 0, 1) := by decide +kernel
theorem d_L_law_225 : decode b_L_law 225 = .ok (.iload_n 3, 1) := by decide +kernel
theorem d_L_law_226 : decode b_L_law 226 = .ok (.iconst 4, 1) := by decide +kernel
theorem d_L_law_227 : decode b_L_law 227 = .ok (.iadd, 1) := by decide +kernel
theorem d_L_law_228 : decode b_L_law 228 = .ok (.iaload, 1) := by decide +kernel
theorem d_L_law_229 : decode b_L_law 229 = .ok (.invokestatic 50, 3) := by decide +kernel
theorem d_L_law_232 : decode b_L_law 232 = .ok (.istore 4, 2) := by decide +kernel
theorem d_L_law_234 : decode b_L_law 234 = .ok (.aload_n 2, 1) := by decide +kernel
theorem d_L_law_235 : decode b_L_law 235 = .ok (.aload_n 0, 1) := by decide +kernel
theorem d_L_law_236 : decode b_L_law 236 = .ok (.iload_n 3, 1) := by decide +kernel
theorem d_L_law_237 : decode b_L_law 237 = .ok (.iconst 1, 1) := by decide +kernel
theorem d_L_law_238 : decode b_L_law 238 = .ok (.iadd, 1) := by decide +kernel
theorem d_L_law_239 : decode b_L_law 239 = .ok (.iaload, 1) := by decide +kernel
theorem d_L_law_240 : decode b_L_law 240 = .ok (.aload_n 0, 1) := by decide +kernel
theorem d_L_law_241 : decode b_L_law 241 = .ok (.iload_n 3, 1) := by decide +kernel
theorem d_L_law_242 : decode b_L_law 242 = .ok (.iconst 2, 1) := by decide +kernel
theorem d_L_law_243 : decode b_L_law 243 = .ok (.iadd, 1) := by decide +kernel
theorem d_L_law_244 : decode b_L_law 244 = .ok (.iaload, 1) := by decide +kernel
theorem d_L_law_245 : decode b_L_law 245 = .ok (.aload_n 0, 1) := by decide +kernel
theorem d_L_law_246 : decode b_L_law 246 = .ok (.iload_n 3, 1) := by decide +kernel
theorem d_L_law_247 : decode b_L_law 247 = .ok (.iconst 3, 1) := by decide +kernel
theorem d_L_law_248 : decode b_L_law 248 = .ok (.iadd, 1) := by decide +kernel
theorem d_L_law_249 : decode b_L_law 249 = .ok (.iaload, 1) := by decide +kernel
theorem d_L_law_250 : decode b_L_law 250 = .ok (.aload_n 0, 1) := by decide +kernel
theorem d_L_law_251 : decode b_L_law 251 = .ok (.iload_n 3, 1) := by decide +kernel
theorem d_L_law_252 : decode b_L_law 252 = .ok (.iconst 4, 1) := by decide +kernel
theorem d_L_law_253 : decode b_L_law 253 = .ok (.iadd, 1) := by decide +kernel
theorem d_L_law_254 : decode b_L_law 254 = .ok (.iaload, 1) := by decide +kernel
theorem d_L_law_255 : decode b_L_law 255 = .ok (.invokevirtual 53, 3) := by decide +kernel
theorem d_L_law_258 : decode b_L_law 258 = .ok (.aload_n 2, 1) := by decide +kernel
theorem d_L_law_259 : decode b_L_law 259 = .ok (.invokevirtual 43, 3) := by decide +kernel
theorem d_L_law_262 : decode b_L_law 262 = .ok (.iload 4, 2) := by decide +kernel
theorem d_L_law_264 : decode b_L_law 264 = .ok (.if_icmp .eq 5, 3) := by decide +kernel
theorem d_L_law_267 : decode b_L_law 267 = .ok (.iconst 0, 1) := by decide +kernel
theorem d_L_law_268 : decode b_L_law 268 = .ok (.ireturn, 1) := by decide +kernel
theorem d_L_law_269 : decode b_L_law 269 = .ok (.goto 334, 3) := by decide +kernel
theorem d_L_law_272 : decode b_L_law 272 = .ok (.aload_n 1, 1) := by decide +kernel
theorem d_L_law_273 : decode b_L_law 273 = .ok (.aload_n 0, 1) := by decide +kernel
theorem d_L_law_274 : decode b_L_law 274 = .ok (.iload_n 3, 1) := by decide +kernel
theorem d_L_law_275 : decode b_L_law 275 = .ok (.iconst 1, 1) := by decide +kernel
theorem d_L_law_276 : decode b_L_law 276 = .ok (.iadd, 1) := by decide +kernel
theorem d_L_law_277 : decode b_L_law 277 = .ok (.iaload, 1) := by decide +kernel
theorem d_L_law_278 : decode b_L_law 278 = .ok (.aload_n 0, 1) := by decide +kernel
theorem d_L_law_279 : decode b_L_law 279 = .ok (.iload_n 3, 1) := by decide +kernel
theorem d_L_law_280 : decode b_L_law 280 = .ok (.iconst 2, 1) := by decide +kernel
theorem d_L_law_281 : decode b_L_law 281 = .ok (.iadd, 1) := by decide +kernel
theorem d_L_law_282 : decode b_L_law 282 = .ok (.iaload, 1) := by decide +kernel
theorem d_L_law_283 : decode b_L_law 283 = .ok (.aload_n 0, 1) := by decide +kernel
theorem d_L_law_284 : decode b_L_law 284 = .ok (.iload_n 3, 1) := by decide +kernel
theorem d_L_law_285 : decode b_L_law 285 = .ok (.iconst 3, 1) := by decide +kernel
theorem d_L_law_286 : decode b_L_law 286 = .ok (.iadd, 1) := by decide +kernel
theorem d_L_law_287 : decode b_L_law 287 = .ok (.iaload, 1) := by decide +kernel
theorem d_L_law_288 : decode b_L_law 288 = .ok (.invokestatic 54, 3) := by decide +kernel
theorem d_L_law_291 : decode b_L_law 291 = .ok (.istore 4, 2) := by decide +kernel
theorem d_L_law_293 : decode b_L_law 293 = .ok (.aload_n 2, 1) := by decide +kernel
theorem d_L_law_294 : decode b_L_law 294 = .ok (.aload_n 0, 1) := by decide +kernel
theorem d_L_law_295 : decode b_L_law 295 = .ok (.iload_n 3, 1) := by decide +kernel
theorem d_L_law_296 : decode b_L_law 296 = .ok (.iconst 1, 1) := by decide +kernel
theorem d_L_law_297 : decode b_L_law 297 = .ok (.iadd, 1) := by decide +kernel
theorem d_L_law_298 : decode b_L_law 298 = .ok (.iaload, 1) := by decide +kernel
theorem d_L_law_299 : decode b_L_law 299 = .ok (.aload_n 0, 1) := by decide +kernel
theorem d_L_law_300 : decode b_L_law 300 = .ok (.iload_n 3, 1) := by decide +kernel
theorem d_L_law_301 : decode b_L_law 301 = .ok (.iconst 2, 1) := by decide +kernel
theorem d_L_law_302 : decode b_L_law 302 = .ok (.iadd, 1) := by decide +kernel
theorem d_L_law_303 : decode b_L_law 303 = .ok (.iaload, 1) := by decide +kernel
theorem d_L_law_304 : decode b_L_law 304 = .ok (.aload_n 0, 1) := by decide +kernel
theorem d_L_law_305 : decode b_L_law 305 = .ok (.iload_n 3, 1) := by decide +kernel
theorem d_L_law_306 : decode b_L_law 306 = .ok (.iconst 3, 1) := by decide +kernel
theorem d_L_law_307 : decode b_L_law 307 = .ok (.iadd, 1) := by decide +kernel
theorem d_L_law_308 : decode b_L_law 308 = .ok (.iaload, 1) := by decide +kernel
theorem d_L_law_309 : decode b_L_law 309 = .ok (.invokevirtual 57, 3) := by decide +kernel
theorem d_L_law_312 : decode b_L_law 312 = .ok (.aload_n 2, 1) := by decide +kernel
theorem d_L_law_313 : decode b_L_law 313 = .ok (.invokevirtual 43, 3) := by decide +kernel
theorem d_L_law_316 : decode b_L_law 316 = .ok (.iload 4, 2) := by decide +kernel
theorem d_L_law_318 : decode b_L_law 318 = .ok (.if_icmp .eq 5, 3) := by decide +kernel
theorem d_L_law_321 : decode b_L_law 321 = .ok (.iconst 0, 1) := by decide +kernel
theorem d_L_law_322 : decode b_L_law 322 = .ok (.ireturn, 1) := by decide +kernel
theorem d_L_law_323 : decode b_L_law 323 = .ok (.goto 280, 3) := by decide +kernel
theorem d_L_law_326 : decode b_L_law 326 = .ok (.aload_n 1, 1) := by decide +kernel
theorem d_L_law_327 : decode b_L_law 327 = .ok (.aload_n 0, 1) := by decide +kernel
theorem d_L_law_328 : decode b_L_law 328 = .ok (.iload_n 3, 1) := by decide +kernel
theorem d_L_law_329 : decode b_L_law 329 = .ok (.iconst 1, 1) := by decide +kernel
theorem d_L_law_330 : decode b_L_law 330 = .ok (.iadd, 1) := by decide +kernel
theorem d_L_law_331 : decode b_L_law 331 = .ok (.iaload, 1) := by decide +kernel
theorem d_L_law_332 : decode b_L_law 332 = .ok (.aload_n 0, 1) := by decide +kernel
theorem d_L_law_333 : decode b_L_law 333 = .ok (.iload_n 3, 1) := by decide +kernel
theorem d_L_law_334 : decode b_L_law 334 = .ok (.iconst 2, 1) := by decide +kernel
theorem d_L_law_335 : decode b_L_law 335 = .ok (.iadd, 1) := by decide +kernel
theorem d_L_law_336 : decode b_L_law 336 = .ok (.iaload, 1) := by decide +kernel
theorem d_L_law_337 : decode b_L_law 337 = .ok (.invokevirtual 58, 3) := by decide +kernel
theorem d_L_law_340 : decode b_L_law 340 = .ok (.aload_n 2, 1) := by decide +kernel
theorem d_L_law_341 : decode b_L_law 341 = .ok (.aload_n 0, 1) := by decide +kernel
theorem d_L_law_342 : decode b_L_law 342 = .ok (.iload_n 3, 1) := by decide +kernel
theorem d_L_law_343 : decode b_L_law 343 = .ok (.iconst 1, 1) := by decide +kernel
theorem d_L_law_344 : decode b_L_law 344 = .ok (.iadd, 1) := by decide +kernel
theorem d_L_law_345 : decode b_L_law 345 = .ok (.iaload, 1) := by decide +kernel
theorem d_L_law_346 : decode b_L_law 346 = .ok (.aload_n 0, 1) := by decide +kernel
theorem d_L_law_347 : decode b_L_law 347 = .ok (.iload_n 3, 1) := by decide +kernel
theorem d_L_law_348 : decode b_L_law 348 = .ok (.iconst 2, 1) := by decide +kernel
theorem d_L_law_349 : decode b_L_law 349 = .ok (.iadd, 1) := by decide +kernel
theorem d_L_law_350 : decode b_L_law 350 = .ok (.iaload, 1) := by decide +kernel
theorem d_L_law_351 : decode b_L_law 351 = .ok (.invokevirtual 62, 3) := by decide +kernel
theorem d_L_law_354 : decode b_L_law 354 = .ok (.if_icmp .eq 249, 3) := by decide +kernel
theorem d_L_law_357 : decode b_L_law 357 = .ok (.iconst 0, 1) := by decide +kernel
theorem d_L_law_358 : decode b_L_law 358 = .ok (.ireturn, 1) := by decide +kernel
theorem d_L_law_359 : decode b_L_law 359 = .ok (.aload_n 1, 1) := by decide +kernel
theorem d_L_law_360 : decode b_L_law 360 = .ok (.aload_n 0, 1) := by decide +kernel
theorem d_L_law_361 : decode b_L_law 361 = .ok (.iload_n 3, 1) := by decide +kernel
theorem d_L_law_362 : decode b_L_law 362 = .ok (.iconst 1, 1) := by decide +kernel
theorem d_L_law_363 : decode b_L_law 363 = .ok (.iadd, 1) := by decide +kernel
theorem d_L_law_364 : decode b_L_law 364 = .ok (.iaload, 1) := by decide +kernel
theorem d_L_law_365 : decode b_L_law 365 = .ok (.aload_n 0, 1) := by decide +kernel
theorem d_L_law_366 : decode b_L_law 366 = .ok (.iload_n 3, 1) := by decide +kernel
theorem d_L_law_367 : decode b_L_law 367 = .ok (.iconst 2, 1) := by decide +kernel
theorem d_L_law_368 : decode b_L_law 368 = .ok (.iadd, 1) := by decide +kernel
theorem d_L_law_369 : decode b_L_law 369 = .ok (.iaload, 1) := by decide +kernel
theorem d_L_law_370 : decode b_L_law 370 = .ok (.invokevirtual 63, 3) := by decide +kernel
theorem d_L_law_373 : decode b_L_law 373 = .ok (.aload_n 2, 1) := by decide +kernel
theorem d_L_law_374 : decode b_L_law 374 = .ok (.aload_n 0, 1) := by decide +kernel
theorem d_L_law_375 : decode b_L_law 375 = .ok (.iload_n 3, 1) := by decide +kernel
theorem d_L_law_376 : decode b_L_law 376 = .ok (.iconst 1, 1) := by decide +kernel
theorem d_L_law_377 : decode b_L_law 377 = .ok (.iadd, 1) := by decide +kernel
theorem d_L_law_378 : decode b_L_law 378 = .ok (.iaload, 1) := by decide +kernel
theorem d_L_law_379 : decode b_L_law 379 = .ok (.aload_n 0, 1) := by decide +kernel
theorem d_L_law_380 : decode b_L_law 380 = .ok (.iload_n 3, 1) := by decide +kernel
theorem d_L_law_381 : decode b_L_law 381 = .ok (.iconst 2, 1) := by decide +kernel
theorem d_L_law_382 : decode b_L_law 382 = .ok (.iadd, 1) := by decide +kernel
theorem d_L_law_383 : decode b_L_law 383 = .ok (.iaload, 1) := by decide +kernel
theorem d_L_law_384 : decode b_L_law 384 = .ok (.invokevirtual 66, 3) := by decide +kernel
theorem d_L_law_387 : decode b_L_law 387 = .ok (.if_icmp .eq 216, 3) := by decide +kernel
theorem d_L_law_390 : decode b_L_law 390 = .ok (.iconst 0, 1) := by decide +kernel
theorem d_L_law_391 : decode b_L_law 391 = .ok (.ireturn, 1) := by decide +kernel
theorem d_L_law_392 : decode b_L_law 392 = .ok (.aload_n 1, 1) := by decide +kernel
theorem d_L_law_393 : decode b_L_law 393 = .ok (.aload_n 0, 1) := by decide +kernel
theorem d_L_law_394 : decode b_L_law 394 = .ok (.iload_n 3, 1) := by decide +kernel
theorem d_L_law_395 : decode b_L_law 395 = .ok (.iconst 1, 1) := by decide +kernel
theorem d_L_law_396 : decode b_L_law 396 = .ok (.iadd, 1) := by decide +kernel
theorem d_L_law_397 : decode b_L_law 397 = .ok (.iaload, 1) := by decide +kernel
theorem d_L_law_398 : decode b_L_law 398 = .ok (.invokevirtual 67, 3) := by decide +kernel
theorem d_L_law_401 : decode b_L_law 401 = .ok (.aload_n 2, 1) := by decide +kernel
theorem d_L_law_402 : decode b_L_law 402 = .ok (.aload_n 0, 1) := by decide +kernel
theorem d_L_law_403 : decode b_L_law 403 = .ok (.iload_n 3, 1) := by decide +kernel
theorem d_L_law_404 : decode b_L_law 404 = .ok (.iconst 1, 1) := by decide +kernel
theorem d_L_law_405 : decode b_L_law 405 = .ok (.iadd, 1) := by decide +kernel
theorem d_L_law_406 : decode b_L_law 406 = .ok (.iaload, 1) := by decide +kernel
theorem d_L_law_407 : decode b_L_law 407 = .ok (.invokevirtual 71, 3) := by decide +kernel
theorem d_L_law_410 : decode b_L_law 410 = .ok (.if_icmp .eq 193, 3) := by decide +kernel
theorem d_L_law_413 : decode b_L_law 413 = .ok (.iconst 0, 1) := by decide +kernel
theorem d_L_law_414 : decode b_L_law 414 = .ok (.ireturn, 1) := by decide +kernel
theorem d_L_law_415 : decode b_L_law 415 = .ok (.aload_n 1, 1) := by decide +kernel
theorem d_L_law_416 : decode b_L_law 416 = .ok (.aload_n 0, 1) := by decide +kernel
theorem d_L_law_417 : decode b_L_law 417 = .ok (.iload_n 3, 1) := by decide +kernel
theorem d_L_law_418 : decode b_L_law 418 = .ok (.iconst 1, 1) := by decide +kernel
theorem d_L_law_419 : decode b_L_law 419 = .ok (.iadd, 1) := by decide +kernel
theorem d_L_law_420 : decode b_L_law 420 = .ok (.iaload, 1) := by decide +kernel
theorem d_L_law_421 : decode b_L_law 421 = .ok (.aload_n 0, 1) := by decide +kernel
theorem d_L_law_422 : decode b_L_law 422 = .ok (.iload_n 3, 1) := by decide +kernel
theorem d_L_law_423 : decode b_L_law 423 = .ok (.iconst 2, 1) := by decide +kernel
theorem d_L_law_424 : decode b_L_law 424 = .ok (.iadd, 1) := by decide +kernel
theorem d_L_law_425 : decode b_L_law 425 = .ok (.iaload, 1) := by decide +kernel
theorem d_L_law_426 : decode b_L_law 426 = .ok (.invokevirtual 72, 3) := by decide +kernel
theorem d_L_law_429 : decode b_L_law 429 = .ok (.aload_n 2, 1) := by decide +kernel
theorem d_L_law_430 : decode b_L_law 430 = .ok (.aload_n 0, 1) := by decide +kernel
theorem d_L_law_431 : decode b_L_law 431 = .ok (.iload_n 3, 1) := by decide +kernel
theorem d_L_law_432 : decode b_L_law 432 = .ok (.iconst 1, 1) := by decide +kernel
theorem d_L_law_433 : decode b_L_law 433 = .ok (.iadd, 1) := by decide +kernel
theorem d_L_law_434 : decode b_L_law 434 = .ok (.iaload, 1) := by decide +kernel
theorem d_L_law_435 : decode b_L_law 435 = .ok (.aload_n 0, 1) := by decide +kernel
theorem d_L_law_436 : decode b_L_law 436 = .ok (.iload_n 3, 1) := by decide +kernel
theorem d_L_law_437 : decode b_L_law 437 = .ok (.iconst 2, 1) := by decide +kernel
theorem d_L_law_438 : decode b_L_law 438 = .ok (.iadd, 1) := by decide +kernel
theorem d_L_law_439 : decode b_L_law 439 = .ok (.iaload, 1) := by decide +kernel
theorem d_L_law_440 : decode b_L_law 440 = .ok (.invokevirtual 75, 3) := by decide +kernel
theorem d_L_law_443 : decode b_L_law 443 = .ok (.if_icmp .eq 160, 3) := by decide +kernel
theorem d_L_law_446 : decode b_L_law 446 = .ok (.iconst 0, 1) := by decide +kernel
theorem d_L_law_447 : decode b_L_law 447 = .ok (.ireturn, 1) := by decide +kernel
theorem d_L_law_448 : decode b_L_law 448 = .ok (.aload_n 1, 1) := by decide +kernel
theorem d_L_law_449 : decode b_L_law 449 = .ok (.aload_n 0, 1) := by decide +kernel
theorem d_L_law_450 : decode b_L_law 450 = .ok (.iload_n 3, 1) := by decide +kernel
theorem d_L_law_451 : decode b_L_law 451 = .ok (.iconst 1, 1) := by decide +kernel
theorem d_L_law_452 : decode b_L_law 452 = .ok (.iadd, 1) := by decide +kernel
theorem d_L_law_453 : decode b_L_law 453 = .ok (.iaload, 1) := by decide +kernel
theorem d_L_law_454 : decode b_L_law 454 = .ok (.invokevirtual 76, 3) := by decide +kernel
theorem d_L_law_457 : decode b_L_law 457 = .ok (.aload_n 2, 1) := by decide +kernel
theorem d_L_law_458 : decode b_L_law 458 = .ok (.aload_n 0, 1) := by decide +kernel
theorem d_L_law_459 : decode b_L_law 459 = .ok (.iload_n 3, 1) := by decide +kernel
theorem d_L_law_460 : decode b_L_law 460 = .ok (.iconst 1, 1) := by decide +kernel
theorem d_L_law_461 : decode b_L_law 461 = .ok (.iadd, 1) := by decide +kernel
theorem d_L_law_462 : decode b_L_law 462 = .ok (.iaload, 1) := by decide +kernel
theorem d_L_law_463 : decode b_L_law 463 = .ok (.invokevirtual 79, 3) := by decide +kernel
theorem d_L_law_466 : decode b_L_law 466 = .ok (.if_icmp .eq 137, 3) := by decide +kernel
theorem d_L_law_469 : decode b_L_law 469 = .ok (.iconst 0, 1) := by decide +kernel
theorem d_L_law_470 : decode b_L_law 470 = .ok (.ireturn, 1) := by decide +kernel
theorem d_L_law_471 : decode b_L_law 471 = .ok (.aload_n 1, 1) := by decide +kernel
theorem d_L_law_472 : decode b_L_law 472 = .ok (.aload_n 0, 1) := by decide +kernel
theorem d_L_law_473 : decode b_L_law 473 = .ok (.iload_n 3, 1) := by decide +kernel
theorem d_L_law_474 : decode b_L_law 474 = .ok (.iconst 1, 1) := by decide +kernel
theorem d_L_law_475 : decode b_L_law 475 = .ok (.iadd, 1) := by decide +kernel
theorem d_L_law_476 : decode b_L_law 476 = .ok (.iaload, 1) := by decide +kernel
theorem d_L_law_477 : decode b_L_law 477 = .ok (.aload_n 0, 1) := by decide +kernel
theorem d_L_law_478 : decode b_L_law 478 = .ok (.iload_n 3, 1) := by decide +kernel
theorem d_L_law_479 : decode b_L_law 479 = .ok (.iconst 2, 1) := by decide +kernel
theorem d_L_law_480 : decode b_L_law 480 = .ok (.iadd, 1) := by decide +kernel
theorem d_L_law_481 : decode b_L_law 481 = .ok (.iaload, 1) := by decide +kernel
theorem d_L_law_482 : decode b_L_law 482 = .ok (.invokevirtual 80, 3) := by decide +kernel
theorem d_L_law_485 : decode b_L_law 485 = .ok (.aload_n 2, 1) := by decide +kernel
theorem d_L_law_486 : decode b_L_law 486 = .ok (.aload_n 0, 1) := by decide +kernel
theorem d_L_law_487 : decode b_L_law 487 = .ok (.iload_n 3, 1) := by decide +kernel
theorem d_L_law_488 : decode b_L_law 488 = .ok (.iconst 1, 1) := by decide +kernel
theorem d_L_law_489 : decode b_L_law 489 = .ok (.iadd, 1) := by decide +kernel
theorem d_L_law_490 : decode b_L_law 490 = .ok (.iaload, 1) := by decide +kernel
theorem d_L_law_491 : decode b_L_law 491 = .ok (.aload_n 0, 1) := by decide +kernel
theorem d_L_law_492 : decode b_L_law 492 = .ok (.iload_n 3, 1) := by decide +kernel
theorem d_L_law_493 : decode b_L_law 493 = .ok (.iconst 2, 1) := by decide +kernel
theorem d_L_law_494 : decode b_L_law 494 = .ok (.iadd, 1) := by decide +kernel
theorem d_L_law_495 : decode b_L_law 495 = .ok (.iaload, 1) := by decide +kernel
theorem d_L_law_496 : decode b_L_law 496 = .ok (.invokevirtual 84, 3) := by decide +kernel
theorem d_L_law_499 : decode b_L_law 499 = .ok (.if_icmp .eq 104, 3) := by decide +kernel
theorem d_L_law_502 : decode b_L_law 502 = .ok (.iconst 0, 1) := by decide +kernel
theorem d_L_law_503 : decode b_L_law 503 = .ok (.ireturn, 1) := by decide +kernel
theorem d_L_law_504 : decode b_L_law 504 = .ok (.aload_n 1, 1) := by decide +kernel
theorem d_L_law_505 : decode b_L_law 505 = .ok (.aload_n 0, 1) := by decide +kernel
theorem d_L_law_506 : decode b_L_law 506 = .ok (.iload_n 3, 1) := by decide +kernel
theorem d_L_law_507 : decode b_L_law 507 = .ok (.iconst 1, 1) := by decide +kernel
theorem d_L_law_508 : decode b_L_law 508 = .ok (.iadd, 1) := by decide +kernel
theorem d_L_law_509 : decode b_L_law 509 = .ok (.iaload, 1) := by decide +kernel
theorem d_L_law_510 : decode b_L_law 510 = .ok (.aload_n 0, 1) := by decide +kernel
theorem d_L_law_511 : decode b_L_law 511 = .ok (.iload_n 3, 1) := by decide +kernel
theorem d_L_law_512 : decode b_L_law 512 = .ok (.iconst 2, 1) := by decide +kernel
theorem d_L_law_513 : decode b_L_law 513 = .ok (.iadd, 1) := by decide +kernel
theorem d_L_law_514 : decode b_L_law 514 = .ok (.iaload, 1) := by decide +kernel
theorem d_L_law_515 : decode b_L_law 515 = .ok (.invokevirtual 85, 3) := by decide +kernel
theorem d_L_law_518 : decode b_L_law 518 = .ok (.aload_n 2, 1) := by decide +kernel
theorem d_L_law_519 : decode b_L_law 519 = .ok (.aload_n 0, 1) := by decide +kernel
theorem d_L_law_520 : decode b_L_law 520 = .ok (.iload_n 3, 1) := by decide +kernel
theorem d_L_law_521 : decode b_L_law 521 = .ok (.iconst 1, 1) := by decide +kernel
theorem d_L_law_522 : decode b_L_law 522 = .ok (.iadd, 1) := by decide +kernel
theorem d_L_law_523 : decode b_L_law 523 = .ok (.iaload, 1) := by decide +kernel
theorem d_L_law_524 : decode b_L_law 524 = .ok (.aload_n 0, 1) := by decide +kernel
theorem d_L_law_525 : decode b_L_law 525 = .ok (.iload_n 3, 1) := by decide +kernel
theorem d_L_law_526 : decode b_L_law 526 = .ok (.iconst 2, 1) := by decide +kernel
theorem d_L_law_527 : decode b_L_law 527 = .ok (.iadd, 1) := by decide +kernel
theorem d_L_law_528 : decode b_L_law 528 = .ok (.iaload, 1) := by decide +kernel
theorem d_L_law_529 : decode b_L_law 529 = .ok (.invokevirtual 88, 3) := by decide +kernel
theorem d_L_law_532 : decode b_L_law 532 = .ok (.if_icmp .eq 71, 3) := by decide +kernel
theorem d_L_law_535 : decode b_L_law 535 = .ok (.iconst 0, 1) := by decide +kernel
theorem d_L_law_536 : decode b_L_law 536 = .ok (.ireturn, 1) := by decide +kernel
theorem d_L_law_537 : decode b_L_law 537 = .ok (.aload_n 1, 1) := by decide +kernel
theorem d_L_law_538 : decode b_L_law 538 = .ok (.aload_n 0, 1) := by decide +kernel
theorem d_L_law_539 : decode b_L_law 539 = .ok (.iload_n 3, 1) := by decide +kernel
theorem d_L_law_540 : decode b_L_law 540 = .ok (.iconst 1, 1) := by decide +kernel
theorem d_L_law_541 : decode b_L_law 541 = .ok (.iadd, 1) := by decide +kernel
theorem d_L_law_542 : decode b_L_law 542 = .ok (.iaload, 1) := by decide +kernel
theorem d_L_law_543 : decode b_L_law 543 = .ok (.aload_n 0, 1) := by decide +kernel
theorem d_L_law_544 : decode b_L_law 544 = .ok (.iload_n 3, 1) := by decide +kernel
theorem d_L_law_545 : decode b_L_law 545 = .ok (.iconst 2, 1) := by decide +kernel
theorem d_L_law_546 : decode b_L_law 546 = .ok (.iadd, 1) := by decide +kernel
theorem d_L_law_547 : decode b_L_law 547 = .ok (.iaload, 1) := by decide +kernel
theorem d_L_law_548 : decode b_L_law 548 = .ok (.aload_n 0, 1) := by decide +kernel
theorem d_L_law_549 : decode b_L_law 549 = .ok (.iload_n 3, 1) := by decide +kernel
theorem d_L_law_550 : decode b_L_law 550 = .ok (.iconst 3, 1) := by decide +kernel
theorem d_L_law_551 : decode b_L_law 551 = .ok (.iadd, 1) := by decide +kernel
theorem d_L_law_552 : decode b_L_law 552 = .ok (.iaload, 1) := by decide +kernel
theorem d_L_law_553 : decode b_L_law 553 = .ok (.invokevirtual 89, 3) := by decide +kernel
theorem d_L_law_556 : decode b_L_law 556 = .ok (.aload_n 2, 1) := by decide +kernel
theorem d_L_law_557 : decode b_L_law 557 = .ok (.aload_n 0, 1) := by decide +kernel
theorem d_L_law_558 : decode b_L_law 558 = .ok (.iload_n 3, 1) := by decide +kernel
theorem d_L_law_559 : decode b_L_law 559 = .ok (.iconst 1, 1) := by decide +kernel
theorem d_L_law_560 : decode b_L_law 560 = .ok (.iadd, 1) := by decide +kernel
theorem d_L_law_561 : decode b_L_law 561 = .ok (.iaload, 1) := by decide +kernel
theorem d_L_law_562 : decode b_L_law 562 = .ok (.aload_n 0, 1) := by decide +kernel
theorem d_L_law_563 : decode b_L_law 563 = .ok (.iload_n 3, 1) := by decide +kernel
theorem d_L_law_564 : decode b_L_law 564 = .ok (.iconst 2, 1) := by decide +kernel
theorem d_L_law_565 : decode b_L_law 565 = .ok (.iadd, 1) := by decide +kernel
theorem d_L_law_566 : decode b_L_law 566 = .ok (.iaload, 1) := by decide +kernel
theorem d_L_law_567 : decode b_L_law 567 = .ok (.aload_n 0, 1) := by decide +kernel
theorem d_L_law_568 : decode b_L_law 568 = .ok (.iload_n 3, 1) := by decide +kernel
theorem d_L_law_569 : decode b_L_law 569 = .ok (.iconst 3, 1) := by decide +kernel
theorem d_L_law_570 : decode b_L_law 570 = .ok (.iadd, 1) := by decide +kernel
theorem d_L_law_571 : decode b_L_law 571 = .ok (.iaload, 1) := by decide +kernel
theorem d_L_law_572 : decode b_L_law 572 = .ok (.invokevirtual 93, 3) := by decide +kernel
theorem d_L_law_575 : decode b_L_law 575 = .ok (.if_icmp .eq 28, 3) := by decide +kernel
theorem d_L_law_578 : decode b_L_law 578 = .ok (.iconst 0, 1) := by decide +kernel
theorem d_L_law_579 : decode b_L_law 579 = .ok (.ireturn, 1) := by decide +kernel
theorem d_L_law_580 : decode b_L_law 580 = .ok (.aload_n 1, 1) := by decide +kernel
theorem d_L_law_581 : decode b_L_law 581 = .ok (.aload_n 0, 1) := by decide +kernel
theorem d_L_law_582 : decode b_L_law 582 = .ok (.iload_n 3, 1) := by decide +kernel
theorem d_L_law_583 : decode b_L_law 583 = .ok (.iconst 1, 1) := by decide +kernel
theorem d_L_law_584 : decode b_L_law 584 = .ok (.iadd, 1) := by decide +kernel
theorem d_L_law_585 : decode b_L_law 585 = .ok (.iaload, 1) := by decide +kernel
theorem d_L_law_586 : decode b_L_law 586 = .ok (.invokevirtual 94, 3) := by decide +kernel
theorem d_L_law_589 : decode b_L_law 589 = .ok (.aload_n 2, 1) := by decide +kernel
theorem d_L_law_590 : decode b_L_law 590 = .ok (.aload_n 0, 1) := by decide +kernel
theorem d_L_law_591 : decode b_L_law 591 = .ok (.iload_n 3, 1) := by decide +kernel
theorem d_L_law_592 : decode b_L_law 592 = .ok (.iconst 1, 1) := by decide +kernel
theorem d_L_law_593 : decode b_L_law 593 = .ok (.iadd, 1) := by decide +kernel
theorem d_L_law_594 : decode b_L_law 594 = .ok (.iaload, 1) := by decide +kernel
theorem d_L_law_595 : decode b_L_law 595 = .ok (.invokevirtual 97, 3) := by decide +kernel
theorem d_L_law_598 : decode b_L_law 598 = .ok (.if_icmp .eq 5, 3) := by decide +kernel
theorem d_L_law_601 : decode b_L_law 601 = .ok (.iconst 0, 1) := by decide +kernel
theorem d_L_law_602 : decode b_L_law 602 = .ok (.ireturn, 1) := by decide +kernel
theorem d_L_law_603 : decode b_L_law 603 = .ok (.iinc 3 5, 3) := by decide +kernel
theorem d_L_law_606 : decode b_L_law 606 = .ok (.goto (-568), 3) := by decide +kernel
theorem d_L_law_609 : decode b_L_law 609 = .ok (.iconst 1, 1) := by decide +kernel
theorem d_L_law_610 : decode b_L_law 610 = .ok (.ireturn, 1) := by decide +kernel
end
section
/-! BASE: NONE or a number; a truth value as the machine has it -/
def rt_o : Option Nat → Int32
  | none => -1
  | some k => nI k
def rt_b (b : Bool) : Int32 := if b = true then 1 else 0
end
section
/-! ROWS of instructions on numbers that are nI of a Nat: they follow the kit's rows, with the number told as a Nat -/
section RWS
variable {p : Program} {l : Launch} {e : Env} {R : Room} {s : State} {m : MethodId} {args : Array Value} {below : List Frame} {meth : Method} {c : Code} {H : Heap} {locs : List Loc} {cells slots : Nat} {Q : State → Prop}
variable {cc : ByteArray} {pc : Nat} {ls : Array Slot} {rest : List Value}
theorem rw_s : ∀ n, n < 32 → ((nI n &&& 31).toBitVec.smod 32).toNat = n := by decide +kernel
theorem rw_nand (a b : Nat) : nI a &&& nI b = nI (a &&& b) := by
  apply Int32.toBitVec_inj.1
  show BitVec.ofNat 32 a &&& BitVec.ofNat 32 b = BitVec.ofNat 32 (a &&& b)
  apply BitVec.eq_of_getLsbD_eq
  intro i hi
  simp [hi]
theorem rw_nxor (a b : Nat) : nI a ^^^ nI b = nI (a ^^^ b) := by
  apply Int32.toBitVec_inj.1
  show BitVec.ofNat 32 a ^^^ BitVec.ofNat 32 b = BitVec.ofNat 32 (a ^^^ b)
  apply BitVec.eq_of_getLsbD_eq
  intro i hi
  simp [hi]
theorem rw_nor (a b : Nat) : nI a ||| nI b = nI (a ||| b) := by
  apply Int32.toBitVec_inj.1
  show BitVec.ofNat 32 a ||| BitVec.ofNat 32 b = BitVec.ofNat 32 (a ||| b)
  apply BitVec.eq_of_getLsbD_eq
  intro i hi
  simp [hi]
theorem rw_add (hx : p.tables.exec = Jvm.exec) (hb : c.code = cc) {a b : Nat} (hdg : decode cc pc = .ok (.iadd, 1)) (k : W p l e R s m args below meth c H locs cells slots Q (F0 m (pc + 1) ls (.int (nI (a + b)) :: rest))) : W p l e R s m args below meth c H locs cells slots Q (F0 m pc ls (.int (nI b) :: .int (nI a) :: rest)) := lv_iadd hx hb hdg (by rw [nI_add]; exact k)
theorem rw_mul (hx : p.tables.exec = Jvm.exec) (hb : c.code = cc) {a b : Nat} (hdg : decode cc pc = .ok (.imul, 1)) (k : W p l e R s m args below meth c H locs cells slots Q (F0 m (pc + 1) ls (.int (nI (a * b)) :: rest))) : W p l e R s m args below meth c H locs cells slots Q (F0 m pc ls (.int (nI b) :: .int (nI a) :: rest)) := lv_imul hx hb hdg (by rw [pk_mul]; exact k)
theorem rw_sub (hx : p.tables.exec = Jvm.exec) (hb : c.code = cc) {a b : Nat} (hdg : decode cc pc = .ok (.isub, 1)) (h : b ≤ a) (k : W p l e R s m args below meth c H locs cells slots Q (F0 m (pc + 1) ls (.int (nI (a - b)) :: rest))) : W p l e R s m args below meth c H locs cells slots Q (F0 m pc ls (.int (nI b) :: .int (nI a) :: rest)) := lv_isub hx hb hdg (by rw [pk_sub h]; exact k)
theorem rw_and (hx : p.tables.exec = Jvm.exec) (hb : c.code = cc) {a b : Nat} (hdg : decode cc pc = .ok (.iand, 1)) (k : W p l e R s m args below meth c H locs cells slots Q (F0 m (pc + 1) ls (.int (nI (a &&& b)) :: rest))) : W p l e R s m args below meth c H locs cells slots Q (F0 m pc ls (.int (nI b) :: .int (nI a) :: rest)) := lv_iand hx hb hdg (by rw [rw_nand]; exact k)
theorem rw_xor (hx : p.tables.exec = Jvm.exec) (hb : c.code = cc) {a b : Nat} (hdg : decode cc pc = .ok (.ixor, 1)) (k : W p l e R s m args below meth c H locs cells slots Q (F0 m (pc + 1) ls (.int (nI (a ^^^ b)) :: rest))) : W p l e R s m args below meth c H locs cells slots Q (F0 m pc ls (.int (nI b) :: .int (nI a) :: rest)) := lv_ixor hx hb hdg (by rw [rw_nxor]; exact k)
theorem rw_or (hx : p.tables.exec = Jvm.exec) (hb : c.code = cc) {a b : Nat} (hdg : decode cc pc = .ok (.ior, 1)) (k : W p l e R s m args below meth c H locs cells slots Q (F0 m (pc + 1) ls (.int (nI (a ||| b)) :: rest))) : W p l e R s m args below meth c H locs cells slots Q (F0 m pc ls (.int (nI b) :: .int (nI a) :: rest)) := lv_ior hx hb hdg (by rw [rw_nor]; exact k)
theorem rw_div (hx : p.tables.exec = Jvm.exec) (hb : c.code = cc) {a b : Nat} (hdg : decode cc pc = .ok (.idiv, 1)) (h0 : 0 < b) (h1 : a < 2 ^ 31) (h2 : b < 2 ^ 31) (k : W p l e R s m args below meth c H locs cells slots Q (F0 m (pc + 1) ls (.int (nI (a / b)) :: rest))) : W p l e R s m args below meth c H locs cells slots Q (F0 m pc ls (.int (nI b) :: .int (nI a) :: rest)) := lv_idiv hx hb hdg (nI_ne0 h0 h2) (by rw [pk_div h1 h0 h2]; exact k)
theorem rw_rem (hx : p.tables.exec = Jvm.exec) (hb : c.code = cc) {a b : Nat} (hdg : decode cc pc = .ok (.irem, 1)) (h0 : 0 < b) (h1 : a < 2 ^ 31) (h2 : b < 2 ^ 31) (k : W p l e R s m args below meth c H locs cells slots Q (F0 m (pc + 1) ls (.int (nI (a % b)) :: rest))) : W p l e R s m args below meth c H locs cells slots Q (F0 m pc ls (.int (nI b) :: .int (nI a) :: rest)) := lv_irem hx hb hdg (nI_ne0 h0 h2) (by rw [pk_rem h1 h0 h2]; exact k)
theorem rw_shl (hx : p.tables.exec = Jvm.exec) (hb : c.code = cc) {a b : Nat} (hdg : decode cc pc = .ok (.ishl, 1)) (h0 : b < 32) (h1 : a * 2 ^ b < 2 ^ 32) (k : W p l e R s m args below meth c H locs cells slots Q (F0 m (pc + 1) ls (.int (nI (a * 2 ^ b)) :: rest))) : W p l e R s m args below meth c H locs cells slots Q (F0 m pc ls (.int (nI b) :: .int (nI a) :: rest)) := lv_ishl hx hb hdg (by rw [pk_shlN _ b (rw_s b h0) h1]; exact k)
theorem rw_shr (hx : p.tables.exec = Jvm.exec) (hb : c.code = cc) {a b : Nat} (hdg : decode cc pc = .ok (.ishr, 1)) (h0 : b < 32) (h1 : a < 2 ^ 31) (k : W p l e R s m args below meth c H locs cells slots Q (F0 m (pc + 1) ls (.int (nI (a / 2 ^ b)) :: rest))) : W p l e R s m args below meth c H locs cells slots Q (F0 m pc ls (.int (nI b) :: .int (nI a) :: rest)) := lv_ishr hx hb hdg (by rw [pk_shrN h1 _ b (rw_s b h0)]; exact k)
theorem rw_top {a b : Nat} (h : a = b) (k : W p l e R s m args below meth c H locs cells slots Q (F0 m pc ls (.int (nI b) :: rest))) : W p l e R s m args below meth c H locs cells slots Q (F0 m pc ls (.int (nI a) :: rest)) := by rw [h]; exact k
theorem rw_topI {a b : Int32} (h : a = b) (k : W p l e R s m args below meth c H locs cells slots Q (F0 m pc ls (.int b :: rest))) : W p l e R s m args below meth c H locs cells slots Q (F0 m pc ls (.int a :: rest)) := by rw [h]; exact k
theorem rw_ceq (hx : p.tables.exec = Jvm.exec) (hb : c.code = cc) {a b : Nat} {off : Int} {tgt : Nat} (hdg : decode cc pc = .ok (.if_icmp .eq off, 3)) (ht : (pc : Int) + off = (tgt : Int)) (h1 : a < 2 ^ 31) (h2 : b < 2 ^ 31) (kt : a = b → W p l e R s m args below meth c H locs cells slots Q (F0 m tgt ls rest)) (kf : ¬ (a = b) → W p l e R s m args below meth c H locs cells slots Q (F0 m (pc + 3) ls rest)) : W p l e R s m args below meth c H locs cells slots Q (F0 m pc ls (.int (nI b) :: .int (nI a) :: rest)) := lv_icmp_eq hx hb hdg ht (fun q => kt ((nI_eq h1 h2).mp q)) (fun q => kf (fun z => q ((nI_eq h1 h2).mpr z)))
theorem rw_cne (hx : p.tables.exec = Jvm.exec) (hb : c.code = cc) {a b : Nat} {off : Int} {tgt : Nat} (hdg : decode cc pc = .ok (.if_icmp .ne off, 3)) (ht : (pc : Int) + off = (tgt : Int)) (h1 : a < 2 ^ 31) (h2 : b < 2 ^ 31) (kt : ¬ a = b → W p l e R s m args below meth c H locs cells slots Q (F0 m tgt ls rest)) (kf : a = b → W p l e R s m args below meth c H locs cells slots Q (F0 m (pc + 3) ls rest)) : W p l e R s m args below meth c H locs cells slots Q (F0 m pc ls (.int (nI b) :: .int (nI a) :: rest)) := lv_icmp_ne hx hb hdg ht (fun q => kt ((not_congr (nI_eq h1 h2)).mp q)) (fun q => kf ((nI_eq h1 h2).mp q))
theorem rw_clt (hx : p.tables.exec = Jvm.exec) (hb : c.code = cc) {a b : Nat} {off : Int} {tgt : Nat} (hdg : decode cc pc = .ok (.if_icmp .lt off, 3)) (ht : (pc : Int) + off = (tgt : Int)) (h1 : a < 2 ^ 31) (h2 : b < 2 ^ 31) (kt : a < b → W p l e R s m args below meth c H locs cells slots Q (F0 m tgt ls rest)) (kf : ¬ (a < b) → W p l e R s m args below meth c H locs cells slots Q (F0 m (pc + 3) ls rest)) : W p l e R s m args below meth c H locs cells slots Q (F0 m pc ls (.int (nI b) :: .int (nI a) :: rest)) := lv_icmp_lt hx hb hdg ht (fun q => kt ((nI_ltI h1 h2).mp q)) (fun q => kf (fun z => q ((nI_ltI h1 h2).mpr z)))
theorem rw_cge (hx : p.tables.exec = Jvm.exec) (hb : c.code = cc) {a b : Nat} {off : Int} {tgt : Nat} (hdg : decode cc pc = .ok (.if_icmp .ge off, 3)) (ht : (pc : Int) + off = (tgt : Int)) (h1 : a < 2 ^ 31) (h2 : b < 2 ^ 31) (kt : b ≤ a → W p l e R s m args below meth c H locs cells slots Q (F0 m tgt ls rest)) (kf : ¬ (b ≤ a) → W p l e R s m args below meth c H locs cells slots Q (F0 m (pc + 3) ls rest)) : W p l e R s m args below meth c H locs cells slots Q (F0 m pc ls (.int (nI b) :: .int (nI a) :: rest)) := lv_icmp_ge hx hb hdg ht (fun q => kt ((nI_leI h2 h1).mp q)) (fun q => kf (fun z => q ((nI_leI h2 h1).mpr z)))
theorem rw_cgt (hx : p.tables.exec = Jvm.exec) (hb : c.code = cc) {a b : Nat} {off : Int} {tgt : Nat} (hdg : decode cc pc = .ok (.if_icmp .gt off, 3)) (ht : (pc : Int) + off = (tgt : Int)) (h1 : a < 2 ^ 31) (h2 : b < 2 ^ 31) (kt : b < a → W p l e R s m args below meth c H locs cells slots Q (F0 m tgt ls rest)) (kf : ¬ (b < a) → W p l e R s m args below meth c H locs cells slots Q (F0 m (pc + 3) ls rest)) : W p l e R s m args below meth c H locs cells slots Q (F0 m pc ls (.int (nI b) :: .int (nI a) :: rest)) := lv_icmp_gt hx hb hdg ht (fun q => kt ((nI_ltI h2 h1).mp q)) (fun q => kf (fun z => q ((nI_ltI h2 h1).mpr z)))
theorem rw_cle (hx : p.tables.exec = Jvm.exec) (hb : c.code = cc) {a b : Nat} {off : Int} {tgt : Nat} (hdg : decode cc pc = .ok (.if_icmp .le off, 3)) (ht : (pc : Int) + off = (tgt : Int)) (h1 : a < 2 ^ 31) (h2 : b < 2 ^ 31) (kt : a ≤ b → W p l e R s m args below meth c H locs cells slots Q (F0 m tgt ls rest)) (kf : ¬ (a ≤ b) → W p l e R s m args below meth c H locs cells slots Q (F0 m (pc + 3) ls rest)) : W p l e R s m args below meth c H locs cells slots Q (F0 m pc ls (.int (nI b) :: .int (nI a) :: rest)) := lv_icmp_le hx hb hdg ht (fun q => kt ((nI_leI h1 h2).mp q)) (fun q => kf (fun z => q ((nI_leI h1 h2).mpr z)))
theorem rw_zeq (hx : p.tables.exec = Jvm.exec) (hb : c.code = cc) {a : Nat} {off : Int} {tgt : Nat} (hdg : decode cc pc = .ok (.ifCond .eq off, 3)) (ht : (pc : Int) + off = (tgt : Int)) (h1 : a < 2 ^ 31) (kt : a = 0 → W p l e R s m args below meth c H locs cells slots Q (F0 m tgt ls rest)) (kf : ¬ (a = 0) → W p l e R s m args below meth c H locs cells slots Q (F0 m (pc + 3) ls rest)) : W p l e R s m args below meth c H locs cells slots Q (F0 m pc ls (.int (nI a) :: rest)) := lv_if_eq hx hb hdg ht (fun q => kt ((nI_eq h1 (by omega : 0 < 2 ^ 31)).mp q)) (fun q => kf (fun z => q ((nI_eq h1 (by omega : 0 < 2 ^ 31)).mpr z)))
theorem rw_zne (hx : p.tables.exec = Jvm.exec) (hb : c.code = cc) {a : Nat} {off : Int} {tgt : Nat} (hdg : decode cc pc = .ok (.ifCond .ne off, 3)) (ht : (pc : Int) + off = (tgt : Int)) (h1 : a < 2 ^ 31) (kt : ¬ a = 0 → W p l e R s m args below meth c H locs cells slots Q (F0 m tgt ls rest)) (kf : a = 0 → W p l e R s m args below meth c H locs cells slots Q (F0 m (pc + 3) ls rest)) : W p l e R s m args below meth c H locs cells slots Q (F0 m pc ls (.int (nI a) :: rest)) := lv_if_ne hx hb hdg ht (fun q => kt ((not_congr (nI_eq h1 (by omega : 0 < 2 ^ 31))).mp q)) (fun q => kf ((nI_eq h1 (by omega : 0 < 2 ^ 31)).mp q))
theorem rw_zlt (hx : p.tables.exec = Jvm.exec) (hb : c.code = cc) {a : Nat} {off : Int} {tgt : Nat} (hdg : decode cc pc = .ok (.ifCond .lt off, 3)) (ht : (pc : Int) + off = (tgt : Int)) (h1 : a < 2 ^ 31) (kt : a < 0 → W p l e R s m args below meth c H locs cells slots Q (F0 m tgt ls rest)) (kf : ¬ (a < 0) → W p l e R s m args below meth c H locs cells slots Q (F0 m (pc + 3) ls rest)) : W p l e R s m args below meth c H locs cells slots Q (F0 m pc ls (.int (nI a) :: rest)) := lv_if_lt hx hb hdg ht (fun q => kt ((nI_ltI h1 (by omega : 0 < 2 ^ 31)).mp q)) (fun q => kf (fun z => q ((nI_ltI h1 (by omega : 0 < 2 ^ 31)).mpr z)))
theorem rw_zge (hx : p.tables.exec = Jvm.exec) (hb : c.code = cc) {a : Nat} {off : Int} {tgt : Nat} (hdg : decode cc pc = .ok (.ifCond .ge off, 3)) (ht : (pc : Int) + off = (tgt : Int)) (h1 : a < 2 ^ 31) (kt : 0 ≤ a → W p l e R s m args below meth c H locs cells slots Q (F0 m tgt ls rest)) (kf : ¬ (0 ≤ a) → W p l e R s m args below meth c H locs cells slots Q (F0 m (pc + 3) ls rest)) : W p l e R s m args below meth c H locs cells slots Q (F0 m pc ls (.int (nI a) :: rest)) := lv_if_ge hx hb hdg ht (fun q => kt ((nI_leI (by omega : 0 < 2 ^ 31) h1).mp q)) (fun q => kf (fun z => q ((nI_leI (by omega : 0 < 2 ^ 31) h1).mpr z)))
theorem rw_zgt (hx : p.tables.exec = Jvm.exec) (hb : c.code = cc) {a : Nat} {off : Int} {tgt : Nat} (hdg : decode cc pc = .ok (.ifCond .gt off, 3)) (ht : (pc : Int) + off = (tgt : Int)) (h1 : a < 2 ^ 31) (kt : 0 < a → W p l e R s m args below meth c H locs cells slots Q (F0 m tgt ls rest)) (kf : ¬ (0 < a) → W p l e R s m args below meth c H locs cells slots Q (F0 m (pc + 3) ls rest)) : W p l e R s m args below meth c H locs cells slots Q (F0 m pc ls (.int (nI a) :: rest)) := lv_if_gt hx hb hdg ht (fun q => kt ((nI_ltI (by omega : 0 < 2 ^ 31) h1).mp q)) (fun q => kf (fun z => q ((nI_ltI (by omega : 0 < 2 ^ 31) h1).mpr z)))
theorem rw_zle (hx : p.tables.exec = Jvm.exec) (hb : c.code = cc) {a : Nat} {off : Int} {tgt : Nat} (hdg : decode cc pc = .ok (.ifCond .le off, 3)) (ht : (pc : Int) + off = (tgt : Int)) (h1 : a < 2 ^ 31) (kt : a ≤ 0 → W p l e R s m args below meth c H locs cells slots Q (F0 m tgt ls rest)) (kf : ¬ (a ≤ 0) → W p l e R s m args below meth c H locs cells slots Q (F0 m (pc + 3) ls rest)) : W p l e R s m args below meth c H locs cells slots Q (F0 m pc ls (.int (nI a) :: rest)) := lv_if_le hx hb hdg ht (fun q => kt ((nI_leI h1 (by omega : 0 < 2 ^ 31)).mp q)) (fun q => kf (fun z => q ((nI_leI h1 (by omega : 0 < 2 ^ 31)).mpr z)))
theorem rw_beq (hx : p.tables.exec = Jvm.exec) (hb : c.code = cc) {b : Bool} {off : Int} {tgt : Nat} (hdg : decode cc pc = .ok (.ifCond .eq off, 3)) (ht : (pc : Int) + off = (tgt : Int)) (kt : b = false → W p l e R s m args below meth c H locs cells slots Q (F0 m tgt ls rest)) (kf : b = true → W p l e R s m args below meth c H locs cells slots Q (F0 m (pc + 3) ls rest)) : W p l e R s m args below meth c H locs cells slots Q (F0 m pc ls (.int (rt_b b) :: rest)) := by
  cases b with
  | false => exact lv_if_eq hx hb hdg ht (fun _ => kt rfl) (fun q => absurd rfl q)
  | true => exact lv_if_eq hx hb hdg ht (fun q => absurd q (by decide)) (fun _ => kf rfl)
theorem rw_bne (hx : p.tables.exec = Jvm.exec) (hb : c.code = cc) {b : Bool} {off : Int} {tgt : Nat} (hdg : decode cc pc = .ok (.ifCond .ne off, 3)) (ht : (pc : Int) + off = (tgt : Int)) (kt : b = true → W p l e R s m args below meth c H locs cells slots Q (F0 m tgt ls rest)) (kf : b = false → W p l e R s m args below meth c H locs cells slots Q (F0 m (pc + 3) ls rest)) : W p l e R s m args below meth c H locs cells slots Q (F0 m pc ls (.int (rt_b b) :: rest)) := by
  cases b with
  | false => exact lv_if_ne hx hb hdg ht (fun q => absurd rfl q) (fun _ => kf rfl)
  | true => exact lv_if_ne hx hb hdg ht (fun _ => kt rfl) (fun q => absurd q (by decide))
end RWS
end
section
/-! PURE: the map's geometry, runs, open runs, next runs: one mathematical picture to which both the class and the reference are tied. -/
/-- the tile beyond an edge (0 west, 1 north, 2 east, 3 south) -/
def rt_nb (w h t e : Nat) : Option Nat :=
  if e = 0 then (if t % w = 0 then none else some (t - 1))
  else if e = 1 then (if t / w = 0 then none else some (t - w))
  else if e = 2 then (if t % w + 1 = w then none else some (t + 1))
  else (if t / w + 1 = h then none else some (t + w))
def rt_to (l : Nat) : Nat := [2, 0, 3, 1, 2, 1, 2, 3, 0, 3, 0, 1].getD l 0
def rt_bg (k : Nat) : Nat := [1, 5, 7, 3, 6, 8, 0, 9, 11, 2, 4, 10].getD k 0
/-- the run the other way -/
def rt_rv (r : Nat) : Nat := if r % 2 = 0 then r + 1 else r - 1
/-- of the three runs that could begin where a run ends, the i-th -/
def rt_ah (w h r i : Nat) : Option Nat := (rt_nb w h (r / 12) (rt_to (r % 12))).map (fun t => 12 * t + rt_bg (3 * rt_to (r % 12) + i))
def rt_g (Q : Nat → Nat) (p : Nat) : Nat := Q p / 4 % 8
def rt_s (Q : Nat → Nat) (p : Nat) : Nat := Q p / 32
/-- the piece's signal is for this run -/
def rt_hs (Q : Nat → Nat) (r : Nat) : Bool := decide (rt_g Q (r / 2) ≠ 0) && decide ((rt_g Q (r / 2) - 1) % 2 = r % 2)
def rt_op (Q : Nat → Nat) (n r : Nat) : Bool := decide (r < 12 * n) && decide (Q (r / 2) ≠ 0) && !(rt_hs Q (rt_rv r))
/-- the first i of the next runs that could be -/
def rt_px (Q : Nat → Nat) (w h r i : Nat) : List Nat := (List.range i).filterMap (fun i => (rt_ah w h r i).filter (rt_op Q (w * h)))
def rt_nx (Q : Nat → Nat) (w h r : Nat) : List Nat := rt_px Q w h r 3
/-- what a state of the map may be: 0, or 1 and 4 times a signal 0 .. 4 and 32 times a station 0 .. 8; nothing beyond the map -/
def rt_ok (Q : Nat → Nat) (n : Nat) : Prop := (∀ p, n ≤ p → Q p = 0) ∧ ∀ p, Q p = 0 ∨ ∃ g s, g ≤ 4 ∧ s ≤ 8 ∧ Q p = 1 + 4 * g + 32 * s
theorem rt_ok_lt {Q : Nat → Nat} {n : Nat} (h : rt_ok Q n) (p : Nat) : Q p < 512 := by
  rcases h.2 p with h | ⟨g, s, h1, h2, h3⟩ <;> omega
theorem rt_ok_g {Q : Nat → Nat} {n : Nat} (h : rt_ok Q n) (p : Nat) : rt_g Q p ≤ 4 := by
  unfold rt_g
  rcases h.2 p with h | ⟨g, s, h1, h2, h3⟩ <;> omega
theorem rt_ok_s {Q : Nat → Nat} {n : Nat} (h : rt_ok Q n) (p : Nat) : rt_s Q p ≤ 8 := by
  unfold rt_s
  rcases h.2 p with h | ⟨g, s, h1, h2, h3⟩ <;> omega
theorem rt_ok_eq {Q : Nat → Nat} {n : Nat} (h : rt_ok Q n) {p : Nat} (hp : Q p ≠ 0) : Q p = 1 + 4 * rt_g Q p + 32 * rt_s Q p := by
  unfold rt_g rt_s
  rcases h.2 p with h | ⟨g, s, h1, h2, h3⟩ <;> omega
theorem rt_ok_0 {Q : Nat → Nat} {p : Nat} (hp : Q p = 0) : rt_g Q p = 0 ∧ rt_s Q p = 0 := by
  unfold rt_g rt_s
  rw [hp]
  exact ⟨rfl, rfl⟩
theorem rt_ok_in {Q : Nat → Nat} {n : Nat} (h : rt_ok Q n) {p : Nat} (hp : Q p ≠ 0) : p < n := by
  rcases Nat.lt_or_ge p n with q | q
  · exact q
  · exact absurd (h.1 p q) hp
theorem rt_to_lt : ∀ l, l < 12 → rt_to l < 4 := by decide +kernel
theorem rt_bg_lt : ∀ k, k < 12 → rt_bg k < 12 := by decide +kernel
theorem rt_rv_rv (r : Nat) : rt_rv (rt_rv r) = r := by
  unfold rt_rv
  split <;> split <;> omega
theorem rt_rv_2 (r : Nat) : rt_rv r / 2 = r / 2 := by
  unfold rt_rv
  split <;> omega
theorem rt_rv_12 (r : Nat) : rt_rv r / 12 = r / 12 := by
  unfold rt_rv
  split <;> omega
theorem rt_rv_m (r : Nat) : rt_rv r % 12 = rt_rv (r % 12) := by
  unfold rt_rv
  split <;> split <;> omega
theorem rt_rv_p (r : Nat) : rt_rv r % 2 = 1 - r % 2 := by
  unfold rt_rv
  split <;> omega
theorem rt_rv_lt {r n : Nat} (h : r < 12 * n) : rt_rv r < 12 * n := by
  unfold rt_rv
  split <;> omega
theorem rt_rv_xor (r : Nat) : r ^^^ 1 = rt_rv r := by
  have h1 : (r ^^^ 1) % 2 = 1 - r % 2 := by
    have h0 := @Nat.xor_mod_two_eq_one r 1
    by_cases hr : r % 2 = 1
    · have h9 : ¬ ((r ^^^ 1) % 2 = 1) := fun q => (h0.mp q) ⟨fun _ => rfl, fun _ => hr⟩
      omega
    · have h9 : (r ^^^ 1) % 2 = 1 := h0.mpr (fun q => hr (q.mpr rfl))
      omega
  have h2 : (r ^^^ 1) / 2 = r / 2 := by
    rw [Nat.xor_div_two]
    simp
  unfold rt_rv
  split <;> omega
theorem rt_xy (w h t : Nat) (hw : 0 < w) (ht : t < w * h) : ∃ x y, x < w ∧ y < h ∧ t = w * y + x :=
  ⟨t % w, t / w, Nat.mod_lt _ hw, by rw [Nat.div_lt_iff_lt_mul hw, Nat.mul_comm]; exact ht, (Nat.div_add_mod t w).symm⟩
theorem rt_xm {w x y : Nat} (hx : x < w) : (w * y + x) % w = x := by rw [Nat.mul_add_mod, Nat.mod_eq_of_lt hx]
theorem rt_xd {w x y : Nat} (hx : x < w) : (w * y + x) / w = y := by
  rw [Nat.mul_add_div (by omega), Nat.div_eq_of_lt hx, Nat.add_zero]
theorem rt_xlt {w h x y : Nat} (hx : x < w) (hy : y < h) : w * y + x < w * h := by
  have := Nat.mul_le_mul_left w (show y + 1 ≤ h from hy)
  rw [Nat.mul_add] at this
  omega
theorem rt_nb_0 (w h t : Nat) : rt_nb w h t 0 = if t % w = 0 then none else some (t - 1) := rfl
theorem rt_nb_1 (w h t : Nat) : rt_nb w h t 1 = if t / w = 0 then none else some (t - w) := rfl
theorem rt_nb_2 (w h t : Nat) : rt_nb w h t 2 = if t % w + 1 = w then none else some (t + 1) := rfl
theorem rt_nb_3 (w h t : Nat) : rt_nb w h t 3 = if t / w + 1 = h then none else some (t + w) := rfl
theorem rt_rv_add (t b : Nat) : rt_rv (12 * t + b) = 12 * t + rt_rv b := by
  unfold rt_rv
  split <;> split <;> omega
/-- the neighbour is on the map, and back from it one comes by the other edge -/
theorem rt_nb_back {w h t e t' : Nat} (hw : 0 < w) (ht : t < w * h) (he : e < 4) (hn : rt_nb w h t e = some t') : t' < w * h ∧ rt_nb w h t' ((e + 2) % 4) = some t ∧ t' ≠ t := by
  obtain ⟨x, y, hx, hy, rfl⟩ := rt_xy w h t hw ht
  rcases (show e = 0 ∨ e = 1 ∨ e = 2 ∨ e = 3 by omega) with rfl | rfl | rfl | rfl
  · rw [rt_nb_0, rt_xm hx] at hn
    split at hn
    · cases hn
    · next hx0 =>
      cases hn
      have e1 : w * y + x - 1 = w * y + (x - 1) := by omega
      have hx' : x - 1 < w := by omega
      rw [e1]
      refine ⟨rt_xlt hx' hy, ?_, by omega⟩
      show rt_nb w h _ 2 = _
      rw [rt_nb_2, rt_xm hx', if_neg (by omega)]
      congr 1
      omega
  · rw [rt_nb_1, rt_xd hx] at hn
    split at hn
    · cases hn
    · next hy0 =>
      cases hn
      obtain ⟨y, rfl⟩ : ∃ z, y = z + 1 := ⟨y - 1, by omega⟩
      have e1 : w * (y + 1) + x - w = w * y + x := by rw [Nat.mul_add]; omega
      rw [e1]
      refine ⟨rt_xlt hx (by omega), ?_, by rw [Nat.mul_add]; omega⟩
      show rt_nb w h _ 3 = _
      rw [rt_nb_3, rt_xd hx, if_neg (by omega)]
      congr 1
      rw [Nat.mul_add]
      omega
  · rw [rt_nb_2, rt_xm hx] at hn
    split at hn
    · cases hn
    · next hx0 =>
      cases hn
      have e1 : w * y + x + 1 = w * y + (x + 1) := by omega
      have hx' : x + 1 < w := by omega
      rw [e1]
      refine ⟨rt_xlt hx' hy, ?_, by omega⟩
      show rt_nb w h _ 0 = _
      rw [rt_nb_0, rt_xm hx', if_neg (by omega)]
      congr 1
  · rw [rt_nb_3, rt_xd hx] at hn
    split at hn
    · cases hn
    · next hy0 =>
      cases hn
      have e1 : w * y + x + w = w * (y + 1) + x := by rw [Nat.mul_add]; omega
      rw [e1]
      refine ⟨rt_xlt hx (by omega), ?_, by rw [Nat.mul_add]; omega⟩
      show rt_nb w h _ 1 = _
      rw [rt_nb_1, rt_xd hx, if_neg (by omega)]
      congr 1
      rw [Nat.mul_add]
      omega
theorem rt_loc : ∀ l, l < 12 → ∀ i, i < 3 → rt_to (rt_rv (rt_bg (3 * rt_to l + i))) = (rt_to l + 2) % 4 ∧ ∃ j, j < 3 ∧ rt_bg (3 * ((rt_to l + 2) % 4) + j) = rt_rv l := by decide +kernel
theorem rt_bgi_lt {l i : Nat} (hl : l < 12) (hi : i < 3) : rt_bg (3 * rt_to l + i) < 12 := rt_bg_lt _ (by have := rt_to_lt l hl; omega)
theorem rt_ah_some {w h r i a : Nat} (ha : rt_ah w h r i = some a) : ∃ t, rt_nb w h (r / 12) (rt_to (r % 12)) = some t ∧ a = 12 * t + rt_bg (3 * rt_to (r % 12) + i) := by
  unfold rt_ah at ha
  cases hn : rt_nb w h (r / 12) (rt_to (r % 12)) with
  | none => rw [hn] at ha; cases ha
  | some t => rw [hn] at ha; cases ha; exact ⟨t, rfl, rfl⟩
/-- a run that begins where another ends: it is on the map; and the other way round they are joined likewise -/
theorem rt_ah_back {w h r i a : Nat} (hw : 0 < w) (hr : r < 12 * (w * h)) (hi : i < 3) (ha : rt_ah w h r i = some a) : a < 12 * (w * h) ∧ a / 12 ≠ r / 12 ∧ ∃ j, j < 3 ∧ rt_ah w h (rt_rv a) j = some (rt_rv r) := by
  obtain ⟨t, hn, rfl⟩ := rt_ah_some ha
  have hl : r % 12 < 12 := Nat.mod_lt _ (by omega)
  have hb := rt_bgi_lt hl hi
  obtain ⟨h1, h2, h3⟩ := rt_nb_back hw (by omega) (rt_to_lt _ hl) hn
  obtain ⟨h4, j, hj, h5⟩ := rt_loc _ hl i hi
  generalize hbe : rt_bg (3 * rt_to (r % 12) + i) = bb at *
  have e1 : (12 * t + bb) / 12 = t := by omega
  have e2 : (12 * t + bb) % 12 = bb := by omega
  refine ⟨by omega, by rw [e1]; exact h3, j, hj, ?_⟩
  unfold rt_ah
  rw [rt_rv_12, e1, rt_rv_m, e2, h4, h2]
  show some _ = some _
  have e3 : rt_rv r = 12 * (r / 12) + rt_rv (r % 12) := by
    rw [← rt_rv_add]
    congr 1
    omega
  rw [h5, e3]
end
section
/-! PURE: next runs as lists, the reference's followers, the runs before a run -/
def rt_one (Q : Nat → Nat) (n : Nat) (a : Option Nat) : List Nat := match a with
  | none => []
  | some a => if rt_op Q n a = true then [a] else []
theorem rt_px_0 (Q : Nat → Nat) (w h r : Nat) : rt_px Q w h r 0 = [] := rfl
theorem rt_px_succ (Q : Nat → Nat) (w h r i : Nat) : rt_px Q w h r (i + 1) = rt_px Q w h r i ++ rt_one Q (w * h) (rt_ah w h r i) := by
  unfold rt_px rt_one
  rw [List.range_succ, List.filterMap_append]
  congr 1
  simp only [List.filterMap_cons, List.filterMap_nil]
  cases rt_ah w h r i with
  | none => rfl
  | some a =>
    rw [Option.filter_some]
    dsimp only
    cases rt_op Q (w * h) a <;> rfl
theorem rt_mem_px {Q : Nat → Nat} {w h r i f : Nat} : f ∈ rt_px Q w h r i ↔ ∃ j, j < i ∧ rt_ah w h r j = some f ∧ rt_op Q (w * h) f = true := by
  unfold rt_px
  simp only [List.mem_filterMap, List.mem_range, Option.filter_eq_some_iff]
theorem rt_mem_nx {Q : Nat → Nat} {w h r f : Nat} : f ∈ rt_nx Q w h r ↔ ∃ j, j < 3 ∧ rt_ah w h r j = some f ∧ rt_op Q (w * h) f = true := rt_mem_px
theorem rt_op_lt {Q : Nat → Nat} {n r : Nat} (h : rt_op Q n r = true) : r < 12 * n := by
  unfold rt_op at h
  simp only [Bool.and_eq_true, decide_eq_true_eq] at h
  exact h.1.1
theorem rt_op_there {Q : Nat → Nat} {n r : Nat} (h : rt_op Q n r = true) : Q (r / 2) ≠ 0 := by
  unfold rt_op at h
  simp only [Bool.and_eq_true, decide_eq_true_eq] at h
  exact h.1.2
/-- the k-th of a list, k any int -/
def rt_kth (l : List Nat) (k : Int32) : Option Nat := if k < 0 then none else l[k.toNatClampNeg]?
theorem rt_kth_nI (l : List Nat) {k : Nat} (hk : k < 2 ^ 31) : rt_kth l (nI k) = l[k]? := by
  unfold rt_kth
  rw [if_neg (nI_pos hk), nI_clamp hk]
theorem rt_kth_neg (l : List Nat) {k : Int32} (hk : k < 0) : rt_kth l k = none := if_pos hk
-- the reference's edges: 0 west, 1 east, 2 north, 3 south
def rt_ed (k : Nat) : Nat := [0, 1, 2, 3, 2, 1, 3, 1, 3, 0, 2, 0].getD k 0
def rt_mf (l : Nat) : Nat := rt_ed (2 * (l / 2) + l % 2)
def rt_mt (l : Nat) : Nat := rt_ed (2 * (l / 2) + 1 - l % 2)
def rt_mo (e : Nat) : Nat := if e < 2 then 1 - e else 5 - e
/-- the reference's edge in the class's order -/
def rt_tr (e : Nat) : Nat := [0, 2, 1, 3].getD e 0
theorem rt_tr_to : ∀ l, l < 12 → rt_tr (rt_mt l) = rt_to l := by decide +kernel
theorem rt_mt_lt : ∀ l, l < 12 → rt_mt l < 4 ∧ rt_mf l < 4 := by decide +kernel
/-- the reference's follower(run, kind) -/
def rt_fo (Q : Nat → Nat) (w h r k : Nat) : Option Nat := match rt_nb w h (r / 12) (rt_to (r % 12)) with
  | none => none
  | some t => if (decide (rt_mf (2 * k) = rt_mo (rt_mt (r % 12))) && rt_op Q (w * h) (12 * t + 2 * k)) = true then some (12 * t + 2 * k) else if (decide (rt_mf (2 * k + 1) = rt_mo (rt_mt (r % 12))) && rt_op Q (w * h) (12 * t + (2 * k + 1))) = true then some (12 * t + (2 * k + 1)) else none
theorem rt_12 {l : Nat} (h : l < 12) : l = 0 ∨ l = 1 ∨ l = 2 ∨ l = 3 ∨ l = 4 ∨ l = 5 ∨ l = 6 ∨ l = 7 ∨ l = 8 ∨ l = 9 ∨ l = 10 ∨ l = 11 := by omega
theorem rt_fo_nx (Q : Nat → Nat) (w h r : Nat) : (List.range 6).filterMap (rt_fo Q w h r) = rt_nx Q w h r := by
  have hl : r % 12 < 12 := Nat.mod_lt _ (by omega)
  unfold rt_nx rt_px rt_ah
  show List.filterMap (fun k => rt_fo Q w h r k) (List.range 6) = _
  unfold rt_fo
  generalize r % 12 = l at *
  generalize rt_nb w h (r / 12) (rt_to l) = o
  cases o with
  | none => rfl
  | some t =>
    generalize rt_op Q (w * h) = P
    rcases rt_12 hl with rfl | rfl | rfl | rfl | rfl | rfl | rfl | rfl | rfl | rfl | rfl | rfl <;> rfl
theorem rt_fo_k {Q : Nat → Nat} {w h r k f : Nat} (hk : k < 6) (hf : rt_fo Q w h r k = some f) : f / 2 % 6 = k ∧ f ∈ rt_nx Q w h r ∧ rt_op Q (w * h) f = true := by
  have hm : f ∈ rt_nx Q w h r := by
    rw [← rt_fo_nx]
    exact List.mem_filterMap.mpr ⟨k, List.mem_range.mpr hk, hf⟩
  refine ⟨?_, hm, (rt_mem_nx.mp hm).choose_spec.2.2⟩
  unfold rt_fo at hf
  cases hn : rt_nb w h (r / 12) (rt_to (r % 12)) with
  | none => rw [hn] at hf; cases hf
  | some t =>
    rw [hn] at hf
    simp only at hf
    split at hf
    · cases hf; omega
    · split at hf
      · cases hf; omega
      · cases hf
/-- a run is a next one of r just if it is the follower of its own kind -/
theorem rt_fo_iff {Q : Nat → Nat} {w h r f : Nat} : rt_fo Q w h r (f / 2 % 6) = some f ↔ f ∈ rt_nx Q w h r := by
  constructor
  · intro hf
    exact (rt_fo_k (Nat.mod_lt _ (by omega)) hf).2.1
  · intro hm
    have hm' := hm
    rw [← rt_fo_nx] at hm
    obtain ⟨k, hk, hf⟩ := List.mem_filterMap.mp hm
    have hk6 := List.mem_range.mp hk
    rw [(rt_fo_k hk6 hf).1]
    exact hf
-- the runs before a run
def rt_bh (w h r i : Nat) : Option Nat := (rt_ah w h (rt_rv r) i).map rt_rv
def rt_pb (Q : Nat → Nat) (w h r i : Nat) : List Nat := (List.range i).filterMap (fun i => (rt_bh w h r i).filter (rt_op Q (w * h)))
theorem rt_pb_succ (Q : Nat → Nat) (w h r i : Nat) : rt_pb Q w h r (i + 1) = rt_pb Q w h r i ++ rt_one Q (w * h) (rt_bh w h r i) := by
  unfold rt_pb rt_one
  rw [List.range_succ, List.filterMap_append]
  congr 1
  simp only [List.filterMap_cons, List.filterMap_nil]
  cases rt_bh w h r i with
  | none => rfl
  | some a =>
    rw [Option.filter_some]
    dsimp only
    cases rt_op Q (w * h) a <;> rfl
theorem rt_mem_pb {Q : Nat → Nat} {w h r i f : Nat} : f ∈ rt_pb Q w h r i ↔ ∃ j, j < i ∧ rt_bh w h r j = some f ∧ rt_op Q (w * h) f = true := by
  unfold rt_pb
  simp only [List.mem_filterMap, List.mem_range, Option.filter_eq_some_iff]
/-- the open runs behind a run are those of which it is a next one -/
theorem rt_pred {Q : Nat → Nat} {w h r b : Nat} (hw : 0 < w) (hr : rt_op Q (w * h) r = true) (hb : rt_op Q (w * h) b = true) : r ∈ rt_nx Q w h b ↔ b ∈ rt_pb Q w h r 3 := by
  rw [rt_mem_nx, rt_mem_pb]
  constructor
  · rintro ⟨i, hi, ha, -⟩
    obtain ⟨-, -, j, hj, h2⟩ := rt_ah_back hw (rt_op_lt hb) hi ha
    refine ⟨j, hj, ?_, hb⟩
    unfold rt_bh
    rw [h2]
    show some _ = some _
    rw [rt_rv_rv]
  · rintro ⟨i, hi, ha, -⟩
    unfold rt_bh at ha
    cases hz : rt_ah w h (rt_rv r) i with
    | none => rw [hz] at ha; cases ha
    | some z =>
      rw [hz] at ha
      cases ha
      obtain ⟨-, -, j, hj, h2⟩ := rt_ah_back hw (rt_rv_lt (rt_op_lt hr)) hi hz
      rw [rt_rv_rv] at h2
      exact ⟨j, hj, h2, hr⟩
theorem rt_bl : ∀ l, l < 12 → rt_rv (rt_bg (3 * rt_to l)) < rt_rv (rt_bg (3 * rt_to l + 1)) ∧ rt_rv (rt_bg (3 * rt_to l + 1)) < rt_rv (rt_bg (3 * rt_to l + 2)) := by decide +kernel
/-- those behind a run rise -/
theorem rt_bh_mono {w h r i j a b : Nat} (hi : i < j) (hj : j < 3) (ha : rt_bh w h r i = some a) (hb : rt_bh w h r j = some b) : a < b := by
  unfold rt_bh at ha hb
  cases hz : rt_ah w h (rt_rv r) i with
  | none => rw [hz] at ha; cases ha
  | some z =>
    cases hy : rt_ah w h (rt_rv r) j with
    | none => rw [hy] at hb; cases hb
    | some y =>
      rw [hz] at ha
      rw [hy] at hb
      cases ha
      cases hb
      obtain ⟨t, h1, rfl⟩ := rt_ah_some hz
      obtain ⟨t2, h2, rfl⟩ := rt_ah_some hy
      cases h1.symm.trans h2
      rw [rt_rv_add, rt_rv_add]
      obtain ⟨h3, h4⟩ := rt_bl (rt_rv r % 12) (Nat.mod_lt _ (by omega))
      rcases (show (i = 0 ∧ j = 1) ∨ (i = 0 ∧ j = 2) ∨ (i = 1 ∧ j = 2) by omega) with ⟨rfl, rfl⟩ | ⟨rfl, rfl⟩ | ⟨rfl, rfl⟩
      · exact Nat.add_lt_add_left h3 _
      · exact Nat.add_lt_add_left (Nat.lt_trans h3 h4) _
      · exact Nat.add_lt_add_left h4 _
/-- the lowest run before a run -/
def rt_bf (Q : Nat → Nat) (w h r : Nat) : Option Nat := (rt_pb Q w h r 3).head?
theorem rt_pb_mono {Q : Nat → Nat} {w h r : Nat} : ∀ i, i ≤ 3 → (rt_pb Q w h r i).Pairwise (· < ·) := by
  intro i
  induction i with
  | zero => intro _; exact List.Pairwise.nil
  | succ i ih =>
    intro hi
    rw [rt_pb_succ, List.pairwise_append]
    refine ⟨ih (by omega), ?_, ?_⟩
    · unfold rt_one
      cases rt_bh w h r i with
      | none => exact List.Pairwise.nil
      | some a => simp only; split <;> simp
    · intro a ha b hb
      obtain ⟨j, hj, h1, -⟩ := rt_mem_pb.mp ha
      unfold rt_one at hb
      cases hz : rt_bh w h r i with
      | none => rw [hz] at hb; cases hb
      | some z =>
        rw [hz] at hb
        simp only at hb
        split at hb
        · rw [List.mem_singleton] at hb
          subst hb
          exact rt_bh_mono hj (by omega) h1 hz
        · cases hb
theorem rt_bf_least {Q : Nat → Nat} {w h r b : Nat} (hb : b ∈ rt_pb Q w h r 3) : ∃ a, rt_bf Q w h r = some a ∧ a ∈ rt_pb Q w h r 3 ∧ ∀ c, c ∈ rt_pb Q w h r 3 → a ≤ c := by
  have hp := rt_pb_mono (Q := Q) (w := w) (h := h) (r := r) 3 (Nat.le_refl 3)
  unfold rt_bf
  cases hl : rt_pb Q w h r 3 with
  | nil => rw [hl] at hb; cases hb
  | cons a l =>
    refine ⟨a, rfl, List.mem_cons_self, ?_⟩
    intro c hc
    rw [hl, List.pairwise_cons] at hp
    rcases List.mem_cons.mp hc with rfl | hc
    · exact Nat.le_refl _
    · exact Nat.le_of_lt (hp.1 c hc)
theorem rt_bf_none {Q : Nat → Nat} {w h r : Nat} (hb : ∀ b, b ∉ rt_pb Q w h r 3) : rt_bf Q w h r = none := by
  unfold rt_bf
  rw [List.eq_nil_iff_forall_not_mem.mpr hb]
  rfl
end
section
/-! PURE: costs: what they are, that there is one such function alone; the class's two queues; the reference's rounds -/
def rt_ln (r : Nat) : Nat := if r / 2 % 6 < 2 then 16 else 12
def rt_st (r : Nat) : Bool := decide (r / 2 % 6 < 2)
def rt_cv (r : Nat) : Bool := !(rt_st r)
theorem rt_ln_st {r : Nat} (h : rt_st r = true) : rt_ln r = 16 := if_pos (of_decide_eq_true h)
theorem rt_ln_cv {r : Nat} (h : rt_cv r = true) : rt_ln r = 12 := by
  unfold rt_cv rt_st at h
  unfold rt_ln
  rw [if_neg]
  simpa using h
theorem rt_ln_in (r : Nat) : 12 ≤ rt_ln r ∧ rt_ln r ≤ 16 := by
  unfold rt_ln
  split <;> omega
def rt_tg (Q : Nat → Nat) (w h st r : Nat) : Bool := rt_op Q (w * h) r && decide (rt_s Q (r / 2) = st + 1) && (rt_nx Q w h r).all (fun f => decide (rt_s Q (f / 2) ≠ st + 1))
def rt_isC (Q : Nat → Nat) (w h st : Nat) (C : Nat → Option Nat) : Prop :=
  (∀ r c, C r = some c → rt_op Q (w * h) r = true) ∧
  (∀ r, rt_tg Q w h st r = true → C r = some 0) ∧
  (∀ r f c, rt_op Q (w * h) r = true → rt_tg Q w h st r = false → f ∈ rt_nx Q w h r → C f = some c → ∃ c', C r = some c' ∧ c' ≤ rt_ln f + c) ∧
  (∀ r c', C r = some c' → rt_tg Q w h st r = false → ∃ f, f ∈ rt_nx Q w h r ∧ ∃ c, C f = some c ∧ c' = rt_ln f + c)
theorem rt_isC_pos {Q : Nat → Nat} {w h st : Nat} {C : Nat → Option Nat} (hC : rt_isC Q w h st C) {r : Nat} : C r = some 0 ↔ rt_tg Q w h st r = true := by
  constructor
  · intro h0
    cases ht : rt_tg Q w h st r with
    | true => rfl
    | false =>
      obtain ⟨f, -, c, -, h1⟩ := hC.2.2.2 r 0 h0 ht
      have := rt_ln_in f
      omega
  · exact hC.2.1 r
-- one queue of the class: row R, places hd .. tl wait, M: the last that was taken
def rt_qI (P : Nat → Bool) (F : Nat → Option Nat) (R : Nat → Nat) (hd tl M : Nat) : Prop :=
  hd ≤ tl ∧ (∀ j, j < tl → P (R j) = true ∧ F (R j) ≠ none) ∧ (∀ r, P r = true → F r ≠ none → ∃ j, j < tl ∧ R j = r) ∧
  (∀ i j, i < tl → j < tl → R i = R j → i = j) ∧
  (∀ i j a b, i ≤ j → j < tl → F (R i) = some a → F (R j) = some b → a ≤ b) ∧
  (∀ j a, hd ≤ j → j < tl → F (R j) = some a → M ≤ a + rt_ln (R j))
def rt_cI (Q : Nat → Nat) (w h st : Nat) (F : Nat → Option Nat) (RS : Nat → Nat) (hS tS : Nat) (RC : Nat → Nat) (hC tC M : Nat) (T : Nat → Prop) (pend : Nat → Nat → Prop) : Prop :=
  rt_qI rt_st F RS hS tS M ∧ rt_qI rt_cv F RC hC tC M ∧
  (∀ r c, F r = some c → rt_op Q (w * h) r = true ∧ c ≤ M) ∧
  (∀ r, rt_tg Q w h st r = true → T r → F r = some 0) ∧
  (∀ r c, F r = some c → rt_tg Q w h st r = false → ∃ f, f ∈ rt_nx Q w h r ∧ ∃ c', F f = some c' ∧ c = rt_ln f + c') ∧
  (∀ g c, ((∃ j, j < hS ∧ RS j = g) ∨ (∃ j, j < hC ∧ RC j = g)) → F g = some c → ∀ r, rt_op Q (w * h) r = true → g ∈ rt_nx Q w h r → (∃ c', F r = some c' ∧ c' ≤ rt_ln g + c) ∨ pend g r)
theorem rt_cI_0 (Q : Nat → Nat) (w h st : Nat) (RS RC : Nat → Nat) (pend : Nat → Nat → Prop) : rt_cI Q w h st (fun _ => none) RS 0 0 RC 0 0 0 (fun _ => False) pend := by
  refine ⟨⟨Nat.le_refl _, ?_, ?_, ?_, ?_, ?_⟩, ⟨Nat.le_refl _, ?_, ?_, ?_, ?_, ?_⟩, ?_, ?_, ?_, ?_⟩
  · intro j h; omega
  · intro r _ h; exact absurd rfl h
  · intro i j h; omega
  · intro i j a b _ h; omega
  · intro j a _ h; omega
  · intro j h; omega
  · intro r _ h; exact absurd rfl h
  · intro i j h; omega
  · intro i j a b _ h; omega
  · intro j a _ h; omega
  · intro r c h; cases h
  · intro r _ h; exact h.elim
  · intro r c h; cases h
  · intro g c _ h; cases h
theorem rt_cI_drop {Q : Nat → Nat} {w h st : Nat} {F : Nat → Option Nat} {RS : Nat → Nat} {hS tS : Nat} {RC : Nat → Nat} {hC tC M : Nat} {T T' : Nat → Prop} {pend pend' : Nat → Nat → Prop} (I : rt_cI Q w h st F RS hS tS RC hC tC M T pend)
    (hT : ∀ r, rt_tg Q w h st r = true → T' r → T r ∨ F r = some 0)
    (hp : ∀ g r c, pend g r → rt_op Q (w * h) r = true → g ∈ rt_nx Q w h r → F g = some c → (∃ c', F r = some c' ∧ c' ≤ rt_ln g + c) ∨ pend' g r) : rt_cI Q w h st F RS hS tS RC hC tC M T' pend' := by
  obtain ⟨i1, i2, i3, i4, i5, i6⟩ := I
  refine ⟨i1, i2, i3, ?_, i5, ?_⟩
  · intro r h1 h2
    rcases hT r h1 h2 with h | h
    · exact i4 r h1 h
    · exact h
  · intro g c h1 h2 r h3 h4
    rcases i6 g c h1 h2 r h3 h4 with h | h
    · exact Or.inl h
    · exact hp g r c h h3 h4 h2
theorem rt_up_s {α : Type} (f : Nat → α) (k : Nat) (v : α) : va_up f k v k = v := va_up_self f k v
/-- a queue that gets one more -/
theorem rt_qI_add {P : Nat → Bool} {F : Nat → Option Nat} {R : Nat → Nat} {hd tl M b : Nat} (I : rt_qI P F R hd tl M) (hP : P b = true) (hb : F b = none) (hM : ∀ r c, F r = some c → c ≤ M) : rt_qI P (va_up F b (some M)) (va_up R tl b) hd (tl + 1) M := by
  obtain ⟨i1, i2, i3, i4, i5, i6⟩ := I
  have nb : ∀ j, j < tl → R j ≠ b := fun j hj e => (i2 j hj).2 (by rw [e]; exact hb)
  have ho : ∀ j, j < tl → va_up R tl b j = R j := fun j hj => va_up_ne R b (by omega)
  have hF : ∀ j, j < tl → va_up F b (some M) (R j) = F (R j) := fun j hj => va_up_ne F _ (nb j hj)
  refine ⟨by omega, ?_, ?_, ?_, ?_, ?_⟩
  · intro j hj
    rcases Nat.lt_or_ge j tl with q | q
    · rw [ho j q, hF j q]
      exact i2 j q
    · have : j = tl := by omega
      subst this
      rw [va_up_self, va_up_self]
      exact ⟨hP, by simp⟩
  · intro r h1 h2
    by_cases hr : r = b
    · exact ⟨tl, by omega, by rw [va_up_self, hr]⟩
    · rw [va_up_ne F _ hr] at h2
      obtain ⟨j, hj, e⟩ := i3 r h1 h2
      exact ⟨j, by omega, by rw [ho j hj]; exact e⟩
  · intro i j hi hj e
    rcases Nat.lt_or_ge i tl with q | q <;> rcases Nat.lt_or_ge j tl with q2 | q2
    · rw [ho i q, ho j q2] at e
      exact i4 i j q q2 e
    · have : j = tl := by omega
      subst this
      rw [ho i q, va_up_self] at e
      exact absurd e (nb i q)
    · have : i = tl := by omega
      subst this
      rw [ho j q2, va_up_self] at e
      exact absurd e.symm (nb j q2)
    · omega
  · intro i j a c hij hj ha hc
    rcases Nat.lt_or_ge j tl with q2 | q2
    · have q : i < tl := by omega
      rw [ho i q, hF i q] at ha
      rw [ho j q2, hF j q2] at hc
      exact i5 i j a c hij q2 ha hc
    · have : j = tl := by omega
      subst this
      rw [va_up_self, va_up_self] at hc
      cases hc
      rcases Nat.lt_or_ge i j with q | q
      · rw [ho i q, hF i q] at ha
        exact hM _ _ ha
      · have : i = j := by omega
        subst this
        rw [va_up_self, va_up_self] at ha
        cases ha
        exact Nat.le_refl _
  · intro j a h1 h2 ha
    rcases Nat.lt_or_ge j tl with q | q
    · rw [ho j q, hF j q] at ha
      rw [ho j q]
      exact i6 j a h1 q ha
    · have : j = tl := by omega
      subst this
      rw [va_up_self, va_up_self] at ha
      cases ha
      omega
/-- the other queue, when one is settled that isn't of its sort -/
theorem rt_qI_oth {P : Nat → Bool} {F : Nat → Option Nat} {R : Nat → Nat} {hd tl M b : Nat} {v : Option Nat} (I : rt_qI P F R hd tl M) (hP : P b = false) : rt_qI P (va_up F b v) R hd tl M := by
  obtain ⟨i1, i2, i3, i4, i5, i6⟩ := I
  have nb : ∀ r, P r = true → r ≠ b := fun r hr e => by rw [e, hP] at hr; cases hr
  have hF : ∀ j, j < tl → va_up F b v (R j) = F (R j) := fun j hj => va_up_ne F _ (nb _ (i2 j hj).1)
  refine ⟨i1, ?_, ?_, i4, ?_, ?_⟩
  · intro j hj
    rw [hF j hj]
    exact i2 j hj
  · intro r h1 h2
    rw [va_up_ne F _ (nb r h1)] at h2
    exact i3 r h1 h2
  · intro i j a c hij hj ha hc
    rw [hF i (by omega)] at ha
    rw [hF j hj] at hc
    exact i5 i j a c hij hj ha hc
  · intro j a h1 h2 ha
    rw [hF j h2] at ha
    exact i6 j a h1 h2 ha
/-- one more run is settled, at M -/
theorem rt_cI_settle {Q : Nat → Nat} {w h st : Nat} {F : Nat → Option Nat} {RS : Nat → Nat} {hS tS : Nat} {RC : Nat → Nat} {hC tC M b : Nat} {T : Nat → Prop} {pend : Nat → Nat → Prop} (I : rt_cI Q w h st F RS hS tS RC hC tC M T pend)
    (hb : F b = none) (ho : rt_op Q (w * h) b = true) (h0 : rt_tg Q w h st b = true → M = 0) (h7 : rt_tg Q w h st b = false → ∃ f, f ∈ rt_nx Q w h b ∧ ∃ c', F f = some c' ∧ M = rt_ln f + c')
    (hp : ∀ g c, pend g b → F g = some c → M ≤ rt_ln g + c) :
    (rt_st b = true → rt_cI Q w h st (va_up F b (some M)) (va_up RS tS b) hS (tS + 1) RC hC tC M (fun r => T r ∨ r = b) (fun g r => pend g r ∧ r ≠ b)) ∧
    (rt_st b = false → rt_cI Q w h st (va_up F b (some M)) RS hS tS (va_up RC tC b) hC (tC + 1) M (fun r => T r ∨ r = b) (fun g r => pend g r ∧ r ≠ b)) := by
  obtain ⟨i1, i2, i3, i4, i5, i6⟩ := I
  have hM : ∀ r c, F r = some c → c ≤ M := fun r c h => (i3 r c h).2
  have k3 : ∀ r c, va_up F b (some M) r = some c → rt_op Q (w * h) r = true ∧ c ≤ M := by
    intro r c hr
    by_cases e : r = b
    · subst e
      rw [va_up_self] at hr
      cases hr
      exact ⟨ho, Nat.le_refl _⟩
    · rw [va_up_ne F _ e] at hr
      exact i3 r c hr
  have k4 : ∀ r, rt_tg Q w h st r = true → (T r ∨ r = b) → va_up F b (some M) r = some 0 := by
    intro r h1 h2
    by_cases e : r = b
    · subst e
      rw [va_up_self, h0 h1]
    · rw [va_up_ne F _ e]
      exact i4 r h1 (h2.resolve_right e)
  have kk : ∀ f c', F f = some c' → va_up F b (some M) f = some c' := by
    intro f c' hf
    have e : f ≠ b := fun e => by rw [e, hb] at hf; cases hf
    rw [va_up_ne F _ e]
    exact hf
  have k5 : ∀ r c, va_up F b (some M) r = some c → rt_tg Q w h st r = false → ∃ f, f ∈ rt_nx Q w h r ∧ ∃ c', va_up F b (some M) f = some c' ∧ c = rt_ln f + c' := by
    intro r c hr ht
    by_cases e : r = b
    · subst e
      rw [va_up_self] at hr
      cases hr
      obtain ⟨f, h1, c', h2, h3⟩ := h7 ht
      exact ⟨f, h1, c', kk f c' h2, h3⟩
    · rw [va_up_ne F _ e] at hr
      obtain ⟨f, h1, c', h2, h3⟩ := i5 r c hr ht
      exact ⟨f, h1, c', kk f c' h2, h3⟩
  have k6 : ∀ g c, F g ≠ none → ((∃ c', F g = some c') → ∀ r, rt_op Q (w * h) r = true → g ∈ rt_nx Q w h r → ∀ c1, F g = some c1 → (∃ c', F r = some c' ∧ c' ≤ rt_ln g + c1) ∨ pend g r) → va_up F b (some M) g = some c → ∀ r, rt_op Q (w * h) r = true → g ∈ rt_nx Q w h r → (∃ c', va_up F b (some M) r = some c' ∧ c' ≤ rt_ln g + c) ∨ (pend g r ∧ r ≠ b) := by
    intro g c hn hh hg r h1 h2
    have e : g ≠ b := fun e => hn (by rw [e]; exact hb)
    rw [va_up_ne F _ e] at hg
    rcases hh ⟨c, hg⟩ r h1 h2 c hg with ⟨c', h3, h4⟩ | h3
    · exact Or.inl ⟨c', kk r c' h3, h4⟩
    · by_cases e2 : r = b
      · subst e2
        exact Or.inl ⟨M, va_up_self _ _ _, hp g c h3 hg⟩
      · exact Or.inr ⟨h3, e2⟩
  constructor
  · intro hs
    refine ⟨rt_qI_add i1 hs hb hM, rt_qI_oth i2 (by unfold rt_cv; rw [hs]; rfl), k3, k4, k5, ?_⟩
    intro g c hg hc
    have hold : (∃ j, j < hS ∧ RS j = g) ∨ (∃ j, j < hC ∧ RC j = g) := by
      rcases hg with ⟨j, hj, e⟩ | h
      · refine Or.inl ⟨j, hj, ?_⟩
        rw [va_up_ne RS _ (by have := i1.1; omega)] at e
        exact e
      · exact Or.inr h
    have hn : F g ≠ none := by
      rcases hold with ⟨j, hj, e⟩ | ⟨j, hj, e⟩
      · rw [← e]; exact (i1.2.1 j (by have := i1.1; omega)).2
      · rw [← e]; exact (i2.2.1 j (by have := i2.1; omega)).2
    exact k6 g c hn (fun _ r h1 h2 c1 h3 => i6 g c1 hold h3 r h1 h2) hc
  · intro hs
    refine ⟨rt_qI_oth i1 hs, rt_qI_add i2 (by unfold rt_cv; rw [hs]; rfl) hb hM, k3, k4, k5, ?_⟩
    intro g c hg hc
    have hold : (∃ j, j < hS ∧ RS j = g) ∨ (∃ j, j < hC ∧ RC j = g) := by
      rcases hg with h | ⟨j, hj, e⟩
      · exact Or.inl h
      · refine Or.inr ⟨j, hj, ?_⟩
        rw [va_up_ne RC _ (by have := i2.1; omega)] at e
        exact e
    have hn : F g ≠ none := by
      rcases hold with ⟨j, hj, e⟩ | ⟨j, hj, e⟩
      · rw [← e]; exact (i1.2.1 j (by have := i1.1; omega)).2
      · rw [← e]; exact (i2.2.1 j (by have := i2.1; omega)).2
    exact k6 g c hn (fun _ r h1 h2 c1 h3 => i6 g c1 hold h3 r h1 h2) hc
/-- one queue when its first is taken -/
theorem rt_qI_take {P : Nat → Bool} {F : Nat → Option Nat} {R : Nat → Nat} {hd tl M c M' L : Nat} (I : rt_qI P F R hd tl M) (hl : hd < tl) (hc : F (R hd) = some c) (hL : ∀ r, P r = true → rt_ln r = L) (hM : M' = c + L) : rt_qI P F R (hd + 1) tl M' := by
  obtain ⟨i1, i2, i3, i4, i5, i6⟩ := I
  refine ⟨hl, i2, i3, i4, i5, ?_⟩
  intro j a h1 h2 ha
  have := i5 hd j c a (by omega) h2 hc ha
  rw [hL _ (i2 j h2).1]
  omega
/-- the other queue, when one is taken whose way is no longer than its own first -/
theorem rt_qI_wait {P : Nat → Bool} {F : Nat → Option Nat} {R : Nat → Nat} {hd tl M M' L : Nat} (I : rt_qI P F R hd tl M) (hL : ∀ r, P r = true → rt_ln r = L) (hM : ∀ c, hd < tl → F (R hd) = some c → M' ≤ c + L) : rt_qI P F R hd tl M' := by
  obtain ⟨i1, i2, i3, i4, i5, i6⟩ := I
  refine ⟨i1, i2, i3, i4, i5, ?_⟩
  intro j a h1 h2 ha
  cases hc : F (R hd) with
  | none => exact absurd hc (i2 hd (by omega)).2
  | some c =>
    have := i5 hd j c a h1 h2 hc ha
    have := hM c (by omega) hc
    rw [hL _ (i2 j h2).1]
    omega
theorem rt_cI_takeS {Q : Nat → Nat} {w h st : Nat} {F : Nat → Option Nat} {RS : Nat → Nat} {hS tS : Nat} {RC : Nat → Nat} {hC tC M c : Nat} {T : Nat → Prop} (I : rt_cI Q w h st F RS hS tS RC hC tC M T (fun _ _ => False)) (hl : hS < tS) (hc : F (RS hS) = some c) (ho : ∀ c', hC < tC → F (RC hC) = some c' → c + 16 ≤ c' + 12) :
    rt_cI Q w h st F RS (hS + 1) tS RC hC tC (c + 16) T (fun g _ => g = RS hS) := by
  obtain ⟨i1, i2, i3, i4, i5, i6⟩ := I
  have hMM : M ≤ c + 16 := by
    have := i1.2.2.2.2.2 hS c (Nat.le_refl _) hl hc
    rw [rt_ln_st (i1.2.1 hS hl).1] at this
    exact this
  refine ⟨rt_qI_take i1 hl hc (fun r => rt_ln_st) rfl, rt_qI_wait i2 (fun r => rt_ln_cv) ho, fun r x hx => ⟨(i3 r x hx).1, Nat.le_trans (i3 r x hx).2 hMM⟩, i4, i5, ?_⟩
  intro g x hg hx r h1 h2
  by_cases e : g = RS hS
  · exact Or.inr e
  · have : (∃ j, j < hS ∧ RS j = g) ∨ (∃ j, j < hC ∧ RC j = g) := by
      rcases hg with ⟨j, hj, e2⟩ | h
      · rcases Nat.lt_or_ge j hS with q | q
        · exact Or.inl ⟨j, q, e2⟩
        · have : j = hS := by omega
          subst this
          exact absurd e2.symm e
      · exact Or.inr h
    rcases i6 g x this hx r h1 h2 with h | h
    · exact Or.inl h
    · exact h.elim
theorem rt_cI_takeC {Q : Nat → Nat} {w h st : Nat} {F : Nat → Option Nat} {RS : Nat → Nat} {hS tS : Nat} {RC : Nat → Nat} {hC tC M c : Nat} {T : Nat → Prop} (I : rt_cI Q w h st F RS hS tS RC hC tC M T (fun _ _ => False)) (hl : hC < tC) (hc : F (RC hC) = some c) (ho : ∀ c', hS < tS → F (RS hS) = some c' → c + 12 ≤ c' + 16) :
    rt_cI Q w h st F RS hS tS RC (hC + 1) tC (c + 12) T (fun g _ => g = RC hC) := by
  obtain ⟨i1, i2, i3, i4, i5, i6⟩ := I
  have hMM : M ≤ c + 12 := by
    have := i2.2.2.2.2.2 hC c (Nat.le_refl _) hl hc
    rw [rt_ln_cv (i2.2.1 hC hl).1] at this
    exact this
  refine ⟨rt_qI_wait i1 (fun r => rt_ln_st) ho, rt_qI_take i2 hl hc (fun r => rt_ln_cv) rfl, fun r x hx => ⟨(i3 r x hx).1, Nat.le_trans (i3 r x hx).2 hMM⟩, i4, i5, ?_⟩
  intro g x hg hx r h1 h2
  by_cases e : g = RC hC
  · exact Or.inr e
  · have : (∃ j, j < hS ∧ RS j = g) ∨ (∃ j, j < hC ∧ RC j = g) := by
      rcases hg with h | ⟨j, hj, e2⟩
      · exact Or.inl h
      · rcases Nat.lt_or_ge j hC with q | q
        · exact Or.inr ⟨j, q, e2⟩
        · have : j = hC := by omega
          subst this
          exact absurd e2.symm e
    rcases i6 g x this hx r h1 h2 with h | h
    · exact Or.inl h
    · exact h.elim
/-- nothing waits any more: these are the costs -/
theorem rt_cI_end {Q : Nat → Nat} {w h st : Nat} {F : Nat → Option Nat} {RS : Nat → Nat} {tS : Nat} {RC : Nat → Nat} {tC M : Nat} (I : rt_cI Q w h st F RS tS tS RC tC tC M (fun _ => True) (fun _ _ => False)) : rt_isC Q w h st F := by
  obtain ⟨i1, i2, i3, i4, i5, i6⟩ := I
  refine ⟨fun r c hr => (i3 r c hr).1, fun r hr => i4 r hr trivial, ?_, i5⟩
  intro r f c h1 h2 h3 h4
  have hn : F f ≠ none := by rw [h4]; simp
  have : (∃ j, j < tS ∧ RS j = f) ∨ (∃ j, j < tC ∧ RC j = f) := by
    cases hs : rt_st f with
    | true => exact Or.inl (i1.2.2.1 f hs hn)
    | false => exact Or.inr (i2.2.2.1 f (by unfold rt_cv; rw [hs]; rfl) hn)
  rcases i6 f c this h4 r h1 h3 with h | h
  · exact h
  · exact h.elim
/-- so many different numbers under N are at most N -/
theorem rt_pig : ∀ (N m : Nat) (f : Nat → Nat), (∀ j, j < m → f j < N) → (∀ i j, i < m → j < m → f i = f j → i = j) → m ≤ N := by
  intro N
  induction N with
  | zero =>
    intro m f h1 _
    rcases Nat.eq_zero_or_pos m with h | h
    · omega
    · exact absurd (h1 0 h) (Nat.not_lt_zero _)
  | succ N ih =>
    intro m f h1 h2
    by_cases hx : ∃ j, j < m ∧ f j = N
    · obtain ⟨j0, hj0, e0⟩ := hx
      have := ih (m - 1) (fun j => if j < j0 then f j else f (j + 1)) ?_ ?_
      · omega
      · intro j hj
        split
        · have := h1 j (by omega)
          have : f j ≠ N := fun e => by have := h2 j j0 (by omega) hj0 (e.trans e0.symm); omega
          omega
        · have := h1 (j + 1) (by omega)
          have : f (j + 1) ≠ N := fun e => by have := h2 (j + 1) j0 (by omega) hj0 (e.trans e0.symm); omega
          omega
      · intro i j hi hj e
        split at e <;> split at e
        · exact h2 i j (by omega) (by omega) e
        · have := h2 i (j + 1) (by omega) (by omega) e; omega
        · have := h2 (i + 1) j (by omega) (by omega) e; omega
        · have := h2 (i + 1) (j + 1) (by omega) (by omega) e; omega
    · have := ih m f ?_ h2
      · omega
      · intro j hj
        have := h1 j hj
        have : f j ≠ N := fun e => hx ⟨j, hj, e⟩
        omega
theorem rt_capS {F : Nat → Option Nat} {R : Nat → Nat} {hd tl M n : Nat} (I : rt_qI rt_st F R hd tl M) (hn : ∀ r c, F r = some c → r < 12 * n) : tl ≤ 4 * n := by
  have hR : ∀ j, j < tl → R j < 12 * n ∧ R j % 12 < 4 := by
    intro j hj
    obtain ⟨h1, h2⟩ := I.2.1 j hj
    have h3 := of_decide_eq_true h1
    cases hc : F (R j) with
    | none => exact absurd hc h2
    | some c => exact ⟨hn _ _ hc, by omega⟩
  refine rt_pig (4 * n) tl (fun j => 4 * (R j / 12) + R j % 12) ?_ ?_
  · intro j hj
    have := hR j hj
    omega
  · intro i j hi hj e
    have h1 := hR i hi
    have h2 := hR j hj
    exact I.2.2.2.1 i j hi hj (by omega)
theorem rt_capC {F : Nat → Option Nat} {R : Nat → Nat} {hd tl M n : Nat} (I : rt_qI rt_cv F R hd tl M) (hn : ∀ r c, F r = some c → r < 12 * n) : tl ≤ 8 * n := by
  have hR : ∀ j, j < tl → R j < 12 * n ∧ 4 ≤ R j % 12 := by
    intro j hj
    obtain ⟨h1, h2⟩ := I.2.1 j hj
    unfold rt_cv rt_st at h1
    have h3 : ¬ R j / 2 % 6 < 2 := by simpa using h1
    cases hc : F (R j) with
    | none => exact absurd hc h2
    | some c => exact ⟨hn _ _ hc, by omega⟩
  refine rt_pig (8 * n) tl (fun j => 8 * (R j / 12) + (R j % 12 - 4)) ?_ ?_
  · intro j hj
    have := hR j hj
    omega
  · intro i j hi hj e
    have h1 := hR i hi
    have h2 := hR j hj
    exact I.2.2.2.1 i j hi hj (by omega)
end
section
/-! PURE: the reference's rounds come to the same costs; the cheapest next run; the route -/
def rt_E : Nat := 1000000000
/-- a cost as the reference's row has it -/
def rt_cE : Option Nat → Nat
  | none => rt_E
  | some c => c
/-- the reference's onward(run), over a list of followers -/
def rt_on (K : Nat → Nat) (l : List Nat) : Nat := l.foldl (fun b f => if K f < rt_E ∧ rt_ln f + K f < b then rt_ln f + K f else b) rt_E
theorem rt_on_app (K : Nat → Nat) (l : List Nat) (f : Nat) : rt_on K (l ++ [f]) = if K f < rt_E ∧ rt_ln f + K f < rt_on K l then rt_ln f + K f else rt_on K l := by
  unfold rt_on
  rw [List.foldl_append]
  rfl
theorem rt_on_le (K : Nat → Nat) (l : List Nat) : rt_on K l ≤ rt_E ∧ ∀ f, f ∈ l → K f < rt_E → rt_on K l ≤ rt_ln f + K f := by
  suffices H : ∀ (l2 : List Nat), rt_on K l2.reverse ≤ rt_E ∧ ∀ f, f ∈ l2.reverse → K f < rt_E → rt_on K l2.reverse ≤ rt_ln f + K f by
    have := H l.reverse
    rwa [List.reverse_reverse] at this
  intro l2
  induction l2 with
  | nil => exact ⟨Nat.le_refl _, fun f hf => by simp at hf⟩
  | cons a l ih =>
    rw [List.reverse_cons, rt_on_app]
    constructor
    · split
      · next h => have := ih.1; omega
      · exact ih.1
    · intro f hf hk
      rcases List.mem_append.mp hf with hf | hf
      · have := ih.2 f hf hk
        split <;> omega
      · rw [List.mem_singleton] at hf
        subst hf
        split <;> omega
theorem rt_on_at (K : Nat → Nat) (l : List Nat) : rt_on K l = rt_E ∨ ∃ f, f ∈ l ∧ K f < rt_E ∧ rt_on K l = rt_ln f + K f := by
  suffices H : ∀ (l2 : List Nat), rt_on K l2.reverse = rt_E ∨ ∃ f, f ∈ l2.reverse ∧ K f < rt_E ∧ rt_on K l2.reverse = rt_ln f + K f by
    have := H l.reverse
    rwa [List.reverse_reverse] at this
  intro l2
  induction l2 with
  | nil => exact Or.inl rfl
  | cons a l ih =>
    rw [List.reverse_cons, rt_on_app]
    split
    · next h => exact Or.inr ⟨a, by simp, h.1, rfl⟩
    · rcases ih with h | ⟨f, h1, h2, h3⟩
      · exact Or.inl h
      · exact Or.inr ⟨f, List.mem_append_left _ h1, h2, h3⟩
/-- the reference's row is never under the costs -/
def rt_lb (Q : Nat → Nat) (w h st : Nat) (C : Nat → Option Nat) (K : Nat → Nat) : Prop :=
  ∀ r, rt_op Q (w * h) r = true → rt_cE (C r) ≤ K r ∧ K r ≤ rt_E ∧ (rt_tg Q w h st r = true → K r = 0)
def rt_small (C : Nat → Option Nat) : Prop := ∀ r c, C r = some c → c ≤ 76800
theorem rt_lb_0 {Q : Nat → Nat} {w h st : Nat} {C : Nat → Option Nat} {K : Nat → Nat} (hC : rt_isC Q w h st C) (hs : rt_small C) (hK : ∀ r, rt_op Q (w * h) r = true → K r = if rt_tg Q w h st r = true then 0 else rt_E) : rt_lb Q w h st C K := by
  intro r hr
  rw [hK r hr]
  split
  · next ht => rw [hC.2.1 r ht]; exact ⟨Nat.le_refl _, Nat.zero_le _, fun _ => rfl⟩
  · next ht =>
    refine ⟨?_, Nat.le_refl _, fun h => absurd h ht⟩
    cases hc : C r with
    | none => exact Nat.le_refl _
    | some c => have := hs r c hc; show c ≤ rt_E; unfold rt_E; omega
theorem rt_lb_ne {Q : Nat → Nat} {w h st : Nat} {C : Nat → Option Nat} {K : Nat → Nat} (hC : rt_isC Q w h st C) (I : rt_lb Q w h st C K) {r : Nat} (hr : rt_op Q (w * h) r = true) : K r = 0 ↔ rt_tg Q w h st r = true := by
  constructor
  · intro h0
    have h1 := (I r hr).1
    cases hc : C r with
    | none => rw [hc] at h1; simp only [rt_cE, rt_E] at h1; omega
    | some c =>
      rw [hc] at h1
      simp only [rt_cE] at h1
      exact (rt_isC_pos hC).mp (by rw [hc]; congr 1; omega)
  · exact (I r hr).2.2
/-- what a run's onward says is no less than its cost -/
theorem rt_lb_on {Q : Nat → Nat} {w h st : Nat} {C : Nat → Option Nat} {K : Nat → Nat} (hC : rt_isC Q w h st C) (hs : rt_small C) (I : rt_lb Q w h st C K) {r : Nat} (hr : rt_op Q (w * h) r = true) (ht : rt_tg Q w h st r = false) : rt_cE (C r) ≤ rt_on K (rt_nx Q w h r) := by
  rcases rt_on_at K (rt_nx Q w h r) with e | ⟨f, h1, h2, h3⟩
  · rw [e]
    cases hc : C r with
    | none => exact Nat.le_refl _
    | some c => have := hs r c hc; show c ≤ rt_E; unfold rt_E; omega
  · have ho := (rt_mem_nx.mp h1).choose_spec.2.2
    have h4 := (I f ho).1
    cases hc : C f with
    | none => rw [hc] at h4; simp only [rt_cE] at h4; omega
    | some c =>
      rw [hc] at h4
      simp only [rt_cE] at h4
      obtain ⟨c', h5, h6⟩ := hC.2.2.1 r f c hr ht h1 hc
      rw [h5, h3]
      show c' ≤ _
      omega
theorem rt_lb_step {Q : Nat → Nat} {w h st : Nat} {C : Nat → Option Nat} {K : Nat → Nat} (hC : rt_isC Q w h st C) (hs : rt_small C) (I : rt_lb Q w h st C K) {r : Nat} (hr : rt_op Q (w * h) r = true) (h0 : K r ≠ 0) (hlt : rt_on K (rt_nx Q w h r) < K r) : rt_lb Q w h st C (va_up K r (rt_on K (rt_nx Q w h r))) := by
  have ht : rt_tg Q w h st r = false := by
    cases ht : rt_tg Q w h st r with
    | false => rfl
    | true => exact absurd ((I r hr).2.2 ht) h0
  intro q hq
  by_cases e : q = r
  · subst e
    rw [va_up_self]
    exact ⟨rt_lb_on hC hs I hr ht, (rt_on_le _ _).1, fun h => by rw [ht] at h; cases h⟩
  · rw [va_up_ne K _ e]
    exact I q hq
/-- where no run's onward is less, the reference's row holds the costs -/
theorem rt_lb_end {Q : Nat → Nat} {w h st : Nat} {C : Nat → Option Nat} {K : Nat → Nat} (hC : rt_isC Q w h st C) (hs : rt_small C) (I : rt_lb Q w h st C K) (hx : ∀ r, rt_op Q (w * h) r = true → K r ≠ 0 → K r ≤ rt_on K (rt_nx Q w h r)) {r : Nat} (hr : rt_op Q (w * h) r = true) : K r = rt_cE (C r) := by
  cases hc : C r with
  | none =>
    have h1 := I r hr
    rw [hc] at h1
    exact Nat.le_antisymm h1.2.1 h1.1
  | some c0 =>
    suffices H : ∀ n r c, c ≤ n → C r = some c → K r ≤ c by
      have h1 := (I r hr).1
      rw [hc] at h1
      exact Nat.le_antisymm (H c0 r c0 (Nat.le_refl _) hc) h1
    intro n
    induction n with
    | zero =>
      intro r c h1 h2
      have ht : rt_tg Q w h st r = true := (rt_isC_pos hC).mp (by rw [h2]; congr 1; omega)
      rw [(I r (hC.1 r c h2)).2.2 ht]
      omega
    | succ n ih =>
      intro r c h1 h2
      have ho := hC.1 r c h2
      cases ht : rt_tg Q w h st r with
      | true => rw [(I r ho).2.2 ht]; omega
      | false =>
        obtain ⟨f, h3, c1, h4, h5⟩ := hC.2.2.2 r c h2 ht
        have hl := rt_ln_in f
        have h6 := ih f c1 (by omega) h4
        have h7 := hs f c1 h4
        by_cases h0 : K r = 0
        · omega
        · have h8 := hx r ho h0
          have h9 := (rt_on_le K (rt_nx Q w h r)).2 f h3 (by unfold rt_E; omega)
          omega
-- sums, for the rounds' end
def rt_sum (f : Nat → Nat) : Nat → Nat
  | 0 => 0
  | n + 1 => rt_sum f n + f n
theorem rt_sum_eq {f g : Nat → Nat} : ∀ n, (∀ j, j < n → f j = g j) → rt_sum f n = rt_sum g n := by
  intro n
  induction n with
  | zero => intro _; rfl
  | succ n ih =>
    intro h
    show rt_sum f n + f n = rt_sum g n + g n
    rw [ih (fun j hj => h j (by omega)), h n (by omega)]
theorem rt_sum_up {f : Nat → Nat} {k v : Nat} : ∀ n, k < n → rt_sum (va_up f k v) n + f k = rt_sum f n + v := by
  intro n
  induction n with
  | zero => intro h; omega
  | succ n ih =>
    intro h
    show rt_sum (va_up f k v) n + va_up f k v n + f k = rt_sum f n + f n + v
    by_cases e : k = n
    · subst e
      rw [va_up_self, rt_sum_eq (g := f) k (fun j hj => va_up_ne f _ (by omega))]
      omega
    · have := ih (by omega)
      rw [va_up_ne f _ (show n ≠ k from fun q => e q.symm)]
      omega
-- the cheapest next run: of several the first
def rt_bs (C : Nat → Option Nat) (b : Option Nat) (f : Nat) : Option Nat := match C f with
  | none => b
  | some c => match b with
    | none => some f
    | some g => if rt_ln f + c < rt_ln g + (C g).getD 0 then some f else some g
def rt_best (C : Nat → Option Nat) (l : List Nat) : Option Nat := l.foldl (rt_bs C) none
theorem rt_best_app (C : Nat → Option Nat) (l : List Nat) (f : Nat) : rt_best C (l ++ [f]) = rt_bs C (rt_best C l) f := by
  unfold rt_best
  rw [List.foldl_append]
  rfl
theorem rt_best_in (C : Nat → Option Nat) (l : List Nat) : match rt_best C l with
    | none => ∀ f, f ∈ l → C f = none
    | some g => g ∈ l ∧ ∃ c, C g = some c ∧ ∀ f d, f ∈ l → C f = some d → rt_ln g + c ≤ rt_ln f + d := by
  suffices H : ∀ (l2 : List Nat), match rt_best C l2.reverse with
    | none => ∀ f, f ∈ l2.reverse → C f = none
    | some g => g ∈ l2.reverse ∧ ∃ c, C g = some c ∧ ∀ f d, f ∈ l2.reverse → C f = some d → rt_ln g + c ≤ rt_ln f + d by
    have := H l.reverse
    rwa [List.reverse_reverse] at this
  intro l2
  induction l2 with
  | nil => intro f hf; simp at hf
  | cons a l ih =>
    rw [List.reverse_cons, rt_best_app]
    unfold rt_bs
    cases ha : C a with
    | none =>
      cases hb : rt_best C l.reverse with
      | none =>
        rw [hb] at ih
        simp only at ih ⊢
        intro f hf
        rcases List.mem_append.mp hf with hf | hf
        · exact ih f hf
        · rw [List.mem_singleton] at hf; rw [hf]; exact ha
      | some g =>
        rw [hb] at ih
        simp only at ih ⊢
        obtain ⟨h1, c, h2, h3⟩ := ih
        refine ⟨List.mem_append_left _ h1, c, h2, ?_⟩
        intro f d hf hd
        rcases List.mem_append.mp hf with hf | hf
        · exact h3 f d hf hd
        · rw [List.mem_singleton] at hf; rw [hf, ha] at hd; cases hd
    | some x =>
      cases hb : rt_best C l.reverse with
      | none =>
        rw [hb] at ih
        simp only at ih ⊢
        refine ⟨by simp, x, ha, ?_⟩
        intro f d hf hd
        rcases List.mem_append.mp hf with hf | hf
        · rw [ih f hf] at hd; cases hd
        · rw [List.mem_singleton] at hf; rw [hf, ha] at hd; cases hd; rw [hf]; exact Nat.le_refl _
      | some g =>
        rw [hb] at ih
        simp only at ih ⊢
        obtain ⟨h1, c, h2, h3⟩ := ih
        rw [h2]
        simp only [Option.getD_some]
        by_cases hlt : rt_ln a + x < rt_ln g + c
        · rw [if_pos hlt]
          dsimp only
          refine ⟨by simp, x, ha, ?_⟩
          intro f d hf hd
          rcases List.mem_append.mp hf with hf | hf
          · have := h3 f d hf hd; omega
          · rw [List.mem_singleton] at hf; rw [hf, ha] at hd; cases hd; rw [hf]; exact Nat.le_refl _
        · rw [if_neg hlt]
          dsimp only
          refine ⟨List.mem_append_left _ h1, c, h2, ?_⟩
          intro f d hf hd
          rcases List.mem_append.mp hf with hf | hf
          · exact h3 f d hf hd
          · rw [List.mem_singleton] at hf; rw [hf, ha] at hd; cases hd; rw [hf]; omega
/-- a run with a cost that is no target goes on to a cheaper one -/
theorem rt_best_on {Q : Nat → Nat} {w h st : Nat} {C : Nat → Option Nat} (hC : rt_isC Q w h st C) {r c : Nat} (hc : C r = some c) (h0 : c ≠ 0) : ∃ f c', rt_best C (rt_nx Q w h r) = some f ∧ f ∈ rt_nx Q w h r ∧ C f = some c' ∧ c' < c := by
  have ht : rt_tg Q w h st r = false := by
    cases ht : rt_tg Q w h st r with
    | false => rfl
    | true => rw [hC.2.1 r ht] at hc; cases hc; exact absurd rfl h0
  obtain ⟨f, h1, d, h2, h3⟩ := hC.2.2.2 r c hc ht
  have hb := rt_best_in C (rt_nx Q w h r)
  cases hz : rt_best C (rt_nx Q w h r) with
  | none => rw [hz] at hb; simp only at hb; rw [hb f h1] at h2; cases h2
  | some g =>
    rw [hz] at hb
    simp only at hb
    obtain ⟨h4, c', h5, h6⟩ := hb
    have := h6 f d h1 h2
    have := rt_ln_in g
    exact ⟨g, c', rfl, h4, h5, by omega⟩
/-- run k of the route from r on -/
def rt_rt (Q : Nat → Nat) (w h : Nat) (C : Nat → Option Nat) : Nat → Nat → Option Nat
  | 0, r => rt_best C (rt_nx Q w h r)
  | k + 1, r => match rt_best C (rt_nx Q w h r) with
    | none => none
    | some f => if (rt_hs Q f || decide (C f = some 0)) = true then none else rt_rt Q w h C k f
/-- how many runs are cheaper -/
def rt_rk (C : Nat → Option Nat) (N c : Nat) : Nat := (List.range N).countP (fun r => match C r with
  | none => false
  | some d => decide (d < c))
theorem rt_cnt_lt {p q : Nat → Bool} {x : Nat} : ∀ (l : List Nat), (∀ y, y ∈ l → p y = true → q y = true) → x ∈ l → p x = false → q x = true → l.countP p < l.countP q := by
  intro l
  induction l with
  | nil => intro _ h; cases h
  | cons a l ih =>
    intro h1 h2 h3 h4
    rw [List.countP_cons, List.countP_cons]
    rcases List.mem_cons.mp h2 with e | hx
    · subst e
      have := List.countP_mono_left (l := l) (p := p) (q := q) (fun y hy => h1 y (List.mem_cons_of_mem _ hy))
      rw [h3, h4]
      simp
      omega
    · have := ih (fun y hy => h1 y (List.mem_cons_of_mem _ hy)) hx h3 h4
      have h5 := h1 a List.mem_cons_self
      split
      · next hp => rw [h5 hp]; simp; omega
      · split <;> omega
theorem rt_rk_lt {C : Nat → Option Nat} {N f d c : Nat} (hf : f < N) (hd : C f = some d) (hlt : d < c) : rt_rk C N d < rt_rk C N c := by
  unfold rt_rk
  refine rt_cnt_lt (x := f) _ ?_ (List.mem_range.mpr hf) (by rw [hd]; simp) (by rw [hd]; simpa using hlt)
  intro y _ hy
  cases hz : C y with
  | none => rw [hz] at hy; cases hy
  | some z =>
    rw [hz] at hy
    simp only [decide_eq_true_eq] at hy ⊢
    omega
theorem rt_rk_le (C : Nat → Option Nat) (N c : Nat) : rt_rk C N c ≤ N := by
  unfold rt_rk
  have := List.countP_le_length (l := List.range N) (p := fun r => match C r with
    | none => false
    | some d => decide (d < c))
  rwa [List.length_range] at this
end
section
/-! PURE: blocks: touching pieces, the class's flooding, the reference's pile -/
def rt_ap (k : Nat) : Nat := [9, 9, 4, 5, 2, 3].getD k 9
def rt_meet (p q : Nat) : Prop := p / 6 = q / 6 ∧ rt_ap (p % 6) ≠ q % 6
def rt_acr (Q : Nat → Nat) (w h p d i q : Nat) : Prop := rt_hs Q (2 * p + d) = false ∧ ∃ a, rt_ah w h (2 * p + d) i = some a ∧ rt_hs Q (rt_rv a) = false ∧ a / 2 = q
def rt_tc (Q : Nat → Nat) (w h p q : Nat) : Prop := Q p ≠ 0 ∧ Q q ≠ 0 ∧ (rt_meet p q ∨ ∃ d i, d < 2 ∧ i < 3 ∧ rt_acr Q w h p d i q)
theorem rt_ap_symm : ∀ a, a < 6 → ∀ b, b < 6 → rt_ap a ≠ b → rt_ap b ≠ a := by decide +kernel
theorem rt_meet_symm {p q : Nat} (h : rt_meet p q) : rt_meet q p := ⟨h.1.symm, rt_ap_symm _ (Nat.mod_lt _ (by omega)) _ (Nat.mod_lt _ (by omega)) h.2⟩
theorem rt_tc_symm {Q : Nat → Nat} {w h p q : Nat} (hw : 0 < w) (hQ : rt_ok Q (6 * (w * h))) (ht : rt_tc Q w h p q) : rt_tc Q w h q p := by
  obtain ⟨h1, h2, h3 | ⟨d, i, hd, hi, h4, a, h5, h6, h7⟩⟩ := ht
  · exact ⟨h2, h1, Or.inl (rt_meet_symm h3)⟩
  · have hp := rt_ok_in hQ h1
    obtain ⟨-, -, j, hj, h8⟩ := rt_ah_back hw (show 2 * p + d < 12 * (w * h) by omega) hi h5
    have e1 : rt_rv a = 2 * q + rt_rv a % 2 := by
      have := rt_rv_2 a
      omega
    refine ⟨h2, h1, Or.inr ⟨rt_rv a % 2, j, Nat.mod_lt _ (by omega), hj, by rw [← e1]; exact h6, rt_rv (2 * p + d), by rw [← e1]; exact h8, by rw [rt_rv_rv]; exact h4, by rw [rt_rv_2]; omega⟩⟩
/-- B tells each piece's block by its lowest piece -/
def rt_cl (Q : Nat → Nat) (w h : Nat) (S : Nat → Prop) : Prop := ∀ x y, S x → rt_tc Q w h x y → S y
def rt_isB (Q : Nat → Nat) (w h : Nat) (B : Nat → Nat) : Prop :=
  (∀ p q, rt_tc Q w h p q → B p = B q) ∧ (∀ p, Q p ≠ 0 → B p ≤ p ∧ Q (B p) ≠ 0) ∧ (∀ p, Q p ≠ 0 → ∀ S : Nat → Prop, S p → rt_cl Q w h S → S (B p))
theorem rt_isB_B {Q : Nat → Nat} {w h : Nat} {B : Nat → Nat} (hB : rt_isB Q w h B) {p : Nat} (hp : Q p ≠ 0) : B (B p) = B p :=
  hB.2.2 p hp (fun x => B x = B p) rfl (fun x y hx ht => (hB.1 x y ht).symm.trans hx)
-- between two floods of the class: all pieces under x have their block
def rt_bI (Q : Nat → Nat) (w h : Nat) (F : Nat → Option Nat) (x : Nat) : Prop :=
  (∀ q b, F q = some b → Q q ≠ 0 ∧ b ≤ q ∧ b < x ∧ Q b ≠ 0 ∧ F b = some b ∧ ∀ S : Nat → Prop, S q → rt_cl Q w h S → S b) ∧
  (∀ q, q < x → Q q ≠ 0 → F q ≠ none) ∧ (∀ p q b, rt_tc Q w h p q → F p = some b → F q = some b)
theorem rt_bI_0 (Q : Nat → Nat) (w h : Nat) : rt_bI Q w h (fun _ => none) 0 :=
  ⟨fun q b h => (by cases h), fun q h => absurd h (Nat.not_lt_zero _), fun p q b _ h => (by cases h)⟩
theorem rt_bI_skip {Q : Nat → Nat} {w h x : Nat} {F : Nat → Option Nat} (I : rt_bI Q w h F x) (hx : Q x = 0 ∨ F x ≠ none) : rt_bI Q w h F (x + 1) := by
  obtain ⟨i1, i2, i3⟩ := I
  refine ⟨fun q b h => ?_, fun q hq h => ?_, i3⟩
  · obtain ⟨a1, a2, a3, a4⟩ := i1 q b h
    exact ⟨a1, a2, by omega, a4⟩
  · rcases Nat.lt_or_ge q x with z | z
    · exact i2 q z h
    · have : q = x := by omega
      subst this
      rcases hx with e | e
      · exact absurd e h
      · exact e
-- within a flood: the row R, places hd .. tl wait; pend: pieces that may still be wanting
def rt_fI (Q : Nat → Nat) (w h : Nat) (F0 : Nat → Option Nat) (x : Nat) (F : Nat → Option Nat) (R : Nat → Nat) (hd tl : Nat) (pend : Nat → Nat → Prop) : Prop :=
  hd ≤ tl ∧ (∀ j, j < tl → F (R j) = some x ∧ Q (R j) ≠ 0 ∧ F0 (R j) = none ∧ ∀ S : Nat → Prop, S (R j) → rt_cl Q w h S → S x) ∧ (∀ q, F q = some x → ∃ j, j < tl ∧ R j = q) ∧
  (∀ i j, i < tl → j < tl → R i = R j → i = j) ∧ (∀ q, F q ≠ some x → F q = F0 q) ∧
  (∀ j, j < hd → ∀ q, rt_tc Q w h (R j) q → F q = some x ∨ pend (R j) q) ∧ (0 < tl ∧ R 0 = x)
theorem rt_fI_0 {Q : Nat → Nat} {w h x : Nat} {F0 : Nat → Option Nat} {R : Nat → Nat} (I : rt_bI Q w h F0 x) (hx : Q x ≠ 0) (hn : F0 x = none) : rt_fI Q w h F0 x (va_up F0 x (some x)) (va_up R 0 x) 0 1 (fun _ _ => False) := by
  refine ⟨by omega, ?_, ?_, by intro i j h1 h2 _; omega, ?_, fun j h => absurd h (Nat.not_lt_zero _), by omega, va_up_self _ _ _⟩
  · intro j hj
    have : j = 0 := by omega
    subst this
    rw [va_up_self, va_up_self]
    exact ⟨rfl, hx, hn, fun S h _ => h⟩
  · intro q hq
    refine ⟨0, by omega, ?_⟩
    rw [va_up_self]
    by_cases e : q = x
    · exact e.symm
    · rw [va_up_ne F0 _ e] at hq
      have := (I.1 q x hq).2.2.1
      omega
  · intro q hq
    by_cases e : q = x
    · rw [e, va_up_self] at hq
      exact absurd rfl hq
    · rw [va_up_ne F0 _ e]
/-- what touches a piece of the flood is of it, or nowhere yet -/
theorem rt_fI_or {Q : Nat → Nat} {w h x hd tl : Nat} {F0 F : Nat → Option Nat} {R : Nat → Nat} {pend : Nat → Nat → Prop} (hw : 0 < w) (hQ : rt_ok Q (6 * (w * h))) (B : rt_bI Q w h F0 x) (I : rt_fI Q w h F0 x F R hd tl pend) {j q : Nat} (hj : j < tl) (ht : rt_tc Q w h (R j) q) : F q = none ∨ F q = some x := by
  by_cases e : F q = some x
  · exact Or.inr e
  · refine Or.inl ?_
    have h1 := I.2.2.2.2.1 q e
    rw [h1]
    cases h2 : F0 q with
    | none => rfl
    | some b =>
      have h3 := B.2.2 q (R j) b (rt_tc_symm hw hQ ht) h2
      rw [(I.2.1 j hj).2.2.1] at h3
      cases h3
theorem rt_fI_drop {Q : Nat → Nat} {w h x hd tl : Nat} {F0 F : Nat → Option Nat} {R : Nat → Nat} {pend pend' : Nat → Nat → Prop} (I : rt_fI Q w h F0 x F R hd tl pend) (hp : ∀ j q, j < hd → rt_tc Q w h (R j) q → pend (R j) q → F q = some x ∨ pend' (R j) q) : rt_fI Q w h F0 x F R hd tl pend' := by
  obtain ⟨i1, i2, i3, i4, i5, i6, i7⟩ := I
  refine ⟨i1, i2, i3, i4, i5, ?_, i7⟩
  intro j hj q ht
  rcases i6 j hj q ht with h | h
  · exact Or.inl h
  · exact hp j q hj ht h
theorem rt_fI_join {Q : Nat → Nat} {w h x hd tl : Nat} {F0 F : Nat → Option Nat} {R : Nat → Nat} {pend : Nat → Nat → Prop} (I : rt_fI Q w h F0 x F R hd tl pend) {j q : Nat} (hw : 0 < w) (hQ : rt_ok Q (6 * (w * h))) (hj : j < tl) (ht : rt_tc Q w h (R j) q) (hn : F q = none) : rt_fI Q w h F0 x (va_up F q (some x)) (va_up R tl q) hd (tl + 1) (fun g r => pend g r ∧ r ≠ q) := by
  obtain ⟨i1, i2, i3, i4, i5, i6, i7⟩ := I
  have nb : ∀ k, k < tl → R k ≠ q := fun k hk e => by have := (i2 k hk).1; rw [e, hn] at this; cases this
  have ho : ∀ k, k < tl → va_up R tl q k = R k := fun k hk => va_up_ne R q (by omega)
  have hF : ∀ k, k < tl → va_up F q (some x) (R k) = F (R k) := fun k hk => va_up_ne F _ (nb k hk)
  refine ⟨by omega, ?_, ?_, ?_, ?_, ?_, by omega, by rw [ho 0 i7.1]; exact i7.2⟩
  · intro k hk
    rcases Nat.lt_or_ge k tl with z | z
    · rw [ho k z, hF k z]
      exact i2 k z
    · have : k = tl := by omega
      subst this
      rw [va_up_self, va_up_self]
      refine ⟨rfl, ht.2.1, ?_, ?_⟩
      · have := i5 q (by rw [hn]; simp)
        rw [← this]
        exact hn
      · intro S hS hc
        exact (i2 j hj).2.2.2 S (hc q (R j) hS (rt_tc_symm hw hQ ht)) hc
  · intro p hp
    by_cases e : p = q
    · exact ⟨tl, by omega, by rw [va_up_self, e]⟩
    · rw [va_up_ne F _ e] at hp
      obtain ⟨k, hk, e2⟩ := i3 p hp
      exact ⟨k, by omega, by rw [ho k hk]; exact e2⟩
  · intro a b ha hb e
    rcases Nat.lt_or_ge a tl with z | z <;> rcases Nat.lt_or_ge b tl with z2 | z2
    · rw [ho a z, ho b z2] at e
      exact i4 a b z z2 e
    · have : b = tl := by omega
      subst this
      rw [ho a z, va_up_self] at e
      exact absurd e (nb a z)
    · have : a = tl := by omega
      subst this
      rw [ho b z2, va_up_self] at e
      exact absurd e.symm (nb b z2)
    · omega
  · intro p hp
    by_cases e : p = q
    · rw [e, va_up_self] at hp
      exact absurd rfl hp
    · rw [va_up_ne F _ e] at hp ⊢
      exact i5 p hp
  · intro k hk p hp
    rw [ho k (by omega)] at hp ⊢
    by_cases e : p = q
    · exact Or.inl (by rw [e, va_up_self])
    · rw [va_up_ne F _ e]
      rcases i6 k hk p hp with h | h
      · exact Or.inl h
      · exact Or.inr ⟨h, e⟩
theorem rt_fI_take {Q : Nat → Nat} {w h x hd tl : Nat} {F0 F : Nat → Option Nat} {R : Nat → Nat} (I : rt_fI Q w h F0 x F R hd tl (fun _ _ => False)) (hl : hd < tl) : rt_fI Q w h F0 x F R (hd + 1) tl (fun g _ => g = R hd) := by
  obtain ⟨i1, i2, i3, i4, i5, i6, i7⟩ := I
  refine ⟨hl, i2, i3, i4, i5, ?_, i7⟩
  intro j hj q ht
  rcases Nat.lt_or_ge j hd with z | z
  · rcases i6 j z q ht with h | h
    · exact Or.inl h
    · exact h.elim
  · exact Or.inr (by rw [show j = hd by omega])
theorem rt_fI_cap {Q : Nat → Nat} {w h x hd tl : Nat} {F0 F : Nat → Option Nat} {R : Nat → Nat} {pend : Nat → Nat → Prop} (hQ : rt_ok Q (6 * (w * h))) (I : rt_fI Q w h F0 x F R hd tl pend) : tl ≤ 6 * (w * h) :=
  rt_pig _ tl R (fun j hj => rt_ok_in hQ (I.2.1 j hj).2.1) I.2.2.2.1
/-- a flood's end -/
theorem rt_fI_end {Q : Nat → Nat} {w h x tl : Nat} {F0 F : Nat → Option Nat} {R : Nat → Nat} (B : rt_bI Q w h F0 x) (I : rt_fI Q w h F0 x F R tl tl (fun _ _ => False)) : rt_bI Q w h F (x + 1) ∧ F x = some x ∧ ∀ q, q < x → F q = F0 q := by
  obtain ⟨i1, i2, i3, i4, i5, i6, i7⟩ := I
  have hge : ∀ j, j < tl → x ≤ R j := by
    intro j hj
    rcases Nat.lt_or_ge (R j) x with z | z
    · exact absurd (i2 j hj).2.2.1 (B.2.1 _ z (i2 j hj).2.1)
    · exact z
  have hx : F x = some x := by
    have := (i2 0 i7.1).1
    rwa [i7.2] at this
  have hQx : Q x ≠ 0 := by
    have := (i2 0 i7.1).2.1
    rwa [i7.2] at this
  have hold : ∀ q b, F0 q = some b → F q = some b := by
    intro q b hq
    by_cases e : F q = some x
    · obtain ⟨j, hj, e2⟩ := i3 q e
      have := (i2 j hj).2.2.1
      rw [e2, hq] at this
      cases this
    · rw [i5 q e]
      exact hq
  refine ⟨⟨?_, ?_, ?_⟩, hx, ?_⟩
  · intro q b hq
    by_cases e : F q = some x
    · rw [e] at hq
      cases hq
      obtain ⟨j, hj, e2⟩ := i3 q e
      obtain ⟨a1, a2, a3, a4⟩ := i2 j hj
      have a5 := hge j hj
      rw [e2] at a2 a4 a5
      exact ⟨a2, a5, by omega, hQx, hx, a4⟩
    · rw [i5 q e] at hq
      obtain ⟨a1, a2, a3, a4, a5, a6⟩ := B.1 q b hq
      exact ⟨a1, a2, by omega, a4, hold b b a5, a6⟩
  · intro q hq h1 h2
    by_cases e : q = x
    · rw [e, hx] at h2
      cases h2
    · have h3 := B.2.1 q (by omega) h1
      cases h4 : F0 q with
      | none => exact h3 h4
      | some b => rw [hold q b h4] at h2; cases h2
  · intro p q b ht hp
    by_cases e : F p = some x
    · rw [e] at hp
      cases hp
      obtain ⟨j, hj, e2⟩ := i3 p e
      rw [← e2] at ht
      rcases i6 j hj q ht with h | h
      · exact h
      · exact h.elim
    · rw [i5 p e] at hp
      exact hold q b (B.2.2 p q b ht hp)
  · intro q hq
    by_cases e : F q = some x
    · obtain ⟨j, hj, e2⟩ := i3 q e
      have := hge j hj
      omega
    · exact i5 q e
/-- how many lowest pieces there are under x -/
def rt_cB (F : Nat → Option Nat) (x : Nat) : Nat := (List.range x).countP (fun q => decide (F q = some q))
theorem rt_cB_succ (F : Nat → Option Nat) (x : Nat) : rt_cB F (x + 1) = rt_cB F x + (if F x = some x then 1 else 0) := by
  unfold rt_cB
  rw [List.range_succ, List.countP_append]
  congr 1
  simp only [List.countP_cons, List.countP_nil]
  split <;> split <;> simp_all
theorem rt_cB_eq {F G : Nat → Option Nat} {x : Nat} (h : ∀ q, q < x → F q = G q) : rt_cB F x = rt_cB G x := by
  unfold rt_cB
  refine List.countP_congr ?_
  intro q hq
  rw [h q (List.mem_range.mp hq)]
def rt_nB (Q : Nat → Nat) (N : Nat) (B : Nat → Nat) : Nat := (List.range N).countP (fun q => decide (Q q ≠ 0) && decide (B q = q))
/-- all floods done -/
theorem rt_bI_end {Q : Nat → Nat} {w h : Nat} {F : Nat → Option Nat} (hQ : rt_ok Q (6 * (w * h))) (I : rt_bI Q w h F (6 * (w * h))) : rt_isB Q w h (fun q => (F q).getD 0) ∧ rt_cB F (6 * (w * h)) = rt_nB Q (6 * (w * h)) (fun q => (F q).getD 0) ∧ ∀ q, F q = if Q q ≠ 0 then some ((F q).getD 0) else none := by
  obtain ⟨i1, i2, i3⟩ := I
  have hs : ∀ q, Q q ≠ 0 → ∃ b, F q = some b := by
    intro q hq
    cases h : F q with
    | none => exact absurd h (i2 q (rt_ok_in hQ hq) hq)
    | some b => exact ⟨b, rfl⟩
  have hall : ∀ q, F q = if Q q ≠ 0 then some ((F q).getD 0) else none := by
    intro q
    cases h : F q with
    | none =>
      by_cases e : Q q = 0
      · simp [e]
      · obtain ⟨b, hb⟩ := hs q e
        rw [hb] at h
        cases h
    | some b => rw [if_pos (i1 q b h).1]; rfl
  refine ⟨⟨?_, ?_, ?_⟩, ?_, hall⟩
  · intro p q ht
    obtain ⟨b, hb⟩ := hs p ht.1
    simp only
    rw [i3 p q b ht hb, hb]
  · intro p hp
    obtain ⟨b, hb⟩ := hs p hp
    obtain ⟨a1, a2, a3, a4, a5, a6⟩ := i1 p b hb
    simp only
    rw [hb]
    exact ⟨a2, a4⟩
  · intro p hp S hS hc
    obtain ⟨b, hb⟩ := hs p hp
    simp only
    rw [hb]
    exact (i1 p b hb).2.2.2.2.2 S hS hc
  · unfold rt_cB rt_nB
    refine List.countP_congr ?_
    intro q _
    simp only [Bool.and_eq_true, decide_eq_true_eq]
    constructor
    · intro h
      exact ⟨(i1 q q h).1, by rw [h]; rfl⟩
    · rintro ⟨h1, h2⟩
      obtain ⟨b, hb⟩ := hs q h1
      rw [hb] at h2 ⊢
      simp only [Option.getD_some] at h2
      rw [h2]
end
section
/-! PURE: the reference's touch, its pile, its list of pieces -/
def rt_sg (Q : Nat → Nat) (p : Nat) : Nat := 2 * p + (rt_g Q p - 1) % 2
def rt_gu (Q : Nat → Nat) (p e : Nat) : Bool := decide (rt_g Q p ≠ 0) && decide (rt_mt (rt_sg Q p % 12) = e)
def rt_en (p e : Nat) : Bool := decide (rt_ed (2 * (p % 6)) = e) || decide (rt_ed (2 * (p % 6) + 1) = e)
def rt_km (a b : Nat) : Bool := !(decide (a + b = 6) && decide (a ≠ b) && (decide (a = 2) || decide (a = 4))) && !(decide (a + b = 8) && decide (a ≠ b) && (decide (a = 3) || decide (a = 5)))
def rt_te (Q : Nat → Nat) (w h p q e : Nat) : Bool := decide (rt_nb w h (p / 6) (rt_tr e) = some (q / 6)) && rt_en p e && rt_en q (rt_mo e) && !(rt_gu Q p e) && !(rt_gu Q q (rt_mo e))
def rt_tm (Q : Nat → Nat) (w h p q : Nat) : Bool := if p / 6 = q / 6 then rt_km (p % 6) (q % 6) else (List.range 4).any (rt_te Q w h p q)
theorem rt_km_ap : ∀ a, a < 6 → ∀ b, b < 6 → (rt_km a b = true ↔ rt_ap a ≠ b) := by decide +kernel
theorem rt_l1 : ∀ l, l < 12 → ∀ l', l' < 12 → rt_mt l' = rt_mo (rt_mt l) → ∃ i, i < 3 ∧ rt_bg (3 * rt_to l + i) = rt_rv l' := by decide +kernel
theorem rt_l2 : ∀ l, l < 12 → ∀ i, i < 3 → rt_mt (rt_rv (rt_bg (3 * rt_to l + i))) = rt_mo (rt_mt l) := by decide +kernel
theorem rt_l3 : ∀ k, k < 6 → ∀ e, e < 4 → ((decide (rt_ed (2 * k) = e) || decide (rt_ed (2 * k + 1) = e)) = true ↔ ∃ d, d < 2 ∧ rt_mt (2 * k + d) = e) := by decide +kernel
theorem rt_l4 : ∀ k, k < 6 → ∀ d, d < 2 → ∀ d', d' < 2 → rt_mt (2 * k + d) = rt_mt (2 * k + d') → d = d' := by decide +kernel
theorem rt_en_iff {p e : Nat} (he : e < 4) : rt_en p e = true ↔ ∃ d, d < 2 ∧ rt_mt (2 * (p % 6) + d) = e := rt_l3 (p % 6) (Nat.mod_lt _ (by omega)) e he
theorem rt_mo_lt : ∀ e, e < 4 → rt_mo e < 4 := by decide +kernel
/-- a piece guards the edge to which its run d goes just if its signal is for that run -/
theorem rt_gu_hs {Q : Nat → Nat} {p d e : Nat} (hd : d < 2) (he : rt_mt (2 * (p % 6) + d) = e) : rt_gu Q p e = rt_hs Q (2 * p + d) := by
  unfold rt_gu rt_hs rt_sg
  have e1 : (2 * p + d) / 2 = p := by omega
  have e2 : (2 * p + d) % 2 = d := by omega
  have e3 : (2 * p + (rt_g Q p - 1) % 2) % 12 = 2 * (p % 6) + (rt_g Q p - 1) % 2 := by omega
  rw [e1, e2, e3]
  congr 1
  rw [← he]
  have h6 : p % 6 < 6 := Nat.mod_lt _ (by omega)
  have h2 : (rt_g Q p - 1) % 2 < 2 := Nat.mod_lt _ (by omega)
  have := rt_l4 (p % 6) h6 _ h2 d hd
  by_cases c : (rt_g Q p - 1) % 2 = d
  · rw [c]; simp
  · have hne : ¬ rt_mt (2 * (p % 6) + (rt_g Q p - 1) % 2) = rt_mt (2 * (p % 6) + d) := fun z => c (this z)
    simp [c, hne]
theorem rt_tm_tc {Q : Nat → Nat} {w h p q : Nat} (hw : 0 < w) (hQ : rt_ok Q (6 * (w * h))) (hp : Q p ≠ 0) (hq : Q q ≠ 0) : rt_tm Q w h p q = true ↔ rt_tc Q w h p q := by
  have hp6 := rt_ok_in hQ hp
  have hq6 := rt_ok_in hQ hq
  have hpk : p % 6 < 6 := Nat.mod_lt _ (by omega)
  have hqk : q % 6 < 6 := Nat.mod_lt _ (by omega)
  unfold rt_tm
  by_cases hs : p / 6 = q / 6
  · rw [if_pos hs, rt_km_ap _ hpk _ hqk]
    constructor
    · intro h1
      exact ⟨hp, hq, Or.inl ⟨hs, h1⟩⟩
    · rintro ⟨-, -, h1 | ⟨d, i, hd, hi, -, a, h2, -, h3⟩⟩
      · exact h1.2
      · have := (rt_ah_back hw (show 2 * p + d < 12 * (w * h) by omega) hi h2).2.1
        omega
  · rw [if_neg hs, List.any_eq_true]
    constructor
    · rintro ⟨e, he, h1⟩
      have he4 := List.mem_range.mp he
      unfold rt_te at h1
      simp only [Bool.and_eq_true, decide_eq_true_eq, Bool.not_eq_true'] at h1
      obtain ⟨⟨⟨⟨h1, h2⟩, h3⟩, h4⟩, h5⟩ := h1
      obtain ⟨d, hd, h6⟩ := (rt_en_iff he4).mp h2
      obtain ⟨d', hd', h7⟩ := (rt_en_iff (rt_mo_lt e he4)).mp h3
      rw [rt_gu_hs hd h6] at h4
      rw [rt_gu_hs hd' h7] at h5
      obtain ⟨i, hi, h8⟩ := rt_l1 (2 * (p % 6) + d) (by omega) (2 * (q % 6) + d') (by omega) (by rw [h6]; exact h7)
      refine ⟨hp, hq, Or.inr ⟨d, i, hd, hi, h4, 12 * (q / 6) + rt_rv (2 * (q % 6) + d'), ?_, ?_, ?_⟩⟩
      · unfold rt_ah
        have e1 : (2 * p + d) / 12 = p / 6 := by omega
        have e2 : (2 * p + d) % 12 = 2 * (p % 6) + d := by omega
        rw [e1, e2, ← rt_tr_to _ (show 2 * (p % 6) + d < 12 by omega), h6, h1]
        show some _ = some _
        rw [← h6, rt_tr_to _ (show 2 * (p % 6) + d < 12 by omega), h8]
      · rw [← rt_rv_add, rt_rv_rv]
        have e3 : 12 * (q / 6) + (2 * (q % 6) + d') = 2 * q + d' := by omega
        rw [e3]
        exact h5
      · rw [← rt_rv_add, rt_rv_2]
        omega
    · rintro ⟨-, -, h1 | ⟨d, i, hd, hi, h4, a, h2, h5, h3⟩⟩
      · exact absurd h1.1 hs
      · obtain ⟨t, h6, rfl⟩ := rt_ah_some h2
        have e1 : (2 * p + d) / 12 = p / 6 := by omega
        have e2 : (2 * p + d) % 12 = 2 * (p % 6) + d := by omega
        have hl : 2 * (p % 6) + d < 12 := by omega
        rw [e1, e2] at h6
        rw [e2] at h5 h3
        have hb := rt_bgi_lt hl hi
        have h7 := rt_l2 _ hl i hi
        generalize hbe : rt_bg (3 * rt_to (2 * (p % 6) + d) + i) = bb at *
        have hb2 : rt_rv bb < 12 := by have := rt_rv_lt (n := 1) (r := bb) (by omega); omega
        have e4 : t = q / 6 := by omega
        have e5 : rt_rv bb / 2 = q % 6 := by have := rt_rv_2 bb; omega
        have e6 : rt_rv bb = 2 * (q % 6) + rt_rv bb % 2 := by omega
        rw [rt_rv_add] at h5
        have e7 : 12 * t + rt_rv bb = 2 * q + rt_rv bb % 2 := by omega
        rw [e7] at h5
        have hm2 : rt_rv bb % 2 < 2 := Nat.mod_lt _ (by omega)
        have he4 := (rt_mt_lt _ hl).1
        rw [e6] at h7
        refine ⟨rt_mt (2 * (p % 6) + d), List.mem_range.mpr he4, ?_⟩
        unfold rt_te
        simp only [Bool.and_eq_true, decide_eq_true_eq, Bool.not_eq_true']
        refine ⟨⟨⟨⟨?_, ?_⟩, ?_⟩, ?_⟩, ?_⟩
        · rw [rt_tr_to _ hl, h6, e4]
        · exact (rt_en_iff he4).mpr ⟨d, hd, rfl⟩
        · exact (rt_en_iff (rt_mo_lt _ he4)).mpr ⟨rt_rv bb % 2, hm2, h7⟩
        · rw [rt_gu_hs hd rfl]; exact h4
        · rw [rt_gu_hs hm2 h7]; exact h5
-- the reference's pile: k of size places are done
def rt_pI (Q : Nat → Nat) (w h : Nat) (B : Nat → Nat) (Z0 : Nat → Bool) (p : Nat) (Z : Nat → Bool) (R : Nat → Nat) (k sz least : Nat) (pend : Nat → Nat → Prop) : Prop :=
  k ≤ sz ∧ (0 < sz ∧ R 0 = p) ∧ (∀ j, j < sz → Q (R j) ≠ 0 ∧ B (R j) = B p ∧ Z0 (R j) = false) ∧ (∀ i j, i < sz → j < sz → R i = R j → i = j) ∧
  (∀ q, Z q = true ↔ (Z0 q = true ∨ ∃ j, j < sz ∧ R j = q)) ∧ (∀ j, j < k → ∀ q, rt_tc Q w h (R j) q → Z q = true ∨ pend (R j) q) ∧ ((∃ j, j < sz ∧ R j = least) ∧ ∀ j, j < sz → least ≤ R j)
theorem rt_pI_0 {Q : Nat → Nat} {w h : Nat} {B : Nat → Nat} {Z0 : Nat → Bool} {p : Nat} {R : Nat → Nat} (hp : Q p ≠ 0) (hz : Z0 p = false) : rt_pI Q w h B Z0 p (va_up Z0 p true) (va_up R 0 p) 0 1 p (fun _ _ => False) := by
  refine ⟨by omega, ⟨by omega, va_up_self _ _ _⟩, ?_, by intro i j _ _ _; omega, ?_, fun j h => absurd h (Nat.not_lt_zero _), ⟨0, by omega, va_up_self _ _ _⟩, ?_⟩
  · intro j hj
    rw [show j = 0 by omega, va_up_self]
    exact ⟨hp, rfl, hz⟩
  · intro q
    by_cases e : q = p
    · subst e
      rw [va_up_self]
      exact ⟨fun _ => Or.inr ⟨0, by omega, va_up_self _ _ _⟩, fun _ => rfl⟩
    · rw [va_up_ne Z0 _ e]
      constructor
      · exact Or.inl
      · rintro (h1 | ⟨j, hj, e2⟩)
        · exact h1
        · rw [show j = 0 by omega, va_up_self] at e2
          exact absurd e2.symm e
  · intro j hj
    rw [show j = 0 by omega, va_up_self]
    exact Nat.le_refl _
theorem rt_pI_drop {Q : Nat → Nat} {w h : Nat} {B : Nat → Nat} {Z0 Z : Nat → Bool} {p : Nat} {R : Nat → Nat} {k sz least : Nat} {pend pend' : Nat → Nat → Prop} (I : rt_pI Q w h B Z0 p Z R k sz least pend) (hp : ∀ j q, j < k → rt_tc Q w h (R j) q → pend (R j) q → Z q = true ∨ pend' (R j) q) : rt_pI Q w h B Z0 p Z R k sz least pend' := by
  obtain ⟨i1, i2, i3, i4, i5, i6, i7⟩ := I
  refine ⟨i1, i2, i3, i4, i5, ?_, i7⟩
  intro j hj q ht
  rcases i6 j hj q ht with h | h
  · exact Or.inl h
  · exact hp j q hj ht h
theorem rt_pI_take {Q : Nat → Nat} {w h : Nat} {B : Nat → Nat} {Z0 Z : Nat → Bool} {p : Nat} {R : Nat → Nat} {k sz least : Nat} (I : rt_pI Q w h B Z0 p Z R k sz least (fun _ _ => False)) (hl : k < sz) : rt_pI Q w h B Z0 p Z R (k + 1) sz least (fun g _ => g = R k) := by
  obtain ⟨i1, i2, i3, i4, i5, i6, i7⟩ := I
  refine ⟨hl, i2, i3, i4, i5, ?_, i7⟩
  intro j hj q ht
  rcases Nat.lt_or_ge j k with z | z
  · rcases i6 j z q ht with h | h
    · exact Or.inl h
    · exact h.elim
  · exact Or.inr (by rw [show j = k by omega])
theorem rt_pI_join {Q : Nat → Nat} {w h : Nat} {B : Nat → Nat} {Z0 Z : Nat → Bool} {p : Nat} {R : Nat → Nat} {k sz least : Nat} {pend : Nat → Nat → Prop} (hB : rt_isB Q w h B) (I : rt_pI Q w h B Z0 p Z R k sz least pend) {j q : Nat} (hj : j < sz) (ht : rt_tc Q w h (R j) q) (hn : Z q = false) : rt_pI Q w h B Z0 p (va_up Z q true) (va_up R sz q) k (sz + 1) (if q < least then q else least) (fun g r => pend g r ∧ r ≠ q) := by
  obtain ⟨i1, i2, i3, i4, i5, i6, i7⟩ := I
  have hq0 : Z0 q = false := by
    cases hz : Z0 q with
    | false => rfl
    | true => rw [(i5 q).mpr (Or.inl hz)] at hn; cases hn
  have nb : ∀ a, a < sz → R a ≠ q := fun a ha e => by rw [(i5 q).mpr (Or.inr ⟨a, ha, e⟩)] at hn; cases hn
  have ho : ∀ a, a < sz → va_up R sz q a = R a := fun a ha => va_up_ne R q (by omega)
  refine ⟨by omega, ⟨by omega, by rw [ho 0 i2.1]; exact i2.2⟩, ?_, ?_, ?_, ?_, ?_, ?_⟩
  · intro a ha
    rcases Nat.lt_or_ge a sz with z | z
    · rw [ho a z]
      exact i3 a z
    · rw [show a = sz by omega, va_up_self]
      exact ⟨ht.2.1, by rw [← hB.1 _ _ ht]; exact (i3 j hj).2.1, hq0⟩
  · intro a b ha hb e
    rcases Nat.lt_or_ge a sz with z | z <;> rcases Nat.lt_or_ge b sz with z2 | z2
    · rw [ho a z, ho b z2] at e
      exact i4 a b z z2 e
    · rw [show b = sz by omega, ho a z, va_up_self] at e
      exact absurd e (nb a z)
    · rw [show a = sz by omega, ho b z2, va_up_self] at e
      exact absurd e.symm (nb b z2)
    · omega
  · intro x
    by_cases e : x = q
    · subst e
      rw [va_up_self]
      exact ⟨fun _ => Or.inr ⟨sz, by omega, va_up_self _ _ _⟩, fun _ => rfl⟩
    · rw [va_up_ne Z _ e, i5 x]
      constructor
      · rintro (h1 | ⟨a, ha, e2⟩)
        · exact Or.inl h1
        · exact Or.inr ⟨a, by omega, by rw [ho a ha]; exact e2⟩
      · rintro (h1 | ⟨a, ha, e2⟩)
        · exact Or.inl h1
        · rcases Nat.lt_or_ge a sz with z | z
          · exact Or.inr ⟨a, z, by rw [ho a z] at e2; exact e2⟩
          · rw [show a = sz by omega, va_up_self] at e2
            exact absurd e2.symm e
  · intro a ha x hx
    rw [ho a (by omega)] at hx ⊢
    by_cases e : x = q
    · exact Or.inl (by rw [e, va_up_self])
    · rw [va_up_ne Z _ e]
      rcases i6 a ha x hx with h | h
      · exact Or.inl h
      · exact Or.inr ⟨h, e⟩
  · split
    · exact ⟨sz, by omega, va_up_self _ _ _⟩
    · obtain ⟨a, ha, e⟩ := i7.1
      exact ⟨a, by omega, by rw [ho a ha]; exact e⟩
  · intro a ha
    rcases Nat.lt_or_ge a sz with z | z
    · rw [ho a z]
      have := i7.2 a z
      split <;> omega
    · rw [show a = sz by omega, va_up_self]
      split <;> omega
theorem rt_pI_cap {Q : Nat → Nat} {w h : Nat} {B : Nat → Nat} {Z0 Z : Nat → Bool} {p : Nat} {R : Nat → Nat} {k sz least : Nat} {pend : Nat → Nat → Prop} (hQ : rt_ok Q (6 * (w * h))) (I : rt_pI Q w h B Z0 p Z R k sz least pend) : sz ≤ 6 * (w * h) :=
  rt_pig _ sz R (fun j hj => rt_ok_in hQ (I.2.2.1 j hj).1) I.2.2.2.1
/-- what has been reached is closed -/
def rt_zc (Q : Nat → Nat) (w h : Nat) (Z : Nat → Bool) : Prop := rt_cl Q w h (fun q => Z q = true)
theorem rt_pI_end {Q : Nat → Nat} {w h : Nat} {B : Nat → Nat} {Z0 Z : Nat → Bool} {p : Nat} {R : Nat → Nat} {sz least : Nat} (hw : 0 < w) (hQ : rt_ok Q (6 * (w * h))) (hB : rt_isB Q w h B) (h0 : rt_zc Q w h Z0) (I : rt_pI Q w h B Z0 p Z R sz sz least (fun _ _ => False)) : least = B p ∧ rt_zc Q w h Z ∧ ∀ q, Q q ≠ 0 → (Z q = true ↔ (Z0 q = true ∨ B q = B p)) := by
  obtain ⟨i1, i2, i3, i4, i5, i6, i7⟩ := I
  have hcl : rt_cl Q w h (fun x => ∃ j, j < sz ∧ R j = x) := by
    rintro x y ⟨j, hj, rfl⟩ ht
    rcases i6 j hj y ht with h1 | h1
    · rcases (i5 y).mp h1 with h2 | h2
      · have h3 : Z0 (R j) = true := h0 y (R j) h2 (rt_tc_symm hw hQ ht)
        rw [(i3 j hj).2.2] at h3
        cases h3
      · exact h2
    · exact h1.elim
  have hp0 : Q p ≠ 0 := by
    have := (i3 0 i2.1).1
    rwa [i2.2] at this
  have hBp := hB.2.2 p hp0 _ ⟨0, i2.1, i2.2⟩ hcl
  refine ⟨?_, ?_, ?_⟩
  · obtain ⟨a, ha, e⟩ := hBp
    obtain ⟨b, hb, e2⟩ := i7.1
    have h1 := i7.2 a ha
    have h2 := (hB.2.1 (R b) (i3 b hb).1).1
    rw [(i3 b hb).2.1] at h2
    omega
  · intro x y hx ht
    rcases (i5 x).mp hx with h1 | h1
    · exact (i5 y).mpr (Or.inl (h0 x y h1 ht))
    · exact (i5 y).mpr (Or.inr (hcl x y h1 ht))
  · intro q hq
    rw [i5 q]
    constructor
    · rintro (h1 | ⟨j, hj, rfl⟩)
      · exact Or.inl h1
      · exact Or.inr (i3 j hj).2.1
    · rintro (h1 | h1)
      · exact Or.inl h1
      · refine Or.inr ?_
        by_cases hx : ∃ j, j < sz ∧ R j = q
        · exact hx
        · have := hB.2.2 q hq (fun x => ¬ ∃ j, j < sz ∧ R j = x) hx (fun x y hn ht hy => hn (hcl y x hy (rt_tc_symm hw hQ ht)))
          rw [h1] at this
          exact absurd hBp this
-- the list of the pieces
def rt_isL (Q : Nat → Nat) (L : Nat → Nat) (c : Nat) : Prop := (∀ i, i < c → Q (L i) ≠ 0) ∧ (∀ i j, i < c → j < c → L i = L j → i = j) ∧ ∀ p, Q p ≠ 0 → ∃ i, i < c ∧ L i = p
theorem rt_isL_cap {Q : Nat → Nat} {L : Nat → Nat} {c N : Nat} (hQ : rt_ok Q N) (h : rt_isL Q L c) : c ≤ N := rt_pig N c L (fun j hj => rt_ok_in hQ (h.1 j hj)) h.2.1
theorem rt_nodup {L : Nat → Nat} {c : Nat} (h : ∀ i j, i < c → j < c → L i = L j → i = j) : ((List.range c).map L).Nodup := by
  unfold List.Nodup
  rw [List.pairwise_map]
  refine List.Pairwise.imp_of_mem ?_ (List.nodup_range (n := c))
  intro a b ha hb hne e
  exact hne (h a b (List.mem_range.mp ha) (List.mem_range.mp hb) e)
theorem rt_isL_perm {Q : Nat → Nat} {L : Nat → Nat} {c N : Nat} (hQ : rt_ok Q N) (h : rt_isL Q L c) : ((List.range c).map L).Perm ((List.range N).filter (fun p => decide (Q p ≠ 0))) := by
  refine (List.perm_ext_iff_of_nodup (rt_nodup h.2.1) (List.Pairwise.filter _ List.nodup_range)).mpr ?_
  intro a
  simp only [List.mem_map, List.mem_range, List.mem_filter, decide_eq_true_eq]
  constructor
  · rintro ⟨i, hi, rfl⟩
    exact ⟨rt_ok_in hQ (h.1 i hi), h.1 i hi⟩
  · rintro ⟨-, h2⟩
    exact h.2.2 a h2
/-- what is counted along the list is counted along the map -/
theorem rt_isL_cnt {Q : Nat → Nat} {L : Nat → Nat} {c N : Nat} (hQ : rt_ok Q N) (h : rt_isL Q L c) (f : Nat → Bool) : (List.range c).countP (fun i => f (L i)) = (List.range N).countP (fun p => decide (Q p ≠ 0) && f p) := by
  have h1 := (rt_isL_perm hQ h).countP_eq f
  rw [List.countP_map, List.countP_filter] at h1
  have h2 : (List.range N).countP (fun a => f a && decide (Q a ≠ 0)) = (List.range N).countP (fun p => decide (Q p ≠ 0) && f p) := by
    refine List.countP_congr ?_
    intro x _
    rw [Bool.and_comm]
  rw [← h2]
  exact h1
theorem rt_cnt_one {p q : Nat → Bool} {x : Nat} : ∀ N, x < N → (∀ y, y ≠ x → p y = q y) → p x = false → q x = true → (List.range N).countP q = (List.range N).countP p + 1 := by
  intro N
  induction N with
  | zero => intro h; omega
  | succ N ih =>
    intro h h1 h2 h3
    rw [List.range_succ, List.countP_append, List.countP_append]
    simp only [List.countP_cons, List.countP_nil]
    by_cases e : x = N
    · subst e
      have : (List.range x).countP q = (List.range x).countP p := by
        refine List.countP_congr ?_
        intro y hy
        have := List.mem_range.mp hy
        rw [h1 y (by omega)]
      rw [this, h2, h3]
      simp
    · rw [ih (by omega) h1 h2 h3, h1 N (fun z => e z.symm)]
      omega
/-- lay: one more in the list -/
theorem rt_isL_lay {Q : Nat → Nat} {L : Nat → Nat} {c p v : Nat} (h : rt_isL Q L c) (hp : Q p = 0) (hv : v ≠ 0) : rt_isL (va_up Q p v) (va_up L c p) (c + 1) := by
  obtain ⟨i1, i2, i3⟩ := h
  have ho : ∀ i, i < c → va_up L c p i = L i := fun i hi => va_up_ne L p (by omega)
  have nb : ∀ i, i < c → L i ≠ p := fun i hi e => i1 i hi (by rw [e]; exact hp)
  refine ⟨?_, ?_, ?_⟩
  · intro i hi
    rcases Nat.lt_or_ge i c with z | z
    · rw [ho i z, va_up_ne Q _ (nb i z)]
      exact i1 i z
    · rw [show i = c by omega, va_up_self, va_up_self]
      exact hv
  · intro i j hi hj e
    rcases Nat.lt_or_ge i c with z | z <;> rcases Nat.lt_or_ge j c with z2 | z2
    · rw [ho i z, ho j z2] at e
      exact i2 i j z z2 e
    · rw [show j = c by omega, ho i z, va_up_self] at e
      exact absurd e (nb i z)
    · rw [show i = c by omega, ho j z2, va_up_self] at e
      exact absurd e.symm (nb j z2)
    · omega
  · intro q hq
    by_cases e : q = p
    · exact ⟨c, by omega, by rw [va_up_self, e]⟩
    · rw [va_up_ne Q _ e] at hq
      obtain ⟨i, hi, e2⟩ := i3 q hq
      exact ⟨i, by omega, by rw [ho i hi]; exact e2⟩
/-- lift: the last one comes into its place -/
theorem rt_isL_lift {Q : Nat → Nat} {L : Nat → Nat} {c a : Nat} (h : rt_isL Q L (c + 1)) (ha : a < c + 1) : rt_isL (va_up Q (L a) 0) (va_up L a (L c)) c := by
  obtain ⟨i1, i2, i3⟩ := h
  have hL : ∀ i, i < c → ∃ k, k < c + 1 ∧ k ≠ a ∧ va_up L a (L c) i = L k ∧ (k = c ∧ i = a ∨ k = i ∧ i ≠ a) := by
    intro i hi
    by_cases e : i = a
    · subst e
      exact ⟨c, by omega, by omega, va_up_self _ _ _, Or.inl ⟨rfl, rfl⟩⟩
    · exact ⟨i, by omega, e, va_up_ne L _ e, Or.inr ⟨rfl, e⟩⟩
  refine ⟨?_, ?_, ?_⟩
  · intro i hi
    obtain ⟨k, hk, hka, e, -⟩ := hL i hi
    rw [e, va_up_ne Q _ (fun z => hka (i2 k a hk ha z))]
    exact i1 k hk
  · intro i j hi hj e
    obtain ⟨k, hk, hka, e1, h1⟩ := hL i hi
    obtain ⟨k2, hk2, hka2, e2, h2⟩ := hL j hj
    rw [e1, e2] at e
    have := i2 k k2 hk hk2 e
    omega
  · intro q hq
    by_cases e : q = L a
    · rw [e, va_up_self] at hq
      exact absurd rfl hq
    · rw [va_up_ne Q _ e] at hq
      obtain ⟨i, hi, e2⟩ := i3 q hq
      by_cases hic : i = c
      · subst hic
        have hai : a ≠ i := fun z => e (by rw [z]; exact e2.symm)
        exact ⟨a, by omega, by rw [va_up_self]; exact e2⟩
      · have hia : i ≠ a := fun z => e (by rw [← z]; exact e2.symm)
        exact ⟨i, by omega, by rw [va_up_ne L _ hia]; exact e2⟩
theorem rt_isL_keep {Q : Nat → Nat} {L : Nat → Nat} {c p v : Nat} (h : rt_isL Q L c) (hp : Q p ≠ 0) (hv : v ≠ 0) : rt_isL (va_up Q p v) L c := by
  obtain ⟨i1, i2, i3⟩ := h
  refine ⟨?_, i2, ?_⟩
  · intro i hi
    by_cases e : L i = p
    · rw [e, va_up_self]; exact hv
    · rw [va_up_ne Q _ e]; exact i1 i hi
  · intro q hq
    by_cases e : q = p
    · subst e; exact i3 q hp
    · rw [va_up_ne Q _ e] at hq; exact i3 q hq
end
section
/-! PURE: signs, counts, the parts of a piece's number -/
def rt_sgn (Q : Nat → Nat) (N st : Nat) : Option Nat := ((List.range N).find? (fun p => decide (rt_s Q p = st + 1))).map (fun p => p / 6)
theorem rt_sgn_some {Q : Nat → Nat} {N st p : Nat} (hp : p < N) (h1 : rt_s Q p = st + 1) (h2 : ∀ j, j < p → rt_s Q j ≠ st + 1) : rt_sgn Q N st = some (p / 6) := by
  unfold rt_sgn
  rw [List.find?_range_eq_some.mpr ⟨by simpa using h1, List.mem_range.mpr hp, fun j hj => by simpa using h2 j hj⟩]
  rfl
theorem rt_sgn_none {Q : Nat → Nat} {N st : Nat} (h : ∀ j, j < N → rt_s Q j ≠ st + 1) : rt_sgn Q N st = none := by
  unfold rt_sgn
  rw [List.find?_range_eq_none.mpr (fun j hj => by simpa using h j hj)]
  rfl
/-- the lowest tile of a station, found in any order -/
theorem rt_sgn_least {Q : Nat → Nat} {N st t : Nat} (hN : ∀ p, rt_s Q p ≠ 0 → p < N) (h1 : ∃ p, rt_s Q p = st + 1 ∧ p / 6 = t) (h2 : ∀ p, rt_s Q p = st + 1 → t ≤ p / 6) : rt_sgn Q N st = some t := by
  obtain ⟨p, hp, rfl⟩ := h1
  obtain ⟨k, hk, hm⟩ := pk_least (fun q => rt_s Q q = st + 1) ⟨p, hp⟩
  rw [rt_sgn_some (hN k (by rw [hk]; omega)) hk hm]
  congr 1
  have h3 := h2 k hk
  have h4 : k ≤ p := by
    rcases Nat.lt_or_ge p k with z | z
    · exact absurd hp (hm p z)
    · exact z
  have := Nat.div_le_div_right (c := 6) h4
  omega
def rt_cnt (Q : Nat → Nat) (N : Nat) (f : Nat → Bool) : Nat := (List.range N).countP f
theorem rt_cnt_succ (f : Nat → Bool) (i : Nat) : (List.range (i + 1)).countP f = (List.range i).countP f + (if f i = true then 1 else 0) := by
  rw [List.range_succ, List.countP_append]
  simp only [List.countP_cons, List.countP_nil]
  omega
theorem rt_cnt_le (f : Nat → Bool) (i : Nat) : (List.range i).countP f ≤ i := by
  have := List.countP_le_length (l := List.range i) (p := f)
  rwa [List.length_range] at this
-- the parts of a number
theorem rt_and1 : ∀ q, q < 512 → (q &&& 28) / 4 = q / 4 % 8 ∧ (q &&& 480) / 32 = q / 32 % 16 := by decide +kernel
theorem rt_and2 : ∀ q, q < 512 → q % 4 = 1 ∨ q = 0 → ((q &&& 1 = 0 ↔ q = 0) ∧ (q &&& 28 = 0 ↔ q / 4 % 8 = 0) ∧ (q &&& 480 = 0 ↔ q / 32 = 0)) := by decide +kernel
theorem rt_ok_4 {Q : Nat → Nat} {n : Nat} (h : rt_ok Q n) (p : Nat) : Q p % 4 = 1 ∨ Q p = 0 := by
  rcases h.2 p with h | ⟨g, s, h1, h2, h3⟩ <;> omega
theorem rt_ok_put {Q : Nat → Nat} {n p g s : Nat} (h : rt_ok Q n) (hp : p < n) (hg : g ≤ 4) (hs : s ≤ 8) : rt_ok (va_up Q p (1 + 4 * g + 32 * s)) n := by
  refine ⟨fun q hq => ?_, fun q => ?_⟩
  · rw [va_up_ne Q _ (by omega)]
    exact h.1 q hq
  · by_cases e : q = p
    · rw [e, va_up_self]
      exact Or.inr ⟨g, s, hg, hs, rfl⟩
    · rw [va_up_ne Q _ e]
      exact h.2 q
theorem rt_ok_del {Q : Nat → Nat} {n p : Nat} (h : rt_ok Q n) : rt_ok (va_up Q p 0) n := by
  refine ⟨fun q hq => ?_, fun q => ?_⟩
  · by_cases e : q = p
    · rw [e, va_up_self]
    · rw [va_up_ne Q _ e]
      exact h.1 q hq
  · by_cases e : q = p
    · rw [e, va_up_self]
      exact Or.inl rfl
    · rw [va_up_ne Q _ e]
      exact h.2 q
theorem rt_g_put (g s : Nat) (hg : g ≤ 4) : (1 + 4 * g + 32 * s) / 4 % 8 = g ∧ (1 + 4 * g + 32 * s) / 32 = s := by omega
-- an int as an index
def rt_ix (x : Int32) (n : Nat) : Option Nat := if x < 0 ∨ nI n ≤ x then none else some x.toNatClampNeg
theorem rt_ix_some {n j : Nat} (hn : n < 2 ^ 31) (hj : j < n) : rt_ix (nI j) n = some j := by
  unfold rt_ix
  rw [if_neg, nI_clamp (by omega)]
  rintro (h | h)
  · exact nI_pos (by omega) h
  · exact nI_ge hj hn h
theorem rt_ix_none {x : Int32} {n : Nat} (h : x < 0 ∨ nI n ≤ x) : rt_ix x n = none := if_pos h
theorem rt_o_ne (k : Nat) (h : k < 2 ^ 31) : ¬ nI k = -1 := by
  intro q
  have := congrArg Int32.toInt q
  rw [nI_toInt h] at this
  have e : (-1 : Int32).toInt = -1 := by decide
  omega
theorem rt_o_inj {a b : Option Nat} (ha : ∀ k, a = some k → k < 2 ^ 31) (hb : ∀ k, b = some k → k < 2 ^ 31) (h : rt_o a = rt_o b) : a = b := by
  cases a with
  | none =>
    cases b with
    | none => rfl
    | some k => exact absurd h.symm (rt_o_ne k (hb k rfl))
  | some k =>
    cases b with
    | none => exact absurd h (rt_o_ne k (ha k rfl))
    | some j => rw [(nI_eq (ha k rfl) (hb j rfl)).mp h]
end
section
/-! WORLDS: the words of a call, the start of a contract, rows of calls and returns for methods that make nothing -/
abbrev xT (cI cZ : ClassId) : List (ClassId × FieldType) := [(cI, .int), (cZ, .boolean)]
def rt_apI (k : Nat) : Int32 := [-1, -1, 4, 5, 2, 3].getD k 0
/-- the three tables of the class -/
def xZ (g : Nat → Nat) (A : Nat → Prop) (U : State) (H : Heap) : Prop :=
  (va_Z rn_A "GOES_TO" "[I" (.ref (g 0)) A U H ∧ va_T .int (g 0) 12 (fun j => .int (nI (rt_to j))) A U H) ∧
  (va_Z rn_A "BEGIN_BEYOND" "[I" (.ref (g 1)) A U H ∧ va_T .int (g 1) 12 (fun j => .int (nI (rt_bg j))) A U H) ∧
  (va_Z rn_S "APART" "[I" (.ref (g 2)) A U H ∧ va_T .int (g 2) 6 (fun j => .int (rt_apI j)) A U H)
theorem xZ.moved {g : Nat → Nat} {A : Nat → Prop} {u U : State} {H : Heap} (hvm : u.vm.Alike U.vm) (h : xZ g A u H) : xZ g A U H :=
  ⟨⟨h.1.1.moved hvm, h.1.2.moved hvm⟩, ⟨h.2.1.1.moved hvm, h.2.1.2.moved hvm⟩, h.2.2.1.moved hvm, h.2.2.2.moved hvm⟩
theorem xZ.kept {g : Nat → Nat} {A : Nat → Prop} {U : State} {H H1 : Heap} (h : xZ g A U H) (hq : ∀ a : Nat, a < H.size → ¬ A a → H1[a]? = H[a]?) : xZ g A U H1 :=
  ⟨⟨h.1.1.kept hq, h.1.2.kept hq⟩, ⟨h.2.1.1.kept hq, h.2.1.2.kept hq⟩, h.2.2.1.kept hq, h.2.2.2.kept hq⟩
theorem xZ.narrow {g : Nat → Nat} {A B : Nat → Prop} {U : State} {H : Heap} (h : xZ g A U H) (hAB : ∀ q, B q → A q) : xZ g B U H :=
  ⟨⟨h.1.1.narrow hAB, h.1.2.narrow hAB⟩, ⟨h.2.1.1.narrow hAB, h.2.1.2.narrow hAB⟩, h.2.2.1.narrow hAB, h.2.2.2.narrow hAB⟩
/-- what a method finds: its world, the classes, the tables -/
def wU (D : va_G) (cI cZ : ClassId) (g : Nat → Nat) (A : Nat → Prop) (ws : va_W) (U : State) : Prop := va_P D vwCl ws U.heap ∧ va_K D vwCl (xT cI cZ) U ∧ xZ g A U U.heap
def wB (D : va_G) {S : Type} (wf : S → va_W) : S → State → Prop := fun u t => va_P D vwCl (wf u) t.heap
theorem wU.bl {D : va_G} {cI cZ : ClassId} {g : Nat → Nat} {A : Nat → Prop} {ws : va_W} {av : List Value} : FrameBlind (va_Pc av (wU D cI cZ g A ws)) := by
  rintro a U f mk ⟨h0, hP, hK, hZ⟩
  exact ⟨h0, hP, va_K.moved (u := U) (U := U.calling f mk a) (Vm.Alike.refl U.vm) hK, xZ.moved (u := U) (U := U.calling f mk a) (Vm.Alike.refl U.vm) hZ⟩
theorem wU.mk {D : va_G} {cI cZ : ClassId} {g : Nat → Nat} {A : Nat → Prop} {ws : va_W} {s : State} {H : Heap} {locs : List Loc} (hP : va_P D vwCl ws H) (hK : va_K D vwCl (xT cI cZ) s) (hZ : xZ g A s s.heap) (hS : va_S A s.heap H locs) (U : State) (hU : U.heap = H) (hW : s.WarmedH U.vm) : wU D cI cZ g A ws U := by
  refine ⟨by rw [hU]; exact hP, va_K.moved hW.alike hK, ?_⟩
  rw [hU]
  exact (hZ.kept hS.2.1).moved hW.alike
-- the words of calls
theorem t_g {y : MethodName} {b : ByteArray} {n : Nat} {r : Option FieldType} (k : Cond.code y b n r ∈ tG) : GoodIn tG (.code y b n r :: tG) := fun w h => (List.mem_cons.mp h).elim (fun e => by rw [e]; exact tG_good _ k) (fun h => tG_good w h)
theorem t_gV {own C : String} {idx : Nat} {y : MethodName} {b : ByteArray} {n : Nat} {r : Option FieldType} (k1 : Cond.methodLink own idx y ∈ tG) (k2 : Cond.instanceMethod y ∈ tG) (k3 : Cond.selects C y y ∈ tG) (k4 : Cond.initialized C ∈ tG) (k5 : Cond.code y b n r ∈ tG) : GoodIn tG (wsV own idx C y (.code y b n r :: tG)) := by
  intro w h
  rcases List.mem_append.mp h with h | h
  · simp only [List.mem_cons, List.not_mem_nil, or_false] at h
    rcases h with rfl | rfl | rfl | rfl
    · exact tG_good _ k1
    · exact tG_good _ k2
    · exact tG_good _ k3
    · exact tG_good _ k4
  · exact t_g k5 w h
theorem t_gS {own : String} {idx : Nat} {y : MethodName} {b : ByteArray} {n : Nat} {r : Option FieldType} (k1 : Cond.methodLink own idx y ∈ tG) (k2 : Cond.static y ∈ tG) (k4 : Cond.initialized y.cls ∈ tG) (k5 : Cond.code y b n r ∈ tG) : GoodIn tG (va_wsS own idx y (.code y b n r :: tG)) := by
  intro w h
  rcases List.mem_append.mp h with h | h
  · simp only [List.mem_cons, List.not_mem_nil, or_false] at h
    rcases h with rfl | rfl | rfl
    · exact tG_good _ k1
    · exact tG_good _ k2
    · exact tG_good _ k4
  · exact t_g k5 w h
section WRows
variable {p : Program} {l : Launch} {e : Env} {R : Room} {s : State} {m : MethodId} {args : Array Value} {below : List Frame} {meth : Method} {c : Code} {H : Heap} {locs : List Loc} {cells slots : Nat} {Q : State → Prop}
variable {cc : ByteArray} {pc : Nat} {ls : Array Slot} {rest st0 As : List Value} {D : va_G} {cI cZ : ClassId} {g : Nat → Nat} {A : Nat → Prop} {ws : va_W} {S : Type} {wf : S → va_W}
variable {y : MethodName} {bytes : ByteArray} {maxL nL n index : Nat} {ret : Option FieldType} {rm : Room} {own C : String} {b : Addr}
theorem w_ci {post : Int32 → S → Prop} (F : CallFix p m c cc nL s args tG own) (hM : Met l y (.code y bytes maxL ret :: tG) rm (va_Pc (.ref b :: As) (wU D cI cZ g A ws)) (va_Qi post (wB D wf) A) 0 0 A) (cw : CallW R s args own C index y bytes maxL ret (.code y bytes maxL ret :: tG) rm 0 0 n)
    (hr : ∃ cell : Cell, H[b]? = some cell ∧ cell.vm.isStatics = false ∧ s.vm.findClass C = some cell.cls) (hP : va_P D vwCl ws H) (hK : va_K D vwCl (xT cI cZ) s) (hZ : xZ g A s s.heap) (hS : va_S A s.heap H locs) (hn : As.length = n) (hsz : ls.size = nL) (hst : st0 = As.reverse ++ .ref b :: rest) (hW : (rest.map fun v => v.category).sum ≤ 8) (hdg : decode cc pc = .ok (.invokevirtual index, 3)) (hf : cells ≤ R.cells ∧ slots ≤ R.slots)
    (kk : ∀ (r : Int32) (u : S) (H1 : Heap) (locs1 : List Loc), post r u → va_P D vwCl (wf u) H1 → va_S A s.heap H1 locs1 → W p l e R s m args below meth c H1 locs1 cells slots Q (F0 m (pc + 3) ls (.int r :: rest))) : W p l e R s m args below meth c H locs cells slots Q (F0 m pc ls st0) :=
  va_calli (va_runV (As := As) (rest := rest) F hM cw ⟨wU.bl, hr, fun U hU hW => ⟨rfl, wU.mk hP hK hZ hS U hU hW⟩⟩ rfl hn hsz hst (lv_room hW) hdg hf) hS (fun _ _ h => h) (fun _ h => h) (fun r u t H1 locs1 ht _ hw hB _ _ hS1 => kk r u H1 locs1 hw (by rw [← ht]; exact hB) hS1)
theorem w_cv {post : S → Prop} (F : CallFix p m c cc nL s args tG own) (hM : Met l y (.code y bytes maxL ret :: tG) rm (va_Pc (.ref b :: As) (wU D cI cZ g A ws)) (va_Qv post (wB D wf) A) 0 0 A) (cw : CallW R s args own C index y bytes maxL ret (.code y bytes maxL ret :: tG) rm 0 0 n)
    (hr : ∃ cell : Cell, H[b]? = some cell ∧ cell.vm.isStatics = false ∧ s.vm.findClass C = some cell.cls) (hP : va_P D vwCl ws H) (hK : va_K D vwCl (xT cI cZ) s) (hZ : xZ g A s s.heap) (hS : va_S A s.heap H locs) (hn : As.length = n) (hsz : ls.size = nL) (hst : st0 = As.reverse ++ .ref b :: rest) (hW : (rest.map fun v => v.category).sum ≤ 8) (hdg : decode cc pc = .ok (.invokevirtual index, 3)) (hf : cells ≤ R.cells ∧ slots ≤ R.slots)
    (kk : ∀ (u : S) (H1 : Heap) (locs1 : List Loc), post u → va_P D vwCl (wf u) H1 → va_S A s.heap H1 locs1 → W p l e R s m args below meth c H1 locs1 cells slots Q (F0 m (pc + 3) ls rest)) : W p l e R s m args below meth c H locs cells slots Q (F0 m pc ls st0) :=
  va_callv (va_runV (As := As) (rest := rest) F hM cw ⟨wU.bl, hr, fun U hU hW => ⟨rfl, wU.mk hP hK hZ hS U hU hW⟩⟩ rfl hn hsz hst (lv_room hW) hdg hf) hS (fun _ _ h => h) (fun _ h => h) (fun u t H1 locs1 ht _ hw hB _ _ hS1 => kk u H1 locs1 hw (by rw [← ht]; exact hB) hS1)
theorem w_si {post : Int32 → S → Prop} (F : CallFix p m c cc nL s args tG own) (hM : Met l y (.code y bytes maxL ret :: tG) rm (va_Pc As (wU D cI cZ g A ws)) (va_Qi post (wB D wf) A) 0 0 A) (cw : CallB R s args own index y bytes maxL ret (.code y bytes maxL ret :: tG) rm 0 0 n ∧ (Cond.static y).before args s = true)
    (hP : va_P D vwCl ws H) (hK : va_K D vwCl (xT cI cZ) s) (hZ : xZ g A s s.heap) (hS : va_S A s.heap H locs) (hn : As.length = n) (hsz : ls.size = nL) (hst : st0 = As.reverse ++ rest) (hW : (rest.map fun v => v.category).sum ≤ 8) (hdg : decode cc pc = .ok (.invokestatic index, 3)) (hf : cells ≤ R.cells ∧ slots ≤ R.slots)
    (kk : ∀ (r : Int32) (u : S) (H1 : Heap) (locs1 : List Loc), post r u → va_P D vwCl (wf u) H1 → va_S A s.heap H1 locs1 → W p l e R s m args below meth c H1 locs1 cells slots Q (F0 m (pc + 3) ls (.int r :: rest))) : W p l e R s m args below meth c H locs cells slots Q (F0 m pc ls st0) :=
  va_calli (va_runS (As := As) (rest := rest) F hM cw ⟨wU.bl, fun U hU hW => ⟨rfl, wU.mk hP hK hZ hS U hU hW⟩⟩ rfl hn hsz hst (lv_room hW) hdg hf) hS (fun _ _ h => h) (fun _ h => h) (fun r u t H1 locs1 ht _ hw hB _ _ hS1 => kk r u H1 locs1 hw (by rw [← ht]; exact hB) hS1)
theorem w_sv {post : S → Prop} (F : CallFix p m c cc nL s args tG own) (hM : Met l y (.code y bytes maxL ret :: tG) rm (va_Pc As (wU D cI cZ g A ws)) (va_Qv post (wB D wf) A) 0 0 A) (cw : CallB R s args own index y bytes maxL ret (.code y bytes maxL ret :: tG) rm 0 0 n ∧ (Cond.static y).before args s = true)
    (hP : va_P D vwCl ws H) (hK : va_K D vwCl (xT cI cZ) s) (hZ : xZ g A s s.heap) (hS : va_S A s.heap H locs) (hn : As.length = n) (hsz : ls.size = nL) (hst : st0 = As.reverse ++ rest) (hW : (rest.map fun v => v.category).sum ≤ 8) (hdg : decode cc pc = .ok (.invokestatic index, 3)) (hf : cells ≤ R.cells ∧ slots ≤ R.slots)
    (kk : ∀ (u : S) (H1 : Heap) (locs1 : List Loc), post u → va_P D vwCl (wf u) H1 → va_S A s.heap H1 locs1 → W p l e R s m args below meth c H1 locs1 cells slots Q (F0 m (pc + 3) ls rest)) : W p l e R s m args below meth c H locs cells slots Q (F0 m pc ls st0) :=
  va_callv (va_runS (As := As) (rest := rest) F hM cw ⟨wU.bl, fun U hU hW => ⟨rfl, wU.mk hP hK hZ hS U hU hW⟩⟩ rfl hn hsz hst (lv_room hW) hdg hf) hS (fun _ _ h => h) (fun _ h => h) (fun u t H1 locs1 ht _ hw hB _ _ hS1 => kk u H1 locs1 hw (by rw [← ht]; exact hB) hS1)
-- returns
theorem w_iret {post : Int32 → S → Prop} {v : Int32} (u : S) (hx : p.tables.exec = Jvm.exec) (hb : c.code = cc) (hr : meth.sig.returnType = some .int) (hlocks : meth.locks = false) (hS : va_S A s.heap H locs) (hP : va_P D vwCl (wf u) H) (hp : post v u) (hdg : decode cc pc = .ok (.ireturn, 1)) : W p l e R s m args below meth c H locs cells slots (MQ below (va_Qi post (wB D wf) A) args s cells slots A) (F0 m pc ls [.int v]) :=
  W.iret hx hb hr (fun t ht hW => ⟨⟨v, u, rfl, hp, by show va_P D vwCl (wf u) t.heap; rw [ht]; exact hP⟩, hS.F ht⟩) hS.2.2 hdg hlocks
theorem w_zret {post : Int32 → S → Prop} {v : Bool} (u : S) (hx : p.tables.exec = Jvm.exec) (hb : c.code = cc) (hr : meth.sig.returnType = some .boolean) (hlocks : meth.locks = false) (hS : va_S A s.heap H locs) (hP : va_P D vwCl (wf u) H) (hp : post (rt_b v) u) (hdg : decode cc pc = .ok (.ireturn, 1)) : W p l e R s m args below meth c H locs cells slots (MQ below (va_Qi post (wB D wf) A) args s cells slots A) (F0 m pc ls [.int (rt_b v)]) :=
  W.zret hx hb hr (by cases v <;> rfl) (fun t ht hW => ⟨⟨_, u, rfl, hp, by show va_P D vwCl (wf u) t.heap; rw [ht]; exact hP⟩, hS.F ht⟩) hS.2.2 hdg hlocks
theorem w_vret {post : S → Prop} (u : S) (hx : p.tables.exec = Jvm.exec) (hb : c.code = cc) (hr : meth.sig.returnType = none) (hlocks : meth.locks = false) (hS : va_S A s.heap H locs) (hP : va_P D vwCl (wf u) H) (hp : post u) (hdg : decode cc pc = .ok (.return_, 1)) : W p l e R s m args below meth c H locs cells slots (MQ below (va_Qv post (wB D wf) A) args s cells slots A) (F0 m pc ls []) :=
  W.vret hx hb hr (fun t ht hW => ⟨⟨u, rfl, hp, by show va_P D vwCl (wf u) t.heap; rw [ht]; exact hP⟩, hS.F ht⟩) hS.2.2 hdg hlocks
-- arrays, by Nats
variable {a : Nat} {tys : List (ClassId × FieldType)} {H0 : Heap} {cl : List vw_C}
theorem rw_iald (hx : p.tables.exec = Jvm.exec) (hb : c.code = cc) (hK : va_K D cl tys s) (hP : va_P D cl ws H) (q0 t0 : Nat) {cA : ClassId} {n i : Nat} {f : Nat → Int32} {v : Int32} (ha : ws[q0]? = some (a, .inl (cA, n, .inl f))) (ht : tys[t0]? = some (cA, .int)) (hi : i < n) (hN : n < 2 ^ 31) (hv : f i = v) (hdg : decode cc pc = .ok (.iaload, 1))
    (kk : W p l e R s m args below meth c H locs cells slots Q (F0 m (pc + 1) ls (.int v :: rest))) : W p l e R s m args below meth c H locs cells slots Q (F0 m pc ls (.int (nI i) :: .ref a :: rest)) :=
  va_iald hx hb hK hP q0 t0 ha ht (vp_in_nI hi hN) hdg (by rw [nI_clamp (Nat.lt_trans hi hN), hv]; exact kk)
theorem rw_zald (hx : p.tables.exec = Jvm.exec) (hb : c.code = cc) (hK : va_K D cl tys s) (hP : va_P D cl ws H) (q0 t0 : Nat) {cA : ClassId} {n i : Nat} {f : Nat → Int32} {v : Int32} (ha : ws[q0]? = some (a, .inl (cA, n, .inl f))) (ht : tys[t0]? = some (cA, .boolean)) (hi : i < n) (hN : n < 2 ^ 31) (hv : f i = v) (hdg : decode cc pc = .ok (.baload, 1))
    (kk : W p l e R s m args below meth c H locs cells slots Q (F0 m (pc + 1) ls (.int v :: rest))) : W p l e R s m args below meth c H locs cells slots Q (F0 m pc ls (.int (nI i) :: .ref a :: rest)) :=
  va_zald hx hb hK hP q0 t0 ha ht (vp_in_nI hi hN) hdg (by rw [nI_clamp (Nat.lt_trans hi hN), hv]; exact kk)
theorem rw_cell {cA : ClassId} {n : Nat} {f h : Nat → Int32} (e : ∀ j, j < n → f j = h j) : vp_cell cA (n, .inl f) = vp_cell cA (n, .inl h) := by
  rw [vp_cell_i, vp_cell_i]
  unfold arrV
  congr 1
  apply Array.ext
  · simp
  · intro i h1 h2
    simp at h1
    simp [e i h1]
theorem rw_arr {cA : ClassId} {n q0 : Nat} {f h : Nat → Int32} {e0 : va_E} (e : ∀ j, j < n → f j = h j) (hD : va_D A ws) (hp : ws[q0]? = some (a, e0)) (hP : va_P D cl (ws.set q0 (a, .inl (cA, n, .inl f))) H) : va_P D cl (ws.set q0 (a, .inl (cA, n, .inl h))) H := by
  have hl : q0 < ws.length := (List.getElem?_eq_some_iff.mp hp).1
  intro k q hk
  by_cases hq : k = q0
  · subst hq
    rw [List.getElem?_set_self hl] at hk
    cases hk
    have h1 := hP k _ (List.getElem?_set_self hl)
    show H[a]? = some (vp_cell cA (n, .inl h))
    rw [← rw_cell e]
    exact h1
  · rw [List.getElem?_set_ne (fun z => hq z.symm)] at hk
    exact hP k q (by rw [List.getElem?_set_ne (fun z => hq z.symm)]; exact hk)
theorem rw_iast (hx : p.tables.exec = Jvm.exec) (hb : c.code = cc) (hK : va_K D cl tys s) (hP : va_P D cl ws H) (hD : va_D A ws) (hS : va_S A H0 H locs) (q0 t0 : Nat) {cA : ClassId} {n i : Nat} {f h : Nat → Int32} {x : Int32} (ha : ws[q0]? = some (a, .inl (cA, n, .inl f))) (ht : tys[t0]? = some (cA, .int)) (hi : i < n) (hN : n < 2 ^ 31) (hg : ∀ j, j < n → upd f i x j = h j) (hdg : decode cc pc = .ok (.iastore, 1))
    (kk : ∀ (H1 : Heap) (locs1 : List Loc), va_P D cl (ws.set q0 (a, .inl (cA, n, .inl h))) H1 → va_D A (ws.set q0 (a, .inl (cA, n, .inl h))) → va_S A H0 H1 locs1 → W p l e R s m args below meth c H1 locs1 cells slots Q (F0 m (pc + 1) ls rest)) : W p l e R s m args below meth c H locs cells slots Q (F0 m pc ls (.int x :: .int (nI i) :: .ref a :: rest)) :=
  va_iast hx hb hK hP hD hS q0 t0 ha ht (vp_in_nI hi hN) hdg (fun H1 locs1 hP1 _ hS1 => kk H1 locs1 (rw_arr (fun j hj => by rw [nI_clamp (Nat.lt_trans hi hN)]; exact hg j hj) hD ha hP1) (hD.set ha) hS1)
theorem rw_zast (hx : p.tables.exec = Jvm.exec) (hb : c.code = cc) (hK : va_K D cl tys s) (hP : va_P D cl ws H) (hD : va_D A ws) (hS : va_S A H0 H locs) (q0 t0 : Nat) {cA : ClassId} {n i : Nat} {f h : Nat → Int32} {x : Int32} (ha : ws[q0]? = some (a, .inl (cA, n, .inl f))) (ht : tys[t0]? = some (cA, .boolean)) (hi : i < n) (hN : n < 2 ^ 31) (hg : ∀ j, j < n → upd f i (vp_nar .boolean x) j = h j) (hdg : decode cc pc = .ok (.bastore, 1))
    (kk : ∀ (H1 : Heap) (locs1 : List Loc), va_P D cl (ws.set q0 (a, .inl (cA, n, .inl h))) H1 → va_D A (ws.set q0 (a, .inl (cA, n, .inl h))) → va_S A H0 H1 locs1 → W p l e R s m args below meth c H1 locs1 cells slots Q (F0 m (pc + 1) ls rest)) : W p l e R s m args below meth c H locs cells slots Q (F0 m pc ls (.int x :: .int (nI i) :: .ref a :: rest)) :=
  va_zast hx hb hK hP hD hS q0 t0 ha ht (vp_in_nI hi hN) hdg (fun H1 locs1 hP1 _ hS1 => kk H1 locs1 (rw_arr (fun j hj => by rw [nI_clamp (Nat.lt_trans hi hN)]; exact hg j hj) hD ha hP1) (hD.set ha) hS1)
end WRows
end
section
/-! THE CLASS'S WORLD: ten cells; Q is the map -/
abbrev xw (cI : ClassId) (a : Nat → Nat) (w h : Nat) (Q : Nat → Nat) (ff : Nat → Int32) (hd bl : Int32) (rs : Nat → Int32) (hs ts : Int32) (rc : Nat → Int32) (hc tc : Int32) : va_W :=
  [(a 0, .inr (3, [.ref (a 1), .ref (a 4)])), (a 1, .inr (1, [.ref (a 2), .ref (a 3)])), (a 2, .inl (cI, 4 * (w * h), .inl (fun j => rt_o (rt_nb w h (j / 4) (j % 4))))), (a 3, .inl (cI, 6 * (w * h), .inl (fun p => nI (Q p)))),
   (a 4, .inr (2, [.ref (a 5), .ref (a 6), .ref (a 8), .int hd, .int bl])), (a 5, .inl (cI, 12 * (w * h), .inl ff)), (a 6, .inr (0, [.ref (a 7), .int hs, .int ts])), (a 7, .inl (cI, 4 * (w * h), .inl rs)), (a 8, .inr (0, [.ref (a 9), .int hc, .int tc])), (a 9, .inl (cI, 8 * (w * h), .inl rc))]
def xA (a : Nat → Nat) : Nat → Prop := fun q => ∃ i, i < 10 ∧ q = a i
def xI (a : Nat → Nat) : Prop := ∀ i j, i < 10 → j < 10 → a i = a j → i = j
theorem x_D {a : Nat → Nat} (ha : xI a) (ws : va_W) (hw : ws.map (fun q => q.1) = (List.range 10).map a) : va_D (xA a) ws := by
  have key : ∀ (k : Nat) (q : Nat × va_E), ws[k]? = some q → k < 10 ∧ q.1 = a k := by
    intro k q hk
    have h1 : (ws.map (fun q => q.1))[k]? = some q.1 := by rw [List.getElem?_map, hk]; rfl
    rw [hw, List.getElem?_map] at h1
    cases h2 : (List.range 10)[k]? with
    | none => rw [h2] at h1; cases h1
    | some z =>
      rw [h2] at h1
      have h3 := List.getElem?_eq_some_iff.mp h2
      obtain ⟨h4, h5⟩ := h3
      rw [List.getElem_range] at h5
      rw [List.length_range] at h4
      subst h5
      exact ⟨h4, (Option.some.inj h1).symm⟩
  refine ⟨?_, ?_⟩
  · intro i j p q hi hj e
    obtain ⟨h1, h2⟩ := key i p hi
    obtain ⟨h3, h4⟩ := key j q hj
    exact ha i j h1 h3 (by rw [← h2, ← h4]; exact e)
  · intro k q hk
    obtain ⟨h1, h2⟩ := key k q hk
    exact ⟨k, h1, h2⟩
/-- the sizes, and the map's numbers -/
def rt_G (w h : Nat) (Q : Nat → Nat) : Prop := (4 ≤ w ∧ w ≤ 20) ∧ (4 ≤ h ∧ h ≤ 20) ∧ rt_ok Q (6 * (w * h))
theorem rt_G.n {w h : Nat} {Q : Nat → Nat} (hG : rt_G w h Q) : 16 ≤ w * h ∧ w * h ≤ 400 := by
  obtain ⟨⟨h1, h2⟩, ⟨h3, h4⟩, -⟩ := hG
  exact ⟨Nat.mul_le_mul h1 h3, Nat.mul_le_mul h2 h4⟩
theorem rt_G.lt {w h : Nat} {Q : Nat → Nat} (hG : rt_G w h Q) (p : Nat) : Q p < 512 := rt_ok_lt hG.2.2 p
end
section
/-! SMALL: facts that the walks of the class use -/
theorem rt_upd (Q : Nat → Nat) (k v j : Nat) : upd (fun p => nI (Q p)) k (nI v) j = nI (va_up Q k v j) := by
  unfold upd va_up
  split <;> rfl
theorem rt_ix_t {x : Int32} {n : Nat} (h1 : ¬ x < 0) (h2 : ¬ nI n ≤ x) : rt_b true = rt_b (rt_ix x n).isSome := by
  unfold rt_ix
  rw [if_neg (fun q => q.elim h1 h2)]
  rfl
theorem rt_ix_f {x : Int32} {n : Nat} (h : x < 0 ∨ nI n ≤ x) : rt_b false = rt_b (rt_ix x n).isSome := by
  rw [rt_ix_none h]
  rfl
/-- open, of any int -/
def rt_opx (Q : Nat → Nat) (n : Nat) (x : Int32) : Bool := match rt_ix x (12 * n) with
  | none => false
  | some r => rt_op Q n r
theorem rt_opx_n {Q : Nat → Nat} {n : Nat} {x : Int32} (h : x < 0 ∨ nI (12 * n) ≤ x) : rt_opx Q n x = false := by
  unfold rt_opx
  rw [rt_ix_none h]
theorem rt_opx_s {Q : Nat → Nat} {n r : Nat} (hn : 12 * n < 2 ^ 31) (h : r < 12 * n) : rt_opx Q n (nI r) = rt_op Q n r := by
  unfold rt_opx
  rw [rt_ix_some hn h]
theorem rt_opx_o {Q : Nat → Nat} {n : Nat} {o : Option Nat} (hn : 12 * n < 2 ^ 31) (h : ∀ r, o = some r → r < 12 * n) : rt_opx Q n (rt_o o) = match o with
    | none => false
    | some r => rt_op Q n r := by
  cases o with
  | none => exact rt_opx_n (Or.inl (by decide))
  | some r => exact rt_opx_s hn (h r rfl)
/-- a tile's pieces as bits -/
def rt_kb (Q : Nat → Nat) (t : Nat) : Nat → Nat
  | 0 => 0
  | i + 1 => if Q (6 * t + i) ≠ 0 then rt_kb Q t i ||| 2 ^ i else rt_kb Q t i
theorem rt_kb_t {Q : Nat → Nat} {t i : Nat} (h : Q (6 * t + i) ≠ 0) : rt_kb Q t (i + 1) = rt_kb Q t i ||| 2 ^ i := if_pos h
theorem rt_kb_f {Q : Nat → Nat} {t i : Nat} (h : ¬ Q (6 * t + i) ≠ 0) : rt_kb Q t (i + 1) = rt_kb Q t i := if_neg h
theorem rt_p6 : ∀ i, i < 6 → 1 * 2 ^ i < 2 ^ 32 := by decide +kernel
theorem rt_st_eq {v z : Nat} (hv : v ≤ 8) (hz : z < 8) (h : nI v - 1 = nI z) : v = z + 1 := by
  have h1 : nI v = nI (z + 1) := by
    rw [← nI_1, ← h]
    simp
  exact (nI_eq (by omega) (by omega)).mp h1
theorem rt_st_mk {v z : Nat} (h : v = z + 1) : nI v - 1 = nI z := by rw [h]; exact nI_pred z
/-- an open run of a station that goes on to none of it -/
def rt_la (Q : Nat → Nat) (w h z r : Nat) : Bool := decide (rt_s Q (r / 2) = z + 1) && (rt_nx Q w h r).all (fun f => decide (rt_s Q (f / 2) ≠ z + 1))
theorem rt_la_f {Q : Nat → Nat} {w h z r : Nat} (h1 : ¬ rt_s Q (r / 2) = z + 1) : rt_la Q w h z r = false := by
  unfold rt_la
  rw [decide_eq_false h1]
  rfl
theorem rt_la_n {Q : Nat → Nat} {w h z r f : Nat} (h1 : f ∈ rt_nx Q w h r) (h2 : rt_s Q (f / 2) = z + 1) : rt_la Q w h z r = false := by
  unfold rt_la
  rw [Bool.and_eq_false_iff]
  refine Or.inr ?_
  rw [List.all_eq_false]
  exact ⟨f, h1, by simp [h2]⟩
theorem rt_la_t {Q : Nat → Nat} {w h z r : Nat} (h1 : rt_s Q (r / 2) = z + 1) (h2 : ∀ f, f ∈ rt_nx Q w h r → rt_s Q (f / 2) ≠ z + 1) : rt_la Q w h z r = true := by
  unfold rt_la
  rw [Bool.and_eq_true, List.all_eq_true]
  exact ⟨decide_eq_true h1, fun f hf => decide_eq_true (h2 f hf)⟩
theorem rt_la_tg (Q : Nat → Nat) (w h z r : Nat) : rt_tg Q w h z r = (rt_op Q (w * h) r && rt_la Q w h z r) := by
  unfold rt_tg rt_la
  rw [Bool.and_assoc]
theorem rt_la_s {Q : Nat → Nat} {n z a : Nat} {l : List Nat} (h1 : ∀ f, f ∈ l → rt_s Q (f / 2) ≠ z + 1) (h2 : rt_op Q n a = true → rt_s Q (a / 2) ≠ z + 1) : ∀ f, f ∈ l ++ rt_one Q n (some a) → rt_s Q (f / 2) ≠ z + 1 := by
  intro f hf
  rcases List.mem_append.mp hf with hf | hf
  · exact h1 f hf
  · unfold rt_one at hf
    dsimp only at hf
    split at hf
    · next ho => rw [List.mem_singleton] at hf; rw [hf]; exact h2 ho
    · cases hf
end
section
/-! Rails: by program (wip/whole/gen/rails.py) -/
set_option maxHeartbeats 4000000 in
set_option maxRecDepth 100000 in
theorem c_A_isThere (l : Launch) (D : va_G) (cI cZ : ClassId) (g a : Nat → Nat) (ha : xI a) (w h : Nat) (Q : Nat → Nat) (ff : Nat → Int32) (hd bl : Int32) (rs : Nat → Int32) (hs ts : Int32) (rc : Nat → Int32) (hc tc : Int32) (k : Nat) (hG : rt_G w h Q) (hk : k < 6 * (w * h)) : Met l y_A_isThere (.code y_A_isThere b_A_isThere 2 (some .boolean) :: tG) ({ frames := 0, cells := 0, slots := 0, locals := 0 }) (va_Pc [.ref (a 1), .int (nI (k))] (wU D cI cZ g (xA a) (xw cI a w h Q ff hd bl rs hs ts rc hc tc))) (va_Qi (S := Unit) (fun r _ => r = rt_b (decide (Q k ≠ 0))) (wB D (fun (u : Unit) => (xw cI a w h Q ff hd bl rs hs ts rc hc tc))) (xA a)) 0 0 (xA a) := by
  refine Met.ofW (cc := b_A_isThere) (maxL := 2) (ret := (some .boolean)) (by decide) rfl ?_
  intro p e s m args below meth c s₁ B hml hv
  obtain ⟨rfl, hP, hK, hZ⟩ := hv
  have hx := B.exec
  have hb := B.bytes
  have hr := B.returns
  have hts : ∀ w ∈ tG, w.before _ s = true := fun w hw => atoms_spec (ws := .code y_A_isThere b_A_isThere 2 (some .boolean) :: tG) B.pre w (List.mem_cons_of_mem _ hw)
  have hown : s.vm.findClass rn_A = some m.cls := findClass_of_methodNamed B.named
  have hlocks := B.notSynchronized
  have hS : va_S (xA a) s.heap s.heap [] := va_S.rf
  have hD : va_D (xA a) (xw cI a w h Q ff hd bl rs hs ts rc hc tc) := x_D ha _ rfl
  have hP : va_P D vwCl (xw cI a w h Q ff hd bl rs hs ts rc hc tc) s.heap := hP
  have hl := lv_entry ([.ref (a 1), .int (nI (k))]) (n := 2) (Nat.le_of_ble_eq_true rfl)
  rw [lg_entry_eq]
  generalize (lg_sl ([.ref (a 1), .int (nI (k))]) ++ List.replicate (2 - (lg_sl ([.ref (a 1), .int (nI (k))])).length) Slot.unset).toArray = ls at hl ⊢
  have hl : lv_has ls 2 [(0, .ref (a 1)), (1, .int (nI (k)))] := hl
  obtain ⟨hn1, hn⟩ := hG.n
  refine lv_aload_n hx hb d_A_isThere_0 rfl (lv_at hl 0 rfl) ?_
  refine va_get (D := D) (ci := 1) (v := .ref (a 3)) (C := rn_A) (T := tf_A) (N := 2) hx hb hts in_A hown hK hP 1 rfl rfl 1 (by decide) (hts _ k_fieldLink_rn_A_15_rn_A_pieces_I) (fun _ h9 => h9) rfl d_A_isThere_1 ?_
  refine lv_iload_n hx hb d_A_isThere_4 rfl (lv_at hl 1 rfl) ?_
  refine rw_iald (v := (nI (Q (k)))) hx hb hK hP 3 0 rfl rfl (by omega) (by omega) (rfl) d_A_isThere_5 ?_
  refine rw_zeq (tgt := 13) hx hb d_A_isThere_6 (by decide) (Nat.lt_trans (hG.lt k) (by decide)) (fun c_6 => ?_) (fun c_6 => ?_)
  · refine lv_iconst (v := (nI (0))) hx hb d_A_isThere_13 (by decide) ?_
    exact w_zret (v := false) () hx hb hr hlocks hS hP (congrArg rt_b (by simp [c_6])) d_A_isThere_14
  · refine lv_iconst (v := (nI (1))) hx hb d_A_isThere_9 (by decide) ?_
    refine lv_goto (tgt := 14) hx hb d_A_isThere_10 (by decide) ?_
    exact w_zret (v := true) () hx hb hr hlocks hS hP (congrArg rt_b (by simp [c_6])) d_A_isThere_14

set_option maxHeartbeats 4000000 in
set_option maxRecDepth 100000 in
theorem c_A_signalOf (l : Launch) (D : va_G) (cI cZ : ClassId) (g a : Nat → Nat) (ha : xI a) (w h : Nat) (Q : Nat → Nat) (ff : Nat → Int32) (hd bl : Int32) (rs : Nat → Int32) (hs ts : Int32) (rc : Nat → Int32) (hc tc : Int32) (k : Nat) (hG : rt_G w h Q) (hk : k < 6 * (w * h)) : Met l y_A_signalOf (.code y_A_signalOf b_A_signalOf 2 (some .int) :: tG) ({ frames := 0, cells := 0, slots := 0, locals := 0 }) (va_Pc [.ref (a 1), .int (nI (k))] (wU D cI cZ g (xA a) (xw cI a w h Q ff hd bl rs hs ts rc hc tc))) (va_Qi (S := Unit) (fun r _ => r = nI (rt_g Q k)) (wB D (fun (u : Unit) => (xw cI a w h Q ff hd bl rs hs ts rc hc tc))) (xA a)) 0 0 (xA a) := by
  refine Met.ofW (cc := b_A_signalOf) (maxL := 2) (ret := (some .int)) (by decide) rfl ?_
  intro p e s m args below meth c s₁ B hml hv
  obtain ⟨rfl, hP, hK, hZ⟩ := hv
  have hx := B.exec
  have hb := B.bytes
  have hr := B.returns
  have hts : ∀ w ∈ tG, w.before _ s = true := fun w hw => atoms_spec (ws := .code y_A_signalOf b_A_signalOf 2 (some .int) :: tG) B.pre w (List.mem_cons_of_mem _ hw)
  have hown : s.vm.findClass rn_A = some m.cls := findClass_of_methodNamed B.named
  have hlocks := B.notSynchronized
  have hS : va_S (xA a) s.heap s.heap [] := va_S.rf
  have hD : va_D (xA a) (xw cI a w h Q ff hd bl rs hs ts rc hc tc) := x_D ha _ rfl
  have hP : va_P D vwCl (xw cI a w h Q ff hd bl rs hs ts rc hc tc) s.heap := hP
  have hl := lv_entry ([.ref (a 1), .int (nI (k))]) (n := 2) (Nat.le_of_ble_eq_true rfl)
  rw [lg_entry_eq]
  generalize (lg_sl ([.ref (a 1), .int (nI (k))]) ++ List.replicate (2 - (lg_sl ([.ref (a 1), .int (nI (k))])).length) Slot.unset).toArray = ls at hl ⊢
  have hl : lv_has ls 2 [(0, .ref (a 1)), (1, .int (nI (k)))] := hl
  obtain ⟨hn1, hn⟩ := hG.n
  refine lv_aload_n hx hb d_A_signalOf_0 rfl (lv_at hl 0 rfl) ?_
  refine va_get (D := D) (ci := 1) (v := .ref (a 3)) (C := rn_A) (T := tf_A) (N := 2) hx hb hts in_A hown hK hP 1 rfl rfl 1 (by decide) (hts _ k_fieldLink_rn_A_15_rn_A_pieces_I) (fun _ h9 => h9) rfl d_A_signalOf_1 ?_
  refine lv_iload_n hx hb d_A_signalOf_4 rfl (lv_at hl 1 rfl) ?_
  refine rw_iald (v := (nI (Q (k)))) hx hb hK hP 3 0 rfl rfl (by omega) (by omega) (rfl) d_A_signalOf_5 ?_
  refine lv_bipush (v := (nI (28))) hx hb d_A_signalOf_6 (by decide) ?_
  refine rw_and hx hb d_A_signalOf_8 ?_
  refine lv_iconst (v := (nI (2))) hx hb d_A_signalOf_9 (by decide) ?_
  refine rw_shr hx hb d_A_signalOf_10 (by first | decide | exact Nat.lt_of_le_of_lt Nat.and_le_left (Nat.lt_trans (hG.lt k) (by decide))) (by first | decide | exact Nat.lt_of_le_of_lt Nat.and_le_left (Nat.lt_trans (hG.lt k) (by decide))) ?_
  refine rw_top (b := rt_g Q k) ((rt_and1 (Q k) (hG.lt k)).1) ?_
  exact w_iret () hx hb hr hlocks hS hP (rfl) d_A_signalOf_11

set_option maxHeartbeats 4000000 in
set_option maxRecDepth 100000 in
theorem c_A_stationOf (l : Launch) (D : va_G) (cI cZ : ClassId) (g a : Nat → Nat) (ha : xI a) (w h : Nat) (Q : Nat → Nat) (ff : Nat → Int32) (hd bl : Int32) (rs : Nat → Int32) (hs ts : Int32) (rc : Nat → Int32) (hc tc : Int32) (k : Nat) (hG : rt_G w h Q) (hk : k < 6 * (w * h)) : Met l y_A_stationOf (.code y_A_stationOf b_A_stationOf 2 (some .int) :: tG) ({ frames := 0, cells := 0, slots := 0, locals := 0 }) (va_Pc [.ref (a 1), .int (nI (k))] (wU D cI cZ g (xA a) (xw cI a w h Q ff hd bl rs hs ts rc hc tc))) (va_Qi (S := Unit) (fun r _ => r = nI (rt_s Q k) - 1) (wB D (fun (u : Unit) => (xw cI a w h Q ff hd bl rs hs ts rc hc tc))) (xA a)) 0 0 (xA a) := by
  refine Met.ofW (cc := b_A_stationOf) (maxL := 2) (ret := (some .int)) (by decide) rfl ?_
  intro p e s m args below meth c s₁ B hml hv
  obtain ⟨rfl, hP, hK, hZ⟩ := hv
  have hx := B.exec
  have hb := B.bytes
  have hr := B.returns
  have hts : ∀ w ∈ tG, w.before _ s = true := fun w hw => atoms_spec (ws := .code y_A_stationOf b_A_stationOf 2 (some .int) :: tG) B.pre w (List.mem_cons_of_mem _ hw)
  have hown : s.vm.findClass rn_A = some m.cls := findClass_of_methodNamed B.named
  have hlocks := B.notSynchronized
  have hS : va_S (xA a) s.heap s.heap [] := va_S.rf
  have hD : va_D (xA a) (xw cI a w h Q ff hd bl rs hs ts rc hc tc) := x_D ha _ rfl
  have hP : va_P D vwCl (xw cI a w h Q ff hd bl rs hs ts rc hc tc) s.heap := hP
  have hl := lv_entry ([.ref (a 1), .int (nI (k))]) (n := 2) (Nat.le_of_ble_eq_true rfl)
  rw [lg_entry_eq]
  generalize (lg_sl ([.ref (a 1), .int (nI (k))]) ++ List.replicate (2 - (lg_sl ([.ref (a 1), .int (nI (k))])).length) Slot.unset).toArray = ls at hl ⊢
  have hl : lv_has ls 2 [(0, .ref (a 1)), (1, .int (nI (k)))] := hl
  obtain ⟨hn1, hn⟩ := hG.n
  refine lv_aload_n hx hb d_A_stationOf_0 rfl (lv_at hl 0 rfl) ?_
  refine va_get (D := D) (ci := 1) (v := .ref (a 3)) (C := rn_A) (T := tf_A) (N := 2) hx hb hts in_A hown hK hP 1 rfl rfl 1 (by decide) (hts _ k_fieldLink_rn_A_15_rn_A_pieces_I) (fun _ h9 => h9) rfl d_A_stationOf_1 ?_
  refine lv_iload_n hx hb d_A_stationOf_4 rfl (lv_at hl 1 rfl) ?_
  refine rw_iald (v := (nI (Q (k)))) hx hb hK hP 3 0 rfl rfl (by omega) (by omega) (rfl) d_A_stationOf_5 ?_
  refine lv_sipush (v := (nI (480))) hx hb d_A_stationOf_6 (by decide) ?_
  refine rw_and hx hb d_A_stationOf_9 ?_
  refine lv_iconst (v := (nI (5))) hx hb d_A_stationOf_10 (by decide) ?_
  refine rw_shr hx hb d_A_stationOf_11 (by first | decide | exact Nat.lt_of_le_of_lt Nat.and_le_left (Nat.lt_trans (hG.lt k) (by decide))) (by first | decide | exact Nat.lt_of_le_of_lt Nat.and_le_left (Nat.lt_trans (hG.lt k) (by decide))) ?_
  refine rw_top (b := rt_s Q k) ((rt_and1 (Q k) (hG.lt k)).2.trans (Nat.mod_eq_of_lt (by have := hG.lt k; omega))) ?_
  refine lv_iconst (v := (nI (1))) hx hb d_A_stationOf_12 (by decide) ?_
  refine lv_isub hx hb d_A_stationOf_13 ?_
  exact w_iret () hx hb hr hlocks hS hP (rfl) d_A_stationOf_14

set_option maxHeartbeats 4000000 in
set_option maxRecDepth 100000 in
theorem c_A_hasTile (l : Launch) (D : va_G) (cI cZ : ClassId) (g a : Nat → Nat) (ha : xI a) (w h : Nat) (Q : Nat → Nat) (ff : Nat → Int32) (hd bl : Int32) (rs : Nat → Int32) (hs ts : Int32) (rc : Nat → Int32) (hc tc : Int32) (x : Int32) (hG : rt_G w h Q) : Met l y_A_hasTile (.code y_A_hasTile b_A_hasTile 2 (some .boolean) :: tG) ({ frames := 0, cells := 0, slots := 0, locals := 0 }) (va_Pc [.ref (a 1), .int (x)] (wU D cI cZ g (xA a) (xw cI a w h Q ff hd bl rs hs ts rc hc tc))) (va_Qi (S := Unit) (fun r _ => r = rt_b (rt_ix x (w * h)).isSome) (wB D (fun (u : Unit) => (xw cI a w h Q ff hd bl rs hs ts rc hc tc))) (xA a)) 0 0 (xA a) := by
  refine Met.ofW (cc := b_A_hasTile) (maxL := 2) (ret := (some .boolean)) (by decide) rfl ?_
  intro p e s m args below meth c s₁ B hml hv
  obtain ⟨rfl, hP, hK, hZ⟩ := hv
  have hx := B.exec
  have hb := B.bytes
  have hr := B.returns
  have hts : ∀ w ∈ tG, w.before _ s = true := fun w hw => atoms_spec (ws := .code y_A_hasTile b_A_hasTile 2 (some .boolean) :: tG) B.pre w (List.mem_cons_of_mem _ hw)
  have hown : s.vm.findClass rn_A = some m.cls := findClass_of_methodNamed B.named
  have hlocks := B.notSynchronized
  have hS : va_S (xA a) s.heap s.heap [] := va_S.rf
  have hD : va_D (xA a) (xw cI a w h Q ff hd bl rs hs ts rc hc tc) := x_D ha _ rfl
  have hP : va_P D vwCl (xw cI a w h Q ff hd bl rs hs ts rc hc tc) s.heap := hP
  have hl := lv_entry ([.ref (a 1), .int (x)]) (n := 2) (Nat.le_of_ble_eq_true rfl)
  rw [lg_entry_eq]
  generalize (lg_sl ([.ref (a 1), .int (x)]) ++ List.replicate (2 - (lg_sl ([.ref (a 1), .int (x)])).length) Slot.unset).toArray = ls at hl ⊢
  have hl : lv_has ls 2 [(0, .ref (a 1)), (1, .int (x))] := hl
  obtain ⟨hn1, hn⟩ := hG.n
  refine lv_iload_n hx hb d_A_hasTile_0 rfl (lv_at hl 1 rfl) ?_
  refine lv_if_lt (tgt := 20) hx hb d_A_hasTile_1 (by decide) (fun c_1 => ?_) (fun c_1 => ?_)
  · refine lv_iconst (v := (nI (0))) hx hb d_A_hasTile_20 (by decide) ?_
    exact w_zret (v := false) () hx hb hr hlocks hS hP (by first | exact rt_ix_f (Or.inl c_1) | exact rt_ix_f (Or.inr c_13)) d_A_hasTile_21
  · refine lv_iload_n hx hb d_A_hasTile_4 rfl (lv_at hl 1 rfl) ?_
    refine lv_aload_n hx hb d_A_hasTile_5 rfl (lv_at hl 0 rfl) ?_
    refine va_get (D := D) (ci := 1) (v := .ref (a 3)) (C := rn_A) (T := tf_A) (N := 2) hx hb hts in_A hown hK hP 1 rfl rfl 1 (by decide) (hts _ k_fieldLink_rn_A_15_rn_A_pieces_I) (fun _ h9 => h9) rfl d_A_hasTile_6 ?_
    refine va_alen (v := nI (6 * (w * h))) hx hb hK hP 3 0 rfl rfl rfl d_A_hasTile_9 ?_
    refine lv_bipush (v := (nI (6))) hx hb d_A_hasTile_10 (by decide) ?_
    refine rw_div hx hb d_A_hasTile_12 (by omega) (by omega) (by omega) ?_
    refine rw_top (b := w * h) (by omega) ?_
    refine lv_icmp_ge (tgt := 20) hx hb d_A_hasTile_13 (by decide) (fun c_13 => ?_) (fun c_13 => ?_)
    · refine lv_iconst (v := (nI (0))) hx hb d_A_hasTile_20 (by decide) ?_
      exact w_zret (v := false) () hx hb hr hlocks hS hP (by first | exact rt_ix_f (Or.inl c_1) | exact rt_ix_f (Or.inr c_13)) d_A_hasTile_21
    · refine lv_iconst (v := (nI (1))) hx hb d_A_hasTile_16 (by decide) ?_
      refine lv_goto (tgt := 21) hx hb d_A_hasTile_17 (by decide) ?_
      exact w_zret (v := true) () hx hb hr hlocks hS hP (rt_ix_t c_1 c_13) d_A_hasTile_21

set_option maxHeartbeats 4000000 in
set_option maxRecDepth 100000 in
theorem c_A_takeAway (l : Launch) (D : va_G) (cI cZ : ClassId) (g a : Nat → Nat) (ha : xI a) (w h : Nat) (Q : Nat → Nat) (ff : Nat → Int32) (hd bl : Int32) (rs : Nat → Int32) (hs ts : Int32) (rc : Nat → Int32) (hc tc : Int32) (k : Nat) (hG : rt_G w h Q) (hk : k < 6 * (w * h)) : Met l y_A_takeAway (.code y_A_takeAway b_A_takeAway 2 none :: tG) ({ frames := 0, cells := 0, slots := 0, locals := 0 }) (va_Pc [.ref (a 1), .int (nI (k))] (wU D cI cZ g (xA a) (xw cI a w h Q ff hd bl rs hs ts rc hc tc))) (va_Qv (S := Unit) (fun _ => True) (wB D (fun (u : Unit) => (xw cI a w h (va_up Q k 0) ff hd bl rs hs ts rc hc tc))) (xA a)) 0 0 (xA a) := by
  refine Met.ofW (cc := b_A_takeAway) (maxL := 2) (ret := none) (by decide) rfl ?_
  intro p e s m args below meth c s₁ B hml hv
  obtain ⟨rfl, hP, hK, hZ⟩ := hv
  have hx := B.exec
  have hb := B.bytes
  have hr := B.returns
  have hts : ∀ w ∈ tG, w.before _ s = true := fun w hw => atoms_spec (ws := .code y_A_takeAway b_A_takeAway 2 none :: tG) B.pre w (List.mem_cons_of_mem _ hw)
  have hown : s.vm.findClass rn_A = some m.cls := findClass_of_methodNamed B.named
  have hlocks := B.notSynchronized
  have hS : va_S (xA a) s.heap s.heap [] := va_S.rf
  have hD : va_D (xA a) (xw cI a w h Q ff hd bl rs hs ts rc hc tc) := x_D ha _ rfl
  have hP : va_P D vwCl (xw cI a w h Q ff hd bl rs hs ts rc hc tc) s.heap := hP
  have hl := lv_entry ([.ref (a 1), .int (nI (k))]) (n := 2) (Nat.le_of_ble_eq_true rfl)
  rw [lg_entry_eq]
  generalize (lg_sl ([.ref (a 1), .int (nI (k))]) ++ List.replicate (2 - (lg_sl ([.ref (a 1), .int (nI (k))])).length) Slot.unset).toArray = ls at hl ⊢
  have hl : lv_has ls 2 [(0, .ref (a 1)), (1, .int (nI (k)))] := hl
  obtain ⟨hn1, hn⟩ := hG.n
  refine lv_aload_n hx hb d_A_takeAway_0 rfl (lv_at hl 0 rfl) ?_
  refine va_get (D := D) (ci := 1) (v := .ref (a 3)) (C := rn_A) (T := tf_A) (N := 2) hx hb hts in_A hown hK hP 1 rfl rfl 1 (by decide) (hts _ k_fieldLink_rn_A_15_rn_A_pieces_I) (fun _ h9 => h9) rfl d_A_takeAway_1 ?_
  refine lv_iload_n hx hb d_A_takeAway_4 rfl (lv_at hl 1 rfl) ?_
  refine lv_iconst (v := (nI (0))) hx hb d_A_takeAway_5 (by decide) ?_
  refine rw_iast (h := (fun p => nI (va_up Q k 0 p))) hx hb hK hP hD hS 3 0 rfl rfl (by omega) (by omega) (fun j _ => rt_upd Q k 0 j) d_A_takeAway_6 (fun H locs hP hD hS => ?_)
  have hP : va_P D vwCl (xw cI a w h (va_up Q k 0) ff hd bl rs hs ts rc hc tc) H := hP
  have hD : va_D (xA a) (xw cI a w h (va_up Q k 0) ff hd bl rs hs ts rc hc tc) := x_D ha _ rfl
  exact w_vret () hx hb hr hlocks hS hP (trivial) d_A_takeAway_7

set_option maxHeartbeats 4000000 in
set_option maxRecDepth 100000 in
theorem c_A_put (l : Launch) (D : va_G) (cI cZ : ClassId) (g a : Nat → Nat) (ha : xI a) (w h : Nat) (Q : Nat → Nat) (ff : Nat → Int32) (hd bl : Int32) (rs : Nat → Int32) (hs ts : Int32) (rc : Nat → Int32) (hc tc : Int32) (k q z : Nat) (v : Int32) (hG : rt_G w h Q) (hk : k < 6 * (w * h)) (hq : q ≤ 4) (hz : z ≤ 8) (hv0 : v + 1 = nI z) : Met l y_A_put (.code y_A_put b_A_put 4 none :: tG) ({ frames := 0, cells := 0, slots := 0, locals := 0 }) (va_Pc [.ref (a 1), .int (nI (k)), .int (nI (q)), .int (v)] (wU D cI cZ g (xA a) (xw cI a w h Q ff hd bl rs hs ts rc hc tc))) (va_Qv (S := Unit) (fun _ => True) (wB D (fun (u : Unit) => (xw cI a w h (va_up Q k (1 + 4 * q + 32 * z)) ff hd bl rs hs ts rc hc tc))) (xA a)) 0 0 (xA a) := by
  refine Met.ofW (cc := b_A_put) (maxL := 4) (ret := none) (by decide) rfl ?_
  intro p e s m args below meth c s₁ B hml hv
  obtain ⟨rfl, hP, hK, hZ⟩ := hv
  have hx := B.exec
  have hb := B.bytes
  have hr := B.returns
  have hts : ∀ w ∈ tG, w.before _ s = true := fun w hw => atoms_spec (ws := .code y_A_put b_A_put 4 none :: tG) B.pre w (List.mem_cons_of_mem _ hw)
  have hown : s.vm.findClass rn_A = some m.cls := findClass_of_methodNamed B.named
  have hlocks := B.notSynchronized
  have hS : va_S (xA a) s.heap s.heap [] := va_S.rf
  have hD : va_D (xA a) (xw cI a w h Q ff hd bl rs hs ts rc hc tc) := x_D ha _ rfl
  have hP : va_P D vwCl (xw cI a w h Q ff hd bl rs hs ts rc hc tc) s.heap := hP
  have hl := lv_entry ([.ref (a 1), .int (nI (k)), .int (nI (q)), .int (v)]) (n := 4) (Nat.le_of_ble_eq_true rfl)
  rw [lg_entry_eq]
  generalize (lg_sl ([.ref (a 1), .int (nI (k)), .int (nI (q)), .int (v)]) ++ List.replicate (4 - (lg_sl ([.ref (a 1), .int (nI (k)), .int (nI (q)), .int (v)])).length) Slot.unset).toArray = ls at hl ⊢
  have hl : lv_has ls 4 [(0, .ref (a 1)), (1, .int (nI (k))), (2, .int (nI (q))), (3, .int (v))] := hl
  obtain ⟨hn1, hn⟩ := hG.n
  refine lv_aload_n hx hb d_A_put_0 rfl (lv_at hl 0 rfl) ?_
  refine va_get (D := D) (ci := 1) (v := .ref (a 3)) (C := rn_A) (T := tf_A) (N := 2) hx hb hts in_A hown hK hP 1 rfl rfl 1 (by decide) (hts _ k_fieldLink_rn_A_15_rn_A_pieces_I) (fun _ h9 => h9) rfl d_A_put_1 ?_
  refine lv_iload_n hx hb d_A_put_4 rfl (lv_at hl 1 rfl) ?_
  refine lv_iconst (v := (nI (1))) hx hb d_A_put_5 (by decide) ?_
  refine lv_iload_n hx hb d_A_put_6 rfl (lv_at hl 2 rfl) ?_
  refine lv_iconst (v := (nI (2))) hx hb d_A_put_7 (by decide) ?_
  refine rw_shl hx hb d_A_put_8 (by omega) (by omega) ?_
  refine rw_add hx hb d_A_put_9 ?_
  refine lv_iload_n hx hb d_A_put_10 rfl (lv_at hl 3 rfl) ?_
  refine lv_iconst (v := (nI (1))) hx hb d_A_put_11 (by decide) ?_
  refine lv_iadd hx hb d_A_put_12 ?_
  refine rw_topI (b := (nI (z))) (hv0) ?_
  refine lv_iconst (v := (nI (5))) hx hb d_A_put_13 (by decide) ?_
  refine rw_shl hx hb d_A_put_14 (by omega) (by omega) ?_
  refine rw_add hx hb d_A_put_15 ?_
  refine rw_top (b := 1 + 4 * q + 32 * z) (by omega) ?_
  refine rw_iast (h := (fun p => nI (va_up Q k (1 + 4 * q + 32 * z) p))) hx hb hK hP hD hS 3 0 rfl rfl (by omega) (by omega) (fun j _ => rt_upd Q k _ j) d_A_put_16 (fun H locs hP hD hS => ?_)
  have hP : va_P D vwCl (xw cI a w h (va_up Q k (1 + 4 * q + 32 * z)) ff hd bl rs hs ts rc hc tc) H := hP
  have hD : va_D (xA a) (xw cI a w h (va_up Q k (1 + 4 * q + 32 * z)) ff hd bl rs hs ts rc hc tc) := x_D ha _ rfl
  exact w_vret () hx hb hr hlocks hS hP (trivial) d_A_put_17

set_option maxHeartbeats 4000000 in
set_option maxRecDepth 100000 in
theorem c_A_hasSignal (l : Launch) (D : va_G) (cI cZ : ClassId) (g a : Nat → Nat) (ha : xI a) (w h : Nat) (Q : Nat → Nat) (ff : Nat → Int32) (hd bl : Int32) (rs : Nat → Int32) (hs ts : Int32) (rc : Nat → Int32) (hc tc : Int32) (r : Nat) (hG : rt_G w h Q) (hr0 : r < 12 * (w * h)) : Met l y_A_hasSignal (.code y_A_hasSignal b_A_hasSignal 3 (some .boolean) :: tG) ({ frames := 1, cells := 0, slots := 0, locals := 21 }) (va_Pc [.ref (a 1), .int (nI (r))] (wU D cI cZ g (xA a) (xw cI a w h Q ff hd bl rs hs ts rc hc tc))) (va_Qi (S := Unit) (fun x _ => x = rt_b (rt_hs Q r)) (wB D (fun (u : Unit) => (xw cI a w h Q ff hd bl rs hs ts rc hc tc))) (xA a)) 0 0 (xA a) := by
  refine Met.ofW (cc := b_A_hasSignal) (maxL := 3) (ret := (some .boolean)) (by decide) rfl ?_
  intro p e s m args below meth c s₁ B hml hv
  obtain ⟨rfl, hP, hK, hZ⟩ := hv
  have hx := B.exec
  have hb := B.bytes
  have hr := B.returns
  have hts : ∀ w ∈ tG, w.before _ s = true := fun w hw => atoms_spec (ws := .code y_A_hasSignal b_A_hasSignal 3 (some .boolean) :: tG) B.pre w (List.mem_cons_of_mem _ hw)
  have hown : s.vm.findClass rn_A = some m.cls := findClass_of_methodNamed B.named
  have hlocks := B.notSynchronized
  have hS : va_S (xA a) s.heap s.heap [] := va_S.rf
  have hD : va_D (xA a) (xw cI a w h Q ff hd bl rs hs ts rc hc tc) := x_D ha _ rfl
  have hP : va_P D vwCl (xw cI a w h Q ff hd bl rs hs ts rc hc tc) s.heap := hP
  have hl := lv_entry ([.ref (a 1), .int (nI (r))]) (n := 3) (Nat.le_of_ble_eq_true rfl)
  rw [lg_entry_eq]
  generalize (lg_sl ([.ref (a 1), .int (nI (r))]) ++ List.replicate (3 - (lg_sl ([.ref (a 1), .int (nI (r))])).length) Slot.unset).toArray = ls at hl ⊢
  have hl : lv_has ls 3 [(0, .ref (a 1)), (1, .int (nI (r)))] := hl
  obtain ⟨hn1, hn⟩ := hG.n
  refine lv_aload_n hx hb d_A_hasSignal_0 rfl (lv_at hl 0 rfl) ?_
  refine lv_iload_n hx hb d_A_hasSignal_1 rfl (lv_at hl 1 rfl) ?_
  refine lv_iconst (v := (nI (2))) hx hb d_A_hasSignal_2 (by decide) ?_
  refine rw_div hx hb d_A_hasSignal_3 (by omega) (by omega) (by omega) ?_
  refine w_ci (As := [.int (nI (r / 2))]) (rest := []) ⟨hx, hb, hml, hown, hts⟩ (c_A_signalOf l D cI cZ g a ha w h Q ff hd bl rs hs ts rc hc tc (r / 2) hG (by omega)) (cwV 1 hts (t_gV k_methodLink_rn_A_22_y_A_signalOf k_instanceMethod_y_A_signalOf k_selects_rn_A_y_A_signalOf_y_A_signalOf k_initialized_rn_A k_code_y_A_signalOf_prog_3_method_6_code_2_some_int) rfl rfl rfl (by decide +kernel) ⟨Nat.le_of_ble_eq_true rfl, Nat.le_of_ble_eq_true rfl⟩) (va_recv hK hP (ci := 1) (q0 := 1) rfl rfl) hP hK hZ hS rfl hl.1 rfl (Nat.le_of_ble_eq_true rfl) d_A_hasSignal_4 ⟨Nat.zero_le _, Nat.zero_le _⟩ (fun r_4 u_4 H locs hw hP hS => ?_)
  subst hw
  have hP : va_P D vwCl (xw cI a w h Q ff hd bl rs hs ts rc hc tc) H := hP
  have hg4 := rt_ok_g hG.2.2 (r / 2)
  refine lv_istore_n (lv' := [(2, .int (nI (rt_g Q (r / 2)))), (0, .ref (a 1)), (1, .int (nI (r)))]) hx hb d_A_hasSignal_7 rfl hl (by decide) rfl (fun ls hl => ?_)
  refine lv_iload_n hx hb d_A_hasSignal_8 rfl (lv_at hl 0 rfl) ?_
  refine rw_zeq (tgt := 27) hx hb d_A_hasSignal_9 (by decide) (by omega) (fun c_9 => ?_) (fun c_9 => ?_)
  · refine lv_iconst (v := (nI (0))) hx hb d_A_hasSignal_27 (by decide) ?_
    exact w_zret (v := false) () hx hb hr hlocks hS hP (congrArg rt_b (by unfold rt_hs; first | (simp [c_9, c_20]; done) | (simp [c_9]; done))) d_A_hasSignal_28
  · refine lv_iload_n hx hb d_A_hasSignal_12 rfl (lv_at hl 0 rfl) ?_
    refine lv_iconst (v := (nI (1))) hx hb d_A_hasSignal_13 (by decide) ?_
    refine rw_sub hx hb d_A_hasSignal_14 (by omega) ?_
    refine lv_iconst (v := (nI (1))) hx hb d_A_hasSignal_15 (by decide) ?_
    refine rw_and hx hb d_A_hasSignal_16 ?_
    refine rw_top (b := (rt_g Q (r / 2) - 1) % 2) (Nat.and_one_is_mod _) ?_
    refine lv_iload_n hx hb d_A_hasSignal_17 rfl (lv_at hl 2 rfl) ?_
    refine lv_iconst (v := (nI (1))) hx hb d_A_hasSignal_18 (by decide) ?_
    refine rw_and hx hb d_A_hasSignal_19 ?_
    refine rw_top (b := r % 2) (Nat.and_one_is_mod _) ?_
    refine rw_cne (tgt := 27) hx hb d_A_hasSignal_20 (by decide) (by omega) (by omega) (fun c_20 => ?_) (fun c_20 => ?_)
    · refine lv_iconst (v := (nI (0))) hx hb d_A_hasSignal_27 (by decide) ?_
      exact w_zret (v := false) () hx hb hr hlocks hS hP (congrArg rt_b (by unfold rt_hs; first | (simp [c_9, c_20]; done) | (simp [c_9]; done))) d_A_hasSignal_28
    · refine lv_iconst (v := (nI (1))) hx hb d_A_hasSignal_23 (by decide) ?_
      refine lv_goto (tgt := 28) hx hb d_A_hasSignal_24 (by decide) ?_
      exact w_zret (v := true) () hx hb hr hlocks hS hP (congrArg rt_b (by unfold rt_hs; simp [c_9, c_20])) d_A_hasSignal_28

set_option maxHeartbeats 4000000 in
set_option maxRecDepth 100000 in
theorem c_A_isOpen (l : Launch) (D : va_G) (cI cZ : ClassId) (g a : Nat → Nat) (ha : xI a) (w h : Nat) (Q : Nat → Nat) (ff : Nat → Int32) (hd bl : Int32) (rs : Nat → Int32) (hs ts : Int32) (rc : Nat → Int32) (hc tc : Int32) (x : Int32) (hG : rt_G w h Q) : Met l y_A_isOpen (.code y_A_isOpen b_A_isOpen 2 (some .boolean) :: tG) ({ frames := 2, cells := 0, slots := 0, locals := 43 }) (va_Pc [.ref (a 1), .int (x)] (wU D cI cZ g (xA a) (xw cI a w h Q ff hd bl rs hs ts rc hc tc))) (va_Qi (S := Unit) (fun r _ => r = rt_b (rt_opx Q (w * h) x)) (wB D (fun (u : Unit) => (xw cI a w h Q ff hd bl rs hs ts rc hc tc))) (xA a)) 0 0 (xA a) := by
  refine Met.ofW (cc := b_A_isOpen) (maxL := 2) (ret := (some .boolean)) (by decide) rfl ?_
  intro p e s m args below meth c s₁ B hml hv
  obtain ⟨rfl, hP, hK, hZ⟩ := hv
  have hx := B.exec
  have hb := B.bytes
  have hr := B.returns
  have hts : ∀ w ∈ tG, w.before _ s = true := fun w hw => atoms_spec (ws := .code y_A_isOpen b_A_isOpen 2 (some .boolean) :: tG) B.pre w (List.mem_cons_of_mem _ hw)
  have hown : s.vm.findClass rn_A = some m.cls := findClass_of_methodNamed B.named
  have hlocks := B.notSynchronized
  have hS : va_S (xA a) s.heap s.heap [] := va_S.rf
  have hD : va_D (xA a) (xw cI a w h Q ff hd bl rs hs ts rc hc tc) := x_D ha _ rfl
  have hP : va_P D vwCl (xw cI a w h Q ff hd bl rs hs ts rc hc tc) s.heap := hP
  have hl := lv_entry ([.ref (a 1), .int (x)]) (n := 2) (Nat.le_of_ble_eq_true rfl)
  rw [lg_entry_eq]
  generalize (lg_sl ([.ref (a 1), .int (x)]) ++ List.replicate (2 - (lg_sl ([.ref (a 1), .int (x)])).length) Slot.unset).toArray = ls at hl ⊢
  have hl : lv_has ls 2 [(0, .ref (a 1)), (1, .int (x))] := hl
  obtain ⟨hn1, hn⟩ := hG.n
  refine lv_iload_n hx hb d_A_isOpen_0 rfl (lv_at hl 1 rfl) ?_
  refine lv_if_lt (tgt := 39) hx hb d_A_isOpen_1 (by decide) (fun c_1 => ?_) (fun c_1 => ?_)
  · refine lv_iconst (v := (nI (0))) hx hb d_A_isOpen_39 (by decide) ?_
    exact w_zret (v := false) () hx hb hr hlocks hS hP (congrArg rt_b (by first | exact (rt_opx_n (Or.inl c_1)).symm | exact (rt_opx_n (Or.inr c_12)).symm | (rw [rt_opx_s (by omega) hr0]; unfold rt_op; simp_all))) d_A_isOpen_40
  · refine lv_iload_n hx hb d_A_isOpen_4 rfl (lv_at hl 1 rfl) ?_
    refine lv_iconst (v := (nI (2))) hx hb d_A_isOpen_5 (by decide) ?_
    refine lv_aload_n hx hb d_A_isOpen_6 rfl (lv_at hl 0 rfl) ?_
    refine va_get (D := D) (ci := 1) (v := .ref (a 3)) (C := rn_A) (T := tf_A) (N := 2) hx hb hts in_A hown hK hP 1 rfl rfl 1 (by decide) (hts _ k_fieldLink_rn_A_15_rn_A_pieces_I) (fun _ h9 => h9) rfl d_A_isOpen_7 ?_
    refine va_alen (v := nI (6 * (w * h))) hx hb hK hP 3 0 rfl rfl rfl d_A_isOpen_10 ?_
    refine rw_mul hx hb d_A_isOpen_11 ?_
    refine rw_top (b := 12 * (w * h)) (by omega) ?_
    refine lv_icmp_ge (tgt := 39) hx hb d_A_isOpen_12 (by decide) (fun c_12 => ?_) (fun c_12 => ?_)
    · refine lv_iconst (v := (nI (0))) hx hb d_A_isOpen_39 (by decide) ?_
      exact w_zret (v := false) () hx hb hr hlocks hS hP (congrArg rt_b (by first | exact (rt_opx_n (Or.inl c_1)).symm | exact (rt_opx_n (Or.inr c_12)).symm | (rw [rt_opx_s (by omega) hr0]; unfold rt_op; simp_all))) d_A_isOpen_40
    · obtain ⟨r, hr0, rfl⟩ : ∃ j : Nat, j < 12 * (w * h) ∧ x = nI j := by
        rcases pk_ix x (n := 12 * (w * h)) (by omega) with q | q | q
        · exact absurd q c_1
        · exact absurd q c_12
        · exact q
      refine lv_aload_n hx hb d_A_isOpen_15 rfl (lv_at hl 0 rfl) ?_
      refine lv_iload_n hx hb d_A_isOpen_16 rfl (lv_at hl 1 rfl) ?_
      refine lv_iconst (v := (nI (2))) hx hb d_A_isOpen_17 (by decide) ?_
      refine rw_div hx hb d_A_isOpen_18 (by omega) (by omega) (by omega) ?_
      refine w_ci (As := [.int (nI (r / 2))]) (rest := []) ⟨hx, hb, hml, hown, hts⟩ (c_A_isThere l D cI cZ g a ha w h Q ff hd bl rs hs ts rc hc tc (r / 2) hG (by omega)) (cwV 1 hts (t_gV k_methodLink_rn_A_18_y_A_isThere k_instanceMethod_y_A_isThere k_selects_rn_A_y_A_isThere_y_A_isThere k_initialized_rn_A k_code_y_A_isThere_prog_3_method_5_code_2_some_boolean) rfl rfl rfl (by decide +kernel) ⟨Nat.le_of_ble_eq_true rfl, Nat.le_of_ble_eq_true rfl⟩) (va_recv hK hP (ci := 1) (q0 := 1) rfl rfl) hP hK hZ hS rfl hl.1 rfl (Nat.le_of_ble_eq_true rfl) d_A_isOpen_19 ⟨Nat.zero_le _, Nat.zero_le _⟩ (fun r_19 u_19 H locs hw hP hS => ?_)
      subst hw
      have hP : va_P D vwCl (xw cI a w h Q ff hd bl rs hs ts rc hc tc) H := hP
      refine rw_beq (tgt := 39) hx hb d_A_isOpen_22 (by decide) (fun c_22 => ?_) (fun c_22 => ?_)
      · refine lv_iconst (v := (nI (0))) hx hb d_A_isOpen_39 (by decide) ?_
        exact w_zret (v := false) () hx hb hr hlocks hS hP (congrArg rt_b (by first | exact (rt_opx_n (Or.inl c_1)).symm | exact (rt_opx_n (Or.inr c_12)).symm | (rw [rt_opx_s (by omega) hr0]; unfold rt_op; simp_all))) d_A_isOpen_40
      · refine lv_aload_n hx hb d_A_isOpen_25 rfl (lv_at hl 0 rfl) ?_
        refine lv_iload_n hx hb d_A_isOpen_26 rfl (lv_at hl 1 rfl) ?_
        refine lv_iconst (v := (nI (1))) hx hb d_A_isOpen_27 (by decide) ?_
        refine rw_xor hx hb d_A_isOpen_28 ?_
        refine rw_top (b := rt_rv r) (rt_rv_xor r) ?_
        refine w_ci (As := [.int (nI (rt_rv r))]) (rest := []) ⟨hx, hb, hml, hown, hts⟩ (c_A_hasSignal l D cI cZ g a ha w h Q ff hd bl rs hs ts rc hc tc (rt_rv r) hG (rt_rv_lt hr0)) (cwV 1 hts (t_gV k_methodLink_rn_A_26_y_A_hasSignal k_instanceMethod_y_A_hasSignal k_selects_rn_A_y_A_hasSignal_y_A_hasSignal k_initialized_rn_A k_code_y_A_hasSignal_prog_3_method_10_code_3_some_boolean) rfl rfl rfl (by decide +kernel) ⟨Nat.le_of_ble_eq_true rfl, Nat.le_of_ble_eq_true rfl⟩) (va_recv hK hP (ci := 1) (q0 := 1) rfl rfl) hP hK hZ hS rfl hl.1 rfl (Nat.le_of_ble_eq_true rfl) d_A_isOpen_29 ⟨Nat.zero_le _, Nat.zero_le _⟩ (fun r_29 u_29 H locs hw hP hS => ?_)
        subst hw
        have hP : va_P D vwCl (xw cI a w h Q ff hd bl rs hs ts rc hc tc) H := hP
        refine rw_bne (tgt := 39) hx hb d_A_isOpen_32 (by decide) (fun c_32 => ?_) (fun c_32 => ?_)
        · refine lv_iconst (v := (nI (0))) hx hb d_A_isOpen_39 (by decide) ?_
          exact w_zret (v := false) () hx hb hr hlocks hS hP (congrArg rt_b (by first | exact (rt_opx_n (Or.inl c_1)).symm | exact (rt_opx_n (Or.inr c_12)).symm | (rw [rt_opx_s (by omega) hr0]; unfold rt_op; simp_all))) d_A_isOpen_40
        · refine lv_iconst (v := (nI (1))) hx hb d_A_isOpen_35 (by decide) ?_
          refine lv_goto (tgt := 40) hx hb d_A_isOpen_36 (by decide) ?_
          exact w_zret (v := true) () hx hb hr hlocks hS hP (congrArg rt_b (by first | exact (rt_opx_n (Or.inl c_1)).symm | exact (rt_opx_n (Or.inr c_12)).symm | (rw [rt_opx_s (by omega) hr0]; unfold rt_op; simp_all))) d_A_isOpen_40

set_option maxHeartbeats 4000000 in
set_option maxRecDepth 100000 in
theorem c_A_isStraight (l : Launch) (D : va_G) (cI cZ : ClassId) (g a : Nat → Nat) (ha : xI a) (w h : Nat) (Q : Nat → Nat) (ff : Nat → Int32) (hd bl : Int32) (rs : Nat → Int32) (hs ts : Int32) (rc : Nat → Int32) (hc tc : Int32) (r : Nat) (hG : rt_G w h Q) (hr0 : r < 12 * (w * h)) : Met l y_A_isStraight (.code y_A_isStraight b_A_isStraight 2 (some .boolean) :: tG) ({ frames := 0, cells := 0, slots := 0, locals := 0 }) (va_Pc [.ref (a 1), .int (nI (r))] (wU D cI cZ g (xA a) (xw cI a w h Q ff hd bl rs hs ts rc hc tc))) (va_Qi (S := Unit) (fun x _ => x = rt_b (rt_st r)) (wB D (fun (u : Unit) => (xw cI a w h Q ff hd bl rs hs ts rc hc tc))) (xA a)) 0 0 (xA a) := by
  refine Met.ofW (cc := b_A_isStraight) (maxL := 2) (ret := (some .boolean)) (by decide) rfl ?_
  intro p e s m args below meth c s₁ B hml hv
  obtain ⟨rfl, hP, hK, hZ⟩ := hv
  have hx := B.exec
  have hb := B.bytes
  have hr := B.returns
  have hts : ∀ w ∈ tG, w.before _ s = true := fun w hw => atoms_spec (ws := .code y_A_isStraight b_A_isStraight 2 (some .boolean) :: tG) B.pre w (List.mem_cons_of_mem _ hw)
  have hown : s.vm.findClass rn_A = some m.cls := findClass_of_methodNamed B.named
  have hlocks := B.notSynchronized
  have hS : va_S (xA a) s.heap s.heap [] := va_S.rf
  have hD : va_D (xA a) (xw cI a w h Q ff hd bl rs hs ts rc hc tc) := x_D ha _ rfl
  have hP : va_P D vwCl (xw cI a w h Q ff hd bl rs hs ts rc hc tc) s.heap := hP
  have hl := lv_entry ([.ref (a 1), .int (nI (r))]) (n := 2) (Nat.le_of_ble_eq_true rfl)
  rw [lg_entry_eq]
  generalize (lg_sl ([.ref (a 1), .int (nI (r))]) ++ List.replicate (2 - (lg_sl ([.ref (a 1), .int (nI (r))])).length) Slot.unset).toArray = ls at hl ⊢
  have hl : lv_has ls 2 [(0, .ref (a 1)), (1, .int (nI (r)))] := hl
  obtain ⟨hn1, hn⟩ := hG.n
  refine lv_iload_n hx hb d_A_isStraight_0 rfl (lv_at hl 1 rfl) ?_
  refine lv_iconst (v := (nI (2))) hx hb d_A_isStraight_1 (by decide) ?_
  refine rw_div hx hb d_A_isStraight_2 (by omega) (by omega) (by omega) ?_
  refine lv_bipush (v := (nI (6))) hx hb d_A_isStraight_3 (by decide) ?_
  refine rw_rem hx hb d_A_isStraight_5 (by omega) (by omega) (by omega) ?_
  refine lv_iconst (v := (nI (2))) hx hb d_A_isStraight_6 (by decide) ?_
  refine rw_cge (tgt := 14) hx hb d_A_isStraight_7 (by decide) (by omega) (by omega) (fun c_7 => ?_) (fun c_7 => ?_)
  · refine lv_iconst (v := (nI (0))) hx hb d_A_isStraight_14 (by decide) ?_
    exact w_zret (v := false) () hx hb hr hlocks hS hP (congrArg rt_b (by unfold rt_st; simp; omega)) d_A_isStraight_15
  · refine lv_iconst (v := (nI (1))) hx hb d_A_isStraight_10 (by decide) ?_
    refine lv_goto (tgt := 15) hx hb d_A_isStraight_11 (by decide) ?_
    exact w_zret (v := true) () hx hb hr hlocks hS hP (congrArg rt_b (by unfold rt_st; simp; omega)) d_A_isStraight_15

set_option maxHeartbeats 4000000 in
set_option maxRecDepth 100000 in
theorem c_A_lengthOf (l : Launch) (D : va_G) (cI cZ : ClassId) (g a : Nat → Nat) (ha : xI a) (w h : Nat) (Q : Nat → Nat) (ff : Nat → Int32) (hd bl : Int32) (rs : Nat → Int32) (hs ts : Int32) (rc : Nat → Int32) (hc tc : Int32) (r : Nat) (hG : rt_G w h Q) (hr0 : r < 12 * (w * h)) : Met l y_A_lengthOf (.code y_A_lengthOf b_A_lengthOf 2 (some .int) :: tG) ({ frames := 1, cells := 0, slots := 0, locals := 21 }) (va_Pc [.ref (a 1), .int (nI (r))] (wU D cI cZ g (xA a) (xw cI a w h Q ff hd bl rs hs ts rc hc tc))) (va_Qi (S := Unit) (fun x _ => x = nI (rt_ln r)) (wB D (fun (u : Unit) => (xw cI a w h Q ff hd bl rs hs ts rc hc tc))) (xA a)) 0 0 (xA a) := by
  refine Met.ofW (cc := b_A_lengthOf) (maxL := 2) (ret := (some .int)) (by decide) rfl ?_
  intro p e s m args below meth c s₁ B hml hv
  obtain ⟨rfl, hP, hK, hZ⟩ := hv
  have hx := B.exec
  have hb := B.bytes
  have hr := B.returns
  have hts : ∀ w ∈ tG, w.before _ s = true := fun w hw => atoms_spec (ws := .code y_A_lengthOf b_A_lengthOf 2 (some .int) :: tG) B.pre w (List.mem_cons_of_mem _ hw)
  have hown : s.vm.findClass rn_A = some m.cls := findClass_of_methodNamed B.named
  have hlocks := B.notSynchronized
  have hS : va_S (xA a) s.heap s.heap [] := va_S.rf
  have hD : va_D (xA a) (xw cI a w h Q ff hd bl rs hs ts rc hc tc) := x_D ha _ rfl
  have hP : va_P D vwCl (xw cI a w h Q ff hd bl rs hs ts rc hc tc) s.heap := hP
  have hl := lv_entry ([.ref (a 1), .int (nI (r))]) (n := 2) (Nat.le_of_ble_eq_true rfl)
  rw [lg_entry_eq]
  generalize (lg_sl ([.ref (a 1), .int (nI (r))]) ++ List.replicate (2 - (lg_sl ([.ref (a 1), .int (nI (r))])).length) Slot.unset).toArray = ls at hl ⊢
  have hl : lv_has ls 2 [(0, .ref (a 1)), (1, .int (nI (r)))] := hl
  obtain ⟨hn1, hn⟩ := hG.n
  refine lv_aload_n hx hb d_A_lengthOf_0 rfl (lv_at hl 0 rfl) ?_
  refine lv_iload_n hx hb d_A_lengthOf_1 rfl (lv_at hl 1 rfl) ?_
  refine w_ci (As := [.int (nI (r))]) (rest := []) ⟨hx, hb, hml, hown, hts⟩ (c_A_isStraight l D cI cZ g a ha w h Q ff hd bl rs hs ts rc hc tc r hG hr0) (cwV 1 hts (t_gV k_methodLink_rn_A_29_y_A_isStraight k_instanceMethod_y_A_isStraight k_selects_rn_A_y_A_isStraight_y_A_isStraight k_initialized_rn_A k_code_y_A_isStraight_prog_3_method_12_code_2_some_boolean) rfl rfl rfl (by decide +kernel) ⟨Nat.le_of_ble_eq_true rfl, Nat.le_of_ble_eq_true rfl⟩) (va_recv hK hP (ci := 1) (q0 := 1) rfl rfl) hP hK hZ hS rfl hl.1 rfl (Nat.le_of_ble_eq_true rfl) d_A_lengthOf_2 ⟨Nat.zero_le _, Nat.zero_le _⟩ (fun r_2 u_2 H locs hw hP hS => ?_)
  subst hw
  have hP : va_P D vwCl (xw cI a w h Q ff hd bl rs hs ts rc hc tc) H := hP
  refine rw_beq (tgt := 13) hx hb d_A_lengthOf_5 (by decide) (fun c_5 => ?_) (fun c_5 => ?_)
  · refine lv_bipush (v := (nI (12))) hx hb d_A_lengthOf_13 (by decide) ?_
    exact w_iret () hx hb hr hlocks hS hP (by first | (rw [rt_ln_st c_5]; done) | (rw [rt_ln_cv (by unfold rt_cv; rw [c_5]; rfl)]; done)) d_A_lengthOf_15
  · refine lv_bipush (v := (nI (16))) hx hb d_A_lengthOf_8 (by decide) ?_
    refine lv_goto (tgt := 15) hx hb d_A_lengthOf_10 (by decide) ?_
    exact w_iret () hx hb hr hlocks hS hP (by first | (rw [rt_ln_st c_5]; done) | (rw [rt_ln_cv (by unfold rt_cv; rw [c_5]; rfl)]; done)) d_A_lengthOf_15

set_option maxHeartbeats 4000000 in
set_option maxRecDepth 100000 in
theorem c_A_ahead (l : Launch) (D : va_G) (cI cZ : ClassId) (g a : Nat → Nat) (ha : xI a) (w h : Nat) (Q : Nat → Nat) (ff : Nat → Int32) (hd bl : Int32) (rs : Nat → Int32) (hs ts : Int32) (rc : Nat → Int32) (hc tc : Int32) (r i : Nat) (hG : rt_G w h Q) (hr0 : r < 12 * (w * h)) (hi : i < 3) : Met l y_A_ahead (.code y_A_ahead b_A_ahead 5 (some .int) :: tG) ({ frames := 0, cells := 0, slots := 0, locals := 0 }) (va_Pc [.ref (a 1), .int (nI (r)), .int (nI (i))] (wU D cI cZ g (xA a) (xw cI a w h Q ff hd bl rs hs ts rc hc tc))) (va_Qi (S := Unit) (fun x _ => x = rt_o (rt_ah w h r i)) (wB D (fun (u : Unit) => (xw cI a w h Q ff hd bl rs hs ts rc hc tc))) (xA a)) 0 0 (xA a) := by
  refine Met.ofW (cc := b_A_ahead) (maxL := 5) (ret := (some .int)) (by decide) rfl ?_
  intro p e s m args below meth c s₁ B hml hv
  obtain ⟨rfl, hP, hK, hZ⟩ := hv
  have hx := B.exec
  have hb := B.bytes
  have hr := B.returns
  have hts : ∀ w ∈ tG, w.before _ s = true := fun w hw => atoms_spec (ws := .code y_A_ahead b_A_ahead 5 (some .int) :: tG) B.pre w (List.mem_cons_of_mem _ hw)
  have hown : s.vm.findClass rn_A = some m.cls := findClass_of_methodNamed B.named
  have hlocks := B.notSynchronized
  have hS : va_S (xA a) s.heap s.heap [] := va_S.rf
  have hD : va_D (xA a) (xw cI a w h Q ff hd bl rs hs ts rc hc tc) := x_D ha _ rfl
  have hP : va_P D vwCl (xw cI a w h Q ff hd bl rs hs ts rc hc tc) s.heap := hP
  have hl := lv_entry ([.ref (a 1), .int (nI (r)), .int (nI (i))]) (n := 5) (Nat.le_of_ble_eq_true rfl)
  rw [lg_entry_eq]
  generalize (lg_sl ([.ref (a 1), .int (nI (r)), .int (nI (i))]) ++ List.replicate (5 - (lg_sl ([.ref (a 1), .int (nI (r)), .int (nI (i))])).length) Slot.unset).toArray = ls at hl ⊢
  have hl : lv_has ls 5 [(0, .ref (a 1)), (1, .int (nI (r))), (2, .int (nI (i)))] := hl
  obtain ⟨hn1, hn⟩ := hG.n
  refine va_gets hx hb hZ.1.1 hS hown (hts _ k_fieldLink_rn_A_32_rn_A_GOES_TO_I) (fun _ h9 => h9) d_A_ahead_0 ?_
  refine lv_iload_n hx hb d_A_ahead_3 rfl (lv_at hl 1 rfl) ?_
  refine lv_bipush (v := (nI (12))) hx hb d_A_ahead_4 (by decide) ?_
  refine rw_rem hx hb d_A_ahead_6 (by omega) (by omega) (by omega) ?_
  refine va_ti hx hb hZ.1.2 hS (vp_in_nI (by omega) (by omega)) (v := .int (nI (rt_to (r % 12)))) (by rw [nI_clamp (by omega)]) d_A_ahead_7 ?_
  have hto := rt_to_lt (r % 12) (Nat.mod_lt _ (by decide))
  refine lv_istore_n (lv' := [(3, .int (nI (rt_to (r % 12)))), (0, .ref (a 1)), (1, .int (nI (r))), (2, .int (nI (i)))]) hx hb d_A_ahead_8 rfl hl (by decide) rfl (fun ls hl => ?_)
  refine lv_aload_n hx hb d_A_ahead_9 rfl (lv_at hl 1 rfl) ?_
  refine va_get (D := D) (ci := 1) (v := .ref (a 2)) (C := rn_A) (T := tf_A) (N := 2) hx hb hts in_A hown hK hP 1 rfl rfl 0 (by decide) (hts _ k_fieldLink_rn_A_11_rn_A_beyond_I) (fun _ h9 => h9) rfl d_A_ahead_10 ?_
  refine lv_iconst (v := (nI (4))) hx hb d_A_ahead_13 (by decide) ?_
  refine lv_iload_n hx hb d_A_ahead_14 rfl (lv_at hl 2 rfl) ?_
  refine lv_bipush (v := (nI (12))) hx hb d_A_ahead_15 (by decide) ?_
  refine rw_div hx hb d_A_ahead_17 (by omega) (by omega) (by omega) ?_
  refine rw_mul hx hb d_A_ahead_18 ?_
  refine lv_iload_n hx hb d_A_ahead_19 rfl (lv_at hl 0 rfl) ?_
  refine rw_add hx hb d_A_ahead_20 ?_
  refine rw_iald (v := rt_o (rt_nb w h (r / 12) (rt_to (r % 12)))) hx hb hK hP 2 0 rfl rfl (by omega) (by omega) (by show rt_o (rt_nb w h _ _) = _; rw [show (4 * (r / 12) + rt_to (r % 12)) / 4 = r / 12 by omega, show (4 * (r / 12) + rt_to (r % 12)) % 4 = rt_to (r % 12) by omega]) d_A_ahead_21 ?_
  cases ho_22 : rt_nb w h (r / 12) (rt_to (r % 12)) with
  | none =>
    refine lv_istore (lv' := [(4, .int (-1)), (3, .int (nI (rt_to (r % 12)))), (0, .ref (a 1)), (1, .int (nI (r))), (2, .int (nI (i)))]) hx hb d_A_ahead_22 hl (by decide) rfl (fun ls hl => ?_)
    refine lv_iload hx hb d_A_ahead_24 (lv_at hl 0 rfl) ?_
    refine lv_iconst (v := (-1)) hx hb d_A_ahead_26 (by decide) ?_
    refine lv_icmp_ne (tgt := 34) hx hb d_A_ahead_27 (by decide) (fun c_27 => ?_) (fun c_27 => ?_)
    · exact absurd rfl c_27
    · refine lv_iconst (v := (-1)) hx hb d_A_ahead_30 (by decide) ?_
      refine lv_goto (tgt := 49) hx hb d_A_ahead_31 (by decide) ?_
      exact w_iret () hx hb hr hlocks hS hP (by unfold rt_ah; rw [ho_22]; rfl) d_A_ahead_49
  | some tt =>
    have htt : tt < w * h := (rt_nb_back (by have := hG.1.1; omega) (by omega) hto ho_22).1
    refine lv_istore (lv' := [(4, .int (nI (tt))), (3, .int (nI (rt_to (r % 12)))), (0, .ref (a 1)), (1, .int (nI (r))), (2, .int (nI (i)))]) hx hb d_A_ahead_22 hl (by decide) rfl (fun ls hl => ?_)
    refine lv_iload hx hb d_A_ahead_24 (lv_at hl 0 rfl) ?_
    refine lv_iconst (v := (-1)) hx hb d_A_ahead_26 (by decide) ?_
    refine lv_icmp_ne (tgt := 34) hx hb d_A_ahead_27 (by decide) (fun c_27 => ?_) (fun c_27 => ?_)
    · refine lv_bipush (v := (nI (12))) hx hb d_A_ahead_34 (by decide) ?_
      refine lv_iload hx hb d_A_ahead_36 (lv_at hl 0 rfl) ?_
      refine rw_mul hx hb d_A_ahead_38 ?_
      refine va_gets hx hb hZ.2.1.1 hS hown (hts _ k_fieldLink_rn_A_35_rn_A_BEGIN_BEYOND_I) (fun _ h9 => h9) d_A_ahead_39 ?_
      refine lv_iconst (v := (nI (3))) hx hb d_A_ahead_42 (by decide) ?_
      refine lv_iload_n hx hb d_A_ahead_43 rfl (lv_at hl 1 rfl) ?_
      refine rw_mul hx hb d_A_ahead_44 ?_
      refine lv_iload_n hx hb d_A_ahead_45 rfl (lv_at hl 4 rfl) ?_
      refine rw_add hx hb d_A_ahead_46 ?_
      refine va_ti hx hb hZ.2.1.2 hS (vp_in_nI (by omega) (by omega)) (v := .int (nI (rt_bg (3 * rt_to (r % 12) + i)))) (by rw [nI_clamp (by omega)]) d_A_ahead_47 ?_
      refine rw_add hx hb d_A_ahead_48 ?_
      exact w_iret () hx hb hr hlocks hS hP (by unfold rt_ah; rw [ho_22]; rfl) d_A_ahead_49
    · exact absurd c_27 (rt_o_ne _ (by omega))

set_option maxHeartbeats 4000000 in
set_option maxRecDepth 100000 in
theorem c_A_behind (l : Launch) (D : va_G) (cI cZ : ClassId) (g a : Nat → Nat) (ha : xI a) (w h : Nat) (Q : Nat → Nat) (ff : Nat → Int32) (hd bl : Int32) (rs : Nat → Int32) (hs ts : Int32) (rc : Nat → Int32) (hc tc : Int32) (r i : Nat) (hG : rt_G w h Q) (hr0 : r < 12 * (w * h)) (hi : i < 3) : Met l y_A_behind (.code y_A_behind b_A_behind 4 (some .int) :: tG) ({ frames := 1, cells := 0, slots := 0, locals := 24 }) (va_Pc [.ref (a 1), .int (nI (r)), .int (nI (i))] (wU D cI cZ g (xA a) (xw cI a w h Q ff hd bl rs hs ts rc hc tc))) (va_Qi (S := Unit) (fun x _ => x = rt_o (rt_bh w h r i)) (wB D (fun (u : Unit) => (xw cI a w h Q ff hd bl rs hs ts rc hc tc))) (xA a)) 0 0 (xA a) := by
  refine Met.ofW (cc := b_A_behind) (maxL := 4) (ret := (some .int)) (by decide) rfl ?_
  intro p e s m args below meth c s₁ B hml hv
  obtain ⟨rfl, hP, hK, hZ⟩ := hv
  have hx := B.exec
  have hb := B.bytes
  have hr := B.returns
  have hts : ∀ w ∈ tG, w.before _ s = true := fun w hw => atoms_spec (ws := .code y_A_behind b_A_behind 4 (some .int) :: tG) B.pre w (List.mem_cons_of_mem _ hw)
  have hown : s.vm.findClass rn_A = some m.cls := findClass_of_methodNamed B.named
  have hlocks := B.notSynchronized
  have hS : va_S (xA a) s.heap s.heap [] := va_S.rf
  have hD : va_D (xA a) (xw cI a w h Q ff hd bl rs hs ts rc hc tc) := x_D ha _ rfl
  have hP : va_P D vwCl (xw cI a w h Q ff hd bl rs hs ts rc hc tc) s.heap := hP
  have hl := lv_entry ([.ref (a 1), .int (nI (r)), .int (nI (i))]) (n := 4) (Nat.le_of_ble_eq_true rfl)
  rw [lg_entry_eq]
  generalize (lg_sl ([.ref (a 1), .int (nI (r)), .int (nI (i))]) ++ List.replicate (4 - (lg_sl ([.ref (a 1), .int (nI (r)), .int (nI (i))])).length) Slot.unset).toArray = ls at hl ⊢
  have hl : lv_has ls 4 [(0, .ref (a 1)), (1, .int (nI (r))), (2, .int (nI (i)))] := hl
  obtain ⟨hn1, hn⟩ := hG.n
  refine lv_aload_n hx hb d_A_behind_0 rfl (lv_at hl 0 rfl) ?_
  refine lv_iload_n hx hb d_A_behind_1 rfl (lv_at hl 1 rfl) ?_
  refine lv_iconst (v := (nI (1))) hx hb d_A_behind_2 (by decide) ?_
  refine rw_xor hx hb d_A_behind_3 ?_
  refine rw_top (b := rt_rv r) (rt_rv_xor r) ?_
  refine lv_iload_n hx hb d_A_behind_4 rfl (lv_at hl 2 rfl) ?_
  refine w_ci (As := [.int (nI (rt_rv r)), .int (nI (i))]) (rest := []) ⟨hx, hb, hml, hown, hts⟩ (c_A_ahead l D cI cZ g a ha w h Q ff hd bl rs hs ts rc hc tc (rt_rv r) i hG (rt_rv_lt hr0) hi) (cwV 2 hts (t_gV k_methodLink_rn_A_38_y_A_ahead k_instanceMethod_y_A_ahead k_selects_rn_A_y_A_ahead_y_A_ahead k_initialized_rn_A k_code_y_A_ahead_prog_3_method_14_code_5_some_int) rfl rfl rfl (by decide +kernel) ⟨Nat.le_of_ble_eq_true rfl, Nat.le_of_ble_eq_true rfl⟩) (va_recv hK hP (ci := 1) (q0 := 1) rfl rfl) hP hK hZ hS rfl hl.1 rfl (Nat.le_of_ble_eq_true rfl) d_A_behind_5 ⟨Nat.zero_le _, Nat.zero_le _⟩ (fun r_5 u_5 H locs hw hP hS => ?_)
  subst hw
  have hP : va_P D vwCl (xw cI a w h Q ff hd bl rs hs ts rc hc tc) H := hP
  cases ho_8 : rt_ah w h (rt_rv r) i with
  | none =>
    refine lv_istore_n (lv' := [(3, .int (-1)), (0, .ref (a 1)), (1, .int (nI (r))), (2, .int (nI (i)))]) hx hb d_A_behind_8 rfl hl (by decide) rfl (fun ls hl => ?_)
    refine lv_iload_n hx hb d_A_behind_9 rfl (lv_at hl 0 rfl) ?_
    refine lv_iconst (v := (-1)) hx hb d_A_behind_10 (by decide) ?_
    refine lv_icmp_ne (tgt := 18) hx hb d_A_behind_11 (by decide) (fun c_11 => ?_) (fun c_11 => ?_)
    · exact absurd rfl c_11
    · refine lv_iconst (v := (-1)) hx hb d_A_behind_14 (by decide) ?_
      refine lv_goto (tgt := 21) hx hb d_A_behind_15 (by decide) ?_
      exact w_iret () hx hb hr hlocks hS hP (by unfold rt_bh; rw [ho_8]; rfl) d_A_behind_21
  | some tt =>
    have htt : tt < 12 * (w * h) := (rt_ah_back (by have := hG.1.1; omega) (rt_rv_lt hr0) hi ho_8).1
    refine lv_istore_n (lv' := [(3, .int (nI (tt))), (0, .ref (a 1)), (1, .int (nI (r))), (2, .int (nI (i)))]) hx hb d_A_behind_8 rfl hl (by decide) rfl (fun ls hl => ?_)
    refine lv_iload_n hx hb d_A_behind_9 rfl (lv_at hl 0 rfl) ?_
    refine lv_iconst (v := (-1)) hx hb d_A_behind_10 (by decide) ?_
    refine lv_icmp_ne (tgt := 18) hx hb d_A_behind_11 (by decide) (fun c_11 => ?_) (fun c_11 => ?_)
    · refine lv_iload_n hx hb d_A_behind_18 rfl (lv_at hl 0 rfl) ?_
      refine lv_iconst (v := (nI (1))) hx hb d_A_behind_19 (by decide) ?_
      refine rw_xor hx hb d_A_behind_20 ?_
      refine rw_top (b := rt_rv tt) (rt_rv_xor tt) ?_
      exact w_iret () hx hb hr hlocks hS hP (by unfold rt_bh; rw [ho_8]; rfl) d_A_behind_21
    · exact absurd c_11 (rt_o_ne _ (by omega))

set_option maxHeartbeats 4000000 in
set_option maxRecDepth 100000 in
theorem c_A_kindsIn (l : Launch) (D : va_G) (cI cZ : ClassId) (g a : Nat → Nat) (ha : xI a) (w h : Nat) (Q : Nat → Nat) (ff : Nat → Int32) (hd bl : Int32) (rs : Nat → Int32) (hs ts : Int32) (rc : Nat → Int32) (hc tc : Int32) (t : Nat) (hG : rt_G w h Q) (ht : t < w * h) : Met l y_A_kindsIn (.code y_A_kindsIn b_A_kindsIn 4 (some .int) :: tG) ({ frames := 1, cells := 0, slots := 0, locals := 21 }) (va_Pc [.ref (a 1), .int (nI (t))] (wU D cI cZ g (xA a) (xw cI a w h Q ff hd bl rs hs ts rc hc tc))) (va_Qi (S := Unit) (fun x _ => x = nI (rt_kb Q t 6)) (wB D (fun (u : Unit) => (xw cI a w h Q ff hd bl rs hs ts rc hc tc))) (xA a)) 0 0 (xA a) := by
  refine Met.ofW (cc := b_A_kindsIn) (maxL := 4) (ret := (some .int)) (by decide) rfl ?_
  intro p e s m args below meth c s₁ B hml hv
  obtain ⟨rfl, hP, hK, hZ⟩ := hv
  have hx := B.exec
  have hb := B.bytes
  have hr := B.returns
  have hts : ∀ w ∈ tG, w.before _ s = true := fun w hw => atoms_spec (ws := .code y_A_kindsIn b_A_kindsIn 4 (some .int) :: tG) B.pre w (List.mem_cons_of_mem _ hw)
  have hown : s.vm.findClass rn_A = some m.cls := findClass_of_methodNamed B.named
  have hlocks := B.notSynchronized
  have hS : va_S (xA a) s.heap s.heap [] := va_S.rf
  have hD : va_D (xA a) (xw cI a w h Q ff hd bl rs hs ts rc hc tc) := x_D ha _ rfl
  have hP : va_P D vwCl (xw cI a w h Q ff hd bl rs hs ts rc hc tc) s.heap := hP
  have hl := lv_entry ([.ref (a 1), .int (nI (t))]) (n := 4) (Nat.le_of_ble_eq_true rfl)
  rw [lg_entry_eq]
  generalize (lg_sl ([.ref (a 1), .int (nI (t))]) ++ List.replicate (4 - (lg_sl ([.ref (a 1), .int (nI (t))])).length) Slot.unset).toArray = ls at hl ⊢
  have hl : lv_has ls 4 [(0, .ref (a 1)), (1, .int (nI (t)))] := hl
  obtain ⟨hn1, hn⟩ := hG.n
  refine lv_iconst (v := (nI (0))) hx hb d_A_kindsIn_0 (by decide) ?_
  refine lv_istore_n (lv' := [(2, .int (nI (0))), (0, .ref (a 1)), (1, .int (nI (t)))]) hx hb d_A_kindsIn_1 rfl hl (by decide) rfl (fun ls hl => ?_)
  refine lv_iconst (v := (nI (0))) hx hb d_A_kindsIn_2 (by decide) ?_
  refine lv_istore_n (lv' := [(3, .int (nI (0))), (2, .int (nI (0))), (0, .ref (a 1)), (1, .int (nI (t)))]) hx hb d_A_kindsIn_3 rfl hl (by decide) rfl (fun ls hl => ?_)
  have LP_4 : ∀ (n_4 : Nat) (i : Nat), i + n_4 = 6 → ∀ (H : Heap) (locs : List Loc) (ls : Array Slot), va_P D vwCl (xw cI a w h Q ff hd bl rs hs ts rc hc tc) H → va_S (xA a) s.heap H locs → lv_has ls 4 [(0, .ref (a 1)), (1, .int (nI (t))), (2, .int (nI (rt_kb Q t i))), (3, .int (nI (i)))] → W p l e (headSpec (.code y_A_kindsIn b_A_kindsIn 4 (some .int) :: tG) ({ frames := 1, cells := 0, slots := 0, locals := 21 })).room s m ([.ref (a 1), .int (nI (t))] : List Value).toArray below meth c H locs 0 0 (MQ below (va_Qi (S := Unit) (fun x _ => x = nI (rt_kb Q t 6)) (wB D (fun (u : Unit) => (xw cI a w h Q ff hd bl rs hs ts rc hc tc))) (xA a)) ([.ref (a 1), .int (nI (t))] : List Value).toArray s 0 0 (xA a)) (F0 m 4 ls []) := by
    intro n_4
    induction n_4 with
    | zero =>
      intro i hrel_4 H locs ls hP hS hl
      have hD : va_D (xA a) (xw cI a w h Q ff hd bl rs hs ts rc hc tc) := x_D ha _ rfl
      refine lv_iload_n hx hb d_A_kindsIn_4 rfl (lv_at hl 3 rfl) ?_
      refine lv_bipush (v := (nI (6))) hx hb d_A_kindsIn_5 (by decide) ?_
      refine rw_cge (tgt := 35) hx hb d_A_kindsIn_7 (by decide) (by omega) (by omega) (fun c_7 => ?_) (fun c_7 => ?_)
      · refine lv_iload_n hx hb d_A_kindsIn_35 rfl (lv_at hl 2 rfl) ?_
        exact w_iret () hx hb hr hlocks hS hP (by rw [show i = 6 by omega]) d_A_kindsIn_36
      · omega
    | succ n_4 ih_4 =>
      intro i hrel_4 H locs ls hP hS hl
      have hD : va_D (xA a) (xw cI a w h Q ff hd bl rs hs ts rc hc tc) := x_D ha _ rfl
      refine lv_iload_n hx hb d_A_kindsIn_4 rfl (lv_at hl 3 rfl) ?_
      refine lv_bipush (v := (nI (6))) hx hb d_A_kindsIn_5 (by decide) ?_
      refine rw_cge (tgt := 35) hx hb d_A_kindsIn_7 (by decide) (by omega) (by omega) (fun c_7 => ?_) (fun c_7 => ?_)
      · omega
      · refine lv_aload_n hx hb d_A_kindsIn_10 rfl (lv_at hl 0 rfl) ?_
        refine lv_bipush (v := (nI (6))) hx hb d_A_kindsIn_11 (by decide) ?_
        refine lv_iload_n hx hb d_A_kindsIn_13 rfl (lv_at hl 1 rfl) ?_
        refine rw_mul hx hb d_A_kindsIn_14 ?_
        refine lv_iload_n hx hb d_A_kindsIn_15 rfl (lv_at hl 3 rfl) ?_
        refine rw_add hx hb d_A_kindsIn_16 ?_
        refine w_ci (As := [.int (nI ((6 * t) + i))]) (rest := []) ⟨hx, hb, hml, hown, hts⟩ (c_A_isThere l D cI cZ g a ha w h Q ff hd bl rs hs ts rc hc tc ((6 * t) + i) hG (by omega)) (cwV 1 hts (t_gV k_methodLink_rn_A_18_y_A_isThere k_instanceMethod_y_A_isThere k_selects_rn_A_y_A_isThere_y_A_isThere k_initialized_rn_A k_code_y_A_isThere_prog_3_method_5_code_2_some_boolean) rfl rfl rfl (by decide +kernel) ⟨Nat.le_of_ble_eq_true rfl, Nat.le_of_ble_eq_true rfl⟩) (va_recv hK hP (ci := 1) (q0 := 1) rfl rfl) hP hK hZ hS rfl hl.1 rfl (Nat.le_of_ble_eq_true rfl) d_A_kindsIn_17 ⟨Nat.zero_le _, Nat.zero_le _⟩ (fun r_17 u_17 H locs hw hP hS => ?_)
        subst hw
        have hP : va_P D vwCl (xw cI a w h Q ff hd bl rs hs ts rc hc tc) H := hP
        refine rw_beq (tgt := 29) hx hb d_A_kindsIn_20 (by decide) (fun c_20 => ?_) (fun c_20 => ?_)
        · refine lv_iinc (v := (nI (i + 1))) (lv' := [(3, .int (nI (i + 1))), (0, .ref (a 1)), (1, .int (nI (t))), (2, .int (nI (rt_kb Q t i)))]) hx hb d_A_kindsIn_29 hl (k := 3) rfl (nI_add _ _) (by decide) rfl (fun ls hl => ?_)
          refine lv_goto (tgt := 4) hx hb d_A_kindsIn_32 (by decide) ?_
          have hl : lv_has ls 4 [(3, .int (nI (i + 1))), (0, .ref (a 1)), (1, .int (nI (t))), (2, .int (nI (rt_kb Q t (i + 1))))] := by rw [rt_kb_f (of_decide_eq_false c_20)]; exact hl
          exact ih_4 (i + 1) (by omega) _ _ _ hP hS (lv_sub hl [1, 2, 3, 0] rfl)
        · refine lv_iload_n hx hb d_A_kindsIn_23 rfl (lv_at hl 2 rfl) ?_
          refine lv_iconst (v := (nI (1))) hx hb d_A_kindsIn_24 (by decide) ?_
          refine lv_iload_n hx hb d_A_kindsIn_25 rfl (lv_at hl 3 rfl) ?_
          refine rw_shl hx hb d_A_kindsIn_26 (by first | omega | exact rt_p6 i (by omega)) (by first | omega | exact rt_p6 i (by omega)) ?_
          refine rw_top (b := 2 ^ i) (Nat.one_mul _) ?_
          refine rw_or hx hb d_A_kindsIn_27 ?_
          refine lv_istore_n (lv' := [(2, .int (nI ((rt_kb Q t i) ||| (2 ^ i)))), (0, .ref (a 1)), (1, .int (nI (t))), (3, .int (nI (i)))]) hx hb d_A_kindsIn_28 rfl hl (by decide) rfl (fun ls hl => ?_)
          refine lv_iinc (v := (nI (i + 1))) (lv' := [(3, .int (nI (i + 1))), (2, .int (nI ((rt_kb Q t i) ||| (2 ^ i)))), (0, .ref (a 1)), (1, .int (nI (t)))]) hx hb d_A_kindsIn_29 hl (k := 3) rfl (nI_add _ _) (by decide) rfl (fun ls hl => ?_)
          refine lv_goto (tgt := 4) hx hb d_A_kindsIn_32 (by decide) ?_
          have hl : lv_has ls 4 [(3, .int (nI (i + 1))), (2, .int (nI (rt_kb Q t (i + 1)))), (0, .ref (a 1)), (1, .int (nI (t)))] := by rw [rt_kb_t (of_decide_eq_true c_20)]; exact hl
          exact ih_4 (i + 1) (by omega) _ _ _ hP hS (lv_sub hl [2, 3, 1, 0] rfl)
  exact LP_4 6 0 (by omega) _ _ _ hP hS (lv_sub hl [2, 3, 1, 0] rfl)

set_option maxHeartbeats 4000000 in
set_option maxRecDepth 100000 in
theorem c_A_piecesWith (l : Launch) (D : va_G) (cI cZ : ClassId) (g a : Nat → Nat) (ha : xI a) (w h : Nat) (Q : Nat → Nat) (ff : Nat → Int32) (hd bl : Int32) (rs : Nat → Int32) (hs ts : Int32) (rc : Nat → Int32) (hc tc : Int32) (b : Nat) (hG : rt_G w h Q) (hb0 : b < 512) : Met l y_A_piecesWith (.code y_A_piecesWith b_A_piecesWith 4 (some .int) :: tG) ({ frames := 0, cells := 0, slots := 0, locals := 0 }) (va_Pc [.ref (a 1), .int (nI (b))] (wU D cI cZ g (xA a) (xw cI a w h Q ff hd bl rs hs ts rc hc tc))) (va_Qi (S := Unit) (fun x _ => x = nI ((List.range (6 * (w * h))).countP (fun q => decide (Q q &&& b ≠ 0)))) (wB D (fun (u : Unit) => (xw cI a w h Q ff hd bl rs hs ts rc hc tc))) (xA a)) 0 0 (xA a) := by
  refine Met.ofW (cc := b_A_piecesWith) (maxL := 4) (ret := (some .int)) (by decide) rfl ?_
  intro p e s m args below meth c s₁ B hml hv
  obtain ⟨rfl, hP, hK, hZ⟩ := hv
  have hx := B.exec
  have hb := B.bytes
  have hr := B.returns
  have hts : ∀ w ∈ tG, w.before _ s = true := fun w hw => atoms_spec (ws := .code y_A_piecesWith b_A_piecesWith 4 (some .int) :: tG) B.pre w (List.mem_cons_of_mem _ hw)
  have hown : s.vm.findClass rn_A = some m.cls := findClass_of_methodNamed B.named
  have hlocks := B.notSynchronized
  have hS : va_S (xA a) s.heap s.heap [] := va_S.rf
  have hD : va_D (xA a) (xw cI a w h Q ff hd bl rs hs ts rc hc tc) := x_D ha _ rfl
  have hP : va_P D vwCl (xw cI a w h Q ff hd bl rs hs ts rc hc tc) s.heap := hP
  have hl := lv_entry ([.ref (a 1), .int (nI (b))]) (n := 4) (Nat.le_of_ble_eq_true rfl)
  rw [lg_entry_eq]
  generalize (lg_sl ([.ref (a 1), .int (nI (b))]) ++ List.replicate (4 - (lg_sl ([.ref (a 1), .int (nI (b))])).length) Slot.unset).toArray = ls at hl ⊢
  have hl : lv_has ls 4 [(0, .ref (a 1)), (1, .int (nI (b)))] := hl
  obtain ⟨hn1, hn⟩ := hG.n
  refine lv_iconst (v := (nI (0))) hx hb d_A_piecesWith_0 (by decide) ?_
  refine lv_istore_n (lv' := [(2, .int (nI (0))), (0, .ref (a 1)), (1, .int (nI (b)))]) hx hb d_A_piecesWith_1 rfl hl (by decide) rfl (fun ls hl => ?_)
  refine lv_iconst (v := (nI (0))) hx hb d_A_piecesWith_2 (by decide) ?_
  refine lv_istore_n (lv' := [(3, .int (nI (0))), (2, .int (nI (0))), (0, .ref (a 1)), (1, .int (nI (b)))]) hx hb d_A_piecesWith_3 rfl hl (by decide) rfl (fun ls hl => ?_)
  have LP_4 : ∀ (n_4 : Nat) (i : Nat), i + n_4 = 6 * (w * h) → ∀ (H : Heap) (locs : List Loc) (ls : Array Slot), va_P D vwCl (xw cI a w h Q ff hd bl rs hs ts rc hc tc) H → va_S (xA a) s.heap H locs → lv_has ls 4 [(0, .ref (a 1)), (1, .int (nI (b))), (2, .int (nI ((List.range i).countP (fun q => decide (Q q &&& b ≠ 0))))), (3, .int (nI (i)))] → W p l e (headSpec (.code y_A_piecesWith b_A_piecesWith 4 (some .int) :: tG) ({ frames := 0, cells := 0, slots := 0, locals := 0 })).room s m ([.ref (a 1), .int (nI (b))] : List Value).toArray below meth c H locs 0 0 (MQ below (va_Qi (S := Unit) (fun x _ => x = nI ((List.range (6 * (w * h))).countP (fun q => decide (Q q &&& b ≠ 0)))) (wB D (fun (u : Unit) => (xw cI a w h Q ff hd bl rs hs ts rc hc tc))) (xA a)) ([.ref (a 1), .int (nI (b))] : List Value).toArray s 0 0 (xA a)) (F0 m 4 ls []) := by
    intro n_4
    induction n_4 with
    | zero =>
      intro i hrel_4 H locs ls hP hS hl
      have hD : va_D (xA a) (xw cI a w h Q ff hd bl rs hs ts rc hc tc) := x_D ha _ rfl
      refine lv_iload_n hx hb d_A_piecesWith_4 rfl (lv_at hl 3 rfl) ?_
      refine lv_aload_n hx hb d_A_piecesWith_5 rfl (lv_at hl 0 rfl) ?_
      refine va_get (D := D) (ci := 1) (v := .ref (a 3)) (C := rn_A) (T := tf_A) (N := 2) hx hb hts in_A hown hK hP 1 rfl rfl 1 (by decide) (hts _ k_fieldLink_rn_A_15_rn_A_pieces_I) (fun _ h9 => h9) rfl d_A_piecesWith_6 ?_
      refine va_alen (v := nI (6 * (w * h))) hx hb hK hP 3 0 rfl rfl rfl d_A_piecesWith_9 ?_
      refine rw_cge (tgt := 33) hx hb d_A_piecesWith_10 (by decide) (by omega) (by omega) (fun c_10 => ?_) (fun c_10 => ?_)
      · refine lv_iload_n hx hb d_A_piecesWith_33 rfl (lv_at hl 2 rfl) ?_
        exact w_iret () hx hb hr hlocks hS hP (by rw [show i = 6 * (w * h) by omega]) d_A_piecesWith_34
      · omega
    | succ n_4 ih_4 =>
      intro i hrel_4 H locs ls hP hS hl
      have hD : va_D (xA a) (xw cI a w h Q ff hd bl rs hs ts rc hc tc) := x_D ha _ rfl
      refine lv_iload_n hx hb d_A_piecesWith_4 rfl (lv_at hl 3 rfl) ?_
      refine lv_aload_n hx hb d_A_piecesWith_5 rfl (lv_at hl 0 rfl) ?_
      refine va_get (D := D) (ci := 1) (v := .ref (a 3)) (C := rn_A) (T := tf_A) (N := 2) hx hb hts in_A hown hK hP 1 rfl rfl 1 (by decide) (hts _ k_fieldLink_rn_A_15_rn_A_pieces_I) (fun _ h9 => h9) rfl d_A_piecesWith_6 ?_
      refine va_alen (v := nI (6 * (w * h))) hx hb hK hP 3 0 rfl rfl rfl d_A_piecesWith_9 ?_
      refine rw_cge (tgt := 33) hx hb d_A_piecesWith_10 (by decide) (by omega) (by omega) (fun c_10 => ?_) (fun c_10 => ?_)
      · omega
      · refine lv_aload_n hx hb d_A_piecesWith_13 rfl (lv_at hl 0 rfl) ?_
        refine va_get (D := D) (ci := 1) (v := .ref (a 3)) (C := rn_A) (T := tf_A) (N := 2) hx hb hts in_A hown hK hP 1 rfl rfl 1 (by decide) (hts _ k_fieldLink_rn_A_15_rn_A_pieces_I) (fun _ h9 => h9) rfl d_A_piecesWith_14 ?_
        refine lv_iload_n hx hb d_A_piecesWith_17 rfl (lv_at hl 3 rfl) ?_
        refine rw_iald (v := (nI (Q (i)))) hx hb hK hP 3 0 rfl rfl (by omega) (by omega) (rfl) d_A_piecesWith_18 ?_
        refine lv_iload_n hx hb d_A_piecesWith_19 rfl (lv_at hl 1 rfl) ?_
        refine rw_and hx hb d_A_piecesWith_20 ?_
        refine rw_zeq (tgt := 27) hx hb d_A_piecesWith_21 (by decide) (Nat.lt_of_le_of_lt Nat.and_le_left (Nat.lt_trans (hG.lt i) (by decide))) (fun c_21 => ?_) (fun c_21 => ?_)
        · refine lv_iinc (v := (nI (i + 1))) (lv' := [(3, .int (nI (i + 1))), (0, .ref (a 1)), (1, .int (nI (b))), (2, .int (nI ((List.range i).countP (fun q => decide (Q q &&& b ≠ 0)))))]) hx hb d_A_piecesWith_27 hl (k := 3) rfl (nI_add _ _) (by decide) rfl (fun ls hl => ?_)
          refine lv_goto (tgt := 4) hx hb d_A_piecesWith_30 (by decide) ?_
          have hl : lv_has ls 4 [(3, .int (nI (i + 1))), (0, .ref (a 1)), (1, .int (nI (b))), (2, .int (nI ((List.range (i + 1)).countP (fun q => decide (Q q &&& b ≠ 0)))))] := by rw [rt_cnt_succ, if_neg (by simp [c_21])]; exact hl
          exact ih_4 (i + 1) (by omega) _ _ _ hP hS (lv_sub hl [1, 2, 3, 0] rfl)
        · refine lv_iinc (v := (nI (((List.range i).countP (fun q => decide (Q q &&& b ≠ 0))) + 1))) (lv' := [(2, .int (nI (((List.range i).countP (fun q => decide (Q q &&& b ≠ 0))) + 1))), (0, .ref (a 1)), (1, .int (nI (b))), (3, .int (nI (i)))]) hx hb d_A_piecesWith_24 hl (k := 2) rfl (nI_add _ _) (by decide) rfl (fun ls hl => ?_)
          refine lv_iinc (v := (nI (i + 1))) (lv' := [(3, .int (nI (i + 1))), (2, .int (nI (((List.range i).countP (fun q => decide (Q q &&& b ≠ 0))) + 1))), (0, .ref (a 1)), (1, .int (nI (b)))]) hx hb d_A_piecesWith_27 hl (k := 3) rfl (nI_add _ _) (by decide) rfl (fun ls hl => ?_)
          refine lv_goto (tgt := 4) hx hb d_A_piecesWith_30 (by decide) ?_
          have hl : lv_has ls 4 [(3, .int (nI (i + 1))), (2, .int (nI ((List.range (i + 1)).countP (fun q => decide (Q q &&& b ≠ 0))))), (0, .ref (a 1)), (1, .int (nI (b)))] := by rw [rt_cnt_succ, if_pos (by simp [c_21])]; exact hl
          exact ih_4 (i + 1) (by omega) _ _ _ hP hS (lv_sub hl [2, 3, 1, 0] rfl)
  exact LP_4 (6 * (w * h)) 0 (by omega) _ _ _ hP hS (lv_sub hl [2, 3, 1, 0] rfl)

set_option maxHeartbeats 4000000 in
set_option maxRecDepth 100000 in
theorem c_A_isLastOf (l : Launch) (D : va_G) (cI cZ : ClassId) (g a : Nat → Nat) (ha : xI a) (w h : Nat) (Q : Nat → Nat) (ff : Nat → Int32) (hd bl : Int32) (rs : Nat → Int32) (hs ts : Int32) (rc : Nat → Int32) (hc tc : Int32) (r z : Nat) (hG : rt_G w h Q) (hr0 : r < 12 * (w * h)) (hz : z < 8) : Met l y_A_isLastOf (.code y_A_isLastOf b_A_isLastOf 5 (some .boolean) :: tG) ({ frames := 3, cells := 0, slots := 0, locals := 64 }) (va_Pc [.ref (a 1), .int (nI (r)), .int (nI (z))] (wU D cI cZ g (xA a) (xw cI a w h Q ff hd bl rs hs ts rc hc tc))) (va_Qi (S := Unit) (fun x _ => x = rt_b (rt_la Q w h z r)) (wB D (fun (u : Unit) => (xw cI a w h Q ff hd bl rs hs ts rc hc tc))) (xA a)) 0 0 (xA a) := by
  refine Met.ofW (cc := b_A_isLastOf) (maxL := 5) (ret := (some .boolean)) (by decide) rfl ?_
  intro p e s m args below meth c s₁ B hml hv
  obtain ⟨rfl, hP, hK, hZ⟩ := hv
  have hx := B.exec
  have hb := B.bytes
  have hr := B.returns
  have hts : ∀ w ∈ tG, w.before _ s = true := fun w hw => atoms_spec (ws := .code y_A_isLastOf b_A_isLastOf 5 (some .boolean) :: tG) B.pre w (List.mem_cons_of_mem _ hw)
  have hown : s.vm.findClass rn_A = some m.cls := findClass_of_methodNamed B.named
  have hlocks := B.notSynchronized
  have hS : va_S (xA a) s.heap s.heap [] := va_S.rf
  have hD : va_D (xA a) (xw cI a w h Q ff hd bl rs hs ts rc hc tc) := x_D ha _ rfl
  have hP : va_P D vwCl (xw cI a w h Q ff hd bl rs hs ts rc hc tc) s.heap := hP
  have hl := lv_entry ([.ref (a 1), .int (nI (r)), .int (nI (z))]) (n := 5) (Nat.le_of_ble_eq_true rfl)
  rw [lg_entry_eq]
  generalize (lg_sl ([.ref (a 1), .int (nI (r)), .int (nI (z))]) ++ List.replicate (5 - (lg_sl ([.ref (a 1), .int (nI (r)), .int (nI (z))])).length) Slot.unset).toArray = ls at hl ⊢
  have hl : lv_has ls 5 [(0, .ref (a 1)), (1, .int (nI (r))), (2, .int (nI (z)))] := hl
  obtain ⟨hn1, hn⟩ := hG.n
  refine lv_aload_n hx hb d_A_isLastOf_0 rfl (lv_at hl 0 rfl) ?_
  refine lv_iload_n hx hb d_A_isLastOf_1 rfl (lv_at hl 1 rfl) ?_
  refine lv_iconst (v := (nI (2))) hx hb d_A_isLastOf_2 (by decide) ?_
  refine rw_div hx hb d_A_isLastOf_3 (by omega) (by omega) (by omega) ?_
  refine w_ci (As := [.int (nI (r / 2))]) (rest := []) ⟨hx, hb, hml, hown, hts⟩ (c_A_stationOf l D cI cZ g a ha w h Q ff hd bl rs hs ts rc hc tc (r / 2) hG (by omega)) (cwV 1 hts (t_gV k_methodLink_rn_A_42_y_A_stationOf k_instanceMethod_y_A_stationOf k_selects_rn_A_y_A_stationOf_y_A_stationOf k_initialized_rn_A k_code_y_A_stationOf_prog_3_method_7_code_2_some_int) rfl rfl rfl (by decide +kernel) ⟨Nat.le_of_ble_eq_true rfl, Nat.le_of_ble_eq_true rfl⟩) (va_recv hK hP (ci := 1) (q0 := 1) rfl rfl) hP hK hZ hS rfl hl.1 rfl (Nat.le_of_ble_eq_true rfl) d_A_isLastOf_4 ⟨Nat.zero_le _, Nat.zero_le _⟩ (fun r_4 u_4 H locs hw hP hS => ?_)
  subst hw
  have hP : va_P D vwCl (xw cI a w h Q ff hd bl rs hs ts rc hc tc) H := hP
  refine lv_iload_n hx hb d_A_isLastOf_7 rfl (lv_at hl 2 rfl) ?_
  refine lv_icmp_eq (tgt := 13) hx hb d_A_isLastOf_8 (by decide) (fun c_8 => ?_) (fun c_8 => ?_)
  · have hs1 := rt_st_eq (rt_ok_s hG.2.2 (r / 2)) hz c_8
    refine lv_iconst (v := (nI (0))) hx hb d_A_isLastOf_13 (by decide) ?_
    refine lv_istore_n (lv' := [(3, .int (nI (0))), (0, .ref (a 1)), (1, .int (nI (r))), (2, .int (nI (z)))]) hx hb d_A_isLastOf_14 rfl hl (by decide) rfl (fun ls hl => ?_)
    have LP_15 : ∀ (n_15 : Nat) (i : Nat), i + n_15 = 3 → (∀ f, f ∈ rt_px Q w h r i → rt_s Q (f / 2) ≠ z + 1) → ∀ (H : Heap) (locs : List Loc) (ls : Array Slot), va_P D vwCl (xw cI a w h Q ff hd bl rs hs ts rc hc tc) H → va_S (xA a) s.heap H locs → lv_has ls 5 [(0, .ref (a 1)), (1, .int (nI (r))), (2, .int (nI (z))), (3, .int (nI (i)))] → W p l e (headSpec (.code y_A_isLastOf b_A_isLastOf 5 (some .boolean) :: tG) ({ frames := 3, cells := 0, slots := 0, locals := 64 })).room s m ([.ref (a 1), .int (nI (r)), .int (nI (z))] : List Value).toArray below meth c H locs 0 0 (MQ below (va_Qi (S := Unit) (fun x _ => x = rt_b (rt_la Q w h z r)) (wB D (fun (u : Unit) => (xw cI a w h Q ff hd bl rs hs ts rc hc tc))) (xA a)) ([.ref (a 1), .int (nI (r)), .int (nI (z))] : List Value).toArray s 0 0 (xA a)) (F0 m 15 ls []) := by
      intro n_15
      induction n_15 with
      | zero =>
        intro i hrel_15 hI H locs ls hP hS hl
        have hD : va_D (xA a) (xw cI a w h Q ff hd bl rs hs ts rc hc tc) := x_D ha _ rfl
        refine lv_iload_n hx hb d_A_isLastOf_15 rfl (lv_at hl 3 rfl) ?_
        refine lv_iconst (v := (nI (3))) hx hb d_A_isLastOf_16 (by decide) ?_
        refine rw_cge (tgt := 57) hx hb d_A_isLastOf_17 (by decide) (by omega) (by omega) (fun c_17 => ?_) (fun c_17 => ?_)
        · refine lv_iconst (v := (nI (1))) hx hb d_A_isLastOf_57 (by decide) ?_
          exact w_zret (v := true) () hx hb hr hlocks hS hP (congrArg rt_b (rt_la_t hs1 (fun f hf => hI f (by rw [show i = 3 by omega]; exact hf))).symm) d_A_isLastOf_58
        · omega
      | succ n_15 ih_15 =>
        intro i hrel_15 hI H locs ls hP hS hl
        have hD : va_D (xA a) (xw cI a w h Q ff hd bl rs hs ts rc hc tc) := x_D ha _ rfl
        refine lv_iload_n hx hb d_A_isLastOf_15 rfl (lv_at hl 3 rfl) ?_
        refine lv_iconst (v := (nI (3))) hx hb d_A_isLastOf_16 (by decide) ?_
        refine rw_cge (tgt := 57) hx hb d_A_isLastOf_17 (by decide) (by omega) (by omega) (fun c_17 => ?_) (fun c_17 => ?_)
        · omega
        · refine lv_aload_n hx hb d_A_isLastOf_20 rfl (lv_at hl 0 rfl) ?_
          refine lv_iload_n hx hb d_A_isLastOf_21 rfl (lv_at hl 1 rfl) ?_
          refine lv_iload_n hx hb d_A_isLastOf_22 rfl (lv_at hl 3 rfl) ?_
          refine w_ci (As := [.int (nI (r)), .int (nI (i))]) (rest := []) ⟨hx, hb, hml, hown, hts⟩ (c_A_ahead l D cI cZ g a ha w h Q ff hd bl rs hs ts rc hc tc r i hG hr0 (by omega)) (cwV 2 hts (t_gV k_methodLink_rn_A_38_y_A_ahead k_instanceMethod_y_A_ahead k_selects_rn_A_y_A_ahead_y_A_ahead k_initialized_rn_A k_code_y_A_ahead_prog_3_method_14_code_5_some_int) rfl rfl rfl (by decide +kernel) ⟨Nat.le_of_ble_eq_true rfl, Nat.le_of_ble_eq_true rfl⟩) (va_recv hK hP (ci := 1) (q0 := 1) rfl rfl) hP hK hZ hS rfl hl.1 rfl (Nat.le_of_ble_eq_true rfl) d_A_isLastOf_23 ⟨Nat.zero_le _, Nat.zero_le _⟩ (fun r_23 u_23 H locs hw hP hS => ?_)
          subst hw
          have hP : va_P D vwCl (xw cI a w h Q ff hd bl rs hs ts rc hc tc) H := hP
          cases ho_26 : rt_ah w h r i with
          | none =>
            refine lv_istore (lv' := [(4, .int (-1)), (0, .ref (a 1)), (1, .int (nI (r))), (2, .int (nI (z))), (3, .int (nI (i)))]) hx hb d_A_isLastOf_26 hl (by decide) rfl (fun ls hl => ?_)
            refine lv_aload_n hx hb d_A_isLastOf_28 rfl (lv_at hl 1 rfl) ?_
            refine lv_iload hx hb d_A_isLastOf_29 (lv_at hl 0 rfl) ?_
            refine w_ci (As := [.int (-1)]) (rest := []) ⟨hx, hb, hml, hown, hts⟩ (c_A_isOpen l D cI cZ g a ha w h Q ff hd bl rs hs ts rc hc tc (-1) hG) (cwV 1 hts (t_gV k_methodLink_rn_A_45_y_A_isOpen k_instanceMethod_y_A_isOpen k_selects_rn_A_y_A_isOpen_y_A_isOpen k_initialized_rn_A k_code_y_A_isOpen_prog_3_method_11_code_2_some_boolean) rfl rfl rfl (by decide +kernel) ⟨Nat.le_of_ble_eq_true rfl, Nat.le_of_ble_eq_true rfl⟩) (va_recv hK hP (ci := 1) (q0 := 1) rfl rfl) hP hK hZ hS rfl hl.1 rfl (Nat.le_of_ble_eq_true rfl) d_A_isLastOf_31 ⟨Nat.zero_le _, Nat.zero_le _⟩ (fun r_31 u_31 H locs hw hP hS => ?_)
            subst hw
            have hP : va_P D vwCl (xw cI a w h Q ff hd bl rs hs ts rc hc tc) H := hP
            rw [rt_opx_n (Or.inl (by decide))]
            refine rw_beq (tgt := 51) hx hb d_A_isLastOf_34 (by decide) (fun c_34 => ?_) (fun c_34 => ?_)
            · refine lv_iinc (v := (nI (i + 1))) (lv' := [(3, .int (nI (i + 1))), (4, .int (-1)), (0, .ref (a 1)), (1, .int (nI (r))), (2, .int (nI (z)))]) hx hb d_A_isLastOf_51 hl (k := 4) rfl (nI_add _ _) (by decide) rfl (fun ls hl => ?_)
              refine lv_goto (tgt := 15) hx hb d_A_isLastOf_54 (by decide) ?_
              exact ih_15 (i + 1) (by omega) (by rw [rt_px_succ, ho_26]; simpa [rt_one] using hI) _ _ _ hP hS (lv_sub hl [2, 3, 4, 0] rfl)
            · cases c_34
          | some f =>
            have hf := (rt_ah_back (by have := hG.1.1; omega) hr0 (by omega) ho_26).1
            refine lv_istore (lv' := [(4, .int (nI (f))), (0, .ref (a 1)), (1, .int (nI (r))), (2, .int (nI (z))), (3, .int (nI (i)))]) hx hb d_A_isLastOf_26 hl (by decide) rfl (fun ls hl => ?_)
            refine lv_aload_n hx hb d_A_isLastOf_28 rfl (lv_at hl 1 rfl) ?_
            refine lv_iload hx hb d_A_isLastOf_29 (lv_at hl 0 rfl) ?_
            refine w_ci (As := [.int (nI (f))]) (rest := []) ⟨hx, hb, hml, hown, hts⟩ (c_A_isOpen l D cI cZ g a ha w h Q ff hd bl rs hs ts rc hc tc (nI (f)) hG) (cwV 1 hts (t_gV k_methodLink_rn_A_45_y_A_isOpen k_instanceMethod_y_A_isOpen k_selects_rn_A_y_A_isOpen_y_A_isOpen k_initialized_rn_A k_code_y_A_isOpen_prog_3_method_11_code_2_some_boolean) rfl rfl rfl (by decide +kernel) ⟨Nat.le_of_ble_eq_true rfl, Nat.le_of_ble_eq_true rfl⟩) (va_recv hK hP (ci := 1) (q0 := 1) rfl rfl) hP hK hZ hS rfl hl.1 rfl (Nat.le_of_ble_eq_true rfl) d_A_isLastOf_31 ⟨Nat.zero_le _, Nat.zero_le _⟩ (fun r_31 u_31 H locs hw hP hS => ?_)
            subst hw
            have hP : va_P D vwCl (xw cI a w h Q ff hd bl rs hs ts rc hc tc) H := hP
            rw [rt_opx_s (by omega) hf]
            refine rw_beq (tgt := 51) hx hb d_A_isLastOf_34 (by decide) (fun c_34 => ?_) (fun c_34 => ?_)
            · refine lv_iinc (v := (nI (i + 1))) (lv' := [(3, .int (nI (i + 1))), (4, .int (nI (f))), (0, .ref (a 1)), (1, .int (nI (r))), (2, .int (nI (z)))]) hx hb d_A_isLastOf_51 hl (k := 4) rfl (nI_add _ _) (by decide) rfl (fun ls hl => ?_)
              refine lv_goto (tgt := 15) hx hb d_A_isLastOf_54 (by decide) ?_
              exact ih_15 (i + 1) (by omega) (by rw [rt_px_succ, ho_26]; exact rt_la_s hI (fun _ => by first | (rw [c_34] at *; contradiction) | exact fun q => c_46 (rt_st_mk q))) _ _ _ hP hS (lv_sub hl [2, 3, 4, 0] rfl)
            · refine lv_aload_n hx hb d_A_isLastOf_37 rfl (lv_at hl 1 rfl) ?_
              refine lv_iload hx hb d_A_isLastOf_38 (lv_at hl 0 rfl) ?_
              refine lv_iconst (v := (nI (2))) hx hb d_A_isLastOf_40 (by decide) ?_
              refine rw_div hx hb d_A_isLastOf_41 (by omega) (by omega) (by omega) ?_
              refine w_ci (As := [.int (nI (f / 2))]) (rest := []) ⟨hx, hb, hml, hown, hts⟩ (c_A_stationOf l D cI cZ g a ha w h Q ff hd bl rs hs ts rc hc tc (f / 2) hG (by omega)) (cwV 1 hts (t_gV k_methodLink_rn_A_42_y_A_stationOf k_instanceMethod_y_A_stationOf k_selects_rn_A_y_A_stationOf_y_A_stationOf k_initialized_rn_A k_code_y_A_stationOf_prog_3_method_7_code_2_some_int) rfl rfl rfl (by decide +kernel) ⟨Nat.le_of_ble_eq_true rfl, Nat.le_of_ble_eq_true rfl⟩) (va_recv hK hP (ci := 1) (q0 := 1) rfl rfl) hP hK hZ hS rfl hl.1 rfl (Nat.le_of_ble_eq_true rfl) d_A_isLastOf_42 ⟨Nat.zero_le _, Nat.zero_le _⟩ (fun r_42 u_42 H locs hw hP hS => ?_)
              subst hw
              have hP : va_P D vwCl (xw cI a w h Q ff hd bl rs hs ts rc hc tc) H := hP
              refine lv_iload_n hx hb d_A_isLastOf_45 rfl (lv_at hl 3 rfl) ?_
              refine lv_icmp_ne (tgt := 51) hx hb d_A_isLastOf_46 (by decide) (fun c_46 => ?_) (fun c_46 => ?_)
              · refine lv_iinc (v := (nI (i + 1))) (lv' := [(3, .int (nI (i + 1))), (4, .int (nI (f))), (0, .ref (a 1)), (1, .int (nI (r))), (2, .int (nI (z)))]) hx hb d_A_isLastOf_51 hl (k := 4) rfl (nI_add _ _) (by decide) rfl (fun ls hl => ?_)
                refine lv_goto (tgt := 15) hx hb d_A_isLastOf_54 (by decide) ?_
                exact ih_15 (i + 1) (by omega) (by rw [rt_px_succ, ho_26]; exact rt_la_s hI (fun _ => by first | (rw [c_34] at *; contradiction) | exact fun q => c_46 (rt_st_mk q))) _ _ _ hP hS (lv_sub hl [2, 3, 4, 0] rfl)
              · refine lv_iconst (v := (nI (0))) hx hb d_A_isLastOf_49 (by decide) ?_
                exact w_zret (v := false) () hx hb hr hlocks hS hP (congrArg rt_b (rt_la_n (f := f) (rt_mem_nx.mpr ⟨i, by omega, ho_26, c_34⟩) (rt_st_eq (rt_ok_s hG.2.2 (f / 2)) hz c_46)).symm) d_A_isLastOf_50
    exact LP_15 3 0 (by omega) (fun f hf => by cases hf) _ _ _ hP hS (lv_sub hl [1, 2, 3, 0] rfl)
  · refine lv_iconst (v := (nI (0))) hx hb d_A_isLastOf_11 (by decide) ?_
    exact w_zret (v := false) () hx hb hr hlocks hS hP (congrArg rt_b (rt_la_f (fun q => c_8 (rt_st_mk q))).symm) d_A_isLastOf_12
end
section
/-! Queue: by program (wip/whole/gen/queue.py) -/
set_option maxHeartbeats 4000000 in
set_option maxRecDepth 100000 in
theorem c_Q_clear_s (l : Launch) (D : va_G) (cI cZ : ClassId) (g a : Nat → Nat) (ha : xI a) (w h : Nat) (Q : Nat → Nat) (ff : Nat → Int32) (hd bl : Int32) (rs : Nat → Int32) (hs ts : Int32) (rc : Nat → Int32) (hc tc : Int32)  (hG : rt_G w h Q) : Met l y_Q_clear (.code y_Q_clear b_Q_clear 1 none :: tG) ({ frames := 0, cells := 0, slots := 0, locals := 0 }) (va_Pc [.ref (a 6)] (wU D cI cZ g (xA a) (xw cI a w h Q ff hd bl rs hs ts rc hc tc))) (va_Qv (S := Unit) (fun _ => True) (wB D (fun (u : Unit) => (xw cI a w h Q ff hd bl rs (nI (0)) (nI (0)) rc hc tc))) (xA a)) 0 0 (xA a) := by
  refine Met.ofW (cc := b_Q_clear) (maxL := 1) (ret := none) (by decide) rfl ?_
  intro p e s m args below meth c s₁ B hml hv
  obtain ⟨rfl, hP, hK, hZ⟩ := hv
  have hx := B.exec
  have hb := B.bytes
  have hr := B.returns
  have hts : ∀ w ∈ tG, w.before _ s = true := fun w hw => atoms_spec (ws := .code y_Q_clear b_Q_clear 1 none :: tG) B.pre w (List.mem_cons_of_mem _ hw)
  have hown : s.vm.findClass rn_Q = some m.cls := findClass_of_methodNamed B.named
  have hlocks := B.notSynchronized
  have hS : va_S (xA a) s.heap s.heap [] := va_S.rf
  have hD : va_D (xA a) (xw cI a w h Q ff hd bl rs hs ts rc hc tc) := x_D ha _ rfl
  have hP : va_P D vwCl (xw cI a w h Q ff hd bl rs hs ts rc hc tc) s.heap := hP
  have hl := lv_entry ([.ref (a 6)]) (n := 1) (Nat.le_of_ble_eq_true rfl)
  rw [lg_entry_eq]
  generalize (lg_sl ([.ref (a 6)]) ++ List.replicate (1 - (lg_sl ([.ref (a 6)])).length) Slot.unset).toArray = ls at hl ⊢
  have hl : lv_has ls 1 [(0, .ref (a 6))] := hl
  obtain ⟨hn1, hn⟩ := hG.n
  refine lv_aload_n hx hb d_Q_clear_0 rfl (lv_at hl 0 rfl) ?_
  refine lv_iconst (v := (nI (0))) hx hb d_Q_clear_1 (by decide) ?_
  refine va_put (D := D) (ci := 0) (v := .int (nI (0))) (ty := .int) (C := rn_Q) (T := tf_Q) (N := 3) hx hb hts in_Q tt_Q tt_Q_ok nm_Q hown hK hP hD hS 6 rfl rfl 1 (by decide) (hts _ k_fieldLink_rn_Q_21_rn_Q_head_I) (fun _ h9 => h9) rfl (by decide +kernel) rfl rfl (Nat.le_of_ble_eq_true rfl) d_Q_clear_2 (fun H locs hP hD hS => ?_)
  have hP : va_P D vwCl (xw cI a w h Q ff hd bl rs (nI (0)) ts rc hc tc) H := hP
  have hD : va_D (xA a) (xw cI a w h Q ff hd bl rs (nI (0)) ts rc hc tc) := x_D ha _ rfl
  refine lv_aload_n hx hb d_Q_clear_5 rfl (lv_at hl 0 rfl) ?_
  refine lv_iconst (v := (nI (0))) hx hb d_Q_clear_6 (by decide) ?_
  refine va_put (D := D) (ci := 0) (v := .int (nI (0))) (ty := .int) (C := rn_Q) (T := tf_Q) (N := 3) hx hb hts in_Q tt_Q tt_Q_ok nm_Q hown hK hP hD hS 6 rfl rfl 2 (by decide) (hts _ k_fieldLink_rn_Q_25_rn_Q_tail_I) (fun _ h9 => h9) rfl (by decide +kernel) rfl rfl (Nat.le_of_ble_eq_true rfl) d_Q_clear_7 (fun H locs hP hD hS => ?_)
  have hP : va_P D vwCl (xw cI a w h Q ff hd bl rs (nI (0)) (nI (0)) rc hc tc) H := hP
  have hD : va_D (xA a) (xw cI a w h Q ff hd bl rs (nI (0)) (nI (0)) rc hc tc) := x_D ha _ rfl
  exact w_vret () hx hb hr hlocks hS hP (trivial) d_Q_clear_10

set_option maxHeartbeats 4000000 in
set_option maxRecDepth 100000 in
theorem c_Q_isEmpty_s (l : Launch) (D : va_G) (cI cZ : ClassId) (g a : Nat → Nat) (ha : xI a) (w h : Nat) (Q : Nat → Nat) (ff : Nat → Int32) (hd bl : Int32) (rs : Nat → Int32) (hs ts : Int32) (rc : Nat → Int32) (hc tc : Int32) (R : Nat → Nat) (x y : Nat) (hG : rt_G w h Q) (hx0 : x < 2 ^ 31) (hy0 : y < 2 ^ 31) : Met l y_Q_isEmpty (.code y_Q_isEmpty b_Q_isEmpty 1 (some .boolean) :: tG) ({ frames := 0, cells := 0, slots := 0, locals := 0 }) (va_Pc [.ref (a 6)] (wU D cI cZ g (xA a) (xw cI a w h Q ff hd bl (fun j => nI (R j)) (nI (x)) (nI (y)) rc hc tc))) (va_Qi (S := Unit) (fun r _ => r = rt_b (decide (y ≤ x))) (wB D (fun (u : Unit) => (xw cI a w h Q ff hd bl (fun j => nI (R j)) (nI (x)) (nI (y)) rc hc tc))) (xA a)) 0 0 (xA a) := by
  refine Met.ofW (cc := b_Q_isEmpty) (maxL := 1) (ret := (some .boolean)) (by decide) rfl ?_
  intro p e s m args below meth c s₁ B hml hv
  obtain ⟨rfl, hP, hK, hZ⟩ := hv
  have hx := B.exec
  have hb := B.bytes
  have hr := B.returns
  have hts : ∀ w ∈ tG, w.before _ s = true := fun w hw => atoms_spec (ws := .code y_Q_isEmpty b_Q_isEmpty 1 (some .boolean) :: tG) B.pre w (List.mem_cons_of_mem _ hw)
  have hown : s.vm.findClass rn_Q = some m.cls := findClass_of_methodNamed B.named
  have hlocks := B.notSynchronized
  have hS : va_S (xA a) s.heap s.heap [] := va_S.rf
  have hD : va_D (xA a) (xw cI a w h Q ff hd bl (fun j => nI (R j)) (nI (x)) (nI (y)) rc hc tc) := x_D ha _ rfl
  have hP : va_P D vwCl (xw cI a w h Q ff hd bl (fun j => nI (R j)) (nI (x)) (nI (y)) rc hc tc) s.heap := hP
  have hl := lv_entry ([.ref (a 6)]) (n := 1) (Nat.le_of_ble_eq_true rfl)
  rw [lg_entry_eq]
  generalize (lg_sl ([.ref (a 6)]) ++ List.replicate (1 - (lg_sl ([.ref (a 6)])).length) Slot.unset).toArray = ls at hl ⊢
  have hl : lv_has ls 1 [(0, .ref (a 6))] := hl
  obtain ⟨hn1, hn⟩ := hG.n
  refine lv_aload_n hx hb d_Q_isEmpty_0 rfl (lv_at hl 0 rfl) ?_
  refine va_get (D := D) (ci := 0) (v := .int ((nI (x)))) (C := rn_Q) (T := tf_Q) (N := 3) hx hb hts in_Q hown hK hP 6 rfl rfl 1 (by decide) (hts _ k_fieldLink_rn_Q_21_rn_Q_head_I) (fun _ h9 => h9) rfl d_Q_isEmpty_1 ?_
  refine lv_aload_n hx hb d_Q_isEmpty_4 rfl (lv_at hl 0 rfl) ?_
  refine va_get (D := D) (ci := 0) (v := .int ((nI (y)))) (C := rn_Q) (T := tf_Q) (N := 3) hx hb hts in_Q hown hK hP 6 rfl rfl 2 (by decide) (hts _ k_fieldLink_rn_Q_25_rn_Q_tail_I) (fun _ h9 => h9) rfl d_Q_isEmpty_5 ?_
  refine rw_clt (tgt := 15) hx hb d_Q_isEmpty_8 (by decide) hx0 hy0 (fun c_8 => ?_) (fun c_8 => ?_)
  · refine lv_iconst (v := (nI (0))) hx hb d_Q_isEmpty_15 (by decide) ?_
    exact w_zret (v := false) () hx hb hr hlocks hS hP (congrArg rt_b (by simp; omega)) d_Q_isEmpty_16
  · refine lv_iconst (v := (nI (1))) hx hb d_Q_isEmpty_11 (by decide) ?_
    refine lv_goto (tgt := 16) hx hb d_Q_isEmpty_12 (by decide) ?_
    exact w_zret (v := true) () hx hb hr hlocks hS hP (congrArg rt_b (by simp; omega)) d_Q_isEmpty_16

set_option maxHeartbeats 4000000 in
set_option maxRecDepth 100000 in
theorem c_Q_add_s (l : Launch) (D : va_G) (cI cZ : ClassId) (g a : Nat → Nat) (ha : xI a) (w h : Nat) (Q : Nat → Nat) (ff : Nat → Int32) (hd bl : Int32) (rs : Nat → Int32) (hs ts : Int32) (rc : Nat → Int32) (hc tc : Int32) (R : Nat → Nat) (x y : Nat) (k : Nat) (hG : rt_G w h Q) (hy0 : y < 4 * (w * h)) : Met l y_Q_add (.code y_Q_add b_Q_add 2 none :: tG) ({ frames := 0, cells := 0, slots := 0, locals := 0 }) (va_Pc [.ref (a 6), .int (nI (k))] (wU D cI cZ g (xA a) (xw cI a w h Q ff hd bl (fun j => nI (R j)) (nI (x)) (nI (y)) rc hc tc))) (va_Qv (S := Unit) (fun _ => True) (wB D (fun (u : Unit) => (xw cI a w h Q ff hd bl (fun j => nI (va_up R y k j)) (nI (x)) (nI (y + 1)) rc hc tc))) (xA a)) 0 0 (xA a) := by
  refine Met.ofW (cc := b_Q_add) (maxL := 2) (ret := none) (by decide) rfl ?_
  intro p e s m args below meth c s₁ B hml hv
  obtain ⟨rfl, hP, hK, hZ⟩ := hv
  have hx := B.exec
  have hb := B.bytes
  have hr := B.returns
  have hts : ∀ w ∈ tG, w.before _ s = true := fun w hw => atoms_spec (ws := .code y_Q_add b_Q_add 2 none :: tG) B.pre w (List.mem_cons_of_mem _ hw)
  have hown : s.vm.findClass rn_Q = some m.cls := findClass_of_methodNamed B.named
  have hlocks := B.notSynchronized
  have hS : va_S (xA a) s.heap s.heap [] := va_S.rf
  have hD : va_D (xA a) (xw cI a w h Q ff hd bl (fun j => nI (R j)) (nI (x)) (nI (y)) rc hc tc) := x_D ha _ rfl
  have hP : va_P D vwCl (xw cI a w h Q ff hd bl (fun j => nI (R j)) (nI (x)) (nI (y)) rc hc tc) s.heap := hP
  have hl := lv_entry ([.ref (a 6), .int (nI (k))]) (n := 2) (Nat.le_of_ble_eq_true rfl)
  rw [lg_entry_eq]
  generalize (lg_sl ([.ref (a 6), .int (nI (k))]) ++ List.replicate (2 - (lg_sl ([.ref (a 6), .int (nI (k))])).length) Slot.unset).toArray = ls at hl ⊢
  have hl : lv_has ls 2 [(0, .ref (a 6)), (1, .int (nI (k)))] := hl
  obtain ⟨hn1, hn⟩ := hG.n
  refine lv_aload_n hx hb d_Q_add_0 rfl (lv_at hl 0 rfl) ?_
  refine va_get (D := D) (ci := 0) (v := .int ((nI (y)))) (C := rn_Q) (T := tf_Q) (N := 3) hx hb hts in_Q hown hK hP 6 rfl rfl 2 (by decide) (hts _ k_fieldLink_rn_Q_25_rn_Q_tail_I) (fun _ h9 => h9) rfl d_Q_add_1 ?_
  refine lv_aload_n hx hb d_Q_add_4 rfl (lv_at hl 0 rfl) ?_
  refine va_get (D := D) (ci := 0) (v := .ref (a 7)) (C := rn_Q) (T := tf_Q) (N := 3) hx hb hts in_Q hown hK hP 6 rfl rfl 0 (by decide) (hts _ k_fieldLink_rn_Q_15_rn_Q_row_I) (fun _ h9 => h9) rfl d_Q_add_5 ?_
  refine va_alen (v := nI (4 * (w * h))) hx hb hK hP 7 0 rfl rfl rfl d_Q_add_8 ?_
  refine rw_cge (tgt := 32) hx hb d_Q_add_9 (by decide) (by omega) (by omega) (fun c_9 => ?_) (fun c_9 => ?_)
  · omega
  · refine lv_aload_n hx hb d_Q_add_12 rfl (lv_at hl 0 rfl) ?_
    refine va_get (D := D) (ci := 0) (v := .ref (a 7)) (C := rn_Q) (T := tf_Q) (N := 3) hx hb hts in_Q hown hK hP 6 rfl rfl 0 (by decide) (hts _ k_fieldLink_rn_Q_15_rn_Q_row_I) (fun _ h9 => h9) rfl d_Q_add_13 ?_
    refine lv_aload_n hx hb d_Q_add_16 rfl (lv_at hl 0 rfl) ?_
    refine va_get (D := D) (ci := 0) (v := .int ((nI (y)))) (C := rn_Q) (T := tf_Q) (N := 3) hx hb hts in_Q hown hK hP 6 rfl rfl 2 (by decide) (hts _ k_fieldLink_rn_Q_25_rn_Q_tail_I) (fun _ h9 => h9) rfl d_Q_add_17 ?_
    refine lv_iload_n hx hb d_Q_add_20 rfl (lv_at hl 1 rfl) ?_
    refine rw_iast (h := (fun j => nI (va_up R y k j))) hx hb hK hP hD hS 7 0 rfl rfl (by omega) (by omega) (fun j _ => rt_upd R y k j) d_Q_add_21 (fun H locs hP hD hS => ?_)
    have hP : va_P D vwCl (xw cI a w h Q ff hd bl (fun j => nI (va_up R y k j)) (nI (x)) (nI (y)) rc hc tc) H := hP
    have hD : va_D (xA a) (xw cI a w h Q ff hd bl (fun j => nI (va_up R y k j)) (nI (x)) (nI (y)) rc hc tc) := x_D ha _ rfl
    refine lv_aload_n hx hb d_Q_add_22 rfl (lv_at hl 0 rfl) ?_
    refine lv_dup hx hb d_Q_add_23 rfl ?_
    refine va_get (D := D) (ci := 0) (v := .int ((nI (y)))) (C := rn_Q) (T := tf_Q) (N := 3) hx hb hts in_Q hown hK hP 6 rfl rfl 2 (by decide) (hts _ k_fieldLink_rn_Q_25_rn_Q_tail_I) (fun _ h9 => h9) rfl d_Q_add_24 ?_
    refine lv_iconst (v := (nI (1))) hx hb d_Q_add_27 (by decide) ?_
    refine lv_iadd hx hb d_Q_add_28 ?_
    refine rw_topI (b := (nI (y + 1))) (nI_add y 1) ?_
    refine va_put (D := D) (ci := 0) (v := .int (nI (y + 1))) (ty := .int) (C := rn_Q) (T := tf_Q) (N := 3) hx hb hts in_Q tt_Q tt_Q_ok nm_Q hown hK hP hD hS 6 rfl rfl 2 (by decide) (hts _ k_fieldLink_rn_Q_25_rn_Q_tail_I) (fun _ h9 => h9) rfl (by decide +kernel) rfl rfl (Nat.le_of_ble_eq_true rfl) d_Q_add_29 (fun H locs hP hD hS => ?_)
    have hP : va_P D vwCl (xw cI a w h Q ff hd bl (fun j => nI (va_up R y k j)) (nI (x)) (nI (y + 1)) rc hc tc) H := hP
    have hD : va_D (xA a) (xw cI a w h Q ff hd bl (fun j => nI (va_up R y k j)) (nI (x)) (nI (y + 1)) rc hc tc) := x_D ha _ rfl
    exact w_vret () hx hb hr hlocks hS hP (trivial) d_Q_add_32

set_option maxHeartbeats 4000000 in
set_option maxRecDepth 100000 in
theorem c_Q_first_s (l : Launch) (D : va_G) (cI cZ : ClassId) (g a : Nat → Nat) (ha : xI a) (w h : Nat) (Q : Nat → Nat) (ff : Nat → Int32) (hd bl : Int32) (rs : Nat → Int32) (hs ts : Int32) (rc : Nat → Int32) (hc tc : Int32) (R : Nat → Nat) (x y : Nat) (hG : rt_G w h Q) (hx0 : x < 2 ^ 31) (hy0 : y ≤ 4 * (w * h)) : Met l y_Q_first (.code y_Q_first b_Q_first 1 (some .int) :: tG) ({ frames := 1, cells := 0, slots := 0, locals := 20 }) (va_Pc [.ref (a 6)] (wU D cI cZ g (xA a) (xw cI a w h Q ff hd bl (fun j => nI (R j)) (nI (x)) (nI (y)) rc hc tc))) (va_Qi (S := Unit) (fun r _ => r = rt_o (if x < y then some (R x) else none)) (wB D (fun (u : Unit) => (xw cI a w h Q ff hd bl (fun j => nI (R j)) (nI (x)) (nI (y)) rc hc tc))) (xA a)) 0 0 (xA a) := by
  refine Met.ofW (cc := b_Q_first) (maxL := 1) (ret := (some .int)) (by decide) rfl ?_
  intro p e s m args below meth c s₁ B hml hv
  obtain ⟨rfl, hP, hK, hZ⟩ := hv
  have hx := B.exec
  have hb := B.bytes
  have hr := B.returns
  have hts : ∀ w ∈ tG, w.before _ s = true := fun w hw => atoms_spec (ws := .code y_Q_first b_Q_first 1 (some .int) :: tG) B.pre w (List.mem_cons_of_mem _ hw)
  have hown : s.vm.findClass rn_Q = some m.cls := findClass_of_methodNamed B.named
  have hlocks := B.notSynchronized
  have hS : va_S (xA a) s.heap s.heap [] := va_S.rf
  have hD : va_D (xA a) (xw cI a w h Q ff hd bl (fun j => nI (R j)) (nI (x)) (nI (y)) rc hc tc) := x_D ha _ rfl
  have hP : va_P D vwCl (xw cI a w h Q ff hd bl (fun j => nI (R j)) (nI (x)) (nI (y)) rc hc tc) s.heap := hP
  have hl := lv_entry ([.ref (a 6)]) (n := 1) (Nat.le_of_ble_eq_true rfl)
  rw [lg_entry_eq]
  generalize (lg_sl ([.ref (a 6)]) ++ List.replicate (1 - (lg_sl ([.ref (a 6)])).length) Slot.unset).toArray = ls at hl ⊢
  have hl : lv_has ls 1 [(0, .ref (a 6))] := hl
  obtain ⟨hn1, hn⟩ := hG.n
  refine lv_aload_n hx hb d_Q_first_0 rfl (lv_at hl 0 rfl) ?_
  refine w_ci (As := []) (rest := []) ⟨hx, hb, hml, hown, hts⟩ (c_Q_isEmpty_s l D cI cZ g a ha w h Q ff hd bl (fun j => nI (R j)) (nI (x)) (nI (y)) rc hc tc R x y hG hx0 (by omega)) (cwV 0 hts (t_gV k_methodLink_rn_Q_28_y_Q_isEmpty k_instanceMethod_y_Q_isEmpty k_selects_rn_Q_y_Q_isEmpty_y_Q_isEmpty k_initialized_rn_Q k_code_y_Q_isEmpty_prog_2_method_3_code_1_some_boolean) rfl rfl rfl (by decide +kernel) ⟨Nat.le_of_ble_eq_true rfl, Nat.le_of_ble_eq_true rfl⟩) (va_recv hK hP (ci := 0) (q0 := 6) rfl rfl) hP hK hZ hS rfl hl.1 rfl (Nat.le_of_ble_eq_true rfl) d_Q_first_1 ⟨Nat.zero_le _, Nat.zero_le _⟩ (fun r_1 u_1 H locs hw hP hS => ?_)
  subst hw
  have hP : va_P D vwCl (xw cI a w h Q ff hd bl (fun j => nI (R j)) (nI (x)) (nI (y)) rc hc tc) H := hP
  refine rw_beq (tgt := 11) hx hb d_Q_first_4 (by decide) (fun c_4 => ?_) (fun c_4 => ?_)
  · refine lv_aload_n hx hb d_Q_first_11 rfl (lv_at hl 0 rfl) ?_
    refine va_get (D := D) (ci := 0) (v := .ref (a 7)) (C := rn_Q) (T := tf_Q) (N := 3) hx hb hts in_Q hown hK hP 6 rfl rfl 0 (by decide) (hts _ k_fieldLink_rn_Q_15_rn_Q_row_I) (fun _ h9 => h9) rfl d_Q_first_12 ?_
    refine lv_aload_n hx hb d_Q_first_15 rfl (lv_at hl 0 rfl) ?_
    refine va_get (D := D) (ci := 0) (v := .int ((nI (x)))) (C := rn_Q) (T := tf_Q) (N := 3) hx hb hts in_Q hown hK hP 6 rfl rfl 1 (by decide) (hts _ k_fieldLink_rn_Q_21_rn_Q_head_I) (fun _ h9 => h9) rfl d_Q_first_16 ?_
    refine rw_topI (b := (nI (x))) (rfl) ?_
    refine rw_iald (v := (nI (R x))) hx hb hK hP 7 0 rfl rfl (by have := of_decide_eq_false c_4; omega) (by omega) (rfl) d_Q_first_19 ?_
    exact w_iret () hx hb hr hlocks hS hP (by rw [if_pos (by have := of_decide_eq_false c_4; omega)]; rfl) d_Q_first_20
  · refine lv_iconst (v := (-1)) hx hb d_Q_first_7 (by decide) ?_
    refine lv_goto (tgt := 20) hx hb d_Q_first_8 (by decide) ?_
    exact w_iret () hx hb hr hlocks hS hP (by rw [if_neg (by have := of_decide_eq_true c_4; omega)]; rfl) d_Q_first_20

set_option maxHeartbeats 4000000 in
set_option maxRecDepth 100000 in
theorem c_Q_take_s (l : Launch) (D : va_G) (cI cZ : ClassId) (g a : Nat → Nat) (ha : xI a) (w h : Nat) (Q : Nat → Nat) (ff : Nat → Int32) (hd bl : Int32) (rs : Nat → Int32) (hs ts : Int32) (rc : Nat → Int32) (hc tc : Int32) (R : Nat → Nat) (x y : Nat) (hG : rt_G w h Q) (hx0 : x < 2 ^ 31) (hy0 : y ≤ 4 * (w * h)) : Met l y_Q_take (.code y_Q_take b_Q_take 2 (some .int) :: tG) ({ frames := 1, cells := 0, slots := 0, locals := 20 }) (va_Pc [.ref (a 6)] (wU D cI cZ g (xA a) (xw cI a w h Q ff hd bl (fun j => nI (R j)) (nI (x)) (nI (y)) rc hc tc))) (va_Qi (S := Nat) (fun r u => r = rt_o (if x < y then some (R x) else none) ∧ u = if x < y then x + 1 else x) (wB D (fun (u : Nat) => (xw cI a w h Q ff hd bl (fun j => nI (R j)) (nI (u)) (nI (y)) rc hc tc))) (xA a)) 0 0 (xA a) := by
  refine Met.ofW (cc := b_Q_take) (maxL := 2) (ret := (some .int)) (by decide) rfl ?_
  intro p e s m args below meth c s₁ B hml hv
  obtain ⟨rfl, hP, hK, hZ⟩ := hv
  have hx := B.exec
  have hb := B.bytes
  have hr := B.returns
  have hts : ∀ w ∈ tG, w.before _ s = true := fun w hw => atoms_spec (ws := .code y_Q_take b_Q_take 2 (some .int) :: tG) B.pre w (List.mem_cons_of_mem _ hw)
  have hown : s.vm.findClass rn_Q = some m.cls := findClass_of_methodNamed B.named
  have hlocks := B.notSynchronized
  have hS : va_S (xA a) s.heap s.heap [] := va_S.rf
  have hD : va_D (xA a) (xw cI a w h Q ff hd bl (fun j => nI (R j)) (nI (x)) (nI (y)) rc hc tc) := x_D ha _ rfl
  have hP : va_P D vwCl (xw cI a w h Q ff hd bl (fun j => nI (R j)) (nI (x)) (nI (y)) rc hc tc) s.heap := hP
  have hl := lv_entry ([.ref (a 6)]) (n := 2) (Nat.le_of_ble_eq_true rfl)
  rw [lg_entry_eq]
  generalize (lg_sl ([.ref (a 6)]) ++ List.replicate (2 - (lg_sl ([.ref (a 6)])).length) Slot.unset).toArray = ls at hl ⊢
  have hl : lv_has ls 2 [(0, .ref (a 6))] := hl
  obtain ⟨hn1, hn⟩ := hG.n
  refine lv_aload_n hx hb d_Q_take_0 rfl (lv_at hl 0 rfl) ?_
  refine w_ci (As := []) (rest := []) ⟨hx, hb, hml, hown, hts⟩ (c_Q_isEmpty_s l D cI cZ g a ha w h Q ff hd bl (fun j => nI (R j)) (nI (x)) (nI (y)) rc hc tc R x y hG hx0 (by omega)) (cwV 0 hts (t_gV k_methodLink_rn_Q_28_y_Q_isEmpty k_instanceMethod_y_Q_isEmpty k_selects_rn_Q_y_Q_isEmpty_y_Q_isEmpty k_initialized_rn_Q k_code_y_Q_isEmpty_prog_2_method_3_code_1_some_boolean) rfl rfl rfl (by decide +kernel) ⟨Nat.le_of_ble_eq_true rfl, Nat.le_of_ble_eq_true rfl⟩) (va_recv hK hP (ci := 0) (q0 := 6) rfl rfl) hP hK hZ hS rfl hl.1 rfl (Nat.le_of_ble_eq_true rfl) d_Q_take_1 ⟨Nat.zero_le _, Nat.zero_le _⟩ (fun r_1 u_1 H locs hw hP hS => ?_)
  subst hw
  have hP : va_P D vwCl (xw cI a w h Q ff hd bl (fun j => nI (R j)) (nI (x)) (nI (y)) rc hc tc) H := hP
  refine rw_beq (tgt := 9) hx hb d_Q_take_4 (by decide) (fun c_4 => ?_) (fun c_4 => ?_)
  · refine lv_aload_n hx hb d_Q_take_9 rfl (lv_at hl 0 rfl) ?_
    refine va_get (D := D) (ci := 0) (v := .ref (a 7)) (C := rn_Q) (T := tf_Q) (N := 3) hx hb hts in_Q hown hK hP 6 rfl rfl 0 (by decide) (hts _ k_fieldLink_rn_Q_15_rn_Q_row_I) (fun _ h9 => h9) rfl d_Q_take_10 ?_
    refine lv_aload_n hx hb d_Q_take_13 rfl (lv_at hl 0 rfl) ?_
    refine va_get (D := D) (ci := 0) (v := .int ((nI (x)))) (C := rn_Q) (T := tf_Q) (N := 3) hx hb hts in_Q hown hK hP 6 rfl rfl 1 (by decide) (hts _ k_fieldLink_rn_Q_21_rn_Q_head_I) (fun _ h9 => h9) rfl d_Q_take_14 ?_
    refine rw_topI (b := (nI (x))) (rfl) ?_
    refine rw_iald (v := (nI (R x))) hx hb hK hP 7 0 rfl rfl (by have := of_decide_eq_false c_4; omega) (by omega) (rfl) d_Q_take_17 ?_
    refine lv_istore_n (lv' := [(1, .int (nI (R x))), (0, .ref (a 6))]) hx hb d_Q_take_18 rfl hl (by decide) rfl (fun ls hl => ?_)
    refine lv_aload_n hx hb d_Q_take_19 rfl (lv_at hl 1 rfl) ?_
    refine lv_dup hx hb d_Q_take_20 rfl ?_
    refine va_get (D := D) (ci := 0) (v := .int ((nI (x)))) (C := rn_Q) (T := tf_Q) (N := 3) hx hb hts in_Q hown hK hP 6 rfl rfl 1 (by decide) (hts _ k_fieldLink_rn_Q_21_rn_Q_head_I) (fun _ h9 => h9) rfl d_Q_take_21 ?_
    refine lv_iconst (v := (nI (1))) hx hb d_Q_take_24 (by decide) ?_
    refine lv_iadd hx hb d_Q_take_25 ?_
    refine rw_topI (b := (nI (x + 1))) (nI_add x 1) ?_
    refine va_put (D := D) (ci := 0) (v := .int (nI (x + 1))) (ty := .int) (C := rn_Q) (T := tf_Q) (N := 3) hx hb hts in_Q tt_Q tt_Q_ok nm_Q hown hK hP hD hS 6 rfl rfl 1 (by decide) (hts _ k_fieldLink_rn_Q_21_rn_Q_head_I) (fun _ h9 => h9) rfl (by decide +kernel) rfl rfl (Nat.le_of_ble_eq_true rfl) d_Q_take_26 (fun H locs hP hD hS => ?_)
    have hP : va_P D vwCl (xw cI a w h Q ff hd bl (fun j => nI (R j)) (nI (x + 1)) (nI (y)) rc hc tc) H := hP
    have hD : va_D (xA a) (xw cI a w h Q ff hd bl (fun j => nI (R j)) (nI (x + 1)) (nI (y)) rc hc tc) := x_D ha _ rfl
    refine lv_iload_n hx hb d_Q_take_29 rfl (lv_at hl 0 rfl) ?_
    exact w_iret (x + 1) hx hb hr hlocks hS hP (by rw [if_pos (by have := of_decide_eq_false c_4; omega), if_pos (by have := of_decide_eq_false c_4; omega)]; exact ⟨rfl, rfl⟩) d_Q_take_30
  · refine lv_iconst (v := (-1)) hx hb d_Q_take_7 (by decide) ?_
    exact w_iret x hx hb hr hlocks hS hP (by rw [if_neg (by have := of_decide_eq_true c_4; omega), if_neg (by have := of_decide_eq_true c_4; omega)]; exact ⟨rfl, rfl⟩) d_Q_take_8

set_option maxHeartbeats 4000000 in
set_option maxRecDepth 100000 in
theorem c_Q_clear_c (l : Launch) (D : va_G) (cI cZ : ClassId) (g a : Nat → Nat) (ha : xI a) (w h : Nat) (Q : Nat → Nat) (ff : Nat → Int32) (hd bl : Int32) (rs : Nat → Int32) (hs ts : Int32) (rc : Nat → Int32) (hc tc : Int32)  (hG : rt_G w h Q) : Met l y_Q_clear (.code y_Q_clear b_Q_clear 1 none :: tG) ({ frames := 0, cells := 0, slots := 0, locals := 0 }) (va_Pc [.ref (a 8)] (wU D cI cZ g (xA a) (xw cI a w h Q ff hd bl rs hs ts rc hc tc))) (va_Qv (S := Unit) (fun _ => True) (wB D (fun (u : Unit) => (xw cI a w h Q ff hd bl rs hs ts rc (nI (0)) (nI (0))))) (xA a)) 0 0 (xA a) := by
  refine Met.ofW (cc := b_Q_clear) (maxL := 1) (ret := none) (by decide) rfl ?_
  intro p e s m args below meth c s₁ B hml hv
  obtain ⟨rfl, hP, hK, hZ⟩ := hv
  have hx := B.exec
  have hb := B.bytes
  have hr := B.returns
  have hts : ∀ w ∈ tG, w.before _ s = true := fun w hw => atoms_spec (ws := .code y_Q_clear b_Q_clear 1 none :: tG) B.pre w (List.mem_cons_of_mem _ hw)
  have hown : s.vm.findClass rn_Q = some m.cls := findClass_of_methodNamed B.named
  have hlocks := B.notSynchronized
  have hS : va_S (xA a) s.heap s.heap [] := va_S.rf
  have hD : va_D (xA a) (xw cI a w h Q ff hd bl rs hs ts rc hc tc) := x_D ha _ rfl
  have hP : va_P D vwCl (xw cI a w h Q ff hd bl rs hs ts rc hc tc) s.heap := hP
  have hl := lv_entry ([.ref (a 8)]) (n := 1) (Nat.le_of_ble_eq_true rfl)
  rw [lg_entry_eq]
  generalize (lg_sl ([.ref (a 8)]) ++ List.replicate (1 - (lg_sl ([.ref (a 8)])).length) Slot.unset).toArray = ls at hl ⊢
  have hl : lv_has ls 1 [(0, .ref (a 8))] := hl
  obtain ⟨hn1, hn⟩ := hG.n
  refine lv_aload_n hx hb d_Q_clear_0 rfl (lv_at hl 0 rfl) ?_
  refine lv_iconst (v := (nI (0))) hx hb d_Q_clear_1 (by decide) ?_
  refine va_put (D := D) (ci := 0) (v := .int (nI (0))) (ty := .int) (C := rn_Q) (T := tf_Q) (N := 3) hx hb hts in_Q tt_Q tt_Q_ok nm_Q hown hK hP hD hS 8 rfl rfl 1 (by decide) (hts _ k_fieldLink_rn_Q_21_rn_Q_head_I) (fun _ h9 => h9) rfl (by decide +kernel) rfl rfl (Nat.le_of_ble_eq_true rfl) d_Q_clear_2 (fun H locs hP hD hS => ?_)
  have hP : va_P D vwCl (xw cI a w h Q ff hd bl rs hs ts rc (nI (0)) tc) H := hP
  have hD : va_D (xA a) (xw cI a w h Q ff hd bl rs hs ts rc (nI (0)) tc) := x_D ha _ rfl
  refine lv_aload_n hx hb d_Q_clear_5 rfl (lv_at hl 0 rfl) ?_
  refine lv_iconst (v := (nI (0))) hx hb d_Q_clear_6 (by decide) ?_
  refine va_put (D := D) (ci := 0) (v := .int (nI (0))) (ty := .int) (C := rn_Q) (T := tf_Q) (N := 3) hx hb hts in_Q tt_Q tt_Q_ok nm_Q hown hK hP hD hS 8 rfl rfl 2 (by decide) (hts _ k_fieldLink_rn_Q_25_rn_Q_tail_I) (fun _ h9 => h9) rfl (by decide +kernel) rfl rfl (Nat.le_of_ble_eq_true rfl) d_Q_clear_7 (fun H locs hP hD hS => ?_)
  have hP : va_P D vwCl (xw cI a w h Q ff hd bl rs hs ts rc (nI (0)) (nI (0))) H := hP
  have hD : va_D (xA a) (xw cI a w h Q ff hd bl rs hs ts rc (nI (0)) (nI (0))) := x_D ha _ rfl
  exact w_vret () hx hb hr hlocks hS hP (trivial) d_Q_clear_10

set_option maxHeartbeats 4000000 in
set_option maxRecDepth 100000 in
theorem c_Q_isEmpty_c (l : Launch) (D : va_G) (cI cZ : ClassId) (g a : Nat → Nat) (ha : xI a) (w h : Nat) (Q : Nat → Nat) (ff : Nat → Int32) (hd bl : Int32) (rs : Nat → Int32) (hs ts : Int32) (rc : Nat → Int32) (hc tc : Int32) (R : Nat → Nat) (x y : Nat) (hG : rt_G w h Q) (hx0 : x < 2 ^ 31) (hy0 : y < 2 ^ 31) : Met l y_Q_isEmpty (.code y_Q_isEmpty b_Q_isEmpty 1 (some .boolean) :: tG) ({ frames := 0, cells := 0, slots := 0, locals := 0 }) (va_Pc [.ref (a 8)] (wU D cI cZ g (xA a) (xw cI a w h Q ff hd bl rs hs ts (fun j => nI (R j)) (nI (x)) (nI (y))))) (va_Qi (S := Unit) (fun r _ => r = rt_b (decide (y ≤ x))) (wB D (fun (u : Unit) => (xw cI a w h Q ff hd bl rs hs ts (fun j => nI (R j)) (nI (x)) (nI (y))))) (xA a)) 0 0 (xA a) := by
  refine Met.ofW (cc := b_Q_isEmpty) (maxL := 1) (ret := (some .boolean)) (by decide) rfl ?_
  intro p e s m args below meth c s₁ B hml hv
  obtain ⟨rfl, hP, hK, hZ⟩ := hv
  have hx := B.exec
  have hb := B.bytes
  have hr := B.returns
  have hts : ∀ w ∈ tG, w.before _ s = true := fun w hw => atoms_spec (ws := .code y_Q_isEmpty b_Q_isEmpty 1 (some .boolean) :: tG) B.pre w (List.mem_cons_of_mem _ hw)
  have hown : s.vm.findClass rn_Q = some m.cls := findClass_of_methodNamed B.named
  have hlocks := B.notSynchronized
  have hS : va_S (xA a) s.heap s.heap [] := va_S.rf
  have hD : va_D (xA a) (xw cI a w h Q ff hd bl rs hs ts (fun j => nI (R j)) (nI (x)) (nI (y))) := x_D ha _ rfl
  have hP : va_P D vwCl (xw cI a w h Q ff hd bl rs hs ts (fun j => nI (R j)) (nI (x)) (nI (y))) s.heap := hP
  have hl := lv_entry ([.ref (a 8)]) (n := 1) (Nat.le_of_ble_eq_true rfl)
  rw [lg_entry_eq]
  generalize (lg_sl ([.ref (a 8)]) ++ List.replicate (1 - (lg_sl ([.ref (a 8)])).length) Slot.unset).toArray = ls at hl ⊢
  have hl : lv_has ls 1 [(0, .ref (a 8))] := hl
  obtain ⟨hn1, hn⟩ := hG.n
  refine lv_aload_n hx hb d_Q_isEmpty_0 rfl (lv_at hl 0 rfl) ?_
  refine va_get (D := D) (ci := 0) (v := .int ((nI (x)))) (C := rn_Q) (T := tf_Q) (N := 3) hx hb hts in_Q hown hK hP 8 rfl rfl 1 (by decide) (hts _ k_fieldLink_rn_Q_21_rn_Q_head_I) (fun _ h9 => h9) rfl d_Q_isEmpty_1 ?_
  refine lv_aload_n hx hb d_Q_isEmpty_4 rfl (lv_at hl 0 rfl) ?_
  refine va_get (D := D) (ci := 0) (v := .int ((nI (y)))) (C := rn_Q) (T := tf_Q) (N := 3) hx hb hts in_Q hown hK hP 8 rfl rfl 2 (by decide) (hts _ k_fieldLink_rn_Q_25_rn_Q_tail_I) (fun _ h9 => h9) rfl d_Q_isEmpty_5 ?_
  refine rw_clt (tgt := 15) hx hb d_Q_isEmpty_8 (by decide) hx0 hy0 (fun c_8 => ?_) (fun c_8 => ?_)
  · refine lv_iconst (v := (nI (0))) hx hb d_Q_isEmpty_15 (by decide) ?_
    exact w_zret (v := false) () hx hb hr hlocks hS hP (congrArg rt_b (by simp; omega)) d_Q_isEmpty_16
  · refine lv_iconst (v := (nI (1))) hx hb d_Q_isEmpty_11 (by decide) ?_
    refine lv_goto (tgt := 16) hx hb d_Q_isEmpty_12 (by decide) ?_
    exact w_zret (v := true) () hx hb hr hlocks hS hP (congrArg rt_b (by simp; omega)) d_Q_isEmpty_16

set_option maxHeartbeats 4000000 in
set_option maxRecDepth 100000 in
theorem c_Q_add_c (l : Launch) (D : va_G) (cI cZ : ClassId) (g a : Nat → Nat) (ha : xI a) (w h : Nat) (Q : Nat → Nat) (ff : Nat → Int32) (hd bl : Int32) (rs : Nat → Int32) (hs ts : Int32) (rc : Nat → Int32) (hc tc : Int32) (R : Nat → Nat) (x y : Nat) (k : Nat) (hG : rt_G w h Q) (hy0 : y < 8 * (w * h)) : Met l y_Q_add (.code y_Q_add b_Q_add 2 none :: tG) ({ frames := 0, cells := 0, slots := 0, locals := 0 }) (va_Pc [.ref (a 8), .int (nI (k))] (wU D cI cZ g (xA a) (xw cI a w h Q ff hd bl rs hs ts (fun j => nI (R j)) (nI (x)) (nI (y))))) (va_Qv (S := Unit) (fun _ => True) (wB D (fun (u : Unit) => (xw cI a w h Q ff hd bl rs hs ts (fun j => nI (va_up R y k j)) (nI (x)) (nI (y + 1))))) (xA a)) 0 0 (xA a) := by
  refine Met.ofW (cc := b_Q_add) (maxL := 2) (ret := none) (by decide) rfl ?_
  intro p e s m args below meth c s₁ B hml hv
  obtain ⟨rfl, hP, hK, hZ⟩ := hv
  have hx := B.exec
  have hb := B.bytes
  have hr := B.returns
  have hts : ∀ w ∈ tG, w.before _ s = true := fun w hw => atoms_spec (ws := .code y_Q_add b_Q_add 2 none :: tG) B.pre w (List.mem_cons_of_mem _ hw)
  have hown : s.vm.findClass rn_Q = some m.cls := findClass_of_methodNamed B.named
  have hlocks := B.notSynchronized
  have hS : va_S (xA a) s.heap s.heap [] := va_S.rf
  have hD : va_D (xA a) (xw cI a w h Q ff hd bl rs hs ts (fun j => nI (R j)) (nI (x)) (nI (y))) := x_D ha _ rfl
  have hP : va_P D vwCl (xw cI a w h Q ff hd bl rs hs ts (fun j => nI (R j)) (nI (x)) (nI (y))) s.heap := hP
  have hl := lv_entry ([.ref (a 8), .int (nI (k))]) (n := 2) (Nat.le_of_ble_eq_true rfl)
  rw [lg_entry_eq]
  generalize (lg_sl ([.ref (a 8), .int (nI (k))]) ++ List.replicate (2 - (lg_sl ([.ref (a 8), .int (nI (k))])).length) Slot.unset).toArray = ls at hl ⊢
  have hl : lv_has ls 2 [(0, .ref (a 8)), (1, .int (nI (k)))] := hl
  obtain ⟨hn1, hn⟩ := hG.n
  refine lv_aload_n hx hb d_Q_add_0 rfl (lv_at hl 0 rfl) ?_
  refine va_get (D := D) (ci := 0) (v := .int ((nI (y)))) (C := rn_Q) (T := tf_Q) (N := 3) hx hb hts in_Q hown hK hP 8 rfl rfl 2 (by decide) (hts _ k_fieldLink_rn_Q_25_rn_Q_tail_I) (fun _ h9 => h9) rfl d_Q_add_1 ?_
  refine lv_aload_n hx hb d_Q_add_4 rfl (lv_at hl 0 rfl) ?_
  refine va_get (D := D) (ci := 0) (v := .ref (a 9)) (C := rn_Q) (T := tf_Q) (N := 3) hx hb hts in_Q hown hK hP 8 rfl rfl 0 (by decide) (hts _ k_fieldLink_rn_Q_15_rn_Q_row_I) (fun _ h9 => h9) rfl d_Q_add_5 ?_
  refine va_alen (v := nI (8 * (w * h))) hx hb hK hP 9 0 rfl rfl rfl d_Q_add_8 ?_
  refine rw_cge (tgt := 32) hx hb d_Q_add_9 (by decide) (by omega) (by omega) (fun c_9 => ?_) (fun c_9 => ?_)
  · omega
  · refine lv_aload_n hx hb d_Q_add_12 rfl (lv_at hl 0 rfl) ?_
    refine va_get (D := D) (ci := 0) (v := .ref (a 9)) (C := rn_Q) (T := tf_Q) (N := 3) hx hb hts in_Q hown hK hP 8 rfl rfl 0 (by decide) (hts _ k_fieldLink_rn_Q_15_rn_Q_row_I) (fun _ h9 => h9) rfl d_Q_add_13 ?_
    refine lv_aload_n hx hb d_Q_add_16 rfl (lv_at hl 0 rfl) ?_
    refine va_get (D := D) (ci := 0) (v := .int ((nI (y)))) (C := rn_Q) (T := tf_Q) (N := 3) hx hb hts in_Q hown hK hP 8 rfl rfl 2 (by decide) (hts _ k_fieldLink_rn_Q_25_rn_Q_tail_I) (fun _ h9 => h9) rfl d_Q_add_17 ?_
    refine lv_iload_n hx hb d_Q_add_20 rfl (lv_at hl 1 rfl) ?_
    refine rw_iast (h := (fun j => nI (va_up R y k j))) hx hb hK hP hD hS 9 0 rfl rfl (by omega) (by omega) (fun j _ => rt_upd R y k j) d_Q_add_21 (fun H locs hP hD hS => ?_)
    have hP : va_P D vwCl (xw cI a w h Q ff hd bl rs hs ts (fun j => nI (va_up R y k j)) (nI (x)) (nI (y))) H := hP
    have hD : va_D (xA a) (xw cI a w h Q ff hd bl rs hs ts (fun j => nI (va_up R y k j)) (nI (x)) (nI (y))) := x_D ha _ rfl
    refine lv_aload_n hx hb d_Q_add_22 rfl (lv_at hl 0 rfl) ?_
    refine lv_dup hx hb d_Q_add_23 rfl ?_
    refine va_get (D := D) (ci := 0) (v := .int ((nI (y)))) (C := rn_Q) (T := tf_Q) (N := 3) hx hb hts in_Q hown hK hP 8 rfl rfl 2 (by decide) (hts _ k_fieldLink_rn_Q_25_rn_Q_tail_I) (fun _ h9 => h9) rfl d_Q_add_24 ?_
    refine lv_iconst (v := (nI (1))) hx hb d_Q_add_27 (by decide) ?_
    refine lv_iadd hx hb d_Q_add_28 ?_
    refine rw_topI (b := (nI (y + 1))) (nI_add y 1) ?_
    refine va_put (D := D) (ci := 0) (v := .int (nI (y + 1))) (ty := .int) (C := rn_Q) (T := tf_Q) (N := 3) hx hb hts in_Q tt_Q tt_Q_ok nm_Q hown hK hP hD hS 8 rfl rfl 2 (by decide) (hts _ k_fieldLink_rn_Q_25_rn_Q_tail_I) (fun _ h9 => h9) rfl (by decide +kernel) rfl rfl (Nat.le_of_ble_eq_true rfl) d_Q_add_29 (fun H locs hP hD hS => ?_)
    have hP : va_P D vwCl (xw cI a w h Q ff hd bl rs hs ts (fun j => nI (va_up R y k j)) (nI (x)) (nI (y + 1))) H := hP
    have hD : va_D (xA a) (xw cI a w h Q ff hd bl rs hs ts (fun j => nI (va_up R y k j)) (nI (x)) (nI (y + 1))) := x_D ha _ rfl
    exact w_vret () hx hb hr hlocks hS hP (trivial) d_Q_add_32

set_option maxHeartbeats 4000000 in
set_option maxRecDepth 100000 in
theorem c_Q_first_c (l : Launch) (D : va_G) (cI cZ : ClassId) (g a : Nat → Nat) (ha : xI a) (w h : Nat) (Q : Nat → Nat) (ff : Nat → Int32) (hd bl : Int32) (rs : Nat → Int32) (hs ts : Int32) (rc : Nat → Int32) (hc tc : Int32) (R : Nat → Nat) (x y : Nat) (hG : rt_G w h Q) (hx0 : x < 2 ^ 31) (hy0 : y ≤ 8 * (w * h)) : Met l y_Q_first (.code y_Q_first b_Q_first 1 (some .int) :: tG) ({ frames := 1, cells := 0, slots := 0, locals := 20 }) (va_Pc [.ref (a 8)] (wU D cI cZ g (xA a) (xw cI a w h Q ff hd bl rs hs ts (fun j => nI (R j)) (nI (x)) (nI (y))))) (va_Qi (S := Unit) (fun r _ => r = rt_o (if x < y then some (R x) else none)) (wB D (fun (u : Unit) => (xw cI a w h Q ff hd bl rs hs ts (fun j => nI (R j)) (nI (x)) (nI (y))))) (xA a)) 0 0 (xA a) := by
  refine Met.ofW (cc := b_Q_first) (maxL := 1) (ret := (some .int)) (by decide) rfl ?_
  intro p e s m args below meth c s₁ B hml hv
  obtain ⟨rfl, hP, hK, hZ⟩ := hv
  have hx := B.exec
  have hb := B.bytes
  have hr := B.returns
  have hts : ∀ w ∈ tG, w.before _ s = true := fun w hw => atoms_spec (ws := .code y_Q_first b_Q_first 1 (some .int) :: tG) B.pre w (List.mem_cons_of_mem _ hw)
  have hown : s.vm.findClass rn_Q = some m.cls := findClass_of_methodNamed B.named
  have hlocks := B.notSynchronized
  have hS : va_S (xA a) s.heap s.heap [] := va_S.rf
  have hD : va_D (xA a) (xw cI a w h Q ff hd bl rs hs ts (fun j => nI (R j)) (nI (x)) (nI (y))) := x_D ha _ rfl
  have hP : va_P D vwCl (xw cI a w h Q ff hd bl rs hs ts (fun j => nI (R j)) (nI (x)) (nI (y))) s.heap := hP
  have hl := lv_entry ([.ref (a 8)]) (n := 1) (Nat.le_of_ble_eq_true rfl)
  rw [lg_entry_eq]
  generalize (lg_sl ([.ref (a 8)]) ++ List.replicate (1 - (lg_sl ([.ref (a 8)])).length) Slot.unset).toArray = ls at hl ⊢
  have hl : lv_has ls 1 [(0, .ref (a 8))] := hl
  obtain ⟨hn1, hn⟩ := hG.n
  refine lv_aload_n hx hb d_Q_first_0 rfl (lv_at hl 0 rfl) ?_
  refine w_ci (As := []) (rest := []) ⟨hx, hb, hml, hown, hts⟩ (c_Q_isEmpty_c l D cI cZ g a ha w h Q ff hd bl rs hs ts (fun j => nI (R j)) (nI (x)) (nI (y)) R x y hG hx0 (by omega)) (cwV 0 hts (t_gV k_methodLink_rn_Q_28_y_Q_isEmpty k_instanceMethod_y_Q_isEmpty k_selects_rn_Q_y_Q_isEmpty_y_Q_isEmpty k_initialized_rn_Q k_code_y_Q_isEmpty_prog_2_method_3_code_1_some_boolean) rfl rfl rfl (by decide +kernel) ⟨Nat.le_of_ble_eq_true rfl, Nat.le_of_ble_eq_true rfl⟩) (va_recv hK hP (ci := 0) (q0 := 8) rfl rfl) hP hK hZ hS rfl hl.1 rfl (Nat.le_of_ble_eq_true rfl) d_Q_first_1 ⟨Nat.zero_le _, Nat.zero_le _⟩ (fun r_1 u_1 H locs hw hP hS => ?_)
  subst hw
  have hP : va_P D vwCl (xw cI a w h Q ff hd bl rs hs ts (fun j => nI (R j)) (nI (x)) (nI (y))) H := hP
  refine rw_beq (tgt := 11) hx hb d_Q_first_4 (by decide) (fun c_4 => ?_) (fun c_4 => ?_)
  · refine lv_aload_n hx hb d_Q_first_11 rfl (lv_at hl 0 rfl) ?_
    refine va_get (D := D) (ci := 0) (v := .ref (a 9)) (C := rn_Q) (T := tf_Q) (N := 3) hx hb hts in_Q hown hK hP 8 rfl rfl 0 (by decide) (hts _ k_fieldLink_rn_Q_15_rn_Q_row_I) (fun _ h9 => h9) rfl d_Q_first_12 ?_
    refine lv_aload_n hx hb d_Q_first_15 rfl (lv_at hl 0 rfl) ?_
    refine va_get (D := D) (ci := 0) (v := .int ((nI (x)))) (C := rn_Q) (T := tf_Q) (N := 3) hx hb hts in_Q hown hK hP 8 rfl rfl 1 (by decide) (hts _ k_fieldLink_rn_Q_21_rn_Q_head_I) (fun _ h9 => h9) rfl d_Q_first_16 ?_
    refine rw_topI (b := (nI (x))) (rfl) ?_
    refine rw_iald (v := (nI (R x))) hx hb hK hP 9 0 rfl rfl (by have := of_decide_eq_false c_4; omega) (by omega) (rfl) d_Q_first_19 ?_
    exact w_iret () hx hb hr hlocks hS hP (by rw [if_pos (by have := of_decide_eq_false c_4; omega)]; rfl) d_Q_first_20
  · refine lv_iconst (v := (-1)) hx hb d_Q_first_7 (by decide) ?_
    refine lv_goto (tgt := 20) hx hb d_Q_first_8 (by decide) ?_
    exact w_iret () hx hb hr hlocks hS hP (by rw [if_neg (by have := of_decide_eq_true c_4; omega)]; rfl) d_Q_first_20

set_option maxHeartbeats 4000000 in
set_option maxRecDepth 100000 in
theorem c_Q_take_c (l : Launch) (D : va_G) (cI cZ : ClassId) (g a : Nat → Nat) (ha : xI a) (w h : Nat) (Q : Nat → Nat) (ff : Nat → Int32) (hd bl : Int32) (rs : Nat → Int32) (hs ts : Int32) (rc : Nat → Int32) (hc tc : Int32) (R : Nat → Nat) (x y : Nat) (hG : rt_G w h Q) (hx0 : x < 2 ^ 31) (hy0 : y ≤ 8 * (w * h)) : Met l y_Q_take (.code y_Q_take b_Q_take 2 (some .int) :: tG) ({ frames := 1, cells := 0, slots := 0, locals := 20 }) (va_Pc [.ref (a 8)] (wU D cI cZ g (xA a) (xw cI a w h Q ff hd bl rs hs ts (fun j => nI (R j)) (nI (x)) (nI (y))))) (va_Qi (S := Nat) (fun r u => r = rt_o (if x < y then some (R x) else none) ∧ u = if x < y then x + 1 else x) (wB D (fun (u : Nat) => (xw cI a w h Q ff hd bl rs hs ts (fun j => nI (R j)) (nI (u)) (nI (y))))) (xA a)) 0 0 (xA a) := by
  refine Met.ofW (cc := b_Q_take) (maxL := 2) (ret := (some .int)) (by decide) rfl ?_
  intro p e s m args below meth c s₁ B hml hv
  obtain ⟨rfl, hP, hK, hZ⟩ := hv
  have hx := B.exec
  have hb := B.bytes
  have hr := B.returns
  have hts : ∀ w ∈ tG, w.before _ s = true := fun w hw => atoms_spec (ws := .code y_Q_take b_Q_take 2 (some .int) :: tG) B.pre w (List.mem_cons_of_mem _ hw)
  have hown : s.vm.findClass rn_Q = some m.cls := findClass_of_methodNamed B.named
  have hlocks := B.notSynchronized
  have hS : va_S (xA a) s.heap s.heap [] := va_S.rf
  have hD : va_D (xA a) (xw cI a w h Q ff hd bl rs hs ts (fun j => nI (R j)) (nI (x)) (nI (y))) := x_D ha _ rfl
  have hP : va_P D vwCl (xw cI a w h Q ff hd bl rs hs ts (fun j => nI (R j)) (nI (x)) (nI (y))) s.heap := hP
  have hl := lv_entry ([.ref (a 8)]) (n := 2) (Nat.le_of_ble_eq_true rfl)
  rw [lg_entry_eq]
  generalize (lg_sl ([.ref (a 8)]) ++ List.replicate (2 - (lg_sl ([.ref (a 8)])).length) Slot.unset).toArray = ls at hl ⊢
  have hl : lv_has ls 2 [(0, .ref (a 8))] := hl
  obtain ⟨hn1, hn⟩ := hG.n
  refine lv_aload_n hx hb d_Q_take_0 rfl (lv_at hl 0 rfl) ?_
  refine w_ci (As := []) (rest := []) ⟨hx, hb, hml, hown, hts⟩ (c_Q_isEmpty_c l D cI cZ g a ha w h Q ff hd bl rs hs ts (fun j => nI (R j)) (nI (x)) (nI (y)) R x y hG hx0 (by omega)) (cwV 0 hts (t_gV k_methodLink_rn_Q_28_y_Q_isEmpty k_instanceMethod_y_Q_isEmpty k_selects_rn_Q_y_Q_isEmpty_y_Q_isEmpty k_initialized_rn_Q k_code_y_Q_isEmpty_prog_2_method_3_code_1_some_boolean) rfl rfl rfl (by decide +kernel) ⟨Nat.le_of_ble_eq_true rfl, Nat.le_of_ble_eq_true rfl⟩) (va_recv hK hP (ci := 0) (q0 := 8) rfl rfl) hP hK hZ hS rfl hl.1 rfl (Nat.le_of_ble_eq_true rfl) d_Q_take_1 ⟨Nat.zero_le _, Nat.zero_le _⟩ (fun r_1 u_1 H locs hw hP hS => ?_)
  subst hw
  have hP : va_P D vwCl (xw cI a w h Q ff hd bl rs hs ts (fun j => nI (R j)) (nI (x)) (nI (y))) H := hP
  refine rw_beq (tgt := 9) hx hb d_Q_take_4 (by decide) (fun c_4 => ?_) (fun c_4 => ?_)
  · refine lv_aload_n hx hb d_Q_take_9 rfl (lv_at hl 0 rfl) ?_
    refine va_get (D := D) (ci := 0) (v := .ref (a 9)) (C := rn_Q) (T := tf_Q) (N := 3) hx hb hts in_Q hown hK hP 8 rfl rfl 0 (by decide) (hts _ k_fieldLink_rn_Q_15_rn_Q_row_I) (fun _ h9 => h9) rfl d_Q_take_10 ?_
    refine lv_aload_n hx hb d_Q_take_13 rfl (lv_at hl 0 rfl) ?_
    refine va_get (D := D) (ci := 0) (v := .int ((nI (x)))) (C := rn_Q) (T := tf_Q) (N := 3) hx hb hts in_Q hown hK hP 8 rfl rfl 1 (by decide) (hts _ k_fieldLink_rn_Q_21_rn_Q_head_I) (fun _ h9 => h9) rfl d_Q_take_14 ?_
    refine rw_topI (b := (nI (x))) (rfl) ?_
    refine rw_iald (v := (nI (R x))) hx hb hK hP 9 0 rfl rfl (by have := of_decide_eq_false c_4; omega) (by omega) (rfl) d_Q_take_17 ?_
    refine lv_istore_n (lv' := [(1, .int (nI (R x))), (0, .ref (a 8))]) hx hb d_Q_take_18 rfl hl (by decide) rfl (fun ls hl => ?_)
    refine lv_aload_n hx hb d_Q_take_19 rfl (lv_at hl 1 rfl) ?_
    refine lv_dup hx hb d_Q_take_20 rfl ?_
    refine va_get (D := D) (ci := 0) (v := .int ((nI (x)))) (C := rn_Q) (T := tf_Q) (N := 3) hx hb hts in_Q hown hK hP 8 rfl rfl 1 (by decide) (hts _ k_fieldLink_rn_Q_21_rn_Q_head_I) (fun _ h9 => h9) rfl d_Q_take_21 ?_
    refine lv_iconst (v := (nI (1))) hx hb d_Q_take_24 (by decide) ?_
    refine lv_iadd hx hb d_Q_take_25 ?_
    refine rw_topI (b := (nI (x + 1))) (nI_add x 1) ?_
    refine va_put (D := D) (ci := 0) (v := .int (nI (x + 1))) (ty := .int) (C := rn_Q) (T := tf_Q) (N := 3) hx hb hts in_Q tt_Q tt_Q_ok nm_Q hown hK hP hD hS 8 rfl rfl 1 (by decide) (hts _ k_fieldLink_rn_Q_21_rn_Q_head_I) (fun _ h9 => h9) rfl (by decide +kernel) rfl rfl (Nat.le_of_ble_eq_true rfl) d_Q_take_26 (fun H locs hP hD hS => ?_)
    have hP : va_P D vwCl (xw cI a w h Q ff hd bl rs hs ts (fun j => nI (R j)) (nI (x + 1)) (nI (y))) H := hP
    have hD : va_D (xA a) (xw cI a w h Q ff hd bl rs hs ts (fun j => nI (R j)) (nI (x + 1)) (nI (y))) := x_D ha _ rfl
    refine lv_iload_n hx hb d_Q_take_29 rfl (lv_at hl 0 rfl) ?_
    exact w_iret (x + 1) hx hb hr hlocks hS hP (by rw [if_pos (by have := of_decide_eq_false c_4; omega), if_pos (by have := of_decide_eq_false c_4; omega)]; exact ⟨rfl, rfl⟩) d_Q_take_30
  · refine lv_iconst (v := (-1)) hx hb d_Q_take_7 (by decide) ?_
    exact w_iret x hx hb hr hlocks hS hP (by rw [if_neg (by have := of_decide_eq_true c_4; omega), if_neg (by have := of_decide_eq_true c_4; omega)]; exact ⟨rfl, rfl⟩) d_Q_take_8
end
section
/-! SMALL: rows of the world may be told by another function; what join does; a flood while one piece's neighbours are joined -/
theorem x_row {D : va_G} {cI : ClassId} {n q0 b : Nat} {f f' : Nat → Int32} {ws : va_W} {H : Heap} (e : ∀ j, j < n → f j = f' j) (hp : ws[q0]? = some (b, .inl (cI, n, .inl f))) (hP : va_P D vwCl ws H) : va_P D vwCl (ws.set q0 (b, .inl (cI, n, .inl f'))) H := by
  have hl : q0 < ws.length := (List.getElem?_eq_some_iff.mp hp).1
  intro k q hk
  by_cases hq : k = q0
  · subst hq
    rw [List.getElem?_set_self hl] at hk
    cases hk
    show H[b]? = some (vp_cell cI (n, .inl f'))
    rw [← rw_cell e]
    exact hP k _ hp
  · rw [List.getElem?_set_ne (fun z => hq z.symm)] at hk
    exact hP k q hk
theorem x_ff {D : va_G} {cI : ClassId} {a : Nat → Nat} {w h : Nat} {Q : Nat → Nat} {ff ff' : Nat → Int32} {hd bl : Int32} {rs : Nat → Int32} {hs ts : Int32} {rc : Nat → Int32} {hc tc : Int32} {H : Heap} (e : ∀ j, j < 12 * (w * h) → ff j = ff' j) (hP : va_P D vwCl (xw cI a w h Q ff hd bl rs hs ts rc hc tc) H) : va_P D vwCl (xw cI a w h Q ff' hd bl rs hs ts rc hc tc) H :=
  x_row (q0 := 5) e rfl hP
theorem rt_updo (F : Nat → Option Nat) (k v j : Nat) : upd (fun r => rt_o (F r)) k (nI v) j = rt_o (va_up F k (some v) j) := by
  unfold upd va_up
  split <;> rfl
theorem rt_fill (ff : Nat → Int32) (v : Int32) (i j : Nat) : upd (fun j => if j < i then v else ff j) i v j = if j < i + 1 then v else ff j := by
  unfold upd
  by_cases h1 : j = i
  · rw [if_pos h1, if_pos (by omega)]
  · rw [if_neg h1]
    dsimp only
    by_cases h2 : j < i
    · rw [if_pos h2, if_pos (by omega)]
    · rw [if_neg h2, if_neg (by omega)]
def rt_bd (F : Nat → Option Nat) : Prop := ∀ r b, F r = some b → b < 2 ^ 31
def rt_jn (F : Nat → Option Nat) (R : Nat → Nat) (y k lo : Nat) : (Nat → Option Nat) × (Nat → Nat) × Nat := if F k = none then (va_up F k (some lo), va_up R y k, y + 1) else (F, R, y)
theorem rt_jn_t {F : Nat → Option Nat} {R : Nat → Nat} {y k lo : Nat} (h : F k = none) : rt_jn F R y k lo = (va_up F k (some lo), va_up R y k, y + 1) := if_pos h
theorem rt_jn_f {F : Nat → Option Nat} {R : Nat → Nat} {y k lo b : Nat} (h : F k = some b) : rt_jn F R y k lo = (F, R, y) := if_neg (by rw [h]; simp)
/-- a flood, k just taken; of its neighbours those with pd may still be wanting -/
def rt_fJ (Q : Nat → Nat) (w h : Nat) (F0 : Nat → Option Nat) (x n0 k : Nat) (F : Nat → Option Nat) (R : Nat → Nat) (y : Nat) (pd : Nat → Prop) : Prop := rt_fI Q w h F0 x F R n0 y (fun g q => g = k ∧ pd q) ∧ 0 < n0 ∧ R (n0 - 1) = k
theorem rt_fJ_weak {Q : Nat → Nat} {w h : Nat} {F0 : Nat → Option Nat} {x n0 k : Nat} {F : Nat → Option Nat} {R : Nat → Nat} {y : Nat} {pd pd' : Nat → Prop} (J : rt_fJ Q w h F0 x n0 k F R y pd) (hp : ∀ q, rt_tc Q w h k q → pd q → pd' q) : rt_fJ Q w h F0 x n0 k F R y pd' := by
  refine ⟨rt_fI_drop J.1 ?_, J.2⟩
  rintro j q hj ht ⟨h1, h2⟩
  exact Or.inr ⟨h1, hp q (by rw [← h1]; exact ht) h2⟩
theorem rt_fJ_jn {Q : Nat → Nat} {w h : Nat} {F0 : Nat → Option Nat} {x n0 k q : Nat} {F : Nat → Option Nat} {R : Nat → Nat} {y : Nat} {pd : Nat → Prop} (hw : 0 < w) (hQ : rt_ok Q (6 * (w * h))) (B : rt_bI Q w h F0 x) (J : rt_fJ Q w h F0 x n0 k F R y pd) (ht : rt_tc Q w h k q) : rt_fJ Q w h F0 x n0 k (rt_jn F R y q x).1 (rt_jn F R y q x).2.1 (rt_jn F R y q x).2.2 (fun r => pd r ∧ r ≠ q) := by
  have hle := J.1.1
  have hj : n0 - 1 < y := by have := J.2.1; omega
  have ht' : rt_tc Q w h (R (n0 - 1)) q := by rw [J.2.2]; exact ht
  cases hn : F q with
  | none =>
    rw [rt_jn_t hn]
    refine ⟨rt_fI_drop (rt_fI_join J.1 hw hQ hj ht' hn) ?_, J.2.1, ?_⟩
    · rintro j r hj2 _ ⟨⟨h1, h2⟩, h3⟩
      exact Or.inr ⟨h1, h2, h3⟩
    · show va_up R y q (n0 - 1) = k
      rw [va_up_ne R _ (by omega)]
      exact J.2.2
  | some b =>
    rw [rt_jn_f hn]
    have hx : F q = some x := by
      rcases rt_fI_or hw hQ B J.1 hj ht' with h1 | h1
      · rw [hn] at h1; cases h1
      · exact h1
    refine ⟨rt_fI_drop J.1 ?_, J.2⟩
    rintro j r hj2 _ ⟨h1, h2⟩
    by_cases e : r = q
    · exact Or.inl (by rw [e]; exact hx)
    · exact Or.inr ⟨h1, h2, e⟩
theorem rt_fJ_cap {Q : Nat → Nat} {w h : Nat} {F0 : Nat → Option Nat} {x n0 k q : Nat} {F : Nat → Option Nat} {R : Nat → Nat} {y : Nat} {pd : Nat → Prop} (hw : 0 < w) (hQ : rt_ok Q (6 * (w * h))) (J : rt_fJ Q w h F0 x n0 k F R y pd) (ht : rt_tc Q w h k q) (hn : F q = none) : y < 8 * (w * h) := by
  have hle := J.1.1
  have hj : n0 - 1 < y := by have := J.2.1; omega
  have h1 := rt_fI_cap hQ (rt_fI_join J.1 hw hQ hj (by rw [J.2.2]; exact ht) hn)
  omega
theorem rt_fI_bd {Q : Nat → Nat} {w h : Nat} {F0 F : Nat → Option Nat} {x n0 y : Nat} {R : Nat → Nat} {pend : Nat → Nat → Prop} (hn : w * h ≤ 400) (hx : x < 6 * (w * h)) (B : rt_bI Q w h F0 x) (I : rt_fI Q w h F0 x F R n0 y pend) : rt_bd F := by
  intro r b hr
  by_cases e : F r = some x
  · rw [e] at hr
    cases hr
    omega
  · rw [I.2.2.2.2.1 r e] at hr
    have := (B.1 r b hr).2.2.1
    omega
theorem rt_bI_bd {Q : Nat → Nat} {w h : Nat} {F : Nat → Option Nat} {x : Nat} (hn : w * h ≤ 400) (hx : x ≤ 6 * (w * h)) (B : rt_bI Q w h F x) : rt_bd F := by
  intro r b hr
  have := (B.1 r b hr).2.2.1
  omega
theorem rt_apI_ap : ∀ k, k < 6 → ∀ i, i < 6 → (rt_apI k = nI i ↔ rt_ap k = i) := by decide +kernel
theorem rt_fJ_m1 {Q : Nat → Nat} {w h : Nat} {G0 : Nat → Option Nat} {x n0 k i : Nat} {F : Nat → Option Nat} {R : Nat → Nat} {y : Nat} {pd : Nat → Prop} (J : rt_fJ Q w h G0 x n0 k F R y (fun q => pd q ∧ ¬ (rt_meet k q ∧ q % 6 < i))) (hx : ∀ q, rt_tc Q w h k q → rt_meet k q → q % 6 = i → False) : rt_fJ Q w h G0 x n0 k F R y (fun q => pd q ∧ ¬ (rt_meet k q ∧ q % 6 < i + 1)) := by
  refine rt_fJ_weak J (fun q ht hq => ⟨hq.1, fun z => ?_⟩)
  rcases Nat.lt_or_ge (q % 6) i with z2 | z2
  · exact hq.2 ⟨z.1, z2⟩
  · exact hx q ht z.1 (by omega)
theorem rt_fJ_m2 {Q : Nat → Nat} {w h : Nat} {G0 : Nat → Option Nat} {x n0 k i : Nat} {F : Nat → Option Nat} {R : Nat → Nat} {y : Nat} {pd : Nat → Prop} (J : rt_fJ Q w h G0 x n0 k F R y (fun r => (pd r ∧ ¬ (rt_meet k r ∧ r % 6 < i)) ∧ r ≠ k - k % 6 + i)) : rt_fJ Q w h G0 x n0 k F R y (fun q => pd q ∧ ¬ (rt_meet k q ∧ q % 6 < i + 1)) := by
  refine rt_fJ_weak J (fun q ht hq => ⟨hq.1.1, fun z => ?_⟩)
  rcases Nat.lt_or_ge (q % 6) i with z2 | z2
  · exact hq.1.2 ⟨z.1, z2⟩
  · have := z.1.1
    have := z.2
    exact hq.2 (by omega)
theorem rt_fJ_k {Q : Nat → Nat} {w h : Nat} {G0 : Nat → Option Nat} {x n0 k : Nat} {F : Nat → Option Nat} {R : Nat → Nat} {y : Nat} {pd : Nat → Prop} (J : rt_fJ Q w h G0 x n0 k F R y pd) : Q k ≠ 0 := by
  have h1 := J.1.1
  have h2 := J.2.1
  have h3 := (J.1.2.1 (n0 - 1) (by omega)).2.1
  rwa [J.2.2] at h3
/-- over a line: one more of the three -/
theorem rt_fJ_a1 {Q : Nat → Nat} {w h : Nat} {G0 : Nat → Option Nat} {x n0 k d i : Nat} {F : Nat → Option Nat} {R : Nat → Nat} {y : Nat} {pd : Nat → Prop} (J : rt_fJ Q w h G0 x n0 k F R y (fun q => pd q ∧ ¬ ∃ j, j < i ∧ rt_acr Q w h k d j q)) (hx : ∀ q, rt_tc Q w h k q → rt_acr Q w h k d i q → False) : rt_fJ Q w h G0 x n0 k F R y (fun q => pd q ∧ ¬ ∃ j, j < i + 1 ∧ rt_acr Q w h k d j q) := by
  refine rt_fJ_weak J (fun q ht hq => ⟨hq.1, ?_⟩)
  rintro ⟨j, hj, ha⟩
  rcases Nat.lt_or_ge j i with z2 | z2
  · exact hq.2 ⟨j, z2, ha⟩
  · rw [show j = i by omega] at ha
    exact hx q ht ha
theorem rt_fJ_a2 {Q : Nat → Nat} {w h : Nat} {G0 : Nat → Option Nat} {x n0 k d i b : Nat} {F : Nat → Option Nat} {R : Nat → Nat} {y : Nat} {pd : Nat → Prop} (hb : rt_ah w h (2 * k + d) i = some b) (J : rt_fJ Q w h G0 x n0 k F R y (fun r => (pd r ∧ ¬ ∃ j, j < i ∧ rt_acr Q w h k d j r) ∧ r ≠ b / 2)) : rt_fJ Q w h G0 x n0 k F R y (fun q => pd q ∧ ¬ ∃ j, j < i + 1 ∧ rt_acr Q w h k d j q) := by
  refine rt_fJ_weak J (fun q ht hq => ⟨hq.1.1, ?_⟩)
  rintro ⟨j, hj, ha⟩
  rcases Nat.lt_or_ge j i with z2 | z2
  · exact hq.1.2 ⟨j, z2, ha⟩
  · rw [show j = i by omega] at ha
    obtain ⟨-, b2, h1, -, h2⟩ := ha
    rw [hb] at h1
    cases h1
    exact hq.2 h2.symm
end
section
/-! Search, blocks: by program (wip/whole/gen/blocks.py) -/
set_option maxHeartbeats 4000000 in
set_option maxRecDepth 100000 in
theorem c_JA_fill (l : Launch) (D : va_G) (cI cZ : ClassId) (g a : Nat → Nat) (ha : xI a) (w h : Nat) (Q : Nat → Nat) (ff : Nat → Int32) (hd bl : Int32) (rs : Nat → Int32) (hs ts : Int32) (rc : Nat → Int32) (hc tc : Int32) (v : Int32) (hG : rt_G w h Q) : Met l y_JA_fill (.code y_JA_fill b_JA_fill 4 none :: tG) ({ frames := 0, cells := 0, slots := 0, locals := 0 }) (va_Pc [.ref (a 5), .int (v)] (wU D cI cZ g (xA a) (xw cI a w h Q ff hd bl rs hs ts rc hc tc))) (va_Qv (S := Unit) (fun _ => True) (wB D (fun (u : Unit) => (xw cI a w h Q (fun _ => v) hd bl rs hs ts rc hc tc))) (xA a)) 0 0 (xA a) := by
  refine Met.ofW (cc := b_JA_fill) (maxL := 4) (ret := none) (by decide) rfl ?_
  intro p e s m args below meth c s₁ B hml hv
  obtain ⟨rfl, hP, hK, hZ⟩ := hv
  have hx := B.exec
  have hb := B.bytes
  have hr := B.returns
  have hts : ∀ w ∈ tG, w.before _ s = true := fun w hw => atoms_spec (ws := .code y_JA_fill b_JA_fill 4 none :: tG) B.pre w (List.mem_cons_of_mem _ hw)
  have hown : s.vm.findClass rn_JA = some m.cls := findClass_of_methodNamed B.named
  have hlocks := B.notSynchronized
  have hS : va_S (xA a) s.heap s.heap [] := va_S.rf
  have hD : va_D (xA a) (xw cI a w h Q ff hd bl rs hs ts rc hc tc) := x_D ha _ rfl
  have hP : va_P D vwCl (xw cI a w h Q ff hd bl rs hs ts rc hc tc) s.heap := hP
  have hl := lv_entry ([.ref (a 5), .int (v)]) (n := 4) (Nat.le_of_ble_eq_true rfl)
  rw [lg_entry_eq]
  generalize (lg_sl ([.ref (a 5), .int (v)]) ++ List.replicate (4 - (lg_sl ([.ref (a 5), .int (v)])).length) Slot.unset).toArray = ls at hl ⊢
  have hl : lv_has ls 4 [(0, .ref (a 5)), (1, .int (v))] := hl
  obtain ⟨hn1, hn⟩ := hG.n
  have hw0 : 0 < w := by have := hG.1.1; omega
  have hQ := hG.2.2
  refine lv_iconst (v := (nI (0))) hx hb d_JA_fill_0 (by decide) ?_
  refine lv_istore_n (lv' := [(2, .int (nI (0))), (0, .ref (a 5)), (1, .int (v))]) hx hb d_JA_fill_1 rfl hl (by decide) rfl (fun ls hl => ?_)
  refine lv_aload_n hx hb d_JA_fill_2 rfl (lv_at hl 1 rfl) ?_
  refine va_alen (v := nI (12 * (w * h))) hx hb hK hP 5 0 rfl rfl rfl d_JA_fill_3 ?_
  refine lv_istore_n (lv' := [(3, .int (nI (12 * (w * h)))), (2, .int (nI (0))), (0, .ref (a 5)), (1, .int (v))]) hx hb d_JA_fill_4 rfl hl (by decide) rfl (fun ls hl => ?_)
  have hP := x_ff (ff' := fun j => if j < 0 then v else ff j) (fun j hj => (if_neg (Nat.not_lt_zero j)).symm) hP
  have LP_5 : ∀ (n_5 : Nat) (i : Nat), i + n_5 = 12 * (w * h) → ∀ (H : Heap) (locs : List Loc) (ls : Array Slot), va_P D vwCl (xw cI a w h Q (fun j => if j < i then v else ff j) hd bl rs hs ts rc hc tc) H → va_S (xA a) s.heap H locs → lv_has ls 4 [(0, .ref (a 5)), (1, .int (v)), (2, .int (nI (i))), (3, .int (nI (12 * (w * h))))] → W p l e (headSpec (.code y_JA_fill b_JA_fill 4 none :: tG) ({ frames := 0, cells := 0, slots := 0, locals := 0 })).room s m ([.ref (a 5), .int (v)] : List Value).toArray below meth c H locs 0 0 (MQ below (va_Qv (S := Unit) (fun _ => True) (wB D (fun (u : Unit) => (xw cI a w h Q (fun _ => v) hd bl rs hs ts rc hc tc))) (xA a)) ([.ref (a 5), .int (v)] : List Value).toArray s 0 0 (xA a)) (F0 m 5 ls []) := by
    intro n_5
    induction n_5 with
    | zero =>
      intro i hrel_5 H locs ls hP hS hl
      have hD : va_D (xA a) (xw cI a w h Q (fun j => if j < i then v else ff j) hd bl rs hs ts rc hc tc) := x_D ha _ rfl
      refine lv_iload_n hx hb d_JA_fill_5 rfl (lv_at hl 2 rfl) ?_
      refine lv_iload_n hx hb d_JA_fill_6 rfl (lv_at hl 3 rfl) ?_
      refine rw_cge (tgt := 20) hx hb d_JA_fill_7 (by decide) (by omega) (by omega) (fun c_7 => ?_) (fun c_7 => ?_)
      · have hP := x_ff (ff' := fun _ => v) (fun j hj => if_pos (show j < i by omega)) hP
        exact w_vret () hx hb hr hlocks hS hP trivial d_JA_fill_20
      · omega
    | succ n_5 ih_5 =>
      intro i hrel_5 H locs ls hP hS hl
      have hD : va_D (xA a) (xw cI a w h Q (fun j => if j < i then v else ff j) hd bl rs hs ts rc hc tc) := x_D ha _ rfl
      refine lv_iload_n hx hb d_JA_fill_5 rfl (lv_at hl 2 rfl) ?_
      refine lv_iload_n hx hb d_JA_fill_6 rfl (lv_at hl 3 rfl) ?_
      refine rw_cge (tgt := 20) hx hb d_JA_fill_7 (by decide) (by omega) (by omega) (fun c_7 => ?_) (fun c_7 => ?_)
      · omega
      · refine lv_aload_n hx hb d_JA_fill_10 rfl (lv_at hl 0 rfl) ?_
        refine lv_iload_n hx hb d_JA_fill_11 rfl (lv_at hl 2 rfl) ?_
        refine lv_iload_n hx hb d_JA_fill_12 rfl (lv_at hl 1 rfl) ?_
        refine rw_iast (h := (fun j => if j < i + 1 then v else ff j)) hx hb hK hP hD hS 5 0 rfl rfl (by omega) (by omega) (fun j _ => rt_fill ff v i j) d_JA_fill_13 (fun H locs hP hD hS => ?_)
        have hP : va_P D vwCl (xw cI a w h Q (fun j => if j < i + 1 then v else ff j) hd bl rs hs ts rc hc tc) H := hP
        have hD : va_D (xA a) (xw cI a w h Q (fun j => if j < i + 1 then v else ff j) hd bl rs hs ts rc hc tc) := x_D ha _ rfl
        refine lv_iinc (v := (nI (i + 1))) (lv' := [(2, .int (nI (i + 1))), (0, .ref (a 5)), (1, .int (v)), (3, .int (nI (12 * (w * h))))]) hx hb d_JA_fill_14 hl (k := 2) rfl (nI_add _ _) (by decide) rfl (fun ls hl => ?_)
        refine lv_goto (tgt := 5) hx hb d_JA_fill_17 (by decide) ?_
        exact ih_5 (i + 1) (by omega) _ _ _ hP hS (lv_sub hl [1, 2, 0, 3] rfl)
  exact LP_5 (12 * (w * h)) 0 (by omega) _ _ _ hP hS (lv_sub hl [2, 3, 1, 0] rfl)

set_option maxHeartbeats 4000000 in
set_option maxRecDepth 100000 in
theorem c_S_join (l : Launch) (D : va_G) (cI cZ : ClassId) (g a : Nat → Nat) (ha : xI a) (w h : Nat) (Q : Nat → Nat) (ff : Nat → Int32) (hd bl : Int32) (rs : Nat → Int32) (hs ts : Int32) (rc : Nat → Int32) (hc tc : Int32) (F : Nat → Option Nat) (R : Nat → Nat) (n0 y k lo : Nat) (hG : rt_G w h Q) (hk : k < 12 * (w * h)) (hF : rt_bd F) (hcap : F k = none → y < 8 * (w * h)) : Met l y_S_join (.code y_S_join b_S_join 3 none :: tG) ({ frames := 1, cells := 0, slots := 0, locals := 21 }) (va_Pc [.ref (a 4), .int (nI (k)), .int (nI (lo))] (wU D cI cZ g (xA a) (xw cI a w h Q (fun r => rt_o (F r)) hd bl rs hs ts (fun j => nI (R j)) (nI (n0)) (nI (y))))) (va_Qv (S := ((Nat → Option Nat) × (Nat → Nat) × Nat)) (fun u => u = rt_jn F R y k lo) (wB D (fun (u : ((Nat → Option Nat) × (Nat → Nat) × Nat)) => (xw cI a w h Q (fun r => rt_o (u.1 r)) hd bl rs hs ts (fun j => nI (u.2.1 j)) (nI (n0)) (nI (u.2.2))))) (xA a)) 0 0 (xA a) := by
  refine Met.ofW (cc := b_S_join) (maxL := 3) (ret := none) (by decide) rfl ?_
  intro p e s m args below meth c s₁ B hml hv
  obtain ⟨rfl, hP, hK, hZ⟩ := hv
  have hx := B.exec
  have hb := B.bytes
  have hr := B.returns
  have hts : ∀ w ∈ tG, w.before _ s = true := fun w hw => atoms_spec (ws := .code y_S_join b_S_join 3 none :: tG) B.pre w (List.mem_cons_of_mem _ hw)
  have hown : s.vm.findClass rn_S = some m.cls := findClass_of_methodNamed B.named
  have hlocks := B.notSynchronized
  have hS : va_S (xA a) s.heap s.heap [] := va_S.rf
  have hD : va_D (xA a) (xw cI a w h Q (fun r => rt_o (F r)) hd bl rs hs ts (fun j => nI (R j)) (nI (n0)) (nI (y))) := x_D ha _ rfl
  have hP : va_P D vwCl (xw cI a w h Q (fun r => rt_o (F r)) hd bl rs hs ts (fun j => nI (R j)) (nI (n0)) (nI (y))) s.heap := hP
  have hl := lv_entry ([.ref (a 4), .int (nI (k)), .int (nI (lo))]) (n := 3) (Nat.le_of_ble_eq_true rfl)
  rw [lg_entry_eq]
  generalize (lg_sl ([.ref (a 4), .int (nI (k)), .int (nI (lo))]) ++ List.replicate (3 - (lg_sl ([.ref (a 4), .int (nI (k)), .int (nI (lo))])).length) Slot.unset).toArray = ls at hl ⊢
  have hl : lv_has ls 3 [(0, .ref (a 4)), (1, .int (nI (k))), (2, .int (nI (lo)))] := hl
  obtain ⟨hn1, hn⟩ := hG.n
  have hw0 : 0 < w := by have := hG.1.1; omega
  have hQ := hG.2.2
  refine lv_aload_n hx hb d_S_join_0 rfl (lv_at hl 0 rfl) ?_
  refine va_get (D := D) (ci := 2) (v := .ref (a 5)) (C := rn_S) (T := tf_S) (N := 5) hx hb hts in_S hown hK hP 4 rfl rfl 0 (by decide) (hts _ k_fieldLink_rn_S_11_rn_S_found_I) (fun _ h9 => h9) rfl d_S_join_1 ?_
  refine lv_iload_n hx hb d_S_join_4 rfl (lv_at hl 1 rfl) ?_
  refine rw_iald (v := (rt_o (F k))) hx hb hK hP 5 0 rfl rfl (by omega) (by omega) (rfl) d_S_join_5 ?_
  cases ho_6 : F k with
  | none =>
    refine lv_iconst (v := (-1)) hx hb d_S_join_6 (by decide) ?_
    refine lv_icmp_ne (tgt := 25) hx hb d_S_join_7 (by decide) (fun c_7 => ?_) (fun c_7 => ?_)
    · exact absurd rfl c_7
    · refine lv_aload_n hx hb d_S_join_10 rfl (lv_at hl 0 rfl) ?_
      refine va_get (D := D) (ci := 2) (v := .ref (a 5)) (C := rn_S) (T := tf_S) (N := 5) hx hb hts in_S hown hK hP 4 rfl rfl 0 (by decide) (hts _ k_fieldLink_rn_S_11_rn_S_found_I) (fun _ h9 => h9) rfl d_S_join_11 ?_
      refine lv_iload_n hx hb d_S_join_14 rfl (lv_at hl 1 rfl) ?_
      refine lv_iload_n hx hb d_S_join_15 rfl (lv_at hl 2 rfl) ?_
      refine rw_iast (h := (fun r => rt_o (va_up F k (some lo) r))) hx hb hK hP hD hS 5 0 rfl rfl (by omega) (by omega) (fun j _ => rt_updo F k lo j) d_S_join_16 (fun H locs hP hD hS => ?_)
      have hP : va_P D vwCl (xw cI a w h Q (fun r => rt_o (va_up F k (some lo) r)) hd bl rs hs ts (fun j => nI (R j)) (nI (n0)) (nI (y))) H := hP
      have hD : va_D (xA a) (xw cI a w h Q (fun r => rt_o (va_up F k (some lo) r)) hd bl rs hs ts (fun j => nI (R j)) (nI (n0)) (nI (y))) := x_D ha _ rfl
      refine lv_aload_n hx hb d_S_join_17 rfl (lv_at hl 0 rfl) ?_
      refine va_get (D := D) (ci := 2) (v := .ref (a 8)) (C := rn_S) (T := tf_S) (N := 5) hx hb hts in_S hown hK hP 4 rfl rfl 2 (by decide) (hts _ k_fieldLink_rn_S_26_rn_S_curves_LRouteTracks_Queue) (fun _ h9 => h9) rfl d_S_join_18 ?_
      refine lv_iload_n hx hb d_S_join_21 rfl (lv_at hl 1 rfl) ?_
      refine w_cv (As := [.int (nI (k))]) (rest := []) ⟨hx, hb, hml, hown, hts⟩ (c_Q_add_c l D cI cZ g a ha w h Q (fun r => rt_o (va_up F k (some lo) r)) hd bl rs hs ts (fun j => nI (R j)) (nI (n0)) (nI (y)) R n0 y k hG (hcap ho_6)) (cwV 1 hts (t_gV k_methodLink_rn_S_85_y_Q_add k_instanceMethod_y_Q_add k_selects_rn_Q_y_Q_add_y_Q_add k_initialized_rn_Q k_code_y_Q_add_prog_2_method_4_code_2_none) rfl rfl rfl (by decide +kernel) ⟨Nat.le_of_ble_eq_true rfl, Nat.le_of_ble_eq_true rfl⟩) (va_recv hK hP (ci := 0) (q0 := 8) rfl rfl) hP hK hZ hS rfl hl.1 rfl (Nat.le_of_ble_eq_true rfl) d_S_join_22 ⟨Nat.zero_le _, Nat.zero_le _⟩ (fun u_22 H locs hw hP hS => ?_)
      have hP : va_P D vwCl (xw cI a w h Q (fun r => rt_o (va_up F k (some lo) r)) hd bl rs hs ts (fun j => nI (va_up R y k j)) (nI (n0)) (nI (y + 1))) H := hP
      have hD : va_D (xA a) (xw cI a w h Q (fun r => rt_o (va_up F k (some lo) r)) hd bl rs hs ts (fun j => nI (va_up R y k j)) (nI (n0)) (nI (y + 1))) := x_D ha _ rfl
      exact w_vret (va_up F k (some lo), va_up R y k, y + 1) hx hb hr hlocks hS hP ((rt_jn_t ho_6).symm) d_S_join_25
  | some b =>
    have hb0 := hF k b ho_6
    refine lv_iconst (v := (-1)) hx hb d_S_join_6 (by decide) ?_
    refine lv_icmp_ne (tgt := 25) hx hb d_S_join_7 (by decide) (fun c_7 => ?_) (fun c_7 => ?_)
    · exact w_vret (F, R, y) hx hb hr hlocks hS hP ((rt_jn_f ho_6).symm) d_S_join_25
    · exact absurd c_7 (rt_o_ne _ (by omega))

set_option maxHeartbeats 4000000 in
set_option maxRecDepth 100000 in
theorem c_S_joinMeeting (l : Launch) (D : va_G) (cI cZ : ClassId) (g a : Nat → Nat) (ha : xI a) (w h : Nat) (Q : Nat → Nat) (ff : Nat → Int32) (hd bl : Int32) (rs : Nat → Int32) (hs ts : Int32) (rc : Nat → Int32) (hc tc : Int32) (G0 F : Nat → Option Nat) (R : Nat → Nat) (n0 y k lo : Nat) (pd : Nat → Prop) (hG : rt_G w h Q) (hlo : lo < 6 * (w * h)) (hBI : rt_bI Q w h G0 lo) (hJ : rt_fJ Q w h G0 lo n0 k F R y pd) (hk : k < 6 * (w * h)) : Met l y_S_joinMeeting (.code y_S_joinMeeting b_S_joinMeeting 7 none :: tG) ({ frames := 2, cells := 0, slots := 0, locals := 43 }) (va_Pc [.ref (a 4), .ref (a 1), .int (nI (k)), .int (nI (lo))] (wU D cI cZ g (xA a) (xw cI a w h Q (fun r => rt_o (F r)) hd bl rs hs ts (fun j => nI (R j)) (nI (n0)) (nI (y))))) (va_Qv (S := ((Nat → Option Nat) × (Nat → Nat) × Nat)) (fun u => rt_fJ Q w h G0 lo n0 k u.1 u.2.1 u.2.2 (fun q => pd q ∧ ¬ rt_meet k q)) (wB D (fun (u : ((Nat → Option Nat) × (Nat → Nat) × Nat)) => (xw cI a w h Q (fun r => rt_o (u.1 r)) hd bl rs hs ts (fun j => nI (u.2.1 j)) (nI (n0)) (nI (u.2.2))))) (xA a)) 0 0 (xA a) := by
  refine Met.ofW (cc := b_S_joinMeeting) (maxL := 7) (ret := none) (by decide) rfl ?_
  intro p e s m args below meth c s₁ B hml hv
  obtain ⟨rfl, hP, hK, hZ⟩ := hv
  have hx := B.exec
  have hb := B.bytes
  have hr := B.returns
  have hts : ∀ w ∈ tG, w.before _ s = true := fun w hw => atoms_spec (ws := .code y_S_joinMeeting b_S_joinMeeting 7 none :: tG) B.pre w (List.mem_cons_of_mem _ hw)
  have hown : s.vm.findClass rn_S = some m.cls := findClass_of_methodNamed B.named
  have hlocks := B.notSynchronized
  have hS : va_S (xA a) s.heap s.heap [] := va_S.rf
  have hD : va_D (xA a) (xw cI a w h Q (fun r => rt_o (F r)) hd bl rs hs ts (fun j => nI (R j)) (nI (n0)) (nI (y))) := x_D ha _ rfl
  have hP : va_P D vwCl (xw cI a w h Q (fun r => rt_o (F r)) hd bl rs hs ts (fun j => nI (R j)) (nI (n0)) (nI (y))) s.heap := hP
  have hl := lv_entry ([.ref (a 4), .ref (a 1), .int (nI (k)), .int (nI (lo))]) (n := 7) (Nat.le_of_ble_eq_true rfl)
  rw [lg_entry_eq]
  generalize (lg_sl ([.ref (a 4), .ref (a 1), .int (nI (k)), .int (nI (lo))]) ++ List.replicate (7 - (lg_sl ([.ref (a 4), .ref (a 1), .int (nI (k)), .int (nI (lo))])).length) Slot.unset).toArray = ls at hl ⊢
  have hl : lv_has ls 7 [(0, .ref (a 4)), (1, .ref (a 1)), (2, .int (nI (k))), (3, .int (nI (lo)))] := hl
  obtain ⟨hn1, hn⟩ := hG.n
  have hw0 : 0 < w := by have := hG.1.1; omega
  have hQ := hG.2.2
  refine lv_iload_n hx hb d_S_joinMeeting_0 rfl (lv_at hl 2 rfl) ?_
  refine lv_bipush (v := (nI (6))) hx hb d_S_joinMeeting_1 (by decide) ?_
  refine rw_rem hx hb d_S_joinMeeting_3 (by omega) (by omega) (by omega) ?_
  refine lv_istore (lv' := [(4, .int (nI (k % 6))), (0, .ref (a 4)), (1, .ref (a 1)), (2, .int (nI (k))), (3, .int (nI (lo)))]) hx hb d_S_joinMeeting_4 hl (by decide) rfl (fun ls hl => ?_)
  refine lv_iload_n hx hb d_S_joinMeeting_6 rfl (lv_at hl 3 rfl) ?_
  refine lv_iload hx hb d_S_joinMeeting_7 (lv_at hl 0 rfl) ?_
  refine rw_sub hx hb d_S_joinMeeting_9 (by omega) ?_
  refine lv_istore (lv' := [(5, .int (nI (k - (k % 6)))), (4, .int (nI (k % 6))), (0, .ref (a 4)), (1, .ref (a 1)), (2, .int (nI (k))), (3, .int (nI (lo)))]) hx hb d_S_joinMeeting_10 hl (by decide) rfl (fun ls hl => ?_)
  refine lv_iconst (v := (nI (0))) hx hb d_S_joinMeeting_12 (by decide) ?_
  refine lv_istore (lv' := [(6, .int (nI (0))), (5, .int (nI (k - (k % 6)))), (4, .int (nI (k % 6))), (0, .ref (a 4)), (1, .ref (a 1)), (2, .int (nI (k))), (3, .int (nI (lo)))]) hx hb d_S_joinMeeting_13 hl (by decide) rfl (fun ls hl => ?_)
  have LP_15 : ∀ (n_15 : Nat) (i : Nat) (F : Nat → Option Nat) (R : Nat → Nat) (y : Nat), i + n_15 = 6 → (rt_fJ Q w h G0 lo n0 k F R y (fun q => pd q ∧ ¬ (rt_meet k q ∧ q % 6 < i))) → ∀ (H : Heap) (locs : List Loc) (ls : Array Slot), va_P D vwCl (xw cI a w h Q (fun r => rt_o (F r)) hd bl rs hs ts (fun j => nI (R j)) (nI (n0)) (nI (y))) H → va_S (xA a) s.heap H locs → lv_has ls 7 [(0, .ref (a 4)), (1, .ref (a 1)), (2, .int (nI (k))), (3, .int (nI (lo))), (4, .int (nI (k % 6))), (5, .int (nI (k - k % 6))), (6, .int (nI (i)))] → W p l e (headSpec (.code y_S_joinMeeting b_S_joinMeeting 7 none :: tG) ({ frames := 2, cells := 0, slots := 0, locals := 43 })).room s m ([.ref (a 4), .ref (a 1), .int (nI (k)), .int (nI (lo))] : List Value).toArray below meth c H locs 0 0 (MQ below (va_Qv (S := ((Nat → Option Nat) × (Nat → Nat) × Nat)) (fun u => rt_fJ Q w h G0 lo n0 k u.1 u.2.1 u.2.2 (fun q => pd q ∧ ¬ rt_meet k q)) (wB D (fun (u : ((Nat → Option Nat) × (Nat → Nat) × Nat)) => (xw cI a w h Q (fun r => rt_o (u.1 r)) hd bl rs hs ts (fun j => nI (u.2.1 j)) (nI (n0)) (nI (u.2.2))))) (xA a)) ([.ref (a 4), .ref (a 1), .int (nI (k)), .int (nI (lo))] : List Value).toArray s 0 0 (xA a)) (F0 m 15 ls []) := by
    intro n_15
    induction n_15 with
    | zero =>
      intro i F R y hrel_15 hI H locs ls hP hS hl
      have hD : va_D (xA a) (xw cI a w h Q (fun r => rt_o (F r)) hd bl rs hs ts (fun j => nI (R j)) (nI (n0)) (nI (y))) := x_D ha _ rfl
      refine lv_iload hx hb d_S_joinMeeting_15 (lv_at hl 6 rfl) ?_
      refine lv_bipush (v := (nI (6))) hx hb d_S_joinMeeting_17 (by decide) ?_
      refine rw_cge (tgt := 61) hx hb d_S_joinMeeting_19 (by decide) (by omega) (by omega) (fun c_19 => ?_) (fun c_19 => ?_)
      · exact w_vret (F, R, y) hx hb hr hlocks hS hP (rt_fJ_weak hI (fun q ht hq => ⟨hq.1, fun z => hq.2 ⟨z, by have : q % 6 < 6 := Nat.mod_lt _ (by decide); omega⟩⟩)) d_S_joinMeeting_61
      · omega
    | succ n_15 ih_15 =>
      intro i F R y hrel_15 hI H locs ls hP hS hl
      have hD : va_D (xA a) (xw cI a w h Q (fun r => rt_o (F r)) hd bl rs hs ts (fun j => nI (R j)) (nI (n0)) (nI (y))) := x_D ha _ rfl
      refine lv_iload hx hb d_S_joinMeeting_15 (lv_at hl 6 rfl) ?_
      refine lv_bipush (v := (nI (6))) hx hb d_S_joinMeeting_17 (by decide) ?_
      refine rw_cge (tgt := 61) hx hb d_S_joinMeeting_19 (by decide) (by omega) (by omega) (fun c_19 => ?_) (fun c_19 => ?_)
      · omega
      · refine va_gets hx hb hZ.2.2.1 hS hown (hts _ k_fieldLink_rn_S_75_rn_S_APART_I) (fun _ h9 => h9) d_S_joinMeeting_22 ?_
        refine lv_iload hx hb d_S_joinMeeting_25 (lv_at hl 4 rfl) ?_
        refine va_ti hx hb hZ.2.2.2 hS (vp_in_nI (by omega) (by omega)) (v := .int (rt_apI (k % 6))) (by rw [nI_clamp (by omega)]) d_S_joinMeeting_27 ?_
        refine lv_iload hx hb d_S_joinMeeting_28 (lv_at hl 6 rfl) ?_
        refine lv_icmp_eq (tgt := 55) hx hb d_S_joinMeeting_30 (by decide) (fun c_30 => ?_) (fun c_30 => ?_)
        · refine lv_iinc (v := (nI (i + 1))) (lv' := [(6, .int (nI (i + 1))), (0, .ref (a 4)), (1, .ref (a 1)), (2, .int (nI (k))), (3, .int (nI (lo))), (4, .int (nI (k % 6))), (5, .int (nI (k - k % 6)))]) hx hb d_S_joinMeeting_55 hl (k := 6) rfl (nI_add _ _) (by decide) rfl (fun ls hl => ?_)
          refine lv_goto (tgt := 15) hx hb d_S_joinMeeting_58 (by decide) ?_
          exact ih_15 (i + 1) F R y (by omega) (rt_fJ_m1 hI (fun q ht hm e => hm.2 (((rt_apI_ap _ (Nat.mod_lt _ (by decide)) _ (by omega)).mp c_30).trans e.symm))) _ _ _ hP hS (lv_sub hl [1, 2, 3, 4, 5, 6, 0] rfl)
        · refine lv_aload_n hx hb d_S_joinMeeting_33 rfl (lv_at hl 1 rfl) ?_
          refine lv_iload hx hb d_S_joinMeeting_34 (lv_at hl 5 rfl) ?_
          refine lv_iload hx hb d_S_joinMeeting_36 (lv_at hl 6 rfl) ?_
          refine rw_add hx hb d_S_joinMeeting_38 ?_
          refine w_ci (As := [.int (nI ((k - k % 6) + i))]) (rest := []) ⟨hx, hb, hml, hown, hts⟩ (c_A_isThere l D cI cZ g a ha w h Q (fun r => rt_o (F r)) hd bl rs hs ts (fun j => nI (R j)) (nI (n0)) (nI (y)) ((k - k % 6) + i) hG (by omega)) (cwV 1 hts (t_gV k_methodLink_rn_S_45_y_A_isThere k_instanceMethod_y_A_isThere k_selects_rn_A_y_A_isThere_y_A_isThere k_initialized_rn_A k_code_y_A_isThere_prog_3_method_5_code_2_some_boolean) rfl rfl rfl (by decide +kernel) ⟨Nat.le_of_ble_eq_true rfl, Nat.le_of_ble_eq_true rfl⟩) (va_recv hK hP (ci := 1) (q0 := 1) rfl rfl) hP hK hZ hS rfl hl.1 rfl (Nat.le_of_ble_eq_true rfl) d_S_joinMeeting_39 ⟨Nat.zero_le _, Nat.zero_le _⟩ (fun r_39 u_39 H locs hw hP hS => ?_)
          subst hw
          have hP : va_P D vwCl (xw cI a w h Q (fun r => rt_o (F r)) hd bl rs hs ts (fun j => nI (R j)) (nI (n0)) (nI (y))) H := hP
          refine rw_beq (tgt := 55) hx hb d_S_joinMeeting_42 (by decide) (fun c_42 => ?_) (fun c_42 => ?_)
          · refine lv_iinc (v := (nI (i + 1))) (lv' := [(6, .int (nI (i + 1))), (0, .ref (a 4)), (1, .ref (a 1)), (2, .int (nI (k))), (3, .int (nI (lo))), (4, .int (nI (k % 6))), (5, .int (nI (k - k % 6)))]) hx hb d_S_joinMeeting_55 hl (k := 6) rfl (nI_add _ _) (by decide) rfl (fun ls hl => ?_)
            refine lv_goto (tgt := 15) hx hb d_S_joinMeeting_58 (by decide) ?_
            exact ih_15 (i + 1) F R y (by omega) (rt_fJ_m1 hI (fun q ht hm e => of_decide_eq_false c_42 (by rw [show k - k % 6 + i = q by have := hm.1; omega]; exact ht.2.1))) _ _ _ hP hS (lv_sub hl [1, 2, 3, 4, 5, 6, 0] rfl)
          · have htc : rt_tc Q w h k (k - k % 6 + i) := ⟨rt_fJ_k hI, of_decide_eq_true c_42, Or.inl ⟨by omega, by rw [show (k - k % 6 + i) % 6 = i by omega]; exact fun z => c_30 ((rt_apI_ap _ (Nat.mod_lt _ (by decide)) _ (by omega)).mpr z)⟩⟩
            refine lv_aload_n hx hb d_S_joinMeeting_45 rfl (lv_at hl 0 rfl) ?_
            refine lv_iload hx hb d_S_joinMeeting_46 (lv_at hl 5 rfl) ?_
            refine lv_iload hx hb d_S_joinMeeting_48 (lv_at hl 6 rfl) ?_
            refine rw_add hx hb d_S_joinMeeting_50 ?_
            refine lv_iload_n hx hb d_S_joinMeeting_51 rfl (lv_at hl 3 rfl) ?_
            refine w_cv (As := [.int (nI ((k - k % 6) + i)), .int (nI (lo))]) (rest := []) ⟨hx, hb, hml, hown, hts⟩ (c_S_join l D cI cZ g a ha w h Q (fun r => rt_o (F r)) hd bl rs hs ts (fun j => nI (R j)) (nI (n0)) (nI (y)) F R n0 y (k - k % 6 + i) lo hG (by omega) (rt_fI_bd hn hlo hBI hI.1) (rt_fJ_cap hw0 hQ hI htc)) (cwV 2 hts (t_gV k_methodLink_rn_S_56_y_S_join k_instanceMethod_y_S_join k_selects_rn_S_y_S_join_y_S_join k_initialized_rn_S k_code_y_S_join_prog_4_method_7_code_3_none) rfl rfl rfl (by decide +kernel) ⟨Nat.le_of_ble_eq_true rfl, Nat.le_of_ble_eq_true rfl⟩) (va_recv hK hP (ci := 2) (q0 := 4) rfl rfl) hP hK hZ hS rfl hl.1 rfl (Nat.le_of_ble_eq_true rfl) d_S_joinMeeting_52 ⟨Nat.zero_le _, Nat.zero_le _⟩ (fun u_52 H locs hw hP hS => ?_)
            have hJ2 := rt_fJ_jn hw0 hQ hBI hI htc
            rw [← hw] at hJ2
            obtain ⟨F1, R1, y1⟩ := u_52
            have hP : va_P D vwCl (xw cI a w h Q (fun r => rt_o (F1 r)) hd bl rs hs ts (fun j => nI (R1 j)) (nI (n0)) (nI (y1))) H := hP
            have hD : va_D (xA a) (xw cI a w h Q (fun r => rt_o (F1 r)) hd bl rs hs ts (fun j => nI (R1 j)) (nI (n0)) (nI (y1))) := x_D ha _ rfl
            refine lv_iinc (v := (nI (i + 1))) (lv' := [(6, .int (nI (i + 1))), (0, .ref (a 4)), (1, .ref (a 1)), (2, .int (nI (k))), (3, .int (nI (lo))), (4, .int (nI (k % 6))), (5, .int (nI (k - k % 6)))]) hx hb d_S_joinMeeting_55 hl (k := 6) rfl (nI_add _ _) (by decide) rfl (fun ls hl => ?_)
            refine lv_goto (tgt := 15) hx hb d_S_joinMeeting_58 (by decide) ?_
            exact ih_15 (i + 1) F1 R1 y1 (by omega) (rt_fJ_m2 hJ2) _ _ _ hP hS (lv_sub hl [1, 2, 3, 4, 5, 6, 0] rfl)
  exact LP_15 6 0 F R y (by omega) (rt_fJ_weak hJ (fun q ht hq => ⟨hq, fun z => Nat.not_lt_zero _ z.2⟩)) _ _ _ hP hS (lv_sub hl [3, 4, 5, 6, 2, 1, 0] rfl)

set_option maxHeartbeats 4000000 in
set_option maxRecDepth 100000 in
theorem c_S_joinAcross (l : Launch) (D : va_G) (cI cZ : ClassId) (g a : Nat → Nat) (ha : xI a) (w h : Nat) (Q : Nat → Nat) (ff : Nat → Int32) (hd bl : Int32) (rs : Nat → Int32) (hs ts : Int32) (rc : Nat → Int32) (hc tc : Int32) (G0 F : Nat → Option Nat) (R : Nat → Nat) (n0 y k lo : Nat) (pd : Nat → Prop) (d : Nat) (hG : rt_G w h Q) (hlo : lo < 6 * (w * h)) (hBI : rt_bI Q w h G0 lo) (hJ : rt_fJ Q w h G0 lo n0 k F R y pd) (hk : k < 6 * (w * h)) (hd0 : d < 2) : Met l y_S_joinAcross (.code y_S_joinAcross b_S_joinAcross 6 none :: tG) ({ frames := 2, cells := 0, slots := 0, locals := 43 }) (va_Pc [.ref (a 4), .ref (a 1), .int (nI (2 * k + d)), .int (nI (lo))] (wU D cI cZ g (xA a) (xw cI a w h Q (fun r => rt_o (F r)) hd bl rs hs ts (fun j => nI (R j)) (nI (n0)) (nI (y))))) (va_Qv (S := ((Nat → Option Nat) × (Nat → Nat) × Nat)) (fun u => rt_fJ Q w h G0 lo n0 k u.1 u.2.1 u.2.2 (fun q => pd q ∧ ¬ ∃ j, j < 3 ∧ rt_acr Q w h k d j q)) (wB D (fun (u : ((Nat → Option Nat) × (Nat → Nat) × Nat)) => (xw cI a w h Q (fun r => rt_o (u.1 r)) hd bl rs hs ts (fun j => nI (u.2.1 j)) (nI (n0)) (nI (u.2.2))))) (xA a)) 0 0 (xA a) := by
  refine Met.ofW (cc := b_S_joinAcross) (maxL := 6) (ret := none) (by decide) rfl ?_
  intro p e s m args below meth c s₁ B hml hv
  obtain ⟨rfl, hP, hK, hZ⟩ := hv
  have hx := B.exec
  have hb := B.bytes
  have hr := B.returns
  have hts : ∀ w ∈ tG, w.before _ s = true := fun w hw => atoms_spec (ws := .code y_S_joinAcross b_S_joinAcross 6 none :: tG) B.pre w (List.mem_cons_of_mem _ hw)
  have hown : s.vm.findClass rn_S = some m.cls := findClass_of_methodNamed B.named
  have hlocks := B.notSynchronized
  have hS : va_S (xA a) s.heap s.heap [] := va_S.rf
  have hD : va_D (xA a) (xw cI a w h Q (fun r => rt_o (F r)) hd bl rs hs ts (fun j => nI (R j)) (nI (n0)) (nI (y))) := x_D ha _ rfl
  have hP : va_P D vwCl (xw cI a w h Q (fun r => rt_o (F r)) hd bl rs hs ts (fun j => nI (R j)) (nI (n0)) (nI (y))) s.heap := hP
  have hl := lv_entry ([.ref (a 4), .ref (a 1), .int (nI (2 * k + d)), .int (nI (lo))]) (n := 6) (Nat.le_of_ble_eq_true rfl)
  rw [lg_entry_eq]
  generalize (lg_sl ([.ref (a 4), .ref (a 1), .int (nI (2 * k + d)), .int (nI (lo))]) ++ List.replicate (6 - (lg_sl ([.ref (a 4), .ref (a 1), .int (nI (2 * k + d)), .int (nI (lo))])).length) Slot.unset).toArray = ls at hl ⊢
  have hl : lv_has ls 6 [(0, .ref (a 4)), (1, .ref (a 1)), (2, .int (nI (2 * k + d))), (3, .int (nI (lo)))] := hl
  obtain ⟨hn1, hn⟩ := hG.n
  have hw0 : 0 < w := by have := hG.1.1; omega
  have hQ := hG.2.2
  refine lv_aload_n hx hb d_S_joinAcross_0 rfl (lv_at hl 1 rfl) ?_
  refine lv_iload_n hx hb d_S_joinAcross_1 rfl (lv_at hl 2 rfl) ?_
  refine w_ci (As := [.int (nI (2 * k + d))]) (rest := []) ⟨hx, hb, hml, hown, hts⟩ (c_A_hasSignal l D cI cZ g a ha w h Q (fun r => rt_o (F r)) hd bl rs hs ts (fun j => nI (R j)) (nI (n0)) (nI (y)) (2 * k + d) hG (by omega)) (cwV 1 hts (t_gV k_methodLink_rn_S_78_y_A_hasSignal k_instanceMethod_y_A_hasSignal k_selects_rn_A_y_A_hasSignal_y_A_hasSignal k_initialized_rn_A k_code_y_A_hasSignal_prog_3_method_10_code_3_some_boolean) rfl rfl rfl (by decide +kernel) ⟨Nat.le_of_ble_eq_true rfl, Nat.le_of_ble_eq_true rfl⟩) (va_recv hK hP (ci := 1) (q0 := 1) rfl rfl) hP hK hZ hS rfl hl.1 rfl (Nat.le_of_ble_eq_true rfl) d_S_joinAcross_2 ⟨Nat.zero_le _, Nat.zero_le _⟩ (fun r_2 u_2 H locs hw hP hS => ?_)
  subst hw
  have hP : va_P D vwCl (xw cI a w h Q (fun r => rt_o (F r)) hd bl rs hs ts (fun j => nI (R j)) (nI (n0)) (nI (y))) H := hP
  refine rw_beq (tgt := 9) hx hb d_S_joinAcross_5 (by decide) (fun c_5 => ?_) (fun c_5 => ?_)
  · refine lv_iconst (v := (nI (0))) hx hb d_S_joinAcross_9 (by decide) ?_
    refine lv_istore (lv' := [(4, .int (nI (0))), (0, .ref (a 4)), (1, .ref (a 1)), (2, .int (nI (2 * k + d))), (3, .int (nI (lo)))]) hx hb d_S_joinAcross_10 hl (by decide) rfl (fun ls hl => ?_)
    have LP_12 : ∀ (n_12 : Nat) (i : Nat) (F : Nat → Option Nat) (R : Nat → Nat) (y : Nat), i + n_12 = 3 → (rt_fJ Q w h G0 lo n0 k F R y (fun q => pd q ∧ ¬ ∃ j, j < i ∧ rt_acr Q w h k d j q)) → ∀ (H : Heap) (locs : List Loc) (ls : Array Slot), va_P D vwCl (xw cI a w h Q (fun r => rt_o (F r)) hd bl rs hs ts (fun j => nI (R j)) (nI (n0)) (nI (y))) H → va_S (xA a) s.heap H locs → lv_has ls 6 [(0, .ref (a 4)), (1, .ref (a 1)), (2, .int (nI (2 * k + d))), (3, .int (nI (lo))), (4, .int (nI (i)))] → W p l e (headSpec (.code y_S_joinAcross b_S_joinAcross 6 none :: tG) ({ frames := 2, cells := 0, slots := 0, locals := 43 })).room s m ([.ref (a 4), .ref (a 1), .int (nI (2 * k + d)), .int (nI (lo))] : List Value).toArray below meth c H locs 0 0 (MQ below (va_Qv (S := ((Nat → Option Nat) × (Nat → Nat) × Nat)) (fun u => rt_fJ Q w h G0 lo n0 k u.1 u.2.1 u.2.2 (fun q => pd q ∧ ¬ ∃ j, j < 3 ∧ rt_acr Q w h k d j q)) (wB D (fun (u : ((Nat → Option Nat) × (Nat → Nat) × Nat)) => (xw cI a w h Q (fun r => rt_o (u.1 r)) hd bl rs hs ts (fun j => nI (u.2.1 j)) (nI (n0)) (nI (u.2.2))))) (xA a)) ([.ref (a 4), .ref (a 1), .int (nI (2 * k + d)), .int (nI (lo))] : List Value).toArray s 0 0 (xA a)) (F0 m 12 ls []) := by
      intro n_12
      induction n_12 with
      | zero =>
        intro i F R y hrel_12 hI H locs ls hP hS hl
        have hD : va_D (xA a) (xw cI a w h Q (fun r => rt_o (F r)) hd bl rs hs ts (fun j => nI (R j)) (nI (n0)) (nI (y))) := x_D ha _ rfl
        refine lv_iload hx hb d_S_joinAcross_12 (lv_at hl 4 rfl) ?_
        refine lv_iconst (v := (nI (3))) hx hb d_S_joinAcross_14 (by decide) ?_
        refine rw_cge (tgt := 70) hx hb d_S_joinAcross_15 (by decide) (by omega) (by omega) (fun c_15 => ?_) (fun c_15 => ?_)
        · exact w_vret (F, R, y) hx hb hr hlocks hS hP ((by rw [show i = 3 by omega] at hI; exact hI)) d_S_joinAcross_70
        · omega
      | succ n_12 ih_12 =>
        intro i F R y hrel_12 hI H locs ls hP hS hl
        have hD : va_D (xA a) (xw cI a w h Q (fun r => rt_o (F r)) hd bl rs hs ts (fun j => nI (R j)) (nI (n0)) (nI (y))) := x_D ha _ rfl
        refine lv_iload hx hb d_S_joinAcross_12 (lv_at hl 4 rfl) ?_
        refine lv_iconst (v := (nI (3))) hx hb d_S_joinAcross_14 (by decide) ?_
        refine rw_cge (tgt := 70) hx hb d_S_joinAcross_15 (by decide) (by omega) (by omega) (fun c_15 => ?_) (fun c_15 => ?_)
        · omega
        · refine lv_aload_n hx hb d_S_joinAcross_18 rfl (lv_at hl 1 rfl) ?_
          refine lv_iload_n hx hb d_S_joinAcross_19 rfl (lv_at hl 2 rfl) ?_
          refine lv_iload hx hb d_S_joinAcross_20 (lv_at hl 4 rfl) ?_
          refine w_ci (As := [.int (nI (2 * k + d)), .int (nI (i))]) (rest := []) ⟨hx, hb, hml, hown, hts⟩ (c_A_ahead l D cI cZ g a ha w h Q (fun r => rt_o (F r)) hd bl rs hs ts (fun j => nI (R j)) (nI (n0)) (nI (y)) (2 * k + d) i hG (by omega) (by omega)) (cwV 2 hts (t_gV k_methodLink_rn_S_81_y_A_ahead k_instanceMethod_y_A_ahead k_selects_rn_A_y_A_ahead_y_A_ahead k_initialized_rn_A k_code_y_A_ahead_prog_3_method_14_code_5_some_int) rfl rfl rfl (by decide +kernel) ⟨Nat.le_of_ble_eq_true rfl, Nat.le_of_ble_eq_true rfl⟩) (va_recv hK hP (ci := 1) (q0 := 1) rfl rfl) hP hK hZ hS rfl hl.1 rfl (Nat.le_of_ble_eq_true rfl) d_S_joinAcross_22 ⟨Nat.zero_le _, Nat.zero_le _⟩ (fun r_22 u_22 H locs hw hP hS => ?_)
          subst hw
          have hP : va_P D vwCl (xw cI a w h Q (fun r => rt_o (F r)) hd bl rs hs ts (fun j => nI (R j)) (nI (n0)) (nI (y))) H := hP
          cases ho_25 : rt_ah w h (2 * k + d) i with
          | none =>
            refine lv_istore (lv' := [(5, .int (-1)), (0, .ref (a 4)), (1, .ref (a 1)), (2, .int (nI (2 * k + d))), (3, .int (nI (lo))), (4, .int (nI (i)))]) hx hb d_S_joinAcross_25 hl (by decide) rfl (fun ls hl => ?_)
            refine lv_iload hx hb d_S_joinAcross_27 (lv_at hl 0 rfl) ?_
            refine lv_iconst (v := (-1)) hx hb d_S_joinAcross_29 (by decide) ?_
            refine lv_icmp_eq (tgt := 64) hx hb d_S_joinAcross_30 (by decide) (fun c_30 => ?_) (fun c_30 => ?_)
            · refine lv_iinc (v := (nI (i + 1))) (lv' := [(4, .int (nI (i + 1))), (5, .int (-1)), (0, .ref (a 4)), (1, .ref (a 1)), (2, .int (nI (2 * k + d))), (3, .int (nI (lo)))]) hx hb d_S_joinAcross_64 hl (k := 5) rfl (nI_add _ _) (by decide) rfl (fun ls hl => ?_)
              refine lv_goto (tgt := 12) hx hb d_S_joinAcross_67 (by decide) ?_
              exact ih_12 (i + 1) F R y (by omega) (rt_fJ_a1 hI (fun q ht hm => by obtain ⟨-, b2, h1, -⟩ := hm; rw [ho_25] at h1; cases h1)) _ _ _ hP hS (lv_sub hl [2, 3, 4, 5, 0] rfl)
            · exact absurd rfl c_30
          | some b =>
            have hb9 := (rt_ah_back hw0 (show 2 * k + d < 12 * (w * h) by omega) (by omega) ho_25).1
            refine lv_istore (lv' := [(5, .int (nI (b))), (0, .ref (a 4)), (1, .ref (a 1)), (2, .int (nI (2 * k + d))), (3, .int (nI (lo))), (4, .int (nI (i)))]) hx hb d_S_joinAcross_25 hl (by decide) rfl (fun ls hl => ?_)
            refine lv_iload hx hb d_S_joinAcross_27 (lv_at hl 0 rfl) ?_
            refine lv_iconst (v := (-1)) hx hb d_S_joinAcross_29 (by decide) ?_
            refine lv_icmp_eq (tgt := 64) hx hb d_S_joinAcross_30 (by decide) (fun c_30 => ?_) (fun c_30 => ?_)
            · exact absurd c_30 (rt_o_ne _ (by omega))
            · refine lv_aload_n hx hb d_S_joinAcross_33 rfl (lv_at hl 2 rfl) ?_
              refine lv_iload hx hb d_S_joinAcross_34 (lv_at hl 0 rfl) ?_
              refine lv_iconst (v := (nI (2))) hx hb d_S_joinAcross_36 (by decide) ?_
              refine rw_div hx hb d_S_joinAcross_37 (by omega) (by omega) (by omega) ?_
              refine w_ci (As := [.int (nI (b / 2))]) (rest := []) ⟨hx, hb, hml, hown, hts⟩ (c_A_isThere l D cI cZ g a ha w h Q (fun r => rt_o (F r)) hd bl rs hs ts (fun j => nI (R j)) (nI (n0)) (nI (y)) (b / 2) hG (by omega)) (cwV 1 hts (t_gV k_methodLink_rn_S_45_y_A_isThere k_instanceMethod_y_A_isThere k_selects_rn_A_y_A_isThere_y_A_isThere k_initialized_rn_A k_code_y_A_isThere_prog_3_method_5_code_2_some_boolean) rfl rfl rfl (by decide +kernel) ⟨Nat.le_of_ble_eq_true rfl, Nat.le_of_ble_eq_true rfl⟩) (va_recv hK hP (ci := 1) (q0 := 1) rfl rfl) hP hK hZ hS rfl hl.1 rfl (Nat.le_of_ble_eq_true rfl) d_S_joinAcross_38 ⟨Nat.zero_le _, Nat.zero_le _⟩ (fun r_38 u_38 H locs hw hP hS => ?_)
              subst hw
              have hP : va_P D vwCl (xw cI a w h Q (fun r => rt_o (F r)) hd bl rs hs ts (fun j => nI (R j)) (nI (n0)) (nI (y))) H := hP
              refine rw_beq (tgt := 64) hx hb d_S_joinAcross_41 (by decide) (fun c_41 => ?_) (fun c_41 => ?_)
              · refine lv_iinc (v := (nI (i + 1))) (lv' := [(4, .int (nI (i + 1))), (5, .int (nI (b))), (0, .ref (a 4)), (1, .ref (a 1)), (2, .int (nI (2 * k + d))), (3, .int (nI (lo)))]) hx hb d_S_joinAcross_64 hl (k := 5) rfl (nI_add _ _) (by decide) rfl (fun ls hl => ?_)
                refine lv_goto (tgt := 12) hx hb d_S_joinAcross_67 (by decide) ?_
                exact ih_12 (i + 1) F R y (by omega) (rt_fJ_a1 hI (fun q ht hm => by obtain ⟨-, b2, h1, -, h3⟩ := hm; rw [ho_25] at h1; cases h1; rw [h3] at c_41; exact of_decide_eq_false c_41 ht.2.1)) _ _ _ hP hS (lv_sub hl [2, 3, 4, 5, 0] rfl)
              · refine lv_aload_n hx hb d_S_joinAcross_44 rfl (lv_at hl 2 rfl) ?_
                refine lv_iload hx hb d_S_joinAcross_45 (lv_at hl 0 rfl) ?_
                refine lv_iconst (v := (nI (1))) hx hb d_S_joinAcross_47 (by decide) ?_
                refine rw_xor hx hb d_S_joinAcross_48 ?_
                refine rw_top (b := rt_rv b) (rt_rv_xor b) ?_
                refine w_ci (As := [.int (nI (rt_rv b))]) (rest := []) ⟨hx, hb, hml, hown, hts⟩ (c_A_hasSignal l D cI cZ g a ha w h Q (fun r => rt_o (F r)) hd bl rs hs ts (fun j => nI (R j)) (nI (n0)) (nI (y)) (rt_rv b) hG (rt_rv_lt hb9)) (cwV 1 hts (t_gV k_methodLink_rn_S_78_y_A_hasSignal k_instanceMethod_y_A_hasSignal k_selects_rn_A_y_A_hasSignal_y_A_hasSignal k_initialized_rn_A k_code_y_A_hasSignal_prog_3_method_10_code_3_some_boolean) rfl rfl rfl (by decide +kernel) ⟨Nat.le_of_ble_eq_true rfl, Nat.le_of_ble_eq_true rfl⟩) (va_recv hK hP (ci := 1) (q0 := 1) rfl rfl) hP hK hZ hS rfl hl.1 rfl (Nat.le_of_ble_eq_true rfl) d_S_joinAcross_49 ⟨Nat.zero_le _, Nat.zero_le _⟩ (fun r_49 u_49 H locs hw hP hS => ?_)
                subst hw
                have hP : va_P D vwCl (xw cI a w h Q (fun r => rt_o (F r)) hd bl rs hs ts (fun j => nI (R j)) (nI (n0)) (nI (y))) H := hP
                refine rw_bne (tgt := 64) hx hb d_S_joinAcross_52 (by decide) (fun c_52 => ?_) (fun c_52 => ?_)
                · refine lv_iinc (v := (nI (i + 1))) (lv' := [(4, .int (nI (i + 1))), (5, .int (nI (b))), (0, .ref (a 4)), (1, .ref (a 1)), (2, .int (nI (2 * k + d))), (3, .int (nI (lo)))]) hx hb d_S_joinAcross_64 hl (k := 5) rfl (nI_add _ _) (by decide) rfl (fun ls hl => ?_)
                  refine lv_goto (tgt := 12) hx hb d_S_joinAcross_67 (by decide) ?_
                  exact ih_12 (i + 1) F R y (by omega) (rt_fJ_a1 hI (fun q ht hm => by obtain ⟨-, b2, h1, h2, -⟩ := hm; rw [ho_25] at h1; cases h1; rw [c_52] at h2; cases h2)) _ _ _ hP hS (lv_sub hl [2, 3, 4, 5, 0] rfl)
                · have htc : rt_tc Q w h k (b / 2) := ⟨rt_fJ_k hI, of_decide_eq_true c_41, Or.inr ⟨d, i, hd0, by omega, c_5, b, ho_25, c_52, rfl⟩⟩
                  refine lv_aload_n hx hb d_S_joinAcross_55 rfl (lv_at hl 1 rfl) ?_
                  refine lv_iload hx hb d_S_joinAcross_56 (lv_at hl 0 rfl) ?_
                  refine lv_iconst (v := (nI (2))) hx hb d_S_joinAcross_58 (by decide) ?_
                  refine rw_div hx hb d_S_joinAcross_59 (by omega) (by omega) (by omega) ?_
                  refine lv_iload_n hx hb d_S_joinAcross_60 rfl (lv_at hl 4 rfl) ?_
                  refine w_cv (As := [.int (nI (b / 2)), .int (nI (lo))]) (rest := []) ⟨hx, hb, hml, hown, hts⟩ (c_S_join l D cI cZ g a ha w h Q (fun r => rt_o (F r)) hd bl rs hs ts (fun j => nI (R j)) (nI (n0)) (nI (y)) F R n0 y (b / 2) lo hG (by omega) (rt_fI_bd hn hlo hBI hI.1) (rt_fJ_cap hw0 hQ hI htc)) (cwV 2 hts (t_gV k_methodLink_rn_S_56_y_S_join k_instanceMethod_y_S_join k_selects_rn_S_y_S_join_y_S_join k_initialized_rn_S k_code_y_S_join_prog_4_method_7_code_3_none) rfl rfl rfl (by decide +kernel) ⟨Nat.le_of_ble_eq_true rfl, Nat.le_of_ble_eq_true rfl⟩) (va_recv hK hP (ci := 2) (q0 := 4) rfl rfl) hP hK hZ hS rfl hl.1 rfl (Nat.le_of_ble_eq_true rfl) d_S_joinAcross_61 ⟨Nat.zero_le _, Nat.zero_le _⟩ (fun u_61 H locs hw hP hS => ?_)
                  have hJ2 := rt_fJ_jn hw0 hQ hBI hI htc
                  rw [← hw] at hJ2
                  obtain ⟨F1, R1, y1⟩ := u_61
                  have hP : va_P D vwCl (xw cI a w h Q (fun r => rt_o (F1 r)) hd bl rs hs ts (fun j => nI (R1 j)) (nI (n0)) (nI (y1))) H := hP
                  have hD : va_D (xA a) (xw cI a w h Q (fun r => rt_o (F1 r)) hd bl rs hs ts (fun j => nI (R1 j)) (nI (n0)) (nI (y1))) := x_D ha _ rfl
                  refine lv_iinc (v := (nI (i + 1))) (lv' := [(4, .int (nI (i + 1))), (5, .int (nI (b))), (0, .ref (a 4)), (1, .ref (a 1)), (2, .int (nI (2 * k + d))), (3, .int (nI (lo)))]) hx hb d_S_joinAcross_64 hl (k := 5) rfl (nI_add _ _) (by decide) rfl (fun ls hl => ?_)
                  refine lv_goto (tgt := 12) hx hb d_S_joinAcross_67 (by decide) ?_
                  exact ih_12 (i + 1) F1 R1 y1 (by omega) (rt_fJ_a2 ho_25 hJ2) _ _ _ hP hS (lv_sub hl [2, 3, 4, 5, 0] rfl)
    exact LP_12 3 0 F R y (by omega) (rt_fJ_weak hJ (fun q ht hq => ⟨hq, fun ⟨j, hj, _⟩ => Nat.not_lt_zero _ hj⟩)) _ _ _ hP hS (lv_sub hl [1, 2, 3, 4, 0] rfl)
  · exact w_vret (F, R, y) hx hb hr hlocks hS hP (rt_fJ_weak hJ (fun q ht hq => ⟨hq, fun ⟨j, _, hm⟩ => by rw [hm.1] at c_5; cases c_5⟩)) d_S_joinAcross_8
end
section
/-! SMALL: a flood's steps; what the search's row holds -/
theorem rt_rN (f : Nat → Int32) : ∃ R : Nat → Nat, f = fun j => nI (R j) := by
  refine ⟨fun j => (f j).toBitVec.toNat, ?_⟩
  funext j
  apply Int32.toBitVec_inj.1
  show (f j).toBitVec = BitVec.ofNat 32 (f j).toBitVec.toNat
  simp
theorem rt_fJ_take {Q : Nat → Nat} {w h : Nat} {G0 : Nat → Option Nat} {x i y : Nat} {F : Nat → Option Nat} {R : Nat → Nat} (I : rt_fI Q w h G0 x F R i y (fun _ _ => False)) (hl : i < y) : rt_fJ Q w h G0 x (i + 1) (R i) F R y (fun _ => True) := by
  refine ⟨rt_fI_drop (rt_fI_take I hl) ?_, by omega, rfl⟩
  intro j q _ _ hp
  exact Or.inr ⟨hp, trivial⟩
theorem rt_fJ_done {Q : Nat → Nat} {w h : Nat} {G0 : Nat → Option Nat} {x n0 k y : Nat} {F : Nat → Option Nat} {R : Nat → Nat} {pd : Nat → Prop} (J : rt_fJ Q w h G0 x n0 k F R y pd) (hp : ∀ q, rt_tc Q w h k q → ¬ pd q) : rt_fI Q w h G0 x F R n0 y (fun _ _ => False) := by
  refine rt_fI_drop J.1 ?_
  rintro j q _ ht ⟨h1, h2⟩
  exact absurd h2 (hp q (by rw [← h1]; exact ht))
theorem rt_fJ_all {Q : Nat → Nat} {w h : Nat} {G0 : Nat → Option Nat} {x n0 k y : Nat} {F : Nat → Option Nat} {R : Nat → Nat} (J : rt_fJ Q w h G0 x n0 k F R y (fun q => ((True ∧ ¬ rt_meet k q) ∧ ¬ ∃ j, j < 3 ∧ rt_acr Q w h k 0 j q) ∧ ¬ ∃ j, j < 3 ∧ rt_acr Q w h k 1 j q)) : rt_fI Q w h G0 x F R n0 y (fun _ _ => False) := by
  refine rt_fJ_done J ?_
  rintro q ⟨-, -, h1 | ⟨d, i, hd, hi, h2⟩⟩ ⟨⟨⟨-, q1⟩, q2⟩, q3⟩
  · exact q1 h1
  · rcases (show d = 0 ∨ d = 1 by omega) with rfl | rfl
    · exact q2 ⟨i, hi, h2⟩
    · exact q3 ⟨i, hi, h2⟩
/-- the row holds the blocks -/
def rt_hB (Q : Nat → Nat) (w h : Nat) (ff : Nat → Int32) (bl : Int32) : Prop := ∃ B : Nat → Nat, rt_isB Q w h B ∧ (∀ q, q < 12 * (w * h) → ff q = rt_o (if Q q ≠ 0 then some (B q) else none)) ∧ bl = nI (rt_nB Q (6 * (w * h)) B)
/-- the row holds the costs to station z -/
def rt_hC (Q : Nat → Nat) (w h z : Nat) (ff : Nat → Int32) : Prop := ∃ K : Nat → Option Nat, rt_isC Q w h z K ∧ rt_small K ∧ ∀ r, r < 12 * (w * h) → ff r = rt_o (K r)
/-- what the search holds is true of the map -/
def rt_hk (Q : Nat → Nat) (w h : Nat) (hd : Int32) (ff : Nat → Int32) (bl : Int32) : Prop := hd = -1 ∨ (hd = nI 8 ∧ rt_hB Q w h ff bl) ∨ ∃ z, z < 8 ∧ hd = nI z ∧ rt_hC Q w h z ff
theorem rt_hk_B {Q : Nat → Nat} {w h : Nat} {ff : Nat → Int32} {bl : Int32} (hk : rt_hk Q w h (nI 8) ff bl) : rt_hB Q w h ff bl := by
  rcases hk with h1 | h1 | ⟨z, hz, h1, -⟩
  · exact absurd h1 (rt_o_ne 8 (by decide))
  · exact h1.2
  · have := (nI_eq (by decide) (by omega)).mp h1
    omega
theorem rt_hk_C {Q : Nat → Nat} {w h z : Nat} {ff : Nat → Int32} {bl : Int32} (hz : z < 8) (hk : rt_hk Q w h (nI z) ff bl) : rt_hC Q w h z ff := by
  rcases hk with h1 | h1 | ⟨z2, hz2, h1, h2⟩
  · exact absurd h1 (rt_o_ne z (by omega))
  · have := (nI_eq (by omega) (by decide)).mp h1.1
    omega
  · have := (nI_eq (by omega) (by omega)).mp h1
    subst this
    exact h2
theorem rt_bI_hB {Q : Nat → Nat} {w h : Nat} {F : Nat → Option Nat} (hQ : rt_ok Q (6 * (w * h))) (I : rt_bI Q w h F (6 * (w * h))) : rt_hB Q w h (fun r => rt_o (F r)) (nI (rt_cB F (6 * (w * h)))) := by
  obtain ⟨h1, h2, h3⟩ := rt_bI_end hQ I
  exact ⟨_, h1, fun q _ => congrArg rt_o (h3 q), by rw [h2]⟩
theorem rt_cB_skip {F : Nat → Option Nat} {k : Nat} (h : F k ≠ some k) : rt_cB F (k + 1) = rt_cB F k := by
  rw [rt_cB_succ, if_neg h]
  rfl
theorem rt_cB_one {F G : Nat → Option Nat} {k : Nat} (h : F k = some k) (hq : ∀ q, q < k → F q = G q) : rt_cB F (k + 1) = rt_cB G k + 1 := by
  rw [rt_cB_succ, if_pos h, rt_cB_eq hq]
theorem rt_cB_le (F : Nat → Option Nat) (x : Nat) : rt_cB F x ≤ x := rt_cnt_le _ x
end
section
/-! Search, blocks: by program (wip/whole/gen/blocks2.py) -/
set_option maxHeartbeats 4000000 in
set_option maxRecDepth 100000 in
theorem c_S_floodBlock (l : Launch) (D : va_G) (cI cZ : ClassId) (g a : Nat → Nat) (ha : xI a) (w h : Nat) (Q : Nat → Nat) (ff : Nat → Int32) (hd bl : Int32) (rs : Nat → Int32) (hs ts : Int32) (rc : Nat → Int32) (hc tc : Int32) (G0 : Nat → Option Nat) (R : Nat → Nat) (lo : Nat) (hG : rt_G w h Q) (hlo : lo < 6 * (w * h)) (hBI : rt_bI Q w h G0 lo) (hn0 : G0 lo = none) (hq0 : Q lo ≠ 0) : Met l y_S_floodBlock (.code y_S_floodBlock b_S_floodBlock 5 none :: tG) ({ frames := 3, cells := 0, slots := 0, locals := 69 }) (va_Pc [.ref (a 4), .ref (a 1), .int (nI (lo))] (wU D cI cZ g (xA a) (xw cI a w h Q (fun r => rt_o (G0 r)) hd bl rs hs ts (fun j => nI (R j)) hc tc))) (va_Qv (S := ((Nat → Option Nat) × (Nat → Nat) × Nat × Nat)) (fun u => rt_bI Q w h u.1 (lo + 1) ∧ u.1 lo = some lo ∧ ∀ q, q < lo → u.1 q = G0 q) (wB D (fun (u : ((Nat → Option Nat) × (Nat → Nat) × Nat × Nat)) => (xw cI a w h Q (fun r => rt_o (u.1 r)) hd bl rs hs ts (fun j => nI (u.2.1 j)) (nI (u.2.2.1)) (nI (u.2.2.2))))) (xA a)) 0 0 (xA a) := by
  refine Met.ofW (cc := b_S_floodBlock) (maxL := 5) (ret := none) (by decide) rfl ?_
  intro p e s m args below meth c s₁ B hml hv
  obtain ⟨rfl, hP, hK, hZ⟩ := hv
  have hx := B.exec
  have hb := B.bytes
  have hr := B.returns
  have hts : ∀ w ∈ tG, w.before _ s = true := fun w hw => atoms_spec (ws := .code y_S_floodBlock b_S_floodBlock 5 none :: tG) B.pre w (List.mem_cons_of_mem _ hw)
  have hown : s.vm.findClass rn_S = some m.cls := findClass_of_methodNamed B.named
  have hlocks := B.notSynchronized
  have hS : va_S (xA a) s.heap s.heap [] := va_S.rf
  have hD : va_D (xA a) (xw cI a w h Q (fun r => rt_o (G0 r)) hd bl rs hs ts (fun j => nI (R j)) hc tc) := x_D ha _ rfl
  have hP : va_P D vwCl (xw cI a w h Q (fun r => rt_o (G0 r)) hd bl rs hs ts (fun j => nI (R j)) hc tc) s.heap := hP
  have hl := lv_entry ([.ref (a 4), .ref (a 1), .int (nI (lo))]) (n := 5) (Nat.le_of_ble_eq_true rfl)
  rw [lg_entry_eq]
  generalize (lg_sl ([.ref (a 4), .ref (a 1), .int (nI (lo))]) ++ List.replicate (5 - (lg_sl ([.ref (a 4), .ref (a 1), .int (nI (lo))])).length) Slot.unset).toArray = ls at hl ⊢
  have hl : lv_has ls 5 [(0, .ref (a 4)), (1, .ref (a 1)), (2, .int (nI (lo)))] := hl
  obtain ⟨hn1, hn⟩ := hG.n
  have hw0 : 0 < w := by have := hG.1.1; omega
  have hQ := hG.2.2
  refine lv_aload_n hx hb d_S_floodBlock_0 rfl (lv_at hl 0 rfl) ?_
  refine va_get (D := D) (ci := 2) (v := .ref (a 8)) (C := rn_S) (T := tf_S) (N := 5) hx hb hts in_S hown hK hP 4 rfl rfl 2 (by decide) (hts _ k_fieldLink_rn_S_26_rn_S_curves_LRouteTracks_Queue) (fun _ h9 => h9) rfl d_S_floodBlock_1 ?_
  refine w_cv (As := []) (rest := []) ⟨hx, hb, hml, hown, hts⟩ (c_Q_clear_c l D cI cZ g a ha w h Q (fun r => rt_o (G0 r)) hd bl rs hs ts (fun j => nI (R j)) hc tc  hG) (cwV 0 hts (t_gV k_methodLink_rn_S_53_y_Q_clear k_instanceMethod_y_Q_clear k_selects_rn_Q_y_Q_clear_y_Q_clear k_initialized_rn_Q k_code_y_Q_clear_prog_2_method_2_code_1_none) rfl rfl rfl (by decide +kernel) ⟨Nat.le_of_ble_eq_true rfl, Nat.le_of_ble_eq_true rfl⟩) (va_recv hK hP (ci := 0) (q0 := 8) rfl rfl) hP hK hZ hS rfl hl.1 rfl (Nat.le_of_ble_eq_true rfl) d_S_floodBlock_4 ⟨Nat.zero_le _, Nat.zero_le _⟩ (fun u_4 H locs hw hP hS => ?_)
  have hP : va_P D vwCl (xw cI a w h Q (fun r => rt_o (G0 r)) hd bl rs hs ts (fun j => nI (R j)) (nI (0)) (nI (0))) H := hP
  have hD : va_D (xA a) (xw cI a w h Q (fun r => rt_o (G0 r)) hd bl rs hs ts (fun j => nI (R j)) (nI (0)) (nI (0))) := x_D ha _ rfl
  refine lv_aload_n hx hb d_S_floodBlock_7 rfl (lv_at hl 0 rfl) ?_
  refine lv_iload_n hx hb d_S_floodBlock_8 rfl (lv_at hl 2 rfl) ?_
  refine lv_iload_n hx hb d_S_floodBlock_9 rfl (lv_at hl 2 rfl) ?_
  refine w_cv (As := [.int (nI (lo)), .int (nI (lo))]) (rest := []) ⟨hx, hb, hml, hown, hts⟩ (c_S_join l D cI cZ g a ha w h Q (fun r => rt_o (G0 r)) hd bl rs hs ts (fun j => nI (R j)) (nI (0)) (nI (0)) G0 R 0 0 lo lo hG (by omega) (rt_bI_bd hn (by omega) hBI) (fun _ => by omega)) (cwV 2 hts (t_gV k_methodLink_rn_S_56_y_S_join k_instanceMethod_y_S_join k_selects_rn_S_y_S_join_y_S_join k_initialized_rn_S k_code_y_S_join_prog_4_method_7_code_3_none) rfl rfl rfl (by decide +kernel) ⟨Nat.le_of_ble_eq_true rfl, Nat.le_of_ble_eq_true rfl⟩) (va_recv hK hP (ci := 2) (q0 := 4) rfl rfl) hP hK hZ hS rfl hl.1 rfl (Nat.le_of_ble_eq_true rfl) d_S_floodBlock_10 ⟨Nat.zero_le _, Nat.zero_le _⟩ (fun u_10 H locs hw hP hS => ?_)
  rw [rt_jn_t hn0] at hw
  subst hw
  have hP : va_P D vwCl (xw cI a w h Q (fun r => rt_o (va_up G0 lo (some lo) r)) hd bl rs hs ts (fun j => nI (va_up R 0 lo j)) (nI (0)) (nI (0 + 1))) H := hP
  have hD : va_D (xA a) (xw cI a w h Q (fun r => rt_o (va_up G0 lo (some lo) r)) hd bl rs hs ts (fun j => nI (va_up R 0 lo j)) (nI (0)) (nI (0 + 1))) := x_D ha _ rfl
  refine lv_iconst (v := (nI (0))) hx hb d_S_floodBlock_13 (by decide) ?_
  refine lv_istore_n (lv' := [(3, .int (nI (0))), (0, .ref (a 4)), (1, .ref (a 1)), (2, .int (nI (lo)))]) hx hb d_S_floodBlock_14 rfl hl (by decide) rfl (fun ls hl => ?_)
  have LP_15 : ∀ (n_15 : Nat) (i : Nat) (F : Nat → Option Nat) (R : Nat → Nat) (y : Nat), i + n_15 = 12 * (w * h) → (rt_fI Q w h G0 lo F R i y (fun _ _ => False)) → ∀ (H : Heap) (locs : List Loc) (ls : Array Slot), va_P D vwCl (xw cI a w h Q (fun r => rt_o (F r)) hd bl rs hs ts (fun j => nI (R j)) (nI (i)) (nI (y))) H → va_S (xA a) s.heap H locs → lv_has ls 5 [(0, .ref (a 4)), (1, .ref (a 1)), (2, .int (nI (lo))), (3, .int (nI (i)))] → W p l e (headSpec (.code y_S_floodBlock b_S_floodBlock 5 none :: tG) ({ frames := 3, cells := 0, slots := 0, locals := 69 })).room s m ([.ref (a 4), .ref (a 1), .int (nI (lo))] : List Value).toArray below meth c H locs 0 0 (MQ below (va_Qv (S := ((Nat → Option Nat) × (Nat → Nat) × Nat × Nat)) (fun u => rt_bI Q w h u.1 (lo + 1) ∧ u.1 lo = some lo ∧ ∀ q, q < lo → u.1 q = G0 q) (wB D (fun (u : ((Nat → Option Nat) × (Nat → Nat) × Nat × Nat)) => (xw cI a w h Q (fun r => rt_o (u.1 r)) hd bl rs hs ts (fun j => nI (u.2.1 j)) (nI (u.2.2.1)) (nI (u.2.2.2))))) (xA a)) ([.ref (a 4), .ref (a 1), .int (nI (lo))] : List Value).toArray s 0 0 (xA a)) (F0 m 15 ls []) := by
    intro n_15
    induction n_15 with
    | zero =>
      intro i F R y hrel_15 hI H locs ls hP hS hl
      have hD : va_D (xA a) (xw cI a w h Q (fun r => rt_o (F r)) hd bl rs hs ts (fun j => nI (R j)) (nI (i)) (nI (y))) := x_D ha _ rfl
      refine lv_iload_n hx hb d_S_floodBlock_15 rfl (lv_at hl 3 rfl) ?_
      refine lv_aload_n hx hb d_S_floodBlock_16 rfl (lv_at hl 0 rfl) ?_
      refine va_get (D := D) (ci := 2) (v := .ref (a 5)) (C := rn_S) (T := tf_S) (N := 5) hx hb hts in_S hown hK hP 4 rfl rfl 0 (by decide) (hts _ k_fieldLink_rn_S_11_rn_S_found_I) (fun _ h9 => h9) rfl d_S_floodBlock_17 ?_
      refine va_alen (v := nI (12 * (w * h))) hx hb hK hP 5 0 rfl rfl rfl d_S_floodBlock_20 ?_
      refine rw_cge (tgt := 79) hx hb d_S_floodBlock_21 (by decide) (by omega) (by omega) (fun c_21 => ?_) (fun c_21 => ?_)
      · exfalso
        have h1 := rt_fI_cap hQ hI
        have h2 := hI.1
        omega
      · omega
    | succ n_15 ih_15 =>
      intro i F R y hrel_15 hI H locs ls hP hS hl
      have hD : va_D (xA a) (xw cI a w h Q (fun r => rt_o (F r)) hd bl rs hs ts (fun j => nI (R j)) (nI (i)) (nI (y))) := x_D ha _ rfl
      refine lv_iload_n hx hb d_S_floodBlock_15 rfl (lv_at hl 3 rfl) ?_
      refine lv_aload_n hx hb d_S_floodBlock_16 rfl (lv_at hl 0 rfl) ?_
      refine va_get (D := D) (ci := 2) (v := .ref (a 5)) (C := rn_S) (T := tf_S) (N := 5) hx hb hts in_S hown hK hP 4 rfl rfl 0 (by decide) (hts _ k_fieldLink_rn_S_11_rn_S_found_I) (fun _ h9 => h9) rfl d_S_floodBlock_17 ?_
      refine va_alen (v := nI (12 * (w * h))) hx hb hK hP 5 0 rfl rfl rfl d_S_floodBlock_20 ?_
      refine rw_cge (tgt := 79) hx hb d_S_floodBlock_21 (by decide) (by omega) (by omega) (fun c_21 => ?_) (fun c_21 => ?_)
      · omega
      · refine lv_aload_n hx hb d_S_floodBlock_24 rfl (lv_at hl 0 rfl) ?_
        refine va_get (D := D) (ci := 2) (v := .ref (a 8)) (C := rn_S) (T := tf_S) (N := 5) hx hb hts in_S hown hK hP 4 rfl rfl 2 (by decide) (hts _ k_fieldLink_rn_S_26_rn_S_curves_LRouteTracks_Queue) (fun _ h9 => h9) rfl d_S_floodBlock_25 ?_
        refine w_ci (As := []) (rest := []) ⟨hx, hb, hml, hown, hts⟩ (c_Q_isEmpty_c l D cI cZ g a ha w h Q (fun r => rt_o (F r)) hd bl rs hs ts (fun j => nI (R j)) (nI (i)) (nI (y)) R i y hG (by omega) (by have := rt_fI_cap hQ hI; omega)) (cwV 0 hts (t_gV k_methodLink_rn_S_60_y_Q_isEmpty k_instanceMethod_y_Q_isEmpty k_selects_rn_Q_y_Q_isEmpty_y_Q_isEmpty k_initialized_rn_Q k_code_y_Q_isEmpty_prog_2_method_3_code_1_some_boolean) rfl rfl rfl (by decide +kernel) ⟨Nat.le_of_ble_eq_true rfl, Nat.le_of_ble_eq_true rfl⟩) (va_recv hK hP (ci := 0) (q0 := 8) rfl rfl) hP hK hZ hS rfl hl.1 rfl (Nat.le_of_ble_eq_true rfl) d_S_floodBlock_28 ⟨Nat.zero_le _, Nat.zero_le _⟩ (fun r_28 u_28 H locs hw hP hS => ?_)
        subst hw
        have hP : va_P D vwCl (xw cI a w h Q (fun r => rt_o (F r)) hd bl rs hs ts (fun j => nI (R j)) (nI (i)) (nI (y))) H := hP
        refine rw_bne (tgt := 79) hx hb d_S_floodBlock_31 (by decide) (fun c_31 => ?_) (fun c_31 => ?_)
        · obtain rfl : i = y := by have h1 := hI.1; have h2 := of_decide_eq_true c_31; omega
          exact w_vret (F, R, i, i) hx hb hr hlocks hS hP (rt_fI_end hBI hI) d_S_floodBlock_79
        · refine lv_aload_n hx hb d_S_floodBlock_34 rfl (lv_at hl 0 rfl) ?_
          refine va_get (D := D) (ci := 2) (v := .ref (a 8)) (C := rn_S) (T := tf_S) (N := 5) hx hb hts in_S hown hK hP 4 rfl rfl 2 (by decide) (hts _ k_fieldLink_rn_S_26_rn_S_curves_LRouteTracks_Queue) (fun _ h9 => h9) rfl d_S_floodBlock_35 ?_
          refine w_ci (As := []) (rest := []) ⟨hx, hb, hml, hown, hts⟩ (c_Q_take_c l D cI cZ g a ha w h Q (fun r => rt_o (F r)) hd bl rs hs ts (fun j => nI (R j)) (nI (i)) (nI (y)) R i y hG (by omega) (by have := rt_fI_cap hQ hI; omega)) (cwV 0 hts (t_gV k_methodLink_rn_S_64_y_Q_take k_instanceMethod_y_Q_take k_selects_rn_Q_y_Q_take_y_Q_take k_initialized_rn_Q k_code_y_Q_take_prog_2_method_6_code_2_some_int) rfl rfl rfl (by decide +kernel) ⟨Nat.le_of_ble_eq_true rfl, Nat.le_of_ble_eq_true rfl⟩) (va_recv hK hP (ci := 0) (q0 := 8) rfl rfl) hP hK hZ hS rfl hl.1 rfl (Nat.le_of_ble_eq_true rfl) d_S_floodBlock_38 ⟨Nat.zero_le _, Nat.zero_le _⟩ (fun r_38 u_38 H locs hw hP hS => ?_)
          have hlt : i < y := by have := of_decide_eq_false c_31; omega
          rw [if_pos hlt, if_pos hlt] at hw
          obtain ⟨hw1, hw2⟩ := hw
          subst hw1
          subst hw2
          obtain ⟨k, hk⟩ : ∃ k, k = R i := ⟨_, rfl⟩
          have hJ := rt_fJ_take hI hlt
          rw [← hk] at hJ
          have hk6 : k < 6 * (w * h) := rt_ok_in hQ (rt_fJ_k hJ)
          refine rw_topI (b := nI k) (by rw [hk]; rfl) ?_
          have hP : va_P D vwCl (xw cI a w h Q (fun r => rt_o (F r)) hd bl rs hs ts (fun j => nI (R j)) (nI (i + 1)) (nI (y))) H := hP
          have hD : va_D (xA a) (xw cI a w h Q (fun r => rt_o (F r)) hd bl rs hs ts (fun j => nI (R j)) (nI (i + 1)) (nI (y))) := x_D ha _ rfl
          refine lv_istore (lv' := [(4, .int (nI (k))), (0, .ref (a 4)), (1, .ref (a 1)), (2, .int (nI (lo))), (3, .int (nI (i)))]) hx hb d_S_floodBlock_41 hl (by decide) rfl (fun ls hl => ?_)
          refine lv_aload_n hx hb d_S_floodBlock_43 rfl (lv_at hl 1 rfl) ?_
          refine lv_aload_n hx hb d_S_floodBlock_44 rfl (lv_at hl 2 rfl) ?_
          refine lv_iload hx hb d_S_floodBlock_45 (lv_at hl 0 rfl) ?_
          refine lv_iload_n hx hb d_S_floodBlock_47 rfl (lv_at hl 3 rfl) ?_
          refine w_cv (As := [.ref (a 1), .int (nI (k)), .int (nI (lo))]) (rest := []) ⟨hx, hb, hml, hown, hts⟩ (c_S_joinMeeting l D cI cZ g a ha w h Q (fun r => rt_o (F r)) hd bl rs hs ts (fun j => nI (R j)) (nI (i + 1)) (nI (y)) G0 F R (i + 1) y k lo (fun _ => True) hG hlo hBI hJ hk6) (cwV 3 hts (t_gV k_methodLink_rn_S_68_y_S_joinMeeting k_instanceMethod_y_S_joinMeeting k_selects_rn_S_y_S_joinMeeting_y_S_joinMeeting k_initialized_rn_S k_code_y_S_joinMeeting_prog_4_method_5_code_7_none) rfl rfl rfl (by decide +kernel) ⟨Nat.le_of_ble_eq_true rfl, Nat.le_of_ble_eq_true rfl⟩) (va_recv hK hP (ci := 2) (q0 := 4) rfl rfl) hP hK hZ hS rfl hl.1 rfl (Nat.le_of_ble_eq_true rfl) d_S_floodBlock_48 ⟨Nat.zero_le _, Nat.zero_le _⟩ (fun u_48 H locs hw hP hS => ?_)
          obtain ⟨F1, R1, y1⟩ := u_48
          have hP : va_P D vwCl (xw cI a w h Q (fun r => rt_o (F1 r)) hd bl rs hs ts (fun j => nI (R1 j)) (nI (i + 1)) (nI (y1))) H := hP
          have hD : va_D (xA a) (xw cI a w h Q (fun r => rt_o (F1 r)) hd bl rs hs ts (fun j => nI (R1 j)) (nI (i + 1)) (nI (y1))) := x_D ha _ rfl
          have hJ1 := hw
          refine lv_aload_n hx hb d_S_floodBlock_51 rfl (lv_at hl 1 rfl) ?_
          refine lv_aload_n hx hb d_S_floodBlock_52 rfl (lv_at hl 2 rfl) ?_
          refine lv_iconst (v := (nI (2))) hx hb d_S_floodBlock_53 (by decide) ?_
          refine lv_iload hx hb d_S_floodBlock_54 (lv_at hl 0 rfl) ?_
          refine rw_mul hx hb d_S_floodBlock_56 ?_
          refine lv_iload_n hx hb d_S_floodBlock_57 rfl (lv_at hl 3 rfl) ?_
          refine w_cv (As := [.ref (a 1), .int (nI (2 * k)), .int (nI (lo))]) (rest := []) ⟨hx, hb, hml, hown, hts⟩ (c_S_joinAcross l D cI cZ g a ha w h Q (fun r => rt_o (F1 r)) hd bl rs hs ts (fun j => nI (R1 j)) (nI (i + 1)) (nI (y1)) G0 F1 R1 (i + 1) y1 k lo _ 0 hG hlo hBI hJ1 hk6 (by decide)) (cwV 3 hts (t_gV k_methodLink_rn_S_72_y_S_joinAcross k_instanceMethod_y_S_joinAcross k_selects_rn_S_y_S_joinAcross_y_S_joinAcross k_initialized_rn_S k_code_y_S_joinAcross_prog_4_method_6_code_6_none) rfl rfl rfl (by decide +kernel) ⟨Nat.le_of_ble_eq_true rfl, Nat.le_of_ble_eq_true rfl⟩) (va_recv hK hP (ci := 2) (q0 := 4) rfl rfl) hP hK hZ hS rfl hl.1 rfl (Nat.le_of_ble_eq_true rfl) d_S_floodBlock_58 ⟨Nat.zero_le _, Nat.zero_le _⟩ (fun u_58 H locs hw hP hS => ?_)
          obtain ⟨F2, R2, y2⟩ := u_58
          have hP : va_P D vwCl (xw cI a w h Q (fun r => rt_o (F2 r)) hd bl rs hs ts (fun j => nI (R2 j)) (nI (i + 1)) (nI (y2))) H := hP
          have hD : va_D (xA a) (xw cI a w h Q (fun r => rt_o (F2 r)) hd bl rs hs ts (fun j => nI (R2 j)) (nI (i + 1)) (nI (y2))) := x_D ha _ rfl
          have hJ2 := hw
          refine lv_aload_n hx hb d_S_floodBlock_61 rfl (lv_at hl 1 rfl) ?_
          refine lv_aload_n hx hb d_S_floodBlock_62 rfl (lv_at hl 2 rfl) ?_
          refine lv_iconst (v := (nI (2))) hx hb d_S_floodBlock_63 (by decide) ?_
          refine lv_iload hx hb d_S_floodBlock_64 (lv_at hl 0 rfl) ?_
          refine rw_mul hx hb d_S_floodBlock_66 ?_
          refine lv_iconst (v := (nI (1))) hx hb d_S_floodBlock_67 (by decide) ?_
          refine rw_add hx hb d_S_floodBlock_68 ?_
          refine lv_iload_n hx hb d_S_floodBlock_69 rfl (lv_at hl 3 rfl) ?_
          refine w_cv (As := [.ref (a 1), .int (nI ((2 * k) + 1)), .int (nI (lo))]) (rest := []) ⟨hx, hb, hml, hown, hts⟩ (c_S_joinAcross l D cI cZ g a ha w h Q (fun r => rt_o (F2 r)) hd bl rs hs ts (fun j => nI (R2 j)) (nI (i + 1)) (nI (y2)) G0 F2 R2 (i + 1) y2 k lo _ 1 hG hlo hBI hJ2 hk6 (by decide)) (cwV 3 hts (t_gV k_methodLink_rn_S_72_y_S_joinAcross k_instanceMethod_y_S_joinAcross k_selects_rn_S_y_S_joinAcross_y_S_joinAcross k_initialized_rn_S k_code_y_S_joinAcross_prog_4_method_6_code_6_none) rfl rfl rfl (by decide +kernel) ⟨Nat.le_of_ble_eq_true rfl, Nat.le_of_ble_eq_true rfl⟩) (va_recv hK hP (ci := 2) (q0 := 4) rfl rfl) hP hK hZ hS rfl hl.1 rfl (Nat.le_of_ble_eq_true rfl) d_S_floodBlock_70 ⟨Nat.zero_le _, Nat.zero_le _⟩ (fun u_70 H locs hw hP hS => ?_)
          obtain ⟨F3, R3, y3⟩ := u_70
          have hP : va_P D vwCl (xw cI a w h Q (fun r => rt_o (F3 r)) hd bl rs hs ts (fun j => nI (R3 j)) (nI (i + 1)) (nI (y3))) H := hP
          have hD : va_D (xA a) (xw cI a w h Q (fun r => rt_o (F3 r)) hd bl rs hs ts (fun j => nI (R3 j)) (nI (i + 1)) (nI (y3))) := x_D ha _ rfl
          have hJ3 := hw
          refine lv_iinc (v := (nI (i + 1))) (lv' := [(3, .int (nI (i + 1))), (4, .int (nI (k))), (0, .ref (a 4)), (1, .ref (a 1)), (2, .int (nI (lo)))]) hx hb d_S_floodBlock_73 hl (k := 4) rfl (nI_add _ _) (by decide) rfl (fun ls hl => ?_)
          refine lv_goto (tgt := 15) hx hb d_S_floodBlock_76 (by decide) ?_
          exact ih_15 (i + 1) F3 R3 y3 (by omega) (rt_fJ_all hJ3) _ _ _ hP hS (lv_sub hl [2, 3, 4, 0] rfl)
  exact LP_15 (12 * (w * h)) 0 _ _ (0 + 1) (by omega) (rt_fI_0 hBI hq0 hn0) _ _ _ hP hS (lv_sub hl [1, 2, 3, 0] rfl)

set_option maxHeartbeats 4000000 in
set_option maxRecDepth 100000 in
theorem c_S_findBlocks (l : Launch) (D : va_G) (cI cZ : ClassId) (g a : Nat → Nat) (ha : xI a) (w h : Nat) (Q : Nat → Nat) (ff : Nat → Int32) (hd bl : Int32) (rs : Nat → Int32) (hs ts : Int32) (rc : Nat → Int32) (hc tc : Int32)  (hG : rt_G w h Q) (hk0 : rt_hk Q w h hd ff bl) : Met l y_S_findBlocks (.code y_S_findBlocks b_S_findBlocks 3 none :: tG) ({ frames := 4, cells := 0, slots := 0, locals := 93 }) (va_Pc [.ref (a 4), .ref (a 1)] (wU D cI cZ g (xA a) (xw cI a w h Q ff hd bl rs hs ts rc hc tc))) (va_Qv (S := ((Nat → Int32) × Int32 × (Nat → Int32) × Int32 × Int32)) (fun u => rt_hB Q w h u.1 u.2.1) (wB D (fun (u : ((Nat → Int32) × Int32 × (Nat → Int32) × Int32 × Int32)) => (xw cI a w h Q u.1 (nI 8) u.2.1 rs hs ts u.2.2.1 u.2.2.2.1 u.2.2.2.2))) (xA a)) 0 0 (xA a) := by
  refine Met.ofW (cc := b_S_findBlocks) (maxL := 3) (ret := none) (by decide) rfl ?_
  intro p e s m args below meth c s₁ B hml hv
  obtain ⟨rfl, hP, hK, hZ⟩ := hv
  have hx := B.exec
  have hb := B.bytes
  have hr := B.returns
  have hts : ∀ w ∈ tG, w.before _ s = true := fun w hw => atoms_spec (ws := .code y_S_findBlocks b_S_findBlocks 3 none :: tG) B.pre w (List.mem_cons_of_mem _ hw)
  have hown : s.vm.findClass rn_S = some m.cls := findClass_of_methodNamed B.named
  have hlocks := B.notSynchronized
  have hS : va_S (xA a) s.heap s.heap [] := va_S.rf
  have hD : va_D (xA a) (xw cI a w h Q ff hd bl rs hs ts rc hc tc) := x_D ha _ rfl
  have hP : va_P D vwCl (xw cI a w h Q ff hd bl rs hs ts rc hc tc) s.heap := hP
  have hl := lv_entry ([.ref (a 4), .ref (a 1)]) (n := 3) (Nat.le_of_ble_eq_true rfl)
  rw [lg_entry_eq]
  generalize (lg_sl ([.ref (a 4), .ref (a 1)]) ++ List.replicate (3 - (lg_sl ([.ref (a 4), .ref (a 1)])).length) Slot.unset).toArray = ls at hl ⊢
  have hl : lv_has ls 3 [(0, .ref (a 4)), (1, .ref (a 1))] := hl
  obtain ⟨hn1, hn⟩ := hG.n
  have hw0 : 0 < w := by have := hG.1.1; omega
  have hQ := hG.2.2
  refine lv_aload_n hx hb d_S_findBlocks_0 rfl (lv_at hl 0 rfl) ?_
  refine va_get (D := D) (ci := 2) (v := .int (hd)) (C := rn_S) (T := tf_S) (N := 5) hx hb hts in_S hown hK hP 4 rfl rfl 3 (by decide) (hts _ k_fieldLink_rn_S_29_rn_S_held_I) (fun _ h9 => h9) rfl d_S_findBlocks_1 ?_
  refine lv_bipush (v := (nI (8))) hx hb d_S_findBlocks_4 (by decide) ?_
  refine lv_icmp_ne (tgt := 10) hx hb d_S_findBlocks_6 (by decide) (fun c_6 => ?_) (fun c_6 => ?_)
  · refine lv_aload_n hx hb d_S_findBlocks_10 rfl (lv_at hl 0 rfl) ?_
    refine lv_bipush (v := (nI (8))) hx hb d_S_findBlocks_11 (by decide) ?_
    refine va_put (D := D) (ci := 2) (v := .int (nI (8))) (ty := .int) (C := rn_S) (T := tf_S) (N := 5) hx hb hts in_S tt_S tt_S_ok nm_S hown hK hP hD hS 4 rfl rfl 3 (by decide) (hts _ k_fieldLink_rn_S_29_rn_S_held_I) (fun _ h9 => h9) rfl (by decide +kernel) rfl rfl (Nat.le_of_ble_eq_true rfl) d_S_findBlocks_13 (fun H locs hP hD hS => ?_)
    have hP : va_P D vwCl (xw cI a w h Q ff (nI (8)) bl rs hs ts rc hc tc) H := hP
    have hD : va_D (xA a) (xw cI a w h Q ff (nI (8)) bl rs hs ts rc hc tc) := x_D ha _ rfl
    refine lv_aload_n hx hb d_S_findBlocks_16 rfl (lv_at hl 0 rfl) ?_
    refine lv_iconst (v := (nI (0))) hx hb d_S_findBlocks_17 (by decide) ?_
    refine va_put (D := D) (ci := 2) (v := .int (nI (0))) (ty := .int) (C := rn_S) (T := tf_S) (N := 5) hx hb hts in_S tt_S tt_S_ok nm_S hown hK hP hD hS 4 rfl rfl 4 (by decide) (hts _ k_fieldLink_rn_S_33_rn_S_blocks_I) (fun _ h9 => h9) rfl (by decide +kernel) rfl rfl (Nat.le_of_ble_eq_true rfl) d_S_findBlocks_18 (fun H locs hP hD hS => ?_)
    have hP : va_P D vwCl (xw cI a w h Q ff (nI (8)) (nI (0)) rs hs ts rc hc tc) H := hP
    have hD : va_D (xA a) (xw cI a w h Q ff (nI (8)) (nI (0)) rs hs ts rc hc tc) := x_D ha _ rfl
    refine lv_aload_n hx hb d_S_findBlocks_21 rfl (lv_at hl 0 rfl) ?_
    refine va_get (D := D) (ci := 2) (v := .ref (a 5)) (C := rn_S) (T := tf_S) (N := 5) hx hb hts in_S hown hK hP 4 rfl rfl 0 (by decide) (hts _ k_fieldLink_rn_S_11_rn_S_found_I) (fun _ h9 => h9) rfl d_S_findBlocks_22 ?_
    refine lv_iconst (v := (-1)) hx hb d_S_findBlocks_25 (by decide) ?_
    refine w_sv (As := [.ref (a 5), .int (-1)]) (rest := []) ⟨hx, hb, hml, hown, hts⟩ (c_JA_fill l D cI cZ g a ha w h Q ff (nI (8)) (nI (0)) rs hs ts rc hc tc (-1) hG) (va_cwS 2 hts (t_gS k_methodLink_rn_S_36_y_JA_fill k_static_y_JA_fill k_initialized_rn_JA k_code_y_JA_fill_prog_14_method_103_code_4_none) rfl rfl rfl (by decide +kernel) ⟨Nat.le_of_ble_eq_true rfl, Nat.le_of_ble_eq_true rfl⟩) hP hK hZ hS rfl hl.1 rfl (Nat.le_of_ble_eq_true rfl) d_S_findBlocks_26 ⟨Nat.zero_le _, Nat.zero_le _⟩ (fun u_26 H locs hw hP hS => ?_)
    have hP : va_P D vwCl (xw cI a w h Q (fun r => rt_o ((fun _ => none) r)) (nI (8)) (nI (0)) rs hs ts rc hc tc) H := hP
    have hD : va_D (xA a) (xw cI a w h Q (fun r => rt_o ((fun _ => none) r)) (nI (8)) (nI (0)) rs hs ts rc hc tc) := x_D ha _ rfl
    obtain ⟨R, rfl⟩ := rt_rN rc
    have hP : va_P D vwCl (xw cI a w h Q (fun r => rt_o ((fun _ => none) r)) (nI (8)) (nI (rt_cB (fun _ => none) 0)) rs hs ts (fun j => nI (R j)) hc tc) H := hP
    have hD : va_D (xA a) (xw cI a w h Q (fun r => rt_o ((fun _ => none) r)) (nI (8)) (nI (rt_cB (fun _ => none) 0)) rs hs ts (fun j => nI (R j)) hc tc) := x_D ha _ rfl
    refine lv_iconst (v := (nI (0))) hx hb d_S_findBlocks_29 (by decide) ?_
    refine lv_istore_n (lv' := [(2, .int (nI (0))), (0, .ref (a 4)), (1, .ref (a 1))]) hx hb d_S_findBlocks_30 rfl hl (by decide) rfl (fun ls hl => ?_)
    have LP_31 : ∀ (n_31 : Nat) (k : Nat) (F : Nat → Option Nat) (R : Nat → Nat) (xc : Int32) (yc : Int32), k + n_31 = 6 * (w * h) → (rt_bI Q w h F k) → ∀ (H : Heap) (locs : List Loc) (ls : Array Slot), va_P D vwCl (xw cI a w h Q (fun r => rt_o (F r)) (nI (8)) (nI (rt_cB F k)) rs hs ts (fun j => nI (R j)) xc yc) H → va_S (xA a) s.heap H locs → lv_has ls 3 [(0, .ref (a 4)), (1, .ref (a 1)), (2, .int (nI (k)))] → W p l e (headSpec (.code y_S_findBlocks b_S_findBlocks 3 none :: tG) ({ frames := 4, cells := 0, slots := 0, locals := 93 })).room s m ([.ref (a 4), .ref (a 1)] : List Value).toArray below meth c H locs 0 0 (MQ below (va_Qv (S := ((Nat → Int32) × Int32 × (Nat → Int32) × Int32 × Int32)) (fun u => rt_hB Q w h u.1 u.2.1) (wB D (fun (u : ((Nat → Int32) × Int32 × (Nat → Int32) × Int32 × Int32)) => (xw cI a w h Q u.1 (nI 8) u.2.1 rs hs ts u.2.2.1 u.2.2.2.1 u.2.2.2.2))) (xA a)) ([.ref (a 4), .ref (a 1)] : List Value).toArray s 0 0 (xA a)) (F0 m 31 ls []) := by
      intro n_31
      induction n_31 with
      | zero =>
        intro k F R xc yc hrel_31 hI H locs ls hP hS hl
        have hD : va_D (xA a) (xw cI a w h Q (fun r => rt_o (F r)) (nI (8)) (nI (rt_cB F k)) rs hs ts (fun j => nI (R j)) xc yc) := x_D ha _ rfl
        refine lv_iload_n hx hb d_S_findBlocks_31 rfl (lv_at hl 2 rfl) ?_
        refine lv_aload_n hx hb d_S_findBlocks_32 rfl (lv_at hl 1 rfl) ?_
        refine va_get (D := D) (ci := 1) (v := .ref (a 3)) (C := rn_A) (T := tf_A) (N := 2) hx hb hts in_A hown hK hP 1 rfl rfl 1 (by decide) (hts _ k_fieldLink_rn_S_42_rn_A_pieces_I) (fun _ h9 => h9) rfl d_S_findBlocks_33 ?_
        refine va_alen (v := nI (6 * (w * h))) hx hb hK hP 3 0 rfl rfl rfl d_S_findBlocks_36 ?_
        refine rw_cge (tgt := 80) hx hb d_S_findBlocks_37 (by decide) (by omega) (by omega) (fun c_37 => ?_) (fun c_37 => ?_)
        · obtain rfl : k = 6 * (w * h) := by omega
          exact w_vret (_, _, _, _, _) hx hb hr hlocks hS hP (rt_bI_hB hQ hI) d_S_findBlocks_80
        · omega
      | succ n_31 ih_31 =>
        intro k F R xc yc hrel_31 hI H locs ls hP hS hl
        have hD : va_D (xA a) (xw cI a w h Q (fun r => rt_o (F r)) (nI (8)) (nI (rt_cB F k)) rs hs ts (fun j => nI (R j)) xc yc) := x_D ha _ rfl
        refine lv_iload_n hx hb d_S_findBlocks_31 rfl (lv_at hl 2 rfl) ?_
        refine lv_aload_n hx hb d_S_findBlocks_32 rfl (lv_at hl 1 rfl) ?_
        refine va_get (D := D) (ci := 1) (v := .ref (a 3)) (C := rn_A) (T := tf_A) (N := 2) hx hb hts in_A hown hK hP 1 rfl rfl 1 (by decide) (hts _ k_fieldLink_rn_S_42_rn_A_pieces_I) (fun _ h9 => h9) rfl d_S_findBlocks_33 ?_
        refine va_alen (v := nI (6 * (w * h))) hx hb hK hP 3 0 rfl rfl rfl d_S_findBlocks_36 ?_
        refine rw_cge (tgt := 80) hx hb d_S_findBlocks_37 (by decide) (by omega) (by omega) (fun c_37 => ?_) (fun c_37 => ?_)
        · omega
        · refine lv_aload_n hx hb d_S_findBlocks_40 rfl (lv_at hl 1 rfl) ?_
          refine lv_iload_n hx hb d_S_findBlocks_41 rfl (lv_at hl 2 rfl) ?_
          refine w_ci (As := [.int (nI (k))]) (rest := []) ⟨hx, hb, hml, hown, hts⟩ (c_A_isThere l D cI cZ g a ha w h Q (fun r => rt_o (F r)) (nI (8)) (nI (rt_cB F k)) rs hs ts (fun j => nI (R j)) xc yc k hG (by omega)) (cwV 1 hts (t_gV k_methodLink_rn_S_45_y_A_isThere k_instanceMethod_y_A_isThere k_selects_rn_A_y_A_isThere_y_A_isThere k_initialized_rn_A k_code_y_A_isThere_prog_3_method_5_code_2_some_boolean) rfl rfl rfl (by decide +kernel) ⟨Nat.le_of_ble_eq_true rfl, Nat.le_of_ble_eq_true rfl⟩) (va_recv hK hP (ci := 1) (q0 := 1) rfl rfl) hP hK hZ hS rfl hl.1 rfl (Nat.le_of_ble_eq_true rfl) d_S_findBlocks_42 ⟨Nat.zero_le _, Nat.zero_le _⟩ (fun r_42 u_42 H locs hw hP hS => ?_)
          subst hw
          have hP : va_P D vwCl (xw cI a w h Q (fun r => rt_o (F r)) (nI (8)) (nI (rt_cB F k)) rs hs ts (fun j => nI (R j)) xc yc) H := hP
          refine rw_beq (tgt := 74) hx hb d_S_findBlocks_45 (by decide) (fun c_45 => ?_) (fun c_45 => ?_)
          · refine lv_iinc (v := (nI (k + 1))) (lv' := [(2, .int (nI (k + 1))), (0, .ref (a 4)), (1, .ref (a 1))]) hx hb d_S_findBlocks_74 hl (k := 2) rfl (nI_add _ _) (by decide) rfl (fun ls hl => ?_)
            refine lv_goto (tgt := 31) hx hb d_S_findBlocks_77 (by decide) ?_
            have e9 : rt_cB F (k + 1) = rt_cB F k := rt_cB_skip (fun z => of_decide_eq_false c_45 (hI.1 k k z).1)
            have hP : va_P D vwCl (xw cI a w h Q (fun r => rt_o (F r)) (nI (8)) (nI (rt_cB F (k + 1))) rs hs ts (fun j => nI (R j)) xc yc) H := by rw [e9]; exact hP
            exact ih_31 (k + 1) F R _ _ (by omega) (rt_bI_skip hI (Or.inl (Decidable.not_not.mp (of_decide_eq_false c_45)))) _ _ _ hP hS (lv_sub hl [1, 2, 0] rfl)
          · refine lv_aload_n hx hb d_S_findBlocks_48 rfl (lv_at hl 0 rfl) ?_
            refine va_get (D := D) (ci := 2) (v := .ref (a 5)) (C := rn_S) (T := tf_S) (N := 5) hx hb hts in_S hown hK hP 4 rfl rfl 0 (by decide) (hts _ k_fieldLink_rn_S_11_rn_S_found_I) (fun _ h9 => h9) rfl d_S_findBlocks_49 ?_
            refine lv_iload_n hx hb d_S_findBlocks_52 rfl (lv_at hl 2 rfl) ?_
            refine rw_iald (v := (rt_o (F k))) hx hb hK hP 5 0 rfl rfl (by omega) (by omega) (rfl) d_S_findBlocks_53 ?_
            cases ho_54 : F k with
            | none =>
              refine lv_iconst (v := (-1)) hx hb d_S_findBlocks_54 (by decide) ?_
              refine lv_icmp_ne (tgt := 74) hx hb d_S_findBlocks_55 (by decide) (fun c_55 => ?_) (fun c_55 => ?_)
              · exact absurd rfl c_55
              · refine lv_aload_n hx hb d_S_findBlocks_58 rfl (lv_at hl 0 rfl) ?_
                refine lv_dup hx hb d_S_findBlocks_59 rfl ?_
                refine va_get (D := D) (ci := 2) (v := .int ((nI (rt_cB F k)))) (C := rn_S) (T := tf_S) (N := 5) hx hb hts in_S hown hK hP 4 rfl rfl 4 (by decide) (hts _ k_fieldLink_rn_S_33_rn_S_blocks_I) (fun _ h9 => h9) rfl d_S_findBlocks_60 ?_
                refine lv_iconst (v := (nI (1))) hx hb d_S_findBlocks_63 (by decide) ?_
                refine lv_iadd hx hb d_S_findBlocks_64 ?_
                refine rw_topI (b := (nI (rt_cB F k + 1))) (nI_add _ 1) ?_
                refine va_put (D := D) (ci := 2) (v := .int (nI (rt_cB F k + 1))) (ty := .int) (C := rn_S) (T := tf_S) (N := 5) hx hb hts in_S tt_S tt_S_ok nm_S hown hK hP hD hS 4 rfl rfl 4 (by decide) (hts _ k_fieldLink_rn_S_33_rn_S_blocks_I) (fun _ h9 => h9) rfl (by decide +kernel) rfl rfl (Nat.le_of_ble_eq_true rfl) d_S_findBlocks_65 (fun H locs hP hD hS => ?_)
                have hP : va_P D vwCl (xw cI a w h Q (fun r => rt_o (F r)) (nI (8)) (nI (rt_cB F k + 1)) rs hs ts (fun j => nI (R j)) xc yc) H := hP
                have hD : va_D (xA a) (xw cI a w h Q (fun r => rt_o (F r)) (nI (8)) (nI (rt_cB F k + 1)) rs hs ts (fun j => nI (R j)) xc yc) := x_D ha _ rfl
                refine lv_aload_n hx hb d_S_findBlocks_68 rfl (lv_at hl 0 rfl) ?_
                refine lv_aload_n hx hb d_S_findBlocks_69 rfl (lv_at hl 1 rfl) ?_
                refine lv_iload_n hx hb d_S_findBlocks_70 rfl (lv_at hl 2 rfl) ?_
                refine w_cv (As := [.ref (a 1), .int (nI (k))]) (rest := []) ⟨hx, hb, hml, hown, hts⟩ (c_S_floodBlock l D cI cZ g a ha w h Q (fun r => rt_o (F r)) (nI (8)) (nI (rt_cB F k + 1)) rs hs ts (fun j => nI (R j)) xc yc F R k hG (by omega) hI ho_54 (of_decide_eq_true c_45)) (cwV 2 hts (t_gV k_methodLink_rn_S_49_y_S_floodBlock k_instanceMethod_y_S_floodBlock k_selects_rn_S_y_S_floodBlock_y_S_floodBlock k_initialized_rn_S k_code_y_S_floodBlock_prog_4_method_4_code_5_none) rfl rfl rfl (by decide +kernel) ⟨Nat.le_of_ble_eq_true rfl, Nat.le_of_ble_eq_true rfl⟩) (va_recv hK hP (ci := 2) (q0 := 4) rfl rfl) hP hK hZ hS rfl hl.1 rfl (Nat.le_of_ble_eq_true rfl) d_S_findBlocks_71 ⟨Nat.zero_le _, Nat.zero_le _⟩ (fun u_71 H locs hw hP hS => ?_)
                obtain ⟨F1, R1, n1, y1⟩ := u_71
                have hP : va_P D vwCl (xw cI a w h Q (fun r => rt_o (F1 r)) (nI (8)) (nI (rt_cB F k + 1)) rs hs ts (fun j => nI (R1 j)) (nI (n1)) (nI (y1))) H := hP
                have hD : va_D (xA a) (xw cI a w h Q (fun r => rt_o (F1 r)) (nI (8)) (nI (rt_cB F k + 1)) rs hs ts (fun j => nI (R1 j)) (nI (n1)) (nI (y1))) := x_D ha _ rfl
                obtain ⟨g1, g2, g3⟩ := hw
                have e9 : rt_cB F1 (k + 1) = rt_cB F k + 1 := rt_cB_one g2 g3
                have hP : va_P D vwCl (xw cI a w h Q (fun r => rt_o (F1 r)) (nI (8)) (nI (rt_cB F1 (k + 1))) rs hs ts (fun j => nI (R1 j)) (nI (n1)) (nI (y1))) H := by rw [e9]; exact hP
                refine lv_iinc (v := (nI (k + 1))) (lv' := [(2, .int (nI (k + 1))), (0, .ref (a 4)), (1, .ref (a 1))]) hx hb d_S_findBlocks_74 hl (k := 2) rfl (nI_add _ _) (by decide) rfl (fun ls hl => ?_)
                refine lv_goto (tgt := 31) hx hb d_S_findBlocks_77 (by decide) ?_
                exact ih_31 (k + 1) F1 R1 _ _ (by omega) g1 _ _ _ hP hS (lv_sub hl [1, 2, 0] rfl)
            | some b =>
              have hb9 := rt_bI_bd hn (by omega) hI k b ho_54
              refine lv_iconst (v := (-1)) hx hb d_S_findBlocks_54 (by decide) ?_
              refine lv_icmp_ne (tgt := 74) hx hb d_S_findBlocks_55 (by decide) (fun c_55 => ?_) (fun c_55 => ?_)
              · refine lv_iinc (v := (nI (k + 1))) (lv' := [(2, .int (nI (k + 1))), (0, .ref (a 4)), (1, .ref (a 1))]) hx hb d_S_findBlocks_74 hl (k := 2) rfl (nI_add _ _) (by decide) rfl (fun ls hl => ?_)
                refine lv_goto (tgt := 31) hx hb d_S_findBlocks_77 (by decide) ?_
                have e9 : rt_cB F (k + 1) = rt_cB F k := rt_cB_skip (fun z => by have := (hI.1 k k z).2.2.1; omega)
                have hP : va_P D vwCl (xw cI a w h Q (fun r => rt_o (F r)) (nI (8)) (nI (rt_cB F (k + 1))) rs hs ts (fun j => nI (R j)) xc yc) H := by rw [e9]; exact hP
                exact ih_31 (k + 1) F R _ _ (by omega) (rt_bI_skip hI (Or.inr (by rw [ho_54]; simp))) _ _ _ hP hS (lv_sub hl [1, 2, 0] rfl)
              · exact absurd c_55 (rt_o_ne _ (by omega))
    exact LP_31 (6 * (w * h)) 0 _ R _ _ (by omega) (rt_bI_0 Q w h) _ _ _ hP hS (lv_sub hl [1, 2, 0] rfl)
  · subst c_6
    exact w_vret (ff, bl, rc, hc, tc) hx hb hr hlocks hS hP (rt_hk_B hk0) d_S_findBlocks_9
end
section
/-! SMALL: costs, as the class's methods change its queues -/
def rt_se (RS : Nat → Nat) (ys : Nat) (RC : Nat → Nat) (yc r : Nat) : (Nat → Nat) × Nat × (Nat → Nat) × Nat := if rt_st r = true then (va_up RS ys r, ys + 1, RC, yc) else (RS, ys, va_up RC yc r, yc + 1)
theorem rt_se_t {RS : Nat → Nat} {ys : Nat} {RC : Nat → Nat} {yc r : Nat} (h : rt_st r = true) : rt_se RS ys RC yc r = (va_up RS ys r, ys + 1, RC, yc) := if_pos h
theorem rt_se_f {RS : Nat → Nat} {ys : Nat} {RC : Nat → Nat} {yc r : Nat} (h : rt_st r = false) : rt_se RS ys RC yc r = (RS, ys, va_up RC yc r, yc + 1) := if_neg (by rw [h]; simp)
theorem rt_cI_op {Q : Nat → Nat} {w h z : Nat} {F : Nat → Option Nat} {RS : Nat → Nat} {xs ys : Nat} {RC : Nat → Nat} {xc yc M : Nat} {T : Nat → Prop} {pend : Nat → Nat → Prop} (I : rt_cI Q w h z F RS xs ys RC xc yc M T pend) : ∀ r c, F r = some c → r < 12 * (w * h) := fun r c hr => rt_op_lt (I.2.2.1 r c hr).1
theorem rt_cI_se {Q : Nat → Nat} {w h z : Nat} {F : Nat → Option Nat} {RS : Nat → Nat} {xs ys : Nat} {RC : Nat → Nat} {xc yc M b : Nat} {T : Nat → Prop} {pend : Nat → Nat → Prop} (I : rt_cI Q w h z F RS xs ys RC xc yc M T pend)
    (hb : F b = none) (ho : rt_op Q (w * h) b = true) (h0 : rt_tg Q w h z b = true → M = 0) (h7 : rt_tg Q w h z b = false → ∃ f, f ∈ rt_nx Q w h b ∧ ∃ c', F f = some c' ∧ M = rt_ln f + c') (hp : ∀ g c, pend g b → F g = some c → M ≤ rt_ln g + c) :
    rt_cI Q w h z (va_up F b (some M)) (rt_se RS ys RC yc b).1 xs (rt_se RS ys RC yc b).2.1 (rt_se RS ys RC yc b).2.2.1 xc (rt_se RS ys RC yc b).2.2.2 M (fun r => T r ∨ r = b) (fun g r => pend g r ∧ r ≠ b) ∧ (rt_st b = true → ys < 4 * (w * h)) ∧ (rt_st b = false → yc < 8 * (w * h)) := by
  obtain ⟨k1, k2⟩ := rt_cI_settle I hb ho h0 h7 hp
  cases hs : rt_st b with
  | true =>
    rw [rt_se_t hs]
    have h1 := k1 hs
    refine ⟨h1, fun _ => ?_, fun q => (by cases q)⟩
    have := rt_capS h1.1 (rt_cI_op h1)
    omega
  | false =>
    rw [rt_se_f hs]
    have h1 := k2 hs
    refine ⟨h1, fun q => (by cases q), fun _ => ?_⟩
    have := rt_capC h1.2.1 (rt_cI_op h1)
    omega
theorem rt_cI_caps {Q : Nat → Nat} {w h z : Nat} {F : Nat → Option Nat} {RS : Nat → Nat} {xs ys : Nat} {RC : Nat → Nat} {xc yc M : Nat} {T : Nat → Prop} {pend : Nat → Nat → Prop} (I : rt_cI Q w h z F RS xs ys RC xc yc M T pend) : xs ≤ ys ∧ ys ≤ 4 * (w * h) ∧ xc ≤ yc ∧ yc ≤ 8 * (w * h) := ⟨I.1.1, rt_capS I.1 (rt_cI_op I), I.2.1.1, rt_capC I.2.1 (rt_cI_op I)⟩
theorem rt_cI_bd {Q : Nat → Nat} {w h z : Nat} {F : Nat → Option Nat} {RS : Nat → Nat} {xs ys : Nat} {RC : Nat → Nat} {xc yc M : Nat} {T : Nat → Prop} {pend : Nat → Nat → Prop} (hM : M ≤ 100000) (I : rt_cI Q w h z F RS xs ys RC xc yc M T pend) : rt_bd F := fun r c hr => by
  have := (I.2.2.1 r c hr).2
  omega
-- the targets, run by run
def rt_cT (Q : Nat → Nat) (w h z : Nat) (F : Nat → Option Nat) (RS : Nat → Nat) (ys : Nat) (RC : Nat → Nat) (yc x : Nat) : Prop := rt_cI Q w h z F RS 0 ys RC 0 yc 0 (fun r => r < x) (fun _ _ => False) ∧ ∀ r c, F r = some c → r < x
theorem rt_cT_0 (Q : Nat → Nat) (w h z : Nat) (RS RC : Nat → Nat) : rt_cT Q w h z (fun _ => none) RS 0 RC 0 0 := ⟨rt_cI_drop (rt_cI_0 Q w h z RS RC (fun _ _ => False)) (fun r _ h => absurd h (Nat.not_lt_zero r)) (fun _ _ _ h => h.elim), fun r c h => by cases h⟩
theorem rt_cT_skip {Q : Nat → Nat} {w h z : Nat} {F : Nat → Option Nat} {RS : Nat → Nat} {ys : Nat} {RC : Nat → Nat} {yc x x' : Nat} (I : rt_cT Q w h z F RS ys RC yc x) (hx : x ≤ x') (hn : ∀ r, x ≤ r → r < x' → rt_tg Q w h z r = false) : rt_cT Q w h z F RS ys RC yc x' := by
  refine ⟨rt_cI_drop I.1 ?_ (fun _ _ _ h => h.elim), fun r c hr => Nat.lt_of_lt_of_le (I.2 r c hr) hx⟩
  intro r h1 h2
  rcases Nat.lt_or_ge r x with q | q
  · exact Or.inl q
  · rw [hn r q h2] at h1
    cases h1
theorem rt_cT_se {Q : Nat → Nat} {w h z : Nat} {F : Nat → Option Nat} {RS : Nat → Nat} {ys : Nat} {RC : Nat → Nat} {yc x : Nat} (I : rt_cT Q w h z F RS ys RC yc x) (ht : rt_tg Q w h z x = true) :
    rt_cT Q w h z (va_up F x (some 0)) (rt_se RS ys RC yc x).1 (rt_se RS ys RC yc x).2.1 (rt_se RS ys RC yc x).2.2.1 (rt_se RS ys RC yc x).2.2.2 (x + 1) ∧ (rt_st x = true → ys < 4 * (w * h)) ∧ (rt_st x = false → yc < 8 * (w * h)) := by
  have hn : F x = none := by
    cases hf : F x with
    | none => rfl
    | some c => have := I.2 x c hf; omega
  have ho : rt_op Q (w * h) x = true := by
    rw [rt_la_tg, Bool.and_eq_true] at ht
    exact ht.1
  obtain ⟨k1, k2, k3⟩ := rt_cI_se I.1 hn ho (fun _ => rfl) (fun q => by rw [ht] at q; cases q) (fun _ _ q => q.elim)
  refine ⟨⟨rt_cI_drop k1 (fun r _ hr => Or.inl (by rcases Nat.lt_or_ge r x with q | q; exact Or.inl q; exact Or.inr (by omega))) (fun _ _ _ q => q.1.elim), ?_⟩, k2, k3⟩
  intro r c hr
  by_cases e : r = x
  · omega
  · rw [va_up_ne F _ e] at hr
    have := I.2 r c hr
    omega
theorem rt_cT_end {Q : Nat → Nat} {w h z : Nat} {F : Nat → Option Nat} {RS : Nat → Nat} {ys : Nat} {RC : Nat → Nat} {yc : Nat} (I : rt_cT Q w h z F RS ys RC yc (12 * (w * h))) : rt_cI Q w h z F RS 0 ys RC 0 yc 0 (fun _ => True) (fun _ _ => False) :=
  rt_cI_drop I.1 (fun r hr _ => Or.inl (by rw [rt_la_tg, Bool.and_eq_true] at hr; exact rt_op_lt hr.1)) (fun _ _ _ h => h.elim)
-- behind one run: the first i of three
def rt_cS (Q : Nat → Nat) (w h z : Nat) (F : Nat → Option Nat) (RS : Nat → Nat) (xs ys : Nat) (RC : Nat → Nat) (xc yc M f c i : Nat) : Prop := rt_cI Q w h z F RS xs ys RC xc yc M (fun _ => True) (fun g r => g = f ∧ r ∉ rt_pb Q w h f i) ∧ F f = some c ∧ M = rt_ln f + c
theorem rt_cS_skip {Q : Nat → Nat} {w h z : Nat} {F : Nat → Option Nat} {RS : Nat → Nat} {xs ys : Nat} {RC : Nat → Nat} {xc yc M f c i : Nat} (I : rt_cS Q w h z F RS xs ys RC xc yc M f c i) (hb : ∀ b, rt_bh w h f i = some b → rt_op Q (w * h) b = true → ∃ c', F b = some c') : rt_cS Q w h z F RS xs ys RC xc yc M f c (i + 1) := by
  obtain ⟨I, h1, h2⟩ := I
  refine ⟨rt_cI_drop I (fun r _ _ => Or.inl trivial) ?_, h1, h2⟩
  rintro g r cg ⟨rfl, hr⟩ ho hm hg
  by_cases e : r ∈ rt_pb Q w h g (i + 1)
  · rw [rt_pb_succ, List.mem_append] at e
    rcases e with e | e
    · exact absurd e hr
    · unfold rt_one at e
      cases hz : rt_bh w h g i with
      | none => rw [hz] at e; cases e
      | some b =>
        rw [hz] at e
        dsimp only at e
        split at e
        · next hop =>
          rw [List.mem_singleton] at e
          subst e
          obtain ⟨c', hc'⟩ := hb r hz hop
          have := (I.2.2.1 r c' hc').2
          rw [h1] at hg
          cases hg
          exact Or.inl ⟨c', hc', by omega⟩
        · cases e
  · exact Or.inr ⟨rfl, e⟩
theorem rt_cS_se {Q : Nat → Nat} {w h z : Nat} {F : Nat → Option Nat} {RS : Nat → Nat} {xs ys : Nat} {RC : Nat → Nat} {xc yc M f c i b : Nat} (hw : 0 < w) (hi : i < 3) (I : rt_cS Q w h z F RS xs ys RC xc yc M f c i) (hb : rt_bh w h f i = some b) (ho : rt_op Q (w * h) b = true) (hn : F b = none) :
    rt_cS Q w h z (va_up F b (some M)) (rt_se RS ys RC yc b).1 xs (rt_se RS ys RC yc b).2.1 (rt_se RS ys RC yc b).2.2.1 xc (rt_se RS ys RC yc b).2.2.2 M f c (i + 1) ∧ (rt_st b = true → ys < 4 * (w * h)) ∧ (rt_st b = false → yc < 8 * (w * h)) := by
  obtain ⟨I, h1, h2⟩ := I
  have hof := (I.2.2.1 f c h1).1
  have hm : f ∈ rt_nx Q w h b := (rt_pred hw hof ho).mpr (rt_mem_pb.mpr ⟨i, hi, hb, ho⟩)
  obtain ⟨k1, k2, k3⟩ := rt_cI_se I hn ho (fun q => by have := I.2.2.2.1 b q trivial; rw [hn] at this; cases this) (fun _ => ⟨f, hm, c, h1, h2⟩) (fun g cg hg hc => by obtain ⟨rfl, -⟩ := hg; rw [h1] at hc; cases hc; omega)
  refine ⟨⟨rt_cI_drop k1 (fun r _ _ => Or.inl (Or.inl trivial)) ?_, ?_, h2⟩, k2, k3⟩
  · rintro g r cg ⟨⟨rfl, hr⟩, hrb⟩ _ _ _
    refine Or.inr ⟨rfl, ?_⟩
    rw [rt_pb_succ, List.mem_append]
    rintro (e | e)
    · exact hr e
    · unfold rt_one at e
      rw [hb] at e
      dsimp only at e
      rw [if_pos ho, List.mem_singleton] at e
      exact hrb e
  · rw [va_up_ne F _ (fun e => by rw [e, hn] at h1; cases h1)]
    exact h1
theorem rt_cS_end {Q : Nat → Nat} {w h z : Nat} {F : Nat → Option Nat} {RS : Nat → Nat} {xs ys : Nat} {RC : Nat → Nat} {xc yc M f c : Nat} (hw : 0 < w) (I : rt_cS Q w h z F RS xs ys RC xc yc M f c 3) : rt_cI Q w h z F RS xs ys RC xc yc M (fun _ => True) (fun _ _ => False) := by
  obtain ⟨I, h1, h2⟩ := I
  refine rt_cI_drop I (fun r _ _ => Or.inl trivial) ?_
  rintro g r cg ⟨rfl, hr⟩ ho hm hg
  exact absurd ((rt_pred hw (I.2.2.1 g c h1).1 ho).mp hm) hr
theorem rt_cS_0 {Q : Nat → Nat} {w h z : Nat} {F : Nat → Option Nat} {RS : Nat → Nat} {xs ys : Nat} {RC : Nat → Nat} {xc yc M f c : Nat} (I : rt_cI Q w h z F RS xs ys RC xc yc M (fun _ => True) (fun g _ => g = f)) (h1 : F f = some c) (h2 : M = rt_ln f + c) : rt_cS Q w h z F RS xs ys RC xc yc M f c 0 :=
  ⟨rt_cI_drop I (fun r _ _ => Or.inl trivial) (fun g r cg hg _ _ _ => Or.inr ⟨hg, by intro q; cases q⟩), h1, h2⟩
/-- what takeNearest finds -/
def rt_tn (Q : Nat → Nat) (w h z : Nat) (F : Nat → Option Nat) (RS : Nat → Nat) (xs ys : Nat) (RC : Nat → Nat) (xc yc : Nat) (r : Int32) (xs' xc' : Nat) : Prop :=
  (r = -1 ∧ xs = ys ∧ xc = yc ∧ xs' = xs ∧ xc' = xc) ∨ ∃ f c, r = nI f ∧ f < 12 * (w * h) ∧ F f = some c ∧ rt_cI Q w h z F RS xs' ys RC xc' yc (rt_ln f + c) (fun _ => True) (fun g _ => g = f) ∧ xs' + xc' = xs + xc + 1
theorem rt_tn_S {Q : Nat → Nat} {w h z : Nat} {F : Nat → Option Nat} {RS : Nat → Nat} {xs ys : Nat} {RC : Nat → Nat} {xc yc M c : Nat} (I : rt_cI Q w h z F RS xs ys RC xc yc M (fun _ => True) (fun _ _ => False)) (hl : xs < ys) (hc : F (RS xs) = some c) (ho : ∀ c', xc < yc → F (RC xc) = some c' → c + 16 ≤ c' + 12) : rt_tn Q w h z F RS xs ys RC xc yc (nI (RS xs)) (xs + 1) xc := by
  have h1 := rt_cI_takeS I hl hc ho
  have h2 := rt_ln_st (I.1.2.1 xs hl).1
  exact Or.inr ⟨RS xs, c, rfl, rt_cI_op I _ _ hc, hc, by rw [h2, Nat.add_comm 16 c]; exact h1, by omega⟩
theorem rt_tn_C {Q : Nat → Nat} {w h z : Nat} {F : Nat → Option Nat} {RS : Nat → Nat} {xs ys : Nat} {RC : Nat → Nat} {xc yc M c : Nat} (I : rt_cI Q w h z F RS xs ys RC xc yc M (fun _ => True) (fun _ _ => False)) (hl : xc < yc) (hc : F (RC xc) = some c) (ho : ∀ c', xs < ys → F (RS xs) = some c' → c + 12 ≤ c' + 16) : rt_tn Q w h z F RS xs ys RC xc yc (nI (RC xc)) xs (xc + 1) := by
  have h1 := rt_cI_takeC I hl hc ho
  have h2 := rt_ln_cv (I.2.1.2.1 xc hl).1
  exact Or.inr ⟨RC xc, c, rfl, rt_cI_op I _ _ hc, hc, by rw [h2, Nat.add_comm 12 c]; exact h1, by omega⟩
theorem rt_cI_hS {Q : Nat → Nat} {w h z : Nat} {F : Nat → Option Nat} {RS : Nat → Nat} {xs ys : Nat} {RC : Nat → Nat} {xc yc M : Nat} {T : Nat → Prop} {pend : Nat → Nat → Prop} (I : rt_cI Q w h z F RS xs ys RC xc yc M T pend) (hl : xs < ys) : ∃ c, F (RS xs) = some c := by
  cases hc : F (RS xs) with
  | none => exact absurd hc (I.1.2.1 xs hl).2
  | some c => exact ⟨c, rfl⟩
theorem rt_cI_hC {Q : Nat → Nat} {w h z : Nat} {F : Nat → Option Nat} {RS : Nat → Nat} {xs ys : Nat} {RC : Nat → Nat} {xc yc M : Nat} {T : Nat → Prop} {pend : Nat → Nat → Prop} (I : rt_cI Q w h z F RS xs ys RC xc yc M T pend) (hl : xc < yc) : ∃ c, F (RC xc) = some c := by
  cases hc : F (RC xc) with
  | none => exact absurd hc (I.2.1.2.1 xc hl).2
  | some c => exact ⟨c, rfl⟩
theorem rt_cI_hCC {Q : Nat → Nat} {w h z : Nat} {F : Nat → Option Nat} {RS : Nat → Nat} {ys : Nat} {RC : Nat → Nat} {yc M : Nat} (hn : w * h ≤ 400) (hM : M ≤ 16 * (12 * (w * h))) (I : rt_cI Q w h z F RS ys ys RC yc yc M (fun _ => True) (fun _ _ => False)) : rt_hC Q w h z (fun r => rt_o (F r)) :=
  ⟨F, rt_cI_end I, fun r c hr => by have := (I.2.2.1 r c hr).2; omega, fun _ _ => rfl⟩
/-- the cheapest so far, and how far it is -/
def rt_lw (K : Nat → Option Nat) : Option Nat → Nat
  | none => 0
  | some g => rt_ln g + (K g).getD 0
theorem rt_bs_n {K : Nat → Option Nat} {b : Option Nat} {f : Nat} (h : K f = none) : rt_bs K b f = b := by
  unfold rt_bs
  rw [h]
theorem rt_bs_0 {K : Nat → Option Nat} {f c : Nat} (h : K f = some c) : rt_bs K none f = some f := by
  unfold rt_bs
  rw [h]
theorem rt_bs_t {K : Nat → Option Nat} {f c g : Nat} (h : K f = some c) (hl : rt_ln f + c < rt_lw K (some g)) : rt_bs K (some g) f = some f := by
  unfold rt_bs
  rw [h]
  exact if_pos hl
theorem rt_bs_f {K : Nat → Option Nat} {f c g : Nat} (h : K f = some c) (hl : ¬ rt_ln f + c < rt_lw K (some g)) : rt_bs K (some g) f = some g := by
  unfold rt_bs
  rw [h]
  exact if_neg hl
theorem rt_lw_le {K : Nat → Option Nat} (hs : rt_small K) (b : Option Nat) : rt_lw K b ≤ 80000 := by
  cases b with
  | none => exact Nat.zero_le _
  | some g =>
    have h1 := rt_ln_in g
    show rt_ln g + (K g).getD 0 ≤ 80000
    cases hc : K g with
    | none => simp only [Option.getD_none]; omega
    | some c => have := hs g c hc; simp only [Option.getD_some]; omega
theorem rt_bh_lt {w h f i b : Nat} (hw : 0 < w) (hf : f < 12 * (w * h)) (hi : i < 3) (hb : rt_bh w h f i = some b) : b < 12 * (w * h) := by
  unfold rt_bh at hb
  cases hz : rt_ah w h (rt_rv f) i with
  | none => rw [hz] at hb; cases hb
  | some z =>
    rw [hz] at hb
    cases hb
    exact rt_rv_lt (rt_ah_back hw (rt_rv_lt hf) hi hz).1
end
section
/-! Search, costs: by program (wip/whole/gen/costs.py) -/
set_option maxHeartbeats 4000000 in
set_option maxRecDepth 100000 in
theorem c_S_settle (l : Launch) (D : va_G) (cI cZ : ClassId) (g a : Nat → Nat) (ha : xI a) (w h : Nat) (Q : Nat → Nat) (ff : Nat → Int32) (hd bl : Int32) (rs : Nat → Int32) (hs ts : Int32) (rc : Nat → Int32) (hc tc : Int32) (F : Nat → Option Nat) (RS : Nat → Nat) (xs ys : Nat) (RC : Nat → Nat) (xc yc : Nat) (r k : Nat) (hG : rt_G w h Q) (hr0 : r < 12 * (w * h)) (hcS : rt_st r = true → ys < 4 * (w * h)) (hcC : rt_st r = false → yc < 8 * (w * h)) : Met l y_S_settle (.code y_S_settle b_S_settle 4 none :: tG) ({ frames := 1, cells := 0, slots := 0, locals := 21 }) (va_Pc [.ref (a 4), .ref (a 1), .int (nI (r)), .int (nI (k))] (wU D cI cZ g (xA a) (xw cI a w h Q (fun r9 => rt_o (F r9)) hd bl (fun j => nI (RS j)) (nI (xs)) (nI (ys)) (fun j => nI (RC j)) (nI (xc)) (nI (yc))))) (va_Qv (S := ((Nat → Nat) × Nat × (Nat → Nat) × Nat)) (fun u => u = rt_se RS ys RC yc r) (wB D (fun (u : ((Nat → Nat) × Nat × (Nat → Nat) × Nat)) => (xw cI a w h Q (fun r9 => rt_o (va_up F r (some k) r9)) hd bl (fun j => nI (u.1 j)) (nI (xs)) (nI (u.2.1)) (fun j => nI (u.2.2.1 j)) (nI (xc)) (nI (u.2.2.2))))) (xA a)) 0 0 (xA a) := by
  refine Met.ofW (cc := b_S_settle) (maxL := 4) (ret := none) (by decide) rfl ?_
  intro p e s m args below meth c s₁ B hml hv
  obtain ⟨rfl, hP, hK, hZ⟩ := hv
  have hx := B.exec
  have hb := B.bytes
  have hr := B.returns
  have hts : ∀ w ∈ tG, w.before _ s = true := fun w hw => atoms_spec (ws := .code y_S_settle b_S_settle 4 none :: tG) B.pre w (List.mem_cons_of_mem _ hw)
  have hown : s.vm.findClass rn_S = some m.cls := findClass_of_methodNamed B.named
  have hlocks := B.notSynchronized
  have hS : va_S (xA a) s.heap s.heap [] := va_S.rf
  have hD : va_D (xA a) (xw cI a w h Q (fun r9 => rt_o (F r9)) hd bl (fun j => nI (RS j)) (nI (xs)) (nI (ys)) (fun j => nI (RC j)) (nI (xc)) (nI (yc))) := x_D ha _ rfl
  have hP : va_P D vwCl (xw cI a w h Q (fun r9 => rt_o (F r9)) hd bl (fun j => nI (RS j)) (nI (xs)) (nI (ys)) (fun j => nI (RC j)) (nI (xc)) (nI (yc))) s.heap := hP
  have hl := lv_entry ([.ref (a 4), .ref (a 1), .int (nI (r)), .int (nI (k))]) (n := 4) (Nat.le_of_ble_eq_true rfl)
  rw [lg_entry_eq]
  generalize (lg_sl ([.ref (a 4), .ref (a 1), .int (nI (r)), .int (nI (k))]) ++ List.replicate (4 - (lg_sl ([.ref (a 4), .ref (a 1), .int (nI (r)), .int (nI (k))])).length) Slot.unset).toArray = ls at hl ⊢
  have hl : lv_has ls 4 [(0, .ref (a 4)), (1, .ref (a 1)), (2, .int (nI (r))), (3, .int (nI (k)))] := hl
  obtain ⟨hn1, hn⟩ := hG.n
  have hw0 : 0 < w := by have := hG.1.1; omega
  have hQ := hG.2.2
  refine lv_aload_n hx hb d_S_settle_0 rfl (lv_at hl 0 rfl) ?_
  refine va_get (D := D) (ci := 2) (v := .ref (a 5)) (C := rn_S) (T := tf_S) (N := 5) hx hb hts in_S hown hK hP 4 rfl rfl 0 (by decide) (hts _ k_fieldLink_rn_S_11_rn_S_found_I) (fun _ h9 => h9) rfl d_S_settle_1 ?_
  refine lv_iload_n hx hb d_S_settle_4 rfl (lv_at hl 2 rfl) ?_
  refine lv_iload_n hx hb d_S_settle_5 rfl (lv_at hl 3 rfl) ?_
  refine rw_iast (h := (fun q => rt_o (va_up F r (some k) q))) hx hb hK hP hD hS 5 0 rfl rfl (by omega) (by omega) (fun j _ => rt_updo F r k j) d_S_settle_6 (fun H locs hP hD hS => ?_)
  have hP : va_P D vwCl (xw cI a w h Q (fun q => rt_o (va_up F r (some k) q)) hd bl (fun j => nI (RS j)) (nI (xs)) (nI (ys)) (fun j => nI (RC j)) (nI (xc)) (nI (yc))) H := hP
  have hD : va_D (xA a) (xw cI a w h Q (fun q => rt_o (va_up F r (some k) q)) hd bl (fun j => nI (RS j)) (nI (xs)) (nI (ys)) (fun j => nI (RC j)) (nI (xc)) (nI (yc))) := x_D ha _ rfl
  refine lv_aload_n hx hb d_S_settle_7 rfl (lv_at hl 1 rfl) ?_
  refine lv_iload_n hx hb d_S_settle_8 rfl (lv_at hl 2 rfl) ?_
  refine w_ci (As := [.int (nI (r))]) (rest := []) ⟨hx, hb, hml, hown, hts⟩ (c_A_isStraight l D cI cZ g a ha w h Q (fun q => rt_o (va_up F r (some k) q)) hd bl (fun j => nI (RS j)) (nI (xs)) (nI (ys)) (fun j => nI (RC j)) (nI (xc)) (nI (yc)) r hG hr0) (cwV 1 hts (t_gV k_methodLink_rn_S_117_y_A_isStraight k_instanceMethod_y_A_isStraight k_selects_rn_A_y_A_isStraight_y_A_isStraight k_initialized_rn_A k_code_y_A_isStraight_prog_3_method_12_code_2_some_boolean) rfl rfl rfl (by decide +kernel) ⟨Nat.le_of_ble_eq_true rfl, Nat.le_of_ble_eq_true rfl⟩) (va_recv hK hP (ci := 1) (q0 := 1) rfl rfl) hP hK hZ hS rfl hl.1 rfl (Nat.le_of_ble_eq_true rfl) d_S_settle_9 ⟨Nat.zero_le _, Nat.zero_le _⟩ (fun r_9 u_9 H locs hw hP hS => ?_)
  subst hw
  have hP : va_P D vwCl (xw cI a w h Q (fun q => rt_o (va_up F r (some k) q)) hd bl (fun j => nI (RS j)) (nI (xs)) (nI (ys)) (fun j => nI (RC j)) (nI (xc)) (nI (yc))) H := hP
  refine rw_beq (tgt := 26) hx hb d_S_settle_12 (by decide) (fun c_12 => ?_) (fun c_12 => ?_)
  · refine lv_aload_n hx hb d_S_settle_26 rfl (lv_at hl 0 rfl) ?_
    refine va_get (D := D) (ci := 2) (v := .ref (a 8)) (C := rn_S) (T := tf_S) (N := 5) hx hb hts in_S hown hK hP 4 rfl rfl 2 (by decide) (hts _ k_fieldLink_rn_S_26_rn_S_curves_LRouteTracks_Queue) (fun _ h9 => h9) rfl d_S_settle_27 ?_
    refine lv_iload_n hx hb d_S_settle_30 rfl (lv_at hl 2 rfl) ?_
    refine w_cv (As := [.int (nI (r))]) (rest := []) ⟨hx, hb, hml, hown, hts⟩ (c_Q_add_c l D cI cZ g a ha w h Q (fun q => rt_o (va_up F r (some k) q)) hd bl (fun j => nI (RS j)) (nI (xs)) (nI (ys)) (fun j => nI (RC j)) (nI (xc)) (nI (yc)) RC xc yc r hG (hcC c_12)) (cwV 1 hts (t_gV k_methodLink_rn_S_85_y_Q_add k_instanceMethod_y_Q_add k_selects_rn_Q_y_Q_add_y_Q_add k_initialized_rn_Q k_code_y_Q_add_prog_2_method_4_code_2_none) rfl rfl rfl (by decide +kernel) ⟨Nat.le_of_ble_eq_true rfl, Nat.le_of_ble_eq_true rfl⟩) (va_recv hK hP (ci := 0) (q0 := 8) rfl rfl) hP hK hZ hS rfl hl.1 rfl (Nat.le_of_ble_eq_true rfl) d_S_settle_31 ⟨Nat.zero_le _, Nat.zero_le _⟩ (fun u_31 H locs hw hP hS => ?_)
    have hP : va_P D vwCl (xw cI a w h Q (fun q => rt_o (va_up F r (some k) q)) hd bl (fun j => nI (RS j)) (nI (xs)) (nI (ys)) (fun j => nI (va_up RC yc r j)) (nI (xc)) (nI (yc + 1))) H := hP
    have hD : va_D (xA a) (xw cI a w h Q (fun q => rt_o (va_up F r (some k) q)) hd bl (fun j => nI (RS j)) (nI (xs)) (nI (ys)) (fun j => nI (va_up RC yc r j)) (nI (xc)) (nI (yc + 1))) := x_D ha _ rfl
    exact w_vret (RS, ys, va_up RC yc r, yc + 1) hx hb hr hlocks hS hP (rt_se_f c_12).symm d_S_settle_34
  · refine lv_aload_n hx hb d_S_settle_15 rfl (lv_at hl 0 rfl) ?_
    refine va_get (D := D) (ci := 2) (v := .ref (a 6)) (C := rn_S) (T := tf_S) (N := 5) hx hb hts in_S hown hK hP 4 rfl rfl 1 (by decide) (hts _ k_fieldLink_rn_S_22_rn_S_straights_LRouteTracks_Queue) (fun _ h9 => h9) rfl d_S_settle_16 ?_
    refine lv_iload_n hx hb d_S_settle_19 rfl (lv_at hl 2 rfl) ?_
    refine w_cv (As := [.int (nI (r))]) (rest := []) ⟨hx, hb, hml, hown, hts⟩ (c_Q_add_s l D cI cZ g a ha w h Q (fun q => rt_o (va_up F r (some k) q)) hd bl (fun j => nI (RS j)) (nI (xs)) (nI (ys)) (fun j => nI (RC j)) (nI (xc)) (nI (yc)) RS xs ys r hG (hcS c_12)) (cwV 1 hts (t_gV k_methodLink_rn_S_85_y_Q_add k_instanceMethod_y_Q_add k_selects_rn_Q_y_Q_add_y_Q_add k_initialized_rn_Q k_code_y_Q_add_prog_2_method_4_code_2_none) rfl rfl rfl (by decide +kernel) ⟨Nat.le_of_ble_eq_true rfl, Nat.le_of_ble_eq_true rfl⟩) (va_recv hK hP (ci := 0) (q0 := 6) rfl rfl) hP hK hZ hS rfl hl.1 rfl (Nat.le_of_ble_eq_true rfl) d_S_settle_20 ⟨Nat.zero_le _, Nat.zero_le _⟩ (fun u_20 H locs hw hP hS => ?_)
    have hP : va_P D vwCl (xw cI a w h Q (fun q => rt_o (va_up F r (some k) q)) hd bl (fun j => nI (va_up RS ys r j)) (nI (xs)) (nI (ys + 1)) (fun j => nI (RC j)) (nI (xc)) (nI (yc))) H := hP
    have hD : va_D (xA a) (xw cI a w h Q (fun q => rt_o (va_up F r (some k) q)) hd bl (fun j => nI (va_up RS ys r j)) (nI (xs)) (nI (ys + 1)) (fun j => nI (RC j)) (nI (xc)) (nI (yc))) := x_D ha _ rfl
    refine lv_goto (tgt := 34) hx hb d_S_settle_23 (by decide) ?_
    exact w_vret (va_up RS ys r, ys + 1, RC, yc) hx hb hr hlocks hS hP (rt_se_t c_12).symm d_S_settle_34

set_option maxHeartbeats 4000000 in
set_option maxRecDepth 100000 in
theorem c_S_settleTargets (l : Launch) (D : va_G) (cI cZ : ClassId) (g a : Nat → Nat) (ha : xI a) (w h : Nat) (Q : Nat → Nat) (ff : Nat → Int32) (hd bl : Int32) (rs : Nat → Int32) (hs ts : Int32) (rc : Nat → Int32) (hc tc : Int32) (RS RC : Nat → Nat) (z : Nat) (hG : rt_G w h Q) (hz : z < 8) : Met l y_S_settleTargets (.code y_S_settleTargets b_S_settleTargets 5 none :: tG) ({ frames := 4, cells := 0, slots := 0, locals := 88 }) (va_Pc [.ref (a 4), .ref (a 1), .int (nI (z))] (wU D cI cZ g (xA a) (xw cI a w h Q (fun r9 => rt_o ((fun _ => none) r9)) hd bl (fun j => nI (RS j)) (nI (0)) (nI (0)) (fun j => nI (RC j)) (nI (0)) (nI (0))))) (va_Qv (S := ((Nat → Option Nat) × (Nat → Nat) × Nat × (Nat → Nat) × Nat)) (fun u => rt_cT Q w h z u.1 u.2.1 u.2.2.1 u.2.2.2.1 u.2.2.2.2 (12 * (w * h))) (wB D (fun (u : ((Nat → Option Nat) × (Nat → Nat) × Nat × (Nat → Nat) × Nat)) => (xw cI a w h Q (fun r9 => rt_o (u.1 r9)) hd bl (fun j => nI (u.2.1 j)) (nI (0)) (nI (u.2.2.1)) (fun j => nI (u.2.2.2.1 j)) (nI (0)) (nI (u.2.2.2.2))))) (xA a)) 0 0 (xA a) := by
  refine Met.ofW (cc := b_S_settleTargets) (maxL := 5) (ret := none) (by decide) rfl ?_
  intro p e s m args below meth c s₁ B hml hv
  obtain ⟨rfl, hP, hK, hZ⟩ := hv
  have hx := B.exec
  have hb := B.bytes
  have hr := B.returns
  have hts : ∀ w ∈ tG, w.before _ s = true := fun w hw => atoms_spec (ws := .code y_S_settleTargets b_S_settleTargets 5 none :: tG) B.pre w (List.mem_cons_of_mem _ hw)
  have hown : s.vm.findClass rn_S = some m.cls := findClass_of_methodNamed B.named
  have hlocks := B.notSynchronized
  have hS : va_S (xA a) s.heap s.heap [] := va_S.rf
  have hD : va_D (xA a) (xw cI a w h Q (fun r9 => rt_o ((fun _ => none) r9)) hd bl (fun j => nI (RS j)) (nI (0)) (nI (0)) (fun j => nI (RC j)) (nI (0)) (nI (0))) := x_D ha _ rfl
  have hP : va_P D vwCl (xw cI a w h Q (fun r9 => rt_o ((fun _ => none) r9)) hd bl (fun j => nI (RS j)) (nI (0)) (nI (0)) (fun j => nI (RC j)) (nI (0)) (nI (0))) s.heap := hP
  have hl := lv_entry ([.ref (a 4), .ref (a 1), .int (nI (z))]) (n := 5) (Nat.le_of_ble_eq_true rfl)
  rw [lg_entry_eq]
  generalize (lg_sl ([.ref (a 4), .ref (a 1), .int (nI (z))]) ++ List.replicate (5 - (lg_sl ([.ref (a 4), .ref (a 1), .int (nI (z))])).length) Slot.unset).toArray = ls at hl ⊢
  have hl : lv_has ls 5 [(0, .ref (a 4)), (1, .ref (a 1)), (2, .int (nI (z)))] := hl
  obtain ⟨hn1, hn⟩ := hG.n
  have hw0 : 0 < w := by have := hG.1.1; omega
  have hQ := hG.2.2
  refine lv_iconst (v := (nI (0))) hx hb d_S_settleTargets_0 (by decide) ?_
  refine lv_istore_n (lv' := [(3, .int (nI (0))), (0, .ref (a 4)), (1, .ref (a 1)), (2, .int (nI (z)))]) hx hb d_S_settleTargets_1 rfl hl (by decide) rfl (fun ls hl => ?_)
  have LP_2 : ∀ (n_2 : Nat) (k : Nat) (F : Nat → Option Nat) (RS : Nat → Nat) (ys : Nat) (RC : Nat → Nat) (yc : Nat), k + n_2 = 6 * (w * h) → (rt_cT Q w h z F RS ys RC yc (2 * k)) → ∀ (H : Heap) (locs : List Loc) (ls : Array Slot), va_P D vwCl (xw cI a w h Q (fun r9 => rt_o (F r9)) hd bl (fun j => nI (RS j)) (nI (0)) (nI (ys)) (fun j => nI (RC j)) (nI (0)) (nI (yc))) H → va_S (xA a) s.heap H locs → lv_has ls 5 [(0, .ref (a 4)), (1, .ref (a 1)), (2, .int (nI (z))), (3, .int (nI (k)))] → W p l e (headSpec (.code y_S_settleTargets b_S_settleTargets 5 none :: tG) ({ frames := 4, cells := 0, slots := 0, locals := 88 })).room s m ([.ref (a 4), .ref (a 1), .int (nI (z))] : List Value).toArray below meth c H locs 0 0 (MQ below (va_Qv (S := ((Nat → Option Nat) × (Nat → Nat) × Nat × (Nat → Nat) × Nat)) (fun u => rt_cT Q w h z u.1 u.2.1 u.2.2.1 u.2.2.2.1 u.2.2.2.2 (12 * (w * h))) (wB D (fun (u : ((Nat → Option Nat) × (Nat → Nat) × Nat × (Nat → Nat) × Nat)) => (xw cI a w h Q (fun r9 => rt_o (u.1 r9)) hd bl (fun j => nI (u.2.1 j)) (nI (0)) (nI (u.2.2.1)) (fun j => nI (u.2.2.2.1 j)) (nI (0)) (nI (u.2.2.2.2))))) (xA a)) ([.ref (a 4), .ref (a 1), .int (nI (z))] : List Value).toArray s 0 0 (xA a)) (F0 m 2 ls []) := by
    intro n_2
    induction n_2 with
    | zero =>
      intro k F RS ys RC yc hrel_2 hI H locs ls hP hS hl
      have hD : va_D (xA a) (xw cI a w h Q (fun r9 => rt_o (F r9)) hd bl (fun j => nI (RS j)) (nI (0)) (nI (ys)) (fun j => nI (RC j)) (nI (0)) (nI (yc))) := x_D ha _ rfl
      refine lv_iload_n hx hb d_S_settleTargets_2 rfl (lv_at hl 3 rfl) ?_
      refine lv_aload_n hx hb d_S_settleTargets_3 rfl (lv_at hl 1 rfl) ?_
      refine va_get (D := D) (ci := 1) (v := .ref (a 3)) (C := rn_A) (T := tf_A) (N := 2) hx hb hts in_A hown hK hP 1 rfl rfl 1 (by decide) (hts _ k_fieldLink_rn_S_42_rn_A_pieces_I) (fun _ h9 => h9) rfl d_S_settleTargets_4 ?_
      refine va_alen (v := nI (6 * (w * h))) hx hb hK hP 3 0 rfl rfl rfl d_S_settleTargets_7 ?_
      refine rw_cge (tgt := 77) hx hb d_S_settleTargets_8 (by decide) (by omega) (by omega) (fun c_8 => ?_) (fun c_8 => ?_)
      · obtain rfl : k = 6 * (w * h) := by omega
        exact w_vret (F, RS, ys, RC, yc) hx hb hr hlocks hS hP (by rw [show 2 * (6 * (w * h)) = 12 * (w * h) by omega] at hI; exact hI) d_S_settleTargets_77
      · omega
    | succ n_2 ih_2 =>
      intro k F RS ys RC yc hrel_2 hI H locs ls hP hS hl
      have hD : va_D (xA a) (xw cI a w h Q (fun r9 => rt_o (F r9)) hd bl (fun j => nI (RS j)) (nI (0)) (nI (ys)) (fun j => nI (RC j)) (nI (0)) (nI (yc))) := x_D ha _ rfl
      refine lv_iload_n hx hb d_S_settleTargets_2 rfl (lv_at hl 3 rfl) ?_
      refine lv_aload_n hx hb d_S_settleTargets_3 rfl (lv_at hl 1 rfl) ?_
      refine va_get (D := D) (ci := 1) (v := .ref (a 3)) (C := rn_A) (T := tf_A) (N := 2) hx hb hts in_A hown hK hP 1 rfl rfl 1 (by decide) (hts _ k_fieldLink_rn_S_42_rn_A_pieces_I) (fun _ h9 => h9) rfl d_S_settleTargets_4 ?_
      refine va_alen (v := nI (6 * (w * h))) hx hb hK hP 3 0 rfl rfl rfl d_S_settleTargets_7 ?_
      refine rw_cge (tgt := 77) hx hb d_S_settleTargets_8 (by decide) (by omega) (by omega) (fun c_8 => ?_) (fun c_8 => ?_)
      · omega
      · refine lv_aload_n hx hb d_S_settleTargets_11 rfl (lv_at hl 1 rfl) ?_
        refine lv_iload_n hx hb d_S_settleTargets_12 rfl (lv_at hl 3 rfl) ?_
        refine w_ci (As := [.int (nI (k))]) (rest := []) ⟨hx, hb, hml, hown, hts⟩ (c_A_stationOf l D cI cZ g a ha w h Q (fun r9 => rt_o (F r9)) hd bl (fun j => nI (RS j)) (nI (0)) (nI (ys)) (fun j => nI (RC j)) (nI (0)) (nI (yc)) k hG (by omega)) (cwV 1 hts (t_gV k_methodLink_rn_S_97_y_A_stationOf k_instanceMethod_y_A_stationOf k_selects_rn_A_y_A_stationOf_y_A_stationOf k_initialized_rn_A k_code_y_A_stationOf_prog_3_method_7_code_2_some_int) rfl rfl rfl (by decide +kernel) ⟨Nat.le_of_ble_eq_true rfl, Nat.le_of_ble_eq_true rfl⟩) (va_recv hK hP (ci := 1) (q0 := 1) rfl rfl) hP hK hZ hS rfl hl.1 rfl (Nat.le_of_ble_eq_true rfl) d_S_settleTargets_13 ⟨Nat.zero_le _, Nat.zero_le _⟩ (fun r_13 u_13 H locs hw hP hS => ?_)
        subst hw
        have hP : va_P D vwCl (xw cI a w h Q (fun r9 => rt_o (F r9)) hd bl (fun j => nI (RS j)) (nI (0)) (nI (ys)) (fun j => nI (RC j)) (nI (0)) (nI (yc))) H := hP
        refine lv_iload_n hx hb d_S_settleTargets_16 rfl (lv_at hl 2 rfl) ?_
        refine lv_icmp_eq (tgt := 23) hx hb d_S_settleTargets_17 (by decide) (fun c_17 => ?_) (fun c_17 => ?_)
        · refine lv_iconst (v := (nI (2))) hx hb d_S_settleTargets_23 (by decide) ?_
          refine lv_iload_n hx hb d_S_settleTargets_24 rfl (lv_at hl 3 rfl) ?_
          refine rw_mul hx hb d_S_settleTargets_25 ?_
          refine lv_istore (lv' := [(4, .int (nI (2 * k))), (0, .ref (a 4)), (1, .ref (a 1)), (2, .int (nI (z))), (3, .int (nI (k)))]) hx hb d_S_settleTargets_26 hl (by decide) rfl (fun ls hl => ?_)
          have LP_28 : ∀ (n_28 : Nat) (r : Nat) (F : Nat → Option Nat) (RS : Nat → Nat) (ys : Nat) (RC : Nat → Nat) (yc : Nat), r + n_28 = 2 * k + 2 → (2 * k ≤ r) → (rt_cT Q w h z F RS ys RC yc r) → ∀ (H : Heap) (locs : List Loc) (ls : Array Slot), va_P D vwCl (xw cI a w h Q (fun r9 => rt_o (F r9)) hd bl (fun j => nI (RS j)) (nI (0)) (nI (ys)) (fun j => nI (RC j)) (nI (0)) (nI (yc))) H → va_S (xA a) s.heap H locs → lv_has ls 5 [(0, .ref (a 4)), (1, .ref (a 1)), (2, .int (nI (z))), (3, .int (nI (k))), (4, .int (nI (r)))] → W p l e (headSpec (.code y_S_settleTargets b_S_settleTargets 5 none :: tG) ({ frames := 4, cells := 0, slots := 0, locals := 88 })).room s m ([.ref (a 4), .ref (a 1), .int (nI (z))] : List Value).toArray below meth c H locs 0 0 (MQ below (va_Qv (S := ((Nat → Option Nat) × (Nat → Nat) × Nat × (Nat → Nat) × Nat)) (fun u => rt_cT Q w h z u.1 u.2.1 u.2.2.1 u.2.2.2.1 u.2.2.2.2 (12 * (w * h))) (wB D (fun (u : ((Nat → Option Nat) × (Nat → Nat) × Nat × (Nat → Nat) × Nat)) => (xw cI a w h Q (fun r9 => rt_o (u.1 r9)) hd bl (fun j => nI (u.2.1 j)) (nI (0)) (nI (u.2.2.1)) (fun j => nI (u.2.2.2.1 j)) (nI (0)) (nI (u.2.2.2.2))))) (xA a)) ([.ref (a 4), .ref (a 1), .int (nI (z))] : List Value).toArray s 0 0 (xA a)) (F0 m 28 ls []) := by
            intro n_28
            induction n_28 with
            | zero =>
              intro r F RS ys RC yc hrel_28 hr1 hI2 H locs ls hP hS hl
              have hD : va_D (xA a) (xw cI a w h Q (fun r9 => rt_o (F r9)) hd bl (fun j => nI (RS j)) (nI (0)) (nI (ys)) (fun j => nI (RC j)) (nI (0)) (nI (yc))) := x_D ha _ rfl
              refine lv_iload hx hb d_S_settleTargets_28 (lv_at hl 4 rfl) ?_
              refine lv_iconst (v := (nI (2))) hx hb d_S_settleTargets_30 (by decide) ?_
              refine lv_iload_n hx hb d_S_settleTargets_31 rfl (lv_at hl 3 rfl) ?_
              refine rw_mul hx hb d_S_settleTargets_32 ?_
              refine lv_iconst (v := (nI (1))) hx hb d_S_settleTargets_33 (by decide) ?_
              refine rw_add hx hb d_S_settleTargets_34 ?_
              refine rw_cgt (tgt := 71) hx hb d_S_settleTargets_35 (by decide) (by omega) (by omega) (fun c_35 => ?_) (fun c_35 => ?_)
              · refine lv_iinc (v := (nI (k + 1))) (lv' := [(3, .int (nI (k + 1))), (0, .ref (a 4)), (1, .ref (a 1)), (2, .int (nI (z))), (4, .int (nI (r)))]) hx hb d_S_settleTargets_71 hl (k := 3) rfl (nI_add _ _) (by decide) rfl (fun ls hl => ?_)
                refine lv_goto (tgt := 2) hx hb d_S_settleTargets_74 (by decide) ?_
                exact ih_2 (k + 1) F RS ys RC yc (by omega) (by rw [show 2 * (k + 1) = r by omega]; exact hI2) _ _ _ hP hS (lv_sub hl [1, 2, 3, 0] rfl)
              · omega
            | succ n_28 ih_28 =>
              intro r F RS ys RC yc hrel_28 hr1 hI2 H locs ls hP hS hl
              have hD : va_D (xA a) (xw cI a w h Q (fun r9 => rt_o (F r9)) hd bl (fun j => nI (RS j)) (nI (0)) (nI (ys)) (fun j => nI (RC j)) (nI (0)) (nI (yc))) := x_D ha _ rfl
              refine lv_iload hx hb d_S_settleTargets_28 (lv_at hl 4 rfl) ?_
              refine lv_iconst (v := (nI (2))) hx hb d_S_settleTargets_30 (by decide) ?_
              refine lv_iload_n hx hb d_S_settleTargets_31 rfl (lv_at hl 3 rfl) ?_
              refine rw_mul hx hb d_S_settleTargets_32 ?_
              refine lv_iconst (v := (nI (1))) hx hb d_S_settleTargets_33 (by decide) ?_
              refine rw_add hx hb d_S_settleTargets_34 ?_
              refine rw_cgt (tgt := 71) hx hb d_S_settleTargets_35 (by decide) (by omega) (by omega) (fun c_35 => ?_) (fun c_35 => ?_)
              · omega
              · refine lv_aload_n hx hb d_S_settleTargets_38 rfl (lv_at hl 1 rfl) ?_
                refine lv_iload hx hb d_S_settleTargets_39 (lv_at hl 4 rfl) ?_
                refine w_ci (As := [.int (nI (r))]) (rest := []) ⟨hx, hb, hml, hown, hts⟩ (c_A_isOpen l D cI cZ g a ha w h Q (fun r9 => rt_o (F r9)) hd bl (fun j => nI (RS j)) (nI (0)) (nI (ys)) (fun j => nI (RC j)) (nI (0)) (nI (yc)) (nI r) hG) (cwV 1 hts (t_gV k_methodLink_rn_S_101_y_A_isOpen k_instanceMethod_y_A_isOpen k_selects_rn_A_y_A_isOpen_y_A_isOpen k_initialized_rn_A k_code_y_A_isOpen_prog_3_method_11_code_2_some_boolean) rfl rfl rfl (by decide +kernel) ⟨Nat.le_of_ble_eq_true rfl, Nat.le_of_ble_eq_true rfl⟩) (va_recv hK hP (ci := 1) (q0 := 1) rfl rfl) hP hK hZ hS rfl hl.1 rfl (Nat.le_of_ble_eq_true rfl) d_S_settleTargets_41 ⟨Nat.zero_le _, Nat.zero_le _⟩ (fun r_41 u_41 H locs hw hP hS => ?_)
                subst hw
                have hP : va_P D vwCl (xw cI a w h Q (fun r9 => rt_o (F r9)) hd bl (fun j => nI (RS j)) (nI (0)) (nI (ys)) (fun j => nI (RC j)) (nI (0)) (nI (yc))) H := hP
                rw [rt_opx_s (by omega) (by omega)]
                refine rw_beq (tgt := 65) hx hb d_S_settleTargets_44 (by decide) (fun c_44 => ?_) (fun c_44 => ?_)
                · refine lv_iinc (v := (nI (r + 1))) (lv' := [(4, .int (nI (r + 1))), (0, .ref (a 4)), (1, .ref (a 1)), (2, .int (nI (z))), (3, .int (nI (k)))]) hx hb d_S_settleTargets_65 hl (k := 4) rfl (nI_add _ _) (by decide) rfl (fun ls hl => ?_)
                  refine lv_goto (tgt := 28) hx hb d_S_settleTargets_68 (by decide) ?_
                  exact ih_28 (r + 1) F RS ys RC yc (by omega) (by omega) (rt_cT_skip hI2 (by omega) (fun q h1 h2 => by rw [show q = r by omega, rt_la_tg]; simp_all)) _ _ _ hP hS (lv_sub hl [1, 2, 3, 4, 0] rfl)
                · refine lv_aload_n hx hb d_S_settleTargets_47 rfl (lv_at hl 1 rfl) ?_
                  refine lv_iload hx hb d_S_settleTargets_48 (lv_at hl 4 rfl) ?_
                  refine lv_iload_n hx hb d_S_settleTargets_50 rfl (lv_at hl 2 rfl) ?_
                  refine w_ci (As := [.int (nI (r)), .int (nI (z))]) (rest := []) ⟨hx, hb, hml, hown, hts⟩ (c_A_isLastOf l D cI cZ g a ha w h Q (fun r9 => rt_o (F r9)) hd bl (fun j => nI (RS j)) (nI (0)) (nI (ys)) (fun j => nI (RC j)) (nI (0)) (nI (yc)) r z hG (by omega) hz) (cwV 2 hts (t_gV k_methodLink_rn_S_104_y_A_isLastOf k_instanceMethod_y_A_isLastOf k_selects_rn_A_y_A_isLastOf_y_A_isLastOf k_initialized_rn_A k_code_y_A_isLastOf_prog_3_method_16_code_5_some_boolean) rfl rfl rfl (by decide +kernel) ⟨Nat.le_of_ble_eq_true rfl, Nat.le_of_ble_eq_true rfl⟩) (va_recv hK hP (ci := 1) (q0 := 1) rfl rfl) hP hK hZ hS rfl hl.1 rfl (Nat.le_of_ble_eq_true rfl) d_S_settleTargets_51 ⟨Nat.zero_le _, Nat.zero_le _⟩ (fun r_51 u_51 H locs hw hP hS => ?_)
                  subst hw
                  have hP : va_P D vwCl (xw cI a w h Q (fun r9 => rt_o (F r9)) hd bl (fun j => nI (RS j)) (nI (0)) (nI (ys)) (fun j => nI (RC j)) (nI (0)) (nI (yc))) H := hP
                  refine rw_beq (tgt := 65) hx hb d_S_settleTargets_54 (by decide) (fun c_54 => ?_) (fun c_54 => ?_)
                  · refine lv_iinc (v := (nI (r + 1))) (lv' := [(4, .int (nI (r + 1))), (0, .ref (a 4)), (1, .ref (a 1)), (2, .int (nI (z))), (3, .int (nI (k)))]) hx hb d_S_settleTargets_65 hl (k := 4) rfl (nI_add _ _) (by decide) rfl (fun ls hl => ?_)
                    refine lv_goto (tgt := 28) hx hb d_S_settleTargets_68 (by decide) ?_
                    exact ih_28 (r + 1) F RS ys RC yc (by omega) (by omega) (rt_cT_skip hI2 (by omega) (fun q h1 h2 => by rw [show q = r by omega, rt_la_tg]; simp_all)) _ _ _ hP hS (lv_sub hl [1, 2, 3, 4, 0] rfl)
                  · have hse := rt_cT_se hI2 (by rw [rt_la_tg, c_44, c_54]; rfl)
                    refine lv_aload_n hx hb d_S_settleTargets_57 rfl (lv_at hl 0 rfl) ?_
                    refine lv_aload_n hx hb d_S_settleTargets_58 rfl (lv_at hl 1 rfl) ?_
                    refine lv_iload hx hb d_S_settleTargets_59 (lv_at hl 4 rfl) ?_
                    refine lv_iconst (v := (nI (0))) hx hb d_S_settleTargets_61 (by decide) ?_
                    refine w_cv (As := [.ref (a 1), .int (nI (r)), .int (nI (0))]) (rest := []) ⟨hx, hb, hml, hown, hts⟩ (c_S_settle l D cI cZ g a ha w h Q (fun r9 => rt_o (F r9)) hd bl (fun j => nI (RS j)) (nI (0)) (nI (ys)) (fun j => nI (RC j)) (nI (0)) (nI (yc)) F RS 0 ys RC 0 yc r 0 hG (by omega) hse.2.1 hse.2.2) (cwV 3 hts (t_gV k_methodLink_rn_S_108_y_S_settle k_instanceMethod_y_S_settle k_selects_rn_S_y_S_settle_y_S_settle k_initialized_rn_S k_code_y_S_settle_prog_4_method_11_code_4_none) rfl rfl rfl (by decide +kernel) ⟨Nat.le_of_ble_eq_true rfl, Nat.le_of_ble_eq_true rfl⟩) (va_recv hK hP (ci := 2) (q0 := 4) rfl rfl) hP hK hZ hS rfl hl.1 rfl (Nat.le_of_ble_eq_true rfl) d_S_settleTargets_62 ⟨Nat.zero_le _, Nat.zero_le _⟩ (fun u_62 H locs hw hP hS => ?_)
                    have hse := hse.1
                    rw [← hw] at hse
                    obtain ⟨RS1, ys1, RC1, yc1⟩ := u_62
                    have hP : va_P D vwCl (xw cI a w h Q (fun r9 => rt_o (va_up F r (some 0) r9)) hd bl (fun j => nI (RS1 j)) (nI (0)) (nI (ys1)) (fun j => nI (RC1 j)) (nI (0)) (nI (yc1))) H := hP
                    have hD : va_D (xA a) (xw cI a w h Q (fun r9 => rt_o (va_up F r (some 0) r9)) hd bl (fun j => nI (RS1 j)) (nI (0)) (nI (ys1)) (fun j => nI (RC1 j)) (nI (0)) (nI (yc1))) := x_D ha _ rfl
                    refine lv_iinc (v := (nI (r + 1))) (lv' := [(4, .int (nI (r + 1))), (0, .ref (a 4)), (1, .ref (a 1)), (2, .int (nI (z))), (3, .int (nI (k)))]) hx hb d_S_settleTargets_65 hl (k := 4) rfl (nI_add _ _) (by decide) rfl (fun ls hl => ?_)
                    refine lv_goto (tgt := 28) hx hb d_S_settleTargets_68 (by decide) ?_
                    exact ih_28 (r + 1) _ RS1 ys1 RC1 yc1 (by omega) (by omega) hse _ _ _ hP hS (lv_sub hl [1, 2, 3, 4, 0] rfl)
          exact LP_28 2 (2 * k) F RS ys RC yc (by omega) (by omega) hI _ _ _ hP hS (lv_sub hl [1, 2, 3, 4, 0] rfl)
        · have hT : rt_cT Q w h z F RS ys RC yc (2 * (k + 1)) := rt_cT_skip hI (by omega) (fun q h1 h2 => by rw [rt_la_tg, rt_la_f (fun e => c_17 (rt_st_mk (by rw [show q / 2 = k by omega] at e; exact e))), Bool.and_false])
          refine lv_goto (tgt := 71) hx hb d_S_settleTargets_20 (by decide) ?_
          refine lv_iinc (v := (nI (k + 1))) (lv' := [(3, .int (nI (k + 1))), (0, .ref (a 4)), (1, .ref (a 1)), (2, .int (nI (z)))]) hx hb d_S_settleTargets_71 hl (k := 3) rfl (nI_add _ _) (by decide) rfl (fun ls hl => ?_)
          refine lv_goto (tgt := 2) hx hb d_S_settleTargets_74 (by decide) ?_
          exact ih_2 (k + 1) F RS ys RC yc (by omega) hT _ _ _ hP hS (lv_sub hl [1, 2, 3, 0] rfl)
  exact LP_2 (6 * (w * h)) 0 _ RS 0 RC 0 (by omega) (rt_cT_0 Q w h z RS RC) _ _ _ hP hS (lv_sub hl [1, 2, 3, 0] rfl)

set_option maxHeartbeats 4000000 in
set_option maxRecDepth 100000 in
theorem c_S_settleBehind (l : Launch) (D : va_G) (cI cZ : ClassId) (g a : Nat → Nat) (ha : xI a) (w h : Nat) (Q : Nat → Nat) (ff : Nat → Int32) (hd bl : Int32) (rs : Nat → Int32) (hs ts : Int32) (rc : Nat → Int32) (hc tc : Int32) (F : Nat → Option Nat) (RS : Nat → Nat) (xs ys : Nat) (RC : Nat → Nat) (xc yc : Nat) (z M f k : Nat) (hG : rt_G w h Q) (hI : rt_cS Q w h z F RS xs ys RC xc yc M f k 0) (hM : M ≤ 100000) : Met l y_S_settleBehind (.code y_S_settleBehind b_S_settleBehind 6 none :: tG) ({ frames := 3, cells := 0, slots := 0, locals := 64 }) (va_Pc [.ref (a 4), .ref (a 1), .int (nI (f))] (wU D cI cZ g (xA a) (xw cI a w h Q (fun r9 => rt_o (F r9)) hd bl (fun j => nI (RS j)) (nI (xs)) (nI (ys)) (fun j => nI (RC j)) (nI (xc)) (nI (yc))))) (va_Qv (S := ((Nat → Option Nat) × (Nat → Nat) × Nat × (Nat → Nat) × Nat)) (fun u => rt_cI Q w h z u.1 u.2.1 xs u.2.2.1 u.2.2.2.1 xc u.2.2.2.2 M (fun _ => True) (fun _ _ => False)) (wB D (fun (u : ((Nat → Option Nat) × (Nat → Nat) × Nat × (Nat → Nat) × Nat)) => (xw cI a w h Q (fun r9 => rt_o (u.1 r9)) hd bl (fun j => nI (u.2.1 j)) (nI (xs)) (nI (u.2.2.1)) (fun j => nI (u.2.2.2.1 j)) (nI (xc)) (nI (u.2.2.2.2))))) (xA a)) 0 0 (xA a) := by
  refine Met.ofW (cc := b_S_settleBehind) (maxL := 6) (ret := none) (by decide) rfl ?_
  intro p e s m args below meth c s₁ B hml hv
  obtain ⟨rfl, hP, hK, hZ⟩ := hv
  have hx := B.exec
  have hb := B.bytes
  have hr := B.returns
  have hts : ∀ w ∈ tG, w.before _ s = true := fun w hw => atoms_spec (ws := .code y_S_settleBehind b_S_settleBehind 6 none :: tG) B.pre w (List.mem_cons_of_mem _ hw)
  have hown : s.vm.findClass rn_S = some m.cls := findClass_of_methodNamed B.named
  have hlocks := B.notSynchronized
  have hS : va_S (xA a) s.heap s.heap [] := va_S.rf
  have hD : va_D (xA a) (xw cI a w h Q (fun r9 => rt_o (F r9)) hd bl (fun j => nI (RS j)) (nI (xs)) (nI (ys)) (fun j => nI (RC j)) (nI (xc)) (nI (yc))) := x_D ha _ rfl
  have hP : va_P D vwCl (xw cI a w h Q (fun r9 => rt_o (F r9)) hd bl (fun j => nI (RS j)) (nI (xs)) (nI (ys)) (fun j => nI (RC j)) (nI (xc)) (nI (yc))) s.heap := hP
  have hl := lv_entry ([.ref (a 4), .ref (a 1), .int (nI (f))]) (n := 6) (Nat.le_of_ble_eq_true rfl)
  rw [lg_entry_eq]
  generalize (lg_sl ([.ref (a 4), .ref (a 1), .int (nI (f))]) ++ List.replicate (6 - (lg_sl ([.ref (a 4), .ref (a 1), .int (nI (f))])).length) Slot.unset).toArray = ls at hl ⊢
  have hl : lv_has ls 6 [(0, .ref (a 4)), (1, .ref (a 1)), (2, .int (nI (f)))] := hl
  obtain ⟨hn1, hn⟩ := hG.n
  have hw0 : 0 < w := by have := hG.1.1; omega
  have hQ := hG.2.2
  have hf0 : f < 12 * (w * h) := rt_cI_op hI.1 f k hI.2.1
  have hln := rt_ln_in f
  refine lv_aload_n hx hb d_S_settleBehind_0 rfl (lv_at hl 0 rfl) ?_
  refine va_get (D := D) (ci := 2) (v := .ref (a 5)) (C := rn_S) (T := tf_S) (N := 5) hx hb hts in_S hown hK hP 4 rfl rfl 0 (by decide) (hts _ k_fieldLink_rn_S_11_rn_S_found_I) (fun _ h9 => h9) rfl d_S_settleBehind_1 ?_
  refine lv_iload_n hx hb d_S_settleBehind_4 rfl (lv_at hl 2 rfl) ?_
  refine rw_iald (v := (nI (k))) hx hb hK hP 5 0 rfl rfl (hf0) (by omega) (by show rt_o (F f) = _; rw [hI.2.1]; rfl) d_S_settleBehind_5 ?_
  refine lv_aload_n hx hb d_S_settleBehind_6 rfl (lv_at hl 1 rfl) ?_
  refine lv_iload_n hx hb d_S_settleBehind_7 rfl (lv_at hl 2 rfl) ?_
  refine w_ci (As := [.int (nI (f))]) (rest := [.int (nI (k))]) ⟨hx, hb, hml, hown, hts⟩ (c_A_lengthOf l D cI cZ g a ha w h Q (fun r9 => rt_o (F r9)) hd bl (fun j => nI (RS j)) (nI (xs)) (nI (ys)) (fun j => nI (RC j)) (nI (xc)) (nI (yc)) f hG hf0) (cwV 1 hts (t_gV k_methodLink_rn_S_111_y_A_lengthOf k_instanceMethod_y_A_lengthOf k_selects_rn_A_y_A_lengthOf_y_A_lengthOf k_initialized_rn_A k_code_y_A_lengthOf_prog_3_method_13_code_2_some_int) rfl rfl rfl (by decide +kernel) ⟨Nat.le_of_ble_eq_true rfl, Nat.le_of_ble_eq_true rfl⟩) (va_recv hK hP (ci := 1) (q0 := 1) rfl rfl) hP hK hZ hS rfl hl.1 rfl (Nat.le_of_ble_eq_true rfl) d_S_settleBehind_8 ⟨Nat.zero_le _, Nat.zero_le _⟩ (fun r_8 u_8 H locs hw hP hS => ?_)
  subst hw
  have hP : va_P D vwCl (xw cI a w h Q (fun r9 => rt_o (F r9)) hd bl (fun j => nI (RS j)) (nI (xs)) (nI (ys)) (fun j => nI (RC j)) (nI (xc)) (nI (yc))) H := hP
  refine rw_add hx hb d_S_settleBehind_11 ?_
  refine rw_top (b := M) (by have := hI.2.2; omega) ?_
  refine lv_istore_n (lv' := [(3, .int (nI (M))), (0, .ref (a 4)), (1, .ref (a 1)), (2, .int (nI (f)))]) hx hb d_S_settleBehind_12 rfl hl (by decide) rfl (fun ls hl => ?_)
  refine lv_iconst (v := (nI (0))) hx hb d_S_settleBehind_13 (by decide) ?_
  refine lv_istore (lv' := [(4, .int (nI (0))), (3, .int (nI (M))), (0, .ref (a 4)), (1, .ref (a 1)), (2, .int (nI (f)))]) hx hb d_S_settleBehind_14 hl (by decide) rfl (fun ls hl => ?_)
  have LP_16 : ∀ (n_16 : Nat) (i : Nat) (F : Nat → Option Nat) (RS : Nat → Nat) (ys : Nat) (RC : Nat → Nat) (yc : Nat), i + n_16 = 3 → (rt_cS Q w h z F RS xs ys RC xc yc M f k i) → ∀ (H : Heap) (locs : List Loc) (ls : Array Slot), va_P D vwCl (xw cI a w h Q (fun r9 => rt_o (F r9)) hd bl (fun j => nI (RS j)) (nI (xs)) (nI (ys)) (fun j => nI (RC j)) (nI (xc)) (nI (yc))) H → va_S (xA a) s.heap H locs → lv_has ls 6 [(0, .ref (a 4)), (1, .ref (a 1)), (2, .int (nI (f))), (3, .int (nI (M))), (4, .int (nI (i)))] → W p l e (headSpec (.code y_S_settleBehind b_S_settleBehind 6 none :: tG) ({ frames := 3, cells := 0, slots := 0, locals := 64 })).room s m ([.ref (a 4), .ref (a 1), .int (nI (f))] : List Value).toArray below meth c H locs 0 0 (MQ below (va_Qv (S := ((Nat → Option Nat) × (Nat → Nat) × Nat × (Nat → Nat) × Nat)) (fun u => rt_cI Q w h z u.1 u.2.1 xs u.2.2.1 u.2.2.2.1 xc u.2.2.2.2 M (fun _ => True) (fun _ _ => False)) (wB D (fun (u : ((Nat → Option Nat) × (Nat → Nat) × Nat × (Nat → Nat) × Nat)) => (xw cI a w h Q (fun r9 => rt_o (u.1 r9)) hd bl (fun j => nI (u.2.1 j)) (nI (xs)) (nI (u.2.2.1)) (fun j => nI (u.2.2.2.1 j)) (nI (xc)) (nI (u.2.2.2.2))))) (xA a)) ([.ref (a 4), .ref (a 1), .int (nI (f))] : List Value).toArray s 0 0 (xA a)) (F0 m 16 ls []) := by
    intro n_16
    induction n_16 with
    | zero =>
      intro i F RS ys RC yc hrel_16 hI H locs ls hP hS hl
      have hD : va_D (xA a) (xw cI a w h Q (fun r9 => rt_o (F r9)) hd bl (fun j => nI (RS j)) (nI (xs)) (nI (ys)) (fun j => nI (RC j)) (nI (xc)) (nI (yc))) := x_D ha _ rfl
      refine lv_iload hx hb d_S_settleBehind_16 (lv_at hl 4 rfl) ?_
      refine lv_iconst (v := (nI (3))) hx hb d_S_settleBehind_18 (by decide) ?_
      refine rw_cge (tgt := 65) hx hb d_S_settleBehind_19 (by decide) (by omega) (by omega) (fun c_19 => ?_) (fun c_19 => ?_)
      · exact w_vret (F, RS, ys, RC, yc) hx hb hr hlocks hS hP (rt_cS_end hw0 (by rw [show i = 3 by omega] at hI; exact hI)) d_S_settleBehind_65
      · omega
    | succ n_16 ih_16 =>
      intro i F RS ys RC yc hrel_16 hI H locs ls hP hS hl
      have hD : va_D (xA a) (xw cI a w h Q (fun r9 => rt_o (F r9)) hd bl (fun j => nI (RS j)) (nI (xs)) (nI (ys)) (fun j => nI (RC j)) (nI (xc)) (nI (yc))) := x_D ha _ rfl
      refine lv_iload hx hb d_S_settleBehind_16 (lv_at hl 4 rfl) ?_
      refine lv_iconst (v := (nI (3))) hx hb d_S_settleBehind_18 (by decide) ?_
      refine rw_cge (tgt := 65) hx hb d_S_settleBehind_19 (by decide) (by omega) (by omega) (fun c_19 => ?_) (fun c_19 => ?_)
      · omega
      · refine lv_aload_n hx hb d_S_settleBehind_22 rfl (lv_at hl 1 rfl) ?_
        refine lv_iload_n hx hb d_S_settleBehind_23 rfl (lv_at hl 2 rfl) ?_
        refine lv_iload hx hb d_S_settleBehind_24 (lv_at hl 4 rfl) ?_
        refine w_ci (As := [.int (nI (f)), .int (nI (i))]) (rest := []) ⟨hx, hb, hml, hown, hts⟩ (c_A_behind l D cI cZ g a ha w h Q (fun r9 => rt_o (F r9)) hd bl (fun j => nI (RS j)) (nI (xs)) (nI (ys)) (fun j => nI (RC j)) (nI (xc)) (nI (yc)) f i hG hf0 (by omega)) (cwV 2 hts (t_gV k_methodLink_rn_S_114_y_A_behind k_instanceMethod_y_A_behind k_selects_rn_A_y_A_behind_y_A_behind k_initialized_rn_A k_code_y_A_behind_prog_3_method_15_code_4_some_int) rfl rfl rfl (by decide +kernel) ⟨Nat.le_of_ble_eq_true rfl, Nat.le_of_ble_eq_true rfl⟩) (va_recv hK hP (ci := 1) (q0 := 1) rfl rfl) hP hK hZ hS rfl hl.1 rfl (Nat.le_of_ble_eq_true rfl) d_S_settleBehind_26 ⟨Nat.zero_le _, Nat.zero_le _⟩ (fun r_26 u_26 H locs hw hP hS => ?_)
        subst hw
        have hP : va_P D vwCl (xw cI a w h Q (fun r9 => rt_o (F r9)) hd bl (fun j => nI (RS j)) (nI (xs)) (nI (ys)) (fun j => nI (RC j)) (nI (xc)) (nI (yc))) H := hP
        cases ho_29 : rt_bh w h f i with
        | none =>
          refine lv_istore (lv' := [(5, .int (-1)), (0, .ref (a 4)), (1, .ref (a 1)), (2, .int (nI (f))), (3, .int (nI (M))), (4, .int (nI (i)))]) hx hb d_S_settleBehind_29 hl (by decide) rfl (fun ls hl => ?_)
          refine lv_aload_n hx hb d_S_settleBehind_31 rfl (lv_at hl 2 rfl) ?_
          refine lv_iload hx hb d_S_settleBehind_32 (lv_at hl 0 rfl) ?_
          refine w_ci (As := [.int (-1)]) (rest := []) ⟨hx, hb, hml, hown, hts⟩ (c_A_isOpen l D cI cZ g a ha w h Q (fun r9 => rt_o (F r9)) hd bl (fun j => nI (RS j)) (nI (xs)) (nI (ys)) (fun j => nI (RC j)) (nI (xc)) (nI (yc)) (-1) hG) (cwV 1 hts (t_gV k_methodLink_rn_S_101_y_A_isOpen k_instanceMethod_y_A_isOpen k_selects_rn_A_y_A_isOpen_y_A_isOpen k_initialized_rn_A k_code_y_A_isOpen_prog_3_method_11_code_2_some_boolean) rfl rfl rfl (by decide +kernel) ⟨Nat.le_of_ble_eq_true rfl, Nat.le_of_ble_eq_true rfl⟩) (va_recv hK hP (ci := 1) (q0 := 1) rfl rfl) hP hK hZ hS rfl hl.1 rfl (Nat.le_of_ble_eq_true rfl) d_S_settleBehind_34 ⟨Nat.zero_le _, Nat.zero_le _⟩ (fun r_34 u_34 H locs hw hP hS => ?_)
          subst hw
          have hP : va_P D vwCl (xw cI a w h Q (fun r9 => rt_o (F r9)) hd bl (fun j => nI (RS j)) (nI (xs)) (nI (ys)) (fun j => nI (RC j)) (nI (xc)) (nI (yc))) H := hP
          rw [rt_opx_n (Or.inl (by decide))]
          refine rw_beq (tgt := 59) hx hb d_S_settleBehind_37 (by decide) (fun c_37 => ?_) (fun c_37 => ?_)
          · refine lv_iinc (v := (nI (i + 1))) (lv' := [(4, .int (nI (i + 1))), (5, .int (-1)), (0, .ref (a 4)), (1, .ref (a 1)), (2, .int (nI (f))), (3, .int (nI (M)))]) hx hb d_S_settleBehind_59 hl (k := 5) rfl (nI_add _ _) (by decide) rfl (fun ls hl => ?_)
            refine lv_goto (tgt := 16) hx hb d_S_settleBehind_62 (by decide) ?_
            exact ih_16 (i + 1) F RS ys RC yc (by omega) (rt_cS_skip hI (fun b hb9 _ => by rw [ho_29] at hb9; cases hb9)) _ _ _ hP hS (lv_sub hl [2, 3, 4, 5, 0] rfl)
          · cases c_37
        | some b =>
          have hb9 : b < 12 * (w * h) := rt_bh_lt hw0 hf0 (by omega) ho_29
          refine lv_istore (lv' := [(5, .int (nI (b))), (0, .ref (a 4)), (1, .ref (a 1)), (2, .int (nI (f))), (3, .int (nI (M))), (4, .int (nI (i)))]) hx hb d_S_settleBehind_29 hl (by decide) rfl (fun ls hl => ?_)
          refine lv_aload_n hx hb d_S_settleBehind_31 rfl (lv_at hl 2 rfl) ?_
          refine lv_iload hx hb d_S_settleBehind_32 (lv_at hl 0 rfl) ?_
          refine w_ci (As := [.int (nI (b))]) (rest := []) ⟨hx, hb, hml, hown, hts⟩ (c_A_isOpen l D cI cZ g a ha w h Q (fun r9 => rt_o (F r9)) hd bl (fun j => nI (RS j)) (nI (xs)) (nI (ys)) (fun j => nI (RC j)) (nI (xc)) (nI (yc)) (nI (b)) hG) (cwV 1 hts (t_gV k_methodLink_rn_S_101_y_A_isOpen k_instanceMethod_y_A_isOpen k_selects_rn_A_y_A_isOpen_y_A_isOpen k_initialized_rn_A k_code_y_A_isOpen_prog_3_method_11_code_2_some_boolean) rfl rfl rfl (by decide +kernel) ⟨Nat.le_of_ble_eq_true rfl, Nat.le_of_ble_eq_true rfl⟩) (va_recv hK hP (ci := 1) (q0 := 1) rfl rfl) hP hK hZ hS rfl hl.1 rfl (Nat.le_of_ble_eq_true rfl) d_S_settleBehind_34 ⟨Nat.zero_le _, Nat.zero_le _⟩ (fun r_34 u_34 H locs hw hP hS => ?_)
          subst hw
          have hP : va_P D vwCl (xw cI a w h Q (fun r9 => rt_o (F r9)) hd bl (fun j => nI (RS j)) (nI (xs)) (nI (ys)) (fun j => nI (RC j)) (nI (xc)) (nI (yc))) H := hP
          rw [rt_opx_s (by omega) hb9]
          refine rw_beq (tgt := 59) hx hb d_S_settleBehind_37 (by decide) (fun c_37 => ?_) (fun c_37 => ?_)
          · refine lv_iinc (v := (nI (i + 1))) (lv' := [(4, .int (nI (i + 1))), (5, .int (nI (b))), (0, .ref (a 4)), (1, .ref (a 1)), (2, .int (nI (f))), (3, .int (nI (M)))]) hx hb d_S_settleBehind_59 hl (k := 5) rfl (nI_add _ _) (by decide) rfl (fun ls hl => ?_)
            refine lv_goto (tgt := 16) hx hb d_S_settleBehind_62 (by decide) ?_
            exact ih_16 (i + 1) F RS ys RC yc (by omega) (rt_cS_skip hI (fun b9 hb9 ho9 => by rw [ho_29] at hb9; cases hb9; rw [c_37] at ho9; cases ho9)) _ _ _ hP hS (lv_sub hl [2, 3, 4, 5, 0] rfl)
          · refine lv_aload_n hx hb d_S_settleBehind_40 rfl (lv_at hl 1 rfl) ?_
            refine va_get (D := D) (ci := 2) (v := .ref (a 5)) (C := rn_S) (T := tf_S) (N := 5) hx hb hts in_S hown hK hP 4 rfl rfl 0 (by decide) (hts _ k_fieldLink_rn_S_11_rn_S_found_I) (fun _ h9 => h9) rfl d_S_settleBehind_41 ?_
            refine lv_iload hx hb d_S_settleBehind_44 (lv_at hl 0 rfl) ?_
            refine rw_iald (v := (rt_o (F b))) hx hb hK hP 5 0 rfl rfl (by omega) (by omega) (rfl) d_S_settleBehind_46 ?_
            cases ho_47 : F b with
            | none =>
              have hse := rt_cS_se hw0 (by omega) hI ho_29 c_37 ho_47
              refine lv_iconst (v := (-1)) hx hb d_S_settleBehind_47 (by decide) ?_
              refine lv_icmp_ne (tgt := 59) hx hb d_S_settleBehind_48 (by decide) (fun c_48 => ?_) (fun c_48 => ?_)
              · exact absurd rfl c_48
              · refine lv_aload_n hx hb d_S_settleBehind_51 rfl (lv_at hl 1 rfl) ?_
                refine lv_aload_n hx hb d_S_settleBehind_52 rfl (lv_at hl 2 rfl) ?_
                refine lv_iload hx hb d_S_settleBehind_53 (lv_at hl 0 rfl) ?_
                refine lv_iload_n hx hb d_S_settleBehind_55 rfl (lv_at hl 4 rfl) ?_
                refine w_cv (As := [.ref (a 1), .int (nI (b)), .int (nI (M))]) (rest := []) ⟨hx, hb, hml, hown, hts⟩ (c_S_settle l D cI cZ g a ha w h Q (fun r9 => rt_o (F r9)) hd bl (fun j => nI (RS j)) (nI (xs)) (nI (ys)) (fun j => nI (RC j)) (nI (xc)) (nI (yc)) F RS xs ys RC xc yc b M hG hb9 hse.2.1 hse.2.2) (cwV 3 hts (t_gV k_methodLink_rn_S_108_y_S_settle k_instanceMethod_y_S_settle k_selects_rn_S_y_S_settle_y_S_settle k_initialized_rn_S k_code_y_S_settle_prog_4_method_11_code_4_none) rfl rfl rfl (by decide +kernel) ⟨Nat.le_of_ble_eq_true rfl, Nat.le_of_ble_eq_true rfl⟩) (va_recv hK hP (ci := 2) (q0 := 4) rfl rfl) hP hK hZ hS rfl hl.1 rfl (Nat.le_of_ble_eq_true rfl) d_S_settleBehind_56 ⟨Nat.zero_le _, Nat.zero_le _⟩ (fun u_56 H locs hw hP hS => ?_)
                have hse := hse.1
                rw [← hw] at hse
                obtain ⟨RS1, ys1, RC1, yc1⟩ := u_56
                have hP : va_P D vwCl (xw cI a w h Q (fun r9 => rt_o (va_up F b (some M) r9)) hd bl (fun j => nI (RS1 j)) (nI (xs)) (nI (ys1)) (fun j => nI (RC1 j)) (nI (xc)) (nI (yc1))) H := hP
                have hD : va_D (xA a) (xw cI a w h Q (fun r9 => rt_o (va_up F b (some M) r9)) hd bl (fun j => nI (RS1 j)) (nI (xs)) (nI (ys1)) (fun j => nI (RC1 j)) (nI (xc)) (nI (yc1))) := x_D ha _ rfl
                refine lv_iinc (v := (nI (i + 1))) (lv' := [(4, .int (nI (i + 1))), (5, .int (nI (b))), (0, .ref (a 4)), (1, .ref (a 1)), (2, .int (nI (f))), (3, .int (nI (M)))]) hx hb d_S_settleBehind_59 hl (k := 5) rfl (nI_add _ _) (by decide) rfl (fun ls hl => ?_)
                refine lv_goto (tgt := 16) hx hb d_S_settleBehind_62 (by decide) ?_
                exact ih_16 (i + 1) _ RS1 ys1 RC1 yc1 (by omega) hse _ _ _ hP hS (lv_sub hl [2, 3, 4, 5, 0] rfl)
            | some q =>
              have hq9 := rt_cI_bd hM hI.1 b q ho_47
              refine lv_iconst (v := (-1)) hx hb d_S_settleBehind_47 (by decide) ?_
              refine lv_icmp_ne (tgt := 59) hx hb d_S_settleBehind_48 (by decide) (fun c_48 => ?_) (fun c_48 => ?_)
              · refine lv_iinc (v := (nI (i + 1))) (lv' := [(4, .int (nI (i + 1))), (5, .int (nI (b))), (0, .ref (a 4)), (1, .ref (a 1)), (2, .int (nI (f))), (3, .int (nI (M)))]) hx hb d_S_settleBehind_59 hl (k := 5) rfl (nI_add _ _) (by decide) rfl (fun ls hl => ?_)
                refine lv_goto (tgt := 16) hx hb d_S_settleBehind_62 (by decide) ?_
                exact ih_16 (i + 1) F RS ys RC yc (by omega) (rt_cS_skip hI (fun b9 hb9 _ => by rw [ho_29] at hb9; cases hb9; exact ⟨_, ho_47⟩)) _ _ _ hP hS (lv_sub hl [2, 3, 4, 5, 0] rfl)
              · exact absurd c_48 (rt_o_ne _ (by omega))
  exact LP_16 3 0 F RS ys RC yc (by omega) hI _ _ _ hP hS (lv_sub hl [2, 3, 4, 1, 0] rfl)

set_option maxHeartbeats 4000000 in
set_option maxRecDepth 100000 in
theorem c_S_takeNearest (l : Launch) (D : va_G) (cI cZ : ClassId) (g a : Nat → Nat) (ha : xI a) (w h : Nat) (Q : Nat → Nat) (ff : Nat → Int32) (hd bl : Int32) (rs : Nat → Int32) (hs ts : Int32) (rc : Nat → Int32) (hc tc : Int32) (F : Nat → Option Nat) (RS : Nat → Nat) (xs ys : Nat) (RC : Nat → Nat) (xc yc : Nat) (z M : Nat) (hG : rt_G w h Q) (hI : rt_cI Q w h z F RS xs ys RC xc yc M (fun _ => True) (fun _ _ => False)) (hM : M ≤ 100000) : Met l y_S_takeNearest (.code y_S_takeNearest b_S_takeNearest 5 (some .int) :: tG) ({ frames := 2, cells := 0, slots := 0, locals := 41 }) (va_Pc [.ref (a 4)] (wU D cI cZ g (xA a) (xw cI a w h Q (fun r9 => rt_o (F r9)) hd bl (fun j => nI (RS j)) (nI (xs)) (nI (ys)) (fun j => nI (RC j)) (nI (xc)) (nI (yc))))) (va_Qi (S := (Nat × Nat)) (fun r u => rt_tn Q w h z F RS xs ys RC xc yc r u.1 u.2) (wB D (fun (u : (Nat × Nat)) => (xw cI a w h Q (fun r9 => rt_o (F r9)) hd bl (fun j => nI (RS j)) (nI (u.1)) (nI (ys)) (fun j => nI (RC j)) (nI (u.2)) (nI (yc))))) (xA a)) 0 0 (xA a) := by
  refine Met.ofW (cc := b_S_takeNearest) (maxL := 5) (ret := (some .int)) (by decide) rfl ?_
  intro p e s m args below meth c s₁ B hml hv
  obtain ⟨rfl, hP, hK, hZ⟩ := hv
  have hx := B.exec
  have hb := B.bytes
  have hr := B.returns
  have hts : ∀ w ∈ tG, w.before _ s = true := fun w hw => atoms_spec (ws := .code y_S_takeNearest b_S_takeNearest 5 (some .int) :: tG) B.pre w (List.mem_cons_of_mem _ hw)
  have hown : s.vm.findClass rn_S = some m.cls := findClass_of_methodNamed B.named
  have hlocks := B.notSynchronized
  have hS : va_S (xA a) s.heap s.heap [] := va_S.rf
  have hD : va_D (xA a) (xw cI a w h Q (fun r9 => rt_o (F r9)) hd bl (fun j => nI (RS j)) (nI (xs)) (nI (ys)) (fun j => nI (RC j)) (nI (xc)) (nI (yc))) := x_D ha _ rfl
  have hP : va_P D vwCl (xw cI a w h Q (fun r9 => rt_o (F r9)) hd bl (fun j => nI (RS j)) (nI (xs)) (nI (ys)) (fun j => nI (RC j)) (nI (xc)) (nI (yc))) s.heap := hP
  have hl := lv_entry ([.ref (a 4)]) (n := 5) (Nat.le_of_ble_eq_true rfl)
  rw [lg_entry_eq]
  generalize (lg_sl ([.ref (a 4)]) ++ List.replicate (5 - (lg_sl ([.ref (a 4)])).length) Slot.unset).toArray = ls at hl ⊢
  have hl : lv_has ls 5 [(0, .ref (a 4))] := hl
  obtain ⟨hn1, hn⟩ := hG.n
  have hw0 : 0 < w := by have := hG.1.1; omega
  have hQ := hG.2.2
  obtain ⟨k1, k2, k3, k4⟩ := rt_cI_caps hI
  refine lv_aload_n hx hb d_S_takeNearest_0 rfl (lv_at hl 0 rfl) ?_
  refine va_get (D := D) (ci := 2) (v := .ref (a 6)) (C := rn_S) (T := tf_S) (N := 5) hx hb hts in_S hown hK hP 4 rfl rfl 1 (by decide) (hts _ k_fieldLink_rn_S_22_rn_S_straights_LRouteTracks_Queue) (fun _ h9 => h9) rfl d_S_takeNearest_1 ?_
  refine w_ci (As := []) (rest := []) ⟨hx, hb, hml, hown, hts⟩ (c_Q_first_s l D cI cZ g a ha w h Q (fun r9 => rt_o (F r9)) hd bl (fun j => nI (RS j)) (nI (xs)) (nI (ys)) (fun j => nI (RC j)) (nI (xc)) (nI (yc)) RS xs ys hG (by omega) (by omega)) (cwV 0 hts (t_gV k_methodLink_rn_S_120_y_Q_first k_instanceMethod_y_Q_first k_selects_rn_Q_y_Q_first_y_Q_first k_initialized_rn_Q k_code_y_Q_first_prog_2_method_5_code_1_some_int) rfl rfl rfl (by decide +kernel) ⟨Nat.le_of_ble_eq_true rfl, Nat.le_of_ble_eq_true rfl⟩) (va_recv hK hP (ci := 0) (q0 := 6) rfl rfl) hP hK hZ hS rfl hl.1 rfl (Nat.le_of_ble_eq_true rfl) d_S_takeNearest_4 ⟨Nat.zero_le _, Nat.zero_le _⟩ (fun r_4 u_4 H locs hw hP hS => ?_)
  subst hw
  have hP : va_P D vwCl (xw cI a w h Q (fun r9 => rt_o (F r9)) hd bl (fun j => nI (RS j)) (nI (xs)) (nI (ys)) (fun j => nI (RC j)) (nI (xc)) (nI (yc))) H := hP
  by_cases s0 : xs < ys
  · rw [if_pos s0]
    obtain ⟨q1, hc1⟩ := rt_cI_hS hI s0
    have hr1 := rt_cI_op hI _ _ hc1
    have hb1 := (hI.2.2.1 _ _ hc1).2
    refine lv_istore_n (lv' := [(1, .int (nI (RS xs))), (0, .ref (a 4))]) hx hb d_S_takeNearest_7 rfl hl (by decide) rfl (fun ls hl => ?_)
    refine lv_aload_n hx hb d_S_takeNearest_8 rfl (lv_at hl 1 rfl) ?_
    refine va_get (D := D) (ci := 2) (v := .ref (a 8)) (C := rn_S) (T := tf_S) (N := 5) hx hb hts in_S hown hK hP 4 rfl rfl 2 (by decide) (hts _ k_fieldLink_rn_S_26_rn_S_curves_LRouteTracks_Queue) (fun _ h9 => h9) rfl d_S_takeNearest_9 ?_
    refine w_ci (As := []) (rest := []) ⟨hx, hb, hml, hown, hts⟩ (c_Q_first_c l D cI cZ g a ha w h Q (fun r9 => rt_o (F r9)) hd bl (fun j => nI (RS j)) (nI (xs)) (nI (ys)) (fun j => nI (RC j)) (nI (xc)) (nI (yc)) RC xc yc hG (by omega) (by omega)) (cwV 0 hts (t_gV k_methodLink_rn_S_120_y_Q_first k_instanceMethod_y_Q_first k_selects_rn_Q_y_Q_first_y_Q_first k_initialized_rn_Q k_code_y_Q_first_prog_2_method_5_code_1_some_int) rfl rfl rfl (by decide +kernel) ⟨Nat.le_of_ble_eq_true rfl, Nat.le_of_ble_eq_true rfl⟩) (va_recv hK hP (ci := 0) (q0 := 8) rfl rfl) hP hK hZ hS rfl hl.1 rfl (Nat.le_of_ble_eq_true rfl) d_S_takeNearest_12 ⟨Nat.zero_le _, Nat.zero_le _⟩ (fun r_12 u_12 H locs hw hP hS => ?_)
    subst hw
    have hP : va_P D vwCl (xw cI a w h Q (fun r9 => rt_o (F r9)) hd bl (fun j => nI (RS j)) (nI (xs)) (nI (ys)) (fun j => nI (RC j)) (nI (xc)) (nI (yc))) H := hP
    by_cases s1 : xc < yc
    · rw [if_pos s1]
      obtain ⟨q2, hc2⟩ := rt_cI_hC hI s1
      have hr2 := rt_cI_op hI _ _ hc2
      have hb2 := (hI.2.2.1 _ _ hc2).2
      refine lv_istore_n (lv' := [(2, .int (nI (RC xc))), (1, .int (nI (RS xs))), (0, .ref (a 4))]) hx hb d_S_takeNearest_15 rfl hl (by decide) rfl (fun ls hl => ?_)
      refine lv_iload_n hx hb d_S_takeNearest_16 rfl (lv_at hl 1 rfl) ?_
      refine lv_iconst (v := (-1)) hx hb d_S_takeNearest_17 (by decide) ?_
      refine lv_icmp_ne (tgt := 29) hx hb d_S_takeNearest_18 (by decide) (fun c_18 => ?_) (fun c_18 => ?_)
      · refine lv_iload_n hx hb d_S_takeNearest_29 rfl (lv_at hl 0 rfl) ?_
        refine lv_iconst (v := (-1)) hx hb d_S_takeNearest_30 (by decide) ?_
        refine lv_icmp_ne (tgt := 42) hx hb d_S_takeNearest_31 (by decide) (fun c_31 => ?_) (fun c_31 => ?_)
        · refine lv_aload_n hx hb d_S_takeNearest_42 rfl (lv_at hl 2 rfl) ?_
          refine va_get (D := D) (ci := 2) (v := .ref (a 5)) (C := rn_S) (T := tf_S) (N := 5) hx hb hts in_S hown hK hP 4 rfl rfl 0 (by decide) (hts _ k_fieldLink_rn_S_11_rn_S_found_I) (fun _ h9 => h9) rfl d_S_takeNearest_43 ?_
          refine lv_iload_n hx hb d_S_takeNearest_46 rfl (lv_at hl 1 rfl) ?_
          refine rw_iald (v := (nI (q1))) hx hb hK hP 5 0 rfl rfl (by omega) (by omega) (by show rt_o (F _) = _; rw [hc1]; rfl) d_S_takeNearest_47 ?_
          refine lv_bipush (v := (nI (16))) hx hb d_S_takeNearest_48 (by decide) ?_
          refine rw_add hx hb d_S_takeNearest_50 ?_
          refine lv_istore_n (lv' := [(3, .int (nI (q1 + 16))), (2, .int (nI (RC xc))), (1, .int (nI (RS xs))), (0, .ref (a 4))]) hx hb d_S_takeNearest_51 rfl hl (by decide) rfl (fun ls hl => ?_)
          refine lv_aload_n hx hb d_S_takeNearest_52 rfl (lv_at hl 3 rfl) ?_
          refine va_get (D := D) (ci := 2) (v := .ref (a 5)) (C := rn_S) (T := tf_S) (N := 5) hx hb hts in_S hown hK hP 4 rfl rfl 0 (by decide) (hts _ k_fieldLink_rn_S_11_rn_S_found_I) (fun _ h9 => h9) rfl d_S_takeNearest_53 ?_
          refine lv_iload_n hx hb d_S_takeNearest_56 rfl (lv_at hl 1 rfl) ?_
          refine rw_iald (v := (nI (q2))) hx hb hK hP 5 0 rfl rfl (by omega) (by omega) (by show rt_o (F _) = _; rw [hc2]; rfl) d_S_takeNearest_57 ?_
          refine lv_bipush (v := (nI (12))) hx hb d_S_takeNearest_58 (by decide) ?_
          refine rw_add hx hb d_S_takeNearest_60 ?_
          refine lv_istore (lv' := [(4, .int (nI (q2 + 12))), (3, .int (nI (q1 + 16))), (2, .int (nI (RC xc))), (1, .int (nI (RS xs))), (0, .ref (a 4))]) hx hb d_S_takeNearest_61 hl (by decide) rfl (fun ls hl => ?_)
          refine lv_iload_n hx hb d_S_takeNearest_63 rfl (lv_at hl 1 rfl) ?_
          refine lv_iload hx hb d_S_takeNearest_64 (lv_at hl 0 rfl) ?_
          refine rw_cgt (tgt := 79) hx hb d_S_takeNearest_66 (by decide) (by omega) (by omega) (fun c_66 => ?_) (fun c_66 => ?_)
          · refine lv_aload_n hx hb d_S_takeNearest_79 rfl (lv_at hl 4 rfl) ?_
            refine va_get (D := D) (ci := 2) (v := .ref (a 8)) (C := rn_S) (T := tf_S) (N := 5) hx hb hts in_S hown hK hP 4 rfl rfl 2 (by decide) (hts _ k_fieldLink_rn_S_26_rn_S_curves_LRouteTracks_Queue) (fun _ h9 => h9) rfl d_S_takeNearest_80 ?_
            refine w_ci (As := []) (rest := []) ⟨hx, hb, hml, hown, hts⟩ (c_Q_take_c l D cI cZ g a ha w h Q (fun r9 => rt_o (F r9)) hd bl (fun j => nI (RS j)) (nI (xs)) (nI (ys)) (fun j => nI (RC j)) (nI (xc)) (nI (yc)) RC xc yc hG (by omega) (by omega)) (cwV 0 hts (t_gV k_methodLink_rn_S_64_y_Q_take k_instanceMethod_y_Q_take k_selects_rn_Q_y_Q_take_y_Q_take k_initialized_rn_Q k_code_y_Q_take_prog_2_method_6_code_2_some_int) rfl rfl rfl (by decide +kernel) ⟨Nat.le_of_ble_eq_true rfl, Nat.le_of_ble_eq_true rfl⟩) (va_recv hK hP (ci := 0) (q0 := 8) rfl rfl) hP hK hZ hS rfl hl.1 rfl (Nat.le_of_ble_eq_true rfl) d_S_takeNearest_83 ⟨Nat.zero_le _, Nat.zero_le _⟩ (fun r_83 u_83 H locs hw hP hS => ?_)
            rw [if_pos s1, if_pos s1] at hw
            obtain ⟨hw1, hw2⟩ := hw
            subst hw1
            rw [hw2] at hP
            have hP : va_P D vwCl (xw cI a w h Q (fun r9 => rt_o (F r9)) hd bl (fun j => nI (RS j)) (nI (xs)) (nI (ys)) (fun j => nI (RC j)) (nI (xc + 1)) (nI (yc))) H := hP
            have hD : va_D (xA a) (xw cI a w h Q (fun r9 => rt_o (F r9)) hd bl (fun j => nI (RS j)) (nI (xs)) (nI (ys)) (fun j => nI (RC j)) (nI (xc + 1)) (nI (yc))) := x_D ha _ rfl
            exact w_iret (xs, xc + 1) hx hb hr hlocks hS hP (rt_tn_C hI s1 hc2 (fun c9 _ h9 => by rw [hc1] at h9; cases h9; omega)) d_S_takeNearest_86
          · refine lv_aload_n hx hb d_S_takeNearest_69 rfl (lv_at hl 4 rfl) ?_
            refine va_get (D := D) (ci := 2) (v := .ref (a 6)) (C := rn_S) (T := tf_S) (N := 5) hx hb hts in_S hown hK hP 4 rfl rfl 1 (by decide) (hts _ k_fieldLink_rn_S_22_rn_S_straights_LRouteTracks_Queue) (fun _ h9 => h9) rfl d_S_takeNearest_70 ?_
            refine w_ci (As := []) (rest := []) ⟨hx, hb, hml, hown, hts⟩ (c_Q_take_s l D cI cZ g a ha w h Q (fun r9 => rt_o (F r9)) hd bl (fun j => nI (RS j)) (nI (xs)) (nI (ys)) (fun j => nI (RC j)) (nI (xc)) (nI (yc)) RS xs ys hG (by omega) (by omega)) (cwV 0 hts (t_gV k_methodLink_rn_S_64_y_Q_take k_instanceMethod_y_Q_take k_selects_rn_Q_y_Q_take_y_Q_take k_initialized_rn_Q k_code_y_Q_take_prog_2_method_6_code_2_some_int) rfl rfl rfl (by decide +kernel) ⟨Nat.le_of_ble_eq_true rfl, Nat.le_of_ble_eq_true rfl⟩) (va_recv hK hP (ci := 0) (q0 := 6) rfl rfl) hP hK hZ hS rfl hl.1 rfl (Nat.le_of_ble_eq_true rfl) d_S_takeNearest_73 ⟨Nat.zero_le _, Nat.zero_le _⟩ (fun r_73 u_73 H locs hw hP hS => ?_)
            rw [if_pos s0, if_pos s0] at hw
            obtain ⟨hw1, hw2⟩ := hw
            subst hw1
            rw [hw2] at hP
            have hP : va_P D vwCl (xw cI a w h Q (fun r9 => rt_o (F r9)) hd bl (fun j => nI (RS j)) (nI (xs + 1)) (nI (ys)) (fun j => nI (RC j)) (nI (xc)) (nI (yc))) H := hP
            have hD : va_D (xA a) (xw cI a w h Q (fun r9 => rt_o (F r9)) hd bl (fun j => nI (RS j)) (nI (xs + 1)) (nI (ys)) (fun j => nI (RC j)) (nI (xc)) (nI (yc))) := x_D ha _ rfl
            refine lv_goto (tgt := 86) hx hb d_S_takeNearest_76 (by decide) ?_
            exact w_iret (xs + 1, xc) hx hb hr hlocks hS hP (rt_tn_S hI s0 hc1 (fun c9 _ h9 => by rw [hc2] at h9; cases h9; omega)) d_S_takeNearest_86
        · exact absurd c_31 (rt_o_ne _ (by omega))
      · exact absurd c_18 (rt_o_ne _ (by omega))
    · rw [if_neg s1]
      refine lv_istore_n (lv' := [(2, .int (-1)), (1, .int (nI (RS xs))), (0, .ref (a 4))]) hx hb d_S_takeNearest_15 rfl hl (by decide) rfl (fun ls hl => ?_)
      refine lv_iload_n hx hb d_S_takeNearest_16 rfl (lv_at hl 1 rfl) ?_
      refine lv_iconst (v := (-1)) hx hb d_S_takeNearest_17 (by decide) ?_
      refine lv_icmp_ne (tgt := 29) hx hb d_S_takeNearest_18 (by decide) (fun c_18 => ?_) (fun c_18 => ?_)
      · refine lv_iload_n hx hb d_S_takeNearest_29 rfl (lv_at hl 0 rfl) ?_
        refine lv_iconst (v := (-1)) hx hb d_S_takeNearest_30 (by decide) ?_
        refine lv_icmp_ne (tgt := 42) hx hb d_S_takeNearest_31 (by decide) (fun c_31 => ?_) (fun c_31 => ?_)
        · exact absurd rfl c_31
        · refine lv_aload_n hx hb d_S_takeNearest_34 rfl (lv_at hl 2 rfl) ?_
          refine va_get (D := D) (ci := 2) (v := .ref (a 6)) (C := rn_S) (T := tf_S) (N := 5) hx hb hts in_S hown hK hP 4 rfl rfl 1 (by decide) (hts _ k_fieldLink_rn_S_22_rn_S_straights_LRouteTracks_Queue) (fun _ h9 => h9) rfl d_S_takeNearest_35 ?_
          refine w_ci (As := []) (rest := []) ⟨hx, hb, hml, hown, hts⟩ (c_Q_take_s l D cI cZ g a ha w h Q (fun r9 => rt_o (F r9)) hd bl (fun j => nI (RS j)) (nI (xs)) (nI (ys)) (fun j => nI (RC j)) (nI (xc)) (nI (yc)) RS xs ys hG (by omega) (by omega)) (cwV 0 hts (t_gV k_methodLink_rn_S_64_y_Q_take k_instanceMethod_y_Q_take k_selects_rn_Q_y_Q_take_y_Q_take k_initialized_rn_Q k_code_y_Q_take_prog_2_method_6_code_2_some_int) rfl rfl rfl (by decide +kernel) ⟨Nat.le_of_ble_eq_true rfl, Nat.le_of_ble_eq_true rfl⟩) (va_recv hK hP (ci := 0) (q0 := 6) rfl rfl) hP hK hZ hS rfl hl.1 rfl (Nat.le_of_ble_eq_true rfl) d_S_takeNearest_38 ⟨Nat.zero_le _, Nat.zero_le _⟩ (fun r_38 u_38 H locs hw hP hS => ?_)
          rw [if_pos s0, if_pos s0] at hw
          obtain ⟨hw1, hw2⟩ := hw
          subst hw1
          rw [hw2] at hP
          have hP : va_P D vwCl (xw cI a w h Q (fun r9 => rt_o (F r9)) hd bl (fun j => nI (RS j)) (nI (xs + 1)) (nI (ys)) (fun j => nI (RC j)) (nI (xc)) (nI (yc))) H := hP
          have hD : va_D (xA a) (xw cI a w h Q (fun r9 => rt_o (F r9)) hd bl (fun j => nI (RS j)) (nI (xs + 1)) (nI (ys)) (fun j => nI (RC j)) (nI (xc)) (nI (yc))) := x_D ha _ rfl
          exact w_iret (xs + 1, xc) hx hb hr hlocks hS hP (rt_tn_S hI s0 hc1 (fun c9 h9 _ => absurd h9 s1)) d_S_takeNearest_41
      · exact absurd c_18 (rt_o_ne _ (by omega))
  · rw [if_neg s0]
    refine lv_istore_n (lv' := [(1, .int (-1)), (0, .ref (a 4))]) hx hb d_S_takeNearest_7 rfl hl (by decide) rfl (fun ls hl => ?_)
    refine lv_aload_n hx hb d_S_takeNearest_8 rfl (lv_at hl 1 rfl) ?_
    refine va_get (D := D) (ci := 2) (v := .ref (a 8)) (C := rn_S) (T := tf_S) (N := 5) hx hb hts in_S hown hK hP 4 rfl rfl 2 (by decide) (hts _ k_fieldLink_rn_S_26_rn_S_curves_LRouteTracks_Queue) (fun _ h9 => h9) rfl d_S_takeNearest_9 ?_
    refine w_ci (As := []) (rest := []) ⟨hx, hb, hml, hown, hts⟩ (c_Q_first_c l D cI cZ g a ha w h Q (fun r9 => rt_o (F r9)) hd bl (fun j => nI (RS j)) (nI (xs)) (nI (ys)) (fun j => nI (RC j)) (nI (xc)) (nI (yc)) RC xc yc hG (by omega) (by omega)) (cwV 0 hts (t_gV k_methodLink_rn_S_120_y_Q_first k_instanceMethod_y_Q_first k_selects_rn_Q_y_Q_first_y_Q_first k_initialized_rn_Q k_code_y_Q_first_prog_2_method_5_code_1_some_int) rfl rfl rfl (by decide +kernel) ⟨Nat.le_of_ble_eq_true rfl, Nat.le_of_ble_eq_true rfl⟩) (va_recv hK hP (ci := 0) (q0 := 8) rfl rfl) hP hK hZ hS rfl hl.1 rfl (Nat.le_of_ble_eq_true rfl) d_S_takeNearest_12 ⟨Nat.zero_le _, Nat.zero_le _⟩ (fun r_12 u_12 H locs hw hP hS => ?_)
    subst hw
    have hP : va_P D vwCl (xw cI a w h Q (fun r9 => rt_o (F r9)) hd bl (fun j => nI (RS j)) (nI (xs)) (nI (ys)) (fun j => nI (RC j)) (nI (xc)) (nI (yc))) H := hP
    by_cases s1 : xc < yc
    · rw [if_pos s1]
      obtain ⟨q2, hc2⟩ := rt_cI_hC hI s1
      have hr2 := rt_cI_op hI _ _ hc2
      have hb2 := (hI.2.2.1 _ _ hc2).2
      refine lv_istore_n (lv' := [(2, .int (nI (RC xc))), (1, .int (-1)), (0, .ref (a 4))]) hx hb d_S_takeNearest_15 rfl hl (by decide) rfl (fun ls hl => ?_)
      refine lv_iload_n hx hb d_S_takeNearest_16 rfl (lv_at hl 1 rfl) ?_
      refine lv_iconst (v := (-1)) hx hb d_S_takeNearest_17 (by decide) ?_
      refine lv_icmp_ne (tgt := 29) hx hb d_S_takeNearest_18 (by decide) (fun c_18 => ?_) (fun c_18 => ?_)
      · exact absurd rfl c_18
      · refine lv_aload_n hx hb d_S_takeNearest_21 rfl (lv_at hl 2 rfl) ?_
        refine va_get (D := D) (ci := 2) (v := .ref (a 8)) (C := rn_S) (T := tf_S) (N := 5) hx hb hts in_S hown hK hP 4 rfl rfl 2 (by decide) (hts _ k_fieldLink_rn_S_26_rn_S_curves_LRouteTracks_Queue) (fun _ h9 => h9) rfl d_S_takeNearest_22 ?_
        refine w_ci (As := []) (rest := []) ⟨hx, hb, hml, hown, hts⟩ (c_Q_take_c l D cI cZ g a ha w h Q (fun r9 => rt_o (F r9)) hd bl (fun j => nI (RS j)) (nI (xs)) (nI (ys)) (fun j => nI (RC j)) (nI (xc)) (nI (yc)) RC xc yc hG (by omega) (by omega)) (cwV 0 hts (t_gV k_methodLink_rn_S_64_y_Q_take k_instanceMethod_y_Q_take k_selects_rn_Q_y_Q_take_y_Q_take k_initialized_rn_Q k_code_y_Q_take_prog_2_method_6_code_2_some_int) rfl rfl rfl (by decide +kernel) ⟨Nat.le_of_ble_eq_true rfl, Nat.le_of_ble_eq_true rfl⟩) (va_recv hK hP (ci := 0) (q0 := 8) rfl rfl) hP hK hZ hS rfl hl.1 rfl (Nat.le_of_ble_eq_true rfl) d_S_takeNearest_25 ⟨Nat.zero_le _, Nat.zero_le _⟩ (fun r_25 u_25 H locs hw hP hS => ?_)
        rw [if_pos s1, if_pos s1] at hw
        obtain ⟨hw1, hw2⟩ := hw
        subst hw1
        rw [hw2] at hP
        have hP : va_P D vwCl (xw cI a w h Q (fun r9 => rt_o (F r9)) hd bl (fun j => nI (RS j)) (nI (xs)) (nI (ys)) (fun j => nI (RC j)) (nI (xc + 1)) (nI (yc))) H := hP
        have hD : va_D (xA a) (xw cI a w h Q (fun r9 => rt_o (F r9)) hd bl (fun j => nI (RS j)) (nI (xs)) (nI (ys)) (fun j => nI (RC j)) (nI (xc + 1)) (nI (yc))) := x_D ha _ rfl
        exact w_iret (xs, xc + 1) hx hb hr hlocks hS hP (rt_tn_C hI s1 hc2 (fun c9 h9 _ => absurd h9 s0)) d_S_takeNearest_28
    · rw [if_neg s1]
      refine lv_istore_n (lv' := [(2, .int (-1)), (1, .int (-1)), (0, .ref (a 4))]) hx hb d_S_takeNearest_15 rfl hl (by decide) rfl (fun ls hl => ?_)
      refine lv_iload_n hx hb d_S_takeNearest_16 rfl (lv_at hl 1 rfl) ?_
      refine lv_iconst (v := (-1)) hx hb d_S_takeNearest_17 (by decide) ?_
      refine lv_icmp_ne (tgt := 29) hx hb d_S_takeNearest_18 (by decide) (fun c_18 => ?_) (fun c_18 => ?_)
      · exact absurd rfl c_18
      · refine lv_aload_n hx hb d_S_takeNearest_21 rfl (lv_at hl 2 rfl) ?_
        refine va_get (D := D) (ci := 2) (v := .ref (a 8)) (C := rn_S) (T := tf_S) (N := 5) hx hb hts in_S hown hK hP 4 rfl rfl 2 (by decide) (hts _ k_fieldLink_rn_S_26_rn_S_curves_LRouteTracks_Queue) (fun _ h9 => h9) rfl d_S_takeNearest_22 ?_
        refine w_ci (As := []) (rest := []) ⟨hx, hb, hml, hown, hts⟩ (c_Q_take_c l D cI cZ g a ha w h Q (fun r9 => rt_o (F r9)) hd bl (fun j => nI (RS j)) (nI (xs)) (nI (ys)) (fun j => nI (RC j)) (nI (xc)) (nI (yc)) RC xc yc hG (by omega) (by omega)) (cwV 0 hts (t_gV k_methodLink_rn_S_64_y_Q_take k_instanceMethod_y_Q_take k_selects_rn_Q_y_Q_take_y_Q_take k_initialized_rn_Q k_code_y_Q_take_prog_2_method_6_code_2_some_int) rfl rfl rfl (by decide +kernel) ⟨Nat.le_of_ble_eq_true rfl, Nat.le_of_ble_eq_true rfl⟩) (va_recv hK hP (ci := 0) (q0 := 8) rfl rfl) hP hK hZ hS rfl hl.1 rfl (Nat.le_of_ble_eq_true rfl) d_S_takeNearest_25 ⟨Nat.zero_le _, Nat.zero_le _⟩ (fun r_25 u_25 H locs hw hP hS => ?_)
        rw [if_neg s1, if_neg s1] at hw
        obtain ⟨hw1, hw2⟩ := hw
        subst hw1
        rw [hw2] at hP
        have hP : va_P D vwCl (xw cI a w h Q (fun r9 => rt_o (F r9)) hd bl (fun j => nI (RS j)) (nI (xs)) (nI (ys)) (fun j => nI (RC j)) (nI (xc)) (nI (yc))) H := hP
        have hD : va_D (xA a) (xw cI a w h Q (fun r9 => rt_o (F r9)) hd bl (fun j => nI (RS j)) (nI (xs)) (nI (ys)) (fun j => nI (RC j)) (nI (xc)) (nI (yc))) := x_D ha _ rfl
        exact w_iret (xs, xc) hx hb hr hlocks hS hP (Or.inl ⟨rfl, by omega, by omega, rfl, rfl⟩) d_S_takeNearest_28
end
section
/-! WHAT EACH CALL ANSWERS, of any ints -/
theorem rt_ix_is {x : Int32} {n : Nat} (hn : n < 2 ^ 31) (h : (rt_ix x n).isSome = true) : ∃ t : Nat, t < n ∧ x = nI t := by
  rcases pk_ix x hn with q | q | q
  · rw [rt_ix_none (Or.inl q)] at h; cases h
  · rw [rt_ix_none (Or.inr q)] at h; cases h
  · exact q
theorem rt_ix_no {x : Int32} {n : Nat} (h : (rt_ix x n).isSome = false) : rt_ix x n = none := by
  cases hx : rt_ix x n with
  | none => rfl
  | some t => rw [hx] at h; cases h
theorem rt_opx_is {Q : Nat → Nat} {n : Nat} {x : Int32} (hn : 12 * n < 2 ^ 31) (h : rt_opx Q n x = true) : ∃ r : Nat, r < 12 * n ∧ x = nI r ∧ rt_op Q n r = true := by
  rcases pk_ix x hn with q | q | ⟨r, hr, rfl⟩
  · rw [rt_opx_n (Or.inl q)] at h; cases h
  · rw [rt_opx_n (Or.inr q)] at h; cases h
  · exact ⟨r, hr, rfl, by rw [← rt_opx_s hn hr]; exact h⟩
def rt_at (Q : Nat → Nat) (n : Nat) (x y : Int32) : Int32 := match rt_ix x n, rt_ix y 7 with
  | some t, some 0 => nI (rt_kb Q t 6)
  | some t, some (k + 1) => nI (Q (6 * t + k))
  | _, _ => -1
theorem rt_at_n {Q : Nat → Nat} {n : Nat} {x y : Int32} (h : rt_ix x n = none ∨ rt_ix y 7 = none) : rt_at Q n x y = -1 := by
  unfold rt_at
  rcases h with h | h
  · rw [h]
  · rw [h]
    cases rt_ix x n <;> rfl
theorem rt_at_0 {Q : Nat → Nat} {n t : Nat} (hn : n < 2 ^ 31) (ht : t < n) : rt_at Q n (nI t) (nI 0) = nI (rt_kb Q t 6) := by
  unfold rt_at
  rw [rt_ix_some hn ht, rt_ix_some (by decide) (by decide)]
theorem rt_at_s {Q : Nat → Nat} {n t k : Nat} (hn : n < 2 ^ 31) (ht : t < n) (hk : k < 6) : rt_at Q n (nI t) (nI (k + 1)) = nI (Q (6 * t + k)) := by
  unfold rt_at
  rw [rt_ix_some hn ht, rt_ix_some (by decide) (by omega)]
def rt_next (Q : Nat → Nat) (w h : Nat) (x k : Int32) : Int32 := if rt_opx Q (w * h) x = true then rt_o (rt_kth (rt_nx Q w h x.toNatClampNeg) k) else -1
theorem rt_next_n {Q : Nat → Nat} {w h : Nat} {x k : Int32} (ho : rt_opx Q (w * h) x = false) : rt_next Q w h x k = -1 := if_neg (by rw [ho]; simp)
theorem rt_next_s {Q : Nat → Nat} {w h r : Nat} {k : Int32} (hn : 12 * (w * h) < 2 ^ 31) (ho : rt_op Q (w * h) r = true) : rt_next Q w h (nI r) k = rt_o (rt_kth (rt_nx Q w h r) k) := by
  have hr := rt_op_lt ho
  unfold rt_next
  rw [rt_opx_s hn hr, if_pos ho, nI_clamp (by omega)]
def rt_before (Q : Nat → Nat) (w h : Nat) (x : Int32) : Int32 := if rt_opx Q (w * h) x = true then rt_o (rt_bf Q w h x.toNatClampNeg) else -1
theorem rt_before_n {Q : Nat → Nat} {w h : Nat} {x : Int32} (ho : rt_opx Q (w * h) x = false) : rt_before Q w h x = -1 := if_neg (by rw [ho]; simp)
theorem rt_before_s {Q : Nat → Nat} {w h r : Nat} (hn : 12 * (w * h) < 2 ^ 31) (ho : rt_op Q (w * h) r = true) : rt_before Q w h (nI r) = rt_o (rt_bf Q w h r) := by
  have hr := rt_op_lt ho
  unfold rt_before
  rw [rt_opx_s hn hr, if_pos ho, nI_clamp (by omega)]
/-- the block's answer, by a block function -/
def rt_blk (Q : Nat → Nat) (n : Nat) (B : Nat → Nat) (x y : Int32) : Int32 := match rt_ix x n, rt_ix y 6 with
  | some t, some k => rt_o (if Q (6 * t + k) ≠ 0 then some (B (6 * t + k)) else none)
  | _, _ => -1
theorem rt_blk_n {Q : Nat → Nat} {n : Nat} {B : Nat → Nat} {x y : Int32} (h : rt_ix x n = none ∨ rt_ix y 6 = none) : rt_blk Q n B x y = -1 := by
  unfold rt_blk
  rcases h with h | h
  · rw [h]
  · rw [h]
    cases rt_ix x n <;> rfl
theorem rt_blk_s {Q : Nat → Nat} {n t k : Nat} {B : Nat → Nat} (hn : n < 2 ^ 31) (ht : t < n) (hk : k < 6) : rt_blk Q n B (nI t) (nI k) = rt_o (if Q (6 * t + k) ≠ 0 then some (B (6 * t + k)) else none) := by
  unfold rt_blk
  rw [rt_ix_some hn ht, rt_ix_some (by decide) hk]
def rt_sign (Q : Nat → Nat) (n : Nat) (x : Int32) : Int32 := match rt_ix x 8 with
  | none => -1
  | some z => rt_o (rt_sgn Q (6 * n) z)
theorem rt_sign_n {Q : Nat → Nat} {n : Nat} {x : Int32} (h : rt_ix x 8 = none) : rt_sign Q n x = -1 := by
  unfold rt_sign
  rw [h]
theorem rt_sign_s {Q : Nat → Nat} {n z : Nat} (hz : z < 8) : rt_sign Q n (nI z) = rt_o (rt_sgn Q (6 * n) z) := by
  unfold rt_sign
  rw [rt_ix_some (by decide) hz]
def rt_isT (Q : Nat → Nat) (w h : Nat) (x y : Int32) : Bool := match rt_ix y 8 with
  | none => false
  | some z => rt_opx Q (w * h) x && rt_la Q w h z x.toNatClampNeg
theorem rt_isT_n {Q : Nat → Nat} {w h : Nat} {x y : Int32} (hy : rt_ix y 8 = none ∨ rt_opx Q (w * h) x = false) : rt_isT Q w h x y = false := by
  unfold rt_isT
  rcases hy with hy | hy
  · rw [hy]
  · rw [hy]
    cases rt_ix y 8 <;> rfl
theorem rt_isT_s {Q : Nat → Nat} {w h r z : Nat} (hn : 12 * (w * h) < 2 ^ 31) (hr : r < 12 * (w * h)) (hz : z < 8) : rt_isT Q w h (nI r) (nI z) = (rt_op Q (w * h) r && rt_la Q w h z r) := by
  unfold rt_isT
  rw [rt_ix_some (by decide) hz, rt_opx_s hn hr, nI_clamp (by omega)]
/-- whether a cost is asked of an open run and a station -/
def rt_cq (Q : Nat → Nat) (n : Nat) (x y : Int32) : Bool := (rt_ix y 8).isSome && rt_opx Q n x
/-- the cost's answer, by a cost function -/
def rt_cost (K : Nat → Option Nat) (x : Int32) : Int32 := rt_o (K x.toNatClampNeg)
/-- the route's answer, by a cost function -/
def rt_route (Q : Nat → Nat) (w h : Nat) (K : Nat → Option Nat) (x k : Int32) : Int32 := if K x.toNatClampNeg = none ∨ K x.toNatClampNeg = some 0 ∨ k < 0 then -1 else rt_o (rt_rt Q w h K k.toNatClampNeg x.toNatClampNeg)
/-- the counts but that of blocks -/
def rt_count (Q : Nat → Nat) (n : Nat) (x : Int32) : Int32 := match rt_ix x 3 with
  | some 0 => nI ((List.range (6 * n)).countP (fun q => decide (Q q &&& 1 ≠ 0)))
  | some 1 => nI ((List.range (6 * n)).countP (fun q => decide (Q q &&& 28 ≠ 0)))
  | some 2 => nI ((List.range (6 * n)).countP (fun q => decide (Q q &&& 480 ≠ 0)))
  | _ => -1
theorem rt_count_n {Q : Nat → Nat} {n : Nat} {x : Int32} (h : rt_ix x 3 = none) : rt_count Q n x = -1 := by
  unfold rt_count
  rw [h]
theorem rt_pxb_n {Q : Nat → Nat} {w h r i : Nat} {K : Nat → Option Nat} (ho : rt_one Q (w * h) (rt_ah w h r i) = []) : rt_px Q w h r (i + 1) = rt_px Q w h r i := by rw [rt_px_succ, ho, List.append_nil]
theorem rt_one_n {Q : Nat → Nat} {n : Nat} : rt_one Q n none = [] := rfl
theorem rt_one_f {Q : Nat → Nat} {n b : Nat} (h : rt_op Q n b = false) : rt_one Q n (some b) = [] := by
  unfold rt_one
  dsimp only
  rw [if_neg (by rw [h]; simp)]
theorem rt_one_t {Q : Nat → Nat} {n b : Nat} (h : rt_op Q n b = true) : rt_one Q n (some b) = [b] := by
  unfold rt_one
  dsimp only
  rw [if_pos h]
theorem rt_pxb_s {Q : Nat → Nat} {w h r i b : Nat} {K : Nat → Option Nat} (ha : rt_ah w h r i = some b) (ho : rt_op Q (w * h) b = true) : rt_best K (rt_px Q w h r (i + 1)) = rt_bs K (rt_best K (rt_px Q w h r i)) b := by rw [rt_px_succ, ha, rt_one_t ho, rt_best_app]
theorem rt_best_lt {Q : Nat → Nat} {w h r i b : Nat} {K : Nat → Option Nat} (hb : rt_best K (rt_px Q w h r i) = some b) : b < 12 * (w * h) := by
  have h1 := rt_best_in K (rt_px Q w h r i)
  rw [hb] at h1
  obtain ⟨j, -, -, ho⟩ := rt_mem_px.mp h1.1
  exact rt_op_lt ho
-- the k-th, while the list grows
theorem rt_kth_hit {l l2 : List Nat} {b : Nat} {k : Int32} (h : nI l.length = k) (hl : l.length < 2 ^ 31) : rt_kth (l ++ b :: l2) k = some b := by
  subst h
  rw [rt_kth_nI _ hl]
  simp
theorem rt_kth_none {l : List Nat} {k : Int32} (hl : l.length < 2 ^ 31) (h : ∀ j, j < l.length → nI j ≠ k) : rt_kth l k = none := by
  unfold rt_kth
  split
  · rfl
  · next hk =>
    rw [List.getElem?_eq_none_iff]
    rcases Nat.lt_or_ge k.toNatClampNeg l.length with q | q
    · obtain ⟨j, hj, rfl⟩ := nI_of hk
      rw [nI_clamp hj] at q
      exact absurd rfl (h j q)
    · exact q
theorem rt_px_len (Q : Nat → Nat) (w h r : Nat) : ∀ i, (rt_px Q w h r i).length ≤ i := by
  intro i
  unfold rt_px
  have := List.length_filterMap_le (fun i => (rt_ah w h r i).filter (rt_op Q (w * h))) (List.range i)
  rwa [List.length_range] at this
theorem rt_px_pre {Q : Nat → Nat} {w h r i b : Nat} (hi : i < 3) (ha : rt_ah w h r i = some b) (ho : rt_op Q (w * h) b = true) : ∃ l2, rt_nx Q w h r = rt_px Q w h r i ++ b :: l2 := by
  have e0 : rt_px Q w h r (i + 1) = rt_px Q w h r i ++ [b] := by rw [rt_px_succ, ha, rt_one_t ho]
  have key : ∀ m, i + 1 ≤ m → ∃ l2, rt_px Q w h r m = rt_px Q w h r i ++ b :: l2 := by
    intro m
    induction m with
    | zero => intro q; omega
    | succ m ih =>
      intro q
      rcases Nat.lt_or_ge i m with z | z
      · obtain ⟨l2, e⟩ := ih z
        exact ⟨l2 ++ rt_one Q (w * h) (rt_ah w h r m), by rw [rt_px_succ, e]; simp⟩
      · rw [show m = i by omega]
        exact ⟨[], e0⟩
  exact key 3 hi
theorem rt_pb_pre {Q : Nat → Nat} {w h r i b : Nat} (hi : i < 3) (hp : rt_pb Q w h r i = []) (ha : rt_bh w h r i = some b) (ho : rt_op Q (w * h) b = true) : rt_bf Q w h r = some b := by
  have e0 : rt_pb Q w h r (i + 1) = [b] := by rw [rt_pb_succ, hp, ha, rt_one_t ho]; rfl
  have key : ∀ m, i + 1 ≤ m → ∃ l2, rt_pb Q w h r m = b :: l2 := by
    intro m
    induction m with
    | zero => intro q; omega
    | succ m ih =>
      intro q
      rcases Nat.lt_or_ge i m with z | z
      · obtain ⟨l2, e⟩ := ih z
        exact ⟨l2 ++ rt_one Q (w * h) (rt_bh w h r m), by rw [rt_pb_succ, e]; simp⟩
      · rw [show m = i by omega]
        exact ⟨[], e0⟩
  obtain ⟨l2, e⟩ := key 3 hi
  unfold rt_bf
  rw [e]
  rfl
theorem rt_gt6 {y : Int32} (h : ¬ y ≤ nI 6) : nI 7 ≤ y := by
  rcases pk_ix y (n := 7) (by decide) with q | q | ⟨j, hj, rfl⟩
  · exact absurd (Int32.le_of_lt (Int32.lt_of_lt_of_le q (by decide))) h
  · exact q
  · exact absurd (nI_le (by omega) (by decide)) h
end
section
/-! Search: by program (wip/whole/gen/search3.py) -/
set_option maxHeartbeats 4000000 in
set_option maxRecDepth 100000 in
theorem c_S_findCosts (l : Launch) (D : va_G) (cI cZ : ClassId) (g a : Nat → Nat) (ha : xI a) (w h : Nat) (Q : Nat → Nat) (ff : Nat → Int32) (hd bl : Int32) (rs : Nat → Int32) (hs ts : Int32) (rc : Nat → Int32) (hc tc : Int32) (z : Nat) (hG : rt_G w h Q) (hz : z < 8) (hk0 : rt_hk Q w h hd ff bl) : Met l y_S_findCosts (.code y_S_findCosts b_S_findCosts 5 none :: tG) ({ frames := 5, cells := 0, slots := 0, locals := 112 }) (va_Pc [.ref (a 4), .ref (a 1), .int (nI (z))] (wU D cI cZ g (xA a) (xw cI a w h Q ff hd bl rs hs ts rc hc tc))) (va_Qv (S := ((Nat → Int32) × (Nat → Int32) × Int32 × Int32 × (Nat → Int32) × Int32 × Int32)) (fun u => rt_hC Q w h z u.1) (wB D (fun (u : ((Nat → Int32) × (Nat → Int32) × Int32 × Int32 × (Nat → Int32) × Int32 × Int32)) => (xw cI a w h Q u.1 (nI (z)) bl u.2.1 u.2.2.1 u.2.2.2.1 u.2.2.2.2.1 u.2.2.2.2.2.1 u.2.2.2.2.2.2))) (xA a)) 0 0 (xA a) := by
  refine Met.ofW (cc := b_S_findCosts) (maxL := 5) (ret := none) (by decide) rfl ?_
  intro p e s m args below meth c s₁ B hml hv
  obtain ⟨rfl, hP, hK, hZ⟩ := hv
  have hx := B.exec
  have hb := B.bytes
  have hr := B.returns
  have hts : ∀ w ∈ tG, w.before _ s = true := fun w hw => atoms_spec (ws := .code y_S_findCosts b_S_findCosts 5 none :: tG) B.pre w (List.mem_cons_of_mem _ hw)
  have hown : s.vm.findClass rn_S = some m.cls := findClass_of_methodNamed B.named
  have hlocks := B.notSynchronized
  have hS : va_S (xA a) s.heap s.heap [] := va_S.rf
  have hD : va_D (xA a) (xw cI a w h Q ff hd bl rs hs ts rc hc tc) := x_D ha _ rfl
  have hP : va_P D vwCl (xw cI a w h Q ff hd bl rs hs ts rc hc tc) s.heap := hP
  have hl := lv_entry ([.ref (a 4), .ref (a 1), .int (nI (z))]) (n := 5) (Nat.le_of_ble_eq_true rfl)
  rw [lg_entry_eq]
  generalize (lg_sl ([.ref (a 4), .ref (a 1), .int (nI (z))]) ++ List.replicate (5 - (lg_sl ([.ref (a 4), .ref (a 1), .int (nI (z))])).length) Slot.unset).toArray = ls at hl ⊢
  have hl : lv_has ls 5 [(0, .ref (a 4)), (1, .ref (a 1)), (2, .int (nI (z)))] := hl
  obtain ⟨hn1, hn⟩ := hG.n
  have hw0 : 0 < w := by have := hG.1.1; omega
  have hQ := hG.2.2
  refine lv_aload_n hx hb d_S_findCosts_0 rfl (lv_at hl 0 rfl) ?_
  refine va_get (D := D) (ci := 2) (v := .int (hd)) (C := rn_S) (T := tf_S) (N := 5) hx hb hts in_S hown hK hP 4 rfl rfl 3 (by decide) (hts _ k_fieldLink_rn_S_29_rn_S_held_I) (fun _ h9 => h9) rfl d_S_findCosts_1 ?_
  refine lv_iload_n hx hb d_S_findCosts_4 rfl (lv_at hl 2 rfl) ?_
  refine lv_icmp_ne (tgt := 9) hx hb d_S_findCosts_5 (by decide) (fun c_5 => ?_) (fun c_5 => ?_)
  · refine lv_aload_n hx hb d_S_findCosts_9 rfl (lv_at hl 0 rfl) ?_
    refine lv_iload_n hx hb d_S_findCosts_10 rfl (lv_at hl 2 rfl) ?_
    refine va_put (D := D) (ci := 2) (v := .int (nI (z))) (ty := .int) (C := rn_S) (T := tf_S) (N := 5) hx hb hts in_S tt_S tt_S_ok nm_S hown hK hP hD hS 4 rfl rfl 3 (by decide) (hts _ k_fieldLink_rn_S_29_rn_S_held_I) (fun _ h9 => h9) rfl (by decide +kernel) rfl rfl (Nat.le_of_ble_eq_true rfl) d_S_findCosts_11 (fun H locs hP hD hS => ?_)
    have hP : va_P D vwCl (xw cI a w h Q ff (nI (z)) bl rs hs ts rc hc tc) H := hP
    have hD : va_D (xA a) (xw cI a w h Q ff (nI (z)) bl rs hs ts rc hc tc) := x_D ha _ rfl
    refine lv_aload_n hx hb d_S_findCosts_14 rfl (lv_at hl 0 rfl) ?_
    refine va_get (D := D) (ci := 2) (v := .ref (a 5)) (C := rn_S) (T := tf_S) (N := 5) hx hb hts in_S hown hK hP 4 rfl rfl 0 (by decide) (hts _ k_fieldLink_rn_S_11_rn_S_found_I) (fun _ h9 => h9) rfl d_S_findCosts_15 ?_
    refine lv_iconst (v := (-1)) hx hb d_S_findCosts_18 (by decide) ?_
    refine w_sv (As := [.ref (a 5), .int (-1)]) (rest := []) ⟨hx, hb, hml, hown, hts⟩ (c_JA_fill l D cI cZ g a ha w h Q ff (nI (z)) bl rs hs ts rc hc tc (-1) hG) (va_cwS 2 hts (t_gS k_methodLink_rn_S_36_y_JA_fill k_static_y_JA_fill k_initialized_rn_JA k_code_y_JA_fill_prog_14_method_103_code_4_none) rfl rfl rfl (by decide +kernel) ⟨Nat.le_of_ble_eq_true rfl, Nat.le_of_ble_eq_true rfl⟩) hP hK hZ hS rfl hl.1 rfl (Nat.le_of_ble_eq_true rfl) d_S_findCosts_19 ⟨Nat.zero_le _, Nat.zero_le _⟩ (fun u_19 H locs hw hP hS => ?_)
    have hP : va_P D vwCl (xw cI a w h Q (fun r9 => rt_o ((fun _ => none) r9)) (nI (z)) bl rs hs ts rc hc tc) H := hP
    have hD : va_D (xA a) (xw cI a w h Q (fun r9 => rt_o ((fun _ => none) r9)) (nI (z)) bl rs hs ts rc hc tc) := x_D ha _ rfl
    obtain ⟨RS, rfl⟩ := rt_rN rs
    obtain ⟨RC, rfl⟩ := rt_rN rc
    have hP : va_P D vwCl (xw cI a w h Q (fun r9 => rt_o ((fun _ => none) r9)) (nI (z)) bl (fun j => nI (RS j)) hs ts (fun j => nI (RC j)) hc tc) H := hP
    have hD : va_D (xA a) (xw cI a w h Q (fun r9 => rt_o ((fun _ => none) r9)) (nI (z)) bl (fun j => nI (RS j)) hs ts (fun j => nI (RC j)) hc tc) := x_D ha _ rfl
    refine lv_aload_n hx hb d_S_findCosts_22 rfl (lv_at hl 0 rfl) ?_
    refine va_get (D := D) (ci := 2) (v := .ref (a 6)) (C := rn_S) (T := tf_S) (N := 5) hx hb hts in_S hown hK hP 4 rfl rfl 1 (by decide) (hts _ k_fieldLink_rn_S_22_rn_S_straights_LRouteTracks_Queue) (fun _ h9 => h9) rfl d_S_findCosts_23 ?_
    refine w_cv (As := []) (rest := []) ⟨hx, hb, hml, hown, hts⟩ (c_Q_clear_s l D cI cZ g a ha w h Q (fun r9 => rt_o ((fun _ => none) r9)) (nI (z)) bl (fun j => nI (RS j)) hs ts (fun j => nI (RC j)) hc tc  hG) (cwV 0 hts (t_gV k_methodLink_rn_S_53_y_Q_clear k_instanceMethod_y_Q_clear k_selects_rn_Q_y_Q_clear_y_Q_clear k_initialized_rn_Q k_code_y_Q_clear_prog_2_method_2_code_1_none) rfl rfl rfl (by decide +kernel) ⟨Nat.le_of_ble_eq_true rfl, Nat.le_of_ble_eq_true rfl⟩) (va_recv hK hP (ci := 0) (q0 := 6) rfl rfl) hP hK hZ hS rfl hl.1 rfl (Nat.le_of_ble_eq_true rfl) d_S_findCosts_26 ⟨Nat.zero_le _, Nat.zero_le _⟩ (fun u_26 H locs hw hP hS => ?_)
    have hP : va_P D vwCl (xw cI a w h Q (fun r9 => rt_o ((fun _ => none) r9)) (nI (z)) bl (fun j => nI (RS j)) (nI (0)) (nI (0)) (fun j => nI (RC j)) hc tc) H := hP
    have hD : va_D (xA a) (xw cI a w h Q (fun r9 => rt_o ((fun _ => none) r9)) (nI (z)) bl (fun j => nI (RS j)) (nI (0)) (nI (0)) (fun j => nI (RC j)) hc tc) := x_D ha _ rfl
    refine lv_aload_n hx hb d_S_findCosts_29 rfl (lv_at hl 0 rfl) ?_
    refine va_get (D := D) (ci := 2) (v := .ref (a 8)) (C := rn_S) (T := tf_S) (N := 5) hx hb hts in_S hown hK hP 4 rfl rfl 2 (by decide) (hts _ k_fieldLink_rn_S_26_rn_S_curves_LRouteTracks_Queue) (fun _ h9 => h9) rfl d_S_findCosts_30 ?_
    refine w_cv (As := []) (rest := []) ⟨hx, hb, hml, hown, hts⟩ (c_Q_clear_c l D cI cZ g a ha w h Q (fun r9 => rt_o ((fun _ => none) r9)) (nI (z)) bl (fun j => nI (RS j)) (nI (0)) (nI (0)) (fun j => nI (RC j)) hc tc  hG) (cwV 0 hts (t_gV k_methodLink_rn_S_53_y_Q_clear k_instanceMethod_y_Q_clear k_selects_rn_Q_y_Q_clear_y_Q_clear k_initialized_rn_Q k_code_y_Q_clear_prog_2_method_2_code_1_none) rfl rfl rfl (by decide +kernel) ⟨Nat.le_of_ble_eq_true rfl, Nat.le_of_ble_eq_true rfl⟩) (va_recv hK hP (ci := 0) (q0 := 8) rfl rfl) hP hK hZ hS rfl hl.1 rfl (Nat.le_of_ble_eq_true rfl) d_S_findCosts_33 ⟨Nat.zero_le _, Nat.zero_le _⟩ (fun u_33 H locs hw hP hS => ?_)
    have hP : va_P D vwCl (xw cI a w h Q (fun r9 => rt_o ((fun _ => none) r9)) (nI (z)) bl (fun j => nI (RS j)) (nI (0)) (nI (0)) (fun j => nI (RC j)) (nI (0)) (nI (0))) H := hP
    have hD : va_D (xA a) (xw cI a w h Q (fun r9 => rt_o ((fun _ => none) r9)) (nI (z)) bl (fun j => nI (RS j)) (nI (0)) (nI (0)) (fun j => nI (RC j)) (nI (0)) (nI (0))) := x_D ha _ rfl
    refine lv_aload_n hx hb d_S_findCosts_36 rfl (lv_at hl 0 rfl) ?_
    refine lv_aload_n hx hb d_S_findCosts_37 rfl (lv_at hl 1 rfl) ?_
    refine lv_iload_n hx hb d_S_findCosts_38 rfl (lv_at hl 2 rfl) ?_
    refine w_cv (As := [.ref (a 1), .int (nI (z))]) (rest := []) ⟨hx, hb, hml, hown, hts⟩ (c_S_settleTargets l D cI cZ g a ha w h Q (fun r9 => rt_o ((fun _ => none) r9)) (nI (z)) bl (fun j => nI (RS j)) (nI (0)) (nI (0)) (fun j => nI (RC j)) (nI (0)) (nI (0)) RS RC z hG hz) (cwV 2 hts (t_gV k_methodLink_rn_S_88_y_S_settleTargets k_instanceMethod_y_S_settleTargets k_selects_rn_S_y_S_settleTargets_y_S_settleTargets k_initialized_rn_S k_code_y_S_settleTargets_prog_4_method_9_code_5_none) rfl rfl rfl (by decide +kernel) ⟨Nat.le_of_ble_eq_true rfl, Nat.le_of_ble_eq_true rfl⟩) (va_recv hK hP (ci := 2) (q0 := 4) rfl rfl) hP hK hZ hS rfl hl.1 rfl (Nat.le_of_ble_eq_true rfl) d_S_findCosts_39 ⟨Nat.zero_le _, Nat.zero_le _⟩ (fun u_39 H locs hw hP hS => ?_)
    obtain ⟨F0v, RS1, ys1, RC1, yc1⟩ := u_39
    have hP : va_P D vwCl (xw cI a w h Q (fun r9 => rt_o (F0v r9)) (nI (z)) bl (fun j => nI (RS1 j)) (nI (0)) (nI (ys1)) (fun j => nI (RC1 j)) (nI (0)) (nI (yc1))) H := hP
    have hD : va_D (xA a) (xw cI a w h Q (fun r9 => rt_o (F0v r9)) (nI (z)) bl (fun j => nI (RS1 j)) (nI (0)) (nI (ys1)) (fun j => nI (RC1 j)) (nI (0)) (nI (yc1))) := x_D ha _ rfl
    have hI0 := rt_cT_end hw
    refine lv_iconst (v := (nI (0))) hx hb d_S_findCosts_42 (by decide) ?_
    refine lv_istore_n (lv' := [(3, .int (nI (0))), (0, .ref (a 4)), (1, .ref (a 1)), (2, .int (nI (z)))]) hx hb d_S_findCosts_43 rfl hl (by decide) rfl (fun ls hl => ?_)
    have LP_44 : ∀ (n_44 : Nat) (i : Nat) (M : Nat) (F : Nat → Option Nat) (RS : Nat → Nat) (xs : Nat) (ys : Nat) (RC : Nat → Nat) (xc : Nat) (yc : Nat), i + n_44 = 12 * (w * h) → (rt_cI Q w h z F RS xs ys RC xc yc M (fun _ => True) (fun _ _ => False)) → (xs + xc = i) → (M ≤ 16 * i) → ∀ (H : Heap) (locs : List Loc) (ls : Array Slot), va_P D vwCl (xw cI a w h Q (fun r9 => rt_o (F r9)) (nI (z)) bl (fun j => nI (RS j)) (nI (xs)) (nI (ys)) (fun j => nI (RC j)) (nI (xc)) (nI (yc))) H → va_S (xA a) s.heap H locs → lv_has ls 5 [(0, .ref (a 4)), (1, .ref (a 1)), (2, .int (nI (z))), (3, .int (nI (i)))] → W p l e (headSpec (.code y_S_findCosts b_S_findCosts 5 none :: tG) ({ frames := 5, cells := 0, slots := 0, locals := 112 })).room s m ([.ref (a 4), .ref (a 1), .int (nI (z))] : List Value).toArray below meth c H locs 0 0 (MQ below (va_Qv (S := ((Nat → Int32) × (Nat → Int32) × Int32 × Int32 × (Nat → Int32) × Int32 × Int32)) (fun u => rt_hC Q w h z u.1) (wB D (fun (u : ((Nat → Int32) × (Nat → Int32) × Int32 × Int32 × (Nat → Int32) × Int32 × Int32)) => (xw cI a w h Q u.1 (nI (z)) bl u.2.1 u.2.2.1 u.2.2.2.1 u.2.2.2.2.1 u.2.2.2.2.2.1 u.2.2.2.2.2.2))) (xA a)) ([.ref (a 4), .ref (a 1), .int (nI (z))] : List Value).toArray s 0 0 (xA a)) (F0 m 44 ls []) := by
      intro n_44
      induction n_44 with
      | zero =>
        intro i M F RS xs ys RC xc yc hrel_44 hI hsum hM H locs ls hP hS hl
        have hD : va_D (xA a) (xw cI a w h Q (fun r9 => rt_o (F r9)) (nI (z)) bl (fun j => nI (RS j)) (nI (xs)) (nI (ys)) (fun j => nI (RC j)) (nI (xc)) (nI (yc))) := x_D ha _ rfl
        refine lv_iload_n hx hb d_S_findCosts_44 rfl (lv_at hl 3 rfl) ?_
        refine lv_aload_n hx hb d_S_findCosts_45 rfl (lv_at hl 0 rfl) ?_
        refine va_get (D := D) (ci := 2) (v := .ref (a 5)) (C := rn_S) (T := tf_S) (N := 5) hx hb hts in_S hown hK hP 4 rfl rfl 0 (by decide) (hts _ k_fieldLink_rn_S_11_rn_S_found_I) (fun _ h9 => h9) rfl d_S_findCosts_46 ?_
        refine va_alen (v := nI (12 * (w * h))) hx hb hK hP 5 0 rfl rfl rfl d_S_findCosts_49 ?_
        refine rw_cge (tgt := 79) hx hb d_S_findCosts_50 (by decide) (by omega) (by omega) (fun c_50 => ?_) (fun c_50 => ?_)
        · obtain ⟨k1, k2, k3, k4⟩ := rt_cI_caps hI
          have h2 : xs = ys := by omega
          have h3 : xc = yc := by omega
          rw [h2, h3] at hI
          exact w_vret (_, _, _, _, _, _, _) hx hb hr hlocks hS hP (rt_cI_hCC hn (by omega) hI) d_S_findCosts_79
        · omega
      | succ n_44 ih_44 =>
        intro i M F RS xs ys RC xc yc hrel_44 hI hsum hM H locs ls hP hS hl
        have hD : va_D (xA a) (xw cI a w h Q (fun r9 => rt_o (F r9)) (nI (z)) bl (fun j => nI (RS j)) (nI (xs)) (nI (ys)) (fun j => nI (RC j)) (nI (xc)) (nI (yc))) := x_D ha _ rfl
        refine lv_iload_n hx hb d_S_findCosts_44 rfl (lv_at hl 3 rfl) ?_
        refine lv_aload_n hx hb d_S_findCosts_45 rfl (lv_at hl 0 rfl) ?_
        refine va_get (D := D) (ci := 2) (v := .ref (a 5)) (C := rn_S) (T := tf_S) (N := 5) hx hb hts in_S hown hK hP 4 rfl rfl 0 (by decide) (hts _ k_fieldLink_rn_S_11_rn_S_found_I) (fun _ h9 => h9) rfl d_S_findCosts_46 ?_
        refine va_alen (v := nI (12 * (w * h))) hx hb hK hP 5 0 rfl rfl rfl d_S_findCosts_49 ?_
        refine rw_cge (tgt := 79) hx hb d_S_findCosts_50 (by decide) (by omega) (by omega) (fun c_50 => ?_) (fun c_50 => ?_)
        · omega
        · refine lv_aload_n hx hb d_S_findCosts_53 rfl (lv_at hl 0 rfl) ?_
          refine w_ci (As := []) (rest := []) ⟨hx, hb, hml, hown, hts⟩ (c_S_takeNearest l D cI cZ g a ha w h Q (fun r9 => rt_o (F r9)) (nI (z)) bl (fun j => nI (RS j)) (nI (xs)) (nI (ys)) (fun j => nI (RC j)) (nI (xc)) (nI (yc)) F RS xs ys RC xc yc z M hG hI (by omega)) (cwV 0 hts (t_gV k_methodLink_rn_S_91_y_S_takeNearest k_instanceMethod_y_S_takeNearest k_selects_rn_S_y_S_takeNearest_y_S_takeNearest k_initialized_rn_S k_code_y_S_takeNearest_prog_4_method_12_code_5_some_int) rfl rfl rfl (by decide +kernel) ⟨Nat.le_of_ble_eq_true rfl, Nat.le_of_ble_eq_true rfl⟩) (va_recv hK hP (ci := 2) (q0 := 4) rfl rfl) hP hK hZ hS rfl hl.1 rfl (Nat.le_of_ble_eq_true rfl) d_S_findCosts_54 ⟨Nat.zero_le _, Nat.zero_le _⟩ (fun r_54 u_54 H locs hw hP hS => ?_)
          obtain ⟨x1, x2⟩ := u_54
          rcases hw with ⟨h1, h2, h3, h4, h5⟩ | ⟨f, k, h1, h2, h3, h4, h5⟩
          · subst h1
            have hP : va_P D vwCl (xw cI a w h Q (fun r9 => rt_o (F r9)) (nI (z)) bl (fun j => nI (RS j)) (nI (x1)) (nI (ys)) (fun j => nI (RC j)) (nI (x2)) (nI (yc))) H := hP
            dsimp only at h4 h5
            rw [h4, h5] at hP
            have hP : va_P D vwCl (xw cI a w h Q (fun r9 => rt_o (F r9)) (nI (z)) bl (fun j => nI (RS j)) (nI (xs)) (nI (ys)) (fun j => nI (RC j)) (nI (xc)) (nI (yc))) H := hP
            have hD : va_D (xA a) (xw cI a w h Q (fun r9 => rt_o (F r9)) (nI (z)) bl (fun j => nI (RS j)) (nI (xs)) (nI (ys)) (fun j => nI (RC j)) (nI (xc)) (nI (yc))) := x_D ha _ rfl
            refine lv_istore (lv' := [(4, .int (-1)), (0, .ref (a 4)), (1, .ref (a 1)), (2, .int (nI (z))), (3, .int (nI (i)))]) hx hb d_S_findCosts_57 hl (by decide) rfl (fun ls hl => ?_)
            refine lv_iload hx hb d_S_findCosts_59 (lv_at hl 0 rfl) ?_
            refine lv_iconst (v := (-1)) hx hb d_S_findCosts_61 (by decide) ?_
            refine lv_icmp_ne (tgt := 66) hx hb d_S_findCosts_62 (by decide) (fun c_62 => ?_) (fun c_62 => ?_)
            · exact absurd rfl c_62
            · rw [h2, h3] at hI
              exact w_vret (_, _, _, _, _, _, _) hx hb hr hlocks hS hP (rt_cI_hCC hn (by omega) hI) d_S_findCosts_65
          · subst h1
            have hP : va_P D vwCl (xw cI a w h Q (fun r9 => rt_o (F r9)) (nI (z)) bl (fun j => nI (RS j)) (nI (x1)) (nI (ys)) (fun j => nI (RC j)) (nI (x2)) (nI (yc))) H := hP
            have hD : va_D (xA a) (xw cI a w h Q (fun r9 => rt_o (F r9)) (nI (z)) bl (fun j => nI (RS j)) (nI (x1)) (nI (ys)) (fun j => nI (RC j)) (nI (x2)) (nI (yc))) := x_D ha _ rfl
            have hkM := (hI.2.2.1 _ _ h3).2
            have hln := rt_ln_in f
            refine lv_istore (lv' := [(4, .int (nI (f))), (0, .ref (a 4)), (1, .ref (a 1)), (2, .int (nI (z))), (3, .int (nI (i)))]) hx hb d_S_findCosts_57 hl (by decide) rfl (fun ls hl => ?_)
            refine lv_iload hx hb d_S_findCosts_59 (lv_at hl 0 rfl) ?_
            refine lv_iconst (v := (-1)) hx hb d_S_findCosts_61 (by decide) ?_
            refine lv_icmp_ne (tgt := 66) hx hb d_S_findCosts_62 (by decide) (fun c_62 => ?_) (fun c_62 => ?_)
            · refine lv_aload_n hx hb d_S_findCosts_66 rfl (lv_at hl 1 rfl) ?_
              refine lv_aload_n hx hb d_S_findCosts_67 rfl (lv_at hl 2 rfl) ?_
              refine lv_iload hx hb d_S_findCosts_68 (lv_at hl 0 rfl) ?_
              refine w_cv (As := [.ref (a 1), .int (nI (f))]) (rest := []) ⟨hx, hb, hml, hown, hts⟩ (c_S_settleBehind l D cI cZ g a ha w h Q (fun r9 => rt_o (F r9)) (nI (z)) bl (fun j => nI (RS j)) (nI (x1)) (nI (ys)) (fun j => nI (RC j)) (nI (x2)) (nI (yc)) F RS x1 ys RC x2 yc z (rt_ln f + k) f k hG (rt_cS_0 h4 h3 rfl) (by omega)) (cwV 2 hts (t_gV k_methodLink_rn_S_94_y_S_settleBehind k_instanceMethod_y_S_settleBehind k_selects_rn_S_y_S_settleBehind_y_S_settleBehind k_initialized_rn_S k_code_y_S_settleBehind_prog_4_method_10_code_6_none) rfl rfl rfl (by decide +kernel) ⟨Nat.le_of_ble_eq_true rfl, Nat.le_of_ble_eq_true rfl⟩) (va_recv hK hP (ci := 2) (q0 := 4) rfl rfl) hP hK hZ hS rfl hl.1 rfl (Nat.le_of_ble_eq_true rfl) d_S_findCosts_70 ⟨Nat.zero_le _, Nat.zero_le _⟩ (fun u_70 H locs hw hP hS => ?_)
              obtain ⟨F1, RS1, ys1, RC1, yc1⟩ := u_70
              have hP : va_P D vwCl (xw cI a w h Q (fun r9 => rt_o (F1 r9)) (nI (z)) bl (fun j => nI (RS1 j)) (nI (x1)) (nI (ys1)) (fun j => nI (RC1 j)) (nI (x2)) (nI (yc1))) H := hP
              have hD : va_D (xA a) (xw cI a w h Q (fun r9 => rt_o (F1 r9)) (nI (z)) bl (fun j => nI (RS1 j)) (nI (x1)) (nI (ys1)) (fun j => nI (RC1 j)) (nI (x2)) (nI (yc1))) := x_D ha _ rfl
              have hI1 := hw
              refine lv_iinc (v := (nI (i + 1))) (lv' := [(3, .int (nI (i + 1))), (4, .int (nI (f))), (0, .ref (a 4)), (1, .ref (a 1)), (2, .int (nI (z)))]) hx hb d_S_findCosts_73 hl (k := 4) rfl (nI_add _ _) (by decide) rfl (fun ls hl => ?_)
              refine lv_goto (tgt := 44) hx hb d_S_findCosts_76 (by decide) ?_
              exact ih_44 (i + 1) (rt_ln f + k) F1 RS1 x1 ys1 RC1 x2 yc1 (by omega) hI1 (by omega) (by omega) _ _ _ hP hS (lv_sub hl [2, 3, 4, 0] rfl)
            · exact absurd c_62 (rt_o_ne _ (by omega))
    exact LP_44 (12 * (w * h)) 0 0 F0v RS1 0 ys1 RC1 0 yc1 (by omega) hI0 (by omega) (by omega) _ _ _ hP hS (lv_sub hl [1, 2, 3, 0] rfl)
  · subst c_5
    exact w_vret (ff, rs, hs, ts, rc, hc, tc) hx hb hr hlocks hS hP (rt_hk_C hz hk0) d_S_findCosts_8

set_option maxHeartbeats 4000000 in
set_option maxRecDepth 100000 in
theorem c_S_cheapestAhead (l : Launch) (D : va_G) (cI cZ : ClassId) (g a : Nat → Nat) (ha : xI a) (w h : Nat) (Q : Nat → Nat) (ff : Nat → Int32) (hd bl : Int32) (rs : Nat → Int32) (hs ts : Int32) (rc : Nat → Int32) (hc tc : Int32) (K : Nat → Option Nat) (r : Nat) (hG : rt_G w h Q) (hr0 : r < 12 * (w * h)) (hsm : rt_small K) : Met l y_S_cheapestAhead (.code y_S_cheapestAhead b_S_cheapestAhead 8 (some .int) :: tG) ({ frames := 3, cells := 0, slots := 0, locals := 64 }) (va_Pc [.ref (a 4), .ref (a 1), .int (nI (r))] (wU D cI cZ g (xA a) (xw cI a w h Q (fun r9 => rt_o (K r9)) hd bl rs hs ts rc hc tc))) (va_Qi (S := Unit) (fun x _ => x = rt_o (rt_best K (rt_nx Q w h r))) (wB D (fun (u : Unit) => (xw cI a w h Q (fun r9 => rt_o (K r9)) hd bl rs hs ts rc hc tc))) (xA a)) 0 0 (xA a) := by
  refine Met.ofW (cc := b_S_cheapestAhead) (maxL := 8) (ret := (some .int)) (by decide) rfl ?_
  intro p e s m args below meth c s₁ B hml hv
  obtain ⟨rfl, hP, hK, hZ⟩ := hv
  have hx := B.exec
  have hb := B.bytes
  have hr := B.returns
  have hts : ∀ w ∈ tG, w.before _ s = true := fun w hw => atoms_spec (ws := .code y_S_cheapestAhead b_S_cheapestAhead 8 (some .int) :: tG) B.pre w (List.mem_cons_of_mem _ hw)
  have hown : s.vm.findClass rn_S = some m.cls := findClass_of_methodNamed B.named
  have hlocks := B.notSynchronized
  have hS : va_S (xA a) s.heap s.heap [] := va_S.rf
  have hD : va_D (xA a) (xw cI a w h Q (fun r9 => rt_o (K r9)) hd bl rs hs ts rc hc tc) := x_D ha _ rfl
  have hP : va_P D vwCl (xw cI a w h Q (fun r9 => rt_o (K r9)) hd bl rs hs ts rc hc tc) s.heap := hP
  have hl := lv_entry ([.ref (a 4), .ref (a 1), .int (nI (r))]) (n := 8) (Nat.le_of_ble_eq_true rfl)
  rw [lg_entry_eq]
  generalize (lg_sl ([.ref (a 4), .ref (a 1), .int (nI (r))]) ++ List.replicate (8 - (lg_sl ([.ref (a 4), .ref (a 1), .int (nI (r))])).length) Slot.unset).toArray = ls at hl ⊢
  have hl : lv_has ls 8 [(0, .ref (a 4)), (1, .ref (a 1)), (2, .int (nI (r)))] := hl
  obtain ⟨hn1, hn⟩ := hG.n
  have hw0 : 0 < w := by have := hG.1.1; omega
  have hQ := hG.2.2
  refine lv_iconst (v := (-1)) hx hb d_S_cheapestAhead_0 (by decide) ?_
  refine lv_istore_n (lv' := [(3, .int (-1)), (0, .ref (a 4)), (1, .ref (a 1)), (2, .int (nI (r)))]) hx hb d_S_cheapestAhead_1 rfl hl (by decide) rfl (fun ls hl => ?_)
  refine lv_iconst (v := (nI (0))) hx hb d_S_cheapestAhead_2 (by decide) ?_
  refine lv_istore (lv' := [(4, .int (nI (0))), (3, .int (-1)), (0, .ref (a 4)), (1, .ref (a 1)), (2, .int (nI (r)))]) hx hb d_S_cheapestAhead_3 hl (by decide) rfl (fun ls hl => ?_)
  refine lv_iconst (v := (nI (0))) hx hb d_S_cheapestAhead_5 (by decide) ?_
  refine lv_istore (lv' := [(5, .int (nI (0))), (4, .int (nI (0))), (3, .int (-1)), (0, .ref (a 4)), (1, .ref (a 1)), (2, .int (nI (r)))]) hx hb d_S_cheapestAhead_6 hl (by decide) rfl (fun ls hl => ?_)
  have LP_8 : ∀ (n_8 : Nat) (i : Nat), i + n_8 = 3 → ∀ (H : Heap) (locs : List Loc) (ls : Array Slot), va_P D vwCl (xw cI a w h Q (fun r9 => rt_o (K r9)) hd bl rs hs ts rc hc tc) H → va_S (xA a) s.heap H locs → lv_has ls 8 [(0, .ref (a 4)), (1, .ref (a 1)), (2, .int (nI (r))), (3, .int (rt_o (rt_best K (rt_px Q w h r i)))), (4, .int (nI (rt_lw K (rt_best K (rt_px Q w h r i))))), (5, .int (nI (i)))] → W p l e (headSpec (.code y_S_cheapestAhead b_S_cheapestAhead 8 (some .int) :: tG) ({ frames := 3, cells := 0, slots := 0, locals := 64 })).room s m ([.ref (a 4), .ref (a 1), .int (nI (r))] : List Value).toArray below meth c H locs 0 0 (MQ below (va_Qi (S := Unit) (fun x _ => x = rt_o (rt_best K (rt_nx Q w h r))) (wB D (fun (u : Unit) => (xw cI a w h Q (fun r9 => rt_o (K r9)) hd bl rs hs ts rc hc tc))) (xA a)) ([.ref (a 4), .ref (a 1), .int (nI (r))] : List Value).toArray s 0 0 (xA a)) (F0 m 8 ls []) := by
    intro n_8
    induction n_8 with
    | zero =>
      intro i hrel_8 H locs ls hP hS hl
      have hD : va_D (xA a) (xw cI a w h Q (fun r9 => rt_o (K r9)) hd bl rs hs ts rc hc tc) := x_D ha _ rfl
      refine lv_iload hx hb d_S_cheapestAhead_8 (lv_at hl 5 rfl) ?_
      refine lv_iconst (v := (nI (3))) hx hb d_S_cheapestAhead_10 (by decide) ?_
      refine rw_cge (tgt := 84) hx hb d_S_cheapestAhead_11 (by decide) (by omega) (by omega) (fun c_11 => ?_) (fun c_11 => ?_)
      · refine lv_iload_n hx hb d_S_cheapestAhead_84 rfl (lv_at hl 3 rfl) ?_
        exact w_iret () hx hb hr hlocks hS hP (by rw [show i = 3 by omega]; rfl) d_S_cheapestAhead_85
      · omega
    | succ n_8 ih_8 =>
      intro i hrel_8 H locs ls hP hS hl
      have hD : va_D (xA a) (xw cI a w h Q (fun r9 => rt_o (K r9)) hd bl rs hs ts rc hc tc) := x_D ha _ rfl
      refine lv_iload hx hb d_S_cheapestAhead_8 (lv_at hl 5 rfl) ?_
      refine lv_iconst (v := (nI (3))) hx hb d_S_cheapestAhead_10 (by decide) ?_
      refine rw_cge (tgt := 84) hx hb d_S_cheapestAhead_11 (by decide) (by omega) (by omega) (fun c_11 => ?_) (fun c_11 => ?_)
      · omega
      · refine lv_aload_n hx hb d_S_cheapestAhead_14 rfl (lv_at hl 1 rfl) ?_
        refine lv_iload_n hx hb d_S_cheapestAhead_15 rfl (lv_at hl 2 rfl) ?_
        refine lv_iload hx hb d_S_cheapestAhead_16 (lv_at hl 5 rfl) ?_
        refine w_ci (As := [.int (nI (r)), .int (nI (i))]) (rest := []) ⟨hx, hb, hml, hown, hts⟩ (c_A_ahead l D cI cZ g a ha w h Q (fun r9 => rt_o (K r9)) hd bl rs hs ts rc hc tc r i hG hr0 (by omega)) (cwV 2 hts (t_gV k_methodLink_rn_S_81_y_A_ahead k_instanceMethod_y_A_ahead k_selects_rn_A_y_A_ahead_y_A_ahead k_initialized_rn_A k_code_y_A_ahead_prog_3_method_14_code_5_some_int) rfl rfl rfl (by decide +kernel) ⟨Nat.le_of_ble_eq_true rfl, Nat.le_of_ble_eq_true rfl⟩) (va_recv hK hP (ci := 1) (q0 := 1) rfl rfl) hP hK hZ hS rfl hl.1 rfl (Nat.le_of_ble_eq_true rfl) d_S_cheapestAhead_18 ⟨Nat.zero_le _, Nat.zero_le _⟩ (fun r_18 u_18 H locs hw hP hS => ?_)
        subst hw
        have hP : va_P D vwCl (xw cI a w h Q (fun r9 => rt_o (K r9)) hd bl rs hs ts rc hc tc) H := hP
        cases ho_21 : rt_ah w h r i with
        | none =>
          refine lv_istore (lv' := [(6, .int (-1)), (0, .ref (a 4)), (1, .ref (a 1)), (2, .int (nI (r))), (3, .int (rt_o (rt_best K (rt_px Q w h r i)))), (4, .int (nI (rt_lw K (rt_best K (rt_px Q w h r i))))), (5, .int (nI (i)))]) hx hb d_S_cheapestAhead_21 hl (by decide) rfl (fun ls hl => ?_)
          refine lv_aload_n hx hb d_S_cheapestAhead_23 rfl (lv_at hl 2 rfl) ?_
          refine lv_iload hx hb d_S_cheapestAhead_24 (lv_at hl 0 rfl) ?_
          refine w_ci (As := [.int (-1)]) (rest := []) ⟨hx, hb, hml, hown, hts⟩ (c_A_isOpen l D cI cZ g a ha w h Q (fun r9 => rt_o (K r9)) hd bl rs hs ts rc hc tc (-1) hG) (cwV 1 hts (t_gV k_methodLink_rn_S_101_y_A_isOpen k_instanceMethod_y_A_isOpen k_selects_rn_A_y_A_isOpen_y_A_isOpen k_initialized_rn_A k_code_y_A_isOpen_prog_3_method_11_code_2_some_boolean) rfl rfl rfl (by decide +kernel) ⟨Nat.le_of_ble_eq_true rfl, Nat.le_of_ble_eq_true rfl⟩) (va_recv hK hP (ci := 1) (q0 := 1) rfl rfl) hP hK hZ hS rfl hl.1 rfl (Nat.le_of_ble_eq_true rfl) d_S_cheapestAhead_26 ⟨Nat.zero_le _, Nat.zero_le _⟩ (fun r_26 u_26 H locs hw hP hS => ?_)
          subst hw
          have hP : va_P D vwCl (xw cI a w h Q (fun r9 => rt_o (K r9)) hd bl rs hs ts rc hc tc) H := hP
          rw [rt_opx_n (Or.inl (by decide))]
          refine rw_beq (tgt := 78) hx hb d_S_cheapestAhead_29 (by decide) (fun c_29 => ?_) (fun c_29 => ?_)
          · refine lv_iinc (v := (nI (i + 1))) (lv' := [(5, .int (nI (i + 1))), (6, .int (-1)), (0, .ref (a 4)), (1, .ref (a 1)), (2, .int (nI (r))), (3, .int (rt_o (rt_best K (rt_px Q w h r i)))), (4, .int (nI (rt_lw K (rt_best K (rt_px Q w h r i)))))]) hx hb d_S_cheapestAhead_78 hl (k := 6) rfl (nI_add _ _) (by decide) rfl (fun ls hl => ?_)
            refine lv_goto (tgt := 8) hx hb d_S_cheapestAhead_81 (by decide) ?_
            have hl : lv_has ls 8 [(5, .int (nI (i + 1))), (6, .int (-1)), (0, .ref (a 4)), (1, .ref (a 1)), (2, .int (nI (r))), (3, .int (rt_o (rt_best K (rt_px Q w h r (i + 1))))), (4, .int (nI (rt_lw K (rt_best K (rt_px Q w h r (i + 1))))))] := by rw [rt_pxb_n (K := K) (by rw [ho_21]; rfl)]; exact hl
            exact ih_8 (i + 1) (by omega) _ _ _ hP hS (lv_sub hl [2, 3, 4, 5, 6, 0] rfl)
          · cases c_29
        | some b =>
          have hb9 : b < 12 * (w * h) := (rt_ah_back hw0 hr0 (by omega) ho_21).1
          refine lv_istore (lv' := [(6, .int (nI (b))), (0, .ref (a 4)), (1, .ref (a 1)), (2, .int (nI (r))), (3, .int (rt_o (rt_best K (rt_px Q w h r i)))), (4, .int (nI (rt_lw K (rt_best K (rt_px Q w h r i))))), (5, .int (nI (i)))]) hx hb d_S_cheapestAhead_21 hl (by decide) rfl (fun ls hl => ?_)
          refine lv_aload_n hx hb d_S_cheapestAhead_23 rfl (lv_at hl 2 rfl) ?_
          refine lv_iload hx hb d_S_cheapestAhead_24 (lv_at hl 0 rfl) ?_
          refine w_ci (As := [.int (nI (b))]) (rest := []) ⟨hx, hb, hml, hown, hts⟩ (c_A_isOpen l D cI cZ g a ha w h Q (fun r9 => rt_o (K r9)) hd bl rs hs ts rc hc tc (nI (b)) hG) (cwV 1 hts (t_gV k_methodLink_rn_S_101_y_A_isOpen k_instanceMethod_y_A_isOpen k_selects_rn_A_y_A_isOpen_y_A_isOpen k_initialized_rn_A k_code_y_A_isOpen_prog_3_method_11_code_2_some_boolean) rfl rfl rfl (by decide +kernel) ⟨Nat.le_of_ble_eq_true rfl, Nat.le_of_ble_eq_true rfl⟩) (va_recv hK hP (ci := 1) (q0 := 1) rfl rfl) hP hK hZ hS rfl hl.1 rfl (Nat.le_of_ble_eq_true rfl) d_S_cheapestAhead_26 ⟨Nat.zero_le _, Nat.zero_le _⟩ (fun r_26 u_26 H locs hw hP hS => ?_)
          subst hw
          have hP : va_P D vwCl (xw cI a w h Q (fun r9 => rt_o (K r9)) hd bl rs hs ts rc hc tc) H := hP
          rw [rt_opx_s (by omega) hb9]
          refine rw_beq (tgt := 78) hx hb d_S_cheapestAhead_29 (by decide) (fun c_29 => ?_) (fun c_29 => ?_)
          · refine lv_iinc (v := (nI (i + 1))) (lv' := [(5, .int (nI (i + 1))), (6, .int (nI (b))), (0, .ref (a 4)), (1, .ref (a 1)), (2, .int (nI (r))), (3, .int (rt_o (rt_best K (rt_px Q w h r i)))), (4, .int (nI (rt_lw K (rt_best K (rt_px Q w h r i)))))]) hx hb d_S_cheapestAhead_78 hl (k := 6) rfl (nI_add _ _) (by decide) rfl (fun ls hl => ?_)
            refine lv_goto (tgt := 8) hx hb d_S_cheapestAhead_81 (by decide) ?_
            have hl : lv_has ls 8 [(5, .int (nI (i + 1))), (6, .int (nI (b))), (0, .ref (a 4)), (1, .ref (a 1)), (2, .int (nI (r))), (3, .int (rt_o (rt_best K (rt_px Q w h r (i + 1))))), (4, .int (nI (rt_lw K (rt_best K (rt_px Q w h r (i + 1))))))] := by rw [rt_pxb_n (K := K) (by rw [ho_21]; exact rt_one_f c_29)]; exact hl
            exact ih_8 (i + 1) (by omega) _ _ _ hP hS (lv_sub hl [2, 3, 4, 5, 6, 0] rfl)
          · refine lv_aload_n hx hb d_S_cheapestAhead_32 rfl (lv_at hl 1 rfl) ?_
            refine va_get (D := D) (ci := 2) (v := .ref (a 5)) (C := rn_S) (T := tf_S) (N := 5) hx hb hts in_S hown hK hP 4 rfl rfl 0 (by decide) (hts _ k_fieldLink_rn_S_11_rn_S_found_I) (fun _ h9 => h9) rfl d_S_cheapestAhead_33 ?_
            refine lv_iload hx hb d_S_cheapestAhead_36 (lv_at hl 0 rfl) ?_
            refine rw_iald (v := (rt_o (K b))) hx hb hK hP 5 0 rfl rfl (by omega) (by omega) (rfl) d_S_cheapestAhead_38 ?_
            cases ho_39 : K b with
            | none =>
              refine lv_iconst (v := (-1)) hx hb d_S_cheapestAhead_39 (by decide) ?_
              refine lv_icmp_eq (tgt := 78) hx hb d_S_cheapestAhead_40 (by decide) (fun c_40 => ?_) (fun c_40 => ?_)
              · refine lv_iinc (v := (nI (i + 1))) (lv' := [(5, .int (nI (i + 1))), (6, .int (nI (b))), (0, .ref (a 4)), (1, .ref (a 1)), (2, .int (nI (r))), (3, .int (rt_o (rt_best K (rt_px Q w h r i)))), (4, .int (nI (rt_lw K (rt_best K (rt_px Q w h r i)))))]) hx hb d_S_cheapestAhead_78 hl (k := 6) rfl (nI_add _ _) (by decide) rfl (fun ls hl => ?_)
                refine lv_goto (tgt := 8) hx hb d_S_cheapestAhead_81 (by decide) ?_
                have hl : lv_has ls 8 [(5, .int (nI (i + 1))), (6, .int (nI (b))), (0, .ref (a 4)), (1, .ref (a 1)), (2, .int (nI (r))), (3, .int (rt_o (rt_best K (rt_px Q w h r (i + 1))))), (4, .int (nI (rt_lw K (rt_best K (rt_px Q w h r (i + 1))))))] := by rw [rt_pxb_s ho_21 c_29, rt_bs_n ho_39]; exact hl
                exact ih_8 (i + 1) (by omega) _ _ _ hP hS (lv_sub hl [2, 3, 4, 5, 6, 0] rfl)
              · exact absurd rfl c_40
            | some q =>
              have hq9 := hsm b q ho_39
              have hln := rt_ln_in b
              refine lv_iconst (v := (-1)) hx hb d_S_cheapestAhead_39 (by decide) ?_
              refine lv_icmp_eq (tgt := 78) hx hb d_S_cheapestAhead_40 (by decide) (fun c_40 => ?_) (fun c_40 => ?_)
              · exact absurd c_40 (rt_o_ne _ (by omega))
              · refine lv_aload_n hx hb d_S_cheapestAhead_43 rfl (lv_at hl 2 rfl) ?_
                refine lv_iload hx hb d_S_cheapestAhead_44 (lv_at hl 0 rfl) ?_
                refine w_ci (As := [.int (nI (b))]) (rest := []) ⟨hx, hb, hml, hown, hts⟩ (c_A_lengthOf l D cI cZ g a ha w h Q (fun r9 => rt_o (K r9)) hd bl rs hs ts rc hc tc b hG hb9) (cwV 1 hts (t_gV k_methodLink_rn_S_111_y_A_lengthOf k_instanceMethod_y_A_lengthOf k_selects_rn_A_y_A_lengthOf_y_A_lengthOf k_initialized_rn_A k_code_y_A_lengthOf_prog_3_method_13_code_2_some_int) rfl rfl rfl (by decide +kernel) ⟨Nat.le_of_ble_eq_true rfl, Nat.le_of_ble_eq_true rfl⟩) (va_recv hK hP (ci := 1) (q0 := 1) rfl rfl) hP hK hZ hS rfl hl.1 rfl (Nat.le_of_ble_eq_true rfl) d_S_cheapestAhead_46 ⟨Nat.zero_le _, Nat.zero_le _⟩ (fun r_46 u_46 H locs hw hP hS => ?_)
                subst hw
                have hP : va_P D vwCl (xw cI a w h Q (fun r9 => rt_o (K r9)) hd bl rs hs ts rc hc tc) H := hP
                refine lv_aload_n hx hb d_S_cheapestAhead_49 rfl (lv_at hl 1 rfl) ?_
                refine va_get (D := D) (ci := 2) (v := .ref (a 5)) (C := rn_S) (T := tf_S) (N := 5) hx hb hts in_S hown hK hP 4 rfl rfl 0 (by decide) (hts _ k_fieldLink_rn_S_11_rn_S_found_I) (fun _ h9 => h9) rfl d_S_cheapestAhead_50 ?_
                refine lv_iload hx hb d_S_cheapestAhead_53 (lv_at hl 0 rfl) ?_
                refine rw_iald (v := (nI (q))) hx hb hK hP 5 0 rfl rfl (by omega) (by omega) (by show rt_o (K b) = _; rw [ho_39]; rfl) d_S_cheapestAhead_55 ?_
                refine rw_add hx hb d_S_cheapestAhead_56 ?_
                refine lv_istore (lv' := [(7, .int (nI ((rt_ln b) + q))), (6, .int (nI (b))), (0, .ref (a 4)), (1, .ref (a 1)), (2, .int (nI (r))), (3, .int (rt_o (rt_best K (rt_px Q w h r i)))), (4, .int (nI (rt_lw K (rt_best K (rt_px Q w h r i))))), (5, .int (nI (i)))]) hx hb d_S_cheapestAhead_57 hl (by decide) rfl (fun ls hl => ?_)
                cases ho_59 : rt_best K (rt_px Q w h r i) with
                | none =>
                  rw [ho_59] at hl
                  have hl : lv_has ls 8 [(7, .int (nI ((rt_ln b) + q))), (6, .int (nI (b))), (0, .ref (a 4)), (1, .ref (a 1)), (2, .int (nI (r))), (3, .int (-1)), (4, .int (nI (rt_lw K (none)))), (5, .int (nI (i)))] := hl
                  refine lv_iload_n hx hb d_S_cheapestAhead_59 rfl (lv_at hl 5 rfl) ?_
                  refine lv_iconst (v := (-1)) hx hb d_S_cheapestAhead_60 (by decide) ?_
                  refine lv_icmp_eq (tgt := 71) hx hb d_S_cheapestAhead_61 (by decide) (fun c_61 => ?_) (fun c_61 => ?_)
                  · refine lv_iload hx hb d_S_cheapestAhead_71 (lv_at hl 1 rfl) ?_
                    refine lv_istore_n (lv' := [(3, .int (nI (b))), (7, .int (nI ((rt_ln b) + q))), (6, .int (nI (b))), (0, .ref (a 4)), (1, .ref (a 1)), (2, .int (nI (r))), (4, .int (nI (rt_lw K (none)))), (5, .int (nI (i)))]) hx hb d_S_cheapestAhead_73 rfl hl (by decide) rfl (fun ls hl => ?_)
                    refine lv_iload hx hb d_S_cheapestAhead_74 (lv_at hl 1 rfl) ?_
                    refine lv_istore (lv' := [(4, .int (nI ((rt_ln b) + q))), (3, .int (nI (b))), (7, .int (nI ((rt_ln b) + q))), (6, .int (nI (b))), (0, .ref (a 4)), (1, .ref (a 1)), (2, .int (nI (r))), (5, .int (nI (i)))]) hx hb d_S_cheapestAhead_76 hl (by decide) rfl (fun ls hl => ?_)
                    refine lv_iinc (v := (nI (i + 1))) (lv' := [(5, .int (nI (i + 1))), (4, .int (nI ((rt_ln b) + q))), (3, .int (nI (b))), (7, .int (nI ((rt_ln b) + q))), (6, .int (nI (b))), (0, .ref (a 4)), (1, .ref (a 1)), (2, .int (nI (r)))]) hx hb d_S_cheapestAhead_78 hl (k := 7) rfl (nI_add _ _) (by decide) rfl (fun ls hl => ?_)
                    refine lv_goto (tgt := 8) hx hb d_S_cheapestAhead_81 (by decide) ?_
                    have e4 : rt_lw K (some b) = rt_ln b + q := by show rt_ln b + (K b).getD 0 = _; rw [ho_39]; rfl
                    have hl : lv_has ls 8 [(5, .int (nI (i + 1))), (4, .int (nI (rt_lw K (rt_best K (rt_px Q w h r (i + 1)))))), (3, .int (rt_o (rt_best K (rt_px Q w h r (i + 1))))), (7, .int (nI ((rt_ln b) + q))), (6, .int (nI (b))), (0, .ref (a 4)), (1, .ref (a 1)), (2, .int (nI (r)))] := by rw [rt_pxb_s ho_21 c_29, ho_59, rt_bs_0 ho_39, e4]; exact hl
                    exact ih_8 (i + 1) (by omega) _ _ _ hP hS (lv_sub hl [5, 6, 7, 2, 1, 0] rfl)
                  · exact absurd rfl c_61
                | some g9 =>
                  rw [ho_59] at hl
                  have hl : lv_has ls 8 [(7, .int (nI ((rt_ln b) + q))), (6, .int (nI (b))), (0, .ref (a 4)), (1, .ref (a 1)), (2, .int (nI (r))), (3, .int (nI (g9))), (4, .int (nI (rt_lw K (some g9)))), (5, .int (nI (i)))] := hl
                  have hg9 := rt_best_lt ho_59
                  have hlw := rt_lw_le hsm (some g9)
                  refine lv_iload_n hx hb d_S_cheapestAhead_59 rfl (lv_at hl 5 rfl) ?_
                  refine lv_iconst (v := (-1)) hx hb d_S_cheapestAhead_60 (by decide) ?_
                  refine lv_icmp_eq (tgt := 71) hx hb d_S_cheapestAhead_61 (by decide) (fun c_61 => ?_) (fun c_61 => ?_)
                  · exact absurd c_61 (rt_o_ne _ (by omega))
                  · refine lv_iload hx hb d_S_cheapestAhead_64 (lv_at hl 0 rfl) ?_
                    refine lv_iload hx hb d_S_cheapestAhead_66 (lv_at hl 6 rfl) ?_
                    refine rw_cge (tgt := 78) hx hb d_S_cheapestAhead_68 (by decide) (by omega) (by omega) (fun c_68 => ?_) (fun c_68 => ?_)
                    · refine lv_iinc (v := (nI (i + 1))) (lv' := [(5, .int (nI (i + 1))), (7, .int (nI ((rt_ln b) + q))), (6, .int (nI (b))), (0, .ref (a 4)), (1, .ref (a 1)), (2, .int (nI (r))), (3, .int (nI (g9))), (4, .int (nI (rt_lw K (some g9))))]) hx hb d_S_cheapestAhead_78 hl (k := 7) rfl (nI_add _ _) (by decide) rfl (fun ls hl => ?_)
                      refine lv_goto (tgt := 8) hx hb d_S_cheapestAhead_81 (by decide) ?_
                      have hl : lv_has ls 8 [(5, .int (nI (i + 1))), (7, .int (nI ((rt_ln b) + q))), (6, .int (nI (b))), (0, .ref (a 4)), (1, .ref (a 1)), (2, .int (nI (r))), (3, .int (rt_o (rt_best K (rt_px Q w h r (i + 1))))), (4, .int (nI (rt_lw K (rt_best K (rt_px Q w h r (i + 1))))))] := by rw [rt_pxb_s ho_21 c_29, ho_59, rt_bs_f ho_39 (Nat.not_lt_of_le c_68)]; exact hl
                      exact ih_8 (i + 1) (by omega) _ _ _ hP hS (lv_sub hl [3, 4, 5, 6, 7, 0] rfl)
                    · refine lv_iload hx hb d_S_cheapestAhead_71 (lv_at hl 1 rfl) ?_
                      refine lv_istore_n (lv' := [(3, .int (nI (b))), (7, .int (nI ((rt_ln b) + q))), (6, .int (nI (b))), (0, .ref (a 4)), (1, .ref (a 1)), (2, .int (nI (r))), (4, .int (nI (rt_lw K (some g9)))), (5, .int (nI (i)))]) hx hb d_S_cheapestAhead_73 rfl hl (by decide) rfl (fun ls hl => ?_)
                      refine lv_iload hx hb d_S_cheapestAhead_74 (lv_at hl 1 rfl) ?_
                      refine lv_istore (lv' := [(4, .int (nI ((rt_ln b) + q))), (3, .int (nI (b))), (7, .int (nI ((rt_ln b) + q))), (6, .int (nI (b))), (0, .ref (a 4)), (1, .ref (a 1)), (2, .int (nI (r))), (5, .int (nI (i)))]) hx hb d_S_cheapestAhead_76 hl (by decide) rfl (fun ls hl => ?_)
                      refine lv_iinc (v := (nI (i + 1))) (lv' := [(5, .int (nI (i + 1))), (4, .int (nI ((rt_ln b) + q))), (3, .int (nI (b))), (7, .int (nI ((rt_ln b) + q))), (6, .int (nI (b))), (0, .ref (a 4)), (1, .ref (a 1)), (2, .int (nI (r)))]) hx hb d_S_cheapestAhead_78 hl (k := 7) rfl (nI_add _ _) (by decide) rfl (fun ls hl => ?_)
                      refine lv_goto (tgt := 8) hx hb d_S_cheapestAhead_81 (by decide) ?_
                      have e4 : rt_lw K (some b) = rt_ln b + q := by show rt_ln b + (K b).getD 0 = _; rw [ho_39]; rfl
                      have hl : lv_has ls 8 [(5, .int (nI (i + 1))), (4, .int (nI (rt_lw K (rt_best K (rt_px Q w h r (i + 1)))))), (3, .int (rt_o (rt_best K (rt_px Q w h r (i + 1))))), (7, .int (nI ((rt_ln b) + q))), (6, .int (nI (b))), (0, .ref (a 4)), (1, .ref (a 1)), (2, .int (nI (r)))] := by rw [rt_pxb_s ho_21 c_29, ho_59, rt_bs_t ho_39 (Nat.lt_of_not_le c_68), e4]; exact hl
                      exact ih_8 (i + 1) (by omega) _ _ _ hP hS (lv_sub hl [5, 6, 7, 2, 1, 0] rfl)
  exact LP_8 3 0 (by omega) _ _ _ hP hS (lv_sub hl [3, 4, 5, 2, 1, 0] rfl)
end
section
/-! RouteTracks, questions: by program (wip/whole/gen/rmeth.py) -/
set_option maxHeartbeats 4000000 in
set_option maxRecDepth 100000 in
theorem c_R_isKind (l : Launch) (D : va_G) (cI cZ : ClassId) (g a : Nat → Nat) (ha : xI a) (w h : Nat) (Q : Nat → Nat) (ff : Nat → Int32) (hd bl : Int32) (rs : Nat → Int32) (hs ts : Int32) (rc : Nat → Int32) (hc tc : Int32) (x : Int32) (hG : rt_G w h Q) : Met l y_R_isKind (.code y_R_isKind b_R_isKind 1 (some .boolean) :: tG) ({ frames := 0, cells := 0, slots := 0, locals := 0 }) (va_Pc [.int (x)] (wU D cI cZ g (xA a) (xw cI a w h Q ff hd bl rs hs ts rc hc tc))) (va_Qi (S := Unit) (fun r _ => r = rt_b (rt_ix x 6).isSome) (wB D (fun (u : Unit) => (xw cI a w h Q ff hd bl rs hs ts rc hc tc))) (xA a)) 0 0 (xA a) := by
  refine Met.ofW (cc := b_R_isKind) (maxL := 1) (ret := (some .boolean)) (by decide) rfl ?_
  intro p e s m args below meth c s₁ B hml hv
  obtain ⟨rfl, hP, hK, hZ⟩ := hv
  have hx := B.exec
  have hb := B.bytes
  have hr := B.returns
  have hts : ∀ w ∈ tG, w.before _ s = true := fun w hw => atoms_spec (ws := .code y_R_isKind b_R_isKind 1 (some .boolean) :: tG) B.pre w (List.mem_cons_of_mem _ hw)
  have hown : s.vm.findClass rn_R = some m.cls := findClass_of_methodNamed B.named
  have hlocks := B.notSynchronized
  have hS : va_S (xA a) s.heap s.heap [] := va_S.rf
  have hD : va_D (xA a) (xw cI a w h Q ff hd bl rs hs ts rc hc tc) := x_D ha _ rfl
  have hP : va_P D vwCl (xw cI a w h Q ff hd bl rs hs ts rc hc tc) s.heap := hP
  have hl := lv_entry ([.int (x)]) (n := 1) (Nat.le_of_ble_eq_true rfl)
  rw [lg_entry_eq]
  generalize (lg_sl ([.int (x)]) ++ List.replicate (1 - (lg_sl ([.int (x)])).length) Slot.unset).toArray = ls at hl ⊢
  have hl : lv_has ls 1 [(0, .int (x))] := hl
  obtain ⟨hn1, hn⟩ := hG.n
  have hw0 : 0 < w := by have := hG.1.1; omega
  have hQ := hG.2.2
  refine lv_iload_n hx hb d_R_isKind_0 rfl (lv_at hl 0 rfl) ?_
  refine lv_if_lt (tgt := 14) hx hb d_R_isKind_1 (by decide) (fun c_1 => ?_) (fun c_1 => ?_)
  · refine lv_iconst (v := (nI (0))) hx hb d_R_isKind_14 (by decide) ?_
    exact w_zret (v := false) () hx hb hr hlocks hS hP (by first | exact rt_ix_f (Or.inl c_1) | exact rt_ix_f (Or.inr c_7)) d_R_isKind_15
  · refine lv_iload_n hx hb d_R_isKind_4 rfl (lv_at hl 0 rfl) ?_
    refine lv_bipush (v := (nI (6))) hx hb d_R_isKind_5 (by decide) ?_
    refine lv_icmp_ge (tgt := 14) hx hb d_R_isKind_7 (by decide) (fun c_7 => ?_) (fun c_7 => ?_)
    · refine lv_iconst (v := (nI (0))) hx hb d_R_isKind_14 (by decide) ?_
      exact w_zret (v := false) () hx hb hr hlocks hS hP (by first | exact rt_ix_f (Or.inl c_1) | exact rt_ix_f (Or.inr c_7)) d_R_isKind_15
    · refine lv_iconst (v := (nI (1))) hx hb d_R_isKind_10 (by decide) ?_
      refine lv_goto (tgt := 15) hx hb d_R_isKind_11 (by decide) ?_
      exact w_zret (v := true) () hx hb hr hlocks hS hP (rt_ix_t c_1 c_7) d_R_isKind_15

set_option maxHeartbeats 4000000 in
set_option maxRecDepth 100000 in
theorem c_R_isStation (l : Launch) (D : va_G) (cI cZ : ClassId) (g a : Nat → Nat) (ha : xI a) (w h : Nat) (Q : Nat → Nat) (ff : Nat → Int32) (hd bl : Int32) (rs : Nat → Int32) (hs ts : Int32) (rc : Nat → Int32) (hc tc : Int32) (x : Int32) (hG : rt_G w h Q) : Met l y_R_isStation (.code y_R_isStation b_R_isStation 1 (some .boolean) :: tG) ({ frames := 0, cells := 0, slots := 0, locals := 0 }) (va_Pc [.int (x)] (wU D cI cZ g (xA a) (xw cI a w h Q ff hd bl rs hs ts rc hc tc))) (va_Qi (S := Unit) (fun r _ => r = rt_b (rt_ix x 8).isSome) (wB D (fun (u : Unit) => (xw cI a w h Q ff hd bl rs hs ts rc hc tc))) (xA a)) 0 0 (xA a) := by
  refine Met.ofW (cc := b_R_isStation) (maxL := 1) (ret := (some .boolean)) (by decide) rfl ?_
  intro p e s m args below meth c s₁ B hml hv
  obtain ⟨rfl, hP, hK, hZ⟩ := hv
  have hx := B.exec
  have hb := B.bytes
  have hr := B.returns
  have hts : ∀ w ∈ tG, w.before _ s = true := fun w hw => atoms_spec (ws := .code y_R_isStation b_R_isStation 1 (some .boolean) :: tG) B.pre w (List.mem_cons_of_mem _ hw)
  have hown : s.vm.findClass rn_R = some m.cls := findClass_of_methodNamed B.named
  have hlocks := B.notSynchronized
  have hS : va_S (xA a) s.heap s.heap [] := va_S.rf
  have hD : va_D (xA a) (xw cI a w h Q ff hd bl rs hs ts rc hc tc) := x_D ha _ rfl
  have hP : va_P D vwCl (xw cI a w h Q ff hd bl rs hs ts rc hc tc) s.heap := hP
  have hl := lv_entry ([.int (x)]) (n := 1) (Nat.le_of_ble_eq_true rfl)
  rw [lg_entry_eq]
  generalize (lg_sl ([.int (x)]) ++ List.replicate (1 - (lg_sl ([.int (x)])).length) Slot.unset).toArray = ls at hl ⊢
  have hl : lv_has ls 1 [(0, .int (x))] := hl
  obtain ⟨hn1, hn⟩ := hG.n
  have hw0 : 0 < w := by have := hG.1.1; omega
  have hQ := hG.2.2
  refine lv_iload_n hx hb d_R_isStation_0 rfl (lv_at hl 0 rfl) ?_
  refine lv_if_lt (tgt := 14) hx hb d_R_isStation_1 (by decide) (fun c_1 => ?_) (fun c_1 => ?_)
  · refine lv_iconst (v := (nI (0))) hx hb d_R_isStation_14 (by decide) ?_
    exact w_zret (v := false) () hx hb hr hlocks hS hP (by first | exact rt_ix_f (Or.inl c_1) | exact rt_ix_f (Or.inr c_7)) d_R_isStation_15
  · refine lv_iload_n hx hb d_R_isStation_4 rfl (lv_at hl 0 rfl) ?_
    refine lv_bipush (v := (nI (8))) hx hb d_R_isStation_5 (by decide) ?_
    refine lv_icmp_ge (tgt := 14) hx hb d_R_isStation_7 (by decide) (fun c_7 => ?_) (fun c_7 => ?_)
    · refine lv_iconst (v := (nI (0))) hx hb d_R_isStation_14 (by decide) ?_
      exact w_zret (v := false) () hx hb hr hlocks hS hP (by first | exact rt_ix_f (Or.inl c_1) | exact rt_ix_f (Or.inr c_7)) d_R_isStation_15
    · refine lv_iconst (v := (nI (1))) hx hb d_R_isStation_10 (by decide) ?_
      refine lv_goto (tgt := 15) hx hb d_R_isStation_11 (by decide) ?_
      exact w_zret (v := true) () hx hb hr hlocks hS hP (rt_ix_t c_1 c_7) d_R_isStation_15

set_option maxHeartbeats 4000000 in
set_option maxRecDepth 100000 in
theorem c_R_at (l : Launch) (D : va_G) (cI cZ : ClassId) (g a : Nat → Nat) (ha : xI a) (w h : Nat) (Q : Nat → Nat) (ff : Nat → Int32) (hd bl : Int32) (rs : Nat → Int32) (hs ts : Int32) (rc : Nat → Int32) (hc tc : Int32) (x y : Int32) (hG : rt_G w h Q) : Met l y_R_at (.code y_R_at b_R_at 3 (some .int) :: tG) ({ frames := 2, cells := 0, slots := 0, locals := 44 }) (va_Pc [.ref (a 0), .int (x), .int (y)] (wU D cI cZ g (xA a) (xw cI a w h Q ff hd bl rs hs ts rc hc tc))) (va_Qi (S := Unit) (fun r _ => r = rt_at Q (w * h) x y) (wB D (fun (u : Unit) => (xw cI a w h Q ff hd bl rs hs ts rc hc tc))) (xA a)) 0 0 (xA a) := by
  refine Met.ofW (cc := b_R_at) (maxL := 3) (ret := (some .int)) (by decide) rfl ?_
  intro p e s m args below meth c s₁ B hml hv
  obtain ⟨rfl, hP, hK, hZ⟩ := hv
  have hx := B.exec
  have hb := B.bytes
  have hr := B.returns
  have hts : ∀ w ∈ tG, w.before _ s = true := fun w hw => atoms_spec (ws := .code y_R_at b_R_at 3 (some .int) :: tG) B.pre w (List.mem_cons_of_mem _ hw)
  have hown : s.vm.findClass rn_R = some m.cls := findClass_of_methodNamed B.named
  have hlocks := B.notSynchronized
  have hS : va_S (xA a) s.heap s.heap [] := va_S.rf
  have hD : va_D (xA a) (xw cI a w h Q ff hd bl rs hs ts rc hc tc) := x_D ha _ rfl
  have hP : va_P D vwCl (xw cI a w h Q ff hd bl rs hs ts rc hc tc) s.heap := hP
  have hl := lv_entry ([.ref (a 0), .int (x), .int (y)]) (n := 3) (Nat.le_of_ble_eq_true rfl)
  rw [lg_entry_eq]
  generalize (lg_sl ([.ref (a 0), .int (x), .int (y)]) ++ List.replicate (3 - (lg_sl ([.ref (a 0), .int (x), .int (y)])).length) Slot.unset).toArray = ls at hl ⊢
  have hl : lv_has ls 3 [(0, .ref (a 0)), (1, .int (x)), (2, .int (y))] := hl
  obtain ⟨hn1, hn⟩ := hG.n
  have hw0 : 0 < w := by have := hG.1.1; omega
  have hQ := hG.2.2
  refine lv_aload_n hx hb d_R_at_0 rfl (lv_at hl 0 rfl) ?_
  refine va_get (D := D) (ci := 3) (v := .ref (a 1)) (C := rn_R) (T := tf_R) (N := 2) hx hb hts in_R hown hK hP 0 rfl rfl 0 (by decide) (hts _ k_fieldLink_rn_R_18_rn_R_rails_LRouteTracks_Rails) (fun _ h9 => h9) rfl d_R_at_1 ?_
  refine lv_iload_n hx hb d_R_at_4 rfl (lv_at hl 1 rfl) ?_
  refine w_ci (As := [.int (x)]) (rest := []) ⟨hx, hb, hml, hown, hts⟩ (c_A_hasTile l D cI cZ g a ha w h Q ff hd bl rs hs ts rc hc tc x hG) (cwV 1 hts (t_gV k_methodLink_rn_R_78_y_A_hasTile k_instanceMethod_y_A_hasTile k_selects_rn_A_y_A_hasTile_y_A_hasTile k_initialized_rn_A k_code_y_A_hasTile_prog_3_method_2_code_2_some_boolean) rfl rfl rfl (by decide +kernel) ⟨Nat.le_of_ble_eq_true rfl, Nat.le_of_ble_eq_true rfl⟩) (va_recv hK hP (ci := 1) (q0 := 1) rfl rfl) hP hK hZ hS rfl hl.1 rfl (Nat.le_of_ble_eq_true rfl) d_R_at_5 ⟨Nat.zero_le _, Nat.zero_le _⟩ (fun r_5 u_5 H locs hw hP hS => ?_)
  subst hw
  have hP : va_P D vwCl (xw cI a w h Q ff hd bl rs hs ts rc hc tc) H := hP
  refine rw_beq (tgt := 21) hx hb d_R_at_8 (by decide) (fun c_8 => ?_) (fun c_8 => ?_)
  · refine lv_iconst (v := (-1)) hx hb d_R_at_21 (by decide) ?_
    exact w_iret () hx hb hr hlocks hS hP (by first | exact (rt_at_n (Or.inl (rt_ix_no c_8))).symm | exact (rt_at_n (Or.inr (rt_ix_none (Or.inl c_12)))).symm | exact (rt_at_n (Or.inr (rt_ix_none (Or.inr (rt_gt6 c_18))))).symm) d_R_at_22
  · obtain ⟨t, ht, rfl⟩ := rt_ix_is (by omega) c_8
    refine lv_iload_n hx hb d_R_at_11 rfl (lv_at hl 2 rfl) ?_
    refine lv_if_lt (tgt := 21) hx hb d_R_at_12 (by decide) (fun c_12 => ?_) (fun c_12 => ?_)
    · refine lv_iconst (v := (-1)) hx hb d_R_at_21 (by decide) ?_
      exact w_iret () hx hb hr hlocks hS hP (by first | exact (rt_at_n (Or.inl (rt_ix_no c_8))).symm | exact (rt_at_n (Or.inr (rt_ix_none (Or.inl c_12)))).symm | exact (rt_at_n (Or.inr (rt_ix_none (Or.inr (rt_gt6 c_18))))).symm) d_R_at_22
    · refine lv_iload_n hx hb d_R_at_15 rfl (lv_at hl 2 rfl) ?_
      refine lv_bipush (v := (nI (6))) hx hb d_R_at_16 (by decide) ?_
      refine lv_icmp_le (tgt := 23) hx hb d_R_at_18 (by decide) (fun c_18 => ?_) (fun c_18 => ?_)
      · obtain ⟨k, hk, rfl⟩ : ∃ k : Nat, k ≤ 6 ∧ y = nI k := nI_of2 (M := nI 6) rfl c_12 c_18
        refine lv_iload_n hx hb d_R_at_23 rfl (lv_at hl 2 rfl) ?_
        refine rw_zne (tgt := 38) hx hb d_R_at_24 (by decide) (by omega) (fun c_24 => ?_) (fun c_24 => ?_)
        · refine lv_aload_n hx hb d_R_at_38 rfl (lv_at hl 0 rfl) ?_
          refine va_get (D := D) (ci := 3) (v := .ref (a 1)) (C := rn_R) (T := tf_R) (N := 2) hx hb hts in_R hown hK hP 0 rfl rfl 0 (by decide) (hts _ k_fieldLink_rn_R_18_rn_R_rails_LRouteTracks_Rails) (fun _ h9 => h9) rfl d_R_at_39 ?_
          refine va_get (D := D) (ci := 1) (v := .ref (a 3)) (C := rn_A) (T := tf_A) (N := 2) hx hb hts in_A hown hK hP 1 rfl rfl 1 (by decide) (hts _ k_fieldLink_rn_R_84_rn_A_pieces_I) (fun _ h9 => h9) rfl d_R_at_42 ?_
          refine lv_bipush (v := (nI (6))) hx hb d_R_at_45 (by decide) ?_
          refine lv_iload_n hx hb d_R_at_47 rfl (lv_at hl 1 rfl) ?_
          refine rw_mul hx hb d_R_at_48 ?_
          refine lv_iload_n hx hb d_R_at_49 rfl (lv_at hl 2 rfl) ?_
          refine rw_add hx hb d_R_at_50 ?_
          refine lv_iconst (v := (nI (1))) hx hb d_R_at_51 (by decide) ?_
          refine rw_sub hx hb d_R_at_52 (by omega) ?_
          refine rw_top (b := 6 * t + (k - 1)) (by omega) ?_
          refine rw_iald (v := (nI (Q (6 * t + (k - 1))))) hx hb hK hP 3 0 rfl rfl (by omega) (by omega) (rfl) d_R_at_53 ?_
          exact w_iret () hx hb hr hlocks hS hP (by obtain ⟨j, rfl⟩ : ∃ j, k = j + 1 := ⟨k - 1, by omega⟩; exact (rt_at_s (by omega) ht (by omega)).symm) d_R_at_54
        · refine lv_aload_n hx hb d_R_at_27 rfl (lv_at hl 0 rfl) ?_
          refine va_get (D := D) (ci := 3) (v := .ref (a 1)) (C := rn_R) (T := tf_R) (N := 2) hx hb hts in_R hown hK hP 0 rfl rfl 0 (by decide) (hts _ k_fieldLink_rn_R_18_rn_R_rails_LRouteTracks_Rails) (fun _ h9 => h9) rfl d_R_at_28 ?_
          refine lv_iload_n hx hb d_R_at_31 rfl (lv_at hl 1 rfl) ?_
          refine w_ci (As := [.int (nI (t))]) (rest := []) ⟨hx, hb, hml, hown, hts⟩ (c_A_kindsIn l D cI cZ g a ha w h Q ff hd bl rs hs ts rc hc tc t hG ht) (cwV 1 hts (t_gV k_methodLink_rn_R_81_y_A_kindsIn k_instanceMethod_y_A_kindsIn k_selects_rn_A_y_A_kindsIn_y_A_kindsIn k_initialized_rn_A k_code_y_A_kindsIn_prog_3_method_8_code_4_some_int) rfl rfl rfl (by decide +kernel) ⟨Nat.le_of_ble_eq_true rfl, Nat.le_of_ble_eq_true rfl⟩) (va_recv hK hP (ci := 1) (q0 := 1) rfl rfl) hP hK hZ hS rfl hl.1 rfl (Nat.le_of_ble_eq_true rfl) d_R_at_32 ⟨Nat.zero_le _, Nat.zero_le _⟩ (fun r_32 u_32 H locs hw hP hS => ?_)
          subst hw
          have hP : va_P D vwCl (xw cI a w h Q ff hd bl rs hs ts rc hc tc) H := hP
          refine lv_goto (tgt := 54) hx hb d_R_at_35 (by decide) ?_
          exact w_iret () hx hb hr hlocks hS hP (by rw [c_24]; exact (rt_at_0 (by omega) ht).symm) d_R_at_54
      · refine lv_iconst (v := (-1)) hx hb d_R_at_21 (by decide) ?_
        exact w_iret () hx hb hr hlocks hS hP (by first | exact (rt_at_n (Or.inl (rt_ix_no c_8))).symm | exact (rt_at_n (Or.inr (rt_ix_none (Or.inl c_12)))).symm | exact (rt_at_n (Or.inr (rt_ix_none (Or.inr (rt_gt6 c_18))))).symm) d_R_at_22

set_option maxHeartbeats 4000000 in
set_option maxRecDepth 100000 in
theorem c_R_next (l : Launch) (D : va_G) (cI cZ : ClassId) (g a : Nat → Nat) (ha : xI a) (w h : Nat) (Q : Nat → Nat) (ff : Nat → Int32) (hd bl : Int32) (rs : Nat → Int32) (hs ts : Int32) (rc : Nat → Int32) (hc tc : Int32) (x y : Int32) (hG : rt_G w h Q) : Met l y_R_next (.code y_R_next b_R_next 6 (some .int) :: tG) ({ frames := 3, cells := 0, slots := 0, locals := 64 }) (va_Pc [.ref (a 0), .int (x), .int (y)] (wU D cI cZ g (xA a) (xw cI a w h Q ff hd bl rs hs ts rc hc tc))) (va_Qi (S := Unit) (fun r _ => r = rt_next Q w h x y) (wB D (fun (u : Unit) => (xw cI a w h Q ff hd bl rs hs ts rc hc tc))) (xA a)) 0 0 (xA a) := by
  refine Met.ofW (cc := b_R_next) (maxL := 6) (ret := (some .int)) (by decide) rfl ?_
  intro p e s m args below meth c s₁ B hml hv
  obtain ⟨rfl, hP, hK, hZ⟩ := hv
  have hx := B.exec
  have hb := B.bytes
  have hr := B.returns
  have hts : ∀ w ∈ tG, w.before _ s = true := fun w hw => atoms_spec (ws := .code y_R_next b_R_next 6 (some .int) :: tG) B.pre w (List.mem_cons_of_mem _ hw)
  have hown : s.vm.findClass rn_R = some m.cls := findClass_of_methodNamed B.named
  have hlocks := B.notSynchronized
  have hS : va_S (xA a) s.heap s.heap [] := va_S.rf
  have hD : va_D (xA a) (xw cI a w h Q ff hd bl rs hs ts rc hc tc) := x_D ha _ rfl
  have hP : va_P D vwCl (xw cI a w h Q ff hd bl rs hs ts rc hc tc) s.heap := hP
  have hl := lv_entry ([.ref (a 0), .int (x), .int (y)]) (n := 6) (Nat.le_of_ble_eq_true rfl)
  rw [lg_entry_eq]
  generalize (lg_sl ([.ref (a 0), .int (x), .int (y)]) ++ List.replicate (6 - (lg_sl ([.ref (a 0), .int (x), .int (y)])).length) Slot.unset).toArray = ls at hl ⊢
  have hl : lv_has ls 6 [(0, .ref (a 0)), (1, .int (x)), (2, .int (y))] := hl
  obtain ⟨hn1, hn⟩ := hG.n
  have hw0 : 0 < w := by have := hG.1.1; omega
  have hQ := hG.2.2
  refine lv_aload_n hx hb d_R_next_0 rfl (lv_at hl 0 rfl) ?_
  refine va_get (D := D) (ci := 3) (v := .ref (a 1)) (C := rn_R) (T := tf_R) (N := 2) hx hb hts in_R hown hK hP 0 rfl rfl 0 (by decide) (hts _ k_fieldLink_rn_R_18_rn_R_rails_LRouteTracks_Rails) (fun _ h9 => h9) rfl d_R_next_1 ?_
  refine lv_iload_n hx hb d_R_next_4 rfl (lv_at hl 1 rfl) ?_
  refine w_ci (As := [.int (x)]) (rest := []) ⟨hx, hb, hml, hown, hts⟩ (c_A_isOpen l D cI cZ g a ha w h Q ff hd bl rs hs ts rc hc tc x hG) (cwV 1 hts (t_gV k_methodLink_rn_R_88_y_A_isOpen k_instanceMethod_y_A_isOpen k_selects_rn_A_y_A_isOpen_y_A_isOpen k_initialized_rn_A k_code_y_A_isOpen_prog_3_method_11_code_2_some_boolean) rfl rfl rfl (by decide +kernel) ⟨Nat.le_of_ble_eq_true rfl, Nat.le_of_ble_eq_true rfl⟩) (va_recv hK hP (ci := 1) (q0 := 1) rfl rfl) hP hK hZ hS rfl hl.1 rfl (Nat.le_of_ble_eq_true rfl) d_R_next_5 ⟨Nat.zero_le _, Nat.zero_le _⟩ (fun r_5 u_5 H locs hw hP hS => ?_)
  subst hw
  have hP : va_P D vwCl (xw cI a w h Q ff hd bl rs hs ts rc hc tc) H := hP
  refine rw_bne (tgt := 13) hx hb d_R_next_8 (by decide) (fun c_8 => ?_) (fun c_8 => ?_)
  · obtain ⟨rr, hrr, rfl, horr⟩ := rt_opx_is (by omega) c_8
    refine lv_iconst (v := (nI (0))) hx hb d_R_next_13 (by decide) ?_
    refine lv_istore_n (lv' := [(3, .int (nI (0))), (0, .ref (a 0)), (1, .int (nI (rr))), (2, .int (y))]) hx hb d_R_next_14 rfl hl (by decide) rfl (fun ls hl => ?_)
    refine lv_iconst (v := (nI (0))) hx hb d_R_next_15 (by decide) ?_
    refine lv_istore (lv' := [(4, .int (nI (0))), (3, .int (nI (0))), (0, .ref (a 0)), (1, .int (nI (rr))), (2, .int (y))]) hx hb d_R_next_16 hl (by decide) rfl (fun ls hl => ?_)
    have LP_18 : ∀ (n_18 : Nat) (i : Nat), i + n_18 = 3 → (∀ j, j < (rt_px Q w h rr i).length → nI j ≠ y) → ∀ (H : Heap) (locs : List Loc) (ls : Array Slot), va_P D vwCl (xw cI a w h Q ff hd bl rs hs ts rc hc tc) H → va_S (xA a) s.heap H locs → lv_has ls 6 [(0, .ref (a 0)), (1, .int (nI (rr))), (2, .int (y)), (3, .int (nI ((rt_px Q w h rr i).length))), (4, .int (nI (i)))] → W p l e (headSpec (.code y_R_next b_R_next 6 (some .int) :: tG) ({ frames := 3, cells := 0, slots := 0, locals := 64 })).room s m ([.ref (a 0), .int ((nI rr)), .int (y)] : List Value).toArray below meth c H locs 0 0 (MQ below (va_Qi (S := Unit) (fun r _ => r = rt_next Q w h (nI rr) y) (wB D (fun (u : Unit) => (xw cI a w h Q ff hd bl rs hs ts rc hc tc))) (xA a)) ([.ref (a 0), .int ((nI rr)), .int (y)] : List Value).toArray s 0 0 (xA a)) (F0 m 18 ls []) := by
      intro n_18
      induction n_18 with
      | zero =>
        intro i hrel_18 hI H locs ls hP hS hl
        have hD : va_D (xA a) (xw cI a w h Q ff hd bl rs hs ts rc hc tc) := x_D ha _ rfl
        refine lv_iload hx hb d_R_next_18 (lv_at hl 4 rfl) ?_
        refine lv_iconst (v := (nI (3))) hx hb d_R_next_20 (by decide) ?_
        refine rw_cge (tgt := 65) hx hb d_R_next_21 (by decide) (by omega) (by omega) (fun c_21 => ?_) (fun c_21 => ?_)
        · refine lv_iconst (v := (-1)) hx hb d_R_next_65 (by decide) ?_
          exact w_iret () hx hb hr hlocks hS hP (by rw [rt_next_s (by omega) horr, rt_kth_none (by have := rt_px_len Q w h rr 3; show (rt_px Q w h rr 3).length < _; omega) (by rw [show i = 3 by omega] at hI; exact hI)]; rfl) d_R_next_66
        · omega
      | succ n_18 ih_18 =>
        intro i hrel_18 hI H locs ls hP hS hl
        have hD : va_D (xA a) (xw cI a w h Q ff hd bl rs hs ts rc hc tc) := x_D ha _ rfl
        refine lv_iload hx hb d_R_next_18 (lv_at hl 4 rfl) ?_
        refine lv_iconst (v := (nI (3))) hx hb d_R_next_20 (by decide) ?_
        refine rw_cge (tgt := 65) hx hb d_R_next_21 (by decide) (by omega) (by omega) (fun c_21 => ?_) (fun c_21 => ?_)
        · omega
        · refine lv_aload_n hx hb d_R_next_24 rfl (lv_at hl 0 rfl) ?_
          refine va_get (D := D) (ci := 3) (v := .ref (a 1)) (C := rn_R) (T := tf_R) (N := 2) hx hb hts in_R hown hK hP 0 rfl rfl 0 (by decide) (hts _ k_fieldLink_rn_R_18_rn_R_rails_LRouteTracks_Rails) (fun _ h9 => h9) rfl d_R_next_25 ?_
          refine lv_iload_n hx hb d_R_next_28 rfl (lv_at hl 1 rfl) ?_
          refine lv_iload hx hb d_R_next_29 (lv_at hl 4 rfl) ?_
          refine w_ci (As := [.int (nI (rr)), .int (nI (i))]) (rest := []) ⟨hx, hb, hml, hown, hts⟩ (c_A_ahead l D cI cZ g a ha w h Q ff hd bl rs hs ts rc hc tc rr i hG hrr (by omega)) (cwV 2 hts (t_gV k_methodLink_rn_R_91_y_A_ahead k_instanceMethod_y_A_ahead k_selects_rn_A_y_A_ahead_y_A_ahead k_initialized_rn_A k_code_y_A_ahead_prog_3_method_14_code_5_some_int) rfl rfl rfl (by decide +kernel) ⟨Nat.le_of_ble_eq_true rfl, Nat.le_of_ble_eq_true rfl⟩) (va_recv hK hP (ci := 1) (q0 := 1) rfl rfl) hP hK hZ hS rfl hl.1 rfl (Nat.le_of_ble_eq_true rfl) d_R_next_31 ⟨Nat.zero_le _, Nat.zero_le _⟩ (fun r_31 u_31 H locs hw hP hS => ?_)
          subst hw
          have hP : va_P D vwCl (xw cI a w h Q ff hd bl rs hs ts rc hc tc) H := hP
          cases ho_34 : rt_ah w h rr i with
          | none =>
            refine lv_istore (lv' := [(5, .int (-1)), (0, .ref (a 0)), (1, .int (nI (rr))), (2, .int (y)), (3, .int (nI ((rt_px Q w h rr i).length))), (4, .int (nI (i)))]) hx hb d_R_next_34 hl (by decide) rfl (fun ls hl => ?_)
            refine lv_aload_n hx hb d_R_next_36 rfl (lv_at hl 1 rfl) ?_
            refine va_get (D := D) (ci := 3) (v := .ref (a 1)) (C := rn_R) (T := tf_R) (N := 2) hx hb hts in_R hown hK hP 0 rfl rfl 0 (by decide) (hts _ k_fieldLink_rn_R_18_rn_R_rails_LRouteTracks_Rails) (fun _ h9 => h9) rfl d_R_next_37 ?_
            refine lv_iload hx hb d_R_next_40 (lv_at hl 0 rfl) ?_
            refine w_ci (As := [.int (-1)]) (rest := []) ⟨hx, hb, hml, hown, hts⟩ (c_A_isOpen l D cI cZ g a ha w h Q ff hd bl rs hs ts rc hc tc (-1) hG) (cwV 1 hts (t_gV k_methodLink_rn_R_88_y_A_isOpen k_instanceMethod_y_A_isOpen k_selects_rn_A_y_A_isOpen_y_A_isOpen k_initialized_rn_A k_code_y_A_isOpen_prog_3_method_11_code_2_some_boolean) rfl rfl rfl (by decide +kernel) ⟨Nat.le_of_ble_eq_true rfl, Nat.le_of_ble_eq_true rfl⟩) (va_recv hK hP (ci := 1) (q0 := 1) rfl rfl) hP hK hZ hS rfl hl.1 rfl (Nat.le_of_ble_eq_true rfl) d_R_next_42 ⟨Nat.zero_le _, Nat.zero_le _⟩ (fun r_42 u_42 H locs hw hP hS => ?_)
            subst hw
            have hP : va_P D vwCl (xw cI a w h Q ff hd bl rs hs ts rc hc tc) H := hP
            rw [rt_opx_n (Or.inl (by decide))]
            refine rw_beq (tgt := 59) hx hb d_R_next_45 (by decide) (fun c_45 => ?_) (fun c_45 => ?_)
            · refine lv_iinc (v := (nI (i + 1))) (lv' := [(4, .int (nI (i + 1))), (5, .int (-1)), (0, .ref (a 0)), (1, .int (nI (rr))), (2, .int (y)), (3, .int (nI ((rt_px Q w h rr i).length)))]) hx hb d_R_next_59 hl (k := 5) rfl (nI_add _ _) (by decide) rfl (fun ls hl => ?_)
              refine lv_goto (tgt := 18) hx hb d_R_next_62 (by decide) ?_
              have e9 := rt_pxb_n (K := fun _ => none) (Q := Q) (w := w) (h := h) (r := rr) (i := i) (by rw [ho_34]; rfl)
              have hl : lv_has ls 6 [(4, .int (nI (i + 1))), (5, .int (-1)), (0, .ref (a 0)), (1, .int (nI (rr))), (2, .int (y)), (3, .int (nI ((rt_px Q w h rr (i + 1)).length)))] := by rw [e9]; exact hl
              exact ih_18 (i + 1) (by omega) (by rw [e9]; exact hI) _ _ _ hP hS (lv_sub hl [2, 3, 4, 5, 0] rfl)
            · cases c_45
          | some b =>
            have hb9 : b < 12 * (w * h) := (rt_ah_back hw0 hrr (by omega) ho_34).1
            refine lv_istore (lv' := [(5, .int (nI (b))), (0, .ref (a 0)), (1, .int (nI (rr))), (2, .int (y)), (3, .int (nI ((rt_px Q w h rr i).length))), (4, .int (nI (i)))]) hx hb d_R_next_34 hl (by decide) rfl (fun ls hl => ?_)
            refine lv_aload_n hx hb d_R_next_36 rfl (lv_at hl 1 rfl) ?_
            refine va_get (D := D) (ci := 3) (v := .ref (a 1)) (C := rn_R) (T := tf_R) (N := 2) hx hb hts in_R hown hK hP 0 rfl rfl 0 (by decide) (hts _ k_fieldLink_rn_R_18_rn_R_rails_LRouteTracks_Rails) (fun _ h9 => h9) rfl d_R_next_37 ?_
            refine lv_iload hx hb d_R_next_40 (lv_at hl 0 rfl) ?_
            refine w_ci (As := [.int (nI (b))]) (rest := []) ⟨hx, hb, hml, hown, hts⟩ (c_A_isOpen l D cI cZ g a ha w h Q ff hd bl rs hs ts rc hc tc (nI (b)) hG) (cwV 1 hts (t_gV k_methodLink_rn_R_88_y_A_isOpen k_instanceMethod_y_A_isOpen k_selects_rn_A_y_A_isOpen_y_A_isOpen k_initialized_rn_A k_code_y_A_isOpen_prog_3_method_11_code_2_some_boolean) rfl rfl rfl (by decide +kernel) ⟨Nat.le_of_ble_eq_true rfl, Nat.le_of_ble_eq_true rfl⟩) (va_recv hK hP (ci := 1) (q0 := 1) rfl rfl) hP hK hZ hS rfl hl.1 rfl (Nat.le_of_ble_eq_true rfl) d_R_next_42 ⟨Nat.zero_le _, Nat.zero_le _⟩ (fun r_42 u_42 H locs hw hP hS => ?_)
            subst hw
            have hP : va_P D vwCl (xw cI a w h Q ff hd bl rs hs ts rc hc tc) H := hP
            rw [rt_opx_s (by omega) hb9]
            refine rw_beq (tgt := 59) hx hb d_R_next_45 (by decide) (fun c_45 => ?_) (fun c_45 => ?_)
            · refine lv_iinc (v := (nI (i + 1))) (lv' := [(4, .int (nI (i + 1))), (5, .int (nI (b))), (0, .ref (a 0)), (1, .int (nI (rr))), (2, .int (y)), (3, .int (nI ((rt_px Q w h rr i).length)))]) hx hb d_R_next_59 hl (k := 5) rfl (nI_add _ _) (by decide) rfl (fun ls hl => ?_)
              refine lv_goto (tgt := 18) hx hb d_R_next_62 (by decide) ?_
              have e9 := rt_pxb_n (K := fun _ => none) (Q := Q) (w := w) (h := h) (r := rr) (i := i) (by rw [ho_34]; exact rt_one_f c_45)
              have hl : lv_has ls 6 [(4, .int (nI (i + 1))), (5, .int (nI (b))), (0, .ref (a 0)), (1, .int (nI (rr))), (2, .int (y)), (3, .int (nI ((rt_px Q w h rr (i + 1)).length)))] := by rw [e9]; exact hl
              exact ih_18 (i + 1) (by omega) (by rw [e9]; exact hI) _ _ _ hP hS (lv_sub hl [2, 3, 4, 5, 0] rfl)
            · refine lv_iload_n hx hb d_R_next_48 rfl (lv_at hl 4 rfl) ?_
              refine lv_iload_n hx hb d_R_next_49 rfl (lv_at hl 3 rfl) ?_
              refine lv_icmp_ne (tgt := 56) hx hb d_R_next_50 (by decide) (fun c_50 => ?_) (fun c_50 => ?_)
              · refine lv_iinc (v := (nI (((rt_px Q w h rr i).length) + 1))) (lv' := [(3, .int (nI (((rt_px Q w h rr i).length) + 1))), (5, .int (nI (b))), (0, .ref (a 0)), (1, .int (nI (rr))), (2, .int (y)), (4, .int (nI (i)))]) hx hb d_R_next_56 hl (k := 4) rfl (nI_add _ _) (by decide) rfl (fun ls hl => ?_)
                refine lv_iinc (v := (nI (i + 1))) (lv' := [(4, .int (nI (i + 1))), (3, .int (nI (((rt_px Q w h rr i).length) + 1))), (5, .int (nI (b))), (0, .ref (a 0)), (1, .int (nI (rr))), (2, .int (y))]) hx hb d_R_next_59 hl (k := 5) rfl (nI_add _ _) (by decide) rfl (fun ls hl => ?_)
                refine lv_goto (tgt := 18) hx hb d_R_next_62 (by decide) ?_
                have e9 : (rt_px Q w h rr (i + 1)).length = (rt_px Q w h rr i).length + 1 := by rw [rt_px_succ, ho_34, rt_one_t c_45]; simp
                have hl : lv_has ls 6 [(4, .int (nI (i + 1))), (3, .int (nI ((rt_px Q w h rr (i + 1)).length))), (5, .int (nI (b))), (0, .ref (a 0)), (1, .int (nI (rr))), (2, .int (y))] := by rw [e9]; exact hl
                exact ih_18 (i + 1) (by omega) (by rw [e9]; intro j hj; rcases Nat.lt_or_ge j (rt_px Q w h rr i).length with z | z; exact hI j z; rw [show j = (rt_px Q w h rr i).length by omega]; exact c_50) _ _ _ hP hS (lv_sub hl [3, 4, 5, 1, 0] rfl)
              · refine lv_iload hx hb d_R_next_53 (lv_at hl 0 rfl) ?_
                exact w_iret () hx hb hr hlocks hS hP (by rw [rt_next_s (by omega) horr]; obtain ⟨l2, e2⟩ := rt_px_pre (Q := Q) (r := rr) (i := i) (by omega) ho_34 c_45; rw [e2, rt_kth_hit c_50 (by have := rt_px_len Q w h rr i; omega)]; rfl) d_R_next_55
    exact LP_18 3 0 (by omega) (fun j hj => by cases hj) _ _ _ hP hS (lv_sub hl [2, 3, 4, 1, 0] rfl)
  · refine lv_iconst (v := (-1)) hx hb d_R_next_11 (by decide) ?_
    exact w_iret () hx hb hr hlocks hS hP ((rt_next_n c_8).symm) d_R_next_12

set_option maxHeartbeats 4000000 in
set_option maxRecDepth 100000 in
theorem c_R_before (l : Launch) (D : va_G) (cI cZ : ClassId) (g a : Nat → Nat) (ha : xI a) (w h : Nat) (Q : Nat → Nat) (ff : Nat → Int32) (hd bl : Int32) (rs : Nat → Int32) (hs ts : Int32) (rc : Nat → Int32) (hc tc : Int32) (x : Int32) (hG : rt_G w h Q) : Met l y_R_before (.code y_R_before b_R_before 4 (some .int) :: tG) ({ frames := 3, cells := 0, slots := 0, locals := 64 }) (va_Pc [.ref (a 0), .int (x)] (wU D cI cZ g (xA a) (xw cI a w h Q ff hd bl rs hs ts rc hc tc))) (va_Qi (S := Unit) (fun r _ => r = rt_before Q w h x) (wB D (fun (u : Unit) => (xw cI a w h Q ff hd bl rs hs ts rc hc tc))) (xA a)) 0 0 (xA a) := by
  refine Met.ofW (cc := b_R_before) (maxL := 4) (ret := (some .int)) (by decide) rfl ?_
  intro p e s m args below meth c s₁ B hml hv
  obtain ⟨rfl, hP, hK, hZ⟩ := hv
  have hx := B.exec
  have hb := B.bytes
  have hr := B.returns
  have hts : ∀ w ∈ tG, w.before _ s = true := fun w hw => atoms_spec (ws := .code y_R_before b_R_before 4 (some .int) :: tG) B.pre w (List.mem_cons_of_mem _ hw)
  have hown : s.vm.findClass rn_R = some m.cls := findClass_of_methodNamed B.named
  have hlocks := B.notSynchronized
  have hS : va_S (xA a) s.heap s.heap [] := va_S.rf
  have hD : va_D (xA a) (xw cI a w h Q ff hd bl rs hs ts rc hc tc) := x_D ha _ rfl
  have hP : va_P D vwCl (xw cI a w h Q ff hd bl rs hs ts rc hc tc) s.heap := hP
  have hl := lv_entry ([.ref (a 0), .int (x)]) (n := 4) (Nat.le_of_ble_eq_true rfl)
  rw [lg_entry_eq]
  generalize (lg_sl ([.ref (a 0), .int (x)]) ++ List.replicate (4 - (lg_sl ([.ref (a 0), .int (x)])).length) Slot.unset).toArray = ls at hl ⊢
  have hl : lv_has ls 4 [(0, .ref (a 0)), (1, .int (x))] := hl
  obtain ⟨hn1, hn⟩ := hG.n
  have hw0 : 0 < w := by have := hG.1.1; omega
  have hQ := hG.2.2
  refine lv_aload_n hx hb d_R_before_0 rfl (lv_at hl 0 rfl) ?_
  refine va_get (D := D) (ci := 3) (v := .ref (a 1)) (C := rn_R) (T := tf_R) (N := 2) hx hb hts in_R hown hK hP 0 rfl rfl 0 (by decide) (hts _ k_fieldLink_rn_R_18_rn_R_rails_LRouteTracks_Rails) (fun _ h9 => h9) rfl d_R_before_1 ?_
  refine lv_iload_n hx hb d_R_before_4 rfl (lv_at hl 1 rfl) ?_
  refine w_ci (As := [.int (x)]) (rest := []) ⟨hx, hb, hml, hown, hts⟩ (c_A_isOpen l D cI cZ g a ha w h Q ff hd bl rs hs ts rc hc tc x hG) (cwV 1 hts (t_gV k_methodLink_rn_R_88_y_A_isOpen k_instanceMethod_y_A_isOpen k_selects_rn_A_y_A_isOpen_y_A_isOpen k_initialized_rn_A k_code_y_A_isOpen_prog_3_method_11_code_2_some_boolean) rfl rfl rfl (by decide +kernel) ⟨Nat.le_of_ble_eq_true rfl, Nat.le_of_ble_eq_true rfl⟩) (va_recv hK hP (ci := 1) (q0 := 1) rfl rfl) hP hK hZ hS rfl hl.1 rfl (Nat.le_of_ble_eq_true rfl) d_R_before_5 ⟨Nat.zero_le _, Nat.zero_le _⟩ (fun r_5 u_5 H locs hw hP hS => ?_)
  subst hw
  have hP : va_P D vwCl (xw cI a w h Q ff hd bl rs hs ts rc hc tc) H := hP
  refine rw_bne (tgt := 13) hx hb d_R_before_8 (by decide) (fun c_8 => ?_) (fun c_8 => ?_)
  · obtain ⟨rr, hrr, rfl, horr⟩ := rt_opx_is (by omega) c_8
    refine lv_iconst (v := (nI (0))) hx hb d_R_before_13 (by decide) ?_
    refine lv_istore_n (lv' := [(2, .int (nI (0))), (0, .ref (a 0)), (1, .int (nI (rr)))]) hx hb d_R_before_14 rfl hl (by decide) rfl (fun ls hl => ?_)
    have LP_15 : ∀ (n_15 : Nat) (i : Nat), i + n_15 = 3 → (rt_pb Q w h rr i = []) → ∀ (H : Heap) (locs : List Loc) (ls : Array Slot), va_P D vwCl (xw cI a w h Q ff hd bl rs hs ts rc hc tc) H → va_S (xA a) s.heap H locs → lv_has ls 4 [(0, .ref (a 0)), (1, .int (nI (rr))), (2, .int (nI (i)))] → W p l e (headSpec (.code y_R_before b_R_before 4 (some .int) :: tG) ({ frames := 3, cells := 0, slots := 0, locals := 64 })).room s m ([.ref (a 0), .int ((nI rr))] : List Value).toArray below meth c H locs 0 0 (MQ below (va_Qi (S := Unit) (fun r _ => r = rt_before Q w h (nI rr)) (wB D (fun (u : Unit) => (xw cI a w h Q ff hd bl rs hs ts rc hc tc))) (xA a)) ([.ref (a 0), .int ((nI rr))] : List Value).toArray s 0 0 (xA a)) (F0 m 15 ls []) := by
      intro n_15
      induction n_15 with
      | zero =>
        intro i hrel_15 hI H locs ls hP hS hl
        have hD : va_D (xA a) (xw cI a w h Q ff hd bl rs hs ts rc hc tc) := x_D ha _ rfl
        refine lv_iload_n hx hb d_R_before_15 rfl (lv_at hl 2 rfl) ?_
        refine lv_iconst (v := (nI (3))) hx hb d_R_before_16 (by decide) ?_
        refine rw_cge (tgt := 49) hx hb d_R_before_17 (by decide) (by omega) (by omega) (fun c_17 => ?_) (fun c_17 => ?_)
        · refine lv_iconst (v := (-1)) hx hb d_R_before_49 (by decide) ?_
          exact w_iret () hx hb hr hlocks hS hP (by rw [rt_before_s (by omega) horr]; rw [show i = 3 by omega] at hI; unfold rt_bf; rw [hI]; rfl) d_R_before_50
        · omega
      | succ n_15 ih_15 =>
        intro i hrel_15 hI H locs ls hP hS hl
        have hD : va_D (xA a) (xw cI a w h Q ff hd bl rs hs ts rc hc tc) := x_D ha _ rfl
        refine lv_iload_n hx hb d_R_before_15 rfl (lv_at hl 2 rfl) ?_
        refine lv_iconst (v := (nI (3))) hx hb d_R_before_16 (by decide) ?_
        refine rw_cge (tgt := 49) hx hb d_R_before_17 (by decide) (by omega) (by omega) (fun c_17 => ?_) (fun c_17 => ?_)
        · omega
        · refine lv_aload_n hx hb d_R_before_20 rfl (lv_at hl 0 rfl) ?_
          refine va_get (D := D) (ci := 3) (v := .ref (a 1)) (C := rn_R) (T := tf_R) (N := 2) hx hb hts in_R hown hK hP 0 rfl rfl 0 (by decide) (hts _ k_fieldLink_rn_R_18_rn_R_rails_LRouteTracks_Rails) (fun _ h9 => h9) rfl d_R_before_21 ?_
          refine lv_iload_n hx hb d_R_before_24 rfl (lv_at hl 1 rfl) ?_
          refine lv_iload_n hx hb d_R_before_25 rfl (lv_at hl 2 rfl) ?_
          refine w_ci (As := [.int (nI (rr)), .int (nI (i))]) (rest := []) ⟨hx, hb, hml, hown, hts⟩ (c_A_behind l D cI cZ g a ha w h Q ff hd bl rs hs ts rc hc tc rr i hG hrr (by omega)) (cwV 2 hts (t_gV k_methodLink_rn_R_95_y_A_behind k_instanceMethod_y_A_behind k_selects_rn_A_y_A_behind_y_A_behind k_initialized_rn_A k_code_y_A_behind_prog_3_method_15_code_4_some_int) rfl rfl rfl (by decide +kernel) ⟨Nat.le_of_ble_eq_true rfl, Nat.le_of_ble_eq_true rfl⟩) (va_recv hK hP (ci := 1) (q0 := 1) rfl rfl) hP hK hZ hS rfl hl.1 rfl (Nat.le_of_ble_eq_true rfl) d_R_before_26 ⟨Nat.zero_le _, Nat.zero_le _⟩ (fun r_26 u_26 H locs hw hP hS => ?_)
          subst hw
          have hP : va_P D vwCl (xw cI a w h Q ff hd bl rs hs ts rc hc tc) H := hP
          cases ho_29 : rt_bh w h rr i with
          | none =>
            refine lv_istore_n (lv' := [(3, .int (-1)), (0, .ref (a 0)), (1, .int (nI (rr))), (2, .int (nI (i)))]) hx hb d_R_before_29 rfl hl (by decide) rfl (fun ls hl => ?_)
            refine lv_aload_n hx hb d_R_before_30 rfl (lv_at hl 1 rfl) ?_
            refine va_get (D := D) (ci := 3) (v := .ref (a 1)) (C := rn_R) (T := tf_R) (N := 2) hx hb hts in_R hown hK hP 0 rfl rfl 0 (by decide) (hts _ k_fieldLink_rn_R_18_rn_R_rails_LRouteTracks_Rails) (fun _ h9 => h9) rfl d_R_before_31 ?_
            refine lv_iload_n hx hb d_R_before_34 rfl (lv_at hl 0 rfl) ?_
            refine w_ci (As := [.int (-1)]) (rest := []) ⟨hx, hb, hml, hown, hts⟩ (c_A_isOpen l D cI cZ g a ha w h Q ff hd bl rs hs ts rc hc tc (-1) hG) (cwV 1 hts (t_gV k_methodLink_rn_R_88_y_A_isOpen k_instanceMethod_y_A_isOpen k_selects_rn_A_y_A_isOpen_y_A_isOpen k_initialized_rn_A k_code_y_A_isOpen_prog_3_method_11_code_2_some_boolean) rfl rfl rfl (by decide +kernel) ⟨Nat.le_of_ble_eq_true rfl, Nat.le_of_ble_eq_true rfl⟩) (va_recv hK hP (ci := 1) (q0 := 1) rfl rfl) hP hK hZ hS rfl hl.1 rfl (Nat.le_of_ble_eq_true rfl) d_R_before_35 ⟨Nat.zero_le _, Nat.zero_le _⟩ (fun r_35 u_35 H locs hw hP hS => ?_)
            subst hw
            have hP : va_P D vwCl (xw cI a w h Q ff hd bl rs hs ts rc hc tc) H := hP
            rw [rt_opx_n (Or.inl (by decide))]
            refine rw_beq (tgt := 43) hx hb d_R_before_38 (by decide) (fun c_38 => ?_) (fun c_38 => ?_)
            · refine lv_iinc (v := (nI (i + 1))) (lv' := [(2, .int (nI (i + 1))), (3, .int (-1)), (0, .ref (a 0)), (1, .int (nI (rr)))]) hx hb d_R_before_43 hl (k := 3) rfl (nI_add _ _) (by decide) rfl (fun ls hl => ?_)
              refine lv_goto (tgt := 15) hx hb d_R_before_46 (by decide) ?_
              exact ih_15 (i + 1) (by omega) (by rw [rt_pb_succ, hI, ho_29]; rfl) _ _ _ hP hS (lv_sub hl [2, 3, 0] rfl)
            · cases c_38
          | some b =>
            have hb9 : b < 12 * (w * h) := rt_bh_lt hw0 hrr (by omega) ho_29
            refine lv_istore_n (lv' := [(3, .int (nI (b))), (0, .ref (a 0)), (1, .int (nI (rr))), (2, .int (nI (i)))]) hx hb d_R_before_29 rfl hl (by decide) rfl (fun ls hl => ?_)
            refine lv_aload_n hx hb d_R_before_30 rfl (lv_at hl 1 rfl) ?_
            refine va_get (D := D) (ci := 3) (v := .ref (a 1)) (C := rn_R) (T := tf_R) (N := 2) hx hb hts in_R hown hK hP 0 rfl rfl 0 (by decide) (hts _ k_fieldLink_rn_R_18_rn_R_rails_LRouteTracks_Rails) (fun _ h9 => h9) rfl d_R_before_31 ?_
            refine lv_iload_n hx hb d_R_before_34 rfl (lv_at hl 0 rfl) ?_
            refine w_ci (As := [.int (nI (b))]) (rest := []) ⟨hx, hb, hml, hown, hts⟩ (c_A_isOpen l D cI cZ g a ha w h Q ff hd bl rs hs ts rc hc tc (nI (b)) hG) (cwV 1 hts (t_gV k_methodLink_rn_R_88_y_A_isOpen k_instanceMethod_y_A_isOpen k_selects_rn_A_y_A_isOpen_y_A_isOpen k_initialized_rn_A k_code_y_A_isOpen_prog_3_method_11_code_2_some_boolean) rfl rfl rfl (by decide +kernel) ⟨Nat.le_of_ble_eq_true rfl, Nat.le_of_ble_eq_true rfl⟩) (va_recv hK hP (ci := 1) (q0 := 1) rfl rfl) hP hK hZ hS rfl hl.1 rfl (Nat.le_of_ble_eq_true rfl) d_R_before_35 ⟨Nat.zero_le _, Nat.zero_le _⟩ (fun r_35 u_35 H locs hw hP hS => ?_)
            subst hw
            have hP : va_P D vwCl (xw cI a w h Q ff hd bl rs hs ts rc hc tc) H := hP
            rw [rt_opx_s (by omega) hb9]
            refine rw_beq (tgt := 43) hx hb d_R_before_38 (by decide) (fun c_38 => ?_) (fun c_38 => ?_)
            · refine lv_iinc (v := (nI (i + 1))) (lv' := [(2, .int (nI (i + 1))), (3, .int (nI (b))), (0, .ref (a 0)), (1, .int (nI (rr)))]) hx hb d_R_before_43 hl (k := 3) rfl (nI_add _ _) (by decide) rfl (fun ls hl => ?_)
              refine lv_goto (tgt := 15) hx hb d_R_before_46 (by decide) ?_
              exact ih_15 (i + 1) (by omega) (by rw [rt_pb_succ, hI, ho_29]; exact rt_one_f c_38) _ _ _ hP hS (lv_sub hl [2, 3, 0] rfl)
            · refine lv_iload_n hx hb d_R_before_41 rfl (lv_at hl 0 rfl) ?_
              exact w_iret () hx hb hr hlocks hS hP (by rw [rt_before_s (by omega) horr, rt_pb_pre (by omega) hI ho_29 c_38]; rfl) d_R_before_42
    exact LP_15 3 0 (by omega) rfl _ _ _ hP hS (lv_sub hl [1, 2, 0] rfl)
  · refine lv_iconst (v := (-1)) hx hb d_R_before_11 (by decide) ?_
    exact w_iret () hx hb hr hlocks hS hP ((rt_before_n c_8).symm) d_R_before_12

set_option maxHeartbeats 4000000 in
set_option maxRecDepth 100000 in
theorem c_R_sign (l : Launch) (D : va_G) (cI cZ : ClassId) (g a : Nat → Nat) (ha : xI a) (w h : Nat) (Q : Nat → Nat) (ff : Nat → Int32) (hd bl : Int32) (rs : Nat → Int32) (hs ts : Int32) (rc : Nat → Int32) (hc tc : Int32) (x : Int32) (hG : rt_G w h Q) : Met l y_R_sign (.code y_R_sign b_R_sign 3 (some .int) :: tG) ({ frames := 1, cells := 0, slots := 0, locals := 21 }) (va_Pc [.ref (a 0), .int (x)] (wU D cI cZ g (xA a) (xw cI a w h Q ff hd bl rs hs ts rc hc tc))) (va_Qi (S := Unit) (fun r _ => r = rt_sign Q (w * h) x) (wB D (fun (u : Unit) => (xw cI a w h Q ff hd bl rs hs ts rc hc tc))) (xA a)) 0 0 (xA a) := by
  refine Met.ofW (cc := b_R_sign) (maxL := 3) (ret := (some .int)) (by decide) rfl ?_
  intro p e s m args below meth c s₁ B hml hv
  obtain ⟨rfl, hP, hK, hZ⟩ := hv
  have hx := B.exec
  have hb := B.bytes
  have hr := B.returns
  have hts : ∀ w ∈ tG, w.before _ s = true := fun w hw => atoms_spec (ws := .code y_R_sign b_R_sign 3 (some .int) :: tG) B.pre w (List.mem_cons_of_mem _ hw)
  have hown : s.vm.findClass rn_R = some m.cls := findClass_of_methodNamed B.named
  have hlocks := B.notSynchronized
  have hS : va_S (xA a) s.heap s.heap [] := va_S.rf
  have hD : va_D (xA a) (xw cI a w h Q ff hd bl rs hs ts rc hc tc) := x_D ha _ rfl
  have hP : va_P D vwCl (xw cI a w h Q ff hd bl rs hs ts rc hc tc) s.heap := hP
  have hl := lv_entry ([.ref (a 0), .int (x)]) (n := 3) (Nat.le_of_ble_eq_true rfl)
  rw [lg_entry_eq]
  generalize (lg_sl ([.ref (a 0), .int (x)]) ++ List.replicate (3 - (lg_sl ([.ref (a 0), .int (x)])).length) Slot.unset).toArray = ls at hl ⊢
  have hl : lv_has ls 3 [(0, .ref (a 0)), (1, .int (x))] := hl
  obtain ⟨hn1, hn⟩ := hG.n
  have hw0 : 0 < w := by have := hG.1.1; omega
  have hQ := hG.2.2
  refine lv_iload_n hx hb d_R_sign_0 rfl (lv_at hl 1 rfl) ?_
  refine w_si (As := [.int (x)]) (rest := []) ⟨hx, hb, hml, hown, hts⟩ (c_R_isStation l D cI cZ g a ha w h Q ff hd bl rs hs ts rc hc tc x hG) (va_cwS 1 hts (t_gS k_methodLink_rn_R_65_y_R_isStation k_static_y_R_isStation k_initialized_rn_R k_code_y_R_isStation_prog_1_method_17_code_1_some_boolean) rfl rfl rfl (by decide +kernel) ⟨Nat.le_of_ble_eq_true rfl, Nat.le_of_ble_eq_true rfl⟩) hP hK hZ hS rfl hl.1 rfl (Nat.le_of_ble_eq_true rfl) d_R_sign_1 ⟨Nat.zero_le _, Nat.zero_le _⟩ (fun r_1 u_1 H locs hw hP hS => ?_)
  subst hw
  have hP : va_P D vwCl (xw cI a w h Q ff hd bl rs hs ts rc hc tc) H := hP
  refine rw_bne (tgt := 9) hx hb d_R_sign_4 (by decide) (fun c_4 => ?_) (fun c_4 => ?_)
  · obtain ⟨z, hz, rfl⟩ := rt_ix_is (by omega) c_4
    refine lv_iconst (v := (nI (0))) hx hb d_R_sign_9 (by decide) ?_
    refine lv_istore_n (lv' := [(2, .int (nI (0))), (0, .ref (a 0)), (1, .int (nI (z)))]) hx hb d_R_sign_10 rfl hl (by decide) rfl (fun ls hl => ?_)
    have LP_11 : ∀ (n_11 : Nat) (k : Nat), k + n_11 = 6 * (w * h) → (∀ j, j < k → rt_s Q j ≠ z + 1) → ∀ (H : Heap) (locs : List Loc) (ls : Array Slot), va_P D vwCl (xw cI a w h Q ff hd bl rs hs ts rc hc tc) H → va_S (xA a) s.heap H locs → lv_has ls 3 [(0, .ref (a 0)), (1, .int (nI (z))), (2, .int (nI (k)))] → W p l e (headSpec (.code y_R_sign b_R_sign 3 (some .int) :: tG) ({ frames := 1, cells := 0, slots := 0, locals := 21 })).room s m ([.ref (a 0), .int ((nI z))] : List Value).toArray below meth c H locs 0 0 (MQ below (va_Qi (S := Unit) (fun r _ => r = rt_sign Q (w * h) (nI z)) (wB D (fun (u : Unit) => (xw cI a w h Q ff hd bl rs hs ts rc hc tc))) (xA a)) ([.ref (a 0), .int ((nI z))] : List Value).toArray s 0 0 (xA a)) (F0 m 11 ls []) := by
      intro n_11
      induction n_11 with
      | zero =>
        intro k hrel_11 hI H locs ls hP hS hl
        have hD : va_D (xA a) (xw cI a w h Q ff hd bl rs hs ts rc hc tc) := x_D ha _ rfl
        refine lv_iload_n hx hb d_R_sign_11 rfl (lv_at hl 2 rfl) ?_
        refine lv_aload_n hx hb d_R_sign_12 rfl (lv_at hl 0 rfl) ?_
        refine va_get (D := D) (ci := 3) (v := .ref (a 1)) (C := rn_R) (T := tf_R) (N := 2) hx hb hts in_R hown hK hP 0 rfl rfl 0 (by decide) (hts _ k_fieldLink_rn_R_18_rn_R_rails_LRouteTracks_Rails) (fun _ h9 => h9) rfl d_R_sign_13 ?_
        refine va_get (D := D) (ci := 1) (v := .ref (a 3)) (C := rn_A) (T := tf_A) (N := 2) hx hb hts in_A hown hK hP 1 rfl rfl 1 (by decide) (hts _ k_fieldLink_rn_R_84_rn_A_pieces_I) (fun _ h9 => h9) rfl d_R_sign_16 ?_
        refine va_alen (v := nI (6 * (w * h))) hx hb hK hP 3 0 rfl rfl rfl d_R_sign_19 ?_
        refine rw_cge (tgt := 46) hx hb d_R_sign_20 (by decide) (by omega) (by omega) (fun c_20 => ?_) (fun c_20 => ?_)
        · refine lv_iconst (v := (-1)) hx hb d_R_sign_46 (by decide) ?_
          exact w_iret () hx hb hr hlocks hS hP (by rw [rt_sign_s hz, rt_sgn_none (by rw [← show k = 6 * (w * h) by omega]; exact hI)]; rfl) d_R_sign_47
        · omega
      | succ n_11 ih_11 =>
        intro k hrel_11 hI H locs ls hP hS hl
        have hD : va_D (xA a) (xw cI a w h Q ff hd bl rs hs ts rc hc tc) := x_D ha _ rfl
        refine lv_iload_n hx hb d_R_sign_11 rfl (lv_at hl 2 rfl) ?_
        refine lv_aload_n hx hb d_R_sign_12 rfl (lv_at hl 0 rfl) ?_
        refine va_get (D := D) (ci := 3) (v := .ref (a 1)) (C := rn_R) (T := tf_R) (N := 2) hx hb hts in_R hown hK hP 0 rfl rfl 0 (by decide) (hts _ k_fieldLink_rn_R_18_rn_R_rails_LRouteTracks_Rails) (fun _ h9 => h9) rfl d_R_sign_13 ?_
        refine va_get (D := D) (ci := 1) (v := .ref (a 3)) (C := rn_A) (T := tf_A) (N := 2) hx hb hts in_A hown hK hP 1 rfl rfl 1 (by decide) (hts _ k_fieldLink_rn_R_84_rn_A_pieces_I) (fun _ h9 => h9) rfl d_R_sign_16 ?_
        refine va_alen (v := nI (6 * (w * h))) hx hb hK hP 3 0 rfl rfl rfl d_R_sign_19 ?_
        refine rw_cge (tgt := 46) hx hb d_R_sign_20 (by decide) (by omega) (by omega) (fun c_20 => ?_) (fun c_20 => ?_)
        · omega
        · refine lv_aload_n hx hb d_R_sign_23 rfl (lv_at hl 0 rfl) ?_
          refine va_get (D := D) (ci := 3) (v := .ref (a 1)) (C := rn_R) (T := tf_R) (N := 2) hx hb hts in_R hown hK hP 0 rfl rfl 0 (by decide) (hts _ k_fieldLink_rn_R_18_rn_R_rails_LRouteTracks_Rails) (fun _ h9 => h9) rfl d_R_sign_24 ?_
          refine lv_iload_n hx hb d_R_sign_27 rfl (lv_at hl 2 rfl) ?_
          refine w_ci (As := [.int (nI (k))]) (rest := []) ⟨hx, hb, hml, hown, hts⟩ (c_A_stationOf l D cI cZ g a ha w h Q ff hd bl rs hs ts rc hc tc k hG (by omega)) (cwV 1 hts (t_gV k_methodLink_rn_R_62_y_A_stationOf k_instanceMethod_y_A_stationOf k_selects_rn_A_y_A_stationOf_y_A_stationOf k_initialized_rn_A k_code_y_A_stationOf_prog_3_method_7_code_2_some_int) rfl rfl rfl (by decide +kernel) ⟨Nat.le_of_ble_eq_true rfl, Nat.le_of_ble_eq_true rfl⟩) (va_recv hK hP (ci := 1) (q0 := 1) rfl rfl) hP hK hZ hS rfl hl.1 rfl (Nat.le_of_ble_eq_true rfl) d_R_sign_28 ⟨Nat.zero_le _, Nat.zero_le _⟩ (fun r_28 u_28 H locs hw hP hS => ?_)
          subst hw
          have hP : va_P D vwCl (xw cI a w h Q ff hd bl rs hs ts rc hc tc) H := hP
          refine lv_iload_n hx hb d_R_sign_31 rfl (lv_at hl 1 rfl) ?_
          refine lv_icmp_ne (tgt := 40) hx hb d_R_sign_32 (by decide) (fun c_32 => ?_) (fun c_32 => ?_)
          · refine lv_iinc (v := (nI (k + 1))) (lv' := [(2, .int (nI (k + 1))), (0, .ref (a 0)), (1, .int (nI (z)))]) hx hb d_R_sign_40 hl (k := 2) rfl (nI_add _ _) (by decide) rfl (fun ls hl => ?_)
            refine lv_goto (tgt := 11) hx hb d_R_sign_43 (by decide) ?_
            exact ih_11 (k + 1) (by omega) (fun j hj => by rcases Nat.lt_or_ge j k with q | q; exact hI j q; rw [show j = k by omega]; exact fun e9 => c_32 (rt_st_mk e9)) _ _ _ hP hS (lv_sub hl [1, 2, 0] rfl)
          · refine lv_iload_n hx hb d_R_sign_35 rfl (lv_at hl 2 rfl) ?_
            refine lv_bipush (v := (nI (6))) hx hb d_R_sign_36 (by decide) ?_
            refine rw_div hx hb d_R_sign_38 (by omega) (by omega) (by omega) ?_
            exact w_iret () hx hb hr hlocks hS hP (by rw [rt_sign_s hz, rt_sgn_some (by omega) (rt_st_eq (rt_ok_s hQ k) hz c_32) hI]; rfl) d_R_sign_39
    exact LP_11 (6 * (w * h)) 0 (by omega) (fun j hj => absurd hj (Nat.not_lt_zero j)) _ _ _ hP hS (lv_sub hl [1, 2, 0] rfl)
  · refine lv_iconst (v := (-1)) hx hb d_R_sign_7 (by decide) ?_
    exact w_iret () hx hb hr hlocks hS hP ((rt_sign_n (rt_ix_no c_4)).symm) d_R_sign_8

set_option maxHeartbeats 4000000 in
set_option maxRecDepth 100000 in
theorem c_R_isTarget (l : Launch) (D : va_G) (cI cZ : ClassId) (g a : Nat → Nat) (ha : xI a) (w h : Nat) (Q : Nat → Nat) (ff : Nat → Int32) (hd bl : Int32) (rs : Nat → Int32) (hs ts : Int32) (rc : Nat → Int32) (hc tc : Int32) (x y : Int32) (hG : rt_G w h Q) : Met l y_R_isTarget (.code y_R_isTarget b_R_isTarget 3 (some .boolean) :: tG) ({ frames := 4, cells := 0, slots := 0, locals := 88 }) (va_Pc [.ref (a 0), .int (x), .int (y)] (wU D cI cZ g (xA a) (xw cI a w h Q ff hd bl rs hs ts rc hc tc))) (va_Qi (S := Unit) (fun r _ => r = rt_b (rt_isT Q w h x y)) (wB D (fun (u : Unit) => (xw cI a w h Q ff hd bl rs hs ts rc hc tc))) (xA a)) 0 0 (xA a) := by
  refine Met.ofW (cc := b_R_isTarget) (maxL := 3) (ret := (some .boolean)) (by decide) rfl ?_
  intro p e s m args below meth c s₁ B hml hv
  obtain ⟨rfl, hP, hK, hZ⟩ := hv
  have hx := B.exec
  have hb := B.bytes
  have hr := B.returns
  have hts : ∀ w ∈ tG, w.before _ s = true := fun w hw => atoms_spec (ws := .code y_R_isTarget b_R_isTarget 3 (some .boolean) :: tG) B.pre w (List.mem_cons_of_mem _ hw)
  have hown : s.vm.findClass rn_R = some m.cls := findClass_of_methodNamed B.named
  have hlocks := B.notSynchronized
  have hS : va_S (xA a) s.heap s.heap [] := va_S.rf
  have hD : va_D (xA a) (xw cI a w h Q ff hd bl rs hs ts rc hc tc) := x_D ha _ rfl
  have hP : va_P D vwCl (xw cI a w h Q ff hd bl rs hs ts rc hc tc) s.heap := hP
  have hl := lv_entry ([.ref (a 0), .int (x), .int (y)]) (n := 3) (Nat.le_of_ble_eq_true rfl)
  rw [lg_entry_eq]
  generalize (lg_sl ([.ref (a 0), .int (x), .int (y)]) ++ List.replicate (3 - (lg_sl ([.ref (a 0), .int (x), .int (y)])).length) Slot.unset).toArray = ls at hl ⊢
  have hl : lv_has ls 3 [(0, .ref (a 0)), (1, .int (x)), (2, .int (y))] := hl
  obtain ⟨hn1, hn⟩ := hG.n
  have hw0 : 0 < w := by have := hG.1.1; omega
  have hQ := hG.2.2
  refine lv_iload_n hx hb d_R_isTarget_0 rfl (lv_at hl 2 rfl) ?_
  refine w_si (As := [.int (y)]) (rest := []) ⟨hx, hb, hml, hown, hts⟩ (c_R_isStation l D cI cZ g a ha w h Q ff hd bl rs hs ts rc hc tc y hG) (va_cwS 1 hts (t_gS k_methodLink_rn_R_65_y_R_isStation k_static_y_R_isStation k_initialized_rn_R k_code_y_R_isStation_prog_1_method_17_code_1_some_boolean) rfl rfl rfl (by decide +kernel) ⟨Nat.le_of_ble_eq_true rfl, Nat.le_of_ble_eq_true rfl⟩) hP hK hZ hS rfl hl.1 rfl (Nat.le_of_ble_eq_true rfl) d_R_isTarget_1 ⟨Nat.zero_le _, Nat.zero_le _⟩ (fun r_1 u_1 H locs hw hP hS => ?_)
  subst hw
  have hP : va_P D vwCl (xw cI a w h Q ff hd bl rs hs ts rc hc tc) H := hP
  refine rw_beq (tgt := 34) hx hb d_R_isTarget_4 (by decide) (fun c_4 => ?_) (fun c_4 => ?_)
  · refine lv_iconst (v := (nI (0))) hx hb d_R_isTarget_34 (by decide) ?_
    exact w_zret (v := false) () hx hb hr hlocks hS hP (congrArg rt_b (by first | exact (rt_isT_n (Or.inl (rt_ix_no c_4))).symm | exact (rt_isT_n (Or.inr c_15)).symm | (rw [rt_isT_s (by omega) hrr hz, horr, c_27]; rfl))) d_R_isTarget_35
  · obtain ⟨z, hz, rfl⟩ := rt_ix_is (by omega) c_4
    refine lv_aload_n hx hb d_R_isTarget_7 rfl (lv_at hl 0 rfl) ?_
    refine va_get (D := D) (ci := 3) (v := .ref (a 1)) (C := rn_R) (T := tf_R) (N := 2) hx hb hts in_R hown hK hP 0 rfl rfl 0 (by decide) (hts _ k_fieldLink_rn_R_18_rn_R_rails_LRouteTracks_Rails) (fun _ h9 => h9) rfl d_R_isTarget_8 ?_
    refine lv_iload_n hx hb d_R_isTarget_11 rfl (lv_at hl 1 rfl) ?_
    refine w_ci (As := [.int (x)]) (rest := []) ⟨hx, hb, hml, hown, hts⟩ (c_A_isOpen l D cI cZ g a ha w h Q ff hd bl rs hs ts rc hc tc x hG) (cwV 1 hts (t_gV k_methodLink_rn_R_88_y_A_isOpen k_instanceMethod_y_A_isOpen k_selects_rn_A_y_A_isOpen_y_A_isOpen k_initialized_rn_A k_code_y_A_isOpen_prog_3_method_11_code_2_some_boolean) rfl rfl rfl (by decide +kernel) ⟨Nat.le_of_ble_eq_true rfl, Nat.le_of_ble_eq_true rfl⟩) (va_recv hK hP (ci := 1) (q0 := 1) rfl rfl) hP hK hZ hS rfl hl.1 rfl (Nat.le_of_ble_eq_true rfl) d_R_isTarget_12 ⟨Nat.zero_le _, Nat.zero_le _⟩ (fun r_12 u_12 H locs hw hP hS => ?_)
    subst hw
    have hP : va_P D vwCl (xw cI a w h Q ff hd bl rs hs ts rc hc tc) H := hP
    refine rw_beq (tgt := 34) hx hb d_R_isTarget_15 (by decide) (fun c_15 => ?_) (fun c_15 => ?_)
    · refine lv_iconst (v := (nI (0))) hx hb d_R_isTarget_34 (by decide) ?_
      exact w_zret (v := false) () hx hb hr hlocks hS hP (congrArg rt_b (by first | exact (rt_isT_n (Or.inl (rt_ix_no c_4))).symm | exact (rt_isT_n (Or.inr c_15)).symm | (rw [rt_isT_s (by omega) hrr hz, horr, c_27]; rfl))) d_R_isTarget_35
    · obtain ⟨rr, hrr, rfl, horr⟩ := rt_opx_is (by omega) c_15
      refine lv_aload_n hx hb d_R_isTarget_18 rfl (lv_at hl 0 rfl) ?_
      refine va_get (D := D) (ci := 3) (v := .ref (a 1)) (C := rn_R) (T := tf_R) (N := 2) hx hb hts in_R hown hK hP 0 rfl rfl 0 (by decide) (hts _ k_fieldLink_rn_R_18_rn_R_rails_LRouteTracks_Rails) (fun _ h9 => h9) rfl d_R_isTarget_19 ?_
      refine lv_iload_n hx hb d_R_isTarget_22 rfl (lv_at hl 1 rfl) ?_
      refine lv_iload_n hx hb d_R_isTarget_23 rfl (lv_at hl 2 rfl) ?_
      refine w_ci (As := [.int (nI (rr)), .int (nI (z))]) (rest := []) ⟨hx, hb, hml, hown, hts⟩ (c_A_isLastOf l D cI cZ g a ha w h Q ff hd bl rs hs ts rc hc tc rr z hG hrr hz) (cwV 2 hts (t_gV k_methodLink_rn_R_108_y_A_isLastOf k_instanceMethod_y_A_isLastOf k_selects_rn_A_y_A_isLastOf_y_A_isLastOf k_initialized_rn_A k_code_y_A_isLastOf_prog_3_method_16_code_5_some_boolean) rfl rfl rfl (by decide +kernel) ⟨Nat.le_of_ble_eq_true rfl, Nat.le_of_ble_eq_true rfl⟩) (va_recv hK hP (ci := 1) (q0 := 1) rfl rfl) hP hK hZ hS rfl hl.1 rfl (Nat.le_of_ble_eq_true rfl) d_R_isTarget_24 ⟨Nat.zero_le _, Nat.zero_le _⟩ (fun r_24 u_24 H locs hw hP hS => ?_)
      subst hw
      have hP : va_P D vwCl (xw cI a w h Q ff hd bl rs hs ts rc hc tc) H := hP
      refine rw_beq (tgt := 34) hx hb d_R_isTarget_27 (by decide) (fun c_27 => ?_) (fun c_27 => ?_)
      · refine lv_iconst (v := (nI (0))) hx hb d_R_isTarget_34 (by decide) ?_
        exact w_zret (v := false) () hx hb hr hlocks hS hP (congrArg rt_b (by first | exact (rt_isT_n (Or.inl (rt_ix_no c_4))).symm | exact (rt_isT_n (Or.inr c_15)).symm | (rw [rt_isT_s (by omega) hrr hz, horr, c_27]; rfl))) d_R_isTarget_35
      · refine lv_iconst (v := (nI (1))) hx hb d_R_isTarget_30 (by decide) ?_
        refine lv_goto (tgt := 35) hx hb d_R_isTarget_31 (by decide) ?_
        exact w_zret (v := true) () hx hb hr hlocks hS hP (congrArg rt_b (by first | exact (rt_isT_n (Or.inl (rt_ix_no c_4))).symm | exact (rt_isT_n (Or.inr c_15)).symm | (rw [rt_isT_s (by omega) hrr hz, horr, c_27]; rfl))) d_R_isTarget_35

set_option maxHeartbeats 4000000 in
set_option maxRecDepth 100000 in
theorem c_R_block (l : Launch) (D : va_G) (cI cZ : ClassId) (g a : Nat → Nat) (ha : xI a) (w h : Nat) (Q : Nat → Nat) (ff : Nat → Int32) (hd bl : Int32) (rs : Nat → Int32) (hs ts : Int32) (rc : Nat → Int32) (hc tc : Int32) (x y : Int32) (hG : rt_G w h Q) (hk0 : rt_hk Q w h hd ff bl) : Met l y_R_block (.code y_R_block b_R_block 3 (some .int) :: tG) ({ frames := 5, cells := 0, slots := 0, locals := 115 }) (va_Pc [.ref (a 0), .int (x), .int (y)] (wU D cI cZ g (xA a) (xw cI a w h Q ff hd bl rs hs ts rc hc tc))) (va_Qi (S := ((Nat → Int32) × Int32 × Int32 × (Nat → Int32) × Int32 × Int32 × (Nat → Int32) × Int32 × Int32)) (fun r u => ((r = -1 ∧ (rt_ix x (w * h) = none ∨ rt_ix y 6 = none)) ∨ ∃ B, rt_isB Q w h B ∧ r = rt_blk Q (w * h) B x y) ∧ rt_hk Q w h u.2.1 u.1 u.2.2.1) (wB D (fun (u : ((Nat → Int32) × Int32 × Int32 × (Nat → Int32) × Int32 × Int32 × (Nat → Int32) × Int32 × Int32)) => (xw cI a w h Q u.1 u.2.1 u.2.2.1 u.2.2.2.1 u.2.2.2.2.1 u.2.2.2.2.2.1 u.2.2.2.2.2.2.1 u.2.2.2.2.2.2.2.1 u.2.2.2.2.2.2.2.2))) (xA a)) 0 0 (xA a) := by
  refine Met.ofW (cc := b_R_block) (maxL := 3) (ret := (some .int)) (by decide) rfl ?_
  intro p e s m args below meth c s₁ B hml hv
  obtain ⟨rfl, hP, hK, hZ⟩ := hv
  have hx := B.exec
  have hb := B.bytes
  have hr := B.returns
  have hts : ∀ w ∈ tG, w.before _ s = true := fun w hw => atoms_spec (ws := .code y_R_block b_R_block 3 (some .int) :: tG) B.pre w (List.mem_cons_of_mem _ hw)
  have hown : s.vm.findClass rn_R = some m.cls := findClass_of_methodNamed B.named
  have hlocks := B.notSynchronized
  have hS : va_S (xA a) s.heap s.heap [] := va_S.rf
  have hD : va_D (xA a) (xw cI a w h Q ff hd bl rs hs ts rc hc tc) := x_D ha _ rfl
  have hP : va_P D vwCl (xw cI a w h Q ff hd bl rs hs ts rc hc tc) s.heap := hP
  have hl := lv_entry ([.ref (a 0), .int (x), .int (y)]) (n := 3) (Nat.le_of_ble_eq_true rfl)
  rw [lg_entry_eq]
  generalize (lg_sl ([.ref (a 0), .int (x), .int (y)]) ++ List.replicate (3 - (lg_sl ([.ref (a 0), .int (x), .int (y)])).length) Slot.unset).toArray = ls at hl ⊢
  have hl : lv_has ls 3 [(0, .ref (a 0)), (1, .int (x)), (2, .int (y))] := hl
  obtain ⟨hn1, hn⟩ := hG.n
  have hw0 : 0 < w := by have := hG.1.1; omega
  have hQ := hG.2.2
  refine lv_aload_n hx hb d_R_block_0 rfl (lv_at hl 0 rfl) ?_
  refine va_get (D := D) (ci := 3) (v := .ref (a 1)) (C := rn_R) (T := tf_R) (N := 2) hx hb hts in_R hown hK hP 0 rfl rfl 0 (by decide) (hts _ k_fieldLink_rn_R_18_rn_R_rails_LRouteTracks_Rails) (fun _ h9 => h9) rfl d_R_block_1 ?_
  refine lv_iload_n hx hb d_R_block_4 rfl (lv_at hl 1 rfl) ?_
  refine w_ci (As := [.int (x)]) (rest := []) ⟨hx, hb, hml, hown, hts⟩ (c_A_hasTile l D cI cZ g a ha w h Q ff hd bl rs hs ts rc hc tc x hG) (cwV 1 hts (t_gV k_methodLink_rn_R_78_y_A_hasTile k_instanceMethod_y_A_hasTile k_selects_rn_A_y_A_hasTile_y_A_hasTile k_initialized_rn_A k_code_y_A_hasTile_prog_3_method_2_code_2_some_boolean) rfl rfl rfl (by decide +kernel) ⟨Nat.le_of_ble_eq_true rfl, Nat.le_of_ble_eq_true rfl⟩) (va_recv hK hP (ci := 1) (q0 := 1) rfl rfl) hP hK hZ hS rfl hl.1 rfl (Nat.le_of_ble_eq_true rfl) d_R_block_5 ⟨Nat.zero_le _, Nat.zero_le _⟩ (fun r_5 u_5 H locs hw hP hS => ?_)
  subst hw
  have hP : va_P D vwCl (xw cI a w h Q ff hd bl rs hs ts rc hc tc) H := hP
  refine rw_beq (tgt := 18) hx hb d_R_block_8 (by decide) (fun c_8 => ?_) (fun c_8 => ?_)
  · refine lv_iconst (v := (-1)) hx hb d_R_block_18 (by decide) ?_
    exact w_iret (ff, hd, bl, rs, hs, ts, rc, hc, tc) hx hb hr hlocks hS hP (⟨Or.inl ⟨rfl, by first | exact Or.inl (rt_ix_no c_8) | exact Or.inr (rt_ix_no c_15)⟩, hk0⟩) d_R_block_19
  · obtain ⟨t, ht, rfl⟩ := rt_ix_is (by omega) c_8
    refine lv_iload_n hx hb d_R_block_11 rfl (lv_at hl 2 rfl) ?_
    refine w_si (As := [.int (y)]) (rest := []) ⟨hx, hb, hml, hown, hts⟩ (c_R_isKind l D cI cZ g a ha w h Q ff hd bl rs hs ts rc hc tc y hG) (va_cwS 1 hts (t_gS k_methodLink_rn_R_98_y_R_isKind k_static_y_R_isKind k_initialized_rn_R k_code_y_R_isKind_prog_1_method_16_code_1_some_boolean) rfl rfl rfl (by decide +kernel) ⟨Nat.le_of_ble_eq_true rfl, Nat.le_of_ble_eq_true rfl⟩) hP hK hZ hS rfl hl.1 rfl (Nat.le_of_ble_eq_true rfl) d_R_block_12 ⟨Nat.zero_le _, Nat.zero_le _⟩ (fun r_12 u_12 H locs hw hP hS => ?_)
    subst hw
    have hP : va_P D vwCl (xw cI a w h Q ff hd bl rs hs ts rc hc tc) H := hP
    refine rw_bne (tgt := 20) hx hb d_R_block_15 (by decide) (fun c_15 => ?_) (fun c_15 => ?_)
    · obtain ⟨k, hk, rfl⟩ := rt_ix_is (by omega) c_15
      refine lv_aload_n hx hb d_R_block_20 rfl (lv_at hl 0 rfl) ?_
      refine va_get (D := D) (ci := 3) (v := .ref (a 4)) (C := rn_R) (T := tf_R) (N := 2) hx hb hts in_R hown hK hP 0 rfl rfl 1 (by decide) (hts _ k_fieldLink_rn_R_27_rn_R_search_LRouteTracks_Search) (fun _ h9 => h9) rfl d_R_block_21 ?_
      refine lv_aload_n hx hb d_R_block_24 rfl (lv_at hl 0 rfl) ?_
      refine va_get (D := D) (ci := 3) (v := .ref (a 1)) (C := rn_R) (T := tf_R) (N := 2) hx hb hts in_R hown hK hP 0 rfl rfl 0 (by decide) (hts _ k_fieldLink_rn_R_18_rn_R_rails_LRouteTracks_Rails) (fun _ h9 => h9) rfl d_R_block_25 ?_
      refine w_cv (As := [.ref (a 1)]) (rest := []) ⟨hx, hb, hml, hown, hts⟩ (c_S_findBlocks l D cI cZ g a ha w h Q ff hd bl rs hs ts rc hc tc  hG hk0) (cwV 1 hts (t_gV k_methodLink_rn_R_101_y_S_findBlocks k_instanceMethod_y_S_findBlocks k_selects_rn_S_y_S_findBlocks_y_S_findBlocks k_initialized_rn_S k_code_y_S_findBlocks_prog_4_method_3_code_3_none) rfl rfl rfl (by decide +kernel) ⟨Nat.le_of_ble_eq_true rfl, Nat.le_of_ble_eq_true rfl⟩) (va_recv hK hP (ci := 2) (q0 := 4) rfl rfl) hP hK hZ hS rfl hl.1 rfl (Nat.le_of_ble_eq_true rfl) d_R_block_28 ⟨Nat.zero_le _, Nat.zero_le _⟩ (fun u_28 H locs hw hP hS => ?_)
      obtain ⟨ff1, bl1, rc1, hc1, tc1⟩ := u_28
      have hP : va_P D vwCl (xw cI a w h Q ff1 (nI (8)) bl1 rs hs ts rc1 hc1 tc1) H := hP
      have hD : va_D (xA a) (xw cI a w h Q ff1 (nI (8)) bl1 rs hs ts rc1 hc1 tc1) := x_D ha _ rfl
      obtain ⟨B9, hB1, hB2, hB3⟩ := id hw
      dsimp only at hB2 hB3
      refine lv_aload_n hx hb d_R_block_31 rfl (lv_at hl 0 rfl) ?_
      refine va_get (D := D) (ci := 3) (v := .ref (a 4)) (C := rn_R) (T := tf_R) (N := 2) hx hb hts in_R hown hK hP 0 rfl rfl 1 (by decide) (hts _ k_fieldLink_rn_R_27_rn_R_search_LRouteTracks_Search) (fun _ h9 => h9) rfl d_R_block_32 ?_
      refine va_get (D := D) (ci := 2) (v := .ref (a 5)) (C := rn_S) (T := tf_S) (N := 5) hx hb hts in_S hown hK hP 4 rfl rfl 0 (by decide) (hts _ k_fieldLink_rn_R_105_rn_S_found_I) (fun _ h9 => h9) rfl d_R_block_35 ?_
      refine lv_bipush (v := (nI (6))) hx hb d_R_block_38 (by decide) ?_
      refine lv_iload_n hx hb d_R_block_40 rfl (lv_at hl 1 rfl) ?_
      refine rw_mul hx hb d_R_block_41 ?_
      refine lv_iload_n hx hb d_R_block_42 rfl (lv_at hl 2 rfl) ?_
      refine rw_add hx hb d_R_block_43 ?_
      refine rw_iald (v := (rt_o (if Q (6 * t + k) ≠ 0 then some (B9 (6 * t + k)) else none))) hx hb hK hP 5 0 rfl rfl (by omega) (by omega) (hB2 _ (by omega)) d_R_block_44 ?_
      exact w_iret (ff1, nI 8, bl1, rs, hs, ts, rc1, hc1, tc1) hx hb hr hlocks hS hP (⟨Or.inr ⟨B9, hB1, (rt_blk_s (by omega) ht hk).symm⟩, Or.inr (Or.inl ⟨rfl, hw⟩)⟩) d_R_block_45
    · refine lv_iconst (v := (-1)) hx hb d_R_block_18 (by decide) ?_
      exact w_iret (ff, hd, bl, rs, hs, ts, rc, hc, tc) hx hb hr hlocks hS hP (⟨Or.inl ⟨rfl, by first | exact Or.inl (rt_ix_no c_8) | exact Or.inr (rt_ix_no c_15)⟩, hk0⟩) d_R_block_19

set_option maxHeartbeats 4000000 in
set_option maxRecDepth 100000 in
theorem c_R_cost (l : Launch) (D : va_G) (cI cZ : ClassId) (g a : Nat → Nat) (ha : xI a) (w h : Nat) (Q : Nat → Nat) (ff : Nat → Int32) (hd bl : Int32) (rs : Nat → Int32) (hs ts : Int32) (rc : Nat → Int32) (hc tc : Int32) (x y : Int32) (hG : rt_G w h Q) (hk0 : rt_hk Q w h hd ff bl) : Met l y_R_cost (.code y_R_cost b_R_cost 3 (some .int) :: tG) ({ frames := 6, cells := 0, slots := 0, locals := 136 }) (va_Pc [.ref (a 0), .int (x), .int (y)] (wU D cI cZ g (xA a) (xw cI a w h Q ff hd bl rs hs ts rc hc tc))) (va_Qi (S := ((Nat → Int32) × Int32 × Int32 × (Nat → Int32) × Int32 × Int32 × (Nat → Int32) × Int32 × Int32)) (fun r u => ((r = -1 ∧ (rt_ix y 8 = none ∨ rt_opx Q (w * h) x = false)) ∨ ∃ z0 K, z0 < 8 ∧ y = nI z0 ∧ rt_isC Q w h z0 K ∧ rt_small K ∧ r = rt_cost K x) ∧ rt_hk Q w h u.2.1 u.1 u.2.2.1) (wB D (fun (u : ((Nat → Int32) × Int32 × Int32 × (Nat → Int32) × Int32 × Int32 × (Nat → Int32) × Int32 × Int32)) => (xw cI a w h Q u.1 u.2.1 u.2.2.1 u.2.2.2.1 u.2.2.2.2.1 u.2.2.2.2.2.1 u.2.2.2.2.2.2.1 u.2.2.2.2.2.2.2.1 u.2.2.2.2.2.2.2.2))) (xA a)) 0 0 (xA a) := by
  refine Met.ofW (cc := b_R_cost) (maxL := 3) (ret := (some .int)) (by decide) rfl ?_
  intro p e s m args below meth c s₁ B hml hv
  obtain ⟨rfl, hP, hK, hZ⟩ := hv
  have hx := B.exec
  have hb := B.bytes
  have hr := B.returns
  have hts : ∀ w ∈ tG, w.before _ s = true := fun w hw => atoms_spec (ws := .code y_R_cost b_R_cost 3 (some .int) :: tG) B.pre w (List.mem_cons_of_mem _ hw)
  have hown : s.vm.findClass rn_R = some m.cls := findClass_of_methodNamed B.named
  have hlocks := B.notSynchronized
  have hS : va_S (xA a) s.heap s.heap [] := va_S.rf
  have hD : va_D (xA a) (xw cI a w h Q ff hd bl rs hs ts rc hc tc) := x_D ha _ rfl
  have hP : va_P D vwCl (xw cI a w h Q ff hd bl rs hs ts rc hc tc) s.heap := hP
  have hl := lv_entry ([.ref (a 0), .int (x), .int (y)]) (n := 3) (Nat.le_of_ble_eq_true rfl)
  rw [lg_entry_eq]
  generalize (lg_sl ([.ref (a 0), .int (x), .int (y)]) ++ List.replicate (3 - (lg_sl ([.ref (a 0), .int (x), .int (y)])).length) Slot.unset).toArray = ls at hl ⊢
  have hl : lv_has ls 3 [(0, .ref (a 0)), (1, .int (x)), (2, .int (y))] := hl
  obtain ⟨hn1, hn⟩ := hG.n
  have hw0 : 0 < w := by have := hG.1.1; omega
  have hQ := hG.2.2
  refine lv_iload_n hx hb d_R_cost_0 rfl (lv_at hl 2 rfl) ?_
  refine w_si (As := [.int (y)]) (rest := []) ⟨hx, hb, hml, hown, hts⟩ (c_R_isStation l D cI cZ g a ha w h Q ff hd bl rs hs ts rc hc tc y hG) (va_cwS 1 hts (t_gS k_methodLink_rn_R_65_y_R_isStation k_static_y_R_isStation k_initialized_rn_R k_code_y_R_isStation_prog_1_method_17_code_1_some_boolean) rfl rfl rfl (by decide +kernel) ⟨Nat.le_of_ble_eq_true rfl, Nat.le_of_ble_eq_true rfl⟩) hP hK hZ hS rfl hl.1 rfl (Nat.le_of_ble_eq_true rfl) d_R_cost_1 ⟨Nat.zero_le _, Nat.zero_le _⟩ (fun r_1 u_1 H locs hw hP hS => ?_)
  subst hw
  have hP : va_P D vwCl (xw cI a w h Q ff hd bl rs hs ts rc hc tc) H := hP
  refine rw_beq (tgt := 18) hx hb d_R_cost_4 (by decide) (fun c_4 => ?_) (fun c_4 => ?_)
  · refine lv_iconst (v := (-1)) hx hb d_R_cost_18 (by decide) ?_
    exact w_iret (ff, hd, bl, rs, hs, ts, rc, hc, tc) hx hb hr hlocks hS hP (⟨Or.inl ⟨rfl, by first | exact Or.inl (rt_ix_no c_4) | exact Or.inr c_15⟩, hk0⟩) d_R_cost_19
  · obtain ⟨z, hz, rfl⟩ := rt_ix_is (by omega) c_4
    refine lv_aload_n hx hb d_R_cost_7 rfl (lv_at hl 0 rfl) ?_
    refine va_get (D := D) (ci := 3) (v := .ref (a 1)) (C := rn_R) (T := tf_R) (N := 2) hx hb hts in_R hown hK hP 0 rfl rfl 0 (by decide) (hts _ k_fieldLink_rn_R_18_rn_R_rails_LRouteTracks_Rails) (fun _ h9 => h9) rfl d_R_cost_8 ?_
    refine lv_iload_n hx hb d_R_cost_11 rfl (lv_at hl 1 rfl) ?_
    refine w_ci (As := [.int (x)]) (rest := []) ⟨hx, hb, hml, hown, hts⟩ (c_A_isOpen l D cI cZ g a ha w h Q ff hd bl rs hs ts rc hc tc x hG) (cwV 1 hts (t_gV k_methodLink_rn_R_88_y_A_isOpen k_instanceMethod_y_A_isOpen k_selects_rn_A_y_A_isOpen_y_A_isOpen k_initialized_rn_A k_code_y_A_isOpen_prog_3_method_11_code_2_some_boolean) rfl rfl rfl (by decide +kernel) ⟨Nat.le_of_ble_eq_true rfl, Nat.le_of_ble_eq_true rfl⟩) (va_recv hK hP (ci := 1) (q0 := 1) rfl rfl) hP hK hZ hS rfl hl.1 rfl (Nat.le_of_ble_eq_true rfl) d_R_cost_12 ⟨Nat.zero_le _, Nat.zero_le _⟩ (fun r_12 u_12 H locs hw hP hS => ?_)
    subst hw
    have hP : va_P D vwCl (xw cI a w h Q ff hd bl rs hs ts rc hc tc) H := hP
    refine rw_bne (tgt := 20) hx hb d_R_cost_15 (by decide) (fun c_15 => ?_) (fun c_15 => ?_)
    · obtain ⟨rr, hrr, rfl, horr⟩ := rt_opx_is (by omega) c_15
      refine lv_aload_n hx hb d_R_cost_20 rfl (lv_at hl 0 rfl) ?_
      refine va_get (D := D) (ci := 3) (v := .ref (a 4)) (C := rn_R) (T := tf_R) (N := 2) hx hb hts in_R hown hK hP 0 rfl rfl 1 (by decide) (hts _ k_fieldLink_rn_R_27_rn_R_search_LRouteTracks_Search) (fun _ h9 => h9) rfl d_R_cost_21 ?_
      refine lv_aload_n hx hb d_R_cost_24 rfl (lv_at hl 0 rfl) ?_
      refine va_get (D := D) (ci := 3) (v := .ref (a 1)) (C := rn_R) (T := tf_R) (N := 2) hx hb hts in_R hown hK hP 0 rfl rfl 0 (by decide) (hts _ k_fieldLink_rn_R_18_rn_R_rails_LRouteTracks_Rails) (fun _ h9 => h9) rfl d_R_cost_25 ?_
      refine lv_iload_n hx hb d_R_cost_28 rfl (lv_at hl 2 rfl) ?_
      refine w_cv (As := [.ref (a 1), .int (nI (z))]) (rest := []) ⟨hx, hb, hml, hown, hts⟩ (c_S_findCosts l D cI cZ g a ha w h Q ff hd bl rs hs ts rc hc tc z hG hz hk0) (cwV 2 hts (t_gV k_methodLink_rn_R_112_y_S_findCosts k_instanceMethod_y_S_findCosts k_selects_rn_S_y_S_findCosts_y_S_findCosts k_initialized_rn_S k_code_y_S_findCosts_prog_4_method_8_code_5_none) rfl rfl rfl (by decide +kernel) ⟨Nat.le_of_ble_eq_true rfl, Nat.le_of_ble_eq_true rfl⟩) (va_recv hK hP (ci := 2) (q0 := 4) rfl rfl) hP hK hZ hS rfl hl.1 rfl (Nat.le_of_ble_eq_true rfl) d_R_cost_29 ⟨Nat.zero_le _, Nat.zero_le _⟩ (fun u_29 H locs hw hP hS => ?_)
      obtain ⟨ff1, rs1, hs1, ts1, rc1, hc1, tc1⟩ := u_29
      have hP : va_P D vwCl (xw cI a w h Q ff1 (nI (z)) bl rs1 hs1 ts1 rc1 hc1 tc1) H := hP
      have hD : va_D (xA a) (xw cI a w h Q ff1 (nI (z)) bl rs1 hs1 ts1 rc1 hc1 tc1) := x_D ha _ rfl
      obtain ⟨K, hK1, hK2, hK3⟩ := id hw
      dsimp only at hK3
      refine lv_aload_n hx hb d_R_cost_32 rfl (lv_at hl 0 rfl) ?_
      refine va_get (D := D) (ci := 3) (v := .ref (a 4)) (C := rn_R) (T := tf_R) (N := 2) hx hb hts in_R hown hK hP 0 rfl rfl 1 (by decide) (hts _ k_fieldLink_rn_R_27_rn_R_search_LRouteTracks_Search) (fun _ h9 => h9) rfl d_R_cost_33 ?_
      refine va_get (D := D) (ci := 2) (v := .ref (a 5)) (C := rn_S) (T := tf_S) (N := 5) hx hb hts in_S hown hK hP 4 rfl rfl 0 (by decide) (hts _ k_fieldLink_rn_R_105_rn_S_found_I) (fun _ h9 => h9) rfl d_R_cost_36 ?_
      refine lv_iload_n hx hb d_R_cost_39 rfl (lv_at hl 1 rfl) ?_
      refine rw_iald (v := (rt_o (K rr))) hx hb hK hP 5 0 rfl rfl (by omega) (by omega) (hK3 rr hrr) d_R_cost_40 ?_
      exact w_iret (ff1, nI z, bl, rs1, hs1, ts1, rc1, hc1, tc1) hx hb hr hlocks hS hP (⟨Or.inr ⟨z, K, hz, rfl, hK1, hK2, by unfold rt_cost; rw [nI_clamp (by omega)]⟩, Or.inr (Or.inr ⟨z, hz, rfl, hw⟩)⟩) d_R_cost_41
    · refine lv_iconst (v := (-1)) hx hb d_R_cost_18 (by decide) ?_
      exact w_iret (ff, hd, bl, rs, hs, ts, rc, hc, tc) hx hb hr hlocks hS hP (⟨Or.inl ⟨rfl, by first | exact Or.inl (rt_ix_no c_4) | exact Or.inr c_15⟩, hk0⟩) d_R_cost_19
end
section
/-! SMALL: the route, step by step; the counts -/
theorem rt_rt_stop {Q : Nat → Nat} {w h : Nat} {K : Nat → Option Nat} {v b m : Nat} (hb : rt_best K (rt_nx Q w h v) = some b) (hs : rt_hs Q b = true ∨ K b = some 0) : rt_rt Q w h K (m + 1) v = none := by
  show (match rt_best K (rt_nx Q w h v) with
    | none => none
    | some f => if (rt_hs Q f || decide (K f = some 0)) = true then none else rt_rt Q w h K m f) = none
  rw [hb]
  dsimp only
  rw [if_pos]
  rcases hs with q | q
  · rw [q]; rfl
  · rw [q]; simp
theorem rt_rt_go {Q : Nat → Nat} {w h : Nat} {K : Nat → Option Nat} {v b m : Nat} (hb : rt_best K (rt_nx Q w h v) = some b) (h1 : rt_hs Q b = false) (h2 : K b ≠ some 0) : rt_rt Q w h K (m + 1) v = rt_rt Q w h K m b := by
  show (match rt_best K (rt_nx Q w h v) with
    | none => none
    | some f => if (rt_hs Q f || decide (K f = some 0)) = true then none else rt_rt Q w h K m f) = _
  rw [hb]
  dsimp only
  rw [if_neg]
  rw [h1]
  simp [h2]
theorem rt_route_hit {Q : Nat → Nat} {w h : Nat} {K : Nat → Option Nat} {r q i : Nat} (hr : r < 2 ^ 31) (hq : K r = some q) (h0 : q ≠ 0) (hi : i < 2 ^ 31) : rt_route Q w h K (nI r) (nI i) = rt_o (rt_rt Q w h K i r) := by
  unfold rt_route
  rw [nI_clamp hr, nI_clamp hi, if_neg]
  rintro (e | e | e)
  · rw [hq] at e; cases e
  · rw [hq] at e; cases e; exact h0 rfl
  · exact nI_pos hi e
theorem rt_route_none {Q : Nat → Nat} {w h : Nat} {K : Nat → Option Nat} {r : Nat} {k : Int32} (hr : r < 2 ^ 31) (hx : ∀ m, m < 2 ^ 31 → k = nI m → rt_rt Q w h K m r = none) : rt_route Q w h K (nI r) k = -1 := by
  unfold rt_route
  rw [nI_clamp hr]
  split
  · rfl
  · next hn =>
    obtain ⟨m, hm, rfl⟩ := nI_of (fun q => hn (Or.inr (Or.inr q)))
    rw [nI_clamp hm, hx m hm rfl]
    rfl
theorem rt_route_n {Q : Nat → Nat} {w h : Nat} {K : Nat → Option Nat} {r : Nat} {k : Int32} (hr : r < 2 ^ 31) (hx : K r = none ∨ K r = some 0) : rt_route Q w h K (nI r) k = -1 := by
  unfold rt_route
  rw [nI_clamp hr, if_pos]
  rcases hx with q | q
  · exact Or.inl q
  · exact Or.inr (Or.inl q)
/-- on the route at v after i steps, all indices under i asked and not meant -/
def rt_ro (Q : Nat → Nat) (w h : Nat) (K : Nat → Option Nat) (r : Nat) (k : Int32) (i v c : Nat) : Prop := K v = some c ∧ c ≠ 0 ∧ rt_rk K (12 * (w * h)) c + i ≤ 12 * (w * h) ∧ (∀ m, rt_rt Q w h K (i + m) r = rt_rt Q w h K m v) ∧ ∀ j, j < i → nI j ≠ k
theorem rt_ro_stop {Q : Nat → Nat} {w h : Nat} {K : Nat → Option Nat} {r : Nat} {k : Int32} {i v c b : Nat} (I : rt_ro Q w h K r k i v c) (hr : r < 2 ^ 31) (hk : ¬ nI i = k) (hb : rt_best K (rt_nx Q w h v) = some b) (hs : rt_hs Q b = true ∨ K b = some 0) : rt_route Q w h K (nI r) k = -1 := by
  refine rt_route_none hr (fun m hm e => ?_)
  rcases Nat.lt_or_ge i m with q | q
  · obtain ⟨j, rfl⟩ : ∃ j, m = i + (j + 1) := ⟨m - i - 1, by omega⟩
    rw [I.2.2.2.1]
    exact rt_rt_stop hb hs
  · rcases Nat.lt_or_ge m i with q2 | q2
    · exact absurd e.symm (I.2.2.2.2 m q2)
    · rw [show m = i by omega] at e
      exact absurd e.symm hk
theorem rt_ro_go {Q : Nat → Nat} {w h : Nat} {K : Nat → Option Nat} {r : Nat} {k : Int32} {i v c b c' : Nat} (I : rt_ro Q w h K r k i v c) (hk : ¬ nI i = k) (hb : rt_best K (rt_nx Q w h v) = some b) (hl : b < 12 * (w * h)) (hc : K b = some c') (hlt : c' < c) (h1 : rt_hs Q b = false) (h2 : c' ≠ 0) : rt_ro Q w h K r k (i + 1) b c' := by
  obtain ⟨i1, i2, i3, i4, i5⟩ := I
  refine ⟨hc, h2, by have := rt_rk_lt hl hc hlt; omega, fun m => ?_, fun j hj => ?_⟩
  · rw [show i + 1 + m = i + (m + 1) by omega, i4, rt_rt_go hb h1 (by rw [hc]; intro q; exact h2 (Option.some.inj q))]
  · rcases Nat.lt_or_ge j i with q | q
    · exact i5 j q
    · rw [show j = i by omega]
      exact hk
theorem rt_ro_0 {Q : Nat → Nat} {w h : Nat} {K : Nat → Option Nat} {r : Nat} {k : Int32} {c : Nat} (hc : K r = some c) (h0 : c ≠ 0) : rt_ro Q w h K r k 0 r c := ⟨hc, h0, by have := rt_rk_le K (12 * (w * h)) c; omega, fun m => by rw [Nat.zero_add], fun j hj => absurd hj (Nat.not_lt_zero j)⟩
theorem rt_count_s {Q : Nat → Nat} {n : Nat} : rt_count Q n (nI 0) = nI ((List.range (6 * n)).countP (fun q => decide (Q q &&& 1 ≠ 0))) ∧ rt_count Q n (nI 1) = nI ((List.range (6 * n)).countP (fun q => decide (Q q &&& 28 ≠ 0))) ∧ rt_count Q n (nI 2) = nI ((List.range (6 * n)).countP (fun q => decide (Q q &&& 480 ≠ 0))) := by
  unfold rt_count
  rw [rt_ix_some (by decide) (by decide), rt_ix_some (by decide) (by decide), rt_ix_some (by decide) (by decide)]
  exact ⟨rfl, rfl, rfl⟩
theorem rt_ge3 {x : Int32} (h : x < 0 ∨ nI 4 ≤ x) : ¬ x = nI 3 ∧ rt_ix x 3 = none := by
  refine ⟨?_, rt_ix_none ?_⟩
  · rintro rfl
    revert h
    decide
  · rcases h with q | q
    · exact Or.inl q
    · exact Or.inr (Int32.le_trans (by decide) q)
theorem rt_t4 {x : Int32} (h : x < 0 ∨ nI 4 ≤ x) : x.toInt < 0 ∨ 3 < x.toInt := by
  rcases h with q | q
  · exact Or.inl (by simpa using Int32.lt_iff_toInt_lt.mp q)
  · have := Int32.le_iff_toInt_le.mp q
    rw [nI_toInt (by decide)] at this
    exact Or.inr (by omega)
end
section
/-! RouteTracks: route and count, by program (wip/whole/gen/rmeth2.py) -/
set_option maxHeartbeats 4000000 in
set_option maxRecDepth 100000 in
theorem c_R_route (l : Launch) (D : va_G) (cI cZ : ClassId) (g a : Nat → Nat) (ha : xI a) (w h : Nat) (Q : Nat → Nat) (ff : Nat → Int32) (hd bl : Int32) (rs : Nat → Int32) (hs ts : Int32) (rc : Nat → Int32) (hc tc : Int32) (x y kk : Int32) (hG : rt_G w h Q) (hk0 : rt_hk Q w h hd ff bl) : Met l y_R_route (.code y_R_route b_R_route 6 (some .int) :: tG) ({ frames := 6, cells := 0, slots := 0, locals := 136 }) (va_Pc [.ref (a 0), .int (x), .int (y), .int (kk)] (wU D cI cZ g (xA a) (xw cI a w h Q ff hd bl rs hs ts rc hc tc))) (va_Qi (S := ((Nat → Int32) × Int32 × Int32 × (Nat → Int32) × Int32 × Int32 × (Nat → Int32) × Int32 × Int32)) (fun r u => ((r = -1 ∧ (rt_ix y 8 = none ∨ rt_opx Q (w * h) x = false)) ∨ ∃ z0 K, z0 < 8 ∧ y = nI z0 ∧ rt_isC Q w h z0 K ∧ rt_small K ∧ r = rt_route Q w h K x kk) ∧ rt_hk Q w h u.2.1 u.1 u.2.2.1) (wB D (fun (u : ((Nat → Int32) × Int32 × Int32 × (Nat → Int32) × Int32 × Int32 × (Nat → Int32) × Int32 × Int32)) => (xw cI a w h Q u.1 u.2.1 u.2.2.1 u.2.2.2.1 u.2.2.2.2.1 u.2.2.2.2.2.1 u.2.2.2.2.2.2.1 u.2.2.2.2.2.2.2.1 u.2.2.2.2.2.2.2.2))) (xA a)) 0 0 (xA a) := by
  refine Met.ofW (cc := b_R_route) (maxL := 6) (ret := (some .int)) (by decide) rfl ?_
  intro p e s m args below meth c s₁ B hml hv
  obtain ⟨rfl, hP, hK, hZ⟩ := hv
  have hx := B.exec
  have hb := B.bytes
  have hr := B.returns
  have hts : ∀ w ∈ tG, w.before _ s = true := fun w hw => atoms_spec (ws := .code y_R_route b_R_route 6 (some .int) :: tG) B.pre w (List.mem_cons_of_mem _ hw)
  have hown : s.vm.findClass rn_R = some m.cls := findClass_of_methodNamed B.named
  have hlocks := B.notSynchronized
  have hS : va_S (xA a) s.heap s.heap [] := va_S.rf
  have hD : va_D (xA a) (xw cI a w h Q ff hd bl rs hs ts rc hc tc) := x_D ha _ rfl
  have hP : va_P D vwCl (xw cI a w h Q ff hd bl rs hs ts rc hc tc) s.heap := hP
  have hl := lv_entry ([.ref (a 0), .int (x), .int (y), .int (kk)]) (n := 6) (Nat.le_of_ble_eq_true rfl)
  rw [lg_entry_eq]
  generalize (lg_sl ([.ref (a 0), .int (x), .int (y), .int (kk)]) ++ List.replicate (6 - (lg_sl ([.ref (a 0), .int (x), .int (y), .int (kk)])).length) Slot.unset).toArray = ls at hl ⊢
  have hl : lv_has ls 6 [(0, .ref (a 0)), (1, .int (x)), (2, .int (y)), (3, .int (kk))] := hl
  obtain ⟨hn1, hn⟩ := hG.n
  have hw0 : 0 < w := by have := hG.1.1; omega
  have hQ := hG.2.2
  refine lv_iload_n hx hb d_R_route_0 rfl (lv_at hl 2 rfl) ?_
  refine w_si (As := [.int (y)]) (rest := []) ⟨hx, hb, hml, hown, hts⟩ (c_R_isStation l D cI cZ g a ha w h Q ff hd bl rs hs ts rc hc tc y hG) (va_cwS 1 hts (t_gS k_methodLink_rn_R_65_y_R_isStation k_static_y_R_isStation k_initialized_rn_R k_code_y_R_isStation_prog_1_method_17_code_1_some_boolean) rfl rfl rfl (by decide +kernel) ⟨Nat.le_of_ble_eq_true rfl, Nat.le_of_ble_eq_true rfl⟩) hP hK hZ hS rfl hl.1 rfl (Nat.le_of_ble_eq_true rfl) d_R_route_1 ⟨Nat.zero_le _, Nat.zero_le _⟩ (fun r_1 u_1 H locs hw hP hS => ?_)
  subst hw
  have hP : va_P D vwCl (xw cI a w h Q ff hd bl rs hs ts rc hc tc) H := hP
  refine rw_beq (tgt := 18) hx hb d_R_route_4 (by decide) (fun c_4 => ?_) (fun c_4 => ?_)
  · refine lv_iconst (v := (-1)) hx hb d_R_route_18 (by decide) ?_
    exact w_iret (ff, hd, bl, rs, hs, ts, rc, hc, tc) hx hb hr hlocks hS hP (⟨Or.inl ⟨rfl, by first | exact Or.inl (rt_ix_no c_4) | exact Or.inr c_15⟩, hk0⟩) d_R_route_19
  · obtain ⟨z, hz, rfl⟩ := rt_ix_is (by omega) c_4
    refine lv_aload_n hx hb d_R_route_7 rfl (lv_at hl 0 rfl) ?_
    refine va_get (D := D) (ci := 3) (v := .ref (a 1)) (C := rn_R) (T := tf_R) (N := 2) hx hb hts in_R hown hK hP 0 rfl rfl 0 (by decide) (hts _ k_fieldLink_rn_R_18_rn_R_rails_LRouteTracks_Rails) (fun _ h9 => h9) rfl d_R_route_8 ?_
    refine lv_iload_n hx hb d_R_route_11 rfl (lv_at hl 1 rfl) ?_
    refine w_ci (As := [.int (x)]) (rest := []) ⟨hx, hb, hml, hown, hts⟩ (c_A_isOpen l D cI cZ g a ha w h Q ff hd bl rs hs ts rc hc tc x hG) (cwV 1 hts (t_gV k_methodLink_rn_R_88_y_A_isOpen k_instanceMethod_y_A_isOpen k_selects_rn_A_y_A_isOpen_y_A_isOpen k_initialized_rn_A k_code_y_A_isOpen_prog_3_method_11_code_2_some_boolean) rfl rfl rfl (by decide +kernel) ⟨Nat.le_of_ble_eq_true rfl, Nat.le_of_ble_eq_true rfl⟩) (va_recv hK hP (ci := 1) (q0 := 1) rfl rfl) hP hK hZ hS rfl hl.1 rfl (Nat.le_of_ble_eq_true rfl) d_R_route_12 ⟨Nat.zero_le _, Nat.zero_le _⟩ (fun r_12 u_12 H locs hw hP hS => ?_)
    subst hw
    have hP : va_P D vwCl (xw cI a w h Q ff hd bl rs hs ts rc hc tc) H := hP
    refine rw_bne (tgt := 20) hx hb d_R_route_15 (by decide) (fun c_15 => ?_) (fun c_15 => ?_)
    · obtain ⟨rr, hrr, rfl, horr⟩ := rt_opx_is (by omega) c_15
      refine lv_aload_n hx hb d_R_route_20 rfl (lv_at hl 0 rfl) ?_
      refine va_get (D := D) (ci := 3) (v := .ref (a 4)) (C := rn_R) (T := tf_R) (N := 2) hx hb hts in_R hown hK hP 0 rfl rfl 1 (by decide) (hts _ k_fieldLink_rn_R_27_rn_R_search_LRouteTracks_Search) (fun _ h9 => h9) rfl d_R_route_21 ?_
      refine lv_aload_n hx hb d_R_route_24 rfl (lv_at hl 0 rfl) ?_
      refine va_get (D := D) (ci := 3) (v := .ref (a 1)) (C := rn_R) (T := tf_R) (N := 2) hx hb hts in_R hown hK hP 0 rfl rfl 0 (by decide) (hts _ k_fieldLink_rn_R_18_rn_R_rails_LRouteTracks_Rails) (fun _ h9 => h9) rfl d_R_route_25 ?_
      refine lv_iload_n hx hb d_R_route_28 rfl (lv_at hl 2 rfl) ?_
      refine w_cv (As := [.ref (a 1), .int (nI (z))]) (rest := []) ⟨hx, hb, hml, hown, hts⟩ (c_S_findCosts l D cI cZ g a ha w h Q ff hd bl rs hs ts rc hc tc z hG hz hk0) (cwV 2 hts (t_gV k_methodLink_rn_R_112_y_S_findCosts k_instanceMethod_y_S_findCosts k_selects_rn_S_y_S_findCosts_y_S_findCosts k_initialized_rn_S k_code_y_S_findCosts_prog_4_method_8_code_5_none) rfl rfl rfl (by decide +kernel) ⟨Nat.le_of_ble_eq_true rfl, Nat.le_of_ble_eq_true rfl⟩) (va_recv hK hP (ci := 2) (q0 := 4) rfl rfl) hP hK hZ hS rfl hl.1 rfl (Nat.le_of_ble_eq_true rfl) d_R_route_29 ⟨Nat.zero_le _, Nat.zero_le _⟩ (fun u_29 H locs hw hP hS => ?_)
      obtain ⟨ff1, rs1, hs1, ts1, rc1, hc1, tc1⟩ := u_29
      have hP : va_P D vwCl (xw cI a w h Q ff1 (nI (z)) bl rs1 hs1 ts1 rc1 hc1 tc1) H := hP
      have hD : va_D (xA a) (xw cI a w h Q ff1 (nI (z)) bl rs1 hs1 ts1 rc1 hc1 tc1) := x_D ha _ rfl
      obtain ⟨K, hK1, hK2, hK3⟩ := id hw
      dsimp only at hK3
      refine lv_aload_n hx hb d_R_route_32 rfl (lv_at hl 0 rfl) ?_
      refine va_get (D := D) (ci := 3) (v := .ref (a 4)) (C := rn_R) (T := tf_R) (N := 2) hx hb hts in_R hown hK hP 0 rfl rfl 1 (by decide) (hts _ k_fieldLink_rn_R_27_rn_R_search_LRouteTracks_Search) (fun _ h9 => h9) rfl d_R_route_33 ?_
      refine va_get (D := D) (ci := 2) (v := .ref (a 5)) (C := rn_S) (T := tf_S) (N := 5) hx hb hts in_S hown hK hP 4 rfl rfl 0 (by decide) (hts _ k_fieldLink_rn_R_105_rn_S_found_I) (fun _ h9 => h9) rfl d_R_route_36 ?_
      refine lv_iload_n hx hb d_R_route_39 rfl (lv_at hl 1 rfl) ?_
      refine rw_iald (v := (rt_o (K rr))) hx hb hK hP 5 0 rfl rfl (by omega) (by omega) (hK3 rr hrr) d_R_route_40 ?_
      cases ho_41 : K rr with
      | none =>
        refine lv_if_gt (tgt := 46) hx hb d_R_route_41 (by decide) (fun c_41 => ?_) (fun c_41 => ?_)
        · exact absurd c_41 (by decide)
        · refine lv_iconst (v := (-1)) hx hb d_R_route_44 (by decide) ?_
          exact w_iret (ff1, nI z, bl, rs1, hs1, ts1, rc1, hc1, tc1) hx hb hr hlocks hS hP (⟨Or.inr ⟨z, K, hz, rfl, hK1, hK2, (rt_route_n (by omega) (by first | exact Or.inl ho_41 | exact Or.inr (by rw [ho_41]; congr 1; omega))).symm⟩, Or.inr (Or.inr ⟨z, hz, rfl, hw⟩)⟩) d_R_route_45
      | some q =>
        have hq9 := hK2 rr q ho_41
        refine rw_zgt (tgt := 46) hx hb d_R_route_41 (by decide) (by omega) (fun c_41 => ?_) (fun c_41 => ?_)
        · have hP := x_ff (ff' := fun r9 => rt_o (K r9)) hK3 hP
          have hP : va_P D vwCl (xw cI a w h Q (fun r9 => rt_o (K r9)) (nI (z)) bl rs1 hs1 ts1 rc1 hc1 tc1) H := hP
          have hD : va_D (xA a) (xw cI a w h Q (fun r9 => rt_o (K r9)) (nI (z)) bl rs1 hs1 ts1 rc1 hc1 tc1) := x_D ha _ rfl
          have hwK : rt_hC Q w h z (fun r9 => rt_o (K r9)) := ⟨K, hK1, hK2, fun _ _ => rfl⟩
          refine lv_iload_n hx hb d_R_route_46 rfl (lv_at hl 1 rfl) ?_
          refine lv_istore (lv' := [(4, .int (nI (rr))), (0, .ref (a 0)), (1, .int (nI (rr))), (2, .int (nI (z))), (3, .int (kk))]) hx hb d_R_route_47 hl (by decide) rfl (fun ls hl => ?_)
          refine lv_iconst (v := (nI (0))) hx hb d_R_route_49 (by decide) ?_
          refine lv_istore (lv' := [(5, .int (nI (0))), (4, .int (nI (rr))), (0, .ref (a 0)), (1, .int (nI (rr))), (2, .int (nI (z))), (3, .int (kk))]) hx hb d_R_route_50 hl (by decide) rfl (fun ls hl => ?_)
          have LP_52 : ∀ (n_52 : Nat) (i : Nat) (v : Nat) (cc : Nat), i + n_52 = 12 * (w * h) → (rt_ro Q w h K rr kk i v cc) → ∀ (H : Heap) (locs : List Loc) (ls : Array Slot), va_P D vwCl (xw cI a w h Q (fun r9 => rt_o (K r9)) (nI (z)) bl rs1 hs1 ts1 rc1 hc1 tc1) H → va_S (xA a) s.heap H locs → lv_has ls 6 [(0, .ref (a 0)), (1, .int (nI (rr))), (2, .int (nI (z))), (3, .int (kk)), (4, .int (nI (v))), (5, .int (nI (i)))] → W p l e (headSpec (.code y_R_route b_R_route 6 (some .int) :: tG) ({ frames := 6, cells := 0, slots := 0, locals := 136 })).room s m ([.ref (a 0), .int ((nI rr)), .int ((nI z)), .int (kk)] : List Value).toArray below meth c H locs 0 0 (MQ below (va_Qi (S := ((Nat → Int32) × Int32 × Int32 × (Nat → Int32) × Int32 × Int32 × (Nat → Int32) × Int32 × Int32)) (fun r u => ((r = -1 ∧ (rt_ix (nI z) 8 = none ∨ rt_opx Q (w * h) (nI rr) = false)) ∨ ∃ z0 K, z0 < 8 ∧ (nI z) = nI z0 ∧ rt_isC Q w h z0 K ∧ rt_small K ∧ r = rt_route Q w h K (nI rr) kk) ∧ rt_hk Q w h u.2.1 u.1 u.2.2.1) (wB D (fun (u : ((Nat → Int32) × Int32 × Int32 × (Nat → Int32) × Int32 × Int32 × (Nat → Int32) × Int32 × Int32)) => (xw cI a w h Q u.1 u.2.1 u.2.2.1 u.2.2.2.1 u.2.2.2.2.1 u.2.2.2.2.2.1 u.2.2.2.2.2.2.1 u.2.2.2.2.2.2.2.1 u.2.2.2.2.2.2.2.2))) (xA a)) ([.ref (a 0), .int ((nI rr)), .int ((nI z)), .int (kk)] : List Value).toArray s 0 0 (xA a)) (F0 m 52 ls []) := by
            intro n_52
            induction n_52 with
            | zero =>
              intro i v cc hrel_52 hI H locs ls hP hS hl
              have hD : va_D (xA a) (xw cI a w h Q (fun r9 => rt_o (K r9)) (nI (z)) bl rs1 hs1 ts1 rc1 hc1 tc1) := x_D ha _ rfl
              refine lv_iload hx hb d_R_route_52 (lv_at hl 5 rfl) ?_
              refine lv_aload_n hx hb d_R_route_54 rfl (lv_at hl 0 rfl) ?_
              refine va_get (D := D) (ci := 3) (v := .ref (a 4)) (C := rn_R) (T := tf_R) (N := 2) hx hb hts in_R hown hK hP 0 rfl rfl 1 (by decide) (hts _ k_fieldLink_rn_R_27_rn_R_search_LRouteTracks_Search) (fun _ h9 => h9) rfl d_R_route_55 ?_
              refine va_get (D := D) (ci := 2) (v := .ref (a 5)) (C := rn_S) (T := tf_S) (N := 5) hx hb hts in_S hown hK hP 4 rfl rfl 0 (by decide) (hts _ k_fieldLink_rn_R_105_rn_S_found_I) (fun _ h9 => h9) rfl d_R_route_58 ?_
              refine va_alen (v := nI (12 * (w * h))) hx hb hK hP 5 0 rfl rfl rfl d_R_route_61 ?_
              refine rw_cge (tgt := 128) hx hb d_R_route_62 (by decide) (by omega) (by omega) (fun c_62 => ?_) (fun c_62 => ?_)
              · refine lv_iconst (v := (-1)) hx hb d_R_route_128 (by decide) ?_
                exfalso
                obtain ⟨b, c9, hbe, hbm, hbc, hblt⟩ := rt_best_on hK1 hI.1 hI.2.1
                have h1 := rt_rk_lt (rt_op_lt (hK1.1 b c9 hbc)) hbc hblt
                have h2 := hI.2.2.1
                omega
              · omega
            | succ n_52 ih_52 =>
              intro i v cc hrel_52 hI H locs ls hP hS hl
              have hD : va_D (xA a) (xw cI a w h Q (fun r9 => rt_o (K r9)) (nI (z)) bl rs1 hs1 ts1 rc1 hc1 tc1) := x_D ha _ rfl
              refine lv_iload hx hb d_R_route_52 (lv_at hl 5 rfl) ?_
              refine lv_aload_n hx hb d_R_route_54 rfl (lv_at hl 0 rfl) ?_
              refine va_get (D := D) (ci := 3) (v := .ref (a 4)) (C := rn_R) (T := tf_R) (N := 2) hx hb hts in_R hown hK hP 0 rfl rfl 1 (by decide) (hts _ k_fieldLink_rn_R_27_rn_R_search_LRouteTracks_Search) (fun _ h9 => h9) rfl d_R_route_55 ?_
              refine va_get (D := D) (ci := 2) (v := .ref (a 5)) (C := rn_S) (T := tf_S) (N := 5) hx hb hts in_S hown hK hP 4 rfl rfl 0 (by decide) (hts _ k_fieldLink_rn_R_105_rn_S_found_I) (fun _ h9 => h9) rfl d_R_route_58 ?_
              refine va_alen (v := nI (12 * (w * h))) hx hb hK hP 5 0 rfl rfl rfl d_R_route_61 ?_
              refine rw_cge (tgt := 128) hx hb d_R_route_62 (by decide) (by omega) (by omega) (fun c_62 => ?_) (fun c_62 => ?_)
              · omega
              · refine lv_aload_n hx hb d_R_route_65 rfl (lv_at hl 0 rfl) ?_
                refine va_get (D := D) (ci := 3) (v := .ref (a 4)) (C := rn_R) (T := tf_R) (N := 2) hx hb hts in_R hown hK hP 0 rfl rfl 1 (by decide) (hts _ k_fieldLink_rn_R_27_rn_R_search_LRouteTracks_Search) (fun _ h9 => h9) rfl d_R_route_66 ?_
                refine lv_aload_n hx hb d_R_route_69 rfl (lv_at hl 0 rfl) ?_
                refine va_get (D := D) (ci := 3) (v := .ref (a 1)) (C := rn_R) (T := tf_R) (N := 2) hx hb hts in_R hown hK hP 0 rfl rfl 0 (by decide) (hts _ k_fieldLink_rn_R_18_rn_R_rails_LRouteTracks_Rails) (fun _ h9 => h9) rfl d_R_route_70 ?_
                refine lv_iload hx hb d_R_route_73 (lv_at hl 4 rfl) ?_
                refine w_ci (As := [.ref (a 1), .int (nI (v))]) (rest := []) ⟨hx, hb, hml, hown, hts⟩ (c_S_cheapestAhead l D cI cZ g a ha w h Q (fun r9 => rt_o (K r9)) (nI (z)) bl rs1 hs1 ts1 rc1 hc1 tc1 K v hG (rt_op_lt (hK1.1 v cc hI.1)) hK2) (cwV 2 hts (t_gV k_methodLink_rn_R_116_y_S_cheapestAhead k_instanceMethod_y_S_cheapestAhead k_selects_rn_S_y_S_cheapestAhead_y_S_cheapestAhead k_initialized_rn_S k_code_y_S_cheapestAhead_prog_4_method_13_code_8_some_int) rfl rfl rfl (by decide +kernel) ⟨Nat.le_of_ble_eq_true rfl, Nat.le_of_ble_eq_true rfl⟩) (va_recv hK hP (ci := 2) (q0 := 4) rfl rfl) hP hK hZ hS rfl hl.1 rfl (Nat.le_of_ble_eq_true rfl) d_R_route_75 ⟨Nat.zero_le _, Nat.zero_le _⟩ (fun r_75 u_75 H locs hw hP hS => ?_)
                obtain ⟨b, c9, hbe, hbm, hbc, hblt⟩ := rt_best_on hK1 hI.1 hI.2.1
                rw [hbe] at hw
                subst hw
                have hP : va_P D vwCl (xw cI a w h Q (fun r9 => rt_o (K r9)) (nI (z)) bl rs1 hs1 ts1 rc1 hc1 tc1) H := hP
                have hb9 : b < 12 * (w * h) := rt_op_lt (hK1.1 b c9 hbc)
                have hc9 := hK2 b c9 hbc
                refine lv_istore (lv' := [(4, .int (nI (b))), (0, .ref (a 0)), (1, .int (nI (rr))), (2, .int (nI (z))), (3, .int (kk)), (5, .int (nI (i)))]) hx hb d_R_route_78 hl (by decide) rfl (fun ls hl => ?_)
                refine lv_iload hx hb d_R_route_80 (lv_at hl 0 rfl) ?_
                refine lv_iconst (v := (-1)) hx hb d_R_route_82 (by decide) ?_
                refine lv_icmp_eq (tgt := 92) hx hb d_R_route_83 (by decide) (fun c_83 => ?_) (fun c_83 => ?_)
                · exact absurd c_83 (rt_o_ne _ (by omega))
                · refine lv_iload hx hb d_R_route_86 (lv_at hl 5 rfl) ?_
                  refine lv_iload_n hx hb d_R_route_88 rfl (lv_at hl 4 rfl) ?_
                  refine lv_icmp_ne (tgt := 95) hx hb d_R_route_89 (by decide) (fun c_89 => ?_) (fun c_89 => ?_)
                  · refine lv_aload_n hx hb d_R_route_95 rfl (lv_at hl 1 rfl) ?_
                    refine va_get (D := D) (ci := 3) (v := .ref (a 1)) (C := rn_R) (T := tf_R) (N := 2) hx hb hts in_R hown hK hP 0 rfl rfl 0 (by decide) (hts _ k_fieldLink_rn_R_18_rn_R_rails_LRouteTracks_Rails) (fun _ h9 => h9) rfl d_R_route_96 ?_
                    refine lv_iload hx hb d_R_route_99 (lv_at hl 0 rfl) ?_
                    refine w_ci (As := [.int (nI (b))]) (rest := []) ⟨hx, hb, hml, hown, hts⟩ (c_A_hasSignal l D cI cZ g a ha w h Q (fun r9 => rt_o (K r9)) (nI (z)) bl rs1 hs1 ts1 rc1 hc1 tc1 b hG hb9) (cwV 1 hts (t_gV k_methodLink_rn_R_120_y_A_hasSignal k_instanceMethod_y_A_hasSignal k_selects_rn_A_y_A_hasSignal_y_A_hasSignal k_initialized_rn_A k_code_y_A_hasSignal_prog_3_method_10_code_3_some_boolean) rfl rfl rfl (by decide +kernel) ⟨Nat.le_of_ble_eq_true rfl, Nat.le_of_ble_eq_true rfl⟩) (va_recv hK hP (ci := 1) (q0 := 1) rfl rfl) hP hK hZ hS rfl hl.1 rfl (Nat.le_of_ble_eq_true rfl) d_R_route_101 ⟨Nat.zero_le _, Nat.zero_le _⟩ (fun r_101 u_101 H locs hw hP hS => ?_)
                    subst hw
                    have hP : va_P D vwCl (xw cI a w h Q (fun r9 => rt_o (K r9)) (nI (z)) bl rs1 hs1 ts1 rc1 hc1 tc1) H := hP
                    refine rw_bne (tgt := 120) hx hb d_R_route_104 (by decide) (fun c_104 => ?_) (fun c_104 => ?_)
                    · refine lv_iconst (v := (-1)) hx hb d_R_route_120 (by decide) ?_
                      exact w_iret ((fun r9 => rt_o (K r9)), nI z, bl, rs1, hs1, ts1, rc1, hc1, tc1) hx hb hr hlocks hS hP (⟨Or.inr ⟨z, K, hz, rfl, hK1, hK2, by first | exact (rt_ro_stop hI (by omega) c_89 hbe (Or.inl c_104)).symm | exact (rt_ro_stop hI (by omega) c_89 hbe (Or.inr (by rw [hbc, c_117]))).symm⟩, Or.inr (Or.inr ⟨z, hz, rfl, hwK⟩)⟩) d_R_route_121
                    · refine lv_aload_n hx hb d_R_route_107 rfl (lv_at hl 1 rfl) ?_
                      refine va_get (D := D) (ci := 3) (v := .ref (a 4)) (C := rn_R) (T := tf_R) (N := 2) hx hb hts in_R hown hK hP 0 rfl rfl 1 (by decide) (hts _ k_fieldLink_rn_R_27_rn_R_search_LRouteTracks_Search) (fun _ h9 => h9) rfl d_R_route_108 ?_
                      refine va_get (D := D) (ci := 2) (v := .ref (a 5)) (C := rn_S) (T := tf_S) (N := 5) hx hb hts in_S hown hK hP 4 rfl rfl 0 (by decide) (hts _ k_fieldLink_rn_R_105_rn_S_found_I) (fun _ h9 => h9) rfl d_R_route_111 ?_
                      refine lv_iload hx hb d_R_route_114 (lv_at hl 0 rfl) ?_
                      refine rw_iald (v := (nI (c9))) hx hb hK hP 5 0 rfl rfl (by omega) (by omega) (by show rt_o (K b) = _; rw [hbc]; rfl) d_R_route_116 ?_
                      refine rw_zne (tgt := 122) hx hb d_R_route_117 (by decide) (by omega) (fun c_117 => ?_) (fun c_117 => ?_)
                      · refine lv_iinc (v := (nI (i + 1))) (lv' := [(5, .int (nI (i + 1))), (4, .int (nI (b))), (0, .ref (a 0)), (1, .int (nI (rr))), (2, .int (nI (z))), (3, .int (kk))]) hx hb d_R_route_122 hl (k := 5) rfl (nI_add _ _) (by decide) rfl (fun ls hl => ?_)
                        refine lv_goto (tgt := 52) hx hb d_R_route_125 (by decide) ?_
                        exact ih_52 (i + 1) b c9 (by omega) (rt_ro_go hI c_89 hbe hb9 hbc hblt c_104 c_117) _ _ _ hP hS (lv_sub hl [2, 3, 4, 5, 1, 0] rfl)
                      · refine lv_iconst (v := (-1)) hx hb d_R_route_120 (by decide) ?_
                        exact w_iret ((fun r9 => rt_o (K r9)), nI z, bl, rs1, hs1, ts1, rc1, hc1, tc1) hx hb hr hlocks hS hP (⟨Or.inr ⟨z, K, hz, rfl, hK1, hK2, by first | exact (rt_ro_stop hI (by omega) c_89 hbe (Or.inl c_104)).symm | exact (rt_ro_stop hI (by omega) c_89 hbe (Or.inr (by rw [hbc, c_117]))).symm⟩, Or.inr (Or.inr ⟨z, hz, rfl, hwK⟩)⟩) d_R_route_121
                  · refine lv_iload hx hb d_R_route_92 (lv_at hl 0 rfl) ?_
                    exact w_iret ((fun r9 => rt_o (K r9)), nI z, bl, rs1, hs1, ts1, rc1, hc1, tc1) hx hb hr hlocks hS hP (⟨Or.inr ⟨z, K, hz, rfl, hK1, hK2, by rw [← c_89, rt_route_hit (by omega) ho_41 (by omega) (by omega), show i = i + 0 by omega, hI.2.2.2.1]; show _ = rt_o (rt_best _ _); rw [hbe]; rfl⟩, Or.inr (Or.inr ⟨z, hz, rfl, hwK⟩)⟩) d_R_route_94
          exact LP_52 (12 * (w * h)) 0 rr q (by omega) (rt_ro_0 ho_41 (by omega)) _ _ _ hP hS (lv_sub hl [2, 3, 4, 5, 1, 0] rfl)
        · refine lv_iconst (v := (-1)) hx hb d_R_route_44 (by decide) ?_
          exact w_iret (ff1, nI z, bl, rs1, hs1, ts1, rc1, hc1, tc1) hx hb hr hlocks hS hP (⟨Or.inr ⟨z, K, hz, rfl, hK1, hK2, (rt_route_n (by omega) (by first | exact Or.inl ho_41 | exact Or.inr (by rw [ho_41]; congr 1; omega))).symm⟩, Or.inr (Or.inr ⟨z, hz, rfl, hw⟩)⟩) d_R_route_45
    · refine lv_iconst (v := (-1)) hx hb d_R_route_18 (by decide) ?_
      exact w_iret (ff, hd, bl, rs, hs, ts, rc, hc, tc) hx hb hr hlocks hS hP (⟨Or.inl ⟨rfl, by first | exact Or.inl (rt_ix_no c_4) | exact Or.inr c_15⟩, hk0⟩) d_R_route_19

set_option maxHeartbeats 4000000 in
set_option maxRecDepth 100000 in
theorem c_R_count (l : Launch) (D : va_G) (cI cZ : ClassId) (g a : Nat → Nat) (ha : xI a) (w h : Nat) (Q : Nat → Nat) (ff : Nat → Int32) (hd bl : Int32) (rs : Nat → Int32) (hs ts : Int32) (rc : Nat → Int32) (hc tc : Int32) (x : Int32) (hG : rt_G w h Q) (hk0 : rt_hk Q w h hd ff bl) : Met l y_R_count (.code y_R_count b_R_count 2 (some .int) :: tG) ({ frames := 5, cells := 0, slots := 0, locals := 115 }) (va_Pc [.ref (a 0), .int (x)] (wU D cI cZ g (xA a) (xw cI a w h Q ff hd bl rs hs ts rc hc tc))) (va_Qi (S := ((Nat → Int32) × Int32 × Int32 × (Nat → Int32) × Int32 × Int32 × (Nat → Int32) × Int32 × Int32)) (fun r u => ((¬ x = nI 3 ∧ r = rt_count Q (w * h) x) ∨ (x = nI 3 ∧ ∃ B, rt_isB Q w h B ∧ r = nI (rt_nB Q (6 * (w * h)) B))) ∧ rt_hk Q w h u.2.1 u.1 u.2.2.1) (wB D (fun (u : ((Nat → Int32) × Int32 × Int32 × (Nat → Int32) × Int32 × Int32 × (Nat → Int32) × Int32 × Int32)) => (xw cI a w h Q u.1 u.2.1 u.2.2.1 u.2.2.2.1 u.2.2.2.2.1 u.2.2.2.2.2.1 u.2.2.2.2.2.2.1 u.2.2.2.2.2.2.2.1 u.2.2.2.2.2.2.2.2))) (xA a)) 0 0 (xA a) := by
  refine Met.ofW (cc := b_R_count) (maxL := 2) (ret := (some .int)) (by decide) rfl ?_
  intro p e s m args below meth c s₁ B hml hv
  obtain ⟨rfl, hP, hK, hZ⟩ := hv
  have hx := B.exec
  have hb := B.bytes
  have hr := B.returns
  have hts : ∀ w ∈ tG, w.before _ s = true := fun w hw => atoms_spec (ws := .code y_R_count b_R_count 2 (some .int) :: tG) B.pre w (List.mem_cons_of_mem _ hw)
  have hown : s.vm.findClass rn_R = some m.cls := findClass_of_methodNamed B.named
  have hlocks := B.notSynchronized
  have hS : va_S (xA a) s.heap s.heap [] := va_S.rf
  have hD : va_D (xA a) (xw cI a w h Q ff hd bl rs hs ts rc hc tc) := x_D ha _ rfl
  have hP : va_P D vwCl (xw cI a w h Q ff hd bl rs hs ts rc hc tc) s.heap := hP
  have hl := lv_entry ([.ref (a 0), .int (x)]) (n := 2) (Nat.le_of_ble_eq_true rfl)
  rw [lg_entry_eq]
  generalize (lg_sl ([.ref (a 0), .int (x)]) ++ List.replicate (2 - (lg_sl ([.ref (a 0), .int (x)])).length) Slot.unset).toArray = ls at hl ⊢
  have hl : lv_has ls 2 [(0, .ref (a 0)), (1, .int (x))] := hl
  obtain ⟨hn1, hn⟩ := hG.n
  have hw0 : 0 < w := by have := hG.1.1; omega
  have hQ := hG.2.2
  refine lv_iload_n hx hb d_R_count_0 rfl (lv_at hl 1 rfl) ?_
  rcases pk_ix x (n := 4) (by decide) with q9 | q9 | ⟨j, hj, rfl⟩
  · have hq9 := rt_ge3 (Or.inl q9)
    refine lv_tableOut (tgt := 81) hx hb d_R_count_1 (rt_t4 (Or.inl q9)) (by decide) ?_
    refine lv_iconst (v := (-1)) hx hb d_R_count_81 (by decide) ?_
    exact w_iret (ff, hd, bl, rs, hs, ts, rc, hc, tc) hx hb hr hlocks hS hP (⟨Or.inl ⟨hq9.1, (rt_count_n hq9.2).symm⟩, hk0⟩) d_R_count_82
  · have hq9 := rt_ge3 (Or.inr q9)
    refine lv_tableOut (tgt := 81) hx hb d_R_count_1 (rt_t4 (Or.inr q9)) (by decide) ?_
    refine lv_iconst (v := (-1)) hx hb d_R_count_81 (by decide) ?_
    exact w_iret (ff, hd, bl, rs, hs, ts, rc, hc, tc) hx hb hr hlocks hS hP (⟨Or.inl ⟨hq9.1, (rt_count_n hq9.2).symm⟩, hk0⟩) d_R_count_82
  · rcases (show j = 0 ∨ j = 1 ∨ j = 2 ∨ j = 3 by omega) with rfl | rfl | rfl | rfl
    · refine lv_tableIn (off := 31) (tgt := 32) hx hb d_R_count_1 (by decide) (by decide) (by decide) (by decide) ?_
      refine lv_aload_n hx hb d_R_count_32 rfl (lv_at hl 0 rfl) ?_
      refine va_get (D := D) (ci := 3) (v := .ref (a 1)) (C := rn_R) (T := tf_R) (N := 2) hx hb hts in_R hown hK hP 0 rfl rfl 0 (by decide) (hts _ k_fieldLink_rn_R_18_rn_R_rails_LRouteTracks_Rails) (fun _ h9 => h9) rfl d_R_count_33 ?_
      refine lv_iconst (v := (nI (1))) hx hb d_R_count_36 (by decide) ?_
      refine w_ci (As := [.int (nI (1))]) (rest := []) ⟨hx, hb, hml, hown, hts⟩ (c_A_piecesWith l D cI cZ g a ha w h Q ff hd bl rs hs ts rc hc tc 1 hG (by decide)) (cwV 1 hts (t_gV k_methodLink_rn_R_123_y_A_piecesWith k_instanceMethod_y_A_piecesWith k_selects_rn_A_y_A_piecesWith_y_A_piecesWith k_initialized_rn_A k_code_y_A_piecesWith_prog_3_method_9_code_4_some_int) rfl rfl rfl (by decide +kernel) ⟨Nat.le_of_ble_eq_true rfl, Nat.le_of_ble_eq_true rfl⟩) (va_recv hK hP (ci := 1) (q0 := 1) rfl rfl) hP hK hZ hS rfl hl.1 rfl (Nat.le_of_ble_eq_true rfl) d_R_count_37 ⟨Nat.zero_le _, Nat.zero_le _⟩ (fun r_37 u_37 H locs hw hP hS => ?_)
      subst hw
      have hP : va_P D vwCl (xw cI a w h Q ff hd bl rs hs ts rc hc tc) H := hP
      exact w_iret (ff, hd, bl, rs, hs, ts, rc, hc, tc) hx hb hr hlocks hS hP (⟨Or.inl ⟨by decide, rt_count_s.1.symm⟩, hk0⟩) d_R_count_40
    · refine lv_tableIn (off := 40) (tgt := 41) hx hb d_R_count_1 (by decide) (by decide) (by decide) (by decide) ?_
      refine lv_aload_n hx hb d_R_count_41 rfl (lv_at hl 0 rfl) ?_
      refine va_get (D := D) (ci := 3) (v := .ref (a 1)) (C := rn_R) (T := tf_R) (N := 2) hx hb hts in_R hown hK hP 0 rfl rfl 0 (by decide) (hts _ k_fieldLink_rn_R_18_rn_R_rails_LRouteTracks_Rails) (fun _ h9 => h9) rfl d_R_count_42 ?_
      refine lv_bipush (v := (nI (28))) hx hb d_R_count_45 (by decide) ?_
      refine w_ci (As := [.int (nI (28))]) (rest := []) ⟨hx, hb, hml, hown, hts⟩ (c_A_piecesWith l D cI cZ g a ha w h Q ff hd bl rs hs ts rc hc tc 28 hG (by decide)) (cwV 1 hts (t_gV k_methodLink_rn_R_123_y_A_piecesWith k_instanceMethod_y_A_piecesWith k_selects_rn_A_y_A_piecesWith_y_A_piecesWith k_initialized_rn_A k_code_y_A_piecesWith_prog_3_method_9_code_4_some_int) rfl rfl rfl (by decide +kernel) ⟨Nat.le_of_ble_eq_true rfl, Nat.le_of_ble_eq_true rfl⟩) (va_recv hK hP (ci := 1) (q0 := 1) rfl rfl) hP hK hZ hS rfl hl.1 rfl (Nat.le_of_ble_eq_true rfl) d_R_count_47 ⟨Nat.zero_le _, Nat.zero_le _⟩ (fun r_47 u_47 H locs hw hP hS => ?_)
      subst hw
      have hP : va_P D vwCl (xw cI a w h Q ff hd bl rs hs ts rc hc tc) H := hP
      exact w_iret (ff, hd, bl, rs, hs, ts, rc, hc, tc) hx hb hr hlocks hS hP (⟨Or.inl ⟨by decide, rt_count_s.2.1.symm⟩, hk0⟩) d_R_count_50
    · refine lv_tableIn (off := 50) (tgt := 51) hx hb d_R_count_1 (by decide) (by decide) (by decide) (by decide) ?_
      refine lv_aload_n hx hb d_R_count_51 rfl (lv_at hl 0 rfl) ?_
      refine va_get (D := D) (ci := 3) (v := .ref (a 1)) (C := rn_R) (T := tf_R) (N := 2) hx hb hts in_R hown hK hP 0 rfl rfl 0 (by decide) (hts _ k_fieldLink_rn_R_18_rn_R_rails_LRouteTracks_Rails) (fun _ h9 => h9) rfl d_R_count_52 ?_
      refine lv_sipush (v := (nI (480))) hx hb d_R_count_55 (by decide) ?_
      refine w_ci (As := [.int (nI (480))]) (rest := []) ⟨hx, hb, hml, hown, hts⟩ (c_A_piecesWith l D cI cZ g a ha w h Q ff hd bl rs hs ts rc hc tc 480 hG (by decide)) (cwV 1 hts (t_gV k_methodLink_rn_R_123_y_A_piecesWith k_instanceMethod_y_A_piecesWith k_selects_rn_A_y_A_piecesWith_y_A_piecesWith k_initialized_rn_A k_code_y_A_piecesWith_prog_3_method_9_code_4_some_int) rfl rfl rfl (by decide +kernel) ⟨Nat.le_of_ble_eq_true rfl, Nat.le_of_ble_eq_true rfl⟩) (va_recv hK hP (ci := 1) (q0 := 1) rfl rfl) hP hK hZ hS rfl hl.1 rfl (Nat.le_of_ble_eq_true rfl) d_R_count_58 ⟨Nat.zero_le _, Nat.zero_le _⟩ (fun r_58 u_58 H locs hw hP hS => ?_)
      subst hw
      have hP : va_P D vwCl (xw cI a w h Q ff hd bl rs hs ts rc hc tc) H := hP
      exact w_iret (ff, hd, bl, rs, hs, ts, rc, hc, tc) hx hb hr hlocks hS hP (⟨Or.inl ⟨by decide, rt_count_s.2.2.symm⟩, hk0⟩) d_R_count_61
    · refine lv_tableIn (off := 61) (tgt := 62) hx hb d_R_count_1 (by decide) (by decide) (by decide) (by decide) ?_
      refine lv_aload_n hx hb d_R_count_62 rfl (lv_at hl 0 rfl) ?_
      refine va_get (D := D) (ci := 3) (v := .ref (a 4)) (C := rn_R) (T := tf_R) (N := 2) hx hb hts in_R hown hK hP 0 rfl rfl 1 (by decide) (hts _ k_fieldLink_rn_R_27_rn_R_search_LRouteTracks_Search) (fun _ h9 => h9) rfl d_R_count_63 ?_
      refine lv_aload_n hx hb d_R_count_66 rfl (lv_at hl 0 rfl) ?_
      refine va_get (D := D) (ci := 3) (v := .ref (a 1)) (C := rn_R) (T := tf_R) (N := 2) hx hb hts in_R hown hK hP 0 rfl rfl 0 (by decide) (hts _ k_fieldLink_rn_R_18_rn_R_rails_LRouteTracks_Rails) (fun _ h9 => h9) rfl d_R_count_67 ?_
      refine w_cv (As := [.ref (a 1)]) (rest := []) ⟨hx, hb, hml, hown, hts⟩ (c_S_findBlocks l D cI cZ g a ha w h Q ff hd bl rs hs ts rc hc tc  hG hk0) (cwV 1 hts (t_gV k_methodLink_rn_R_101_y_S_findBlocks k_instanceMethod_y_S_findBlocks k_selects_rn_S_y_S_findBlocks_y_S_findBlocks k_initialized_rn_S k_code_y_S_findBlocks_prog_4_method_3_code_3_none) rfl rfl rfl (by decide +kernel) ⟨Nat.le_of_ble_eq_true rfl, Nat.le_of_ble_eq_true rfl⟩) (va_recv hK hP (ci := 2) (q0 := 4) rfl rfl) hP hK hZ hS rfl hl.1 rfl (Nat.le_of_ble_eq_true rfl) d_R_count_70 ⟨Nat.zero_le _, Nat.zero_le _⟩ (fun u_70 H locs hw hP hS => ?_)
      obtain ⟨ff1, bl1, rc1, hc1, tc1⟩ := u_70
      have hP : va_P D vwCl (xw cI a w h Q ff1 (nI (8)) bl1 rs hs ts rc1 hc1 tc1) H := hP
      have hD : va_D (xA a) (xw cI a w h Q ff1 (nI (8)) bl1 rs hs ts rc1 hc1 tc1) := x_D ha _ rfl
      obtain ⟨B9, hB1, hB2, hB3⟩ := id hw
      dsimp only at hB2 hB3
      refine lv_aload_n hx hb d_R_count_73 rfl (lv_at hl 0 rfl) ?_
      refine va_get (D := D) (ci := 3) (v := .ref (a 4)) (C := rn_R) (T := tf_R) (N := 2) hx hb hts in_R hown hK hP 0 rfl rfl 1 (by decide) (hts _ k_fieldLink_rn_R_27_rn_R_search_LRouteTracks_Search) (fun _ h9 => h9) rfl d_R_count_74 ?_
      refine va_get (D := D) (ci := 2) (v := .int (bl1)) (C := rn_S) (T := tf_S) (N := 5) hx hb hts in_S hown hK hP 4 rfl rfl 4 (by decide) (hts _ k_fieldLink_rn_R_126_rn_S_blocks_I) (fun _ h9 => h9) rfl d_R_count_77 ?_
      exact w_iret (ff1, nI 8, bl1, rs, hs, ts, rc1, hc1, tc1) hx hb hr hlocks hS hP (⟨Or.inr ⟨rfl, B9, hB1, hB3⟩, Or.inr (Or.inl ⟨rfl, hw⟩)⟩) d_R_count_80
end
