section
-- ===== PART A: goes FIRST, ahead of the names: the tables' words, and 'selects' of the private methods out of them =====
/-- a private method of a class that the tables say can be made, by its rows of tables_1 -/
def lw_okq (q : MethodName × Nat) : Prop := (q.1.cls ≠ "java/lang/invoke/MethodHandle" ∧ q.1.cls ≠ "java/lang/invoke/VarHandle") ∧ Cond.instantiable q.1.cls q.2 ∈ tables_1 ∧ Cond.privateMethod q.1 ∈ tables_1 ∧ Cond.instanceMethod q.1 ∈ tables_1
theorem lw_p0 : lw_okq (⟨"RouteTracks$Search", "floodBlock", "(LRouteTracks$Rails;I)V"⟩, 5) := ⟨⟨by decide +kernel, by decide +kernel⟩, List.mem_of_getElem? (i := 47) (by decide +kernel), List.mem_of_getElem? (i := 159) (by decide +kernel), List.mem_of_getElem? (i := 160) (by decide +kernel)⟩
theorem lw_p1 : lw_okq (⟨"RouteTracks$Search", "join", "(II)V"⟩, 5) := ⟨⟨by decide +kernel, by decide +kernel⟩, List.mem_of_getElem? (i := 47) (by decide +kernel), List.mem_of_getElem? (i := 167) (by decide +kernel), List.mem_of_getElem? (i := 168) (by decide +kernel)⟩
theorem lw_p2 : lw_okq (⟨"RouteTracks$Search", "joinMeeting", "(LRouteTracks$Rails;II)V"⟩, 5) := ⟨⟨by decide +kernel, by decide +kernel⟩, List.mem_of_getElem? (i := 47) (by decide +kernel), List.mem_of_getElem? (i := 184) (by decide +kernel), List.mem_of_getElem? (i := 185) (by decide +kernel)⟩
theorem lw_p3 : lw_okq (⟨"RouteTracks$Search", "joinAcross", "(LRouteTracks$Rails;II)V"⟩, 5) := ⟨⟨by decide +kernel, by decide +kernel⟩, List.mem_of_getElem? (i := 47) (by decide +kernel), List.mem_of_getElem? (i := 190) (by decide +kernel), List.mem_of_getElem? (i := 191) (by decide +kernel)⟩
theorem lw_p4 : lw_okq (⟨"RouteTracks$Search", "settleTargets", "(LRouteTracks$Rails;I)V"⟩, 5) := ⟨⟨by decide +kernel, by decide +kernel⟩, List.mem_of_getElem? (i := 47) (by decide +kernel), List.mem_of_getElem? (i := 225) (by decide +kernel), List.mem_of_getElem? (i := 226) (by decide +kernel)⟩
theorem lw_p5 : lw_okq (⟨"RouteTracks$Search", "settle", "(LRouteTracks$Rails;II)V"⟩, 5) := ⟨⟨by decide +kernel, by decide +kernel⟩, List.mem_of_getElem? (i := 47) (by decide +kernel), List.mem_of_getElem? (i := 232) (by decide +kernel), List.mem_of_getElem? (i := 233) (by decide +kernel)⟩
theorem lw_p6 : lw_okq (⟨"RouteTracks$Search", "takeNearest", "()I"⟩, 5) := ⟨⟨by decide +kernel, by decide +kernel⟩, List.mem_of_getElem? (i := 47) (by decide +kernel), List.mem_of_getElem? (i := 240) (by decide +kernel), List.mem_of_getElem? (i := 241) (by decide +kernel)⟩
theorem lw_p7 : lw_okq (⟨"RouteTracks$Search", "settleBehind", "(LRouteTracks$Rails;I)V"⟩, 5) := ⟨⟨by decide +kernel, by decide +kernel⟩, List.mem_of_getElem? (i := 47) (by decide +kernel), List.mem_of_getElem? (i := 248) (by decide +kernel), List.mem_of_getElem? (i := 249) (by decide +kernel)⟩
theorem lw_p8 : lw_okq (⟨"RouteTracks", "requirePlace", "(II)V"⟩, 2) := ⟨⟨by decide +kernel, by decide +kernel⟩, List.mem_of_getElem? (i := 14) (by decide +kernel), List.mem_of_getElem? (i := 287) (by decide +kernel), List.mem_of_getElem? (i := 288) (by decide +kernel)⟩
theorem lw_p9 : lw_okq (⟨"java/lang/Throwable", "fillInStackTrace", "(I)Ljava/lang/Throwable;"⟩, 6) := ⟨⟨by decide +kernel, by decide +kernel⟩, List.mem_of_getElem? (i := 328) (by decide +kernel), List.mem_of_getElem? (i := 326) (by decide +kernel), List.mem_of_getElem? (i := 327) (by decide +kernel)⟩
theorem lw_p10 : lw_okq (⟨"RouteTracks", "requireThere", "(I)V"⟩, 2) := ⟨⟨by decide +kernel, by decide +kernel⟩, List.mem_of_getElem? (i := 14) (by decide +kernel), List.mem_of_getElem? (i := 391) (by decide +kernel), List.mem_of_getElem? (i := 392) (by decide +kernel)⟩
theorem lw_p11 : lw_okq (⟨"RouteTracksModel", "isTile", "(I)Z"⟩, 12) := ⟨⟨by decide +kernel, by decide +kernel⟩, List.mem_of_getElem? (i := 419) (by decide +kernel), List.mem_of_getElem? (i := 471) (by decide +kernel), List.mem_of_getElem? (i := 472) (by decide +kernel)⟩
theorem lw_p12 : lw_okq (⟨"RouteTracksModel", "isOpen", "(I)Z"⟩, 12) := ⟨⟨by decide +kernel, by decide +kernel⟩, List.mem_of_getElem? (i := 419) (by decide +kernel), List.mem_of_getElem? (i := 498) (by decide +kernel), List.mem_of_getElem? (i := 499) (by decide +kernel)⟩
theorem lw_p13 : lw_okq (⟨"RouteTracksModel", "isRun", "(I)Z"⟩, 12) := ⟨⟨by decide +kernel, by decide +kernel⟩, List.mem_of_getElem? (i := 419) (by decide +kernel), List.mem_of_getElem? (i := 502) (by decide +kernel), List.mem_of_getElem? (i := 503) (by decide +kernel)⟩
theorem lw_p14 : lw_okq (⟨"RouteTracksModel", "signalled", "(I)I"⟩, 12) := ⟨⟨by decide +kernel, by decide +kernel⟩, List.mem_of_getElem? (i := 419) (by decide +kernel), List.mem_of_getElem? (i := 506) (by decide +kernel), List.mem_of_getElem? (i := 507) (by decide +kernel)⟩
theorem lw_p15 : lw_okq (⟨"RouteTracksModel", "follower", "(II)I"⟩, 12) := ⟨⟨by decide +kernel, by decide +kernel⟩, List.mem_of_getElem? (i := 419) (by decide +kernel), List.mem_of_getElem? (i := 510) (by decide +kernel), List.mem_of_getElem? (i := 511) (by decide +kernel)⟩
def lw_privs_1 : List (MethodName × Nat) := [(⟨"RouteTracks$Search", "floodBlock", "(LRouteTracks$Rails;I)V"⟩, 5), (⟨"RouteTracks$Search", "join", "(II)V"⟩, 5), (⟨"RouteTracks$Search", "joinMeeting", "(LRouteTracks$Rails;II)V"⟩, 5), (⟨"RouteTracks$Search", "joinAcross", "(LRouteTracks$Rails;II)V"⟩, 5), (⟨"RouteTracks$Search", "settleTargets", "(LRouteTracks$Rails;I)V"⟩, 5), (⟨"RouteTracks$Search", "settle", "(LRouteTracks$Rails;II)V"⟩, 5), (⟨"RouteTracks$Search", "takeNearest", "()I"⟩, 5), (⟨"RouteTracks$Search", "settleBehind", "(LRouteTracks$Rails;I)V"⟩, 5), (⟨"RouteTracks", "requirePlace", "(II)V"⟩, 2), (⟨"java/lang/Throwable", "fillInStackTrace", "(I)Ljava/lang/Throwable;"⟩, 6), (⟨"RouteTracks", "requireThere", "(I)V"⟩, 2), (⟨"RouteTracksModel", "isTile", "(I)Z"⟩, 12), (⟨"RouteTracksModel", "isOpen", "(I)Z"⟩, 12), (⟨"RouteTracksModel", "isRun", "(I)Z"⟩, 12), (⟨"RouteTracksModel", "signalled", "(I)I"⟩, 12), (⟨"RouteTracksModel", "follower", "(II)I"⟩, 12)]
theorem lw_r1 : ∀ q ∈ lw_privs_1, lw_okq q := List.forall_mem_cons.mpr ⟨lw_p0, List.forall_mem_cons.mpr ⟨lw_p1, List.forall_mem_cons.mpr ⟨lw_p2, List.forall_mem_cons.mpr ⟨lw_p3, List.forall_mem_cons.mpr ⟨lw_p4, List.forall_mem_cons.mpr ⟨lw_p5, List.forall_mem_cons.mpr ⟨lw_p6, List.forall_mem_cons.mpr ⟨lw_p7, List.forall_mem_cons.mpr ⟨lw_p8, List.forall_mem_cons.mpr ⟨lw_p9, List.forall_mem_cons.mpr ⟨lw_p10, List.forall_mem_cons.mpr ⟨lw_p11, List.forall_mem_cons.mpr ⟨lw_p12, List.forall_mem_cons.mpr ⟨lw_p13, List.forall_mem_cons.mpr ⟨lw_p14, List.forall_mem_cons.mpr ⟨lw_p15, fun _ h => absurd h List.not_mem_nil⟩⟩⟩⟩⟩⟩⟩⟩⟩⟩⟩⟩⟩⟩⟩⟩
theorem lw_p16 : lw_okq (⟨"RouteTracksModel", "to", "(I)I"⟩, 12) := ⟨⟨by decide +kernel, by decide +kernel⟩, List.mem_of_getElem? (i := 419) (by decide +kernel), List.mem_of_getElem? (i := 514) (by decide +kernel), List.mem_of_getElem? (i := 515) (by decide +kernel)⟩
theorem lw_p17 : lw_okq (⟨"RouteTracksModel", "beyond", "(II)I"⟩, 12) := ⟨⟨by decide +kernel, by decide +kernel⟩, List.mem_of_getElem? (i := 419) (by decide +kernel), List.mem_of_getElem? (i := 518) (by decide +kernel), List.mem_of_getElem? (i := 519) (by decide +kernel)⟩
theorem lw_p18 : lw_okq (⟨"RouteTracksModel", "from", "(I)I"⟩, 12) := ⟨⟨by decide +kernel, by decide +kernel⟩, List.mem_of_getElem? (i := 419) (by decide +kernel), List.mem_of_getElem? (i := 522) (by decide +kernel), List.mem_of_getElem? (i := 523) (by decide +kernel)⟩
theorem lw_p19 : lw_okq (⟨"RouteTracksModel", "isPiece", "(II)Z"⟩, 12) := ⟨⟨by decide +kernel, by decide +kernel⟩, List.mem_of_getElem? (i := 419) (by decide +kernel), List.mem_of_getElem? (i := 537) (by decide +kernel), List.mem_of_getElem? (i := 538) (by decide +kernel)⟩
theorem lw_p20 : lw_okq (⟨"RouteTracksModel", "unreach", "()V"⟩, 12) := ⟨⟨by decide +kernel, by decide +kernel⟩, List.mem_of_getElem? (i := 419) (by decide +kernel), List.mem_of_getElem? (i := 541) (by decide +kernel), List.mem_of_getElem? (i := 542) (by decide +kernel)⟩
theorem lw_p21 : lw_okq (⟨"RouteTracksModel", "lowest", "(I)I"⟩, 12) := ⟨⟨by decide +kernel, by decide +kernel⟩, List.mem_of_getElem? (i := 419) (by decide +kernel), List.mem_of_getElem? (i := 545) (by decide +kernel), List.mem_of_getElem? (i := 546) (by decide +kernel)⟩
theorem lw_p22 : lw_okq (⟨"RouteTracksModel", "touch", "(II)Z"⟩, 12) := ⟨⟨by decide +kernel, by decide +kernel⟩, List.mem_of_getElem? (i := 419) (by decide +kernel), List.mem_of_getElem? (i := 549) (by decide +kernel), List.mem_of_getElem? (i := 550) (by decide +kernel)⟩
theorem lw_p23 : lw_okq (⟨"RouteTracksModel", "ends", "(II)Z"⟩, 12) := ⟨⟨by decide +kernel, by decide +kernel⟩, List.mem_of_getElem? (i := 419) (by decide +kernel), List.mem_of_getElem? (i := 553) (by decide +kernel), List.mem_of_getElem? (i := 554) (by decide +kernel)⟩
theorem lw_p24 : lw_okq (⟨"RouteTracksModel", "guards", "(II)Z"⟩, 12) := ⟨⟨by decide +kernel, by decide +kernel⟩, List.mem_of_getElem? (i := 419) (by decide +kernel), List.mem_of_getElem? (i := 557) (by decide +kernel), List.mem_of_getElem? (i := 558) (by decide +kernel)⟩
theorem lw_p25 : lw_okq (⟨"RouteTracksModel", "target", "(II)Z"⟩, 12) := ⟨⟨by decide +kernel, by decide +kernel⟩, List.mem_of_getElem? (i := 419) (by decide +kernel), List.mem_of_getElem? (i := 572) (by decide +kernel), List.mem_of_getElem? (i := 573) (by decide +kernel)⟩
theorem lw_p26 : lw_okq (⟨"RouteTracksModel", "reckon", "(I)V"⟩, 12) := ⟨⟨by decide +kernel, by decide +kernel⟩, List.mem_of_getElem? (i := 419) (by decide +kernel), List.mem_of_getElem? (i := 580) (by decide +kernel), List.mem_of_getElem? (i := 581) (by decide +kernel)⟩
theorem lw_p27 : lw_okq (⟨"RouteTracksModel", "onward", "(I)I"⟩, 12) := ⟨⟨by decide +kernel, by decide +kernel⟩, List.mem_of_getElem? (i := 419) (by decide +kernel), List.mem_of_getElem? (i := 585) (by decide +kernel), List.mem_of_getElem? (i := 586) (by decide +kernel)⟩
def lw_privs_2 : List (MethodName × Nat) := [(⟨"RouteTracksModel", "to", "(I)I"⟩, 12), (⟨"RouteTracksModel", "beyond", "(II)I"⟩, 12), (⟨"RouteTracksModel", "from", "(I)I"⟩, 12), (⟨"RouteTracksModel", "isPiece", "(II)Z"⟩, 12), (⟨"RouteTracksModel", "unreach", "()V"⟩, 12), (⟨"RouteTracksModel", "lowest", "(I)I"⟩, 12), (⟨"RouteTracksModel", "touch", "(II)Z"⟩, 12), (⟨"RouteTracksModel", "ends", "(II)Z"⟩, 12), (⟨"RouteTracksModel", "guards", "(II)Z"⟩, 12), (⟨"RouteTracksModel", "target", "(II)Z"⟩, 12), (⟨"RouteTracksModel", "reckon", "(I)V"⟩, 12), (⟨"RouteTracksModel", "onward", "(I)I"⟩, 12)]
theorem lw_r2 : ∀ q ∈ lw_privs_2, lw_okq q := List.forall_mem_cons.mpr ⟨lw_p16, List.forall_mem_cons.mpr ⟨lw_p17, List.forall_mem_cons.mpr ⟨lw_p18, List.forall_mem_cons.mpr ⟨lw_p19, List.forall_mem_cons.mpr ⟨lw_p20, List.forall_mem_cons.mpr ⟨lw_p21, List.forall_mem_cons.mpr ⟨lw_p22, List.forall_mem_cons.mpr ⟨lw_p23, List.forall_mem_cons.mpr ⟨lw_p24, List.forall_mem_cons.mpr ⟨lw_p25, List.forall_mem_cons.mpr ⟨lw_p26, List.forall_mem_cons.mpr ⟨lw_p27, fun _ h => absurd h List.not_mem_nil⟩⟩⟩⟩⟩⟩⟩⟩⟩⟩⟩⟩
def lw_privs : List (MethodName × Nat) := lw_privs_1 ++ (lw_privs_2)
def lw_tbl : List Cond := k2_sels lw_privs ++ tables_1
theorem lw_privs_ok : ∀ q ∈ lw_privs, lw_okq q := by
  show ∀ q ∈ lw_privs_1 ++ (lw_privs_2), lw_okq q
  exact List.forall_mem_append.mpr ⟨lw_r1, lw_r2⟩
end
section
/-! NAMES, by program (wip/whole/gen/mknames.py) -/
def rn_Q : String := "RouteTracks$Queue"
def rn_A : String := "RouteTracks$Rails"
def rn_S : String := "RouteTracks$Search"
def rn_R : String := "RouteTracks"
def rn_M : String := "RouteTracksModel"
def rn_L : String := "RouteTracksLaw"
def rn_JM : String := "java/lang/Math"
def rn_JA : String := "java/util/Arrays"
def tf_Q : u_T := fun k => match k with
  | 0 => ("RouteTracks$Queue", "row", "[I", true)
  | 1 => ("RouteTracks$Queue", "head", "I", false)
  | _ => ("RouteTracks$Queue", "tail", "I", false)
def tt_Q : Nat → FieldType := fun k => match k with
  | 0 => .array .int
  | 1 => .int
  | _ => .int
theorem nm_Q : ∀ a, a < 3 → ∀ b, b < 3 → a ≠ b → (tf_Q a).2.1 ≠ (tf_Q b).2.1 := by decide +kernel
theorem tt_Q_ok : ∀ k, k < 3 → parseFieldDescriptor (tf_Q k).2.2.1 = some (tt_Q k) := by decide +kernel
def tf_A : u_T := fun k => match k with
  | 0 => ("RouteTracks$Rails", "beyond", "[I", true)
  | _ => ("RouteTracks$Rails", "pieces", "[I", true)
def tt_A : Nat → FieldType := fun k => match k with
  | 0 => .array .int
  | _ => .array .int
theorem nm_A : ∀ a, a < 2 → ∀ b, b < 2 → a ≠ b → (tf_A a).2.1 ≠ (tf_A b).2.1 := by decide +kernel
theorem tt_A_ok : ∀ k, k < 2 → parseFieldDescriptor (tf_A k).2.2.1 = some (tt_A k) := by decide +kernel
def tf_S : u_T := fun k => match k with
  | 0 => ("RouteTracks$Search", "found", "[I", true)
  | 1 => ("RouteTracks$Search", "straights", "LRouteTracks$Queue;", true)
  | 2 => ("RouteTracks$Search", "curves", "LRouteTracks$Queue;", true)
  | 3 => ("RouteTracks$Search", "held", "I", false)
  | _ => ("RouteTracks$Search", "blocks", "I", false)
def tt_S : Nat → FieldType := fun k => match k with
  | 0 => .array .int
  | 1 => .object "RouteTracks$Queue"
  | 2 => .object "RouteTracks$Queue"
  | 3 => .int
  | _ => .int
theorem nm_S : ∀ a, a < 5 → ∀ b, b < 5 → a ≠ b → (tf_S a).2.1 ≠ (tf_S b).2.1 := by decide +kernel
theorem tt_S_ok : ∀ k, k < 5 → parseFieldDescriptor (tf_S k).2.2.1 = some (tt_S k) := by decide +kernel
def tf_R : u_T := fun k => match k with
  | 0 => ("RouteTracks", "rails", "LRouteTracks$Rails;", true)
  | _ => ("RouteTracks", "search", "LRouteTracks$Search;", true)
def tt_R : Nat → FieldType := fun k => match k with
  | 0 => .object "RouteTracks$Rails"
  | _ => .object "RouteTracks$Search"
theorem nm_R : ∀ a, a < 2 → ∀ b, b < 2 → a ≠ b → (tf_R a).2.1 ≠ (tf_R b).2.1 := by decide +kernel
theorem tt_R_ok : ∀ k, k < 2 → parseFieldDescriptor (tf_R k).2.2.1 = some (tt_R k) := by decide +kernel
def tf_M : u_T := fun k => match k with
  | 0 => ("RouteTracksModel", "edges", "[I", true)
  | 1 => ("RouteTracksModel", "thrown", "I", false)
  | 2 => ("RouteTracksModel", "w", "I", true)
  | 3 => ("RouteTracksModel", "h", "I", true)
  | 4 => ("RouteTracksModel", "there", "[Z", true)
  | 5 => ("RouteTracksModel", "signs", "[I", true)
  | 6 => ("RouteTracksModel", "stations", "[I", true)
  | 7 => ("RouteTracksModel", "list", "[I", true)
  | 8 => ("RouteTracksModel", "pieces", "I", false)
  | 9 => ("RouteTracksModel", "cost", "[I", true)
  | 10 => ("RouteTracksModel", "reached", "[Z", true)
  | _ => ("RouteTracksModel", "pile", "[I", true)
def tt_M : Nat → FieldType := fun k => match k with
  | 0 => .array .int
  | 1 => .int
  | 2 => .int
  | 3 => .int
  | 4 => .array .boolean
  | 5 => .array .int
  | 6 => .array .int
  | 7 => .array .int
  | 8 => .int
  | 9 => .array .int
  | 10 => .array .boolean
  | _ => .array .int
theorem nm_M : ∀ a, a < 12 → ∀ b, b < 12 → a ≠ b → (tf_M a).2.1 ≠ (tf_M b).2.1 := by decide +kernel
theorem tt_M_ok : ∀ k, k < 12 → parseFieldDescriptor (tf_M k).2.2.1 = some (tt_M k) := by decide +kernel
abbrev vwCl : List vw_C := [(rn_Q, tf_Q, 3), (rn_A, tf_A, 2), (rn_S, tf_S, 5), (rn_R, tf_R, 2), (rn_M, tf_M, 12)]
abbrev b_R_init : ByteArray := prog_1_method_1_code
def y_R_init : MethodName := ⟨rn_R, "<init>", "(II)V"⟩
abbrev b_R_sideWithin : ByteArray := prog_1_method_15_code
def y_R_sideWithin : MethodName := ⟨rn_R, "sideWithin", "(I)I"⟩
abbrev b_JM_min : ByteArray := prog_10_method_69_code
def y_JM_min : MethodName := ⟨rn_JM, "min", "(II)I"⟩
abbrev b_JM_max : ByteArray := prog_10_method_65_code
def y_JM_max : MethodName := ⟨rn_JM, "max", "(II)I"⟩
abbrev b_A_init : ByteArray := prog_3_method_1_code
def y_A_init : MethodName := ⟨rn_A, "<init>", "(II)V"⟩
abbrev b_S_init : ByteArray := prog_4_method_1_code
def y_S_init : MethodName := ⟨rn_S, "<init>", "(I)V"⟩
abbrev b_Q_init : ByteArray := prog_2_method_1_code
def y_Q_init : MethodName := ⟨rn_Q, "<init>", "(I)V"⟩
abbrev b_R_at : ByteArray := prog_1_method_6_code
def y_R_at : MethodName := ⟨rn_R, "at", "(II)I"⟩
abbrev b_A_hasTile : ByteArray := prog_3_method_2_code
def y_A_hasTile : MethodName := ⟨rn_A, "hasTile", "(I)Z"⟩
abbrev b_A_kindsIn : ByteArray := prog_3_method_8_code
def y_A_kindsIn : MethodName := ⟨rn_A, "kindsIn", "(I)I"⟩
abbrev b_A_isThere : ByteArray := prog_3_method_5_code
def y_A_isThere : MethodName := ⟨rn_A, "isThere", "(I)Z"⟩
abbrev b_R_next : ByteArray := prog_1_method_7_code
def y_R_next : MethodName := ⟨rn_R, "next", "(II)I"⟩
abbrev b_A_isOpen : ByteArray := prog_3_method_11_code
def y_A_isOpen : MethodName := ⟨rn_A, "isOpen", "(I)Z"⟩
abbrev b_A_hasSignal : ByteArray := prog_3_method_10_code
def y_A_hasSignal : MethodName := ⟨rn_A, "hasSignal", "(I)Z"⟩
abbrev b_A_signalOf : ByteArray := prog_3_method_6_code
def y_A_signalOf : MethodName := ⟨rn_A, "signalOf", "(I)I"⟩
abbrev b_A_ahead : ByteArray := prog_3_method_14_code
def y_A_ahead : MethodName := ⟨rn_A, "ahead", "(II)I"⟩
abbrev b_R_before : ByteArray := prog_1_method_8_code
def y_R_before : MethodName := ⟨rn_R, "before", "(I)I"⟩
abbrev b_A_behind : ByteArray := prog_3_method_15_code
def y_A_behind : MethodName := ⟨rn_A, "behind", "(II)I"⟩
abbrev b_R_block : ByteArray := prog_1_method_9_code
def y_R_block : MethodName := ⟨rn_R, "block", "(II)I"⟩
abbrev b_R_isKind : ByteArray := prog_1_method_16_code
def y_R_isKind : MethodName := ⟨rn_R, "isKind", "(I)Z"⟩
abbrev b_S_findBlocks : ByteArray := prog_4_method_3_code
def y_S_findBlocks : MethodName := ⟨rn_S, "findBlocks", "(LRouteTracks$Rails;)V"⟩
abbrev b_JA_fill : ByteArray := prog_14_method_103_code
def y_JA_fill : MethodName := ⟨rn_JA, "fill", "([II)V"⟩
abbrev b_S_floodBlock : ByteArray := prog_4_method_4_code
def y_S_floodBlock : MethodName := ⟨rn_S, "floodBlock", "(LRouteTracks$Rails;I)V"⟩
abbrev b_Q_clear : ByteArray := prog_2_method_2_code
def y_Q_clear : MethodName := ⟨rn_Q, "clear", "()V"⟩
abbrev b_S_join : ByteArray := prog_4_method_7_code
def y_S_join : MethodName := ⟨rn_S, "join", "(II)V"⟩
abbrev b_Q_add : ByteArray := prog_2_method_4_code
def y_Q_add : MethodName := ⟨rn_Q, "add", "(I)V"⟩
abbrev b_Q_isEmpty : ByteArray := prog_2_method_3_code
def y_Q_isEmpty : MethodName := ⟨rn_Q, "isEmpty", "()Z"⟩
abbrev b_Q_take : ByteArray := prog_2_method_6_code
def y_Q_take : MethodName := ⟨rn_Q, "take", "()I"⟩
abbrev b_S_joinMeeting : ByteArray := prog_4_method_5_code
def y_S_joinMeeting : MethodName := ⟨rn_S, "joinMeeting", "(LRouteTracks$Rails;II)V"⟩
abbrev b_S_joinAcross : ByteArray := prog_4_method_6_code
def y_S_joinAcross : MethodName := ⟨rn_S, "joinAcross", "(LRouteTracks$Rails;II)V"⟩
abbrev b_R_sign : ByteArray := prog_1_method_10_code
def y_R_sign : MethodName := ⟨rn_R, "sign", "(I)I"⟩
abbrev b_R_isStation : ByteArray := prog_1_method_17_code
def y_R_isStation : MethodName := ⟨rn_R, "isStation", "(I)Z"⟩
abbrev b_A_stationOf : ByteArray := prog_3_method_7_code
def y_A_stationOf : MethodName := ⟨rn_A, "stationOf", "(I)I"⟩
abbrev b_R_isTarget : ByteArray := prog_1_method_11_code
def y_R_isTarget : MethodName := ⟨rn_R, "isTarget", "(II)Z"⟩
abbrev b_A_isLastOf : ByteArray := prog_3_method_16_code
def y_A_isLastOf : MethodName := ⟨rn_A, "isLastOf", "(II)Z"⟩
abbrev b_R_cost : ByteArray := prog_1_method_12_code
def y_R_cost : MethodName := ⟨rn_R, "cost", "(II)I"⟩
abbrev b_S_findCosts : ByteArray := prog_4_method_8_code
def y_S_findCosts : MethodName := ⟨rn_S, "findCosts", "(LRouteTracks$Rails;I)V"⟩
abbrev b_S_settleTargets : ByteArray := prog_4_method_9_code
def y_S_settleTargets : MethodName := ⟨rn_S, "settleTargets", "(LRouteTracks$Rails;I)V"⟩
abbrev b_S_settle : ByteArray := prog_4_method_11_code
def y_S_settle : MethodName := ⟨rn_S, "settle", "(LRouteTracks$Rails;II)V"⟩
abbrev b_A_isStraight : ByteArray := prog_3_method_12_code
def y_A_isStraight : MethodName := ⟨rn_A, "isStraight", "(I)Z"⟩
abbrev b_S_takeNearest : ByteArray := prog_4_method_12_code
def y_S_takeNearest : MethodName := ⟨rn_S, "takeNearest", "()I"⟩
abbrev b_Q_first : ByteArray := prog_2_method_5_code
def y_Q_first : MethodName := ⟨rn_Q, "first", "()I"⟩
abbrev b_S_settleBehind : ByteArray := prog_4_method_10_code
def y_S_settleBehind : MethodName := ⟨rn_S, "settleBehind", "(LRouteTracks$Rails;I)V"⟩
abbrev b_A_lengthOf : ByteArray := prog_3_method_13_code
def y_A_lengthOf : MethodName := ⟨rn_A, "lengthOf", "(I)I"⟩
abbrev b_R_route : ByteArray := prog_1_method_13_code
def y_R_route : MethodName := ⟨rn_R, "route", "(III)I"⟩
abbrev b_S_cheapestAhead : ByteArray := prog_4_method_13_code
def y_S_cheapestAhead : MethodName := ⟨rn_S, "cheapestAhead", "(LRouteTracks$Rails;I)I"⟩
abbrev b_R_count : ByteArray := prog_1_method_14_code
def y_R_count : MethodName := ⟨rn_R, "count", "(I)I"⟩
abbrev b_A_piecesWith : ByteArray := prog_3_method_9_code
def y_A_piecesWith : MethodName := ⟨rn_A, "piecesWith", "(I)I"⟩
abbrev b_L_cell : ByteArray := method_2_code
def y_L_cell : MethodName := ⟨rn_L, "cell", "([II)I"⟩
abbrev b_L_lay : ByteArray := method_3_code
def y_L_lay : MethodName := ⟨rn_L, "lay", "(LRouteTracks;II)I"⟩
abbrev b_R_lay : ByteArray := prog_1_method_2_code
def y_R_lay : MethodName := ⟨rn_R, "lay", "(II)V"⟩
abbrev b_R_requirePlace : ByteArray := prog_1_method_18_code
def y_R_requirePlace : MethodName := ⟨rn_R, "requirePlace", "(II)V"⟩
abbrev b_A_put : ByteArray := prog_3_method_3_code
def y_A_put : MethodName := ⟨rn_A, "put", "(III)V"⟩
abbrev b_S_forget : ByteArray := prog_4_method_2_code
def y_S_forget : MethodName := ⟨rn_S, "forget", "()V"⟩
abbrev b_L_lift : ByteArray := method_4_code
def y_L_lift : MethodName := ⟨rn_L, "lift", "(LRouteTracks;II)I"⟩
abbrev b_R_lift : ByteArray := prog_1_method_3_code
def y_R_lift : MethodName := ⟨rn_R, "lift", "(II)V"⟩
abbrev b_R_requireThere : ByteArray := prog_1_method_19_code
def y_R_requireThere : MethodName := ⟨rn_R, "requireThere", "(I)V"⟩
abbrev b_A_takeAway : ByteArray := prog_3_method_4_code
def y_A_takeAway : MethodName := ⟨rn_A, "takeAway", "(I)V"⟩
abbrev b_L_signal : ByteArray := method_5_code
def y_L_signal : MethodName := ⟨rn_L, "signal", "(LRouteTracks;IIII)I"⟩
abbrev b_R_signal : ByteArray := prog_1_method_4_code
def y_R_signal : MethodName := ⟨rn_R, "signal", "(IIII)V"⟩
abbrev b_L_platform : ByteArray := method_6_code
def y_L_platform : MethodName := ⟨rn_L, "platform", "(LRouteTracks;III)I"⟩
abbrev b_R_platform : ByteArray := prog_1_method_5_code
def y_R_platform : MethodName := ⟨rn_R, "platform", "(III)V"⟩
abbrev b_M_init : ByteArray := prog_6_method_1_code
def y_M_init : MethodName := ⟨rn_M, "<init>", "(II)V"⟩
abbrev b_M_thrown : ByteArray := prog_6_method_2_code
def y_M_thrown : MethodName := ⟨rn_M, "thrown", "()I"⟩
abbrev b_M_lay : ByteArray := prog_6_method_6_code
def y_M_lay : MethodName := ⟨rn_M, "lay", "(II)V"⟩
abbrev b_M_isTile : ByteArray := prog_6_method_3_code
def y_M_isTile : MethodName := ⟨rn_M, "isTile", "(I)Z"⟩
abbrev b_M_isKind : ByteArray := prog_6_method_4_code
def y_M_isKind : MethodName := ⟨rn_M, "isKind", "(I)Z"⟩
abbrev b_M_lift : ByteArray := prog_6_method_7_code
def y_M_lift : MethodName := ⟨rn_M, "lift", "(II)V"⟩
abbrev b_M_signal : ByteArray := prog_6_method_8_code
def y_M_signal : MethodName := ⟨rn_M, "signal", "(IIII)V"⟩
abbrev b_M_platform : ByteArray := prog_6_method_9_code
def y_M_platform : MethodName := ⟨rn_M, "platform", "(III)V"⟩
abbrev b_M_at : ByteArray := prog_6_method_10_code
def y_M_at : MethodName := ⟨rn_M, "at", "(II)I"⟩
abbrev b_M_next : ByteArray := prog_6_method_19_code
def y_M_next : MethodName := ⟨rn_M, "next", "(II)I"⟩
abbrev b_M_isOpen : ByteArray := prog_6_method_13_code
def y_M_isOpen : MethodName := ⟨rn_M, "isOpen", "(I)Z"⟩
abbrev b_M_isRun : ByteArray := prog_6_method_11_code
def y_M_isRun : MethodName := ⟨rn_M, "isRun", "(I)Z"⟩
abbrev b_M_signalled : ByteArray := prog_6_method_12_code
def y_M_signalled : MethodName := ⟨rn_M, "signalled", "(I)I"⟩
abbrev b_M_follower : ByteArray := prog_6_method_18_code
def y_M_follower : MethodName := ⟨rn_M, "follower", "(II)I"⟩
abbrev b_M_to : ByteArray := prog_6_method_15_code
def y_M_to : MethodName := ⟨rn_M, "to", "(I)I"⟩
abbrev b_M_beyond : ByteArray := prog_6_method_16_code
def y_M_beyond : MethodName := ⟨rn_M, "beyond", "(II)I"⟩
abbrev b_M_from : ByteArray := prog_6_method_14_code
def y_M_from : MethodName := ⟨rn_M, "from", "(I)I"⟩
abbrev b_M_other : ByteArray := prog_6_method_17_code
def y_M_other : MethodName := ⟨rn_M, "other", "(I)I"⟩
abbrev b_M_before : ByteArray := prog_6_method_20_code
def y_M_before : MethodName := ⟨rn_M, "before", "(I)I"⟩
abbrev b_M_block : ByteArray := prog_6_method_26_code
def y_M_block : MethodName := ⟨rn_M, "block", "(II)I"⟩
abbrev b_M_isPiece : ByteArray := prog_6_method_5_code
def y_M_isPiece : MethodName := ⟨rn_M, "isPiece", "(II)Z"⟩
abbrev b_M_unreach : ByteArray := prog_6_method_25_code
def y_M_unreach : MethodName := ⟨rn_M, "unreach", "()V"⟩
abbrev b_M_lowest : ByteArray := prog_6_method_24_code
def y_M_lowest : MethodName := ⟨rn_M, "lowest", "(I)I"⟩
abbrev b_M_touch : ByteArray := prog_6_method_23_code
def y_M_touch : MethodName := ⟨rn_M, "touch", "(II)Z"⟩
abbrev b_M_ends : ByteArray := prog_6_method_22_code
def y_M_ends : MethodName := ⟨rn_M, "ends", "(II)Z"⟩
abbrev b_M_guards : ByteArray := prog_6_method_21_code
def y_M_guards : MethodName := ⟨rn_M, "guards", "(II)Z"⟩
abbrev b_M_sign : ByteArray := prog_6_method_28_code
def y_M_sign : MethodName := ⟨rn_M, "sign", "(I)I"⟩
abbrev b_M_isStation : ByteArray := prog_6_method_27_code
def y_M_isStation : MethodName := ⟨rn_M, "isStation", "(I)Z"⟩
abbrev b_M_isTarget : ByteArray := prog_6_method_30_code
def y_M_isTarget : MethodName := ⟨rn_M, "isTarget", "(II)Z"⟩
abbrev b_M_target : ByteArray := prog_6_method_29_code
def y_M_target : MethodName := ⟨rn_M, "target", "(II)Z"⟩
abbrev b_M_cost : ByteArray := prog_6_method_34_code
def y_M_cost : MethodName := ⟨rn_M, "cost", "(II)I"⟩
abbrev b_M_reckon : ByteArray := prog_6_method_33_code
def y_M_reckon : MethodName := ⟨rn_M, "reckon", "(I)V"⟩
abbrev b_M_onward : ByteArray := prog_6_method_32_code
def y_M_onward : MethodName := ⟨rn_M, "onward", "(I)I"⟩
abbrev b_M_length : ByteArray := prog_6_method_31_code
def y_M_length : MethodName := ⟨rn_M, "length", "(I)I"⟩
abbrev b_M_route : ByteArray := prog_6_method_35_code
def y_M_route : MethodName := ⟨rn_M, "route", "(III)I"⟩
abbrev b_M_count : ByteArray := prog_6_method_36_code
def y_M_count : MethodName := ⟨rn_M, "count", "(I)I"⟩
abbrev b_L_law : ByteArray := code
def y_L_law : MethodName := ⟨rn_L, "law", "([I)Z"⟩
/-- the words of the tables that any state of the run has -/
def tG : List Cond := lw_tbl.filter goodWord
theorem tG_1 {w : Cond} (h : w ∈ tables_1_1) (g : goodWord w = true) : w ∈ tG := List.mem_filter.mpr ⟨List.mem_append_right _ (List.mem_append_left _ h), g⟩
theorem tG_2 {w : Cond} (h : w ∈ tables_1_2) (g : goodWord w = true) : w ∈ tG := List.mem_filter.mpr ⟨List.mem_append_right _ (List.mem_append_right _ (List.mem_append_left _ h)), g⟩
theorem tG_3 {w : Cond} (h : w ∈ tables_1_3) (g : goodWord w = true) : w ∈ tG := List.mem_filter.mpr ⟨List.mem_append_right _ (List.mem_append_right _ (List.mem_append_right _ h)), g⟩
theorem tG_s {w : Cond} (h : w ∈ k2_sels lw_privs) (g : goodWord w = true) : w ∈ tG := List.mem_filter.mpr ⟨List.mem_append_left _ h, g⟩
theorem tG_good : ∀ w ∈ tG, w ∈ tG ∧ ((w.onTables && w.keeps) = true ∨ ∃ ty, w = .arrayClass ty) := fun w h => ⟨h, good_of_word (List.mem_filter.mp h).2⟩
end
section
/-! WORDS: where each stands in the tables, by program -/
theorem k_initialized_rn_L : Cond.initialized rn_L ∈ tG := tG_1 (List.mem_of_getElem? (i := 0) (by decide +kernel)) (by decide +kernel)
theorem k_initialized_rn_R : Cond.initialized rn_R ∈ tG := tG_1 (List.mem_of_getElem? (i := 1) (by decide +kernel)) (by decide +kernel)
theorem k_initialized_rn_JM : Cond.initialized rn_JM ∈ tG := tG_1 (List.mem_of_getElem? (i := 2) (by decide +kernel)) (by decide +kernel)
theorem k_initialized_rn_A : Cond.initialized rn_A ∈ tG := tG_1 (List.mem_of_getElem? (i := 3) (by decide +kernel)) (by decide +kernel)
theorem k_initialized_rn_S : Cond.initialized rn_S ∈ tG := tG_1 (List.mem_of_getElem? (i := 4) (by decide +kernel)) (by decide +kernel)
theorem k_initialized_rn_Q : Cond.initialized rn_Q ∈ tG := tG_1 (List.mem_of_getElem? (i := 5) (by decide +kernel)) (by decide +kernel)
theorem k_initialized_rn_M : Cond.initialized rn_M ∈ tG := tG_1 (List.mem_of_getElem? (i := 6) (by decide +kernel)) (by decide +kernel)
theorem k_initialized_java_lang_IndexOutOfBoundsException : Cond.initialized "java/lang/IndexOutOfBoundsException" ∈ tG := tG_1 (List.mem_of_getElem? (i := 10) (by decide +kernel)) (by decide +kernel)
theorem k_initialized_java_lang_IllegalArgumentException : Cond.initialized "java/lang/IllegalArgumentException" ∈ tG := tG_1 (List.mem_of_getElem? (i := 11) (by decide +kernel)) (by decide +kernel)
theorem k_initialized_rn_JA : Cond.initialized rn_JA ∈ tG := tG_1 (List.mem_of_getElem? (i := 12) (by decide +kernel)) (by decide +kernel)
theorem k_classLink_rn_L_8_rn_R : Cond.classLink rn_L 8 rn_R ∈ tG := tG_1 (List.mem_of_getElem? (i := 13) (by decide +kernel)) (by decide +kernel)
theorem k_instantiable_rn_R_2 : Cond.instantiable rn_R 2 ∈ tG := tG_1 (List.mem_of_getElem? (i := 14) (by decide +kernel)) (by decide +kernel)
theorem k_methodLink_rn_L_34_y_R_init : Cond.methodLink rn_L 34 y_R_init ∈ tG := tG_1 (List.mem_of_getElem? (i := 15) (by decide +kernel)) (by decide +kernel)
theorem k_instanceMethod_y_R_init : Cond.instanceMethod y_R_init ∈ tG := tG_1 (List.mem_of_getElem? (i := 16) (by decide +kernel)) (by decide +kernel)
theorem k_code_y_R_init_prog_1_method_1_code_5_none : Cond.code y_R_init prog_1_method_1_code 5 none ∈ tG := tG_1 (List.mem_of_getElem? (i := 17) (by decide +kernel)) (by decide +kernel)
theorem k_methodLink_rn_R_1_objectInit : Cond.methodLink rn_R 1 objectInit ∈ tG := tG_1 (List.mem_of_getElem? (i := 18) (by decide +kernel)) (by decide +kernel)
theorem k_instanceMethod_objectInit : Cond.instanceMethod objectInit ∈ tG := tG_1 (List.mem_of_getElem? (i := 19) (by decide +kernel)) (by decide +kernel)
theorem k_code_objectInit_object_method_1_code_1_none : Cond.code objectInit object_method_1_code 1 none ∈ tG := tG_1 (List.mem_of_getElem? (i := 20) (by decide +kernel)) (by decide +kernel)
theorem k_methodLink_rn_R_7_y_R_sideWithin : Cond.methodLink rn_R 7 y_R_sideWithin ∈ tG := tG_1 (List.mem_of_getElem? (i := 21) (by decide +kernel)) (by decide +kernel)
theorem k_static_y_R_sideWithin : Cond.static y_R_sideWithin ∈ tG := tG_1 (List.mem_of_getElem? (i := 22) (by decide +kernel)) (by decide +kernel)
theorem k_code_y_R_sideWithin_prog_1_method_15_code_1_some_int : Cond.code y_R_sideWithin prog_1_method_15_code 1 (some .int) ∈ tG := tG_1 (List.mem_of_getElem? (i := 23) (by decide +kernel)) (by decide +kernel)
theorem k_methodLink_rn_R_130_y_JM_min : Cond.methodLink rn_R 130 y_JM_min ∈ tG := tG_1 (List.mem_of_getElem? (i := 24) (by decide +kernel)) (by decide +kernel)
theorem k_static_y_JM_min : Cond.static y_JM_min ∈ tG := tG_1 (List.mem_of_getElem? (i := 25) (by decide +kernel)) (by decide +kernel)
theorem k_code_y_JM_min_prog_10_method_69_code_2_some_int : Cond.code y_JM_min prog_10_method_69_code 2 (some .int) ∈ tG := tG_1 (List.mem_of_getElem? (i := 26) (by decide +kernel)) (by decide +kernel)
theorem k_methodLink_rn_R_135_y_JM_max : Cond.methodLink rn_R 135 y_JM_max ∈ tG := tG_1 (List.mem_of_getElem? (i := 27) (by decide +kernel)) (by decide +kernel)
theorem k_static_y_JM_max : Cond.static y_JM_max ∈ tG := tG_1 (List.mem_of_getElem? (i := 28) (by decide +kernel)) (by decide +kernel)
theorem k_code_y_JM_max_prog_10_method_65_code_2_some_int : Cond.code y_JM_max prog_10_method_65_code 2 (some .int) ∈ tG := tG_1 (List.mem_of_getElem? (i := 29) (by decide +kernel)) (by decide +kernel)
theorem k_classLink_rn_R_13_rn_A : Cond.classLink rn_R 13 rn_A ∈ tG := tG_1 (List.mem_of_getElem? (i := 30) (by decide +kernel)) (by decide +kernel)
theorem k_instantiable_rn_A_2 : Cond.instantiable rn_A 2 ∈ tG := tG_1 (List.mem_of_getElem? (i := 31) (by decide +kernel)) (by decide +kernel)
theorem k_methodLink_rn_R_15_y_A_init : Cond.methodLink rn_R 15 y_A_init ∈ tG := tG_1 (List.mem_of_getElem? (i := 32) (by decide +kernel)) (by decide +kernel)
theorem k_instanceMethod_y_A_init : Cond.instanceMethod y_A_init ∈ tG := tG_1 (List.mem_of_getElem? (i := 33) (by decide +kernel)) (by decide +kernel)
theorem k_code_y_A_init_prog_3_method_1_code_6_none : Cond.code y_A_init prog_3_method_1_code 6 none ∈ tG := tG_1 (List.mem_of_getElem? (i := 34) (by decide +kernel)) (by decide +kernel)
theorem k_methodLink_rn_A_3_objectInit : Cond.methodLink rn_A 3 objectInit ∈ tG := tG_1 (List.mem_of_getElem? (i := 35) (by decide +kernel)) (by decide +kernel)
theorem k_fieldLink_rn_A_11_rn_A_beyond_I : Cond.fieldLink rn_A 11 rn_A "beyond" "[I" ∈ tG := tG_1 (List.mem_of_getElem? (i := 36) (by decide +kernel)) (by decide +kernel)
theorem k_fieldLink_rn_A_15_rn_A_pieces_I : Cond.fieldLink rn_A 15 rn_A "pieces" "[I" ∈ tG := tG_1 (List.mem_of_getElem? (i := 37) (by decide +kernel)) (by decide +kernel)
theorem k_fieldLink_rn_S_42_rn_A_pieces_I : Cond.fieldLink rn_S 42 rn_A "pieces" "[I" ∈ tG := tG_1 (List.mem_of_getElem? (i := 38) (by decide +kernel)) (by decide +kernel)
theorem k_fieldLink_rn_R_84_rn_A_pieces_I : Cond.fieldLink rn_R 84 rn_A "pieces" "[I" ∈ tG := tG_1 (List.mem_of_getElem? (i := 39) (by decide +kernel)) (by decide +kernel)
theorem k_laysFinal_rn_A_rn_A_beyond_I : Cond.laysFinal rn_A rn_A "beyond" "[I" ∈ tG := tG_1 (List.mem_of_getElem? (i := 40) (by decide +kernel)) (by decide +kernel)
theorem k_laysFinal_rn_A_rn_A_pieces_I : Cond.laysFinal rn_A rn_A "pieces" "[I" ∈ tG := tG_1 (List.mem_of_getElem? (i := 42) (by decide +kernel)) (by decide +kernel)
theorem k_arrayClass_int : Cond.arrayClass .int ∈ tG := tG_1 (List.mem_of_getElem? (i := 45) (by decide +kernel)) (by decide +kernel)
theorem k_classLink_rn_R_22_rn_S : Cond.classLink rn_R 22 rn_S ∈ tG := tG_1 (List.mem_of_getElem? (i := 46) (by decide +kernel)) (by decide +kernel)
theorem k_instantiable_rn_S_5 : Cond.instantiable rn_S 5 ∈ tG := tG_1 (List.mem_of_getElem? (i := 47) (by decide +kernel)) (by decide +kernel)
theorem k_methodLink_rn_R_24_y_S_init : Cond.methodLink rn_R 24 y_S_init ∈ tG := tG_1 (List.mem_of_getElem? (i := 48) (by decide +kernel)) (by decide +kernel)
theorem k_instanceMethod_y_S_init : Cond.instanceMethod y_S_init ∈ tG := tG_1 (List.mem_of_getElem? (i := 49) (by decide +kernel)) (by decide +kernel)
theorem k_code_y_S_init_prog_4_method_1_code_2_none : Cond.code y_S_init prog_4_method_1_code 2 none ∈ tG := tG_1 (List.mem_of_getElem? (i := 50) (by decide +kernel)) (by decide +kernel)
theorem k_methodLink_rn_S_3_objectInit : Cond.methodLink rn_S 3 objectInit ∈ tG := tG_1 (List.mem_of_getElem? (i := 51) (by decide +kernel)) (by decide +kernel)
theorem k_classLink_rn_S_17_rn_Q : Cond.classLink rn_S 17 rn_Q ∈ tG := tG_1 (List.mem_of_getElem? (i := 52) (by decide +kernel)) (by decide +kernel)
theorem k_instantiable_rn_Q_3 : Cond.instantiable rn_Q 3 ∈ tG := tG_1 (List.mem_of_getElem? (i := 53) (by decide +kernel)) (by decide +kernel)
theorem k_methodLink_rn_S_19_y_Q_init : Cond.methodLink rn_S 19 y_Q_init ∈ tG := tG_1 (List.mem_of_getElem? (i := 54) (by decide +kernel)) (by decide +kernel)
theorem k_instanceMethod_y_Q_init : Cond.instanceMethod y_Q_init ∈ tG := tG_1 (List.mem_of_getElem? (i := 55) (by decide +kernel)) (by decide +kernel)
theorem k_code_y_Q_init_prog_2_method_1_code_2_none : Cond.code y_Q_init prog_2_method_1_code 2 none ∈ tG := tG_1 (List.mem_of_getElem? (i := 56) (by decide +kernel)) (by decide +kernel)
theorem k_methodLink_rn_Q_3_objectInit : Cond.methodLink rn_Q 3 objectInit ∈ tG := tG_1 (List.mem_of_getElem? (i := 57) (by decide +kernel)) (by decide +kernel)
theorem k_methodLink_rn_Q_9_y_JM_max : Cond.methodLink rn_Q 9 y_JM_max ∈ tG := tG_1 (List.mem_of_getElem? (i := 58) (by decide +kernel)) (by decide +kernel)
theorem k_fieldLink_rn_Q_15_rn_Q_row_I : Cond.fieldLink rn_Q 15 rn_Q "row" "[I" ∈ tG := tG_1 (List.mem_of_getElem? (i := 59) (by decide +kernel)) (by decide +kernel)
theorem k_fieldLink_rn_Q_21_rn_Q_head_I : Cond.fieldLink rn_Q 21 rn_Q "head" "I" ∈ tG := tG_1 (List.mem_of_getElem? (i := 60) (by decide +kernel)) (by decide +kernel)
theorem k_fieldLink_rn_Q_25_rn_Q_tail_I : Cond.fieldLink rn_Q 25 rn_Q "tail" "I" ∈ tG := tG_1 (List.mem_of_getElem? (i := 61) (by decide +kernel)) (by decide +kernel)
theorem k_laysFinal_rn_Q_rn_Q_row_I : Cond.laysFinal rn_Q rn_Q "row" "[I" ∈ tG := tG_1 (List.mem_of_getElem? (i := 62) (by decide +kernel)) (by decide +kernel)
theorem k_lays_rn_Q_rn_Q_head_I : Cond.lays rn_Q rn_Q "head" "I" ∈ tG := tG_1 (List.mem_of_getElem? (i := 64) (by decide +kernel)) (by decide +kernel)
theorem k_lays_rn_Q_rn_Q_tail_I : Cond.lays rn_Q rn_Q "tail" "I" ∈ tG := tG_1 (List.mem_of_getElem? (i := 66) (by decide +kernel)) (by decide +kernel)
theorem k_fieldLink_rn_S_11_rn_S_found_I : Cond.fieldLink rn_S 11 rn_S "found" "[I" ∈ tG := tG_1 (List.mem_of_getElem? (i := 69) (by decide +kernel)) (by decide +kernel)
theorem k_fieldLink_rn_R_105_rn_S_found_I : Cond.fieldLink rn_R 105 rn_S "found" "[I" ∈ tG := tG_1 (List.mem_of_getElem? (i := 70) (by decide +kernel)) (by decide +kernel)
theorem k_fieldLink_rn_S_22_rn_S_straights_LRouteTracks_Queue : Cond.fieldLink rn_S 22 rn_S "straights" "LRouteTracks$Queue;" ∈ tG := tG_1 (List.mem_of_getElem? (i := 71) (by decide +kernel)) (by decide +kernel)
theorem k_fieldLink_rn_S_26_rn_S_curves_LRouteTracks_Queue : Cond.fieldLink rn_S 26 rn_S "curves" "LRouteTracks$Queue;" ∈ tG := tG_1 (List.mem_of_getElem? (i := 72) (by decide +kernel)) (by decide +kernel)
theorem k_fieldLink_rn_S_29_rn_S_held_I : Cond.fieldLink rn_S 29 rn_S "held" "I" ∈ tG := tG_1 (List.mem_of_getElem? (i := 73) (by decide +kernel)) (by decide +kernel)
theorem k_fieldLink_rn_S_33_rn_S_blocks_I : Cond.fieldLink rn_S 33 rn_S "blocks" "I" ∈ tG := tG_1 (List.mem_of_getElem? (i := 74) (by decide +kernel)) (by decide +kernel)
theorem k_fieldLink_rn_R_126_rn_S_blocks_I : Cond.fieldLink rn_R 126 rn_S "blocks" "I" ∈ tG := tG_1 (List.mem_of_getElem? (i := 75) (by decide +kernel)) (by decide +kernel)
theorem k_laysFinal_rn_S_rn_S_found_I : Cond.laysFinal rn_S rn_S "found" "[I" ∈ tG := tG_1 (List.mem_of_getElem? (i := 76) (by decide +kernel)) (by decide +kernel)
theorem k_laysFinal_rn_S_rn_S_straights_LRouteTracks_Queue : Cond.laysFinal rn_S rn_S "straights" "LRouteTracks$Queue;" ∈ tG := tG_1 (List.mem_of_getElem? (i := 78) (by decide +kernel)) (by decide +kernel)
theorem k_laysFinal_rn_S_rn_S_curves_LRouteTracks_Queue : Cond.laysFinal rn_S rn_S "curves" "LRouteTracks$Queue;" ∈ tG := tG_1 (List.mem_of_getElem? (i := 80) (by decide +kernel)) (by decide +kernel)
theorem k_lays_rn_S_rn_S_held_I : Cond.lays rn_S rn_S "held" "I" ∈ tG := tG_1 (List.mem_of_getElem? (i := 82) (by decide +kernel)) (by decide +kernel)
theorem k_lays_rn_S_rn_S_blocks_I : Cond.lays rn_S rn_S "blocks" "I" ∈ tG := tG_1 (List.mem_of_getElem? (i := 84) (by decide +kernel)) (by decide +kernel)
theorem k_fieldLink_rn_R_18_rn_R_rails_LRouteTracks_Rails : Cond.fieldLink rn_R 18 rn_R "rails" "LRouteTracks$Rails;" ∈ tG := tG_1 (List.mem_of_getElem? (i := 87) (by decide +kernel)) (by decide +kernel)
theorem k_fieldLink_rn_R_27_rn_R_search_LRouteTracks_Search : Cond.fieldLink rn_R 27 rn_R "search" "LRouteTracks$Search;" ∈ tG := tG_1 (List.mem_of_getElem? (i := 88) (by decide +kernel)) (by decide +kernel)
theorem k_laysFinal_rn_R_rn_R_rails_LRouteTracks_Rails : Cond.laysFinal rn_R rn_R "rails" "LRouteTracks$Rails;" ∈ tG := tG_1 (List.mem_of_getElem? (i := 89) (by decide +kernel)) (by decide +kernel)
theorem k_laysFinal_rn_R_rn_R_search_LRouteTracks_Search : Cond.laysFinal rn_R rn_R "search" "LRouteTracks$Search;" ∈ tG := tG_1 (List.mem_of_getElem? (i := 91) (by decide +kernel)) (by decide +kernel)
theorem k_methodLink_rn_L_58_y_R_at : Cond.methodLink rn_L 58 y_R_at ∈ tG := tG_1 (List.mem_of_getElem? (i := 94) (by decide +kernel)) (by decide +kernel)
theorem k_instanceMethod_y_R_at : Cond.instanceMethod y_R_at ∈ tG := tG_1 (List.mem_of_getElem? (i := 95) (by decide +kernel)) (by decide +kernel)
theorem k_selects_rn_R_y_R_at_y_R_at : Cond.selects rn_R y_R_at y_R_at ∈ tG := tG_1 (List.mem_of_getElem? (i := 96) (by decide +kernel)) (by decide +kernel)
theorem k_code_y_R_at_prog_1_method_6_code_3_some_int : Cond.code y_R_at prog_1_method_6_code 3 (some .int) ∈ tG := tG_1 (List.mem_of_getElem? (i := 97) (by decide +kernel)) (by decide +kernel)
theorem k_methodLink_rn_R_78_y_A_hasTile : Cond.methodLink rn_R 78 y_A_hasTile ∈ tG := tG_1 (List.mem_of_getElem? (i := 98) (by decide +kernel)) (by decide +kernel)
theorem k_instanceMethod_y_A_hasTile : Cond.instanceMethod y_A_hasTile ∈ tG := tG_1 (List.mem_of_getElem? (i := 99) (by decide +kernel)) (by decide +kernel)
theorem k_selects_rn_A_y_A_hasTile_y_A_hasTile : Cond.selects rn_A y_A_hasTile y_A_hasTile ∈ tG := tG_1 (List.mem_of_getElem? (i := 100) (by decide +kernel)) (by decide +kernel)
theorem k_code_y_A_hasTile_prog_3_method_2_code_2_some_boolean : Cond.code y_A_hasTile prog_3_method_2_code 2 (some .boolean) ∈ tG := tG_1 (List.mem_of_getElem? (i := 101) (by decide +kernel)) (by decide +kernel)
theorem k_methodLink_rn_R_81_y_A_kindsIn : Cond.methodLink rn_R 81 y_A_kindsIn ∈ tG := tG_1 (List.mem_of_getElem? (i := 102) (by decide +kernel)) (by decide +kernel)
theorem k_instanceMethod_y_A_kindsIn : Cond.instanceMethod y_A_kindsIn ∈ tG := tG_1 (List.mem_of_getElem? (i := 103) (by decide +kernel)) (by decide +kernel)
theorem k_selects_rn_A_y_A_kindsIn_y_A_kindsIn : Cond.selects rn_A y_A_kindsIn y_A_kindsIn ∈ tG := tG_1 (List.mem_of_getElem? (i := 104) (by decide +kernel)) (by decide +kernel)
theorem k_code_y_A_kindsIn_prog_3_method_8_code_4_some_int : Cond.code y_A_kindsIn prog_3_method_8_code 4 (some .int) ∈ tG := tG_1 (List.mem_of_getElem? (i := 105) (by decide +kernel)) (by decide +kernel)
theorem k_methodLink_rn_A_18_y_A_isThere : Cond.methodLink rn_A 18 y_A_isThere ∈ tG := tG_1 (List.mem_of_getElem? (i := 106) (by decide +kernel)) (by decide +kernel)
theorem k_instanceMethod_y_A_isThere : Cond.instanceMethod y_A_isThere ∈ tG := tG_1 (List.mem_of_getElem? (i := 107) (by decide +kernel)) (by decide +kernel)
theorem k_selects_rn_A_y_A_isThere_y_A_isThere : Cond.selects rn_A y_A_isThere y_A_isThere ∈ tG := tG_1 (List.mem_of_getElem? (i := 108) (by decide +kernel)) (by decide +kernel)
theorem k_code_y_A_isThere_prog_3_method_5_code_2_some_boolean : Cond.code y_A_isThere prog_3_method_5_code 2 (some .boolean) ∈ tG := tG_1 (List.mem_of_getElem? (i := 109) (by decide +kernel)) (by decide +kernel)
theorem k_methodLink_rn_L_63_y_R_next : Cond.methodLink rn_L 63 y_R_next ∈ tG := tG_1 (List.mem_of_getElem? (i := 110) (by decide +kernel)) (by decide +kernel)
theorem k_instanceMethod_y_R_next : Cond.instanceMethod y_R_next ∈ tG := tG_1 (List.mem_of_getElem? (i := 111) (by decide +kernel)) (by decide +kernel)
theorem k_selects_rn_R_y_R_next_y_R_next : Cond.selects rn_R y_R_next y_R_next ∈ tG := tG_1 (List.mem_of_getElem? (i := 112) (by decide +kernel)) (by decide +kernel)
theorem k_code_y_R_next_prog_1_method_7_code_6_some_int : Cond.code y_R_next prog_1_method_7_code 6 (some .int) ∈ tG := tG_1 (List.mem_of_getElem? (i := 113) (by decide +kernel)) (by decide +kernel)
theorem k_methodLink_rn_R_88_y_A_isOpen : Cond.methodLink rn_R 88 y_A_isOpen ∈ tG := tG_1 (List.mem_of_getElem? (i := 114) (by decide +kernel)) (by decide +kernel)
theorem k_instanceMethod_y_A_isOpen : Cond.instanceMethod y_A_isOpen ∈ tG := tG_1 (List.mem_of_getElem? (i := 115) (by decide +kernel)) (by decide +kernel)
theorem k_selects_rn_A_y_A_isOpen_y_A_isOpen : Cond.selects rn_A y_A_isOpen y_A_isOpen ∈ tG := tG_1 (List.mem_of_getElem? (i := 116) (by decide +kernel)) (by decide +kernel)
theorem k_code_y_A_isOpen_prog_3_method_11_code_2_some_boolean : Cond.code y_A_isOpen prog_3_method_11_code 2 (some .boolean) ∈ tG := tG_1 (List.mem_of_getElem? (i := 117) (by decide +kernel)) (by decide +kernel)
theorem k_methodLink_rn_A_26_y_A_hasSignal : Cond.methodLink rn_A 26 y_A_hasSignal ∈ tG := tG_1 (List.mem_of_getElem? (i := 118) (by decide +kernel)) (by decide +kernel)
theorem k_instanceMethod_y_A_hasSignal : Cond.instanceMethod y_A_hasSignal ∈ tG := tG_1 (List.mem_of_getElem? (i := 119) (by decide +kernel)) (by decide +kernel)
theorem k_selects_rn_A_y_A_hasSignal_y_A_hasSignal : Cond.selects rn_A y_A_hasSignal y_A_hasSignal ∈ tG := tG_1 (List.mem_of_getElem? (i := 120) (by decide +kernel)) (by decide +kernel)
theorem k_code_y_A_hasSignal_prog_3_method_10_code_3_some_boolean : Cond.code y_A_hasSignal prog_3_method_10_code 3 (some .boolean) ∈ tG := tG_1 (List.mem_of_getElem? (i := 121) (by decide +kernel)) (by decide +kernel)
theorem k_methodLink_rn_A_22_y_A_signalOf : Cond.methodLink rn_A 22 y_A_signalOf ∈ tG := tG_1 (List.mem_of_getElem? (i := 122) (by decide +kernel)) (by decide +kernel)
theorem k_instanceMethod_y_A_signalOf : Cond.instanceMethod y_A_signalOf ∈ tG := tG_1 (List.mem_of_getElem? (i := 123) (by decide +kernel)) (by decide +kernel)
theorem k_selects_rn_A_y_A_signalOf_y_A_signalOf : Cond.selects rn_A y_A_signalOf y_A_signalOf ∈ tG := tG_1 (List.mem_of_getElem? (i := 124) (by decide +kernel)) (by decide +kernel)
theorem k_code_y_A_signalOf_prog_3_method_6_code_2_some_int : Cond.code y_A_signalOf prog_3_method_6_code 2 (some .int) ∈ tG := tG_1 (List.mem_of_getElem? (i := 125) (by decide +kernel)) (by decide +kernel)
theorem k_methodLink_rn_R_91_y_A_ahead : Cond.methodLink rn_R 91 y_A_ahead ∈ tG := tG_1 (List.mem_of_getElem? (i := 126) (by decide +kernel)) (by decide +kernel)
theorem k_instanceMethod_y_A_ahead : Cond.instanceMethod y_A_ahead ∈ tG := tG_1 (List.mem_of_getElem? (i := 127) (by decide +kernel)) (by decide +kernel)
theorem k_selects_rn_A_y_A_ahead_y_A_ahead : Cond.selects rn_A y_A_ahead y_A_ahead ∈ tG := tG_1 (List.mem_of_getElem? (i := 128) (by decide +kernel)) (by decide +kernel)
theorem k_code_y_A_ahead_prog_3_method_14_code_5_some_int : Cond.code y_A_ahead prog_3_method_14_code 5 (some .int) ∈ tG := tG_1 (List.mem_of_getElem? (i := 129) (by decide +kernel)) (by decide +kernel)
theorem k_fieldLink_rn_A_32_rn_A_GOES_TO_I : Cond.fieldLink rn_A 32 rn_A "GOES_TO" "[I" ∈ tG := tG_1 (List.mem_of_getElem? (i := 130) (by decide +kernel)) (by decide +kernel)
theorem k_fieldLink_rn_A_35_rn_A_BEGIN_BEYOND_I : Cond.fieldLink rn_A 35 rn_A "BEGIN_BEYOND" "[I" ∈ tG := tG_1 (List.mem_of_getElem? (i := 132) (by decide +kernel)) (by decide +kernel)
theorem k_methodLink_rn_L_67_y_R_before : Cond.methodLink rn_L 67 y_R_before ∈ tG := tG_1 (List.mem_of_getElem? (i := 134) (by decide +kernel)) (by decide +kernel)
theorem k_instanceMethod_y_R_before : Cond.instanceMethod y_R_before ∈ tG := tG_1 (List.mem_of_getElem? (i := 135) (by decide +kernel)) (by decide +kernel)
theorem k_selects_rn_R_y_R_before_y_R_before : Cond.selects rn_R y_R_before y_R_before ∈ tG := tG_1 (List.mem_of_getElem? (i := 136) (by decide +kernel)) (by decide +kernel)
theorem k_code_y_R_before_prog_1_method_8_code_4_some_int : Cond.code y_R_before prog_1_method_8_code 4 (some .int) ∈ tG := tG_1 (List.mem_of_getElem? (i := 137) (by decide +kernel)) (by decide +kernel)
theorem k_methodLink_rn_R_95_y_A_behind : Cond.methodLink rn_R 95 y_A_behind ∈ tG := tG_1 (List.mem_of_getElem? (i := 138) (by decide +kernel)) (by decide +kernel)
theorem k_instanceMethod_y_A_behind : Cond.instanceMethod y_A_behind ∈ tG := tG_1 (List.mem_of_getElem? (i := 139) (by decide +kernel)) (by decide +kernel)
theorem k_selects_rn_A_y_A_behind_y_A_behind : Cond.selects rn_A y_A_behind y_A_behind ∈ tG := tG_1 (List.mem_of_getElem? (i := 140) (by decide +kernel)) (by decide +kernel)
theorem k_code_y_A_behind_prog_3_method_15_code_4_some_int : Cond.code y_A_behind prog_3_method_15_code 4 (some .int) ∈ tG := tG_1 (List.mem_of_getElem? (i := 141) (by decide +kernel)) (by decide +kernel)
theorem k_methodLink_rn_A_38_y_A_ahead : Cond.methodLink rn_A 38 y_A_ahead ∈ tG := tG_1 (List.mem_of_getElem? (i := 142) (by decide +kernel)) (by decide +kernel)
theorem k_methodLink_rn_L_72_y_R_block : Cond.methodLink rn_L 72 y_R_block ∈ tG := tG_1 (List.mem_of_getElem? (i := 143) (by decide +kernel)) (by decide +kernel)
theorem k_instanceMethod_y_R_block : Cond.instanceMethod y_R_block ∈ tG := tG_1 (List.mem_of_getElem? (i := 144) (by decide +kernel)) (by decide +kernel)
theorem k_selects_rn_R_y_R_block_y_R_block : Cond.selects rn_R y_R_block y_R_block ∈ tG := tG_1 (List.mem_of_getElem? (i := 145) (by decide +kernel)) (by decide +kernel)
theorem k_code_y_R_block_prog_1_method_9_code_3_some_int : Cond.code y_R_block prog_1_method_9_code 3 (some .int) ∈ tG := tG_1 (List.mem_of_getElem? (i := 146) (by decide +kernel)) (by decide +kernel)
theorem k_methodLink_rn_R_98_y_R_isKind : Cond.methodLink rn_R 98 y_R_isKind ∈ tG := tG_1 (List.mem_of_getElem? (i := 147) (by decide +kernel)) (by decide +kernel)
theorem k_static_y_R_isKind : Cond.static y_R_isKind ∈ tG := tG_1 (List.mem_of_getElem? (i := 148) (by decide +kernel)) (by decide +kernel)
theorem k_code_y_R_isKind_prog_1_method_16_code_1_some_boolean : Cond.code y_R_isKind prog_1_method_16_code 1 (some .boolean) ∈ tG := tG_1 (List.mem_of_getElem? (i := 149) (by decide +kernel)) (by decide +kernel)
theorem k_methodLink_rn_R_101_y_S_findBlocks : Cond.methodLink rn_R 101 y_S_findBlocks ∈ tG := tG_1 (List.mem_of_getElem? (i := 150) (by decide +kernel)) (by decide +kernel)
theorem k_instanceMethod_y_S_findBlocks : Cond.instanceMethod y_S_findBlocks ∈ tG := tG_1 (List.mem_of_getElem? (i := 151) (by decide +kernel)) (by decide +kernel)
theorem k_selects_rn_S_y_S_findBlocks_y_S_findBlocks : Cond.selects rn_S y_S_findBlocks y_S_findBlocks ∈ tG := tG_1 (List.mem_of_getElem? (i := 152) (by decide +kernel)) (by decide +kernel)
theorem k_code_y_S_findBlocks_prog_4_method_3_code_3_none : Cond.code y_S_findBlocks prog_4_method_3_code 3 none ∈ tG := tG_1 (List.mem_of_getElem? (i := 153) (by decide +kernel)) (by decide +kernel)
theorem k_methodLink_rn_S_36_y_JA_fill : Cond.methodLink rn_S 36 y_JA_fill ∈ tG := tG_1 (List.mem_of_getElem? (i := 154) (by decide +kernel)) (by decide +kernel)
theorem k_static_y_JA_fill : Cond.static y_JA_fill ∈ tG := tG_1 (List.mem_of_getElem? (i := 155) (by decide +kernel)) (by decide +kernel)
theorem k_code_y_JA_fill_prog_14_method_103_code_4_none : Cond.code y_JA_fill prog_14_method_103_code 4 none ∈ tG := tG_1 (List.mem_of_getElem? (i := 156) (by decide +kernel)) (by decide +kernel)
theorem k_methodLink_rn_S_45_y_A_isThere : Cond.methodLink rn_S 45 y_A_isThere ∈ tG := tG_1 (List.mem_of_getElem? (i := 157) (by decide +kernel)) (by decide +kernel)
theorem k_methodLink_rn_S_49_y_S_floodBlock : Cond.methodLink rn_S 49 y_S_floodBlock ∈ tG := tG_1 (List.mem_of_getElem? (i := 158) (by decide +kernel)) (by decide +kernel)
theorem k_instanceMethod_y_S_floodBlock : Cond.instanceMethod y_S_floodBlock ∈ tG := tG_1 (List.mem_of_getElem? (i := 160) (by decide +kernel)) (by decide +kernel)
theorem k_code_y_S_floodBlock_prog_4_method_4_code_5_none : Cond.code y_S_floodBlock prog_4_method_4_code 5 none ∈ tG := tG_1 (List.mem_of_getElem? (i := 161) (by decide +kernel)) (by decide +kernel)
theorem k_methodLink_rn_S_53_y_Q_clear : Cond.methodLink rn_S 53 y_Q_clear ∈ tG := tG_1 (List.mem_of_getElem? (i := 162) (by decide +kernel)) (by decide +kernel)
theorem k_instanceMethod_y_Q_clear : Cond.instanceMethod y_Q_clear ∈ tG := tG_1 (List.mem_of_getElem? (i := 163) (by decide +kernel)) (by decide +kernel)
theorem k_selects_rn_Q_y_Q_clear_y_Q_clear : Cond.selects rn_Q y_Q_clear y_Q_clear ∈ tG := tG_1 (List.mem_of_getElem? (i := 164) (by decide +kernel)) (by decide +kernel)
theorem k_code_y_Q_clear_prog_2_method_2_code_1_none : Cond.code y_Q_clear prog_2_method_2_code 1 none ∈ tG := tG_1 (List.mem_of_getElem? (i := 165) (by decide +kernel)) (by decide +kernel)
theorem k_methodLink_rn_S_56_y_S_join : Cond.methodLink rn_S 56 y_S_join ∈ tG := tG_1 (List.mem_of_getElem? (i := 166) (by decide +kernel)) (by decide +kernel)
theorem k_instanceMethod_y_S_join : Cond.instanceMethod y_S_join ∈ tG := tG_1 (List.mem_of_getElem? (i := 168) (by decide +kernel)) (by decide +kernel)
theorem k_code_y_S_join_prog_4_method_7_code_3_none : Cond.code y_S_join prog_4_method_7_code 3 none ∈ tG := tG_1 (List.mem_of_getElem? (i := 169) (by decide +kernel)) (by decide +kernel)
theorem k_methodLink_rn_S_85_y_Q_add : Cond.methodLink rn_S 85 y_Q_add ∈ tG := tG_1 (List.mem_of_getElem? (i := 170) (by decide +kernel)) (by decide +kernel)
theorem k_instanceMethod_y_Q_add : Cond.instanceMethod y_Q_add ∈ tG := tG_1 (List.mem_of_getElem? (i := 171) (by decide +kernel)) (by decide +kernel)
theorem k_selects_rn_Q_y_Q_add_y_Q_add : Cond.selects rn_Q y_Q_add y_Q_add ∈ tG := tG_1 (List.mem_of_getElem? (i := 172) (by decide +kernel)) (by decide +kernel)
theorem k_code_y_Q_add_prog_2_method_4_code_2_none : Cond.code y_Q_add prog_2_method_4_code 2 none ∈ tG := tG_1 (List.mem_of_getElem? (i := 173) (by decide +kernel)) (by decide +kernel)
theorem k_methodLink_rn_S_60_y_Q_isEmpty : Cond.methodLink rn_S 60 y_Q_isEmpty ∈ tG := tG_1 (List.mem_of_getElem? (i := 174) (by decide +kernel)) (by decide +kernel)
theorem k_instanceMethod_y_Q_isEmpty : Cond.instanceMethod y_Q_isEmpty ∈ tG := tG_1 (List.mem_of_getElem? (i := 175) (by decide +kernel)) (by decide +kernel)
theorem k_selects_rn_Q_y_Q_isEmpty_y_Q_isEmpty : Cond.selects rn_Q y_Q_isEmpty y_Q_isEmpty ∈ tG := tG_1 (List.mem_of_getElem? (i := 176) (by decide +kernel)) (by decide +kernel)
theorem k_code_y_Q_isEmpty_prog_2_method_3_code_1_some_boolean : Cond.code y_Q_isEmpty prog_2_method_3_code 1 (some .boolean) ∈ tG := tG_1 (List.mem_of_getElem? (i := 177) (by decide +kernel)) (by decide +kernel)
theorem k_methodLink_rn_S_64_y_Q_take : Cond.methodLink rn_S 64 y_Q_take ∈ tG := tG_1 (List.mem_of_getElem? (i := 178) (by decide +kernel)) (by decide +kernel)
theorem k_instanceMethod_y_Q_take : Cond.instanceMethod y_Q_take ∈ tG := tG_1 (List.mem_of_getElem? (i := 179) (by decide +kernel)) (by decide +kernel)
theorem k_selects_rn_Q_y_Q_take_y_Q_take : Cond.selects rn_Q y_Q_take y_Q_take ∈ tG := tG_1 (List.mem_of_getElem? (i := 180) (by decide +kernel)) (by decide +kernel)
theorem k_code_y_Q_take_prog_2_method_6_code_2_some_int : Cond.code y_Q_take prog_2_method_6_code 2 (some .int) ∈ tG := tG_1 (List.mem_of_getElem? (i := 181) (by decide +kernel)) (by decide +kernel)
theorem k_methodLink_rn_Q_28_y_Q_isEmpty : Cond.methodLink rn_Q 28 y_Q_isEmpty ∈ tG := tG_1 (List.mem_of_getElem? (i := 182) (by decide +kernel)) (by decide +kernel)
theorem k_methodLink_rn_S_68_y_S_joinMeeting : Cond.methodLink rn_S 68 y_S_joinMeeting ∈ tG := tG_1 (List.mem_of_getElem? (i := 183) (by decide +kernel)) (by decide +kernel)
theorem k_instanceMethod_y_S_joinMeeting : Cond.instanceMethod y_S_joinMeeting ∈ tG := tG_1 (List.mem_of_getElem? (i := 185) (by decide +kernel)) (by decide +kernel)
theorem k_code_y_S_joinMeeting_prog_4_method_5_code_7_none : Cond.code y_S_joinMeeting prog_4_method_5_code 7 none ∈ tG := tG_1 (List.mem_of_getElem? (i := 186) (by decide +kernel)) (by decide +kernel)
theorem k_fieldLink_rn_S_75_rn_S_APART_I : Cond.fieldLink rn_S 75 rn_S "APART" "[I" ∈ tG := tG_1 (List.mem_of_getElem? (i := 187) (by decide +kernel)) (by decide +kernel)
theorem k_methodLink_rn_S_72_y_S_joinAcross : Cond.methodLink rn_S 72 y_S_joinAcross ∈ tG := tG_1 (List.mem_of_getElem? (i := 189) (by decide +kernel)) (by decide +kernel)
theorem k_instanceMethod_y_S_joinAcross : Cond.instanceMethod y_S_joinAcross ∈ tG := tG_1 (List.mem_of_getElem? (i := 191) (by decide +kernel)) (by decide +kernel)
theorem k_code_y_S_joinAcross_prog_4_method_6_code_6_none : Cond.code y_S_joinAcross prog_4_method_6_code 6 none ∈ tG := tG_1 (List.mem_of_getElem? (i := 192) (by decide +kernel)) (by decide +kernel)
theorem k_methodLink_rn_S_78_y_A_hasSignal : Cond.methodLink rn_S 78 y_A_hasSignal ∈ tG := tG_1 (List.mem_of_getElem? (i := 193) (by decide +kernel)) (by decide +kernel)
theorem k_methodLink_rn_S_81_y_A_ahead : Cond.methodLink rn_S 81 y_A_ahead ∈ tG := tG_1 (List.mem_of_getElem? (i := 194) (by decide +kernel)) (by decide +kernel)
theorem k_methodLink_rn_L_76_y_R_sign : Cond.methodLink rn_L 76 y_R_sign ∈ tG := tG_1 (List.mem_of_getElem? (i := 195) (by decide +kernel)) (by decide +kernel)
theorem k_instanceMethod_y_R_sign : Cond.instanceMethod y_R_sign ∈ tG := tG_1 (List.mem_of_getElem? (i := 196) (by decide +kernel)) (by decide +kernel)
theorem k_selects_rn_R_y_R_sign_y_R_sign : Cond.selects rn_R y_R_sign y_R_sign ∈ tG := tG_1 (List.mem_of_getElem? (i := 197) (by decide +kernel)) (by decide +kernel)
theorem k_code_y_R_sign_prog_1_method_10_code_3_some_int : Cond.code y_R_sign prog_1_method_10_code 3 (some .int) ∈ tG := tG_1 (List.mem_of_getElem? (i := 198) (by decide +kernel)) (by decide +kernel)
theorem k_methodLink_rn_R_65_y_R_isStation : Cond.methodLink rn_R 65 y_R_isStation ∈ tG := tG_1 (List.mem_of_getElem? (i := 199) (by decide +kernel)) (by decide +kernel)
theorem k_static_y_R_isStation : Cond.static y_R_isStation ∈ tG := tG_1 (List.mem_of_getElem? (i := 200) (by decide +kernel)) (by decide +kernel)
theorem k_code_y_R_isStation_prog_1_method_17_code_1_some_boolean : Cond.code y_R_isStation prog_1_method_17_code 1 (some .boolean) ∈ tG := tG_1 (List.mem_of_getElem? (i := 201) (by decide +kernel)) (by decide +kernel)
theorem k_methodLink_rn_R_62_y_A_stationOf : Cond.methodLink rn_R 62 y_A_stationOf ∈ tG := tG_1 (List.mem_of_getElem? (i := 202) (by decide +kernel)) (by decide +kernel)
theorem k_instanceMethod_y_A_stationOf : Cond.instanceMethod y_A_stationOf ∈ tG := tG_1 (List.mem_of_getElem? (i := 203) (by decide +kernel)) (by decide +kernel)
theorem k_selects_rn_A_y_A_stationOf_y_A_stationOf : Cond.selects rn_A y_A_stationOf y_A_stationOf ∈ tG := tG_1 (List.mem_of_getElem? (i := 204) (by decide +kernel)) (by decide +kernel)
theorem k_code_y_A_stationOf_prog_3_method_7_code_2_some_int : Cond.code y_A_stationOf prog_3_method_7_code 2 (some .int) ∈ tG := tG_1 (List.mem_of_getElem? (i := 205) (by decide +kernel)) (by decide +kernel)
theorem k_methodLink_rn_L_80_y_R_isTarget : Cond.methodLink rn_L 80 y_R_isTarget ∈ tG := tG_1 (List.mem_of_getElem? (i := 206) (by decide +kernel)) (by decide +kernel)
theorem k_instanceMethod_y_R_isTarget : Cond.instanceMethod y_R_isTarget ∈ tG := tG_1 (List.mem_of_getElem? (i := 207) (by decide +kernel)) (by decide +kernel)
theorem k_selects_rn_R_y_R_isTarget_y_R_isTarget : Cond.selects rn_R y_R_isTarget y_R_isTarget ∈ tG := tG_1 (List.mem_of_getElem? (i := 208) (by decide +kernel)) (by decide +kernel)
theorem k_code_y_R_isTarget_prog_1_method_11_code_3_some_boolean : Cond.code y_R_isTarget prog_1_method_11_code 3 (some .boolean) ∈ tG := tG_1 (List.mem_of_getElem? (i := 209) (by decide +kernel)) (by decide +kernel)
theorem k_methodLink_rn_R_108_y_A_isLastOf : Cond.methodLink rn_R 108 y_A_isLastOf ∈ tG := tG_1 (List.mem_of_getElem? (i := 210) (by decide +kernel)) (by decide +kernel)
theorem k_instanceMethod_y_A_isLastOf : Cond.instanceMethod y_A_isLastOf ∈ tG := tG_1 (List.mem_of_getElem? (i := 211) (by decide +kernel)) (by decide +kernel)
theorem k_selects_rn_A_y_A_isLastOf_y_A_isLastOf : Cond.selects rn_A y_A_isLastOf y_A_isLastOf ∈ tG := tG_1 (List.mem_of_getElem? (i := 212) (by decide +kernel)) (by decide +kernel)
theorem k_code_y_A_isLastOf_prog_3_method_16_code_5_some_boolean : Cond.code y_A_isLastOf prog_3_method_16_code 5 (some .boolean) ∈ tG := tG_1 (List.mem_of_getElem? (i := 213) (by decide +kernel)) (by decide +kernel)
theorem k_methodLink_rn_A_42_y_A_stationOf : Cond.methodLink rn_A 42 y_A_stationOf ∈ tG := tG_1 (List.mem_of_getElem? (i := 214) (by decide +kernel)) (by decide +kernel)
theorem k_methodLink_rn_A_45_y_A_isOpen : Cond.methodLink rn_A 45 y_A_isOpen ∈ tG := tG_1 (List.mem_of_getElem? (i := 215) (by decide +kernel)) (by decide +kernel)
theorem k_methodLink_rn_L_85_y_R_cost : Cond.methodLink rn_L 85 y_R_cost ∈ tG := tG_1 (List.mem_of_getElem? (i := 216) (by decide +kernel)) (by decide +kernel)
theorem k_instanceMethod_y_R_cost : Cond.instanceMethod y_R_cost ∈ tG := tG_1 (List.mem_of_getElem? (i := 217) (by decide +kernel)) (by decide +kernel)
theorem k_selects_rn_R_y_R_cost_y_R_cost : Cond.selects rn_R y_R_cost y_R_cost ∈ tG := tG_1 (List.mem_of_getElem? (i := 218) (by decide +kernel)) (by decide +kernel)
theorem k_code_y_R_cost_prog_1_method_12_code_3_some_int : Cond.code y_R_cost prog_1_method_12_code 3 (some .int) ∈ tG := tG_1 (List.mem_of_getElem? (i := 219) (by decide +kernel)) (by decide +kernel)
theorem k_methodLink_rn_R_112_y_S_findCosts : Cond.methodLink rn_R 112 y_S_findCosts ∈ tG := tG_1 (List.mem_of_getElem? (i := 220) (by decide +kernel)) (by decide +kernel)
theorem k_instanceMethod_y_S_findCosts : Cond.instanceMethod y_S_findCosts ∈ tG := tG_1 (List.mem_of_getElem? (i := 221) (by decide +kernel)) (by decide +kernel)
theorem k_selects_rn_S_y_S_findCosts_y_S_findCosts : Cond.selects rn_S y_S_findCosts y_S_findCosts ∈ tG := tG_1 (List.mem_of_getElem? (i := 222) (by decide +kernel)) (by decide +kernel)
theorem k_code_y_S_findCosts_prog_4_method_8_code_5_none : Cond.code y_S_findCosts prog_4_method_8_code 5 none ∈ tG := tG_1 (List.mem_of_getElem? (i := 223) (by decide +kernel)) (by decide +kernel)
theorem k_methodLink_rn_S_88_y_S_settleTargets : Cond.methodLink rn_S 88 y_S_settleTargets ∈ tG := tG_1 (List.mem_of_getElem? (i := 224) (by decide +kernel)) (by decide +kernel)
theorem k_instanceMethod_y_S_settleTargets : Cond.instanceMethod y_S_settleTargets ∈ tG := tG_1 (List.mem_of_getElem? (i := 226) (by decide +kernel)) (by decide +kernel)
theorem k_code_y_S_settleTargets_prog_4_method_9_code_5_none : Cond.code y_S_settleTargets prog_4_method_9_code 5 none ∈ tG := tG_1 (List.mem_of_getElem? (i := 227) (by decide +kernel)) (by decide +kernel)
theorem k_methodLink_rn_S_97_y_A_stationOf : Cond.methodLink rn_S 97 y_A_stationOf ∈ tG := tG_1 (List.mem_of_getElem? (i := 228) (by decide +kernel)) (by decide +kernel)
theorem k_methodLink_rn_S_101_y_A_isOpen : Cond.methodLink rn_S 101 y_A_isOpen ∈ tG := tG_1 (List.mem_of_getElem? (i := 229) (by decide +kernel)) (by decide +kernel)
theorem k_methodLink_rn_S_104_y_A_isLastOf : Cond.methodLink rn_S 104 y_A_isLastOf ∈ tG := tG_1 (List.mem_of_getElem? (i := 230) (by decide +kernel)) (by decide +kernel)
theorem k_methodLink_rn_S_108_y_S_settle : Cond.methodLink rn_S 108 y_S_settle ∈ tG := tG_1 (List.mem_of_getElem? (i := 231) (by decide +kernel)) (by decide +kernel)
theorem k_instanceMethod_y_S_settle : Cond.instanceMethod y_S_settle ∈ tG := tG_1 (List.mem_of_getElem? (i := 233) (by decide +kernel)) (by decide +kernel)
theorem k_code_y_S_settle_prog_4_method_11_code_4_none : Cond.code y_S_settle prog_4_method_11_code 4 none ∈ tG := tG_1 (List.mem_of_getElem? (i := 234) (by decide +kernel)) (by decide +kernel)
theorem k_methodLink_rn_S_117_y_A_isStraight : Cond.methodLink rn_S 117 y_A_isStraight ∈ tG := tG_1 (List.mem_of_getElem? (i := 235) (by decide +kernel)) (by decide +kernel)
theorem k_instanceMethod_y_A_isStraight : Cond.instanceMethod y_A_isStraight ∈ tG := tG_1 (List.mem_of_getElem? (i := 236) (by decide +kernel)) (by decide +kernel)
theorem k_selects_rn_A_y_A_isStraight_y_A_isStraight : Cond.selects rn_A y_A_isStraight y_A_isStraight ∈ tG := tG_1 (List.mem_of_getElem? (i := 237) (by decide +kernel)) (by decide +kernel)
theorem k_code_y_A_isStraight_prog_3_method_12_code_2_some_boolean : Cond.code y_A_isStraight prog_3_method_12_code 2 (some .boolean) ∈ tG := tG_1 (List.mem_of_getElem? (i := 238) (by decide +kernel)) (by decide +kernel)
theorem k_methodLink_rn_S_91_y_S_takeNearest : Cond.methodLink rn_S 91 y_S_takeNearest ∈ tG := tG_1 (List.mem_of_getElem? (i := 239) (by decide +kernel)) (by decide +kernel)
theorem k_instanceMethod_y_S_takeNearest : Cond.instanceMethod y_S_takeNearest ∈ tG := tG_2 (List.mem_of_getElem? (i := 1) (by decide +kernel)) (by decide +kernel)
theorem k_code_y_S_takeNearest_prog_4_method_12_code_5_some_int : Cond.code y_S_takeNearest prog_4_method_12_code 5 (some .int) ∈ tG := tG_2 (List.mem_of_getElem? (i := 2) (by decide +kernel)) (by decide +kernel)
theorem k_methodLink_rn_S_120_y_Q_first : Cond.methodLink rn_S 120 y_Q_first ∈ tG := tG_2 (List.mem_of_getElem? (i := 3) (by decide +kernel)) (by decide +kernel)
theorem k_instanceMethod_y_Q_first : Cond.instanceMethod y_Q_first ∈ tG := tG_2 (List.mem_of_getElem? (i := 4) (by decide +kernel)) (by decide +kernel)
theorem k_selects_rn_Q_y_Q_first_y_Q_first : Cond.selects rn_Q y_Q_first y_Q_first ∈ tG := tG_2 (List.mem_of_getElem? (i := 5) (by decide +kernel)) (by decide +kernel)
theorem k_code_y_Q_first_prog_2_method_5_code_1_some_int : Cond.code y_Q_first prog_2_method_5_code 1 (some .int) ∈ tG := tG_2 (List.mem_of_getElem? (i := 6) (by decide +kernel)) (by decide +kernel)
theorem k_methodLink_rn_S_94_y_S_settleBehind : Cond.methodLink rn_S 94 y_S_settleBehind ∈ tG := tG_2 (List.mem_of_getElem? (i := 7) (by decide +kernel)) (by decide +kernel)
theorem k_instanceMethod_y_S_settleBehind : Cond.instanceMethod y_S_settleBehind ∈ tG := tG_2 (List.mem_of_getElem? (i := 9) (by decide +kernel)) (by decide +kernel)
theorem k_code_y_S_settleBehind_prog_4_method_10_code_6_none : Cond.code y_S_settleBehind prog_4_method_10_code 6 none ∈ tG := tG_2 (List.mem_of_getElem? (i := 10) (by decide +kernel)) (by decide +kernel)
theorem k_methodLink_rn_S_111_y_A_lengthOf : Cond.methodLink rn_S 111 y_A_lengthOf ∈ tG := tG_2 (List.mem_of_getElem? (i := 11) (by decide +kernel)) (by decide +kernel)
theorem k_instanceMethod_y_A_lengthOf : Cond.instanceMethod y_A_lengthOf ∈ tG := tG_2 (List.mem_of_getElem? (i := 12) (by decide +kernel)) (by decide +kernel)
theorem k_selects_rn_A_y_A_lengthOf_y_A_lengthOf : Cond.selects rn_A y_A_lengthOf y_A_lengthOf ∈ tG := tG_2 (List.mem_of_getElem? (i := 13) (by decide +kernel)) (by decide +kernel)
theorem k_code_y_A_lengthOf_prog_3_method_13_code_2_some_int : Cond.code y_A_lengthOf prog_3_method_13_code 2 (some .int) ∈ tG := tG_2 (List.mem_of_getElem? (i := 14) (by decide +kernel)) (by decide +kernel)
theorem k_methodLink_rn_A_29_y_A_isStraight : Cond.methodLink rn_A 29 y_A_isStraight ∈ tG := tG_2 (List.mem_of_getElem? (i := 15) (by decide +kernel)) (by decide +kernel)
theorem k_methodLink_rn_S_114_y_A_behind : Cond.methodLink rn_S 114 y_A_behind ∈ tG := tG_2 (List.mem_of_getElem? (i := 16) (by decide +kernel)) (by decide +kernel)
theorem k_methodLink_rn_L_89_y_R_route : Cond.methodLink rn_L 89 y_R_route ∈ tG := tG_2 (List.mem_of_getElem? (i := 17) (by decide +kernel)) (by decide +kernel)
theorem k_instanceMethod_y_R_route : Cond.instanceMethod y_R_route ∈ tG := tG_2 (List.mem_of_getElem? (i := 18) (by decide +kernel)) (by decide +kernel)
theorem k_selects_rn_R_y_R_route_y_R_route : Cond.selects rn_R y_R_route y_R_route ∈ tG := tG_2 (List.mem_of_getElem? (i := 19) (by decide +kernel)) (by decide +kernel)
theorem k_code_y_R_route_prog_1_method_13_code_6_some_int : Cond.code y_R_route prog_1_method_13_code 6 (some .int) ∈ tG := tG_2 (List.mem_of_getElem? (i := 20) (by decide +kernel)) (by decide +kernel)
theorem k_methodLink_rn_R_116_y_S_cheapestAhead : Cond.methodLink rn_R 116 y_S_cheapestAhead ∈ tG := tG_2 (List.mem_of_getElem? (i := 21) (by decide +kernel)) (by decide +kernel)
theorem k_instanceMethod_y_S_cheapestAhead : Cond.instanceMethod y_S_cheapestAhead ∈ tG := tG_2 (List.mem_of_getElem? (i := 22) (by decide +kernel)) (by decide +kernel)
theorem k_selects_rn_S_y_S_cheapestAhead_y_S_cheapestAhead : Cond.selects rn_S y_S_cheapestAhead y_S_cheapestAhead ∈ tG := tG_2 (List.mem_of_getElem? (i := 23) (by decide +kernel)) (by decide +kernel)
theorem k_code_y_S_cheapestAhead_prog_4_method_13_code_8_some_int : Cond.code y_S_cheapestAhead prog_4_method_13_code 8 (some .int) ∈ tG := tG_2 (List.mem_of_getElem? (i := 24) (by decide +kernel)) (by decide +kernel)
theorem k_methodLink_rn_R_120_y_A_hasSignal : Cond.methodLink rn_R 120 y_A_hasSignal ∈ tG := tG_2 (List.mem_of_getElem? (i := 25) (by decide +kernel)) (by decide +kernel)
theorem k_methodLink_rn_L_94_y_R_count : Cond.methodLink rn_L 94 y_R_count ∈ tG := tG_2 (List.mem_of_getElem? (i := 26) (by decide +kernel)) (by decide +kernel)
theorem k_instanceMethod_y_R_count : Cond.instanceMethod y_R_count ∈ tG := tG_2 (List.mem_of_getElem? (i := 27) (by decide +kernel)) (by decide +kernel)
theorem k_selects_rn_R_y_R_count_y_R_count : Cond.selects rn_R y_R_count y_R_count ∈ tG := tG_2 (List.mem_of_getElem? (i := 28) (by decide +kernel)) (by decide +kernel)
theorem k_code_y_R_count_prog_1_method_14_code_2_some_int : Cond.code y_R_count prog_1_method_14_code 2 (some .int) ∈ tG := tG_2 (List.mem_of_getElem? (i := 29) (by decide +kernel)) (by decide +kernel)
theorem k_methodLink_rn_R_123_y_A_piecesWith : Cond.methodLink rn_R 123 y_A_piecesWith ∈ tG := tG_2 (List.mem_of_getElem? (i := 30) (by decide +kernel)) (by decide +kernel)
theorem k_instanceMethod_y_A_piecesWith : Cond.instanceMethod y_A_piecesWith ∈ tG := tG_2 (List.mem_of_getElem? (i := 31) (by decide +kernel)) (by decide +kernel)
theorem k_selects_rn_A_y_A_piecesWith_y_A_piecesWith : Cond.selects rn_A y_A_piecesWith y_A_piecesWith ∈ tG := tG_2 (List.mem_of_getElem? (i := 32) (by decide +kernel)) (by decide +kernel)
theorem k_code_y_A_piecesWith_prog_3_method_9_code_4_some_int : Cond.code y_A_piecesWith prog_3_method_9_code 4 (some .int) ∈ tG := tG_2 (List.mem_of_getElem? (i := 33) (by decide +kernel)) (by decide +kernel)
theorem k_methodLink_rn_L_28_y_L_cell : Cond.methodLink rn_L 28 y_L_cell ∈ tG := tG_2 (List.mem_of_getElem? (i := 34) (by decide +kernel)) (by decide +kernel)
theorem k_static_y_L_cell : Cond.static y_L_cell ∈ tG := tG_2 (List.mem_of_getElem? (i := 35) (by decide +kernel)) (by decide +kernel)
theorem k_code_y_L_cell_method_2_code_2_some_int : Cond.code y_L_cell method_2_code 2 (some .int) ∈ tG := tG_2 (List.mem_of_getElem? (i := 36) (by decide +kernel)) (by decide +kernel)
theorem k_methodLink_rn_L_39_y_L_lay : Cond.methodLink rn_L 39 y_L_lay ∈ tG := tG_2 (List.mem_of_getElem? (i := 37) (by decide +kernel)) (by decide +kernel)
theorem k_static_y_L_lay : Cond.static y_L_lay ∈ tG := tG_2 (List.mem_of_getElem? (i := 38) (by decide +kernel)) (by decide +kernel)
theorem k_codeWith_y_L_lay_method_3_code_4_some_int_0_6_9_13_0_6_12_15 : Cond.codeWith y_L_lay method_3_code 4 (some .int) [(0, 6, 9, 13), (0, 6, 12, 15)] ∈ tG := tG_2 (List.mem_of_getElem? (i := 39) (by decide +kernel)) (by decide +kernel)
theorem k_classLink_rn_L_13_java_lang_IndexOutOfBoundsException : Cond.classLink rn_L 13 "java/lang/IndexOutOfBoundsException" ∈ tG := tG_2 (List.mem_of_getElem? (i := 40) (by decide +kernel)) (by decide +kernel)
theorem k_classLink_rn_L_15_java_lang_IllegalArgumentException : Cond.classLink rn_L 15 "java/lang/IllegalArgumentException" ∈ tG := tG_2 (List.mem_of_getElem? (i := 41) (by decide +kernel)) (by decide +kernel)
theorem k_methodLink_rn_L_7_y_R_lay : Cond.methodLink rn_L 7 y_R_lay ∈ tG := tG_2 (List.mem_of_getElem? (i := 42) (by decide +kernel)) (by decide +kernel)
theorem k_instanceMethod_y_R_lay : Cond.instanceMethod y_R_lay ∈ tG := tG_2 (List.mem_of_getElem? (i := 43) (by decide +kernel)) (by decide +kernel)
theorem k_selects_rn_R_y_R_lay_y_R_lay : Cond.selects rn_R y_R_lay y_R_lay ∈ tG := tG_2 (List.mem_of_getElem? (i := 44) (by decide +kernel)) (by decide +kernel)
theorem k_code_y_R_lay_prog_1_method_2_code_4_none : Cond.code y_R_lay prog_1_method_2_code 4 none ∈ tG := tG_2 (List.mem_of_getElem? (i := 45) (by decide +kernel)) (by decide +kernel)
theorem k_methodLink_rn_R_31_y_R_requirePlace : Cond.methodLink rn_R 31 y_R_requirePlace ∈ tG := tG_2 (List.mem_of_getElem? (i := 46) (by decide +kernel)) (by decide +kernel)
theorem k_instanceMethod_y_R_requirePlace : Cond.instanceMethod y_R_requirePlace ∈ tG := tG_2 (List.mem_of_getElem? (i := 48) (by decide +kernel)) (by decide +kernel)
theorem k_code_y_R_requirePlace_prog_1_method_18_code_3_none : Cond.code y_R_requirePlace prog_1_method_18_code 3 none ∈ tG := tG_2 (List.mem_of_getElem? (i := 49) (by decide +kernel)) (by decide +kernel)
theorem k_classLink_rn_R_68_java_lang_IndexOutOfBoundsException : Cond.classLink rn_R 68 "java/lang/IndexOutOfBoundsException" ∈ tG := tG_2 (List.mem_of_getElem? (i := 50) (by decide +kernel)) (by decide +kernel)
theorem k_instantiable_java_lang_IndexOutOfBoundsException_6 : Cond.instantiable "java/lang/IndexOutOfBoundsException" 6 ∈ tG := tG_2 (List.mem_of_getElem? (i := 51) (by decide +kernel)) (by decide +kernel)
theorem k_methodLink_rn_R_72_java_lang_IndexOutOfBoundsException_init_Ljava_lang_String_V : Cond.methodLink rn_R 72 ⟨"java/lang/IndexOutOfBoundsException", "<init>", "(Ljava/lang/String;)V"⟩ ∈ tG := tG_2 (List.mem_of_getElem? (i := 91) (by decide +kernel)) (by decide +kernel)
theorem k_instanceMethod_java_lang_IndexOutOfBoundsException_init_Ljava_lang_String_V : Cond.instanceMethod ⟨"java/lang/IndexOutOfBoundsException", "<init>", "(Ljava/lang/String;)V"⟩ ∈ tG := tG_2 (List.mem_of_getElem? (i := 92) (by decide +kernel)) (by decide +kernel)
theorem k_code_java_lang_IndexOutOfBoundsException_init_Ljava_lang_String_V_prog_9_method_2_code_2_none : Cond.code ⟨"java/lang/IndexOutOfBoundsException", "<init>", "(Ljava/lang/String;)V"⟩ prog_9_method_2_code 2 none ∈ tG := tG_2 (List.mem_of_getElem? (i := 93) (by decide +kernel)) (by decide +kernel)
theorem k_arrayClass_byte : Cond.arrayClass .byte ∈ tG := tG_2 (List.mem_of_getElem? (i := 116) (by decide +kernel)) (by decide +kernel)
theorem k_methodLink_rn_R_34_y_A_isThere : Cond.methodLink rn_R 34 y_A_isThere ∈ tG := tG_2 (List.mem_of_getElem? (i := 118) (by decide +kernel)) (by decide +kernel)
theorem k_classLink_rn_R_38_java_lang_IllegalArgumentException : Cond.classLink rn_R 38 "java/lang/IllegalArgumentException" ∈ tG := tG_2 (List.mem_of_getElem? (i := 119) (by decide +kernel)) (by decide +kernel)
theorem k_instantiable_java_lang_IllegalArgumentException_6 : Cond.instantiable "java/lang/IllegalArgumentException" 6 ∈ tG := tG_2 (List.mem_of_getElem? (i := 120) (by decide +kernel)) (by decide +kernel)
theorem k_methodLink_rn_R_42_java_lang_IllegalArgumentException_init_Ljava_lang_String_V : Cond.methodLink rn_R 42 ⟨"java/lang/IllegalArgumentException", "<init>", "(Ljava/lang/String;)V"⟩ ∈ tG := tG_2 (List.mem_of_getElem? (i := 129) (by decide +kernel)) (by decide +kernel)
theorem k_instanceMethod_java_lang_IllegalArgumentException_init_Ljava_lang_String_V : Cond.instanceMethod ⟨"java/lang/IllegalArgumentException", "<init>", "(Ljava/lang/String;)V"⟩ ∈ tG := tG_2 (List.mem_of_getElem? (i := 130) (by decide +kernel)) (by decide +kernel)
theorem k_code_java_lang_IllegalArgumentException_init_Ljava_lang_String_V_prog_8_method_2_code_2_none : Cond.code ⟨"java/lang/IllegalArgumentException", "<init>", "(Ljava/lang/String;)V"⟩ prog_8_method_2_code 2 none ∈ tG := tG_2 (List.mem_of_getElem? (i := 131) (by decide +kernel)) (by decide +kernel)
theorem k_methodLink_rn_R_45_y_A_put : Cond.methodLink rn_R 45 y_A_put ∈ tG := tG_2 (List.mem_of_getElem? (i := 135) (by decide +kernel)) (by decide +kernel)
theorem k_instanceMethod_y_A_put : Cond.instanceMethod y_A_put ∈ tG := tG_2 (List.mem_of_getElem? (i := 136) (by decide +kernel)) (by decide +kernel)
theorem k_selects_rn_A_y_A_put_y_A_put : Cond.selects rn_A y_A_put y_A_put ∈ tG := tG_2 (List.mem_of_getElem? (i := 137) (by decide +kernel)) (by decide +kernel)
theorem k_code_y_A_put_prog_3_method_3_code_4_none : Cond.code y_A_put prog_3_method_3_code 4 none ∈ tG := tG_2 (List.mem_of_getElem? (i := 138) (by decide +kernel)) (by decide +kernel)
theorem k_methodLink_rn_R_49_y_S_forget : Cond.methodLink rn_R 49 y_S_forget ∈ tG := tG_2 (List.mem_of_getElem? (i := 139) (by decide +kernel)) (by decide +kernel)
theorem k_instanceMethod_y_S_forget : Cond.instanceMethod y_S_forget ∈ tG := tG_2 (List.mem_of_getElem? (i := 140) (by decide +kernel)) (by decide +kernel)
theorem k_selects_rn_S_y_S_forget_y_S_forget : Cond.selects rn_S y_S_forget y_S_forget ∈ tG := tG_2 (List.mem_of_getElem? (i := 141) (by decide +kernel)) (by decide +kernel)
theorem k_code_y_S_forget_prog_4_method_2_code_1_none : Cond.code y_S_forget prog_4_method_2_code 1 none ∈ tG := tG_2 (List.mem_of_getElem? (i := 142) (by decide +kernel)) (by decide +kernel)
theorem k_methodLink_rn_L_47_y_L_lift : Cond.methodLink rn_L 47 y_L_lift ∈ tG := tG_2 (List.mem_of_getElem? (i := 143) (by decide +kernel)) (by decide +kernel)
theorem k_static_y_L_lift : Cond.static y_L_lift ∈ tG := tG_2 (List.mem_of_getElem? (i := 144) (by decide +kernel)) (by decide +kernel)
theorem k_codeWith_y_L_lift_method_4_code_4_some_int_0_6_9_13_0_6_12_15 : Cond.codeWith y_L_lift method_4_code 4 (some .int) [(0, 6, 9, 13), (0, 6, 12, 15)] ∈ tG := tG_2 (List.mem_of_getElem? (i := 145) (by decide +kernel)) (by decide +kernel)
theorem k_methodLink_rn_L_17_y_R_lift : Cond.methodLink rn_L 17 y_R_lift ∈ tG := tG_2 (List.mem_of_getElem? (i := 146) (by decide +kernel)) (by decide +kernel)
theorem k_instanceMethod_y_R_lift : Cond.instanceMethod y_R_lift ∈ tG := tG_2 (List.mem_of_getElem? (i := 147) (by decide +kernel)) (by decide +kernel)
theorem k_selects_rn_R_y_R_lift_y_R_lift : Cond.selects rn_R y_R_lift y_R_lift ∈ tG := tG_2 (List.mem_of_getElem? (i := 148) (by decide +kernel)) (by decide +kernel)
theorem k_code_y_R_lift_prog_1_method_3_code_4_none : Cond.code y_R_lift prog_1_method_3_code 4 none ∈ tG := tG_2 (List.mem_of_getElem? (i := 149) (by decide +kernel)) (by decide +kernel)
theorem k_methodLink_rn_R_52_y_R_requireThere : Cond.methodLink rn_R 52 y_R_requireThere ∈ tG := tG_2 (List.mem_of_getElem? (i := 150) (by decide +kernel)) (by decide +kernel)
theorem k_instanceMethod_y_R_requireThere : Cond.instanceMethod y_R_requireThere ∈ tG := tG_2 (List.mem_of_getElem? (i := 152) (by decide +kernel)) (by decide +kernel)
theorem k_code_y_R_requireThere_prog_1_method_19_code_2_none : Cond.code y_R_requireThere prog_1_method_19_code 2 none ∈ tG := tG_2 (List.mem_of_getElem? (i := 153) (by decide +kernel)) (by decide +kernel)
theorem k_methodLink_rn_R_55_y_A_takeAway : Cond.methodLink rn_R 55 y_A_takeAway ∈ tG := tG_2 (List.mem_of_getElem? (i := 155) (by decide +kernel)) (by decide +kernel)
theorem k_instanceMethod_y_A_takeAway : Cond.instanceMethod y_A_takeAway ∈ tG := tG_2 (List.mem_of_getElem? (i := 156) (by decide +kernel)) (by decide +kernel)
theorem k_selects_rn_A_y_A_takeAway_y_A_takeAway : Cond.selects rn_A y_A_takeAway y_A_takeAway ∈ tG := tG_2 (List.mem_of_getElem? (i := 157) (by decide +kernel)) (by decide +kernel)
theorem k_code_y_A_takeAway_prog_3_method_4_code_2_none : Cond.code y_A_takeAway prog_3_method_4_code 2 none ∈ tG := tG_2 (List.mem_of_getElem? (i := 158) (by decide +kernel)) (by decide +kernel)
theorem k_methodLink_rn_L_50_y_L_signal : Cond.methodLink rn_L 50 y_L_signal ∈ tG := tG_2 (List.mem_of_getElem? (i := 159) (by decide +kernel)) (by decide +kernel)
theorem k_static_y_L_signal : Cond.static y_L_signal ∈ tG := tG_2 (List.mem_of_getElem? (i := 160) (by decide +kernel)) (by decide +kernel)
theorem k_codeWith_y_L_signal_method_5_code_6_some_int_0_9_12_13_0_9_16_15 : Cond.codeWith y_L_signal method_5_code 6 (some .int) [(0, 9, 12, 13), (0, 9, 16, 15)] ∈ tG := tG_2 (List.mem_of_getElem? (i := 161) (by decide +kernel)) (by decide +kernel)
theorem k_methodLink_rn_L_20_y_R_signal : Cond.methodLink rn_L 20 y_R_signal ∈ tG := tG_2 (List.mem_of_getElem? (i := 162) (by decide +kernel)) (by decide +kernel)
theorem k_instanceMethod_y_R_signal : Cond.instanceMethod y_R_signal ∈ tG := tG_2 (List.mem_of_getElem? (i := 163) (by decide +kernel)) (by decide +kernel)
theorem k_selects_rn_R_y_R_signal_y_R_signal : Cond.selects rn_R y_R_signal y_R_signal ∈ tG := tG_2 (List.mem_of_getElem? (i := 164) (by decide +kernel)) (by decide +kernel)
theorem k_code_y_R_signal_prog_1_method_4_code_7_none : Cond.code y_R_signal prog_1_method_4_code 7 none ∈ tG := tG_2 (List.mem_of_getElem? (i := 165) (by decide +kernel)) (by decide +kernel)
theorem k_methodLink_rn_L_54_y_L_platform : Cond.methodLink rn_L 54 y_L_platform ∈ tG := tG_2 (List.mem_of_getElem? (i := 168) (by decide +kernel)) (by decide +kernel)
theorem k_static_y_L_platform : Cond.static y_L_platform ∈ tG := tG_2 (List.mem_of_getElem? (i := 169) (by decide +kernel)) (by decide +kernel)
theorem k_codeWith_y_L_platform_method_6_code_5_some_int_0_7_10_13_0_7_14_15 : Cond.codeWith y_L_platform method_6_code 5 (some .int) [(0, 7, 10, 13), (0, 7, 14, 15)] ∈ tG := tG_2 (List.mem_of_getElem? (i := 170) (by decide +kernel)) (by decide +kernel)
theorem k_methodLink_rn_L_24_y_R_platform : Cond.methodLink rn_L 24 y_R_platform ∈ tG := tG_2 (List.mem_of_getElem? (i := 171) (by decide +kernel)) (by decide +kernel)
theorem k_instanceMethod_y_R_platform : Cond.instanceMethod y_R_platform ∈ tG := tG_2 (List.mem_of_getElem? (i := 172) (by decide +kernel)) (by decide +kernel)
theorem k_selects_rn_R_y_R_platform_y_R_platform : Cond.selects rn_R y_R_platform y_R_platform ∈ tG := tG_2 (List.mem_of_getElem? (i := 173) (by decide +kernel)) (by decide +kernel)
theorem k_code_y_R_platform_prog_1_method_5_code_5_none : Cond.code y_R_platform prog_1_method_5_code 5 none ∈ tG := tG_2 (List.mem_of_getElem? (i := 174) (by decide +kernel)) (by decide +kernel)
theorem k_methodLink_rn_R_75_y_A_signalOf : Cond.methodLink rn_R 75 y_A_signalOf ∈ tG := tG_2 (List.mem_of_getElem? (i := 177) (by decide +kernel)) (by decide +kernel)
theorem k_classLink_rn_L_36_rn_M : Cond.classLink rn_L 36 rn_M ∈ tG := tG_2 (List.mem_of_getElem? (i := 178) (by decide +kernel)) (by decide +kernel)
theorem k_instantiable_rn_M_12 : Cond.instantiable rn_M 12 ∈ tG := tG_2 (List.mem_of_getElem? (i := 179) (by decide +kernel)) (by decide +kernel)
theorem k_methodLink_rn_L_38_y_M_init : Cond.methodLink rn_L 38 y_M_init ∈ tG := tG_2 (List.mem_of_getElem? (i := 180) (by decide +kernel)) (by decide +kernel)
theorem k_instanceMethod_y_M_init : Cond.instanceMethod y_M_init ∈ tG := tG_2 (List.mem_of_getElem? (i := 181) (by decide +kernel)) (by decide +kernel)
theorem k_code_y_M_init_prog_6_method_1_code_3_none : Cond.code y_M_init prog_6_method_1_code 3 none ∈ tG := tG_2 (List.mem_of_getElem? (i := 182) (by decide +kernel)) (by decide +kernel)
theorem k_methodLink_rn_M_1_objectInit : Cond.methodLink rn_M 1 objectInit ∈ tG := tG_2 (List.mem_of_getElem? (i := 183) (by decide +kernel)) (by decide +kernel)
theorem k_fieldLink_rn_M_7_rn_M_edges_I : Cond.fieldLink rn_M 7 rn_M "edges" "[I" ∈ tG := tG_2 (List.mem_of_getElem? (i := 184) (by decide +kernel)) (by decide +kernel)
theorem k_fieldLink_rn_M_42_rn_M_thrown_I : Cond.fieldLink rn_M 42 rn_M "thrown" "I" ∈ tG := tG_2 (List.mem_of_getElem? (i := 185) (by decide +kernel)) (by decide +kernel)
theorem k_fieldLink_rn_M_35_rn_M_w_I : Cond.fieldLink rn_M 35 rn_M "w" "I" ∈ tG := tG_2 (List.mem_of_getElem? (i := 186) (by decide +kernel)) (by decide +kernel)
theorem k_fieldLink_rn_M_39_rn_M_h_I : Cond.fieldLink rn_M 39 rn_M "h" "I" ∈ tG := tG_2 (List.mem_of_getElem? (i := 187) (by decide +kernel)) (by decide +kernel)
theorem k_fieldLink_rn_M_13_rn_M_there_Z : Cond.fieldLink rn_M 13 rn_M "there" "[Z" ∈ tG := tG_2 (List.mem_of_getElem? (i := 188) (by decide +kernel)) (by decide +kernel)
theorem k_fieldLink_rn_M_17_rn_M_signs_I : Cond.fieldLink rn_M 17 rn_M "signs" "[I" ∈ tG := tG_2 (List.mem_of_getElem? (i := 189) (by decide +kernel)) (by decide +kernel)
theorem k_fieldLink_rn_M_20_rn_M_stations_I : Cond.fieldLink rn_M 20 rn_M "stations" "[I" ∈ tG := tG_2 (List.mem_of_getElem? (i := 190) (by decide +kernel)) (by decide +kernel)
theorem k_fieldLink_rn_M_23_rn_M_list_I : Cond.fieldLink rn_M 23 rn_M "list" "[I" ∈ tG := tG_2 (List.mem_of_getElem? (i := 191) (by decide +kernel)) (by decide +kernel)
theorem k_fieldLink_rn_M_52_rn_M_pieces_I : Cond.fieldLink rn_M 52 rn_M "pieces" "I" ∈ tG := tG_2 (List.mem_of_getElem? (i := 192) (by decide +kernel)) (by decide +kernel)
theorem k_fieldLink_rn_M_26_rn_M_cost_I : Cond.fieldLink rn_M 26 rn_M "cost" "[I" ∈ tG := tG_2 (List.mem_of_getElem? (i := 193) (by decide +kernel)) (by decide +kernel)
theorem k_fieldLink_rn_M_29_rn_M_reached_Z : Cond.fieldLink rn_M 29 rn_M "reached" "[Z" ∈ tG := tG_2 (List.mem_of_getElem? (i := 194) (by decide +kernel)) (by decide +kernel)
theorem k_fieldLink_rn_M_32_rn_M_pile_I : Cond.fieldLink rn_M 32 rn_M "pile" "[I" ∈ tG := tG_2 (List.mem_of_getElem? (i := 195) (by decide +kernel)) (by decide +kernel)
theorem k_laysFinal_rn_M_rn_M_edges_I : Cond.laysFinal rn_M rn_M "edges" "[I" ∈ tG := tG_2 (List.mem_of_getElem? (i := 196) (by decide +kernel)) (by decide +kernel)
theorem k_lays_rn_M_rn_M_thrown_I : Cond.lays rn_M rn_M "thrown" "I" ∈ tG := tG_2 (List.mem_of_getElem? (i := 198) (by decide +kernel)) (by decide +kernel)
theorem k_laysFinal_rn_M_rn_M_w_I : Cond.laysFinal rn_M rn_M "w" "I" ∈ tG := tG_2 (List.mem_of_getElem? (i := 200) (by decide +kernel)) (by decide +kernel)
theorem k_laysFinal_rn_M_rn_M_h_I : Cond.laysFinal rn_M rn_M "h" "I" ∈ tG := tG_2 (List.mem_of_getElem? (i := 202) (by decide +kernel)) (by decide +kernel)
theorem k_laysFinal_rn_M_rn_M_there_Z : Cond.laysFinal rn_M rn_M "there" "[Z" ∈ tG := tG_2 (List.mem_of_getElem? (i := 204) (by decide +kernel)) (by decide +kernel)
theorem k_laysFinal_rn_M_rn_M_signs_I : Cond.laysFinal rn_M rn_M "signs" "[I" ∈ tG := tG_2 (List.mem_of_getElem? (i := 206) (by decide +kernel)) (by decide +kernel)
theorem k_laysFinal_rn_M_rn_M_stations_I : Cond.laysFinal rn_M rn_M "stations" "[I" ∈ tG := tG_2 (List.mem_of_getElem? (i := 208) (by decide +kernel)) (by decide +kernel)
theorem k_laysFinal_rn_M_rn_M_list_I : Cond.laysFinal rn_M rn_M "list" "[I" ∈ tG := tG_2 (List.mem_of_getElem? (i := 210) (by decide +kernel)) (by decide +kernel)
theorem k_lays_rn_M_rn_M_pieces_I : Cond.lays rn_M rn_M "pieces" "I" ∈ tG := tG_2 (List.mem_of_getElem? (i := 212) (by decide +kernel)) (by decide +kernel)
theorem k_laysFinal_rn_M_rn_M_cost_I : Cond.laysFinal rn_M rn_M "cost" "[I" ∈ tG := tG_2 (List.mem_of_getElem? (i := 214) (by decide +kernel)) (by decide +kernel)
theorem k_laysFinal_rn_M_rn_M_reached_Z : Cond.laysFinal rn_M rn_M "reached" "[Z" ∈ tG := tG_2 (List.mem_of_getElem? (i := 216) (by decide +kernel)) (by decide +kernel)
theorem k_laysFinal_rn_M_rn_M_pile_I : Cond.laysFinal rn_M rn_M "pile" "[I" ∈ tG := tG_2 (List.mem_of_getElem? (i := 218) (by decide +kernel)) (by decide +kernel)
theorem k_arrayClass_boolean : Cond.arrayClass .boolean ∈ tG := tG_2 (List.mem_of_getElem? (i := 221) (by decide +kernel)) (by decide +kernel)
theorem k_methodLink_rn_L_43_y_M_thrown : Cond.methodLink rn_L 43 y_M_thrown ∈ tG := tG_2 (List.mem_of_getElem? (i := 222) (by decide +kernel)) (by decide +kernel)
theorem k_instanceMethod_y_M_thrown : Cond.instanceMethod y_M_thrown ∈ tG := tG_2 (List.mem_of_getElem? (i := 223) (by decide +kernel)) (by decide +kernel)
theorem k_selects_rn_M_y_M_thrown_y_M_thrown : Cond.selects rn_M y_M_thrown y_M_thrown ∈ tG := tG_2 (List.mem_of_getElem? (i := 224) (by decide +kernel)) (by decide +kernel)
theorem k_code_y_M_thrown_prog_6_method_2_code_1_some_int : Cond.code y_M_thrown prog_6_method_2_code 1 (some .int) ∈ tG := tG_2 (List.mem_of_getElem? (i := 225) (by decide +kernel)) (by decide +kernel)
theorem k_methodLink_rn_L_42_y_M_lay : Cond.methodLink rn_L 42 y_M_lay ∈ tG := tG_2 (List.mem_of_getElem? (i := 226) (by decide +kernel)) (by decide +kernel)
theorem k_instanceMethod_y_M_lay : Cond.instanceMethod y_M_lay ∈ tG := tG_2 (List.mem_of_getElem? (i := 227) (by decide +kernel)) (by decide +kernel)
theorem k_selects_rn_M_y_M_lay_y_M_lay : Cond.selects rn_M y_M_lay y_M_lay ∈ tG := tG_2 (List.mem_of_getElem? (i := 228) (by decide +kernel)) (by decide +kernel)
theorem k_code_y_M_lay_prog_6_method_6_code_3_none : Cond.code y_M_lay prog_6_method_6_code 3 none ∈ tG := tG_2 (List.mem_of_getElem? (i := 229) (by decide +kernel)) (by decide +kernel)
theorem k_methodLink_rn_M_45_y_M_isTile : Cond.methodLink rn_M 45 y_M_isTile ∈ tG := tG_2 (List.mem_of_getElem? (i := 230) (by decide +kernel)) (by decide +kernel)
theorem k_instanceMethod_y_M_isTile : Cond.instanceMethod y_M_isTile ∈ tG := tG_2 (List.mem_of_getElem? (i := 232) (by decide +kernel)) (by decide +kernel)
theorem k_code_y_M_isTile_prog_6_method_3_code_2_some_boolean : Cond.code y_M_isTile prog_6_method_3_code 2 (some .boolean) ∈ tG := tG_2 (List.mem_of_getElem? (i := 233) (by decide +kernel)) (by decide +kernel)
theorem k_methodLink_rn_M_49_y_M_isKind : Cond.methodLink rn_M 49 y_M_isKind ∈ tG := tG_2 (List.mem_of_getElem? (i := 234) (by decide +kernel)) (by decide +kernel)
theorem k_static_y_M_isKind : Cond.static y_M_isKind ∈ tG := tG_2 (List.mem_of_getElem? (i := 235) (by decide +kernel)) (by decide +kernel)
theorem k_code_y_M_isKind_prog_6_method_4_code_1_some_boolean : Cond.code y_M_isKind prog_6_method_4_code 1 (some .boolean) ∈ tG := tG_2 (List.mem_of_getElem? (i := 236) (by decide +kernel)) (by decide +kernel)
theorem k_methodLink_rn_L_49_y_M_lift : Cond.methodLink rn_L 49 y_M_lift ∈ tG := tG_2 (List.mem_of_getElem? (i := 237) (by decide +kernel)) (by decide +kernel)
theorem k_instanceMethod_y_M_lift : Cond.instanceMethod y_M_lift ∈ tG := tG_2 (List.mem_of_getElem? (i := 238) (by decide +kernel)) (by decide +kernel)
theorem k_selects_rn_M_y_M_lift_y_M_lift : Cond.selects rn_M y_M_lift y_M_lift ∈ tG := tG_2 (List.mem_of_getElem? (i := 239) (by decide +kernel)) (by decide +kernel)
theorem k_code_y_M_lift_prog_6_method_7_code_5_none : Cond.code y_M_lift prog_6_method_7_code 5 none ∈ tG := tG_3 (List.mem_of_getElem? (i := 0) (by decide +kernel)) (by decide +kernel)
theorem k_methodLink_rn_L_53_y_M_signal : Cond.methodLink rn_L 53 y_M_signal ∈ tG := tG_3 (List.mem_of_getElem? (i := 1) (by decide +kernel)) (by decide +kernel)
theorem k_instanceMethod_y_M_signal : Cond.instanceMethod y_M_signal ∈ tG := tG_3 (List.mem_of_getElem? (i := 2) (by decide +kernel)) (by decide +kernel)
theorem k_selects_rn_M_y_M_signal_y_M_signal : Cond.selects rn_M y_M_signal y_M_signal ∈ tG := tG_3 (List.mem_of_getElem? (i := 3) (by decide +kernel)) (by decide +kernel)
theorem k_code_y_M_signal_prog_6_method_8_code_5_none : Cond.code y_M_signal prog_6_method_8_code 5 none ∈ tG := tG_3 (List.mem_of_getElem? (i := 4) (by decide +kernel)) (by decide +kernel)
theorem k_methodLink_rn_L_57_y_M_platform : Cond.methodLink rn_L 57 y_M_platform ∈ tG := tG_3 (List.mem_of_getElem? (i := 5) (by decide +kernel)) (by decide +kernel)
theorem k_instanceMethod_y_M_platform : Cond.instanceMethod y_M_platform ∈ tG := tG_3 (List.mem_of_getElem? (i := 6) (by decide +kernel)) (by decide +kernel)
theorem k_selects_rn_M_y_M_platform_y_M_platform : Cond.selects rn_M y_M_platform y_M_platform ∈ tG := tG_3 (List.mem_of_getElem? (i := 7) (by decide +kernel)) (by decide +kernel)
theorem k_code_y_M_platform_prog_6_method_9_code_4_none : Cond.code y_M_platform prog_6_method_9_code 4 none ∈ tG := tG_3 (List.mem_of_getElem? (i := 8) (by decide +kernel)) (by decide +kernel)
theorem k_methodLink_rn_L_62_y_M_at : Cond.methodLink rn_L 62 y_M_at ∈ tG := tG_3 (List.mem_of_getElem? (i := 9) (by decide +kernel)) (by decide +kernel)
theorem k_instanceMethod_y_M_at : Cond.instanceMethod y_M_at ∈ tG := tG_3 (List.mem_of_getElem? (i := 10) (by decide +kernel)) (by decide +kernel)
theorem k_selects_rn_M_y_M_at_y_M_at : Cond.selects rn_M y_M_at y_M_at ∈ tG := tG_3 (List.mem_of_getElem? (i := 11) (by decide +kernel)) (by decide +kernel)
theorem k_code_y_M_at_prog_6_method_10_code_5_some_int : Cond.code y_M_at prog_6_method_10_code 5 (some .int) ∈ tG := tG_3 (List.mem_of_getElem? (i := 12) (by decide +kernel)) (by decide +kernel)
theorem k_methodLink_rn_L_66_y_M_next : Cond.methodLink rn_L 66 y_M_next ∈ tG := tG_3 (List.mem_of_getElem? (i := 13) (by decide +kernel)) (by decide +kernel)
theorem k_instanceMethod_y_M_next : Cond.instanceMethod y_M_next ∈ tG := tG_3 (List.mem_of_getElem? (i := 14) (by decide +kernel)) (by decide +kernel)
theorem k_selects_rn_M_y_M_next_y_M_next : Cond.selects rn_M y_M_next y_M_next ∈ tG := tG_3 (List.mem_of_getElem? (i := 15) (by decide +kernel)) (by decide +kernel)
theorem k_code_y_M_next_prog_6_method_19_code_6_some_int : Cond.code y_M_next prog_6_method_19_code 6 (some .int) ∈ tG := tG_3 (List.mem_of_getElem? (i := 16) (by decide +kernel)) (by decide +kernel)
theorem k_methodLink_rn_M_75_y_M_isOpen : Cond.methodLink rn_M 75 y_M_isOpen ∈ tG := tG_3 (List.mem_of_getElem? (i := 17) (by decide +kernel)) (by decide +kernel)
theorem k_instanceMethod_y_M_isOpen : Cond.instanceMethod y_M_isOpen ∈ tG := tG_3 (List.mem_of_getElem? (i := 19) (by decide +kernel)) (by decide +kernel)
theorem k_code_y_M_isOpen_prog_6_method_13_code_2_some_boolean : Cond.code y_M_isOpen prog_6_method_13_code 2 (some .boolean) ∈ tG := tG_3 (List.mem_of_getElem? (i := 20) (by decide +kernel)) (by decide +kernel)
theorem k_methodLink_rn_M_55_y_M_isRun : Cond.methodLink rn_M 55 y_M_isRun ∈ tG := tG_3 (List.mem_of_getElem? (i := 21) (by decide +kernel)) (by decide +kernel)
theorem k_instanceMethod_y_M_isRun : Cond.instanceMethod y_M_isRun ∈ tG := tG_3 (List.mem_of_getElem? (i := 23) (by decide +kernel)) (by decide +kernel)
theorem k_code_y_M_isRun_prog_6_method_11_code_2_some_boolean : Cond.code y_M_isRun prog_6_method_11_code 2 (some .boolean) ∈ tG := tG_3 (List.mem_of_getElem? (i := 24) (by decide +kernel)) (by decide +kernel)
theorem k_methodLink_rn_M_58_y_M_signalled : Cond.methodLink rn_M 58 y_M_signalled ∈ tG := tG_3 (List.mem_of_getElem? (i := 25) (by decide +kernel)) (by decide +kernel)
theorem k_instanceMethod_y_M_signalled : Cond.instanceMethod y_M_signalled ∈ tG := tG_3 (List.mem_of_getElem? (i := 27) (by decide +kernel)) (by decide +kernel)
theorem k_code_y_M_signalled_prog_6_method_12_code_2_some_int : Cond.code y_M_signalled prog_6_method_12_code 2 (some .int) ∈ tG := tG_3 (List.mem_of_getElem? (i := 28) (by decide +kernel)) (by decide +kernel)
theorem k_methodLink_rn_M_78_y_M_follower : Cond.methodLink rn_M 78 y_M_follower ∈ tG := tG_3 (List.mem_of_getElem? (i := 29) (by decide +kernel)) (by decide +kernel)
theorem k_instanceMethod_y_M_follower : Cond.instanceMethod y_M_follower ∈ tG := tG_3 (List.mem_of_getElem? (i := 31) (by decide +kernel)) (by decide +kernel)
theorem k_code_y_M_follower_prog_6_method_18_code_6_some_int : Cond.code y_M_follower prog_6_method_18_code 6 (some .int) ∈ tG := tG_3 (List.mem_of_getElem? (i := 32) (by decide +kernel)) (by decide +kernel)
theorem k_methodLink_rn_M_62_y_M_to : Cond.methodLink rn_M 62 y_M_to ∈ tG := tG_3 (List.mem_of_getElem? (i := 33) (by decide +kernel)) (by decide +kernel)
theorem k_instanceMethod_y_M_to : Cond.instanceMethod y_M_to ∈ tG := tG_3 (List.mem_of_getElem? (i := 35) (by decide +kernel)) (by decide +kernel)
theorem k_code_y_M_to_prog_6_method_15_code_2_some_int : Cond.code y_M_to prog_6_method_15_code 2 (some .int) ∈ tG := tG_3 (List.mem_of_getElem? (i := 36) (by decide +kernel)) (by decide +kernel)
theorem k_methodLink_rn_M_65_y_M_beyond : Cond.methodLink rn_M 65 y_M_beyond ∈ tG := tG_3 (List.mem_of_getElem? (i := 37) (by decide +kernel)) (by decide +kernel)
theorem k_instanceMethod_y_M_beyond : Cond.instanceMethod y_M_beyond ∈ tG := tG_3 (List.mem_of_getElem? (i := 39) (by decide +kernel)) (by decide +kernel)
theorem k_code_y_M_beyond_prog_6_method_16_code_5_some_int : Cond.code y_M_beyond prog_6_method_16_code 5 (some .int) ∈ tG := tG_3 (List.mem_of_getElem? (i := 40) (by decide +kernel)) (by decide +kernel)
theorem k_methodLink_rn_M_69_y_M_from : Cond.methodLink rn_M 69 y_M_from ∈ tG := tG_3 (List.mem_of_getElem? (i := 41) (by decide +kernel)) (by decide +kernel)
theorem k_instanceMethod_y_M_from : Cond.instanceMethod y_M_from ∈ tG := tG_3 (List.mem_of_getElem? (i := 43) (by decide +kernel)) (by decide +kernel)
theorem k_code_y_M_from_prog_6_method_14_code_2_some_int : Cond.code y_M_from prog_6_method_14_code 2 (some .int) ∈ tG := tG_3 (List.mem_of_getElem? (i := 44) (by decide +kernel)) (by decide +kernel)
theorem k_methodLink_rn_M_72_y_M_other : Cond.methodLink rn_M 72 y_M_other ∈ tG := tG_3 (List.mem_of_getElem? (i := 45) (by decide +kernel)) (by decide +kernel)
theorem k_static_y_M_other : Cond.static y_M_other ∈ tG := tG_3 (List.mem_of_getElem? (i := 46) (by decide +kernel)) (by decide +kernel)
theorem k_code_y_M_other_prog_6_method_17_code_1_some_int : Cond.code y_M_other prog_6_method_17_code 1 (some .int) ∈ tG := tG_3 (List.mem_of_getElem? (i := 47) (by decide +kernel)) (by decide +kernel)
theorem k_methodLink_rn_L_71_y_M_before : Cond.methodLink rn_L 71 y_M_before ∈ tG := tG_3 (List.mem_of_getElem? (i := 48) (by decide +kernel)) (by decide +kernel)
theorem k_instanceMethod_y_M_before : Cond.instanceMethod y_M_before ∈ tG := tG_3 (List.mem_of_getElem? (i := 49) (by decide +kernel)) (by decide +kernel)
theorem k_selects_rn_M_y_M_before_y_M_before : Cond.selects rn_M y_M_before y_M_before ∈ tG := tG_3 (List.mem_of_getElem? (i := 50) (by decide +kernel)) (by decide +kernel)
theorem k_code_y_M_before_prog_6_method_20_code_6_some_int : Cond.code y_M_before prog_6_method_20_code 6 (some .int) ∈ tG := tG_3 (List.mem_of_getElem? (i := 51) (by decide +kernel)) (by decide +kernel)
theorem k_methodLink_rn_L_75_y_M_block : Cond.methodLink rn_L 75 y_M_block ∈ tG := tG_3 (List.mem_of_getElem? (i := 52) (by decide +kernel)) (by decide +kernel)
theorem k_instanceMethod_y_M_block : Cond.instanceMethod y_M_block ∈ tG := tG_3 (List.mem_of_getElem? (i := 53) (by decide +kernel)) (by decide +kernel)
theorem k_selects_rn_M_y_M_block_y_M_block : Cond.selects rn_M y_M_block y_M_block ∈ tG := tG_3 (List.mem_of_getElem? (i := 54) (by decide +kernel)) (by decide +kernel)
theorem k_code_y_M_block_prog_6_method_26_code_3_some_int : Cond.code y_M_block prog_6_method_26_code 3 (some .int) ∈ tG := tG_3 (List.mem_of_getElem? (i := 55) (by decide +kernel)) (by decide +kernel)
theorem k_methodLink_rn_M_91_y_M_isPiece : Cond.methodLink rn_M 91 y_M_isPiece ∈ tG := tG_3 (List.mem_of_getElem? (i := 56) (by decide +kernel)) (by decide +kernel)
theorem k_instanceMethod_y_M_isPiece : Cond.instanceMethod y_M_isPiece ∈ tG := tG_3 (List.mem_of_getElem? (i := 58) (by decide +kernel)) (by decide +kernel)
theorem k_code_y_M_isPiece_prog_6_method_5_code_3_some_boolean : Cond.code y_M_isPiece prog_6_method_5_code 3 (some .boolean) ∈ tG := tG_3 (List.mem_of_getElem? (i := 59) (by decide +kernel)) (by decide +kernel)
theorem k_methodLink_rn_M_94_y_M_unreach : Cond.methodLink rn_M 94 y_M_unreach ∈ tG := tG_3 (List.mem_of_getElem? (i := 60) (by decide +kernel)) (by decide +kernel)
theorem k_instanceMethod_y_M_unreach : Cond.instanceMethod y_M_unreach ∈ tG := tG_3 (List.mem_of_getElem? (i := 62) (by decide +kernel)) (by decide +kernel)
theorem k_code_y_M_unreach_prog_6_method_25_code_2_none : Cond.code y_M_unreach prog_6_method_25_code 2 none ∈ tG := tG_3 (List.mem_of_getElem? (i := 63) (by decide +kernel)) (by decide +kernel)
theorem k_methodLink_rn_M_97_y_M_lowest : Cond.methodLink rn_M 97 y_M_lowest ∈ tG := tG_3 (List.mem_of_getElem? (i := 64) (by decide +kernel)) (by decide +kernel)
theorem k_instanceMethod_y_M_lowest : Cond.instanceMethod y_M_lowest ∈ tG := tG_3 (List.mem_of_getElem? (i := 66) (by decide +kernel)) (by decide +kernel)
theorem k_code_y_M_lowest_prog_6_method_24_code_7_some_int : Cond.code y_M_lowest prog_6_method_24_code 7 (some .int) ∈ tG := tG_3 (List.mem_of_getElem? (i := 67) (by decide +kernel)) (by decide +kernel)
theorem k_methodLink_rn_M_88_y_M_touch : Cond.methodLink rn_M 88 y_M_touch ∈ tG := tG_3 (List.mem_of_getElem? (i := 68) (by decide +kernel)) (by decide +kernel)
theorem k_instanceMethod_y_M_touch : Cond.instanceMethod y_M_touch ∈ tG := tG_3 (List.mem_of_getElem? (i := 70) (by decide +kernel)) (by decide +kernel)
theorem k_code_y_M_touch_prog_6_method_23_code_4_some_boolean : Cond.code y_M_touch prog_6_method_23_code 4 (some .boolean) ∈ tG := tG_3 (List.mem_of_getElem? (i := 71) (by decide +kernel)) (by decide +kernel)
theorem k_methodLink_rn_M_81_y_M_ends : Cond.methodLink rn_M 81 y_M_ends ∈ tG := tG_3 (List.mem_of_getElem? (i := 72) (by decide +kernel)) (by decide +kernel)
theorem k_instanceMethod_y_M_ends : Cond.instanceMethod y_M_ends ∈ tG := tG_3 (List.mem_of_getElem? (i := 74) (by decide +kernel)) (by decide +kernel)
theorem k_code_y_M_ends_prog_6_method_22_code_3_some_boolean : Cond.code y_M_ends prog_6_method_22_code 3 (some .boolean) ∈ tG := tG_3 (List.mem_of_getElem? (i := 75) (by decide +kernel)) (by decide +kernel)
theorem k_methodLink_rn_M_85_y_M_guards : Cond.methodLink rn_M 85 y_M_guards ∈ tG := tG_3 (List.mem_of_getElem? (i := 76) (by decide +kernel)) (by decide +kernel)
theorem k_instanceMethod_y_M_guards : Cond.instanceMethod y_M_guards ∈ tG := tG_3 (List.mem_of_getElem? (i := 78) (by decide +kernel)) (by decide +kernel)
theorem k_code_y_M_guards_prog_6_method_21_code_3_some_boolean : Cond.code y_M_guards prog_6_method_21_code 3 (some .boolean) ∈ tG := tG_3 (List.mem_of_getElem? (i := 79) (by decide +kernel)) (by decide +kernel)
theorem k_methodLink_rn_L_79_y_M_sign : Cond.methodLink rn_L 79 y_M_sign ∈ tG := tG_3 (List.mem_of_getElem? (i := 80) (by decide +kernel)) (by decide +kernel)
theorem k_instanceMethod_y_M_sign : Cond.instanceMethod y_M_sign ∈ tG := tG_3 (List.mem_of_getElem? (i := 81) (by decide +kernel)) (by decide +kernel)
theorem k_selects_rn_M_y_M_sign_y_M_sign : Cond.selects rn_M y_M_sign y_M_sign ∈ tG := tG_3 (List.mem_of_getElem? (i := 82) (by decide +kernel)) (by decide +kernel)
theorem k_code_y_M_sign_prog_6_method_28_code_4_some_int : Cond.code y_M_sign prog_6_method_28_code 4 (some .int) ∈ tG := tG_3 (List.mem_of_getElem? (i := 83) (by decide +kernel)) (by decide +kernel)
theorem k_methodLink_rn_M_100_y_M_isStation : Cond.methodLink rn_M 100 y_M_isStation ∈ tG := tG_3 (List.mem_of_getElem? (i := 84) (by decide +kernel)) (by decide +kernel)
theorem k_static_y_M_isStation : Cond.static y_M_isStation ∈ tG := tG_3 (List.mem_of_getElem? (i := 85) (by decide +kernel)) (by decide +kernel)
theorem k_code_y_M_isStation_prog_6_method_27_code_1_some_boolean : Cond.code y_M_isStation prog_6_method_27_code 1 (some .boolean) ∈ tG := tG_3 (List.mem_of_getElem? (i := 86) (by decide +kernel)) (by decide +kernel)
theorem k_methodLink_rn_L_84_y_M_isTarget : Cond.methodLink rn_L 84 y_M_isTarget ∈ tG := tG_3 (List.mem_of_getElem? (i := 87) (by decide +kernel)) (by decide +kernel)
theorem k_instanceMethod_y_M_isTarget : Cond.instanceMethod y_M_isTarget ∈ tG := tG_3 (List.mem_of_getElem? (i := 88) (by decide +kernel)) (by decide +kernel)
theorem k_selects_rn_M_y_M_isTarget_y_M_isTarget : Cond.selects rn_M y_M_isTarget y_M_isTarget ∈ tG := tG_3 (List.mem_of_getElem? (i := 89) (by decide +kernel)) (by decide +kernel)
theorem k_code_y_M_isTarget_prog_6_method_30_code_3_some_boolean : Cond.code y_M_isTarget prog_6_method_30_code 3 (some .boolean) ∈ tG := tG_3 (List.mem_of_getElem? (i := 90) (by decide +kernel)) (by decide +kernel)
theorem k_methodLink_rn_M_103_y_M_target : Cond.methodLink rn_M 103 y_M_target ∈ tG := tG_3 (List.mem_of_getElem? (i := 91) (by decide +kernel)) (by decide +kernel)
theorem k_instanceMethod_y_M_target : Cond.instanceMethod y_M_target ∈ tG := tG_3 (List.mem_of_getElem? (i := 93) (by decide +kernel)) (by decide +kernel)
theorem k_code_y_M_target_prog_6_method_29_code_5_some_boolean : Cond.code y_M_target prog_6_method_29_code 5 (some .boolean) ∈ tG := tG_3 (List.mem_of_getElem? (i := 94) (by decide +kernel)) (by decide +kernel)
theorem k_methodLink_rn_L_88_y_M_cost : Cond.methodLink rn_L 88 y_M_cost ∈ tG := tG_3 (List.mem_of_getElem? (i := 95) (by decide +kernel)) (by decide +kernel)
theorem k_instanceMethod_y_M_cost : Cond.instanceMethod y_M_cost ∈ tG := tG_3 (List.mem_of_getElem? (i := 96) (by decide +kernel)) (by decide +kernel)
theorem k_selects_rn_M_y_M_cost_y_M_cost : Cond.selects rn_M y_M_cost y_M_cost ∈ tG := tG_3 (List.mem_of_getElem? (i := 97) (by decide +kernel)) (by decide +kernel)
theorem k_code_y_M_cost_prog_6_method_34_code_3_some_int : Cond.code y_M_cost prog_6_method_34_code 3 (some .int) ∈ tG := tG_3 (List.mem_of_getElem? (i := 98) (by decide +kernel)) (by decide +kernel)
theorem k_methodLink_rn_M_113_y_M_reckon : Cond.methodLink rn_M 113 y_M_reckon ∈ tG := tG_3 (List.mem_of_getElem? (i := 99) (by decide +kernel)) (by decide +kernel)
theorem k_instanceMethod_y_M_reckon : Cond.instanceMethod y_M_reckon ∈ tG := tG_3 (List.mem_of_getElem? (i := 101) (by decide +kernel)) (by decide +kernel)
theorem k_code_y_M_reckon_prog_6_method_33_code_7_none : Cond.code y_M_reckon prog_6_method_33_code 7 none ∈ tG := tG_3 (List.mem_of_getElem? (i := 102) (by decide +kernel)) (by decide +kernel)
theorem k_constant_rn_M_106_1000000000 : Cond.constant rn_M 106 1000000000 ∈ tG := tG_3 (List.mem_of_getElem? (i := 103) (by decide +kernel)) (by decide +kernel)
theorem k_methodLink_rn_M_110_y_M_onward : Cond.methodLink rn_M 110 y_M_onward ∈ tG := tG_3 (List.mem_of_getElem? (i := 104) (by decide +kernel)) (by decide +kernel)
theorem k_instanceMethod_y_M_onward : Cond.instanceMethod y_M_onward ∈ tG := tG_3 (List.mem_of_getElem? (i := 106) (by decide +kernel)) (by decide +kernel)
theorem k_code_y_M_onward_prog_6_method_32_code_5_some_int : Cond.code y_M_onward prog_6_method_32_code 5 (some .int) ∈ tG := tG_3 (List.mem_of_getElem? (i := 107) (by decide +kernel)) (by decide +kernel)
theorem k_methodLink_rn_M_107_y_M_length : Cond.methodLink rn_M 107 y_M_length ∈ tG := tG_3 (List.mem_of_getElem? (i := 108) (by decide +kernel)) (by decide +kernel)
theorem k_static_y_M_length : Cond.static y_M_length ∈ tG := tG_3 (List.mem_of_getElem? (i := 109) (by decide +kernel)) (by decide +kernel)
theorem k_code_y_M_length_prog_6_method_31_code_1_some_int : Cond.code y_M_length prog_6_method_31_code 1 (some .int) ∈ tG := tG_3 (List.mem_of_getElem? (i := 110) (by decide +kernel)) (by decide +kernel)
theorem k_methodLink_rn_L_93_y_M_route : Cond.methodLink rn_L 93 y_M_route ∈ tG := tG_3 (List.mem_of_getElem? (i := 111) (by decide +kernel)) (by decide +kernel)
theorem k_instanceMethod_y_M_route : Cond.instanceMethod y_M_route ∈ tG := tG_3 (List.mem_of_getElem? (i := 112) (by decide +kernel)) (by decide +kernel)
theorem k_selects_rn_M_y_M_route_y_M_route : Cond.selects rn_M y_M_route y_M_route ∈ tG := tG_3 (List.mem_of_getElem? (i := 113) (by decide +kernel)) (by decide +kernel)
theorem k_code_y_M_route_prog_6_method_35_code_9_some_int : Cond.code y_M_route prog_6_method_35_code 9 (some .int) ∈ tG := tG_3 (List.mem_of_getElem? (i := 114) (by decide +kernel)) (by decide +kernel)
theorem k_methodLink_rn_L_97_y_M_count : Cond.methodLink rn_L 97 y_M_count ∈ tG := tG_3 (List.mem_of_getElem? (i := 115) (by decide +kernel)) (by decide +kernel)
theorem k_instanceMethod_y_M_count : Cond.instanceMethod y_M_count ∈ tG := tG_3 (List.mem_of_getElem? (i := 116) (by decide +kernel)) (by decide +kernel)
theorem k_selects_rn_M_y_M_count_y_M_count : Cond.selects rn_M y_M_count y_M_count ∈ tG := tG_3 (List.mem_of_getElem? (i := 117) (by decide +kernel)) (by decide +kernel)
theorem k_code_y_M_count_prog_6_method_36_code_5_some_int : Cond.code y_M_count prog_6_method_36_code 5 (some .int) ∈ tG := tG_3 (List.mem_of_getElem? (i := 118) (by decide +kernel)) (by decide +kernel)
theorem in_Q : ∀ w ∈ u_ws rn_Q tf_Q 3, w ∈ tG := List.forall_mem_cons.mpr ⟨k_laysFinal_rn_Q_rn_Q_row_I, List.forall_mem_cons.mpr ⟨k_lays_rn_Q_rn_Q_head_I, List.forall_mem_cons.mpr ⟨k_lays_rn_Q_rn_Q_tail_I, fun _ h => absurd h List.not_mem_nil⟩⟩⟩
theorem in_A : ∀ w ∈ u_ws rn_A tf_A 2, w ∈ tG := List.forall_mem_cons.mpr ⟨k_laysFinal_rn_A_rn_A_beyond_I, List.forall_mem_cons.mpr ⟨k_laysFinal_rn_A_rn_A_pieces_I, fun _ h => absurd h List.not_mem_nil⟩⟩
theorem in_S : ∀ w ∈ u_ws rn_S tf_S 5, w ∈ tG := List.forall_mem_cons.mpr ⟨k_laysFinal_rn_S_rn_S_found_I, List.forall_mem_cons.mpr ⟨k_laysFinal_rn_S_rn_S_straights_LRouteTracks_Queue, List.forall_mem_cons.mpr ⟨k_laysFinal_rn_S_rn_S_curves_LRouteTracks_Queue, List.forall_mem_cons.mpr ⟨k_lays_rn_S_rn_S_held_I, List.forall_mem_cons.mpr ⟨k_lays_rn_S_rn_S_blocks_I, fun _ h => absurd h List.not_mem_nil⟩⟩⟩⟩⟩
theorem in_R : ∀ w ∈ u_ws rn_R tf_R 2, w ∈ tG := List.forall_mem_cons.mpr ⟨k_laysFinal_rn_R_rn_R_rails_LRouteTracks_Rails, List.forall_mem_cons.mpr ⟨k_laysFinal_rn_R_rn_R_search_LRouteTracks_Search, fun _ h => absurd h List.not_mem_nil⟩⟩
theorem in_M : ∀ w ∈ u_ws rn_M tf_M 12, w ∈ tG := List.forall_mem_cons.mpr ⟨k_laysFinal_rn_M_rn_M_edges_I, List.forall_mem_cons.mpr ⟨k_lays_rn_M_rn_M_thrown_I, List.forall_mem_cons.mpr ⟨k_laysFinal_rn_M_rn_M_w_I, List.forall_mem_cons.mpr ⟨k_laysFinal_rn_M_rn_M_h_I, List.forall_mem_cons.mpr ⟨k_laysFinal_rn_M_rn_M_there_Z, List.forall_mem_cons.mpr ⟨k_laysFinal_rn_M_rn_M_signs_I, List.forall_mem_cons.mpr ⟨k_laysFinal_rn_M_rn_M_stations_I, List.forall_mem_cons.mpr ⟨k_laysFinal_rn_M_rn_M_list_I, List.forall_mem_cons.mpr ⟨k_lays_rn_M_rn_M_pieces_I, List.forall_mem_cons.mpr ⟨k_laysFinal_rn_M_rn_M_cost_I, List.forall_mem_cons.mpr ⟨k_laysFinal_rn_M_rn_M_reached_Z, List.forall_mem_cons.mpr ⟨k_laysFinal_rn_M_rn_M_pile_I, fun _ h => absurd h List.not_mem_nil⟩⟩⟩⟩⟩⟩⟩⟩⟩⟩⟩⟩
theorem k_selects_rn_S_y_S_floodBlock_y_S_floodBlock : Cond.selects rn_S y_S_floodBlock y_S_floodBlock ∈ tG := tG_s (List.mem_of_getElem? (i := 0) (by decide +kernel)) (by decide +kernel)
theorem k_selects_rn_S_y_S_join_y_S_join : Cond.selects rn_S y_S_join y_S_join ∈ tG := tG_s (List.mem_of_getElem? (i := 1) (by decide +kernel)) (by decide +kernel)
theorem k_selects_rn_S_y_S_joinMeeting_y_S_joinMeeting : Cond.selects rn_S y_S_joinMeeting y_S_joinMeeting ∈ tG := tG_s (List.mem_of_getElem? (i := 2) (by decide +kernel)) (by decide +kernel)
theorem k_selects_rn_S_y_S_joinAcross_y_S_joinAcross : Cond.selects rn_S y_S_joinAcross y_S_joinAcross ∈ tG := tG_s (List.mem_of_getElem? (i := 3) (by decide +kernel)) (by decide +kernel)
theorem k_selects_rn_S_y_S_settleTargets_y_S_settleTargets : Cond.selects rn_S y_S_settleTargets y_S_settleTargets ∈ tG := tG_s (List.mem_of_getElem? (i := 4) (by decide +kernel)) (by decide +kernel)
theorem k_selects_rn_S_y_S_settle_y_S_settle : Cond.selects rn_S y_S_settle y_S_settle ∈ tG := tG_s (List.mem_of_getElem? (i := 5) (by decide +kernel)) (by decide +kernel)
theorem k_selects_rn_S_y_S_takeNearest_y_S_takeNearest : Cond.selects rn_S y_S_takeNearest y_S_takeNearest ∈ tG := tG_s (List.mem_of_getElem? (i := 6) (by decide +kernel)) (by decide +kernel)
theorem k_selects_rn_S_y_S_settleBehind_y_S_settleBehind : Cond.selects rn_S y_S_settleBehind y_S_settleBehind ∈ tG := tG_s (List.mem_of_getElem? (i := 7) (by decide +kernel)) (by decide +kernel)
theorem k_selects_rn_R_y_R_requirePlace_y_R_requirePlace : Cond.selects rn_R y_R_requirePlace y_R_requirePlace ∈ tG := tG_s (List.mem_of_getElem? (i := 8) (by decide +kernel)) (by decide +kernel)
theorem k_selects_rn_R_y_R_requireThere_y_R_requireThere : Cond.selects rn_R y_R_requireThere y_R_requireThere ∈ tG := tG_s (List.mem_of_getElem? (i := 10) (by decide +kernel)) (by decide +kernel)
theorem k_selects_rn_M_y_M_isTile_y_M_isTile : Cond.selects rn_M y_M_isTile y_M_isTile ∈ tG := tG_s (List.mem_of_getElem? (i := 11) (by decide +kernel)) (by decide +kernel)
theorem k_selects_rn_M_y_M_isOpen_y_M_isOpen : Cond.selects rn_M y_M_isOpen y_M_isOpen ∈ tG := tG_s (List.mem_of_getElem? (i := 12) (by decide +kernel)) (by decide +kernel)
theorem k_selects_rn_M_y_M_isRun_y_M_isRun : Cond.selects rn_M y_M_isRun y_M_isRun ∈ tG := tG_s (List.mem_of_getElem? (i := 13) (by decide +kernel)) (by decide +kernel)
theorem k_selects_rn_M_y_M_signalled_y_M_signalled : Cond.selects rn_M y_M_signalled y_M_signalled ∈ tG := tG_s (List.mem_of_getElem? (i := 14) (by decide +kernel)) (by decide +kernel)
theorem k_selects_rn_M_y_M_follower_y_M_follower : Cond.selects rn_M y_M_follower y_M_follower ∈ tG := tG_s (List.mem_of_getElem? (i := 15) (by decide +kernel)) (by decide +kernel)
theorem k_selects_rn_M_y_M_to_y_M_to : Cond.selects rn_M y_M_to y_M_to ∈ tG := tG_s (List.mem_of_getElem? (i := 16) (by decide +kernel)) (by decide +kernel)
theorem k_selects_rn_M_y_M_beyond_y_M_beyond : Cond.selects rn_M y_M_beyond y_M_beyond ∈ tG := tG_s (List.mem_of_getElem? (i := 17) (by decide +kernel)) (by decide +kernel)
theorem k_selects_rn_M_y_M_from_y_M_from : Cond.selects rn_M y_M_from y_M_from ∈ tG := tG_s (List.mem_of_getElem? (i := 18) (by decide +kernel)) (by decide +kernel)
theorem k_selects_rn_M_y_M_isPiece_y_M_isPiece : Cond.selects rn_M y_M_isPiece y_M_isPiece ∈ tG := tG_s (List.mem_of_getElem? (i := 19) (by decide +kernel)) (by decide +kernel)
theorem k_selects_rn_M_y_M_unreach_y_M_unreach : Cond.selects rn_M y_M_unreach y_M_unreach ∈ tG := tG_s (List.mem_of_getElem? (i := 20) (by decide +kernel)) (by decide +kernel)
theorem k_selects_rn_M_y_M_lowest_y_M_lowest : Cond.selects rn_M y_M_lowest y_M_lowest ∈ tG := tG_s (List.mem_of_getElem? (i := 21) (by decide +kernel)) (by decide +kernel)
theorem k_selects_rn_M_y_M_touch_y_M_touch : Cond.selects rn_M y_M_touch y_M_touch ∈ tG := tG_s (List.mem_of_getElem? (i := 22) (by decide +kernel)) (by decide +kernel)
theorem k_selects_rn_M_y_M_ends_y_M_ends : Cond.selects rn_M y_M_ends y_M_ends ∈ tG := tG_s (List.mem_of_getElem? (i := 23) (by decide +kernel)) (by decide +kernel)
theorem k_selects_rn_M_y_M_guards_y_M_guards : Cond.selects rn_M y_M_guards y_M_guards ∈ tG := tG_s (List.mem_of_getElem? (i := 24) (by decide +kernel)) (by decide +kernel)
theorem k_selects_rn_M_y_M_target_y_M_target : Cond.selects rn_M y_M_target y_M_target ∈ tG := tG_s (List.mem_of_getElem? (i := 25) (by decide +kernel)) (by decide +kernel)
theorem k_selects_rn_M_y_M_reckon_y_M_reckon : Cond.selects rn_M y_M_reckon y_M_reckon ∈ tG := tG_s (List.mem_of_getElem? (i := 26) (by decide +kernel)) (by decide +kernel)
theorem k_selects_rn_M_y_M_onward_y_M_onward : Cond.selects rn_M y_M_onward y_M_onward ∈ tG := tG_s (List.mem_of_getElem? (i := 27) (by decide +kernel)) (by decide +kernel)
end
section
/-! BASE: NONE or a number; a truth value as the machine has it -/
def rt_o : Option Nat → Int32
  | none => -1
  | some k => nI k
def rt_b (b : Bool) : Int32 := if b = true then 1 else 0
end
section
/-! ROWS of instructions on numbers that are nI of a Nat: they follow the kit's rows, with the number told as a Nat -/
section RWS
variable {p : Program} {l : Launch} {e : Env} {R : Room} {s : State} {m : MethodId} {args : Array Value} {below : List Frame} {meth : Method} {c : Code} {H : Heap} {locs : List Loc} {cells slots : Nat} {Q : State → Prop}
variable {cc : ByteArray} {pc : Nat} {ls : Array Slot} {rest : List Value}
theorem rw_s : ∀ n, n < 32 → ((nI n &&& 31).toBitVec.smod 32).toNat = n := by decide +kernel
theorem rw_nand (a b : Nat) : nI a &&& nI b = nI (a &&& b) := by
  apply Int32.toBitVec_inj.1
  show BitVec.ofNat 32 a &&& BitVec.ofNat 32 b = BitVec.ofNat 32 (a &&& b)
  apply BitVec.eq_of_getLsbD_eq
  intro i hi
  simp [hi]
theorem rw_nxor (a b : Nat) : nI a ^^^ nI b = nI (a ^^^ b) := by
  apply Int32.toBitVec_inj.1
  show BitVec.ofNat 32 a ^^^ BitVec.ofNat 32 b = BitVec.ofNat 32 (a ^^^ b)
  apply BitVec.eq_of_getLsbD_eq
  intro i hi
  simp [hi]
theorem rw_nor (a b : Nat) : nI a ||| nI b = nI (a ||| b) := by
  apply Int32.toBitVec_inj.1
  show BitVec.ofNat 32 a ||| BitVec.ofNat 32 b = BitVec.ofNat 32 (a ||| b)
  apply BitVec.eq_of_getLsbD_eq
  intro i hi
  simp [hi]
theorem rw_add (hx : p.tables.exec = Jvm.exec) (hb : c.code = cc) {a b : Nat} (hdg : decode cc pc = .ok (.iadd, 1)) (k : W p l e R s m args below meth c H locs cells slots Q (F0 m (pc + 1) ls (.int (nI (a + b)) :: rest))) : W p l e R s m args below meth c H locs cells slots Q (F0 m pc ls (.int (nI b) :: .int (nI a) :: rest)) := lv_iadd hx hb hdg (by rw [nI_add]; exact k)
theorem rw_mul (hx : p.tables.exec = Jvm.exec) (hb : c.code = cc) {a b : Nat} (hdg : decode cc pc = .ok (.imul, 1)) (k : W p l e R s m args below meth c H locs cells slots Q (F0 m (pc + 1) ls (.int (nI (a * b)) :: rest))) : W p l e R s m args below meth c H locs cells slots Q (F0 m pc ls (.int (nI b) :: .int (nI a) :: rest)) := lv_imul hx hb hdg (by rw [pk_mul]; exact k)
theorem rw_sub (hx : p.tables.exec = Jvm.exec) (hb : c.code = cc) {a b : Nat} (hdg : decode cc pc = .ok (.isub, 1)) (h : b ≤ a) (k : W p l e R s m args below meth c H locs cells slots Q (F0 m (pc + 1) ls (.int (nI (a - b)) :: rest))) : W p l e R s m args below meth c H locs cells slots Q (F0 m pc ls (.int (nI b) :: .int (nI a) :: rest)) := lv_isub hx hb hdg (by rw [pk_sub h]; exact k)
theorem rw_and (hx : p.tables.exec = Jvm.exec) (hb : c.code = cc) {a b : Nat} (hdg : decode cc pc = .ok (.iand, 1)) (k : W p l e R s m args below meth c H locs cells slots Q (F0 m (pc + 1) ls (.int (nI (a &&& b)) :: rest))) : W p l e R s m args below meth c H locs cells slots Q (F0 m pc ls (.int (nI b) :: .int (nI a) :: rest)) := lv_iand hx hb hdg (by rw [rw_nand]; exact k)
theorem rw_xor (hx : p.tables.exec = Jvm.exec) (hb : c.code = cc) {a b : Nat} (hdg : decode cc pc = .ok (.ixor, 1)) (k : W p l e R s m args below meth c H locs cells slots Q (F0 m (pc + 1) ls (.int (nI (a ^^^ b)) :: rest))) : W p l e R s m args below meth c H locs cells slots Q (F0 m pc ls (.int (nI b) :: .int (nI a) :: rest)) := lv_ixor hx hb hdg (by rw [rw_nxor]; exact k)
theorem rw_or (hx : p.tables.exec = Jvm.exec) (hb : c.code = cc) {a b : Nat} (hdg : decode cc pc = .ok (.ior, 1)) (k : W p l e R s m args below meth c H locs cells slots Q (F0 m (pc + 1) ls (.int (nI (a ||| b)) :: rest))) : W p l e R s m args below meth c H locs cells slots Q (F0 m pc ls (.int (nI b) :: .int (nI a) :: rest)) := lv_ior hx hb hdg (by rw [rw_nor]; exact k)
theorem rw_div (hx : p.tables.exec = Jvm.exec) (hb : c.code = cc) {a b : Nat} (hdg : decode cc pc = .ok (.idiv, 1)) (h0 : 0 < b) (h1 : a < 2 ^ 31) (h2 : b < 2 ^ 31) (k : W p l e R s m args below meth c H locs cells slots Q (F0 m (pc + 1) ls (.int (nI (a / b)) :: rest))) : W p l e R s m args below meth c H locs cells slots Q (F0 m pc ls (.int (nI b) :: .int (nI a) :: rest)) := lv_idiv hx hb hdg (nI_ne0 h0 h2) (by rw [pk_div h1 h0 h2]; exact k)
theorem rw_rem (hx : p.tables.exec = Jvm.exec) (hb : c.code = cc) {a b : Nat} (hdg : decode cc pc = .ok (.irem, 1)) (h0 : 0 < b) (h1 : a < 2 ^ 31) (h2 : b < 2 ^ 31) (k : W p l e R s m args below meth c H locs cells slots Q (F0 m (pc + 1) ls (.int (nI (a % b)) :: rest))) : W p l e R s m args below meth c H locs cells slots Q (F0 m pc ls (.int (nI b) :: .int (nI a) :: rest)) := lv_irem hx hb hdg (nI_ne0 h0 h2) (by rw [pk_rem h1 h0 h2]; exact k)
theorem rw_shl (hx : p.tables.exec = Jvm.exec) (hb : c.code = cc) {a b : Nat} (hdg : decode cc pc = .ok (.ishl, 1)) (h0 : b < 32) (h1 : a * 2 ^ b < 2 ^ 32) (k : W p l e R s m args below meth c H locs cells slots Q (F0 m (pc + 1) ls (.int (nI (a * 2 ^ b)) :: rest))) : W p l e R s m args below meth c H locs cells slots Q (F0 m pc ls (.int (nI b) :: .int (nI a) :: rest)) := lv_ishl hx hb hdg (by rw [pk_shlN _ b (rw_s b h0) h1]; exact k)
theorem rw_shr (hx : p.tables.exec = Jvm.exec) (hb : c.code = cc) {a b : Nat} (hdg : decode cc pc = .ok (.ishr, 1)) (h0 : b < 32) (h1 : a < 2 ^ 31) (k : W p l e R s m args below meth c H locs cells slots Q (F0 m (pc + 1) ls (.int (nI (a / 2 ^ b)) :: rest))) : W p l e R s m args below meth c H locs cells slots Q (F0 m pc ls (.int (nI b) :: .int (nI a) :: rest)) := lv_ishr hx hb hdg (by rw [pk_shrN h1 _ b (rw_s b h0)]; exact k)
theorem rw_top {a b : Nat} (h : a = b) (k : W p l e R s m args below meth c H locs cells slots Q (F0 m pc ls (.int (nI b) :: rest))) : W p l e R s m args below meth c H locs cells slots Q (F0 m pc ls (.int (nI a) :: rest)) := by rw [h]; exact k
theorem rw_topI {a b : Int32} (h : a = b) (k : W p l e R s m args below meth c H locs cells slots Q (F0 m pc ls (.int b :: rest))) : W p l e R s m args below meth c H locs cells slots Q (F0 m pc ls (.int a :: rest)) := by rw [h]; exact k
theorem rw_ceq (hx : p.tables.exec = Jvm.exec) (hb : c.code = cc) {a b : Nat} {off : Int} {tgt : Nat} (hdg : decode cc pc = .ok (.if_icmp .eq off, 3)) (ht : (pc : Int) + off = (tgt : Int)) (h1 : a < 2 ^ 31) (h2 : b < 2 ^ 31) (kt : a = b → W p l e R s m args below meth c H locs cells slots Q (F0 m tgt ls rest)) (kf : ¬ (a = b) → W p l e R s m args below meth c H locs cells slots Q (F0 m (pc + 3) ls rest)) : W p l e R s m args below meth c H locs cells slots Q (F0 m pc ls (.int (nI b) :: .int (nI a) :: rest)) := lv_icmp_eq hx hb hdg ht (fun q => kt ((nI_eq h1 h2).mp q)) (fun q => kf (fun z => q ((nI_eq h1 h2).mpr z)))
theorem rw_cne (hx : p.tables.exec = Jvm.exec) (hb : c.code = cc) {a b : Nat} {off : Int} {tgt : Nat} (hdg : decode cc pc = .ok (.if_icmp .ne off, 3)) (ht : (pc : Int) + off = (tgt : Int)) (h1 : a < 2 ^ 31) (h2 : b < 2 ^ 31) (kt : ¬ a = b → W p l e R s m args below meth c H locs cells slots Q (F0 m tgt ls rest)) (kf : a = b → W p l e R s m args below meth c H locs cells slots Q (F0 m (pc + 3) ls rest)) : W p l e R s m args below meth c H locs cells slots Q (F0 m pc ls (.int (nI b) :: .int (nI a) :: rest)) := lv_icmp_ne hx hb hdg ht (fun q => kt ((not_congr (nI_eq h1 h2)).mp q)) (fun q => kf ((nI_eq h1 h2).mp q))
theorem rw_clt (hx : p.tables.exec = Jvm.exec) (hb : c.code = cc) {a b : Nat} {off : Int} {tgt : Nat} (hdg : decode cc pc = .ok (.if_icmp .lt off, 3)) (ht : (pc : Int) + off = (tgt : Int)) (h1 : a < 2 ^ 31) (h2 : b < 2 ^ 31) (kt : a < b → W p l e R s m args below meth c H locs cells slots Q (F0 m tgt ls rest)) (kf : ¬ (a < b) → W p l e R s m args below meth c H locs cells slots Q (F0 m (pc + 3) ls rest)) : W p l e R s m args below meth c H locs cells slots Q (F0 m pc ls (.int (nI b) :: .int (nI a) :: rest)) := lv_icmp_lt hx hb hdg ht (fun q => kt ((nI_ltI h1 h2).mp q)) (fun q => kf (fun z => q ((nI_ltI h1 h2).mpr z)))
theorem rw_cge (hx : p.tables.exec = Jvm.exec) (hb : c.code = cc) {a b : Nat} {off : Int} {tgt : Nat} (hdg : decode cc pc = .ok (.if_icmp .ge off, 3)) (ht : (pc : Int) + off = (tgt : Int)) (h1 : a < 2 ^ 31) (h2 : b < 2 ^ 31) (kt : b ≤ a → W p l e R s m args below meth c H locs cells slots Q (F0 m tgt ls rest)) (kf : ¬ (b ≤ a) → W p l e R s m args below meth c H locs cells slots Q (F0 m (pc + 3) ls rest)) : W p l e R s m args below meth c H locs cells slots Q (F0 m pc ls (.int (nI b) :: .int (nI a) :: rest)) := lv_icmp_ge hx hb hdg ht (fun q => kt ((nI_leI h2 h1).mp q)) (fun q => kf (fun z => q ((nI_leI h2 h1).mpr z)))
theorem rw_cgt (hx : p.tables.exec = Jvm.exec) (hb : c.code = cc) {a b : Nat} {off : Int} {tgt : Nat} (hdg : decode cc pc = .ok (.if_icmp .gt off, 3)) (ht : (pc : Int) + off = (tgt : Int)) (h1 : a < 2 ^ 31) (h2 : b < 2 ^ 31) (kt : b < a → W p l e R s m args below meth c H locs cells slots Q (F0 m tgt ls rest)) (kf : ¬ (b < a) → W p l e R s m args below meth c H locs cells slots Q (F0 m (pc + 3) ls rest)) : W p l e R s m args below meth c H locs cells slots Q (F0 m pc ls (.int (nI b) :: .int (nI a) :: rest)) := lv_icmp_gt hx hb hdg ht (fun q => kt ((nI_ltI h2 h1).mp q)) (fun q => kf (fun z => q ((nI_ltI h2 h1).mpr z)))
theorem rw_cle (hx : p.tables.exec = Jvm.exec) (hb : c.code = cc) {a b : Nat} {off : Int} {tgt : Nat} (hdg : decode cc pc = .ok (.if_icmp .le off, 3)) (ht : (pc : Int) + off = (tgt : Int)) (h1 : a < 2 ^ 31) (h2 : b < 2 ^ 31) (kt : a ≤ b → W p l e R s m args below meth c H locs cells slots Q (F0 m tgt ls rest)) (kf : ¬ (a ≤ b) → W p l e R s m args below meth c H locs cells slots Q (F0 m (pc + 3) ls rest)) : W p l e R s m args below meth c H locs cells slots Q (F0 m pc ls (.int (nI b) :: .int (nI a) :: rest)) := lv_icmp_le hx hb hdg ht (fun q => kt ((nI_leI h1 h2).mp q)) (fun q => kf (fun z => q ((nI_leI h1 h2).mpr z)))
theorem rw_zeq (hx : p.tables.exec = Jvm.exec) (hb : c.code = cc) {a : Nat} {off : Int} {tgt : Nat} (hdg : decode cc pc = .ok (.ifCond .eq off, 3)) (ht : (pc : Int) + off = (tgt : Int)) (h1 : a < 2 ^ 31) (kt : a = 0 → W p l e R s m args below meth c H locs cells slots Q (F0 m tgt ls rest)) (kf : ¬ (a = 0) → W p l e R s m args below meth c H locs cells slots Q (F0 m (pc + 3) ls rest)) : W p l e R s m args below meth c H locs cells slots Q (F0 m pc ls (.int (nI a) :: rest)) := lv_if_eq hx hb hdg ht (fun q => kt ((nI_eq h1 (by omega : 0 < 2 ^ 31)).mp q)) (fun q => kf (fun z => q ((nI_eq h1 (by omega : 0 < 2 ^ 31)).mpr z)))
theorem rw_zne (hx : p.tables.exec = Jvm.exec) (hb : c.code = cc) {a : Nat} {off : Int} {tgt : Nat} (hdg : decode cc pc = .ok (.ifCond .ne off, 3)) (ht : (pc : Int) + off = (tgt : Int)) (h1 : a < 2 ^ 31) (kt : ¬ a = 0 → W p l e R s m args below meth c H locs cells slots Q (F0 m tgt ls rest)) (kf : a = 0 → W p l e R s m args below meth c H locs cells slots Q (F0 m (pc + 3) ls rest)) : W p l e R s m args below meth c H locs cells slots Q (F0 m pc ls (.int (nI a) :: rest)) := lv_if_ne hx hb hdg ht (fun q => kt ((not_congr (nI_eq h1 (by omega : 0 < 2 ^ 31))).mp q)) (fun q => kf ((nI_eq h1 (by omega : 0 < 2 ^ 31)).mp q))
theorem rw_zlt (hx : p.tables.exec = Jvm.exec) (hb : c.code = cc) {a : Nat} {off : Int} {tgt : Nat} (hdg : decode cc pc = .ok (.ifCond .lt off, 3)) (ht : (pc : Int) + off = (tgt : Int)) (h1 : a < 2 ^ 31) (kt : a < 0 → W p l e R s m args below meth c H locs cells slots Q (F0 m tgt ls rest)) (kf : ¬ (a < 0) → W p l e R s m args below meth c H locs cells slots Q (F0 m (pc + 3) ls rest)) : W p l e R s m args below meth c H locs cells slots Q (F0 m pc ls (.int (nI a) :: rest)) := lv_if_lt hx hb hdg ht (fun q => kt ((nI_ltI h1 (by omega : 0 < 2 ^ 31)).mp q)) (fun q => kf (fun z => q ((nI_ltI h1 (by omega : 0 < 2 ^ 31)).mpr z)))
theorem rw_zge (hx : p.tables.exec = Jvm.exec) (hb : c.code = cc) {a : Nat} {off : Int} {tgt : Nat} (hdg : decode cc pc = .ok (.ifCond .ge off, 3)) (ht : (pc : Int) + off = (tgt : Int)) (h1 : a < 2 ^ 31) (kt : 0 ≤ a → W p l e R s m args below meth c H locs cells slots Q (F0 m tgt ls rest)) (kf : ¬ (0 ≤ a) → W p l e R s m args below meth c H locs cells slots Q (F0 m (pc + 3) ls rest)) : W p l e R s m args below meth c H locs cells slots Q (F0 m pc ls (.int (nI a) :: rest)) := lv_if_ge hx hb hdg ht (fun q => kt ((nI_leI (by omega : 0 < 2 ^ 31) h1).mp q)) (fun q => kf (fun z => q ((nI_leI (by omega : 0 < 2 ^ 31) h1).mpr z)))
theorem rw_zgt (hx : p.tables.exec = Jvm.exec) (hb : c.code = cc) {a : Nat} {off : Int} {tgt : Nat} (hdg : decode cc pc = .ok (.ifCond .gt off, 3)) (ht : (pc : Int) + off = (tgt : Int)) (h1 : a < 2 ^ 31) (kt : 0 < a → W p l e R s m args below meth c H locs cells slots Q (F0 m tgt ls rest)) (kf : ¬ (0 < a) → W p l e R s m args below meth c H locs cells slots Q (F0 m (pc + 3) ls rest)) : W p l e R s m args below meth c H locs cells slots Q (F0 m pc ls (.int (nI a) :: rest)) := lv_if_gt hx hb hdg ht (fun q => kt ((nI_ltI (by omega : 0 < 2 ^ 31) h1).mp q)) (fun q => kf (fun z => q ((nI_ltI (by omega : 0 < 2 ^ 31) h1).mpr z)))
theorem rw_zle (hx : p.tables.exec = Jvm.exec) (hb : c.code = cc) {a : Nat} {off : Int} {tgt : Nat} (hdg : decode cc pc = .ok (.ifCond .le off, 3)) (ht : (pc : Int) + off = (tgt : Int)) (h1 : a < 2 ^ 31) (kt : a ≤ 0 → W p l e R s m args below meth c H locs cells slots Q (F0 m tgt ls rest)) (kf : ¬ (a ≤ 0) → W p l e R s m args below meth c H locs cells slots Q (F0 m (pc + 3) ls rest)) : W p l e R s m args below meth c H locs cells slots Q (F0 m pc ls (.int (nI a) :: rest)) := lv_if_le hx hb hdg ht (fun q => kt ((nI_leI h1 (by omega : 0 < 2 ^ 31)).mp q)) (fun q => kf (fun z => q ((nI_leI h1 (by omega : 0 < 2 ^ 31)).mpr z)))
theorem rw_beq (hx : p.tables.exec = Jvm.exec) (hb : c.code = cc) {b : Bool} {off : Int} {tgt : Nat} (hdg : decode cc pc = .ok (.ifCond .eq off, 3)) (ht : (pc : Int) + off = (tgt : Int)) (kt : b = false → W p l e R s m args below meth c H locs cells slots Q (F0 m tgt ls rest)) (kf : b = true → W p l e R s m args below meth c H locs cells slots Q (F0 m (pc + 3) ls rest)) : W p l e R s m args below meth c H locs cells slots Q (F0 m pc ls (.int (rt_b b) :: rest)) := by
  cases b with
  | false => exact lv_if_eq hx hb hdg ht (fun _ => kt rfl) (fun q => absurd rfl q)
  | true => exact lv_if_eq hx hb hdg ht (fun q => absurd q (by decide)) (fun _ => kf rfl)
theorem rw_bne (hx : p.tables.exec = Jvm.exec) (hb : c.code = cc) {b : Bool} {off : Int} {tgt : Nat} (hdg : decode cc pc = .ok (.ifCond .ne off, 3)) (ht : (pc : Int) + off = (tgt : Int)) (kt : b = true → W p l e R s m args below meth c H locs cells slots Q (F0 m tgt ls rest)) (kf : b = false → W p l e R s m args below meth c H locs cells slots Q (F0 m (pc + 3) ls rest)) : W p l e R s m args below meth c H locs cells slots Q (F0 m pc ls (.int (rt_b b) :: rest)) := by
  cases b with
  | false => exact lv_if_ne hx hb hdg ht (fun q => absurd rfl q) (fun _ => kf rfl)
  | true => exact lv_if_ne hx hb hdg ht (fun _ => kt rfl) (fun q => absurd q (by decide))
end RWS
end
section
/-! PURE: the map's geometry, runs, open runs, next runs: one mathematical picture to which both the class and the reference are tied. -/
/-- the tile beyond an edge (0 west, 1 north, 2 east, 3 south) -/
def rt_nb (w h t e : Nat) : Option Nat :=
  if e = 0 then (if t % w = 0 then none else some (t - 1))
  else if e = 1 then (if t / w = 0 then none else some (t - w))
  else if e = 2 then (if t % w + 1 = w then none else some (t + 1))
  else (if t / w + 1 = h then none else some (t + w))
def rt_to (l : Nat) : Nat := [2, 0, 3, 1, 2, 1, 2, 3, 0, 3, 0, 1].getD l 0
def rt_bg (k : Nat) : Nat := [1, 5, 7, 3, 6, 8, 0, 9, 11, 2, 4, 10].getD k 0
/-- the run the other way -/
def rt_rv (r : Nat) : Nat := if r % 2 = 0 then r + 1 else r - 1
/-- of the three runs that could begin where a run ends, the i-th -/
def rt_ah (w h r i : Nat) : Option Nat := (rt_nb w h (r / 12) (rt_to (r % 12))).map (fun t => 12 * t + rt_bg (3 * rt_to (r % 12) + i))
def rt_g (Q : Nat → Nat) (p : Nat) : Nat := Q p / 4 % 8
def rt_s (Q : Nat → Nat) (p : Nat) : Nat := Q p / 32
/-- the piece's signal is for this run -/
def rt_hs (Q : Nat → Nat) (r : Nat) : Bool := decide (rt_g Q (r / 2) ≠ 0) && decide ((rt_g Q (r / 2) - 1) % 2 = r % 2)
def rt_op (Q : Nat → Nat) (n r : Nat) : Bool := decide (r < 12 * n) && decide (Q (r / 2) ≠ 0) && !(rt_hs Q (rt_rv r))
/-- the first i of the next runs that could be -/
def rt_px (Q : Nat → Nat) (w h r i : Nat) : List Nat := (List.range i).filterMap (fun i => (rt_ah w h r i).filter (rt_op Q (w * h)))
def rt_nx (Q : Nat → Nat) (w h r : Nat) : List Nat := rt_px Q w h r 3
/-- what a state of the map may be: 0, or 1 and 4 times a signal 0 .. 4 and 32 times a station 0 .. 8; nothing beyond the map -/
def rt_ok (Q : Nat → Nat) (n : Nat) : Prop := (∀ p, n ≤ p → Q p = 0) ∧ ∀ p, Q p = 0 ∨ ∃ g s, g ≤ 4 ∧ s ≤ 8 ∧ Q p = 1 + 4 * g + 32 * s
theorem rt_ok_lt {Q : Nat → Nat} {n : Nat} (h : rt_ok Q n) (p : Nat) : Q p < 512 := by
  rcases h.2 p with h | ⟨g, s, h1, h2, h3⟩ <;> omega
theorem rt_ok_g {Q : Nat → Nat} {n : Nat} (h : rt_ok Q n) (p : Nat) : rt_g Q p ≤ 4 := by
  unfold rt_g
  rcases h.2 p with h | ⟨g, s, h1, h2, h3⟩ <;> omega
theorem rt_ok_s {Q : Nat → Nat} {n : Nat} (h : rt_ok Q n) (p : Nat) : rt_s Q p ≤ 8 := by
  unfold rt_s
  rcases h.2 p with h | ⟨g, s, h1, h2, h3⟩ <;> omega
theorem rt_ok_eq {Q : Nat → Nat} {n : Nat} (h : rt_ok Q n) {p : Nat} (hp : Q p ≠ 0) : Q p = 1 + 4 * rt_g Q p + 32 * rt_s Q p := by
  unfold rt_g rt_s
  rcases h.2 p with h | ⟨g, s, h1, h2, h3⟩ <;> omega
theorem rt_ok_0 {Q : Nat → Nat} {p : Nat} (hp : Q p = 0) : rt_g Q p = 0 ∧ rt_s Q p = 0 := by
  unfold rt_g rt_s
  rw [hp]
  exact ⟨rfl, rfl⟩
theorem rt_ok_in {Q : Nat → Nat} {n : Nat} (h : rt_ok Q n) {p : Nat} (hp : Q p ≠ 0) : p < n := by
  rcases Nat.lt_or_ge p n with q | q
  · exact q
  · exact absurd (h.1 p q) hp
theorem rt_to_lt : ∀ l, l < 12 → rt_to l < 4 := by decide +kernel
theorem rt_bg_lt : ∀ k, k < 12 → rt_bg k < 12 := by decide +kernel
theorem rt_rv_rv (r : Nat) : rt_rv (rt_rv r) = r := by
  unfold rt_rv
  split <;> split <;> omega
theorem rt_rv_2 (r : Nat) : rt_rv r / 2 = r / 2 := by
  unfold rt_rv
  split <;> omega
theorem rt_rv_12 (r : Nat) : rt_rv r / 12 = r / 12 := by
  unfold rt_rv
  split <;> omega
theorem rt_rv_m (r : Nat) : rt_rv r % 12 = rt_rv (r % 12) := by
  unfold rt_rv
  split <;> split <;> omega
theorem rt_rv_p (r : Nat) : rt_rv r % 2 = 1 - r % 2 := by
  unfold rt_rv
  split <;> omega
theorem rt_rv_lt {r n : Nat} (h : r < 12 * n) : rt_rv r < 12 * n := by
  unfold rt_rv
  split <;> omega
theorem rt_rv_xor (r : Nat) : r ^^^ 1 = rt_rv r := by
  have h1 : (r ^^^ 1) % 2 = 1 - r % 2 := by
    have h0 := @Nat.xor_mod_two_eq_one r 1
    by_cases hr : r % 2 = 1
    · have h9 : ¬ ((r ^^^ 1) % 2 = 1) := fun q => (h0.mp q) ⟨fun _ => rfl, fun _ => hr⟩
      omega
    · have h9 : (r ^^^ 1) % 2 = 1 := h0.mpr (fun q => hr (q.mpr rfl))
      omega
  have h2 : (r ^^^ 1) / 2 = r / 2 := by
    rw [Nat.xor_div_two]
    simp
  unfold rt_rv
  split <;> omega
theorem rt_xy (w h t : Nat) (hw : 0 < w) (ht : t < w * h) : ∃ x y, x < w ∧ y < h ∧ t = w * y + x :=
  ⟨t % w, t / w, Nat.mod_lt _ hw, by rw [Nat.div_lt_iff_lt_mul hw, Nat.mul_comm]; exact ht, (Nat.div_add_mod t w).symm⟩
theorem rt_xm {w x y : Nat} (hx : x < w) : (w * y + x) % w = x := by rw [Nat.mul_add_mod, Nat.mod_eq_of_lt hx]
theorem rt_xd {w x y : Nat} (hx : x < w) : (w * y + x) / w = y := by
  rw [Nat.mul_add_div (by omega), Nat.div_eq_of_lt hx, Nat.add_zero]
theorem rt_xlt {w h x y : Nat} (hx : x < w) (hy : y < h) : w * y + x < w * h := by
  have := Nat.mul_le_mul_left w (show y + 1 ≤ h from hy)
  rw [Nat.mul_add] at this
  omega
theorem rt_nb_0 (w h t : Nat) : rt_nb w h t 0 = if t % w = 0 then none else some (t - 1) := rfl
theorem rt_nb_1 (w h t : Nat) : rt_nb w h t 1 = if t / w = 0 then none else some (t - w) := rfl
theorem rt_nb_2 (w h t : Nat) : rt_nb w h t 2 = if t % w + 1 = w then none else some (t + 1) := rfl
theorem rt_nb_3 (w h t : Nat) : rt_nb w h t 3 = if t / w + 1 = h then none else some (t + w) := rfl
theorem rt_rv_add (t b : Nat) : rt_rv (12 * t + b) = 12 * t + rt_rv b := by
  unfold rt_rv
  split <;> split <;> omega
/-- the neighbour is on the map, and back from it one comes by the other edge -/
theorem rt_nb_back {w h t e t' : Nat} (hw : 0 < w) (ht : t < w * h) (he : e < 4) (hn : rt_nb w h t e = some t') : t' < w * h ∧ rt_nb w h t' ((e + 2) % 4) = some t ∧ t' ≠ t := by
  obtain ⟨x, y, hx, hy, rfl⟩ := rt_xy w h t hw ht
  rcases (show e = 0 ∨ e = 1 ∨ e = 2 ∨ e = 3 by omega) with rfl | rfl | rfl | rfl
  · rw [rt_nb_0, rt_xm hx] at hn
    split at hn
    · cases hn
    · next hx0 =>
      cases hn
      have e1 : w * y + x - 1 = w * y + (x - 1) := by omega
      have hx' : x - 1 < w := by omega
      rw [e1]
      refine ⟨rt_xlt hx' hy, ?_, by omega⟩
      show rt_nb w h _ 2 = _
      rw [rt_nb_2, rt_xm hx', if_neg (by omega)]
      congr 1
      omega
  · rw [rt_nb_1, rt_xd hx] at hn
    split at hn
    · cases hn
    · next hy0 =>
      cases hn
      obtain ⟨y, rfl⟩ : ∃ z, y = z + 1 := ⟨y - 1, by omega⟩
      have e1 : w * (y + 1) + x - w = w * y + x := by rw [Nat.mul_add]; omega
      rw [e1]
      refine ⟨rt_xlt hx (by omega), ?_, by rw [Nat.mul_add]; omega⟩
      show rt_nb w h _ 3 = _
      rw [rt_nb_3, rt_xd hx, if_neg (by omega)]
      congr 1
      rw [Nat.mul_add]
      omega
  · rw [rt_nb_2, rt_xm hx] at hn
    split at hn
    · cases hn
    · next hx0 =>
      cases hn
      have e1 : w * y + x + 1 = w * y + (x + 1) := by omega
      have hx' : x + 1 < w := by omega
      rw [e1]
      refine ⟨rt_xlt hx' hy, ?_, by omega⟩
      show rt_nb w h _ 0 = _
      rw [rt_nb_0, rt_xm hx', if_neg (by omega)]
      congr 1
  · rw [rt_nb_3, rt_xd hx] at hn
    split at hn
    · cases hn
    · next hy0 =>
      cases hn
      have e1 : w * y + x + w = w * (y + 1) + x := by rw [Nat.mul_add]; omega
      rw [e1]
      refine ⟨rt_xlt hx (by omega), ?_, by rw [Nat.mul_add]; omega⟩
      show rt_nb w h _ 1 = _
      rw [rt_nb_1, rt_xd hx, if_neg (by omega)]
      congr 1
      rw [Nat.mul_add]
      omega
theorem rt_loc : ∀ l, l < 12 → ∀ i, i < 3 → rt_to (rt_rv (rt_bg (3 * rt_to l + i))) = (rt_to l + 2) % 4 ∧ ∃ j, j < 3 ∧ rt_bg (3 * ((rt_to l + 2) % 4) + j) = rt_rv l := by decide +kernel
theorem rt_bgi_lt {l i : Nat} (hl : l < 12) (hi : i < 3) : rt_bg (3 * rt_to l + i) < 12 := rt_bg_lt _ (by have := rt_to_lt l hl; omega)
theorem rt_ah_some {w h r i a : Nat} (ha : rt_ah w h r i = some a) : ∃ t, rt_nb w h (r / 12) (rt_to (r % 12)) = some t ∧ a = 12 * t + rt_bg (3 * rt_to (r % 12) + i) := by
  unfold rt_ah at ha
  cases hn : rt_nb w h (r / 12) (rt_to (r % 12)) with
  | none => rw [hn] at ha; cases ha
  | some t => rw [hn] at ha; cases ha; exact ⟨t, rfl, rfl⟩
/-- a run that begins where another ends: it is on the map; and the other way round they are joined likewise -/
theorem rt_ah_back {w h r i a : Nat} (hw : 0 < w) (hr : r < 12 * (w * h)) (hi : i < 3) (ha : rt_ah w h r i = some a) : a < 12 * (w * h) ∧ a / 12 ≠ r / 12 ∧ ∃ j, j < 3 ∧ rt_ah w h (rt_rv a) j = some (rt_rv r) := by
  obtain ⟨t, hn, rfl⟩ := rt_ah_some ha
  have hl : r % 12 < 12 := Nat.mod_lt _ (by omega)
  have hb := rt_bgi_lt hl hi
  obtain ⟨h1, h2, h3⟩ := rt_nb_back hw (by omega) (rt_to_lt _ hl) hn
  obtain ⟨h4, j, hj, h5⟩ := rt_loc _ hl i hi
  generalize hbe : rt_bg (3 * rt_to (r % 12) + i) = bb at *
  have e1 : (12 * t + bb) / 12 = t := by omega
  have e2 : (12 * t + bb) % 12 = bb := by omega
  refine ⟨by omega, by rw [e1]; exact h3, j, hj, ?_⟩
  unfold rt_ah
  rw [rt_rv_12, e1, rt_rv_m, e2, h4, h2]
  show some _ = some _
  have e3 : rt_rv r = 12 * (r / 12) + rt_rv (r % 12) := by
    rw [← rt_rv_add]
    congr 1
    omega
  rw [h5, e3]
end
section
/-! PURE: next runs as lists, the reference's followers, the runs before a run -/
def rt_one (Q : Nat → Nat) (n : Nat) (a : Option Nat) : List Nat := match a with
  | none => []
  | some a => if rt_op Q n a = true then [a] else []
theorem rt_px_0 (Q : Nat → Nat) (w h r : Nat) : rt_px Q w h r 0 = [] := rfl
theorem rt_px_succ (Q : Nat → Nat) (w h r i : Nat) : rt_px Q w h r (i + 1) = rt_px Q w h r i ++ rt_one Q (w * h) (rt_ah w h r i) := by
  unfold rt_px rt_one
  rw [List.range_succ, List.filterMap_append]
  congr 1
  simp only [List.filterMap_cons, List.filterMap_nil]
  cases rt_ah w h r i with
  | none => rfl
  | some a =>
    rw [Option.filter_some]
    dsimp only
    cases rt_op Q (w * h) a <;> rfl
theorem rt_mem_px {Q : Nat → Nat} {w h r i f : Nat} : f ∈ rt_px Q w h r i ↔ ∃ j, j < i ∧ rt_ah w h r j = some f ∧ rt_op Q (w * h) f = true := by
  unfold rt_px
  simp only [List.mem_filterMap, List.mem_range, Option.filter_eq_some_iff]
theorem rt_mem_nx {Q : Nat → Nat} {w h r f : Nat} : f ∈ rt_nx Q w h r ↔ ∃ j, j < 3 ∧ rt_ah w h r j = some f ∧ rt_op Q (w * h) f = true := rt_mem_px
theorem rt_op_lt {Q : Nat → Nat} {n r : Nat} (h : rt_op Q n r = true) : r < 12 * n := by
  unfold rt_op at h
  simp only [Bool.and_eq_true, decide_eq_true_eq] at h
  exact h.1.1
theorem rt_op_there {Q : Nat → Nat} {n r : Nat} (h : rt_op Q n r = true) : Q (r / 2) ≠ 0 := by
  unfold rt_op at h
  simp only [Bool.and_eq_true, decide_eq_true_eq] at h
  exact h.1.2
/-- the k-th of a list, k any int -/
def rt_kth (l : List Nat) (k : Int32) : Option Nat := if k < 0 then none else l[k.toNatClampNeg]?
theorem rt_kth_nI (l : List Nat) {k : Nat} (hk : k < 2 ^ 31) : rt_kth l (nI k) = l[k]? := by
  unfold rt_kth
  rw [if_neg (nI_pos hk), nI_clamp hk]
theorem rt_kth_neg (l : List Nat) {k : Int32} (hk : k < 0) : rt_kth l k = none := if_pos hk
-- the reference's edges: 0 west, 1 east, 2 north, 3 south
def rt_ed (k : Nat) : Nat := [0, 1, 2, 3, 2, 1, 3, 1, 3, 0, 2, 0].getD k 0
def rt_mf (l : Nat) : Nat := rt_ed (2 * (l / 2) + l % 2)
def rt_mt (l : Nat) : Nat := rt_ed (2 * (l / 2) + 1 - l % 2)
def rt_mo (e : Nat) : Nat := if e < 2 then 1 - e else 5 - e
/-- the reference's edge in the class's order -/
def rt_tr (e : Nat) : Nat := [0, 2, 1, 3].getD e 0
theorem rt_tr_to : ∀ l, l < 12 → rt_tr (rt_mt l) = rt_to l := by decide +kernel
theorem rt_mt_lt : ∀ l, l < 12 → rt_mt l < 4 ∧ rt_mf l < 4 := by decide +kernel
/-- the reference's follower(run, kind) -/
def rt_fo (Q : Nat → Nat) (w h r k : Nat) : Option Nat := match rt_nb w h (r / 12) (rt_to (r % 12)) with
  | none => none
  | some t => if (decide (rt_mf (2 * k) = rt_mo (rt_mt (r % 12))) && rt_op Q (w * h) (12 * t + 2 * k)) = true then some (12 * t + 2 * k) else if (decide (rt_mf (2 * k + 1) = rt_mo (rt_mt (r % 12))) && rt_op Q (w * h) (12 * t + (2 * k + 1))) = true then some (12 * t + (2 * k + 1)) else none
theorem rt_12 {l : Nat} (h : l < 12) : l = 0 ∨ l = 1 ∨ l = 2 ∨ l = 3 ∨ l = 4 ∨ l = 5 ∨ l = 6 ∨ l = 7 ∨ l = 8 ∨ l = 9 ∨ l = 10 ∨ l = 11 := by omega
theorem rt_fo_nx (Q : Nat → Nat) (w h r : Nat) : (List.range 6).filterMap (rt_fo Q w h r) = rt_nx Q w h r := by
  have hl : r % 12 < 12 := Nat.mod_lt _ (by omega)
  unfold rt_nx rt_px rt_ah
  show List.filterMap (fun k => rt_fo Q w h r k) (List.range 6) = _
  unfold rt_fo
  generalize r % 12 = l at *
  generalize rt_nb w h (r / 12) (rt_to l) = o
  cases o with
  | none => rfl
  | some t =>
    generalize rt_op Q (w * h) = P
    rcases rt_12 hl with rfl | rfl | rfl | rfl | rfl | rfl | rfl | rfl | rfl | rfl | rfl | rfl <;> rfl
theorem rt_fo_k {Q : Nat → Nat} {w h r k f : Nat} (hk : k < 6) (hf : rt_fo Q w h r k = some f) : f / 2 % 6 = k ∧ f ∈ rt_nx Q w h r ∧ rt_op Q (w * h) f = true := by
  have hm : f ∈ rt_nx Q w h r := by
    rw [← rt_fo_nx]
    exact List.mem_filterMap.mpr ⟨k, List.mem_range.mpr hk, hf⟩
  refine ⟨?_, hm, (rt_mem_nx.mp hm).choose_spec.2.2⟩
  unfold rt_fo at hf
  cases hn : rt_nb w h (r / 12) (rt_to (r % 12)) with
  | none => rw [hn] at hf; cases hf
  | some t =>
    rw [hn] at hf
    simp only at hf
    split at hf
    · cases hf; omega
    · split at hf
      · cases hf; omega
      · cases hf
/-- a run is a next one of r just if it is the follower of its own kind -/
theorem rt_fo_iff {Q : Nat → Nat} {w h r f : Nat} : rt_fo Q w h r (f / 2 % 6) = some f ↔ f ∈ rt_nx Q w h r := by
  constructor
  · intro hf
    exact (rt_fo_k (Nat.mod_lt _ (by omega)) hf).2.1
  · intro hm
    have hm' := hm
    rw [← rt_fo_nx] at hm
    obtain ⟨k, hk, hf⟩ := List.mem_filterMap.mp hm
    have hk6 := List.mem_range.mp hk
    rw [(rt_fo_k hk6 hf).1]
    exact hf
-- the runs before a run
def rt_bh (w h r i : Nat) : Option Nat := (rt_ah w h (rt_rv r) i).map rt_rv
def rt_pb (Q : Nat → Nat) (w h r i : Nat) : List Nat := (List.range i).filterMap (fun i => (rt_bh w h r i).filter (rt_op Q (w * h)))
theorem rt_pb_succ (Q : Nat → Nat) (w h r i : Nat) : rt_pb Q w h r (i + 1) = rt_pb Q w h r i ++ rt_one Q (w * h) (rt_bh w h r i) := by
  unfold rt_pb rt_one
  rw [List.range_succ, List.filterMap_append]
  congr 1
  simp only [List.filterMap_cons, List.filterMap_nil]
  cases rt_bh w h r i with
  | none => rfl
  | some a =>
    rw [Option.filter_some]
    dsimp only
    cases rt_op Q (w * h) a <;> rfl
theorem rt_mem_pb {Q : Nat → Nat} {w h r i f : Nat} : f ∈ rt_pb Q w h r i ↔ ∃ j, j < i ∧ rt_bh w h r j = some f ∧ rt_op Q (w * h) f = true := by
  unfold rt_pb
  simp only [List.mem_filterMap, List.mem_range, Option.filter_eq_some_iff]
/-- the open runs behind a run are those of which it is a next one -/
theorem rt_pred {Q : Nat → Nat} {w h r b : Nat} (hw : 0 < w) (hr : rt_op Q (w * h) r = true) (hb : rt_op Q (w * h) b = true) : r ∈ rt_nx Q w h b ↔ b ∈ rt_pb Q w h r 3 := by
  rw [rt_mem_nx, rt_mem_pb]
  constructor
  · rintro ⟨i, hi, ha, -⟩
    obtain ⟨-, -, j, hj, h2⟩ := rt_ah_back hw (rt_op_lt hb) hi ha
    refine ⟨j, hj, ?_, hb⟩
    unfold rt_bh
    rw [h2]
    show some _ = some _
    rw [rt_rv_rv]
  · rintro ⟨i, hi, ha, -⟩
    unfold rt_bh at ha
    cases hz : rt_ah w h (rt_rv r) i with
    | none => rw [hz] at ha; cases ha
    | some z =>
      rw [hz] at ha
      cases ha
      obtain ⟨-, -, j, hj, h2⟩ := rt_ah_back hw (rt_rv_lt (rt_op_lt hr)) hi hz
      rw [rt_rv_rv] at h2
      exact ⟨j, hj, h2, hr⟩
theorem rt_bl : ∀ l, l < 12 → rt_rv (rt_bg (3 * rt_to l)) < rt_rv (rt_bg (3 * rt_to l + 1)) ∧ rt_rv (rt_bg (3 * rt_to l + 1)) < rt_rv (rt_bg (3 * rt_to l + 2)) := by decide +kernel
/-- those behind a run rise -/
theorem rt_bh_mono {w h r i j a b : Nat} (hi : i < j) (hj : j < 3) (ha : rt_bh w h r i = some a) (hb : rt_bh w h r j = some b) : a < b := by
  unfold rt_bh at ha hb
  cases hz : rt_ah w h (rt_rv r) i with
  | none => rw [hz] at ha; cases ha
  | some z =>
    cases hy : rt_ah w h (rt_rv r) j with
    | none => rw [hy] at hb; cases hb
    | some y =>
      rw [hz] at ha
      rw [hy] at hb
      cases ha
      cases hb
      obtain ⟨t, h1, rfl⟩ := rt_ah_some hz
      obtain ⟨t2, h2, rfl⟩ := rt_ah_some hy
      cases h1.symm.trans h2
      rw [rt_rv_add, rt_rv_add]
      obtain ⟨h3, h4⟩ := rt_bl (rt_rv r % 12) (Nat.mod_lt _ (by omega))
      rcases (show (i = 0 ∧ j = 1) ∨ (i = 0 ∧ j = 2) ∨ (i = 1 ∧ j = 2) by omega) with ⟨rfl, rfl⟩ | ⟨rfl, rfl⟩ | ⟨rfl, rfl⟩
      · exact Nat.add_lt_add_left h3 _
      · exact Nat.add_lt_add_left (Nat.lt_trans h3 h4) _
      · exact Nat.add_lt_add_left h4 _
/-- the lowest run before a run -/
def rt_bf (Q : Nat → Nat) (w h r : Nat) : Option Nat := (rt_pb Q w h r 3).head?
theorem rt_pb_mono {Q : Nat → Nat} {w h r : Nat} : ∀ i, i ≤ 3 → (rt_pb Q w h r i).Pairwise (· < ·) := by
  intro i
  induction i with
  | zero => intro _; exact List.Pairwise.nil
  | succ i ih =>
    intro hi
    rw [rt_pb_succ, List.pairwise_append]
    refine ⟨ih (by omega), ?_, ?_⟩
    · unfold rt_one
      cases rt_bh w h r i with
      | none => exact List.Pairwise.nil
      | some a => simp only; split <;> simp
    · intro a ha b hb
      obtain ⟨j, hj, h1, -⟩ := rt_mem_pb.mp ha
      unfold rt_one at hb
      cases hz : rt_bh w h r i with
      | none => rw [hz] at hb; cases hb
      | some z =>
        rw [hz] at hb
        simp only at hb
        split at hb
        · rw [List.mem_singleton] at hb
          subst hb
          exact rt_bh_mono hj (by omega) h1 hz
        · cases hb
theorem rt_bf_least {Q : Nat → Nat} {w h r b : Nat} (hb : b ∈ rt_pb Q w h r 3) : ∃ a, rt_bf Q w h r = some a ∧ a ∈ rt_pb Q w h r 3 ∧ ∀ c, c ∈ rt_pb Q w h r 3 → a ≤ c := by
  have hp := rt_pb_mono (Q := Q) (w := w) (h := h) (r := r) 3 (Nat.le_refl 3)
  unfold rt_bf
  cases hl : rt_pb Q w h r 3 with
  | nil => rw [hl] at hb; cases hb
  | cons a l =>
    refine ⟨a, rfl, List.mem_cons_self, ?_⟩
    intro c hc
    rw [hl, List.pairwise_cons] at hp
    rcases List.mem_cons.mp hc with rfl | hc
    · exact Nat.le_refl _
    · exact Nat.le_of_lt (hp.1 c hc)
theorem rt_bf_none {Q : Nat → Nat} {w h r : Nat} (hb : ∀ b, b ∉ rt_pb Q w h r 3) : rt_bf Q w h r = none := by
  unfold rt_bf
  rw [List.eq_nil_iff_forall_not_mem.mpr hb]
  rfl
end
section
/-! PURE: costs: what they are, that there is one such function alone; the class's two queues; the reference's rounds -/
def rt_ln (r : Nat) : Nat := if r / 2 % 6 < 2 then 16 else 12
def rt_st (r : Nat) : Bool := decide (r / 2 % 6 < 2)
def rt_cv (r : Nat) : Bool := !(rt_st r)
theorem rt_ln_st {r : Nat} (h : rt_st r = true) : rt_ln r = 16 := if_pos (of_decide_eq_true h)
theorem rt_ln_cv {r : Nat} (h : rt_cv r = true) : rt_ln r = 12 := by
  unfold rt_cv rt_st at h
  unfold rt_ln
  rw [if_neg]
  simpa using h
theorem rt_ln_in (r : Nat) : 12 ≤ rt_ln r ∧ rt_ln r ≤ 16 := by
  unfold rt_ln
  split <;> omega
def rt_tg (Q : Nat → Nat) (w h st r : Nat) : Bool := rt_op Q (w * h) r && decide (rt_s Q (r / 2) = st + 1) && (rt_nx Q w h r).all (fun f => decide (rt_s Q (f / 2) ≠ st + 1))
def rt_isC (Q : Nat → Nat) (w h st : Nat) (C : Nat → Option Nat) : Prop :=
  (∀ r c, C r = some c → rt_op Q (w * h) r = true) ∧
  (∀ r, rt_tg Q w h st r = true → C r = some 0) ∧
  (∀ r f c, rt_op Q (w * h) r = true → rt_tg Q w h st r = false → f ∈ rt_nx Q w h r → C f = some c → ∃ c', C r = some c' ∧ c' ≤ rt_ln f + c) ∧
  (∀ r c', C r = some c' → rt_tg Q w h st r = false → ∃ f, f ∈ rt_nx Q w h r ∧ ∃ c, C f = some c ∧ c' = rt_ln f + c)
theorem rt_isC_pos {Q : Nat → Nat} {w h st : Nat} {C : Nat → Option Nat} (hC : rt_isC Q w h st C) {r : Nat} : C r = some 0 ↔ rt_tg Q w h st r = true := by
  constructor
  · intro h0
    cases ht : rt_tg Q w h st r with
    | true => rfl
    | false =>
      obtain ⟨f, -, c, -, h1⟩ := hC.2.2.2 r 0 h0 ht
      have := rt_ln_in f
      omega
  · exact hC.2.1 r
-- one queue of the class: row R, places hd .. tl wait, M: the last that was taken
def rt_qI (P : Nat → Bool) (F : Nat → Option Nat) (R : Nat → Nat) (hd tl M : Nat) : Prop :=
  hd ≤ tl ∧ (∀ j, j < tl → P (R j) = true ∧ F (R j) ≠ none) ∧ (∀ r, P r = true → F r ≠ none → ∃ j, j < tl ∧ R j = r) ∧
  (∀ i j, i < tl → j < tl → R i = R j → i = j) ∧
  (∀ i j a b, i ≤ j → j < tl → F (R i) = some a → F (R j) = some b → a ≤ b) ∧
  (∀ j a, hd ≤ j → j < tl → F (R j) = some a → M ≤ a + rt_ln (R j))
def rt_cI (Q : Nat → Nat) (w h st : Nat) (F : Nat → Option Nat) (RS : Nat → Nat) (hS tS : Nat) (RC : Nat → Nat) (hC tC M : Nat) (T : Nat → Prop) (pend : Nat → Nat → Prop) : Prop :=
  rt_qI rt_st F RS hS tS M ∧ rt_qI rt_cv F RC hC tC M ∧
  (∀ r c, F r = some c → rt_op Q (w * h) r = true ∧ c ≤ M) ∧
  (∀ r, rt_tg Q w h st r = true → T r → F r = some 0) ∧
  (∀ r c, F r = some c → rt_tg Q w h st r = false → ∃ f, f ∈ rt_nx Q w h r ∧ ∃ c', F f = some c' ∧ c = rt_ln f + c') ∧
  (∀ g c, ((∃ j, j < hS ∧ RS j = g) ∨ (∃ j, j < hC ∧ RC j = g)) → F g = some c → ∀ r, rt_op Q (w * h) r = true → g ∈ rt_nx Q w h r → (∃ c', F r = some c' ∧ c' ≤ rt_ln g + c) ∨ pend g r)
theorem rt_cI_0 (Q : Nat → Nat) (w h st : Nat) (RS RC : Nat → Nat) (pend : Nat → Nat → Prop) : rt_cI Q w h st (fun _ => none) RS 0 0 RC 0 0 0 (fun _ => False) pend := by
  refine ⟨⟨Nat.le_refl _, ?_, ?_, ?_, ?_, ?_⟩, ⟨Nat.le_refl _, ?_, ?_, ?_, ?_, ?_⟩, ?_, ?_, ?_, ?_⟩
  · intro j h; omega
  · intro r _ h; exact absurd rfl h
  · intro i j h; omega
  · intro i j a b _ h; omega
  · intro j a _ h; omega
  · intro j h; omega
  · intro r _ h; exact absurd rfl h
  · intro i j h; omega
  · intro i j a b _ h; omega
  · intro j a _ h; omega
  · intro r c h; cases h
  · intro r _ h; exact h.elim
  · intro r c h; cases h
  · intro g c _ h; cases h
theorem rt_cI_drop {Q : Nat → Nat} {w h st : Nat} {F : Nat → Option Nat} {RS : Nat → Nat} {hS tS : Nat} {RC : Nat → Nat} {hC tC M : Nat} {T T' : Nat → Prop} {pend pend' : Nat → Nat → Prop} (I : rt_cI Q w h st F RS hS tS RC hC tC M T pend)
    (hT : ∀ r, rt_tg Q w h st r = true → T' r → T r ∨ F r = some 0)
    (hp : ∀ g r c, pend g r → rt_op Q (w * h) r = true → g ∈ rt_nx Q w h r → F g = some c → (∃ c', F r = some c' ∧ c' ≤ rt_ln g + c) ∨ pend' g r) : rt_cI Q w h st F RS hS tS RC hC tC M T' pend' := by
  obtain ⟨i1, i2, i3, i4, i5, i6⟩ := I
  refine ⟨i1, i2, i3, ?_, i5, ?_⟩
  · intro r h1 h2
    rcases hT r h1 h2 with h | h
    · exact i4 r h1 h
    · exact h
  · intro g c h1 h2 r h3 h4
    rcases i6 g c h1 h2 r h3 h4 with h | h
    · exact Or.inl h
    · exact hp g r c h h3 h4 h2
theorem rt_up_s {α : Type} (f : Nat → α) (k : Nat) (v : α) : va_up f k v k = v := va_up_self f k v
/-- a queue that gets one more -/
theorem rt_qI_add {P : Nat → Bool} {F : Nat → Option Nat} {R : Nat → Nat} {hd tl M b : Nat} (I : rt_qI P F R hd tl M) (hP : P b = true) (hb : F b = none) (hM : ∀ r c, F r = some c → c ≤ M) : rt_qI P (va_up F b (some M)) (va_up R tl b) hd (tl + 1) M := by
  obtain ⟨i1, i2, i3, i4, i5, i6⟩ := I
  have nb : ∀ j, j < tl → R j ≠ b := fun j hj e => (i2 j hj).2 (by rw [e]; exact hb)
  have ho : ∀ j, j < tl → va_up R tl b j = R j := fun j hj => va_up_ne R b (by omega)
  have hF : ∀ j, j < tl → va_up F b (some M) (R j) = F (R j) := fun j hj => va_up_ne F _ (nb j hj)
  refine ⟨by omega, ?_, ?_, ?_, ?_, ?_⟩
  · intro j hj
    rcases Nat.lt_or_ge j tl with q | q
    · rw [ho j q, hF j q]
      exact i2 j q
    · have : j = tl := by omega
      subst this
      rw [va_up_self, va_up_self]
      exact ⟨hP, by simp⟩
  · intro r h1 h2
    by_cases hr : r = b
    · exact ⟨tl, by omega, by rw [va_up_self, hr]⟩
    · rw [va_up_ne F _ hr] at h2
      obtain ⟨j, hj, e⟩ := i3 r h1 h2
      exact ⟨j, by omega, by rw [ho j hj]; exact e⟩
  · intro i j hi hj e
    rcases Nat.lt_or_ge i tl with q | q <;> rcases Nat.lt_or_ge j tl with q2 | q2
    · rw [ho i q, ho j q2] at e
      exact i4 i j q q2 e
    · have : j = tl := by omega
      subst this
      rw [ho i q, va_up_self] at e
      exact absurd e (nb i q)
    · have : i = tl := by omega
      subst this
      rw [ho j q2, va_up_self] at e
      exact absurd e.symm (nb j q2)
    · omega
  · intro i j a c hij hj ha hc
    rcases Nat.lt_or_ge j tl with q2 | q2
    · have q : i < tl := by omega
      rw [ho i q, hF i q] at ha
      rw [ho j q2, hF j q2] at hc
      exact i5 i j a c hij q2 ha hc
    · have : j = tl := by omega
      subst this
      rw [va_up_self, va_up_self] at hc
      cases hc
      rcases Nat.lt_or_ge i j with q | q
      · rw [ho i q, hF i q] at ha
        exact hM _ _ ha
      · have : i = j := by omega
        subst this
        rw [va_up_self, va_up_self] at ha
        cases ha
        exact Nat.le_refl _
  · intro j a h1 h2 ha
    rcases Nat.lt_or_ge j tl with q | q
    · rw [ho j q, hF j q] at ha
      rw [ho j q]
      exact i6 j a h1 q ha
    · have : j = tl := by omega
      subst this
      rw [va_up_self, va_up_self] at ha
      cases ha
      omega
/-- the other queue, when one is settled that isn't of its sort -/
theorem rt_qI_oth {P : Nat → Bool} {F : Nat → Option Nat} {R : Nat → Nat} {hd tl M b : Nat} {v : Option Nat} (I : rt_qI P F R hd tl M) (hP : P b = false) : rt_qI P (va_up F b v) R hd tl M := by
  obtain ⟨i1, i2, i3, i4, i5, i6⟩ := I
  have nb : ∀ r, P r = true → r ≠ b := fun r hr e => by rw [e, hP] at hr; cases hr
  have hF : ∀ j, j < tl → va_up F b v (R j) = F (R j) := fun j hj => va_up_ne F _ (nb _ (i2 j hj).1)
  refine ⟨i1, ?_, ?_, i4, ?_, ?_⟩
  · intro j hj
    rw [hF j hj]
    exact i2 j hj
  · intro r h1 h2
    rw [va_up_ne F _ (nb r h1)] at h2
    exact i3 r h1 h2
  · intro i j a c hij hj ha hc
    rw [hF i (by omega)] at ha
    rw [hF j hj] at hc
    exact i5 i j a c hij hj ha hc
  · intro j a h1 h2 ha
    rw [hF j h2] at ha
    exact i6 j a h1 h2 ha
/-- one more run is settled, at M -/
theorem rt_cI_settle {Q : Nat → Nat} {w h st : Nat} {F : Nat → Option Nat} {RS : Nat → Nat} {hS tS : Nat} {RC : Nat → Nat} {hC tC M b : Nat} {T : Nat → Prop} {pend : Nat → Nat → Prop} (I : rt_cI Q w h st F RS hS tS RC hC tC M T pend)
    (hb : F b = none) (ho : rt_op Q (w * h) b = true) (h0 : rt_tg Q w h st b = true → M = 0) (h7 : rt_tg Q w h st b = false → ∃ f, f ∈ rt_nx Q w h b ∧ ∃ c', F f = some c' ∧ M = rt_ln f + c')
    (hp : ∀ g c, pend g b → F g = some c → M ≤ rt_ln g + c) :
    (rt_st b = true → rt_cI Q w h st (va_up F b (some M)) (va_up RS tS b) hS (tS + 1) RC hC tC M (fun r => T r ∨ r = b) (fun g r => pend g r ∧ r ≠ b)) ∧
    (rt_st b = false → rt_cI Q w h st (va_up F b (some M)) RS hS tS (va_up RC tC b) hC (tC + 1) M (fun r => T r ∨ r = b) (fun g r => pend g r ∧ r ≠ b)) := by
  obtain ⟨i1, i2, i3, i4, i5, i6⟩ := I
  have hM : ∀ r c, F r = some c → c ≤ M := fun r c h => (i3 r c h).2
  have k3 : ∀ r c, va_up F b (some M) r = some c → rt_op Q (w * h) r = true ∧ c ≤ M := by
    intro r c hr
    by_cases e : r = b
    · subst e
      rw [va_up_self] at hr
      cases hr
      exact ⟨ho, Nat.le_refl _⟩
    · rw [va_up_ne F _ e] at hr
      exact i3 r c hr
  have k4 : ∀ r, rt_tg Q w h st r = true → (T r ∨ r = b) → va_up F b (some M) r = some 0 := by
    intro r h1 h2
    by_cases e : r = b
    · subst e
      rw [va_up_self, h0 h1]
    · rw [va_up_ne F _ e]
      exact i4 r h1 (h2.resolve_right e)
  have kk : ∀ f c', F f = some c' → va_up F b (some M) f = some c' := by
    intro f c' hf
    have e : f ≠ b := fun e => by rw [e, hb] at hf; cases hf
    rw [va_up_ne F _ e]
    exact hf
  have k5 : ∀ r c, va_up F b (some M) r = some c → rt_tg Q w h st r = false → ∃ f, f ∈ rt_nx Q w h r ∧ ∃ c', va_up F b (some M) f = some c' ∧ c = rt_ln f + c' := by
    intro r c hr ht
    by_cases e : r = b
    · subst e
      rw [va_up_self] at hr
      cases hr
      obtain ⟨f, h1, c', h2, h3⟩ := h7 ht
      exact ⟨f, h1, c', kk f c' h2, h3⟩
    · rw [va_up_ne F _ e] at hr
      obtain ⟨f, h1, c', h2, h3⟩ := i5 r c hr ht
      exact ⟨f, h1, c', kk f c' h2, h3⟩
  have k6 : ∀ g c, F g ≠ none → ((∃ c', F g = some c') → ∀ r, rt_op Q (w * h) r = true → g ∈ rt_nx Q w h r → ∀ c1, F g = some c1 → (∃ c', F r = some c' ∧ c' ≤ rt_ln g + c1) ∨ pend g r) → va_up F b (some M) g = some c → ∀ r, rt_op Q (w * h) r = true → g ∈ rt_nx Q w h r → (∃ c', va_up F b (some M) r = some c' ∧ c' ≤ rt_ln g + c) ∨ (pend g r ∧ r ≠ b) := by
    intro g c hn hh hg r h1 h2
    have e : g ≠ b := fun e => hn (by rw [e]; exact hb)
    rw [va_up_ne F _ e] at hg
    rcases hh ⟨c, hg⟩ r h1 h2 c hg with ⟨c', h3, h4⟩ | h3
    · exact Or.inl ⟨c', kk r c' h3, h4⟩
    · by_cases e2 : r = b
      · subst e2
        exact Or.inl ⟨M, va_up_self _ _ _, hp g c h3 hg⟩
      · exact Or.inr ⟨h3, e2⟩
  constructor
  · intro hs
    refine ⟨rt_qI_add i1 hs hb hM, rt_qI_oth i2 (by unfold rt_cv; rw [hs]; rfl), k3, k4, k5, ?_⟩
    intro g c hg hc
    have hold : (∃ j, j < hS ∧ RS j = g) ∨ (∃ j, j < hC ∧ RC j = g) := by
      rcases hg with ⟨j, hj, e⟩ | h
      · refine Or.inl ⟨j, hj, ?_⟩
        rw [va_up_ne RS _ (by have := i1.1; omega)] at e
        exact e
      · exact Or.inr h
    have hn : F g ≠ none := by
      rcases hold with ⟨j, hj, e⟩ | ⟨j, hj, e⟩
      · rw [← e]; exact (i1.2.1 j (by have := i1.1; omega)).2
      · rw [← e]; exact (i2.2.1 j (by have := i2.1; omega)).2
    exact k6 g c hn (fun _ r h1 h2 c1 h3 => i6 g c1 hold h3 r h1 h2) hc
  · intro hs
    refine ⟨rt_qI_oth i1 hs, rt_qI_add i2 (by unfold rt_cv; rw [hs]; rfl) hb hM, k3, k4, k5, ?_⟩
    intro g c hg hc
    have hold : (∃ j, j < hS ∧ RS j = g) ∨ (∃ j, j < hC ∧ RC j = g) := by
      rcases hg with h | ⟨j, hj, e⟩
      · exact Or.inl h
      · refine Or.inr ⟨j, hj, ?_⟩
        rw [va_up_ne RC _ (by have := i2.1; omega)] at e
        exact e
    have hn : F g ≠ none := by
      rcases hold with ⟨j, hj, e⟩ | ⟨j, hj, e⟩
      · rw [← e]; exact (i1.2.1 j (by have := i1.1; omega)).2
      · rw [← e]; exact (i2.2.1 j (by have := i2.1; omega)).2
    exact k6 g c hn (fun _ r h1 h2 c1 h3 => i6 g c1 hold h3 r h1 h2) hc
/-- one queue when its first is taken -/
theorem rt_qI_take {P : Nat → Bool} {F : Nat → Option Nat} {R : Nat → Nat} {hd tl M c M' L : Nat} (I : rt_qI P F R hd tl M) (hl : hd < tl) (hc : F (R hd) = some c) (hL : ∀ r, P r = true → rt_ln r = L) (hM : M' = c + L) : rt_qI P F R (hd + 1) tl M' := by
  obtain ⟨i1, i2, i3, i4, i5, i6⟩ := I
  refine ⟨hl, i2, i3, i4, i5, ?_⟩
  intro j a h1 h2 ha
  have := i5 hd j c a (by omega) h2 hc ha
  rw [hL _ (i2 j h2).1]
  omega
/-- the other queue, when one is taken whose way is no longer than its own first -/
theorem rt_qI_wait {P : Nat → Bool} {F : Nat → Option Nat} {R : Nat → Nat} {hd tl M M' L : Nat} (I : rt_qI P F R hd tl M) (hL : ∀ r, P r = true → rt_ln r = L) (hM : ∀ c, hd < tl → F (R hd) = some c → M' ≤ c + L) : rt_qI P F R hd tl M' := by
  obtain ⟨i1, i2, i3, i4, i5, i6⟩ := I
  refine ⟨i1, i2, i3, i4, i5, ?_⟩
  intro j a h1 h2 ha
  cases hc : F (R hd) with
  | none => exact absurd hc (i2 hd (by omega)).2
  | some c =>
    have := i5 hd j c a h1 h2 hc ha
    have := hM c (by omega) hc
    rw [hL _ (i2 j h2).1]
    omega
theorem rt_cI_takeS {Q : Nat → Nat} {w h st : Nat} {F : Nat → Option Nat} {RS : Nat → Nat} {hS tS : Nat} {RC : Nat → Nat} {hC tC M c : Nat} {T : Nat → Prop} (I : rt_cI Q w h st F RS hS tS RC hC tC M T (fun _ _ => False)) (hl : hS < tS) (hc : F (RS hS) = some c) (ho : ∀ c', hC < tC → F (RC hC) = some c' → c + 16 ≤ c' + 12) :
    rt_cI Q w h st F RS (hS + 1) tS RC hC tC (c + 16) T (fun g _ => g = RS hS) := by
  obtain ⟨i1, i2, i3, i4, i5, i6⟩ := I
  have hMM : M ≤ c + 16 := by
    have := i1.2.2.2.2.2 hS c (Nat.le_refl _) hl hc
    rw [rt_ln_st (i1.2.1 hS hl).1] at this
    exact this
  refine ⟨rt_qI_take i1 hl hc (fun r => rt_ln_st) rfl, rt_qI_wait i2 (fun r => rt_ln_cv) ho, fun r x hx => ⟨(i3 r x hx).1, Nat.le_trans (i3 r x hx).2 hMM⟩, i4, i5, ?_⟩
  intro g x hg hx r h1 h2
  by_cases e : g = RS hS
  · exact Or.inr e
  · have : (∃ j, j < hS ∧ RS j = g) ∨ (∃ j, j < hC ∧ RC j = g) := by
      rcases hg with ⟨j, hj, e2⟩ | h
      · rcases Nat.lt_or_ge j hS with q | q
        · exact Or.inl ⟨j, q, e2⟩
        · have : j = hS := by omega
          subst this
          exact absurd e2.symm e
      · exact Or.inr h
    rcases i6 g x this hx r h1 h2 with h | h
    · exact Or.inl h
    · exact h.elim
theorem rt_cI_takeC {Q : Nat → Nat} {w h st : Nat} {F : Nat → Option Nat} {RS : Nat → Nat} {hS tS : Nat} {RC : Nat → Nat} {hC tC M c : Nat} {T : Nat → Prop} (I : rt_cI Q w h st F RS hS tS RC hC tC M T (fun _ _ => False)) (hl : hC < tC) (hc : F (RC hC) = some c) (ho : ∀ c', hS < tS → F (RS hS) = some c' → c + 12 ≤ c' + 16) :
    rt_cI Q w h st F RS hS tS RC (hC + 1) tC (c + 12) T (fun g _ => g = RC hC) := by
  obtain ⟨i1, i2, i3, i4, i5, i6⟩ := I
  have hMM : M ≤ c + 12 := by
    have := i2.2.2.2.2.2 hC c (Nat.le_refl _) hl hc
    rw [rt_ln_cv (i2.2.1 hC hl).1] at this
    exact this
  refine ⟨rt_qI_wait i1 (fun r => rt_ln_st) ho, rt_qI_take i2 hl hc (fun r => rt_ln_cv) rfl, fun r x hx => ⟨(i3 r x hx).1, Nat.le_trans (i3 r x hx).2 hMM⟩, i4, i5, ?_⟩
  intro g x hg hx r h1 h2
  by_cases e : g = RC hC
  · exact Or.inr e
  · have : (∃ j, j < hS ∧ RS j = g) ∨ (∃ j, j < hC ∧ RC j = g) := by
      rcases hg with h | ⟨j, hj, e2⟩
      · exact Or.inl h
      · rcases Nat.lt_or_ge j hC with q | q
        · exact Or.inr ⟨j, q, e2⟩
        · have : j = hC := by omega
          subst this
          exact absurd e2.symm e
    rcases i6 g x this hx r h1 h2 with h | h
    · exact Or.inl h
    · exact h.elim
/-- nothing waits any more: these are the costs -/
theorem rt_cI_end {Q : Nat → Nat} {w h st : Nat} {F : Nat → Option Nat} {RS : Nat → Nat} {tS : Nat} {RC : Nat → Nat} {tC M : Nat} (I : rt_cI Q w h st F RS tS tS RC tC tC M (fun _ => True) (fun _ _ => False)) : rt_isC Q w h st F := by
  obtain ⟨i1, i2, i3, i4, i5, i6⟩ := I
  refine ⟨fun r c hr => (i3 r c hr).1, fun r hr => i4 r hr trivial, ?_, i5⟩
  intro r f c h1 h2 h3 h4
  have hn : F f ≠ none := by rw [h4]; simp
  have : (∃ j, j < tS ∧ RS j = f) ∨ (∃ j, j < tC ∧ RC j = f) := by
    cases hs : rt_st f with
    | true => exact Or.inl (i1.2.2.1 f hs hn)
    | false => exact Or.inr (i2.2.2.1 f (by unfold rt_cv; rw [hs]; rfl) hn)
  rcases i6 f c this h4 r h1 h3 with h | h
  · exact h
  · exact h.elim
/-- so many different numbers under N are at most N -/
theorem rt_pig : ∀ (N m : Nat) (f : Nat → Nat), (∀ j, j < m → f j < N) → (∀ i j, i < m → j < m → f i = f j → i = j) → m ≤ N := by
  intro N
  induction N with
  | zero =>
    intro m f h1 _
    rcases Nat.eq_zero_or_pos m with h | h
    · omega
    · exact absurd (h1 0 h) (Nat.not_lt_zero _)
  | succ N ih =>
    intro m f h1 h2
    by_cases hx : ∃ j, j < m ∧ f j = N
    · obtain ⟨j0, hj0, e0⟩ := hx
      have := ih (m - 1) (fun j => if j < j0 then f j else f (j + 1)) ?_ ?_
      · omega
      · intro j hj
        split
        · have := h1 j (by omega)
          have : f j ≠ N := fun e => by have := h2 j j0 (by omega) hj0 (e.trans e0.symm); omega
          omega
        · have := h1 (j + 1) (by omega)
          have : f (j + 1) ≠ N := fun e => by have := h2 (j + 1) j0 (by omega) hj0 (e.trans e0.symm); omega
          omega
      · intro i j hi hj e
        split at e <;> split at e
        · exact h2 i j (by omega) (by omega) e
        · have := h2 i (j + 1) (by omega) (by omega) e; omega
        · have := h2 (i + 1) j (by omega) (by omega) e; omega
        · have := h2 (i + 1) (j + 1) (by omega) (by omega) e; omega
    · have := ih m f ?_ h2
      · omega
      · intro j hj
        have := h1 j hj
        have : f j ≠ N := fun e => hx ⟨j, hj, e⟩
        omega
theorem rt_capS {F : Nat → Option Nat} {R : Nat → Nat} {hd tl M n : Nat} (I : rt_qI rt_st F R hd tl M) (hn : ∀ r c, F r = some c → r < 12 * n) : tl ≤ 4 * n := by
  have hR : ∀ j, j < tl → R j < 12 * n ∧ R j % 12 < 4 := by
    intro j hj
    obtain ⟨h1, h2⟩ := I.2.1 j hj
    have h3 := of_decide_eq_true h1
    cases hc : F (R j) with
    | none => exact absurd hc h2
    | some c => exact ⟨hn _ _ hc, by omega⟩
  refine rt_pig (4 * n) tl (fun j => 4 * (R j / 12) + R j % 12) ?_ ?_
  · intro j hj
    have := hR j hj
    omega
  · intro i j hi hj e
    have h1 := hR i hi
    have h2 := hR j hj
    exact I.2.2.2.1 i j hi hj (by omega)
theorem rt_capC {F : Nat → Option Nat} {R : Nat → Nat} {hd tl M n : Nat} (I : rt_qI rt_cv F R hd tl M) (hn : ∀ r c, F r = some c → r < 12 * n) : tl ≤ 8 * n := by
  have hR : ∀ j, j < tl → R j < 12 * n ∧ 4 ≤ R j % 12 := by
    intro j hj
    obtain ⟨h1, h2⟩ := I.2.1 j hj
    unfold rt_cv rt_st at h1
    have h3 : ¬ R j / 2 % 6 < 2 := by simpa using h1
    cases hc : F (R j) with
    | none => exact absurd hc h2
    | some c => exact ⟨hn _ _ hc, by omega⟩
  refine rt_pig (8 * n) tl (fun j => 8 * (R j / 12) + (R j % 12 - 4)) ?_ ?_
  · intro j hj
    have := hR j hj
    omega
  · intro i j hi hj e
    have h1 := hR i hi
    have h2 := hR j hj
    exact I.2.2.2.1 i j hi hj (by omega)
end
section
/-! PURE: the reference's rounds come to the same costs; the cheapest next run; the route -/
def rt_E : Nat := 1000000000
/-- a cost as the reference's row has it -/
def rt_cE : Option Nat → Nat
  | none => rt_E
  | some c => c
/-- the reference's onward(run), over a list of followers -/
def rt_on (K : Nat → Nat) (l : List Nat) : Nat := l.foldl (fun b f => if K f < rt_E ∧ rt_ln f + K f < b then rt_ln f + K f else b) rt_E
theorem rt_on_app (K : Nat → Nat) (l : List Nat) (f : Nat) : rt_on K (l ++ [f]) = if K f < rt_E ∧ rt_ln f + K f < rt_on K l then rt_ln f + K f else rt_on K l := by
  unfold rt_on
  rw [List.foldl_append]
  rfl
theorem rt_on_le (K : Nat → Nat) (l : List Nat) : rt_on K l ≤ rt_E ∧ ∀ f, f ∈ l → K f < rt_E → rt_on K l ≤ rt_ln f + K f := by
  suffices H : ∀ (l2 : List Nat), rt_on K l2.reverse ≤ rt_E ∧ ∀ f, f ∈ l2.reverse → K f < rt_E → rt_on K l2.reverse ≤ rt_ln f + K f by
    have := H l.reverse
    rwa [List.reverse_reverse] at this
  intro l2
  induction l2 with
  | nil => exact ⟨Nat.le_refl _, fun f hf => by simp at hf⟩
  | cons a l ih =>
    rw [List.reverse_cons, rt_on_app]
    constructor
    · split
      · next h => have := ih.1; omega
      · exact ih.1
    · intro f hf hk
      rcases List.mem_append.mp hf with hf | hf
      · have := ih.2 f hf hk
        split <;> omega
      · rw [List.mem_singleton] at hf
        subst hf
        split <;> omega
theorem rt_on_at (K : Nat → Nat) (l : List Nat) : rt_on K l = rt_E ∨ ∃ f, f ∈ l ∧ K f < rt_E ∧ rt_on K l = rt_ln f + K f := by
  suffices H : ∀ (l2 : List Nat), rt_on K l2.reverse = rt_E ∨ ∃ f, f ∈ l2.reverse ∧ K f < rt_E ∧ rt_on K l2.reverse = rt_ln f + K f by
    have := H l.reverse
    rwa [List.reverse_reverse] at this
  intro l2
  induction l2 with
  | nil => exact Or.inl rfl
  | cons a l ih =>
    rw [List.reverse_cons, rt_on_app]
    split
    · next h => exact Or.inr ⟨a, by simp, h.1, rfl⟩
    · rcases ih with h | ⟨f, h1, h2, h3⟩
      · exact Or.inl h
      · exact Or.inr ⟨f, List.mem_append_left _ h1, h2, h3⟩
/-- the reference's row is never under the costs -/
def rt_lb (Q : Nat → Nat) (w h st : Nat) (C : Nat → Option Nat) (K : Nat → Nat) : Prop :=
  ∀ r, rt_op Q (w * h) r = true → rt_cE (C r) ≤ K r ∧ K r ≤ rt_E ∧ (rt_tg Q w h st r = true → K r = 0)
def rt_small (C : Nat → Option Nat) : Prop := ∀ r c, C r = some c → c ≤ 76800
theorem rt_lb_0 {Q : Nat → Nat} {w h st : Nat} {C : Nat → Option Nat} {K : Nat → Nat} (hC : rt_isC Q w h st C) (hs : rt_small C) (hK : ∀ r, rt_op Q (w * h) r = true → K r = if rt_tg Q w h st r = true then 0 else rt_E) : rt_lb Q w h st C K := by
  intro r hr
  rw [hK r hr]
  split
  · next ht => rw [hC.2.1 r ht]; exact ⟨Nat.le_refl _, Nat.zero_le _, fun _ => rfl⟩
  · next ht =>
    refine ⟨?_, Nat.le_refl _, fun h => absurd h ht⟩
    cases hc : C r with
    | none => exact Nat.le_refl _
    | some c => have := hs r c hc; show c ≤ rt_E; unfold rt_E; omega
theorem rt_lb_ne {Q : Nat → Nat} {w h st : Nat} {C : Nat → Option Nat} {K : Nat → Nat} (hC : rt_isC Q w h st C) (I : rt_lb Q w h st C K) {r : Nat} (hr : rt_op Q (w * h) r = true) : K r = 0 ↔ rt_tg Q w h st r = true := by
  constructor
  · intro h0
    have h1 := (I r hr).1
    cases hc : C r with
    | none => rw [hc] at h1; simp only [rt_cE, rt_E] at h1; omega
    | some c =>
      rw [hc] at h1
      simp only [rt_cE] at h1
      exact (rt_isC_pos hC).mp (by rw [hc]; congr 1; omega)
  · exact (I r hr).2.2
/-- what a run's onward says is no less than its cost -/
theorem rt_lb_on {Q : Nat → Nat} {w h st : Nat} {C : Nat → Option Nat} {K : Nat → Nat} (hC : rt_isC Q w h st C) (hs : rt_small C) (I : rt_lb Q w h st C K) {r : Nat} (hr : rt_op Q (w * h) r = true) (ht : rt_tg Q w h st r = false) : rt_cE (C r) ≤ rt_on K (rt_nx Q w h r) := by
  rcases rt_on_at K (rt_nx Q w h r) with e | ⟨f, h1, h2, h3⟩
  · rw [e]
    cases hc : C r with
    | none => exact Nat.le_refl _
    | some c => have := hs r c hc; show c ≤ rt_E; unfold rt_E; omega
  · have ho := (rt_mem_nx.mp h1).choose_spec.2.2
    have h4 := (I f ho).1
    cases hc : C f with
    | none => rw [hc] at h4; simp only [rt_cE] at h4; omega
    | some c =>
      rw [hc] at h4
      simp only [rt_cE] at h4
      obtain ⟨c', h5, h6⟩ := hC.2.2.1 r f c hr ht h1 hc
      rw [h5, h3]
      show c' ≤ _
      omega
theorem rt_lb_step {Q : Nat → Nat} {w h st : Nat} {C : Nat → Option Nat} {K : Nat → Nat} (hC : rt_isC Q w h st C) (hs : rt_small C) (I : rt_lb Q w h st C K) {r : Nat} (hr : rt_op Q (w * h) r = true) (h0 : K r ≠ 0) (hlt : rt_on K (rt_nx Q w h r) < K r) : rt_lb Q w h st C (va_up K r (rt_on K (rt_nx Q w h r))) := by
  have ht : rt_tg Q w h st r = false := by
    cases ht : rt_tg Q w h st r with
    | false => rfl
    | true => exact absurd ((I r hr).2.2 ht) h0
  intro q hq
  by_cases e : q = r
  · subst e
    rw [va_up_self]
    exact ⟨rt_lb_on hC hs I hr ht, (rt_on_le _ _).1, fun h => by rw [ht] at h; cases h⟩
  · rw [va_up_ne K _ e]
    exact I q hq
/-- where no run's onward is less, the reference's row holds the costs -/
theorem rt_lb_end {Q : Nat → Nat} {w h st : Nat} {C : Nat → Option Nat} {K : Nat → Nat} (hC : rt_isC Q w h st C) (hs : rt_small C) (I : rt_lb Q w h st C K) (hx : ∀ r, rt_op Q (w * h) r = true → K r ≠ 0 → K r ≤ rt_on K (rt_nx Q w h r)) {r : Nat} (hr : rt_op Q (w * h) r = true) : K r = rt_cE (C r) := by
  cases hc : C r with
  | none =>
    have h1 := I r hr
    rw [hc] at h1
    exact Nat.le_antisymm h1.2.1 h1.1
  | some c0 =>
    suffices H : ∀ n r c, c ≤ n → C r = some c → K r ≤ c by
      have h1 := (I r hr).1
      rw [hc] at h1
      exact Nat.le_antisymm (H c0 r c0 (Nat.le_refl _) hc) h1
    intro n
    induction n with
    | zero =>
      intro r c h1 h2
      have ht : rt_tg Q w h st r = true := (rt_isC_pos hC).mp (by rw [h2]; congr 1; omega)
      rw [(I r (hC.1 r c h2)).2.2 ht]
      omega
    | succ n ih =>
      intro r c h1 h2
      have ho := hC.1 r c h2
      cases ht : rt_tg Q w h st r with
      | true => rw [(I r ho).2.2 ht]; omega
      | false =>
        obtain ⟨f, h3, c1, h4, h5⟩ := hC.2.2.2 r c h2 ht
        have hl := rt_ln_in f
        have h6 := ih f c1 (by omega) h4
        have h7 := hs f c1 h4
        by_cases h0 : K r = 0
        · omega
        · have h8 := hx r ho h0
          have h9 := (rt_on_le K (rt_nx Q w h r)).2 f h3 (by unfold rt_E; omega)
          omega
-- sums, for the rounds' end
def rt_sum (f : Nat → Nat) : Nat → Nat
  | 0 => 0
  | n + 1 => rt_sum f n + f n
theorem rt_sum_eq {f g : Nat → Nat} : ∀ n, (∀ j, j < n → f j = g j) → rt_sum f n = rt_sum g n := by
  intro n
  induction n with
  | zero => intro _; rfl
  | succ n ih =>
    intro h
    show rt_sum f n + f n = rt_sum g n + g n
    rw [ih (fun j hj => h j (by omega)), h n (by omega)]
theorem rt_sum_up {f : Nat → Nat} {k v : Nat} : ∀ n, k < n → rt_sum (va_up f k v) n + f k = rt_sum f n + v := by
  intro n
  induction n with
  | zero => intro h; omega
  | succ n ih =>
    intro h
    show rt_sum (va_up f k v) n + va_up f k v n + f k = rt_sum f n + f n + v
    by_cases e : k = n
    · subst e
      rw [va_up_self, rt_sum_eq (g := f) k (fun j hj => va_up_ne f _ (by omega))]
      omega
    · have := ih (by omega)
      rw [va_up_ne f _ (show n ≠ k from fun q => e q.symm)]
      omega
-- the cheapest next run: of several the first
def rt_bs (C : Nat → Option Nat) (b : Option Nat) (f : Nat) : Option Nat := match C f with
  | none => b
  | some c => match b with
    | none => some f
    | some g => if rt_ln f + c < rt_ln g + (C g).getD 0 then some f else some g
def rt_best (C : Nat → Option Nat) (l : List Nat) : Option Nat := l.foldl (rt_bs C) none
theorem rt_best_app (C : Nat → Option Nat) (l : List Nat) (f : Nat) : rt_best C (l ++ [f]) = rt_bs C (rt_best C l) f := by
  unfold rt_best
  rw [List.foldl_append]
  rfl
theorem rt_best_in (C : Nat → Option Nat) (l : List Nat) : match rt_best C l with
    | none => ∀ f, f ∈ l → C f = none
    | some g => g ∈ l ∧ ∃ c, C g = some c ∧ ∀ f d, f ∈ l → C f = some d → rt_ln g + c ≤ rt_ln f + d := by
  suffices H : ∀ (l2 : List Nat), match rt_best C l2.reverse with
    | none => ∀ f, f ∈ l2.reverse → C f = none
    | some g => g ∈ l2.reverse ∧ ∃ c, C g = some c ∧ ∀ f d, f ∈ l2.reverse → C f = some d → rt_ln g + c ≤ rt_ln f + d by
    have := H l.reverse
    rwa [List.reverse_reverse] at this
  intro l2
  induction l2 with
  | nil => intro f hf; simp at hf
  | cons a l ih =>
    rw [List.reverse_cons, rt_best_app]
    unfold rt_bs
    cases ha : C a with
    | none =>
      cases hb : rt_best C l.reverse with
      | none =>
        rw [hb] at ih
        simp only at ih ⊢
        intro f hf
        rcases List.mem_append.mp hf with hf | hf
        · exact ih f hf
        · rw [List.mem_singleton] at hf; rw [hf]; exact ha
      | some g =>
        rw [hb] at ih
        simp only at ih ⊢
        obtain ⟨h1, c, h2, h3⟩ := ih
        refine ⟨List.mem_append_left _ h1, c, h2, ?_⟩
        intro f d hf hd
        rcases List.mem_append.mp hf with hf | hf
        · exact h3 f d hf hd
        · rw [List.mem_singleton] at hf; rw [hf, ha] at hd; cases hd
    | some x =>
      cases hb : rt_best C l.reverse with
      | none =>
        rw [hb] at ih
        simp only at ih ⊢
        refine ⟨by simp, x, ha, ?_⟩
        intro f d hf hd
        rcases List.mem_append.mp hf with hf | hf
        · rw [ih f hf] at hd; cases hd
        · rw [List.mem_singleton] at hf; rw [hf, ha] at hd; cases hd; rw [hf]; exact Nat.le_refl _
      | some g =>
        rw [hb] at ih
        simp only at ih ⊢
        obtain ⟨h1, c, h2, h3⟩ := ih
        rw [h2]
        simp only [Option.getD_some]
        by_cases hlt : rt_ln a + x < rt_ln g + c
        · rw [if_pos hlt]
          dsimp only
          refine ⟨by simp, x, ha, ?_⟩
          intro f d hf hd
          rcases List.mem_append.mp hf with hf | hf
          · have := h3 f d hf hd; omega
          · rw [List.mem_singleton] at hf; rw [hf, ha] at hd; cases hd; rw [hf]; exact Nat.le_refl _
        · rw [if_neg hlt]
          dsimp only
          refine ⟨List.mem_append_left _ h1, c, h2, ?_⟩
          intro f d hf hd
          rcases List.mem_append.mp hf with hf | hf
          · exact h3 f d hf hd
          · rw [List.mem_singleton] at hf; rw [hf, ha] at hd; cases hd; rw [hf]; omega
/-- a run with a cost that is no target goes on to a cheaper one -/
theorem rt_best_on {Q : Nat → Nat} {w h st : Nat} {C : Nat → Option Nat} (hC : rt_isC Q w h st C) {r c : Nat} (hc : C r = some c) (h0 : c ≠ 0) : ∃ f c', rt_best C (rt_nx Q w h r) = some f ∧ f ∈ rt_nx Q w h r ∧ C f = some c' ∧ c' < c := by
  have ht : rt_tg Q w h st r = false := by
    cases ht : rt_tg Q w h st r with
    | false => rfl
    | true => rw [hC.2.1 r ht] at hc; cases hc; exact absurd rfl h0
  obtain ⟨f, h1, d, h2, h3⟩ := hC.2.2.2 r c hc ht
  have hb := rt_best_in C (rt_nx Q w h r)
  cases hz : rt_best C (rt_nx Q w h r) with
  | none => rw [hz] at hb; simp only at hb; rw [hb f h1] at h2; cases h2
  | some g =>
    rw [hz] at hb
    simp only at hb
    obtain ⟨h4, c', h5, h6⟩ := hb
    have := h6 f d h1 h2
    have := rt_ln_in g
    exact ⟨g, c', rfl, h4, h5, by omega⟩
/-- run k of the route from r on -/
def rt_rt (Q : Nat → Nat) (w h : Nat) (C : Nat → Option Nat) : Nat → Nat → Option Nat
  | 0, r => rt_best C (rt_nx Q w h r)
  | k + 1, r => match rt_best C (rt_nx Q w h r) with
    | none => none
    | some f => if (rt_hs Q f || decide (C f = some 0)) = true then none else rt_rt Q w h C k f
/-- how many runs are cheaper -/
def rt_rk (C : Nat → Option Nat) (N c : Nat) : Nat := (List.range N).countP (fun r => match C r with
  | none => false
  | some d => decide (d < c))
theorem rt_cnt_lt {p q : Nat → Bool} {x : Nat} : ∀ (l : List Nat), (∀ y, y ∈ l → p y = true → q y = true) → x ∈ l → p x = false → q x = true → l.countP p < l.countP q := by
  intro l
  induction l with
  | nil => intro _ h; cases h
  | cons a l ih =>
    intro h1 h2 h3 h4
    rw [List.countP_cons, List.countP_cons]
    rcases List.mem_cons.mp h2 with e | hx
    · subst e
      have := List.countP_mono_left (l := l) (p := p) (q := q) (fun y hy => h1 y (List.mem_cons_of_mem _ hy))
      rw [h3, h4]
      simp
      omega
    · have := ih (fun y hy => h1 y (List.mem_cons_of_mem _ hy)) hx h3 h4
      have h5 := h1 a List.mem_cons_self
      split
      · next hp => rw [h5 hp]; simp; omega
      · split <;> omega
theorem rt_rk_lt {C : Nat → Option Nat} {N f d c : Nat} (hf : f < N) (hd : C f = some d) (hlt : d < c) : rt_rk C N d < rt_rk C N c := by
  unfold rt_rk
  refine rt_cnt_lt (x := f) _ ?_ (List.mem_range.mpr hf) (by rw [hd]; simp) (by rw [hd]; simpa using hlt)
  intro y _ hy
  cases hz : C y with
  | none => rw [hz] at hy; cases hy
  | some z =>
    rw [hz] at hy
    simp only [decide_eq_true_eq] at hy ⊢
    omega
theorem rt_rk_le (C : Nat → Option Nat) (N c : Nat) : rt_rk C N c ≤ N := by
  unfold rt_rk
  have := List.countP_le_length (l := List.range N) (p := fun r => match C r with
    | none => false
    | some d => decide (d < c))
  rwa [List.length_range] at this
end
section
/-! PURE: blocks: touching pieces, the class's flooding, the reference's pile -/
def rt_ap (k : Nat) : Nat := [9, 9, 4, 5, 2, 3].getD k 9
def rt_meet (p q : Nat) : Prop := p / 6 = q / 6 ∧ rt_ap (p % 6) ≠ q % 6
def rt_acr (Q : Nat → Nat) (w h p d i q : Nat) : Prop := rt_hs Q (2 * p + d) = false ∧ ∃ a, rt_ah w h (2 * p + d) i = some a ∧ rt_hs Q (rt_rv a) = false ∧ a / 2 = q
def rt_tc (Q : Nat → Nat) (w h p q : Nat) : Prop := Q p ≠ 0 ∧ Q q ≠ 0 ∧ (rt_meet p q ∨ ∃ d i, d < 2 ∧ i < 3 ∧ rt_acr Q w h p d i q)
theorem rt_ap_symm : ∀ a, a < 6 → ∀ b, b < 6 → rt_ap a ≠ b → rt_ap b ≠ a := by decide +kernel
theorem rt_meet_symm {p q : Nat} (h : rt_meet p q) : rt_meet q p := ⟨h.1.symm, rt_ap_symm _ (Nat.mod_lt _ (by omega)) _ (Nat.mod_lt _ (by omega)) h.2⟩
theorem rt_tc_symm {Q : Nat → Nat} {w h p q : Nat} (hw : 0 < w) (hQ : rt_ok Q (6 * (w * h))) (ht : rt_tc Q w h p q) : rt_tc Q w h q p := by
  obtain ⟨h1, h2, h3 | ⟨d, i, hd, hi, h4, a, h5, h6, h7⟩⟩ := ht
  · exact ⟨h2, h1, Or.inl (rt_meet_symm h3)⟩
  · have hp := rt_ok_in hQ h1
    obtain ⟨-, -, j, hj, h8⟩ := rt_ah_back hw (show 2 * p + d < 12 * (w * h) by omega) hi h5
    have e1 : rt_rv a = 2 * q + rt_rv a % 2 := by
      have := rt_rv_2 a
      omega
    refine ⟨h2, h1, Or.inr ⟨rt_rv a % 2, j, Nat.mod_lt _ (by omega), hj, by rw [← e1]; exact h6, rt_rv (2 * p + d), by rw [← e1]; exact h8, by rw [rt_rv_rv]; exact h4, by rw [rt_rv_2]; omega⟩⟩
/-- B tells each piece's block by its lowest piece -/
def rt_cl (Q : Nat → Nat) (w h : Nat) (S : Nat → Prop) : Prop := ∀ x y, S x → rt_tc Q w h x y → S y
def rt_isB (Q : Nat → Nat) (w h : Nat) (B : Nat → Nat) : Prop :=
  (∀ p q, rt_tc Q w h p q → B p = B q) ∧ (∀ p, Q p ≠ 0 → B p ≤ p ∧ Q (B p) ≠ 0) ∧ (∀ p, Q p ≠ 0 → ∀ S : Nat → Prop, S p → rt_cl Q w h S → S (B p))
theorem rt_isB_B {Q : Nat → Nat} {w h : Nat} {B : Nat → Nat} (hB : rt_isB Q w h B) {p : Nat} (hp : Q p ≠ 0) : B (B p) = B p :=
  hB.2.2 p hp (fun x => B x = B p) rfl (fun x y hx ht => (hB.1 x y ht).symm.trans hx)
-- between two floods of the class: all pieces under x have their block
def rt_bI (Q : Nat → Nat) (w h : Nat) (F : Nat → Option Nat) (x : Nat) : Prop :=
  (∀ q b, F q = some b → Q q ≠ 0 ∧ b ≤ q ∧ b < x ∧ Q b ≠ 0 ∧ F b = some b ∧ ∀ S : Nat → Prop, S q → rt_cl Q w h S → S b) ∧
  (∀ q, q < x → Q q ≠ 0 → F q ≠ none) ∧ (∀ p q b, rt_tc Q w h p q → F p = some b → F q = some b)
theorem rt_bI_0 (Q : Nat → Nat) (w h : Nat) : rt_bI Q w h (fun _ => none) 0 :=
  ⟨fun q b h => (by cases h), fun q h => absurd h (Nat.not_lt_zero _), fun p q b _ h => (by cases h)⟩
theorem rt_bI_skip {Q : Nat → Nat} {w h x : Nat} {F : Nat → Option Nat} (I : rt_bI Q w h F x) (hx : Q x = 0 ∨ F x ≠ none) : rt_bI Q w h F (x + 1) := by
  obtain ⟨i1, i2, i3⟩ := I
  refine ⟨fun q b h => ?_, fun q hq h => ?_, i3⟩
  · obtain ⟨a1, a2, a3, a4⟩ := i1 q b h
    exact ⟨a1, a2, by omega, a4⟩
  · rcases Nat.lt_or_ge q x with z | z
    · exact i2 q z h
    · have : q = x := by omega
      subst this
      rcases hx with e | e
      · exact absurd e h
      · exact e
-- within a flood: the row R, places hd .. tl wait; pend: pieces that may still be wanting
def rt_fI (Q : Nat → Nat) (w h : Nat) (F0 : Nat → Option Nat) (x : Nat) (F : Nat → Option Nat) (R : Nat → Nat) (hd tl : Nat) (pend : Nat → Nat → Prop) : Prop :=
  hd ≤ tl ∧ (∀ j, j < tl → F (R j) = some x ∧ Q (R j) ≠ 0 ∧ F0 (R j) = none ∧ ∀ S : Nat → Prop, S (R j) → rt_cl Q w h S → S x) ∧ (∀ q, F q = some x → ∃ j, j < tl ∧ R j = q) ∧
  (∀ i j, i < tl → j < tl → R i = R j → i = j) ∧ (∀ q, F q ≠ some x → F q = F0 q) ∧
  (∀ j, j < hd → ∀ q, rt_tc Q w h (R j) q → F q = some x ∨ pend (R j) q) ∧ (0 < tl ∧ R 0 = x)
theorem rt_fI_0 {Q : Nat → Nat} {w h x : Nat} {F0 : Nat → Option Nat} {R : Nat → Nat} (I : rt_bI Q w h F0 x) (hx : Q x ≠ 0) (hn : F0 x = none) : rt_fI Q w h F0 x (va_up F0 x (some x)) (va_up R 0 x) 0 1 (fun _ _ => False) := by
  refine ⟨by omega, ?_, ?_, by intro i j h1 h2 _; omega, ?_, fun j h => absurd h (Nat.not_lt_zero _), by omega, va_up_self _ _ _⟩
  · intro j hj
    have : j = 0 := by omega
    subst this
    rw [va_up_self, va_up_self]
    exact ⟨rfl, hx, hn, fun S h _ => h⟩
  · intro q hq
    refine ⟨0, by omega, ?_⟩
    rw [va_up_self]
    by_cases e : q = x
    · exact e.symm
    · rw [va_up_ne F0 _ e] at hq
      have := (I.1 q x hq).2.2.1
      omega
  · intro q hq
    by_cases e : q = x
    · rw [e, va_up_self] at hq
      exact absurd rfl hq
    · rw [va_up_ne F0 _ e]
/-- what touches a piece of the flood is of it, or nowhere yet -/
theorem rt_fI_or {Q : Nat → Nat} {w h x hd tl : Nat} {F0 F : Nat → Option Nat} {R : Nat → Nat} {pend : Nat → Nat → Prop} (hw : 0 < w) (hQ : rt_ok Q (6 * (w * h))) (B : rt_bI Q w h F0 x) (I : rt_fI Q w h F0 x F R hd tl pend) {j q : Nat} (hj : j < tl) (ht : rt_tc Q w h (R j) q) : F q = none ∨ F q = some x := by
  by_cases e : F q = some x
  · exact Or.inr e
  · refine Or.inl ?_
    have h1 := I.2.2.2.2.1 q e
    rw [h1]
    cases h2 : F0 q with
    | none => rfl
    | some b =>
      have h3 := B.2.2 q (R j) b (rt_tc_symm hw hQ ht) h2
      rw [(I.2.1 j hj).2.2.1] at h3
      cases h3
theorem rt_fI_drop {Q : Nat → Nat} {w h x hd tl : Nat} {F0 F : Nat → Option Nat} {R : Nat → Nat} {pend pend' : Nat → Nat → Prop} (I : rt_fI Q w h F0 x F R hd tl pend) (hp : ∀ j q, j < hd → rt_tc Q w h (R j) q → pend (R j) q → F q = some x ∨ pend' (R j) q) : rt_fI Q w h F0 x F R hd tl pend' := by
  obtain ⟨i1, i2, i3, i4, i5, i6, i7⟩ := I
  refine ⟨i1, i2, i3, i4, i5, ?_, i7⟩
  intro j hj q ht
  rcases i6 j hj q ht with h | h
  · exact Or.inl h
  · exact hp j q hj ht h
theorem rt_fI_join {Q : Nat → Nat} {w h x hd tl : Nat} {F0 F : Nat → Option Nat} {R : Nat → Nat} {pend : Nat → Nat → Prop} (I : rt_fI Q w h F0 x F R hd tl pend) {j q : Nat} (hw : 0 < w) (hQ : rt_ok Q (6 * (w * h))) (hj : j < tl) (ht : rt_tc Q w h (R j) q) (hn : F q = none) : rt_fI Q w h F0 x (va_up F q (some x)) (va_up R tl q) hd (tl + 1) (fun g r => pend g r ∧ r ≠ q) := by
  obtain ⟨i1, i2, i3, i4, i5, i6, i7⟩ := I
  have nb : ∀ k, k < tl → R k ≠ q := fun k hk e => by have := (i2 k hk).1; rw [e, hn] at this; cases this
  have ho : ∀ k, k < tl → va_up R tl q k = R k := fun k hk => va_up_ne R q (by omega)
  have hF : ∀ k, k < tl → va_up F q (some x) (R k) = F (R k) := fun k hk => va_up_ne F _ (nb k hk)
  refine ⟨by omega, ?_, ?_, ?_, ?_, ?_, by omega, by rw [ho 0 i7.1]; exact i7.2⟩
  · intro k hk
    rcases Nat.lt_or_ge k tl with z | z
    · rw [ho k z, hF k z]
      exact i2 k z
    · have : k = tl := by omega
      subst this
      rw [va_up_self, va_up_self]
      refine ⟨rfl, ht.2.1, ?_, ?_⟩
      · have := i5 q (by rw [hn]; simp)
        rw [← this]
        exact hn
      · intro S hS hc
        exact (i2 j hj).2.2.2 S (hc q (R j) hS (rt_tc_symm hw hQ ht)) hc
  · intro p hp
    by_cases e : p = q
    · exact ⟨tl, by omega, by rw [va_up_self, e]⟩
    · rw [va_up_ne F _ e] at hp
      obtain ⟨k, hk, e2⟩ := i3 p hp
      exact ⟨k, by omega, by rw [ho k hk]; exact e2⟩
  · intro a b ha hb e
    rcases Nat.lt_or_ge a tl with z | z <;> rcases Nat.lt_or_ge b tl with z2 | z2
    · rw [ho a z, ho b z2] at e
      exact i4 a b z z2 e
    · have : b = tl := by omega
      subst this
      rw [ho a z, va_up_self] at e
      exact absurd e (nb a z)
    · have : a = tl := by omega
      subst this
      rw [ho b z2, va_up_self] at e
      exact absurd e.symm (nb b z2)
    · omega
  · intro p hp
    by_cases e : p = q
    · rw [e, va_up_self] at hp
      exact absurd rfl hp
    · rw [va_up_ne F _ e] at hp ⊢
      exact i5 p hp
  · intro k hk p hp
    rw [ho k (by omega)] at hp ⊢
    by_cases e : p = q
    · exact Or.inl (by rw [e, va_up_self])
    · rw [va_up_ne F _ e]
      rcases i6 k hk p hp with h | h
      · exact Or.inl h
      · exact Or.inr ⟨h, e⟩
theorem rt_fI_take {Q : Nat → Nat} {w h x hd tl : Nat} {F0 F : Nat → Option Nat} {R : Nat → Nat} (I : rt_fI Q w h F0 x F R hd tl (fun _ _ => False)) (hl : hd < tl) : rt_fI Q w h F0 x F R (hd + 1) tl (fun g _ => g = R hd) := by
  obtain ⟨i1, i2, i3, i4, i5, i6, i7⟩ := I
  refine ⟨hl, i2, i3, i4, i5, ?_, i7⟩
  intro j hj q ht
  rcases Nat.lt_or_ge j hd with z | z
  · rcases i6 j z q ht with h | h
    · exact Or.inl h
    · exact h.elim
  · exact Or.inr (by rw [show j = hd by omega])
theorem rt_fI_cap {Q : Nat → Nat} {w h x hd tl : Nat} {F0 F : Nat → Option Nat} {R : Nat → Nat} {pend : Nat → Nat → Prop} (hQ : rt_ok Q (6 * (w * h))) (I : rt_fI Q w h F0 x F R hd tl pend) : tl ≤ 6 * (w * h) :=
  rt_pig _ tl R (fun j hj => rt_ok_in hQ (I.2.1 j hj).2.1) I.2.2.2.1
/-- a flood's end -/
theorem rt_fI_end {Q : Nat → Nat} {w h x tl : Nat} {F0 F : Nat → Option Nat} {R : Nat → Nat} (B : rt_bI Q w h F0 x) (I : rt_fI Q w h F0 x F R tl tl (fun _ _ => False)) : rt_bI Q w h F (x + 1) ∧ F x = some x ∧ ∀ q, q < x → F q = F0 q := by
  obtain ⟨i1, i2, i3, i4, i5, i6, i7⟩ := I
  have hge : ∀ j, j < tl → x ≤ R j := by
    intro j hj
    rcases Nat.lt_or_ge (R j) x with z | z
    · exact absurd (i2 j hj).2.2.1 (B.2.1 _ z (i2 j hj).2.1)
    · exact z
  have hx : F x = some x := by
    have := (i2 0 i7.1).1
    rwa [i7.2] at this
  have hQx : Q x ≠ 0 := by
    have := (i2 0 i7.1).2.1
    rwa [i7.2] at this
  have hold : ∀ q b, F0 q = some b → F q = some b := by
    intro q b hq
    by_cases e : F q = some x
    · obtain ⟨j, hj, e2⟩ := i3 q e
      have := (i2 j hj).2.2.1
      rw [e2, hq] at this
      cases this
    · rw [i5 q e]
      exact hq
  refine ⟨⟨?_, ?_, ?_⟩, hx, ?_⟩
  · intro q b hq
    by_cases e : F q = some x
    · rw [e] at hq
      cases hq
      obtain ⟨j, hj, e2⟩ := i3 q e
      obtain ⟨a1, a2, a3, a4⟩ := i2 j hj
      have a5 := hge j hj
      rw [e2] at a2 a4 a5
      exact ⟨a2, a5, by omega, hQx, hx, a4⟩
    · rw [i5 q e] at hq
      obtain ⟨a1, a2, a3, a4, a5, a6⟩ := B.1 q b hq
      exact ⟨a1, a2, by omega, a4, hold b b a5, a6⟩
  · intro q hq h1 h2
    by_cases e : q = x
    · rw [e, hx] at h2
      cases h2
    · have h3 := B.2.1 q (by omega) h1
      cases h4 : F0 q with
      | none => exact h3 h4
      | some b => rw [hold q b h4] at h2; cases h2
  · intro p q b ht hp
    by_cases e : F p = some x
    · rw [e] at hp
      cases hp
      obtain ⟨j, hj, e2⟩ := i3 p e
      rw [← e2] at ht
      rcases i6 j hj q ht with h | h
      · exact h
      · exact h.elim
    · rw [i5 p e] at hp
      exact hold q b (B.2.2 p q b ht hp)
  · intro q hq
    by_cases e : F q = some x
    · obtain ⟨j, hj, e2⟩ := i3 q e
      have := hge j hj
      omega
    · exact i5 q e
/-- how many lowest pieces there are under x -/
def rt_cB (F : Nat → Option Nat) (x : Nat) : Nat := (List.range x).countP (fun q => decide (F q = some q))
theorem rt_cB_succ (F : Nat → Option Nat) (x : Nat) : rt_cB F (x + 1) = rt_cB F x + (if F x = some x then 1 else 0) := by
  unfold rt_cB
  rw [List.range_succ, List.countP_append]
  congr 1
  simp only [List.countP_cons, List.countP_nil]
  split <;> split <;> simp_all
theorem rt_cB_eq {F G : Nat → Option Nat} {x : Nat} (h : ∀ q, q < x → F q = G q) : rt_cB F x = rt_cB G x := by
  unfold rt_cB
  refine List.countP_congr ?_
  intro q hq
  rw [h q (List.mem_range.mp hq)]
def rt_nB (Q : Nat → Nat) (N : Nat) (B : Nat → Nat) : Nat := (List.range N).countP (fun q => decide (Q q ≠ 0) && decide (B q = q))
/-- all floods done -/
theorem rt_bI_end {Q : Nat → Nat} {w h : Nat} {F : Nat → Option Nat} (hQ : rt_ok Q (6 * (w * h))) (I : rt_bI Q w h F (6 * (w * h))) : rt_isB Q w h (fun q => (F q).getD 0) ∧ rt_cB F (6 * (w * h)) = rt_nB Q (6 * (w * h)) (fun q => (F q).getD 0) ∧ ∀ q, F q = if Q q ≠ 0 then some ((F q).getD 0) else none := by
  obtain ⟨i1, i2, i3⟩ := I
  have hs : ∀ q, Q q ≠ 0 → ∃ b, F q = some b := by
    intro q hq
    cases h : F q with
    | none => exact absurd h (i2 q (rt_ok_in hQ hq) hq)
    | some b => exact ⟨b, rfl⟩
  have hall : ∀ q, F q = if Q q ≠ 0 then some ((F q).getD 0) else none := by
    intro q
    cases h : F q with
    | none =>
      by_cases e : Q q = 0
      · simp [e]
      · obtain ⟨b, hb⟩ := hs q e
        rw [hb] at h
        cases h
    | some b => rw [if_pos (i1 q b h).1]; rfl
  refine ⟨⟨?_, ?_, ?_⟩, ?_, hall⟩
  · intro p q ht
    obtain ⟨b, hb⟩ := hs p ht.1
    simp only
    rw [i3 p q b ht hb, hb]
  · intro p hp
    obtain ⟨b, hb⟩ := hs p hp
    obtain ⟨a1, a2, a3, a4, a5, a6⟩ := i1 p b hb
    simp only
    rw [hb]
    exact ⟨a2, a4⟩
  · intro p hp S hS hc
    obtain ⟨b, hb⟩ := hs p hp
    simp only
    rw [hb]
    exact (i1 p b hb).2.2.2.2.2 S hS hc
  · unfold rt_cB rt_nB
    refine List.countP_congr ?_
    intro q _
    simp only [Bool.and_eq_true, decide_eq_true_eq]
    constructor
    · intro h
      exact ⟨(i1 q q h).1, by rw [h]; rfl⟩
    · rintro ⟨h1, h2⟩
      obtain ⟨b, hb⟩ := hs q h1
      rw [hb] at h2 ⊢
      simp only [Option.getD_some] at h2
      rw [h2]
end
section
/-! PURE: the reference's touch, its pile, its list of pieces -/
def rt_sg (Q : Nat → Nat) (p : Nat) : Nat := 2 * p + (rt_g Q p - 1) % 2
def rt_gu (Q : Nat → Nat) (p e : Nat) : Bool := decide (rt_g Q p ≠ 0) && decide (rt_mt (rt_sg Q p % 12) = e)
def rt_en (p e : Nat) : Bool := decide (rt_ed (2 * (p % 6)) = e) || decide (rt_ed (2 * (p % 6) + 1) = e)
def rt_km (a b : Nat) : Bool := !(decide (a + b = 6) && decide (a ≠ b) && (decide (a = 2) || decide (a = 4))) && !(decide (a + b = 8) && decide (a ≠ b) && (decide (a = 3) || decide (a = 5)))
def rt_te (Q : Nat → Nat) (w h p q e : Nat) : Bool := decide (rt_nb w h (p / 6) (rt_tr e) = some (q / 6)) && rt_en p e && rt_en q (rt_mo e) && !(rt_gu Q p e) && !(rt_gu Q q (rt_mo e))
def rt_tm (Q : Nat → Nat) (w h p q : Nat) : Bool := if p / 6 = q / 6 then rt_km (p % 6) (q % 6) else (List.range 4).any (rt_te Q w h p q)
theorem rt_km_ap : ∀ a, a < 6 → ∀ b, b < 6 → (rt_km a b = true ↔ rt_ap a ≠ b) := by decide +kernel
theorem rt_l1 : ∀ l, l < 12 → ∀ l', l' < 12 → rt_mt l' = rt_mo (rt_mt l) → ∃ i, i < 3 ∧ rt_bg (3 * rt_to l + i) = rt_rv l' := by decide +kernel
theorem rt_l2 : ∀ l, l < 12 → ∀ i, i < 3 → rt_mt (rt_rv (rt_bg (3 * rt_to l + i))) = rt_mo (rt_mt l) := by decide +kernel
theorem rt_l3 : ∀ k, k < 6 → ∀ e, e < 4 → ((decide (rt_ed (2 * k) = e) || decide (rt_ed (2 * k + 1) = e)) = true ↔ ∃ d, d < 2 ∧ rt_mt (2 * k + d) = e) := by decide +kernel
theorem rt_l4 : ∀ k, k < 6 → ∀ d, d < 2 → ∀ d', d' < 2 → rt_mt (2 * k + d) = rt_mt (2 * k + d') → d = d' := by decide +kernel
theorem rt_en_iff {p e : Nat} (he : e < 4) : rt_en p e = true ↔ ∃ d, d < 2 ∧ rt_mt (2 * (p % 6) + d) = e := rt_l3 (p % 6) (Nat.mod_lt _ (by omega)) e he
theorem rt_mo_lt : ∀ e, e < 4 → rt_mo e < 4 := by decide +kernel
/-- a piece guards the edge to which its run d goes just if its signal is for that run -/
theorem rt_gu_hs {Q : Nat → Nat} {p d e : Nat} (hd : d < 2) (he : rt_mt (2 * (p % 6) + d) = e) : rt_gu Q p e = rt_hs Q (2 * p + d) := by
  unfold rt_gu rt_hs rt_sg
  have e1 : (2 * p + d) / 2 = p := by omega
  have e2 : (2 * p + d) % 2 = d := by omega
  have e3 : (2 * p + (rt_g Q p - 1) % 2) % 12 = 2 * (p % 6) + (rt_g Q p - 1) % 2 := by omega
  rw [e1, e2, e3]
  congr 1
  rw [← he]
  have h6 : p % 6 < 6 := Nat.mod_lt _ (by omega)
  have h2 : (rt_g Q p - 1) % 2 < 2 := Nat.mod_lt _ (by omega)
  have := rt_l4 (p % 6) h6 _ h2 d hd
  by_cases c : (rt_g Q p - 1) % 2 = d
  · rw [c]; simp
  · have hne : ¬ rt_mt (2 * (p % 6) + (rt_g Q p - 1) % 2) = rt_mt (2 * (p % 6) + d) := fun z => c (this z)
    simp [c, hne]
theorem rt_tm_tc {Q : Nat → Nat} {w h p q : Nat} (hw : 0 < w) (hQ : rt_ok Q (6 * (w * h))) (hp : Q p ≠ 0) (hq : Q q ≠ 0) : rt_tm Q w h p q = true ↔ rt_tc Q w h p q := by
  have hp6 := rt_ok_in hQ hp
  have hq6 := rt_ok_in hQ hq
  have hpk : p % 6 < 6 := Nat.mod_lt _ (by omega)
  have hqk : q % 6 < 6 := Nat.mod_lt _ (by omega)
  unfold rt_tm
  by_cases hs : p / 6 = q / 6
  · rw [if_pos hs, rt_km_ap _ hpk _ hqk]
    constructor
    · intro h1
      exact ⟨hp, hq, Or.inl ⟨hs, h1⟩⟩
    · rintro ⟨-, -, h1 | ⟨d, i, hd, hi, -, a, h2, -, h3⟩⟩
      · exact h1.2
      · have := (rt_ah_back hw (show 2 * p + d < 12 * (w * h) by omega) hi h2).2.1
        omega
  · rw [if_neg hs, List.any_eq_true]
    constructor
    · rintro ⟨e, he, h1⟩
      have he4 := List.mem_range.mp he
      unfold rt_te at h1
      simp only [Bool.and_eq_true, decide_eq_true_eq, Bool.not_eq_true'] at h1
      obtain ⟨⟨⟨⟨h1, h2⟩, h3⟩, h4⟩, h5⟩ := h1
      obtain ⟨d, hd, h6⟩ := (rt_en_iff he4).mp h2
      obtain ⟨d', hd', h7⟩ := (rt_en_iff (rt_mo_lt e he4)).mp h3
      rw [rt_gu_hs hd h6] at h4
      rw [rt_gu_hs hd' h7] at h5
      obtain ⟨i, hi, h8⟩ := rt_l1 (2 * (p % 6) + d) (by omega) (2 * (q % 6) + d') (by omega) (by rw [h6]; exact h7)
      refine ⟨hp, hq, Or.inr ⟨d, i, hd, hi, h4, 12 * (q / 6) + rt_rv (2 * (q % 6) + d'), ?_, ?_, ?_⟩⟩
      · unfold rt_ah
        have e1 : (2 * p + d) / 12 = p / 6 := by omega
        have e2 : (2 * p + d) % 12 = 2 * (p % 6) + d := by omega
        rw [e1, e2, ← rt_tr_to _ (show 2 * (p % 6) + d < 12 by omega), h6, h1]
        show some _ = some _
        rw [← h6, rt_tr_to _ (show 2 * (p % 6) + d < 12 by omega), h8]
      · rw [← rt_rv_add, rt_rv_rv]
        have e3 : 12 * (q / 6) + (2 * (q % 6) + d') = 2 * q + d' := by omega
        rw [e3]
        exact h5
      · rw [← rt_rv_add, rt_rv_2]
        omega
    · rintro ⟨-, -, h1 | ⟨d, i, hd, hi, h4, a, h2, h5, h3⟩⟩
      · exact absurd h1.1 hs
      · obtain ⟨t, h6, rfl⟩ := rt_ah_some h2
        have e1 : (2 * p + d) / 12 = p / 6 := by omega
        have e2 : (2 * p + d) % 12 = 2 * (p % 6) + d := by omega
        have hl : 2 * (p % 6) + d < 12 := by omega
        rw [e1, e2] at h6
        rw [e2] at h5 h3
        have hb := rt_bgi_lt hl hi
        have h7 := rt_l2 _ hl i hi
        generalize hbe : rt_bg (3 * rt_to (2 * (p % 6) + d) + i) = bb at *
        have hb2 : rt_rv bb < 12 := by have := rt_rv_lt (n := 1) (r := bb) (by omega); omega
        have e4 : t = q / 6 := by omega
        have e5 : rt_rv bb / 2 = q % 6 := by have := rt_rv_2 bb; omega
        have e6 : rt_rv bb = 2 * (q % 6) + rt_rv bb % 2 := by omega
        rw [rt_rv_add] at h5
        have e7 : 12 * t + rt_rv bb = 2 * q + rt_rv bb % 2 := by omega
        rw [e7] at h5
        have hm2 : rt_rv bb % 2 < 2 := Nat.mod_lt _ (by omega)
        have he4 := (rt_mt_lt _ hl).1
        rw [e6] at h7
        refine ⟨rt_mt (2 * (p % 6) + d), List.mem_range.mpr he4, ?_⟩
        unfold rt_te
        simp only [Bool.and_eq_true, decide_eq_true_eq, Bool.not_eq_true']
        refine ⟨⟨⟨⟨?_, ?_⟩, ?_⟩, ?_⟩, ?_⟩
        · rw [rt_tr_to _ hl, h6, e4]
        · exact (rt_en_iff he4).mpr ⟨d, hd, rfl⟩
        · exact (rt_en_iff (rt_mo_lt _ he4)).mpr ⟨rt_rv bb % 2, hm2, h7⟩
        · rw [rt_gu_hs hd rfl]; exact h4
        · rw [rt_gu_hs hm2 h7]; exact h5
-- the reference's pile: k of size places are done
def rt_pI (Q : Nat → Nat) (w h : Nat) (B : Nat → Nat) (Z0 : Nat → Bool) (p : Nat) (Z : Nat → Bool) (R : Nat → Nat) (k sz least : Nat) (pend : Nat → Nat → Prop) : Prop :=
  k ≤ sz ∧ (0 < sz ∧ R 0 = p) ∧ (∀ j, j < sz → Q (R j) ≠ 0 ∧ B (R j) = B p ∧ Z0 (R j) = false) ∧ (∀ i j, i < sz → j < sz → R i = R j → i = j) ∧
  (∀ q, Z q = true ↔ (Z0 q = true ∨ ∃ j, j < sz ∧ R j = q)) ∧ (∀ j, j < k → ∀ q, rt_tc Q w h (R j) q → Z q = true ∨ pend (R j) q) ∧ ((∃ j, j < sz ∧ R j = least) ∧ ∀ j, j < sz → least ≤ R j)
theorem rt_pI_0 {Q : Nat → Nat} {w h : Nat} {B : Nat → Nat} {Z0 : Nat → Bool} {p : Nat} {R : Nat → Nat} (hp : Q p ≠ 0) (hz : Z0 p = false) : rt_pI Q w h B Z0 p (va_up Z0 p true) (va_up R 0 p) 0 1 p (fun _ _ => False) := by
  refine ⟨by omega, ⟨by omega, va_up_self _ _ _⟩, ?_, by intro i j _ _ _; omega, ?_, fun j h => absurd h (Nat.not_lt_zero _), ⟨0, by omega, va_up_self _ _ _⟩, ?_⟩
  · intro j hj
    rw [show j = 0 by omega, va_up_self]
    exact ⟨hp, rfl, hz⟩
  · intro q
    by_cases e : q = p
    · subst e
      rw [va_up_self]
      exact ⟨fun _ => Or.inr ⟨0, by omega, va_up_self _ _ _⟩, fun _ => rfl⟩
    · rw [va_up_ne Z0 _ e]
      constructor
      · exact Or.inl
      · rintro (h1 | ⟨j, hj, e2⟩)
        · exact h1
        · rw [show j = 0 by omega, va_up_self] at e2
          exact absurd e2.symm e
  · intro j hj
    rw [show j = 0 by omega, va_up_self]
    exact Nat.le_refl _
theorem rt_pI_drop {Q : Nat → Nat} {w h : Nat} {B : Nat → Nat} {Z0 Z : Nat → Bool} {p : Nat} {R : Nat → Nat} {k sz least : Nat} {pend pend' : Nat → Nat → Prop} (I : rt_pI Q w h B Z0 p Z R k sz least pend) (hp : ∀ j q, j < k → rt_tc Q w h (R j) q → pend (R j) q → Z q = true ∨ pend' (R j) q) : rt_pI Q w h B Z0 p Z R k sz least pend' := by
  obtain ⟨i1, i2, i3, i4, i5, i6, i7⟩ := I
  refine ⟨i1, i2, i3, i4, i5, ?_, i7⟩
  intro j hj q ht
  rcases i6 j hj q ht with h | h
  · exact Or.inl h
  · exact hp j q hj ht h
theorem rt_pI_take {Q : Nat → Nat} {w h : Nat} {B : Nat → Nat} {Z0 Z : Nat → Bool} {p : Nat} {R : Nat → Nat} {k sz least : Nat} (I : rt_pI Q w h B Z0 p Z R k sz least (fun _ _ => False)) (hl : k < sz) : rt_pI Q w h B Z0 p Z R (k + 1) sz least (fun g _ => g = R k) := by
  obtain ⟨i1, i2, i3, i4, i5, i6, i7⟩ := I
  refine ⟨hl, i2, i3, i4, i5, ?_, i7⟩
  intro j hj q ht
  rcases Nat.lt_or_ge j k with z | z
  · rcases i6 j z q ht with h | h
    · exact Or.inl h
    · exact h.elim
  · exact Or.inr (by rw [show j = k by omega])
theorem rt_pI_join {Q : Nat → Nat} {w h : Nat} {B : Nat → Nat} {Z0 Z : Nat → Bool} {p : Nat} {R : Nat → Nat} {k sz least : Nat} {pend : Nat → Nat → Prop} (hB : rt_isB Q w h B) (I : rt_pI Q w h B Z0 p Z R k sz least pend) {j q : Nat} (hj : j < sz) (ht : rt_tc Q w h (R j) q) (hn : Z q = false) : rt_pI Q w h B Z0 p (va_up Z q true) (va_up R sz q) k (sz + 1) (if q < least then q else least) (fun g r => pend g r ∧ r ≠ q) := by
  obtain ⟨i1, i2, i3, i4, i5, i6, i7⟩ := I
  have hq0 : Z0 q = false := by
    cases hz : Z0 q with
    | false => rfl
    | true => rw [(i5 q).mpr (Or.inl hz)] at hn; cases hn
  have nb : ∀ a, a < sz → R a ≠ q := fun a ha e => by rw [(i5 q).mpr (Or.inr ⟨a, ha, e⟩)] at hn; cases hn
  have ho : ∀ a, a < sz → va_up R sz q a = R a := fun a ha => va_up_ne R q (by omega)
  refine ⟨by omega, ⟨by omega, by rw [ho 0 i2.1]; exact i2.2⟩, ?_, ?_, ?_, ?_, ?_, ?_⟩
  · intro a ha
    rcases Nat.lt_or_ge a sz with z | z
    · rw [ho a z]
      exact i3 a z
    · rw [show a = sz by omega, va_up_self]
      exact ⟨ht.2.1, by rw [← hB.1 _ _ ht]; exact (i3 j hj).2.1, hq0⟩
  · intro a b ha hb e
    rcases Nat.lt_or_ge a sz with z | z <;> rcases Nat.lt_or_ge b sz with z2 | z2
    · rw [ho a z, ho b z2] at e
      exact i4 a b z z2 e
    · rw [show b = sz by omega, ho a z, va_up_self] at e
      exact absurd e (nb a z)
    · rw [show a = sz by omega, ho b z2, va_up_self] at e
      exact absurd e.symm (nb b z2)
    · omega
  · intro x
    by_cases e : x = q
    · subst e
      rw [va_up_self]
      exact ⟨fun _ => Or.inr ⟨sz, by omega, va_up_self _ _ _⟩, fun _ => rfl⟩
    · rw [va_up_ne Z _ e, i5 x]
      constructor
      · rintro (h1 | ⟨a, ha, e2⟩)
        · exact Or.inl h1
        · exact Or.inr ⟨a, by omega, by rw [ho a ha]; exact e2⟩
      · rintro (h1 | ⟨a, ha, e2⟩)
        · exact Or.inl h1
        · rcases Nat.lt_or_ge a sz with z | z
          · exact Or.inr ⟨a, z, by rw [ho a z] at e2; exact e2⟩
          · rw [show a = sz by omega, va_up_self] at e2
            exact absurd e2.symm e
  · intro a ha x hx
    rw [ho a (by omega)] at hx ⊢
    by_cases e : x = q
    · exact Or.inl (by rw [e, va_up_self])
    · rw [va_up_ne Z _ e]
      rcases i6 a ha x hx with h | h
      · exact Or.inl h
      · exact Or.inr ⟨h, e⟩
  · split
    · exact ⟨sz, by omega, va_up_self _ _ _⟩
    · obtain ⟨a, ha, e⟩ := i7.1
      exact ⟨a, by omega, by rw [ho a ha]; exact e⟩
  · intro a ha
    rcases Nat.lt_or_ge a sz with z | z
    · rw [ho a z]
      have := i7.2 a z
      split <;> omega
    · rw [show a = sz by omega, va_up_self]
      split <;> omega
theorem rt_pI_cap {Q : Nat → Nat} {w h : Nat} {B : Nat → Nat} {Z0 Z : Nat → Bool} {p : Nat} {R : Nat → Nat} {k sz least : Nat} {pend : Nat → Nat → Prop} (hQ : rt_ok Q (6 * (w * h))) (I : rt_pI Q w h B Z0 p Z R k sz least pend) : sz ≤ 6 * (w * h) :=
  rt_pig _ sz R (fun j hj => rt_ok_in hQ (I.2.2.1 j hj).1) I.2.2.2.1
/-- what has been reached is closed -/
def rt_zc (Q : Nat → Nat) (w h : Nat) (Z : Nat → Bool) : Prop := rt_cl Q w h (fun q => Z q = true)
theorem rt_pI_end {Q : Nat → Nat} {w h : Nat} {B : Nat → Nat} {Z0 Z : Nat → Bool} {p : Nat} {R : Nat → Nat} {sz least : Nat} (hw : 0 < w) (hQ : rt_ok Q (6 * (w * h))) (hB : rt_isB Q w h B) (h0 : rt_zc Q w h Z0) (I : rt_pI Q w h B Z0 p Z R sz sz least (fun _ _ => False)) : least = B p ∧ rt_zc Q w h Z ∧ ∀ q, Q q ≠ 0 → (Z q = true ↔ (Z0 q = true ∨ B q = B p)) := by
  obtain ⟨i1, i2, i3, i4, i5, i6, i7⟩ := I
  have hcl : rt_cl Q w h (fun x => ∃ j, j < sz ∧ R j = x) := by
    rintro x y ⟨j, hj, rfl⟩ ht
    rcases i6 j hj y ht with h1 | h1
    · rcases (i5 y).mp h1 with h2 | h2
      · have h3 : Z0 (R j) = true := h0 y (R j) h2 (rt_tc_symm hw hQ ht)
        rw [(i3 j hj).2.2] at h3
        cases h3
      · exact h2
    · exact h1.elim
  have hp0 : Q p ≠ 0 := by
    have := (i3 0 i2.1).1
    rwa [i2.2] at this
  have hBp := hB.2.2 p hp0 _ ⟨0, i2.1, i2.2⟩ hcl
  refine ⟨?_, ?_, ?_⟩
  · obtain ⟨a, ha, e⟩ := hBp
    obtain ⟨b, hb, e2⟩ := i7.1
    have h1 := i7.2 a ha
    have h2 := (hB.2.1 (R b) (i3 b hb).1).1
    rw [(i3 b hb).2.1] at h2
    omega
  · intro x y hx ht
    rcases (i5 x).mp hx with h1 | h1
    · exact (i5 y).mpr (Or.inl (h0 x y h1 ht))
    · exact (i5 y).mpr (Or.inr (hcl x y h1 ht))
  · intro q hq
    rw [i5 q]
    constructor
    · rintro (h1 | ⟨j, hj, rfl⟩)
      · exact Or.inl h1
      · exact Or.inr (i3 j hj).2.1
    · rintro (h1 | h1)
      · exact Or.inl h1
      · refine Or.inr ?_
        by_cases hx : ∃ j, j < sz ∧ R j = q
        · exact hx
        · have := hB.2.2 q hq (fun x => ¬ ∃ j, j < sz ∧ R j = x) hx (fun x y hn ht hy => hn (hcl y x hy (rt_tc_symm hw hQ ht)))
          rw [h1] at this
          exact absurd hBp this
-- the list of the pieces
def rt_isL (Q : Nat → Nat) (L : Nat → Nat) (c : Nat) : Prop := (∀ i, i < c → Q (L i) ≠ 0) ∧ (∀ i j, i < c → j < c → L i = L j → i = j) ∧ ∀ p, Q p ≠ 0 → ∃ i, i < c ∧ L i = p
theorem rt_isL_cap {Q : Nat → Nat} {L : Nat → Nat} {c N : Nat} (hQ : rt_ok Q N) (h : rt_isL Q L c) : c ≤ N := rt_pig N c L (fun j hj => rt_ok_in hQ (h.1 j hj)) h.2.1
theorem rt_nodup {L : Nat → Nat} {c : Nat} (h : ∀ i j, i < c → j < c → L i = L j → i = j) : ((List.range c).map L).Nodup := by
  unfold List.Nodup
  rw [List.pairwise_map]
  refine List.Pairwise.imp_of_mem ?_ (List.nodup_range (n := c))
  intro a b ha hb hne e
  exact hne (h a b (List.mem_range.mp ha) (List.mem_range.mp hb) e)
theorem rt_isL_perm {Q : Nat → Nat} {L : Nat → Nat} {c N : Nat} (hQ : rt_ok Q N) (h : rt_isL Q L c) : ((List.range c).map L).Perm ((List.range N).filter (fun p => decide (Q p ≠ 0))) := by
  refine (List.perm_ext_iff_of_nodup (rt_nodup h.2.1) (List.Pairwise.filter _ List.nodup_range)).mpr ?_
  intro a
  simp only [List.mem_map, List.mem_range, List.mem_filter, decide_eq_true_eq]
  constructor
  · rintro ⟨i, hi, rfl⟩
    exact ⟨rt_ok_in hQ (h.1 i hi), h.1 i hi⟩
  · rintro ⟨-, h2⟩
    exact h.2.2 a h2
/-- what is counted along the list is counted along the map -/
theorem rt_isL_cnt {Q : Nat → Nat} {L : Nat → Nat} {c N : Nat} (hQ : rt_ok Q N) (h : rt_isL Q L c) (f : Nat → Bool) : (List.range c).countP (fun i => f (L i)) = (List.range N).countP (fun p => decide (Q p ≠ 0) && f p) := by
  have h1 := (rt_isL_perm hQ h).countP_eq f
  rw [List.countP_map, List.countP_filter] at h1
  have h2 : (List.range N).countP (fun a => f a && decide (Q a ≠ 0)) = (List.range N).countP (fun p => decide (Q p ≠ 0) && f p) := by
    refine List.countP_congr ?_
    intro x _
    rw [Bool.and_comm]
  rw [← h2]
  exact h1
theorem rt_cnt_one {p q : Nat → Bool} {x : Nat} : ∀ N, x < N → (∀ y, y ≠ x → p y = q y) → p x = false → q x = true → (List.range N).countP q = (List.range N).countP p + 1 := by
  intro N
  induction N with
  | zero => intro h; omega
  | succ N ih =>
    intro h h1 h2 h3
    rw [List.range_succ, List.countP_append, List.countP_append]
    simp only [List.countP_cons, List.countP_nil]
    by_cases e : x = N
    · subst e
      have : (List.range x).countP q = (List.range x).countP p := by
        refine List.countP_congr ?_
        intro y hy
        have := List.mem_range.mp hy
        rw [h1 y (by omega)]
      rw [this, h2, h3]
      simp
    · rw [ih (by omega) h1 h2 h3, h1 N (fun z => e z.symm)]
      omega
/-- lay: one more in the list -/
theorem rt_isL_lay {Q : Nat → Nat} {L : Nat → Nat} {c p v : Nat} (h : rt_isL Q L c) (hp : Q p = 0) (hv : v ≠ 0) : rt_isL (va_up Q p v) (va_up L c p) (c + 1) := by
  obtain ⟨i1, i2, i3⟩ := h
  have ho : ∀ i, i < c → va_up L c p i = L i := fun i hi => va_up_ne L p (by omega)
  have nb : ∀ i, i < c → L i ≠ p := fun i hi e => i1 i hi (by rw [e]; exact hp)
  refine ⟨?_, ?_, ?_⟩
  · intro i hi
    rcases Nat.lt_or_ge i c with z | z
    · rw [ho i z, va_up_ne Q _ (nb i z)]
      exact i1 i z
    · rw [show i = c by omega, va_up_self, va_up_self]
      exact hv
  · intro i j hi hj e
    rcases Nat.lt_or_ge i c with z | z <;> rcases Nat.lt_or_ge j c with z2 | z2
    · rw [ho i z, ho j z2] at e
      exact i2 i j z z2 e
    · rw [show j = c by omega, ho i z, va_up_self] at e
      exact absurd e (nb i z)
    · rw [show i = c by omega, ho j z2, va_up_self] at e
      exact absurd e.symm (nb j z2)
    · omega
  · intro q hq
    by_cases e : q = p
    · exact ⟨c, by omega, by rw [va_up_self, e]⟩
    · rw [va_up_ne Q _ e] at hq
      obtain ⟨i, hi, e2⟩ := i3 q hq
      exact ⟨i, by omega, by rw [ho i hi]; exact e2⟩
/-- lift: the last one comes into its place -/
theorem rt_isL_lift {Q : Nat → Nat} {L : Nat → Nat} {c a : Nat} (h : rt_isL Q L (c + 1)) (ha : a < c + 1) : rt_isL (va_up Q (L a) 0) (va_up L a (L c)) c := by
  obtain ⟨i1, i2, i3⟩ := h
  have hL : ∀ i, i < c → ∃ k, k < c + 1 ∧ k ≠ a ∧ va_up L a (L c) i = L k ∧ (k = c ∧ i = a ∨ k = i ∧ i ≠ a) := by
    intro i hi
    by_cases e : i = a
    · subst e
      exact ⟨c, by omega, by omega, va_up_self _ _ _, Or.inl ⟨rfl, rfl⟩⟩
    · exact ⟨i, by omega, e, va_up_ne L _ e, Or.inr ⟨rfl, e⟩⟩
  refine ⟨?_, ?_, ?_⟩
  · intro i hi
    obtain ⟨k, hk, hka, e, -⟩ := hL i hi
    rw [e, va_up_ne Q _ (fun z => hka (i2 k a hk ha z))]
    exact i1 k hk
  · intro i j hi hj e
    obtain ⟨k, hk, hka, e1, h1⟩ := hL i hi
    obtain ⟨k2, hk2, hka2, e2, h2⟩ := hL j hj
    rw [e1, e2] at e
    have := i2 k k2 hk hk2 e
    omega
  · intro q hq
    by_cases e : q = L a
    · rw [e, va_up_self] at hq
      exact absurd rfl hq
    · rw [va_up_ne Q _ e] at hq
      obtain ⟨i, hi, e2⟩ := i3 q hq
      by_cases hic : i = c
      · subst hic
        have hai : a ≠ i := fun z => e (by rw [z]; exact e2.symm)
        exact ⟨a, by omega, by rw [va_up_self]; exact e2⟩
      · have hia : i ≠ a := fun z => e (by rw [← z]; exact e2.symm)
        exact ⟨i, by omega, by rw [va_up_ne L _ hia]; exact e2⟩
theorem rt_isL_keep {Q : Nat → Nat} {L : Nat → Nat} {c p v : Nat} (h : rt_isL Q L c) (hp : Q p ≠ 0) (hv : v ≠ 0) : rt_isL (va_up Q p v) L c := by
  obtain ⟨i1, i2, i3⟩ := h
  refine ⟨?_, i2, ?_⟩
  · intro i hi
    by_cases e : L i = p
    · rw [e, va_up_self]; exact hv
    · rw [va_up_ne Q _ e]; exact i1 i hi
  · intro q hq
    by_cases e : q = p
    · subst e; exact i3 q hp
    · rw [va_up_ne Q _ e] at hq; exact i3 q hq
end
section
/-! PURE: signs, counts, the parts of a piece's number -/
def rt_sgn (Q : Nat → Nat) (N st : Nat) : Option Nat := ((List.range N).find? (fun p => decide (rt_s Q p = st + 1))).map (fun p => p / 6)
theorem rt_sgn_some {Q : Nat → Nat} {N st p : Nat} (hp : p < N) (h1 : rt_s Q p = st + 1) (h2 : ∀ j, j < p → rt_s Q j ≠ st + 1) : rt_sgn Q N st = some (p / 6) := by
  unfold rt_sgn
  rw [List.find?_range_eq_some.mpr ⟨by simpa using h1, List.mem_range.mpr hp, fun j hj => by simpa using h2 j hj⟩]
  rfl
theorem rt_sgn_none {Q : Nat → Nat} {N st : Nat} (h : ∀ j, j < N → rt_s Q j ≠ st + 1) : rt_sgn Q N st = none := by
  unfold rt_sgn
  rw [List.find?_range_eq_none.mpr (fun j hj => by simpa using h j hj)]
  rfl
/-- the lowest tile of a station, found in any order -/
theorem rt_sgn_least {Q : Nat → Nat} {N st t : Nat} (hN : ∀ p, rt_s Q p ≠ 0 → p < N) (h1 : ∃ p, rt_s Q p = st + 1 ∧ p / 6 = t) (h2 : ∀ p, rt_s Q p = st + 1 → t ≤ p / 6) : rt_sgn Q N st = some t := by
  obtain ⟨p, hp, rfl⟩ := h1
  obtain ⟨k, hk, hm⟩ := pk_least (fun q => rt_s Q q = st + 1) ⟨p, hp⟩
  rw [rt_sgn_some (hN k (by rw [hk]; omega)) hk hm]
  congr 1
  have h3 := h2 k hk
  have h4 : k ≤ p := by
    rcases Nat.lt_or_ge p k with z | z
    · exact absurd hp (hm p z)
    · exact z
  have := Nat.div_le_div_right (c := 6) h4
  omega
def rt_cnt (Q : Nat → Nat) (N : Nat) (f : Nat → Bool) : Nat := (List.range N).countP f
theorem rt_cnt_succ (f : Nat → Bool) (i : Nat) : (List.range (i + 1)).countP f = (List.range i).countP f + (if f i = true then 1 else 0) := by
  rw [List.range_succ, List.countP_append]
  simp only [List.countP_cons, List.countP_nil]
  omega
theorem rt_cnt_le (f : Nat → Bool) (i : Nat) : (List.range i).countP f ≤ i := by
  have := List.countP_le_length (l := List.range i) (p := f)
  rwa [List.length_range] at this
-- the parts of a number
theorem rt_and1 : ∀ q, q < 512 → (q &&& 28) / 4 = q / 4 % 8 ∧ (q &&& 480) / 32 = q / 32 % 16 := by decide +kernel
theorem rt_and2 : ∀ q, q < 512 → q % 4 = 1 ∨ q = 0 → ((q &&& 1 = 0 ↔ q = 0) ∧ (q &&& 28 = 0 ↔ q / 4 % 8 = 0) ∧ (q &&& 480 = 0 ↔ q / 32 = 0)) := by decide +kernel
theorem rt_ok_4 {Q : Nat → Nat} {n : Nat} (h : rt_ok Q n) (p : Nat) : Q p % 4 = 1 ∨ Q p = 0 := by
  rcases h.2 p with h | ⟨g, s, h1, h2, h3⟩ <;> omega
theorem rt_ok_put {Q : Nat → Nat} {n p g s : Nat} (h : rt_ok Q n) (hp : p < n) (hg : g ≤ 4) (hs : s ≤ 8) : rt_ok (va_up Q p (1 + 4 * g + 32 * s)) n := by
  refine ⟨fun q hq => ?_, fun q => ?_⟩
  · rw [va_up_ne Q _ (by omega)]
    exact h.1 q hq
  · by_cases e : q = p
    · rw [e, va_up_self]
      exact Or.inr ⟨g, s, hg, hs, rfl⟩
    · rw [va_up_ne Q _ e]
      exact h.2 q
theorem rt_ok_del {Q : Nat → Nat} {n p : Nat} (h : rt_ok Q n) : rt_ok (va_up Q p 0) n := by
  refine ⟨fun q hq => ?_, fun q => ?_⟩
  · by_cases e : q = p
    · rw [e, va_up_self]
    · rw [va_up_ne Q _ e]
      exact h.1 q hq
  · by_cases e : q = p
    · rw [e, va_up_self]
      exact Or.inl rfl
    · rw [va_up_ne Q _ e]
      exact h.2 q
theorem rt_g_put (g s : Nat) (hg : g ≤ 4) : (1 + 4 * g + 32 * s) / 4 % 8 = g ∧ (1 + 4 * g + 32 * s) / 32 = s := by omega
-- an int as an index
def rt_ix (x : Int32) (n : Nat) : Option Nat := if x < 0 ∨ nI n ≤ x then none else some x.toNatClampNeg
theorem rt_ix_some {n j : Nat} (hn : n < 2 ^ 31) (hj : j < n) : rt_ix (nI j) n = some j := by
  unfold rt_ix
  rw [if_neg, nI_clamp (by omega)]
  rintro (h | h)
  · exact nI_pos (by omega) h
  · exact nI_ge hj hn h
theorem rt_ix_none {x : Int32} {n : Nat} (h : x < 0 ∨ nI n ≤ x) : rt_ix x n = none := if_pos h
theorem rt_o_ne (k : Nat) (h : k < 2 ^ 31) : ¬ nI k = -1 := by
  intro q
  have := congrArg Int32.toInt q
  rw [nI_toInt h] at this
  have e : (-1 : Int32).toInt = -1 := by decide
  omega
theorem rt_o_inj {a b : Option Nat} (ha : ∀ k, a = some k → k < 2 ^ 31) (hb : ∀ k, b = some k → k < 2 ^ 31) (h : rt_o a = rt_o b) : a = b := by
  cases a with
  | none =>
    cases b with
    | none => rfl
    | some k => exact absurd h.symm (rt_o_ne k (hb k rfl))
  | some k =>
    cases b with
    | none => exact absurd h (rt_o_ne k (ha k rfl))
    | some j => rw [(nI_eq (ha k rfl) (hb j rfl)).mp h]
end
