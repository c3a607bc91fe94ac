section
-- ===== PART A: goes FIRST, ahead of the names: the tables' words, and 'selects' of the private methods out of them =====
/-- a private method of a class that the tables say can be made, by its rows of tables_1 -/
def lw_okq (q : MethodName × Nat) : Prop := (q.1.cls ≠ "java/lang/invoke/MethodHandle" ∧ q.1.cls ≠ "java/lang/invoke/VarHandle") ∧ Cond.instantiable q.1.cls q.2 ∈ tables_1 ∧ Cond.privateMethod q.1 ∈ tables_1 ∧ Cond.instanceMethod q.1 ∈ tables_1
theorem lw_p0 : lw_okq (⟨"MouldMatcher", "forgetMatches", "(I)V"⟩, 11) := ⟨⟨by decide +kernel, by decide +kernel⟩, List.mem_of_getElem? (i := 11) (by decide +kernel), List.mem_of_getElem? (i := 104) (by decide +kernel), List.mem_of_getElem? (i := 105) (by decide +kernel)⟩
theorem lw_p1 : lw_okq (⟨"MouldMatcher", "isMarkInRow", "(III)Z"⟩, 11) := ⟨⟨by decide +kernel, by decide +kernel⟩, List.mem_of_getElem? (i := 11) (by decide +kernel), List.mem_of_getElem? (i := 112) (by decide +kernel), List.mem_of_getElem? (i := 113) (by decide +kernel)⟩
theorem lw_p2 : lw_okq (⟨"MouldMatcher", "mouldOrNull", "(I)LMouldMatcher$Mould;"⟩, 11) := ⟨⟨by decide +kernel, by decide +kernel⟩, List.mem_of_getElem? (i := 11) (by decide +kernel), List.mem_of_getElem? (i := 173) (by decide +kernel), List.mem_of_getElem? (i := 174) (by decide +kernel)⟩
theorem lw_p3 : lw_okq (⟨"MouldMatcher", "couldBeTwins", "(LMouldMatcher$Mould;LMouldMatcher$Mould;)Z"⟩, 11) := ⟨⟨by decide +kernel, by decide +kernel⟩, List.mem_of_getElem? (i := 11) (by decide +kernel), List.mem_of_getElem? (i := 189) (by decide +kernel), List.mem_of_getElem? (i := 190) (by decide +kernel)⟩
theorem lw_p4 : lw_okq (⟨"MouldMatcher", "sheetOrNull", "(I)LMouldMatcher$Sheet;"⟩, 11) := ⟨⟨by decide +kernel, by decide +kernel⟩, List.mem_of_getElem? (i := 11) (by decide +kernel), List.mem_of_getElem? (i := 286) (by decide +kernel), List.mem_of_getElem? (i := 287) (by decide +kernel)⟩
theorem lw_p5 : lw_okq (⟨"MouldMatcher", "matchOf", "(LMouldMatcher$Sheet;I)LMouldMatcher$Match;"⟩, 11) := ⟨⟨by decide +kernel, by decide +kernel⟩, List.mem_of_getElem? (i := 11) (by decide +kernel), List.mem_of_getElem? (i := 298) (by decide +kernel), List.mem_of_getElem? (i := 299) (by decide +kernel)⟩
theorem lw_p6 : lw_okq (⟨"MouldMatcher", "findBest", "(LMouldMatcher$Sheet;LMouldMatcher$Mould;LMouldMatcher$Match;)V"⟩, 11) := ⟨⟨by decide +kernel, by decide +kernel⟩, List.mem_of_getElem? (i := 11) (by decide +kernel), List.mem_of_getElem? (i := 302) (by decide +kernel), List.mem_of_getElem? (i := 303) (by decide +kernel)⟩
theorem lw_p7 : lw_okq (⟨"MouldMatcher", "tryPlacement", "(LMouldMatcher$Mould;IILMouldMatcher$Match;)V"⟩, 11) := ⟨⟨by decide +kernel, by decide +kernel⟩, List.mem_of_getElem? (i := 11) (by decide +kernel), List.mem_of_getElem? (i := 311) (by decide +kernel), List.mem_of_getElem? (i := 312) (by decide +kernel)⟩
theorem lw_p8 : lw_okq (⟨"MouldMatcher", "spacingDeviations", "(LMouldMatcher$Mould;II)I"⟩, 11) := ⟨⟨by decide +kernel, by decide +kernel⟩, List.mem_of_getElem? (i := 11) (by decide +kernel), List.mem_of_getElem? (i := 315) (by decide +kernel), List.mem_of_getElem? (i := 316) (by decide +kernel)⟩
theorem lw_p9 : lw_okq (⟨"MouldMatcher", "fittingState", "(LMouldMatcher$Mould;I)I"⟩, 11) := ⟨⟨by decide +kernel, by decide +kernel⟩, List.mem_of_getElem? (i := 11) (by decide +kernel), List.mem_of_getElem? (i := 319) (by decide +kernel), List.mem_of_getElem? (i := 320) (by decide +kernel)⟩
theorem lw_p10 : lw_okq (⟨"MouldMatcher", "markDeviation", "(LMouldMatcher$Mould;II)I"⟩, 11) := ⟨⟨by decide +kernel, by decide +kernel⟩, List.mem_of_getElem? (i := 11) (by decide +kernel), List.mem_of_getElem? (i := 323) (by decide +kernel), List.mem_of_getElem? (i := 324) (by decide +kernel)⟩
theorem lw_p11 : lw_okq (⟨"MouldMatcher", "mouldFor", "(LMouldMatcher$Sheet;)I"⟩, 11) := ⟨⟨by decide +kernel, by decide +kernel⟩, List.mem_of_getElem? (i := 11) (by decide +kernel), List.mem_of_getElem? (i := 335) (by decide +kernel), List.mem_of_getElem? (i := 336) (by decide +kernel)⟩
theorem lw_p12 : lw_okq (⟨"MouldMatcher", "gatherStates", "(I)V"⟩, 11) := ⟨⟨by decide +kernel, by decide +kernel⟩, List.mem_of_getElem? (i := 11) (by decide +kernel), List.mem_of_getElem? (i := 351) (by decide +kernel), List.mem_of_getElem? (i := 352) (by decide +kernel)⟩
theorem lw_p13 : lw_okq (⟨"MouldMatcher", "earliestOf", "(I)I"⟩, 11) := ⟨⟨by decide +kernel, by decide +kernel⟩, List.mem_of_getElem? (i := 11) (by decide +kernel), List.mem_of_getElem? (i := 355) (by decide +kernel), List.mem_of_getElem? (i := 356) (by decide +kernel)⟩
theorem lw_p14 : lw_okq (⟨"MouldMatcher", "isLowerState", "(II)Z"⟩, 11) := ⟨⟨by decide +kernel, by decide +kernel⟩, List.mem_of_getElem? (i := 11) (by decide +kernel), List.mem_of_getElem? (i := 359) (by decide +kernel), List.mem_of_getElem? (i := 360) (by decide +kernel)⟩
theorem lw_p15 : lw_okq (⟨"MouldMatcher", "placeOf", "(I)I"⟩, 11) := ⟨⟨by decide +kernel, by decide +kernel⟩, List.mem_of_getElem? (i := 11) (by decide +kernel), List.mem_of_getElem? (i := 363) (by decide +kernel), List.mem_of_getElem? (i := 364) (by decide +kernel)⟩
def lw_privs_1 : List (MethodName × Nat) := [(⟨"MouldMatcher", "forgetMatches", "(I)V"⟩, 11), (⟨"MouldMatcher", "isMarkInRow", "(III)Z"⟩, 11), (⟨"MouldMatcher", "mouldOrNull", "(I)LMouldMatcher$Mould;"⟩, 11), (⟨"MouldMatcher", "couldBeTwins", "(LMouldMatcher$Mould;LMouldMatcher$Mould;)Z"⟩, 11), (⟨"MouldMatcher", "sheetOrNull", "(I)LMouldMatcher$Sheet;"⟩, 11), (⟨"MouldMatcher", "matchOf", "(LMouldMatcher$Sheet;I)LMouldMatcher$Match;"⟩, 11), (⟨"MouldMatcher", "findBest", "(LMouldMatcher$Sheet;LMouldMatcher$Mould;LMouldMatcher$Match;)V"⟩, 11), (⟨"MouldMatcher", "tryPlacement", "(LMouldMatcher$Mould;IILMouldMatcher$Match;)V"⟩, 11), (⟨"MouldMatcher", "spacingDeviations", "(LMouldMatcher$Mould;II)I"⟩, 11), (⟨"MouldMatcher", "fittingState", "(LMouldMatcher$Mould;I)I"⟩, 11), (⟨"MouldMatcher", "markDeviation", "(LMouldMatcher$Mould;II)I"⟩, 11), (⟨"MouldMatcher", "mouldFor", "(LMouldMatcher$Sheet;)I"⟩, 11), (⟨"MouldMatcher", "gatherStates", "(I)V"⟩, 11), (⟨"MouldMatcher", "earliestOf", "(I)I"⟩, 11), (⟨"MouldMatcher", "isLowerState", "(II)Z"⟩, 11), (⟨"MouldMatcher", "placeOf", "(I)I"⟩, 11)]
theorem lw_r1 : ∀ q ∈ lw_privs_1, lw_okq q := List.forall_mem_cons.mpr ⟨lw_p0, List.forall_mem_cons.mpr ⟨lw_p1, List.forall_mem_cons.mpr ⟨lw_p2, List.forall_mem_cons.mpr ⟨lw_p3, List.forall_mem_cons.mpr ⟨lw_p4, List.forall_mem_cons.mpr ⟨lw_p5, List.forall_mem_cons.mpr ⟨lw_p6, List.forall_mem_cons.mpr ⟨lw_p7, List.forall_mem_cons.mpr ⟨lw_p8, List.forall_mem_cons.mpr ⟨lw_p9, List.forall_mem_cons.mpr ⟨lw_p10, List.forall_mem_cons.mpr ⟨lw_p11, List.forall_mem_cons.mpr ⟨lw_p12, List.forall_mem_cons.mpr ⟨lw_p13, List.forall_mem_cons.mpr ⟨lw_p14, List.forall_mem_cons.mpr ⟨lw_p15, fun _ h => absurd h List.not_mem_nil⟩⟩⟩⟩⟩⟩⟩⟩⟩⟩⟩⟩⟩⟩⟩⟩
theorem lw_p16 : lw_okq (⟨"MouldMatcher", "comesBefore", "(II)Z"⟩, 11) := ⟨⟨by decide +kernel, by decide +kernel⟩, List.mem_of_getElem? (i := 11) (by decide +kernel), List.mem_of_getElem? (i := 367) (by decide +kernel), List.mem_of_getElem? (i := 368) (by decide +kernel)⟩
theorem lw_p17 : lw_okq (⟨"MouldMatcher", "latestOf", "(I)I"⟩, 11) := ⟨⟨by decide +kernel, by decide +kernel⟩, List.mem_of_getElem? (i := 11) (by decide +kernel), List.mem_of_getElem? (i := 379) (by decide +kernel), List.mem_of_getElem? (i := 380) (by decide +kernel)⟩
theorem lw_p18 : lw_okq (⟨"MouldMatcherModel", "isMark", "(III)Z"⟩, 28) := ⟨⟨by decide +kernel, by decide +kernel⟩, List.mem_of_getElem? (i := 387) (by decide +kernel), List.mem_of_getElem? (i := 497) (by decide +kernel), List.mem_of_getElem? (i := 498) (by decide +kernel)⟩
theorem lw_p19 : lw_okq (⟨"MouldMatcherModel", "putState", "(III)V"⟩, 28) := ⟨⟨by decide +kernel, by decide +kernel⟩, List.mem_of_getElem? (i := 387) (by decide +kernel), List.mem_of_getElem? (i := 501) (by decide +kernel), List.mem_of_getElem? (i := 502) (by decide +kernel)⟩
theorem lw_p20 : lw_okq (⟨"MouldMatcherModel", "noMould", "(I)Z"⟩, 28) := ⟨⟨by decide +kernel, by decide +kernel⟩, List.mem_of_getElem? (i := 387) (by decide +kernel), List.mem_of_getElem? (i := 509) (by decide +kernel), List.mem_of_getElem? (i := 510) (by decide +kernel)⟩
theorem lw_p21 : lw_okq (⟨"MouldMatcherModel", "twoBarred", "(II)I"⟩, 28) := ⟨⟨by decide +kernel, by decide +kernel⟩, List.mem_of_getElem? (i := 387) (by decide +kernel), List.mem_of_getElem? (i := 525) (by decide +kernel), List.mem_of_getElem? (i := 526) (by decide +kernel)⟩
theorem lw_p22 : lw_okq (⟨"MouldMatcherModel", "twinSpacings", "(II)I"⟩, 28) := ⟨⟨by decide +kernel, by decide +kernel⟩, List.mem_of_getElem? (i := 387) (by decide +kernel), List.mem_of_getElem? (i := 529) (by decide +kernel), List.mem_of_getElem? (i := 530) (by decide +kernel)⟩
theorem lw_p23 : lw_okq (⟨"MouldMatcherModel", "noSheet", "(I)Z"⟩, 28) := ⟨⟨by decide +kernel, by decide +kernel⟩, List.mem_of_getElem? (i := 387) (by decide +kernel), List.mem_of_getElem? (i := 548) (by decide +kernel), List.mem_of_getElem? (i := 549) (by decide +kernel)⟩
theorem lw_p24 : lw_okq (⟨"MouldMatcherModel", "bothBarred", "(II)I"⟩, 28) := ⟨⟨by decide +kernel, by decide +kernel⟩, List.mem_of_getElem? (i := 387) (by decide +kernel), List.mem_of_getElem? (i := 560) (by decide +kernel), List.mem_of_getElem? (i := 561) (by decide +kernel)⟩
theorem lw_p25 : lw_okq (⟨"MouldMatcherModel", "findBest", "(II)V"⟩, 28) := ⟨⟨by decide +kernel, by decide +kernel⟩, List.mem_of_getElem? (i := 387) (by decide +kernel), List.mem_of_getElem? (i := 564) (by decide +kernel), List.mem_of_getElem? (i := 565) (by decide +kernel)⟩
theorem lw_p26 : lw_okq (⟨"MouldMatcherModel", "scoreOf", "(IIIII)I"⟩, 28) := ⟨⟨by decide +kernel, by decide +kernel⟩, List.mem_of_getElem? (i := 387) (by decide +kernel), List.mem_of_getElem? (i := 568) (by decide +kernel), List.mem_of_getElem? (i := 569) (by decide +kernel)⟩
theorem lw_p27 : lw_okq (⟨"MouldMatcherModel", "spacingScore", "(IIZII)I"⟩, 28) := ⟨⟨by decide +kernel, by decide +kernel⟩, List.mem_of_getElem? (i := 387) (by decide +kernel), List.mem_of_getElem? (i := 572) (by decide +kernel), List.mem_of_getElem? (i := 573) (by decide +kernel)⟩
theorem lw_p28 : lw_okq (⟨"MouldMatcherModel", "markScore", "(IIII)I"⟩, 28) := ⟨⟨by decide +kernel, by decide +kernel⟩, List.mem_of_getElem? (i := 387) (by decide +kernel), List.mem_of_getElem? (i := 576) (by decide +kernel), List.mem_of_getElem? (i := 577) (by decide +kernel)⟩
theorem lw_p29 : lw_okq (⟨"MouldMatcherModel", "assign", "(I)V"⟩, 28) := ⟨⟨by decide +kernel, by decide +kernel⟩, List.mem_of_getElem? (i := 387) (by decide +kernel), List.mem_of_getElem? (i := 588) (by decide +kernel), List.mem_of_getElem? (i := 589) (by decide +kernel)⟩
theorem lw_p30 : lw_okq (⟨"MouldMatcherModel", "assignAll", "()V"⟩, 28) := ⟨⟨by decide +kernel, by decide +kernel⟩, List.mem_of_getElem? (i := 387) (by decide +kernel), List.mem_of_getElem? (i := 600) (by decide +kernel), List.mem_of_getElem? (i := 601) (by decide +kernel)⟩
theorem lw_p31 : lw_okq (⟨"MouldMatcherModel", "earliestOf", "(I)I"⟩, 28) := ⟨⟨by decide +kernel, by decide +kernel⟩, List.mem_of_getElem? (i := 387) (by decide +kernel), List.mem_of_getElem? (i := 608) (by decide +kernel), List.mem_of_getElem? (i := 609) (by decide +kernel)⟩
def lw_privs_2 : List (MethodName × Nat) := [(⟨"MouldMatcher", "comesBefore", "(II)Z"⟩, 11), (⟨"MouldMatcher", "latestOf", "(I)I"⟩, 11), (⟨"MouldMatcherModel", "isMark", "(III)Z"⟩, 28), (⟨"MouldMatcherModel", "putState", "(III)V"⟩, 28), (⟨"MouldMatcherModel", "noMould", "(I)Z"⟩, 28), (⟨"MouldMatcherModel", "twoBarred", "(II)I"⟩, 28), (⟨"MouldMatcherModel", "twinSpacings", "(II)I"⟩, 28), (⟨"MouldMatcherModel", "noSheet", "(I)Z"⟩, 28), (⟨"MouldMatcherModel", "bothBarred", "(II)I"⟩, 28), (⟨"MouldMatcherModel", "findBest", "(II)V"⟩, 28), (⟨"MouldMatcherModel", "scoreOf", "(IIIII)I"⟩, 28), (⟨"MouldMatcherModel", "spacingScore", "(IIZII)I"⟩, 28), (⟨"MouldMatcherModel", "markScore", "(IIII)I"⟩, 28), (⟨"MouldMatcherModel", "assign", "(I)V"⟩, 28), (⟨"MouldMatcherModel", "assignAll", "()V"⟩, 28), (⟨"MouldMatcherModel", "earliestOf", "(I)I"⟩, 28)]
theorem lw_r2 : ∀ q ∈ lw_privs_2, lw_okq q := List.forall_mem_cons.mpr ⟨lw_p16, List.forall_mem_cons.mpr ⟨lw_p17, List.forall_mem_cons.mpr ⟨lw_p18, List.forall_mem_cons.mpr ⟨lw_p19, List.forall_mem_cons.mpr ⟨lw_p20, List.forall_mem_cons.mpr ⟨lw_p21, List.forall_mem_cons.mpr ⟨lw_p22, List.forall_mem_cons.mpr ⟨lw_p23, List.forall_mem_cons.mpr ⟨lw_p24, List.forall_mem_cons.mpr ⟨lw_p25, List.forall_mem_cons.mpr ⟨lw_p26, List.forall_mem_cons.mpr ⟨lw_p27, List.forall_mem_cons.mpr ⟨lw_p28, List.forall_mem_cons.mpr ⟨lw_p29, List.forall_mem_cons.mpr ⟨lw_p30, List.forall_mem_cons.mpr ⟨lw_p31, fun _ h => absurd h List.not_mem_nil⟩⟩⟩⟩⟩⟩⟩⟩⟩⟩⟩⟩⟩⟩⟩⟩
theorem lw_p32 : lw_okq (⟨"MouldMatcherModel", "isLower", "(II)Z"⟩, 28) := ⟨⟨by decide +kernel, by decide +kernel⟩, List.mem_of_getElem? (i := 387) (by decide +kernel), List.mem_of_getElem? (i := 612) (by decide +kernel), List.mem_of_getElem? (i := 613) (by decide +kernel)⟩
theorem lw_p33 : lw_okq (⟨"MouldMatcherModel", "isPlaced", "(II)Z"⟩, 28) := ⟨⟨by decide +kernel, by decide +kernel⟩, List.mem_of_getElem? (i := 387) (by decide +kernel), List.mem_of_getElem? (i := 624) (by decide +kernel), List.mem_of_getElem? (i := 625) (by decide +kernel)⟩
theorem lw_p34 : lw_okq (⟨"MouldMatcherModel", "isAhead", "(II)Z"⟩, 28) := ⟨⟨by decide +kernel, by decide +kernel⟩, List.mem_of_getElem? (i := 387) (by decide +kernel), List.mem_of_getElem? (i := 628) (by decide +kernel), List.mem_of_getElem? (i := 629) (by decide +kernel)⟩
def lw_privs_3 : List (MethodName × Nat) := [(⟨"MouldMatcherModel", "isLower", "(II)Z"⟩, 28), (⟨"MouldMatcherModel", "isPlaced", "(II)Z"⟩, 28), (⟨"MouldMatcherModel", "isAhead", "(II)Z"⟩, 28)]
theorem lw_r3 : ∀ q ∈ lw_privs_3, lw_okq q := List.forall_mem_cons.mpr ⟨lw_p32, List.forall_mem_cons.mpr ⟨lw_p33, List.forall_mem_cons.mpr ⟨lw_p34, fun _ h => absurd h List.not_mem_nil⟩⟩⟩
def lw_privs : List (MethodName × Nat) := lw_privs_1 ++ (lw_privs_2 ++ (lw_privs_3))
def lw_tbl : List Cond := k2_sels lw_privs ++ tables_1
theorem lw_privs_ok : ∀ q ∈ lw_privs, lw_okq q := by
  show ∀ q ∈ lw_privs_1 ++ (lw_privs_2 ++ (lw_privs_3)), lw_okq q
  exact List.forall_mem_append.mpr ⟨lw_r1, List.forall_mem_append.mpr ⟨lw_r2, lw_r3⟩⟩
end
section
/-! names of classes, fields and methods, out of the printed text -/
def RX0 : String := "MouldMatcher$Match"
def TX0 : u_T := fun k => match k with
  | 0 => ("MouldMatcher$Match", "known", "Z", false)
  | 1 => ("MouldMatcher$Match", "possible", "Z", false)
  | 2 => ("MouldMatcher$Match", "score", "I", false)
  | 3 => ("MouldMatcher$Match", "orientation", "I", false)
  | 4 => ("MouldMatcher$Match", "offset", "I", false)
  | 5 => ("MouldMatcher$Match", "factor", "I", false)
  | _ => ("MouldMatcher$Match", "state", "I", false)
def tyX0 : Nat → FieldType := fun k => match k with
  | 0 => .boolean
  | 1 => .boolean
  | 2 => .int
  | 3 => .int
  | 4 => .int
  | 5 => .int
  | _ => .int
theorem nmX0 : ∀ a, a < 7 → ∀ b, b < 7 → a ≠ b → (TX0 a).2.1 ≠ (TX0 b).2.1 := by decide +kernel
theorem tyX0_ok : ∀ k, k < 7 → parseFieldDescriptor (TX0 k).2.2.1 = some (tyX0 k) := by decide +kernel
abbrev cX0_init : ByteArray := prog_2_method_1_code
def yX0_init : MethodName := ⟨RX0, "<init>", "()V"⟩
def RX1 : String := "MouldMatcher$Mould"
def TX1 : u_T := fun k => match k with
  | 0 => ("MouldMatcher$Mould", "spacings", "[I", true)
  | 1 => ("MouldMatcher$Mould", "interval", "I", true)
  | 2 => ("MouldMatcher$Mould", "width", "I", true)
  | 3 => ("MouldMatcher$Mould", "stateX", "[I", true)
  | 4 => ("MouldMatcher$Mould", "stateY", "[I", true)
  | _ => ("MouldMatcher$Mould", "states", "I", false)
def tyX1 : Nat → FieldType := fun k => match k with
  | 0 => .array .int
  | 1 => .int
  | 2 => .int
  | 3 => .array .int
  | 4 => .array .int
  | _ => .int
theorem nmX1 : ∀ a, a < 6 → ∀ b, b < 6 → a ≠ b → (TX1 a).2.1 ≠ (TX1 b).2.1 := by decide +kernel
theorem tyX1_ok : ∀ k, k < 6 → parseFieldDescriptor (TX1 k).2.2.1 = some (tyX1 k) := by decide +kernel
abbrev cX1_init : ByteArray := prog_3_method_1_code
def yX1_init : MethodName := ⟨RX1, "<init>", "([III)V"⟩
abbrev cX1_append : ByteArray := prog_3_method_2_code
def yX1_append : MethodName := ⟨RX1, "append", "(II)V"⟩
def RX2 : String := "MouldMatcher$Sheet"
def TX2 : u_T := fun k => match k with
  | 0 => ("MouldMatcher$Sheet", "spacings", "[I", true)
  | 1 => ("MouldMatcher$Sheet", "interval", "I", true)
  | 2 => ("MouldMatcher$Sheet", "x", "I", true)
  | 3 => ("MouldMatcher$Sheet", "y", "I", true)
  | 4 => ("MouldMatcher$Sheet", "first", "I", false)
  | 5 => ("MouldMatcher$Sheet", "last", "I", false)
  | _ => ("MouldMatcher$Sheet", "matches", "[LMouldMatcher$Match;", true)
def tyX2 : Nat → FieldType := fun k => match k with
  | 0 => .array .int
  | 1 => .int
  | 2 => .int
  | 3 => .int
  | 4 => .int
  | 5 => .int
  | _ => .array (.object "MouldMatcher$Match")
theorem nmX2 : ∀ a, a < 7 → ∀ b, b < 7 → a ≠ b → (TX2 a).2.1 ≠ (TX2 b).2.1 := by decide +kernel
theorem tyX2_ok : ∀ k, k < 7 → parseFieldDescriptor (TX2 k).2.2.1 = some (tyX2 k) := by decide +kernel
abbrev cX2_init : ByteArray := prog_4_method_1_code
def yX2_init : MethodName := ⟨RX2, "<init>", "([IIII)V"⟩
def RX3 : String := "MouldMatcher$View"
def TX3 : u_T := fun k => match k with
  | 0 => ("MouldMatcher$View", "spacings", "[I", true)
  | 1 => ("MouldMatcher$View", "length", "I", false)
  | 2 => ("MouldMatcher$View", "orientation", "I", false)
  | 3 => ("MouldMatcher$View", "interval", "I", false)
  | 4 => ("MouldMatcher$View", "x", "I", false)
  | _ => ("MouldMatcher$View", "y", "I", false)
def tyX3 : Nat → FieldType := fun k => match k with
  | 0 => .array .int
  | 1 => .int
  | 2 => .int
  | 3 => .int
  | 4 => .int
  | _ => .int
theorem nmX3 : ∀ a, a < 6 → ∀ b, b < 6 → a ≠ b → (TX3 a).2.1 ≠ (TX3 b).2.1 := by decide +kernel
theorem tyX3_ok : ∀ k, k < 6 → parseFieldDescriptor (TX3 k).2.2.1 = some (tyX3 k) := by decide +kernel
abbrev cX3_init : ByteArray := prog_5_method_1_code
def yX3_init : MethodName := ⟨RX3, "<init>", "()V"⟩
abbrev cX3_turn : ByteArray := prog_5_method_2_code
def yX3_turn : MethodName := ⟨RX3, "turn", "(LMouldMatcher$Sheet;I)V"⟩
def RX4 : String := "MouldMatcher"
def TX4 : u_T := fun k => match k with
  | 0 => ("MouldMatcher", "row", "[I", true)
  | 1 => ("MouldMatcher", "rowLength", "I", false)
  | 2 => ("MouldMatcher", "spacingTolerance", "I", false)
  | 3 => ("MouldMatcher", "markTolerance", "I", false)
  | 4 => ("MouldMatcher", "moulds", "[LMouldMatcher$Mould;", true)
  | 5 => ("MouldMatcher", "mouldTotal", "I", false)
  | 6 => ("MouldMatcher", "sheets", "[LMouldMatcher$Sheet;", true)
  | 7 => ("MouldMatcher", "sheetTotal", "I", false)
  | 8 => ("MouldMatcher", "view", "LMouldMatcher$View;", true)
  | 9 => ("MouldMatcher", "statesOnMould", "[I", true)
  | _ => ("MouldMatcher", "earliestDates", "[I", true)
def tyX4 : Nat → FieldType := fun k => match k with
  | 0 => .array .int
  | 1 => .int
  | 2 => .int
  | 3 => .int
  | 4 => .array (.object "MouldMatcher$Mould")
  | 5 => .int
  | 6 => .array (.object "MouldMatcher$Sheet")
  | 7 => .int
  | 8 => .object "MouldMatcher$View"
  | 9 => .array .int
  | _ => .array .int
theorem nmX4 : ∀ a, a < 11 → ∀ b, b < 11 → a ≠ b → (TX4 a).2.1 ≠ (TX4 b).2.1 := by decide +kernel
theorem tyX4_ok : ∀ k, k < 11 → parseFieldDescriptor (TX4 k).2.2.1 = some (tyX4 k) := by decide +kernel
abbrev cX4_init : ByteArray := prog_1_method_1_code
def yX4_init : MethodName := ⟨RX4, "<init>", "()V"⟩
abbrev cX4_clearRow : ByteArray := prog_1_method_2_code
def yX4_clearRow : MethodName := ⟨RX4, "clearRow", "()I"⟩
abbrev cX4_addToRow : ByteArray := prog_1_method_3_code
def yX4_addToRow : MethodName := ⟨RX4, "addToRow", "(I)I"⟩
abbrev cX4_setTolerances : ByteArray := prog_1_method_4_code
def yX4_setTolerances : MethodName := ⟨RX4, "setTolerances", "(II)I"⟩
abbrev cX4_addMould : ByteArray := prog_1_method_5_code
def yX4_addMould : MethodName := ⟨RX4, "addMould", "(III)I"⟩
abbrev cX4_addState : ByteArray := prog_1_method_6_code
def yX4_addState : MethodName := ⟨RX4, "addState", "(III)I"⟩
abbrev cX4_removeState : ByteArray := prog_1_method_7_code
def yX4_removeState : MethodName := ⟨RX4, "removeState", "(I)I"⟩
abbrev cX4_stateCount : ByteArray := prog_1_method_8_code
def yX4_stateCount : MethodName := ⟨RX4, "stateCount", "(I)I"⟩
abbrev cX4_areTwins : ByteArray := prog_1_method_9_code
def yX4_areTwins : MethodName := ⟨RX4, "areTwins", "(II)I"⟩
abbrev cX4_twinDifference : ByteArray := prog_1_method_10_code
def yX4_twinDifference : MethodName := ⟨RX4, "twinDifference", "(II)I"⟩
abbrev cX4_addSheet : ByteArray := prog_1_method_11_code
def yX4_addSheet : MethodName := ⟨RX4, "addSheet", "(III)I"⟩
abbrev cX4_setDates : ByteArray := prog_1_method_12_code
def yX4_setDates : MethodName := ⟨RX4, "setDates", "(III)I"⟩
abbrev cX4_count : ByteArray := prog_1_method_13_code
def yX4_count : MethodName := ⟨RX4, "count", "(I)I"⟩
abbrev cX4_score : ByteArray := prog_1_method_14_code
def yX4_score : MethodName := ⟨RX4, "score", "(II)I"⟩
abbrev cX4_placement : ByteArray := prog_1_method_15_code
def yX4_placement : MethodName := ⟨RX4, "placement", "(III)I"⟩
abbrev cX4_assignedMould : ByteArray := prog_1_method_16_code
def yX4_assignedMould : MethodName := ⟨RX4, "assignedMould", "(I)I"⟩
abbrev cX4_rivalCount : ByteArray := prog_1_method_17_code
def yX4_rivalCount : MethodName := ⟨RX4, "rivalCount", "(II)I"⟩
abbrev cX4_sheetsOf : ByteArray := prog_1_method_18_code
def yX4_sheetsOf : MethodName := ⟨RX4, "sheetsOf", "(I)I"⟩
abbrev cX4_sheetAt : ByteArray := prog_1_method_19_code
def yX4_sheetAt : MethodName := ⟨RX4, "sheetAt", "(II)I"⟩
abbrev cX4_earliest : ByteArray := prog_1_method_20_code
def yX4_earliest : MethodName := ⟨RX4, "earliest", "(I)I"⟩
abbrev cX4_latest : ByteArray := prog_1_method_21_code
def yX4_latest : MethodName := ⟨RX4, "latest", "(I)I"⟩
abbrev cX4_contradictionCount : ByteArray := prog_1_method_22_code
def yX4_contradictionCount : MethodName := ⟨RX4, "contradictionCount", "(I)I"⟩
abbrev cX4_isWithin : ByteArray := prog_1_method_23_code
def yX4_isWithin : MethodName := ⟨RX4, "isWithin", "(III)Z"⟩
abbrev cX4_isPosition : ByteArray := prog_1_method_24_code
def yX4_isPosition : MethodName := ⟨RX4, "isPosition", "(III)Z"⟩
abbrev cX4_isMarkInRow : ByteArray := prog_1_method_25_code
def yX4_isMarkInRow : MethodName := ⟨RX4, "isMarkInRow", "(III)Z"⟩
abbrev cX4_mouldOrNull : ByteArray := prog_1_method_26_code
def yX4_mouldOrNull : MethodName := ⟨RX4, "mouldOrNull", "(I)LMouldMatcher$Mould;"⟩
abbrev cX4_sheetOrNull : ByteArray := prog_1_method_27_code
def yX4_sheetOrNull : MethodName := ⟨RX4, "sheetOrNull", "(I)LMouldMatcher$Sheet;"⟩
abbrev cX4_couldBeTwins : ByteArray := prog_1_method_28_code
def yX4_couldBeTwins : MethodName := ⟨RX4, "couldBeTwins", "(LMouldMatcher$Mould;LMouldMatcher$Mould;)Z"⟩
abbrev cX4_greatestSpacingDifference : ByteArray := prog_1_method_29_code
def yX4_greatestSpacingDifference : MethodName := ⟨RX4, "greatestSpacingDifference", "(LMouldMatcher$Mould;LMouldMatcher$Mould;)I"⟩
abbrev cX4_mouldFor : ByteArray := prog_1_method_30_code
def yX4_mouldFor : MethodName := ⟨RX4, "mouldFor", "(LMouldMatcher$Sheet;)I"⟩
abbrev cX4_matchOf : ByteArray := prog_1_method_31_code
def yX4_matchOf : MethodName := ⟨RX4, "matchOf", "(LMouldMatcher$Sheet;I)LMouldMatcher$Match;"⟩
abbrev cX4_forgetMatches : ByteArray := prog_1_method_32_code
def yX4_forgetMatches : MethodName := ⟨RX4, "forgetMatches", "(I)V"⟩
abbrev cX4_findBest : ByteArray := prog_1_method_33_code
def yX4_findBest : MethodName := ⟨RX4, "findBest", "(LMouldMatcher$Sheet;LMouldMatcher$Mould;LMouldMatcher$Match;)V"⟩
abbrev cX4_tryPlacement : ByteArray := prog_1_method_34_code
def yX4_tryPlacement : MethodName := ⟨RX4, "tryPlacement", "(LMouldMatcher$Mould;IILMouldMatcher$Match;)V"⟩
abbrev cX4_spacingDeviations : ByteArray := prog_1_method_35_code
def yX4_spacingDeviations : MethodName := ⟨RX4, "spacingDeviations", "(LMouldMatcher$Mould;II)I"⟩
abbrev cX4_fittingState : ByteArray := prog_1_method_36_code
def yX4_fittingState : MethodName := ⟨RX4, "fittingState", "(LMouldMatcher$Mould;I)I"⟩
abbrev cX4_markDeviation : ByteArray := prog_1_method_37_code
def yX4_markDeviation : MethodName := ⟨RX4, "markDeviation", "(LMouldMatcher$Mould;II)I"⟩
abbrev cX4_gatherStates : ByteArray := prog_1_method_38_code
def yX4_gatherStates : MethodName := ⟨RX4, "gatherStates", "(I)V"⟩
abbrev cX4_isLowerState : ByteArray := prog_1_method_39_code
def yX4_isLowerState : MethodName := ⟨RX4, "isLowerState", "(II)Z"⟩
abbrev cX4_earliestOf : ByteArray := prog_1_method_40_code
def yX4_earliestOf : MethodName := ⟨RX4, "earliestOf", "(I)I"⟩
abbrev cX4_latestOf : ByteArray := prog_1_method_41_code
def yX4_latestOf : MethodName := ⟨RX4, "latestOf", "(I)I"⟩
abbrev cX4_placeOf : ByteArray := prog_1_method_42_code
def yX4_placeOf : MethodName := ⟨RX4, "placeOf", "(I)I"⟩
abbrev cX4_comesBefore : ByteArray := prog_1_method_43_code
def yX4_comesBefore : MethodName := ⟨RX4, "comesBefore", "(II)Z"⟩
def RX5 : String := "MouldMatcherModel"
def TX5 : u_T := fun k => match k with
  | 0 => ("MouldMatcherModel", "row", "[I", true)
  | 1 => ("MouldMatcherModel", "rowSize", "I", false)
  | 2 => ("MouldMatcherModel", "spacingTolerance", "I", false)
  | 3 => ("MouldMatcherModel", "markTolerance", "I", false)
  | 4 => ("MouldMatcherModel", "moulds", "I", false)
  | 5 => ("MouldMatcherModel", "mouldSize", "[I", true)
  | 6 => ("MouldMatcherModel", "mouldRow", "[I", true)
  | 7 => ("MouldMatcherModel", "markIn", "[I", true)
  | 8 => ("MouldMatcherModel", "states", "[I", true)
  | 9 => ("MouldMatcherModel", "stateX", "[I", true)
  | 10 => ("MouldMatcherModel", "stateY", "[I", true)
  | 11 => ("MouldMatcherModel", "sheets", "I", false)
  | 12 => ("MouldMatcherModel", "sheetSize", "[I", true)
  | 13 => ("MouldMatcherModel", "sheetRow", "[I", true)
  | 14 => ("MouldMatcherModel", "seenIn", "[I", true)
  | 15 => ("MouldMatcherModel", "seenX", "[I", true)
  | 16 => ("MouldMatcherModel", "seenY", "[I", true)
  | 17 => ("MouldMatcherModel", "firstDate", "[I", true)
  | 18 => ("MouldMatcherModel", "lastDate", "[I", true)
  | 19 => ("MouldMatcherModel", "triedState", "I", false)
  | 20 => ("MouldMatcherModel", "bestScore", "I", false)
  | 21 => ("MouldMatcherModel", "bestTurn", "I", false)
  | 22 => ("MouldMatcherModel", "bestOffset", "I", false)
  | 23 => ("MouldMatcherModel", "bestFactor", "I", false)
  | 24 => ("MouldMatcherModel", "bestState", "I", false)
  | 25 => ("MouldMatcherModel", "mouldOf", "[I", true)
  | 26 => ("MouldMatcherModel", "stateOf", "[I", true)
  | _ => ("MouldMatcherModel", "scoreBy", "[I", true)
def tyX5 : Nat → FieldType := fun k => match k with
  | 0 => .array .int
  | 1 => .int
  | 2 => .int
  | 3 => .int
  | 4 => .int
  | 5 => .array .int
  | 6 => .array .int
  | 7 => .array .int
  | 8 => .array .int
  | 9 => .array .int
  | 10 => .array .int
  | 11 => .int
  | 12 => .array .int
  | 13 => .array .int
  | 14 => .array .int
  | 15 => .array .int
  | 16 => .array .int
  | 17 => .array .int
  | 18 => .array .int
  | 19 => .int
  | 20 => .int
  | 21 => .int
  | 22 => .int
  | 23 => .int
  | 24 => .int
  | 25 => .array .int
  | 26 => .array .int
  | _ => .array .int
theorem nmX5 : ∀ a, a < 28 → ∀ b, b < 28 → a ≠ b → (TX5 a).2.1 ≠ (TX5 b).2.1 := by decide +kernel
theorem tyX5_ok : ∀ k, k < 28 → parseFieldDescriptor (TX5 k).2.2.1 = some (tyX5 k) := by decide +kernel
abbrev cX5_init : ByteArray := prog_7_method_1_code
def yX5_init : MethodName := ⟨RX5, "<init>", "()V"⟩
abbrev cX5_within : ByteArray := prog_7_method_2_code
def yX5_within : MethodName := ⟨RX5, "within", "(III)Z"⟩
abbrev cX5_apart : ByteArray := prog_7_method_3_code
def yX5_apart : MethodName := ⟨RX5, "apart", "(II)I"⟩
abbrev cX5_clearRow : ByteArray := prog_7_method_4_code
def yX5_clearRow : MethodName := ⟨RX5, "clearRow", "()I"⟩
abbrev cX5_addToRow : ByteArray := prog_7_method_5_code
def yX5_addToRow : MethodName := ⟨RX5, "addToRow", "(I)I"⟩
abbrev cX5_setTolerances : ByteArray := prog_7_method_6_code
def yX5_setTolerances : MethodName := ⟨RX5, "setTolerances", "(II)I"⟩
abbrev cX5_noMould : ByteArray := prog_7_method_7_code
def yX5_noMould : MethodName := ⟨RX5, "noMould", "(I)Z"⟩
abbrev cX5_isMark : ByteArray := prog_7_method_8_code
def yX5_isMark : MethodName := ⟨RX5, "isMark", "(III)Z"⟩
abbrev cX5_putState : ByteArray := prog_7_method_9_code
def yX5_putState : MethodName := ⟨RX5, "putState", "(III)V"⟩
abbrev cX5_addMould : ByteArray := prog_7_method_10_code
def yX5_addMould : MethodName := ⟨RX5, "addMould", "(III)I"⟩
abbrev cX5_addState : ByteArray := prog_7_method_11_code
def yX5_addState : MethodName := ⟨RX5, "addState", "(III)I"⟩
abbrev cX5_removeState : ByteArray := prog_7_method_12_code
def yX5_removeState : MethodName := ⟨RX5, "removeState", "(I)I"⟩
abbrev cX5_stateCount : ByteArray := prog_7_method_13_code
def yX5_stateCount : MethodName := ⟨RX5, "stateCount", "(I)I"⟩
abbrev cX5_twinSpacings : ByteArray := prog_7_method_14_code
def yX5_twinSpacings : MethodName := ⟨RX5, "twinSpacings", "(II)I"⟩
abbrev cX5_twoBarred : ByteArray := prog_7_method_15_code
def yX5_twoBarred : MethodName := ⟨RX5, "twoBarred", "(II)I"⟩
abbrev cX5_areTwins : ByteArray := prog_7_method_16_code
def yX5_areTwins : MethodName := ⟨RX5, "areTwins", "(II)I"⟩
abbrev cX5_twinDifference : ByteArray := prog_7_method_17_code
def yX5_twinDifference : MethodName := ⟨RX5, "twinDifference", "(II)I"⟩
abbrev cX5_noSheet : ByteArray := prog_7_method_18_code
def yX5_noSheet : MethodName := ⟨RX5, "noSheet", "(I)Z"⟩
abbrev cX5_addSheet : ByteArray := prog_7_method_19_code
def yX5_addSheet : MethodName := ⟨RX5, "addSheet", "(III)I"⟩
abbrev cX5_setDates : ByteArray := prog_7_method_20_code
def yX5_setDates : MethodName := ⟨RX5, "setDates", "(III)I"⟩
abbrev cX5_count : ByteArray := prog_7_method_21_code
def yX5_count : MethodName := ⟨RX5, "count", "(I)I"⟩
abbrev cX5_spacingScore : ByteArray := prog_7_method_22_code
def yX5_spacingScore : MethodName := ⟨RX5, "spacingScore", "(IIZII)I"⟩
abbrev cX5_markScore : ByteArray := prog_7_method_23_code
def yX5_markScore : MethodName := ⟨RX5, "markScore", "(IIII)I"⟩
abbrev cX5_scoreOf : ByteArray := prog_7_method_24_code
def yX5_scoreOf : MethodName := ⟨RX5, "scoreOf", "(IIIII)I"⟩
abbrev cX5_findBest : ByteArray := prog_7_method_25_code
def yX5_findBest : MethodName := ⟨RX5, "findBest", "(II)V"⟩
abbrev cX5_bothBarred : ByteArray := prog_7_method_26_code
def yX5_bothBarred : MethodName := ⟨RX5, "bothBarred", "(II)I"⟩
abbrev cX5_score : ByteArray := prog_7_method_27_code
def yX5_score : MethodName := ⟨RX5, "score", "(II)I"⟩
abbrev cX5_placement : ByteArray := prog_7_method_28_code
def yX5_placement : MethodName := ⟨RX5, "placement", "(III)I"⟩
abbrev cX5_assign : ByteArray := prog_7_method_29_code
def yX5_assign : MethodName := ⟨RX5, "assign", "(I)V"⟩
abbrev cX5_assignAll : ByteArray := prog_7_method_30_code
def yX5_assignAll : MethodName := ⟨RX5, "assignAll", "()V"⟩
abbrev cX5_assignedMould : ByteArray := prog_7_method_31_code
def yX5_assignedMould : MethodName := ⟨RX5, "assignedMould", "(I)I"⟩
abbrev cX5_rivalCount : ByteArray := prog_7_method_32_code
def yX5_rivalCount : MethodName := ⟨RX5, "rivalCount", "(II)I"⟩
abbrev cX5_sheetsOf : ByteArray := prog_7_method_33_code
def yX5_sheetsOf : MethodName := ⟨RX5, "sheetsOf", "(I)I"⟩
abbrev cX5_isLower : ByteArray := prog_7_method_34_code
def yX5_isLower : MethodName := ⟨RX5, "isLower", "(II)Z"⟩
abbrev cX5_earliestOf : ByteArray := prog_7_method_35_code
def yX5_earliestOf : MethodName := ⟨RX5, "earliestOf", "(I)I"⟩
abbrev cX5_earliest : ByteArray := prog_7_method_36_code
def yX5_earliest : MethodName := ⟨RX5, "earliest", "(I)I"⟩
abbrev cX5_latest : ByteArray := prog_7_method_37_code
def yX5_latest : MethodName := ⟨RX5, "latest", "(I)I"⟩
abbrev cX5_isAhead : ByteArray := prog_7_method_38_code
def yX5_isAhead : MethodName := ⟨RX5, "isAhead", "(II)Z"⟩
abbrev cX5_isPlaced : ByteArray := prog_7_method_39_code
def yX5_isPlaced : MethodName := ⟨RX5, "isPlaced", "(II)Z"⟩
abbrev cX5_sheetAt : ByteArray := prog_7_method_40_code
def yX5_sheetAt : MethodName := ⟨RX5, "sheetAt", "(II)I"⟩
abbrev cX5_contradictionCount : ByteArray := prog_7_method_41_code
def yX5_contradictionCount : MethodName := ⟨RX5, "contradictionCount", "(I)I"⟩
def RJ9 : String := "java/lang/Math"
def TJ9 : u_T := fun k => match k with
  | _ => ("", "", "", false)
def tyJ9 : Nat → FieldType := fun k => match k with
  | _ => .int
theorem nmJ9 : ∀ a, a < 0 → ∀ b, b < 0 → a ≠ b → (TJ9 a).2.1 ≠ (TJ9 b).2.1 := by decide +kernel
theorem tyJ9_ok : ∀ k, k < 0 → parseFieldDescriptor (TJ9 k).2.2.1 = some (tyJ9 k) := by decide +kernel
abbrev cJ9_abs_0f7a4 : ByteArray := prog_9_method_59_code
def yJ9_abs_0f7a4 : MethodName := ⟨RJ9, "abs", "(I)I"⟩
abbrev cJ9_max_7cf53 : ByteArray := prog_9_method_65_code
def yJ9_max_7cf53 : MethodName := ⟨RJ9, "max", "(II)I"⟩
abbrev cJ9_min_7cf53 : ByteArray := prog_9_method_69_code
def yJ9_min_7cf53 : MethodName := ⟨RJ9, "min", "(II)I"⟩
def RJ7 : String := "java/util/Arrays"
def TJ7 : u_T := fun k => match k with
  | _ => ("", "", "", false)
def tyJ7 : Nat → FieldType := fun k => match k with
  | _ => .int
theorem nmJ7 : ∀ a, a < 0 → ∀ b, b < 0 → a ≠ b → (TJ7 a).2.1 ≠ (TJ7 b).2.1 := by decide +kernel
theorem tyJ7_ok : ∀ k, k < 0 → parseFieldDescriptor (TJ7 k).2.2.1 = some (tyJ7 k) := by decide +kernel
abbrev cJ7_copyOf_59c91 : ByteArray := prog_11_method_123_code
def yJ7_copyOf_59c91 : MethodName := ⟨RJ7, "copyOf", "([II)[I"⟩
def RL : String := "MouldMatcherLaw"
abbrev cL_law : ByteArray := code
def yL_law : MethodName := ⟨RL, "law", "([I)Z"⟩
abbrev vwCl : List vw_C := [(RX0, TX0, 7), (RX1, TX1, 6), (RX2, TX2, 7), (RX3, TX3, 6), (RX4, TX4, 11), (RX5, TX5, 28)]
end
section
theorem dX0_init_0 : decode cX0_init 0 = .ok (.aload_n 0, 1) := by decide +kernel
theorem dX0_init_1 : decode cX0_init 1 = .ok (.invokespecial 3, 3) := by decide +kernel
theorem dX0_init_4 : decode cX0_init 4 = .ok (.aload_n 0, 1) := by decide +kernel
theorem dX0_init_5 : decode cX0_init 5 = .ok (.iconst 0, 1) := by decide +kernel
theorem dX0_init_6 : decode cX0_init 6 = .ok (.putfield 9, 3) := by decide +kernel
theorem dX0_init_9 : decode cX0_init 9 = .ok (.aload_n 0, 1) := by decide +kernel
theorem dX0_init_10 : decode cX0_init 10 = .ok (.iconst 0, 1) := by decide +kernel
theorem dX0_init_11 : decode cX0_init 11 = .ok (.putfield 15, 3) := by decide +kernel
theorem dX0_init_14 : decode cX0_init 14 = .ok (.aload_n 0, 1) := by decide +kernel
theorem dX0_init_15 : decode cX0_init 15 = .ok (.iconst 0, 1) := by decide +kernel
theorem dX0_init_16 : decode cX0_init 16 = .ok (.putfield 18, 3) := by decide +kernel
theorem dX0_init_19 : decode cX0_init 19 = .ok (.aload_n 0, 1) := by decide +kernel
theorem dX0_init_20 : decode cX0_init 20 = .ok (.iconst 0, 1) := by decide +kernel
theorem dX0_init_21 : decode cX0_init 21 = .ok (.putfield 22, 3) := by decide +kernel
theorem dX0_init_24 : decode cX0_init 24 = .ok (.aload_n 0, 1) := by decide +kernel
theorem dX0_init_25 : decode cX0_init 25 = .ok (.iconst 0, 1) := by decide +kernel
theorem dX0_init_26 : decode cX0_init 26 = .ok (.putfield 25, 3) := by decide +kernel
theorem dX0_init_29 : decode cX0_init 29 = .ok (.aload_n 0, 1) := by decide +kernel
theorem dX0_init_30 : decode cX0_init 30 = .ok (.iconst 0, 1) := by decide +kernel
theorem dX0_init_31 : decode cX0_init 31 = .ok (.putfield 28, 3) := by decide +kernel
theorem dX0_init_34 : decode cX0_init 34 = .ok (.aload_n 0, 1) := by decide +kernel
theorem dX0_init_35 : decode cX0_init 35 = .ok (.iconst (-1), 1) := by decide +kernel
theorem dX0_init_36 : decode cX0_init 36 = .ok (.putfield 31, 3) := by decide +kernel
theorem dX0_init_39 : decode cX0_init 39 = .ok (.return_, 1) := by decide +kernel
theorem dX1_init_0 : decode cX1_init 0 = .ok (.aload_n 0, 1) := by decide +kernel
theorem dX1_init_1 : decode cX1_init 1 = .ok (.invokespecial 3, 3) := by decide +kernel
theorem dX1_init_4 : decode cX1_init 4 = .ok (.aload_n 0, 1) := by decide +kernel
theorem dX1_init_5 : decode cX1_init 5 = .ok (.bipush 6, 2) := by decide +kernel
theorem dX1_init_7 : decode cX1_init 7 = .ok (.newarray .int, 2) := by decide +kernel
theorem dX1_init_9 : decode cX1_init 9 = .ok (.putfield 9, 3) := by decide +kernel
theorem dX1_init_12 : decode cX1_init 12 = .ok (.aload_n 0, 1) := by decide +kernel
theorem dX1_init_13 : decode cX1_init 13 = .ok (.bipush 6, 2) := by decide +kernel
theorem dX1_init_15 : decode cX1_init 15 = .ok (.newarray .int, 2) := by decide +kernel
theorem dX1_init_17 : decode cX1_init 17 = .ok (.putfield 15, 3) := by decide +kernel
theorem dX1_init_20 : decode cX1_init 20 = .ok (.aload_n 0, 1) := by decide +kernel
theorem dX1_init_21 : decode cX1_init 21 = .ok (.iconst 0, 1) := by decide +kernel
theorem dX1_init_22 : decode cX1_init 22 = .ok (.putfield 18, 3) := by decide +kernel
theorem dX1_init_25 : decode cX1_init 25 = .ok (.aload_n 0, 1) := by decide +kernel
theorem dX1_init_26 : decode cX1_init 26 = .ok (.aload_n 1, 1) := by decide +kernel
theorem dX1_init_27 : decode cX1_init 27 = .ok (.putfield 22, 3) := by decide +kernel
theorem dX1_init_30 : decode cX1_init 30 = .ok (.aload_n 0, 1) := by decide +kernel
theorem dX1_init_31 : decode cX1_init 31 = .ok (.iload_n 2, 1) := by decide +kernel
theorem dX1_init_32 : decode cX1_init 32 = .ok (.putfield 25, 3) := by decide +kernel
theorem dX1_init_35 : decode cX1_init 35 = .ok (.aload_n 0, 1) := by decide +kernel
theorem dX1_init_36 : decode cX1_init 36 = .ok (.iload_n 3, 1) := by decide +kernel
theorem dX1_init_37 : decode cX1_init 37 = .ok (.putfield 28, 3) := by decide +kernel
theorem dX1_init_40 : decode cX1_init 40 = .ok (.return_, 1) := by decide +kernel
theorem dX1_append_0 : decode cX1_append 0 = .ok (.aload_n 0, 1) := by decide +kernel
theorem dX1_append_1 : decode cX1_append 1 = .ok (.getfield 18, 3) := by decide +kernel
theorem dX1_append_4 : decode cX1_append 4 = .ok (.bipush 6, 2) := by decide +kernel
theorem dX1_append_6 : decode cX1_append 6 = .ok (.if_icmp .ge 33, 3) := by decide +kernel
theorem dX1_append_9 : decode cX1_append 9 = .ok (.aload_n 0, 1) := by decide +kernel
theorem dX1_append_10 : decode cX1_append 10 = .ok (.getfield 9, 3) := by decide +kernel
theorem dX1_append_13 : decode cX1_append 13 = .ok (.aload_n 0, 1) := by decide +kernel
theorem dX1_append_14 : decode cX1_append 14 = .ok (.getfield 18, 3) := by decide +kernel
theorem dX1_append_17 : decode cX1_append 17 = .ok (.iload_n 1, 1) := by decide +kernel
theorem dX1_append_18 : decode cX1_append 18 = .ok (.iastore, 1) := by decide +kernel
theorem dX1_append_19 : decode cX1_append 19 = .ok (.aload_n 0, 1) := by decide +kernel
theorem dX1_append_20 : decode cX1_append 20 = .ok (.getfield 15, 3) := by decide +kernel
theorem dX1_append_23 : decode cX1_append 23 = .ok (.aload_n 0, 1) := by decide +kernel
theorem dX1_append_24 : decode cX1_append 24 = .ok (.getfield 18, 3) := by decide +kernel
theorem dX1_append_27 : decode cX1_append 27 = .ok (.iload_n 2, 1) := by decide +kernel
theorem dX1_append_28 : decode cX1_append 28 = .ok (.iastore, 1) := by decide +kernel
theorem dX1_append_29 : decode cX1_append 29 = .ok (.aload_n 0, 1) := by decide +kernel
theorem dX1_append_30 : decode cX1_append 30 = .ok (.dup, 1) := by decide +kernel
theorem dX1_append_31 : decode cX1_append 31 = .ok (.getfield 18, 3) := by decide +kernel
theorem dX1_append_34 : decode cX1_append 34 = .ok (.iconst 1, 1) := by decide +kernel
theorem dX1_append_35 : decode cX1_append 35 = .ok (.iadd, 1) := by decide +kernel
theorem dX1_append_36 : decode cX1_append 36 = .ok (.putfield 18, 3) := by decide +kernel
theorem dX1_append_39 : decode cX1_append 39 = .ok (.return_, 1) := by decide +kernel
theorem dX2_init_0 : decode cX2_init 0 = .ok (.aload_n 0, 1) := by decide +kernel
theorem dX2_init_1 : decode cX2_init 1 = .ok (.invokespecial 3, 3) := by decide +kernel
theorem dX2_init_4 : decode cX2_init 4 = .ok (.aload_n 0, 1) := by decide +kernel
theorem dX2_init_5 : decode cX2_init 5 = .ok (.iconst 0, 1) := by decide +kernel
theorem dX2_init_6 : decode cX2_init 6 = .ok (.putfield 9, 3) := by decide +kernel
theorem dX2_init_9 : decode cX2_init 9 = .ok (.aload_n 0, 1) := by decide +kernel
theorem dX2_init_10 : decode cX2_init 10 = .ok (.sipush 9999, 3) := by decide +kernel
theorem dX2_init_13 : decode cX2_init 13 = .ok (.putfield 15, 3) := by decide +kernel
theorem dX2_init_16 : decode cX2_init 16 = .ok (.aload_n 0, 1) := by decide +kernel
theorem dX2_init_17 : decode cX2_init 17 = .ok (.bipush 10, 2) := by decide +kernel
theorem dX2_init_19 : decode cX2_init 19 = .ok (.anewarray 18, 3) := by decide +kernel
theorem dX2_init_22 : decode cX2_init 22 = .ok (.putfield 20, 3) := by decide +kernel
theorem dX2_init_25 : decode cX2_init 25 = .ok (.aload_n 0, 1) := by decide +kernel
theorem dX2_init_26 : decode cX2_init 26 = .ok (.aload_n 1, 1) := by decide +kernel
theorem dX2_init_27 : decode cX2_init 27 = .ok (.putfield 24, 3) := by decide +kernel
theorem dX2_init_30 : decode cX2_init 30 = .ok (.aload_n 0, 1) := by decide +kernel
theorem dX2_init_31 : decode cX2_init 31 = .ok (.iload_n 2, 1) := by decide +kernel
theorem dX2_init_32 : decode cX2_init 32 = .ok (.putfield 28, 3) := by decide +kernel
theorem dX2_init_35 : decode cX2_init 35 = .ok (.aload_n 0, 1) := by decide +kernel
theorem dX2_init_36 : decode cX2_init 36 = .ok (.iload_n 3, 1) := by decide +kernel
theorem dX2_init_37 : decode cX2_init 37 = .ok (.putfield 31, 3) := by decide +kernel
theorem dX2_init_40 : decode cX2_init 40 = .ok (.aload_n 0, 1) := by decide +kernel
theorem dX2_init_41 : decode cX2_init 41 = .ok (.iload 4, 2) := by decide +kernel
theorem dX2_init_43 : decode cX2_init 43 = .ok (.putfield 34, 3) := by decide +kernel
theorem dX2_init_46 : decode cX2_init 46 = .ok (.iconst 0, 1) := by decide +kernel
theorem dX2_init_47 : decode cX2_init 47 = .ok (.istore 5, 2) := by decide +kernel
theorem dX2_init_49 : decode cX2_init 49 = .ok (.iload 5, 2) := by decide +kernel
theorem dX2_init_51 : decode cX2_init 51 = .ok (.bipush 10, 2) := by decide +kernel
theorem dX2_init_53 : decode cX2_init 53 = .ok (.if_icmp .ge 23, 3) := by decide +kernel
theorem dX2_init_56 : decode cX2_init 56 = .ok (.aload_n 0, 1) := by decide +kernel
theorem dX2_init_57 : decode cX2_init 57 = .ok (.getfield 20, 3) := by decide +kernel
theorem dX2_init_60 : decode cX2_init 60 = .ok (.iload 5, 2) := by decide +kernel
theorem dX2_init_62 : decode cX2_init 62 = .ok (.new 18, 3) := by decide +kernel
theorem dX2_init_65 : decode cX2_init 65 = .ok (.dup, 1) := by decide +kernel
theorem dX2_init_66 : decode cX2_init 66 = .ok (.invokespecial 37, 3) := by decide +kernel
theorem dX2_init_69 : decode cX2_init 69 = .ok (.aastore, 1) := by decide +kernel
theorem dX2_init_70 : decode cX2_init 70 = .ok (.iinc 5 1, 3) := by decide +kernel
theorem dX2_init_73 : decode cX2_init 73 = .ok (.goto (-24), 3) := by decide +kernel
theorem dX2_init_76 : decode cX2_init 76 = .ok (.return_, 1) := by decide +kernel
theorem dX3_init_0 : decode cX3_init 0 = .ok (.aload_n 0, 1) := by decide +kernel
theorem dX3_init_1 : decode cX3_init 1 = .ok (.invokespecial 3, 3) := by decide +kernel
theorem dX3_init_4 : decode cX3_init 4 = .ok (.aload_n 0, 1) := by decide +kernel
theorem dX3_init_5 : decode cX3_init 5 = .ok (.bipush 10, 2) := by decide +kernel
theorem dX3_init_7 : decode cX3_init 7 = .ok (.newarray .int, 2) := by decide +kernel
theorem dX3_init_9 : decode cX3_init 9 = .ok (.putfield 9, 3) := by decide +kernel
theorem dX3_init_12 : decode cX3_init 12 = .ok (.aload_n 0, 1) := by decide +kernel
theorem dX3_init_13 : decode cX3_init 13 = .ok (.iconst 0, 1) := by decide +kernel
theorem dX3_init_14 : decode cX3_init 14 = .ok (.putfield 15, 3) := by decide +kernel
theorem dX3_init_17 : decode cX3_init 17 = .ok (.aload_n 0, 1) := by decide +kernel
theorem dX3_init_18 : decode cX3_init 18 = .ok (.iconst 0, 1) := by decide +kernel
theorem dX3_init_19 : decode cX3_init 19 = .ok (.putfield 19, 3) := by decide +kernel
theorem dX3_init_22 : decode cX3_init 22 = .ok (.aload_n 0, 1) := by decide +kernel
theorem dX3_init_23 : decode cX3_init 23 = .ok (.iconst (-1), 1) := by decide +kernel
theorem dX3_init_24 : decode cX3_init 24 = .ok (.putfield 22, 3) := by decide +kernel
theorem dX3_init_27 : decode cX3_init 27 = .ok (.aload_n 0, 1) := by decide +kernel
theorem dX3_init_28 : decode cX3_init 28 = .ok (.iconst 0, 1) := by decide +kernel
theorem dX3_init_29 : decode cX3_init 29 = .ok (.putfield 25, 3) := by decide +kernel
theorem dX3_init_32 : decode cX3_init 32 = .ok (.aload_n 0, 1) := by decide +kernel
theorem dX3_init_33 : decode cX3_init 33 = .ok (.iconst 0, 1) := by decide +kernel
theorem dX3_init_34 : decode cX3_init 34 = .ok (.putfield 28, 3) := by decide +kernel
theorem dX3_init_37 : decode cX3_init 37 = .ok (.return_, 1) := by decide +kernel
theorem dX3_turn_0 : decode cX3_turn 0 = .ok (.iload_n 2, 1) := by decide +kernel
theorem dX3_turn_1 : decode cX3_turn 1 = .ok (.iconst 1, 1) := by decide +kernel
theorem dX3_turn_2 : decode cX3_turn 2 = .ok (.if_icmp .eq 8, 3) := by decide +kernel
theorem dX3_turn_5 : decode cX3_turn 5 = .ok (.iload_n 2, 1) := by decide +kernel
theorem dX3_turn_6 : decode cX3_turn 6 = .ok (.iconst 2, 1) := by decide +kernel
theorem dX3_turn_7 : decode cX3_turn 7 = .ok (.if_icmp .ne 7, 3) := by decide +kernel
theorem dX3_turn_10 : decode cX3_turn 10 = .ok (.iconst 1, 1) := by decide +kernel
theorem dX3_turn_11 : decode cX3_turn 11 = .ok (.goto 4, 3) := by decide +kernel
theorem dX3_turn_14 : decode cX3_turn 14 = .ok (.iconst 0, 1) := by decide +kernel
theorem dX3_turn_15 : decode cX3_turn 15 = .ok (.istore_n 3, 1) := by decide +kernel
theorem dX3_turn_16 : decode cX3_turn 16 = .ok (.iload_n 2, 1) := by decide +kernel
theorem dX3_turn_17 : decode cX3_turn 17 = .ok (.iconst 1, 1) := by decide +kernel
theorem dX3_turn_18 : decode cX3_turn 18 = .ok (.if_icmp .eq 8, 3) := by decide +kernel
theorem dX3_turn_21 : decode cX3_turn 21 = .ok (.iload_n 2, 1) := by decide +kernel
theorem dX3_turn_22 : decode cX3_turn 22 = .ok (.iconst 3, 1) := by decide +kernel
theorem dX3_turn_23 : decode cX3_turn 23 = .ok (.if_icmp .ne 7, 3) := by decide +kernel
theorem dX3_turn_26 : decode cX3_turn 26 = .ok (.iconst 1, 1) := by decide +kernel
theorem dX3_turn_27 : decode cX3_turn 27 = .ok (.goto 4, 3) := by decide +kernel
theorem dX3_turn_30 : decode cX3_turn 30 = .ok (.iconst 0, 1) := by decide +kernel
theorem dX3_turn_31 : decode cX3_turn 31 = .ok (.istore 4, 2) := by decide +kernel
theorem dX3_turn_33 : decode cX3_turn 33 = .ok (.aload_n 0, 1) := by decide +kernel
theorem dX3_turn_34 : decode cX3_turn 34 = .ok (.iload_n 2, 1) := by decide +kernel
theorem dX3_turn_35 : decode cX3_turn 35 = .ok (.putfield 19, 3) := by decide +kernel
theorem dX3_turn_38 : decode cX3_turn 38 = .ok (.aload_n 0, 1) := by decide +kernel
theorem dX3_turn_39 : decode cX3_turn 39 = .ok (.aload_n 1, 1) := by decide +kernel
theorem dX3_turn_40 : decode cX3_turn 40 = .ok (.getfield 31, 3) := by decide +kernel
theorem dX3_turn_43 : decode cX3_turn 43 = .ok (.arraylength, 1) := by decide +kernel
theorem dX3_turn_44 : decode cX3_turn 44 = .ok (.bipush 10, 2) := by decide +kernel
theorem dX3_turn_46 : decode cX3_turn 46 = .ok (.invokestatic 34, 3) := by decide +kernel
theorem dX3_turn_49 : decode cX3_turn 49 = .ok (.putfield 15, 3) := by decide +kernel
theorem dX3_turn_52 : decode cX3_turn 52 = .ok (.iconst 0, 1) := by decide +kernel
theorem dX3_turn_53 : decode cX3_turn 53 = .ok (.istore 5, 2) := by decide +kernel
theorem dX3_turn_55 : decode cX3_turn 55 = .ok (.iload 5, 2) := by decide +kernel
theorem dX3_turn_57 : decode cX3_turn 57 = .ok (.aload_n 0, 1) := by decide +kernel
theorem dX3_turn_58 : decode cX3_turn 58 = .ok (.getfield 15, 3) := by decide +kernel
theorem dX3_turn_61 : decode cX3_turn 61 = .ok (.if_icmp .ge 39, 3) := by decide +kernel
theorem dX3_turn_64 : decode cX3_turn 64 = .ok (.aload_n 0, 1) := by decide +kernel
theorem dX3_turn_65 : decode cX3_turn 65 = .ok (.getfield 9, 3) := by decide +kernel
theorem dX3_turn_68 : decode cX3_turn 68 = .ok (.iload 5, 2) := by decide +kernel
theorem dX3_turn_70 : decode cX3_turn 70 = .ok (.aload_n 1, 1) := by decide +kernel
theorem dX3_turn_71 : decode cX3_turn 71 = .ok (.getfield 31, 3) := by decide +kernel
theorem dX3_turn_74 : decode cX3_turn 74 = .ok (.iload_n 3, 1) := by decide +kernel
theorem dX3_turn_75 : decode cX3_turn 75 = .ok (.ifCond .eq 15, 3) := by decide +kernel
theorem dX3_turn_78 : decode cX3_turn 78 = .ok (.aload_n 0, 1) := by decide +kernel
theorem dX3_turn_79 : decode cX3_turn 79 = .ok (.getfield 15, 3) := by decide +kernel
theorem dX3_turn_82 : decode cX3_turn 82 = .ok (.iconst 1, 1) := by decide +kernel
theorem dX3_turn_83 : decode cX3_turn 83 = .ok (.isub, 1) := by decide +kernel
theorem dX3_turn_84 : decode cX3_turn 84 = .ok (.iload 5, 2) := by decide +kernel
theorem dX3_turn_86 : decode cX3_turn 86 = .ok (.isub, 1) := by decide +kernel
theorem dX3_turn_87 : decode cX3_turn 87 = .ok (.goto 5, 3) := by decide +kernel
theorem dX3_turn_90 : decode cX3_turn 90 = .ok (.iload 5, 2) := by decide +kernel
theorem dX3_turn_92 : decode cX3_turn 92 = .ok (.iaload, 1) := by decide +kernel
theorem dX3_turn_93 : decode cX3_turn 93 = .ok (.iastore, 1) := by decide +kernel
theorem dX3_turn_94 : decode cX3_turn 94 = .ok (.iinc 5 1, 3) := by decide +kernel
theorem dX3_turn_97 : decode cX3_turn 97 = .ok (.goto (-42), 3) := by decide +kernel
theorem dX3_turn_100 : decode cX3_turn 100 = .ok (.aload_n 0, 1) := by decide +kernel
theorem dX3_turn_101 : decode cX3_turn 101 = .ok (.iconst (-1), 1) := by decide +kernel
theorem dX3_turn_102 : decode cX3_turn 102 = .ok (.putfield 22, 3) := by decide +kernel
theorem dX3_turn_105 : decode cX3_turn 105 = .ok (.aload_n 1, 1) := by decide +kernel
theorem dX3_turn_106 : decode cX3_turn 106 = .ok (.getfield 40, 3) := by decide +kernel
theorem dX3_turn_109 : decode cX3_turn 109 = .ok (.ifCond .lt 97, 3) := by decide +kernel
theorem dX3_turn_112 : decode cX3_turn 112 = .ok (.aload_n 1, 1) := by decide +kernel
theorem dX3_turn_113 : decode cX3_turn 113 = .ok (.getfield 40, 3) := by decide +kernel
theorem dX3_turn_116 : decode cX3_turn 116 = .ok (.aload_n 0, 1) := by decide +kernel
theorem dX3_turn_117 : decode cX3_turn 117 = .ok (.getfield 15, 3) := by decide +kernel
theorem dX3_turn_120 : decode cX3_turn 120 = .ok (.if_icmp .ge 86, 3) := by decide +kernel
theorem dX3_turn_123 : decode cX3_turn 123 = .ok (.aload_n 1, 1) := by decide +kernel
theorem dX3_turn_124 : decode cX3_turn 124 = .ok (.getfield 31, 3) := by decide +kernel
theorem dX3_turn_127 : decode cX3_turn 127 = .ok (.aload_n 1, 1) := by decide +kernel
theorem dX3_turn_128 : decode cX3_turn 128 = .ok (.getfield 40, 3) := by decide +kernel
theorem dX3_turn_131 : decode cX3_turn 131 = .ok (.iaload, 1) := by decide +kernel
theorem dX3_turn_132 : decode cX3_turn 132 = .ok (.istore 5, 2) := by decide +kernel
theorem dX3_turn_134 : decode cX3_turn 134 = .ok (.aload_n 0, 1) := by decide +kernel
theorem dX3_turn_135 : decode cX3_turn 135 = .ok (.iload_n 3, 1) := by decide +kernel
theorem dX3_turn_136 : decode cX3_turn 136 = .ok (.ifCond .eq 17, 3) := by decide +kernel
theorem dX3_turn_139 : decode cX3_turn 139 = .ok (.aload_n 0, 1) := by decide +kernel
theorem dX3_turn_140 : decode cX3_turn 140 = .ok (.getfield 15, 3) := by decide +kernel
theorem dX3_turn_143 : decode cX3_turn 143 = .ok (.iconst 1, 1) := by decide +kernel
theorem dX3_turn_144 : decode cX3_turn 144 = .ok (.isub, 1) := by decide +kernel
theorem dX3_turn_145 : decode cX3_turn 145 = .ok (.aload_n 1, 1) := by decide +kernel
theorem dX3_turn_146 : decode cX3_turn 146 = .ok (.getfield 40, 3) := by decide +kernel
theorem dX3_turn_149 : decode cX3_turn 149 = .ok (.isub, 1) := by decide +kernel
theorem dX3_turn_150 : decode cX3_turn 150 = .ok (.goto 7, 3) := by decide +kernel
theorem dX3_turn_153 : decode cX3_turn 153 = .ok (.aload_n 1, 1) := by decide +kernel
theorem dX3_turn_154 : decode cX3_turn 154 = .ok (.getfield 40, 3) := by decide +kernel
theorem dX3_turn_157 : decode cX3_turn 157 = .ok (.putfield 22, 3) := by decide +kernel
theorem dX3_turn_160 : decode cX3_turn 160 = .ok (.aload_n 0, 1) := by decide +kernel
theorem dX3_turn_161 : decode cX3_turn 161 = .ok (.iload_n 3, 1) := by decide +kernel
theorem dX3_turn_162 : decode cX3_turn 162 = .ok (.ifCond .eq 13, 3) := by decide +kernel
theorem dX3_turn_165 : decode cX3_turn 165 = .ok (.iload 5, 2) := by decide +kernel
theorem dX3_turn_167 : decode cX3_turn 167 = .ok (.aload_n 1, 1) := by decide +kernel
theorem dX3_turn_168 : decode cX3_turn 168 = .ok (.getfield 41, 3) := by decide +kernel
theorem dX3_turn_171 : decode cX3_turn 171 = .ok (.isub, 1) := by decide +kernel
theorem dX3_turn_172 : decode cX3_turn 172 = .ok (.goto 7, 3) := by decide +kernel
theorem dX3_turn_175 : decode cX3_turn 175 = .ok (.aload_n 1, 1) := by decide +kernel
theorem dX3_turn_176 : decode cX3_turn 176 = .ok (.getfield 41, 3) := by decide +kernel
theorem dX3_turn_179 : decode cX3_turn 179 = .ok (.putfield 25, 3) := by decide +kernel
theorem dX3_turn_182 : decode cX3_turn 182 = .ok (.aload_n 0, 1) := by decide +kernel
theorem dX3_turn_183 : decode cX3_turn 183 = .ok (.iload 4, 2) := by decide +kernel
theorem dX3_turn_185 : decode cX3_turn 185 = .ok (.ifCond .eq 14, 3) := by decide +kernel
theorem dX3_turn_188 : decode cX3_turn 188 = .ok (.sipush 300, 3) := by decide +kernel
theorem dX3_turn_191 : decode cX3_turn 191 = .ok (.aload_n 1, 1) := by decide +kernel
theorem dX3_turn_192 : decode cX3_turn 192 = .ok (.getfield 42, 3) := by decide +kernel
theorem dX3_turn_195 : decode cX3_turn 195 = .ok (.isub, 1) := by decide +kernel
theorem dX3_turn_196 : decode cX3_turn 196 = .ok (.goto 7, 3) := by decide +kernel
theorem dX3_turn_199 : decode cX3_turn 199 = .ok (.aload_n 1, 1) := by decide +kernel
theorem dX3_turn_200 : decode cX3_turn 200 = .ok (.getfield 42, 3) := by decide +kernel
theorem dX3_turn_203 : decode cX3_turn 203 = .ok (.putfield 28, 3) := by decide +kernel
theorem dX3_turn_206 : decode cX3_turn 206 = .ok (.return_, 1) := by decide +kernel
theorem dJ9_abs_0f7a4_0 : decode cJ9_abs_0f7a4 0 = .ok (.iload_n 0, 1) := by decide +kernel
theorem dJ9_abs_0f7a4_1 : decode cJ9_abs_0f7a4 1 = .ok (.ifCond .ge 8, 3) := by decide +kernel
theorem dJ9_abs_0f7a4_4 : decode cJ9_abs_0f7a4 4 = .ok (.iload_n 0, 1) := by decide +kernel
theorem dJ9_abs_0f7a4_5 : decode cJ9_abs_0f7a4 5 = .ok (.ineg, 1) := by decide +kernel
theorem dJ9_abs_0f7a4_6 : decode cJ9_abs_0f7a4 6 = .ok (.goto 4, 3) := by decide +kernel
theorem dJ9_abs_0f7a4_9 : decode cJ9_abs_0f7a4 9 = .ok (.iload_n 0, 1) := by decide +kernel
theorem dJ9_abs_0f7a4_10 : decode cJ9_abs_0f7a4 10 = .ok (.ireturn, 1) := by decide +kernel
theorem dJ9_max_7cf53_0 : decode cJ9_max_7cf53 0 = .ok (.iload_n 0, 1) := by decide +kernel
theorem dJ9_max_7cf53_1 : decode cJ9_max_7cf53 1 = .ok (.iload_n 1, 1) := by decide +kernel
theorem dJ9_max_7cf53_2 : decode cJ9_max_7cf53 2 = .ok (.if_icmp .lt 7, 3) := by decide +kernel
theorem dJ9_max_7cf53_5 : decode cJ9_max_7cf53 5 = .ok (.iload_n 0, 1) := by decide +kernel
theorem dJ9_max_7cf53_6 : decode cJ9_max_7cf53 6 = .ok (.goto 4, 3) := by decide +kernel
theorem dJ9_max_7cf53_9 : decode cJ9_max_7cf53 9 = .ok (.iload_n 1, 1) := by decide +kernel
theorem dJ9_max_7cf53_10 : decode cJ9_max_7cf53 10 = .ok (.ireturn, 1) := by decide +kernel
theorem dJ9_min_7cf53_0 : decode cJ9_min_7cf53 0 = .ok (.iload_n 0, 1) := by decide +kernel
theorem dJ9_min_7cf53_1 : decode cJ9_min_7cf53 1 = .ok (.iload_n 1, 1) := by decide +kernel
theorem dJ9_min_7cf53_2 : decode cJ9_min_7cf53 2 = .ok (.if_icmp .gt 7, 3) := by decide +kernel
theorem dJ9_min_7cf53_5 : decode cJ9_min_7cf53 5 = .ok (.iload_n 0, 1) := by decide +kernel
theorem dJ9_min_7cf53_6 : decode cJ9_min_7cf53 6 = .ok (.goto 4, 3) := by decide +kernel
theorem dJ9_min_7cf53_9 : decode cJ9_min_7cf53 9 = .ok (.iload_n 1, 1) := by decide +kernel
theorem dJ9_min_7cf53_10 : decode cJ9_min_7cf53 10 = .ok (.ireturn, 1) := by decide +kernel
theorem dJ7_copyOf_59c91_0 : decode cJ7_copyOf_59c91 0 = .ok (.iload_n 1, 1) := by decide +kernel
theorem dJ7_copyOf_59c91_1 : decode cJ7_copyOf_59c91 1 = .ok (.aload_n 0, 1) := by decide +kernel
theorem dJ7_copyOf_59c91_2 : decode cJ7_copyOf_59c91 2 = .ok (.arraylength, 1) := by decide +kernel
theorem dJ7_copyOf_59c91_3 : decode cJ7_copyOf_59c91 3 = .ok (.if_icmp .ne 11, 3) := by decide +kernel
theorem dJ7_copyOf_59c91_6 : decode cJ7_copyOf_59c91 6 = .ok (.aload_n 0, 1) := by decide +kernel
theorem dJ7_copyOf_59c91_7 : decode cJ7_copyOf_59c91 7 = .ok (.invokevirtual 316, 3) := by decide +kernel
theorem dJ7_copyOf_59c91_10 : decode cJ7_copyOf_59c91 10 = .ok (.checkcast 317, 3) := by decide +kernel
theorem dJ7_copyOf_59c91_13 : decode cJ7_copyOf_59c91 13 = .ok (.areturn, 1) := by decide +kernel
theorem dJ7_copyOf_59c91_14 : decode cJ7_copyOf_59c91 14 = .ok (.iload_n 1, 1) := by decide +kernel
theorem dJ7_copyOf_59c91_15 : decode cJ7_copyOf_59c91 15 = .ok (.newarray .int, 2) := by decide +kernel
theorem dJ7_copyOf_59c91_17 : decode cJ7_copyOf_59c91 17 = .ok (.astore_n 2, 1) := by decide +kernel
theorem dJ7_copyOf_59c91_18 : decode cJ7_copyOf_59c91 18 = .ok (.aload_n 0, 1) := by decide +kernel
theorem dJ7_copyOf_59c91_19 : decode cJ7_copyOf_59c91 19 = .ok (.iconst 0, 1) := by decide +kernel
theorem dJ7_copyOf_59c91_20 : decode cJ7_copyOf_59c91 20 = .ok (.aload_n 2, 1) := by decide +kernel
theorem dJ7_copyOf_59c91_21 : decode cJ7_copyOf_59c91 21 = .ok (.iconst 0, 1) := by decide +kernel
theorem dJ7_copyOf_59c91_22 : decode cJ7_copyOf_59c91 22 = .ok (.aload_n 0, 1) := by decide +kernel
theorem dJ7_copyOf_59c91_23 : decode cJ7_copyOf_59c91 23 = .ok (.arraylength, 1) := by decide +kernel
theorem dJ7_copyOf_59c91_24 : decode cJ7_copyOf_59c91 24 = .ok (.iload_n 1, 1) := by decide +kernel
theorem dJ7_copyOf_59c91_25 : decode cJ7_copyOf_59c91 25 = .ok (.invokestatic 304, 3) := by decide +kernel
theorem dJ7_copyOf_59c91_28 : decode cJ7_copyOf_59c91 28 = .ok (.invokestatic 150, 3) := by decide +kernel
theorem dJ7_copyOf_59c91_31 : decode cJ7_copyOf_59c91 31 = .ok (.aload_n 2, 1) := by decide +kernel
theorem dJ7_copyOf_59c91_32 : decode cJ7_copyOf_59c91 32 = .ok (.areturn, 1) := by decide +kernel
theorem dX4_init_0 : decode cX4_init 0 = .ok (.aload_n 0, 1) := by decide +kernel
theorem dX4_init_1 : decode cX4_init 1 = .ok (.invokespecial 1, 3) := by decide +kernel
theorem dX4_init_4 : decode cX4_init 4 = .ok (.aload_n 0, 1) := by decide +kernel
theorem dX4_init_5 : decode cX4_init 5 = .ok (.bipush 10, 2) := by decide +kernel
theorem dX4_init_7 : decode cX4_init 7 = .ok (.newarray .int, 2) := by decide +kernel
theorem dX4_init_9 : decode cX4_init 9 = .ok (.putfield 9, 3) := by decide +kernel
theorem dX4_init_12 : decode cX4_init 12 = .ok (.aload_n 0, 1) := by decide +kernel
theorem dX4_init_13 : decode cX4_init 13 = .ok (.iconst 0, 1) := by decide +kernel
theorem dX4_init_14 : decode cX4_init 14 = .ok (.putfield 13, 3) := by decide +kernel
theorem dX4_init_17 : decode cX4_init 17 = .ok (.aload_n 0, 1) := by decide +kernel
theorem dX4_init_18 : decode cX4_init 18 = .ok (.iconst 5, 1) := by decide +kernel
theorem dX4_init_19 : decode cX4_init 19 = .ok (.putfield 17, 3) := by decide +kernel
theorem dX4_init_22 : decode cX4_init 22 = .ok (.aload_n 0, 1) := by decide +kernel
theorem dX4_init_23 : decode cX4_init 23 = .ok (.bipush 20, 2) := by decide +kernel
theorem dX4_init_25 : decode cX4_init 25 = .ok (.putfield 20, 3) := by decide +kernel
theorem dX4_init_28 : decode cX4_init 28 = .ok (.aload_n 0, 1) := by decide +kernel
theorem dX4_init_29 : decode cX4_init 29 = .ok (.bipush 10, 2) := by decide +kernel
theorem dX4_init_31 : decode cX4_init 31 = .ok (.anewarray 23, 3) := by decide +kernel
theorem dX4_init_34 : decode cX4_init 34 = .ok (.putfield 25, 3) := by decide +kernel
theorem dX4_init_37 : decode cX4_init 37 = .ok (.aload_n 0, 1) := by decide +kernel
theorem dX4_init_38 : decode cX4_init 38 = .ok (.iconst 0, 1) := by decide +kernel
theorem dX4_init_39 : decode cX4_init 39 = .ok (.putfield 29, 3) := by decide +kernel
theorem dX4_init_42 : decode cX4_init 42 = .ok (.aload_n 0, 1) := by decide +kernel
theorem dX4_init_43 : decode cX4_init 43 = .ok (.bipush 30, 2) := by decide +kernel
theorem dX4_init_45 : decode cX4_init 45 = .ok (.anewarray 32, 3) := by decide +kernel
theorem dX4_init_48 : decode cX4_init 48 = .ok (.putfield 34, 3) := by decide +kernel
theorem dX4_init_51 : decode cX4_init 51 = .ok (.aload_n 0, 1) := by decide +kernel
theorem dX4_init_52 : decode cX4_init 52 = .ok (.iconst 0, 1) := by decide +kernel
theorem dX4_init_53 : decode cX4_init 53 = .ok (.putfield 38, 3) := by decide +kernel
theorem dX4_init_56 : decode cX4_init 56 = .ok (.aload_n 0, 1) := by decide +kernel
theorem dX4_init_57 : decode cX4_init 57 = .ok (.new 41, 3) := by decide +kernel
theorem dX4_init_60 : decode cX4_init 60 = .ok (.dup, 1) := by decide +kernel
theorem dX4_init_61 : decode cX4_init 61 = .ok (.invokespecial 43, 3) := by decide +kernel
theorem dX4_init_64 : decode cX4_init 64 = .ok (.putfield 44, 3) := by decide +kernel
theorem dX4_init_67 : decode cX4_init 67 = .ok (.aload_n 0, 1) := by decide +kernel
theorem dX4_init_68 : decode cX4_init 68 = .ok (.bipush 30, 2) := by decide +kernel
theorem dX4_init_70 : decode cX4_init 70 = .ok (.newarray .int, 2) := by decide +kernel
theorem dX4_init_72 : decode cX4_init 72 = .ok (.putfield 48, 3) := by decide +kernel
theorem dX4_init_75 : decode cX4_init 75 = .ok (.aload_n 0, 1) := by decide +kernel
theorem dX4_init_76 : decode cX4_init 76 = .ok (.bipush 30, 2) := by decide +kernel
theorem dX4_init_78 : decode cX4_init 78 = .ok (.newarray .int, 2) := by decide +kernel
theorem dX4_init_80 : decode cX4_init 80 = .ok (.putfield 51, 3) := by decide +kernel
theorem dX4_init_83 : decode cX4_init 83 = .ok (.return_, 1) := by decide +kernel
theorem dX4_clearRow_0 : decode cX4_clearRow 0 = .ok (.aload_n 0, 1) := by decide +kernel
theorem dX4_clearRow_1 : decode cX4_clearRow 1 = .ok (.getfield 13, 3) := by decide +kernel
theorem dX4_clearRow_4 : decode cX4_clearRow 4 = .ok (.istore_n 1, 1) := by decide +kernel
theorem dX4_clearRow_5 : decode cX4_clearRow 5 = .ok (.aload_n 0, 1) := by decide +kernel
theorem dX4_clearRow_6 : decode cX4_clearRow 6 = .ok (.iconst 0, 1) := by decide +kernel
theorem dX4_clearRow_7 : decode cX4_clearRow 7 = .ok (.putfield 13, 3) := by decide +kernel
theorem dX4_clearRow_10 : decode cX4_clearRow 10 = .ok (.iload_n 1, 1) := by decide +kernel
theorem dX4_clearRow_11 : decode cX4_clearRow 11 = .ok (.ireturn, 1) := by decide +kernel
theorem dX4_addToRow_0 : decode cX4_addToRow 0 = .ok (.iload_n 1, 1) := by decide +kernel
theorem dX4_addToRow_1 : decode cX4_addToRow 1 = .ok (.bipush 100, 2) := by decide +kernel
theorem dX4_addToRow_3 : decode cX4_addToRow 3 = .ok (.sipush 450, 3) := by decide +kernel
theorem dX4_addToRow_6 : decode cX4_addToRow 6 = .ok (.invokestatic 54, 3) := by decide +kernel
theorem dX4_addToRow_9 : decode cX4_addToRow 9 = .ok (.ifCond .ne 6, 3) := by decide +kernel
theorem dX4_addToRow_12 : decode cX4_addToRow 12 = .ok (.bipush (-3), 2) := by decide +kernel
theorem dX4_addToRow_14 : decode cX4_addToRow 14 = .ok (.ireturn, 1) := by decide +kernel
theorem dX4_addToRow_15 : decode cX4_addToRow 15 = .ok (.aload_n 0, 1) := by decide +kernel
theorem dX4_addToRow_16 : decode cX4_addToRow 16 = .ok (.getfield 13, 3) := by decide +kernel
theorem dX4_addToRow_19 : decode cX4_addToRow 19 = .ok (.bipush 10, 2) := by decide +kernel
theorem dX4_addToRow_21 : decode cX4_addToRow 21 = .ok (.if_icmp .lt 6, 3) := by decide +kernel
theorem dX4_addToRow_24 : decode cX4_addToRow 24 = .ok (.bipush (-5), 2) := by decide +kernel
theorem dX4_addToRow_26 : decode cX4_addToRow 26 = .ok (.ireturn, 1) := by decide +kernel
theorem dX4_addToRow_27 : decode cX4_addToRow 27 = .ok (.aload_n 0, 1) := by decide +kernel
theorem dX4_addToRow_28 : decode cX4_addToRow 28 = .ok (.getfield 9, 3) := by decide +kernel
theorem dX4_addToRow_31 : decode cX4_addToRow 31 = .ok (.aload_n 0, 1) := by decide +kernel
theorem dX4_addToRow_32 : decode cX4_addToRow 32 = .ok (.getfield 13, 3) := by decide +kernel
theorem dX4_addToRow_35 : decode cX4_addToRow 35 = .ok (.iload_n 1, 1) := by decide +kernel
theorem dX4_addToRow_36 : decode cX4_addToRow 36 = .ok (.iastore, 1) := by decide +kernel
theorem dX4_addToRow_37 : decode cX4_addToRow 37 = .ok (.aload_n 0, 1) := by decide +kernel
theorem dX4_addToRow_38 : decode cX4_addToRow 38 = .ok (.dup, 1) := by decide +kernel
theorem dX4_addToRow_39 : decode cX4_addToRow 39 = .ok (.getfield 13, 3) := by decide +kernel
theorem dX4_addToRow_42 : decode cX4_addToRow 42 = .ok (.iconst 1, 1) := by decide +kernel
theorem dX4_addToRow_43 : decode cX4_addToRow 43 = .ok (.iadd, 1) := by decide +kernel
theorem dX4_addToRow_44 : decode cX4_addToRow 44 = .ok (.putfield 13, 3) := by decide +kernel
theorem dX4_addToRow_47 : decode cX4_addToRow 47 = .ok (.aload_n 0, 1) := by decide +kernel
theorem dX4_addToRow_48 : decode cX4_addToRow 48 = .ok (.getfield 13, 3) := by decide +kernel
theorem dX4_addToRow_51 : decode cX4_addToRow 51 = .ok (.ireturn, 1) := by decide +kernel
theorem dX4_setTolerances_0 : decode cX4_setTolerances 0 = .ok (.iload_n 1, 1) := by decide +kernel
theorem dX4_setTolerances_1 : decode cX4_setTolerances 1 = .ok (.iconst 0, 1) := by decide +kernel
theorem dX4_setTolerances_2 : decode cX4_setTolerances 2 = .ok (.bipush 50, 2) := by decide +kernel
theorem dX4_setTolerances_4 : decode cX4_setTolerances 4 = .ok (.invokestatic 54, 3) := by decide +kernel
theorem dX4_setTolerances_7 : decode cX4_setTolerances 7 = .ok (.ifCond .eq 13, 3) := by decide +kernel
theorem dX4_setTolerances_10 : decode cX4_setTolerances 10 = .ok (.iload_n 2, 1) := by decide +kernel
theorem dX4_setTolerances_11 : decode cX4_setTolerances 11 = .ok (.iconst 0, 1) := by decide +kernel
theorem dX4_setTolerances_12 : decode cX4_setTolerances 12 = .ok (.bipush 100, 2) := by decide +kernel
theorem dX4_setTolerances_14 : decode cX4_setTolerances 14 = .ok (.invokestatic 54, 3) := by decide +kernel
theorem dX4_setTolerances_17 : decode cX4_setTolerances 17 = .ok (.ifCond .ne 6, 3) := by decide +kernel
theorem dX4_setTolerances_20 : decode cX4_setTolerances 20 = .ok (.bipush (-3), 2) := by decide +kernel
theorem dX4_setTolerances_22 : decode cX4_setTolerances 22 = .ok (.ireturn, 1) := by decide +kernel
theorem dX4_setTolerances_23 : decode cX4_setTolerances 23 = .ok (.aload_n 0, 1) := by decide +kernel
theorem dX4_setTolerances_24 : decode cX4_setTolerances 24 = .ok (.getfield 17, 3) := by decide +kernel
theorem dX4_setTolerances_27 : decode cX4_setTolerances 27 = .ok (.iload_n 1, 1) := by decide +kernel
theorem dX4_setTolerances_28 : decode cX4_setTolerances 28 = .ok (.if_icmp .ne 13, 3) := by decide +kernel
theorem dX4_setTolerances_31 : decode cX4_setTolerances 31 = .ok (.aload_n 0, 1) := by decide +kernel
theorem dX4_setTolerances_32 : decode cX4_setTolerances 32 = .ok (.getfield 20, 3) := by decide +kernel
theorem dX4_setTolerances_35 : decode cX4_setTolerances 35 = .ok (.iload_n 2, 1) := by decide +kernel
theorem dX4_setTolerances_36 : decode cX4_setTolerances 36 = .ok (.if_icmp .ne 5, 3) := by decide +kernel
theorem dX4_setTolerances_39 : decode cX4_setTolerances 39 = .ok (.iconst 0, 1) := by decide +kernel
theorem dX4_setTolerances_40 : decode cX4_setTolerances 40 = .ok (.ireturn, 1) := by decide +kernel
theorem dX4_setTolerances_41 : decode cX4_setTolerances 41 = .ok (.aload_n 0, 1) := by decide +kernel
theorem dX4_setTolerances_42 : decode cX4_setTolerances 42 = .ok (.iload_n 1, 1) := by decide +kernel
theorem dX4_setTolerances_43 : decode cX4_setTolerances 43 = .ok (.putfield 17, 3) := by decide +kernel
theorem dX4_setTolerances_46 : decode cX4_setTolerances 46 = .ok (.aload_n 0, 1) := by decide +kernel
theorem dX4_setTolerances_47 : decode cX4_setTolerances 47 = .ok (.iload_n 2, 1) := by decide +kernel
theorem dX4_setTolerances_48 : decode cX4_setTolerances 48 = .ok (.putfield 20, 3) := by decide +kernel
theorem dX4_setTolerances_51 : decode cX4_setTolerances 51 = .ok (.iconst 0, 1) := by decide +kernel
theorem dX4_setTolerances_52 : decode cX4_setTolerances 52 = .ok (.istore_n 3, 1) := by decide +kernel
theorem dX4_setTolerances_53 : decode cX4_setTolerances 53 = .ok (.iload_n 3, 1) := by decide +kernel
theorem dX4_setTolerances_54 : decode cX4_setTolerances 54 = .ok (.aload_n 0, 1) := by decide +kernel
theorem dX4_setTolerances_55 : decode cX4_setTolerances 55 = .ok (.getfield 29, 3) := by decide +kernel
theorem dX4_setTolerances_58 : decode cX4_setTolerances 58 = .ok (.if_icmp .ge 14, 3) := by decide +kernel
theorem dX4_setTolerances_61 : decode cX4_setTolerances 61 = .ok (.aload_n 0, 1) := by decide +kernel
theorem dX4_setTolerances_62 : decode cX4_setTolerances 62 = .ok (.iload_n 3, 1) := by decide +kernel
theorem dX4_setTolerances_63 : decode cX4_setTolerances 63 = .ok (.invokevirtual 58, 3) := by decide +kernel
theorem dX4_setTolerances_66 : decode cX4_setTolerances 66 = .ok (.iinc 3 1, 3) := by decide +kernel
theorem dX4_setTolerances_69 : decode cX4_setTolerances 69 = .ok (.goto (-16), 3) := by decide +kernel
theorem dX4_setTolerances_72 : decode cX4_setTolerances 72 = .ok (.iconst 1, 1) := by decide +kernel
theorem dX4_setTolerances_73 : decode cX4_setTolerances 73 = .ok (.ireturn, 1) := by decide +kernel
theorem dX4_addMould_0 : decode cX4_addMould 0 = .ok (.aload_n 0, 1) := by decide +kernel
theorem dX4_addMould_1 : decode cX4_addMould 1 = .ok (.getfield 13, 3) := by decide +kernel
theorem dX4_addMould_4 : decode cX4_addMould 4 = .ok (.iconst 3, 1) := by decide +kernel
theorem dX4_addMould_5 : decode cX4_addMould 5 = .ok (.if_icmp .ge 6, 3) := by decide +kernel
theorem dX4_addMould_8 : decode cX4_addMould 8 = .ok (.bipush (-4), 2) := by decide +kernel
theorem dX4_addMould_10 : decode cX4_addMould 10 = .ok (.ireturn, 1) := by decide +kernel
theorem dX4_addMould_11 : decode cX4_addMould 11 = .ok (.aload_n 0, 1) := by decide +kernel
theorem dX4_addMould_12 : decode cX4_addMould 12 = .ok (.iload_n 1, 1) := by decide +kernel
theorem dX4_addMould_13 : decode cX4_addMould 13 = .ok (.iload_n 2, 1) := by decide +kernel
theorem dX4_addMould_14 : decode cX4_addMould 14 = .ok (.iload_n 3, 1) := by decide +kernel
theorem dX4_addMould_15 : decode cX4_addMould 15 = .ok (.invokevirtual 62, 3) := by decide +kernel
theorem dX4_addMould_18 : decode cX4_addMould 18 = .ok (.ifCond .ne 6, 3) := by decide +kernel
theorem dX4_addMould_21 : decode cX4_addMould 21 = .ok (.bipush (-3), 2) := by decide +kernel
theorem dX4_addMould_23 : decode cX4_addMould 23 = .ok (.ireturn, 1) := by decide +kernel
theorem dX4_addMould_24 : decode cX4_addMould 24 = .ok (.aload_n 0, 1) := by decide +kernel
theorem dX4_addMould_25 : decode cX4_addMould 25 = .ok (.getfield 29, 3) := by decide +kernel
theorem dX4_addMould_28 : decode cX4_addMould 28 = .ok (.bipush 10, 2) := by decide +kernel
theorem dX4_addMould_30 : decode cX4_addMould 30 = .ok (.if_icmp .lt 6, 3) := by decide +kernel
theorem dX4_addMould_33 : decode cX4_addMould 33 = .ok (.bipush (-5), 2) := by decide +kernel
theorem dX4_addMould_35 : decode cX4_addMould 35 = .ok (.ireturn, 1) := by decide +kernel
theorem dX4_addMould_36 : decode cX4_addMould 36 = .ok (.new 23, 3) := by decide +kernel
theorem dX4_addMould_39 : decode cX4_addMould 39 = .ok (.dup, 1) := by decide +kernel
theorem dX4_addMould_40 : decode cX4_addMould 40 = .ok (.aload_n 0, 1) := by decide +kernel
theorem dX4_addMould_41 : decode cX4_addMould 41 = .ok (.getfield 9, 3) := by decide +kernel
theorem dX4_addMould_44 : decode cX4_addMould 44 = .ok (.aload_n 0, 1) := by decide +kernel
theorem dX4_addMould_45 : decode cX4_addMould 45 = .ok (.getfield 13, 3) := by decide +kernel
theorem dX4_addMould_48 : decode cX4_addMould 48 = .ok (.invokestatic 65, 3) := by decide +kernel
theorem dX4_addMould_51 : decode cX4_addMould 51 = .ok (.iload_n 1, 1) := by decide +kernel
theorem dX4_addMould_52 : decode cX4_addMould 52 = .ok (.aload_n 0, 1) := by decide +kernel
theorem dX4_addMould_53 : decode cX4_addMould 53 = .ok (.getfield 9, 3) := by decide +kernel
theorem dX4_addMould_56 : decode cX4_addMould 56 = .ok (.iload_n 1, 1) := by decide +kernel
theorem dX4_addMould_57 : decode cX4_addMould 57 = .ok (.iaload, 1) := by decide +kernel
theorem dX4_addMould_58 : decode cX4_addMould 58 = .ok (.invokespecial 71, 3) := by decide +kernel
theorem dX4_addMould_61 : decode cX4_addMould 61 = .ok (.astore 4, 2) := by decide +kernel
theorem dX4_addMould_63 : decode cX4_addMould 63 = .ok (.aload 4, 2) := by decide +kernel
theorem dX4_addMould_65 : decode cX4_addMould 65 = .ok (.iload_n 2, 1) := by decide +kernel
theorem dX4_addMould_66 : decode cX4_addMould 66 = .ok (.iload_n 3, 1) := by decide +kernel
theorem dX4_addMould_67 : decode cX4_addMould 67 = .ok (.invokevirtual 74, 3) := by decide +kernel
theorem dX4_addMould_70 : decode cX4_addMould 70 = .ok (.aload_n 0, 1) := by decide +kernel
theorem dX4_addMould_71 : decode cX4_addMould 71 = .ok (.getfield 25, 3) := by decide +kernel
theorem dX4_addMould_74 : decode cX4_addMould 74 = .ok (.aload_n 0, 1) := by decide +kernel
theorem dX4_addMould_75 : decode cX4_addMould 75 = .ok (.getfield 29, 3) := by decide +kernel
theorem dX4_addMould_78 : decode cX4_addMould 78 = .ok (.aload 4, 2) := by decide +kernel
theorem dX4_addMould_80 : decode cX4_addMould 80 = .ok (.aastore, 1) := by decide +kernel
theorem dX4_addMould_81 : decode cX4_addMould 81 = .ok (.aload_n 0, 1) := by decide +kernel
theorem dX4_addMould_82 : decode cX4_addMould 82 = .ok (.dup, 1) := by decide +kernel
theorem dX4_addMould_83 : decode cX4_addMould 83 = .ok (.getfield 29, 3) := by decide +kernel
theorem dX4_addMould_86 : decode cX4_addMould 86 = .ok (.iconst 1, 1) := by decide +kernel
theorem dX4_addMould_87 : decode cX4_addMould 87 = .ok (.iadd, 1) := by decide +kernel
theorem dX4_addMould_88 : decode cX4_addMould 88 = .ok (.putfield 29, 3) := by decide +kernel
theorem dX4_addMould_91 : decode cX4_addMould 91 = .ok (.aload_n 0, 1) := by decide +kernel
theorem dX4_addMould_92 : decode cX4_addMould 92 = .ok (.getfield 29, 3) := by decide +kernel
theorem dX4_addMould_95 : decode cX4_addMould 95 = .ok (.iconst 1, 1) := by decide +kernel
theorem dX4_addMould_96 : decode cX4_addMould 96 = .ok (.isub, 1) := by decide +kernel
theorem dX4_addMould_97 : decode cX4_addMould 97 = .ok (.ireturn, 1) := by decide +kernel
theorem dX4_addState_0 : decode cX4_addState 0 = .ok (.aload_n 0, 1) := by decide +kernel
theorem dX4_addState_1 : decode cX4_addState 1 = .ok (.iload_n 1, 1) := by decide +kernel
theorem dX4_addState_2 : decode cX4_addState 2 = .ok (.invokevirtual 78, 3) := by decide +kernel
theorem dX4_addState_5 : decode cX4_addState 5 = .ok (.astore 4, 2) := by decide +kernel
theorem dX4_addState_7 : decode cX4_addState 7 = .ok (.aload 4, 2) := by decide +kernel
theorem dX4_addState_9 : decode cX4_addState 9 = .ok (.ifnonnull 5, 3) := by decide +kernel
theorem dX4_addState_12 : decode cX4_addState 12 = .ok (.iconst (-1), 1) := by decide +kernel
theorem dX4_addState_13 : decode cX4_addState 13 = .ok (.ireturn, 1) := by decide +kernel
theorem dX4_addState_14 : decode cX4_addState 14 = .ok (.aload 4, 2) := by decide +kernel
theorem dX4_addState_16 : decode cX4_addState 16 = .ok (.getfield 82, 3) := by decide +kernel
theorem dX4_addState_19 : decode cX4_addState 19 = .ok (.iload_n 2, 1) := by decide +kernel
theorem dX4_addState_20 : decode cX4_addState 20 = .ok (.iload_n 3, 1) := by decide +kernel
theorem dX4_addState_21 : decode cX4_addState 21 = .ok (.invokestatic 85, 3) := by decide +kernel
theorem dX4_addState_24 : decode cX4_addState 24 = .ok (.ifCond .ne 6, 3) := by decide +kernel
theorem dX4_addState_27 : decode cX4_addState 27 = .ok (.bipush (-3), 2) := by decide +kernel
theorem dX4_addState_29 : decode cX4_addState 29 = .ok (.ireturn, 1) := by decide +kernel
theorem dX4_addState_30 : decode cX4_addState 30 = .ok (.aload 4, 2) := by decide +kernel
theorem dX4_addState_32 : decode cX4_addState 32 = .ok (.getfield 88, 3) := by decide +kernel
theorem dX4_addState_35 : decode cX4_addState 35 = .ok (.bipush 6, 2) := by decide +kernel
theorem dX4_addState_37 : decode cX4_addState 37 = .ok (.if_icmp .lt 6, 3) := by decide +kernel
theorem dX4_addState_40 : decode cX4_addState 40 = .ok (.bipush (-5), 2) := by decide +kernel
theorem dX4_addState_42 : decode cX4_addState 42 = .ok (.ireturn, 1) := by decide +kernel
theorem dX4_addState_43 : decode cX4_addState 43 = .ok (.aload 4, 2) := by decide +kernel
theorem dX4_addState_45 : decode cX4_addState 45 = .ok (.iload_n 2, 1) := by decide +kernel
theorem dX4_addState_46 : decode cX4_addState 46 = .ok (.iload_n 3, 1) := by decide +kernel
theorem dX4_addState_47 : decode cX4_addState 47 = .ok (.invokevirtual 74, 3) := by decide +kernel
theorem dX4_addState_50 : decode cX4_addState 50 = .ok (.aload_n 0, 1) := by decide +kernel
theorem dX4_addState_51 : decode cX4_addState 51 = .ok (.iload_n 1, 1) := by decide +kernel
theorem dX4_addState_52 : decode cX4_addState 52 = .ok (.invokevirtual 58, 3) := by decide +kernel
theorem dX4_addState_55 : decode cX4_addState 55 = .ok (.aload 4, 2) := by decide +kernel
theorem dX4_addState_57 : decode cX4_addState 57 = .ok (.getfield 88, 3) := by decide +kernel
theorem dX4_addState_60 : decode cX4_addState 60 = .ok (.iconst 1, 1) := by decide +kernel
theorem dX4_addState_61 : decode cX4_addState 61 = .ok (.isub, 1) := by decide +kernel
theorem dX4_addState_62 : decode cX4_addState 62 = .ok (.ireturn, 1) := by decide +kernel
theorem dX4_removeState_0 : decode cX4_removeState 0 = .ok (.aload_n 0, 1) := by decide +kernel
theorem dX4_removeState_1 : decode cX4_removeState 1 = .ok (.iload_n 1, 1) := by decide +kernel
theorem dX4_removeState_2 : decode cX4_removeState 2 = .ok (.invokevirtual 78, 3) := by decide +kernel
theorem dX4_removeState_5 : decode cX4_removeState 5 = .ok (.astore_n 2, 1) := by decide +kernel
theorem dX4_removeState_6 : decode cX4_removeState 6 = .ok (.aload_n 2, 1) := by decide +kernel
theorem dX4_removeState_7 : decode cX4_removeState 7 = .ok (.ifnonnull 5, 3) := by decide +kernel
theorem dX4_removeState_10 : decode cX4_removeState 10 = .ok (.iconst (-1), 1) := by decide +kernel
theorem dX4_removeState_11 : decode cX4_removeState 11 = .ok (.ireturn, 1) := by decide +kernel
theorem dX4_removeState_12 : decode cX4_removeState 12 = .ok (.aload_n 2, 1) := by decide +kernel
theorem dX4_removeState_13 : decode cX4_removeState 13 = .ok (.getfield 88, 3) := by decide +kernel
theorem dX4_removeState_16 : decode cX4_removeState 16 = .ok (.iconst 1, 1) := by decide +kernel
theorem dX4_removeState_17 : decode cX4_removeState 17 = .ok (.if_icmp .gt 6, 3) := by decide +kernel
theorem dX4_removeState_20 : decode cX4_removeState 20 = .ok (.bipush (-6), 2) := by decide +kernel
theorem dX4_removeState_22 : decode cX4_removeState 22 = .ok (.ireturn, 1) := by decide +kernel
theorem dX4_removeState_23 : decode cX4_removeState 23 = .ok (.aload_n 2, 1) := by decide +kernel
theorem dX4_removeState_24 : decode cX4_removeState 24 = .ok (.dup, 1) := by decide +kernel
theorem dX4_removeState_25 : decode cX4_removeState 25 = .ok (.getfield 88, 3) := by decide +kernel
theorem dX4_removeState_28 : decode cX4_removeState 28 = .ok (.iconst 1, 1) := by decide +kernel
theorem dX4_removeState_29 : decode cX4_removeState 29 = .ok (.isub, 1) := by decide +kernel
theorem dX4_removeState_30 : decode cX4_removeState 30 = .ok (.putfield 88, 3) := by decide +kernel
theorem dX4_removeState_33 : decode cX4_removeState 33 = .ok (.aload_n 0, 1) := by decide +kernel
theorem dX4_removeState_34 : decode cX4_removeState 34 = .ok (.iload_n 1, 1) := by decide +kernel
theorem dX4_removeState_35 : decode cX4_removeState 35 = .ok (.invokevirtual 58, 3) := by decide +kernel
theorem dX4_removeState_38 : decode cX4_removeState 38 = .ok (.aload_n 2, 1) := by decide +kernel
theorem dX4_removeState_39 : decode cX4_removeState 39 = .ok (.getfield 88, 3) := by decide +kernel
theorem dX4_removeState_42 : decode cX4_removeState 42 = .ok (.ireturn, 1) := by decide +kernel
theorem dX4_stateCount_0 : decode cX4_stateCount 0 = .ok (.aload_n 0, 1) := by decide +kernel
theorem dX4_stateCount_1 : decode cX4_stateCount 1 = .ok (.iload_n 1, 1) := by decide +kernel
theorem dX4_stateCount_2 : decode cX4_stateCount 2 = .ok (.invokevirtual 78, 3) := by decide +kernel
theorem dX4_stateCount_5 : decode cX4_stateCount 5 = .ok (.astore_n 2, 1) := by decide +kernel
theorem dX4_stateCount_6 : decode cX4_stateCount 6 = .ok (.aload_n 2, 1) := by decide +kernel
theorem dX4_stateCount_7 : decode cX4_stateCount 7 = .ok (.ifnonnull 7, 3) := by decide +kernel
theorem dX4_stateCount_10 : decode cX4_stateCount 10 = .ok (.iconst (-1), 1) := by decide +kernel
theorem dX4_stateCount_11 : decode cX4_stateCount 11 = .ok (.goto 7, 3) := by decide +kernel
theorem dX4_stateCount_14 : decode cX4_stateCount 14 = .ok (.aload_n 2, 1) := by decide +kernel
theorem dX4_stateCount_15 : decode cX4_stateCount 15 = .ok (.getfield 88, 3) := by decide +kernel
theorem dX4_stateCount_18 : decode cX4_stateCount 18 = .ok (.ireturn, 1) := by decide +kernel
theorem dX4_areTwins_0 : decode cX4_areTwins 0 = .ok (.aload_n 0, 1) := by decide +kernel
theorem dX4_areTwins_1 : decode cX4_areTwins 1 = .ok (.iload_n 1, 1) := by decide +kernel
theorem dX4_areTwins_2 : decode cX4_areTwins 2 = .ok (.invokevirtual 78, 3) := by decide +kernel
theorem dX4_areTwins_5 : decode cX4_areTwins 5 = .ok (.astore_n 3, 1) := by decide +kernel
theorem dX4_areTwins_6 : decode cX4_areTwins 6 = .ok (.aload_n 0, 1) := by decide +kernel
theorem dX4_areTwins_7 : decode cX4_areTwins 7 = .ok (.iload_n 2, 1) := by decide +kernel
theorem dX4_areTwins_8 : decode cX4_areTwins 8 = .ok (.invokevirtual 78, 3) := by decide +kernel
theorem dX4_areTwins_11 : decode cX4_areTwins 11 = .ok (.astore 4, 2) := by decide +kernel
theorem dX4_areTwins_13 : decode cX4_areTwins 13 = .ok (.aload_n 3, 1) := by decide +kernel
theorem dX4_areTwins_14 : decode cX4_areTwins 14 = .ok (.ifnull 8, 3) := by decide +kernel
theorem dX4_areTwins_17 : decode cX4_areTwins 17 = .ok (.aload 4, 2) := by decide +kernel
theorem dX4_areTwins_19 : decode cX4_areTwins 19 = .ok (.ifnonnull 5, 3) := by decide +kernel
theorem dX4_areTwins_22 : decode cX4_areTwins 22 = .ok (.iconst (-1), 1) := by decide +kernel
theorem dX4_areTwins_23 : decode cX4_areTwins 23 = .ok (.ireturn, 1) := by decide +kernel
theorem dX4_areTwins_24 : decode cX4_areTwins 24 = .ok (.iload_n 1, 1) := by decide +kernel
theorem dX4_areTwins_25 : decode cX4_areTwins 25 = .ok (.iload_n 2, 1) := by decide +kernel
theorem dX4_areTwins_26 : decode cX4_areTwins 26 = .ok (.if_icmp .ne 6, 3) := by decide +kernel
theorem dX4_areTwins_29 : decode cX4_areTwins 29 = .ok (.bipush (-3), 2) := by decide +kernel
theorem dX4_areTwins_31 : decode cX4_areTwins 31 = .ok (.ireturn, 1) := by decide +kernel
theorem dX4_areTwins_32 : decode cX4_areTwins 32 = .ok (.aload_n 0, 1) := by decide +kernel
theorem dX4_areTwins_33 : decode cX4_areTwins 33 = .ok (.aload_n 3, 1) := by decide +kernel
theorem dX4_areTwins_34 : decode cX4_areTwins 34 = .ok (.aload 4, 2) := by decide +kernel
theorem dX4_areTwins_36 : decode cX4_areTwins 36 = .ok (.invokevirtual 91, 3) := by decide +kernel
theorem dX4_areTwins_39 : decode cX4_areTwins 39 = .ok (.ifCond .eq 7, 3) := by decide +kernel
theorem dX4_areTwins_42 : decode cX4_areTwins 42 = .ok (.iconst 1, 1) := by decide +kernel
theorem dX4_areTwins_43 : decode cX4_areTwins 43 = .ok (.goto 4, 3) := by decide +kernel
theorem dX4_areTwins_46 : decode cX4_areTwins 46 = .ok (.iconst 0, 1) := by decide +kernel
theorem dX4_areTwins_47 : decode cX4_areTwins 47 = .ok (.ireturn, 1) := by decide +kernel
theorem dX4_twinDifference_0 : decode cX4_twinDifference 0 = .ok (.aload_n 0, 1) := by decide +kernel
theorem dX4_twinDifference_1 : decode cX4_twinDifference 1 = .ok (.iload_n 1, 1) := by decide +kernel
theorem dX4_twinDifference_2 : decode cX4_twinDifference 2 = .ok (.invokevirtual 78, 3) := by decide +kernel
theorem dX4_twinDifference_5 : decode cX4_twinDifference 5 = .ok (.astore_n 3, 1) := by decide +kernel
theorem dX4_twinDifference_6 : decode cX4_twinDifference 6 = .ok (.aload_n 0, 1) := by decide +kernel
theorem dX4_twinDifference_7 : decode cX4_twinDifference 7 = .ok (.iload_n 2, 1) := by decide +kernel
theorem dX4_twinDifference_8 : decode cX4_twinDifference 8 = .ok (.invokevirtual 78, 3) := by decide +kernel
theorem dX4_twinDifference_11 : decode cX4_twinDifference 11 = .ok (.astore 4, 2) := by decide +kernel
theorem dX4_twinDifference_13 : decode cX4_twinDifference 13 = .ok (.aload_n 3, 1) := by decide +kernel
theorem dX4_twinDifference_14 : decode cX4_twinDifference 14 = .ok (.ifnull 8, 3) := by decide +kernel
theorem dX4_twinDifference_17 : decode cX4_twinDifference 17 = .ok (.aload 4, 2) := by decide +kernel
theorem dX4_twinDifference_19 : decode cX4_twinDifference 19 = .ok (.ifnonnull 5, 3) := by decide +kernel
theorem dX4_twinDifference_22 : decode cX4_twinDifference 22 = .ok (.iconst (-1), 1) := by decide +kernel
theorem dX4_twinDifference_23 : decode cX4_twinDifference 23 = .ok (.ireturn, 1) := by decide +kernel
theorem dX4_twinDifference_24 : decode cX4_twinDifference 24 = .ok (.iload_n 1, 1) := by decide +kernel
theorem dX4_twinDifference_25 : decode cX4_twinDifference 25 = .ok (.iload_n 2, 1) := by decide +kernel
theorem dX4_twinDifference_26 : decode cX4_twinDifference 26 = .ok (.if_icmp .ne 6, 3) := by decide +kernel
theorem dX4_twinDifference_29 : decode cX4_twinDifference 29 = .ok (.bipush (-3), 2) := by decide +kernel
theorem dX4_twinDifference_31 : decode cX4_twinDifference 31 = .ok (.ireturn, 1) := by decide +kernel
theorem dX4_twinDifference_32 : decode cX4_twinDifference 32 = .ok (.aload_n 0, 1) := by decide +kernel
theorem dX4_twinDifference_33 : decode cX4_twinDifference 33 = .ok (.aload_n 3, 1) := by decide +kernel
theorem dX4_twinDifference_34 : decode cX4_twinDifference 34 = .ok (.aload 4, 2) := by decide +kernel
theorem dX4_twinDifference_36 : decode cX4_twinDifference 36 = .ok (.invokevirtual 91, 3) := by decide +kernel
theorem dX4_twinDifference_39 : decode cX4_twinDifference 39 = .ok (.ifCond .ne 6, 3) := by decide +kernel
theorem dX4_twinDifference_42 : decode cX4_twinDifference 42 = .ok (.bipush (-6), 2) := by decide +kernel
theorem dX4_twinDifference_44 : decode cX4_twinDifference 44 = .ok (.ireturn, 1) := by decide +kernel
theorem dX4_twinDifference_45 : decode cX4_twinDifference 45 = .ok (.aload_n 3, 1) := by decide +kernel
theorem dX4_twinDifference_46 : decode cX4_twinDifference 46 = .ok (.getfield 95, 3) := by decide +kernel
theorem dX4_twinDifference_49 : decode cX4_twinDifference 49 = .ok (.iconst 0, 1) := by decide +kernel
theorem dX4_twinDifference_50 : decode cX4_twinDifference 50 = .ok (.iaload, 1) := by decide +kernel
theorem dX4_twinDifference_51 : decode cX4_twinDifference 51 = .ok (.aload 4, 2) := by decide +kernel
theorem dX4_twinDifference_53 : decode cX4_twinDifference 53 = .ok (.getfield 95, 3) := by decide +kernel
theorem dX4_twinDifference_56 : decode cX4_twinDifference 56 = .ok (.iconst 0, 1) := by decide +kernel
theorem dX4_twinDifference_57 : decode cX4_twinDifference 57 = .ok (.iaload, 1) := by decide +kernel
theorem dX4_twinDifference_58 : decode cX4_twinDifference 58 = .ok (.isub, 1) := by decide +kernel
theorem dX4_twinDifference_59 : decode cX4_twinDifference 59 = .ok (.invokestatic 98, 3) := by decide +kernel
theorem dX4_twinDifference_62 : decode cX4_twinDifference 62 = .ok (.istore 5, 2) := by decide +kernel
theorem dX4_twinDifference_64 : decode cX4_twinDifference 64 = .ok (.aload_n 3, 1) := by decide +kernel
theorem dX4_twinDifference_65 : decode cX4_twinDifference 65 = .ok (.getfield 104, 3) := by decide +kernel
theorem dX4_twinDifference_68 : decode cX4_twinDifference 68 = .ok (.iconst 0, 1) := by decide +kernel
theorem dX4_twinDifference_69 : decode cX4_twinDifference 69 = .ok (.iaload, 1) := by decide +kernel
theorem dX4_twinDifference_70 : decode cX4_twinDifference 70 = .ok (.aload 4, 2) := by decide +kernel
theorem dX4_twinDifference_72 : decode cX4_twinDifference 72 = .ok (.getfield 104, 3) := by decide +kernel
theorem dX4_twinDifference_75 : decode cX4_twinDifference 75 = .ok (.iconst 0, 1) := by decide +kernel
theorem dX4_twinDifference_76 : decode cX4_twinDifference 76 = .ok (.iaload, 1) := by decide +kernel
theorem dX4_twinDifference_77 : decode cX4_twinDifference 77 = .ok (.isub, 1) := by decide +kernel
theorem dX4_twinDifference_78 : decode cX4_twinDifference 78 = .ok (.invokestatic 98, 3) := by decide +kernel
theorem dX4_twinDifference_81 : decode cX4_twinDifference 81 = .ok (.istore 6, 2) := by decide +kernel
theorem dX4_twinDifference_83 : decode cX4_twinDifference 83 = .ok (.aload_n 3, 1) := by decide +kernel
theorem dX4_twinDifference_84 : decode cX4_twinDifference 84 = .ok (.aload 4, 2) := by decide +kernel
theorem dX4_twinDifference_86 : decode cX4_twinDifference 86 = .ok (.invokestatic 107, 3) := by decide +kernel
theorem dX4_twinDifference_89 : decode cX4_twinDifference 89 = .ok (.iload 5, 2) := by decide +kernel
theorem dX4_twinDifference_91 : decode cX4_twinDifference 91 = .ok (.iload 6, 2) := by decide +kernel
theorem dX4_twinDifference_93 : decode cX4_twinDifference 93 = .ok (.invokestatic 111, 3) := by decide +kernel
theorem dX4_twinDifference_96 : decode cX4_twinDifference 96 = .ok (.invokestatic 111, 3) := by decide +kernel
theorem dX4_twinDifference_99 : decode cX4_twinDifference 99 = .ok (.ireturn, 1) := by decide +kernel
theorem dX4_addSheet_0 : decode cX4_addSheet 0 = .ok (.aload_n 0, 1) := by decide +kernel
theorem dX4_addSheet_1 : decode cX4_addSheet 1 = .ok (.getfield 13, 3) := by decide +kernel
theorem dX4_addSheet_4 : decode cX4_addSheet 4 = .ok (.iconst 2, 1) := by decide +kernel
theorem dX4_addSheet_5 : decode cX4_addSheet 5 = .ok (.if_icmp .ge 6, 3) := by decide +kernel
theorem dX4_addSheet_8 : decode cX4_addSheet 8 = .ok (.bipush (-4), 2) := by decide +kernel
theorem dX4_addSheet_10 : decode cX4_addSheet 10 = .ok (.ireturn, 1) := by decide +kernel
theorem dX4_addSheet_11 : decode cX4_addSheet 11 = .ok (.iload_n 1, 1) := by decide +kernel
theorem dX4_addSheet_12 : decode cX4_addSheet 12 = .ok (.iconst (-1), 1) := by decide +kernel
theorem dX4_addSheet_13 : decode cX4_addSheet 13 = .ok (.if_icmp .eq 16, 3) := by decide +kernel
theorem dX4_addSheet_16 : decode cX4_addSheet 16 = .ok (.aload_n 0, 1) := by decide +kernel
theorem dX4_addSheet_17 : decode cX4_addSheet 17 = .ok (.iload_n 1, 1) := by decide +kernel
theorem dX4_addSheet_18 : decode cX4_addSheet 18 = .ok (.iload_n 2, 1) := by decide +kernel
theorem dX4_addSheet_19 : decode cX4_addSheet 19 = .ok (.iload_n 3, 1) := by decide +kernel
theorem dX4_addSheet_20 : decode cX4_addSheet 20 = .ok (.invokevirtual 62, 3) := by decide +kernel
theorem dX4_addSheet_23 : decode cX4_addSheet 23 = .ok (.ifCond .ne 6, 3) := by decide +kernel
theorem dX4_addSheet_26 : decode cX4_addSheet 26 = .ok (.bipush (-3), 2) := by decide +kernel
theorem dX4_addSheet_28 : decode cX4_addSheet 28 = .ok (.ireturn, 1) := by decide +kernel
theorem dX4_addSheet_29 : decode cX4_addSheet 29 = .ok (.aload_n 0, 1) := by decide +kernel
theorem dX4_addSheet_30 : decode cX4_addSheet 30 = .ok (.getfield 38, 3) := by decide +kernel
theorem dX4_addSheet_33 : decode cX4_addSheet 33 = .ok (.bipush 30, 2) := by decide +kernel
theorem dX4_addSheet_35 : decode cX4_addSheet 35 = .ok (.if_icmp .lt 6, 3) := by decide +kernel
theorem dX4_addSheet_38 : decode cX4_addSheet 38 = .ok (.bipush (-5), 2) := by decide +kernel
theorem dX4_addSheet_40 : decode cX4_addSheet 40 = .ok (.ireturn, 1) := by decide +kernel
theorem dX4_addSheet_41 : decode cX4_addSheet 41 = .ok (.aload_n 0, 1) := by decide +kernel
theorem dX4_addSheet_42 : decode cX4_addSheet 42 = .ok (.getfield 34, 3) := by decide +kernel
theorem dX4_addSheet_45 : decode cX4_addSheet 45 = .ok (.aload_n 0, 1) := by decide +kernel
theorem dX4_addSheet_46 : decode cX4_addSheet 46 = .ok (.getfield 38, 3) := by decide +kernel
theorem dX4_addSheet_49 : decode cX4_addSheet 49 = .ok (.new 32, 3) := by decide +kernel
theorem dX4_addSheet_52 : decode cX4_addSheet 52 = .ok (.dup, 1) := by decide +kernel
theorem dX4_addSheet_53 : decode cX4_addSheet 53 = .ok (.aload_n 0, 1) := by decide +kernel
theorem dX4_addSheet_54 : decode cX4_addSheet 54 = .ok (.getfield 9, 3) := by decide +kernel
theorem dX4_addSheet_57 : decode cX4_addSheet 57 = .ok (.aload_n 0, 1) := by decide +kernel
theorem dX4_addSheet_58 : decode cX4_addSheet 58 = .ok (.getfield 13, 3) := by decide +kernel
theorem dX4_addSheet_61 : decode cX4_addSheet 61 = .ok (.invokestatic 65, 3) := by decide +kernel
theorem dX4_addSheet_64 : decode cX4_addSheet 64 = .ok (.iload_n 1, 1) := by decide +kernel
theorem dX4_addSheet_65 : decode cX4_addSheet 65 = .ok (.iload_n 2, 1) := by decide +kernel
theorem dX4_addSheet_66 : decode cX4_addSheet 66 = .ok (.iload_n 3, 1) := by decide +kernel
theorem dX4_addSheet_67 : decode cX4_addSheet 67 = .ok (.invokespecial 115, 3) := by decide +kernel
theorem dX4_addSheet_70 : decode cX4_addSheet 70 = .ok (.aastore, 1) := by decide +kernel
theorem dX4_addSheet_71 : decode cX4_addSheet 71 = .ok (.aload_n 0, 1) := by decide +kernel
theorem dX4_addSheet_72 : decode cX4_addSheet 72 = .ok (.dup, 1) := by decide +kernel
theorem dX4_addSheet_73 : decode cX4_addSheet 73 = .ok (.getfield 38, 3) := by decide +kernel
theorem dX4_addSheet_76 : decode cX4_addSheet 76 = .ok (.iconst 1, 1) := by decide +kernel
theorem dX4_addSheet_77 : decode cX4_addSheet 77 = .ok (.iadd, 1) := by decide +kernel
theorem dX4_addSheet_78 : decode cX4_addSheet 78 = .ok (.putfield 38, 3) := by decide +kernel
theorem dX4_addSheet_81 : decode cX4_addSheet 81 = .ok (.aload_n 0, 1) := by decide +kernel
theorem dX4_addSheet_82 : decode cX4_addSheet 82 = .ok (.getfield 38, 3) := by decide +kernel
theorem dX4_addSheet_85 : decode cX4_addSheet 85 = .ok (.iconst 1, 1) := by decide +kernel
theorem dX4_addSheet_86 : decode cX4_addSheet 86 = .ok (.isub, 1) := by decide +kernel
theorem dX4_addSheet_87 : decode cX4_addSheet 87 = .ok (.ireturn, 1) := by decide +kernel
theorem dX4_setDates_0 : decode cX4_setDates 0 = .ok (.aload_n 0, 1) := by decide +kernel
theorem dX4_setDates_1 : decode cX4_setDates 1 = .ok (.iload_n 1, 1) := by decide +kernel
theorem dX4_setDates_2 : decode cX4_setDates 2 = .ok (.invokevirtual 118, 3) := by decide +kernel
theorem dX4_setDates_5 : decode cX4_setDates 5 = .ok (.astore 4, 2) := by decide +kernel
theorem dX4_setDates_7 : decode cX4_setDates 7 = .ok (.aload 4, 2) := by decide +kernel
theorem dX4_setDates_9 : decode cX4_setDates 9 = .ok (.ifnonnull 6, 3) := by decide +kernel
theorem dX4_setDates_12 : decode cX4_setDates 12 = .ok (.bipush (-2), 2) := by decide +kernel
theorem dX4_setDates_14 : decode cX4_setDates 14 = .ok (.ireturn, 1) := by decide +kernel
theorem dX4_setDates_15 : decode cX4_setDates 15 = .ok (.iload_n 2, 1) := by decide +kernel
theorem dX4_setDates_16 : decode cX4_setDates 16 = .ok (.iconst 0, 1) := by decide +kernel
theorem dX4_setDates_17 : decode cX4_setDates 17 = .ok (.sipush 9999, 3) := by decide +kernel
theorem dX4_setDates_20 : decode cX4_setDates 20 = .ok (.invokestatic 54, 3) := by decide +kernel
theorem dX4_setDates_23 : decode cX4_setDates 23 = .ok (.ifCond .eq 14, 3) := by decide +kernel
theorem dX4_setDates_26 : decode cX4_setDates 26 = .ok (.iload_n 3, 1) := by decide +kernel
theorem dX4_setDates_27 : decode cX4_setDates 27 = .ok (.iload_n 2, 1) := by decide +kernel
theorem dX4_setDates_28 : decode cX4_setDates 28 = .ok (.sipush 9999, 3) := by decide +kernel
theorem dX4_setDates_31 : decode cX4_setDates 31 = .ok (.invokestatic 54, 3) := by decide +kernel
theorem dX4_setDates_34 : decode cX4_setDates 34 = .ok (.ifCond .ne 6, 3) := by decide +kernel
theorem dX4_setDates_37 : decode cX4_setDates 37 = .ok (.bipush (-3), 2) := by decide +kernel
theorem dX4_setDates_39 : decode cX4_setDates 39 = .ok (.ireturn, 1) := by decide +kernel
theorem dX4_setDates_40 : decode cX4_setDates 40 = .ok (.aload 4, 2) := by decide +kernel
theorem dX4_setDates_42 : decode cX4_setDates 42 = .ok (.getfield 122, 3) := by decide +kernel
theorem dX4_setDates_45 : decode cX4_setDates 45 = .ok (.iload_n 2, 1) := by decide +kernel
theorem dX4_setDates_46 : decode cX4_setDates 46 = .ok (.if_icmp .ne 14, 3) := by decide +kernel
theorem dX4_setDates_49 : decode cX4_setDates 49 = .ok (.aload 4, 2) := by decide +kernel
theorem dX4_setDates_51 : decode cX4_setDates 51 = .ok (.getfield 125, 3) := by decide +kernel
theorem dX4_setDates_54 : decode cX4_setDates 54 = .ok (.iload_n 3, 1) := by decide +kernel
theorem dX4_setDates_55 : decode cX4_setDates 55 = .ok (.if_icmp .ne 5, 3) := by decide +kernel
theorem dX4_setDates_58 : decode cX4_setDates 58 = .ok (.iconst 0, 1) := by decide +kernel
theorem dX4_setDates_59 : decode cX4_setDates 59 = .ok (.ireturn, 1) := by decide +kernel
theorem dX4_setDates_60 : decode cX4_setDates 60 = .ok (.aload 4, 2) := by decide +kernel
theorem dX4_setDates_62 : decode cX4_setDates 62 = .ok (.iload_n 2, 1) := by decide +kernel
theorem dX4_setDates_63 : decode cX4_setDates 63 = .ok (.putfield 122, 3) := by decide +kernel
theorem dX4_setDates_66 : decode cX4_setDates 66 = .ok (.aload 4, 2) := by decide +kernel
theorem dX4_setDates_68 : decode cX4_setDates 68 = .ok (.iload_n 3, 1) := by decide +kernel
theorem dX4_setDates_69 : decode cX4_setDates 69 = .ok (.putfield 125, 3) := by decide +kernel
theorem dX4_setDates_72 : decode cX4_setDates 72 = .ok (.iconst 1, 1) := by decide +kernel
theorem dX4_setDates_73 : decode cX4_setDates 73 = .ok (.ireturn, 1) := by decide +kernel
theorem dX4_count_0 : decode cX4_count 0 = .ok (.iload_n 1, 1) := by decide +kernel
theorem dX4_count_1 : decode cX4_count 1 = .ok (.tableswitch 42 0 2 #[27, 32, 37], 27) := by decide +kernel
theorem dX4_count_28 : decode cX4_count 28 = .ok (.aload_n 0, 1) := by decide +kernel
theorem dX4_count_29 : decode cX4_count 29 = .ok (.getfield 29, 3) := by decide +kernel
theorem dX4_count_32 : decode cX4_count 32 = .ok (.ireturn, 1) := by decide +kernel
theorem dX4_count_33 : decode cX4_count 33 = .ok (.aload_n 0, 1) := by decide +kernel
theorem dX4_count_34 : decode cX4_count 34 = .ok (.getfield 38, 3) := by decide +kernel
theorem dX4_count_37 : decode cX4_count 37 = .ok (.ireturn, 1) := by decide +kernel
theorem dX4_count_38 : decode cX4_count 38 = .ok (.aload_n 0, 1) := by decide +kernel
theorem dX4_count_39 : decode cX4_count 39 = .ok (.getfield 13, 3) := by decide +kernel
theorem dX4_count_42 : decode cX4_count 42 = .ok (.ireturn, 1) := by decide +kernel
theorem dX4_count_43 : decode cX4_count 43 = .ok (.bipush (-3), 2) := by decide +kernel
theorem dX4_count_45 : decode cX4_count 45 = .ok (.ireturn, 1) := by decide +kernel
theorem dX4_score_0 : decode cX4_score 0 = .ok (.aload_n 0, 1) := by decide +kernel
theorem dX4_score_1 : decode cX4_score 1 = .ok (.iload_n 1, 1) := by decide +kernel
theorem dX4_score_2 : decode cX4_score 2 = .ok (.invokevirtual 118, 3) := by decide +kernel
theorem dX4_score_5 : decode cX4_score 5 = .ok (.astore_n 3, 1) := by decide +kernel
theorem dX4_score_6 : decode cX4_score 6 = .ok (.aload_n 3, 1) := by decide +kernel
theorem dX4_score_7 : decode cX4_score 7 = .ok (.ifnonnull 6, 3) := by decide +kernel
theorem dX4_score_10 : decode cX4_score 10 = .ok (.bipush (-2), 2) := by decide +kernel
theorem dX4_score_12 : decode cX4_score 12 = .ok (.ireturn, 1) := by decide +kernel
theorem dX4_score_13 : decode cX4_score 13 = .ok (.aload_n 0, 1) := by decide +kernel
theorem dX4_score_14 : decode cX4_score 14 = .ok (.iload_n 2, 1) := by decide +kernel
theorem dX4_score_15 : decode cX4_score 15 = .ok (.invokevirtual 78, 3) := by decide +kernel
theorem dX4_score_18 : decode cX4_score 18 = .ok (.ifnonnull 5, 3) := by decide +kernel
theorem dX4_score_21 : decode cX4_score 21 = .ok (.iconst (-1), 1) := by decide +kernel
theorem dX4_score_22 : decode cX4_score 22 = .ok (.ireturn, 1) := by decide +kernel
theorem dX4_score_23 : decode cX4_score 23 = .ok (.aload_n 0, 1) := by decide +kernel
theorem dX4_score_24 : decode cX4_score 24 = .ok (.aload_n 3, 1) := by decide +kernel
theorem dX4_score_25 : decode cX4_score 25 = .ok (.iload_n 2, 1) := by decide +kernel
theorem dX4_score_26 : decode cX4_score 26 = .ok (.invokevirtual 128, 3) := by decide +kernel
theorem dX4_score_29 : decode cX4_score 29 = .ok (.astore 4, 2) := by decide +kernel
theorem dX4_score_31 : decode cX4_score 31 = .ok (.aload 4, 2) := by decide +kernel
theorem dX4_score_33 : decode cX4_score 33 = .ok (.getfield 132, 3) := by decide +kernel
theorem dX4_score_36 : decode cX4_score 36 = .ok (.ifCond .eq 11, 3) := by decide +kernel
theorem dX4_score_39 : decode cX4_score 39 = .ok (.aload 4, 2) := by decide +kernel
theorem dX4_score_41 : decode cX4_score 41 = .ok (.getfield 138, 3) := by decide +kernel
theorem dX4_score_44 : decode cX4_score 44 = .ok (.goto 5, 3) := by decide +kernel
theorem dX4_score_47 : decode cX4_score 47 = .ok (.bipush (-6), 2) := by decide +kernel
theorem dX4_score_49 : decode cX4_score 49 = .ok (.ireturn, 1) := by decide +kernel
theorem dX4_placement_0 : decode cX4_placement 0 = .ok (.aload_n 0, 1) := by decide +kernel
theorem dX4_placement_1 : decode cX4_placement 1 = .ok (.iload_n 1, 1) := by decide +kernel
theorem dX4_placement_2 : decode cX4_placement 2 = .ok (.invokevirtual 118, 3) := by decide +kernel
theorem dX4_placement_5 : decode cX4_placement 5 = .ok (.astore 4, 2) := by decide +kernel
theorem dX4_placement_7 : decode cX4_placement 7 = .ok (.aload 4, 2) := by decide +kernel
theorem dX4_placement_9 : decode cX4_placement 9 = .ok (.ifnonnull 6, 3) := by decide +kernel
theorem dX4_placement_12 : decode cX4_placement 12 = .ok (.bipush (-2), 2) := by decide +kernel
theorem dX4_placement_14 : decode cX4_placement 14 = .ok (.ireturn, 1) := by decide +kernel
theorem dX4_placement_15 : decode cX4_placement 15 = .ok (.aload_n 0, 1) := by decide +kernel
theorem dX4_placement_16 : decode cX4_placement 16 = .ok (.iload_n 2, 1) := by decide +kernel
theorem dX4_placement_17 : decode cX4_placement 17 = .ok (.invokevirtual 78, 3) := by decide +kernel
theorem dX4_placement_20 : decode cX4_placement 20 = .ok (.ifnonnull 5, 3) := by decide +kernel
theorem dX4_placement_23 : decode cX4_placement 23 = .ok (.iconst (-1), 1) := by decide +kernel
theorem dX4_placement_24 : decode cX4_placement 24 = .ok (.ireturn, 1) := by decide +kernel
theorem dX4_placement_25 : decode cX4_placement 25 = .ok (.iload_n 3, 1) := by decide +kernel
theorem dX4_placement_26 : decode cX4_placement 26 = .ok (.iconst 0, 1) := by decide +kernel
theorem dX4_placement_27 : decode cX4_placement 27 = .ok (.iconst 3, 1) := by decide +kernel
theorem dX4_placement_28 : decode cX4_placement 28 = .ok (.invokestatic 54, 3) := by decide +kernel
theorem dX4_placement_31 : decode cX4_placement 31 = .ok (.ifCond .ne 6, 3) := by decide +kernel
theorem dX4_placement_34 : decode cX4_placement 34 = .ok (.bipush (-3), 2) := by decide +kernel
theorem dX4_placement_36 : decode cX4_placement 36 = .ok (.ireturn, 1) := by decide +kernel
theorem dX4_placement_37 : decode cX4_placement 37 = .ok (.aload_n 0, 1) := by decide +kernel
theorem dX4_placement_38 : decode cX4_placement 38 = .ok (.aload 4, 2) := by decide +kernel
theorem dX4_placement_40 : decode cX4_placement 40 = .ok (.iload_n 2, 1) := by decide +kernel
theorem dX4_placement_41 : decode cX4_placement 41 = .ok (.invokevirtual 128, 3) := by decide +kernel
theorem dX4_placement_44 : decode cX4_placement 44 = .ok (.astore 5, 2) := by decide +kernel
theorem dX4_placement_46 : decode cX4_placement 46 = .ok (.aload 5, 2) := by decide +kernel
theorem dX4_placement_48 : decode cX4_placement 48 = .ok (.getfield 132, 3) := by decide +kernel
theorem dX4_placement_51 : decode cX4_placement 51 = .ok (.ifCond .ne 6, 3) := by decide +kernel
theorem dX4_placement_54 : decode cX4_placement 54 = .ok (.bipush (-6), 2) := by decide +kernel
theorem dX4_placement_56 : decode cX4_placement 56 = .ok (.ireturn, 1) := by decide +kernel
theorem dX4_placement_57 : decode cX4_placement 57 = .ok (.iload_n 3, 1) := by decide +kernel
theorem dX4_placement_58 : decode cX4_placement 58 = .ok (.tableswitch 44 0 2 #[26, 32, 38], 26) := by decide +kernel
theorem dX4_placement_84 : decode cX4_placement 84 = .ok (.aload 5, 2) := by decide +kernel
theorem dX4_placement_86 : decode cX4_placement 86 = .ok (.getfield 141, 3) := by decide +kernel
theorem dX4_placement_89 : decode cX4_placement 89 = .ok (.ireturn, 1) := by decide +kernel
theorem dX4_placement_90 : decode cX4_placement 90 = .ok (.aload 5, 2) := by decide +kernel
theorem dX4_placement_92 : decode cX4_placement 92 = .ok (.getfield 144, 3) := by decide +kernel
theorem dX4_placement_95 : decode cX4_placement 95 = .ok (.ireturn, 1) := by decide +kernel
theorem dX4_placement_96 : decode cX4_placement 96 = .ok (.aload 5, 2) := by decide +kernel
theorem dX4_placement_98 : decode cX4_placement 98 = .ok (.getfield 147, 3) := by decide +kernel
theorem dX4_placement_101 : decode cX4_placement 101 = .ok (.ireturn, 1) := by decide +kernel
theorem dX4_placement_102 : decode cX4_placement 102 = .ok (.aload 5, 2) := by decide +kernel
theorem dX4_placement_104 : decode cX4_placement 104 = .ok (.getfield 150, 3) := by decide +kernel
theorem dX4_placement_107 : decode cX4_placement 107 = .ok (.iconst (-1), 1) := by decide +kernel
theorem dX4_placement_108 : decode cX4_placement 108 = .ok (.if_icmp .ne 8, 3) := by decide +kernel
theorem dX4_placement_111 : decode cX4_placement 111 = .ok (.bipush (-6), 2) := by decide +kernel
theorem dX4_placement_113 : decode cX4_placement 113 = .ok (.goto 8, 3) := by decide +kernel
theorem dX4_placement_116 : decode cX4_placement 116 = .ok (.aload 5, 2) := by decide +kernel
theorem dX4_placement_118 : decode cX4_placement 118 = .ok (.getfield 150, 3) := by decide +kernel
theorem dX4_placement_121 : decode cX4_placement 121 = .ok (.ireturn, 1) := by decide +kernel
theorem dX4_assignedMould_0 : decode cX4_assignedMould 0 = .ok (.aload_n 0, 1) := by decide +kernel
theorem dX4_assignedMould_1 : decode cX4_assignedMould 1 = .ok (.iload_n 1, 1) := by decide +kernel
theorem dX4_assignedMould_2 : decode cX4_assignedMould 2 = .ok (.invokevirtual 118, 3) := by decide +kernel
theorem dX4_assignedMould_5 : decode cX4_assignedMould 5 = .ok (.astore_n 2, 1) := by decide +kernel
theorem dX4_assignedMould_6 : decode cX4_assignedMould 6 = .ok (.aload_n 2, 1) := by decide +kernel
theorem dX4_assignedMould_7 : decode cX4_assignedMould 7 = .ok (.ifnonnull 8, 3) := by decide +kernel
theorem dX4_assignedMould_10 : decode cX4_assignedMould 10 = .ok (.bipush (-2), 2) := by decide +kernel
theorem dX4_assignedMould_12 : decode cX4_assignedMould 12 = .ok (.goto 8, 3) := by decide +kernel
theorem dX4_assignedMould_15 : decode cX4_assignedMould 15 = .ok (.aload_n 0, 1) := by decide +kernel
theorem dX4_assignedMould_16 : decode cX4_assignedMould 16 = .ok (.aload_n 2, 1) := by decide +kernel
theorem dX4_assignedMould_17 : decode cX4_assignedMould 17 = .ok (.invokevirtual 153, 3) := by decide +kernel
theorem dX4_assignedMould_20 : decode cX4_assignedMould 20 = .ok (.ireturn, 1) := by decide +kernel
theorem dX4_rivalCount_0 : decode cX4_rivalCount 0 = .ok (.aload_n 0, 1) := by decide +kernel
theorem dX4_rivalCount_1 : decode cX4_rivalCount 1 = .ok (.iload_n 1, 1) := by decide +kernel
theorem dX4_rivalCount_2 : decode cX4_rivalCount 2 = .ok (.invokevirtual 118, 3) := by decide +kernel
theorem dX4_rivalCount_5 : decode cX4_rivalCount 5 = .ok (.astore_n 3, 1) := by decide +kernel
theorem dX4_rivalCount_6 : decode cX4_rivalCount 6 = .ok (.aload_n 3, 1) := by decide +kernel
theorem dX4_rivalCount_7 : decode cX4_rivalCount 7 = .ok (.ifnonnull 6, 3) := by decide +kernel
theorem dX4_rivalCount_10 : decode cX4_rivalCount 10 = .ok (.bipush (-2), 2) := by decide +kernel
theorem dX4_rivalCount_12 : decode cX4_rivalCount 12 = .ok (.ireturn, 1) := by decide +kernel
theorem dX4_rivalCount_13 : decode cX4_rivalCount 13 = .ok (.iload_n 2, 1) := by decide +kernel
theorem dX4_rivalCount_14 : decode cX4_rivalCount 14 = .ok (.iconst 0, 1) := by decide +kernel
theorem dX4_rivalCount_15 : decode cX4_rivalCount 15 = .ok (.sipush 1000, 3) := by decide +kernel
theorem dX4_rivalCount_18 : decode cX4_rivalCount 18 = .ok (.invokestatic 54, 3) := by decide +kernel
theorem dX4_rivalCount_21 : decode cX4_rivalCount 21 = .ok (.ifCond .ne 6, 3) := by decide +kernel
theorem dX4_rivalCount_24 : decode cX4_rivalCount 24 = .ok (.bipush (-3), 2) := by decide +kernel
theorem dX4_rivalCount_26 : decode cX4_rivalCount 26 = .ok (.ireturn, 1) := by decide +kernel
theorem dX4_rivalCount_27 : decode cX4_rivalCount 27 = .ok (.aload_n 0, 1) := by decide +kernel
theorem dX4_rivalCount_28 : decode cX4_rivalCount 28 = .ok (.aload_n 3, 1) := by decide +kernel
theorem dX4_rivalCount_29 : decode cX4_rivalCount 29 = .ok (.invokevirtual 153, 3) := by decide +kernel
theorem dX4_rivalCount_32 : decode cX4_rivalCount 32 = .ok (.istore 4, 2) := by decide +kernel
theorem dX4_rivalCount_34 : decode cX4_rivalCount 34 = .ok (.iload 4, 2) := by decide +kernel
theorem dX4_rivalCount_36 : decode cX4_rivalCount 36 = .ok (.bipush (-6), 2) := by decide +kernel
theorem dX4_rivalCount_38 : decode cX4_rivalCount 38 = .ok (.if_icmp .ne 6, 3) := by decide +kernel
theorem dX4_rivalCount_41 : decode cX4_rivalCount 41 = .ok (.bipush (-6), 2) := by decide +kernel
theorem dX4_rivalCount_43 : decode cX4_rivalCount 43 = .ok (.ireturn, 1) := by decide +kernel
theorem dX4_rivalCount_44 : decode cX4_rivalCount 44 = .ok (.aload_n 0, 1) := by decide +kernel
theorem dX4_rivalCount_45 : decode cX4_rivalCount 45 = .ok (.aload_n 3, 1) := by decide +kernel
theorem dX4_rivalCount_46 : decode cX4_rivalCount 46 = .ok (.iload 4, 2) := by decide +kernel
theorem dX4_rivalCount_48 : decode cX4_rivalCount 48 = .ok (.invokevirtual 128, 3) := by decide +kernel
theorem dX4_rivalCount_51 : decode cX4_rivalCount 51 = .ok (.getfield 138, 3) := by decide +kernel
theorem dX4_rivalCount_54 : decode cX4_rivalCount 54 = .ok (.iload_n 2, 1) := by decide +kernel
theorem dX4_rivalCount_55 : decode cX4_rivalCount 55 = .ok (.iadd, 1) := by decide +kernel
theorem dX4_rivalCount_56 : decode cX4_rivalCount 56 = .ok (.istore 5, 2) := by decide +kernel
theorem dX4_rivalCount_58 : decode cX4_rivalCount 58 = .ok (.iconst 0, 1) := by decide +kernel
theorem dX4_rivalCount_59 : decode cX4_rivalCount 59 = .ok (.istore 6, 2) := by decide +kernel
theorem dX4_rivalCount_61 : decode cX4_rivalCount 61 = .ok (.iconst 0, 1) := by decide +kernel
theorem dX4_rivalCount_62 : decode cX4_rivalCount 62 = .ok (.istore 7, 2) := by decide +kernel
theorem dX4_rivalCount_64 : decode cX4_rivalCount 64 = .ok (.iload 7, 2) := by decide +kernel
theorem dX4_rivalCount_66 : decode cX4_rivalCount 66 = .ok (.aload_n 0, 1) := by decide +kernel
theorem dX4_rivalCount_67 : decode cX4_rivalCount 67 = .ok (.getfield 29, 3) := by decide +kernel
theorem dX4_rivalCount_70 : decode cX4_rivalCount 70 = .ok (.if_icmp .ge 46, 3) := by decide +kernel
theorem dX4_rivalCount_73 : decode cX4_rivalCount 73 = .ok (.aload_n 0, 1) := by decide +kernel
theorem dX4_rivalCount_74 : decode cX4_rivalCount 74 = .ok (.aload_n 3, 1) := by decide +kernel
theorem dX4_rivalCount_75 : decode cX4_rivalCount 75 = .ok (.iload 7, 2) := by decide +kernel
theorem dX4_rivalCount_77 : decode cX4_rivalCount 77 = .ok (.invokevirtual 128, 3) := by decide +kernel
theorem dX4_rivalCount_80 : decode cX4_rivalCount 80 = .ok (.astore 8, 2) := by decide +kernel
theorem dX4_rivalCount_82 : decode cX4_rivalCount 82 = .ok (.iload 7, 2) := by decide +kernel
theorem dX4_rivalCount_84 : decode cX4_rivalCount 84 = .ok (.iload 4, 2) := by decide +kernel
theorem dX4_rivalCount_86 : decode cX4_rivalCount 86 = .ok (.if_icmp .eq 24, 3) := by decide +kernel
theorem dX4_rivalCount_89 : decode cX4_rivalCount 89 = .ok (.aload 8, 2) := by decide +kernel
theorem dX4_rivalCount_91 : decode cX4_rivalCount 91 = .ok (.getfield 132, 3) := by decide +kernel
theorem dX4_rivalCount_94 : decode cX4_rivalCount 94 = .ok (.ifCond .eq 16, 3) := by decide +kernel
theorem dX4_rivalCount_97 : decode cX4_rivalCount 97 = .ok (.aload 8, 2) := by decide +kernel
theorem dX4_rivalCount_99 : decode cX4_rivalCount 99 = .ok (.getfield 138, 3) := by decide +kernel
theorem dX4_rivalCount_102 : decode cX4_rivalCount 102 = .ok (.iload 5, 2) := by decide +kernel
theorem dX4_rivalCount_104 : decode cX4_rivalCount 104 = .ok (.if_icmp .gt 6, 3) := by decide +kernel
theorem dX4_rivalCount_107 : decode cX4_rivalCount 107 = .ok (.iinc 6 1, 3) := by decide +kernel
theorem dX4_rivalCount_110 : decode cX4_rivalCount 110 = .ok (.iinc 7 1, 3) := by decide +kernel
theorem dX4_rivalCount_113 : decode cX4_rivalCount 113 = .ok (.goto (-49), 3) := by decide +kernel
theorem dX4_rivalCount_116 : decode cX4_rivalCount 116 = .ok (.iload 6, 2) := by decide +kernel
theorem dX4_rivalCount_118 : decode cX4_rivalCount 118 = .ok (.ireturn, 1) := by decide +kernel
theorem dX4_sheetsOf_0 : decode cX4_sheetsOf 0 = .ok (.aload_n 0, 1) := by decide +kernel
theorem dX4_sheetsOf_1 : decode cX4_sheetsOf 1 = .ok (.iload_n 1, 1) := by decide +kernel
theorem dX4_sheetsOf_2 : decode cX4_sheetsOf 2 = .ok (.invokevirtual 78, 3) := by decide +kernel
theorem dX4_sheetsOf_5 : decode cX4_sheetsOf 5 = .ok (.ifnonnull 5, 3) := by decide +kernel
theorem dX4_sheetsOf_8 : decode cX4_sheetsOf 8 = .ok (.iconst (-1), 1) := by decide +kernel
theorem dX4_sheetsOf_9 : decode cX4_sheetsOf 9 = .ok (.ireturn, 1) := by decide +kernel
theorem dX4_sheetsOf_10 : decode cX4_sheetsOf 10 = .ok (.iconst 0, 1) := by decide +kernel
theorem dX4_sheetsOf_11 : decode cX4_sheetsOf 11 = .ok (.istore_n 2, 1) := by decide +kernel
theorem dX4_sheetsOf_12 : decode cX4_sheetsOf 12 = .ok (.iconst 0, 1) := by decide +kernel
theorem dX4_sheetsOf_13 : decode cX4_sheetsOf 13 = .ok (.istore_n 3, 1) := by decide +kernel
theorem dX4_sheetsOf_14 : decode cX4_sheetsOf 14 = .ok (.iload_n 3, 1) := by decide +kernel
theorem dX4_sheetsOf_15 : decode cX4_sheetsOf 15 = .ok (.aload_n 0, 1) := by decide +kernel
theorem dX4_sheetsOf_16 : decode cX4_sheetsOf 16 = .ok (.getfield 38, 3) := by decide +kernel
theorem dX4_sheetsOf_19 : decode cX4_sheetsOf 19 = .ok (.if_icmp .ge 29, 3) := by decide +kernel
theorem dX4_sheetsOf_22 : decode cX4_sheetsOf 22 = .ok (.aload_n 0, 1) := by decide +kernel
theorem dX4_sheetsOf_23 : decode cX4_sheetsOf 23 = .ok (.aload_n 0, 1) := by decide +kernel
theorem dX4_sheetsOf_24 : decode cX4_sheetsOf 24 = .ok (.getfield 34, 3) := by decide +kernel
theorem dX4_sheetsOf_27 : decode cX4_sheetsOf 27 = .ok (.iload_n 3, 1) := by decide +kernel
theorem dX4_sheetsOf_28 : decode cX4_sheetsOf 28 = .ok (.aaload, 1) := by decide +kernel
theorem dX4_sheetsOf_29 : decode cX4_sheetsOf 29 = .ok (.invokevirtual 153, 3) := by decide +kernel
theorem dX4_sheetsOf_32 : decode cX4_sheetsOf 32 = .ok (.iload_n 1, 1) := by decide +kernel
theorem dX4_sheetsOf_33 : decode cX4_sheetsOf 33 = .ok (.if_icmp .ne 9, 3) := by decide +kernel
theorem dX4_sheetsOf_36 : decode cX4_sheetsOf 36 = .ok (.iload_n 2, 1) := by decide +kernel
theorem dX4_sheetsOf_37 : decode cX4_sheetsOf 37 = .ok (.iconst 1, 1) := by decide +kernel
theorem dX4_sheetsOf_38 : decode cX4_sheetsOf 38 = .ok (.iload_n 3, 1) := by decide +kernel
theorem dX4_sheetsOf_39 : decode cX4_sheetsOf 39 = .ok (.ishl, 1) := by decide +kernel
theorem dX4_sheetsOf_40 : decode cX4_sheetsOf 40 = .ok (.ior, 1) := by decide +kernel
theorem dX4_sheetsOf_41 : decode cX4_sheetsOf 41 = .ok (.istore_n 2, 1) := by decide +kernel
theorem dX4_sheetsOf_42 : decode cX4_sheetsOf 42 = .ok (.iinc 3 1, 3) := by decide +kernel
theorem dX4_sheetsOf_45 : decode cX4_sheetsOf 45 = .ok (.goto (-31), 3) := by decide +kernel
theorem dX4_sheetsOf_48 : decode cX4_sheetsOf 48 = .ok (.iload_n 2, 1) := by decide +kernel
theorem dX4_sheetsOf_49 : decode cX4_sheetsOf 49 = .ok (.ireturn, 1) := by decide +kernel
theorem dX4_sheetAt_0 : decode cX4_sheetAt 0 = .ok (.aload_n 0, 1) := by decide +kernel
theorem dX4_sheetAt_1 : decode cX4_sheetAt 1 = .ok (.iload_n 1, 1) := by decide +kernel
theorem dX4_sheetAt_2 : decode cX4_sheetAt 2 = .ok (.invokevirtual 78, 3) := by decide +kernel
theorem dX4_sheetAt_5 : decode cX4_sheetAt 5 = .ok (.ifnonnull 5, 3) := by decide +kernel
theorem dX4_sheetAt_8 : decode cX4_sheetAt 8 = .ok (.iconst (-1), 1) := by decide +kernel
theorem dX4_sheetAt_9 : decode cX4_sheetAt 9 = .ok (.ireturn, 1) := by decide +kernel
theorem dX4_sheetAt_10 : decode cX4_sheetAt 10 = .ok (.iload_n 2, 1) := by decide +kernel
theorem dX4_sheetAt_11 : decode cX4_sheetAt 11 = .ok (.ifCond .ge 6, 3) := by decide +kernel
theorem dX4_sheetAt_14 : decode cX4_sheetAt 14 = .ok (.bipush (-3), 2) := by decide +kernel
theorem dX4_sheetAt_16 : decode cX4_sheetAt 16 = .ok (.ireturn, 1) := by decide +kernel
theorem dX4_sheetAt_17 : decode cX4_sheetAt 17 = .ok (.aload_n 0, 1) := by decide +kernel
theorem dX4_sheetAt_18 : decode cX4_sheetAt 18 = .ok (.iload_n 1, 1) := by decide +kernel
theorem dX4_sheetAt_19 : decode cX4_sheetAt 19 = .ok (.invokevirtual 157, 3) := by decide +kernel
theorem dX4_sheetAt_22 : decode cX4_sheetAt 22 = .ok (.iconst 0, 1) := by decide +kernel
theorem dX4_sheetAt_23 : decode cX4_sheetAt 23 = .ok (.istore_n 3, 1) := by decide +kernel
theorem dX4_sheetAt_24 : decode cX4_sheetAt 24 = .ok (.iload_n 3, 1) := by decide +kernel
theorem dX4_sheetAt_25 : decode cX4_sheetAt 25 = .ok (.aload_n 0, 1) := by decide +kernel
theorem dX4_sheetAt_26 : decode cX4_sheetAt 26 = .ok (.getfield 38, 3) := by decide +kernel
theorem dX4_sheetAt_29 : decode cX4_sheetAt 29 = .ok (.if_icmp .ge 20, 3) := by decide +kernel
theorem dX4_sheetAt_32 : decode cX4_sheetAt 32 = .ok (.aload_n 0, 1) := by decide +kernel
theorem dX4_sheetAt_33 : decode cX4_sheetAt 33 = .ok (.getfield 51, 3) := by decide +kernel
theorem dX4_sheetAt_36 : decode cX4_sheetAt 36 = .ok (.iload_n 3, 1) := by decide +kernel
theorem dX4_sheetAt_37 : decode cX4_sheetAt 37 = .ok (.aload_n 0, 1) := by decide +kernel
theorem dX4_sheetAt_38 : decode cX4_sheetAt 38 = .ok (.iload_n 3, 1) := by decide +kernel
theorem dX4_sheetAt_39 : decode cX4_sheetAt 39 = .ok (.invokevirtual 160, 3) := by decide +kernel
theorem dX4_sheetAt_42 : decode cX4_sheetAt 42 = .ok (.iastore, 1) := by decide +kernel
theorem dX4_sheetAt_43 : decode cX4_sheetAt 43 = .ok (.iinc 3 1, 3) := by decide +kernel
theorem dX4_sheetAt_46 : decode cX4_sheetAt 46 = .ok (.goto (-22), 3) := by decide +kernel
theorem dX4_sheetAt_49 : decode cX4_sheetAt 49 = .ok (.iconst 0, 1) := by decide +kernel
theorem dX4_sheetAt_50 : decode cX4_sheetAt 50 = .ok (.istore_n 3, 1) := by decide +kernel
theorem dX4_sheetAt_51 : decode cX4_sheetAt 51 = .ok (.iload_n 3, 1) := by decide +kernel
theorem dX4_sheetAt_52 : decode cX4_sheetAt 52 = .ok (.aload_n 0, 1) := by decide +kernel
theorem dX4_sheetAt_53 : decode cX4_sheetAt 53 = .ok (.getfield 38, 3) := by decide +kernel
theorem dX4_sheetAt_56 : decode cX4_sheetAt 56 = .ok (.if_icmp .ge 30, 3) := by decide +kernel
theorem dX4_sheetAt_59 : decode cX4_sheetAt 59 = .ok (.aload_n 0, 1) := by decide +kernel
theorem dX4_sheetAt_60 : decode cX4_sheetAt 60 = .ok (.getfield 48, 3) := by decide +kernel
theorem dX4_sheetAt_63 : decode cX4_sheetAt 63 = .ok (.iload_n 3, 1) := by decide +kernel
theorem dX4_sheetAt_64 : decode cX4_sheetAt 64 = .ok (.iaload, 1) := by decide +kernel
theorem dX4_sheetAt_65 : decode cX4_sheetAt 65 = .ok (.iconst (-1), 1) := by decide +kernel
theorem dX4_sheetAt_66 : decode cX4_sheetAt 66 = .ok (.if_icmp .eq 14, 3) := by decide +kernel
theorem dX4_sheetAt_69 : decode cX4_sheetAt 69 = .ok (.aload_n 0, 1) := by decide +kernel
theorem dX4_sheetAt_70 : decode cX4_sheetAt 70 = .ok (.iload_n 3, 1) := by decide +kernel
theorem dX4_sheetAt_71 : decode cX4_sheetAt 71 = .ok (.invokevirtual 163, 3) := by decide +kernel
theorem dX4_sheetAt_74 : decode cX4_sheetAt 74 = .ok (.iload_n 2, 1) := by decide +kernel
theorem dX4_sheetAt_75 : decode cX4_sheetAt 75 = .ok (.if_icmp .ne 5, 3) := by decide +kernel
theorem dX4_sheetAt_78 : decode cX4_sheetAt 78 = .ok (.iload_n 3, 1) := by decide +kernel
theorem dX4_sheetAt_79 : decode cX4_sheetAt 79 = .ok (.ireturn, 1) := by decide +kernel
theorem dX4_sheetAt_80 : decode cX4_sheetAt 80 = .ok (.iinc 3 1, 3) := by decide +kernel
theorem dX4_sheetAt_83 : decode cX4_sheetAt 83 = .ok (.goto (-32), 3) := by decide +kernel
theorem dX4_sheetAt_86 : decode cX4_sheetAt 86 = .ok (.bipush (-6), 2) := by decide +kernel
theorem dX4_sheetAt_88 : decode cX4_sheetAt 88 = .ok (.ireturn, 1) := by decide +kernel
theorem dX4_earliest_0 : decode cX4_earliest 0 = .ok (.aload_n 0, 1) := by decide +kernel
theorem dX4_earliest_1 : decode cX4_earliest 1 = .ok (.iload_n 1, 1) := by decide +kernel
theorem dX4_earliest_2 : decode cX4_earliest 2 = .ok (.invokevirtual 118, 3) := by decide +kernel
theorem dX4_earliest_5 : decode cX4_earliest 5 = .ok (.astore_n 2, 1) := by decide +kernel
theorem dX4_earliest_6 : decode cX4_earliest 6 = .ok (.aload_n 2, 1) := by decide +kernel
theorem dX4_earliest_7 : decode cX4_earliest 7 = .ok (.ifnonnull 6, 3) := by decide +kernel
theorem dX4_earliest_10 : decode cX4_earliest 10 = .ok (.bipush (-2), 2) := by decide +kernel
theorem dX4_earliest_12 : decode cX4_earliest 12 = .ok (.ireturn, 1) := by decide +kernel
theorem dX4_earliest_13 : decode cX4_earliest 13 = .ok (.aload_n 0, 1) := by decide +kernel
theorem dX4_earliest_14 : decode cX4_earliest 14 = .ok (.aload_n 0, 1) := by decide +kernel
theorem dX4_earliest_15 : decode cX4_earliest 15 = .ok (.aload_n 2, 1) := by decide +kernel
theorem dX4_earliest_16 : decode cX4_earliest 16 = .ok (.invokevirtual 153, 3) := by decide +kernel
theorem dX4_earliest_19 : decode cX4_earliest 19 = .ok (.invokevirtual 157, 3) := by decide +kernel
theorem dX4_earliest_22 : decode cX4_earliest 22 = .ok (.aload_n 0, 1) := by decide +kernel
theorem dX4_earliest_23 : decode cX4_earliest 23 = .ok (.iload_n 1, 1) := by decide +kernel
theorem dX4_earliest_24 : decode cX4_earliest 24 = .ok (.invokevirtual 160, 3) := by decide +kernel
theorem dX4_earliest_27 : decode cX4_earliest 27 = .ok (.ireturn, 1) := by decide +kernel
theorem dX4_latest_0 : decode cX4_latest 0 = .ok (.aload_n 0, 1) := by decide +kernel
theorem dX4_latest_1 : decode cX4_latest 1 = .ok (.iload_n 1, 1) := by decide +kernel
theorem dX4_latest_2 : decode cX4_latest 2 = .ok (.invokevirtual 118, 3) := by decide +kernel
theorem dX4_latest_5 : decode cX4_latest 5 = .ok (.astore_n 2, 1) := by decide +kernel
theorem dX4_latest_6 : decode cX4_latest 6 = .ok (.aload_n 2, 1) := by decide +kernel
theorem dX4_latest_7 : decode cX4_latest 7 = .ok (.ifnonnull 6, 3) := by decide +kernel
theorem dX4_latest_10 : decode cX4_latest 10 = .ok (.bipush (-2), 2) := by decide +kernel
theorem dX4_latest_12 : decode cX4_latest 12 = .ok (.ireturn, 1) := by decide +kernel
theorem dX4_latest_13 : decode cX4_latest 13 = .ok (.aload_n 0, 1) := by decide +kernel
theorem dX4_latest_14 : decode cX4_latest 14 = .ok (.aload_n 0, 1) := by decide +kernel
theorem dX4_latest_15 : decode cX4_latest 15 = .ok (.aload_n 2, 1) := by decide +kernel
theorem dX4_latest_16 : decode cX4_latest 16 = .ok (.invokevirtual 153, 3) := by decide +kernel
theorem dX4_latest_19 : decode cX4_latest 19 = .ok (.invokevirtual 157, 3) := by decide +kernel
theorem dX4_latest_22 : decode cX4_latest 22 = .ok (.aload_n 0, 1) := by decide +kernel
theorem dX4_latest_23 : decode cX4_latest 23 = .ok (.iload_n 1, 1) := by decide +kernel
theorem dX4_latest_24 : decode cX4_latest 24 = .ok (.invokevirtual 166, 3) := by decide +kernel
theorem dX4_latest_27 : decode cX4_latest 27 = .ok (.ireturn, 1) := by decide +kernel
theorem dX4_contradictionCount_0 : decode cX4_contradictionCount 0 = .ok (.aload_n 0, 1) := by decide +kernel
theorem dX4_contradictionCount_1 : decode cX4_contradictionCount 1 = .ok (.iload_n 1, 1) := by decide +kernel
theorem dX4_contradictionCount_2 : decode cX4_contradictionCount 2 = .ok (.invokevirtual 78, 3) := by decide +kernel
theorem dX4_contradictionCount_5 : decode cX4_contradictionCount 5 = .ok (.ifnonnull 5, 3) := by decide +kernel
theorem dX4_contradictionCount_8 : decode cX4_contradictionCount 8 = .ok (.iconst (-1), 1) := by decide +kernel
theorem dX4_contradictionCount_9 : decode cX4_contradictionCount 9 = .ok (.ireturn, 1) := by decide +kernel
theorem dX4_contradictionCount_10 : decode cX4_contradictionCount 10 = .ok (.aload_n 0, 1) := by decide +kernel
theorem dX4_contradictionCount_11 : decode cX4_contradictionCount 11 = .ok (.iload_n 1, 1) := by decide +kernel
theorem dX4_contradictionCount_12 : decode cX4_contradictionCount 12 = .ok (.invokevirtual 157, 3) := by decide +kernel
theorem dX4_contradictionCount_15 : decode cX4_contradictionCount 15 = .ok (.iconst 0, 1) := by decide +kernel
theorem dX4_contradictionCount_16 : decode cX4_contradictionCount 16 = .ok (.istore_n 2, 1) := by decide +kernel
theorem dX4_contradictionCount_17 : decode cX4_contradictionCount 17 = .ok (.iconst 0, 1) := by decide +kernel
theorem dX4_contradictionCount_18 : decode cX4_contradictionCount 18 = .ok (.istore_n 3, 1) := by decide +kernel
theorem dX4_contradictionCount_19 : decode cX4_contradictionCount 19 = .ok (.iload_n 3, 1) := by decide +kernel
theorem dX4_contradictionCount_20 : decode cX4_contradictionCount 20 = .ok (.aload_n 0, 1) := by decide +kernel
theorem dX4_contradictionCount_21 : decode cX4_contradictionCount 21 = .ok (.getfield 38, 3) := by decide +kernel
theorem dX4_contradictionCount_24 : decode cX4_contradictionCount 24 = .ok (.if_icmp .ge 62, 3) := by decide +kernel
theorem dX4_contradictionCount_27 : decode cX4_contradictionCount 27 = .ok (.iconst 0, 1) := by decide +kernel
theorem dX4_contradictionCount_28 : decode cX4_contradictionCount 28 = .ok (.istore 4, 2) := by decide +kernel
theorem dX4_contradictionCount_30 : decode cX4_contradictionCount 30 = .ok (.iload 4, 2) := by decide +kernel
theorem dX4_contradictionCount_32 : decode cX4_contradictionCount 32 = .ok (.aload_n 0, 1) := by decide +kernel
theorem dX4_contradictionCount_33 : decode cX4_contradictionCount 33 = .ok (.getfield 38, 3) := by decide +kernel
theorem dX4_contradictionCount_36 : decode cX4_contradictionCount 36 = .ok (.if_icmp .ge 44, 3) := by decide +kernel
theorem dX4_contradictionCount_39 : decode cX4_contradictionCount 39 = .ok (.aload_n 0, 1) := by decide +kernel
theorem dX4_contradictionCount_40 : decode cX4_contradictionCount 40 = .ok (.iload_n 3, 1) := by decide +kernel
theorem dX4_contradictionCount_41 : decode cX4_contradictionCount 41 = .ok (.iload 4, 2) := by decide +kernel
theorem dX4_contradictionCount_43 : decode cX4_contradictionCount 43 = .ok (.invokevirtual 169, 3) := by decide +kernel
theorem dX4_contradictionCount_46 : decode cX4_contradictionCount 46 = .ok (.ifCond .eq 28, 3) := by decide +kernel
theorem dX4_contradictionCount_49 : decode cX4_contradictionCount 49 = .ok (.aload_n 0, 1) := by decide +kernel
theorem dX4_contradictionCount_50 : decode cX4_contradictionCount 50 = .ok (.getfield 34, 3) := by decide +kernel
theorem dX4_contradictionCount_53 : decode cX4_contradictionCount 53 = .ok (.iload_n 3, 1) := by decide +kernel
theorem dX4_contradictionCount_54 : decode cX4_contradictionCount 54 = .ok (.aaload, 1) := by decide +kernel
theorem dX4_contradictionCount_55 : decode cX4_contradictionCount 55 = .ok (.getfield 122, 3) := by decide +kernel
theorem dX4_contradictionCount_58 : decode cX4_contradictionCount 58 = .ok (.aload_n 0, 1) := by decide +kernel
theorem dX4_contradictionCount_59 : decode cX4_contradictionCount 59 = .ok (.getfield 34, 3) := by decide +kernel
theorem dX4_contradictionCount_62 : decode cX4_contradictionCount 62 = .ok (.iload 4, 2) := by decide +kernel
theorem dX4_contradictionCount_64 : decode cX4_contradictionCount 64 = .ok (.aaload, 1) := by decide +kernel
theorem dX4_contradictionCount_65 : decode cX4_contradictionCount 65 = .ok (.getfield 125, 3) := by decide +kernel
theorem dX4_contradictionCount_68 : decode cX4_contradictionCount 68 = .ok (.if_icmp .le 6, 3) := by decide +kernel
theorem dX4_contradictionCount_71 : decode cX4_contradictionCount 71 = .ok (.iinc 2 1, 3) := by decide +kernel
theorem dX4_contradictionCount_74 : decode cX4_contradictionCount 74 = .ok (.iinc 4 1, 3) := by decide +kernel
theorem dX4_contradictionCount_77 : decode cX4_contradictionCount 77 = .ok (.goto (-47), 3) := by decide +kernel
theorem dX4_contradictionCount_80 : decode cX4_contradictionCount 80 = .ok (.iinc 3 1, 3) := by decide +kernel
theorem dX4_contradictionCount_83 : decode cX4_contradictionCount 83 = .ok (.goto (-64), 3) := by decide +kernel
theorem dX4_contradictionCount_86 : decode cX4_contradictionCount 86 = .ok (.iload_n 2, 1) := by decide +kernel
theorem dX4_contradictionCount_87 : decode cX4_contradictionCount 87 = .ok (.ireturn, 1) := by decide +kernel
theorem dX4_isWithin_0 : decode cX4_isWithin 0 = .ok (.iload_n 0, 1) := by decide +kernel
theorem dX4_isWithin_1 : decode cX4_isWithin 1 = .ok (.iload_n 1, 1) := by decide +kernel
theorem dX4_isWithin_2 : decode cX4_isWithin 2 = .ok (.if_icmp .lt 12, 3) := by decide +kernel
theorem dX4_isWithin_5 : decode cX4_isWithin 5 = .ok (.iload_n 0, 1) := by decide +kernel
theorem dX4_isWithin_6 : decode cX4_isWithin 6 = .ok (.iload_n 2, 1) := by decide +kernel
theorem dX4_isWithin_7 : decode cX4_isWithin 7 = .ok (.if_icmp .gt 7, 3) := by decide +kernel
theorem dX4_isWithin_10 : decode cX4_isWithin 10 = .ok (.iconst 1, 1) := by decide +kernel
theorem dX4_isWithin_11 : decode cX4_isWithin 11 = .ok (.goto 4, 3) := by decide +kernel
theorem dX4_isWithin_14 : decode cX4_isWithin 14 = .ok (.iconst 0, 1) := by decide +kernel
theorem dX4_isWithin_15 : decode cX4_isWithin 15 = .ok (.ireturn, 1) := by decide +kernel
theorem dX4_isPosition_0 : decode cX4_isPosition 0 = .ok (.iload_n 1, 1) := by decide +kernel
theorem dX4_isPosition_1 : decode cX4_isPosition 1 = .ok (.iconst 0, 1) := by decide +kernel
theorem dX4_isPosition_2 : decode cX4_isPosition 2 = .ok (.iload_n 0, 1) := by decide +kernel
theorem dX4_isPosition_3 : decode cX4_isPosition 3 = .ok (.invokestatic 54, 3) := by decide +kernel
theorem dX4_isPosition_6 : decode cX4_isPosition 6 = .ok (.ifCond .eq 18, 3) := by decide +kernel
theorem dX4_isPosition_9 : decode cX4_isPosition 9 = .ok (.iload_n 2, 1) := by decide +kernel
theorem dX4_isPosition_10 : decode cX4_isPosition 10 = .ok (.iconst 0, 1) := by decide +kernel
theorem dX4_isPosition_11 : decode cX4_isPosition 11 = .ok (.sipush 300, 3) := by decide +kernel
theorem dX4_isPosition_14 : decode cX4_isPosition 14 = .ok (.invokestatic 54, 3) := by decide +kernel
theorem dX4_isPosition_17 : decode cX4_isPosition 17 = .ok (.ifCond .eq 7, 3) := by decide +kernel
theorem dX4_isPosition_20 : decode cX4_isPosition 20 = .ok (.iconst 1, 1) := by decide +kernel
theorem dX4_isPosition_21 : decode cX4_isPosition 21 = .ok (.goto 4, 3) := by decide +kernel
theorem dX4_isPosition_24 : decode cX4_isPosition 24 = .ok (.iconst 0, 1) := by decide +kernel
theorem dX4_isPosition_25 : decode cX4_isPosition 25 = .ok (.ireturn, 1) := by decide +kernel
theorem dX4_isMarkInRow_0 : decode cX4_isMarkInRow 0 = .ok (.iload_n 1, 1) := by decide +kernel
theorem dX4_isMarkInRow_1 : decode cX4_isMarkInRow 1 = .ok (.ifCond .lt 29, 3) := by decide +kernel
theorem dX4_isMarkInRow_4 : decode cX4_isMarkInRow 4 = .ok (.iload_n 1, 1) := by decide +kernel
theorem dX4_isMarkInRow_5 : decode cX4_isMarkInRow 5 = .ok (.aload_n 0, 1) := by decide +kernel
theorem dX4_isMarkInRow_6 : decode cX4_isMarkInRow 6 = .ok (.getfield 13, 3) := by decide +kernel
theorem dX4_isMarkInRow_9 : decode cX4_isMarkInRow 9 = .ok (.if_icmp .ge 21, 3) := by decide +kernel
theorem dX4_isMarkInRow_12 : decode cX4_isMarkInRow 12 = .ok (.aload_n 0, 1) := by decide +kernel
theorem dX4_isMarkInRow_13 : decode cX4_isMarkInRow 13 = .ok (.getfield 9, 3) := by decide +kernel
theorem dX4_isMarkInRow_16 : decode cX4_isMarkInRow 16 = .ok (.iload_n 1, 1) := by decide +kernel
theorem dX4_isMarkInRow_17 : decode cX4_isMarkInRow 17 = .ok (.iaload, 1) := by decide +kernel
theorem dX4_isMarkInRow_18 : decode cX4_isMarkInRow 18 = .ok (.iload_n 2, 1) := by decide +kernel
theorem dX4_isMarkInRow_19 : decode cX4_isMarkInRow 19 = .ok (.iload_n 3, 1) := by decide +kernel
theorem dX4_isMarkInRow_20 : decode cX4_isMarkInRow 20 = .ok (.invokestatic 85, 3) := by decide +kernel
theorem dX4_isMarkInRow_23 : decode cX4_isMarkInRow 23 = .ok (.ifCond .eq 7, 3) := by decide +kernel
theorem dX4_isMarkInRow_26 : decode cX4_isMarkInRow 26 = .ok (.iconst 1, 1) := by decide +kernel
theorem dX4_isMarkInRow_27 : decode cX4_isMarkInRow 27 = .ok (.goto 4, 3) := by decide +kernel
theorem dX4_isMarkInRow_30 : decode cX4_isMarkInRow 30 = .ok (.iconst 0, 1) := by decide +kernel
theorem dX4_isMarkInRow_31 : decode cX4_isMarkInRow 31 = .ok (.ireturn, 1) := by decide +kernel
theorem dX4_mouldOrNull_0 : decode cX4_mouldOrNull 0 = .ok (.iload_n 1, 1) := by decide +kernel
theorem dX4_mouldOrNull_1 : decode cX4_mouldOrNull 1 = .ok (.ifCond .lt 20, 3) := by decide +kernel
theorem dX4_mouldOrNull_4 : decode cX4_mouldOrNull 4 = .ok (.iload_n 1, 1) := by decide +kernel
theorem dX4_mouldOrNull_5 : decode cX4_mouldOrNull 5 = .ok (.aload_n 0, 1) := by decide +kernel
theorem dX4_mouldOrNull_6 : decode cX4_mouldOrNull 6 = .ok (.getfield 29, 3) := by decide +kernel
theorem dX4_mouldOrNull_9 : decode cX4_mouldOrNull 9 = .ok (.if_icmp .ge 12, 3) := by decide +kernel
theorem dX4_mouldOrNull_12 : decode cX4_mouldOrNull 12 = .ok (.aload_n 0, 1) := by decide +kernel
theorem dX4_mouldOrNull_13 : decode cX4_mouldOrNull 13 = .ok (.getfield 25, 3) := by decide +kernel
theorem dX4_mouldOrNull_16 : decode cX4_mouldOrNull 16 = .ok (.iload_n 1, 1) := by decide +kernel
theorem dX4_mouldOrNull_17 : decode cX4_mouldOrNull 17 = .ok (.aaload, 1) := by decide +kernel
theorem dX4_mouldOrNull_18 : decode cX4_mouldOrNull 18 = .ok (.goto 4, 3) := by decide +kernel
theorem dX4_mouldOrNull_21 : decode cX4_mouldOrNull 21 = .ok (.aconst_null, 1) := by decide +kernel
theorem dX4_mouldOrNull_22 : decode cX4_mouldOrNull 22 = .ok (.areturn, 1) := by decide +kernel
theorem dX4_sheetOrNull_0 : decode cX4_sheetOrNull 0 = .ok (.iload_n 1, 1) := by decide +kernel
theorem dX4_sheetOrNull_1 : decode cX4_sheetOrNull 1 = .ok (.ifCond .lt 20, 3) := by decide +kernel
theorem dX4_sheetOrNull_4 : decode cX4_sheetOrNull 4 = .ok (.iload_n 1, 1) := by decide +kernel
theorem dX4_sheetOrNull_5 : decode cX4_sheetOrNull 5 = .ok (.aload_n 0, 1) := by decide +kernel
theorem dX4_sheetOrNull_6 : decode cX4_sheetOrNull 6 = .ok (.getfield 38, 3) := by decide +kernel
theorem dX4_sheetOrNull_9 : decode cX4_sheetOrNull 9 = .ok (.if_icmp .ge 12, 3) := by decide +kernel
theorem dX4_sheetOrNull_12 : decode cX4_sheetOrNull 12 = .ok (.aload_n 0, 1) := by decide +kernel
theorem dX4_sheetOrNull_13 : decode cX4_sheetOrNull 13 = .ok (.getfield 34, 3) := by decide +kernel
theorem dX4_sheetOrNull_16 : decode cX4_sheetOrNull 16 = .ok (.iload_n 1, 1) := by decide +kernel
theorem dX4_sheetOrNull_17 : decode cX4_sheetOrNull 17 = .ok (.aaload, 1) := by decide +kernel
theorem dX4_sheetOrNull_18 : decode cX4_sheetOrNull 18 = .ok (.goto 4, 3) := by decide +kernel
theorem dX4_sheetOrNull_21 : decode cX4_sheetOrNull 21 = .ok (.aconst_null, 1) := by decide +kernel
theorem dX4_sheetOrNull_22 : decode cX4_sheetOrNull 22 = .ok (.areturn, 1) := by decide +kernel
theorem dX4_couldBeTwins_0 : decode cX4_couldBeTwins 0 = .ok (.aload_n 1, 1) := by decide +kernel
theorem dX4_couldBeTwins_1 : decode cX4_couldBeTwins 1 = .ok (.getfield 173, 3) := by decide +kernel
theorem dX4_couldBeTwins_4 : decode cX4_couldBeTwins 4 = .ok (.arraylength, 1) := by decide +kernel
theorem dX4_couldBeTwins_5 : decode cX4_couldBeTwins 5 = .ok (.aload_n 2, 1) := by decide +kernel
theorem dX4_couldBeTwins_6 : decode cX4_couldBeTwins 6 = .ok (.getfield 173, 3) := by decide +kernel
theorem dX4_couldBeTwins_9 : decode cX4_couldBeTwins 9 = .ok (.arraylength, 1) := by decide +kernel
theorem dX4_couldBeTwins_10 : decode cX4_couldBeTwins 10 = .ok (.if_icmp .ne 30, 3) := by decide +kernel
theorem dX4_couldBeTwins_13 : decode cX4_couldBeTwins 13 = .ok (.aload_n 1, 1) := by decide +kernel
theorem dX4_couldBeTwins_14 : decode cX4_couldBeTwins 14 = .ok (.getfield 176, 3) := by decide +kernel
theorem dX4_couldBeTwins_17 : decode cX4_couldBeTwins 17 = .ok (.aload_n 2, 1) := by decide +kernel
theorem dX4_couldBeTwins_18 : decode cX4_couldBeTwins 18 = .ok (.getfield 176, 3) := by decide +kernel
theorem dX4_couldBeTwins_21 : decode cX4_couldBeTwins 21 = .ok (.if_icmp .ne 19, 3) := by decide +kernel
theorem dX4_couldBeTwins_24 : decode cX4_couldBeTwins 24 = .ok (.aload_n 1, 1) := by decide +kernel
theorem dX4_couldBeTwins_25 : decode cX4_couldBeTwins 25 = .ok (.aload_n 2, 1) := by decide +kernel
theorem dX4_couldBeTwins_26 : decode cX4_couldBeTwins 26 = .ok (.invokestatic 107, 3) := by decide +kernel
theorem dX4_couldBeTwins_29 : decode cX4_couldBeTwins 29 = .ok (.aload_n 0, 1) := by decide +kernel
theorem dX4_couldBeTwins_30 : decode cX4_couldBeTwins 30 = .ok (.getfield 17, 3) := by decide +kernel
theorem dX4_couldBeTwins_33 : decode cX4_couldBeTwins 33 = .ok (.if_icmp .gt 7, 3) := by decide +kernel
theorem dX4_couldBeTwins_36 : decode cX4_couldBeTwins 36 = .ok (.iconst 1, 1) := by decide +kernel
theorem dX4_couldBeTwins_37 : decode cX4_couldBeTwins 37 = .ok (.goto 4, 3) := by decide +kernel
theorem dX4_couldBeTwins_40 : decode cX4_couldBeTwins 40 = .ok (.iconst 0, 1) := by decide +kernel
theorem dX4_couldBeTwins_41 : decode cX4_couldBeTwins 41 = .ok (.ireturn, 1) := by decide +kernel
theorem dX4_greatestSpacingDifference_0 : decode cX4_greatestSpacingDifference 0 = .ok (.aload_n 0, 1) := by decide +kernel
theorem dX4_greatestSpacingDifference_1 : decode cX4_greatestSpacingDifference 1 = .ok (.getfield 173, 3) := by decide +kernel
theorem dX4_greatestSpacingDifference_4 : decode cX4_greatestSpacingDifference 4 = .ok (.arraylength, 1) := by decide +kernel
theorem dX4_greatestSpacingDifference_5 : decode cX4_greatestSpacingDifference 5 = .ok (.aload_n 1, 1) := by decide +kernel
theorem dX4_greatestSpacingDifference_6 : decode cX4_greatestSpacingDifference 6 = .ok (.getfield 173, 3) := by decide +kernel
theorem dX4_greatestSpacingDifference_9 : decode cX4_greatestSpacingDifference 9 = .ok (.arraylength, 1) := by decide +kernel
theorem dX4_greatestSpacingDifference_10 : decode cX4_greatestSpacingDifference 10 = .ok (.invokestatic 179, 3) := by decide +kernel
theorem dX4_greatestSpacingDifference_13 : decode cX4_greatestSpacingDifference 13 = .ok (.istore_n 2, 1) := by decide +kernel
theorem dX4_greatestSpacingDifference_14 : decode cX4_greatestSpacingDifference 14 = .ok (.iconst 0, 1) := by decide +kernel
theorem dX4_greatestSpacingDifference_15 : decode cX4_greatestSpacingDifference 15 = .ok (.istore_n 3, 1) := by decide +kernel
theorem dX4_greatestSpacingDifference_16 : decode cX4_greatestSpacingDifference 16 = .ok (.iconst 0, 1) := by decide +kernel
theorem dX4_greatestSpacingDifference_17 : decode cX4_greatestSpacingDifference 17 = .ok (.istore 4, 2) := by decide +kernel
theorem dX4_greatestSpacingDifference_19 : decode cX4_greatestSpacingDifference 19 = .ok (.iload 4, 2) := by decide +kernel
theorem dX4_greatestSpacingDifference_21 : decode cX4_greatestSpacingDifference 21 = .ok (.iload_n 2, 1) := by decide +kernel
theorem dX4_greatestSpacingDifference_22 : decode cX4_greatestSpacingDifference 22 = .ok (.if_icmp .ge 32, 3) := by decide +kernel
theorem dX4_greatestSpacingDifference_25 : decode cX4_greatestSpacingDifference 25 = .ok (.iload_n 3, 1) := by decide +kernel
theorem dX4_greatestSpacingDifference_26 : decode cX4_greatestSpacingDifference 26 = .ok (.aload_n 0, 1) := by decide +kernel
theorem dX4_greatestSpacingDifference_27 : decode cX4_greatestSpacingDifference 27 = .ok (.getfield 173, 3) := by decide +kernel
theorem dX4_greatestSpacingDifference_30 : decode cX4_greatestSpacingDifference 30 = .ok (.iload 4, 2) := by decide +kernel
theorem dX4_greatestSpacingDifference_32 : decode cX4_greatestSpacingDifference 32 = .ok (.iaload, 1) := by decide +kernel
theorem dX4_greatestSpacingDifference_33 : decode cX4_greatestSpacingDifference 33 = .ok (.aload_n 1, 1) := by decide +kernel
theorem dX4_greatestSpacingDifference_34 : decode cX4_greatestSpacingDifference 34 = .ok (.getfield 173, 3) := by decide +kernel
theorem dX4_greatestSpacingDifference_37 : decode cX4_greatestSpacingDifference 37 = .ok (.iload 4, 2) := by decide +kernel
theorem dX4_greatestSpacingDifference_39 : decode cX4_greatestSpacingDifference 39 = .ok (.iaload, 1) := by decide +kernel
theorem dX4_greatestSpacingDifference_40 : decode cX4_greatestSpacingDifference 40 = .ok (.isub, 1) := by decide +kernel
theorem dX4_greatestSpacingDifference_41 : decode cX4_greatestSpacingDifference 41 = .ok (.invokestatic 98, 3) := by decide +kernel
theorem dX4_greatestSpacingDifference_44 : decode cX4_greatestSpacingDifference 44 = .ok (.invokestatic 111, 3) := by decide +kernel
theorem dX4_greatestSpacingDifference_47 : decode cX4_greatestSpacingDifference 47 = .ok (.istore_n 3, 1) := by decide +kernel
theorem dX4_greatestSpacingDifference_48 : decode cX4_greatestSpacingDifference 48 = .ok (.iinc 4 1, 3) := by decide +kernel
theorem dX4_greatestSpacingDifference_51 : decode cX4_greatestSpacingDifference 51 = .ok (.goto (-32), 3) := by decide +kernel
theorem dX4_greatestSpacingDifference_54 : decode cX4_greatestSpacingDifference 54 = .ok (.iload_n 3, 1) := by decide +kernel
theorem dX4_greatestSpacingDifference_55 : decode cX4_greatestSpacingDifference 55 = .ok (.ireturn, 1) := by decide +kernel
theorem dX4_mouldFor_0 : decode cX4_mouldFor 0 = .ok (.bipush (-6), 2) := by decide +kernel
theorem dX4_mouldFor_2 : decode cX4_mouldFor 2 = .ok (.istore_n 2, 1) := by decide +kernel
theorem dX4_mouldFor_3 : decode cX4_mouldFor 3 = .ok (.iconst 0, 1) := by decide +kernel
theorem dX4_mouldFor_4 : decode cX4_mouldFor 4 = .ok (.istore_n 3, 1) := by decide +kernel
theorem dX4_mouldFor_5 : decode cX4_mouldFor 5 = .ok (.iconst 0, 1) := by decide +kernel
theorem dX4_mouldFor_6 : decode cX4_mouldFor 6 = .ok (.istore 4, 2) := by decide +kernel
theorem dX4_mouldFor_8 : decode cX4_mouldFor 8 = .ok (.iload 4, 2) := by decide +kernel
theorem dX4_mouldFor_10 : decode cX4_mouldFor 10 = .ok (.aload_n 0, 1) := by decide +kernel
theorem dX4_mouldFor_11 : decode cX4_mouldFor 11 = .ok (.getfield 29, 3) := by decide +kernel
theorem dX4_mouldFor_14 : decode cX4_mouldFor 14 = .ok (.if_icmp .ge 50, 3) := by decide +kernel
theorem dX4_mouldFor_17 : decode cX4_mouldFor 17 = .ok (.aload_n 0, 1) := by decide +kernel
theorem dX4_mouldFor_18 : decode cX4_mouldFor 18 = .ok (.aload_n 1, 1) := by decide +kernel
theorem dX4_mouldFor_19 : decode cX4_mouldFor 19 = .ok (.iload 4, 2) := by decide +kernel
theorem dX4_mouldFor_21 : decode cX4_mouldFor 21 = .ok (.invokevirtual 128, 3) := by decide +kernel
theorem dX4_mouldFor_24 : decode cX4_mouldFor 24 = .ok (.astore 5, 2) := by decide +kernel
theorem dX4_mouldFor_26 : decode cX4_mouldFor 26 = .ok (.aload 5, 2) := by decide +kernel
theorem dX4_mouldFor_28 : decode cX4_mouldFor 28 = .ok (.getfield 132, 3) := by decide +kernel
theorem dX4_mouldFor_31 : decode cX4_mouldFor 31 = .ok (.ifCond .eq 27, 3) := by decide +kernel
theorem dX4_mouldFor_34 : decode cX4_mouldFor 34 = .ok (.iload_n 2, 1) := by decide +kernel
theorem dX4_mouldFor_35 : decode cX4_mouldFor 35 = .ok (.bipush (-6), 2) := by decide +kernel
theorem dX4_mouldFor_37 : decode cX4_mouldFor 37 = .ok (.if_icmp .eq 12, 3) := by decide +kernel
theorem dX4_mouldFor_40 : decode cX4_mouldFor 40 = .ok (.aload 5, 2) := by decide +kernel
theorem dX4_mouldFor_42 : decode cX4_mouldFor 42 = .ok (.getfield 138, 3) := by decide +kernel
theorem dX4_mouldFor_45 : decode cX4_mouldFor 45 = .ok (.iload_n 3, 1) := by decide +kernel
theorem dX4_mouldFor_46 : decode cX4_mouldFor 46 = .ok (.if_icmp .ge 12, 3) := by decide +kernel
theorem dX4_mouldFor_49 : decode cX4_mouldFor 49 = .ok (.iload 4, 2) := by decide +kernel
theorem dX4_mouldFor_51 : decode cX4_mouldFor 51 = .ok (.istore_n 2, 1) := by decide +kernel
theorem dX4_mouldFor_52 : decode cX4_mouldFor 52 = .ok (.aload 5, 2) := by decide +kernel
theorem dX4_mouldFor_54 : decode cX4_mouldFor 54 = .ok (.getfield 138, 3) := by decide +kernel
theorem dX4_mouldFor_57 : decode cX4_mouldFor 57 = .ok (.istore_n 3, 1) := by decide +kernel
theorem dX4_mouldFor_58 : decode cX4_mouldFor 58 = .ok (.iinc 4 1, 3) := by decide +kernel
theorem dX4_mouldFor_61 : decode cX4_mouldFor 61 = .ok (.goto (-53), 3) := by decide +kernel
theorem dX4_mouldFor_64 : decode cX4_mouldFor 64 = .ok (.iload_n 2, 1) := by decide +kernel
theorem dX4_mouldFor_65 : decode cX4_mouldFor 65 = .ok (.ireturn, 1) := by decide +kernel
theorem dX4_matchOf_0 : decode cX4_matchOf 0 = .ok (.aload_n 1, 1) := by decide +kernel
theorem dX4_matchOf_1 : decode cX4_matchOf 1 = .ok (.getfield 182, 3) := by decide +kernel
theorem dX4_matchOf_4 : decode cX4_matchOf 4 = .ok (.iload_n 2, 1) := by decide +kernel
theorem dX4_matchOf_5 : decode cX4_matchOf 5 = .ok (.aaload, 1) := by decide +kernel
theorem dX4_matchOf_6 : decode cX4_matchOf 6 = .ok (.astore_n 3, 1) := by decide +kernel
theorem dX4_matchOf_7 : decode cX4_matchOf 7 = .ok (.aload_n 3, 1) := by decide +kernel
theorem dX4_matchOf_8 : decode cX4_matchOf 8 = .ok (.getfield 186, 3) := by decide +kernel
theorem dX4_matchOf_11 : decode cX4_matchOf 11 = .ok (.ifCond .ne 20, 3) := by decide +kernel
theorem dX4_matchOf_14 : decode cX4_matchOf 14 = .ok (.aload_n 0, 1) := by decide +kernel
theorem dX4_matchOf_15 : decode cX4_matchOf 15 = .ok (.aload_n 1, 1) := by decide +kernel
theorem dX4_matchOf_16 : decode cX4_matchOf 16 = .ok (.aload_n 0, 1) := by decide +kernel
theorem dX4_matchOf_17 : decode cX4_matchOf 17 = .ok (.getfield 25, 3) := by decide +kernel
theorem dX4_matchOf_20 : decode cX4_matchOf 20 = .ok (.iload_n 2, 1) := by decide +kernel
theorem dX4_matchOf_21 : decode cX4_matchOf 21 = .ok (.aaload, 1) := by decide +kernel
theorem dX4_matchOf_22 : decode cX4_matchOf 22 = .ok (.aload_n 3, 1) := by decide +kernel
theorem dX4_matchOf_23 : decode cX4_matchOf 23 = .ok (.invokevirtual 189, 3) := by decide +kernel
theorem dX4_matchOf_26 : decode cX4_matchOf 26 = .ok (.aload_n 3, 1) := by decide +kernel
theorem dX4_matchOf_27 : decode cX4_matchOf 27 = .ok (.iconst 1, 1) := by decide +kernel
theorem dX4_matchOf_28 : decode cX4_matchOf 28 = .ok (.putfield 186, 3) := by decide +kernel
theorem dX4_matchOf_31 : decode cX4_matchOf 31 = .ok (.aload_n 3, 1) := by decide +kernel
theorem dX4_matchOf_32 : decode cX4_matchOf 32 = .ok (.areturn, 1) := by decide +kernel
theorem dX4_forgetMatches_0 : decode cX4_forgetMatches 0 = .ok (.iconst 0, 1) := by decide +kernel
theorem dX4_forgetMatches_1 : decode cX4_forgetMatches 1 = .ok (.istore_n 2, 1) := by decide +kernel
theorem dX4_forgetMatches_2 : decode cX4_forgetMatches 2 = .ok (.iload_n 2, 1) := by decide +kernel
theorem dX4_forgetMatches_3 : decode cX4_forgetMatches 3 = .ok (.aload_n 0, 1) := by decide +kernel
theorem dX4_forgetMatches_4 : decode cX4_forgetMatches 4 = .ok (.getfield 38, 3) := by decide +kernel
theorem dX4_forgetMatches_7 : decode cX4_forgetMatches 7 = .ok (.if_icmp .ge 24, 3) := by decide +kernel
theorem dX4_forgetMatches_10 : decode cX4_forgetMatches 10 = .ok (.aload_n 0, 1) := by decide +kernel
theorem dX4_forgetMatches_11 : decode cX4_forgetMatches 11 = .ok (.getfield 34, 3) := by decide +kernel
theorem dX4_forgetMatches_14 : decode cX4_forgetMatches 14 = .ok (.iload_n 2, 1) := by decide +kernel
theorem dX4_forgetMatches_15 : decode cX4_forgetMatches 15 = .ok (.aaload, 1) := by decide +kernel
theorem dX4_forgetMatches_16 : decode cX4_forgetMatches 16 = .ok (.getfield 182, 3) := by decide +kernel
theorem dX4_forgetMatches_19 : decode cX4_forgetMatches 19 = .ok (.iload_n 1, 1) := by decide +kernel
theorem dX4_forgetMatches_20 : decode cX4_forgetMatches 20 = .ok (.aaload, 1) := by decide +kernel
theorem dX4_forgetMatches_21 : decode cX4_forgetMatches 21 = .ok (.iconst 0, 1) := by decide +kernel
theorem dX4_forgetMatches_22 : decode cX4_forgetMatches 22 = .ok (.putfield 186, 3) := by decide +kernel
theorem dX4_forgetMatches_25 : decode cX4_forgetMatches 25 = .ok (.iinc 2 1, 3) := by decide +kernel
theorem dX4_forgetMatches_28 : decode cX4_forgetMatches 28 = .ok (.goto (-26), 3) := by decide +kernel
theorem dX4_forgetMatches_31 : decode cX4_forgetMatches 31 = .ok (.return_, 1) := by decide +kernel
theorem dX4_findBest_0 : decode cX4_findBest 0 = .ok (.aload_n 3, 1) := by decide +kernel
theorem dX4_findBest_1 : decode cX4_findBest 1 = .ok (.iconst 0, 1) := by decide +kernel
theorem dX4_findBest_2 : decode cX4_findBest 2 = .ok (.putfield 132, 3) := by decide +kernel
theorem dX4_findBest_5 : decode cX4_findBest 5 = .ok (.aload_n 2, 1) := by decide +kernel
theorem dX4_findBest_6 : decode cX4_findBest 6 = .ok (.getfield 173, 3) := by decide +kernel
theorem dX4_findBest_9 : decode cX4_findBest 9 = .ok (.arraylength, 1) := by decide +kernel
theorem dX4_findBest_10 : decode cX4_findBest 10 = .ok (.aload_n 1, 1) := by decide +kernel
theorem dX4_findBest_11 : decode cX4_findBest 11 = .ok (.getfield 193, 3) := by decide +kernel
theorem dX4_findBest_14 : decode cX4_findBest 14 = .ok (.arraylength, 1) := by decide +kernel
theorem dX4_findBest_15 : decode cX4_findBest 15 = .ok (.isub, 1) := by decide +kernel
theorem dX4_findBest_16 : decode cX4_findBest 16 = .ok (.istore 4, 2) := by decide +kernel
theorem dX4_findBest_18 : decode cX4_findBest 18 = .ok (.iconst 0, 1) := by decide +kernel
theorem dX4_findBest_19 : decode cX4_findBest 19 = .ok (.istore 5, 2) := by decide +kernel
theorem dX4_findBest_21 : decode cX4_findBest 21 = .ok (.iload 5, 2) := by decide +kernel
theorem dX4_findBest_23 : decode cX4_findBest 23 = .ok (.iconst 4, 1) := by decide +kernel
theorem dX4_findBest_24 : decode cX4_findBest 24 = .ok (.if_icmp .ge 95, 3) := by decide +kernel
theorem dX4_findBest_27 : decode cX4_findBest 27 = .ok (.aload_n 0, 1) := by decide +kernel
theorem dX4_findBest_28 : decode cX4_findBest 28 = .ok (.getfield 44, 3) := by decide +kernel
theorem dX4_findBest_31 : decode cX4_findBest 31 = .ok (.aload_n 1, 1) := by decide +kernel
theorem dX4_findBest_32 : decode cX4_findBest 32 = .ok (.iload 5, 2) := by decide +kernel
theorem dX4_findBest_34 : decode cX4_findBest 34 = .ok (.invokevirtual 194, 3) := by decide +kernel
theorem dX4_findBest_37 : decode cX4_findBest 37 = .ok (.iconst 0, 1) := by decide +kernel
theorem dX4_findBest_38 : decode cX4_findBest 38 = .ok (.istore 6, 2) := by decide +kernel
theorem dX4_findBest_40 : decode cX4_findBest 40 = .ok (.iload 6, 2) := by decide +kernel
theorem dX4_findBest_42 : decode cX4_findBest 42 = .ok (.iload 4, 2) := by decide +kernel
theorem dX4_findBest_44 : decode cX4_findBest 44 = .ok (.if_icmp .gt 69, 3) := by decide +kernel
theorem dX4_findBest_47 : decode cX4_findBest 47 = .ok (.aload_n 0, 1) := by decide +kernel
theorem dX4_findBest_48 : decode cX4_findBest 48 = .ok (.getfield 44, 3) := by decide +kernel
theorem dX4_findBest_51 : decode cX4_findBest 51 = .ok (.getfield 198, 3) := by decide +kernel
theorem dX4_findBest_54 : decode cX4_findBest 54 = .ok (.iconst (-1), 1) := by decide +kernel
theorem dX4_findBest_55 : decode cX4_findBest 55 = .ok (.if_icmp .eq 23, 3) := by decide +kernel
theorem dX4_findBest_58 : decode cX4_findBest 58 = .ok (.iload 6, 2) := by decide +kernel
theorem dX4_findBest_60 : decode cX4_findBest 60 = .ok (.aload_n 0, 1) := by decide +kernel
theorem dX4_findBest_61 : decode cX4_findBest 61 = .ok (.getfield 44, 3) := by decide +kernel
theorem dX4_findBest_64 : decode cX4_findBest 64 = .ok (.getfield 198, 3) := by decide +kernel
theorem dX4_findBest_67 : decode cX4_findBest 67 = .ok (.iadd, 1) := by decide +kernel
theorem dX4_findBest_68 : decode cX4_findBest 68 = .ok (.aload_n 2, 1) := by decide +kernel
theorem dX4_findBest_69 : decode cX4_findBest 69 = .ok (.getfield 176, 3) := by decide +kernel
theorem dX4_findBest_72 : decode cX4_findBest 72 = .ok (.if_icmp .eq 6, 3) := by decide +kernel
theorem dX4_findBest_75 : decode cX4_findBest 75 = .ok (.goto 32, 3) := by decide +kernel
theorem dX4_findBest_78 : decode cX4_findBest 78 = .ok (.sipush 1000, 3) := by decide +kernel
theorem dX4_findBest_81 : decode cX4_findBest 81 = .ok (.istore 7, 2) := by decide +kernel
theorem dX4_findBest_83 : decode cX4_findBest 83 = .ok (.iload 7, 2) := by decide +kernel
theorem dX4_findBest_85 : decode cX4_findBest 85 = .ok (.sipush 940, 3) := by decide +kernel
theorem dX4_findBest_88 : decode cX4_findBest 88 = .ok (.if_icmp .lt 19, 3) := by decide +kernel
theorem dX4_findBest_91 : decode cX4_findBest 91 = .ok (.aload_n 0, 1) := by decide +kernel
theorem dX4_findBest_92 : decode cX4_findBest 92 = .ok (.aload_n 2, 1) := by decide +kernel
theorem dX4_findBest_93 : decode cX4_findBest 93 = .ok (.iload 6, 2) := by decide +kernel
theorem dX4_findBest_95 : decode cX4_findBest 95 = .ok (.iload 7, 2) := by decide +kernel
theorem dX4_findBest_97 : decode cX4_findBest 97 = .ok (.aload_n 3, 1) := by decide +kernel
theorem dX4_findBest_98 : decode cX4_findBest 98 = .ok (.invokevirtual 199, 3) := by decide +kernel
theorem dX4_findBest_101 : decode cX4_findBest 101 = .ok (.iinc 7 (-5), 3) := by decide +kernel
theorem dX4_findBest_104 : decode cX4_findBest 104 = .ok (.goto (-21), 3) := by decide +kernel
theorem dX4_findBest_107 : decode cX4_findBest 107 = .ok (.iinc 6 1, 3) := by decide +kernel
theorem dX4_findBest_110 : decode cX4_findBest 110 = .ok (.goto (-70), 3) := by decide +kernel
theorem dX4_findBest_113 : decode cX4_findBest 113 = .ok (.iinc 5 1, 3) := by decide +kernel
theorem dX4_findBest_116 : decode cX4_findBest 116 = .ok (.goto (-95), 3) := by decide +kernel
theorem dX4_findBest_119 : decode cX4_findBest 119 = .ok (.return_, 1) := by decide +kernel
theorem dX4_tryPlacement_0 : decode cX4_tryPlacement 0 = .ok (.aload_n 0, 1) := by decide +kernel
theorem dX4_tryPlacement_1 : decode cX4_tryPlacement 1 = .ok (.aload_n 1, 1) := by decide +kernel
theorem dX4_tryPlacement_2 : decode cX4_tryPlacement 2 = .ok (.iload_n 2, 1) := by decide +kernel
theorem dX4_tryPlacement_3 : decode cX4_tryPlacement 3 = .ok (.iload_n 3, 1) := by decide +kernel
theorem dX4_tryPlacement_4 : decode cX4_tryPlacement 4 = .ok (.invokevirtual 203, 3) := by decide +kernel
theorem dX4_tryPlacement_7 : decode cX4_tryPlacement 7 = .ok (.istore 5, 2) := by decide +kernel
theorem dX4_tryPlacement_9 : decode cX4_tryPlacement 9 = .ok (.iload 5, 2) := by decide +kernel
theorem dX4_tryPlacement_11 : decode cX4_tryPlacement 11 = .ok (.iconst (-1), 1) := by decide +kernel
theorem dX4_tryPlacement_12 : decode cX4_tryPlacement 12 = .ok (.if_icmp .ne 4, 3) := by decide +kernel
theorem dX4_tryPlacement_15 : decode cX4_tryPlacement 15 = .ok (.return_, 1) := by decide +kernel
theorem dX4_tryPlacement_16 : decode cX4_tryPlacement 16 = .ok (.iconst (-1), 1) := by decide +kernel
theorem dX4_tryPlacement_17 : decode cX4_tryPlacement 17 = .ok (.istore 6, 2) := by decide +kernel
theorem dX4_tryPlacement_19 : decode cX4_tryPlacement 19 = .ok (.aload_n 0, 1) := by decide +kernel
theorem dX4_tryPlacement_20 : decode cX4_tryPlacement 20 = .ok (.getfield 44, 3) := by decide +kernel
theorem dX4_tryPlacement_23 : decode cX4_tryPlacement 23 = .ok (.getfield 198, 3) := by decide +kernel
theorem dX4_tryPlacement_26 : decode cX4_tryPlacement 26 = .ok (.iconst (-1), 1) := by decide +kernel
theorem dX4_tryPlacement_27 : decode cX4_tryPlacement 27 = .ok (.if_icmp .eq 31, 3) := by decide +kernel
theorem dX4_tryPlacement_30 : decode cX4_tryPlacement 30 = .ok (.aload_n 0, 1) := by decide +kernel
theorem dX4_tryPlacement_31 : decode cX4_tryPlacement 31 = .ok (.aload_n 1, 1) := by decide +kernel
theorem dX4_tryPlacement_32 : decode cX4_tryPlacement 32 = .ok (.iload_n 3, 1) := by decide +kernel
theorem dX4_tryPlacement_33 : decode cX4_tryPlacement 33 = .ok (.invokevirtual 207, 3) := by decide +kernel
theorem dX4_tryPlacement_36 : decode cX4_tryPlacement 36 = .ok (.istore 6, 2) := by decide +kernel
theorem dX4_tryPlacement_38 : decode cX4_tryPlacement 38 = .ok (.iload 6, 2) := by decide +kernel
theorem dX4_tryPlacement_40 : decode cX4_tryPlacement 40 = .ok (.iconst (-1), 1) := by decide +kernel
theorem dX4_tryPlacement_41 : decode cX4_tryPlacement 41 = .ok (.if_icmp .ne 4, 3) := by decide +kernel
theorem dX4_tryPlacement_44 : decode cX4_tryPlacement 44 = .ok (.return_, 1) := by decide +kernel
theorem dX4_tryPlacement_45 : decode cX4_tryPlacement 45 = .ok (.iload 5, 2) := by decide +kernel
theorem dX4_tryPlacement_47 : decode cX4_tryPlacement 47 = .ok (.aload_n 0, 1) := by decide +kernel
theorem dX4_tryPlacement_48 : decode cX4_tryPlacement 48 = .ok (.aload_n 1, 1) := by decide +kernel
theorem dX4_tryPlacement_49 : decode cX4_tryPlacement 49 = .ok (.iload 6, 2) := by decide +kernel
theorem dX4_tryPlacement_51 : decode cX4_tryPlacement 51 = .ok (.iload_n 3, 1) := by decide +kernel
theorem dX4_tryPlacement_52 : decode cX4_tryPlacement 52 = .ok (.invokevirtual 211, 3) := by decide +kernel
theorem dX4_tryPlacement_55 : decode cX4_tryPlacement 55 = .ok (.iadd, 1) := by decide +kernel
theorem dX4_tryPlacement_56 : decode cX4_tryPlacement 56 = .ok (.istore 5, 2) := by decide +kernel
theorem dX4_tryPlacement_58 : decode cX4_tryPlacement 58 = .ok (.aload 4, 2) := by decide +kernel
theorem dX4_tryPlacement_60 : decode cX4_tryPlacement 60 = .ok (.getfield 132, 3) := by decide +kernel
theorem dX4_tryPlacement_63 : decode cX4_tryPlacement 63 = .ok (.ifCond .eq 13, 3) := by decide +kernel
theorem dX4_tryPlacement_66 : decode cX4_tryPlacement 66 = .ok (.iload 5, 2) := by decide +kernel
theorem dX4_tryPlacement_68 : decode cX4_tryPlacement 68 = .ok (.aload 4, 2) := by decide +kernel
theorem dX4_tryPlacement_70 : decode cX4_tryPlacement 70 = .ok (.getfield 138, 3) := by decide +kernel
theorem dX4_tryPlacement_73 : decode cX4_tryPlacement 73 = .ok (.if_icmp .ge 47, 3) := by decide +kernel
theorem dX4_tryPlacement_76 : decode cX4_tryPlacement 76 = .ok (.aload 4, 2) := by decide +kernel
theorem dX4_tryPlacement_78 : decode cX4_tryPlacement 78 = .ok (.iconst 1, 1) := by decide +kernel
theorem dX4_tryPlacement_79 : decode cX4_tryPlacement 79 = .ok (.putfield 132, 3) := by decide +kernel
theorem dX4_tryPlacement_82 : decode cX4_tryPlacement 82 = .ok (.aload 4, 2) := by decide +kernel
theorem dX4_tryPlacement_84 : decode cX4_tryPlacement 84 = .ok (.iload 5, 2) := by decide +kernel
theorem dX4_tryPlacement_86 : decode cX4_tryPlacement 86 = .ok (.putfield 138, 3) := by decide +kernel
theorem dX4_tryPlacement_89 : decode cX4_tryPlacement 89 = .ok (.aload 4, 2) := by decide +kernel
theorem dX4_tryPlacement_91 : decode cX4_tryPlacement 91 = .ok (.aload_n 0, 1) := by decide +kernel
theorem dX4_tryPlacement_92 : decode cX4_tryPlacement 92 = .ok (.getfield 44, 3) := by decide +kernel
theorem dX4_tryPlacement_95 : decode cX4_tryPlacement 95 = .ok (.getfield 214, 3) := by decide +kernel
theorem dX4_tryPlacement_98 : decode cX4_tryPlacement 98 = .ok (.putfield 141, 3) := by decide +kernel
theorem dX4_tryPlacement_101 : decode cX4_tryPlacement 101 = .ok (.aload 4, 2) := by decide +kernel
theorem dX4_tryPlacement_103 : decode cX4_tryPlacement 103 = .ok (.iload_n 2, 1) := by decide +kernel
theorem dX4_tryPlacement_104 : decode cX4_tryPlacement 104 = .ok (.putfield 144, 3) := by decide +kernel
theorem dX4_tryPlacement_107 : decode cX4_tryPlacement 107 = .ok (.aload 4, 2) := by decide +kernel
theorem dX4_tryPlacement_109 : decode cX4_tryPlacement 109 = .ok (.iload_n 3, 1) := by decide +kernel
theorem dX4_tryPlacement_110 : decode cX4_tryPlacement 110 = .ok (.putfield 147, 3) := by decide +kernel
theorem dX4_tryPlacement_113 : decode cX4_tryPlacement 113 = .ok (.aload 4, 2) := by decide +kernel
theorem dX4_tryPlacement_115 : decode cX4_tryPlacement 115 = .ok (.iload 6, 2) := by decide +kernel
theorem dX4_tryPlacement_117 : decode cX4_tryPlacement 117 = .ok (.putfield 150, 3) := by decide +kernel
theorem dX4_tryPlacement_120 : decode cX4_tryPlacement 120 = .ok (.return_, 1) := by decide +kernel
theorem dX4_spacingDeviations_0 : decode cX4_spacingDeviations 0 = .ok (.iconst 0, 1) := by decide +kernel
theorem dX4_spacingDeviations_1 : decode cX4_spacingDeviations 1 = .ok (.istore 4, 2) := by decide +kernel
theorem dX4_spacingDeviations_3 : decode cX4_spacingDeviations 3 = .ok (.iconst 0, 1) := by decide +kernel
theorem dX4_spacingDeviations_4 : decode cX4_spacingDeviations 4 = .ok (.istore 5, 2) := by decide +kernel
theorem dX4_spacingDeviations_6 : decode cX4_spacingDeviations 6 = .ok (.iload 5, 2) := by decide +kernel
theorem dX4_spacingDeviations_8 : decode cX4_spacingDeviations 8 = .ok (.aload_n 0, 1) := by decide +kernel
theorem dX4_spacingDeviations_9 : decode cX4_spacingDeviations 9 = .ok (.getfield 44, 3) := by decide +kernel
theorem dX4_spacingDeviations_12 : decode cX4_spacingDeviations 12 = .ok (.getfield 215, 3) := by decide +kernel
theorem dX4_spacingDeviations_15 : decode cX4_spacingDeviations 15 = .ok (.if_icmp .ge 76, 3) := by decide +kernel
theorem dX4_spacingDeviations_18 : decode cX4_spacingDeviations 18 = .ok (.aload_n 0, 1) := by decide +kernel
theorem dX4_spacingDeviations_19 : decode cX4_spacingDeviations 19 = .ok (.getfield 44, 3) := by decide +kernel
theorem dX4_spacingDeviations_22 : decode cX4_spacingDeviations 22 = .ok (.getfield 218, 3) := by decide +kernel
theorem dX4_spacingDeviations_25 : decode cX4_spacingDeviations 25 = .ok (.iload 5, 2) := by decide +kernel
theorem dX4_spacingDeviations_27 : decode cX4_spacingDeviations 27 = .ok (.iaload, 1) := by decide +kernel
theorem dX4_spacingDeviations_28 : decode cX4_spacingDeviations 28 = .ok (.aload_n 1, 1) := by decide +kernel
theorem dX4_spacingDeviations_29 : decode cX4_spacingDeviations 29 = .ok (.getfield 173, 3) := by decide +kernel
theorem dX4_spacingDeviations_32 : decode cX4_spacingDeviations 32 = .ok (.iload_n 2, 1) := by decide +kernel
theorem dX4_spacingDeviations_33 : decode cX4_spacingDeviations 33 = .ok (.iload 5, 2) := by decide +kernel
theorem dX4_spacingDeviations_35 : decode cX4_spacingDeviations 35 = .ok (.iadd, 1) := by decide +kernel
theorem dX4_spacingDeviations_36 : decode cX4_spacingDeviations 36 = .ok (.iaload, 1) := by decide +kernel
theorem dX4_spacingDeviations_37 : decode cX4_spacingDeviations 37 = .ok (.iload_n 3, 1) := by decide +kernel
theorem dX4_spacingDeviations_38 : decode cX4_spacingDeviations 38 = .ok (.imul, 1) := by decide +kernel
theorem dX4_spacingDeviations_39 : decode cX4_spacingDeviations 39 = .ok (.sipush 1000, 3) := by decide +kernel
theorem dX4_spacingDeviations_42 : decode cX4_spacingDeviations 42 = .ok (.idiv, 1) := by decide +kernel
theorem dX4_spacingDeviations_43 : decode cX4_spacingDeviations 43 = .ok (.isub, 1) := by decide +kernel
theorem dX4_spacingDeviations_44 : decode cX4_spacingDeviations 44 = .ok (.istore 6, 2) := by decide +kernel
theorem dX4_spacingDeviations_46 : decode cX4_spacingDeviations 46 = .ok (.iload 6, 2) := by decide +kernel
theorem dX4_spacingDeviations_48 : decode cX4_spacingDeviations 48 = .ok (.aload_n 0, 1) := by decide +kernel
theorem dX4_spacingDeviations_49 : decode cX4_spacingDeviations 49 = .ok (.getfield 17, 3) := by decide +kernel
theorem dX4_spacingDeviations_52 : decode cX4_spacingDeviations 52 = .ok (.if_icmp .gt 13, 3) := by decide +kernel
theorem dX4_spacingDeviations_55 : decode cX4_spacingDeviations 55 = .ok (.iload 6, 2) := by decide +kernel
theorem dX4_spacingDeviations_57 : decode cX4_spacingDeviations 57 = .ok (.aload_n 0, 1) := by decide +kernel
theorem dX4_spacingDeviations_58 : decode cX4_spacingDeviations 58 = .ok (.getfield 17, 3) := by decide +kernel
theorem dX4_spacingDeviations_61 : decode cX4_spacingDeviations 61 = .ok (.ineg, 1) := by decide +kernel
theorem dX4_spacingDeviations_62 : decode cX4_spacingDeviations 62 = .ok (.if_icmp .ge 5, 3) := by decide +kernel
theorem dX4_spacingDeviations_65 : decode cX4_spacingDeviations 65 = .ok (.iconst (-1), 1) := by decide +kernel
theorem dX4_spacingDeviations_66 : decode cX4_spacingDeviations 66 = .ok (.ireturn, 1) := by decide +kernel
theorem dX4_spacingDeviations_67 : decode cX4_spacingDeviations 67 = .ok (.iload 4, 2) := by decide +kernel
theorem dX4_spacingDeviations_69 : decode cX4_spacingDeviations 69 = .ok (.iload 6, 2) := by decide +kernel
theorem dX4_spacingDeviations_71 : decode cX4_spacingDeviations 71 = .ok (.ifCond .ge 9, 3) := by decide +kernel
theorem dX4_spacingDeviations_74 : decode cX4_spacingDeviations 74 = .ok (.iload 6, 2) := by decide +kernel
theorem dX4_spacingDeviations_76 : decode cX4_spacingDeviations 76 = .ok (.ineg, 1) := by decide +kernel
theorem dX4_spacingDeviations_77 : decode cX4_spacingDeviations 77 = .ok (.goto 5, 3) := by decide +kernel
theorem dX4_spacingDeviations_80 : decode cX4_spacingDeviations 80 = .ok (.iload 6, 2) := by decide +kernel
theorem dX4_spacingDeviations_82 : decode cX4_spacingDeviations 82 = .ok (.iadd, 1) := by decide +kernel
theorem dX4_spacingDeviations_83 : decode cX4_spacingDeviations 83 = .ok (.istore 4, 2) := by decide +kernel
theorem dX4_spacingDeviations_85 : decode cX4_spacingDeviations 85 = .ok (.iinc 5 1, 3) := by decide +kernel
theorem dX4_spacingDeviations_88 : decode cX4_spacingDeviations 88 = .ok (.goto (-82), 3) := by decide +kernel
theorem dX4_spacingDeviations_91 : decode cX4_spacingDeviations 91 = .ok (.iload 4, 2) := by decide +kernel
theorem dX4_spacingDeviations_93 : decode cX4_spacingDeviations 93 = .ok (.ireturn, 1) := by decide +kernel
theorem dX4_fittingState_0 : decode cX4_fittingState 0 = .ok (.iconst (-1), 1) := by decide +kernel
theorem dX4_fittingState_1 : decode cX4_fittingState 1 = .ok (.istore_n 3, 1) := by decide +kernel
theorem dX4_fittingState_2 : decode cX4_fittingState 2 = .ok (.iconst 0, 1) := by decide +kernel
theorem dX4_fittingState_3 : decode cX4_fittingState 3 = .ok (.istore 4, 2) := by decide +kernel
theorem dX4_fittingState_5 : decode cX4_fittingState 5 = .ok (.iconst 0, 1) := by decide +kernel
theorem dX4_fittingState_6 : decode cX4_fittingState 6 = .ok (.istore 5, 2) := by decide +kernel
theorem dX4_fittingState_8 : decode cX4_fittingState 8 = .ok (.iload 5, 2) := by decide +kernel
theorem dX4_fittingState_10 : decode cX4_fittingState 10 = .ok (.aload_n 1, 1) := by decide +kernel
theorem dX4_fittingState_11 : decode cX4_fittingState 11 = .ok (.getfield 88, 3) := by decide +kernel
theorem dX4_fittingState_14 : decode cX4_fittingState 14 = .ok (.if_icmp .ge 44, 3) := by decide +kernel
theorem dX4_fittingState_17 : decode cX4_fittingState 17 = .ok (.aload_n 0, 1) := by decide +kernel
theorem dX4_fittingState_18 : decode cX4_fittingState 18 = .ok (.aload_n 1, 1) := by decide +kernel
theorem dX4_fittingState_19 : decode cX4_fittingState 19 = .ok (.iload 5, 2) := by decide +kernel
theorem dX4_fittingState_21 : decode cX4_fittingState 21 = .ok (.iload_n 2, 1) := by decide +kernel
theorem dX4_fittingState_22 : decode cX4_fittingState 22 = .ok (.invokevirtual 211, 3) := by decide +kernel
theorem dX4_fittingState_25 : decode cX4_fittingState 25 = .ok (.istore 6, 2) := by decide +kernel
theorem dX4_fittingState_27 : decode cX4_fittingState 27 = .ok (.iload 6, 2) := by decide +kernel
theorem dX4_fittingState_29 : decode cX4_fittingState 29 = .ok (.iconst (-1), 1) := by decide +kernel
theorem dX4_fittingState_30 : decode cX4_fittingState 30 = .ok (.if_icmp .eq 22, 3) := by decide +kernel
theorem dX4_fittingState_33 : decode cX4_fittingState 33 = .ok (.iload_n 3, 1) := by decide +kernel
theorem dX4_fittingState_34 : decode cX4_fittingState 34 = .ok (.iconst (-1), 1) := by decide +kernel
theorem dX4_fittingState_35 : decode cX4_fittingState 35 = .ok (.if_icmp .eq 10, 3) := by decide +kernel
theorem dX4_fittingState_38 : decode cX4_fittingState 38 = .ok (.iload 6, 2) := by decide +kernel
theorem dX4_fittingState_40 : decode cX4_fittingState 40 = .ok (.iload 4, 2) := by decide +kernel
theorem dX4_fittingState_42 : decode cX4_fittingState 42 = .ok (.if_icmp .ge 10, 3) := by decide +kernel
theorem dX4_fittingState_45 : decode cX4_fittingState 45 = .ok (.iload 5, 2) := by decide +kernel
theorem dX4_fittingState_47 : decode cX4_fittingState 47 = .ok (.istore_n 3, 1) := by decide +kernel
theorem dX4_fittingState_48 : decode cX4_fittingState 48 = .ok (.iload 6, 2) := by decide +kernel
theorem dX4_fittingState_50 : decode cX4_fittingState 50 = .ok (.istore 4, 2) := by decide +kernel
theorem dX4_fittingState_52 : decode cX4_fittingState 52 = .ok (.iinc 5 1, 3) := by decide +kernel
theorem dX4_fittingState_55 : decode cX4_fittingState 55 = .ok (.goto (-47), 3) := by decide +kernel
theorem dX4_fittingState_58 : decode cX4_fittingState 58 = .ok (.iload_n 3, 1) := by decide +kernel
theorem dX4_fittingState_59 : decode cX4_fittingState 59 = .ok (.ireturn, 1) := by decide +kernel
theorem dX4_markDeviation_0 : decode cX4_markDeviation 0 = .ok (.aload_n 0, 1) := by decide +kernel
theorem dX4_markDeviation_1 : decode cX4_markDeviation 1 = .ok (.getfield 44, 3) := by decide +kernel
theorem dX4_markDeviation_4 : decode cX4_markDeviation 4 = .ok (.getfield 219, 3) := by decide +kernel
theorem dX4_markDeviation_7 : decode cX4_markDeviation 7 = .ok (.aload_n 1, 1) := by decide +kernel
theorem dX4_markDeviation_8 : decode cX4_markDeviation 8 = .ok (.getfield 95, 3) := by decide +kernel
theorem dX4_markDeviation_11 : decode cX4_markDeviation 11 = .ok (.iload_n 2, 1) := by decide +kernel
theorem dX4_markDeviation_12 : decode cX4_markDeviation 12 = .ok (.iaload, 1) := by decide +kernel
theorem dX4_markDeviation_13 : decode cX4_markDeviation 13 = .ok (.iload_n 3, 1) := by decide +kernel
theorem dX4_markDeviation_14 : decode cX4_markDeviation 14 = .ok (.imul, 1) := by decide +kernel
theorem dX4_markDeviation_15 : decode cX4_markDeviation 15 = .ok (.sipush 1000, 3) := by decide +kernel
theorem dX4_markDeviation_18 : decode cX4_markDeviation 18 = .ok (.idiv, 1) := by decide +kernel
theorem dX4_markDeviation_19 : decode cX4_markDeviation 19 = .ok (.isub, 1) := by decide +kernel
theorem dX4_markDeviation_20 : decode cX4_markDeviation 20 = .ok (.istore 4, 2) := by decide +kernel
theorem dX4_markDeviation_22 : decode cX4_markDeviation 22 = .ok (.aload_n 0, 1) := by decide +kernel
theorem dX4_markDeviation_23 : decode cX4_markDeviation 23 = .ok (.getfield 44, 3) := by decide +kernel
theorem dX4_markDeviation_26 : decode cX4_markDeviation 26 = .ok (.getfield 222, 3) := by decide +kernel
theorem dX4_markDeviation_29 : decode cX4_markDeviation 29 = .ok (.aload_n 1, 1) := by decide +kernel
theorem dX4_markDeviation_30 : decode cX4_markDeviation 30 = .ok (.getfield 104, 3) := by decide +kernel
theorem dX4_markDeviation_33 : decode cX4_markDeviation 33 = .ok (.iload_n 2, 1) := by decide +kernel
theorem dX4_markDeviation_34 : decode cX4_markDeviation 34 = .ok (.iaload, 1) := by decide +kernel
theorem dX4_markDeviation_35 : decode cX4_markDeviation 35 = .ok (.iload_n 3, 1) := by decide +kernel
theorem dX4_markDeviation_36 : decode cX4_markDeviation 36 = .ok (.imul, 1) := by decide +kernel
theorem dX4_markDeviation_37 : decode cX4_markDeviation 37 = .ok (.sipush 1000, 3) := by decide +kernel
theorem dX4_markDeviation_40 : decode cX4_markDeviation 40 = .ok (.idiv, 1) := by decide +kernel
theorem dX4_markDeviation_41 : decode cX4_markDeviation 41 = .ok (.isub, 1) := by decide +kernel
theorem dX4_markDeviation_42 : decode cX4_markDeviation 42 = .ok (.istore 5, 2) := by decide +kernel
theorem dX4_markDeviation_44 : decode cX4_markDeviation 44 = .ok (.iload 4, 2) := by decide +kernel
theorem dX4_markDeviation_46 : decode cX4_markDeviation 46 = .ok (.aload_n 0, 1) := by decide +kernel
theorem dX4_markDeviation_47 : decode cX4_markDeviation 47 = .ok (.getfield 20, 3) := by decide +kernel
theorem dX4_markDeviation_50 : decode cX4_markDeviation 50 = .ok (.if_icmp .gt 32, 3) := by decide +kernel
theorem dX4_markDeviation_53 : decode cX4_markDeviation 53 = .ok (.iload 4, 2) := by decide +kernel
theorem dX4_markDeviation_55 : decode cX4_markDeviation 55 = .ok (.aload_n 0, 1) := by decide +kernel
theorem dX4_markDeviation_56 : decode cX4_markDeviation 56 = .ok (.getfield 20, 3) := by decide +kernel
theorem dX4_markDeviation_59 : decode cX4_markDeviation 59 = .ok (.ineg, 1) := by decide +kernel
theorem dX4_markDeviation_60 : decode cX4_markDeviation 60 = .ok (.if_icmp .lt 22, 3) := by decide +kernel
theorem dX4_markDeviation_63 : decode cX4_markDeviation 63 = .ok (.iload 5, 2) := by decide +kernel
theorem dX4_markDeviation_65 : decode cX4_markDeviation 65 = .ok (.aload_n 0, 1) := by decide +kernel
theorem dX4_markDeviation_66 : decode cX4_markDeviation 66 = .ok (.getfield 20, 3) := by decide +kernel
theorem dX4_markDeviation_69 : decode cX4_markDeviation 69 = .ok (.if_icmp .gt 13, 3) := by decide +kernel
theorem dX4_markDeviation_72 : decode cX4_markDeviation 72 = .ok (.iload 5, 2) := by decide +kernel
theorem dX4_markDeviation_74 : decode cX4_markDeviation 74 = .ok (.aload_n 0, 1) := by decide +kernel
theorem dX4_markDeviation_75 : decode cX4_markDeviation 75 = .ok (.getfield 20, 3) := by decide +kernel
theorem dX4_markDeviation_78 : decode cX4_markDeviation 78 = .ok (.ineg, 1) := by decide +kernel
theorem dX4_markDeviation_79 : decode cX4_markDeviation 79 = .ok (.if_icmp .ge 5, 3) := by decide +kernel
theorem dX4_markDeviation_82 : decode cX4_markDeviation 82 = .ok (.iconst (-1), 1) := by decide +kernel
theorem dX4_markDeviation_83 : decode cX4_markDeviation 83 = .ok (.ireturn, 1) := by decide +kernel
theorem dX4_markDeviation_84 : decode cX4_markDeviation 84 = .ok (.iload 4, 2) := by decide +kernel
theorem dX4_markDeviation_86 : decode cX4_markDeviation 86 = .ok (.ifCond .ge 9, 3) := by decide +kernel
theorem dX4_markDeviation_89 : decode cX4_markDeviation 89 = .ok (.iload 4, 2) := by decide +kernel
theorem dX4_markDeviation_91 : decode cX4_markDeviation 91 = .ok (.ineg, 1) := by decide +kernel
theorem dX4_markDeviation_92 : decode cX4_markDeviation 92 = .ok (.goto 5, 3) := by decide +kernel
theorem dX4_markDeviation_95 : decode cX4_markDeviation 95 = .ok (.iload 4, 2) := by decide +kernel
theorem dX4_markDeviation_97 : decode cX4_markDeviation 97 = .ok (.iload 5, 2) := by decide +kernel
theorem dX4_markDeviation_99 : decode cX4_markDeviation 99 = .ok (.ifCond .ge 9, 3) := by decide +kernel
theorem dX4_markDeviation_102 : decode cX4_markDeviation 102 = .ok (.iload 5, 2) := by decide +kernel
theorem dX4_markDeviation_104 : decode cX4_markDeviation 104 = .ok (.ineg, 1) := by decide +kernel
theorem dX4_markDeviation_105 : decode cX4_markDeviation 105 = .ok (.goto 5, 3) := by decide +kernel
theorem dX4_markDeviation_108 : decode cX4_markDeviation 108 = .ok (.iload 5, 2) := by decide +kernel
theorem dX4_markDeviation_110 : decode cX4_markDeviation 110 = .ok (.iadd, 1) := by decide +kernel
theorem dX4_markDeviation_111 : decode cX4_markDeviation 111 = .ok (.ireturn, 1) := by decide +kernel
theorem dX4_gatherStates_0 : decode cX4_gatherStates 0 = .ok (.iconst 0, 1) := by decide +kernel
theorem dX4_gatherStates_1 : decode cX4_gatherStates 1 = .ok (.istore_n 2, 1) := by decide +kernel
theorem dX4_gatherStates_2 : decode cX4_gatherStates 2 = .ok (.iload_n 2, 1) := by decide +kernel
theorem dX4_gatherStates_3 : decode cX4_gatherStates 3 = .ok (.aload_n 0, 1) := by decide +kernel
theorem dX4_gatherStates_4 : decode cX4_gatherStates 4 = .ok (.getfield 38, 3) := by decide +kernel
theorem dX4_gatherStates_7 : decode cX4_gatherStates 7 = .ok (.if_icmp .ge 54, 3) := by decide +kernel
theorem dX4_gatherStates_10 : decode cX4_gatherStates 10 = .ok (.aload_n 0, 1) := by decide +kernel
theorem dX4_gatherStates_11 : decode cX4_gatherStates 11 = .ok (.getfield 48, 3) := by decide +kernel
theorem dX4_gatherStates_14 : decode cX4_gatherStates 14 = .ok (.iload_n 2, 1) := by decide +kernel
theorem dX4_gatherStates_15 : decode cX4_gatherStates 15 = .ok (.iconst (-1), 1) := by decide +kernel
theorem dX4_gatherStates_16 : decode cX4_gatherStates 16 = .ok (.iastore, 1) := by decide +kernel
theorem dX4_gatherStates_17 : decode cX4_gatherStates 17 = .ok (.iload_n 1, 1) := by decide +kernel
theorem dX4_gatherStates_18 : decode cX4_gatherStates 18 = .ok (.ifCond .lt 37, 3) := by decide +kernel
theorem dX4_gatherStates_21 : decode cX4_gatherStates 21 = .ok (.aload_n 0, 1) := by decide +kernel
theorem dX4_gatherStates_22 : decode cX4_gatherStates 22 = .ok (.aload_n 0, 1) := by decide +kernel
theorem dX4_gatherStates_23 : decode cX4_gatherStates 23 = .ok (.getfield 34, 3) := by decide +kernel
theorem dX4_gatherStates_26 : decode cX4_gatherStates 26 = .ok (.iload_n 2, 1) := by decide +kernel
theorem dX4_gatherStates_27 : decode cX4_gatherStates 27 = .ok (.aaload, 1) := by decide +kernel
theorem dX4_gatherStates_28 : decode cX4_gatherStates 28 = .ok (.invokevirtual 153, 3) := by decide +kernel
theorem dX4_gatherStates_31 : decode cX4_gatherStates 31 = .ok (.iload_n 1, 1) := by decide +kernel
theorem dX4_gatherStates_32 : decode cX4_gatherStates 32 = .ok (.if_icmp .ne 23, 3) := by decide +kernel
theorem dX4_gatherStates_35 : decode cX4_gatherStates 35 = .ok (.aload_n 0, 1) := by decide +kernel
theorem dX4_gatherStates_36 : decode cX4_gatherStates 36 = .ok (.getfield 48, 3) := by decide +kernel
theorem dX4_gatherStates_39 : decode cX4_gatherStates 39 = .ok (.iload_n 2, 1) := by decide +kernel
theorem dX4_gatherStates_40 : decode cX4_gatherStates 40 = .ok (.aload_n 0, 1) := by decide +kernel
theorem dX4_gatherStates_41 : decode cX4_gatherStates 41 = .ok (.aload_n 0, 1) := by decide +kernel
theorem dX4_gatherStates_42 : decode cX4_gatherStates 42 = .ok (.getfield 34, 3) := by decide +kernel
theorem dX4_gatherStates_45 : decode cX4_gatherStates 45 = .ok (.iload_n 2, 1) := by decide +kernel
theorem dX4_gatherStates_46 : decode cX4_gatherStates 46 = .ok (.aaload, 1) := by decide +kernel
theorem dX4_gatherStates_47 : decode cX4_gatherStates 47 = .ok (.iload_n 1, 1) := by decide +kernel
theorem dX4_gatherStates_48 : decode cX4_gatherStates 48 = .ok (.invokevirtual 128, 3) := by decide +kernel
theorem dX4_gatherStates_51 : decode cX4_gatherStates 51 = .ok (.getfield 150, 3) := by decide +kernel
theorem dX4_gatherStates_54 : decode cX4_gatherStates 54 = .ok (.iastore, 1) := by decide +kernel
theorem dX4_gatherStates_55 : decode cX4_gatherStates 55 = .ok (.iinc 2 1, 3) := by decide +kernel
theorem dX4_gatherStates_58 : decode cX4_gatherStates 58 = .ok (.goto (-56), 3) := by decide +kernel
theorem dX4_gatherStates_61 : decode cX4_gatherStates 61 = .ok (.return_, 1) := by decide +kernel
theorem dX4_isLowerState_0 : decode cX4_isLowerState 0 = .ok (.aload_n 0, 1) := by decide +kernel
theorem dX4_isLowerState_1 : decode cX4_isLowerState 1 = .ok (.getfield 48, 3) := by decide +kernel
theorem dX4_isLowerState_4 : decode cX4_isLowerState 4 = .ok (.iload_n 1, 1) := by decide +kernel
theorem dX4_isLowerState_5 : decode cX4_isLowerState 5 = .ok (.iaload, 1) := by decide +kernel
theorem dX4_isLowerState_6 : decode cX4_isLowerState 6 = .ok (.iconst (-1), 1) := by decide +kernel
theorem dX4_isLowerState_7 : decode cX4_isLowerState 7 = .ok (.if_icmp .eq 22, 3) := by decide +kernel
theorem dX4_isLowerState_10 : decode cX4_isLowerState 10 = .ok (.aload_n 0, 1) := by decide +kernel
theorem dX4_isLowerState_11 : decode cX4_isLowerState 11 = .ok (.getfield 48, 3) := by decide +kernel
theorem dX4_isLowerState_14 : decode cX4_isLowerState 14 = .ok (.iload_n 1, 1) := by decide +kernel
theorem dX4_isLowerState_15 : decode cX4_isLowerState 15 = .ok (.iaload, 1) := by decide +kernel
theorem dX4_isLowerState_16 : decode cX4_isLowerState 16 = .ok (.aload_n 0, 1) := by decide +kernel
theorem dX4_isLowerState_17 : decode cX4_isLowerState 17 = .ok (.getfield 48, 3) := by decide +kernel
theorem dX4_isLowerState_20 : decode cX4_isLowerState 20 = .ok (.iload_n 2, 1) := by decide +kernel
theorem dX4_isLowerState_21 : decode cX4_isLowerState 21 = .ok (.iaload, 1) := by decide +kernel
theorem dX4_isLowerState_22 : decode cX4_isLowerState 22 = .ok (.if_icmp .ge 7, 3) := by decide +kernel
theorem dX4_isLowerState_25 : decode cX4_isLowerState 25 = .ok (.iconst 1, 1) := by decide +kernel
theorem dX4_isLowerState_26 : decode cX4_isLowerState 26 = .ok (.goto 4, 3) := by decide +kernel
theorem dX4_isLowerState_29 : decode cX4_isLowerState 29 = .ok (.iconst 0, 1) := by decide +kernel
theorem dX4_isLowerState_30 : decode cX4_isLowerState 30 = .ok (.ireturn, 1) := by decide +kernel
theorem dX4_earliestOf_0 : decode cX4_earliestOf 0 = .ok (.aload_n 0, 1) := by decide +kernel
theorem dX4_earliestOf_1 : decode cX4_earliestOf 1 = .ok (.getfield 34, 3) := by decide +kernel
theorem dX4_earliestOf_4 : decode cX4_earliestOf 4 = .ok (.iload_n 1, 1) := by decide +kernel
theorem dX4_earliestOf_5 : decode cX4_earliestOf 5 = .ok (.aaload, 1) := by decide +kernel
theorem dX4_earliestOf_6 : decode cX4_earliestOf 6 = .ok (.getfield 122, 3) := by decide +kernel
theorem dX4_earliestOf_9 : decode cX4_earliestOf 9 = .ok (.istore_n 2, 1) := by decide +kernel
theorem dX4_earliestOf_10 : decode cX4_earliestOf 10 = .ok (.iconst 0, 1) := by decide +kernel
theorem dX4_earliestOf_11 : decode cX4_earliestOf 11 = .ok (.istore_n 3, 1) := by decide +kernel
theorem dX4_earliestOf_12 : decode cX4_earliestOf 12 = .ok (.iload_n 3, 1) := by decide +kernel
theorem dX4_earliestOf_13 : decode cX4_earliestOf 13 = .ok (.aload_n 0, 1) := by decide +kernel
theorem dX4_earliestOf_14 : decode cX4_earliestOf 14 = .ok (.getfield 38, 3) := by decide +kernel
theorem dX4_earliestOf_17 : decode cX4_earliestOf 17 = .ok (.if_icmp .ge 32, 3) := by decide +kernel
theorem dX4_earliestOf_20 : decode cX4_earliestOf 20 = .ok (.aload_n 0, 1) := by decide +kernel
theorem dX4_earliestOf_21 : decode cX4_earliestOf 21 = .ok (.iload_n 3, 1) := by decide +kernel
theorem dX4_earliestOf_22 : decode cX4_earliestOf 22 = .ok (.iload_n 1, 1) := by decide +kernel
theorem dX4_earliestOf_23 : decode cX4_earliestOf 23 = .ok (.invokevirtual 169, 3) := by decide +kernel
theorem dX4_earliestOf_26 : decode cX4_earliestOf 26 = .ok (.ifCond .eq 17, 3) := by decide +kernel
theorem dX4_earliestOf_29 : decode cX4_earliestOf 29 = .ok (.iload_n 2, 1) := by decide +kernel
theorem dX4_earliestOf_30 : decode cX4_earliestOf 30 = .ok (.aload_n 0, 1) := by decide +kernel
theorem dX4_earliestOf_31 : decode cX4_earliestOf 31 = .ok (.getfield 34, 3) := by decide +kernel
theorem dX4_earliestOf_34 : decode cX4_earliestOf 34 = .ok (.iload_n 3, 1) := by decide +kernel
theorem dX4_earliestOf_35 : decode cX4_earliestOf 35 = .ok (.aaload, 1) := by decide +kernel
theorem dX4_earliestOf_36 : decode cX4_earliestOf 36 = .ok (.getfield 122, 3) := by decide +kernel
theorem dX4_earliestOf_39 : decode cX4_earliestOf 39 = .ok (.invokestatic 111, 3) := by decide +kernel
theorem dX4_earliestOf_42 : decode cX4_earliestOf 42 = .ok (.istore_n 2, 1) := by decide +kernel
theorem dX4_earliestOf_43 : decode cX4_earliestOf 43 = .ok (.iinc 3 1, 3) := by decide +kernel
theorem dX4_earliestOf_46 : decode cX4_earliestOf 46 = .ok (.goto (-34), 3) := by decide +kernel
theorem dX4_earliestOf_49 : decode cX4_earliestOf 49 = .ok (.iload_n 2, 1) := by decide +kernel
theorem dX4_earliestOf_50 : decode cX4_earliestOf 50 = .ok (.ireturn, 1) := by decide +kernel
theorem dX4_latestOf_0 : decode cX4_latestOf 0 = .ok (.aload_n 0, 1) := by decide +kernel
theorem dX4_latestOf_1 : decode cX4_latestOf 1 = .ok (.getfield 34, 3) := by decide +kernel
theorem dX4_latestOf_4 : decode cX4_latestOf 4 = .ok (.iload_n 1, 1) := by decide +kernel
theorem dX4_latestOf_5 : decode cX4_latestOf 5 = .ok (.aaload, 1) := by decide +kernel
theorem dX4_latestOf_6 : decode cX4_latestOf 6 = .ok (.getfield 125, 3) := by decide +kernel
theorem dX4_latestOf_9 : decode cX4_latestOf 9 = .ok (.istore_n 2, 1) := by decide +kernel
theorem dX4_latestOf_10 : decode cX4_latestOf 10 = .ok (.iconst 0, 1) := by decide +kernel
theorem dX4_latestOf_11 : decode cX4_latestOf 11 = .ok (.istore_n 3, 1) := by decide +kernel
theorem dX4_latestOf_12 : decode cX4_latestOf 12 = .ok (.iload_n 3, 1) := by decide +kernel
theorem dX4_latestOf_13 : decode cX4_latestOf 13 = .ok (.aload_n 0, 1) := by decide +kernel
theorem dX4_latestOf_14 : decode cX4_latestOf 14 = .ok (.getfield 38, 3) := by decide +kernel
theorem dX4_latestOf_17 : decode cX4_latestOf 17 = .ok (.if_icmp .ge 32, 3) := by decide +kernel
theorem dX4_latestOf_20 : decode cX4_latestOf 20 = .ok (.aload_n 0, 1) := by decide +kernel
theorem dX4_latestOf_21 : decode cX4_latestOf 21 = .ok (.iload_n 1, 1) := by decide +kernel
theorem dX4_latestOf_22 : decode cX4_latestOf 22 = .ok (.iload_n 3, 1) := by decide +kernel
theorem dX4_latestOf_23 : decode cX4_latestOf 23 = .ok (.invokevirtual 169, 3) := by decide +kernel
theorem dX4_latestOf_26 : decode cX4_latestOf 26 = .ok (.ifCond .eq 17, 3) := by decide +kernel
theorem dX4_latestOf_29 : decode cX4_latestOf 29 = .ok (.iload_n 2, 1) := by decide +kernel
theorem dX4_latestOf_30 : decode cX4_latestOf 30 = .ok (.aload_n 0, 1) := by decide +kernel
theorem dX4_latestOf_31 : decode cX4_latestOf 31 = .ok (.getfield 34, 3) := by decide +kernel
theorem dX4_latestOf_34 : decode cX4_latestOf 34 = .ok (.iload_n 3, 1) := by decide +kernel
theorem dX4_latestOf_35 : decode cX4_latestOf 35 = .ok (.aaload, 1) := by decide +kernel
theorem dX4_latestOf_36 : decode cX4_latestOf 36 = .ok (.getfield 125, 3) := by decide +kernel
theorem dX4_latestOf_39 : decode cX4_latestOf 39 = .ok (.invokestatic 179, 3) := by decide +kernel
theorem dX4_latestOf_42 : decode cX4_latestOf 42 = .ok (.istore_n 2, 1) := by decide +kernel
theorem dX4_latestOf_43 : decode cX4_latestOf 43 = .ok (.iinc 3 1, 3) := by decide +kernel
theorem dX4_latestOf_46 : decode cX4_latestOf 46 = .ok (.goto (-34), 3) := by decide +kernel
theorem dX4_latestOf_49 : decode cX4_latestOf 49 = .ok (.iload_n 2, 1) := by decide +kernel
theorem dX4_latestOf_50 : decode cX4_latestOf 50 = .ok (.ireturn, 1) := by decide +kernel
theorem dX4_placeOf_0 : decode cX4_placeOf 0 = .ok (.iconst 0, 1) := by decide +kernel
theorem dX4_placeOf_1 : decode cX4_placeOf 1 = .ok (.istore_n 2, 1) := by decide +kernel
theorem dX4_placeOf_2 : decode cX4_placeOf 2 = .ok (.iconst 0, 1) := by decide +kernel
theorem dX4_placeOf_3 : decode cX4_placeOf 3 = .ok (.istore_n 3, 1) := by decide +kernel
theorem dX4_placeOf_4 : decode cX4_placeOf 4 = .ok (.iload_n 3, 1) := by decide +kernel
theorem dX4_placeOf_5 : decode cX4_placeOf 5 = .ok (.aload_n 0, 1) := by decide +kernel
theorem dX4_placeOf_6 : decode cX4_placeOf 6 = .ok (.getfield 38, 3) := by decide +kernel
theorem dX4_placeOf_9 : decode cX4_placeOf 9 = .ok (.if_icmp .ge 31, 3) := by decide +kernel
theorem dX4_placeOf_12 : decode cX4_placeOf 12 = .ok (.aload_n 0, 1) := by decide +kernel
theorem dX4_placeOf_13 : decode cX4_placeOf 13 = .ok (.getfield 48, 3) := by decide +kernel
theorem dX4_placeOf_16 : decode cX4_placeOf 16 = .ok (.iload_n 3, 1) := by decide +kernel
theorem dX4_placeOf_17 : decode cX4_placeOf 17 = .ok (.iaload, 1) := by decide +kernel
theorem dX4_placeOf_18 : decode cX4_placeOf 18 = .ok (.iconst (-1), 1) := by decide +kernel
theorem dX4_placeOf_19 : decode cX4_placeOf 19 = .ok (.if_icmp .eq 15, 3) := by decide +kernel
theorem dX4_placeOf_22 : decode cX4_placeOf 22 = .ok (.aload_n 0, 1) := by decide +kernel
theorem dX4_placeOf_23 : decode cX4_placeOf 23 = .ok (.iload_n 3, 1) := by decide +kernel
theorem dX4_placeOf_24 : decode cX4_placeOf 24 = .ok (.iload_n 1, 1) := by decide +kernel
theorem dX4_placeOf_25 : decode cX4_placeOf 25 = .ok (.invokevirtual 225, 3) := by decide +kernel
theorem dX4_placeOf_28 : decode cX4_placeOf 28 = .ok (.ifCond .eq 6, 3) := by decide +kernel
theorem dX4_placeOf_31 : decode cX4_placeOf 31 = .ok (.iinc 2 1, 3) := by decide +kernel
theorem dX4_placeOf_34 : decode cX4_placeOf 34 = .ok (.iinc 3 1, 3) := by decide +kernel
theorem dX4_placeOf_37 : decode cX4_placeOf 37 = .ok (.goto (-33), 3) := by decide +kernel
theorem dX4_placeOf_40 : decode cX4_placeOf 40 = .ok (.iload_n 2, 1) := by decide +kernel
theorem dX4_placeOf_41 : decode cX4_placeOf 41 = .ok (.ireturn, 1) := by decide +kernel
theorem dX4_comesBefore_0 : decode cX4_comesBefore 0 = .ok (.aload_n 0, 1) := by decide +kernel
theorem dX4_comesBefore_1 : decode cX4_comesBefore 1 = .ok (.getfield 48, 3) := by decide +kernel
theorem dX4_comesBefore_4 : decode cX4_comesBefore 4 = .ok (.iload_n 1, 1) := by decide +kernel
theorem dX4_comesBefore_5 : decode cX4_comesBefore 5 = .ok (.iaload, 1) := by decide +kernel
theorem dX4_comesBefore_6 : decode cX4_comesBefore 6 = .ok (.aload_n 0, 1) := by decide +kernel
theorem dX4_comesBefore_7 : decode cX4_comesBefore 7 = .ok (.getfield 48, 3) := by decide +kernel
theorem dX4_comesBefore_10 : decode cX4_comesBefore 10 = .ok (.iload_n 2, 1) := by decide +kernel
theorem dX4_comesBefore_11 : decode cX4_comesBefore 11 = .ok (.iaload, 1) := by decide +kernel
theorem dX4_comesBefore_12 : decode cX4_comesBefore 12 = .ok (.if_icmp .eq 24, 3) := by decide +kernel
theorem dX4_comesBefore_15 : decode cX4_comesBefore 15 = .ok (.aload_n 0, 1) := by decide +kernel
theorem dX4_comesBefore_16 : decode cX4_comesBefore 16 = .ok (.getfield 48, 3) := by decide +kernel
theorem dX4_comesBefore_19 : decode cX4_comesBefore 19 = .ok (.iload_n 1, 1) := by decide +kernel
theorem dX4_comesBefore_20 : decode cX4_comesBefore 20 = .ok (.iaload, 1) := by decide +kernel
theorem dX4_comesBefore_21 : decode cX4_comesBefore 21 = .ok (.aload_n 0, 1) := by decide +kernel
theorem dX4_comesBefore_22 : decode cX4_comesBefore 22 = .ok (.getfield 48, 3) := by decide +kernel
theorem dX4_comesBefore_25 : decode cX4_comesBefore 25 = .ok (.iload_n 2, 1) := by decide +kernel
theorem dX4_comesBefore_26 : decode cX4_comesBefore 26 = .ok (.iaload, 1) := by decide +kernel
theorem dX4_comesBefore_27 : decode cX4_comesBefore 27 = .ok (.if_icmp .ge 7, 3) := by decide +kernel
theorem dX4_comesBefore_30 : decode cX4_comesBefore 30 = .ok (.iconst 1, 1) := by decide +kernel
theorem dX4_comesBefore_31 : decode cX4_comesBefore 31 = .ok (.goto 4, 3) := by decide +kernel
theorem dX4_comesBefore_34 : decode cX4_comesBefore 34 = .ok (.iconst 0, 1) := by decide +kernel
theorem dX4_comesBefore_35 : decode cX4_comesBefore 35 = .ok (.ireturn, 1) := by decide +kernel
theorem dX4_comesBefore_36 : decode cX4_comesBefore 36 = .ok (.aload_n 0, 1) := by decide +kernel
theorem dX4_comesBefore_37 : decode cX4_comesBefore 37 = .ok (.getfield 51, 3) := by decide +kernel
theorem dX4_comesBefore_40 : decode cX4_comesBefore 40 = .ok (.iload_n 1, 1) := by decide +kernel
theorem dX4_comesBefore_41 : decode cX4_comesBefore 41 = .ok (.iaload, 1) := by decide +kernel
theorem dX4_comesBefore_42 : decode cX4_comesBefore 42 = .ok (.aload_n 0, 1) := by decide +kernel
theorem dX4_comesBefore_43 : decode cX4_comesBefore 43 = .ok (.getfield 51, 3) := by decide +kernel
theorem dX4_comesBefore_46 : decode cX4_comesBefore 46 = .ok (.iload_n 2, 1) := by decide +kernel
theorem dX4_comesBefore_47 : decode cX4_comesBefore 47 = .ok (.iaload, 1) := by decide +kernel
theorem dX4_comesBefore_48 : decode cX4_comesBefore 48 = .ok (.if_icmp .eq 24, 3) := by decide +kernel
theorem dX4_comesBefore_51 : decode cX4_comesBefore 51 = .ok (.aload_n 0, 1) := by decide +kernel
theorem dX4_comesBefore_52 : decode cX4_comesBefore 52 = .ok (.getfield 51, 3) := by decide +kernel
theorem dX4_comesBefore_55 : decode cX4_comesBefore 55 = .ok (.iload_n 1, 1) := by decide +kernel
theorem dX4_comesBefore_56 : decode cX4_comesBefore 56 = .ok (.iaload, 1) := by decide +kernel
theorem dX4_comesBefore_57 : decode cX4_comesBefore 57 = .ok (.aload_n 0, 1) := by decide +kernel
theorem dX4_comesBefore_58 : decode cX4_comesBefore 58 = .ok (.getfield 51, 3) := by decide +kernel
theorem dX4_comesBefore_61 : decode cX4_comesBefore 61 = .ok (.iload_n 2, 1) := by decide +kernel
theorem dX4_comesBefore_62 : decode cX4_comesBefore 62 = .ok (.iaload, 1) := by decide +kernel
theorem dX4_comesBefore_63 : decode cX4_comesBefore 63 = .ok (.if_icmp .ge 7, 3) := by decide +kernel
theorem dX4_comesBefore_66 : decode cX4_comesBefore 66 = .ok (.iconst 1, 1) := by decide +kernel
theorem dX4_comesBefore_67 : decode cX4_comesBefore 67 = .ok (.goto 4, 3) := by decide +kernel
theorem dX4_comesBefore_70 : decode cX4_comesBefore 70 = .ok (.iconst 0, 1) := by decide +kernel
theorem dX4_comesBefore_71 : decode cX4_comesBefore 71 = .ok (.ireturn, 1) := by decide +kernel
theorem dX4_comesBefore_72 : decode cX4_comesBefore 72 = .ok (.iload_n 1, 1) := by decide +kernel
theorem dX4_comesBefore_73 : decode cX4_comesBefore 73 = .ok (.iload_n 2, 1) := by decide +kernel
theorem dX4_comesBefore_74 : decode cX4_comesBefore 74 = .ok (.if_icmp .ge 7, 3) := by decide +kernel
theorem dX4_comesBefore_77 : decode cX4_comesBefore 77 = .ok (.iconst 1, 1) := by decide +kernel
theorem dX4_comesBefore_78 : decode cX4_comesBefore 78 = .ok (.goto 4, 3) := by decide +kernel
theorem dX4_comesBefore_81 : decode cX4_comesBefore 81 = .ok (.iconst 0, 1) := by decide +kernel
theorem dX4_comesBefore_82 : decode cX4_comesBefore 82 = .ok (.ireturn, 1) := by decide +kernel
end
section
theorem dX5_init_0 : decode cX5_init 0 = .ok (.aload_n 0, 1) := by decide +kernel
theorem dX5_init_1 : decode cX5_init 1 = .ok (.invokespecial 1, 3) := by decide +kernel
theorem dX5_init_4 : decode cX5_init 4 = .ok (.aload_n 0, 1) := by decide +kernel
theorem dX5_init_5 : decode cX5_init 5 = .ok (.bipush 10, 2) := by decide +kernel
theorem dX5_init_7 : decode cX5_init 7 = .ok (.newarray .int, 2) := by decide +kernel
theorem dX5_init_9 : decode cX5_init 9 = .ok (.putfield 7, 3) := by decide +kernel
theorem dX5_init_12 : decode cX5_init 12 = .ok (.aload_n 0, 1) := by decide +kernel
theorem dX5_init_13 : decode cX5_init 13 = .ok (.iconst 5, 1) := by decide +kernel
theorem dX5_init_14 : decode cX5_init 14 = .ok (.putfield 13, 3) := by decide +kernel
theorem dX5_init_17 : decode cX5_init 17 = .ok (.aload_n 0, 1) := by decide +kernel
theorem dX5_init_18 : decode cX5_init 18 = .ok (.bipush 20, 2) := by decide +kernel
theorem dX5_init_20 : decode cX5_init 20 = .ok (.putfield 17, 3) := by decide +kernel
theorem dX5_init_23 : decode cX5_init 23 = .ok (.aload_n 0, 1) := by decide +kernel
theorem dX5_init_24 : decode cX5_init 24 = .ok (.bipush 10, 2) := by decide +kernel
theorem dX5_init_26 : decode cX5_init 26 = .ok (.newarray .int, 2) := by decide +kernel
theorem dX5_init_28 : decode cX5_init 28 = .ok (.putfield 20, 3) := by decide +kernel
theorem dX5_init_31 : decode cX5_init 31 = .ok (.aload_n 0, 1) := by decide +kernel
theorem dX5_init_32 : decode cX5_init 32 = .ok (.bipush 100, 2) := by decide +kernel
theorem dX5_init_34 : decode cX5_init 34 = .ok (.newarray .int, 2) := by decide +kernel
theorem dX5_init_36 : decode cX5_init 36 = .ok (.putfield 23, 3) := by decide +kernel
theorem dX5_init_39 : decode cX5_init 39 = .ok (.aload_n 0, 1) := by decide +kernel
theorem dX5_init_40 : decode cX5_init 40 = .ok (.bipush 10, 2) := by decide +kernel
theorem dX5_init_42 : decode cX5_init 42 = .ok (.newarray .int, 2) := by decide +kernel
theorem dX5_init_44 : decode cX5_init 44 = .ok (.putfield 26, 3) := by decide +kernel
theorem dX5_init_47 : decode cX5_init 47 = .ok (.aload_n 0, 1) := by decide +kernel
theorem dX5_init_48 : decode cX5_init 48 = .ok (.bipush 10, 2) := by decide +kernel
theorem dX5_init_50 : decode cX5_init 50 = .ok (.newarray .int, 2) := by decide +kernel
theorem dX5_init_52 : decode cX5_init 52 = .ok (.putfield 29, 3) := by decide +kernel
theorem dX5_init_55 : decode cX5_init 55 = .ok (.aload_n 0, 1) := by decide +kernel
theorem dX5_init_56 : decode cX5_init 56 = .ok (.bipush 60, 2) := by decide +kernel
theorem dX5_init_58 : decode cX5_init 58 = .ok (.newarray .int, 2) := by decide +kernel
theorem dX5_init_60 : decode cX5_init 60 = .ok (.putfield 32, 3) := by decide +kernel
theorem dX5_init_63 : decode cX5_init 63 = .ok (.aload_n 0, 1) := by decide +kernel
theorem dX5_init_64 : decode cX5_init 64 = .ok (.bipush 60, 2) := by decide +kernel
theorem dX5_init_66 : decode cX5_init 66 = .ok (.newarray .int, 2) := by decide +kernel
theorem dX5_init_68 : decode cX5_init 68 = .ok (.putfield 35, 3) := by decide +kernel
theorem dX5_init_71 : decode cX5_init 71 = .ok (.aload_n 0, 1) := by decide +kernel
theorem dX5_init_72 : decode cX5_init 72 = .ok (.bipush 30, 2) := by decide +kernel
theorem dX5_init_74 : decode cX5_init 74 = .ok (.newarray .int, 2) := by decide +kernel
theorem dX5_init_76 : decode cX5_init 76 = .ok (.putfield 38, 3) := by decide +kernel
theorem dX5_init_79 : decode cX5_init 79 = .ok (.aload_n 0, 1) := by decide +kernel
theorem dX5_init_80 : decode cX5_init 80 = .ok (.sipush 300, 3) := by decide +kernel
theorem dX5_init_83 : decode cX5_init 83 = .ok (.newarray .int, 2) := by decide +kernel
theorem dX5_init_85 : decode cX5_init 85 = .ok (.putfield 41, 3) := by decide +kernel
theorem dX5_init_88 : decode cX5_init 88 = .ok (.aload_n 0, 1) := by decide +kernel
theorem dX5_init_89 : decode cX5_init 89 = .ok (.bipush 30, 2) := by decide +kernel
theorem dX5_init_91 : decode cX5_init 91 = .ok (.newarray .int, 2) := by decide +kernel
theorem dX5_init_93 : decode cX5_init 93 = .ok (.putfield 44, 3) := by decide +kernel
theorem dX5_init_96 : decode cX5_init 96 = .ok (.aload_n 0, 1) := by decide +kernel
theorem dX5_init_97 : decode cX5_init 97 = .ok (.bipush 30, 2) := by decide +kernel
theorem dX5_init_99 : decode cX5_init 99 = .ok (.newarray .int, 2) := by decide +kernel
theorem dX5_init_101 : decode cX5_init 101 = .ok (.putfield 47, 3) := by decide +kernel
theorem dX5_init_104 : decode cX5_init 104 = .ok (.aload_n 0, 1) := by decide +kernel
theorem dX5_init_105 : decode cX5_init 105 = .ok (.bipush 30, 2) := by decide +kernel
theorem dX5_init_107 : decode cX5_init 107 = .ok (.newarray .int, 2) := by decide +kernel
theorem dX5_init_109 : decode cX5_init 109 = .ok (.putfield 50, 3) := by decide +kernel
theorem dX5_init_112 : decode cX5_init 112 = .ok (.aload_n 0, 1) := by decide +kernel
theorem dX5_init_113 : decode cX5_init 113 = .ok (.bipush 30, 2) := by decide +kernel
theorem dX5_init_115 : decode cX5_init 115 = .ok (.newarray .int, 2) := by decide +kernel
theorem dX5_init_117 : decode cX5_init 117 = .ok (.putfield 53, 3) := by decide +kernel
theorem dX5_init_120 : decode cX5_init 120 = .ok (.aload_n 0, 1) := by decide +kernel
theorem dX5_init_121 : decode cX5_init 121 = .ok (.bipush 30, 2) := by decide +kernel
theorem dX5_init_123 : decode cX5_init 123 = .ok (.newarray .int, 2) := by decide +kernel
theorem dX5_init_125 : decode cX5_init 125 = .ok (.putfield 56, 3) := by decide +kernel
theorem dX5_init_128 : decode cX5_init 128 = .ok (.aload_n 0, 1) := by decide +kernel
theorem dX5_init_129 : decode cX5_init 129 = .ok (.bipush 30, 2) := by decide +kernel
theorem dX5_init_131 : decode cX5_init 131 = .ok (.newarray .int, 2) := by decide +kernel
theorem dX5_init_133 : decode cX5_init 133 = .ok (.putfield 59, 3) := by decide +kernel
theorem dX5_init_136 : decode cX5_init 136 = .ok (.aload_n 0, 1) := by decide +kernel
theorem dX5_init_137 : decode cX5_init 137 = .ok (.bipush 30, 2) := by decide +kernel
theorem dX5_init_139 : decode cX5_init 139 = .ok (.newarray .int, 2) := by decide +kernel
theorem dX5_init_141 : decode cX5_init 141 = .ok (.putfield 62, 3) := by decide +kernel
theorem dX5_init_144 : decode cX5_init 144 = .ok (.aload_n 0, 1) := by decide +kernel
theorem dX5_init_145 : decode cX5_init 145 = .ok (.bipush 30, 2) := by decide +kernel
theorem dX5_init_147 : decode cX5_init 147 = .ok (.newarray .int, 2) := by decide +kernel
theorem dX5_init_149 : decode cX5_init 149 = .ok (.putfield 65, 3) := by decide +kernel
theorem dX5_init_152 : decode cX5_init 152 = .ok (.return_, 1) := by decide +kernel
theorem dX5_within_0 : decode cX5_within 0 = .ok (.iload_n 0, 1) := by decide +kernel
theorem dX5_within_1 : decode cX5_within 1 = .ok (.iload_n 1, 1) := by decide +kernel
theorem dX5_within_2 : decode cX5_within 2 = .ok (.if_icmp .lt 12, 3) := by decide +kernel
theorem dX5_within_5 : decode cX5_within 5 = .ok (.iload_n 0, 1) := by decide +kernel
theorem dX5_within_6 : decode cX5_within 6 = .ok (.iload_n 2, 1) := by decide +kernel
theorem dX5_within_7 : decode cX5_within 7 = .ok (.if_icmp .gt 7, 3) := by decide +kernel
theorem dX5_within_10 : decode cX5_within 10 = .ok (.iconst 1, 1) := by decide +kernel
theorem dX5_within_11 : decode cX5_within 11 = .ok (.goto 4, 3) := by decide +kernel
theorem dX5_within_14 : decode cX5_within 14 = .ok (.iconst 0, 1) := by decide +kernel
theorem dX5_within_15 : decode cX5_within 15 = .ok (.ireturn, 1) := by decide +kernel
theorem dX5_apart_0 : decode cX5_apart 0 = .ok (.iload_n 0, 1) := by decide +kernel
theorem dX5_apart_1 : decode cX5_apart 1 = .ok (.iload_n 1, 1) := by decide +kernel
theorem dX5_apart_2 : decode cX5_apart 2 = .ok (.if_icmp .le 9, 3) := by decide +kernel
theorem dX5_apart_5 : decode cX5_apart 5 = .ok (.iload_n 0, 1) := by decide +kernel
theorem dX5_apart_6 : decode cX5_apart 6 = .ok (.iload_n 1, 1) := by decide +kernel
theorem dX5_apart_7 : decode cX5_apart 7 = .ok (.isub, 1) := by decide +kernel
theorem dX5_apart_8 : decode cX5_apart 8 = .ok (.goto 6, 3) := by decide +kernel
theorem dX5_apart_11 : decode cX5_apart 11 = .ok (.iload_n 1, 1) := by decide +kernel
theorem dX5_apart_12 : decode cX5_apart 12 = .ok (.iload_n 0, 1) := by decide +kernel
theorem dX5_apart_13 : decode cX5_apart 13 = .ok (.isub, 1) := by decide +kernel
theorem dX5_apart_14 : decode cX5_apart 14 = .ok (.ireturn, 1) := by decide +kernel
theorem dX5_clearRow_0 : decode cX5_clearRow 0 = .ok (.aload_n 0, 1) := by decide +kernel
theorem dX5_clearRow_1 : decode cX5_clearRow 1 = .ok (.getfield 68, 3) := by decide +kernel
theorem dX5_clearRow_4 : decode cX5_clearRow 4 = .ok (.istore_n 1, 1) := by decide +kernel
theorem dX5_clearRow_5 : decode cX5_clearRow 5 = .ok (.aload_n 0, 1) := by decide +kernel
theorem dX5_clearRow_6 : decode cX5_clearRow 6 = .ok (.iconst 0, 1) := by decide +kernel
theorem dX5_clearRow_7 : decode cX5_clearRow 7 = .ok (.putfield 68, 3) := by decide +kernel
theorem dX5_clearRow_10 : decode cX5_clearRow 10 = .ok (.iload_n 1, 1) := by decide +kernel
theorem dX5_clearRow_11 : decode cX5_clearRow 11 = .ok (.ireturn, 1) := by decide +kernel
theorem dX5_addToRow_0 : decode cX5_addToRow 0 = .ok (.iload_n 1, 1) := by decide +kernel
theorem dX5_addToRow_1 : decode cX5_addToRow 1 = .ok (.bipush 100, 2) := by decide +kernel
theorem dX5_addToRow_3 : decode cX5_addToRow 3 = .ok (.sipush 450, 3) := by decide +kernel
theorem dX5_addToRow_6 : decode cX5_addToRow 6 = .ok (.invokestatic 71, 3) := by decide +kernel
theorem dX5_addToRow_9 : decode cX5_addToRow 9 = .ok (.ifCond .ne 6, 3) := by decide +kernel
theorem dX5_addToRow_12 : decode cX5_addToRow 12 = .ok (.bipush (-3), 2) := by decide +kernel
theorem dX5_addToRow_14 : decode cX5_addToRow 14 = .ok (.ireturn, 1) := by decide +kernel
theorem dX5_addToRow_15 : decode cX5_addToRow 15 = .ok (.aload_n 0, 1) := by decide +kernel
theorem dX5_addToRow_16 : decode cX5_addToRow 16 = .ok (.getfield 68, 3) := by decide +kernel
theorem dX5_addToRow_19 : decode cX5_addToRow 19 = .ok (.bipush 10, 2) := by decide +kernel
theorem dX5_addToRow_21 : decode cX5_addToRow 21 = .ok (.if_icmp .ne 6, 3) := by decide +kernel
theorem dX5_addToRow_24 : decode cX5_addToRow 24 = .ok (.bipush (-5), 2) := by decide +kernel
theorem dX5_addToRow_26 : decode cX5_addToRow 26 = .ok (.ireturn, 1) := by decide +kernel
theorem dX5_addToRow_27 : decode cX5_addToRow 27 = .ok (.aload_n 0, 1) := by decide +kernel
theorem dX5_addToRow_28 : decode cX5_addToRow 28 = .ok (.getfield 7, 3) := by decide +kernel
theorem dX5_addToRow_31 : decode cX5_addToRow 31 = .ok (.aload_n 0, 1) := by decide +kernel
theorem dX5_addToRow_32 : decode cX5_addToRow 32 = .ok (.getfield 68, 3) := by decide +kernel
theorem dX5_addToRow_35 : decode cX5_addToRow 35 = .ok (.iload_n 1, 1) := by decide +kernel
theorem dX5_addToRow_36 : decode cX5_addToRow 36 = .ok (.iastore, 1) := by decide +kernel
theorem dX5_addToRow_37 : decode cX5_addToRow 37 = .ok (.aload_n 0, 1) := by decide +kernel
theorem dX5_addToRow_38 : decode cX5_addToRow 38 = .ok (.dup, 1) := by decide +kernel
theorem dX5_addToRow_39 : decode cX5_addToRow 39 = .ok (.getfield 68, 3) := by decide +kernel
theorem dX5_addToRow_42 : decode cX5_addToRow 42 = .ok (.iconst 1, 1) := by decide +kernel
theorem dX5_addToRow_43 : decode cX5_addToRow 43 = .ok (.iadd, 1) := by decide +kernel
theorem dX5_addToRow_44 : decode cX5_addToRow 44 = .ok (.putfield 68, 3) := by decide +kernel
theorem dX5_addToRow_47 : decode cX5_addToRow 47 = .ok (.aload_n 0, 1) := by decide +kernel
theorem dX5_addToRow_48 : decode cX5_addToRow 48 = .ok (.getfield 68, 3) := by decide +kernel
theorem dX5_addToRow_51 : decode cX5_addToRow 51 = .ok (.ireturn, 1) := by decide +kernel
theorem dX5_setTolerances_0 : decode cX5_setTolerances 0 = .ok (.iload_n 1, 1) := by decide +kernel
theorem dX5_setTolerances_1 : decode cX5_setTolerances 1 = .ok (.iconst 0, 1) := by decide +kernel
theorem dX5_setTolerances_2 : decode cX5_setTolerances 2 = .ok (.bipush 50, 2) := by decide +kernel
theorem dX5_setTolerances_4 : decode cX5_setTolerances 4 = .ok (.invokestatic 71, 3) := by decide +kernel
theorem dX5_setTolerances_7 : decode cX5_setTolerances 7 = .ok (.ifCond .eq 13, 3) := by decide +kernel
theorem dX5_setTolerances_10 : decode cX5_setTolerances 10 = .ok (.iload_n 2, 1) := by decide +kernel
theorem dX5_setTolerances_11 : decode cX5_setTolerances 11 = .ok (.iconst 0, 1) := by decide +kernel
theorem dX5_setTolerances_12 : decode cX5_setTolerances 12 = .ok (.bipush 100, 2) := by decide +kernel
theorem dX5_setTolerances_14 : decode cX5_setTolerances 14 = .ok (.invokestatic 71, 3) := by decide +kernel
theorem dX5_setTolerances_17 : decode cX5_setTolerances 17 = .ok (.ifCond .ne 6, 3) := by decide +kernel
theorem dX5_setTolerances_20 : decode cX5_setTolerances 20 = .ok (.bipush (-3), 2) := by decide +kernel
theorem dX5_setTolerances_22 : decode cX5_setTolerances 22 = .ok (.ireturn, 1) := by decide +kernel
theorem dX5_setTolerances_23 : decode cX5_setTolerances 23 = .ok (.iload_n 1, 1) := by decide +kernel
theorem dX5_setTolerances_24 : decode cX5_setTolerances 24 = .ok (.aload_n 0, 1) := by decide +kernel
theorem dX5_setTolerances_25 : decode cX5_setTolerances 25 = .ok (.getfield 13, 3) := by decide +kernel
theorem dX5_setTolerances_28 : decode cX5_setTolerances 28 = .ok (.if_icmp .ne 11, 3) := by decide +kernel
theorem dX5_setTolerances_31 : decode cX5_setTolerances 31 = .ok (.iload_n 2, 1) := by decide +kernel
theorem dX5_setTolerances_32 : decode cX5_setTolerances 32 = .ok (.aload_n 0, 1) := by decide +kernel
theorem dX5_setTolerances_33 : decode cX5_setTolerances 33 = .ok (.getfield 17, 3) := by decide +kernel
theorem dX5_setTolerances_36 : decode cX5_setTolerances 36 = .ok (.if_icmp .eq 7, 3) := by decide +kernel
theorem dX5_setTolerances_39 : decode cX5_setTolerances 39 = .ok (.iconst 1, 1) := by decide +kernel
theorem dX5_setTolerances_40 : decode cX5_setTolerances 40 = .ok (.goto 4, 3) := by decide +kernel
theorem dX5_setTolerances_43 : decode cX5_setTolerances 43 = .ok (.iconst 0, 1) := by decide +kernel
theorem dX5_setTolerances_44 : decode cX5_setTolerances 44 = .ok (.istore_n 3, 1) := by decide +kernel
theorem dX5_setTolerances_45 : decode cX5_setTolerances 45 = .ok (.aload_n 0, 1) := by decide +kernel
theorem dX5_setTolerances_46 : decode cX5_setTolerances 46 = .ok (.iload_n 1, 1) := by decide +kernel
theorem dX5_setTolerances_47 : decode cX5_setTolerances 47 = .ok (.putfield 13, 3) := by decide +kernel
theorem dX5_setTolerances_50 : decode cX5_setTolerances 50 = .ok (.aload_n 0, 1) := by decide +kernel
theorem dX5_setTolerances_51 : decode cX5_setTolerances 51 = .ok (.iload_n 2, 1) := by decide +kernel
theorem dX5_setTolerances_52 : decode cX5_setTolerances 52 = .ok (.putfield 17, 3) := by decide +kernel
theorem dX5_setTolerances_55 : decode cX5_setTolerances 55 = .ok (.iload_n 3, 1) := by decide +kernel
theorem dX5_setTolerances_56 : decode cX5_setTolerances 56 = .ok (.ifCond .eq 7, 3) := by decide +kernel
theorem dX5_setTolerances_59 : decode cX5_setTolerances 59 = .ok (.iconst 1, 1) := by decide +kernel
theorem dX5_setTolerances_60 : decode cX5_setTolerances 60 = .ok (.goto 4, 3) := by decide +kernel
theorem dX5_setTolerances_63 : decode cX5_setTolerances 63 = .ok (.iconst 0, 1) := by decide +kernel
theorem dX5_setTolerances_64 : decode cX5_setTolerances 64 = .ok (.ireturn, 1) := by decide +kernel
theorem dX5_noMould_0 : decode cX5_noMould 0 = .ok (.iload_n 1, 1) := by decide +kernel
theorem dX5_noMould_1 : decode cX5_noMould 1 = .ok (.iconst 0, 1) := by decide +kernel
theorem dX5_noMould_2 : decode cX5_noMould 2 = .ok (.aload_n 0, 1) := by decide +kernel
theorem dX5_noMould_3 : decode cX5_noMould 3 = .ok (.getfield 75, 3) := by decide +kernel
theorem dX5_noMould_6 : decode cX5_noMould 6 = .ok (.iconst 1, 1) := by decide +kernel
theorem dX5_noMould_7 : decode cX5_noMould 7 = .ok (.isub, 1) := by decide +kernel
theorem dX5_noMould_8 : decode cX5_noMould 8 = .ok (.invokestatic 71, 3) := by decide +kernel
theorem dX5_noMould_11 : decode cX5_noMould 11 = .ok (.ifCond .ne 7, 3) := by decide +kernel
theorem dX5_noMould_14 : decode cX5_noMould 14 = .ok (.iconst 1, 1) := by decide +kernel
theorem dX5_noMould_15 : decode cX5_noMould 15 = .ok (.goto 4, 3) := by decide +kernel
theorem dX5_noMould_18 : decode cX5_noMould 18 = .ok (.iconst 0, 1) := by decide +kernel
theorem dX5_noMould_19 : decode cX5_noMould 19 = .ok (.ireturn, 1) := by decide +kernel
theorem dX5_isMark_0 : decode cX5_isMark 0 = .ok (.iload_n 1, 1) := by decide +kernel
theorem dX5_isMark_1 : decode cX5_isMark 1 = .ok (.iconst 0, 1) := by decide +kernel
theorem dX5_isMark_2 : decode cX5_isMark 2 = .ok (.aload_n 0, 1) := by decide +kernel
theorem dX5_isMark_3 : decode cX5_isMark 3 = .ok (.getfield 68, 3) := by decide +kernel
theorem dX5_isMark_6 : decode cX5_isMark 6 = .ok (.iconst 1, 1) := by decide +kernel
theorem dX5_isMark_7 : decode cX5_isMark 7 = .ok (.isub, 1) := by decide +kernel
theorem dX5_isMark_8 : decode cX5_isMark 8 = .ok (.invokestatic 71, 3) := by decide +kernel
theorem dX5_isMark_11 : decode cX5_isMark 11 = .ok (.ifCond .eq 32, 3) := by decide +kernel
theorem dX5_isMark_14 : decode cX5_isMark 14 = .ok (.iload_n 2, 1) := by decide +kernel
theorem dX5_isMark_15 : decode cX5_isMark 15 = .ok (.iconst 0, 1) := by decide +kernel
theorem dX5_isMark_16 : decode cX5_isMark 16 = .ok (.aload_n 0, 1) := by decide +kernel
theorem dX5_isMark_17 : decode cX5_isMark 17 = .ok (.getfield 7, 3) := by decide +kernel
theorem dX5_isMark_20 : decode cX5_isMark 20 = .ok (.iload_n 1, 1) := by decide +kernel
theorem dX5_isMark_21 : decode cX5_isMark 21 = .ok (.iaload, 1) := by decide +kernel
theorem dX5_isMark_22 : decode cX5_isMark 22 = .ok (.invokestatic 71, 3) := by decide +kernel
theorem dX5_isMark_25 : decode cX5_isMark 25 = .ok (.ifCond .eq 18, 3) := by decide +kernel
theorem dX5_isMark_28 : decode cX5_isMark 28 = .ok (.iload_n 3, 1) := by decide +kernel
theorem dX5_isMark_29 : decode cX5_isMark 29 = .ok (.iconst 0, 1) := by decide +kernel
theorem dX5_isMark_30 : decode cX5_isMark 30 = .ok (.sipush 300, 3) := by decide +kernel
theorem dX5_isMark_33 : decode cX5_isMark 33 = .ok (.invokestatic 71, 3) := by decide +kernel
theorem dX5_isMark_36 : decode cX5_isMark 36 = .ok (.ifCond .eq 7, 3) := by decide +kernel
theorem dX5_isMark_39 : decode cX5_isMark 39 = .ok (.iconst 1, 1) := by decide +kernel
theorem dX5_isMark_40 : decode cX5_isMark 40 = .ok (.goto 4, 3) := by decide +kernel
theorem dX5_isMark_43 : decode cX5_isMark 43 = .ok (.iconst 0, 1) := by decide +kernel
theorem dX5_isMark_44 : decode cX5_isMark 44 = .ok (.ireturn, 1) := by decide +kernel
theorem dX5_putState_0 : decode cX5_putState 0 = .ok (.aload_n 0, 1) := by decide +kernel
theorem dX5_putState_1 : decode cX5_putState 1 = .ok (.getfield 32, 3) := by decide +kernel
theorem dX5_putState_4 : decode cX5_putState 4 = .ok (.bipush 6, 2) := by decide +kernel
theorem dX5_putState_6 : decode cX5_putState 6 = .ok (.iload_n 1, 1) := by decide +kernel
theorem dX5_putState_7 : decode cX5_putState 7 = .ok (.imul, 1) := by decide +kernel
theorem dX5_putState_8 : decode cX5_putState 8 = .ok (.aload_n 0, 1) := by decide +kernel
theorem dX5_putState_9 : decode cX5_putState 9 = .ok (.getfield 29, 3) := by decide +kernel
theorem dX5_putState_12 : decode cX5_putState 12 = .ok (.iload_n 1, 1) := by decide +kernel
theorem dX5_putState_13 : decode cX5_putState 13 = .ok (.iaload, 1) := by decide +kernel
theorem dX5_putState_14 : decode cX5_putState 14 = .ok (.iadd, 1) := by decide +kernel
theorem dX5_putState_15 : decode cX5_putState 15 = .ok (.iload_n 2, 1) := by decide +kernel
theorem dX5_putState_16 : decode cX5_putState 16 = .ok (.iastore, 1) := by decide +kernel
theorem dX5_putState_17 : decode cX5_putState 17 = .ok (.aload_n 0, 1) := by decide +kernel
theorem dX5_putState_18 : decode cX5_putState 18 = .ok (.getfield 35, 3) := by decide +kernel
theorem dX5_putState_21 : decode cX5_putState 21 = .ok (.bipush 6, 2) := by decide +kernel
theorem dX5_putState_23 : decode cX5_putState 23 = .ok (.iload_n 1, 1) := by decide +kernel
theorem dX5_putState_24 : decode cX5_putState 24 = .ok (.imul, 1) := by decide +kernel
theorem dX5_putState_25 : decode cX5_putState 25 = .ok (.aload_n 0, 1) := by decide +kernel
theorem dX5_putState_26 : decode cX5_putState 26 = .ok (.getfield 29, 3) := by decide +kernel
theorem dX5_putState_29 : decode cX5_putState 29 = .ok (.iload_n 1, 1) := by decide +kernel
theorem dX5_putState_30 : decode cX5_putState 30 = .ok (.iaload, 1) := by decide +kernel
theorem dX5_putState_31 : decode cX5_putState 31 = .ok (.iadd, 1) := by decide +kernel
theorem dX5_putState_32 : decode cX5_putState 32 = .ok (.iload_n 3, 1) := by decide +kernel
theorem dX5_putState_33 : decode cX5_putState 33 = .ok (.iastore, 1) := by decide +kernel
theorem dX5_putState_34 : decode cX5_putState 34 = .ok (.aload_n 0, 1) := by decide +kernel
theorem dX5_putState_35 : decode cX5_putState 35 = .ok (.getfield 29, 3) := by decide +kernel
theorem dX5_putState_38 : decode cX5_putState 38 = .ok (.iload_n 1, 1) := by decide +kernel
theorem dX5_putState_39 : decode cX5_putState 39 = .ok (.dup2, 1) := by decide +kernel
theorem dX5_putState_40 : decode cX5_putState 40 = .ok (.iaload, 1) := by decide +kernel
theorem dX5_putState_41 : decode cX5_putState 41 = .ok (.iconst 1, 1) := by decide +kernel
theorem dX5_putState_42 : decode cX5_putState 42 = .ok (.iadd, 1) := by decide +kernel
theorem dX5_putState_43 : decode cX5_putState 43 = .ok (.iastore, 1) := by decide +kernel
theorem dX5_putState_44 : decode cX5_putState 44 = .ok (.return_, 1) := by decide +kernel
theorem dX5_addMould_0 : decode cX5_addMould 0 = .ok (.aload_n 0, 1) := by decide +kernel
theorem dX5_addMould_1 : decode cX5_addMould 1 = .ok (.getfield 68, 3) := by decide +kernel
theorem dX5_addMould_4 : decode cX5_addMould 4 = .ok (.iconst 3, 1) := by decide +kernel
theorem dX5_addMould_5 : decode cX5_addMould 5 = .ok (.if_icmp .ge 6, 3) := by decide +kernel
theorem dX5_addMould_8 : decode cX5_addMould 8 = .ok (.bipush (-4), 2) := by decide +kernel
theorem dX5_addMould_10 : decode cX5_addMould 10 = .ok (.ireturn, 1) := by decide +kernel
theorem dX5_addMould_11 : decode cX5_addMould 11 = .ok (.aload_n 0, 1) := by decide +kernel
theorem dX5_addMould_12 : decode cX5_addMould 12 = .ok (.iload_n 1, 1) := by decide +kernel
theorem dX5_addMould_13 : decode cX5_addMould 13 = .ok (.iload_n 2, 1) := by decide +kernel
theorem dX5_addMould_14 : decode cX5_addMould 14 = .ok (.iload_n 3, 1) := by decide +kernel
theorem dX5_addMould_15 : decode cX5_addMould 15 = .ok (.invokevirtual 78, 3) := by decide +kernel
theorem dX5_addMould_18 : decode cX5_addMould 18 = .ok (.ifCond .ne 6, 3) := by decide +kernel
theorem dX5_addMould_21 : decode cX5_addMould 21 = .ok (.bipush (-3), 2) := by decide +kernel
theorem dX5_addMould_23 : decode cX5_addMould 23 = .ok (.ireturn, 1) := by decide +kernel
theorem dX5_addMould_24 : decode cX5_addMould 24 = .ok (.aload_n 0, 1) := by decide +kernel
theorem dX5_addMould_25 : decode cX5_addMould 25 = .ok (.getfield 75, 3) := by decide +kernel
theorem dX5_addMould_28 : decode cX5_addMould 28 = .ok (.bipush 10, 2) := by decide +kernel
theorem dX5_addMould_30 : decode cX5_addMould 30 = .ok (.if_icmp .ne 6, 3) := by decide +kernel
theorem dX5_addMould_33 : decode cX5_addMould 33 = .ok (.bipush (-5), 2) := by decide +kernel
theorem dX5_addMould_35 : decode cX5_addMould 35 = .ok (.ireturn, 1) := by decide +kernel
theorem dX5_addMould_36 : decode cX5_addMould 36 = .ok (.aload_n 0, 1) := by decide +kernel
theorem dX5_addMould_37 : decode cX5_addMould 37 = .ok (.getfield 20, 3) := by decide +kernel
theorem dX5_addMould_40 : decode cX5_addMould 40 = .ok (.aload_n 0, 1) := by decide +kernel
theorem dX5_addMould_41 : decode cX5_addMould 41 = .ok (.getfield 75, 3) := by decide +kernel
theorem dX5_addMould_44 : decode cX5_addMould 44 = .ok (.aload_n 0, 1) := by decide +kernel
theorem dX5_addMould_45 : decode cX5_addMould 45 = .ok (.getfield 68, 3) := by decide +kernel
theorem dX5_addMould_48 : decode cX5_addMould 48 = .ok (.iastore, 1) := by decide +kernel
theorem dX5_addMould_49 : decode cX5_addMould 49 = .ok (.iconst 0, 1) := by decide +kernel
theorem dX5_addMould_50 : decode cX5_addMould 50 = .ok (.istore 4, 2) := by decide +kernel
theorem dX5_addMould_52 : decode cX5_addMould 52 = .ok (.iload 4, 2) := by decide +kernel
theorem dX5_addMould_54 : decode cX5_addMould 54 = .ok (.aload_n 0, 1) := by decide +kernel
theorem dX5_addMould_55 : decode cX5_addMould 55 = .ok (.getfield 68, 3) := by decide +kernel
theorem dX5_addMould_58 : decode cX5_addMould 58 = .ok (.if_icmp .ge 31, 3) := by decide +kernel
theorem dX5_addMould_61 : decode cX5_addMould 61 = .ok (.aload_n 0, 1) := by decide +kernel
theorem dX5_addMould_62 : decode cX5_addMould 62 = .ok (.getfield 23, 3) := by decide +kernel
theorem dX5_addMould_65 : decode cX5_addMould 65 = .ok (.bipush 10, 2) := by decide +kernel
theorem dX5_addMould_67 : decode cX5_addMould 67 = .ok (.aload_n 0, 1) := by decide +kernel
theorem dX5_addMould_68 : decode cX5_addMould 68 = .ok (.getfield 75, 3) := by decide +kernel
theorem dX5_addMould_71 : decode cX5_addMould 71 = .ok (.imul, 1) := by decide +kernel
theorem dX5_addMould_72 : decode cX5_addMould 72 = .ok (.iload 4, 2) := by decide +kernel
theorem dX5_addMould_74 : decode cX5_addMould 74 = .ok (.iadd, 1) := by decide +kernel
theorem dX5_addMould_75 : decode cX5_addMould 75 = .ok (.aload_n 0, 1) := by decide +kernel
theorem dX5_addMould_76 : decode cX5_addMould 76 = .ok (.getfield 7, 3) := by decide +kernel
theorem dX5_addMould_79 : decode cX5_addMould 79 = .ok (.iload 4, 2) := by decide +kernel
theorem dX5_addMould_81 : decode cX5_addMould 81 = .ok (.iaload, 1) := by decide +kernel
theorem dX5_addMould_82 : decode cX5_addMould 82 = .ok (.iastore, 1) := by decide +kernel
theorem dX5_addMould_83 : decode cX5_addMould 83 = .ok (.iinc 4 1, 3) := by decide +kernel
theorem dX5_addMould_86 : decode cX5_addMould 86 = .ok (.goto (-34), 3) := by decide +kernel
theorem dX5_addMould_89 : decode cX5_addMould 89 = .ok (.aload_n 0, 1) := by decide +kernel
theorem dX5_addMould_90 : decode cX5_addMould 90 = .ok (.getfield 26, 3) := by decide +kernel
theorem dX5_addMould_93 : decode cX5_addMould 93 = .ok (.aload_n 0, 1) := by decide +kernel
theorem dX5_addMould_94 : decode cX5_addMould 94 = .ok (.getfield 75, 3) := by decide +kernel
theorem dX5_addMould_97 : decode cX5_addMould 97 = .ok (.iload_n 1, 1) := by decide +kernel
theorem dX5_addMould_98 : decode cX5_addMould 98 = .ok (.iastore, 1) := by decide +kernel
theorem dX5_addMould_99 : decode cX5_addMould 99 = .ok (.aload_n 0, 1) := by decide +kernel
theorem dX5_addMould_100 : decode cX5_addMould 100 = .ok (.getfield 29, 3) := by decide +kernel
theorem dX5_addMould_103 : decode cX5_addMould 103 = .ok (.aload_n 0, 1) := by decide +kernel
theorem dX5_addMould_104 : decode cX5_addMould 104 = .ok (.getfield 75, 3) := by decide +kernel
theorem dX5_addMould_107 : decode cX5_addMould 107 = .ok (.iconst 0, 1) := by decide +kernel
theorem dX5_addMould_108 : decode cX5_addMould 108 = .ok (.iastore, 1) := by decide +kernel
theorem dX5_addMould_109 : decode cX5_addMould 109 = .ok (.aload_n 0, 1) := by decide +kernel
theorem dX5_addMould_110 : decode cX5_addMould 110 = .ok (.aload_n 0, 1) := by decide +kernel
theorem dX5_addMould_111 : decode cX5_addMould 111 = .ok (.getfield 75, 3) := by decide +kernel
theorem dX5_addMould_114 : decode cX5_addMould 114 = .ok (.iload_n 2, 1) := by decide +kernel
theorem dX5_addMould_115 : decode cX5_addMould 115 = .ok (.iload_n 3, 1) := by decide +kernel
theorem dX5_addMould_116 : decode cX5_addMould 116 = .ok (.invokevirtual 81, 3) := by decide +kernel
theorem dX5_addMould_119 : decode cX5_addMould 119 = .ok (.aload_n 0, 1) := by decide +kernel
theorem dX5_addMould_120 : decode cX5_addMould 120 = .ok (.dup, 1) := by decide +kernel
theorem dX5_addMould_121 : decode cX5_addMould 121 = .ok (.getfield 75, 3) := by decide +kernel
theorem dX5_addMould_124 : decode cX5_addMould 124 = .ok (.iconst 1, 1) := by decide +kernel
theorem dX5_addMould_125 : decode cX5_addMould 125 = .ok (.iadd, 1) := by decide +kernel
theorem dX5_addMould_126 : decode cX5_addMould 126 = .ok (.putfield 75, 3) := by decide +kernel
theorem dX5_addMould_129 : decode cX5_addMould 129 = .ok (.aload_n 0, 1) := by decide +kernel
theorem dX5_addMould_130 : decode cX5_addMould 130 = .ok (.getfield 75, 3) := by decide +kernel
theorem dX5_addMould_133 : decode cX5_addMould 133 = .ok (.iconst 1, 1) := by decide +kernel
theorem dX5_addMould_134 : decode cX5_addMould 134 = .ok (.isub, 1) := by decide +kernel
theorem dX5_addMould_135 : decode cX5_addMould 135 = .ok (.ireturn, 1) := by decide +kernel
theorem dX5_addState_0 : decode cX5_addState 0 = .ok (.aload_n 0, 1) := by decide +kernel
theorem dX5_addState_1 : decode cX5_addState 1 = .ok (.iload_n 1, 1) := by decide +kernel
theorem dX5_addState_2 : decode cX5_addState 2 = .ok (.invokevirtual 85, 3) := by decide +kernel
theorem dX5_addState_5 : decode cX5_addState 5 = .ok (.ifCond .eq 5, 3) := by decide +kernel
theorem dX5_addState_8 : decode cX5_addState 8 = .ok (.iconst (-1), 1) := by decide +kernel
theorem dX5_addState_9 : decode cX5_addState 9 = .ok (.ireturn, 1) := by decide +kernel
theorem dX5_addState_10 : decode cX5_addState 10 = .ok (.iload_n 2, 1) := by decide +kernel
theorem dX5_addState_11 : decode cX5_addState 11 = .ok (.iconst 0, 1) := by decide +kernel
theorem dX5_addState_12 : decode cX5_addState 12 = .ok (.aload_n 0, 1) := by decide +kernel
theorem dX5_addState_13 : decode cX5_addState 13 = .ok (.getfield 23, 3) := by decide +kernel
theorem dX5_addState_16 : decode cX5_addState 16 = .ok (.bipush 10, 2) := by decide +kernel
theorem dX5_addState_18 : decode cX5_addState 18 = .ok (.iload_n 1, 1) := by decide +kernel
theorem dX5_addState_19 : decode cX5_addState 19 = .ok (.imul, 1) := by decide +kernel
theorem dX5_addState_20 : decode cX5_addState 20 = .ok (.aload_n 0, 1) := by decide +kernel
theorem dX5_addState_21 : decode cX5_addState 21 = .ok (.getfield 26, 3) := by decide +kernel
theorem dX5_addState_24 : decode cX5_addState 24 = .ok (.iload_n 1, 1) := by decide +kernel
theorem dX5_addState_25 : decode cX5_addState 25 = .ok (.iaload, 1) := by decide +kernel
theorem dX5_addState_26 : decode cX5_addState 26 = .ok (.iadd, 1) := by decide +kernel
theorem dX5_addState_27 : decode cX5_addState 27 = .ok (.iaload, 1) := by decide +kernel
theorem dX5_addState_28 : decode cX5_addState 28 = .ok (.invokestatic 71, 3) := by decide +kernel
theorem dX5_addState_31 : decode cX5_addState 31 = .ok (.ifCond .eq 14, 3) := by decide +kernel
theorem dX5_addState_34 : decode cX5_addState 34 = .ok (.iload_n 3, 1) := by decide +kernel
theorem dX5_addState_35 : decode cX5_addState 35 = .ok (.iconst 0, 1) := by decide +kernel
theorem dX5_addState_36 : decode cX5_addState 36 = .ok (.sipush 300, 3) := by decide +kernel
theorem dX5_addState_39 : decode cX5_addState 39 = .ok (.invokestatic 71, 3) := by decide +kernel
theorem dX5_addState_42 : decode cX5_addState 42 = .ok (.ifCond .ne 6, 3) := by decide +kernel
theorem dX5_addState_45 : decode cX5_addState 45 = .ok (.bipush (-3), 2) := by decide +kernel
theorem dX5_addState_47 : decode cX5_addState 47 = .ok (.ireturn, 1) := by decide +kernel
theorem dX5_addState_48 : decode cX5_addState 48 = .ok (.aload_n 0, 1) := by decide +kernel
theorem dX5_addState_49 : decode cX5_addState 49 = .ok (.getfield 29, 3) := by decide +kernel
theorem dX5_addState_52 : decode cX5_addState 52 = .ok (.iload_n 1, 1) := by decide +kernel
theorem dX5_addState_53 : decode cX5_addState 53 = .ok (.iaload, 1) := by decide +kernel
theorem dX5_addState_54 : decode cX5_addState 54 = .ok (.bipush 6, 2) := by decide +kernel
theorem dX5_addState_56 : decode cX5_addState 56 = .ok (.if_icmp .ne 6, 3) := by decide +kernel
theorem dX5_addState_59 : decode cX5_addState 59 = .ok (.bipush (-5), 2) := by decide +kernel
theorem dX5_addState_61 : decode cX5_addState 61 = .ok (.ireturn, 1) := by decide +kernel
theorem dX5_addState_62 : decode cX5_addState 62 = .ok (.aload_n 0, 1) := by decide +kernel
theorem dX5_addState_63 : decode cX5_addState 63 = .ok (.iload_n 1, 1) := by decide +kernel
theorem dX5_addState_64 : decode cX5_addState 64 = .ok (.iload_n 2, 1) := by decide +kernel
theorem dX5_addState_65 : decode cX5_addState 65 = .ok (.iload_n 3, 1) := by decide +kernel
theorem dX5_addState_66 : decode cX5_addState 66 = .ok (.invokevirtual 81, 3) := by decide +kernel
theorem dX5_addState_69 : decode cX5_addState 69 = .ok (.aload_n 0, 1) := by decide +kernel
theorem dX5_addState_70 : decode cX5_addState 70 = .ok (.getfield 29, 3) := by decide +kernel
theorem dX5_addState_73 : decode cX5_addState 73 = .ok (.iload_n 1, 1) := by decide +kernel
theorem dX5_addState_74 : decode cX5_addState 74 = .ok (.iaload, 1) := by decide +kernel
theorem dX5_addState_75 : decode cX5_addState 75 = .ok (.iconst 1, 1) := by decide +kernel
theorem dX5_addState_76 : decode cX5_addState 76 = .ok (.isub, 1) := by decide +kernel
theorem dX5_addState_77 : decode cX5_addState 77 = .ok (.ireturn, 1) := by decide +kernel
theorem dX5_removeState_0 : decode cX5_removeState 0 = .ok (.aload_n 0, 1) := by decide +kernel
theorem dX5_removeState_1 : decode cX5_removeState 1 = .ok (.iload_n 1, 1) := by decide +kernel
theorem dX5_removeState_2 : decode cX5_removeState 2 = .ok (.invokevirtual 85, 3) := by decide +kernel
theorem dX5_removeState_5 : decode cX5_removeState 5 = .ok (.ifCond .eq 5, 3) := by decide +kernel
theorem dX5_removeState_8 : decode cX5_removeState 8 = .ok (.iconst (-1), 1) := by decide +kernel
theorem dX5_removeState_9 : decode cX5_removeState 9 = .ok (.ireturn, 1) := by decide +kernel
theorem dX5_removeState_10 : decode cX5_removeState 10 = .ok (.aload_n 0, 1) := by decide +kernel
theorem dX5_removeState_11 : decode cX5_removeState 11 = .ok (.getfield 29, 3) := by decide +kernel
theorem dX5_removeState_14 : decode cX5_removeState 14 = .ok (.iload_n 1, 1) := by decide +kernel
theorem dX5_removeState_15 : decode cX5_removeState 15 = .ok (.iaload, 1) := by decide +kernel
theorem dX5_removeState_16 : decode cX5_removeState 16 = .ok (.iconst 1, 1) := by decide +kernel
theorem dX5_removeState_17 : decode cX5_removeState 17 = .ok (.if_icmp .ne 6, 3) := by decide +kernel
theorem dX5_removeState_20 : decode cX5_removeState 20 = .ok (.bipush (-6), 2) := by decide +kernel
theorem dX5_removeState_22 : decode cX5_removeState 22 = .ok (.ireturn, 1) := by decide +kernel
theorem dX5_removeState_23 : decode cX5_removeState 23 = .ok (.aload_n 0, 1) := by decide +kernel
theorem dX5_removeState_24 : decode cX5_removeState 24 = .ok (.getfield 29, 3) := by decide +kernel
theorem dX5_removeState_27 : decode cX5_removeState 27 = .ok (.iload_n 1, 1) := by decide +kernel
theorem dX5_removeState_28 : decode cX5_removeState 28 = .ok (.dup2, 1) := by decide +kernel
theorem dX5_removeState_29 : decode cX5_removeState 29 = .ok (.iaload, 1) := by decide +kernel
theorem dX5_removeState_30 : decode cX5_removeState 30 = .ok (.iconst 1, 1) := by decide +kernel
theorem dX5_removeState_31 : decode cX5_removeState 31 = .ok (.isub, 1) := by decide +kernel
theorem dX5_removeState_32 : decode cX5_removeState 32 = .ok (.iastore, 1) := by decide +kernel
theorem dX5_removeState_33 : decode cX5_removeState 33 = .ok (.aload_n 0, 1) := by decide +kernel
theorem dX5_removeState_34 : decode cX5_removeState 34 = .ok (.getfield 29, 3) := by decide +kernel
theorem dX5_removeState_37 : decode cX5_removeState 37 = .ok (.iload_n 1, 1) := by decide +kernel
theorem dX5_removeState_38 : decode cX5_removeState 38 = .ok (.iaload, 1) := by decide +kernel
theorem dX5_removeState_39 : decode cX5_removeState 39 = .ok (.ireturn, 1) := by decide +kernel
theorem dX5_stateCount_0 : decode cX5_stateCount 0 = .ok (.aload_n 0, 1) := by decide +kernel
theorem dX5_stateCount_1 : decode cX5_stateCount 1 = .ok (.iload_n 1, 1) := by decide +kernel
theorem dX5_stateCount_2 : decode cX5_stateCount 2 = .ok (.invokevirtual 85, 3) := by decide +kernel
theorem dX5_stateCount_5 : decode cX5_stateCount 5 = .ok (.ifCond .eq 7, 3) := by decide +kernel
theorem dX5_stateCount_8 : decode cX5_stateCount 8 = .ok (.iconst (-1), 1) := by decide +kernel
theorem dX5_stateCount_9 : decode cX5_stateCount 9 = .ok (.goto 9, 3) := by decide +kernel
theorem dX5_stateCount_12 : decode cX5_stateCount 12 = .ok (.aload_n 0, 1) := by decide +kernel
theorem dX5_stateCount_13 : decode cX5_stateCount 13 = .ok (.getfield 29, 3) := by decide +kernel
theorem dX5_stateCount_16 : decode cX5_stateCount 16 = .ok (.iload_n 1, 1) := by decide +kernel
theorem dX5_stateCount_17 : decode cX5_stateCount 17 = .ok (.iaload, 1) := by decide +kernel
theorem dX5_stateCount_18 : decode cX5_stateCount 18 = .ok (.ireturn, 1) := by decide +kernel
theorem dX5_twinSpacings_0 : decode cX5_twinSpacings 0 = .ok (.aload_n 0, 1) := by decide +kernel
theorem dX5_twinSpacings_1 : decode cX5_twinSpacings 1 = .ok (.getfield 20, 3) := by decide +kernel
theorem dX5_twinSpacings_4 : decode cX5_twinSpacings 4 = .ok (.iload_n 1, 1) := by decide +kernel
theorem dX5_twinSpacings_5 : decode cX5_twinSpacings 5 = .ok (.iaload, 1) := by decide +kernel
theorem dX5_twinSpacings_6 : decode cX5_twinSpacings 6 = .ok (.aload_n 0, 1) := by decide +kernel
theorem dX5_twinSpacings_7 : decode cX5_twinSpacings 7 = .ok (.getfield 20, 3) := by decide +kernel
theorem dX5_twinSpacings_10 : decode cX5_twinSpacings 10 = .ok (.iload_n 2, 1) := by decide +kernel
theorem dX5_twinSpacings_11 : decode cX5_twinSpacings 11 = .ok (.iaload, 1) := by decide +kernel
theorem dX5_twinSpacings_12 : decode cX5_twinSpacings 12 = .ok (.if_icmp .ne 18, 3) := by decide +kernel
theorem dX5_twinSpacings_15 : decode cX5_twinSpacings 15 = .ok (.aload_n 0, 1) := by decide +kernel
theorem dX5_twinSpacings_16 : decode cX5_twinSpacings 16 = .ok (.getfield 26, 3) := by decide +kernel
theorem dX5_twinSpacings_19 : decode cX5_twinSpacings 19 = .ok (.iload_n 1, 1) := by decide +kernel
theorem dX5_twinSpacings_20 : decode cX5_twinSpacings 20 = .ok (.iaload, 1) := by decide +kernel
theorem dX5_twinSpacings_21 : decode cX5_twinSpacings 21 = .ok (.aload_n 0, 1) := by decide +kernel
theorem dX5_twinSpacings_22 : decode cX5_twinSpacings 22 = .ok (.getfield 26, 3) := by decide +kernel
theorem dX5_twinSpacings_25 : decode cX5_twinSpacings 25 = .ok (.iload_n 2, 1) := by decide +kernel
theorem dX5_twinSpacings_26 : decode cX5_twinSpacings 26 = .ok (.iaload, 1) := by decide +kernel
theorem dX5_twinSpacings_27 : decode cX5_twinSpacings 27 = .ok (.if_icmp .eq 6, 3) := by decide +kernel
theorem dX5_twinSpacings_30 : decode cX5_twinSpacings 30 = .ok (.bipush (-6), 2) := by decide +kernel
theorem dX5_twinSpacings_32 : decode cX5_twinSpacings 32 = .ok (.ireturn, 1) := by decide +kernel
theorem dX5_twinSpacings_33 : decode cX5_twinSpacings 33 = .ok (.iconst 0, 1) := by decide +kernel
theorem dX5_twinSpacings_34 : decode cX5_twinSpacings 34 = .ok (.istore_n 3, 1) := by decide +kernel
theorem dX5_twinSpacings_35 : decode cX5_twinSpacings 35 = .ok (.iconst 0, 1) := by decide +kernel
theorem dX5_twinSpacings_36 : decode cX5_twinSpacings 36 = .ok (.istore 4, 2) := by decide +kernel
theorem dX5_twinSpacings_38 : decode cX5_twinSpacings 38 = .ok (.iload 4, 2) := by decide +kernel
theorem dX5_twinSpacings_40 : decode cX5_twinSpacings 40 = .ok (.aload_n 0, 1) := by decide +kernel
theorem dX5_twinSpacings_41 : decode cX5_twinSpacings 41 = .ok (.getfield 20, 3) := by decide +kernel
theorem dX5_twinSpacings_44 : decode cX5_twinSpacings 44 = .ok (.iload_n 1, 1) := by decide +kernel
theorem dX5_twinSpacings_45 : decode cX5_twinSpacings 45 = .ok (.iaload, 1) := by decide +kernel
theorem dX5_twinSpacings_46 : decode cX5_twinSpacings 46 = .ok (.if_icmp .ge 51, 3) := by decide +kernel
theorem dX5_twinSpacings_49 : decode cX5_twinSpacings 49 = .ok (.aload_n 0, 1) := by decide +kernel
theorem dX5_twinSpacings_50 : decode cX5_twinSpacings 50 = .ok (.getfield 23, 3) := by decide +kernel
theorem dX5_twinSpacings_53 : decode cX5_twinSpacings 53 = .ok (.bipush 10, 2) := by decide +kernel
theorem dX5_twinSpacings_55 : decode cX5_twinSpacings 55 = .ok (.iload_n 1, 1) := by decide +kernel
theorem dX5_twinSpacings_56 : decode cX5_twinSpacings 56 = .ok (.imul, 1) := by decide +kernel
theorem dX5_twinSpacings_57 : decode cX5_twinSpacings 57 = .ok (.iload 4, 2) := by decide +kernel
theorem dX5_twinSpacings_59 : decode cX5_twinSpacings 59 = .ok (.iadd, 1) := by decide +kernel
theorem dX5_twinSpacings_60 : decode cX5_twinSpacings 60 = .ok (.iaload, 1) := by decide +kernel
theorem dX5_twinSpacings_61 : decode cX5_twinSpacings 61 = .ok (.aload_n 0, 1) := by decide +kernel
theorem dX5_twinSpacings_62 : decode cX5_twinSpacings 62 = .ok (.getfield 23, 3) := by decide +kernel
theorem dX5_twinSpacings_65 : decode cX5_twinSpacings 65 = .ok (.bipush 10, 2) := by decide +kernel
theorem dX5_twinSpacings_67 : decode cX5_twinSpacings 67 = .ok (.iload_n 2, 1) := by decide +kernel
theorem dX5_twinSpacings_68 : decode cX5_twinSpacings 68 = .ok (.imul, 1) := by decide +kernel
theorem dX5_twinSpacings_69 : decode cX5_twinSpacings 69 = .ok (.iload 4, 2) := by decide +kernel
theorem dX5_twinSpacings_71 : decode cX5_twinSpacings 71 = .ok (.iadd, 1) := by decide +kernel
theorem dX5_twinSpacings_72 : decode cX5_twinSpacings 72 = .ok (.iaload, 1) := by decide +kernel
theorem dX5_twinSpacings_73 : decode cX5_twinSpacings 73 = .ok (.invokestatic 89, 3) := by decide +kernel
theorem dX5_twinSpacings_76 : decode cX5_twinSpacings 76 = .ok (.istore 5, 2) := by decide +kernel
theorem dX5_twinSpacings_78 : decode cX5_twinSpacings 78 = .ok (.iload 5, 2) := by decide +kernel
theorem dX5_twinSpacings_80 : decode cX5_twinSpacings 80 = .ok (.iload_n 3, 1) := by decide +kernel
theorem dX5_twinSpacings_81 : decode cX5_twinSpacings 81 = .ok (.if_icmp .le 8, 3) := by decide +kernel
theorem dX5_twinSpacings_84 : decode cX5_twinSpacings 84 = .ok (.iload 5, 2) := by decide +kernel
theorem dX5_twinSpacings_86 : decode cX5_twinSpacings 86 = .ok (.goto 4, 3) := by decide +kernel
theorem dX5_twinSpacings_89 : decode cX5_twinSpacings 89 = .ok (.iload_n 3, 1) := by decide +kernel
theorem dX5_twinSpacings_90 : decode cX5_twinSpacings 90 = .ok (.istore_n 3, 1) := by decide +kernel
theorem dX5_twinSpacings_91 : decode cX5_twinSpacings 91 = .ok (.iinc 4 1, 3) := by decide +kernel
theorem dX5_twinSpacings_94 : decode cX5_twinSpacings 94 = .ok (.goto (-56), 3) := by decide +kernel
theorem dX5_twinSpacings_97 : decode cX5_twinSpacings 97 = .ok (.iload_n 3, 1) := by decide +kernel
theorem dX5_twinSpacings_98 : decode cX5_twinSpacings 98 = .ok (.aload_n 0, 1) := by decide +kernel
theorem dX5_twinSpacings_99 : decode cX5_twinSpacings 99 = .ok (.getfield 13, 3) := by decide +kernel
theorem dX5_twinSpacings_102 : decode cX5_twinSpacings 102 = .ok (.if_icmp .le 8, 3) := by decide +kernel
theorem dX5_twinSpacings_105 : decode cX5_twinSpacings 105 = .ok (.bipush (-6), 2) := by decide +kernel
theorem dX5_twinSpacings_107 : decode cX5_twinSpacings 107 = .ok (.goto 4, 3) := by decide +kernel
theorem dX5_twinSpacings_110 : decode cX5_twinSpacings 110 = .ok (.iload_n 3, 1) := by decide +kernel
theorem dX5_twinSpacings_111 : decode cX5_twinSpacings 111 = .ok (.ireturn, 1) := by decide +kernel
theorem dX5_twoBarred_0 : decode cX5_twoBarred 0 = .ok (.aload_n 0, 1) := by decide +kernel
theorem dX5_twoBarred_1 : decode cX5_twoBarred 1 = .ok (.iload_n 1, 1) := by decide +kernel
theorem dX5_twoBarred_2 : decode cX5_twoBarred 2 = .ok (.invokevirtual 85, 3) := by decide +kernel
theorem dX5_twoBarred_5 : decode cX5_twoBarred 5 = .ok (.ifCond .ne 11, 3) := by decide +kernel
theorem dX5_twoBarred_8 : decode cX5_twoBarred 8 = .ok (.aload_n 0, 1) := by decide +kernel
theorem dX5_twoBarred_9 : decode cX5_twoBarred 9 = .ok (.iload_n 2, 1) := by decide +kernel
theorem dX5_twoBarred_10 : decode cX5_twoBarred 10 = .ok (.invokevirtual 85, 3) := by decide +kernel
theorem dX5_twoBarred_13 : decode cX5_twoBarred 13 = .ok (.ifCond .eq 7, 3) := by decide +kernel
theorem dX5_twoBarred_16 : decode cX5_twoBarred 16 = .ok (.iconst (-1), 1) := by decide +kernel
theorem dX5_twoBarred_17 : decode cX5_twoBarred 17 = .ok (.goto 14, 3) := by decide +kernel
theorem dX5_twoBarred_20 : decode cX5_twoBarred 20 = .ok (.iload_n 1, 1) := by decide +kernel
theorem dX5_twoBarred_21 : decode cX5_twoBarred 21 = .ok (.iload_n 2, 1) := by decide +kernel
theorem dX5_twoBarred_22 : decode cX5_twoBarred 22 = .ok (.if_icmp .ne 8, 3) := by decide +kernel
theorem dX5_twoBarred_25 : decode cX5_twoBarred 25 = .ok (.bipush (-3), 2) := by decide +kernel
theorem dX5_twoBarred_27 : decode cX5_twoBarred 27 = .ok (.goto 4, 3) := by decide +kernel
theorem dX5_twoBarred_30 : decode cX5_twoBarred 30 = .ok (.iconst 0, 1) := by decide +kernel
theorem dX5_twoBarred_31 : decode cX5_twoBarred 31 = .ok (.ireturn, 1) := by decide +kernel
theorem dX5_areTwins_0 : decode cX5_areTwins 0 = .ok (.aload_n 0, 1) := by decide +kernel
theorem dX5_areTwins_1 : decode cX5_areTwins 1 = .ok (.iload_n 1, 1) := by decide +kernel
theorem dX5_areTwins_2 : decode cX5_areTwins 2 = .ok (.iload_n 2, 1) := by decide +kernel
theorem dX5_areTwins_3 : decode cX5_areTwins 3 = .ok (.invokevirtual 93, 3) := by decide +kernel
theorem dX5_areTwins_6 : decode cX5_areTwins 6 = .ok (.istore_n 3, 1) := by decide +kernel
theorem dX5_areTwins_7 : decode cX5_areTwins 7 = .ok (.iload_n 3, 1) := by decide +kernel
theorem dX5_areTwins_8 : decode cX5_areTwins 8 = .ok (.ifCond .ge 7, 3) := by decide +kernel
theorem dX5_areTwins_11 : decode cX5_areTwins 11 = .ok (.iload_n 3, 1) := by decide +kernel
theorem dX5_areTwins_12 : decode cX5_areTwins 12 = .ok (.goto 17, 3) := by decide +kernel
theorem dX5_areTwins_15 : decode cX5_areTwins 15 = .ok (.aload_n 0, 1) := by decide +kernel
theorem dX5_areTwins_16 : decode cX5_areTwins 16 = .ok (.iload_n 1, 1) := by decide +kernel
theorem dX5_areTwins_17 : decode cX5_areTwins 17 = .ok (.iload_n 2, 1) := by decide +kernel
theorem dX5_areTwins_18 : decode cX5_areTwins 18 = .ok (.invokevirtual 96, 3) := by decide +kernel
theorem dX5_areTwins_21 : decode cX5_areTwins 21 = .ok (.ifCond .ge 7, 3) := by decide +kernel
theorem dX5_areTwins_24 : decode cX5_areTwins 24 = .ok (.iconst 0, 1) := by decide +kernel
theorem dX5_areTwins_25 : decode cX5_areTwins 25 = .ok (.goto 4, 3) := by decide +kernel
theorem dX5_areTwins_28 : decode cX5_areTwins 28 = .ok (.iconst 1, 1) := by decide +kernel
theorem dX5_areTwins_29 : decode cX5_areTwins 29 = .ok (.ireturn, 1) := by decide +kernel
theorem dX5_twinDifference_0 : decode cX5_twinDifference 0 = .ok (.aload_n 0, 1) := by decide +kernel
theorem dX5_twinDifference_1 : decode cX5_twinDifference 1 = .ok (.iload_n 1, 1) := by decide +kernel
theorem dX5_twinDifference_2 : decode cX5_twinDifference 2 = .ok (.iload_n 2, 1) := by decide +kernel
theorem dX5_twinDifference_3 : decode cX5_twinDifference 3 = .ok (.invokevirtual 93, 3) := by decide +kernel
theorem dX5_twinDifference_6 : decode cX5_twinDifference 6 = .ok (.istore_n 3, 1) := by decide +kernel
theorem dX5_twinDifference_7 : decode cX5_twinDifference 7 = .ok (.iload_n 3, 1) := by decide +kernel
theorem dX5_twinDifference_8 : decode cX5_twinDifference 8 = .ok (.ifCond .ge 5, 3) := by decide +kernel
theorem dX5_twinDifference_11 : decode cX5_twinDifference 11 = .ok (.iload_n 3, 1) := by decide +kernel
theorem dX5_twinDifference_12 : decode cX5_twinDifference 12 = .ok (.ireturn, 1) := by decide +kernel
theorem dX5_twinDifference_13 : decode cX5_twinDifference 13 = .ok (.aload_n 0, 1) := by decide +kernel
theorem dX5_twinDifference_14 : decode cX5_twinDifference 14 = .ok (.iload_n 1, 1) := by decide +kernel
theorem dX5_twinDifference_15 : decode cX5_twinDifference 15 = .ok (.iload_n 2, 1) := by decide +kernel
theorem dX5_twinDifference_16 : decode cX5_twinDifference 16 = .ok (.invokevirtual 96, 3) := by decide +kernel
theorem dX5_twinDifference_19 : decode cX5_twinDifference 19 = .ok (.istore 4, 2) := by decide +kernel
theorem dX5_twinDifference_21 : decode cX5_twinDifference 21 = .ok (.aload_n 0, 1) := by decide +kernel
theorem dX5_twinDifference_22 : decode cX5_twinDifference 22 = .ok (.getfield 32, 3) := by decide +kernel
theorem dX5_twinDifference_25 : decode cX5_twinDifference 25 = .ok (.bipush 6, 2) := by decide +kernel
theorem dX5_twinDifference_27 : decode cX5_twinDifference 27 = .ok (.iload_n 1, 1) := by decide +kernel
theorem dX5_twinDifference_28 : decode cX5_twinDifference 28 = .ok (.imul, 1) := by decide +kernel
theorem dX5_twinDifference_29 : decode cX5_twinDifference 29 = .ok (.iaload, 1) := by decide +kernel
theorem dX5_twinDifference_30 : decode cX5_twinDifference 30 = .ok (.aload_n 0, 1) := by decide +kernel
theorem dX5_twinDifference_31 : decode cX5_twinDifference 31 = .ok (.getfield 32, 3) := by decide +kernel
theorem dX5_twinDifference_34 : decode cX5_twinDifference 34 = .ok (.bipush 6, 2) := by decide +kernel
theorem dX5_twinDifference_36 : decode cX5_twinDifference 36 = .ok (.iload_n 2, 1) := by decide +kernel
theorem dX5_twinDifference_37 : decode cX5_twinDifference 37 = .ok (.imul, 1) := by decide +kernel
theorem dX5_twinDifference_38 : decode cX5_twinDifference 38 = .ok (.iaload, 1) := by decide +kernel
theorem dX5_twinDifference_39 : decode cX5_twinDifference 39 = .ok (.invokestatic 89, 3) := by decide +kernel
theorem dX5_twinDifference_42 : decode cX5_twinDifference 42 = .ok (.istore 5, 2) := by decide +kernel
theorem dX5_twinDifference_44 : decode cX5_twinDifference 44 = .ok (.aload_n 0, 1) := by decide +kernel
theorem dX5_twinDifference_45 : decode cX5_twinDifference 45 = .ok (.getfield 35, 3) := by decide +kernel
theorem dX5_twinDifference_48 : decode cX5_twinDifference 48 = .ok (.bipush 6, 2) := by decide +kernel
theorem dX5_twinDifference_50 : decode cX5_twinDifference 50 = .ok (.iload_n 1, 1) := by decide +kernel
theorem dX5_twinDifference_51 : decode cX5_twinDifference 51 = .ok (.imul, 1) := by decide +kernel
theorem dX5_twinDifference_52 : decode cX5_twinDifference 52 = .ok (.iaload, 1) := by decide +kernel
theorem dX5_twinDifference_53 : decode cX5_twinDifference 53 = .ok (.aload_n 0, 1) := by decide +kernel
theorem dX5_twinDifference_54 : decode cX5_twinDifference 54 = .ok (.getfield 35, 3) := by decide +kernel
theorem dX5_twinDifference_57 : decode cX5_twinDifference 57 = .ok (.bipush 6, 2) := by decide +kernel
theorem dX5_twinDifference_59 : decode cX5_twinDifference 59 = .ok (.iload_n 2, 1) := by decide +kernel
theorem dX5_twinDifference_60 : decode cX5_twinDifference 60 = .ok (.imul, 1) := by decide +kernel
theorem dX5_twinDifference_61 : decode cX5_twinDifference 61 = .ok (.iaload, 1) := by decide +kernel
theorem dX5_twinDifference_62 : decode cX5_twinDifference 62 = .ok (.invokestatic 89, 3) := by decide +kernel
theorem dX5_twinDifference_65 : decode cX5_twinDifference 65 = .ok (.istore 6, 2) := by decide +kernel
theorem dX5_twinDifference_67 : decode cX5_twinDifference 67 = .ok (.iload 4, 2) := by decide +kernel
theorem dX5_twinDifference_69 : decode cX5_twinDifference 69 = .ok (.ifCond .ge 6, 3) := by decide +kernel
theorem dX5_twinDifference_72 : decode cX5_twinDifference 72 = .ok (.bipush (-6), 2) := by decide +kernel
theorem dX5_twinDifference_74 : decode cX5_twinDifference 74 = .ok (.ireturn, 1) := by decide +kernel
theorem dX5_twinDifference_75 : decode cX5_twinDifference 75 = .ok (.iload 5, 2) := by decide +kernel
theorem dX5_twinDifference_77 : decode cX5_twinDifference 77 = .ok (.iload 4, 2) := by decide +kernel
theorem dX5_twinDifference_79 : decode cX5_twinDifference 79 = .ok (.if_icmp .le 8, 3) := by decide +kernel
theorem dX5_twinDifference_82 : decode cX5_twinDifference 82 = .ok (.iload 5, 2) := by decide +kernel
theorem dX5_twinDifference_84 : decode cX5_twinDifference 84 = .ok (.goto 5, 3) := by decide +kernel
theorem dX5_twinDifference_87 : decode cX5_twinDifference 87 = .ok (.iload 4, 2) := by decide +kernel
theorem dX5_twinDifference_89 : decode cX5_twinDifference 89 = .ok (.istore 4, 2) := by decide +kernel
theorem dX5_twinDifference_91 : decode cX5_twinDifference 91 = .ok (.iload 6, 2) := by decide +kernel
theorem dX5_twinDifference_93 : decode cX5_twinDifference 93 = .ok (.iload 4, 2) := by decide +kernel
theorem dX5_twinDifference_95 : decode cX5_twinDifference 95 = .ok (.if_icmp .le 8, 3) := by decide +kernel
theorem dX5_twinDifference_98 : decode cX5_twinDifference 98 = .ok (.iload 6, 2) := by decide +kernel
theorem dX5_twinDifference_100 : decode cX5_twinDifference 100 = .ok (.goto 5, 3) := by decide +kernel
theorem dX5_twinDifference_103 : decode cX5_twinDifference 103 = .ok (.iload 4, 2) := by decide +kernel
theorem dX5_twinDifference_105 : decode cX5_twinDifference 105 = .ok (.ireturn, 1) := by decide +kernel
theorem dX5_noSheet_0 : decode cX5_noSheet 0 = .ok (.iload_n 1, 1) := by decide +kernel
theorem dX5_noSheet_1 : decode cX5_noSheet 1 = .ok (.iconst 0, 1) := by decide +kernel
theorem dX5_noSheet_2 : decode cX5_noSheet 2 = .ok (.aload_n 0, 1) := by decide +kernel
theorem dX5_noSheet_3 : decode cX5_noSheet 3 = .ok (.getfield 99, 3) := by decide +kernel
theorem dX5_noSheet_6 : decode cX5_noSheet 6 = .ok (.iconst 1, 1) := by decide +kernel
theorem dX5_noSheet_7 : decode cX5_noSheet 7 = .ok (.isub, 1) := by decide +kernel
theorem dX5_noSheet_8 : decode cX5_noSheet 8 = .ok (.invokestatic 71, 3) := by decide +kernel
theorem dX5_noSheet_11 : decode cX5_noSheet 11 = .ok (.ifCond .ne 7, 3) := by decide +kernel
theorem dX5_noSheet_14 : decode cX5_noSheet 14 = .ok (.iconst 1, 1) := by decide +kernel
theorem dX5_noSheet_15 : decode cX5_noSheet 15 = .ok (.goto 4, 3) := by decide +kernel
theorem dX5_noSheet_18 : decode cX5_noSheet 18 = .ok (.iconst 0, 1) := by decide +kernel
theorem dX5_noSheet_19 : decode cX5_noSheet 19 = .ok (.ireturn, 1) := by decide +kernel
theorem dX5_addSheet_0 : decode cX5_addSheet 0 = .ok (.aload_n 0, 1) := by decide +kernel
theorem dX5_addSheet_1 : decode cX5_addSheet 1 = .ok (.getfield 68, 3) := by decide +kernel
theorem dX5_addSheet_4 : decode cX5_addSheet 4 = .ok (.iconst 2, 1) := by decide +kernel
theorem dX5_addSheet_5 : decode cX5_addSheet 5 = .ok (.if_icmp .ge 6, 3) := by decide +kernel
theorem dX5_addSheet_8 : decode cX5_addSheet 8 = .ok (.bipush (-4), 2) := by decide +kernel
theorem dX5_addSheet_10 : decode cX5_addSheet 10 = .ok (.ireturn, 1) := by decide +kernel
theorem dX5_addSheet_11 : decode cX5_addSheet 11 = .ok (.iload_n 1, 1) := by decide +kernel
theorem dX5_addSheet_12 : decode cX5_addSheet 12 = .ok (.iconst (-1), 1) := by decide +kernel
theorem dX5_addSheet_13 : decode cX5_addSheet 13 = .ok (.if_icmp .eq 16, 3) := by decide +kernel
theorem dX5_addSheet_16 : decode cX5_addSheet 16 = .ok (.aload_n 0, 1) := by decide +kernel
theorem dX5_addSheet_17 : decode cX5_addSheet 17 = .ok (.iload_n 1, 1) := by decide +kernel
theorem dX5_addSheet_18 : decode cX5_addSheet 18 = .ok (.iload_n 2, 1) := by decide +kernel
theorem dX5_addSheet_19 : decode cX5_addSheet 19 = .ok (.iload_n 3, 1) := by decide +kernel
theorem dX5_addSheet_20 : decode cX5_addSheet 20 = .ok (.invokevirtual 78, 3) := by decide +kernel
theorem dX5_addSheet_23 : decode cX5_addSheet 23 = .ok (.ifCond .ne 6, 3) := by decide +kernel
theorem dX5_addSheet_26 : decode cX5_addSheet 26 = .ok (.bipush (-3), 2) := by decide +kernel
theorem dX5_addSheet_28 : decode cX5_addSheet 28 = .ok (.ireturn, 1) := by decide +kernel
theorem dX5_addSheet_29 : decode cX5_addSheet 29 = .ok (.aload_n 0, 1) := by decide +kernel
theorem dX5_addSheet_30 : decode cX5_addSheet 30 = .ok (.getfield 99, 3) := by decide +kernel
theorem dX5_addSheet_33 : decode cX5_addSheet 33 = .ok (.bipush 30, 2) := by decide +kernel
theorem dX5_addSheet_35 : decode cX5_addSheet 35 = .ok (.if_icmp .ne 6, 3) := by decide +kernel
theorem dX5_addSheet_38 : decode cX5_addSheet 38 = .ok (.bipush (-5), 2) := by decide +kernel
theorem dX5_addSheet_40 : decode cX5_addSheet 40 = .ok (.ireturn, 1) := by decide +kernel
theorem dX5_addSheet_41 : decode cX5_addSheet 41 = .ok (.aload_n 0, 1) := by decide +kernel
theorem dX5_addSheet_42 : decode cX5_addSheet 42 = .ok (.getfield 38, 3) := by decide +kernel
theorem dX5_addSheet_45 : decode cX5_addSheet 45 = .ok (.aload_n 0, 1) := by decide +kernel
theorem dX5_addSheet_46 : decode cX5_addSheet 46 = .ok (.getfield 99, 3) := by decide +kernel
theorem dX5_addSheet_49 : decode cX5_addSheet 49 = .ok (.aload_n 0, 1) := by decide +kernel
theorem dX5_addSheet_50 : decode cX5_addSheet 50 = .ok (.getfield 68, 3) := by decide +kernel
theorem dX5_addSheet_53 : decode cX5_addSheet 53 = .ok (.iastore, 1) := by decide +kernel
theorem dX5_addSheet_54 : decode cX5_addSheet 54 = .ok (.iconst 0, 1) := by decide +kernel
theorem dX5_addSheet_55 : decode cX5_addSheet 55 = .ok (.istore 4, 2) := by decide +kernel
theorem dX5_addSheet_57 : decode cX5_addSheet 57 = .ok (.iload 4, 2) := by decide +kernel
theorem dX5_addSheet_59 : decode cX5_addSheet 59 = .ok (.aload_n 0, 1) := by decide +kernel
theorem dX5_addSheet_60 : decode cX5_addSheet 60 = .ok (.getfield 68, 3) := by decide +kernel
theorem dX5_addSheet_63 : decode cX5_addSheet 63 = .ok (.if_icmp .ge 31, 3) := by decide +kernel
theorem dX5_addSheet_66 : decode cX5_addSheet 66 = .ok (.aload_n 0, 1) := by decide +kernel
theorem dX5_addSheet_67 : decode cX5_addSheet 67 = .ok (.getfield 41, 3) := by decide +kernel
theorem dX5_addSheet_70 : decode cX5_addSheet 70 = .ok (.bipush 10, 2) := by decide +kernel
theorem dX5_addSheet_72 : decode cX5_addSheet 72 = .ok (.aload_n 0, 1) := by decide +kernel
theorem dX5_addSheet_73 : decode cX5_addSheet 73 = .ok (.getfield 99, 3) := by decide +kernel
theorem dX5_addSheet_76 : decode cX5_addSheet 76 = .ok (.imul, 1) := by decide +kernel
theorem dX5_addSheet_77 : decode cX5_addSheet 77 = .ok (.iload 4, 2) := by decide +kernel
theorem dX5_addSheet_79 : decode cX5_addSheet 79 = .ok (.iadd, 1) := by decide +kernel
theorem dX5_addSheet_80 : decode cX5_addSheet 80 = .ok (.aload_n 0, 1) := by decide +kernel
theorem dX5_addSheet_81 : decode cX5_addSheet 81 = .ok (.getfield 7, 3) := by decide +kernel
theorem dX5_addSheet_84 : decode cX5_addSheet 84 = .ok (.iload 4, 2) := by decide +kernel
theorem dX5_addSheet_86 : decode cX5_addSheet 86 = .ok (.iaload, 1) := by decide +kernel
theorem dX5_addSheet_87 : decode cX5_addSheet 87 = .ok (.iastore, 1) := by decide +kernel
theorem dX5_addSheet_88 : decode cX5_addSheet 88 = .ok (.iinc 4 1, 3) := by decide +kernel
theorem dX5_addSheet_91 : decode cX5_addSheet 91 = .ok (.goto (-34), 3) := by decide +kernel
theorem dX5_addSheet_94 : decode cX5_addSheet 94 = .ok (.aload_n 0, 1) := by decide +kernel
theorem dX5_addSheet_95 : decode cX5_addSheet 95 = .ok (.getfield 44, 3) := by decide +kernel
theorem dX5_addSheet_98 : decode cX5_addSheet 98 = .ok (.aload_n 0, 1) := by decide +kernel
theorem dX5_addSheet_99 : decode cX5_addSheet 99 = .ok (.getfield 99, 3) := by decide +kernel
theorem dX5_addSheet_102 : decode cX5_addSheet 102 = .ok (.iload_n 1, 1) := by decide +kernel
theorem dX5_addSheet_103 : decode cX5_addSheet 103 = .ok (.iastore, 1) := by decide +kernel
theorem dX5_addSheet_104 : decode cX5_addSheet 104 = .ok (.aload_n 0, 1) := by decide +kernel
theorem dX5_addSheet_105 : decode cX5_addSheet 105 = .ok (.getfield 47, 3) := by decide +kernel
theorem dX5_addSheet_108 : decode cX5_addSheet 108 = .ok (.aload_n 0, 1) := by decide +kernel
theorem dX5_addSheet_109 : decode cX5_addSheet 109 = .ok (.getfield 99, 3) := by decide +kernel
theorem dX5_addSheet_112 : decode cX5_addSheet 112 = .ok (.iload_n 2, 1) := by decide +kernel
theorem dX5_addSheet_113 : decode cX5_addSheet 113 = .ok (.iastore, 1) := by decide +kernel
theorem dX5_addSheet_114 : decode cX5_addSheet 114 = .ok (.aload_n 0, 1) := by decide +kernel
theorem dX5_addSheet_115 : decode cX5_addSheet 115 = .ok (.getfield 50, 3) := by decide +kernel
theorem dX5_addSheet_118 : decode cX5_addSheet 118 = .ok (.aload_n 0, 1) := by decide +kernel
theorem dX5_addSheet_119 : decode cX5_addSheet 119 = .ok (.getfield 99, 3) := by decide +kernel
theorem dX5_addSheet_122 : decode cX5_addSheet 122 = .ok (.iload_n 3, 1) := by decide +kernel
theorem dX5_addSheet_123 : decode cX5_addSheet 123 = .ok (.iastore, 1) := by decide +kernel
theorem dX5_addSheet_124 : decode cX5_addSheet 124 = .ok (.aload_n 0, 1) := by decide +kernel
theorem dX5_addSheet_125 : decode cX5_addSheet 125 = .ok (.getfield 53, 3) := by decide +kernel
theorem dX5_addSheet_128 : decode cX5_addSheet 128 = .ok (.aload_n 0, 1) := by decide +kernel
theorem dX5_addSheet_129 : decode cX5_addSheet 129 = .ok (.getfield 99, 3) := by decide +kernel
theorem dX5_addSheet_132 : decode cX5_addSheet 132 = .ok (.iconst 0, 1) := by decide +kernel
theorem dX5_addSheet_133 : decode cX5_addSheet 133 = .ok (.iastore, 1) := by decide +kernel
theorem dX5_addSheet_134 : decode cX5_addSheet 134 = .ok (.aload_n 0, 1) := by decide +kernel
theorem dX5_addSheet_135 : decode cX5_addSheet 135 = .ok (.getfield 56, 3) := by decide +kernel
theorem dX5_addSheet_138 : decode cX5_addSheet 138 = .ok (.aload_n 0, 1) := by decide +kernel
theorem dX5_addSheet_139 : decode cX5_addSheet 139 = .ok (.getfield 99, 3) := by decide +kernel
theorem dX5_addSheet_142 : decode cX5_addSheet 142 = .ok (.sipush 9999, 3) := by decide +kernel
theorem dX5_addSheet_145 : decode cX5_addSheet 145 = .ok (.iastore, 1) := by decide +kernel
theorem dX5_addSheet_146 : decode cX5_addSheet 146 = .ok (.aload_n 0, 1) := by decide +kernel
theorem dX5_addSheet_147 : decode cX5_addSheet 147 = .ok (.dup, 1) := by decide +kernel
theorem dX5_addSheet_148 : decode cX5_addSheet 148 = .ok (.getfield 99, 3) := by decide +kernel
theorem dX5_addSheet_151 : decode cX5_addSheet 151 = .ok (.iconst 1, 1) := by decide +kernel
theorem dX5_addSheet_152 : decode cX5_addSheet 152 = .ok (.iadd, 1) := by decide +kernel
theorem dX5_addSheet_153 : decode cX5_addSheet 153 = .ok (.putfield 99, 3) := by decide +kernel
theorem dX5_addSheet_156 : decode cX5_addSheet 156 = .ok (.aload_n 0, 1) := by decide +kernel
theorem dX5_addSheet_157 : decode cX5_addSheet 157 = .ok (.getfield 99, 3) := by decide +kernel
theorem dX5_addSheet_160 : decode cX5_addSheet 160 = .ok (.iconst 1, 1) := by decide +kernel
theorem dX5_addSheet_161 : decode cX5_addSheet 161 = .ok (.isub, 1) := by decide +kernel
theorem dX5_addSheet_162 : decode cX5_addSheet 162 = .ok (.ireturn, 1) := by decide +kernel
theorem dX5_setDates_0 : decode cX5_setDates 0 = .ok (.aload_n 0, 1) := by decide +kernel
theorem dX5_setDates_1 : decode cX5_setDates 1 = .ok (.iload_n 1, 1) := by decide +kernel
theorem dX5_setDates_2 : decode cX5_setDates 2 = .ok (.invokevirtual 102, 3) := by decide +kernel
theorem dX5_setDates_5 : decode cX5_setDates 5 = .ok (.ifCond .eq 6, 3) := by decide +kernel
theorem dX5_setDates_8 : decode cX5_setDates 8 = .ok (.bipush (-2), 2) := by decide +kernel
theorem dX5_setDates_10 : decode cX5_setDates 10 = .ok (.ireturn, 1) := by decide +kernel
theorem dX5_setDates_11 : decode cX5_setDates 11 = .ok (.iload_n 2, 1) := by decide +kernel
theorem dX5_setDates_12 : decode cX5_setDates 12 = .ok (.iconst 0, 1) := by decide +kernel
theorem dX5_setDates_13 : decode cX5_setDates 13 = .ok (.sipush 9999, 3) := by decide +kernel
theorem dX5_setDates_16 : decode cX5_setDates 16 = .ok (.invokestatic 71, 3) := by decide +kernel
theorem dX5_setDates_19 : decode cX5_setDates 19 = .ok (.ifCond .eq 14, 3) := by decide +kernel
theorem dX5_setDates_22 : decode cX5_setDates 22 = .ok (.iload_n 3, 1) := by decide +kernel
theorem dX5_setDates_23 : decode cX5_setDates 23 = .ok (.iload_n 2, 1) := by decide +kernel
theorem dX5_setDates_24 : decode cX5_setDates 24 = .ok (.sipush 9999, 3) := by decide +kernel
theorem dX5_setDates_27 : decode cX5_setDates 27 = .ok (.invokestatic 71, 3) := by decide +kernel
theorem dX5_setDates_30 : decode cX5_setDates 30 = .ok (.ifCond .ne 6, 3) := by decide +kernel
theorem dX5_setDates_33 : decode cX5_setDates 33 = .ok (.bipush (-3), 2) := by decide +kernel
theorem dX5_setDates_35 : decode cX5_setDates 35 = .ok (.ireturn, 1) := by decide +kernel
theorem dX5_setDates_36 : decode cX5_setDates 36 = .ok (.iload_n 2, 1) := by decide +kernel
theorem dX5_setDates_37 : decode cX5_setDates 37 = .ok (.aload_n 0, 1) := by decide +kernel
theorem dX5_setDates_38 : decode cX5_setDates 38 = .ok (.getfield 53, 3) := by decide +kernel
theorem dX5_setDates_41 : decode cX5_setDates 41 = .ok (.iload_n 1, 1) := by decide +kernel
theorem dX5_setDates_42 : decode cX5_setDates 42 = .ok (.iaload, 1) := by decide +kernel
theorem dX5_setDates_43 : decode cX5_setDates 43 = .ok (.if_icmp .ne 13, 3) := by decide +kernel
theorem dX5_setDates_46 : decode cX5_setDates 46 = .ok (.iload_n 3, 1) := by decide +kernel
theorem dX5_setDates_47 : decode cX5_setDates 47 = .ok (.aload_n 0, 1) := by decide +kernel
theorem dX5_setDates_48 : decode cX5_setDates 48 = .ok (.getfield 56, 3) := by decide +kernel
theorem dX5_setDates_51 : decode cX5_setDates 51 = .ok (.iload_n 1, 1) := by decide +kernel
theorem dX5_setDates_52 : decode cX5_setDates 52 = .ok (.iaload, 1) := by decide +kernel
theorem dX5_setDates_53 : decode cX5_setDates 53 = .ok (.if_icmp .eq 7, 3) := by decide +kernel
theorem dX5_setDates_56 : decode cX5_setDates 56 = .ok (.iconst 1, 1) := by decide +kernel
theorem dX5_setDates_57 : decode cX5_setDates 57 = .ok (.goto 4, 3) := by decide +kernel
theorem dX5_setDates_60 : decode cX5_setDates 60 = .ok (.iconst 0, 1) := by decide +kernel
theorem dX5_setDates_61 : decode cX5_setDates 61 = .ok (.istore 4, 2) := by decide +kernel
theorem dX5_setDates_63 : decode cX5_setDates 63 = .ok (.aload_n 0, 1) := by decide +kernel
theorem dX5_setDates_64 : decode cX5_setDates 64 = .ok (.getfield 53, 3) := by decide +kernel
theorem dX5_setDates_67 : decode cX5_setDates 67 = .ok (.iload_n 1, 1) := by decide +kernel
theorem dX5_setDates_68 : decode cX5_setDates 68 = .ok (.iload_n 2, 1) := by decide +kernel
theorem dX5_setDates_69 : decode cX5_setDates 69 = .ok (.iastore, 1) := by decide +kernel
theorem dX5_setDates_70 : decode cX5_setDates 70 = .ok (.aload_n 0, 1) := by decide +kernel
theorem dX5_setDates_71 : decode cX5_setDates 71 = .ok (.getfield 56, 3) := by decide +kernel
theorem dX5_setDates_74 : decode cX5_setDates 74 = .ok (.iload_n 1, 1) := by decide +kernel
theorem dX5_setDates_75 : decode cX5_setDates 75 = .ok (.iload_n 3, 1) := by decide +kernel
theorem dX5_setDates_76 : decode cX5_setDates 76 = .ok (.iastore, 1) := by decide +kernel
theorem dX5_setDates_77 : decode cX5_setDates 77 = .ok (.iload 4, 2) := by decide +kernel
theorem dX5_setDates_79 : decode cX5_setDates 79 = .ok (.ifCond .eq 7, 3) := by decide +kernel
theorem dX5_setDates_82 : decode cX5_setDates 82 = .ok (.iconst 1, 1) := by decide +kernel
theorem dX5_setDates_83 : decode cX5_setDates 83 = .ok (.goto 4, 3) := by decide +kernel
theorem dX5_setDates_86 : decode cX5_setDates 86 = .ok (.iconst 0, 1) := by decide +kernel
theorem dX5_setDates_87 : decode cX5_setDates 87 = .ok (.ireturn, 1) := by decide +kernel
theorem dX5_count_0 : decode cX5_count 0 = .ok (.iload_n 1, 1) := by decide +kernel
theorem dX5_count_1 : decode cX5_count 1 = .ok (.ifCond .ne 10, 3) := by decide +kernel
theorem dX5_count_4 : decode cX5_count 4 = .ok (.aload_n 0, 1) := by decide +kernel
theorem dX5_count_5 : decode cX5_count 5 = .ok (.getfield 75, 3) := by decide +kernel
theorem dX5_count_8 : decode cX5_count 8 = .ok (.goto 29, 3) := by decide +kernel
theorem dX5_count_11 : decode cX5_count 11 = .ok (.iload_n 1, 1) := by decide +kernel
theorem dX5_count_12 : decode cX5_count 12 = .ok (.iconst 1, 1) := by decide +kernel
theorem dX5_count_13 : decode cX5_count 13 = .ok (.if_icmp .ne 10, 3) := by decide +kernel
theorem dX5_count_16 : decode cX5_count 16 = .ok (.aload_n 0, 1) := by decide +kernel
theorem dX5_count_17 : decode cX5_count 17 = .ok (.getfield 99, 3) := by decide +kernel
theorem dX5_count_20 : decode cX5_count 20 = .ok (.goto 17, 3) := by decide +kernel
theorem dX5_count_23 : decode cX5_count 23 = .ok (.iload_n 1, 1) := by decide +kernel
theorem dX5_count_24 : decode cX5_count 24 = .ok (.iconst 2, 1) := by decide +kernel
theorem dX5_count_25 : decode cX5_count 25 = .ok (.if_icmp .ne 10, 3) := by decide +kernel
theorem dX5_count_28 : decode cX5_count 28 = .ok (.aload_n 0, 1) := by decide +kernel
theorem dX5_count_29 : decode cX5_count 29 = .ok (.getfield 68, 3) := by decide +kernel
theorem dX5_count_32 : decode cX5_count 32 = .ok (.goto 5, 3) := by decide +kernel
theorem dX5_count_35 : decode cX5_count 35 = .ok (.bipush (-3), 2) := by decide +kernel
theorem dX5_count_37 : decode cX5_count 37 = .ok (.ireturn, 1) := by decide +kernel
theorem dX5_spacingScore_0 : decode cX5_spacingScore 0 = .ok (.aload_n 0, 1) := by decide +kernel
theorem dX5_spacingScore_1 : decode cX5_spacingScore 1 = .ok (.getfield 38, 3) := by decide +kernel
theorem dX5_spacingScore_4 : decode cX5_spacingScore 4 = .ok (.iload_n 1, 1) := by decide +kernel
theorem dX5_spacingScore_5 : decode cX5_spacingScore 5 = .ok (.iaload, 1) := by decide +kernel
theorem dX5_spacingScore_6 : decode cX5_spacingScore 6 = .ok (.istore 6, 2) := by decide +kernel
theorem dX5_spacingScore_8 : decode cX5_spacingScore 8 = .ok (.iconst 0, 1) := by decide +kernel
theorem dX5_spacingScore_9 : decode cX5_spacingScore 9 = .ok (.istore 7, 2) := by decide +kernel
theorem dX5_spacingScore_11 : decode cX5_spacingScore 11 = .ok (.iconst 0, 1) := by decide +kernel
theorem dX5_spacingScore_12 : decode cX5_spacingScore 12 = .ok (.istore 8, 2) := by decide +kernel
theorem dX5_spacingScore_14 : decode cX5_spacingScore 14 = .ok (.iload 8, 2) := by decide +kernel
theorem dX5_spacingScore_16 : decode cX5_spacingScore 16 = .ok (.iload 6, 2) := by decide +kernel
theorem dX5_spacingScore_18 : decode cX5_spacingScore 18 = .ok (.if_icmp .ge 85, 3) := by decide +kernel
theorem dX5_spacingScore_21 : decode cX5_spacingScore 21 = .ok (.aload_n 0, 1) := by decide +kernel
theorem dX5_spacingScore_22 : decode cX5_spacingScore 22 = .ok (.getfield 41, 3) := by decide +kernel
theorem dX5_spacingScore_25 : decode cX5_spacingScore 25 = .ok (.bipush 10, 2) := by decide +kernel
theorem dX5_spacingScore_27 : decode cX5_spacingScore 27 = .ok (.iload_n 1, 1) := by decide +kernel
theorem dX5_spacingScore_28 : decode cX5_spacingScore 28 = .ok (.imul, 1) := by decide +kernel
theorem dX5_spacingScore_29 : decode cX5_spacingScore 29 = .ok (.iload_n 3, 1) := by decide +kernel
theorem dX5_spacingScore_30 : decode cX5_spacingScore 30 = .ok (.ifCond .eq 13, 3) := by decide +kernel
theorem dX5_spacingScore_33 : decode cX5_spacingScore 33 = .ok (.iload 6, 2) := by decide +kernel
theorem dX5_spacingScore_35 : decode cX5_spacingScore 35 = .ok (.iconst 1, 1) := by decide +kernel
theorem dX5_spacingScore_36 : decode cX5_spacingScore 36 = .ok (.isub, 1) := by decide +kernel
theorem dX5_spacingScore_37 : decode cX5_spacingScore 37 = .ok (.iload 8, 2) := by decide +kernel
theorem dX5_spacingScore_39 : decode cX5_spacingScore 39 = .ok (.isub, 1) := by decide +kernel
theorem dX5_spacingScore_40 : decode cX5_spacingScore 40 = .ok (.goto 5, 3) := by decide +kernel
theorem dX5_spacingScore_43 : decode cX5_spacingScore 43 = .ok (.iload 8, 2) := by decide +kernel
theorem dX5_spacingScore_45 : decode cX5_spacingScore 45 = .ok (.iadd, 1) := by decide +kernel
theorem dX5_spacingScore_46 : decode cX5_spacingScore 46 = .ok (.iaload, 1) := by decide +kernel
theorem dX5_spacingScore_47 : decode cX5_spacingScore 47 = .ok (.istore 9, 2) := by decide +kernel
theorem dX5_spacingScore_49 : decode cX5_spacingScore 49 = .ok (.iload 9, 2) := by decide +kernel
theorem dX5_spacingScore_51 : decode cX5_spacingScore 51 = .ok (.aload_n 0, 1) := by decide +kernel
theorem dX5_spacingScore_52 : decode cX5_spacingScore 52 = .ok (.getfield 23, 3) := by decide +kernel
theorem dX5_spacingScore_55 : decode cX5_spacingScore 55 = .ok (.bipush 10, 2) := by decide +kernel
theorem dX5_spacingScore_57 : decode cX5_spacingScore 57 = .ok (.iload_n 2, 1) := by decide +kernel
theorem dX5_spacingScore_58 : decode cX5_spacingScore 58 = .ok (.imul, 1) := by decide +kernel
theorem dX5_spacingScore_59 : decode cX5_spacingScore 59 = .ok (.iload 4, 2) := by decide +kernel
theorem dX5_spacingScore_61 : decode cX5_spacingScore 61 = .ok (.iadd, 1) := by decide +kernel
theorem dX5_spacingScore_62 : decode cX5_spacingScore 62 = .ok (.iload 8, 2) := by decide +kernel
theorem dX5_spacingScore_64 : decode cX5_spacingScore 64 = .ok (.iadd, 1) := by decide +kernel
theorem dX5_spacingScore_65 : decode cX5_spacingScore 65 = .ok (.iaload, 1) := by decide +kernel
theorem dX5_spacingScore_66 : decode cX5_spacingScore 66 = .ok (.iload 5, 2) := by decide +kernel
theorem dX5_spacingScore_68 : decode cX5_spacingScore 68 = .ok (.imul, 1) := by decide +kernel
theorem dX5_spacingScore_69 : decode cX5_spacingScore 69 = .ok (.sipush 1000, 3) := by decide +kernel
theorem dX5_spacingScore_72 : decode cX5_spacingScore 72 = .ok (.idiv, 1) := by decide +kernel
theorem dX5_spacingScore_73 : decode cX5_spacingScore 73 = .ok (.invokestatic 89, 3) := by decide +kernel
theorem dX5_spacingScore_76 : decode cX5_spacingScore 76 = .ok (.istore 10, 2) := by decide +kernel
theorem dX5_spacingScore_78 : decode cX5_spacingScore 78 = .ok (.iload 10, 2) := by decide +kernel
theorem dX5_spacingScore_80 : decode cX5_spacingScore 80 = .ok (.aload_n 0, 1) := by decide +kernel
theorem dX5_spacingScore_81 : decode cX5_spacingScore 81 = .ok (.getfield 13, 3) := by decide +kernel
theorem dX5_spacingScore_84 : decode cX5_spacingScore 84 = .ok (.if_icmp .le 6, 3) := by decide +kernel
theorem dX5_spacingScore_87 : decode cX5_spacingScore 87 = .ok (.bipush (-6), 2) := by decide +kernel
theorem dX5_spacingScore_89 : decode cX5_spacingScore 89 = .ok (.ireturn, 1) := by decide +kernel
theorem dX5_spacingScore_90 : decode cX5_spacingScore 90 = .ok (.iload 7, 2) := by decide +kernel
theorem dX5_spacingScore_92 : decode cX5_spacingScore 92 = .ok (.iload 10, 2) := by decide +kernel
theorem dX5_spacingScore_94 : decode cX5_spacingScore 94 = .ok (.iadd, 1) := by decide +kernel
theorem dX5_spacingScore_95 : decode cX5_spacingScore 95 = .ok (.istore 7, 2) := by decide +kernel
theorem dX5_spacingScore_97 : decode cX5_spacingScore 97 = .ok (.iinc 8 1, 3) := by decide +kernel
theorem dX5_spacingScore_100 : decode cX5_spacingScore 100 = .ok (.goto (-86), 3) := by decide +kernel
theorem dX5_spacingScore_103 : decode cX5_spacingScore 103 = .ok (.iload 7, 2) := by decide +kernel
theorem dX5_spacingScore_105 : decode cX5_spacingScore 105 = .ok (.ireturn, 1) := by decide +kernel
theorem dX5_markScore_0 : decode cX5_markScore 0 = .ok (.bipush (-6), 2) := by decide +kernel
theorem dX5_markScore_2 : decode cX5_markScore 2 = .ok (.istore 5, 2) := by decide +kernel
theorem dX5_markScore_4 : decode cX5_markScore 4 = .ok (.aload_n 0, 1) := by decide +kernel
theorem dX5_markScore_5 : decode cX5_markScore 5 = .ok (.bipush (-6), 2) := by decide +kernel
theorem dX5_markScore_7 : decode cX5_markScore 7 = .ok (.putfield 105, 3) := by decide +kernel
theorem dX5_markScore_10 : decode cX5_markScore 10 = .ok (.iconst 0, 1) := by decide +kernel
theorem dX5_markScore_11 : decode cX5_markScore 11 = .ok (.istore 6, 2) := by decide +kernel
theorem dX5_markScore_13 : decode cX5_markScore 13 = .ok (.iload 6, 2) := by decide +kernel
theorem dX5_markScore_15 : decode cX5_markScore 15 = .ok (.aload_n 0, 1) := by decide +kernel
theorem dX5_markScore_16 : decode cX5_markScore 16 = .ok (.getfield 29, 3) := by decide +kernel
theorem dX5_markScore_19 : decode cX5_markScore 19 = .ok (.iload_n 1, 1) := by decide +kernel
theorem dX5_markScore_20 : decode cX5_markScore 20 = .ok (.iaload, 1) := by decide +kernel
theorem dX5_markScore_21 : decode cX5_markScore 21 = .ok (.if_icmp .ge 117, 3) := by decide +kernel
theorem dX5_markScore_24 : decode cX5_markScore 24 = .ok (.iload_n 2, 1) := by decide +kernel
theorem dX5_markScore_25 : decode cX5_markScore 25 = .ok (.aload_n 0, 1) := by decide +kernel
theorem dX5_markScore_26 : decode cX5_markScore 26 = .ok (.getfield 32, 3) := by decide +kernel
theorem dX5_markScore_29 : decode cX5_markScore 29 = .ok (.bipush 6, 2) := by decide +kernel
theorem dX5_markScore_31 : decode cX5_markScore 31 = .ok (.iload_n 1, 1) := by decide +kernel
theorem dX5_markScore_32 : decode cX5_markScore 32 = .ok (.imul, 1) := by decide +kernel
theorem dX5_markScore_33 : decode cX5_markScore 33 = .ok (.iload 6, 2) := by decide +kernel
theorem dX5_markScore_35 : decode cX5_markScore 35 = .ok (.iadd, 1) := by decide +kernel
theorem dX5_markScore_36 : decode cX5_markScore 36 = .ok (.iaload, 1) := by decide +kernel
theorem dX5_markScore_37 : decode cX5_markScore 37 = .ok (.iload 4, 2) := by decide +kernel
theorem dX5_markScore_39 : decode cX5_markScore 39 = .ok (.imul, 1) := by decide +kernel
theorem dX5_markScore_40 : decode cX5_markScore 40 = .ok (.sipush 1000, 3) := by decide +kernel
theorem dX5_markScore_43 : decode cX5_markScore 43 = .ok (.idiv, 1) := by decide +kernel
theorem dX5_markScore_44 : decode cX5_markScore 44 = .ok (.invokestatic 89, 3) := by decide +kernel
theorem dX5_markScore_47 : decode cX5_markScore 47 = .ok (.istore 7, 2) := by decide +kernel
theorem dX5_markScore_49 : decode cX5_markScore 49 = .ok (.iload_n 3, 1) := by decide +kernel
theorem dX5_markScore_50 : decode cX5_markScore 50 = .ok (.aload_n 0, 1) := by decide +kernel
theorem dX5_markScore_51 : decode cX5_markScore 51 = .ok (.getfield 35, 3) := by decide +kernel
theorem dX5_markScore_54 : decode cX5_markScore 54 = .ok (.bipush 6, 2) := by decide +kernel
theorem dX5_markScore_56 : decode cX5_markScore 56 = .ok (.iload_n 1, 1) := by decide +kernel
theorem dX5_markScore_57 : decode cX5_markScore 57 = .ok (.imul, 1) := by decide +kernel
theorem dX5_markScore_58 : decode cX5_markScore 58 = .ok (.iload 6, 2) := by decide +kernel
theorem dX5_markScore_60 : decode cX5_markScore 60 = .ok (.iadd, 1) := by decide +kernel
theorem dX5_markScore_61 : decode cX5_markScore 61 = .ok (.iaload, 1) := by decide +kernel
theorem dX5_markScore_62 : decode cX5_markScore 62 = .ok (.iload 4, 2) := by decide +kernel
theorem dX5_markScore_64 : decode cX5_markScore 64 = .ok (.imul, 1) := by decide +kernel
theorem dX5_markScore_65 : decode cX5_markScore 65 = .ok (.sipush 1000, 3) := by decide +kernel
theorem dX5_markScore_68 : decode cX5_markScore 68 = .ok (.idiv, 1) := by decide +kernel
theorem dX5_markScore_69 : decode cX5_markScore 69 = .ok (.invokestatic 89, 3) := by decide +kernel
theorem dX5_markScore_72 : decode cX5_markScore 72 = .ok (.istore 8, 2) := by decide +kernel
theorem dX5_markScore_74 : decode cX5_markScore 74 = .ok (.iload 7, 2) := by decide +kernel
theorem dX5_markScore_76 : decode cX5_markScore 76 = .ok (.aload_n 0, 1) := by decide +kernel
theorem dX5_markScore_77 : decode cX5_markScore 77 = .ok (.getfield 17, 3) := by decide +kernel
theorem dX5_markScore_80 : decode cX5_markScore 80 = .ok (.if_icmp .gt 16, 3) := by decide +kernel
theorem dX5_markScore_83 : decode cX5_markScore 83 = .ok (.iload 8, 2) := by decide +kernel
theorem dX5_markScore_85 : decode cX5_markScore 85 = .ok (.aload_n 0, 1) := by decide +kernel
theorem dX5_markScore_86 : decode cX5_markScore 86 = .ok (.getfield 17, 3) := by decide +kernel
theorem dX5_markScore_89 : decode cX5_markScore 89 = .ok (.if_icmp .gt 7, 3) := by decide +kernel
theorem dX5_markScore_92 : decode cX5_markScore 92 = .ok (.iconst 1, 1) := by decide +kernel
theorem dX5_markScore_93 : decode cX5_markScore 93 = .ok (.goto 4, 3) := by decide +kernel
theorem dX5_markScore_96 : decode cX5_markScore 96 = .ok (.iconst 0, 1) := by decide +kernel
theorem dX5_markScore_97 : decode cX5_markScore 97 = .ok (.istore 9, 2) := by decide +kernel
theorem dX5_markScore_99 : decode cX5_markScore 99 = .ok (.iload 9, 2) := by decide +kernel
theorem dX5_markScore_101 : decode cX5_markScore 101 = .ok (.ifCond .eq 31, 3) := by decide +kernel
theorem dX5_markScore_104 : decode cX5_markScore 104 = .ok (.iload 5, 2) := by decide +kernel
theorem dX5_markScore_106 : decode cX5_markScore 106 = .ok (.ifCond .lt 13, 3) := by decide +kernel
theorem dX5_markScore_109 : decode cX5_markScore 109 = .ok (.iload 7, 2) := by decide +kernel
theorem dX5_markScore_111 : decode cX5_markScore 111 = .ok (.iload 8, 2) := by decide +kernel
theorem dX5_markScore_113 : decode cX5_markScore 113 = .ok (.iadd, 1) := by decide +kernel
theorem dX5_markScore_114 : decode cX5_markScore 114 = .ok (.iload 5, 2) := by decide +kernel
theorem dX5_markScore_116 : decode cX5_markScore 116 = .ok (.if_icmp .ge 16, 3) := by decide +kernel
theorem dX5_markScore_119 : decode cX5_markScore 119 = .ok (.iload 7, 2) := by decide +kernel
theorem dX5_markScore_121 : decode cX5_markScore 121 = .ok (.iload 8, 2) := by decide +kernel
theorem dX5_markScore_123 : decode cX5_markScore 123 = .ok (.iadd, 1) := by decide +kernel
theorem dX5_markScore_124 : decode cX5_markScore 124 = .ok (.istore 5, 2) := by decide +kernel
theorem dX5_markScore_126 : decode cX5_markScore 126 = .ok (.aload_n 0, 1) := by decide +kernel
theorem dX5_markScore_127 : decode cX5_markScore 127 = .ok (.iload 6, 2) := by decide +kernel
theorem dX5_markScore_129 : decode cX5_markScore 129 = .ok (.putfield 105, 3) := by decide +kernel
theorem dX5_markScore_132 : decode cX5_markScore 132 = .ok (.iinc 6 1, 3) := by decide +kernel
theorem dX5_markScore_135 : decode cX5_markScore 135 = .ok (.goto (-122), 3) := by decide +kernel
theorem dX5_markScore_138 : decode cX5_markScore 138 = .ok (.iload 5, 2) := by decide +kernel
theorem dX5_markScore_140 : decode cX5_markScore 140 = .ok (.ireturn, 1) := by decide +kernel
theorem dX5_scoreOf_0 : decode cX5_scoreOf 0 = .ok (.iload_n 3, 1) := by decide +kernel
theorem dX5_scoreOf_1 : decode cX5_scoreOf 1 = .ok (.iconst 1, 1) := by decide +kernel
theorem dX5_scoreOf_2 : decode cX5_scoreOf 2 = .ok (.if_icmp .eq 8, 3) := by decide +kernel
theorem dX5_scoreOf_5 : decode cX5_scoreOf 5 = .ok (.iload_n 3, 1) := by decide +kernel
theorem dX5_scoreOf_6 : decode cX5_scoreOf 6 = .ok (.iconst 2, 1) := by decide +kernel
theorem dX5_scoreOf_7 : decode cX5_scoreOf 7 = .ok (.if_icmp .ne 7, 3) := by decide +kernel
theorem dX5_scoreOf_10 : decode cX5_scoreOf 10 = .ok (.iconst 1, 1) := by decide +kernel
theorem dX5_scoreOf_11 : decode cX5_scoreOf 11 = .ok (.goto 4, 3) := by decide +kernel
theorem dX5_scoreOf_14 : decode cX5_scoreOf 14 = .ok (.iconst 0, 1) := by decide +kernel
theorem dX5_scoreOf_15 : decode cX5_scoreOf 15 = .ok (.istore 6, 2) := by decide +kernel
theorem dX5_scoreOf_17 : decode cX5_scoreOf 17 = .ok (.aload_n 0, 1) := by decide +kernel
theorem dX5_scoreOf_18 : decode cX5_scoreOf 18 = .ok (.iload_n 1, 1) := by decide +kernel
theorem dX5_scoreOf_19 : decode cX5_scoreOf 19 = .ok (.iload_n 2, 1) := by decide +kernel
theorem dX5_scoreOf_20 : decode cX5_scoreOf 20 = .ok (.iload 6, 2) := by decide +kernel
theorem dX5_scoreOf_22 : decode cX5_scoreOf 22 = .ok (.iload 4, 2) := by decide +kernel
theorem dX5_scoreOf_24 : decode cX5_scoreOf 24 = .ok (.iload 5, 2) := by decide +kernel
theorem dX5_scoreOf_26 : decode cX5_scoreOf 26 = .ok (.invokevirtual 108, 3) := by decide +kernel
theorem dX5_scoreOf_29 : decode cX5_scoreOf 29 = .ok (.istore 7, 2) := by decide +kernel
theorem dX5_scoreOf_31 : decode cX5_scoreOf 31 = .ok (.aload_n 0, 1) := by decide +kernel
theorem dX5_scoreOf_32 : decode cX5_scoreOf 32 = .ok (.bipush (-6), 2) := by decide +kernel
theorem dX5_scoreOf_34 : decode cX5_scoreOf 34 = .ok (.putfield 105, 3) := by decide +kernel
theorem dX5_scoreOf_37 : decode cX5_scoreOf 37 = .ok (.iload 7, 2) := by decide +kernel
theorem dX5_scoreOf_39 : decode cX5_scoreOf 39 = .ok (.ifCond .lt 12, 3) := by decide +kernel
theorem dX5_scoreOf_42 : decode cX5_scoreOf 42 = .ok (.aload_n 0, 1) := by decide +kernel
theorem dX5_scoreOf_43 : decode cX5_scoreOf 43 = .ok (.getfield 44, 3) := by decide +kernel
theorem dX5_scoreOf_46 : decode cX5_scoreOf 46 = .ok (.iload_n 1, 1) := by decide +kernel
theorem dX5_scoreOf_47 : decode cX5_scoreOf 47 = .ok (.iaload, 1) := by decide +kernel
theorem dX5_scoreOf_48 : decode cX5_scoreOf 48 = .ok (.ifCond .ge 6, 3) := by decide +kernel
theorem dX5_scoreOf_51 : decode cX5_scoreOf 51 = .ok (.iload 7, 2) := by decide +kernel
theorem dX5_scoreOf_53 : decode cX5_scoreOf 53 = .ok (.ireturn, 1) := by decide +kernel
theorem dX5_scoreOf_54 : decode cX5_scoreOf 54 = .ok (.aload_n 0, 1) := by decide +kernel
theorem dX5_scoreOf_55 : decode cX5_scoreOf 55 = .ok (.getfield 44, 3) := by decide +kernel
theorem dX5_scoreOf_58 : decode cX5_scoreOf 58 = .ok (.iload_n 1, 1) := by decide +kernel
theorem dX5_scoreOf_59 : decode cX5_scoreOf 59 = .ok (.iaload, 1) := by decide +kernel
theorem dX5_scoreOf_60 : decode cX5_scoreOf 60 = .ok (.istore 8, 2) := by decide +kernel
theorem dX5_scoreOf_62 : decode cX5_scoreOf 62 = .ok (.iload 6, 2) := by decide +kernel
theorem dX5_scoreOf_64 : decode cX5_scoreOf 64 = .ok (.ifCond .eq 17, 3) := by decide +kernel
theorem dX5_scoreOf_67 : decode cX5_scoreOf 67 = .ok (.aload_n 0, 1) := by decide +kernel
theorem dX5_scoreOf_68 : decode cX5_scoreOf 68 = .ok (.getfield 38, 3) := by decide +kernel
theorem dX5_scoreOf_71 : decode cX5_scoreOf 71 = .ok (.iload_n 1, 1) := by decide +kernel
theorem dX5_scoreOf_72 : decode cX5_scoreOf 72 = .ok (.iaload, 1) := by decide +kernel
theorem dX5_scoreOf_73 : decode cX5_scoreOf 73 = .ok (.iconst 1, 1) := by decide +kernel
theorem dX5_scoreOf_74 : decode cX5_scoreOf 74 = .ok (.isub, 1) := by decide +kernel
theorem dX5_scoreOf_75 : decode cX5_scoreOf 75 = .ok (.iload 8, 2) := by decide +kernel
theorem dX5_scoreOf_77 : decode cX5_scoreOf 77 = .ok (.isub, 1) := by decide +kernel
theorem dX5_scoreOf_78 : decode cX5_scoreOf 78 = .ok (.goto 5, 3) := by decide +kernel
theorem dX5_scoreOf_81 : decode cX5_scoreOf 81 = .ok (.iload 8, 2) := by decide +kernel
theorem dX5_scoreOf_83 : decode cX5_scoreOf 83 = .ok (.istore 9, 2) := by decide +kernel
theorem dX5_scoreOf_85 : decode cX5_scoreOf 85 = .ok (.iload 4, 2) := by decide +kernel
theorem dX5_scoreOf_87 : decode cX5_scoreOf 87 = .ok (.iload 9, 2) := by decide +kernel
theorem dX5_scoreOf_89 : decode cX5_scoreOf 89 = .ok (.iadd, 1) := by decide +kernel
theorem dX5_scoreOf_90 : decode cX5_scoreOf 90 = .ok (.aload_n 0, 1) := by decide +kernel
theorem dX5_scoreOf_91 : decode cX5_scoreOf 91 = .ok (.getfield 26, 3) := by decide +kernel
theorem dX5_scoreOf_94 : decode cX5_scoreOf 94 = .ok (.iload_n 2, 1) := by decide +kernel
theorem dX5_scoreOf_95 : decode cX5_scoreOf 95 = .ok (.iaload, 1) := by decide +kernel
theorem dX5_scoreOf_96 : decode cX5_scoreOf 96 = .ok (.if_icmp .eq 6, 3) := by decide +kernel
theorem dX5_scoreOf_99 : decode cX5_scoreOf 99 = .ok (.bipush (-6), 2) := by decide +kernel
theorem dX5_scoreOf_101 : decode cX5_scoreOf 101 = .ok (.ireturn, 1) := by decide +kernel
theorem dX5_scoreOf_102 : decode cX5_scoreOf 102 = .ok (.iload 6, 2) := by decide +kernel
theorem dX5_scoreOf_104 : decode cX5_scoreOf 104 = .ok (.ifCond .eq 25, 3) := by decide +kernel
theorem dX5_scoreOf_107 : decode cX5_scoreOf 107 = .ok (.aload_n 0, 1) := by decide +kernel
theorem dX5_scoreOf_108 : decode cX5_scoreOf 108 = .ok (.getfield 41, 3) := by decide +kernel
theorem dX5_scoreOf_111 : decode cX5_scoreOf 111 = .ok (.bipush 10, 2) := by decide +kernel
theorem dX5_scoreOf_113 : decode cX5_scoreOf 113 = .ok (.iload_n 1, 1) := by decide +kernel
theorem dX5_scoreOf_114 : decode cX5_scoreOf 114 = .ok (.imul, 1) := by decide +kernel
theorem dX5_scoreOf_115 : decode cX5_scoreOf 115 = .ok (.iload 8, 2) := by decide +kernel
theorem dX5_scoreOf_117 : decode cX5_scoreOf 117 = .ok (.iadd, 1) := by decide +kernel
theorem dX5_scoreOf_118 : decode cX5_scoreOf 118 = .ok (.iaload, 1) := by decide +kernel
theorem dX5_scoreOf_119 : decode cX5_scoreOf 119 = .ok (.aload_n 0, 1) := by decide +kernel
theorem dX5_scoreOf_120 : decode cX5_scoreOf 120 = .ok (.getfield 47, 3) := by decide +kernel
theorem dX5_scoreOf_123 : decode cX5_scoreOf 123 = .ok (.iload_n 1, 1) := by decide +kernel
theorem dX5_scoreOf_124 : decode cX5_scoreOf 124 = .ok (.iaload, 1) := by decide +kernel
theorem dX5_scoreOf_125 : decode cX5_scoreOf 125 = .ok (.isub, 1) := by decide +kernel
theorem dX5_scoreOf_126 : decode cX5_scoreOf 126 = .ok (.goto 9, 3) := by decide +kernel
theorem dX5_scoreOf_129 : decode cX5_scoreOf 129 = .ok (.aload_n 0, 1) := by decide +kernel
theorem dX5_scoreOf_130 : decode cX5_scoreOf 130 = .ok (.getfield 47, 3) := by decide +kernel
theorem dX5_scoreOf_133 : decode cX5_scoreOf 133 = .ok (.iload_n 1, 1) := by decide +kernel
theorem dX5_scoreOf_134 : decode cX5_scoreOf 134 = .ok (.iaload, 1) := by decide +kernel
theorem dX5_scoreOf_135 : decode cX5_scoreOf 135 = .ok (.istore 10, 2) := by decide +kernel
theorem dX5_scoreOf_137 : decode cX5_scoreOf 137 = .ok (.iload_n 3, 1) := by decide +kernel
theorem dX5_scoreOf_138 : decode cX5_scoreOf 138 = .ok (.iconst 1, 1) := by decide +kernel
theorem dX5_scoreOf_139 : decode cX5_scoreOf 139 = .ok (.if_icmp .eq 8, 3) := by decide +kernel
theorem dX5_scoreOf_142 : decode cX5_scoreOf 142 = .ok (.iload_n 3, 1) := by decide +kernel
theorem dX5_scoreOf_143 : decode cX5_scoreOf 143 = .ok (.iconst 3, 1) := by decide +kernel
theorem dX5_scoreOf_144 : decode cX5_scoreOf 144 = .ok (.if_icmp .ne 16, 3) := by decide +kernel
theorem dX5_scoreOf_147 : decode cX5_scoreOf 147 = .ok (.sipush 300, 3) := by decide +kernel
theorem dX5_scoreOf_150 : decode cX5_scoreOf 150 = .ok (.aload_n 0, 1) := by decide +kernel
theorem dX5_scoreOf_151 : decode cX5_scoreOf 151 = .ok (.getfield 50, 3) := by decide +kernel
theorem dX5_scoreOf_154 : decode cX5_scoreOf 154 = .ok (.iload_n 1, 1) := by decide +kernel
theorem dX5_scoreOf_155 : decode cX5_scoreOf 155 = .ok (.iaload, 1) := by decide +kernel
theorem dX5_scoreOf_156 : decode cX5_scoreOf 156 = .ok (.isub, 1) := by decide +kernel
theorem dX5_scoreOf_157 : decode cX5_scoreOf 157 = .ok (.goto 9, 3) := by decide +kernel
theorem dX5_scoreOf_160 : decode cX5_scoreOf 160 = .ok (.aload_n 0, 1) := by decide +kernel
theorem dX5_scoreOf_161 : decode cX5_scoreOf 161 = .ok (.getfield 50, 3) := by decide +kernel
theorem dX5_scoreOf_164 : decode cX5_scoreOf 164 = .ok (.iload_n 1, 1) := by decide +kernel
theorem dX5_scoreOf_165 : decode cX5_scoreOf 165 = .ok (.iaload, 1) := by decide +kernel
theorem dX5_scoreOf_166 : decode cX5_scoreOf 166 = .ok (.istore 11, 2) := by decide +kernel
theorem dX5_scoreOf_168 : decode cX5_scoreOf 168 = .ok (.aload_n 0, 1) := by decide +kernel
theorem dX5_scoreOf_169 : decode cX5_scoreOf 169 = .ok (.iload_n 2, 1) := by decide +kernel
theorem dX5_scoreOf_170 : decode cX5_scoreOf 170 = .ok (.iload 10, 2) := by decide +kernel
theorem dX5_scoreOf_172 : decode cX5_scoreOf 172 = .ok (.iload 11, 2) := by decide +kernel
theorem dX5_scoreOf_174 : decode cX5_scoreOf 174 = .ok (.iload 5, 2) := by decide +kernel
theorem dX5_scoreOf_176 : decode cX5_scoreOf 176 = .ok (.invokevirtual 112, 3) := by decide +kernel
theorem dX5_scoreOf_179 : decode cX5_scoreOf 179 = .ok (.istore 12, 2) := by decide +kernel
theorem dX5_scoreOf_181 : decode cX5_scoreOf 181 = .ok (.iload 12, 2) := by decide +kernel
theorem dX5_scoreOf_183 : decode cX5_scoreOf 183 = .ok (.ifCond .ge 8, 3) := by decide +kernel
theorem dX5_scoreOf_186 : decode cX5_scoreOf 186 = .ok (.bipush (-6), 2) := by decide +kernel
theorem dX5_scoreOf_188 : decode cX5_scoreOf 188 = .ok (.goto 8, 3) := by decide +kernel
theorem dX5_scoreOf_191 : decode cX5_scoreOf 191 = .ok (.iload 7, 2) := by decide +kernel
theorem dX5_scoreOf_193 : decode cX5_scoreOf 193 = .ok (.iload 12, 2) := by decide +kernel
theorem dX5_scoreOf_195 : decode cX5_scoreOf 195 = .ok (.iadd, 1) := by decide +kernel
theorem dX5_scoreOf_196 : decode cX5_scoreOf 196 = .ok (.ireturn, 1) := by decide +kernel
theorem dX5_findBest_0 : decode cX5_findBest 0 = .ok (.aload_n 0, 1) := by decide +kernel
theorem dX5_findBest_1 : decode cX5_findBest 1 = .ok (.bipush (-6), 2) := by decide +kernel
theorem dX5_findBest_3 : decode cX5_findBest 3 = .ok (.putfield 116, 3) := by decide +kernel
theorem dX5_findBest_6 : decode cX5_findBest 6 = .ok (.iconst 0, 1) := by decide +kernel
theorem dX5_findBest_7 : decode cX5_findBest 7 = .ok (.istore_n 3, 1) := by decide +kernel
theorem dX5_findBest_8 : decode cX5_findBest 8 = .ok (.iload_n 3, 1) := by decide +kernel
theorem dX5_findBest_9 : decode cX5_findBest 9 = .ok (.iconst 4, 1) := by decide +kernel
theorem dX5_findBest_10 : decode cX5_findBest 10 = .ok (.if_icmp .ge 120, 3) := by decide +kernel
theorem dX5_findBest_13 : decode cX5_findBest 13 = .ok (.iconst 0, 1) := by decide +kernel
theorem dX5_findBest_14 : decode cX5_findBest 14 = .ok (.istore 4, 2) := by decide +kernel
theorem dX5_findBest_16 : decode cX5_findBest 16 = .ok (.iload 4, 2) := by decide +kernel
theorem dX5_findBest_18 : decode cX5_findBest 18 = .ok (.aload_n 0, 1) := by decide +kernel
theorem dX5_findBest_19 : decode cX5_findBest 19 = .ok (.getfield 20, 3) := by decide +kernel
theorem dX5_findBest_22 : decode cX5_findBest 22 = .ok (.iload_n 2, 1) := by decide +kernel
theorem dX5_findBest_23 : decode cX5_findBest 23 = .ok (.iaload, 1) := by decide +kernel
theorem dX5_findBest_24 : decode cX5_findBest 24 = .ok (.aload_n 0, 1) := by decide +kernel
theorem dX5_findBest_25 : decode cX5_findBest 25 = .ok (.getfield 38, 3) := by decide +kernel
theorem dX5_findBest_28 : decode cX5_findBest 28 = .ok (.iload_n 1, 1) := by decide +kernel
theorem dX5_findBest_29 : decode cX5_findBest 29 = .ok (.iaload, 1) := by decide +kernel
theorem dX5_findBest_30 : decode cX5_findBest 30 = .ok (.isub, 1) := by decide +kernel
theorem dX5_findBest_31 : decode cX5_findBest 31 = .ok (.if_icmp .gt 93, 3) := by decide +kernel
theorem dX5_findBest_34 : decode cX5_findBest 34 = .ok (.sipush 1000, 3) := by decide +kernel
theorem dX5_findBest_37 : decode cX5_findBest 37 = .ok (.istore 5, 2) := by decide +kernel
theorem dX5_findBest_39 : decode cX5_findBest 39 = .ok (.iload 5, 2) := by decide +kernel
theorem dX5_findBest_41 : decode cX5_findBest 41 = .ok (.sipush 940, 3) := by decide +kernel
theorem dX5_findBest_44 : decode cX5_findBest 44 = .ok (.if_icmp .lt 74, 3) := by decide +kernel
theorem dX5_findBest_47 : decode cX5_findBest 47 = .ok (.aload_n 0, 1) := by decide +kernel
theorem dX5_findBest_48 : decode cX5_findBest 48 = .ok (.iload_n 1, 1) := by decide +kernel
theorem dX5_findBest_49 : decode cX5_findBest 49 = .ok (.iload_n 2, 1) := by decide +kernel
theorem dX5_findBest_50 : decode cX5_findBest 50 = .ok (.iload_n 3, 1) := by decide +kernel
theorem dX5_findBest_51 : decode cX5_findBest 51 = .ok (.iload 4, 2) := by decide +kernel
theorem dX5_findBest_53 : decode cX5_findBest 53 = .ok (.iload 5, 2) := by decide +kernel
theorem dX5_findBest_55 : decode cX5_findBest 55 = .ok (.invokevirtual 119, 3) := by decide +kernel
theorem dX5_findBest_58 : decode cX5_findBest 58 = .ok (.istore 6, 2) := by decide +kernel
theorem dX5_findBest_60 : decode cX5_findBest 60 = .ok (.iload 6, 2) := by decide +kernel
theorem dX5_findBest_62 : decode cX5_findBest 62 = .ok (.ifCond .lt 50, 3) := by decide +kernel
theorem dX5_findBest_65 : decode cX5_findBest 65 = .ok (.aload_n 0, 1) := by decide +kernel
theorem dX5_findBest_66 : decode cX5_findBest 66 = .ok (.getfield 116, 3) := by decide +kernel
theorem dX5_findBest_69 : decode cX5_findBest 69 = .ok (.ifCond .lt 12, 3) := by decide +kernel
theorem dX5_findBest_72 : decode cX5_findBest 72 = .ok (.iload 6, 2) := by decide +kernel
theorem dX5_findBest_74 : decode cX5_findBest 74 = .ok (.aload_n 0, 1) := by decide +kernel
theorem dX5_findBest_75 : decode cX5_findBest 75 = .ok (.getfield 116, 3) := by decide +kernel
theorem dX5_findBest_78 : decode cX5_findBest 78 = .ok (.if_icmp .ge 34, 3) := by decide +kernel
theorem dX5_findBest_81 : decode cX5_findBest 81 = .ok (.aload_n 0, 1) := by decide +kernel
theorem dX5_findBest_82 : decode cX5_findBest 82 = .ok (.iload 6, 2) := by decide +kernel
theorem dX5_findBest_84 : decode cX5_findBest 84 = .ok (.putfield 116, 3) := by decide +kernel
theorem dX5_findBest_87 : decode cX5_findBest 87 = .ok (.aload_n 0, 1) := by decide +kernel
theorem dX5_findBest_88 : decode cX5_findBest 88 = .ok (.iload_n 3, 1) := by decide +kernel
theorem dX5_findBest_89 : decode cX5_findBest 89 = .ok (.putfield 123, 3) := by decide +kernel
theorem dX5_findBest_92 : decode cX5_findBest 92 = .ok (.aload_n 0, 1) := by decide +kernel
theorem dX5_findBest_93 : decode cX5_findBest 93 = .ok (.iload 4, 2) := by decide +kernel
theorem dX5_findBest_95 : decode cX5_findBest 95 = .ok (.putfield 126, 3) := by decide +kernel
theorem dX5_findBest_98 : decode cX5_findBest 98 = .ok (.aload_n 0, 1) := by decide +kernel
theorem dX5_findBest_99 : decode cX5_findBest 99 = .ok (.iload 5, 2) := by decide +kernel
theorem dX5_findBest_101 : decode cX5_findBest 101 = .ok (.putfield 129, 3) := by decide +kernel
theorem dX5_findBest_104 : decode cX5_findBest 104 = .ok (.aload_n 0, 1) := by decide +kernel
theorem dX5_findBest_105 : decode cX5_findBest 105 = .ok (.aload_n 0, 1) := by decide +kernel
theorem dX5_findBest_106 : decode cX5_findBest 106 = .ok (.getfield 105, 3) := by decide +kernel
theorem dX5_findBest_109 : decode cX5_findBest 109 = .ok (.putfield 132, 3) := by decide +kernel
theorem dX5_findBest_112 : decode cX5_findBest 112 = .ok (.iinc 5 (-5), 3) := by decide +kernel
theorem dX5_findBest_115 : decode cX5_findBest 115 = .ok (.goto (-76), 3) := by decide +kernel
theorem dX5_findBest_118 : decode cX5_findBest 118 = .ok (.iinc 4 1, 3) := by decide +kernel
theorem dX5_findBest_121 : decode cX5_findBest 121 = .ok (.goto (-105), 3) := by decide +kernel
theorem dX5_findBest_124 : decode cX5_findBest 124 = .ok (.iinc 3 1, 3) := by decide +kernel
theorem dX5_findBest_127 : decode cX5_findBest 127 = .ok (.goto (-119), 3) := by decide +kernel
theorem dX5_findBest_130 : decode cX5_findBest 130 = .ok (.return_, 1) := by decide +kernel
theorem dX5_bothBarred_0 : decode cX5_bothBarred 0 = .ok (.aload_n 0, 1) := by decide +kernel
theorem dX5_bothBarred_1 : decode cX5_bothBarred 1 = .ok (.iload_n 1, 1) := by decide +kernel
theorem dX5_bothBarred_2 : decode cX5_bothBarred 2 = .ok (.invokevirtual 102, 3) := by decide +kernel
theorem dX5_bothBarred_5 : decode cX5_bothBarred 5 = .ok (.ifCond .eq 8, 3) := by decide +kernel
theorem dX5_bothBarred_8 : decode cX5_bothBarred 8 = .ok (.bipush (-2), 2) := by decide +kernel
theorem dX5_bothBarred_10 : decode cX5_bothBarred 10 = .ok (.goto 16, 3) := by decide +kernel
theorem dX5_bothBarred_13 : decode cX5_bothBarred 13 = .ok (.aload_n 0, 1) := by decide +kernel
theorem dX5_bothBarred_14 : decode cX5_bothBarred 14 = .ok (.iload_n 2, 1) := by decide +kernel
theorem dX5_bothBarred_15 : decode cX5_bothBarred 15 = .ok (.invokevirtual 85, 3) := by decide +kernel
theorem dX5_bothBarred_18 : decode cX5_bothBarred 18 = .ok (.ifCond .eq 7, 3) := by decide +kernel
theorem dX5_bothBarred_21 : decode cX5_bothBarred 21 = .ok (.iconst (-1), 1) := by decide +kernel
theorem dX5_bothBarred_22 : decode cX5_bothBarred 22 = .ok (.goto 4, 3) := by decide +kernel
theorem dX5_bothBarred_25 : decode cX5_bothBarred 25 = .ok (.iconst 0, 1) := by decide +kernel
theorem dX5_bothBarred_26 : decode cX5_bothBarred 26 = .ok (.ireturn, 1) := by decide +kernel
theorem dX5_score_0 : decode cX5_score 0 = .ok (.aload_n 0, 1) := by decide +kernel
theorem dX5_score_1 : decode cX5_score 1 = .ok (.iload_n 1, 1) := by decide +kernel
theorem dX5_score_2 : decode cX5_score 2 = .ok (.iload_n 2, 1) := by decide +kernel
theorem dX5_score_3 : decode cX5_score 3 = .ok (.invokevirtual 135, 3) := by decide +kernel
theorem dX5_score_6 : decode cX5_score 6 = .ok (.istore_n 3, 1) := by decide +kernel
theorem dX5_score_7 : decode cX5_score 7 = .ok (.iload_n 3, 1) := by decide +kernel
theorem dX5_score_8 : decode cX5_score 8 = .ok (.ifCond .ge 5, 3) := by decide +kernel
theorem dX5_score_11 : decode cX5_score 11 = .ok (.iload_n 3, 1) := by decide +kernel
theorem dX5_score_12 : decode cX5_score 12 = .ok (.ireturn, 1) := by decide +kernel
theorem dX5_score_13 : decode cX5_score 13 = .ok (.aload_n 0, 1) := by decide +kernel
theorem dX5_score_14 : decode cX5_score 14 = .ok (.iload_n 1, 1) := by decide +kernel
theorem dX5_score_15 : decode cX5_score 15 = .ok (.iload_n 2, 1) := by decide +kernel
theorem dX5_score_16 : decode cX5_score 16 = .ok (.invokevirtual 138, 3) := by decide +kernel
theorem dX5_score_19 : decode cX5_score 19 = .ok (.aload_n 0, 1) := by decide +kernel
theorem dX5_score_20 : decode cX5_score 20 = .ok (.getfield 116, 3) := by decide +kernel
theorem dX5_score_23 : decode cX5_score 23 = .ok (.ireturn, 1) := by decide +kernel
theorem dX5_placement_0 : decode cX5_placement 0 = .ok (.aload_n 0, 1) := by decide +kernel
theorem dX5_placement_1 : decode cX5_placement 1 = .ok (.iload_n 1, 1) := by decide +kernel
theorem dX5_placement_2 : decode cX5_placement 2 = .ok (.iload_n 2, 1) := by decide +kernel
theorem dX5_placement_3 : decode cX5_placement 3 = .ok (.invokevirtual 135, 3) := by decide +kernel
theorem dX5_placement_6 : decode cX5_placement 6 = .ok (.istore 4, 2) := by decide +kernel
theorem dX5_placement_8 : decode cX5_placement 8 = .ok (.iload 4, 2) := by decide +kernel
theorem dX5_placement_10 : decode cX5_placement 10 = .ok (.ifCond .ge 6, 3) := by decide +kernel
theorem dX5_placement_13 : decode cX5_placement 13 = .ok (.iload 4, 2) := by decide +kernel
theorem dX5_placement_15 : decode cX5_placement 15 = .ok (.ireturn, 1) := by decide +kernel
theorem dX5_placement_16 : decode cX5_placement 16 = .ok (.iload_n 3, 1) := by decide +kernel
theorem dX5_placement_17 : decode cX5_placement 17 = .ok (.iconst 0, 1) := by decide +kernel
theorem dX5_placement_18 : decode cX5_placement 18 = .ok (.iconst 3, 1) := by decide +kernel
theorem dX5_placement_19 : decode cX5_placement 19 = .ok (.invokestatic 71, 3) := by decide +kernel
theorem dX5_placement_22 : decode cX5_placement 22 = .ok (.ifCond .ne 6, 3) := by decide +kernel
theorem dX5_placement_25 : decode cX5_placement 25 = .ok (.bipush (-3), 2) := by decide +kernel
theorem dX5_placement_27 : decode cX5_placement 27 = .ok (.ireturn, 1) := by decide +kernel
theorem dX5_placement_28 : decode cX5_placement 28 = .ok (.aload_n 0, 1) := by decide +kernel
theorem dX5_placement_29 : decode cX5_placement 29 = .ok (.iload_n 1, 1) := by decide +kernel
theorem dX5_placement_30 : decode cX5_placement 30 = .ok (.iload_n 2, 1) := by decide +kernel
theorem dX5_placement_31 : decode cX5_placement 31 = .ok (.invokevirtual 138, 3) := by decide +kernel
theorem dX5_placement_34 : decode cX5_placement 34 = .ok (.aload_n 0, 1) := by decide +kernel
theorem dX5_placement_35 : decode cX5_placement 35 = .ok (.getfield 116, 3) := by decide +kernel
theorem dX5_placement_38 : decode cX5_placement 38 = .ok (.ifCond .ge 8, 3) := by decide +kernel
theorem dX5_placement_41 : decode cX5_placement 41 = .ok (.bipush (-6), 2) := by decide +kernel
theorem dX5_placement_43 : decode cX5_placement 43 = .ok (.goto 42, 3) := by decide +kernel
theorem dX5_placement_46 : decode cX5_placement 46 = .ok (.iload_n 3, 1) := by decide +kernel
theorem dX5_placement_47 : decode cX5_placement 47 = .ok (.ifCond .ne 10, 3) := by decide +kernel
theorem dX5_placement_50 : decode cX5_placement 50 = .ok (.aload_n 0, 1) := by decide +kernel
theorem dX5_placement_51 : decode cX5_placement 51 = .ok (.getfield 123, 3) := by decide +kernel
theorem dX5_placement_54 : decode cX5_placement 54 = .ok (.goto 31, 3) := by decide +kernel
theorem dX5_placement_57 : decode cX5_placement 57 = .ok (.iload_n 3, 1) := by decide +kernel
theorem dX5_placement_58 : decode cX5_placement 58 = .ok (.iconst 1, 1) := by decide +kernel
theorem dX5_placement_59 : decode cX5_placement 59 = .ok (.if_icmp .ne 10, 3) := by decide +kernel
theorem dX5_placement_62 : decode cX5_placement 62 = .ok (.aload_n 0, 1) := by decide +kernel
theorem dX5_placement_63 : decode cX5_placement 63 = .ok (.getfield 126, 3) := by decide +kernel
theorem dX5_placement_66 : decode cX5_placement 66 = .ok (.goto 19, 3) := by decide +kernel
theorem dX5_placement_69 : decode cX5_placement 69 = .ok (.iload_n 3, 1) := by decide +kernel
theorem dX5_placement_70 : decode cX5_placement 70 = .ok (.iconst 2, 1) := by decide +kernel
theorem dX5_placement_71 : decode cX5_placement 71 = .ok (.if_icmp .ne 10, 3) := by decide +kernel
theorem dX5_placement_74 : decode cX5_placement 74 = .ok (.aload_n 0, 1) := by decide +kernel
theorem dX5_placement_75 : decode cX5_placement 75 = .ok (.getfield 129, 3) := by decide +kernel
theorem dX5_placement_78 : decode cX5_placement 78 = .ok (.goto 7, 3) := by decide +kernel
theorem dX5_placement_81 : decode cX5_placement 81 = .ok (.aload_n 0, 1) := by decide +kernel
theorem dX5_placement_82 : decode cX5_placement 82 = .ok (.getfield 132, 3) := by decide +kernel
theorem dX5_placement_85 : decode cX5_placement 85 = .ok (.ireturn, 1) := by decide +kernel
theorem dX5_assign_0 : decode cX5_assign 0 = .ok (.aload_n 0, 1) := by decide +kernel
theorem dX5_assign_1 : decode cX5_assign 1 = .ok (.getfield 59, 3) := by decide +kernel
theorem dX5_assign_4 : decode cX5_assign 4 = .ok (.iload_n 1, 1) := by decide +kernel
theorem dX5_assign_5 : decode cX5_assign 5 = .ok (.bipush (-6), 2) := by decide +kernel
theorem dX5_assign_7 : decode cX5_assign 7 = .ok (.iastore, 1) := by decide +kernel
theorem dX5_assign_8 : decode cX5_assign 8 = .ok (.aload_n 0, 1) := by decide +kernel
theorem dX5_assign_9 : decode cX5_assign 9 = .ok (.getfield 62, 3) := by decide +kernel
theorem dX5_assign_12 : decode cX5_assign 12 = .ok (.iload_n 1, 1) := by decide +kernel
theorem dX5_assign_13 : decode cX5_assign 13 = .ok (.bipush (-6), 2) := by decide +kernel
theorem dX5_assign_15 : decode cX5_assign 15 = .ok (.iastore, 1) := by decide +kernel
theorem dX5_assign_16 : decode cX5_assign 16 = .ok (.aload_n 0, 1) := by decide +kernel
theorem dX5_assign_17 : decode cX5_assign 17 = .ok (.getfield 65, 3) := by decide +kernel
theorem dX5_assign_20 : decode cX5_assign 20 = .ok (.iload_n 1, 1) := by decide +kernel
theorem dX5_assign_21 : decode cX5_assign 21 = .ok (.bipush (-6), 2) := by decide +kernel
theorem dX5_assign_23 : decode cX5_assign 23 = .ok (.iastore, 1) := by decide +kernel
theorem dX5_assign_24 : decode cX5_assign 24 = .ok (.iconst 0, 1) := by decide +kernel
theorem dX5_assign_25 : decode cX5_assign 25 = .ok (.istore_n 2, 1) := by decide +kernel
theorem dX5_assign_26 : decode cX5_assign 26 = .ok (.iload_n 2, 1) := by decide +kernel
theorem dX5_assign_27 : decode cX5_assign 27 = .ok (.aload_n 0, 1) := by decide +kernel
theorem dX5_assign_28 : decode cX5_assign 28 = .ok (.getfield 75, 3) := by decide +kernel
theorem dX5_assign_31 : decode cX5_assign 31 = .ok (.if_icmp .ge 71, 3) := by decide +kernel
theorem dX5_assign_34 : decode cX5_assign 34 = .ok (.aload_n 0, 1) := by decide +kernel
theorem dX5_assign_35 : decode cX5_assign 35 = .ok (.iload_n 1, 1) := by decide +kernel
theorem dX5_assign_36 : decode cX5_assign 36 = .ok (.iload_n 2, 1) := by decide +kernel
theorem dX5_assign_37 : decode cX5_assign 37 = .ok (.invokevirtual 138, 3) := by decide +kernel
theorem dX5_assign_40 : decode cX5_assign 40 = .ok (.aload_n 0, 1) := by decide +kernel
theorem dX5_assign_41 : decode cX5_assign 41 = .ok (.getfield 116, 3) := by decide +kernel
theorem dX5_assign_44 : decode cX5_assign 44 = .ok (.ifCond .lt 52, 3) := by decide +kernel
theorem dX5_assign_47 : decode cX5_assign 47 = .ok (.aload_n 0, 1) := by decide +kernel
theorem dX5_assign_48 : decode cX5_assign 48 = .ok (.getfield 59, 3) := by decide +kernel
theorem dX5_assign_51 : decode cX5_assign 51 = .ok (.iload_n 1, 1) := by decide +kernel
theorem dX5_assign_52 : decode cX5_assign 52 = .ok (.iaload, 1) := by decide +kernel
theorem dX5_assign_53 : decode cX5_assign 53 = .ok (.ifCond .lt 16, 3) := by decide +kernel
theorem dX5_assign_56 : decode cX5_assign 56 = .ok (.aload_n 0, 1) := by decide +kernel
theorem dX5_assign_57 : decode cX5_assign 57 = .ok (.getfield 116, 3) := by decide +kernel
theorem dX5_assign_60 : decode cX5_assign 60 = .ok (.aload_n 0, 1) := by decide +kernel
theorem dX5_assign_61 : decode cX5_assign 61 = .ok (.getfield 65, 3) := by decide +kernel
theorem dX5_assign_64 : decode cX5_assign 64 = .ok (.iload_n 1, 1) := by decide +kernel
theorem dX5_assign_65 : decode cX5_assign 65 = .ok (.iaload, 1) := by decide +kernel
theorem dX5_assign_66 : decode cX5_assign 66 = .ok (.if_icmp .ge 30, 3) := by decide +kernel
theorem dX5_assign_69 : decode cX5_assign 69 = .ok (.aload_n 0, 1) := by decide +kernel
theorem dX5_assign_70 : decode cX5_assign 70 = .ok (.getfield 59, 3) := by decide +kernel
theorem dX5_assign_73 : decode cX5_assign 73 = .ok (.iload_n 1, 1) := by decide +kernel
theorem dX5_assign_74 : decode cX5_assign 74 = .ok (.iload_n 2, 1) := by decide +kernel
theorem dX5_assign_75 : decode cX5_assign 75 = .ok (.iastore, 1) := by decide +kernel
theorem dX5_assign_76 : decode cX5_assign 76 = .ok (.aload_n 0, 1) := by decide +kernel
theorem dX5_assign_77 : decode cX5_assign 77 = .ok (.getfield 62, 3) := by decide +kernel
theorem dX5_assign_80 : decode cX5_assign 80 = .ok (.iload_n 1, 1) := by decide +kernel
theorem dX5_assign_81 : decode cX5_assign 81 = .ok (.aload_n 0, 1) := by decide +kernel
theorem dX5_assign_82 : decode cX5_assign 82 = .ok (.getfield 132, 3) := by decide +kernel
theorem dX5_assign_85 : decode cX5_assign 85 = .ok (.iastore, 1) := by decide +kernel
theorem dX5_assign_86 : decode cX5_assign 86 = .ok (.aload_n 0, 1) := by decide +kernel
theorem dX5_assign_87 : decode cX5_assign 87 = .ok (.getfield 65, 3) := by decide +kernel
theorem dX5_assign_90 : decode cX5_assign 90 = .ok (.iload_n 1, 1) := by decide +kernel
theorem dX5_assign_91 : decode cX5_assign 91 = .ok (.aload_n 0, 1) := by decide +kernel
theorem dX5_assign_92 : decode cX5_assign 92 = .ok (.getfield 116, 3) := by decide +kernel
theorem dX5_assign_95 : decode cX5_assign 95 = .ok (.iastore, 1) := by decide +kernel
theorem dX5_assign_96 : decode cX5_assign 96 = .ok (.iinc 2 1, 3) := by decide +kernel
theorem dX5_assign_99 : decode cX5_assign 99 = .ok (.goto (-73), 3) := by decide +kernel
theorem dX5_assign_102 : decode cX5_assign 102 = .ok (.return_, 1) := by decide +kernel
theorem dX5_assignAll_0 : decode cX5_assignAll 0 = .ok (.iconst 0, 1) := by decide +kernel
theorem dX5_assignAll_1 : decode cX5_assignAll 1 = .ok (.istore_n 1, 1) := by decide +kernel
theorem dX5_assignAll_2 : decode cX5_assignAll 2 = .ok (.iload_n 1, 1) := by decide +kernel
theorem dX5_assignAll_3 : decode cX5_assignAll 3 = .ok (.aload_n 0, 1) := by decide +kernel
theorem dX5_assignAll_4 : decode cX5_assignAll 4 = .ok (.getfield 99, 3) := by decide +kernel
theorem dX5_assignAll_7 : decode cX5_assignAll 7 = .ok (.if_icmp .ge 14, 3) := by decide +kernel
theorem dX5_assignAll_10 : decode cX5_assignAll 10 = .ok (.aload_n 0, 1) := by decide +kernel
theorem dX5_assignAll_11 : decode cX5_assignAll 11 = .ok (.iload_n 1, 1) := by decide +kernel
theorem dX5_assignAll_12 : decode cX5_assignAll 12 = .ok (.invokevirtual 142, 3) := by decide +kernel
theorem dX5_assignAll_15 : decode cX5_assignAll 15 = .ok (.iinc 1 1, 3) := by decide +kernel
theorem dX5_assignAll_18 : decode cX5_assignAll 18 = .ok (.goto (-16), 3) := by decide +kernel
theorem dX5_assignAll_21 : decode cX5_assignAll 21 = .ok (.return_, 1) := by decide +kernel
theorem dX5_assignedMould_0 : decode cX5_assignedMould 0 = .ok (.aload_n 0, 1) := by decide +kernel
theorem dX5_assignedMould_1 : decode cX5_assignedMould 1 = .ok (.iload_n 1, 1) := by decide +kernel
theorem dX5_assignedMould_2 : decode cX5_assignedMould 2 = .ok (.invokevirtual 102, 3) := by decide +kernel
theorem dX5_assignedMould_5 : decode cX5_assignedMould 5 = .ok (.ifCond .eq 6, 3) := by decide +kernel
theorem dX5_assignedMould_8 : decode cX5_assignedMould 8 = .ok (.bipush (-2), 2) := by decide +kernel
theorem dX5_assignedMould_10 : decode cX5_assignedMould 10 = .ok (.ireturn, 1) := by decide +kernel
theorem dX5_assignedMould_11 : decode cX5_assignedMould 11 = .ok (.aload_n 0, 1) := by decide +kernel
theorem dX5_assignedMould_12 : decode cX5_assignedMould 12 = .ok (.iload_n 1, 1) := by decide +kernel
theorem dX5_assignedMould_13 : decode cX5_assignedMould 13 = .ok (.invokevirtual 142, 3) := by decide +kernel
theorem dX5_assignedMould_16 : decode cX5_assignedMould 16 = .ok (.aload_n 0, 1) := by decide +kernel
theorem dX5_assignedMould_17 : decode cX5_assignedMould 17 = .ok (.getfield 59, 3) := by decide +kernel
theorem dX5_assignedMould_20 : decode cX5_assignedMould 20 = .ok (.iload_n 1, 1) := by decide +kernel
theorem dX5_assignedMould_21 : decode cX5_assignedMould 21 = .ok (.iaload, 1) := by decide +kernel
theorem dX5_assignedMould_22 : decode cX5_assignedMould 22 = .ok (.ireturn, 1) := by decide +kernel
theorem dX5_rivalCount_0 : decode cX5_rivalCount 0 = .ok (.aload_n 0, 1) := by decide +kernel
theorem dX5_rivalCount_1 : decode cX5_rivalCount 1 = .ok (.iload_n 1, 1) := by decide +kernel
theorem dX5_rivalCount_2 : decode cX5_rivalCount 2 = .ok (.invokevirtual 102, 3) := by decide +kernel
theorem dX5_rivalCount_5 : decode cX5_rivalCount 5 = .ok (.ifCond .eq 6, 3) := by decide +kernel
theorem dX5_rivalCount_8 : decode cX5_rivalCount 8 = .ok (.bipush (-2), 2) := by decide +kernel
theorem dX5_rivalCount_10 : decode cX5_rivalCount 10 = .ok (.ireturn, 1) := by decide +kernel
theorem dX5_rivalCount_11 : decode cX5_rivalCount 11 = .ok (.iload_n 2, 1) := by decide +kernel
theorem dX5_rivalCount_12 : decode cX5_rivalCount 12 = .ok (.iconst 0, 1) := by decide +kernel
theorem dX5_rivalCount_13 : decode cX5_rivalCount 13 = .ok (.sipush 1000, 3) := by decide +kernel
theorem dX5_rivalCount_16 : decode cX5_rivalCount 16 = .ok (.invokestatic 71, 3) := by decide +kernel
theorem dX5_rivalCount_19 : decode cX5_rivalCount 19 = .ok (.ifCond .ne 6, 3) := by decide +kernel
theorem dX5_rivalCount_22 : decode cX5_rivalCount 22 = .ok (.bipush (-3), 2) := by decide +kernel
theorem dX5_rivalCount_24 : decode cX5_rivalCount 24 = .ok (.ireturn, 1) := by decide +kernel
theorem dX5_rivalCount_25 : decode cX5_rivalCount 25 = .ok (.aload_n 0, 1) := by decide +kernel
theorem dX5_rivalCount_26 : decode cX5_rivalCount 26 = .ok (.iload_n 1, 1) := by decide +kernel
theorem dX5_rivalCount_27 : decode cX5_rivalCount 27 = .ok (.invokevirtual 142, 3) := by decide +kernel
theorem dX5_rivalCount_30 : decode cX5_rivalCount 30 = .ok (.aload_n 0, 1) := by decide +kernel
theorem dX5_rivalCount_31 : decode cX5_rivalCount 31 = .ok (.getfield 59, 3) := by decide +kernel
theorem dX5_rivalCount_34 : decode cX5_rivalCount 34 = .ok (.iload_n 1, 1) := by decide +kernel
theorem dX5_rivalCount_35 : decode cX5_rivalCount 35 = .ok (.iaload, 1) := by decide +kernel
theorem dX5_rivalCount_36 : decode cX5_rivalCount 36 = .ok (.ifCond .ge 6, 3) := by decide +kernel
theorem dX5_rivalCount_39 : decode cX5_rivalCount 39 = .ok (.bipush (-6), 2) := by decide +kernel
theorem dX5_rivalCount_41 : decode cX5_rivalCount 41 = .ok (.ireturn, 1) := by decide +kernel
theorem dX5_rivalCount_42 : decode cX5_rivalCount 42 = .ok (.iconst 0, 1) := by decide +kernel
theorem dX5_rivalCount_43 : decode cX5_rivalCount 43 = .ok (.istore_n 3, 1) := by decide +kernel
theorem dX5_rivalCount_44 : decode cX5_rivalCount 44 = .ok (.iconst 0, 1) := by decide +kernel
theorem dX5_rivalCount_45 : decode cX5_rivalCount 45 = .ok (.istore 4, 2) := by decide +kernel
theorem dX5_rivalCount_47 : decode cX5_rivalCount 47 = .ok (.iload 4, 2) := by decide +kernel
theorem dX5_rivalCount_49 : decode cX5_rivalCount 49 = .ok (.aload_n 0, 1) := by decide +kernel
theorem dX5_rivalCount_50 : decode cX5_rivalCount 50 = .ok (.getfield 75, 3) := by decide +kernel
theorem dX5_rivalCount_53 : decode cX5_rivalCount 53 = .ok (.if_icmp .ge 57, 3) := by decide +kernel
theorem dX5_rivalCount_56 : decode cX5_rivalCount 56 = .ok (.aload_n 0, 1) := by decide +kernel
theorem dX5_rivalCount_57 : decode cX5_rivalCount 57 = .ok (.iload_n 1, 1) := by decide +kernel
theorem dX5_rivalCount_58 : decode cX5_rivalCount 58 = .ok (.iload 4, 2) := by decide +kernel
theorem dX5_rivalCount_60 : decode cX5_rivalCount 60 = .ok (.invokevirtual 138, 3) := by decide +kernel
theorem dX5_rivalCount_63 : decode cX5_rivalCount 63 = .ok (.iload_n 3, 1) := by decide +kernel
theorem dX5_rivalCount_64 : decode cX5_rivalCount 64 = .ok (.iload 4, 2) := by decide +kernel
theorem dX5_rivalCount_66 : decode cX5_rivalCount 66 = .ok (.aload_n 0, 1) := by decide +kernel
theorem dX5_rivalCount_67 : decode cX5_rivalCount 67 = .ok (.getfield 59, 3) := by decide +kernel
theorem dX5_rivalCount_70 : decode cX5_rivalCount 70 = .ok (.iload_n 1, 1) := by decide +kernel
theorem dX5_rivalCount_71 : decode cX5_rivalCount 71 = .ok (.iaload, 1) := by decide +kernel
theorem dX5_rivalCount_72 : decode cX5_rivalCount 72 = .ok (.if_icmp .eq 29, 3) := by decide +kernel
theorem dX5_rivalCount_75 : decode cX5_rivalCount 75 = .ok (.aload_n 0, 1) := by decide +kernel
theorem dX5_rivalCount_76 : decode cX5_rivalCount 76 = .ok (.getfield 116, 3) := by decide +kernel
theorem dX5_rivalCount_79 : decode cX5_rivalCount 79 = .ok (.ifCond .lt 22, 3) := by decide +kernel
theorem dX5_rivalCount_82 : decode cX5_rivalCount 82 = .ok (.aload_n 0, 1) := by decide +kernel
theorem dX5_rivalCount_83 : decode cX5_rivalCount 83 = .ok (.getfield 116, 3) := by decide +kernel
theorem dX5_rivalCount_86 : decode cX5_rivalCount 86 = .ok (.aload_n 0, 1) := by decide +kernel
theorem dX5_rivalCount_87 : decode cX5_rivalCount 87 = .ok (.getfield 65, 3) := by decide +kernel
theorem dX5_rivalCount_90 : decode cX5_rivalCount 90 = .ok (.iload_n 1, 1) := by decide +kernel
theorem dX5_rivalCount_91 : decode cX5_rivalCount 91 = .ok (.iaload, 1) := by decide +kernel
theorem dX5_rivalCount_92 : decode cX5_rivalCount 92 = .ok (.iload_n 2, 1) := by decide +kernel
theorem dX5_rivalCount_93 : decode cX5_rivalCount 93 = .ok (.iadd, 1) := by decide +kernel
theorem dX5_rivalCount_94 : decode cX5_rivalCount 94 = .ok (.if_icmp .gt 7, 3) := by decide +kernel
theorem dX5_rivalCount_97 : decode cX5_rivalCount 97 = .ok (.iconst 1, 1) := by decide +kernel
theorem dX5_rivalCount_98 : decode cX5_rivalCount 98 = .ok (.goto 4, 3) := by decide +kernel
theorem dX5_rivalCount_101 : decode cX5_rivalCount 101 = .ok (.iconst 0, 1) := by decide +kernel
theorem dX5_rivalCount_102 : decode cX5_rivalCount 102 = .ok (.iadd, 1) := by decide +kernel
theorem dX5_rivalCount_103 : decode cX5_rivalCount 103 = .ok (.istore_n 3, 1) := by decide +kernel
theorem dX5_rivalCount_104 : decode cX5_rivalCount 104 = .ok (.iinc 4 1, 3) := by decide +kernel
theorem dX5_rivalCount_107 : decode cX5_rivalCount 107 = .ok (.goto (-60), 3) := by decide +kernel
theorem dX5_rivalCount_110 : decode cX5_rivalCount 110 = .ok (.iload_n 3, 1) := by decide +kernel
theorem dX5_rivalCount_111 : decode cX5_rivalCount 111 = .ok (.ireturn, 1) := by decide +kernel
theorem dX5_sheetsOf_0 : decode cX5_sheetsOf 0 = .ok (.aload_n 0, 1) := by decide +kernel
theorem dX5_sheetsOf_1 : decode cX5_sheetsOf 1 = .ok (.iload_n 1, 1) := by decide +kernel
theorem dX5_sheetsOf_2 : decode cX5_sheetsOf 2 = .ok (.invokevirtual 85, 3) := by decide +kernel
theorem dX5_sheetsOf_5 : decode cX5_sheetsOf 5 = .ok (.ifCond .eq 5, 3) := by decide +kernel
theorem dX5_sheetsOf_8 : decode cX5_sheetsOf 8 = .ok (.iconst (-1), 1) := by decide +kernel
theorem dX5_sheetsOf_9 : decode cX5_sheetsOf 9 = .ok (.ireturn, 1) := by decide +kernel
theorem dX5_sheetsOf_10 : decode cX5_sheetsOf 10 = .ok (.aload_n 0, 1) := by decide +kernel
theorem dX5_sheetsOf_11 : decode cX5_sheetsOf 11 = .ok (.invokevirtual 146, 3) := by decide +kernel
theorem dX5_sheetsOf_14 : decode cX5_sheetsOf 14 = .ok (.iconst 0, 1) := by decide +kernel
theorem dX5_sheetsOf_15 : decode cX5_sheetsOf 15 = .ok (.istore_n 2, 1) := by decide +kernel
theorem dX5_sheetsOf_16 : decode cX5_sheetsOf 16 = .ok (.iconst 0, 1) := by decide +kernel
theorem dX5_sheetsOf_17 : decode cX5_sheetsOf 17 = .ok (.istore_n 3, 1) := by decide +kernel
theorem dX5_sheetsOf_18 : decode cX5_sheetsOf 18 = .ok (.iload_n 3, 1) := by decide +kernel
theorem dX5_sheetsOf_19 : decode cX5_sheetsOf 19 = .ok (.aload_n 0, 1) := by decide +kernel
theorem dX5_sheetsOf_20 : decode cX5_sheetsOf 20 = .ok (.getfield 99, 3) := by decide +kernel
theorem dX5_sheetsOf_23 : decode cX5_sheetsOf 23 = .ok (.if_icmp .ge 29, 3) := by decide +kernel
theorem dX5_sheetsOf_26 : decode cX5_sheetsOf 26 = .ok (.iload_n 2, 1) := by decide +kernel
theorem dX5_sheetsOf_27 : decode cX5_sheetsOf 27 = .ok (.aload_n 0, 1) := by decide +kernel
theorem dX5_sheetsOf_28 : decode cX5_sheetsOf 28 = .ok (.getfield 59, 3) := by decide +kernel
theorem dX5_sheetsOf_31 : decode cX5_sheetsOf 31 = .ok (.iload_n 3, 1) := by decide +kernel
theorem dX5_sheetsOf_32 : decode cX5_sheetsOf 32 = .ok (.iaload, 1) := by decide +kernel
theorem dX5_sheetsOf_33 : decode cX5_sheetsOf 33 = .ok (.iload_n 1, 1) := by decide +kernel
theorem dX5_sheetsOf_34 : decode cX5_sheetsOf 34 = .ok (.if_icmp .ne 9, 3) := by decide +kernel
theorem dX5_sheetsOf_37 : decode cX5_sheetsOf 37 = .ok (.iconst 1, 1) := by decide +kernel
theorem dX5_sheetsOf_38 : decode cX5_sheetsOf 38 = .ok (.iload_n 3, 1) := by decide +kernel
theorem dX5_sheetsOf_39 : decode cX5_sheetsOf 39 = .ok (.ishl, 1) := by decide +kernel
theorem dX5_sheetsOf_40 : decode cX5_sheetsOf 40 = .ok (.goto 4, 3) := by decide +kernel
theorem dX5_sheetsOf_43 : decode cX5_sheetsOf 43 = .ok (.iconst 0, 1) := by decide +kernel
theorem dX5_sheetsOf_44 : decode cX5_sheetsOf 44 = .ok (.ior, 1) := by decide +kernel
theorem dX5_sheetsOf_45 : decode cX5_sheetsOf 45 = .ok (.istore_n 2, 1) := by decide +kernel
theorem dX5_sheetsOf_46 : decode cX5_sheetsOf 46 = .ok (.iinc 3 1, 3) := by decide +kernel
theorem dX5_sheetsOf_49 : decode cX5_sheetsOf 49 = .ok (.goto (-31), 3) := by decide +kernel
theorem dX5_sheetsOf_52 : decode cX5_sheetsOf 52 = .ok (.iload_n 2, 1) := by decide +kernel
theorem dX5_sheetsOf_53 : decode cX5_sheetsOf 53 = .ok (.ireturn, 1) := by decide +kernel
theorem dX5_isLower_0 : decode cX5_isLower 0 = .ok (.aload_n 0, 1) := by decide +kernel
theorem dX5_isLower_1 : decode cX5_isLower 1 = .ok (.getfield 59, 3) := by decide +kernel
theorem dX5_isLower_4 : decode cX5_isLower 4 = .ok (.iload_n 1, 1) := by decide +kernel
theorem dX5_isLower_5 : decode cX5_isLower 5 = .ok (.iaload, 1) := by decide +kernel
theorem dX5_isLower_6 : decode cX5_isLower 6 = .ok (.ifCond .lt 46, 3) := by decide +kernel
theorem dX5_isLower_9 : decode cX5_isLower 9 = .ok (.aload_n 0, 1) := by decide +kernel
theorem dX5_isLower_10 : decode cX5_isLower 10 = .ok (.getfield 59, 3) := by decide +kernel
theorem dX5_isLower_13 : decode cX5_isLower 13 = .ok (.iload_n 1, 1) := by decide +kernel
theorem dX5_isLower_14 : decode cX5_isLower 14 = .ok (.iaload, 1) := by decide +kernel
theorem dX5_isLower_15 : decode cX5_isLower 15 = .ok (.aload_n 0, 1) := by decide +kernel
theorem dX5_isLower_16 : decode cX5_isLower 16 = .ok (.getfield 59, 3) := by decide +kernel
theorem dX5_isLower_19 : decode cX5_isLower 19 = .ok (.iload_n 2, 1) := by decide +kernel
theorem dX5_isLower_20 : decode cX5_isLower 20 = .ok (.iaload, 1) := by decide +kernel
theorem dX5_isLower_21 : decode cX5_isLower 21 = .ok (.if_icmp .ne 31, 3) := by decide +kernel
theorem dX5_isLower_24 : decode cX5_isLower 24 = .ok (.aload_n 0, 1) := by decide +kernel
theorem dX5_isLower_25 : decode cX5_isLower 25 = .ok (.getfield 62, 3) := by decide +kernel
theorem dX5_isLower_28 : decode cX5_isLower 28 = .ok (.iload_n 1, 1) := by decide +kernel
theorem dX5_isLower_29 : decode cX5_isLower 29 = .ok (.iaload, 1) := by decide +kernel
theorem dX5_isLower_30 : decode cX5_isLower 30 = .ok (.ifCond .lt 22, 3) := by decide +kernel
theorem dX5_isLower_33 : decode cX5_isLower 33 = .ok (.aload_n 0, 1) := by decide +kernel
theorem dX5_isLower_34 : decode cX5_isLower 34 = .ok (.getfield 62, 3) := by decide +kernel
theorem dX5_isLower_37 : decode cX5_isLower 37 = .ok (.iload_n 1, 1) := by decide +kernel
theorem dX5_isLower_38 : decode cX5_isLower 38 = .ok (.iaload, 1) := by decide +kernel
theorem dX5_isLower_39 : decode cX5_isLower 39 = .ok (.aload_n 0, 1) := by decide +kernel
theorem dX5_isLower_40 : decode cX5_isLower 40 = .ok (.getfield 62, 3) := by decide +kernel
theorem dX5_isLower_43 : decode cX5_isLower 43 = .ok (.iload_n 2, 1) := by decide +kernel
theorem dX5_isLower_44 : decode cX5_isLower 44 = .ok (.iaload, 1) := by decide +kernel
theorem dX5_isLower_45 : decode cX5_isLower 45 = .ok (.if_icmp .ge 7, 3) := by decide +kernel
theorem dX5_isLower_48 : decode cX5_isLower 48 = .ok (.iconst 1, 1) := by decide +kernel
theorem dX5_isLower_49 : decode cX5_isLower 49 = .ok (.goto 4, 3) := by decide +kernel
theorem dX5_isLower_52 : decode cX5_isLower 52 = .ok (.iconst 0, 1) := by decide +kernel
theorem dX5_isLower_53 : decode cX5_isLower 53 = .ok (.ireturn, 1) := by decide +kernel
theorem dX5_earliestOf_0 : decode cX5_earliestOf 0 = .ok (.aload_n 0, 1) := by decide +kernel
theorem dX5_earliestOf_1 : decode cX5_earliestOf 1 = .ok (.getfield 53, 3) := by decide +kernel
theorem dX5_earliestOf_4 : decode cX5_earliestOf 4 = .ok (.iload_n 1, 1) := by decide +kernel
theorem dX5_earliestOf_5 : decode cX5_earliestOf 5 = .ok (.iaload, 1) := by decide +kernel
theorem dX5_earliestOf_6 : decode cX5_earliestOf 6 = .ok (.istore_n 2, 1) := by decide +kernel
theorem dX5_earliestOf_7 : decode cX5_earliestOf 7 = .ok (.iconst 0, 1) := by decide +kernel
theorem dX5_earliestOf_8 : decode cX5_earliestOf 8 = .ok (.istore_n 3, 1) := by decide +kernel
theorem dX5_earliestOf_9 : decode cX5_earliestOf 9 = .ok (.iload_n 3, 1) := by decide +kernel
theorem dX5_earliestOf_10 : decode cX5_earliestOf 10 = .ok (.aload_n 0, 1) := by decide +kernel
theorem dX5_earliestOf_11 : decode cX5_earliestOf 11 = .ok (.getfield 99, 3) := by decide +kernel
theorem dX5_earliestOf_14 : decode cX5_earliestOf 14 = .ok (.if_icmp .ge 39, 3) := by decide +kernel
theorem dX5_earliestOf_17 : decode cX5_earliestOf 17 = .ok (.aload_n 0, 1) := by decide +kernel
theorem dX5_earliestOf_18 : decode cX5_earliestOf 18 = .ok (.iload_n 3, 1) := by decide +kernel
theorem dX5_earliestOf_19 : decode cX5_earliestOf 19 = .ok (.iload_n 1, 1) := by decide +kernel
theorem dX5_earliestOf_20 : decode cX5_earliestOf 20 = .ok (.invokevirtual 149, 3) := by decide +kernel
theorem dX5_earliestOf_23 : decode cX5_earliestOf 23 = .ok (.ifCond .eq 22, 3) := by decide +kernel
theorem dX5_earliestOf_26 : decode cX5_earliestOf 26 = .ok (.aload_n 0, 1) := by decide +kernel
theorem dX5_earliestOf_27 : decode cX5_earliestOf 27 = .ok (.getfield 53, 3) := by decide +kernel
theorem dX5_earliestOf_30 : decode cX5_earliestOf 30 = .ok (.iload_n 3, 1) := by decide +kernel
theorem dX5_earliestOf_31 : decode cX5_earliestOf 31 = .ok (.iaload, 1) := by decide +kernel
theorem dX5_earliestOf_32 : decode cX5_earliestOf 32 = .ok (.iload_n 2, 1) := by decide +kernel
theorem dX5_earliestOf_33 : decode cX5_earliestOf 33 = .ok (.if_icmp .le 12, 3) := by decide +kernel
theorem dX5_earliestOf_36 : decode cX5_earliestOf 36 = .ok (.aload_n 0, 1) := by decide +kernel
theorem dX5_earliestOf_37 : decode cX5_earliestOf 37 = .ok (.getfield 53, 3) := by decide +kernel
theorem dX5_earliestOf_40 : decode cX5_earliestOf 40 = .ok (.iload_n 3, 1) := by decide +kernel
theorem dX5_earliestOf_41 : decode cX5_earliestOf 41 = .ok (.iaload, 1) := by decide +kernel
theorem dX5_earliestOf_42 : decode cX5_earliestOf 42 = .ok (.goto 4, 3) := by decide +kernel
theorem dX5_earliestOf_45 : decode cX5_earliestOf 45 = .ok (.iload_n 2, 1) := by decide +kernel
theorem dX5_earliestOf_46 : decode cX5_earliestOf 46 = .ok (.istore_n 2, 1) := by decide +kernel
theorem dX5_earliestOf_47 : decode cX5_earliestOf 47 = .ok (.iinc 3 1, 3) := by decide +kernel
theorem dX5_earliestOf_50 : decode cX5_earliestOf 50 = .ok (.goto (-41), 3) := by decide +kernel
theorem dX5_earliestOf_53 : decode cX5_earliestOf 53 = .ok (.iload_n 2, 1) := by decide +kernel
theorem dX5_earliestOf_54 : decode cX5_earliestOf 54 = .ok (.ireturn, 1) := by decide +kernel
theorem dX5_earliest_0 : decode cX5_earliest 0 = .ok (.aload_n 0, 1) := by decide +kernel
theorem dX5_earliest_1 : decode cX5_earliest 1 = .ok (.iload_n 1, 1) := by decide +kernel
theorem dX5_earliest_2 : decode cX5_earliest 2 = .ok (.invokevirtual 102, 3) := by decide +kernel
theorem dX5_earliest_5 : decode cX5_earliest 5 = .ok (.ifCond .eq 6, 3) := by decide +kernel
theorem dX5_earliest_8 : decode cX5_earliest 8 = .ok (.bipush (-2), 2) := by decide +kernel
theorem dX5_earliest_10 : decode cX5_earliest 10 = .ok (.ireturn, 1) := by decide +kernel
theorem dX5_earliest_11 : decode cX5_earliest 11 = .ok (.aload_n 0, 1) := by decide +kernel
theorem dX5_earliest_12 : decode cX5_earliest 12 = .ok (.invokevirtual 146, 3) := by decide +kernel
theorem dX5_earliest_15 : decode cX5_earliest 15 = .ok (.aload_n 0, 1) := by decide +kernel
theorem dX5_earliest_16 : decode cX5_earliest 16 = .ok (.iload_n 1, 1) := by decide +kernel
theorem dX5_earliest_17 : decode cX5_earliest 17 = .ok (.invokevirtual 153, 3) := by decide +kernel
theorem dX5_earliest_20 : decode cX5_earliest 20 = .ok (.ireturn, 1) := by decide +kernel
theorem dX5_latest_0 : decode cX5_latest 0 = .ok (.aload_n 0, 1) := by decide +kernel
theorem dX5_latest_1 : decode cX5_latest 1 = .ok (.iload_n 1, 1) := by decide +kernel
theorem dX5_latest_2 : decode cX5_latest 2 = .ok (.invokevirtual 102, 3) := by decide +kernel
theorem dX5_latest_5 : decode cX5_latest 5 = .ok (.ifCond .eq 6, 3) := by decide +kernel
theorem dX5_latest_8 : decode cX5_latest 8 = .ok (.bipush (-2), 2) := by decide +kernel
theorem dX5_latest_10 : decode cX5_latest 10 = .ok (.ireturn, 1) := by decide +kernel
theorem dX5_latest_11 : decode cX5_latest 11 = .ok (.aload_n 0, 1) := by decide +kernel
theorem dX5_latest_12 : decode cX5_latest 12 = .ok (.invokevirtual 146, 3) := by decide +kernel
theorem dX5_latest_15 : decode cX5_latest 15 = .ok (.aload_n 0, 1) := by decide +kernel
theorem dX5_latest_16 : decode cX5_latest 16 = .ok (.getfield 56, 3) := by decide +kernel
theorem dX5_latest_19 : decode cX5_latest 19 = .ok (.iload_n 1, 1) := by decide +kernel
theorem dX5_latest_20 : decode cX5_latest 20 = .ok (.iaload, 1) := by decide +kernel
theorem dX5_latest_21 : decode cX5_latest 21 = .ok (.istore_n 2, 1) := by decide +kernel
theorem dX5_latest_22 : decode cX5_latest 22 = .ok (.iconst 0, 1) := by decide +kernel
theorem dX5_latest_23 : decode cX5_latest 23 = .ok (.istore_n 3, 1) := by decide +kernel
theorem dX5_latest_24 : decode cX5_latest 24 = .ok (.iload_n 3, 1) := by decide +kernel
theorem dX5_latest_25 : decode cX5_latest 25 = .ok (.aload_n 0, 1) := by decide +kernel
theorem dX5_latest_26 : decode cX5_latest 26 = .ok (.getfield 99, 3) := by decide +kernel
theorem dX5_latest_29 : decode cX5_latest 29 = .ok (.if_icmp .ge 39, 3) := by decide +kernel
theorem dX5_latest_32 : decode cX5_latest 32 = .ok (.aload_n 0, 1) := by decide +kernel
theorem dX5_latest_33 : decode cX5_latest 33 = .ok (.iload_n 1, 1) := by decide +kernel
theorem dX5_latest_34 : decode cX5_latest 34 = .ok (.iload_n 3, 1) := by decide +kernel
theorem dX5_latest_35 : decode cX5_latest 35 = .ok (.invokevirtual 149, 3) := by decide +kernel
theorem dX5_latest_38 : decode cX5_latest 38 = .ok (.ifCond .eq 22, 3) := by decide +kernel
theorem dX5_latest_41 : decode cX5_latest 41 = .ok (.aload_n 0, 1) := by decide +kernel
theorem dX5_latest_42 : decode cX5_latest 42 = .ok (.getfield 56, 3) := by decide +kernel
theorem dX5_latest_45 : decode cX5_latest 45 = .ok (.iload_n 3, 1) := by decide +kernel
theorem dX5_latest_46 : decode cX5_latest 46 = .ok (.iaload, 1) := by decide +kernel
theorem dX5_latest_47 : decode cX5_latest 47 = .ok (.iload_n 2, 1) := by decide +kernel
theorem dX5_latest_48 : decode cX5_latest 48 = .ok (.if_icmp .ge 12, 3) := by decide +kernel
theorem dX5_latest_51 : decode cX5_latest 51 = .ok (.aload_n 0, 1) := by decide +kernel
theorem dX5_latest_52 : decode cX5_latest 52 = .ok (.getfield 56, 3) := by decide +kernel
theorem dX5_latest_55 : decode cX5_latest 55 = .ok (.iload_n 3, 1) := by decide +kernel
theorem dX5_latest_56 : decode cX5_latest 56 = .ok (.iaload, 1) := by decide +kernel
theorem dX5_latest_57 : decode cX5_latest 57 = .ok (.goto 4, 3) := by decide +kernel
theorem dX5_latest_60 : decode cX5_latest 60 = .ok (.iload_n 2, 1) := by decide +kernel
theorem dX5_latest_61 : decode cX5_latest 61 = .ok (.istore_n 2, 1) := by decide +kernel
theorem dX5_latest_62 : decode cX5_latest 62 = .ok (.iinc 3 1, 3) := by decide +kernel
theorem dX5_latest_65 : decode cX5_latest 65 = .ok (.goto (-41), 3) := by decide +kernel
theorem dX5_latest_68 : decode cX5_latest 68 = .ok (.iload_n 2, 1) := by decide +kernel
theorem dX5_latest_69 : decode cX5_latest 69 = .ok (.ireturn, 1) := by decide +kernel
theorem dX5_isAhead_0 : decode cX5_isAhead 0 = .ok (.aload_n 0, 1) := by decide +kernel
theorem dX5_isAhead_1 : decode cX5_isAhead 1 = .ok (.getfield 62, 3) := by decide +kernel
theorem dX5_isAhead_4 : decode cX5_isAhead 4 = .ok (.iload_n 1, 1) := by decide +kernel
theorem dX5_isAhead_5 : decode cX5_isAhead 5 = .ok (.iaload, 1) := by decide +kernel
theorem dX5_isAhead_6 : decode cX5_isAhead 6 = .ok (.aload_n 0, 1) := by decide +kernel
theorem dX5_isAhead_7 : decode cX5_isAhead 7 = .ok (.getfield 62, 3) := by decide +kernel
theorem dX5_isAhead_10 : decode cX5_isAhead 10 = .ok (.iload_n 2, 1) := by decide +kernel
theorem dX5_isAhead_11 : decode cX5_isAhead 11 = .ok (.iaload, 1) := by decide +kernel
theorem dX5_isAhead_12 : decode cX5_isAhead 12 = .ok (.if_icmp .eq 24, 3) := by decide +kernel
theorem dX5_isAhead_15 : decode cX5_isAhead 15 = .ok (.aload_n 0, 1) := by decide +kernel
theorem dX5_isAhead_16 : decode cX5_isAhead 16 = .ok (.getfield 62, 3) := by decide +kernel
theorem dX5_isAhead_19 : decode cX5_isAhead 19 = .ok (.iload_n 1, 1) := by decide +kernel
theorem dX5_isAhead_20 : decode cX5_isAhead 20 = .ok (.iaload, 1) := by decide +kernel
theorem dX5_isAhead_21 : decode cX5_isAhead 21 = .ok (.aload_n 0, 1) := by decide +kernel
theorem dX5_isAhead_22 : decode cX5_isAhead 22 = .ok (.getfield 62, 3) := by decide +kernel
theorem dX5_isAhead_25 : decode cX5_isAhead 25 = .ok (.iload_n 2, 1) := by decide +kernel
theorem dX5_isAhead_26 : decode cX5_isAhead 26 = .ok (.iaload, 1) := by decide +kernel
theorem dX5_isAhead_27 : decode cX5_isAhead 27 = .ok (.if_icmp .ge 7, 3) := by decide +kernel
theorem dX5_isAhead_30 : decode cX5_isAhead 30 = .ok (.iconst 1, 1) := by decide +kernel
theorem dX5_isAhead_31 : decode cX5_isAhead 31 = .ok (.goto 4, 3) := by decide +kernel
theorem dX5_isAhead_34 : decode cX5_isAhead 34 = .ok (.iconst 0, 1) := by decide +kernel
theorem dX5_isAhead_35 : decode cX5_isAhead 35 = .ok (.ireturn, 1) := by decide +kernel
theorem dX5_isAhead_36 : decode cX5_isAhead 36 = .ok (.aload_n 0, 1) := by decide +kernel
theorem dX5_isAhead_37 : decode cX5_isAhead 37 = .ok (.iload_n 1, 1) := by decide +kernel
theorem dX5_isAhead_38 : decode cX5_isAhead 38 = .ok (.invokevirtual 153, 3) := by decide +kernel
theorem dX5_isAhead_41 : decode cX5_isAhead 41 = .ok (.istore_n 3, 1) := by decide +kernel
theorem dX5_isAhead_42 : decode cX5_isAhead 42 = .ok (.aload_n 0, 1) := by decide +kernel
theorem dX5_isAhead_43 : decode cX5_isAhead 43 = .ok (.iload_n 2, 1) := by decide +kernel
theorem dX5_isAhead_44 : decode cX5_isAhead 44 = .ok (.invokevirtual 153, 3) := by decide +kernel
theorem dX5_isAhead_47 : decode cX5_isAhead 47 = .ok (.istore 4, 2) := by decide +kernel
theorem dX5_isAhead_49 : decode cX5_isAhead 49 = .ok (.iload_n 3, 1) := by decide +kernel
theorem dX5_isAhead_50 : decode cX5_isAhead 50 = .ok (.iload 4, 2) := by decide +kernel
theorem dX5_isAhead_52 : decode cX5_isAhead 52 = .ok (.if_icmp .eq 17, 3) := by decide +kernel
theorem dX5_isAhead_55 : decode cX5_isAhead 55 = .ok (.iload_n 3, 1) := by decide +kernel
theorem dX5_isAhead_56 : decode cX5_isAhead 56 = .ok (.iload 4, 2) := by decide +kernel
theorem dX5_isAhead_58 : decode cX5_isAhead 58 = .ok (.if_icmp .ge 7, 3) := by decide +kernel
theorem dX5_isAhead_61 : decode cX5_isAhead 61 = .ok (.iconst 1, 1) := by decide +kernel
theorem dX5_isAhead_62 : decode cX5_isAhead 62 = .ok (.goto 17, 3) := by decide +kernel
theorem dX5_isAhead_65 : decode cX5_isAhead 65 = .ok (.iconst 0, 1) := by decide +kernel
theorem dX5_isAhead_66 : decode cX5_isAhead 66 = .ok (.goto 13, 3) := by decide +kernel
theorem dX5_isAhead_69 : decode cX5_isAhead 69 = .ok (.iload_n 1, 1) := by decide +kernel
theorem dX5_isAhead_70 : decode cX5_isAhead 70 = .ok (.iload_n 2, 1) := by decide +kernel
theorem dX5_isAhead_71 : decode cX5_isAhead 71 = .ok (.if_icmp .ge 7, 3) := by decide +kernel
theorem dX5_isAhead_74 : decode cX5_isAhead 74 = .ok (.iconst 1, 1) := by decide +kernel
theorem dX5_isAhead_75 : decode cX5_isAhead 75 = .ok (.goto 4, 3) := by decide +kernel
theorem dX5_isAhead_78 : decode cX5_isAhead 78 = .ok (.iconst 0, 1) := by decide +kernel
theorem dX5_isAhead_79 : decode cX5_isAhead 79 = .ok (.ireturn, 1) := by decide +kernel
theorem dX5_isPlaced_0 : decode cX5_isPlaced 0 = .ok (.aload_n 0, 1) := by decide +kernel
theorem dX5_isPlaced_1 : decode cX5_isPlaced 1 = .ok (.getfield 59, 3) := by decide +kernel
theorem dX5_isPlaced_4 : decode cX5_isPlaced 4 = .ok (.iload_n 1, 1) := by decide +kernel
theorem dX5_isPlaced_5 : decode cX5_isPlaced 5 = .ok (.iaload, 1) := by decide +kernel
theorem dX5_isPlaced_6 : decode cX5_isPlaced 6 = .ok (.iload_n 2, 1) := by decide +kernel
theorem dX5_isPlaced_7 : decode cX5_isPlaced 7 = .ok (.if_icmp .ne 16, 3) := by decide +kernel
theorem dX5_isPlaced_10 : decode cX5_isPlaced 10 = .ok (.aload_n 0, 1) := by decide +kernel
theorem dX5_isPlaced_11 : decode cX5_isPlaced 11 = .ok (.getfield 62, 3) := by decide +kernel
theorem dX5_isPlaced_14 : decode cX5_isPlaced 14 = .ok (.iload_n 1, 1) := by decide +kernel
theorem dX5_isPlaced_15 : decode cX5_isPlaced 15 = .ok (.iaload, 1) := by decide +kernel
theorem dX5_isPlaced_16 : decode cX5_isPlaced 16 = .ok (.ifCond .lt 7, 3) := by decide +kernel
theorem dX5_isPlaced_19 : decode cX5_isPlaced 19 = .ok (.iconst 1, 1) := by decide +kernel
theorem dX5_isPlaced_20 : decode cX5_isPlaced 20 = .ok (.goto 4, 3) := by decide +kernel
theorem dX5_isPlaced_23 : decode cX5_isPlaced 23 = .ok (.iconst 0, 1) := by decide +kernel
theorem dX5_isPlaced_24 : decode cX5_isPlaced 24 = .ok (.ireturn, 1) := by decide +kernel
theorem dX5_sheetAt_0 : decode cX5_sheetAt 0 = .ok (.aload_n 0, 1) := by decide +kernel
theorem dX5_sheetAt_1 : decode cX5_sheetAt 1 = .ok (.iload_n 1, 1) := by decide +kernel
theorem dX5_sheetAt_2 : decode cX5_sheetAt 2 = .ok (.invokevirtual 85, 3) := by decide +kernel
theorem dX5_sheetAt_5 : decode cX5_sheetAt 5 = .ok (.ifCond .eq 5, 3) := by decide +kernel
theorem dX5_sheetAt_8 : decode cX5_sheetAt 8 = .ok (.iconst (-1), 1) := by decide +kernel
theorem dX5_sheetAt_9 : decode cX5_sheetAt 9 = .ok (.ireturn, 1) := by decide +kernel
theorem dX5_sheetAt_10 : decode cX5_sheetAt 10 = .ok (.iload_n 2, 1) := by decide +kernel
theorem dX5_sheetAt_11 : decode cX5_sheetAt 11 = .ok (.ifCond .ge 6, 3) := by decide +kernel
theorem dX5_sheetAt_14 : decode cX5_sheetAt 14 = .ok (.bipush (-3), 2) := by decide +kernel
theorem dX5_sheetAt_16 : decode cX5_sheetAt 16 = .ok (.ireturn, 1) := by decide +kernel
theorem dX5_sheetAt_17 : decode cX5_sheetAt 17 = .ok (.aload_n 0, 1) := by decide +kernel
theorem dX5_sheetAt_18 : decode cX5_sheetAt 18 = .ok (.invokevirtual 146, 3) := by decide +kernel
theorem dX5_sheetAt_21 : decode cX5_sheetAt 21 = .ok (.iconst 0, 1) := by decide +kernel
theorem dX5_sheetAt_22 : decode cX5_sheetAt 22 = .ok (.istore_n 3, 1) := by decide +kernel
theorem dX5_sheetAt_23 : decode cX5_sheetAt 23 = .ok (.iload_n 3, 1) := by decide +kernel
theorem dX5_sheetAt_24 : decode cX5_sheetAt 24 = .ok (.aload_n 0, 1) := by decide +kernel
theorem dX5_sheetAt_25 : decode cX5_sheetAt 25 = .ok (.getfield 99, 3) := by decide +kernel
theorem dX5_sheetAt_28 : decode cX5_sheetAt 28 = .ok (.if_icmp .ge 92, 3) := by decide +kernel
theorem dX5_sheetAt_31 : decode cX5_sheetAt 31 = .ok (.iconst 0, 1) := by decide +kernel
theorem dX5_sheetAt_32 : decode cX5_sheetAt 32 = .ok (.istore 4, 2) := by decide +kernel
theorem dX5_sheetAt_34 : decode cX5_sheetAt 34 = .ok (.iconst 0, 1) := by decide +kernel
theorem dX5_sheetAt_35 : decode cX5_sheetAt 35 = .ok (.istore 5, 2) := by decide +kernel
theorem dX5_sheetAt_37 : decode cX5_sheetAt 37 = .ok (.iload 5, 2) := by decide +kernel
theorem dX5_sheetAt_39 : decode cX5_sheetAt 39 = .ok (.aload_n 0, 1) := by decide +kernel
theorem dX5_sheetAt_40 : decode cX5_sheetAt 40 = .ok (.getfield 99, 3) := by decide +kernel
theorem dX5_sheetAt_43 : decode cX5_sheetAt 43 = .ok (.if_icmp .ge 54, 3) := by decide +kernel
theorem dX5_sheetAt_46 : decode cX5_sheetAt 46 = .ok (.iload 4, 2) := by decide +kernel
theorem dX5_sheetAt_48 : decode cX5_sheetAt 48 = .ok (.aload_n 0, 1) := by decide +kernel
theorem dX5_sheetAt_49 : decode cX5_sheetAt 49 = .ok (.iload_n 3, 1) := by decide +kernel
theorem dX5_sheetAt_50 : decode cX5_sheetAt 50 = .ok (.iload_n 1, 1) := by decide +kernel
theorem dX5_sheetAt_51 : decode cX5_sheetAt 51 = .ok (.invokevirtual 157, 3) := by decide +kernel
theorem dX5_sheetAt_54 : decode cX5_sheetAt 54 = .ok (.ifCond .eq 33, 3) := by decide +kernel
theorem dX5_sheetAt_57 : decode cX5_sheetAt 57 = .ok (.aload_n 0, 1) := by decide +kernel
theorem dX5_sheetAt_58 : decode cX5_sheetAt 58 = .ok (.iload 5, 2) := by decide +kernel
theorem dX5_sheetAt_60 : decode cX5_sheetAt 60 = .ok (.iload_n 1, 1) := by decide +kernel
theorem dX5_sheetAt_61 : decode cX5_sheetAt 61 = .ok (.invokevirtual 157, 3) := by decide +kernel
theorem dX5_sheetAt_64 : decode cX5_sheetAt 64 = .ok (.ifCond .eq 23, 3) := by decide +kernel
theorem dX5_sheetAt_67 : decode cX5_sheetAt 67 = .ok (.iload 5, 2) := by decide +kernel
theorem dX5_sheetAt_69 : decode cX5_sheetAt 69 = .ok (.iload_n 3, 1) := by decide +kernel
theorem dX5_sheetAt_70 : decode cX5_sheetAt 70 = .ok (.if_icmp .eq 17, 3) := by decide +kernel
theorem dX5_sheetAt_73 : decode cX5_sheetAt 73 = .ok (.aload_n 0, 1) := by decide +kernel
theorem dX5_sheetAt_74 : decode cX5_sheetAt 74 = .ok (.iload 5, 2) := by decide +kernel
theorem dX5_sheetAt_76 : decode cX5_sheetAt 76 = .ok (.iload_n 3, 1) := by decide +kernel
theorem dX5_sheetAt_77 : decode cX5_sheetAt 77 = .ok (.invokevirtual 160, 3) := by decide +kernel
theorem dX5_sheetAt_80 : decode cX5_sheetAt 80 = .ok (.ifCond .eq 7, 3) := by decide +kernel
theorem dX5_sheetAt_83 : decode cX5_sheetAt 83 = .ok (.iconst 1, 1) := by decide +kernel
theorem dX5_sheetAt_84 : decode cX5_sheetAt 84 = .ok (.goto 4, 3) := by decide +kernel
theorem dX5_sheetAt_87 : decode cX5_sheetAt 87 = .ok (.iconst 0, 1) := by decide +kernel
theorem dX5_sheetAt_88 : decode cX5_sheetAt 88 = .ok (.iadd, 1) := by decide +kernel
theorem dX5_sheetAt_89 : decode cX5_sheetAt 89 = .ok (.istore 4, 2) := by decide +kernel
theorem dX5_sheetAt_91 : decode cX5_sheetAt 91 = .ok (.iinc 5 1, 3) := by decide +kernel
theorem dX5_sheetAt_94 : decode cX5_sheetAt 94 = .ok (.goto (-57), 3) := by decide +kernel
theorem dX5_sheetAt_97 : decode cX5_sheetAt 97 = .ok (.aload_n 0, 1) := by decide +kernel
theorem dX5_sheetAt_98 : decode cX5_sheetAt 98 = .ok (.iload_n 3, 1) := by decide +kernel
theorem dX5_sheetAt_99 : decode cX5_sheetAt 99 = .ok (.iload_n 1, 1) := by decide +kernel
theorem dX5_sheetAt_100 : decode cX5_sheetAt 100 = .ok (.invokevirtual 157, 3) := by decide +kernel
theorem dX5_sheetAt_103 : decode cX5_sheetAt 103 = .ok (.ifCond .eq 11, 3) := by decide +kernel
theorem dX5_sheetAt_106 : decode cX5_sheetAt 106 = .ok (.iload 4, 2) := by decide +kernel
theorem dX5_sheetAt_108 : decode cX5_sheetAt 108 = .ok (.iload_n 2, 1) := by decide +kernel
theorem dX5_sheetAt_109 : decode cX5_sheetAt 109 = .ok (.if_icmp .ne 5, 3) := by decide +kernel
theorem dX5_sheetAt_112 : decode cX5_sheetAt 112 = .ok (.iload_n 3, 1) := by decide +kernel
theorem dX5_sheetAt_113 : decode cX5_sheetAt 113 = .ok (.ireturn, 1) := by decide +kernel
theorem dX5_sheetAt_114 : decode cX5_sheetAt 114 = .ok (.iinc 3 1, 3) := by decide +kernel
theorem dX5_sheetAt_117 : decode cX5_sheetAt 117 = .ok (.goto (-94), 3) := by decide +kernel
theorem dX5_sheetAt_120 : decode cX5_sheetAt 120 = .ok (.bipush (-6), 2) := by decide +kernel
theorem dX5_sheetAt_122 : decode cX5_sheetAt 122 = .ok (.ireturn, 1) := by decide +kernel
theorem dX5_contradictionCount_0 : decode cX5_contradictionCount 0 = .ok (.aload_n 0, 1) := by decide +kernel
theorem dX5_contradictionCount_1 : decode cX5_contradictionCount 1 = .ok (.iload_n 1, 1) := by decide +kernel
theorem dX5_contradictionCount_2 : decode cX5_contradictionCount 2 = .ok (.invokevirtual 85, 3) := by decide +kernel
theorem dX5_contradictionCount_5 : decode cX5_contradictionCount 5 = .ok (.ifCond .eq 5, 3) := by decide +kernel
theorem dX5_contradictionCount_8 : decode cX5_contradictionCount 8 = .ok (.iconst (-1), 1) := by decide +kernel
theorem dX5_contradictionCount_9 : decode cX5_contradictionCount 9 = .ok (.ireturn, 1) := by decide +kernel
theorem dX5_contradictionCount_10 : decode cX5_contradictionCount 10 = .ok (.aload_n 0, 1) := by decide +kernel
theorem dX5_contradictionCount_11 : decode cX5_contradictionCount 11 = .ok (.invokevirtual 146, 3) := by decide +kernel
theorem dX5_contradictionCount_14 : decode cX5_contradictionCount 14 = .ok (.iconst 0, 1) := by decide +kernel
theorem dX5_contradictionCount_15 : decode cX5_contradictionCount 15 = .ok (.istore_n 2, 1) := by decide +kernel
theorem dX5_contradictionCount_16 : decode cX5_contradictionCount 16 = .ok (.iconst 0, 1) := by decide +kernel
theorem dX5_contradictionCount_17 : decode cX5_contradictionCount 17 = .ok (.istore_n 3, 1) := by decide +kernel
theorem dX5_contradictionCount_18 : decode cX5_contradictionCount 18 = .ok (.iload_n 3, 1) := by decide +kernel
theorem dX5_contradictionCount_19 : decode cX5_contradictionCount 19 = .ok (.aload_n 0, 1) := by decide +kernel
theorem dX5_contradictionCount_20 : decode cX5_contradictionCount 20 = .ok (.getfield 99, 3) := by decide +kernel
theorem dX5_contradictionCount_23 : decode cX5_contradictionCount 23 = .ok (.if_icmp .ge 71, 3) := by decide +kernel
theorem dX5_contradictionCount_26 : decode cX5_contradictionCount 26 = .ok (.iconst 0, 1) := by decide +kernel
theorem dX5_contradictionCount_27 : decode cX5_contradictionCount 27 = .ok (.istore 4, 2) := by decide +kernel
theorem dX5_contradictionCount_29 : decode cX5_contradictionCount 29 = .ok (.iload 4, 2) := by decide +kernel
theorem dX5_contradictionCount_31 : decode cX5_contradictionCount 31 = .ok (.aload_n 0, 1) := by decide +kernel
theorem dX5_contradictionCount_32 : decode cX5_contradictionCount 32 = .ok (.getfield 99, 3) := by decide +kernel
theorem dX5_contradictionCount_35 : decode cX5_contradictionCount 35 = .ok (.if_icmp .ge 53, 3) := by decide +kernel
theorem dX5_contradictionCount_38 : decode cX5_contradictionCount 38 = .ok (.iload_n 2, 1) := by decide +kernel
theorem dX5_contradictionCount_39 : decode cX5_contradictionCount 39 = .ok (.aload_n 0, 1) := by decide +kernel
theorem dX5_contradictionCount_40 : decode cX5_contradictionCount 40 = .ok (.getfield 59, 3) := by decide +kernel
theorem dX5_contradictionCount_43 : decode cX5_contradictionCount 43 = .ok (.iload_n 3, 1) := by decide +kernel
theorem dX5_contradictionCount_44 : decode cX5_contradictionCount 44 = .ok (.iaload, 1) := by decide +kernel
theorem dX5_contradictionCount_45 : decode cX5_contradictionCount 45 = .ok (.iload_n 1, 1) := by decide +kernel
theorem dX5_contradictionCount_46 : decode cX5_contradictionCount 46 = .ok (.if_icmp .ne 33, 3) := by decide +kernel
theorem dX5_contradictionCount_49 : decode cX5_contradictionCount 49 = .ok (.aload_n 0, 1) := by decide +kernel
theorem dX5_contradictionCount_50 : decode cX5_contradictionCount 50 = .ok (.iload_n 3, 1) := by decide +kernel
theorem dX5_contradictionCount_51 : decode cX5_contradictionCount 51 = .ok (.iload 4, 2) := by decide +kernel
theorem dX5_contradictionCount_53 : decode cX5_contradictionCount 53 = .ok (.invokevirtual 149, 3) := by decide +kernel
theorem dX5_contradictionCount_56 : decode cX5_contradictionCount 56 = .ok (.ifCond .eq 23, 3) := by decide +kernel
theorem dX5_contradictionCount_59 : decode cX5_contradictionCount 59 = .ok (.aload_n 0, 1) := by decide +kernel
theorem dX5_contradictionCount_60 : decode cX5_contradictionCount 60 = .ok (.getfield 53, 3) := by decide +kernel
theorem dX5_contradictionCount_63 : decode cX5_contradictionCount 63 = .ok (.iload_n 3, 1) := by decide +kernel
theorem dX5_contradictionCount_64 : decode cX5_contradictionCount 64 = .ok (.iaload, 1) := by decide +kernel
theorem dX5_contradictionCount_65 : decode cX5_contradictionCount 65 = .ok (.aload_n 0, 1) := by decide +kernel
theorem dX5_contradictionCount_66 : decode cX5_contradictionCount 66 = .ok (.getfield 56, 3) := by decide +kernel
theorem dX5_contradictionCount_69 : decode cX5_contradictionCount 69 = .ok (.iload 4, 2) := by decide +kernel
theorem dX5_contradictionCount_71 : decode cX5_contradictionCount 71 = .ok (.iaload, 1) := by decide +kernel
theorem dX5_contradictionCount_72 : decode cX5_contradictionCount 72 = .ok (.if_icmp .le 7, 3) := by decide +kernel
theorem dX5_contradictionCount_75 : decode cX5_contradictionCount 75 = .ok (.iconst 1, 1) := by decide +kernel
theorem dX5_contradictionCount_76 : decode cX5_contradictionCount 76 = .ok (.goto 4, 3) := by decide +kernel
theorem dX5_contradictionCount_79 : decode cX5_contradictionCount 79 = .ok (.iconst 0, 1) := by decide +kernel
theorem dX5_contradictionCount_80 : decode cX5_contradictionCount 80 = .ok (.iadd, 1) := by decide +kernel
theorem dX5_contradictionCount_81 : decode cX5_contradictionCount 81 = .ok (.istore_n 2, 1) := by decide +kernel
theorem dX5_contradictionCount_82 : decode cX5_contradictionCount 82 = .ok (.iinc 4 1, 3) := by decide +kernel
theorem dX5_contradictionCount_85 : decode cX5_contradictionCount 85 = .ok (.goto (-56), 3) := by decide +kernel
theorem dX5_contradictionCount_88 : decode cX5_contradictionCount 88 = .ok (.iinc 3 1, 3) := by decide +kernel
theorem dX5_contradictionCount_91 : decode cX5_contradictionCount 91 = .ok (.goto (-73), 3) := by decide +kernel
theorem dX5_contradictionCount_94 : decode cX5_contradictionCount 94 = .ok (.iload_n 2, 1) := by decide +kernel
theorem dX5_contradictionCount_95 : decode cX5_contradictionCount 95 = .ok (.ireturn, 1) := by decide +kernel
end
section
theorem dL_law_0 : decode cL_law 0 = .ok (.new 7, 3) := by decide +kernel
theorem dL_law_3 : decode cL_law 3 = .ok (.dup, 1) := by decide +kernel
theorem dL_law_4 : decode cL_law 4 = .ok (.invokespecial 9, 3) := by decide +kernel
theorem dL_law_7 : decode cL_law 7 = .ok (.astore_n 1, 1) := by decide +kernel
theorem dL_law_8 : decode cL_law 8 = .ok (.new 10, 3) := by decide +kernel
theorem dL_law_11 : decode cL_law 11 = .ok (.dup, 1) := by decide +kernel
theorem dL_law_12 : decode cL_law 12 = .ok (.invokespecial 12, 3) := by decide +kernel
theorem dL_law_15 : decode cL_law 15 = .ok (.astore_n 2, 1) := by decide +kernel
theorem dL_law_16 : decode cL_law 16 = .ok (.iconst 0, 1) := by decide +kernel
theorem dL_law_17 : decode cL_law 17 = .ok (.istore_n 3, 1) := by decide +kernel
theorem dL_law_18 : decode cL_law 18 = .ok (.iload_n 3, 1) := by decide +kernel
theorem dL_law_19 : decode cL_law 19 = .ok (.aload_n 0, 1) := by decide +kernel
theorem dL_law_20 : decode cL_law 20 = .ok (.arraylength, 1) := by decide +kernel
theorem dL_law_21 : decode cL_law 21 = .ok (.iconst 4, 1) := by decide +kernel
theorem dL_law_22 : decode cL_law 22 = .ok (.isub, 1) := by decide +kernel
theorem dL_law_23 : decode cL_law 23 = .ok (.if_icmp .gt 748, 3) := by decide +kernel
theorem dL_law_26 : decode cL_law 26 = .ok (.aload_n 0, 1) := by decide +kernel
theorem dL_law_27 : decode cL_law 27 = .ok (.iload_n 3, 1) := by decide +kernel
theorem dL_law_28 : decode cL_law 28 = .ok (.iaload, 1) := by decide +kernel
theorem dL_law_29 : decode cL_law 29 = .ok (.bipush 31, 2) := by decide +kernel
theorem dL_law_31 : decode cL_law 31 = .ok (.iand, 1) := by decide +kernel
theorem dL_law_32 : decode cL_law 32 = .ok (.tableswitch 733 0 20 #[100, 113, 136, 169, 212, 255, 278, 301, 334, 367, 410, 453, 476, 509, 552, 575, 608, 631, 664, 687, 710], 100) := by decide +kernel
theorem dL_law_132 : decode cL_law 132 = .ok (.aload_n 1, 1) := by decide +kernel
theorem dL_law_133 : decode cL_law 133 = .ok (.invokevirtual 13, 3) := by decide +kernel
theorem dL_law_136 : decode cL_law 136 = .ok (.aload_n 2, 1) := by decide +kernel
theorem dL_law_137 : decode cL_law 137 = .ok (.invokevirtual 17, 3) := by decide +kernel
theorem dL_law_140 : decode cL_law 140 = .ok (.if_icmp .eq 625, 3) := by decide +kernel
theorem dL_law_143 : decode cL_law 143 = .ok (.iconst 0, 1) := by decide +kernel
theorem dL_law_144 : decode cL_law 144 = .ok (.ireturn, 1) := by decide +kernel
theorem dL_law_145 : decode cL_law 145 = .ok (.aload_n 1, 1) := by decide +kernel
theorem dL_law_146 : decode cL_law 146 = .ok (.aload_n 0, 1) := by decide +kernel
theorem dL_law_147 : decode cL_law 147 = .ok (.iload_n 3, 1) := by decide +kernel
theorem dL_law_148 : decode cL_law 148 = .ok (.iconst 1, 1) := by decide +kernel
theorem dL_law_149 : decode cL_law 149 = .ok (.iadd, 1) := by decide +kernel
theorem dL_law_150 : decode cL_law 150 = .ok (.iaload, 1) := by decide +kernel
theorem dL_law_151 : decode cL_law 151 = .ok (.invokevirtual 18, 3) := by decide +kernel
theorem dL_law_154 : decode cL_law 154 = .ok (.aload_n 2, 1) := by decide +kernel
theorem dL_law_155 : decode cL_law 155 = .ok (.aload_n 0, 1) := by decide +kernel
theorem dL_law_156 : decode cL_law 156 = .ok (.iload_n 3, 1) := by decide +kernel
theorem dL_law_157 : decode cL_law 157 = .ok (.iconst 1, 1) := by decide +kernel
theorem dL_law_158 : decode cL_law 158 = .ok (.iadd, 1) := by decide +kernel
theorem dL_law_159 : decode cL_law 159 = .ok (.iaload, 1) := by decide +kernel
theorem dL_law_160 : decode cL_law 160 = .ok (.invokevirtual 22, 3) := by decide +kernel
theorem dL_law_163 : decode cL_law 163 = .ok (.if_icmp .eq 602, 3) := by decide +kernel
theorem dL_law_166 : decode cL_law 166 = .ok (.iconst 0, 1) := by decide +kernel
theorem dL_law_167 : decode cL_law 167 = .ok (.ireturn, 1) := by decide +kernel
theorem dL_law_168 : decode cL_law 168 = .ok (.aload_n 1, 1) := by decide +kernel
theorem dL_law_169 : decode cL_law 169 = .ok (.aload_n 0, 1) := by decide +kernel
theorem dL_law_170 : decode cL_law 170 = .ok (.iload_n 3, 1) := by decide +kernel
theorem dL_law_171 : decode cL_law 171 = .ok (.iconst 1, 1) := by decide +kernel
theorem dL_law_172 : decode cL_law 172 = .ok (.iadd, 1) := by decide +kernel
theorem dL_law_173 : decode cL_law 173 = .ok (.iaload, 1) := by decide +kernel
theorem dL_law_174 : decode cL_law 174 = .ok (.aload_n 0, 1) := by decide +kernel
theorem dL_law_175 : decode cL_law 175 = .ok (.iload_n 3, 1) := by decide +kernel
theorem dL_law_176 : decode cL_law 176 = .ok (.iconst 2, 1) := by decide +kernel
theorem dL_law_177 : decode cL_law 177 = .ok (.iadd, 1) := by decide +kernel
theorem dL_law_178 : decode cL_law 178 = .ok (.iaload, 1) := by decide +kernel
theorem dL_law_179 : decode cL_law 179 = .ok (.invokevirtual 23, 3) := by decide +kernel
theorem dL_law_182 : decode cL_law 182 = .ok (.aload_n 2, 1) := by decide +kernel
theorem dL_law_183 : decode cL_law 183 = .ok (.aload_n 0, 1) := by decide +kernel
theorem dL_law_184 : decode cL_law 184 = .ok (.iload_n 3, 1) := by decide +kernel
theorem dL_law_185 : decode cL_law 185 = .ok (.iconst 1, 1) := by decide +kernel
theorem dL_law_186 : decode cL_law 186 = .ok (.iadd, 1) := by decide +kernel
theorem dL_law_187 : decode cL_law 187 = .ok (.iaload, 1) := by decide +kernel
theorem dL_law_188 : decode cL_law 188 = .ok (.aload_n 0, 1) := by decide +kernel
theorem dL_law_189 : decode cL_law 189 = .ok (.iload_n 3, 1) := by decide +kernel
theorem dL_law_190 : decode cL_law 190 = .ok (.iconst 2, 1) := by decide +kernel
theorem dL_law_191 : decode cL_law 191 = .ok (.iadd, 1) := by decide +kernel
theorem dL_law_192 : decode cL_law 192 = .ok (.iaload, 1) := by decide +kernel
theorem dL_law_193 : decode cL_law 193 = .ok (.invokevirtual 27, 3) := by decide +kernel
theorem dL_law_196 : decode cL_law 196 = .ok (.if_icmp .eq 569, 3) := by decide +kernel
theorem dL_law_199 : decode cL_law 199 = .ok (.iconst 0, 1) := by decide +kernel
theorem dL_law_200 : decode cL_law 200 = .ok (.ireturn, 1) := by decide +kernel
theorem dL_law_201 : decode cL_law 201 = .ok (.aload_n 1, 1) := by decide +kernel
theorem dL_law_202 : decode cL_law 202 = .ok (.aload_n 0, 1) := by decide +kernel
theorem dL_law_203 : decode cL_law 203 = .ok (.iload_n 3, 1) := by decide +kernel
theorem dL_law_204 : decode cL_law 204 = .ok (.iconst 1, 1) := by decide +kernel
theorem dL_law_205 : decode cL_law 205 = .ok (.iadd, 1) := by decide +kernel
theorem dL_law_206 : decode cL_law 206 = .ok (.iaload, 1) := by decide +kernel
theorem dL_law_207 : decode cL_law 207 = .ok (.aload_n 0, 1) := by decide +kernel
theorem dL_law_208 : decode cL_law 208 = .ok (.iload_n 3, 1) := by decide +kernel
theorem dL_law_209 : decode cL_law 209 = .ok (.iconst 2, 1) := by decide +kernel
theorem dL_law_210 : decode cL_law 210 = .ok (.iadd, 1) := by decide +kernel
theorem dL_law_211 : decode cL_law 211 = .ok (.iaload, 1) := by decide +kernel
theorem dL_law_212 : decode cL_law 212 = .ok (.aload_n 0, 1) := by decide +kernel
theorem dL_law_213 : decode cL_law 213 = .ok (.iload_n 3, 1) := by decide +kernel
theorem dL_law_214 : decode cL_law 214 = .ok (.iconst 3, 1) := by decide +kernel
theorem dL_law_215 : decode cL_law 215 = .ok (.iadd, 1) := by decide +kernel
theorem dL_law_216 : decode cL_law 216 = .ok (.iaload, 1) := by decide +kernel
theorem dL_law_217 : decode cL_law 217 = .ok (.invokevirtual 28, 3) := by decide +kernel
theorem dL_law_220 : decode cL_law 220 = .ok (.aload_n 2, 1) := by decide +kernel
theorem dL_law_221 : decode cL_law 221 = .ok (.aload_n 0, 1) := by decide +kernel
theorem dL_law_222 : decode cL_law 222 = .ok (.iload_n 3, 1) := by decide +kernel
theorem dL_law_223 : decode cL_law 223 = .ok (.iconst 1, 1) := by decide +kernel
theorem dL_law_224 : decode cL_law 224 = .ok (.iadd, 1) := by decide +kernel
theorem dL_law_225 : decode cL_law 225 = .ok (.iaload, 1) := by decide +kernel
theorem dL_law_226 : decode cL_law 226 = .ok (.aload_n 0, 1) := by decide +kernel
theorem dL_law_227 : decode cL_law 227 = .ok (.iload_n 3, 1) := by decide +kernel
theorem dL_law_228 : decode cL_law 228 = .ok (.iconst 2, 1) := by decide +kernel
theorem dL_law_229 : decode cL_law 229 = .ok (.iadd, 1) := by decide +kernel
theorem dL_law_230 : decode cL_law 230 = .ok (.iaload, 1) := by decide +kernel
theorem dL_law_231 : decode cL_law 231 = .ok (.aload_n 0, 1) := by decide +kernel
theorem dL_law_232 : decode cL_law 232 = .ok (.iload_n 3, 1) := by decide +kernel
theorem dL_law_233 : decode cL_law 233 = .ok (.iconst 3, 1) := by decide +kernel
theorem dL_law_234 : decode cL_law 234 = .ok (.iadd, 1) := by decide +kernel
theorem dL_law_235 : decode cL_law 235 = .ok (.iaload, 1) := by decide +kernel
theorem dL_law_236 : decode cL_law 236 = .ok (.invokevirtual 32, 3) := by decide +kernel
theorem dL_law_239 : decode cL_law 239 = .ok (.if_icmp .eq 526, 3) := by decide +kernel
theorem dL_law_242 : decode cL_law 242 = .ok (.iconst 0, 1) := by decide +kernel
theorem dL_law_243 : decode cL_law 243 = .ok (.ireturn, 1) := by decide +kernel
theorem dL_law_244 : decode cL_law 244 = .ok (.aload_n 1, 1) := by decide +kernel
theorem dL_law_245 : decode cL_law 245 = .ok (.aload_n 0, 1) := by decide +kernel
theorem dL_law_246 : decode cL_law 246 = .ok (.iload_n 3, 1) := by decide +kernel
theorem dL_law_247 : decode cL_law 247 = .ok (.iconst 1, 1) := by decide +kernel
theorem dL_law_248 : decode cL_law 248 = .ok (.iadd, 1) := by decide +kernel
theorem dL_law_249 : decode cL_law 249 = .ok (.iaload, 1) := by decide +kernel
theorem dL_law_250 : decode cL_law 250 = .ok (.aload_n 0, 1) := by decide +kernel
theorem dL_law_251 : decode cL_law 251 = .ok (.iload_n 3, 1) := by decide +kernel
theorem dL_law_252 : decode cL_law 252 = .ok (.iconst 2, 1) := by decide +kernel
theorem dL_law_253 : decode cL_law 253 = .ok (.iadd, 1) := by decide +kernel
theorem dL_law_254 : decode cL_law 254 = .ok (.iaload, 1) := by decide +kernel
theorem dL_law_255 : decode cL_law 255 = .ok (.aload_n 0, 1) := by decide +kernel
theorem dL_law_256 : decode cL_law 256 = .ok (.iload_n 3, 1) := by decide +kernel
theorem dL_law_257 : decode cL_law 257 = .ok (.iconst 3, 1) := by decide +kernel
theorem dL_law_258 : decode cL_law 258 = .ok (.iadd, 1) := by decide +kernel
theorem dL_law_259 : decode cL_law 259 = .ok (.iaload, 1) := by decide +kernel
theorem dL_law_260 : decode cL_law 260 = .ok (.invokevirtual 33, 3) := by decide +kernel
theorem dL_law_263 : decode cL_law 263 = .ok (.aload_n 2, 1) := by decide +kernel
theorem dL_law_264 : decode cL_law 264 = .ok (.aload_n 0, 1) := by decide +kernel
theorem dL_law_265 : decode cL_law 265 = .ok (.iload_n 3, 1) := by decide +kernel
theorem dL_law_266 : decode cL_law 266 = .ok (.iconst 1, 1) := by decide +kernel
theorem dL_law_267 : decode cL_law 267 = .ok (.iadd, 1) := by decide +kernel
theorem dL_law_268 : decode cL_law 268 = .ok (.iaload, 1) := by decide +kernel
theorem dL_law_269 : decode cL_law 269 = .ok (.aload_n 0, 1) := by decide +kernel
theorem dL_law_270 : decode cL_law 270 = .ok (.iload_n 3, 1) := by decide +kernel
theorem dL_law_271 : decode cL_law 271 = .ok (.iconst 2, 1) := by decide +kernel
theorem dL_law_272 : decode cL_law 272 = .ok (.iadd, 1) := by decide +kernel
theorem dL_law_273 : decode cL_law 273 = .ok (.iaload, 1) := by decide +kernel
theorem dL_law_274 : decode cL_law 274 = .ok (.aload_n 0, 1) := by decide +kernel
theorem dL_law_275 : decode cL_law 275 = .ok (.iload_n 3, 1) := by decide +kernel
theorem dL_law_276 : decode cL_law 276 = .ok (.iconst 3, 1) := by decide +kernel
theorem dL_law_277 : decode cL_law 277 = .ok (.iadd, 1) := by decide +kernel
theorem dL_law_278 : decode cL_law 278 = .ok (.iaload, 1) := by decide +kernel
theorem dL_law_279 : decode cL_law 279 = .ok (.invokevirtual 36, 3) := by decide +kernel
theorem dL_law_282 : decode cL_law 282 = .ok (.if_icmp .eq 483, 3) := by decide +kernel
theorem dL_law_285 : decode cL_law 285 = .ok (.iconst 0, 1) := by decide +kernel
theorem dL_law_286 : decode cL_law 286 = .ok (.ireturn, 1) := by decide +kernel
theorem dL_law_287 : decode cL_law 287 = .ok (.aload_n 1, 1) := by decide +kernel
theorem dL_law_288 : decode cL_law 288 = .ok (.aload_n 0, 1) := by decide +kernel
theorem dL_law_289 : decode cL_law 289 = .ok (.iload_n 3, 1) := by decide +kernel
theorem dL_law_290 : decode cL_law 290 = .ok (.iconst 1, 1) := by decide +kernel
theorem dL_law_291 : decode cL_law 291 = .ok (.iadd, 1) := by decide +kernel
theorem dL_law_292 : decode cL_law 292 = .ok (.iaload, 1) := by decide +kernel
theorem dL_law_293 : decode cL_law 293 = .ok (.invokevirtual 37, 3) := by decide +kernel
theorem dL_law_296 : decode cL_law 296 = .ok (.aload_n 2, 1) := by decide +kernel
theorem dL_law_297 : decode cL_law 297 = .ok (.aload_n 0, 1) := by decide +kernel
theorem dL_law_298 : decode cL_law 298 = .ok (.iload_n 3, 1) := by decide +kernel
theorem dL_law_299 : decode cL_law 299 = .ok (.iconst 1, 1) := by decide +kernel
theorem dL_law_300 : decode cL_law 300 = .ok (.iadd, 1) := by decide +kernel
theorem dL_law_301 : decode cL_law 301 = .ok (.iaload, 1) := by decide +kernel
theorem dL_law_302 : decode cL_law 302 = .ok (.invokevirtual 40, 3) := by decide +kernel
theorem dL_law_305 : decode cL_law 305 = .ok (.if_icmp .eq 460, 3) := by decide +kernel
theorem dL_law_308 : decode cL_law 308 = .ok (.iconst 0, 1) := by decide +kernel
theorem dL_law_309 : decode cL_law 309 = .ok (.ireturn, 1) := by decide +kernel
theorem dL_law_310 : decode cL_law 310 = .ok (.aload_n 1, 1) := by decide +kernel
theorem dL_law_311 : decode cL_law 311 = .ok (.aload_n 0, 1) := by decide +kernel
theorem dL_law_312 : decode cL_law 312 = .ok (.iload_n 3, 1) := by decide +kernel
theorem dL_law_313 : decode cL_law 313 = .ok (.iconst 1, 1) := by decide +kernel
theorem dL_law_314 : decode cL_law 314 = .ok (.iadd, 1) := by decide +kernel
theorem dL_law_315 : decode cL_law 315 = .ok (.iaload, 1) := by decide +kernel
theorem dL_law_316 : decode cL_law 316 = .ok (.invokevirtual 41, 3) := by decide +kernel
theorem dL_law_319 : decode cL_law 319 = .ok (.aload_n 2, 1) := by decide +kernel
theorem dL_law_320 : decode cL_law 320 = .ok (.aload_n 0, 1) := by decide +kernel
theorem dL_law_321 : decode cL_law 321 = .ok (.iload_n 3, 1) := by decide +kernel
theorem dL_law_322 : decode cL_law 322 = .ok (.iconst 1, 1) := by decide +kernel
theorem dL_law_323 : decode cL_law 323 = .ok (.iadd, 1) := by decide +kernel
theorem dL_law_324 : decode cL_law 324 = .ok (.iaload, 1) := by decide +kernel
theorem dL_law_325 : decode cL_law 325 = .ok (.invokevirtual 44, 3) := by decide +kernel
theorem dL_law_328 : decode cL_law 328 = .ok (.if_icmp .eq 437, 3) := by decide +kernel
theorem dL_law_331 : decode cL_law 331 = .ok (.iconst 0, 1) := by decide +kernel
theorem dL_law_332 : decode cL_law 332 = .ok (.ireturn, 1) := by decide +kernel
theorem dL_law_333 : decode cL_law 333 = .ok (.aload_n 1, 1) := by decide +kernel
theorem dL_law_334 : decode cL_law 334 = .ok (.aload_n 0, 1) := by decide +kernel
theorem dL_law_335 : decode cL_law 335 = .ok (.iload_n 3, 1) := by decide +kernel
theorem dL_law_336 : decode cL_law 336 = .ok (.iconst 1, 1) := by decide +kernel
theorem dL_law_337 : decode cL_law 337 = .ok (.iadd, 1) := by decide +kernel
theorem dL_law_338 : decode cL_law 338 = .ok (.iaload, 1) := by decide +kernel
theorem dL_law_339 : decode cL_law 339 = .ok (.aload_n 0, 1) := by decide +kernel
theorem dL_law_340 : decode cL_law 340 = .ok (.iload_n 3, 1) := by decide +kernel
theorem dL_law_341 : decode cL_law 341 = .ok (.iconst 2, 1) := by decide +kernel
theorem dL_law_342 : decode cL_law 342 = .ok (.iadd, 1) := by decide +kernel
theorem dL_law_343 : decode cL_law 343 = .ok (.iaload, 1) := by decide +kernel
theorem dL_law_344 : decode cL_law 344 = .ok (.invokevirtual 45, 3) := by decide +kernel
theorem dL_law_347 : decode cL_law 347 = .ok (.aload_n 2, 1) := by decide +kernel
theorem dL_law_348 : decode cL_law 348 = .ok (.aload_n 0, 1) := by decide +kernel
theorem dL_law_349 : decode cL_law 349 = .ok (.iload_n 3, 1) := by decide +kernel
theorem dL_law_350 : decode cL_law 350 = .ok (.iconst 1, 1) := by decide +kernel
theorem dL_law_351 : decode cL_law 351 = .ok (.iadd, 1) := by decide +kernel
theorem dL_law_352 : decode cL_law 352 = .ok (.iaload, 1) := by decide +kernel
theorem dL_law_353 : decode cL_law 353 = .ok (.aload_n 0, 1) := by decide +kernel
theorem dL_law_354 : decode cL_law 354 = .ok (.iload_n 3, 1) := by decide +kernel
theorem dL_law_355 : decode cL_law 355 = .ok (.iconst 2, 1) := by decide +kernel
theorem dL_law_356 : decode cL_law 356 = .ok (.iadd, 1) := by decide +kernel
theorem dL_law_357 : decode cL_law 357 = .ok (.iaload, 1) := by decide +kernel
theorem dL_law_358 : decode cL_law 358 = .ok (.invokevirtual 48, 3) := by decide +kernel
theorem dL_law_361 : decode cL_law 361 = .ok (.if_icmp .eq 404, 3) := by decide +kernel
theorem dL_law_364 : decode cL_law 364 = .ok (.iconst 0, 1) := by decide +kernel
theorem dL_law_365 : decode cL_law 365 = .ok (.ireturn, 1) := by decide +kernel
theorem dL_law_366 : decode cL_law 366 = .ok (.aload_n 1, 1) := by decide +kernel
theorem dL_law_367 : decode cL_law 367 = .ok (.aload_n 0, 1) := by decide +kernel
theorem dL_law_368 : decode cL_law 368 = .ok (.iload_n 3, 1) := by decide +kernel
theorem dL_law_369 : decode cL_law 369 = .ok (.iconst 1, 1) := by decide +kernel
theorem dL_law_370 : decode cL_law 370 = .ok (.iadd, 1) := by decide +kernel
theorem dL_law_371 : decode cL_law 371 = .ok (.iaload, 1) := by decide +kernel
theorem dL_law_372 : decode cL_law 372 = .ok (.aload_n 0, 1) := by decide +kernel
theorem dL_law_373 : decode cL_law 373 = .ok (.iload_n 3, 1) := by decide +kernel
theorem dL_law_374 : decode cL_law 374 = .ok (.iconst 2, 1) := by decide +kernel
theorem dL_law_375 : decode cL_law 375 = .ok (.iadd, 1) := by decide +kernel
theorem dL_law_376 : decode cL_law 376 = .ok (.iaload, 1) := by decide +kernel
theorem dL_law_377 : decode cL_law 377 = .ok (.invokevirtual 49, 3) := by decide +kernel
theorem dL_law_380 : decode cL_law 380 = .ok (.aload_n 2, 1) := by decide +kernel
theorem dL_law_381 : decode cL_law 381 = .ok (.aload_n 0, 1) := by decide +kernel
theorem dL_law_382 : decode cL_law 382 = .ok (.iload_n 3, 1) := by decide +kernel
theorem dL_law_383 : decode cL_law 383 = .ok (.iconst 1, 1) := by decide +kernel
theorem dL_law_384 : decode cL_law 384 = .ok (.iadd, 1) := by decide +kernel
theorem dL_law_385 : decode cL_law 385 = .ok (.iaload, 1) := by decide +kernel
theorem dL_law_386 : decode cL_law 386 = .ok (.aload_n 0, 1) := by decide +kernel
theorem dL_law_387 : decode cL_law 387 = .ok (.iload_n 3, 1) := by decide +kernel
theorem dL_law_388 : decode cL_law 388 = .ok (.iconst 2, 1) := by decide +kernel
theorem dL_law_389 : decode cL_law 389 = .ok (.iadd, 1) := by decide +kernel
theorem dL_law_390 : decode cL_law 390 = .ok (.iaload, 1) := by decide +kernel
theorem dL_law_391 : decode cL_law 391 = .ok (.invokevirtual 52, 3) := by decide +kernel
theorem dL_law_394 : decode cL_law 394 = .ok (.if_icmp .eq 371, 3) := by decide +kernel
theorem dL_law_397 : decode cL_law 397 = .ok (.iconst 0, 1) := by decide +kernel
theorem dL_law_398 : decode cL_law 398 = .ok (.ireturn, 1) := by decide +kernel
theorem dL_law_399 : decode cL_law 399 = .ok (.aload_n 1, 1) := by decide +kernel
theorem dL_law_400 : decode cL_law 400 = .ok (.aload_n 0, 1) := by decide +kernel
theorem dL_law_401 : decode cL_law 401 = .ok (.iload_n 3, 1) := by decide +kernel
theorem dL_law_402 : decode cL_law 402 = .ok (.iconst 1, 1) := by decide +kernel
theorem dL_law_403 : decode cL_law 403 = .ok (.iadd, 1) := by decide +kernel
theorem dL_law_404 : decode cL_law 404 = .ok (.iaload, 1) := by decide +kernel
theorem dL_law_405 : decode cL_law 405 = .ok (.aload_n 0, 1) := by decide +kernel
theorem dL_law_406 : decode cL_law 406 = .ok (.iload_n 3, 1) := by decide +kernel
theorem dL_law_407 : decode cL_law 407 = .ok (.iconst 2, 1) := by decide +kernel
theorem dL_law_408 : decode cL_law 408 = .ok (.iadd, 1) := by decide +kernel
theorem dL_law_409 : decode cL_law 409 = .ok (.iaload, 1) := by decide +kernel
theorem dL_law_410 : decode cL_law 410 = .ok (.aload_n 0, 1) := by decide +kernel
theorem dL_law_411 : decode cL_law 411 = .ok (.iload_n 3, 1) := by decide +kernel
theorem dL_law_412 : decode cL_law 412 = .ok (.iconst 3, 1) := by decide +kernel
theorem dL_law_413 : decode cL_law 413 = .ok (.iadd, 1) := by decide +kernel
theorem dL_law_414 : decode cL_law 414 = .ok (.iaload, 1) := by decide +kernel
theorem dL_law_415 : decode cL_law 415 = .ok (.invokevirtual 53, 3) := by decide +kernel
theorem dL_law_418 : decode cL_law 418 = .ok (.aload_n 2, 1) := by decide +kernel
theorem dL_law_419 : decode cL_law 419 = .ok (.aload_n 0, 1) := by decide +kernel
theorem dL_law_420 : decode cL_law 420 = .ok (.iload_n 3, 1) := by decide +kernel
theorem dL_law_421 : decode cL_law 421 = .ok (.iconst 1, 1) := by decide +kernel
theorem dL_law_422 : decode cL_law 422 = .ok (.iadd, 1) := by decide +kernel
theorem dL_law_423 : decode cL_law 423 = .ok (.iaload, 1) := by decide +kernel
theorem dL_law_424 : decode cL_law 424 = .ok (.aload_n 0, 1) := by decide +kernel
theorem dL_law_425 : decode cL_law 425 = .ok (.iload_n 3, 1) := by decide +kernel
theorem dL_law_426 : decode cL_law 426 = .ok (.iconst 2, 1) := by decide +kernel
theorem dL_law_427 : decode cL_law 427 = .ok (.iadd, 1) := by decide +kernel
theorem dL_law_428 : decode cL_law 428 = .ok (.iaload, 1) := by decide +kernel
theorem dL_law_429 : decode cL_law 429 = .ok (.aload_n 0, 1) := by decide +kernel
theorem dL_law_430 : decode cL_law 430 = .ok (.iload_n 3, 1) := by decide +kernel
theorem dL_law_431 : decode cL_law 431 = .ok (.iconst 3, 1) := by decide +kernel
theorem dL_law_432 : decode cL_law 432 = .ok (.iadd, 1) := by decide +kernel
theorem dL_law_433 : decode cL_law 433 = .ok (.iaload, 1) := by decide +kernel
theorem dL_law_434 : decode cL_law 434 = .ok (.invokevirtual 56, 3) := by decide +kernel
theorem dL_law_437 : decode cL_law 437 = .ok (.if_icmp .eq 328, 3) := by decide +kernel
theorem dL_law_440 : decode cL_law 440 = .ok (.iconst 0, 1) := by decide +kernel
theorem dL_law_441 : decode cL_law 441 = .ok (.ireturn, 1) := by decide +kernel
theorem dL_law_442 : decode cL_law 442 = .ok (.aload_n 1, 1) := by decide +kernel
theorem dL_law_443 : decode cL_law 443 = .ok (.aload_n 0, 1) := by decide +kernel
theorem dL_law_444 : decode cL_law 444 = .ok (.iload_n 3, 1) := by decide +kernel
theorem dL_law_445 : decode cL_law 445 = .ok (.iconst 1, 1) := by decide +kernel
theorem dL_law_446 : decode cL_law 446 = .ok (.iadd, 1) := by decide +kernel
theorem dL_law_447 : decode cL_law 447 = .ok (.iaload, 1) := by decide +kernel
theorem dL_law_448 : decode cL_law 448 = .ok (.aload_n 0, 1) := by decide +kernel
theorem dL_law_449 : decode cL_law 449 = .ok (.iload_n 3, 1) := by decide +kernel
theorem dL_law_450 : decode cL_law 450 = .ok (.iconst 2, 1) := by decide +kernel
theorem dL_law_451 : decode cL_law 451 = .ok (.iadd, 1) := by decide +kernel
theorem dL_law_452 : decode cL_law 452 = .ok (.iaload, 1) := by decide +kernel
theorem dL_law_453 : decode cL_law 453 = .ok (.aload_n 0, 1) := by decide +kernel
theorem dL_law_454 : decode cL_law 454 = .ok (.iload_n 3, 1) := by decide +kernel
theorem dL_law_455 : decode cL_law 455 = .ok (.iconst 3, 1) := by decide +kernel
theorem dL_law_456 : decode cL_law 456 = .ok (.iadd, 1) := by decide +kernel
theorem dL_law_457 : decode cL_law 457 = .ok (.iaload, 1) := by decide +kernel
theorem dL_law_458 : decode cL_law 458 = .ok (.invokevirtual 57, 3) := by decide +kernel
theorem dL_law_461 : decode cL_law 461 = .ok (.aload_n 2, 1) := by decide +kernel
theorem dL_law_462 : decode cL_law 462 = .ok (.aload_n 0, 1) := by decide +kernel
theorem dL_law_463 : decode cL_law 463 = .ok (.iload_n 3, 1) := by decide +kernel
theorem dL_law_464 : decode cL_law 464 = .ok (.iconst 1, 1) := by decide +kernel
theorem dL_law_465 : decode cL_law 465 = .ok (.iadd, 1) := by decide +kernel
theorem dL_law_466 : decode cL_law 466 = .ok (.iaload, 1) := by decide +kernel
theorem dL_law_467 : decode cL_law 467 = .ok (.aload_n 0, 1) := by decide +kernel
theorem dL_law_468 : decode cL_law 468 = .ok (.iload_n 3, 1) := by decide +kernel
theorem dL_law_469 : decode cL_law 469 = .ok (.iconst 2, 1) := by decide +kernel
theorem dL_law_470 : decode cL_law 470 = .ok (.iadd, 1) := by decide +kernel
theorem dL_law_471 : decode cL_law 471 = .ok (.iaload, 1) := by decide +kernel
theorem dL_law_472 : decode cL_law 472 = .ok (.aload_n 0, 1) := by decide +kernel
theorem dL_law_473 : decode cL_law 473 = .ok (.iload_n 3, 1) := by decide +kernel
theorem dL_law_474 : decode cL_law 474 = .ok (.iconst 3, 1) := by decide +kernel
theorem dL_law_475 : decode cL_law 475 = .ok (.iadd, 1) := by decide +kernel
theorem dL_law_476 : decode cL_law 476 = .ok (.iaload, 1) := by decide +kernel
theorem dL_law_477 : decode cL_law 477 = .ok (.invokevirtual 60, 3) := by decide +kernel
theorem dL_law_480 : decode cL_law 480 = .ok (.if_icmp .eq 285, 3) := by decide +kernel
theorem dL_law_483 : decode cL_law 483 = .ok (.iconst 0, 1) := by decide +kernel
theorem dL_law_484 : decode cL_law 484 = .ok (.ireturn, 1) := by decide +kernel
theorem dL_law_485 : decode cL_law 485 = .ok (.aload_n 1, 1) := by decide +kernel
theorem dL_law_486 : decode cL_law 486 = .ok (.aload_n 0, 1) := by decide +kernel
theorem dL_law_487 : decode cL_law 487 = .ok (.iload_n 3, 1) := by decide +kernel
theorem dL_law_488 : decode cL_law 488 = .ok (.iconst 1, 1) := by decide +kernel
theorem dL_law_489 : decode cL_law 489 = .ok (.iadd, 1) := by decide +kernel
theorem dL_law_490 : decode cL_law 490 = .ok (.iaload, 1) := by decide +kernel
theorem dL_law_491 : decode cL_law 491 = .ok (.invokevirtual 61, 3) := by decide +kernel
theorem dL_law_494 : decode cL_law 494 = .ok (.aload_n 2, 1) := by decide +kernel
theorem dL_law_495 : decode cL_law 495 = .ok (.aload_n 0, 1) := by decide +kernel
theorem dL_law_496 : decode cL_law 496 = .ok (.iload_n 3, 1) := by decide +kernel
theorem dL_law_497 : decode cL_law 497 = .ok (.iconst 1, 1) := by decide +kernel
theorem dL_law_498 : decode cL_law 498 = .ok (.iadd, 1) := by decide +kernel
theorem dL_law_499 : decode cL_law 499 = .ok (.iaload, 1) := by decide +kernel
theorem dL_law_500 : decode cL_law 500 = .ok (.invokevirtual 64, 3) := by decide +kernel
theorem dL_law_503 : decode cL_law 503 = .ok (.if_icmp .eq 262, 3) := by decide +kernel
theorem dL_law_506 : decode cL_law 506 = .ok (.iconst 0, 1) := by decide +kernel
theorem dL_law_507 : decode cL_law 507 = .ok (.ireturn, 1) := by decide +kernel
theorem dL_law_508 : decode cL_law 508 = .ok (.aload_n 1, 1) := by decide +kernel
theorem dL_law_509 : decode cL_law 509 = .ok (.aload_n 0, 1) := by decide +kernel
theorem dL_law_510 : decode cL_law 510 = .ok (.iload_n 3, 1) := by decide +kernel
theorem dL_law_511 : decode cL_law 511 = .ok (.iconst 1, 1) := by decide +kernel
theorem dL_law_512 : decode cL_law 512 = .ok (.iadd, 1) := by decide +kernel
theorem dL_law_513 : decode cL_law 513 = .ok (.iaload, 1) := by decide +kernel
theorem dL_law_514 : decode cL_law 514 = .ok (.aload_n 0, 1) := by decide +kernel
theorem dL_law_515 : decode cL_law 515 = .ok (.iload_n 3, 1) := by decide +kernel
theorem dL_law_516 : decode cL_law 516 = .ok (.iconst 2, 1) := by decide +kernel
theorem dL_law_517 : decode cL_law 517 = .ok (.iadd, 1) := by decide +kernel
theorem dL_law_518 : decode cL_law 518 = .ok (.iaload, 1) := by decide +kernel
theorem dL_law_519 : decode cL_law 519 = .ok (.invokevirtual 65, 3) := by decide +kernel
theorem dL_law_522 : decode cL_law 522 = .ok (.aload_n 2, 1) := by decide +kernel
theorem dL_law_523 : decode cL_law 523 = .ok (.aload_n 0, 1) := by decide +kernel
theorem dL_law_524 : decode cL_law 524 = .ok (.iload_n 3, 1) := by decide +kernel
theorem dL_law_525 : decode cL_law 525 = .ok (.iconst 1, 1) := by decide +kernel
theorem dL_law_526 : decode cL_law 526 = .ok (.iadd, 1) := by decide +kernel
theorem dL_law_527 : decode cL_law 527 = .ok (.iaload, 1) := by decide +kernel
theorem dL_law_528 : decode cL_law 528 = .ok (.aload_n 0, 1) := by decide +kernel
theorem dL_law_529 : decode cL_law 529 = .ok (.iload_n 3, 1) := by decide +kernel
theorem dL_law_530 : decode cL_law 530 = .ok (.iconst 2, 1) := by decide +kernel
theorem dL_law_531 : decode cL_law 531 = .ok (.iadd, 1) := by decide +kernel
theorem dL_law_532 : decode cL_law 532 = .ok (.iaload, 1) := by decide +kernel
theorem dL_law_533 : decode cL_law 533 = .ok (.invokevirtual 68, 3) := by decide +kernel
theorem dL_law_536 : decode cL_law 536 = .ok (.if_icmp .eq 229, 3) := by decide +kernel
theorem dL_law_539 : decode cL_law 539 = .ok (.iconst 0, 1) := by decide +kernel
theorem dL_law_540 : decode cL_law 540 = .ok (.ireturn, 1) := by decide +kernel
theorem dL_law_541 : decode cL_law 541 = .ok (.aload_n 1, 1) := by decide +kernel
theorem dL_law_542 : decode cL_law 542 = .ok (.aload_n 0, 1) := by decide +kernel
theorem dL_law_543 : decode cL_law 543 = .ok (.iload_n 3, 1) := by decide +kernel
theorem dL_law_544 : decode cL_law 544 = .ok (.iconst 1, 1) := by decide +kernel
theorem dL_law_545 : decode cL_law 545 = .ok (.iadd, 1) := by decide +kernel
theorem dL_law_546 : decode cL_law 546 = .ok (.iaload, 1) := by decide +kernel
theorem dL_law_547 : decode cL_law 547 = .ok (.aload_n 0, 1) := by decide +kernel
theorem dL_law_548 : decode cL_law 548 = .ok (.iload_n 3, 1) := by decide +kernel
theorem dL_law_549 : decode cL_law 549 = .ok (.iconst 2, 1) := by decide +kernel
theorem dL_law_550 : decode cL_law 550 = .ok (.iadd, 1) := by decide +kernel
theorem dL_law_551 : decode cL_law 551 = .ok (.iaload, 1) := by decide +kernel
theorem dL_law_552 : decode cL_law 552 = .ok (.aload_n 0, 1) := by decide +kernel
theorem dL_law_553 : decode cL_law 553 = .ok (.iload_n 3, 1) := by decide +kernel
theorem dL_law_554 : decode cL_law 554 = .ok (.iconst 3, 1) := by decide +kernel
theorem dL_law_555 : decode cL_law 555 = .ok (.iadd, 1) := by decide +kernel
theorem dL_law_556 : decode cL_law 556 = .ok (.iaload, 1) := by decide +kernel
theorem dL_law_557 : decode cL_law 557 = .ok (.invokevirtual 69, 3) := by decide +kernel
theorem dL_law_560 : decode cL_law 560 = .ok (.aload_n 2, 1) := by decide +kernel
theorem dL_law_561 : decode cL_law 561 = .ok (.aload_n 0, 1) := by decide +kernel
theorem dL_law_562 : decode cL_law 562 = .ok (.iload_n 3, 1) := by decide +kernel
theorem dL_law_563 : decode cL_law 563 = .ok (.iconst 1, 1) := by decide +kernel
theorem dL_law_564 : decode cL_law 564 = .ok (.iadd, 1) := by decide +kernel
theorem dL_law_565 : decode cL_law 565 = .ok (.iaload, 1) := by decide +kernel
theorem dL_law_566 : decode cL_law 566 = .ok (.aload_n 0, 1) := by decide +kernel
theorem dL_law_567 : decode cL_law 567 = .ok (.iload_n 3, 1) := by decide +kernel
theorem dL_law_568 : decode cL_law 568 = .ok (.iconst 2, 1) := by decide +kernel
theorem dL_law_569 : decode cL_law 569 = .ok (.iadd, 1) := by decide +kernel
theorem dL_law_570 : decode cL_law 570 = .ok (.iaload, 1) := by decide +kernel
theorem dL_law_571 : decode cL_law 571 = .ok (.aload_n 0, 1) := by decide +kernel
theorem dL_law_572 : decode cL_law 572 = .ok (.iload_n 3, 1) := by decide +kernel
theorem dL_law_573 : decode cL_law 573 = .ok (.iconst 3, 1) := by decide +kernel
theorem dL_law_574 : decode cL_law 574 = .ok (.iadd, 1) := by decide +kernel
theorem dL_law_575 : decode cL_law 575 = .ok (.iaload, 1) := by decide +kernel
theorem dL_law_576 : decode cL_law 576 = .ok (.invokevirtual 72, 3) := by decide +kernel
theorem dL_law_579 : decode cL_law 579 = .ok (.if_icmp .eq 186, 3) := by decide +kernel
theorem dL_law_582 : decode cL_law 582 = .ok (.iconst 0, 1) := by decide +kernel
theorem dL_law_583 : decode cL_law 583 = .ok (.ireturn, 1) := by decide +kernel
theorem dL_law_584 : decode cL_law 584 = .ok (.aload_n 1, 1) := by decide +kernel
theorem dL_law_585 : decode cL_law 585 = .ok (.aload_n 0, 1) := by decide +kernel
theorem dL_law_586 : decode cL_law 586 = .ok (.iload_n 3, 1) := by decide +kernel
theorem dL_law_587 : decode cL_law 587 = .ok (.iconst 1, 1) := by decide +kernel
theorem dL_law_588 : decode cL_law 588 = .ok (.iadd, 1) := by decide +kernel
theorem dL_law_589 : decode cL_law 589 = .ok (.iaload, 1) := by decide +kernel
theorem dL_law_590 : decode cL_law 590 = .ok (.invokevirtual 73, 3) := by decide +kernel
theorem dL_law_593 : decode cL_law 593 = .ok (.aload_n 2, 1) := by decide +kernel
theorem dL_law_594 : decode cL_law 594 = .ok (.aload_n 0, 1) := by decide +kernel
theorem dL_law_595 : decode cL_law 595 = .ok (.iload_n 3, 1) := by decide +kernel
theorem dL_law_596 : decode cL_law 596 = .ok (.iconst 1, 1) := by decide +kernel
theorem dL_law_597 : decode cL_law 597 = .ok (.iadd, 1) := by decide +kernel
theorem dL_law_598 : decode cL_law 598 = .ok (.iaload, 1) := by decide +kernel
theorem dL_law_599 : decode cL_law 599 = .ok (.invokevirtual 76, 3) := by decide +kernel
theorem dL_law_602 : decode cL_law 602 = .ok (.if_icmp .eq 163, 3) := by decide +kernel
theorem dL_law_605 : decode cL_law 605 = .ok (.iconst 0, 1) := by decide +kernel
theorem dL_law_606 : decode cL_law 606 = .ok (.ireturn, 1) := by decide +kernel
theorem dL_law_607 : decode cL_law 607 = .ok (.aload_n 1, 1) := by decide +kernel
theorem dL_law_608 : decode cL_law 608 = .ok (.aload_n 0, 1) := by decide +kernel
theorem dL_law_609 : decode cL_law 609 = .ok (.iload_n 3, 1) := by decide +kernel
theorem dL_law_610 : decode cL_law 610 = .ok (.iconst 1, 1) := by decide +kernel
theorem dL_law_611 : decode cL_law 611 = .ok (.iadd, 1) := by decide +kernel
theorem dL_law_612 : decode cL_law 612 = .ok (.iaload, 1) := by decide +kernel
theorem dL_law_613 : decode cL_law 613 = .ok (.aload_n 0, 1) := by decide +kernel
theorem dL_law_614 : decode cL_law 614 = .ok (.iload_n 3, 1) := by decide +kernel
theorem dL_law_615 : decode cL_law 615 = .ok (.iconst 2, 1) := by decide +kernel
theorem dL_law_616 : decode cL_law 616 = .ok (.iadd, 1) := by decide +kernel
theorem dL_law_617 : decode cL_law 617 = .ok (.iaload, 1) := by decide +kernel
theorem dL_law_618 : decode cL_law 618 = .ok (.invokevirtual 77, 3) := by decide +kernel
theorem dL_law_621 : decode cL_law 621 = .ok (.aload_n 2, 1) := by decide +kernel
theorem dL_law_622 : decode cL_law 622 = .ok (.aload_n 0, 1) := by decide +kernel
theorem dL_law_623 : decode cL_law 623 = .ok (.iload_n 3, 1) := by decide +kernel
theorem dL_law_624 : decode cL_law 624 = .ok (.iconst 1, 1) := by decide +kernel
theorem dL_law_625 : decode cL_law 625 = .ok (.iadd, 1) := by decide +kernel
theorem dL_law_626 : decode cL_law 626 = .ok (.iaload, 1) := by decide +kernel
theorem dL_law_627 : decode cL_law 627 = .ok (.aload_n 0, 1) := by decide +kernel
theorem dL_law_628 : decode cL_law 628 = .ok (.iload_n 3, 1) := by decide +kernel
theorem dL_law_629 : decode cL_law 629 = .ok (.iconst 2, 1) := by decide +kernel
theorem dL_law_630 : decode cL_law 630 = .ok (.iadd, 1) := by decide +kernel
theorem dL_law_631 : decode cL_law 631 = .ok (.iaload, 1) := by decide +kernel
theorem dL_law_632 : decode cL_law 632 = .ok (.invokevirtual 80, 3) := by decide +kernel
theorem dL_law_635 : decode cL_law 635 = .ok (.if_icmp .eq 130, 3) := by decide +kernel
theorem dL_law_638 : decode cL_law 638 = .ok (.iconst 0, 1) := by decide +kernel
theorem dL_law_639 : decode cL_law 639 = .ok (.ireturn, 1) := by decide +kernel
theorem dL_law_640 : decode cL_law 640 = .ok (.aload_n 1, 1) := by decide +kernel
theorem dL_law_641 : decode cL_law 641 = .ok (.aload_n 0, 1) := by decide +kernel
theorem dL_law_642 : decode cL_law 642 = .ok (.iload_n 3, 1) := by decide +kernel
theorem dL_law_643 : decode cL_law 643 = .ok (.iconst 1, 1) := by decide +kernel
theorem dL_law_644 : decode cL_law 644 = .ok (.iadd, 1) := by decide +kernel
theorem dL_law_645 : decode cL_law 645 = .ok (.iaload, 1) := by decide +kernel
theorem dL_law_646 : decode cL_law 646 = .ok (.invokevirtual 81, 3) := by decide +kernel
theorem dL_law_649 : decode cL_law 649 = .ok (.aload_n 2, 1) := by decide +kernel
theorem dL_law_650 : decode cL_law 650 = .ok (.aload_n 0, 1) := by decide +kernel
theorem dL_law_651 : decode cL_law 651 = .ok (.iload_n 3, 1) := by decide +kernel
theorem dL_law_652 : decode cL_law 652 = .ok (.iconst 1, 1) := by decide +kernel
theorem dL_law_653 : decode cL_law 653 = .ok (.iadd, 1) := by decide +kernel
theorem dL_law_654 : decode cL_law 654 = .ok (.iaload, 1) := by decide +kernel
theorem dL_law_655 : decode cL_law 655 = .ok (.invokevirtual 84, 3) := by decide +kernel
theorem dL_law_658 : decode cL_law 658 = .ok (.if_icmp .eq 107, 3) := by decide +kernel
theorem dL_law_661 : decode cL_law 661 = .ok (.iconst 0, 1) := by decide +kernel
theorem dL_law_662 : decode cL_law 662 = .ok (.ireturn, 1) := by decide +kernel
theorem dL_law_663 : decode cL_law 663 = .ok (.aload_n 1, 1) := by decide +kernel
theorem dL_law_664 : decode cL_law 664 = .ok (.aload_n 0, 1) := by decide +kernel
theorem dL_law_665 : decode cL_law 665 = .ok (.iload_n 3, 1) := by decide +kernel
theorem dL_law_666 : decode cL_law 666 = .ok (.iconst 1, 1) := by decide +kernel
theorem dL_law_667 : decode cL_law 667 = .ok (.iadd, 1) := by decide +kernel
theorem dL_law_668 : decode cL_law 668 = .ok (.iaload, 1) := by decide +kernel
theorem dL_law_669 : decode cL_law 669 = .ok (.aload_n 0, 1) := by decide +kernel
theorem dL_law_670 : decode cL_law 670 = .ok (.iload_n 3, 1) := by decide +kernel
theorem dL_law_671 : decode cL_law 671 = .ok (.iconst 2, 1) := by decide +kernel
theorem dL_law_672 : decode cL_law 672 = .ok (.iadd, 1) := by decide +kernel
theorem dL_law_673 : decode cL_law 673 = .ok (.iaload, 1) := by decide +kernel
theorem dL_law_674 : decode cL_law 674 = .ok (.invokevirtual 85, 3) := by decide +kernel
theorem dL_law_677 : decode cL_law 677 = .ok (.aload_n 2, 1) := by decide +kernel
theorem dL_law_678 : decode cL_law 678 = .ok (.aload_n 0, 1) := by decide +kernel
theorem dL_law_679 : decode cL_law 679 = .ok (.iload_n 3, 1) := by decide +kernel
theorem dL_law_680 : decode cL_law 680 = .ok (.iconst 1, 1) := by decide +kernel
theorem dL_law_681 : decode cL_law 681 = .ok (.iadd, 1) := by decide +kernel
theorem dL_law_682 : decode cL_law 682 = .ok (.iaload, 1) := by decide +kernel
theorem dL_law_683 : decode cL_law 683 = .ok (.aload_n 0, 1) := by decide +kernel
theorem dL_law_684 : decode cL_law 684 = .ok (.iload_n 3, 1) := by decide +kernel
theorem dL_law_685 : decode cL_law 685 = .ok (.iconst 2, 1) := by decide +kernel
theorem dL_law_686 : decode cL_law 686 = .ok (.iadd, 1) := by decide +kernel
theorem dL_law_687 : decode cL_law 687 = .ok (.iaload, 1) := by decide +kernel
theorem dL_law_688 : decode cL_law 688 = .ok (.invokevirtual 88, 3) := by decide +kernel
theorem dL_law_691 : decode cL_law 691 = .ok (.if_icmp .eq 74, 3) := by decide +kernel
theorem dL_law_694 : decode cL_law 694 = .ok (.iconst 0, 1) := by decide +kernel
theorem dL_law_695 : decode cL_law 695 = .ok (.ireturn, 1) := by decide +kernel
theorem dL_law_696 : decode cL_law 696 = .ok (.aload_n 1, 1) := by decide +kernel
theorem dL_law_697 : decode cL_law 697 = .ok (.aload_n 0, 1) := by decide +kernel
theorem dL_law_698 : decode cL_law 698 = .ok (.iload_n 3, 1) := by decide +kernel
theorem dL_law_699 : decode cL_law 699 = .ok (.iconst 1, 1) := by decide +kernel
theorem dL_law_700 : decode cL_law 700 = .ok (.iadd, 1) := by decide +kernel
theorem dL_law_701 : decode cL_law 701 = .ok (.iaload, 1) := by decide +kernel
theorem dL_law_702 : decode cL_law 702 = .ok (.invokevirtual 89, 3) := by decide +kernel
theorem dL_law_705 : decode cL_law 705 = .ok (.aload_n 2, 1) := by decide +kernel
theorem dL_law_706 : decode cL_law 706 = .ok (.aload_n 0, 1) := by decide +kernel
theorem dL_law_707 : decode cL_law 707 = .ok (.iload_n 3, 1) := by decide +kernel
theorem dL_law_708 : decode cL_law 708 = .ok (.iconst 1, 1) := by decide +kernel
theorem dL_law_709 : decode cL_law 709 = .ok (.iadd, 1) := by decide +kernel
theorem dL_law_710 : decode cL_law 710 = .ok (.iaload, 1) := by decide +kernel
theorem dL_law_711 : decode cL_law 711 = .ok (.invokevirtual 92, 3) := by decide +kernel
theorem dL_law_714 : decode cL_law 714 = .ok (.if_icmp .eq 51, 3) := by decide +kernel
theorem dL_law_717 : decode cL_law 717 = .ok (.iconst 0, 1) := by decide +kernel
theorem dL_law_718 : decode cL_law 718 = .ok (.ireturn, 1) := by decide +kernel
theorem dL_law_719 : decode cL_law 719 = .ok (.aload_n 1, 1) := by decide +kernel
theorem dL_law_720 : decode cL_law 720 = .ok (.aload_n 0, 1) := by decide +kernel
theorem dL_law_721 : decode cL_law 721 = .ok (.iload_n 3, 1) := by decide +kernel
theorem dL_law_722 : decode cL_law 722 = .ok (.iconst 1, 1) := by decide +kernel
theorem dL_law_723 : decode cL_law 723 = .ok (.iadd, 1) := by decide +kernel
theorem dL_law_724 : decode cL_law 724 = .ok (.iaload, 1) := by decide +kernel
theorem dL_law_725 : decode cL_law 725 = .ok (.invokevirtual 93, 3) := by decide +kernel
theorem dL_law_728 : decode cL_law 728 = .ok (.aload_n 2, 1) := by decide +kernel
theorem dL_law_729 : decode cL_law 729 = .ok (.aload_n 0, 1) := by decide +kernel
theorem dL_law_730 : decode cL_law 730 = .ok (.iload_n 3, 1) := by decide +kernel
theorem dL_law_731 : decode cL_law 731 = .ok (.iconst 1, 1) := by decide +kernel
theorem dL_law_732 : decode cL_law 732 = .ok (.iadd, 1) := by decide +kernel
theorem dL_law_733 : decode cL_law 733 = .ok (.iaload, 1) := by decide +kernel
theorem dL_law_734 : decode cL_law 734 = .ok (.invokevirtual 96, 3) := by decide +kernel
theorem dL_law_737 : decode cL_law 737 = .ok (.if_icmp .eq 28, 3) := by decide +kernel
theorem dL_law_740 : decode cL_law 740 = .ok (.iconst 0, 1) := by decide +kernel
theorem dL_law_741 : decode cL_law 741 = .ok (.ireturn, 1) := by decide +kernel
theorem dL_law_742 : decode cL_law 742 = .ok (.aload_n 1, 1) := by decide +kernel
theorem dL_law_743 : decode cL_law 743 = .ok (.aload_n 0, 1) := by decide +kernel
theorem dL_law_744 : decode cL_law 744 = .ok (.iload_n 3, 1) := by decide +kernel
theorem dL_law_745 : decode cL_law 745 = .ok (.iconst 1, 1) := by decide +kernel
theorem dL_law_746 : decode cL_law 746 = .ok (.iadd, 1) := by decide +kernel
theorem dL_law_747 : decode cL_law 747 = .ok (.iaload, 1) := by decide +kernel
theorem dL_law_748 : decode cL_law 748 = .ok (.invokevirtual 97, 3) := by decide +kernel
theorem dL_law_751 : decode cL_law 751 = .ok (.aload_n 2, 1) := by decide +kernel
theorem dL_law_752 : decode cL_law 752 = .ok (.aload_n 0, 1) := by decide +kernel
theorem dL_law_753 : decode cL_law 753 = .ok (.iload_n 3, 1) := by decide +kernel
theorem dL_law_754 : decode cL_law 754 = .ok (.iconst 1, 1) := by decide +kernel
theorem dL_law_755 : decode cL_law 755 = .ok (.iadd, 1) := by decide +kernel
theorem dL_law_756 : decode cL_law 756 = .ok (.iaload, 1) := by decide +kernel
theorem dL_law_757 : decode cL_law 757 = .ok (.invokevirtual 100, 3) := by decide +kernel
theorem dL_law_760 : decode cL_law 760 = .ok (.if_icmp .eq 5, 3) := by decide +kernel
theorem dL_law_763 : decode cL_law 763 = .ok (.iconst 0, 1) := by decide +kernel
theorem dL_law_764 : decode cL_law 764 = .ok (.ireturn, 1) := by decide +kernel
theorem dL_law_765 : decode cL_law 765 = .ok (.iinc 3 4, 3) := by decide +kernel
theorem dL_law_768 : decode cL_law 768 = .ok (.goto (-750), 3) := by decide +kernel
theorem dL_law_771 : decode cL_law 771 = .ok (.iconst 1, 1) := by decide +kernel
theorem dL_law_772 : decode cL_law 772 = .ok (.ireturn, 1) := by decide +kernel
end
section
def gAll : List Cond := lw_tbl.filter goodWord
theorem gIn {w : Cond} (i : Nat) (h : lw_tbl[i]? = some w) (g : goodWord w = true) : w ∈ gAll := List.mem_filter.mpr ⟨List.mem_of_getElem? h, g⟩
theorem gAll_good : GoodIn gAll gAll := fun w h => ⟨h, good_of_word (List.mem_filter.mp h).2⟩
theorem ks_X4_forgetMatches : Cond.selects RX4 yX4_forgetMatches yX4_forgetMatches ∈ gAll := gIn 0 (by decide +kernel) (by decide +kernel)
theorem ks_X4_isMarkInRow : Cond.selects RX4 yX4_isMarkInRow yX4_isMarkInRow ∈ gAll := gIn 1 (by decide +kernel) (by decide +kernel)
theorem ks_X4_mouldOrNull : Cond.selects RX4 yX4_mouldOrNull yX4_mouldOrNull ∈ gAll := gIn 2 (by decide +kernel) (by decide +kernel)
theorem ks_X4_couldBeTwins : Cond.selects RX4 yX4_couldBeTwins yX4_couldBeTwins ∈ gAll := gIn 3 (by decide +kernel) (by decide +kernel)
theorem ks_X4_sheetOrNull : Cond.selects RX4 yX4_sheetOrNull yX4_sheetOrNull ∈ gAll := gIn 4 (by decide +kernel) (by decide +kernel)
theorem ks_X4_matchOf : Cond.selects RX4 yX4_matchOf yX4_matchOf ∈ gAll := gIn 5 (by decide +kernel) (by decide +kernel)
theorem ks_X4_findBest : Cond.selects RX4 yX4_findBest yX4_findBest ∈ gAll := gIn 6 (by decide +kernel) (by decide +kernel)
theorem ks_X4_tryPlacement : Cond.selects RX4 yX4_tryPlacement yX4_tryPlacement ∈ gAll := gIn 7 (by decide +kernel) (by decide +kernel)
theorem ks_X4_spacingDeviations : Cond.selects RX4 yX4_spacingDeviations yX4_spacingDeviations ∈ gAll := gIn 8 (by decide +kernel) (by decide +kernel)
theorem ks_X4_fittingState : Cond.selects RX4 yX4_fittingState yX4_fittingState ∈ gAll := gIn 9 (by decide +kernel) (by decide +kernel)
theorem ks_X4_markDeviation : Cond.selects RX4 yX4_markDeviation yX4_markDeviation ∈ gAll := gIn 10 (by decide +kernel) (by decide +kernel)
theorem ks_X4_mouldFor : Cond.selects RX4 yX4_mouldFor yX4_mouldFor ∈ gAll := gIn 11 (by decide +kernel) (by decide +kernel)
theorem ks_X4_gatherStates : Cond.selects RX4 yX4_gatherStates yX4_gatherStates ∈ gAll := gIn 12 (by decide +kernel) (by decide +kernel)
theorem ks_X4_earliestOf : Cond.selects RX4 yX4_earliestOf yX4_earliestOf ∈ gAll := gIn 13 (by decide +kernel) (by decide +kernel)
theorem ks_X4_isLowerState : Cond.selects RX4 yX4_isLowerState yX4_isLowerState ∈ gAll := gIn 14 (by decide +kernel) (by decide +kernel)
theorem ks_X4_placeOf : Cond.selects RX4 yX4_placeOf yX4_placeOf ∈ gAll := gIn 15 (by decide +kernel) (by decide +kernel)
theorem ks_X4_comesBefore : Cond.selects RX4 yX4_comesBefore yX4_comesBefore ∈ gAll := gIn 16 (by decide +kernel) (by decide +kernel)
theorem ks_X4_latestOf : Cond.selects RX4 yX4_latestOf yX4_latestOf ∈ gAll := gIn 17 (by decide +kernel) (by decide +kernel)
theorem ks_X5_isMark : Cond.selects RX5 yX5_isMark yX5_isMark ∈ gAll := gIn 18 (by decide +kernel) (by decide +kernel)
theorem ks_X5_putState : Cond.selects RX5 yX5_putState yX5_putState ∈ gAll := gIn 19 (by decide +kernel) (by decide +kernel)
theorem ks_X5_noMould : Cond.selects RX5 yX5_noMould yX5_noMould ∈ gAll := gIn 20 (by decide +kernel) (by decide +kernel)
theorem ks_X5_twoBarred : Cond.selects RX5 yX5_twoBarred yX5_twoBarred ∈ gAll := gIn 21 (by decide +kernel) (by decide +kernel)
theorem ks_X5_twinSpacings : Cond.selects RX5 yX5_twinSpacings yX5_twinSpacings ∈ gAll := gIn 22 (by decide +kernel) (by decide +kernel)
theorem ks_X5_noSheet : Cond.selects RX5 yX5_noSheet yX5_noSheet ∈ gAll := gIn 23 (by decide +kernel) (by decide +kernel)
theorem ks_X5_bothBarred : Cond.selects RX5 yX5_bothBarred yX5_bothBarred ∈ gAll := gIn 24 (by decide +kernel) (by decide +kernel)
theorem ks_X5_findBest : Cond.selects RX5 yX5_findBest yX5_findBest ∈ gAll := gIn 25 (by decide +kernel) (by decide +kernel)
theorem ks_X5_scoreOf : Cond.selects RX5 yX5_scoreOf yX5_scoreOf ∈ gAll := gIn 26 (by decide +kernel) (by decide +kernel)
theorem ks_X5_spacingScore : Cond.selects RX5 yX5_spacingScore yX5_spacingScore ∈ gAll := gIn 27 (by decide +kernel) (by decide +kernel)
theorem ks_X5_markScore : Cond.selects RX5 yX5_markScore yX5_markScore ∈ gAll := gIn 28 (by decide +kernel) (by decide +kernel)
theorem ks_X5_assign : Cond.selects RX5 yX5_assign yX5_assign ∈ gAll := gIn 29 (by decide +kernel) (by decide +kernel)
theorem ks_X5_assignAll : Cond.selects RX5 yX5_assignAll yX5_assignAll ∈ gAll := gIn 30 (by decide +kernel) (by decide +kernel)
theorem ks_X5_earliestOf : Cond.selects RX5 yX5_earliestOf yX5_earliestOf ∈ gAll := gIn 31 (by decide +kernel) (by decide +kernel)
theorem ks_X5_isLower : Cond.selects RX5 yX5_isLower yX5_isLower ∈ gAll := gIn 32 (by decide +kernel) (by decide +kernel)
theorem ks_X5_isPlaced : Cond.selects RX5 yX5_isPlaced yX5_isPlaced ∈ gAll := gIn 33 (by decide +kernel) (by decide +kernel)
theorem ks_X5_isAhead : Cond.selects RX5 yX5_isAhead yX5_isAhead ∈ gAll := gIn 34 (by decide +kernel) (by decide +kernel)
theorem kz_X4 : Cond.initialized RX4 ∈ gAll := gIn 36 (by decide +kernel) (by decide +kernel)
theorem kz_X3 : Cond.initialized RX3 ∈ gAll := gIn 37 (by decide +kernel) (by decide +kernel)
theorem kz_X5 : Cond.initialized RX5 ∈ gAll := gIn 38 (by decide +kernel) (by decide +kernel)
theorem kz_X1 : Cond.initialized RX1 ∈ gAll := gIn 39 (by decide +kernel) (by decide +kernel)
theorem kz_J7 : Cond.initialized RJ7 ∈ gAll := gIn 40 (by decide +kernel) (by decide +kernel)
theorem kz_J9 : Cond.initialized RJ9 ∈ gAll := gIn 41 (by decide +kernel) (by decide +kernel)
theorem kz_X2 : Cond.initialized RX2 ∈ gAll := gIn 43 (by decide +kernel) (by decide +kernel)
theorem kz_X0 : Cond.initialized RX0 ∈ gAll := gIn 44 (by decide +kernel) (by decide +kernel)
theorem kk_L_7 : Cond.classLink "MouldMatcherLaw" 7 RX4 ∈ gAll := gIn 45 (by decide +kernel) (by decide +kernel)
theorem kn_X4 : Cond.instantiable RX4 11 ∈ gAll := gIn 46 (by decide +kernel) (by decide +kernel)
theorem km_L_9 : Cond.methodLink "MouldMatcherLaw" 9 yX4_init ∈ gAll := gIn 47 (by decide +kernel) (by decide +kernel)
theorem ki_X4_init : Cond.instanceMethod yX4_init ∈ gAll := gIn 48 (by decide +kernel) (by decide +kernel)
theorem kc_X4_init : Cond.code yX4_init cX4_init 1 (none : Option FieldType) ∈ gAll := gIn 49 (by decide +kernel) (by decide +kernel)
theorem km_X4_1 : Cond.methodLink RX4 1 ⟨"java/lang/Object", "<init>", "()V"⟩ ∈ gAll := gIn 50 (by decide +kernel) (by decide +kernel)
theorem ki_objinit : Cond.instanceMethod objectInit ∈ gAll := gIn 51 (by decide +kernel) (by decide +kernel)
theorem kc_objinit : Cond.code objectInit ⟨#[0xb1]⟩ 1 none ∈ gAll := gIn 52 (by decide +kernel) (by decide +kernel)
theorem kk_X4_23 : Cond.classLink RX4 23 RX1 ∈ gAll := gIn 53 (by decide +kernel) (by decide +kernel)
theorem kk_X4_32 : Cond.classLink RX4 32 RX2 ∈ gAll := gIn 55 (by decide +kernel) (by decide +kernel)
theorem kk_X4_41 : Cond.classLink RX4 41 RX3 ∈ gAll := gIn 57 (by decide +kernel) (by decide +kernel)
theorem kn_X3 : Cond.instantiable RX3 6 ∈ gAll := gIn 58 (by decide +kernel) (by decide +kernel)
theorem ki_X3_init : Cond.instanceMethod yX3_init ∈ gAll := gIn 60 (by decide +kernel) (by decide +kernel)
theorem kc_X3_init : Cond.code yX3_init cX3_init 1 (none : Option FieldType) ∈ gAll := gIn 61 (by decide +kernel) (by decide +kernel)
theorem km_X3_3 : Cond.methodLink RX3 3 ⟨"java/lang/Object", "<init>", "()V"⟩ ∈ gAll := gIn 62 (by decide +kernel) (by decide +kernel)
theorem kf_X3_9 : Cond.fieldLink RX3 9 "MouldMatcher$View" "spacings" "[I" ∈ gAll := gIn 63 (by decide +kernel) (by decide +kernel)
theorem kf_X4_218 : Cond.fieldLink RX4 218 "MouldMatcher$View" "spacings" "[I" ∈ gAll := gIn 64 (by decide +kernel) (by decide +kernel)
theorem kf_X3_15 : Cond.fieldLink RX3 15 "MouldMatcher$View" "length" "I" ∈ gAll := gIn 65 (by decide +kernel) (by decide +kernel)
theorem kf_X4_215 : Cond.fieldLink RX4 215 "MouldMatcher$View" "length" "I" ∈ gAll := gIn 66 (by decide +kernel) (by decide +kernel)
theorem kf_X3_19 : Cond.fieldLink RX3 19 "MouldMatcher$View" "orientation" "I" ∈ gAll := gIn 67 (by decide +kernel) (by decide +kernel)
theorem kf_X4_214 : Cond.fieldLink RX4 214 "MouldMatcher$View" "orientation" "I" ∈ gAll := gIn 68 (by decide +kernel) (by decide +kernel)
theorem kf_X3_22 : Cond.fieldLink RX3 22 "MouldMatcher$View" "interval" "I" ∈ gAll := gIn 69 (by decide +kernel) (by decide +kernel)
theorem kf_X4_198 : Cond.fieldLink RX4 198 "MouldMatcher$View" "interval" "I" ∈ gAll := gIn 70 (by decide +kernel) (by decide +kernel)
theorem kf_X3_25 : Cond.fieldLink RX3 25 "MouldMatcher$View" "x" "I" ∈ gAll := gIn 71 (by decide +kernel) (by decide +kernel)
theorem kf_X4_219 : Cond.fieldLink RX4 219 "MouldMatcher$View" "x" "I" ∈ gAll := gIn 72 (by decide +kernel) (by decide +kernel)
theorem kf_X3_28 : Cond.fieldLink RX3 28 "MouldMatcher$View" "y" "I" ∈ gAll := gIn 73 (by decide +kernel) (by decide +kernel)
theorem kf_X4_222 : Cond.fieldLink RX4 222 "MouldMatcher$View" "y" "I" ∈ gAll := gIn 74 (by decide +kernel) (by decide +kernel)
theorem ka_int : Cond.arrayClass .int ∈ gAll := gIn 88 (by decide +kernel) (by decide +kernel)
theorem kf_X4_9 : Cond.fieldLink RX4 9 "MouldMatcher" "row" "[I" ∈ gAll := gIn 89 (by decide +kernel) (by decide +kernel)
theorem kf_X4_13 : Cond.fieldLink RX4 13 "MouldMatcher" "rowLength" "I" ∈ gAll := gIn 90 (by decide +kernel) (by decide +kernel)
theorem kf_X4_17 : Cond.fieldLink RX4 17 "MouldMatcher" "spacingTolerance" "I" ∈ gAll := gIn 91 (by decide +kernel) (by decide +kernel)
theorem kf_X4_20 : Cond.fieldLink RX4 20 "MouldMatcher" "markTolerance" "I" ∈ gAll := gIn 92 (by decide +kernel) (by decide +kernel)
theorem kf_X4_25 : Cond.fieldLink RX4 25 "MouldMatcher" "moulds" "[LMouldMatcher$Mould;" ∈ gAll := gIn 93 (by decide +kernel) (by decide +kernel)
theorem kf_X4_29 : Cond.fieldLink RX4 29 "MouldMatcher" "mouldTotal" "I" ∈ gAll := gIn 94 (by decide +kernel) (by decide +kernel)
theorem kf_X4_34 : Cond.fieldLink RX4 34 "MouldMatcher" "sheets" "[LMouldMatcher$Sheet;" ∈ gAll := gIn 95 (by decide +kernel) (by decide +kernel)
theorem kf_X4_38 : Cond.fieldLink RX4 38 "MouldMatcher" "sheetTotal" "I" ∈ gAll := gIn 96 (by decide +kernel) (by decide +kernel)
theorem kf_X4_44 : Cond.fieldLink RX4 44 "MouldMatcher" "view" "LMouldMatcher$View;" ∈ gAll := gIn 97 (by decide +kernel) (by decide +kernel)
theorem kf_X4_48 : Cond.fieldLink RX4 48 "MouldMatcher" "statesOnMould" "[I" ∈ gAll := gIn 98 (by decide +kernel) (by decide +kernel)
theorem kf_X4_51 : Cond.fieldLink RX4 51 "MouldMatcher" "earliestDates" "[I" ∈ gAll := gIn 99 (by decide +kernel) (by decide +kernel)
theorem km_L_13 : Cond.methodLink "MouldMatcherLaw" 13 yX4_clearRow ∈ gAll := gIn 123 (by decide +kernel) (by decide +kernel)
theorem ki_X4_clearRow : Cond.instanceMethod yX4_clearRow ∈ gAll := gIn 124 (by decide +kernel) (by decide +kernel)
theorem ks_X4_clearRow : Cond.selects RX4 yX4_clearRow yX4_clearRow ∈ gAll := gIn 125 (by decide +kernel) (by decide +kernel)
theorem kc_X4_clearRow : Cond.code yX4_clearRow cX4_clearRow 2 (some FieldType.int) ∈ gAll := gIn 126 (by decide +kernel) (by decide +kernel)
theorem km_L_18 : Cond.methodLink "MouldMatcherLaw" 18 yX4_addToRow ∈ gAll := gIn 127 (by decide +kernel) (by decide +kernel)
theorem ki_X4_addToRow : Cond.instanceMethod yX4_addToRow ∈ gAll := gIn 128 (by decide +kernel) (by decide +kernel)
theorem ks_X4_addToRow : Cond.selects RX4 yX4_addToRow yX4_addToRow ∈ gAll := gIn 129 (by decide +kernel) (by decide +kernel)
theorem kc_X4_addToRow : Cond.code yX4_addToRow cX4_addToRow 2 (some FieldType.int) ∈ gAll := gIn 130 (by decide +kernel) (by decide +kernel)
theorem km_X4_54 : Cond.methodLink RX4 54 yX4_isWithin ∈ gAll := gIn 131 (by decide +kernel) (by decide +kernel)
theorem ki_X4_isWithin : Cond.static yX4_isWithin ∈ gAll := gIn 132 (by decide +kernel) (by decide +kernel)
theorem kc_X4_isWithin : Cond.code yX4_isWithin cX4_isWithin 3 (some FieldType.boolean) ∈ gAll := gIn 133 (by decide +kernel) (by decide +kernel)
theorem km_L_23 : Cond.methodLink "MouldMatcherLaw" 23 yX4_setTolerances ∈ gAll := gIn 134 (by decide +kernel) (by decide +kernel)
theorem ki_X4_setTolerances : Cond.instanceMethod yX4_setTolerances ∈ gAll := gIn 135 (by decide +kernel) (by decide +kernel)
theorem ks_X4_setTolerances : Cond.selects RX4 yX4_setTolerances yX4_setTolerances ∈ gAll := gIn 136 (by decide +kernel) (by decide +kernel)
theorem kc_X4_setTolerances : Cond.code yX4_setTolerances cX4_setTolerances 4 (some FieldType.int) ∈ gAll := gIn 137 (by decide +kernel) (by decide +kernel)
theorem km_X4_58 : Cond.methodLink RX4 58 yX4_forgetMatches ∈ gAll := gIn 138 (by decide +kernel) (by decide +kernel)
theorem ki_X4_forgetMatches : Cond.instanceMethod yX4_forgetMatches ∈ gAll := gIn 140 (by decide +kernel) (by decide +kernel)
theorem kc_X4_forgetMatches : Cond.code yX4_forgetMatches cX4_forgetMatches 3 (none : Option FieldType) ∈ gAll := gIn 141 (by decide +kernel) (by decide +kernel)
theorem km_L_28 : Cond.methodLink "MouldMatcherLaw" 28 yX4_addMould ∈ gAll := gIn 142 (by decide +kernel) (by decide +kernel)
theorem ki_X4_addMould : Cond.instanceMethod yX4_addMould ∈ gAll := gIn 143 (by decide +kernel) (by decide +kernel)
theorem ks_X4_addMould : Cond.selects RX4 yX4_addMould yX4_addMould ∈ gAll := gIn 144 (by decide +kernel) (by decide +kernel)
theorem kc_X4_addMould : Cond.code yX4_addMould cX4_addMould 5 (some FieldType.int) ∈ gAll := gIn 145 (by decide +kernel) (by decide +kernel)
theorem km_X4_62 : Cond.methodLink RX4 62 yX4_isMarkInRow ∈ gAll := gIn 146 (by decide +kernel) (by decide +kernel)
theorem ki_X4_isMarkInRow : Cond.instanceMethod yX4_isMarkInRow ∈ gAll := gIn 148 (by decide +kernel) (by decide +kernel)
theorem kc_X4_isMarkInRow : Cond.code yX4_isMarkInRow cX4_isMarkInRow 4 (some FieldType.boolean) ∈ gAll := gIn 149 (by decide +kernel) (by decide +kernel)
theorem km_X4_85 : Cond.methodLink RX4 85 yX4_isPosition ∈ gAll := gIn 150 (by decide +kernel) (by decide +kernel)
theorem ki_X4_isPosition : Cond.static yX4_isPosition ∈ gAll := gIn 151 (by decide +kernel) (by decide +kernel)
theorem kc_X4_isPosition : Cond.code yX4_isPosition cX4_isPosition 3 (some FieldType.boolean) ∈ gAll := gIn 152 (by decide +kernel) (by decide +kernel)
theorem kn_X1 : Cond.instantiable RX1 6 ∈ gAll := gIn 153 (by decide +kernel) (by decide +kernel)
theorem km_X4_65 : Cond.methodLink RX4 65 yJ7_copyOf_59c91 ∈ gAll := gIn 154 (by decide +kernel) (by decide +kernel)
theorem ki_J7_copyOf_59c91 : Cond.static yJ7_copyOf_59c91 ∈ gAll := gIn 155 (by decide +kernel) (by decide +kernel)
theorem kc_J7_copyOf_59c91 : Cond.code yJ7_copyOf_59c91 cJ7_copyOf_59c91 3 (some (FieldType.array FieldType.int)) ∈ gAll := gIn 156 (by decide +kernel) (by decide +kernel)
theorem km_J7_316 : Cond.methodLink RJ7 316 ⟨"[I", "clone", "()Ljava/lang/Object;"⟩ ∈ gAll := gIn 157 (by decide +kernel) (by decide +kernel)
theorem kk_J7_317 : Cond.classLink RJ7 317 "[I" ∈ gAll := gIn 163 (by decide +kernel) (by decide +kernel)
theorem km_J7_304 : Cond.methodLink RJ7 304 yJ9_min_7cf53 ∈ gAll := gIn 164 (by decide +kernel) (by decide +kernel)
theorem ki_J9_min_7cf53 : Cond.static yJ9_min_7cf53 ∈ gAll := gIn 165 (by decide +kernel) (by decide +kernel)
theorem kc_J9_min_7cf53 : Cond.code yJ9_min_7cf53 cJ9_min_7cf53 2 (some FieldType.int) ∈ gAll := gIn 166 (by decide +kernel) (by decide +kernel)
theorem km_J7_150 : Cond.methodLink RJ7 150 ⟨"java/lang/System", "arraycopy", "(Ljava/lang/Object;ILjava/lang/Object;II)V"⟩ ∈ gAll := gIn 167 (by decide +kernel) (by decide +kernel)
theorem km_X4_71 : Cond.methodLink RX4 71 yX1_init ∈ gAll := gIn 170 (by decide +kernel) (by decide +kernel)
theorem ki_X1_init : Cond.instanceMethod yX1_init ∈ gAll := gIn 171 (by decide +kernel) (by decide +kernel)
theorem kc_X1_init : Cond.code yX1_init cX1_init 4 (none : Option FieldType) ∈ gAll := gIn 172 (by decide +kernel) (by decide +kernel)
theorem km_X1_3 : Cond.methodLink RX1 3 ⟨"java/lang/Object", "<init>", "()V"⟩ ∈ gAll := gIn 173 (by decide +kernel) (by decide +kernel)
theorem kf_X1_22 : Cond.fieldLink RX1 22 "MouldMatcher$Mould" "spacings" "[I" ∈ gAll := gIn 174 (by decide +kernel) (by decide +kernel)
theorem kf_X4_173 : Cond.fieldLink RX4 173 "MouldMatcher$Mould" "spacings" "[I" ∈ gAll := gIn 175 (by decide +kernel) (by decide +kernel)
theorem kf_X1_25 : Cond.fieldLink RX1 25 "MouldMatcher$Mould" "interval" "I" ∈ gAll := gIn 176 (by decide +kernel) (by decide +kernel)
theorem kf_X4_176 : Cond.fieldLink RX4 176 "MouldMatcher$Mould" "interval" "I" ∈ gAll := gIn 177 (by decide +kernel) (by decide +kernel)
theorem kf_X1_28 : Cond.fieldLink RX1 28 "MouldMatcher$Mould" "width" "I" ∈ gAll := gIn 178 (by decide +kernel) (by decide +kernel)
theorem kf_X4_82 : Cond.fieldLink RX4 82 "MouldMatcher$Mould" "width" "I" ∈ gAll := gIn 179 (by decide +kernel) (by decide +kernel)
theorem kf_X1_9 : Cond.fieldLink RX1 9 "MouldMatcher$Mould" "stateX" "[I" ∈ gAll := gIn 180 (by decide +kernel) (by decide +kernel)
theorem kf_X4_95 : Cond.fieldLink RX4 95 "MouldMatcher$Mould" "stateX" "[I" ∈ gAll := gIn 181 (by decide +kernel) (by decide +kernel)
theorem kf_X1_15 : Cond.fieldLink RX1 15 "MouldMatcher$Mould" "stateY" "[I" ∈ gAll := gIn 182 (by decide +kernel) (by decide +kernel)
theorem kf_X4_104 : Cond.fieldLink RX4 104 "MouldMatcher$Mould" "stateY" "[I" ∈ gAll := gIn 183 (by decide +kernel) (by decide +kernel)
theorem kf_X1_18 : Cond.fieldLink RX1 18 "MouldMatcher$Mould" "states" "I" ∈ gAll := gIn 184 (by decide +kernel) (by decide +kernel)
theorem kf_X4_88 : Cond.fieldLink RX4 88 "MouldMatcher$Mould" "states" "I" ∈ gAll := gIn 185 (by decide +kernel) (by decide +kernel)
theorem km_X4_74 : Cond.methodLink RX4 74 yX1_append ∈ gAll := gIn 199 (by decide +kernel) (by decide +kernel)
theorem ki_X1_append : Cond.instanceMethod yX1_append ∈ gAll := gIn 200 (by decide +kernel) (by decide +kernel)
theorem ks_X1_append : Cond.selects RX1 yX1_append yX1_append ∈ gAll := gIn 201 (by decide +kernel) (by decide +kernel)
theorem kc_X1_append : Cond.code yX1_append cX1_append 3 (none : Option FieldType) ∈ gAll := gIn 202 (by decide +kernel) (by decide +kernel)
theorem km_L_33 : Cond.methodLink "MouldMatcherLaw" 33 yX4_addState ∈ gAll := gIn 203 (by decide +kernel) (by decide +kernel)
theorem ki_X4_addState : Cond.instanceMethod yX4_addState ∈ gAll := gIn 204 (by decide +kernel) (by decide +kernel)
theorem ks_X4_addState : Cond.selects RX4 yX4_addState yX4_addState ∈ gAll := gIn 205 (by decide +kernel) (by decide +kernel)
theorem kc_X4_addState : Cond.code yX4_addState cX4_addState 5 (some FieldType.int) ∈ gAll := gIn 206 (by decide +kernel) (by decide +kernel)
theorem km_X4_78 : Cond.methodLink RX4 78 yX4_mouldOrNull ∈ gAll := gIn 207 (by decide +kernel) (by decide +kernel)
theorem ki_X4_mouldOrNull : Cond.instanceMethod yX4_mouldOrNull ∈ gAll := gIn 209 (by decide +kernel) (by decide +kernel)
theorem kc_X4_mouldOrNull : Cond.code yX4_mouldOrNull cX4_mouldOrNull 2 (some (FieldType.object "MouldMatcher$Mould")) ∈ gAll := gIn 210 (by decide +kernel) (by decide +kernel)
theorem km_L_37 : Cond.methodLink "MouldMatcherLaw" 37 yX4_removeState ∈ gAll := gIn 211 (by decide +kernel) (by decide +kernel)
theorem ki_X4_removeState : Cond.instanceMethod yX4_removeState ∈ gAll := gIn 212 (by decide +kernel) (by decide +kernel)
theorem ks_X4_removeState : Cond.selects RX4 yX4_removeState yX4_removeState ∈ gAll := gIn 213 (by decide +kernel) (by decide +kernel)
theorem kc_X4_removeState : Cond.code yX4_removeState cX4_removeState 3 (some FieldType.int) ∈ gAll := gIn 214 (by decide +kernel) (by decide +kernel)
theorem km_L_41 : Cond.methodLink "MouldMatcherLaw" 41 yX4_stateCount ∈ gAll := gIn 215 (by decide +kernel) (by decide +kernel)
theorem ki_X4_stateCount : Cond.instanceMethod yX4_stateCount ∈ gAll := gIn 216 (by decide +kernel) (by decide +kernel)
theorem ks_X4_stateCount : Cond.selects RX4 yX4_stateCount yX4_stateCount ∈ gAll := gIn 217 (by decide +kernel) (by decide +kernel)
theorem kc_X4_stateCount : Cond.code yX4_stateCount cX4_stateCount 3 (some FieldType.int) ∈ gAll := gIn 218 (by decide +kernel) (by decide +kernel)
theorem km_L_45 : Cond.methodLink "MouldMatcherLaw" 45 yX4_areTwins ∈ gAll := gIn 219 (by decide +kernel) (by decide +kernel)
theorem ki_X4_areTwins : Cond.instanceMethod yX4_areTwins ∈ gAll := gIn 220 (by decide +kernel) (by decide +kernel)
theorem ks_X4_areTwins : Cond.selects RX4 yX4_areTwins yX4_areTwins ∈ gAll := gIn 221 (by decide +kernel) (by decide +kernel)
theorem kc_X4_areTwins : Cond.code yX4_areTwins cX4_areTwins 5 (some FieldType.int) ∈ gAll := gIn 222 (by decide +kernel) (by decide +kernel)
theorem km_X4_91 : Cond.methodLink RX4 91 yX4_couldBeTwins ∈ gAll := gIn 223 (by decide +kernel) (by decide +kernel)
theorem ki_X4_couldBeTwins : Cond.instanceMethod yX4_couldBeTwins ∈ gAll := gIn 225 (by decide +kernel) (by decide +kernel)
theorem kc_X4_couldBeTwins : Cond.code yX4_couldBeTwins cX4_couldBeTwins 3 (some FieldType.boolean) ∈ gAll := gIn 226 (by decide +kernel) (by decide +kernel)
theorem km_X4_107 : Cond.methodLink RX4 107 yX4_greatestSpacingDifference ∈ gAll := gIn 227 (by decide +kernel) (by decide +kernel)
theorem ki_X4_greatestSpacingDifference : Cond.static yX4_greatestSpacingDifference ∈ gAll := gIn 228 (by decide +kernel) (by decide +kernel)
theorem kc_X4_greatestSpacingDifference : Cond.code yX4_greatestSpacingDifference cX4_greatestSpacingDifference 5 (some FieldType.int) ∈ gAll := gIn 229 (by decide +kernel) (by decide +kernel)
theorem km_X4_179 : Cond.methodLink RX4 179 yJ9_min_7cf53 ∈ gAll := gIn 230 (by decide +kernel) (by decide +kernel)
theorem km_X4_98 : Cond.methodLink RX4 98 yJ9_abs_0f7a4 ∈ gAll := gIn 231 (by decide +kernel) (by decide +kernel)
theorem ki_J9_abs_0f7a4 : Cond.static yJ9_abs_0f7a4 ∈ gAll := gIn 232 (by decide +kernel) (by decide +kernel)
theorem kc_J9_abs_0f7a4 : Cond.code yJ9_abs_0f7a4 cJ9_abs_0f7a4 1 (some FieldType.int) ∈ gAll := gIn 233 (by decide +kernel) (by decide +kernel)
theorem km_X4_111 : Cond.methodLink RX4 111 yJ9_max_7cf53 ∈ gAll := gIn 234 (by decide +kernel) (by decide +kernel)
theorem ki_J9_max_7cf53 : Cond.static yJ9_max_7cf53 ∈ gAll := gIn 235 (by decide +kernel) (by decide +kernel)
theorem kc_J9_max_7cf53 : Cond.code yJ9_max_7cf53 cJ9_max_7cf53 2 (some FieldType.int) ∈ gAll := gIn 236 (by decide +kernel) (by decide +kernel)
theorem km_L_49 : Cond.methodLink "MouldMatcherLaw" 49 yX4_twinDifference ∈ gAll := gIn 237 (by decide +kernel) (by decide +kernel)
theorem ki_X4_twinDifference : Cond.instanceMethod yX4_twinDifference ∈ gAll := gIn 238 (by decide +kernel) (by decide +kernel)
theorem ks_X4_twinDifference : Cond.selects RX4 yX4_twinDifference yX4_twinDifference ∈ gAll := gIn 239 (by decide +kernel) (by decide +kernel)
theorem kc_X4_twinDifference : Cond.code yX4_twinDifference cX4_twinDifference 7 (some FieldType.int) ∈ gAll := gIn 240 (by decide +kernel) (by decide +kernel)
theorem km_L_53 : Cond.methodLink "MouldMatcherLaw" 53 yX4_addSheet ∈ gAll := gIn 241 (by decide +kernel) (by decide +kernel)
theorem ki_X4_addSheet : Cond.instanceMethod yX4_addSheet ∈ gAll := gIn 242 (by decide +kernel) (by decide +kernel)
theorem ks_X4_addSheet : Cond.selects RX4 yX4_addSheet yX4_addSheet ∈ gAll := gIn 243 (by decide +kernel) (by decide +kernel)
theorem kc_X4_addSheet : Cond.code yX4_addSheet cX4_addSheet 4 (some FieldType.int) ∈ gAll := gIn 244 (by decide +kernel) (by decide +kernel)
theorem kn_X2 : Cond.instantiable RX2 7 ∈ gAll := gIn 245 (by decide +kernel) (by decide +kernel)
theorem km_X4_115 : Cond.methodLink RX4 115 yX2_init ∈ gAll := gIn 246 (by decide +kernel) (by decide +kernel)
theorem ki_X2_init : Cond.instanceMethod yX2_init ∈ gAll := gIn 247 (by decide +kernel) (by decide +kernel)
theorem kc_X2_init : Cond.code yX2_init cX2_init 6 (none : Option FieldType) ∈ gAll := gIn 248 (by decide +kernel) (by decide +kernel)
theorem km_X2_3 : Cond.methodLink RX2 3 ⟨"java/lang/Object", "<init>", "()V"⟩ ∈ gAll := gIn 249 (by decide +kernel) (by decide +kernel)
theorem kk_X2_18 : Cond.classLink RX2 18 RX0 ∈ gAll := gIn 250 (by decide +kernel) (by decide +kernel)
theorem kn_X0 : Cond.instantiable RX0 7 ∈ gAll := gIn 252 (by decide +kernel) (by decide +kernel)
theorem ki_X0_init : Cond.instanceMethod yX0_init ∈ gAll := gIn 254 (by decide +kernel) (by decide +kernel)
theorem kc_X0_init : Cond.code yX0_init cX0_init 1 (none : Option FieldType) ∈ gAll := gIn 255 (by decide +kernel) (by decide +kernel)
theorem km_X0_3 : Cond.methodLink RX0 3 ⟨"java/lang/Object", "<init>", "()V"⟩ ∈ gAll := gIn 256 (by decide +kernel) (by decide +kernel)
theorem kf_X0_9 : Cond.fieldLink RX0 9 "MouldMatcher$Match" "known" "Z" ∈ gAll := gIn 257 (by decide +kernel) (by decide +kernel)
theorem kf_X4_186 : Cond.fieldLink RX4 186 "MouldMatcher$Match" "known" "Z" ∈ gAll := gIn 258 (by decide +kernel) (by decide +kernel)
theorem kf_X0_15 : Cond.fieldLink RX0 15 "MouldMatcher$Match" "possible" "Z" ∈ gAll := gIn 259 (by decide +kernel) (by decide +kernel)
theorem kf_X4_132 : Cond.fieldLink RX4 132 "MouldMatcher$Match" "possible" "Z" ∈ gAll := gIn 260 (by decide +kernel) (by decide +kernel)
theorem kf_X0_18 : Cond.fieldLink RX0 18 "MouldMatcher$Match" "score" "I" ∈ gAll := gIn 261 (by decide +kernel) (by decide +kernel)
theorem kf_X4_138 : Cond.fieldLink RX4 138 "MouldMatcher$Match" "score" "I" ∈ gAll := gIn 262 (by decide +kernel) (by decide +kernel)
theorem kf_X0_22 : Cond.fieldLink RX0 22 "MouldMatcher$Match" "orientation" "I" ∈ gAll := gIn 263 (by decide +kernel) (by decide +kernel)
theorem kf_X4_141 : Cond.fieldLink RX4 141 "MouldMatcher$Match" "orientation" "I" ∈ gAll := gIn 264 (by decide +kernel) (by decide +kernel)
theorem kf_X0_25 : Cond.fieldLink RX0 25 "MouldMatcher$Match" "offset" "I" ∈ gAll := gIn 265 (by decide +kernel) (by decide +kernel)
theorem kf_X4_144 : Cond.fieldLink RX4 144 "MouldMatcher$Match" "offset" "I" ∈ gAll := gIn 266 (by decide +kernel) (by decide +kernel)
theorem kf_X0_28 : Cond.fieldLink RX0 28 "MouldMatcher$Match" "factor" "I" ∈ gAll := gIn 267 (by decide +kernel) (by decide +kernel)
theorem kf_X4_147 : Cond.fieldLink RX4 147 "MouldMatcher$Match" "factor" "I" ∈ gAll := gIn 268 (by decide +kernel) (by decide +kernel)
theorem kf_X0_31 : Cond.fieldLink RX0 31 "MouldMatcher$Match" "state" "I" ∈ gAll := gIn 269 (by decide +kernel) (by decide +kernel)
theorem kf_X4_150 : Cond.fieldLink RX4 150 "MouldMatcher$Match" "state" "I" ∈ gAll := gIn 270 (by decide +kernel) (by decide +kernel)
theorem kf_X2_24 : Cond.fieldLink RX2 24 "MouldMatcher$Sheet" "spacings" "[I" ∈ gAll := gIn 286 (by decide +kernel) (by decide +kernel)
theorem kf_X3_31 : Cond.fieldLink RX3 31 "MouldMatcher$Sheet" "spacings" "[I" ∈ gAll := gIn 287 (by decide +kernel) (by decide +kernel)
theorem kf_X4_193 : Cond.fieldLink RX4 193 "MouldMatcher$Sheet" "spacings" "[I" ∈ gAll := gIn 288 (by decide +kernel) (by decide +kernel)
theorem kf_X2_28 : Cond.fieldLink RX2 28 "MouldMatcher$Sheet" "interval" "I" ∈ gAll := gIn 289 (by decide +kernel) (by decide +kernel)
theorem kf_X3_40 : Cond.fieldLink RX3 40 "MouldMatcher$Sheet" "interval" "I" ∈ gAll := gIn 290 (by decide +kernel) (by decide +kernel)
theorem kf_X2_31 : Cond.fieldLink RX2 31 "MouldMatcher$Sheet" "x" "I" ∈ gAll := gIn 291 (by decide +kernel) (by decide +kernel)
theorem kf_X3_41 : Cond.fieldLink RX3 41 "MouldMatcher$Sheet" "x" "I" ∈ gAll := gIn 292 (by decide +kernel) (by decide +kernel)
theorem kf_X2_34 : Cond.fieldLink RX2 34 "MouldMatcher$Sheet" "y" "I" ∈ gAll := gIn 293 (by decide +kernel) (by decide +kernel)
theorem kf_X3_42 : Cond.fieldLink RX3 42 "MouldMatcher$Sheet" "y" "I" ∈ gAll := gIn 294 (by decide +kernel) (by decide +kernel)
theorem kf_X2_9 : Cond.fieldLink RX2 9 "MouldMatcher$Sheet" "first" "I" ∈ gAll := gIn 295 (by decide +kernel) (by decide +kernel)
theorem kf_X4_122 : Cond.fieldLink RX4 122 "MouldMatcher$Sheet" "first" "I" ∈ gAll := gIn 296 (by decide +kernel) (by decide +kernel)
theorem kf_X2_15 : Cond.fieldLink RX2 15 "MouldMatcher$Sheet" "last" "I" ∈ gAll := gIn 297 (by decide +kernel) (by decide +kernel)
theorem kf_X4_125 : Cond.fieldLink RX4 125 "MouldMatcher$Sheet" "last" "I" ∈ gAll := gIn 298 (by decide +kernel) (by decide +kernel)
theorem kf_X2_20 : Cond.fieldLink RX2 20 "MouldMatcher$Sheet" "matches" "[LMouldMatcher$Match;" ∈ gAll := gIn 299 (by decide +kernel) (by decide +kernel)
theorem kf_X4_182 : Cond.fieldLink RX4 182 "MouldMatcher$Sheet" "matches" "[LMouldMatcher$Match;" ∈ gAll := gIn 300 (by decide +kernel) (by decide +kernel)
theorem km_L_57 : Cond.methodLink "MouldMatcherLaw" 57 yX4_setDates ∈ gAll := gIn 316 (by decide +kernel) (by decide +kernel)
theorem ki_X4_setDates : Cond.instanceMethod yX4_setDates ∈ gAll := gIn 317 (by decide +kernel) (by decide +kernel)
theorem ks_X4_setDates : Cond.selects RX4 yX4_setDates yX4_setDates ∈ gAll := gIn 318 (by decide +kernel) (by decide +kernel)
theorem kc_X4_setDates : Cond.code yX4_setDates cX4_setDates 5 (some FieldType.int) ∈ gAll := gIn 319 (by decide +kernel) (by decide +kernel)
theorem km_X4_118 : Cond.methodLink RX4 118 yX4_sheetOrNull ∈ gAll := gIn 320 (by decide +kernel) (by decide +kernel)
theorem ki_X4_sheetOrNull : Cond.instanceMethod yX4_sheetOrNull ∈ gAll := gIn 322 (by decide +kernel) (by decide +kernel)
theorem kc_X4_sheetOrNull : Cond.code yX4_sheetOrNull cX4_sheetOrNull 2 (some (FieldType.object "MouldMatcher$Sheet")) ∈ gAll := gIn 323 (by decide +kernel) (by decide +kernel)
theorem km_L_61 : Cond.methodLink "MouldMatcherLaw" 61 yX4_count ∈ gAll := gIn 324 (by decide +kernel) (by decide +kernel)
theorem ki_X4_count : Cond.instanceMethod yX4_count ∈ gAll := gIn 325 (by decide +kernel) (by decide +kernel)
theorem ks_X4_count : Cond.selects RX4 yX4_count yX4_count ∈ gAll := gIn 326 (by decide +kernel) (by decide +kernel)
theorem kc_X4_count : Cond.code yX4_count cX4_count 2 (some FieldType.int) ∈ gAll := gIn 327 (by decide +kernel) (by decide +kernel)
theorem km_L_65 : Cond.methodLink "MouldMatcherLaw" 65 yX4_score ∈ gAll := gIn 328 (by decide +kernel) (by decide +kernel)
theorem ki_X4_score : Cond.instanceMethod yX4_score ∈ gAll := gIn 329 (by decide +kernel) (by decide +kernel)
theorem ks_X4_score : Cond.selects RX4 yX4_score yX4_score ∈ gAll := gIn 330 (by decide +kernel) (by decide +kernel)
theorem kc_X4_score : Cond.code yX4_score cX4_score 5 (some FieldType.int) ∈ gAll := gIn 331 (by decide +kernel) (by decide +kernel)
theorem km_X4_128 : Cond.methodLink RX4 128 yX4_matchOf ∈ gAll := gIn 332 (by decide +kernel) (by decide +kernel)
theorem ki_X4_matchOf : Cond.instanceMethod yX4_matchOf ∈ gAll := gIn 334 (by decide +kernel) (by decide +kernel)
theorem kc_X4_matchOf : Cond.code yX4_matchOf cX4_matchOf 4 (some (FieldType.object "MouldMatcher$Match")) ∈ gAll := gIn 335 (by decide +kernel) (by decide +kernel)
theorem km_X4_189 : Cond.methodLink RX4 189 yX4_findBest ∈ gAll := gIn 336 (by decide +kernel) (by decide +kernel)
theorem ki_X4_findBest : Cond.instanceMethod yX4_findBest ∈ gAll := gIn 338 (by decide +kernel) (by decide +kernel)
theorem kc_X4_findBest : Cond.code yX4_findBest cX4_findBest 8 (none : Option FieldType) ∈ gAll := gIn 339 (by decide +kernel) (by decide +kernel)
theorem km_X4_194 : Cond.methodLink RX4 194 yX3_turn ∈ gAll := gIn 340 (by decide +kernel) (by decide +kernel)
theorem ki_X3_turn : Cond.instanceMethod yX3_turn ∈ gAll := gIn 341 (by decide +kernel) (by decide +kernel)
theorem ks_X3_turn : Cond.selects RX3 yX3_turn yX3_turn ∈ gAll := gIn 342 (by decide +kernel) (by decide +kernel)
theorem kc_X3_turn : Cond.code yX3_turn cX3_turn 6 (none : Option FieldType) ∈ gAll := gIn 343 (by decide +kernel) (by decide +kernel)
theorem km_X3_34 : Cond.methodLink RX3 34 yJ9_min_7cf53 ∈ gAll := gIn 344 (by decide +kernel) (by decide +kernel)
theorem km_X4_199 : Cond.methodLink RX4 199 yX4_tryPlacement ∈ gAll := gIn 345 (by decide +kernel) (by decide +kernel)
theorem ki_X4_tryPlacement : Cond.instanceMethod yX4_tryPlacement ∈ gAll := gIn 347 (by decide +kernel) (by decide +kernel)
theorem kc_X4_tryPlacement : Cond.code yX4_tryPlacement cX4_tryPlacement 7 (none : Option FieldType) ∈ gAll := gIn 348 (by decide +kernel) (by decide +kernel)
theorem km_X4_203 : Cond.methodLink RX4 203 yX4_spacingDeviations ∈ gAll := gIn 349 (by decide +kernel) (by decide +kernel)
theorem ki_X4_spacingDeviations : Cond.instanceMethod yX4_spacingDeviations ∈ gAll := gIn 351 (by decide +kernel) (by decide +kernel)
theorem kc_X4_spacingDeviations : Cond.code yX4_spacingDeviations cX4_spacingDeviations 7 (some FieldType.int) ∈ gAll := gIn 352 (by decide +kernel) (by decide +kernel)
theorem km_X4_207 : Cond.methodLink RX4 207 yX4_fittingState ∈ gAll := gIn 353 (by decide +kernel) (by decide +kernel)
theorem ki_X4_fittingState : Cond.instanceMethod yX4_fittingState ∈ gAll := gIn 355 (by decide +kernel) (by decide +kernel)
theorem kc_X4_fittingState : Cond.code yX4_fittingState cX4_fittingState 7 (some FieldType.int) ∈ gAll := gIn 356 (by decide +kernel) (by decide +kernel)
theorem km_X4_211 : Cond.methodLink RX4 211 yX4_markDeviation ∈ gAll := gIn 357 (by decide +kernel) (by decide +kernel)
theorem ki_X4_markDeviation : Cond.instanceMethod yX4_markDeviation ∈ gAll := gIn 359 (by decide +kernel) (by decide +kernel)
theorem kc_X4_markDeviation : Cond.code yX4_markDeviation cX4_markDeviation 6 (some FieldType.int) ∈ gAll := gIn 360 (by decide +kernel) (by decide +kernel)
theorem km_L_69 : Cond.methodLink "MouldMatcherLaw" 69 yX4_placement ∈ gAll := gIn 361 (by decide +kernel) (by decide +kernel)
theorem ki_X4_placement : Cond.instanceMethod yX4_placement ∈ gAll := gIn 362 (by decide +kernel) (by decide +kernel)
theorem ks_X4_placement : Cond.selects RX4 yX4_placement yX4_placement ∈ gAll := gIn 363 (by decide +kernel) (by decide +kernel)
theorem kc_X4_placement : Cond.code yX4_placement cX4_placement 6 (some FieldType.int) ∈ gAll := gIn 364 (by decide +kernel) (by decide +kernel)
theorem km_L_73 : Cond.methodLink "MouldMatcherLaw" 73 yX4_assignedMould ∈ gAll := gIn 365 (by decide +kernel) (by decide +kernel)
theorem ki_X4_assignedMould : Cond.instanceMethod yX4_assignedMould ∈ gAll := gIn 366 (by decide +kernel) (by decide +kernel)
theorem ks_X4_assignedMould : Cond.selects RX4 yX4_assignedMould yX4_assignedMould ∈ gAll := gIn 367 (by decide +kernel) (by decide +kernel)
theorem kc_X4_assignedMould : Cond.code yX4_assignedMould cX4_assignedMould 3 (some FieldType.int) ∈ gAll := gIn 368 (by decide +kernel) (by decide +kernel)
theorem km_X4_153 : Cond.methodLink RX4 153 yX4_mouldFor ∈ gAll := gIn 369 (by decide +kernel) (by decide +kernel)
theorem ki_X4_mouldFor : Cond.instanceMethod yX4_mouldFor ∈ gAll := gIn 371 (by decide +kernel) (by decide +kernel)
theorem kc_X4_mouldFor : Cond.code yX4_mouldFor cX4_mouldFor 6 (some FieldType.int) ∈ gAll := gIn 372 (by decide +kernel) (by decide +kernel)
theorem km_L_77 : Cond.methodLink "MouldMatcherLaw" 77 yX4_rivalCount ∈ gAll := gIn 373 (by decide +kernel) (by decide +kernel)
theorem ki_X4_rivalCount : Cond.instanceMethod yX4_rivalCount ∈ gAll := gIn 374 (by decide +kernel) (by decide +kernel)
theorem ks_X4_rivalCount : Cond.selects RX4 yX4_rivalCount yX4_rivalCount ∈ gAll := gIn 375 (by decide +kernel) (by decide +kernel)
theorem kc_X4_rivalCount : Cond.code yX4_rivalCount cX4_rivalCount 9 (some FieldType.int) ∈ gAll := gIn 376 (by decide +kernel) (by decide +kernel)
theorem km_L_81 : Cond.methodLink "MouldMatcherLaw" 81 yX4_sheetsOf ∈ gAll := gIn 377 (by decide +kernel) (by decide +kernel)
theorem ki_X4_sheetsOf : Cond.instanceMethod yX4_sheetsOf ∈ gAll := gIn 378 (by decide +kernel) (by decide +kernel)
theorem ks_X4_sheetsOf : Cond.selects RX4 yX4_sheetsOf yX4_sheetsOf ∈ gAll := gIn 379 (by decide +kernel) (by decide +kernel)
theorem kc_X4_sheetsOf : Cond.code yX4_sheetsOf cX4_sheetsOf 4 (some FieldType.int) ∈ gAll := gIn 380 (by decide +kernel) (by decide +kernel)
theorem km_L_85 : Cond.methodLink "MouldMatcherLaw" 85 yX4_sheetAt ∈ gAll := gIn 381 (by decide +kernel) (by decide +kernel)
theorem ki_X4_sheetAt : Cond.instanceMethod yX4_sheetAt ∈ gAll := gIn 382 (by decide +kernel) (by decide +kernel)
theorem ks_X4_sheetAt : Cond.selects RX4 yX4_sheetAt yX4_sheetAt ∈ gAll := gIn 383 (by decide +kernel) (by decide +kernel)
theorem kc_X4_sheetAt : Cond.code yX4_sheetAt cX4_sheetAt 4 (some FieldType.int) ∈ gAll := gIn 384 (by decide +kernel) (by decide +kernel)
theorem km_X4_157 : Cond.methodLink RX4 157 yX4_gatherStates ∈ gAll := gIn 385 (by decide +kernel) (by decide +kernel)
theorem ki_X4_gatherStates : Cond.instanceMethod yX4_gatherStates ∈ gAll := gIn 387 (by decide +kernel) (by decide +kernel)
theorem kc_X4_gatherStates : Cond.code yX4_gatherStates cX4_gatherStates 3 (none : Option FieldType) ∈ gAll := gIn 388 (by decide +kernel) (by decide +kernel)
theorem km_X4_160 : Cond.methodLink RX4 160 yX4_earliestOf ∈ gAll := gIn 389 (by decide +kernel) (by decide +kernel)
theorem ki_X4_earliestOf : Cond.instanceMethod yX4_earliestOf ∈ gAll := gIn 391 (by decide +kernel) (by decide +kernel)
theorem kc_X4_earliestOf : Cond.code yX4_earliestOf cX4_earliestOf 4 (some FieldType.int) ∈ gAll := gIn 392 (by decide +kernel) (by decide +kernel)
theorem km_X4_169 : Cond.methodLink RX4 169 yX4_isLowerState ∈ gAll := gIn 393 (by decide +kernel) (by decide +kernel)
theorem ki_X4_isLowerState : Cond.instanceMethod yX4_isLowerState ∈ gAll := gIn 395 (by decide +kernel) (by decide +kernel)
theorem kc_X4_isLowerState : Cond.code yX4_isLowerState cX4_isLowerState 3 (some FieldType.boolean) ∈ gAll := gIn 396 (by decide +kernel) (by decide +kernel)
theorem km_X4_163 : Cond.methodLink RX4 163 yX4_placeOf ∈ gAll := gIn 397 (by decide +kernel) (by decide +kernel)
theorem ki_X4_placeOf : Cond.instanceMethod yX4_placeOf ∈ gAll := gIn 399 (by decide +kernel) (by decide +kernel)
theorem kc_X4_placeOf : Cond.code yX4_placeOf cX4_placeOf 4 (some FieldType.int) ∈ gAll := gIn 400 (by decide +kernel) (by decide +kernel)
theorem km_X4_225 : Cond.methodLink RX4 225 yX4_comesBefore ∈ gAll := gIn 401 (by decide +kernel) (by decide +kernel)
theorem ki_X4_comesBefore : Cond.instanceMethod yX4_comesBefore ∈ gAll := gIn 403 (by decide +kernel) (by decide +kernel)
theorem kc_X4_comesBefore : Cond.code yX4_comesBefore cX4_comesBefore 3 (some FieldType.boolean) ∈ gAll := gIn 404 (by decide +kernel) (by decide +kernel)
theorem km_L_89 : Cond.methodLink "MouldMatcherLaw" 89 yX4_earliest ∈ gAll := gIn 405 (by decide +kernel) (by decide +kernel)
theorem ki_X4_earliest : Cond.instanceMethod yX4_earliest ∈ gAll := gIn 406 (by decide +kernel) (by decide +kernel)
theorem ks_X4_earliest : Cond.selects RX4 yX4_earliest yX4_earliest ∈ gAll := gIn 407 (by decide +kernel) (by decide +kernel)
theorem kc_X4_earliest : Cond.code yX4_earliest cX4_earliest 3 (some FieldType.int) ∈ gAll := gIn 408 (by decide +kernel) (by decide +kernel)
theorem km_L_93 : Cond.methodLink "MouldMatcherLaw" 93 yX4_latest ∈ gAll := gIn 409 (by decide +kernel) (by decide +kernel)
theorem ki_X4_latest : Cond.instanceMethod yX4_latest ∈ gAll := gIn 410 (by decide +kernel) (by decide +kernel)
theorem ks_X4_latest : Cond.selects RX4 yX4_latest yX4_latest ∈ gAll := gIn 411 (by decide +kernel) (by decide +kernel)
theorem kc_X4_latest : Cond.code yX4_latest cX4_latest 3 (some FieldType.int) ∈ gAll := gIn 412 (by decide +kernel) (by decide +kernel)
theorem km_X4_166 : Cond.methodLink RX4 166 yX4_latestOf ∈ gAll := gIn 413 (by decide +kernel) (by decide +kernel)
theorem ki_X4_latestOf : Cond.instanceMethod yX4_latestOf ∈ gAll := gIn 415 (by decide +kernel) (by decide +kernel)
theorem kc_X4_latestOf : Cond.code yX4_latestOf cX4_latestOf 4 (some FieldType.int) ∈ gAll := gIn 416 (by decide +kernel) (by decide +kernel)
theorem km_L_97 : Cond.methodLink "MouldMatcherLaw" 97 yX4_contradictionCount ∈ gAll := gIn 417 (by decide +kernel) (by decide +kernel)
theorem ki_X4_contradictionCount : Cond.instanceMethod yX4_contradictionCount ∈ gAll := gIn 418 (by decide +kernel) (by decide +kernel)
theorem ks_X4_contradictionCount : Cond.selects RX4 yX4_contradictionCount yX4_contradictionCount ∈ gAll := gIn 419 (by decide +kernel) (by decide +kernel)
theorem kc_X4_contradictionCount : Cond.code yX4_contradictionCount cX4_contradictionCount 5 (some FieldType.int) ∈ gAll := gIn 420 (by decide +kernel) (by decide +kernel)
theorem kk_L_10 : Cond.classLink "MouldMatcherLaw" 10 RX5 ∈ gAll := gIn 421 (by decide +kernel) (by decide +kernel)
theorem kn_X5 : Cond.instantiable RX5 28 ∈ gAll := gIn 422 (by decide +kernel) (by decide +kernel)
theorem km_L_12 : Cond.methodLink "MouldMatcherLaw" 12 yX5_init ∈ gAll := gIn 423 (by decide +kernel) (by decide +kernel)
theorem ki_X5_init : Cond.instanceMethod yX5_init ∈ gAll := gIn 424 (by decide +kernel) (by decide +kernel)
theorem kc_X5_init : Cond.code yX5_init cX5_init 1 (none : Option FieldType) ∈ gAll := gIn 425 (by decide +kernel) (by decide +kernel)
theorem km_X5_1 : Cond.methodLink RX5 1 ⟨"java/lang/Object", "<init>", "()V"⟩ ∈ gAll := gIn 426 (by decide +kernel) (by decide +kernel)
theorem kf_X5_7 : Cond.fieldLink RX5 7 "MouldMatcherModel" "row" "[I" ∈ gAll := gIn 427 (by decide +kernel) (by decide +kernel)
theorem kf_X5_68 : Cond.fieldLink RX5 68 "MouldMatcherModel" "rowSize" "I" ∈ gAll := gIn 428 (by decide +kernel) (by decide +kernel)
theorem kf_X5_13 : Cond.fieldLink RX5 13 "MouldMatcherModel" "spacingTolerance" "I" ∈ gAll := gIn 429 (by decide +kernel) (by decide +kernel)
theorem kf_X5_17 : Cond.fieldLink RX5 17 "MouldMatcherModel" "markTolerance" "I" ∈ gAll := gIn 430 (by decide +kernel) (by decide +kernel)
theorem kf_X5_75 : Cond.fieldLink RX5 75 "MouldMatcherModel" "moulds" "I" ∈ gAll := gIn 431 (by decide +kernel) (by decide +kernel)
theorem kf_X5_20 : Cond.fieldLink RX5 20 "MouldMatcherModel" "mouldSize" "[I" ∈ gAll := gIn 432 (by decide +kernel) (by decide +kernel)
theorem kf_X5_23 : Cond.fieldLink RX5 23 "MouldMatcherModel" "mouldRow" "[I" ∈ gAll := gIn 433 (by decide +kernel) (by decide +kernel)
theorem kf_X5_26 : Cond.fieldLink RX5 26 "MouldMatcherModel" "markIn" "[I" ∈ gAll := gIn 434 (by decide +kernel) (by decide +kernel)
theorem kf_X5_29 : Cond.fieldLink RX5 29 "MouldMatcherModel" "states" "[I" ∈ gAll := gIn 435 (by decide +kernel) (by decide +kernel)
theorem kf_X5_32 : Cond.fieldLink RX5 32 "MouldMatcherModel" "stateX" "[I" ∈ gAll := gIn 436 (by decide +kernel) (by decide +kernel)
theorem kf_X5_35 : Cond.fieldLink RX5 35 "MouldMatcherModel" "stateY" "[I" ∈ gAll := gIn 437 (by decide +kernel) (by decide +kernel)
theorem kf_X5_99 : Cond.fieldLink RX5 99 "MouldMatcherModel" "sheets" "I" ∈ gAll := gIn 438 (by decide +kernel) (by decide +kernel)
theorem kf_X5_38 : Cond.fieldLink RX5 38 "MouldMatcherModel" "sheetSize" "[I" ∈ gAll := gIn 439 (by decide +kernel) (by decide +kernel)
theorem kf_X5_41 : Cond.fieldLink RX5 41 "MouldMatcherModel" "sheetRow" "[I" ∈ gAll := gIn 440 (by decide +kernel) (by decide +kernel)
theorem kf_X5_44 : Cond.fieldLink RX5 44 "MouldMatcherModel" "seenIn" "[I" ∈ gAll := gIn 441 (by decide +kernel) (by decide +kernel)
theorem kf_X5_47 : Cond.fieldLink RX5 47 "MouldMatcherModel" "seenX" "[I" ∈ gAll := gIn 442 (by decide +kernel) (by decide +kernel)
theorem kf_X5_50 : Cond.fieldLink RX5 50 "MouldMatcherModel" "seenY" "[I" ∈ gAll := gIn 443 (by decide +kernel) (by decide +kernel)
theorem kf_X5_53 : Cond.fieldLink RX5 53 "MouldMatcherModel" "firstDate" "[I" ∈ gAll := gIn 444 (by decide +kernel) (by decide +kernel)
theorem kf_X5_56 : Cond.fieldLink RX5 56 "MouldMatcherModel" "lastDate" "[I" ∈ gAll := gIn 445 (by decide +kernel) (by decide +kernel)
theorem kf_X5_105 : Cond.fieldLink RX5 105 "MouldMatcherModel" "triedState" "I" ∈ gAll := gIn 446 (by decide +kernel) (by decide +kernel)
theorem kf_X5_116 : Cond.fieldLink RX5 116 "MouldMatcherModel" "bestScore" "I" ∈ gAll := gIn 447 (by decide +kernel) (by decide +kernel)
theorem kf_X5_123 : Cond.fieldLink RX5 123 "MouldMatcherModel" "bestTurn" "I" ∈ gAll := gIn 448 (by decide +kernel) (by decide +kernel)
theorem kf_X5_126 : Cond.fieldLink RX5 126 "MouldMatcherModel" "bestOffset" "I" ∈ gAll := gIn 449 (by decide +kernel) (by decide +kernel)
theorem kf_X5_129 : Cond.fieldLink RX5 129 "MouldMatcherModel" "bestFactor" "I" ∈ gAll := gIn 450 (by decide +kernel) (by decide +kernel)
theorem kf_X5_132 : Cond.fieldLink RX5 132 "MouldMatcherModel" "bestState" "I" ∈ gAll := gIn 451 (by decide +kernel) (by decide +kernel)
theorem kf_X5_59 : Cond.fieldLink RX5 59 "MouldMatcherModel" "mouldOf" "[I" ∈ gAll := gIn 452 (by decide +kernel) (by decide +kernel)
theorem kf_X5_62 : Cond.fieldLink RX5 62 "MouldMatcherModel" "stateOf" "[I" ∈ gAll := gIn 453 (by decide +kernel) (by decide +kernel)
theorem kf_X5_65 : Cond.fieldLink RX5 65 "MouldMatcherModel" "scoreBy" "[I" ∈ gAll := gIn 454 (by decide +kernel) (by decide +kernel)
theorem km_L_17 : Cond.methodLink "MouldMatcherLaw" 17 yX5_clearRow ∈ gAll := gIn 512 (by decide +kernel) (by decide +kernel)
theorem ki_X5_clearRow : Cond.instanceMethod yX5_clearRow ∈ gAll := gIn 513 (by decide +kernel) (by decide +kernel)
theorem ks_X5_clearRow : Cond.selects RX5 yX5_clearRow yX5_clearRow ∈ gAll := gIn 514 (by decide +kernel) (by decide +kernel)
theorem kc_X5_clearRow : Cond.code yX5_clearRow cX5_clearRow 2 (some FieldType.int) ∈ gAll := gIn 515 (by decide +kernel) (by decide +kernel)
theorem km_L_22 : Cond.methodLink "MouldMatcherLaw" 22 yX5_addToRow ∈ gAll := gIn 516 (by decide +kernel) (by decide +kernel)
theorem ki_X5_addToRow : Cond.instanceMethod yX5_addToRow ∈ gAll := gIn 517 (by decide +kernel) (by decide +kernel)
theorem ks_X5_addToRow : Cond.selects RX5 yX5_addToRow yX5_addToRow ∈ gAll := gIn 518 (by decide +kernel) (by decide +kernel)
theorem kc_X5_addToRow : Cond.code yX5_addToRow cX5_addToRow 2 (some FieldType.int) ∈ gAll := gIn 519 (by decide +kernel) (by decide +kernel)
theorem km_X5_71 : Cond.methodLink RX5 71 yX5_within ∈ gAll := gIn 520 (by decide +kernel) (by decide +kernel)
theorem ki_X5_within : Cond.static yX5_within ∈ gAll := gIn 521 (by decide +kernel) (by decide +kernel)
theorem kc_X5_within : Cond.code yX5_within cX5_within 3 (some FieldType.boolean) ∈ gAll := gIn 522 (by decide +kernel) (by decide +kernel)
theorem km_L_27 : Cond.methodLink "MouldMatcherLaw" 27 yX5_setTolerances ∈ gAll := gIn 523 (by decide +kernel) (by decide +kernel)
theorem ki_X5_setTolerances : Cond.instanceMethod yX5_setTolerances ∈ gAll := gIn 524 (by decide +kernel) (by decide +kernel)
theorem ks_X5_setTolerances : Cond.selects RX5 yX5_setTolerances yX5_setTolerances ∈ gAll := gIn 525 (by decide +kernel) (by decide +kernel)
theorem kc_X5_setTolerances : Cond.code yX5_setTolerances cX5_setTolerances 4 (some FieldType.int) ∈ gAll := gIn 526 (by decide +kernel) (by decide +kernel)
theorem km_L_32 : Cond.methodLink "MouldMatcherLaw" 32 yX5_addMould ∈ gAll := gIn 527 (by decide +kernel) (by decide +kernel)
theorem ki_X5_addMould : Cond.instanceMethod yX5_addMould ∈ gAll := gIn 528 (by decide +kernel) (by decide +kernel)
theorem ks_X5_addMould : Cond.selects RX5 yX5_addMould yX5_addMould ∈ gAll := gIn 529 (by decide +kernel) (by decide +kernel)
theorem kc_X5_addMould : Cond.code yX5_addMould cX5_addMould 5 (some FieldType.int) ∈ gAll := gIn 530 (by decide +kernel) (by decide +kernel)
theorem km_X5_78 : Cond.methodLink RX5 78 yX5_isMark ∈ gAll := gIn 531 (by decide +kernel) (by decide +kernel)
theorem ki_X5_isMark : Cond.instanceMethod yX5_isMark ∈ gAll := gIn 533 (by decide +kernel) (by decide +kernel)
theorem kc_X5_isMark : Cond.code yX5_isMark cX5_isMark 4 (some FieldType.boolean) ∈ gAll := gIn 534 (by decide +kernel) (by decide +kernel)
theorem km_X5_81 : Cond.methodLink RX5 81 yX5_putState ∈ gAll := gIn 535 (by decide +kernel) (by decide +kernel)
theorem ki_X5_putState : Cond.instanceMethod yX5_putState ∈ gAll := gIn 537 (by decide +kernel) (by decide +kernel)
theorem kc_X5_putState : Cond.code yX5_putState cX5_putState 4 (none : Option FieldType) ∈ gAll := gIn 538 (by decide +kernel) (by decide +kernel)
theorem km_L_36 : Cond.methodLink "MouldMatcherLaw" 36 yX5_addState ∈ gAll := gIn 539 (by decide +kernel) (by decide +kernel)
theorem ki_X5_addState : Cond.instanceMethod yX5_addState ∈ gAll := gIn 540 (by decide +kernel) (by decide +kernel)
theorem ks_X5_addState : Cond.selects RX5 yX5_addState yX5_addState ∈ gAll := gIn 541 (by decide +kernel) (by decide +kernel)
theorem kc_X5_addState : Cond.code yX5_addState cX5_addState 4 (some FieldType.int) ∈ gAll := gIn 542 (by decide +kernel) (by decide +kernel)
theorem km_X5_85 : Cond.methodLink RX5 85 yX5_noMould ∈ gAll := gIn 543 (by decide +kernel) (by decide +kernel)
theorem ki_X5_noMould : Cond.instanceMethod yX5_noMould ∈ gAll := gIn 545 (by decide +kernel) (by decide +kernel)
theorem kc_X5_noMould : Cond.code yX5_noMould cX5_noMould 2 (some FieldType.boolean) ∈ gAll := gIn 546 (by decide +kernel) (by decide +kernel)
theorem km_L_40 : Cond.methodLink "MouldMatcherLaw" 40 yX5_removeState ∈ gAll := gIn 547 (by decide +kernel) (by decide +kernel)
theorem ki_X5_removeState : Cond.instanceMethod yX5_removeState ∈ gAll := gIn 548 (by decide +kernel) (by decide +kernel)
theorem ks_X5_removeState : Cond.selects RX5 yX5_removeState yX5_removeState ∈ gAll := gIn 549 (by decide +kernel) (by decide +kernel)
theorem kc_X5_removeState : Cond.code yX5_removeState cX5_removeState 2 (some FieldType.int) ∈ gAll := gIn 550 (by decide +kernel) (by decide +kernel)
theorem km_L_44 : Cond.methodLink "MouldMatcherLaw" 44 yX5_stateCount ∈ gAll := gIn 551 (by decide +kernel) (by decide +kernel)
theorem ki_X5_stateCount : Cond.instanceMethod yX5_stateCount ∈ gAll := gIn 552 (by decide +kernel) (by decide +kernel)
theorem ks_X5_stateCount : Cond.selects RX5 yX5_stateCount yX5_stateCount ∈ gAll := gIn 553 (by decide +kernel) (by decide +kernel)
theorem kc_X5_stateCount : Cond.code yX5_stateCount cX5_stateCount 2 (some FieldType.int) ∈ gAll := gIn 554 (by decide +kernel) (by decide +kernel)
theorem km_L_48 : Cond.methodLink "MouldMatcherLaw" 48 yX5_areTwins ∈ gAll := gIn 555 (by decide +kernel) (by decide +kernel)
theorem ki_X5_areTwins : Cond.instanceMethod yX5_areTwins ∈ gAll := gIn 556 (by decide +kernel) (by decide +kernel)
theorem ks_X5_areTwins : Cond.selects RX5 yX5_areTwins yX5_areTwins ∈ gAll := gIn 557 (by decide +kernel) (by decide +kernel)
theorem kc_X5_areTwins : Cond.code yX5_areTwins cX5_areTwins 4 (some FieldType.int) ∈ gAll := gIn 558 (by decide +kernel) (by decide +kernel)
theorem km_X5_93 : Cond.methodLink RX5 93 yX5_twoBarred ∈ gAll := gIn 559 (by decide +kernel) (by decide +kernel)
theorem ki_X5_twoBarred : Cond.instanceMethod yX5_twoBarred ∈ gAll := gIn 561 (by decide +kernel) (by decide +kernel)
theorem kc_X5_twoBarred : Cond.code yX5_twoBarred cX5_twoBarred 3 (some FieldType.int) ∈ gAll := gIn 562 (by decide +kernel) (by decide +kernel)
theorem km_X5_96 : Cond.methodLink RX5 96 yX5_twinSpacings ∈ gAll := gIn 563 (by decide +kernel) (by decide +kernel)
theorem ki_X5_twinSpacings : Cond.instanceMethod yX5_twinSpacings ∈ gAll := gIn 565 (by decide +kernel) (by decide +kernel)
theorem kc_X5_twinSpacings : Cond.code yX5_twinSpacings cX5_twinSpacings 6 (some FieldType.int) ∈ gAll := gIn 566 (by decide +kernel) (by decide +kernel)
theorem km_X5_89 : Cond.methodLink RX5 89 yX5_apart ∈ gAll := gIn 567 (by decide +kernel) (by decide +kernel)
theorem ki_X5_apart : Cond.static yX5_apart ∈ gAll := gIn 568 (by decide +kernel) (by decide +kernel)
theorem kc_X5_apart : Cond.code yX5_apart cX5_apart 2 (some FieldType.int) ∈ gAll := gIn 569 (by decide +kernel) (by decide +kernel)
theorem km_L_52 : Cond.methodLink "MouldMatcherLaw" 52 yX5_twinDifference ∈ gAll := gIn 570 (by decide +kernel) (by decide +kernel)
theorem ki_X5_twinDifference : Cond.instanceMethod yX5_twinDifference ∈ gAll := gIn 571 (by decide +kernel) (by decide +kernel)
theorem ks_X5_twinDifference : Cond.selects RX5 yX5_twinDifference yX5_twinDifference ∈ gAll := gIn 572 (by decide +kernel) (by decide +kernel)
theorem kc_X5_twinDifference : Cond.code yX5_twinDifference cX5_twinDifference 7 (some FieldType.int) ∈ gAll := gIn 573 (by decide +kernel) (by decide +kernel)
theorem km_L_56 : Cond.methodLink "MouldMatcherLaw" 56 yX5_addSheet ∈ gAll := gIn 574 (by decide +kernel) (by decide +kernel)
theorem ki_X5_addSheet : Cond.instanceMethod yX5_addSheet ∈ gAll := gIn 575 (by decide +kernel) (by decide +kernel)
theorem ks_X5_addSheet : Cond.selects RX5 yX5_addSheet yX5_addSheet ∈ gAll := gIn 576 (by decide +kernel) (by decide +kernel)
theorem kc_X5_addSheet : Cond.code yX5_addSheet cX5_addSheet 5 (some FieldType.int) ∈ gAll := gIn 577 (by decide +kernel) (by decide +kernel)
theorem km_L_60 : Cond.methodLink "MouldMatcherLaw" 60 yX5_setDates ∈ gAll := gIn 578 (by decide +kernel) (by decide +kernel)
theorem ki_X5_setDates : Cond.instanceMethod yX5_setDates ∈ gAll := gIn 579 (by decide +kernel) (by decide +kernel)
theorem ks_X5_setDates : Cond.selects RX5 yX5_setDates yX5_setDates ∈ gAll := gIn 580 (by decide +kernel) (by decide +kernel)
theorem kc_X5_setDates : Cond.code yX5_setDates cX5_setDates 5 (some FieldType.int) ∈ gAll := gIn 581 (by decide +kernel) (by decide +kernel)
theorem km_X5_102 : Cond.methodLink RX5 102 yX5_noSheet ∈ gAll := gIn 582 (by decide +kernel) (by decide +kernel)
theorem ki_X5_noSheet : Cond.instanceMethod yX5_noSheet ∈ gAll := gIn 584 (by decide +kernel) (by decide +kernel)
theorem kc_X5_noSheet : Cond.code yX5_noSheet cX5_noSheet 2 (some FieldType.boolean) ∈ gAll := gIn 585 (by decide +kernel) (by decide +kernel)
theorem km_L_64 : Cond.methodLink "MouldMatcherLaw" 64 yX5_count ∈ gAll := gIn 586 (by decide +kernel) (by decide +kernel)
theorem ki_X5_count : Cond.instanceMethod yX5_count ∈ gAll := gIn 587 (by decide +kernel) (by decide +kernel)
theorem ks_X5_count : Cond.selects RX5 yX5_count yX5_count ∈ gAll := gIn 588 (by decide +kernel) (by decide +kernel)
theorem kc_X5_count : Cond.code yX5_count cX5_count 2 (some FieldType.int) ∈ gAll := gIn 589 (by decide +kernel) (by decide +kernel)
theorem km_L_68 : Cond.methodLink "MouldMatcherLaw" 68 yX5_score ∈ gAll := gIn 590 (by decide +kernel) (by decide +kernel)
theorem ki_X5_score : Cond.instanceMethod yX5_score ∈ gAll := gIn 591 (by decide +kernel) (by decide +kernel)
theorem ks_X5_score : Cond.selects RX5 yX5_score yX5_score ∈ gAll := gIn 592 (by decide +kernel) (by decide +kernel)
theorem kc_X5_score : Cond.code yX5_score cX5_score 4 (some FieldType.int) ∈ gAll := gIn 593 (by decide +kernel) (by decide +kernel)
theorem km_X5_135 : Cond.methodLink RX5 135 yX5_bothBarred ∈ gAll := gIn 594 (by decide +kernel) (by decide +kernel)
theorem ki_X5_bothBarred : Cond.instanceMethod yX5_bothBarred ∈ gAll := gIn 596 (by decide +kernel) (by decide +kernel)
theorem kc_X5_bothBarred : Cond.code yX5_bothBarred cX5_bothBarred 3 (some FieldType.int) ∈ gAll := gIn 597 (by decide +kernel) (by decide +kernel)
theorem km_X5_138 : Cond.methodLink RX5 138 yX5_findBest ∈ gAll := gIn 598 (by decide +kernel) (by decide +kernel)
theorem ki_X5_findBest : Cond.instanceMethod yX5_findBest ∈ gAll := gIn 600 (by decide +kernel) (by decide +kernel)
theorem kc_X5_findBest : Cond.code yX5_findBest cX5_findBest 7 (none : Option FieldType) ∈ gAll := gIn 601 (by decide +kernel) (by decide +kernel)
theorem km_X5_119 : Cond.methodLink RX5 119 yX5_scoreOf ∈ gAll := gIn 602 (by decide +kernel) (by decide +kernel)
theorem ki_X5_scoreOf : Cond.instanceMethod yX5_scoreOf ∈ gAll := gIn 604 (by decide +kernel) (by decide +kernel)
theorem kc_X5_scoreOf : Cond.code yX5_scoreOf cX5_scoreOf 13 (some FieldType.int) ∈ gAll := gIn 605 (by decide +kernel) (by decide +kernel)
theorem km_X5_108 : Cond.methodLink RX5 108 yX5_spacingScore ∈ gAll := gIn 606 (by decide +kernel) (by decide +kernel)
theorem ki_X5_spacingScore : Cond.instanceMethod yX5_spacingScore ∈ gAll := gIn 608 (by decide +kernel) (by decide +kernel)
theorem kc_X5_spacingScore : Cond.code yX5_spacingScore cX5_spacingScore 11 (some FieldType.int) ∈ gAll := gIn 609 (by decide +kernel) (by decide +kernel)
theorem km_X5_112 : Cond.methodLink RX5 112 yX5_markScore ∈ gAll := gIn 610 (by decide +kernel) (by decide +kernel)
theorem ki_X5_markScore : Cond.instanceMethod yX5_markScore ∈ gAll := gIn 612 (by decide +kernel) (by decide +kernel)
theorem kc_X5_markScore : Cond.code yX5_markScore cX5_markScore 10 (some FieldType.int) ∈ gAll := gIn 613 (by decide +kernel) (by decide +kernel)
theorem km_L_72 : Cond.methodLink "MouldMatcherLaw" 72 yX5_placement ∈ gAll := gIn 614 (by decide +kernel) (by decide +kernel)
theorem ki_X5_placement : Cond.instanceMethod yX5_placement ∈ gAll := gIn 615 (by decide +kernel) (by decide +kernel)
theorem ks_X5_placement : Cond.selects RX5 yX5_placement yX5_placement ∈ gAll := gIn 616 (by decide +kernel) (by decide +kernel)
theorem kc_X5_placement : Cond.code yX5_placement cX5_placement 5 (some FieldType.int) ∈ gAll := gIn 617 (by decide +kernel) (by decide +kernel)
theorem km_L_76 : Cond.methodLink "MouldMatcherLaw" 76 yX5_assignedMould ∈ gAll := gIn 618 (by decide +kernel) (by decide +kernel)
theorem ki_X5_assignedMould : Cond.instanceMethod yX5_assignedMould ∈ gAll := gIn 619 (by decide +kernel) (by decide +kernel)
theorem ks_X5_assignedMould : Cond.selects RX5 yX5_assignedMould yX5_assignedMould ∈ gAll := gIn 620 (by decide +kernel) (by decide +kernel)
theorem kc_X5_assignedMould : Cond.code yX5_assignedMould cX5_assignedMould 2 (some FieldType.int) ∈ gAll := gIn 621 (by decide +kernel) (by decide +kernel)
theorem km_X5_142 : Cond.methodLink RX5 142 yX5_assign ∈ gAll := gIn 622 (by decide +kernel) (by decide +kernel)
theorem ki_X5_assign : Cond.instanceMethod yX5_assign ∈ gAll := gIn 624 (by decide +kernel) (by decide +kernel)
theorem kc_X5_assign : Cond.code yX5_assign cX5_assign 3 (none : Option FieldType) ∈ gAll := gIn 625 (by decide +kernel) (by decide +kernel)
theorem km_L_80 : Cond.methodLink "MouldMatcherLaw" 80 yX5_rivalCount ∈ gAll := gIn 626 (by decide +kernel) (by decide +kernel)
theorem ki_X5_rivalCount : Cond.instanceMethod yX5_rivalCount ∈ gAll := gIn 627 (by decide +kernel) (by decide +kernel)
theorem ks_X5_rivalCount : Cond.selects RX5 yX5_rivalCount yX5_rivalCount ∈ gAll := gIn 628 (by decide +kernel) (by decide +kernel)
theorem kc_X5_rivalCount : Cond.code yX5_rivalCount cX5_rivalCount 5 (some FieldType.int) ∈ gAll := gIn 629 (by decide +kernel) (by decide +kernel)
theorem km_L_84 : Cond.methodLink "MouldMatcherLaw" 84 yX5_sheetsOf ∈ gAll := gIn 630 (by decide +kernel) (by decide +kernel)
theorem ki_X5_sheetsOf : Cond.instanceMethod yX5_sheetsOf ∈ gAll := gIn 631 (by decide +kernel) (by decide +kernel)
theorem ks_X5_sheetsOf : Cond.selects RX5 yX5_sheetsOf yX5_sheetsOf ∈ gAll := gIn 632 (by decide +kernel) (by decide +kernel)
theorem kc_X5_sheetsOf : Cond.code yX5_sheetsOf cX5_sheetsOf 4 (some FieldType.int) ∈ gAll := gIn 633 (by decide +kernel) (by decide +kernel)
theorem km_X5_146 : Cond.methodLink RX5 146 yX5_assignAll ∈ gAll := gIn 634 (by decide +kernel) (by decide +kernel)
theorem ki_X5_assignAll : Cond.instanceMethod yX5_assignAll ∈ gAll := gIn 636 (by decide +kernel) (by decide +kernel)
theorem kc_X5_assignAll : Cond.code yX5_assignAll cX5_assignAll 2 (none : Option FieldType) ∈ gAll := gIn 637 (by decide +kernel) (by decide +kernel)
theorem km_L_92 : Cond.methodLink "MouldMatcherLaw" 92 yX5_earliest ∈ gAll := gIn 638 (by decide +kernel) (by decide +kernel)
theorem ki_X5_earliest : Cond.instanceMethod yX5_earliest ∈ gAll := gIn 639 (by decide +kernel) (by decide +kernel)
theorem ks_X5_earliest : Cond.selects RX5 yX5_earliest yX5_earliest ∈ gAll := gIn 640 (by decide +kernel) (by decide +kernel)
theorem kc_X5_earliest : Cond.code yX5_earliest cX5_earliest 2 (some FieldType.int) ∈ gAll := gIn 641 (by decide +kernel) (by decide +kernel)
theorem km_X5_153 : Cond.methodLink RX5 153 yX5_earliestOf ∈ gAll := gIn 642 (by decide +kernel) (by decide +kernel)
theorem ki_X5_earliestOf : Cond.instanceMethod yX5_earliestOf ∈ gAll := gIn 644 (by decide +kernel) (by decide +kernel)
theorem kc_X5_earliestOf : Cond.code yX5_earliestOf cX5_earliestOf 4 (some FieldType.int) ∈ gAll := gIn 645 (by decide +kernel) (by decide +kernel)
theorem km_X5_149 : Cond.methodLink RX5 149 yX5_isLower ∈ gAll := gIn 646 (by decide +kernel) (by decide +kernel)
theorem ki_X5_isLower : Cond.instanceMethod yX5_isLower ∈ gAll := gIn 648 (by decide +kernel) (by decide +kernel)
theorem kc_X5_isLower : Cond.code yX5_isLower cX5_isLower 3 (some FieldType.boolean) ∈ gAll := gIn 649 (by decide +kernel) (by decide +kernel)
theorem km_L_96 : Cond.methodLink "MouldMatcherLaw" 96 yX5_latest ∈ gAll := gIn 650 (by decide +kernel) (by decide +kernel)
theorem ki_X5_latest : Cond.instanceMethod yX5_latest ∈ gAll := gIn 651 (by decide +kernel) (by decide +kernel)
theorem ks_X5_latest : Cond.selects RX5 yX5_latest yX5_latest ∈ gAll := gIn 652 (by decide +kernel) (by decide +kernel)
theorem kc_X5_latest : Cond.code yX5_latest cX5_latest 4 (some FieldType.int) ∈ gAll := gIn 653 (by decide +kernel) (by decide +kernel)
theorem km_L_88 : Cond.methodLink "MouldMatcherLaw" 88 yX5_sheetAt ∈ gAll := gIn 654 (by decide +kernel) (by decide +kernel)
theorem ki_X5_sheetAt : Cond.instanceMethod yX5_sheetAt ∈ gAll := gIn 655 (by decide +kernel) (by decide +kernel)
theorem ks_X5_sheetAt : Cond.selects RX5 yX5_sheetAt yX5_sheetAt ∈ gAll := gIn 656 (by decide +kernel) (by decide +kernel)
theorem kc_X5_sheetAt : Cond.code yX5_sheetAt cX5_sheetAt 6 (some FieldType.int) ∈ gAll := gIn 657 (by decide +kernel) (by decide +kernel)
theorem km_X5_157 : Cond.methodLink RX5 157 yX5_isPlaced ∈ gAll := gIn 658 (by decide +kernel) (by decide +kernel)
theorem ki_X5_isPlaced : Cond.instanceMethod yX5_isPlaced ∈ gAll := gIn 660 (by decide +kernel) (by decide +kernel)
theorem kc_X5_isPlaced : Cond.code yX5_isPlaced cX5_isPlaced 3 (some FieldType.boolean) ∈ gAll := gIn 661 (by decide +kernel) (by decide +kernel)
theorem km_X5_160 : Cond.methodLink RX5 160 yX5_isAhead ∈ gAll := gIn 662 (by decide +kernel) (by decide +kernel)
theorem ki_X5_isAhead : Cond.instanceMethod yX5_isAhead ∈ gAll := gIn 664 (by decide +kernel) (by decide +kernel)
theorem kc_X5_isAhead : Cond.code yX5_isAhead cX5_isAhead 5 (some FieldType.boolean) ∈ gAll := gIn 665 (by decide +kernel) (by decide +kernel)
theorem km_L_100 : Cond.methodLink "MouldMatcherLaw" 100 yX5_contradictionCount ∈ gAll := gIn 666 (by decide +kernel) (by decide +kernel)
theorem ki_X5_contradictionCount : Cond.instanceMethod yX5_contradictionCount ∈ gAll := gIn 667 (by decide +kernel) (by decide +kernel)
theorem ks_X5_contradictionCount : Cond.selects RX5 yX5_contradictionCount yX5_contradictionCount ∈ gAll := gIn 668 (by decide +kernel) (by decide +kernel)
theorem kc_X5_contradictionCount : Cond.code yX5_contradictionCount cX5_contradictionCount 5 (some FieldType.int) ∈ gAll := gIn 669 (by decide +kernel) (by decide +kernel)
set_option maxRecDepth 20000 in
theorem kl_X0 : ∀ w ∈ u_ws RX0 TX0 7, w ∈ gAll := by decide +kernel
set_option maxRecDepth 20000 in
theorem kl_X1 : ∀ w ∈ u_ws RX1 TX1 6, w ∈ gAll := by decide +kernel
set_option maxRecDepth 20000 in
theorem kl_X2 : ∀ w ∈ u_ws RX2 TX2 7, w ∈ gAll := by decide +kernel
set_option maxRecDepth 20000 in
theorem kl_X3 : ∀ w ∈ u_ws RX3 TX3 6, w ∈ gAll := by decide +kernel
set_option maxRecDepth 20000 in
theorem kl_X4 : ∀ w ∈ u_ws RX4 TX4 11, w ∈ gAll := by decide +kernel
set_option maxRecDepth 20000 in
theorem kl_X5 : ∀ w ∈ u_ws RX5 TX5 28, w ∈ gAll := by decide +kernel
end
section
/-! ===== the world: cells by labels (lo: the address of a label, en: what its cell holds) ===== -/
abbrev gE : Type := Nat → Option va_E
abbrev gL : Type := Nat → Nat
abbrev gX : Type := va_G × (Nat → ClassId)
def g_tys (Y : Nat → ClassId) : List (ClassId × FieldType) := [(Y 0, .int), (Y 1, .object RX1), (Y 2, .object RX2), (Y 3, .object RX0)]
/-- what the tables say, as far as it goes with every state -/
def gK (X : gX) (U : State) : Prop := va_K X.1 vwCl (g_tys X.2) U ∧ va_Nw (.methodLinkNest RX4 43 yX3_init RX4) U ∧ va_Nw (.methodLinkNest RX2 37 yX0_init RX4) U ∧ va_Nw (.castable "[I" "java/lang/Cloneable") U ∧ va_AO RX1 U ∧ va_AO RX2 U ∧ va_AO RX0 U
theorem gK.warm {X : gX} {s U : State} (hW : s.WarmedH U.vm) (h : gK X s) : gK X U := ⟨va_K.moved hW.alike h.1, va_Nw.warmM hW h.2.1, va_Nw.warmM hW h.2.2.1, va_Nw.warmC hW h.2.2.2.1, va_AO.moved hW.alike h.2.2.2.2.1, va_AO.moved hW.alike h.2.2.2.2.2.1, va_AO.moved hW.alike h.2.2.2.2.2.2⟩
theorem gK.same {X : gX} {s U : State} (hv : s.vm = U.vm) (h : gK X s) : gK X U := by
  have ha : s.vm.Alike U.vm := by rw [hv]; exact Vm.Alike.refl _
  exact ⟨va_K.moved ha h.1, va_Nw.same rfl hv h.2.1, va_Nw.same rfl hv h.2.2.1, va_Nw.same rfl hv h.2.2.2.1, va_AO.moved ha h.2.2.2.2.1, va_AO.moved ha h.2.2.2.2.2.1, va_AO.moved ha h.2.2.2.2.2.2⟩
def eup (en : gE) (k : Nat) (e : va_E) : gE := fun j => if j = k then some e else en j
theorem eup_eq {en : gE} {k : Nat} {e : va_E} : eup en k e k = some e := by simp [eup]
theorem eup_ne {en : gE} {k j : Nat} {e : va_E} (h : j ≠ k) : eup en k e j = en j := by simp [eup, h]
def hw (X : gX) (b0 : Nat) (lo : gL) (en : gE) (H : Heap) : Prop := b0 ≤ H.size ∧ (∀ (k : Nat) (e : va_E), en k = some e → b0 ≤ lo k ∧ va_at X.1 vwCl (lo k, e) H) ∧ ∀ (i j : Nat) (e f : va_E), en i = some e → en j = some f → lo i = lo j → i = j
theorem hw.set {X : gX} {b0 : Nat} {lo : gL} {en : gE} {H H1 : Heap} {k : Nat} {e0 e : va_E} (h : hw X b0 lo en H) (hk : en k = some e0) (he : va_at X.1 vwCl (lo k, e) H1) (hz : H1.size = H.size) (oq : ∀ q : Nat, q ≠ lo k → H1[q]? = H[q]?) : hw X b0 lo (eup en k e) H1 := by
  refine ⟨by rw [hz]; exact h.1, fun j f hj => ?_, fun i j f g hi hj hij => ?_⟩
  · by_cases hjk : j = k
    · subst hjk
      rw [eup_eq] at hj
      cases hj
      exact ⟨(h.2.1 j e0 hk).1, he⟩
    · rw [eup_ne hjk] at hj
      exact ⟨(h.2.1 j f hj).1, (h.2.1 j f hj).2.kept (oq _ (fun z => hjk (h.2.2 j k f e0 hj hk z)))⟩
  · have key : ∀ (j : Nat) (f : va_E), eup en k e j = some f → ∃ f0, en j = some f0 := by
      intro j f hj
      by_cases hjk : j = k
      · subst hjk; exact ⟨e0, hk⟩
      · rw [eup_ne hjk] at hj; exact ⟨f, hj⟩
    obtain ⟨f0, hf⟩ := key i f hi
    obtain ⟨g0, hg⟩ := key j g hj
    exact h.2.2 i j f0 g0 hf hg hij
def lup (lo : gL) (k a : Nat) : gL := fun j => if j = k then a else lo j
theorem lup_eq {lo : gL} {k a : Nat} : lup lo k a k = a := by simp [lup]
theorem lup_ne {lo : gL} {k a j : Nat} (h : j ≠ k) : lup lo k a j = lo j := by simp [lup, h]
/-- a new cell, under a label that was free -/
theorem hw.push {X : gX} {b0 : Nat} {lo : gL} {en : gE} {H H1 : Heap} {k : Nat} {e : va_E} (h : hw X b0 lo en H) (hk : en k = none) (he : va_at X.1 vwCl (H.size, e) H1) (hz : H1.size = H.size + 1) (oq : ∀ q : Nat, q < H.size → H1[q]? = H[q]?) : hw X b0 (lup lo k H.size) (eup en k e) H1 := by
  have old : ∀ (j : Nat) (f : va_E), j ≠ k → eup en k e j = some f → en j = some f ∧ lup lo k H.size j = lo j ∧ lo j < H.size := by
    intro j f hjk hj
    rw [eup_ne hjk] at hj
    exact ⟨hj, lup_ne hjk, (h.2.1 j f hj).2.lt⟩
  refine ⟨by rw [hz]; exact Nat.le_trans h.1 (Nat.le_succ _), fun j f hj => ?_, fun i j f g hi hj hij => ?_⟩
  · by_cases hjk : j = k
    · subst hjk
      rw [eup_eq] at hj
      cases hj
      rw [lup_eq]
      exact ⟨h.1, he⟩
    · obtain ⟨h1, h2, h3⟩ := old j f hjk hj
      rw [h2]
      exact ⟨(h.2.1 j f h1).1, (h.2.1 j f h1).2.kept (oq _ h3)⟩
  · by_cases hik : i = k <;> by_cases hjk : j = k
    · rw [hik, hjk]
    · obtain ⟨h1, h2, h3⟩ := old j g hjk hj
      subst hik
      rw [lup_eq, h2] at hij
      omega
    · obtain ⟨h1, h2, h3⟩ := old i f hik hi
      subst hjk
      rw [lup_eq, h2] at hij
      omega
    · obtain ⟨h1, h2, h3⟩ := old i f hik hi
      obtain ⟨h4, h5, h6⟩ := old j g hjk hj
      rw [h2, h5] at hij
      exact h.2.2 i j f g h1 h4 hij
/-! ===== locals ===== -/
def lget : List (Nat × Value) → Nat → Option Value
  | [], _ => none
  | (i, v) :: r, k => match Nat.beq i k with
    | true => some v
    | false => lget r k
theorem lget_mem : ∀ {lv : List (Nat × Value)} {k : Nat} {v : Value}, lget lv k = some v → (k, v) ∈ lv
  | [], k, v, h => by simp [lget] at h
  | (i, w) :: r, k, v, h => by
    unfold lget at h
    cases hb : Nat.beq i k with
    | true =>
      rw [hb] at h
      have := Nat.eq_of_beq_eq_true hb
      cases h
      subst this
      exact List.mem_cons_self
    | false =>
      rw [hb] at h
      exact List.mem_cons_of_mem _ (lget_mem h)
theorem lget_cons {lv : List (Nat × Value)} {i k : Nat} {v w : Value} (h : lget ((i, v) :: lv) k = some w) : (i = k ∧ v = w) ∨ (i ≠ k ∧ lget lv k = some w) := by
  unfold lget at h
  cases hb : Nat.beq i k with
  | true => rw [hb] at h; cases h; exact Or.inl ⟨Nat.eq_of_beq_eq_true hb, rfl⟩
  | false => rw [hb] at h; exact Or.inr ⟨Nat.ne_of_beq_eq_false hb, h⟩
def lh (ls : Array Slot) (nL : Nat) (lv : List (Nat × Value)) : Prop := ls.size = nL ∧ lv_wf ls ∧ ∀ (k : Nat) (v : Value), lget lv k = some v → v.category = 1 ∧ ls[k]? = some (.val v)
theorem lh_of {ls : Array Slot} {nL : Nat} {lv : List (Nat × Value)} (h : lv_has ls nL lv) (hc : ∀ q ∈ lv, q.2.category = 1) : lh ls nL lv := ⟨h.1, h.2.1, fun _ _ hk => ⟨hc _ (lget_mem hk), h.2.2 _ (lget_mem hk)⟩⟩
theorem lh_store {ls : Array Slot} {nL : Nat} {lv : List (Nat × Value)} {i : Nat} {v : Value} (h : lh ls nL lv) (hi : i < nL) (hc : v.category = 1) : ∃ ls', storeLocals ls i v = some ls' ∧ lh ls' nL ((i, v) :: lv) := by
  obtain ⟨ls', e', h'⟩ := lv_store1 (l := []) (v := v) ⟨h.1, h.2.1, fun q hq => by cases hq⟩ hi hc
  refine ⟨ls', e', h'.1, h'.2.1, fun k w hk => ?_⟩
  rcases lget_cons hk with ⟨rfl, rfl⟩ | ⟨hik, hk⟩
  · exact ⟨hc, h'.2.2 (i, v) List.mem_cons_self⟩
  · obtain ⟨hw1, hw2⟩ := h.2.2 k w hk
    obtain ⟨ls2, e2, h2⟩ := lv_store1 (l := [(k, w)]) (v := v) ⟨h.1, h.2.1, fun q hq => by rw [List.mem_singleton.mp hq]; exact hw2⟩ hi hc
    rw [e'] at e2
    cases e2
    refine ⟨hw1, h2.2.2 (k, w) (List.mem_cons_of_mem _ (List.mem_filter.mpr ⟨List.mem_singleton.mpr rfl, ?_⟩))⟩
    have a1 : (k == i) = false := by simp; exact fun z => hik z.symm
    simp [a1, hw1]
/-- the new list says no more than the old one -/
def lsub : List (Nat × Value) → List (Nat × Value) → Prop
  | _, [] => True
  | lv, (i, v) :: r => lget lv i = some v ∧ lsub lv r
theorem lsub_get : ∀ {lv lv' : List (Nat × Value)} {k : Nat} {v : Value}, lsub lv lv' → lget lv' k = some v → lget lv k = some v
  | lv, [], k, v, _, h => by simp [lget] at h
  | lv, (i, w) :: r, k, v, hs, h => by
    rcases lget_cons h with ⟨rfl, rfl⟩ | ⟨-, h⟩
    · exact hs.1
    · exact lsub_get hs.2 h
theorem lh_sub {ls : Array Slot} {nL : Nat} {lv lv' : List (Nat × Value)} (h : lh ls nL lv) (hs : lsub lv lv') : lh ls nL lv' := ⟨h.1, h.2.1, fun k v hk => h.2.2 k v (lsub_get hs hk)⟩
/-! ===== the judgement ===== -/
abbrev gZ : Type := Program × Env × Room × State × MethodId × Array Value × List Frame × Method × Code × Nat × (State → Prop)
abbrev zp (Z : gZ) : Program := Z.1
abbrev ze (Z : gZ) : Env := Z.2.1
abbrev zR (Z : gZ) : Room := Z.2.2.1
abbrev zs (Z : gZ) : State := Z.2.2.2.1
abbrev zm (Z : gZ) : MethodId := Z.2.2.2.2.1
abbrev za (Z : gZ) : Array Value := Z.2.2.2.2.2.1
abbrev zb (Z : gZ) : List Frame := Z.2.2.2.2.2.2.1
abbrev zh (Z : gZ) : Method := Z.2.2.2.2.2.2.2.1
abbrev zc (Z : gZ) : Code := Z.2.2.2.2.2.2.2.2.1
abbrev zn (Z : gZ) : Nat := Z.2.2.2.2.2.2.2.2.2.1
abbrev zQ (Z : gZ) : State → Prop := Z.2.2.2.2.2.2.2.2.2.2
abbrev ZW (l : Launch) (Z : gZ) (H : Heap) (locs : List Loc) (cells slots : Nat) (g : JFrame) : Prop := W (zp Z) l (ze Z) (zR Z) (zs Z) (zm Z) (za Z) (zb Z) (zh Z) (zc Z) H locs cells slots (zQ Z) g
def GO (l : Launch) (X : gX) (b0 : Nat) (Z : gZ) (cells slots : Nat) (lo : gL) (en : gE) (pc : Nat) (lv : List (Nat × Value)) (st : List Value) : Prop :=
  ∀ (H : Heap) (locs : List Loc) (ls : Array Slot), va_S (fun q => b0 ≤ q) (zs Z).heap H locs → hw X b0 lo en H → lh ls (zn Z) lv → ZW l Z H locs cells slots (F0 (zm Z) pc ls st)
/-- what a method knows of itself -/
def MC (X : gX) (Z : gZ) (rm : Room) (cc : ByteArray) (nL : Nat) (own : String) (ret : Option FieldType) : Prop := CallFix (zp Z) (zm Z) (zc Z) cc nL (zs Z) (za Z) gAll own ∧ gK X (zs Z) ∧ zR Z = rm ∧ (zh Z).sig.returnType = ret ∧ (zh Z).locks = false ∧ zn Z = nL
end
section
section GROWS
variable {l : Launch} {X : gX} {b0 : Nat} {Z : gZ} {rm : Room} {cc : ByteArray} {nL : Nat} {own : String} {ret : Option FieldType} {cells slots : Nat} {lo : gL} {en : gE} {pc : Nat} {lv : List (Nat × Value)} {rest : List Value}
theorem g_iconst (hC : MC X Z rm cc nL own ret) {n : Int} {v : Int32} (d : decode cc pc = .ok (.iconst n, 1)) (hv : Int32.ofInt n = v) (kk : GO l X b0 Z cells slots lo en (pc + 1) lv (.int v :: rest)) : GO l X b0 Z cells slots lo en pc lv rest := fun H locs ls hS hW hl => lv_iconst hC.1.1 hC.1.2.1 d hv (kk H locs ls hS hW hl)
theorem g_bipush (hC : MC X Z rm cc nL own ret) {n : Int} {v : Int32} (d : decode cc pc = .ok (.bipush n, 2)) (hv : (Int8.ofInt n).toInt32 = v) (kk : GO l X b0 Z cells slots lo en (pc + 2) lv (.int v :: rest)) : GO l X b0 Z cells slots lo en pc lv rest := fun H locs ls hS hW hl => lv_bipush hC.1.1 hC.1.2.1 d hv (kk H locs ls hS hW hl)
theorem g_sipush (hC : MC X Z rm cc nL own ret) {n : Int} {v : Int32} (d : decode cc pc = .ok (.sipush n, 3)) (hv : (Int16.ofInt n).toInt32 = v) (kk : GO l X b0 Z cells slots lo en (pc + 3) lv (.int v :: rest)) : GO l X b0 Z cells slots lo en pc lv rest := fun H locs ls hS hW hl => lv_sipush hC.1.1 hC.1.2.1 d hv (kk H locs ls hS hW hl)
theorem g_null (hC : MC X Z rm cc nL own ret)  (d : decode cc pc = .ok (.aconst_null, 1))  (kk : GO l X b0 Z cells slots lo en (pc + 1) lv (.null :: rest)) : GO l X b0 Z cells slots lo en pc lv rest := fun H locs ls hS hW hl => lv_null hC.1.1 hC.1.2.1 d (kk H locs ls hS hW hl)
theorem g_iload_n (hC : MC X Z rm cc nL own ret) {k : Fin 4} {x : Int32} (d : decode cc pc = .ok (.iload_n k, 1)) (h : lget lv (k : Nat) = some (.int x)) (kk : GO l X b0 Z cells slots lo en (pc + 1) lv (.int x :: rest)) : GO l X b0 Z cells slots lo en pc lv rest := fun H locs ls hS hW hl => lv_iload_n hC.1.1 hC.1.2.1 d rfl (hl.2.2 _ _ h).2 (kk H locs ls hS hW hl)
theorem g_iload (hC : MC X Z rm cc nL own ret) {i : Nat} {x : Int32} (d : decode cc pc = .ok (.iload i, 2)) (h : lget lv i = some (.int x)) (kk : GO l X b0 Z cells slots lo en (pc + 2) lv (.int x :: rest)) : GO l X b0 Z cells slots lo en pc lv rest := fun H locs ls hS hW hl => lv_iload hC.1.1 hC.1.2.1 d (hl.2.2 _ _ h).2 (kk H locs ls hS hW hl)
theorem g_aload_n (hC : MC X Z rm cc nL own ret) {k : Fin 4} {x : Nat} (d : decode cc pc = .ok (.aload_n k, 1)) (h : lget lv (k : Nat) = some (.ref x)) (kk : GO l X b0 Z cells slots lo en (pc + 1) lv (.ref x :: rest)) : GO l X b0 Z cells slots lo en pc lv rest := fun H locs ls hS hW hl => lv_aload_n hC.1.1 hC.1.2.1 d rfl (hl.2.2 _ _ h).2 (kk H locs ls hS hW hl)
theorem g_aload (hC : MC X Z rm cc nL own ret) {i : Nat} {x : Nat} (d : decode cc pc = .ok (.aload i, 2)) (h : lget lv i = some (.ref x)) (kk : GO l X b0 Z cells slots lo en (pc + 2) lv (.ref x :: rest)) : GO l X b0 Z cells slots lo en pc lv rest := fun H locs ls hS hW hl => lv_aload hC.1.1 hC.1.2.1 d (hl.2.2 _ _ h).2 (kk H locs ls hS hW hl)
theorem g_aload_nN (hC : MC X Z rm cc nL own ret) {k : Fin 4} (d : decode cc pc = .ok (.aload_n k, 1)) (h : lget lv (k : Nat) = some .null) (kk : GO l X b0 Z cells slots lo en (pc + 1) lv (.null :: rest)) : GO l X b0 Z cells slots lo en pc lv rest := fun H locs ls hS hW hl => lv_aload_nN hC.1.1 hC.1.2.1 d rfl (hl.2.2 _ _ h).2 (kk H locs ls hS hW hl)
theorem g_aloadN (hC : MC X Z rm cc nL own ret) {i : Nat} (d : decode cc pc = .ok (.aload i, 2)) (h : lget lv i = some .null) (kk : GO l X b0 Z cells slots lo en (pc + 2) lv (.null :: rest)) : GO l X b0 Z cells slots lo en pc lv rest := fun H locs ls hS hW hl => lv_aloadN hC.1.1 hC.1.2.1 d (hl.2.2 _ _ h).2 (kk H locs ls hS hW hl)
theorem g_istore_n (hC : MC X Z rm cc nL own ret) {k : Fin 4} {x : Int32} (d : decode cc pc = .ok (.istore_n k, 1)) (hn : (k : Nat) < nL) (kk : GO l X b0 Z cells slots lo en (pc + 1) (((k : Nat), Value.int x) :: lv) rest) : GO l X b0 Z cells slots lo en pc lv (Value.int x :: rest) := by
  intro H locs ls hS hW hl
  obtain ⟨ls', e', h'⟩ := lh_store (v := Value.int x) hl (by rw [hC.2.2.2.2.2]; exact hn) rfl
  intro T hT X'
  obtain ⟨t, a, b⟩ := kk H locs ls' hS hW h' T hT X'
  refine ⟨t, ?_, b⟩
  jvm_step X'.here [X'.here.top, ↓top_set X'.here.top, hC.1.1, hC.1.2.1, d, e']
  first | exact a | exact ⟨rfl, a⟩
theorem g_istore (hC : MC X Z rm cc nL own ret) {i : Nat} {x : Int32} (d : decode cc pc = .ok (.istore i, 2)) (hn : i < nL) (kk : GO l X b0 Z cells slots lo en (pc + 2) ((i, Value.int x) :: lv) rest) : GO l X b0 Z cells slots lo en pc lv (Value.int x :: rest) := by
  intro H locs ls hS hW hl
  obtain ⟨ls', e', h'⟩ := lh_store (v := Value.int x) hl (by rw [hC.2.2.2.2.2]; exact hn) rfl
  intro T hT X'
  obtain ⟨t, a, b⟩ := kk H locs ls' hS hW h' T hT X'
  refine ⟨t, ?_, b⟩
  jvm_step X'.here [X'.here.top, ↓top_set X'.here.top, hC.1.1, hC.1.2.1, d, e']
  first | exact a | exact ⟨rfl, a⟩
theorem g_astore_n (hC : MC X Z rm cc nL own ret) {k : Fin 4} {x : Nat} (d : decode cc pc = .ok (.astore_n k, 1)) (hn : (k : Nat) < nL) (kk : GO l X b0 Z cells slots lo en (pc + 1) (((k : Nat), Value.ref x) :: lv) rest) : GO l X b0 Z cells slots lo en pc lv (Value.ref x :: rest) := by
  intro H locs ls hS hW hl
  obtain ⟨ls', e', h'⟩ := lh_store (v := Value.ref x) hl (by rw [hC.2.2.2.2.2]; exact hn) rfl
  intro T hT X'
  obtain ⟨t, a, b⟩ := kk H locs ls' hS hW h' T hT X'
  refine ⟨t, ?_, b⟩
  jvm_step X'.here [X'.here.top, ↓top_set X'.here.top, hC.1.1, hC.1.2.1, d, e']
  first | exact a | exact ⟨rfl, a⟩
theorem g_astore (hC : MC X Z rm cc nL own ret) {i : Nat} {x : Nat} (d : decode cc pc = .ok (.astore i, 2)) (hn : i < nL) (kk : GO l X b0 Z cells slots lo en (pc + 2) ((i, Value.ref x) :: lv) rest) : GO l X b0 Z cells slots lo en pc lv (Value.ref x :: rest) := by
  intro H locs ls hS hW hl
  obtain ⟨ls', e', h'⟩ := lh_store (v := Value.ref x) hl (by rw [hC.2.2.2.2.2]; exact hn) rfl
  intro T hT X'
  obtain ⟨t, a, b⟩ := kk H locs ls' hS hW h' T hT X'
  refine ⟨t, ?_, b⟩
  jvm_step X'.here [X'.here.top, ↓top_set X'.here.top, hC.1.1, hC.1.2.1, d, e']
  first | exact a | exact ⟨rfl, a⟩
theorem g_astore_nN (hC : MC X Z rm cc nL own ret) {k : Fin 4} (d : decode cc pc = .ok (.astore_n k, 1)) (hn : (k : Nat) < nL) (kk : GO l X b0 Z cells slots lo en (pc + 1) (((k : Nat), Value.null) :: lv) rest) : GO l X b0 Z cells slots lo en pc lv (Value.null :: rest) := by
  intro H locs ls hS hW hl
  obtain ⟨ls', e', h'⟩ := lh_store (v := Value.null) hl (by rw [hC.2.2.2.2.2]; exact hn) rfl
  intro T hT X'
  obtain ⟨t, a, b⟩ := kk H locs ls' hS hW h' T hT X'
  refine ⟨t, ?_, b⟩
  jvm_step X'.here [X'.here.top, ↓top_set X'.here.top, hC.1.1, hC.1.2.1, d, e']
  first | exact a | exact ⟨rfl, a⟩
theorem g_astoreN (hC : MC X Z rm cc nL own ret) {i : Nat} (d : decode cc pc = .ok (.astore i, 2)) (hn : i < nL) (kk : GO l X b0 Z cells slots lo en (pc + 2) ((i, Value.null) :: lv) rest) : GO l X b0 Z cells slots lo en pc lv (Value.null :: rest) := by
  intro H locs ls hS hW hl
  obtain ⟨ls', e', h'⟩ := lh_store (v := Value.null) hl (by rw [hC.2.2.2.2.2]; exact hn) rfl
  intro T hT X'
  obtain ⟨t, a, b⟩ := kk H locs ls' hS hW h' T hT X'
  refine ⟨t, ?_, b⟩
  jvm_step X'.here [X'.here.top, ↓top_set X'.here.top, hC.1.1, hC.1.2.1, d, e']
  first | exact a | exact ⟨rfl, a⟩
theorem g_iinc (hC : MC X Z rm cc nL own ret) {i : Nat} {n : Int} {x v : Int32} (d : decode cc pc = .ok (.iinc i n, 3)) (h : lget lv i = some (.int x)) (hv : x + Int32.ofInt n = v) (hn : i < nL) (kk : GO l X b0 Z cells slots lo en (pc + 3) ((i, .int v) :: lv) rest) : GO l X b0 Z cells slots lo en pc lv rest := by
  intro H locs ls hS hW hl
  subst hv
  have hg := (hl.2.2 _ _ h).2
  obtain ⟨ls', e', h'⟩ := lh_store (v := .int (x + Int32.ofInt n)) hl (by rw [hC.2.2.2.2.2]; exact hn) rfl
  intro T hT X'
  obtain ⟨t, a, b⟩ := kk H locs ls' hS hW h' T hT X'
  refine ⟨t, ?_, b⟩
  jvm_step X'.here [X'.here.top, ↓top_set X'.here.top, hC.1.1, hC.1.2.1, d, hg, e']
  exact a
theorem g_iadd (hC : MC X Z rm cc nL own ret) {x y : Int32} (d : decode cc pc = .ok (.iadd, 1))  (kk : GO l X b0 Z cells slots lo en (pc + 1) lv (.int (x + y) :: rest)) : GO l X b0 Z cells slots lo en pc lv (.int y :: .int x :: rest) := fun H locs ls hS hW hl => lv_iadd hC.1.1 hC.1.2.1 d (kk H locs ls hS hW hl)
theorem g_isub (hC : MC X Z rm cc nL own ret) {x y : Int32} (d : decode cc pc = .ok (.isub, 1))  (kk : GO l X b0 Z cells slots lo en (pc + 1) lv (.int (x - y) :: rest)) : GO l X b0 Z cells slots lo en pc lv (.int y :: .int x :: rest) := fun H locs ls hS hW hl => lv_isub hC.1.1 hC.1.2.1 d (kk H locs ls hS hW hl)
theorem g_imul (hC : MC X Z rm cc nL own ret) {x y : Int32} (d : decode cc pc = .ok (.imul, 1))  (kk : GO l X b0 Z cells slots lo en (pc + 1) lv (.int (x * y) :: rest)) : GO l X b0 Z cells slots lo en pc lv (.int y :: .int x :: rest) := fun H locs ls hS hW hl => lv_imul hC.1.1 hC.1.2.1 d (kk H locs ls hS hW hl)
theorem g_iand (hC : MC X Z rm cc nL own ret) {x y : Int32} (d : decode cc pc = .ok (.iand, 1))  (kk : GO l X b0 Z cells slots lo en (pc + 1) lv (.int (x &&& y) :: rest)) : GO l X b0 Z cells slots lo en pc lv (.int y :: .int x :: rest) := fun H locs ls hS hW hl => lv_iand hC.1.1 hC.1.2.1 d (kk H locs ls hS hW hl)
theorem g_ior (hC : MC X Z rm cc nL own ret) {x y : Int32} (d : decode cc pc = .ok (.ior, 1))  (kk : GO l X b0 Z cells slots lo en (pc + 1) lv (.int (x ||| y) :: rest)) : GO l X b0 Z cells slots lo en pc lv (.int y :: .int x :: rest) := fun H locs ls hS hW hl => lv_ior hC.1.1 hC.1.2.1 d (kk H locs ls hS hW hl)
theorem g_idiv (hC : MC X Z rm cc nL own ret) {x y : Int32} (d : decode cc pc = .ok (.idiv, 1)) (hne : ¬ y = 0) (kk : GO l X b0 Z cells slots lo en (pc + 1) lv (.int (x / y) :: rest)) : GO l X b0 Z cells slots lo en pc lv (.int y :: .int x :: rest) := fun H locs ls hS hW hl => lv_idiv hC.1.1 hC.1.2.1 d hne (kk H locs ls hS hW hl)
theorem g_ineg (hC : MC X Z rm cc nL own ret) {x : Int32} (d : decode cc pc = .ok (.ineg, 1))  (kk : GO l X b0 Z cells slots lo en (pc + 1) lv (.int (-x) :: rest)) : GO l X b0 Z cells slots lo en pc lv (.int x :: rest) := fun H locs ls hS hW hl => lv_ineg hC.1.1 hC.1.2.1 d (kk H locs ls hS hW hl)
theorem g_ishl (hC : MC X Z rm cc nL own ret) {x y : Int32} (d : decode cc pc = .ok (.ishl, 1))  (kk : GO l X b0 Z cells slots lo en (pc + 1) lv (.int (x <<< (y &&& 31)) :: rest)) : GO l X b0 Z cells slots lo en pc lv (.int y :: .int x :: rest) := fun H locs ls hS hW hl => lv_ishl hC.1.1 hC.1.2.1 d (kk H locs ls hS hW hl)
theorem g_dup (hC : MC X Z rm cc nL own ret) {va : Value} (d : decode cc pc = .ok (.dup, 1)) (hva : va.category = 1) (kk : GO l X b0 Z cells slots lo en (pc + 1) lv (va :: va :: rest)) : GO l X b0 Z cells slots lo en pc lv (va :: rest) := fun H locs ls hS hW hl => lv_dup hC.1.1 hC.1.2.1 d hva (kk H locs ls hS hW hl)
theorem g_dup2 (hC : MC X Z rm cc nL own ret) {va vb : Value} (d : decode cc pc = .ok (.dup2, 1)) (hva : va.category = 1) (hvb : vb.category = 1) (kk : GO l X b0 Z cells slots lo en (pc + 1) lv (va :: vb :: va :: vb :: rest)) : GO l X b0 Z cells slots lo en pc lv (va :: vb :: rest) := fun H locs ls hS hW hl => lv_dup2_11 hC.1.1 hC.1.2.1 d hva hvb (kk H locs ls hS hW hl)
theorem g_top {x : Int32} (kk : ∀ y : Int32, y = x → GO l X b0 Z cells slots lo en pc lv (.int y :: rest)) : GO l X b0 Z cells slots lo en pc lv (.int x :: rest) := kk x rfl
theorem g_val {x y : Int32} (h : x = y) (kk : GO l X b0 Z cells slots lo en pc lv (.int y :: rest)) : GO l X b0 Z cells slots lo en pc lv (.int x :: rest) := h ▸ kk
theorem g_lv {lv' : List (Nat × Value)} (h : lsub lv lv') (kk : GO l X b0 Z cells slots lo en pc lv' rest) : GO l X b0 Z cells slots lo en pc lv rest := fun H locs ls hS hW hl => kk H locs ls hS hW (lh_sub hl h)
theorem g_if_eq (hC : MC X Z rm cc nL own ret) {x : Int32} {off : Int} {tgt : Nat} (d : decode cc pc = .ok (.ifCond .eq off, 3)) (ht : (pc : Int) + off = (tgt : Int)) (kt : x = 0 → GO l X b0 Z cells slots lo en tgt lv rest) (kf : ¬ x = 0 → GO l X b0 Z cells slots lo en (pc + 3) lv rest) : GO l X b0 Z cells slots lo en pc lv (.int x :: rest) := fun H locs ls hS hW hl => lv_if_eq hC.1.1 hC.1.2.1 d ht (fun h => kt h H locs ls hS hW hl) (fun h => kf h H locs ls hS hW hl)
theorem g_icmp_eq (hC : MC X Z rm cc nL own ret) {x y : Int32} {off : Int} {tgt : Nat} (d : decode cc pc = .ok (.if_icmp .eq off, 3)) (ht : (pc : Int) + off = (tgt : Int)) (kt : x = y → GO l X b0 Z cells slots lo en tgt lv rest) (kf : ¬ x = y → GO l X b0 Z cells slots lo en (pc + 3) lv rest) : GO l X b0 Z cells slots lo en pc lv (.int y :: .int x :: rest) := fun H locs ls hS hW hl => lv_icmp_eq hC.1.1 hC.1.2.1 d ht (fun h => kt h H locs ls hS hW hl) (fun h => kf h H locs ls hS hW hl)
theorem g_if_ne (hC : MC X Z rm cc nL own ret) {x : Int32} {off : Int} {tgt : Nat} (d : decode cc pc = .ok (.ifCond .ne off, 3)) (ht : (pc : Int) + off = (tgt : Int)) (kt : ¬ x = 0 → GO l X b0 Z cells slots lo en tgt lv rest) (kf : x = 0 → GO l X b0 Z cells slots lo en (pc + 3) lv rest) : GO l X b0 Z cells slots lo en pc lv (.int x :: rest) := fun H locs ls hS hW hl => lv_if_ne hC.1.1 hC.1.2.1 d ht (fun h => kt h H locs ls hS hW hl) (fun h => kf h H locs ls hS hW hl)
theorem g_icmp_ne (hC : MC X Z rm cc nL own ret) {x y : Int32} {off : Int} {tgt : Nat} (d : decode cc pc = .ok (.if_icmp .ne off, 3)) (ht : (pc : Int) + off = (tgt : Int)) (kt : ¬ x = y → GO l X b0 Z cells slots lo en tgt lv rest) (kf : x = y → GO l X b0 Z cells slots lo en (pc + 3) lv rest) : GO l X b0 Z cells slots lo en pc lv (.int y :: .int x :: rest) := fun H locs ls hS hW hl => lv_icmp_ne hC.1.1 hC.1.2.1 d ht (fun h => kt h H locs ls hS hW hl) (fun h => kf h H locs ls hS hW hl)
theorem g_if_lt (hC : MC X Z rm cc nL own ret) {x : Int32} {off : Int} {tgt : Nat} (d : decode cc pc = .ok (.ifCond .lt off, 3)) (ht : (pc : Int) + off = (tgt : Int)) (kt : x < 0 → GO l X b0 Z cells slots lo en tgt lv rest) (kf : ¬ x < 0 → GO l X b0 Z cells slots lo en (pc + 3) lv rest) : GO l X b0 Z cells slots lo en pc lv (.int x :: rest) := fun H locs ls hS hW hl => lv_if_lt hC.1.1 hC.1.2.1 d ht (fun h => kt h H locs ls hS hW hl) (fun h => kf h H locs ls hS hW hl)
theorem g_icmp_lt (hC : MC X Z rm cc nL own ret) {x y : Int32} {off : Int} {tgt : Nat} (d : decode cc pc = .ok (.if_icmp .lt off, 3)) (ht : (pc : Int) + off = (tgt : Int)) (kt : x < y → GO l X b0 Z cells slots lo en tgt lv rest) (kf : ¬ x < y → GO l X b0 Z cells slots lo en (pc + 3) lv rest) : GO l X b0 Z cells slots lo en pc lv (.int y :: .int x :: rest) := fun H locs ls hS hW hl => lv_icmp_lt hC.1.1 hC.1.2.1 d ht (fun h => kt h H locs ls hS hW hl) (fun h => kf h H locs ls hS hW hl)
theorem g_if_ge (hC : MC X Z rm cc nL own ret) {x : Int32} {off : Int} {tgt : Nat} (d : decode cc pc = .ok (.ifCond .ge off, 3)) (ht : (pc : Int) + off = (tgt : Int)) (kt : 0 ≤ x → GO l X b0 Z cells slots lo en tgt lv rest) (kf : ¬ 0 ≤ x → GO l X b0 Z cells slots lo en (pc + 3) lv rest) : GO l X b0 Z cells slots lo en pc lv (.int x :: rest) := fun H locs ls hS hW hl => lv_if_ge hC.1.1 hC.1.2.1 d ht (fun h => kt h H locs ls hS hW hl) (fun h => kf h H locs ls hS hW hl)
theorem g_icmp_ge (hC : MC X Z rm cc nL own ret) {x y : Int32} {off : Int} {tgt : Nat} (d : decode cc pc = .ok (.if_icmp .ge off, 3)) (ht : (pc : Int) + off = (tgt : Int)) (kt : y ≤ x → GO l X b0 Z cells slots lo en tgt lv rest) (kf : ¬ y ≤ x → GO l X b0 Z cells slots lo en (pc + 3) lv rest) : GO l X b0 Z cells slots lo en pc lv (.int y :: .int x :: rest) := fun H locs ls hS hW hl => lv_icmp_ge hC.1.1 hC.1.2.1 d ht (fun h => kt h H locs ls hS hW hl) (fun h => kf h H locs ls hS hW hl)
theorem g_if_gt (hC : MC X Z rm cc nL own ret) {x : Int32} {off : Int} {tgt : Nat} (d : decode cc pc = .ok (.ifCond .gt off, 3)) (ht : (pc : Int) + off = (tgt : Int)) (kt : 0 < x → GO l X b0 Z cells slots lo en tgt lv rest) (kf : ¬ 0 < x → GO l X b0 Z cells slots lo en (pc + 3) lv rest) : GO l X b0 Z cells slots lo en pc lv (.int x :: rest) := fun H locs ls hS hW hl => lv_if_gt hC.1.1 hC.1.2.1 d ht (fun h => kt h H locs ls hS hW hl) (fun h => kf h H locs ls hS hW hl)
theorem g_icmp_gt (hC : MC X Z rm cc nL own ret) {x y : Int32} {off : Int} {tgt : Nat} (d : decode cc pc = .ok (.if_icmp .gt off, 3)) (ht : (pc : Int) + off = (tgt : Int)) (kt : y < x → GO l X b0 Z cells slots lo en tgt lv rest) (kf : ¬ y < x → GO l X b0 Z cells slots lo en (pc + 3) lv rest) : GO l X b0 Z cells slots lo en pc lv (.int y :: .int x :: rest) := fun H locs ls hS hW hl => lv_icmp_gt hC.1.1 hC.1.2.1 d ht (fun h => kt h H locs ls hS hW hl) (fun h => kf h H locs ls hS hW hl)
theorem g_if_le (hC : MC X Z rm cc nL own ret) {x : Int32} {off : Int} {tgt : Nat} (d : decode cc pc = .ok (.ifCond .le off, 3)) (ht : (pc : Int) + off = (tgt : Int)) (kt : x ≤ 0 → GO l X b0 Z cells slots lo en tgt lv rest) (kf : ¬ x ≤ 0 → GO l X b0 Z cells slots lo en (pc + 3) lv rest) : GO l X b0 Z cells slots lo en pc lv (.int x :: rest) := fun H locs ls hS hW hl => lv_if_le hC.1.1 hC.1.2.1 d ht (fun h => kt h H locs ls hS hW hl) (fun h => kf h H locs ls hS hW hl)
theorem g_icmp_le (hC : MC X Z rm cc nL own ret) {x y : Int32} {off : Int} {tgt : Nat} (d : decode cc pc = .ok (.if_icmp .le off, 3)) (ht : (pc : Int) + off = (tgt : Int)) (kt : x ≤ y → GO l X b0 Z cells slots lo en tgt lv rest) (kf : ¬ x ≤ y → GO l X b0 Z cells slots lo en (pc + 3) lv rest) : GO l X b0 Z cells slots lo en pc lv (.int y :: .int x :: rest) := fun H locs ls hS hW hl => lv_icmp_le hC.1.1 hC.1.2.1 d ht (fun h => kt h H locs ls hS hW hl) (fun h => kf h H locs ls hS hW hl)
theorem g_goto (hC : MC X Z rm cc nL own ret) {off : Int} {tgt : Nat} (d : decode cc pc = .ok (.goto off, 3)) (ht : (pc : Int) + off = (tgt : Int)) (kk : GO l X b0 Z cells slots lo en tgt lv rest) : GO l X b0 Z cells slots lo en pc lv rest := fun H locs ls hS hW hl => lv_goto hC.1.1 hC.1.2.1 d ht (kk H locs ls hS hW hl)
theorem g_ifnonnull (hC : MC X Z rm cc nL own ret) {x : Nat} {off : Int} {tgt : Nat} (d : decode cc pc = .ok (.ifnonnull off, 3)) (ht : (pc : Int) + off = (tgt : Int)) (kk : GO l X b0 Z cells slots lo en tgt lv rest) : GO l X b0 Z cells slots lo en pc lv (.ref x :: rest) := fun H locs ls hS hW hl => lv_ifnonnull hC.1.1 hC.1.2.1 d ht (kk H locs ls hS hW hl)
theorem g_ifnonnullN (hC : MC X Z rm cc nL own ret) {off : Int} (d : decode cc pc = .ok (.ifnonnull off, 3))  (kk : GO l X b0 Z cells slots lo en (pc + 3) lv rest) : GO l X b0 Z cells slots lo en pc lv (.null :: rest) := fun H locs ls hS hW hl => lv_ifnonnullN hC.1.1 hC.1.2.1 d (kk H locs ls hS hW hl)
theorem g_ifnull (hC : MC X Z rm cc nL own ret) {x : Nat} {off : Int} (d : decode cc pc = .ok (.ifnull off, 3))  (kk : GO l X b0 Z cells slots lo en (pc + 3) lv rest) : GO l X b0 Z cells slots lo en pc lv (.ref x :: rest) := fun H locs ls hS hW hl => lv_ifnull hC.1.1 hC.1.2.1 d (kk H locs ls hS hW hl)
theorem g_ifnullN (hC : MC X Z rm cc nL own ret) {off : Int} {tgt : Nat} (d : decode cc pc = .ok (.ifnull off, 3)) (ht : (pc : Int) + off = (tgt : Int)) (kk : GO l X b0 Z cells slots lo en tgt lv rest) : GO l X b0 Z cells slots lo en pc lv (.null :: rest) := fun H locs ls hS hW hl => lv_ifnullN hC.1.1 hC.1.2.1 d ht (kk H locs ls hS hW hl)
theorem g_tableOut (hC : MC X Z rm cc nL own ret) {dflt lo0 hi : Int} {offs : Array Int} {len : Nat} {x : Int32} {tgt : Nat} (d : decode cc pc = .ok (.tableswitch dflt lo0 hi offs, len)) (h : x.toInt < lo0 ∨ hi < x.toInt) (ht : (pc : Int) + dflt = (tgt : Int)) (kk : GO l X b0 Z cells slots lo en tgt lv rest) : GO l X b0 Z cells slots lo en pc lv (.int x :: rest) := fun H locs ls hS hW hl => lv_tableOut hC.1.1 hC.1.2.1 d h ht (kk H locs ls hS hW hl)
theorem g_tableIn (hC : MC X Z rm cc nL own ret) {dflt lo0 hi : Int} {offs : Array Int} {len : Nat} {x : Int32} {off : Int} {tgt : Nat} (d : decode cc pc = .ok (.tableswitch dflt lo0 hi offs, len)) (h1 : ¬ x.toInt < lo0) (h2 : ¬ hi < x.toInt) (ho : offs[(x.toInt - lo0).toNat]? = some off) (ht : (pc : Int) + off = (tgt : Int)) (kk : GO l X b0 Z cells slots lo en tgt lv rest) : GO l X b0 Z cells slots lo en pc lv (.int x :: rest) := fun H locs ls hS hW hl => lv_tableIn hC.1.1 hC.1.2.1 d h1 h2 ho ht (kk H locs ls hS hW hl)
theorem g_get (hC : MC X Z rm cc nL own ret) {k ci a : Nat} {fs : List Value} (ha : a = lo k) (he : en k = some (.inr (ci, fs))) {C : String} {T : u_T} {N : Nat} (hc : vwCl[ci]? = some (C, T, N)) (hin : ∀ w ∈ u_ws C T N, w ∈ gAll) (j : Nat) (hj : j < N) {index : Nat} {ref : String} (hlink : Cond.fieldLink own index ref (T j).2.1 (T j).2.2.1 ∈ gAll) (hsame : ref = (T j).1) {v : Value} (hv : fs[j]? = some v) (d : decode cc pc = .ok (.getfield index, 3))  (kk : GO l X b0 Z cells slots lo en (pc + 3) lv (v :: rest)) : GO l X b0 Z cells slots lo en pc lv (.ref a :: rest) := by
  intro H locs ls hS hW hl
  subst ha
  have hP : va_P X.1 vwCl [(lo k, .inr (ci, fs))] H := fun i q hq => by
    match i, hq with
    | 0, hq => cases hq; exact (hW.2.1 k _ he).2
    | i + 1, hq => simp at hq
  subst hsame
  exact va_get (D := X.1) (ci := ci) (C := C) (T := T) (N := N) hC.1.1 hC.1.2.1 hC.1.2.2.2.2 hin hC.1.2.2.2.1 hC.2.1.1 hP 0 rfl hc j hj (hC.1.2.2.2.2 _ hlink) (fun _ h9 => h9) hv d (kk H locs ls hS hW hl)
theorem g_put (hC : MC X Z rm cc nL own ret) {k ci a : Nat} {fs : List Value} (ha : a = lo k) (he : en k = some (.inr (ci, fs))) {C : String} {T : u_T} {N : Nat} (hc : vwCl[ci]? = some (C, T, N)) (hin : ∀ w ∈ u_ws C T N, w ∈ gAll) (j : Nat) (hj : j < N) {index : Nat} {ref : String} (hlink : Cond.fieldLink own index ref (T j).2.1 (T j).2.2.1 ∈ gAll) (hsame : ref = (T j).1) (ty0 : Nat → FieldType) (hty : ∀ k, k < N → parseFieldDescriptor (T k).2.2.1 = some (ty0 k)) (hnm : ∀ a, a < N → ∀ b, b < N → a ≠ b → (T a).2.1 ≠ (T b).2.1) (hfin : (T j).2.2.2 = false) {ty : FieldType} {v : Value} (hd : parseFieldDescriptor (T j).2.2.1 = some ty) (hn : narrow ty v = v) (hfit : fits ty v = true) (hl2 : j < fs.length) (d : decode cc pc = .ok (.putfield index, 3))  (kk : ∀ en1 : gE, en1 = eup en k (.inr (ci, fs.set j v)) → GO l X b0 Z cells slots lo en1 (pc + 3) lv rest) : GO l X b0 Z cells slots lo en pc lv (v :: .ref a :: rest) := by
  intro H locs ls hS0 hW hl
  subst ha
  have hts := hC.1.2.2.2.2
  have hown := hC.1.2.2.2.1
  have hap := va_apart (own := own) hts hin ty0 hty hnm hC.2.1.1 hc
  obtain ⟨r, h1, cell, q1, q2, q3, q4⟩ := (hW.2.1 k _ he).2
  have hr : r = (C, T, N) := Option.some.inj (h1.symm.trans hc)
  subst hr
  subst hsame
  obtain ⟨hS, hfc, kC, hkC, hkind⟩ := hC.2.1.1.1 ci _ hc
  obtain ⟨cf, kf, fi, f, hi, hsl⟩ := hS j hj
  have hlay := hts _ (hin _ (u_in_lay hj))
  unfold u_lay at hlay
  rw [if_neg (by rw [hfin]; decide)] at hlay
  have hst := (u_facts hfc hkC (u_lays hts hin hj) hi).1
  have h6 := u_store hfc hkC hkind hlay hi hd hn hfit
  refine W.putK hC.1.1 hC.1.2.1 (f := f) ⟨hown, hts _ hlink, ⟨_, _, _, hi⟩, hst⟩ (by rw [q2]; exact h6) q1 q3 (by rw [hsl]; exact k2_hasslot (q4 j hj)) rfl rfl d fun H' e1 e2 e3 => ?_
  rw [hsl] at e1 ⊢
  exact kk _ rfl H' _ ls (hS0.put e2 e3 (hW.2.1 k _ he).1) (hW.set he ⟨_, hc, t_OB.to (V := updV (vp_V fs) j v) ⟨_, e1, q2, q3, t_set q4 hap hj v⟩ (fun i _ => vp_updV_set hl2 v i)⟩ e2 e3) hl
theorem g_putF (hC : MC X Z rm cc nL own ret) {k ci a : Nat} {fs : List Value} (ha : a = lo k) (he : en k = some (.inr (ci, fs))) {C : String} {T : u_T} {N : Nat} (hc : vwCl[ci]? = some (C, T, N)) (hin : ∀ w ∈ u_ws C T N, w ∈ gAll) (j : Nat) (hj : j < N) {index : Nat} {ref : String} (hlink : Cond.fieldLink own index ref (T j).2.1 (T j).2.2.1 ∈ gAll) (hsame : ref = (T j).1) (ty0 : Nat → FieldType) (hty : ∀ k, k < N → parseFieldDescriptor (T k).2.2.1 = some (ty0 k)) (hnm : ∀ a, a < N → ∀ b, b < N → a ≠ b → (T a).2.1 ≠ (T b).2.1) (hfin : (T j).2.2.2 = true) (hin2 : (zh Z).name = "<init>") (hdecl : (T j).1 = own) {ty : FieldType} {v : Value} (hd : parseFieldDescriptor (T j).2.2.1 = some ty) (hn : narrow ty v = v) (hfit : fits ty v = true) (hl2 : j < fs.length) (d : decode cc pc = .ok (.putfield index, 3))  (kk : ∀ en1 : gE, en1 = eup en k (.inr (ci, fs.set j v)) → GO l X b0 Z cells slots lo en1 (pc + 3) lv rest) : GO l X b0 Z cells slots lo en pc lv (v :: .ref a :: rest) := by
  intro H locs ls hS0 hW hl
  subst ha
  have hts := hC.1.2.2.2.2
  have hown := hC.1.2.2.2.1
  have hap := va_apart (own := own) hts hin ty0 hty hnm hC.2.1.1 hc
  obtain ⟨r, h1, cell, q1, q2, q3, q4⟩ := (hW.2.1 k _ he).2
  have hr : r = (C, T, N) := Option.some.inj (h1.symm.trans hc)
  subst hr
  subst hsame
  obtain ⟨hS, hfc, kC, hkC, hkind⟩ := hC.2.1.1.1 ci _ hc
  obtain ⟨cf, kf, fi, f, hi, hsl⟩ := hS j hj
  have hlay := hts _ (hin _ (u_in_lay hj))
  unfold u_lay at hlay
  rw [if_pos hfin] at hlay
  have hst := (u_facts hfc hkC (u_lays hts hin hj) hi).1
  have hcf : (zm Z).cls = cf := by
    obtain ⟨_, _, c', _, _, _, -, -, hf', -, -, -, hown2, -⟩ := Cond.laysFinal_spec hlay
    have e1 : c' = cf := by have := hi.symm.trans hf'; simp at this; exact this.1.symm
    rw [hdecl] at hown2
    rw [← e1]; exact Option.some.inj (hown.symm.trans hown2)
  have h6 := u_fits hfc hkC hkind (Or.inr hlay) hi hd hn hfit
  refine W.putFinK hC.1.1 hC.1.2.1 hown (hts _ hlink) hi hst hcf hin2 (by rw [q2]; exact h6) q1 q3 (by rw [hsl]; exact k2_hasslot (q4 j hj)) rfl rfl d fun H' e1 e2 e3 => ?_
  rw [hsl] at e1 ⊢
  exact kk _ rfl H' _ ls (hS0.put e2 e3 (hW.2.1 k _ he).1) (hW.set he ⟨_, hc, t_OB.to (V := updV (vp_V fs) j v) ⟨_, e1, q2, q3, t_set q4 hap hj v⟩ (fun i _ => vp_updV_set hl2 v i)⟩ e2 e3) hl
theorem g_iald (hC : MC X Z rm cc nL own ret) {k n a : Nat} {f : Nat → Int32} (ha : a = lo k) (he : en k = some (.inl (X.2 0, n, .inl f))) (i : Nat) {x : Int32} (hi : x = nI i) (hin : i < n) (hn : n < 2 ^ 31) (d : decode cc pc = .ok (.iaload, 1))  (kk : GO l X b0 Z cells slots lo en (pc + 1) lv (.int (f i) :: rest)) : GO l X b0 Z cells slots lo en pc lv (.int x :: .ref a :: rest) := by
  intro H locs ls hS hW hl
  subst ha
  have hP : va_P X.1 vwCl [(lo k, .inl (X.2 0, n, .inl f))] H := fun i q hq => by
    match i, hq with
    | 0, hq => cases hq; exact (hW.2.1 k _ he).2
    | i + 1, hq => simp at hq
  subst hi
  have hc : (nI i).toNatClampNeg = i := nI_clamp (by omega)
  refine va_iald (D := X.1) (tys := g_tys X.2) hC.1.1 hC.1.2.1 hC.2.1.1 hP 0 0 rfl rfl (vp_in_nI hin hn) d ?_
  rw [hc]
  exact kk H locs ls hS hW hl
theorem g_alenI (hC : MC X Z rm cc nL own ret) {k n a : Nat} {f : Nat → Int32} (ha : a = lo k) (he : en k = some (.inl (X.2 0, n, .inl f))) (d : decode cc pc = .ok (.arraylength, 1))  (kk : GO l X b0 Z cells slots lo en (pc + 1) lv (.int (nI n) :: rest)) : GO l X b0 Z cells slots lo en pc lv (.ref a :: rest) := by
  intro H locs ls hS hW hl
  subst ha
  have hP : va_P X.1 vwCl [(lo k, .inl (X.2 0, n, .inl f))] H := fun i q hq => by
    match i, hq with
    | 0, hq => cases hq; exact (hW.2.1 k _ he).2
    | i + 1, hq => simp at hq
  exact va_alen (D := X.1) (tys := g_tys X.2) hC.1.1 hC.1.2.1 hC.2.1.1 hP 0 0 rfl rfl rfl d (kk H locs ls hS hW hl)
theorem g_iast (hC : MC X Z rm cc nL own ret) {k n a : Nat} {f : Nat → Int32} (ha : a = lo k) (he : en k = some (.inl (X.2 0, n, .inl f))) (i : Nat) {x v : Int32} (hi : x = nI i) (hin : i < n) (hn : n < 2 ^ 31) (d : decode cc pc = .ok (.iastore, 1))  (kk : ∀ en1 : gE, en1 = eup en k (.inl (X.2 0, n, .inl (upd f i v))) → GO l X b0 Z cells slots lo en1 (pc + 1) lv rest) : GO l X b0 Z cells slots lo en pc lv (.int v :: .int x :: .ref a :: rest) := by
  intro H locs ls hS hW hl
  subst ha
  subst hi
  have hc : (nI i).toNatClampNeg = i := nI_clamp (by omega)
  have hin' : vp_in (nI i) n := vp_in_nI hin hn
  refine W.iast hC.1.1 hC.1.2.1 (hW.2.1 k _ he).2 ((hC.2.1.1.2 0 (X.2 0, .int) rfl).1 n (fun j => .int (f j))) (fun q => by cases q) (by show ¬ (nI i < 0 ∨ (arrV _ _ _).slots.size ≤ _); rw [arrV_size]; exact hin') rfl rfl d fun H1 e z oq => ?_
  refine kk _ rfl H1 _ ls (hS.put z oq (hW.2.1 k _ he).1) (hW.set he ?_ z oq) hl
  show H1[lo k]? = some (vp_cell _ _)
  rw [e]
  rw [vp_cell_i, vp_cell_i, arrV_store, hc]
  congr 2
  funext q
  by_cases hq : q = i
  · subst hq
    simp [updV, upd]
  · simp [updV, upd, hq]
theorem g_aald (hC : MC X Z rm cc nL own ret) {k n t0 a : Nat} {cA : ClassId} {CC : String} {f : Nat → Option Nat} (ha : a = lo k) (he : en k = some (.inl (cA, n, .inr (.inr (.inr (.inr f)))))) (ht : (g_tys X.2)[t0]? = some (cA, .object CC)) (i : Nat) {x : Int32} (hi : x = nI i) (hin : i < n) (hn : n < 2 ^ 31) {q : Nat} (hf : f i = some q) (d : decode cc pc = .ok (.aaload, 1))  (kk : GO l X b0 Z cells slots lo en (pc + 1) lv (.ref q :: rest)) : GO l X b0 Z cells slots lo en pc lv (.int x :: .ref a :: rest) := by
  intro H locs ls hS hW hl
  subst ha
  have hP : va_P X.1 vwCl [(lo k, .inl (cA, n, .inr (.inr (.inr (.inr f)))))] H := fun i q hq => by
    match i, hq with
    | 0, hq => cases hq; exact (hW.2.1 k _ he).2
    | i + 1, hq => simp at hq
  subst hi
  have hc : (nI i).toNatClampNeg = i := nI_clamp (by omega)
  refine va_aldq (D := X.1) (tys := g_tys X.2) hC.1.1 hC.1.2.1 hC.2.1.1 hP 0 t0 rfl ht (vp_in_nI hin hn) d ?_
  rw [hc, hf]
  exact kk H locs ls hS hW hl
theorem g_aast (hC : MC X Z rm cc nL own ret) {k n t0 a av : Nat} {cA : ClassId} {f : Nat → Option Nat} {kv ci : Nat} {vs : List Value} {r : vw_C} (ha : a = lo k) (hav : av = lo kv) (he : en k = some (.inl (cA, n, .inr (.inr (.inr (.inr f)))))) (hev : en kv = some (.inr (ci, vs))) (hcv : vwCl[ci]? = some r) (ht : (g_tys X.2)[t0]? = some (cA, .object r.1)) (i : Nat) {x : Int32} (hi : x = nI i) (hin : i < n) (hn : n < 2 ^ 31) (d : decode cc pc = .ok (.aastore, 1))  (kk : ∀ en1 : gE, en1 = eup en k (.inl (cA, n, .inr (.inr (.inr (.inr (va_up f i (some av))))))) → GO l X b0 Z cells slots lo en1 (pc + 1) lv rest) : GO l X b0 Z cells slots lo en pc lv (.ref av :: .int x :: .ref a :: rest) := by
  intro H locs ls hS hW hl
  subst ha
  subst hav
  subst hi
  have hc : (nI i).toNatClampNeg = i := nI_clamp (by omega)
  have hin' : vp_in (nI i) n := vp_in_nI hin hn
  have hlt : (nI i).toNatClampNeg < n := by rw [hc]; exact hin
  have h0 : ¬ nI i < 0 := fun q => hin' (Or.inl q)
  obtain ⟨r', hr', cellV, g1, g2, g3, -⟩ := (hW.2.1 kv _ hev).2
  have hcls := (hC.2.1.1.1 ci r hcv).2
  obtain ⟨kA, comp, k1, k2, k3, -⟩ := (hC.2.1.1.2 t0 _ ht).2
  have hcomp : comp = X.1.1 ci := Option.some.inj (k3.symm.trans hcls.1)
  subst hcomp
  obtain ⟨kC, hkC, -⟩ := hcls.2
  refine W.aast hC.1.1 hC.1.2.1 (hW.2.1 k _ he).2 (fun q h => by cases h) (fun h => by cases h) k1 k2 rfl hkC ⟨h0, by show _ < (arrV _ _ _).slots.size; rw [arrV_size]; exact hlt⟩ g1 (fun q h => by rw [g3] at h; cases h) (by rw [g2]; exact hkC) (by rw [g2]; exact va_assign hcls) rfl rfl d fun H1 e z oq => ?_
  refine kk _ rfl H1 _ ls (hS.put z oq (hW.2.1 k _ he).1) (hW.set he ?_ z oq) hl
  show H1[lo k]? = some (vp_cell _ _)
  rw [e]
  rw [vp_cell_q, vp_cell_q, arrV_store, hc]
  congr 2
  funext q
  by_cases hq : q = i
  · subst hq
    simp [updV, va_up, va_rf]
  · simp [updV, va_up, hq]
theorem g_newI (hC : MC X Z rm cc nL own ret) (k : Nat) (hk : en k = none) {n : Nat} {x : Int32} (hn : x = nI n) (hb : n < 1000000) (hcells : cells + 1 ≤ (zR Z).cells) (hslots : slots + n ≤ (zR Z).slots) (d : decode cc pc = .ok (.newarray .int, 2))  (kk : ∀ (q : Nat) (lo1 : gL) (en1 : gE), lo1 = lup lo k q → en1 = eup en k (.inl (X.2 0, n, .inl (fun _ => 0))) → GO l X b0 Z (cells + 1) (slots + n) lo1 en1 (pc + 2) lv (.ref q :: rest)) : GO l X b0 Z cells slots lo en pc lv (.int x :: rest) := by
  intro H locs ls hS hW hl
  subst hn
  have hc : (nI n).toNatClampNeg = n := nI_clamp (by omega)
  refine va_newaK (atype := .int) (h := H.size) (g := F0 (zm Z) pc ls (.int (nI n) :: rest)) hC.1.1 hC.1.2.1 (hC.1.2.2.2.2 _ ka_int) rfl d rfl (nI_pos (by omega)) hc (by show n * 4 ≤ _; omega) hcells hslots rfl fun H1 cA e1 z1 o1 hAr hNm => ?_
  have hcA : cA = X.2 0 := by
    have h2 := (hC.2.1.1.2 0 (X.2 0, .int) rfl).2
    exact Option.some.inj (hNm.symm.trans h2)
  subst hcA
  have := kk H.size _ _ rfl rfl H1 locs ls ⟨Nat.le_trans hS.1 (by omega), fun x h1 h2 => (o1 x (Nat.lt_of_lt_of_le h1 hS.1)).trans (hS.2.1 x h1 h2), hS.2.2⟩ (hW.push (k := k) hk (e := .inl (X.2 0, n, .inl (fun _ => 0))) (by show H1[H.size]? = some (vp_cell _ _); rw [vp_cell_i]; exact e1) z1 o1) hl
  exact this
theorem g_newQ (hC : MC X Z rm cc nL own ret) {index t0 : Nat} {CC : String} {cA : ClassId} (k : Nat) (hk : en k = none) (hclink : Cond.classLink own index CC ∈ gAll) (hover : va_AO CC (zs Z)) (ht : (g_tys X.2)[t0]? = some (cA, .object CC)) {n : Nat} {x : Int32} (hn : x = nI n) (hb : n < 1000000) (hcells : cells + 1 ≤ (zR Z).cells) (hslots : slots + n ≤ (zR Z).slots) (d : decode cc pc = .ok (.anewarray index, 3))  (kk : ∀ (q : Nat) (lo1 : gL) (en1 : gE), lo1 = lup lo k q → en1 = eup en k (.inl (cA, n, .inr (.inr (.inr (.inr (fun _ => none)))))) → GO l X b0 Z (cells + 1) (slots + n) lo1 en1 (pc + 3) lv (.ref q :: rest)) : GO l X b0 Z cells slots lo en pc lv (.int x :: rest) := by
  intro H locs ls hS hW hl
  subst hn
  have hc : (nI n).toNatClampNeg = n := nI_clamp (by omega)
  refine W.anew (g := F0 (zm Z) pc ls (.int (nI n) :: rest)) hC.1.1 hC.1.2.1 hC.1.2.2.2.1 (hC.1.2.2.2.2 _ hclink) (va_AO.use hover) rfl d rfl (nI_pos (by omega)) (by rw [hc]; omega) hcells (by rw [hc]; exact hslots) fun cA' kA comp f1 f2 f3 f4 => ?_
  rw [hc]
  have hcA : cA' = cA := by
    obtain ⟨_, _, -, -, -, h2⟩ := (hC.2.1.1.2 t0 _ ht).2
    exact Option.some.inj (f1.symm.trans h2)
  subst hcA
  generalize hH1 : H.push ({ cls := cA', slots := Array.replicate n .null, vm := .none } : Cell) = H1
  have z1 : H1.size = H.size + 1 := by rw [← hH1, Array.size_push]
  have e1 : H1[H.size]? = some (arrV cA' n (fun _ => .null)) := by rw [← hH1, Array.getElem?_push_size, ← arrV_new]
  have o1 : ∀ q : Nat, q < H.size → H1[q]? = H[q]? := fun q hq => by rw [← hH1, Array.getElem?_push, if_neg (Nat.ne_of_lt hq)]
  have := kk H.size _ _ rfl rfl H1 locs ls ⟨Nat.le_trans hS.1 (by omega), fun x h1 h2 => (o1 x (Nat.lt_of_lt_of_le h1 hS.1)).trans (hS.2.1 x h1 h2), hS.2.2⟩ (hW.push (k := k) hk (e := .inl (cA', n, .inr (.inr (.inr (.inr (fun _ => none)))))) (by show H1[H.size]? = some (vp_cell _ _); rw [vp_cell_q]; exact e1) z1 o1) hl
  exact this
theorem g_new (hC : MC X Z rm cc nL own ret) {index ci N : Nat} {C : String} {T : u_T} (k : Nat) (hk : en k = none) (hc : vwCl[ci]? = some (C, T, N)) (hin : ∀ w ∈ u_ws C T N, w ∈ gAll) (ty : Nat → FieldType) (hty : ∀ k, k < N → parseFieldDescriptor (T k).2.2.1 = some (ty k)) (hcl : Cond.classLink own index C ∈ gAll) (hinst : Cond.instantiable C N ∈ gAll) (hini : Cond.initialized C ∈ gAll) (fs : List Value) (hfs : ∀ j, j < N → defaultValue (ty j) = vp_V fs j) (hcells : cells + 1 ≤ (zR Z).cells) (hslots : slots + N ≤ (zR Z).slots) (d : decode cc pc = .ok (.new index, 3))  (kk : ∀ (q : Nat) (lo1 : gL) (en1 : gE), lo1 = lup lo k q → en1 = eup en k (.inr (ci, fs)) → GO l X b0 Z (cells + 1) (slots + N) lo1 en1 (pc + 3) lv (.ref q :: rest)) : GO l X b0 Z cells slots lo en pc lv rest := by
  intro H locs ls hS hW hl
  have hKn := hC.2.1.1.1 ci _ hc
  refine W.newcK hC.1.1 hC.1.2.1 hC.1.2.2.2.1 (hC.1.2.2.2.2 _ hcl) (hC.1.2.2.2.2 _ hinst) (hC.1.2.2.2.2 _ hini) rfl d hcells hslots hKn.2.1 rfl fun H1 kC hkC e1 z1 o1 => ?_
  exact kk H.size _ _ rfl rfl H1 locs ls ⟨Nat.le_trans hS.1 (by omega), fun x h1 h2 => (o1 x (Nat.lt_of_lt_of_le h1 hS.1)).trans (hS.2.1 x h1 h2), hS.2.2⟩ (hW.push (k := k) hk (e := .inr (ci, fs)) ⟨_, hc, (u_born ty hC.1.2.2.2.2 hin hKn hkC e1 hty).to hfs⟩ z1 o1) hl
theorem g_objInit (hC : MC X Z rm cc nL own ret) {idx a : Nat} (hm : Cond.methodLink own idx objectInit ∈ gAll) (hf : 1 ≤ (zR Z).frames) (hlo : 2 * (F0 (zm Z) pc (#[] : Array Slot) (.ref a :: rest)).monitorRoom + (rest.map fun v => v.category).sum + 12 ≤ (zR Z).locals) (d : decode cc pc = .ok (.invokespecial idx, 3))  (kk : GO l X b0 Z cells slots lo en (pc + 3) lv rest) : GO l X b0 Z cells slots lo en pc lv (.ref a :: rest) := by
  intro H locs ls hS hW hl
  exact W.objInit (g := F0 (zm Z) pc ls (.ref a :: rest)) hC.1.1 hC.1.2.1 hC.1.2.2.2.1 (hC.1.2.2.2.2 _ hm) (hC.1.2.2.2.2 _ ki_objinit) (hC.1.2.2.2.2 _ kc_objinit) rfl (by show ls.size = _; rw [hl.1, hC.2.2.2.2.2]; exact hC.1.2.2.1.symm) rfl d hf hlo (kk H locs ls hS hW hl)
theorem g_mmax (hC : MC X Z rm cc nL own ret) {idx : Nat} {x y : Int32} (hm : Cond.methodLink own idx yJ9_max_7cf53 ∈ gAll) (hR : 1 ≤ rm.frames ∧ (rest.map fun v => v.category).sum + 13 ≤ rm.locals) (hf : cells ≤ rm.cells ∧ slots ≤ rm.slots) (d : decode cc pc = .ok (.invokestatic idx, 3))  (kk : GO l X b0 Z cells slots lo en (pc + 3) lv (.int (if x < y then y else x) :: rest)) : GO l X b0 Z cells slots lo en pc lv (.int y :: .int x :: rest) := by
  intro H locs ls hS hW hl
  exact va_mmax hC.1.1 hC.1.2.1 (by rw [hl.1, hC.2.2.2.2.2]; exact hC.1.2.2.1) hC.1.2.2.2.1 (hC.1.2.2.2.2 _ hm) (hC.1.2.2.2.2 _ ki_J9_max_7cf53) (hC.1.2.2.2.2 _ kz_J9) (hC.1.2.2.2.2 _ kc_J9_max_7cf53) (by rw [hC.2.2.1]; exact hR.1) (by rw [hC.2.2.1]; exact hR.2) (by rw [hC.2.2.1]; exact hf.1) (by rw [hC.2.2.1]; exact hf.2) d (kk H locs ls hS hW hl)
theorem g_mmin (hC : MC X Z rm cc nL own ret) {idx : Nat} {x y : Int32} (hm : Cond.methodLink own idx yJ9_min_7cf53 ∈ gAll) (hR : 1 ≤ rm.frames ∧ (rest.map fun v => v.category).sum + 13 ≤ rm.locals) (hf : cells ≤ rm.cells ∧ slots ≤ rm.slots) (d : decode cc pc = .ok (.invokestatic idx, 3))  (kk : GO l X b0 Z cells slots lo en (pc + 3) lv (.int (if y < x then y else x) :: rest)) : GO l X b0 Z cells slots lo en pc lv (.int y :: .int x :: rest) := by
  intro H locs ls hS hW hl
  exact va_mmin hC.1.1 hC.1.2.1 (by rw [hl.1, hC.2.2.2.2.2]; exact hC.1.2.2.1) hC.1.2.2.2.1 (hC.1.2.2.2.2 _ hm) (hC.1.2.2.2.2 _ ki_J9_min_7cf53) (hC.1.2.2.2.2 _ kz_J9) (hC.1.2.2.2.2 _ kc_J9_min_7cf53) (by rw [hC.2.2.1]; exact hR.1) (by rw [hC.2.2.1]; exact hR.2) (by rw [hC.2.2.1]; exact hf.1) (by rw [hC.2.2.1]; exact hf.2) d (kk H locs ls hS hW hl)
theorem g_mabs (hC : MC X Z rm cc nL own ret) {idx : Nat} {x : Int32} (hm : Cond.methodLink own idx yJ9_abs_0f7a4 ∈ gAll) (hR : 1 ≤ rm.frames ∧ (rest.map fun v => v.category).sum + 13 ≤ rm.locals) (hf : cells ≤ rm.cells ∧ slots ≤ rm.slots) (d : decode cc pc = .ok (.invokestatic idx, 3))  (kk : GO l X b0 Z cells slots lo en (pc + 3) lv (.int (if 0 ≤ x then x else 0 - x) :: rest)) : GO l X b0 Z cells slots lo en pc lv (.int x :: rest) := by
  intro H locs ls hS hW hl
  exact va_mabs hC.1.1 hC.1.2.1 (by rw [hl.1, hC.2.2.2.2.2]; exact hC.1.2.2.1) hC.1.2.2.2.1 (hC.1.2.2.2.2 _ hm) (hC.1.2.2.2.2 _ ki_J9_abs_0f7a4) (hC.1.2.2.2.2 _ kz_J9) (hC.1.2.2.2.2 _ kc_J9_abs_0f7a4) (by rw [hC.2.2.1]; exact hR.1) (by rw [hC.2.2.1]; exact hR.2) (by rw [hC.2.2.1]; exact hf.1) (by rw [hC.2.2.1]; exact hf.2) d (kk H locs ls hS hW hl)
theorem g_widen {k n : Nat} (hk : cells ≤ k) (hn : slots ≤ n) (kk : GO l X b0 Z k n lo en pc lv rest) : GO l X b0 Z cells slots lo en pc lv rest := fun H locs ls hS hW hl => W.widen hk hn (kk H locs ls hS hW hl)
end GROWS
end
section
/-! ===== contracts over the world of labels; calls and returns ===== -/
abbrev gP : Type := Option Value → gL → gE → Prop
def cQ (X : gX) (b0 : Nat) (post : gP) : Array Value → State → Outcome → State → Prop := fun _ st oc t => (∃ (v : Option Value) (lo' : gL) (en' : gE), oc = .returned v ∧ post v lo' en' ∧ hw X b0 lo' en' t.heap) ∧ va_F (fun q => b0 ≤ q) st t
def cP (X : gX) (b0 : Nat) (lo : gL) (en : gE) (av : List Value) : Array Value → State → Prop := va_Pc av (fun U => hw X b0 lo en U.heap ∧ gK X U)
/-- a method's contract: from every heap that holds the world (lo, en), with the arguments av -/
def Ct (l : Launch) (X : gX) (b0 : Nat) (lo : gL) (en : gE) (y : MethodName) (cc : ByteArray) (maxL : Nat) (ret : Option FieldType) (rm : Room) (av : List Value) (post : gP) : Prop := Met l y (Cond.code y cc maxL ret :: gAll) rm (cP X b0 lo en av) (cQ X b0 post) rm.cells rm.slots (fun q => b0 ≤ q)
/-- reads alone: the answer is v, the world stays -/
def pX (v : Value) (lo : gL) (en : gE) : gP := fun v' lo' en' => v' = some v ∧ lo' = lo ∧ en' = en
/-- an int that the post speaks of -/
def pI (lo : gL) (post : Int32 → gE → Prop) : gP := fun v' lo' en' => lo' = lo ∧ ∃ r : Int32, v' = some (.int r) ∧ post r en'
def pV (lo : gL) (post : gE → Prop) : gP := fun v' lo' en' => v' = none ∧ lo' = lo ∧ post en'
def pW (v : Value) (lo : gL) (post : gE → Prop) : gP := fun v' lo' en' => v' = some v ∧ lo' = lo ∧ post en'
theorem cP.blind {X : gX} {b0 : Nat} {lo : gL} {en : gE} {av : List Value} : FrameBlind (cP X b0 lo en av) := fun a U g mk q => ⟨q.1, q.2.1, gK.same (s := U) rfl q.2.2⟩
def rM (f n : Nat) : Room := { frames := f, cells := 0, slots := 0, locals := n }
/-- the return: what a method's body must come to -/
def gRet (l : Launch) (X : gX) (b0 : Nat) (Z : gZ) (cc : ByteArray) (mc ms : Nat) (ret : Option FieldType) (post : gP) : Prop :=
  (∀ (lo' : gL) (en' : gE) (pc : Nat) (lv : List (Nat × Value)) (r : Int32) (rt : FieldType), ret = some rt → narrow rt (.int r) = .int r → decode cc pc = .ok (.ireturn, 1) → post (some (.int r)) lo' en' → GO l X b0 Z mc ms lo' en' pc lv [.int r]) ∧
  (∀ (lo' : gL) (en' : gE) (pc : Nat) (lv : List (Nat × Value)), ret = none → decode cc pc = .ok (.return_, 1) → post none lo' en' → GO l X b0 Z mc ms lo' en' pc lv []) ∧
  (∀ (lo' : gL) (en' : gE) (pc : Nat) (lv : List (Nat × Value)) (v : Value) (rt : FieldType), ret = some rt → ((∃ n, rt = .object n) ∨ ∃ t, rt = .array t) → (v = .null ∨ ∃ a, v = .ref a) → decode cc pc = .ok (.areturn, 1) → post (some v) lo' en' → GO l X b0 Z mc ms lo' en' pc lv [v])
theorem gMet {l : Launch} {X : gX} {b0 : Nat} {lo : gL} {en : gE} {y : MethodName} {cc : ByteArray} {maxL : Nat} {ret : Option FieldType} {rm : Room} {av : List Value} {post : gP} (hy : plainName y.cls = true) (hav : (lg_sl av).length ≤ maxL) (hc0 : (lv_args 0 av).all (fun q => Nat.beq q.2.category 1) = true)
    (body : ∀ Z : gZ, MC X Z rm cc maxL y.cls ret → (y.name = "<init>" → (zh Z).name = "<init>") → gRet l X b0 Z cc rm.cells rm.slots ret post → GO l X b0 Z 0 0 lo en 0 (lv_args 0 av) []) : Ct l X b0 lo en y cc maxL ret rm av post := by
  have hc1 : ∀ q ∈ lv_args 0 av, q.2.category = 1 := fun q hq => Nat.eq_of_beq_eq_true (List.all_eq_true.mp hc0 q hq)
  refine Met.ofW (cc := cc) (maxL := maxL) (ret := ret) hy rfl ?_
  intro p e s m args below meth c s₁ B hml hv
  obtain ⟨rfl, hW, hK⟩ := hv
  have hts := atoms_spec (ws := Cond.code y cc maxL ret :: gAll) B.pre
  have hown : s.vm.findClass y.cls = some m.cls := findClass_of_methodNamed B.named
  have hin : y.name = "<init>" → meth.name = "<init>" := fun h => (name_of_methodNamed B.named B.method).1.trans h
  have hl := lv_entry av (n := maxL) hav
  rw [lg_entry_eq]
  have hlocks := B.notSynchronized
  refine body (p, e, rm, s, m, av.toArray, below, meth, c, maxL, MQ below (cQ X b0 post) av.toArray s rm.cells rm.slots (fun q => b0 ≤ q)) ⟨⟨B.exec, B.bytes, hml, hown, fun w h => hts w (List.mem_cons_of_mem _ h)⟩, hK, rfl, B.returns, B.notSynchronized, rfl⟩ hin ⟨?_, ?_, ?_⟩ s.heap [] _ va_S.rf hW (lh_of hl hc1)
  · intro lo' en' pc lv r rt hrt hn hd hp H locs ls hS hW' hl'
    exact W.zret (v := r) (ty := rt) B.exec B.bytes (B.returns.trans hrt) hn (fun t ht hWm => ⟨⟨_, lo', en', rfl, hp, by rw [ht]; exact hW'⟩, hS.F ht⟩) hS.2.2 hd hlocks
  · intro lo' en' pc lv hrt hd hp H locs ls hS hW' hl'
    exact W.vret B.exec B.bytes (B.returns.trans hrt) (fun t ht hWm => ⟨⟨_, lo', en', rfl, hp, by rw [ht]; exact hW'⟩, hS.F ht⟩) hS.2.2 hd hlocks
  · intro lo' en' pc lv v rt hrt hk hvv hd hp H locs ls hS hW' hl'
    exact W.aret (v := v) B.exec B.bytes (B.returns.trans hrt) hk hvv (fun t ht hWm => ⟨⟨_, lo', en', rfl, hp, by rw [ht]; exact hW'⟩, hS.F ht⟩) hS.2.2 hd hlocks
/-- a callee that is called as a virtual method of class C -/
def gV (C : String) (y : MethodName) (bytes : ByteArray) (maxL : Nat) (ret : Option FieldType) (n : Nat) : Prop := Cond.instanceMethod y ∈ gAll ∧ Cond.selects C y y ∈ gAll ∧ Cond.initialized C ∈ gAll ∧ Cond.code y bytes maxL ret ∈ gAll ∧ (y.cls = C ∧ y.cls ≠ "java/lang/invoke/MethodHandle" ∧ y.cls ≠ "java/lang/invoke/VarHandle" ∧ (parseMethodDescriptor y.desc).map (fun d => d.parameters.length) = some n)
def gS (y : MethodName) (bytes : ByteArray) (maxL : Nat) (ret : Option FieldType) (n : Nat) : Prop := Cond.static y ∈ gAll ∧ Cond.initialized y.cls ∈ gAll ∧ Cond.code y bytes maxL ret ∈ gAll ∧ (y.cls ≠ "java/lang/invoke/MethodHandle" ∧ y.cls ≠ "java/lang/invoke/VarHandle" ∧ (parseMethodDescriptor y.desc).map (fun d => d.parameters.length) = some n)
def gI (y : MethodName) (bytes : ByteArray) (maxL : Nat) (n : Nat) : Prop := Cond.instanceMethod y ∈ gAll ∧ Cond.initialized y.cls ∈ gAll ∧ Cond.code y bytes maxL none ∈ gAll ∧ y.name = "<init>" ∧ (y.cls ≠ "java/lang/invoke/MethodHandle" ∧ y.cls ≠ "java/lang/invoke/VarHandle" ∧ (parseMethodDescriptor y.desc).map (fun d => d.parameters.length) = some n)
theorem gAll_cons {y : MethodName} {bytes : ByteArray} {maxL : Nat} {ret : Option FieldType} (h : Cond.code y bytes maxL ret ∈ gAll) : GoodIn gAll (Cond.code y bytes maxL ret :: gAll) := fun w hw => by
  rcases List.mem_cons.mp hw with rfl | hw
  · exact gAll_good _ h
  · exact gAll_good _ hw
theorem gGood_app {a b : List Cond} (ha : GoodIn gAll a) (hb : GoodIn gAll b) : GoodIn gAll (a ++ b) := fun w h => (List.mem_append.mp h).elim (ha w) (hb w)
theorem gGood_of {a : List Cond} (ha : ∀ w ∈ a, w ∈ gAll) : GoodIn gAll a := fun w h => gAll_good w (ha w h)
section GCALLS
variable {l : Launch} {X : gX} {b0 : Nat} {Z : gZ} {rm : Room} {cc : ByteArray} {nL : Nat} {own : String} {ret : Option FieldType} {cells slots : Nat} {lo : gL} {en : gE} {pc : Nat} {lv : List (Nat × Value)} {rest st : List Value} {y : MethodName} {bytes : ByteArray} {maxL n idx : Nat} {rt : Option FieldType} {rc : Room} {post : gP} {As av : List Value}
/-- behind a call -/
theorem g_back {H : Heap} {locs : List Loc} {ls : Array Slot} {a : Array Value} (hr : va_Run (zp Z) l (ze Z) (zR Z) (zs Z) (zm Z) (za Z) (zb Z) (zh Z) (zc Z) H locs cells slots rc.cells rc.slots (F0 (zm Z) pc ls st) rest (cQ X b0 post a) (fun q => b0 ≤ q)) (hS : va_S (fun q => b0 ≤ q) (zs Z).heap H locs) (hl : lh ls (zn Z) lv)
    (kk : ∀ (v : Option Value) (lo' : gL) (en' : gE), post v lo' en' → GO l X b0 Z (cells + rc.cells) (slots + rc.slots) lo' en' (pc + 3) lv (v.toList ++ rest)) : ZW l Z H locs cells slots (F0 (zm Z) pc ls st) := by
  intro T hT X'
  obtain ⟨v, st₀, t, T', L, h0, X2, hL, e1, e2, ⟨⟨v2, lo', en', hv, hp, hb⟩, hz, hk⟩, hst⟩ := hr T hT X'
  cases hv
  rw [h0] at hz hk
  obtain ⟨t2, a1, b1⟩ := kk v lo' en' hp T'.heap (locs ++ L) ls ⟨Nat.le_trans hS.1 (by rw [e1]; exact hz), fun q h1 h2 => by rw [e1, hk q (Nat.lt_of_lt_of_le h1 hS.1) h2]; exact hS.2.1 q h1 h2, fun q hq => by
      rcases List.mem_append.mp hq with h | h
      · exact hS.2.2 q h
      · exact hL q h⟩ (by rw [e1]; exact hb) hl T' rfl X2
  exact ⟨t2, hst t2 a1, b1⟩
theorem g_callV (hC : MC X Z rm cc nL own ret) {C : String} (hg : gV C y bytes maxL rt n) (hm : Cond.methodLink own idx y ∈ gAll) {k ci a : Nat} {fs : List Value} {r : vw_C} (hM : Ct l X b0 lo en y bytes maxL rt rc (.ref a :: As) post) (ha : a = lo k) (he : en k = some (.inr (ci, fs))) (hc : vwCl[ci]? = some r) (hCr : r.1 = C) (hn : As.length = n) (hst : st = As.reverse ++ .ref a :: rest) (hro : (rest.map fun v => v.category).sum ≤ 8) (hR : rc.frames + 1 ≤ rm.frames ∧ 8 + (maxL + 11) + rc.locals ≤ rm.locals) (hf : cells + rc.cells ≤ rm.cells ∧ slots + rc.slots ≤ rm.slots) (d : decode cc pc = .ok (.invokevirtual idx, 3))
    (kk : ∀ (v : Option Value) (lo' : gL) (en' : gE), post v lo' en' → GO l X b0 Z (cells + rc.cells) (slots + rc.slots) lo' en' (pc + 3) lv (v.toList ++ rest)) : GO l X b0 Z cells slots lo en pc lv st := by
  intro H locs ls hS hW hl
  subst ha
  obtain ⟨g1, g2, g3, g4, g5⟩ := hg
  have hP : va_P X.1 vwCl [(lo k, .inr (ci, fs))] H := fun i q hq => by
    match i, hq with
    | 0, hq => cases hq; exact (hW.2.1 k _ he).2
    | i + 1, hq => simp at hq
  have hrec := va_recv hC.2.1.1 hP (ci := ci) (q0 := 0) hc rfl
  rw [hCr] at hrec
  have hcw : CallW (zR Z) (zs Z) (za Z) own C idx y bytes maxL rt (Cond.code y bytes maxL rt :: gAll) rc rc.cells rc.slots n := cwV n hC.1.2.2.2.2 (gGood_app (gGood_of (fun w h => by
    simp only [List.mem_cons, List.not_mem_nil, or_false] at h
    rcases h with rfl | rfl | rfl | rfl
    · exact hm
    · exact g1
    · exact g2
    · exact g3)) (gAll_cons g4)) rfl rfl rfl g5 (by rw [hC.2.2.1]; exact hR)
  exact g_back (va_runV (C := C) (As := As) (rest := rest) (b := lo k) hC.1 hM hcw ⟨cP.blind, hrec, fun U hU hWm => ⟨rfl, by rw [hU]; exact hW, gK.warm hWm hC.2.1⟩⟩ rfl hn (hl.1.trans hC.2.2.2.2.2) hst (lv_room hro) d (by rw [hC.2.2.1]; exact hf)) hS hl kk
theorem g_callS (hC : MC X Z rm cc nL own ret) (hg : gS y bytes maxL rt n) (hm : Cond.methodLink own idx y ∈ gAll) (hM : Ct l X b0 lo en y bytes maxL rt rc As post) (hn : As.length = n) (hst : st = As.reverse ++ rest) (hro : (rest.map fun v => v.category).sum ≤ 8) (hR : rc.frames + 1 ≤ rm.frames ∧ 8 + (maxL + 11) + rc.locals ≤ rm.locals) (hf : cells + rc.cells ≤ rm.cells ∧ slots + rc.slots ≤ rm.slots) (d : decode cc pc = .ok (.invokestatic idx, 3))
    (kk : ∀ (v : Option Value) (lo' : gL) (en' : gE), post v lo' en' → GO l X b0 Z (cells + rc.cells) (slots + rc.slots) lo' en' (pc + 3) lv (v.toList ++ rest)) : GO l X b0 Z cells slots lo en pc lv st := by
  intro H locs ls hS hW hl
  obtain ⟨g1, g2, g4, g5⟩ := hg
  have hcw := va_cwS (own := own) (index := idx) (rm := rc) (R := zR Z) (s := zs Z) (args := za Z) n hC.1.2.2.2.2 (gGood_app (gGood_of (fun w h => by
    simp only [List.mem_cons, List.not_mem_nil, or_false] at h
    rcases h with rfl | rfl | rfl
    · exact hm
    · exact g1
    · exact g2)) (gAll_cons g4)) rfl rfl rfl g5 (by rw [hC.2.2.1]; exact hR)
  exact g_back (va_runS (As := As) (rest := rest) hC.1 hM hcw ⟨cP.blind, fun U hU hWm => ⟨rfl, by rw [hU]; exact hW, gK.warm hWm hC.2.1⟩⟩ rfl hn (hl.1.trans hC.2.2.2.2.2) hst (lv_room hro) d (by rw [hC.2.2.1]; exact hf)) hS hl kk
theorem g_callI (hC : MC X Z rm cc nL own ret) (hg : gI y bytes maxL n) (hm : Cond.methodLink own idx y ∈ gAll) {b : Nat} (hM : Ct l X b0 lo en y bytes maxL none rc (.ref b :: As) post) (hn : As.length = n) (hst : st = As.reverse ++ .ref b :: rest) (hro : (rest.map fun v => v.category).sum ≤ 8) (hR : rc.frames + 1 ≤ rm.frames ∧ 8 + (maxL + 11) + rc.locals ≤ rm.locals) (hf : cells + rc.cells ≤ rm.cells ∧ slots + rc.slots ≤ rm.slots) (d : decode cc pc = .ok (.invokespecial idx, 3))
    (kk : ∀ (v : Option Value) (lo' : gL) (en' : gE), post v lo' en' → GO l X b0 Z (cells + rc.cells) (slots + rc.slots) lo' en' (pc + 3) lv (v.toList ++ rest)) : GO l X b0 Z cells slots lo en pc lv st := by
  intro H locs ls hS hW hl
  obtain ⟨g1, g2, g4, g6, g5⟩ := hg
  have hcw := cwI (own := own) (index := idx) (rm := rc) (R := zR Z) (s := zs Z) (args := za Z) n hC.1.2.2.2.2 (gAll_cons g4) rfl rfl rfl (hC.1.2.2.2.2 _ g2) (hC.1.2.2.2.2 _ hm) (hC.1.2.2.2.2 _ g1) g6 g5 (by rw [hC.2.2.1]; exact hR)
  exact g_back (va_runI (As := As) (rest := rest) (b := b) hC.1 hM hcw ⟨cP.blind, fun U hU hWm => ⟨rfl, by rw [hU]; exact hW, gK.warm hWm hC.2.1⟩⟩ rfl hn (hl.1.trans hC.2.2.2.2.2) hst (lv_room hro) d (by rw [hC.2.2.1]; exact hf)) hS hl kk
theorem g_callIN (hC : MC X Z rm cc nL own ret) (hg : gI y bytes maxL n) {host : String} (hm : va_Nw (.methodLinkNest own idx y host) (zs Z)) {b : Nat} (hM : Ct l X b0 lo en y bytes maxL none rc (.ref b :: As) post) (hn : As.length = n) (hst : st = As.reverse ++ .ref b :: rest) (hro : (rest.map fun v => v.category).sum ≤ 8) (hR : rc.frames + 1 ≤ rm.frames ∧ 8 + (maxL + 11) + rc.locals ≤ rm.locals) (hf : cells + rc.cells ≤ rm.cells ∧ slots + rc.slots ≤ rm.slots) (d : decode cc pc = .ok (.invokespecial idx, 3))
    (kk : ∀ (v : Option Value) (lo' : gL) (en' : gE), post v lo' en' → GO l X b0 Z (cells + rc.cells) (slots + rc.slots) lo' en' (pc + 3) lv (v.toList ++ rest)) : GO l X b0 Z cells slots lo en pc lv st := by
  intro H locs ls hS hW hl
  obtain ⟨g1, g2, g4, g6, g5⟩ := hg
  have hcw := va_cnB (own := own) (host := host) (index := idx) (rm := rc) (R := zR Z) (s := zs Z) (args := za Z) n hC.1.2.2.2.2 (gAll_cons g4) rfl rfl rfl hm (hC.1.2.2.2.2 _ g2) g5 (by rw [hC.2.2.1]; exact hR)
  exact g_back (va_runIN (host := host) (As := As) (rest := rest) (b := b) hC.1 hM ⟨hcw, g6, hC.1.2.2.2.2 _ g1⟩ ⟨cP.blind, fun U hU hWm => ⟨rfl, by rw [hU]; exact hW, gK.warm hWm hC.2.1⟩⟩ rfl hn (hl.1.trans hC.2.2.2.2.2) hst (lv_room hro) d (by rw [hC.2.2.1]; exact hf)) hS hl kk
/-- what comes behind a call, by the form of its post -/
theorem kX {v0 : Value} {lo0 : gL} {en0 : gE} {rest : List Value} {cells slots : Nat} (h : GO l X b0 Z cells slots lo0 en0 pc lv (v0 :: rest)) : ∀ (v : Option Value) (lo' : gL) (en' : gE), pX v0 lo0 en0 v lo' en' → GO l X b0 Z cells slots lo' en' pc lv (v.toList ++ rest) := by
  rintro v lo' en' ⟨rfl, rfl, rfl⟩; exact h
theorem kI {lo0 : gL} {post : Int32 → gE → Prop} {rest : List Value} {cells slots : Nat} (h : ∀ (r : Int32) (en' : gE), post r en' → GO l X b0 Z cells slots lo0 en' pc lv (.int r :: rest)) : ∀ (v : Option Value) (lo' : gL) (en' : gE), pI lo0 post v lo' en' → GO l X b0 Z cells slots lo' en' pc lv (v.toList ++ rest) := by
  rintro v lo' en' ⟨rfl, r, rfl, hp⟩; exact h r en' hp
theorem kV {lo0 : gL} {post : gE → Prop} {rest : List Value} {cells slots : Nat} (h : ∀ (en' : gE), post en' → GO l X b0 Z cells slots lo0 en' pc lv rest) : ∀ (v : Option Value) (lo' : gL) (en' : gE), pV lo0 post v lo' en' → GO l X b0 Z cells slots lo' en' pc lv (v.toList ++ rest) := by
  rintro v lo' en' ⟨rfl, rfl, hp⟩; exact h en' hp
theorem kW {v0 : Value} {lo0 : gL} {post : gE → Prop} {rest : List Value} {cells slots : Nat} (h : ∀ (en' : gE), post en' → GO l X b0 Z cells slots lo0 en' pc lv (v0 :: rest)) : ∀ (v : Option Value) (lo' : gL) (en' : gE), pW v0 lo0 post v lo' en' → GO l X b0 Z cells slots lo' en' pc lv (v.toList ++ rest) := by
  rintro v lo' en' ⟨rfl, rfl, hp⟩; exact h en' hp
theorem g_ireti {rt : FieldType} {post : gP} {mc ms : Nat} {r : Int32} (hr : gRet l X b0 Z cc mc ms (some rt) post) (d : decode cc pc = .ok (.ireturn, 1)) (hn : narrow rt (.int r) = .int r) (hp : post (some (.int r)) lo en) : GO l X b0 Z mc ms lo en pc lv [.int r] := hr.1 lo en pc lv r rt rfl hn d hp
theorem g_retv {post : gP} {mc ms : Nat} (hr : gRet l X b0 Z cc mc ms none post) (d : decode cc pc = .ok (.return_, 1)) (hp : post none lo en) : GO l X b0 Z mc ms lo en pc lv [] := hr.2.1 lo en pc lv rfl d hp
theorem g_areto {nm : String} {post : gP} {mc ms : Nat} {v : Value} (hr : gRet l X b0 Z cc mc ms (some (.object nm)) post) (hv : v = .null ∨ ∃ a, v = .ref a) (d : decode cc pc = .ok (.areturn, 1)) (hp : post (some v) lo en) : GO l X b0 Z mc ms lo en pc lv [v] := hr.2.2 lo en pc lv v _ rfl (Or.inl ⟨_, rfl⟩) hv d hp
theorem g_areta {t : FieldType} {post : gP} {mc ms : Nat} {v : Value} (hr : gRet l X b0 Z cc mc ms (some (.array t)) post) (hv : v = .null ∨ ∃ a, v = .ref a) (d : decode cc pc = .ok (.areturn, 1)) (hp : post (some v) lo en) : GO l X b0 Z mc ms lo en pc lv [v] := hr.2.2 lo en pc lv v _ rfl (Or.inr ⟨_, rfl⟩) hv d hp
end GCALLS
theorem pXi {r r' : Int32} {lo : gL} {en : gE} (h : r = r') : pX (.int r') lo en (some (.int r)) lo en := ⟨by rw [h], rfl, rfl⟩
end
section
theorem v_X0_init : gI yX0_init cX0_init 1 0 := ⟨ki_X0_init, kz_X0, kc_X0_init, rfl, by decide +kernel⟩
theorem v_X1_init : gI yX1_init cX1_init 4 3 := ⟨ki_X1_init, kz_X1, kc_X1_init, rfl, by decide +kernel⟩
theorem v_X1_append : gV RX1 yX1_append cX1_append 3 none 2 := ⟨ki_X1_append, ks_X1_append, kz_X1, kc_X1_append, by decide +kernel⟩
theorem v_X2_init : gI yX2_init cX2_init 6 4 := ⟨ki_X2_init, kz_X2, kc_X2_init, rfl, by decide +kernel⟩
theorem v_X3_init : gI yX3_init cX3_init 1 0 := ⟨ki_X3_init, kz_X3, kc_X3_init, rfl, by decide +kernel⟩
theorem v_X3_turn : gV RX3 yX3_turn cX3_turn 6 none 2 := ⟨ki_X3_turn, ks_X3_turn, kz_X3, kc_X3_turn, by decide +kernel⟩
theorem v_X4_init : gI yX4_init cX4_init 1 0 := ⟨ki_X4_init, kz_X4, kc_X4_init, rfl, by decide +kernel⟩
theorem v_X4_clearRow : gV RX4 yX4_clearRow cX4_clearRow 2 (some FieldType.int) 0 := ⟨ki_X4_clearRow, ks_X4_clearRow, kz_X4, kc_X4_clearRow, by decide +kernel⟩
theorem v_X4_addToRow : gV RX4 yX4_addToRow cX4_addToRow 2 (some FieldType.int) 1 := ⟨ki_X4_addToRow, ks_X4_addToRow, kz_X4, kc_X4_addToRow, by decide +kernel⟩
theorem v_X4_setTolerances : gV RX4 yX4_setTolerances cX4_setTolerances 4 (some FieldType.int) 2 := ⟨ki_X4_setTolerances, ks_X4_setTolerances, kz_X4, kc_X4_setTolerances, by decide +kernel⟩
theorem v_X4_addMould : gV RX4 yX4_addMould cX4_addMould 5 (some FieldType.int) 3 := ⟨ki_X4_addMould, ks_X4_addMould, kz_X4, kc_X4_addMould, by decide +kernel⟩
theorem v_X4_addState : gV RX4 yX4_addState cX4_addState 5 (some FieldType.int) 3 := ⟨ki_X4_addState, ks_X4_addState, kz_X4, kc_X4_addState, by decide +kernel⟩
theorem v_X4_removeState : gV RX4 yX4_removeState cX4_removeState 3 (some FieldType.int) 1 := ⟨ki_X4_removeState, ks_X4_removeState, kz_X4, kc_X4_removeState, by decide +kernel⟩
theorem v_X4_stateCount : gV RX4 yX4_stateCount cX4_stateCount 3 (some FieldType.int) 1 := ⟨ki_X4_stateCount, ks_X4_stateCount, kz_X4, kc_X4_stateCount, by decide +kernel⟩
theorem v_X4_areTwins : gV RX4 yX4_areTwins cX4_areTwins 5 (some FieldType.int) 2 := ⟨ki_X4_areTwins, ks_X4_areTwins, kz_X4, kc_X4_areTwins, by decide +kernel⟩
theorem v_X4_twinDifference : gV RX4 yX4_twinDifference cX4_twinDifference 7 (some FieldType.int) 2 := ⟨ki_X4_twinDifference, ks_X4_twinDifference, kz_X4, kc_X4_twinDifference, by decide +kernel⟩
theorem v_X4_addSheet : gV RX4 yX4_addSheet cX4_addSheet 4 (some FieldType.int) 3 := ⟨ki_X4_addSheet, ks_X4_addSheet, kz_X4, kc_X4_addSheet, by decide +kernel⟩
theorem v_X4_setDates : gV RX4 yX4_setDates cX4_setDates 5 (some FieldType.int) 3 := ⟨ki_X4_setDates, ks_X4_setDates, kz_X4, kc_X4_setDates, by decide +kernel⟩
theorem v_X4_count : gV RX4 yX4_count cX4_count 2 (some FieldType.int) 1 := ⟨ki_X4_count, ks_X4_count, kz_X4, kc_X4_count, by decide +kernel⟩
theorem v_X4_score : gV RX4 yX4_score cX4_score 5 (some FieldType.int) 2 := ⟨ki_X4_score, ks_X4_score, kz_X4, kc_X4_score, by decide +kernel⟩
theorem v_X4_placement : gV RX4 yX4_placement cX4_placement 6 (some FieldType.int) 3 := ⟨ki_X4_placement, ks_X4_placement, kz_X4, kc_X4_placement, by decide +kernel⟩
theorem v_X4_assignedMould : gV RX4 yX4_assignedMould cX4_assignedMould 3 (some FieldType.int) 1 := ⟨ki_X4_assignedMould, ks_X4_assignedMould, kz_X4, kc_X4_assignedMould, by decide +kernel⟩
theorem v_X4_rivalCount : gV RX4 yX4_rivalCount cX4_rivalCount 9 (some FieldType.int) 2 := ⟨ki_X4_rivalCount, ks_X4_rivalCount, kz_X4, kc_X4_rivalCount, by decide +kernel⟩
theorem v_X4_sheetsOf : gV RX4 yX4_sheetsOf cX4_sheetsOf 4 (some FieldType.int) 1 := ⟨ki_X4_sheetsOf, ks_X4_sheetsOf, kz_X4, kc_X4_sheetsOf, by decide +kernel⟩
theorem v_X4_sheetAt : gV RX4 yX4_sheetAt cX4_sheetAt 4 (some FieldType.int) 2 := ⟨ki_X4_sheetAt, ks_X4_sheetAt, kz_X4, kc_X4_sheetAt, by decide +kernel⟩
theorem v_X4_earliest : gV RX4 yX4_earliest cX4_earliest 3 (some FieldType.int) 1 := ⟨ki_X4_earliest, ks_X4_earliest, kz_X4, kc_X4_earliest, by decide +kernel⟩
theorem v_X4_latest : gV RX4 yX4_latest cX4_latest 3 (some FieldType.int) 1 := ⟨ki_X4_latest, ks_X4_latest, kz_X4, kc_X4_latest, by decide +kernel⟩
theorem v_X4_contradictionCount : gV RX4 yX4_contradictionCount cX4_contradictionCount 5 (some FieldType.int) 1 := ⟨ki_X4_contradictionCount, ks_X4_contradictionCount, kz_X4, kc_X4_contradictionCount, by decide +kernel⟩
theorem v_X4_isWithin : gS yX4_isWithin cX4_isWithin 3 (some FieldType.boolean) 3 := ⟨ki_X4_isWithin, kz_X4, kc_X4_isWithin, by decide +kernel⟩
theorem v_X4_isPosition : gS yX4_isPosition cX4_isPosition 3 (some FieldType.boolean) 3 := ⟨ki_X4_isPosition, kz_X4, kc_X4_isPosition, by decide +kernel⟩
theorem v_X4_isMarkInRow : gV RX4 yX4_isMarkInRow cX4_isMarkInRow 4 (some FieldType.boolean) 3 := ⟨ki_X4_isMarkInRow, ks_X4_isMarkInRow, kz_X4, kc_X4_isMarkInRow, by decide +kernel⟩
theorem v_X4_mouldOrNull : gV RX4 yX4_mouldOrNull cX4_mouldOrNull 2 (some (FieldType.object "MouldMatcher$Mould")) 1 := ⟨ki_X4_mouldOrNull, ks_X4_mouldOrNull, kz_X4, kc_X4_mouldOrNull, by decide +kernel⟩
theorem v_X4_sheetOrNull : gV RX4 yX4_sheetOrNull cX4_sheetOrNull 2 (some (FieldType.object "MouldMatcher$Sheet")) 1 := ⟨ki_X4_sheetOrNull, ks_X4_sheetOrNull, kz_X4, kc_X4_sheetOrNull, by decide +kernel⟩
theorem v_X4_couldBeTwins : gV RX4 yX4_couldBeTwins cX4_couldBeTwins 3 (some FieldType.boolean) 2 := ⟨ki_X4_couldBeTwins, ks_X4_couldBeTwins, kz_X4, kc_X4_couldBeTwins, by decide +kernel⟩
theorem v_X4_greatestSpacingDifference : gS yX4_greatestSpacingDifference cX4_greatestSpacingDifference 5 (some FieldType.int) 2 := ⟨ki_X4_greatestSpacingDifference, kz_X4, kc_X4_greatestSpacingDifference, by decide +kernel⟩
theorem v_X4_mouldFor : gV RX4 yX4_mouldFor cX4_mouldFor 6 (some FieldType.int) 1 := ⟨ki_X4_mouldFor, ks_X4_mouldFor, kz_X4, kc_X4_mouldFor, by decide +kernel⟩
theorem v_X4_matchOf : gV RX4 yX4_matchOf cX4_matchOf 4 (some (FieldType.object "MouldMatcher$Match")) 2 := ⟨ki_X4_matchOf, ks_X4_matchOf, kz_X4, kc_X4_matchOf, by decide +kernel⟩
theorem v_X4_forgetMatches : gV RX4 yX4_forgetMatches cX4_forgetMatches 3 none 1 := ⟨ki_X4_forgetMatches, ks_X4_forgetMatches, kz_X4, kc_X4_forgetMatches, by decide +kernel⟩
theorem v_X4_findBest : gV RX4 yX4_findBest cX4_findBest 8 none 3 := ⟨ki_X4_findBest, ks_X4_findBest, kz_X4, kc_X4_findBest, by decide +kernel⟩
theorem v_X4_tryPlacement : gV RX4 yX4_tryPlacement cX4_tryPlacement 7 none 4 := ⟨ki_X4_tryPlacement, ks_X4_tryPlacement, kz_X4, kc_X4_tryPlacement, by decide +kernel⟩
theorem v_X4_spacingDeviations : gV RX4 yX4_spacingDeviations cX4_spacingDeviations 7 (some FieldType.int) 3 := ⟨ki_X4_spacingDeviations, ks_X4_spacingDeviations, kz_X4, kc_X4_spacingDeviations, by decide +kernel⟩
theorem v_X4_fittingState : gV RX4 yX4_fittingState cX4_fittingState 7 (some FieldType.int) 2 := ⟨ki_X4_fittingState, ks_X4_fittingState, kz_X4, kc_X4_fittingState, by decide +kernel⟩
theorem v_X4_markDeviation : gV RX4 yX4_markDeviation cX4_markDeviation 6 (some FieldType.int) 3 := ⟨ki_X4_markDeviation, ks_X4_markDeviation, kz_X4, kc_X4_markDeviation, by decide +kernel⟩
theorem v_X4_gatherStates : gV RX4 yX4_gatherStates cX4_gatherStates 3 none 1 := ⟨ki_X4_gatherStates, ks_X4_gatherStates, kz_X4, kc_X4_gatherStates, by decide +kernel⟩
theorem v_X4_isLowerState : gV RX4 yX4_isLowerState cX4_isLowerState 3 (some FieldType.boolean) 2 := ⟨ki_X4_isLowerState, ks_X4_isLowerState, kz_X4, kc_X4_isLowerState, by decide +kernel⟩
theorem v_X4_earliestOf : gV RX4 yX4_earliestOf cX4_earliestOf 4 (some FieldType.int) 1 := ⟨ki_X4_earliestOf, ks_X4_earliestOf, kz_X4, kc_X4_earliestOf, by decide +kernel⟩
theorem v_X4_latestOf : gV RX4 yX4_latestOf cX4_latestOf 4 (some FieldType.int) 1 := ⟨ki_X4_latestOf, ks_X4_latestOf, kz_X4, kc_X4_latestOf, by decide +kernel⟩
theorem v_X4_placeOf : gV RX4 yX4_placeOf cX4_placeOf 4 (some FieldType.int) 1 := ⟨ki_X4_placeOf, ks_X4_placeOf, kz_X4, kc_X4_placeOf, by decide +kernel⟩
theorem v_X4_comesBefore : gV RX4 yX4_comesBefore cX4_comesBefore 3 (some FieldType.boolean) 2 := ⟨ki_X4_comesBefore, ks_X4_comesBefore, kz_X4, kc_X4_comesBefore, by decide +kernel⟩
theorem v_X5_init : gI yX5_init cX5_init 1 0 := ⟨ki_X5_init, kz_X5, kc_X5_init, rfl, by decide +kernel⟩
theorem v_X5_within : gS yX5_within cX5_within 3 (some FieldType.boolean) 3 := ⟨ki_X5_within, kz_X5, kc_X5_within, by decide +kernel⟩
theorem v_X5_apart : gS yX5_apart cX5_apart 2 (some FieldType.int) 2 := ⟨ki_X5_apart, kz_X5, kc_X5_apart, by decide +kernel⟩
theorem v_X5_clearRow : gV RX5 yX5_clearRow cX5_clearRow 2 (some FieldType.int) 0 := ⟨ki_X5_clearRow, ks_X5_clearRow, kz_X5, kc_X5_clearRow, by decide +kernel⟩
theorem v_X5_addToRow : gV RX5 yX5_addToRow cX5_addToRow 2 (some FieldType.int) 1 := ⟨ki_X5_addToRow, ks_X5_addToRow, kz_X5, kc_X5_addToRow, by decide +kernel⟩
theorem v_X5_setTolerances : gV RX5 yX5_setTolerances cX5_setTolerances 4 (some FieldType.int) 2 := ⟨ki_X5_setTolerances, ks_X5_setTolerances, kz_X5, kc_X5_setTolerances, by decide +kernel⟩
theorem v_X5_noMould : gV RX5 yX5_noMould cX5_noMould 2 (some FieldType.boolean) 1 := ⟨ki_X5_noMould, ks_X5_noMould, kz_X5, kc_X5_noMould, by decide +kernel⟩
theorem v_X5_isMark : gV RX5 yX5_isMark cX5_isMark 4 (some FieldType.boolean) 3 := ⟨ki_X5_isMark, ks_X5_isMark, kz_X5, kc_X5_isMark, by decide +kernel⟩
theorem v_X5_putState : gV RX5 yX5_putState cX5_putState 4 none 3 := ⟨ki_X5_putState, ks_X5_putState, kz_X5, kc_X5_putState, by decide +kernel⟩
theorem v_X5_addMould : gV RX5 yX5_addMould cX5_addMould 5 (some FieldType.int) 3 := ⟨ki_X5_addMould, ks_X5_addMould, kz_X5, kc_X5_addMould, by decide +kernel⟩
theorem v_X5_addState : gV RX5 yX5_addState cX5_addState 4 (some FieldType.int) 3 := ⟨ki_X5_addState, ks_X5_addState, kz_X5, kc_X5_addState, by decide +kernel⟩
theorem v_X5_removeState : gV RX5 yX5_removeState cX5_removeState 2 (some FieldType.int) 1 := ⟨ki_X5_removeState, ks_X5_removeState, kz_X5, kc_X5_removeState, by decide +kernel⟩
theorem v_X5_stateCount : gV RX5 yX5_stateCount cX5_stateCount 2 (some FieldType.int) 1 := ⟨ki_X5_stateCount, ks_X5_stateCount, kz_X5, kc_X5_stateCount, by decide +kernel⟩
theorem v_X5_twinSpacings : gV RX5 yX5_twinSpacings cX5_twinSpacings 6 (some FieldType.int) 2 := ⟨ki_X5_twinSpacings, ks_X5_twinSpacings, kz_X5, kc_X5_twinSpacings, by decide +kernel⟩
theorem v_X5_twoBarred : gV RX5 yX5_twoBarred cX5_twoBarred 3 (some FieldType.int) 2 := ⟨ki_X5_twoBarred, ks_X5_twoBarred, kz_X5, kc_X5_twoBarred, by decide +kernel⟩
theorem v_X5_areTwins : gV RX5 yX5_areTwins cX5_areTwins 4 (some FieldType.int) 2 := ⟨ki_X5_areTwins, ks_X5_areTwins, kz_X5, kc_X5_areTwins, by decide +kernel⟩
theorem v_X5_twinDifference : gV RX5 yX5_twinDifference cX5_twinDifference 7 (some FieldType.int) 2 := ⟨ki_X5_twinDifference, ks_X5_twinDifference, kz_X5, kc_X5_twinDifference, by decide +kernel⟩
theorem v_X5_noSheet : gV RX5 yX5_noSheet cX5_noSheet 2 (some FieldType.boolean) 1 := ⟨ki_X5_noSheet, ks_X5_noSheet, kz_X5, kc_X5_noSheet, by decide +kernel⟩
theorem v_X5_addSheet : gV RX5 yX5_addSheet cX5_addSheet 5 (some FieldType.int) 3 := ⟨ki_X5_addSheet, ks_X5_addSheet, kz_X5, kc_X5_addSheet, by decide +kernel⟩
theorem v_X5_setDates : gV RX5 yX5_setDates cX5_setDates 5 (some FieldType.int) 3 := ⟨ki_X5_setDates, ks_X5_setDates, kz_X5, kc_X5_setDates, by decide +kernel⟩
theorem v_X5_count : gV RX5 yX5_count cX5_count 2 (some FieldType.int) 1 := ⟨ki_X5_count, ks_X5_count, kz_X5, kc_X5_count, by decide +kernel⟩
theorem v_X5_spacingScore : gV RX5 yX5_spacingScore cX5_spacingScore 11 (some FieldType.int) 5 := ⟨ki_X5_spacingScore, ks_X5_spacingScore, kz_X5, kc_X5_spacingScore, by decide +kernel⟩
theorem v_X5_markScore : gV RX5 yX5_markScore cX5_markScore 10 (some FieldType.int) 4 := ⟨ki_X5_markScore, ks_X5_markScore, kz_X5, kc_X5_markScore, by decide +kernel⟩
theorem v_X5_scoreOf : gV RX5 yX5_scoreOf cX5_scoreOf 13 (some FieldType.int) 5 := ⟨ki_X5_scoreOf, ks_X5_scoreOf, kz_X5, kc_X5_scoreOf, by decide +kernel⟩
theorem v_X5_findBest : gV RX5 yX5_findBest cX5_findBest 7 none 2 := ⟨ki_X5_findBest, ks_X5_findBest, kz_X5, kc_X5_findBest, by decide +kernel⟩
theorem v_X5_bothBarred : gV RX5 yX5_bothBarred cX5_bothBarred 3 (some FieldType.int) 2 := ⟨ki_X5_bothBarred, ks_X5_bothBarred, kz_X5, kc_X5_bothBarred, by decide +kernel⟩
theorem v_X5_score : gV RX5 yX5_score cX5_score 4 (some FieldType.int) 2 := ⟨ki_X5_score, ks_X5_score, kz_X5, kc_X5_score, by decide +kernel⟩
theorem v_X5_placement : gV RX5 yX5_placement cX5_placement 5 (some FieldType.int) 3 := ⟨ki_X5_placement, ks_X5_placement, kz_X5, kc_X5_placement, by decide +kernel⟩
theorem v_X5_assign : gV RX5 yX5_assign cX5_assign 3 none 1 := ⟨ki_X5_assign, ks_X5_assign, kz_X5, kc_X5_assign, by decide +kernel⟩
theorem v_X5_assignAll : gV RX5 yX5_assignAll cX5_assignAll 2 none 0 := ⟨ki_X5_assignAll, ks_X5_assignAll, kz_X5, kc_X5_assignAll, by decide +kernel⟩
theorem v_X5_assignedMould : gV RX5 yX5_assignedMould cX5_assignedMould 2 (some FieldType.int) 1 := ⟨ki_X5_assignedMould, ks_X5_assignedMould, kz_X5, kc_X5_assignedMould, by decide +kernel⟩
theorem v_X5_rivalCount : gV RX5 yX5_rivalCount cX5_rivalCount 5 (some FieldType.int) 2 := ⟨ki_X5_rivalCount, ks_X5_rivalCount, kz_X5, kc_X5_rivalCount, by decide +kernel⟩
theorem v_X5_sheetsOf : gV RX5 yX5_sheetsOf cX5_sheetsOf 4 (some FieldType.int) 1 := ⟨ki_X5_sheetsOf, ks_X5_sheetsOf, kz_X5, kc_X5_sheetsOf, by decide +kernel⟩
theorem v_X5_isLower : gV RX5 yX5_isLower cX5_isLower 3 (some FieldType.boolean) 2 := ⟨ki_X5_isLower, ks_X5_isLower, kz_X5, kc_X5_isLower, by decide +kernel⟩
theorem v_X5_earliestOf : gV RX5 yX5_earliestOf cX5_earliestOf 4 (some FieldType.int) 1 := ⟨ki_X5_earliestOf, ks_X5_earliestOf, kz_X5, kc_X5_earliestOf, by decide +kernel⟩
theorem v_X5_earliest : gV RX5 yX5_earliest cX5_earliest 2 (some FieldType.int) 1 := ⟨ki_X5_earliest, ks_X5_earliest, kz_X5, kc_X5_earliest, by decide +kernel⟩
theorem v_X5_latest : gV RX5 yX5_latest cX5_latest 4 (some FieldType.int) 1 := ⟨ki_X5_latest, ks_X5_latest, kz_X5, kc_X5_latest, by decide +kernel⟩
theorem v_X5_isAhead : gV RX5 yX5_isAhead cX5_isAhead 5 (some FieldType.boolean) 2 := ⟨ki_X5_isAhead, ks_X5_isAhead, kz_X5, kc_X5_isAhead, by decide +kernel⟩
theorem v_X5_isPlaced : gV RX5 yX5_isPlaced cX5_isPlaced 3 (some FieldType.boolean) 2 := ⟨ki_X5_isPlaced, ks_X5_isPlaced, kz_X5, kc_X5_isPlaced, by decide +kernel⟩
theorem v_X5_sheetAt : gV RX5 yX5_sheetAt cX5_sheetAt 6 (some FieldType.int) 2 := ⟨ki_X5_sheetAt, ks_X5_sheetAt, kz_X5, kc_X5_sheetAt, by decide +kernel⟩
theorem v_X5_contradictionCount : gV RX5 yX5_contradictionCount cX5_contradictionCount 5 (some FieldType.int) 1 := ⟨ki_X5_contradictionCount, ks_X5_contradictionCount, kz_X5, kc_X5_contradictionCount, by decide +kernel⟩
theorem v_J9_abs_0f7a4 : gS yJ9_abs_0f7a4 cJ9_abs_0f7a4 1 (some FieldType.int) 1 := ⟨ki_J9_abs_0f7a4, kz_J9, kc_J9_abs_0f7a4, by decide +kernel⟩
theorem v_J9_max_7cf53 : gS yJ9_max_7cf53 cJ9_max_7cf53 2 (some FieldType.int) 2 := ⟨ki_J9_max_7cf53, kz_J9, kc_J9_max_7cf53, by decide +kernel⟩
theorem v_J9_min_7cf53 : gS yJ9_min_7cf53 cJ9_min_7cf53 2 (some FieldType.int) 2 := ⟨ki_J9_min_7cf53, kz_J9, kc_J9_min_7cf53, by decide +kernel⟩
theorem v_J7_copyOf_59c91 : gS yJ7_copyOf_59c91 cJ7_copyOf_59c91 3 (some (FieldType.array FieldType.int)) 2 := ⟨ki_J7_copyOf_59c91, kz_J7, kc_J7_copyOf_59c91, by decide +kernel⟩
end
section
/-! ===== the reference's world (labels 1000 to 1017) and the class's (labels below 1000), as functions of raw states =====
reference: M a i (a 0 to 13: its arrays; M 20 f: its lasting numbers), T a i (a 0, 1, 2: mouldOf, stateOf, scoreBy; T 3 f: its other numbers)
class: L (lengths: L 0 i, L 1 j of the spacings; L 2 0, L 2 1: how many moulds, sheets), K (what lasts), C (view, kept matches, rows for questions) -/
def up2 (M : Nat → Nat → Int32) (a i : Nat) (v : Int32) : Nat → Nat → Int32 := fun b j => if b = a ∧ j = i then v else M b j
def up3 (K : Nat → Nat → Nat → Int32) (a i j : Nat) (v : Int32) : Nat → Nat → Nat → Int32 := fun b x y => if b = a ∧ x = i ∧ y = j then v else K b x y
theorem up2_row {M : Nat → Nat → Int32} {a b i : Nat} {v : Int32} (h : b ≠ a) : up2 M a i v b = M b := by funext j; simp [up2, h]
theorem up2_self {M : Nat → Nat → Int32} {a i : Nat} {v : Int32} : up2 M a i v a = upd (M a) i v := by funext j; simp [up2, upd]
theorem up3_row {K : Nat → Nat → Nat → Int32} {a b x i j : Nat} {v : Int32} (h : b ≠ a ∨ x ≠ i) : up3 K a i j v b x = K b x := by
  funext y
  unfold up3
  rw [if_neg]
  rintro ⟨h1, h2, -⟩
  rcases h with h | h
  · exact h h1
  · exact h h2
theorem up3_self {K : Nat → Nat → Nat → Int32} {a i j : Nat} {v : Int32} : up3 K a i j v a i = upd (K a i) j v := by funext y; simp [up3, upd]
abbrev rM2 : Type := Nat → Nat → Int32
abbrev rM3 : Type := Nat → Nat → Nat → Int32
abbrev aI (X : gX) (n : Nat) (f : Nat → Int32) : va_E := .inl (X.2 0, n, .inl f)
abbrev aQ (c : ClassId) (n : Nat) (f : Nat → Option Nat) : va_E := .inl (c, n, .inr (.inr (.inr (.inr f))))

def oR (lo : gL) (M T : rM2) : List Value := [.ref (lo 1001), .int (M 20 1), .int (M 20 2), .int (M 20 3), .int (M 20 4), .ref (lo 1002), .ref (lo 1003), .ref (lo 1004), .ref (lo 1005), .ref (lo 1006), .ref (lo 1007), .int (M 20 11), .ref (lo 1008), .ref (lo 1009), .ref (lo 1010), .ref (lo 1011), .ref (lo 1012), .ref (lo 1013), .ref (lo 1014), .int (T 3 19), .int (T 3 20), .int (T 3 21), .int (T 3 22), .int (T 3 23), .int (T 3 24), .ref (lo 1015), .ref (lo 1016), .ref (lo 1017)]
def enR (X : gX) (lo : gL) (M T : rM2) (e0 : gE) : gE := fun k =>
  if k < 1000 then e0 k else match k with
  | 1000 => some (.inr (5, oR lo M T))
  | 1001 => some (aI X 10 (M 0))
  | 1002 => some (aI X 10 (M 1))
  | 1003 => some (aI X 100 (M 2))
  | 1004 => some (aI X 10 (M 3))
  | 1005 => some (aI X 10 (M 4))
  | 1006 => some (aI X 60 (M 5))
  | 1007 => some (aI X 60 (M 6))
  | 1008 => some (aI X 30 (M 7))
  | 1009 => some (aI X 300 (M 8))
  | 1010 => some (aI X 30 (M 9))
  | 1011 => some (aI X 30 (M 10))
  | 1012 => some (aI X 30 (M 11))
  | 1013 => some (aI X 30 (M 12))
  | 1014 => some (aI X 30 (M 13))
  | 1015 => some (aI X 30 (T 0))
  | 1016 => some (aI X 30 (T 1))
  | 1017 => some (aI X 30 (T 2))
  | _ => e0 k
theorem rO {X : gX} {lo : gL} {M T : rM2} {e0 : gE} : enR X lo M T e0 1000 = some (.inr (5, oR lo M T)) := rfl
theorem rA1001 {X : gX} {lo : gL} {M T : rM2} {e0 : gE} : enR X lo M T e0 1001 = some (.inl (X.2 0, 10, .inl (M 0))) := rfl
theorem rA1002 {X : gX} {lo : gL} {M T : rM2} {e0 : gE} : enR X lo M T e0 1002 = some (.inl (X.2 0, 10, .inl (M 1))) := rfl
theorem rA1003 {X : gX} {lo : gL} {M T : rM2} {e0 : gE} : enR X lo M T e0 1003 = some (.inl (X.2 0, 100, .inl (M 2))) := rfl
theorem rA1004 {X : gX} {lo : gL} {M T : rM2} {e0 : gE} : enR X lo M T e0 1004 = some (.inl (X.2 0, 10, .inl (M 3))) := rfl
theorem rA1005 {X : gX} {lo : gL} {M T : rM2} {e0 : gE} : enR X lo M T e0 1005 = some (.inl (X.2 0, 10, .inl (M 4))) := rfl
theorem rA1006 {X : gX} {lo : gL} {M T : rM2} {e0 : gE} : enR X lo M T e0 1006 = some (.inl (X.2 0, 60, .inl (M 5))) := rfl
theorem rA1007 {X : gX} {lo : gL} {M T : rM2} {e0 : gE} : enR X lo M T e0 1007 = some (.inl (X.2 0, 60, .inl (M 6))) := rfl
theorem rA1008 {X : gX} {lo : gL} {M T : rM2} {e0 : gE} : enR X lo M T e0 1008 = some (.inl (X.2 0, 30, .inl (M 7))) := rfl
theorem rA1009 {X : gX} {lo : gL} {M T : rM2} {e0 : gE} : enR X lo M T e0 1009 = some (.inl (X.2 0, 300, .inl (M 8))) := rfl
theorem rA1010 {X : gX} {lo : gL} {M T : rM2} {e0 : gE} : enR X lo M T e0 1010 = some (.inl (X.2 0, 30, .inl (M 9))) := rfl
theorem rA1011 {X : gX} {lo : gL} {M T : rM2} {e0 : gE} : enR X lo M T e0 1011 = some (.inl (X.2 0, 30, .inl (M 10))) := rfl
theorem rA1012 {X : gX} {lo : gL} {M T : rM2} {e0 : gE} : enR X lo M T e0 1012 = some (.inl (X.2 0, 30, .inl (M 11))) := rfl
theorem rA1013 {X : gX} {lo : gL} {M T : rM2} {e0 : gE} : enR X lo M T e0 1013 = some (.inl (X.2 0, 30, .inl (M 12))) := rfl
theorem rA1014 {X : gX} {lo : gL} {M T : rM2} {e0 : gE} : enR X lo M T e0 1014 = some (.inl (X.2 0, 30, .inl (M 13))) := rfl
theorem rA1015 {X : gX} {lo : gL} {M T : rM2} {e0 : gE} : enR X lo M T e0 1015 = some (.inl (X.2 0, 30, .inl (T 0))) := rfl
theorem rA1016 {X : gX} {lo : gL} {M T : rM2} {e0 : gE} : enR X lo M T e0 1016 = some (.inl (X.2 0, 30, .inl (T 1))) := rfl
theorem rA1017 {X : gX} {lo : gL} {M T : rM2} {e0 : gE} : enR X lo M T e0 1017 = some (.inl (X.2 0, 30, .inl (T 2))) := rfl
theorem rLow {X : gX} {lo : gL} {M T : rM2} {e0 : gE} {k : Nat} (h : k < 1000) : enR X lo M T e0 k = e0 k := by simp [enR, h]
theorem enR_ext {X : gX} {lo : gL} {M T M1 T1 : rM2} {e0 : gE} {k0 : Nat} {e : va_E} (h : enR X lo M1 T1 e0 k0 = some e) (h1 : 1000 ≤ k0) (hO : k0 ≠ 1000 → oR lo M1 T1 = oR lo M T) (hA : ∀ a, a < 14 → 1001 + a ≠ k0 → M1 a = M a) (hB : ∀ a, a < 3 → 1015 + a ≠ k0 → T1 a = T a) : eup (enR X lo M T e0) k0 e = enR X lo M1 T1 e0 := by
  funext k
  by_cases hk : k = k0
  · subst hk; rw [eup_eq, h]
  · rw [eup_ne hk]
    by_cases h2 : k < 1000
    · rw [rLow h2, rLow h2]
    · by_cases h3 : 1018 ≤ k
      · unfold enR
        rw [if_neg h2, if_neg h2]
        split <;> first | omega | rfl
      · have h4 : k = 1000 ∨ ∃ a, a < 17 ∧ k = 1001 + a := by
          rcases Nat.lt_or_ge 1000 k with h | h
          · exact Or.inr ⟨k - 1001, by omega, by omega⟩
          · exact Or.inl (by omega)
        rcases h4 with rfl | ⟨a, ha, rfl⟩
        · rw [rO, rO, hO (fun z => hk z.symm)]
        · rcases (show a = 0 ∨ a = 1 ∨ a = 2 ∨ a = 3 ∨ a = 4 ∨ a = 5 ∨ a = 6 ∨ a = 7 ∨ a = 8 ∨ a = 9 ∨ a = 10 ∨ a = 11 ∨ a = 12 ∨ a = 13 ∨ a = 14 ∨ a = 15 ∨ a = 16 by omega) with rfl | rfl | rfl | rfl | rfl | rfl | rfl | rfl | rfl | rfl | rfl | rfl | rfl | rfl | rfl | rfl | rfl
          · show some (aI X _ _) = some (aI X _ _); rw [hA 0 (by decide) hk]
          · show some (aI X _ _) = some (aI X _ _); rw [hA 1 (by decide) hk]
          · show some (aI X _ _) = some (aI X _ _); rw [hA 2 (by decide) hk]
          · show some (aI X _ _) = some (aI X _ _); rw [hA 3 (by decide) hk]
          · show some (aI X _ _) = some (aI X _ _); rw [hA 4 (by decide) hk]
          · show some (aI X _ _) = some (aI X _ _); rw [hA 5 (by decide) hk]
          · show some (aI X _ _) = some (aI X _ _); rw [hA 6 (by decide) hk]
          · show some (aI X _ _) = some (aI X _ _); rw [hA 7 (by decide) hk]
          · show some (aI X _ _) = some (aI X _ _); rw [hA 8 (by decide) hk]
          · show some (aI X _ _) = some (aI X _ _); rw [hA 9 (by decide) hk]
          · show some (aI X _ _) = some (aI X _ _); rw [hA 10 (by decide) hk]
          · show some (aI X _ _) = some (aI X _ _); rw [hA 11 (by decide) hk]
          · show some (aI X _ _) = some (aI X _ _); rw [hA 12 (by decide) hk]
          · show some (aI X _ _) = some (aI X _ _); rw [hA 13 (by decide) hk]
          · show some (aI X _ _) = some (aI X _ _); rw [hB 0 (by decide) hk]
          · show some (aI X _ _) = some (aI X _ _); rw [hB 1 (by decide) hk]
          · show some (aI X _ _) = some (aI X _ _); rw [hB 2 (by decide) hk]
theorem rP1 {en1 : gE} {v : Int32} {X : gX} {lo : gL} {M T : rM2} {e0 : gE} (h : en1 = eup (enR X lo M T e0) 1000 (.inr (5, (oR lo M T).set 1 (.int v)))) : ∃ M1 : rM2, M1 = up2 M 20 1 v ∧ en1 = enR X lo M1 T e0 :=
  ⟨_, rfl, h.trans (enR_ext (by rw [rO]; simp [oR, up2]) (by decide) (fun z => absurd rfl z) (fun a ha _ => up2_row (by omega)) (fun a _ _ => rfl))⟩
theorem rP2 {en1 : gE} {v : Int32} {X : gX} {lo : gL} {M T : rM2} {e0 : gE} (h : en1 = eup (enR X lo M T e0) 1000 (.inr (5, (oR lo M T).set 2 (.int v)))) : ∃ M1 : rM2, M1 = up2 M 20 2 v ∧ en1 = enR X lo M1 T e0 :=
  ⟨_, rfl, h.trans (enR_ext (by rw [rO]; simp [oR, up2]) (by decide) (fun z => absurd rfl z) (fun a ha _ => up2_row (by omega)) (fun a _ _ => rfl))⟩
theorem rP3 {en1 : gE} {v : Int32} {X : gX} {lo : gL} {M T : rM2} {e0 : gE} (h : en1 = eup (enR X lo M T e0) 1000 (.inr (5, (oR lo M T).set 3 (.int v)))) : ∃ M1 : rM2, M1 = up2 M 20 3 v ∧ en1 = enR X lo M1 T e0 :=
  ⟨_, rfl, h.trans (enR_ext (by rw [rO]; simp [oR, up2]) (by decide) (fun z => absurd rfl z) (fun a ha _ => up2_row (by omega)) (fun a _ _ => rfl))⟩
theorem rP4 {en1 : gE} {v : Int32} {X : gX} {lo : gL} {M T : rM2} {e0 : gE} (h : en1 = eup (enR X lo M T e0) 1000 (.inr (5, (oR lo M T).set 4 (.int v)))) : ∃ M1 : rM2, M1 = up2 M 20 4 v ∧ en1 = enR X lo M1 T e0 :=
  ⟨_, rfl, h.trans (enR_ext (by rw [rO]; simp [oR, up2]) (by decide) (fun z => absurd rfl z) (fun a ha _ => up2_row (by omega)) (fun a _ _ => rfl))⟩
theorem rP11 {en1 : gE} {v : Int32} {X : gX} {lo : gL} {M T : rM2} {e0 : gE} (h : en1 = eup (enR X lo M T e0) 1000 (.inr (5, (oR lo M T).set 11 (.int v)))) : ∃ M1 : rM2, M1 = up2 M 20 11 v ∧ en1 = enR X lo M1 T e0 :=
  ⟨_, rfl, h.trans (enR_ext (by rw [rO]; simp [oR, up2]) (by decide) (fun z => absurd rfl z) (fun a ha _ => up2_row (by omega)) (fun a _ _ => rfl))⟩
theorem rP19 {en1 : gE} {v : Int32} {X : gX} {lo : gL} {M T : rM2} {e0 : gE} (h : en1 = eup (enR X lo M T e0) 1000 (.inr (5, (oR lo M T).set 19 (.int v)))) : ∃ T1 : rM2, T1 = up2 T 3 19 v ∧ en1 = enR X lo M T1 e0 :=
  ⟨_, rfl, h.trans (enR_ext (by rw [rO]; simp [oR, up2]) (by decide) (fun z => absurd rfl z) (fun a _ _ => rfl) (fun a ha _ => up2_row (by omega)))⟩
theorem rP20 {en1 : gE} {v : Int32} {X : gX} {lo : gL} {M T : rM2} {e0 : gE} (h : en1 = eup (enR X lo M T e0) 1000 (.inr (5, (oR lo M T).set 20 (.int v)))) : ∃ T1 : rM2, T1 = up2 T 3 20 v ∧ en1 = enR X lo M T1 e0 :=
  ⟨_, rfl, h.trans (enR_ext (by rw [rO]; simp [oR, up2]) (by decide) (fun z => absurd rfl z) (fun a _ _ => rfl) (fun a ha _ => up2_row (by omega)))⟩
theorem rP21 {en1 : gE} {v : Int32} {X : gX} {lo : gL} {M T : rM2} {e0 : gE} (h : en1 = eup (enR X lo M T e0) 1000 (.inr (5, (oR lo M T).set 21 (.int v)))) : ∃ T1 : rM2, T1 = up2 T 3 21 v ∧ en1 = enR X lo M T1 e0 :=
  ⟨_, rfl, h.trans (enR_ext (by rw [rO]; simp [oR, up2]) (by decide) (fun z => absurd rfl z) (fun a _ _ => rfl) (fun a ha _ => up2_row (by omega)))⟩
theorem rP22 {en1 : gE} {v : Int32} {X : gX} {lo : gL} {M T : rM2} {e0 : gE} (h : en1 = eup (enR X lo M T e0) 1000 (.inr (5, (oR lo M T).set 22 (.int v)))) : ∃ T1 : rM2, T1 = up2 T 3 22 v ∧ en1 = enR X lo M T1 e0 :=
  ⟨_, rfl, h.trans (enR_ext (by rw [rO]; simp [oR, up2]) (by decide) (fun z => absurd rfl z) (fun a _ _ => rfl) (fun a ha _ => up2_row (by omega)))⟩
theorem rP23 {en1 : gE} {v : Int32} {X : gX} {lo : gL} {M T : rM2} {e0 : gE} (h : en1 = eup (enR X lo M T e0) 1000 (.inr (5, (oR lo M T).set 23 (.int v)))) : ∃ T1 : rM2, T1 = up2 T 3 23 v ∧ en1 = enR X lo M T1 e0 :=
  ⟨_, rfl, h.trans (enR_ext (by rw [rO]; simp [oR, up2]) (by decide) (fun z => absurd rfl z) (fun a _ _ => rfl) (fun a ha _ => up2_row (by omega)))⟩
theorem rP24 {en1 : gE} {v : Int32} {X : gX} {lo : gL} {M T : rM2} {e0 : gE} (h : en1 = eup (enR X lo M T e0) 1000 (.inr (5, (oR lo M T).set 24 (.int v)))) : ∃ T1 : rM2, T1 = up2 T 3 24 v ∧ en1 = enR X lo M T1 e0 :=
  ⟨_, rfl, h.trans (enR_ext (by rw [rO]; simp [oR, up2]) (by decide) (fun z => absurd rfl z) (fun a _ _ => rfl) (fun a ha _ => up2_row (by omega)))⟩
theorem rQ1001 {en1 : gE} {i : Nat} {v : Int32} {X : gX} {lo : gL} {M T : rM2} {e0 : gE} (h : en1 = eup (enR X lo M T e0) 1001 (.inl (X.2 0, 10, .inl (upd (M 0) i v)))) : ∃ M1 : rM2, M1 = up2 M 0 i v ∧ en1 = enR X lo M1 T e0 :=
  ⟨_, rfl, h.trans (enR_ext (by rw [rA1001, up2_self]) (by decide) (fun _ => by simp [oR, up2]) (fun a _ hn => up2_row (by omega)) (fun a _ _ => rfl))⟩
theorem rQ1002 {en1 : gE} {i : Nat} {v : Int32} {X : gX} {lo : gL} {M T : rM2} {e0 : gE} (h : en1 = eup (enR X lo M T e0) 1002 (.inl (X.2 0, 10, .inl (upd (M 1) i v)))) : ∃ M1 : rM2, M1 = up2 M 1 i v ∧ en1 = enR X lo M1 T e0 :=
  ⟨_, rfl, h.trans (enR_ext (by rw [rA1002, up2_self]) (by decide) (fun _ => by simp [oR, up2]) (fun a _ hn => up2_row (by omega)) (fun a _ _ => rfl))⟩
theorem rQ1003 {en1 : gE} {i : Nat} {v : Int32} {X : gX} {lo : gL} {M T : rM2} {e0 : gE} (h : en1 = eup (enR X lo M T e0) 1003 (.inl (X.2 0, 100, .inl (upd (M 2) i v)))) : ∃ M1 : rM2, M1 = up2 M 2 i v ∧ en1 = enR X lo M1 T e0 :=
  ⟨_, rfl, h.trans (enR_ext (by rw [rA1003, up2_self]) (by decide) (fun _ => by simp [oR, up2]) (fun a _ hn => up2_row (by omega)) (fun a _ _ => rfl))⟩
theorem rQ1004 {en1 : gE} {i : Nat} {v : Int32} {X : gX} {lo : gL} {M T : rM2} {e0 : gE} (h : en1 = eup (enR X lo M T e0) 1004 (.inl (X.2 0, 10, .inl (upd (M 3) i v)))) : ∃ M1 : rM2, M1 = up2 M 3 i v ∧ en1 = enR X lo M1 T e0 :=
  ⟨_, rfl, h.trans (enR_ext (by rw [rA1004, up2_self]) (by decide) (fun _ => by simp [oR, up2]) (fun a _ hn => up2_row (by omega)) (fun a _ _ => rfl))⟩
theorem rQ1005 {en1 : gE} {i : Nat} {v : Int32} {X : gX} {lo : gL} {M T : rM2} {e0 : gE} (h : en1 = eup (enR X lo M T e0) 1005 (.inl (X.2 0, 10, .inl (upd (M 4) i v)))) : ∃ M1 : rM2, M1 = up2 M 4 i v ∧ en1 = enR X lo M1 T e0 :=
  ⟨_, rfl, h.trans (enR_ext (by rw [rA1005, up2_self]) (by decide) (fun _ => by simp [oR, up2]) (fun a _ hn => up2_row (by omega)) (fun a _ _ => rfl))⟩
theorem rQ1006 {en1 : gE} {i : Nat} {v : Int32} {X : gX} {lo : gL} {M T : rM2} {e0 : gE} (h : en1 = eup (enR X lo M T e0) 1006 (.inl (X.2 0, 60, .inl (upd (M 5) i v)))) : ∃ M1 : rM2, M1 = up2 M 5 i v ∧ en1 = enR X lo M1 T e0 :=
  ⟨_, rfl, h.trans (enR_ext (by rw [rA1006, up2_self]) (by decide) (fun _ => by simp [oR, up2]) (fun a _ hn => up2_row (by omega)) (fun a _ _ => rfl))⟩
theorem rQ1007 {en1 : gE} {i : Nat} {v : Int32} {X : gX} {lo : gL} {M T : rM2} {e0 : gE} (h : en1 = eup (enR X lo M T e0) 1007 (.inl (X.2 0, 60, .inl (upd (M 6) i v)))) : ∃ M1 : rM2, M1 = up2 M 6 i v ∧ en1 = enR X lo M1 T e0 :=
  ⟨_, rfl, h.trans (enR_ext (by rw [rA1007, up2_self]) (by decide) (fun _ => by simp [oR, up2]) (fun a _ hn => up2_row (by omega)) (fun a _ _ => rfl))⟩
theorem rQ1008 {en1 : gE} {i : Nat} {v : Int32} {X : gX} {lo : gL} {M T : rM2} {e0 : gE} (h : en1 = eup (enR X lo M T e0) 1008 (.inl (X.2 0, 30, .inl (upd (M 7) i v)))) : ∃ M1 : rM2, M1 = up2 M 7 i v ∧ en1 = enR X lo M1 T e0 :=
  ⟨_, rfl, h.trans (enR_ext (by rw [rA1008, up2_self]) (by decide) (fun _ => by simp [oR, up2]) (fun a _ hn => up2_row (by omega)) (fun a _ _ => rfl))⟩
theorem rQ1009 {en1 : gE} {i : Nat} {v : Int32} {X : gX} {lo : gL} {M T : rM2} {e0 : gE} (h : en1 = eup (enR X lo M T e0) 1009 (.inl (X.2 0, 300, .inl (upd (M 8) i v)))) : ∃ M1 : rM2, M1 = up2 M 8 i v ∧ en1 = enR X lo M1 T e0 :=
  ⟨_, rfl, h.trans (enR_ext (by rw [rA1009, up2_self]) (by decide) (fun _ => by simp [oR, up2]) (fun a _ hn => up2_row (by omega)) (fun a _ _ => rfl))⟩
theorem rQ1010 {en1 : gE} {i : Nat} {v : Int32} {X : gX} {lo : gL} {M T : rM2} {e0 : gE} (h : en1 = eup (enR X lo M T e0) 1010 (.inl (X.2 0, 30, .inl (upd (M 9) i v)))) : ∃ M1 : rM2, M1 = up2 M 9 i v ∧ en1 = enR X lo M1 T e0 :=
  ⟨_, rfl, h.trans (enR_ext (by rw [rA1010, up2_self]) (by decide) (fun _ => by simp [oR, up2]) (fun a _ hn => up2_row (by omega)) (fun a _ _ => rfl))⟩
theorem rQ1011 {en1 : gE} {i : Nat} {v : Int32} {X : gX} {lo : gL} {M T : rM2} {e0 : gE} (h : en1 = eup (enR X lo M T e0) 1011 (.inl (X.2 0, 30, .inl (upd (M 10) i v)))) : ∃ M1 : rM2, M1 = up2 M 10 i v ∧ en1 = enR X lo M1 T e0 :=
  ⟨_, rfl, h.trans (enR_ext (by rw [rA1011, up2_self]) (by decide) (fun _ => by simp [oR, up2]) (fun a _ hn => up2_row (by omega)) (fun a _ _ => rfl))⟩
theorem rQ1012 {en1 : gE} {i : Nat} {v : Int32} {X : gX} {lo : gL} {M T : rM2} {e0 : gE} (h : en1 = eup (enR X lo M T e0) 1012 (.inl (X.2 0, 30, .inl (upd (M 11) i v)))) : ∃ M1 : rM2, M1 = up2 M 11 i v ∧ en1 = enR X lo M1 T e0 :=
  ⟨_, rfl, h.trans (enR_ext (by rw [rA1012, up2_self]) (by decide) (fun _ => by simp [oR, up2]) (fun a _ hn => up2_row (by omega)) (fun a _ _ => rfl))⟩
theorem rQ1013 {en1 : gE} {i : Nat} {v : Int32} {X : gX} {lo : gL} {M T : rM2} {e0 : gE} (h : en1 = eup (enR X lo M T e0) 1013 (.inl (X.2 0, 30, .inl (upd (M 12) i v)))) : ∃ M1 : rM2, M1 = up2 M 12 i v ∧ en1 = enR X lo M1 T e0 :=
  ⟨_, rfl, h.trans (enR_ext (by rw [rA1013, up2_self]) (by decide) (fun _ => by simp [oR, up2]) (fun a _ hn => up2_row (by omega)) (fun a _ _ => rfl))⟩
theorem rQ1014 {en1 : gE} {i : Nat} {v : Int32} {X : gX} {lo : gL} {M T : rM2} {e0 : gE} (h : en1 = eup (enR X lo M T e0) 1014 (.inl (X.2 0, 30, .inl (upd (M 13) i v)))) : ∃ M1 : rM2, M1 = up2 M 13 i v ∧ en1 = enR X lo M1 T e0 :=
  ⟨_, rfl, h.trans (enR_ext (by rw [rA1014, up2_self]) (by decide) (fun _ => by simp [oR, up2]) (fun a _ hn => up2_row (by omega)) (fun a _ _ => rfl))⟩
theorem rQ1015 {en1 : gE} {i : Nat} {v : Int32} {X : gX} {lo : gL} {M T : rM2} {e0 : gE} (h : en1 = eup (enR X lo M T e0) 1015 (.inl (X.2 0, 30, .inl (upd (T 0) i v)))) : ∃ T1 : rM2, T1 = up2 T 0 i v ∧ en1 = enR X lo M T1 e0 :=
  ⟨_, rfl, h.trans (enR_ext (by rw [rA1015, up2_self]) (by decide) (fun _ => by simp [oR, up2]) (fun a _ _ => rfl) (fun a _ hn => up2_row (by omega)))⟩
theorem rQ1016 {en1 : gE} {i : Nat} {v : Int32} {X : gX} {lo : gL} {M T : rM2} {e0 : gE} (h : en1 = eup (enR X lo M T e0) 1016 (.inl (X.2 0, 30, .inl (upd (T 1) i v)))) : ∃ T1 : rM2, T1 = up2 T 1 i v ∧ en1 = enR X lo M T1 e0 :=
  ⟨_, rfl, h.trans (enR_ext (by rw [rA1016, up2_self]) (by decide) (fun _ => by simp [oR, up2]) (fun a _ _ => rfl) (fun a _ hn => up2_row (by omega)))⟩
theorem rQ1017 {en1 : gE} {i : Nat} {v : Int32} {X : gX} {lo : gL} {M T : rM2} {e0 : gE} (h : en1 = eup (enR X lo M T e0) 1017 (.inl (X.2 0, 30, .inl (upd (T 2) i v)))) : ∃ T1 : rM2, T1 = up2 T 2 i v ∧ en1 = enR X lo M T1 e0 :=
  ⟨_, rfl, h.trans (enR_ext (by rw [rA1017, up2_self]) (by decide) (fun _ => by simp [oR, up2]) (fun a _ _ => rfl) (fun a _ hn => up2_row (by omega)))⟩
def oC (lo : gL) (L : Nat → Nat → Nat) (K : rM3) : List Value := [.ref (lo 1), .int (K 0 1 0), .int (K 0 2 0), .int (K 0 3 0), .ref (lo 2), .int (nI (L 2 0)), .ref (lo 3), .int (nI (L 2 1)), .ref (lo 4), .ref (lo 6), .ref (lo 7)]
def oV (lo : gL) (C : rM3) : List Value := [.ref (lo 5), .int (C 9 0 1), .int (C 9 0 2), .int (C 9 0 3), .int (C 9 0 4), .int (C 9 0 5)]
def oM (lo : gL) (K : rM3) (i : Nat) : List Value := [.ref (lo (101 + 4 * i)), .int (K 2 i 1), .int (K 2 i 2), .ref (lo (102 + 4 * i)), .ref (lo (103 + 4 * i)), .int (K 2 i 5)]
def oS (lo : gL) (K : rM3) (j : Nat) : List Value := [.ref (lo (201 + 16 * j)), .int (K 6 j 1), .int (K 6 j 2), .int (K 6 j 3), .int (K 6 j 4), .int (K 6 j 5), .ref (lo (202 + 16 * j))]
def oT (C : rM3) (r : Nat) : List Value := [.int (C 8 r 0), .int (C 8 r 1), .int (C 8 r 2), .int (C 8 r 3), .int (C 8 r 4), .int (C 8 r 5), .int (C 8 r 6)]
def qM (lo : gL) (n : Nat) : Nat → Option Nat := fun i => if i < n then some (lo (100 + 4 * i)) else none
def qS (lo : gL) (n : Nat) : Nat → Option Nat := fun j => if j < n then some (lo (200 + 16 * j)) else none
def qT (lo : gL) (j : Nat) : Nat → Option Nat := fun i => if i < 10 then some (lo (203 + (16 * j + i))) else none
def enC0 (X : gX) (lo : gL) (L : Nat → Nat → Nat) (K C : rM3) (k : Nat) : Option va_E := match k with
  | 0 => some (.inr (4, oC lo L K))
  | 1 => some (aI X 10 (K 1 0))
  | 2 => some (aQ (X.2 1) 10 (qM lo (L 2 0)))
  | 3 => some (aQ (X.2 2) 30 (qS lo (L 2 1)))
  | 4 => some (.inr (3, oV lo C))
  | 5 => some (aI X 10 (C 10 0))
  | 6 => some (aI X 30 (C 11 0))
  | 7 => some (aI X 30 (C 12 0))
  | _ => none
def enCm (X : gX) (lo : gL) (L : Nat → Nat → Nat) (K : rM3) (i r : Nat) : Option va_E := match r with
  | 0 => some (.inr (1, oM lo K i))
  | 1 => some (aI X (L 0 i) (K 3 i))
  | 2 => some (aI X 6 (K 4 i))
  | _ => some (aI X 6 (K 5 i))
def enCs (X : gX) (lo : gL) (L : Nat → Nat → Nat) (K C : rM3) (j r : Nat) : Option va_E := match r with
  | 0 => some (.inr (2, oS lo K j))
  | 1 => some (aI X (L 1 j) (K 7 j))
  | 2 => some (aQ (X.2 3) 10 (qT lo j))
  | r + 3 => if r < 10 then some (.inr (0, oT C (16 * j + r))) else none
def enC (X : gX) (lo : gL) (L : Nat → Nat → Nat) (K C : rM3) (e0 : gE) : gE := fun k =>
  if 1000 ≤ k then e0 k else if k < 100 then enC0 X lo L K C k
  else if k < 200 then (if (k - 100) / 4 < L 2 0 then enCm X lo L K ((k - 100) / 4) ((k - 100) % 4) else none)
  else if (k - 200) / 16 < L 2 1 then enCs X lo L K C ((k - 200) / 16) ((k - 200) % 16) else none
theorem cO {X : gX} {lo : gL} {L : Nat → Nat → Nat} {K C : rM3} {e0 : gE} : enC X lo L K C e0 0 = some (.inr (4, oC lo L K)) := rfl
theorem cA1 {X : gX} {lo : gL} {L : Nat → Nat → Nat} {K C : rM3} {e0 : gE} : enC X lo L K C e0 1 = some (.inl (X.2 0, 10, .inl (K 1 0))) := rfl
theorem cA2 {X : gX} {lo : gL} {L : Nat → Nat → Nat} {K C : rM3} {e0 : gE} : enC X lo L K C e0 2 = some (.inl (X.2 1, 10, .inr (.inr (.inr (.inr (qM lo (L 2 0))))))) := rfl
theorem cA3 {X : gX} {lo : gL} {L : Nat → Nat → Nat} {K C : rM3} {e0 : gE} : enC X lo L K C e0 3 = some (.inl (X.2 2, 30, .inr (.inr (.inr (.inr (qS lo (L 2 1))))))) := rfl
theorem cV {X : gX} {lo : gL} {L : Nat → Nat → Nat} {K C : rM3} {e0 : gE} : enC X lo L K C e0 4 = some (.inr (3, oV lo C)) := rfl
theorem cA5 {X : gX} {lo : gL} {L : Nat → Nat → Nat} {K C : rM3} {e0 : gE} : enC X lo L K C e0 5 = some (.inl (X.2 0, 10, .inl (C 10 0))) := rfl
theorem cA6 {X : gX} {lo : gL} {L : Nat → Nat → Nat} {K C : rM3} {e0 : gE} : enC X lo L K C e0 6 = some (.inl (X.2 0, 30, .inl (C 11 0))) := rfl
theorem cA7 {X : gX} {lo : gL} {L : Nat → Nat → Nat} {K C : rM3} {e0 : gE} : enC X lo L K C e0 7 = some (.inl (X.2 0, 30, .inl (C 12 0))) := rfl
theorem enC_m {X : gX} {lo : gL} {L : Nat → Nat → Nat} {K C : rM3} {e0 : gE} {i r : Nat} (hi : i < L 2 0) (h10 : i < 25) (hr : r < 4) : enC X lo L K C e0 (100 + 4 * i + r) = enCm X lo L K i r := by
  unfold enC
  rw [if_neg (by omega), if_neg (by omega), if_pos (by omega)]
  have h1 : (100 + 4 * i + r - 100) / 4 = i := by omega
  have h2 : (100 + 4 * i + r - 100) % 4 = r := by omega
  rw [h1, h2, if_pos hi]
theorem enC_s {X : gX} {lo : gL} {L : Nat → Nat → Nat} {K C : rM3} {e0 : gE} {j r : Nat} (hj : j < L 2 1) (h30 : j < 50) (hr : r < 16) : enC X lo L K C e0 (200 + 16 * j + r) = enCs X lo L K C j r := by
  unfold enC
  rw [if_neg (by omega), if_neg (by omega), if_neg (by omega)]
  have h1 : (200 + 16 * j + r - 200) / 16 = j := by omega
  have h2 : (200 + 16 * j + r - 200) % 16 = r := by omega
  rw [h1, h2, if_pos hj]
theorem cM {X : gX} {lo : gL} {L : Nat → Nat → Nat} {K C : rM3} {e0 : gE} {i : Nat} (hi : i < L 2 0) (h10 : i < 25) : enC X lo L K C e0 (100 + 4 * i) = some (.inr (1, oM lo K i)) := enC_m (r := 0) hi h10 (by decide)
theorem cM1 {X : gX} {lo : gL} {L : Nat → Nat → Nat} {K C : rM3} {e0 : gE} {i : Nat} (hi : i < L 2 0) (h10 : i < 25) : enC X lo L K C e0 (101 + 4 * i) = some (.inl (X.2 0, L 0 i, .inl (K 3 i))) := by have h := enC_m (X := X) (lo := lo) (K := K) (C := C) (e0 := e0) (r := 1) hi h10 (by decide); rwa [show 100 + 4 * i + 1 = 101 + 4 * i by omega] at h
theorem cM2 {X : gX} {lo : gL} {L : Nat → Nat → Nat} {K C : rM3} {e0 : gE} {i : Nat} (hi : i < L 2 0) (h10 : i < 25) : enC X lo L K C e0 (102 + 4 * i) = some (.inl (X.2 0, 6, .inl (K 4 i))) := by have h := enC_m (X := X) (lo := lo) (K := K) (C := C) (e0 := e0) (r := 2) hi h10 (by decide); rwa [show 100 + 4 * i + 2 = 102 + 4 * i by omega] at h
theorem cM3 {X : gX} {lo : gL} {L : Nat → Nat → Nat} {K C : rM3} {e0 : gE} {i : Nat} (hi : i < L 2 0) (h10 : i < 25) : enC X lo L K C e0 (103 + 4 * i) = some (.inl (X.2 0, 6, .inl (K 5 i))) := by have h := enC_m (X := X) (lo := lo) (K := K) (C := C) (e0 := e0) (r := 3) hi h10 (by decide); rwa [show 100 + 4 * i + 3 = 103 + 4 * i by omega] at h
theorem cS {X : gX} {lo : gL} {L : Nat → Nat → Nat} {K C : rM3} {e0 : gE} {j : Nat} (hj : j < L 2 1) (h30 : j < 50) : enC X lo L K C e0 (200 + 16 * j) = some (.inr (2, oS lo K j)) := enC_s (r := 0) hj h30 (by decide)
theorem cS1 {X : gX} {lo : gL} {L : Nat → Nat → Nat} {K C : rM3} {e0 : gE} {j : Nat} (hj : j < L 2 1) (h30 : j < 50) : enC X lo L K C e0 (201 + 16 * j) = some (.inl (X.2 0, L 1 j, .inl (K 7 j))) := by have h := enC_s (X := X) (lo := lo) (K := K) (C := C) (e0 := e0) (r := 1) hj h30 (by decide); rwa [show 200 + 16 * j + 1 = 201 + 16 * j by omega] at h
theorem cS2 {X : gX} {lo : gL} {L : Nat → Nat → Nat} {K C : rM3} {e0 : gE} {j : Nat} (hj : j < L 2 1) (h30 : j < 50) : enC X lo L K C e0 (202 + 16 * j) = some (.inl (X.2 3, 10, .inr (.inr (.inr (.inr (qT lo j)))))) := by have h := enC_s (X := X) (lo := lo) (K := K) (C := C) (e0 := e0) (r := 2) hj h30 (by decide); rwa [show 200 + 16 * j + 2 = 202 + 16 * j by omega] at h
theorem cT {X : gX} {lo : gL} {L : Nat → Nat → Nat} {K C : rM3} {e0 : gE} {j i : Nat} (hj : j < L 2 1) (h30 : j < 50) (hi : i < 10) : enC X lo L K C e0 (203 + (16 * j + i)) = some (.inr (0, oT C (16 * j + i))) := by
  have h := enC_s (X := X) (lo := lo) (K := K) (C := C) (e0 := e0) (r := i + 3) hj h30 (by omega)
  rw [show 200 + 16 * j + (i + 3) = 203 + (16 * j + i) by omega] at h
  rw [h]
  show (if i < 10 then some (Sum.inr (0, oT C (16 * j + i))) else none) = _
  rw [if_pos hi]
theorem cHi {X : gX} {lo : gL} {L : Nat → Nat → Nat} {K C : rM3} {e0 : gE} {k : Nat} (h : 1000 ≤ k) : enC X lo L K C e0 k = e0 k := by simp [enC, h]
/-- which label holds a row of the raw states -/
def ownC (b x : Nat) : Nat := match b with
  | 0 => 0 | 1 => 1 | 2 => 100 + 4 * x | 3 => 101 + 4 * x | 4 => 102 + 4 * x | 5 => 103 + 4 * x | 6 => 200 + 16 * x | 7 => 201 + 16 * x | 8 => 203 + x | 9 => 4 | 10 => 5 | 11 => 6 | 12 => 7 | _ => 999
theorem enC0_same {X : gX} {lo : gL} {L : Nat → Nat → Nat} {K C K1 C1 : rM3} {k : Nat} (hK : ∀ b x, ownC b x = k → K1 b x = K b x) (hCc : ∀ b x, ownC b x = k → C1 b x = C b x) : enC0 X lo L K1 C1 k = enC0 X lo L K C k := by
  rcases (show k = 0 ∨ k = 1 ∨ k = 2 ∨ k = 3 ∨ k = 4 ∨ k = 5 ∨ k = 6 ∨ k = 7 ∨ 8 ≤ k by omega) with rfl | rfl | rfl | rfl | rfl | rfl | rfl | rfl | h8
  · show some (Sum.inr (4, oC lo L K1)) = some (Sum.inr (4, oC lo L K))
    unfold oC; rw [hK 0 1 rfl, hK 0 2 rfl, hK 0 3 rfl]
  · show some (aI X 10 (K1 1 0)) = some (aI X 10 (K 1 0)); rw [hK 1 0 rfl]
  · rfl
  · rfl
  · show some (Sum.inr (3, oV lo C1)) = some (Sum.inr (3, oV lo C)); unfold oV; rw [hCc 9 0 rfl]
  · show some (aI X 10 (C1 10 0)) = some (aI X 10 (C 10 0)); rw [hCc 10 0 rfl]
  · show some (aI X 30 (C1 11 0)) = some (aI X 30 (C 11 0)); rw [hCc 11 0 rfl]
  · show some (aI X 30 (C1 12 0)) = some (aI X 30 (C 12 0)); rw [hCc 12 0 rfl]
  · obtain ⟨n, rfl⟩ : ∃ n, k = n + 8 := ⟨k - 8, by omega⟩
    rfl
theorem enCm_same {X : gX} {lo : gL} {L : Nat → Nat → Nat} {K K1 : rM3} {i r : Nat} (hr : r < 4) (hK : ∀ b x, ownC b x = 100 + 4 * i + r → K1 b x = K b x) : enCm X lo L K1 i r = enCm X lo L K i r := by
  rcases (show r = 0 ∨ r = 1 ∨ r = 2 ∨ r = 3 by omega) with rfl | rfl | rfl | rfl
  · have h : K1 2 i = K 2 i := hK 2 i rfl
    show some (Sum.inr (1, oM lo K1 i)) = some (Sum.inr (1, oM lo K i)); unfold oM; rw [h]
  · have h : K1 3 i = K 3 i := hK 3 i (by show 101 + 4 * i = 100 + 4 * i + 1; omega)
    show some (aI X (L 0 i) (K1 3 i)) = some (aI X (L 0 i) (K 3 i)); rw [h]
  · have h : K1 4 i = K 4 i := hK 4 i (by show 102 + 4 * i = 100 + 4 * i + 2; omega)
    show some (aI X 6 (K1 4 i)) = some (aI X 6 (K 4 i)); rw [h]
  · have h : K1 5 i = K 5 i := hK 5 i (by show 103 + 4 * i = 100 + 4 * i + 3; omega)
    show some (aI X 6 (K1 5 i)) = some (aI X 6 (K 5 i)); rw [h]
theorem enCs_same {X : gX} {lo : gL} {L : Nat → Nat → Nat} {K C K1 C1 : rM3} {j r : Nat} (hK : ∀ b x, ownC b x = 200 + 16 * j + r → K1 b x = K b x) (hCc : ∀ b x, ownC b x = 200 + 16 * j + r → C1 b x = C b x) : enCs X lo L K1 C1 j r = enCs X lo L K C j r := by
  rcases (show r = 0 ∨ r = 1 ∨ r = 2 ∨ 3 ≤ r by omega) with rfl | rfl | rfl | h3
  · have h : K1 6 j = K 6 j := hK 6 j rfl
    show some (Sum.inr (2, oS lo K1 j)) = some (Sum.inr (2, oS lo K j)); unfold oS; rw [h]
  · have h : K1 7 j = K 7 j := hK 7 j (by show 201 + 16 * j = 200 + 16 * j + 1; omega)
    show some (aI X (L 1 j) (K1 7 j)) = some (aI X (L 1 j) (K 7 j)); rw [h]
  · rfl
  · obtain ⟨n, rfl⟩ : ∃ n, r = n + 3 := ⟨r - 3, by omega⟩
    have h : C1 8 (16 * j + n) = C 8 (16 * j + n) := hCc 8 (16 * j + n) (by show 203 + (16 * j + n) = 200 + 16 * j + (n + 3); omega)
    show (if n < 10 then some (Sum.inr (0, oT C1 (16 * j + n))) else none) = (if n < 10 then some (Sum.inr (0, oT C (16 * j + n))) else none)
    unfold oT; rw [h]
theorem enC_same {X : gX} {lo : gL} {L : Nat → Nat → Nat} {K C K1 C1 : rM3} {e0 : gE} {k : Nat} (hK : ∀ b x, ownC b x = k → K1 b x = K b x) (hCc : ∀ b x, ownC b x = k → C1 b x = C b x) : enC X lo L K1 C1 e0 k = enC X lo L K C e0 k := by
  unfold enC
  by_cases h1 : 1000 ≤ k
  · rw [if_pos h1, if_pos h1]
  rw [if_neg h1, if_neg h1]
  by_cases h2 : k < 100
  · rw [if_pos h2, if_pos h2]
    exact enC0_same hK hCc
  rw [if_neg h2, if_neg h2]
  by_cases h3 : k < 200
  · rw [if_pos h3, if_pos h3, enCm_same (Nat.mod_lt _ (by decide)) (fun b x hb => hK b x (by rw [hb]; omega))]
  · rw [if_neg h3, if_neg h3, enCs_same (fun b x hb => hK b x (by rw [hb]; omega)) (fun b x hb => hCc b x (by rw [hb]; omega))]
/-- a write into what lasts -/
theorem cWK {X : gX} {lo : gL} {L : Nat → Nat → Nat} {K C : rM3} {e0 : gE} {a i j : Nat} {v : Int32} {e : va_E} {en1 : gE} {k : Nat} (hk : ownC a i = k) (he : enC X lo L (up3 K a i j v) C e0 k = some e) (h : en1 = eup (enC X lo L K C e0) k e) : ∃ K1 : rM3, K1 = up3 K a i j v ∧ en1 = enC X lo L K1 C e0 := by
  refine ⟨_, rfl, h.trans ?_⟩
  funext q
  by_cases hq : q = k
  · rw [hq, eup_eq, he]
  · rw [eup_ne hq]
    refine (enC_same (fun b x hb => up3_row ?_) (fun _ _ _ => rfl)).symm
    by_cases h1 : b = a
    · subst h1
      exact Or.inr (fun z => hq (by rw [← hb, z, hk]))
    · exact Or.inl h1
/-- a write into the rows for questions -/
theorem cWC {X : gX} {lo : gL} {L : Nat → Nat → Nat} {K C : rM3} {e0 : gE} {a i j : Nat} {v : Int32} {e : va_E} {en1 : gE} {k : Nat} (hk : ownC a i = k) (he : enC X lo L K (up3 C a i j v) e0 k = some e) (h : en1 = eup (enC X lo L K C e0) k e) : ∃ C1 : rM3, C1 = up3 C a i j v ∧ en1 = enC X lo L K C1 e0 := by
  refine ⟨_, rfl, h.trans ?_⟩
  funext q
  by_cases hq : q = k
  · rw [hq, eup_eq, he]
  · rw [eup_ne hq]
    refine (enC_same (fun _ _ _ => rfl) (fun b x hb => up3_row ?_)).symm
    by_cases h1 : b = a
    · subst h1
      exact Or.inr (fun z => hq (by rw [← hb, z, hk]))
    · exact Or.inl h1
theorem cP0_1 {X : gX} {lo : gL} {L : Nat → Nat → Nat} {K C : rM3} {e0 : gE} {en1 : gE} {v : Int32} (h : en1 = eup (enC X lo L K C e0) 0 (.inr (4, (oC lo L K).set 1 (.int v)))) : ∃ K1 : rM3, K1 = up3 K 0 1 0 v ∧ en1 = enC X lo L K1 C e0 := cWK (k := 0) (a := 0) (i := 1) (j := 0) rfl (by rw [cO]; simp [oC, up3]) h
theorem cP0_2 {X : gX} {lo : gL} {L : Nat → Nat → Nat} {K C : rM3} {e0 : gE} {en1 : gE} {v : Int32} (h : en1 = eup (enC X lo L K C e0) 0 (.inr (4, (oC lo L K).set 2 (.int v)))) : ∃ K1 : rM3, K1 = up3 K 0 2 0 v ∧ en1 = enC X lo L K1 C e0 := cWK (k := 0) (a := 0) (i := 2) (j := 0) rfl (by rw [cO]; simp [oC, up3]) h
theorem cP0_3 {X : gX} {lo : gL} {L : Nat → Nat → Nat} {K C : rM3} {e0 : gE} {en1 : gE} {v : Int32} (h : en1 = eup (enC X lo L K C e0) 0 (.inr (4, (oC lo L K).set 3 (.int v)))) : ∃ K1 : rM3, K1 = up3 K 0 3 0 v ∧ en1 = enC X lo L K1 C e0 := cWK (k := 0) (a := 0) (i := 3) (j := 0) rfl (by rw [cO]; simp [oC, up3]) h
theorem cQ1 {X : gX} {lo : gL} {L : Nat → Nat → Nat} {K C : rM3} {e0 : gE} {en1 : gE} {j : Nat} {v : Int32} (h : en1 = eup (enC X lo L K C e0) 1 (.inl (X.2 0, 10, .inl (upd (K 1 0) j v)))) : ∃ K1 : rM3, K1 = up3 K 1 0 j v ∧ en1 = enC X lo L K1 C e0 := cWK (k := 1) (a := 1) (i := 0) (j := j) rfl (by rw [cA1, up3_self]) h
theorem cPM5 {X : gX} {lo : gL} {L : Nat → Nat → Nat} {K C : rM3} {e0 : gE} {en1 : gE} {i : Nat} {v : Int32} (hi : i < L 2 0) (h10 : i < 25) (h : en1 = eup (enC X lo L K C e0) (100 + 4 * i) (.inr (1, (oM lo K i).set 5 (.int v)))) : ∃ K1 : rM3, K1 = up3 K 2 i 5 v ∧ en1 = enC X lo L K1 C e0 := cWK (k := 100 + 4 * i) (a := 2) (i := i) (j := 5) rfl (by rw [cM hi h10]; simp [oM, up3]) h
theorem cQM2 {X : gX} {lo : gL} {L : Nat → Nat → Nat} {K C : rM3} {e0 : gE} {en1 : gE} {i j : Nat} {v : Int32} (hi : i < L 2 0) (h10 : i < 25) (h : en1 = eup (enC X lo L K C e0) (102 + 4 * i) (.inl (X.2 0, 6, .inl (upd (K 4 i) j v)))) : ∃ K1 : rM3, K1 = up3 K 4 i j v ∧ en1 = enC X lo L K1 C e0 := cWK (k := 102 + 4 * i) (a := 4) (i := i) (j := j) rfl (by rw [cM2 hi h10, up3_self]) h
theorem cQM3 {X : gX} {lo : gL} {L : Nat → Nat → Nat} {K C : rM3} {e0 : gE} {en1 : gE} {i j : Nat} {v : Int32} (hi : i < L 2 0) (h10 : i < 25) (h : en1 = eup (enC X lo L K C e0) (103 + 4 * i) (.inl (X.2 0, 6, .inl (upd (K 5 i) j v)))) : ∃ K1 : rM3, K1 = up3 K 5 i j v ∧ en1 = enC X lo L K1 C e0 := cWK (k := 103 + 4 * i) (a := 5) (i := i) (j := j) rfl (by rw [cM3 hi h10, up3_self]) h
theorem cPS4 {X : gX} {lo : gL} {L : Nat → Nat → Nat} {K C : rM3} {e0 : gE} {en1 : gE} {j : Nat} {v : Int32} (hj : j < L 2 1) (h30 : j < 50) (h : en1 = eup (enC X lo L K C e0) (200 + 16 * j) (.inr (2, (oS lo K j).set 4 (.int v)))) : ∃ K1 : rM3, K1 = up3 K 6 j 4 v ∧ en1 = enC X lo L K1 C e0 := cWK (k := 200 + 16 * j) (a := 6) (i := j) (j := 4) rfl (by rw [cS hj h30]; simp [oS, up3]) h
theorem cPS5 {X : gX} {lo : gL} {L : Nat → Nat → Nat} {K C : rM3} {e0 : gE} {en1 : gE} {j : Nat} {v : Int32} (hj : j < L 2 1) (h30 : j < 50) (h : en1 = eup (enC X lo L K C e0) (200 + 16 * j) (.inr (2, (oS lo K j).set 5 (.int v)))) : ∃ K1 : rM3, K1 = up3 K 6 j 5 v ∧ en1 = enC X lo L K1 C e0 := cWK (k := 200 + 16 * j) (a := 6) (i := j) (j := 5) rfl (by rw [cS hj h30]; simp [oS, up3]) h
theorem cPT0 {X : gX} {lo : gL} {L : Nat → Nat → Nat} {K C : rM3} {e0 : gE} {en1 : gE} {j i : Nat} {v : Int32} (hj : j < L 2 1) (h30 : j < 50) (hi : i < 10) (h : en1 = eup (enC X lo L K C e0) (203 + (16 * j + i)) (.inr (0, (oT C (16 * j + i)).set 0 (.int v)))) : ∃ C1 : rM3, C1 = up3 C 8 (16 * j + i) 0 v ∧ en1 = enC X lo L K C1 e0 := cWC (k := 203 + (16 * j + i)) (a := 8) (i := 16 * j + i) (j := 0) rfl (by rw [cT hj h30 hi]; simp [oT, up3]) h
theorem cPT1 {X : gX} {lo : gL} {L : Nat → Nat → Nat} {K C : rM3} {e0 : gE} {en1 : gE} {j i : Nat} {v : Int32} (hj : j < L 2 1) (h30 : j < 50) (hi : i < 10) (h : en1 = eup (enC X lo L K C e0) (203 + (16 * j + i)) (.inr (0, (oT C (16 * j + i)).set 1 (.int v)))) : ∃ C1 : rM3, C1 = up3 C 8 (16 * j + i) 1 v ∧ en1 = enC X lo L K C1 e0 := cWC (k := 203 + (16 * j + i)) (a := 8) (i := 16 * j + i) (j := 1) rfl (by rw [cT hj h30 hi]; simp [oT, up3]) h
theorem cPT2 {X : gX} {lo : gL} {L : Nat → Nat → Nat} {K C : rM3} {e0 : gE} {en1 : gE} {j i : Nat} {v : Int32} (hj : j < L 2 1) (h30 : j < 50) (hi : i < 10) (h : en1 = eup (enC X lo L K C e0) (203 + (16 * j + i)) (.inr (0, (oT C (16 * j + i)).set 2 (.int v)))) : ∃ C1 : rM3, C1 = up3 C 8 (16 * j + i) 2 v ∧ en1 = enC X lo L K C1 e0 := cWC (k := 203 + (16 * j + i)) (a := 8) (i := 16 * j + i) (j := 2) rfl (by rw [cT hj h30 hi]; simp [oT, up3]) h
theorem cPT3 {X : gX} {lo : gL} {L : Nat → Nat → Nat} {K C : rM3} {e0 : gE} {en1 : gE} {j i : Nat} {v : Int32} (hj : j < L 2 1) (h30 : j < 50) (hi : i < 10) (h : en1 = eup (enC X lo L K C e0) (203 + (16 * j + i)) (.inr (0, (oT C (16 * j + i)).set 3 (.int v)))) : ∃ C1 : rM3, C1 = up3 C 8 (16 * j + i) 3 v ∧ en1 = enC X lo L K C1 e0 := cWC (k := 203 + (16 * j + i)) (a := 8) (i := 16 * j + i) (j := 3) rfl (by rw [cT hj h30 hi]; simp [oT, up3]) h
theorem cPT4 {X : gX} {lo : gL} {L : Nat → Nat → Nat} {K C : rM3} {e0 : gE} {en1 : gE} {j i : Nat} {v : Int32} (hj : j < L 2 1) (h30 : j < 50) (hi : i < 10) (h : en1 = eup (enC X lo L K C e0) (203 + (16 * j + i)) (.inr (0, (oT C (16 * j + i)).set 4 (.int v)))) : ∃ C1 : rM3, C1 = up3 C 8 (16 * j + i) 4 v ∧ en1 = enC X lo L K C1 e0 := cWC (k := 203 + (16 * j + i)) (a := 8) (i := 16 * j + i) (j := 4) rfl (by rw [cT hj h30 hi]; simp [oT, up3]) h
theorem cPT5 {X : gX} {lo : gL} {L : Nat → Nat → Nat} {K C : rM3} {e0 : gE} {en1 : gE} {j i : Nat} {v : Int32} (hj : j < L 2 1) (h30 : j < 50) (hi : i < 10) (h : en1 = eup (enC X lo L K C e0) (203 + (16 * j + i)) (.inr (0, (oT C (16 * j + i)).set 5 (.int v)))) : ∃ C1 : rM3, C1 = up3 C 8 (16 * j + i) 5 v ∧ en1 = enC X lo L K C1 e0 := cWC (k := 203 + (16 * j + i)) (a := 8) (i := 16 * j + i) (j := 5) rfl (by rw [cT hj h30 hi]; simp [oT, up3]) h
theorem cPT6 {X : gX} {lo : gL} {L : Nat → Nat → Nat} {K C : rM3} {e0 : gE} {en1 : gE} {j i : Nat} {v : Int32} (hj : j < L 2 1) (h30 : j < 50) (hi : i < 10) (h : en1 = eup (enC X lo L K C e0) (203 + (16 * j + i)) (.inr (0, (oT C (16 * j + i)).set 6 (.int v)))) : ∃ C1 : rM3, C1 = up3 C 8 (16 * j + i) 6 v ∧ en1 = enC X lo L K C1 e0 := cWC (k := 203 + (16 * j + i)) (a := 8) (i := 16 * j + i) (j := 6) rfl (by rw [cT hj h30 hi]; simp [oT, up3]) h
theorem cPV1 {X : gX} {lo : gL} {L : Nat → Nat → Nat} {K C : rM3} {e0 : gE} {en1 : gE} {v : Int32} (h : en1 = eup (enC X lo L K C e0) 4 (.inr (3, (oV lo C).set 1 (.int v)))) : ∃ C1 : rM3, C1 = up3 C 9 0 1 v ∧ en1 = enC X lo L K C1 e0 := cWC (k := 4) (a := 9) (i := 0) (j := 1) rfl (by rw [cV]; simp [oV, up3]) h
theorem cPV2 {X : gX} {lo : gL} {L : Nat → Nat → Nat} {K C : rM3} {e0 : gE} {en1 : gE} {v : Int32} (h : en1 = eup (enC X lo L K C e0) 4 (.inr (3, (oV lo C).set 2 (.int v)))) : ∃ C1 : rM3, C1 = up3 C 9 0 2 v ∧ en1 = enC X lo L K C1 e0 := cWC (k := 4) (a := 9) (i := 0) (j := 2) rfl (by rw [cV]; simp [oV, up3]) h
theorem cPV3 {X : gX} {lo : gL} {L : Nat → Nat → Nat} {K C : rM3} {e0 : gE} {en1 : gE} {v : Int32} (h : en1 = eup (enC X lo L K C e0) 4 (.inr (3, (oV lo C).set 3 (.int v)))) : ∃ C1 : rM3, C1 = up3 C 9 0 3 v ∧ en1 = enC X lo L K C1 e0 := cWC (k := 4) (a := 9) (i := 0) (j := 3) rfl (by rw [cV]; simp [oV, up3]) h
theorem cPV4 {X : gX} {lo : gL} {L : Nat → Nat → Nat} {K C : rM3} {e0 : gE} {en1 : gE} {v : Int32} (h : en1 = eup (enC X lo L K C e0) 4 (.inr (3, (oV lo C).set 4 (.int v)))) : ∃ C1 : rM3, C1 = up3 C 9 0 4 v ∧ en1 = enC X lo L K C1 e0 := cWC (k := 4) (a := 9) (i := 0) (j := 4) rfl (by rw [cV]; simp [oV, up3]) h
theorem cPV5 {X : gX} {lo : gL} {L : Nat → Nat → Nat} {K C : rM3} {e0 : gE} {en1 : gE} {v : Int32} (h : en1 = eup (enC X lo L K C e0) 4 (.inr (3, (oV lo C).set 5 (.int v)))) : ∃ C1 : rM3, C1 = up3 C 9 0 5 v ∧ en1 = enC X lo L K C1 e0 := cWC (k := 4) (a := 9) (i := 0) (j := 5) rfl (by rw [cV]; simp [oV, up3]) h
theorem cQ5 {X : gX} {lo : gL} {L : Nat → Nat → Nat} {K C : rM3} {e0 : gE} {en1 : gE} {j : Nat} {v : Int32} (h : en1 = eup (enC X lo L K C e0) 5 (.inl (X.2 0, 10, .inl (upd (C 10 0) j v)))) : ∃ C1 : rM3, C1 = up3 C 10 0 j v ∧ en1 = enC X lo L K C1 e0 := cWC (k := 5) (a := 10) (i := 0) (j := j) rfl (by rw [cA5, up3_self]) h
theorem cQ6 {X : gX} {lo : gL} {L : Nat → Nat → Nat} {K C : rM3} {e0 : gE} {en1 : gE} {j : Nat} {v : Int32} (h : en1 = eup (enC X lo L K C e0) 6 (.inl (X.2 0, 30, .inl (upd (C 11 0) j v)))) : ∃ C1 : rM3, C1 = up3 C 11 0 j v ∧ en1 = enC X lo L K C1 e0 := cWC (k := 6) (a := 11) (i := 0) (j := j) rfl (by rw [cA6, up3_self]) h
theorem cQ7 {X : gX} {lo : gL} {L : Nat → Nat → Nat} {K C : rM3} {e0 : gE} {en1 : gE} {j : Nat} {v : Int32} (h : en1 = eup (enC X lo L K C e0) 7 (.inl (X.2 0, 30, .inl (upd (C 12 0) j v)))) : ∃ C1 : rM3, C1 = up3 C 12 0 j v ∧ en1 = enC X lo L K C1 e0 := cWC (k := 7) (a := 12) (i := 0) (j := j) rfl (by rw [cA7, up3_self]) h
end
section
/-! ===== the pure specification, over the reference's lasting numbers M ===== -/
def wi (v a b : Int32) : Int32 := if a ≤ v ∧ v ≤ b then 1 else 0
/-- the distance, as the reference has it -/
def ap (a b : Int32) : Int32 := if b < a then a - b else b - a
abbrev nt (x : Int32) : Nat := x.toNatClampNeg
theorem nt_toInt (x : Int32) : nt x = x.toInt.toNat := by
  unfold nt Int32.toNatClampNeg
  rfl
theorem nt_nI {n : Nat} (h : n < 2 ^ 31) : nt (nI n) = n := nI_clamp h
theorem nI_nt {x : Int32} (h : 0 ≤ x) : nI (nt x) = x := by
  apply Int32.toInt_inj.mp
  have h1 : (0 : Int) ≤ x.toInt := by have := Int32.le_iff_toInt_le.mp h; simpa using this
  have h2 : x.toInt < 2 ^ 31 := x.toInt_lt
  rw [nI_toInt (by rw [nt_toInt]; omega), nt_toInt]
  omega
theorem nt_lt {x : Int32} {n : Nat} (h : x < nI n) (h0 : 0 ≤ x) (hn : n < 2 ^ 31) : nt x < n := by
  rw [← nI_nt h0] at h
  have h2 : nt x < 2 ^ 31 := by rw [nt_toInt]; have := x.toInt_lt; omega
  exact (nI_ltI h2 hn).mp h
theorem nI_ma (c a b : Nat) : nI c * nI a + nI b = nI (c * a + b) := by rw [pk_mul, nI_add]
theorem nI_maa (c a b d : Nat) : nI c * nI a + nI b + nI d = nI (c * a + b + d) := by rw [pk_mul, nI_add, nI_add]
theorem nI_m (c a : Nat) : nI c * nI a = nI (c * a) := pk_mul c a
/-- the sum of the deviations of n intervals; none: one is too great -/
def ssF (S Q : Nat → Int32) (tol f : Int32) : Nat → Option Int32
  | 0 => some 0
  | n + 1 => match ssF S Q tol f n with
    | none => none
    | some s => if tol < ap (S n) (Q n * f / 1000) then none else some (s + ap (S n) (Q n * f / 1000))
theorem ssF_none {S Q : Nat → Int32} {tol f : Int32} {k n : Nat} (h : ssF S Q tol f k = none) (hkn : k ≤ n) : ssF S Q tol f n = none := by
  induction n with
  | zero => rw [show k = 0 by omega] at h; exact h
  | succ n ih =>
    rcases Nat.lt_or_ge n k with q | q
    · rw [show n + 1 = k by omega]; exact h
    · simp [ssF, ih q]
/-- the state that fits with the least deviation, the first of several -/
def msF (Xs Ys : Nat → Int32) (x y mt f : Int32) : Nat → Option (Nat × Int32)
  | 0 => none
  | k + 1 => if ap x (Xs k * f / 1000) ≤ mt ∧ ap y (Ys k * f / 1000) ≤ mt then
      (match msF Xs Ys x y mt f k with
      | none => some (k, ap x (Xs k * f / 1000) + ap y (Ys k * f / 1000))
      | some q => if ap x (Xs k * f / 1000) + ap y (Ys k * f / 1000) < q.2 then some (k, ap x (Xs k * f / 1000) + ap y (Ys k * f / 1000)) else some q)
    else msF Xs Ys x y mt f k
def rvT (t : Nat) : Bool := t == 1 || t == 2
def dnT (t : Nat) : Bool := t == 1 || t == 3
def sS (M : rM2) (j : Nat) (rv : Bool) : Nat → Int32 := fun q => M 8 (10 * j + (if rv then nt (M 7 j) - 1 - q else q))
def qQ (M : rM2) (i o : Nat) : Nat → Int32 := fun q => M 2 (10 * i + o + q)
/-- the mark's position in the orientation t -/
def pxF (M : rM2) (j t : Nat) : Int32 := if rvT t then M 8 (10 * j + nt (M 9 j)) - M 10 j else M 10 j
def pyF (M : rM2) (j t : Nat) : Int32 := if dnT t then 300 - M 11 j else M 11 j
abbrev msM (M : rM2) (i : Nat) (x y f : Int32) : Nat → Option (Nat × Int32) := msF (fun k => M 5 (6 * i + k)) (fun k => M 6 (6 * i + k)) x y (M 20 3) f
/-- a placement's score and state (NONE where the mark was not seen); none: not possible -/
def plF (M : rM2) (j i t o : Nat) (f : Int32) : Option (Int32 × Int32) :=
  match ssF (sS M j (rvT t)) (qQ M i o) (M 20 2) f (nt (M 7 j)) with
  | none => none
  | some sum => if M 9 j < 0 then some (sum, -6) else
    if nI o + (if rvT t then M 7 j - 1 - M 9 j else M 9 j) = M 3 i then
      (match msM M i (pxF M j t) (pyF M j t) f (nt (M 4 i)) with
      | none => none
      | some q => some (sum + q.2, nI q.1))
    else none
abbrev gB : Type := Option (Int32 × Int32 × Int32 × Int32 × Int32)
/-- one more placement looked at: the first least one is kept -/
def stF (t o : Nat) (f : Int32) (p : Option (Int32 × Int32)) (b : gB) : gB := match p with
  | none => b
  | some q => match b with
    | none => some (q.1, nI t, nI o, f, q.2)
    | some r => if q.1 < r.1 then some (q.1, nI t, nI o, f, q.2) else some r
def fc (k : Nat) : Int32 := nI (1000 - 5 * k)
def bF (M : rM2) (j i t o : Nat) : Nat → gB → gB
  | 0, b => b
  | k + 1, b => stF t o (fc k) (plF M j i t o (fc k)) (bF M j i t o k b)
def bO (M : rM2) (j i t : Nat) : Nat → gB → gB
  | 0, b => b
  | o + 1, b => bF M j i t o 13 (bO M j i t o b)
/-- how many offsets there are -/
def nO (M : rM2) (j i : Nat) : Nat := nt (M 1 i) + 1 - nt (M 7 j)
def bT (M : rM2) (j i : Nat) : Nat → gB → gB
  | 0, b => b
  | t + 1, b => bO M j i t (nO M j i) (bT M j i t b)
/-- the best placement of sheet j on mould i -/
def fb (M : rM2) (j i : Nat) : gB := bT M j i 4 none
/-- one more mould looked at -/
def asS (k : Nat) (b : gB) (o : Option (Nat × Int32 × Int32)) : Option (Nat × Int32 × Int32) := match b with
  | none => o
  | some b => match o with
    | none => some (k, b.2.2.2.2, b.1)
    | some a => if b.1 < a.2.2 then some (k, b.2.2.2.2, b.1) else some a
/-- the assignment among the first n moulds: mould, state, score -/
def asF (M : rM2) (j : Nat) : Nat → Option (Nat × Int32 × Int32)
  | 0 => none
  | k + 1 => asS k (fb M j k) (asF M j k)
def nMo (M : rM2) : Nat := nt (M 20 4)
def nSh (M : rM2) : Nat := nt (M 20 11)
def aG (M : rM2) (j : Nat) : Option (Nat × Int32 × Int32) := asF M j (nMo M)
def moA (o : Option (Nat × Int32 × Int32)) : Int32 := match o with | none => -6 | some a => nI a.1
def soA (o : Option (Nat × Int32 × Int32)) : Int32 := match o with | none => -6 | some a => a.2.1
def scA (o : Option (Nat × Int32 × Int32)) : Int32 := match o with | none => -6 | some a => a.2.2
def moF (M : rM2) (j : Nat) : Int32 := moA (aG M j)
def soF (M : rM2) (j : Nat) : Int32 := soA (aG M j)
def scF (M : rM2) (j : Nat) : Int32 := scA (aG M j)
abbrev lowF (M : rM2) (a b : Nat) : Prop := 0 ≤ moF M a ∧ moF M a = moF M b ∧ 0 ≤ soF M a ∧ soF M a < soF M b
abbrev isMk (M : rM2) (iv x y : Int32) : Prop := (0 ≤ iv ∧ iv ≤ M 20 1 - 1) ∧ (0 ≤ x ∧ x ≤ M 0 (nt iv)) ∧ (0 ≤ y ∧ y ≤ 300)
/-- a copy of the row into array a, from place o on -/
def cp2 (M : rM2) (a o n : Nat) : rM2 := fun b j => if b = a ∧ o ≤ j ∧ j < o + n then M 0 (j - o) else M b j
/-! each call: its answer, and what lasts behind it -/
abbrev gA : Type := Int32 × rM2
def sp_clearRow (M : rM2) : gA := (M 20 1, up2 M 20 1 0)
def sp_addToRow (M : rM2) (v : Int32) : gA := if 100 ≤ v ∧ v ≤ 450 then (if M 20 1 = 10 then (-5, M) else (M 20 1 + 1, up2 (up2 M 0 (nt (M 20 1)) v) 20 1 (M 20 1 + 1))) else (-3, M)
def sp_setTolerances (M : rM2) (a b : Int32) : gA := if (0 ≤ a ∧ a ≤ 50) ∧ (0 ≤ b ∧ b ≤ 100) then ((if a = M 20 2 ∧ b = M 20 3 then 0 else 1), up2 (up2 M 20 2 a) 20 3 b) else (-3, M)
/-- what lasts behind a state added to mould i -/
def psM (M : rM2) (i : Nat) (x y : Int32) : rM2 := up2 (up2 (up2 M 5 (6 * i + nt (M 4 i)) x) 6 (6 * i + nt (M 4 i)) y) 4 i (M 4 i + 1)
def adM (M : rM2) (i : Nat) (iv x y : Int32) : rM2 := up2 (psM (up2 (up2 (cp2 (up2 M 1 i (M 20 1)) 2 (10 * i) (nt (M 20 1))) 3 i iv) 4 i 0) i x y) 20 4 (M 20 4 + 1)
def sp_addMould (M : rM2) (iv x y : Int32) : gA := if M 20 1 < 3 then (-4, M) else if (isMk M iv x y) then (if M 20 4 = 10 then (-5, M) else (M 20 4, adM M (nMo M) iv x y)) else (-3, M)
/-- there is such a mould, such a sheet -/
abbrev isMo (M : rM2) (p : Int32) : Prop := 0 ≤ p ∧ p ≤ M 20 4 - 1
abbrev isSh (M : rM2) (p : Int32) : Prop := 0 ≤ p ∧ p ≤ M 20 11 - 1
def sp_addState (M : rM2) (p x y : Int32) : gA := if (isMo M p) then (if (0 ≤ x ∧ x ≤ M 2 (10 * nt p + nt (M 3 (nt p)))) ∧ (0 ≤ y ∧ y ≤ 300) then (if M 4 (nt p) = 6 then (-5, M) else (M 4 (nt p), psM M (nt p) x y)) else (-3, M)) else (-1, M)
def sp_removeState (M : rM2) (p : Int32) : gA := if (isMo M p) then (if M 4 (nt p) = 1 then (-6, M) else (M 4 (nt p) - 1, up2 M 4 (nt p) (M 4 (nt p) - 1))) else (-1, M)
def sp_stateCount (M : rM2) (p : Int32) : gA := if (isMo M p) then (M 4 (nt p), M) else (-1, M)
/-- the greatest difference of the first n spacings -/
def gdF (A B : Nat → Int32) : Nat → Int32
  | 0 => 0
  | k + 1 => if gdF A B k < ap (A k) (B k) then ap (A k) (B k) else gdF A B k
def gdM (M : rM2) (a b : Nat) : Int32 := gdF (fun k => M 2 (10 * a + k)) (fun k => M 2 (10 * b + k)) (nt (M 1 a))
/-- the reference's twinSpacings -/
def twF (M : rM2) (a b : Nat) : Int32 := if M 1 a = M 1 b ∧ M 3 a = M 3 b then (if M 20 2 < gdM M a b then -6 else gdM M a b) else -6
/-- two moulds, barred or not -/
def tbF (M : rM2) (p q : Int32) : Int32 := if (isMo M p ∧ isMo M q) then (if p = q then -3 else 0) else -1
def sp_areTwins (M : rM2) (p q : Int32) : gA := (if tbF M p q < 0 then tbF M p q else if twF M (nt p) (nt q) < 0 then 0 else 1, M)
def mx (a b : Int32) : Int32 := if b < a then a else b
def sp_twinDifference (M : rM2) (p q : Int32) : gA := (if tbF M p q < 0 then tbF M p q else if twF M (nt p) (nt q) < 0 then -6 else mx (ap (M 6 (6 * nt p)) (M 6 (6 * nt q))) (mx (ap (M 5 (6 * nt p)) (M 5 (6 * nt q))) (twF M (nt p) (nt q))), M)
def adS (M : rM2) (j : Nat) (iv x y : Int32) : rM2 := up2 (up2 (up2 (up2 (up2 (up2 (cp2 (up2 M 7 j (M 20 1)) 8 (10 * j) (nt (M 20 1))) 9 j iv) 10 j x) 11 j y) 12 j 0) 13 j 9999) 20 11 (M 20 11 + 1)
def sp_addSheet (M : rM2) (iv x y : Int32) : gA := if M 20 1 < 2 then (-4, M) else if (iv = -1 ∨ isMk M iv x y) then (if M 20 11 = 30 then (-5, M) else (M 20 11, adS M (nSh M) iv x y)) else (-3, M)
def sp_setDates (M : rM2) (p a b : Int32) : gA := if (isSh M p) then (if (0 ≤ a ∧ a ≤ 9999) ∧ (a ≤ b ∧ b ≤ 9999) then ((if a = M 12 (nt p) ∧ b = M 13 (nt p) then 0 else 1), up2 (up2 M 12 (nt p) a) 13 (nt p) b) else (-3, M)) else (-2, M)
def sp_count (M : rM2) (w : Int32) : gA := (if w = 0 then M 20 4 else if w = 1 then M 20 11 else if w = 2 then M 20 1 else -3, M)
/-- a sheet and a mould, barred or not -/
def bbF (M : rM2) (p q : Int32) : Int32 := if (isSh M p) then (if (isMo M q) then 0 else -1) else -2
def sp_score (M : rM2) (p q : Int32) : gA := (if bbF M p q < 0 then bbF M p q else match fb M (nt p) (nt q) with | none => -6 | some b => b.1, M)
def sp_placement (M : rM2) (p q w : Int32) : gA := (if bbF M p q < 0 then bbF M p q else if 0 ≤ w ∧ w ≤ 3 then (match fb M (nt p) (nt q) with | none => -6 | some b => if w = 0 then b.2.1 else if w = 1 then b.2.2.1 else if w = 2 then b.2.2.2.1 else b.2.2.2.2) else -3, M)
def sp_assignedMould (M : rM2) (p : Int32) : gA := (if (isSh M p) then moF M (nt p) else -2, M)
/-- rivals among the first n moulds -/
def rvF (M : rM2) (j : Nat) (mg : Int32) : Nat → Int32
  | 0 => 0
  | k + 1 => rvF M j mg k + (match fb M j k with | none => 0 | some b => if nI k ≠ moF M j ∧ b.1 ≤ scF M j + mg then 1 else 0)
def sp_rivalCount (M : rM2) (p mg : Int32) : gA := (if (isSh M p) then (if 0 ≤ mg ∧ mg ≤ 1000 then (if moF M (nt p) < 0 then -6 else rvF M (nt p) mg (nMo M)) else -3) else -2, M)
def bsF (M : rM2) (p : Int32) : Nat → Int32
  | 0 => 0
  | k + 1 => bsF M p k ||| (if moF M k = p then 1 <<< (nI k &&& 31) else 0)
def sp_sheetsOf (M : rM2) (p : Int32) : gA := (if (isMo M p) then bsF M p (nSh M) else -1, M)
def eaF (M : rM2) (j : Nat) : Nat → Int32
  | 0 => M 12 j
  | k + 1 => if (lowF M k j ∧ eaF M j k < M 12 k) then M 12 k else eaF M j k
def laF (M : rM2) (j : Nat) : Nat → Int32
  | 0 => M 13 j
  | k + 1 => if (lowF M j k ∧ M 13 k < laF M j k) then M 13 k else laF M j k
def ea (M : rM2) (j : Nat) : Int32 := eaF M j (nSh M)
def la (M : rM2) (j : Nat) : Int32 := laF M j (nSh M)
def sp_earliest (M : rM2) (p : Int32) : gA := (if (isSh M p) then ea M (nt p) else -2, M)
def sp_latest (M : rM2) (p : Int32) : gA := (if (isSh M p) then la M (nt p) else -2, M)
/-- sheet a comes before sheet b in the order of a mould -/
abbrev ahF (M : rM2) (a b : Nat) : Prop := if soF M a = soF M b then (if ea M a = ea M b then a < b else ea M a < ea M b) else soF M a < soF M b
abbrev onF (M : rM2) (j : Nat) (p : Int32) : Prop := moF M j = p ∧ 0 ≤ soF M j
/-- how many of the first n sheets come before sheet k on mould p -/
def anF (M : rM2) (p : Int32) (k : Nat) : Nat → Int32
  | 0 => 0
  | x + 1 => anF M p k x + (if (onF M k p ∧ onF M x p ∧ x ≠ k ∧ ahF M x k) then 1 else 0)
/-- the first of the sheets from k on, r of them, that has the place pl -/
def atF (M : rM2) (p pl : Int32) : Nat → Nat → Int32
  | _, 0 => -6
  | k, r + 1 => if (onF M k p ∧ anF M p k (nSh M) = pl) then nI k else atF M p pl (k + 1) r
def sp_sheetAt (M : rM2) (p pl : Int32) : gA := (if (isMo M p) then (if pl < 0 then -3 else atF M p pl 0 (nSh M)) else -1, M)
def ccI (M : rM2) (p : Int32) (a : Nat) : Nat → Int32 → Int32
  | 0, c => c
  | b + 1, c => ccI M p a b c + (if (moF M a = p ∧ lowF M a b ∧ M 13 b < M 12 a) then 1 else 0)
def ccF (M : rM2) (p : Int32) : Nat → Int32
  | 0 => 0
  | a + 1 => ccI M p a (nSh M) (ccF M p a)
def sp_contradictionCount (M : rM2) (p : Int32) : gA := (if (isMo M p) then ccF M p (nSh M) else -1, M)
/-! what holds of the lasting numbers all along -/
abbrev inR (a v b : Int32) : Prop := a ≤ v ∧ v ≤ b
def Iv (M : rM2) : Prop := inR 0 (M 20 1) 10 ∧ inR 0 (M 20 2) 50 ∧ inR 0 (M 20 3) 100 ∧ inR 0 (M 20 4) 10 ∧ inR 0 (M 20 11) 30 ∧ (∀ k, k < nt (M 20 1) → inR 100 (M 0 k) 450) ∧
  (∀ i, i < nMo M → inR 3 (M 1 i) 10 ∧ inR 0 (M 3 i) (M 1 i - 1) ∧ inR 1 (M 4 i) 6 ∧ (∀ k, k < nt (M 1 i) → inR 100 (M 2 (10 * i + k)) 450) ∧ ∀ k, k < nt (M 4 i) → inR 0 (M 5 (6 * i + k)) 450 ∧ inR 0 (M 6 (6 * i + k)) 300) ∧
  ∀ j, j < nSh M → inR 2 (M 7 j) 10 ∧ (∀ k, k < nt (M 7 j) → inR 100 (M 8 (10 * j + k)) 450) ∧ (M 9 j = -1 ∨ (inR 0 (M 9 j) (M 7 j - 1) ∧ inR 0 (M 10 j) (M 8 (10 * j + nt (M 9 j))) ∧ inR 0 (M 11 j) 300))
end
section
/-! ===== ranges ===== -/
theorem natOf {x b : Int32} {n : Nat} (h : inR 0 x b) (hb : b = nI n) (hn : n < 2 ^ 31) : ∃ k : Nat, k ≤ n ∧ x = nI k := by
  refine ⟨nt x, ?_, (nI_nt h.1).symm⟩
  have h1 := h.2
  rw [hb, ← nI_nt h.1] at h1
  have h2 : nt x < 2 ^ 31 := by rw [nt_toInt]; have := x.toInt_lt; omega
  exact (nI_leI h2 hn).mp h1
theorem nI_inR {a b n : Nat} (h1 : a ≤ n) (h2 : n ≤ b) (hb : b < 2 ^ 31) : inR (nI a) (nI n) (nI b) := ⟨nI_le h1 (by omega), nI_le h2 hb⟩
theorem ap_R {a b : Int32} (ha : inR 0 a 450) (hb : inR 0 b 450) : inR 0 (ap a b) 450 := by grind [ap]
theorem md_R {v f : Int32} (hv : inR 0 v 450) (hf : inR 940 f 1000) : inR 0 (v * f / 1000) 450 := by
  obtain ⟨a, ha, rfl⟩ := natOf (n := 450) hv rfl (by decide)
  obtain ⟨b, hb, rfl⟩ := natOf (n := 1000) (x := f) (b := 1000) ⟨by grind, hf.2⟩ rfl (by decide)
  have h1 : a * b ≤ 450 * 1000 := Nat.mul_le_mul ha hb
  have h2 : nI a * nI b / 1000 = nI (a * b / 1000) := by
    rw [pk_mul]
    exact pk_div (d := 1000) (by omega) (by decide) (by decide)
  rw [h2]
  exact nI_inR (a := 0) (b := 450) (Nat.zero_le _) (by omega) (by decide)
theorem ap_md_R {a v f : Int32} (ha : inR 0 a 450) (hv : inR 0 v 450) (hf : inR 940 f 1000) : inR 0 (ap a (v * f / 1000)) 450 := ap_R ha (md_R hv hf)
theorem ssF_R {S Q : Nat → Int32} {tol f : Int32} (ht : inR 0 tol 50) (hf : inR 940 f 1000) : ∀ {n : Nat} {s : Int32}, n ≤ 10 → (∀ q, q < n → inR 0 (S q) 450 ∧ inR 0 (Q q) 450) → ssF S Q tol f n = some s → inR 0 s (50 * nI n)
  | 0, s, _, _, h => by
    simp only [ssF, Option.some.injEq] at h
    subst h
    decide
  | n + 1, s, hn, hq, h => by
    unfold ssF at h
    split at h
    · cases h
    · rename_i s0 h0
      have ih := ssF_R ht hf (n := n) (by omega) (fun q hq2 => hq q (by omega)) h0
      have h1 := hq n (by omega)
      have h2 := ap_md_R h1.1 h1.2 hf
      generalize ap (S n) (Q n * f / 1000) = z at h h2
      split at h
      · cases h
      · cases h
        rw [← nI_1]
        have h3 : inR 0 (nI n) 10 := nI_inR (a := 0) (b := 10) (Nat.zero_le _) (by omega) (by decide)
        generalize nI n = w at ih h3
        have h4 : 50 * (w + 1) = 50 * w + 50 := by grind
        rw [h4]
        grind
theorem msF_R {Xs Ys : Nat → Int32} {x y mt f : Int32} (hx : inR 0 x 450) (hy : inR 0 y 450) (hf : inR 940 f 1000) : ∀ {n : Nat} {q : Nat × Int32}, (∀ k, k < n → inR 0 (Xs k) 450 ∧ inR 0 (Ys k) 450) → msF Xs Ys x y mt f n = some q → q.1 < n ∧ inR 0 q.2 900
  | 0, q, _, h => by simp [msF] at h
  | n + 1, q, hk, h => by
    have h1 := hk n (by omega)
    have a1 := ap_md_R hx h1.1 hf
    have a2 := ap_md_R hy h1.2 hf
    unfold msF at h
    generalize ap x (Xs n * f / 1000) = z1 at h a1
    generalize ap y (Ys n * f / 1000) = z2 at h a2
    have a3 : inR 0 (z1 + z2) 900 := by grind
    have old : ∀ q, msF Xs Ys x y mt f n = some q → q.1 < n + 1 ∧ inR 0 q.2 900 := fun q hq => by
      have := msF_R hx hy hf (n := n) (fun k hk2 => hk k (by omega)) hq
      exact ⟨by omega, this.2⟩
    split at h
    · split at h
      · cases h; exact ⟨Nat.lt_succ_self n, a3⟩
      · rename_i q0 h0
        split at h
        · cases h; exact ⟨Nat.lt_succ_self n, a3⟩
        · cases h; exact old q h0
    · exact old q h
/-- what holds of a sheet and a mould that are there -/
theorem Iv_sh {M : rM2} (hM : Iv M) {j : Nat} (hj : j < nSh M) : ∃ n, 2 ≤ n ∧ n ≤ 10 ∧ M 7 j = nI n ∧ nt (M 7 j) = n := by
  have h := (hM.2.2.2.2.2.2.2 j hj).1
  obtain ⟨n, hn, en⟩ := natOf (n := 10) (x := M 7 j) (b := 10) ⟨by grind, h.2⟩ rfl (by decide)
  have h2 := h.1
  rw [en] at h2
  have h3 := (nI_leI (a := 2) (b := n) (by decide) (by omega)).mp h2
  exact ⟨n, h3, hn, en, by rw [en]; exact nt_nI (by omega)⟩
theorem Iv_mo {M : rM2} (hM : Iv M) {i : Nat} (hi : i < nMo M) : ∃ n, 3 ≤ n ∧ n ≤ 10 ∧ M 1 i = nI n ∧ nt (M 1 i) = n := by
  have h := (hM.2.2.2.2.2.2.1 i hi).1
  obtain ⟨n, hn, en⟩ := natOf (n := 10) (x := M 1 i) (b := 10) ⟨by grind, h.2⟩ rfl (by decide)
  have h2 := h.1
  rw [en] at h2
  have h3 := (nI_leI (a := 3) (b := n) (by decide) (by omega)).mp h2
  exact ⟨n, h3, hn, en, by rw [en]; exact nt_nI (by omega)⟩
theorem Iv_st {M : rM2} (hM : Iv M) {i : Nat} (hi : i < nMo M) : ∃ n, 1 ≤ n ∧ n ≤ 6 ∧ M 4 i = nI n ∧ nt (M 4 i) = n := by
  have h := (hM.2.2.2.2.2.2.1 i hi).2.2.1
  obtain ⟨n, hn, en⟩ := natOf (n := 6) (x := M 4 i) (b := 6) ⟨by grind, h.2⟩ rfl (by decide)
  have h2 := h.1
  rw [en] at h2
  have h3 := (nI_leI (a := 1) (b := n) (by decide) (by omega)).mp h2
  exact ⟨n, h3, hn, en, by rw [en]; exact nt_nI (by omega)⟩
theorem Iv_nM {M : rM2} (hM : Iv M) : nMo M ≤ 10 ∧ M 20 4 = nI (nMo M) := by
  obtain ⟨n, hn, en⟩ := natOf (n := 10) hM.2.2.2.1 rfl (by decide)
  have h : nMo M = n := by unfold nMo; rw [en]; exact nt_nI (by omega)
  exact ⟨by omega, by rw [h]; exact en⟩
theorem Iv_nS {M : rM2} (hM : Iv M) : nSh M ≤ 30 ∧ M 20 11 = nI (nSh M) := by
  obtain ⟨n, hn, en⟩ := natOf (n := 30) hM.2.2.2.2.1 rfl (by decide)
  have h : nSh M = n := by unfold nSh; rw [en]; exact nt_nI (by omega)
  exact ⟨by omega, by rw [h]; exact en⟩
theorem sS_R {M : rM2} (hM : Iv M) {j : Nat} (hj : j < nSh M) (rv : Bool) {q : Nat} (hq : q < nt (M 7 j)) : inR 0 (sS M j rv q) 450 := by
  have h := (hM.2.2.2.2.2.2.2 j hj).2.1 (if rv then nt (M 7 j) - 1 - q else q) (by split <;> omega)
  unfold sS
  grind
theorem qQ_R {M : rM2} (hM : Iv M) {i o : Nat} (hi : i < nMo M) {q : Nat} (hq : o + q < nt (M 1 i)) : inR 0 (qQ M i o q) 450 := by
  have h := (hM.2.2.2.2.2.2.1 i hi).2.2.2.1 (o + q) hq
  unfold qQ
  rw [show 10 * i + o + q = 10 * i + (o + q) by omega]
  grind
/-- the mark's position lies in its range in every orientation -/
theorem pxy_R {M : rM2} (hM : Iv M) {j t : Nat} (hj : j < nSh M) (h9 : ¬ M 9 j < 0) : inR 0 (pxF M j t) 450 ∧ inR 0 (pyF M j t) 450 ∧ ∃ k, k < nt (M 7 j) ∧ M 9 j = nI k := by
  obtain ⟨h1, h2, h3⟩ := hM.2.2.2.2.2.2.2 j hj
  obtain ⟨n, hn2, hn10, en, en2⟩ := Iv_sh hM hj
  rcases h3 with h3 | ⟨h3, h4, h5⟩
  · exact absurd (by rw [h3]; decide) h9
  · obtain ⟨k, hk, ek⟩ := natOf (n := 9) (x := M 9 j) (b := 9) ⟨h3.1, by grind⟩ rfl (by decide)
    have hk2 : nt (M 9 j) = k := by rw [ek]; exact nt_nI (by omega)
    have hkn : k < n := by
      have h6 := h3.2
      rw [en, ek, show (1 : Int32) = nI 1 from rfl, pk_sub (by omega)] at h6
      have := (nI_leI (by omega) (by omega)).mp h6
      omega
    have h7 := h2 k (by omega)
    rw [hk2] at h4
    refine ⟨?_, ?_, k, by omega, ek⟩
    · unfold pxF
      rw [hk2]
      generalize M 8 (10 * j + k) = z at h4 h7
      split <;> grind
    · unfold pyF
      split <;> grind
theorem plF_R {M : rM2} (hM : Iv M) {j i t o : Nat} (hj : j < nSh M) (hi : i < nMo M) (ho : o + nt (M 7 j) ≤ nt (M 1 i)) {f : Int32} (hf : inR 940 f 1000) {q : Int32 × Int32} (h : plF M j i t o f = some q) : 0 ≤ q.1 := by
  obtain ⟨n, hn2, hn10, en, en2⟩ := Iv_sh hM hj
  unfold plF at h
  split at h
  · cases h
  · rename_i s hs
    have hs2 := ssF_R hM.2.1 hf (by omega) (fun q hq => ⟨sS_R hM hj _ hq, qQ_R hM hi (by omega)⟩) hs
    have hn3 : inR 0 (50 * nI (nt (M 7 j))) 500 := by
      rw [en2, show (50 : Int32) = nI 50 from rfl, pk_mul]
      exact nI_inR (a := 0) (b := 500) (Nat.zero_le _) (by omega) (by decide)
    split at h
    · cases h; exact hs2.1
    · rename_i h9
      obtain ⟨x1, x2, -⟩ := pxy_R (t := t) hM hj h9
      generalize nI o + (if rvT t = true then M 7 j - 1 - M 9 j else M 9 j) = z at h
      split at h
      · split at h
        · cases h
        · rename_i q0 hq0
          cases h
          have h5 := (msF_R x1 x2 hf (fun k hk => by have := (hM.2.2.2.2.2.2.1 i hi).2.2.2.2 k hk; exact ⟨this.1, by grind⟩) hq0).2
          show 0 ≤ s + q0.2
          grind
      · cases h
/-- an int for an answer that may not be there -/
def oI (o : Option Int32) : Int32 := match o with | none => -6 | some s => s
end
section
/-! ===== leaves ===== -/

set_option maxHeartbeats 4000000 in
set_option maxRecDepth 100000 in
theorem c_X4_isWithin (l : Launch) (X : gX) (b0 : Nat) (lo : gL) (en : gE) (v a b : Int32) : Ct l X b0 lo (en) yX4_isWithin cX4_isWithin 3 (some FieldType.boolean) (rM 0 0) [.int v, .int a, .int b] (pX (.int (wi v a b)) lo en) := by
  refine gMet (by decide) (Nat.le_of_ble_eq_true rfl) rfl ?_
  intro Z hC hI hR
  refine g_iload_n hC dX4_isWithin_0 rfl ?_
  refine g_iload_n hC dX4_isWithin_1 rfl ?_
  refine g_icmp_lt (tgt := 14) hC dX4_isWithin_2 (by decide) (fun c2 => ?_) (fun c2 => ?_)
  · refine g_iconst (v := 0) hC dX4_isWithin_14 (by decide) ?_
    refine g_ireti hR dX4_isWithin_15 (by decide) ?_
    clear hR hC hI
    refine pXi ?_
    grind [wi, ap]
  · refine g_iload_n hC dX4_isWithin_5 rfl ?_
    refine g_iload_n hC dX4_isWithin_6 rfl ?_
    refine g_icmp_gt (tgt := 14) hC dX4_isWithin_7 (by decide) (fun c7 => ?_) (fun c7 => ?_)
    · refine g_iconst (v := 0) hC dX4_isWithin_14 (by decide) ?_
      refine g_ireti hR dX4_isWithin_15 (by decide) ?_
      clear hR hC hI
      refine pXi ?_
      grind [wi, ap]
    · refine g_iconst (v := 1) hC dX4_isWithin_10 (by decide) ?_
      refine g_goto (tgt := 15) hC dX4_isWithin_11 (by decide) ?_
      refine g_ireti hR dX4_isWithin_15 (by decide) ?_
      clear hR hC hI
      refine pXi ?_
      grind [wi, ap]

set_option maxHeartbeats 4000000 in
set_option maxRecDepth 100000 in
theorem c_X5_within (l : Launch) (X : gX) (b0 : Nat) (lo : gL) (en : gE) (v a b : Int32) : Ct l X b0 lo (en) yX5_within cX5_within 3 (some FieldType.boolean) (rM 0 0) [.int v, .int a, .int b] (pX (.int (wi v a b)) lo en) := by
  refine gMet (by decide) (Nat.le_of_ble_eq_true rfl) rfl ?_
  intro Z hC hI hR
  refine g_iload_n hC dX5_within_0 rfl ?_
  refine g_iload_n hC dX5_within_1 rfl ?_
  refine g_icmp_lt (tgt := 14) hC dX5_within_2 (by decide) (fun c2 => ?_) (fun c2 => ?_)
  · refine g_iconst (v := 0) hC dX5_within_14 (by decide) ?_
    refine g_ireti hR dX5_within_15 (by decide) ?_
    clear hR hC hI
    refine pXi ?_
    grind [wi, ap]
  · refine g_iload_n hC dX5_within_5 rfl ?_
    refine g_iload_n hC dX5_within_6 rfl ?_
    refine g_icmp_gt (tgt := 14) hC dX5_within_7 (by decide) (fun c7 => ?_) (fun c7 => ?_)
    · refine g_iconst (v := 0) hC dX5_within_14 (by decide) ?_
      refine g_ireti hR dX5_within_15 (by decide) ?_
      clear hR hC hI
      refine pXi ?_
      grind [wi, ap]
    · refine g_iconst (v := 1) hC dX5_within_10 (by decide) ?_
      refine g_goto (tgt := 15) hC dX5_within_11 (by decide) ?_
      refine g_ireti hR dX5_within_15 (by decide) ?_
      clear hR hC hI
      refine pXi ?_
      grind [wi, ap]

set_option maxHeartbeats 4000000 in
set_option maxRecDepth 100000 in
theorem c_X5_apart (l : Launch) (X : gX) (b0 : Nat) (lo : gL) (en : gE) (a b : Int32) : Ct l X b0 lo (en) yX5_apart cX5_apart 2 (some FieldType.int) (rM 0 0) [.int a, .int b] (pX (.int (ap a b)) lo en) := by
  refine gMet (by decide) (Nat.le_of_ble_eq_true rfl) rfl ?_
  intro Z hC hI hR
  refine g_iload_n hC dX5_apart_0 rfl ?_
  refine g_iload_n hC dX5_apart_1 rfl ?_
  refine g_icmp_le (tgt := 11) hC dX5_apart_2 (by decide) (fun c2 => ?_) (fun c2 => ?_)
  · refine g_iload_n hC dX5_apart_11 rfl ?_
    refine g_iload_n hC dX5_apart_12 rfl ?_
    refine g_isub hC dX5_apart_13 ?_
    refine g_ireti hR dX5_apart_14 rfl ?_
    clear hR hC hI
    refine pXi ?_
    grind [wi, ap]
  · refine g_iload_n hC dX5_apart_5 rfl ?_
    refine g_iload_n hC dX5_apart_6 rfl ?_
    refine g_isub hC dX5_apart_7 ?_
    refine g_goto (tgt := 14) hC dX5_apart_8 (by decide) ?_
    refine g_ireti hR dX5_apart_14 rfl ?_
    clear hR hC hI
    refine pXi ?_
    grind [wi, ap]

set_option maxHeartbeats 4000000 in
set_option maxRecDepth 100000 in
theorem c_X4_isPosition (l : Launch) (X : gX) (b0 : Nat) (lo : gL) (en : gE) (w x y : Int32) : Ct l X b0 lo (en) yX4_isPosition cX4_isPosition 3 (some FieldType.boolean) (rM 1 22) [.int w, .int x, .int y] (pX (.int (if wi x 0 w = 1 ∧ wi y 0 300 = 1 then 1 else 0)) lo en) := by
  refine gMet (by decide) (Nat.le_of_ble_eq_true rfl) rfl ?_
  intro Z hC hI hR
  refine g_iload_n hC dX4_isPosition_0 rfl ?_
  refine g_iconst (v := 0) hC dX4_isPosition_1 (by decide) ?_
  refine g_iload_n hC dX4_isPosition_2 rfl ?_
  refine g_callS hC v_X4_isWithin km_X4_54 (c_X4_isWithin l X b0 lo _ _ _ _) rfl rfl (Nat.le_of_ble_eq_true rfl) ⟨by decide, by decide⟩ ⟨by decide, by decide⟩ dX4_isPosition_3 (kX ?_)
  refine g_if_eq (tgt := 24) hC dX4_isPosition_6 (by decide) (fun c6 => ?_) (fun c6 => ?_)
  · refine g_iconst (v := 0) hC dX4_isPosition_24 (by decide) ?_
    refine g_ireti hR dX4_isPosition_25 (by decide) ?_
    clear hR hC hI
    refine pXi ?_
    grind [wi, ap]
  · refine g_iload_n hC dX4_isPosition_9 rfl ?_
    refine g_iconst (v := 0) hC dX4_isPosition_10 (by decide) ?_
    refine g_sipush (v := 300) hC dX4_isPosition_11 (by decide) ?_
    refine g_callS hC v_X4_isWithin km_X4_54 (c_X4_isWithin l X b0 lo _ _ _ _) rfl rfl (Nat.le_of_ble_eq_true rfl) ⟨by decide, by decide⟩ ⟨by decide, by decide⟩ dX4_isPosition_14 (kX ?_)
    refine g_if_eq (tgt := 24) hC dX4_isPosition_17 (by decide) (fun c17 => ?_) (fun c17 => ?_)
    · refine g_iconst (v := 0) hC dX4_isPosition_24 (by decide) ?_
      refine g_ireti hR dX4_isPosition_25 (by decide) ?_
      clear hR hC hI
      refine pXi ?_
      grind [wi, ap]
    · refine g_iconst (v := 1) hC dX4_isPosition_20 (by decide) ?_
      refine g_goto (tgt := 25) hC dX4_isPosition_21 (by decide) ?_
      refine g_ireti hR dX4_isPosition_25 (by decide) ?_
      clear hR hC hI
      refine pXi ?_
      grind [wi, ap]
end
section
/-! ===== the reference: what changes it, and its checks ===== -/
/-- a public call of the reference: its answer and what lasts, by the specification -/
def pRf (X : gX) (lo : gL) (e0 : gE) (a : gA) : gP := pI lo (fun r en' => r = a.1 ∧ ∃ T' : rM2, en' = enR X lo a.2 T' e0)
theorem pRf_i {X : gX} {lo : gL} {e0 : gE} {a : gA} {r : Int32} {M' T' : rM2} (h1 : r = a.1) (h2 : M' = a.2) : pRf X lo e0 a (some (.int r)) lo (enR X lo M' T' e0) := ⟨rfl, r, rfl, h1, T', by rw [h2]⟩
theorem ix10 {a b : Nat} {x y : Int32} (h1 : x = nI a) (h2 : y = nI b) : 10 * x + y = nI (10 * a + b) := by rw [h1, h2]; exact nI_ma 10 a b
theorem ix6 {a b : Nat} {x y : Int32} (h1 : x = nI a) (h2 : y = nI b) : 6 * x + y = nI (6 * a + b) := by rw [h1, h2]; exact nI_ma 6 a b
theorem ix6' {a : Nat} {x : Int32} (h1 : x = nI a) : 6 * x = nI (6 * a) := by rw [h1]; exact nI_m 6 a
theorem wi_ne {v a b : Int32} (h : ¬ wi v a b = 0) : a ≤ v ∧ v ≤ b := by unfold wi at h; split at h <;> first | assumption | exact absurd rfl h
theorem wi_eq {v a b : Int32} (h : wi v a b = 0) : ¬ (a ≤ v ∧ v ≤ b) := by unfold wi at h; split at h <;> first | assumption | exact absurd h (by decide)
theorem ite_ne {p : Prop} [Decidable p] (h : ¬ (if p then (0 : Int32) else 1) = 0) : ¬ p := by split at h <;> first | assumption | exact absurd rfl h
theorem ite_eq {p : Prop} [Decidable p] (h : (if p then (0 : Int32) else 1) = 0) : p := by split at h <;> first | assumption | exact absurd h (by decide)
theorem ito_ne {p : Prop} [Decidable p] (h : ¬ (if p then (1 : Int32) else 0) = 0) : p := by split at h <;> first | assumption | exact absurd rfl h
theorem ito_eq {p : Prop} [Decidable p] (h : (if p then (1 : Int32) else 0) = 0) : ¬ p := by split at h <;> first | assumption | exact absurd h (by decide)
/-- a mould's number that is in range -/
theorem moOf {M : rM2} {p : Int32} (hM : Iv M) (h : isMo M p) : ∃ i : Nat, i < 10 ∧ p = nI i ∧ i < nMo M ∧ M 20 4 = nI (nMo M) ∧ nMo M ≤ 10 := by
  obtain ⟨-, -, -, h4, -⟩ := hM
  obtain ⟨n, hn, en⟩ := natOf (n := 10) h4 rfl (by decide)
  have h5 : nMo M = n := by unfold nMo; rw [en]; exact nt_nI (by omega)
  have h6 : nt p < n := nt_lt (show p < nI n by rw [← en]; grind) h.1 (by omega)
  exact ⟨nt p, by omega, (nI_nt h.1).symm, by omega, by rw [h5]; exact en, by omega⟩
theorem shOf {M : rM2} {p : Int32} (hM : Iv M) (h : isSh M p) : ∃ j : Nat, j < 30 ∧ p = nI j ∧ j < nSh M ∧ M 20 11 = nI (nSh M) ∧ nSh M ≤ 30 := by
  obtain ⟨-, -, -, -, h4, -⟩ := hM
  obtain ⟨n, hn, en⟩ := natOf (n := 30) h4 rfl (by decide)
  have h5 : nSh M = n := by unfold nSh; rw [en]; exact nt_nI (by omega)
  have h6 : nt p < n := nt_lt (show p < nI n by rw [← en]; grind) h.1 (by omega)
  exact ⟨nt p, by omega, (nI_nt h.1).symm, by omega, by rw [h5]; exact en, by omega⟩
theorem cp2_succ {M : rM2} {a o k : Nat} (ha : a ≠ 0) : up2 (cp2 M a o k) a (o + k) (cp2 M a o k 0 k) = cp2 M a o (k + 1) := by
  funext b j
  unfold up2 cp2
  by_cases h1 : b = a
  · subst h1
    by_cases h2 : j = o + k
    · subst h2
      have h3 : ¬ (0 = b) := fun z => ha z.symm
      simp [h3]
    · have h4 : (o ≤ j ∧ j < o + (k + 1)) ↔ (o ≤ j ∧ j < o + k) := by omega
      simp [h2, h4]
  · simp [h1]
theorem cp2_0 {M : rM2} {a o : Nat} : cp2 M a o 0 = M := by
  funext b j
  unfold cp2
  rw [if_neg]
  omega

set_option maxHeartbeats 4000000 in
set_option maxRecDepth 100000 in
theorem c_X5_clearRow (l : Launch) (X : gX) (b0 : Nat) (lo : gL) (M T : rM2) (e0 : gE)  : Ct l X b0 lo (enR X lo M T e0) yX5_clearRow cX5_clearRow 2 (some FieldType.int) (rM 0 0) [.ref (lo 1000)] (pRf X lo e0 (sp_clearRow M)) := by
  refine gMet (by decide) (Nat.le_of_ble_eq_true rfl) rfl ?_
  intro Z hC hI hR
  refine g_aload_n hC dX5_clearRow_0 rfl ?_
  refine g_get hC rfl rO rfl kl_X5 1 (by decide) kf_X5_68 rfl rfl dX5_clearRow_1 ?_
  refine g_istore_n hC dX5_clearRow_4 (by decide) ?_
  refine g_aload_n hC dX5_clearRow_5 rfl ?_
  refine g_iconst (v := 0) hC dX5_clearRow_6 (by decide) ?_
  refine g_put (ty := .int) hC rfl rO rfl kl_X5 1 (by decide) kf_X5_68 rfl tyX5 tyX5_ok nmX5 rfl (by decide +kernel) rfl rfl (Nat.le_of_ble_eq_true rfl) dX5_clearRow_7 (fun en1 hen1 => ?_)
  replace hen1 := rP1 hen1
  obtain ⟨M1, hM1, hen1⟩ := hen1
  subst hen1
  refine g_iload_n hC dX5_clearRow_10 rfl ?_
  refine g_ireti hR dX5_clearRow_11 rfl ?_
  clear hR hC hI
  subst hM1
  refine pRf_i ?_ ?_ <;> (try simp +decide only [up2_row, up2_self, pk_us]) <;> grind [sp_clearRow]

set_option maxHeartbeats 4000000 in
set_option maxRecDepth 100000 in
theorem c_X5_addToRow (l : Launch) (X : gX) (b0 : Nat) (lo : gL) (M T : rM2) (e0 : gE) (hM : Iv M) (v : Int32) : Ct l X b0 lo (enR X lo M T e0) yX5_addToRow cX5_addToRow 2 (some FieldType.int) (rM 1 22) [.ref (lo 1000), .int v] (pRf X lo e0 (sp_addToRow M v)) := by
  refine gMet (by decide) (Nat.le_of_ble_eq_true rfl) rfl ?_
  intro Z hC hI hR
  obtain ⟨⟨hr0, hr1⟩, -⟩ := hM
  refine g_iload_n hC dX5_addToRow_0 rfl ?_
  refine g_bipush (v := 100) hC dX5_addToRow_1 (by decide) ?_
  refine g_sipush (v := 450) hC dX5_addToRow_3 (by decide) ?_
  refine g_callS hC v_X5_within km_X5_71 (c_X5_within l X b0 lo _ _ _ _) rfl rfl (Nat.le_of_ble_eq_true rfl) ⟨by decide, by decide⟩ ⟨by decide, by decide⟩ dX5_addToRow_6 (kX ?_)
  refine g_if_ne (tgt := 15) hC dX5_addToRow_9 (by decide) (fun c9 => ?_) (fun c9 => ?_)
  · refine g_aload_n hC dX5_addToRow_15 rfl ?_
    refine g_get hC rfl rO rfl kl_X5 1 (by decide) kf_X5_68 rfl rfl dX5_addToRow_16 ?_
    refine g_bipush (v := 10) hC dX5_addToRow_19 (by decide) ?_
    refine g_icmp_ne (tgt := 27) hC dX5_addToRow_21 (by decide) (fun c21 => ?_) (fun c21 => ?_)
    · refine g_aload_n hC dX5_addToRow_27 rfl ?_
      refine g_get hC rfl rO rfl kl_X5 0 (by decide) kf_X5_7 rfl rfl dX5_addToRow_28 ?_
      refine g_aload_n hC dX5_addToRow_31 rfl ?_
      refine g_get hC rfl rO rfl kl_X5 1 (by decide) kf_X5_68 rfl rfl dX5_addToRow_32 ?_
      refine g_iload_n hC dX5_addToRow_35 rfl ?_
      refine g_iast hC rfl rA1001 (nt (M 20 1)) (nI_nt hr0).symm (nt_lt (n := 10) (show M 20 1 < 10 by grind) hr0 (by decide)) (by decide) dX5_addToRow_36 (fun en2 hen2 => ?_)
      replace hen2 := rQ1001 hen2
      obtain ⟨M2, hM2, hen2⟩ := hen2
      subst hen2
      refine g_aload_n hC dX5_addToRow_37 rfl ?_
      refine g_dup hC dX5_addToRow_38 rfl ?_
      refine g_get hC rfl rO rfl kl_X5 1 (by decide) kf_X5_68 rfl rfl dX5_addToRow_39 ?_
      refine g_iconst (v := 1) hC dX5_addToRow_42 (by decide) ?_
      refine g_iadd hC dX5_addToRow_43 ?_
      refine g_put (ty := .int) hC rfl rO rfl kl_X5 1 (by decide) kf_X5_68 rfl tyX5 tyX5_ok nmX5 rfl (by decide +kernel) rfl rfl (Nat.le_of_ble_eq_true rfl) dX5_addToRow_44 (fun en3 hen3 => ?_)
      replace hen3 := rP1 hen3
      obtain ⟨M3, hM3, hen3⟩ := hen3
      subst hen3
      refine g_aload_n hC dX5_addToRow_47 rfl ?_
      refine g_get hC rfl rO rfl kl_X5 1 (by decide) kf_X5_68 rfl rfl dX5_addToRow_48 ?_
      refine g_ireti hR dX5_addToRow_51 rfl ?_
      clear hR hC hI
      subst hM3
      subst hM2
      refine pRf_i ?_ ?_ <;> (try simp +decide only [up2_row, up2_self, pk_us]) <;> grind [sp_addToRow, wi]
    · refine g_bipush (v := (-5)) hC dX5_addToRow_24 (by decide) ?_
      refine g_ireti hR dX5_addToRow_26 rfl ?_
      clear hR hC hI
      refine pRf_i ?_ ?_ <;> (try simp +decide only [up2_row, up2_self, pk_us]) <;> grind [sp_addToRow, wi]
  · refine g_bipush (v := (-3)) hC dX5_addToRow_12 (by decide) ?_
    refine g_ireti hR dX5_addToRow_14 rfl ?_
    clear hR hC hI
    refine pRf_i ?_ ?_ <;> (try simp +decide only [up2_row, up2_self, pk_us]) <;> grind [sp_addToRow, wi]

set_option maxHeartbeats 4000000 in
set_option maxRecDepth 100000 in
theorem c_X5_setTolerances (l : Launch) (X : gX) (b0 : Nat) (lo : gL) (M T : rM2) (e0 : gE) (a b : Int32) : Ct l X b0 lo (enR X lo M T e0) yX5_setTolerances cX5_setTolerances 4 (some FieldType.int) (rM 1 22) [.ref (lo 1000), .int a, .int b] (pRf X lo e0 (sp_setTolerances M a b)) := by
  refine gMet (by decide) (Nat.le_of_ble_eq_true rfl) rfl ?_
  intro Z hC hI hR
  refine g_iload_n hC dX5_setTolerances_0 rfl ?_
  refine g_iconst (v := 0) hC dX5_setTolerances_1 (by decide) ?_
  refine g_bipush (v := 50) hC dX5_setTolerances_2 (by decide) ?_
  refine g_callS hC v_X5_within km_X5_71 (c_X5_within l X b0 lo _ _ _ _) rfl rfl (Nat.le_of_ble_eq_true rfl) ⟨by decide, by decide⟩ ⟨by decide, by decide⟩ dX5_setTolerances_4 (kX ?_)
  refine g_if_eq (tgt := 20) hC dX5_setTolerances_7 (by decide) (fun c7 => ?_) (fun c7 => ?_)
  · refine g_bipush (v := (-3)) hC dX5_setTolerances_20 (by decide) ?_
    refine g_ireti hR dX5_setTolerances_22 rfl ?_
    clear hR hC hI
    refine pRf_i ?_ ?_ <;> (try simp +decide only [up2_row, up2_self, pk_us]) <;> grind [sp_setTolerances, wi]
  · refine g_iload_n hC dX5_setTolerances_10 rfl ?_
    refine g_iconst (v := 0) hC dX5_setTolerances_11 (by decide) ?_
    refine g_bipush (v := 100) hC dX5_setTolerances_12 (by decide) ?_
    refine g_callS hC v_X5_within km_X5_71 (c_X5_within l X b0 lo _ _ _ _) rfl rfl (Nat.le_of_ble_eq_true rfl) ⟨by decide, by decide⟩ ⟨by decide, by decide⟩ dX5_setTolerances_14 (kX ?_)
    refine g_if_ne (tgt := 23) hC dX5_setTolerances_17 (by decide) (fun c17 => ?_) (fun c17 => ?_)
    · refine g_iload_n hC dX5_setTolerances_23 rfl ?_
      refine g_aload_n hC dX5_setTolerances_24 rfl ?_
      refine g_get hC rfl rO rfl kl_X5 2 (by decide) kf_X5_13 rfl rfl dX5_setTolerances_25 ?_
      refine g_icmp_ne (tgt := 39) hC dX5_setTolerances_28 (by decide) (fun c28 => ?_) (fun c28 => ?_)
      · refine g_iconst (v := 1) hC dX5_setTolerances_39 (by decide) ?_
        refine g_goto (tgt := 44) hC dX5_setTolerances_40 (by decide) ?_
        refine g_istore_n hC dX5_setTolerances_44 (by decide) ?_
        refine g_aload_n hC dX5_setTolerances_45 rfl ?_
        refine g_iload_n hC dX5_setTolerances_46 rfl ?_
        refine g_put (ty := .int) hC rfl rO rfl kl_X5 2 (by decide) kf_X5_13 rfl tyX5 tyX5_ok nmX5 rfl (by decide +kernel) rfl rfl (Nat.le_of_ble_eq_true rfl) dX5_setTolerances_47 (fun en4 hen4 => ?_)
        replace hen4 := rP2 hen4
        obtain ⟨M4, hM4, hen4⟩ := hen4
        subst hen4
        refine g_aload_n hC dX5_setTolerances_50 rfl ?_
        refine g_iload_n hC dX5_setTolerances_51 rfl ?_
        refine g_put (ty := .int) hC rfl rO rfl kl_X5 3 (by decide) kf_X5_17 rfl tyX5 tyX5_ok nmX5 rfl (by decide +kernel) rfl rfl (Nat.le_of_ble_eq_true rfl) dX5_setTolerances_52 (fun en5 hen5 => ?_)
        replace hen5 := rP3 hen5
        obtain ⟨M5, hM5, hen5⟩ := hen5
        subst hen5
        refine g_iload_n hC dX5_setTolerances_55 rfl ?_
        refine g_if_eq (tgt := 63) hC dX5_setTolerances_56 (by decide) (fun c56 => ?_) (fun c56 => ?_)
        · refine g_iconst (v := 0) hC dX5_setTolerances_63 (by decide) ?_
          refine g_ireti hR dX5_setTolerances_64 rfl ?_
          clear hR hC hI
          subst hM5
          subst hM4
          refine pRf_i ?_ ?_ <;> (try simp +decide only [up2_row, up2_self, pk_us]) <;> grind [sp_setTolerances, wi]
        · refine g_iconst (v := 1) hC dX5_setTolerances_59 (by decide) ?_
          refine g_goto (tgt := 64) hC dX5_setTolerances_60 (by decide) ?_
          refine g_ireti hR dX5_setTolerances_64 rfl ?_
          clear hR hC hI
          subst hM5
          subst hM4
          refine pRf_i ?_ ?_ <;> (try simp +decide only [up2_row, up2_self, pk_us]) <;> grind [sp_setTolerances, wi]
      · refine g_iload_n hC dX5_setTolerances_31 rfl ?_
        refine g_aload_n hC dX5_setTolerances_32 rfl ?_
        refine g_get hC rfl rO rfl kl_X5 3 (by decide) kf_X5_17 rfl rfl dX5_setTolerances_33 ?_
        refine g_icmp_eq (tgt := 43) hC dX5_setTolerances_36 (by decide) (fun c36 => ?_) (fun c36 => ?_)
        · refine g_iconst (v := 0) hC dX5_setTolerances_43 (by decide) ?_
          refine g_istore_n hC dX5_setTolerances_44 (by decide) ?_
          refine g_aload_n hC dX5_setTolerances_45 rfl ?_
          refine g_iload_n hC dX5_setTolerances_46 rfl ?_
          refine g_put (ty := .int) hC rfl rO rfl kl_X5 2 (by decide) kf_X5_13 rfl tyX5 tyX5_ok nmX5 rfl (by decide +kernel) rfl rfl (Nat.le_of_ble_eq_true rfl) dX5_setTolerances_47 (fun en6 hen6 => ?_)
          replace hen6 := rP2 hen6
          obtain ⟨M6, hM6, hen6⟩ := hen6
          subst hen6
          refine g_aload_n hC dX5_setTolerances_50 rfl ?_
          refine g_iload_n hC dX5_setTolerances_51 rfl ?_
          refine g_put (ty := .int) hC rfl rO rfl kl_X5 3 (by decide) kf_X5_17 rfl tyX5 tyX5_ok nmX5 rfl (by decide +kernel) rfl rfl (Nat.le_of_ble_eq_true rfl) dX5_setTolerances_52 (fun en7 hen7 => ?_)
          replace hen7 := rP3 hen7
          obtain ⟨M7, hM7, hen7⟩ := hen7
          subst hen7
          refine g_iload_n hC dX5_setTolerances_55 rfl ?_
          refine g_if_eq (tgt := 63) hC dX5_setTolerances_56 (by decide) (fun c56 => ?_) (fun c56 => ?_)
          · refine g_iconst (v := 0) hC dX5_setTolerances_63 (by decide) ?_
            refine g_ireti hR dX5_setTolerances_64 rfl ?_
            clear hR hC hI
            subst hM7
            subst hM6
            refine pRf_i ?_ ?_ <;> (try simp +decide only [up2_row, up2_self, pk_us]) <;> grind [sp_setTolerances, wi]
          · refine g_iconst (v := 1) hC dX5_setTolerances_59 (by decide) ?_
            refine g_goto (tgt := 64) hC dX5_setTolerances_60 (by decide) ?_
            refine g_ireti hR dX5_setTolerances_64 rfl ?_
            clear hR hC hI
            subst hM7
            subst hM6
            refine pRf_i ?_ ?_ <;> (try simp +decide only [up2_row, up2_self, pk_us]) <;> grind [sp_setTolerances, wi]
        · refine g_iconst (v := 1) hC dX5_setTolerances_39 (by decide) ?_
          refine g_goto (tgt := 44) hC dX5_setTolerances_40 (by decide) ?_
          refine g_istore_n hC dX5_setTolerances_44 (by decide) ?_
          refine g_aload_n hC dX5_setTolerances_45 rfl ?_
          refine g_iload_n hC dX5_setTolerances_46 rfl ?_
          refine g_put (ty := .int) hC rfl rO rfl kl_X5 2 (by decide) kf_X5_13 rfl tyX5 tyX5_ok nmX5 rfl (by decide +kernel) rfl rfl (Nat.le_of_ble_eq_true rfl) dX5_setTolerances_47 (fun en8 hen8 => ?_)
          replace hen8 := rP2 hen8
          obtain ⟨M8, hM8, hen8⟩ := hen8
          subst hen8
          refine g_aload_n hC dX5_setTolerances_50 rfl ?_
          refine g_iload_n hC dX5_setTolerances_51 rfl ?_
          refine g_put (ty := .int) hC rfl rO rfl kl_X5 3 (by decide) kf_X5_17 rfl tyX5 tyX5_ok nmX5 rfl (by decide +kernel) rfl rfl (Nat.le_of_ble_eq_true rfl) dX5_setTolerances_52 (fun en9 hen9 => ?_)
          replace hen9 := rP3 hen9
          obtain ⟨M9, hM9, hen9⟩ := hen9
          subst hen9
          refine g_iload_n hC dX5_setTolerances_55 rfl ?_
          refine g_if_eq (tgt := 63) hC dX5_setTolerances_56 (by decide) (fun c56 => ?_) (fun c56 => ?_)
          · refine g_iconst (v := 0) hC dX5_setTolerances_63 (by decide) ?_
            refine g_ireti hR dX5_setTolerances_64 rfl ?_
            clear hR hC hI
            subst hM9
            subst hM8
            refine pRf_i ?_ ?_ <;> (try simp +decide only [up2_row, up2_self, pk_us]) <;> grind [sp_setTolerances, wi]
          · refine g_iconst (v := 1) hC dX5_setTolerances_59 (by decide) ?_
            refine g_goto (tgt := 64) hC dX5_setTolerances_60 (by decide) ?_
            refine g_ireti hR dX5_setTolerances_64 rfl ?_
            clear hR hC hI
            subst hM9
            subst hM8
            refine pRf_i ?_ ?_ <;> (try simp +decide only [up2_row, up2_self, pk_us]) <;> grind [sp_setTolerances, wi]
    · refine g_bipush (v := (-3)) hC dX5_setTolerances_20 (by decide) ?_
      refine g_ireti hR dX5_setTolerances_22 rfl ?_
      clear hR hC hI
      refine pRf_i ?_ ?_ <;> (try simp +decide only [up2_row, up2_self, pk_us]) <;> grind [sp_setTolerances, wi]

set_option maxHeartbeats 4000000 in
set_option maxRecDepth 100000 in
theorem c_X5_noMould (l : Launch) (X : gX) (b0 : Nat) (lo : gL) (M T : rM2) (e0 : gE) (p : Int32) : Ct l X b0 lo (enR X lo M T e0) yX5_noMould cX5_noMould 2 (some FieldType.boolean) (rM 1 22) [.ref (lo 1000), .int p] (pX (.int (if isMo M p then 0 else 1)) lo (enR X lo M T e0)) := by
  refine gMet (by decide) (Nat.le_of_ble_eq_true rfl) rfl ?_
  intro Z hC hI hR
  refine g_iload_n hC dX5_noMould_0 rfl ?_
  refine g_iconst (v := 0) hC dX5_noMould_1 (by decide) ?_
  refine g_aload_n hC dX5_noMould_2 rfl ?_
  refine g_get hC rfl rO rfl kl_X5 4 (by decide) kf_X5_75 rfl rfl dX5_noMould_3 ?_
  refine g_iconst (v := 1) hC dX5_noMould_6 (by decide) ?_
  refine g_isub hC dX5_noMould_7 ?_
  refine g_callS hC v_X5_within km_X5_71 (c_X5_within l X b0 lo _ _ _ _) rfl rfl (Nat.le_of_ble_eq_true rfl) ⟨by decide, by decide⟩ ⟨by decide, by decide⟩ dX5_noMould_8 (kX ?_)
  refine g_if_ne (tgt := 18) hC dX5_noMould_11 (by decide) (fun c11 => ?_) (fun c11 => ?_)
  · refine g_iconst (v := 0) hC dX5_noMould_18 (by decide) ?_
    refine g_ireti hR dX5_noMould_19 (by decide) ?_
    clear hR hC hI
    refine pXi ?_
    grind [wi]
  · refine g_iconst (v := 1) hC dX5_noMould_14 (by decide) ?_
    refine g_goto (tgt := 19) hC dX5_noMould_15 (by decide) ?_
    refine g_ireti hR dX5_noMould_19 (by decide) ?_
    clear hR hC hI
    refine pXi ?_
    grind [wi]

set_option maxHeartbeats 4000000 in
set_option maxRecDepth 100000 in
theorem c_X5_noSheet (l : Launch) (X : gX) (b0 : Nat) (lo : gL) (M T : rM2) (e0 : gE) (p : Int32) : Ct l X b0 lo (enR X lo M T e0) yX5_noSheet cX5_noSheet 2 (some FieldType.boolean) (rM 1 22) [.ref (lo 1000), .int p] (pX (.int (if isSh M p then 0 else 1)) lo (enR X lo M T e0)) := by
  refine gMet (by decide) (Nat.le_of_ble_eq_true rfl) rfl ?_
  intro Z hC hI hR
  refine g_iload_n hC dX5_noSheet_0 rfl ?_
  refine g_iconst (v := 0) hC dX5_noSheet_1 (by decide) ?_
  refine g_aload_n hC dX5_noSheet_2 rfl ?_
  refine g_get hC rfl rO rfl kl_X5 11 (by decide) kf_X5_99 rfl rfl dX5_noSheet_3 ?_
  refine g_iconst (v := 1) hC dX5_noSheet_6 (by decide) ?_
  refine g_isub hC dX5_noSheet_7 ?_
  refine g_callS hC v_X5_within km_X5_71 (c_X5_within l X b0 lo _ _ _ _) rfl rfl (Nat.le_of_ble_eq_true rfl) ⟨by decide, by decide⟩ ⟨by decide, by decide⟩ dX5_noSheet_8 (kX ?_)
  refine g_if_ne (tgt := 18) hC dX5_noSheet_11 (by decide) (fun c11 => ?_) (fun c11 => ?_)
  · refine g_iconst (v := 0) hC dX5_noSheet_18 (by decide) ?_
    refine g_ireti hR dX5_noSheet_19 (by decide) ?_
    clear hR hC hI
    refine pXi ?_
    grind [wi]
  · refine g_iconst (v := 1) hC dX5_noSheet_14 (by decide) ?_
    refine g_goto (tgt := 19) hC dX5_noSheet_15 (by decide) ?_
    refine g_ireti hR dX5_noSheet_19 (by decide) ?_
    clear hR hC hI
    refine pXi ?_
    grind [wi]

set_option maxHeartbeats 4000000 in
set_option maxRecDepth 100000 in
theorem c_X5_isMark (l : Launch) (X : gX) (b0 : Nat) (lo : gL) (M T : rM2) (e0 : gE) (hM : Iv M) (iv x y : Int32) : Ct l X b0 lo (enR X lo M T e0) yX5_isMark cX5_isMark 4 (some FieldType.boolean) (rM 1 22) [.ref (lo 1000), .int iv, .int x, .int y] (pX (.int (if isMk M iv x y then 1 else 0)) lo (enR X lo M T e0)) := by
  refine gMet (by decide) (Nat.le_of_ble_eq_true rfl) rfl ?_
  intro Z hC hI hR
  obtain ⟨⟨hr0, hr1⟩, -⟩ := hM
  refine g_iload_n hC dX5_isMark_0 rfl ?_
  refine g_iconst (v := 0) hC dX5_isMark_1 (by decide) ?_
  refine g_aload_n hC dX5_isMark_2 rfl ?_
  refine g_get hC rfl rO rfl kl_X5 1 (by decide) kf_X5_68 rfl rfl dX5_isMark_3 ?_
  refine g_iconst (v := 1) hC dX5_isMark_6 (by decide) ?_
  refine g_isub hC dX5_isMark_7 ?_
  refine g_callS hC v_X5_within km_X5_71 (c_X5_within l X b0 lo _ _ _ _) rfl rfl (Nat.le_of_ble_eq_true rfl) ⟨by decide, by decide⟩ ⟨by decide, by decide⟩ dX5_isMark_8 (kX ?_)
  refine g_if_eq (tgt := 43) hC dX5_isMark_11 (by decide) (fun c11 => ?_) (fun c11 => ?_)
  · refine g_iconst (v := 0) hC dX5_isMark_43 (by decide) ?_
    refine g_ireti hR dX5_isMark_44 (by decide) ?_
    clear hR hC hI
    refine pXi ?_
    grind [wi]
  · refine g_iload_n hC dX5_isMark_14 rfl ?_
    refine g_iconst (v := 0) hC dX5_isMark_15 (by decide) ?_
    refine g_aload_n hC dX5_isMark_16 rfl ?_
    refine g_get hC rfl rO rfl kl_X5 0 (by decide) kf_X5_7 rfl rfl dX5_isMark_17 ?_
    refine g_iload_n hC dX5_isMark_20 rfl ?_
    refine g_iald hC rfl rA1001 (nt iv) (nI_nt (wi_ne c11).1).symm (nt_lt (n := 10) (show iv < 10 by have := (wi_ne c11).2; grind) (wi_ne c11).1 (by decide)) (by decide) dX5_isMark_21 ?_
    refine g_callS hC v_X5_within km_X5_71 (c_X5_within l X b0 lo _ _ _ _) rfl rfl (Nat.le_of_ble_eq_true rfl) ⟨by decide, by decide⟩ ⟨by decide, by decide⟩ dX5_isMark_22 (kX ?_)
    refine g_if_eq (tgt := 43) hC dX5_isMark_25 (by decide) (fun c25 => ?_) (fun c25 => ?_)
    · refine g_iconst (v := 0) hC dX5_isMark_43 (by decide) ?_
      refine g_ireti hR dX5_isMark_44 (by decide) ?_
      clear hR hC hI
      refine pXi ?_
      grind [wi]
    · refine g_iload_n hC dX5_isMark_28 rfl ?_
      refine g_iconst (v := 0) hC dX5_isMark_29 (by decide) ?_
      refine g_sipush (v := 300) hC dX5_isMark_30 (by decide) ?_
      refine g_callS hC v_X5_within km_X5_71 (c_X5_within l X b0 lo _ _ _ _) rfl rfl (Nat.le_of_ble_eq_true rfl) ⟨by decide, by decide⟩ ⟨by decide, by decide⟩ dX5_isMark_33 (kX ?_)
      refine g_if_eq (tgt := 43) hC dX5_isMark_36 (by decide) (fun c36 => ?_) (fun c36 => ?_)
      · refine g_iconst (v := 0) hC dX5_isMark_43 (by decide) ?_
        refine g_ireti hR dX5_isMark_44 (by decide) ?_
        clear hR hC hI
        refine pXi ?_
        grind [wi]
      · refine g_iconst (v := 1) hC dX5_isMark_39 (by decide) ?_
        refine g_goto (tgt := 44) hC dX5_isMark_40 (by decide) ?_
        refine g_ireti hR dX5_isMark_44 (by decide) ?_
        clear hR hC hI
        refine pXi ?_
        grind [wi]

set_option maxHeartbeats 4000000 in
set_option maxRecDepth 100000 in
theorem c_X5_putState (l : Launch) (X : gX) (b0 : Nat) (lo : gL) (M T : rM2) (e0 : gE) (i : Nat) (hi : i < 10) (q : Nat) (hq : q < 6) (eq : M 4 i = nI q) (x y : Int32) : Ct l X b0 lo (enR X lo M T e0) yX5_putState cX5_putState 4 none (rM 0 0) [.ref (lo 1000), .int (nI i), .int x, .int y] (pV lo (fun en' => en' = enR X lo (psM M i x y) T e0)) := by
  refine gMet (by decide) (Nat.le_of_ble_eq_true rfl) rfl ?_
  intro Z hC hI hR
  have hq2 : nt (M 4 i) = q := by rw [eq]; exact nt_nI (by omega)
  refine g_aload_n hC dX5_putState_0 rfl ?_
  refine g_get hC rfl rO rfl kl_X5 9 (by decide) kf_X5_32 rfl rfl dX5_putState_1 ?_
  refine g_bipush (v := 6) hC dX5_putState_4 (by decide) ?_
  refine g_iload_n hC dX5_putState_6 rfl ?_
  refine g_imul hC dX5_putState_7 ?_
  refine g_aload_n hC dX5_putState_8 rfl ?_
  refine g_get hC rfl rO rfl kl_X5 8 (by decide) kf_X5_29 rfl rfl dX5_putState_9 ?_
  refine g_iload_n hC dX5_putState_12 rfl ?_
  refine g_iald hC rfl rA1005 i rfl hi (by decide) dX5_putState_13 ?_
  refine g_iadd hC dX5_putState_14 ?_
  refine g_iload_n hC dX5_putState_15 rfl ?_
  refine g_iast hC rfl rA1006 (6 * i + q) (ix6 rfl eq) (by omega) (by decide) dX5_putState_16 (fun en10 hen10 => ?_)
  replace hen10 := rQ1006 hen10
  obtain ⟨M10, hM10, hen10⟩ := hen10
  subst hen10
  refine g_aload_n hC dX5_putState_17 rfl ?_
  refine g_get hC rfl rO rfl kl_X5 10 (by decide) kf_X5_35 rfl rfl dX5_putState_18 ?_
  refine g_bipush (v := 6) hC dX5_putState_21 (by decide) ?_
  refine g_iload_n hC dX5_putState_23 rfl ?_
  refine g_imul hC dX5_putState_24 ?_
  refine g_aload_n hC dX5_putState_25 rfl ?_
  refine g_get hC rfl rO rfl kl_X5 8 (by decide) kf_X5_29 rfl rfl dX5_putState_26 ?_
  refine g_iload_n hC dX5_putState_29 rfl ?_
  refine g_iald hC rfl rA1005 i rfl hi (by decide) dX5_putState_30 ?_
  refine g_iadd hC dX5_putState_31 ?_
  refine g_iload_n hC dX5_putState_32 rfl ?_
  refine g_iast hC rfl rA1007 (6 * i + q) (ix6 rfl (by rw [hM10]; simp [up2]; exact eq)) (by omega) (by decide) dX5_putState_33 (fun en11 hen11 => ?_)
  replace hen11 := rQ1007 hen11
  obtain ⟨M11, hM11, hen11⟩ := hen11
  subst hen11
  refine g_aload_n hC dX5_putState_34 rfl ?_
  refine g_get hC rfl rO rfl kl_X5 8 (by decide) kf_X5_29 rfl rfl dX5_putState_35 ?_
  refine g_iload_n hC dX5_putState_38 rfl ?_
  refine g_dup2 hC dX5_putState_39 rfl rfl ?_
  refine g_iald hC rfl rA1005 i rfl hi (by decide) dX5_putState_40 ?_
  refine g_iconst (v := 1) hC dX5_putState_41 (by decide) ?_
  refine g_iadd hC dX5_putState_42 ?_
  refine g_iast hC rfl rA1005 i rfl hi (by decide) dX5_putState_43 (fun en12 hen12 => ?_)
  replace hen12 := rQ1005 hen12
  obtain ⟨M12, hM12, hen12⟩ := hen12
  subst hen12
  refine g_retv hR dX5_putState_44 ?_
  clear hR hC hI
  subst hM12
  subst hM11
  subst hM10
  refine ⟨rfl, rfl, ?_⟩
  show _ = enR X lo (psM M i x y) T e0
  unfold psM
  rw [hq2]
  simp +decide only [up2_row]

set_option maxHeartbeats 4000000 in
set_option maxRecDepth 100000 in
theorem c_X5_count (l : Launch) (X : gX) (b0 : Nat) (lo : gL) (M T : rM2) (e0 : gE) (w : Int32) : Ct l X b0 lo (enR X lo M T e0) yX5_count cX5_count 2 (some FieldType.int) (rM 0 0) [.ref (lo 1000), .int w] (pRf X lo e0 (sp_count M w)) := by
  refine gMet (by decide) (Nat.le_of_ble_eq_true rfl) rfl ?_
  intro Z hC hI hR
  refine g_iload_n hC dX5_count_0 rfl ?_
  refine g_if_ne (tgt := 11) hC dX5_count_1 (by decide) (fun c1 => ?_) (fun c1 => ?_)
  · refine g_iload_n hC dX5_count_11 rfl ?_
    refine g_iconst (v := 1) hC dX5_count_12 (by decide) ?_
    refine g_icmp_ne (tgt := 23) hC dX5_count_13 (by decide) (fun c13 => ?_) (fun c13 => ?_)
    · refine g_iload_n hC dX5_count_23 rfl ?_
      refine g_iconst (v := 2) hC dX5_count_24 (by decide) ?_
      refine g_icmp_ne (tgt := 35) hC dX5_count_25 (by decide) (fun c25 => ?_) (fun c25 => ?_)
      · refine g_bipush (v := (-3)) hC dX5_count_35 (by decide) ?_
        refine g_ireti hR dX5_count_37 rfl ?_
        clear hR hC hI
        refine pRf_i ?_ ?_ <;> (try simp +decide only [up2_row, up2_self, pk_us]) <;> grind [sp_count]
      · refine g_aload_n hC dX5_count_28 rfl ?_
        refine g_get hC rfl rO rfl kl_X5 1 (by decide) kf_X5_68 rfl rfl dX5_count_29 ?_
        refine g_goto (tgt := 37) hC dX5_count_32 (by decide) ?_
        refine g_ireti hR dX5_count_37 rfl ?_
        clear hR hC hI
        refine pRf_i ?_ ?_ <;> (try simp +decide only [up2_row, up2_self, pk_us]) <;> grind [sp_count]
    · refine g_aload_n hC dX5_count_16 rfl ?_
      refine g_get hC rfl rO rfl kl_X5 11 (by decide) kf_X5_99 rfl rfl dX5_count_17 ?_
      refine g_goto (tgt := 37) hC dX5_count_20 (by decide) ?_
      refine g_ireti hR dX5_count_37 rfl ?_
      clear hR hC hI
      refine pRf_i ?_ ?_ <;> (try simp +decide only [up2_row, up2_self, pk_us]) <;> grind [sp_count]
  · refine g_aload_n hC dX5_count_4 rfl ?_
    refine g_get hC rfl rO rfl kl_X5 4 (by decide) kf_X5_75 rfl rfl dX5_count_5 ?_
    refine g_goto (tgt := 37) hC dX5_count_8 (by decide) ?_
    refine g_ireti hR dX5_count_37 rfl ?_
    clear hR hC hI
    refine pRf_i ?_ ?_ <;> (try simp +decide only [up2_row, up2_self, pk_us]) <;> grind [sp_count]

set_option maxHeartbeats 4000000 in
set_option maxRecDepth 100000 in
theorem c_X5_stateCount (l : Launch) (X : gX) (b0 : Nat) (lo : gL) (M T : rM2) (e0 : gE) (hM : Iv M) (p : Int32) : Ct l X b0 lo (enR X lo M T e0) yX5_stateCount cX5_stateCount 2 (some FieldType.int) (rM 2 43) [.ref (lo 1000), .int p] (pRf X lo e0 (sp_stateCount M p)) := by
  refine gMet (by decide) (Nat.le_of_ble_eq_true rfl) rfl ?_
  intro Z hC hI hR
  refine g_aload_n hC dX5_stateCount_0 rfl ?_
  refine g_iload_n hC dX5_stateCount_1 rfl ?_
  refine g_callV hC v_X5_noMould km_X5_85 (c_X5_noMould l X b0 lo _ _ e0 _) rfl rO rfl rfl rfl rfl (Nat.le_of_ble_eq_true rfl) ⟨by decide, by decide⟩ ⟨by decide, by decide⟩ dX5_stateCount_2 (kX ?_)
  refine g_if_eq (tgt := 12) hC dX5_stateCount_5 (by decide) (fun c5 => ?_) (fun c5 => ?_)
  · have hp := ite_eq c5
    obtain ⟨i, hi, rfl, -⟩ := moOf hM hp
    have hi2 : nt (nI i) = i := nt_nI (by omega)
    refine g_aload_n hC dX5_stateCount_12 rfl ?_
    refine g_get hC rfl rO rfl kl_X5 8 (by decide) kf_X5_29 rfl rfl dX5_stateCount_13 ?_
    refine g_iload_n hC dX5_stateCount_16 rfl ?_
    refine g_iald hC rfl rA1005 i rfl hi (by decide) dX5_stateCount_17 ?_
    refine g_ireti hR dX5_stateCount_18 rfl ?_
    clear hR hC hI
    refine pRf_i ?_ ?_ <;> (try simp +decide only [up2_row, up2_self, pk_us]) <;> grind [sp_stateCount]
  · refine g_iconst (v := (-1)) hC dX5_stateCount_8 (by decide) ?_
    refine g_goto (tgt := 18) hC dX5_stateCount_9 (by decide) ?_
    refine g_ireti hR dX5_stateCount_18 rfl ?_
    clear hR hC hI
    refine pRf_i ?_ ?_ <;> (try simp +decide only [up2_row, up2_self, pk_us]) <;> grind [sp_stateCount]

set_option maxHeartbeats 4000000 in
set_option maxRecDepth 100000 in
theorem c_X5_removeState (l : Launch) (X : gX) (b0 : Nat) (lo : gL) (M T : rM2) (e0 : gE) (hM : Iv M) (p : Int32) : Ct l X b0 lo (enR X lo M T e0) yX5_removeState cX5_removeState 2 (some FieldType.int) (rM 2 43) [.ref (lo 1000), .int p] (pRf X lo e0 (sp_removeState M p)) := by
  refine gMet (by decide) (Nat.le_of_ble_eq_true rfl) rfl ?_
  intro Z hC hI hR
  refine g_aload_n hC dX5_removeState_0 rfl ?_
  refine g_iload_n hC dX5_removeState_1 rfl ?_
  refine g_callV hC v_X5_noMould km_X5_85 (c_X5_noMould l X b0 lo _ _ e0 _) rfl rO rfl rfl rfl rfl (Nat.le_of_ble_eq_true rfl) ⟨by decide, by decide⟩ ⟨by decide, by decide⟩ dX5_removeState_2 (kX ?_)
  refine g_if_eq (tgt := 10) hC dX5_removeState_5 (by decide) (fun c5 => ?_) (fun c5 => ?_)
  · have hp := ite_eq c5
    obtain ⟨i, hi, rfl, hin, -⟩ := moOf hM hp
    have hi2 : nt (nI i) = i := nt_nI (by omega)
    have hMi := hM.2.2.2.2.2.2.1 i hin
    refine g_aload_n hC dX5_removeState_10 rfl ?_
    refine g_get hC rfl rO rfl kl_X5 8 (by decide) kf_X5_29 rfl rfl dX5_removeState_11 ?_
    refine g_iload_n hC dX5_removeState_14 rfl ?_
    refine g_iald hC rfl rA1005 i rfl hi (by decide) dX5_removeState_15 ?_
    refine g_iconst (v := 1) hC dX5_removeState_16 (by decide) ?_
    refine g_icmp_ne (tgt := 23) hC dX5_removeState_17 (by decide) (fun c17 => ?_) (fun c17 => ?_)
    · refine g_aload_n hC dX5_removeState_23 rfl ?_
      refine g_get hC rfl rO rfl kl_X5 8 (by decide) kf_X5_29 rfl rfl dX5_removeState_24 ?_
      refine g_iload_n hC dX5_removeState_27 rfl ?_
      refine g_dup2 hC dX5_removeState_28 rfl rfl ?_
      refine g_iald hC rfl rA1005 i rfl hi (by decide) dX5_removeState_29 ?_
      refine g_iconst (v := 1) hC dX5_removeState_30 (by decide) ?_
      refine g_isub hC dX5_removeState_31 ?_
      refine g_iast hC rfl rA1005 i rfl hi (by decide) dX5_removeState_32 (fun en13 hen13 => ?_)
      replace hen13 := rQ1005 hen13
      obtain ⟨M13, hM13, hen13⟩ := hen13
      subst hen13
      refine g_aload_n hC dX5_removeState_33 rfl ?_
      refine g_get hC rfl rO rfl kl_X5 8 (by decide) kf_X5_29 rfl rfl dX5_removeState_34 ?_
      refine g_iload_n hC dX5_removeState_37 rfl ?_
      refine g_iald hC rfl rA1005 i rfl hi (by decide) dX5_removeState_38 ?_
      refine g_ireti hR dX5_removeState_39 rfl ?_
      clear hR hC hI
      subst hM13
      refine pRf_i ?_ ?_ <;> (try simp +decide only [up2_row, up2_self, pk_us]) <;> grind [sp_removeState]
    · refine g_bipush (v := (-6)) hC dX5_removeState_20 (by decide) ?_
      refine g_ireti hR dX5_removeState_22 rfl ?_
      clear hR hC hI
      refine pRf_i ?_ ?_ <;> (try simp +decide only [up2_row, up2_self, pk_us]) <;> grind [sp_removeState]
  · refine g_iconst (v := (-1)) hC dX5_removeState_8 (by decide) ?_
    refine g_ireti hR dX5_removeState_9 rfl ?_
    clear hR hC hI
    refine pRf_i ?_ ?_ <;> (try simp +decide only [up2_row, up2_self, pk_us]) <;> grind [sp_removeState]

set_option maxHeartbeats 4000000 in
set_option maxRecDepth 100000 in
theorem c_X5_addState (l : Launch) (X : gX) (b0 : Nat) (lo : gL) (M T : rM2) (e0 : gE) (hM : Iv M) (p x y : Int32) : Ct l X b0 lo (enR X lo M T e0) yX5_addState cX5_addState 4 (some FieldType.int) (rM 2 43) [.ref (lo 1000), .int p, .int x, .int y] (pRf X lo e0 (sp_addState M p x y)) := by
  refine gMet (by decide) (Nat.le_of_ble_eq_true rfl) rfl ?_
  intro Z hC hI hR
  refine g_aload_n hC dX5_addState_0 rfl ?_
  refine g_iload_n hC dX5_addState_1 rfl ?_
  refine g_callV hC v_X5_noMould km_X5_85 (c_X5_noMould l X b0 lo _ _ e0 _) rfl rO rfl rfl rfl rfl (Nat.le_of_ble_eq_true rfl) ⟨by decide, by decide⟩ ⟨by decide, by decide⟩ dX5_addState_2 (kX ?_)
  refine g_if_eq (tgt := 10) hC dX5_addState_5 (by decide) (fun c5 => ?_) (fun c5 => ?_)
  · have hp := ite_eq c5
    obtain ⟨i, hi, rfl, hin, -⟩ := moOf hM hp
    have hi2 : nt (nI i) = i := nt_nI (by omega)
    have hMi := hM.2.2.2.2.2.2.1 i hin
    obtain ⟨t, ht, et⟩ := natOf (n := 9) (b := 9) ⟨hMi.2.1.1, by have := hMi.2.1.2; have := hMi.1.2; grind⟩ rfl (by decide)
    have ht2 : nt (M 3 i) = t := by rw [et]; exact nt_nI (by omega)
    refine g_iload_n hC dX5_addState_10 rfl ?_
    refine g_iconst (v := 0) hC dX5_addState_11 (by decide) ?_
    refine g_aload_n hC dX5_addState_12 rfl ?_
    refine g_get hC rfl rO rfl kl_X5 6 (by decide) kf_X5_23 rfl rfl dX5_addState_13 ?_
    refine g_bipush (v := 10) hC dX5_addState_16 (by decide) ?_
    refine g_iload_n hC dX5_addState_18 rfl ?_
    refine g_imul hC dX5_addState_19 ?_
    refine g_aload_n hC dX5_addState_20 rfl ?_
    refine g_get hC rfl rO rfl kl_X5 7 (by decide) kf_X5_26 rfl rfl dX5_addState_21 ?_
    refine g_iload_n hC dX5_addState_24 rfl ?_
    refine g_iald hC rfl rA1004 i rfl hi (by decide) dX5_addState_25 ?_
    refine g_iadd hC dX5_addState_26 ?_
    refine g_iald hC rfl rA1003 (10 * i + t) (ix10 rfl et) (by omega) (by decide) dX5_addState_27 ?_
    refine g_callS hC v_X5_within km_X5_71 (c_X5_within l X b0 lo _ _ _ _) rfl rfl (Nat.le_of_ble_eq_true rfl) ⟨by decide, by decide⟩ ⟨by decide, by decide⟩ dX5_addState_28 (kX ?_)
    refine g_if_eq (tgt := 45) hC dX5_addState_31 (by decide) (fun c31 => ?_) (fun c31 => ?_)
    · refine g_bipush (v := (-3)) hC dX5_addState_45 (by decide) ?_
      refine g_ireti hR dX5_addState_47 rfl ?_
      clear hR hC hI
      refine pRf_i ?_ ?_ <;> (try simp +decide only [up2_row, up2_self, pk_us]) <;> grind [sp_addState, wi]
    · refine g_iload_n hC dX5_addState_34 rfl ?_
      refine g_iconst (v := 0) hC dX5_addState_35 (by decide) ?_
      refine g_sipush (v := 300) hC dX5_addState_36 (by decide) ?_
      refine g_callS hC v_X5_within km_X5_71 (c_X5_within l X b0 lo _ _ _ _) rfl rfl (Nat.le_of_ble_eq_true rfl) ⟨by decide, by decide⟩ ⟨by decide, by decide⟩ dX5_addState_39 (kX ?_)
      refine g_if_ne (tgt := 48) hC dX5_addState_42 (by decide) (fun c42 => ?_) (fun c42 => ?_)
      · refine g_aload_n hC dX5_addState_48 rfl ?_
        refine g_get hC rfl rO rfl kl_X5 8 (by decide) kf_X5_29 rfl rfl dX5_addState_49 ?_
        refine g_iload_n hC dX5_addState_52 rfl ?_
        refine g_iald hC rfl rA1005 i rfl hi (by decide) dX5_addState_53 ?_
        refine g_bipush (v := 6) hC dX5_addState_54 (by decide) ?_
        refine g_icmp_ne (tgt := 62) hC dX5_addState_56 (by decide) (fun c56 => ?_) (fun c56 => ?_)
        · obtain ⟨q, hq, eq⟩ := natOf (n := 5) (b := 5) (x := M 4 i) ⟨by have := hMi.2.2.1.1; grind, by have := hMi.2.2.1.2; grind⟩ rfl (by decide)
          refine g_aload_n hC dX5_addState_62 rfl ?_
          refine g_iload_n hC dX5_addState_63 rfl ?_
          refine g_iload_n hC dX5_addState_64 rfl ?_
          refine g_iload_n hC dX5_addState_65 rfl ?_
          refine g_callV hC v_X5_putState km_X5_81 (c_X5_putState l X b0 lo _ _ e0 i hi q (by omega) eq _ _) rfl rO rfl rfl rfl rfl (Nat.le_of_ble_eq_true rfl) ⟨by decide, by decide⟩ ⟨by decide, by decide⟩ dX5_addState_66 (kV ?_)
          rintro en' rfl
          refine g_aload_n hC dX5_addState_69 rfl ?_
          refine g_get hC rfl rO rfl kl_X5 8 (by decide) kf_X5_29 rfl rfl dX5_addState_70 ?_
          refine g_iload_n hC dX5_addState_73 rfl ?_
          refine g_iald hC rfl rA1005 i rfl hi (by decide) dX5_addState_74 ?_
          refine g_iconst (v := 1) hC dX5_addState_75 (by decide) ?_
          refine g_isub hC dX5_addState_76 ?_
          refine g_ireti hR dX5_addState_77 rfl ?_
          clear hR hC hI
          have hps : psM M i x y 4 i = M 4 i + 1 := by simp +decide only [psM, up2_self, pk_us]
          refine pRf_i ?_ ?_ <;> (try simp +decide only [up2_row, up2_self, pk_us]) <;> grind [sp_addState, wi]
        · refine g_bipush (v := (-5)) hC dX5_addState_59 (by decide) ?_
          refine g_ireti hR dX5_addState_61 rfl ?_
          clear hR hC hI
          refine pRf_i ?_ ?_ <;> (try simp +decide only [up2_row, up2_self, pk_us]) <;> grind [sp_addState, wi]
      · refine g_bipush (v := (-3)) hC dX5_addState_45 (by decide) ?_
        refine g_ireti hR dX5_addState_47 rfl ?_
        clear hR hC hI
        refine pRf_i ?_ ?_ <;> (try simp +decide only [up2_row, up2_self, pk_us]) <;> grind [sp_addState, wi]
  · refine g_iconst (v := (-1)) hC dX5_addState_8 (by decide) ?_
    refine g_ireti hR dX5_addState_9 rfl ?_
    clear hR hC hI
    refine pRf_i ?_ ?_ <;> (try simp +decide only [up2_row, up2_self, pk_us]) <;> grind [sp_addState, wi]

set_option maxHeartbeats 4000000 in
set_option maxRecDepth 100000 in
theorem c_X5_setDates (l : Launch) (X : gX) (b0 : Nat) (lo : gL) (M T : rM2) (e0 : gE) (hM : Iv M) (p a b : Int32) : Ct l X b0 lo (enR X lo M T e0) yX5_setDates cX5_setDates 5 (some FieldType.int) (rM 2 43) [.ref (lo 1000), .int p, .int a, .int b] (pRf X lo e0 (sp_setDates M p a b)) := by
  refine gMet (by decide) (Nat.le_of_ble_eq_true rfl) rfl ?_
  intro Z hC hI hR
  refine g_aload_n hC dX5_setDates_0 rfl ?_
  refine g_iload_n hC dX5_setDates_1 rfl ?_
  refine g_callV hC v_X5_noSheet km_X5_102 (c_X5_noSheet l X b0 lo _ _ e0 _) rfl rO rfl rfl rfl rfl (Nat.le_of_ble_eq_true rfl) ⟨by decide, by decide⟩ ⟨by decide, by decide⟩ dX5_setDates_2 (kX ?_)
  refine g_if_eq (tgt := 11) hC dX5_setDates_5 (by decide) (fun c5 => ?_) (fun c5 => ?_)
  · have hp := ite_eq c5
    obtain ⟨i, hi, rfl, hin, -⟩ := shOf hM hp
    have hi2 : nt (nI i) = i := nt_nI (by omega)
    refine g_iload_n hC dX5_setDates_11 rfl ?_
    refine g_iconst (v := 0) hC dX5_setDates_12 (by decide) ?_
    refine g_sipush (v := 9999) hC dX5_setDates_13 (by decide) ?_
    refine g_callS hC v_X5_within km_X5_71 (c_X5_within l X b0 lo _ _ _ _) rfl rfl (Nat.le_of_ble_eq_true rfl) ⟨by decide, by decide⟩ ⟨by decide, by decide⟩ dX5_setDates_16 (kX ?_)
    refine g_if_eq (tgt := 33) hC dX5_setDates_19 (by decide) (fun c19 => ?_) (fun c19 => ?_)
    · refine g_bipush (v := (-3)) hC dX5_setDates_33 (by decide) ?_
      refine g_ireti hR dX5_setDates_35 rfl ?_
      clear hR hC hI
      refine pRf_i ?_ ?_ <;> (try simp +decide only [up2_row, up2_self, pk_us]) <;> grind [sp_setDates, wi]
    · refine g_iload_n hC dX5_setDates_22 rfl ?_
      refine g_iload_n hC dX5_setDates_23 rfl ?_
      refine g_sipush (v := 9999) hC dX5_setDates_24 (by decide) ?_
      refine g_callS hC v_X5_within km_X5_71 (c_X5_within l X b0 lo _ _ _ _) rfl rfl (Nat.le_of_ble_eq_true rfl) ⟨by decide, by decide⟩ ⟨by decide, by decide⟩ dX5_setDates_27 (kX ?_)
      refine g_if_ne (tgt := 36) hC dX5_setDates_30 (by decide) (fun c30 => ?_) (fun c30 => ?_)
      · refine g_iload_n hC dX5_setDates_36 rfl ?_
        refine g_aload_n hC dX5_setDates_37 rfl ?_
        refine g_get hC rfl rO rfl kl_X5 17 (by decide) kf_X5_53 rfl rfl dX5_setDates_38 ?_
        refine g_iload_n hC dX5_setDates_41 rfl ?_
        refine g_iald hC rfl rA1013 i rfl hi (by decide) dX5_setDates_42 ?_
        refine g_icmp_ne (tgt := 56) hC dX5_setDates_43 (by decide) (fun c43 => ?_) (fun c43 => ?_)
        · refine g_iconst (v := 1) hC dX5_setDates_56 (by decide) ?_
          refine g_goto (tgt := 61) hC dX5_setDates_57 (by decide) ?_
          refine g_istore hC dX5_setDates_61 (by decide) ?_
          refine g_aload_n hC dX5_setDates_63 rfl ?_
          refine g_get hC rfl rO rfl kl_X5 17 (by decide) kf_X5_53 rfl rfl dX5_setDates_64 ?_
          refine g_iload_n hC dX5_setDates_67 rfl ?_
          refine g_iload_n hC dX5_setDates_68 rfl ?_
          refine g_iast hC rfl rA1013 i rfl hi (by decide) dX5_setDates_69 (fun en14 hen14 => ?_)
          replace hen14 := rQ1013 hen14
          obtain ⟨M14, hM14, hen14⟩ := hen14
          subst hen14
          refine g_aload_n hC dX5_setDates_70 rfl ?_
          refine g_get hC rfl rO rfl kl_X5 18 (by decide) kf_X5_56 rfl rfl dX5_setDates_71 ?_
          refine g_iload_n hC dX5_setDates_74 rfl ?_
          refine g_iload_n hC dX5_setDates_75 rfl ?_
          refine g_iast hC rfl rA1014 i rfl hi (by decide) dX5_setDates_76 (fun en15 hen15 => ?_)
          replace hen15 := rQ1014 hen15
          obtain ⟨M15, hM15, hen15⟩ := hen15
          subst hen15
          refine g_iload hC dX5_setDates_77 rfl ?_
          refine g_if_eq (tgt := 86) hC dX5_setDates_79 (by decide) (fun c79 => ?_) (fun c79 => ?_)
          · refine g_iconst (v := 0) hC dX5_setDates_86 (by decide) ?_
            refine g_ireti hR dX5_setDates_87 rfl ?_
            clear hR hC hI
            subst hM15
            subst hM14
            refine pRf_i ?_ ?_ <;> (try simp +decide only [up2_row, up2_self, pk_us]) <;> grind [sp_setDates, wi]
          · refine g_iconst (v := 1) hC dX5_setDates_82 (by decide) ?_
            refine g_goto (tgt := 87) hC dX5_setDates_83 (by decide) ?_
            refine g_ireti hR dX5_setDates_87 rfl ?_
            clear hR hC hI
            subst hM15
            subst hM14
            refine pRf_i ?_ ?_ <;> (try simp +decide only [up2_row, up2_self, pk_us]) <;> grind [sp_setDates, wi]
        · refine g_iload_n hC dX5_setDates_46 rfl ?_
          refine g_aload_n hC dX5_setDates_47 rfl ?_
          refine g_get hC rfl rO rfl kl_X5 18 (by decide) kf_X5_56 rfl rfl dX5_setDates_48 ?_
          refine g_iload_n hC dX5_setDates_51 rfl ?_
          refine g_iald hC rfl rA1014 i rfl hi (by decide) dX5_setDates_52 ?_
          refine g_icmp_eq (tgt := 60) hC dX5_setDates_53 (by decide) (fun c53 => ?_) (fun c53 => ?_)
          · refine g_iconst (v := 0) hC dX5_setDates_60 (by decide) ?_
            refine g_istore hC dX5_setDates_61 (by decide) ?_
            refine g_aload_n hC dX5_setDates_63 rfl ?_
            refine g_get hC rfl rO rfl kl_X5 17 (by decide) kf_X5_53 rfl rfl dX5_setDates_64 ?_
            refine g_iload_n hC dX5_setDates_67 rfl ?_
            refine g_iload_n hC dX5_setDates_68 rfl ?_
            refine g_iast hC rfl rA1013 i rfl hi (by decide) dX5_setDates_69 (fun en16 hen16 => ?_)
            replace hen16 := rQ1013 hen16
            obtain ⟨M16, hM16, hen16⟩ := hen16
            subst hen16
            refine g_aload_n hC dX5_setDates_70 rfl ?_
            refine g_get hC rfl rO rfl kl_X5 18 (by decide) kf_X5_56 rfl rfl dX5_setDates_71 ?_
            refine g_iload_n hC dX5_setDates_74 rfl ?_
            refine g_iload_n hC dX5_setDates_75 rfl ?_
            refine g_iast hC rfl rA1014 i rfl hi (by decide) dX5_setDates_76 (fun en17 hen17 => ?_)
            replace hen17 := rQ1014 hen17
            obtain ⟨M17, hM17, hen17⟩ := hen17
            subst hen17
            refine g_iload hC dX5_setDates_77 rfl ?_
            refine g_if_eq (tgt := 86) hC dX5_setDates_79 (by decide) (fun c79 => ?_) (fun c79 => ?_)
            · refine g_iconst (v := 0) hC dX5_setDates_86 (by decide) ?_
              refine g_ireti hR dX5_setDates_87 rfl ?_
              clear hR hC hI
              subst hM17
              subst hM16
              refine pRf_i ?_ ?_ <;> (try simp +decide only [up2_row, up2_self, pk_us]) <;> grind [sp_setDates, wi]
            · refine g_iconst (v := 1) hC dX5_setDates_82 (by decide) ?_
              refine g_goto (tgt := 87) hC dX5_setDates_83 (by decide) ?_
              refine g_ireti hR dX5_setDates_87 rfl ?_
              clear hR hC hI
              subst hM17
              subst hM16
              refine pRf_i ?_ ?_ <;> (try simp +decide only [up2_row, up2_self, pk_us]) <;> grind [sp_setDates, wi]
          · refine g_iconst (v := 1) hC dX5_setDates_56 (by decide) ?_
            refine g_goto (tgt := 61) hC dX5_setDates_57 (by decide) ?_
            refine g_istore hC dX5_setDates_61 (by decide) ?_
            refine g_aload_n hC dX5_setDates_63 rfl ?_
            refine g_get hC rfl rO rfl kl_X5 17 (by decide) kf_X5_53 rfl rfl dX5_setDates_64 ?_
            refine g_iload_n hC dX5_setDates_67 rfl ?_
            refine g_iload_n hC dX5_setDates_68 rfl ?_
            refine g_iast hC rfl rA1013 i rfl hi (by decide) dX5_setDates_69 (fun en18 hen18 => ?_)
            replace hen18 := rQ1013 hen18
            obtain ⟨M18, hM18, hen18⟩ := hen18
            subst hen18
            refine g_aload_n hC dX5_setDates_70 rfl ?_
            refine g_get hC rfl rO rfl kl_X5 18 (by decide) kf_X5_56 rfl rfl dX5_setDates_71 ?_
            refine g_iload_n hC dX5_setDates_74 rfl ?_
            refine g_iload_n hC dX5_setDates_75 rfl ?_
            refine g_iast hC rfl rA1014 i rfl hi (by decide) dX5_setDates_76 (fun en19 hen19 => ?_)
            replace hen19 := rQ1014 hen19
            obtain ⟨M19, hM19, hen19⟩ := hen19
            subst hen19
            refine g_iload hC dX5_setDates_77 rfl ?_
            refine g_if_eq (tgt := 86) hC dX5_setDates_79 (by decide) (fun c79 => ?_) (fun c79 => ?_)
            · refine g_iconst (v := 0) hC dX5_setDates_86 (by decide) ?_
              refine g_ireti hR dX5_setDates_87 rfl ?_
              clear hR hC hI
              subst hM19
              subst hM18
              refine pRf_i ?_ ?_ <;> (try simp +decide only [up2_row, up2_self, pk_us]) <;> grind [sp_setDates, wi]
            · refine g_iconst (v := 1) hC dX5_setDates_82 (by decide) ?_
              refine g_goto (tgt := 87) hC dX5_setDates_83 (by decide) ?_
              refine g_ireti hR dX5_setDates_87 rfl ?_
              clear hR hC hI
              subst hM19
              subst hM18
              refine pRf_i ?_ ?_ <;> (try simp +decide only [up2_row, up2_self, pk_us]) <;> grind [sp_setDates, wi]
      · refine g_bipush (v := (-3)) hC dX5_setDates_33 (by decide) ?_
        refine g_ireti hR dX5_setDates_35 rfl ?_
        clear hR hC hI
        refine pRf_i ?_ ?_ <;> (try simp +decide only [up2_row, up2_self, pk_us]) <;> grind [sp_setDates, wi]
  · refine g_bipush (v := (-2)) hC dX5_setDates_8 (by decide) ?_
    refine g_ireti hR dX5_setDates_10 rfl ?_
    clear hR hC hI
    refine pRf_i ?_ ?_ <;> (try simp +decide only [up2_row, up2_self, pk_us]) <;> grind [sp_setDates, wi]

set_option maxHeartbeats 4000000 in
set_option maxRecDepth 100000 in
theorem c_X5_twoBarred (l : Launch) (X : gX) (b0 : Nat) (lo : gL) (M T : rM2) (e0 : gE) (p q : Int32) : Ct l X b0 lo (enR X lo M T e0) yX5_twoBarred cX5_twoBarred 3 (some FieldType.int) (rM 2 43) [.ref (lo 1000), .int p, .int q] (pX (.int (tbF M p q)) lo (enR X lo M T e0)) := by
  refine gMet (by decide) (Nat.le_of_ble_eq_true rfl) rfl ?_
  intro Z hC hI hR
  refine g_aload_n hC dX5_twoBarred_0 rfl ?_
  refine g_iload_n hC dX5_twoBarred_1 rfl ?_
  refine g_callV hC v_X5_noMould km_X5_85 (c_X5_noMould l X b0 lo _ _ e0 _) rfl rO rfl rfl rfl rfl (Nat.le_of_ble_eq_true rfl) ⟨by decide, by decide⟩ ⟨by decide, by decide⟩ dX5_twoBarred_2 (kX ?_)
  refine g_if_ne (tgt := 16) hC dX5_twoBarred_5 (by decide) (fun c5 => ?_) (fun c5 => ?_)
  · refine g_iconst (v := (-1)) hC dX5_twoBarred_16 (by decide) ?_
    refine g_goto (tgt := 31) hC dX5_twoBarred_17 (by decide) ?_
    refine g_ireti hR dX5_twoBarred_31 rfl ?_
    clear hR hC hI
    refine pXi ?_
    grind [tbF]
  · refine g_aload_n hC dX5_twoBarred_8 rfl ?_
    refine g_iload_n hC dX5_twoBarred_9 rfl ?_
    refine g_callV hC v_X5_noMould km_X5_85 (c_X5_noMould l X b0 lo _ _ e0 _) rfl rO rfl rfl rfl rfl (Nat.le_of_ble_eq_true rfl) ⟨by decide, by decide⟩ ⟨by decide, by decide⟩ dX5_twoBarred_10 (kX ?_)
    refine g_if_eq (tgt := 20) hC dX5_twoBarred_13 (by decide) (fun c13 => ?_) (fun c13 => ?_)
    · refine g_iload_n hC dX5_twoBarred_20 rfl ?_
      refine g_iload_n hC dX5_twoBarred_21 rfl ?_
      refine g_icmp_ne (tgt := 30) hC dX5_twoBarred_22 (by decide) (fun c22 => ?_) (fun c22 => ?_)
      · refine g_iconst (v := 0) hC dX5_twoBarred_30 (by decide) ?_
        refine g_ireti hR dX5_twoBarred_31 rfl ?_
        clear hR hC hI
        refine pXi ?_
        grind [tbF]
      · refine g_bipush (v := (-3)) hC dX5_twoBarred_25 (by decide) ?_
        refine g_goto (tgt := 31) hC dX5_twoBarred_27 (by decide) ?_
        refine g_ireti hR dX5_twoBarred_31 rfl ?_
        clear hR hC hI
        refine pXi ?_
        grind [tbF]
    · refine g_iconst (v := (-1)) hC dX5_twoBarred_16 (by decide) ?_
      refine g_goto (tgt := 31) hC dX5_twoBarred_17 (by decide) ?_
      refine g_ireti hR dX5_twoBarred_31 rfl ?_
      clear hR hC hI
      refine pXi ?_
      grind [tbF]

set_option maxHeartbeats 4000000 in
set_option maxRecDepth 100000 in
theorem c_X5_bothBarred (l : Launch) (X : gX) (b0 : Nat) (lo : gL) (M T : rM2) (e0 : gE) (p q : Int32) : Ct l X b0 lo (enR X lo M T e0) yX5_bothBarred cX5_bothBarred 3 (some FieldType.int) (rM 2 43) [.ref (lo 1000), .int p, .int q] (pX (.int (bbF M p q)) lo (enR X lo M T e0)) := by
  refine gMet (by decide) (Nat.le_of_ble_eq_true rfl) rfl ?_
  intro Z hC hI hR
  refine g_aload_n hC dX5_bothBarred_0 rfl ?_
  refine g_iload_n hC dX5_bothBarred_1 rfl ?_
  refine g_callV hC v_X5_noSheet km_X5_102 (c_X5_noSheet l X b0 lo _ _ e0 _) rfl rO rfl rfl rfl rfl (Nat.le_of_ble_eq_true rfl) ⟨by decide, by decide⟩ ⟨by decide, by decide⟩ dX5_bothBarred_2 (kX ?_)
  refine g_if_eq (tgt := 13) hC dX5_bothBarred_5 (by decide) (fun c5 => ?_) (fun c5 => ?_)
  · refine g_aload_n hC dX5_bothBarred_13 rfl ?_
    refine g_iload_n hC dX5_bothBarred_14 rfl ?_
    refine g_callV hC v_X5_noMould km_X5_85 (c_X5_noMould l X b0 lo _ _ e0 _) rfl rO rfl rfl rfl rfl (Nat.le_of_ble_eq_true rfl) ⟨by decide, by decide⟩ ⟨by decide, by decide⟩ dX5_bothBarred_15 (kX ?_)
    refine g_if_eq (tgt := 25) hC dX5_bothBarred_18 (by decide) (fun c18 => ?_) (fun c18 => ?_)
    · refine g_iconst (v := 0) hC dX5_bothBarred_25 (by decide) ?_
      refine g_ireti hR dX5_bothBarred_26 rfl ?_
      clear hR hC hI
      refine pXi ?_
      grind [bbF]
    · refine g_iconst (v := (-1)) hC dX5_bothBarred_21 (by decide) ?_
      refine g_goto (tgt := 26) hC dX5_bothBarred_22 (by decide) ?_
      refine g_ireti hR dX5_bothBarred_26 rfl ?_
      clear hR hC hI
      refine pXi ?_
      grind [bbF]
  · refine g_bipush (v := (-2)) hC dX5_bothBarred_8 (by decide) ?_
    refine g_goto (tgt := 26) hC dX5_bothBarred_10 (by decide) ?_
    refine g_ireti hR dX5_bothBarred_26 rfl ?_
    clear hR hC hI
    refine pXi ?_
    grind [bbF]

theorem nI_inc (k : Nat) : nI k + Int32.ofInt 1 = nI (k + 1) := nI_1 k
set_option maxHeartbeats 4000000 in
set_option maxRecDepth 100000 in
theorem c_X5_twinSpacings (l : Launch) (X : gX) (b0 : Nat) (lo : gL) (M T : rM2) (e0 : gE) (hM : Iv M) (a b : Nat) (ha : a < nMo M) (hb : b < nMo M) : Ct l X b0 lo (enR X lo M T e0) yX5_twinSpacings cX5_twinSpacings 6 (some FieldType.int) (rM 1 21) [.ref (lo 1000), .int (nI a), .int (nI b)] (pX (.int (twF M a b)) lo (enR X lo M T e0)) := by
  refine gMet (by decide) (Nat.le_of_ble_eq_true rfl) rfl ?_
  intro Z hC hI hR
  obtain ⟨n4, hn4, en4⟩ := natOf (n := 10) hM.2.2.2.1 rfl (by decide)
  have hN : nMo M = n4 := by unfold nMo; rw [en4]; exact nt_nI (by omega)
  have hA := hM.2.2.2.2.2.2.1 a ha
  obtain ⟨n, hn, en⟩ := natOf (n := 10) (x := M 1 a) ⟨by have := hA.1.1; grind, hA.1.2⟩ rfl (by decide)
  have hn2 : nt (M 1 a) = n := by rw [en]; exact nt_nI (by omega)
  refine g_aload_n hC dX5_twinSpacings_0 rfl ?_
  refine g_get hC rfl rO rfl kl_X5 5 (by decide) kf_X5_20 rfl rfl dX5_twinSpacings_1 ?_
  refine g_iload_n hC dX5_twinSpacings_4 rfl ?_
  refine g_iald hC rfl rA1002 a rfl (by omega) (by decide) dX5_twinSpacings_5 ?_
  refine g_aload_n hC dX5_twinSpacings_6 rfl ?_
  refine g_get hC rfl rO rfl kl_X5 5 (by decide) kf_X5_20 rfl rfl dX5_twinSpacings_7 ?_
  refine g_iload_n hC dX5_twinSpacings_10 rfl ?_
  refine g_iald hC rfl rA1002 b rfl (by omega) (by decide) dX5_twinSpacings_11 ?_
  refine g_icmp_ne (tgt := 30) hC dX5_twinSpacings_12 (by decide) (fun c12 => ?_) (fun c12 => ?_)
  · refine g_bipush (v := (-6)) hC dX5_twinSpacings_30 (by decide) ?_
    refine g_ireti hR dX5_twinSpacings_32 rfl ?_
    clear hR hC hI
    refine pXi ?_
    grind [twF, gdM]
  · refine g_aload_n hC dX5_twinSpacings_15 rfl ?_
    refine g_get hC rfl rO rfl kl_X5 7 (by decide) kf_X5_26 rfl rfl dX5_twinSpacings_16 ?_
    refine g_iload_n hC dX5_twinSpacings_19 rfl ?_
    refine g_iald hC rfl rA1004 a rfl (by omega) (by decide) dX5_twinSpacings_20 ?_
    refine g_aload_n hC dX5_twinSpacings_21 rfl ?_
    refine g_get hC rfl rO rfl kl_X5 7 (by decide) kf_X5_26 rfl rfl dX5_twinSpacings_22 ?_
    refine g_iload_n hC dX5_twinSpacings_25 rfl ?_
    refine g_iald hC rfl rA1004 b rfl (by omega) (by decide) dX5_twinSpacings_26 ?_
    refine g_icmp_eq (tgt := 33) hC dX5_twinSpacings_27 (by decide) (fun c27 => ?_) (fun c27 => ?_)
    · refine g_iconst (v := 0) hC dX5_twinSpacings_33 (by decide) ?_
      refine g_istore_n hC dX5_twinSpacings_34 (by decide) ?_
      refine g_iconst (v := 0) hC dX5_twinSpacings_35 (by decide) ?_
      refine g_istore hC dX5_twinSpacings_36 (by decide) ?_
      have lp : ∀ (r : Nat) (k : Nat), k + r = n → GO l X b0 Z 0 0 lo (enR X lo M T e0) 38 [(0, .ref (lo 1000)), (1, .int (nI a)), (2, .int (nI b)), (3, .int (gdF (fun k => M 2 (10 * a + k)) (fun k => M 2 (10 * b + k)) k)), (4, .int (nI k))] [] := by
        intro r
        induction r with
        | zero =>
          intro k hk
          have hkn : k = n := by omega
          subst hkn
          refine g_iload hC dX5_twinSpacings_38 rfl ?_
          refine g_aload_n hC dX5_twinSpacings_40 rfl ?_
          refine g_get hC rfl rO rfl kl_X5 5 (by decide) kf_X5_20 rfl rfl dX5_twinSpacings_41 ?_
          refine g_iload_n hC dX5_twinSpacings_44 rfl ?_
          refine g_iald hC rfl rA1002 a rfl (by omega) (by decide) dX5_twinSpacings_45 ?_
          refine g_icmp_ge (tgt := 97) hC dX5_twinSpacings_46 (by decide) (fun c46 => ?_) (fun c46 => absurd (by rw [en]; exact nI_le (by omega) (by omega)) c46)
          refine g_iload_n hC dX5_twinSpacings_97 rfl ?_
          refine g_aload_n hC dX5_twinSpacings_98 rfl ?_
          refine g_get hC rfl rO rfl kl_X5 2 (by decide) kf_X5_13 rfl rfl dX5_twinSpacings_99 ?_
          refine g_icmp_le (tgt := 110) hC dX5_twinSpacings_102 (by decide) (fun c102 => ?_) (fun c102 => ?_)
          · refine g_iload_n hC dX5_twinSpacings_110 rfl ?_
            refine g_ireti hR dX5_twinSpacings_111 rfl ?_
            clear hR hC hI
            refine pXi ?_
            grind [twF, gdM]
          · refine g_bipush (v := (-6)) hC dX5_twinSpacings_105 (by decide) ?_
            refine g_goto (tgt := 111) hC dX5_twinSpacings_107 (by decide) ?_
            refine g_ireti hR dX5_twinSpacings_111 rfl ?_
            clear hR hC hI
            refine pXi ?_
            grind [twF, gdM]
        | succ r ihlp =>
          intro k hk
          refine g_iload hC dX5_twinSpacings_38 rfl ?_
          refine g_aload_n hC dX5_twinSpacings_40 rfl ?_
          refine g_get hC rfl rO rfl kl_X5 5 (by decide) kf_X5_20 rfl rfl dX5_twinSpacings_41 ?_
          refine g_iload_n hC dX5_twinSpacings_44 rfl ?_
          refine g_iald hC rfl rA1002 a rfl (by omega) (by decide) dX5_twinSpacings_45 ?_
          refine g_icmp_ge (tgt := 97) hC dX5_twinSpacings_46 (by decide) (fun c46 => absurd c46 (by rw [en]; exact nI_ge (by omega) (by omega))) (fun c46 => ?_)
          refine g_aload_n hC dX5_twinSpacings_49 rfl ?_
          refine g_get hC rfl rO rfl kl_X5 6 (by decide) kf_X5_23 rfl rfl dX5_twinSpacings_50 ?_
          refine g_bipush (v := 10) hC dX5_twinSpacings_53 (by decide) ?_
          refine g_iload_n hC dX5_twinSpacings_55 rfl ?_
          refine g_imul hC dX5_twinSpacings_56 ?_
          refine g_iload hC dX5_twinSpacings_57 rfl ?_
          refine g_iadd hC dX5_twinSpacings_59 ?_
          refine g_iald hC rfl rA1003 (10 * a + k) (ix10 rfl rfl) (by omega) (by decide) dX5_twinSpacings_60 ?_
          refine g_aload_n hC dX5_twinSpacings_61 rfl ?_
          refine g_get hC rfl rO rfl kl_X5 6 (by decide) kf_X5_23 rfl rfl dX5_twinSpacings_62 ?_
          refine g_bipush (v := 10) hC dX5_twinSpacings_65 (by decide) ?_
          refine g_iload_n hC dX5_twinSpacings_67 rfl ?_
          refine g_imul hC dX5_twinSpacings_68 ?_
          refine g_iload hC dX5_twinSpacings_69 rfl ?_
          refine g_iadd hC dX5_twinSpacings_71 ?_
          refine g_iald hC rfl rA1003 (10 * b + k) (ix10 rfl rfl) (by omega) (by decide) dX5_twinSpacings_72 ?_
          refine g_callS hC v_X5_apart km_X5_89 (c_X5_apart l X b0 lo _ _ _) rfl rfl (Nat.le_of_ble_eq_true rfl) ⟨by decide, by decide⟩ ⟨by decide, by decide⟩ dX5_twinSpacings_73 (kX ?_)
          refine g_istore hC dX5_twinSpacings_76 (by decide) ?_
          refine g_iload hC dX5_twinSpacings_78 rfl ?_
          refine g_iload_n hC dX5_twinSpacings_80 rfl ?_
          refine g_icmp_le (tgt := 89) hC dX5_twinSpacings_81 (by decide) (fun c81 => ?_) (fun c81 => ?_)
          · refine g_iload_n hC dX5_twinSpacings_89 rfl ?_
            refine g_val (y := gdF (fun k => M 2 (10 * a + k)) (fun k => M 2 (10 * b + k)) (k + 1)) (by grind [gdF]) ?_
            refine g_istore_n hC dX5_twinSpacings_90 (by decide) ?_
            refine g_iinc hC dX5_twinSpacings_91 rfl (nI_inc k) (by decide) ?_
            refine g_goto (tgt := 38) hC dX5_twinSpacings_94 (by decide) ?_
            exact g_lv (lv' := [(0, .ref (lo 1000)), (1, .int (nI a)), (2, .int (nI b)), (3, .int (gdF (fun k => M 2 (10 * a + k)) (fun k => M 2 (10 * b + k)) (k + 1))), (4, .int (nI (k + 1)))]) ⟨rfl, rfl, rfl, rfl, rfl, trivial⟩ (ihlp (k + 1) (by omega))
          · refine g_iload hC dX5_twinSpacings_84 rfl ?_
            refine g_goto (tgt := 90) hC dX5_twinSpacings_86 (by decide) ?_
            refine g_val (y := gdF (fun k => M 2 (10 * a + k)) (fun k => M 2 (10 * b + k)) (k + 1)) (by grind [gdF]) ?_
            refine g_istore_n hC dX5_twinSpacings_90 (by decide) ?_
            refine g_iinc hC dX5_twinSpacings_91 rfl (nI_inc k) (by decide) ?_
            refine g_goto (tgt := 38) hC dX5_twinSpacings_94 (by decide) ?_
            exact g_lv (lv' := [(0, .ref (lo 1000)), (1, .int (nI a)), (2, .int (nI b)), (3, .int (gdF (fun k => M 2 (10 * a + k)) (fun k => M 2 (10 * b + k)) (k + 1))), (4, .int (nI (k + 1)))]) ⟨rfl, rfl, rfl, rfl, rfl, trivial⟩ (ihlp (k + 1) (by omega))
      exact g_lv (lv' := [(0, .ref (lo 1000)), (1, .int (nI a)), (2, .int (nI b)), (3, .int 0), (4, .int (nI 0))]) ⟨rfl, rfl, rfl, rfl, rfl, trivial⟩ (lp n 0 (by omega))
    · refine g_bipush (v := (-6)) hC dX5_twinSpacings_30 (by decide) ?_
      refine g_ireti hR dX5_twinSpacings_32 rfl ?_
      clear hR hC hI
      refine pXi ?_
      grind [twF, gdM]

set_option maxHeartbeats 4000000 in
set_option maxRecDepth 100000 in
theorem c_X5_areTwins (l : Launch) (X : gX) (b0 : Nat) (lo : gL) (M T : rM2) (e0 : gE) (hM : Iv M) (p q : Int32) : Ct l X b0 lo (enR X lo M T e0) yX5_areTwins cX5_areTwins 4 (some FieldType.int) (rM 3 65) [.ref (lo 1000), .int p, .int q] (pRf X lo e0 (sp_areTwins M p q)) := by
  refine gMet (by decide) (Nat.le_of_ble_eq_true rfl) rfl ?_
  intro Z hC hI hR
  refine g_aload_n hC dX5_areTwins_0 rfl ?_
  refine g_iload_n hC dX5_areTwins_1 rfl ?_
  refine g_iload_n hC dX5_areTwins_2 rfl ?_
  refine g_callV hC v_X5_twoBarred km_X5_93 (c_X5_twoBarred l X b0 lo _ _ e0 _ _) rfl rO rfl rfl rfl rfl (Nat.le_of_ble_eq_true rfl) ⟨by decide, by decide⟩ ⟨by decide, by decide⟩ dX5_areTwins_3 (kX ?_)
  refine g_istore_n hC dX5_areTwins_6 (by decide) ?_
  refine g_iload_n hC dX5_areTwins_7 rfl ?_
  refine g_if_ge (tgt := 15) hC dX5_areTwins_8 (by decide) (fun c8 => ?_) (fun c8 => ?_)
  · have h0 : tbF M p q = 0 := by grind [tbF]
    have hb2 : isMo M p ∧ isMo M q := by grind [tbF]
    obtain ⟨a, ha, rfl, hi1, -⟩ := moOf hM hb2.1
    obtain ⟨b, hb, rfl, hi2, -⟩ := moOf hM hb2.2
    have ea : nt (nI a) = a := nt_nI (by omega)
    have eb : nt (nI b) = b := nt_nI (by omega)
    refine g_aload_n hC dX5_areTwins_15 rfl ?_
    refine g_iload_n hC dX5_areTwins_16 rfl ?_
    refine g_iload_n hC dX5_areTwins_17 rfl ?_
    refine g_callV hC v_X5_twinSpacings km_X5_96 (c_X5_twinSpacings l X b0 lo _ _ e0 hM _ _ hi1 hi2) rfl rO rfl rfl rfl rfl (Nat.le_of_ble_eq_true rfl) ⟨by decide, by decide⟩ ⟨by decide, by decide⟩ dX5_areTwins_18 (kX ?_)
    refine g_if_ge (tgt := 28) hC dX5_areTwins_21 (by decide) (fun c21 => ?_) (fun c21 => ?_)
    · refine g_iconst (v := 1) hC dX5_areTwins_28 (by decide) ?_
      refine g_ireti hR dX5_areTwins_29 rfl ?_
      clear hR hC hI
      refine pRf_i ?_ ?_ <;> (try simp +decide only [up2_row, up2_self, pk_us]) <;> grind [sp_areTwins]
    · refine g_iconst (v := 0) hC dX5_areTwins_24 (by decide) ?_
      refine g_goto (tgt := 29) hC dX5_areTwins_25 (by decide) ?_
      refine g_ireti hR dX5_areTwins_29 rfl ?_
      clear hR hC hI
      refine pRf_i ?_ ?_ <;> (try simp +decide only [up2_row, up2_self, pk_us]) <;> grind [sp_areTwins]
  · refine g_iload_n hC dX5_areTwins_11 rfl ?_
    refine g_goto (tgt := 29) hC dX5_areTwins_12 (by decide) ?_
    refine g_ireti hR dX5_areTwins_29 rfl ?_
    clear hR hC hI
    refine pRf_i ?_ ?_ <;> (try simp +decide only [up2_row, up2_self, pk_us]) <;> grind [sp_areTwins]

set_option maxHeartbeats 4000000 in
set_option maxRecDepth 100000 in
theorem c_X5_twinDifference (l : Launch) (X : gX) (b0 : Nat) (lo : gL) (M T : rM2) (e0 : gE) (hM : Iv M) (p q : Int32) : Ct l X b0 lo (enR X lo M T e0) yX5_twinDifference cX5_twinDifference 7 (some FieldType.int) (rM 3 65) [.ref (lo 1000), .int p, .int q] (pRf X lo e0 (sp_twinDifference M p q)) := by
  refine gMet (by decide) (Nat.le_of_ble_eq_true rfl) rfl ?_
  intro Z hC hI hR
  refine g_aload_n hC dX5_twinDifference_0 rfl ?_
  refine g_iload_n hC dX5_twinDifference_1 rfl ?_
  refine g_iload_n hC dX5_twinDifference_2 rfl ?_
  refine g_callV hC v_X5_twoBarred km_X5_93 (c_X5_twoBarred l X b0 lo _ _ e0 _ _) rfl rO rfl rfl rfl rfl (Nat.le_of_ble_eq_true rfl) ⟨by decide, by decide⟩ ⟨by decide, by decide⟩ dX5_twinDifference_3 (kX ?_)
  refine g_istore_n hC dX5_twinDifference_6 (by decide) ?_
  refine g_iload_n hC dX5_twinDifference_7 rfl ?_
  refine g_if_ge (tgt := 13) hC dX5_twinDifference_8 (by decide) (fun c8 => ?_) (fun c8 => ?_)
  · have h0 : tbF M p q = 0 := by grind [tbF]
    have hb2 : isMo M p ∧ isMo M q := by grind [tbF]
    obtain ⟨a, ha, rfl, hi1, -⟩ := moOf hM hb2.1
    obtain ⟨b, hb, rfl, hi2, -⟩ := moOf hM hb2.2
    have ea : nt (nI a) = a := nt_nI (by omega)
    have eb : nt (nI b) = b := nt_nI (by omega)
    refine g_aload_n hC dX5_twinDifference_13 rfl ?_
    refine g_iload_n hC dX5_twinDifference_14 rfl ?_
    refine g_iload_n hC dX5_twinDifference_15 rfl ?_
    refine g_callV hC v_X5_twinSpacings km_X5_96 (c_X5_twinSpacings l X b0 lo _ _ e0 hM _ _ hi1 hi2) rfl rO rfl rfl rfl rfl (Nat.le_of_ble_eq_true rfl) ⟨by decide, by decide⟩ ⟨by decide, by decide⟩ dX5_twinDifference_16 (kX ?_)
    refine g_istore hC dX5_twinDifference_19 (by decide) ?_
    refine g_aload_n hC dX5_twinDifference_21 rfl ?_
    refine g_get hC rfl rO rfl kl_X5 9 (by decide) kf_X5_32 rfl rfl dX5_twinDifference_22 ?_
    refine g_bipush (v := 6) hC dX5_twinDifference_25 (by decide) ?_
    refine g_iload_n hC dX5_twinDifference_27 rfl ?_
    refine g_imul hC dX5_twinDifference_28 ?_
    refine g_iald hC rfl rA1006 (6 * a) (ix6' rfl) (by omega) (by decide) dX5_twinDifference_29 ?_
    refine g_aload_n hC dX5_twinDifference_30 rfl ?_
    refine g_get hC rfl rO rfl kl_X5 9 (by decide) kf_X5_32 rfl rfl dX5_twinDifference_31 ?_
    refine g_bipush (v := 6) hC dX5_twinDifference_34 (by decide) ?_
    refine g_iload_n hC dX5_twinDifference_36 rfl ?_
    refine g_imul hC dX5_twinDifference_37 ?_
    refine g_iald hC rfl rA1006 (6 * b) (ix6' rfl) (by omega) (by decide) dX5_twinDifference_38 ?_
    refine g_callS hC v_X5_apart km_X5_89 (c_X5_apart l X b0 lo _ _ _) rfl rfl (Nat.le_of_ble_eq_true rfl) ⟨by decide, by decide⟩ ⟨by decide, by decide⟩ dX5_twinDifference_39 (kX ?_)
    refine g_istore hC dX5_twinDifference_42 (by decide) ?_
    refine g_aload_n hC dX5_twinDifference_44 rfl ?_
    refine g_get hC rfl rO rfl kl_X5 10 (by decide) kf_X5_35 rfl rfl dX5_twinDifference_45 ?_
    refine g_bipush (v := 6) hC dX5_twinDifference_48 (by decide) ?_
    refine g_iload_n hC dX5_twinDifference_50 rfl ?_
    refine g_imul hC dX5_twinDifference_51 ?_
    refine g_iald hC rfl rA1007 (6 * a) (ix6' rfl) (by omega) (by decide) dX5_twinDifference_52 ?_
    refine g_aload_n hC dX5_twinDifference_53 rfl ?_
    refine g_get hC rfl rO rfl kl_X5 10 (by decide) kf_X5_35 rfl rfl dX5_twinDifference_54 ?_
    refine g_bipush (v := 6) hC dX5_twinDifference_57 (by decide) ?_
    refine g_iload_n hC dX5_twinDifference_59 rfl ?_
    refine g_imul hC dX5_twinDifference_60 ?_
    refine g_iald hC rfl rA1007 (6 * b) (ix6' rfl) (by omega) (by decide) dX5_twinDifference_61 ?_
    refine g_callS hC v_X5_apart km_X5_89 (c_X5_apart l X b0 lo _ _ _) rfl rfl (Nat.le_of_ble_eq_true rfl) ⟨by decide, by decide⟩ ⟨by decide, by decide⟩ dX5_twinDifference_62 (kX ?_)
    refine g_istore hC dX5_twinDifference_65 (by decide) ?_
    refine g_iload hC dX5_twinDifference_67 rfl ?_
    refine g_if_ge (tgt := 75) hC dX5_twinDifference_69 (by decide) (fun c69 => ?_) (fun c69 => ?_)
    · refine g_iload hC dX5_twinDifference_75 rfl ?_
      refine g_iload hC dX5_twinDifference_77 rfl ?_
      refine g_icmp_le (tgt := 87) hC dX5_twinDifference_79 (by decide) (fun c79 => ?_) (fun c79 => ?_)
      · refine g_iload hC dX5_twinDifference_87 rfl ?_
        refine g_istore hC dX5_twinDifference_89 (by decide) ?_
        refine g_iload hC dX5_twinDifference_91 rfl ?_
        refine g_iload hC dX5_twinDifference_93 rfl ?_
        refine g_icmp_le (tgt := 103) hC dX5_twinDifference_95 (by decide) (fun c95 => ?_) (fun c95 => ?_)
        · refine g_iload hC dX5_twinDifference_103 rfl ?_
          refine g_ireti hR dX5_twinDifference_105 rfl ?_
          clear hR hC hI
          refine pRf_i ?_ ?_ <;> (try simp +decide only [up2_row, up2_self, pk_us]) <;> grind [sp_twinDifference, mx]
        · refine g_iload hC dX5_twinDifference_98 rfl ?_
          refine g_goto (tgt := 105) hC dX5_twinDifference_100 (by decide) ?_
          refine g_ireti hR dX5_twinDifference_105 rfl ?_
          clear hR hC hI
          refine pRf_i ?_ ?_ <;> (try simp +decide only [up2_row, up2_self, pk_us]) <;> grind [sp_twinDifference, mx]
      · refine g_iload hC dX5_twinDifference_82 rfl ?_
        refine g_goto (tgt := 89) hC dX5_twinDifference_84 (by decide) ?_
        refine g_istore hC dX5_twinDifference_89 (by decide) ?_
        refine g_iload hC dX5_twinDifference_91 rfl ?_
        refine g_iload hC dX5_twinDifference_93 rfl ?_
        refine g_icmp_le (tgt := 103) hC dX5_twinDifference_95 (by decide) (fun c95 => ?_) (fun c95 => ?_)
        · refine g_iload hC dX5_twinDifference_103 rfl ?_
          refine g_ireti hR dX5_twinDifference_105 rfl ?_
          clear hR hC hI
          refine pRf_i ?_ ?_ <;> (try simp +decide only [up2_row, up2_self, pk_us]) <;> grind [sp_twinDifference, mx]
        · refine g_iload hC dX5_twinDifference_98 rfl ?_
          refine g_goto (tgt := 105) hC dX5_twinDifference_100 (by decide) ?_
          refine g_ireti hR dX5_twinDifference_105 rfl ?_
          clear hR hC hI
          refine pRf_i ?_ ?_ <;> (try simp +decide only [up2_row, up2_self, pk_us]) <;> grind [sp_twinDifference, mx]
    · refine g_bipush (v := (-6)) hC dX5_twinDifference_72 (by decide) ?_
      refine g_ireti hR dX5_twinDifference_74 rfl ?_
      clear hR hC hI
      refine pRf_i ?_ ?_ <;> (try simp +decide only [up2_row, up2_self, pk_us]) <;> grind [sp_twinDifference, mx]
  · refine g_iload_n hC dX5_twinDifference_11 rfl ?_
    refine g_ireti hR dX5_twinDifference_12 rfl ?_
    clear hR hC hI
    refine pRf_i ?_ ?_ <;> (try simp +decide only [up2_row, up2_self, pk_us]) <;> grind [sp_twinDifference, mx]
end
section
/-! ===== the reference: addMould, addSheet ===== -/
set_option maxHeartbeats 4000000 in
set_option maxRecDepth 100000 in
theorem c_X5_addMould (l : Launch) (X : gX) (b0 : Nat) (lo : gL) (M T : rM2) (e0 : gE) (hM : Iv M) (iv x y : Int32) : Ct l X b0 lo (enR X lo M T e0) yX5_addMould cX5_addMould 5 (some FieldType.int) (rM 2 45) [.ref (lo 1000), .int iv, .int x, .int y] (pRf X lo e0 (sp_addMould M iv x y)) := by
  refine gMet (by decide) (Nat.le_of_ble_eq_true rfl) rfl ?_
  intro Z hC hI hR
  have hM0 := hM
  obtain ⟨n, hn, en⟩ := natOf (n := 10) hM.1 rfl (by decide)
  have hn2 : nt (M 20 1) = n := by rw [en]; exact nt_nI (by omega)
  obtain ⟨i, hi, ei⟩ := natOf (n := 10) hM.2.2.2.1 rfl (by decide)
  have hi2 : nMo M = i := by unfold nMo; rw [ei]; exact nt_nI (by omega)
  refine g_aload_n hC dX5_addMould_0 rfl ?_
  refine g_get hC rfl rO rfl kl_X5 1 (by decide) kf_X5_68 rfl rfl dX5_addMould_1 ?_
  refine g_iconst (v := 3) hC dX5_addMould_4 (by decide) ?_
  refine g_icmp_ge (tgt := 11) hC dX5_addMould_5 (by decide) (fun c5 => ?_) (fun c5 => ?_)
  · refine g_aload_n hC dX5_addMould_11 rfl ?_
    refine g_iload_n hC dX5_addMould_12 rfl ?_
    refine g_iload_n hC dX5_addMould_13 rfl ?_
    refine g_iload_n hC dX5_addMould_14 rfl ?_
    refine g_callV hC v_X5_isMark km_X5_78 (c_X5_isMark l X b0 lo _ _ e0 hM _ _ _) rfl rO rfl rfl rfl rfl (Nat.le_of_ble_eq_true rfl) ⟨by decide, by decide⟩ ⟨by decide, by decide⟩ dX5_addMould_15 (kX ?_)
    refine g_if_ne (tgt := 24) hC dX5_addMould_18 (by decide) (fun c18 => ?_) (fun c18 => ?_)
    · refine g_aload_n hC dX5_addMould_24 rfl ?_
      refine g_get hC rfl rO rfl kl_X5 4 (by decide) kf_X5_75 rfl rfl dX5_addMould_25 ?_
      refine g_bipush (v := 10) hC dX5_addMould_28 (by decide) ?_
      refine g_icmp_ne (tgt := 36) hC dX5_addMould_30 (by decide) (fun c30 => ?_) (fun c30 => ?_)
      · have hi9 : i < 10 := by
          rcases Nat.lt_or_ge i 10 with q | q
          · exact q
          · exact absurd (by rw [ei, show i = 10 by omega]; rfl) c30
        refine g_aload_n hC dX5_addMould_36 rfl ?_
        refine g_get hC rfl rO rfl kl_X5 5 (by decide) kf_X5_20 rfl rfl dX5_addMould_37 ?_
        refine g_aload_n hC dX5_addMould_40 rfl ?_
        refine g_get hC rfl rO rfl kl_X5 4 (by decide) kf_X5_75 rfl rfl dX5_addMould_41 ?_
        refine g_aload_n hC dX5_addMould_44 rfl ?_
        refine g_get hC rfl rO rfl kl_X5 1 (by decide) kf_X5_68 rfl rfl dX5_addMould_45 ?_
        refine g_iast hC rfl rA1002 i ei (by omega) (by decide) dX5_addMould_48 (fun en20 hen20 => ?_)
        replace hen20 := rQ1002 hen20
        obtain ⟨M20, hM20, hen20⟩ := hen20
        subst hen20
        refine g_iconst (v := 0) hC dX5_addMould_49 (by decide) ?_
        refine g_istore hC dX5_addMould_50 (by decide) ?_
        have lp : ∀ (r : Nat) (k : Nat) (M1 : rM2), k + r = n → M1 = cp2 (up2 M 1 i (M 20 1)) 2 (10 * i) k → GO l X b0 Z 0 0 lo (enR X lo M1 T e0) 52 [(0, .ref (lo 1000)), (1, .int iv), (2, .int x), (3, .int y), (4, .int (nI k))] [] := by
          intro r
          induction r with
          | zero =>
            intro k M1 hk hM1
            have hkn : k = n := by omega
            subst hkn
            refine g_iload hC dX5_addMould_52 rfl ?_
            refine g_aload_n hC dX5_addMould_54 rfl ?_
            refine g_get hC rfl rO rfl kl_X5 1 (by decide) kf_X5_68 rfl rfl dX5_addMould_55 ?_
            refine g_icmp_ge (tgt := 89) hC dX5_addMould_58 (by decide) (fun c58 => ?_) (fun c58 => absurd (by rw [hM1]; show M 20 1 ≤ _; rw [en]; exact nI_le (by omega) (by omega)) c58)
            refine g_aload_n hC dX5_addMould_89 rfl ?_
            refine g_get hC rfl rO rfl kl_X5 7 (by decide) kf_X5_26 rfl rfl dX5_addMould_90 ?_
            refine g_aload_n hC dX5_addMould_93 rfl ?_
            refine g_get hC rfl rO rfl kl_X5 4 (by decide) kf_X5_75 rfl rfl dX5_addMould_94 ?_
            refine g_iload_n hC dX5_addMould_97 rfl ?_
            refine g_iast hC rfl rA1004 i (by rw [hM1]; exact ei) (by omega) (by decide) dX5_addMould_98 (fun en21 hen21 => ?_)
            replace hen21 := rQ1004 hen21
            obtain ⟨M21, hM21, hen21⟩ := hen21
            subst hen21
            refine g_aload_n hC dX5_addMould_99 rfl ?_
            refine g_get hC rfl rO rfl kl_X5 8 (by decide) kf_X5_29 rfl rfl dX5_addMould_100 ?_
            refine g_aload_n hC dX5_addMould_103 rfl ?_
            refine g_get hC rfl rO rfl kl_X5 4 (by decide) kf_X5_75 rfl rfl dX5_addMould_104 ?_
            refine g_iconst (v := 0) hC dX5_addMould_107 (by decide) ?_
            refine g_iast hC rfl rA1005 i (by rw [hM21, hM1]; exact ei) (by omega) (by decide) dX5_addMould_108 (fun en22 hen22 => ?_)
            replace hen22 := rQ1005 hen22
            obtain ⟨M22, hM22, hen22⟩ := hen22
            subst hen22
            refine g_aload_n hC dX5_addMould_109 rfl ?_
            refine g_aload_n hC dX5_addMould_110 rfl ?_
            refine g_get hC rfl rO rfl kl_X5 4 (by decide) kf_X5_75 rfl rfl dX5_addMould_111 ?_
            have e4 : M22 20 4 = nI i := (by rw [hM22, hM21, hM1]; exact ei)
            have e40 : M22 4 i = nI 0 := by rw [hM22, up2_self, pk_us]; rfl
            refine g_val e4 ?_
            refine g_iload_n hC dX5_addMould_114 rfl ?_
            refine g_iload_n hC dX5_addMould_115 rfl ?_
            refine g_callV hC v_X5_putState km_X5_81 (c_X5_putState l X b0 lo _ _ e0 i (by omega) 0 (by decide) e40 _ _) rfl rO rfl rfl rfl rfl (Nat.le_of_ble_eq_true rfl) ⟨by decide, by decide⟩ ⟨by decide, by decide⟩ dX5_addMould_116 (kV ?_)
            rintro en' rfl
            refine g_aload_n hC dX5_addMould_119 rfl ?_
            refine g_dup hC dX5_addMould_120 rfl ?_
            refine g_get hC rfl rO rfl kl_X5 4 (by decide) kf_X5_75 rfl rfl dX5_addMould_121 ?_
            refine g_iconst (v := 1) hC dX5_addMould_124 (by decide) ?_
            refine g_iadd hC dX5_addMould_125 ?_
            refine g_put (ty := .int) hC rfl rO rfl kl_X5 4 (by decide) kf_X5_75 rfl tyX5 tyX5_ok nmX5 rfl (by decide +kernel) rfl rfl (Nat.le_of_ble_eq_true rfl) dX5_addMould_126 (fun en23 hen23 => ?_)
            replace hen23 := rP4 hen23
            obtain ⟨M23, hM23, hen23⟩ := hen23
            subst hen23
            refine g_aload_n hC dX5_addMould_129 rfl ?_
            refine g_get hC rfl rO rfl kl_X5 4 (by decide) kf_X5_75 rfl rfl dX5_addMould_130 ?_
            refine g_iconst (v := 1) hC dX5_addMould_133 (by decide) ?_
            refine g_isub hC dX5_addMould_134 ?_
            refine g_ireti hR dX5_addMould_135 rfl ?_
            clear hR hC hI
            have hP : psM M22 i x y 20 4 = M 20 4 := by
              rw [hM22, hM21, hM1]
              simp +decide [psM, up2, cp2]
            subst hM23
            subst hM22
            subst hM21
            subst hM1
            refine pRf_i ?_ ?_
            · simp +decide only [up2_self, pk_us, hP]
              grind [sp_addMould]
            · rw [hP]
              grind [sp_addMould, adM]
          | succ r ihlp =>
            intro k M1 hk hM1
            refine g_iload hC dX5_addMould_52 rfl ?_
            refine g_aload_n hC dX5_addMould_54 rfl ?_
            refine g_get hC rfl rO rfl kl_X5 1 (by decide) kf_X5_68 rfl rfl dX5_addMould_55 ?_
            refine g_icmp_ge (tgt := 89) hC dX5_addMould_58 (by decide) (fun c58 => absurd c58 (by rw [hM1]; show ¬ M 20 1 ≤ _; rw [en]; exact nI_ge (by omega) (by omega))) (fun c58 => ?_)
            refine g_aload_n hC dX5_addMould_61 rfl ?_
            refine g_get hC rfl rO rfl kl_X5 6 (by decide) kf_X5_23 rfl rfl dX5_addMould_62 ?_
            refine g_bipush (v := 10) hC dX5_addMould_65 (by decide) ?_
            refine g_aload_n hC dX5_addMould_67 rfl ?_
            refine g_get hC rfl rO rfl kl_X5 4 (by decide) kf_X5_75 rfl rfl dX5_addMould_68 ?_
            refine g_imul hC dX5_addMould_71 ?_
            refine g_iload hC dX5_addMould_72 rfl ?_
            refine g_iadd hC dX5_addMould_74 ?_
            refine g_aload_n hC dX5_addMould_75 rfl ?_
            refine g_get hC rfl rO rfl kl_X5 0 (by decide) kf_X5_7 rfl rfl dX5_addMould_76 ?_
            refine g_iload hC dX5_addMould_79 rfl ?_
            refine g_iald hC rfl rA1001 k rfl (by omega) (by decide) dX5_addMould_81 ?_
            refine g_iast hC rfl rA1003 (10 * i + k) (ix10 (by rw [hM1]; exact ei) rfl) (by omega) (by decide) dX5_addMould_82 (fun en24 hen24 => ?_)
            replace hen24 := rQ1003 hen24
            obtain ⟨M24, hM24, hen24⟩ := hen24
            subst hen24
            refine g_iinc hC dX5_addMould_83 rfl (nI_inc k) (by decide) ?_
            refine g_goto (tgt := 52) hC dX5_addMould_86 (by decide) ?_
            exact g_lv (lv' := [(0, .ref (lo 1000)), (1, .int iv), (2, .int x), (3, .int y), (4, .int (nI (k + 1)))]) ⟨rfl, rfl, rfl, rfl, rfl, trivial⟩ (ihlp (k + 1) M24 (by omega) (by rw [hM24, hM1]; exact cp2_succ (by decide)))
        exact g_lv (lv' := [(0, .ref (lo 1000)), (1, .int iv), (2, .int x), (3, .int y), (4, .int (nI 0))]) ⟨rfl, rfl, rfl, rfl, rfl, trivial⟩ (lp n 0 M20 (by omega) (by rw [hM20, cp2_0]))
      · refine g_bipush (v := (-5)) hC dX5_addMould_33 (by decide) ?_
        refine g_ireti hR dX5_addMould_35 rfl ?_
        clear hR hC hI
        refine pRf_i ?_ ?_ <;> (try simp +decide only [up2_row, up2_self, pk_us]) <;> grind [sp_addMould]
    · refine g_bipush (v := (-3)) hC dX5_addMould_21 (by decide) ?_
      refine g_ireti hR dX5_addMould_23 rfl ?_
      clear hR hC hI
      refine pRf_i ?_ ?_ <;> (try simp +decide only [up2_row, up2_self, pk_us]) <;> grind [sp_addMould]
  · refine g_bipush (v := (-4)) hC dX5_addMould_8 (by decide) ?_
    refine g_ireti hR dX5_addMould_10 rfl ?_
    clear hR hC hI
    refine pRf_i ?_ ?_ <;> (try simp +decide only [up2_row, up2_self, pk_us]) <;> grind [sp_addMould]

set_option maxHeartbeats 4000000 in
set_option maxRecDepth 100000 in
theorem c_X5_addSheet (l : Launch) (X : gX) (b0 : Nat) (lo : gL) (M T : rM2) (e0 : gE) (hM : Iv M) (iv x y : Int32) : Ct l X b0 lo (enR X lo M T e0) yX5_addSheet cX5_addSheet 5 (some FieldType.int) (rM 2 45) [.ref (lo 1000), .int iv, .int x, .int y] (pRf X lo e0 (sp_addSheet M iv x y)) := by
  refine gMet (by decide) (Nat.le_of_ble_eq_true rfl) rfl ?_
  intro Z hC hI hR
  have hM0 := hM
  obtain ⟨n, hn, en⟩ := natOf (n := 10) hM.1 rfl (by decide)
  have hn2 : nt (M 20 1) = n := by rw [en]; exact nt_nI (by omega)
  obtain ⟨i, hi, ei⟩ := natOf (n := 30) hM.2.2.2.2.1 rfl (by decide)
  have hi2 : nSh M = i := by unfold nSh; rw [ei]; exact nt_nI (by omega)
  refine g_aload_n hC dX5_addSheet_0 rfl ?_
  refine g_get hC rfl rO rfl kl_X5 1 (by decide) kf_X5_68 rfl rfl dX5_addSheet_1 ?_
  refine g_iconst (v := 2) hC dX5_addSheet_4 (by decide) ?_
  refine g_icmp_ge (tgt := 11) hC dX5_addSheet_5 (by decide) (fun c5 => ?_) (fun c5 => ?_)
  · refine g_iload_n hC dX5_addSheet_11 rfl ?_
    refine g_iconst (v := (-1)) hC dX5_addSheet_12 (by decide) ?_
    refine g_icmp_eq (tgt := 29) hC dX5_addSheet_13 (by decide) (fun c13 => ?_) (fun c13 => ?_)
    · refine g_aload_n hC dX5_addSheet_29 rfl ?_
      refine g_get hC rfl rO rfl kl_X5 11 (by decide) kf_X5_99 rfl rfl dX5_addSheet_30 ?_
      refine g_bipush (v := 30) hC dX5_addSheet_33 (by decide) ?_
      refine g_icmp_ne (tgt := 41) hC dX5_addSheet_35 (by decide) (fun c35 => ?_) (fun c35 => ?_)
      · have hi9 : i < 30 := by
          rcases Nat.lt_or_ge i 30 with q | q
          · exact q
          · exact absurd (by rw [ei, show i = 30 by omega]; rfl) c35
        refine g_aload_n hC dX5_addSheet_41 rfl ?_
        refine g_get hC rfl rO rfl kl_X5 12 (by decide) kf_X5_38 rfl rfl dX5_addSheet_42 ?_
        refine g_aload_n hC dX5_addSheet_45 rfl ?_
        refine g_get hC rfl rO rfl kl_X5 11 (by decide) kf_X5_99 rfl rfl dX5_addSheet_46 ?_
        refine g_aload_n hC dX5_addSheet_49 rfl ?_
        refine g_get hC rfl rO rfl kl_X5 1 (by decide) kf_X5_68 rfl rfl dX5_addSheet_50 ?_
        refine g_iast hC rfl rA1008 i ei (by omega) (by decide) dX5_addSheet_53 (fun en25 hen25 => ?_)
        replace hen25 := rQ1008 hen25
        obtain ⟨M25, hM25, hen25⟩ := hen25
        subst hen25
        refine g_iconst (v := 0) hC dX5_addSheet_54 (by decide) ?_
        refine g_istore hC dX5_addSheet_55 (by decide) ?_
        have lp : ∀ (r : Nat) (k : Nat) (M1 : rM2), k + r = n → M1 = cp2 (up2 M 7 i (M 20 1)) 8 (10 * i) k → GO l X b0 Z 0 0 lo (enR X lo M1 T e0) 57 [(0, .ref (lo 1000)), (1, .int iv), (2, .int x), (3, .int y), (4, .int (nI k))] [] := by
          intro r
          induction r with
          | zero =>
            intro k M1 hk hM1
            have hkn : k = n := by omega
            subst hkn
            refine g_iload hC dX5_addSheet_57 rfl ?_
            refine g_aload_n hC dX5_addSheet_59 rfl ?_
            refine g_get hC rfl rO rfl kl_X5 1 (by decide) kf_X5_68 rfl rfl dX5_addSheet_60 ?_
            refine g_icmp_ge (tgt := 94) hC dX5_addSheet_63 (by decide) (fun c63 => ?_) (fun c63 => absurd (by rw [hM1]; show M 20 1 ≤ _; rw [en]; exact nI_le (by omega) (by omega)) c63)
            refine g_aload_n hC dX5_addSheet_94 rfl ?_
            refine g_get hC rfl rO rfl kl_X5 14 (by decide) kf_X5_44 rfl rfl dX5_addSheet_95 ?_
            refine g_aload_n hC dX5_addSheet_98 rfl ?_
            refine g_get hC rfl rO rfl kl_X5 11 (by decide) kf_X5_99 rfl rfl dX5_addSheet_99 ?_
            refine g_iload_n hC dX5_addSheet_102 rfl ?_
            refine g_iast hC rfl rA1010 i (by rw [hM1]; exact ei) (by omega) (by decide) dX5_addSheet_103 (fun en26 hen26 => ?_)
            replace hen26 := rQ1010 hen26
            obtain ⟨M26, hM26, hen26⟩ := hen26
            subst hen26
            refine g_aload_n hC dX5_addSheet_104 rfl ?_
            refine g_get hC rfl rO rfl kl_X5 15 (by decide) kf_X5_47 rfl rfl dX5_addSheet_105 ?_
            refine g_aload_n hC dX5_addSheet_108 rfl ?_
            refine g_get hC rfl rO rfl kl_X5 11 (by decide) kf_X5_99 rfl rfl dX5_addSheet_109 ?_
            refine g_iload_n hC dX5_addSheet_112 rfl ?_
            refine g_iast hC rfl rA1011 i (by rw [hM26, hM1]; exact ei) (by omega) (by decide) dX5_addSheet_113 (fun en27 hen27 => ?_)
            replace hen27 := rQ1011 hen27
            obtain ⟨M27, hM27, hen27⟩ := hen27
            subst hen27
            refine g_aload_n hC dX5_addSheet_114 rfl ?_
            refine g_get hC rfl rO rfl kl_X5 16 (by decide) kf_X5_50 rfl rfl dX5_addSheet_115 ?_
            refine g_aload_n hC dX5_addSheet_118 rfl ?_
            refine g_get hC rfl rO rfl kl_X5 11 (by decide) kf_X5_99 rfl rfl dX5_addSheet_119 ?_
            refine g_iload_n hC dX5_addSheet_122 rfl ?_
            refine g_iast hC rfl rA1012 i (by rw [hM27, hM26, hM1]; exact ei) (by omega) (by decide) dX5_addSheet_123 (fun en28 hen28 => ?_)
            replace hen28 := rQ1012 hen28
            obtain ⟨M28, hM28, hen28⟩ := hen28
            subst hen28
            refine g_aload_n hC dX5_addSheet_124 rfl ?_
            refine g_get hC rfl rO rfl kl_X5 17 (by decide) kf_X5_53 rfl rfl dX5_addSheet_125 ?_
            refine g_aload_n hC dX5_addSheet_128 rfl ?_
            refine g_get hC rfl rO rfl kl_X5 11 (by decide) kf_X5_99 rfl rfl dX5_addSheet_129 ?_
            refine g_iconst (v := 0) hC dX5_addSheet_132 (by decide) ?_
            refine g_iast hC rfl rA1013 i (by rw [hM28, hM27, hM26, hM1]; exact ei) (by omega) (by decide) dX5_addSheet_133 (fun en29 hen29 => ?_)
            replace hen29 := rQ1013 hen29
            obtain ⟨M29, hM29, hen29⟩ := hen29
            subst hen29
            refine g_aload_n hC dX5_addSheet_134 rfl ?_
            refine g_get hC rfl rO rfl kl_X5 18 (by decide) kf_X5_56 rfl rfl dX5_addSheet_135 ?_
            refine g_aload_n hC dX5_addSheet_138 rfl ?_
            refine g_get hC rfl rO rfl kl_X5 11 (by decide) kf_X5_99 rfl rfl dX5_addSheet_139 ?_
            refine g_sipush (v := 9999) hC dX5_addSheet_142 (by decide) ?_
            refine g_iast hC rfl rA1014 i (by rw [hM29, hM28, hM27, hM26, hM1]; exact ei) (by omega) (by decide) dX5_addSheet_145 (fun en30 hen30 => ?_)
            replace hen30 := rQ1014 hen30
            obtain ⟨M30, hM30, hen30⟩ := hen30
            subst hen30
            refine g_aload_n hC dX5_addSheet_146 rfl ?_
            refine g_dup hC dX5_addSheet_147 rfl ?_
            refine g_get hC rfl rO rfl kl_X5 11 (by decide) kf_X5_99 rfl rfl dX5_addSheet_148 ?_
            refine g_iconst (v := 1) hC dX5_addSheet_151 (by decide) ?_
            refine g_iadd hC dX5_addSheet_152 ?_
            refine g_put (ty := .int) hC rfl rO rfl kl_X5 11 (by decide) kf_X5_99 rfl tyX5 tyX5_ok nmX5 rfl (by decide +kernel) rfl rfl (Nat.le_of_ble_eq_true rfl) dX5_addSheet_153 (fun en31 hen31 => ?_)
            replace hen31 := rP11 hen31
            obtain ⟨M31, hM31, hen31⟩ := hen31
            subst hen31
            refine g_aload_n hC dX5_addSheet_156 rfl ?_
            refine g_get hC rfl rO rfl kl_X5 11 (by decide) kf_X5_99 rfl rfl dX5_addSheet_157 ?_
            refine g_iconst (v := 1) hC dX5_addSheet_160 (by decide) ?_
            refine g_isub hC dX5_addSheet_161 ?_
            refine g_ireti hR dX5_addSheet_162 rfl ?_
            clear hR hC hI
            have hP : M30 20 11 = M 20 11 := by
              rw [hM30, hM29, hM28, hM27, hM26, hM1]
              simp +decide [up2, cp2]
            subst hM31
            subst hM30
            subst hM29
            subst hM28
            subst hM27
            subst hM26
            subst hM1
            refine pRf_i ?_ ?_
            · simp +decide only [up2_self, pk_us, hP]
              grind [sp_addSheet]
            · rw [hP]
              grind [sp_addSheet, adS]
          | succ r ihlp =>
            intro k M1 hk hM1
            refine g_iload hC dX5_addSheet_57 rfl ?_
            refine g_aload_n hC dX5_addSheet_59 rfl ?_
            refine g_get hC rfl rO rfl kl_X5 1 (by decide) kf_X5_68 rfl rfl dX5_addSheet_60 ?_
            refine g_icmp_ge (tgt := 94) hC dX5_addSheet_63 (by decide) (fun c63 => absurd c63 (by rw [hM1]; show ¬ M 20 1 ≤ _; rw [en]; exact nI_ge (by omega) (by omega))) (fun c63 => ?_)
            refine g_aload_n hC dX5_addSheet_66 rfl ?_
            refine g_get hC rfl rO rfl kl_X5 13 (by decide) kf_X5_41 rfl rfl dX5_addSheet_67 ?_
            refine g_bipush (v := 10) hC dX5_addSheet_70 (by decide) ?_
            refine g_aload_n hC dX5_addSheet_72 rfl ?_
            refine g_get hC rfl rO rfl kl_X5 11 (by decide) kf_X5_99 rfl rfl dX5_addSheet_73 ?_
            refine g_imul hC dX5_addSheet_76 ?_
            refine g_iload hC dX5_addSheet_77 rfl ?_
            refine g_iadd hC dX5_addSheet_79 ?_
            refine g_aload_n hC dX5_addSheet_80 rfl ?_
            refine g_get hC rfl rO rfl kl_X5 0 (by decide) kf_X5_7 rfl rfl dX5_addSheet_81 ?_
            refine g_iload hC dX5_addSheet_84 rfl ?_
            refine g_iald hC rfl rA1001 k rfl (by omega) (by decide) dX5_addSheet_86 ?_
            refine g_iast hC rfl rA1009 (10 * i + k) (ix10 (by rw [hM1]; exact ei) rfl) (by omega) (by decide) dX5_addSheet_87 (fun en32 hen32 => ?_)
            replace hen32 := rQ1009 hen32
            obtain ⟨M32, hM32, hen32⟩ := hen32
            subst hen32
            refine g_iinc hC dX5_addSheet_88 rfl (nI_inc k) (by decide) ?_
            refine g_goto (tgt := 57) hC dX5_addSheet_91 (by decide) ?_
            exact g_lv (lv' := [(0, .ref (lo 1000)), (1, .int iv), (2, .int x), (3, .int y), (4, .int (nI (k + 1)))]) ⟨rfl, rfl, rfl, rfl, rfl, trivial⟩ (ihlp (k + 1) M32 (by omega) (by rw [hM32, hM1]; exact cp2_succ (by decide)))
        exact g_lv (lv' := [(0, .ref (lo 1000)), (1, .int iv), (2, .int x), (3, .int y), (4, .int (nI 0))]) ⟨rfl, rfl, rfl, rfl, rfl, trivial⟩ (lp n 0 M25 (by omega) (by rw [hM25, cp2_0]))
      · refine g_bipush (v := (-5)) hC dX5_addSheet_38 (by decide) ?_
        refine g_ireti hR dX5_addSheet_40 rfl ?_
        clear hR hC hI
        refine pRf_i ?_ ?_ <;> (try simp +decide only [up2_row, up2_self, pk_us]) <;> grind [sp_addSheet]
    · refine g_aload_n hC dX5_addSheet_16 rfl ?_
      refine g_iload_n hC dX5_addSheet_17 rfl ?_
      refine g_iload_n hC dX5_addSheet_18 rfl ?_
      refine g_iload_n hC dX5_addSheet_19 rfl ?_
      refine g_callV hC v_X5_isMark km_X5_78 (c_X5_isMark l X b0 lo _ _ e0 hM _ _ _) rfl rO rfl rfl rfl rfl (Nat.le_of_ble_eq_true rfl) ⟨by decide, by decide⟩ ⟨by decide, by decide⟩ dX5_addSheet_20 (kX ?_)
      refine g_if_ne (tgt := 29) hC dX5_addSheet_23 (by decide) (fun c23 => ?_) (fun c23 => ?_)
      · refine g_aload_n hC dX5_addSheet_29 rfl ?_
        refine g_get hC rfl rO rfl kl_X5 11 (by decide) kf_X5_99 rfl rfl dX5_addSheet_30 ?_
        refine g_bipush (v := 30) hC dX5_addSheet_33 (by decide) ?_
        refine g_icmp_ne (tgt := 41) hC dX5_addSheet_35 (by decide) (fun c35 => ?_) (fun c35 => ?_)
        · have hi9 : i < 30 := by
            rcases Nat.lt_or_ge i 30 with q | q
            · exact q
            · exact absurd (by rw [ei, show i = 30 by omega]; rfl) c35
          refine g_aload_n hC dX5_addSheet_41 rfl ?_
          refine g_get hC rfl rO rfl kl_X5 12 (by decide) kf_X5_38 rfl rfl dX5_addSheet_42 ?_
          refine g_aload_n hC dX5_addSheet_45 rfl ?_
          refine g_get hC rfl rO rfl kl_X5 11 (by decide) kf_X5_99 rfl rfl dX5_addSheet_46 ?_
          refine g_aload_n hC dX5_addSheet_49 rfl ?_
          refine g_get hC rfl rO rfl kl_X5 1 (by decide) kf_X5_68 rfl rfl dX5_addSheet_50 ?_
          refine g_iast hC rfl rA1008 i ei (by omega) (by decide) dX5_addSheet_53 (fun en33 hen33 => ?_)
          replace hen33 := rQ1008 hen33
          obtain ⟨M33, hM33, hen33⟩ := hen33
          subst hen33
          refine g_iconst (v := 0) hC dX5_addSheet_54 (by decide) ?_
          refine g_istore hC dX5_addSheet_55 (by decide) ?_
          have lp : ∀ (r : Nat) (k : Nat) (M1 : rM2), k + r = n → M1 = cp2 (up2 M 7 i (M 20 1)) 8 (10 * i) k → GO l X b0 Z 0 0 lo (enR X lo M1 T e0) 57 [(0, .ref (lo 1000)), (1, .int iv), (2, .int x), (3, .int y), (4, .int (nI k))] [] := by
            intro r
            induction r with
            | zero =>
              intro k M1 hk hM1
              have hkn : k = n := by omega
              subst hkn
              refine g_iload hC dX5_addSheet_57 rfl ?_
              refine g_aload_n hC dX5_addSheet_59 rfl ?_
              refine g_get hC rfl rO rfl kl_X5 1 (by decide) kf_X5_68 rfl rfl dX5_addSheet_60 ?_
              refine g_icmp_ge (tgt := 94) hC dX5_addSheet_63 (by decide) (fun c63 => ?_) (fun c63 => absurd (by rw [hM1]; show M 20 1 ≤ _; rw [en]; exact nI_le (by omega) (by omega)) c63)
              refine g_aload_n hC dX5_addSheet_94 rfl ?_
              refine g_get hC rfl rO rfl kl_X5 14 (by decide) kf_X5_44 rfl rfl dX5_addSheet_95 ?_
              refine g_aload_n hC dX5_addSheet_98 rfl ?_
              refine g_get hC rfl rO rfl kl_X5 11 (by decide) kf_X5_99 rfl rfl dX5_addSheet_99 ?_
              refine g_iload_n hC dX5_addSheet_102 rfl ?_
              refine g_iast hC rfl rA1010 i (by rw [hM1]; exact ei) (by omega) (by decide) dX5_addSheet_103 (fun en34 hen34 => ?_)
              replace hen34 := rQ1010 hen34
              obtain ⟨M34, hM34, hen34⟩ := hen34
              subst hen34
              refine g_aload_n hC dX5_addSheet_104 rfl ?_
              refine g_get hC rfl rO rfl kl_X5 15 (by decide) kf_X5_47 rfl rfl dX5_addSheet_105 ?_
              refine g_aload_n hC dX5_addSheet_108 rfl ?_
              refine g_get hC rfl rO rfl kl_X5 11 (by decide) kf_X5_99 rfl rfl dX5_addSheet_109 ?_
              refine g_iload_n hC dX5_addSheet_112 rfl ?_
              refine g_iast hC rfl rA1011 i (by rw [hM34, hM1]; exact ei) (by omega) (by decide) dX5_addSheet_113 (fun en35 hen35 => ?_)
              replace hen35 := rQ1011 hen35
              obtain ⟨M35, hM35, hen35⟩ := hen35
              subst hen35
              refine g_aload_n hC dX5_addSheet_114 rfl ?_
              refine g_get hC rfl rO rfl kl_X5 16 (by decide) kf_X5_50 rfl rfl dX5_addSheet_115 ?_
              refine g_aload_n hC dX5_addSheet_118 rfl ?_
              refine g_get hC rfl rO rfl kl_X5 11 (by decide) kf_X5_99 rfl rfl dX5_addSheet_119 ?_
              refine g_iload_n hC dX5_addSheet_122 rfl ?_
              refine g_iast hC rfl rA1012 i (by rw [hM35, hM34, hM1]; exact ei) (by omega) (by decide) dX5_addSheet_123 (fun en36 hen36 => ?_)
              replace hen36 := rQ1012 hen36
              obtain ⟨M36, hM36, hen36⟩ := hen36
              subst hen36
              refine g_aload_n hC dX5_addSheet_124 rfl ?_
              refine g_get hC rfl rO rfl kl_X5 17 (by decide) kf_X5_53 rfl rfl dX5_addSheet_125 ?_
              refine g_aload_n hC dX5_addSheet_128 rfl ?_
              refine g_get hC rfl rO rfl kl_X5 11 (by decide) kf_X5_99 rfl rfl dX5_addSheet_129 ?_
              refine g_iconst (v := 0) hC dX5_addSheet_132 (by decide) ?_
              refine g_iast hC rfl rA1013 i (by rw [hM36, hM35, hM34, hM1]; exact ei) (by omega) (by decide) dX5_addSheet_133 (fun en37 hen37 => ?_)
              replace hen37 := rQ1013 hen37
              obtain ⟨M37, hM37, hen37⟩ := hen37
              subst hen37
              refine g_aload_n hC dX5_addSheet_134 rfl ?_
              refine g_get hC rfl rO rfl kl_X5 18 (by decide) kf_X5_56 rfl rfl dX5_addSheet_135 ?_
              refine g_aload_n hC dX5_addSheet_138 rfl ?_
              refine g_get hC rfl rO rfl kl_X5 11 (by decide) kf_X5_99 rfl rfl dX5_addSheet_139 ?_
              refine g_sipush (v := 9999) hC dX5_addSheet_142 (by decide) ?_
              refine g_iast hC rfl rA1014 i (by rw [hM37, hM36, hM35, hM34, hM1]; exact ei) (by omega) (by decide) dX5_addSheet_145 (fun en38 hen38 => ?_)
              replace hen38 := rQ1014 hen38
              obtain ⟨M38, hM38, hen38⟩ := hen38
              subst hen38
              refine g_aload_n hC dX5_addSheet_146 rfl ?_
              refine g_dup hC dX5_addSheet_147 rfl ?_
              refine g_get hC rfl rO rfl kl_X5 11 (by decide) kf_X5_99 rfl rfl dX5_addSheet_148 ?_
              refine g_iconst (v := 1) hC dX5_addSheet_151 (by decide) ?_
              refine g_iadd hC dX5_addSheet_152 ?_
              refine g_put (ty := .int) hC rfl rO rfl kl_X5 11 (by decide) kf_X5_99 rfl tyX5 tyX5_ok nmX5 rfl (by decide +kernel) rfl rfl (Nat.le_of_ble_eq_true rfl) dX5_addSheet_153 (fun en39 hen39 => ?_)
              replace hen39 := rP11 hen39
              obtain ⟨M39, hM39, hen39⟩ := hen39
              subst hen39
              refine g_aload_n hC dX5_addSheet_156 rfl ?_
              refine g_get hC rfl rO rfl kl_X5 11 (by decide) kf_X5_99 rfl rfl dX5_addSheet_157 ?_
              refine g_iconst (v := 1) hC dX5_addSheet_160 (by decide) ?_
              refine g_isub hC dX5_addSheet_161 ?_
              refine g_ireti hR dX5_addSheet_162 rfl ?_
              clear hR hC hI
              have hP : M38 20 11 = M 20 11 := by
                rw [hM38, hM37, hM36, hM35, hM34, hM1]
                simp +decide [up2, cp2]
              subst hM39
              subst hM38
              subst hM37
              subst hM36
              subst hM35
              subst hM34
              subst hM1
              refine pRf_i ?_ ?_
              · simp +decide only [up2_self, pk_us, hP]
                grind [sp_addSheet]
              · rw [hP]
                grind [sp_addSheet, adS]
            | succ r ihlp =>
              intro k M1 hk hM1
              refine g_iload hC dX5_addSheet_57 rfl ?_
              refine g_aload_n hC dX5_addSheet_59 rfl ?_
              refine g_get hC rfl rO rfl kl_X5 1 (by decide) kf_X5_68 rfl rfl dX5_addSheet_60 ?_
              refine g_icmp_ge (tgt := 94) hC dX5_addSheet_63 (by decide) (fun c63 => absurd c63 (by rw [hM1]; show ¬ M 20 1 ≤ _; rw [en]; exact nI_ge (by omega) (by omega))) (fun c63 => ?_)
              refine g_aload_n hC dX5_addSheet_66 rfl ?_
              refine g_get hC rfl rO rfl kl_X5 13 (by decide) kf_X5_41 rfl rfl dX5_addSheet_67 ?_
              refine g_bipush (v := 10) hC dX5_addSheet_70 (by decide) ?_
              refine g_aload_n hC dX5_addSheet_72 rfl ?_
              refine g_get hC rfl rO rfl kl_X5 11 (by decide) kf_X5_99 rfl rfl dX5_addSheet_73 ?_
              refine g_imul hC dX5_addSheet_76 ?_
              refine g_iload hC dX5_addSheet_77 rfl ?_
              refine g_iadd hC dX5_addSheet_79 ?_
              refine g_aload_n hC dX5_addSheet_80 rfl ?_
              refine g_get hC rfl rO rfl kl_X5 0 (by decide) kf_X5_7 rfl rfl dX5_addSheet_81 ?_
              refine g_iload hC dX5_addSheet_84 rfl ?_
              refine g_iald hC rfl rA1001 k rfl (by omega) (by decide) dX5_addSheet_86 ?_
              refine g_iast hC rfl rA1009 (10 * i + k) (ix10 (by rw [hM1]; exact ei) rfl) (by omega) (by decide) dX5_addSheet_87 (fun en40 hen40 => ?_)
              replace hen40 := rQ1009 hen40
              obtain ⟨M40, hM40, hen40⟩ := hen40
              subst hen40
              refine g_iinc hC dX5_addSheet_88 rfl (nI_inc k) (by decide) ?_
              refine g_goto (tgt := 57) hC dX5_addSheet_91 (by decide) ?_
              exact g_lv (lv' := [(0, .ref (lo 1000)), (1, .int iv), (2, .int x), (3, .int y), (4, .int (nI (k + 1)))]) ⟨rfl, rfl, rfl, rfl, rfl, trivial⟩ (ihlp (k + 1) M40 (by omega) (by rw [hM40, hM1]; exact cp2_succ (by decide)))
          exact g_lv (lv' := [(0, .ref (lo 1000)), (1, .int iv), (2, .int x), (3, .int y), (4, .int (nI 0))]) ⟨rfl, rfl, rfl, rfl, rfl, trivial⟩ (lp n 0 M33 (by omega) (by rw [hM33, cp2_0]))
        · refine g_bipush (v := (-5)) hC dX5_addSheet_38 (by decide) ?_
          refine g_ireti hR dX5_addSheet_40 rfl ?_
          clear hR hC hI
          refine pRf_i ?_ ?_ <;> (try simp +decide only [up2_row, up2_self, pk_us]) <;> grind [sp_addSheet]
      · refine g_bipush (v := (-3)) hC dX5_addSheet_26 (by decide) ?_
        refine g_ireti hR dX5_addSheet_28 rfl ?_
        clear hR hC hI
        refine pRf_i ?_ ?_ <;> (try simp +decide only [up2_row, up2_self, pk_us]) <;> grind [sp_addSheet]
  · refine g_bipush (v := (-4)) hC dX5_addSheet_8 (by decide) ?_
    refine g_ireti hR dX5_addSheet_10 rfl ?_
    clear hR hC hI
    refine pRf_i ?_ ?_ <;> (try simp +decide only [up2_row, up2_self, pk_us]) <;> grind [sp_addSheet]
end
section
/-! ===== the reference: placements ===== -/
theorem bz {rv : Bool} (h : (if rv then (1 : Int32) else 0) = 0) : rv = false := by cases rv <;> first | rfl | exact absurd h (by decide)
theorem bn {rv : Bool} (h : ¬ (if rv then (1 : Int32) else 0) = 0) : rv = true := by cases rv <;> first | rfl | exact absurd rfl h
theorem sub2 {x : Int32} {n q : Nat} (h : x = nI n) (hq : q + 1 ≤ n) : x - 1 - nI q = nI (n - 1 - q) := by
  rw [h, show (1 : Int32) = nI 1 from rfl, pk_sub (by omega), pk_sub (by omega)]
theorem up2_up2 {T : rM2} {a i : Nat} {v w : Int32} : up2 (up2 T a i v) a i w = up2 T a i w := by
  funext b j
  unfold up2
  split <;> rfl
theorem up2_same {T : rM2} {a i : Nat} {v : Int32} (h : v = T a i) : up2 T a i v = T := by
  funext b j
  unfold up2
  split
  · rename_i h1; rw [h1.1, h1.2, h]
  · rfl

set_option maxHeartbeats 4000000 in
set_option maxRecDepth 100000 in
theorem c_X5_spacingScore (l : Launch) (X : gX) (b0 : Nat) (lo : gL) (M T : rM2) (e0 : gE) (hM : Iv M) (j i o : Nat) (hj : j < nSh M) (hi : i < nMo M) (ho : o + nt (M 7 j) ≤ nt (M 1 i)) (rv : Bool) (f : Int32) : Ct l X b0 lo (enR X lo M T e0) yX5_spacingScore cX5_spacingScore 11 (some FieldType.int) (rM 1 21) [.ref (lo 1000), .int (nI j), .int (nI i), .int (if rv then 1 else 0), .int (nI o), .int f] (pX (.int (oI (ssF (sS M j rv) (qQ M i o) (M 20 2) f (nt (M 7 j))))) lo (enR X lo M T e0)) := by
  refine gMet (by decide) (Nat.le_of_ble_eq_true rfl) rfl ?_
  intro Z hC hI hR
  obtain ⟨n, hn2, hn10, en, en2⟩ := Iv_sh hM hj
  obtain ⟨n', hn2', hn10', en', en2'⟩ := Iv_mo hM hi
  have hS := (Iv_nS hM).1
  have hMo := (Iv_nM hM).1
  refine g_aload_n hC dX5_spacingScore_0 rfl ?_
  refine g_get hC rfl rO rfl kl_X5 12 (by decide) kf_X5_38 rfl rfl dX5_spacingScore_1 ?_
  refine g_iload_n hC dX5_spacingScore_4 rfl ?_
  refine g_iald hC rfl rA1008 j rfl (by omega) (by decide) dX5_spacingScore_5 ?_
  refine g_istore hC dX5_spacingScore_6 (by decide) ?_
  refine g_iconst (v := 0) hC dX5_spacingScore_8 (by decide) ?_
  refine g_istore hC dX5_spacingScore_9 (by decide) ?_
  refine g_iconst (v := 0) hC dX5_spacingScore_11 (by decide) ?_
  refine g_istore hC dX5_spacingScore_12 (by decide) ?_
  have lp : ∀ (r : Nat) (q : Nat) (s : Int32), q + r = n → ssF (sS M j rv) (qQ M i o) (M 20 2) f q = some s → GO l X b0 Z 0 0 lo (enR X lo M T e0) 14 [(0, .ref (lo 1000)), (1, .int (nI j)), (2, .int (nI i)), (3, .int (if rv then 1 else 0)), (4, .int (nI o)), (5, .int f), (6, .int (M 7 j)), (7, .int s), (8, .int (nI q))] [] := by
    intro r
    induction r with
    | zero =>
      intro q s hq hs
      have hkn : q = n := by omega
      subst hkn
      refine g_iload hC dX5_spacingScore_14 rfl ?_
      refine g_iload hC dX5_spacingScore_16 rfl ?_
      refine g_icmp_ge (tgt := 103) hC dX5_spacingScore_18 (by decide) (fun c18 => ?_) (fun c18 => absurd (by rw [en]; exact nI_le (by omega) (by omega)) c18)
      refine g_iload hC dX5_spacingScore_103 rfl ?_
      refine g_ireti hR dX5_spacingScore_105 rfl ?_
      clear hR hC hI
      refine pXi ?_
      rw [en2, hs]
      rfl
    | succ r ihlp =>
      intro q s hq hs
      refine g_iload hC dX5_spacingScore_14 rfl ?_
      refine g_iload hC dX5_spacingScore_16 rfl ?_
      refine g_icmp_ge (tgt := 103) hC dX5_spacingScore_18 (by decide) (fun c18 => absurd c18 (by rw [en]; exact nI_ge (by omega) (by omega))) (fun c18 => ?_)
      refine g_aload_n hC dX5_spacingScore_21 rfl ?_
      refine g_get hC rfl rO rfl kl_X5 13 (by decide) kf_X5_41 rfl rfl dX5_spacingScore_22 ?_
      refine g_bipush (v := 10) hC dX5_spacingScore_25 (by decide) ?_
      refine g_iload_n hC dX5_spacingScore_27 rfl ?_
      refine g_imul hC dX5_spacingScore_28 ?_
      refine g_iload_n hC dX5_spacingScore_29 rfl ?_
      refine g_if_eq (tgt := 43) hC dX5_spacingScore_30 (by decide) (fun c30 => ?_) (fun c30 => ?_)
      · refine g_iload hC dX5_spacingScore_43 rfl ?_
        refine g_val (y := nI (if rv then nt (M 7 j) - 1 - q else q)) (by first | (rw [bz c30]; rfl) | (rw [bn c30]; exact sub2 (by rw [en2]; exact en) (by omega))) ?_
        refine g_iadd hC dX5_spacingScore_45 ?_
        refine g_iald hC rfl rA1009 (10 * j + (if rv then nt (M 7 j) - 1 - q else q)) (ix10 rfl rfl) (by split <;> omega) (by decide) dX5_spacingScore_46 ?_
        refine g_istore hC dX5_spacingScore_47 (by decide) ?_
        refine g_iload hC dX5_spacingScore_49 rfl ?_
        refine g_aload_n hC dX5_spacingScore_51 rfl ?_
        refine g_get hC rfl rO rfl kl_X5 6 (by decide) kf_X5_23 rfl rfl dX5_spacingScore_52 ?_
        refine g_bipush (v := 10) hC dX5_spacingScore_55 (by decide) ?_
        refine g_iload_n hC dX5_spacingScore_57 rfl ?_
        refine g_imul hC dX5_spacingScore_58 ?_
        refine g_iload hC dX5_spacingScore_59 rfl ?_
        refine g_iadd hC dX5_spacingScore_61 ?_
        refine g_iload hC dX5_spacingScore_62 rfl ?_
        refine g_iadd hC dX5_spacingScore_64 ?_
        refine g_iald hC rfl rA1003 (10 * i + o + q) (nI_maa 10 i o q) (by omega) (by decide) dX5_spacingScore_65 ?_
        refine g_iload hC dX5_spacingScore_66 rfl ?_
        refine g_imul hC dX5_spacingScore_68 ?_
        refine g_sipush (v := 1000) hC dX5_spacingScore_69 (by decide) ?_
        refine g_idiv hC dX5_spacingScore_72 (by decide) ?_
        refine g_callS hC v_X5_apart km_X5_89 (c_X5_apart l X b0 lo _ _ _) rfl rfl (Nat.le_of_ble_eq_true rfl) ⟨by decide, by decide⟩ ⟨by decide, by decide⟩ dX5_spacingScore_73 (kX ?_)
        refine g_istore hC dX5_spacingScore_76 (by decide) ?_
        refine g_iload hC dX5_spacingScore_78 rfl ?_
        refine g_aload_n hC dX5_spacingScore_80 rfl ?_
        refine g_get hC rfl rO rfl kl_X5 2 (by decide) kf_X5_13 rfl rfl dX5_spacingScore_81 ?_
        refine g_icmp_le (tgt := 90) hC dX5_spacingScore_84 (by decide) (fun c84 => ?_) (fun c84 => ?_)
        · refine g_iload hC dX5_spacingScore_90 rfl ?_
          refine g_iload hC dX5_spacingScore_92 rfl ?_
          refine g_iadd hC dX5_spacingScore_94 ?_
          refine g_istore hC dX5_spacingScore_95 (by decide) ?_
          refine g_iinc hC dX5_spacingScore_97 rfl (nI_inc q) (by decide) ?_
          refine g_goto (tgt := 14) hC dX5_spacingScore_100 (by decide) ?_
          exact g_lv (lv' := [(0, .ref (lo 1000)), (1, .int (nI j)), (2, .int (nI i)), (3, .int (if rv then 1 else 0)), (4, .int (nI o)), (5, .int f), (6, .int (M 7 j)), (7, .int (s + ap (sS M j rv q) (qQ M i o q * f / 1000))), (8, .int (nI (q + 1)))]) ⟨rfl, rfl, rfl, rfl, rfl, rfl, rfl, rfl, rfl, trivial⟩ (ihlp (q + 1) _ (by omega) (by rw [ssF, hs]; exact if_neg (Int32.not_lt.mpr c84)))
        · refine g_bipush (v := (-6)) hC dX5_spacingScore_87 (by decide) ?_
          refine g_ireti hR dX5_spacingScore_89 rfl ?_
          clear hR hC hI
          refine pXi ?_
          rw [ssF_none (k := q + 1) (by rw [ssF, hs]; exact if_pos (by have := c84; grind [sS, qQ])) (by omega)]
          rfl
      · refine g_iload hC dX5_spacingScore_33 rfl ?_
        refine g_iconst (v := 1) hC dX5_spacingScore_35 (by decide) ?_
        refine g_isub hC dX5_spacingScore_36 ?_
        refine g_iload hC dX5_spacingScore_37 rfl ?_
        refine g_isub hC dX5_spacingScore_39 ?_
        refine g_goto (tgt := 45) hC dX5_spacingScore_40 (by decide) ?_
        refine g_val (y := nI (if rv then nt (M 7 j) - 1 - q else q)) (by first | (rw [bz c30]; rfl) | (rw [bn c30]; exact sub2 (by rw [en2]; exact en) (by omega))) ?_
        refine g_iadd hC dX5_spacingScore_45 ?_
        refine g_iald hC rfl rA1009 (10 * j + (if rv then nt (M 7 j) - 1 - q else q)) (ix10 rfl rfl) (by split <;> omega) (by decide) dX5_spacingScore_46 ?_
        refine g_istore hC dX5_spacingScore_47 (by decide) ?_
        refine g_iload hC dX5_spacingScore_49 rfl ?_
        refine g_aload_n hC dX5_spacingScore_51 rfl ?_
        refine g_get hC rfl rO rfl kl_X5 6 (by decide) kf_X5_23 rfl rfl dX5_spacingScore_52 ?_
        refine g_bipush (v := 10) hC dX5_spacingScore_55 (by decide) ?_
        refine g_iload_n hC dX5_spacingScore_57 rfl ?_
        refine g_imul hC dX5_spacingScore_58 ?_
        refine g_iload hC dX5_spacingScore_59 rfl ?_
        refine g_iadd hC dX5_spacingScore_61 ?_
        refine g_iload hC dX5_spacingScore_62 rfl ?_
        refine g_iadd hC dX5_spacingScore_64 ?_
        refine g_iald hC rfl rA1003 (10 * i + o + q) (nI_maa 10 i o q) (by omega) (by decide) dX5_spacingScore_65 ?_
        refine g_iload hC dX5_spacingScore_66 rfl ?_
        refine g_imul hC dX5_spacingScore_68 ?_
        refine g_sipush (v := 1000) hC dX5_spacingScore_69 (by decide) ?_
        refine g_idiv hC dX5_spacingScore_72 (by decide) ?_
        refine g_callS hC v_X5_apart km_X5_89 (c_X5_apart l X b0 lo _ _ _) rfl rfl (Nat.le_of_ble_eq_true rfl) ⟨by decide, by decide⟩ ⟨by decide, by decide⟩ dX5_spacingScore_73 (kX ?_)
        refine g_istore hC dX5_spacingScore_76 (by decide) ?_
        refine g_iload hC dX5_spacingScore_78 rfl ?_
        refine g_aload_n hC dX5_spacingScore_80 rfl ?_
        refine g_get hC rfl rO rfl kl_X5 2 (by decide) kf_X5_13 rfl rfl dX5_spacingScore_81 ?_
        refine g_icmp_le (tgt := 90) hC dX5_spacingScore_84 (by decide) (fun c84 => ?_) (fun c84 => ?_)
        · refine g_iload hC dX5_spacingScore_90 rfl ?_
          refine g_iload hC dX5_spacingScore_92 rfl ?_
          refine g_iadd hC dX5_spacingScore_94 ?_
          refine g_istore hC dX5_spacingScore_95 (by decide) ?_
          refine g_iinc hC dX5_spacingScore_97 rfl (nI_inc q) (by decide) ?_
          refine g_goto (tgt := 14) hC dX5_spacingScore_100 (by decide) ?_
          exact g_lv (lv' := [(0, .ref (lo 1000)), (1, .int (nI j)), (2, .int (nI i)), (3, .int (if rv then 1 else 0)), (4, .int (nI o)), (5, .int f), (6, .int (M 7 j)), (7, .int (s + ap (sS M j rv q) (qQ M i o q * f / 1000))), (8, .int (nI (q + 1)))]) ⟨rfl, rfl, rfl, rfl, rfl, rfl, rfl, rfl, rfl, trivial⟩ (ihlp (q + 1) _ (by omega) (by rw [ssF, hs]; exact if_neg (Int32.not_lt.mpr c84)))
        · refine g_bipush (v := (-6)) hC dX5_spacingScore_87 (by decide) ?_
          refine g_ireti hR dX5_spacingScore_89 rfl ?_
          clear hR hC hI
          refine pXi ?_
          rw [ssF_none (k := q + 1) (by rw [ssF, hs]; exact if_pos (by have := c84; grind [sS, qQ])) (by omega)]
          rfl
  exact g_lv (lv' := [(0, .ref (lo 1000)), (1, .int (nI j)), (2, .int (nI i)), (3, .int (if rv then 1 else 0)), (4, .int (nI o)), (5, .int f), (6, .int (M 7 j)), (7, .int 0), (8, .int (nI 0))]) ⟨rfl, rfl, rfl, rfl, rfl, rfl, rfl, rfl, rfl, trivial⟩ (lp n 0 0 (by omega) rfl)

def msV (o : Option (Nat × Int32)) : Int32 := match o with | none => -6 | some q => q.2
def msS (o : Option (Nat × Int32)) : Int32 := match o with | none => -6 | some q => nI q.1

set_option maxHeartbeats 4000000 in
set_option maxRecDepth 100000 in
theorem c_X5_markScore (l : Launch) (X : gX) (b0 : Nat) (lo : gL) (M T : rM2) (e0 : gE) (hM : Iv M) (i : Nat) (hi : i < nMo M) (x y f : Int32) (hx : inR 0 x 450) (hy : inR 0 y 450) (hf : inR 940 f 1000) : Ct l X b0 lo (enR X lo M T e0) yX5_markScore cX5_markScore 10 (some FieldType.int) (rM 1 21) [.ref (lo 1000), .int (nI i), .int x, .int y, .int f] (pI lo (fun r en' => r = msV (msM M i x y f (nt (M 4 i))) ∧ en' = enR X lo M (up2 T 3 19 (msS (msM M i x y f (nt (M 4 i))))) e0)) := by
  refine gMet (by decide) (Nat.le_of_ble_eq_true rfl) rfl ?_
  intro Z hC hI hR
  obtain ⟨n, hn1, hn6, en, en2⟩ := Iv_st hM hi
  have hMo := (Iv_nM hM).1
  have hnn : ∀ k, k < n → ∀ q, msM M i x y f k = some q → 0 ≤ q.2 := fun k hk q hq => (msF_R hx hy hf (fun a ha => by have := (hM.2.2.2.2.2.2.1 i hi).2.2.2.2 a (by omega); exact ⟨this.1, by grind⟩) hq).2.1
  refine g_bipush (v := (-6)) hC dX5_markScore_0 (by decide) ?_
  refine g_istore hC dX5_markScore_2 (by decide) ?_
  refine g_aload_n hC dX5_markScore_4 rfl ?_
  refine g_bipush (v := (-6)) hC dX5_markScore_5 (by decide) ?_
  refine g_put (ty := .int) hC rfl rO rfl kl_X5 19 (by decide) kf_X5_105 rfl tyX5 tyX5_ok nmX5 rfl (by decide +kernel) rfl rfl (Nat.le_of_ble_eq_true rfl) dX5_markScore_7 (fun en20 hen20 => ?_)
  replace hen20 := rP19 hen20
  obtain ⟨T20, hT20, hen20⟩ := hen20
  subst hen20
  refine g_iconst (v := 0) hC dX5_markScore_10 (by decide) ?_
  refine g_istore hC dX5_markScore_11 (by decide) ?_
  have lp : ∀ (r : Nat) (k : Nat) (T1 : rM2), k + r = n → T1 = up2 T 3 19 (msS (msM M i x y f k)) → GO l X b0 Z 0 0 lo (enR X lo M T1 e0) 13 [(0, .ref (lo 1000)), (1, .int (nI i)), (2, .int x), (3, .int y), (4, .int f), (5, .int (msV (msM M i x y f k))), (6, .int (nI k))] [] := by
    intro r
    induction r with
    | zero =>
      intro k T1 hk hT1
      have hkn : k = n := by omega
      subst hkn
      refine g_iload hC dX5_markScore_13 rfl ?_
      refine g_aload_n hC dX5_markScore_15 rfl ?_
      refine g_get hC rfl rO rfl kl_X5 8 (by decide) kf_X5_29 rfl rfl dX5_markScore_16 ?_
      refine g_iload_n hC dX5_markScore_19 rfl ?_
      refine g_iald hC rfl rA1005 i rfl (by omega) (by decide) dX5_markScore_20 ?_
      refine g_icmp_ge (tgt := 138) hC dX5_markScore_21 (by decide) (fun c21 => ?_) (fun c21 => absurd (by rw [en]; exact nI_le (by omega) (by omega)) c21)
      refine g_iload hC dX5_markScore_138 rfl ?_
      refine g_ireti hR dX5_markScore_140 rfl ?_
      clear hR hC hI
      rw [hT1, en2]
      exact ⟨rfl, _, rfl, rfl, rfl⟩
    | succ r ihlp =>
      intro k T1 hk hT1
      refine g_iload hC dX5_markScore_13 rfl ?_
      refine g_aload_n hC dX5_markScore_15 rfl ?_
      refine g_get hC rfl rO rfl kl_X5 8 (by decide) kf_X5_29 rfl rfl dX5_markScore_16 ?_
      refine g_iload_n hC dX5_markScore_19 rfl ?_
      refine g_iald hC rfl rA1005 i rfl (by omega) (by decide) dX5_markScore_20 ?_
      refine g_icmp_ge (tgt := 138) hC dX5_markScore_21 (by decide) (fun c21 => absurd c21 (by rw [en]; exact nI_ge (by omega) (by omega))) (fun c21 => ?_)
      refine g_iload_n hC dX5_markScore_24 rfl ?_
      refine g_aload_n hC dX5_markScore_25 rfl ?_
      refine g_get hC rfl rO rfl kl_X5 9 (by decide) kf_X5_32 rfl rfl dX5_markScore_26 ?_
      refine g_bipush (v := 6) hC dX5_markScore_29 (by decide) ?_
      refine g_iload_n hC dX5_markScore_31 rfl ?_
      refine g_imul hC dX5_markScore_32 ?_
      refine g_iload hC dX5_markScore_33 rfl ?_
      refine g_iadd hC dX5_markScore_35 ?_
      refine g_iald hC rfl rA1006 (6 * i + k) (ix6 rfl rfl) (by omega) (by decide) dX5_markScore_36 ?_
      refine g_iload hC dX5_markScore_37 rfl ?_
      refine g_imul hC dX5_markScore_39 ?_
      refine g_sipush (v := 1000) hC dX5_markScore_40 (by decide) ?_
      refine g_idiv hC dX5_markScore_43 (by decide) ?_
      refine g_callS hC v_X5_apart km_X5_89 (c_X5_apart l X b0 lo _ _ _) rfl rfl (Nat.le_of_ble_eq_true rfl) ⟨by decide, by decide⟩ ⟨by decide, by decide⟩ dX5_markScore_44 (kX ?_)
      refine g_istore hC dX5_markScore_47 (by decide) ?_
      refine g_iload_n hC dX5_markScore_49 rfl ?_
      refine g_aload_n hC dX5_markScore_50 rfl ?_
      refine g_get hC rfl rO rfl kl_X5 10 (by decide) kf_X5_35 rfl rfl dX5_markScore_51 ?_
      refine g_bipush (v := 6) hC dX5_markScore_54 (by decide) ?_
      refine g_iload_n hC dX5_markScore_56 rfl ?_
      refine g_imul hC dX5_markScore_57 ?_
      refine g_iload hC dX5_markScore_58 rfl ?_
      refine g_iadd hC dX5_markScore_60 ?_
      refine g_iald hC rfl rA1007 (6 * i + k) (ix6 rfl rfl) (by omega) (by decide) dX5_markScore_61 ?_
      refine g_iload hC dX5_markScore_62 rfl ?_
      refine g_imul hC dX5_markScore_64 ?_
      refine g_sipush (v := 1000) hC dX5_markScore_65 (by decide) ?_
      refine g_idiv hC dX5_markScore_68 (by decide) ?_
      refine g_callS hC v_X5_apart km_X5_89 (c_X5_apart l X b0 lo _ _ _) rfl rfl (Nat.le_of_ble_eq_true rfl) ⟨by decide, by decide⟩ ⟨by decide, by decide⟩ dX5_markScore_69 (kX ?_)
      refine g_istore hC dX5_markScore_72 (by decide) ?_
      refine g_iload hC dX5_markScore_74 rfl ?_
      refine g_aload_n hC dX5_markScore_76 rfl ?_
      refine g_get hC rfl rO rfl kl_X5 3 (by decide) kf_X5_17 rfl rfl dX5_markScore_77 ?_
      refine g_icmp_gt (tgt := 96) hC dX5_markScore_80 (by decide) (fun c80 => ?_) (fun c80 => ?_)
      · refine g_iconst (v := 0) hC dX5_markScore_96 (by decide) ?_
        refine g_istore hC dX5_markScore_97 (by decide) ?_
        refine g_iload hC dX5_markScore_99 rfl ?_
        refine g_if_eq (tgt := 132) hC dX5_markScore_101 (by decide) (fun c101 => ?_) (fun c101 => absurd (rfl) c101)
        have hst : msM M i x y f (k + 1) = msM M i x y f k := by
          have hn := hnn k (by omega)
          simp only [msM, msF] at *
          grind [msV]
        refine g_iinc hC dX5_markScore_132 rfl (nI_inc k) (by decide) ?_
        refine g_goto (tgt := 13) hC dX5_markScore_135 (by decide) ?_
        exact g_lv (lv' := [(0, .ref (lo 1000)), (1, .int (nI i)), (2, .int x), (3, .int y), (4, .int f), (5, .int (msV (msM M i x y f (k + 1)))), (6, .int (nI (k + 1)))]) ⟨rfl, rfl, rfl, rfl, rfl, (by rw [hst]; rfl), rfl, trivial⟩ (ihlp (k + 1) T1 (by omega) (by rw [hst]; exact hT1))
      · refine g_iload hC dX5_markScore_83 rfl ?_
        refine g_aload_n hC dX5_markScore_85 rfl ?_
        refine g_get hC rfl rO rfl kl_X5 3 (by decide) kf_X5_17 rfl rfl dX5_markScore_86 ?_
        refine g_icmp_gt (tgt := 96) hC dX5_markScore_89 (by decide) (fun c89 => ?_) (fun c89 => ?_)
        · refine g_iconst (v := 0) hC dX5_markScore_96 (by decide) ?_
          refine g_istore hC dX5_markScore_97 (by decide) ?_
          refine g_iload hC dX5_markScore_99 rfl ?_
          refine g_if_eq (tgt := 132) hC dX5_markScore_101 (by decide) (fun c101 => ?_) (fun c101 => absurd (rfl) c101)
          have hst : msM M i x y f (k + 1) = msM M i x y f k := by
            have hn := hnn k (by omega)
            simp only [msM, msF] at *
            grind [msV]
          refine g_iinc hC dX5_markScore_132 rfl (nI_inc k) (by decide) ?_
          refine g_goto (tgt := 13) hC dX5_markScore_135 (by decide) ?_
          exact g_lv (lv' := [(0, .ref (lo 1000)), (1, .int (nI i)), (2, .int x), (3, .int y), (4, .int f), (5, .int (msV (msM M i x y f (k + 1)))), (6, .int (nI (k + 1)))]) ⟨rfl, rfl, rfl, rfl, rfl, (by rw [hst]; rfl), rfl, trivial⟩ (ihlp (k + 1) T1 (by omega) (by rw [hst]; exact hT1))
        · refine g_iconst (v := 1) hC dX5_markScore_92 (by decide) ?_
          refine g_goto (tgt := 97) hC dX5_markScore_93 (by decide) ?_
          refine g_istore hC dX5_markScore_97 (by decide) ?_
          refine g_iload hC dX5_markScore_99 rfl ?_
          refine g_if_eq (tgt := 132) hC dX5_markScore_101 (by decide) (fun c101 => absurd c101 (by decide)) (fun c101 => ?_)
          refine g_iload hC dX5_markScore_104 rfl ?_
          refine g_if_lt (tgt := 119) hC dX5_markScore_106 (by decide) (fun c106 => ?_) (fun c106 => ?_)
          · refine g_iload hC dX5_markScore_119 rfl ?_
            refine g_iload hC dX5_markScore_121 rfl ?_
            refine g_iadd hC dX5_markScore_123 ?_
            refine g_istore hC dX5_markScore_124 (by decide) ?_
            refine g_aload_n hC dX5_markScore_126 rfl ?_
            refine g_iload hC dX5_markScore_127 rfl ?_
            refine g_put (ty := .int) hC rfl rO rfl kl_X5 19 (by decide) kf_X5_105 rfl tyX5 tyX5_ok nmX5 rfl (by decide +kernel) rfl rfl (Nat.le_of_ble_eq_true rfl) dX5_markScore_129 (fun en21 hen21 => ?_)
            replace hen21 := rP19 hen21
            obtain ⟨T21, hT21, hen21⟩ := hen21
            subst hen21
            have hst : msM M i x y f (k + 1) = some (k, (ap x (M 5 (6 * i + k) * f / 1000)) + (ap y (M 6 (6 * i + k) * f / 1000))) := by
              have hn := hnn k (by omega)
              simp only [msM, msF] at *
              grind [msV]
            refine g_iinc hC dX5_markScore_132 rfl (nI_inc k) (by decide) ?_
            refine g_goto (tgt := 13) hC dX5_markScore_135 (by decide) ?_
            exact g_lv (lv' := [(0, .ref (lo 1000)), (1, .int (nI i)), (2, .int x), (3, .int y), (4, .int f), (5, .int (msV (msM M i x y f (k + 1)))), (6, .int (nI (k + 1)))]) ⟨rfl, rfl, rfl, rfl, rfl, (by rw [hst]; rfl), rfl, trivial⟩ (ihlp (k + 1) T21 (by omega) (by rw [hst, hT21, hT1, up2_up2]; rfl))
          · refine g_iload hC dX5_markScore_109 rfl ?_
            refine g_iload hC dX5_markScore_111 rfl ?_
            refine g_iadd hC dX5_markScore_113 ?_
            refine g_iload hC dX5_markScore_114 rfl ?_
            refine g_icmp_ge (tgt := 132) hC dX5_markScore_116 (by decide) (fun c116 => ?_) (fun c116 => ?_)
            · have hst : msM M i x y f (k + 1) = msM M i x y f k := by
                have hn := hnn k (by omega)
                simp only [msM, msF] at *
                grind [msV]
              refine g_iinc hC dX5_markScore_132 rfl (nI_inc k) (by decide) ?_
              refine g_goto (tgt := 13) hC dX5_markScore_135 (by decide) ?_
              exact g_lv (lv' := [(0, .ref (lo 1000)), (1, .int (nI i)), (2, .int x), (3, .int y), (4, .int f), (5, .int (msV (msM M i x y f (k + 1)))), (6, .int (nI (k + 1)))]) ⟨rfl, rfl, rfl, rfl, rfl, (by rw [hst]; rfl), rfl, trivial⟩ (ihlp (k + 1) T1 (by omega) (by rw [hst]; exact hT1))
            · refine g_iload hC dX5_markScore_119 rfl ?_
              refine g_iload hC dX5_markScore_121 rfl ?_
              refine g_iadd hC dX5_markScore_123 ?_
              refine g_istore hC dX5_markScore_124 (by decide) ?_
              refine g_aload_n hC dX5_markScore_126 rfl ?_
              refine g_iload hC dX5_markScore_127 rfl ?_
              refine g_put (ty := .int) hC rfl rO rfl kl_X5 19 (by decide) kf_X5_105 rfl tyX5 tyX5_ok nmX5 rfl (by decide +kernel) rfl rfl (Nat.le_of_ble_eq_true rfl) dX5_markScore_129 (fun en22 hen22 => ?_)
              replace hen22 := rP19 hen22
              obtain ⟨T22, hT22, hen22⟩ := hen22
              subst hen22
              have hst : msM M i x y f (k + 1) = some (k, (ap x (M 5 (6 * i + k) * f / 1000)) + (ap y (M 6 (6 * i + k) * f / 1000))) := by
                have hn := hnn k (by omega)
                simp only [msM, msF] at *
                grind [msV]
              refine g_iinc hC dX5_markScore_132 rfl (nI_inc k) (by decide) ?_
              refine g_goto (tgt := 13) hC dX5_markScore_135 (by decide) ?_
              exact g_lv (lv' := [(0, .ref (lo 1000)), (1, .int (nI i)), (2, .int x), (3, .int y), (4, .int f), (5, .int (msV (msM M i x y f (k + 1)))), (6, .int (nI (k + 1)))]) ⟨rfl, rfl, rfl, rfl, rfl, (by rw [hst]; rfl), rfl, trivial⟩ (ihlp (k + 1) T22 (by omega) (by rw [hst, hT22, hT1, up2_up2]; rfl))
  exact g_lv (lv' := [(0, .ref (lo 1000)), (1, .int (nI i)), (2, .int x), (3, .int y), (4, .int f), (5, .int (-6)), (6, .int (nI 0))]) ⟨rfl, rfl, rfl, rfl, rfl, rfl, rfl, trivial⟩ (lp n 0 T20 (by omega) (by rw [hT20]; rfl))

theorem tq {t k : Nat} (h : nI t = nI k) (ht : t < 4) (hk : k < 4) : t = k := (nI_eq (by omega) (by omega)).mp h
theorem tn {t k : Nat} (h : ¬ nI t = nI k) : t ≠ k := fun z => h (by rw [z])
def plV (o : Option (Int32 × Int32)) : Int32 := match o with | none => -6 | some q => q.1
def plS (o : Option (Int32 × Int32)) : Int32 := match o with | none => -6 | some q => q.2

set_option maxHeartbeats 4000000 in
set_option maxRecDepth 100000 in
theorem c_X5_scoreOf (l : Launch) (X : gX) (b0 : Nat) (lo : gL) (M T : rM2) (e0 : gE) (hM : Iv M) (j i t o : Nat) (hj : j < nSh M) (hi : i < nMo M) (ht : t < 4) (ho : o + nt (M 7 j) ≤ nt (M 1 i)) (f : Int32) (hf : inR 940 f 1000) : Ct l X b0 lo (enR X lo M T e0) yX5_scoreOf cX5_scoreOf 13 (some FieldType.int) (rM 2 51) [.ref (lo 1000), .int (nI j), .int (nI i), .int (nI t), .int (nI o), .int f] (pI lo (fun r en' => r = plV (plF M j i t o f) ∧ en' = enR X lo M (up2 T 3 19 (plS (plF M j i t o f))) e0)) := by
  refine gMet (by decide) (Nat.le_of_ble_eq_true rfl) rfl ?_
  intro Z hC hI hR
  obtain ⟨n, hn2, hn10, en, en2⟩ := Iv_sh hM hj
  have hS := (Iv_nS hM).1
  have hMo := (Iv_nM hM).1
  have J15 : GO l X b0 Z 0 0 lo (enR X lo M T e0) 15 [(0, .ref (lo 1000)), (1, .int (nI j)), (2, .int (nI i)), (3, .int (nI t)), (4, .int (nI o)), (5, .int f)] [.int (if rvT t then 1 else 0)] := by
    refine g_istore hC dX5_scoreOf_15 (by decide) ?_
    refine g_aload_n hC dX5_scoreOf_17 rfl ?_
    refine g_iload_n hC dX5_scoreOf_18 rfl ?_
    refine g_iload_n hC dX5_scoreOf_19 rfl ?_
    refine g_iload hC dX5_scoreOf_20 rfl ?_
    refine g_iload hC dX5_scoreOf_22 rfl ?_
    refine g_iload hC dX5_scoreOf_24 rfl ?_
    refine g_callV hC v_X5_spacingScore km_X5_108 (c_X5_spacingScore l X b0 lo _ _ e0 hM j i o hj hi ho (rvT t) f) rfl rO rfl rfl rfl rfl (Nat.le_of_ble_eq_true rfl) ⟨by decide, by decide⟩ ⟨by decide, by decide⟩ dX5_scoreOf_26 (kX ?_)
    refine g_istore hC dX5_scoreOf_29 (by decide) ?_
    refine g_aload_n hC dX5_scoreOf_31 rfl ?_
    refine g_bipush (v := (-6)) hC dX5_scoreOf_32 (by decide) ?_
    refine g_put (ty := .int) hC rfl rO rfl kl_X5 19 (by decide) kf_X5_105 rfl tyX5 tyX5_ok nmX5 rfl (by decide +kernel) rfl rfl (Nat.le_of_ble_eq_true rfl) dX5_scoreOf_34 (fun en23 hen23 => ?_)
    replace hen23 := rP19 hen23
    obtain ⟨T23, hT23, hen23⟩ := hen23
    subst hen23
    have hT0 : T23 = up2 T 3 19 (-6) := hT23
    refine g_iload hC dX5_scoreOf_37 rfl ?_
    refine g_if_lt (tgt := 51) hC dX5_scoreOf_39 (by decide) (fun c39 => ?_) (fun c39 => ?_)
    · refine g_iload hC dX5_scoreOf_51 rfl ?_
      refine g_ireti hR dX5_scoreOf_53 rfl ?_
      clear hR hC hI
      rw [hT0]
      cases hs0 : ssF (sS M j (rvT t)) (qQ M i o) (M 20 2) f (nt (M 7 j)) with
      | none => refine ⟨rfl, _, rfl, ?_, ?_⟩ <;> (unfold plF; rw [hs0]; rfl)
      | some s0 =>
        rw [hs0] at c39
        have c9 : M 9 j < 0 := by
          first
          | exact Int32.not_le.mp c48
          | exact absurd c39 (Int32.not_lt.mpr (ssF_R hM.2.1 hf (by omega) (fun q hq => ⟨sS_R hM hj _ hq, qQ_R hM hi (by omega)⟩) hs0).1)
        refine ⟨rfl, _, rfl, ?_, ?_⟩ <;> (unfold plF; rw [hs0]; dsimp only; rw [if_pos c9]; rfl)
    · refine g_aload_n hC dX5_scoreOf_42 rfl ?_
      refine g_get hC rfl rO rfl kl_X5 14 (by decide) kf_X5_44 rfl rfl dX5_scoreOf_43 ?_
      refine g_iload_n hC dX5_scoreOf_46 rfl ?_
      refine g_iald hC rfl rA1010 j rfl (by omega) (by decide) dX5_scoreOf_47 ?_
      refine g_if_ge (tgt := 54) hC dX5_scoreOf_48 (by decide) (fun c48 => ?_) (fun c48 => ?_)
      · have c9 : ¬ M 9 j < 0 := Int32.not_lt.mpr c48
        obtain ⟨s0, hs0⟩ : ∃ s0, ssF (sS M j (rvT t)) (qQ M i o) (M 20 2) f (nt (M 7 j)) = some s0 := by
          cases h : ssF (sS M j (rvT t)) (qQ M i o) (M 20 2) f (nt (M 7 j)) with
          | none => rw [h] at c39; exact absurd (by decide) c39
          | some s0 => exact ⟨s0, rfl⟩
        obtain ⟨hx, hy, k9, hk9, ek9⟩ := pxy_R (t := t) hM hj c9
        have hk92 : nt (M 9 j) = k9 := by rw [ek9]; exact nt_nI (by omega)
        refine g_aload_n hC dX5_scoreOf_54 rfl ?_
        refine g_get hC rfl rO rfl kl_X5 14 (by decide) kf_X5_44 rfl rfl dX5_scoreOf_55 ?_
        refine g_iload_n hC dX5_scoreOf_58 rfl ?_
        refine g_iald hC rfl rA1010 j rfl (by omega) (by decide) dX5_scoreOf_59 ?_
        refine g_istore hC dX5_scoreOf_60 (by decide) ?_
        have J83 : GO l X b0 Z 0 0 lo (enR X lo M T23 e0) 83 [(0, .ref (lo 1000)), (1, .int (nI j)), (2, .int (nI i)), (3, .int (nI t)), (4, .int (nI o)), (5, .int f), (6, .int (if rvT t then 1 else 0)), (7, .int (oI (ssF (sS M j (rvT t)) (qQ M i o) (M 20 2) f (nt (M 7 j))))), (8, .int (M 9 j))] [.int (if rvT t then M 7 j - 1 - M 9 j else M 9 j)] := by
          refine g_istore hC dX5_scoreOf_83 (by decide) ?_
          refine g_iload hC dX5_scoreOf_85 rfl ?_
          refine g_iload hC dX5_scoreOf_87 rfl ?_
          refine g_iadd hC dX5_scoreOf_89 ?_
          refine g_aload_n hC dX5_scoreOf_90 rfl ?_
          refine g_get hC rfl rO rfl kl_X5 7 (by decide) kf_X5_26 rfl rfl dX5_scoreOf_91 ?_
          refine g_iload_n hC dX5_scoreOf_94 rfl ?_
          refine g_iald hC rfl rA1004 i rfl (by omega) (by decide) dX5_scoreOf_95 ?_
          refine g_icmp_eq (tgt := 102) hC dX5_scoreOf_96 (by decide) (fun c96 => ?_) (fun c96 => ?_)
          · have J135 : GO l X b0 Z 0 0 lo (enR X lo M T23 e0) 135 [(0, .ref (lo 1000)), (1, .int (nI j)), (2, .int (nI i)), (3, .int (nI t)), (4, .int (nI o)), (5, .int f), (6, .int (if rvT t then 1 else 0)), (7, .int (oI (ssF (sS M j (rvT t)) (qQ M i o) (M 20 2) f (nt (M 7 j))))), (8, .int (M 9 j))] [.int (pxF M j t)] := by
              refine g_istore hC dX5_scoreOf_135 (by decide) ?_
              have J166 : GO l X b0 Z 0 0 lo (enR X lo M T23 e0) 166 [(0, .ref (lo 1000)), (1, .int (nI j)), (2, .int (nI i)), (3, .int (nI t)), (4, .int (nI o)), (5, .int f), (6, .int (if rvT t then 1 else 0)), (7, .int (oI (ssF (sS M j (rvT t)) (qQ M i o) (M 20 2) f (nt (M 7 j))))), (8, .int (M 9 j)), (10, .int (pxF M j t))] [.int (pyF M j t)] := by
                refine g_istore hC dX5_scoreOf_166 (by decide) ?_
                refine g_aload_n hC dX5_scoreOf_168 rfl ?_
                refine g_iload_n hC dX5_scoreOf_169 rfl ?_
                refine g_iload hC dX5_scoreOf_170 rfl ?_
                refine g_iload hC dX5_scoreOf_172 rfl ?_
                refine g_iload hC dX5_scoreOf_174 rfl ?_
                refine g_callV hC v_X5_markScore km_X5_112 (c_X5_markScore l X b0 lo _ _ e0 hM i hi _ _ f hx hy hf) rfl rO rfl rfl rfl rfl (Nat.le_of_ble_eq_true rfl) ⟨by decide, by decide⟩ ⟨by decide, by decide⟩ dX5_scoreOf_176 (kI ?_)
                rintro r1 en' ⟨hr1, rfl⟩
                refine g_istore hC dX5_scoreOf_179 (by decide) ?_
                refine g_iload hC dX5_scoreOf_181 rfl ?_
                refine g_if_ge (tgt := 191) hC dX5_scoreOf_183 (by decide) (fun c183 => ?_) (fun c183 => ?_)
                · refine g_iload hC dX5_scoreOf_191 rfl ?_
                  refine g_iload hC dX5_scoreOf_193 rfl ?_
                  refine g_iadd hC dX5_scoreOf_195 ?_
                  refine g_ireti hR dX5_scoreOf_196 rfl ?_
                  clear hR hC hI
                  rw [hT0, up2_up2]
                  cases hq0 : msM M i (pxF M j t) (pyF M j t) f (nt (M 4 i)) with
                  | none =>
                    rw [hq0] at hr1
                    refine ⟨rfl, _, rfl, ?_, ?_⟩
                    · unfold plF; rw [hs0]; dsimp only; rw [if_neg c9, if_pos c96, hq0]
                      first | rfl | exact absurd (by rw [hr1]; decide) c183 | exact absurd c183 (by rw [hr1]; decide)
                    · unfold plF; rw [hs0]; dsimp only; rw [if_neg c9, if_pos c96, hq0]; rfl
                  | some q0 =>
                    rw [hq0] at hr1
                    have hq9 := (msF_R hx hy hf (fun k hk => by have := (hM.2.2.2.2.2.2.1 i hi).2.2.2.2 k hk; exact ⟨this.1, by grind⟩) hq0).2.1
                    refine ⟨rfl, _, rfl, ?_, ?_⟩
                    · unfold plF; rw [hs0]; dsimp only; rw [if_neg c9, if_pos c96, hq0]
                      first | (rw [hr1]; rfl) | exact absurd (by rw [hr1]; exact hq9) c183 | exact absurd c183 (by rw [hr1]; exact Int32.not_lt.mpr hq9)
                    · unfold plF; rw [hs0]; dsimp only; rw [if_neg c9, if_pos c96, hq0]; rfl
                · refine g_bipush (v := (-6)) hC dX5_scoreOf_186 (by decide) ?_
                  refine g_goto (tgt := 196) hC dX5_scoreOf_188 (by decide) ?_
                  refine g_ireti hR dX5_scoreOf_196 rfl ?_
                  clear hR hC hI
                  rw [hT0, up2_up2]
                  cases hq0 : msM M i (pxF M j t) (pyF M j t) f (nt (M 4 i)) with
                  | none =>
                    rw [hq0] at hr1
                    refine ⟨rfl, _, rfl, ?_, ?_⟩
                    · unfold plF; rw [hs0]; dsimp only; rw [if_neg c9, if_pos c96, hq0]
                      first | rfl | exact absurd (by rw [hr1]; decide) c183 | exact absurd c183 (by rw [hr1]; decide)
                    · unfold plF; rw [hs0]; dsimp only; rw [if_neg c9, if_pos c96, hq0]; rfl
                  | some q0 =>
                    rw [hq0] at hr1
                    have hq9 := (msF_R hx hy hf (fun k hk => by have := (hM.2.2.2.2.2.2.1 i hi).2.2.2.2 k hk; exact ⟨this.1, by grind⟩) hq0).2.1
                    refine ⟨rfl, _, rfl, ?_, ?_⟩
                    · unfold plF; rw [hs0]; dsimp only; rw [if_neg c9, if_pos c96, hq0]
                      first | (rw [hr1]; rfl) | exact absurd (by rw [hr1]; exact hq9) c183 | exact absurd c183 (by rw [hr1]; exact Int32.not_lt.mpr hq9)
                    · unfold plF; rw [hs0]; dsimp only; rw [if_neg c9, if_pos c96, hq0]; rfl
              refine g_iload_n hC dX5_scoreOf_137 rfl ?_
              refine g_iconst (v := 1) hC dX5_scoreOf_138 (by decide) ?_
              refine g_icmp_eq (tgt := 147) hC dX5_scoreOf_139 (by decide) (fun c139 => ?_) (fun c139 => ?_)
              · refine g_sipush (v := 300) hC dX5_scoreOf_147 (by decide) ?_
                refine g_aload_n hC dX5_scoreOf_150 rfl ?_
                refine g_get hC rfl rO rfl kl_X5 16 (by decide) kf_X5_50 rfl rfl dX5_scoreOf_151 ?_
                refine g_iload_n hC dX5_scoreOf_154 rfl ?_
                refine g_iald hC rfl rA1012 j rfl (by omega) (by decide) dX5_scoreOf_155 ?_
                refine g_isub hC dX5_scoreOf_156 ?_
                refine g_goto (tgt := 166) hC dX5_scoreOf_157 (by decide) ?_
                refine g_val (y := pyF M j t) (by unfold pyF; first | (rw [tq (k := 1) c139 ht (by decide)]; rfl) | (rw [tq (k := 3) c144 ht (by decide)]; rfl) | (have h1 := tn (k := 1) c139; have h2 := tn (k := 3) c144; simp [dnT, h1, h2])) ?_
                exact g_lv (lv' := [(0, .ref (lo 1000)), (1, .int (nI j)), (2, .int (nI i)), (3, .int (nI t)), (4, .int (nI o)), (5, .int f), (6, .int (if rvT t then 1 else 0)), (7, .int (oI (ssF (sS M j (rvT t)) (qQ M i o) (M 20 2) f (nt (M 7 j))))), (8, .int (M 9 j)), (10, .int (pxF M j t))]) ⟨rfl, rfl, rfl, rfl, rfl, rfl, rfl, rfl, rfl, rfl, trivial⟩ (J166 )
              · refine g_iload_n hC dX5_scoreOf_142 rfl ?_
                refine g_iconst (v := 3) hC dX5_scoreOf_143 (by decide) ?_
                refine g_icmp_ne (tgt := 160) hC dX5_scoreOf_144 (by decide) (fun c144 => ?_) (fun c144 => ?_)
                · refine g_aload_n hC dX5_scoreOf_160 rfl ?_
                  refine g_get hC rfl rO rfl kl_X5 16 (by decide) kf_X5_50 rfl rfl dX5_scoreOf_161 ?_
                  refine g_iload_n hC dX5_scoreOf_164 rfl ?_
                  refine g_iald hC rfl rA1012 j rfl (by omega) (by decide) dX5_scoreOf_165 ?_
                  refine g_val (y := pyF M j t) (by unfold pyF; first | (rw [tq (k := 1) c139 ht (by decide)]; rfl) | (rw [tq (k := 3) c144 ht (by decide)]; rfl) | (have h1 := tn (k := 1) c139; have h2 := tn (k := 3) c144; simp [dnT, h1, h2])) ?_
                  exact g_lv (lv' := [(0, .ref (lo 1000)), (1, .int (nI j)), (2, .int (nI i)), (3, .int (nI t)), (4, .int (nI o)), (5, .int f), (6, .int (if rvT t then 1 else 0)), (7, .int (oI (ssF (sS M j (rvT t)) (qQ M i o) (M 20 2) f (nt (M 7 j))))), (8, .int (M 9 j)), (10, .int (pxF M j t))]) ⟨rfl, rfl, rfl, rfl, rfl, rfl, rfl, rfl, rfl, rfl, trivial⟩ (J166 )
                · refine g_sipush (v := 300) hC dX5_scoreOf_147 (by decide) ?_
                  refine g_aload_n hC dX5_scoreOf_150 rfl ?_
                  refine g_get hC rfl rO rfl kl_X5 16 (by decide) kf_X5_50 rfl rfl dX5_scoreOf_151 ?_
                  refine g_iload_n hC dX5_scoreOf_154 rfl ?_
                  refine g_iald hC rfl rA1012 j rfl (by omega) (by decide) dX5_scoreOf_155 ?_
                  refine g_isub hC dX5_scoreOf_156 ?_
                  refine g_goto (tgt := 166) hC dX5_scoreOf_157 (by decide) ?_
                  refine g_val (y := pyF M j t) (by unfold pyF; first | (rw [tq (k := 1) c139 ht (by decide)]; rfl) | (rw [tq (k := 3) c144 ht (by decide)]; rfl) | (have h1 := tn (k := 1) c139; have h2 := tn (k := 3) c144; simp [dnT, h1, h2])) ?_
                  exact g_lv (lv' := [(0, .ref (lo 1000)), (1, .int (nI j)), (2, .int (nI i)), (3, .int (nI t)), (4, .int (nI o)), (5, .int f), (6, .int (if rvT t then 1 else 0)), (7, .int (oI (ssF (sS M j (rvT t)) (qQ M i o) (M 20 2) f (nt (M 7 j))))), (8, .int (M 9 j)), (10, .int (pxF M j t))]) ⟨rfl, rfl, rfl, rfl, rfl, rfl, rfl, rfl, rfl, rfl, trivial⟩ (J166 )
            refine g_iload hC dX5_scoreOf_102 rfl ?_
            refine g_if_eq (tgt := 129) hC dX5_scoreOf_104 (by decide) (fun c104 => ?_) (fun c104 => ?_)
            · refine g_aload_n hC dX5_scoreOf_129 rfl ?_
              refine g_get hC rfl rO rfl kl_X5 15 (by decide) kf_X5_47 rfl rfl dX5_scoreOf_130 ?_
              refine g_iload_n hC dX5_scoreOf_133 rfl ?_
              refine g_iald hC rfl rA1011 j rfl (by omega) (by decide) dX5_scoreOf_134 ?_
              refine g_val (y := pxF M j t) (by unfold pxF; first | (rw [bz c104]; rfl) | (rw [bn c104]; rfl)) ?_
              exact g_lv (lv' := [(0, .ref (lo 1000)), (1, .int (nI j)), (2, .int (nI i)), (3, .int (nI t)), (4, .int (nI o)), (5, .int f), (6, .int (if rvT t then 1 else 0)), (7, .int (oI (ssF (sS M j (rvT t)) (qQ M i o) (M 20 2) f (nt (M 7 j))))), (8, .int (M 9 j))]) ⟨rfl, rfl, rfl, rfl, rfl, rfl, rfl, rfl, rfl, trivial⟩ (J135 )
            · refine g_aload_n hC dX5_scoreOf_107 rfl ?_
              refine g_get hC rfl rO rfl kl_X5 13 (by decide) kf_X5_41 rfl rfl dX5_scoreOf_108 ?_
              refine g_bipush (v := 10) hC dX5_scoreOf_111 (by decide) ?_
              refine g_iload_n hC dX5_scoreOf_113 rfl ?_
              refine g_imul hC dX5_scoreOf_114 ?_
              refine g_iload hC dX5_scoreOf_115 rfl ?_
              refine g_iadd hC dX5_scoreOf_117 ?_
              refine g_iald hC rfl rA1009 (10 * j + nt (M 9 j)) (ix10 rfl (by rw [hk92]; exact ek9)) (by omega) (by decide) dX5_scoreOf_118 ?_
              refine g_aload_n hC dX5_scoreOf_119 rfl ?_
              refine g_get hC rfl rO rfl kl_X5 15 (by decide) kf_X5_47 rfl rfl dX5_scoreOf_120 ?_
              refine g_iload_n hC dX5_scoreOf_123 rfl ?_
              refine g_iald hC rfl rA1011 j rfl (by omega) (by decide) dX5_scoreOf_124 ?_
              refine g_isub hC dX5_scoreOf_125 ?_
              refine g_goto (tgt := 135) hC dX5_scoreOf_126 (by decide) ?_
              refine g_val (y := pxF M j t) (by unfold pxF; first | (rw [bz c104]; rfl) | (rw [bn c104]; rfl)) ?_
              exact g_lv (lv' := [(0, .ref (lo 1000)), (1, .int (nI j)), (2, .int (nI i)), (3, .int (nI t)), (4, .int (nI o)), (5, .int f), (6, .int (if rvT t then 1 else 0)), (7, .int (oI (ssF (sS M j (rvT t)) (qQ M i o) (M 20 2) f (nt (M 7 j))))), (8, .int (M 9 j))]) ⟨rfl, rfl, rfl, rfl, rfl, rfl, rfl, rfl, rfl, trivial⟩ (J135 )
          · refine g_bipush (v := (-6)) hC dX5_scoreOf_99 (by decide) ?_
            refine g_ireti hR dX5_scoreOf_101 rfl ?_
            clear hR hC hI
            rw [hT0]
            refine ⟨rfl, _, rfl, ?_, ?_⟩
            · unfold plF; rw [hs0]; dsimp only; rw [if_neg c9, if_neg c96]; rfl
            · unfold plF; rw [hs0]; dsimp only; rw [if_neg c9, if_neg c96]; rfl
        refine g_iload hC dX5_scoreOf_62 rfl ?_
        refine g_if_eq (tgt := 81) hC dX5_scoreOf_64 (by decide) (fun c64 => ?_) (fun c64 => ?_)
        · refine g_iload hC dX5_scoreOf_81 rfl ?_
          refine g_val (y := if rvT t then M 7 j - 1 - M 9 j else M 9 j) (by first | (rw [bz c64]; rfl) | (rw [bn c64]; rfl)) ?_
          exact g_lv (lv' := [(0, .ref (lo 1000)), (1, .int (nI j)), (2, .int (nI i)), (3, .int (nI t)), (4, .int (nI o)), (5, .int f), (6, .int (if rvT t then 1 else 0)), (7, .int (oI (ssF (sS M j (rvT t)) (qQ M i o) (M 20 2) f (nt (M 7 j))))), (8, .int (M 9 j))]) ⟨rfl, rfl, rfl, rfl, rfl, rfl, rfl, rfl, rfl, trivial⟩ (J83 )
        · refine g_aload_n hC dX5_scoreOf_67 rfl ?_
          refine g_get hC rfl rO rfl kl_X5 12 (by decide) kf_X5_38 rfl rfl dX5_scoreOf_68 ?_
          refine g_iload_n hC dX5_scoreOf_71 rfl ?_
          refine g_iald hC rfl rA1008 j rfl (by omega) (by decide) dX5_scoreOf_72 ?_
          refine g_iconst (v := 1) hC dX5_scoreOf_73 (by decide) ?_
          refine g_isub hC dX5_scoreOf_74 ?_
          refine g_iload hC dX5_scoreOf_75 rfl ?_
          refine g_isub hC dX5_scoreOf_77 ?_
          refine g_goto (tgt := 83) hC dX5_scoreOf_78 (by decide) ?_
          refine g_val (y := if rvT t then M 7 j - 1 - M 9 j else M 9 j) (by first | (rw [bz c64]; rfl) | (rw [bn c64]; rfl)) ?_
          exact g_lv (lv' := [(0, .ref (lo 1000)), (1, .int (nI j)), (2, .int (nI i)), (3, .int (nI t)), (4, .int (nI o)), (5, .int f), (6, .int (if rvT t then 1 else 0)), (7, .int (oI (ssF (sS M j (rvT t)) (qQ M i o) (M 20 2) f (nt (M 7 j))))), (8, .int (M 9 j))]) ⟨rfl, rfl, rfl, rfl, rfl, rfl, rfl, rfl, rfl, trivial⟩ (J83 )
      · refine g_iload hC dX5_scoreOf_51 rfl ?_
        refine g_ireti hR dX5_scoreOf_53 rfl ?_
        clear hR hC hI
        rw [hT0]
        cases hs0 : ssF (sS M j (rvT t)) (qQ M i o) (M 20 2) f (nt (M 7 j)) with
        | none => refine ⟨rfl, _, rfl, ?_, ?_⟩ <;> (unfold plF; rw [hs0]; rfl)
        | some s0 =>
          rw [hs0] at c39
          have c9 : M 9 j < 0 := by
            first
            | exact Int32.not_le.mp c48
            | exact absurd c39 (Int32.not_lt.mpr (ssF_R hM.2.1 hf (by omega) (fun q hq => ⟨sS_R hM hj _ hq, qQ_R hM hi (by omega)⟩) hs0).1)
          refine ⟨rfl, _, rfl, ?_, ?_⟩ <;> (unfold plF; rw [hs0]; dsimp only; rw [if_pos c9]; rfl)
  refine g_iload_n hC dX5_scoreOf_0 rfl ?_
  refine g_iconst (v := 1) hC dX5_scoreOf_1 (by decide) ?_
  refine g_icmp_eq (tgt := 10) hC dX5_scoreOf_2 (by decide) (fun c2 => ?_) (fun c2 => ?_)
  · refine g_iconst (v := 1) hC dX5_scoreOf_10 (by decide) ?_
    refine g_goto (tgt := 15) hC dX5_scoreOf_11 (by decide) ?_
    refine g_val (y := if rvT t then 1 else 0) (by first | (rw [tq (k := 1) c2 ht (by decide)]; rfl) | (rw [tq (k := 2) c7 ht (by decide)]; rfl) | (have h1 := tn (k := 1) c2; have h2 := tn (k := 2) c7; simp [rvT, h1, h2])) ?_
    exact g_lv (lv' := [(0, .ref (lo 1000)), (1, .int (nI j)), (2, .int (nI i)), (3, .int (nI t)), (4, .int (nI o)), (5, .int f)]) ⟨rfl, rfl, rfl, rfl, rfl, rfl, trivial⟩ (J15 )
  · refine g_iload_n hC dX5_scoreOf_5 rfl ?_
    refine g_iconst (v := 2) hC dX5_scoreOf_6 (by decide) ?_
    refine g_icmp_ne (tgt := 14) hC dX5_scoreOf_7 (by decide) (fun c7 => ?_) (fun c7 => ?_)
    · refine g_iconst (v := 0) hC dX5_scoreOf_14 (by decide) ?_
      refine g_val (y := if rvT t then 1 else 0) (by first | (rw [tq (k := 1) c2 ht (by decide)]; rfl) | (rw [tq (k := 2) c7 ht (by decide)]; rfl) | (have h1 := tn (k := 1) c2; have h2 := tn (k := 2) c7; simp [rvT, h1, h2])) ?_
      exact g_lv (lv' := [(0, .ref (lo 1000)), (1, .int (nI j)), (2, .int (nI i)), (3, .int (nI t)), (4, .int (nI o)), (5, .int f)]) ⟨rfl, rfl, rfl, rfl, rfl, rfl, trivial⟩ (J15 )
    · refine g_iconst (v := 1) hC dX5_scoreOf_10 (by decide) ?_
      refine g_goto (tgt := 15) hC dX5_scoreOf_11 (by decide) ?_
      refine g_val (y := if rvT t then 1 else 0) (by first | (rw [tq (k := 1) c2 ht (by decide)]; rfl) | (rw [tq (k := 2) c7 ht (by decide)]; rfl) | (have h1 := tn (k := 1) c2; have h2 := tn (k := 2) c7; simp [rvT, h1, h2])) ?_
      exact g_lv (lv' := [(0, .ref (lo 1000)), (1, .int (nI j)), (2, .int (nI i)), (3, .int (nI t)), (4, .int (nI o)), (5, .int f)]) ⟨rfl, rfl, rfl, rfl, rfl, rfl, trivial⟩ (J15 )
end
section
/-! ===== the reference: the best placement ===== -/
def bOK (T : rM2) (b : gB) : Prop := match b with
  | none => T 3 20 = -6
  | some r => T 3 20 = r.1 ∧ T 3 21 = r.2.1 ∧ T 3 22 = r.2.2.1 ∧ T 3 23 = r.2.2.2.1 ∧ T 3 24 = r.2.2.2.2
def tOK (T T1 : rM2) : Prop := ∀ a, a ≠ 3 → T1 a = T a
theorem tOK.rf {T : rM2} : tOK T T := fun _ _ => rfl
theorem tOK.up {T T1 : rM2} {i : Nat} {v : Int32} (h : tOK T T1) : tOK T (up2 T1 3 i v) := fun a ha => (up2_row ha).trans (h a ha)
theorem tOK.tr {T T1 T2 : rM2} (h : tOK T T1) (h2 : tOK T1 T2) : tOK T T2 := fun a ha => (h2 a ha).trans (h a ha)
def nnB (b : gB) : Prop := ∀ r, b = some r → 0 ≤ r.1
theorem fc_R {k : Nat} (h : k < 13) : inR 940 (fc k) 1000 := nI_inR (a := 940) (b := 1000) (by omega) (by omega) (by decide)
theorem fc_dec {k : Nat} (h : k < 13) : fc k + Int32.ofInt (-5) = fc (k + 1) := by
  unfold fc
  rw [show 1000 - 5 * (k + 1) = 1000 - 5 * k - 5 by omega, ← pk_sub (a := 1000 - 5 * k) (b := 5) (by omega), show nI 5 = (5 : Int32) from rfl, show Int32.ofInt (-5) = (-5 : Int32) from rfl]
  grind
theorem stF_nn {t o : Nat} {f : Int32} {p : Option (Int32 × Int32)} {b : gB} (hp : ∀ q, p = some q → 0 ≤ q.1) (hb : nnB b) : nnB (stF t o f p b) := by
  intro r hr
  unfold stF at hr
  split at hr
  · exact hb r hr
  · rename_i q
    split at hr
    · cases hr; exact hp q rfl
    · rename_i r0
      split at hr
      · cases hr; exact hp q rfl
      · cases hr; exact hb _ rfl
theorem bF_nn {M : rM2} (hM : Iv M) {j i t o : Nat} (hj : j < nSh M) (hi : i < nMo M) (ho : o + nt (M 7 j) ≤ nt (M 1 i)) {b : gB} (hb : nnB b) : ∀ {k : Nat}, k ≤ 13 → nnB (bF M j i t o k b)
  | 0, _ => hb
  | k + 1, hk => stF_nn (fun q hq => plF_R hM hj hi ho (fc_R (by omega)) hq) (bF_nn hM hj hi ho hb (by omega))
theorem nO_le {M : rM2} {j i o : Nat} (h : o < nO M j i) : o + nt (M 7 j) ≤ nt (M 1 i) := by unfold nO at h; omega
theorem bO_nn {M : rM2} (hM : Iv M) {j i t : Nat} (hj : j < nSh M) (hi : i < nMo M) {b : gB} (hb : nnB b) : ∀ {o : Nat}, o ≤ nO M j i → nnB (bO M j i t o b)
  | 0, _ => hb
  | o + 1, ho => bF_nn hM hj hi (nO_le (by omega)) (bO_nn hM hj hi hb (by omega)) (Nat.le_refl _)
theorem bT_nn {M : rM2} (hM : Iv M) {j i : Nat} (hj : j < nSh M) (hi : i < nMo M) : ∀ {t : Nat}, nnB (bT M j i t none)
  | 0 => fun r h => by cases h
  | t + 1 => bO_nn hM hj hi (bT_nn hM hj hi) (Nat.le_refl _)
theorem fb_nn {M : rM2} (hM : Iv M) {j i : Nat} (hj : j < nSh M) (hi : i < nMo M) : nnB (fb M j i) := bT_nn hM hj hi
theorem off_gt {m n o : Nat} {x y : Int32} (hx : x = nI m) (hy : y = nI n) (hm : m ≤ 10) (hn : n ≤ 10) (ho : o ≤ 20) : (x - y < nI o) ↔ m + 1 - n ≤ o := by
  rw [hx, hy, Int32.lt_iff_toInt_lt, pk_sub_toInt (by omega) (by omega), nI_toInt (by omega)]
  omega

set_option maxHeartbeats 4000000 in
set_option maxRecDepth 100000 in
theorem c_X5_findBest (l : Launch) (X : gX) (b0 : Nat) (lo : gL) (M T : rM2) (e0 : gE) (hM : Iv M) (j i : Nat) (hj : j < nSh M) (hi : i < nMo M) : Ct l X b0 lo (enR X lo M T e0) yX5_findBest cX5_findBest 7 none (rM 3 83) [.ref (lo 1000), .int (nI j), .int (nI i)] (pV lo (fun en' => ∃ T' : rM2, en' = enR X lo M T' e0 ∧ tOK T T' ∧ bOK T' (fb M j i))) := by
  refine gMet (by decide) (Nat.le_of_ble_eq_true rfl) rfl ?_
  intro Z hC hI hR
  obtain ⟨n, hn2, hn10, en, en2⟩ := Iv_sh hM hj
  obtain ⟨m, hm2, hm10, em, em2⟩ := Iv_mo hM hi
  have hS := (Iv_nS hM).1
  have hMo := (Iv_nM hM).1
  refine g_aload_n hC dX5_findBest_0 rfl ?_
  refine g_bipush (v := (-6)) hC dX5_findBest_1 (by decide) ?_
  refine g_put (ty := .int) hC rfl rO rfl kl_X5 20 (by decide) kf_X5_116 rfl tyX5 tyX5_ok nmX5 rfl (by decide +kernel) rfl rfl (Nat.le_of_ble_eq_true rfl) dX5_findBest_3 (fun en24 hen24 => ?_)
  replace hen24 := rP20 hen24
  obtain ⟨T24, hT24, hen24⟩ := hen24
  subst hen24
  refine g_iconst (v := 0) hC dX5_findBest_6 (by decide) ?_
  refine g_istore_n hC dX5_findBest_7 (by decide) ?_
  have lt : ∀ (r : Nat) (t : Nat) (T1 : rM2), t + r = 4 → tOK T T1 → bOK T1 (bT M j i t none) → GO l X b0 Z 0 0 lo (enR X lo M T1 e0) 8 [(0, .ref (lo 1000)), (1, .int (nI j)), (2, .int (nI i)), (3, .int (nI t))] [] := by
    intro r
    induction r with
    | zero =>
      intro t T1 ht4 htk hbk
      have ht9 : t = 4 := by omega
      subst ht9
      refine g_iload_n hC dX5_findBest_8 rfl ?_
      refine g_iconst (v := 4) hC dX5_findBest_9 (by decide) ?_
      refine g_icmp_ge (tgt := 130) hC dX5_findBest_10 (by decide) (fun c10 => ?_) (fun c10 => absurd (by decide) c10)
      refine g_retv hR dX5_findBest_130 ?_
      clear hR hC hI
      exact ⟨rfl, rfl, T1, rfl, htk, hbk⟩
    | succ r ihlt =>
      intro t T1 ht4 htk hbk
      refine g_iload_n hC dX5_findBest_8 rfl ?_
      refine g_iconst (v := 4) hC dX5_findBest_9 (by decide) ?_
      refine g_icmp_ge (tgt := 130) hC dX5_findBest_10 (by decide) (fun c10 => absurd c10 (nI_ge (a := t) (b := 4) (by omega) (by decide))) (fun c10 => ?_)
      refine g_iconst (v := 0) hC dX5_findBest_13 (by decide) ?_
      refine g_istore hC dX5_findBest_14 (by decide) ?_
      have lo_ : ∀ (r : Nat) (o : Nat) (T1 : rM2), o + r = nO M j i → tOK T T1 → bOK T1 (bO M j i t o (bT M j i t none)) → GO l X b0 Z 0 0 lo (enR X lo M T1 e0) 16 [(0, .ref (lo 1000)), (1, .int (nI j)), (2, .int (nI i)), (3, .int (nI t)), (4, .int (nI o))] [] := by
        intro r
        induction r with
        | zero =>
          intro o T1 ho9 htk hbk
          have ho8 : o = nO M j i := by omega
          subst ho8
          have hnO : nO M j i = m + 1 - n := by unfold nO; rw [em2, en2]
          refine g_iload hC dX5_findBest_16 rfl ?_
          refine g_aload_n hC dX5_findBest_18 rfl ?_
          refine g_get hC rfl rO rfl kl_X5 5 (by decide) kf_X5_20 rfl rfl dX5_findBest_19 ?_
          refine g_iload_n hC dX5_findBest_22 rfl ?_
          refine g_iald hC rfl rA1002 i rfl (by omega) (by decide) dX5_findBest_23 ?_
          refine g_aload_n hC dX5_findBest_24 rfl ?_
          refine g_get hC rfl rO rfl kl_X5 12 (by decide) kf_X5_38 rfl rfl dX5_findBest_25 ?_
          refine g_iload_n hC dX5_findBest_28 rfl ?_
          refine g_iald hC rfl rA1008 j rfl (by omega) (by decide) dX5_findBest_29 ?_
          refine g_isub hC dX5_findBest_30 ?_
          refine g_icmp_gt (tgt := 124) hC dX5_findBest_31 (by decide) (fun c31 => ?_) (fun c31 => absurd ((off_gt em en hm10 hn10 (by omega)).mpr (by omega)) c31)
          refine g_iinc hC dX5_findBest_124 rfl (nI_inc t) (by decide) ?_
          refine g_goto (tgt := 8) hC dX5_findBest_127 (by decide) ?_
          exact g_lv (lv' := [(0, .ref (lo 1000)), (1, .int (nI j)), (2, .int (nI i)), (3, .int (nI (t + 1)))]) ⟨rfl, rfl, rfl, rfl, trivial⟩ (ihlt (t + 1) T1 (by omega) htk hbk)
        | succ r ihlo_ =>
          intro o T1 ho9 htk hbk
          have hnO : nO M j i = m + 1 - n := by unfold nO; rw [em2, en2]
          have ho : o + nt (M 7 j) ≤ nt (M 1 i) := nO_le (by omega)
          refine g_iload hC dX5_findBest_16 rfl ?_
          refine g_aload_n hC dX5_findBest_18 rfl ?_
          refine g_get hC rfl rO rfl kl_X5 5 (by decide) kf_X5_20 rfl rfl dX5_findBest_19 ?_
          refine g_iload_n hC dX5_findBest_22 rfl ?_
          refine g_iald hC rfl rA1002 i rfl (by omega) (by decide) dX5_findBest_23 ?_
          refine g_aload_n hC dX5_findBest_24 rfl ?_
          refine g_get hC rfl rO rfl kl_X5 12 (by decide) kf_X5_38 rfl rfl dX5_findBest_25 ?_
          refine g_iload_n hC dX5_findBest_28 rfl ?_
          refine g_iald hC rfl rA1008 j rfl (by omega) (by decide) dX5_findBest_29 ?_
          refine g_isub hC dX5_findBest_30 ?_
          refine g_icmp_gt (tgt := 124) hC dX5_findBest_31 (by decide) (fun c31 => absurd c31 (fun z => absurd ((off_gt em en hm10 hn10 (by omega)).mp z) (by omega))) (fun c31 => ?_)
          refine g_sipush (v := 1000) hC dX5_findBest_34 (by decide) ?_
          refine g_istore hC dX5_findBest_37 (by decide) ?_
          have lk : ∀ (r : Nat) (k : Nat) (T1 : rM2), k + r = 13 → tOK T T1 → bOK T1 (bF M j i t o k (bO M j i t o (bT M j i t none))) → GO l X b0 Z 0 0 lo (enR X lo M T1 e0) 39 [(0, .ref (lo 1000)), (1, .int (nI j)), (2, .int (nI i)), (3, .int (nI t)), (4, .int (nI o)), (5, .int (fc k))] [] := by
            intro r
            induction r with
            | zero =>
              intro k T1 hk9 htk hbk
              have hk8 : k = 13 := by omega
              subst hk8
              refine g_iload hC dX5_findBest_39 rfl ?_
              refine g_sipush (v := 940) hC dX5_findBest_41 (by decide) ?_
              refine g_icmp_lt (tgt := 118) hC dX5_findBest_44 (by decide) (fun c44 => ?_) (fun c44 => absurd (by decide) c44)
              refine g_iinc hC dX5_findBest_118 rfl (nI_inc o) (by decide) ?_
              refine g_goto (tgt := 16) hC dX5_findBest_121 (by decide) ?_
              exact g_lv (lv' := [(0, .ref (lo 1000)), (1, .int (nI j)), (2, .int (nI i)), (3, .int (nI t)), (4, .int (nI (o + 1)))]) ⟨rfl, rfl, rfl, rfl, rfl, trivial⟩ (ihlo_ (o + 1) T1 (by omega) htk hbk)
            | succ r ihlk =>
              intro k T1 hk9 htk hbk
              refine g_iload hC dX5_findBest_39 rfl ?_
              refine g_sipush (v := 940) hC dX5_findBest_41 (by decide) ?_
              refine g_icmp_lt (tgt := 118) hC dX5_findBest_44 (by decide) (fun c44 => absurd c44 (Int32.not_lt.mpr (fc_R (by omega)).1)) (fun c44 => ?_)
              refine g_aload_n hC dX5_findBest_47 rfl ?_
              refine g_iload_n hC dX5_findBest_48 rfl ?_
              refine g_iload_n hC dX5_findBest_49 rfl ?_
              refine g_iload_n hC dX5_findBest_50 rfl ?_
              refine g_iload hC dX5_findBest_51 rfl ?_
              refine g_iload hC dX5_findBest_53 rfl ?_
              refine g_callV hC v_X5_scoreOf km_X5_119 (c_X5_scoreOf l X b0 lo _ _ e0 hM j i t o hj hi (by omega) ho (fc k) (fc_R (by omega))) rfl rO rfl rfl rfl rfl (Nat.le_of_ble_eq_true rfl) ⟨by decide, by decide⟩ ⟨by decide, by decide⟩ dX5_findBest_55 (kI ?_)
              rintro r1 en' ⟨hr1, rfl⟩
              generalize hTs : up2 T1 3 19 (plS (plF M j i t o (fc k))) = T2
              have htk1 : tOK T T2 := by rw [← hTs]; exact htk.up
              have hb1 : T2 3 20 = T1 3 20 ∧ T2 3 21 = T1 3 21 ∧ T2 3 22 = T1 3 22 ∧ T2 3 23 = T1 3 23 ∧ T2 3 24 = T1 3 24 ∧ T2 3 19 = plS (plF M j i t o (fc k)) := by rw [← hTs]; simp [up2]
              refine g_istore hC dX5_findBest_58 (by decide) ?_
              refine g_iload hC dX5_findBest_60 rfl ?_
              refine g_if_lt (tgt := 112) hC dX5_findBest_62 (by decide) (fun c62 => ?_) (fun c62 => ?_)
              · have hbk2 : bOK T2 (bF M j i t o (k + 1) (bO M j i t o (bT M j i t none))) := by
                  have hnb := bF_nn (t := t) (k := k) hM hj hi ho (bO_nn (t := t) (o := o) hM hj hi (bT_nn (t := t) hM hj hi) (by omega)) (by omega)
                  have hnp := fun q hq => plF_R (t := t) (q := q) hM hj hi ho (fc_R (k := k) (by omega)) hq
                  unfold bF
                  generalize bF M j i t o k (bO M j i t o (bT M j i t none)) = b at hbk hnb
                  generalize plF M j i t o (fc k) = p at hr1 hnp hb1
                  clear hC hR hI ihlk ihlo_ ihlt
                  cases p with
                  | none => simp only [bOK, stF] at *; cases b <;> grind
                  | some q =>
                    have hq := hnp q rfl
                    cases b with
                    | none =>
                      simp only [bOK, stF, plV] at *; grind
                    | some r =>
                      have hr := hnb r rfl
                      simp only [bOK, stF, plV] at *; grind
                have htk2 : tOK T T2 := htk1
                refine g_iinc hC dX5_findBest_112 rfl (fc_dec (by omega)) (by decide) ?_
                refine g_goto (tgt := 39) hC dX5_findBest_115 (by decide) ?_
                exact g_lv (lv' := [(0, .ref (lo 1000)), (1, .int (nI j)), (2, .int (nI i)), (3, .int (nI t)), (4, .int (nI o)), (5, .int (fc (k + 1)))]) ⟨rfl, rfl, rfl, rfl, rfl, rfl, trivial⟩ (ihlk (k + 1) T2 (by omega) htk2 hbk2)
              · refine g_aload_n hC dX5_findBest_65 rfl ?_
                refine g_get hC rfl rO rfl kl_X5 20 (by decide) kf_X5_116 rfl rfl dX5_findBest_66 ?_
                refine g_if_lt (tgt := 81) hC dX5_findBest_69 (by decide) (fun c69 => ?_) (fun c69 => ?_)
                · refine g_aload_n hC dX5_findBest_81 rfl ?_
                  refine g_iload hC dX5_findBest_82 rfl ?_
                  refine g_put (ty := .int) hC rfl rO rfl kl_X5 20 (by decide) kf_X5_116 rfl tyX5 tyX5_ok nmX5 rfl (by decide +kernel) rfl rfl (Nat.le_of_ble_eq_true rfl) dX5_findBest_84 (fun en25 hen25 => ?_)
                  replace hen25 := rP20 hen25
                  obtain ⟨T25, hT25, hen25⟩ := hen25
                  subst hen25
                  refine g_aload_n hC dX5_findBest_87 rfl ?_
                  refine g_iload_n hC dX5_findBest_88 rfl ?_
                  refine g_put (ty := .int) hC rfl rO rfl kl_X5 21 (by decide) kf_X5_123 rfl tyX5 tyX5_ok nmX5 rfl (by decide +kernel) rfl rfl (Nat.le_of_ble_eq_true rfl) dX5_findBest_89 (fun en26 hen26 => ?_)
                  replace hen26 := rP21 hen26
                  obtain ⟨T26, hT26, hen26⟩ := hen26
                  subst hen26
                  refine g_aload_n hC dX5_findBest_92 rfl ?_
                  refine g_iload hC dX5_findBest_93 rfl ?_
                  refine g_put (ty := .int) hC rfl rO rfl kl_X5 22 (by decide) kf_X5_126 rfl tyX5 tyX5_ok nmX5 rfl (by decide +kernel) rfl rfl (Nat.le_of_ble_eq_true rfl) dX5_findBest_95 (fun en27 hen27 => ?_)
                  replace hen27 := rP22 hen27
                  obtain ⟨T27, hT27, hen27⟩ := hen27
                  subst hen27
                  refine g_aload_n hC dX5_findBest_98 rfl ?_
                  refine g_iload hC dX5_findBest_99 rfl ?_
                  refine g_put (ty := .int) hC rfl rO rfl kl_X5 23 (by decide) kf_X5_129 rfl tyX5 tyX5_ok nmX5 rfl (by decide +kernel) rfl rfl (Nat.le_of_ble_eq_true rfl) dX5_findBest_101 (fun en28 hen28 => ?_)
                  replace hen28 := rP23 hen28
                  obtain ⟨T28, hT28, hen28⟩ := hen28
                  subst hen28
                  refine g_aload_n hC dX5_findBest_104 rfl ?_
                  refine g_aload_n hC dX5_findBest_105 rfl ?_
                  refine g_get hC rfl rO rfl kl_X5 19 (by decide) kf_X5_105 rfl rfl dX5_findBest_106 ?_
                  refine g_put (ty := .int) hC rfl rO rfl kl_X5 24 (by decide) kf_X5_132 rfl tyX5 tyX5_ok nmX5 rfl (by decide +kernel) rfl rfl (Nat.le_of_ble_eq_true rfl) dX5_findBest_109 (fun en29 hen29 => ?_)
                  replace hen29 := rP24 hen29
                  obtain ⟨T29, hT29, hen29⟩ := hen29
                  subst hen29
                  have hbk2 : bOK T29 (bF M j i t o (k + 1) (bO M j i t o (bT M j i t none))) := by
                    have hnb := bF_nn (t := t) (k := k) hM hj hi ho (bO_nn (t := t) (o := o) hM hj hi (bT_nn (t := t) hM hj hi) (by omega)) (by omega)
                    have hnp := fun q hq => plF_R (t := t) (q := q) hM hj hi ho (fc_R (k := k) (by omega)) hq
                    unfold bF
                    generalize bF M j i t o k (bO M j i t o (bT M j i t none)) = b at hbk hnb
                    generalize plF M j i t o (fc k) = p at hr1 hnp hb1
                    clear hC hR hI ihlk ihlo_ ihlt
                    cases p with
                    | none => simp only [plV] at *; grind
                    | some q =>
                      have hq := hnp q rfl
                      cases b with
                      | none =>
                        simp only [stF]; rw [hT29, hT28, hT27, hT26, hT25]; simp [bOK, up2, plV, plS, hr1, hb1]
                      | some r =>
                        have hr := hnb r rfl
                        have hlt : q.1 < r.1 := by simp only [bOK, plV] at *; grind
                        simp only [stF, if_pos hlt]; rw [hT29, hT28, hT27, hT26, hT25]; simp [bOK, up2, plV, plS, hr1, hb1]
                  have htk2 : tOK T T29 := by rw [hT29, hT28, hT27, hT26, hT25]; exact htk1.up.up.up.up.up
                  refine g_iinc hC dX5_findBest_112 rfl (fc_dec (by omega)) (by decide) ?_
                  refine g_goto (tgt := 39) hC dX5_findBest_115 (by decide) ?_
                  exact g_lv (lv' := [(0, .ref (lo 1000)), (1, .int (nI j)), (2, .int (nI i)), (3, .int (nI t)), (4, .int (nI o)), (5, .int (fc (k + 1)))]) ⟨rfl, rfl, rfl, rfl, rfl, rfl, trivial⟩ (ihlk (k + 1) T29 (by omega) htk2 hbk2)
                · refine g_iload hC dX5_findBest_72 rfl ?_
                  refine g_aload_n hC dX5_findBest_74 rfl ?_
                  refine g_get hC rfl rO rfl kl_X5 20 (by decide) kf_X5_116 rfl rfl dX5_findBest_75 ?_
                  refine g_icmp_ge (tgt := 112) hC dX5_findBest_78 (by decide) (fun c78 => ?_) (fun c78 => ?_)
                  · have hbk2 : bOK T2 (bF M j i t o (k + 1) (bO M j i t o (bT M j i t none))) := by
                      have hnb := bF_nn (t := t) (k := k) hM hj hi ho (bO_nn (t := t) (o := o) hM hj hi (bT_nn (t := t) hM hj hi) (by omega)) (by omega)
                      have hnp := fun q hq => plF_R (t := t) (q := q) hM hj hi ho (fc_R (k := k) (by omega)) hq
                      unfold bF
                      generalize bF M j i t o k (bO M j i t o (bT M j i t none)) = b at hbk hnb
                      generalize plF M j i t o (fc k) = p at hr1 hnp hb1
                      clear hC hR hI ihlk ihlo_ ihlt
                      cases p with
                      | none => simp only [bOK, stF] at *; cases b <;> grind
                      | some q =>
                        have hq := hnp q rfl
                        cases b with
                        | none =>
                          simp only [bOK, stF, plV] at *; grind
                        | some r =>
                          have hr := hnb r rfl
                          simp only [bOK, stF, plV] at *; grind
                    have htk2 : tOK T T2 := htk1
                    refine g_iinc hC dX5_findBest_112 rfl (fc_dec (by omega)) (by decide) ?_
                    refine g_goto (tgt := 39) hC dX5_findBest_115 (by decide) ?_
                    exact g_lv (lv' := [(0, .ref (lo 1000)), (1, .int (nI j)), (2, .int (nI i)), (3, .int (nI t)), (4, .int (nI o)), (5, .int (fc (k + 1)))]) ⟨rfl, rfl, rfl, rfl, rfl, rfl, trivial⟩ (ihlk (k + 1) T2 (by omega) htk2 hbk2)
                  · refine g_aload_n hC dX5_findBest_81 rfl ?_
                    refine g_iload hC dX5_findBest_82 rfl ?_
                    refine g_put (ty := .int) hC rfl rO rfl kl_X5 20 (by decide) kf_X5_116 rfl tyX5 tyX5_ok nmX5 rfl (by decide +kernel) rfl rfl (Nat.le_of_ble_eq_true rfl) dX5_findBest_84 (fun en30 hen30 => ?_)
                    replace hen30 := rP20 hen30
                    obtain ⟨T30, hT30, hen30⟩ := hen30
                    subst hen30
                    refine g_aload_n hC dX5_findBest_87 rfl ?_
                    refine g_iload_n hC dX5_findBest_88 rfl ?_
                    refine g_put (ty := .int) hC rfl rO rfl kl_X5 21 (by decide) kf_X5_123 rfl tyX5 tyX5_ok nmX5 rfl (by decide +kernel) rfl rfl (Nat.le_of_ble_eq_true rfl) dX5_findBest_89 (fun en31 hen31 => ?_)
                    replace hen31 := rP21 hen31
                    obtain ⟨T31, hT31, hen31⟩ := hen31
                    subst hen31
                    refine g_aload_n hC dX5_findBest_92 rfl ?_
                    refine g_iload hC dX5_findBest_93 rfl ?_
                    refine g_put (ty := .int) hC rfl rO rfl kl_X5 22 (by decide) kf_X5_126 rfl tyX5 tyX5_ok nmX5 rfl (by decide +kernel) rfl rfl (Nat.le_of_ble_eq_true rfl) dX5_findBest_95 (fun en32 hen32 => ?_)
                    replace hen32 := rP22 hen32
                    obtain ⟨T32, hT32, hen32⟩ := hen32
                    subst hen32
                    refine g_aload_n hC dX5_findBest_98 rfl ?_
                    refine g_iload hC dX5_findBest_99 rfl ?_
                    refine g_put (ty := .int) hC rfl rO rfl kl_X5 23 (by decide) kf_X5_129 rfl tyX5 tyX5_ok nmX5 rfl (by decide +kernel) rfl rfl (Nat.le_of_ble_eq_true rfl) dX5_findBest_101 (fun en33 hen33 => ?_)
                    replace hen33 := rP23 hen33
                    obtain ⟨T33, hT33, hen33⟩ := hen33
                    subst hen33
                    refine g_aload_n hC dX5_findBest_104 rfl ?_
                    refine g_aload_n hC dX5_findBest_105 rfl ?_
                    refine g_get hC rfl rO rfl kl_X5 19 (by decide) kf_X5_105 rfl rfl dX5_findBest_106 ?_
                    refine g_put (ty := .int) hC rfl rO rfl kl_X5 24 (by decide) kf_X5_132 rfl tyX5 tyX5_ok nmX5 rfl (by decide +kernel) rfl rfl (Nat.le_of_ble_eq_true rfl) dX5_findBest_109 (fun en34 hen34 => ?_)
                    replace hen34 := rP24 hen34
                    obtain ⟨T34, hT34, hen34⟩ := hen34
                    subst hen34
                    have hbk2 : bOK T34 (bF M j i t o (k + 1) (bO M j i t o (bT M j i t none))) := by
                      have hnb := bF_nn (t := t) (k := k) hM hj hi ho (bO_nn (t := t) (o := o) hM hj hi (bT_nn (t := t) hM hj hi) (by omega)) (by omega)
                      have hnp := fun q hq => plF_R (t := t) (q := q) hM hj hi ho (fc_R (k := k) (by omega)) hq
                      unfold bF
                      generalize bF M j i t o k (bO M j i t o (bT M j i t none)) = b at hbk hnb
                      generalize plF M j i t o (fc k) = p at hr1 hnp hb1
                      clear hC hR hI ihlk ihlo_ ihlt
                      cases p with
                      | none => simp only [plV] at *; grind
                      | some q =>
                        have hq := hnp q rfl
                        cases b with
                        | none =>
                          simp only [stF]; rw [hT34, hT33, hT32, hT31, hT30]; simp [bOK, up2, plV, plS, hr1, hb1]
                        | some r =>
                          have hr := hnb r rfl
                          have hlt : q.1 < r.1 := by simp only [bOK, plV] at *; grind
                          simp only [stF, if_pos hlt]; rw [hT34, hT33, hT32, hT31, hT30]; simp [bOK, up2, plV, plS, hr1, hb1]
                    have htk2 : tOK T T34 := by rw [hT34, hT33, hT32, hT31, hT30]; exact htk1.up.up.up.up.up
                    refine g_iinc hC dX5_findBest_112 rfl (fc_dec (by omega)) (by decide) ?_
                    refine g_goto (tgt := 39) hC dX5_findBest_115 (by decide) ?_
                    exact g_lv (lv' := [(0, .ref (lo 1000)), (1, .int (nI j)), (2, .int (nI i)), (3, .int (nI t)), (4, .int (nI o)), (5, .int (fc (k + 1)))]) ⟨rfl, rfl, rfl, rfl, rfl, rfl, trivial⟩ (ihlk (k + 1) T34 (by omega) htk2 hbk2)
          exact g_lv (lv' := [(0, .ref (lo 1000)), (1, .int (nI j)), (2, .int (nI i)), (3, .int (nI t)), (4, .int (nI o)), (5, .int (fc 0))]) ⟨rfl, rfl, rfl, rfl, rfl, rfl, trivial⟩ (lk 13 0 T1 (by omega) htk hbk)
      exact g_lv (lv' := [(0, .ref (lo 1000)), (1, .int (nI j)), (2, .int (nI i)), (3, .int (nI t)), (4, .int (nI 0))]) ⟨rfl, rfl, rfl, rfl, rfl, trivial⟩ (lo_ (nO M j i) 0 T1 (by omega) htk hbk)
  exact g_lv (lv' := [(0, .ref (lo 1000)), (1, .int (nI j)), (2, .int (nI i)), (3, .int (nI 0))]) ⟨rfl, rfl, rfl, rfl, trivial⟩ (lt 4 0 T24 (by omega) (by rw [hT24]; exact tOK.rf.up) (by rw [hT24]; simp [bOK, bT, up2]))
end
section
/-! ===== the reference: questions ===== -/
theorem asF_lt {M : rM2} {j : Nat} : ∀ {k : Nat} {a : Nat × Int32 × Int32}, asF M j k = some a → a.1 < k
  | 0, a, h => by simp [asF] at h
  | k + 1, a, h => by
    have h2 : asS k (fb M j k) (asF M j k) = some a := h
    unfold asS at h2
    split at h2
    · have := asF_lt h2; omega
    · split at h2
      · cases h2; exact Nat.lt_succ_self k
      · rename_i a0 h0
        split at h2
        · cases h2; exact Nat.lt_succ_self k
        · cases h2; have := asF_lt h0; omega
theorem asF_s {M : rM2} {j k : Nat} : asF M j (k + 1) = asS k (fb M j k) (asF M j k) := rfl
theorem moA_neg {M : rM2} {j k : Nat} (hk : k ≤ 10) (h : moA (asF M j k) < 0) : asF M j k = none := by
  cases ha : asF M j k with
  | none => rfl
  | some a =>
    rw [ha] at h
    exact absurd h (nI_pos (by have := asF_lt ha; omega))
theorem rvF_s {M : rM2} {j k : Nat} {mg : Int32} : rvF M j mg (k + 1) = rvF M j mg k + (match fb M j k with | none => 0 | some b => if nI k ≠ moF M j ∧ b.1 ≤ scF M j + mg then 1 else 0) := rfl
theorem bsF_s {M : rM2} {p : Int32} {k : Nat} : bsF M p (k + 1) = bsF M p k ||| (if moF M k = p then 1 <<< (nI k &&& 31) else 0) := rfl
theorem eaF_s {M : rM2} {j k : Nat} : eaF M j (k + 1) = if lowF M k j ∧ eaF M j k < M 12 k then M 12 k else eaF M j k := rfl
theorem laF_s {M : rM2} {j k : Nat} : laF M j (k + 1) = if lowF M j k ∧ M 13 k < laF M j k then M 13 k else laF M j k := rfl
theorem anF_s {M : rM2} {p : Int32} {k x : Nat} : anF M p k (x + 1) = anF M p k x + (if onF M k p ∧ onF M x p ∧ x ≠ k ∧ ahF M x k then 1 else 0) := rfl
theorem ccI_s {M : rM2} {p : Int32} {a b : Nat} {c : Int32} : ccI M p a (b + 1) c = ccI M p a b c + (if moF M a = p ∧ lowF M a b ∧ M 13 b < M 12 a then 1 else 0) := rfl
def aOK (T T1 : rM2) (j : Nat) (o : Option (Nat × Int32 × Int32)) : Prop := T1 0 j = moA o ∧ T1 1 j = soA o ∧ T1 2 j = scA o ∧ ∀ a x, a < 3 → x ≠ j → T1 a x = T a x
theorem aOK.keep {T T1 T9 : rM2} {j : Nat} {o : Option (Nat × Int32 × Int32)} (h : aOK T T1 j o) (ht : tOK T1 T9) : aOK T T9 j o := by
  obtain ⟨a1, a2, a3, a4⟩ := h
  refine ⟨by rw [ht 0 (by decide)]; exact a1, by rw [ht 1 (by decide)]; exact a2, by rw [ht 2 (by decide)]; exact a3, fun a x ha hx => ?_⟩
  rw [ht a (by omega)]
  exact a4 a x ha hx
def sOK (M T1 : rM2) (n : Nat) : Prop := ∀ x, x < n → T1 0 x = moF M x ∧ T1 1 x = soF M x ∧ T1 2 x = scF M x

set_option maxHeartbeats 4000000 in
set_option maxRecDepth 100000 in
theorem c_X5_score (l : Launch) (X : gX) (b0 : Nat) (lo : gL) (M T : rM2) (e0 : gE) (hM : Iv M) (p q : Int32) : Ct l X b0 lo (enR X lo M T e0) yX5_score cX5_score 4 (some FieldType.int) (rM 4 109) [.ref (lo 1000), .int p, .int q] (pRf X lo e0 (sp_score M p q)) := by
  refine gMet (by decide) (Nat.le_of_ble_eq_true rfl) rfl ?_
  intro Z hC hI hR
  refine g_aload_n hC dX5_score_0 rfl ?_
  refine g_iload_n hC dX5_score_1 rfl ?_
  refine g_iload_n hC dX5_score_2 rfl ?_
  refine g_callV hC v_X5_bothBarred km_X5_135 (c_X5_bothBarred l X b0 lo _ _ e0 _ _) rfl rO rfl rfl rfl rfl (Nat.le_of_ble_eq_true rfl) ⟨by decide, by decide⟩ ⟨by decide, by decide⟩ dX5_score_3 (kX ?_)
  refine g_istore_n hC dX5_score_6 (by decide) ?_
  refine g_iload_n hC dX5_score_7 rfl ?_
  refine g_if_ge (tgt := 13) hC dX5_score_8 (by decide) (fun c8 => ?_) (fun c8 => ?_)
  · have hb2 : isSh M p ∧ isMo M q := by grind [bbF]
    have hb0 : bbF M p q = 0 := by grind [bbF]
    obtain ⟨j, hj, rfl, hj1, -⟩ := shOf hM hb2.1
    obtain ⟨i, hi, rfl, hi1, -⟩ := moOf hM hb2.2
    have ej : nt (nI j) = j := nt_nI (by omega)
    have ei : nt (nI i) = i := nt_nI (by omega)
    refine g_aload_n hC dX5_score_13 rfl ?_
    refine g_iload_n hC dX5_score_14 rfl ?_
    refine g_iload_n hC dX5_score_15 rfl ?_
    refine g_callV hC v_X5_findBest km_X5_138 (c_X5_findBest l X b0 lo _ _ e0 hM j i hj1 hi1) rfl rO rfl rfl rfl rfl (Nat.le_of_ble_eq_true rfl) ⟨by decide, by decide⟩ ⟨by decide, by decide⟩ dX5_score_16 (kV ?_)
    rintro en' ⟨T9, rfl, htkT9, hbkT9⟩
    refine g_aload_n hC dX5_score_19 rfl ?_
    refine g_get hC rfl rO rfl kl_X5 20 (by decide) kf_X5_116 rfl rfl dX5_score_20 ?_
    refine g_ireti hR dX5_score_23 rfl ?_
    clear hR hC hI
    refine pRf_i ?_ rfl
    unfold sp_score
    rw [hb0, ej, ei]
    cases hfb : fb M j i with
    | none => rw [hfb] at hbkT9; exact hbkT9
    | some b => rw [hfb] at hbkT9; exact hbkT9.1
  · refine g_iload_n hC dX5_score_11 rfl ?_
    refine g_ireti hR dX5_score_12 rfl ?_
    clear hR hC hI
    refine pRf_i ?_ rfl
    grind [sp_score]

set_option maxHeartbeats 4000000 in
set_option maxRecDepth 100000 in
theorem c_X5_placement (l : Launch) (X : gX) (b0 : Nat) (lo : gL) (M T : rM2) (e0 : gE) (hM : Iv M) (p q w : Int32) : Ct l X b0 lo (enR X lo M T e0) yX5_placement cX5_placement 5 (some FieldType.int) (rM 4 109) [.ref (lo 1000), .int p, .int q, .int w] (pRf X lo e0 (sp_placement M p q w)) := by
  refine gMet (by decide) (Nat.le_of_ble_eq_true rfl) rfl ?_
  intro Z hC hI hR
  refine g_aload_n hC dX5_placement_0 rfl ?_
  refine g_iload_n hC dX5_placement_1 rfl ?_
  refine g_iload_n hC dX5_placement_2 rfl ?_
  refine g_callV hC v_X5_bothBarred km_X5_135 (c_X5_bothBarred l X b0 lo _ _ e0 _ _) rfl rO rfl rfl rfl rfl (Nat.le_of_ble_eq_true rfl) ⟨by decide, by decide⟩ ⟨by decide, by decide⟩ dX5_placement_3 (kX ?_)
  refine g_istore hC dX5_placement_6 (by decide) ?_
  refine g_iload hC dX5_placement_8 rfl ?_
  refine g_if_ge (tgt := 16) hC dX5_placement_10 (by decide) (fun c10 => ?_) (fun c10 => ?_)
  · have hb2 : isSh M p ∧ isMo M q := by grind [bbF]
    have hb0 : bbF M p q = 0 := by grind [bbF]
    obtain ⟨j, hj, rfl, hj1, -⟩ := shOf hM hb2.1
    obtain ⟨i, hi, rfl, hi1, -⟩ := moOf hM hb2.2
    have ej : nt (nI j) = j := nt_nI (by omega)
    have ei : nt (nI i) = i := nt_nI (by omega)
    refine g_iload_n hC dX5_placement_16 rfl ?_
    refine g_iconst (v := 0) hC dX5_placement_17 (by decide) ?_
    refine g_iconst (v := 3) hC dX5_placement_18 (by decide) ?_
    refine g_callS hC v_X5_within km_X5_71 (c_X5_within l X b0 lo _ _ _ _) rfl rfl (Nat.le_of_ble_eq_true rfl) ⟨by decide, by decide⟩ ⟨by decide, by decide⟩ dX5_placement_19 (kX ?_)
    refine g_if_ne (tgt := 28) hC dX5_placement_22 (by decide) (fun c22 => ?_) (fun c22 => ?_)
    · refine g_aload_n hC dX5_placement_28 rfl ?_
      refine g_iload_n hC dX5_placement_29 rfl ?_
      refine g_iload_n hC dX5_placement_30 rfl ?_
      refine g_callV hC v_X5_findBest km_X5_138 (c_X5_findBest l X b0 lo _ _ e0 hM j i hj1 hi1) rfl rO rfl rfl rfl rfl (Nat.le_of_ble_eq_true rfl) ⟨by decide, by decide⟩ ⟨by decide, by decide⟩ dX5_placement_31 (kV ?_)
      rintro en' ⟨T9, rfl, htkT9, hbkT9⟩
      refine g_aload_n hC dX5_placement_34 rfl ?_
      refine g_get hC rfl rO rfl kl_X5 20 (by decide) kf_X5_116 rfl rfl dX5_placement_35 ?_
      refine g_if_ge (tgt := 46) hC dX5_placement_38 (by decide) (fun c38 => ?_) (fun c38 => ?_)
      · refine g_iload_n hC dX5_placement_46 rfl ?_
        refine g_if_ne (tgt := 57) hC dX5_placement_47 (by decide) (fun c47 => ?_) (fun c47 => ?_)
        · refine g_iload_n hC dX5_placement_57 rfl ?_
          refine g_iconst (v := 1) hC dX5_placement_58 (by decide) ?_
          refine g_icmp_ne (tgt := 69) hC dX5_placement_59 (by decide) (fun c59 => ?_) (fun c59 => ?_)
          · refine g_iload_n hC dX5_placement_69 rfl ?_
            refine g_iconst (v := 2) hC dX5_placement_70 (by decide) ?_
            refine g_icmp_ne (tgt := 81) hC dX5_placement_71 (by decide) (fun c71 => ?_) (fun c71 => ?_)
            · refine g_aload_n hC dX5_placement_81 rfl ?_
              refine g_get hC rfl rO rfl kl_X5 24 (by decide) kf_X5_132 rfl rfl dX5_placement_82 ?_
              refine g_ireti hR dX5_placement_85 rfl ?_
              clear hR hC hI
              refine pRf_i ?_ rfl
              unfold sp_placement
              rw [hb0, ej, ei]
              have hw := wi_ne c22
              have hnn := fb_nn hM hj1 hi1
              cases hfb : fb M j i with
              | none =>
                rw [hfb] at hbkT9
                simp only [bOK] at hbkT9
                simp only [if_pos hw]
                grind
              | some b =>
                rw [hfb] at hbkT9 hnn
                have h9 := hnn b rfl
                simp only [bOK] at hbkT9
                simp only [if_pos hw]
                grind
            · refine g_aload_n hC dX5_placement_74 rfl ?_
              refine g_get hC rfl rO rfl kl_X5 23 (by decide) kf_X5_129 rfl rfl dX5_placement_75 ?_
              refine g_goto (tgt := 85) hC dX5_placement_78 (by decide) ?_
              refine g_ireti hR dX5_placement_85 rfl ?_
              clear hR hC hI
              refine pRf_i ?_ rfl
              unfold sp_placement
              rw [hb0, ej, ei]
              have hw := wi_ne c22
              have hnn := fb_nn hM hj1 hi1
              cases hfb : fb M j i with
              | none =>
                rw [hfb] at hbkT9
                simp only [bOK] at hbkT9
                simp only [if_pos hw]
                grind
              | some b =>
                rw [hfb] at hbkT9 hnn
                have h9 := hnn b rfl
                simp only [bOK] at hbkT9
                simp only [if_pos hw]
                grind
          · refine g_aload_n hC dX5_placement_62 rfl ?_
            refine g_get hC rfl rO rfl kl_X5 22 (by decide) kf_X5_126 rfl rfl dX5_placement_63 ?_
            refine g_goto (tgt := 85) hC dX5_placement_66 (by decide) ?_
            refine g_ireti hR dX5_placement_85 rfl ?_
            clear hR hC hI
            refine pRf_i ?_ rfl
            unfold sp_placement
            rw [hb0, ej, ei]
            have hw := wi_ne c22
            have hnn := fb_nn hM hj1 hi1
            cases hfb : fb M j i with
            | none =>
              rw [hfb] at hbkT9
              simp only [bOK] at hbkT9
              simp only [if_pos hw]
              grind
            | some b =>
              rw [hfb] at hbkT9 hnn
              have h9 := hnn b rfl
              simp only [bOK] at hbkT9
              simp only [if_pos hw]
              grind
        · refine g_aload_n hC dX5_placement_50 rfl ?_
          refine g_get hC rfl rO rfl kl_X5 21 (by decide) kf_X5_123 rfl rfl dX5_placement_51 ?_
          refine g_goto (tgt := 85) hC dX5_placement_54 (by decide) ?_
          refine g_ireti hR dX5_placement_85 rfl ?_
          clear hR hC hI
          refine pRf_i ?_ rfl
          unfold sp_placement
          rw [hb0, ej, ei]
          have hw := wi_ne c22
          have hnn := fb_nn hM hj1 hi1
          cases hfb : fb M j i with
          | none =>
            rw [hfb] at hbkT9
            simp only [bOK] at hbkT9
            simp only [if_pos hw]
            grind
          | some b =>
            rw [hfb] at hbkT9 hnn
            have h9 := hnn b rfl
            simp only [bOK] at hbkT9
            simp only [if_pos hw]
            grind
      · refine g_bipush (v := (-6)) hC dX5_placement_41 (by decide) ?_
        refine g_goto (tgt := 85) hC dX5_placement_43 (by decide) ?_
        refine g_ireti hR dX5_placement_85 rfl ?_
        clear hR hC hI
        refine pRf_i ?_ rfl
        unfold sp_placement
        rw [hb0, ej, ei]
        have hw := wi_ne c22
        have hnn := fb_nn hM hj1 hi1
        cases hfb : fb M j i with
        | none =>
          rw [hfb] at hbkT9
          simp only [bOK] at hbkT9
          simp only [if_pos hw]
          grind
        | some b =>
          rw [hfb] at hbkT9 hnn
          have h9 := hnn b rfl
          simp only [bOK] at hbkT9
          simp only [if_pos hw]
          grind
    · refine g_bipush (v := (-3)) hC dX5_placement_25 (by decide) ?_
      refine g_ireti hR dX5_placement_27 rfl ?_
      clear hR hC hI
      refine pRf_i ?_ rfl
      grind [sp_placement, wi]
  · refine g_iload hC dX5_placement_13 rfl ?_
    refine g_ireti hR dX5_placement_15 rfl ?_
    clear hR hC hI
    refine pRf_i ?_ rfl
    grind [sp_placement]

set_option maxHeartbeats 4000000 in
set_option maxRecDepth 100000 in
theorem c_X5_assign (l : Launch) (X : gX) (b0 : Nat) (lo : gL) (M T : rM2) (e0 : gE) (hM : Iv M) (j : Nat) (hj : j < nSh M) : Ct l X b0 lo (enR X lo M T e0) yX5_assign cX5_assign 3 none (rM 4 109) [.ref (lo 1000), .int (nI j)] (pV lo (fun en' => ∃ T' : rM2, en' = enR X lo M T' e0 ∧ aOK T T' j (aG M j))) := by
  refine gMet (by decide) (Nat.le_of_ble_eq_true rfl) rfl ?_
  intro Z hC hI hR
  have hS := (Iv_nS hM).1
  obtain ⟨hM10, eM⟩ := Iv_nM hM
  refine g_aload_n hC dX5_assign_0 rfl ?_
  refine g_get hC rfl rO rfl kl_X5 25 (by decide) kf_X5_59 rfl rfl dX5_assign_1 ?_
  refine g_iload_n hC dX5_assign_4 rfl ?_
  refine g_bipush (v := (-6)) hC dX5_assign_5 (by decide) ?_
  refine g_iast hC rfl rA1015 j rfl (by omega) (by decide) dX5_assign_7 (fun en35 hen35 => ?_)
  replace hen35 := rQ1015 hen35
  obtain ⟨T35, hT35, hen35⟩ := hen35
  subst hen35
  refine g_aload_n hC dX5_assign_8 rfl ?_
  refine g_get hC rfl rO rfl kl_X5 26 (by decide) kf_X5_62 rfl rfl dX5_assign_9 ?_
  refine g_iload_n hC dX5_assign_12 rfl ?_
  refine g_bipush (v := (-6)) hC dX5_assign_13 (by decide) ?_
  refine g_iast hC rfl rA1016 j rfl (by omega) (by decide) dX5_assign_15 (fun en36 hen36 => ?_)
  replace hen36 := rQ1016 hen36
  obtain ⟨T36, hT36, hen36⟩ := hen36
  subst hen36
  refine g_aload_n hC dX5_assign_16 rfl ?_
  refine g_get hC rfl rO rfl kl_X5 27 (by decide) kf_X5_65 rfl rfl dX5_assign_17 ?_
  refine g_iload_n hC dX5_assign_20 rfl ?_
  refine g_bipush (v := (-6)) hC dX5_assign_21 (by decide) ?_
  refine g_iast hC rfl rA1017 j rfl (by omega) (by decide) dX5_assign_23 (fun en37 hen37 => ?_)
  replace hen37 := rQ1017 hen37
  obtain ⟨T37, hT37, hen37⟩ := hen37
  subst hen37
  refine g_iconst (v := 0) hC dX5_assign_24 (by decide) ?_
  refine g_istore_n hC dX5_assign_25 (by decide) ?_
  have lg : ∀ (r : Nat) (k : Nat) (T1 : rM2), k + r = nMo M → aOK T T1 j (asF M j k) → GO l X b0 Z 0 0 lo (enR X lo M T1 e0) 26 [(0, .ref (lo 1000)), (1, .int (nI j)), (2, .int (nI k))] [] := by
    intro r
    induction r with
    | zero =>
      intro k T1 hk9 hak
      have hk8 : k = nMo M := by omega
      subst hk8
      refine g_iload_n hC dX5_assign_26 rfl ?_
      refine g_aload_n hC dX5_assign_27 rfl ?_
      refine g_get hC rfl rO rfl kl_X5 4 (by decide) kf_X5_75 rfl rfl dX5_assign_28 ?_
      refine g_icmp_ge (tgt := 102) hC dX5_assign_31 (by decide) (fun c31 => ?_) (fun c31 => absurd (by rw [eM]; exact nI_le (by omega) (by omega)) c31)
      refine g_retv hR dX5_assign_102 ?_
      clear hR hC hI
      exact ⟨rfl, rfl, T1, rfl, hak⟩
    | succ r ihlg =>
      intro k T1 hk9 hak
      refine g_iload_n hC dX5_assign_26 rfl ?_
      refine g_aload_n hC dX5_assign_27 rfl ?_
      refine g_get hC rfl rO rfl kl_X5 4 (by decide) kf_X5_75 rfl rfl dX5_assign_28 ?_
      refine g_icmp_ge (tgt := 102) hC dX5_assign_31 (by decide) (fun c31 => absurd c31 (by rw [eM]; exact nI_ge (by omega) (by omega))) (fun c31 => ?_)
      refine g_aload_n hC dX5_assign_34 rfl ?_
      refine g_iload_n hC dX5_assign_35 rfl ?_
      refine g_iload_n hC dX5_assign_36 rfl ?_
      refine g_callV hC v_X5_findBest km_X5_138 (c_X5_findBest l X b0 lo _ _ e0 hM j k hj (by omega)) rfl rO rfl rfl rfl rfl (Nat.le_of_ble_eq_true rfl) ⟨by decide, by decide⟩ ⟨by decide, by decide⟩ dX5_assign_37 (kV ?_)
      rintro en' ⟨T9, rfl, htkT9, hbkT9⟩
      refine g_aload_n hC dX5_assign_40 rfl ?_
      refine g_get hC rfl rO rfl kl_X5 20 (by decide) kf_X5_116 rfl rfl dX5_assign_41 ?_
      refine g_if_lt (tgt := 96) hC dX5_assign_44 (by decide) (fun c44 => ?_) (fun c44 => ?_)
      · have hak2 : aOK T T9 j (asF M j (k + 1)) := by
          have hnn := fb_nn hM hj (show k < nMo M by omega)
          have h0 : T9 0 j = T1 0 j := congrFun (htkT9 0 (by decide)) j
          have h2 : T9 2 j = T1 2 j := congrFun (htkT9 2 (by decide)) j
          have hk9' := hak.keep htkT9
          have hpos : ∀ a, asF M j k = some a → 0 ≤ nI a.1 := fun a ha => nI_pos' (by have := asF_lt ha; omega)
          clear hC hR hI ihlg
          rw [asF_s]
          cases hfb : fb M j k with
          | none =>
            rw [hfb] at hbkT9
            simp only [bOK] at hbkT9
            exact hk9'
          | some b =>
            rw [hfb] at hbkT9 hnn
            have hb0 := hnn b rfl
            simp only [bOK] at hbkT9
            cases hao : asF M j k with
            | none =>
              rw [hao] at hak hk9'
              have a1 := hak.1
              simp only [moA] at a1
              exfalso; clear hk9' hak; grind
            | some a =>
              have hp := hpos a hao
              rw [hao] at hak hk9'
              have a1 := hak.1
              have a3 := hak.2.2.1
              simp only [moA, scA] at a1 a3
              have hlt : ¬ b.1 < a.2.2 := by clear hk9' hak; grind
              show aOK T T9 j (if b.1 < a.2.2 then some (k, b.2.2.2.2, b.1) else some a)
              rw [if_neg hlt]
              exact hk9'
        refine g_iinc hC dX5_assign_96 rfl (nI_inc k) (by decide) ?_
        refine g_goto (tgt := 26) hC dX5_assign_99 (by decide) ?_
        exact g_lv (lv' := [(0, .ref (lo 1000)), (1, .int (nI j)), (2, .int (nI (k + 1)))]) ⟨rfl, rfl, rfl, trivial⟩ (ihlg (k + 1) T9 (by omega) hak2)
      · refine g_aload_n hC dX5_assign_47 rfl ?_
        refine g_get hC rfl rO rfl kl_X5 25 (by decide) kf_X5_59 rfl rfl dX5_assign_48 ?_
        refine g_iload_n hC dX5_assign_51 rfl ?_
        refine g_iald hC rfl rA1015 j rfl (by omega) (by decide) dX5_assign_52 ?_
        refine g_if_lt (tgt := 69) hC dX5_assign_53 (by decide) (fun c53 => ?_) (fun c53 => ?_)
        · refine g_aload_n hC dX5_assign_69 rfl ?_
          refine g_get hC rfl rO rfl kl_X5 25 (by decide) kf_X5_59 rfl rfl dX5_assign_70 ?_
          refine g_iload_n hC dX5_assign_73 rfl ?_
          refine g_iload_n hC dX5_assign_74 rfl ?_
          refine g_iast hC rfl rA1015 j rfl (by omega) (by decide) dX5_assign_75 (fun en38 hen38 => ?_)
          replace hen38 := rQ1015 hen38
          obtain ⟨T38, hT38, hen38⟩ := hen38
          subst hen38
          refine g_aload_n hC dX5_assign_76 rfl ?_
          refine g_get hC rfl rO rfl kl_X5 26 (by decide) kf_X5_62 rfl rfl dX5_assign_77 ?_
          refine g_iload_n hC dX5_assign_80 rfl ?_
          refine g_aload_n hC dX5_assign_81 rfl ?_
          refine g_get hC rfl rO rfl kl_X5 24 (by decide) kf_X5_132 rfl rfl dX5_assign_82 ?_
          refine g_iast hC rfl rA1016 j rfl (by omega) (by decide) dX5_assign_85 (fun en39 hen39 => ?_)
          replace hen39 := rQ1016 hen39
          obtain ⟨T39, hT39, hen39⟩ := hen39
          subst hen39
          refine g_aload_n hC dX5_assign_86 rfl ?_
          refine g_get hC rfl rO rfl kl_X5 27 (by decide) kf_X5_65 rfl rfl dX5_assign_87 ?_
          refine g_iload_n hC dX5_assign_90 rfl ?_
          refine g_aload_n hC dX5_assign_91 rfl ?_
          refine g_get hC rfl rO rfl kl_X5 20 (by decide) kf_X5_116 rfl rfl dX5_assign_92 ?_
          refine g_iast hC rfl rA1017 j rfl (by omega) (by decide) dX5_assign_95 (fun en40 hen40 => ?_)
          replace hen40 := rQ1017 hen40
          obtain ⟨T40, hT40, hen40⟩ := hen40
          subst hen40
          have hak2 : aOK T T40 j (asF M j (k + 1)) := by
            have hnn := fb_nn hM hj (show k < nMo M by omega)
            have h0 : T9 0 j = T1 0 j := congrFun (htkT9 0 (by decide)) j
            have h2 : T9 2 j = T1 2 j := congrFun (htkT9 2 (by decide)) j
            have hk9' := hak.keep htkT9
            have hpos : ∀ a, asF M j k = some a → 0 ≤ nI a.1 := fun a ha => nI_pos' (by have := asF_lt ha; omega)
            clear hC hR hI ihlg
            rw [asF_s]
            cases hfb : fb M j k with
            | none =>
              rw [hfb] at hbkT9
              simp only [bOK] at hbkT9
              exact absurd (by rw [hbkT9]; decide) c44
            | some b =>
              rw [hfb] at hbkT9 hnn
              have hb0 := hnn b rfl
              simp only [bOK] at hbkT9
              cases hao : asF M j k with
              | none =>
                rw [hao] at hak hk9'
                have a1 := hak.1
                simp only [moA] at a1
                show aOK T T40 j (some (k, b.2.2.2.2, b.1))
                rw [hT40, hT39, hT38]
                exact ⟨by simp [up2, moA], by simp [up2, soA, hbkT9], by simp [up2, scA, hbkT9], fun a x ha hx => by have := hk9'.2.2.2 a x ha hx; simp [up2, hx, this]⟩
              | some a =>
                have hp := hpos a hao
                rw [hao] at hak hk9'
                have a1 := hak.1
                have a3 := hak.2.2.1
                simp only [moA, scA] at a1 a3
                have hlt : b.1 < a.2.2 := by clear hk9' hak; grind
                show aOK T T40 j (if b.1 < a.2.2 then some (k, b.2.2.2.2, b.1) else some a)
                rw [if_pos hlt]
                rw [hT40, hT39, hT38]
                exact ⟨by simp [up2, moA], by simp [up2, soA, hbkT9], by simp [up2, scA, hbkT9], fun a x ha hx => by have := hk9'.2.2.2 a x ha hx; simp [up2, hx, this]⟩
          refine g_iinc hC dX5_assign_96 rfl (nI_inc k) (by decide) ?_
          refine g_goto (tgt := 26) hC dX5_assign_99 (by decide) ?_
          exact g_lv (lv' := [(0, .ref (lo 1000)), (1, .int (nI j)), (2, .int (nI (k + 1)))]) ⟨rfl, rfl, rfl, trivial⟩ (ihlg (k + 1) T40 (by omega) hak2)
        · refine g_aload_n hC dX5_assign_56 rfl ?_
          refine g_get hC rfl rO rfl kl_X5 20 (by decide) kf_X5_116 rfl rfl dX5_assign_57 ?_
          refine g_aload_n hC dX5_assign_60 rfl ?_
          refine g_get hC rfl rO rfl kl_X5 27 (by decide) kf_X5_65 rfl rfl dX5_assign_61 ?_
          refine g_iload_n hC dX5_assign_64 rfl ?_
          refine g_iald hC rfl rA1017 j rfl (by omega) (by decide) dX5_assign_65 ?_
          refine g_icmp_ge (tgt := 96) hC dX5_assign_66 (by decide) (fun c66 => ?_) (fun c66 => ?_)
          · have hak2 : aOK T T9 j (asF M j (k + 1)) := by
              have hnn := fb_nn hM hj (show k < nMo M by omega)
              have h0 : T9 0 j = T1 0 j := congrFun (htkT9 0 (by decide)) j
              have h2 : T9 2 j = T1 2 j := congrFun (htkT9 2 (by decide)) j
              have hk9' := hak.keep htkT9
              have hpos : ∀ a, asF M j k = some a → 0 ≤ nI a.1 := fun a ha => nI_pos' (by have := asF_lt ha; omega)
              clear hC hR hI ihlg
              rw [asF_s]
              cases hfb : fb M j k with
              | none =>
                rw [hfb] at hbkT9
                simp only [bOK] at hbkT9
                exact hk9'
              | some b =>
                rw [hfb] at hbkT9 hnn
                have hb0 := hnn b rfl
                simp only [bOK] at hbkT9
                cases hao : asF M j k with
                | none =>
                  rw [hao] at hak hk9'
                  have a1 := hak.1
                  simp only [moA] at a1
                  exfalso; clear hk9' hak; grind
                | some a =>
                  have hp := hpos a hao
                  rw [hao] at hak hk9'
                  have a1 := hak.1
                  have a3 := hak.2.2.1
                  simp only [moA, scA] at a1 a3
                  have hlt : ¬ b.1 < a.2.2 := by clear hk9' hak; grind
                  show aOK T T9 j (if b.1 < a.2.2 then some (k, b.2.2.2.2, b.1) else some a)
                  rw [if_neg hlt]
                  exact hk9'
            refine g_iinc hC dX5_assign_96 rfl (nI_inc k) (by decide) ?_
            refine g_goto (tgt := 26) hC dX5_assign_99 (by decide) ?_
            exact g_lv (lv' := [(0, .ref (lo 1000)), (1, .int (nI j)), (2, .int (nI (k + 1)))]) ⟨rfl, rfl, rfl, trivial⟩ (ihlg (k + 1) T9 (by omega) hak2)
          · refine g_aload_n hC dX5_assign_69 rfl ?_
            refine g_get hC rfl rO rfl kl_X5 25 (by decide) kf_X5_59 rfl rfl dX5_assign_70 ?_
            refine g_iload_n hC dX5_assign_73 rfl ?_
            refine g_iload_n hC dX5_assign_74 rfl ?_
            refine g_iast hC rfl rA1015 j rfl (by omega) (by decide) dX5_assign_75 (fun en41 hen41 => ?_)
            replace hen41 := rQ1015 hen41
            obtain ⟨T41, hT41, hen41⟩ := hen41
            subst hen41
            refine g_aload_n hC dX5_assign_76 rfl ?_
            refine g_get hC rfl rO rfl kl_X5 26 (by decide) kf_X5_62 rfl rfl dX5_assign_77 ?_
            refine g_iload_n hC dX5_assign_80 rfl ?_
            refine g_aload_n hC dX5_assign_81 rfl ?_
            refine g_get hC rfl rO rfl kl_X5 24 (by decide) kf_X5_132 rfl rfl dX5_assign_82 ?_
            refine g_iast hC rfl rA1016 j rfl (by omega) (by decide) dX5_assign_85 (fun en42 hen42 => ?_)
            replace hen42 := rQ1016 hen42
            obtain ⟨T42, hT42, hen42⟩ := hen42
            subst hen42
            refine g_aload_n hC dX5_assign_86 rfl ?_
            refine g_get hC rfl rO rfl kl_X5 27 (by decide) kf_X5_65 rfl rfl dX5_assign_87 ?_
            refine g_iload_n hC dX5_assign_90 rfl ?_
            refine g_aload_n hC dX5_assign_91 rfl ?_
            refine g_get hC rfl rO rfl kl_X5 20 (by decide) kf_X5_116 rfl rfl dX5_assign_92 ?_
            refine g_iast hC rfl rA1017 j rfl (by omega) (by decide) dX5_assign_95 (fun en43 hen43 => ?_)
            replace hen43 := rQ1017 hen43
            obtain ⟨T43, hT43, hen43⟩ := hen43
            subst hen43
            have hak2 : aOK T T43 j (asF M j (k + 1)) := by
              have hnn := fb_nn hM hj (show k < nMo M by omega)
              have h0 : T9 0 j = T1 0 j := congrFun (htkT9 0 (by decide)) j
              have h2 : T9 2 j = T1 2 j := congrFun (htkT9 2 (by decide)) j
              have hk9' := hak.keep htkT9
              have hpos : ∀ a, asF M j k = some a → 0 ≤ nI a.1 := fun a ha => nI_pos' (by have := asF_lt ha; omega)
              clear hC hR hI ihlg
              rw [asF_s]
              cases hfb : fb M j k with
              | none =>
                rw [hfb] at hbkT9
                simp only [bOK] at hbkT9
                exact absurd (by rw [hbkT9]; decide) c44
              | some b =>
                rw [hfb] at hbkT9 hnn
                have hb0 := hnn b rfl
                simp only [bOK] at hbkT9
                cases hao : asF M j k with
                | none =>
                  rw [hao] at hak hk9'
                  have a1 := hak.1
                  simp only [moA] at a1
                  show aOK T T43 j (some (k, b.2.2.2.2, b.1))
                  rw [hT43, hT42, hT41]
                  exact ⟨by simp [up2, moA], by simp [up2, soA, hbkT9], by simp [up2, scA, hbkT9], fun a x ha hx => by have := hk9'.2.2.2 a x ha hx; simp [up2, hx, this]⟩
                | some a =>
                  have hp := hpos a hao
                  rw [hao] at hak hk9'
                  have a1 := hak.1
                  have a3 := hak.2.2.1
                  simp only [moA, scA] at a1 a3
                  have hlt : b.1 < a.2.2 := by clear hk9' hak; grind
                  show aOK T T43 j (if b.1 < a.2.2 then some (k, b.2.2.2.2, b.1) else some a)
                  rw [if_pos hlt]
                  rw [hT43, hT42, hT41]
                  exact ⟨by simp [up2, moA], by simp [up2, soA, hbkT9], by simp [up2, scA, hbkT9], fun a x ha hx => by have := hk9'.2.2.2 a x ha hx; simp [up2, hx, this]⟩
            refine g_iinc hC dX5_assign_96 rfl (nI_inc k) (by decide) ?_
            refine g_goto (tgt := 26) hC dX5_assign_99 (by decide) ?_
            exact g_lv (lv' := [(0, .ref (lo 1000)), (1, .int (nI j)), (2, .int (nI (k + 1)))]) ⟨rfl, rfl, rfl, trivial⟩ (ihlg (k + 1) T43 (by omega) hak2)
  exact g_lv (lv' := [(0, .ref (lo 1000)), (1, .int (nI j)), (2, .int (nI 0))]) ⟨rfl, rfl, rfl, trivial⟩ (lg (nMo M) 0 T37 (by omega) (by rw [hT37, hT36, hT35]; refine ⟨by simp [up2, moA, asF], by simp [up2, soA, asF], by simp [up2, scA, asF], fun a x ha hx => by simp [up2, hx]⟩))

set_option maxHeartbeats 4000000 in
set_option maxRecDepth 100000 in
theorem c_X5_assignAll (l : Launch) (X : gX) (b0 : Nat) (lo : gL) (M T : rM2) (e0 : gE) (hM : Iv M) : Ct l X b0 lo (enR X lo M T e0) yX5_assignAll cX5_assignAll 2 none (rM 5 131) [.ref (lo 1000)] (pV lo (fun en' => ∃ T' : rM2, en' = enR X lo M T' e0 ∧ sOK M T' (nSh M))) := by
  refine gMet (by decide) (Nat.le_of_ble_eq_true rfl) rfl ?_
  intro Z hC hI hR
  obtain ⟨hS, eS⟩ := Iv_nS hM
  refine g_iconst (v := 0) hC dX5_assignAll_0 (by decide) ?_
  refine g_istore_n hC dX5_assignAll_1 (by decide) ?_
  have ll : ∀ (r : Nat) (k : Nat) (T1 : rM2), k + r = nSh M → sOK M T1 k → GO l X b0 Z 0 0 lo (enR X lo M T1 e0) 2 [(0, .ref (lo 1000)), (1, .int (nI k))] [] := by
    intro r
    induction r with
    | zero =>
      intro k T1 hk9 hsk
      have hk8 : k = nSh M := by omega
      subst hk8
      refine g_iload_n hC dX5_assignAll_2 rfl ?_
      refine g_aload_n hC dX5_assignAll_3 rfl ?_
      refine g_get hC rfl rO rfl kl_X5 11 (by decide) kf_X5_99 rfl rfl dX5_assignAll_4 ?_
      refine g_icmp_ge (tgt := 21) hC dX5_assignAll_7 (by decide) (fun c7 => ?_) (fun c7 => absurd (by rw [eS]; exact nI_le (by omega) (by omega)) c7)
      refine g_retv hR dX5_assignAll_21 ?_
      clear hR hC hI
      exact ⟨rfl, rfl, T1, rfl, hsk⟩
    | succ r ihll =>
      intro k T1 hk9 hsk
      refine g_iload_n hC dX5_assignAll_2 rfl ?_
      refine g_aload_n hC dX5_assignAll_3 rfl ?_
      refine g_get hC rfl rO rfl kl_X5 11 (by decide) kf_X5_99 rfl rfl dX5_assignAll_4 ?_
      refine g_icmp_ge (tgt := 21) hC dX5_assignAll_7 (by decide) (fun c7 => absurd c7 (by rw [eS]; exact nI_ge (by omega) (by omega))) (fun c7 => ?_)
      refine g_aload_n hC dX5_assignAll_10 rfl ?_
      refine g_iload_n hC dX5_assignAll_11 rfl ?_
      refine g_callV hC v_X5_assign km_X5_142 (c_X5_assign l X b0 lo _ _ e0 hM k (by omega)) rfl rO rfl rfl rfl rfl (Nat.le_of_ble_eq_true rfl) ⟨by decide, by decide⟩ ⟨by decide, by decide⟩ dX5_assignAll_12 (kV ?_)
      rintro en' ⟨T8, rfl, ha8⟩
      have hsk2 : sOK M T8 (k + 1) := by
        intro x hx
        by_cases hxk : x = k
        · rw [hxk]; exact ⟨ha8.1, ha8.2.1, ha8.2.2.1⟩
        · obtain ⟨q1, q2, q3⟩ := hsk x (by omega)
          exact ⟨(ha8.2.2.2 0 x (by decide) hxk).trans q1, (ha8.2.2.2 1 x (by decide) hxk).trans q2, (ha8.2.2.2 2 x (by decide) hxk).trans q3⟩
      refine g_iinc hC dX5_assignAll_15 rfl (nI_inc k) (by decide) ?_
      refine g_goto (tgt := 2) hC dX5_assignAll_18 (by decide) ?_
      exact g_lv (lv' := [(0, .ref (lo 1000)), (1, .int (nI (k + 1)))]) ⟨rfl, rfl, trivial⟩ (ihll (k + 1) T8 (by omega) hsk2)
  exact g_lv (lv' := [(0, .ref (lo 1000)), (1, .int (nI 0))]) ⟨rfl, rfl, trivial⟩ (ll (nSh M) 0 T (by omega) (fun x hx => absurd hx (by omega)))

set_option maxHeartbeats 4000000 in
set_option maxRecDepth 100000 in
theorem c_X5_assignedMould (l : Launch) (X : gX) (b0 : Nat) (lo : gL) (M T : rM2) (e0 : gE) (hM : Iv M) (p : Int32) : Ct l X b0 lo (enR X lo M T e0) yX5_assignedMould cX5_assignedMould 2 (some FieldType.int) (rM 5 131) [.ref (lo 1000), .int p] (pRf X lo e0 (sp_assignedMould M p)) := by
  refine gMet (by decide) (Nat.le_of_ble_eq_true rfl) rfl ?_
  intro Z hC hI hR
  refine g_aload_n hC dX5_assignedMould_0 rfl ?_
  refine g_iload_n hC dX5_assignedMould_1 rfl ?_
  refine g_callV hC v_X5_noSheet km_X5_102 (c_X5_noSheet l X b0 lo _ _ e0 _) rfl rO rfl rfl rfl rfl (Nat.le_of_ble_eq_true rfl) ⟨by decide, by decide⟩ ⟨by decide, by decide⟩ dX5_assignedMould_2 (kX ?_)
  refine g_if_eq (tgt := 11) hC dX5_assignedMould_5 (by decide) (fun c5 => ?_) (fun c5 => ?_)
  · have hp := ite_eq c5
    obtain ⟨j, hj, rfl, hj1, -⟩ := shOf hM hp
    have ej : nt (nI j) = j := nt_nI (by omega)
    refine g_aload_n hC dX5_assignedMould_11 rfl ?_
    refine g_iload_n hC dX5_assignedMould_12 rfl ?_
    refine g_callV hC v_X5_assign km_X5_142 (c_X5_assign l X b0 lo _ _ e0 hM j hj1) rfl rO rfl rfl rfl rfl (Nat.le_of_ble_eq_true rfl) ⟨by decide, by decide⟩ ⟨by decide, by decide⟩ dX5_assignedMould_13 (kV ?_)
    rintro en' ⟨T8, rfl, ha8⟩
    refine g_aload_n hC dX5_assignedMould_16 rfl ?_
    refine g_get hC rfl rO rfl kl_X5 25 (by decide) kf_X5_59 rfl rfl dX5_assignedMould_17 ?_
    refine g_iload_n hC dX5_assignedMould_20 rfl ?_
    refine g_iald hC rfl rA1015 j rfl (by omega) (by decide) dX5_assignedMould_21 ?_
    refine g_ireti hR dX5_assignedMould_22 rfl ?_
    clear hR hC hI
    refine pRf_i ?_ rfl
    rw [ha8.1]
    unfold sp_assignedMould
    rw [if_pos hp, ej]
    rfl
  · refine g_bipush (v := (-2)) hC dX5_assignedMould_8 (by decide) ?_
    refine g_ireti hR dX5_assignedMould_10 rfl ?_
    clear hR hC hI
    refine pRf_i ?_ rfl
    grind [sp_assignedMould]

set_option maxHeartbeats 4000000 in
set_option maxRecDepth 100000 in
theorem c_X5_rivalCount (l : Launch) (X : gX) (b0 : Nat) (lo : gL) (M T : rM2) (e0 : gE) (hM : Iv M) (p mg : Int32) : Ct l X b0 lo (enR X lo M T e0) yX5_rivalCount cX5_rivalCount 5 (some FieldType.int) (rM 5 131) [.ref (lo 1000), .int p, .int mg] (pRf X lo e0 (sp_rivalCount M p mg)) := by
  refine gMet (by decide) (Nat.le_of_ble_eq_true rfl) rfl ?_
  intro Z hC hI hR
  obtain ⟨hM10, eM⟩ := Iv_nM hM
  refine g_aload_n hC dX5_rivalCount_0 rfl ?_
  refine g_iload_n hC dX5_rivalCount_1 rfl ?_
  refine g_callV hC v_X5_noSheet km_X5_102 (c_X5_noSheet l X b0 lo _ _ e0 _) rfl rO rfl rfl rfl rfl (Nat.le_of_ble_eq_true rfl) ⟨by decide, by decide⟩ ⟨by decide, by decide⟩ dX5_rivalCount_2 (kX ?_)
  refine g_if_eq (tgt := 11) hC dX5_rivalCount_5 (by decide) (fun c5 => ?_) (fun c5 => ?_)
  · have hp := ite_eq c5
    obtain ⟨j, hj, rfl, hj1, -⟩ := shOf hM hp
    have ej : nt (nI j) = j := nt_nI (by omega)
    refine g_iload_n hC dX5_rivalCount_11 rfl ?_
    refine g_iconst (v := 0) hC dX5_rivalCount_12 (by decide) ?_
    refine g_sipush (v := 1000) hC dX5_rivalCount_13 (by decide) ?_
    refine g_callS hC v_X5_within km_X5_71 (c_X5_within l X b0 lo _ _ _ _) rfl rfl (Nat.le_of_ble_eq_true rfl) ⟨by decide, by decide⟩ ⟨by decide, by decide⟩ dX5_rivalCount_16 (kX ?_)
    refine g_if_ne (tgt := 25) hC dX5_rivalCount_19 (by decide) (fun c19 => ?_) (fun c19 => ?_)
    · refine g_aload_n hC dX5_rivalCount_25 rfl ?_
      refine g_iload_n hC dX5_rivalCount_26 rfl ?_
      refine g_callV hC v_X5_assign km_X5_142 (c_X5_assign l X b0 lo _ _ e0 hM j hj1) rfl rO rfl rfl rfl rfl (Nat.le_of_ble_eq_true rfl) ⟨by decide, by decide⟩ ⟨by decide, by decide⟩ dX5_rivalCount_27 (kV ?_)
      rintro en' ⟨T8, rfl, ha8⟩
      refine g_aload_n hC dX5_rivalCount_30 rfl ?_
      refine g_get hC rfl rO rfl kl_X5 25 (by decide) kf_X5_59 rfl rfl dX5_rivalCount_31 ?_
      refine g_iload_n hC dX5_rivalCount_34 rfl ?_
      refine g_iald hC rfl rA1015 j rfl (by omega) (by decide) dX5_rivalCount_35 ?_
      refine g_if_ge (tgt := 42) hC dX5_rivalCount_36 (by decide) (fun c36 => ?_) (fun c36 => ?_)
      · refine g_iconst (v := 0) hC dX5_rivalCount_42 (by decide) ?_
        refine g_istore_n hC dX5_rivalCount_43 (by decide) ?_
        refine g_iconst (v := 0) hC dX5_rivalCount_44 (by decide) ?_
        refine g_istore hC dX5_rivalCount_45 (by decide) ?_
        have lv_ : ∀ (r : Nat) (k : Nat) (T1 : rM2), k + r = nMo M → T1 0 j = moF M j → T1 2 j = scF M j → GO l X b0 Z 0 0 lo (enR X lo M T1 e0) 47 [(0, .ref (lo 1000)), (1, .int (nI j)), (2, .int mg), (3, .int (rvF M j mg k)), (4, .int (nI k))] [] := by
          intro r
          induction r with
          | zero =>
            intro k T1 hk9 h0 h2
            have hk8 : k = nMo M := by omega
            subst hk8
            refine g_iload hC dX5_rivalCount_47 rfl ?_
            refine g_aload_n hC dX5_rivalCount_49 rfl ?_
            refine g_get hC rfl rO rfl kl_X5 4 (by decide) kf_X5_75 rfl rfl dX5_rivalCount_50 ?_
            refine g_icmp_ge (tgt := 110) hC dX5_rivalCount_53 (by decide) (fun c53 => ?_) (fun c53 => absurd (by rw [eM]; exact nI_le (by omega) (by omega)) c53)
            refine g_iload_n hC dX5_rivalCount_110 rfl ?_
            refine g_ireti hR dX5_rivalCount_111 rfl ?_
            clear hR hC hI
            refine pRf_i ?_ rfl
            have h1 := ha8.1
            have hw := wi_ne c19
            unfold sp_rivalCount
            rw [if_pos hp, if_pos hw, ej, if_neg]
            show ¬ moA (aG M j) < 0
            rw [← h1]; exact Int32.not_lt.mpr c36
          | succ r ihlv_ =>
            intro k T1 hk9 h0 h2
            refine g_iload hC dX5_rivalCount_47 rfl ?_
            refine g_aload_n hC dX5_rivalCount_49 rfl ?_
            refine g_get hC rfl rO rfl kl_X5 4 (by decide) kf_X5_75 rfl rfl dX5_rivalCount_50 ?_
            refine g_icmp_ge (tgt := 110) hC dX5_rivalCount_53 (by decide) (fun c53 => absurd c53 (by rw [eM]; exact nI_ge (by omega) (by omega))) (fun c53 => ?_)
            refine g_aload_n hC dX5_rivalCount_56 rfl ?_
            refine g_iload_n hC dX5_rivalCount_57 rfl ?_
            refine g_iload hC dX5_rivalCount_58 rfl ?_
            refine g_callV hC v_X5_findBest km_X5_138 (c_X5_findBest l X b0 lo _ _ e0 hM j k hj1 (by omega)) rfl rO rfl rfl rfl rfl (Nat.le_of_ble_eq_true rfl) ⟨by decide, by decide⟩ ⟨by decide, by decide⟩ dX5_rivalCount_60 (kV ?_)
            rintro en' ⟨T9, rfl, htkT9, hbkT9⟩
            refine g_iload_n hC dX5_rivalCount_63 rfl ?_
            refine g_iload hC dX5_rivalCount_64 rfl ?_
            refine g_aload_n hC dX5_rivalCount_66 rfl ?_
            refine g_get hC rfl rO rfl kl_X5 25 (by decide) kf_X5_59 rfl rfl dX5_rivalCount_67 ?_
            refine g_iload_n hC dX5_rivalCount_70 rfl ?_
            refine g_iald hC rfl rA1015 j rfl (by omega) (by decide) dX5_rivalCount_71 ?_
            refine g_icmp_eq (tgt := 101) hC dX5_rivalCount_72 (by decide) (fun c72 => ?_) (fun c72 => ?_)
            · refine g_iconst (v := 0) hC dX5_rivalCount_101 (by decide) ?_
              refine g_iadd hC dX5_rivalCount_102 ?_
              refine g_val (y := rvF M j mg (k + 1)) (by
                have hnn := fb_nn hM hj1 (show k < nMo M by omega)
                have e0' : T9 0 j = moF M j := by rw [htkT9 0 (by decide)]; exact h0
                have e2' : T9 2 j = scF M j := by rw [htkT9 2 (by decide)]; exact h2
                clear hC hR hI ihlv_
                rw [rvF_s]
                cases hfb : fb M j k with
                | none => first | (rw [hfb] at hbkT9; done) | (rw [hfb] at hbkT9; simp only [bOK] at hbkT9; grind)
                | some b => rw [hfb] at hbkT9 hnn; have h9 := hnn b rfl; simp only [bOK] at hbkT9; first | (dsimp only; done) | (dsimp only; grind) | grind) ?_
              refine g_istore_n hC dX5_rivalCount_103 (by decide) ?_
              refine g_iinc hC dX5_rivalCount_104 rfl (nI_inc k) (by decide) ?_
              refine g_goto (tgt := 47) hC dX5_rivalCount_107 (by decide) ?_
              exact g_lv (lv' := [(0, .ref (lo 1000)), (1, .int (nI j)), (2, .int mg), (3, .int (rvF M j mg (k + 1))), (4, .int (nI (k + 1)))]) ⟨rfl, rfl, rfl, rfl, rfl, trivial⟩ (ihlv_ (k + 1) T9 (by omega) (by rw [htkT9 0 (by decide)]; exact h0) (by rw [htkT9 2 (by decide)]; exact h2))
            · refine g_aload_n hC dX5_rivalCount_75 rfl ?_
              refine g_get hC rfl rO rfl kl_X5 20 (by decide) kf_X5_116 rfl rfl dX5_rivalCount_76 ?_
              refine g_if_lt (tgt := 101) hC dX5_rivalCount_79 (by decide) (fun c79 => ?_) (fun c79 => ?_)
              · refine g_iconst (v := 0) hC dX5_rivalCount_101 (by decide) ?_
                refine g_iadd hC dX5_rivalCount_102 ?_
                refine g_val (y := rvF M j mg (k + 1)) (by
                  have hnn := fb_nn hM hj1 (show k < nMo M by omega)
                  have e0' : T9 0 j = moF M j := by rw [htkT9 0 (by decide)]; exact h0
                  have e2' : T9 2 j = scF M j := by rw [htkT9 2 (by decide)]; exact h2
                  clear hC hR hI ihlv_
                  rw [rvF_s]
                  cases hfb : fb M j k with
                  | none => first | (rw [hfb] at hbkT9; done) | (rw [hfb] at hbkT9; simp only [bOK] at hbkT9; grind)
                  | some b => rw [hfb] at hbkT9 hnn; have h9 := hnn b rfl; simp only [bOK] at hbkT9; first | (dsimp only; done) | (dsimp only; grind) | grind) ?_
                refine g_istore_n hC dX5_rivalCount_103 (by decide) ?_
                refine g_iinc hC dX5_rivalCount_104 rfl (nI_inc k) (by decide) ?_
                refine g_goto (tgt := 47) hC dX5_rivalCount_107 (by decide) ?_
                exact g_lv (lv' := [(0, .ref (lo 1000)), (1, .int (nI j)), (2, .int mg), (3, .int (rvF M j mg (k + 1))), (4, .int (nI (k + 1)))]) ⟨rfl, rfl, rfl, rfl, rfl, trivial⟩ (ihlv_ (k + 1) T9 (by omega) (by rw [htkT9 0 (by decide)]; exact h0) (by rw [htkT9 2 (by decide)]; exact h2))
              · refine g_aload_n hC dX5_rivalCount_82 rfl ?_
                refine g_get hC rfl rO rfl kl_X5 20 (by decide) kf_X5_116 rfl rfl dX5_rivalCount_83 ?_
                refine g_aload_n hC dX5_rivalCount_86 rfl ?_
                refine g_get hC rfl rO rfl kl_X5 27 (by decide) kf_X5_65 rfl rfl dX5_rivalCount_87 ?_
                refine g_iload_n hC dX5_rivalCount_90 rfl ?_
                refine g_iald hC rfl rA1017 j rfl (by omega) (by decide) dX5_rivalCount_91 ?_
                refine g_iload_n hC dX5_rivalCount_92 rfl ?_
                refine g_iadd hC dX5_rivalCount_93 ?_
                refine g_icmp_gt (tgt := 101) hC dX5_rivalCount_94 (by decide) (fun c94 => ?_) (fun c94 => ?_)
                · refine g_iconst (v := 0) hC dX5_rivalCount_101 (by decide) ?_
                  refine g_iadd hC dX5_rivalCount_102 ?_
                  refine g_val (y := rvF M j mg (k + 1)) (by
                    have hnn := fb_nn hM hj1 (show k < nMo M by omega)
                    have e0' : T9 0 j = moF M j := by rw [htkT9 0 (by decide)]; exact h0
                    have e2' : T9 2 j = scF M j := by rw [htkT9 2 (by decide)]; exact h2
                    clear hC hR hI ihlv_
                    rw [rvF_s]
                    cases hfb : fb M j k with
                    | none => first | (rw [hfb] at hbkT9; done) | (rw [hfb] at hbkT9; simp only [bOK] at hbkT9; grind)
                    | some b => rw [hfb] at hbkT9 hnn; have h9 := hnn b rfl; simp only [bOK] at hbkT9; first | (dsimp only; done) | (dsimp only; grind) | grind) ?_
                  refine g_istore_n hC dX5_rivalCount_103 (by decide) ?_
                  refine g_iinc hC dX5_rivalCount_104 rfl (nI_inc k) (by decide) ?_
                  refine g_goto (tgt := 47) hC dX5_rivalCount_107 (by decide) ?_
                  exact g_lv (lv' := [(0, .ref (lo 1000)), (1, .int (nI j)), (2, .int mg), (3, .int (rvF M j mg (k + 1))), (4, .int (nI (k + 1)))]) ⟨rfl, rfl, rfl, rfl, rfl, trivial⟩ (ihlv_ (k + 1) T9 (by omega) (by rw [htkT9 0 (by decide)]; exact h0) (by rw [htkT9 2 (by decide)]; exact h2))
                · refine g_iconst (v := 1) hC dX5_rivalCount_97 (by decide) ?_
                  refine g_goto (tgt := 102) hC dX5_rivalCount_98 (by decide) ?_
                  refine g_iadd hC dX5_rivalCount_102 ?_
                  refine g_val (y := rvF M j mg (k + 1)) (by
                    have hnn := fb_nn hM hj1 (show k < nMo M by omega)
                    have e0' : T9 0 j = moF M j := by rw [htkT9 0 (by decide)]; exact h0
                    have e2' : T9 2 j = scF M j := by rw [htkT9 2 (by decide)]; exact h2
                    clear hC hR hI ihlv_
                    rw [rvF_s]
                    cases hfb : fb M j k with
                    | none => first | (rw [hfb] at hbkT9; done) | (rw [hfb] at hbkT9; simp only [bOK] at hbkT9; grind)
                    | some b => rw [hfb] at hbkT9 hnn; have h9 := hnn b rfl; simp only [bOK] at hbkT9; first | (dsimp only; done) | (dsimp only; grind) | grind) ?_
                  refine g_istore_n hC dX5_rivalCount_103 (by decide) ?_
                  refine g_iinc hC dX5_rivalCount_104 rfl (nI_inc k) (by decide) ?_
                  refine g_goto (tgt := 47) hC dX5_rivalCount_107 (by decide) ?_
                  exact g_lv (lv' := [(0, .ref (lo 1000)), (1, .int (nI j)), (2, .int mg), (3, .int (rvF M j mg (k + 1))), (4, .int (nI (k + 1)))]) ⟨rfl, rfl, rfl, rfl, rfl, trivial⟩ (ihlv_ (k + 1) T9 (by omega) (by rw [htkT9 0 (by decide)]; exact h0) (by rw [htkT9 2 (by decide)]; exact h2))
        exact g_lv (lv' := [(0, .ref (lo 1000)), (1, .int (nI j)), (2, .int mg), (3, .int 0), (4, .int (nI 0))]) ⟨rfl, rfl, rfl, rfl, rfl, trivial⟩ (lv_ (nMo M) 0 T8 (by omega) ha8.1 ha8.2.2.1)
      · refine g_bipush (v := (-6)) hC dX5_rivalCount_39 (by decide) ?_
        refine g_ireti hR dX5_rivalCount_41 rfl ?_
        clear hR hC hI
        refine pRf_i ?_ rfl
        have h1 := ha8.1
        have hw := wi_ne c19
        unfold sp_rivalCount
        rw [if_pos hp, if_pos hw, ej, if_pos]
        show moA (aG M j) < 0
        rw [← h1]; exact Int32.not_le.mp c36
    · refine g_bipush (v := (-3)) hC dX5_rivalCount_22 (by decide) ?_
      refine g_ireti hR dX5_rivalCount_24 rfl ?_
      clear hR hC hI
      refine pRf_i ?_ rfl
      grind [sp_rivalCount, wi]
  · refine g_bipush (v := (-2)) hC dX5_rivalCount_8 (by decide) ?_
    refine g_ireti hR dX5_rivalCount_10 rfl ?_
    clear hR hC hI
    refine pRf_i ?_ rfl
    grind [sp_rivalCount]

set_option maxHeartbeats 4000000 in
set_option maxRecDepth 100000 in
theorem c_X5_sheetsOf (l : Launch) (X : gX) (b0 : Nat) (lo : gL) (M T : rM2) (e0 : gE) (hM : Iv M) (p : Int32) : Ct l X b0 lo (enR X lo M T e0) yX5_sheetsOf cX5_sheetsOf 4 (some FieldType.int) (rM 6 152) [.ref (lo 1000), .int p] (pRf X lo e0 (sp_sheetsOf M p)) := by
  refine gMet (by decide) (Nat.le_of_ble_eq_true rfl) rfl ?_
  intro Z hC hI hR
  obtain ⟨hS, eS⟩ := Iv_nS hM
  refine g_aload_n hC dX5_sheetsOf_0 rfl ?_
  refine g_iload_n hC dX5_sheetsOf_1 rfl ?_
  refine g_callV hC v_X5_noMould km_X5_85 (c_X5_noMould l X b0 lo _ _ e0 _) rfl rO rfl rfl rfl rfl (Nat.le_of_ble_eq_true rfl) ⟨by decide, by decide⟩ ⟨by decide, by decide⟩ dX5_sheetsOf_2 (kX ?_)
  refine g_if_eq (tgt := 10) hC dX5_sheetsOf_5 (by decide) (fun c5 => ?_) (fun c5 => ?_)
  · have hp := ite_eq c5
    obtain ⟨i, hi, rfl, hi1, -⟩ := moOf hM hp
    have ei : nt (nI i) = i := nt_nI (by omega)
    refine g_aload_n hC dX5_sheetsOf_10 rfl ?_
    refine g_callV hC v_X5_assignAll km_X5_146 (c_X5_assignAll l X b0 lo _ _ e0 hM) rfl rO rfl rfl rfl rfl (Nat.le_of_ble_eq_true rfl) ⟨by decide, by decide⟩ ⟨by decide, by decide⟩ dX5_sheetsOf_11 (kV ?_)
    rintro en' ⟨T8, rfl, hs8⟩
    refine g_iconst (v := 0) hC dX5_sheetsOf_14 (by decide) ?_
    refine g_istore_n hC dX5_sheetsOf_15 (by decide) ?_
    refine g_iconst (v := 0) hC dX5_sheetsOf_16 (by decide) ?_
    refine g_istore_n hC dX5_sheetsOf_17 (by decide) ?_
    have lb : ∀ (r : Nat) (k : Nat), k + r = nSh M → GO l X b0 Z 0 0 lo (enR X lo M T8 e0) 18 [(0, .ref (lo 1000)), (1, .int (nI i)), (2, .int (bsF M (nI i) k)), (3, .int (nI k))] [] := by
      intro r
      induction r with
      | zero =>
        intro k hk9
        have hk8 : k = nSh M := by omega
        subst hk8
        refine g_iload_n hC dX5_sheetsOf_18 rfl ?_
        refine g_aload_n hC dX5_sheetsOf_19 rfl ?_
        refine g_get hC rfl rO rfl kl_X5 11 (by decide) kf_X5_99 rfl rfl dX5_sheetsOf_20 ?_
        refine g_icmp_ge (tgt := 52) hC dX5_sheetsOf_23 (by decide) (fun c23 => ?_) (fun c23 => absurd (by rw [eS]; exact nI_le (by omega) (by omega)) c23)
        refine g_iload_n hC dX5_sheetsOf_52 rfl ?_
        refine g_ireti hR dX5_sheetsOf_53 rfl ?_
        clear hR hC hI
        refine pRf_i ?_ rfl
        unfold sp_sheetsOf
        rw [if_pos hp]
      | succ r ihlb =>
        intro k hk9
        refine g_iload_n hC dX5_sheetsOf_18 rfl ?_
        refine g_aload_n hC dX5_sheetsOf_19 rfl ?_
        refine g_get hC rfl rO rfl kl_X5 11 (by decide) kf_X5_99 rfl rfl dX5_sheetsOf_20 ?_
        refine g_icmp_ge (tgt := 52) hC dX5_sheetsOf_23 (by decide) (fun c23 => absurd c23 (by rw [eS]; exact nI_ge (by omega) (by omega))) (fun c23 => ?_)
        refine g_iload_n hC dX5_sheetsOf_26 rfl ?_
        refine g_aload_n hC dX5_sheetsOf_27 rfl ?_
        refine g_get hC rfl rO rfl kl_X5 25 (by decide) kf_X5_59 rfl rfl dX5_sheetsOf_28 ?_
        refine g_iload_n hC dX5_sheetsOf_31 rfl ?_
        refine g_iald hC rfl rA1015 k rfl (by omega) (by decide) dX5_sheetsOf_32 ?_
        refine g_iload_n hC dX5_sheetsOf_33 rfl ?_
        refine g_icmp_ne (tgt := 43) hC dX5_sheetsOf_34 (by decide) (fun c34 => ?_) (fun c34 => ?_)
        · refine g_iconst (v := 0) hC dX5_sheetsOf_43 (by decide) ?_
          refine g_ior hC dX5_sheetsOf_44 ?_
          refine g_val (y := bsF M (nI i) (k + 1)) (by
            have h8 := (hs8 k (by omega)).1
            clear hC hR hI ihlb
            rw [bsF_s]
            grind) ?_
          refine g_istore_n hC dX5_sheetsOf_45 (by decide) ?_
          refine g_iinc hC dX5_sheetsOf_46 rfl (nI_inc k) (by decide) ?_
          refine g_goto (tgt := 18) hC dX5_sheetsOf_49 (by decide) ?_
          exact g_lv (lv' := [(0, .ref (lo 1000)), (1, .int (nI i)), (2, .int (bsF M (nI i) (k + 1))), (3, .int (nI (k + 1)))]) ⟨rfl, rfl, rfl, rfl, trivial⟩ (ihlb (k + 1) (by omega))
        · refine g_iconst (v := 1) hC dX5_sheetsOf_37 (by decide) ?_
          refine g_iload_n hC dX5_sheetsOf_38 rfl ?_
          refine g_ishl hC dX5_sheetsOf_39 ?_
          refine g_goto (tgt := 44) hC dX5_sheetsOf_40 (by decide) ?_
          refine g_ior hC dX5_sheetsOf_44 ?_
          refine g_val (y := bsF M (nI i) (k + 1)) (by
            have h8 := (hs8 k (by omega)).1
            clear hC hR hI ihlb
            rw [bsF_s]
            grind) ?_
          refine g_istore_n hC dX5_sheetsOf_45 (by decide) ?_
          refine g_iinc hC dX5_sheetsOf_46 rfl (nI_inc k) (by decide) ?_
          refine g_goto (tgt := 18) hC dX5_sheetsOf_49 (by decide) ?_
          exact g_lv (lv' := [(0, .ref (lo 1000)), (1, .int (nI i)), (2, .int (bsF M (nI i) (k + 1))), (3, .int (nI (k + 1)))]) ⟨rfl, rfl, rfl, rfl, trivial⟩ (ihlb (k + 1) (by omega))
    exact g_lv (lv' := [(0, .ref (lo 1000)), (1, .int (nI i)), (2, .int 0), (3, .int (nI 0))]) ⟨rfl, rfl, rfl, rfl, trivial⟩ (lb (nSh M) 0 (by omega))
  · refine g_iconst (v := (-1)) hC dX5_sheetsOf_8 (by decide) ?_
    refine g_ireti hR dX5_sheetsOf_9 rfl ?_
    clear hR hC hI
    refine pRf_i ?_ rfl
    grind [sp_sheetsOf]

set_option maxHeartbeats 4000000 in
set_option maxRecDepth 100000 in
theorem c_X5_isLower (l : Launch) (X : gX) (b0 : Nat) (lo : gL) (M T : rM2) (e0 : gE) (hM : Iv M) (hT : sOK M T (nSh M)) (a b : Nat) (ha : a < nSh M) (hb : b < nSh M) : Ct l X b0 lo (enR X lo M T e0) yX5_isLower cX5_isLower 3 (some FieldType.boolean) (rM 0 0) [.ref (lo 1000), .int (nI a), .int (nI b)] (pX (.int (if lowF M a b then 1 else 0)) lo (enR X lo M T e0)) := by
  refine gMet (by decide) (Nat.le_of_ble_eq_true rfl) rfl ?_
  intro Z hC hI hR
  have hS := (Iv_nS hM).1
  obtain ⟨a0, a1, -⟩ := hT a ha
  obtain ⟨d0, d1, -⟩ := hT b hb
  refine g_aload_n hC dX5_isLower_0 rfl ?_
  refine g_get hC rfl rO rfl kl_X5 25 (by decide) kf_X5_59 rfl rfl dX5_isLower_1 ?_
  refine g_iload_n hC dX5_isLower_4 rfl ?_
  refine g_iald hC rfl rA1015 a rfl (by omega) (by decide) dX5_isLower_5 ?_
  refine g_if_lt (tgt := 52) hC dX5_isLower_6 (by decide) (fun c6 => ?_) (fun c6 => ?_)
  · refine g_iconst (v := 0) hC dX5_isLower_52 (by decide) ?_
    refine g_ireti hR dX5_isLower_53 (by decide) ?_
    clear hR hC hI
    refine pXi ?_
    grind
  · refine g_aload_n hC dX5_isLower_9 rfl ?_
    refine g_get hC rfl rO rfl kl_X5 25 (by decide) kf_X5_59 rfl rfl dX5_isLower_10 ?_
    refine g_iload_n hC dX5_isLower_13 rfl ?_
    refine g_iald hC rfl rA1015 a rfl (by omega) (by decide) dX5_isLower_14 ?_
    refine g_aload_n hC dX5_isLower_15 rfl ?_
    refine g_get hC rfl rO rfl kl_X5 25 (by decide) kf_X5_59 rfl rfl dX5_isLower_16 ?_
    refine g_iload_n hC dX5_isLower_19 rfl ?_
    refine g_iald hC rfl rA1015 b rfl (by omega) (by decide) dX5_isLower_20 ?_
    refine g_icmp_ne (tgt := 52) hC dX5_isLower_21 (by decide) (fun c21 => ?_) (fun c21 => ?_)
    · refine g_iconst (v := 0) hC dX5_isLower_52 (by decide) ?_
      refine g_ireti hR dX5_isLower_53 (by decide) ?_
      clear hR hC hI
      refine pXi ?_
      grind
    · refine g_aload_n hC dX5_isLower_24 rfl ?_
      refine g_get hC rfl rO rfl kl_X5 26 (by decide) kf_X5_62 rfl rfl dX5_isLower_25 ?_
      refine g_iload_n hC dX5_isLower_28 rfl ?_
      refine g_iald hC rfl rA1016 a rfl (by omega) (by decide) dX5_isLower_29 ?_
      refine g_if_lt (tgt := 52) hC dX5_isLower_30 (by decide) (fun c30 => ?_) (fun c30 => ?_)
      · refine g_iconst (v := 0) hC dX5_isLower_52 (by decide) ?_
        refine g_ireti hR dX5_isLower_53 (by decide) ?_
        clear hR hC hI
        refine pXi ?_
        grind
      · refine g_aload_n hC dX5_isLower_33 rfl ?_
        refine g_get hC rfl rO rfl kl_X5 26 (by decide) kf_X5_62 rfl rfl dX5_isLower_34 ?_
        refine g_iload_n hC dX5_isLower_37 rfl ?_
        refine g_iald hC rfl rA1016 a rfl (by omega) (by decide) dX5_isLower_38 ?_
        refine g_aload_n hC dX5_isLower_39 rfl ?_
        refine g_get hC rfl rO rfl kl_X5 26 (by decide) kf_X5_62 rfl rfl dX5_isLower_40 ?_
        refine g_iload_n hC dX5_isLower_43 rfl ?_
        refine g_iald hC rfl rA1016 b rfl (by omega) (by decide) dX5_isLower_44 ?_
        refine g_icmp_ge (tgt := 52) hC dX5_isLower_45 (by decide) (fun c45 => ?_) (fun c45 => ?_)
        · refine g_iconst (v := 0) hC dX5_isLower_52 (by decide) ?_
          refine g_ireti hR dX5_isLower_53 (by decide) ?_
          clear hR hC hI
          refine pXi ?_
          grind
        · refine g_iconst (v := 1) hC dX5_isLower_48 (by decide) ?_
          refine g_goto (tgt := 53) hC dX5_isLower_49 (by decide) ?_
          refine g_ireti hR dX5_isLower_53 (by decide) ?_
          clear hR hC hI
          refine pXi ?_
          grind

set_option maxHeartbeats 4000000 in
set_option maxRecDepth 100000 in
theorem c_X5_earliestOf (l : Launch) (X : gX) (b0 : Nat) (lo : gL) (M T : rM2) (e0 : gE) (hM : Iv M) (hT : sOK M T (nSh M)) (j : Nat) (hj : j < nSh M) : Ct l X b0 lo (enR X lo M T e0) yX5_earliestOf cX5_earliestOf 4 (some FieldType.int) (rM 1 22) [.ref (lo 1000), .int (nI j)] (pX (.int (ea M j)) lo (enR X lo M T e0)) := by
  refine gMet (by decide) (Nat.le_of_ble_eq_true rfl) rfl ?_
  intro Z hC hI hR
  obtain ⟨hS, eS⟩ := Iv_nS hM
  refine g_aload_n hC dX5_earliestOf_0 rfl ?_
  refine g_get hC rfl rO rfl kl_X5 17 (by decide) kf_X5_53 rfl rfl dX5_earliestOf_1 ?_
  refine g_iload_n hC dX5_earliestOf_4 rfl ?_
  refine g_iald hC rfl rA1013 j rfl (by omega) (by decide) dX5_earliestOf_5 ?_
  refine g_istore_n hC dX5_earliestOf_6 (by decide) ?_
  refine g_iconst (v := 0) hC dX5_earliestOf_7 (by decide) ?_
  refine g_istore_n hC dX5_earliestOf_8 (by decide) ?_
  have le : ∀ (r : Nat) (k : Nat), k + r = nSh M → GO l X b0 Z 0 0 lo (enR X lo M T e0) 9 [(0, .ref (lo 1000)), (1, .int (nI j)), (2, .int (eaF M j k)), (3, .int (nI k))] [] := by
    intro r
    induction r with
    | zero =>
      intro k hk9
      have hk8 : k = nSh M := by omega
      subst hk8
      refine g_iload_n hC dX5_earliestOf_9 rfl ?_
      refine g_aload_n hC dX5_earliestOf_10 rfl ?_
      refine g_get hC rfl rO rfl kl_X5 11 (by decide) kf_X5_99 rfl rfl dX5_earliestOf_11 ?_
      refine g_icmp_ge (tgt := 53) hC dX5_earliestOf_14 (by decide) (fun c14 => ?_) (fun c14 => absurd (by rw [eS]; exact nI_le (by omega) (by omega)) c14)
      refine g_iload_n hC dX5_earliestOf_53 rfl ?_
      refine g_ireti hR dX5_earliestOf_54 rfl ?_
      clear hR hC hI
      exact pXi rfl
    | succ r ihle =>
      intro k hk9
      refine g_iload_n hC dX5_earliestOf_9 rfl ?_
      refine g_aload_n hC dX5_earliestOf_10 rfl ?_
      refine g_get hC rfl rO rfl kl_X5 11 (by decide) kf_X5_99 rfl rfl dX5_earliestOf_11 ?_
      refine g_icmp_ge (tgt := 53) hC dX5_earliestOf_14 (by decide) (fun c14 => absurd c14 (by rw [eS]; exact nI_ge (by omega) (by omega))) (fun c14 => ?_)
      refine g_aload_n hC dX5_earliestOf_17 rfl ?_
      refine g_iload_n hC dX5_earliestOf_18 rfl ?_
      refine g_iload_n hC dX5_earliestOf_19 rfl ?_
      refine g_callV hC v_X5_isLower km_X5_149 (c_X5_isLower l X b0 lo _ _ e0 hM hT k j (by omega) (by omega)) rfl rO rfl rfl rfl rfl (Nat.le_of_ble_eq_true rfl) ⟨by decide, by decide⟩ ⟨by decide, by decide⟩ dX5_earliestOf_20 (kX ?_)
      refine g_if_eq (tgt := 45) hC dX5_earliestOf_23 (by decide) (fun c23 => ?_) (fun c23 => ?_)
      · refine g_iload_n hC dX5_earliestOf_45 rfl ?_
        refine g_val (y := eaF M j (k + 1)) (by
          clear hC hR hI ihle
          rw [eaF_s]
          grind) ?_
        refine g_istore_n hC dX5_earliestOf_46 (by decide) ?_
        refine g_iinc hC dX5_earliestOf_47 rfl (nI_inc k) (by decide) ?_
        refine g_goto (tgt := 9) hC dX5_earliestOf_50 (by decide) ?_
        exact g_lv (lv' := [(0, .ref (lo 1000)), (1, .int (nI j)), (2, .int (eaF M j (k + 1))), (3, .int (nI (k + 1)))]) ⟨rfl, rfl, rfl, rfl, trivial⟩ (ihle (k + 1) (by omega))
      · refine g_aload_n hC dX5_earliestOf_26 rfl ?_
        refine g_get hC rfl rO rfl kl_X5 17 (by decide) kf_X5_53 rfl rfl dX5_earliestOf_27 ?_
        refine g_iload_n hC dX5_earliestOf_30 rfl ?_
        refine g_iald hC rfl rA1013 k rfl (by omega) (by decide) dX5_earliestOf_31 ?_
        refine g_iload_n hC dX5_earliestOf_32 rfl ?_
        refine g_icmp_le (tgt := 45) hC dX5_earliestOf_33 (by decide) (fun c33 => ?_) (fun c33 => ?_)
        · refine g_iload_n hC dX5_earliestOf_45 rfl ?_
          refine g_val (y := eaF M j (k + 1)) (by
            clear hC hR hI ihle
            rw [eaF_s]
            grind) ?_
          refine g_istore_n hC dX5_earliestOf_46 (by decide) ?_
          refine g_iinc hC dX5_earliestOf_47 rfl (nI_inc k) (by decide) ?_
          refine g_goto (tgt := 9) hC dX5_earliestOf_50 (by decide) ?_
          exact g_lv (lv' := [(0, .ref (lo 1000)), (1, .int (nI j)), (2, .int (eaF M j (k + 1))), (3, .int (nI (k + 1)))]) ⟨rfl, rfl, rfl, rfl, trivial⟩ (ihle (k + 1) (by omega))
        · refine g_aload_n hC dX5_earliestOf_36 rfl ?_
          refine g_get hC rfl rO rfl kl_X5 17 (by decide) kf_X5_53 rfl rfl dX5_earliestOf_37 ?_
          refine g_iload_n hC dX5_earliestOf_40 rfl ?_
          refine g_iald hC rfl rA1013 k rfl (by omega) (by decide) dX5_earliestOf_41 ?_
          refine g_goto (tgt := 46) hC dX5_earliestOf_42 (by decide) ?_
          refine g_val (y := eaF M j (k + 1)) (by
            clear hC hR hI ihle
            rw [eaF_s]
            grind) ?_
          refine g_istore_n hC dX5_earliestOf_46 (by decide) ?_
          refine g_iinc hC dX5_earliestOf_47 rfl (nI_inc k) (by decide) ?_
          refine g_goto (tgt := 9) hC dX5_earliestOf_50 (by decide) ?_
          exact g_lv (lv' := [(0, .ref (lo 1000)), (1, .int (nI j)), (2, .int (eaF M j (k + 1))), (3, .int (nI (k + 1)))]) ⟨rfl, rfl, rfl, rfl, trivial⟩ (ihle (k + 1) (by omega))
  exact g_lv (lv' := [(0, .ref (lo 1000)), (1, .int (nI j)), (2, .int (M 12 j)), (3, .int (nI 0))]) ⟨rfl, rfl, rfl, rfl, trivial⟩ (le (nSh M) 0 (by omega))

set_option maxHeartbeats 4000000 in
set_option maxRecDepth 100000 in
theorem c_X5_earliest (l : Launch) (X : gX) (b0 : Nat) (lo : gL) (M T : rM2) (e0 : gE) (hM : Iv M) (p : Int32) : Ct l X b0 lo (enR X lo M T e0) yX5_earliest cX5_earliest 2 (some FieldType.int) (rM 6 152) [.ref (lo 1000), .int p] (pRf X lo e0 (sp_earliest M p)) := by
  refine gMet (by decide) (Nat.le_of_ble_eq_true rfl) rfl ?_
  intro Z hC hI hR
  refine g_aload_n hC dX5_earliest_0 rfl ?_
  refine g_iload_n hC dX5_earliest_1 rfl ?_
  refine g_callV hC v_X5_noSheet km_X5_102 (c_X5_noSheet l X b0 lo _ _ e0 _) rfl rO rfl rfl rfl rfl (Nat.le_of_ble_eq_true rfl) ⟨by decide, by decide⟩ ⟨by decide, by decide⟩ dX5_earliest_2 (kX ?_)
  refine g_if_eq (tgt := 11) hC dX5_earliest_5 (by decide) (fun c5 => ?_) (fun c5 => ?_)
  · have hp := ite_eq c5
    obtain ⟨j, hj, rfl, hj1, -⟩ := shOf hM hp
    have ej : nt (nI j) = j := nt_nI (by omega)
    refine g_aload_n hC dX5_earliest_11 rfl ?_
    refine g_callV hC v_X5_assignAll km_X5_146 (c_X5_assignAll l X b0 lo _ _ e0 hM) rfl rO rfl rfl rfl rfl (Nat.le_of_ble_eq_true rfl) ⟨by decide, by decide⟩ ⟨by decide, by decide⟩ dX5_earliest_12 (kV ?_)
    rintro en' ⟨T8, rfl, hs8⟩
    refine g_aload_n hC dX5_earliest_15 rfl ?_
    refine g_iload_n hC dX5_earliest_16 rfl ?_
    refine g_callV hC v_X5_earliestOf km_X5_153 (c_X5_earliestOf l X b0 lo _ _ e0 hM hs8 j hj1) rfl rO rfl rfl rfl rfl (Nat.le_of_ble_eq_true rfl) ⟨by decide, by decide⟩ ⟨by decide, by decide⟩ dX5_earliest_17 (kX ?_)
    refine g_ireti hR dX5_earliest_20 rfl ?_
    clear hR hC hI
    refine pRf_i ?_ rfl
    unfold sp_earliest
    rw [if_pos hp, ej]
  · refine g_bipush (v := (-2)) hC dX5_earliest_8 (by decide) ?_
    refine g_ireti hR dX5_earliest_10 rfl ?_
    clear hR hC hI
    refine pRf_i ?_ rfl
    grind [sp_earliest]

set_option maxHeartbeats 4000000 in
set_option maxRecDepth 100000 in
theorem c_X5_latest (l : Launch) (X : gX) (b0 : Nat) (lo : gL) (M T : rM2) (e0 : gE) (hM : Iv M) (p : Int32) : Ct l X b0 lo (enR X lo M T e0) yX5_latest cX5_latest 4 (some FieldType.int) (rM 6 152) [.ref (lo 1000), .int p] (pRf X lo e0 (sp_latest M p)) := by
  refine gMet (by decide) (Nat.le_of_ble_eq_true rfl) rfl ?_
  intro Z hC hI hR
  obtain ⟨hS, eS⟩ := Iv_nS hM
  refine g_aload_n hC dX5_latest_0 rfl ?_
  refine g_iload_n hC dX5_latest_1 rfl ?_
  refine g_callV hC v_X5_noSheet km_X5_102 (c_X5_noSheet l X b0 lo _ _ e0 _) rfl rO rfl rfl rfl rfl (Nat.le_of_ble_eq_true rfl) ⟨by decide, by decide⟩ ⟨by decide, by decide⟩ dX5_latest_2 (kX ?_)
  refine g_if_eq (tgt := 11) hC dX5_latest_5 (by decide) (fun c5 => ?_) (fun c5 => ?_)
  · have hp := ite_eq c5
    obtain ⟨j, hj, rfl, hj1, -⟩ := shOf hM hp
    have ej : nt (nI j) = j := nt_nI (by omega)
    refine g_aload_n hC dX5_latest_11 rfl ?_
    refine g_callV hC v_X5_assignAll km_X5_146 (c_X5_assignAll l X b0 lo _ _ e0 hM) rfl rO rfl rfl rfl rfl (Nat.le_of_ble_eq_true rfl) ⟨by decide, by decide⟩ ⟨by decide, by decide⟩ dX5_latest_12 (kV ?_)
    rintro en' ⟨T8, rfl, hs8⟩
    refine g_aload_n hC dX5_latest_15 rfl ?_
    refine g_get hC rfl rO rfl kl_X5 18 (by decide) kf_X5_56 rfl rfl dX5_latest_16 ?_
    refine g_iload_n hC dX5_latest_19 rfl ?_
    refine g_iald hC rfl rA1014 j rfl (by omega) (by decide) dX5_latest_20 ?_
    refine g_istore_n hC dX5_latest_21 (by decide) ?_
    refine g_iconst (v := 0) hC dX5_latest_22 (by decide) ?_
    refine g_istore_n hC dX5_latest_23 (by decide) ?_
    have ln : ∀ (r : Nat) (k : Nat), k + r = nSh M → GO l X b0 Z 0 0 lo (enR X lo M T8 e0) 24 [(0, .ref (lo 1000)), (1, .int (nI j)), (2, .int (laF M j k)), (3, .int (nI k))] [] := by
      intro r
      induction r with
      | zero =>
        intro k hk9
        have hk8 : k = nSh M := by omega
        subst hk8
        refine g_iload_n hC dX5_latest_24 rfl ?_
        refine g_aload_n hC dX5_latest_25 rfl ?_
        refine g_get hC rfl rO rfl kl_X5 11 (by decide) kf_X5_99 rfl rfl dX5_latest_26 ?_
        refine g_icmp_ge (tgt := 68) hC dX5_latest_29 (by decide) (fun c29 => ?_) (fun c29 => absurd (by rw [eS]; exact nI_le (by omega) (by omega)) c29)
        refine g_iload_n hC dX5_latest_68 rfl ?_
        refine g_ireti hR dX5_latest_69 rfl ?_
        clear hR hC hI
        refine pRf_i ?_ rfl
        unfold sp_latest
        rw [if_pos hp, ej]
        rfl
      | succ r ihln =>
        intro k hk9
        refine g_iload_n hC dX5_latest_24 rfl ?_
        refine g_aload_n hC dX5_latest_25 rfl ?_
        refine g_get hC rfl rO rfl kl_X5 11 (by decide) kf_X5_99 rfl rfl dX5_latest_26 ?_
        refine g_icmp_ge (tgt := 68) hC dX5_latest_29 (by decide) (fun c29 => absurd c29 (by rw [eS]; exact nI_ge (by omega) (by omega))) (fun c29 => ?_)
        refine g_aload_n hC dX5_latest_32 rfl ?_
        refine g_iload_n hC dX5_latest_33 rfl ?_
        refine g_iload_n hC dX5_latest_34 rfl ?_
        refine g_callV hC v_X5_isLower km_X5_149 (c_X5_isLower l X b0 lo _ _ e0 hM hs8 j k (by omega) (by omega)) rfl rO rfl rfl rfl rfl (Nat.le_of_ble_eq_true rfl) ⟨by decide, by decide⟩ ⟨by decide, by decide⟩ dX5_latest_35 (kX ?_)
        refine g_if_eq (tgt := 60) hC dX5_latest_38 (by decide) (fun c38 => ?_) (fun c38 => ?_)
        · refine g_iload_n hC dX5_latest_60 rfl ?_
          refine g_val (y := laF M j (k + 1)) (by
            clear hC hR hI ihln
            rw [laF_s]
            grind) ?_
          refine g_istore_n hC dX5_latest_61 (by decide) ?_
          refine g_iinc hC dX5_latest_62 rfl (nI_inc k) (by decide) ?_
          refine g_goto (tgt := 24) hC dX5_latest_65 (by decide) ?_
          exact g_lv (lv' := [(0, .ref (lo 1000)), (1, .int (nI j)), (2, .int (laF M j (k + 1))), (3, .int (nI (k + 1)))]) ⟨rfl, rfl, rfl, rfl, trivial⟩ (ihln (k + 1) (by omega))
        · refine g_aload_n hC dX5_latest_41 rfl ?_
          refine g_get hC rfl rO rfl kl_X5 18 (by decide) kf_X5_56 rfl rfl dX5_latest_42 ?_
          refine g_iload_n hC dX5_latest_45 rfl ?_
          refine g_iald hC rfl rA1014 k rfl (by omega) (by decide) dX5_latest_46 ?_
          refine g_iload_n hC dX5_latest_47 rfl ?_
          refine g_icmp_ge (tgt := 60) hC dX5_latest_48 (by decide) (fun c48 => ?_) (fun c48 => ?_)
          · refine g_iload_n hC dX5_latest_60 rfl ?_
            refine g_val (y := laF M j (k + 1)) (by
              clear hC hR hI ihln
              rw [laF_s]
              grind) ?_
            refine g_istore_n hC dX5_latest_61 (by decide) ?_
            refine g_iinc hC dX5_latest_62 rfl (nI_inc k) (by decide) ?_
            refine g_goto (tgt := 24) hC dX5_latest_65 (by decide) ?_
            exact g_lv (lv' := [(0, .ref (lo 1000)), (1, .int (nI j)), (2, .int (laF M j (k + 1))), (3, .int (nI (k + 1)))]) ⟨rfl, rfl, rfl, rfl, trivial⟩ (ihln (k + 1) (by omega))
          · refine g_aload_n hC dX5_latest_51 rfl ?_
            refine g_get hC rfl rO rfl kl_X5 18 (by decide) kf_X5_56 rfl rfl dX5_latest_52 ?_
            refine g_iload_n hC dX5_latest_55 rfl ?_
            refine g_iald hC rfl rA1014 k rfl (by omega) (by decide) dX5_latest_56 ?_
            refine g_goto (tgt := 61) hC dX5_latest_57 (by decide) ?_
            refine g_val (y := laF M j (k + 1)) (by
              clear hC hR hI ihln
              rw [laF_s]
              grind) ?_
            refine g_istore_n hC dX5_latest_61 (by decide) ?_
            refine g_iinc hC dX5_latest_62 rfl (nI_inc k) (by decide) ?_
            refine g_goto (tgt := 24) hC dX5_latest_65 (by decide) ?_
            exact g_lv (lv' := [(0, .ref (lo 1000)), (1, .int (nI j)), (2, .int (laF M j (k + 1))), (3, .int (nI (k + 1)))]) ⟨rfl, rfl, rfl, rfl, trivial⟩ (ihln (k + 1) (by omega))
    exact g_lv (lv' := [(0, .ref (lo 1000)), (1, .int (nI j)), (2, .int (M 13 j)), (3, .int (nI 0))]) ⟨rfl, rfl, rfl, rfl, trivial⟩ (ln (nSh M) 0 (by omega))
  · refine g_bipush (v := (-2)) hC dX5_latest_8 (by decide) ?_
    refine g_ireti hR dX5_latest_10 rfl ?_
    clear hR hC hI
    refine pRf_i ?_ rfl
    grind [sp_latest]

set_option maxHeartbeats 4000000 in
set_option maxRecDepth 100000 in
theorem c_X5_isAhead (l : Launch) (X : gX) (b0 : Nat) (lo : gL) (M T : rM2) (e0 : gE) (hM : Iv M) (hT : sOK M T (nSh M)) (a b : Nat) (ha : a < nSh M) (hb : b < nSh M) : Ct l X b0 lo (enR X lo M T e0) yX5_isAhead cX5_isAhead 5 (some FieldType.boolean) (rM 2 45) [.ref (lo 1000), .int (nI a), .int (nI b)] (pX (.int (if ahF M a b then 1 else 0)) lo (enR X lo M T e0)) := by
  refine gMet (by decide) (Nat.le_of_ble_eq_true rfl) rfl ?_
  intro Z hC hI hR
  have hS := (Iv_nS hM).1
  obtain ⟨-, a1, -⟩ := hT a ha
  obtain ⟨-, d1, -⟩ := hT b hb
  have hab : (nI b ≤ nI a) ↔ b ≤ a := nI_leI (by omega) (by omega)
  refine g_aload_n hC dX5_isAhead_0 rfl ?_
  refine g_get hC rfl rO rfl kl_X5 26 (by decide) kf_X5_62 rfl rfl dX5_isAhead_1 ?_
  refine g_iload_n hC dX5_isAhead_4 rfl ?_
  refine g_iald hC rfl rA1016 a rfl (by omega) (by decide) dX5_isAhead_5 ?_
  refine g_aload_n hC dX5_isAhead_6 rfl ?_
  refine g_get hC rfl rO rfl kl_X5 26 (by decide) kf_X5_62 rfl rfl dX5_isAhead_7 ?_
  refine g_iload_n hC dX5_isAhead_10 rfl ?_
  refine g_iald hC rfl rA1016 b rfl (by omega) (by decide) dX5_isAhead_11 ?_
  refine g_icmp_eq (tgt := 36) hC dX5_isAhead_12 (by decide) (fun c12 => ?_) (fun c12 => ?_)
  · refine g_aload_n hC dX5_isAhead_36 rfl ?_
    refine g_iload_n hC dX5_isAhead_37 rfl ?_
    refine g_callV hC v_X5_earliestOf km_X5_153 (c_X5_earliestOf l X b0 lo _ _ e0 hM hT _ (by omega)) rfl rO rfl rfl rfl rfl (Nat.le_of_ble_eq_true rfl) ⟨by decide, by decide⟩ ⟨by decide, by decide⟩ dX5_isAhead_38 (kX ?_)
    refine g_istore_n hC dX5_isAhead_41 (by decide) ?_
    refine g_aload_n hC dX5_isAhead_42 rfl ?_
    refine g_iload_n hC dX5_isAhead_43 rfl ?_
    refine g_callV hC v_X5_earliestOf km_X5_153 (c_X5_earliestOf l X b0 lo _ _ e0 hM hT _ (by omega)) rfl rO rfl rfl rfl rfl (Nat.le_of_ble_eq_true rfl) ⟨by decide, by decide⟩ ⟨by decide, by decide⟩ dX5_isAhead_44 (kX ?_)
    refine g_istore hC dX5_isAhead_47 (by decide) ?_
    refine g_iload_n hC dX5_isAhead_49 rfl ?_
    refine g_iload hC dX5_isAhead_50 rfl ?_
    refine g_icmp_eq (tgt := 69) hC dX5_isAhead_52 (by decide) (fun c52 => ?_) (fun c52 => ?_)
    · refine g_iload_n hC dX5_isAhead_69 rfl ?_
      refine g_iload_n hC dX5_isAhead_70 rfl ?_
      refine g_icmp_ge (tgt := 78) hC dX5_isAhead_71 (by decide) (fun c71 => ?_) (fun c71 => ?_)
      · refine g_iconst (v := 0) hC dX5_isAhead_78 (by decide) ?_
        refine g_ireti hR dX5_isAhead_79 (by decide) ?_
        clear hR hC hI
        refine pXi ?_
        grind
      · refine g_iconst (v := 1) hC dX5_isAhead_74 (by decide) ?_
        refine g_goto (tgt := 79) hC dX5_isAhead_75 (by decide) ?_
        refine g_ireti hR dX5_isAhead_79 (by decide) ?_
        clear hR hC hI
        refine pXi ?_
        grind
    · refine g_iload_n hC dX5_isAhead_55 rfl ?_
      refine g_iload hC dX5_isAhead_56 rfl ?_
      refine g_icmp_ge (tgt := 65) hC dX5_isAhead_58 (by decide) (fun c58 => ?_) (fun c58 => ?_)
      · refine g_iconst (v := 0) hC dX5_isAhead_65 (by decide) ?_
        refine g_goto (tgt := 79) hC dX5_isAhead_66 (by decide) ?_
        refine g_ireti hR dX5_isAhead_79 (by decide) ?_
        clear hR hC hI
        refine pXi ?_
        grind
      · refine g_iconst (v := 1) hC dX5_isAhead_61 (by decide) ?_
        refine g_goto (tgt := 79) hC dX5_isAhead_62 (by decide) ?_
        refine g_ireti hR dX5_isAhead_79 (by decide) ?_
        clear hR hC hI
        refine pXi ?_
        grind
  · refine g_aload_n hC dX5_isAhead_15 rfl ?_
    refine g_get hC rfl rO rfl kl_X5 26 (by decide) kf_X5_62 rfl rfl dX5_isAhead_16 ?_
    refine g_iload_n hC dX5_isAhead_19 rfl ?_
    refine g_iald hC rfl rA1016 a rfl (by omega) (by decide) dX5_isAhead_20 ?_
    refine g_aload_n hC dX5_isAhead_21 rfl ?_
    refine g_get hC rfl rO rfl kl_X5 26 (by decide) kf_X5_62 rfl rfl dX5_isAhead_22 ?_
    refine g_iload_n hC dX5_isAhead_25 rfl ?_
    refine g_iald hC rfl rA1016 b rfl (by omega) (by decide) dX5_isAhead_26 ?_
    refine g_icmp_ge (tgt := 34) hC dX5_isAhead_27 (by decide) (fun c27 => ?_) (fun c27 => ?_)
    · refine g_iconst (v := 0) hC dX5_isAhead_34 (by decide) ?_
      refine g_ireti hR dX5_isAhead_35 (by decide) ?_
      clear hR hC hI
      refine pXi ?_
      grind
    · refine g_iconst (v := 1) hC dX5_isAhead_30 (by decide) ?_
      refine g_goto (tgt := 35) hC dX5_isAhead_31 (by decide) ?_
      refine g_ireti hR dX5_isAhead_35 (by decide) ?_
      clear hR hC hI
      refine pXi ?_
      grind

set_option maxHeartbeats 4000000 in
set_option maxRecDepth 100000 in
theorem c_X5_isPlaced (l : Launch) (X : gX) (b0 : Nat) (lo : gL) (M T : rM2) (e0 : gE) (hM : Iv M) (hT : sOK M T (nSh M)) (j : Nat) (hj : j < nSh M) (p : Int32) : Ct l X b0 lo (enR X lo M T e0) yX5_isPlaced cX5_isPlaced 3 (some FieldType.boolean) (rM 0 0) [.ref (lo 1000), .int (nI j), .int p] (pX (.int (if onF M j p then 1 else 0)) lo (enR X lo M T e0)) := by
  refine gMet (by decide) (Nat.le_of_ble_eq_true rfl) rfl ?_
  intro Z hC hI hR
  have hS := (Iv_nS hM).1
  obtain ⟨a0, a1, -⟩ := hT j hj
  refine g_aload_n hC dX5_isPlaced_0 rfl ?_
  refine g_get hC rfl rO rfl kl_X5 25 (by decide) kf_X5_59 rfl rfl dX5_isPlaced_1 ?_
  refine g_iload_n hC dX5_isPlaced_4 rfl ?_
  refine g_iald hC rfl rA1015 j rfl (by omega) (by decide) dX5_isPlaced_5 ?_
  refine g_iload_n hC dX5_isPlaced_6 rfl ?_
  refine g_icmp_ne (tgt := 23) hC dX5_isPlaced_7 (by decide) (fun c7 => ?_) (fun c7 => ?_)
  · refine g_iconst (v := 0) hC dX5_isPlaced_23 (by decide) ?_
    refine g_ireti hR dX5_isPlaced_24 (by decide) ?_
    clear hR hC hI
    refine pXi ?_
    grind
  · refine g_aload_n hC dX5_isPlaced_10 rfl ?_
    refine g_get hC rfl rO rfl kl_X5 26 (by decide) kf_X5_62 rfl rfl dX5_isPlaced_11 ?_
    refine g_iload_n hC dX5_isPlaced_14 rfl ?_
    refine g_iald hC rfl rA1016 j rfl (by omega) (by decide) dX5_isPlaced_15 ?_
    refine g_if_lt (tgt := 23) hC dX5_isPlaced_16 (by decide) (fun c16 => ?_) (fun c16 => ?_)
    · refine g_iconst (v := 0) hC dX5_isPlaced_23 (by decide) ?_
      refine g_ireti hR dX5_isPlaced_24 (by decide) ?_
      clear hR hC hI
      refine pXi ?_
      grind
    · refine g_iconst (v := 1) hC dX5_isPlaced_19 (by decide) ?_
      refine g_goto (tgt := 24) hC dX5_isPlaced_20 (by decide) ?_
      refine g_ireti hR dX5_isPlaced_24 (by decide) ?_
      clear hR hC hI
      refine pXi ?_
      grind
end
section
/-! ===== the reference: order and contradictions ===== -/
set_option maxHeartbeats 4000000 in
set_option maxRecDepth 100000 in
theorem c_X5_sheetAt (l : Launch) (X : gX) (b0 : Nat) (lo : gL) (M T : rM2) (e0 : gE) (hM : Iv M) (p pl : Int32) : Ct l X b0 lo (enR X lo M T e0) yX5_sheetAt cX5_sheetAt 6 (some FieldType.int) (rM 6 152) [.ref (lo 1000), .int p, .int pl] (pRf X lo e0 (sp_sheetAt M p pl)) := by
  refine gMet (by decide) (Nat.le_of_ble_eq_true rfl) rfl ?_
  intro Z hC hI hR
  obtain ⟨hS, eS⟩ := Iv_nS hM
  refine g_aload_n hC dX5_sheetAt_0 rfl ?_
  refine g_iload_n hC dX5_sheetAt_1 rfl ?_
  refine g_callV hC v_X5_noMould km_X5_85 (c_X5_noMould l X b0 lo _ _ e0 _) rfl rO rfl rfl rfl rfl (Nat.le_of_ble_eq_true rfl) ⟨by decide, by decide⟩ ⟨by decide, by decide⟩ dX5_sheetAt_2 (kX ?_)
  refine g_if_eq (tgt := 10) hC dX5_sheetAt_5 (by decide) (fun c5 => ?_) (fun c5 => ?_)
  · have hp := ite_eq c5
    obtain ⟨i, hi, rfl, hi1, -⟩ := moOf hM hp
    have ei : nt (nI i) = i := nt_nI (by omega)
    refine g_iload_n hC dX5_sheetAt_10 rfl ?_
    refine g_if_ge (tgt := 17) hC dX5_sheetAt_11 (by decide) (fun c11 => ?_) (fun c11 => ?_)
    · refine g_aload_n hC dX5_sheetAt_17 rfl ?_
      refine g_callV hC v_X5_assignAll km_X5_146 (c_X5_assignAll l X b0 lo _ _ e0 hM) rfl rO rfl rfl rfl rfl (Nat.le_of_ble_eq_true rfl) ⟨by decide, by decide⟩ ⟨by decide, by decide⟩ dX5_sheetAt_18 (kV ?_)
      rintro en' ⟨T8, rfl, hs8⟩
      refine g_iconst (v := 0) hC dX5_sheetAt_21 (by decide) ?_
      refine g_istore_n hC dX5_sheetAt_22 (by decide) ?_
      have lk : ∀ (r : Nat) (k : Nat), k + r = nSh M → atF M (nI i) pl 0 (nSh M) = atF M (nI i) pl k r → GO l X b0 Z 0 0 lo (enR X lo M T8 e0) 23 [(0, .ref (lo 1000)), (1, .int (nI i)), (2, .int pl), (3, .int (nI k))] [] := by
        intro r
        induction r with
        | zero =>
          intro k hk9 hat
          have hk8 : k = nSh M := by omega
          subst hk8
          refine g_iload_n hC dX5_sheetAt_23 rfl ?_
          refine g_aload_n hC dX5_sheetAt_24 rfl ?_
          refine g_get hC rfl rO rfl kl_X5 11 (by decide) kf_X5_99 rfl rfl dX5_sheetAt_25 ?_
          refine g_icmp_ge (tgt := 120) hC dX5_sheetAt_28 (by decide) (fun c28 => ?_) (fun c28 => absurd (by rw [eS]; exact nI_le (by omega) (by omega)) c28)
          refine g_bipush (v := (-6)) hC dX5_sheetAt_120 (by decide) ?_
          refine g_ireti hR dX5_sheetAt_122 rfl ?_
          clear hR hC hI
          refine pRf_i ?_ rfl
          unfold sp_sheetAt
          rw [if_pos hp, if_neg (Int32.not_lt.mpr c11), hat]
          rfl
        | succ r ihlk =>
          intro k hk9 hat
          refine g_iload_n hC dX5_sheetAt_23 rfl ?_
          refine g_aload_n hC dX5_sheetAt_24 rfl ?_
          refine g_get hC rfl rO rfl kl_X5 11 (by decide) kf_X5_99 rfl rfl dX5_sheetAt_25 ?_
          refine g_icmp_ge (tgt := 120) hC dX5_sheetAt_28 (by decide) (fun c28 => absurd c28 (by rw [eS]; exact nI_ge (by omega) (by omega))) (fun c28 => ?_)
          refine g_iconst (v := 0) hC dX5_sheetAt_31 (by decide) ?_
          refine g_istore hC dX5_sheetAt_32 (by decide) ?_
          refine g_iconst (v := 0) hC dX5_sheetAt_34 (by decide) ?_
          refine g_istore hC dX5_sheetAt_35 (by decide) ?_
          have lx : ∀ (r : Nat) (x : Nat), x + r = nSh M → GO l X b0 Z 0 0 lo (enR X lo M T8 e0) 37 [(0, .ref (lo 1000)), (1, .int (nI i)), (2, .int pl), (3, .int (nI k)), (4, .int (anF M (nI i) k x)), (5, .int (nI x))] [] := by
            intro r
            induction r with
            | zero =>
              intro x hx9
              have hx8 : x = nSh M := by omega
              subst hx8
              refine g_iload hC dX5_sheetAt_37 rfl ?_
              refine g_aload_n hC dX5_sheetAt_39 rfl ?_
              refine g_get hC rfl rO rfl kl_X5 11 (by decide) kf_X5_99 rfl rfl dX5_sheetAt_40 ?_
              refine g_icmp_ge (tgt := 97) hC dX5_sheetAt_43 (by decide) (fun c43 => ?_) (fun c43 => absurd (by rw [eS]; exact nI_le (by omega) (by omega)) c43)
              refine g_aload_n hC dX5_sheetAt_97 rfl ?_
              refine g_iload_n hC dX5_sheetAt_98 rfl ?_
              refine g_iload_n hC dX5_sheetAt_99 rfl ?_
              refine g_callV hC v_X5_isPlaced km_X5_157 (c_X5_isPlaced l X b0 lo _ _ e0 hM hs8 k (by omega) _) rfl rO rfl rfl rfl rfl (Nat.le_of_ble_eq_true rfl) ⟨by decide, by decide⟩ ⟨by decide, by decide⟩ dX5_sheetAt_100 (kX ?_)
              refine g_if_eq (tgt := 114) hC dX5_sheetAt_103 (by decide) (fun c103 => ?_) (fun c103 => ?_)
              · have hat2 : atF M (nI i) pl 0 (nSh M) = atF M (nI i) pl (k + 1) r := by
                  rw [hat, (show atF M (nI i) pl k (r + 1) = (if onF M k (nI i) ∧ anF M (nI i) k (nSh M) = pl then nI k else atF M (nI i) pl (k + 1) r) from rfl)]
                  exact if_neg (by clear hC hR hI ihlk hat; grind)
                refine g_iinc hC dX5_sheetAt_114 rfl (nI_inc k) (by decide) ?_
                refine g_goto (tgt := 23) hC dX5_sheetAt_117 (by decide) ?_
                exact g_lv (lv' := [(0, .ref (lo 1000)), (1, .int (nI i)), (2, .int pl), (3, .int (nI (k + 1)))]) ⟨rfl, rfl, rfl, rfl, trivial⟩ (ihlk (k + 1) (by omega) hat2)
              · refine g_iload hC dX5_sheetAt_106 rfl ?_
                refine g_iload_n hC dX5_sheetAt_108 rfl ?_
                refine g_icmp_ne (tgt := 114) hC dX5_sheetAt_109 (by decide) (fun c109 => ?_) (fun c109 => ?_)
                · have hat2 : atF M (nI i) pl 0 (nSh M) = atF M (nI i) pl (k + 1) r := by
                    rw [hat, (show atF M (nI i) pl k (r + 1) = (if onF M k (nI i) ∧ anF M (nI i) k (nSh M) = pl then nI k else atF M (nI i) pl (k + 1) r) from rfl)]
                    exact if_neg (by clear hC hR hI ihlk hat; grind)
                  refine g_iinc hC dX5_sheetAt_114 rfl (nI_inc k) (by decide) ?_
                  refine g_goto (tgt := 23) hC dX5_sheetAt_117 (by decide) ?_
                  exact g_lv (lv' := [(0, .ref (lo 1000)), (1, .int (nI i)), (2, .int pl), (3, .int (nI (k + 1)))]) ⟨rfl, rfl, rfl, rfl, trivial⟩ (ihlk (k + 1) (by omega) hat2)
                · refine g_iload_n hC dX5_sheetAt_112 rfl ?_
                  refine g_ireti hR dX5_sheetAt_113 rfl ?_
                  clear hR hC hI
                  refine pRf_i ?_ rfl
                  unfold sp_sheetAt
                  rw [if_pos hp, if_neg (Int32.not_lt.mpr c11), hat, (show atF M (nI i) pl k (r + 1) = (if onF M k (nI i) ∧ anF M (nI i) k (nSh M) = pl then nI k else atF M (nI i) pl (k + 1) r) from rfl), if_pos (by clear hat ihlk; grind)]
            | succ r ihlx =>
              intro x hx9
              refine g_iload hC dX5_sheetAt_37 rfl ?_
              refine g_aload_n hC dX5_sheetAt_39 rfl ?_
              refine g_get hC rfl rO rfl kl_X5 11 (by decide) kf_X5_99 rfl rfl dX5_sheetAt_40 ?_
              refine g_icmp_ge (tgt := 97) hC dX5_sheetAt_43 (by decide) (fun c43 => absurd c43 (by rw [eS]; exact nI_ge (by omega) (by omega))) (fun c43 => ?_)
              refine g_iload hC dX5_sheetAt_46 rfl ?_
              refine g_aload_n hC dX5_sheetAt_48 rfl ?_
              refine g_iload_n hC dX5_sheetAt_49 rfl ?_
              refine g_iload_n hC dX5_sheetAt_50 rfl ?_
              refine g_callV hC v_X5_isPlaced km_X5_157 (c_X5_isPlaced l X b0 lo _ _ e0 hM hs8 k (by omega) _) rfl rO rfl rfl rfl rfl (Nat.le_of_ble_eq_true rfl) ⟨by decide, by decide⟩ ⟨by decide, by decide⟩ dX5_sheetAt_51 (kX ?_)
              refine g_if_eq (tgt := 87) hC dX5_sheetAt_54 (by decide) (fun c54 => ?_) (fun c54 => ?_)
              · refine g_iconst (v := 0) hC dX5_sheetAt_87 (by decide) ?_
                refine g_iadd hC dX5_sheetAt_88 ?_
                refine g_val (y := anF M (nI i) k (x + 1)) (by
                  have hxk0 : (nI x = nI k) ↔ x = k := nI_eq (by omega) (by omega)
                  clear hC hR hI ihlx ihlk
                  rw [anF_s]
                  grind) ?_
                refine g_istore hC dX5_sheetAt_89 (by decide) ?_
                refine g_iinc hC dX5_sheetAt_91 rfl (nI_inc x) (by decide) ?_
                refine g_goto (tgt := 37) hC dX5_sheetAt_94 (by decide) ?_
                exact g_lv (lv' := [(0, .ref (lo 1000)), (1, .int (nI i)), (2, .int pl), (3, .int (nI k)), (4, .int (anF M (nI i) k (x + 1))), (5, .int (nI (x + 1)))]) ⟨rfl, rfl, rfl, rfl, rfl, rfl, trivial⟩ (ihlx (x + 1) (by omega))
              · refine g_aload_n hC dX5_sheetAt_57 rfl ?_
                refine g_iload hC dX5_sheetAt_58 rfl ?_
                refine g_iload_n hC dX5_sheetAt_60 rfl ?_
                refine g_callV hC v_X5_isPlaced km_X5_157 (c_X5_isPlaced l X b0 lo _ _ e0 hM hs8 x (by omega) _) rfl rO rfl rfl rfl rfl (Nat.le_of_ble_eq_true rfl) ⟨by decide, by decide⟩ ⟨by decide, by decide⟩ dX5_sheetAt_61 (kX ?_)
                refine g_if_eq (tgt := 87) hC dX5_sheetAt_64 (by decide) (fun c64 => ?_) (fun c64 => ?_)
                · refine g_iconst (v := 0) hC dX5_sheetAt_87 (by decide) ?_
                  refine g_iadd hC dX5_sheetAt_88 ?_
                  refine g_val (y := anF M (nI i) k (x + 1)) (by
                    have hxk0 : (nI x = nI k) ↔ x = k := nI_eq (by omega) (by omega)
                    clear hC hR hI ihlx ihlk
                    rw [anF_s]
                    grind) ?_
                  refine g_istore hC dX5_sheetAt_89 (by decide) ?_
                  refine g_iinc hC dX5_sheetAt_91 rfl (nI_inc x) (by decide) ?_
                  refine g_goto (tgt := 37) hC dX5_sheetAt_94 (by decide) ?_
                  exact g_lv (lv' := [(0, .ref (lo 1000)), (1, .int (nI i)), (2, .int pl), (3, .int (nI k)), (4, .int (anF M (nI i) k (x + 1))), (5, .int (nI (x + 1)))]) ⟨rfl, rfl, rfl, rfl, rfl, rfl, trivial⟩ (ihlx (x + 1) (by omega))
                · refine g_iload hC dX5_sheetAt_67 rfl ?_
                  refine g_iload_n hC dX5_sheetAt_69 rfl ?_
                  refine g_icmp_eq (tgt := 87) hC dX5_sheetAt_70 (by decide) (fun c70 => ?_) (fun c70 => ?_)
                  · refine g_iconst (v := 0) hC dX5_sheetAt_87 (by decide) ?_
                    refine g_iadd hC dX5_sheetAt_88 ?_
                    refine g_val (y := anF M (nI i) k (x + 1)) (by
                      have hxk0 : (nI x = nI k) ↔ x = k := nI_eq (by omega) (by omega)
                      clear hC hR hI ihlx ihlk
                      rw [anF_s]
                      grind) ?_
                    refine g_istore hC dX5_sheetAt_89 (by decide) ?_
                    refine g_iinc hC dX5_sheetAt_91 rfl (nI_inc x) (by decide) ?_
                    refine g_goto (tgt := 37) hC dX5_sheetAt_94 (by decide) ?_
                    exact g_lv (lv' := [(0, .ref (lo 1000)), (1, .int (nI i)), (2, .int pl), (3, .int (nI k)), (4, .int (anF M (nI i) k (x + 1))), (5, .int (nI (x + 1)))]) ⟨rfl, rfl, rfl, rfl, rfl, rfl, trivial⟩ (ihlx (x + 1) (by omega))
                  · have hxk : x ≠ k := fun z => c70 (by rw [z])
                    refine g_aload_n hC dX5_sheetAt_73 rfl ?_
                    refine g_iload hC dX5_sheetAt_74 rfl ?_
                    refine g_iload_n hC dX5_sheetAt_76 rfl ?_
                    refine g_callV hC v_X5_isAhead km_X5_160 (c_X5_isAhead l X b0 lo _ _ e0 hM hs8 x k (by omega) (by omega)) rfl rO rfl rfl rfl rfl (Nat.le_of_ble_eq_true rfl) ⟨by decide, by decide⟩ ⟨by decide, by decide⟩ dX5_sheetAt_77 (kX ?_)
                    refine g_if_eq (tgt := 87) hC dX5_sheetAt_80 (by decide) (fun c80 => ?_) (fun c80 => ?_)
                    · refine g_iconst (v := 0) hC dX5_sheetAt_87 (by decide) ?_
                      refine g_iadd hC dX5_sheetAt_88 ?_
                      refine g_val (y := anF M (nI i) k (x + 1)) (by
                        have hxk0 : (nI x = nI k) ↔ x = k := nI_eq (by omega) (by omega)
                        clear hC hR hI ihlx ihlk
                        rw [anF_s]
                        grind) ?_
                      refine g_istore hC dX5_sheetAt_89 (by decide) ?_
                      refine g_iinc hC dX5_sheetAt_91 rfl (nI_inc x) (by decide) ?_
                      refine g_goto (tgt := 37) hC dX5_sheetAt_94 (by decide) ?_
                      exact g_lv (lv' := [(0, .ref (lo 1000)), (1, .int (nI i)), (2, .int pl), (3, .int (nI k)), (4, .int (anF M (nI i) k (x + 1))), (5, .int (nI (x + 1)))]) ⟨rfl, rfl, rfl, rfl, rfl, rfl, trivial⟩ (ihlx (x + 1) (by omega))
                    · refine g_iconst (v := 1) hC dX5_sheetAt_83 (by decide) ?_
                      refine g_goto (tgt := 88) hC dX5_sheetAt_84 (by decide) ?_
                      refine g_iadd hC dX5_sheetAt_88 ?_
                      refine g_val (y := anF M (nI i) k (x + 1)) (by
                        have hxk0 : (nI x = nI k) ↔ x = k := nI_eq (by omega) (by omega)
                        clear hC hR hI ihlx ihlk
                        rw [anF_s]
                        grind) ?_
                      refine g_istore hC dX5_sheetAt_89 (by decide) ?_
                      refine g_iinc hC dX5_sheetAt_91 rfl (nI_inc x) (by decide) ?_
                      refine g_goto (tgt := 37) hC dX5_sheetAt_94 (by decide) ?_
                      exact g_lv (lv' := [(0, .ref (lo 1000)), (1, .int (nI i)), (2, .int pl), (3, .int (nI k)), (4, .int (anF M (nI i) k (x + 1))), (5, .int (nI (x + 1)))]) ⟨rfl, rfl, rfl, rfl, rfl, rfl, trivial⟩ (ihlx (x + 1) (by omega))
          exact g_lv (lv' := [(0, .ref (lo 1000)), (1, .int (nI i)), (2, .int pl), (3, .int (nI k)), (4, .int 0), (5, .int (nI 0))]) ⟨rfl, rfl, rfl, rfl, rfl, rfl, trivial⟩ (lx (nSh M) 0 (by omega))
      exact g_lv (lv' := [(0, .ref (lo 1000)), (1, .int (nI i)), (2, .int pl), (3, .int (nI 0))]) ⟨rfl, rfl, rfl, rfl, trivial⟩ (lk (nSh M) 0 (by omega) rfl)
    · refine g_bipush (v := (-3)) hC dX5_sheetAt_14 (by decide) ?_
      refine g_ireti hR dX5_sheetAt_16 rfl ?_
      clear hR hC hI
      refine pRf_i ?_ rfl
      grind [sp_sheetAt]
  · refine g_iconst (v := (-1)) hC dX5_sheetAt_8 (by decide) ?_
    refine g_ireti hR dX5_sheetAt_9 rfl ?_
    clear hR hC hI
    refine pRf_i ?_ rfl
    grind [sp_sheetAt]

set_option maxHeartbeats 4000000 in
set_option maxRecDepth 100000 in
theorem c_X5_contradictionCount (l : Launch) (X : gX) (b0 : Nat) (lo : gL) (M T : rM2) (e0 : gE) (hM : Iv M) (p : Int32) : Ct l X b0 lo (enR X lo M T e0) yX5_contradictionCount cX5_contradictionCount 5 (some FieldType.int) (rM 6 152) [.ref (lo 1000), .int p] (pRf X lo e0 (sp_contradictionCount M p)) := by
  refine gMet (by decide) (Nat.le_of_ble_eq_true rfl) rfl ?_
  intro Z hC hI hR
  obtain ⟨hS, eS⟩ := Iv_nS hM
  refine g_aload_n hC dX5_contradictionCount_0 rfl ?_
  refine g_iload_n hC dX5_contradictionCount_1 rfl ?_
  refine g_callV hC v_X5_noMould km_X5_85 (c_X5_noMould l X b0 lo _ _ e0 _) rfl rO rfl rfl rfl rfl (Nat.le_of_ble_eq_true rfl) ⟨by decide, by decide⟩ ⟨by decide, by decide⟩ dX5_contradictionCount_2 (kX ?_)
  refine g_if_eq (tgt := 10) hC dX5_contradictionCount_5 (by decide) (fun c5 => ?_) (fun c5 => ?_)
  · have hp := ite_eq c5
    obtain ⟨i, hi, rfl, hi1, -⟩ := moOf hM hp
    have ei : nt (nI i) = i := nt_nI (by omega)
    refine g_aload_n hC dX5_contradictionCount_10 rfl ?_
    refine g_callV hC v_X5_assignAll km_X5_146 (c_X5_assignAll l X b0 lo _ _ e0 hM) rfl rO rfl rfl rfl rfl (Nat.le_of_ble_eq_true rfl) ⟨by decide, by decide⟩ ⟨by decide, by decide⟩ dX5_contradictionCount_11 (kV ?_)
    rintro en' ⟨T8, rfl, hs8⟩
    refine g_iconst (v := 0) hC dX5_contradictionCount_14 (by decide) ?_
    refine g_istore_n hC dX5_contradictionCount_15 (by decide) ?_
    refine g_iconst (v := 0) hC dX5_contradictionCount_16 (by decide) ?_
    refine g_istore_n hC dX5_contradictionCount_17 (by decide) ?_
    have la : ∀ (r : Nat) (a : Nat), a + r = nSh M → GO l X b0 Z 0 0 lo (enR X lo M T8 e0) 18 [(0, .ref (lo 1000)), (1, .int (nI i)), (2, .int (ccF M (nI i) a)), (3, .int (nI a))] [] := by
      intro r
      induction r with
      | zero =>
        intro a ha9
        have ha8 : a = nSh M := by omega
        subst ha8
        refine g_iload_n hC dX5_contradictionCount_18 rfl ?_
        refine g_aload_n hC dX5_contradictionCount_19 rfl ?_
        refine g_get hC rfl rO rfl kl_X5 11 (by decide) kf_X5_99 rfl rfl dX5_contradictionCount_20 ?_
        refine g_icmp_ge (tgt := 94) hC dX5_contradictionCount_23 (by decide) (fun c23 => ?_) (fun c23 => absurd (by rw [eS]; exact nI_le (by omega) (by omega)) c23)
        refine g_iload_n hC dX5_contradictionCount_94 rfl ?_
        refine g_ireti hR dX5_contradictionCount_95 rfl ?_
        clear hR hC hI
        refine pRf_i ?_ rfl
        unfold sp_contradictionCount
        rw [if_pos hp]
      | succ r ihla =>
        intro a ha9
        refine g_iload_n hC dX5_contradictionCount_18 rfl ?_
        refine g_aload_n hC dX5_contradictionCount_19 rfl ?_
        refine g_get hC rfl rO rfl kl_X5 11 (by decide) kf_X5_99 rfl rfl dX5_contradictionCount_20 ?_
        refine g_icmp_ge (tgt := 94) hC dX5_contradictionCount_23 (by decide) (fun c23 => absurd c23 (by rw [eS]; exact nI_ge (by omega) (by omega))) (fun c23 => ?_)
        refine g_iconst (v := 0) hC dX5_contradictionCount_26 (by decide) ?_
        refine g_istore hC dX5_contradictionCount_27 (by decide) ?_
        have lb : ∀ (r : Nat) (b : Nat), b + r = nSh M → GO l X b0 Z 0 0 lo (enR X lo M T8 e0) 29 [(0, .ref (lo 1000)), (1, .int (nI i)), (2, .int (ccI M (nI i) a b (ccF M (nI i) a))), (3, .int (nI a)), (4, .int (nI b))] [] := by
          intro r
          induction r with
          | zero =>
            intro b hb9
            have hb8 : b = nSh M := by omega
            subst hb8
            refine g_iload hC dX5_contradictionCount_29 rfl ?_
            refine g_aload_n hC dX5_contradictionCount_31 rfl ?_
            refine g_get hC rfl rO rfl kl_X5 11 (by decide) kf_X5_99 rfl rfl dX5_contradictionCount_32 ?_
            refine g_icmp_ge (tgt := 88) hC dX5_contradictionCount_35 (by decide) (fun c35 => ?_) (fun c35 => absurd (by rw [eS]; exact nI_le (by omega) (by omega)) c35)
            refine g_iinc hC dX5_contradictionCount_88 rfl (nI_inc a) (by decide) ?_
            refine g_goto (tgt := 18) hC dX5_contradictionCount_91 (by decide) ?_
            exact g_lv (lv' := [(0, .ref (lo 1000)), (1, .int (nI i)), (2, .int (ccF M (nI i) (a + 1))), (3, .int (nI (a + 1)))]) ⟨rfl, rfl, rfl, rfl, trivial⟩ (ihla (a + 1) (by omega))
          | succ r ihlb =>
            intro b hb9
            refine g_iload hC dX5_contradictionCount_29 rfl ?_
            refine g_aload_n hC dX5_contradictionCount_31 rfl ?_
            refine g_get hC rfl rO rfl kl_X5 11 (by decide) kf_X5_99 rfl rfl dX5_contradictionCount_32 ?_
            refine g_icmp_ge (tgt := 88) hC dX5_contradictionCount_35 (by decide) (fun c35 => absurd c35 (by rw [eS]; exact nI_ge (by omega) (by omega))) (fun c35 => ?_)
            refine g_iload_n hC dX5_contradictionCount_38 rfl ?_
            refine g_aload_n hC dX5_contradictionCount_39 rfl ?_
            refine g_get hC rfl rO rfl kl_X5 25 (by decide) kf_X5_59 rfl rfl dX5_contradictionCount_40 ?_
            refine g_iload_n hC dX5_contradictionCount_43 rfl ?_
            refine g_iald hC rfl rA1015 a rfl (by omega) (by decide) dX5_contradictionCount_44 ?_
            refine g_iload_n hC dX5_contradictionCount_45 rfl ?_
            refine g_icmp_ne (tgt := 79) hC dX5_contradictionCount_46 (by decide) (fun c46 => ?_) (fun c46 => ?_)
            · refine g_iconst (v := 0) hC dX5_contradictionCount_79 (by decide) ?_
              refine g_iadd hC dX5_contradictionCount_80 ?_
              refine g_val (y := ccI M (nI i) a (b + 1) (ccF M (nI i) a)) (by
                have h8 := (hs8 a (by omega)).1
                clear hC hR hI ihlb ihla
                rw [ccI_s]
                grind) ?_
              refine g_istore_n hC dX5_contradictionCount_81 (by decide) ?_
              refine g_iinc hC dX5_contradictionCount_82 rfl (nI_inc b) (by decide) ?_
              refine g_goto (tgt := 29) hC dX5_contradictionCount_85 (by decide) ?_
              exact g_lv (lv' := [(0, .ref (lo 1000)), (1, .int (nI i)), (2, .int (ccI M (nI i) a (b + 1) (ccF M (nI i) a))), (3, .int (nI a)), (4, .int (nI (b + 1)))]) ⟨rfl, rfl, rfl, rfl, rfl, trivial⟩ (ihlb (b + 1) (by omega))
            · refine g_aload_n hC dX5_contradictionCount_49 rfl ?_
              refine g_iload_n hC dX5_contradictionCount_50 rfl ?_
              refine g_iload hC dX5_contradictionCount_51 rfl ?_
              refine g_callV hC v_X5_isLower km_X5_149 (c_X5_isLower l X b0 lo _ _ e0 hM hs8 a b (by omega) (by omega)) rfl rO rfl rfl rfl rfl (Nat.le_of_ble_eq_true rfl) ⟨by decide, by decide⟩ ⟨by decide, by decide⟩ dX5_contradictionCount_53 (kX ?_)
              refine g_if_eq (tgt := 79) hC dX5_contradictionCount_56 (by decide) (fun c56 => ?_) (fun c56 => ?_)
              · refine g_iconst (v := 0) hC dX5_contradictionCount_79 (by decide) ?_
                refine g_iadd hC dX5_contradictionCount_80 ?_
                refine g_val (y := ccI M (nI i) a (b + 1) (ccF M (nI i) a)) (by
                  have h8 := (hs8 a (by omega)).1
                  clear hC hR hI ihlb ihla
                  rw [ccI_s]
                  grind) ?_
                refine g_istore_n hC dX5_contradictionCount_81 (by decide) ?_
                refine g_iinc hC dX5_contradictionCount_82 rfl (nI_inc b) (by decide) ?_
                refine g_goto (tgt := 29) hC dX5_contradictionCount_85 (by decide) ?_
                exact g_lv (lv' := [(0, .ref (lo 1000)), (1, .int (nI i)), (2, .int (ccI M (nI i) a (b + 1) (ccF M (nI i) a))), (3, .int (nI a)), (4, .int (nI (b + 1)))]) ⟨rfl, rfl, rfl, rfl, rfl, trivial⟩ (ihlb (b + 1) (by omega))
              · refine g_aload_n hC dX5_contradictionCount_59 rfl ?_
                refine g_get hC rfl rO rfl kl_X5 17 (by decide) kf_X5_53 rfl rfl dX5_contradictionCount_60 ?_
                refine g_iload_n hC dX5_contradictionCount_63 rfl ?_
                refine g_iald hC rfl rA1013 a rfl (by omega) (by decide) dX5_contradictionCount_64 ?_
                refine g_aload_n hC dX5_contradictionCount_65 rfl ?_
                refine g_get hC rfl rO rfl kl_X5 18 (by decide) kf_X5_56 rfl rfl dX5_contradictionCount_66 ?_
                refine g_iload hC dX5_contradictionCount_69 rfl ?_
                refine g_iald hC rfl rA1014 b rfl (by omega) (by decide) dX5_contradictionCount_71 ?_
                refine g_icmp_le (tgt := 79) hC dX5_contradictionCount_72 (by decide) (fun c72 => ?_) (fun c72 => ?_)
                · refine g_iconst (v := 0) hC dX5_contradictionCount_79 (by decide) ?_
                  refine g_iadd hC dX5_contradictionCount_80 ?_
                  refine g_val (y := ccI M (nI i) a (b + 1) (ccF M (nI i) a)) (by
                    have h8 := (hs8 a (by omega)).1
                    clear hC hR hI ihlb ihla
                    rw [ccI_s]
                    grind) ?_
                  refine g_istore_n hC dX5_contradictionCount_81 (by decide) ?_
                  refine g_iinc hC dX5_contradictionCount_82 rfl (nI_inc b) (by decide) ?_
                  refine g_goto (tgt := 29) hC dX5_contradictionCount_85 (by decide) ?_
                  exact g_lv (lv' := [(0, .ref (lo 1000)), (1, .int (nI i)), (2, .int (ccI M (nI i) a (b + 1) (ccF M (nI i) a))), (3, .int (nI a)), (4, .int (nI (b + 1)))]) ⟨rfl, rfl, rfl, rfl, rfl, trivial⟩ (ihlb (b + 1) (by omega))
                · refine g_iconst (v := 1) hC dX5_contradictionCount_75 (by decide) ?_
                  refine g_goto (tgt := 80) hC dX5_contradictionCount_76 (by decide) ?_
                  refine g_iadd hC dX5_contradictionCount_80 ?_
                  refine g_val (y := ccI M (nI i) a (b + 1) (ccF M (nI i) a)) (by
                    have h8 := (hs8 a (by omega)).1
                    clear hC hR hI ihlb ihla
                    rw [ccI_s]
                    grind) ?_
                  refine g_istore_n hC dX5_contradictionCount_81 (by decide) ?_
                  refine g_iinc hC dX5_contradictionCount_82 rfl (nI_inc b) (by decide) ?_
                  refine g_goto (tgt := 29) hC dX5_contradictionCount_85 (by decide) ?_
                  exact g_lv (lv' := [(0, .ref (lo 1000)), (1, .int (nI i)), (2, .int (ccI M (nI i) a (b + 1) (ccF M (nI i) a))), (3, .int (nI a)), (4, .int (nI (b + 1)))]) ⟨rfl, rfl, rfl, rfl, rfl, trivial⟩ (ihlb (b + 1) (by omega))
        exact g_lv (lv' := [(0, .ref (lo 1000)), (1, .int (nI i)), (2, .int (ccF M (nI i) a)), (3, .int (nI a)), (4, .int (nI 0))]) ⟨rfl, rfl, rfl, rfl, rfl, trivial⟩ (lb (nSh M) 0 (by omega))
    exact g_lv (lv' := [(0, .ref (lo 1000)), (1, .int (nI i)), (2, .int 0), (3, .int (nI 0))]) ⟨rfl, rfl, rfl, rfl, trivial⟩ (la (nSh M) 0 (by omega))
  · refine g_iconst (v := (-1)) hC dX5_contradictionCount_8 (by decide) ?_
    refine g_ireti hR dX5_contradictionCount_9 rfl ?_
    clear hR hC hI
    refine pRf_i ?_ rfl
    grind [sp_contradictionCount]
end
section
/-! ===== the class's lasting state beside the reference's ===== -/
def Sm (L : Nat → Nat → Nat) (K : rM3) (M : rM2) : Prop := L 2 0 = nMo M ∧ L 2 1 = nSh M ∧ K 0 1 0 = M 20 1 ∧ K 0 2 0 = M 20 2 ∧ K 0 3 0 = M 20 3 ∧ K 1 0 = M 0 ∧
  (∀ i, i < nMo M → L 0 i = nt (M 1 i) ∧ K 2 i 1 = M 3 i ∧ K 2 i 2 = M 2 (10 * i + nt (M 3 i)) ∧ K 2 i 5 = M 4 i ∧ (∀ k, k < L 0 i → K 3 i k = M 2 (10 * i + k)) ∧ ∀ k, k < nt (M 4 i) → K 4 i k = M 5 (6 * i + k) ∧ K 5 i k = M 6 (6 * i + k)) ∧
  ∀ j, j < nSh M → L 1 j = nt (M 7 j) ∧ K 6 j 1 = M 9 j ∧ K 6 j 2 = M 10 j ∧ K 6 j 3 = M 11 j ∧ K 6 j 4 = M 12 j ∧ K 6 j 5 = M 13 j ∧ ∀ k, k < L 1 j → K 7 j k = M 8 (10 * j + k)
/-- a state as the class has it -/
def stC (s : Int32) : Int32 := if s = -6 then -1 else s
/-- a kept match holds the best placement b -/
def mtB (C : rM3) (r : Nat) (b : gB) : Prop := match b with
  | none => C 8 r 1 = 0
  | some q => C 8 r 1 = 1 ∧ C 8 r 2 = q.1 ∧ C 8 r 3 = q.2.1 ∧ C 8 r 4 = q.2.2.1 ∧ C 8 r 5 = q.2.2.2.1 ∧ C 8 r 6 = stC q.2.2.2.2
def Sc (C : rM3) (M : rM2) : Prop := ∀ j i, j < nSh M → i < 10 → C 8 (16 * j + i) 0 = 0 ∨ (C 8 (16 * j + i) 0 = 1 ∧ i < nMo M ∧ mtB C (16 * j + i) (fb M j i))
/-- a public call of the class: its answer and what lasts, by the specification -/
def pKl (X : gX) (lo : gL) (e0 : gE) (a : gA) : gP := fun v lo' en' => (∀ k, 1000 ≤ k → lo' k = lo k) ∧ lo' 0 = lo 0 ∧ ∃ r : Int32, v = some (.int r) ∧ r = a.1 ∧ ∃ (L' : Nat → Nat → Nat) (K' C' : rM3), en' = enC X lo' L' K' C' e0 ∧ Sm L' K' a.2 ∧ Sc C' a.2
theorem pKl_i {X : gX} {lo : gL} {e0 : gE} {a : gA} {r : Int32} {L' : Nat → Nat → Nat} {K' C' : rM3} (h1 : r = a.1) (h2 : Sm L' K' a.2) (h3 : Sc C' a.2) : pKl X lo e0 a (some (.int r)) lo (enC X lo L' K' C' e0) := ⟨fun _ _ => rfl, rfl, r, rfl, h1, L', K', C', rfl, h2, h3⟩
/-! ===== what the best placement depends on ===== -/
theorem ssF_cg {S Q S' Q' : Nat → Int32} {tol f : Int32} : ∀ {n : Nat}, (∀ q, q < n → S' q = S q) → (∀ q, q < n → Q' q = Q q) → ssF S' Q' tol f n = ssF S Q tol f n
  | 0, _, _ => rfl
  | n + 1, h1, h2 => by
    unfold ssF
    rw [ssF_cg (fun q hq => h1 q (by omega)) (fun q hq => h2 q (by omega)), h1 n (by omega), h2 n (by omega)]
theorem msF_cg {A B A' B' : Nat → Int32} {x y mt f : Int32} : ∀ {n : Nat}, (∀ q, q < n → A' q = A q ∧ B' q = B q) → msF A' B' x y mt f n = msF A B x y mt f n
  | 0, _ => rfl
  | n + 1, h => by
    unfold msF
    rw [msF_cg (fun q hq => h q (by omega)), (h n (by omega)).1, (h n (by omega)).2]
/-- M' says the same of sheet j and mould i -/
def cg (M M' : rM2) (j i : Nat) : Prop := M' 7 j = M 7 j ∧ (∀ k, k < 10 → M' 8 (10 * j + k) = M 8 (10 * j + k)) ∧ M' 9 j = M 9 j ∧ M' 10 j = M 10 j ∧ M' 11 j = M 11 j ∧ M' 1 i = M 1 i ∧ (∀ k, k < 10 → M' 2 (10 * i + k) = M 2 (10 * i + k)) ∧ M' 3 i = M 3 i ∧ M' 4 i = M 4 i ∧ (∀ k, k < nt (M 4 i) → M' 5 (6 * i + k) = M 5 (6 * i + k) ∧ M' 6 (6 * i + k) = M 6 (6 * i + k)) ∧ M' 20 2 = M 20 2 ∧ M' 20 3 = M 20 3
theorem plF_cg {M M' : rM2} (hM : Iv M) {j i t o : Nat} {f : Int32} (hj : j < nSh M) (hi : i < nMo M) (ho : o + nt (M 7 j) ≤ nt (M 1 i)) (h : cg M M' j i) : plF M' j i t o f = plF M j i t o f := by
  obtain ⟨h7, h8, h9, h10, h11, h1, h2, h3, h4, h56, ht, hm⟩ := h
  obtain ⟨n, hn2, hn10, en, en2⟩ := Iv_sh hM hj
  obtain ⟨n', hn2', hn10', en', en2'⟩ := Iv_mo hM hi
  have e1 : ssF (sS M' j (rvT t)) (qQ M' i o) (M' 20 2) f (nt (M' 7 j)) = ssF (sS M j (rvT t)) (qQ M i o) (M 20 2) f (nt (M 7 j)) := by
    rw [h7, ht]
    refine ssF_cg (fun q hq => ?_) (fun q hq => ?_)
    · unfold sS
      rw [h7]
      exact h8 _ (by split <;> omega)
    · unfold qQ
      rw [show 10 * i + o + q = 10 * i + (o + q) by omega]
      exact h2 _ (by omega)
  have e2 : ∀ x y, msM M' i x y f (nt (M' 4 i)) = msM M i x y f (nt (M 4 i)) := fun x y => by
    unfold msM
    rw [h4, hm]
    exact msF_cg (fun q hq => h56 q hq)
  unfold plF
  rw [e1, h7, h9, h3]
  split
  · rfl
  · by_cases c9 : M 9 j < 0
    · rw [if_pos c9, if_pos c9]
    · obtain ⟨-, -, k, hk, ek⟩ := pxy_R (t := t) hM hj c9
      have hk2 : nt (M 9 j) = k := by rw [ek]; exact nt_nI (by omega)
      have e3 : pxF M' j t = pxF M j t := by unfold pxF; rw [h9, h10, hk2, h8 k (by omega)]
      have e4 : pyF M' j t = pyF M j t := by unfold pyF; rw [h11]
      rw [if_neg c9, if_neg c9, e3, e4, e2]
theorem fb_cg {M M' : rM2} (hM : Iv M) {j i : Nat} (hj : j < nSh M) (hi : i < nMo M) (h : cg M M' j i) : fb M' j i = fb M j i := by
  have hN : nO M' j i = nO M j i := by unfold nO; rw [h.1, h.2.2.2.2.2.1]
  have hF : ∀ t o, o < nO M j i → ∀ k b, bF M' j i t o k b = bF M j i t o k b := by
    intro t o ho k b
    induction k with
    | zero => rfl
    | succ k ih => unfold bF; rw [ih, plF_cg hM hj hi (nO_le ho) h]
  have hO : ∀ t o, o ≤ nO M j i → ∀ b, bO M' j i t o b = bO M j i t o b := by
    intro t o
    induction o with
    | zero => intro _ _; rfl
    | succ o ih => intro ho b; unfold bO; rw [ih (by omega), hF t o (by omega)]
  have hT : ∀ t b, bT M' j i t b = bT M j i t b := by
    intro t
    induction t with
    | zero => intro _; rfl
    | succ t ih => intro b; unfold bT; rw [ih, hN, hO t _ (Nat.le_refl _)]
  exact hT 4 none
/-- the kept matches stay right -/
theorem Sc.keep {C : rM3} {M M' : rM2} (hM : Iv M) (h : Sc C M) (hn : nMo M' = nMo M) (hs : nSh M' = nSh M) (hc : ∀ j i, j < nSh M → i < nMo M → cg M M' j i) : Sc C M' := by
  intro j i hj hi
  rw [hs] at hj
  rcases h j i hj hi with h0 | ⟨h1, h2, h3⟩
  · exact Or.inl h0
  · refine Or.inr ⟨h1, by rw [hn]; exact h2, ?_⟩
    rw [fb_cg hM hj h2 (hc j i hj h2)]
    exact h3
/-- what the class keeps of a mould, a sheet: in ranges -/
theorem Sm.mo {L : Nat → Nat → Nat} {K : rM3} {M : rM2} (hs : Sm L K M) {i : Nat} (hi : i < nMo M) : L 0 i = nt (M 1 i) ∧ K 2 i 1 = M 3 i ∧ K 2 i 2 = M 2 (10 * i + nt (M 3 i)) ∧ K 2 i 5 = M 4 i ∧ (∀ k, k < L 0 i → K 3 i k = M 2 (10 * i + k)) ∧ ∀ k, k < nt (M 4 i) → K 4 i k = M 5 (6 * i + k) ∧ K 5 i k = M 6 (6 * i + k) := hs.2.2.2.2.2.2.1 i hi
theorem Sm.sh {L : Nat → Nat → Nat} {K : rM3} {M : rM2} (hs : Sm L K M) {j : Nat} (hj : j < nSh M) : L 1 j = nt (M 7 j) ∧ K 6 j 1 = M 9 j ∧ K 6 j 2 = M 10 j ∧ K 6 j 3 = M 11 j ∧ K 6 j 4 = M 12 j ∧ K 6 j 5 = M 13 j ∧ ∀ k, k < L 1 j → K 7 j k = M 8 (10 * j + k) := hs.2.2.2.2.2.2.2 j hj
end
section
/-! ===== the class: checks, and what changes it ===== -/
theorem pXv {v : Value} {lo : gL} {en : gE} : pX v lo en (some v) lo en := ⟨rfl, rfl, rfl⟩

set_option maxHeartbeats 4000000 in
set_option maxRecDepth 100000 in
theorem c_X4_mouldOrNull_s (l : Launch) (X : gX) (b0 : Nat) (lo : gL) (L : Nat → Nat → Nat) (K C : rM3) (e0 : gE) (i : Nat) (hi : i < L 2 0) (hn : L 2 0 ≤ 10) : Ct l X b0 lo (enC X lo L K C e0) yX4_mouldOrNull cX4_mouldOrNull 2 (some (FieldType.object "MouldMatcher$Mould")) (rM 0 0) [.ref (lo 0), .int (nI i)] (pX (.ref (lo (100 + 4 * i))) lo (enC X lo L K C e0)) := by
  refine gMet (by decide) (Nat.le_of_ble_eq_true rfl) rfl ?_
  intro Z hC hI hR
  refine g_iload_n hC dX4_mouldOrNull_0 rfl ?_
  refine g_if_lt (tgt := 21) hC dX4_mouldOrNull_1 (by decide) (fun c1 => absurd c1 (nI_pos (by omega))) (fun c1 => ?_)
  refine g_iload_n hC dX4_mouldOrNull_4 rfl ?_
  refine g_aload_n hC dX4_mouldOrNull_5 rfl ?_
  refine g_get hC rfl cO rfl kl_X4 5 (by decide) kf_X4_29 rfl rfl dX4_mouldOrNull_6 ?_
  refine g_icmp_ge (tgt := 21) hC dX4_mouldOrNull_9 (by decide) (fun c9 => absurd c9 (nI_ge hi (by omega))) (fun c9 => ?_)
  refine g_aload_n hC dX4_mouldOrNull_12 rfl ?_
  refine g_get hC rfl cO rfl kl_X4 4 (by decide) kf_X4_25 rfl rfl dX4_mouldOrNull_13 ?_
  refine g_iload_n hC dX4_mouldOrNull_16 rfl ?_
  refine g_aald (t0 := 1) hC rfl cA2 rfl i rfl (by omega) (by decide) (if_pos hi) dX4_mouldOrNull_17 ?_
  refine g_goto (tgt := 22) hC dX4_mouldOrNull_18 (by decide) ?_
  refine g_areto hR (Or.inr ⟨_, rfl⟩) dX4_mouldOrNull_22 ?_
  clear hR hC hI
  exact pXv

set_option maxHeartbeats 4000000 in
set_option maxRecDepth 100000 in
theorem c_X4_mouldOrNull_n (l : Launch) (X : gX) (b0 : Nat) (lo : gL) (L : Nat → Nat → Nat) (K C : rM3) (e0 : gE) (p : Int32) (hp : ¬ (0 ≤ p ∧ p < nI (L 2 0))) : Ct l X b0 lo (enC X lo L K C e0) yX4_mouldOrNull cX4_mouldOrNull 2 (some (FieldType.object "MouldMatcher$Mould")) (rM 0 0) [.ref (lo 0), .int p] (pX .null lo (enC X lo L K C e0)) := by
  refine gMet (by decide) (Nat.le_of_ble_eq_true rfl) rfl ?_
  intro Z hC hI hR
  refine g_iload_n hC dX4_mouldOrNull_0 rfl ?_
  refine g_if_lt (tgt := 21) hC dX4_mouldOrNull_1 (by decide) (fun c1 => ?_) (fun c1 => ?_)
  · refine g_null hC dX4_mouldOrNull_21 ?_
    refine g_areto hR (Or.inl rfl) dX4_mouldOrNull_22 ?_
    clear hR hC hI
    exact pXv
  · refine g_iload_n hC dX4_mouldOrNull_4 rfl ?_
    refine g_aload_n hC dX4_mouldOrNull_5 rfl ?_
    refine g_get hC rfl cO rfl kl_X4 5 (by decide) kf_X4_29 rfl rfl dX4_mouldOrNull_6 ?_
    refine g_icmp_ge (tgt := 21) hC dX4_mouldOrNull_9 (by decide) (fun c9 => ?_) (fun c9 => ?_)
    · refine g_null hC dX4_mouldOrNull_21 ?_
      refine g_areto hR (Or.inl rfl) dX4_mouldOrNull_22 ?_
      clear hR hC hI
      exact pXv
    · exact absurd ⟨Int32.not_lt.mp c1, Int32.not_le.mp c9⟩ hp

set_option maxHeartbeats 4000000 in
set_option maxRecDepth 100000 in
theorem c_X4_sheetOrNull_s (l : Launch) (X : gX) (b0 : Nat) (lo : gL) (L : Nat → Nat → Nat) (K C : rM3) (e0 : gE) (i : Nat) (hi : i < L 2 1) (hn : L 2 1 ≤ 30) : Ct l X b0 lo (enC X lo L K C e0) yX4_sheetOrNull cX4_sheetOrNull 2 (some (FieldType.object "MouldMatcher$Sheet")) (rM 0 0) [.ref (lo 0), .int (nI i)] (pX (.ref (lo (200 + 16 * i))) lo (enC X lo L K C e0)) := by
  refine gMet (by decide) (Nat.le_of_ble_eq_true rfl) rfl ?_
  intro Z hC hI hR
  refine g_iload_n hC dX4_sheetOrNull_0 rfl ?_
  refine g_if_lt (tgt := 21) hC dX4_sheetOrNull_1 (by decide) (fun c1 => absurd c1 (nI_pos (by omega))) (fun c1 => ?_)
  refine g_iload_n hC dX4_sheetOrNull_4 rfl ?_
  refine g_aload_n hC dX4_sheetOrNull_5 rfl ?_
  refine g_get hC rfl cO rfl kl_X4 7 (by decide) kf_X4_38 rfl rfl dX4_sheetOrNull_6 ?_
  refine g_icmp_ge (tgt := 21) hC dX4_sheetOrNull_9 (by decide) (fun c9 => absurd c9 (nI_ge hi (by omega))) (fun c9 => ?_)
  refine g_aload_n hC dX4_sheetOrNull_12 rfl ?_
  refine g_get hC rfl cO rfl kl_X4 6 (by decide) kf_X4_34 rfl rfl dX4_sheetOrNull_13 ?_
  refine g_iload_n hC dX4_sheetOrNull_16 rfl ?_
  refine g_aald (t0 := 2) hC rfl cA3 rfl i rfl (by omega) (by decide) (if_pos hi) dX4_sheetOrNull_17 ?_
  refine g_goto (tgt := 22) hC dX4_sheetOrNull_18 (by decide) ?_
  refine g_areto hR (Or.inr ⟨_, rfl⟩) dX4_sheetOrNull_22 ?_
  clear hR hC hI
  exact pXv

set_option maxHeartbeats 4000000 in
set_option maxRecDepth 100000 in
theorem c_X4_sheetOrNull_n (l : Launch) (X : gX) (b0 : Nat) (lo : gL) (L : Nat → Nat → Nat) (K C : rM3) (e0 : gE) (p : Int32) (hp : ¬ (0 ≤ p ∧ p < nI (L 2 1))) : Ct l X b0 lo (enC X lo L K C e0) yX4_sheetOrNull cX4_sheetOrNull 2 (some (FieldType.object "MouldMatcher$Sheet")) (rM 0 0) [.ref (lo 0), .int p] (pX .null lo (enC X lo L K C e0)) := by
  refine gMet (by decide) (Nat.le_of_ble_eq_true rfl) rfl ?_
  intro Z hC hI hR
  refine g_iload_n hC dX4_sheetOrNull_0 rfl ?_
  refine g_if_lt (tgt := 21) hC dX4_sheetOrNull_1 (by decide) (fun c1 => ?_) (fun c1 => ?_)
  · refine g_null hC dX4_sheetOrNull_21 ?_
    refine g_areto hR (Or.inl rfl) dX4_sheetOrNull_22 ?_
    clear hR hC hI
    exact pXv
  · refine g_iload_n hC dX4_sheetOrNull_4 rfl ?_
    refine g_aload_n hC dX4_sheetOrNull_5 rfl ?_
    refine g_get hC rfl cO rfl kl_X4 7 (by decide) kf_X4_38 rfl rfl dX4_sheetOrNull_6 ?_
    refine g_icmp_ge (tgt := 21) hC dX4_sheetOrNull_9 (by decide) (fun c9 => ?_) (fun c9 => ?_)
    · refine g_null hC dX4_sheetOrNull_21 ?_
      refine g_areto hR (Or.inl rfl) dX4_sheetOrNull_22 ?_
      clear hR hC hI
      exact pXv
    · exact absurd ⟨Int32.not_lt.mp c1, Int32.not_le.mp c9⟩ hp

set_option maxHeartbeats 4000000 in
set_option maxRecDepth 100000 in
theorem c_X4_isMarkInRow (l : Launch) (X : gX) (b0 : Nat) (lo : gL) (L : Nat → Nat → Nat) (K C : rM3) (e0 : gE) (M : rM2) (hM : Iv M) (hs : Sm L K M) (iv x y : Int32) : Ct l X b0 lo (enC X lo L K C e0) yX4_isMarkInRow cX4_isMarkInRow 4 (some FieldType.boolean) (rM 2 44) [.ref (lo 0), .int iv, .int x, .int y] (pX (.int (if isMk M iv x y then 1 else 0)) lo (enC X lo L K C e0)) := by
  refine gMet (by decide) (Nat.le_of_ble_eq_true rfl) rfl ?_
  intro Z hC hI hR
  obtain ⟨hs20, hs21, hs1, hs2, hs3, hsr, -⟩ := hs
  obtain ⟨hr0, hr1⟩ := hM.1
  have hs0 : K 1 0 = M 0 := hsr
  refine g_iload_n hC dX4_isMarkInRow_0 rfl ?_
  refine g_if_lt (tgt := 30) hC dX4_isMarkInRow_1 (by decide) (fun c1 => ?_) (fun c1 => ?_)
  · refine g_iconst (v := 0) hC dX4_isMarkInRow_30 (by decide) ?_
    refine g_ireti hR dX4_isMarkInRow_31 (by decide) ?_
    clear hR hC hI
    refine pXi ?_
    have h0 := congrFun hs0 (nt iv)
    grind [wi]
  · refine g_iload_n hC dX4_isMarkInRow_4 rfl ?_
    refine g_aload_n hC dX4_isMarkInRow_5 rfl ?_
    refine g_get hC rfl cO rfl kl_X4 1 (by decide) kf_X4_13 rfl rfl dX4_isMarkInRow_6 ?_
    refine g_icmp_ge (tgt := 30) hC dX4_isMarkInRow_9 (by decide) (fun c9 => ?_) (fun c9 => ?_)
    · refine g_iconst (v := 0) hC dX4_isMarkInRow_30 (by decide) ?_
      refine g_ireti hR dX4_isMarkInRow_31 (by decide) ?_
      clear hR hC hI
      refine pXi ?_
      have h0 := congrFun hs0 (nt iv)
      grind [wi]
    · refine g_aload_n hC dX4_isMarkInRow_12 rfl ?_
      refine g_get hC rfl cO rfl kl_X4 0 (by decide) kf_X4_9 rfl rfl dX4_isMarkInRow_13 ?_
      refine g_iload_n hC dX4_isMarkInRow_16 rfl ?_
      refine g_iald hC rfl cA1 (nt iv) (nI_nt (Int32.not_lt.mp c1)).symm (nt_lt (n := 10) (show iv < 10 by grind) (Int32.not_lt.mp c1) (by decide)) (by decide) dX4_isMarkInRow_17 ?_
      refine g_iload_n hC dX4_isMarkInRow_18 rfl ?_
      refine g_iload_n hC dX4_isMarkInRow_19 rfl ?_
      refine g_callS hC v_X4_isPosition km_X4_85 (c_X4_isPosition l X b0 lo _ _ _ _) rfl rfl (Nat.le_of_ble_eq_true rfl) ⟨by decide, by decide⟩ ⟨by decide, by decide⟩ dX4_isMarkInRow_20 (kX ?_)
      refine g_if_eq (tgt := 30) hC dX4_isMarkInRow_23 (by decide) (fun c23 => ?_) (fun c23 => ?_)
      · refine g_iconst (v := 0) hC dX4_isMarkInRow_30 (by decide) ?_
        refine g_ireti hR dX4_isMarkInRow_31 (by decide) ?_
        clear hR hC hI
        refine pXi ?_
        have h0 := congrFun hs0 (nt iv)
        grind [wi]
      · refine g_iconst (v := 1) hC dX4_isMarkInRow_26 (by decide) ?_
        refine g_goto (tgt := 31) hC dX4_isMarkInRow_27 (by decide) ?_
        refine g_ireti hR dX4_isMarkInRow_31 (by decide) ?_
        clear hR hC hI
        refine pXi ?_
        have h0 := congrFun hs0 (nt iv)
        grind [wi]

theorem Sm_row {L : Nat → Nat → Nat} {K : rM3} {M : rM2} {v : Int32} (h : Sm L K M) : Sm L (up3 K 0 1 0 v) (up2 M 20 1 v) := by
  obtain ⟨h1, h2, h3, h4, h5, h6, h7, h8⟩ := h
  refine ⟨h1, h2, by simp [up3, up2], by simp [up3, up2]; exact h4, by simp [up3, up2]; exact h5, ?_, ?_, ?_⟩
  · rw [up3_row (by decide), up2_row (by decide)]; exact h6
  · intro i hi
    simp +decide only [up3_row, up2_row]
    exact h7 i hi
  · intro j hj
    simp +decide only [up3_row, up2_row]
    exact h8 j hj
theorem Sm_add {L : Nat → Nat → Nat} {K : rM3} {M : rM2} {k : Nat} {v : Int32} (h : Sm L K M) : Sm L (up3 K 1 0 k v) (up2 M 0 k v) := by
  obtain ⟨h1, h2, h3, h4, h5, h6, h7, h8⟩ := h
  refine ⟨h1, h2, h3, h4, h5, ?_, ?_, ?_⟩
  · rw [up3_self, up2_self, h6]
  · intro i hi
    simp +decide only [up3_row, up2_row]
    exact h7 i hi
  · intro j hj
    simp +decide only [up3_row, up2_row]
    exact h8 j hj
theorem cg_rf {M : rM2} {j i : Nat} : cg M M j i := ⟨rfl, fun _ _ => rfl, rfl, rfl, rfl, rfl, fun _ _ => rfl, rfl, rfl, fun _ _ => ⟨rfl, rfl⟩, rfl, rfl⟩
/-- a write outside what the placements depend on -/
theorem cg_up {M M0 : rM2} {a x j i : Nat} {v : Int32} (h : cg M0 M j i) (ha : a = 0 ∨ a = 12 ∨ a = 13 ∨ (a = 20 ∧ x ≠ 2 ∧ x ≠ 3)) : cg M0 (up2 M a x v) j i := by
  have r : ∀ b, b ≠ 0 → b ≠ 12 → b ≠ 13 → b ≠ 20 → up2 M a x v b = M b := fun b h1 h2 h3 h4 => up2_row (by omega)
  have r20 : ∀ y, y = 2 ∨ y = 3 → up2 M a x v 20 y = M 20 y := fun y hy => by
    unfold up2
    rw [if_neg]
    omega
  unfold cg
  rw [r 7 (by decide) (by decide) (by decide) (by decide), r 8 (by decide) (by decide) (by decide) (by decide), r 9 (by decide) (by decide) (by decide) (by decide), r 10 (by decide) (by decide) (by decide) (by decide), r 11 (by decide) (by decide) (by decide) (by decide), r 1 (by decide) (by decide) (by decide) (by decide), r 2 (by decide) (by decide) (by decide) (by decide), r 3 (by decide) (by decide) (by decide) (by decide), r 4 (by decide) (by decide) (by decide) (by decide), r 5 (by decide) (by decide) (by decide) (by decide), r 6 (by decide) (by decide) (by decide) (by decide), r20 2 (Or.inl rfl), r20 3 (Or.inr rfl)]
  exact h

set_option maxHeartbeats 4000000 in
set_option maxRecDepth 100000 in
theorem c_X4_clearRow (l : Launch) (X : gX) (b0 : Nat) (lo : gL) (L : Nat → Nat → Nat) (K C : rM3) (e0 : gE) (M : rM2) (hM : Iv M) (hs : Sm L K M) (hc : Sc C M)  : Ct l X b0 lo (enC X lo L K C e0) yX4_clearRow cX4_clearRow 2 (some FieldType.int) (rM 0 0) [.ref (lo 0)] (pKl X lo e0 (sp_clearRow M)) := by
  refine gMet (by decide) (Nat.le_of_ble_eq_true rfl) rfl ?_
  intro Z hC hI hR
  refine g_aload_n hC dX4_clearRow_0 rfl ?_
  refine g_get hC rfl cO rfl kl_X4 1 (by decide) kf_X4_13 rfl rfl dX4_clearRow_1 ?_
  refine g_istore_n hC dX4_clearRow_4 (by decide) ?_
  refine g_aload_n hC dX4_clearRow_5 rfl ?_
  refine g_iconst (v := 0) hC dX4_clearRow_6 (by decide) ?_
  refine g_put (ty := .int) hC rfl cO rfl kl_X4 1 (by decide) kf_X4_13 rfl tyX4 tyX4_ok nmX4 rfl (by decide +kernel) rfl rfl (Nat.le_of_ble_eq_true rfl) dX4_clearRow_7 (fun en1 hen1 => ?_)
  replace hen1 := cP0_1 hen1
  obtain ⟨K1, hK1, hen1⟩ := hen1
  subst hen1
  refine g_iload_n hC dX4_clearRow_10 rfl ?_
  refine g_ireti hR dX4_clearRow_11 rfl ?_
  clear hR hC hI
  subst hK1
  refine pKl_i ?_ (Sm_row hs) (hc.keep hM rfl rfl (fun j i _ _ => cg_up cg_rf (by decide)))
  exact hs.2.2.1

set_option maxHeartbeats 4000000 in
set_option maxRecDepth 100000 in
theorem c_X4_addToRow (l : Launch) (X : gX) (b0 : Nat) (lo : gL) (L : Nat → Nat → Nat) (K C : rM3) (e0 : gE) (M : rM2) (hM : Iv M) (hs : Sm L K M) (hc : Sc C M) (v : Int32) : Ct l X b0 lo (enC X lo L K C e0) yX4_addToRow cX4_addToRow 2 (some FieldType.int) (rM 1 22) [.ref (lo 0), .int v] (pKl X lo e0 (sp_addToRow M v)) := by
  refine gMet (by decide) (Nat.le_of_ble_eq_true rfl) rfl ?_
  intro Z hC hI hR
  have h1 := hs.2.2.1
  obtain ⟨⟨hr0, hr1⟩, -⟩ := id hM
  refine g_iload_n hC dX4_addToRow_0 rfl ?_
  refine g_bipush (v := 100) hC dX4_addToRow_1 (by decide) ?_
  refine g_sipush (v := 450) hC dX4_addToRow_3 (by decide) ?_
  refine g_callS hC v_X4_isWithin km_X4_54 (c_X4_isWithin l X b0 lo _ _ _ _) rfl rfl (Nat.le_of_ble_eq_true rfl) ⟨by decide, by decide⟩ ⟨by decide, by decide⟩ dX4_addToRow_6 (kX ?_)
  refine g_if_ne (tgt := 15) hC dX4_addToRow_9 (by decide) (fun c9 => ?_) (fun c9 => ?_)
  · refine g_aload_n hC dX4_addToRow_15 rfl ?_
    refine g_get hC rfl cO rfl kl_X4 1 (by decide) kf_X4_13 rfl rfl dX4_addToRow_16 ?_
    refine g_bipush (v := 10) hC dX4_addToRow_19 (by decide) ?_
    refine g_icmp_lt (tgt := 27) hC dX4_addToRow_21 (by decide) (fun c21 => ?_) (fun c21 => ?_)
    · refine g_aload_n hC dX4_addToRow_27 rfl ?_
      refine g_get hC rfl cO rfl kl_X4 0 (by decide) kf_X4_9 rfl rfl dX4_addToRow_28 ?_
      refine g_aload_n hC dX4_addToRow_31 rfl ?_
      refine g_get hC rfl cO rfl kl_X4 1 (by decide) kf_X4_13 rfl rfl dX4_addToRow_32 ?_
      refine g_iload_n hC dX4_addToRow_35 rfl ?_
      refine g_iast hC rfl cA1 (nt (K 0 1 0)) (nI_nt (by rw [h1]; exact hr0)).symm (nt_lt (n := 10) (show K 0 1 0 < 10 from c21) (by rw [h1]; exact hr0) (by decide)) (by decide) dX4_addToRow_36 (fun en2 hen2 => ?_)
      replace hen2 := cQ1 hen2
      obtain ⟨K2, hK2, hen2⟩ := hen2
      subst hen2
      refine g_aload_n hC dX4_addToRow_37 rfl ?_
      refine g_dup hC dX4_addToRow_38 rfl ?_
      refine g_get hC rfl cO rfl kl_X4 1 (by decide) kf_X4_13 rfl rfl dX4_addToRow_39 ?_
      refine g_iconst (v := 1) hC dX4_addToRow_42 (by decide) ?_
      refine g_iadd hC dX4_addToRow_43 ?_
      refine g_put (ty := .int) hC rfl cO rfl kl_X4 1 (by decide) kf_X4_13 rfl tyX4 tyX4_ok nmX4 rfl (by decide +kernel) rfl rfl (Nat.le_of_ble_eq_true rfl) dX4_addToRow_44 (fun en3 hen3 => ?_)
      replace hen3 := cP0_1 hen3
      obtain ⟨K3, hK3, hen3⟩ := hen3
      subst hen3
      refine g_aload_n hC dX4_addToRow_47 rfl ?_
      refine g_get hC rfl cO rfl kl_X4 1 (by decide) kf_X4_13 rfl rfl dX4_addToRow_48 ?_
      refine g_ireti hR dX4_addToRow_51 rfl ?_
      clear hR hC hI
      subst hK3
      subst hK2
      have hsp : sp_addToRow M v = (M 20 1 + 1, up2 (up2 M 0 (nt (M 20 1)) v) 20 1 (M 20 1 + 1)) := by grind [sp_addToRow, wi]
      rw [hsp]
      have e1 : up3 K 1 0 (nt (K 0 1 0)) v 0 1 0 = M 20 1 := by simp +decide only [up3_row]; exact h1
      refine pKl_i ?_ ?_ (hc.keep hM rfl rfl (fun j i _ _ => cg_up (cg_up cg_rf (Or.inl rfl)) (by decide)))
      · show up3 _ 0 1 0 _ 0 1 0 = _
        rw [up3_self, pk_us, e1]
      · rw [e1, h1]
        exact Sm_row (Sm_add hs)
    · refine g_bipush (v := (-5)) hC dX4_addToRow_24 (by decide) ?_
      refine g_ireti hR dX4_addToRow_26 rfl ?_
      clear hR hC hI
      have hsp : sp_addToRow M v = (-5, M) := by grind [sp_addToRow, wi]
      rw [hsp]
      exact pKl_i rfl hs hc
  · refine g_bipush (v := (-3)) hC dX4_addToRow_12 (by decide) ?_
    refine g_ireti hR dX4_addToRow_14 rfl ?_
    clear hR hC hI
    have hsp : sp_addToRow M v = (-3, M) := by grind [sp_addToRow, wi]
    rw [hsp]
    exact pKl_i rfl hs hc

set_option maxHeartbeats 4000000 in
set_option maxRecDepth 100000 in
theorem c_X4_count (l : Launch) (X : gX) (b0 : Nat) (lo : gL) (L : Nat → Nat → Nat) (K C : rM3) (e0 : gE) (M : rM2) (hM : Iv M) (hs : Sm L K M) (hc : Sc C M) (w : Int32) : Ct l X b0 lo (enC X lo L K C e0) yX4_count cX4_count 2 (some FieldType.int) (rM 0 0) [.ref (lo 0), .int w] (pKl X lo e0 (sp_count M w)) := by
  refine gMet (by decide) (Nat.le_of_ble_eq_true rfl) rfl ?_
  intro Z hC hI hR
  have h1 := hs.2.2.1
  have hn0 : nI (L 2 0) = M 20 4 := by rw [hs.1]; exact (Iv_nM hM).2.symm
  have hn1 : nI (L 2 1) = M 20 11 := by rw [hs.2.1]; exact (Iv_nS hM).2.symm
  have hw : w = 0 ∨ w = 1 ∨ w = 2 ∨ (¬ w = 0 ∧ ¬ w = 1 ∧ ¬ w = 2) := by grind
  refine g_iload_n hC dX4_count_0 rfl ?_
  rcases hw with rfl | rfl | rfl | hw
  · refine g_tableIn (off := 27) (tgt := 28) hC dX4_count_1 (by decide) (by decide) rfl (by decide) ?_
    refine g_aload_n hC dX4_count_28 rfl ?_
    refine g_get hC rfl cO rfl kl_X4 5 (by decide) kf_X4_29 rfl rfl dX4_count_29 ?_
    refine g_ireti hR dX4_count_32 rfl ?_
    clear hR hC hI
    refine pKl_i ?_ hs hc
    grind [sp_count]
  · refine g_tableIn (off := 32) (tgt := 33) hC dX4_count_1 (by decide) (by decide) rfl (by decide) ?_
    refine g_aload_n hC dX4_count_33 rfl ?_
    refine g_get hC rfl cO rfl kl_X4 7 (by decide) kf_X4_38 rfl rfl dX4_count_34 ?_
    refine g_ireti hR dX4_count_37 rfl ?_
    clear hR hC hI
    refine pKl_i ?_ hs hc
    grind [sp_count]
  · refine g_tableIn (off := 37) (tgt := 38) hC dX4_count_1 (by decide) (by decide) rfl (by decide) ?_
    refine g_aload_n hC dX4_count_38 rfl ?_
    refine g_get hC rfl cO rfl kl_X4 1 (by decide) kf_X4_13 rfl rfl dX4_count_39 ?_
    refine g_ireti hR dX4_count_42 rfl ?_
    clear hR hC hI
    refine pKl_i ?_ hs hc
    grind [sp_count]
  · refine g_tableOut (tgt := 43) hC dX4_count_1 (by have a0 := lv_neT (a := 0) hw.1 rfl; have a1 := lv_neT (a := 1) hw.2.1 rfl; have a2 := lv_neT (a := 2) hw.2.2 rfl; omega) (by decide) ?_
    refine g_bipush (v := (-3)) hC dX4_count_43 (by decide) ?_
    refine g_ireti hR dX4_count_45 rfl ?_
    clear hR hC hI
    refine pKl_i ?_ hs hc
    grind [sp_count]
end
section
/-! ===== the class: states, tolerances, dates ===== -/
/-- the known flags of mould i are taken back, all else stays -/
def fgO (C C1 : rM3) (i n : Nat) : Prop := (∀ j, j < n → C1 8 (16 * j + i) 0 = 0) ∧ ∀ b x y, ¬ (b = 8 ∧ y = 0 ∧ ∃ j, j < n ∧ x = 16 * j + i) → C1 b x y = C b x y

set_option maxHeartbeats 4000000 in
set_option maxRecDepth 100000 in
theorem c_X4_forgetMatches (l : Launch) (X : gX) (b0 : Nat) (lo : gL) (L : Nat → Nat → Nat) (K C : rM3) (e0 : gE) (i : Nat) (hi : i < 10) (hS : L 2 1 ≤ 30) : Ct l X b0 lo (enC X lo L K C e0) yX4_forgetMatches cX4_forgetMatches 3 none (rM 0 0) [.ref (lo 0), .int (nI i)] (pV lo (fun en' => ∃ C1 : rM3, en' = enC X lo L K C1 e0 ∧ fgO C C1 i (L 2 1))) := by
  refine gMet (by decide) (Nat.le_of_ble_eq_true rfl) rfl ?_
  intro Z hC hI hR
  refine g_iconst (v := 0) hC dX4_forgetMatches_0 (by decide) ?_
  refine g_istore_n hC dX4_forgetMatches_1 (by decide) ?_
  have lf : ∀ (r : Nat) (j : Nat) (C1 : rM3), j + r = L 2 1 → fgO C C1 i j → GO l X b0 Z 0 0 lo (enC X lo L K C1 e0) 2 [(0, .ref (lo 0)), (1, .int (nI i)), (2, .int (nI j))] [] := by
    intro r
    induction r with
    | zero =>
      intro j C1 hj9 hf
      have hj8 : j = L 2 1 := by omega
      subst hj8
      refine g_iload_n hC dX4_forgetMatches_2 rfl ?_
      refine g_aload_n hC dX4_forgetMatches_3 rfl ?_
      refine g_get hC rfl cO rfl kl_X4 7 (by decide) kf_X4_38 rfl rfl dX4_forgetMatches_4 ?_
      refine g_icmp_ge (tgt := 31) hC dX4_forgetMatches_7 (by decide) (fun c7 => ?_) (fun c7 => absurd (nI_le (by omega) (by omega)) c7)
      refine g_retv hR dX4_forgetMatches_31 ?_
      clear hR hC hI
      exact ⟨rfl, rfl, C1, rfl, hf⟩
    | succ r ihlf =>
      intro j C1 hj9 hf
      have hj1 : j < L 2 1 := by omega
      have hj50 : j < 50 := by omega
      refine g_iload_n hC dX4_forgetMatches_2 rfl ?_
      refine g_aload_n hC dX4_forgetMatches_3 rfl ?_
      refine g_get hC rfl cO rfl kl_X4 7 (by decide) kf_X4_38 rfl rfl dX4_forgetMatches_4 ?_
      refine g_icmp_ge (tgt := 31) hC dX4_forgetMatches_7 (by decide) (fun c7 => absurd c7 (nI_ge (by omega) (by omega))) (fun c7 => ?_)
      refine g_aload_n hC dX4_forgetMatches_10 rfl ?_
      refine g_get hC rfl cO rfl kl_X4 6 (by decide) kf_X4_34 rfl rfl dX4_forgetMatches_11 ?_
      refine g_iload_n hC dX4_forgetMatches_14 rfl ?_
      refine g_aald (t0 := 2) hC rfl cA3 rfl j rfl (by omega) (by decide) (if_pos hj1) dX4_forgetMatches_15 ?_
      refine g_get hC rfl (cS hj1 hj50) rfl kl_X2 6 (by decide) kf_X4_182 rfl rfl dX4_forgetMatches_16 ?_
      refine g_iload_n hC dX4_forgetMatches_19 rfl ?_
      refine g_aald (t0 := 3) hC rfl (cS2 hj1 hj50) rfl i rfl (by omega) (by decide) (if_pos hi) dX4_forgetMatches_20 ?_
      refine g_iconst (v := 0) hC dX4_forgetMatches_21 (by decide) ?_
      refine g_put (ty := .boolean) hC rfl (cT hj1 hj50 hi) rfl kl_X0 0 (by decide) kf_X4_186 rfl tyX0 tyX0_ok nmX0 rfl (by decide +kernel) rfl rfl (Nat.le_of_ble_eq_true rfl) dX4_forgetMatches_22 (fun en4 hen4 => ?_)
      replace hen4 := cPT0 hj1 hj50 hi hen4
      obtain ⟨C4, hC4, hen4⟩ := hen4
      subst hen4
      have hf2 : fgO C C4 i (j + 1) := by
        rw [hC4]
        refine ⟨fun j2 hj2 => ?_, fun b x y hn => ?_⟩
        · by_cases hjj : j2 = j
          · rw [hjj, up3_self, pk_us]
          · rw [up3_row (Or.inr (by omega))]
            exact hf.1 j2 (by omega)
        · have h1 : ¬ (b = 8 ∧ x = 16 * j + i ∧ y = 0) := fun z => hn ⟨z.1, z.2.2, j, by omega, z.2.1⟩
          unfold up3
          rw [if_neg h1]
          exact hf.2 b x y (fun z => hn ⟨z.1, z.2.1, z.2.2.choose, by have := z.2.2.choose_spec.1; omega, z.2.2.choose_spec.2⟩)
      refine g_iinc hC dX4_forgetMatches_25 rfl (nI_inc j) (by decide) ?_
      refine g_goto (tgt := 2) hC dX4_forgetMatches_28 (by decide) ?_
      exact g_lv (lv' := [(0, .ref (lo 0)), (1, .int (nI i)), (2, .int (nI (j + 1)))]) ⟨rfl, rfl, rfl, trivial⟩ (ihlf (j + 1) C4 (by omega) hf2)
  exact g_lv (lv' := [(0, .ref (lo 0)), (1, .int (nI i)), (2, .int (nI 0))]) ⟨rfl, rfl, rfl, trivial⟩ (lf (L 2 1) 0 C (by omega) ⟨fun j h => absurd h (by omega), fun _ _ _ _ => rfl⟩)

theorem Sm_tol {L : Nat → Nat → Nat} {K : rM3} {M : rM2} {a b : Int32} (h : Sm L K M) : Sm L (up3 (up3 K 0 2 0 a) 0 3 0 b) (up2 (up2 M 20 2 a) 20 3 b) := by
  obtain ⟨h1, h2, h3, h4, h5, h6, h7, h8⟩ := h
  refine ⟨h1, h2, by simp [up3, up2]; exact h3, by simp [up3, up2], by simp [up3, up2], ?_, ?_, ?_⟩
  · simp +decide only [up3_row, up2_row]; exact h6
  · intro i hi
    simp +decide only [up3_row, up2_row]
    exact h7 i hi
  · intro j hj
    simp +decide only [up3_row, up2_row]
    exact h8 j hj

set_option maxHeartbeats 4000000 in
set_option maxRecDepth 100000 in
theorem c_X4_setTolerances (l : Launch) (X : gX) (b0 : Nat) (lo : gL) (L : Nat → Nat → Nat) (K C : rM3) (e0 : gE) (M : rM2) (hM : Iv M) (hs : Sm L K M) (hc : Sc C M) (a b : Int32) : Ct l X b0 lo (enC X lo L K C e0) yX4_setTolerances cX4_setTolerances 4 (some FieldType.int) (rM 1 22) [.ref (lo 0), .int a, .int b] (pKl X lo e0 (sp_setTolerances M a b)) := by
  refine gMet (by decide) (Nat.le_of_ble_eq_true rfl) rfl ?_
  intro Z hC hI hR
  have h20 := hs.1
  have h21 := hs.2.1
  have hN := (Iv_nM hM).1
  have hSh := (Iv_nS hM).1
  have h2 := hs.2.2.2.1
  have h3 := hs.2.2.2.2.1
  refine g_iload_n hC dX4_setTolerances_0 rfl ?_
  refine g_iconst (v := 0) hC dX4_setTolerances_1 (by decide) ?_
  refine g_bipush (v := 50) hC dX4_setTolerances_2 (by decide) ?_
  refine g_callS hC v_X4_isWithin km_X4_54 (c_X4_isWithin l X b0 lo _ _ _ _) rfl rfl (Nat.le_of_ble_eq_true rfl) ⟨by decide, by decide⟩ ⟨by decide, by decide⟩ dX4_setTolerances_4 (kX ?_)
  refine g_if_eq (tgt := 20) hC dX4_setTolerances_7 (by decide) (fun c7 => ?_) (fun c7 => ?_)
  · refine g_bipush (v := (-3)) hC dX4_setTolerances_20 (by decide) ?_
    refine g_ireti hR dX4_setTolerances_22 rfl ?_
    clear hR hC hI
    have hsp : sp_setTolerances M a b = (-3, M) := by grind [sp_setTolerances, wi]
    rw [hsp]
    exact pKl_i rfl hs hc
  · refine g_iload_n hC dX4_setTolerances_10 rfl ?_
    refine g_iconst (v := 0) hC dX4_setTolerances_11 (by decide) ?_
    refine g_bipush (v := 100) hC dX4_setTolerances_12 (by decide) ?_
    refine g_callS hC v_X4_isWithin km_X4_54 (c_X4_isWithin l X b0 lo _ _ _ _) rfl rfl (Nat.le_of_ble_eq_true rfl) ⟨by decide, by decide⟩ ⟨by decide, by decide⟩ dX4_setTolerances_14 (kX ?_)
    refine g_if_ne (tgt := 23) hC dX4_setTolerances_17 (by decide) (fun c17 => ?_) (fun c17 => ?_)
    · refine g_aload_n hC dX4_setTolerances_23 rfl ?_
      refine g_get hC rfl cO rfl kl_X4 2 (by decide) kf_X4_17 rfl rfl dX4_setTolerances_24 ?_
      refine g_iload_n hC dX4_setTolerances_27 rfl ?_
      refine g_icmp_ne (tgt := 41) hC dX4_setTolerances_28 (by decide) (fun c28 => ?_) (fun c28 => ?_)
      · refine g_aload_n hC dX4_setTolerances_41 rfl ?_
        refine g_iload_n hC dX4_setTolerances_42 rfl ?_
        refine g_put (ty := .int) hC rfl cO rfl kl_X4 2 (by decide) kf_X4_17 rfl tyX4 tyX4_ok nmX4 rfl (by decide +kernel) rfl rfl (Nat.le_of_ble_eq_true rfl) dX4_setTolerances_43 (fun en5 hen5 => ?_)
        replace hen5 := cP0_2 hen5
        obtain ⟨K5, hK5, hen5⟩ := hen5
        subst hen5
        refine g_aload_n hC dX4_setTolerances_46 rfl ?_
        refine g_iload_n hC dX4_setTolerances_47 rfl ?_
        refine g_put (ty := .int) hC rfl cO rfl kl_X4 3 (by decide) kf_X4_20 rfl tyX4 tyX4_ok nmX4 rfl (by decide +kernel) rfl rfl (Nat.le_of_ble_eq_true rfl) dX4_setTolerances_48 (fun en6 hen6 => ?_)
        replace hen6 := cP0_3 hen6
        obtain ⟨K6, hK6, hen6⟩ := hen6
        subst hen6
        refine g_iconst (v := 0) hC dX4_setTolerances_51 (by decide) ?_
        refine g_istore_n hC dX4_setTolerances_52 (by decide) ?_
        have hKT : K6 = up3 (up3 K 0 2 0 a) 0 3 0 b := by rw [hK6, hK5]
        generalize K6 = KT at hKT ⊢
        have lt : ∀ (r : Nat) (i : Nat) (C1 : rM3), i + r = L 2 0 → (∀ j x, j < L 2 1 → x < 10 → (x < i ∨ L 2 0 ≤ x) → C1 8 (16 * j + x) 0 = 0) → GO l X b0 Z 0 0 lo (enC X lo L KT C1 e0) 53 [(0, .ref (lo 0)), (1, .int a), (2, .int b), (3, .int (nI i))] [] := by
          intro r
          induction r with
          | zero =>
            intro i C1 hi9 hz
            have hi8 : i = L 2 0 := by omega
            subst hi8
            refine g_iload_n hC dX4_setTolerances_53 rfl ?_
            refine g_aload_n hC dX4_setTolerances_54 rfl ?_
            refine g_get hC rfl cO rfl kl_X4 5 (by decide) kf_X4_29 rfl rfl dX4_setTolerances_55 ?_
            refine g_icmp_ge (tgt := 72) hC dX4_setTolerances_58 (by decide) (fun c58 => ?_) (fun c58 => absurd (nI_le (by omega) (by omega)) c58)
            refine g_iconst (v := 1) hC dX4_setTolerances_72 (by decide) ?_
            refine g_ireti hR dX4_setTolerances_73 rfl ?_
            clear hR hC hI
            have hsp : sp_setTolerances M a b = (1, up2 (up2 M 20 2 a) 20 3 b) := by grind [sp_setTolerances, wi]
            rw [hsp]
            refine pKl_i rfl (by rw [hKT]; exact Sm_tol hs) (fun j x hj hx => Or.inl (hz j x ?_ hx ?_))
            · have hj2 : j < nSh M := hj
              omega
            · omega
          | succ r ihlt =>
            intro i C1 hi9 hz
            refine g_iload_n hC dX4_setTolerances_53 rfl ?_
            refine g_aload_n hC dX4_setTolerances_54 rfl ?_
            refine g_get hC rfl cO rfl kl_X4 5 (by decide) kf_X4_29 rfl rfl dX4_setTolerances_55 ?_
            refine g_icmp_ge (tgt := 72) hC dX4_setTolerances_58 (by decide) (fun c58 => absurd c58 (nI_ge (by omega) (by omega))) (fun c58 => ?_)
            refine g_aload_n hC dX4_setTolerances_61 rfl ?_
            refine g_iload_n hC dX4_setTolerances_62 rfl ?_
            refine g_callV hC v_X4_forgetMatches km_X4_58 (c_X4_forgetMatches l X b0 lo L _ _ e0 i (by omega) (by omega)) rfl cO rfl rfl rfl rfl (Nat.le_of_ble_eq_true rfl) ⟨by decide, by decide⟩ ⟨by decide, by decide⟩ dX4_setTolerances_63 (kV ?_)
            rintro en' ⟨C9, rfl, hf9⟩
            have hz2 : ∀ j x, j < L 2 1 → x < 10 → (x < i + 1 ∨ L 2 0 ≤ x) → C9 8 (16 * j + x) 0 = 0 := by
              intro j x hj hx hxx
              by_cases hxi : x = i
              · rw [hxi]; exact hf9.1 j hj
              · rw [hf9.2 8 (16 * j + x) 0 (fun z => by obtain ⟨-, -, j2, h1, h2⟩ := z; omega)]
                exact hz j x hj hx (by omega)
            refine g_iinc hC dX4_setTolerances_66 rfl (nI_inc i) (by decide) ?_
            refine g_goto (tgt := 53) hC dX4_setTolerances_69 (by decide) ?_
            exact g_lv (lv' := [(0, .ref (lo 0)), (1, .int a), (2, .int b), (3, .int (nI (i + 1)))]) ⟨rfl, rfl, rfl, rfl, trivial⟩ (ihlt (i + 1) C9 (by omega) hz2)
        exact g_lv (lv' := [(0, .ref (lo 0)), (1, .int a), (2, .int b), (3, .int (nI 0))]) ⟨rfl, rfl, rfl, rfl, trivial⟩ (lt (L 2 0) 0 C (by omega) (fun j x hj hx hxx => (hc j x (by omega) hx).elim id (fun z => absurd z.2.1 (by omega))))
      · refine g_aload_n hC dX4_setTolerances_31 rfl ?_
        refine g_get hC rfl cO rfl kl_X4 3 (by decide) kf_X4_20 rfl rfl dX4_setTolerances_32 ?_
        refine g_iload_n hC dX4_setTolerances_35 rfl ?_
        refine g_icmp_ne (tgt := 41) hC dX4_setTolerances_36 (by decide) (fun c36 => ?_) (fun c36 => ?_)
        · refine g_aload_n hC dX4_setTolerances_41 rfl ?_
          refine g_iload_n hC dX4_setTolerances_42 rfl ?_
          refine g_put (ty := .int) hC rfl cO rfl kl_X4 2 (by decide) kf_X4_17 rfl tyX4 tyX4_ok nmX4 rfl (by decide +kernel) rfl rfl (Nat.le_of_ble_eq_true rfl) dX4_setTolerances_43 (fun en7 hen7 => ?_)
          replace hen7 := cP0_2 hen7
          obtain ⟨K7, hK7, hen7⟩ := hen7
          subst hen7
          refine g_aload_n hC dX4_setTolerances_46 rfl ?_
          refine g_iload_n hC dX4_setTolerances_47 rfl ?_
          refine g_put (ty := .int) hC rfl cO rfl kl_X4 3 (by decide) kf_X4_20 rfl tyX4 tyX4_ok nmX4 rfl (by decide +kernel) rfl rfl (Nat.le_of_ble_eq_true rfl) dX4_setTolerances_48 (fun en8 hen8 => ?_)
          replace hen8 := cP0_3 hen8
          obtain ⟨K8, hK8, hen8⟩ := hen8
          subst hen8
          refine g_iconst (v := 0) hC dX4_setTolerances_51 (by decide) ?_
          refine g_istore_n hC dX4_setTolerances_52 (by decide) ?_
          have hKT : K8 = up3 (up3 K 0 2 0 a) 0 3 0 b := by rw [hK8, hK7]
          generalize K8 = KT at hKT ⊢
          have lt : ∀ (r : Nat) (i : Nat) (C1 : rM3), i + r = L 2 0 → (∀ j x, j < L 2 1 → x < 10 → (x < i ∨ L 2 0 ≤ x) → C1 8 (16 * j + x) 0 = 0) → GO l X b0 Z 0 0 lo (enC X lo L KT C1 e0) 53 [(0, .ref (lo 0)), (1, .int a), (2, .int b), (3, .int (nI i))] [] := by
            intro r
            induction r with
            | zero =>
              intro i C1 hi9 hz
              have hi8 : i = L 2 0 := by omega
              subst hi8
              refine g_iload_n hC dX4_setTolerances_53 rfl ?_
              refine g_aload_n hC dX4_setTolerances_54 rfl ?_
              refine g_get hC rfl cO rfl kl_X4 5 (by decide) kf_X4_29 rfl rfl dX4_setTolerances_55 ?_
              refine g_icmp_ge (tgt := 72) hC dX4_setTolerances_58 (by decide) (fun c58 => ?_) (fun c58 => absurd (nI_le (by omega) (by omega)) c58)
              refine g_iconst (v := 1) hC dX4_setTolerances_72 (by decide) ?_
              refine g_ireti hR dX4_setTolerances_73 rfl ?_
              clear hR hC hI
              have hsp : sp_setTolerances M a b = (1, up2 (up2 M 20 2 a) 20 3 b) := by grind [sp_setTolerances, wi]
              rw [hsp]
              refine pKl_i rfl (by rw [hKT]; exact Sm_tol hs) (fun j x hj hx => Or.inl (hz j x ?_ hx ?_))
              · have hj2 : j < nSh M := hj
                omega
              · omega
            | succ r ihlt =>
              intro i C1 hi9 hz
              refine g_iload_n hC dX4_setTolerances_53 rfl ?_
              refine g_aload_n hC dX4_setTolerances_54 rfl ?_
              refine g_get hC rfl cO rfl kl_X4 5 (by decide) kf_X4_29 rfl rfl dX4_setTolerances_55 ?_
              refine g_icmp_ge (tgt := 72) hC dX4_setTolerances_58 (by decide) (fun c58 => absurd c58 (nI_ge (by omega) (by omega))) (fun c58 => ?_)
              refine g_aload_n hC dX4_setTolerances_61 rfl ?_
              refine g_iload_n hC dX4_setTolerances_62 rfl ?_
              refine g_callV hC v_X4_forgetMatches km_X4_58 (c_X4_forgetMatches l X b0 lo L _ _ e0 i (by omega) (by omega)) rfl cO rfl rfl rfl rfl (Nat.le_of_ble_eq_true rfl) ⟨by decide, by decide⟩ ⟨by decide, by decide⟩ dX4_setTolerances_63 (kV ?_)
              rintro en' ⟨C9, rfl, hf9⟩
              have hz2 : ∀ j x, j < L 2 1 → x < 10 → (x < i + 1 ∨ L 2 0 ≤ x) → C9 8 (16 * j + x) 0 = 0 := by
                intro j x hj hx hxx
                by_cases hxi : x = i
                · rw [hxi]; exact hf9.1 j hj
                · rw [hf9.2 8 (16 * j + x) 0 (fun z => by obtain ⟨-, -, j2, h1, h2⟩ := z; omega)]
                  exact hz j x hj hx (by omega)
              refine g_iinc hC dX4_setTolerances_66 rfl (nI_inc i) (by decide) ?_
              refine g_goto (tgt := 53) hC dX4_setTolerances_69 (by decide) ?_
              exact g_lv (lv' := [(0, .ref (lo 0)), (1, .int a), (2, .int b), (3, .int (nI (i + 1)))]) ⟨rfl, rfl, rfl, rfl, trivial⟩ (ihlt (i + 1) C9 (by omega) hz2)
          exact g_lv (lv' := [(0, .ref (lo 0)), (1, .int a), (2, .int b), (3, .int (nI 0))]) ⟨rfl, rfl, rfl, rfl, trivial⟩ (lt (L 2 0) 0 C (by omega) (fun j x hj hx hxx => (hc j x (by omega) hx).elim id (fun z => absurd z.2.1 (by omega))))
        · refine g_iconst (v := 0) hC dX4_setTolerances_39 (by decide) ?_
          refine g_ireti hR dX4_setTolerances_40 rfl ?_
          clear hR hC hI
          have hab : a = M 20 2 ∧ b = M 20 3 := by grind
          have hsp : sp_setTolerances M a b = (0, up2 (up2 M 20 2 a) 20 3 b) := by grind [sp_setTolerances, wi]
          have hsm : up2 (up2 M 20 2 a) 20 3 b = M := by
            rw [up2_same (v := a) hab.1, up2_same hab.2]
          rw [hsp, hsm]
          exact pKl_i rfl hs hc
    · refine g_bipush (v := (-3)) hC dX4_setTolerances_20 (by decide) ?_
      refine g_ireti hR dX4_setTolerances_22 rfl ?_
      clear hR hC hI
      have hsp : sp_setTolerances M a b = (-3, M) := by grind [sp_setTolerances, wi]
      rw [hsp]
      exact pKl_i rfl hs hc
end
section
/-! ===== the class: states, dates ===== -/
theorem up3_tag {K : rM3} {a b x i j : Nat} {v : Int32} (h : b ≠ a) : up3 K a i j v b x = K b x := up3_row (Or.inl h)
set_option maxHeartbeats 4000000 in
set_option maxRecDepth 100000 in
theorem c_X1_append (l : Launch) (X : gX) (b0 : Nat) (lo : gL) (en : gE) (k k2 k3 q : Nat) (v0 v1 v2 : Value) (f2 f3 : Nat → Int32) (h0 : en k = some (.inr (1, [v0, v1, v2, .ref (lo k2), .ref (lo k3), .int (nI q)]))) (h2 : en k2 = some (.inl (X.2 0, 6, .inl f2))) (h3 : en k3 = some (.inl (X.2 0, 6, .inl f3))) (n1 : k ≠ k2) (n2 : k ≠ k3) (n3 : k2 ≠ k3) (hq : q < 6) (x y : Int32) : Ct l X b0 lo (en) yX1_append cX1_append 3 none (rM 0 0) [.ref (lo k), .int x, .int y] (pV lo (fun en' => en' = eup (eup (eup en k2 (.inl (X.2 0, 6, .inl (upd f2 q x)))) k3 (.inl (X.2 0, 6, .inl (upd f3 q y)))) k (.inr (1, [v0, v1, v2, .ref (lo k2), .ref (lo k3), .int (nI q + 1)])))) := by
  refine gMet (by decide) (Nat.le_of_ble_eq_true rfl) rfl ?_
  intro Z hC hI hR
  refine g_aload_n hC dX1_append_0 rfl ?_
  refine g_get hC rfl h0 rfl kl_X1 5 (by decide) kf_X1_18 rfl rfl dX1_append_1 ?_
  refine g_bipush (v := 6) hC dX1_append_4 (by decide) ?_
  refine g_icmp_ge (tgt := 39) hC dX1_append_6 (by decide) (fun c6 => absurd c6 (nI_ge (b := 6) hq (by decide))) (fun c6 => ?_)
  refine g_aload_n hC dX1_append_9 rfl ?_
  refine g_get hC rfl h0 rfl kl_X1 3 (by decide) kf_X1_9 rfl rfl dX1_append_10 ?_
  refine g_aload_n hC dX1_append_13 rfl ?_
  refine g_get hC rfl h0 rfl kl_X1 5 (by decide) kf_X1_18 rfl rfl dX1_append_14 ?_
  refine g_iload_n hC dX1_append_17 rfl ?_
  refine g_iast hC rfl h2 q rfl hq (by decide) dX1_append_18 (fun en9 hen9 => ?_)
  have h0 := (congrFun hen9 (k)).trans ((eup_ne (by omega)).trans h0)
  have h2 := (congrFun hen9 (k2)).trans eup_eq
  have h3 := (congrFun hen9 (k3)).trans ((eup_ne (by omega)).trans h3)
  refine g_aload_n hC dX1_append_19 rfl ?_
  refine g_get hC rfl h0 rfl kl_X1 4 (by decide) kf_X1_15 rfl rfl dX1_append_20 ?_
  refine g_aload_n hC dX1_append_23 rfl ?_
  refine g_get hC rfl h0 rfl kl_X1 5 (by decide) kf_X1_18 rfl rfl dX1_append_24 ?_
  refine g_iload_n hC dX1_append_27 rfl ?_
  refine g_iast hC rfl h3 q rfl hq (by decide) dX1_append_28 (fun en10 hen10 => ?_)
  have h0 := (congrFun hen10 (k)).trans ((eup_ne (by omega)).trans h0)
  have h2 := (congrFun hen10 (k2)).trans ((eup_ne (by omega)).trans h2)
  have h3 := (congrFun hen10 (k3)).trans eup_eq
  refine g_aload_n hC dX1_append_29 rfl ?_
  refine g_dup hC dX1_append_30 rfl ?_
  refine g_get hC rfl h0 rfl kl_X1 5 (by decide) kf_X1_18 rfl rfl dX1_append_31 ?_
  refine g_iconst (v := 1) hC dX1_append_34 (by decide) ?_
  refine g_iadd hC dX1_append_35 ?_
  refine g_put (ty := .int) hC rfl h0 rfl kl_X1 5 (by decide) kf_X1_18 rfl tyX1 tyX1_ok nmX1 rfl (by decide +kernel) rfl rfl (Nat.le_of_ble_eq_true rfl) dX1_append_36 (fun en11 hen11 => ?_)
  have h0 := (congrFun hen11 (k)).trans eup_eq
  have h2 := (congrFun hen11 (k2)).trans ((eup_ne (by omega)).trans h2)
  have h3 := (congrFun hen11 (k3)).trans ((eup_ne (by omega)).trans h3)
  refine g_retv hR dX1_append_39 ?_
  clear hR hC hI
  exact ⟨rfl, rfl, by rw [hen11, hen10, hen9]; rfl⟩

theorem ps_en {X : gX} {lo : gL} {L : Nat → Nat → Nat} {K C : rM3} {e0 en1 : gE} {i q : Nat} {x y v : Int32} (hi : i < L 2 0) (h25 : i < 25) (h : en1 = eup (eup (eup (enC X lo L K C e0) (102 + 4 * i) (.inl (X.2 0, 6, .inl (upd (K 4 i) q x)))) (103 + 4 * i) (.inl (X.2 0, 6, .inl (upd (K 5 i) q y)))) (100 + 4 * i) (.inr (1, [.ref (lo (101 + 4 * i)), .int (K 2 i 1), .int (K 2 i 2), .ref (lo (102 + 4 * i)), .ref (lo (103 + 4 * i)), .int v]))) : en1 = enC X lo L (up3 (up3 (up3 K 4 i q x) 5 i q y) 2 i 5 v) C e0 := by
  obtain ⟨K1, e1, h1⟩ := cQM2 (X := X) (lo := lo) (L := L) (K := K) (C := C) (e0 := e0) (j := q) (v := x) hi h25 rfl
  rw [h1] at h
  have e5 : K1 5 i = K 5 i := by rw [e1]; exact up3_row (Or.inl (by decide))
  rw [← e5] at h
  obtain ⟨K2, e2, h2⟩ := cQM3 (X := X) (lo := lo) (L := L) (K := K1) (C := C) (e0 := e0) (j := q) (v := y) hi h25 rfl
  rw [h2] at h
  have e6 : K2 2 i = K 2 i := by rw [e2, e1]; simp +decide only [up3_tag]
  have e7 : [Value.ref (lo (101 + 4 * i)), .int (K 2 i 1), .int (K 2 i 2), .ref (lo (102 + 4 * i)), .ref (lo (103 + 4 * i)), .int v] = (oM lo K2 i).set 5 (.int v) := by
    unfold oM
    rw [e6]
    rfl
  rw [e7] at h
  obtain ⟨K3, e3, h3⟩ := cPM5 hi h25 h
  rw [h3, e3, e2, e1]
theorem Sm_ps {L : Nat → Nat → Nat} {K : rM3} {M : rM2} {i q : Nat} {x y : Int32} (hM : Iv M) (h : Sm L K M) (hi : i < nMo M) (hq : q < 6) (eq : M 4 i = nI q) : Sm L (up3 (up3 (up3 K 4 i q x) 5 i q y) 2 i 5 (nI q + 1)) (psM M i x y) := by
  have hq2 : nt (M 4 i) = q := by rw [eq]; exact nt_nI (by omega)
  obtain ⟨h1, h2, h3, h4, h5, h6, h7, h8⟩ := h
  have e20 : psM M i x y 20 = M 20 := by unfold psM; simp +decide only [up2_row]
  have er : ∀ b, b ≠ 4 → b ≠ 5 → b ≠ 6 → psM M i x y b = M b := fun b b1 b2 b3 => by unfold psM; rw [up2_row b1, up2_row b3, up2_row b2]
  refine ⟨?_, ?_, ?_, ?_, ?_, ?_, ?_, ?_⟩
  · unfold nMo; rw [e20]; exact h1
  · unfold nSh; rw [e20]; exact h2
  · rw [e20]; simp +decide only [up3_tag]; exact h3
  · rw [e20]; simp +decide only [up3_tag]; exact h4
  · rw [e20]; simp +decide only [up3_tag]; exact h5
  · rw [er 0 (by decide) (by decide) (by decide)]; simp +decide only [up3_tag]; exact h6
  · intro i2 hi2
    have hi3 : i2 < nMo M := by unfold nMo at hi2 ⊢; rw [e20] at hi2; exact hi2
    obtain ⟨g1, g2, g3, g4, g5, g6⟩ := h7 i2 hi3
    obtain ⟨n, hn1, hn6, en, en2⟩ := Iv_st hM hi3
    rw [er 1 (by decide) (by decide) (by decide), er 2 (by decide) (by decide) (by decide), er 3 (by decide) (by decide) (by decide)]
    by_cases hii : i2 = i
    · subst hii
      have e4 : psM M i2 x y 4 i2 = nI (q + 1) := by unfold psM; rw [up2_self, pk_us, eq]; exact nI_1 q
      refine ⟨g1, ?_, ?_, ?_, ?_, ?_⟩
      · rw [show up3 (up3 (up3 K 4 i2 q x) 5 i2 q y) 2 i2 5 (nI q + 1) 2 i2 1 = K 2 i2 1 by simp [up3]]; exact g2
      · rw [show up3 (up3 (up3 K 4 i2 q x) 5 i2 q y) 2 i2 5 (nI q + 1) 2 i2 2 = K 2 i2 2 by simp [up3]]; exact g3
      · rw [e4, up3_self, pk_us, nI_1]
      · simp +decide only [up3_tag]; exact g5
      · intro k hk
        rw [e4, nt_nI (by omega)] at hk
        have e5 : psM M i2 x y 5 (6 * i2 + k) = if k = q then x else M 5 (6 * i2 + k) := by
          unfold psM; rw [hq2]; simp +decide only [up2_row]
          unfold up2
          by_cases hkq : k = q
          · simp [hkq]
          · rw [if_neg (by omega), if_neg hkq]
        have e6 : psM M i2 x y 6 (6 * i2 + k) = if k = q then y else M 6 (6 * i2 + k) := by
          unfold psM; rw [hq2]; simp +decide only [up2_row]
          unfold up2
          by_cases hkq : k = q
          · simp [hkq]
          · rw [if_neg (by omega), if_neg (by omega), if_neg hkq]
        have k4 : up3 (up3 (up3 K 4 i2 q x) 5 i2 q y) 2 i2 5 (nI q + 1) 4 i2 k = if k = q then x else K 4 i2 k := by
          simp +decide only [up3_tag, up3_self]
          by_cases hkq : k = q
          · rw [hkq, pk_us, if_pos rfl]
          · rw [pk_un hkq, if_neg hkq]
        have k5 : up3 (up3 (up3 K 4 i2 q x) 5 i2 q y) 2 i2 5 (nI q + 1) 5 i2 k = if k = q then y else K 5 i2 k := by
          simp +decide only [up3_tag, up3_self]
          by_cases hkq : k = q
          · rw [hkq, pk_us, if_pos rfl]
          · rw [pk_un hkq, if_neg hkq]
        rw [e5, e6, k4, k5]
        by_cases hkq : k = q
        · simp [hkq]
        · rw [if_neg hkq, if_neg hkq, if_neg hkq, if_neg hkq]
          exact g6 k (by omega)
    · have r : ∀ b, up3 (up3 (up3 K 4 i q x) 5 i q y) 2 i 5 (nI q + 1) b i2 = K b i2 := fun b => by rw [up3_row (Or.inr hii), up3_row (Or.inr hii), up3_row (Or.inr hii)]
      have e4 : psM M i x y 4 i2 = M 4 i2 := by unfold psM; rw [up2_self, pk_un hii]; simp +decide only [up2_row]
      rw [r, r, r, r, e4]
      refine ⟨g1, g2, g3, g4, g5, ?_⟩
      intro k hk
      have e5 : psM M i x y 5 (6 * i2 + k) = M 5 (6 * i2 + k) := by
        unfold psM; rw [hq2]; simp +decide only [up2_row]
        unfold up2; rw [if_neg (by omega)]
      have e6 : psM M i x y 6 (6 * i2 + k) = M 6 (6 * i2 + k) := by
        unfold psM; rw [hq2]; simp +decide only [up2_row]
        unfold up2; rw [if_neg (by omega), if_neg (by omega)]
      rw [e5, e6]
      exact g6 k hk
  · intro j hj
    have hj3 : j < nSh M := by unfold nSh at hj ⊢; rw [e20] at hj; exact hj
    rw [er 7 (by decide) (by decide) (by decide), er 8 (by decide) (by decide) (by decide), er 9 (by decide) (by decide) (by decide), er 10 (by decide) (by decide) (by decide), er 11 (by decide) (by decide) (by decide), er 12 (by decide) (by decide) (by decide), er 13 (by decide) (by decide) (by decide)]
    simp +decide only [up3_tag]
    exact h8 j hj3
theorem cg_ps {M : rM2} (hM : Iv M) {i q : Nat} {x y : Int32} (hq : q < 6) (eq : M 4 i = nI q) {j i2 : Nat} (hi2 : i2 < nMo M) (hii : i2 ≠ i) : cg M (psM M i x y) j i2 := by
  have hq2 : nt (M 4 i) = q := by rw [eq]; exact nt_nI (by omega)
  obtain ⟨n, hn1, hn6, en, en2⟩ := Iv_st hM hi2
  have er : ∀ b, b ≠ 4 → b ≠ 5 → b ≠ 6 → psM M i x y b = M b := fun b b1 b2 b3 => by unfold psM; rw [up2_row b1, up2_row b3, up2_row b2]
  unfold cg
  rw [er 7 (by decide) (by decide) (by decide), er 8 (by decide) (by decide) (by decide), er 9 (by decide) (by decide) (by decide), er 10 (by decide) (by decide) (by decide), er 11 (by decide) (by decide) (by decide), er 1 (by decide) (by decide) (by decide), er 2 (by decide) (by decide) (by decide), er 3 (by decide) (by decide) (by decide), er 20 (by decide) (by decide) (by decide)]
  refine ⟨rfl, fun _ _ => rfl, rfl, rfl, rfl, rfl, fun _ _ => rfl, rfl, ?_, ?_, rfl, rfl⟩
  · unfold psM; rw [up2_self, pk_un hii]; simp +decide only [up2_row]
  · intro k hk
    constructor
    · unfold psM; rw [hq2]; simp +decide only [up2_row]
      unfold up2; rw [if_neg (by omega)]
    · unfold psM; rw [hq2]; simp +decide only [up2_row]
      unfold up2; rw [if_neg (by omega), if_neg (by omega)]
/-- behind a change of mould i whose matches were forgotten -/
theorem Sc_fg {C C1 : rM3} {M M' : rM2} {i : Nat} (hM : Iv M) (h : Sc C M) (hf : fgO C C1 i (nSh M)) (hi10 : i < 10) (hn : nMo M' = nMo M) (hs : nSh M' = nSh M) (hc : ∀ j i2, j < nSh M → i2 < nMo M → i2 ≠ i → cg M M' j i2) : Sc C1 M' := by
  intro j i2 hj hi2
  rw [hs] at hj
  by_cases hii : i2 = i
  · rw [hii]; exact Or.inl (hf.1 j hj)
  · have e : ∀ y, C1 8 (16 * j + i2) y = C 8 (16 * j + i2) y := fun y => hf.2 8 _ y (fun z => by obtain ⟨-, -, j2, h1, h2⟩ := z; omega)
    rcases h j i2 hj hi2 with h0 | ⟨h1, h2, h3⟩
    · exact Or.inl ((e 0).trans h0)
    · refine Or.inr ⟨(e 0).trans h1, by rw [hn]; exact h2, ?_⟩
      rw [fb_cg hM hj h2 (hc j i2 hj h2 hii)]
      unfold mtB at h3 ⊢
      rw [e 1, e 2, e 3, e 4, e 5, e 6]
      exact h3

set_option maxHeartbeats 4000000 in
set_option maxRecDepth 100000 in
theorem c_X4_stateCount (l : Launch) (X : gX) (b0 : Nat) (lo : gL) (L : Nat → Nat → Nat) (K C : rM3) (e0 : gE) (M : rM2) (hM : Iv M) (hs : Sm L K M) (hc : Sc C M) (p : Int32) : Ct l X b0 lo (enC X lo L K C e0) yX4_stateCount cX4_stateCount 3 (some FieldType.int) (rM 1 21) [.ref (lo 0), .int p] (pKl X lo e0 (sp_stateCount M p)) := by
  refine gMet (by decide) (Nat.le_of_ble_eq_true rfl) rfl ?_
  intro Z hC hI hR
  rcases Classical.em (isMo M p) with hp | hp
  · obtain ⟨i, hi10, rfl, hin, -⟩ := moOf hM hp
    have ei : nt (nI i) = i := nt_nI (by omega)
    have hi1 : i < L 2 0 := by rw [hs.1]; exact hin
    have h25 : i < 25 := by omega
    have hN : L 2 0 ≤ 10 := by rw [hs.1]; exact (Iv_nM hM).1
    have hSS : L 2 1 ≤ 30 := by rw [hs.2.1]; exact (Iv_nS hM).1
    obtain ⟨g1, g2, g3, g4, g5, g6⟩ := hs.mo hin
    have hMi := hM.2.2.2.2.2.2.1 i hin
    refine g_aload_n hC dX4_stateCount_0 rfl ?_
    refine g_iload_n hC dX4_stateCount_1 rfl ?_
    refine g_callV hC v_X4_mouldOrNull km_X4_78 (c_X4_mouldOrNull_s l X b0 lo L _ _ e0 i hi1 hN) rfl cO rfl rfl rfl rfl (Nat.le_of_ble_eq_true rfl) ⟨by decide, by decide⟩ ⟨by decide, by decide⟩ dX4_stateCount_2 (kX ?_)
    refine g_astore_n hC dX4_stateCount_5 (by decide) ?_
    refine g_aload_n hC dX4_stateCount_6 rfl ?_
    refine g_ifnonnull (tgt := 14) hC dX4_stateCount_7 (by decide) ?_
    refine g_aload_n hC dX4_stateCount_14 rfl ?_
    refine g_get hC rfl (cM hi1 h25) rfl kl_X1 5 (by decide) kf_X4_88 rfl rfl dX4_stateCount_15 ?_
    refine g_ireti hR dX4_stateCount_18 rfl ?_
    clear hR hC hI
    have hsp : sp_stateCount M (nI i) = (M 4 i, M) := by grind [sp_stateCount]
    rw [hsp]
    exact pKl_i g4 hs hc
  · have hpn : ¬ (0 ≤ p ∧ p < nI (L 2 0)) := fun z => hp ⟨z.1, by have h2 := z.2; rw [hs.1, ← (Iv_nM hM).2] at h2; have := hM.2.2.2.1; grind⟩
    refine g_aload_n hC dX4_stateCount_0 rfl ?_
    refine g_iload_n hC dX4_stateCount_1 rfl ?_
    refine g_callV hC v_X4_mouldOrNull km_X4_78 (c_X4_mouldOrNull_n l X b0 lo L _ _ e0 p hpn) rfl cO rfl rfl rfl rfl (Nat.le_of_ble_eq_true rfl) ⟨by decide, by decide⟩ ⟨by decide, by decide⟩ dX4_stateCount_2 (kX ?_)
    refine g_astore_nN hC dX4_stateCount_5 (by decide) ?_
    refine g_aload_nN hC dX4_stateCount_6 rfl ?_
    refine g_ifnonnullN hC dX4_stateCount_7 ?_
    refine g_iconst (v := (-1)) hC dX4_stateCount_10 (by decide) ?_
    refine g_goto (tgt := 18) hC dX4_stateCount_11 (by decide) ?_
    refine g_ireti hR dX4_stateCount_18 rfl ?_
    clear hR hC hI
    have hsp : sp_stateCount M p = (-1, M) := by grind [sp_stateCount]
    rw [hsp]
    exact pKl_i rfl hs hc

set_option maxHeartbeats 4000000 in
set_option maxRecDepth 100000 in
theorem c_X4_addState (l : Launch) (X : gX) (b0 : Nat) (lo : gL) (L : Nat → Nat → Nat) (K C : rM3) (e0 : gE) (M : rM2) (hM : Iv M) (hs : Sm L K M) (hc : Sc C M) (p x y : Int32) : Ct l X b0 lo (enC X lo L K C e0) yX4_addState cX4_addState 5 (some FieldType.int) (rM 2 44) [.ref (lo 0), .int p, .int x, .int y] (pKl X lo e0 (sp_addState M p x y)) := by
  refine gMet (by decide) (Nat.le_of_ble_eq_true rfl) rfl ?_
  intro Z hC hI hR
  rcases Classical.em (isMo M p) with hp | hp
  · obtain ⟨i, hi10, rfl, hin, -⟩ := moOf hM hp
    have ei : nt (nI i) = i := nt_nI (by omega)
    have hi1 : i < L 2 0 := by rw [hs.1]; exact hin
    have h25 : i < 25 := by omega
    have hN : L 2 0 ≤ 10 := by rw [hs.1]; exact (Iv_nM hM).1
    have hSS : L 2 1 ≤ 30 := by rw [hs.2.1]; exact (Iv_nS hM).1
    obtain ⟨g1, g2, g3, g4, g5, g6⟩ := hs.mo hin
    have hMi := hM.2.2.2.2.2.2.1 i hin
    refine g_aload_n hC dX4_addState_0 rfl ?_
    refine g_iload_n hC dX4_addState_1 rfl ?_
    refine g_callV hC v_X4_mouldOrNull km_X4_78 (c_X4_mouldOrNull_s l X b0 lo L _ _ e0 i hi1 hN) rfl cO rfl rfl rfl rfl (Nat.le_of_ble_eq_true rfl) ⟨by decide, by decide⟩ ⟨by decide, by decide⟩ dX4_addState_2 (kX ?_)
    refine g_astore hC dX4_addState_5 (by decide) ?_
    refine g_aload hC dX4_addState_7 rfl ?_
    refine g_ifnonnull (tgt := 14) hC dX4_addState_9 (by decide) ?_
    refine g_aload hC dX4_addState_14 rfl ?_
    refine g_get hC rfl (cM hi1 h25) rfl kl_X1 2 (by decide) kf_X4_82 rfl rfl dX4_addState_16 ?_
    refine g_iload_n hC dX4_addState_19 rfl ?_
    refine g_iload_n hC dX4_addState_20 rfl ?_
    refine g_callS hC v_X4_isPosition km_X4_85 (c_X4_isPosition l X b0 lo _ _ _ _) rfl rfl (Nat.le_of_ble_eq_true rfl) ⟨by decide, by decide⟩ ⟨by decide, by decide⟩ dX4_addState_21 (kX ?_)
    refine g_if_ne (tgt := 30) hC dX4_addState_24 (by decide) (fun c24 => ?_) (fun c24 => ?_)
    · refine g_aload hC dX4_addState_30 rfl ?_
      refine g_get hC rfl (cM hi1 h25) rfl kl_X1 5 (by decide) kf_X4_88 rfl rfl dX4_addState_32 ?_
      refine g_bipush (v := 6) hC dX4_addState_35 (by decide) ?_
      refine g_icmp_lt (tgt := 43) hC dX4_addState_37 (by decide) (fun c37 => ?_) (fun c37 => ?_)
      · obtain ⟨q, hq5, eq⟩ := natOf (n := 5) (b := 5) (x := M 4 i) ⟨by have := hMi.2.2.1.1; grind, by grind⟩ rfl (by decide)
        have hq : q < 6 := by omega
        refine g_aload hC dX4_addState_43 rfl ?_
        refine g_iload_n hC dX4_addState_45 rfl ?_
        refine g_iload_n hC dX4_addState_46 rfl ?_
        refine g_callV hC v_X1_append km_X4_74 (c_X1_append l X b0 lo _ (100 + 4 * i) (102 + 4 * i) (103 + 4 * i) q _ _ _ (K 4 i) (K 5 i) (by rw [cM hi1 h25]; unfold oM; rw [g4, eq]) (cM2 hi1 h25) (cM3 hi1 h25) (by omega) (by omega) (by omega) hq _ _) rfl (cM hi1 h25) rfl rfl rfl rfl (Nat.le_of_ble_eq_true rfl) ⟨by decide, by decide⟩ ⟨by decide, by decide⟩ dX4_addState_47 (kV ?_)
        intro en' hen'
        replace hen' := ps_en hi1 h25 hen'
        subst hen'
        have hq1 : nI q + 1 = nI (q + 1) := nI_1 q
        refine g_aload_n hC dX4_addState_50 rfl ?_
        refine g_iload_n hC dX4_addState_51 rfl ?_
        refine g_callV hC v_X4_forgetMatches km_X4_58 (c_X4_forgetMatches l X b0 lo L _ _ e0 i (by omega) (by omega)) rfl cO rfl rfl rfl rfl (Nat.le_of_ble_eq_true rfl) ⟨by decide, by decide⟩ ⟨by decide, by decide⟩ dX4_addState_52 (kV ?_)
        rintro en' ⟨C9, rfl, hf9⟩
        refine g_aload hC dX4_addState_55 rfl ?_
        refine g_get hC rfl (cM hi1 h25) rfl kl_X1 5 (by decide) kf_X4_88 rfl rfl dX4_addState_57 ?_
        refine g_iconst (v := 1) hC dX4_addState_60 (by decide) ?_
        refine g_isub hC dX4_addState_61 ?_
        refine g_ireti hR dX4_addState_62 rfl ?_
        clear hR hC hI
        have hsp : sp_addState M (nI i) x y = (M 4 i, psM M i x y) := by grind [sp_addState, wi]
        rw [hsp]
        have e20 : psM M i x y 20 = M 20 := by unfold psM; simp +decide only [up2_row]
        refine pKl_i ?_ (Sm_ps hM hs hin hq eq) (Sc_fg hM hc (by rw [← hs.2.1]; exact hf9) hi10 (congrArg nt (congrFun e20 4)) (congrArg nt (congrFun e20 11)) (fun j i2 _ h2 h3 => cg_ps hM hq eq h2 h3))
        show up3 _ 2 i 5 (nI q + 1) 2 i 5 - 1 = M 4 i
        rw [up3_self, pk_us, eq]
        grind
      · refine g_bipush (v := (-5)) hC dX4_addState_40 (by decide) ?_
        refine g_ireti hR dX4_addState_42 rfl ?_
        clear hR hC hI
        have h6 : M 4 i = 6 := by have := hMi.2.2.1.2; grind
        have hsp : sp_addState M (nI i) x y = (-5, M) := by grind [sp_addState, wi]
        rw [hsp]
        exact pKl_i rfl hs hc
    · refine g_bipush (v := (-3)) hC dX4_addState_27 (by decide) ?_
      refine g_ireti hR dX4_addState_29 rfl ?_
      clear hR hC hI
      have hsp : sp_addState M (nI i) x y = (-3, M) := by grind [sp_addState, wi]
      rw [hsp]
      exact pKl_i rfl hs hc
  · have hpn : ¬ (0 ≤ p ∧ p < nI (L 2 0)) := fun z => hp ⟨z.1, by have h2 := z.2; rw [hs.1, ← (Iv_nM hM).2] at h2; have := hM.2.2.2.1; grind⟩
    refine g_aload_n hC dX4_addState_0 rfl ?_
    refine g_iload_n hC dX4_addState_1 rfl ?_
    refine g_callV hC v_X4_mouldOrNull km_X4_78 (c_X4_mouldOrNull_n l X b0 lo L _ _ e0 p hpn) rfl cO rfl rfl rfl rfl (Nat.le_of_ble_eq_true rfl) ⟨by decide, by decide⟩ ⟨by decide, by decide⟩ dX4_addState_2 (kX ?_)
    refine g_astoreN hC dX4_addState_5 (by decide) ?_
    refine g_aloadN hC dX4_addState_7 rfl ?_
    refine g_ifnonnullN hC dX4_addState_9 ?_
    refine g_iconst (v := (-1)) hC dX4_addState_12 (by decide) ?_
    refine g_ireti hR dX4_addState_13 rfl ?_
    clear hR hC hI
    have hsp : sp_addState M p x y = (-1, M) := by grind [sp_addState, wi]
    rw [hsp]
    exact pKl_i rfl hs hc

theorem Sm_rs {L : Nat → Nat → Nat} {K : rM3} {M : rM2} {i q : Nat} (hM : Iv M) (h : Sm L K M) (hi : i < nMo M) (hq : q < 6) (eq : M 4 i = nI (q + 1)) : Sm L (up3 K 2 i 5 (nI q)) (up2 M 4 i (nI q)) := by
  obtain ⟨h1, h2, h3, h4, h5, h6, h7, h8⟩ := h
  refine ⟨h1, h2, h3, h4, h5, ?_, ?_, ?_⟩
  · simp +decide only [up3_tag, up2_row]; exact h6
  · intro i2 hi2
    have hi3 : i2 < nMo M := hi2
    obtain ⟨g1, g2, g3, g4, g5, g6⟩ := h7 i2 hi3
    simp +decide only [up2_row]
    by_cases hii : i2 = i
    · subst hii
      refine ⟨g1, ?_, ?_, ?_, ?_, ?_⟩
      · rw [show up3 K 2 i2 5 (nI q) 2 i2 1 = K 2 i2 1 by simp [up3]]; exact g2
      · rw [show up3 K 2 i2 5 (nI q) 2 i2 2 = K 2 i2 2 by simp [up3]]; exact g3
      · rw [up3_self, pk_us, up2_self, pk_us]
      · simp +decide only [up3_tag]; exact g5
      · intro k hk
        rw [up2_self, pk_us, nt_nI (by omega)] at hk
        simp +decide only [up3_tag]
        exact g6 k (by rw [eq, nt_nI (by omega)]; omega)
    · have r : ∀ b, up3 K 2 i 5 (nI q) b i2 = K b i2 := fun b => up3_row (Or.inr hii)
      rw [r, r, r, r, up2_self, pk_un hii]
      exact ⟨g1, g2, g3, g4, g5, g6⟩
  · intro j hj
    simp +decide only [up3_tag, up2_row]
    exact h8 j hj
theorem cg_rs {M : rM2} {i : Nat} {v : Int32} {j i2 : Nat} (hii : i2 ≠ i) : cg M (up2 M 4 i v) j i2 := by
  have r : ∀ b, b ≠ 4 → up2 M 4 i v b = M b := fun b h => up2_row h
  unfold cg
  rw [r 7 (by decide), r 8 (by decide), r 9 (by decide), r 10 (by decide), r 11 (by decide), r 1 (by decide), r 2 (by decide), r 3 (by decide), r 5 (by decide), r 6 (by decide), r 20 (by decide)]
  exact ⟨rfl, fun _ _ => rfl, rfl, rfl, rfl, rfl, fun _ _ => rfl, rfl, by rw [up2_self, pk_un hii], fun _ _ => ⟨rfl, rfl⟩, rfl, rfl⟩

set_option maxHeartbeats 4000000 in
set_option maxRecDepth 100000 in
theorem c_X4_removeState (l : Launch) (X : gX) (b0 : Nat) (lo : gL) (L : Nat → Nat → Nat) (K C : rM3) (e0 : gE) (M : rM2) (hM : Iv M) (hs : Sm L K M) (hc : Sc C M) (p : Int32) : Ct l X b0 lo (enC X lo L K C e0) yX4_removeState cX4_removeState 3 (some FieldType.int) (rM 1 22) [.ref (lo 0), .int p] (pKl X lo e0 (sp_removeState M p)) := by
  refine gMet (by decide) (Nat.le_of_ble_eq_true rfl) rfl ?_
  intro Z hC hI hR
  rcases Classical.em (isMo M p) with hp | hp
  · obtain ⟨i, hi10, rfl, hin, -⟩ := moOf hM hp
    have ei : nt (nI i) = i := nt_nI (by omega)
    have hi1 : i < L 2 0 := by rw [hs.1]; exact hin
    have h25 : i < 25 := by omega
    have hN : L 2 0 ≤ 10 := by rw [hs.1]; exact (Iv_nM hM).1
    have hSS : L 2 1 ≤ 30 := by rw [hs.2.1]; exact (Iv_nS hM).1
    obtain ⟨g1, g2, g3, g4, g5, g6⟩ := hs.mo hin
    have hMi := hM.2.2.2.2.2.2.1 i hin
    refine g_aload_n hC dX4_removeState_0 rfl ?_
    refine g_iload_n hC dX4_removeState_1 rfl ?_
    refine g_callV hC v_X4_mouldOrNull km_X4_78 (c_X4_mouldOrNull_s l X b0 lo L _ _ e0 i hi1 hN) rfl cO rfl rfl rfl rfl (Nat.le_of_ble_eq_true rfl) ⟨by decide, by decide⟩ ⟨by decide, by decide⟩ dX4_removeState_2 (kX ?_)
    refine g_astore_n hC dX4_removeState_5 (by decide) ?_
    refine g_aload_n hC dX4_removeState_6 rfl ?_
    refine g_ifnonnull (tgt := 12) hC dX4_removeState_7 (by decide) ?_
    refine g_aload_n hC dX4_removeState_12 rfl ?_
    refine g_get hC rfl (cM hi1 h25) rfl kl_X1 5 (by decide) kf_X4_88 rfl rfl dX4_removeState_13 ?_
    refine g_iconst (v := 1) hC dX4_removeState_16 (by decide) ?_
    refine g_icmp_gt (tgt := 23) hC dX4_removeState_17 (by decide) (fun c17 => ?_) (fun c17 => ?_)
    · refine g_aload_n hC dX4_removeState_23 rfl ?_
      refine g_dup hC dX4_removeState_24 rfl ?_
      refine g_get hC rfl (cM hi1 h25) rfl kl_X1 5 (by decide) kf_X4_88 rfl rfl dX4_removeState_25 ?_
      refine g_iconst (v := 1) hC dX4_removeState_28 (by decide) ?_
      refine g_isub hC dX4_removeState_29 ?_
      refine g_put (ty := .int) hC rfl (cM hi1 h25) rfl kl_X1 5 (by decide) kf_X4_88 rfl tyX1 tyX1_ok nmX1 rfl (by decide +kernel) rfl rfl (Nat.le_of_ble_eq_true rfl) dX4_removeState_30 (fun en12 hen12 => ?_)
      replace hen12 := cPM5 hi1 h25 hen12
      obtain ⟨K12, hK12, hen12⟩ := hen12
      subst hen12
      refine g_aload_n hC dX4_removeState_33 rfl ?_
      refine g_iload_n hC dX4_removeState_34 rfl ?_
      refine g_callV hC v_X4_forgetMatches km_X4_58 (c_X4_forgetMatches l X b0 lo L _ _ e0 i (by omega) (by omega)) rfl cO rfl rfl rfl rfl (Nat.le_of_ble_eq_true rfl) ⟨by decide, by decide⟩ ⟨by decide, by decide⟩ dX4_removeState_35 (kV ?_)
      rintro en' ⟨C9, rfl, hf9⟩
      refine g_aload_n hC dX4_removeState_38 rfl ?_
      refine g_get hC rfl (cM hi1 h25) rfl kl_X1 5 (by decide) kf_X4_88 rfl rfl dX4_removeState_39 ?_
      refine g_ireti hR dX4_removeState_42 rfl ?_
      clear hR hC hI
      obtain ⟨q, hq5, eq⟩ := natOf (n := 5) (b := 5) (x := M 4 i - 1) ⟨by grind, by have := hMi.2.2.1.2; grind⟩ rfl (by decide)
      have eq1 : M 4 i = nI (q + 1) := by rw [← nI_1, ← eq]; grind
      have hsp : sp_removeState M (nI i) = (M 4 i - 1, up2 M 4 i (M 4 i - 1)) := by grind [sp_removeState]
      rw [hsp, eq]
      have hkk : K12 = up3 K 2 i 5 (nI q) := by rw [hK12, g4, eq]
      refine pKl_i ?_ (by rw [hkk]; exact Sm_rs hM hs hin (by omega) eq1) (Sc_fg hM hc (by rw [← hs.2.1]; exact hf9) hi10 rfl rfl (fun j i2 _ h2 h3 => cg_rs h3))
      show K12 2 i 5 = nI q
      rw [hkk, up3_self, pk_us]
    · refine g_bipush (v := (-6)) hC dX4_removeState_20 (by decide) ?_
      refine g_ireti hR dX4_removeState_22 rfl ?_
      clear hR hC hI
      have h6 : M 4 i = 1 := by have := hMi.2.2.1.1; grind
      have hsp : sp_removeState M (nI i) = (-6, M) := by grind [sp_removeState]
      rw [hsp]
      exact pKl_i rfl hs hc
  · have hpn : ¬ (0 ≤ p ∧ p < nI (L 2 0)) := fun z => hp ⟨z.1, by have h2 := z.2; rw [hs.1, ← (Iv_nM hM).2] at h2; have := hM.2.2.2.1; grind⟩
    refine g_aload_n hC dX4_removeState_0 rfl ?_
    refine g_iload_n hC dX4_removeState_1 rfl ?_
    refine g_callV hC v_X4_mouldOrNull km_X4_78 (c_X4_mouldOrNull_n l X b0 lo L _ _ e0 p hpn) rfl cO rfl rfl rfl rfl (Nat.le_of_ble_eq_true rfl) ⟨by decide, by decide⟩ ⟨by decide, by decide⟩ dX4_removeState_2 (kX ?_)
    refine g_astore_nN hC dX4_removeState_5 (by decide) ?_
    refine g_aload_nN hC dX4_removeState_6 rfl ?_
    refine g_ifnonnullN hC dX4_removeState_7 ?_
    refine g_iconst (v := (-1)) hC dX4_removeState_10 (by decide) ?_
    refine g_ireti hR dX4_removeState_11 rfl ?_
    clear hR hC hI
    have hsp : sp_removeState M p = (-1, M) := by grind [sp_removeState, wi]
    rw [hsp]
    exact pKl_i rfl hs hc

theorem Sm_dt {L : Nat → Nat → Nat} {K : rM3} {M : rM2} {j : Nat} {a b : Int32} (h : Sm L K M) : Sm L (up3 (up3 K 6 j 4 a) 6 j 5 b) (up2 (up2 M 12 j a) 13 j b) := by
  obtain ⟨h1, h2, h3, h4, h5, h6, h7, h8⟩ := h
  refine ⟨h1, h2, h3, h4, h5, ?_, ?_, ?_⟩
  · simp +decide only [up3_tag, up2_row]; exact h6
  · intro i hi
    simp +decide only [up3_tag, up2_row]
    exact h7 i hi
  · intro j2 hj2
    obtain ⟨s1, s2, s3, s4, s5, s6, s7⟩ := h8 j2 hj2
    simp +decide only [up2_row]
    refine ⟨s1, ?_, ?_, ?_, ?_, ?_, ?_⟩
    · rw [show up3 (up3 K 6 j 4 a) 6 j 5 b 6 j2 1 = K 6 j2 1 by simp [up3]]; exact s2
    · rw [show up3 (up3 K 6 j 4 a) 6 j 5 b 6 j2 2 = K 6 j2 2 by simp [up3]]; exact s3
    · rw [show up3 (up3 K 6 j 4 a) 6 j 5 b 6 j2 3 = K 6 j2 3 by simp [up3]]; exact s4
    · by_cases hjj : j2 = j
      · rw [hjj]; simp [up3, up2]
      · simp [up3, up2, hjj]; exact s5
    · by_cases hjj : j2 = j
      · rw [hjj]; simp [up3, up2]
      · simp [up3, up2, hjj]; exact s6
    · simp +decide only [up3_tag]; exact s7

set_option maxHeartbeats 4000000 in
set_option maxRecDepth 100000 in
theorem c_X4_setDates (l : Launch) (X : gX) (b0 : Nat) (lo : gL) (L : Nat → Nat → Nat) (K C : rM3) (e0 : gE) (M : rM2) (hM : Iv M) (hs : Sm L K M) (hc : Sc C M) (p a b : Int32) : Ct l X b0 lo (enC X lo L K C e0) yX4_setDates cX4_setDates 5 (some FieldType.int) (rM 1 22) [.ref (lo 0), .int p, .int a, .int b] (pKl X lo e0 (sp_setDates M p a b)) := by
  refine gMet (by decide) (Nat.le_of_ble_eq_true rfl) rfl ?_
  intro Z hC hI hR
  rcases Classical.em (isSh M p) with hp | hp
  · obtain ⟨j, hj30, rfl, hjn, -⟩ := shOf hM hp
    have ej : nt (nI j) = j := nt_nI (by omega)
    have hj1 : j < L 2 1 := by rw [hs.2.1]; exact hjn
    have hj50 : j < 50 := by omega
    have hN : L 2 0 ≤ 10 := by rw [hs.1]; exact (Iv_nM hM).1
    have hSS : L 2 1 ≤ 30 := by rw [hs.2.1]; exact (Iv_nS hM).1
    obtain ⟨s1, s2, s3, s4, s5, s6, s7⟩ := hs.sh hjn
    refine g_aload_n hC dX4_setDates_0 rfl ?_
    refine g_iload_n hC dX4_setDates_1 rfl ?_
    refine g_callV hC v_X4_sheetOrNull km_X4_118 (c_X4_sheetOrNull_s l X b0 lo L _ _ e0 j hj1 hSS) rfl cO rfl rfl rfl rfl (Nat.le_of_ble_eq_true rfl) ⟨by decide, by decide⟩ ⟨by decide, by decide⟩ dX4_setDates_2 (kX ?_)
    refine g_astore hC dX4_setDates_5 (by decide) ?_
    refine g_aload hC dX4_setDates_7 rfl ?_
    refine g_ifnonnull (tgt := 15) hC dX4_setDates_9 (by decide) ?_
    refine g_iload_n hC dX4_setDates_15 rfl ?_
    refine g_iconst (v := 0) hC dX4_setDates_16 (by decide) ?_
    refine g_sipush (v := 9999) hC dX4_setDates_17 (by decide) ?_
    refine g_callS hC v_X4_isWithin km_X4_54 (c_X4_isWithin l X b0 lo _ _ _ _) rfl rfl (Nat.le_of_ble_eq_true rfl) ⟨by decide, by decide⟩ ⟨by decide, by decide⟩ dX4_setDates_20 (kX ?_)
    refine g_if_eq (tgt := 37) hC dX4_setDates_23 (by decide) (fun c23 => ?_) (fun c23 => ?_)
    · refine g_bipush (v := (-3)) hC dX4_setDates_37 (by decide) ?_
      refine g_ireti hR dX4_setDates_39 rfl ?_
      clear hR hC hI
      have hsp : sp_setDates M (nI j) a b = (-3, M) := by grind [sp_setDates, wi]
      rw [hsp]
      exact pKl_i rfl hs hc
    · refine g_iload_n hC dX4_setDates_26 rfl ?_
      refine g_iload_n hC dX4_setDates_27 rfl ?_
      refine g_sipush (v := 9999) hC dX4_setDates_28 (by decide) ?_
      refine g_callS hC v_X4_isWithin km_X4_54 (c_X4_isWithin l X b0 lo _ _ _ _) rfl rfl (Nat.le_of_ble_eq_true rfl) ⟨by decide, by decide⟩ ⟨by decide, by decide⟩ dX4_setDates_31 (kX ?_)
      refine g_if_ne (tgt := 40) hC dX4_setDates_34 (by decide) (fun c34 => ?_) (fun c34 => ?_)
      · refine g_aload hC dX4_setDates_40 rfl ?_
        refine g_get hC rfl (cS hj1 hj50) rfl kl_X2 4 (by decide) kf_X4_122 rfl rfl dX4_setDates_42 ?_
        refine g_iload_n hC dX4_setDates_45 rfl ?_
        refine g_icmp_ne (tgt := 60) hC dX4_setDates_46 (by decide) (fun c46 => ?_) (fun c46 => ?_)
        · refine g_aload hC dX4_setDates_60 rfl ?_
          refine g_iload_n hC dX4_setDates_62 rfl ?_
          refine g_put (ty := .int) hC rfl (cS hj1 hj50) rfl kl_X2 4 (by decide) kf_X4_122 rfl tyX2 tyX2_ok nmX2 rfl (by decide +kernel) rfl rfl (Nat.le_of_ble_eq_true rfl) dX4_setDates_63 (fun en13 hen13 => ?_)
          replace hen13 := cPS4 hj1 hj50 hen13
          obtain ⟨K13, hK13, hen13⟩ := hen13
          subst hen13
          refine g_aload hC dX4_setDates_66 rfl ?_
          refine g_iload_n hC dX4_setDates_68 rfl ?_
          refine g_put (ty := .int) hC rfl (cS hj1 hj50) rfl kl_X2 5 (by decide) kf_X4_125 rfl tyX2 tyX2_ok nmX2 rfl (by decide +kernel) rfl rfl (Nat.le_of_ble_eq_true rfl) dX4_setDates_69 (fun en14 hen14 => ?_)
          replace hen14 := cPS5 hj1 hj50 hen14
          obtain ⟨K14, hK14, hen14⟩ := hen14
          subst hen14
          refine g_iconst (v := 1) hC dX4_setDates_72 (by decide) ?_
          refine g_ireti hR dX4_setDates_73 rfl ?_
          clear hR hC hI
          subst hK14
          subst hK13
          have hsp : sp_setDates M (nI j) a b = (1, up2 (up2 M 12 j a) 13 j b) := by grind [sp_setDates, wi]
          rw [hsp]
          exact pKl_i rfl (Sm_dt hs) (hc.keep hM rfl rfl (fun j i _ _ => cg_up (cg_up cg_rf (Or.inr (Or.inl rfl))) (Or.inr (Or.inr (Or.inl rfl)))))
        · refine g_aload hC dX4_setDates_49 rfl ?_
          refine g_get hC rfl (cS hj1 hj50) rfl kl_X2 5 (by decide) kf_X4_125 rfl rfl dX4_setDates_51 ?_
          refine g_iload_n hC dX4_setDates_54 rfl ?_
          refine g_icmp_ne (tgt := 60) hC dX4_setDates_55 (by decide) (fun c55 => ?_) (fun c55 => ?_)
          · refine g_aload hC dX4_setDates_60 rfl ?_
            refine g_iload_n hC dX4_setDates_62 rfl ?_
            refine g_put (ty := .int) hC rfl (cS hj1 hj50) rfl kl_X2 4 (by decide) kf_X4_122 rfl tyX2 tyX2_ok nmX2 rfl (by decide +kernel) rfl rfl (Nat.le_of_ble_eq_true rfl) dX4_setDates_63 (fun en15 hen15 => ?_)
            replace hen15 := cPS4 hj1 hj50 hen15
            obtain ⟨K15, hK15, hen15⟩ := hen15
            subst hen15
            refine g_aload hC dX4_setDates_66 rfl ?_
            refine g_iload_n hC dX4_setDates_68 rfl ?_
            refine g_put (ty := .int) hC rfl (cS hj1 hj50) rfl kl_X2 5 (by decide) kf_X4_125 rfl tyX2 tyX2_ok nmX2 rfl (by decide +kernel) rfl rfl (Nat.le_of_ble_eq_true rfl) dX4_setDates_69 (fun en16 hen16 => ?_)
            replace hen16 := cPS5 hj1 hj50 hen16
            obtain ⟨K16, hK16, hen16⟩ := hen16
            subst hen16
            refine g_iconst (v := 1) hC dX4_setDates_72 (by decide) ?_
            refine g_ireti hR dX4_setDates_73 rfl ?_
            clear hR hC hI
            subst hK16
            subst hK15
            have hsp : sp_setDates M (nI j) a b = (1, up2 (up2 M 12 j a) 13 j b) := by grind [sp_setDates, wi]
            rw [hsp]
            exact pKl_i rfl (Sm_dt hs) (hc.keep hM rfl rfl (fun j i _ _ => cg_up (cg_up cg_rf (Or.inr (Or.inl rfl))) (Or.inr (Or.inr (Or.inl rfl)))))
          · refine g_iconst (v := 0) hC dX4_setDates_58 (by decide) ?_
            refine g_ireti hR dX4_setDates_59 rfl ?_
            clear hR hC hI
            have hab : a = M 12 j ∧ b = M 13 j := by grind
            have hsp : sp_setDates M (nI j) a b = (0, up2 (up2 M 12 j a) 13 j b) := by grind [sp_setDates, wi]
            have hsm : up2 (up2 M 12 j a) 13 j b = M := by
              rw [up2_same (v := a) hab.1, up2_same hab.2]
            rw [hsp, hsm]
            exact pKl_i rfl hs hc
      · refine g_bipush (v := (-3)) hC dX4_setDates_37 (by decide) ?_
        refine g_ireti hR dX4_setDates_39 rfl ?_
        clear hR hC hI
        have hsp : sp_setDates M (nI j) a b = (-3, M) := by grind [sp_setDates, wi]
        rw [hsp]
        exact pKl_i rfl hs hc
  · have hpn : ¬ (0 ≤ p ∧ p < nI (L 2 1)) := fun z => hp ⟨z.1, by have h2 := z.2; rw [hs.2.1, ← (Iv_nS hM).2] at h2; have := hM.2.2.2.2.1; grind⟩
    refine g_aload_n hC dX4_setDates_0 rfl ?_
    refine g_iload_n hC dX4_setDates_1 rfl ?_
    refine g_callV hC v_X4_sheetOrNull km_X4_118 (c_X4_sheetOrNull_n l X b0 lo L _ _ e0 p hpn) rfl cO rfl rfl rfl rfl (Nat.le_of_ble_eq_true rfl) ⟨by decide, by decide⟩ ⟨by decide, by decide⟩ dX4_setDates_2 (kX ?_)
    refine g_astoreN hC dX4_setDates_5 (by decide) ?_
    refine g_aloadN hC dX4_setDates_7 rfl ?_
    refine g_ifnonnullN hC dX4_setDates_9 ?_
    refine g_bipush (v := (-2)) hC dX4_setDates_12 (by decide) ?_
    refine g_ireti hR dX4_setDates_14 rfl ?_
    clear hR hC hI
    have hsp : sp_setDates M p a b = (-2, M) := by grind [sp_setDates, wi]
    rw [hsp]
    exact pKl_i rfl hs hc
end
section
/-! ===== the class: twins ===== -/
theorem abs_ap {a b : Int32} (ha : inR 0 a 450) (hb : inR 0 b 450) : (if 0 ≤ a - b then a - b else 0 - (a - b)) = ap a b := by grind [ap]
theorem gdF_R {A B : Nat → Int32} : ∀ {n : Nat}, (∀ k, k < n → inR 0 (A k) 450 ∧ inR 0 (B k) 450) → inR 0 (gdF A B n) 450
  | 0, _ => by simp only [gdF]; decide
  | n + 1, h => by
    have ih := gdF_R (A := A) (B := B) (n := n) (fun k hk => h k (by omega))
    have h1 := ap_R (h n (by omega)).1 (h n (by omega)).2
    unfold gdF
    split <;> assumption
theorem gdM_R {M : rM2} (hM : Iv M) {a b : Nat} (ha : a < nMo M) (hb : b < nMo M) (he : nt (M 1 a) = nt (M 1 b)) : inR 0 (gdM M a b) 450 := gdF_R (fun k hk => by
  have h1 := (hM.2.2.2.2.2.2.1 a ha).2.2.2.1 k hk
  have h2 := (hM.2.2.2.2.2.2.1 b hb).2.2.2.1 k (by rw [← he]; exact hk)
  exact ⟨⟨by grind, h1.2⟩, ⟨by grind, h2.2⟩⟩)
theorem mx3 (u v w : Int32) : (if w < (if v < u then u else v) then (if v < u then u else v) else w) = mx u (mx v w) := by
  unfold mx
  grind
theorem gdF_s {A B : Nat → Int32} {k : Nat} : gdF A B (k + 1) = if gdF A B k < ap (A k) (B k) then ap (A k) (B k) else gdF A B k := rfl

set_option maxHeartbeats 4000000 in
set_option maxRecDepth 100000 in
theorem c_X4_greatestSpacingDifference (l : Launch) (X : gX) (b0 : Nat) (lo : gL) (L : Nat → Nat → Nat) (K C : rM3) (e0 : gE) (M : rM2) (hM : Iv M) (hs : Sm L K M) (a b : Nat) (ha : a < nMo M) (hb : b < nMo M)  : Ct l X b0 lo (enC X lo L K C e0) yX4_greatestSpacingDifference cX4_greatestSpacingDifference 5 (some FieldType.int) (rM 1 21) [.ref (lo (100 + 4 * a)), .ref (lo (100 + 4 * b))] (pX (.int (gdF (fun k => M 2 (10 * a + k)) (fun k => M 2 (10 * b + k)) (min (nt (M 1 a)) (nt (M 1 b))))) lo (enC X lo L K C e0)) := by
  refine gMet (by decide) (Nat.le_of_ble_eq_true rfl) rfl ?_
  intro Z hC hI hR
  have ha1 : a < L 2 0 := by rw [hs.1]; exact ha
  have hb1 : b < L 2 0 := by rw [hs.1]; exact hb
  have hN : L 2 0 ≤ 10 := by rw [hs.1]; exact (Iv_nM hM).1
  have ha25 : a < 25 := by omega
  have hb25 : b < 25 := by omega
  obtain ⟨n, hn3, hn10, en, en2⟩ := Iv_mo hM ha
  obtain ⟨m, hm3, hm10, em, em2⟩ := Iv_mo hM hb
  obtain ⟨a1, a2, a3, a4, a5, a6⟩ := hs.mo ha
  obtain ⟨b1, b2, b3, b4, b5, b6⟩ := hs.mo hb
  refine g_aload_n hC dX4_greatestSpacingDifference_0 rfl ?_
  refine g_get hC rfl (cM ha1 ha25) rfl kl_X1 0 (by decide) kf_X4_173 rfl rfl dX4_greatestSpacingDifference_1 ?_
  refine g_alenI hC rfl (cM1 ha1 ha25) dX4_greatestSpacingDifference_4 ?_
  refine g_aload_n hC dX4_greatestSpacingDifference_5 rfl ?_
  refine g_get hC rfl (cM hb1 hb25) rfl kl_X1 0 (by decide) kf_X4_173 rfl rfl dX4_greatestSpacingDifference_6 ?_
  refine g_alenI hC rfl (cM1 hb1 hb25) dX4_greatestSpacingDifference_9 ?_
  refine g_mmin hC km_X4_179 ⟨by decide, Nat.le_of_ble_eq_true rfl⟩ ⟨Nat.le_of_ble_eq_true rfl, Nat.le_of_ble_eq_true rfl⟩ dX4_greatestSpacingDifference_10 ?_
  refine g_val (y := nI (min n m)) (by
    rw [a1, b1, en2, em2]
    have h1 : (nI m < nI n) ↔ m < n := nI_ltI (by omega) (by omega)
    by_cases h2 : m < n
    · rw [if_pos (h1.mpr h2), Nat.min_eq_right (by omega)]
    · rw [if_neg (fun z => h2 (h1.mp z)), Nat.min_eq_left (by omega)]) ?_
  refine g_istore_n hC dX4_greatestSpacingDifference_13 (by decide) ?_
  refine g_iconst (v := 0) hC dX4_greatestSpacingDifference_14 (by decide) ?_
  refine g_istore_n hC dX4_greatestSpacingDifference_15 (by decide) ?_
  refine g_iconst (v := 0) hC dX4_greatestSpacingDifference_16 (by decide) ?_
  refine g_istore hC dX4_greatestSpacingDifference_17 (by decide) ?_
  have lg : ∀ (r : Nat) (k : Nat), k + r = min n m → GO l X b0 Z 0 0 lo (enC X lo L K C e0) 19 [(0, .ref (lo (100 + 4 * a))), (1, .ref (lo (100 + 4 * b))), (2, .int (nI (min n m))), (3, .int (gdF (fun k => M 2 (10 * a + k)) (fun k => M 2 (10 * b + k)) k)), (4, .int (nI k))] [] := by
    intro r
    induction r with
    | zero =>
      intro k hk
      have hk8 : k = min n m := by omega
      subst hk8
      refine g_iload hC dX4_greatestSpacingDifference_19 rfl ?_
      refine g_iload_n hC dX4_greatestSpacingDifference_21 rfl ?_
      refine g_icmp_ge (tgt := 54) hC dX4_greatestSpacingDifference_22 (by decide) (fun c22 => ?_) (fun c22 => absurd (nI_le (by omega) (by omega)) c22)
      refine g_iload_n hC dX4_greatestSpacingDifference_54 rfl ?_
      refine g_ireti hR dX4_greatestSpacingDifference_55 rfl ?_
      clear hR hC hI
      refine pXi ?_
      rw [en2, em2]
    | succ r ihlg =>
      intro k hk
      refine g_iload hC dX4_greatestSpacingDifference_19 rfl ?_
      refine g_iload_n hC dX4_greatestSpacingDifference_21 rfl ?_
      refine g_icmp_ge (tgt := 54) hC dX4_greatestSpacingDifference_22 (by decide) (fun c22 => absurd c22 (nI_ge (by omega) (by omega))) (fun c22 => ?_)
      refine g_iload_n hC dX4_greatestSpacingDifference_25 rfl ?_
      refine g_aload_n hC dX4_greatestSpacingDifference_26 rfl ?_
      refine g_get hC rfl (cM ha1 ha25) rfl kl_X1 0 (by decide) kf_X4_173 rfl rfl dX4_greatestSpacingDifference_27 ?_
      refine g_iload hC dX4_greatestSpacingDifference_30 rfl ?_
      refine g_iald hC rfl (cM1 ha1 ha25) k rfl (by omega) (by omega) dX4_greatestSpacingDifference_32 ?_
      refine g_aload_n hC dX4_greatestSpacingDifference_33 rfl ?_
      refine g_get hC rfl (cM hb1 hb25) rfl kl_X1 0 (by decide) kf_X4_173 rfl rfl dX4_greatestSpacingDifference_34 ?_
      refine g_iload hC dX4_greatestSpacingDifference_37 rfl ?_
      refine g_iald hC rfl (cM1 hb1 hb25) k rfl (by omega) (by omega) dX4_greatestSpacingDifference_39 ?_
      refine g_isub hC dX4_greatestSpacingDifference_40 ?_
      refine g_mabs hC km_X4_98 ⟨by decide, Nat.le_of_ble_eq_true rfl⟩ ⟨Nat.le_of_ble_eq_true rfl, Nat.le_of_ble_eq_true rfl⟩ dX4_greatestSpacingDifference_41 ?_
      refine g_mmax hC km_X4_111 ⟨by decide, Nat.le_of_ble_eq_true rfl⟩ ⟨Nat.le_of_ble_eq_true rfl, Nat.le_of_ble_eq_true rfl⟩ dX4_greatestSpacingDifference_44 ?_
      refine g_val (y := gdF (fun k => M 2 (10 * a + k)) (fun k => M 2 (10 * b + k)) (k + 1)) (by
        have r1 := (hM.2.2.2.2.2.2.1 a ha).2.2.2.1 k (by omega)
        have r2 := (hM.2.2.2.2.2.2.1 b hb).2.2.2.1 k (by omega)
        rw [a5 k (by omega), b5 k (by omega), abs_ap ⟨by grind, r1.2⟩ ⟨by grind, r2.2⟩]
        rfl) ?_
      refine g_istore_n hC dX4_greatestSpacingDifference_47 (by decide) ?_
      refine g_iinc hC dX4_greatestSpacingDifference_48 rfl (nI_inc k) (by decide) ?_
      refine g_goto (tgt := 19) hC dX4_greatestSpacingDifference_51 (by decide) ?_
      exact g_lv (lv' := [(0, .ref (lo (100 + 4 * a))), (1, .ref (lo (100 + 4 * b))), (2, .int (nI (min n m))), (3, .int (gdF (fun k => M 2 (10 * a + k)) (fun k => M 2 (10 * b + k)) (k + 1))), (4, .int (nI (k + 1)))]) ⟨rfl, rfl, rfl, rfl, rfl, trivial⟩ (ihlg (k + 1) (by omega))
  exact g_lv (lv' := [(0, .ref (lo (100 + 4 * a))), (1, .ref (lo (100 + 4 * b))), (2, .int (nI (min n m))), (3, .int 0), (4, .int (nI 0))]) ⟨rfl, rfl, rfl, rfl, rfl, trivial⟩ (lg (min n m) 0 (by omega))

set_option maxHeartbeats 4000000 in
set_option maxRecDepth 100000 in
theorem c_X4_couldBeTwins (l : Launch) (X : gX) (b0 : Nat) (lo : gL) (L : Nat → Nat → Nat) (K C : rM3) (e0 : gE) (M : rM2) (hM : Iv M) (hs : Sm L K M) (a b : Nat) (ha : a < nMo M) (hb : b < nMo M)  : Ct l X b0 lo (enC X lo L K C e0) yX4_couldBeTwins cX4_couldBeTwins 3 (some FieldType.boolean) (rM 2 45) [.ref (lo 0), .ref (lo (100 + 4 * a)), .ref (lo (100 + 4 * b))] (pX (.int (if twF M a b < 0 then 0 else 1)) lo (enC X lo L K C e0)) := by
  refine gMet (by decide) (Nat.le_of_ble_eq_true rfl) rfl ?_
  intro Z hC hI hR
  have ha1 : a < L 2 0 := by rw [hs.1]; exact ha
  have hb1 : b < L 2 0 := by rw [hs.1]; exact hb
  have hN : L 2 0 ≤ 10 := by rw [hs.1]; exact (Iv_nM hM).1
  have ha25 : a < 25 := by omega
  have hb25 : b < 25 := by omega
  obtain ⟨n, hn3, hn10, en, en2⟩ := Iv_mo hM ha
  obtain ⟨m, hm3, hm10, em, em2⟩ := Iv_mo hM hb
  obtain ⟨a1, a2, a3, a4, a5, a6⟩ := hs.mo ha
  obtain ⟨b1, b2, b3, b4, b5, b6⟩ := hs.mo hb
  have h2 := hs.2.2.2.1
  refine g_aload_n hC dX4_couldBeTwins_0 rfl ?_
  refine g_get hC rfl (cM ha1 ha25) rfl kl_X1 0 (by decide) kf_X4_173 rfl rfl dX4_couldBeTwins_1 ?_
  refine g_alenI hC rfl (cM1 ha1 ha25) dX4_couldBeTwins_4 ?_
  refine g_aload_n hC dX4_couldBeTwins_5 rfl ?_
  refine g_get hC rfl (cM hb1 hb25) rfl kl_X1 0 (by decide) kf_X4_173 rfl rfl dX4_couldBeTwins_6 ?_
  refine g_alenI hC rfl (cM1 hb1 hb25) dX4_couldBeTwins_9 ?_
  refine g_icmp_ne (tgt := 40) hC dX4_couldBeTwins_10 (by decide) (fun c10 => ?_) (fun c10 => ?_)
  · refine g_iconst (v := 0) hC dX4_couldBeTwins_40 (by decide) ?_
    refine g_ireti hR dX4_couldBeTwins_41 (by decide) ?_
    clear hR hC hI
    refine pXi ?_
    have hnm : (M 1 a = M 1 b) ↔ n = m := by rw [en, em]; exact nI_eq (by omega) (by omega)
    have hlm : (nI (L 0 a) = nI (L 0 b)) ↔ n = m := by rw [a1, b1, en2, em2]; exact nI_eq (by omega) (by omega)
    have hr := fun z => gdM_R hM ha hb (by rw [en2, em2]; exact z)
    have hg : n = m → gdF (fun k => M 2 (10 * a + k)) (fun k => M 2 (10 * b + k)) (min (nt (M 1 a)) (nt (M 1 b))) = gdM M a b := fun z => by unfold gdM; rw [en2, em2, ← z, Nat.min_self]
    clear a5 b5 a6 b6
    unfold twF
    grind
  · refine g_aload_n hC dX4_couldBeTwins_13 rfl ?_
    refine g_get hC rfl (cM ha1 ha25) rfl kl_X1 1 (by decide) kf_X4_176 rfl rfl dX4_couldBeTwins_14 ?_
    refine g_aload_n hC dX4_couldBeTwins_17 rfl ?_
    refine g_get hC rfl (cM hb1 hb25) rfl kl_X1 1 (by decide) kf_X4_176 rfl rfl dX4_couldBeTwins_18 ?_
    refine g_icmp_ne (tgt := 40) hC dX4_couldBeTwins_21 (by decide) (fun c21 => ?_) (fun c21 => ?_)
    · refine g_iconst (v := 0) hC dX4_couldBeTwins_40 (by decide) ?_
      refine g_ireti hR dX4_couldBeTwins_41 (by decide) ?_
      clear hR hC hI
      refine pXi ?_
      have hnm : (M 1 a = M 1 b) ↔ n = m := by rw [en, em]; exact nI_eq (by omega) (by omega)
      have hlm : (nI (L 0 a) = nI (L 0 b)) ↔ n = m := by rw [a1, b1, en2, em2]; exact nI_eq (by omega) (by omega)
      have hr := fun z => gdM_R hM ha hb (by rw [en2, em2]; exact z)
      have hg : n = m → gdF (fun k => M 2 (10 * a + k)) (fun k => M 2 (10 * b + k)) (min (nt (M 1 a)) (nt (M 1 b))) = gdM M a b := fun z => by unfold gdM; rw [en2, em2, ← z, Nat.min_self]
      clear a5 b5 a6 b6
      unfold twF
      grind
    · refine g_aload_n hC dX4_couldBeTwins_24 rfl ?_
      refine g_aload_n hC dX4_couldBeTwins_25 rfl ?_
      refine g_callS hC v_X4_greatestSpacingDifference km_X4_107 (c_X4_greatestSpacingDifference l X b0 lo L _ _ e0 M hM hs a b ha hb) rfl rfl (Nat.le_of_ble_eq_true rfl) ⟨by decide, by decide⟩ ⟨by decide, by decide⟩ dX4_couldBeTwins_26 (kX ?_)
      refine g_aload_n hC dX4_couldBeTwins_29 rfl ?_
      refine g_get hC rfl cO rfl kl_X4 2 (by decide) kf_X4_17 rfl rfl dX4_couldBeTwins_30 ?_
      refine g_icmp_gt (tgt := 40) hC dX4_couldBeTwins_33 (by decide) (fun c33 => ?_) (fun c33 => ?_)
      · refine g_iconst (v := 0) hC dX4_couldBeTwins_40 (by decide) ?_
        refine g_ireti hR dX4_couldBeTwins_41 (by decide) ?_
        clear hR hC hI
        refine pXi ?_
        have hnm : (M 1 a = M 1 b) ↔ n = m := by rw [en, em]; exact nI_eq (by omega) (by omega)
        have hlm : (nI (L 0 a) = nI (L 0 b)) ↔ n = m := by rw [a1, b1, en2, em2]; exact nI_eq (by omega) (by omega)
        have hr := fun z => gdM_R hM ha hb (by rw [en2, em2]; exact z)
        have hg : n = m → gdF (fun k => M 2 (10 * a + k)) (fun k => M 2 (10 * b + k)) (min (nt (M 1 a)) (nt (M 1 b))) = gdM M a b := fun z => by unfold gdM; rw [en2, em2, ← z, Nat.min_self]
        clear a5 b5 a6 b6
        unfold twF
        grind
      · refine g_iconst (v := 1) hC dX4_couldBeTwins_36 (by decide) ?_
        refine g_goto (tgt := 41) hC dX4_couldBeTwins_37 (by decide) ?_
        refine g_ireti hR dX4_couldBeTwins_41 (by decide) ?_
        clear hR hC hI
        refine pXi ?_
        have hnm : (M 1 a = M 1 b) ↔ n = m := by rw [en, em]; exact nI_eq (by omega) (by omega)
        have hlm : (nI (L 0 a) = nI (L 0 b)) ↔ n = m := by rw [a1, b1, en2, em2]; exact nI_eq (by omega) (by omega)
        have hr := fun z => gdM_R hM ha hb (by rw [en2, em2]; exact z)
        have hg : n = m → gdF (fun k => M 2 (10 * a + k)) (fun k => M 2 (10 * b + k)) (min (nt (M 1 a)) (nt (M 1 b))) = gdM M a b := fun z => by unfold gdM; rw [en2, em2, ← z, Nat.min_self]
        clear a5 b5 a6 b6
        unfold twF
        grind

set_option maxHeartbeats 4000000 in
set_option maxRecDepth 100000 in
theorem c_X4_areTwins (l : Launch) (X : gX) (b0 : Nat) (lo : gL) (L : Nat → Nat → Nat) (K C : rM3) (e0 : gE) (M : rM2) (hM : Iv M) (hs : Sm L K M) (hc : Sc C M) (p q : Int32) : Ct l X b0 lo (enC X lo L K C e0) yX4_areTwins cX4_areTwins 5 (some FieldType.int) (rM 3 67) [.ref (lo 0), .int p, .int q] (pKl X lo e0 (sp_areTwins M p q)) := by
  refine gMet (by decide) (Nat.le_of_ble_eq_true rfl) rfl ?_
  intro Z hC hI hR
  rcases Classical.em (isMo M p) with hp | hp
  · obtain ⟨a, ha10, rfl, ha, -⟩ := moOf hM hp
    have ea : nt (nI a) = a := nt_nI (by omega)
    have ha1 : a < L 2 0 := by rw [hs.1]; exact ha
    have ha25 : a < 25 := by omega
    have hN : L 2 0 ≤ 10 := by rw [hs.1]; exact (Iv_nM hM).1
    refine g_aload_n hC dX4_areTwins_0 rfl ?_
    refine g_iload_n hC dX4_areTwins_1 rfl ?_
    refine g_callV hC v_X4_mouldOrNull km_X4_78 (c_X4_mouldOrNull_s l X b0 lo L _ _ e0 a ha1 hN) rfl cO rfl rfl rfl rfl (Nat.le_of_ble_eq_true rfl) ⟨by decide, by decide⟩ ⟨by decide, by decide⟩ dX4_areTwins_2 (kX ?_)
    refine g_astore_n hC dX4_areTwins_5 (by decide) ?_
    rcases Classical.em (isMo M q) with hq | hq
    · obtain ⟨b, hb10, rfl, hb, -⟩ := moOf hM hq
      have eb : nt (nI b) = b := nt_nI (by omega)
      have hb1 : b < L 2 0 := by rw [hs.1]; exact hb
      have hb25 : b < 25 := by omega
      have hN : L 2 0 ≤ 10 := by rw [hs.1]; exact (Iv_nM hM).1
      refine g_aload_n hC dX4_areTwins_6 rfl ?_
      refine g_iload_n hC dX4_areTwins_7 rfl ?_
      refine g_callV hC v_X4_mouldOrNull km_X4_78 (c_X4_mouldOrNull_s l X b0 lo L _ _ e0 b hb1 hN) rfl cO rfl rfl rfl rfl (Nat.le_of_ble_eq_true rfl) ⟨by decide, by decide⟩ ⟨by decide, by decide⟩ dX4_areTwins_8 (kX ?_)
      refine g_astore hC dX4_areTwins_11 (by decide) ?_
      refine g_aload_n hC dX4_areTwins_13 rfl ?_
      refine g_ifnull hC dX4_areTwins_14 ?_
      refine g_aload hC dX4_areTwins_17 rfl ?_
      refine g_ifnonnull (tgt := 24) hC dX4_areTwins_19 (by decide) ?_
      refine g_iload_n hC dX4_areTwins_24 rfl ?_
      refine g_iload_n hC dX4_areTwins_25 rfl ?_
      refine g_icmp_ne (tgt := 32) hC dX4_areTwins_26 (by decide) (fun c26 => ?_) (fun c26 => ?_)
      · refine g_aload_n hC dX4_areTwins_32 rfl ?_
        refine g_aload_n hC dX4_areTwins_33 rfl ?_
        refine g_aload hC dX4_areTwins_34 rfl ?_
        refine g_callV hC v_X4_couldBeTwins km_X4_91 (c_X4_couldBeTwins l X b0 lo L _ _ e0 M hM hs a b ha hb) rfl cO rfl rfl rfl rfl (Nat.le_of_ble_eq_true rfl) ⟨by decide, by decide⟩ ⟨by decide, by decide⟩ dX4_areTwins_36 (kX ?_)
        refine g_if_eq (tgt := 46) hC dX4_areTwins_39 (by decide) (fun c39 => ?_) (fun c39 => ?_)
        · refine g_iconst (v := 0) hC dX4_areTwins_46 (by decide) ?_
          refine g_ireti hR dX4_areTwins_47 rfl ?_
          clear hR hC hI
          have ht : tbF M (nI a) (nI b) = 0 := by grind [tbF]
          have hsp : sp_areTwins M (nI a) (nI b) = (if twF M a b < 0 then 0 else 1, M) := by unfold sp_areTwins; rw [ht, ea, eb, if_neg (by decide)]
          rw [hsp]
          exact pKl_i (by show _ = (if twF M a b < 0 then (0 : Int32) else 1); grind) hs hc
        · refine g_iconst (v := 1) hC dX4_areTwins_42 (by decide) ?_
          refine g_goto (tgt := 47) hC dX4_areTwins_43 (by decide) ?_
          refine g_ireti hR dX4_areTwins_47 rfl ?_
          clear hR hC hI
          have ht : tbF M (nI a) (nI b) = 0 := by grind [tbF]
          have hsp : sp_areTwins M (nI a) (nI b) = (if twF M a b < 0 then 0 else 1, M) := by unfold sp_areTwins; rw [ht, ea, eb, if_neg (by decide)]
          rw [hsp]
          exact pKl_i (by show _ = (if twF M a b < 0 then (0 : Int32) else 1); grind) hs hc
      · refine g_bipush (v := (-3)) hC dX4_areTwins_29 (by decide) ?_
        refine g_ireti hR dX4_areTwins_31 rfl ?_
        clear hR hC hI
        have ht : tbF M (nI a) (nI b) = -3 := by grind [tbF]
        have hsp : sp_areTwins M (nI a) (nI b) = (-3, M) := by grind [sp_areTwins]
        rw [hsp]
        exact pKl_i rfl hs hc
    · have hqn : ¬ (0 ≤ q ∧ q < nI (L 2 0)) := fun z => hq ⟨z.1, by have h2 := z.2; rw [hs.1, ← (Iv_nM hM).2] at h2; have := hM.2.2.2.1; grind⟩
      refine g_aload_n hC dX4_areTwins_6 rfl ?_
      refine g_iload_n hC dX4_areTwins_7 rfl ?_
      refine g_callV hC v_X4_mouldOrNull km_X4_78 (c_X4_mouldOrNull_n l X b0 lo L _ _ e0 q hqn) rfl cO rfl rfl rfl rfl (Nat.le_of_ble_eq_true rfl) ⟨by decide, by decide⟩ ⟨by decide, by decide⟩ dX4_areTwins_8 (kX ?_)
      refine g_astoreN hC dX4_areTwins_11 (by decide) ?_
      refine g_aload_n hC dX4_areTwins_13 rfl ?_
      refine g_ifnull hC dX4_areTwins_14 ?_
      refine g_aloadN hC dX4_areTwins_17 rfl ?_
      refine g_ifnonnullN hC dX4_areTwins_19 ?_
      refine g_iconst (v := (-1)) hC dX4_areTwins_22 (by decide) ?_
      refine g_ireti hR dX4_areTwins_23 rfl ?_
      clear hR hC hI
      have ht : tbF M (nI a) q = -1 := by grind [tbF]
      have hsp : sp_areTwins M (nI a) q = (-1, M) := by grind [sp_areTwins]
      rw [hsp]
      exact pKl_i rfl hs hc
  · have hpn : ¬ (0 ≤ p ∧ p < nI (L 2 0)) := fun z => hp ⟨z.1, by have h2 := z.2; rw [hs.1, ← (Iv_nM hM).2] at h2; have := hM.2.2.2.1; grind⟩
    refine g_aload_n hC dX4_areTwins_0 rfl ?_
    refine g_iload_n hC dX4_areTwins_1 rfl ?_
    refine g_callV hC v_X4_mouldOrNull km_X4_78 (c_X4_mouldOrNull_n l X b0 lo L _ _ e0 p hpn) rfl cO rfl rfl rfl rfl (Nat.le_of_ble_eq_true rfl) ⟨by decide, by decide⟩ ⟨by decide, by decide⟩ dX4_areTwins_2 (kX ?_)
    refine g_astore_nN hC dX4_areTwins_5 (by decide) ?_
    rcases Classical.em (isMo M q) with hq | hq
    · obtain ⟨b, hb10, rfl, hb, -⟩ := moOf hM hq
      have eb : nt (nI b) = b := nt_nI (by omega)
      have hb1 : b < L 2 0 := by rw [hs.1]; exact hb
      have hb25 : b < 25 := by omega
      have hN : L 2 0 ≤ 10 := by rw [hs.1]; exact (Iv_nM hM).1
      refine g_aload_n hC dX4_areTwins_6 rfl ?_
      refine g_iload_n hC dX4_areTwins_7 rfl ?_
      refine g_callV hC v_X4_mouldOrNull km_X4_78 (c_X4_mouldOrNull_s l X b0 lo L _ _ e0 b hb1 hN) rfl cO rfl rfl rfl rfl (Nat.le_of_ble_eq_true rfl) ⟨by decide, by decide⟩ ⟨by decide, by decide⟩ dX4_areTwins_8 (kX ?_)
      refine g_astore hC dX4_areTwins_11 (by decide) ?_
      refine g_aload_nN hC dX4_areTwins_13 rfl ?_
      refine g_ifnullN (tgt := 22) hC dX4_areTwins_14 (by decide) ?_
      refine g_iconst (v := (-1)) hC dX4_areTwins_22 (by decide) ?_
      refine g_ireti hR dX4_areTwins_23 rfl ?_
      clear hR hC hI
      have ht : tbF M p (nI b) = -1 := by grind [tbF]
      have hsp : sp_areTwins M p (nI b) = (-1, M) := by grind [sp_areTwins]
      rw [hsp]
      exact pKl_i rfl hs hc
    · have hqn : ¬ (0 ≤ q ∧ q < nI (L 2 0)) := fun z => hq ⟨z.1, by have h2 := z.2; rw [hs.1, ← (Iv_nM hM).2] at h2; have := hM.2.2.2.1; grind⟩
      refine g_aload_n hC dX4_areTwins_6 rfl ?_
      refine g_iload_n hC dX4_areTwins_7 rfl ?_
      refine g_callV hC v_X4_mouldOrNull km_X4_78 (c_X4_mouldOrNull_n l X b0 lo L _ _ e0 q hqn) rfl cO rfl rfl rfl rfl (Nat.le_of_ble_eq_true rfl) ⟨by decide, by decide⟩ ⟨by decide, by decide⟩ dX4_areTwins_8 (kX ?_)
      refine g_astoreN hC dX4_areTwins_11 (by decide) ?_
      refine g_aload_nN hC dX4_areTwins_13 rfl ?_
      refine g_ifnullN (tgt := 22) hC dX4_areTwins_14 (by decide) ?_
      refine g_iconst (v := (-1)) hC dX4_areTwins_22 (by decide) ?_
      refine g_ireti hR dX4_areTwins_23 rfl ?_
      clear hR hC hI
      have ht : tbF M p q = -1 := by grind [tbF]
      have hsp : sp_areTwins M p q = (-1, M) := by grind [sp_areTwins]
      rw [hsp]
      exact pKl_i rfl hs hc

set_option maxHeartbeats 4000000 in
set_option maxRecDepth 100000 in
theorem c_X4_twinDifference (l : Launch) (X : gX) (b0 : Nat) (lo : gL) (L : Nat → Nat → Nat) (K C : rM3) (e0 : gE) (M : rM2) (hM : Iv M) (hs : Sm L K M) (hc : Sc C M) (p q : Int32) : Ct l X b0 lo (enC X lo L K C e0) yX4_twinDifference cX4_twinDifference 7 (some FieldType.int) (rM 3 67) [.ref (lo 0), .int p, .int q] (pKl X lo e0 (sp_twinDifference M p q)) := by
  refine gMet (by decide) (Nat.le_of_ble_eq_true rfl) rfl ?_
  intro Z hC hI hR
  rcases Classical.em (isMo M p) with hp | hp
  · obtain ⟨a, ha10, rfl, ha, -⟩ := moOf hM hp
    have ea : nt (nI a) = a := nt_nI (by omega)
    have ha1 : a < L 2 0 := by rw [hs.1]; exact ha
    have ha25 : a < 25 := by omega
    have hN : L 2 0 ≤ 10 := by rw [hs.1]; exact (Iv_nM hM).1
    refine g_aload_n hC dX4_twinDifference_0 rfl ?_
    refine g_iload_n hC dX4_twinDifference_1 rfl ?_
    refine g_callV hC v_X4_mouldOrNull km_X4_78 (c_X4_mouldOrNull_s l X b0 lo L _ _ e0 a ha1 hN) rfl cO rfl rfl rfl rfl (Nat.le_of_ble_eq_true rfl) ⟨by decide, by decide⟩ ⟨by decide, by decide⟩ dX4_twinDifference_2 (kX ?_)
    refine g_astore_n hC dX4_twinDifference_5 (by decide) ?_
    rcases Classical.em (isMo M q) with hq | hq
    · obtain ⟨b, hb10, rfl, hb, -⟩ := moOf hM hq
      have eb : nt (nI b) = b := nt_nI (by omega)
      have hb1 : b < L 2 0 := by rw [hs.1]; exact hb
      have hb25 : b < 25 := by omega
      have hN : L 2 0 ≤ 10 := by rw [hs.1]; exact (Iv_nM hM).1
      refine g_aload_n hC dX4_twinDifference_6 rfl ?_
      refine g_iload_n hC dX4_twinDifference_7 rfl ?_
      refine g_callV hC v_X4_mouldOrNull km_X4_78 (c_X4_mouldOrNull_s l X b0 lo L _ _ e0 b hb1 hN) rfl cO rfl rfl rfl rfl (Nat.le_of_ble_eq_true rfl) ⟨by decide, by decide⟩ ⟨by decide, by decide⟩ dX4_twinDifference_8 (kX ?_)
      refine g_astore hC dX4_twinDifference_11 (by decide) ?_
      refine g_aload_n hC dX4_twinDifference_13 rfl ?_
      refine g_ifnull hC dX4_twinDifference_14 ?_
      refine g_aload hC dX4_twinDifference_17 rfl ?_
      refine g_ifnonnull (tgt := 24) hC dX4_twinDifference_19 (by decide) ?_
      refine g_iload_n hC dX4_twinDifference_24 rfl ?_
      refine g_iload_n hC dX4_twinDifference_25 rfl ?_
      refine g_icmp_ne (tgt := 32) hC dX4_twinDifference_26 (by decide) (fun c26 => ?_) (fun c26 => ?_)
      · refine g_aload_n hC dX4_twinDifference_32 rfl ?_
        refine g_aload_n hC dX4_twinDifference_33 rfl ?_
        refine g_aload hC dX4_twinDifference_34 rfl ?_
        refine g_callV hC v_X4_couldBeTwins km_X4_91 (c_X4_couldBeTwins l X b0 lo L _ _ e0 M hM hs a b ha hb) rfl cO rfl rfl rfl rfl (Nat.le_of_ble_eq_true rfl) ⟨by decide, by decide⟩ ⟨by decide, by decide⟩ dX4_twinDifference_36 (kX ?_)
        refine g_if_ne (tgt := 45) hC dX4_twinDifference_39 (by decide) (fun c39 => ?_) (fun c39 => ?_)
        · refine g_aload_n hC dX4_twinDifference_45 rfl ?_
          refine g_get hC rfl (cM ha1 ha25) rfl kl_X1 3 (by decide) kf_X4_95 rfl rfl dX4_twinDifference_46 ?_
          refine g_iconst (v := 0) hC dX4_twinDifference_49 (by decide) ?_
          refine g_iald hC rfl (cM2 ha1 ha25) 0 rfl (by decide) (by decide) dX4_twinDifference_50 ?_
          refine g_aload hC dX4_twinDifference_51 rfl ?_
          refine g_get hC rfl (cM hb1 hb25) rfl kl_X1 3 (by decide) kf_X4_95 rfl rfl dX4_twinDifference_53 ?_
          refine g_iconst (v := 0) hC dX4_twinDifference_56 (by decide) ?_
          refine g_iald hC rfl (cM2 hb1 hb25) 0 rfl (by decide) (by decide) dX4_twinDifference_57 ?_
          refine g_isub hC dX4_twinDifference_58 ?_
          refine g_mabs hC km_X4_98 ⟨by decide, Nat.le_of_ble_eq_true rfl⟩ ⟨Nat.le_of_ble_eq_true rfl, Nat.le_of_ble_eq_true rfl⟩ dX4_twinDifference_59 ?_
          refine g_istore hC dX4_twinDifference_62 (by decide) ?_
          refine g_aload_n hC dX4_twinDifference_64 rfl ?_
          refine g_get hC rfl (cM ha1 ha25) rfl kl_X1 4 (by decide) kf_X4_104 rfl rfl dX4_twinDifference_65 ?_
          refine g_iconst (v := 0) hC dX4_twinDifference_68 (by decide) ?_
          refine g_iald hC rfl (cM3 ha1 ha25) 0 rfl (by decide) (by decide) dX4_twinDifference_69 ?_
          refine g_aload hC dX4_twinDifference_70 rfl ?_
          refine g_get hC rfl (cM hb1 hb25) rfl kl_X1 4 (by decide) kf_X4_104 rfl rfl dX4_twinDifference_72 ?_
          refine g_iconst (v := 0) hC dX4_twinDifference_75 (by decide) ?_
          refine g_iald hC rfl (cM3 hb1 hb25) 0 rfl (by decide) (by decide) dX4_twinDifference_76 ?_
          refine g_isub hC dX4_twinDifference_77 ?_
          refine g_mabs hC km_X4_98 ⟨by decide, Nat.le_of_ble_eq_true rfl⟩ ⟨Nat.le_of_ble_eq_true rfl, Nat.le_of_ble_eq_true rfl⟩ dX4_twinDifference_78 ?_
          refine g_istore hC dX4_twinDifference_81 (by decide) ?_
          refine g_aload_n hC dX4_twinDifference_83 rfl ?_
          refine g_aload hC dX4_twinDifference_84 rfl ?_
          refine g_callS hC v_X4_greatestSpacingDifference km_X4_107 (c_X4_greatestSpacingDifference l X b0 lo L _ _ e0 M hM hs a b ha hb) rfl rfl (Nat.le_of_ble_eq_true rfl) ⟨by decide, by decide⟩ ⟨by decide, by decide⟩ dX4_twinDifference_86 (kX ?_)
          refine g_iload hC dX4_twinDifference_89 rfl ?_
          refine g_iload hC dX4_twinDifference_91 rfl ?_
          refine g_mmax hC km_X4_111 ⟨by decide, Nat.le_of_ble_eq_true rfl⟩ ⟨Nat.le_of_ble_eq_true rfl, Nat.le_of_ble_eq_true rfl⟩ dX4_twinDifference_93 ?_
          refine g_mmax hC km_X4_111 ⟨by decide, Nat.le_of_ble_eq_true rfl⟩ ⟨Nat.le_of_ble_eq_true rfl, Nat.le_of_ble_eq_true rfl⟩ dX4_twinDifference_96 ?_
          refine g_ireti hR dX4_twinDifference_99 rfl ?_
          clear hR hC hI
          have ht : tbF M (nI a) (nI b) = 0 := by grind [tbF]
          have htw : ¬ twF M a b < 0 := fun z => c39 (if_pos z)
          have heq : twF M a b = gdM M a b ∧ nt (M 1 a) = nt (M 1 b) := by
            unfold twF at htw ⊢
            split at htw
            · rename_i h1
              split at htw
              · exact absurd (by decide) htw
              · rename_i h2
                rw [if_pos h1, if_neg h2, h1.1]
                exact ⟨rfl, rfl⟩
            · exact absurd (by decide) htw
          have hsp : sp_twinDifference M (nI a) (nI b) = (mx (ap (M 6 (6 * a)) (M 6 (6 * b))) (mx (ap (M 5 (6 * a)) (M 5 (6 * b))) (twF M a b)), M) := by unfold sp_twinDifference; rw [ht, ea, eb, if_neg (by decide), if_neg htw]
          rw [hsp]
          have hr := gdM_R hM ha hb heq.2
          have hg : gdF (fun k => M 2 (10 * a + k)) (fun k => M 2 (10 * b + k)) (min (nt (M 1 a)) (nt (M 1 b))) = gdM M a b := by unfold gdM; rw [← heq.2, Nat.min_self]
          obtain ⟨a1, a2, a3, a4, a5, a6⟩ := hs.mo ha
          obtain ⟨b1, b2, b3, b4, b5, b6⟩ := hs.mo hb
          obtain ⟨n1, hn1, hn6, en, en2⟩ := Iv_st hM ha
          obtain ⟨n1', hn1', hn6', en', en2'⟩ := Iv_st hM hb
          have q1 := a6 0 (by omega)
          have q2 := b6 0 (by omega)
          have w1 := (hM.2.2.2.2.2.2.1 a ha).2.2.2.2 0 (by omega)
          have w2 := (hM.2.2.2.2.2.2.1 b hb).2.2.2.2 0 (by omega)
          rw [Nat.add_zero] at q1 q2 w1 w2
          refine pKl_i ?_ hs hc
          show _ = mx (ap (M 6 (6 * a)) (M 6 (6 * b))) (mx (ap (M 5 (6 * a)) (M 5 (6 * b))) (twF M a b))
          rw [hg, q1.1, q1.2, q2.1, q2.2, abs_ap w1.1 w2.1, abs_ap ⟨w1.2.1, by have := w1.2.2; grind⟩ ⟨w2.2.1, by have := w2.2.2; grind⟩, heq.1]
          exact mx3 _ _ _
        · refine g_bipush (v := (-6)) hC dX4_twinDifference_42 (by decide) ?_
          refine g_ireti hR dX4_twinDifference_44 rfl ?_
          clear hR hC hI
          have ht : tbF M (nI a) (nI b) = 0 := by grind [tbF]
          have hsp : sp_twinDifference M (nI a) (nI b) = (-6, M) := by grind [sp_twinDifference]
          rw [hsp]
          exact pKl_i rfl hs hc
      · refine g_bipush (v := (-3)) hC dX4_twinDifference_29 (by decide) ?_
        refine g_ireti hR dX4_twinDifference_31 rfl ?_
        clear hR hC hI
        have ht : tbF M (nI a) (nI b) = -3 := by grind [tbF]
        have hsp : sp_twinDifference M (nI a) (nI b) = (-3, M) := by grind [sp_twinDifference]
        rw [hsp]
        exact pKl_i rfl hs hc
    · have hqn : ¬ (0 ≤ q ∧ q < nI (L 2 0)) := fun z => hq ⟨z.1, by have h2 := z.2; rw [hs.1, ← (Iv_nM hM).2] at h2; have := hM.2.2.2.1; grind⟩
      refine g_aload_n hC dX4_twinDifference_6 rfl ?_
      refine g_iload_n hC dX4_twinDifference_7 rfl ?_
      refine g_callV hC v_X4_mouldOrNull km_X4_78 (c_X4_mouldOrNull_n l X b0 lo L _ _ e0 q hqn) rfl cO rfl rfl rfl rfl (Nat.le_of_ble_eq_true rfl) ⟨by decide, by decide⟩ ⟨by decide, by decide⟩ dX4_twinDifference_8 (kX ?_)
      refine g_astoreN hC dX4_twinDifference_11 (by decide) ?_
      refine g_aload_n hC dX4_twinDifference_13 rfl ?_
      refine g_ifnull hC dX4_twinDifference_14 ?_
      refine g_aloadN hC dX4_twinDifference_17 rfl ?_
      refine g_ifnonnullN hC dX4_twinDifference_19 ?_
      refine g_iconst (v := (-1)) hC dX4_twinDifference_22 (by decide) ?_
      refine g_ireti hR dX4_twinDifference_23 rfl ?_
      clear hR hC hI
      have ht : tbF M (nI a) q = -1 := by grind [tbF]
      have hsp : sp_twinDifference M (nI a) q = (-1, M) := by grind [sp_twinDifference]
      rw [hsp]
      exact pKl_i rfl hs hc
  · have hpn : ¬ (0 ≤ p ∧ p < nI (L 2 0)) := fun z => hp ⟨z.1, by have h2 := z.2; rw [hs.1, ← (Iv_nM hM).2] at h2; have := hM.2.2.2.1; grind⟩
    refine g_aload_n hC dX4_twinDifference_0 rfl ?_
    refine g_iload_n hC dX4_twinDifference_1 rfl ?_
    refine g_callV hC v_X4_mouldOrNull km_X4_78 (c_X4_mouldOrNull_n l X b0 lo L _ _ e0 p hpn) rfl cO rfl rfl rfl rfl (Nat.le_of_ble_eq_true rfl) ⟨by decide, by decide⟩ ⟨by decide, by decide⟩ dX4_twinDifference_2 (kX ?_)
    refine g_astore_nN hC dX4_twinDifference_5 (by decide) ?_
    rcases Classical.em (isMo M q) with hq | hq
    · obtain ⟨b, hb10, rfl, hb, -⟩ := moOf hM hq
      have eb : nt (nI b) = b := nt_nI (by omega)
      have hb1 : b < L 2 0 := by rw [hs.1]; exact hb
      have hb25 : b < 25 := by omega
      have hN : L 2 0 ≤ 10 := by rw [hs.1]; exact (Iv_nM hM).1
      refine g_aload_n hC dX4_twinDifference_6 rfl ?_
      refine g_iload_n hC dX4_twinDifference_7 rfl ?_
      refine g_callV hC v_X4_mouldOrNull km_X4_78 (c_X4_mouldOrNull_s l X b0 lo L _ _ e0 b hb1 hN) rfl cO rfl rfl rfl rfl (Nat.le_of_ble_eq_true rfl) ⟨by decide, by decide⟩ ⟨by decide, by decide⟩ dX4_twinDifference_8 (kX ?_)
      refine g_astore hC dX4_twinDifference_11 (by decide) ?_
      refine g_aload_nN hC dX4_twinDifference_13 rfl ?_
      refine g_ifnullN (tgt := 22) hC dX4_twinDifference_14 (by decide) ?_
      refine g_iconst (v := (-1)) hC dX4_twinDifference_22 (by decide) ?_
      refine g_ireti hR dX4_twinDifference_23 rfl ?_
      clear hR hC hI
      have ht : tbF M p (nI b) = -1 := by grind [tbF]
      have hsp : sp_twinDifference M p (nI b) = (-1, M) := by grind [sp_twinDifference]
      rw [hsp]
      exact pKl_i rfl hs hc
    · have hqn : ¬ (0 ≤ q ∧ q < nI (L 2 0)) := fun z => hq ⟨z.1, by have h2 := z.2; rw [hs.1, ← (Iv_nM hM).2] at h2; have := hM.2.2.2.1; grind⟩
      refine g_aload_n hC dX4_twinDifference_6 rfl ?_
      refine g_iload_n hC dX4_twinDifference_7 rfl ?_
      refine g_callV hC v_X4_mouldOrNull km_X4_78 (c_X4_mouldOrNull_n l X b0 lo L _ _ e0 q hqn) rfl cO rfl rfl rfl rfl (Nat.le_of_ble_eq_true rfl) ⟨by decide, by decide⟩ ⟨by decide, by decide⟩ dX4_twinDifference_8 (kX ?_)
      refine g_astoreN hC dX4_twinDifference_11 (by decide) ?_
      refine g_aload_nN hC dX4_twinDifference_13 rfl ?_
      refine g_ifnullN (tgt := 22) hC dX4_twinDifference_14 (by decide) ?_
      refine g_iconst (v := (-1)) hC dX4_twinDifference_22 (by decide) ?_
      refine g_ireti hR dX4_twinDifference_23 rfl ?_
      clear hR hC hI
      have ht : tbF M p q = -1 := by grind [tbF]
      have hsp : sp_twinDifference M p q = (-1, M) := by grind [sp_twinDifference]
      rw [hsp]
      exact pKl_i rfl hs hc
end
section
theorem g_tst : True := trivial
end
