-- ===== PART A: goes FIRST, ahead of the names: the tables' words, and 'selects' of the private methods out of them =====
/-- a hidden method of what the tables say can be made, by its rows of tables_1 -/
def lw_okq (q : MethodName × Nat) : Prop := (q.1.cls ≠ "java/lang/invoke/MethodHandle" ∧ q.1.cls ≠ "java/lang/invoke/VarHandle") ∧ Cond.instantiable q.1.cls q.2 ∈ tables_1 ∧ Cond.privateMethod q.1 ∈ tables_1 ∧ Cond.instanceMethod q.1 ∈ tables_1
theorem lw_p0 : lw_okq (⟨"ParallaxSheets", "sheetAt", "(I)LParallaxSheets$Sheet;"⟩, 6) := ⟨⟨by decide +kernel, by decide +kernel⟩, List.mem_of_getElem? (i := 16) (by decide +kernel), List.mem_of_getElem? (i := 172) (by decide +kernel), List.mem_of_getElem? (i := 173) (by decide +kernel)⟩
theorem lw_p1 : lw_okq (⟨"java/lang/Throwable", "fillInStackTrace", "(I)Ljava/lang/Throwable;"⟩, 6) := ⟨⟨by decide +kernel, by decide +kernel⟩, List.mem_of_getElem? (i := 214) (by decide +kernel), List.mem_of_getElem? (i := 212) (by decide +kernel), List.mem_of_getElem? (i := 213) (by decide +kernel)⟩
theorem lw_p2 : lw_okq (⟨"ParallaxSheets", "changeToNext", "(LParallaxSheets$Sheet;)I"⟩, 6) := ⟨⟨by decide +kernel, by decide +kernel⟩, List.mem_of_getElem? (i := 16) (by decide +kernel), List.mem_of_getElem? (i := 315) (by decide +kernel), List.mem_of_getElem? (i := 316) (by decide +kernel)⟩
theorem lw_p3 : lw_okq (⟨"ParallaxSheets$Filters", "pass", "(LParallaxSheets$Sheet;LParallaxSheets$Sheet;I)V"⟩, 5) := ⟨⟨by decide +kernel, by decide +kernel⟩, List.mem_of_getElem? (i := 53) (by decide +kernel), List.mem_of_getElem? (i := 380) (by decide +kernel), List.mem_of_getElem? (i := 381) (by decide +kernel)⟩
theorem lw_p4 : lw_okq (⟨"ParallaxSheets$Filters", "gatherNine", "(LParallaxSheets$Sheet;II)V"⟩, 5) := ⟨⟨by decide +kernel, by decide +kernel⟩, List.mem_of_getElem? (i := 53) (by decide +kernel), List.mem_of_getElem? (i := 385) (by decide +kernel), List.mem_of_getElem? (i := 386) (by decide +kernel)⟩
theorem lw_p5 : lw_okq (⟨"ParallaxSheets$Filters", "resultOfNine", "(I)I"⟩, 5) := ⟨⟨by decide +kernel, by decide +kernel⟩, List.mem_of_getElem? (i := 53) (by decide +kernel), List.mem_of_getElem? (i := 390) (by decide +kernel), List.mem_of_getElem? (i := 391) (by decide +kernel)⟩
theorem lw_p6 : lw_okq (⟨"ParallaxSheets$Filters", "weighted", "()I"⟩, 5) := ⟨⟨by decide +kernel, by decide +kernel⟩, List.mem_of_getElem? (i := 53) (by decide +kernel), List.mem_of_getElem? (i := 394) (by decide +kernel), List.mem_of_getElem? (i := 395) (by decide +kernel)⟩
theorem lw_p7 : lw_okq (⟨"ParallaxSheets$Filters", "middle", "()I"⟩, 5) := ⟨⟨by decide +kernel, by decide +kernel⟩, List.mem_of_getElem? (i := 53) (by decide +kernel), List.mem_of_getElem? (i := 398) (by decide +kernel), List.mem_of_getElem? (i := 399) (by decide +kernel)⟩
theorem lw_p8 : lw_okq (⟨"ParallaxSheets$Filters", "edge", "()I"⟩, 5) := ⟨⟨by decide +kernel, by decide +kernel⟩, List.mem_of_getElem? (i := 53) (by decide +kernel), List.mem_of_getElem? (i := 402) (by decide +kernel), List.mem_of_getElem? (i := 403) (by decide +kernel)⟩
theorem lw_p9 : lw_okq (⟨"ParallaxSheets$Filters", "least", "(Z)I"⟩, 5) := ⟨⟨by decide +kernel, by decide +kernel⟩, List.mem_of_getElem? (i := 53) (by decide +kernel), List.mem_of_getElem? (i := 409) (by decide +kernel), List.mem_of_getElem? (i := 410) (by decide +kernel)⟩
theorem lw_p10 : lw_okq (⟨"ParallaxSheets$Filters", "greatest", "(Z)I"⟩, 5) := ⟨⟨by decide +kernel, by decide +kernel⟩, List.mem_of_getElem? (i := 53) (by decide +kernel), List.mem_of_getElem? (i := 417) (by decide +kernel), List.mem_of_getElem? (i := 418) (by decide +kernel)⟩
theorem lw_p11 : lw_okq (⟨"ParallaxSheets$Tones", "planNegative", "()V"⟩, 3) := ⟨⟨by decide +kernel, by decide +kernel⟩, List.mem_of_getElem? (i := 77) (by decide +kernel), List.mem_of_getElem? (i := 436) (by decide +kernel), List.mem_of_getElem? (i := 437) (by decide +kernel)⟩
theorem lw_p12 : lw_okq (⟨"ParallaxSheets$Tones", "planStretch", "()V"⟩, 3) := ⟨⟨by decide +kernel, by decide +kernel⟩, List.mem_of_getElem? (i := 77) (by decide +kernel), List.mem_of_getElem? (i := 440) (by decide +kernel), List.mem_of_getElem? (i := 441) (by decide +kernel)⟩
theorem lw_p13 : lw_okq (⟨"ParallaxSheets$Tones", "planEven", "()V"⟩, 3) := ⟨⟨by decide +kernel, by decide +kernel⟩, List.mem_of_getElem? (i := 77) (by decide +kernel), List.mem_of_getElem? (i := 456) (by decide +kernel), List.mem_of_getElem? (i := 457) (by decide +kernel)⟩
theorem lw_p14 : lw_okq (⟨"ParallaxSheets$Tones", "planCut", "()V"⟩, 3) := ⟨⟨by decide +kernel, by decide +kernel⟩, List.mem_of_getElem? (i := 77) (by decide +kernel), List.mem_of_getElem? (i := 460) (by decide +kernel), List.mem_of_getElem? (i := 461) (by decide +kernel)⟩
theorem lw_p15 : lw_okq (⟨"ParallaxSheets", "factOf", "(LParallaxSheets$Sheet;I)I"⟩, 6) := ⟨⟨by decide +kernel, by decide +kernel⟩, List.mem_of_getElem? (i := 16) (by decide +kernel), List.mem_of_getElem? (i := 481) (by decide +kernel), List.mem_of_getElem? (i := 482) (by decide +kernel)⟩
def lw_privs_1 : List (MethodName × Nat) := [(⟨"ParallaxSheets", "sheetAt", "(I)LParallaxSheets$Sheet;"⟩, 6), (⟨"java/lang/Throwable", "fillInStackTrace", "(I)Ljava/lang/Throwable;"⟩, 6), (⟨"ParallaxSheets", "changeToNext", "(LParallaxSheets$Sheet;)I"⟩, 6), (⟨"ParallaxSheets$Filters", "pass", "(LParallaxSheets$Sheet;LParallaxSheets$Sheet;I)V"⟩, 5), (⟨"ParallaxSheets$Filters", "gatherNine", "(LParallaxSheets$Sheet;II)V"⟩, 5), (⟨"ParallaxSheets$Filters", "resultOfNine", "(I)I"⟩, 5), (⟨"ParallaxSheets$Filters", "weighted", "()I"⟩, 5), (⟨"ParallaxSheets$Filters", "middle", "()I"⟩, 5), (⟨"ParallaxSheets$Filters", "edge", "()I"⟩, 5), (⟨"ParallaxSheets$Filters", "least", "(Z)I"⟩, 5), (⟨"ParallaxSheets$Filters", "greatest", "(Z)I"⟩, 5), (⟨"ParallaxSheets$Tones", "planNegative", "()V"⟩, 3), (⟨"ParallaxSheets$Tones", "planStretch", "()V"⟩, 3), (⟨"ParallaxSheets$Tones", "planEven", "()V"⟩, 3), (⟨"ParallaxSheets$Tones", "planCut", "()V"⟩, 3), (⟨"ParallaxSheets", "factOf", "(LParallaxSheets$Sheet;I)I"⟩, 6)]
theorem lw_r1 : ∀ q ∈ lw_privs_1, lw_okq q := List.forall_mem_cons.mpr ⟨lw_p0, List.forall_mem_cons.mpr ⟨lw_p1, List.forall_mem_cons.mpr ⟨lw_p2, List.forall_mem_cons.mpr ⟨lw_p3, List.forall_mem_cons.mpr ⟨lw_p4, List.forall_mem_cons.mpr ⟨lw_p5, List.forall_mem_cons.mpr ⟨lw_p6, List.forall_mem_cons.mpr ⟨lw_p7, List.forall_mem_cons.mpr ⟨lw_p8, List.forall_mem_cons.mpr ⟨lw_p9, List.forall_mem_cons.mpr ⟨lw_p10, List.forall_mem_cons.mpr ⟨lw_p11, List.forall_mem_cons.mpr ⟨lw_p12, List.forall_mem_cons.mpr ⟨lw_p13, List.forall_mem_cons.mpr ⟨lw_p14, List.forall_mem_cons.mpr ⟨lw_p15, fun _ h => absurd h List.not_mem_nil⟩⟩⟩⟩⟩⟩⟩⟩⟩⟩⟩⟩⟩⟩⟩⟩
theorem lw_p16 : lw_okq (⟨"ParallaxSheets", "partsFrom", "(LParallaxSheets$Sheet;II)I"⟩, 6) := ⟨⟨by decide +kernel, by decide +kernel⟩, List.mem_of_getElem? (i := 16) (by decide +kernel), List.mem_of_getElem? (i := 509) (by decide +kernel), List.mem_of_getElem? (i := 510) (by decide +kernel)⟩
theorem lw_p17 : lw_okq (⟨"ParallaxSheets$Parts", "markMembers", "(LParallaxSheets$Sheet;IZ)V"⟩, 8) := ⟨⟨by decide +kernel, by decide +kernel⟩, List.mem_of_getElem? (i := 93) (by decide +kernel), List.mem_of_getElem? (i := 517) (by decide +kernel), List.mem_of_getElem? (i := 518) (by decide +kernel)⟩
theorem lw_p18 : lw_okq (⟨"ParallaxSheets$Parts", "gather", "(III)V"⟩, 8) := ⟨⟨by decide +kernel, by decide +kernel⟩, List.mem_of_getElem? (i := 93) (by decide +kernel), List.mem_of_getElem? (i := 525) (by decide +kernel), List.mem_of_getElem? (i := 526) (by decide +kernel)⟩
theorem lw_p19 : lw_okq (⟨"ParallaxSheets$Parts", "join", "(II)V"⟩, 8) := ⟨⟨by decide +kernel, by decide +kernel⟩, List.mem_of_getElem? (i := 93) (by decide +kernel), List.mem_of_getElem? (i := 529) (by decide +kernel), List.mem_of_getElem? (i := 530) (by decide +kernel)⟩
theorem lw_p20 : lw_okq (⟨"ParallaxSheets$Parts", "joinNeighbours", "(III)V"⟩, 8) := ⟨⟨by decide +kernel, by decide +kernel⟩, List.mem_of_getElem? (i := 93) (by decide +kernel), List.mem_of_getElem? (i := 533) (by decide +kernel), List.mem_of_getElem? (i := 534) (by decide +kernel)⟩
theorem lw_p21 : lw_okq (⟨"ParallaxSheets", "holesOf", "(LParallaxSheets$Sheet;I)I"⟩, 6) := ⟨⟨by decide +kernel, by decide +kernel⟩, List.mem_of_getElem? (i := 16) (by decide +kernel), List.mem_of_getElem? (i := 541) (by decide +kernel), List.mem_of_getElem? (i := 542) (by decide +kernel)⟩
theorem lw_p22 : lw_okq (⟨"ParallaxSheets$Parts", "bareSides", "(I)I"⟩, 8) := ⟨⟨by decide +kernel, by decide +kernel⟩, List.mem_of_getElem? (i := 93) (by decide +kernel), List.mem_of_getElem? (i := 562) (by decide +kernel), List.mem_of_getElem? (i := 563) (by decide +kernel)⟩
theorem lw_p23 : lw_okq (⟨"ParallaxSheets$Parts", "bareSide", "(II)I"⟩, 8) := ⟨⟨by decide +kernel, by decide +kernel⟩, List.mem_of_getElem? (i := 93) (by decide +kernel), List.mem_of_getElem? (i := 566) (by decide +kernel), List.mem_of_getElem? (i := 567) (by decide +kernel)⟩
theorem lw_p24 : lw_okq (⟨"ParallaxSheets$Parts", "bound", "(II)I"⟩, 8) := ⟨⟨by decide +kernel, by decide +kernel⟩, List.mem_of_getElem? (i := 93) (by decide +kernel), List.mem_of_getElem? (i := 570) (by decide +kernel), List.mem_of_getElem? (i := 571) (by decide +kernel)⟩
theorem lw_p25 : lw_okq (⟨"ParallaxSheets$Seams", "leastAbove", "(III)I"⟩, 4) := ⟨⟨by decide +kernel, by decide +kernel⟩, List.mem_of_getElem? (i := 126) (by decide +kernel), List.mem_of_getElem? (i := 606) (by decide +kernel), List.mem_of_getElem? (i := 607) (by decide +kernel)⟩
theorem lw_p26 : lw_okq (⟨"ParallaxSheets$Seams", "bestColumn", "(IIII)I"⟩, 4) := ⟨⟨by decide +kernel, by decide +kernel⟩, List.mem_of_getElem? (i := 126) (by decide +kernel), List.mem_of_getElem? (i := 610) (by decide +kernel), List.mem_of_getElem? (i := 611) (by decide +kernel)⟩
theorem lw_p27 : lw_okq (⟨"ParallaxSheets", "costOfCarving", "(LParallaxSheets$Sheet;I)I"⟩, 6) := ⟨⟨by decide +kernel, by decide +kernel⟩, List.mem_of_getElem? (i := 16) (by decide +kernel), List.mem_of_getElem? (i := 643) (by decide +kernel), List.mem_of_getElem? (i := 644) (by decide +kernel)⟩
theorem lw_p28 : lw_okq (⟨"ParallaxSheets", "digestFacts", "(JLParallaxSheets$Sheet;)J"⟩, 6) := ⟨⟨by decide +kernel, by decide +kernel⟩, List.mem_of_getElem? (i := 16) (by decide +kernel), List.mem_of_getElem? (i := 652) (by decide +kernel), List.mem_of_getElem? (i := 653) (by decide +kernel)⟩
theorem lw_p29 : lw_okq (⟨"ParallaxSheets", "digestSeams", "(JLParallaxSheets$Sheet;)J"⟩, 6) := ⟨⟨by decide +kernel, by decide +kernel⟩, List.mem_of_getElem? (i := 16) (by decide +kernel), List.mem_of_getElem? (i := 660) (by decide +kernel), List.mem_of_getElem? (i := 661) (by decide +kernel)⟩
def lw_privs_2 : List (MethodName × Nat) := [(⟨"ParallaxSheets", "partsFrom", "(LParallaxSheets$Sheet;II)I"⟩, 6), (⟨"ParallaxSheets$Parts", "markMembers", "(LParallaxSheets$Sheet;IZ)V"⟩, 8), (⟨"ParallaxSheets$Parts", "gather", "(III)V"⟩, 8), (⟨"ParallaxSheets$Parts", "join", "(II)V"⟩, 8), (⟨"ParallaxSheets$Parts", "joinNeighbours", "(III)V"⟩, 8), (⟨"ParallaxSheets", "holesOf", "(LParallaxSheets$Sheet;I)I"⟩, 6), (⟨"ParallaxSheets$Parts", "bareSides", "(I)I"⟩, 8), (⟨"ParallaxSheets$Parts", "bareSide", "(II)I"⟩, 8), (⟨"ParallaxSheets$Parts", "bound", "(II)I"⟩, 8), (⟨"ParallaxSheets$Seams", "leastAbove", "(III)I"⟩, 4), (⟨"ParallaxSheets$Seams", "bestColumn", "(IIII)I"⟩, 4), (⟨"ParallaxSheets", "costOfCarving", "(LParallaxSheets$Sheet;I)I"⟩, 6), (⟨"ParallaxSheets", "digestFacts", "(JLParallaxSheets$Sheet;)J"⟩, 6), (⟨"ParallaxSheets", "digestSeams", "(JLParallaxSheets$Sheet;)J"⟩, 6)]
theorem lw_r2 : ∀ q ∈ lw_privs_2, lw_okq q := List.forall_mem_cons.mpr ⟨lw_p16, List.forall_mem_cons.mpr ⟨lw_p17, List.forall_mem_cons.mpr ⟨lw_p18, List.forall_mem_cons.mpr ⟨lw_p19, List.forall_mem_cons.mpr ⟨lw_p20, List.forall_mem_cons.mpr ⟨lw_p21, List.forall_mem_cons.mpr ⟨lw_p22, List.forall_mem_cons.mpr ⟨lw_p23, List.forall_mem_cons.mpr ⟨lw_p24, List.forall_mem_cons.mpr ⟨lw_p25, List.forall_mem_cons.mpr ⟨lw_p26, List.forall_mem_cons.mpr ⟨lw_p27, List.forall_mem_cons.mpr ⟨lw_p28, List.forall_mem_cons.mpr ⟨lw_p29, fun _ h => absurd h List.not_mem_nil⟩⟩⟩⟩⟩⟩⟩⟩⟩⟩⟩⟩⟩⟩
def lw_privs : List (MethodName × Nat) := lw_privs_1 ++ (lw_privs_2)
def lw_tbl : List Cond := k2_sels lw_privs ++ tables_1
theorem lw_privs_ok : ∀ q ∈ lw_privs, lw_okq q := by
  show ∀ q ∈ lw_privs_1 ++ (lw_privs_2), lw_okq q
  exact List.forall_mem_append.mpr ⟨lw_r1, lw_r2⟩
/-- the streams that the claim lets the run draw from -/
abbrev lw_cs : List Choice := [Jvm.Choice.named "NaN.bits"]
theorem lw_bits : nanBits ∈ lw_cs := by first | decide | exact List.mem_cons_self | simp [lw_cs, nanBits]

def RX0 : String := "ParallaxSheets$Filters"
def TX0 : u_T := fun k => match k with
  | 0 => ("ParallaxSheets$Filters", "weights", "[I", true)
  | 1 => ("ParallaxSheets$Filters", "divisor", "I", false)
  | 2 => ("ParallaxSheets$Filters", "base", "I", false)
  | 3 => ("ParallaxSheets$Filters", "nine", "[I", true)
  | _ => ("ParallaxSheets$Filters", "between", "LParallaxSheets$Sheet;", true)
def tyX0 : Nat → FieldType := fun k => match k with
  | 0 => .array .int
  | 1 => .int
  | 2 => .int
  | 3 => .array .int
  | _ => .object "ParallaxSheets$Sheet"
abbrev wsX00 : List Cond := u_ws RX0 TX0 5
theorem nmX0 : ∀ a, a < 5 → ∀ b, b < 5 → a ≠ b → (TX0 a).2.1 ≠ (TX0 b).2.1 := by decide +kernel
theorem tyX0_ok : ∀ k, k < 5 → parseFieldDescriptor (TX0 k).2.2.1 = some (tyX0 k) := by decide +kernel
abbrev cX0_init : ByteArray := prog_2_method_1_code
def yX0_init : MethodName := ⟨RX0, "<init>", "()V"⟩
abbrev cX0_run : ByteArray := prog_2_method_2_code
def yX0_run : MethodName := ⟨RX0, "run", "(LParallaxSheets$Sheet;LParallaxSheets$Sheet;I)V"⟩
abbrev cX0_pass : ByteArray := prog_2_method_3_code
def yX0_pass : MethodName := ⟨RX0, "pass", "(LParallaxSheets$Sheet;LParallaxSheets$Sheet;I)V"⟩
abbrev cX0_gatherNine : ByteArray := prog_2_method_4_code
def yX0_gatherNine : MethodName := ⟨RX0, "gatherNine", "(LParallaxSheets$Sheet;II)V"⟩
abbrev cX0_resultOfNine : ByteArray := prog_2_method_5_code
def yX0_resultOfNine : MethodName := ⟨RX0, "resultOfNine", "(I)I"⟩
abbrev cX0_weighted : ByteArray := prog_2_method_6_code
def yX0_weighted : MethodName := ⟨RX0, "weighted", "()I"⟩
abbrev cX0_middle : ByteArray := prog_2_method_7_code
def yX0_middle : MethodName := ⟨RX0, "middle", "()I"⟩
abbrev cX0_edge : ByteArray := prog_2_method_8_code
def yX0_edge : MethodName := ⟨RX0, "edge", "()I"⟩
abbrev cX0_least : ByteArray := prog_2_method_9_code
def yX0_least : MethodName := ⟨RX0, "least", "(Z)I"⟩
abbrev cX0_greatest : ByteArray := prog_2_method_10_code
def yX0_greatest : MethodName := ⟨RX0, "greatest", "(Z)I"⟩
abbrev cX0_isInCross : ByteArray := prog_2_method_11_code
def yX0_isInCross : MethodName := ⟨RX0, "isInCross", "(I)Z"⟩
def RX1 : String := "ParallaxSheets$Parts"
def TX1 : u_T := fun k => match k with
  | 0 => ("ParallaxSheets$Parts", "found", "I", false)
  | 1 => ("ParallaxSheets$Parts", "numbers", "[I", true)
  | 2 => ("ParallaxSheets$Parts", "waiting", "[I", true)
  | 3 => ("ParallaxSheets$Parts", "waitingCount", "I", false)
  | 4 => ("ParallaxSheets$Parts", "sizes", "[I", true)
  | 5 => ("ParallaxSheets$Parts", "atEdge", "[Z", true)
  | 6 => ("ParallaxSheets$Parts", "width", "I", false)
  | _ => ("ParallaxSheets$Parts", "height", "I", false)
def tyX1 : Nat → FieldType := fun k => match k with
  | 0 => .int
  | 1 => .array .int
  | 2 => .array .int
  | 3 => .int
  | 4 => .array .int
  | 5 => .array .boolean
  | 6 => .int
  | _ => .int
abbrev wsX10 : List Cond := u_ws RX1 TX1 8
theorem nmX1 : ∀ a, a < 8 → ∀ b, b < 8 → a ≠ b → (TX1 a).2.1 ≠ (TX1 b).2.1 := by decide +kernel
theorem tyX1_ok : ∀ k, k < 8 → parseFieldDescriptor (TX1 k).2.2.1 = some (tyX1 k) := by decide +kernel
abbrev cX1_init : ByteArray := prog_3_method_1_code
def yX1_init : MethodName := ⟨RX1, "<init>", "()V"⟩
abbrev cX1_find : ByteArray := prog_3_method_2_code
def yX1_find : MethodName := ⟨RX1, "find", "(LParallaxSheets$Sheet;IIZ)V"⟩
abbrev cX1_markMembers : ByteArray := prog_3_method_3_code
def yX1_markMembers : MethodName := ⟨RX1, "markMembers", "(LParallaxSheets$Sheet;IZ)V"⟩
abbrev cX1_gather : ByteArray := prog_3_method_4_code
def yX1_gather : MethodName := ⟨RX1, "gather", "(III)V"⟩
abbrev cX1_join : ByteArray := prog_3_method_5_code
def yX1_join : MethodName := ⟨RX1, "join", "(II)V"⟩
abbrev cX1_joinNeighbours : ByteArray := prog_3_method_6_code
def yX1_joinNeighbours : MethodName := ⟨RX1, "joinNeighbours", "(III)V"⟩
abbrev cX1_numberAt : ByteArray := prog_3_method_7_code
def yX1_numberAt : MethodName := ⟨RX1, "numberAt", "(II)I"⟩
abbrev cX1_awayFromEdges : ByteArray := prog_3_method_9_code
def yX1_awayFromEdges : MethodName := ⟨RX1, "awayFromEdges", "()I"⟩
abbrev cX1_factOf : ByteArray := prog_3_method_10_code
def yX1_factOf : MethodName := ⟨RX1, "factOf", "(II)I"⟩
abbrev cX1_bound : ByteArray := prog_3_method_11_code
def yX1_bound : MethodName := ⟨RX1, "bound", "(II)I"⟩
abbrev cX1_bareSides : ByteArray := prog_3_method_12_code
def yX1_bareSides : MethodName := ⟨RX1, "bareSides", "(I)I"⟩
abbrev cX1_bareSide : ByteArray := prog_3_method_13_code
def yX1_bareSide : MethodName := ⟨RX1, "bareSide", "(II)I"⟩
def RX2 : String := "ParallaxSheets$Seams"
def TX2 : u_T := fun k => match k with
  | 0 => ("ParallaxSheets$Seams", "total", "I", false)
  | 1 => ("ParallaxSheets$Seams", "columns", "[I", true)
  | 2 => ("ParallaxSheets$Seams", "sums", "[I", true)
  | _ => ("ParallaxSheets$Seams", "result", "LParallaxSheets$Sheet;", true)
def tyX2 : Nat → FieldType := fun k => match k with
  | 0 => .int
  | 1 => .array .int
  | 2 => .array .int
  | _ => .object "ParallaxSheets$Sheet"
abbrev wsX20 : List Cond := u_ws RX2 TX2 4
theorem nmX2 : ∀ a, a < 4 → ∀ b, b < 4 → a ≠ b → (TX2 a).2.1 ≠ (TX2 b).2.1 := by decide +kernel
theorem tyX2_ok : ∀ k, k < 4 → parseFieldDescriptor (TX2 k).2.2.1 = some (tyX2 k) := by decide +kernel
abbrev cX2_init : ByteArray := prog_4_method_1_code
def yX2_init : MethodName := ⟨RX2, "<init>", "()V"⟩
abbrev cX2_find : ByteArray := prog_4_method_2_code
def yX2_find : MethodName := ⟨RX2, "find", "(LParallaxSheets$Sheet;)V"⟩
abbrev cX2_leastAbove : ByteArray := prog_4_method_3_code
def yX2_leastAbove : MethodName := ⟨RX2, "leastAbove", "(III)I"⟩
abbrev cX2_costOf : ByteArray := prog_4_method_4_code
def yX2_costOf : MethodName := ⟨RX2, "costOf", "(LParallaxSheets$Sheet;II)I"⟩
abbrev cX2_bestColumn : ByteArray := prog_4_method_5_code
def yX2_bestColumn : MethodName := ⟨RX2, "bestColumn", "(IIII)I"⟩
abbrev cX2_takeOut : ByteArray := prog_4_method_6_code
def yX2_takeOut : MethodName := ⟨RX2, "takeOut", "(LParallaxSheets$Sheet;)V"⟩
abbrev cX2_putIn : ByteArray := prog_4_method_7_code
def yX2_putIn : MethodName := ⟨RX2, "putIn", "(LParallaxSheets$Sheet;)V"⟩
def RX3 : String := "ParallaxSheets$Sheet"
def TX3 : u_T := fun k => match k with
  | 0 => ("ParallaxSheets$Sheet", "width", "I", false)
  | 1 => ("ParallaxSheets$Sheet", "height", "I", false)
  | _ => ("ParallaxSheets$Sheet", "values", "[I", true)
def tyX3 : Nat → FieldType := fun k => match k with
  | 0 => .int
  | 1 => .int
  | _ => .array .int
abbrev wsX30 : List Cond := u_ws RX3 TX3 3
theorem nmX3 : ∀ a, a < 3 → ∀ b, b < 3 → a ≠ b → (TX3 a).2.1 ≠ (TX3 b).2.1 := by decide +kernel
theorem tyX3_ok : ∀ k, k < 3 → parseFieldDescriptor (TX3 k).2.2.1 = some (tyX3 k) := by decide +kernel
abbrev cX3_init : ByteArray := prog_5_method_1_code
def yX3_init : MethodName := ⟨RX3, "<init>", "()V"⟩
abbrev cX3_size : ByteArray := prog_5_method_2_code
def yX3_size : MethodName := ⟨RX3, "size", "()I"⟩
abbrev cX3_measure : ByteArray := prog_5_method_3_code
def yX3_measure : MethodName := ⟨RX3, "measure", "(II)V"⟩
abbrev cX3_near : ByteArray := prog_5_method_4_code
def yX3_near : MethodName := ⟨RX3, "near", "(II)I"⟩
abbrev cX3_put : ByteArray := prog_5_method_5_code
def yX3_put : MethodName := ⟨RX3, "put", "(III)V"⟩
abbrev cX3_total : ByteArray := prog_5_method_6_code
def yX3_total : MethodName := ⟨RX3, "total", "()I"⟩
abbrev cX3_isAsLargeAs : ByteArray := prog_5_method_7_code
def yX3_isAsLargeAs : MethodName := ⟨RX3, "isAsLargeAs", "(LParallaxSheets$Sheet;)Z"⟩
abbrev cX3_differing : ByteArray := prog_5_method_8_code
def yX3_differing : MethodName := ⟨RX3, "differing", "(LParallaxSheets$Sheet;)I"⟩
abbrev cX3_become : ByteArray := prog_5_method_9_code
def yX3_become : MethodName := ⟨RX3, "become", "(LParallaxSheets$Sheet;)V"⟩
def RX4 : String := "ParallaxSheets$Tones"
def TX4 : u_T := fun k => match k with
  | 0 => ("ParallaxSheets$Tones", "counts", "[I", true)
  | 1 => ("ParallaxSheets$Tones", "plans", "[I", true)
  | _ => ("ParallaxSheets$Tones", "fields", "I", false)
def tyX4 : Nat → FieldType := fun k => match k with
  | 0 => .array .int
  | 1 => .array .int
  | _ => .int
abbrev wsX40 : List Cond := u_ws RX4 TX4 3
theorem nmX4 : ∀ a, a < 3 → ∀ b, b < 3 → a ≠ b → (TX4 a).2.1 ≠ (TX4 b).2.1 := by decide +kernel
theorem tyX4_ok : ∀ k, k < 3 → parseFieldDescriptor (TX4 k).2.2.1 = some (tyX4 k) := by decide +kernel
abbrev cX4_init : ByteArray := prog_6_method_1_code
def yX4_init : MethodName := ⟨RX4, "<init>", "()V"⟩
abbrev cX4_read : ByteArray := prog_6_method_2_code
def yX4_read : MethodName := ⟨RX4, "read", "(LParallaxSheets$Sheet;)V"⟩
abbrev cX4_planned : ByteArray := prog_6_method_3_code
def yX4_planned : MethodName := ⟨RX4, "planned", "(I)I"⟩
abbrev cX4_plan : ByteArray := prog_6_method_4_code
def yX4_plan : MethodName := ⟨RX4, "plan", "(I)V"⟩
abbrev cX4_planNegative : ByteArray := prog_6_method_5_code
def yX4_planNegative : MethodName := ⟨RX4, "planNegative", "()V"⟩
abbrev cX4_planStretch : ByteArray := prog_6_method_6_code
def yX4_planStretch : MethodName := ⟨RX4, "planStretch", "()V"⟩
abbrev cX4_planEven : ByteArray := prog_6_method_7_code
def yX4_planEven : MethodName := ⟨RX4, "planEven", "()V"⟩
abbrev cX4_planCut : ByteArray := prog_6_method_8_code
def yX4_planCut : MethodName := ⟨RX4, "planCut", "()V"⟩
abbrev cX4_least : ByteArray := prog_6_method_9_code
def yX4_least : MethodName := ⟨RX4, "least", "()I"⟩
abbrev cX4_greatest : ByteArray := prog_6_method_10_code
def yX4_greatest : MethodName := ⟨RX4, "greatest", "()I"⟩
abbrev cX4_inOrder : ByteArray := prog_6_method_11_code
def yX4_inOrder : MethodName := ⟨RX4, "inOrder", "(I)I"⟩
abbrev cX4_cut : ByteArray := prog_6_method_12_code
def yX4_cut : MethodName := ⟨RX4, "cut", "()I"⟩
def RX5 : String := "ParallaxSheets"
def TX5 : u_T := fun k => match k with
  | 0 => ("ParallaxSheets", "sheets", "[LParallaxSheets$Sheet;", true)
  | 1 => ("ParallaxSheets", "next", "LParallaxSheets$Sheet;", true)
  | 2 => ("ParallaxSheets", "filters", "LParallaxSheets$Filters;", true)
  | 3 => ("ParallaxSheets", "tones", "LParallaxSheets$Tones;", true)
  | 4 => ("ParallaxSheets", "parts", "LParallaxSheets$Parts;", true)
  | _ => ("ParallaxSheets", "seams", "LParallaxSheets$Seams;", true)
def tyX5 : Nat → FieldType := fun k => match k with
  | 0 => .array (.object "ParallaxSheets$Sheet")
  | 1 => .object "ParallaxSheets$Sheet"
  | 2 => .object "ParallaxSheets$Filters"
  | 3 => .object "ParallaxSheets$Tones"
  | 4 => .object "ParallaxSheets$Parts"
  | _ => .object "ParallaxSheets$Seams"
abbrev wsX50 : List Cond := u_ws RX5 TX5 6
theorem nmX5 : ∀ a, a < 6 → ∀ b, b < 6 → a ≠ b → (TX5 a).2.1 ≠ (TX5 b).2.1 := by decide +kernel
theorem tyX5_ok : ∀ k, k < 6 → parseFieldDescriptor (TX5 k).2.2.1 = some (tyX5 k) := by decide +kernel
abbrev cX5_init : ByteArray := prog_1_method_1_code
def yX5_init : MethodName := ⟨RX5, "<init>", "()V"⟩
abbrev cX5_fresh : ByteArray := prog_1_method_2_code
def yX5_fresh : MethodName := ⟨RX5, "fresh", "(IIII)I"⟩
abbrev cX5_dot : ByteArray := prog_1_method_3_code
def yX5_dot : MethodName := ⟨RX5, "dot", "(IIII)I"⟩
abbrev cX5_disc : ByteArray := prog_1_method_5_code
def yX5_disc : MethodName := ⟨RX5, "disc", "(IIIII)I"⟩
abbrev cX5_shade : ByteArray := prog_1_method_6_code
def yX5_shade : MethodName := ⟨RX5, "shade", "(IIII)I"⟩
abbrev cX5_copy : ByteArray := prog_1_method_7_code
def yX5_copy : MethodName := ⟨RX5, "copy", "(II)I"⟩
abbrev cX5_turn : ByteArray := prog_1_method_9_code
def yX5_turn : MethodName := ⟨RX5, "turn", "(II)I"⟩
abbrev cX5_filter : ByteArray := prog_1_method_12_code
def yX5_filter : MethodName := ⟨RX5, "filter", "(II)I"⟩
abbrev cX5_values : ByteArray := prog_1_method_13_code
def yX5_values : MethodName := ⟨RX5, "values", "(II)I"⟩
abbrev cX5_value : ByteArray := prog_1_method_14_code
def yX5_value : MethodName := ⟨RX5, "value", "(III)I"⟩
abbrev cX5_sheet : ByteArray := prog_1_method_15_code
def yX5_sheet : MethodName := ⟨RX5, "sheet", "(II)I"⟩
abbrev cX5_count : ByteArray := prog_1_method_16_code
def yX5_count : MethodName := ⟨RX5, "count", "(III)I"⟩
abbrev cX5_ordered : ByteArray := prog_1_method_17_code
def yX5_ordered : MethodName := ⟨RX5, "ordered", "(II)I"⟩
abbrev cX5_difference : ByteArray := prog_1_method_18_code
def yX5_difference : MethodName := ⟨RX5, "difference", "(II)D"⟩
abbrev cX5_parts : ByteArray := prog_1_method_19_code
def yX5_parts : MethodName := ⟨RX5, "parts", "(II)I"⟩
abbrev cX5_holes : ByteArray := prog_1_method_20_code
def yX5_holes : MethodName := ⟨RX5, "holes", "(II)I"⟩
abbrev cX5_partOf : ByteArray := prog_1_method_21_code
def yX5_partOf : MethodName := ⟨RX5, "partOf", "(IIII)I"⟩
abbrev cX5_part : ByteArray := prog_1_method_22_code
def yX5_part : MethodName := ⟨RX5, "part", "(IIII)I"⟩
abbrev cX5_far : ByteArray := prog_1_method_24_code
def yX5_far : MethodName := ⟨RX5, "far", "(IIII)I"⟩
abbrev cX5_carve : ByteArray := prog_1_method_26_code
def yX5_carve : MethodName := ⟨RX5, "carve", "(I)I"⟩
abbrev cX5_widen : ByteArray := prog_1_method_27_code
def yX5_widen : MethodName := ⟨RX5, "widen", "(I)I"⟩
abbrev cX5_seam : ByteArray := prog_1_method_28_code
def yX5_seam : MethodName := ⟨RX5, "seam", "(II)I"⟩
abbrev cX5_partsAt : ByteArray := prog_1_method_29_code
def yX5_partsAt : MethodName := ⟨RX5, "partsAt", "(III)I"⟩
abbrev cX5_carvedBy : ByteArray := prog_1_method_30_code
def yX5_carvedBy : MethodName := ⟨RX5, "carvedBy", "(II)I"⟩
abbrev cX5_digest : ByteArray := prog_1_method_31_code
def yX5_digest : MethodName := ⟨RX5, "digest", "()J"⟩
abbrev cX5_sheetAt : ByteArray := prog_1_method_32_code
def yX5_sheetAt : MethodName := ⟨RX5, "sheetAt", "(I)LParallaxSheets$Sheet;"⟩
abbrev cX5_needField : ByteArray := prog_1_method_33_code
def yX5_needField : MethodName := ⟨RX5, "needField", "(LParallaxSheets$Sheet;II)V"⟩
abbrev cX5_needPlace : ByteArray := prog_1_method_34_code
def yX5_needPlace : MethodName := ⟨RX5, "needPlace", "(Z)V"⟩
abbrev cX5_refuseUnless : ByteArray := prog_1_method_35_code
def yX5_refuseUnless : MethodName := ⟨RX5, "refuseUnless", "(Z)V"⟩
abbrev cX5_needState : ByteArray := prog_1_method_36_code
def yX5_needState : MethodName := ⟨RX5, "needState", "(Z)V"⟩
abbrev cX5_isFrom : ByteArray := prog_1_method_37_code
def yX5_isFrom : MethodName := ⟨RX5, "isFrom", "(III)Z"⟩
abbrev cX5_isValue : ByteArray := prog_1_method_38_code
def yX5_isValue : MethodName := ⟨RX5, "isValue", "(I)Z"⟩
abbrev cX5_isSlope : ByteArray := prog_1_method_39_code
def yX5_isSlope : MethodName := ⟨RX5, "isSlope", "(I)Z"⟩
abbrev cX5_isWays : ByteArray := prog_1_method_40_code
def yX5_isWays : MethodName := ⟨RX5, "isWays", "(I)Z"⟩
abbrev cX5_changeToNext : ByteArray := prog_1_method_41_code
def yX5_changeToNext : MethodName := ⟨RX5, "changeToNext", "(LParallaxSheets$Sheet;)I"⟩
abbrev cX5_turnedSide : ByteArray := prog_1_method_42_code
def yX5_turnedSide : MethodName := ⟨RX5, "turnedSide", "(III)I"⟩
abbrev cX5_turnedValue : ByteArray := prog_1_method_43_code
def yX5_turnedValue : MethodName := ⟨RX5, "turnedValue", "(LParallaxSheets$Sheet;III)I"⟩
abbrev cX5_factOf : ByteArray := prog_1_method_44_code
def yX5_factOf : MethodName := ⟨RX5, "factOf", "(LParallaxSheets$Sheet;I)I"⟩
abbrev cX5_partsFrom : ByteArray := prog_1_method_45_code
def yX5_partsFrom : MethodName := ⟨RX5, "partsFrom", "(LParallaxSheets$Sheet;II)I"⟩
abbrev cX5_holesOf : ByteArray := prog_1_method_46_code
def yX5_holesOf : MethodName := ⟨RX5, "holesOf", "(LParallaxSheets$Sheet;I)I"⟩
abbrev cX5_farOf : ByteArray := prog_1_method_47_code
def yX5_farOf : MethodName := ⟨RX5, "farOf", "(LParallaxSheets$Sheet;III)I"⟩
abbrev cX5_farWithin : ByteArray := prog_1_method_48_code
def yX5_farWithin : MethodName := ⟨RX5, "farWithin", "(LParallaxSheets$Sheet;III)I"⟩
abbrev cX5_farToOutside : ByteArray := prog_1_method_49_code
def yX5_farToOutside : MethodName := ⟨RX5, "farToOutside", "(LParallaxSheets$Sheet;III)I"⟩
abbrev cX5_distance : ByteArray := prog_1_method_50_code
def yX5_distance : MethodName := ⟨RX5, "distance", "(III)I"⟩
abbrev cX5_costOfCarving : ByteArray := prog_1_method_51_code
def yX5_costOfCarving : MethodName := ⟨RX5, "costOfCarving", "(LParallaxSheets$Sheet;I)I"⟩
abbrev cX5_digestWith : ByteArray := prog_1_method_52_code
def yX5_digestWith : MethodName := ⟨RX5, "digestWith", "(JI)J"⟩
abbrev cX5_digestFacts : ByteArray := prog_1_method_53_code
def yX5_digestFacts : MethodName := ⟨RX5, "digestFacts", "(JLParallaxSheets$Sheet;)J"⟩
abbrev cX5_digestSeams : ByteArray := prog_1_method_54_code
def yX5_digestSeams : MethodName := ⟨RX5, "digestSeams", "(JLParallaxSheets$Sheet;)J"⟩
abbrev cX5_digestFields : ByteArray := prog_1_method_55_code
def yX5_digestFields : MethodName := ⟨RX5, "digestFields", "(JLParallaxSheets$Sheet;)J"⟩
def RX6 : String := "ParallaxSheetsModel$Sheet"
def RX7 : String := "ParallaxSheetsModel"
def RL : String := "ParallaxSheetsLaw"
abbrev cL_below : ByteArray := method_2_code
def yL_below : MethodName := ⟨RL, "below", "(II)I"⟩
abbrev cL_cell : ByteArray := method_3_code
def yL_cell : MethodName := ⟨RL, "cell", "([II)I"⟩
abbrev cL_law : ByteArray := code
def yL_law : MethodName := ⟨RL, "law", "([I)Z"⟩
