section
-- ===== PART A: goes FIRST, ahead of the names: the tables' words, and 'selects' of the private methods out of them =====
/-- a private method of a class that the tables say can be made, by its rows of tables_1 -/
def lw_okq (q : MethodName × Nat) : Prop := (q.1.cls ≠ "java/lang/invoke/MethodHandle" ∧ q.1.cls ≠ "java/lang/invoke/VarHandle") ∧ Cond.instantiable q.1.cls q.2 ∈ tables_1 ∧ Cond.privateMethod q.1 ∈ tables_1 ∧ Cond.instanceMethod q.1 ∈ tables_1
theorem lw_p0 : lw_okq (⟨"ParallaxSheets", "sheetAt", "(I)LParallaxSheets$Sheet;"⟩, 6) := ⟨⟨by decide +kernel, by decide +kernel⟩, List.mem_of_getElem? (i := 16) (by decide +kernel), List.mem_of_getElem? (i := 172) (by decide +kernel), List.mem_of_getElem? (i := 173) (by decide +kernel)⟩
theorem lw_p1 : lw_okq (⟨"java/lang/Throwable", "fillInStackTrace", "(I)Ljava/lang/Throwable;"⟩, 6) := ⟨⟨by decide +kernel, by decide +kernel⟩, List.mem_of_getElem? (i := 214) (by decide +kernel), List.mem_of_getElem? (i := 212) (by decide +kernel), List.mem_of_getElem? (i := 213) (by decide +kernel)⟩
theorem lw_p2 : lw_okq (⟨"ParallaxSheets", "changeToNext", "(LParallaxSheets$Sheet;)I"⟩, 6) := ⟨⟨by decide +kernel, by decide +kernel⟩, List.mem_of_getElem? (i := 16) (by decide +kernel), List.mem_of_getElem? (i := 315) (by decide +kernel), List.mem_of_getElem? (i := 316) (by decide +kernel)⟩
theorem lw_p3 : lw_okq (⟨"ParallaxSheets$Filters", "pass", "(LParallaxSheets$Sheet;LParallaxSheets$Sheet;I)V"⟩, 5) := ⟨⟨by decide +kernel, by decide +kernel⟩, List.mem_of_getElem? (i := 53) (by decide +kernel), List.mem_of_getElem? (i := 380) (by decide +kernel), List.mem_of_getElem? (i := 381) (by decide +kernel)⟩
theorem lw_p4 : lw_okq (⟨"ParallaxSheets$Filters", "gatherNine", "(LParallaxSheets$Sheet;II)V"⟩, 5) := ⟨⟨by decide +kernel, by decide +kernel⟩, List.mem_of_getElem? (i := 53) (by decide +kernel), List.mem_of_getElem? (i := 385) (by decide +kernel), List.mem_of_getElem? (i := 386) (by decide +kernel)⟩
theorem lw_p5 : lw_okq (⟨"ParallaxSheets$Filters", "resultOfNine", "(I)I"⟩, 5) := ⟨⟨by decide +kernel, by decide +kernel⟩, List.mem_of_getElem? (i := 53) (by decide +kernel), List.mem_of_getElem? (i := 390) (by decide +kernel), List.mem_of_getElem? (i := 391) (by decide +kernel)⟩
theorem lw_p6 : lw_okq (⟨"ParallaxSheets$Filters", "weighted", "()I"⟩, 5) := ⟨⟨by decide +kernel, by decide +kernel⟩, List.mem_of_getElem? (i := 53) (by decide +kernel), List.mem_of_getElem? (i := 394) (by decide +kernel), List.mem_of_getElem? (i := 395) (by decide +kernel)⟩
theorem lw_p7 : lw_okq (⟨"ParallaxSheets$Filters", "middle", "()I"⟩, 5) := ⟨⟨by decide +kernel, by decide +kernel⟩, List.mem_of_getElem? (i := 53) (by decide +kernel), List.mem_of_getElem? (i := 398) (by decide +kernel), List.mem_of_getElem? (i := 399) (by decide +kernel)⟩
theorem lw_p8 : lw_okq (⟨"ParallaxSheets$Filters", "edge", "()I"⟩, 5) := ⟨⟨by decide +kernel, by decide +kernel⟩, List.mem_of_getElem? (i := 53) (by decide +kernel), List.mem_of_getElem? (i := 402) (by decide +kernel), List.mem_of_getElem? (i := 403) (by decide +kernel)⟩
theorem lw_p9 : lw_okq (⟨"ParallaxSheets$Filters", "least", "(Z)I"⟩, 5) := ⟨⟨by decide +kernel, by decide +kernel⟩, List.mem_of_getElem? (i := 53) (by decide +kernel), List.mem_of_getElem? (i := 409) (by decide +kernel), List.mem_of_getElem? (i := 410) (by decide +kernel)⟩
theorem lw_p10 : lw_okq (⟨"ParallaxSheets$Filters", "greatest", "(Z)I"⟩, 5) := ⟨⟨by decide +kernel, by decide +kernel⟩, List.mem_of_getElem? (i := 53) (by decide +kernel), List.mem_of_getElem? (i := 417) (by decide +kernel), List.mem_of_getElem? (i := 418) (by decide +kernel)⟩
theorem lw_p11 : lw_okq (⟨"ParallaxSheets$Tones", "planNegative", "()V"⟩, 3) := ⟨⟨by decide +kernel, by decide +kernel⟩, List.mem_of_getElem? (i := 77) (by decide +kernel), List.mem_of_getElem? (i := 436) (by decide +kernel), List.mem_of_getElem? (i := 437) (by decide +kernel)⟩
theorem lw_p12 : lw_okq (⟨"ParallaxSheets$Tones", "planStretch", "()V"⟩, 3) := ⟨⟨by decide +kernel, by decide +kernel⟩, List.mem_of_getElem? (i := 77) (by decide +kernel), List.mem_of_getElem? (i := 440) (by decide +kernel), List.mem_of_getElem? (i := 441) (by decide +kernel)⟩
theorem lw_p13 : lw_okq (⟨"ParallaxSheets$Tones", "planEven", "()V"⟩, 3) := ⟨⟨by decide +kernel, by decide +kernel⟩, List.mem_of_getElem? (i := 77) (by decide +kernel), List.mem_of_getElem? (i := 456) (by decide +kernel), List.mem_of_getElem? (i := 457) (by decide +kernel)⟩
theorem lw_p14 : lw_okq (⟨"ParallaxSheets$Tones", "planCut", "()V"⟩, 3) := ⟨⟨by decide +kernel, by decide +kernel⟩, List.mem_of_getElem? (i := 77) (by decide +kernel), List.mem_of_getElem? (i := 460) (by decide +kernel), List.mem_of_getElem? (i := 461) (by decide +kernel)⟩
theorem lw_p15 : lw_okq (⟨"ParallaxSheets", "factOf", "(LParallaxSheets$Sheet;I)I"⟩, 6) := ⟨⟨by decide +kernel, by decide +kernel⟩, List.mem_of_getElem? (i := 16) (by decide +kernel), List.mem_of_getElem? (i := 481) (by decide +kernel), List.mem_of_getElem? (i := 482) (by decide +kernel)⟩
def lw_privs_1 : List (MethodName × Nat) := [(⟨"ParallaxSheets", "sheetAt", "(I)LParallaxSheets$Sheet;"⟩, 6), (⟨"java/lang/Throwable", "fillInStackTrace", "(I)Ljava/lang/Throwable;"⟩, 6), (⟨"ParallaxSheets", "changeToNext", "(LParallaxSheets$Sheet;)I"⟩, 6), (⟨"ParallaxSheets$Filters", "pass", "(LParallaxSheets$Sheet;LParallaxSheets$Sheet;I)V"⟩, 5), (⟨"ParallaxSheets$Filters", "gatherNine", "(LParallaxSheets$Sheet;II)V"⟩, 5), (⟨"ParallaxSheets$Filters", "resultOfNine", "(I)I"⟩, 5), (⟨"ParallaxSheets$Filters", "weighted", "()I"⟩, 5), (⟨"ParallaxSheets$Filters", "middle", "()I"⟩, 5), (⟨"ParallaxSheets$Filters", "edge", "()I"⟩, 5), (⟨"ParallaxSheets$Filters", "least", "(Z)I"⟩, 5), (⟨"ParallaxSheets$Filters", "greatest", "(Z)I"⟩, 5), (⟨"ParallaxSheets$Tones", "planNegative", "()V"⟩, 3), (⟨"ParallaxSheets$Tones", "planStretch", "()V"⟩, 3), (⟨"ParallaxSheets$Tones", "planEven", "()V"⟩, 3), (⟨"ParallaxSheets$Tones", "planCut", "()V"⟩, 3), (⟨"ParallaxSheets", "factOf", "(LParallaxSheets$Sheet;I)I"⟩, 6)]
theorem lw_r1 : ∀ q ∈ lw_privs_1, lw_okq q := List.forall_mem_cons.mpr ⟨lw_p0, List.forall_mem_cons.mpr ⟨lw_p1, List.forall_mem_cons.mpr ⟨lw_p2, List.forall_mem_cons.mpr ⟨lw_p3, List.forall_mem_cons.mpr ⟨lw_p4, List.forall_mem_cons.mpr ⟨lw_p5, List.forall_mem_cons.mpr ⟨lw_p6, List.forall_mem_cons.mpr ⟨lw_p7, List.forall_mem_cons.mpr ⟨lw_p8, List.forall_mem_cons.mpr ⟨lw_p9, List.forall_mem_cons.mpr ⟨lw_p10, List.forall_mem_cons.mpr ⟨lw_p11, List.forall_mem_cons.mpr ⟨lw_p12, List.forall_mem_cons.mpr ⟨lw_p13, List.forall_mem_cons.mpr ⟨lw_p14, List.forall_mem_cons.mpr ⟨lw_p15, fun _ h => absurd h List.not_mem_nil⟩⟩⟩⟩⟩⟩⟩⟩⟩⟩⟩⟩⟩⟩⟩⟩
theorem lw_p16 : lw_okq (⟨"ParallaxSheets", "partsFrom", "(LParallaxSheets$Sheet;II)I"⟩, 6) := ⟨⟨by decide +kernel, by decide +kernel⟩, List.mem_of_getElem? (i := 16) (by decide +kernel), List.mem_of_getElem? (i := 509) (by decide +kernel), List.mem_of_getElem? (i := 510) (by decide +kernel)⟩
theorem lw_p17 : lw_okq (⟨"ParallaxSheets$Parts", "markMembers", "(LParallaxSheets$Sheet;IZ)V"⟩, 8) := ⟨⟨by decide +kernel, by decide +kernel⟩, List.mem_of_getElem? (i := 93) (by decide +kernel), List.mem_of_getElem? (i := 517) (by decide +kernel), List.mem_of_getElem? (i := 518) (by decide +kernel)⟩
theorem lw_p18 : lw_okq (⟨"ParallaxSheets$Parts", "gather", "(III)V"⟩, 8) := ⟨⟨by decide +kernel, by decide +kernel⟩, List.mem_of_getElem? (i := 93) (by decide +kernel), List.mem_of_getElem? (i := 525) (by decide +kernel), List.mem_of_getElem? (i := 526) (by decide +kernel)⟩
theorem lw_p19 : lw_okq (⟨"ParallaxSheets$Parts", "join", "(II)V"⟩, 8) := ⟨⟨by decide +kernel, by decide +kernel⟩, List.mem_of_getElem? (i := 93) (by decide +kernel), List.mem_of_getElem? (i := 529) (by decide +kernel), List.mem_of_getElem? (i := 530) (by decide +kernel)⟩
theorem lw_p20 : lw_okq (⟨"ParallaxSheets$Parts", "joinNeighbours", "(III)V"⟩, 8) := ⟨⟨by decide +kernel, by decide +kernel⟩, List.mem_of_getElem? (i := 93) (by decide +kernel), List.mem_of_getElem? (i := 533) (by decide +kernel), List.mem_of_getElem? (i := 534) (by decide +kernel)⟩
theorem lw_p21 : lw_okq (⟨"ParallaxSheets", "holesOf", "(LParallaxSheets$Sheet;I)I"⟩, 6) := ⟨⟨by decide +kernel, by decide +kernel⟩, List.mem_of_getElem? (i := 16) (by decide +kernel), List.mem_of_getElem? (i := 541) (by decide +kernel), List.mem_of_getElem? (i := 542) (by decide +kernel)⟩
theorem lw_p22 : lw_okq (⟨"ParallaxSheets$Parts", "bareSides", "(I)I"⟩, 8) := ⟨⟨by decide +kernel, by decide +kernel⟩, List.mem_of_getElem? (i := 93) (by decide +kernel), List.mem_of_getElem? (i := 562) (by decide +kernel), List.mem_of_getElem? (i := 563) (by decide +kernel)⟩
theorem lw_p23 : lw_okq (⟨"ParallaxSheets$Parts", "bareSide", "(II)I"⟩, 8) := ⟨⟨by decide +kernel, by decide +kernel⟩, List.mem_of_getElem? (i := 93) (by decide +kernel), List.mem_of_getElem? (i := 566) (by decide +kernel), List.mem_of_getElem? (i := 567) (by decide +kernel)⟩
theorem lw_p24 : lw_okq (⟨"ParallaxSheets$Parts", "bound", "(II)I"⟩, 8) := ⟨⟨by decide +kernel, by decide +kernel⟩, List.mem_of_getElem? (i := 93) (by decide +kernel), List.mem_of_getElem? (i := 570) (by decide +kernel), List.mem_of_getElem? (i := 571) (by decide +kernel)⟩
theorem lw_p25 : lw_okq (⟨"ParallaxSheets$Seams", "leastAbove", "(III)I"⟩, 4) := ⟨⟨by decide +kernel, by decide +kernel⟩, List.mem_of_getElem? (i := 126) (by decide +kernel), List.mem_of_getElem? (i := 606) (by decide +kernel), List.mem_of_getElem? (i := 607) (by decide +kernel)⟩
theorem lw_p26 : lw_okq (⟨"ParallaxSheets$Seams", "bestColumn", "(IIII)I"⟩, 4) := ⟨⟨by decide +kernel, by decide +kernel⟩, List.mem_of_getElem? (i := 126) (by decide +kernel), List.mem_of_getElem? (i := 610) (by decide +kernel), List.mem_of_getElem? (i := 611) (by decide +kernel)⟩
theorem lw_p27 : lw_okq (⟨"ParallaxSheets", "costOfCarving", "(LParallaxSheets$Sheet;I)I"⟩, 6) := ⟨⟨by decide +kernel, by decide +kernel⟩, List.mem_of_getElem? (i := 16) (by decide +kernel), List.mem_of_getElem? (i := 643) (by decide +kernel), List.mem_of_getElem? (i := 644) (by decide +kernel)⟩
theorem lw_p28 : lw_okq (⟨"ParallaxSheets", "digestFacts", "(JLParallaxSheets$Sheet;)J"⟩, 6) := ⟨⟨by decide +kernel, by decide +kernel⟩, List.mem_of_getElem? (i := 16) (by decide +kernel), List.mem_of_getElem? (i := 652) (by decide +kernel), List.mem_of_getElem? (i := 653) (by decide +kernel)⟩
theorem lw_p29 : lw_okq (⟨"ParallaxSheets", "digestSeams", "(JLParallaxSheets$Sheet;)J"⟩, 6) := ⟨⟨by decide +kernel, by decide +kernel⟩, List.mem_of_getElem? (i := 16) (by decide +kernel), List.mem_of_getElem? (i := 660) (by decide +kernel), List.mem_of_getElem? (i := 661) (by decide +kernel)⟩
def lw_privs_2 : List (MethodName × Nat) := [(⟨"ParallaxSheets", "partsFrom", "(LParallaxSheets$Sheet;II)I"⟩, 6), (⟨"ParallaxSheets$Parts", "markMembers", "(LParallaxSheets$Sheet;IZ)V"⟩, 8), (⟨"ParallaxSheets$Parts", "gather", "(III)V"⟩, 8), (⟨"ParallaxSheets$Parts", "join", "(II)V"⟩, 8), (⟨"ParallaxSheets$Parts", "joinNeighbours", "(III)V"⟩, 8), (⟨"ParallaxSheets", "holesOf", "(LParallaxSheets$Sheet;I)I"⟩, 6), (⟨"ParallaxSheets$Parts", "bareSides", "(I)I"⟩, 8), (⟨"ParallaxSheets$Parts", "bareSide", "(II)I"⟩, 8), (⟨"ParallaxSheets$Parts", "bound", "(II)I"⟩, 8), (⟨"ParallaxSheets$Seams", "leastAbove", "(III)I"⟩, 4), (⟨"ParallaxSheets$Seams", "bestColumn", "(IIII)I"⟩, 4), (⟨"ParallaxSheets", "costOfCarving", "(LParallaxSheets$Sheet;I)I"⟩, 6), (⟨"ParallaxSheets", "digestFacts", "(JLParallaxSheets$Sheet;)J"⟩, 6), (⟨"ParallaxSheets", "digestSeams", "(JLParallaxSheets$Sheet;)J"⟩, 6)]
theorem lw_r2 : ∀ q ∈ lw_privs_2, lw_okq q := List.forall_mem_cons.mpr ⟨lw_p16, List.forall_mem_cons.mpr ⟨lw_p17, List.forall_mem_cons.mpr ⟨lw_p18, List.forall_mem_cons.mpr ⟨lw_p19, List.forall_mem_cons.mpr ⟨lw_p20, List.forall_mem_cons.mpr ⟨lw_p21, List.forall_mem_cons.mpr ⟨lw_p22, List.forall_mem_cons.mpr ⟨lw_p23, List.forall_mem_cons.mpr ⟨lw_p24, List.forall_mem_cons.mpr ⟨lw_p25, List.forall_mem_cons.mpr ⟨lw_p26, List.forall_mem_cons.mpr ⟨lw_p27, List.forall_mem_cons.mpr ⟨lw_p28, List.forall_mem_cons.mpr ⟨lw_p29, fun _ h => absurd h List.not_mem_nil⟩⟩⟩⟩⟩⟩⟩⟩⟩⟩⟩⟩⟩⟩
def lw_privs : List (MethodName × Nat) := lw_privs_1 ++ (lw_privs_2)
def lw_tbl : List Cond := k2_sels lw_privs ++ tables_1
theorem lw_privs_ok : ∀ q ∈ lw_privs, lw_okq q := by
  show ∀ q ∈ lw_privs_1 ++ (lw_privs_2), lw_okq q
  exact List.forall_mem_append.mpr ⟨lw_r1, lw_r2⟩
/-- the streams that the claim lets the run draw from -/
abbrev lw_cs : List Choice := [Jvm.Choice.named "NaN.bits"]
theorem lw_bits : nanBits ∈ lw_cs := by first | decide | exact List.mem_cons_self | simp [lw_cs, nanBits]

def RX0 : String := "ParallaxSheets$Filters"
def TX0 : u_T := fun k => match k with
  | 0 => ("ParallaxSheets$Filters", "weights", "[I", true)
  | 1 => ("ParallaxSheets$Filters", "divisor", "I", false)
  | 2 => ("ParallaxSheets$Filters", "base", "I", false)
  | 3 => ("ParallaxSheets$Filters", "nine", "[I", true)
  | _ => ("ParallaxSheets$Filters", "between", "LParallaxSheets$Sheet;", true)
def tyX0 : Nat → FieldType := fun k => match k with
  | 0 => .array .int
  | 1 => .int
  | 2 => .int
  | 3 => .array .int
  | _ => .object "ParallaxSheets$Sheet"
abbrev wsX00 : List Cond := u_ws RX0 TX0 5
theorem nmX0 : ∀ a, a < 5 → ∀ b, b < 5 → a ≠ b → (TX0 a).2.1 ≠ (TX0 b).2.1 := by decide +kernel
theorem tyX0_ok : ∀ k, k < 5 → parseFieldDescriptor (TX0 k).2.2.1 = some (tyX0 k) := by decide +kernel
abbrev cX0_init : ByteArray := prog_2_method_1_code
def yX0_init : MethodName := ⟨RX0, "<init>", "()V"⟩
abbrev cX0_run : ByteArray := prog_2_method_2_code
def yX0_run : MethodName := ⟨RX0, "run", "(LParallaxSheets$Sheet;LParallaxSheets$Sheet;I)V"⟩
abbrev cX0_pass : ByteArray := prog_2_method_3_code
def yX0_pass : MethodName := ⟨RX0, "pass", "(LParallaxSheets$Sheet;LParallaxSheets$Sheet;I)V"⟩
abbrev cX0_gatherNine : ByteArray := prog_2_method_4_code
def yX0_gatherNine : MethodName := ⟨RX0, "gatherNine", "(LParallaxSheets$Sheet;II)V"⟩
abbrev cX0_resultOfNine : ByteArray := prog_2_method_5_code
def yX0_resultOfNine : MethodName := ⟨RX0, "resultOfNine", "(I)I"⟩
abbrev cX0_weighted : ByteArray := prog_2_method_6_code
def yX0_weighted : MethodName := ⟨RX0, "weighted", "()I"⟩
abbrev cX0_middle : ByteArray := prog_2_method_7_code
def yX0_middle : MethodName := ⟨RX0, "middle", "()I"⟩
abbrev cX0_edge : ByteArray := prog_2_method_8_code
def yX0_edge : MethodName := ⟨RX0, "edge", "()I"⟩
abbrev cX0_least : ByteArray := prog_2_method_9_code
def yX0_least : MethodName := ⟨RX0, "least", "(Z)I"⟩
abbrev cX0_greatest : ByteArray := prog_2_method_10_code
def yX0_greatest : MethodName := ⟨RX0, "greatest", "(Z)I"⟩
abbrev cX0_isInCross : ByteArray := prog_2_method_11_code
def yX0_isInCross : MethodName := ⟨RX0, "isInCross", "(I)Z"⟩
def RX1 : String := "ParallaxSheets$Parts"
def TX1 : u_T := fun k => match k with
  | 0 => ("ParallaxSheets$Parts", "found", "I", false)
  | 1 => ("ParallaxSheets$Parts", "numbers", "[I", true)
  | 2 => ("ParallaxSheets$Parts", "waiting", "[I", true)
  | 3 => ("ParallaxSheets$Parts", "waitingCount", "I", false)
  | 4 => ("ParallaxSheets$Parts", "sizes", "[I", true)
  | 5 => ("ParallaxSheets$Parts", "atEdge", "[Z", true)
  | 6 => ("ParallaxSheets$Parts", "width", "I", false)
  | _ => ("ParallaxSheets$Parts", "height", "I", false)
def tyX1 : Nat → FieldType := fun k => match k with
  | 0 => .int
  | 1 => .array .int
  | 2 => .array .int
  | 3 => .int
  | 4 => .array .int
  | 5 => .array .boolean
  | 6 => .int
  | _ => .int
abbrev wsX10 : List Cond := u_ws RX1 TX1 8
theorem nmX1 : ∀ a, a < 8 → ∀ b, b < 8 → a ≠ b → (TX1 a).2.1 ≠ (TX1 b).2.1 := by decide +kernel
theorem tyX1_ok : ∀ k, k < 8 → parseFieldDescriptor (TX1 k).2.2.1 = some (tyX1 k) := by decide +kernel
abbrev cX1_init : ByteArray := prog_3_method_1_code
def yX1_init : MethodName := ⟨RX1, "<init>", "()V"⟩
abbrev cX1_find : ByteArray := prog_3_method_2_code
def yX1_find : MethodName := ⟨RX1, "find", "(LParallaxSheets$Sheet;IIZ)V"⟩
abbrev cX1_markMembers : ByteArray := prog_3_method_3_code
def yX1_markMembers : MethodName := ⟨RX1, "markMembers", "(LParallaxSheets$Sheet;IZ)V"⟩
abbrev cX1_gather : ByteArray := prog_3_method_4_code
def yX1_gather : MethodName := ⟨RX1, "gather", "(III)V"⟩
abbrev cX1_join : ByteArray := prog_3_method_5_code
def yX1_join : MethodName := ⟨RX1, "join", "(II)V"⟩
abbrev cX1_joinNeighbours : ByteArray := prog_3_method_6_code
def yX1_joinNeighbours : MethodName := ⟨RX1, "joinNeighbours", "(III)V"⟩
abbrev cX1_numberAt : ByteArray := prog_3_method_7_code
def yX1_numberAt : MethodName := ⟨RX1, "numberAt", "(II)I"⟩
abbrev cX1_awayFromEdges : ByteArray := prog_3_method_9_code
def yX1_awayFromEdges : MethodName := ⟨RX1, "awayFromEdges", "()I"⟩
abbrev cX1_factOf : ByteArray := prog_3_method_10_code
def yX1_factOf : MethodName := ⟨RX1, "factOf", "(II)I"⟩
abbrev cX1_bound : ByteArray := prog_3_method_11_code
def yX1_bound : MethodName := ⟨RX1, "bound", "(II)I"⟩
abbrev cX1_bareSides : ByteArray := prog_3_method_12_code
def yX1_bareSides : MethodName := ⟨RX1, "bareSides", "(I)I"⟩
abbrev cX1_bareSide : ByteArray := prog_3_method_13_code
def yX1_bareSide : MethodName := ⟨RX1, "bareSide", "(II)I"⟩
def RX2 : String := "ParallaxSheets$Seams"
def TX2 : u_T := fun k => match k with
  | 0 => ("ParallaxSheets$Seams", "total", "I", false)
  | 1 => ("ParallaxSheets$Seams", "columns", "[I", true)
  | 2 => ("ParallaxSheets$Seams", "sums", "[I", true)
  | _ => ("ParallaxSheets$Seams", "result", "LParallaxSheets$Sheet;", true)
def tyX2 : Nat → FieldType := fun k => match k with
  | 0 => .int
  | 1 => .array .int
  | 2 => .array .int
  | _ => .object "ParallaxSheets$Sheet"
abbrev wsX20 : List Cond := u_ws RX2 TX2 4
theorem nmX2 : ∀ a, a < 4 → ∀ b, b < 4 → a ≠ b → (TX2 a).2.1 ≠ (TX2 b).2.1 := by decide +kernel
theorem tyX2_ok : ∀ k, k < 4 → parseFieldDescriptor (TX2 k).2.2.1 = some (tyX2 k) := by decide +kernel
abbrev cX2_init : ByteArray := prog_4_method_1_code
def yX2_init : MethodName := ⟨RX2, "<init>", "()V"⟩
abbrev cX2_find : ByteArray := prog_4_method_2_code
def yX2_find : MethodName := ⟨RX2, "find", "(LParallaxSheets$Sheet;)V"⟩
abbrev cX2_leastAbove : ByteArray := prog_4_method_3_code
def yX2_leastAbove : MethodName := ⟨RX2, "leastAbove", "(III)I"⟩
abbrev cX2_costOf : ByteArray := prog_4_method_4_code
def yX2_costOf : MethodName := ⟨RX2, "costOf", "(LParallaxSheets$Sheet;II)I"⟩
abbrev cX2_bestColumn : ByteArray := prog_4_method_5_code
def yX2_bestColumn : MethodName := ⟨RX2, "bestColumn", "(IIII)I"⟩
abbrev cX2_takeOut : ByteArray := prog_4_method_6_code
def yX2_takeOut : MethodName := ⟨RX2, "takeOut", "(LParallaxSheets$Sheet;)V"⟩
abbrev cX2_putIn : ByteArray := prog_4_method_7_code
def yX2_putIn : MethodName := ⟨RX2, "putIn", "(LParallaxSheets$Sheet;)V"⟩
def RX3 : String := "ParallaxSheets$Sheet"
def TX3 : u_T := fun k => match k with
  | 0 => ("ParallaxSheets$Sheet", "width", "I", false)
  | 1 => ("ParallaxSheets$Sheet", "height", "I", false)
  | _ => ("ParallaxSheets$Sheet", "values", "[I", true)
def tyX3 : Nat → FieldType := fun k => match k with
  | 0 => .int
  | 1 => .int
  | _ => .array .int
abbrev wsX30 : List Cond := u_ws RX3 TX3 3
theorem nmX3 : ∀ a, a < 3 → ∀ b, b < 3 → a ≠ b → (TX3 a).2.1 ≠ (TX3 b).2.1 := by decide +kernel
theorem tyX3_ok : ∀ k, k < 3 → parseFieldDescriptor (TX3 k).2.2.1 = some (tyX3 k) := by decide +kernel
abbrev cX3_init : ByteArray := prog_5_method_1_code
def yX3_init : MethodName := ⟨RX3, "<init>", "()V"⟩
abbrev cX3_size : ByteArray := prog_5_method_2_code
def yX3_size : MethodName := ⟨RX3, "size", "()I"⟩
abbrev cX3_measure : ByteArray := prog_5_method_3_code
def yX3_measure : MethodName := ⟨RX3, "measure", "(II)V"⟩
abbrev cX3_near : ByteArray := prog_5_method_4_code
def yX3_near : MethodName := ⟨RX3, "near", "(II)I"⟩
abbrev cX3_put : ByteArray := prog_5_method_5_code
def yX3_put : MethodName := ⟨RX3, "put", "(III)V"⟩
abbrev cX3_total : ByteArray := prog_5_method_6_code
def yX3_total : MethodName := ⟨RX3, "total", "()I"⟩
abbrev cX3_isAsLargeAs : ByteArray := prog_5_method_7_code
def yX3_isAsLargeAs : MethodName := ⟨RX3, "isAsLargeAs", "(LParallaxSheets$Sheet;)Z"⟩
abbrev cX3_differing : ByteArray := prog_5_method_8_code
def yX3_differing : MethodName := ⟨RX3, "differing", "(LParallaxSheets$Sheet;)I"⟩
abbrev cX3_become : ByteArray := prog_5_method_9_code
def yX3_become : MethodName := ⟨RX3, "become", "(LParallaxSheets$Sheet;)V"⟩
def RX4 : String := "ParallaxSheets$Tones"
def TX4 : u_T := fun k => match k with
  | 0 => ("ParallaxSheets$Tones", "counts", "[I", true)
  | 1 => ("ParallaxSheets$Tones", "plans", "[I", true)
  | _ => ("ParallaxSheets$Tones", "fields", "I", false)
def tyX4 : Nat → FieldType := fun k => match k with
  | 0 => .array .int
  | 1 => .array .int
  | _ => .int
abbrev wsX40 : List Cond := u_ws RX4 TX4 3
theorem nmX4 : ∀ a, a < 3 → ∀ b, b < 3 → a ≠ b → (TX4 a).2.1 ≠ (TX4 b).2.1 := by decide +kernel
theorem tyX4_ok : ∀ k, k < 3 → parseFieldDescriptor (TX4 k).2.2.1 = some (tyX4 k) := by decide +kernel
abbrev cX4_init : ByteArray := prog_6_method_1_code
def yX4_init : MethodName := ⟨RX4, "<init>", "()V"⟩
abbrev cX4_read : ByteArray := prog_6_method_2_code
def yX4_read : MethodName := ⟨RX4, "read", "(LParallaxSheets$Sheet;)V"⟩
abbrev cX4_planned : ByteArray := prog_6_method_3_code
def yX4_planned : MethodName := ⟨RX4, "planned", "(I)I"⟩
abbrev cX4_plan : ByteArray := prog_6_method_4_code
def yX4_plan : MethodName := ⟨RX4, "plan", "(I)V"⟩
abbrev cX4_planNegative : ByteArray := prog_6_method_5_code
def yX4_planNegative : MethodName := ⟨RX4, "planNegative", "()V"⟩
abbrev cX4_planStretch : ByteArray := prog_6_method_6_code
def yX4_planStretch : MethodName := ⟨RX4, "planStretch", "()V"⟩
abbrev cX4_planEven : ByteArray := prog_6_method_7_code
def yX4_planEven : MethodName := ⟨RX4, "planEven", "()V"⟩
abbrev cX4_planCut : ByteArray := prog_6_method_8_code
def yX4_planCut : MethodName := ⟨RX4, "planCut", "()V"⟩
abbrev cX4_least : ByteArray := prog_6_method_9_code
def yX4_least : MethodName := ⟨RX4, "least", "()I"⟩
abbrev cX4_greatest : ByteArray := prog_6_method_10_code
def yX4_greatest : MethodName := ⟨RX4, "greatest", "()I"⟩
abbrev cX4_inOrder : ByteArray := prog_6_method_11_code
def yX4_inOrder : MethodName := ⟨RX4, "inOrder", "(I)I"⟩
abbrev cX4_cut : ByteArray := prog_6_method_12_code
def yX4_cut : MethodName := ⟨RX4, "cut", "()I"⟩
def RX5 : String := "ParallaxSheets"
def TX5 : u_T := fun k => match k with
  | 0 => ("ParallaxSheets", "sheets", "[LParallaxSheets$Sheet;", true)
  | 1 => ("ParallaxSheets", "next", "LParallaxSheets$Sheet;", true)
  | 2 => ("ParallaxSheets", "filters", "LParallaxSheets$Filters;", true)
  | 3 => ("ParallaxSheets", "tones", "LParallaxSheets$Tones;", true)
  | 4 => ("ParallaxSheets", "parts", "LParallaxSheets$Parts;", true)
  | _ => ("ParallaxSheets", "seams", "LParallaxSheets$Seams;", true)
def tyX5 : Nat → FieldType := fun k => match k with
  | 0 => .array (.object "ParallaxSheets$Sheet")
  | 1 => .object "ParallaxSheets$Sheet"
  | 2 => .object "ParallaxSheets$Filters"
  | 3 => .object "ParallaxSheets$Tones"
  | 4 => .object "ParallaxSheets$Parts"
  | _ => .object "ParallaxSheets$Seams"
abbrev wsX50 : List Cond := u_ws RX5 TX5 6
theorem nmX5 : ∀ a, a < 6 → ∀ b, b < 6 → a ≠ b → (TX5 a).2.1 ≠ (TX5 b).2.1 := by decide +kernel
theorem tyX5_ok : ∀ k, k < 6 → parseFieldDescriptor (TX5 k).2.2.1 = some (tyX5 k) := by decide +kernel
abbrev cX5_init : ByteArray := prog_1_method_1_code
def yX5_init : MethodName := ⟨RX5, "<init>", "()V"⟩
abbrev cX5_fresh : ByteArray := prog_1_method_2_code
def yX5_fresh : MethodName := ⟨RX5, "fresh", "(IIII)I"⟩
abbrev cX5_dot : ByteArray := prog_1_method_3_code
def yX5_dot : MethodName := ⟨RX5, "dot", "(IIII)I"⟩
abbrev cX5_disc : ByteArray := prog_1_method_5_code
def yX5_disc : MethodName := ⟨RX5, "disc", "(IIIII)I"⟩
abbrev cX5_shade : ByteArray := prog_1_method_6_code
def yX5_shade : MethodName := ⟨RX5, "shade", "(IIII)I"⟩
abbrev cX5_copy : ByteArray := prog_1_method_7_code
def yX5_copy : MethodName := ⟨RX5, "copy", "(II)I"⟩
abbrev cX5_turn : ByteArray := prog_1_method_9_code
def yX5_turn : MethodName := ⟨RX5, "turn", "(II)I"⟩
abbrev cX5_filter : ByteArray := prog_1_method_12_code
def yX5_filter : MethodName := ⟨RX5, "filter", "(II)I"⟩
abbrev cX5_values : ByteArray := prog_1_method_13_code
def yX5_values : MethodName := ⟨RX5, "values", "(II)I"⟩
abbrev cX5_value : ByteArray := prog_1_method_14_code
def yX5_value : MethodName := ⟨RX5, "value", "(III)I"⟩
abbrev cX5_sheet : ByteArray := prog_1_method_15_code
def yX5_sheet : MethodName := ⟨RX5, "sheet", "(II)I"⟩
abbrev cX5_count : ByteArray := prog_1_method_16_code
def yX5_count : MethodName := ⟨RX5, "count", "(III)I"⟩
abbrev cX5_ordered : ByteArray := prog_1_method_17_code
def yX5_ordered : MethodName := ⟨RX5, "ordered", "(II)I"⟩
abbrev cX5_difference : ByteArray := prog_1_method_18_code
def yX5_difference : MethodName := ⟨RX5, "difference", "(II)D"⟩
abbrev cX5_parts : ByteArray := prog_1_method_19_code
def yX5_parts : MethodName := ⟨RX5, "parts", "(II)I"⟩
abbrev cX5_holes : ByteArray := prog_1_method_20_code
def yX5_holes : MethodName := ⟨RX5, "holes", "(II)I"⟩
abbrev cX5_partOf : ByteArray := prog_1_method_21_code
def yX5_partOf : MethodName := ⟨RX5, "partOf", "(IIII)I"⟩
abbrev cX5_part : ByteArray := prog_1_method_22_code
def yX5_part : MethodName := ⟨RX5, "part", "(IIII)I"⟩
abbrev cX5_far : ByteArray := prog_1_method_24_code
def yX5_far : MethodName := ⟨RX5, "far", "(IIII)I"⟩
abbrev cX5_carve : ByteArray := prog_1_method_26_code
def yX5_carve : MethodName := ⟨RX5, "carve", "(I)I"⟩
abbrev cX5_widen : ByteArray := prog_1_method_27_code
def yX5_widen : MethodName := ⟨RX5, "widen", "(I)I"⟩
abbrev cX5_seam : ByteArray := prog_1_method_28_code
def yX5_seam : MethodName := ⟨RX5, "seam", "(II)I"⟩
abbrev cX5_partsAt : ByteArray := prog_1_method_29_code
def yX5_partsAt : MethodName := ⟨RX5, "partsAt", "(III)I"⟩
abbrev cX5_carvedBy : ByteArray := prog_1_method_30_code
def yX5_carvedBy : MethodName := ⟨RX5, "carvedBy", "(II)I"⟩
abbrev cX5_digest : ByteArray := prog_1_method_31_code
def yX5_digest : MethodName := ⟨RX5, "digest", "()J"⟩
abbrev cX5_sheetAt : ByteArray := prog_1_method_32_code
def yX5_sheetAt : MethodName := ⟨RX5, "sheetAt", "(I)LParallaxSheets$Sheet;"⟩
abbrev cX5_needField : ByteArray := prog_1_method_33_code
def yX5_needField : MethodName := ⟨RX5, "needField", "(LParallaxSheets$Sheet;II)V"⟩
abbrev cX5_needPlace : ByteArray := prog_1_method_34_code
def yX5_needPlace : MethodName := ⟨RX5, "needPlace", "(Z)V"⟩
abbrev cX5_refuseUnless : ByteArray := prog_1_method_35_code
def yX5_refuseUnless : MethodName := ⟨RX5, "refuseUnless", "(Z)V"⟩
abbrev cX5_needState : ByteArray := prog_1_method_36_code
def yX5_needState : MethodName := ⟨RX5, "needState", "(Z)V"⟩
abbrev cX5_isFrom : ByteArray := prog_1_method_37_code
def yX5_isFrom : MethodName := ⟨RX5, "isFrom", "(III)Z"⟩
abbrev cX5_isValue : ByteArray := prog_1_method_38_code
def yX5_isValue : MethodName := ⟨RX5, "isValue", "(I)Z"⟩
abbrev cX5_isSlope : ByteArray := prog_1_method_39_code
def yX5_isSlope : MethodName := ⟨RX5, "isSlope", "(I)Z"⟩
abbrev cX5_isWays : ByteArray := prog_1_method_40_code
def yX5_isWays : MethodName := ⟨RX5, "isWays", "(I)Z"⟩
abbrev cX5_changeToNext : ByteArray := prog_1_method_41_code
def yX5_changeToNext : MethodName := ⟨RX5, "changeToNext", "(LParallaxSheets$Sheet;)I"⟩
abbrev cX5_turnedSide : ByteArray := prog_1_method_42_code
def yX5_turnedSide : MethodName := ⟨RX5, "turnedSide", "(III)I"⟩
abbrev cX5_turnedValue : ByteArray := prog_1_method_43_code
def yX5_turnedValue : MethodName := ⟨RX5, "turnedValue", "(LParallaxSheets$Sheet;III)I"⟩
abbrev cX5_factOf : ByteArray := prog_1_method_44_code
def yX5_factOf : MethodName := ⟨RX5, "factOf", "(LParallaxSheets$Sheet;I)I"⟩
abbrev cX5_partsFrom : ByteArray := prog_1_method_45_code
def yX5_partsFrom : MethodName := ⟨RX5, "partsFrom", "(LParallaxSheets$Sheet;II)I"⟩
abbrev cX5_holesOf : ByteArray := prog_1_method_46_code
def yX5_holesOf : MethodName := ⟨RX5, "holesOf", "(LParallaxSheets$Sheet;I)I"⟩
abbrev cX5_farOf : ByteArray := prog_1_method_47_code
def yX5_farOf : MethodName := ⟨RX5, "farOf", "(LParallaxSheets$Sheet;III)I"⟩
abbrev cX5_farWithin : ByteArray := prog_1_method_48_code
def yX5_farWithin : MethodName := ⟨RX5, "farWithin", "(LParallaxSheets$Sheet;III)I"⟩
abbrev cX5_farToOutside : ByteArray := prog_1_method_49_code
def yX5_farToOutside : MethodName := ⟨RX5, "farToOutside", "(LParallaxSheets$Sheet;III)I"⟩
abbrev cX5_distance : ByteArray := prog_1_method_50_code
def yX5_distance : MethodName := ⟨RX5, "distance", "(III)I"⟩
abbrev cX5_costOfCarving : ByteArray := prog_1_method_51_code
def yX5_costOfCarving : MethodName := ⟨RX5, "costOfCarving", "(LParallaxSheets$Sheet;I)I"⟩
abbrev cX5_digestWith : ByteArray := prog_1_method_52_code
def yX5_digestWith : MethodName := ⟨RX5, "digestWith", "(JI)J"⟩
abbrev cX5_digestFacts : ByteArray := prog_1_method_53_code
def yX5_digestFacts : MethodName := ⟨RX5, "digestFacts", "(JLParallaxSheets$Sheet;)J"⟩
abbrev cX5_digestSeams : ByteArray := prog_1_method_54_code
def yX5_digestSeams : MethodName := ⟨RX5, "digestSeams", "(JLParallaxSheets$Sheet;)J"⟩
abbrev cX5_digestFields : ByteArray := prog_1_method_55_code
def yX5_digestFields : MethodName := ⟨RX5, "digestFields", "(JLParallaxSheets$Sheet;)J"⟩
def RX6 : String := "ParallaxSheetsModel$Sheet"
def RX7 : String := "ParallaxSheetsModel"
def RL : String := "ParallaxSheetsLaw"
abbrev cL_below : ByteArray := method_2_code
def yL_below : MethodName := ⟨RL, "below", "(II)I"⟩
abbrev cL_cell : ByteArray := method_3_code
def yL_cell : MethodName := ⟨RL, "cell", "([II)I"⟩
abbrev cL_law : ByteArray := code
def yL_law : MethodName := ⟨RL, "law", "([I)Z"⟩
end
section
/-! the program as data: a row an instruction (pc, instruction, two numbers, a kind, a number), printed by wip/mach/gen.py -/
abbrev m_I : Type := Nat × Instr × Nat × Nat × Nat × Int
/-- ParallaxSheets.Filters init -/
def m_p_0 : List m_I := [(0, .aload_n 0, 0, 0, 0, 0), (1, .invokespecial 3, 0, 87, 7, 0), (4, .aload_n 0, 0, 0, 0, 0), (5, .bipush 9, 0, 0, 0, 0), (7, .newarray .int, 0, 81, 0, 0), (9, .putfield 9, 0, 0, 0, 90), (12, .aload_n 0, 0, 0, 0, 0), (13, .bipush 9, 0, 0, 0, 0), (15, .putfield 15, 0, 1, 0, 91), (18, .aload_n 0, 0, 0, 0, 0), (19, .iconst 0, 0, 0, 0, 0), (20, .putfield 19, 0, 2, 0, 92), (23, .aload_n 0, 0, 0, 0, 0), (24, .bipush 9, 0, 0, 0, 0), (26, .newarray .int, 0, 81, 0, 0), (28, .putfield 22, 0, 3, 0, 93), (31, .aload_n 0, 0, 0, 0, 0), (32, .new 25, 3, 88, 0, 0), (35, .dup, 0, 0, 0, 0), (36, .invokespecial 27, 30, 89, 2, 0), (39, .putfield 28, 0, 4, 0, 94), (42, .iconst 0, 0, 0, 0, 0), (43, .istore_n 1, 0, 0, 0, 0), (44, .iload_n 1, 0, 0, 0, 0), (45, .bipush 9, 0, 0, 0, 0), (47, .if_icmp .ge 16, 63, 0, 0, 0), (50, .aload_n 0, 0, 0, 0, 0), (51, .getfield 9, 0, 0, 0, 90), (54, .iload_n 1, 0, 0, 0, 0), (55, .iconst 1, 0, 0, 0, 0), (56, .iastore, 0, 0, 0, 0), (57, .iinc 1 1, 0, 0, 0, 0), (60, .goto (-16), 44, 0, 0, 0), (63, .return_, 0, 0, 0, 0)]
/-- ParallaxSheets.Filters run -/
def m_p_1 : List m_I := [(0, .iload_n 3, 0, 0, 0, 0), (1, .bipush 7, 0, 0, 0, 0), (3, .if_icmp .ne 26, 29, 0, 0, 0), (6, .aload_n 0, 0, 0, 0, 0), (7, .aload_n 1, 0, 0, 0, 0), (8, .aload_n 0, 0, 0, 0, 0), (9, .getfield 28, 0, 4, 0, 94), (12, .iconst 3, 0, 0, 0, 0), (13, .invokevirtual 32, 2, 409, 1, 0), (16, .aload_n 0, 0, 0, 0, 0), (17, .aload_n 0, 0, 0, 0, 0), (18, .getfield 28, 0, 4, 0, 94), (21, .aload_n 2, 0, 0, 0, 0), (22, .iconst 5, 0, 0, 0, 0), (23, .invokevirtual 32, 2, 409, 1, 0), (26, .goto 39, 65, 0, 0, 0), (29, .iload_n 3, 0, 0, 0, 0), (30, .bipush 8, 0, 0, 0, 0), (32, .if_icmp .ne 26, 58, 0, 0, 0), (35, .aload_n 0, 0, 0, 0, 0), (36, .aload_n 1, 0, 0, 0, 0), (37, .aload_n 0, 0, 0, 0, 0), (38, .getfield 28, 0, 4, 0, 94), (41, .iconst 5, 0, 0, 0, 0), (42, .invokevirtual 32, 2, 409, 1, 0), (45, .aload_n 0, 0, 0, 0, 0), (46, .aload_n 0, 0, 0, 0, 0), (47, .getfield 28, 0, 4, 0, 94), (50, .aload_n 2, 0, 0, 0, 0), (51, .iconst 3, 0, 0, 0, 0), (52, .invokevirtual 32, 2, 409, 1, 0), (55, .goto 10, 65, 0, 0, 0), (58, .aload_n 0, 0, 0, 0, 0), (59, .aload_n 1, 0, 0, 0, 0), (60, .aload_n 2, 0, 0, 0, 0), (61, .iload_n 3, 0, 0, 0, 0), (62, .invokevirtual 32, 2, 409, 1, 0), (65, .return_, 0, 0, 0, 0)]
/-- ParallaxSheets.Filters pass -/
def m_p_2 : List m_I := [(0, .aload_n 2, 0, 0, 0, 0), (1, .aload_n 1, 0, 0, 0, 0), (2, .getfield 36, 3, 0, 0, 63), (5, .aload_n 1, 0, 0, 0, 0), (6, .getfield 39, 3, 1, 0, 68), (9, .invokevirtual 42, 32, 413, 1, 0), (12, .iconst 0, 0, 0, 0, 0), (13, .istore 4, 0, 0, 0, 0), (15, .iload 4, 0, 0, 0, 0), (17, .aload_n 1, 0, 0, 0, 0), (18, .getfield 39, 3, 1, 0, 68), (21, .if_icmp .ge 49, 70, 0, 0, 0), (24, .iconst 0, 0, 0, 0, 0), (25, .istore 5, 0, 0, 0, 0), (27, .iload 5, 0, 0, 0, 0), (29, .aload_n 1, 0, 0, 0, 0), (30, .getfield 36, 3, 0, 0, 63), (33, .if_icmp .ge 31, 64, 0, 0, 0), (36, .aload_n 0, 0, 0, 0, 0), (37, .aload_n 1, 0, 0, 0, 0), (38, .iload 5, 0, 0, 0, 0), (40, .iload 4, 0, 0, 0, 0), (42, .invokevirtual 46, 3, 414, 1, 0), (45, .aload_n 2, 0, 0, 0, 0), (46, .iload 5, 0, 0, 0, 0), (48, .iload 4, 0, 0, 0, 0), (50, .aload_n 0, 0, 0, 0, 0), (51, .iload_n 3, 0, 0, 0, 0), (52, .invokevirtual 50, 4, 419, 1, 0), (55, .invokevirtual 54, 34, 451, 1, 0), (58, .iinc 5 1, 0, 0, 0, 0), (61, .goto (-34), 27, 0, 0, 0), (64, .iinc 4 1, 0, 0, 0, 0), (67, .goto (-52), 15, 0, 0, 0), (70, .return_, 0, 0, 0, 0)]
/-- ParallaxSheets.Filters gatherNine -/
def m_p_3 : List m_I := [(0, .iconst 0, 0, 0, 0, 0), (1, .istore 4, 0, 0, 0, 0), (3, .iload 4, 0, 0, 0, 0), (5, .bipush 9, 0, 0, 0, 0), (7, .if_icmp .ge 36, 43, 0, 0, 0), (10, .aload_n 0, 0, 0, 0, 0), (11, .getfield 22, 0, 3, 0, 93), (14, .iload 4, 0, 0, 0, 0), (16, .aload_n 1, 0, 0, 0, 0), (17, .iload_n 2, 0, 0, 0, 0), (18, .iconst 1, 0, 0, 0, 0), (19, .isub, 0, 0, 0, 0), (20, .iload 4, 0, 0, 0, 0), (22, .iconst 3, 0, 0, 0, 0), (23, .irem, 0, 0, 0, 0), (24, .iadd, 0, 0, 0, 0), (25, .iload_n 3, 0, 0, 0, 0), (26, .iconst 1, 0, 0, 0, 0), (27, .isub, 0, 0, 0, 0), (28, .iload 4, 0, 0, 0, 0), (30, .iconst 3, 0, 0, 0, 0), (31, .idiv, 0, 0, 0, 0), (32, .iadd, 0, 0, 0, 0), (33, .invokevirtual 58, 33, 418, 1, 0), (36, .iastore, 0, 0, 0, 0), (37, .iinc 4 1, 0, 0, 0, 0), (40, .goto (-37), 3, 0, 0, 0), (43, .return_, 0, 0, 0, 0)]
/-- ParallaxSheets.Filters resultOfNine -/
def m_p_4 : List m_I := [(0, .iload_n 1, 0, 0, 0, 0), (1, .tableswitch 72 0 5 #[39, 44, 49, 54, 60, 66], 0, 0, 0, 39), (40, .aload_n 0, 0, 0, 0, 0), (41, .invokevirtual 62, 5, 423, 1, 0), (44, .ireturn, 0, 0, 0, 0), (45, .aload_n 0, 0, 0, 0, 0), (46, .invokevirtual 66, 6, 427, 1, 0), (49, .ireturn, 0, 0, 0, 0), (50, .aload_n 0, 0, 0, 0, 0), (51, .invokevirtual 69, 7, 431, 1, 0), (54, .ireturn, 0, 0, 0, 0), (55, .aload_n 0, 0, 0, 0, 0), (56, .iconst 0, 0, 0, 0, 0), (57, .invokevirtual 72, 8, 438, 1, 0), (60, .ireturn, 0, 0, 0, 0), (61, .aload_n 0, 0, 0, 0, 0), (62, .iconst 1, 0, 0, 0, 0), (63, .invokevirtual 72, 8, 438, 1, 0), (66, .ireturn, 0, 0, 0, 0), (67, .aload_n 0, 0, 0, 0, 0), (68, .iconst 0, 0, 0, 0, 0), (69, .invokevirtual 76, 9, 446, 1, 0), (72, .ireturn, 0, 0, 0, 0), (73, .aload_n 0, 0, 0, 0, 0), (74, .iconst 1, 0, 0, 0, 0), (75, .invokevirtual 76, 9, 446, 1, 0), (78, .ireturn, 0, 0, 0, 0)]
/-- ParallaxSheets.Filters weighted -/
def m_p_5 : List m_I := [(0, .iconst 0, 0, 0, 0, 0), (1, .istore_n 1, 0, 0, 0, 0), (2, .iconst 0, 0, 0, 0, 0), (3, .istore_n 2, 0, 0, 0, 0), (4, .iload_n 2, 0, 0, 0, 0), (5, .bipush 9, 0, 0, 0, 0), (7, .if_icmp .ge 25, 32, 0, 0, 0), (10, .iload_n 1, 0, 0, 0, 0), (11, .aload_n 0, 0, 0, 0, 0), (12, .getfield 9, 0, 0, 0, 90), (15, .iload_n 2, 0, 0, 0, 0), (16, .iaload, 0, 0, 0, 0), (17, .aload_n 0, 0, 0, 0, 0), (18, .getfield 22, 0, 3, 0, 93), (21, .iload_n 2, 0, 0, 0, 0), (22, .iaload, 0, 0, 0, 0), (23, .imul, 0, 0, 0, 0), (24, .iadd, 0, 0, 0, 0), (25, .istore_n 1, 0, 0, 0, 0), (26, .iinc 2 1, 0, 0, 0, 0), (29, .goto (-25), 4, 0, 0, 0), (32, .iload_n 1, 0, 0, 0, 0), (33, .aload_n 0, 0, 0, 0, 0), (34, .getfield 15, 0, 1, 0, 91), (37, .idiv, 0, 0, 0, 0), (38, .aload_n 0, 0, 0, 0, 0), (39, .getfield 19, 0, 2, 0, 92), (42, .iadd, 0, 0, 0, 0), (43, .ireturn, 0, 0, 0, 0)]
/-- ParallaxSheets.Filters middle -/
def m_p_6 : List m_I := [(0, .iconst 1, 0, 0, 0, 0), (1, .istore_n 1, 0, 0, 0, 0), (2, .iload_n 1, 0, 0, 0, 0), (3, .bipush 9, 0, 0, 0, 0), (5, .if_icmp .ge 61, 66, 0, 0, 0), (8, .aload_n 0, 0, 0, 0, 0), (9, .getfield 22, 0, 3, 0, 93), (12, .iload_n 1, 0, 0, 0, 0), (13, .iaload, 0, 0, 0, 0), (14, .istore_n 2, 0, 0, 0, 0), (15, .iload_n 1, 0, 0, 0, 0), (16, .istore_n 3, 0, 0, 0, 0), (17, .iload_n 3, 0, 0, 0, 0), (18, .ifCond .le 35, 53, 0, 0, 0), (21, .aload_n 0, 0, 0, 0, 0), (22, .getfield 22, 0, 3, 0, 93), (25, .iload_n 3, 0, 0, 0, 0), (26, .iconst 1, 0, 0, 0, 0), (27, .isub, 0, 0, 0, 0), (28, .iaload, 0, 0, 0, 0), (29, .iload_n 2, 0, 0, 0, 0), (30, .if_icmp .le 23, 53, 0, 0, 0), (33, .aload_n 0, 0, 0, 0, 0), (34, .getfield 22, 0, 3, 0, 93), (37, .iload_n 3, 0, 0, 0, 0), (38, .aload_n 0, 0, 0, 0, 0), (39, .getfield 22, 0, 3, 0, 93), (42, .iload_n 3, 0, 0, 0, 0), (43, .iconst 1, 0, 0, 0, 0), (44, .isub, 0, 0, 0, 0), (45, .iaload, 0, 0, 0, 0), (46, .iastore, 0, 0, 0, 0), (47, .iinc 3 (-1), 0, 0, 0, 0), (50, .goto (-33), 17, 0, 0, 0), (53, .aload_n 0, 0, 0, 0, 0), (54, .getfield 22, 0, 3, 0, 93), (57, .iload_n 3, 0, 0, 0, 0), (58, .iload_n 2, 0, 0, 0, 0), (59, .iastore, 0, 0, 0, 0), (60, .iinc 1 1, 0, 0, 0, 0), (63, .goto (-61), 2, 0, 0, 0), (66, .aload_n 0, 0, 0, 0, 0), (67, .getfield 22, 0, 3, 0, 93), (70, .iconst 4, 0, 0, 0, 0), (71, .iaload, 0, 0, 0, 0), (72, .ireturn, 0, 0, 0, 0)]
/-- ParallaxSheets.Filters edge -/
def m_p_7 : List m_I := [(0, .aload_n 0, 0, 0, 0, 0), (1, .getfield 22, 0, 3, 0, 93), (4, .iconst 2, 0, 0, 0, 0), (5, .iaload, 0, 0, 0, 0), (6, .iconst 2, 0, 0, 0, 0), (7, .aload_n 0, 0, 0, 0, 0), (8, .getfield 22, 0, 3, 0, 93), (11, .iconst 5, 0, 0, 0, 0), (12, .iaload, 0, 0, 0, 0), (13, .imul, 0, 0, 0, 0), (14, .iadd, 0, 0, 0, 0), (15, .aload_n 0, 0, 0, 0, 0), (16, .getfield 22, 0, 3, 0, 93), (19, .bipush 8, 0, 0, 0, 0), (21, .iaload, 0, 0, 0, 0), (22, .iadd, 0, 0, 0, 0), (23, .aload_n 0, 0, 0, 0, 0), (24, .getfield 22, 0, 3, 0, 93), (27, .iconst 0, 0, 0, 0, 0), (28, .iaload, 0, 0, 0, 0), (29, .isub, 0, 0, 0, 0), (30, .iconst 2, 0, 0, 0, 0), (31, .aload_n 0, 0, 0, 0, 0), (32, .getfield 22, 0, 3, 0, 93), (35, .iconst 3, 0, 0, 0, 0), (36, .iaload, 0, 0, 0, 0), (37, .imul, 0, 0, 0, 0), (38, .isub, 0, 0, 0, 0), (39, .aload_n 0, 0, 0, 0, 0), (40, .getfield 22, 0, 3, 0, 93), (43, .bipush 6, 0, 0, 0, 0), (45, .iaload, 0, 0, 0, 0), (46, .isub, 0, 0, 0, 0), (47, .istore_n 1, 0, 0, 0, 0), (48, .aload_n 0, 0, 0, 0, 0), (49, .getfield 22, 0, 3, 0, 93), (52, .bipush 6, 0, 0, 0, 0), (54, .iaload, 0, 0, 0, 0), (55, .iconst 2, 0, 0, 0, 0), (56, .aload_n 0, 0, 0, 0, 0), (57, .getfield 22, 0, 3, 0, 93), (60, .bipush 7, 0, 0, 0, 0), (62, .iaload, 0, 0, 0, 0), (63, .imul, 0, 0, 0, 0), (64, .iadd, 0, 0, 0, 0), (65, .aload_n 0, 0, 0, 0, 0), (66, .getfield 22, 0, 3, 0, 93), (69, .bipush 8, 0, 0, 0, 0), (71, .iaload, 0, 0, 0, 0), (72, .iadd, 0, 0, 0, 0), (73, .aload_n 0, 0, 0, 0, 0), (74, .getfield 22, 0, 3, 0, 93), (77, .iconst 0, 0, 0, 0, 0), (78, .iaload, 0, 0, 0, 0), (79, .isub, 0, 0, 0, 0), (80, .iconst 2, 0, 0, 0, 0), (81, .aload_n 0, 0, 0, 0, 0), (82, .getfield 22, 0, 3, 0, 93), (85, .iconst 1, 0, 0, 0, 0), (86, .iaload, 0, 0, 0, 0), (87, .imul, 0, 0, 0, 0), (88, .isub, 0, 0, 0, 0), (89, .aload_n 0, 0, 0, 0, 0), (90, .getfield 22, 0, 3, 0, 93), (93, .iconst 2, 0, 0, 0, 0), (94, .iaload, 0, 0, 0, 0), (95, .isub, 0, 0, 0, 0), (96, .istore_n 2, 0, 0, 0, 0), (97, .iload_n 1, 0, 0, 0, 0), (98, .invokestatic 79, 0, 435, 5, 0), (101, .iload_n 2, 0, 0, 0, 0), (102, .invokestatic 79, 0, 435, 5, 0), (105, .iadd, 0, 0, 0, 0), (106, .iconst 4, 0, 0, 0, 0), (107, .idiv, 0, 0, 0, 0), (108, .ireturn, 0, 0, 0, 0)]
/-- ParallaxSheets.Filters least -/
def m_p_8 : List m_I := [(0, .aload_n 0, 0, 0, 0, 0), (1, .getfield 22, 0, 3, 0, 93), (4, .iconst 4, 0, 0, 0, 0), (5, .iaload, 0, 0, 0, 0), (6, .istore_n 2, 0, 0, 0, 0), (7, .iconst 0, 0, 0, 0, 0), (8, .istore_n 3, 0, 0, 0, 0), (9, .iload_n 3, 0, 0, 0, 0), (10, .bipush 9, 0, 0, 0, 0), (12, .if_icmp .ge 31, 43, 0, 0, 0), (15, .iload_n 1, 0, 0, 0, 0), (16, .ifCond .eq 10, 26, 0, 0, 0), (19, .iload_n 3, 0, 0, 0, 0), (20, .invokestatic 84, 10, 442, 1, 0), (23, .ifCond .eq 14, 37, 0, 0, 0), (26, .iload_n 2, 0, 0, 0, 0), (27, .aload_n 0, 0, 0, 0, 0), (28, .getfield 22, 0, 3, 0, 93), (31, .iload_n 3, 0, 0, 0, 0), (32, .iaload, 0, 0, 0, 0), (33, .invokestatic 88, 0, 445, 4, 0), (36, .istore_n 2, 0, 0, 0, 0), (37, .iinc 3 1, 0, 0, 0, 0), (40, .goto (-31), 9, 0, 0, 0), (43, .iload_n 2, 0, 0, 0, 0), (44, .ireturn, 0, 0, 0, 0)]
/-- ParallaxSheets.Filters greatest -/
def m_p_9 : List m_I := [(0, .aload_n 0, 0, 0, 0, 0), (1, .getfield 22, 0, 3, 0, 93), (4, .iconst 4, 0, 0, 0, 0), (5, .iaload, 0, 0, 0, 0), (6, .istore_n 2, 0, 0, 0, 0), (7, .iconst 0, 0, 0, 0, 0), (8, .istore_n 3, 0, 0, 0, 0), (9, .iload_n 3, 0, 0, 0, 0), (10, .bipush 9, 0, 0, 0, 0), (12, .if_icmp .ge 31, 43, 0, 0, 0), (15, .iload_n 1, 0, 0, 0, 0), (16, .ifCond .eq 10, 26, 0, 0, 0), (19, .iload_n 3, 0, 0, 0, 0), (20, .invokestatic 84, 10, 442, 1, 0), (23, .ifCond .eq 14, 37, 0, 0, 0), (26, .iload_n 2, 0, 0, 0, 0), (27, .aload_n 0, 0, 0, 0, 0), (28, .getfield 22, 0, 3, 0, 93), (31, .iload_n 3, 0, 0, 0, 0), (32, .iaload, 0, 0, 0, 0), (33, .invokestatic 91, 0, 450, 3, 0), (36, .istore_n 2, 0, 0, 0, 0), (37, .iinc 3 1, 0, 0, 0, 0), (40, .goto (-31), 9, 0, 0, 0), (43, .iload_n 2, 0, 0, 0, 0), (44, .ireturn, 0, 0, 0, 0)]
/-- ParallaxSheets.Filters isInCross -/
def m_p_10 : List m_I := [(0, .iload_n 0, 0, 0, 0, 0), (1, .iconst 4, 0, 0, 0, 0), (2, .if_icmp .eq 10, 12, 0, 0, 0), (5, .iload_n 0, 0, 0, 0, 0), (6, .iconst 2, 0, 0, 0, 0), (7, .irem, 0, 0, 0, 0), (8, .iconst 1, 0, 0, 0, 0), (9, .if_icmp .ne 7, 16, 0, 0, 0), (12, .iconst 1, 0, 0, 0, 0), (13, .goto 4, 17, 0, 0, 0), (16, .iconst 0, 0, 0, 0, 0), (17, .ireturn, 0, 0, 0, 0)]
/-- ParallaxSheets.Parts init -/
def m_p_11 : List m_I := [(0, .aload_n 0, 0, 0, 0, 0), (1, .invokespecial 3, 0, 127, 7, 0), (4, .aload_n 0, 0, 0, 0, 0), (5, .iconst 0, 0, 0, 0, 0), (6, .putfield 9, 1, 0, 0, 128), (9, .aload_n 0, 0, 0, 0, 0), (10, .sipush 256, 0, 0, 0, 0), (13, .newarray .int, 0, 81, 0, 0), (15, .putfield 15, 1, 1, 0, 130), (18, .aload_n 0, 0, 0, 0, 0), (19, .sipush 256, 0, 0, 0, 0), (22, .newarray .int, 0, 81, 0, 0), (24, .putfield 19, 1, 2, 0, 131), (27, .aload_n 0, 0, 0, 0, 0), (28, .iconst 0, 0, 0, 0, 0), (29, .putfield 22, 1, 3, 0, 132), (32, .aload_n 0, 0, 0, 0, 0), (33, .sipush 256, 0, 0, 0, 0), (36, .newarray .int, 0, 81, 0, 0), (38, .putfield 25, 1, 4, 0, 133), (41, .aload_n 0, 0, 0, 0, 0), (42, .sipush 256, 0, 0, 0, 0), (45, .newarray .boolean, 1, 154, 0, 0), (47, .putfield 28, 1, 5, 0, 134), (50, .aload_n 0, 0, 0, 0, 0), (51, .iconst 0, 0, 0, 0, 0), (52, .putfield 32, 1, 6, 0, 135), (55, .aload_n 0, 0, 0, 0, 0), (56, .iconst 0, 0, 0, 0, 0), (57, .putfield 35, 1, 7, 0, 136), (60, .return_, 0, 0, 0, 0)]
/-- ParallaxSheets.Parts find -/
def m_p_12 : List m_I := [(0, .aload_n 0, 0, 0, 0, 0), (1, .aload_n 1, 0, 0, 0, 0), (2, .getfield 38, 3, 0, 0, 61), (5, .putfield 32, 1, 6, 0, 135), (8, .aload_n 0, 0, 0, 0, 0), (9, .aload_n 1, 0, 0, 0, 0), (10, .getfield 41, 3, 1, 0, 67), (13, .putfield 35, 1, 7, 0, 136), (16, .aload_n 0, 0, 0, 0, 0), (17, .iconst 0, 0, 0, 0, 0), (18, .putfield 9, 1, 0, 0, 128), (21, .aload_n 0, 0, 0, 0, 0), (22, .aload_n 1, 0, 0, 0, 0), (23, .iload_n 3, 0, 0, 0, 0), (24, .iload 4, 0, 0, 0, 0), (26, .invokevirtual 42, 13, 546, 1, 0), (29, .iconst 0, 0, 0, 0, 0), (30, .istore 5, 0, 0, 0, 0), (32, .iload 5, 0, 0, 0, 0), (34, .aload_n 0, 0, 0, 0, 0), (35, .getfield 35, 1, 7, 0, 136), (38, .if_icmp .ge 60, 98, 0, 0, 0), (41, .iconst 0, 0, 0, 0, 0), (42, .istore 6, 0, 0, 0, 0), (44, .iload 6, 0, 0, 0, 0), (46, .aload_n 0, 0, 0, 0, 0), (47, .getfield 32, 1, 6, 0, 135), (50, .if_icmp .ge 42, 92, 0, 0, 0), (53, .aload_n 0, 0, 0, 0, 0), (54, .iload 6, 0, 0, 0, 0), (56, .iload 5, 0, 0, 0, 0), (58, .invokevirtual 46, 17, 550, 1, 0), (61, .sipush 256, 0, 0, 0, 0), (64, .if_icmp .ne 22, 86, 0, 0, 0), (67, .aload_n 0, 0, 0, 0, 0), (68, .iload 6, 0, 0, 0, 0), (70, .iload 5, 0, 0, 0, 0), (72, .iload_n 2, 0, 0, 0, 0), (73, .invokevirtual 50, 14, 554, 1, 0), (76, .aload_n 0, 0, 0, 0, 0), (77, .dup, 0, 0, 0, 0), (78, .getfield 9, 1, 0, 0, 128), (81, .iconst 1, 0, 0, 0, 0), (82, .iadd, 0, 0, 0, 0), (83, .putfield 9, 1, 0, 0, 128), (86, .iinc 6 1, 0, 0, 0, 0), (89, .goto (-45), 44, 0, 0, 0), (92, .iinc 5 1, 0, 0, 0, 0), (95, .goto (-63), 32, 0, 0, 0), (98, .return_, 0, 0, 0, 0)]
/-- ParallaxSheets.Parts markMembers -/
def m_p_13 : List m_I := [(0, .iconst 0, 0, 0, 0, 0), (1, .istore 4, 0, 0, 0, 0), (3, .iload 4, 0, 0, 0, 0), (5, .aload_n 0, 0, 0, 0, 0), (6, .getfield 32, 1, 6, 0, 135), (9, .aload_n 0, 0, 0, 0, 0), (10, .getfield 35, 1, 7, 0, 136), (13, .imul, 0, 0, 0, 0), (14, .if_icmp .ge 55, 69, 0, 0, 0), (17, .aload_n 1, 0, 0, 0, 0), (18, .getfield 54, 3, 2, 0, 73), (21, .iload 4, 0, 0, 0, 0), (23, .iaload, 0, 0, 0, 0), (24, .iload_n 2, 0, 0, 0, 0), (25, .if_icmp .lt 7, 32, 0, 0, 0), (28, .iconst 1, 0, 0, 0, 0), (29, .goto 4, 33, 0, 0, 0), (32, .iconst 0, 0, 0, 0, 0), (33, .iload_n 3, 0, 0, 0, 0), (34, .if_icmp .ne 7, 41, 0, 0, 0), (37, .iconst 1, 0, 0, 0, 0), (38, .goto 4, 42, 0, 0, 0), (41, .iconst 0, 0, 0, 0, 0), (42, .istore 5, 0, 0, 0, 0), (44, .aload_n 0, 0, 0, 0, 0), (45, .getfield 15, 1, 1, 0, 130), (48, .iload 4, 0, 0, 0, 0), (50, .iload 5, 0, 0, 0, 0), (52, .ifCond .eq 9, 61, 0, 0, 0), (55, .sipush 256, 0, 0, 0, 0), (58, .goto 4, 62, 0, 0, 0), (61, .iconst (-1), 0, 0, 0, 0), (62, .iastore, 0, 0, 0, 0), (63, .iinc 4 1, 0, 0, 0, 0), (66, .goto (-63), 3, 0, 0, 0), (69, .return_, 0, 0, 0, 0)]
/-- ParallaxSheets.Parts gather -/
def m_p_14 : List m_I := [(0, .aload_n 0, 0, 0, 0, 0), (1, .getfield 25, 1, 4, 0, 133), (4, .aload_n 0, 0, 0, 0, 0), (5, .getfield 9, 1, 0, 0, 128), (8, .iconst 0, 0, 0, 0, 0), (9, .iastore, 0, 0, 0, 0), (10, .aload_n 0, 0, 0, 0, 0), (11, .getfield 28, 1, 5, 0, 134), (14, .aload_n 0, 0, 0, 0, 0), (15, .getfield 9, 1, 0, 0, 128), (18, .iconst 0, 0, 0, 0, 0), (19, .bastore, 0, 0, 0, 0), (20, .aload_n 0, 0, 0, 0, 0), (21, .iconst 0, 0, 0, 0, 0), (22, .putfield 22, 1, 3, 0, 132), (25, .aload_n 0, 0, 0, 0, 0), (26, .iload_n 1, 0, 0, 0, 0), (27, .iload_n 2, 0, 0, 0, 0), (28, .invokevirtual 57, 15, 558, 1, 0), (31, .iconst 0, 0, 0, 0, 0), (32, .istore 4, 0, 0, 0, 0), (34, .iload 4, 0, 0, 0, 0), (36, .sipush 256, 0, 0, 0, 0), (39, .if_icmp .ge 52, 91, 0, 0, 0), (42, .aload_n 0, 0, 0, 0, 0), (43, .getfield 22, 1, 3, 0, 132), (46, .ifCond .le 45, 91, 0, 0, 0), (49, .aload_n 0, 0, 0, 0, 0), (50, .dup, 0, 0, 0, 0), (51, .getfield 22, 1, 3, 0, 132), (54, .iconst 1, 0, 0, 0, 0), (55, .isub, 0, 0, 0, 0), (56, .putfield 22, 1, 3, 0, 132), (59, .aload_n 0, 0, 0, 0, 0), (60, .getfield 19, 1, 2, 0, 131), (63, .aload_n 0, 0, 0, 0, 0), (64, .getfield 22, 1, 3, 0, 132), (67, .iaload, 0, 0, 0, 0), (68, .istore 5, 0, 0, 0, 0), (70, .aload_n 0, 0, 0, 0, 0), (71, .iload 5, 0, 0, 0, 0), (73, .bipush 16, 0, 0, 0, 0), (75, .irem, 0, 0, 0, 0), (76, .iload 5, 0, 0, 0, 0), (78, .bipush 16, 0, 0, 0, 0), (80, .idiv, 0, 0, 0, 0), (81, .iload_n 3, 0, 0, 0, 0), (82, .invokevirtual 61, 16, 562, 1, 0), (85, .iinc 4 1, 0, 0, 0, 0), (88, .goto (-54), 34, 0, 0, 0), (91, .return_, 0, 0, 0, 0)]
/-- ParallaxSheets.Parts join -/
def m_p_15 : List m_I := [(0, .aload_n 0, 0, 0, 0, 0), (1, .getfield 15, 1, 1, 0, 130), (4, .iload_n 2, 0, 0, 0, 0), (5, .aload_n 0, 0, 0, 0, 0), (6, .getfield 32, 1, 6, 0, 135), (9, .imul, 0, 0, 0, 0), (10, .iload_n 1, 0, 0, 0, 0), (11, .iadd, 0, 0, 0, 0), (12, .aload_n 0, 0, 0, 0, 0), (13, .getfield 9, 1, 0, 0, 128), (16, .iastore, 0, 0, 0, 0), (17, .aload_n 0, 0, 0, 0, 0), (18, .getfield 25, 1, 4, 0, 133), (21, .aload_n 0, 0, 0, 0, 0), (22, .getfield 9, 1, 0, 0, 128), (25, .dup2, 0, 0, 0, 0), (26, .iaload, 0, 0, 0, 0), (27, .iconst 1, 0, 0, 0, 0), (28, .iadd, 0, 0, 0, 0), (29, .iastore, 0, 0, 0, 0), (30, .iload_n 1, 0, 0, 0, 0), (31, .ifCond .eq 27, 58, 0, 0, 0), (34, .iload_n 2, 0, 0, 0, 0), (35, .ifCond .eq 23, 58, 0, 0, 0), (38, .iload_n 1, 0, 0, 0, 0), (39, .aload_n 0, 0, 0, 0, 0), (40, .getfield 32, 1, 6, 0, 135), (43, .iconst 1, 0, 0, 0, 0), (44, .isub, 0, 0, 0, 0), (45, .if_icmp .eq 13, 58, 0, 0, 0), (48, .iload_n 2, 0, 0, 0, 0), (49, .aload_n 0, 0, 0, 0, 0), (50, .getfield 35, 1, 7, 0, 136), (53, .iconst 1, 0, 0, 0, 0), (54, .isub, 0, 0, 0, 0), (55, .if_icmp .ne 13, 68, 0, 0, 0), (58, .aload_n 0, 0, 0, 0, 0), (59, .getfield 28, 1, 5, 0, 134), (62, .aload_n 0, 0, 0, 0, 0), (63, .getfield 9, 1, 0, 0, 128), (66, .iconst 1, 0, 0, 0, 0), (67, .bastore, 0, 0, 0, 0), (68, .aload_n 0, 0, 0, 0, 0), (69, .getfield 19, 1, 2, 0, 131), (72, .aload_n 0, 0, 0, 0, 0), (73, .getfield 22, 1, 3, 0, 132), (76, .iload_n 2, 0, 0, 0, 0), (77, .bipush 16, 0, 0, 0, 0), (79, .imul, 0, 0, 0, 0), (80, .iload_n 1, 0, 0, 0, 0), (81, .iadd, 0, 0, 0, 0), (82, .iastore, 0, 0, 0, 0), (83, .aload_n 0, 0, 0, 0, 0), (84, .dup, 0, 0, 0, 0), (85, .getfield 22, 1, 3, 0, 132), (88, .iconst 1, 0, 0, 0, 0), (89, .iadd, 0, 0, 0, 0), (90, .putfield 22, 1, 3, 0, 132), (93, .return_, 0, 0, 0, 0)]
/-- ParallaxSheets.Parts joinNeighbours -/
def m_p_16 : List m_I := [(0, .iconst (-1), 0, 0, 0, 0), (1, .istore 4, 0, 0, 0, 0), (3, .iload 4, 0, 0, 0, 0), (5, .iconst 1, 0, 0, 0, 0), (6, .if_icmp .gt 82, 88, 0, 0, 0), (9, .iconst (-1), 0, 0, 0, 0), (10, .istore 5, 0, 0, 0, 0), (12, .iload 5, 0, 0, 0, 0), (14, .iconst 1, 0, 0, 0, 0), (15, .if_icmp .gt 67, 82, 0, 0, 0), (18, .iload_n 3, 0, 0, 0, 0), (19, .bipush 8, 0, 0, 0, 0), (21, .if_icmp .eq 13, 34, 0, 0, 0), (24, .iload 5, 0, 0, 0, 0), (26, .ifCond .eq 8, 34, 0, 0, 0), (29, .iload 4, 0, 0, 0, 0), (31, .ifCond .ne 7, 38, 0, 0, 0), (34, .iconst 1, 0, 0, 0, 0), (35, .goto 4, 39, 0, 0, 0), (38, .iconst 0, 0, 0, 0, 0), (39, .istore 6, 0, 0, 0, 0), (41, .iload 6, 0, 0, 0, 0), (43, .ifCond .eq 33, 76, 0, 0, 0), (46, .aload_n 0, 0, 0, 0, 0), (47, .iload_n 1, 0, 0, 0, 0), (48, .iload 5, 0, 0, 0, 0), (50, .iadd, 0, 0, 0, 0), (51, .iload_n 2, 0, 0, 0, 0), (52, .iload 4, 0, 0, 0, 0), (54, .iadd, 0, 0, 0, 0), (55, .invokevirtual 46, 17, 550, 1, 0), (58, .sipush 256, 0, 0, 0, 0), (61, .if_icmp .ne 15, 76, 0, 0, 0), (64, .aload_n 0, 0, 0, 0, 0), (65, .iload_n 1, 0, 0, 0, 0), (66, .iload 5, 0, 0, 0, 0), (68, .iadd, 0, 0, 0, 0), (69, .iload_n 2, 0, 0, 0, 0), (70, .iload 4, 0, 0, 0, 0), (72, .iadd, 0, 0, 0, 0), (73, .invokevirtual 57, 15, 558, 1, 0), (76, .iinc 5 1, 0, 0, 0, 0), (79, .goto (-67), 12, 0, 0, 0), (82, .iinc 4 1, 0, 0, 0, 0), (85, .goto (-82), 3, 0, 0, 0), (88, .return_, 0, 0, 0, 0)]
/-- ParallaxSheets.Parts numberAt -/
def m_p_17 : List m_I := [(0, .iload_n 1, 0, 0, 0, 0), (1, .ifCond .lt 23, 24, 0, 0, 0), (4, .iload_n 2, 0, 0, 0, 0), (5, .ifCond .lt 19, 24, 0, 0, 0), (8, .iload_n 1, 0, 0, 0, 0), (9, .aload_n 0, 0, 0, 0, 0), (10, .getfield 32, 1, 6, 0, 135), (13, .if_icmp .ge 11, 24, 0, 0, 0), (16, .iload_n 2, 0, 0, 0, 0), (17, .aload_n 0, 0, 0, 0, 0), (18, .getfield 35, 1, 7, 0, 136), (21, .if_icmp .lt 5, 26, 0, 0, 0), (24, .iconst (-1), 0, 0, 0, 0), (25, .ireturn, 0, 0, 0, 0), (26, .aload_n 0, 0, 0, 0, 0), (27, .getfield 15, 1, 1, 0, 130), (30, .iload_n 2, 0, 0, 0, 0), (31, .aload_n 0, 0, 0, 0, 0), (32, .getfield 32, 1, 6, 0, 135), (35, .imul, 0, 0, 0, 0), (36, .iload_n 1, 0, 0, 0, 0), (37, .iadd, 0, 0, 0, 0), (38, .iaload, 0, 0, 0, 0), (39, .ireturn, 0, 0, 0, 0)]
/-- ParallaxSheets.Parts awayFromEdges -/
def m_p_18 : List m_I := [(0, .iconst 0, 0, 0, 0, 0), (1, .istore_n 1, 0, 0, 0, 0), (2, .iconst 0, 0, 0, 0, 0), (3, .istore_n 2, 0, 0, 0, 0), (4, .iload_n 2, 0, 0, 0, 0), (5, .aload_n 0, 0, 0, 0, 0), (6, .getfield 9, 1, 0, 0, 128), (9, .if_icmp .ge 21, 30, 0, 0, 0), (12, .aload_n 0, 0, 0, 0, 0), (13, .getfield 28, 1, 5, 0, 134), (16, .iload_n 2, 0, 0, 0, 0), (17, .baload, 0, 0, 0, 0), (18, .ifCond .ne 6, 24, 0, 0, 0), (21, .iinc 1 1, 0, 0, 0, 0), (24, .iinc 2 1, 0, 0, 0, 0), (27, .goto (-23), 4, 0, 0, 0), (30, .iload_n 1, 0, 0, 0, 0), (31, .ireturn, 0, 0, 0, 0)]
/-- ParallaxSheets.Parts factOf -/
def m_p_19 : List m_I := [(0, .iload_n 2, 0, 0, 0, 0), (1, .ifCond .ne 10, 11, 0, 0, 0), (4, .aload_n 0, 0, 0, 0, 0), (5, .getfield 25, 1, 4, 0, 133), (8, .iload_n 1, 0, 0, 0, 0), (9, .iaload, 0, 0, 0, 0), (10, .ireturn, 0, 0, 0, 0), (11, .iload_n 2, 0, 0, 0, 0), (12, .iconst 5, 0, 0, 0, 0), (13, .if_icmp .ne 9, 22, 0, 0, 0), (16, .aload_n 0, 0, 0, 0, 0), (17, .iload_n 1, 0, 0, 0, 0), (18, .invokevirtual 64, 21, 591, 1, 0), (21, .ireturn, 0, 0, 0, 0), (22, .aload_n 0, 0, 0, 0, 0), (23, .iload_n 1, 0, 0, 0, 0), (24, .iload_n 2, 0, 0, 0, 0), (25, .invokevirtual 68, 20, 599, 1, 0), (28, .ireturn, 0, 0, 0, 0)]
/-- ParallaxSheets.Parts bound -/
def m_p_20 : List m_I := [(0, .iload_n 2, 0, 0, 0, 0), (1, .iconst 2, 0, 0, 0, 0), (2, .if_icmp .gt 7, 9, 0, 0, 0), (5, .iconst 1, 0, 0, 0, 0), (6, .goto 4, 10, 0, 0, 0), (9, .iconst 0, 0, 0, 0, 0), (10, .istore_n 3, 0, 0, 0, 0), (11, .iload_n 3, 0, 0, 0, 0), (12, .ifCond .eq 8, 20, 0, 0, 0), (15, .bipush 16, 0, 0, 0, 0), (17, .goto 4, 21, 0, 0, 0), (20, .iconst 0, 0, 0, 0, 0), (21, .istore 4, 0, 0, 0, 0), (23, .iconst 0, 0, 0, 0, 0), (24, .istore 5, 0, 0, 0, 0), (26, .iload 5, 0, 0, 0, 0), (28, .aload_n 0, 0, 0, 0, 0), (29, .getfield 35, 1, 7, 0, 136), (32, .if_icmp .ge 78, 110, 0, 0, 0), (35, .iconst 0, 0, 0, 0, 0), (36, .istore 6, 0, 0, 0, 0), (38, .iload 6, 0, 0, 0, 0), (40, .aload_n 0, 0, 0, 0, 0), (41, .getfield 32, 1, 6, 0, 135), (44, .if_icmp .ge 60, 104, 0, 0, 0), (47, .aload_n 0, 0, 0, 0, 0), (48, .iload 6, 0, 0, 0, 0), (50, .iload 5, 0, 0, 0, 0), (52, .invokevirtual 46, 17, 550, 1, 0), (55, .iload_n 1, 0, 0, 0, 0), (56, .if_icmp .ne 42, 98, 0, 0, 0), (59, .iload_n 2, 0, 0, 0, 0), (60, .iconst 2, 0, 0, 0, 0), (61, .irem, 0, 0, 0, 0), (62, .iconst 1, 0, 0, 0, 0), (63, .if_icmp .ne 8, 71, 0, 0, 0), (66, .iload 6, 0, 0, 0, 0), (68, .goto 5, 73, 0, 0, 0), (71, .iload 5, 0, 0, 0, 0), (73, .istore 7, 0, 0, 0, 0), (75, .iload_n 3, 0, 0, 0, 0), (76, .ifCond .eq 13, 89, 0, 0, 0), (79, .iload 4, 0, 0, 0, 0), (81, .iload 7, 0, 0, 0, 0), (83, .invokestatic 71, 0, 603, 4, 0), (86, .goto 10, 96, 0, 0, 0), (89, .iload 4, 0, 0, 0, 0), (91, .iload 7, 0, 0, 0, 0), (93, .invokestatic 76, 0, 604, 3, 0), (96, .istore 4, 0, 0, 0, 0), (98, .iinc 6 1, 0, 0, 0, 0), (101, .goto (-63), 38, 0, 0, 0), (104, .iinc 5 1, 0, 0, 0, 0), (107, .goto (-81), 26, 0, 0, 0), (110, .iload 4, 0, 0, 0, 0), (112, .ireturn, 0, 0, 0, 0)]
/-- ParallaxSheets.Parts bareSides -/
def m_p_21 : List m_I := [(0, .iconst 0, 0, 0, 0, 0), (1, .istore_n 2, 0, 0, 0, 0), (2, .iconst 0, 0, 0, 0, 0), (3, .istore_n 3, 0, 0, 0, 0), (4, .iload_n 3, 0, 0, 0, 0), (5, .aload_n 0, 0, 0, 0, 0), (6, .getfield 35, 1, 7, 0, 136), (9, .if_icmp .ge 80, 89, 0, 0, 0), (12, .iconst 0, 0, 0, 0, 0), (13, .istore 4, 0, 0, 0, 0), (15, .iload 4, 0, 0, 0, 0), (17, .aload_n 0, 0, 0, 0, 0), (18, .getfield 32, 1, 6, 0, 135), (21, .if_icmp .ge 62, 83, 0, 0, 0), (24, .aload_n 0, 0, 0, 0, 0), (25, .iload 4, 0, 0, 0, 0), (27, .iload_n 3, 0, 0, 0, 0), (28, .invokevirtual 46, 17, 550, 1, 0), (31, .iload_n 1, 0, 0, 0, 0), (32, .if_icmp .ne 45, 77, 0, 0, 0), (35, .iload_n 2, 0, 0, 0, 0), (36, .aload_n 0, 0, 0, 0, 0), (37, .iload 4, 0, 0, 0, 0), (39, .iconst 1, 0, 0, 0, 0), (40, .isub, 0, 0, 0, 0), (41, .iload_n 3, 0, 0, 0, 0), (42, .invokevirtual 79, 22, 595, 1, 0), (45, .aload_n 0, 0, 0, 0, 0), (46, .iload 4, 0, 0, 0, 0), (48, .iconst 1, 0, 0, 0, 0), (49, .iadd, 0, 0, 0, 0), (50, .iload_n 3, 0, 0, 0, 0), (51, .invokevirtual 79, 22, 595, 1, 0), (54, .iadd, 0, 0, 0, 0), (55, .aload_n 0, 0, 0, 0, 0), (56, .iload 4, 0, 0, 0, 0), (58, .iload_n 3, 0, 0, 0, 0), (59, .iconst 1, 0, 0, 0, 0), (60, .isub, 0, 0, 0, 0), (61, .invokevirtual 79, 22, 595, 1, 0), (64, .iadd, 0, 0, 0, 0), (65, .aload_n 0, 0, 0, 0, 0), (66, .iload 4, 0, 0, 0, 0), (68, .iload_n 3, 0, 0, 0, 0), (69, .iconst 1, 0, 0, 0, 0), (70, .iadd, 0, 0, 0, 0), (71, .invokevirtual 79, 22, 595, 1, 0), (74, .iadd, 0, 0, 0, 0), (75, .iadd, 0, 0, 0, 0), (76, .istore_n 2, 0, 0, 0, 0), (77, .iinc 4 1, 0, 0, 0, 0), (80, .goto (-65), 15, 0, 0, 0), (83, .iinc 3 1, 0, 0, 0, 0), (86, .goto (-82), 4, 0, 0, 0), (89, .iload_n 2, 0, 0, 0, 0), (90, .ireturn, 0, 0, 0, 0)]
/-- ParallaxSheets.Parts bareSide -/
def m_p_22 : List m_I := [(0, .aload_n 0, 0, 0, 0, 0), (1, .iload_n 1, 0, 0, 0, 0), (2, .iload_n 2, 0, 0, 0, 0), (3, .invokevirtual 46, 17, 550, 1, 0), (6, .iconst (-1), 0, 0, 0, 0), (7, .if_icmp .ne 7, 14, 0, 0, 0), (10, .iconst 1, 0, 0, 0, 0), (11, .goto 4, 15, 0, 0, 0), (14, .iconst 0, 0, 0, 0, 0), (15, .ireturn, 0, 0, 0, 0)]
/-- ParallaxSheets.Seams init -/
def m_p_23 : List m_I := [(0, .aload_n 0, 0, 0, 0, 0), (1, .invokespecial 3, 0, 160, 7, 0), (4, .aload_n 0, 0, 0, 0, 0), (5, .iconst 0, 0, 0, 0, 0), (6, .putfield 9, 2, 0, 0, 163), (9, .aload_n 0, 0, 0, 0, 0), (10, .bipush 16, 0, 0, 0, 0), (12, .newarray .int, 0, 81, 0, 0), (14, .putfield 15, 2, 1, 0, 165), (17, .aload_n 0, 0, 0, 0, 0), (18, .sipush 256, 0, 0, 0, 0), (21, .newarray .int, 0, 81, 0, 0), (23, .putfield 19, 2, 2, 0, 167), (26, .aload_n 0, 0, 0, 0, 0), (27, .new 22, 3, 161, 0, 0), (30, .dup, 0, 0, 0, 0), (31, .invokespecial 24, 30, 162, 2, 0), (34, .putfield 25, 2, 3, 0, 168), (37, .return_, 0, 0, 0, 0)]
/-- ParallaxSheets.Seams find -/
def m_p_24 : List m_I := [(0, .iconst 0, 0, 0, 0, 0), (1, .istore_n 2, 0, 0, 0, 0), (2, .iload_n 2, 0, 0, 0, 0), (3, .aload_n 1, 0, 0, 0, 0), (4, .getfield 29, 3, 1, 0, 66), (7, .if_icmp .ge 55, 62, 0, 0, 0), (10, .iconst 0, 0, 0, 0, 0), (11, .istore_n 3, 0, 0, 0, 0), (12, .iload_n 3, 0, 0, 0, 0), (13, .aload_n 1, 0, 0, 0, 0), (14, .getfield 32, 3, 0, 0, 62), (17, .if_icmp .ge 39, 56, 0, 0, 0), (20, .aload_n 0, 0, 0, 0, 0), (21, .getfield 19, 2, 2, 0, 167), (24, .iload_n 2, 0, 0, 0, 0), (25, .aload_n 1, 0, 0, 0, 0), (26, .getfield 32, 3, 0, 0, 62), (29, .imul, 0, 0, 0, 0), (30, .iload_n 3, 0, 0, 0, 0), (31, .iadd, 0, 0, 0, 0), (32, .aload_n 1, 0, 0, 0, 0), (33, .iload_n 3, 0, 0, 0, 0), (34, .iload_n 2, 0, 0, 0, 0), (35, .invokestatic 35, 26, 630, 1, 0), (38, .aload_n 0, 0, 0, 0, 0), (39, .aload_n 1, 0, 0, 0, 0), (40, .getfield 32, 3, 0, 0, 62), (43, .iload_n 3, 0, 0, 0, 0), (44, .iload_n 2, 0, 0, 0, 0), (45, .invokevirtual 39, 25, 635, 1, 0), (48, .iadd, 0, 0, 0, 0), (49, .iastore, 0, 0, 0, 0), (50, .iinc 3 1, 0, 0, 0, 0), (53, .goto (-41), 12, 0, 0, 0), (56, .iinc 2 1, 0, 0, 0, 0), (59, .goto (-57), 2, 0, 0, 0), (62, .aload_n 1, 0, 0, 0, 0), (63, .getfield 29, 3, 1, 0, 66), (66, .iconst 1, 0, 0, 0, 0), (67, .isub, 0, 0, 0, 0), (68, .istore_n 2, 0, 0, 0, 0), (69, .aload_n 0, 0, 0, 0, 0), (70, .getfield 15, 2, 1, 0, 165), (73, .iload_n 2, 0, 0, 0, 0), (74, .aload_n 0, 0, 0, 0, 0), (75, .aload_n 1, 0, 0, 0, 0), (76, .getfield 32, 3, 0, 0, 62), (79, .iload_n 2, 0, 0, 0, 0), (80, .iconst 0, 0, 0, 0, 0), (81, .aload_n 1, 0, 0, 0, 0), (82, .getfield 32, 3, 0, 0, 62), (85, .iconst 1, 0, 0, 0, 0), (86, .isub, 0, 0, 0, 0), (87, .invokevirtual 43, 27, 639, 1, 0), (90, .iastore, 0, 0, 0, 0), (91, .aload_n 0, 0, 0, 0, 0), (92, .aload_n 0, 0, 0, 0, 0), (93, .getfield 19, 2, 2, 0, 167), (96, .iload_n 2, 0, 0, 0, 0), (97, .aload_n 1, 0, 0, 0, 0), (98, .getfield 32, 3, 0, 0, 62), (101, .imul, 0, 0, 0, 0), (102, .aload_n 0, 0, 0, 0, 0), (103, .getfield 15, 2, 1, 0, 165), (106, .iload_n 2, 0, 0, 0, 0), (107, .iaload, 0, 0, 0, 0), (108, .iadd, 0, 0, 0, 0), (109, .iaload, 0, 0, 0, 0), (110, .putfield 9, 2, 0, 0, 163), (113, .iload_n 2, 0, 0, 0, 0), (114, .iconst 1, 0, 0, 0, 0), (115, .isub, 0, 0, 0, 0), (116, .istore_n 3, 0, 0, 0, 0), (117, .iload_n 3, 0, 0, 0, 0), (118, .ifCond .lt 44, 162, 0, 0, 0), (121, .aload_n 0, 0, 0, 0, 0), (122, .getfield 15, 2, 1, 0, 165), (125, .iload_n 3, 0, 0, 0, 0), (126, .aload_n 0, 0, 0, 0, 0), (127, .aload_n 1, 0, 0, 0, 0), (128, .getfield 32, 3, 0, 0, 62), (131, .iload_n 3, 0, 0, 0, 0), (132, .aload_n 0, 0, 0, 0, 0), (133, .getfield 15, 2, 1, 0, 165), (136, .iload_n 3, 0, 0, 0, 0), (137, .iconst 1, 0, 0, 0, 0), (138, .iadd, 0, 0, 0, 0), (139, .iaload, 0, 0, 0, 0), (140, .iconst 1, 0, 0, 0, 0), (141, .isub, 0, 0, 0, 0), (142, .aload_n 0, 0, 0, 0, 0), (143, .getfield 15, 2, 1, 0, 165), (146, .iload_n 3, 0, 0, 0, 0), (147, .iconst 1, 0, 0, 0, 0), (148, .iadd, 0, 0, 0, 0), (149, .iaload, 0, 0, 0, 0), (150, .iconst 1, 0, 0, 0, 0), (151, .iadd, 0, 0, 0, 0), (152, .invokevirtual 43, 27, 639, 1, 0), (155, .iastore, 0, 0, 0, 0), (156, .iinc 3 (-1), 0, 0, 0, 0), (159, .goto (-42), 117, 0, 0, 0), (162, .return_, 0, 0, 0, 0)]
/-- ParallaxSheets.Seams leastAbove -/
def m_p_25 : List m_I := [(0, .iload_n 3, 0, 0, 0, 0), (1, .ifCond .ne 5, 6, 0, 0, 0), (4, .iconst 0, 0, 0, 0, 0), (5, .ireturn, 0, 0, 0, 0), (6, .aload_n 0, 0, 0, 0, 0), (7, .getfield 19, 2, 2, 0, 167), (10, .iload_n 3, 0, 0, 0, 0), (11, .iconst 1, 0, 0, 0, 0), (12, .isub, 0, 0, 0, 0), (13, .iload_n 1, 0, 0, 0, 0), (14, .imul, 0, 0, 0, 0), (15, .aload_n 0, 0, 0, 0, 0), (16, .iload_n 1, 0, 0, 0, 0), (17, .iload_n 3, 0, 0, 0, 0), (18, .iconst 1, 0, 0, 0, 0), (19, .isub, 0, 0, 0, 0), (20, .iload_n 2, 0, 0, 0, 0), (21, .iconst 1, 0, 0, 0, 0), (22, .isub, 0, 0, 0, 0), (23, .iload_n 2, 0, 0, 0, 0), (24, .iconst 1, 0, 0, 0, 0), (25, .iadd, 0, 0, 0, 0), (26, .invokevirtual 43, 27, 639, 1, 0), (29, .iadd, 0, 0, 0, 0), (30, .iaload, 0, 0, 0, 0), (31, .ireturn, 0, 0, 0, 0)]
/-- ParallaxSheets.Seams costOf -/
def m_p_26 : List m_I := [(0, .aload_n 0, 0, 0, 0, 0), (1, .iload_n 1, 0, 0, 0, 0), (2, .iconst 1, 0, 0, 0, 0), (3, .iadd, 0, 0, 0, 0), (4, .iload_n 2, 0, 0, 0, 0), (5, .invokevirtual 47, 33, 633, 1, 0), (8, .aload_n 0, 0, 0, 0, 0), (9, .iload_n 1, 0, 0, 0, 0), (10, .iconst 1, 0, 0, 0, 0), (11, .isub, 0, 0, 0, 0), (12, .iload_n 2, 0, 0, 0, 0), (13, .invokevirtual 47, 33, 633, 1, 0), (16, .isub, 0, 0, 0, 0), (17, .invokestatic 51, 0, 634, 5, 0), (20, .aload_n 0, 0, 0, 0, 0), (21, .iload_n 1, 0, 0, 0, 0), (22, .iload_n 2, 0, 0, 0, 0), (23, .iconst 1, 0, 0, 0, 0), (24, .iadd, 0, 0, 0, 0), (25, .invokevirtual 47, 33, 633, 1, 0), (28, .aload_n 0, 0, 0, 0, 0), (29, .iload_n 1, 0, 0, 0, 0), (30, .iload_n 2, 0, 0, 0, 0), (31, .iconst 1, 0, 0, 0, 0), (32, .isub, 0, 0, 0, 0), (33, .invokevirtual 47, 33, 633, 1, 0), (36, .isub, 0, 0, 0, 0), (37, .invokestatic 51, 0, 634, 5, 0), (40, .iadd, 0, 0, 0, 0), (41, .ireturn, 0, 0, 0, 0)]
/-- ParallaxSheets.Seams bestColumn -/
def m_p_27 : List m_I := [(0, .iconst 0, 0, 0, 0, 0), (1, .iload_n 3, 0, 0, 0, 0), (2, .invokestatic 57, 0, 643, 3, 0), (5, .istore 5, 0, 0, 0, 0), (7, .iload 5, 0, 0, 0, 0), (9, .iconst 1, 0, 0, 0, 0), (10, .iadd, 0, 0, 0, 0), (11, .istore 6, 0, 0, 0, 0), (13, .iload 6, 0, 0, 0, 0), (15, .iload 4, 0, 0, 0, 0), (17, .iload_n 1, 0, 0, 0, 0), (18, .iconst 1, 0, 0, 0, 0), (19, .isub, 0, 0, 0, 0), (20, .invokestatic 60, 0, 644, 4, 0), (23, .if_icmp .gt 38, 61, 0, 0, 0), (26, .aload_n 0, 0, 0, 0, 0), (27, .getfield 19, 2, 2, 0, 167), (30, .iload_n 2, 0, 0, 0, 0), (31, .iload_n 1, 0, 0, 0, 0), (32, .imul, 0, 0, 0, 0), (33, .iload 6, 0, 0, 0, 0), (35, .iadd, 0, 0, 0, 0), (36, .iaload, 0, 0, 0, 0), (37, .aload_n 0, 0, 0, 0, 0), (38, .getfield 19, 2, 2, 0, 167), (41, .iload_n 2, 0, 0, 0, 0), (42, .iload_n 1, 0, 0, 0, 0), (43, .imul, 0, 0, 0, 0), (44, .iload 5, 0, 0, 0, 0), (46, .iadd, 0, 0, 0, 0), (47, .iaload, 0, 0, 0, 0), (48, .if_icmp .ge 7, 55, 0, 0, 0), (51, .iload 6, 0, 0, 0, 0), (53, .istore 5, 0, 0, 0, 0), (55, .iinc 6 1, 0, 0, 0, 0), (58, .goto (-45), 13, 0, 0, 0), (61, .iload 5, 0, 0, 0, 0), (63, .ireturn, 0, 0, 0, 0)]
/-- ParallaxSheets.Seams takeOut -/
def m_p_28 : List m_I := [(0, .aload_n 0, 0, 0, 0, 0), (1, .getfield 25, 2, 3, 0, 168), (4, .aload_n 1, 0, 0, 0, 0), (5, .getfield 32, 3, 0, 0, 62), (8, .iconst 1, 0, 0, 0, 0), (9, .isub, 0, 0, 0, 0), (10, .aload_n 1, 0, 0, 0, 0), (11, .getfield 29, 3, 1, 0, 66), (14, .invokevirtual 63, 32, 649, 1, 0), (17, .iconst 0, 0, 0, 0, 0), (18, .istore_n 2, 0, 0, 0, 0), (19, .iload_n 2, 0, 0, 0, 0), (20, .aload_n 0, 0, 0, 0, 0), (21, .getfield 25, 2, 3, 0, 168), (24, .getfield 29, 3, 1, 0, 66), (27, .if_icmp .ge 59, 86, 0, 0, 0), (30, .iconst 0, 0, 0, 0, 0), (31, .istore_n 3, 0, 0, 0, 0), (32, .iload_n 3, 0, 0, 0, 0), (33, .aload_n 0, 0, 0, 0, 0), (34, .getfield 25, 2, 3, 0, 168), (37, .getfield 32, 3, 0, 0, 62), (40, .if_icmp .ge 40, 80, 0, 0, 0), (43, .aload_n 0, 0, 0, 0, 0), (44, .getfield 25, 2, 3, 0, 168), (47, .iload_n 3, 0, 0, 0, 0), (48, .iload_n 2, 0, 0, 0, 0), (49, .aload_n 1, 0, 0, 0, 0), (50, .iload_n 3, 0, 0, 0, 0), (51, .aload_n 0, 0, 0, 0, 0), (52, .getfield 15, 2, 1, 0, 165), (55, .iload_n 2, 0, 0, 0, 0), (56, .iaload, 0, 0, 0, 0), (57, .if_icmp .ge 7, 64, 0, 0, 0), (60, .iload_n 3, 0, 0, 0, 0), (61, .goto 6, 67, 0, 0, 0), (64, .iload_n 3, 0, 0, 0, 0), (65, .iconst 1, 0, 0, 0, 0), (66, .iadd, 0, 0, 0, 0), (67, .iload_n 2, 0, 0, 0, 0), (68, .invokevirtual 47, 33, 633, 1, 0), (71, .invokevirtual 67, 34, 650, 1, 0), (74, .iinc 3 1, 0, 0, 0, 0), (77, .goto (-45), 32, 0, 0, 0), (80, .iinc 2 1, 0, 0, 0, 0), (83, .goto (-64), 19, 0, 0, 0), (86, .aload_n 1, 0, 0, 0, 0), (87, .aload_n 0, 0, 0, 0, 0), (88, .getfield 25, 2, 3, 0, 168), (91, .invokevirtual 71, 38, 651, 1, 0), (94, .return_, 0, 0, 0, 0)]
/-- ParallaxSheets.Seams putIn -/
def m_p_29 : List m_I := [(0, .aload_n 0, 0, 0, 0, 0), (1, .getfield 25, 2, 3, 0, 168), (4, .aload_n 1, 0, 0, 0, 0), (5, .getfield 32, 3, 0, 0, 62), (8, .iconst 1, 0, 0, 0, 0), (9, .iadd, 0, 0, 0, 0), (10, .aload_n 1, 0, 0, 0, 0), (11, .getfield 29, 3, 1, 0, 66), (14, .invokevirtual 63, 32, 649, 1, 0), (17, .iconst 0, 0, 0, 0, 0), (18, .istore_n 2, 0, 0, 0, 0), (19, .iload_n 2, 0, 0, 0, 0), (20, .aload_n 0, 0, 0, 0, 0), (21, .getfield 25, 2, 3, 0, 168), (24, .getfield 29, 3, 1, 0, 66), (27, .if_icmp .ge 95, 122, 0, 0, 0), (30, .aload_n 0, 0, 0, 0, 0), (31, .getfield 15, 2, 1, 0, 165), (34, .iload_n 2, 0, 0, 0, 0), (35, .iaload, 0, 0, 0, 0), (36, .istore_n 3, 0, 0, 0, 0), (37, .iconst 0, 0, 0, 0, 0), (38, .istore 4, 0, 0, 0, 0), (40, .iload 4, 0, 0, 0, 0), (42, .aload_n 0, 0, 0, 0, 0), (43, .getfield 25, 2, 3, 0, 168), (46, .getfield 32, 3, 0, 0, 62), (49, .if_icmp .ge 39, 88, 0, 0, 0), (52, .aload_n 0, 0, 0, 0, 0), (53, .getfield 25, 2, 3, 0, 168), (56, .iload 4, 0, 0, 0, 0), (58, .iload_n 2, 0, 0, 0, 0), (59, .aload_n 1, 0, 0, 0, 0), (60, .iload 4, 0, 0, 0, 0), (62, .iload_n 3, 0, 0, 0, 0), (63, .if_icmp .gt 8, 71, 0, 0, 0), (66, .iload 4, 0, 0, 0, 0), (68, .goto 7, 75, 0, 0, 0), (71, .iload 4, 0, 0, 0, 0), (73, .iconst 1, 0, 0, 0, 0), (74, .isub, 0, 0, 0, 0), (75, .iload_n 2, 0, 0, 0, 0), (76, .invokevirtual 47, 33, 633, 1, 0), (79, .invokevirtual 67, 34, 650, 1, 0), (82, .iinc 4 1, 0, 0, 0, 0), (85, .goto (-45), 40, 0, 0, 0), (88, .aload_n 0, 0, 0, 0, 0), (89, .getfield 25, 2, 3, 0, 168), (92, .iload_n 3, 0, 0, 0, 0), (93, .iconst 1, 0, 0, 0, 0), (94, .iadd, 0, 0, 0, 0), (95, .iload_n 2, 0, 0, 0, 0), (96, .aload_n 1, 0, 0, 0, 0), (97, .iload_n 3, 0, 0, 0, 0), (98, .iload_n 2, 0, 0, 0, 0), (99, .invokevirtual 47, 33, 633, 1, 0), (102, .aload_n 1, 0, 0, 0, 0), (103, .iload_n 3, 0, 0, 0, 0), (104, .iconst 1, 0, 0, 0, 0), (105, .iadd, 0, 0, 0, 0), (106, .iload_n 2, 0, 0, 0, 0), (107, .invokevirtual 47, 33, 633, 1, 0), (110, .iadd, 0, 0, 0, 0), (111, .iconst 2, 0, 0, 0, 0), (112, .idiv, 0, 0, 0, 0), (113, .invokevirtual 67, 34, 650, 1, 0), (116, .iinc 2 1, 0, 0, 0, 0), (119, .goto (-100), 19, 0, 0, 0), (122, .aload_n 1, 0, 0, 0, 0), (123, .aload_n 0, 0, 0, 0, 0), (124, .getfield 25, 2, 3, 0, 168), (127, .invokevirtual 71, 38, 651, 1, 0), (130, .return_, 0, 0, 0, 0)]
/-- ParallaxSheets.Sheet init -/
def m_p_30 : List m_I := [(0, .aload_n 0, 0, 0, 0, 0), (1, .invokespecial 3, 0, 59, 7, 0), (4, .aload_n 0, 0, 0, 0, 0), (5, .bipush 8, 0, 0, 0, 0), (7, .putfield 9, 3, 0, 0, 60), (10, .aload_n 0, 0, 0, 0, 0), (11, .bipush 8, 0, 0, 0, 0), (13, .putfield 15, 3, 1, 0, 65), (16, .aload_n 0, 0, 0, 0, 0), (17, .sipush 256, 0, 0, 0, 0), (20, .newarray .int, 0, 81, 0, 0), (22, .putfield 18, 3, 2, 0, 70), (25, .return_, 0, 0, 0, 0)]
/-- ParallaxSheets.Sheet size -/
def m_p_31 : List m_I := [(0, .aload_n 0, 0, 0, 0, 0), (1, .getfield 9, 3, 0, 0, 60), (4, .aload_n 0, 0, 0, 0, 0), (5, .getfield 15, 3, 1, 0, 65), (8, .imul, 0, 0, 0, 0), (9, .ireturn, 0, 0, 0, 0)]
/-- ParallaxSheets.Sheet measure -/
def m_p_32 : List m_I := [(0, .aload_n 0, 0, 0, 0, 0), (1, .iload_n 1, 0, 0, 0, 0), (2, .putfield 9, 3, 0, 0, 60), (5, .aload_n 0, 0, 0, 0, 0), (6, .iload_n 2, 0, 0, 0, 0), (7, .putfield 15, 3, 1, 0, 65), (10, .return_, 0, 0, 0, 0)]
/-- ParallaxSheets.Sheet near -/
def m_p_33 : List m_I := [(0, .iconst 0, 0, 0, 0, 0), (1, .iload_n 1, 0, 0, 0, 0), (2, .aload_n 0, 0, 0, 0, 0), (3, .getfield 9, 3, 0, 0, 60), (6, .iconst 1, 0, 0, 0, 0), (7, .isub, 0, 0, 0, 0), (8, .invokestatic 22, 0, 321, 4, 0), (11, .invokestatic 28, 0, 324, 3, 0), (14, .istore_n 3, 0, 0, 0, 0), (15, .iconst 0, 0, 0, 0, 0), (16, .iload_n 2, 0, 0, 0, 0), (17, .aload_n 0, 0, 0, 0, 0), (18, .getfield 15, 3, 1, 0, 65), (21, .iconst 1, 0, 0, 0, 0), (22, .isub, 0, 0, 0, 0), (23, .invokestatic 22, 0, 321, 4, 0), (26, .invokestatic 28, 0, 324, 3, 0), (29, .istore 4, 0, 0, 0, 0), (31, .aload_n 0, 0, 0, 0, 0), (32, .getfield 18, 3, 2, 0, 70), (35, .iload 4, 0, 0, 0, 0), (37, .aload_n 0, 0, 0, 0, 0), (38, .getfield 9, 3, 0, 0, 60), (41, .imul, 0, 0, 0, 0), (42, .iload_n 3, 0, 0, 0, 0), (43, .iadd, 0, 0, 0, 0), (44, .iaload, 0, 0, 0, 0), (45, .ireturn, 0, 0, 0, 0)]
/-- ParallaxSheets.Sheet put -/
def m_p_34 : List m_I := [(0, .aload_n 0, 0, 0, 0, 0), (1, .getfield 18, 3, 2, 0, 70), (4, .iload_n 2, 0, 0, 0, 0), (5, .aload_n 0, 0, 0, 0, 0), (6, .getfield 9, 3, 0, 0, 60), (9, .imul, 0, 0, 0, 0), (10, .iload_n 1, 0, 0, 0, 0), (11, .iadd, 0, 0, 0, 0), (12, .iconst 0, 0, 0, 0, 0), (13, .iload_n 3, 0, 0, 0, 0), (14, .sipush 255, 0, 0, 0, 0), (17, .invokestatic 22, 0, 321, 4, 0), (20, .invokestatic 28, 0, 324, 3, 0), (23, .iastore, 0, 0, 0, 0), (24, .return_, 0, 0, 0, 0)]
/-- ParallaxSheets.Sheet total -/
def m_p_35 : List m_I := [(0, .iconst 0, 0, 0, 0, 0), (1, .istore_n 1, 0, 0, 0, 0), (2, .iconst 0, 0, 0, 0, 0), (3, .istore_n 2, 0, 0, 0, 0), (4, .iload_n 2, 0, 0, 0, 0), (5, .aload_n 0, 0, 0, 0, 0), (6, .invokevirtual 31, 31, 340, 1, 0), (9, .if_icmp .ge 18, 27, 0, 0, 0), (12, .iload_n 1, 0, 0, 0, 0), (13, .aload_n 0, 0, 0, 0, 0), (14, .getfield 18, 3, 2, 0, 70), (17, .iload_n 2, 0, 0, 0, 0), (18, .iaload, 0, 0, 0, 0), (19, .iadd, 0, 0, 0, 0), (20, .istore_n 1, 0, 0, 0, 0), (21, .iinc 2 1, 0, 0, 0, 0), (24, .goto (-20), 4, 0, 0, 0), (27, .iload_n 1, 0, 0, 0, 0), (28, .ireturn, 0, 0, 0, 0)]
/-- ParallaxSheets.Sheet isAsLargeAs -/
def m_p_36 : List m_I := [(0, .aload_n 0, 0, 0, 0, 0), (1, .getfield 9, 3, 0, 0, 60), (4, .aload_n 1, 0, 0, 0, 0), (5, .getfield 9, 3, 0, 0, 60), (8, .if_icmp .ne 18, 26, 0, 0, 0), (11, .aload_n 0, 0, 0, 0, 0), (12, .getfield 15, 3, 1, 0, 65), (15, .aload_n 1, 0, 0, 0, 0), (16, .getfield 15, 3, 1, 0, 65), (19, .if_icmp .ne 7, 26, 0, 0, 0), (22, .iconst 1, 0, 0, 0, 0), (23, .goto 4, 27, 0, 0, 0), (26, .iconst 0, 0, 0, 0, 0), (27, .ireturn, 0, 0, 0, 0)]
/-- ParallaxSheets.Sheet differing -/
def m_p_37 : List m_I := [(0, .iconst 0, 0, 0, 0, 0), (1, .istore_n 2, 0, 0, 0, 0), (2, .iconst 0, 0, 0, 0, 0), (3, .istore_n 3, 0, 0, 0, 0), (4, .iload_n 3, 0, 0, 0, 0), (5, .aload_n 0, 0, 0, 0, 0), (6, .invokevirtual 31, 31, 340, 1, 0), (9, .if_icmp .ge 27, 36, 0, 0, 0), (12, .aload_n 0, 0, 0, 0, 0), (13, .getfield 18, 3, 2, 0, 70), (16, .iload_n 3, 0, 0, 0, 0), (17, .iaload, 0, 0, 0, 0), (18, .aload_n 1, 0, 0, 0, 0), (19, .getfield 18, 3, 2, 0, 70), (22, .iload_n 3, 0, 0, 0, 0), (23, .iaload, 0, 0, 0, 0), (24, .if_icmp .eq 6, 30, 0, 0, 0), (27, .iinc 2 1, 0, 0, 0, 0), (30, .iinc 3 1, 0, 0, 0, 0), (33, .goto (-29), 4, 0, 0, 0), (36, .iload_n 2, 0, 0, 0, 0), (37, .ireturn, 0, 0, 0, 0)]
/-- ParallaxSheets.Sheet become -/
def m_p_38 : List m_I := [(0, .aload_n 0, 0, 0, 0, 0), (1, .aload_n 1, 0, 0, 0, 0), (2, .getfield 9, 3, 0, 0, 60), (5, .aload_n 1, 0, 0, 0, 0), (6, .getfield 15, 3, 1, 0, 65), (9, .invokevirtual 35, 32, 339, 1, 0), (12, .aload_n 1, 0, 0, 0, 0), (13, .getfield 18, 3, 2, 0, 70), (16, .iconst 0, 0, 0, 0, 0), (17, .aload_n 0, 0, 0, 0, 0), (18, .getfield 18, 3, 2, 0, 70), (21, .iconst 0, 0, 0, 0, 0), (22, .aload_n 0, 0, 0, 0, 0), (23, .invokevirtual 31, 31, 340, 1, 0), (26, .invokestatic 39, 0, 341, 6, 0), (29, .return_, 0, 0, 0, 0)]
/-- ParallaxSheets.Tones init -/
def m_p_39 : List m_I := [(0, .aload_n 0, 0, 0, 0, 0), (1, .invokespecial 3, 0, 111, 7, 0), (4, .aload_n 0, 0, 0, 0, 0), (5, .sipush 256, 0, 0, 0, 0), (8, .newarray .int, 0, 81, 0, 0), (10, .putfield 9, 4, 0, 0, 112), (13, .aload_n 0, 0, 0, 0, 0), (14, .sipush 256, 0, 0, 0, 0), (17, .newarray .int, 0, 81, 0, 0), (19, .putfield 15, 4, 1, 0, 113), (22, .aload_n 0, 0, 0, 0, 0), (23, .iconst 0, 0, 0, 0, 0), (24, .putfield 18, 4, 2, 0, 114), (27, .return_, 0, 0, 0, 0)]
/-- ParallaxSheets.Tones read -/
def m_p_40 : List m_I := [(0, .iconst 0, 0, 0, 0, 0), (1, .istore_n 2, 0, 0, 0, 0), (2, .iload_n 2, 0, 0, 0, 0), (3, .sipush 256, 0, 0, 0, 0), (6, .if_icmp .ge 16, 22, 0, 0, 0), (9, .aload_n 0, 0, 0, 0, 0), (10, .getfield 9, 4, 0, 0, 112), (13, .iload_n 2, 0, 0, 0, 0), (14, .iconst 0, 0, 0, 0, 0), (15, .iastore, 0, 0, 0, 0), (16, .iinc 2 1, 0, 0, 0, 0), (19, .goto (-17), 2, 0, 0, 0), (22, .iconst 0, 0, 0, 0, 0), (23, .istore_n 2, 0, 0, 0, 0), (24, .iload_n 2, 0, 0, 0, 0), (25, .aload_n 1, 0, 0, 0, 0), (26, .invokevirtual 22, 31, 460, 1, 0), (29, .if_icmp .ge 24, 53, 0, 0, 0), (32, .aload_n 0, 0, 0, 0, 0), (33, .getfield 9, 4, 0, 0, 112), (36, .aload_n 1, 0, 0, 0, 0), (37, .getfield 28, 3, 2, 0, 71), (40, .iload_n 2, 0, 0, 0, 0), (41, .iaload, 0, 0, 0, 0), (42, .dup2, 0, 0, 0, 0), (43, .iaload, 0, 0, 0, 0), (44, .iconst 1, 0, 0, 0, 0), (45, .iadd, 0, 0, 0, 0), (46, .iastore, 0, 0, 0, 0), (47, .iinc 2 1, 0, 0, 0, 0), (50, .goto (-26), 24, 0, 0, 0), (53, .aload_n 0, 0, 0, 0, 0), (54, .aload_n 1, 0, 0, 0, 0), (55, .invokevirtual 22, 31, 460, 1, 0), (58, .putfield 18, 4, 2, 0, 114), (61, .return_, 0, 0, 0, 0)]
/-- ParallaxSheets.Tones planned -/
def m_p_41 : List m_I := [(0, .aload_n 0, 0, 0, 0, 0), (1, .getfield 15, 4, 1, 0, 113), (4, .iload_n 1, 0, 0, 0, 0), (5, .iaload, 0, 0, 0, 0), (6, .ireturn, 0, 0, 0, 0)]
/-- ParallaxSheets.Tones plan -/
def m_p_42 : List m_I := [(0, .iload_n 1, 0, 0, 0, 0), (1, .tableswitch 48 0 2 #[27, 34, 41], 0, 0, 0, 27), (28, .aload_n 0, 0, 0, 0, 0), (29, .invokevirtual 31, 43, 465, 1, 0), (32, .goto 21, 53, 0, 0, 0), (35, .aload_n 0, 0, 0, 0, 0), (36, .invokevirtual 34, 44, 469, 1, 0), (39, .goto 14, 53, 0, 0, 0), (42, .aload_n 0, 0, 0, 0, 0), (43, .invokevirtual 37, 45, 485, 1, 0), (46, .goto 7, 53, 0, 0, 0), (49, .aload_n 0, 0, 0, 0, 0), (50, .invokevirtual 40, 46, 489, 1, 0), (53, .return_, 0, 0, 0, 0)]
/-- ParallaxSheets.Tones planNegative -/
def m_p_43 : List m_I := [(0, .iconst 0, 0, 0, 0, 0), (1, .istore_n 1, 0, 0, 0, 0), (2, .iload_n 1, 0, 0, 0, 0), (3, .sipush 256, 0, 0, 0, 0), (6, .if_icmp .ge 20, 26, 0, 0, 0), (9, .aload_n 0, 0, 0, 0, 0), (10, .getfield 15, 4, 1, 0, 113), (13, .iload_n 1, 0, 0, 0, 0), (14, .sipush 255, 0, 0, 0, 0), (17, .iload_n 1, 0, 0, 0, 0), (18, .isub, 0, 0, 0, 0), (19, .iastore, 0, 0, 0, 0), (20, .iinc 1 1, 0, 0, 0, 0), (23, .goto (-21), 2, 0, 0, 0), (26, .return_, 0, 0, 0, 0)]
/-- ParallaxSheets.Tones planStretch -/
def m_p_44 : List m_I := [(0, .aload_n 0, 0, 0, 0, 0), (1, .invokevirtual 43, 47, 473, 1, 0), (4, .istore_n 1, 0, 0, 0, 0), (5, .aload_n 0, 0, 0, 0, 0), (6, .invokevirtual 46, 48, 481, 1, 0), (9, .istore_n 2, 0, 0, 0, 0), (10, .iconst 0, 0, 0, 0, 0), (11, .istore_n 3, 0, 0, 0, 0), (12, .iload_n 3, 0, 0, 0, 0), (13, .sipush 256, 0, 0, 0, 0), (16, .if_icmp .ge 35, 51, 0, 0, 0), (19, .aload_n 0, 0, 0, 0, 0), (20, .getfield 15, 4, 1, 0, 113), (23, .iload_n 3, 0, 0, 0, 0), (24, .iload_n 1, 0, 0, 0, 0), (25, .iload_n 2, 0, 0, 0, 0), (26, .if_icmp .ge 17, 43, 0, 0, 0), (29, .iload_n 3, 0, 0, 0, 0), (30, .iload_n 1, 0, 0, 0, 0), (31, .isub, 0, 0, 0, 0), (32, .sipush 255, 0, 0, 0, 0), (35, .imul, 0, 0, 0, 0), (36, .iload_n 2, 0, 0, 0, 0), (37, .iload_n 1, 0, 0, 0, 0), (38, .isub, 0, 0, 0, 0), (39, .idiv, 0, 0, 0, 0), (40, .goto 4, 44, 0, 0, 0), (43, .iload_n 3, 0, 0, 0, 0), (44, .iastore, 0, 0, 0, 0), (45, .iinc 3 1, 0, 0, 0, 0), (48, .goto (-36), 12, 0, 0, 0), (51, .return_, 0, 0, 0, 0)]
/-- ParallaxSheets.Tones planEven -/
def m_p_45 : List m_I := [(0, .iconst 0, 0, 0, 0, 0), (1, .istore_n 1, 0, 0, 0, 0), (2, .iconst 0, 0, 0, 0, 0), (3, .istore_n 2, 0, 0, 0, 0), (4, .iload_n 2, 0, 0, 0, 0), (5, .sipush 256, 0, 0, 0, 0), (8, .if_icmp .ge 45, 53, 0, 0, 0), (11, .iload_n 1, 0, 0, 0, 0), (12, .aload_n 0, 0, 0, 0, 0), (13, .getfield 9, 4, 0, 0, 112), (16, .iload_n 2, 0, 0, 0, 0), (17, .iaload, 0, 0, 0, 0), (18, .iadd, 0, 0, 0, 0), (19, .istore_n 1, 0, 0, 0, 0), (20, .aload_n 0, 0, 0, 0, 0), (21, .getfield 15, 4, 1, 0, 113), (24, .iload_n 2, 0, 0, 0, 0), (25, .aload_n 0, 0, 0, 0, 0), (26, .getfield 18, 4, 2, 0, 114), (29, .ifCond .le 16, 45, 0, 0, 0), (32, .sipush 255, 0, 0, 0, 0), (35, .iload_n 1, 0, 0, 0, 0), (36, .imul, 0, 0, 0, 0), (37, .aload_n 0, 0, 0, 0, 0), (38, .getfield 18, 4, 2, 0, 114), (41, .idiv, 0, 0, 0, 0), (42, .goto 4, 46, 0, 0, 0), (45, .iload_n 2, 0, 0, 0, 0), (46, .iastore, 0, 0, 0, 0), (47, .iinc 2 1, 0, 0, 0, 0), (50, .goto (-46), 4, 0, 0, 0), (53, .return_, 0, 0, 0, 0)]
/-- ParallaxSheets.Tones planCut -/
def m_p_46 : List m_I := [(0, .aload_n 0, 0, 0, 0, 0), (1, .invokevirtual 49, 50, 493, 1, 0), (4, .istore_n 1, 0, 0, 0, 0), (5, .iconst 0, 0, 0, 0, 0), (6, .istore_n 2, 0, 0, 0, 0), (7, .iload_n 2, 0, 0, 0, 0), (8, .sipush 256, 0, 0, 0, 0), (11, .if_icmp .ge 27, 38, 0, 0, 0), (14, .aload_n 0, 0, 0, 0, 0), (15, .getfield 15, 4, 1, 0, 113), (18, .iload_n 2, 0, 0, 0, 0), (19, .iload_n 2, 0, 0, 0, 0), (20, .iload_n 1, 0, 0, 0, 0), (21, .if_icmp .lt 9, 30, 0, 0, 0), (24, .sipush 255, 0, 0, 0, 0), (27, .goto 4, 31, 0, 0, 0), (30, .iconst 0, 0, 0, 0, 0), (31, .iastore, 0, 0, 0, 0), (32, .iinc 2 1, 0, 0, 0, 0), (35, .goto (-28), 7, 0, 0, 0), (38, .return_, 0, 0, 0, 0)]
/-- ParallaxSheets.Tones least -/
def m_p_47 : List m_I := [(0, .aload_n 0, 0, 0, 0, 0), (1, .iconst 0, 0, 0, 0, 0), (2, .invokevirtual 52, 49, 477, 1, 0), (5, .ireturn, 0, 0, 0, 0)]
/-- ParallaxSheets.Tones greatest -/
def m_p_48 : List m_I := [(0, .aload_n 0, 0, 0, 0, 0), (1, .aload_n 0, 0, 0, 0, 0), (2, .getfield 18, 4, 2, 0, 114), (5, .iconst 1, 0, 0, 0, 0), (6, .isub, 0, 0, 0, 0), (7, .invokevirtual 52, 49, 477, 1, 0), (10, .ireturn, 0, 0, 0, 0)]
/-- ParallaxSheets.Tones inOrder -/
def m_p_49 : List m_I := [(0, .iconst 0, 0, 0, 0, 0), (1, .istore_n 2, 0, 0, 0, 0), (2, .iconst 0, 0, 0, 0, 0), (3, .istore_n 3, 0, 0, 0, 0), (4, .iload_n 3, 0, 0, 0, 0), (5, .sipush 256, 0, 0, 0, 0), (8, .if_icmp .ge 25, 33, 0, 0, 0), (11, .iload_n 2, 0, 0, 0, 0), (12, .aload_n 0, 0, 0, 0, 0), (13, .getfield 9, 4, 0, 0, 112), (16, .iload_n 3, 0, 0, 0, 0), (17, .iaload, 0, 0, 0, 0), (18, .iadd, 0, 0, 0, 0), (19, .istore_n 2, 0, 0, 0, 0), (20, .iload_n 1, 0, 0, 0, 0), (21, .iload_n 2, 0, 0, 0, 0), (22, .if_icmp .ge 5, 27, 0, 0, 0), (25, .iload_n 3, 0, 0, 0, 0), (26, .ireturn, 0, 0, 0, 0), (27, .iinc 3 1, 0, 0, 0, 0), (30, .goto (-26), 4, 0, 0, 0), (33, .sipush 255, 0, 0, 0, 0), (36, .ireturn, 0, 0, 0, 0)]
/-- ParallaxSheets.Tones cut -/
def m_p_50 : List m_I := [(0, .lconst 0, 0, 0, 0, 0), (1, .lstore_n 1, 0, 0, 0, 0), (2, .iconst 0, 0, 0, 0, 0), (3, .istore_n 3, 0, 0, 0, 0), (4, .iload_n 3, 0, 0, 0, 0), (5, .sipush 256, 0, 0, 0, 0), (8, .if_icmp .ge 22, 30, 0, 0, 0), (11, .lload_n 1, 0, 0, 0, 0), (12, .iload_n 3, 0, 0, 0, 0), (13, .i2l, 0, 0, 0, 0), (14, .aload_n 0, 0, 0, 0, 0), (15, .getfield 9, 4, 0, 0, 112), (18, .iload_n 3, 0, 0, 0, 0), (19, .iaload, 0, 0, 0, 0), (20, .i2l, 0, 0, 0, 0), (21, .lmul, 0, 0, 0, 0), (22, .ladd, 0, 0, 0, 0), (23, .lstore_n 1, 0, 0, 0, 0), (24, .iinc 3 1, 0, 0, 0, 0), (27, .goto (-23), 4, 0, 0, 0), (30, .lconst 0, 0, 0, 0, 0), (31, .lstore_n 3, 0, 0, 0, 0), (32, .lconst 0, 0, 0, 0, 0), (33, .lstore 5, 0, 0, 0, 0), (35, .ldc2_w 56, 0, 497, 0, (-1)), (38, .lstore 7, 0, 0, 0, 0), (40, .iconst 0, 0, 0, 0, 0), (41, .istore 9, 0, 0, 0, 0), (43, .iconst 1, 0, 0, 0, 0), (44, .istore 10, 0, 0, 0, 0), (46, .iload 10, 0, 0, 0, 0), (48, .sipush 256, 0, 0, 0, 0), (51, .if_icmp .ge 107, 158, 0, 0, 0), (54, .lload_n 3, 0, 0, 0, 0), (55, .aload_n 0, 0, 0, 0, 0), (56, .getfield 9, 4, 0, 0, 112), (59, .iload 10, 0, 0, 0, 0), (61, .iconst 1, 0, 0, 0, 0), (62, .isub, 0, 0, 0, 0), (63, .iaload, 0, 0, 0, 0), (64, .i2l, 0, 0, 0, 0), (65, .ladd, 0, 0, 0, 0), (66, .lstore_n 3, 0, 0, 0, 0), (67, .lload 5, 0, 0, 0, 0), (69, .iload 10, 0, 0, 0, 0), (71, .iconst 1, 0, 0, 0, 0), (72, .isub, 0, 0, 0, 0), (73, .i2l, 0, 0, 0, 0), (74, .aload_n 0, 0, 0, 0, 0), (75, .getfield 9, 4, 0, 0, 112), (78, .iload 10, 0, 0, 0, 0), (80, .iconst 1, 0, 0, 0, 0), (81, .isub, 0, 0, 0, 0), (82, .iaload, 0, 0, 0, 0), (83, .i2l, 0, 0, 0, 0), (84, .lmul, 0, 0, 0, 0), (85, .ladd, 0, 0, 0, 0), (86, .lstore 5, 0, 0, 0, 0), (88, .aload_n 0, 0, 0, 0, 0), (89, .getfield 18, 4, 2, 0, 114), (92, .i2l, 0, 0, 0, 0), (93, .lload_n 3, 0, 0, 0, 0), (94, .lsub, 0, 0, 0, 0), (95, .lstore 11, 0, 0, 0, 0), (97, .lload_n 3, 0, 0, 0, 0), (98, .lconst 0, 0, 0, 0, 0), (99, .lcmp, 0, 0, 0, 0), (100, .ifCond .le 52, 152, 0, 0, 0), (103, .lload 11, 0, 0, 0, 0), (105, .lconst 0, 0, 0, 0, 0), (106, .lcmp, 0, 0, 0, 0), (107, .ifCond .le 45, 152, 0, 0, 0), (110, .lload 5, 0, 0, 0, 0), (112, .lload 11, 0, 0, 0, 0), (114, .lmul, 0, 0, 0, 0), (115, .lload_n 1, 0, 0, 0, 0), (116, .lload 5, 0, 0, 0, 0), (118, .lsub, 0, 0, 0, 0), (119, .lload_n 3, 0, 0, 0, 0), (120, .lmul, 0, 0, 0, 0), (121, .lsub, 0, 0, 0, 0), (122, .lstore 13, 0, 0, 0, 0), (124, .lload 13, 0, 0, 0, 0), (126, .lload 13, 0, 0, 0, 0), (128, .lmul, 0, 0, 0, 0), (129, .lload_n 3, 0, 0, 0, 0), (130, .lload 11, 0, 0, 0, 0), (132, .lmul, 0, 0, 0, 0), (133, .ldiv, 0, 0, 0, 0), (134, .lstore 15, 0, 0, 0, 0), (136, .lload 15, 0, 0, 0, 0), (138, .lload 7, 0, 0, 0, 0), (140, .lcmp, 0, 0, 0, 0), (141, .ifCond .le 11, 152, 0, 0, 0), (144, .lload 15, 0, 0, 0, 0), (146, .lstore 7, 0, 0, 0, 0), (148, .iload 10, 0, 0, 0, 0), (150, .istore 9, 0, 0, 0, 0), (152, .iinc 10 1, 0, 0, 0, 0), (155, .goto (-109), 46, 0, 0, 0), (158, .iload 9, 0, 0, 0, 0), (160, .ireturn, 0, 0, 0, 0)]
/-- ParallaxSheets init -/
def m_p_51 : List m_I := [(0, .aload_n 0, 0, 0, 0, 0), (1, .invokespecial 3, 0, 50, 7, 0), (4, .aload_n 0, 0, 0, 0, 0), (5, .iconst 4, 0, 0, 0, 0), (6, .anewarray 9, 2, 53, 0, 0), (9, .putfield 11, 5, 0, 0, 178), (12, .iconst 0, 0, 0, 0, 0), (13, .istore_n 1, 0, 0, 0, 0), (14, .iload_n 1, 0, 0, 0, 0), (15, .iconst 4, 0, 0, 0, 0), (16, .if_icmp .ge 22, 38, 0, 0, 0), (19, .aload_n 0, 0, 0, 0, 0), (20, .getfield 11, 5, 0, 0, 178), (23, .iload_n 1, 0, 0, 0, 0), (24, .new 9, 3, 53, 0, 0), (27, .dup, 0, 0, 0, 0), (28, .invokespecial 15, 30, 56, 2, 0), (31, .aastore, 0, 0, 0, 0), (32, .iinc 1 1, 0, 0, 0, 0), (35, .goto (-21), 14, 0, 0, 0), (38, .aload_n 0, 0, 0, 0, 0), (39, .new 9, 3, 53, 0, 0), (42, .dup, 0, 0, 0, 0), (43, .invokespecial 15, 30, 56, 2, 0), (46, .putfield 16, 5, 1, 0, 179), (49, .aload_n 0, 0, 0, 0, 0), (50, .new 20, 0, 82, 0, 0), (53, .dup, 0, 0, 0, 0), (54, .invokespecial 22, 0, 84, 1, 0), (57, .putfield 23, 5, 2, 0, 180), (60, .aload_n 0, 0, 0, 0, 0), (61, .new 27, 4, 106, 0, 0), (64, .dup, 0, 0, 0, 0), (65, .invokespecial 29, 39, 108, 2, 0), (68, .putfield 30, 5, 3, 0, 181), (71, .aload_n 0, 0, 0, 0, 0), (72, .new 34, 1, 122, 0, 0), (75, .dup, 0, 0, 0, 0), (76, .invokespecial 36, 11, 124, 2, 0), (79, .putfield 37, 5, 4, 0, 182), (82, .aload_n 0, 0, 0, 0, 0), (83, .new 41, 2, 155, 0, 0), (86, .dup, 0, 0, 0, 0), (87, .invokespecial 43, 23, 157, 2, 0), (90, .putfield 44, 5, 5, 0, 183), (93, .return_, 0, 0, 0, 0)]
/-- ParallaxSheets fresh -/
def m_p_52 : List m_I := [(0, .aload_n 0, 0, 0, 0, 0), (1, .iload_n 1, 0, 0, 0, 0), (2, .invokevirtual 48, 76, 201, 1, 0), (5, .astore 5, 0, 0, 0, 0), (7, .iconst 1, 0, 0, 0, 0), (8, .iload_n 2, 0, 0, 0, 0), (9, .bipush 16, 0, 0, 0, 0), (11, .invokestatic 52, 81, 273, 1, 0), (14, .ifCond .eq 25, 39, 0, 0, 0), (17, .iconst 1, 0, 0, 0, 0), (18, .iload_n 3, 0, 0, 0, 0), (19, .bipush 16, 0, 0, 0, 0), (21, .invokestatic 52, 81, 273, 1, 0), (24, .ifCond .eq 15, 39, 0, 0, 0), (27, .iload 4, 0, 0, 0, 0), (29, .invokestatic 56, 82, 276, 1, 0), (32, .ifCond .eq 7, 39, 0, 0, 0), (35, .iconst 1, 0, 0, 0, 0), (36, .goto 4, 40, 0, 0, 0), (39, .iconst 0, 0, 0, 0, 0), (40, .invokestatic 60, 79, 279, 1, 0), (43, .aload 5, 0, 0, 0, 0), (45, .iload_n 2, 0, 0, 0, 0), (46, .iload_n 3, 0, 0, 0, 0), (47, .invokevirtual 64, 32, 298, 1, 0), (50, .iconst 0, 0, 0, 0, 0), (51, .istore 6, 0, 0, 0, 0), (53, .iload 6, 0, 0, 0, 0), (55, .aload 5, 0, 0, 0, 0), (57, .invokevirtual 68, 31, 302, 1, 0), (60, .if_icmp .ge 19, 79, 0, 0, 0), (63, .aload 5, 0, 0, 0, 0), (65, .getfield 72, 3, 2, 0, 72), (68, .iload 6, 0, 0, 0, 0), (70, .iload 4, 0, 0, 0, 0), (72, .iastore, 0, 0, 0, 0), (73, .iinc 6 1, 0, 0, 0, 0), (76, .goto (-23), 53, 0, 0, 0), (79, .aload 5, 0, 0, 0, 0), (81, .invokevirtual 68, 31, 302, 1, 0), (84, .ireturn, 0, 0, 0, 0)]
/-- ParallaxSheets dot -/
def m_p_53 : List m_I := [(0, .aload_n 0, 0, 0, 0, 0), (1, .iload_n 1, 0, 0, 0, 0), (2, .invokevirtual 48, 76, 201, 1, 0), (5, .astore 5, 0, 0, 0, 0), (7, .aload 5, 0, 0, 0, 0), (9, .iload_n 2, 0, 0, 0, 0), (10, .iload_n 3, 0, 0, 0, 0), (11, .invokestatic 76, 77, 310, 1, 0), (14, .iload 4, 0, 0, 0, 0), (16, .invokestatic 56, 82, 276, 1, 0), (19, .invokestatic 60, 79, 279, 1, 0), (22, .aload 5, 0, 0, 0, 0), (24, .iload_n 2, 0, 0, 0, 0), (25, .iload_n 3, 0, 0, 0, 0), (26, .invokevirtual 80, 33, 317, 1, 0), (29, .istore 6, 0, 0, 0, 0), (31, .aload 5, 0, 0, 0, 0), (33, .iload_n 2, 0, 0, 0, 0), (34, .iload_n 3, 0, 0, 0, 0), (35, .iload 4, 0, 0, 0, 0), (37, .invokevirtual 84, 34, 327, 1, 0), (40, .iload 6, 0, 0, 0, 0), (42, .ireturn, 0, 0, 0, 0)]
/-- ParallaxSheets disc -/
def m_p_54 : List m_I := [(0, .aload_n 0, 0, 0, 0, 0), (1, .iload_n 1, 0, 0, 0, 0), (2, .invokevirtual 48, 76, 201, 1, 0), (5, .astore 6, 0, 0, 0, 0), (7, .aload 6, 0, 0, 0, 0), (9, .iload_n 2, 0, 0, 0, 0), (10, .iload_n 3, 0, 0, 0, 0), (11, .invokestatic 76, 77, 310, 1, 0), (14, .iconst 0, 0, 0, 0, 0), (15, .iload 4, 0, 0, 0, 0), (17, .bipush 20, 0, 0, 0, 0), (19, .invokestatic 52, 81, 273, 1, 0), (22, .ifCond .eq 15, 37, 0, 0, 0), (25, .iload 5, 0, 0, 0, 0), (27, .invokestatic 56, 82, 276, 1, 0), (30, .ifCond .eq 7, 37, 0, 0, 0), (33, .iconst 1, 0, 0, 0, 0), (34, .goto 4, 38, 0, 0, 0), (37, .iconst 0, 0, 0, 0, 0), (38, .invokestatic 60, 79, 279, 1, 0), (41, .aload_n 0, 0, 0, 0, 0), (42, .getfield 16, 5, 1, 0, 179), (45, .aload 6, 0, 0, 0, 0), (47, .invokevirtual 88, 38, 335, 1, 0), (50, .iconst 0, 0, 0, 0, 0), (51, .istore 7, 0, 0, 0, 0), (53, .iload 7, 0, 0, 0, 0), (55, .aload 6, 0, 0, 0, 0), (57, .getfield 104, 3, 1, 0, 69), (60, .if_icmp .ge 72, 132, 0, 0, 0), (63, .iconst 0, 0, 0, 0, 0), (64, .istore 8, 0, 0, 0, 0), (66, .iload 8, 0, 0, 0, 0), (68, .aload 6, 0, 0, 0, 0), (70, .getfield 108, 3, 0, 0, 64), (73, .if_icmp .ge 53, 126, 0, 0, 0), (76, .iload 8, 0, 0, 0, 0), (78, .iload_n 2, 0, 0, 0, 0), (79, .isub, 0, 0, 0, 0), (80, .istore 9, 0, 0, 0, 0), (82, .iload 7, 0, 0, 0, 0), (84, .iload_n 3, 0, 0, 0, 0), (85, .isub, 0, 0, 0, 0), (86, .istore 10, 0, 0, 0, 0), (88, .iload 9, 0, 0, 0, 0), (90, .iload 9, 0, 0, 0, 0), (92, .imul, 0, 0, 0, 0), (93, .iload 10, 0, 0, 0, 0), (95, .iload 10, 0, 0, 0, 0), (97, .imul, 0, 0, 0, 0), (98, .iadd, 0, 0, 0, 0), (99, .iload 4, 0, 0, 0, 0), (101, .iload 4, 0, 0, 0, 0), (103, .imul, 0, 0, 0, 0), (104, .if_icmp .gt 16, 120, 0, 0, 0), (107, .aload_n 0, 0, 0, 0, 0), (108, .getfield 16, 5, 1, 0, 179), (111, .iload 8, 0, 0, 0, 0), (113, .iload 7, 0, 0, 0, 0), (115, .iload 5, 0, 0, 0, 0), (117, .invokevirtual 84, 34, 327, 1, 0), (120, .iinc 8 1, 0, 0, 0, 0), (123, .goto (-57), 66, 0, 0, 0), (126, .iinc 7 1, 0, 0, 0, 0), (129, .goto (-76), 53, 0, 0, 0), (132, .aload_n 0, 0, 0, 0, 0), (133, .aload 6, 0, 0, 0, 0), (135, .invokevirtual 100, 85, 344, 1, 0), (138, .ireturn, 0, 0, 0, 0)]
/-- ParallaxSheets shade -/
def m_p_55 : List m_I := [(0, .aload_n 0, 0, 0, 0, 0), (1, .iload_n 1, 0, 0, 0, 0), (2, .invokevirtual 48, 76, 201, 1, 0), (5, .astore 5, 0, 0, 0, 0), (7, .iload_n 2, 0, 0, 0, 0), (8, .invokestatic 111, 83, 356, 1, 0), (11, .ifCond .eq 22, 33, 0, 0, 0), (14, .iload_n 3, 0, 0, 0, 0), (15, .invokestatic 111, 83, 356, 1, 0), (18, .ifCond .eq 15, 33, 0, 0, 0), (21, .iload 4, 0, 0, 0, 0), (23, .invokestatic 111, 83, 356, 1, 0), (26, .ifCond .eq 7, 33, 0, 0, 0), (29, .iconst 1, 0, 0, 0, 0), (30, .goto 4, 34, 0, 0, 0), (33, .iconst 0, 0, 0, 0, 0), (34, .invokestatic 60, 79, 279, 1, 0), (37, .iconst 0, 0, 0, 0, 0), (38, .istore 6, 0, 0, 0, 0), (40, .iload 6, 0, 0, 0, 0), (42, .aload 5, 0, 0, 0, 0), (44, .getfield 104, 3, 1, 0, 69), (47, .if_icmp .ge 85, 132, 0, 0, 0), (50, .iconst 0, 0, 0, 0, 0), (51, .istore 7, 0, 0, 0, 0), (53, .iload 7, 0, 0, 0, 0), (55, .aload 5, 0, 0, 0, 0), (57, .getfield 108, 3, 0, 0, 64), (60, .if_icmp .ge 66, 126, 0, 0, 0), (63, .iload_n 2, 0, 0, 0, 0), (64, .iload 7, 0, 0, 0, 0), (66, .imul, 0, 0, 0, 0), (67, .iload_n 3, 0, 0, 0, 0), (68, .iload 6, 0, 0, 0, 0), (70, .imul, 0, 0, 0, 0), (71, .iadd, 0, 0, 0, 0), (72, .iload 7, 0, 0, 0, 0), (74, .iconst 5, 0, 0, 0, 0), (75, .imul, 0, 0, 0, 0), (76, .iload 6, 0, 0, 0, 0), (78, .bipush 11, 0, 0, 0, 0), (80, .imul, 0, 0, 0, 0), (81, .iadd, 0, 0, 0, 0), (82, .iload 7, 0, 0, 0, 0), (84, .iload 6, 0, 0, 0, 0), (86, .imul, 0, 0, 0, 0), (87, .iconst 3, 0, 0, 0, 0), (88, .imul, 0, 0, 0, 0), (89, .iadd, 0, 0, 0, 0), (90, .bipush 13, 0, 0, 0, 0), (92, .irem, 0, 0, 0, 0), (93, .iload 4, 0, 0, 0, 0), (95, .imul, 0, 0, 0, 0), (96, .iadd, 0, 0, 0, 0), (97, .istore 8, 0, 0, 0, 0), (99, .aload 5, 0, 0, 0, 0), (101, .iload 7, 0, 0, 0, 0), (103, .iload 6, 0, 0, 0, 0), (105, .aload 5, 0, 0, 0, 0), (107, .iload 7, 0, 0, 0, 0), (109, .iload 6, 0, 0, 0, 0), (111, .invokevirtual 80, 33, 317, 1, 0), (114, .iload 8, 0, 0, 0, 0), (116, .iadd, 0, 0, 0, 0), (117, .invokevirtual 84, 34, 327, 1, 0), (120, .iinc 7 1, 0, 0, 0, 0), (123, .goto (-70), 53, 0, 0, 0), (126, .iinc 6 1, 0, 0, 0, 0), (129, .goto (-89), 40, 0, 0, 0), (132, .aload 5, 0, 0, 0, 0), (134, .invokevirtual 114, 35, 359, 1, 0), (137, .ireturn, 0, 0, 0, 0)]
/-- ParallaxSheets copy -/
def m_p_56 : List m_I := [(0, .aload_n 0, 0, 0, 0, 0), (1, .iload_n 1, 0, 0, 0, 0), (2, .invokevirtual 48, 76, 201, 1, 0), (5, .astore_n 3, 0, 0, 0, 0), (6, .aload_n 0, 0, 0, 0, 0), (7, .iload_n 2, 0, 0, 0, 0), (8, .invokevirtual 48, 76, 201, 1, 0), (11, .astore 4, 0, 0, 0, 0), (13, .aload 4, 0, 0, 0, 0), (15, .aload_n 3, 0, 0, 0, 0), (16, .invokevirtual 117, 36, 367, 1, 0), (19, .ifCond .eq 12, 31, 0, 0, 0), (22, .aload 4, 0, 0, 0, 0), (24, .aload_n 3, 0, 0, 0, 0), (25, .invokevirtual 121, 37, 348, 1, 0), (28, .goto 4, 32, 0, 0, 0), (31, .iconst (-1), 0, 0, 0, 0), (32, .istore 5, 0, 0, 0, 0), (34, .aload 4, 0, 0, 0, 0), (36, .aload_n 3, 0, 0, 0, 0), (37, .invokevirtual 88, 38, 335, 1, 0), (40, .iload 5, 0, 0, 0, 0), (42, .ireturn, 0, 0, 0, 0)]
/-- ParallaxSheets turn -/
def m_p_57 : List m_I := [(0, .aload_n 0, 0, 0, 0, 0), (1, .iload_n 1, 0, 0, 0, 0), (2, .invokevirtual 48, 76, 201, 1, 0), (5, .astore_n 3, 0, 0, 0, 0), (6, .iconst 0, 0, 0, 0, 0), (7, .iload_n 2, 0, 0, 0, 0), (8, .iconst 3, 0, 0, 0, 0), (9, .invokestatic 52, 81, 273, 1, 0), (12, .invokestatic 60, 79, 279, 1, 0), (15, .aload_n 3, 0, 0, 0, 0), (16, .getfield 108, 3, 0, 0, 64), (19, .aload_n 3, 0, 0, 0, 0), (20, .getfield 104, 3, 1, 0, 69), (23, .iload_n 2, 0, 0, 0, 0), (24, .invokestatic 127, 86, 375, 1, 0), (27, .istore 4, 0, 0, 0, 0), (29, .aload_n 3, 0, 0, 0, 0), (30, .getfield 104, 3, 1, 0, 69), (33, .aload_n 3, 0, 0, 0, 0), (34, .getfield 108, 3, 0, 0, 64), (37, .iload_n 2, 0, 0, 0, 0), (38, .invokestatic 127, 86, 375, 1, 0), (41, .istore 5, 0, 0, 0, 0), (43, .iload 4, 0, 0, 0, 0), (45, .bipush 16, 0, 0, 0, 0), (47, .if_icmp .gt 14, 61, 0, 0, 0), (50, .iload 5, 0, 0, 0, 0), (52, .bipush 16, 0, 0, 0, 0), (54, .if_icmp .gt 7, 61, 0, 0, 0), (57, .iconst 1, 0, 0, 0, 0), (58, .goto 4, 62, 0, 0, 0), (61, .iconst 0, 0, 0, 0, 0), (62, .invokestatic 124, 80, 379, 1, 0), (65, .aload_n 0, 0, 0, 0, 0), (66, .getfield 16, 5, 1, 0, 179), (69, .iload 4, 0, 0, 0, 0), (71, .iload 5, 0, 0, 0, 0), (73, .invokevirtual 64, 32, 298, 1, 0), (76, .iconst 0, 0, 0, 0, 0), (77, .istore 6, 0, 0, 0, 0), (79, .iload 6, 0, 0, 0, 0), (81, .iload 5, 0, 0, 0, 0), (83, .if_icmp .ge 45, 128, 0, 0, 0), (86, .iconst 0, 0, 0, 0, 0), (87, .istore 7, 0, 0, 0, 0), (89, .iload 7, 0, 0, 0, 0), (91, .iload 4, 0, 0, 0, 0), (93, .if_icmp .ge 29, 122, 0, 0, 0), (96, .aload_n 0, 0, 0, 0, 0), (97, .getfield 16, 5, 1, 0, 179), (100, .iload 7, 0, 0, 0, 0), (102, .iload 6, 0, 0, 0, 0), (104, .aload_n 3, 0, 0, 0, 0), (105, .iload_n 2, 0, 0, 0, 0), (106, .iload 7, 0, 0, 0, 0), (108, .iload 6, 0, 0, 0, 0), (110, .invokestatic 131, 87, 398, 1, 0), (113, .invokevirtual 84, 34, 327, 1, 0), (116, .iinc 7 1, 0, 0, 0, 0), (119, .goto (-30), 89, 0, 0, 0), (122, .iinc 6 1, 0, 0, 0, 0), (125, .goto (-46), 79, 0, 0, 0), (128, .aload_n 3, 0, 0, 0, 0), (129, .aload_n 0, 0, 0, 0, 0), (130, .getfield 16, 5, 1, 0, 179), (133, .invokevirtual 88, 38, 335, 1, 0), (136, .aload_n 3, 0, 0, 0, 0), (137, .invokevirtual 68, 31, 302, 1, 0), (140, .ireturn, 0, 0, 0, 0)]
/-- ParallaxSheets filter -/
def m_p_58 : List m_I := [(0, .aload_n 0, 0, 0, 0, 0), (1, .iload_n 1, 0, 0, 0, 0), (2, .invokevirtual 48, 76, 201, 1, 0), (5, .astore_n 3, 0, 0, 0, 0), (6, .iconst 0, 0, 0, 0, 0), (7, .iload_n 2, 0, 0, 0, 0), (8, .bipush 8, 0, 0, 0, 0), (10, .invokestatic 52, 81, 273, 1, 0), (13, .invokestatic 60, 79, 279, 1, 0), (16, .aload_n 0, 0, 0, 0, 0), (17, .getfield 23, 5, 2, 0, 180), (20, .aload_n 3, 0, 0, 0, 0), (21, .aload_n 0, 0, 0, 0, 0), (22, .getfield 16, 5, 1, 0, 179), (25, .iload_n 2, 0, 0, 0, 0), (26, .invokevirtual 147, 1, 405, 1, 0), (29, .aload_n 0, 0, 0, 0, 0), (30, .aload_n 3, 0, 0, 0, 0), (31, .invokevirtual 100, 85, 344, 1, 0), (34, .ireturn, 0, 0, 0, 0)]
/-- ParallaxSheets values -/
def m_p_59 : List m_I := [(0, .aload_n 0, 0, 0, 0, 0), (1, .iload_n 1, 0, 0, 0, 0), (2, .invokevirtual 48, 76, 201, 1, 0), (5, .astore_n 3, 0, 0, 0, 0), (6, .iconst 0, 0, 0, 0, 0), (7, .iload_n 2, 0, 0, 0, 0), (8, .iconst 3, 0, 0, 0, 0), (9, .invokestatic 52, 81, 273, 1, 0), (12, .invokestatic 60, 79, 279, 1, 0), (15, .aload_n 0, 0, 0, 0, 0), (16, .getfield 30, 5, 3, 0, 181), (19, .aload_n 3, 0, 0, 0, 0), (20, .invokevirtual 151, 40, 456, 1, 0), (23, .aload_n 0, 0, 0, 0, 0), (24, .getfield 30, 5, 3, 0, 181), (27, .iload_n 2, 0, 0, 0, 0), (28, .invokevirtual 154, 42, 461, 1, 0), (31, .aload_n 0, 0, 0, 0, 0), (32, .getfield 16, 5, 1, 0, 179), (35, .aload_n 3, 0, 0, 0, 0), (36, .invokevirtual 88, 38, 335, 1, 0), (39, .iconst 0, 0, 0, 0, 0), (40, .istore 4, 0, 0, 0, 0), (42, .iload 4, 0, 0, 0, 0), (44, .aload_n 3, 0, 0, 0, 0), (45, .invokevirtual 68, 31, 302, 1, 0), (48, .if_icmp .ge 33, 81, 0, 0, 0), (51, .aload_n 0, 0, 0, 0, 0), (52, .getfield 16, 5, 1, 0, 179), (55, .getfield 72, 3, 2, 0, 72), (58, .iload 4, 0, 0, 0, 0), (60, .aload_n 0, 0, 0, 0, 0), (61, .getfield 30, 5, 3, 0, 181), (64, .aload_n 3, 0, 0, 0, 0), (65, .getfield 72, 3, 2, 0, 72), (68, .iload 4, 0, 0, 0, 0), (70, .iaload, 0, 0, 0, 0), (71, .invokevirtual 158, 41, 498, 1, 0), (74, .iastore, 0, 0, 0, 0), (75, .iinc 4 1, 0, 0, 0, 0), (78, .goto (-36), 42, 0, 0, 0), (81, .aload_n 0, 0, 0, 0, 0), (82, .aload_n 3, 0, 0, 0, 0), (83, .invokevirtual 100, 85, 344, 1, 0), (86, .ireturn, 0, 0, 0, 0)]
/-- ParallaxSheets value -/
def m_p_60 : List m_I := [(0, .aload_n 0, 0, 0, 0, 0), (1, .iload_n 1, 0, 0, 0, 0), (2, .invokevirtual 48, 76, 201, 1, 0), (5, .astore 4, 0, 0, 0, 0), (7, .aload 4, 0, 0, 0, 0), (9, .iload_n 2, 0, 0, 0, 0), (10, .iload_n 3, 0, 0, 0, 0), (11, .invokestatic 76, 77, 310, 1, 0), (14, .aload 4, 0, 0, 0, 0), (16, .iload_n 2, 0, 0, 0, 0), (17, .iload_n 3, 0, 0, 0, 0), (18, .invokevirtual 80, 33, 317, 1, 0), (21, .ireturn, 0, 0, 0, 0)]
/-- ParallaxSheets sheet -/
def m_p_61 : List m_I := [(0, .aload_n 0, 0, 0, 0, 0), (1, .iload_n 1, 0, 0, 0, 0), (2, .invokevirtual 48, 76, 201, 1, 0), (5, .astore_n 3, 0, 0, 0, 0), (6, .iconst 0, 0, 0, 0, 0), (7, .iload_n 2, 0, 0, 0, 0), (8, .iconst 5, 0, 0, 0, 0), (9, .invokestatic 52, 81, 273, 1, 0), (12, .invokestatic 60, 79, 279, 1, 0), (15, .aload_n 0, 0, 0, 0, 0), (16, .aload_n 3, 0, 0, 0, 0), (17, .iload_n 2, 0, 0, 0, 0), (18, .invokevirtual 162, 88, 510, 1, 0), (21, .ireturn, 0, 0, 0, 0)]
/-- ParallaxSheets count -/
def m_p_62 : List m_I := [(0, .aload_n 0, 0, 0, 0, 0), (1, .iload_n 1, 0, 0, 0, 0), (2, .invokevirtual 48, 76, 201, 1, 0), (5, .astore 4, 0, 0, 0, 0), (7, .iconst 0, 0, 0, 0, 0), (8, .istore 5, 0, 0, 0, 0), (10, .iconst 0, 0, 0, 0, 0), (11, .istore 6, 0, 0, 0, 0), (13, .iload 6, 0, 0, 0, 0), (15, .aload 4, 0, 0, 0, 0), (17, .invokevirtual 68, 31, 302, 1, 0), (20, .if_icmp .ge 28, 48, 0, 0, 0), (23, .iload_n 2, 0, 0, 0, 0), (24, .aload 4, 0, 0, 0, 0), (26, .getfield 72, 3, 2, 0, 72), (29, .iload 6, 0, 0, 0, 0), (31, .iaload, 0, 0, 0, 0), (32, .iload_n 3, 0, 0, 0, 0), (33, .invokestatic 52, 81, 273, 1, 0), (36, .ifCond .eq 6, 42, 0, 0, 0), (39, .iinc 5 1, 0, 0, 0, 0), (42, .iinc 6 1, 0, 0, 0, 0), (45, .goto (-32), 13, 0, 0, 0), (48, .iload 5, 0, 0, 0, 0), (50, .ireturn, 0, 0, 0, 0)]
/-- ParallaxSheets ordered -/
def m_p_63 : List m_I := [(0, .aload_n 0, 0, 0, 0, 0), (1, .iload_n 1, 0, 0, 0, 0), (2, .invokevirtual 48, 76, 201, 1, 0), (5, .astore_n 3, 0, 0, 0, 0), (6, .iconst 0, 0, 0, 0, 0), (7, .iload_n 2, 0, 0, 0, 0), (8, .aload_n 3, 0, 0, 0, 0), (9, .invokevirtual 68, 31, 302, 1, 0), (12, .iconst 1, 0, 0, 0, 0), (13, .isub, 0, 0, 0, 0), (14, .invokestatic 52, 81, 273, 1, 0), (17, .invokestatic 135, 78, 313, 1, 0), (20, .aload_n 0, 0, 0, 0, 0), (21, .getfield 30, 5, 3, 0, 181), (24, .aload_n 3, 0, 0, 0, 0), (25, .invokevirtual 151, 40, 456, 1, 0), (28, .aload_n 0, 0, 0, 0, 0), (29, .getfield 30, 5, 3, 0, 181), (32, .iload_n 2, 0, 0, 0, 0), (33, .invokevirtual 166, 49, 525, 1, 0), (36, .ireturn, 0, 0, 0, 0)]
/-- ParallaxSheets difference -/
def m_p_64 : List m_I := [(0, .aload_n 0, 0, 0, 0, 0), (1, .iload_n 1, 0, 0, 0, 0), (2, .invokevirtual 48, 76, 201, 1, 0), (5, .astore_n 3, 0, 0, 0, 0), (6, .aload_n 0, 0, 0, 0, 0), (7, .iload_n 2, 0, 0, 0, 0), (8, .invokevirtual 48, 76, 201, 1, 0), (11, .astore 4, 0, 0, 0, 0), (13, .aload_n 3, 0, 0, 0, 0), (14, .aload 4, 0, 0, 0, 0), (16, .invokevirtual 117, 36, 367, 1, 0), (19, .invokestatic 124, 80, 379, 1, 0), (22, .iconst 0, 0, 0, 0, 0), (23, .istore 5, 0, 0, 0, 0), (25, .iconst 0, 0, 0, 0, 0), (26, .istore 6, 0, 0, 0, 0), (28, .iload 6, 0, 0, 0, 0), (30, .aload_n 3, 0, 0, 0, 0), (31, .invokevirtual 68, 31, 302, 1, 0), (34, .if_icmp .ge 33, 67, 0, 0, 0), (37, .iload 5, 0, 0, 0, 0), (39, .aload_n 3, 0, 0, 0, 0), (40, .getfield 72, 3, 2, 0, 72), (43, .iload 6, 0, 0, 0, 0), (45, .iaload, 0, 0, 0, 0), (46, .aload 4, 0, 0, 0, 0), (48, .getfield 72, 3, 2, 0, 72), (51, .iload 6, 0, 0, 0, 0), (53, .iaload, 0, 0, 0, 0), (54, .isub, 0, 0, 0, 0), (55, .invokestatic 169, 0, 530, 5, 0), (58, .iadd, 0, 0, 0, 0), (59, .istore 5, 0, 0, 0, 0), (61, .iinc 6 1, 0, 0, 0, 0), (64, .goto (-36), 28, 0, 0, 0), (67, .iload 5, 0, 0, 0, 0), (69, .i2d, 0, 0, 0, 0), (70, .aload_n 3, 0, 0, 0, 0), (71, .invokevirtual 68, 31, 302, 1, 0), (74, .i2d, 0, 0, 0, 0), (75, .ddiv, 0, 0, 0, 0), (76, .dreturn, 0, 0, 0, 0)]
/-- ParallaxSheets parts -/
def m_p_65 : List m_I := [(0, .aload_n 0, 0, 0, 0, 0), (1, .iload_n 1, 0, 0, 0, 0), (2, .invokevirtual 48, 76, 201, 1, 0), (5, .astore_n 3, 0, 0, 0, 0), (6, .iload_n 2, 0, 0, 0, 0), (7, .invokestatic 172, 84, 535, 1, 0), (10, .invokestatic 60, 79, 279, 1, 0), (13, .aload_n 0, 0, 0, 0, 0), (14, .aload_n 3, 0, 0, 0, 0), (15, .iload_n 2, 0, 0, 0, 0), (16, .sipush 128, 0, 0, 0, 0), (19, .invokevirtual 175, 89, 538, 1, 0), (22, .ireturn, 0, 0, 0, 0)]
/-- ParallaxSheets holes -/
def m_p_66 : List m_I := [(0, .aload_n 0, 0, 0, 0, 0), (1, .iload_n 1, 0, 0, 0, 0), (2, .invokevirtual 48, 76, 201, 1, 0), (5, .astore_n 3, 0, 0, 0, 0), (6, .iload_n 2, 0, 0, 0, 0), (7, .invokestatic 172, 84, 535, 1, 0), (10, .invokestatic 60, 79, 279, 1, 0), (13, .aload_n 0, 0, 0, 0, 0), (14, .aload_n 3, 0, 0, 0, 0), (15, .iload_n 2, 0, 0, 0, 0), (16, .invokevirtual 179, 90, 570, 1, 0), (19, .ireturn, 0, 0, 0, 0)]
/-- ParallaxSheets partOf -/
def m_p_67 : List m_I := [(0, .aload_n 0, 0, 0, 0, 0), (1, .iload_n 1, 0, 0, 0, 0), (2, .invokevirtual 48, 76, 201, 1, 0), (5, .astore 5, 0, 0, 0, 0), (7, .aload 5, 0, 0, 0, 0), (9, .iload_n 3, 0, 0, 0, 0), (10, .iload 4, 0, 0, 0, 0), (12, .invokestatic 76, 77, 310, 1, 0), (15, .iload_n 2, 0, 0, 0, 0), (16, .invokestatic 172, 84, 535, 1, 0), (19, .invokestatic 60, 79, 279, 1, 0), (22, .aload_n 0, 0, 0, 0, 0), (23, .getfield 37, 5, 4, 0, 182), (26, .aload 5, 0, 0, 0, 0), (28, .iload_n 2, 0, 0, 0, 0), (29, .sipush 128, 0, 0, 0, 0), (32, .iconst 1, 0, 0, 0, 0), (33, .invokevirtual 182, 12, 542, 1, 0), (36, .aload_n 0, 0, 0, 0, 0), (37, .getfield 37, 5, 4, 0, 182), (40, .iload_n 3, 0, 0, 0, 0), (41, .iload 4, 0, 0, 0, 0), (43, .invokevirtual 186, 17, 582, 1, 0), (46, .ireturn, 0, 0, 0, 0)]
/-- ParallaxSheets part -/
def m_p_68 : List m_I := [(0, .aload_n 0, 0, 0, 0, 0), (1, .iload_n 1, 0, 0, 0, 0), (2, .invokevirtual 48, 76, 201, 1, 0), (5, .astore 5, 0, 0, 0, 0), (7, .iload_n 2, 0, 0, 0, 0), (8, .invokestatic 172, 84, 535, 1, 0), (11, .ifCond .eq 17, 28, 0, 0, 0), (14, .iconst 0, 0, 0, 0, 0), (15, .iload 4, 0, 0, 0, 0), (17, .iconst 5, 0, 0, 0, 0), (18, .invokestatic 52, 81, 273, 1, 0), (21, .ifCond .eq 7, 28, 0, 0, 0), (24, .iconst 1, 0, 0, 0, 0), (25, .goto 4, 29, 0, 0, 0), (28, .iconst 0, 0, 0, 0, 0), (29, .invokestatic 60, 79, 279, 1, 0), (32, .aload_n 0, 0, 0, 0, 0), (33, .getfield 37, 5, 4, 0, 182), (36, .aload 5, 0, 0, 0, 0), (38, .iload_n 2, 0, 0, 0, 0), (39, .sipush 128, 0, 0, 0, 0), (42, .iconst 1, 0, 0, 0, 0), (43, .invokevirtual 182, 12, 542, 1, 0), (46, .iconst 0, 0, 0, 0, 0), (47, .iload_n 3, 0, 0, 0, 0), (48, .aload_n 0, 0, 0, 0, 0), (49, .getfield 37, 5, 4, 0, 182), (52, .getfield 189, 1, 0, 0, 129), (55, .iconst 1, 0, 0, 0, 0), (56, .isub, 0, 0, 0, 0), (57, .invokestatic 52, 81, 273, 1, 0), (60, .invokestatic 60, 79, 279, 1, 0), (63, .aload_n 0, 0, 0, 0, 0), (64, .getfield 37, 5, 4, 0, 182), (67, .iload_n 3, 0, 0, 0, 0), (68, .iload 4, 0, 0, 0, 0), (70, .invokevirtual 192, 19, 587, 1, 0), (73, .ireturn, 0, 0, 0, 0)]
/-- ParallaxSheets far -/
def m_p_69 : List m_I := [(0, .aload_n 0, 0, 0, 0, 0), (1, .iload_n 1, 0, 0, 0, 0), (2, .invokevirtual 48, 76, 201, 1, 0), (5, .astore 5, 0, 0, 0, 0), (7, .aload 5, 0, 0, 0, 0), (9, .iload_n 3, 0, 0, 0, 0), (10, .iload 4, 0, 0, 0, 0), (12, .invokestatic 76, 77, 310, 1, 0), (15, .iconst 0, 0, 0, 0, 0), (16, .iload_n 2, 0, 0, 0, 0), (17, .iconst 2, 0, 0, 0, 0), (18, .invokestatic 52, 81, 273, 1, 0), (21, .invokestatic 60, 79, 279, 1, 0), (24, .aload 5, 0, 0, 0, 0), (26, .iload_n 2, 0, 0, 0, 0), (27, .iload_n 3, 0, 0, 0, 0), (28, .iload 4, 0, 0, 0, 0), (30, .invokestatic 200, 91, 609, 1, 0), (33, .ireturn, 0, 0, 0, 0)]
/-- ParallaxSheets carve -/
def m_p_70 : List m_I := [(0, .aload_n 0, 0, 0, 0, 0), (1, .iload_n 1, 0, 0, 0, 0), (2, .invokevirtual 48, 76, 201, 1, 0), (5, .astore_n 2, 0, 0, 0, 0), (6, .aload_n 2, 0, 0, 0, 0), (7, .getfield 108, 3, 0, 0, 64), (10, .iconst 1, 0, 0, 0, 0), (11, .if_icmp .le 7, 18, 0, 0, 0), (14, .iconst 1, 0, 0, 0, 0), (15, .goto 4, 19, 0, 0, 0), (18, .iconst 0, 0, 0, 0, 0), (19, .invokestatic 124, 80, 379, 1, 0), (22, .aload_n 0, 0, 0, 0, 0), (23, .getfield 44, 5, 5, 0, 183), (26, .aload_n 2, 0, 0, 0, 0), (27, .invokevirtual 203, 24, 626, 1, 0), (30, .aload_n 0, 0, 0, 0, 0), (31, .getfield 44, 5, 5, 0, 183), (34, .aload_n 2, 0, 0, 0, 0), (35, .invokevirtual 205, 28, 645, 1, 0), (38, .aload_n 0, 0, 0, 0, 0), (39, .getfield 44, 5, 5, 0, 183), (42, .getfield 208, 2, 0, 0, 164), (45, .ireturn, 0, 0, 0, 0)]
/-- ParallaxSheets widen -/
def m_p_71 : List m_I := [(0, .aload_n 0, 0, 0, 0, 0), (1, .iload_n 1, 0, 0, 0, 0), (2, .invokevirtual 48, 76, 201, 1, 0), (5, .astore_n 2, 0, 0, 0, 0), (6, .aload_n 2, 0, 0, 0, 0), (7, .getfield 108, 3, 0, 0, 64), (10, .bipush 16, 0, 0, 0, 0), (12, .if_icmp .ge 7, 19, 0, 0, 0), (15, .iconst 1, 0, 0, 0, 0), (16, .goto 4, 20, 0, 0, 0), (19, .iconst 0, 0, 0, 0, 0), (20, .invokestatic 124, 80, 379, 1, 0), (23, .aload_n 0, 0, 0, 0, 0), (24, .getfield 44, 5, 5, 0, 183), (27, .aload_n 2, 0, 0, 0, 0), (28, .invokevirtual 203, 24, 626, 1, 0), (31, .aload_n 0, 0, 0, 0, 0), (32, .getfield 44, 5, 5, 0, 183), (35, .aload_n 2, 0, 0, 0, 0), (36, .invokevirtual 210, 29, 656, 1, 0), (39, .aload_n 0, 0, 0, 0, 0), (40, .getfield 44, 5, 5, 0, 183), (43, .getfield 208, 2, 0, 0, 164), (46, .ireturn, 0, 0, 0, 0)]
/-- ParallaxSheets seam -/
def m_p_72 : List m_I := [(0, .aload_n 0, 0, 0, 0, 0), (1, .iload_n 1, 0, 0, 0, 0), (2, .invokevirtual 48, 76, 201, 1, 0), (5, .astore_n 3, 0, 0, 0, 0), (6, .iconst 0, 0, 0, 0, 0), (7, .iload_n 2, 0, 0, 0, 0), (8, .aload_n 3, 0, 0, 0, 0), (9, .getfield 104, 3, 1, 0, 69), (12, .iconst 1, 0, 0, 0, 0), (13, .isub, 0, 0, 0, 0), (14, .invokestatic 52, 81, 273, 1, 0), (17, .invokestatic 135, 78, 313, 1, 0), (20, .aload_n 0, 0, 0, 0, 0), (21, .getfield 44, 5, 5, 0, 183), (24, .aload_n 3, 0, 0, 0, 0), (25, .invokevirtual 203, 24, 626, 1, 0), (28, .aload_n 0, 0, 0, 0, 0), (29, .getfield 44, 5, 5, 0, 183), (32, .getfield 213, 2, 1, 0, 166), (35, .iload_n 2, 0, 0, 0, 0), (36, .iaload, 0, 0, 0, 0), (37, .ireturn, 0, 0, 0, 0)]
/-- ParallaxSheets partsAt -/
def m_p_73 : List m_I := [(0, .aload_n 0, 0, 0, 0, 0), (1, .iload_n 1, 0, 0, 0, 0), (2, .invokevirtual 48, 76, 201, 1, 0), (5, .astore 4, 0, 0, 0, 0), (7, .iload_n 2, 0, 0, 0, 0), (8, .invokestatic 172, 84, 535, 1, 0), (11, .ifCond .eq 14, 25, 0, 0, 0), (14, .iload_n 3, 0, 0, 0, 0), (15, .invokestatic 56, 82, 276, 1, 0), (18, .ifCond .eq 7, 25, 0, 0, 0), (21, .iconst 1, 0, 0, 0, 0), (22, .goto 4, 26, 0, 0, 0), (25, .iconst 0, 0, 0, 0, 0), (26, .invokestatic 60, 79, 279, 1, 0), (29, .aload_n 0, 0, 0, 0, 0), (30, .aload 4, 0, 0, 0, 0), (32, .iload_n 2, 0, 0, 0, 0), (33, .iload_n 3, 0, 0, 0, 0), (34, .invokevirtual 175, 89, 538, 1, 0), (37, .ireturn, 0, 0, 0, 0)]
/-- ParallaxSheets carvedBy -/
def m_p_74 : List m_I := [(0, .aload_n 0, 0, 0, 0, 0), (1, .iload_n 1, 0, 0, 0, 0), (2, .invokevirtual 48, 76, 201, 1, 0), (5, .astore_n 3, 0, 0, 0, 0), (6, .iconst 0, 0, 0, 0, 0), (7, .iload_n 2, 0, 0, 0, 0), (8, .aload_n 3, 0, 0, 0, 0), (9, .getfield 108, 3, 0, 0, 64), (12, .iconst 1, 0, 0, 0, 0), (13, .isub, 0, 0, 0, 0), (14, .invokestatic 52, 81, 273, 1, 0), (17, .invokestatic 60, 79, 279, 1, 0), (20, .aload_n 0, 0, 0, 0, 0), (21, .aload_n 3, 0, 0, 0, 0), (22, .iload_n 2, 0, 0, 0, 0), (23, .invokevirtual 216, 95, 672, 1, 0), (26, .ireturn, 0, 0, 0, 0)]
/-- ParallaxSheets digest -/
def m_p_75 : List m_I := [(0, .ldc2_w 219, 0, 680, 0, 58080), (3, .lstore_n 1, 0, 0, 0, 0), (4, .iconst 0, 0, 0, 0, 0), (5, .istore_n 3, 0, 0, 0, 0), (6, .iload_n 3, 0, 0, 0, 0), (7, .iconst 4, 0, 0, 0, 0), (8, .if_icmp .ge 40, 48, 0, 0, 0), (11, .aload_n 0, 0, 0, 0, 0), (12, .getfield 11, 5, 0, 0, 178), (15, .iload_n 3, 0, 0, 0, 0), (16, .aaload, 0, 0, 0, 0), (17, .astore 4, 0, 0, 0, 0), (19, .aload_n 0, 0, 0, 0, 0), (20, .lload_n 1, 0, 0, 0, 0), (21, .aload 4, 0, 0, 0, 0), (23, .invokevirtual 221, 97, 681, 1, 0), (26, .lstore_n 1, 0, 0, 0, 0), (27, .aload_n 0, 0, 0, 0, 0), (28, .lload_n 1, 0, 0, 0, 0), (29, .aload 4, 0, 0, 0, 0), (31, .invokevirtual 225, 98, 689, 1, 0), (34, .lstore_n 1, 0, 0, 0, 0), (35, .lload_n 1, 0, 0, 0, 0), (36, .aload 4, 0, 0, 0, 0), (38, .invokestatic 228, 99, 693, 1, 0), (41, .lstore_n 1, 0, 0, 0, 0), (42, .iinc 3 1, 0, 0, 0, 0), (45, .goto (-39), 6, 0, 0, 0), (48, .lload_n 1, 0, 0, 0, 0), (49, .lreturn, 0, 0, 0, 0)]
/-- ParallaxSheets sheetAt -/
def m_p_76 : List m_I := [(0, .iload_n 1, 0, 0, 0, 0), (1, .ifCond .lt 8, 9, 0, 0, 0), (4, .iload_n 1, 0, 0, 0, 0), (5, .iconst 4, 0, 0, 0, 0), (6, .if_icmp .lt 13, 19, 0, 0, 0), (12, .dup, 0, 0, 0, 0), (18, .athrow, 0, 0, 0, 0), (19, .aload_n 0, 0, 0, 0, 0), (20, .getfield 11, 5, 0, 0, 178), (23, .iload_n 1, 0, 0, 0, 0), (24, .aaload, 0, 0, 0, 0), (25, .areturn, 0, 0, 0, 0)]
/-- ParallaxSheets needField -/
def m_p_77 : List m_I := [(0, .iconst 0, 0, 0, 0, 0), (1, .iload_n 1, 0, 0, 0, 0), (2, .aload_n 0, 0, 0, 0, 0), (3, .getfield 108, 3, 0, 0, 64), (6, .iconst 1, 0, 0, 0, 0), (7, .isub, 0, 0, 0, 0), (8, .invokestatic 52, 81, 273, 1, 0), (11, .ifCond .eq 21, 32, 0, 0, 0), (14, .iconst 0, 0, 0, 0, 0), (15, .iload_n 2, 0, 0, 0, 0), (16, .aload_n 0, 0, 0, 0, 0), (17, .getfield 104, 3, 1, 0, 69), (20, .iconst 1, 0, 0, 0, 0), (21, .isub, 0, 0, 0, 0), (22, .invokestatic 52, 81, 273, 1, 0), (25, .ifCond .eq 7, 32, 0, 0, 0), (28, .iconst 1, 0, 0, 0, 0), (29, .goto 4, 33, 0, 0, 0), (32, .iconst 0, 0, 0, 0, 0), (33, .invokestatic 135, 78, 313, 1, 0), (36, .return_, 0, 0, 0, 0)]
/-- ParallaxSheets needPlace -/
def m_p_78 : List m_I := [(0, .iload_n 0, 0, 0, 0, 0), (1, .ifCond .ne 13, 14, 0, 0, 0), (7, .dup, 0, 0, 0, 0), (13, .athrow, 0, 0, 0, 0), (14, .return_, 0, 0, 0, 0)]
/-- ParallaxSheets refuseUnless -/
def m_p_79 : List m_I := [(0, .iload_n 0, 0, 0, 0, 0), (1, .ifCond .ne 13, 14, 0, 0, 0), (7, .dup, 0, 0, 0, 0), (13, .athrow, 0, 0, 0, 0), (14, .return_, 0, 0, 0, 0)]
/-- ParallaxSheets needState -/
def m_p_80 : List m_I := [(0, .iload_n 0, 0, 0, 0, 0), (1, .ifCond .ne 13, 14, 0, 0, 0), (7, .dup, 0, 0, 0, 0), (13, .athrow, 0, 0, 0, 0), (14, .return_, 0, 0, 0, 0)]
/-- ParallaxSheets isFrom -/
def m_p_81 : List m_I := [(0, .iload_n 0, 0, 0, 0, 0), (1, .iload_n 1, 0, 0, 0, 0), (2, .if_icmp .gt 12, 14, 0, 0, 0), (5, .iload_n 1, 0, 0, 0, 0), (6, .iload_n 2, 0, 0, 0, 0), (7, .if_icmp .gt 7, 14, 0, 0, 0), (10, .iconst 1, 0, 0, 0, 0), (11, .goto 4, 15, 0, 0, 0), (14, .iconst 0, 0, 0, 0, 0), (15, .ireturn, 0, 0, 0, 0)]
/-- ParallaxSheets isValue -/
def m_p_82 : List m_I := [(0, .iconst 0, 0, 0, 0, 0), (1, .iload_n 0, 0, 0, 0, 0), (2, .sipush 255, 0, 0, 0, 0), (5, .invokestatic 52, 81, 273, 1, 0), (8, .ireturn, 0, 0, 0, 0)]
/-- ParallaxSheets isSlope -/
def m_p_83 : List m_I := [(0, .bipush (-50), 0, 0, 0, 0), (2, .iload_n 0, 0, 0, 0, 0), (3, .bipush 50, 0, 0, 0, 0), (5, .invokestatic 52, 81, 273, 1, 0), (8, .ireturn, 0, 0, 0, 0)]
/-- ParallaxSheets isWays -/
def m_p_84 : List m_I := [(0, .iload_n 0, 0, 0, 0, 0), (1, .iconst 4, 0, 0, 0, 0), (2, .if_icmp .eq 9, 11, 0, 0, 0), (5, .iload_n 0, 0, 0, 0, 0), (6, .bipush 8, 0, 0, 0, 0), (8, .if_icmp .ne 7, 15, 0, 0, 0), (11, .iconst 1, 0, 0, 0, 0), (12, .goto 4, 16, 0, 0, 0), (15, .iconst 0, 0, 0, 0, 0), (16, .ireturn, 0, 0, 0, 0)]
/-- ParallaxSheets changeToNext -/
def m_p_85 : List m_I := [(0, .aload_n 1, 0, 0, 0, 0), (1, .aload_n 0, 0, 0, 0, 0), (2, .getfield 16, 5, 1, 0, 179), (5, .invokevirtual 121, 37, 348, 1, 0), (8, .istore_n 2, 0, 0, 0, 0), (9, .aload_n 1, 0, 0, 0, 0), (10, .aload_n 0, 0, 0, 0, 0), (11, .getfield 16, 5, 1, 0, 179), (14, .invokevirtual 88, 38, 335, 1, 0), (17, .iload_n 2, 0, 0, 0, 0), (18, .ireturn, 0, 0, 0, 0)]
/-- ParallaxSheets turnedSide -/
def m_p_86 : List m_I := [(0, .iload_n 2, 0, 0, 0, 0), (1, .tableswitch 45 0 3 #[31, 45, 33, 41], 0, 0, 0, 31), (32, .iload_n 1, 0, 0, 0, 0), (33, .ireturn, 0, 0, 0, 0), (34, .iconst 1, 0, 0, 0, 0), (35, .iload_n 0, 0, 0, 0, 0), (36, .iconst 2, 0, 0, 0, 0), (37, .idiv, 0, 0, 0, 0), (38, .invokestatic 97, 0, 378, 3, 0), (41, .ireturn, 0, 0, 0, 0), (42, .iload_n 0, 0, 0, 0, 0), (43, .iconst 2, 0, 0, 0, 0), (44, .imul, 0, 0, 0, 0), (45, .ireturn, 0, 0, 0, 0), (46, .iload_n 0, 0, 0, 0, 0), (47, .ireturn, 0, 0, 0, 0)]
/-- ParallaxSheets turnedValue -/
def m_p_87 : List m_I := [(0, .iload_n 1, 0, 0, 0, 0), (1, .tableswitch 109 0 2 #[27, 41, 55], 0, 0, 0, 27), (28, .aload_n 0, 0, 0, 0, 0), (29, .iload_n 3, 0, 0, 0, 0), (30, .aload_n 0, 0, 0, 0, 0), (31, .getfield 104, 3, 1, 0, 69), (34, .iconst 1, 0, 0, 0, 0), (35, .isub, 0, 0, 0, 0), (36, .iload_n 2, 0, 0, 0, 0), (37, .isub, 0, 0, 0, 0), (38, .invokevirtual 80, 33, 317, 1, 0), (41, .ireturn, 0, 0, 0, 0), (42, .aload_n 0, 0, 0, 0, 0), (43, .aload_n 0, 0, 0, 0, 0), (44, .getfield 108, 3, 0, 0, 64), (47, .iconst 1, 0, 0, 0, 0), (48, .isub, 0, 0, 0, 0), (49, .iload_n 2, 0, 0, 0, 0), (50, .isub, 0, 0, 0, 0), (51, .iload_n 3, 0, 0, 0, 0), (52, .invokevirtual 80, 33, 317, 1, 0), (55, .ireturn, 0, 0, 0, 0), (56, .aload_n 0, 0, 0, 0, 0), (57, .iconst 2, 0, 0, 0, 0), (58, .iload_n 2, 0, 0, 0, 0), (59, .imul, 0, 0, 0, 0), (60, .iconst 2, 0, 0, 0, 0), (61, .iload_n 3, 0, 0, 0, 0), (62, .imul, 0, 0, 0, 0), (63, .invokevirtual 80, 33, 317, 1, 0), (66, .aload_n 0, 0, 0, 0, 0), (67, .iconst 2, 0, 0, 0, 0), (68, .iload_n 2, 0, 0, 0, 0), (69, .imul, 0, 0, 0, 0), (70, .iconst 1, 0, 0, 0, 0), (71, .iadd, 0, 0, 0, 0), (72, .iconst 2, 0, 0, 0, 0), (73, .iload_n 3, 0, 0, 0, 0), (74, .imul, 0, 0, 0, 0), (75, .invokevirtual 80, 33, 317, 1, 0), (78, .iadd, 0, 0, 0, 0), (79, .aload_n 0, 0, 0, 0, 0), (80, .iconst 2, 0, 0, 0, 0), (81, .iload_n 2, 0, 0, 0, 0), (82, .imul, 0, 0, 0, 0), (83, .iconst 2, 0, 0, 0, 0), (84, .iload_n 3, 0, 0, 0, 0), (85, .imul, 0, 0, 0, 0), (86, .iconst 1, 0, 0, 0, 0), (87, .iadd, 0, 0, 0, 0), (88, .invokevirtual 80, 33, 317, 1, 0), (91, .iadd, 0, 0, 0, 0), (92, .aload_n 0, 0, 0, 0, 0), (93, .iconst 2, 0, 0, 0, 0), (94, .iload_n 2, 0, 0, 0, 0), (95, .imul, 0, 0, 0, 0), (96, .iconst 1, 0, 0, 0, 0), (97, .iadd, 0, 0, 0, 0), (98, .iconst 2, 0, 0, 0, 0), (99, .iload_n 3, 0, 0, 0, 0), (100, .imul, 0, 0, 0, 0), (101, .iconst 1, 0, 0, 0, 0), (102, .iadd, 0, 0, 0, 0), (103, .invokevirtual 80, 33, 317, 1, 0), (106, .iadd, 0, 0, 0, 0), (107, .iconst 4, 0, 0, 0, 0), (108, .idiv, 0, 0, 0, 0), (109, .ireturn, 0, 0, 0, 0), (110, .aload_n 0, 0, 0, 0, 0), (111, .iload_n 2, 0, 0, 0, 0), (112, .iconst 2, 0, 0, 0, 0), (113, .idiv, 0, 0, 0, 0), (114, .iload_n 3, 0, 0, 0, 0), (115, .iconst 2, 0, 0, 0, 0), (116, .idiv, 0, 0, 0, 0), (117, .invokevirtual 80, 33, 317, 1, 0), (120, .ireturn, 0, 0, 0, 0)]
/-- ParallaxSheets factOf -/
def m_p_88 : List m_I := [(0, .aload_n 0, 0, 0, 0, 0), (1, .getfield 30, 5, 3, 0, 181), (4, .aload_n 1, 0, 0, 0, 0), (5, .invokevirtual 151, 40, 456, 1, 0), (8, .iload_n 2, 0, 0, 0, 0), (9, .tableswitch 66 0 4 #[35, 40, 45, 53, 61], 0, 0, 0, 35), (44, .aload_n 1, 0, 0, 0, 0), (45, .getfield 108, 3, 0, 0, 64), (48, .ireturn, 0, 0, 0, 0), (49, .aload_n 1, 0, 0, 0, 0), (50, .getfield 104, 3, 1, 0, 69), (53, .ireturn, 0, 0, 0, 0), (54, .aload_n 0, 0, 0, 0, 0), (55, .getfield 30, 5, 3, 0, 181), (58, .invokevirtual 250, 47, 514, 1, 0), (61, .ireturn, 0, 0, 0, 0), (62, .aload_n 0, 0, 0, 0, 0), (63, .getfield 30, 5, 3, 0, 181), (66, .invokevirtual 253, 48, 515, 1, 0), (69, .ireturn, 0, 0, 0, 0), (70, .aload_n 1, 0, 0, 0, 0), (71, .invokevirtual 114, 35, 359, 1, 0), (74, .ireturn, 0, 0, 0, 0), (75, .aload_n 0, 0, 0, 0, 0), (76, .getfield 30, 5, 3, 0, 181), (79, .invokevirtual 256, 50, 516, 1, 0), (82, .ireturn, 0, 0, 0, 0)]
/-- ParallaxSheets partsFrom -/
def m_p_89 : List m_I := [(0, .aload_n 0, 0, 0, 0, 0), (1, .getfield 37, 5, 4, 0, 182), (4, .aload_n 1, 0, 0, 0, 0), (5, .iload_n 2, 0, 0, 0, 0), (6, .iload_n 3, 0, 0, 0, 0), (7, .iconst 1, 0, 0, 0, 0), (8, .invokevirtual 182, 12, 542, 1, 0), (11, .aload_n 0, 0, 0, 0, 0), (12, .getfield 37, 5, 4, 0, 182), (15, .getfield 189, 1, 0, 0, 129), (18, .ireturn, 0, 0, 0, 0)]
/-- ParallaxSheets holesOf -/
def m_p_90 : List m_I := [(0, .iload_n 2, 0, 0, 0, 0), (1, .iconst 4, 0, 0, 0, 0), (2, .if_icmp .ne 8, 10, 0, 0, 0), (5, .bipush 8, 0, 0, 0, 0), (7, .goto 4, 11, 0, 0, 0), (10, .iconst 4, 0, 0, 0, 0), (11, .istore_n 3, 0, 0, 0, 0), (12, .aload_n 0, 0, 0, 0, 0), (13, .getfield 37, 5, 4, 0, 182), (16, .aload_n 1, 0, 0, 0, 0), (17, .iload_n 3, 0, 0, 0, 0), (18, .sipush 128, 0, 0, 0, 0), (21, .iconst 0, 0, 0, 0, 0), (22, .invokevirtual 182, 12, 542, 1, 0), (25, .aload_n 0, 0, 0, 0, 0), (26, .getfield 37, 5, 4, 0, 182), (29, .invokevirtual 259, 18, 574, 1, 0), (32, .ireturn, 0, 0, 0, 0)]
/-- ParallaxSheets farOf -/
def m_p_91 : List m_I := [(0, .aload_n 0, 0, 0, 0, 0), (1, .iload_n 2, 0, 0, 0, 0), (2, .iload_n 3, 0, 0, 0, 0), (3, .invokevirtual 80, 33, 317, 1, 0), (6, .sipush 128, 0, 0, 0, 0), (9, .if_icmp .ge 5, 14, 0, 0, 0), (12, .iconst 0, 0, 0, 0, 0), (13, .ireturn, 0, 0, 0, 0), (14, .aload_n 0, 0, 0, 0, 0), (15, .iload_n 1, 0, 0, 0, 0), (16, .iload_n 2, 0, 0, 0, 0), (17, .iload_n 3, 0, 0, 0, 0), (18, .invokestatic 262, 92, 612, 1, 0), (21, .istore 4, 0, 0, 0, 0), (23, .iload 4, 0, 0, 0, 0), (25, .ifCond .le 8, 33, 0, 0, 0), (28, .iload 4, 0, 0, 0, 0), (30, .goto 10, 40, 0, 0, 0), (33, .aload_n 0, 0, 0, 0, 0), (34, .iload_n 1, 0, 0, 0, 0), (35, .iload_n 2, 0, 0, 0, 0), (36, .iload_n 3, 0, 0, 0, 0), (37, .invokestatic 265, 93, 619, 1, 0), (40, .ireturn, 0, 0, 0, 0)]
/-- ParallaxSheets farWithin -/
def m_p_92 : List m_I := [(0, .iconst 0, 0, 0, 0, 0), (1, .istore 4, 0, 0, 0, 0), (3, .iconst 0, 0, 0, 0, 0), (4, .istore 5, 0, 0, 0, 0), (6, .iload 5, 0, 0, 0, 0), (8, .aload_n 0, 0, 0, 0, 0), (9, .getfield 104, 3, 1, 0, 69), (12, .if_icmp .ge 74, 86, 0, 0, 0), (15, .iconst 0, 0, 0, 0, 0), (16, .istore 6, 0, 0, 0, 0), (18, .iload 6, 0, 0, 0, 0), (20, .aload_n 0, 0, 0, 0, 0), (21, .getfield 108, 3, 0, 0, 64), (24, .if_icmp .ge 56, 80, 0, 0, 0), (27, .aload_n 0, 0, 0, 0, 0), (28, .iload 6, 0, 0, 0, 0), (30, .iload 5, 0, 0, 0, 0), (32, .invokevirtual 80, 33, 317, 1, 0), (35, .sipush 128, 0, 0, 0, 0), (38, .if_icmp .ge 36, 74, 0, 0, 0), (41, .iload_n 1, 0, 0, 0, 0), (42, .iload 6, 0, 0, 0, 0), (44, .iload_n 2, 0, 0, 0, 0), (45, .isub, 0, 0, 0, 0), (46, .iload 5, 0, 0, 0, 0), (48, .iload_n 3, 0, 0, 0, 0), (49, .isub, 0, 0, 0, 0), (50, .invokestatic 268, 94, 615, 1, 0), (53, .istore 7, 0, 0, 0, 0), (55, .iload 4, 0, 0, 0, 0), (57, .ifCond .ne 8, 65, 0, 0, 0), (60, .iload 7, 0, 0, 0, 0), (62, .goto 10, 72, 0, 0, 0), (65, .iload 4, 0, 0, 0, 0), (67, .iload 7, 0, 0, 0, 0), (69, .invokestatic 92, 0, 618, 4, 0), (72, .istore 4, 0, 0, 0, 0), (74, .iinc 6 1, 0, 0, 0, 0), (77, .goto (-59), 18, 0, 0, 0), (80, .iinc 5 1, 0, 0, 0, 0), (83, .goto (-77), 6, 0, 0, 0), (86, .iload 4, 0, 0, 0, 0), (88, .ireturn, 0, 0, 0, 0)]
/-- ParallaxSheets farToOutside -/
def m_p_93 : List m_I := [(0, .iload_n 2, 0, 0, 0, 0), (1, .iconst 1, 0, 0, 0, 0), (2, .iadd, 0, 0, 0, 0), (3, .aload_n 0, 0, 0, 0, 0), (4, .getfield 108, 3, 0, 0, 64), (7, .iload_n 2, 0, 0, 0, 0), (8, .isub, 0, 0, 0, 0), (9, .invokestatic 92, 0, 618, 4, 0), (12, .istore 4, 0, 0, 0, 0), (14, .iload_n 3, 0, 0, 0, 0), (15, .iconst 1, 0, 0, 0, 0), (16, .iadd, 0, 0, 0, 0), (17, .aload_n 0, 0, 0, 0, 0), (18, .getfield 104, 3, 1, 0, 69), (21, .iload_n 3, 0, 0, 0, 0), (22, .isub, 0, 0, 0, 0), (23, .invokestatic 92, 0, 618, 4, 0), (26, .istore 5, 0, 0, 0, 0), (28, .iload_n 1, 0, 0, 0, 0), (29, .iload 4, 0, 0, 0, 0), (31, .iload 5, 0, 0, 0, 0), (33, .invokestatic 92, 0, 618, 4, 0), (36, .iconst 0, 0, 0, 0, 0), (37, .invokestatic 268, 94, 615, 1, 0), (40, .ireturn, 0, 0, 0, 0)]
/-- ParallaxSheets distance -/
def m_p_94 : List m_I := [(0, .iload_n 0, 0, 0, 0, 0), (1, .lookupswitch 49 #[(0, 27), (1, 37)], 0, 0, 0, 27), (28, .iload_n 1, 0, 0, 0, 0), (29, .invokestatic 169, 0, 530, 5, 0), (32, .iload_n 2, 0, 0, 0, 0), (33, .invokestatic 169, 0, 530, 5, 0), (36, .iadd, 0, 0, 0, 0), (37, .ireturn, 0, 0, 0, 0), (38, .iload_n 1, 0, 0, 0, 0), (39, .invokestatic 169, 0, 530, 5, 0), (42, .iload_n 2, 0, 0, 0, 0), (43, .invokestatic 169, 0, 530, 5, 0), (46, .invokestatic 97, 0, 378, 3, 0), (49, .ireturn, 0, 0, 0, 0), (50, .iload_n 1, 0, 0, 0, 0), (51, .iload_n 1, 0, 0, 0, 0), (52, .imul, 0, 0, 0, 0), (53, .iload_n 2, 0, 0, 0, 0), (54, .iload_n 2, 0, 0, 0, 0), (55, .imul, 0, 0, 0, 0), (56, .iadd, 0, 0, 0, 0), (57, .ireturn, 0, 0, 0, 0)]
/-- ParallaxSheets costOfCarving -/
def m_p_95 : List m_I := [(0, .aload_n 0, 0, 0, 0, 0), (1, .getfield 16, 5, 1, 0, 179), (4, .aload_n 1, 0, 0, 0, 0), (5, .invokevirtual 88, 38, 335, 1, 0), (8, .iconst 0, 0, 0, 0, 0), (9, .istore_n 3, 0, 0, 0, 0), (10, .iconst 0, 0, 0, 0, 0), (11, .istore 4, 0, 0, 0, 0), (13, .iload 4, 0, 0, 0, 0), (15, .iload_n 2, 0, 0, 0, 0), (16, .if_icmp .ge 41, 57, 0, 0, 0), (19, .aload_n 0, 0, 0, 0, 0), (20, .getfield 44, 5, 5, 0, 183), (23, .aload_n 0, 0, 0, 0, 0), (24, .getfield 16, 5, 1, 0, 179), (27, .invokevirtual 203, 24, 626, 1, 0), (30, .aload_n 0, 0, 0, 0, 0), (31, .getfield 44, 5, 5, 0, 183), (34, .aload_n 0, 0, 0, 0, 0), (35, .getfield 16, 5, 1, 0, 179), (38, .invokevirtual 205, 28, 645, 1, 0), (41, .iload_n 3, 0, 0, 0, 0), (42, .aload_n 0, 0, 0, 0, 0), (43, .getfield 44, 5, 5, 0, 183), (46, .getfield 208, 2, 0, 0, 164), (49, .iadd, 0, 0, 0, 0), (50, .istore_n 3, 0, 0, 0, 0), (51, .iinc 4 1, 0, 0, 0, 0), (54, .goto (-41), 13, 0, 0, 0), (57, .iload_n 3, 0, 0, 0, 0), (58, .ireturn, 0, 0, 0, 0)]
/-- ParallaxSheets digestWith -/
def m_p_96 : List m_I := [(0, .lload_n 0, 0, 0, 0, 0), (1, .ldc2_w 271, 0, 688, 0, 31), (4, .lmul, 0, 0, 0, 0), (5, .iload_n 2, 0, 0, 0, 0), (6, .i2l, 0, 0, 0, 0), (7, .ladd, 0, 0, 0, 0), (8, .lreturn, 0, 0, 0, 0)]
/-- ParallaxSheets digestFacts -/
def m_p_97 : List m_I := [(0, .lload_n 1, 0, 0, 0, 0), (1, .lstore 4, 0, 0, 0, 0), (3, .iconst 0, 0, 0, 0, 0), (4, .istore 6, 0, 0, 0, 0), (6, .iload 6, 0, 0, 0, 0), (8, .iconst 5, 0, 0, 0, 0), (9, .if_icmp .gt 23, 32, 0, 0, 0), (12, .lload 4, 0, 0, 0, 0), (14, .aload_n 0, 0, 0, 0, 0), (15, .aload_n 3, 0, 0, 0, 0), (16, .iload 6, 0, 0, 0, 0), (18, .invokevirtual 162, 88, 510, 1, 0), (21, .invokestatic 273, 96, 685, 1, 0), (24, .lstore 4, 0, 0, 0, 0), (26, .iinc 6 1, 0, 0, 0, 0), (29, .goto (-23), 6, 0, 0, 0), (32, .lload 4, 0, 0, 0, 0), (34, .aload_n 0, 0, 0, 0, 0), (35, .aload_n 3, 0, 0, 0, 0), (36, .iconst 4, 0, 0, 0, 0), (37, .sipush 128, 0, 0, 0, 0), (40, .invokevirtual 175, 89, 538, 1, 0), (43, .invokestatic 273, 96, 685, 1, 0), (46, .lstore 4, 0, 0, 0, 0), (48, .lload 4, 0, 0, 0, 0), (50, .aload_n 0, 0, 0, 0, 0), (51, .aload_n 3, 0, 0, 0, 0), (52, .iconst 4, 0, 0, 0, 0), (53, .invokevirtual 179, 90, 570, 1, 0), (56, .invokestatic 273, 96, 685, 1, 0), (59, .lstore 4, 0, 0, 0, 0), (61, .lload 4, 0, 0, 0, 0), (63, .aload_n 0, 0, 0, 0, 0), (64, .aload_n 3, 0, 0, 0, 0), (65, .bipush 8, 0, 0, 0, 0), (67, .sipush 128, 0, 0, 0, 0), (70, .invokevirtual 175, 89, 538, 1, 0), (73, .invokestatic 273, 96, 685, 1, 0), (76, .lstore 4, 0, 0, 0, 0), (78, .lload 4, 0, 0, 0, 0), (80, .aload_n 0, 0, 0, 0, 0), (81, .aload_n 3, 0, 0, 0, 0), (82, .bipush 8, 0, 0, 0, 0), (84, .invokevirtual 179, 90, 570, 1, 0), (87, .invokestatic 273, 96, 685, 1, 0), (90, .lreturn, 0, 0, 0, 0)]
/-- ParallaxSheets digestSeams -/
def m_p_98 : List m_I := [(0, .lload_n 1, 0, 0, 0, 0), (1, .lstore 4, 0, 0, 0, 0), (3, .aload_n 0, 0, 0, 0, 0), (4, .getfield 44, 5, 5, 0, 183), (7, .aload_n 3, 0, 0, 0, 0), (8, .invokevirtual 203, 24, 626, 1, 0), (11, .iconst 0, 0, 0, 0, 0), (12, .istore 6, 0, 0, 0, 0), (14, .iload 6, 0, 0, 0, 0), (16, .aload_n 3, 0, 0, 0, 0), (17, .getfield 104, 3, 1, 0, 69), (20, .if_icmp .ge 26, 46, 0, 0, 0), (23, .lload 4, 0, 0, 0, 0), (25, .aload_n 0, 0, 0, 0, 0), (26, .getfield 44, 5, 5, 0, 183), (29, .getfield 213, 2, 1, 0, 166), (32, .iload 6, 0, 0, 0, 0), (34, .iaload, 0, 0, 0, 0), (35, .invokestatic 273, 96, 685, 1, 0), (38, .lstore 4, 0, 0, 0, 0), (40, .iinc 6 1, 0, 0, 0, 0), (43, .goto (-29), 14, 0, 0, 0), (46, .aload_n 3, 0, 0, 0, 0), (47, .getfield 108, 3, 0, 0, 64), (50, .iconst 1, 0, 0, 0, 0), (51, .if_icmp .le 16, 67, 0, 0, 0), (54, .lload 4, 0, 0, 0, 0), (56, .aload_n 0, 0, 0, 0, 0), (57, .aload_n 3, 0, 0, 0, 0), (58, .iconst 1, 0, 0, 0, 0), (59, .invokevirtual 216, 95, 672, 1, 0), (62, .invokestatic 273, 96, 685, 1, 0), (65, .lstore 4, 0, 0, 0, 0), (67, .lload 4, 0, 0, 0, 0), (69, .lreturn, 0, 0, 0, 0)]
/-- ParallaxSheets digestFields -/
def m_p_99 : List m_I := [(0, .lload_n 0, 0, 0, 0, 0), (1, .lstore_n 3, 0, 0, 0, 0), (2, .iconst 0, 0, 0, 0, 0), (3, .istore 5, 0, 0, 0, 0), (5, .iload 5, 0, 0, 0, 0), (7, .aload_n 2, 0, 0, 0, 0), (8, .getfield 108, 3, 0, 0, 64), (11, .aload_n 2, 0, 0, 0, 0), (12, .getfield 104, 3, 1, 0, 69), (15, .invokestatic 92, 0, 618, 4, 0), (18, .if_icmp .ge 23, 41, 0, 0, 0), (21, .lload_n 3, 0, 0, 0, 0), (22, .aload_n 2, 0, 0, 0, 0), (23, .iconst 2, 0, 0, 0, 0), (24, .iload 5, 0, 0, 0, 0), (26, .iload 5, 0, 0, 0, 0), (28, .invokestatic 200, 91, 609, 1, 0), (31, .invokestatic 273, 96, 685, 1, 0), (34, .lstore_n 3, 0, 0, 0, 0), (35, .iinc 5 1, 0, 0, 0, 0), (38, .goto (-33), 5, 0, 0, 0), (41, .iconst 0, 0, 0, 0, 0), (42, .istore 5, 0, 0, 0, 0), (44, .iload 5, 0, 0, 0, 0), (46, .aload_n 2, 0, 0, 0, 0), (47, .invokevirtual 68, 31, 302, 1, 0), (50, .if_icmp .ge 21, 71, 0, 0, 0), (53, .lload_n 3, 0, 0, 0, 0), (54, .aload_n 2, 0, 0, 0, 0), (55, .getfield 72, 3, 2, 0, 72), (58, .iload 5, 0, 0, 0, 0), (60, .iaload, 0, 0, 0, 0), (61, .invokestatic 273, 96, 685, 1, 0), (64, .lstore_n 3, 0, 0, 0, 0), (65, .iinc 5 1, 0, 0, 0, 0), (68, .goto (-24), 44, 0, 0, 0), (71, .lload_n 3, 0, 0, 0, 0), (72, .lreturn, 0, 0, 0, 0)]
/-- ParallaxSheetsLaw below -/
def m_p_100 : List m_I := [(0, .iload_n 0, 0, 0, 0, 0), (1, .ldc 7, 0, 699, 0, 2147483647), (3, .iand, 0, 0, 0, 0), (4, .iload_n 1, 0, 0, 0, 0), (5, .irem, 0, 0, 0, 0), (6, .ireturn, 0, 0, 0, 0)]
/-- ParallaxSheetsLaw cell -/
def m_p_101 : List m_I := [(0, .iload_n 1, 0, 0, 0, 0), (1, .aload_n 0, 0, 0, 0, 0), (2, .arraylength, 0, 0, 0, 0), (3, .if_icmp .ge 9, 12, 0, 0, 0), (6, .aload_n 0, 0, 0, 0, 0), (7, .iload_n 1, 0, 0, 0, 0), (8, .iaload, 0, 0, 0, 0), (9, .goto 9, 18, 0, 0, 0), (12, .ldc 8, 0, 703, 0, 790386105), (14, .iload_n 1, 0, 0, 0, 0), (15, .iconst 3, 0, 0, 0, 0), (16, .iadd, 0, 0, 0, 0), (17, .imul, 0, 0, 0, 0), (18, .ireturn, 0, 0, 0, 0)]
/-- ParallaxSheetsLaw law -/
def m_p_102 : List m_I := [(0, .new 9, 5, 45, 0, 0), (3, .dup, 0, 0, 0, 0), (4, .invokespecial 11, 51, 47, 1, 0), (7, .astore_n 1, 0, 0, 0, 0), (8, .iconst 1, 0, 0, 0, 0), (9, .aload_n 0, 0, 0, 0, 0), (10, .iconst 0, 0, 0, 0, 0), (11, .invokestatic 12, 101, 700, 1, 0), (14, .bipush 8, 0, 0, 0, 0), (16, .invokestatic 18, 100, 696, 1, 0), (19, .iadd, 0, 0, 0, 0), (20, .istore_n 2, 0, 0, 0, 0), (21, .iconst 1, 0, 0, 0, 0), (22, .aload_n 0, 0, 0, 0, 0), (23, .iconst 1, 0, 0, 0, 0), (24, .invokestatic 12, 101, 700, 1, 0), (27, .bipush 8, 0, 0, 0, 0), (29, .invokestatic 18, 100, 696, 1, 0), (32, .iadd, 0, 0, 0, 0), (33, .istore_n 3, 0, 0, 0, 0), (34, .aload_n 1, 0, 0, 0, 0), (35, .iconst 0, 0, 0, 0, 0), (36, .iload_n 2, 0, 0, 0, 0), (37, .iload_n 3, 0, 0, 0, 0), (38, .aload_n 0, 0, 0, 0, 0), (39, .iconst 2, 0, 0, 0, 0), (40, .invokestatic 12, 101, 700, 1, 0), (43, .sipush 256, 0, 0, 0, 0), (46, .invokestatic 18, 100, 696, 1, 0), (49, .invokevirtual 22, 52, 197, 1, 0), (52, .iload_n 2, 0, 0, 0, 0), (53, .iload_n 3, 0, 0, 0, 0), (54, .imul, 0, 0, 0, 0), (55, .if_icmp .eq 5, 60, 0, 0, 0), (58, .iconst 0, 0, 0, 0, 0), (59, .ireturn, 0, 0, 0, 0), (60, .aload_n 1, 0, 0, 0, 0), (61, .iconst 0, 0, 0, 0, 0), (62, .aload_n 0, 0, 0, 0, 0), (63, .iconst 3, 0, 0, 0, 0), (64, .invokestatic 12, 101, 700, 1, 0), (67, .bipush 41, 0, 0, 0, 0), (69, .invokestatic 18, 100, 696, 1, 0), (72, .bipush 20, 0, 0, 0, 0), (74, .isub, 0, 0, 0, 0), (75, .aload_n 0, 0, 0, 0, 0), (76, .iconst 4, 0, 0, 0, 0), (77, .invokestatic 12, 101, 700, 1, 0), (80, .bipush 41, 0, 0, 0, 0), (82, .invokestatic 18, 100, 696, 1, 0), (85, .bipush 20, 0, 0, 0, 0), (87, .isub, 0, 0, 0, 0), (88, .aload_n 0, 0, 0, 0, 0), (89, .iconst 5, 0, 0, 0, 0), (90, .invokestatic 12, 101, 700, 1, 0), (93, .bipush 61, 0, 0, 0, 0), (95, .invokestatic 18, 100, 696, 1, 0), (98, .bipush 30, 0, 0, 0, 0), (100, .isub, 0, 0, 0, 0), (101, .invokevirtual 26, 55, 352, 1, 0), (104, .pop, 0, 0, 0, 0), (105, .iconst 0, 0, 0, 0, 0), (106, .istore 4, 0, 0, 0, 0), (108, .iload 4, 0, 0, 0, 0), (110, .bipush 6, 0, 0, 0, 0), (112, .if_icmp .ge 98, 210, 0, 0, 0), (115, .aload_n 0, 0, 0, 0, 0), (116, .bipush 6, 0, 0, 0, 0), (118, .iload 4, 0, 0, 0, 0), (120, .iadd, 0, 0, 0, 0), (121, .invokestatic 12, 101, 700, 1, 0), (124, .istore 5, 0, 0, 0, 0), (126, .iload 4, 0, 0, 0, 0), (128, .iconst 2, 0, 0, 0, 0), (129, .irem, 0, 0, 0, 0), (130, .ifCond .ne 44, 174, 0, 0, 0), (133, .aload_n 1, 0, 0, 0, 0), (134, .iconst 0, 0, 0, 0, 0), (135, .iload 5, 0, 0, 0, 0), (137, .iload_n 2, 0, 0, 0, 0), (138, .invokestatic 18, 100, 696, 1, 0), (141, .iload 5, 0, 0, 0, 0), (143, .iconst 3, 0, 0, 0, 0), (144, .ishr, 0, 0, 0, 0), (145, .iload_n 3, 0, 0, 0, 0), (146, .invokestatic 18, 100, 696, 1, 0), (149, .iload 5, 0, 0, 0, 0), (151, .iconst 2, 0, 0, 0, 0), (152, .ishr, 0, 0, 0, 0), (153, .iconst 3, 0, 0, 0, 0), (154, .invokestatic 18, 100, 696, 1, 0), (157, .iload 5, 0, 0, 0, 0), (159, .iconst 5, 0, 0, 0, 0), (160, .ishr, 0, 0, 0, 0), (161, .sipush 256, 0, 0, 0, 0), (164, .invokestatic 18, 100, 696, 1, 0), (167, .invokevirtual 29, 54, 331, 1, 0), (170, .pop, 0, 0, 0, 0), (171, .goto 33, 204, 0, 0, 0), (174, .aload_n 1, 0, 0, 0, 0), (175, .iconst 0, 0, 0, 0, 0), (176, .iload 5, 0, 0, 0, 0), (178, .iload_n 2, 0, 0, 0, 0), (179, .invokestatic 18, 100, 696, 1, 0), (182, .iload 5, 0, 0, 0, 0), (184, .iconst 3, 0, 0, 0, 0), (185, .ishr, 0, 0, 0, 0), (186, .iload_n 3, 0, 0, 0, 0), (187, .invokestatic 18, 100, 696, 1, 0), (190, .iload 5, 0, 0, 0, 0), (192, .iconst 5, 0, 0, 0, 0), (193, .ishr, 0, 0, 0, 0), (194, .sipush 256, 0, 0, 0, 0), (197, .invokestatic 18, 100, 696, 1, 0), (200, .invokevirtual 33, 53, 306, 1, 0), (203, .pop, 0, 0, 0, 0), (204, .iinc 4 1, 0, 0, 0, 0), (207, .goto (-99), 108, 0, 0, 0), (210, .iload_n 2, 0, 0, 0, 0), (211, .iload_n 3, 0, 0, 0, 0), (212, .imul, 0, 0, 0, 0), (213, .istore 4, 0, 0, 0, 0), (215, .aload_n 1, 0, 0, 0, 0), (216, .invokevirtual 36, 75, 676, 1, 0), (219, .lstore 5, 0, 0, 0, 0), (221, .aload_n 1, 0, 0, 0, 0), (222, .iconst 0, 0, 0, 0, 0), (223, .iconst 0, 0, 0, 0, 0), (224, .sipush 255, 0, 0, 0, 0), (227, .invokevirtual 40, 62, 517, 1, 0), (230, .iload 4, 0, 0, 0, 0), (232, .if_icmp .ne 103, 335, 0, 0, 0), (235, .aload_n 1, 0, 0, 0, 0), (236, .iconst 0, 0, 0, 0, 0), (237, .iconst 0, 0, 0, 0, 0), (238, .invokevirtual 44, 63, 521, 1, 0), (241, .aload_n 1, 0, 0, 0, 0), (242, .iconst 0, 0, 0, 0, 0), (243, .iconst 2, 0, 0, 0, 0), (244, .invokevirtual 47, 61, 506, 1, 0), (247, .if_icmp .ne 88, 335, 0, 0, 0), (250, .aload_n 1, 0, 0, 0, 0), (251, .iconst 0, 0, 0, 0, 0), (252, .iload 4, 0, 0, 0, 0), (254, .iconst 1, 0, 0, 0, 0), (255, .isub, 0, 0, 0, 0), (256, .invokevirtual 44, 63, 521, 1, 0), (259, .aload_n 1, 0, 0, 0, 0), (260, .iconst 0, 0, 0, 0, 0), (261, .iconst 3, 0, 0, 0, 0), (262, .invokevirtual 47, 61, 506, 1, 0), (265, .if_icmp .ne 70, 335, 0, 0, 0), (268, .aload_n 1, 0, 0, 0, 0), (269, .iconst 0, 0, 0, 0, 0), (270, .iconst 0, 0, 0, 0, 0), (271, .invokevirtual 50, 64, 526, 1, 0), (274, .dconst 0, 0, 0, 0, 0), (275, .dcmp .l, 0, 0, 0, 0), (276, .ifCond .ne 59, 335, 0, 0, 0), (279, .aload_n 1, 0, 0, 0, 0), (280, .iconst 0, 0, 0, 0, 0), (281, .bipush 8, 0, 0, 0, 0), (283, .invokevirtual 54, 65, 531, 1, 0), (286, .aload_n 1, 0, 0, 0, 0), (287, .iconst 0, 0, 0, 0, 0), (288, .iconst 4, 0, 0, 0, 0), (289, .invokevirtual 54, 65, 531, 1, 0), (292, .if_icmp .gt 43, 335, 0, 0, 0), (295, .aload_n 1, 0, 0, 0, 0), (296, .iconst 0, 0, 0, 0, 0), (297, .bipush 8, 0, 0, 0, 0), (299, .invokevirtual 57, 66, 566, 1, 0), (302, .ifCond .lt 33, 335, 0, 0, 0), (305, .aload_n 1, 0, 0, 0, 0), (306, .iconst 0, 0, 0, 0, 0), (307, .iconst 4, 0, 0, 0, 0), (308, .sipush 128, 0, 0, 0, 0), (311, .invokevirtual 60, 73, 664, 1, 0), (314, .aload_n 1, 0, 0, 0, 0), (315, .iconst 0, 0, 0, 0, 0), (316, .iconst 4, 0, 0, 0, 0), (317, .invokevirtual 54, 65, 531, 1, 0), (320, .if_icmp .ne 15, 335, 0, 0, 0), (323, .aload_n 1, 0, 0, 0, 0), (324, .iconst 0, 0, 0, 0, 0), (325, .bipush 8, 0, 0, 0, 0), (327, .iconst 0, 0, 0, 0, 0), (328, .invokevirtual 60, 73, 664, 1, 0), (331, .iconst 1, 0, 0, 0, 0), (332, .if_icmp .eq 5, 337, 0, 0, 0), (335, .iconst 0, 0, 0, 0, 0), (336, .ireturn, 0, 0, 0, 0), (337, .iconst 0, 0, 0, 0, 0), (338, .istore 7, 0, 0, 0, 0), (340, .iconst 0, 0, 0, 0, 0), (341, .istore 8, 0, 0, 0, 0), (343, .iload 8, 0, 0, 0, 0), (345, .iload 4, 0, 0, 0, 0), (347, .if_icmp .ge 47, 394, 0, 0, 0), (350, .iload 7, 0, 0, 0, 0), (352, .aload_n 1, 0, 0, 0, 0), (353, .iconst 0, 0, 0, 0, 0), (354, .iload 8, 0, 0, 0, 0), (356, .invokevirtual 44, 63, 521, 1, 0), (359, .iadd, 0, 0, 0, 0), (360, .istore 7, 0, 0, 0, 0), (362, .iload 8, 0, 0, 0, 0), (364, .ifCond .le 24, 388, 0, 0, 0), (367, .aload_n 1, 0, 0, 0, 0), (368, .iconst 0, 0, 0, 0, 0), (369, .iload 8, 0, 0, 0, 0), (371, .invokevirtual 44, 63, 521, 1, 0), (374, .aload_n 1, 0, 0, 0, 0), (375, .iconst 0, 0, 0, 0, 0), (376, .iload 8, 0, 0, 0, 0), (378, .iconst 1, 0, 0, 0, 0), (379, .isub, 0, 0, 0, 0), (380, .invokevirtual 44, 63, 521, 1, 0), (383, .if_icmp .ge 5, 388, 0, 0, 0), (386, .iconst 0, 0, 0, 0, 0), (387, .ireturn, 0, 0, 0, 0), (388, .iinc 8 1, 0, 0, 0, 0), (391, .goto (-48), 343, 0, 0, 0), (394, .iload 7, 0, 0, 0, 0), (396, .aload_n 1, 0, 0, 0, 0), (397, .iconst 0, 0, 0, 0, 0), (398, .iconst 4, 0, 0, 0, 0), (399, .invokevirtual 47, 61, 506, 1, 0), (402, .if_icmp .eq 5, 407, 0, 0, 0), (405, .iconst 0, 0, 0, 0, 0), (406, .ireturn, 0, 0, 0, 0), (407, .iconst 0, 0, 0, 0, 0), (408, .istore 8, 0, 0, 0, 0), (410, .iconst 0, 0, 0, 0, 0), (411, .istore 9, 0, 0, 0, 0), (413, .iload 9, 0, 0, 0, 0), (415, .aload_n 1, 0, 0, 0, 0), (416, .iconst 0, 0, 0, 0, 0), (417, .iconst 4, 0, 0, 0, 0), (418, .invokevirtual 54, 65, 531, 1, 0), (421, .if_icmp .ge 23, 444, 0, 0, 0), (424, .iload 8, 0, 0, 0, 0), (426, .aload_n 1, 0, 0, 0, 0), (427, .iconst 0, 0, 0, 0, 0), (428, .iconst 4, 0, 0, 0, 0), (429, .iload 9, 0, 0, 0, 0), (431, .iconst 0, 0, 0, 0, 0), (432, .invokevirtual 63, 68, 583, 1, 0), (435, .iadd, 0, 0, 0, 0), (436, .istore 8, 0, 0, 0, 0), (438, .iinc 9 1, 0, 0, 0, 0), (441, .goto (-28), 413, 0, 0, 0), (444, .iload 8, 0, 0, 0, 0), (446, .aload_n 1, 0, 0, 0, 0), (447, .iconst 0, 0, 0, 0, 0), (448, .sipush 128, 0, 0, 0, 0), (451, .sipush 255, 0, 0, 0, 0), (454, .invokevirtual 40, 62, 517, 1, 0), (457, .if_icmp .eq 5, 462, 0, 0, 0), (460, .iconst 0, 0, 0, 0, 0), (461, .ireturn, 0, 0, 0, 0), (462, .iconst 0, 0, 0, 0, 0), (463, .istore 9, 0, 0, 0, 0), (465, .iload 9, 0, 0, 0, 0), (467, .iload_n 3, 0, 0, 0, 0), (468, .if_icmp .ge 264, 732, 0, 0, 0), (471, .iconst 0, 0, 0, 0, 0), (472, .istore 10, 0, 0, 0, 0), (474, .iload 10, 0, 0, 0, 0), (476, .iload_n 2, 0, 0, 0, 0), (477, .if_icmp .ge 249, 726, 0, 0, 0), (480, .aload_n 1, 0, 0, 0, 0), (481, .iconst 0, 0, 0, 0, 0), (482, .iload 10, 0, 0, 0, 0), (484, .iload 9, 0, 0, 0, 0), (486, .invokevirtual 66, 60, 502, 1, 0), (489, .bipush 127, 0, 0, 0, 0), (491, .if_icmp .le 7, 498, 0, 0, 0), (494, .iconst 1, 0, 0, 0, 0), (495, .goto 4, 499, 0, 0, 0), (498, .iconst 0, 0, 0, 0, 0), (499, .istore 11, 0, 0, 0, 0), (501, .aload_n 1, 0, 0, 0, 0), (502, .iconst 0, 0, 0, 0, 0), (503, .iconst 0, 0, 0, 0, 0), (504, .iload 10, 0, 0, 0, 0), (506, .iload 9, 0, 0, 0, 0), (508, .invokevirtual 69, 69, 605, 1, 0), (511, .istore 12, 0, 0, 0, 0), (513, .aload_n 1, 0, 0, 0, 0), (514, .iconst 0, 0, 0, 0, 0), (515, .iconst 4, 0, 0, 0, 0), (516, .iload 10, 0, 0, 0, 0), (518, .iload 9, 0, 0, 0, 0), (520, .invokevirtual 72, 67, 578, 1, 0), (523, .ifCond .lt 7, 530, 0, 0, 0), (526, .iconst 1, 0, 0, 0, 0), (527, .goto 4, 531, 0, 0, 0), (530, .iconst 0, 0, 0, 0, 0), (531, .iload 11, 0, 0, 0, 0), (533, .if_icmp .ne 98, 631, 0, 0, 0), (536, .aload_n 1, 0, 0, 0, 0), (537, .iconst 0, 0, 0, 0, 0), (538, .bipush 8, 0, 0, 0, 0), (540, .iload 10, 0, 0, 0, 0), (542, .iload 9, 0, 0, 0, 0), (544, .invokevirtual 72, 67, 578, 1, 0), (547, .ifCond .lt 7, 554, 0, 0, 0), (550, .iconst 1, 0, 0, 0, 0), (551, .goto 4, 555, 0, 0, 0), (554, .iconst 0, 0, 0, 0, 0), (555, .iload 11, 0, 0, 0, 0), (557, .if_icmp .ne 74, 631, 0, 0, 0), (560, .iload 12, 0, 0, 0, 0), (562, .ifCond .le 7, 569, 0, 0, 0), (565, .iconst 1, 0, 0, 0, 0), (566, .goto 4, 570, 0, 0, 0), (569, .iconst 0, 0, 0, 0, 0), (570, .iload 11, 0, 0, 0, 0), (572, .if_icmp .ne 59, 631, 0, 0, 0), (575, .aload_n 1, 0, 0, 0, 0), (576, .iconst 0, 0, 0, 0, 0), (577, .iconst 1, 0, 0, 0, 0), (578, .iload 10, 0, 0, 0, 0), (580, .iload 9, 0, 0, 0, 0), (582, .invokevirtual 69, 69, 605, 1, 0), (585, .iload 12, 0, 0, 0, 0), (587, .if_icmp .gt 44, 631, 0, 0, 0), (590, .aload_n 1, 0, 0, 0, 0), (591, .iconst 0, 0, 0, 0, 0), (592, .iconst 2, 0, 0, 0, 0), (593, .iload 10, 0, 0, 0, 0), (595, .iload 9, 0, 0, 0, 0), (597, .invokevirtual 69, 69, 605, 1, 0), (600, .iload 12, 0, 0, 0, 0), (602, .iload 12, 0, 0, 0, 0), (604, .imul, 0, 0, 0, 0), (605, .if_icmp .gt 26, 631, 0, 0, 0), (608, .aload_n 1, 0, 0, 0, 0), (609, .iconst 0, 0, 0, 0, 0), (610, .iconst 2, 0, 0, 0, 0), (611, .iload 10, 0, 0, 0, 0), (613, .iload 9, 0, 0, 0, 0), (615, .invokevirtual 69, 69, 605, 1, 0), (618, .aload_n 1, 0, 0, 0, 0), (619, .iconst 0, 0, 0, 0, 0), (620, .iconst 1, 0, 0, 0, 0), (621, .iload 10, 0, 0, 0, 0), (623, .iload 9, 0, 0, 0, 0), (625, .invokevirtual 69, 69, 605, 1, 0), (628, .if_icmp .ge 5, 633, 0, 0, 0), (631, .iconst 0, 0, 0, 0, 0), (632, .ireturn, 0, 0, 0, 0), (633, .iload 10, 0, 0, 0, 0), (635, .ifCond .le 32, 667, 0, 0, 0), (638, .iload 12, 0, 0, 0, 0), (640, .aload_n 1, 0, 0, 0, 0), (641, .iconst 0, 0, 0, 0, 0), (642, .iconst 0, 0, 0, 0, 0), (643, .iload 10, 0, 0, 0, 0), (645, .iconst 1, 0, 0, 0, 0), (646, .isub, 0, 0, 0, 0), (647, .iload 9, 0, 0, 0, 0), (649, .invokevirtual 69, 69, 605, 1, 0), (652, .isub, 0, 0, 0, 0), (653, .invokestatic 75, 0, 704, 5, 0), (656, .iconst 1, 0, 0, 0, 0), (657, .if_icmp .le 10, 667, 0, 0, 0), (660, .iload 8, 0, 0, 0, 0), (662, .iload 4, 0, 0, 0, 0), (664, .if_icmp .lt 54, 718, 0, 0, 0), (667, .iload 9, 0, 0, 0, 0), (669, .ifCond .le 51, 720, 0, 0, 0), (672, .iload 11, 0, 0, 0, 0), (674, .ifCond .eq 46, 720, 0, 0, 0), (677, .aload_n 1, 0, 0, 0, 0), (678, .iconst 0, 0, 0, 0, 0), (679, .iload 10, 0, 0, 0, 0), (681, .iload 9, 0, 0, 0, 0), (683, .iconst 1, 0, 0, 0, 0), (684, .isub, 0, 0, 0, 0), (685, .invokevirtual 66, 60, 502, 1, 0), (688, .bipush 127, 0, 0, 0, 0), (690, .if_icmp .le 30, 720, 0, 0, 0), (693, .aload_n 1, 0, 0, 0, 0), (694, .iconst 0, 0, 0, 0, 0), (695, .iconst 4, 0, 0, 0, 0), (696, .iload 10, 0, 0, 0, 0), (698, .iload 9, 0, 0, 0, 0), (700, .invokevirtual 72, 67, 578, 1, 0), (703, .aload_n 1, 0, 0, 0, 0), (704, .iconst 0, 0, 0, 0, 0), (705, .iconst 4, 0, 0, 0, 0), (706, .iload 10, 0, 0, 0, 0), (708, .iload 9, 0, 0, 0, 0), (710, .iconst 1, 0, 0, 0, 0), (711, .isub, 0, 0, 0, 0), (712, .invokevirtual 72, 67, 578, 1, 0), (715, .if_icmp .eq 5, 720, 0, 0, 0), (718, .iconst 0, 0, 0, 0, 0), (719, .ireturn, 0, 0, 0, 0), (720, .iinc 10 1, 0, 0, 0, 0), (723, .goto (-249), 474, 0, 0, 0), (726, .iinc 9 1, 0, 0, 0, 0), (729, .goto (-264), 465, 0, 0, 0), (732, .aload_n 1, 0, 0, 0, 0), (733, .invokevirtual 36, 75, 676, 1, 0), (736, .lload 5, 0, 0, 0, 0), (738, .lcmp, 0, 0, 0, 0), (739, .ifCond .eq 5, 744, 0, 0, 0), (742, .iconst 0, 0, 0, 0, 0), (743, .ireturn, 0, 0, 0, 0), (744, .aload_n 1, 0, 0, 0, 0), (745, .iconst 0, 0, 0, 0, 0), (746, .iconst 1, 0, 0, 0, 0), (747, .invokevirtual 81, 56, 363, 1, 0), (750, .pop, 0, 0, 0, 0), (751, .iconst 0, 0, 0, 0, 0), (752, .istore 9, 0, 0, 0, 0), (754, .iload 9, 0, 0, 0, 0), (756, .iconst 4, 0, 0, 0, 0), (757, .if_icmp .ge 22, 779, 0, 0, 0), (760, .aload_n 1, 0, 0, 0, 0), (761, .iconst 1, 0, 0, 0, 0), (762, .iconst 0, 0, 0, 0, 0), (763, .invokevirtual 84, 57, 371, 1, 0), (766, .iload 4, 0, 0, 0, 0), (768, .if_icmp .eq 5, 773, 0, 0, 0), (771, .iconst 0, 0, 0, 0, 0), (772, .ireturn, 0, 0, 0, 0), (773, .iinc 9 1, 0, 0, 0, 0), (776, .goto (-22), 754, 0, 0, 0), (779, .iconst 0, 0, 0, 0, 0), (780, .istore 9, 0, 0, 0, 0), (782, .iload 9, 0, 0, 0, 0), (784, .iconst 2, 0, 0, 0, 0), (785, .if_icmp .ge 22, 807, 0, 0, 0), (788, .aload_n 1, 0, 0, 0, 0), (789, .iconst 1, 0, 0, 0, 0), (790, .iconst 1, 0, 0, 0, 0), (791, .invokevirtual 84, 57, 371, 1, 0), (794, .iload 4, 0, 0, 0, 0), (796, .if_icmp .eq 5, 801, 0, 0, 0), (799, .iconst 0, 0, 0, 0, 0), (800, .ireturn, 0, 0, 0, 0), (801, .iinc 9 1, 0, 0, 0, 0), (804, .goto (-22), 782, 0, 0, 0), (807, .aload_n 1, 0, 0, 0, 0), (808, .iconst 0, 0, 0, 0, 0), (809, .iconst 1, 0, 0, 0, 0), (810, .invokevirtual 50, 64, 526, 1, 0), (813, .dconst 0, 0, 0, 0, 0), (814, .dcmp .l, 0, 0, 0, 0), (815, .ifCond .ne 36, 851, 0, 0, 0), (818, .aload_n 1, 0, 0, 0, 0), (819, .iconst 1, 0, 0, 0, 0), (820, .iconst 3, 0, 0, 0, 0), (821, .invokevirtual 84, 57, 371, 1, 0), (824, .iconst 4, 0, 0, 0, 0), (825, .iload 4, 0, 0, 0, 0), (827, .imul, 0, 0, 0, 0), (828, .if_icmp .ne 23, 851, 0, 0, 0), (831, .aload_n 1, 0, 0, 0, 0), (832, .iconst 1, 0, 0, 0, 0), (833, .iconst 2, 0, 0, 0, 0), (834, .invokevirtual 84, 57, 371, 1, 0), (837, .iload 4, 0, 0, 0, 0), (839, .if_icmp .ne 12, 851, 0, 0, 0), (842, .aload_n 1, 0, 0, 0, 0), (843, .iconst 1, 0, 0, 0, 0), (844, .iconst 0, 0, 0, 0, 0), (845, .invokevirtual 81, 56, 363, 1, 0), (848, .ifCond .eq 5, 853, 0, 0, 0), (851, .iconst 0, 0, 0, 0, 0), (852, .ireturn, 0, 0, 0, 0), (853, .bipush 7, 0, 0, 0, 0), (855, .istore 9, 0, 0, 0, 0), (857, .iload 9, 0, 0, 0, 0), (859, .bipush 9, 0, 0, 0, 0), (861, .if_icmp .ge 86, 947, 0, 0, 0), (864, .aload_n 1, 0, 0, 0, 0), (865, .iconst 0, 0, 0, 0, 0), (866, .iconst 1, 0, 0, 0, 0), (867, .invokevirtual 81, 56, 363, 1, 0), (870, .pop, 0, 0, 0, 0), (871, .aload_n 1, 0, 0, 0, 0), (872, .iconst 1, 0, 0, 0, 0), (873, .iload 9, 0, 0, 0, 0), (875, .invokevirtual 87, 58, 401, 1, 0), (878, .pop, 0, 0, 0, 0), (879, .aload_n 1, 0, 0, 0, 0), (880, .iconst 1, 0, 0, 0, 0), (881, .iload 9, 0, 0, 0, 0), (883, .invokevirtual 87, 58, 401, 1, 0), (886, .ifCond .ne 53, 939, 0, 0, 0), (889, .iload 9, 0, 0, 0, 0), (891, .bipush 7, 0, 0, 0, 0), (893, .if_icmp .ne 7, 900, 0, 0, 0), (896, .iconst 1, 0, 0, 0, 0), (897, .goto 4, 901, 0, 0, 0), (900, .iconst 0, 0, 0, 0, 0), (901, .aload_n 1, 0, 0, 0, 0), (902, .iconst 1, 0, 0, 0, 0), (903, .iconst 4, 0, 0, 0, 0), (904, .invokevirtual 47, 61, 506, 1, 0), (907, .aload_n 1, 0, 0, 0, 0), (908, .iconst 0, 0, 0, 0, 0), (909, .iconst 4, 0, 0, 0, 0), (910, .invokevirtual 47, 61, 506, 1, 0), (913, .if_icmp .gt 7, 920, 0, 0, 0), (916, .iconst 1, 0, 0, 0, 0), (917, .goto 4, 921, 0, 0, 0), (920, .iconst 0, 0, 0, 0, 0), (921, .if_icmp .eq 20, 941, 0, 0, 0), (924, .aload_n 1, 0, 0, 0, 0), (925, .iconst 1, 0, 0, 0, 0), (926, .iconst 4, 0, 0, 0, 0), (927, .invokevirtual 47, 61, 506, 1, 0), (930, .aload_n 1, 0, 0, 0, 0), (931, .iconst 0, 0, 0, 0, 0), (932, .iconst 4, 0, 0, 0, 0), (933, .invokevirtual 47, 61, 506, 1, 0), (936, .if_icmp .eq 5, 941, 0, 0, 0), (939, .iconst 0, 0, 0, 0, 0), (940, .ireturn, 0, 0, 0, 0), (941, .iinc 9 1, 0, 0, 0, 0), (944, .goto (-87), 857, 0, 0, 0), (947, .iconst 3, 0, 0, 0, 0), (948, .istore 9, 0, 0, 0, 0), (950, .iload 9, 0, 0, 0, 0), (952, .iconst 5, 0, 0, 0, 0), (953, .if_icmp .ge 115, 1068, 0, 0, 0), (956, .aload_n 1, 0, 0, 0, 0), (957, .iconst 0, 0, 0, 0, 0), (958, .iconst 1, 0, 0, 0, 0), (959, .invokevirtual 81, 56, 363, 1, 0), (962, .pop, 0, 0, 0, 0), (963, .aload_n 1, 0, 0, 0, 0), (964, .iconst 0, 0, 0, 0, 0), (965, .iconst 2, 0, 0, 0, 0), (966, .invokevirtual 81, 56, 363, 1, 0), (969, .pop, 0, 0, 0, 0), (970, .aload_n 1, 0, 0, 0, 0), (971, .iconst 1, 0, 0, 0, 0), (972, .iload 9, 0, 0, 0, 0), (974, .invokevirtual 87, 58, 401, 1, 0), (977, .pop, 0, 0, 0, 0), (978, .aload_n 1, 0, 0, 0, 0), (979, .iconst 2, 0, 0, 0, 0), (980, .iload 9, 0, 0, 0, 0), (982, .iconst 2, 0, 0, 0, 0), (983, .iadd, 0, 0, 0, 0), (984, .invokevirtual 87, 58, 401, 1, 0), (987, .pop, 0, 0, 0, 0), (988, .iconst 0, 0, 0, 0, 0), (989, .istore 10, 0, 0, 0, 0), (991, .iload 10, 0, 0, 0, 0), (993, .iload_n 3, 0, 0, 0, 0), (994, .if_icmp .ge 68, 1062, 0, 0, 0), (997, .iconst 0, 0, 0, 0, 0), (998, .istore 11, 0, 0, 0, 0), (1000, .iload 11, 0, 0, 0, 0), (1002, .iload_n 2, 0, 0, 0, 0), (1003, .if_icmp .ge 53, 1056, 0, 0, 0), (1006, .aload_n 1, 0, 0, 0, 0), (1007, .iconst 1, 0, 0, 0, 0), (1008, .iload 11, 0, 0, 0, 0), (1010, .iload 10, 0, 0, 0, 0), (1012, .invokevirtual 66, 60, 502, 1, 0), (1015, .aload_n 1, 0, 0, 0, 0), (1016, .iconst 0, 0, 0, 0, 0), (1017, .iload 11, 0, 0, 0, 0), (1019, .iload 10, 0, 0, 0, 0), (1021, .invokevirtual 66, 60, 502, 1, 0), (1024, .if_icmp .gt 24, 1048, 0, 0, 0), (1027, .aload_n 1, 0, 0, 0, 0), (1028, .iconst 0, 0, 0, 0, 0), (1029, .iload 11, 0, 0, 0, 0), (1031, .iload 10, 0, 0, 0, 0), (1033, .invokevirtual 66, 60, 502, 1, 0), (1036, .aload_n 1, 0, 0, 0, 0), (1037, .iconst 2, 0, 0, 0, 0), (1038, .iload 11, 0, 0, 0, 0), (1040, .iload 10, 0, 0, 0, 0), (1042, .invokevirtual 66, 60, 502, 1, 0), (1045, .if_icmp .le 5, 1050, 0, 0, 0), (1048, .iconst 0, 0, 0, 0, 0), (1049, .ireturn, 0, 0, 0, 0), (1050, .iinc 11 1, 0, 0, 0, 0), (1053, .goto (-53), 1000, 0, 0, 0), (1056, .iinc 10 1, 0, 0, 0, 0), (1059, .goto (-68), 991, 0, 0, 0), (1062, .iinc 9 1, 0, 0, 0, 0), (1065, .goto (-115), 950, 0, 0, 0), (1068, .aload_n 1, 0, 0, 0, 0), (1069, .iconst 0, 0, 0, 0, 0), (1070, .iconst 1, 0, 0, 0, 0), (1071, .invokevirtual 81, 56, 363, 1, 0), (1074, .pop, 0, 0, 0, 0), (1075, .aload_n 1, 0, 0, 0, 0), (1076, .iconst 1, 0, 0, 0, 0), (1077, .iconst 0, 0, 0, 0, 0), (1078, .invokevirtual 90, 59, 452, 1, 0), (1081, .aload_n 1, 0, 0, 0, 0), (1082, .iconst 1, 0, 0, 0, 0), (1083, .iconst 0, 0, 0, 0, 0), (1084, .invokevirtual 90, 59, 452, 1, 0), (1087, .iadd, 0, 0, 0, 0), (1088, .ifCond .lt 14, 1102, 0, 0, 0), (1091, .aload_n 1, 0, 0, 0, 0), (1092, .iconst 0, 0, 0, 0, 0), (1093, .iconst 1, 0, 0, 0, 0), (1094, .invokevirtual 50, 64, 526, 1, 0), (1097, .dconst 0, 0, 0, 0, 0), (1098, .dcmp .l, 0, 0, 0, 0), (1099, .ifCond .eq 5, 1104, 0, 0, 0), (1102, .iconst 0, 0, 0, 0, 0), (1103, .ireturn, 0, 0, 0, 0), (1104, .aload_n 1, 0, 0, 0, 0), (1105, .iconst 1, 0, 0, 0, 0), (1106, .iconst 1, 0, 0, 0, 0), (1107, .aload_n 0, 0, 0, 0, 0), (1108, .bipush 12, 0, 0, 0, 0), (1110, .invokestatic 12, 101, 700, 1, 0), (1113, .iconst 2, 0, 0, 0, 0), (1114, .invokestatic 18, 100, 696, 1, 0), (1117, .iadd, 0, 0, 0, 0), (1118, .invokevirtual 90, 59, 452, 1, 0), (1121, .pop, 0, 0, 0, 0), (1122, .iconst 1, 0, 0, 0, 0), (1123, .istore 9, 0, 0, 0, 0), (1125, .iload 9, 0, 0, 0, 0), (1127, .iload 4, 0, 0, 0, 0), (1129, .if_icmp .ge 93, 1222, 0, 0, 0), (1132, .iload 9, 0, 0, 0, 0), (1134, .iload_n 2, 0, 0, 0, 0), (1135, .irem, 0, 0, 0, 0), (1136, .istore 10, 0, 0, 0, 0), (1138, .iload 9, 0, 0, 0, 0), (1140, .iload_n 2, 0, 0, 0, 0), (1141, .idiv, 0, 0, 0, 0), (1142, .istore 11, 0, 0, 0, 0), (1144, .aload_n 1, 0, 0, 0, 0), (1145, .iconst 0, 0, 0, 0, 0), (1146, .iload 10, 0, 0, 0, 0), (1148, .iload 11, 0, 0, 0, 0), (1150, .invokevirtual 66, 60, 502, 1, 0), (1153, .aload_n 1, 0, 0, 0, 0), (1154, .iconst 0, 0, 0, 0, 0), (1155, .iconst 0, 0, 0, 0, 0), (1156, .iconst 0, 0, 0, 0, 0), (1157, .invokevirtual 66, 60, 502, 1, 0), (1160, .if_icmp .gt 7, 1167, 0, 0, 0), (1163, .iconst 1, 0, 0, 0, 0), (1164, .goto 4, 1168, 0, 0, 0), (1167, .iconst 0, 0, 0, 0, 0), (1168, .aload_n 1, 0, 0, 0, 0), (1169, .iconst 1, 0, 0, 0, 0), (1170, .iload 10, 0, 0, 0, 0), (1172, .iload 11, 0, 0, 0, 0), (1174, .invokevirtual 66, 60, 502, 1, 0), (1177, .aload_n 1, 0, 0, 0, 0), (1178, .iconst 1, 0, 0, 0, 0), (1179, .iconst 0, 0, 0, 0, 0), (1180, .iconst 0, 0, 0, 0, 0), (1181, .invokevirtual 66, 60, 502, 1, 0), (1184, .if_icmp .gt 7, 1191, 0, 0, 0), (1187, .iconst 1, 0, 0, 0, 0), (1188, .goto 4, 1192, 0, 0, 0), (1191, .iconst 0, 0, 0, 0, 0), (1192, .if_icmp .eq 24, 1216, 0, 0, 0), (1195, .aload_n 1, 0, 0, 0, 0), (1196, .iconst 0, 0, 0, 0, 0), (1197, .iload 10, 0, 0, 0, 0), (1199, .iload 11, 0, 0, 0, 0), (1201, .invokevirtual 66, 60, 502, 1, 0), (1204, .aload_n 1, 0, 0, 0, 0), (1205, .iconst 0, 0, 0, 0, 0), (1206, .iconst 0, 0, 0, 0, 0), (1207, .iconst 0, 0, 0, 0, 0), (1208, .invokevirtual 66, 60, 502, 1, 0), (1211, .if_icmp .ge 5, 1216, 0, 0, 0), (1214, .iconst 0, 0, 0, 0, 0), (1215, .ireturn, 0, 0, 0, 0), (1216, .iinc 9 1, 0, 0, 0, 0), (1219, .goto (-94), 1125, 0, 0, 0), (1222, .iconst 0, 0, 0, 0, 0), (1223, .istore 9, 0, 0, 0, 0), (1225, .iconst 0, 0, 0, 0, 0), (1226, .istore 10, 0, 0, 0, 0), (1228, .iload 10, 0, 0, 0, 0), (1230, .iload_n 3, 0, 0, 0, 0), (1231, .if_icmp .ge 133, 1364, 0, 0, 0), (1234, .aload_n 1, 0, 0, 0, 0), (1235, .iconst 0, 0, 0, 0, 0), (1236, .iload 10, 0, 0, 0, 0), (1238, .invokevirtual 93, 72, 660, 1, 0), (1241, .istore 11, 0, 0, 0, 0), (1243, .iload 11, 0, 0, 0, 0), (1245, .ifCond .lt 33, 1278, 0, 0, 0), (1248, .iload 11, 0, 0, 0, 0), (1250, .iload_n 2, 0, 0, 0, 0), (1251, .if_icmp .ge 27, 1278, 0, 0, 0), (1254, .iload 10, 0, 0, 0, 0), (1256, .ifCond .le 24, 1280, 0, 0, 0), (1259, .iload 11, 0, 0, 0, 0), (1261, .aload_n 1, 0, 0, 0, 0), (1262, .iconst 0, 0, 0, 0, 0), (1263, .iload 10, 0, 0, 0, 0), (1265, .iconst 1, 0, 0, 0, 0), (1266, .isub, 0, 0, 0, 0), (1267, .invokevirtual 93, 72, 660, 1, 0), (1270, .isub, 0, 0, 0, 0), (1271, .invokestatic 75, 0, 704, 5, 0), (1274, .iconst 1, 0, 0, 0, 0), (1275, .if_icmp .le 5, 1280, 0, 0, 0), (1278, .iconst 0, 0, 0, 0, 0), (1279, .ireturn, 0, 0, 0, 0), (1280, .iload 9, 0, 0, 0, 0), (1282, .aload_n 1, 0, 0, 0, 0), (1283, .iconst 0, 0, 0, 0, 0), (1284, .iload_n 2, 0, 0, 0, 0), (1285, .iconst 1, 0, 0, 0, 0), (1286, .isub, 0, 0, 0, 0), (1287, .iload 11, 0, 0, 0, 0), (1289, .iconst 1, 0, 0, 0, 0), (1290, .iadd, 0, 0, 0, 0), (1291, .invokestatic 96, 0, 706, 4, 0), (1294, .iload 10, 0, 0, 0, 0), (1296, .invokevirtual 66, 60, 502, 1, 0), (1299, .aload_n 1, 0, 0, 0, 0), (1300, .iconst 0, 0, 0, 0, 0), (1301, .iconst 0, 0, 0, 0, 0), (1302, .iload 11, 0, 0, 0, 0), (1304, .iconst 1, 0, 0, 0, 0), (1305, .isub, 0, 0, 0, 0), (1306, .invokestatic 99, 0, 705, 3, 0), (1309, .iload 10, 0, 0, 0, 0), (1311, .invokevirtual 66, 60, 502, 1, 0), (1314, .isub, 0, 0, 0, 0), (1315, .invokestatic 75, 0, 704, 5, 0), (1318, .aload_n 1, 0, 0, 0, 0), (1319, .iconst 0, 0, 0, 0, 0), (1320, .iload 11, 0, 0, 0, 0), (1322, .iload_n 3, 0, 0, 0, 0), (1323, .iconst 1, 0, 0, 0, 0), (1324, .isub, 0, 0, 0, 0), (1325, .iload 10, 0, 0, 0, 0), (1327, .iconst 1, 0, 0, 0, 0), (1328, .iadd, 0, 0, 0, 0), (1329, .invokestatic 96, 0, 706, 4, 0), (1332, .invokevirtual 66, 60, 502, 1, 0), (1335, .aload_n 1, 0, 0, 0, 0), (1336, .iconst 0, 0, 0, 0, 0), (1337, .iload 11, 0, 0, 0, 0), (1339, .iconst 0, 0, 0, 0, 0), (1340, .iload 10, 0, 0, 0, 0), (1342, .iconst 1, 0, 0, 0, 0), (1343, .isub, 0, 0, 0, 0), (1344, .invokestatic 99, 0, 705, 3, 0), (1347, .invokevirtual 66, 60, 502, 1, 0), (1350, .isub, 0, 0, 0, 0), (1351, .invokestatic 75, 0, 704, 5, 0), (1354, .iadd, 0, 0, 0, 0), (1355, .iadd, 0, 0, 0, 0), (1356, .istore 9, 0, 0, 0, 0), (1358, .iinc 10 1, 0, 0, 0, 0), (1361, .goto (-133), 1228, 0, 0, 0), (1364, .iload_n 2, 0, 0, 0, 0), (1365, .iconst 1, 0, 0, 0, 0), (1366, .if_icmp .ne 29, 1395, 0, 0, 0), (1369, .aload_n 1, 0, 0, 0, 0), (1370, .iconst 0, 0, 0, 0, 0), (1371, .invokevirtual 102, 71, 652, 1, 0), (1374, .iload 9, 0, 0, 0, 0), (1376, .if_icmp .ne 17, 1393, 0, 0, 0), (1379, .aload_n 1, 0, 0, 0, 0), (1380, .iconst 0, 0, 0, 0, 0), (1381, .iconst 0, 0, 0, 0, 0), (1382, .invokevirtual 47, 61, 506, 1, 0), (1385, .iconst 2, 0, 0, 0, 0), (1386, .if_icmp .ne 7, 1393, 0, 0, 0), (1389, .iconst 1, 0, 0, 0, 0), (1390, .goto 4, 1394, 0, 0, 0), (1393, .iconst 0, 0, 0, 0, 0), (1394, .ireturn, 0, 0, 0, 0), (1395, .aload_n 1, 0, 0, 0, 0), (1396, .iconst 0, 0, 0, 0, 0), (1397, .iconst 1, 0, 0, 0, 0), (1398, .invokevirtual 105, 74, 668, 1, 0), (1401, .iload 9, 0, 0, 0, 0), (1403, .if_icmp .ne 29, 1432, 0, 0, 0), (1406, .aload_n 1, 0, 0, 0, 0), (1407, .iconst 0, 0, 0, 0, 0), (1408, .invokevirtual 108, 70, 622, 1, 0), (1411, .iload 9, 0, 0, 0, 0), (1413, .if_icmp .ne 19, 1432, 0, 0, 0), (1416, .aload_n 1, 0, 0, 0, 0), (1417, .iconst 0, 0, 0, 0, 0), (1418, .iconst 0, 0, 0, 0, 0), (1419, .invokevirtual 47, 61, 506, 1, 0), (1422, .iload_n 2, 0, 0, 0, 0), (1423, .iconst 1, 0, 0, 0, 0), (1424, .isub, 0, 0, 0, 0), (1425, .if_icmp .ne 7, 1432, 0, 0, 0), (1428, .iconst 1, 0, 0, 0, 0), (1429, .goto 4, 1433, 0, 0, 0), (1432, .iconst 0, 0, 0, 0, 0), (1433, .ireturn, 0, 0, 0, 0)]
def m_progs : List (List m_I) := [m_p_0, m_p_1, m_p_2, m_p_3, m_p_4, m_p_5, m_p_6, m_p_7, m_p_8, m_p_9, m_p_10, m_p_11, m_p_12, m_p_13, m_p_14, m_p_15, m_p_16, m_p_17, m_p_18, m_p_19, m_p_20, m_p_21, m_p_22, m_p_23, m_p_24, m_p_25, m_p_26, m_p_27, m_p_28, m_p_29, m_p_30, m_p_31, m_p_32, m_p_33, m_p_34, m_p_35, m_p_36, m_p_37, m_p_38, m_p_39, m_p_40, m_p_41, m_p_42, m_p_43, m_p_44, m_p_45, m_p_46, m_p_47, m_p_48, m_p_49, m_p_50, m_p_51, m_p_52, m_p_53, m_p_54, m_p_55, m_p_56, m_p_57, m_p_58, m_p_59, m_p_60, m_p_61, m_p_62, m_p_63, m_p_64, m_p_65, m_p_66, m_p_67, m_p_68, m_p_69, m_p_70, m_p_71, m_p_72, m_p_73, m_p_74, m_p_75, m_p_76, m_p_77, m_p_78, m_p_79, m_p_80, m_p_81, m_p_82, m_p_83, m_p_84, m_p_85, m_p_86, m_p_87, m_p_88, m_p_89, m_p_90, m_p_91, m_p_92, m_p_93, m_p_94, m_p_95, m_p_96, m_p_97, m_p_98, m_p_99, m_p_100, m_p_101, m_p_102]
def m_prog (M : Nat) : List m_I := m_progs.getD M []
/-- name, code, size of the locals, type of the answer, static, arguments (without the receiver), class of the receiver, frames, words -/
abbrev m_N : Type := MethodName × ByteArray × Nat × Option FieldType × Bool × Nat × Nat × Nat × Nat
def m_infs : List m_N := [(yX0_init, cX0_init, 2, none, false, 0, 0, 2, 40),
  (yX0_run, cX0_run, 4, none, false, 3, 0, 4, 94),
  (yX0_pass, cX0_pass, 6, none, false, 3, 0, 3, 69),
  (yX0_gatherNine, cX0_gatherNine, 5, none, false, 3, 0, 2, 45),
  (yX0_resultOfNine, cX0_resultOfNine, 2, (some .int), false, 1, 0, 2, 44),
  (yX0_weighted, cX0_weighted, 3, (some .int), false, 0, 0, 0, 0),
  (yX0_middle, cX0_middle, 4, (some .int), false, 0, 0, 0, 0),
  (yX0_edge, cX0_edge, 3, (some .int), false, 0, 0, 1, 21),
  (yX0_least, cX0_least, 4, (some .int), false, 1, 0, 1, 21),
  (yX0_greatest, cX0_greatest, 4, (some .int), false, 1, 0, 1, 21),
  (yX0_isInCross, cX0_isInCross, 1, (some .boolean), true, 1, 0, 0, 0),
  (yX1_init, cX1_init, 1, none, false, 0, 1, 1, 20),
  (yX1_find, cX1_find, 7, none, false, 4, 1, 3, 73),
  (yX1_markMembers, cX1_markMembers, 6, none, false, 3, 1, 0, 0),
  (yX1_gather, cX1_gather, 6, none, false, 3, 1, 2, 48),
  (yX1_join, cX1_join, 3, none, false, 2, 1, 0, 0),
  (yX1_joinNeighbours, cX1_joinNeighbours, 7, none, false, 3, 1, 1, 22),
  (yX1_numberAt, cX1_numberAt, 3, (some .int), false, 2, 1, 0, 0),
  (yX1_awayFromEdges, cX1_awayFromEdges, 3, (some .int), false, 0, 1, 0, 0),
  (yX1_factOf, cX1_factOf, 3, (some .int), false, 2, 1, 3, 68),
  (yX1_bound, cX1_bound, 8, (some .int), false, 2, 1, 1, 22),
  (yX1_bareSides, cX1_bareSides, 5, (some .int), false, 1, 1, 2, 44),
  (yX1_bareSide, cX1_bareSide, 3, (some .int), false, 2, 1, 1, 22),
  (yX2_init, cX2_init, 1, none, false, 0, 2, 2, 40),
  (yX2_find, cX2_find, 4, none, false, 1, 2, 3, 70),
  (yX2_leastAbove, cX2_leastAbove, 4, (some .int), false, 3, 2, 2, 47),
  (yX2_costOf, cX2_costOf, 3, (some .int), true, 3, 2, 2, 45),
  (yX2_bestColumn, cX2_bestColumn, 7, (some .int), false, 4, 2, 1, 21),
  (yX2_takeOut, cX2_takeOut, 4, none, false, 1, 2, 2, 61),
  (yX2_putIn, cX2_putIn, 5, none, false, 1, 2, 2, 61),
  (yX3_init, cX3_init, 1, none, false, 0, 3, 1, 20),
  (yX3_size, cX3_size, 1, (some .int), false, 0, 3, 0, 0),
  (yX3_measure, cX3_measure, 3, none, false, 2, 3, 0, 0),
  (yX3_near, cX3_near, 5, (some .int), false, 2, 3, 1, 21),
  (yX3_put, cX3_put, 4, none, false, 3, 3, 1, 21),
  (yX3_total, cX3_total, 3, (some .int), false, 0, 3, 1, 20),
  (yX3_isAsLargeAs, cX3_isAsLargeAs, 2, (some .boolean), false, 1, 3, 0, 0),
  (yX3_differing, cX3_differing, 4, (some .int), false, 1, 3, 1, 20),
  (yX3_become, cX3_become, 2, none, false, 1, 3, 1, 40),
  (yX4_init, cX4_init, 1, none, false, 0, 4, 1, 20),
  (yX4_read, cX4_read, 3, none, false, 1, 4, 1, 20),
  (yX4_planned, cX4_planned, 2, (some .int), false, 1, 4, 0, 0),
  (yX4_plan, cX4_plan, 2, none, false, 1, 4, 3, 66),
  (yX4_planNegative, cX4_planNegative, 2, none, false, 0, 4, 0, 0),
  (yX4_planStretch, cX4_planStretch, 4, none, false, 0, 4, 2, 43),
  (yX4_planEven, cX4_planEven, 3, none, false, 0, 4, 0, 0),
  (yX4_planCut, cX4_planCut, 3, none, false, 0, 4, 1, 36),
  (yX4_least, cX4_least, 1, (some .int), false, 0, 4, 1, 23),
  (yX4_greatest, cX4_greatest, 1, (some .int), false, 0, 4, 1, 23),
  (yX4_inOrder, cX4_inOrder, 4, (some .int), false, 1, 4, 0, 0),
  (yX4_cut, cX4_cut, 17, (some .int), false, 0, 4, 0, 0),
  (yX5_init, cX5_init, 2, none, false, 0, 5, 3, 61),
  (yX5_fresh, cX5_fresh, 7, (some .int), false, 4, 5, 2, 42),
  (yX5_dot, cX5_dot, 7, (some .int), false, 4, 5, 2, 45),
  (yX5_disc, cX5_disc, 11, (some .int), false, 5, 5, 3, 83),
  (yX5_shade, cX5_shade, 9, (some .int), false, 4, 5, 2, 45),
  (yX5_copy, cX5_copy, 6, (some .int), false, 2, 5, 2, 61),
  (yX5_turn, cX5_turn, 8, (some .int), false, 2, 5, 3, 68),
  (yX5_filter, cX5_filter, 4, (some .int), false, 2, 5, 5, 117),
  (yX5_values, cX5_values, 5, (some .int), false, 2, 5, 4, 87),
  (yX5_value, cX5_value, 5, (some .int), false, 3, 5, 2, 45),
  (yX5_sheet, cX5_sheet, 4, (some .int), false, 2, 5, 3, 65),
  (yX5_count, cX5_count, 7, (some .int), false, 3, 5, 1, 22),
  (yX5_ordered, cX5_ordered, 4, (some .int), false, 2, 5, 2, 42),
  (yX5_difference, cX5_difference, 7, (some .double), false, 2, 5, 1, 21),
  (yX5_parts, cX5_parts, 4, (some .int), false, 2, 5, 5, 122),
  (yX5_holes, cX5_holes, 4, (some .int), false, 2, 5, 5, 122),
  (yX5_partOf, cX5_partOf, 6, (some .int), false, 4, 5, 4, 99),
  (yX5_part, cX5_part, 6, (some .int), false, 4, 5, 4, 99),
  (yX5_far, cX5_far, 6, (some .int), false, 4, 5, 4, 96),
  (yX5_carve, cX5_carve, 3, (some .int), false, 1, 5, 4, 93),
  (yX5_widen, cX5_widen, 3, (some .int), false, 1, 5, 4, 93),
  (yX5_seam, cX5_seam, 4, (some .int), false, 2, 5, 4, 93),
  (yX5_partsAt, cX5_partsAt, 5, (some .int), false, 3, 5, 5, 122),
  (yX5_carvedBy, cX5_carvedBy, 4, (some .int), false, 2, 5, 5, 117),
  (yX5_digest, cX5_digest, 5, (some .long), false, 0, 5, 6, 148),
  (yX5_sheetAt, cX5_sheetAt, 2, (some (.object "ParallaxSheets$Sheet")), false, 1, 5, 0, 0),
  (yX5_needField, cX5_needField, 3, none, true, 3, 5, 1, 22),
  (yX5_needPlace, cX5_needPlace, 1, none, true, 1, 5, 0, 0),
  (yX5_refuseUnless, cX5_refuseUnless, 1, none, true, 1, 5, 0, 0),
  (yX5_needState, cX5_needState, 1, none, true, 1, 5, 0, 0),
  (yX5_isFrom, cX5_isFrom, 3, (some .boolean), true, 3, 5, 0, 0),
  (yX5_isValue, cX5_isValue, 1, (some .boolean), true, 1, 5, 1, 22),
  (yX5_isSlope, cX5_isSlope, 1, (some .boolean), true, 1, 5, 1, 22),
  (yX5_isWays, cX5_isWays, 1, (some .boolean), true, 1, 5, 0, 0),
  (yX5_changeToNext, cX5_changeToNext, 3, (some .int), false, 1, 5, 2, 61),
  (yX5_turnedSide, cX5_turnedSide, 3, (some .int), true, 3, 5, 1, 21),
  (yX5_turnedValue, cX5_turnedValue, 4, (some .int), true, 4, 5, 2, 45),
  (yX5_factOf, cX5_factOf, 3, (some .int), false, 2, 5, 2, 43),
  (yX5_partsFrom, cX5_partsFrom, 4, (some .int), false, 3, 5, 4, 99),
  (yX5_holesOf, cX5_holesOf, 4, (some .int), false, 2, 5, 4, 99),
  (yX5_farOf, cX5_farOf, 5, (some .int), true, 4, 5, 3, 72),
  (yX5_farWithin, cX5_farWithin, 8, (some .int), true, 4, 5, 2, 45),
  (yX5_farToOutside, cX5_farToOutside, 6, (some .int), true, 4, 5, 2, 43),
  (yX5_distance, cX5_distance, 3, (some .int), true, 3, 5, 1, 21),
  (yX5_costOfCarving, cX5_costOfCarving, 5, (some .int), false, 2, 5, 4, 93),
  (yX5_digestWith, cX5_digestWith, 3, (some .long), true, 2, 5, 0, 0),
  (yX5_digestFacts, cX5_digestFacts, 7, (some .long), false, 2, 5, 5, 122),
  (yX5_digestSeams, cX5_digestSeams, 7, (some .long), false, 2, 5, 5, 117),
  (yX5_digestFields, cX5_digestFields, 6, (some .long), true, 2, 5, 4, 96),
  (yL_below, cL_below, 2, (some .int), true, 2, 99, 0, 0),
  (yL_cell, cL_cell, 2, (some .int), true, 2, 99, 0, 0),
  (yL_law, cL_law, 13, (some .boolean), true, 1, 99, 7, 172)]
def m_inf (M : Nat) : m_N := m_infs.getD M (yL_law, cL_law, 0, none, true, 0, 99, 0, 0)
def m_mpls : List (Nat × Nat × Nat × Nat) := [(86, 33, 85, 0), (408, 33, 406, 407), (412, 33, 411, 3), (417, 33, 416, 4), (422, 33, 421, 5), (426, 33, 425, 6), (430, 33, 429, 7), (434, 33, 433, 8), (441, 33, 440, 9), (449, 33, 448, 10), (444, 33, 443, 0), (126, 35, 125, 0), (545, 35, 543, 544), (549, 35, 548, 17), (557, 35, 556, 18), (561, 35, 560, 19), (565, 35, 564, 20), (553, 35, 551, 552), (577, 35, 575, 576), (590, 35, 588, 589), (602, 35, 601, 24), (594, 35, 593, 22), (598, 35, 597, 23), (159, 36, 158, 0), (629, 36, 627, 628), (638, 36, 637, 25), (632, 36, 631, 0), (642, 36, 641, 26), (648, 36, 646, 647), (659, 36, 657, 658), (58, 32, 57, 0), (305, 32, 303, 304), (301, 32, 299, 300), (320, 32, 318, 319), (330, 32, 328, 329), (362, 32, 360, 361), (370, 32, 368, 369), (351, 32, 349, 350), (338, 32, 336, 337), (110, 34, 109, 0), (459, 34, 457, 458), (501, 34, 499, 500), (464, 34, 462, 463), (468, 34, 467, 11), (472, 34, 471, 12), (488, 34, 487, 13), (492, 34, 491, 14), (476, 34, 474, 475), (484, 34, 482, 483), (480, 34, 478, 479), (496, 34, 494, 495), (49, 31, 48, 0), (200, 31, 198, 199), (309, 31, 307, 308), (334, 31, 332, 333), (355, 31, 353, 354), (366, 31, 364, 365), (374, 31, 372, 373), (404, 31, 402, 403), (455, 31, 453, 454), (505, 31, 503, 504), (509, 31, 507, 508), (520, 31, 518, 519), (524, 31, 522, 523), (529, 31, 527, 528), (534, 31, 532, 533), (569, 31, 567, 568), (581, 31, 579, 580), (586, 31, 584, 585), (608, 31, 606, 607), (625, 31, 623, 624), (655, 31, 653, 654), (663, 31, 661, 662), (667, 31, 665, 666), (671, 31, 669, 670), (679, 31, 677, 678), (204, 31, 203, 0), (312, 31, 311, 0), (315, 31, 314, 0), (281, 31, 280, 0), (381, 31, 380, 0), (275, 31, 274, 0), (278, 31, 277, 0), (358, 31, 357, 0), (537, 31, 536, 0), (347, 31, 346, 2), (377, 31, 376, 0), (400, 31, 399, 0), (513, 31, 512, 15), (541, 31, 540, 16), (573, 31, 572, 21), (611, 31, 610, 0), (614, 31, 613, 0), (621, 31, 620, 0), (617, 31, 616, 0), (675, 31, 674, 27), (687, 31, 686, 0), (684, 31, 683, 28), (692, 31, 691, 29), (695, 31, 694, 0), (698, 30, 697, 0), (702, 30, 701, 0), (0, 30, 0, 0)]
def m_cl : List vw_C := [(RX0, TX0, 5), (RX1, TX1, 8), (RX2, TX2, 4), (RX3, TX3, 3), (RX4, TX4, 3), (RX5, TX5, 6)]
def m_fty (ci k : Nat) : FieldType := match ci with
  | 0 => tyX0 k
  | 1 => tyX1 k
  | 2 => tyX2 k
  | 3 => tyX3 k
  | 4 => tyX4 k
  | _ => tyX5 k
def m_cpl : List (Nat × Nat × List Nat) := [(83, 33, [95, 97, 99, 101, 103]), (123, 35, [137, 139, 141, 143, 145, 147, 149, 151]), (156, 36, [169, 171, 173, 175]), (55, 32, [74, 76, 78]), (107, 34, [115, 117, 119]), (46, 31, [184, 186, 188, 190, 192, 194])]
def m_nest : List Cond := [.methodLinkNest "ParallaxSheets" 15 ⟨"ParallaxSheets$Sheet", "<init>", "()V"⟩ "ParallaxSheets", .methodLinkNest "ParallaxSheets$Filters" 27 ⟨"ParallaxSheets$Sheet", "<init>", "()V"⟩ "ParallaxSheets", .methodLinkNest "ParallaxSheets" 29 ⟨"ParallaxSheets$Tones", "<init>", "()V"⟩ "ParallaxSheets", .methodLinkNest "ParallaxSheets" 36 ⟨"ParallaxSheets$Parts", "<init>", "()V"⟩ "ParallaxSheets", .methodLinkNest "ParallaxSheets" 43 ⟨"ParallaxSheets$Seams", "<init>", "()V"⟩ "ParallaxSheets", .methodLinkNest "ParallaxSheets$Seams" 24 ⟨"ParallaxSheets$Sheet", "<init>", "()V"⟩ "ParallaxSheets"]
def m_mathpl : List (Nat × Nat) := [(325, 326), (322, 323), (436, 437), (342, 343)]
def m_miscpl : Nat × Nat × Nat × Nat := (42, 43, 51, 52)
end
section
/-! the machine over worlds: a run of the program's data over abstract cells; below, that the real machine does the same -/
def m_gw : List Cond := lw_tbl.filter goodWord
def m_wp (i : Nat) (w : Cond) : Bool := decide (lw_tbl[i]? = some w) && goodWord w
theorem m_wp_in {i : Nat} {w : Cond} (h : m_wp i w = true) : w ∈ m_gw := by
  simp only [m_wp, Bool.and_eq_true, decide_eq_true_eq] at h
  exact List.mem_filter.mpr ⟨List.mem_of_getElem? h.1, h.2⟩
def m_nm (M : Nat) : MethodName := (m_inf M).1
def m_by (M : Nat) : ByteArray := (m_inf M).2.1
def m_nL (M : Nat) : Nat := (m_inf M).2.2.1
def m_rt (M : Nat) : Option FieldType := (m_inf M).2.2.2.1
def m_stc (M : Nat) : Bool := (m_inf M).2.2.2.2.1
def m_na (M : Nat) : Nat := (m_inf M).2.2.2.2.2.1
def m_rc (M : Nat) : Nat := (m_inf M).2.2.2.2.2.2.1
def m_fr (M : Nat) : Nat := (m_inf M).2.2.2.2.2.2.2.1
def m_lo (M : Nat) : Nat := (m_inf M).2.2.2.2.2.2.2.2
def m_code (M pc : Nat) : Option (Instr × Nat × Nat × Nat × Int) := ((m_prog M).find? (fun q => q.1 == pc)).map (fun q => q.2)
def m_ty : Nat → FieldType
  | 0 => .int
  | 1 => .boolean
  | _ => .object "ParallaxSheets$Sheet"
def m_len (i : Instr) (z : Int) : Nat := match i with
  | .bipush _ => 2
  | .ldc _ => 2
  | .iload _ => 2
  | .istore _ => 2
  | .lload _ => 2
  | .lstore _ => 2
  | .aload _ => 2
  | .astore _ => 2
  | .newarray _ => 2
  | .sipush _ => 3
  | .getfield _ => 3
  | .putfield _ => 3
  | .invokevirtual _ => 3
  | .invokespecial _ => 3
  | .invokestatic _ => 3
  | .new _ => 3
  | .anewarray _ => 3
  | .goto _ => 3
  | .ifCond _ _ => 3
  | .if_icmp _ _ => 3
  | .iinc _ _ => 3
  | .ldc2_w _ => 3
  | .tableswitch _ _ _ _ => z.toNat
  | .lookupswitch _ _ => z.toNat
  | _ => 1
/-- what a callee's words must be, by their places -/
def m_okM (x : Nat) : Bool :=
  let nm := m_nm x
  let pl := m_mpls.getD x (0, 0, 0, 0)
  m_wp pl.1 (.code nm (m_by x) (m_nL x) (m_rt x)) && m_wp pl.2.1 (.initialized nm.cls) &&
    (if m_stc x = true then m_wp pl.2.2.1 (.static nm) else
      m_wp pl.2.2.1 (.instanceMethod nm) && decide ((m_cl[m_rc x]?).map (fun r => r.1) = some nm.cls) && (decide (nm.name = "<init>") || m_wp pl.2.2.2 (.selects nm.cls nm nm))) &&
    decide (nm.cls ≠ "java/lang/invoke/MethodHandle") && decide (nm.cls ≠ "java/lang/invoke/VarHandle") && decide ((parseMethodDescriptor nm.desc).map (fun d => d.parameters.length) = some (m_na x)) && plainName nm.cls
def m_okC (M : Nat) (k x y w : Nat) : Bool :=
  (if w = 1 then m_wp y (.methodLink (m_nm M).cls k (m_nm x)) else decide (w = 2) && m_nest.any (fun u => decide (u = .methodLinkNest (m_nm M).cls k (m_nm x) "ParallaxSheets"))) && decide (m_fr x + 1 ≤ m_fr M) && decide (8 + (m_nL x + 11) + m_lo x ≤ m_lo M) && decide (x < 102)
def m_okF (M k x y z : Nat) : Bool := match m_cl[x]? with
  | some r => decide (y < r.2.2) && m_wp z (.fieldLink (m_nm M).cls k (r.2.1 y).1 (r.2.1 y).2.1 (r.2.1 y).2.2.1)
  | none => false
def m_okP (M x y : Nat) : Bool := match m_cl[x]? with
  | some r => decide ((r.2.1 y).2.2.2 = false) || (decide ((r.2.1 y).2.2.2 = true) && decide ((m_nm M).name = "<init>") && decide ((r.2.1 y).1 = (m_nm M).cls))
  | none => false
def m_okN (M k x y : Nat) : Bool := match m_cl[x]?, m_cpl[x]? with
  | some r, some pl => m_wp y (.classLink (m_nm M).cls k r.1) && m_wp pl.1 (.instantiable r.1 r.2.2) && m_wp pl.2.1 (.initialized r.1)
  | _, _ => false
/-- what an instruction's row must be -/
def m_okE (M : Nat) (q : m_I) : Bool := match q with
  | (pc, i, x, y, w, z) => decide (decode (m_by M) pc = .ok (i, m_len i z)) && (match i with
    | .getfield k => m_okF M k x y z.toNat
    | .putfield k => m_okF M k x y z.toNat && m_okP M x y
    | .ifCond _ off => decide ((pc : Int) + off = (x : Int))
    | .if_icmp _ off => decide ((pc : Int) + off = (x : Int))
    | .goto off => decide ((pc : Int) + off = (x : Int))
    | .lookupswitch _ ps => (ps.toList.zip (ps.toList.drop 1)).all (fun (a, next) => a.1 < next.1)
    | .new k => m_okN M k x y
    | .newarray t => decide (x < 2) && decide (newarray.typeOf t = m_ty x) && m_wp y (.arrayClass (m_ty x))
    | .anewarray k => decide (x = 2) && m_wp y (.classLink (m_nm M).cls k "ParallaxSheets$Sheet")
    | .ldc k => m_wp y (.constant (m_nm M).cls k (Int32.ofInt z))
    | .ldc2_w k => m_wp y (.constantLong (m_nm M).cls k (Int64.ofInt z))
    | .invokevirtual k => decide (w = 1) && m_okC M k x y w && decide (m_stc x = false) && decide ((m_nm x).name ≠ "<init>")
    | .invokestatic k => if w = 3 then m_wp y (.methodLink (m_nm M).cls k Lib.Math.max.name) && decide (1 ≤ m_fr M) && decide (21 ≤ m_lo M)
        else if w = 4 then m_wp y (.methodLink (m_nm M).cls k Lib.Math.min.name) && decide (1 ≤ m_fr M) && decide (21 ≤ m_lo M)
        else if w = 5 then m_wp y (.methodLink (m_nm M).cls k Lib.Math.abs.name) && decide (1 ≤ m_fr M) && decide (21 ≤ m_lo M)
        else if w = 6 then m_wp y (.methodLink (m_nm M).cls k arraycopyName) && decide (1 ≤ m_fr M) && decide (8 + (nativeFrameWords "java/lang/System" "arraycopy" 5 + 11) ≤ m_lo M)
        else decide (w = 1) && m_okC M k x y w && decide (m_stc x = true)
    | .invokespecial k => if w = 7 then m_wp y (.methodLink (m_nm M).cls k Lib.objectInit) && decide (1 ≤ m_fr M) && decide (20 ≤ m_lo M)
        else m_okC M k x y w && decide (m_stc x = false) && decide ((m_nm x).name = "<init>") && decide (m_rt x = none)
    | _ => true)
/-! abstract cells: an array of a kind with its contents, or an object of a class with its fields; a reference k + 1 is the cell k, the reference 0 is the script -/
abbrev mC : Type := (Nat × List Value) ⊕ (Nat × List Value)
abbrev mL : Type := List (Nat × Value)
abbrev mS : Type := Nat × mL × List Value × List mC
def m_get (H : List mC) (r : Nat) : Option mC := match r with
  | 0 => none
  | k + 1 => H[k]?
def m_set (H : List mC) (r : Nat) (c : mC) : List mC := match r with
  | 0 => H
  | k + 1 => H.set k c
def m_ld (L : mL) (i : Nat) : Option Value := (L.find? (fun q => q.1 == i)).map (fun q => q.2)
def m_st1 (i : Nat) (v : Value) (L : mL) : mL := (i, v) :: L.filter (fun q => !(q.1 == i) && !(q.1 + 1 == i && q.2.category == 2))
def m_st2 (i : Nat) (v : Value) (L : mL) : mL := (i, v) :: L.filter (fun q => !(q.1 == i) && (!(q.1 == i + 1) && !(q.1 + 1 == i && q.2.category == 2)))
def m_isI : Value → Bool
  | .int _ => true
  | _ => false
def m_isL : Value → Bool
  | .long _ => true
  | _ => false
def m_isA : Value → Bool
  | .ref _ => true
  | _ => false
def m_lv (f : Value → Bool) (i pc' : Nat) (L : mL) (S : List Value) (H : List mC) : Option mS := match m_ld L i with
  | some v => if f v = true then some (pc', L, v :: S, H) else none
  | none => none
def m_sv1 (f : Value → Bool) (i nL pc' : Nat) (L : mL) (S : List Value) (H : List mC) : Option mS := match S with
  | v :: S' => if f v = true ∧ i < nL then some (pc', m_st1 i v L, S', H) else none
  | [] => none
def m_sv2 (f : Value → Bool) (i nL pc' : Nat) (L : mL) (S : List Value) (H : List mC) : Option mS := match S with
  | v :: S' => if f v = true ∧ i + 1 < nL then some (pc', m_st2 i v L, S', H) else none
  | [] => none
def m_b2 (f : Int32 → Int32 → Int32) (pc : Nat) (L : mL) (S : List Value) (H : List mC) : Option mS := match S with
  | .int b :: .int a :: S' => some (pc + 1, L, .int (f a b) :: S', H)
  | _ => none
def m_d2 (f : Int32 → Int32 → Int32) (pc : Nat) (L : mL) (S : List Value) (H : List mC) : Option mS := match S with
  | .int b :: .int a :: S' => if b = 0 then none else some (pc + 1, L, .int (f a b) :: S', H)
  | _ => none
def m_l2 (f : Int64 → Int64 → Int64) (pc : Nat) (L : mL) (S : List Value) (H : List mC) : Option mS := match S with
  | .long b :: .long a :: S' => some (pc + 1, L, .long (f a b) :: S', H)
  | _ => none
def m_cmp (c : ClassFile.Cond) (a b : Int32) : Bool := match c with
  | .eq => decide (a = b)
  | .ne => decide (¬ a = b)
  | .lt => decide (a < b)
  | .ge => decide (b ≤ a)
  | .gt => decide (b < a)
  | .le => decide (a ≤ b)
def m_fit (ty : FieldType) (v : Value) : Bool := match ty, v with
  | .int, .int _ => true
  | .object _, .ref _ => true
  | .array _, .ref _ => true
  | _, _ => false
def m_gf (H : List mC) (r x y : Nat) : Option Value := match m_get H r with
  | some (.inr (ci, fs)) => if ci = x then fs[y]? else none
  | _ => none
def m_pf (H : List mC) (r x y : Nat) (v : Value) : Option (List mC) := match m_get H r with
  | some (.inr (ci, fs)) => if ci = x ∧ y < fs.length ∧ m_fit (m_fty x y) v = true then some (m_set H r (.inr (ci, fs.set y v))) else none
  | _ => none
def m_ra (H : List mC) (r t : Nat) (i : Int32) : Option Value := match m_get H r with
  | some (.inl (u, vs)) => if u = t ∧ 0 ≤ i then vs[i.toNatClampNeg]? else none
  | _ => none
def m_wa (H : List mC) (r t : Nat) (i : Int32) (v : Value) : Option (List mC) := match m_get H r with
  | some (.inl (u, vs)) => if u = t ∧ 0 ≤ i ∧ i.toNatClampNeg < vs.length then some (m_set H r (.inl (u, vs.set i.toNatClampNeg v))) else none
  | _ => none
def m_jmp (pc : Nat) (off : Int) (L : mL) (S : List Value) (H : List mC) : Option mS := if 0 ≤ (pc : Int) + off then some (((pc : Int) + off).toNat, L, S, H) else none
def m_cat (S : List Value) : Nat := (S.map fun v => v.category).sum
def m_cpy (f g : List Value) (sp dp n : Nat) : List Value := (List.range g.length).map (fun k => if dp ≤ k ∧ k < dp + n then f.getD (sp + (k - dp)) .null else g.getD k .null)
def m_ints (vs : List Value) : Bool := vs.all m_isI
def m_cp (H : List mC) (r0 r : Nat) (sp dp n : Int32) : Option (List mC) := match m_get H r0, m_get H r with
  | some (.inl (u0, f)), some (.inl (u1, g)) => if u0 = 0 ∧ u1 = 0 ∧ 0 ≤ sp ∧ 0 ≤ dp ∧ 0 ≤ n ∧ sp.toNatClampNeg + n.toNatClampNeg ≤ f.length ∧ dp.toNatClampNeg + n.toNatClampNeg ≤ g.length then
      some (m_set H r (.inl (0, m_cpy f g sp.toNatClampNeg dp.toNatClampNeg n.toNatClampNeg))) else none
  | _, _ => none
def m_math (w pc : Nat) (L : mL) (S : List Value) (H : List mC) : Option mS :=
  if w = 3 then (match S with
    | .int b :: .int a :: S' => if m_cat S' ≤ 8 then some (pc + 3, L, .int (if a < b then b else a) :: S', H) else none
    | _ => none)
  else if w = 4 then (match S with
    | .int b :: .int a :: S' => if m_cat S' ≤ 8 then some (pc + 3, L, .int (if b < a then b else a) :: S', H) else none
    | _ => none)
  else if w = 5 then (match S with
    | .int a :: S' => if m_cat S' ≤ 8 then some (pc + 3, L, .int (if 0 ≤ a then a else 0 - a) :: S', H) else none
    | _ => none)
  else if w = 6 then (match S with
    | .int n :: .int dp :: .ref r :: .int sp :: .ref r0 :: S' => if m_cat S' ≤ 8 then (m_cp H r0 r sp dp n).map (fun H1 => (pc + 3, L, S', H1)) else none
    | _ => none)
  else none
/-- one instruction that is no call and no return -/
def m_ex (scr : List Int32) (M pc : Nat) (i : Instr) (x y w : Nat) (z : Int) (L : mL) (S : List Value) (H : List mC) : Option mS := match i with
  | .iconst n => some (pc + 1, L, .int (Int32.ofInt n) :: S, H)
  | .bipush n => some (pc + 2, L, .int (Int8.ofInt n).toInt32 :: S, H)
  | .sipush n => some (pc + 3, L, .int (Int16.ofInt n).toInt32 :: S, H)
  | .lconst n => some (pc + 1, L, .long (Int64.ofNat (n : Nat)) :: S, H)
  | .dconst d => if d = 0 then some (pc + 1, L, .double FP.dconst0 :: S, H) else none
  | .ldc _ => some (pc + 2, L, .int (Int32.ofInt z) :: S, H)
  | .ldc2_w _ => some (pc + 3, L, .long (Int64.ofInt z) :: S, H)
  | .iload_n k => m_lv m_isI k (pc + 1) L S H
  | .iload k => m_lv m_isI k (pc + 2) L S H
  | .lload_n k => m_lv m_isL k (pc + 1) L S H
  | .lload k => m_lv m_isL k (pc + 2) L S H
  | .aload_n k => m_lv m_isA k (pc + 1) L S H
  | .aload k => m_lv m_isA k (pc + 2) L S H
  | .istore_n k => m_sv1 m_isI k (m_nL M) (pc + 1) L S H
  | .istore k => m_sv1 m_isI k (m_nL M) (pc + 2) L S H
  | .astore_n k => m_sv1 m_isA k (m_nL M) (pc + 1) L S H
  | .astore k => m_sv1 m_isA k (m_nL M) (pc + 2) L S H
  | .lstore_n k => m_sv2 m_isL k (m_nL M) (pc + 1) L S H
  | .lstore k => m_sv2 m_isL k (m_nL M) (pc + 2) L S H
  | .iinc k n => (match m_ld L k with
    | some (.int v) => if k < m_nL M then some (pc + 3, m_st1 k (.int (v + Int32.ofInt n)) L, S, H) else none
    | _ => none)
  | .iadd => m_b2 (fun a b => a + b) pc L S H
  | .isub => m_b2 (fun a b => a - b) pc L S H
  | .imul => m_b2 (fun a b => a * b) pc L S H
  | .iand => m_b2 (fun a b => a &&& b) pc L S H
  | .ishr => m_b2 (fun a b => a >>> (b &&& 31)) pc L S H
  | .idiv => m_d2 (fun a b => a / b) pc L S H
  | .irem => m_d2 (fun a b => a - a / b * b) pc L S H
  | .ladd => m_l2 (fun a b => a + b) pc L S H
  | .lsub => m_l2 (fun a b => a - b) pc L S H
  | .lmul => m_l2 (fun a b => a * b) pc L S H
  | .ldiv => (match S with
    | .long b :: .long a :: S' => if b = 0 then none else some (pc + 1, L, .long (a / b) :: S', H)
    | _ => none)
  | .lcmp => (match S with
    | .long b :: .long a :: S' => some (pc + 1, L, .int (lg_cmp a b) :: S', H)
    | _ => none)
  | .i2l => (match S with
    | .int a :: S' => some (pc + 1, L, .long a.toInt64 :: S', H)
    | _ => none)
  | .i2d => (match S with
    | .int a :: S' => some (pc + 1, L, .double (FP.i2d a) :: S', H)
    | _ => none)
  | .ddiv => (match S with
    | .double b :: .double a :: S' => if FP.ddiv a b &&& 0x7fffffffffffffff ≤ 0x7ff0000000000000 then some (pc + 1, L, .double (FP.ddiv a b) :: S', H) else none
    | _ => none)
  | .dcmp op => (match S with
    | .double b :: .double a :: S' => some (pc + 1, L, .int (Op.cmpValue (FP.dcmp a b) op) :: S', H)
    | _ => none)
  | .dup => (match S with
    | v :: S' => if v.category = 1 then some (pc + 1, L, v :: v :: S', H) else none
    | _ => none)
  | .dup2 => (match S with
    | v :: u :: S' => if v.category = 1 ∧ u.category = 1 then some (pc + 1, L, v :: u :: v :: u :: S', H) else none
    | _ => none)
  | .pop => (match S with
    | v :: S' => if v.category = 1 then some (pc + 1, L, S', H) else none
    | _ => none)
  | .goto _ => some (x, L, S, H)
  | .ifCond c _ => (match S with
    | .int a :: S' => some (if m_cmp c a 0 = true then x else pc + 3, L, S', H)
    | _ => none)
  | .if_icmp c _ => (match S with
    | .int b :: .int a :: S' => some (if m_cmp c a b = true then x else pc + 3, L, S', H)
    | _ => none)
  | .tableswitch d lo hi offs => (match S with
    | .int a :: S' => if a.toInt < lo ∨ hi < a.toInt then m_jmp pc d L S' H else (match offs[(a.toInt - lo).toNat]? with
      | some off => m_jmp pc off L S' H
      | none => none)
    | _ => none)
  | .lookupswitch d ps => (match S with
    | .int a :: S' => m_jmp pc (Op.lookupswitch.offset ps.toList d a.toInt) L S' H
    | _ => none)
  | .getfield _ => (match S with
    | .ref r :: S' => (m_gf H r x y).map (fun v => (pc + 3, L, v :: S', H))
    | _ => none)
  | .putfield _ => (match S with
    | v :: .ref r :: S' => (m_pf H r x y v).map (fun H1 => (pc + 3, L, S', H1))
    | _ => none)
  | .iaload => (match S with
    | .int j :: .ref 0 :: S' => if 0 ≤ j then (scr[j.toNatClampNeg]?).map (fun v => (pc + 1, L, .int v :: S', H)) else none
    | .int j :: .ref r :: S' => (match m_ra H r 0 j with
      | some (.int v) => some (pc + 1, L, .int v :: S', H)
      | _ => none)
    | _ => none)
  | .baload => (match S with
    | .int j :: .ref r :: S' => (match m_ra H r 1 j with
      | some (.int v) => some (pc + 1, L, .int v :: S', H)
      | _ => none)
    | _ => none)
  | .aaload => (match S with
    | .int j :: .ref r :: S' => (match m_ra H r 2 j with
      | some (.ref v) => some (pc + 1, L, .ref v :: S', H)
      | _ => none)
    | _ => none)
  | .iastore => (match S with
    | .int v :: .int j :: .ref r :: S' => (m_wa H r 0 j (.int v)).map (fun H1 => (pc + 1, L, S', H1))
    | _ => none)
  | .bastore => (match S with
    | .int v :: .int j :: .ref r :: S' => (m_wa H r 1 j (.int (vp_nar .boolean v))).map (fun H1 => (pc + 1, L, S', H1))
    | _ => none)
  | .aastore => (match S with
    | .ref v :: .int j :: .ref r :: S' => (match m_get H v with
      | some (.inr (3, _)) => (m_wa H r 2 j (.ref v)).map (fun H1 => (pc + 1, L, S', H1))
      | _ => none)
    | _ => none)
  | .arraylength => (match S with
    | .ref 0 :: S' => some (pc + 1, L, .int (Int32.ofNat scr.length) :: S', H)
    | .ref r :: S' => (match m_get H r with
      | some (.inl (t, vs)) => if t < 3 then some (pc + 1, L, .int (Int32.ofNat vs.length) :: S', H) else none
      | _ => none)
    | _ => none)
  | .new _ => (match m_cl[x]? with
    | some r => some (pc + 3, L, .ref (H.length + 1) :: S, H ++ [.inr (x, (List.range r.2.2).map (fun k => defaultValue (m_fty x k)))])
    | none => none)
  | .newarray _ => (match S with
    | .int n :: S' => if 0 ≤ n ∧ n.toNatClampNeg ≤ 1000 then some (pc + 2, L, .ref (H.length + 1) :: S', H ++ [.inl (x, List.replicate n.toNatClampNeg (.int 0))]) else none
    | _ => none)
  | .anewarray _ => (match S with
    | .int n :: S' => if 0 ≤ n ∧ n.toNatClampNeg ≤ 1000 then some (pc + 3, L, .ref (H.length + 1) :: S', H ++ [.inl (2, List.replicate n.toNatClampNeg .null)]) else none
    | _ => none)
  | .invokestatic _ => m_math w pc L S H
  | .invokespecial _ => if w = 7 then (match S with
    | .ref r :: S' => if m_cat S' ≤ 8 then some (pc + 3, L, S', H) else none
    | _ => none) else none
  | _ => none
def m_rts (i : Instr) (S : List Value) : Option (Option Value) := match i, S with
  | .ireturn, [.int v] => some (some (.int v))
  | .lreturn, [.long v] => some (some (.long v))
  | .dreturn, [.double v] => some (some (.double v))
  | .areturn, [.ref v] => some (some (.ref v))
  | .return_, [] => some none
  | _, _ => none
def m_rok (t : Option FieldType) (v : Option Value) : Bool := match t, v with
  | some .int, some (.int _) => true
  | some .boolean, some (.int v) => decide (narrow .boolean (.int v) = .int v)
  | some .long, some (.long _) => true
  | some .double, some (.double _) => true
  | some (.object _), some (.ref _) => true
  | none, none => true
  | _, _ => false
/-- the arguments off the stack, the receiver first, and what stays -/
def m_cut (x : Nat) (S : List Value) (H : List mC) : Option (List Value × List Value) :=
  if m_stc x = true then (if m_na x ≤ S.length ∧ m_cat (S.drop (m_na x)) ≤ 8 then some ((S.take (m_na x)).reverse, S.drop (m_na x)) else none)
  else match S.drop (m_na x) with
    | .ref r :: S' => (match m_get H r with
      | some (.inr (ci, _)) => if ci = m_rc x ∧ m_cat S' ≤ 8 then some (.ref r :: (S.take (m_na x)).reverse, S') else none
      | _ => none)
    | _ => none
abbrev mR : Type := Option Value × List mC
abbrev mF : Type := Nat → Nat → mL → List Value → List mC → Option mR
def m_st (scr : List Int32) (ih : mF) : mF := fun M pc L S H => match m_code M pc with
  | none => none
  | some (i, x, y, w, z) => if w = 1 ∨ w = 2 then (match m_cut x S H with
      | some (as, S') => (match ih x 0 (lv_args 0 as) [] H with
        | some (v, H1) => ih M (pc + 3) L (v.toList ++ S') H1
        | none => none)
      | none => none)
    else match m_rts i S with
      | some rv => if m_rok (m_rt M) rv = true then some (rv, H) else none
      | none => (match m_ex scr M pc i x y w z L S H with
        | some (pc', L', S', H') => ih M pc' L' S' H'
        | none => none)
def m_go (scr : List Int32) (n : Nat) : mF := Nat.rec (fun _ _ _ _ _ => none) (fun _ ih => m_st scr ih) n
theorem m_go_s (scr : List Int32) (n : Nat) : m_go scr (n + 1) = m_st scr (m_go scr n) := rfl
end
