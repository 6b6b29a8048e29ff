section
-- ===== PART A: goes FIRST, ahead of the names: the tables' words, and 'selects' of the private methods out of them =====
/-- a private method of a class that the tables say can be made, by its rows of tables_1 -/
def lw_okq (q : MethodName × Nat) : Prop := (q.1.cls ≠ "java/lang/invoke/MethodHandle" ∧ q.1.cls ≠ "java/lang/invoke/VarHandle") ∧ Cond.instantiable q.1.cls q.2 ∈ tables_1 ∧ Cond.privateMethod q.1 ∈ tables_1 ∧ Cond.instanceMethod q.1 ∈ tables_1
theorem lw_p0 : lw_okq (⟨"ParallaxSheets", "sheetAt", "(I)LParallaxSheets$Sheet;"⟩, 6) := ⟨⟨by decide +kernel, by decide +kernel⟩, List.mem_of_getElem? (i := 16) (by decide +kernel), List.mem_of_getElem? (i := 172) (by decide +kernel), List.mem_of_getElem? (i := 173) (by decide +kernel)⟩
theorem lw_p1 : lw_okq (⟨"java/lang/Throwable", "fillInStackTrace", "(I)Ljava/lang/Throwable;"⟩, 6) := ⟨⟨by decide +kernel, by decide +kernel⟩, List.mem_of_getElem? (i := 214) (by decide +kernel), List.mem_of_getElem? (i := 212) (by decide +kernel), List.mem_of_getElem? (i := 213) (by decide +kernel)⟩
theorem lw_p2 : lw_okq (⟨"ParallaxSheets", "changeToNext", "(LParallaxSheets$Sheet;)I"⟩, 6) := ⟨⟨by decide +kernel, by decide +kernel⟩, List.mem_of_getElem? (i := 16) (by decide +kernel), List.mem_of_getElem? (i := 315) (by decide +kernel), List.mem_of_getElem? (i := 316) (by decide +kernel)⟩
theorem lw_p3 : lw_okq (⟨"ParallaxSheets$Filters", "pass", "(LParallaxSheets$Sheet;LParallaxSheets$Sheet;I)V"⟩, 5) := ⟨⟨by decide +kernel, by decide +kernel⟩, List.mem_of_getElem? (i := 53) (by decide +kernel), List.mem_of_getElem? (i := 380) (by decide +kernel), List.mem_of_getElem? (i := 381) (by decide +kernel)⟩
theorem lw_p4 : lw_okq (⟨"ParallaxSheets$Filters", "gatherNine", "(LParallaxSheets$Sheet;II)V"⟩, 5) := ⟨⟨by decide +kernel, by decide +kernel⟩, List.mem_of_getElem? (i := 53) (by decide +kernel), List.mem_of_getElem? (i := 385) (by decide +kernel), List.mem_of_getElem? (i := 386) (by decide +kernel)⟩
theorem lw_p5 : lw_okq (⟨"ParallaxSheets$Filters", "resultOfNine", "(I)I"⟩, 5) := ⟨⟨by decide +kernel, by decide +kernel⟩, List.mem_of_getElem? (i := 53) (by decide +kernel), List.mem_of_getElem? (i := 390) (by decide +kernel), List.mem_of_getElem? (i := 391) (by decide +kernel)⟩
theorem lw_p6 : lw_okq (⟨"ParallaxSheets$Filters", "weighted", "()I"⟩, 5) := ⟨⟨by decide +kernel, by decide +kernel⟩, List.mem_of_getElem? (i := 53) (by decide +kernel), List.mem_of_getElem? (i := 394) (by decide +kernel), List.mem_of_getElem? (i := 395) (by decide +kernel)⟩
theorem lw_p7 : lw_okq (⟨"ParallaxSheets$Filters", "middle", "()I"⟩, 5) := ⟨⟨by decide +kernel, by decide +kernel⟩, List.mem_of_getElem? (i := 53) (by decide +kernel), List.mem_of_getElem? (i := 398) (by decide +kernel), List.mem_of_getElem? (i := 399) (by decide +kernel)⟩
theorem lw_p8 : lw_okq (⟨"ParallaxSheets$Filters", "edge", "()I"⟩, 5) := ⟨⟨by decide +kernel, by decide +kernel⟩, List.mem_of_getElem? (i := 53) (by decide +kernel), List.mem_of_getElem? (i := 402) (by decide +kernel), List.mem_of_getElem? (i := 403) (by decide +kernel)⟩
theorem lw_p9 : lw_okq (⟨"ParallaxSheets$Filters", "least", "(Z)I"⟩, 5) := ⟨⟨by decide +kernel, by decide +kernel⟩, List.mem_of_getElem? (i := 53) (by decide +kernel), List.mem_of_getElem? (i := 409) (by decide +kernel), List.mem_of_getElem? (i := 410) (by decide +kernel)⟩
theorem lw_p10 : lw_okq (⟨"ParallaxSheets$Filters", "greatest", "(Z)I"⟩, 5) := ⟨⟨by decide +kernel, by decide +kernel⟩, List.mem_of_getElem? (i := 53) (by decide +kernel), List.mem_of_getElem? (i := 417) (by decide +kernel), List.mem_of_getElem? (i := 418) (by decide +kernel)⟩
theorem lw_p11 : lw_okq (⟨"ParallaxSheets$Tones", "planNegative", "()V"⟩, 3) := ⟨⟨by decide +kernel, by decide +kernel⟩, List.mem_of_getElem? (i := 77) (by decide +kernel), List.mem_of_getElem? (i := 436) (by decide +kernel), List.mem_of_getElem? (i := 437) (by decide +kernel)⟩
theorem lw_p12 : lw_okq (⟨"ParallaxSheets$Tones", "planStretch", "()V"⟩, 3) := ⟨⟨by decide +kernel, by decide +kernel⟩, List.mem_of_getElem? (i := 77) (by decide +kernel), List.mem_of_getElem? (i := 440) (by decide +kernel), List.mem_of_getElem? (i := 441) (by decide +kernel)⟩
theorem lw_p13 : lw_okq (⟨"ParallaxSheets$Tones", "planEven", "()V"⟩, 3) := ⟨⟨by decide +kernel, by decide +kernel⟩, List.mem_of_getElem? (i := 77) (by decide +kernel), List.mem_of_getElem? (i := 456) (by decide +kernel), List.mem_of_getElem? (i := 457) (by decide +kernel)⟩
theorem lw_p14 : lw_okq (⟨"ParallaxSheets$Tones", "planCut", "()V"⟩, 3) := ⟨⟨by decide +kernel, by decide +kernel⟩, List.mem_of_getElem? (i := 77) (by decide +kernel), List.mem_of_getElem? (i := 460) (by decide +kernel), List.mem_of_getElem? (i := 461) (by decide +kernel)⟩
theorem lw_p15 : lw_okq (⟨"ParallaxSheets", "factOf", "(LParallaxSheets$Sheet;I)I"⟩, 6) := ⟨⟨by decide +kernel, by decide +kernel⟩, List.mem_of_getElem? (i := 16) (by decide +kernel), List.mem_of_getElem? (i := 481) (by decide +kernel), List.mem_of_getElem? (i := 482) (by decide +kernel)⟩
def lw_privs_1 : List (MethodName × Nat) := [(⟨"ParallaxSheets", "sheetAt", "(I)LParallaxSheets$Sheet;"⟩, 6), (⟨"java/lang/Throwable", "fillInStackTrace", "(I)Ljava/lang/Throwable;"⟩, 6), (⟨"ParallaxSheets", "changeToNext", "(LParallaxSheets$Sheet;)I"⟩, 6), (⟨"ParallaxSheets$Filters", "pass", "(LParallaxSheets$Sheet;LParallaxSheets$Sheet;I)V"⟩, 5), (⟨"ParallaxSheets$Filters", "gatherNine", "(LParallaxSheets$Sheet;II)V"⟩, 5), (⟨"ParallaxSheets$Filters", "resultOfNine", "(I)I"⟩, 5), (⟨"ParallaxSheets$Filters", "weighted", "()I"⟩, 5), (⟨"ParallaxSheets$Filters", "middle", "()I"⟩, 5), (⟨"ParallaxSheets$Filters", "edge", "()I"⟩, 5), (⟨"ParallaxSheets$Filters", "least", "(Z)I"⟩, 5), (⟨"ParallaxSheets$Filters", "greatest", "(Z)I"⟩, 5), (⟨"ParallaxSheets$Tones", "planNegative", "()V"⟩, 3), (⟨"ParallaxSheets$Tones", "planStretch", "()V"⟩, 3), (⟨"ParallaxSheets$Tones", "planEven", "()V"⟩, 3), (⟨"ParallaxSheets$Tones", "planCut", "()V"⟩, 3), (⟨"ParallaxSheets", "factOf", "(LParallaxSheets$Sheet;I)I"⟩, 6)]
theorem lw_r1 : ∀ q ∈ lw_privs_1, lw_okq q := List.forall_mem_cons.mpr ⟨lw_p0, List.forall_mem_cons.mpr ⟨lw_p1, List.forall_mem_cons.mpr ⟨lw_p2, List.forall_mem_cons.mpr ⟨lw_p3, List.forall_mem_cons.mpr ⟨lw_p4, List.forall_mem_cons.mpr ⟨lw_p5, List.forall_mem_cons.mpr ⟨lw_p6, List.forall_mem_cons.mpr ⟨lw_p7, List.forall_mem_cons.mpr ⟨lw_p8, List.forall_mem_cons.mpr ⟨lw_p9, List.forall_mem_cons.mpr ⟨lw_p10, List.forall_mem_cons.mpr ⟨lw_p11, List.forall_mem_cons.mpr ⟨lw_p12, List.forall_mem_cons.mpr ⟨lw_p13, List.forall_mem_cons.mpr ⟨lw_p14, List.forall_mem_cons.mpr ⟨lw_p15, fun _ h => absurd h List.not_mem_nil⟩⟩⟩⟩⟩⟩⟩⟩⟩⟩⟩⟩⟩⟩⟩⟩
theorem lw_p16 : lw_okq (⟨"ParallaxSheets", "partsFrom", "(LParallaxSheets$Sheet;II)I"⟩, 6) := ⟨⟨by decide +kernel, by decide +kernel⟩, List.mem_of_getElem? (i := 16) (by decide +kernel), List.mem_of_getElem? (i := 509) (by decide +kernel), List.mem_of_getElem? (i := 510) (by decide +kernel)⟩
theorem lw_p17 : lw_okq (⟨"ParallaxSheets$Parts", "markMembers", "(LParallaxSheets$Sheet;IZ)V"⟩, 8) := ⟨⟨by decide +kernel, by decide +kernel⟩, List.mem_of_getElem? (i := 93) (by decide +kernel), List.mem_of_getElem? (i := 517) (by decide +kernel), List.mem_of_getElem? (i := 518) (by decide +kernel)⟩
theorem lw_p18 : lw_okq (⟨"ParallaxSheets$Parts", "gather", "(III)V"⟩, 8) := ⟨⟨by decide +kernel, by decide +kernel⟩, List.mem_of_getElem? (i := 93) (by decide +kernel), List.mem_of_getElem? (i := 525) (by decide +kernel), List.mem_of_getElem? (i := 526) (by decide +kernel)⟩
theorem lw_p19 : lw_okq (⟨"ParallaxSheets$Parts", "join", "(II)V"⟩, 8) := ⟨⟨by decide +kernel, by decide +kernel⟩, List.mem_of_getElem? (i := 93) (by decide +kernel), List.mem_of_getElem? (i := 529) (by decide +kernel), List.mem_of_getElem? (i := 530) (by decide +kernel)⟩
theorem lw_p20 : lw_okq (⟨"ParallaxSheets$Parts", "joinNeighbours", "(III)V"⟩, 8) := ⟨⟨by decide +kernel, by decide +kernel⟩, List.mem_of_getElem? (i := 93) (by decide +kernel), List.mem_of_getElem? (i := 533) (by decide +kernel), List.mem_of_getElem? (i := 534) (by decide +kernel)⟩
theorem lw_p21 : lw_okq (⟨"ParallaxSheets", "holesOf", "(LParallaxSheets$Sheet;I)I"⟩, 6) := ⟨⟨by decide +kernel, by decide +kernel⟩, List.mem_of_getElem? (i := 16) (by decide +kernel), List.mem_of_getElem? (i := 541) (by decide +kernel), List.mem_of_getElem? (i := 542) (by decide +kernel)⟩
theorem lw_p22 : lw_okq (⟨"ParallaxSheets$Parts", "bareSides", "(I)I"⟩, 8) := ⟨⟨by decide +kernel, by decide +kernel⟩, List.mem_of_getElem? (i := 93) (by decide +kernel), List.mem_of_getElem? (i := 562) (by decide +kernel), List.mem_of_getElem? (i := 563) (by decide +kernel)⟩
theorem lw_p23 : lw_okq (⟨"ParallaxSheets$Parts", "bareSide", "(II)I"⟩, 8) := ⟨⟨by decide +kernel, by decide +kernel⟩, List.mem_of_getElem? (i := 93) (by decide +kernel), List.mem_of_getElem? (i := 566) (by decide +kernel), List.mem_of_getElem? (i := 567) (by decide +kernel)⟩
theorem lw_p24 : lw_okq (⟨"ParallaxSheets$Parts", "bound", "(II)I"⟩, 8) := ⟨⟨by decide +kernel, by decide +kernel⟩, List.mem_of_getElem? (i := 93) (by decide +kernel), List.mem_of_getElem? (i := 570) (by decide +kernel), List.mem_of_getElem? (i := 571) (by decide +kernel)⟩
theorem lw_p25 : lw_okq (⟨"ParallaxSheets$Seams", "leastAbove", "(III)I"⟩, 4) := ⟨⟨by decide +kernel, by decide +kernel⟩, List.mem_of_getElem? (i := 126) (by decide +kernel), List.mem_of_getElem? (i := 606) (by decide +kernel), List.mem_of_getElem? (i := 607) (by decide +kernel)⟩
theorem lw_p26 : lw_okq (⟨"ParallaxSheets$Seams", "bestColumn", "(IIII)I"⟩, 4) := ⟨⟨by decide +kernel, by decide +kernel⟩, List.mem_of_getElem? (i := 126) (by decide +kernel), List.mem_of_getElem? (i := 610) (by decide +kernel), List.mem_of_getElem? (i := 611) (by decide +kernel)⟩
theorem lw_p27 : lw_okq (⟨"ParallaxSheets", "costOfCarving", "(LParallaxSheets$Sheet;I)I"⟩, 6) := ⟨⟨by decide +kernel, by decide +kernel⟩, List.mem_of_getElem? (i := 16) (by decide +kernel), List.mem_of_getElem? (i := 643) (by decide +kernel), List.mem_of_getElem? (i := 644) (by decide +kernel)⟩
theorem lw_p28 : lw_okq (⟨"ParallaxSheets", "digestFacts", "(JLParallaxSheets$Sheet;)J"⟩, 6) := ⟨⟨by decide +kernel, by decide +kernel⟩, List.mem_of_getElem? (i := 16) (by decide +kernel), List.mem_of_getElem? (i := 652) (by decide +kernel), List.mem_of_getElem? (i := 653) (by decide +kernel)⟩
theorem lw_p29 : lw_okq (⟨"ParallaxSheets", "digestSeams", "(JLParallaxSheets$Sheet;)J"⟩, 6) := ⟨⟨by decide +kernel, by decide +kernel⟩, List.mem_of_getElem? (i := 16) (by decide +kernel), List.mem_of_getElem? (i := 660) (by decide +kernel), List.mem_of_getElem? (i := 661) (by decide +kernel)⟩
def lw_privs_2 : List (MethodName × Nat) := [(⟨"ParallaxSheets", "partsFrom", "(LParallaxSheets$Sheet;II)I"⟩, 6), (⟨"ParallaxSheets$Parts", "markMembers", "(LParallaxSheets$Sheet;IZ)V"⟩, 8), (⟨"ParallaxSheets$Parts", "gather", "(III)V"⟩, 8), (⟨"ParallaxSheets$Parts", "join", "(II)V"⟩, 8), (⟨"ParallaxSheets$Parts", "joinNeighbours", "(III)V"⟩, 8), (⟨"ParallaxSheets", "holesOf", "(LParallaxSheets$Sheet;I)I"⟩, 6), (⟨"ParallaxSheets$Parts", "bareSides", "(I)I"⟩, 8), (⟨"ParallaxSheets$Parts", "bareSide", "(II)I"⟩, 8), (⟨"ParallaxSheets$Parts", "bound", "(II)I"⟩, 8), (⟨"ParallaxSheets$Seams", "leastAbove", "(III)I"⟩, 4), (⟨"ParallaxSheets$Seams", "bestColumn", "(IIII)I"⟩, 4), (⟨"ParallaxSheets", "costOfCarving", "(LParallaxSheets$Sheet;I)I"⟩, 6), (⟨"ParallaxSheets", "digestFacts", "(JLParallaxSheets$Sheet;)J"⟩, 6), (⟨"ParallaxSheets", "digestSeams", "(JLParallaxSheets$Sheet;)J"⟩, 6)]
theorem lw_r2 : ∀ q ∈ lw_privs_2, lw_okq q := List.forall_mem_cons.mpr ⟨lw_p16, List.forall_mem_cons.mpr ⟨lw_p17, List.forall_mem_cons.mpr ⟨lw_p18, List.forall_mem_cons.mpr ⟨lw_p19, List.forall_mem_cons.mpr ⟨lw_p20, List.forall_mem_cons.mpr ⟨lw_p21, List.forall_mem_cons.mpr ⟨lw_p22, List.forall_mem_cons.mpr ⟨lw_p23, List.forall_mem_cons.mpr ⟨lw_p24, List.forall_mem_cons.mpr ⟨lw_p25, List.forall_mem_cons.mpr ⟨lw_p26, List.forall_mem_cons.mpr ⟨lw_p27, List.forall_mem_cons.mpr ⟨lw_p28, List.forall_mem_cons.mpr ⟨lw_p29, fun _ h => absurd h List.not_mem_nil⟩⟩⟩⟩⟩⟩⟩⟩⟩⟩⟩⟩⟩⟩
def lw_privs : List (MethodName × Nat) := lw_privs_1 ++ (lw_privs_2)
def lw_tbl : List Cond := k2_sels lw_privs ++ tables_1
theorem lw_privs_ok : ∀ q ∈ lw_privs, lw_okq q := by
  show ∀ q ∈ lw_privs_1 ++ (lw_privs_2), lw_okq q
  exact List.forall_mem_append.mpr ⟨lw_r1, lw_r2⟩
/-- the streams that the claim lets the run draw from -/
abbrev lw_cs : List Choice := [Jvm.Choice.named "NaN.bits"]
theorem lw_bits : nanBits ∈ lw_cs := by first | decide | exact List.mem_cons_self | simp [lw_cs, nanBits]

def RX0 : String := "ParallaxSheets$Filters"
def TX0 : u_T := fun k => match k with
  | 0 => ("ParallaxSheets$Filters", "weights", "[I", true)
  | 1 => ("ParallaxSheets$Filters", "divisor", "I", false)
  | 2 => ("ParallaxSheets$Filters", "base", "I", false)
  | 3 => ("ParallaxSheets$Filters", "nine", "[I", true)
  | _ => ("ParallaxSheets$Filters", "between", "LParallaxSheets$Sheet;", true)
def tyX0 : Nat → FieldType := fun k => match k with
  | 0 => .array .int
  | 1 => .int
  | 2 => .int
  | 3 => .array .int
  | _ => .object "ParallaxSheets$Sheet"
abbrev wsX00 : List Cond := u_ws RX0 TX0 5
theorem nmX0 : ∀ a, a < 5 → ∀ b, b < 5 → a ≠ b → (TX0 a).2.1 ≠ (TX0 b).2.1 := by decide +kernel
theorem tyX0_ok : ∀ k, k < 5 → parseFieldDescriptor (TX0 k).2.2.1 = some (tyX0 k) := by decide +kernel
abbrev cX0_init : ByteArray := prog_2_method_1_code
def yX0_init : MethodName := ⟨RX0, "<init>", "()V"⟩
abbrev cX0_run : ByteArray := prog_2_method_2_code
def yX0_run : MethodName := ⟨RX0, "run", "(LParallaxSheets$Sheet;LParallaxSheets$Sheet;I)V"⟩
abbrev cX0_pass : ByteArray := prog_2_method_3_code
def yX0_pass : MethodName := ⟨RX0, "pass", "(LParallaxSheets$Sheet;LParallaxSheets$Sheet;I)V"⟩
abbrev cX0_gatherNine : ByteArray := prog_2_method_4_code
def yX0_gatherNine : MethodName := ⟨RX0, "gatherNine", "(LParallaxSheets$Sheet;II)V"⟩
abbrev cX0_resultOfNine : ByteArray := prog_2_method_5_code
def yX0_resultOfNine : MethodName := ⟨RX0, "resultOfNine", "(I)I"⟩
abbrev cX0_weighted : ByteArray := prog_2_method_6_code
def yX0_weighted : MethodName := ⟨RX0, "weighted", "()I"⟩
abbrev cX0_middle : ByteArray := prog_2_method_7_code
def yX0_middle : MethodName := ⟨RX0, "middle", "()I"⟩
abbrev cX0_edge : ByteArray := prog_2_method_8_code
def yX0_edge : MethodName := ⟨RX0, "edge", "()I"⟩
abbrev cX0_least : ByteArray := prog_2_method_9_code
def yX0_least : MethodName := ⟨RX0, "least", "(Z)I"⟩
abbrev cX0_greatest : ByteArray := prog_2_method_10_code
def yX0_greatest : MethodName := ⟨RX0, "greatest", "(Z)I"⟩
abbrev cX0_isInCross : ByteArray := prog_2_method_11_code
def yX0_isInCross : MethodName := ⟨RX0, "isInCross", "(I)Z"⟩
def RX1 : String := "ParallaxSheets$Parts"
def TX1 : u_T := fun k => match k with
  | 0 => ("ParallaxSheets$Parts", "found", "I", false)
  | 1 => ("ParallaxSheets$Parts", "numbers", "[I", true)
  | 2 => ("ParallaxSheets$Parts", "waiting", "[I", true)
  | 3 => ("ParallaxSheets$Parts", "waitingCount", "I", false)
  | 4 => ("ParallaxSheets$Parts", "sizes", "[I", true)
  | 5 => ("ParallaxSheets$Parts", "atEdge", "[Z", true)
  | 6 => ("ParallaxSheets$Parts", "width", "I", false)
  | _ => ("ParallaxSheets$Parts", "height", "I", false)
def tyX1 : Nat → FieldType := fun k => match k with
  | 0 => .int
  | 1 => .array .int
  | 2 => .array .int
  | 3 => .int
  | 4 => .array .int
  | 5 => .array .boolean
  | 6 => .int
  | _ => .int
abbrev wsX10 : List Cond := u_ws RX1 TX1 8
theorem nmX1 : ∀ a, a < 8 → ∀ b, b < 8 → a ≠ b → (TX1 a).2.1 ≠ (TX1 b).2.1 := by decide +kernel
theorem tyX1_ok : ∀ k, k < 8 → parseFieldDescriptor (TX1 k).2.2.1 = some (tyX1 k) := by decide +kernel
abbrev cX1_init : ByteArray := prog_3_method_1_code
def yX1_init : MethodName := ⟨RX1, "<init>", "()V"⟩
abbrev cX1_find : ByteArray := prog_3_method_2_code
def yX1_find : MethodName := ⟨RX1, "find", "(LParallaxSheets$Sheet;IIZ)V"⟩
abbrev cX1_markMembers : ByteArray := prog_3_method_3_code
def yX1_markMembers : MethodName := ⟨RX1, "markMembers", "(LParallaxSheets$Sheet;IZ)V"⟩
abbrev cX1_gather : ByteArray := prog_3_method_4_code
def yX1_gather : MethodName := ⟨RX1, "gather", "(III)V"⟩
abbrev cX1_join : ByteArray := prog_3_method_5_code
def yX1_join : MethodName := ⟨RX1, "join", "(II)V"⟩
abbrev cX1_joinNeighbours : ByteArray := prog_3_method_6_code
def yX1_joinNeighbours : MethodName := ⟨RX1, "joinNeighbours", "(III)V"⟩
abbrev cX1_numberAt : ByteArray := prog_3_method_7_code
def yX1_numberAt : MethodName := ⟨RX1, "numberAt", "(II)I"⟩
abbrev cX1_awayFromEdges : ByteArray := prog_3_method_9_code
def yX1_awayFromEdges : MethodName := ⟨RX1, "awayFromEdges", "()I"⟩
abbrev cX1_factOf : ByteArray := prog_3_method_10_code
def yX1_factOf : MethodName := ⟨RX1, "factOf", "(II)I"⟩
abbrev cX1_bound : ByteArray := prog_3_method_11_code
def yX1_bound : MethodName := ⟨RX1, "bound", "(II)I"⟩
abbrev cX1_bareSides : ByteArray := prog_3_method_12_code
def yX1_bareSides : MethodName := ⟨RX1, "bareSides", "(I)I"⟩
abbrev cX1_bareSide : ByteArray := prog_3_method_13_code
def yX1_bareSide : MethodName := ⟨RX1, "bareSide", "(II)I"⟩
def RX2 : String := "ParallaxSheets$Seams"
def TX2 : u_T := fun k => match k with
  | 0 => ("ParallaxSheets$Seams", "total", "I", false)
  | 1 => ("ParallaxSheets$Seams", "columns", "[I", true)
  | 2 => ("ParallaxSheets$Seams", "sums", "[I", true)
  | _ => ("ParallaxSheets$Seams", "result", "LParallaxSheets$Sheet;", true)
def tyX2 : Nat → FieldType := fun k => match k with
  | 0 => .int
  | 1 => .array .int
  | 2 => .array .int
  | _ => .object "ParallaxSheets$Sheet"
abbrev wsX20 : List Cond := u_ws RX2 TX2 4
theorem nmX2 : ∀ a, a < 4 → ∀ b, b < 4 → a ≠ b → (TX2 a).2.1 ≠ (TX2 b).2.1 := by decide +kernel
theorem tyX2_ok : ∀ k, k < 4 → parseFieldDescriptor (TX2 k).2.2.1 = some (tyX2 k) := by decide +kernel
abbrev cX2_init : ByteArray := prog_4_method_1_code
def yX2_init : MethodName := ⟨RX2, "<init>", "()V"⟩
abbrev cX2_find : ByteArray := prog_4_method_2_code
def yX2_find : MethodName := ⟨RX2, "find", "(LParallaxSheets$Sheet;)V"⟩
abbrev cX2_leastAbove : ByteArray := prog_4_method_3_code
def yX2_leastAbove : MethodName := ⟨RX2, "leastAbove", "(III)I"⟩
abbrev cX2_costOf : ByteArray := prog_4_method_4_code
def yX2_costOf : MethodName := ⟨RX2, "costOf", "(LParallaxSheets$Sheet;II)I"⟩
abbrev cX2_bestColumn : ByteArray := prog_4_method_5_code
def yX2_bestColumn : MethodName := ⟨RX2, "bestColumn", "(IIII)I"⟩
abbrev cX2_takeOut : ByteArray := prog_4_method_6_code
def yX2_takeOut : MethodName := ⟨RX2, "takeOut", "(LParallaxSheets$Sheet;)V"⟩
abbrev cX2_putIn : ByteArray := prog_4_method_7_code
def yX2_putIn : MethodName := ⟨RX2, "putIn", "(LParallaxSheets$Sheet;)V"⟩
def RX3 : String := "ParallaxSheets$Sheet"
def TX3 : u_T := fun k => match k with
  | 0 => ("ParallaxSheets$Sheet", "width", "I", false)
  | 1 => ("ParallaxSheets$Sheet", "height", "I", false)
  | _ => ("ParallaxSheets$Sheet", "values", "[I", true)
def tyX3 : Nat → FieldType := fun k => match k with
  | 0 => .int
  | 1 => .int
  | _ => .array .int
abbrev wsX30 : List Cond := u_ws RX3 TX3 3
theorem nmX3 : ∀ a, a < 3 → ∀ b, b < 3 → a ≠ b → (TX3 a).2.1 ≠ (TX3 b).2.1 := by decide +kernel
theorem tyX3_ok : ∀ k, k < 3 → parseFieldDescriptor (TX3 k).2.2.1 = some (tyX3 k) := by decide +kernel
abbrev cX3_init : ByteArray := prog_5_method_1_code
def yX3_init : MethodName := ⟨RX3, "<init>", "()V"⟩
abbrev cX3_size : ByteArray := prog_5_method_2_code
def yX3_size : MethodName := ⟨RX3, "size", "()I"⟩
abbrev cX3_measure : ByteArray := prog_5_method_3_code
def yX3_measure : MethodName := ⟨RX3, "measure", "(II)V"⟩
abbrev cX3_near : ByteArray := prog_5_method_4_code
def yX3_near : MethodName := ⟨RX3, "near", "(II)I"⟩
abbrev cX3_put : ByteArray := prog_5_method_5_code
def yX3_put : MethodName := ⟨RX3, "put", "(III)V"⟩
abbrev cX3_total : ByteArray := prog_5_method_6_code
def yX3_total : MethodName := ⟨RX3, "total", "()I"⟩
abbrev cX3_isAsLargeAs : ByteArray := prog_5_method_7_code
def yX3_isAsLargeAs : MethodName := ⟨RX3, "isAsLargeAs", "(LParallaxSheets$Sheet;)Z"⟩
abbrev cX3_differing : ByteArray := prog_5_method_8_code
def yX3_differing : MethodName := ⟨RX3, "differing", "(LParallaxSheets$Sheet;)I"⟩
abbrev cX3_become : ByteArray := prog_5_method_9_code
def yX3_become : MethodName := ⟨RX3, "become", "(LParallaxSheets$Sheet;)V"⟩
def RX4 : String := "ParallaxSheets$Tones"
def TX4 : u_T := fun k => match k with
  | 0 => ("ParallaxSheets$Tones", "counts", "[I", true)
  | 1 => ("ParallaxSheets$Tones", "plans", "[I", true)
  | _ => ("ParallaxSheets$Tones", "fields", "I", false)
def tyX4 : Nat → FieldType := fun k => match k with
  | 0 => .array .int
  | 1 => .array .int
  | _ => .int
abbrev wsX40 : List Cond := u_ws RX4 TX4 3
theorem nmX4 : ∀ a, a < 3 → ∀ b, b < 3 → a ≠ b → (TX4 a).2.1 ≠ (TX4 b).2.1 := by decide +kernel
theorem tyX4_ok : ∀ k, k < 3 → parseFieldDescriptor (TX4 k).2.2.1 = some (tyX4 k) := by decide +kernel
abbrev cX4_init : ByteArray := prog_6_method_1_code
def yX4_init : MethodName := ⟨RX4, "<init>", "()V"⟩
abbrev cX4_read : ByteArray := prog_6_method_2_code
def yX4_read : MethodName := ⟨RX4, "read", "(LParallaxSheets$Sheet;)V"⟩
abbrev cX4_planned : ByteArray := prog_6_method_3_code
def yX4_planned : MethodName := ⟨RX4, "planned", "(I)I"⟩
abbrev cX4_plan : ByteArray := prog_6_method_4_code
def yX4_plan : MethodName := ⟨RX4, "plan", "(I)V"⟩
abbrev cX4_planNegative : ByteArray := prog_6_method_5_code
def yX4_planNegative : MethodName := ⟨RX4, "planNegative", "()V"⟩
abbrev cX4_planStretch : ByteArray := prog_6_method_6_code
def yX4_planStretch : MethodName := ⟨RX4, "planStretch", "()V"⟩
abbrev cX4_planEven : ByteArray := prog_6_method_7_code
def yX4_planEven : MethodName := ⟨RX4, "planEven", "()V"⟩
abbrev cX4_planCut : ByteArray := prog_6_method_8_code
def yX4_planCut : MethodName := ⟨RX4, "planCut", "()V"⟩
abbrev cX4_least : ByteArray := prog_6_method_9_code
def yX4_least : MethodName := ⟨RX4, "least", "()I"⟩
abbrev cX4_greatest : ByteArray := prog_6_method_10_code
def yX4_greatest : MethodName := ⟨RX4, "greatest", "()I"⟩
abbrev cX4_inOrder : ByteArray := prog_6_method_11_code
def yX4_inOrder : MethodName := ⟨RX4, "inOrder", "(I)I"⟩
abbrev cX4_cut : ByteArray := prog_6_method_12_code
def yX4_cut : MethodName := ⟨RX4, "cut", "()I"⟩
def RX5 : String := "ParallaxSheets"
def TX5 : u_T := fun k => match k with
  | 0 => ("ParallaxSheets", "sheets", "[LParallaxSheets$Sheet;", true)
  | 1 => ("ParallaxSheets", "next", "LParallaxSheets$Sheet;", true)
  | 2 => ("ParallaxSheets", "filters", "LParallaxSheets$Filters;", true)
  | 3 => ("ParallaxSheets", "tones", "LParallaxSheets$Tones;", true)
  | 4 => ("ParallaxSheets", "parts", "LParallaxSheets$Parts;", true)
  | _ => ("ParallaxSheets", "seams", "LParallaxSheets$Seams;", true)
def tyX5 : Nat → FieldType := fun k => match k with
  | 0 => .array (.object "ParallaxSheets$Sheet")
  | 1 => .object "ParallaxSheets$Sheet"
  | 2 => .object "ParallaxSheets$Filters"
  | 3 => .object "ParallaxSheets$Tones"
  | 4 => .object "ParallaxSheets$Parts"
  | _ => .object "ParallaxSheets$Seams"
abbrev wsX50 : List Cond := u_ws RX5 TX5 6
theorem nmX5 : ∀ a, a < 6 → ∀ b, b < 6 → a ≠ b → (TX5 a).2.1 ≠ (TX5 b).2.1 := by decide +kernel
theorem tyX5_ok : ∀ k, k < 6 → parseFieldDescriptor (TX5 k).2.2.1 = some (tyX5 k) := by decide +kernel
abbrev cX5_init : ByteArray := prog_1_method_1_code
def yX5_init : MethodName := ⟨RX5, "<init>", "()V"⟩
abbrev cX5_fresh : ByteArray := prog_1_method_2_code
def yX5_fresh : MethodName := ⟨RX5, "fresh", "(IIII)I"⟩
abbrev cX5_dot : ByteArray := prog_1_method_3_code
def yX5_dot : MethodName := ⟨RX5, "dot", "(IIII)I"⟩
abbrev cX5_disc : ByteArray := prog_1_method_5_code
def yX5_disc : MethodName := ⟨RX5, "disc", "(IIIII)I"⟩
abbrev cX5_shade : ByteArray := prog_1_method_6_code
def yX5_shade : MethodName := ⟨RX5, "shade", "(IIII)I"⟩
abbrev cX5_copy : ByteArray := prog_1_method_7_code
def yX5_copy : MethodName := ⟨RX5, "copy", "(II)I"⟩
abbrev cX5_turn : ByteArray := prog_1_method_9_code
def yX5_turn : MethodName := ⟨RX5, "turn", "(II)I"⟩
abbrev cX5_filter : ByteArray := prog_1_method_12_code
def yX5_filter : MethodName := ⟨RX5, "filter", "(II)I"⟩
abbrev cX5_values : ByteArray := prog_1_method_13_code
def yX5_values : MethodName := ⟨RX5, "values", "(II)I"⟩
abbrev cX5_value : ByteArray := prog_1_method_14_code
def yX5_value : MethodName := ⟨RX5, "value", "(III)I"⟩
abbrev cX5_sheet : ByteArray := prog_1_method_15_code
def yX5_sheet : MethodName := ⟨RX5, "sheet", "(II)I"⟩
abbrev cX5_count : ByteArray := prog_1_method_16_code
def yX5_count : MethodName := ⟨RX5, "count", "(III)I"⟩
abbrev cX5_ordered : ByteArray := prog_1_method_17_code
def yX5_ordered : MethodName := ⟨RX5, "ordered", "(II)I"⟩
abbrev cX5_difference : ByteArray := prog_1_method_18_code
def yX5_difference : MethodName := ⟨RX5, "difference", "(II)D"⟩
abbrev cX5_parts : ByteArray := prog_1_method_19_code
def yX5_parts : MethodName := ⟨RX5, "parts", "(II)I"⟩
abbrev cX5_holes : ByteArray := prog_1_method_20_code
def yX5_holes : MethodName := ⟨RX5, "holes", "(II)I"⟩
abbrev cX5_partOf : ByteArray := prog_1_method_21_code
def yX5_partOf : MethodName := ⟨RX5, "partOf", "(IIII)I"⟩
abbrev cX5_part : ByteArray := prog_1_method_22_code
def yX5_part : MethodName := ⟨RX5, "part", "(IIII)I"⟩
abbrev cX5_far : ByteArray := prog_1_method_24_code
def yX5_far : MethodName := ⟨RX5, "far", "(IIII)I"⟩
abbrev cX5_carve : ByteArray := prog_1_method_26_code
def yX5_carve : MethodName := ⟨RX5, "carve", "(I)I"⟩
abbrev cX5_widen : ByteArray := prog_1_method_27_code
def yX5_widen : MethodName := ⟨RX5, "widen", "(I)I"⟩
abbrev cX5_seam : ByteArray := prog_1_method_28_code
def yX5_seam : MethodName := ⟨RX5, "seam", "(II)I"⟩
abbrev cX5_partsAt : ByteArray := prog_1_method_29_code
def yX5_partsAt : MethodName := ⟨RX5, "partsAt", "(III)I"⟩
abbrev cX5_carvedBy : ByteArray := prog_1_method_30_code
def yX5_carvedBy : MethodName := ⟨RX5, "carvedBy", "(II)I"⟩
abbrev cX5_digest : ByteArray := prog_1_method_31_code
def yX5_digest : MethodName := ⟨RX5, "digest", "()J"⟩
abbrev cX5_sheetAt : ByteArray := prog_1_method_32_code
def yX5_sheetAt : MethodName := ⟨RX5, "sheetAt", "(I)LParallaxSheets$Sheet;"⟩
abbrev cX5_needField : ByteArray := prog_1_method_33_code
def yX5_needField : MethodName := ⟨RX5, "needField", "(LParallaxSheets$Sheet;II)V"⟩
abbrev cX5_needPlace : ByteArray := prog_1_method_34_code
def yX5_needPlace : MethodName := ⟨RX5, "needPlace", "(Z)V"⟩
abbrev cX5_refuseUnless : ByteArray := prog_1_method_35_code
def yX5_refuseUnless : MethodName := ⟨RX5, "refuseUnless", "(Z)V"⟩
abbrev cX5_needState : ByteArray := prog_1_method_36_code
def yX5_needState : MethodName := ⟨RX5, "needState", "(Z)V"⟩
abbrev cX5_isFrom : ByteArray := prog_1_method_37_code
def yX5_isFrom : MethodName := ⟨RX5, "isFrom", "(III)Z"⟩
abbrev cX5_isValue : ByteArray := prog_1_method_38_code
def yX5_isValue : MethodName := ⟨RX5, "isValue", "(I)Z"⟩
abbrev cX5_isSlope : ByteArray := prog_1_method_39_code
def yX5_isSlope : MethodName := ⟨RX5, "isSlope", "(I)Z"⟩
abbrev cX5_isWays : ByteArray := prog_1_method_40_code
def yX5_isWays : MethodName := ⟨RX5, "isWays", "(I)Z"⟩
abbrev cX5_changeToNext : ByteArray := prog_1_method_41_code
def yX5_changeToNext : MethodName := ⟨RX5, "changeToNext", "(LParallaxSheets$Sheet;)I"⟩
abbrev cX5_turnedSide : ByteArray := prog_1_method_42_code
def yX5_turnedSide : MethodName := ⟨RX5, "turnedSide", "(III)I"⟩
abbrev cX5_turnedValue : ByteArray := prog_1_method_43_code
def yX5_turnedValue : MethodName := ⟨RX5, "turnedValue", "(LParallaxSheets$Sheet;III)I"⟩
abbrev cX5_factOf : ByteArray := prog_1_method_44_code
def yX5_factOf : MethodName := ⟨RX5, "factOf", "(LParallaxSheets$Sheet;I)I"⟩
abbrev cX5_partsFrom : ByteArray := prog_1_method_45_code
def yX5_partsFrom : MethodName := ⟨RX5, "partsFrom", "(LParallaxSheets$Sheet;II)I"⟩
abbrev cX5_holesOf : ByteArray := prog_1_method_46_code
def yX5_holesOf : MethodName := ⟨RX5, "holesOf", "(LParallaxSheets$Sheet;I)I"⟩
abbrev cX5_farOf : ByteArray := prog_1_method_47_code
def yX5_farOf : MethodName := ⟨RX5, "farOf", "(LParallaxSheets$Sheet;III)I"⟩
abbrev cX5_farWithin : ByteArray := prog_1_method_48_code
def yX5_farWithin : MethodName := ⟨RX5, "farWithin", "(LParallaxSheets$Sheet;III)I"⟩
abbrev cX5_farToOutside : ByteArray := prog_1_method_49_code
def yX5_farToOutside : MethodName := ⟨RX5, "farToOutside", "(LParallaxSheets$Sheet;III)I"⟩
abbrev cX5_distance : ByteArray := prog_1_method_50_code
def yX5_distance : MethodName := ⟨RX5, "distance", "(III)I"⟩
abbrev cX5_costOfCarving : ByteArray := prog_1_method_51_code
def yX5_costOfCarving : MethodName := ⟨RX5, "costOfCarving", "(LParallaxSheets$Sheet;I)I"⟩
abbrev cX5_digestWith : ByteArray := prog_1_method_52_code
def yX5_digestWith : MethodName := ⟨RX5, "digestWith", "(JI)J"⟩
abbrev cX5_digestFacts : ByteArray := prog_1_method_53_code
def yX5_digestFacts : MethodName := ⟨RX5, "digestFacts", "(JLParallaxSheets$Sheet;)J"⟩
abbrev cX5_digestSeams : ByteArray := prog_1_method_54_code
def yX5_digestSeams : MethodName := ⟨RX5, "digestSeams", "(JLParallaxSheets$Sheet;)J"⟩
abbrev cX5_digestFields : ByteArray := prog_1_method_55_code
def yX5_digestFields : MethodName := ⟨RX5, "digestFields", "(JLParallaxSheets$Sheet;)J"⟩
def RX6 : String := "ParallaxSheetsModel$Sheet"
def RX7 : String := "ParallaxSheetsModel"
def RL : String := "ParallaxSheetsLaw"
abbrev cL_below : ByteArray := method_2_code
def yL_below : MethodName := ⟨RL, "below", "(II)I"⟩
abbrev cL_cell : ByteArray := method_3_code
def yL_cell : MethodName := ⟨RL, "cell", "([II)I"⟩
abbrev cL_law : ByteArray := code
def yL_law : MethodName := ⟨RL, "law", "([I)Z"⟩
end
section
/-! the program as data: a row an instruction (pc, instruction, two numbers, a kind, a number), printed by wip/mach/gen.py -/
abbrev m_I : Type := Nat × Instr × Nat × Nat × Nat × Int
/-- ParallaxSheets.Filters init -/
def m_p_0 : List m_I := [(0, .aload_n 0, 0, 0, 0, 0), (1, .invokespecial 3, 0, 87, 7, 0), (4, .aload_n 0, 0, 0, 0, 0), (5, .bipush 9, 0, 0, 0, 0), (7, .newarray .int, 0, 81, 0, 0), (9, .putfield 9, 0, 0, 0, 90), (12, .aload_n 0, 0, 0, 0, 0), (13, .bipush 9, 0, 0, 0, 0), (15, .putfield 15, 0, 1, 0, 91), (18, .aload_n 0, 0, 0, 0, 0), (19, .iconst 0, 0, 0, 0, 0), (20, .putfield 19, 0, 2, 0, 92), (23, .aload_n 0, 0, 0, 0, 0), (24, .bipush 9, 0, 0, 0, 0), (26, .newarray .int, 0, 81, 0, 0), (28, .putfield 22, 0, 3, 0, 93), (31, .aload_n 0, 0, 0, 0, 0), (32, .new 25, 3, 88, 0, 0), (35, .dup, 0, 0, 0, 0), (36, .invokespecial 27, 30, 89, 2, 0), (39, .putfield 28, 0, 4, 0, 94), (42, .iconst 0, 0, 0, 0, 0), (43, .istore_n 1, 0, 0, 0, 0), (44, .iload_n 1, 0, 0, 0, 0), (45, .bipush 9, 0, 0, 0, 0), (47, .if_icmp .ge 16, 63, 0, 0, 0), (50, .aload_n 0, 0, 0, 0, 0), (51, .getfield 9, 0, 0, 0, 90), (54, .iload_n 1, 0, 0, 0, 0), (55, .iconst 1, 0, 0, 0, 0), (56, .iastore, 0, 0, 0, 0), (57, .iinc 1 1, 0, 0, 0, 0), (60, .goto (-16), 44, 0, 0, 0), (63, .return_, 0, 0, 0, 0)]
/-- ParallaxSheets.Filters run -/
def m_p_1 : List m_I := [(0, .iload_n 3, 0, 0, 0, 0), (1, .bipush 7, 0, 0, 0, 0), (3, .if_icmp .ne 26, 29, 0, 0, 0), (6, .aload_n 0, 0, 0, 0, 0), (7, .aload_n 1, 0, 0, 0, 0), (8, .aload_n 0, 0, 0, 0, 0), (9, .getfield 28, 0, 4, 0, 94), (12, .iconst 3, 0, 0, 0, 0), (13, .invokevirtual 32, 2, 409, 1, 0), (16, .aload_n 0, 0, 0, 0, 0), (17, .aload_n 0, 0, 0, 0, 0), (18, .getfield 28, 0, 4, 0, 94), (21, .aload_n 2, 0, 0, 0, 0), (22, .iconst 5, 0, 0, 0, 0), (23, .invokevirtual 32, 2, 409, 1, 0), (26, .goto 39, 65, 0, 0, 0), (29, .iload_n 3, 0, 0, 0, 0), (30, .bipush 8, 0, 0, 0, 0), (32, .if_icmp .ne 26, 58, 0, 0, 0), (35, .aload_n 0, 0, 0, 0, 0), (36, .aload_n 1, 0, 0, 0, 0), (37, .aload_n 0, 0, 0, 0, 0), (38, .getfield 28, 0, 4, 0, 94), (41, .iconst 5, 0, 0, 0, 0), (42, .invokevirtual 32, 2, 409, 1, 0), (45, .aload_n 0, 0, 0, 0, 0), (46, .aload_n 0, 0, 0, 0, 0), (47, .getfield 28, 0, 4, 0, 94), (50, .aload_n 2, 0, 0, 0, 0), (51, .iconst 3, 0, 0, 0, 0), (52, .invokevirtual 32, 2, 409, 1, 0), (55, .goto 10, 65, 0, 0, 0), (58, .aload_n 0, 0, 0, 0, 0), (59, .aload_n 1, 0, 0, 0, 0), (60, .aload_n 2, 0, 0, 0, 0), (61, .iload_n 3, 0, 0, 0, 0), (62, .invokevirtual 32, 2, 409, 1, 0), (65, .return_, 0, 0, 0, 0)]
/-- ParallaxSheets.Filters pass -/
def m_p_2 : List m_I := [(0, .aload_n 2, 0, 0, 0, 0), (1, .aload_n 1, 0, 0, 0, 0), (2, .getfield 36, 3, 0, 0, 63), (5, .aload_n 1, 0, 0, 0, 0), (6, .getfield 39, 3, 1, 0, 68), (9, .invokevirtual 42, 32, 413, 1, 0), (12, .iconst 0, 0, 0, 0, 0), (13, .istore 4, 0, 0, 0, 0), (15, .iload 4, 0, 0, 0, 0), (17, .aload_n 1, 0, 0, 0, 0), (18, .getfield 39, 3, 1, 0, 68), (21, .if_icmp .ge 49, 70, 0, 0, 0), (24, .iconst 0, 0, 0, 0, 0), (25, .istore 5, 0, 0, 0, 0), (27, .iload 5, 0, 0, 0, 0), (29, .aload_n 1, 0, 0, 0, 0), (30, .getfield 36, 3, 0, 0, 63), (33, .if_icmp .ge 31, 64, 0, 0, 0), (36, .aload_n 0, 0, 0, 0, 0), (37, .aload_n 1, 0, 0, 0, 0), (38, .iload 5, 0, 0, 0, 0), (40, .iload 4, 0, 0, 0, 0), (42, .invokevirtual 46, 3, 414, 1, 0), (45, .aload_n 2, 0, 0, 0, 0), (46, .iload 5, 0, 0, 0, 0), (48, .iload 4, 0, 0, 0, 0), (50, .aload_n 0, 0, 0, 0, 0), (51, .iload_n 3, 0, 0, 0, 0), (52, .invokevirtual 50, 4, 419, 1, 0), (55, .invokevirtual 54, 34, 451, 1, 0), (58, .iinc 5 1, 0, 0, 0, 0), (61, .goto (-34), 27, 0, 0, 0), (64, .iinc 4 1, 0, 0, 0, 0), (67, .goto (-52), 15, 0, 0, 0), (70, .return_, 0, 0, 0, 0)]
/-- ParallaxSheets.Filters gatherNine -/
def m_p_3 : List m_I := [(0, .iconst 0, 0, 0, 0, 0), (1, .istore 4, 0, 0, 0, 0), (3, .iload 4, 0, 0, 0, 0), (5, .bipush 9, 0, 0, 0, 0), (7, .if_icmp .ge 36, 43, 0, 0, 0), (10, .aload_n 0, 0, 0, 0, 0), (11, .getfield 22, 0, 3, 0, 93), (14, .iload 4, 0, 0, 0, 0), (16, .aload_n 1, 0, 0, 0, 0), (17, .iload_n 2, 0, 0, 0, 0), (18, .iconst 1, 0, 0, 0, 0), (19, .isub, 0, 0, 0, 0), (20, .iload 4, 0, 0, 0, 0), (22, .iconst 3, 0, 0, 0, 0), (23, .irem, 0, 0, 0, 0), (24, .iadd, 0, 0, 0, 0), (25, .iload_n 3, 0, 0, 0, 0), (26, .iconst 1, 0, 0, 0, 0), (27, .isub, 0, 0, 0, 0), (28, .iload 4, 0, 0, 0, 0), (30, .iconst 3, 0, 0, 0, 0), (31, .idiv, 0, 0, 0, 0), (32, .iadd, 0, 0, 0, 0), (33, .invokevirtual 58, 33, 418, 1, 0), (36, .iastore, 0, 0, 0, 0), (37, .iinc 4 1, 0, 0, 0, 0), (40, .goto (-37), 3, 0, 0, 0), (43, .return_, 0, 0, 0, 0)]
/-- ParallaxSheets.Filters resultOfNine -/
def m_p_4 : List m_I := [(0, .iload_n 1, 0, 0, 0, 0), (1, .tableswitch 72 0 5 #[39, 44, 49, 54, 60, 66], 0, 0, 0, 39), (40, .aload_n 0, 0, 0, 0, 0), (41, .invokevirtual 62, 5, 423, 1, 0), (44, .ireturn, 0, 0, 0, 0), (45, .aload_n 0, 0, 0, 0, 0), (46, .invokevirtual 66, 6, 427, 1, 0), (49, .ireturn, 0, 0, 0, 0), (50, .aload_n 0, 0, 0, 0, 0), (51, .invokevirtual 69, 7, 431, 1, 0), (54, .ireturn, 0, 0, 0, 0), (55, .aload_n 0, 0, 0, 0, 0), (56, .iconst 0, 0, 0, 0, 0), (57, .invokevirtual 72, 8, 438, 1, 0), (60, .ireturn, 0, 0, 0, 0), (61, .aload_n 0, 0, 0, 0, 0), (62, .iconst 1, 0, 0, 0, 0), (63, .invokevirtual 72, 8, 438, 1, 0), (66, .ireturn, 0, 0, 0, 0), (67, .aload_n 0, 0, 0, 0, 0), (68, .iconst 0, 0, 0, 0, 0), (69, .invokevirtual 76, 9, 446, 1, 0), (72, .ireturn, 0, 0, 0, 0), (73, .aload_n 0, 0, 0, 0, 0), (74, .iconst 1, 0, 0, 0, 0), (75, .invokevirtual 76, 9, 446, 1, 0), (78, .ireturn, 0, 0, 0, 0)]
/-- ParallaxSheets.Filters weighted -/
def m_p_5 : List m_I := [(0, .iconst 0, 0, 0, 0, 0), (1, .istore_n 1, 0, 0, 0, 0), (2, .iconst 0, 0, 0, 0, 0), (3, .istore_n 2, 0, 0, 0, 0), (4, .iload_n 2, 0, 0, 0, 0), (5, .bipush 9, 0, 0, 0, 0), (7, .if_icmp .ge 25, 32, 0, 0, 0), (10, .iload_n 1, 0, 0, 0, 0), (11, .aload_n 0, 0, 0, 0, 0), (12, .getfield 9, 0, 0, 0, 90), (15, .iload_n 2, 0, 0, 0, 0), (16, .iaload, 0, 0, 0, 0), (17, .aload_n 0, 0, 0, 0, 0), (18, .getfield 22, 0, 3, 0, 93), (21, .iload_n 2, 0, 0, 0, 0), (22, .iaload, 0, 0, 0, 0), (23, .imul, 0, 0, 0, 0), (24, .iadd, 0, 0, 0, 0), (25, .istore_n 1, 0, 0, 0, 0), (26, .iinc 2 1, 0, 0, 0, 0), (29, .goto (-25), 4, 0, 0, 0), (32, .iload_n 1, 0, 0, 0, 0), (33, .aload_n 0, 0, 0, 0, 0), (34, .getfield 15, 0, 1, 0, 91), (37, .idiv, 0, 0, 0, 0), (38, .aload_n 0, 0, 0, 0, 0), (39, .getfield 19, 0, 2, 0, 92), (42, .iadd, 0, 0, 0, 0), (43, .ireturn, 0, 0, 0, 0)]
/-- ParallaxSheets.Filters middle -/
def m_p_6 : List m_I := [(0, .iconst 1, 0, 0, 0, 0), (1, .istore_n 1, 0, 0, 0, 0), (2, .iload_n 1, 0, 0, 0, 0), (3, .bipush 9, 0, 0, 0, 0), (5, .if_icmp .ge 61, 66, 0, 0, 0), (8, .aload_n 0, 0, 0, 0, 0), (9, .getfield 22, 0, 3, 0, 93), (12, .iload_n 1, 0, 0, 0, 0), (13, .iaload, 0, 0, 0, 0), (14, .istore_n 2, 0, 0, 0, 0), (15, .iload_n 1, 0, 0, 0, 0), (16, .istore_n 3, 0, 0, 0, 0), (17, .iload_n 3, 0, 0, 0, 0), (18, .ifCond .le 35, 53, 0, 0, 0), (21, .aload_n 0, 0, 0, 0, 0), (22, .getfield 22, 0, 3, 0, 93), (25, .iload_n 3, 0, 0, 0, 0), (26, .iconst 1, 0, 0, 0, 0), (27, .isub, 0, 0, 0, 0), (28, .iaload, 0, 0, 0, 0), (29, .iload_n 2, 0, 0, 0, 0), (30, .if_icmp .le 23, 53, 0, 0, 0), (33, .aload_n 0, 0, 0, 0, 0), (34, .getfield 22, 0, 3, 0, 93), (37, .iload_n 3, 0, 0, 0, 0), (38, .aload_n 0, 0, 0, 0, 0), (39, .getfield 22, 0, 3, 0, 93), (42, .iload_n 3, 0, 0, 0, 0), (43, .iconst 1, 0, 0, 0, 0), (44, .isub, 0, 0, 0, 0), (45, .iaload, 0, 0, 0, 0), (46, .iastore, 0, 0, 0, 0), (47, .iinc 3 (-1), 0, 0, 0, 0), (50, .goto (-33), 17, 0, 0, 0), (53, .aload_n 0, 0, 0, 0, 0), (54, .getfield 22, 0, 3, 0, 93), (57, .iload_n 3, 0, 0, 0, 0), (58, .iload_n 2, 0, 0, 0, 0), (59, .iastore, 0, 0, 0, 0), (60, .iinc 1 1, 0, 0, 0, 0), (63, .goto (-61), 2, 0, 0, 0), (66, .aload_n 0, 0, 0, 0, 0), (67, .getfield 22, 0, 3, 0, 93), (70, .iconst 4, 0, 0, 0, 0), (71, .iaload, 0, 0, 0, 0), (72, .ireturn, 0, 0, 0, 0)]
/-- ParallaxSheets.Filters edge -/
def m_p_7 : List m_I := [(0, .aload_n 0, 0, 0, 0, 0), (1, .getfield 22, 0, 3, 0, 93), (4, .iconst 2, 0, 0, 0, 0), (5, .iaload, 0, 0, 0, 0), (6, .iconst 2, 0, 0, 0, 0), (7, .aload_n 0, 0, 0, 0, 0), (8, .getfield 22, 0, 3, 0, 93), (11, .iconst 5, 0, 0, 0, 0), (12, .iaload, 0, 0, 0, 0), (13, .imul, 0, 0, 0, 0), (14, .iadd, 0, 0, 0, 0), (15, .aload_n 0, 0, 0, 0, 0), (16, .getfield 22, 0, 3, 0, 93), (19, .bipush 8, 0, 0, 0, 0), (21, .iaload, 0, 0, 0, 0), (22, .iadd, 0, 0, 0, 0), (23, .aload_n 0, 0, 0, 0, 0), (24, .getfield 22, 0, 3, 0, 93), (27, .iconst 0, 0, 0, 0, 0), (28, .iaload, 0, 0, 0, 0), (29, .isub, 0, 0, 0, 0), (30, .iconst 2, 0, 0, 0, 0), (31, .aload_n 0, 0, 0, 0, 0), (32, .getfield 22, 0, 3, 0, 93), (35, .iconst 3, 0, 0, 0, 0), (36, .iaload, 0, 0, 0, 0), (37, .imul, 0, 0, 0, 0), (38, .isub, 0, 0, 0, 0), (39, .aload_n 0, 0, 0, 0, 0), (40, .getfield 22, 0, 3, 0, 93), (43, .bipush 6, 0, 0, 0, 0), (45, .iaload, 0, 0, 0, 0), (46, .isub, 0, 0, 0, 0), (47, .istore_n 1, 0, 0, 0, 0), (48, .aload_n 0, 0, 0, 0, 0), (49, .getfield 22, 0, 3, 0, 93), (52, .bipush 6, 0, 0, 0, 0), (54, .iaload, 0, 0, 0, 0), (55, .iconst 2, 0, 0, 0, 0), (56, .aload_n 0, 0, 0, 0, 0), (57, .getfield 22, 0, 3, 0, 93), (60, .bipush 7, 0, 0, 0, 0), (62, .iaload, 0, 0, 0, 0), (63, .imul, 0, 0, 0, 0), (64, .iadd, 0, 0, 0, 0), (65, .aload_n 0, 0, 0, 0, 0), (66, .getfield 22, 0, 3, 0, 93), (69, .bipush 8, 0, 0, 0, 0), (71, .iaload, 0, 0, 0, 0), (72, .iadd, 0, 0, 0, 0), (73, .aload_n 0, 0, 0, 0, 0), (74, .getfield 22, 0, 3, 0, 93), (77, .iconst 0, 0, 0, 0, 0), (78, .iaload, 0, 0, 0, 0), (79, .isub, 0, 0, 0, 0), (80, .iconst 2, 0, 0, 0, 0), (81, .aload_n 0, 0, 0, 0, 0), (82, .getfield 22, 0, 3, 0, 93), (85, .iconst 1, 0, 0, 0, 0), (86, .iaload, 0, 0, 0, 0), (87, .imul, 0, 0, 0, 0), (88, .isub, 0, 0, 0, 0), (89, .aload_n 0, 0, 0, 0, 0), (90, .getfield 22, 0, 3, 0, 93), (93, .iconst 2, 0, 0, 0, 0), (94, .iaload, 0, 0, 0, 0), (95, .isub, 0, 0, 0, 0), (96, .istore_n 2, 0, 0, 0, 0), (97, .iload_n 1, 0, 0, 0, 0), (98, .invokestatic 79, 0, 435, 5, 0), (101, .iload_n 2, 0, 0, 0, 0), (102, .invokestatic 79, 0, 435, 5, 0), (105, .iadd, 0, 0, 0, 0), (106, .iconst 4, 0, 0, 0, 0), (107, .idiv, 0, 0, 0, 0), (108, .ireturn, 0, 0, 0, 0)]
/-- ParallaxSheets.Filters least -/
def m_p_8 : List m_I := [(0, .aload_n 0, 0, 0, 0, 0), (1, .getfield 22, 0, 3, 0, 93), (4, .iconst 4, 0, 0, 0, 0), (5, .iaload, 0, 0, 0, 0), (6, .istore_n 2, 0, 0, 0, 0), (7, .iconst 0, 0, 0, 0, 0), (8, .istore_n 3, 0, 0, 0, 0), (9, .iload_n 3, 0, 0, 0, 0), (10, .bipush 9, 0, 0, 0, 0), (12, .if_icmp .ge 31, 43, 0, 0, 0), (15, .iload_n 1, 0, 0, 0, 0), (16, .ifCond .eq 10, 26, 0, 0, 0), (19, .iload_n 3, 0, 0, 0, 0), (20, .invokestatic 84, 10, 442, 1, 0), (23, .ifCond .eq 14, 37, 0, 0, 0), (26, .iload_n 2, 0, 0, 0, 0), (27, .aload_n 0, 0, 0, 0, 0), (28, .getfield 22, 0, 3, 0, 93), (31, .iload_n 3, 0, 0, 0, 0), (32, .iaload, 0, 0, 0, 0), (33, .invokestatic 88, 0, 445, 4, 0), (36, .istore_n 2, 0, 0, 0, 0), (37, .iinc 3 1, 0, 0, 0, 0), (40, .goto (-31), 9, 0, 0, 0), (43, .iload_n 2, 0, 0, 0, 0), (44, .ireturn, 0, 0, 0, 0)]
/-- ParallaxSheets.Filters greatest -/
def m_p_9 : List m_I := [(0, .aload_n 0, 0, 0, 0, 0), (1, .getfield 22, 0, 3, 0, 93), (4, .iconst 4, 0, 0, 0, 0), (5, .iaload, 0, 0, 0, 0), (6, .istore_n 2, 0, 0, 0, 0), (7, .iconst 0, 0, 0, 0, 0), (8, .istore_n 3, 0, 0, 0, 0), (9, .iload_n 3, 0, 0, 0, 0), (10, .bipush 9, 0, 0, 0, 0), (12, .if_icmp .ge 31, 43, 0, 0, 0), (15, .iload_n 1, 0, 0, 0, 0), (16, .ifCond .eq 10, 26, 0, 0, 0), (19, .iload_n 3, 0, 0, 0, 0), (20, .invokestatic 84, 10, 442, 1, 0), (23, .ifCond .eq 14, 37, 0, 0, 0), (26, .iload_n 2, 0, 0, 0, 0), (27, .aload_n 0, 0, 0, 0, 0), (28, .getfield 22, 0, 3, 0, 93), (31, .iload_n 3, 0, 0, 0, 0), (32, .iaload, 0, 0, 0, 0), (33, .invokestatic 91, 0, 450, 3, 0), (36, .istore_n 2, 0, 0, 0, 0), (37, .iinc 3 1, 0, 0, 0, 0), (40, .goto (-31), 9, 0, 0, 0), (43, .iload_n 2, 0, 0, 0, 0), (44, .ireturn, 0, 0, 0, 0)]
/-- ParallaxSheets.Filters isInCross -/
def m_p_10 : List m_I := [(0, .iload_n 0, 0, 0, 0, 0), (1, .iconst 4, 0, 0, 0, 0), (2, .if_icmp .eq 10, 12, 0, 0, 0), (5, .iload_n 0, 0, 0, 0, 0), (6, .iconst 2, 0, 0, 0, 0), (7, .irem, 0, 0, 0, 0), (8, .iconst 1, 0, 0, 0, 0), (9, .if_icmp .ne 7, 16, 0, 0, 0), (12, .iconst 1, 0, 0, 0, 0), (13, .goto 4, 17, 0, 0, 0), (16, .iconst 0, 0, 0, 0, 0), (17, .ireturn, 0, 0, 0, 0)]
/-- ParallaxSheets.Parts init -/
def m_p_11 : List m_I := [(0, .aload_n 0, 0, 0, 0, 0), (1, .invokespecial 3, 0, 127, 7, 0), (4, .aload_n 0, 0, 0, 0, 0), (5, .iconst 0, 0, 0, 0, 0), (6, .putfield 9, 1, 0, 0, 128), (9, .aload_n 0, 0, 0, 0, 0), (10, .sipush 256, 0, 0, 0, 0), (13, .newarray .int, 0, 81, 0, 0), (15, .putfield 15, 1, 1, 0, 130), (18, .aload_n 0, 0, 0, 0, 0), (19, .sipush 256, 0, 0, 0, 0), (22, .newarray .int, 0, 81, 0, 0), (24, .putfield 19, 1, 2, 0, 131), (27, .aload_n 0, 0, 0, 0, 0), (28, .iconst 0, 0, 0, 0, 0), (29, .putfield 22, 1, 3, 0, 132), (32, .aload_n 0, 0, 0, 0, 0), (33, .sipush 256, 0, 0, 0, 0), (36, .newarray .int, 0, 81, 0, 0), (38, .putfield 25, 1, 4, 0, 133), (41, .aload_n 0, 0, 0, 0, 0), (42, .sipush 256, 0, 0, 0, 0), (45, .newarray .boolean, 1, 154, 0, 0), (47, .putfield 28, 1, 5, 0, 134), (50, .aload_n 0, 0, 0, 0, 0), (51, .iconst 0, 0, 0, 0, 0), (52, .putfield 32, 1, 6, 0, 135), (55, .aload_n 0, 0, 0, 0, 0), (56, .iconst 0, 0, 0, 0, 0), (57, .putfield 35, 1, 7, 0, 136), (60, .return_, 0, 0, 0, 0)]
/-- ParallaxSheets.Parts find -/
def m_p_12 : List m_I := [(0, .aload_n 0, 0, 0, 0, 0), (1, .aload_n 1, 0, 0, 0, 0), (2, .getfield 38, 3, 0, 0, 61), (5, .putfield 32, 1, 6, 0, 135), (8, .aload_n 0, 0, 0, 0, 0), (9, .aload_n 1, 0, 0, 0, 0), (10, .getfield 41, 3, 1, 0, 67), (13, .putfield 35, 1, 7, 0, 136), (16, .aload_n 0, 0, 0, 0, 0), (17, .iconst 0, 0, 0, 0, 0), (18, .putfield 9, 1, 0, 0, 128), (21, .aload_n 0, 0, 0, 0, 0), (22, .aload_n 1, 0, 0, 0, 0), (23, .iload_n 3, 0, 0, 0, 0), (24, .iload 4, 0, 0, 0, 0), (26, .invokevirtual 42, 13, 546, 1, 0), (29, .iconst 0, 0, 0, 0, 0), (30, .istore 5, 0, 0, 0, 0), (32, .iload 5, 0, 0, 0, 0), (34, .aload_n 0, 0, 0, 0, 0), (35, .getfield 35, 1, 7, 0, 136), (38, .if_icmp .ge 60, 98, 0, 0, 0), (41, .iconst 0, 0, 0, 0, 0), (42, .istore 6, 0, 0, 0, 0), (44, .iload 6, 0, 0, 0, 0), (46, .aload_n 0, 0, 0, 0, 0), (47, .getfield 32, 1, 6, 0, 135), (50, .if_icmp .ge 42, 92, 0, 0, 0), (53, .aload_n 0, 0, 0, 0, 0), (54, .iload 6, 0, 0, 0, 0), (56, .iload 5, 0, 0, 0, 0), (58, .invokevirtual 46, 17, 550, 1, 0), (61, .sipush 256, 0, 0, 0, 0), (64, .if_icmp .ne 22, 86, 0, 0, 0), (67, .aload_n 0, 0, 0, 0, 0), (68, .iload 6, 0, 0, 0, 0), (70, .iload 5, 0, 0, 0, 0), (72, .iload_n 2, 0, 0, 0, 0), (73, .invokevirtual 50, 14, 554, 1, 0), (76, .aload_n 0, 0, 0, 0, 0), (77, .dup, 0, 0, 0, 0), (78, .getfield 9, 1, 0, 0, 128), (81, .iconst 1, 0, 0, 0, 0), (82, .iadd, 0, 0, 0, 0), (83, .putfield 9, 1, 0, 0, 128), (86, .iinc 6 1, 0, 0, 0, 0), (89, .goto (-45), 44, 0, 0, 0), (92, .iinc 5 1, 0, 0, 0, 0), (95, .goto (-63), 32, 0, 0, 0), (98, .return_, 0, 0, 0, 0)]
/-- ParallaxSheets.Parts markMembers -/
def m_p_13 : List m_I := [(0, .iconst 0, 0, 0, 0, 0), (1, .istore 4, 0, 0, 0, 0), (3, .iload 4, 0, 0, 0, 0), (5, .aload_n 0, 0, 0, 0, 0), (6, .getfield 32, 1, 6, 0, 135), (9, .aload_n 0, 0, 0, 0, 0), (10, .getfield 35, 1, 7, 0, 136), (13, .imul, 0, 0, 0, 0), (14, .if_icmp .ge 55, 69, 0, 0, 0), (17, .aload_n 1, 0, 0, 0, 0), (18, .getfield 54, 3, 2, 0, 73), (21, .iload 4, 0, 0, 0, 0), (23, .iaload, 0, 0, 0, 0), (24, .iload_n 2, 0, 0, 0, 0), (25, .if_icmp .lt 7, 32, 0, 0, 0), (28, .iconst 1, 0, 0, 0, 0), (29, .goto 4, 33, 0, 0, 0), (32, .iconst 0, 0, 0, 0, 0), (33, .iload_n 3, 0, 0, 0, 0), (34, .if_icmp .ne 7, 41, 0, 0, 0), (37, .iconst 1, 0, 0, 0, 0), (38, .goto 4, 42, 0, 0, 0), (41, .iconst 0, 0, 0, 0, 0), (42, .istore 5, 0, 0, 0, 0), (44, .aload_n 0, 0, 0, 0, 0), (45, .getfield 15, 1, 1, 0, 130), (48, .iload 4, 0, 0, 0, 0), (50, .iload 5, 0, 0, 0, 0), (52, .ifCond .eq 9, 61, 0, 0, 0), (55, .sipush 256, 0, 0, 0, 0), (58, .goto 4, 62, 0, 0, 0), (61, .iconst (-1), 0, 0, 0, 0), (62, .iastore, 0, 0, 0, 0), (63, .iinc 4 1, 0, 0, 0, 0), (66, .goto (-63), 3, 0, 0, 0), (69, .return_, 0, 0, 0, 0)]
/-- ParallaxSheets.Parts gather -/
def m_p_14 : List m_I := [(0, .aload_n 0, 0, 0, 0, 0), (1, .getfield 25, 1, 4, 0, 133), (4, .aload_n 0, 0, 0, 0, 0), (5, .getfield 9, 1, 0, 0, 128), (8, .iconst 0, 0, 0, 0, 0), (9, .iastore, 0, 0, 0, 0), (10, .aload_n 0, 0, 0, 0, 0), (11, .getfield 28, 1, 5, 0, 134), (14, .aload_n 0, 0, 0, 0, 0), (15, .getfield 9, 1, 0, 0, 128), (18, .iconst 0, 0, 0, 0, 0), (19, .bastore, 0, 0, 0, 0), (20, .aload_n 0, 0, 0, 0, 0), (21, .iconst 0, 0, 0, 0, 0), (22, .putfield 22, 1, 3, 0, 132), (25, .aload_n 0, 0, 0, 0, 0), (26, .iload_n 1, 0, 0, 0, 0), (27, .iload_n 2, 0, 0, 0, 0), (28, .invokevirtual 57, 15, 558, 1, 0), (31, .iconst 0, 0, 0, 0, 0), (32, .istore 4, 0, 0, 0, 0), (34, .iload 4, 0, 0, 0, 0), (36, .sipush 256, 0, 0, 0, 0), (39, .if_icmp .ge 52, 91, 0, 0, 0), (42, .aload_n 0, 0, 0, 0, 0), (43, .getfield 22, 1, 3, 0, 132), (46, .ifCond .le 45, 91, 0, 0, 0), (49, .aload_n 0, 0, 0, 0, 0), (50, .dup, 0, 0, 0, 0), (51, .getfield 22, 1, 3, 0, 132), (54, .iconst 1, 0, 0, 0, 0), (55, .isub, 0, 0, 0, 0), (56, .putfield 22, 1, 3, 0, 132), (59, .aload_n 0, 0, 0, 0, 0), (60, .getfield 19, 1, 2, 0, 131), (63, .aload_n 0, 0, 0, 0, 0), (64, .getfield 22, 1, 3, 0, 132), (67, .iaload, 0, 0, 0, 0), (68, .istore 5, 0, 0, 0, 0), (70, .aload_n 0, 0, 0, 0, 0), (71, .iload 5, 0, 0, 0, 0), (73, .bipush 16, 0, 0, 0, 0), (75, .irem, 0, 0, 0, 0), (76, .iload 5, 0, 0, 0, 0), (78, .bipush 16, 0, 0, 0, 0), (80, .idiv, 0, 0, 0, 0), (81, .iload_n 3, 0, 0, 0, 0), (82, .invokevirtual 61, 16, 562, 1, 0), (85, .iinc 4 1, 0, 0, 0, 0), (88, .goto (-54), 34, 0, 0, 0), (91, .return_, 0, 0, 0, 0)]
/-- ParallaxSheets.Parts join -/
def m_p_15 : List m_I := [(0, .aload_n 0, 0, 0, 0, 0), (1, .getfield 15, 1, 1, 0, 130), (4, .iload_n 2, 0, 0, 0, 0), (5, .aload_n 0, 0, 0, 0, 0), (6, .getfield 32, 1, 6, 0, 135), (9, .imul, 0, 0, 0, 0), (10, .iload_n 1, 0, 0, 0, 0), (11, .iadd, 0, 0, 0, 0), (12, .aload_n 0, 0, 0, 0, 0), (13, .getfield 9, 1, 0, 0, 128), (16, .iastore, 0, 0, 0, 0), (17, .aload_n 0, 0, 0, 0, 0), (18, .getfield 25, 1, 4, 0, 133), (21, .aload_n 0, 0, 0, 0, 0), (22, .getfield 9, 1, 0, 0, 128), (25, .dup2, 0, 0, 0, 0), (26, .iaload, 0, 0, 0, 0), (27, .iconst 1, 0, 0, 0, 0), (28, .iadd, 0, 0, 0, 0), (29, .iastore, 0, 0, 0, 0), (30, .iload_n 1, 0, 0, 0, 0), (31, .ifCond .eq 27, 58, 0, 0, 0), (34, .iload_n 2, 0, 0, 0, 0), (35, .ifCond .eq 23, 58, 0, 0, 0), (38, .iload_n 1, 0, 0, 0, 0), (39, .aload_n 0, 0, 0, 0, 0), (40, .getfield 32, 1, 6, 0, 135), (43, .iconst 1, 0, 0, 0, 0), (44, .isub, 0, 0, 0, 0), (45, .if_icmp .eq 13, 58, 0, 0, 0), (48, .iload_n 2, 0, 0, 0, 0), (49, .aload_n 0, 0, 0, 0, 0), (50, .getfield 35, 1, 7, 0, 136), (53, .iconst 1, 0, 0, 0, 0), (54, .isub, 0, 0, 0, 0), (55, .if_icmp .ne 13, 68, 0, 0, 0), (58, .aload_n 0, 0, 0, 0, 0), (59, .getfield 28, 1, 5, 0, 134), (62, .aload_n 0, 0, 0, 0, 0), (63, .getfield 9, 1, 0, 0, 128), (66, .iconst 1, 0, 0, 0, 0), (67, .bastore, 0, 0, 0, 0), (68, .aload_n 0, 0, 0, 0, 0), (69, .getfield 19, 1, 2, 0, 131), (72, .aload_n 0, 0, 0, 0, 0), (73, .getfield 22, 1, 3, 0, 132), (76, .iload_n 2, 0, 0, 0, 0), (77, .bipush 16, 0, 0, 0, 0), (79, .imul, 0, 0, 0, 0), (80, .iload_n 1, 0, 0, 0, 0), (81, .iadd, 0, 0, 0, 0), (82, .iastore, 0, 0, 0, 0), (83, .aload_n 0, 0, 0, 0, 0), (84, .dup, 0, 0, 0, 0), (85, .getfield 22, 1, 3, 0, 132), (88, .iconst 1, 0, 0, 0, 0), (89, .iadd, 0, 0, 0, 0), (90, .putfield 22, 1, 3, 0, 132), (93, .return_, 0, 0, 0, 0)]
/-- ParallaxSheets.Parts joinNeighbours -/
def m_p_16 : List m_I := [(0, .iconst (-1), 0, 0, 0, 0), (1, .istore 4, 0, 0, 0, 0), (3, .iload 4, 0, 0, 0, 0), (5, .iconst 1, 0, 0, 0, 0), (6, .if_icmp .gt 82, 88, 0, 0, 0), (9, .iconst (-1), 0, 0, 0, 0), (10, .istore 5, 0, 0, 0, 0), (12, .iload 5, 0, 0, 0, 0), (14, .iconst 1, 0, 0, 0, 0), (15, .if_icmp .gt 67, 82, 0, 0, 0), (18, .iload_n 3, 0, 0, 0, 0), (19, .bipush 8, 0, 0, 0, 0), (21, .if_icmp .eq 13, 34, 0, 0, 0), (24, .iload 5, 0, 0, 0, 0), (26, .ifCond .eq 8, 34, 0, 0, 0), (29, .iload 4, 0, 0, 0, 0), (31, .ifCond .ne 7, 38, 0, 0, 0), (34, .iconst 1, 0, 0, 0, 0), (35, .goto 4, 39, 0, 0, 0), (38, .iconst 0, 0, 0, 0, 0), (39, .istore 6, 0, 0, 0, 0), (41, .iload 6, 0, 0, 0, 0), (43, .ifCond .eq 33, 76, 0, 0, 0), (46, .aload_n 0, 0, 0, 0, 0), (47, .iload_n 1, 0, 0, 0, 0), (48, .iload 5, 0, 0, 0, 0), (50, .iadd, 0, 0, 0, 0), (51, .iload_n 2, 0, 0, 0, 0), (52, .iload 4, 0, 0, 0, 0), (54, .iadd, 0, 0, 0, 0), (55, .invokevirtual 46, 17, 550, 1, 0), (58, .sipush 256, 0, 0, 0, 0), (61, .if_icmp .ne 15, 76, 0, 0, 0), (64, .aload_n 0, 0, 0, 0, 0), (65, .iload_n 1, 0, 0, 0, 0), (66, .iload 5, 0, 0, 0, 0), (68, .iadd, 0, 0, 0, 0), (69, .iload_n 2, 0, 0, 0, 0), (70, .iload 4, 0, 0, 0, 0), (72, .iadd, 0, 0, 0, 0), (73, .invokevirtual 57, 15, 558, 1, 0), (76, .iinc 5 1, 0, 0, 0, 0), (79, .goto (-67), 12, 0, 0, 0), (82, .iinc 4 1, 0, 0, 0, 0), (85, .goto (-82), 3, 0, 0, 0), (88, .return_, 0, 0, 0, 0)]
/-- ParallaxSheets.Parts numberAt -/
def m_p_17 : List m_I := [(0, .iload_n 1, 0, 0, 0, 0), (1, .ifCond .lt 23, 24, 0, 0, 0), (4, .iload_n 2, 0, 0, 0, 0), (5, .ifCond .lt 19, 24, 0, 0, 0), (8, .iload_n 1, 0, 0, 0, 0), (9, .aload_n 0, 0, 0, 0, 0), (10, .getfield 32, 1, 6, 0, 135), (13, .if_icmp .ge 11, 24, 0, 0, 0), (16, .iload_n 2, 0, 0, 0, 0), (17, .aload_n 0, 0, 0, 0, 0), (18, .getfield 35, 1, 7, 0, 136), (21, .if_icmp .lt 5, 26, 0, 0, 0), (24, .iconst (-1), 0, 0, 0, 0), (25, .ireturn, 0, 0, 0, 0), (26, .aload_n 0, 0, 0, 0, 0), (27, .getfield 15, 1, 1, 0, 130), (30, .iload_n 2, 0, 0, 0, 0), (31, .aload_n 0, 0, 0, 0, 0), (32, .getfield 32, 1, 6, 0, 135), (35, .imul, 0, 0, 0, 0), (36, .iload_n 1, 0, 0, 0, 0), (37, .iadd, 0, 0, 0, 0), (38, .iaload, 0, 0, 0, 0), (39, .ireturn, 0, 0, 0, 0)]
/-- ParallaxSheets.Parts awayFromEdges -/
def m_p_18 : List m_I := [(0, .iconst 0, 0, 0, 0, 0), (1, .istore_n 1, 0, 0, 0, 0), (2, .iconst 0, 0, 0, 0, 0), (3, .istore_n 2, 0, 0, 0, 0), (4, .iload_n 2, 0, 0, 0, 0), (5, .aload_n 0, 0, 0, 0, 0), (6, .getfield 9, 1, 0, 0, 128), (9, .if_icmp .ge 21, 30, 0, 0, 0), (12, .aload_n 0, 0, 0, 0, 0), (13, .getfield 28, 1, 5, 0, 134), (16, .iload_n 2, 0, 0, 0, 0), (17, .baload, 0, 0, 0, 0), (18, .ifCond .ne 6, 24, 0, 0, 0), (21, .iinc 1 1, 0, 0, 0, 0), (24, .iinc 2 1, 0, 0, 0, 0), (27, .goto (-23), 4, 0, 0, 0), (30, .iload_n 1, 0, 0, 0, 0), (31, .ireturn, 0, 0, 0, 0)]
/-- ParallaxSheets.Parts factOf -/
def m_p_19 : List m_I := [(0, .iload_n 2, 0, 0, 0, 0), (1, .ifCond .ne 10, 11, 0, 0, 0), (4, .aload_n 0, 0, 0, 0, 0), (5, .getfield 25, 1, 4, 0, 133), (8, .iload_n 1, 0, 0, 0, 0), (9, .iaload, 0, 0, 0, 0), (10, .ireturn, 0, 0, 0, 0), (11, .iload_n 2, 0, 0, 0, 0), (12, .iconst 5, 0, 0, 0, 0), (13, .if_icmp .ne 9, 22, 0, 0, 0), (16, .aload_n 0, 0, 0, 0, 0), (17, .iload_n 1, 0, 0, 0, 0), (18, .invokevirtual 64, 21, 591, 1, 0), (21, .ireturn, 0, 0, 0, 0), (22, .aload_n 0, 0, 0, 0, 0), (23, .iload_n 1, 0, 0, 0, 0), (24, .iload_n 2, 0, 0, 0, 0), (25, .invokevirtual 68, 20, 599, 1, 0), (28, .ireturn, 0, 0, 0, 0)]
/-- ParallaxSheets.Parts bound -/
def m_p_20 : List m_I := [(0, .iload_n 2, 0, 0, 0, 0), (1, .iconst 2, 0, 0, 0, 0), (2, .if_icmp .gt 7, 9, 0, 0, 0), (5, .iconst 1, 0, 0, 0, 0), (6, .goto 4, 10, 0, 0, 0), (9, .iconst 0, 0, 0, 0, 0), (10, .istore_n 3, 0, 0, 0, 0), (11, .iload_n 3, 0, 0, 0, 0), (12, .ifCond .eq 8, 20, 0, 0, 0), (15, .bipush 16, 0, 0, 0, 0), (17, .goto 4, 21, 0, 0, 0), (20, .iconst 0, 0, 0, 0, 0), (21, .istore 4, 0, 0, 0, 0), (23, .iconst 0, 0, 0, 0, 0), (24, .istore 5, 0, 0, 0, 0), (26, .iload 5, 0, 0, 0, 0), (28, .aload_n 0, 0, 0, 0, 0), (29, .getfield 35, 1, 7, 0, 136), (32, .if_icmp .ge 78, 110, 0, 0, 0), (35, .iconst 0, 0, 0, 0, 0), (36, .istore 6, 0, 0, 0, 0), (38, .iload 6, 0, 0, 0, 0), (40, .aload_n 0, 0, 0, 0, 0), (41, .getfield 32, 1, 6, 0, 135), (44, .if_icmp .ge 60, 104, 0, 0, 0), (47, .aload_n 0, 0, 0, 0, 0), (48, .iload 6, 0, 0, 0, 0), (50, .iload 5, 0, 0, 0, 0), (52, .invokevirtual 46, 17, 550, 1, 0), (55, .iload_n 1, 0, 0, 0, 0), (56, .if_icmp .ne 42, 98, 0, 0, 0), (59, .iload_n 2, 0, 0, 0, 0), (60, .iconst 2, 0, 0, 0, 0), (61, .irem, 0, 0, 0, 0), (62, .iconst 1, 0, 0, 0, 0), (63, .if_icmp .ne 8, 71, 0, 0, 0), (66, .iload 6, 0, 0, 0, 0), (68, .goto 5, 73, 0, 0, 0), (71, .iload 5, 0, 0, 0, 0), (73, .istore 7, 0, 0, 0, 0), (75, .iload_n 3, 0, 0, 0, 0), (76, .ifCond .eq 13, 89, 0, 0, 0), (79, .iload 4, 0, 0, 0, 0), (81, .iload 7, 0, 0, 0, 0), (83, .invokestatic 71, 0, 603, 4, 0), (86, .goto 10, 96, 0, 0, 0), (89, .iload 4, 0, 0, 0, 0), (91, .iload 7, 0, 0, 0, 0), (93, .invokestatic 76, 0, 604, 3, 0), (96, .istore 4, 0, 0, 0, 0), (98, .iinc 6 1, 0, 0, 0, 0), (101, .goto (-63), 38, 0, 0, 0), (104, .iinc 5 1, 0, 0, 0, 0), (107, .goto (-81), 26, 0, 0, 0), (110, .iload 4, 0, 0, 0, 0), (112, .ireturn, 0, 0, 0, 0)]
/-- ParallaxSheets.Parts bareSides -/
def m_p_21 : List m_I := [(0, .iconst 0, 0, 0, 0, 0), (1, .istore_n 2, 0, 0, 0, 0), (2, .iconst 0, 0, 0, 0, 0), (3, .istore_n 3, 0, 0, 0, 0), (4, .iload_n 3, 0, 0, 0, 0), (5, .aload_n 0, 0, 0, 0, 0), (6, .getfield 35, 1, 7, 0, 136), (9, .if_icmp .ge 80, 89, 0, 0, 0), (12, .iconst 0, 0, 0, 0, 0), (13, .istore 4, 0, 0, 0, 0), (15, .iload 4, 0, 0, 0, 0), (17, .aload_n 0, 0, 0, 0, 0), (18, .getfield 32, 1, 6, 0, 135), (21, .if_icmp .ge 62, 83, 0, 0, 0), (24, .aload_n 0, 0, 0, 0, 0), (25, .iload 4, 0, 0, 0, 0), (27, .iload_n 3, 0, 0, 0, 0), (28, .invokevirtual 46, 17, 550, 1, 0), (31, .iload_n 1, 0, 0, 0, 0), (32, .if_icmp .ne 45, 77, 0, 0, 0), (35, .iload_n 2, 0, 0, 0, 0), (36, .aload_n 0, 0, 0, 0, 0), (37, .iload 4, 0, 0, 0, 0), (39, .iconst 1, 0, 0, 0, 0), (40, .isub, 0, 0, 0, 0), (41, .iload_n 3, 0, 0, 0, 0), (42, .invokevirtual 79, 22, 595, 1, 0), (45, .aload_n 0, 0, 0, 0, 0), (46, .iload 4, 0, 0, 0, 0), (48, .iconst 1, 0, 0, 0, 0), (49, .iadd, 0, 0, 0, 0), (50, .iload_n 3, 0, 0, 0, 0), (51, .invokevirtual 79, 22, 595, 1, 0), (54, .iadd, 0, 0, 0, 0), (55, .aload_n 0, 0, 0, 0, 0), (56, .iload 4, 0, 0, 0, 0), (58, .iload_n 3, 0, 0, 0, 0), (59, .iconst 1, 0, 0, 0, 0), (60, .isub, 0, 0, 0, 0), (61, .invokevirtual 79, 22, 595, 1, 0), (64, .iadd, 0, 0, 0, 0), (65, .aload_n 0, 0, 0, 0, 0), (66, .iload 4, 0, 0, 0, 0), (68, .iload_n 3, 0, 0, 0, 0), (69, .iconst 1, 0, 0, 0, 0), (70, .iadd, 0, 0, 0, 0), (71, .invokevirtual 79, 22, 595, 1, 0), (74, .iadd, 0, 0, 0, 0), (75, .iadd, 0, 0, 0, 0), (76, .istore_n 2, 0, 0, 0, 0), (77, .iinc 4 1, 0, 0, 0, 0), (80, .goto (-65), 15, 0, 0, 0), (83, .iinc 3 1, 0, 0, 0, 0), (86, .goto (-82), 4, 0, 0, 0), (89, .iload_n 2, 0, 0, 0, 0), (90, .ireturn, 0, 0, 0, 0)]
/-- ParallaxSheets.Parts bareSide -/
def m_p_22 : List m_I := [(0, .aload_n 0, 0, 0, 0, 0), (1, .iload_n 1, 0, 0, 0, 0), (2, .iload_n 2, 0, 0, 0, 0), (3, .invokevirtual 46, 17, 550, 1, 0), (6, .iconst (-1), 0, 0, 0, 0), (7, .if_icmp .ne 7, 14, 0, 0, 0), (10, .iconst 1, 0, 0, 0, 0), (11, .goto 4, 15, 0, 0, 0), (14, .iconst 0, 0, 0, 0, 0), (15, .ireturn, 0, 0, 0, 0)]
/-- ParallaxSheets.Seams init -/
def m_p_23 : List m_I := [(0, .aload_n 0, 0, 0, 0, 0), (1, .invokespecial 3, 0, 160, 7, 0), (4, .aload_n 0, 0, 0, 0, 0), (5, .iconst 0, 0, 0, 0, 0), (6, .putfield 9, 2, 0, 0, 163), (9, .aload_n 0, 0, 0, 0, 0), (10, .bipush 16, 0, 0, 0, 0), (12, .newarray .int, 0, 81, 0, 0), (14, .putfield 15, 2, 1, 0, 165), (17, .aload_n 0, 0, 0, 0, 0), (18, .sipush 256, 0, 0, 0, 0), (21, .newarray .int, 0, 81, 0, 0), (23, .putfield 19, 2, 2, 0, 167), (26, .aload_n 0, 0, 0, 0, 0), (27, .new 22, 3, 161, 0, 0), (30, .dup, 0, 0, 0, 0), (31, .invokespecial 24, 30, 162, 2, 0), (34, .putfield 25, 2, 3, 0, 168), (37, .return_, 0, 0, 0, 0)]
/-- ParallaxSheets.Seams find -/
def m_p_24 : List m_I := [(0, .iconst 0, 0, 0, 0, 0), (1, .istore_n 2, 0, 0, 0, 0), (2, .iload_n 2, 0, 0, 0, 0), (3, .aload_n 1, 0, 0, 0, 0), (4, .getfield 29, 3, 1, 0, 66), (7, .if_icmp .ge 55, 62, 0, 0, 0), (10, .iconst 0, 0, 0, 0, 0), (11, .istore_n 3, 0, 0, 0, 0), (12, .iload_n 3, 0, 0, 0, 0), (13, .aload_n 1, 0, 0, 0, 0), (14, .getfield 32, 3, 0, 0, 62), (17, .if_icmp .ge 39, 56, 0, 0, 0), (20, .aload_n 0, 0, 0, 0, 0), (21, .getfield 19, 2, 2, 0, 167), (24, .iload_n 2, 0, 0, 0, 0), (25, .aload_n 1, 0, 0, 0, 0), (26, .getfield 32, 3, 0, 0, 62), (29, .imul, 0, 0, 0, 0), (30, .iload_n 3, 0, 0, 0, 0), (31, .iadd, 0, 0, 0, 0), (32, .aload_n 1, 0, 0, 0, 0), (33, .iload_n 3, 0, 0, 0, 0), (34, .iload_n 2, 0, 0, 0, 0), (35, .invokestatic 35, 26, 630, 1, 0), (38, .aload_n 0, 0, 0, 0, 0), (39, .aload_n 1, 0, 0, 0, 0), (40, .getfield 32, 3, 0, 0, 62), (43, .iload_n 3, 0, 0, 0, 0), (44, .iload_n 2, 0, 0, 0, 0), (45, .invokevirtual 39, 25, 635, 1, 0), (48, .iadd, 0, 0, 0, 0), (49, .iastore, 0, 0, 0, 0), (50, .iinc 3 1, 0, 0, 0, 0), (53, .goto (-41), 12, 0, 0, 0), (56, .iinc 2 1, 0, 0, 0, 0), (59, .goto (-57), 2, 0, 0, 0), (62, .aload_n 1, 0, 0, 0, 0), (63, .getfield 29, 3, 1, 0, 66), (66, .iconst 1, 0, 0, 0, 0), (67, .isub, 0, 0, 0, 0), (68, .istore_n 2, 0, 0, 0, 0), (69, .aload_n 0, 0, 0, 0, 0), (70, .getfield 15, 2, 1, 0, 165), (73, .iload_n 2, 0, 0, 0, 0), (74, .aload_n 0, 0, 0, 0, 0), (75, .aload_n 1, 0, 0, 0, 0), (76, .getfield 32, 3, 0, 0, 62), (79, .iload_n 2, 0, 0, 0, 0), (80, .iconst 0, 0, 0, 0, 0), (81, .aload_n 1, 0, 0, 0, 0), (82, .getfield 32, 3, 0, 0, 62), (85, .iconst 1, 0, 0, 0, 0), (86, .isub, 0, 0, 0, 0), (87, .invokevirtual 43, 27, 639, 1, 0), (90, .iastore, 0, 0, 0, 0), (91, .aload_n 0, 0, 0, 0, 0), (92, .aload_n 0, 0, 0, 0, 0), (93, .getfield 19, 2, 2, 0, 167), (96, .iload_n 2, 0, 0, 0, 0), (97, .aload_n 1, 0, 0, 0, 0), (98, .getfield 32, 3, 0, 0, 62), (101, .imul, 0, 0, 0, 0), (102, .aload_n 0, 0, 0, 0, 0), (103, .getfield 15, 2, 1, 0, 165), (106, .iload_n 2, 0, 0, 0, 0), (107, .iaload, 0, 0, 0, 0), (108, .iadd, 0, 0, 0, 0), (109, .iaload, 0, 0, 0, 0), (110, .putfield 9, 2, 0, 0, 163), (113, .iload_n 2, 0, 0, 0, 0), (114, .iconst 1, 0, 0, 0, 0), (115, .isub, 0, 0, 0, 0), (116, .istore_n 3, 0, 0, 0, 0), (117, .iload_n 3, 0, 0, 0, 0), (118, .ifCond .lt 44, 162, 0, 0, 0), (121, .aload_n 0, 0, 0, 0, 0), (122, .getfield 15, 2, 1, 0, 165), (125, .iload_n 3, 0, 0, 0, 0), (126, .aload_n 0, 0, 0, 0, 0), (127, .aload_n 1, 0, 0, 0, 0), (128, .getfield 32, 3, 0, 0, 62), (131, .iload_n 3, 0, 0, 0, 0), (132, .aload_n 0, 0, 0, 0, 0), (133, .getfield 15, 2, 1, 0, 165), (136, .iload_n 3, 0, 0, 0, 0), (137, .iconst 1, 0, 0, 0, 0), (138, .iadd, 0, 0, 0, 0), (139, .iaload, 0, 0, 0, 0), (140, .iconst 1, 0, 0, 0, 0), (141, .isub, 0, 0, 0, 0), (142, .aload_n 0, 0, 0, 0, 0), (143, .getfield 15, 2, 1, 0, 165), (146, .iload_n 3, 0, 0, 0, 0), (147, .iconst 1, 0, 0, 0, 0), (148, .iadd, 0, 0, 0, 0), (149, .iaload, 0, 0, 0, 0), (150, .iconst 1, 0, 0, 0, 0), (151, .iadd, 0, 0, 0, 0), (152, .invokevirtual 43, 27, 639, 1, 0), (155, .iastore, 0, 0, 0, 0), (156, .iinc 3 (-1), 0, 0, 0, 0), (159, .goto (-42), 117, 0, 0, 0), (162, .return_, 0, 0, 0, 0)]
/-- ParallaxSheets.Seams leastAbove -/
def m_p_25 : List m_I := [(0, .iload_n 3, 0, 0, 0, 0), (1, .ifCond .ne 5, 6, 0, 0, 0), (4, .iconst 0, 0, 0, 0, 0), (5, .ireturn, 0, 0, 0, 0), (6, .aload_n 0, 0, 0, 0, 0), (7, .getfield 19, 2, 2, 0, 167), (10, .iload_n 3, 0, 0, 0, 0), (11, .iconst 1, 0, 0, 0, 0), (12, .isub, 0, 0, 0, 0), (13, .iload_n 1, 0, 0, 0, 0), (14, .imul, 0, 0, 0, 0), (15, .aload_n 0, 0, 0, 0, 0), (16, .iload_n 1, 0, 0, 0, 0), (17, .iload_n 3, 0, 0, 0, 0), (18, .iconst 1, 0, 0, 0, 0), (19, .isub, 0, 0, 0, 0), (20, .iload_n 2, 0, 0, 0, 0), (21, .iconst 1, 0, 0, 0, 0), (22, .isub, 0, 0, 0, 0), (23, .iload_n 2, 0, 0, 0, 0), (24, .iconst 1, 0, 0, 0, 0), (25, .iadd, 0, 0, 0, 0), (26, .invokevirtual 43, 27, 639, 1, 0), (29, .iadd, 0, 0, 0, 0), (30, .iaload, 0, 0, 0, 0), (31, .ireturn, 0, 0, 0, 0)]
/-- ParallaxSheets.Seams costOf -/
def m_p_26 : List m_I := [(0, .aload_n 0, 0, 0, 0, 0), (1, .iload_n 1, 0, 0, 0, 0), (2, .iconst 1, 0, 0, 0, 0), (3, .iadd, 0, 0, 0, 0), (4, .iload_n 2, 0, 0, 0, 0), (5, .invokevirtual 47, 33, 633, 1, 0), (8, .aload_n 0, 0, 0, 0, 0), (9, .iload_n 1, 0, 0, 0, 0), (10, .iconst 1, 0, 0, 0, 0), (11, .isub, 0, 0, 0, 0), (12, .iload_n 2, 0, 0, 0, 0), (13, .invokevirtual 47, 33, 633, 1, 0), (16, .isub, 0, 0, 0, 0), (17, .invokestatic 51, 0, 634, 5, 0), (20, .aload_n 0, 0, 0, 0, 0), (21, .iload_n 1, 0, 0, 0, 0), (22, .iload_n 2, 0, 0, 0, 0), (23, .iconst 1, 0, 0, 0, 0), (24, .iadd, 0, 0, 0, 0), (25, .invokevirtual 47, 33, 633, 1, 0), (28, .aload_n 0, 0, 0, 0, 0), (29, .iload_n 1, 0, 0, 0, 0), (30, .iload_n 2, 0, 0, 0, 0), (31, .iconst 1, 0, 0, 0, 0), (32, .isub, 0, 0, 0, 0), (33, .invokevirtual 47, 33, 633, 1, 0), (36, .isub, 0, 0, 0, 0), (37, .invokestatic 51, 0, 634, 5, 0), (40, .iadd, 0, 0, 0, 0), (41, .ireturn, 0, 0, 0, 0)]
/-- ParallaxSheets.Seams bestColumn -/
def m_p_27 : List m_I := [(0, .iconst 0, 0, 0, 0, 0), (1, .iload_n 3, 0, 0, 0, 0), (2, .invokestatic 57, 0, 643, 3, 0), (5, .istore 5, 0, 0, 0, 0), (7, .iload 5, 0, 0, 0, 0), (9, .iconst 1, 0, 0, 0, 0), (10, .iadd, 0, 0, 0, 0), (11, .istore 6, 0, 0, 0, 0), (13, .iload 6, 0, 0, 0, 0), (15, .iload 4, 0, 0, 0, 0), (17, .iload_n 1, 0, 0, 0, 0), (18, .iconst 1, 0, 0, 0, 0), (19, .isub, 0, 0, 0, 0), (20, .invokestatic 60, 0, 644, 4, 0), (23, .if_icmp .gt 38, 61, 0, 0, 0), (26, .aload_n 0, 0, 0, 0, 0), (27, .getfield 19, 2, 2, 0, 167), (30, .iload_n 2, 0, 0, 0, 0), (31, .iload_n 1, 0, 0, 0, 0), (32, .imul, 0, 0, 0, 0), (33, .iload 6, 0, 0, 0, 0), (35, .iadd, 0, 0, 0, 0), (36, .iaload, 0, 0, 0, 0), (37, .aload_n 0, 0, 0, 0, 0), (38, .getfield 19, 2, 2, 0, 167), (41, .iload_n 2, 0, 0, 0, 0), (42, .iload_n 1, 0, 0, 0, 0), (43, .imul, 0, 0, 0, 0), (44, .iload 5, 0, 0, 0, 0), (46, .iadd, 0, 0, 0, 0), (47, .iaload, 0, 0, 0, 0), (48, .if_icmp .ge 7, 55, 0, 0, 0), (51, .iload 6, 0, 0, 0, 0), (53, .istore 5, 0, 0, 0, 0), (55, .iinc 6 1, 0, 0, 0, 0), (58, .goto (-45), 13, 0, 0, 0), (61, .iload 5, 0, 0, 0, 0), (63, .ireturn, 0, 0, 0, 0)]
/-- ParallaxSheets.Seams takeOut -/
def m_p_28 : List m_I := [(0, .aload_n 0, 0, 0, 0, 0), (1, .getfield 25, 2, 3, 0, 168), (4, .aload_n 1, 0, 0, 0, 0), (5, .getfield 32, 3, 0, 0, 62), (8, .iconst 1, 0, 0, 0, 0), (9, .isub, 0, 0, 0, 0), (10, .aload_n 1, 0, 0, 0, 0), (11, .getfield 29, 3, 1, 0, 66), (14, .invokevirtual 63, 32, 649, 1, 0), (17, .iconst 0, 0, 0, 0, 0), (18, .istore_n 2, 0, 0, 0, 0), (19, .iload_n 2, 0, 0, 0, 0), (20, .aload_n 0, 0, 0, 0, 0), (21, .getfield 25, 2, 3, 0, 168), (24, .getfield 29, 3, 1, 0, 66), (27, .if_icmp .ge 59, 86, 0, 0, 0), (30, .iconst 0, 0, 0, 0, 0), (31, .istore_n 3, 0, 0, 0, 0), (32, .iload_n 3, 0, 0, 0, 0), (33, .aload_n 0, 0, 0, 0, 0), (34, .getfield 25, 2, 3, 0, 168), (37, .getfield 32, 3, 0, 0, 62), (40, .if_icmp .ge 40, 80, 0, 0, 0), (43, .aload_n 0, 0, 0, 0, 0), (44, .getfield 25, 2, 3, 0, 168), (47, .iload_n 3, 0, 0, 0, 0), (48, .iload_n 2, 0, 0, 0, 0), (49, .aload_n 1, 0, 0, 0, 0), (50, .iload_n 3, 0, 0, 0, 0), (51, .aload_n 0, 0, 0, 0, 0), (52, .getfield 15, 2, 1, 0, 165), (55, .iload_n 2, 0, 0, 0, 0), (56, .iaload, 0, 0, 0, 0), (57, .if_icmp .ge 7, 64, 0, 0, 0), (60, .iload_n 3, 0, 0, 0, 0), (61, .goto 6, 67, 0, 0, 0), (64, .iload_n 3, 0, 0, 0, 0), (65, .iconst 1, 0, 0, 0, 0), (66, .iadd, 0, 0, 0, 0), (67, .iload_n 2, 0, 0, 0, 0), (68, .invokevirtual 47, 33, 633, 1, 0), (71, .invokevirtual 67, 34, 650, 1, 0), (74, .iinc 3 1, 0, 0, 0, 0), (77, .goto (-45), 32, 0, 0, 0), (80, .iinc 2 1, 0, 0, 0, 0), (83, .goto (-64), 19, 0, 0, 0), (86, .aload_n 1, 0, 0, 0, 0), (87, .aload_n 0, 0, 0, 0, 0), (88, .getfield 25, 2, 3, 0, 168), (91, .invokevirtual 71, 38, 651, 1, 0), (94, .return_, 0, 0, 0, 0)]
/-- ParallaxSheets.Seams putIn -/
def m_p_29 : List m_I := [(0, .aload_n 0, 0, 0, 0, 0), (1, .getfield 25, 2, 3, 0, 168), (4, .aload_n 1, 0, 0, 0, 0), (5, .getfield 32, 3, 0, 0, 62), (8, .iconst 1, 0, 0, 0, 0), (9, .iadd, 0, 0, 0, 0), (10, .aload_n 1, 0, 0, 0, 0), (11, .getfield 29, 3, 1, 0, 66), (14, .invokevirtual 63, 32, 649, 1, 0), (17, .iconst 0, 0, 0, 0, 0), (18, .istore_n 2, 0, 0, 0, 0), (19, .iload_n 2, 0, 0, 0, 0), (20, .aload_n 0, 0, 0, 0, 0), (21, .getfield 25, 2, 3, 0, 168), (24, .getfield 29, 3, 1, 0, 66), (27, .if_icmp .ge 95, 122, 0, 0, 0), (30, .aload_n 0, 0, 0, 0, 0), (31, .getfield 15, 2, 1, 0, 165), (34, .iload_n 2, 0, 0, 0, 0), (35, .iaload, 0, 0, 0, 0), (36, .istore_n 3, 0, 0, 0, 0), (37, .iconst 0, 0, 0, 0, 0), (38, .istore 4, 0, 0, 0, 0), (40, .iload 4, 0, 0, 0, 0), (42, .aload_n 0, 0, 0, 0, 0), (43, .getfield 25, 2, 3, 0, 168), (46, .getfield 32, 3, 0, 0, 62), (49, .if_icmp .ge 39, 88, 0, 0, 0), (52, .aload_n 0, 0, 0, 0, 0), (53, .getfield 25, 2, 3, 0, 168), (56, .iload 4, 0, 0, 0, 0), (58, .iload_n 2, 0, 0, 0, 0), (59, .aload_n 1, 0, 0, 0, 0), (60, .iload 4, 0, 0, 0, 0), (62, .iload_n 3, 0, 0, 0, 0), (63, .if_icmp .gt 8, 71, 0, 0, 0), (66, .iload 4, 0, 0, 0, 0), (68, .goto 7, 75, 0, 0, 0), (71, .iload 4, 0, 0, 0, 0), (73, .iconst 1, 0, 0, 0, 0), (74, .isub, 0, 0, 0, 0), (75, .iload_n 2, 0, 0, 0, 0), (76, .invokevirtual 47, 33, 633, 1, 0), (79, .invokevirtual 67, 34, 650, 1, 0), (82, .iinc 4 1, 0, 0, 0, 0), (85, .goto (-45), 40, 0, 0, 0), (88, .aload_n 0, 0, 0, 0, 0), (89, .getfield 25, 2, 3, 0, 168), (92, .iload_n 3, 0, 0, 0, 0), (93, .iconst 1, 0, 0, 0, 0), (94, .iadd, 0, 0, 0, 0), (95, .iload_n 2, 0, 0, 0, 0), (96, .aload_n 1, 0, 0, 0, 0), (97, .iload_n 3, 0, 0, 0, 0), (98, .iload_n 2, 0, 0, 0, 0), (99, .invokevirtual 47, 33, 633, 1, 0), (102, .aload_n 1, 0, 0, 0, 0), (103, .iload_n 3, 0, 0, 0, 0), (104, .iconst 1, 0, 0, 0, 0), (105, .iadd, 0, 0, 0, 0), (106, .iload_n 2, 0, 0, 0, 0), (107, .invokevirtual 47, 33, 633, 1, 0), (110, .iadd, 0, 0, 0, 0), (111, .iconst 2, 0, 0, 0, 0), (112, .idiv, 0, 0, 0, 0), (113, .invokevirtual 67, 34, 650, 1, 0), (116, .iinc 2 1, 0, 0, 0, 0), (119, .goto (-100), 19, 0, 0, 0), (122, .aload_n 1, 0, 0, 0, 0), (123, .aload_n 0, 0, 0, 0, 0), (124, .getfield 25, 2, 3, 0, 168), (127, .invokevirtual 71, 38, 651, 1, 0), (130, .return_, 0, 0, 0, 0)]
/-- ParallaxSheets.Sheet init -/
def m_p_30 : List m_I := [(0, .aload_n 0, 0, 0, 0, 0), (1, .invokespecial 3, 0, 59, 7, 0), (4, .aload_n 0, 0, 0, 0, 0), (5, .bipush 8, 0, 0, 0, 0), (7, .putfield 9, 3, 0, 0, 60), (10, .aload_n 0, 0, 0, 0, 0), (11, .bipush 8, 0, 0, 0, 0), (13, .putfield 15, 3, 1, 0, 65), (16, .aload_n 0, 0, 0, 0, 0), (17, .sipush 256, 0, 0, 0, 0), (20, .newarray .int, 0, 81, 0, 0), (22, .putfield 18, 3, 2, 0, 70), (25, .return_, 0, 0, 0, 0)]
/-- ParallaxSheets.Sheet size -/
def m_p_31 : List m_I := [(0, .aload_n 0, 0, 0, 0, 0), (1, .getfield 9, 3, 0, 0, 60), (4, .aload_n 0, 0, 0, 0, 0), (5, .getfield 15, 3, 1, 0, 65), (8, .imul, 0, 0, 0, 0), (9, .ireturn, 0, 0, 0, 0)]
/-- ParallaxSheets.Sheet measure -/
def m_p_32 : List m_I := [(0, .aload_n 0, 0, 0, 0, 0), (1, .iload_n 1, 0, 0, 0, 0), (2, .putfield 9, 3, 0, 0, 60), (5, .aload_n 0, 0, 0, 0, 0), (6, .iload_n 2, 0, 0, 0, 0), (7, .putfield 15, 3, 1, 0, 65), (10, .return_, 0, 0, 0, 0)]
/-- ParallaxSheets.Sheet near -/
def m_p_33 : List m_I := [(0, .iconst 0, 0, 0, 0, 0), (1, .iload_n 1, 0, 0, 0, 0), (2, .aload_n 0, 0, 0, 0, 0), (3, .getfield 9, 3, 0, 0, 60), (6, .iconst 1, 0, 0, 0, 0), (7, .isub, 0, 0, 0, 0), (8, .invokestatic 22, 0, 321, 4, 0), (11, .invokestatic 28, 0, 324, 3, 0), (14, .istore_n 3, 0, 0, 0, 0), (15, .iconst 0, 0, 0, 0, 0), (16, .iload_n 2, 0, 0, 0, 0), (17, .aload_n 0, 0, 0, 0, 0), (18, .getfield 15, 3, 1, 0, 65), (21, .iconst 1, 0, 0, 0, 0), (22, .isub, 0, 0, 0, 0), (23, .invokestatic 22, 0, 321, 4, 0), (26, .invokestatic 28, 0, 324, 3, 0), (29, .istore 4, 0, 0, 0, 0), (31, .aload_n 0, 0, 0, 0, 0), (32, .getfield 18, 3, 2, 0, 70), (35, .iload 4, 0, 0, 0, 0), (37, .aload_n 0, 0, 0, 0, 0), (38, .getfield 9, 3, 0, 0, 60), (41, .imul, 0, 0, 0, 0), (42, .iload_n 3, 0, 0, 0, 0), (43, .iadd, 0, 0, 0, 0), (44, .iaload, 0, 0, 0, 0), (45, .ireturn, 0, 0, 0, 0)]
/-- ParallaxSheets.Sheet put -/
def m_p_34 : List m_I := [(0, .aload_n 0, 0, 0, 0, 0), (1, .getfield 18, 3, 2, 0, 70), (4, .iload_n 2, 0, 0, 0, 0), (5, .aload_n 0, 0, 0, 0, 0), (6, .getfield 9, 3, 0, 0, 60), (9, .imul, 0, 0, 0, 0), (10, .iload_n 1, 0, 0, 0, 0), (11, .iadd, 0, 0, 0, 0), (12, .iconst 0, 0, 0, 0, 0), (13, .iload_n 3, 0, 0, 0, 0), (14, .sipush 255, 0, 0, 0, 0), (17, .invokestatic 22, 0, 321, 4, 0), (20, .invokestatic 28, 0, 324, 3, 0), (23, .iastore, 0, 0, 0, 0), (24, .return_, 0, 0, 0, 0)]
/-- ParallaxSheets.Sheet total -/
def m_p_35 : List m_I := [(0, .iconst 0, 0, 0, 0, 0), (1, .istore_n 1, 0, 0, 0, 0), (2, .iconst 0, 0, 0, 0, 0), (3, .istore_n 2, 0, 0, 0, 0), (4, .iload_n 2, 0, 0, 0, 0), (5, .aload_n 0, 0, 0, 0, 0), (6, .invokevirtual 31, 31, 340, 1, 0), (9, .if_icmp .ge 18, 27, 0, 0, 0), (12, .iload_n 1, 0, 0, 0, 0), (13, .aload_n 0, 0, 0, 0, 0), (14, .getfield 18, 3, 2, 0, 70), (17, .iload_n 2, 0, 0, 0, 0), (18, .iaload, 0, 0, 0, 0), (19, .iadd, 0, 0, 0, 0), (20, .istore_n 1, 0, 0, 0, 0), (21, .iinc 2 1, 0, 0, 0, 0), (24, .goto (-20), 4, 0, 0, 0), (27, .iload_n 1, 0, 0, 0, 0), (28, .ireturn, 0, 0, 0, 0)]
/-- ParallaxSheets.Sheet isAsLargeAs -/
def m_p_36 : List m_I := [(0, .aload_n 0, 0, 0, 0, 0), (1, .getfield 9, 3, 0, 0, 60), (4, .aload_n 1, 0, 0, 0, 0), (5, .getfield 9, 3, 0, 0, 60), (8, .if_icmp .ne 18, 26, 0, 0, 0), (11, .aload_n 0, 0, 0, 0, 0), (12, .getfield 15, 3, 1, 0, 65), (15, .aload_n 1, 0, 0, 0, 0), (16, .getfield 15, 3, 1, 0, 65), (19, .if_icmp .ne 7, 26, 0, 0, 0), (22, .iconst 1, 0, 0, 0, 0), (23, .goto 4, 27, 0, 0, 0), (26, .iconst 0, 0, 0, 0, 0), (27, .ireturn, 0, 0, 0, 0)]
/-- ParallaxSheets.Sheet differing -/
def m_p_37 : List m_I := [(0, .iconst 0, 0, 0, 0, 0), (1, .istore_n 2, 0, 0, 0, 0), (2, .iconst 0, 0, 0, 0, 0), (3, .istore_n 3, 0, 0, 0, 0), (4, .iload_n 3, 0, 0, 0, 0), (5, .aload_n 0, 0, 0, 0, 0), (6, .invokevirtual 31, 31, 340, 1, 0), (9, .if_icmp .ge 27, 36, 0, 0, 0), (12, .aload_n 0, 0, 0, 0, 0), (13, .getfield 18, 3, 2, 0, 70), (16, .iload_n 3, 0, 0, 0, 0), (17, .iaload, 0, 0, 0, 0), (18, .aload_n 1, 0, 0, 0, 0), (19, .getfield 18, 3, 2, 0, 70), (22, .iload_n 3, 0, 0, 0, 0), (23, .iaload, 0, 0, 0, 0), (24, .if_icmp .eq 6, 30, 0, 0, 0), (27, .iinc 2 1, 0, 0, 0, 0), (30, .iinc 3 1, 0, 0, 0, 0), (33, .goto (-29), 4, 0, 0, 0), (36, .iload_n 2, 0, 0, 0, 0), (37, .ireturn, 0, 0, 0, 0)]
/-- ParallaxSheets.Sheet become -/
def m_p_38 : List m_I := [(0, .aload_n 0, 0, 0, 0, 0), (1, .aload_n 1, 0, 0, 0, 0), (2, .getfield 9, 3, 0, 0, 60), (5, .aload_n 1, 0, 0, 0, 0), (6, .getfield 15, 3, 1, 0, 65), (9, .invokevirtual 35, 32, 339, 1, 0), (12, .aload_n 1, 0, 0, 0, 0), (13, .getfield 18, 3, 2, 0, 70), (16, .iconst 0, 0, 0, 0, 0), (17, .aload_n 0, 0, 0, 0, 0), (18, .getfield 18, 3, 2, 0, 70), (21, .iconst 0, 0, 0, 0, 0), (22, .aload_n 0, 0, 0, 0, 0), (23, .invokevirtual 31, 31, 340, 1, 0), (26, .invokestatic 39, 0, 341, 6, 0), (29, .return_, 0, 0, 0, 0)]
/-- ParallaxSheets.Tones init -/
def m_p_39 : List m_I := [(0, .aload_n 0, 0, 0, 0, 0), (1, .invokespecial 3, 0, 111, 7, 0), (4, .aload_n 0, 0, 0, 0, 0), (5, .sipush 256, 0, 0, 0, 0), (8, .newarray .int, 0, 81, 0, 0), (10, .putfield 9, 4, 0, 0, 112), (13, .aload_n 0, 0, 0, 0, 0), (14, .sipush 256, 0, 0, 0, 0), (17, .newarray .int, 0, 81, 0, 0), (19, .putfield 15, 4, 1, 0, 113), (22, .aload_n 0, 0, 0, 0, 0), (23, .iconst 0, 0, 0, 0, 0), (24, .putfield 18, 4, 2, 0, 114), (27, .return_, 0, 0, 0, 0)]
/-- ParallaxSheets.Tones read -/
def m_p_40 : List m_I := [(0, .iconst 0, 0, 0, 0, 0), (1, .istore_n 2, 0, 0, 0, 0), (2, .iload_n 2, 0, 0, 0, 0), (3, .sipush 256, 0, 0, 0, 0), (6, .if_icmp .ge 16, 22, 0, 0, 0), (9, .aload_n 0, 0, 0, 0, 0), (10, .getfield 9, 4, 0, 0, 112), (13, .iload_n 2, 0, 0, 0, 0), (14, .iconst 0, 0, 0, 0, 0), (15, .iastore, 0, 0, 0, 0), (16, .iinc 2 1, 0, 0, 0, 0), (19, .goto (-17), 2, 0, 0, 0), (22, .iconst 0, 0, 0, 0, 0), (23, .istore_n 2, 0, 0, 0, 0), (24, .iload_n 2, 0, 0, 0, 0), (25, .aload_n 1, 0, 0, 0, 0), (26, .invokevirtual 22, 31, 460, 1, 0), (29, .if_icmp .ge 24, 53, 0, 0, 0), (32, .aload_n 0, 0, 0, 0, 0), (33, .getfield 9, 4, 0, 0, 112), (36, .aload_n 1, 0, 0, 0, 0), (37, .getfield 28, 3, 2, 0, 71), (40, .iload_n 2, 0, 0, 0, 0), (41, .iaload, 0, 0, 0, 0), (42, .dup2, 0, 0, 0, 0), (43, .iaload, 0, 0, 0, 0), (44, .iconst 1, 0, 0, 0, 0), (45, .iadd, 0, 0, 0, 0), (46, .iastore, 0, 0, 0, 0), (47, .iinc 2 1, 0, 0, 0, 0), (50, .goto (-26), 24, 0, 0, 0), (53, .aload_n 0, 0, 0, 0, 0), (54, .aload_n 1, 0, 0, 0, 0), (55, .invokevirtual 22, 31, 460, 1, 0), (58, .putfield 18, 4, 2, 0, 114), (61, .return_, 0, 0, 0, 0)]
/-- ParallaxSheets.Tones planned -/
def m_p_41 : List m_I := [(0, .aload_n 0, 0, 0, 0, 0), (1, .getfield 15, 4, 1, 0, 113), (4, .iload_n 1, 0, 0, 0, 0), (5, .iaload, 0, 0, 0, 0), (6, .ireturn, 0, 0, 0, 0)]
/-- ParallaxSheets.Tones plan -/
def m_p_42 : List m_I := [(0, .iload_n 1, 0, 0, 0, 0), (1, .tableswitch 48 0 2 #[27, 34, 41], 0, 0, 0, 27), (28, .aload_n 0, 0, 0, 0, 0), (29, .invokevirtual 31, 43, 465, 1, 0), (32, .goto 21, 53, 0, 0, 0), (35, .aload_n 0, 0, 0, 0, 0), (36, .invokevirtual 34, 44, 469, 1, 0), (39, .goto 14, 53, 0, 0, 0), (42, .aload_n 0, 0, 0, 0, 0), (43, .invokevirtual 37, 45, 485, 1, 0), (46, .goto 7, 53, 0, 0, 0), (49, .aload_n 0, 0, 0, 0, 0), (50, .invokevirtual 40, 46, 489, 1, 0), (53, .return_, 0, 0, 0, 0)]
/-- ParallaxSheets.Tones planNegative -/
def m_p_43 : List m_I := [(0, .iconst 0, 0, 0, 0, 0), (1, .istore_n 1, 0, 0, 0, 0), (2, .iload_n 1, 0, 0, 0, 0), (3, .sipush 256, 0, 0, 0, 0), (6, .if_icmp .ge 20, 26, 0, 0, 0), (9, .aload_n 0, 0, 0, 0, 0), (10, .getfield 15, 4, 1, 0, 113), (13, .iload_n 1, 0, 0, 0, 0), (14, .sipush 255, 0, 0, 0, 0), (17, .iload_n 1, 0, 0, 0, 0), (18, .isub, 0, 0, 0, 0), (19, .iastore, 0, 0, 0, 0), (20, .iinc 1 1, 0, 0, 0, 0), (23, .goto (-21), 2, 0, 0, 0), (26, .return_, 0, 0, 0, 0)]
/-- ParallaxSheets.Tones planStretch -/
def m_p_44 : List m_I := [(0, .aload_n 0, 0, 0, 0, 0), (1, .invokevirtual 43, 47, 473, 1, 0), (4, .istore_n 1, 0, 0, 0, 0), (5, .aload_n 0, 0, 0, 0, 0), (6, .invokevirtual 46, 48, 481, 1, 0), (9, .istore_n 2, 0, 0, 0, 0), (10, .iconst 0, 0, 0, 0, 0), (11, .istore_n 3, 0, 0, 0, 0), (12, .iload_n 3, 0, 0, 0, 0), (13, .sipush 256, 0, 0, 0, 0), (16, .if_icmp .ge 35, 51, 0, 0, 0), (19, .aload_n 0, 0, 0, 0, 0), (20, .getfield 15, 4, 1, 0, 113), (23, .iload_n 3, 0, 0, 0, 0), (24, .iload_n 1, 0, 0, 0, 0), (25, .iload_n 2, 0, 0, 0, 0), (26, .if_icmp .ge 17, 43, 0, 0, 0), (29, .iload_n 3, 0, 0, 0, 0), (30, .iload_n 1, 0, 0, 0, 0), (31, .isub, 0, 0, 0, 0), (32, .sipush 255, 0, 0, 0, 0), (35, .imul, 0, 0, 0, 0), (36, .iload_n 2, 0, 0, 0, 0), (37, .iload_n 1, 0, 0, 0, 0), (38, .isub, 0, 0, 0, 0), (39, .idiv, 0, 0, 0, 0), (40, .goto 4, 44, 0, 0, 0), (43, .iload_n 3, 0, 0, 0, 0), (44, .iastore, 0, 0, 0, 0), (45, .iinc 3 1, 0, 0, 0, 0), (48, .goto (-36), 12, 0, 0, 0), (51, .return_, 0, 0, 0, 0)]
/-- ParallaxSheets.Tones planEven -/
def m_p_45 : List m_I := [(0, .iconst 0, 0, 0, 0, 0), (1, .istore_n 1, 0, 0, 0, 0), (2, .iconst 0, 0, 0, 0, 0), (3, .istore_n 2, 0, 0, 0, 0), (4, .iload_n 2, 0, 0, 0, 0), (5, .sipush 256, 0, 0, 0, 0), (8, .if_icmp .ge 45, 53, 0, 0, 0), (11, .iload_n 1, 0, 0, 0, 0), (12, .aload_n 0, 0, 0, 0, 0), (13, .getfield 9, 4, 0, 0, 112), (16, .iload_n 2, 0, 0, 0, 0), (17, .iaload, 0, 0, 0, 0), (18, .iadd, 0, 0, 0, 0), (19, .istore_n 1, 0, 0, 0, 0), (20, .aload_n 0, 0, 0, 0, 0), (21, .getfield 15, 4, 1, 0, 113), (24, .iload_n 2, 0, 0, 0, 0), (25, .aload_n 0, 0, 0, 0, 0), (26, .getfield 18, 4, 2, 0, 114), (29, .ifCond .le 16, 45, 0, 0, 0), (32, .sipush 255, 0, 0, 0, 0), (35, .iload_n 1, 0, 0, 0, 0), (36, .imul, 0, 0, 0, 0), (37, .aload_n 0, 0, 0, 0, 0), (38, .getfield 18, 4, 2, 0, 114), (41, .idiv, 0, 0, 0, 0), (42, .goto 4, 46, 0, 0, 0), (45, .iload_n 2, 0, 0, 0, 0), (46, .iastore, 0, 0, 0, 0), (47, .iinc 2 1, 0, 0, 0, 0), (50, .goto (-46), 4, 0, 0, 0), (53, .return_, 0, 0, 0, 0)]
/-- ParallaxSheets.Tones planCut -/
def m_p_46 : List m_I := [(0, .aload_n 0, 0, 0, 0, 0), (1, .invokevirtual 49, 50, 493, 1, 0), (4, .istore_n 1, 0, 0, 0, 0), (5, .iconst 0, 0, 0, 0, 0), (6, .istore_n 2, 0, 0, 0, 0), (7, .iload_n 2, 0, 0, 0, 0), (8, .sipush 256, 0, 0, 0, 0), (11, .if_icmp .ge 27, 38, 0, 0, 0), (14, .aload_n 0, 0, 0, 0, 0), (15, .getfield 15, 4, 1, 0, 113), (18, .iload_n 2, 0, 0, 0, 0), (19, .iload_n 2, 0, 0, 0, 0), (20, .iload_n 1, 0, 0, 0, 0), (21, .if_icmp .lt 9, 30, 0, 0, 0), (24, .sipush 255, 0, 0, 0, 0), (27, .goto 4, 31, 0, 0, 0), (30, .iconst 0, 0, 0, 0, 0), (31, .iastore, 0, 0, 0, 0), (32, .iinc 2 1, 0, 0, 0, 0), (35, .goto (-28), 7, 0, 0, 0), (38, .return_, 0, 0, 0, 0)]
/-- ParallaxSheets.Tones least -/
def m_p_47 : List m_I := [(0, .aload_n 0, 0, 0, 0, 0), (1, .iconst 0, 0, 0, 0, 0), (2, .invokevirtual 52, 49, 477, 1, 0), (5, .ireturn, 0, 0, 0, 0)]
/-- ParallaxSheets.Tones greatest -/
def m_p_48 : List m_I := [(0, .aload_n 0, 0, 0, 0, 0), (1, .aload_n 0, 0, 0, 0, 0), (2, .getfield 18, 4, 2, 0, 114), (5, .iconst 1, 0, 0, 0, 0), (6, .isub, 0, 0, 0, 0), (7, .invokevirtual 52, 49, 477, 1, 0), (10, .ireturn, 0, 0, 0, 0)]
/-- ParallaxSheets.Tones inOrder -/
def m_p_49 : List m_I := [(0, .iconst 0, 0, 0, 0, 0), (1, .istore_n 2, 0, 0, 0, 0), (2, .iconst 0, 0, 0, 0, 0), (3, .istore_n 3, 0, 0, 0, 0), (4, .iload_n 3, 0, 0, 0, 0), (5, .sipush 256, 0, 0, 0, 0), (8, .if_icmp .ge 25, 33, 0, 0, 0), (11, .iload_n 2, 0, 0, 0, 0), (12, .aload_n 0, 0, 0, 0, 0), (13, .getfield 9, 4, 0, 0, 112), (16, .iload_n 3, 0, 0, 0, 0), (17, .iaload, 0, 0, 0, 0), (18, .iadd, 0, 0, 0, 0), (19, .istore_n 2, 0, 0, 0, 0), (20, .iload_n 1, 0, 0, 0, 0), (21, .iload_n 2, 0, 0, 0, 0), (22, .if_icmp .ge 5, 27, 0, 0, 0), (25, .iload_n 3, 0, 0, 0, 0), (26, .ireturn, 0, 0, 0, 0), (27, .iinc 3 1, 0, 0, 0, 0), (30, .goto (-26), 4, 0, 0, 0), (33, .sipush 255, 0, 0, 0, 0), (36, .ireturn, 0, 0, 0, 0)]
/-- ParallaxSheets.Tones cut -/
def m_p_50 : List m_I := [(0, .lconst 0, 0, 0, 0, 0), (1, .lstore_n 1, 0, 0, 0, 0), (2, .iconst 0, 0, 0, 0, 0), (3, .istore_n 3, 0, 0, 0, 0), (4, .iload_n 3, 0, 0, 0, 0), (5, .sipush 256, 0, 0, 0, 0), (8, .if_icmp .ge 22, 30, 0, 0, 0), (11, .lload_n 1, 0, 0, 0, 0), (12, .iload_n 3, 0, 0, 0, 0), (13, .i2l, 0, 0, 0, 0), (14, .aload_n 0, 0, 0, 0, 0), (15, .getfield 9, 4, 0, 0, 112), (18, .iload_n 3, 0, 0, 0, 0), (19, .iaload, 0, 0, 0, 0), (20, .i2l, 0, 0, 0, 0), (21, .lmul, 0, 0, 0, 0), (22, .ladd, 0, 0, 0, 0), (23, .lstore_n 1, 0, 0, 0, 0), (24, .iinc 3 1, 0, 0, 0, 0), (27, .goto (-23), 4, 0, 0, 0), (30, .lconst 0, 0, 0, 0, 0), (31, .lstore_n 3, 0, 0, 0, 0), (32, .lconst 0, 0, 0, 0, 0), (33, .lstore 5, 0, 0, 0, 0), (35, .ldc2_w 56, 0, 497, 0, (-1)), (38, .lstore 7, 0, 0, 0, 0), (40, .iconst 0, 0, 0, 0, 0), (41, .istore 9, 0, 0, 0, 0), (43, .iconst 1, 0, 0, 0, 0), (44, .istore 10, 0, 0, 0, 0), (46, .iload 10, 0, 0, 0, 0), (48, .sipush 256, 0, 0, 0, 0), (51, .if_icmp .ge 107, 158, 0, 0, 0), (54, .lload_n 3, 0, 0, 0, 0), (55, .aload_n 0, 0, 0, 0, 0), (56, .getfield 9, 4, 0, 0, 112), (59, .iload 10, 0, 0, 0, 0), (61, .iconst 1, 0, 0, 0, 0), (62, .isub, 0, 0, 0, 0), (63, .iaload, 0, 0, 0, 0), (64, .i2l, 0, 0, 0, 0), (65, .ladd, 0, 0, 0, 0), (66, .lstore_n 3, 0, 0, 0, 0), (67, .lload 5, 0, 0, 0, 0), (69, .iload 10, 0, 0, 0, 0), (71, .iconst 1, 0, 0, 0, 0), (72, .isub, 0, 0, 0, 0), (73, .i2l, 0, 0, 0, 0), (74, .aload_n 0, 0, 0, 0, 0), (75, .getfield 9, 4, 0, 0, 112), (78, .iload 10, 0, 0, 0, 0), (80, .iconst 1, 0, 0, 0, 0), (81, .isub, 0, 0, 0, 0), (82, .iaload, 0, 0, 0, 0), (83, .i2l, 0, 0, 0, 0), (84, .lmul, 0, 0, 0, 0), (85, .ladd, 0, 0, 0, 0), (86, .lstore 5, 0, 0, 0, 0), (88, .aload_n 0, 0, 0, 0, 0), (89, .getfield 18, 4, 2, 0, 114), (92, .i2l, 0, 0, 0, 0), (93, .lload_n 3, 0, 0, 0, 0), (94, .lsub, 0, 0, 0, 0), (95, .lstore 11, 0, 0, 0, 0), (97, .lload_n 3, 0, 0, 0, 0), (98, .lconst 0, 0, 0, 0, 0), (99, .lcmp, 0, 0, 0, 0), (100, .ifCond .le 52, 152, 0, 0, 0), (103, .lload 11, 0, 0, 0, 0), (105, .lconst 0, 0, 0, 0, 0), (106, .lcmp, 0, 0, 0, 0), (107, .ifCond .le 45, 152, 0, 0, 0), (110, .lload 5, 0, 0, 0, 0), (112, .lload 11, 0, 0, 0, 0), (114, .lmul, 0, 0, 0, 0), (115, .lload_n 1, 0, 0, 0, 0), (116, .lload 5, 0, 0, 0, 0), (118, .lsub, 0, 0, 0, 0), (119, .lload_n 3, 0, 0, 0, 0), (120, .lmul, 0, 0, 0, 0), (121, .lsub, 0, 0, 0, 0), (122, .lstore 13, 0, 0, 0, 0), (124, .lload 13, 0, 0, 0, 0), (126, .lload 13, 0, 0, 0, 0), (128, .lmul, 0, 0, 0, 0), (129, .lload_n 3, 0, 0, 0, 0), (130, .lload 11, 0, 0, 0, 0), (132, .lmul, 0, 0, 0, 0), (133, .ldiv, 0, 0, 0, 0), (134, .lstore 15, 0, 0, 0, 0), (136, .lload 15, 0, 0, 0, 0), (138, .lload 7, 0, 0, 0, 0), (140, .lcmp, 0, 0, 0, 0), (141, .ifCond .le 11, 152, 0, 0, 0), (144, .lload 15, 0, 0, 0, 0), (146, .lstore 7, 0, 0, 0, 0), (148, .iload 10, 0, 0, 0, 0), (150, .istore 9, 0, 0, 0, 0), (152, .iinc 10 1, 0, 0, 0, 0), (155, .goto (-109), 46, 0, 0, 0), (158, .iload 9, 0, 0, 0, 0), (160, .ireturn, 0, 0, 0, 0)]
/-- ParallaxSheets init -/
def m_p_51 : List m_I := [(0, .aload_n 0, 0, 0, 0, 0), (1, .invokespecial 3, 0, 50, 7, 0), (4, .aload_n 0, 0, 0, 0, 0), (5, .iconst 4, 0, 0, 0, 0), (6, .anewarray 9, 2, 53, 0, 0), (9, .putfield 11, 5, 0, 0, 178), (12, .iconst 0, 0, 0, 0, 0), (13, .istore_n 1, 0, 0, 0, 0), (14, .iload_n 1, 0, 0, 0, 0), (15, .iconst 4, 0, 0, 0, 0), (16, .if_icmp .ge 22, 38, 0, 0, 0), (19, .aload_n 0, 0, 0, 0, 0), (20, .getfield 11, 5, 0, 0, 178), (23, .iload_n 1, 0, 0, 0, 0), (24, .new 9, 3, 53, 0, 0), (27, .dup, 0, 0, 0, 0), (28, .invokespecial 15, 30, 56, 2, 0), (31, .aastore, 0, 0, 0, 0), (32, .iinc 1 1, 0, 0, 0, 0), (35, .goto (-21), 14, 0, 0, 0), (38, .aload_n 0, 0, 0, 0, 0), (39, .new 9, 3, 53, 0, 0), (42, .dup, 0, 0, 0, 0), (43, .invokespecial 15, 30, 56, 2, 0), (46, .putfield 16, 5, 1, 0, 179), (49, .aload_n 0, 0, 0, 0, 0), (50, .new 20, 0, 82, 0, 0), (53, .dup, 0, 0, 0, 0), (54, .invokespecial 22, 0, 84, 1, 0), (57, .putfield 23, 5, 2, 0, 180), (60, .aload_n 0, 0, 0, 0, 0), (61, .new 27, 4, 106, 0, 0), (64, .dup, 0, 0, 0, 0), (65, .invokespecial 29, 39, 108, 2, 0), (68, .putfield 30, 5, 3, 0, 181), (71, .aload_n 0, 0, 0, 0, 0), (72, .new 34, 1, 122, 0, 0), (75, .dup, 0, 0, 0, 0), (76, .invokespecial 36, 11, 124, 2, 0), (79, .putfield 37, 5, 4, 0, 182), (82, .aload_n 0, 0, 0, 0, 0), (83, .new 41, 2, 155, 0, 0), (86, .dup, 0, 0, 0, 0), (87, .invokespecial 43, 23, 157, 2, 0), (90, .putfield 44, 5, 5, 0, 183), (93, .return_, 0, 0, 0, 0)]
/-- ParallaxSheets fresh -/
def m_p_52 : List m_I := [(0, .aload_n 0, 0, 0, 0, 0), (1, .iload_n 1, 0, 0, 0, 0), (2, .invokevirtual 48, 76, 201, 1, 0), (5, .astore 5, 0, 0, 0, 0), (7, .iconst 1, 0, 0, 0, 0), (8, .iload_n 2, 0, 0, 0, 0), (9, .bipush 16, 0, 0, 0, 0), (11, .invokestatic 52, 81, 273, 1, 0), (14, .ifCond .eq 25, 39, 0, 0, 0), (17, .iconst 1, 0, 0, 0, 0), (18, .iload_n 3, 0, 0, 0, 0), (19, .bipush 16, 0, 0, 0, 0), (21, .invokestatic 52, 81, 273, 1, 0), (24, .ifCond .eq 15, 39, 0, 0, 0), (27, .iload 4, 0, 0, 0, 0), (29, .invokestatic 56, 82, 276, 1, 0), (32, .ifCond .eq 7, 39, 0, 0, 0), (35, .iconst 1, 0, 0, 0, 0), (36, .goto 4, 40, 0, 0, 0), (39, .iconst 0, 0, 0, 0, 0), (40, .invokestatic 60, 79, 279, 1, 0), (43, .aload 5, 0, 0, 0, 0), (45, .iload_n 2, 0, 0, 0, 0), (46, .iload_n 3, 0, 0, 0, 0), (47, .invokevirtual 64, 32, 298, 1, 0), (50, .iconst 0, 0, 0, 0, 0), (51, .istore 6, 0, 0, 0, 0), (53, .iload 6, 0, 0, 0, 0), (55, .aload 5, 0, 0, 0, 0), (57, .invokevirtual 68, 31, 302, 1, 0), (60, .if_icmp .ge 19, 79, 0, 0, 0), (63, .aload 5, 0, 0, 0, 0), (65, .getfield 72, 3, 2, 0, 72), (68, .iload 6, 0, 0, 0, 0), (70, .iload 4, 0, 0, 0, 0), (72, .iastore, 0, 0, 0, 0), (73, .iinc 6 1, 0, 0, 0, 0), (76, .goto (-23), 53, 0, 0, 0), (79, .aload 5, 0, 0, 0, 0), (81, .invokevirtual 68, 31, 302, 1, 0), (84, .ireturn, 0, 0, 0, 0)]
/-- ParallaxSheets dot -/
def m_p_53 : List m_I := [(0, .aload_n 0, 0, 0, 0, 0), (1, .iload_n 1, 0, 0, 0, 0), (2, .invokevirtual 48, 76, 201, 1, 0), (5, .astore 5, 0, 0, 0, 0), (7, .aload 5, 0, 0, 0, 0), (9, .iload_n 2, 0, 0, 0, 0), (10, .iload_n 3, 0, 0, 0, 0), (11, .invokestatic 76, 77, 310, 1, 0), (14, .iload 4, 0, 0, 0, 0), (16, .invokestatic 56, 82, 276, 1, 0), (19, .invokestatic 60, 79, 279, 1, 0), (22, .aload 5, 0, 0, 0, 0), (24, .iload_n 2, 0, 0, 0, 0), (25, .iload_n 3, 0, 0, 0, 0), (26, .invokevirtual 80, 33, 317, 1, 0), (29, .istore 6, 0, 0, 0, 0), (31, .aload 5, 0, 0, 0, 0), (33, .iload_n 2, 0, 0, 0, 0), (34, .iload_n 3, 0, 0, 0, 0), (35, .iload 4, 0, 0, 0, 0), (37, .invokevirtual 84, 34, 327, 1, 0), (40, .iload 6, 0, 0, 0, 0), (42, .ireturn, 0, 0, 0, 0)]
/-- ParallaxSheets disc -/
def m_p_54 : List m_I := [(0, .aload_n 0, 0, 0, 0, 0), (1, .iload_n 1, 0, 0, 0, 0), (2, .invokevirtual 48, 76, 201, 1, 0), (5, .astore 6, 0, 0, 0, 0), (7, .aload 6, 0, 0, 0, 0), (9, .iload_n 2, 0, 0, 0, 0), (10, .iload_n 3, 0, 0, 0, 0), (11, .invokestatic 76, 77, 310, 1, 0), (14, .iconst 0, 0, 0, 0, 0), (15, .iload 4, 0, 0, 0, 0), (17, .bipush 20, 0, 0, 0, 0), (19, .invokestatic 52, 81, 273, 1, 0), (22, .ifCond .eq 15, 37, 0, 0, 0), (25, .iload 5, 0, 0, 0, 0), (27, .invokestatic 56, 82, 276, 1, 0), (30, .ifCond .eq 7, 37, 0, 0, 0), (33, .iconst 1, 0, 0, 0, 0), (34, .goto 4, 38, 0, 0, 0), (37, .iconst 0, 0, 0, 0, 0), (38, .invokestatic 60, 79, 279, 1, 0), (41, .aload_n 0, 0, 0, 0, 0), (42, .getfield 16, 5, 1, 0, 179), (45, .aload 6, 0, 0, 0, 0), (47, .invokevirtual 88, 38, 335, 1, 0), (50, .iconst 0, 0, 0, 0, 0), (51, .istore 7, 0, 0, 0, 0), (53, .iload 7, 0, 0, 0, 0), (55, .aload 6, 0, 0, 0, 0), (57, .getfield 104, 3, 1, 0, 69), (60, .if_icmp .ge 72, 132, 0, 0, 0), (63, .iconst 0, 0, 0, 0, 0), (64, .istore 8, 0, 0, 0, 0), (66, .iload 8, 0, 0, 0, 0), (68, .aload 6, 0, 0, 0, 0), (70, .getfield 108, 3, 0, 0, 64), (73, .if_icmp .ge 53, 126, 0, 0, 0), (76, .iload 8, 0, 0, 0, 0), (78, .iload_n 2, 0, 0, 0, 0), (79, .isub, 0, 0, 0, 0), (80, .istore 9, 0, 0, 0, 0), (82, .iload 7, 0, 0, 0, 0), (84, .iload_n 3, 0, 0, 0, 0), (85, .isub, 0, 0, 0, 0), (86, .istore 10, 0, 0, 0, 0), (88, .iload 9, 0, 0, 0, 0), (90, .iload 9, 0, 0, 0, 0), (92, .imul, 0, 0, 0, 0), (93, .iload 10, 0, 0, 0, 0), (95, .iload 10, 0, 0, 0, 0), (97, .imul, 0, 0, 0, 0), (98, .iadd, 0, 0, 0, 0), (99, .iload 4, 0, 0, 0, 0), (101, .iload 4, 0, 0, 0, 0), (103, .imul, 0, 0, 0, 0), (104, .if_icmp .gt 16, 120, 0, 0, 0), (107, .aload_n 0, 0, 0, 0, 0), (108, .getfield 16, 5, 1, 0, 179), (111, .iload 8, 0, 0, 0, 0), (113, .iload 7, 0, 0, 0, 0), (115, .iload 5, 0, 0, 0, 0), (117, .invokevirtual 84, 34, 327, 1, 0), (120, .iinc 8 1, 0, 0, 0, 0), (123, .goto (-57), 66, 0, 0, 0), (126, .iinc 7 1, 0, 0, 0, 0), (129, .goto (-76), 53, 0, 0, 0), (132, .aload_n 0, 0, 0, 0, 0), (133, .aload 6, 0, 0, 0, 0), (135, .invokevirtual 100, 85, 344, 1, 0), (138, .ireturn, 0, 0, 0, 0)]
/-- ParallaxSheets shade -/
def m_p_55 : List m_I := [(0, .aload_n 0, 0, 0, 0, 0), (1, .iload_n 1, 0, 0, 0, 0), (2, .invokevirtual 48, 76, 201, 1, 0), (5, .astore 5, 0, 0, 0, 0), (7, .iload_n 2, 0, 0, 0, 0), (8, .invokestatic 111, 83, 356, 1, 0), (11, .ifCond .eq 22, 33, 0, 0, 0), (14, .iload_n 3, 0, 0, 0, 0), (15, .invokestatic 111, 83, 356, 1, 0), (18, .ifCond .eq 15, 33, 0, 0, 0), (21, .iload 4, 0, 0, 0, 0), (23, .invokestatic 111, 83, 356, 1, 0), (26, .ifCond .eq 7, 33, 0, 0, 0), (29, .iconst 1, 0, 0, 0, 0), (30, .goto 4, 34, 0, 0, 0), (33, .iconst 0, 0, 0, 0, 0), (34, .invokestatic 60, 79, 279, 1, 0), (37, .iconst 0, 0, 0, 0, 0), (38, .istore 6, 0, 0, 0, 0), (40, .iload 6, 0, 0, 0, 0), (42, .aload 5, 0, 0, 0, 0), (44, .getfield 104, 3, 1, 0, 69), (47, .if_icmp .ge 85, 132, 0, 0, 0), (50, .iconst 0, 0, 0, 0, 0), (51, .istore 7, 0, 0, 0, 0), (53, .iload 7, 0, 0, 0, 0), (55, .aload 5, 0, 0, 0, 0), (57, .getfield 108, 3, 0, 0, 64), (60, .if_icmp .ge 66, 126, 0, 0, 0), (63, .iload_n 2, 0, 0, 0, 0), (64, .iload 7, 0, 0, 0, 0), (66, .imul, 0, 0, 0, 0), (67, .iload_n 3, 0, 0, 0, 0), (68, .iload 6, 0, 0, 0, 0), (70, .imul, 0, 0, 0, 0), (71, .iadd, 0, 0, 0, 0), (72, .iload 7, 0, 0, 0, 0), (74, .iconst 5, 0, 0, 0, 0), (75, .imul, 0, 0, 0, 0), (76, .iload 6, 0, 0, 0, 0), (78, .bipush 11, 0, 0, 0, 0), (80, .imul, 0, 0, 0, 0), (81, .iadd, 0, 0, 0, 0), (82, .iload 7, 0, 0, 0, 0), (84, .iload 6, 0, 0, 0, 0), (86, .imul, 0, 0, 0, 0), (87, .iconst 3, 0, 0, 0, 0), (88, .imul, 0, 0, 0, 0), (89, .iadd, 0, 0, 0, 0), (90, .bipush 13, 0, 0, 0, 0), (92, .irem, 0, 0, 0, 0), (93, .iload 4, 0, 0, 0, 0), (95, .imul, 0, 0, 0, 0), (96, .iadd, 0, 0, 0, 0), (97, .istore 8, 0, 0, 0, 0), (99, .aload 5, 0, 0, 0, 0), (101, .iload 7, 0, 0, 0, 0), (103, .iload 6, 0, 0, 0, 0), (105, .aload 5, 0, 0, 0, 0), (107, .iload 7, 0, 0, 0, 0), (109, .iload 6, 0, 0, 0, 0), (111, .invokevirtual 80, 33, 317, 1, 0), (114, .iload 8, 0, 0, 0, 0), (116, .iadd, 0, 0, 0, 0), (117, .invokevirtual 84, 34, 327, 1, 0), (120, .iinc 7 1, 0, 0, 0, 0), (123, .goto (-70), 53, 0, 0, 0), (126, .iinc 6 1, 0, 0, 0, 0), (129, .goto (-89), 40, 0, 0, 0), (132, .aload 5, 0, 0, 0, 0), (134, .invokevirtual 114, 35, 359, 1, 0), (137, .ireturn, 0, 0, 0, 0)]
/-- ParallaxSheets copy -/
def m_p_56 : List m_I := [(0, .aload_n 0, 0, 0, 0, 0), (1, .iload_n 1, 0, 0, 0, 0), (2, .invokevirtual 48, 76, 201, 1, 0), (5, .astore_n 3, 0, 0, 0, 0), (6, .aload_n 0, 0, 0, 0, 0), (7, .iload_n 2, 0, 0, 0, 0), (8, .invokevirtual 48, 76, 201, 1, 0), (11, .astore 4, 0, 0, 0, 0), (13, .aload 4, 0, 0, 0, 0), (15, .aload_n 3, 0, 0, 0, 0), (16, .invokevirtual 117, 36, 367, 1, 0), (19, .ifCond .eq 12, 31, 0, 0, 0), (22, .aload 4, 0, 0, 0, 0), (24, .aload_n 3, 0, 0, 0, 0), (25, .invokevirtual 121, 37, 348, 1, 0), (28, .goto 4, 32, 0, 0, 0), (31, .iconst (-1), 0, 0, 0, 0), (32, .istore 5, 0, 0, 0, 0), (34, .aload 4, 0, 0, 0, 0), (36, .aload_n 3, 0, 0, 0, 0), (37, .invokevirtual 88, 38, 335, 1, 0), (40, .iload 5, 0, 0, 0, 0), (42, .ireturn, 0, 0, 0, 0)]
/-- ParallaxSheets turn -/
def m_p_57 : List m_I := [(0, .aload_n 0, 0, 0, 0, 0), (1, .iload_n 1, 0, 0, 0, 0), (2, .invokevirtual 48, 76, 201, 1, 0), (5, .astore_n 3, 0, 0, 0, 0), (6, .iconst 0, 0, 0, 0, 0), (7, .iload_n 2, 0, 0, 0, 0), (8, .iconst 3, 0, 0, 0, 0), (9, .invokestatic 52, 81, 273, 1, 0), (12, .invokestatic 60, 79, 279, 1, 0), (15, .aload_n 3, 0, 0, 0, 0), (16, .getfield 108, 3, 0, 0, 64), (19, .aload_n 3, 0, 0, 0, 0), (20, .getfield 104, 3, 1, 0, 69), (23, .iload_n 2, 0, 0, 0, 0), (24, .invokestatic 127, 86, 375, 1, 0), (27, .istore 4, 0, 0, 0, 0), (29, .aload_n 3, 0, 0, 0, 0), (30, .getfield 104, 3, 1, 0, 69), (33, .aload_n 3, 0, 0, 0, 0), (34, .getfield 108, 3, 0, 0, 64), (37, .iload_n 2, 0, 0, 0, 0), (38, .invokestatic 127, 86, 375, 1, 0), (41, .istore 5, 0, 0, 0, 0), (43, .iload 4, 0, 0, 0, 0), (45, .bipush 16, 0, 0, 0, 0), (47, .if_icmp .gt 14, 61, 0, 0, 0), (50, .iload 5, 0, 0, 0, 0), (52, .bipush 16, 0, 0, 0, 0), (54, .if_icmp .gt 7, 61, 0, 0, 0), (57, .iconst 1, 0, 0, 0, 0), (58, .goto 4, 62, 0, 0, 0), (61, .iconst 0, 0, 0, 0, 0), (62, .invokestatic 124, 80, 379, 1, 0), (65, .aload_n 0, 0, 0, 0, 0), (66, .getfield 16, 5, 1, 0, 179), (69, .iload 4, 0, 0, 0, 0), (71, .iload 5, 0, 0, 0, 0), (73, .invokevirtual 64, 32, 298, 1, 0), (76, .iconst 0, 0, 0, 0, 0), (77, .istore 6, 0, 0, 0, 0), (79, .iload 6, 0, 0, 0, 0), (81, .iload 5, 0, 0, 0, 0), (83, .if_icmp .ge 45, 128, 0, 0, 0), (86, .iconst 0, 0, 0, 0, 0), (87, .istore 7, 0, 0, 0, 0), (89, .iload 7, 0, 0, 0, 0), (91, .iload 4, 0, 0, 0, 0), (93, .if_icmp .ge 29, 122, 0, 0, 0), (96, .aload_n 0, 0, 0, 0, 0), (97, .getfield 16, 5, 1, 0, 179), (100, .iload 7, 0, 0, 0, 0), (102, .iload 6, 0, 0, 0, 0), (104, .aload_n 3, 0, 0, 0, 0), (105, .iload_n 2, 0, 0, 0, 0), (106, .iload 7, 0, 0, 0, 0), (108, .iload 6, 0, 0, 0, 0), (110, .invokestatic 131, 87, 398, 1, 0), (113, .invokevirtual 84, 34, 327, 1, 0), (116, .iinc 7 1, 0, 0, 0, 0), (119, .goto (-30), 89, 0, 0, 0), (122, .iinc 6 1, 0, 0, 0, 0), (125, .goto (-46), 79, 0, 0, 0), (128, .aload_n 3, 0, 0, 0, 0), (129, .aload_n 0, 0, 0, 0, 0), (130, .getfield 16, 5, 1, 0, 179), (133, .invokevirtual 88, 38, 335, 1, 0), (136, .aload_n 3, 0, 0, 0, 0), (137, .invokevirtual 68, 31, 302, 1, 0), (140, .ireturn, 0, 0, 0, 0)]
/-- ParallaxSheets filter -/
def m_p_58 : List m_I := [(0, .aload_n 0, 0, 0, 0, 0), (1, .iload_n 1, 0, 0, 0, 0), (2, .invokevirtual 48, 76, 201, 1, 0), (5, .astore_n 3, 0, 0, 0, 0), (6, .iconst 0, 0, 0, 0, 0), (7, .iload_n 2, 0, 0, 0, 0), (8, .bipush 8, 0, 0, 0, 0), (10, .invokestatic 52, 81, 273, 1, 0), (13, .invokestatic 60, 79, 279, 1, 0), (16, .aload_n 0, 0, 0, 0, 0), (17, .getfield 23, 5, 2, 0, 180), (20, .aload_n 3, 0, 0, 0, 0), (21, .aload_n 0, 0, 0, 0, 0), (22, .getfield 16, 5, 1, 0, 179), (25, .iload_n 2, 0, 0, 0, 0), (26, .invokevirtual 147, 1, 405, 1, 0), (29, .aload_n 0, 0, 0, 0, 0), (30, .aload_n 3, 0, 0, 0, 0), (31, .invokevirtual 100, 85, 344, 1, 0), (34, .ireturn, 0, 0, 0, 0)]
/-- ParallaxSheets values -/
def m_p_59 : List m_I := [(0, .aload_n 0, 0, 0, 0, 0), (1, .iload_n 1, 0, 0, 0, 0), (2, .invokevirtual 48, 76, 201, 1, 0), (5, .astore_n 3, 0, 0, 0, 0), (6, .iconst 0, 0, 0, 0, 0), (7, .iload_n 2, 0, 0, 0, 0), (8, .iconst 3, 0, 0, 0, 0), (9, .invokestatic 52, 81, 273, 1, 0), (12, .invokestatic 60, 79, 279, 1, 0), (15, .aload_n 0, 0, 0, 0, 0), (16, .getfield 30, 5, 3, 0, 181), (19, .aload_n 3, 0, 0, 0, 0), (20, .invokevirtual 151, 40, 456, 1, 0), (23, .aload_n 0, 0, 0, 0, 0), (24, .getfield 30, 5, 3, 0, 181), (27, .iload_n 2, 0, 0, 0, 0), (28, .invokevirtual 154, 42, 461, 1, 0), (31, .aload_n 0, 0, 0, 0, 0), (32, .getfield 16, 5, 1, 0, 179), (35, .aload_n 3, 0, 0, 0, 0), (36, .invokevirtual 88, 38, 335, 1, 0), (39, .iconst 0, 0, 0, 0, 0), (40, .istore 4, 0, 0, 0, 0), (42, .iload 4, 0, 0, 0, 0), (44, .aload_n 3, 0, 0, 0, 0), (45, .invokevirtual 68, 31, 302, 1, 0), (48, .if_icmp .ge 33, 81, 0, 0, 0), (51, .aload_n 0, 0, 0, 0, 0), (52, .getfield 16, 5, 1, 0, 179), (55, .getfield 72, 3, 2, 0, 72), (58, .iload 4, 0, 0, 0, 0), (60, .aload_n 0, 0, 0, 0, 0), (61, .getfield 30, 5, 3, 0, 181), (64, .aload_n 3, 0, 0, 0, 0), (65, .getfield 72, 3, 2, 0, 72), (68, .iload 4, 0, 0, 0, 0), (70, .iaload, 0, 0, 0, 0), (71, .invokevirtual 158, 41, 498, 1, 0), (74, .iastore, 0, 0, 0, 0), (75, .iinc 4 1, 0, 0, 0, 0), (78, .goto (-36), 42, 0, 0, 0), (81, .aload_n 0, 0, 0, 0, 0), (82, .aload_n 3, 0, 0, 0, 0), (83, .invokevirtual 100, 85, 344, 1, 0), (86, .ireturn, 0, 0, 0, 0)]
/-- ParallaxSheets value -/
def m_p_60 : List m_I := [(0, .aload_n 0, 0, 0, 0, 0), (1, .iload_n 1, 0, 0, 0, 0), (2, .invokevirtual 48, 76, 201, 1, 0), (5, .astore 4, 0, 0, 0, 0), (7, .aload 4, 0, 0, 0, 0), (9, .iload_n 2, 0, 0, 0, 0), (10, .iload_n 3, 0, 0, 0, 0), (11, .invokestatic 76, 77, 310, 1, 0), (14, .aload 4, 0, 0, 0, 0), (16, .iload_n 2, 0, 0, 0, 0), (17, .iload_n 3, 0, 0, 0, 0), (18, .invokevirtual 80, 33, 317, 1, 0), (21, .ireturn, 0, 0, 0, 0)]
/-- ParallaxSheets sheet -/
def m_p_61 : List m_I := [(0, .aload_n 0, 0, 0, 0, 0), (1, .iload_n 1, 0, 0, 0, 0), (2, .invokevirtual 48, 76, 201, 1, 0), (5, .astore_n 3, 0, 0, 0, 0), (6, .iconst 0, 0, 0, 0, 0), (7, .iload_n 2, 0, 0, 0, 0), (8, .iconst 5, 0, 0, 0, 0), (9, .invokestatic 52, 81, 273, 1, 0), (12, .invokestatic 60, 79, 279, 1, 0), (15, .aload_n 0, 0, 0, 0, 0), (16, .aload_n 3, 0, 0, 0, 0), (17, .iload_n 2, 0, 0, 0, 0), (18, .invokevirtual 162, 88, 510, 1, 0), (21, .ireturn, 0, 0, 0, 0)]
/-- ParallaxSheets count -/
def m_p_62 : List m_I := [(0, .aload_n 0, 0, 0, 0, 0), (1, .iload_n 1, 0, 0, 0, 0), (2, .invokevirtual 48, 76, 201, 1, 0), (5, .astore 4, 0, 0, 0, 0), (7, .iconst 0, 0, 0, 0, 0), (8, .istore 5, 0, 0, 0, 0), (10, .iconst 0, 0, 0, 0, 0), (11, .istore 6, 0, 0, 0, 0), (13, .iload 6, 0, 0, 0, 0), (15, .aload 4, 0, 0, 0, 0), (17, .invokevirtual 68, 31, 302, 1, 0), (20, .if_icmp .ge 28, 48, 0, 0, 0), (23, .iload_n 2, 0, 0, 0, 0), (24, .aload 4, 0, 0, 0, 0), (26, .getfield 72, 3, 2, 0, 72), (29, .iload 6, 0, 0, 0, 0), (31, .iaload, 0, 0, 0, 0), (32, .iload_n 3, 0, 0, 0, 0), (33, .invokestatic 52, 81, 273, 1, 0), (36, .ifCond .eq 6, 42, 0, 0, 0), (39, .iinc 5 1, 0, 0, 0, 0), (42, .iinc 6 1, 0, 0, 0, 0), (45, .goto (-32), 13, 0, 0, 0), (48, .iload 5, 0, 0, 0, 0), (50, .ireturn, 0, 0, 0, 0)]
/-- ParallaxSheets ordered -/
def m_p_63 : List m_I := [(0, .aload_n 0, 0, 0, 0, 0), (1, .iload_n 1, 0, 0, 0, 0), (2, .invokevirtual 48, 76, 201, 1, 0), (5, .astore_n 3, 0, 0, 0, 0), (6, .iconst 0, 0, 0, 0, 0), (7, .iload_n 2, 0, 0, 0, 0), (8, .aload_n 3, 0, 0, 0, 0), (9, .invokevirtual 68, 31, 302, 1, 0), (12, .iconst 1, 0, 0, 0, 0), (13, .isub, 0, 0, 0, 0), (14, .invokestatic 52, 81, 273, 1, 0), (17, .invokestatic 135, 78, 313, 1, 0), (20, .aload_n 0, 0, 0, 0, 0), (21, .getfield 30, 5, 3, 0, 181), (24, .aload_n 3, 0, 0, 0, 0), (25, .invokevirtual 151, 40, 456, 1, 0), (28, .aload_n 0, 0, 0, 0, 0), (29, .getfield 30, 5, 3, 0, 181), (32, .iload_n 2, 0, 0, 0, 0), (33, .invokevirtual 166, 49, 525, 1, 0), (36, .ireturn, 0, 0, 0, 0)]
/-- ParallaxSheets difference -/
def m_p_64 : List m_I := [(0, .aload_n 0, 0, 0, 0, 0), (1, .iload_n 1, 0, 0, 0, 0), (2, .invokevirtual 48, 76, 201, 1, 0), (5, .astore_n 3, 0, 0, 0, 0), (6, .aload_n 0, 0, 0, 0, 0), (7, .iload_n 2, 0, 0, 0, 0), (8, .invokevirtual 48, 76, 201, 1, 0), (11, .astore 4, 0, 0, 0, 0), (13, .aload_n 3, 0, 0, 0, 0), (14, .aload 4, 0, 0, 0, 0), (16, .invokevirtual 117, 36, 367, 1, 0), (19, .invokestatic 124, 80, 379, 1, 0), (22, .iconst 0, 0, 0, 0, 0), (23, .istore 5, 0, 0, 0, 0), (25, .iconst 0, 0, 0, 0, 0), (26, .istore 6, 0, 0, 0, 0), (28, .iload 6, 0, 0, 0, 0), (30, .aload_n 3, 0, 0, 0, 0), (31, .invokevirtual 68, 31, 302, 1, 0), (34, .if_icmp .ge 33, 67, 0, 0, 0), (37, .iload 5, 0, 0, 0, 0), (39, .aload_n 3, 0, 0, 0, 0), (40, .getfield 72, 3, 2, 0, 72), (43, .iload 6, 0, 0, 0, 0), (45, .iaload, 0, 0, 0, 0), (46, .aload 4, 0, 0, 0, 0), (48, .getfield 72, 3, 2, 0, 72), (51, .iload 6, 0, 0, 0, 0), (53, .iaload, 0, 0, 0, 0), (54, .isub, 0, 0, 0, 0), (55, .invokestatic 169, 0, 530, 5, 0), (58, .iadd, 0, 0, 0, 0), (59, .istore 5, 0, 0, 0, 0), (61, .iinc 6 1, 0, 0, 0, 0), (64, .goto (-36), 28, 0, 0, 0), (67, .iload 5, 0, 0, 0, 0), (69, .i2d, 0, 0, 0, 0), (70, .aload_n 3, 0, 0, 0, 0), (71, .invokevirtual 68, 31, 302, 1, 0), (74, .i2d, 0, 0, 0, 0), (75, .ddiv, 0, 0, 0, 0), (76, .dreturn, 0, 0, 0, 0)]
/-- ParallaxSheets parts -/
def m_p_65 : List m_I := [(0, .aload_n 0, 0, 0, 0, 0), (1, .iload_n 1, 0, 0, 0, 0), (2, .invokevirtual 48, 76, 201, 1, 0), (5, .astore_n 3, 0, 0, 0, 0), (6, .iload_n 2, 0, 0, 0, 0), (7, .invokestatic 172, 84, 535, 1, 0), (10, .invokestatic 60, 79, 279, 1, 0), (13, .aload_n 0, 0, 0, 0, 0), (14, .aload_n 3, 0, 0, 0, 0), (15, .iload_n 2, 0, 0, 0, 0), (16, .sipush 128, 0, 0, 0, 0), (19, .invokevirtual 175, 89, 538, 1, 0), (22, .ireturn, 0, 0, 0, 0)]
/-- ParallaxSheets holes -/
def m_p_66 : List m_I := [(0, .aload_n 0, 0, 0, 0, 0), (1, .iload_n 1, 0, 0, 0, 0), (2, .invokevirtual 48, 76, 201, 1, 0), (5, .astore_n 3, 0, 0, 0, 0), (6, .iload_n 2, 0, 0, 0, 0), (7, .invokestatic 172, 84, 535, 1, 0), (10, .invokestatic 60, 79, 279, 1, 0), (13, .aload_n 0, 0, 0, 0, 0), (14, .aload_n 3, 0, 0, 0, 0), (15, .iload_n 2, 0, 0, 0, 0), (16, .invokevirtual 179, 90, 570, 1, 0), (19, .ireturn, 0, 0, 0, 0)]
/-- ParallaxSheets partOf -/
def m_p_67 : List m_I := [(0, .aload_n 0, 0, 0, 0, 0), (1, .iload_n 1, 0, 0, 0, 0), (2, .invokevirtual 48, 76, 201, 1, 0), (5, .astore 5, 0, 0, 0, 0), (7, .aload 5, 0, 0, 0, 0), (9, .iload_n 3, 0, 0, 0, 0), (10, .iload 4, 0, 0, 0, 0), (12, .invokestatic 76, 77, 310, 1, 0), (15, .iload_n 2, 0, 0, 0, 0), (16, .invokestatic 172, 84, 535, 1, 0), (19, .invokestatic 60, 79, 279, 1, 0), (22, .aload_n 0, 0, 0, 0, 0), (23, .getfield 37, 5, 4, 0, 182), (26, .aload 5, 0, 0, 0, 0), (28, .iload_n 2, 0, 0, 0, 0), (29, .sipush 128, 0, 0, 0, 0), (32, .iconst 1, 0, 0, 0, 0), (33, .invokevirtual 182, 12, 542, 1, 0), (36, .aload_n 0, 0, 0, 0, 0), (37, .getfield 37, 5, 4, 0, 182), (40, .iload_n 3, 0, 0, 0, 0), (41, .iload 4, 0, 0, 0, 0), (43, .invokevirtual 186, 17, 582, 1, 0), (46, .ireturn, 0, 0, 0, 0)]
/-- ParallaxSheets part -/
def m_p_68 : List m_I := [(0, .aload_n 0, 0, 0, 0, 0), (1, .iload_n 1, 0, 0, 0, 0), (2, .invokevirtual 48, 76, 201, 1, 0), (5, .astore 5, 0, 0, 0, 0), (7, .iload_n 2, 0, 0, 0, 0), (8, .invokestatic 172, 84, 535, 1, 0), (11, .ifCond .eq 17, 28, 0, 0, 0), (14, .iconst 0, 0, 0, 0, 0), (15, .iload 4, 0, 0, 0, 0), (17, .iconst 5, 0, 0, 0, 0), (18, .invokestatic 52, 81, 273, 1, 0), (21, .ifCond .eq 7, 28, 0, 0, 0), (24, .iconst 1, 0, 0, 0, 0), (25, .goto 4, 29, 0, 0, 0), (28, .iconst 0, 0, 0, 0, 0), (29, .invokestatic 60, 79, 279, 1, 0), (32, .aload_n 0, 0, 0, 0, 0), (33, .getfield 37, 5, 4, 0, 182), (36, .aload 5, 0, 0, 0, 0), (38, .iload_n 2, 0, 0, 0, 0), (39, .sipush 128, 0, 0, 0, 0), (42, .iconst 1, 0, 0, 0, 0), (43, .invokevirtual 182, 12, 542, 1, 0), (46, .iconst 0, 0, 0, 0, 0), (47, .iload_n 3, 0, 0, 0, 0), (48, .aload_n 0, 0, 0, 0, 0), (49, .getfield 37, 5, 4, 0, 182), (52, .getfield 189, 1, 0, 0, 129), (55, .iconst 1, 0, 0, 0, 0), (56, .isub, 0, 0, 0, 0), (57, .invokestatic 52, 81, 273, 1, 0), (60, .invokestatic 60, 79, 279, 1, 0), (63, .aload_n 0, 0, 0, 0, 0), (64, .getfield 37, 5, 4, 0, 182), (67, .iload_n 3, 0, 0, 0, 0), (68, .iload 4, 0, 0, 0, 0), (70, .invokevirtual 192, 19, 587, 1, 0), (73, .ireturn, 0, 0, 0, 0)]
/-- ParallaxSheets far -/
def m_p_69 : List m_I := [(0, .aload_n 0, 0, 0, 0, 0), (1, .iload_n 1, 0, 0, 0, 0), (2, .invokevirtual 48, 76, 201, 1, 0), (5, .astore 5, 0, 0, 0, 0), (7, .aload 5, 0, 0, 0, 0), (9, .iload_n 3, 0, 0, 0, 0), (10, .iload 4, 0, 0, 0, 0), (12, .invokestatic 76, 77, 310, 1, 0), (15, .iconst 0, 0, 0, 0, 0), (16, .iload_n 2, 0, 0, 0, 0), (17, .iconst 2, 0, 0, 0, 0), (18, .invokestatic 52, 81, 273, 1, 0), (21, .invokestatic 60, 79, 279, 1, 0), (24, .aload 5, 0, 0, 0, 0), (26, .iload_n 2, 0, 0, 0, 0), (27, .iload_n 3, 0, 0, 0, 0), (28, .iload 4, 0, 0, 0, 0), (30, .invokestatic 200, 91, 609, 1, 0), (33, .ireturn, 0, 0, 0, 0)]
/-- ParallaxSheets carve -/
def m_p_70 : List m_I := [(0, .aload_n 0, 0, 0, 0, 0), (1, .iload_n 1, 0, 0, 0, 0), (2, .invokevirtual 48, 76, 201, 1, 0), (5, .astore_n 2, 0, 0, 0, 0), (6, .aload_n 2, 0, 0, 0, 0), (7, .getfield 108, 3, 0, 0, 64), (10, .iconst 1, 0, 0, 0, 0), (11, .if_icmp .le 7, 18, 0, 0, 0), (14, .iconst 1, 0, 0, 0, 0), (15, .goto 4, 19, 0, 0, 0), (18, .iconst 0, 0, 0, 0, 0), (19, .invokestatic 124, 80, 379, 1, 0), (22, .aload_n 0, 0, 0, 0, 0), (23, .getfield 44, 5, 5, 0, 183), (26, .aload_n 2, 0, 0, 0, 0), (27, .invokevirtual 203, 24, 626, 1, 0), (30, .aload_n 0, 0, 0, 0, 0), (31, .getfield 44, 5, 5, 0, 183), (34, .aload_n 2, 0, 0, 0, 0), (35, .invokevirtual 205, 28, 645, 1, 0), (38, .aload_n 0, 0, 0, 0, 0), (39, .getfield 44, 5, 5, 0, 183), (42, .getfield 208, 2, 0, 0, 164), (45, .ireturn, 0, 0, 0, 0)]
/-- ParallaxSheets widen -/
def m_p_71 : List m_I := [(0, .aload_n 0, 0, 0, 0, 0), (1, .iload_n 1, 0, 0, 0, 0), (2, .invokevirtual 48, 76, 201, 1, 0), (5, .astore_n 2, 0, 0, 0, 0), (6, .aload_n 2, 0, 0, 0, 0), (7, .getfield 108, 3, 0, 0, 64), (10, .bipush 16, 0, 0, 0, 0), (12, .if_icmp .ge 7, 19, 0, 0, 0), (15, .iconst 1, 0, 0, 0, 0), (16, .goto 4, 20, 0, 0, 0), (19, .iconst 0, 0, 0, 0, 0), (20, .invokestatic 124, 80, 379, 1, 0), (23, .aload_n 0, 0, 0, 0, 0), (24, .getfield 44, 5, 5, 0, 183), (27, .aload_n 2, 0, 0, 0, 0), (28, .invokevirtual 203, 24, 626, 1, 0), (31, .aload_n 0, 0, 0, 0, 0), (32, .getfield 44, 5, 5, 0, 183), (35, .aload_n 2, 0, 0, 0, 0), (36, .invokevirtual 210, 29, 656, 1, 0), (39, .aload_n 0, 0, 0, 0, 0), (40, .getfield 44, 5, 5, 0, 183), (43, .getfield 208, 2, 0, 0, 164), (46, .ireturn, 0, 0, 0, 0)]
/-- ParallaxSheets seam -/
def m_p_72 : List m_I := [(0, .aload_n 0, 0, 0, 0, 0), (1, .iload_n 1, 0, 0, 0, 0), (2, .invokevirtual 48, 76, 201, 1, 0), (5, .astore_n 3, 0, 0, 0, 0), (6, .iconst 0, 0, 0, 0, 0), (7, .iload_n 2, 0, 0, 0, 0), (8, .aload_n 3, 0, 0, 0, 0), (9, .getfield 104, 3, 1, 0, 69), (12, .iconst 1, 0, 0, 0, 0), (13, .isub, 0, 0, 0, 0), (14, .invokestatic 52, 81, 273, 1, 0), (17, .invokestatic 135, 78, 313, 1, 0), (20, .aload_n 0, 0, 0, 0, 0), (21, .getfield 44, 5, 5, 0, 183), (24, .aload_n 3, 0, 0, 0, 0), (25, .invokevirtual 203, 24, 626, 1, 0), (28, .aload_n 0, 0, 0, 0, 0), (29, .getfield 44, 5, 5, 0, 183), (32, .getfield 213, 2, 1, 0, 166), (35, .iload_n 2, 0, 0, 0, 0), (36, .iaload, 0, 0, 0, 0), (37, .ireturn, 0, 0, 0, 0)]
/-- ParallaxSheets partsAt -/
def m_p_73 : List m_I := [(0, .aload_n 0, 0, 0, 0, 0), (1, .iload_n 1, 0, 0, 0, 0), (2, .invokevirtual 48, 76, 201, 1, 0), (5, .astore 4, 0, 0, 0, 0), (7, .iload_n 2, 0, 0, 0, 0), (8, .invokestatic 172, 84, 535, 1, 0), (11, .ifCond .eq 14, 25, 0, 0, 0), (14, .iload_n 3, 0, 0, 0, 0), (15, .invokestatic 56, 82, 276, 1, 0), (18, .ifCond .eq 7, 25, 0, 0, 0), (21, .iconst 1, 0, 0, 0, 0), (22, .goto 4, 26, 0, 0, 0), (25, .iconst 0, 0, 0, 0, 0), (26, .invokestatic 60, 79, 279, 1, 0), (29, .aload_n 0, 0, 0, 0, 0), (30, .aload 4, 0, 0, 0, 0), (32, .iload_n 2, 0, 0, 0, 0), (33, .iload_n 3, 0, 0, 0, 0), (34, .invokevirtual 175, 89, 538, 1, 0), (37, .ireturn, 0, 0, 0, 0)]
/-- ParallaxSheets carvedBy -/
def m_p_74 : List m_I := [(0, .aload_n 0, 0, 0, 0, 0), (1, .iload_n 1, 0, 0, 0, 0), (2, .invokevirtual 48, 76, 201, 1, 0), (5, .astore_n 3, 0, 0, 0, 0), (6, .iconst 0, 0, 0, 0, 0), (7, .iload_n 2, 0, 0, 0, 0), (8, .aload_n 3, 0, 0, 0, 0), (9, .getfield 108, 3, 0, 0, 64), (12, .iconst 1, 0, 0, 0, 0), (13, .isub, 0, 0, 0, 0), (14, .invokestatic 52, 81, 273, 1, 0), (17, .invokestatic 60, 79, 279, 1, 0), (20, .aload_n 0, 0, 0, 0, 0), (21, .aload_n 3, 0, 0, 0, 0), (22, .iload_n 2, 0, 0, 0, 0), (23, .invokevirtual 216, 95, 672, 1, 0), (26, .ireturn, 0, 0, 0, 0)]
/-- ParallaxSheets digest -/
def m_p_75 : List m_I := [(0, .ldc2_w 219, 0, 680, 0, 58080), (3, .lstore_n 1, 0, 0, 0, 0), (4, .iconst 0, 0, 0, 0, 0), (5, .istore_n 3, 0, 0, 0, 0), (6, .iload_n 3, 0, 0, 0, 0), (7, .iconst 4, 0, 0, 0, 0), (8, .if_icmp .ge 40, 48, 0, 0, 0), (11, .aload_n 0, 0, 0, 0, 0), (12, .getfield 11, 5, 0, 0, 178), (15, .iload_n 3, 0, 0, 0, 0), (16, .aaload, 0, 0, 0, 0), (17, .astore 4, 0, 0, 0, 0), (19, .aload_n 0, 0, 0, 0, 0), (20, .lload_n 1, 0, 0, 0, 0), (21, .aload 4, 0, 0, 0, 0), (23, .invokevirtual 221, 97, 681, 1, 0), (26, .lstore_n 1, 0, 0, 0, 0), (27, .aload_n 0, 0, 0, 0, 0), (28, .lload_n 1, 0, 0, 0, 0), (29, .aload 4, 0, 0, 0, 0), (31, .invokevirtual 225, 98, 689, 1, 0), (34, .lstore_n 1, 0, 0, 0, 0), (35, .lload_n 1, 0, 0, 0, 0), (36, .aload 4, 0, 0, 0, 0), (38, .invokestatic 228, 99, 693, 1, 0), (41, .lstore_n 1, 0, 0, 0, 0), (42, .iinc 3 1, 0, 0, 0, 0), (45, .goto (-39), 6, 0, 0, 0), (48, .lload_n 1, 0, 0, 0, 0), (49, .lreturn, 0, 0, 0, 0)]
/-- ParallaxSheets sheetAt -/
def m_p_76 : List m_I := [(0, .iload_n 1, 0, 0, 0, 0), (1, .ifCond .lt 8, 9, 0, 0, 0), (4, .iload_n 1, 0, 0, 0, 0), (5, .iconst 4, 0, 0, 0, 0), (6, .if_icmp .lt 13, 19, 0, 0, 0), (12, .dup, 0, 0, 0, 0), (18, .athrow, 0, 0, 0, 0), (19, .aload_n 0, 0, 0, 0, 0), (20, .getfield 11, 5, 0, 0, 178), (23, .iload_n 1, 0, 0, 0, 0), (24, .aaload, 0, 0, 0, 0), (25, .areturn, 0, 0, 0, 0)]
/-- ParallaxSheets needField -/
def m_p_77 : List m_I := [(0, .iconst 0, 0, 0, 0, 0), (1, .iload_n 1, 0, 0, 0, 0), (2, .aload_n 0, 0, 0, 0, 0), (3, .getfield 108, 3, 0, 0, 64), (6, .iconst 1, 0, 0, 0, 0), (7, .isub, 0, 0, 0, 0), (8, .invokestatic 52, 81, 273, 1, 0), (11, .ifCond .eq 21, 32, 0, 0, 0), (14, .iconst 0, 0, 0, 0, 0), (15, .iload_n 2, 0, 0, 0, 0), (16, .aload_n 0, 0, 0, 0, 0), (17, .getfield 104, 3, 1, 0, 69), (20, .iconst 1, 0, 0, 0, 0), (21, .isub, 0, 0, 0, 0), (22, .invokestatic 52, 81, 273, 1, 0), (25, .ifCond .eq 7, 32, 0, 0, 0), (28, .iconst 1, 0, 0, 0, 0), (29, .goto 4, 33, 0, 0, 0), (32, .iconst 0, 0, 0, 0, 0), (33, .invokestatic 135, 78, 313, 1, 0), (36, .return_, 0, 0, 0, 0)]
/-- ParallaxSheets needPlace -/
def m_p_78 : List m_I := [(0, .iload_n 0, 0, 0, 0, 0), (1, .ifCond .ne 13, 14, 0, 0, 0), (7, .dup, 0, 0, 0, 0), (13, .athrow, 0, 0, 0, 0), (14, .return_, 0, 0, 0, 0)]
/-- ParallaxSheets refuseUnless -/
def m_p_79 : List m_I := [(0, .iload_n 0, 0, 0, 0, 0), (1, .ifCond .ne 13, 14, 0, 0, 0), (7, .dup, 0, 0, 0, 0), (13, .athrow, 0, 0, 0, 0), (14, .return_, 0, 0, 0, 0)]
/-- ParallaxSheets needState -/
def m_p_80 : List m_I := [(0, .iload_n 0, 0, 0, 0, 0), (1, .ifCond .ne 13, 14, 0, 0, 0), (7, .dup, 0, 0, 0, 0), (13, .athrow, 0, 0, 0, 0), (14, .return_, 0, 0, 0, 0)]
/-- ParallaxSheets isFrom -/
def m_p_81 : List m_I := [(0, .iload_n 0, 0, 0, 0, 0), (1, .iload_n 1, 0, 0, 0, 0), (2, .if_icmp .gt 12, 14, 0, 0, 0), (5, .iload_n 1, 0, 0, 0, 0), (6, .iload_n 2, 0, 0, 0, 0), (7, .if_icmp .gt 7, 14, 0, 0, 0), (10, .iconst 1, 0, 0, 0, 0), (11, .goto 4, 15, 0, 0, 0), (14, .iconst 0, 0, 0, 0, 0), (15, .ireturn, 0, 0, 0, 0)]
/-- ParallaxSheets isValue -/
def m_p_82 : List m_I := [(0, .iconst 0, 0, 0, 0, 0), (1, .iload_n 0, 0, 0, 0, 0), (2, .sipush 255, 0, 0, 0, 0), (5, .invokestatic 52, 81, 273, 1, 0), (8, .ireturn, 0, 0, 0, 0)]
/-- ParallaxSheets isSlope -/
def m_p_83 : List m_I := [(0, .bipush (-50), 0, 0, 0, 0), (2, .iload_n 0, 0, 0, 0, 0), (3, .bipush 50, 0, 0, 0, 0), (5, .invokestatic 52, 81, 273, 1, 0), (8, .ireturn, 0, 0, 0, 0)]
/-- ParallaxSheets isWays -/
def m_p_84 : List m_I := [(0, .iload_n 0, 0, 0, 0, 0), (1, .iconst 4, 0, 0, 0, 0), (2, .if_icmp .eq 9, 11, 0, 0, 0), (5, .iload_n 0, 0, 0, 0, 0), (6, .bipush 8, 0, 0, 0, 0), (8, .if_icmp .ne 7, 15, 0, 0, 0), (11, .iconst 1, 0, 0, 0, 0), (12, .goto 4, 16, 0, 0, 0), (15, .iconst 0, 0, 0, 0, 0), (16, .ireturn, 0, 0, 0, 0)]
/-- ParallaxSheets changeToNext -/
def m_p_85 : List m_I := [(0, .aload_n 1, 0, 0, 0, 0), (1, .aload_n 0, 0, 0, 0, 0), (2, .getfield 16, 5, 1, 0, 179), (5, .invokevirtual 121, 37, 348, 1, 0), (8, .istore_n 2, 0, 0, 0, 0), (9, .aload_n 1, 0, 0, 0, 0), (10, .aload_n 0, 0, 0, 0, 0), (11, .getfield 16, 5, 1, 0, 179), (14, .invokevirtual 88, 38, 335, 1, 0), (17, .iload_n 2, 0, 0, 0, 0), (18, .ireturn, 0, 0, 0, 0)]
/-- ParallaxSheets turnedSide -/
def m_p_86 : List m_I := [(0, .iload_n 2, 0, 0, 0, 0), (1, .tableswitch 45 0 3 #[31, 45, 33, 41], 0, 0, 0, 31), (32, .iload_n 1, 0, 0, 0, 0), (33, .ireturn, 0, 0, 0, 0), (34, .iconst 1, 0, 0, 0, 0), (35, .iload_n 0, 0, 0, 0, 0), (36, .iconst 2, 0, 0, 0, 0), (37, .idiv, 0, 0, 0, 0), (38, .invokestatic 97, 0, 378, 3, 0), (41, .ireturn, 0, 0, 0, 0), (42, .iload_n 0, 0, 0, 0, 0), (43, .iconst 2, 0, 0, 0, 0), (44, .imul, 0, 0, 0, 0), (45, .ireturn, 0, 0, 0, 0), (46, .iload_n 0, 0, 0, 0, 0), (47, .ireturn, 0, 0, 0, 0)]
/-- ParallaxSheets turnedValue -/
def m_p_87 : List m_I := [(0, .iload_n 1, 0, 0, 0, 0), (1, .tableswitch 109 0 2 #[27, 41, 55], 0, 0, 0, 27), (28, .aload_n 0, 0, 0, 0, 0), (29, .iload_n 3, 0, 0, 0, 0), (30, .aload_n 0, 0, 0, 0, 0), (31, .getfield 104, 3, 1, 0, 69), (34, .iconst 1, 0, 0, 0, 0), (35, .isub, 0, 0, 0, 0), (36, .iload_n 2, 0, 0, 0, 0), (37, .isub, 0, 0, 0, 0), (38, .invokevirtual 80, 33, 317, 1, 0), (41, .ireturn, 0, 0, 0, 0), (42, .aload_n 0, 0, 0, 0, 0), (43, .aload_n 0, 0, 0, 0, 0), (44, .getfield 108, 3, 0, 0, 64), (47, .iconst 1, 0, 0, 0, 0), (48, .isub, 0, 0, 0, 0), (49, .iload_n 2, 0, 0, 0, 0), (50, .isub, 0, 0, 0, 0), (51, .iload_n 3, 0, 0, 0, 0), (52, .invokevirtual 80, 33, 317, 1, 0), (55, .ireturn, 0, 0, 0, 0), (56, .aload_n 0, 0, 0, 0, 0), (57, .iconst 2, 0, 0, 0, 0), (58, .iload_n 2, 0, 0, 0, 0), (59, .imul, 0, 0, 0, 0), (60, .iconst 2, 0, 0, 0, 0), (61, .iload_n 3, 0, 0, 0, 0), (62, .imul, 0, 0, 0, 0), (63, .invokevirtual 80, 33, 317, 1, 0), (66, .aload_n 0, 0, 0, 0, 0), (67, .iconst 2, 0, 0, 0, 0), (68, .iload_n 2, 0, 0, 0, 0), (69, .imul, 0, 0, 0, 0), (70, .iconst 1, 0, 0, 0, 0), (71, .iadd, 0, 0, 0, 0), (72, .iconst 2, 0, 0, 0, 0), (73, .iload_n 3, 0, 0, 0, 0), (74, .imul, 0, 0, 0, 0), (75, .invokevirtual 80, 33, 317, 1, 0), (78, .iadd, 0, 0, 0, 0), (79, .aload_n 0, 0, 0, 0, 0), (80, .iconst 2, 0, 0, 0, 0), (81, .iload_n 2, 0, 0, 0, 0), (82, .imul, 0, 0, 0, 0), (83, .iconst 2, 0, 0, 0, 0), (84, .iload_n 3, 0, 0, 0, 0), (85, .imul, 0, 0, 0, 0), (86, .iconst 1, 0, 0, 0, 0), (87, .iadd, 0, 0, 0, 0), (88, .invokevirtual 80, 33, 317, 1, 0), (91, .iadd, 0, 0, 0, 0), (92, .aload_n 0, 0, 0, 0, 0), (93, .iconst 2, 0, 0, 0, 0), (94, .iload_n 2, 0, 0, 0, 0), (95, .imul, 0, 0, 0, 0), (96, .iconst 1, 0, 0, 0, 0), (97, .iadd, 0, 0, 0, 0), (98, .iconst 2, 0, 0, 0, 0), (99, .iload_n 3, 0, 0, 0, 0), (100, .imul, 0, 0, 0, 0), (101, .iconst 1, 0, 0, 0, 0), (102, .iadd, 0, 0, 0, 0), (103, .invokevirtual 80, 33, 317, 1, 0), (106, .iadd, 0, 0, 0, 0), (107, .iconst 4, 0, 0, 0, 0), (108, .idiv, 0, 0, 0, 0), (109, .ireturn, 0, 0, 0, 0), (110, .aload_n 0, 0, 0, 0, 0), (111, .iload_n 2, 0, 0, 0, 0), (112, .iconst 2, 0, 0, 0, 0), (113, .idiv, 0, 0, 0, 0), (114, .iload_n 3, 0, 0, 0, 0), (115, .iconst 2, 0, 0, 0, 0), (116, .idiv, 0, 0, 0, 0), (117, .invokevirtual 80, 33, 317, 1, 0), (120, .ireturn, 0, 0, 0, 0)]
/-- ParallaxSheets factOf -/
def m_p_88 : List m_I := [(0, .aload_n 0, 0, 0, 0, 0), (1, .getfield 30, 5, 3, 0, 181), (4, .aload_n 1, 0, 0, 0, 0), (5, .invokevirtual 151, 40, 456, 1, 0), (8, .iload_n 2, 0, 0, 0, 0), (9, .tableswitch 66 0 4 #[35, 40, 45, 53, 61], 0, 0, 0, 35), (44, .aload_n 1, 0, 0, 0, 0), (45, .getfield 108, 3, 0, 0, 64), (48, .ireturn, 0, 0, 0, 0), (49, .aload_n 1, 0, 0, 0, 0), (50, .getfield 104, 3, 1, 0, 69), (53, .ireturn, 0, 0, 0, 0), (54, .aload_n 0, 0, 0, 0, 0), (55, .getfield 30, 5, 3, 0, 181), (58, .invokevirtual 250, 47, 514, 1, 0), (61, .ireturn, 0, 0, 0, 0), (62, .aload_n 0, 0, 0, 0, 0), (63, .getfield 30, 5, 3, 0, 181), (66, .invokevirtual 253, 48, 515, 1, 0), (69, .ireturn, 0, 0, 0, 0), (70, .aload_n 1, 0, 0, 0, 0), (71, .invokevirtual 114, 35, 359, 1, 0), (74, .ireturn, 0, 0, 0, 0), (75, .aload_n 0, 0, 0, 0, 0), (76, .getfield 30, 5, 3, 0, 181), (79, .invokevirtual 256, 50, 516, 1, 0), (82, .ireturn, 0, 0, 0, 0)]
/-- ParallaxSheets partsFrom -/
def m_p_89 : List m_I := [(0, .aload_n 0, 0, 0, 0, 0), (1, .getfield 37, 5, 4, 0, 182), (4, .aload_n 1, 0, 0, 0, 0), (5, .iload_n 2, 0, 0, 0, 0), (6, .iload_n 3, 0, 0, 0, 0), (7, .iconst 1, 0, 0, 0, 0), (8, .invokevirtual 182, 12, 542, 1, 0), (11, .aload_n 0, 0, 0, 0, 0), (12, .getfield 37, 5, 4, 0, 182), (15, .getfield 189, 1, 0, 0, 129), (18, .ireturn, 0, 0, 0, 0)]
/-- ParallaxSheets holesOf -/
def m_p_90 : List m_I := [(0, .iload_n 2, 0, 0, 0, 0), (1, .iconst 4, 0, 0, 0, 0), (2, .if_icmp .ne 8, 10, 0, 0, 0), (5, .bipush 8, 0, 0, 0, 0), (7, .goto 4, 11, 0, 0, 0), (10, .iconst 4, 0, 0, 0, 0), (11, .istore_n 3, 0, 0, 0, 0), (12, .aload_n 0, 0, 0, 0, 0), (13, .getfield 37, 5, 4, 0, 182), (16, .aload_n 1, 0, 0, 0, 0), (17, .iload_n 3, 0, 0, 0, 0), (18, .sipush 128, 0, 0, 0, 0), (21, .iconst 0, 0, 0, 0, 0), (22, .invokevirtual 182, 12, 542, 1, 0), (25, .aload_n 0, 0, 0, 0, 0), (26, .getfield 37, 5, 4, 0, 182), (29, .invokevirtual 259, 18, 574, 1, 0), (32, .ireturn, 0, 0, 0, 0)]
/-- ParallaxSheets farOf -/
def m_p_91 : List m_I := [(0, .aload_n 0, 0, 0, 0, 0), (1, .iload_n 2, 0, 0, 0, 0), (2, .iload_n 3, 0, 0, 0, 0), (3, .invokevirtual 80, 33, 317, 1, 0), (6, .sipush 128, 0, 0, 0, 0), (9, .if_icmp .ge 5, 14, 0, 0, 0), (12, .iconst 0, 0, 0, 0, 0), (13, .ireturn, 0, 0, 0, 0), (14, .aload_n 0, 0, 0, 0, 0), (15, .iload_n 1, 0, 0, 0, 0), (16, .iload_n 2, 0, 0, 0, 0), (17, .iload_n 3, 0, 0, 0, 0), (18, .invokestatic 262, 92, 612, 1, 0), (21, .istore 4, 0, 0, 0, 0), (23, .iload 4, 0, 0, 0, 0), (25, .ifCond .le 8, 33, 0, 0, 0), (28, .iload 4, 0, 0, 0, 0), (30, .goto 10, 40, 0, 0, 0), (33, .aload_n 0, 0, 0, 0, 0), (34, .iload_n 1, 0, 0, 0, 0), (35, .iload_n 2, 0, 0, 0, 0), (36, .iload_n 3, 0, 0, 0, 0), (37, .invokestatic 265, 93, 619, 1, 0), (40, .ireturn, 0, 0, 0, 0)]
/-- ParallaxSheets farWithin -/
def m_p_92 : List m_I := [(0, .iconst 0, 0, 0, 0, 0), (1, .istore 4, 0, 0, 0, 0), (3, .iconst 0, 0, 0, 0, 0), (4, .istore 5, 0, 0, 0, 0), (6, .iload 5, 0, 0, 0, 0), (8, .aload_n 0, 0, 0, 0, 0), (9, .getfield 104, 3, 1, 0, 69), (12, .if_icmp .ge 74, 86, 0, 0, 0), (15, .iconst 0, 0, 0, 0, 0), (16, .istore 6, 0, 0, 0, 0), (18, .iload 6, 0, 0, 0, 0), (20, .aload_n 0, 0, 0, 0, 0), (21, .getfield 108, 3, 0, 0, 64), (24, .if_icmp .ge 56, 80, 0, 0, 0), (27, .aload_n 0, 0, 0, 0, 0), (28, .iload 6, 0, 0, 0, 0), (30, .iload 5, 0, 0, 0, 0), (32, .invokevirtual 80, 33, 317, 1, 0), (35, .sipush 128, 0, 0, 0, 0), (38, .if_icmp .ge 36, 74, 0, 0, 0), (41, .iload_n 1, 0, 0, 0, 0), (42, .iload 6, 0, 0, 0, 0), (44, .iload_n 2, 0, 0, 0, 0), (45, .isub, 0, 0, 0, 0), (46, .iload 5, 0, 0, 0, 0), (48, .iload_n 3, 0, 0, 0, 0), (49, .isub, 0, 0, 0, 0), (50, .invokestatic 268, 94, 615, 1, 0), (53, .istore 7, 0, 0, 0, 0), (55, .iload 4, 0, 0, 0, 0), (57, .ifCond .ne 8, 65, 0, 0, 0), (60, .iload 7, 0, 0, 0, 0), (62, .goto 10, 72, 0, 0, 0), (65, .iload 4, 0, 0, 0, 0), (67, .iload 7, 0, 0, 0, 0), (69, .invokestatic 92, 0, 618, 4, 0), (72, .istore 4, 0, 0, 0, 0), (74, .iinc 6 1, 0, 0, 0, 0), (77, .goto (-59), 18, 0, 0, 0), (80, .iinc 5 1, 0, 0, 0, 0), (83, .goto (-77), 6, 0, 0, 0), (86, .iload 4, 0, 0, 0, 0), (88, .ireturn, 0, 0, 0, 0)]
/-- ParallaxSheets farToOutside -/
def m_p_93 : List m_I := [(0, .iload_n 2, 0, 0, 0, 0), (1, .iconst 1, 0, 0, 0, 0), (2, .iadd, 0, 0, 0, 0), (3, .aload_n 0, 0, 0, 0, 0), (4, .getfield 108, 3, 0, 0, 64), (7, .iload_n 2, 0, 0, 0, 0), (8, .isub, 0, 0, 0, 0), (9, .invokestatic 92, 0, 618, 4, 0), (12, .istore 4, 0, 0, 0, 0), (14, .iload_n 3, 0, 0, 0, 0), (15, .iconst 1, 0, 0, 0, 0), (16, .iadd, 0, 0, 0, 0), (17, .aload_n 0, 0, 0, 0, 0), (18, .getfield 104, 3, 1, 0, 69), (21, .iload_n 3, 0, 0, 0, 0), (22, .isub, 0, 0, 0, 0), (23, .invokestatic 92, 0, 618, 4, 0), (26, .istore 5, 0, 0, 0, 0), (28, .iload_n 1, 0, 0, 0, 0), (29, .iload 4, 0, 0, 0, 0), (31, .iload 5, 0, 0, 0, 0), (33, .invokestatic 92, 0, 618, 4, 0), (36, .iconst 0, 0, 0, 0, 0), (37, .invokestatic 268, 94, 615, 1, 0), (40, .ireturn, 0, 0, 0, 0)]
/-- ParallaxSheets distance -/
def m_p_94 : List m_I := [(0, .iload_n 0, 0, 0, 0, 0), (1, .lookupswitch 49 #[(0, 27), (1, 37)], 0, 0, 0, 27), (28, .iload_n 1, 0, 0, 0, 0), (29, .invokestatic 169, 0, 530, 5, 0), (32, .iload_n 2, 0, 0, 0, 0), (33, .invokestatic 169, 0, 530, 5, 0), (36, .iadd, 0, 0, 0, 0), (37, .ireturn, 0, 0, 0, 0), (38, .iload_n 1, 0, 0, 0, 0), (39, .invokestatic 169, 0, 530, 5, 0), (42, .iload_n 2, 0, 0, 0, 0), (43, .invokestatic 169, 0, 530, 5, 0), (46, .invokestatic 97, 0, 378, 3, 0), (49, .ireturn, 0, 0, 0, 0), (50, .iload_n 1, 0, 0, 0, 0), (51, .iload_n 1, 0, 0, 0, 0), (52, .imul, 0, 0, 0, 0), (53, .iload_n 2, 0, 0, 0, 0), (54, .iload_n 2, 0, 0, 0, 0), (55, .imul, 0, 0, 0, 0), (56, .iadd, 0, 0, 0, 0), (57, .ireturn, 0, 0, 0, 0)]
/-- ParallaxSheets costOfCarving -/
def m_p_95 : List m_I := [(0, .aload_n 0, 0, 0, 0, 0), (1, .getfield 16, 5, 1, 0, 179), (4, .aload_n 1, 0, 0, 0, 0), (5, .invokevirtual 88, 38, 335, 1, 0), (8, .iconst 0, 0, 0, 0, 0), (9, .istore_n 3, 0, 0, 0, 0), (10, .iconst 0, 0, 0, 0, 0), (11, .istore 4, 0, 0, 0, 0), (13, .iload 4, 0, 0, 0, 0), (15, .iload_n 2, 0, 0, 0, 0), (16, .if_icmp .ge 41, 57, 0, 0, 0), (19, .aload_n 0, 0, 0, 0, 0), (20, .getfield 44, 5, 5, 0, 183), (23, .aload_n 0, 0, 0, 0, 0), (24, .getfield 16, 5, 1, 0, 179), (27, .invokevirtual 203, 24, 626, 1, 0), (30, .aload_n 0, 0, 0, 0, 0), (31, .getfield 44, 5, 5, 0, 183), (34, .aload_n 0, 0, 0, 0, 0), (35, .getfield 16, 5, 1, 0, 179), (38, .invokevirtual 205, 28, 645, 1, 0), (41, .iload_n 3, 0, 0, 0, 0), (42, .aload_n 0, 0, 0, 0, 0), (43, .getfield 44, 5, 5, 0, 183), (46, .getfield 208, 2, 0, 0, 164), (49, .iadd, 0, 0, 0, 0), (50, .istore_n 3, 0, 0, 0, 0), (51, .iinc 4 1, 0, 0, 0, 0), (54, .goto (-41), 13, 0, 0, 0), (57, .iload_n 3, 0, 0, 0, 0), (58, .ireturn, 0, 0, 0, 0)]
/-- ParallaxSheets digestWith -/
def m_p_96 : List m_I := [(0, .lload_n 0, 0, 0, 0, 0), (1, .ldc2_w 271, 0, 688, 0, 31), (4, .lmul, 0, 0, 0, 0), (5, .iload_n 2, 0, 0, 0, 0), (6, .i2l, 0, 0, 0, 0), (7, .ladd, 0, 0, 0, 0), (8, .lreturn, 0, 0, 0, 0)]
/-- ParallaxSheets digestFacts -/
def m_p_97 : List m_I := [(0, .lload_n 1, 0, 0, 0, 0), (1, .lstore 4, 0, 0, 0, 0), (3, .iconst 0, 0, 0, 0, 0), (4, .istore 6, 0, 0, 0, 0), (6, .iload 6, 0, 0, 0, 0), (8, .iconst 5, 0, 0, 0, 0), (9, .if_icmp .gt 23, 32, 0, 0, 0), (12, .lload 4, 0, 0, 0, 0), (14, .aload_n 0, 0, 0, 0, 0), (15, .aload_n 3, 0, 0, 0, 0), (16, .iload 6, 0, 0, 0, 0), (18, .invokevirtual 162, 88, 510, 1, 0), (21, .invokestatic 273, 96, 685, 1, 0), (24, .lstore 4, 0, 0, 0, 0), (26, .iinc 6 1, 0, 0, 0, 0), (29, .goto (-23), 6, 0, 0, 0), (32, .lload 4, 0, 0, 0, 0), (34, .aload_n 0, 0, 0, 0, 0), (35, .aload_n 3, 0, 0, 0, 0), (36, .iconst 4, 0, 0, 0, 0), (37, .sipush 128, 0, 0, 0, 0), (40, .invokevirtual 175, 89, 538, 1, 0), (43, .invokestatic 273, 96, 685, 1, 0), (46, .lstore 4, 0, 0, 0, 0), (48, .lload 4, 0, 0, 0, 0), (50, .aload_n 0, 0, 0, 0, 0), (51, .aload_n 3, 0, 0, 0, 0), (52, .iconst 4, 0, 0, 0, 0), (53, .invokevirtual 179, 90, 570, 1, 0), (56, .invokestatic 273, 96, 685, 1, 0), (59, .lstore 4, 0, 0, 0, 0), (61, .lload 4, 0, 0, 0, 0), (63, .aload_n 0, 0, 0, 0, 0), (64, .aload_n 3, 0, 0, 0, 0), (65, .bipush 8, 0, 0, 0, 0), (67, .sipush 128, 0, 0, 0, 0), (70, .invokevirtual 175, 89, 538, 1, 0), (73, .invokestatic 273, 96, 685, 1, 0), (76, .lstore 4, 0, 0, 0, 0), (78, .lload 4, 0, 0, 0, 0), (80, .aload_n 0, 0, 0, 0, 0), (81, .aload_n 3, 0, 0, 0, 0), (82, .bipush 8, 0, 0, 0, 0), (84, .invokevirtual 179, 90, 570, 1, 0), (87, .invokestatic 273, 96, 685, 1, 0), (90, .lreturn, 0, 0, 0, 0)]
/-- ParallaxSheets digestSeams -/
def m_p_98 : List m_I := [(0, .lload_n 1, 0, 0, 0, 0), (1, .lstore 4, 0, 0, 0, 0), (3, .aload_n 0, 0, 0, 0, 0), (4, .getfield 44, 5, 5, 0, 183), (7, .aload_n 3, 0, 0, 0, 0), (8, .invokevirtual 203, 24, 626, 1, 0), (11, .iconst 0, 0, 0, 0, 0), (12, .istore 6, 0, 0, 0, 0), (14, .iload 6, 0, 0, 0, 0), (16, .aload_n 3, 0, 0, 0, 0), (17, .getfield 104, 3, 1, 0, 69), (20, .if_icmp .ge 26, 46, 0, 0, 0), (23, .lload 4, 0, 0, 0, 0), (25, .aload_n 0, 0, 0, 0, 0), (26, .getfield 44, 5, 5, 0, 183), (29, .getfield 213, 2, 1, 0, 166), (32, .iload 6, 0, 0, 0, 0), (34, .iaload, 0, 0, 0, 0), (35, .invokestatic 273, 96, 685, 1, 0), (38, .lstore 4, 0, 0, 0, 0), (40, .iinc 6 1, 0, 0, 0, 0), (43, .goto (-29), 14, 0, 0, 0), (46, .aload_n 3, 0, 0, 0, 0), (47, .getfield 108, 3, 0, 0, 64), (50, .iconst 1, 0, 0, 0, 0), (51, .if_icmp .le 16, 67, 0, 0, 0), (54, .lload 4, 0, 0, 0, 0), (56, .aload_n 0, 0, 0, 0, 0), (57, .aload_n 3, 0, 0, 0, 0), (58, .iconst 1, 0, 0, 0, 0), (59, .invokevirtual 216, 95, 672, 1, 0), (62, .invokestatic 273, 96, 685, 1, 0), (65, .lstore 4, 0, 0, 0, 0), (67, .lload 4, 0, 0, 0, 0), (69, .lreturn, 0, 0, 0, 0)]
/-- ParallaxSheets digestFields -/
def m_p_99 : List m_I := [(0, .lload_n 0, 0, 0, 0, 0), (1, .lstore_n 3, 0, 0, 0, 0), (2, .iconst 0, 0, 0, 0, 0), (3, .istore 5, 0, 0, 0, 0), (5, .iload 5, 0, 0, 0, 0), (7, .aload_n 2, 0, 0, 0, 0), (8, .getfield 108, 3, 0, 0, 64), (11, .aload_n 2, 0, 0, 0, 0), (12, .getfield 104, 3, 1, 0, 69), (15, .invokestatic 92, 0, 618, 4, 0), (18, .if_icmp .ge 23, 41, 0, 0, 0), (21, .lload_n 3, 0, 0, 0, 0), (22, .aload_n 2, 0, 0, 0, 0), (23, .iconst 2, 0, 0, 0, 0), (24, .iload 5, 0, 0, 0, 0), (26, .iload 5, 0, 0, 0, 0), (28, .invokestatic 200, 91, 609, 1, 0), (31, .invokestatic 273, 96, 685, 1, 0), (34, .lstore_n 3, 0, 0, 0, 0), (35, .iinc 5 1, 0, 0, 0, 0), (38, .goto (-33), 5, 0, 0, 0), (41, .iconst 0, 0, 0, 0, 0), (42, .istore 5, 0, 0, 0, 0), (44, .iload 5, 0, 0, 0, 0), (46, .aload_n 2, 0, 0, 0, 0), (47, .invokevirtual 68, 31, 302, 1, 0), (50, .if_icmp .ge 21, 71, 0, 0, 0), (53, .lload_n 3, 0, 0, 0, 0), (54, .aload_n 2, 0, 0, 0, 0), (55, .getfield 72, 3, 2, 0, 72), (58, .iload 5, 0, 0, 0, 0), (60, .iaload, 0, 0, 0, 0), (61, .invokestatic 273, 96, 685, 1, 0), (64, .lstore_n 3, 0, 0, 0, 0), (65, .iinc 5 1, 0, 0, 0, 0), (68, .goto (-24), 44, 0, 0, 0), (71, .lload_n 3, 0, 0, 0, 0), (72, .lreturn, 0, 0, 0, 0)]
/-- ParallaxSheetsLaw below -/
def m_p_100 : List m_I := [(0, .iload_n 0, 0, 0, 0, 0), (1, .ldc 7, 0, 699, 0, 2147483647), (3, .iand, 0, 0, 0, 0), (4, .iload_n 1, 0, 0, 0, 0), (5, .irem, 0, 0, 0, 0), (6, .ireturn, 0, 0, 0, 0)]
/-- ParallaxSheetsLaw cell -/
def m_p_101 : List m_I := [(0, .iload_n 1, 0, 0, 0, 0), (1, .aload_n 0, 0, 0, 0, 0), (2, .arraylength, 0, 0, 0, 0), (3, .if_icmp .ge 9, 12, 0, 0, 0), (6, .aload_n 0, 0, 0, 0, 0), (7, .iload_n 1, 0, 0, 0, 0), (8, .iaload, 0, 0, 0, 0), (9, .goto 9, 18, 0, 0, 0), (12, .ldc 8, 0, 703, 0, 790386105), (14, .iload_n 1, 0, 0, 0, 0), (15, .iconst 3, 0, 0, 0, 0), (16, .iadd, 0, 0, 0, 0), (17, .imul, 0, 0, 0, 0), (18, .ireturn, 0, 0, 0, 0)]
/-- ParallaxSheetsLaw law -/
def m_p_102 : List m_I := [(0, .new 9, 5, 45, 0, 0), (3, .dup, 0, 0, 0, 0), (4, .invokespecial 11, 51, 47, 1, 0), (7, .astore_n 1, 0, 0, 0, 0), (8, .iconst 1, 0, 0, 0, 0), (9, .aload_n 0, 0, 0, 0, 0), (10, .iconst 0, 0, 0, 0, 0), (11, .invokestatic 12, 101, 700, 1, 0), (14, .bipush 8, 0, 0, 0, 0), (16, .invokestatic 18, 100, 696, 1, 0), (19, .iadd, 0, 0, 0, 0), (20, .istore_n 2, 0, 0, 0, 0), (21, .iconst 1, 0, 0, 0, 0), (22, .aload_n 0, 0, 0, 0, 0), (23, .iconst 1, 0, 0, 0, 0), (24, .invokestatic 12, 101, 700, 1, 0), (27, .bipush 8, 0, 0, 0, 0), (29, .invokestatic 18, 100, 696, 1, 0), (32, .iadd, 0, 0, 0, 0), (33, .istore_n 3, 0, 0, 0, 0), (34, .aload_n 1, 0, 0, 0, 0), (35, .iconst 0, 0, 0, 0, 0), (36, .iload_n 2, 0, 0, 0, 0), (37, .iload_n 3, 0, 0, 0, 0), (38, .aload_n 0, 0, 0, 0, 0), (39, .iconst 2, 0, 0, 0, 0), (40, .invokestatic 12, 101, 700, 1, 0), (43, .sipush 256, 0, 0, 0, 0), (46, .invokestatic 18, 100, 696, 1, 0), (49, .invokevirtual 22, 52, 197, 1, 0), (52, .iload_n 2, 0, 0, 0, 0), (53, .iload_n 3, 0, 0, 0, 0), (54, .imul, 0, 0, 0, 0), (55, .if_icmp .eq 5, 60, 0, 0, 0), (58, .iconst 0, 0, 0, 0, 0), (59, .ireturn, 0, 0, 0, 0), (60, .aload_n 1, 0, 0, 0, 0), (61, .iconst 0, 0, 0, 0, 0), (62, .aload_n 0, 0, 0, 0, 0), (63, .iconst 3, 0, 0, 0, 0), (64, .invokestatic 12, 101, 700, 1, 0), (67, .bipush 41, 0, 0, 0, 0), (69, .invokestatic 18, 100, 696, 1, 0), (72, .bipush 20, 0, 0, 0, 0), (74, .isub, 0, 0, 0, 0), (75, .aload_n 0, 0, 0, 0, 0), (76, .iconst 4, 0, 0, 0, 0), (77, .invokestatic 12, 101, 700, 1, 0), (80, .bipush 41, 0, 0, 0, 0), (82, .invokestatic 18, 100, 696, 1, 0), (85, .bipush 20, 0, 0, 0, 0), (87, .isub, 0, 0, 0, 0), (88, .aload_n 0, 0, 0, 0, 0), (89, .iconst 5, 0, 0, 0, 0), (90, .invokestatic 12, 101, 700, 1, 0), (93, .bipush 61, 0, 0, 0, 0), (95, .invokestatic 18, 100, 696, 1, 0), (98, .bipush 30, 0, 0, 0, 0), (100, .isub, 0, 0, 0, 0), (101, .invokevirtual 26, 55, 352, 1, 0), (104, .pop, 0, 0, 0, 0), (105, .iconst 0, 0, 0, 0, 0), (106, .istore 4, 0, 0, 0, 0), (108, .iload 4, 0, 0, 0, 0), (110, .bipush 6, 0, 0, 0, 0), (112, .if_icmp .ge 98, 210, 0, 0, 0), (115, .aload_n 0, 0, 0, 0, 0), (116, .bipush 6, 0, 0, 0, 0), (118, .iload 4, 0, 0, 0, 0), (120, .iadd, 0, 0, 0, 0), (121, .invokestatic 12, 101, 700, 1, 0), (124, .istore 5, 0, 0, 0, 0), (126, .iload 4, 0, 0, 0, 0), (128, .iconst 2, 0, 0, 0, 0), (129, .irem, 0, 0, 0, 0), (130, .ifCond .ne 44, 174, 0, 0, 0), (133, .aload_n 1, 0, 0, 0, 0), (134, .iconst 0, 0, 0, 0, 0), (135, .iload 5, 0, 0, 0, 0), (137, .iload_n 2, 0, 0, 0, 0), (138, .invokestatic 18, 100, 696, 1, 0), (141, .iload 5, 0, 0, 0, 0), (143, .iconst 3, 0, 0, 0, 0), (144, .ishr, 0, 0, 0, 0), (145, .iload_n 3, 0, 0, 0, 0), (146, .invokestatic 18, 100, 696, 1, 0), (149, .iload 5, 0, 0, 0, 0), (151, .iconst 2, 0, 0, 0, 0), (152, .ishr, 0, 0, 0, 0), (153, .iconst 3, 0, 0, 0, 0), (154, .invokestatic 18, 100, 696, 1, 0), (157, .iload 5, 0, 0, 0, 0), (159, .iconst 5, 0, 0, 0, 0), (160, .ishr, 0, 0, 0, 0), (161, .sipush 256, 0, 0, 0, 0), (164, .invokestatic 18, 100, 696, 1, 0), (167, .invokevirtual 29, 54, 331, 1, 0), (170, .pop, 0, 0, 0, 0), (171, .goto 33, 204, 0, 0, 0), (174, .aload_n 1, 0, 0, 0, 0), (175, .iconst 0, 0, 0, 0, 0), (176, .iload 5, 0, 0, 0, 0), (178, .iload_n 2, 0, 0, 0, 0), (179, .invokestatic 18, 100, 696, 1, 0), (182, .iload 5, 0, 0, 0, 0), (184, .iconst 3, 0, 0, 0, 0), (185, .ishr, 0, 0, 0, 0), (186, .iload_n 3, 0, 0, 0, 0), (187, .invokestatic 18, 100, 696, 1, 0), (190, .iload 5, 0, 0, 0, 0), (192, .iconst 5, 0, 0, 0, 0), (193, .ishr, 0, 0, 0, 0), (194, .sipush 256, 0, 0, 0, 0), (197, .invokestatic 18, 100, 696, 1, 0), (200, .invokevirtual 33, 53, 306, 1, 0), (203, .pop, 0, 0, 0, 0), (204, .iinc 4 1, 0, 0, 0, 0), (207, .goto (-99), 108, 0, 0, 0), (210, .iload_n 2, 0, 0, 0, 0), (211, .iload_n 3, 0, 0, 0, 0), (212, .imul, 0, 0, 0, 0), (213, .istore 4, 0, 0, 0, 0), (215, .aload_n 1, 0, 0, 0, 0), (216, .invokevirtual 36, 75, 676, 1, 0), (219, .lstore 5, 0, 0, 0, 0), (221, .aload_n 1, 0, 0, 0, 0), (222, .iconst 0, 0, 0, 0, 0), (223, .iconst 0, 0, 0, 0, 0), (224, .sipush 255, 0, 0, 0, 0), (227, .invokevirtual 40, 62, 517, 1, 0), (230, .iload 4, 0, 0, 0, 0), (232, .if_icmp .ne 103, 335, 0, 0, 0), (235, .aload_n 1, 0, 0, 0, 0), (236, .iconst 0, 0, 0, 0, 0), (237, .iconst 0, 0, 0, 0, 0), (238, .invokevirtual 44, 63, 521, 1, 0), (241, .aload_n 1, 0, 0, 0, 0), (242, .iconst 0, 0, 0, 0, 0), (243, .iconst 2, 0, 0, 0, 0), (244, .invokevirtual 47, 61, 506, 1, 0), (247, .if_icmp .ne 88, 335, 0, 0, 0), (250, .aload_n 1, 0, 0, 0, 0), (251, .iconst 0, 0, 0, 0, 0), (252, .iload 4, 0, 0, 0, 0), (254, .iconst 1, 0, 0, 0, 0), (255, .isub, 0, 0, 0, 0), (256, .invokevirtual 44, 63, 521, 1, 0), (259, .aload_n 1, 0, 0, 0, 0), (260, .iconst 0, 0, 0, 0, 0), (261, .iconst 3, 0, 0, 0, 0), (262, .invokevirtual 47, 61, 506, 1, 0), (265, .if_icmp .ne 70, 335, 0, 0, 0), (268, .aload_n 1, 0, 0, 0, 0), (269, .iconst 0, 0, 0, 0, 0), (270, .iconst 0, 0, 0, 0, 0), (271, .invokevirtual 50, 64, 526, 1, 0), (274, .dconst 0, 0, 0, 0, 0), (275, .dcmp .l, 0, 0, 0, 0), (276, .ifCond .ne 59, 335, 0, 0, 0), (279, .aload_n 1, 0, 0, 0, 0), (280, .iconst 0, 0, 0, 0, 0), (281, .bipush 8, 0, 0, 0, 0), (283, .invokevirtual 54, 65, 531, 1, 0), (286, .aload_n 1, 0, 0, 0, 0), (287, .iconst 0, 0, 0, 0, 0), (288, .iconst 4, 0, 0, 0, 0), (289, .invokevirtual 54, 65, 531, 1, 0), (292, .if_icmp .gt 43, 335, 0, 0, 0), (295, .aload_n 1, 0, 0, 0, 0), (296, .iconst 0, 0, 0, 0, 0), (297, .bipush 8, 0, 0, 0, 0), (299, .invokevirtual 57, 66, 566, 1, 0), (302, .ifCond .lt 33, 335, 0, 0, 0), (305, .aload_n 1, 0, 0, 0, 0), (306, .iconst 0, 0, 0, 0, 0), (307, .iconst 4, 0, 0, 0, 0), (308, .sipush 128, 0, 0, 0, 0), (311, .invokevirtual 60, 73, 664, 1, 0), (314, .aload_n 1, 0, 0, 0, 0), (315, .iconst 0, 0, 0, 0, 0), (316, .iconst 4, 0, 0, 0, 0), (317, .invokevirtual 54, 65, 531, 1, 0), (320, .if_icmp .ne 15, 335, 0, 0, 0), (323, .aload_n 1, 0, 0, 0, 0), (324, .iconst 0, 0, 0, 0, 0), (325, .bipush 8, 0, 0, 0, 0), (327, .iconst 0, 0, 0, 0, 0), (328, .invokevirtual 60, 73, 664, 1, 0), (331, .iconst 1, 0, 0, 0, 0), (332, .if_icmp .eq 5, 337, 0, 0, 0), (335, .iconst 0, 0, 0, 0, 0), (336, .ireturn, 0, 0, 0, 0), (337, .iconst 0, 0, 0, 0, 0), (338, .istore 7, 0, 0, 0, 0), (340, .iconst 0, 0, 0, 0, 0), (341, .istore 8, 0, 0, 0, 0), (343, .iload 8, 0, 0, 0, 0), (345, .iload 4, 0, 0, 0, 0), (347, .if_icmp .ge 47, 394, 0, 0, 0), (350, .iload 7, 0, 0, 0, 0), (352, .aload_n 1, 0, 0, 0, 0), (353, .iconst 0, 0, 0, 0, 0), (354, .iload 8, 0, 0, 0, 0), (356, .invokevirtual 44, 63, 521, 1, 0), (359, .iadd, 0, 0, 0, 0), (360, .istore 7, 0, 0, 0, 0), (362, .iload 8, 0, 0, 0, 0), (364, .ifCond .le 24, 388, 0, 0, 0), (367, .aload_n 1, 0, 0, 0, 0), (368, .iconst 0, 0, 0, 0, 0), (369, .iload 8, 0, 0, 0, 0), (371, .invokevirtual 44, 63, 521, 1, 0), (374, .aload_n 1, 0, 0, 0, 0), (375, .iconst 0, 0, 0, 0, 0), (376, .iload 8, 0, 0, 0, 0), (378, .iconst 1, 0, 0, 0, 0), (379, .isub, 0, 0, 0, 0), (380, .invokevirtual 44, 63, 521, 1, 0), (383, .if_icmp .ge 5, 388, 0, 0, 0), (386, .iconst 0, 0, 0, 0, 0), (387, .ireturn, 0, 0, 0, 0), (388, .iinc 8 1, 0, 0, 0, 0), (391, .goto (-48), 343, 0, 0, 0), (394, .iload 7, 0, 0, 0, 0), (396, .aload_n 1, 0, 0, 0, 0), (397, .iconst 0, 0, 0, 0, 0), (398, .iconst 4, 0, 0, 0, 0), (399, .invokevirtual 47, 61, 506, 1, 0), (402, .if_icmp .eq 5, 407, 0, 0, 0), (405, .iconst 0, 0, 0, 0, 0), (406, .ireturn, 0, 0, 0, 0), (407, .iconst 0, 0, 0, 0, 0), (408, .istore 8, 0, 0, 0, 0), (410, .iconst 0, 0, 0, 0, 0), (411, .istore 9, 0, 0, 0, 0), (413, .iload 9, 0, 0, 0, 0), (415, .aload_n 1, 0, 0, 0, 0), (416, .iconst 0, 0, 0, 0, 0), (417, .iconst 4, 0, 0, 0, 0), (418, .invokevirtual 54, 65, 531, 1, 0), (421, .if_icmp .ge 23, 444, 0, 0, 0), (424, .iload 8, 0, 0, 0, 0), (426, .aload_n 1, 0, 0, 0, 0), (427, .iconst 0, 0, 0, 0, 0), (428, .iconst 4, 0, 0, 0, 0), (429, .iload 9, 0, 0, 0, 0), (431, .iconst 0, 0, 0, 0, 0), (432, .invokevirtual 63, 68, 583, 1, 0), (435, .iadd, 0, 0, 0, 0), (436, .istore 8, 0, 0, 0, 0), (438, .iinc 9 1, 0, 0, 0, 0), (441, .goto (-28), 413, 0, 0, 0), (444, .iload 8, 0, 0, 0, 0), (446, .aload_n 1, 0, 0, 0, 0), (447, .iconst 0, 0, 0, 0, 0), (448, .sipush 128, 0, 0, 0, 0), (451, .sipush 255, 0, 0, 0, 0), (454, .invokevirtual 40, 62, 517, 1, 0), (457, .if_icmp .eq 5, 462, 0, 0, 0), (460, .iconst 0, 0, 0, 0, 0), (461, .ireturn, 0, 0, 0, 0), (462, .iconst 0, 0, 0, 0, 0), (463, .istore 9, 0, 0, 0, 0), (465, .iload 9, 0, 0, 0, 0), (467, .iload_n 3, 0, 0, 0, 0), (468, .if_icmp .ge 264, 732, 0, 0, 0), (471, .iconst 0, 0, 0, 0, 0), (472, .istore 10, 0, 0, 0, 0), (474, .iload 10, 0, 0, 0, 0), (476, .iload_n 2, 0, 0, 0, 0), (477, .if_icmp .ge 249, 726, 0, 0, 0), (480, .aload_n 1, 0, 0, 0, 0), (481, .iconst 0, 0, 0, 0, 0), (482, .iload 10, 0, 0, 0, 0), (484, .iload 9, 0, 0, 0, 0), (486, .invokevirtual 66, 60, 502, 1, 0), (489, .bipush 127, 0, 0, 0, 0), (491, .if_icmp .le 7, 498, 0, 0, 0), (494, .iconst 1, 0, 0, 0, 0), (495, .goto 4, 499, 0, 0, 0), (498, .iconst 0, 0, 0, 0, 0), (499, .istore 11, 0, 0, 0, 0), (501, .aload_n 1, 0, 0, 0, 0), (502, .iconst 0, 0, 0, 0, 0), (503, .iconst 0, 0, 0, 0, 0), (504, .iload 10, 0, 0, 0, 0), (506, .iload 9, 0, 0, 0, 0), (508, .invokevirtual 69, 69, 605, 1, 0), (511, .istore 12, 0, 0, 0, 0), (513, .aload_n 1, 0, 0, 0, 0), (514, .iconst 0, 0, 0, 0, 0), (515, .iconst 4, 0, 0, 0, 0), (516, .iload 10, 0, 0, 0, 0), (518, .iload 9, 0, 0, 0, 0), (520, .invokevirtual 72, 67, 578, 1, 0), (523, .ifCond .lt 7, 530, 0, 0, 0), (526, .iconst 1, 0, 0, 0, 0), (527, .goto 4, 531, 0, 0, 0), (530, .iconst 0, 0, 0, 0, 0), (531, .iload 11, 0, 0, 0, 0), (533, .if_icmp .ne 98, 631, 0, 0, 0), (536, .aload_n 1, 0, 0, 0, 0), (537, .iconst 0, 0, 0, 0, 0), (538, .bipush 8, 0, 0, 0, 0), (540, .iload 10, 0, 0, 0, 0), (542, .iload 9, 0, 0, 0, 0), (544, .invokevirtual 72, 67, 578, 1, 0), (547, .ifCond .lt 7, 554, 0, 0, 0), (550, .iconst 1, 0, 0, 0, 0), (551, .goto 4, 555, 0, 0, 0), (554, .iconst 0, 0, 0, 0, 0), (555, .iload 11, 0, 0, 0, 0), (557, .if_icmp .ne 74, 631, 0, 0, 0), (560, .iload 12, 0, 0, 0, 0), (562, .ifCond .le 7, 569, 0, 0, 0), (565, .iconst 1, 0, 0, 0, 0), (566, .goto 4, 570, 0, 0, 0), (569, .iconst 0, 0, 0, 0, 0), (570, .iload 11, 0, 0, 0, 0), (572, .if_icmp .ne 59, 631, 0, 0, 0), (575, .aload_n 1, 0, 0, 0, 0), (576, .iconst 0, 0, 0, 0, 0), (577, .iconst 1, 0, 0, 0, 0), (578, .iload 10, 0, 0, 0, 0), (580, .iload 9, 0, 0, 0, 0), (582, .invokevirtual 69, 69, 605, 1, 0), (585, .iload 12, 0, 0, 0, 0), (587, .if_icmp .gt 44, 631, 0, 0, 0), (590, .aload_n 1, 0, 0, 0, 0), (591, .iconst 0, 0, 0, 0, 0), (592, .iconst 2, 0, 0, 0, 0), (593, .iload 10, 0, 0, 0, 0), (595, .iload 9, 0, 0, 0, 0), (597, .invokevirtual 69, 69, 605, 1, 0), (600, .iload 12, 0, 0, 0, 0), (602, .iload 12, 0, 0, 0, 0), (604, .imul, 0, 0, 0, 0), (605, .if_icmp .gt 26, 631, 0, 0, 0), (608, .aload_n 1, 0, 0, 0, 0), (609, .iconst 0, 0, 0, 0, 0), (610, .iconst 2, 0, 0, 0, 0), (611, .iload 10, 0, 0, 0, 0), (613, .iload 9, 0, 0, 0, 0), (615, .invokevirtual 69, 69, 605, 1, 0), (618, .aload_n 1, 0, 0, 0, 0), (619, .iconst 0, 0, 0, 0, 0), (620, .iconst 1, 0, 0, 0, 0), (621, .iload 10, 0, 0, 0, 0), (623, .iload 9, 0, 0, 0, 0), (625, .invokevirtual 69, 69, 605, 1, 0), (628, .if_icmp .ge 5, 633, 0, 0, 0), (631, .iconst 0, 0, 0, 0, 0), (632, .ireturn, 0, 0, 0, 0), (633, .iload 10, 0, 0, 0, 0), (635, .ifCond .le 32, 667, 0, 0, 0), (638, .iload 12, 0, 0, 0, 0), (640, .aload_n 1, 0, 0, 0, 0), (641, .iconst 0, 0, 0, 0, 0), (642, .iconst 0, 0, 0, 0, 0), (643, .iload 10, 0, 0, 0, 0), (645, .iconst 1, 0, 0, 0, 0), (646, .isub, 0, 0, 0, 0), (647, .iload 9, 0, 0, 0, 0), (649, .invokevirtual 69, 69, 605, 1, 0), (652, .isub, 0, 0, 0, 0), (653, .invokestatic 75, 0, 704, 5, 0), (656, .iconst 1, 0, 0, 0, 0), (657, .if_icmp .le 10, 667, 0, 0, 0), (660, .iload 8, 0, 0, 0, 0), (662, .iload 4, 0, 0, 0, 0), (664, .if_icmp .lt 54, 718, 0, 0, 0), (667, .iload 9, 0, 0, 0, 0), (669, .ifCond .le 51, 720, 0, 0, 0), (672, .iload 11, 0, 0, 0, 0), (674, .ifCond .eq 46, 720, 0, 0, 0), (677, .aload_n 1, 0, 0, 0, 0), (678, .iconst 0, 0, 0, 0, 0), (679, .iload 10, 0, 0, 0, 0), (681, .iload 9, 0, 0, 0, 0), (683, .iconst 1, 0, 0, 0, 0), (684, .isub, 0, 0, 0, 0), (685, .invokevirtual 66, 60, 502, 1, 0), (688, .bipush 127, 0, 0, 0, 0), (690, .if_icmp .le 30, 720, 0, 0, 0), (693, .aload_n 1, 0, 0, 0, 0), (694, .iconst 0, 0, 0, 0, 0), (695, .iconst 4, 0, 0, 0, 0), (696, .iload 10, 0, 0, 0, 0), (698, .iload 9, 0, 0, 0, 0), (700, .invokevirtual 72, 67, 578, 1, 0), (703, .aload_n 1, 0, 0, 0, 0), (704, .iconst 0, 0, 0, 0, 0), (705, .iconst 4, 0, 0, 0, 0), (706, .iload 10, 0, 0, 0, 0), (708, .iload 9, 0, 0, 0, 0), (710, .iconst 1, 0, 0, 0, 0), (711, .isub, 0, 0, 0, 0), (712, .invokevirtual 72, 67, 578, 1, 0), (715, .if_icmp .eq 5, 720, 0, 0, 0), (718, .iconst 0, 0, 0, 0, 0), (719, .ireturn, 0, 0, 0, 0), (720, .iinc 10 1, 0, 0, 0, 0), (723, .goto (-249), 474, 0, 0, 0), (726, .iinc 9 1, 0, 0, 0, 0), (729, .goto (-264), 465, 0, 0, 0), (732, .aload_n 1, 0, 0, 0, 0), (733, .invokevirtual 36, 75, 676, 1, 0), (736, .lload 5, 0, 0, 0, 0), (738, .lcmp, 0, 0, 0, 0), (739, .ifCond .eq 5, 744, 0, 0, 0), (742, .iconst 0, 0, 0, 0, 0), (743, .ireturn, 0, 0, 0, 0), (744, .aload_n 1, 0, 0, 0, 0), (745, .iconst 0, 0, 0, 0, 0), (746, .iconst 1, 0, 0, 0, 0), (747, .invokevirtual 81, 56, 363, 1, 0), (750, .pop, 0, 0, 0, 0), (751, .iconst 0, 0, 0, 0, 0), (752, .istore 9, 0, 0, 0, 0), (754, .iload 9, 0, 0, 0, 0), (756, .iconst 4, 0, 0, 0, 0), (757, .if_icmp .ge 22, 779, 0, 0, 0), (760, .aload_n 1, 0, 0, 0, 0), (761, .iconst 1, 0, 0, 0, 0), (762, .iconst 0, 0, 0, 0, 0), (763, .invokevirtual 84, 57, 371, 1, 0), (766, .iload 4, 0, 0, 0, 0), (768, .if_icmp .eq 5, 773, 0, 0, 0), (771, .iconst 0, 0, 0, 0, 0), (772, .ireturn, 0, 0, 0, 0), (773, .iinc 9 1, 0, 0, 0, 0), (776, .goto (-22), 754, 0, 0, 0), (779, .iconst 0, 0, 0, 0, 0), (780, .istore 9, 0, 0, 0, 0), (782, .iload 9, 0, 0, 0, 0), (784, .iconst 2, 0, 0, 0, 0), (785, .if_icmp .ge 22, 807, 0, 0, 0), (788, .aload_n 1, 0, 0, 0, 0), (789, .iconst 1, 0, 0, 0, 0), (790, .iconst 1, 0, 0, 0, 0), (791, .invokevirtual 84, 57, 371, 1, 0), (794, .iload 4, 0, 0, 0, 0), (796, .if_icmp .eq 5, 801, 0, 0, 0), (799, .iconst 0, 0, 0, 0, 0), (800, .ireturn, 0, 0, 0, 0), (801, .iinc 9 1, 0, 0, 0, 0), (804, .goto (-22), 782, 0, 0, 0), (807, .aload_n 1, 0, 0, 0, 0), (808, .iconst 0, 0, 0, 0, 0), (809, .iconst 1, 0, 0, 0, 0), (810, .invokevirtual 50, 64, 526, 1, 0), (813, .dconst 0, 0, 0, 0, 0), (814, .dcmp .l, 0, 0, 0, 0), (815, .ifCond .ne 36, 851, 0, 0, 0), (818, .aload_n 1, 0, 0, 0, 0), (819, .iconst 1, 0, 0, 0, 0), (820, .iconst 3, 0, 0, 0, 0), (821, .invokevirtual 84, 57, 371, 1, 0), (824, .iconst 4, 0, 0, 0, 0), (825, .iload 4, 0, 0, 0, 0), (827, .imul, 0, 0, 0, 0), (828, .if_icmp .ne 23, 851, 0, 0, 0), (831, .aload_n 1, 0, 0, 0, 0), (832, .iconst 1, 0, 0, 0, 0), (833, .iconst 2, 0, 0, 0, 0), (834, .invokevirtual 84, 57, 371, 1, 0), (837, .iload 4, 0, 0, 0, 0), (839, .if_icmp .ne 12, 851, 0, 0, 0), (842, .aload_n 1, 0, 0, 0, 0), (843, .iconst 1, 0, 0, 0, 0), (844, .iconst 0, 0, 0, 0, 0), (845, .invokevirtual 81, 56, 363, 1, 0), (848, .ifCond .eq 5, 853, 0, 0, 0), (851, .iconst 0, 0, 0, 0, 0), (852, .ireturn, 0, 0, 0, 0), (853, .bipush 7, 0, 0, 0, 0), (855, .istore 9, 0, 0, 0, 0), (857, .iload 9, 0, 0, 0, 0), (859, .bipush 9, 0, 0, 0, 0), (861, .if_icmp .ge 86, 947, 0, 0, 0), (864, .aload_n 1, 0, 0, 0, 0), (865, .iconst 0, 0, 0, 0, 0), (866, .iconst 1, 0, 0, 0, 0), (867, .invokevirtual 81, 56, 363, 1, 0), (870, .pop, 0, 0, 0, 0), (871, .aload_n 1, 0, 0, 0, 0), (872, .iconst 1, 0, 0, 0, 0), (873, .iload 9, 0, 0, 0, 0), (875, .invokevirtual 87, 58, 401, 1, 0), (878, .pop, 0, 0, 0, 0), (879, .aload_n 1, 0, 0, 0, 0), (880, .iconst 1, 0, 0, 0, 0), (881, .iload 9, 0, 0, 0, 0), (883, .invokevirtual 87, 58, 401, 1, 0), (886, .ifCond .ne 53, 939, 0, 0, 0), (889, .iload 9, 0, 0, 0, 0), (891, .bipush 7, 0, 0, 0, 0), (893, .if_icmp .ne 7, 900, 0, 0, 0), (896, .iconst 1, 0, 0, 0, 0), (897, .goto 4, 901, 0, 0, 0), (900, .iconst 0, 0, 0, 0, 0), (901, .aload_n 1, 0, 0, 0, 0), (902, .iconst 1, 0, 0, 0, 0), (903, .iconst 4, 0, 0, 0, 0), (904, .invokevirtual 47, 61, 506, 1, 0), (907, .aload_n 1, 0, 0, 0, 0), (908, .iconst 0, 0, 0, 0, 0), (909, .iconst 4, 0, 0, 0, 0), (910, .invokevirtual 47, 61, 506, 1, 0), (913, .if_icmp .gt 7, 920, 0, 0, 0), (916, .iconst 1, 0, 0, 0, 0), (917, .goto 4, 921, 0, 0, 0), (920, .iconst 0, 0, 0, 0, 0), (921, .if_icmp .eq 20, 941, 0, 0, 0), (924, .aload_n 1, 0, 0, 0, 0), (925, .iconst 1, 0, 0, 0, 0), (926, .iconst 4, 0, 0, 0, 0), (927, .invokevirtual 47, 61, 506, 1, 0), (930, .aload_n 1, 0, 0, 0, 0), (931, .iconst 0, 0, 0, 0, 0), (932, .iconst 4, 0, 0, 0, 0), (933, .invokevirtual 47, 61, 506, 1, 0), (936, .if_icmp .eq 5, 941, 0, 0, 0), (939, .iconst 0, 0, 0, 0, 0), (940, .ireturn, 0, 0, 0, 0), (941, .iinc 9 1, 0, 0, 0, 0), (944, .goto (-87), 857, 0, 0, 0), (947, .iconst 3, 0, 0, 0, 0), (948, .istore 9, 0, 0, 0, 0), (950, .iload 9, 0, 0, 0, 0), (952, .iconst 5, 0, 0, 0, 0), (953, .if_icmp .ge 115, 1068, 0, 0, 0), (956, .aload_n 1, 0, 0, 0, 0), (957, .iconst 0, 0, 0, 0, 0), (958, .iconst 1, 0, 0, 0, 0), (959, .invokevirtual 81, 56, 363, 1, 0), (962, .pop, 0, 0, 0, 0), (963, .aload_n 1, 0, 0, 0, 0), (964, .iconst 0, 0, 0, 0, 0), (965, .iconst 2, 0, 0, 0, 0), (966, .invokevirtual 81, 56, 363, 1, 0), (969, .pop, 0, 0, 0, 0), (970, .aload_n 1, 0, 0, 0, 0), (971, .iconst 1, 0, 0, 0, 0), (972, .iload 9, 0, 0, 0, 0), (974, .invokevirtual 87, 58, 401, 1, 0), (977, .pop, 0, 0, 0, 0), (978, .aload_n 1, 0, 0, 0, 0), (979, .iconst 2, 0, 0, 0, 0), (980, .iload 9, 0, 0, 0, 0), (982, .iconst 2, 0, 0, 0, 0), (983, .iadd, 0, 0, 0, 0), (984, .invokevirtual 87, 58, 401, 1, 0), (987, .pop, 0, 0, 0, 0), (988, .iconst 0, 0, 0, 0, 0), (989, .istore 10, 0, 0, 0, 0), (991, .iload 10, 0, 0, 0, 0), (993, .iload_n 3, 0, 0, 0, 0), (994, .if_icmp .ge 68, 1062, 0, 0, 0), (997, .iconst 0, 0, 0, 0, 0), (998, .istore 11, 0, 0, 0, 0), (1000, .iload 11, 0, 0, 0, 0), (1002, .iload_n 2, 0, 0, 0, 0), (1003, .if_icmp .ge 53, 1056, 0, 0, 0), (1006, .aload_n 1, 0, 0, 0, 0), (1007, .iconst 1, 0, 0, 0, 0), (1008, .iload 11, 0, 0, 0, 0), (1010, .iload 10, 0, 0, 0, 0), (1012, .invokevirtual 66, 60, 502, 1, 0), (1015, .aload_n 1, 0, 0, 0, 0), (1016, .iconst 0, 0, 0, 0, 0), (1017, .iload 11, 0, 0, 0, 0), (1019, .iload 10, 0, 0, 0, 0), (1021, .invokevirtual 66, 60, 502, 1, 0), (1024, .if_icmp .gt 24, 1048, 0, 0, 0), (1027, .aload_n 1, 0, 0, 0, 0), (1028, .iconst 0, 0, 0, 0, 0), (1029, .iload 11, 0, 0, 0, 0), (1031, .iload 10, 0, 0, 0, 0), (1033, .invokevirtual 66, 60, 502, 1, 0), (1036, .aload_n 1, 0, 0, 0, 0), (1037, .iconst 2, 0, 0, 0, 0), (1038, .iload 11, 0, 0, 0, 0), (1040, .iload 10, 0, 0, 0, 0), (1042, .invokevirtual 66, 60, 502, 1, 0), (1045, .if_icmp .le 5, 1050, 0, 0, 0), (1048, .iconst 0, 0, 0, 0, 0), (1049, .ireturn, 0, 0, 0, 0), (1050, .iinc 11 1, 0, 0, 0, 0), (1053, .goto (-53), 1000, 0, 0, 0), (1056, .iinc 10 1, 0, 0, 0, 0), (1059, .goto (-68), 991, 0, 0, 0), (1062, .iinc 9 1, 0, 0, 0, 0), (1065, .goto (-115), 950, 0, 0, 0), (1068, .aload_n 1, 0, 0, 0, 0), (1069, .iconst 0, 0, 0, 0, 0), (1070, .iconst 1, 0, 0, 0, 0), (1071, .invokevirtual 81, 56, 363, 1, 0), (1074, .pop, 0, 0, 0, 0), (1075, .aload_n 1, 0, 0, 0, 0), (1076, .iconst 1, 0, 0, 0, 0), (1077, .iconst 0, 0, 0, 0, 0), (1078, .invokevirtual 90, 59, 452, 1, 0), (1081, .aload_n 1, 0, 0, 0, 0), (1082, .iconst 1, 0, 0, 0, 0), (1083, .iconst 0, 0, 0, 0, 0), (1084, .invokevirtual 90, 59, 452, 1, 0), (1087, .iadd, 0, 0, 0, 0), (1088, .ifCond .lt 14, 1102, 0, 0, 0), (1091, .aload_n 1, 0, 0, 0, 0), (1092, .iconst 0, 0, 0, 0, 0), (1093, .iconst 1, 0, 0, 0, 0), (1094, .invokevirtual 50, 64, 526, 1, 0), (1097, .dconst 0, 0, 0, 0, 0), (1098, .dcmp .l, 0, 0, 0, 0), (1099, .ifCond .eq 5, 1104, 0, 0, 0), (1102, .iconst 0, 0, 0, 0, 0), (1103, .ireturn, 0, 0, 0, 0), (1104, .aload_n 1, 0, 0, 0, 0), (1105, .iconst 1, 0, 0, 0, 0), (1106, .iconst 1, 0, 0, 0, 0), (1107, .aload_n 0, 0, 0, 0, 0), (1108, .bipush 12, 0, 0, 0, 0), (1110, .invokestatic 12, 101, 700, 1, 0), (1113, .iconst 2, 0, 0, 0, 0), (1114, .invokestatic 18, 100, 696, 1, 0), (1117, .iadd, 0, 0, 0, 0), (1118, .invokevirtual 90, 59, 452, 1, 0), (1121, .pop, 0, 0, 0, 0), (1122, .iconst 1, 0, 0, 0, 0), (1123, .istore 9, 0, 0, 0, 0), (1125, .iload 9, 0, 0, 0, 0), (1127, .iload 4, 0, 0, 0, 0), (1129, .if_icmp .ge 93, 1222, 0, 0, 0), (1132, .iload 9, 0, 0, 0, 0), (1134, .iload_n 2, 0, 0, 0, 0), (1135, .irem, 0, 0, 0, 0), (1136, .istore 10, 0, 0, 0, 0), (1138, .iload 9, 0, 0, 0, 0), (1140, .iload_n 2, 0, 0, 0, 0), (1141, .idiv, 0, 0, 0, 0), (1142, .istore 11, 0, 0, 0, 0), (1144, .aload_n 1, 0, 0, 0, 0), (1145, .iconst 0, 0, 0, 0, 0), (1146, .iload 10, 0, 0, 0, 0), (1148, .iload 11, 0, 0, 0, 0), (1150, .invokevirtual 66, 60, 502, 1, 0), (1153, .aload_n 1, 0, 0, 0, 0), (1154, .iconst 0, 0, 0, 0, 0), (1155, .iconst 0, 0, 0, 0, 0), (1156, .iconst 0, 0, 0, 0, 0), (1157, .invokevirtual 66, 60, 502, 1, 0), (1160, .if_icmp .gt 7, 1167, 0, 0, 0), (1163, .iconst 1, 0, 0, 0, 0), (1164, .goto 4, 1168, 0, 0, 0), (1167, .iconst 0, 0, 0, 0, 0), (1168, .aload_n 1, 0, 0, 0, 0), (1169, .iconst 1, 0, 0, 0, 0), (1170, .iload 10, 0, 0, 0, 0), (1172, .iload 11, 0, 0, 0, 0), (1174, .invokevirtual 66, 60, 502, 1, 0), (1177, .aload_n 1, 0, 0, 0, 0), (1178, .iconst 1, 0, 0, 0, 0), (1179, .iconst 0, 0, 0, 0, 0), (1180, .iconst 0, 0, 0, 0, 0), (1181, .invokevirtual 66, 60, 502, 1, 0), (1184, .if_icmp .gt 7, 1191, 0, 0, 0), (1187, .iconst 1, 0, 0, 0, 0), (1188, .goto 4, 1192, 0, 0, 0), (1191, .iconst 0, 0, 0, 0, 0), (1192, .if_icmp .eq 24, 1216, 0, 0, 0), (1195, .aload_n 1, 0, 0, 0, 0), (1196, .iconst 0, 0, 0, 0, 0), (1197, .iload 10, 0, 0, 0, 0), (1199, .iload 11, 0, 0, 0, 0), (1201, .invokevirtual 66, 60, 502, 1, 0), (1204, .aload_n 1, 0, 0, 0, 0), (1205, .iconst 0, 0, 0, 0, 0), (1206, .iconst 0, 0, 0, 0, 0), (1207, .iconst 0, 0, 0, 0, 0), (1208, .invokevirtual 66, 60, 502, 1, 0), (1211, .if_icmp .ge 5, 1216, 0, 0, 0), (1214, .iconst 0, 0, 0, 0, 0), (1215, .ireturn, 0, 0, 0, 0), (1216, .iinc 9 1, 0, 0, 0, 0), (1219, .goto (-94), 1125, 0, 0, 0), (1222, .iconst 0, 0, 0, 0, 0), (1223, .istore 9, 0, 0, 0, 0), (1225, .iconst 0, 0, 0, 0, 0), (1226, .istore 10, 0, 0, 0, 0), (1228, .iload 10, 0, 0, 0, 0), (1230, .iload_n 3, 0, 0, 0, 0), (1231, .if_icmp .ge 133, 1364, 0, 0, 0), (1234, .aload_n 1, 0, 0, 0, 0), (1235, .iconst 0, 0, 0, 0, 0), (1236, .iload 10, 0, 0, 0, 0), (1238, .invokevirtual 93, 72, 660, 1, 0), (1241, .istore 11, 0, 0, 0, 0), (1243, .iload 11, 0, 0, 0, 0), (1245, .ifCond .lt 33, 1278, 0, 0, 0), (1248, .iload 11, 0, 0, 0, 0), (1250, .iload_n 2, 0, 0, 0, 0), (1251, .if_icmp .ge 27, 1278, 0, 0, 0), (1254, .iload 10, 0, 0, 0, 0), (1256, .ifCond .le 24, 1280, 0, 0, 0), (1259, .iload 11, 0, 0, 0, 0), (1261, .aload_n 1, 0, 0, 0, 0), (1262, .iconst 0, 0, 0, 0, 0), (1263, .iload 10, 0, 0, 0, 0), (1265, .iconst 1, 0, 0, 0, 0), (1266, .isub, 0, 0, 0, 0), (1267, .invokevirtual 93, 72, 660, 1, 0), (1270, .isub, 0, 0, 0, 0), (1271, .invokestatic 75, 0, 704, 5, 0), (1274, .iconst 1, 0, 0, 0, 0), (1275, .if_icmp .le 5, 1280, 0, 0, 0), (1278, .iconst 0, 0, 0, 0, 0), (1279, .ireturn, 0, 0, 0, 0), (1280, .iload 9, 0, 0, 0, 0), (1282, .aload_n 1, 0, 0, 0, 0), (1283, .iconst 0, 0, 0, 0, 0), (1284, .iload_n 2, 0, 0, 0, 0), (1285, .iconst 1, 0, 0, 0, 0), (1286, .isub, 0, 0, 0, 0), (1287, .iload 11, 0, 0, 0, 0), (1289, .iconst 1, 0, 0, 0, 0), (1290, .iadd, 0, 0, 0, 0), (1291, .invokestatic 96, 0, 706, 4, 0), (1294, .iload 10, 0, 0, 0, 0), (1296, .invokevirtual 66, 60, 502, 1, 0), (1299, .aload_n 1, 0, 0, 0, 0), (1300, .iconst 0, 0, 0, 0, 0), (1301, .iconst 0, 0, 0, 0, 0), (1302, .iload 11, 0, 0, 0, 0), (1304, .iconst 1, 0, 0, 0, 0), (1305, .isub, 0, 0, 0, 0), (1306, .invokestatic 99, 0, 705, 3, 0), (1309, .iload 10, 0, 0, 0, 0), (1311, .invokevirtual 66, 60, 502, 1, 0), (1314, .isub, 0, 0, 0, 0), (1315, .invokestatic 75, 0, 704, 5, 0), (1318, .aload_n 1, 0, 0, 0, 0), (1319, .iconst 0, 0, 0, 0, 0), (1320, .iload 11, 0, 0, 0, 0), (1322, .iload_n 3, 0, 0, 0, 0), (1323, .iconst 1, 0, 0, 0, 0), (1324, .isub, 0, 0, 0, 0), (1325, .iload 10, 0, 0, 0, 0), (1327, .iconst 1, 0, 0, 0, 0), (1328, .iadd, 0, 0, 0, 0), (1329, .invokestatic 96, 0, 706, 4, 0), (1332, .invokevirtual 66, 60, 502, 1, 0), (1335, .aload_n 1, 0, 0, 0, 0), (1336, .iconst 0, 0, 0, 0, 0), (1337, .iload 11, 0, 0, 0, 0), (1339, .iconst 0, 0, 0, 0, 0), (1340, .iload 10, 0, 0, 0, 0), (1342, .iconst 1, 0, 0, 0, 0), (1343, .isub, 0, 0, 0, 0), (1344, .invokestatic 99, 0, 705, 3, 0), (1347, .invokevirtual 66, 60, 502, 1, 0), (1350, .isub, 0, 0, 0, 0), (1351, .invokestatic 75, 0, 704, 5, 0), (1354, .iadd, 0, 0, 0, 0), (1355, .iadd, 0, 0, 0, 0), (1356, .istore 9, 0, 0, 0, 0), (1358, .iinc 10 1, 0, 0, 0, 0), (1361, .goto (-133), 1228, 0, 0, 0), (1364, .iload_n 2, 0, 0, 0, 0), (1365, .iconst 1, 0, 0, 0, 0), (1366, .if_icmp .ne 29, 1395, 0, 0, 0), (1369, .aload_n 1, 0, 0, 0, 0), (1370, .iconst 0, 0, 0, 0, 0), (1371, .invokevirtual 102, 71, 652, 1, 0), (1374, .iload 9, 0, 0, 0, 0), (1376, .if_icmp .ne 17, 1393, 0, 0, 0), (1379, .aload_n 1, 0, 0, 0, 0), (1380, .iconst 0, 0, 0, 0, 0), (1381, .iconst 0, 0, 0, 0, 0), (1382, .invokevirtual 47, 61, 506, 1, 0), (1385, .iconst 2, 0, 0, 0, 0), (1386, .if_icmp .ne 7, 1393, 0, 0, 0), (1389, .iconst 1, 0, 0, 0, 0), (1390, .goto 4, 1394, 0, 0, 0), (1393, .iconst 0, 0, 0, 0, 0), (1394, .ireturn, 0, 0, 0, 0), (1395, .aload_n 1, 0, 0, 0, 0), (1396, .iconst 0, 0, 0, 0, 0), (1397, .iconst 1, 0, 0, 0, 0), (1398, .invokevirtual 105, 74, 668, 1, 0), (1401, .iload 9, 0, 0, 0, 0), (1403, .if_icmp .ne 29, 1432, 0, 0, 0), (1406, .aload_n 1, 0, 0, 0, 0), (1407, .iconst 0, 0, 0, 0, 0), (1408, .invokevirtual 108, 70, 622, 1, 0), (1411, .iload 9, 0, 0, 0, 0), (1413, .if_icmp .ne 19, 1432, 0, 0, 0), (1416, .aload_n 1, 0, 0, 0, 0), (1417, .iconst 0, 0, 0, 0, 0), (1418, .iconst 0, 0, 0, 0, 0), (1419, .invokevirtual 47, 61, 506, 1, 0), (1422, .iload_n 2, 0, 0, 0, 0), (1423, .iconst 1, 0, 0, 0, 0), (1424, .isub, 0, 0, 0, 0), (1425, .if_icmp .ne 7, 1432, 0, 0, 0), (1428, .iconst 1, 0, 0, 0, 0), (1429, .goto 4, 1433, 0, 0, 0), (1432, .iconst 0, 0, 0, 0, 0), (1433, .ireturn, 0, 0, 0, 0)]
def m_progs : List (List m_I) := [m_p_0, m_p_1, m_p_2, m_p_3, m_p_4, m_p_5, m_p_6, m_p_7, m_p_8, m_p_9, m_p_10, m_p_11, m_p_12, m_p_13, m_p_14, m_p_15, m_p_16, m_p_17, m_p_18, m_p_19, m_p_20, m_p_21, m_p_22, m_p_23, m_p_24, m_p_25, m_p_26, m_p_27, m_p_28, m_p_29, m_p_30, m_p_31, m_p_32, m_p_33, m_p_34, m_p_35, m_p_36, m_p_37, m_p_38, m_p_39, m_p_40, m_p_41, m_p_42, m_p_43, m_p_44, m_p_45, m_p_46, m_p_47, m_p_48, m_p_49, m_p_50, m_p_51, m_p_52, m_p_53, m_p_54, m_p_55, m_p_56, m_p_57, m_p_58, m_p_59, m_p_60, m_p_61, m_p_62, m_p_63, m_p_64, m_p_65, m_p_66, m_p_67, m_p_68, m_p_69, m_p_70, m_p_71, m_p_72, m_p_73, m_p_74, m_p_75, m_p_76, m_p_77, m_p_78, m_p_79, m_p_80, m_p_81, m_p_82, m_p_83, m_p_84, m_p_85, m_p_86, m_p_87, m_p_88, m_p_89, m_p_90, m_p_91, m_p_92, m_p_93, m_p_94, m_p_95, m_p_96, m_p_97, m_p_98, m_p_99, m_p_100, m_p_101, m_p_102]
def m_prog (M : Nat) : List m_I := m_progs.getD M []
/-- name, code, size of the locals, type of the answer, static, arguments (without the receiver), class of the receiver, frames, words -/
abbrev m_N : Type := MethodName × ByteArray × Nat × Option FieldType × Bool × Nat × Nat × Nat × Nat
def m_infs : List m_N := [(yX0_init, cX0_init, 2, none, false, 0, 0, 2, 40),
  (yX0_run, cX0_run, 4, none, false, 3, 0, 4, 94),
  (yX0_pass, cX0_pass, 6, none, false, 3, 0, 3, 69),
  (yX0_gatherNine, cX0_gatherNine, 5, none, false, 3, 0, 2, 45),
  (yX0_resultOfNine, cX0_resultOfNine, 2, (some .int), false, 1, 0, 2, 44),
  (yX0_weighted, cX0_weighted, 3, (some .int), false, 0, 0, 0, 0),
  (yX0_middle, cX0_middle, 4, (some .int), false, 0, 0, 0, 0),
  (yX0_edge, cX0_edge, 3, (some .int), false, 0, 0, 1, 21),
  (yX0_least, cX0_least, 4, (some .int), false, 1, 0, 1, 21),
  (yX0_greatest, cX0_greatest, 4, (some .int), false, 1, 0, 1, 21),
  (yX0_isInCross, cX0_isInCross, 1, (some .boolean), true, 1, 0, 0, 0),
  (yX1_init, cX1_init, 1, none, false, 0, 1, 1, 20),
  (yX1_find, cX1_find, 7, none, false, 4, 1, 3, 73),
  (yX1_markMembers, cX1_markMembers, 6, none, false, 3, 1, 0, 0),
  (yX1_gather, cX1_gather, 6, none, false, 3, 1, 2, 48),
  (yX1_join, cX1_join, 3, none, false, 2, 1, 0, 0),
  (yX1_joinNeighbours, cX1_joinNeighbours, 7, none, false, 3, 1, 1, 22),
  (yX1_numberAt, cX1_numberAt, 3, (some .int), false, 2, 1, 0, 0),
  (yX1_awayFromEdges, cX1_awayFromEdges, 3, (some .int), false, 0, 1, 0, 0),
  (yX1_factOf, cX1_factOf, 3, (some .int), false, 2, 1, 3, 68),
  (yX1_bound, cX1_bound, 8, (some .int), false, 2, 1, 1, 22),
  (yX1_bareSides, cX1_bareSides, 5, (some .int), false, 1, 1, 2, 44),
  (yX1_bareSide, cX1_bareSide, 3, (some .int), false, 2, 1, 1, 22),
  (yX2_init, cX2_init, 1, none, false, 0, 2, 2, 40),
  (yX2_find, cX2_find, 4, none, false, 1, 2, 3, 70),
  (yX2_leastAbove, cX2_leastAbove, 4, (some .int), false, 3, 2, 2, 47),
  (yX2_costOf, cX2_costOf, 3, (some .int), true, 3, 2, 2, 45),
  (yX2_bestColumn, cX2_bestColumn, 7, (some .int), false, 4, 2, 1, 21),
  (yX2_takeOut, cX2_takeOut, 4, none, false, 1, 2, 2, 61),
  (yX2_putIn, cX2_putIn, 5, none, false, 1, 2, 2, 61),
  (yX3_init, cX3_init, 1, none, false, 0, 3, 1, 20),
  (yX3_size, cX3_size, 1, (some .int), false, 0, 3, 0, 0),
  (yX3_measure, cX3_measure, 3, none, false, 2, 3, 0, 0),
  (yX3_near, cX3_near, 5, (some .int), false, 2, 3, 1, 21),
  (yX3_put, cX3_put, 4, none, false, 3, 3, 1, 21),
  (yX3_total, cX3_total, 3, (some .int), false, 0, 3, 1, 20),
  (yX3_isAsLargeAs, cX3_isAsLargeAs, 2, (some .boolean), false, 1, 3, 0, 0),
  (yX3_differing, cX3_differing, 4, (some .int), false, 1, 3, 1, 20),
  (yX3_become, cX3_become, 2, none, false, 1, 3, 1, 40),
  (yX4_init, cX4_init, 1, none, false, 0, 4, 1, 20),
  (yX4_read, cX4_read, 3, none, false, 1, 4, 1, 20),
  (yX4_planned, cX4_planned, 2, (some .int), false, 1, 4, 0, 0),
  (yX4_plan, cX4_plan, 2, none, false, 1, 4, 3, 66),
  (yX4_planNegative, cX4_planNegative, 2, none, false, 0, 4, 0, 0),
  (yX4_planStretch, cX4_planStretch, 4, none, false, 0, 4, 2, 43),
  (yX4_planEven, cX4_planEven, 3, none, false, 0, 4, 0, 0),
  (yX4_planCut, cX4_planCut, 3, none, false, 0, 4, 1, 36),
  (yX4_least, cX4_least, 1, (some .int), false, 0, 4, 1, 23),
  (yX4_greatest, cX4_greatest, 1, (some .int), false, 0, 4, 1, 23),
  (yX4_inOrder, cX4_inOrder, 4, (some .int), false, 1, 4, 0, 0),
  (yX4_cut, cX4_cut, 17, (some .int), false, 0, 4, 0, 0),
  (yX5_init, cX5_init, 2, none, false, 0, 5, 3, 61),
  (yX5_fresh, cX5_fresh, 7, (some .int), false, 4, 5, 2, 42),
  (yX5_dot, cX5_dot, 7, (some .int), false, 4, 5, 2, 45),
  (yX5_disc, cX5_disc, 11, (some .int), false, 5, 5, 3, 83),
  (yX5_shade, cX5_shade, 9, (some .int), false, 4, 5, 2, 45),
  (yX5_copy, cX5_copy, 6, (some .int), false, 2, 5, 2, 61),
  (yX5_turn, cX5_turn, 8, (some .int), false, 2, 5, 3, 68),
  (yX5_filter, cX5_filter, 4, (some .int), false, 2, 5, 5, 117),
  (yX5_values, cX5_values, 5, (some .int), false, 2, 5, 4, 87),
  (yX5_value, cX5_value, 5, (some .int), false, 3, 5, 2, 45),
  (yX5_sheet, cX5_sheet, 4, (some .int), false, 2, 5, 3, 65),
  (yX5_count, cX5_count, 7, (some .int), false, 3, 5, 1, 22),
  (yX5_ordered, cX5_ordered, 4, (some .int), false, 2, 5, 2, 42),
  (yX5_difference, cX5_difference, 7, (some .double), false, 2, 5, 1, 21),
  (yX5_parts, cX5_parts, 4, (some .int), false, 2, 5, 5, 122),
  (yX5_holes, cX5_holes, 4, (some .int), false, 2, 5, 5, 122),
  (yX5_partOf, cX5_partOf, 6, (some .int), false, 4, 5, 4, 99),
  (yX5_part, cX5_part, 6, (some .int), false, 4, 5, 4, 99),
  (yX5_far, cX5_far, 6, (some .int), false, 4, 5, 4, 96),
  (yX5_carve, cX5_carve, 3, (some .int), false, 1, 5, 4, 93),
  (yX5_widen, cX5_widen, 3, (some .int), false, 1, 5, 4, 93),
  (yX5_seam, cX5_seam, 4, (some .int), false, 2, 5, 4, 93),
  (yX5_partsAt, cX5_partsAt, 5, (some .int), false, 3, 5, 5, 122),
  (yX5_carvedBy, cX5_carvedBy, 4, (some .int), false, 2, 5, 5, 117),
  (yX5_digest, cX5_digest, 5, (some .long), false, 0, 5, 6, 148),
  (yX5_sheetAt, cX5_sheetAt, 2, (some (.object "ParallaxSheets$Sheet")), false, 1, 5, 0, 0),
  (yX5_needField, cX5_needField, 3, none, true, 3, 5, 1, 22),
  (yX5_needPlace, cX5_needPlace, 1, none, true, 1, 5, 0, 0),
  (yX5_refuseUnless, cX5_refuseUnless, 1, none, true, 1, 5, 0, 0),
  (yX5_needState, cX5_needState, 1, none, true, 1, 5, 0, 0),
  (yX5_isFrom, cX5_isFrom, 3, (some .boolean), true, 3, 5, 0, 0),
  (yX5_isValue, cX5_isValue, 1, (some .boolean), true, 1, 5, 1, 22),
  (yX5_isSlope, cX5_isSlope, 1, (some .boolean), true, 1, 5, 1, 22),
  (yX5_isWays, cX5_isWays, 1, (some .boolean), true, 1, 5, 0, 0),
  (yX5_changeToNext, cX5_changeToNext, 3, (some .int), false, 1, 5, 2, 61),
  (yX5_turnedSide, cX5_turnedSide, 3, (some .int), true, 3, 5, 1, 21),
  (yX5_turnedValue, cX5_turnedValue, 4, (some .int), true, 4, 5, 2, 45),
  (yX5_factOf, cX5_factOf, 3, (some .int), false, 2, 5, 2, 43),
  (yX5_partsFrom, cX5_partsFrom, 4, (some .int), false, 3, 5, 4, 99),
  (yX5_holesOf, cX5_holesOf, 4, (some .int), false, 2, 5, 4, 99),
  (yX5_farOf, cX5_farOf, 5, (some .int), true, 4, 5, 3, 72),
  (yX5_farWithin, cX5_farWithin, 8, (some .int), true, 4, 5, 2, 45),
  (yX5_farToOutside, cX5_farToOutside, 6, (some .int), true, 4, 5, 2, 43),
  (yX5_distance, cX5_distance, 3, (some .int), true, 3, 5, 1, 21),
  (yX5_costOfCarving, cX5_costOfCarving, 5, (some .int), false, 2, 5, 4, 93),
  (yX5_digestWith, cX5_digestWith, 3, (some .long), true, 2, 5, 0, 0),
  (yX5_digestFacts, cX5_digestFacts, 7, (some .long), false, 2, 5, 5, 122),
  (yX5_digestSeams, cX5_digestSeams, 7, (some .long), false, 2, 5, 5, 117),
  (yX5_digestFields, cX5_digestFields, 6, (some .long), true, 2, 5, 4, 96),
  (yL_below, cL_below, 2, (some .int), true, 2, 99, 0, 0),
  (yL_cell, cL_cell, 2, (some .int), true, 2, 99, 0, 0),
  (yL_law, cL_law, 13, (some .boolean), true, 1, 99, 7, 172)]
def m_inf (M : Nat) : m_N := m_infs.getD M (yL_law, cL_law, 0, none, true, 0, 99, 0, 0)
def m_mpls : List (Nat × Nat × Nat × Nat) := [(86, 33, 85, 0), (408, 33, 406, 407), (412, 33, 411, 3), (417, 33, 416, 4), (422, 33, 421, 5), (426, 33, 425, 6), (430, 33, 429, 7), (434, 33, 433, 8), (441, 33, 440, 9), (449, 33, 448, 10), (444, 33, 443, 0), (126, 35, 125, 0), (545, 35, 543, 544), (549, 35, 548, 17), (557, 35, 556, 18), (561, 35, 560, 19), (565, 35, 564, 20), (553, 35, 551, 552), (577, 35, 575, 576), (590, 35, 588, 589), (602, 35, 601, 24), (594, 35, 593, 22), (598, 35, 597, 23), (159, 36, 158, 0), (629, 36, 627, 628), (638, 36, 637, 25), (632, 36, 631, 0), (642, 36, 641, 26), (648, 36, 646, 647), (659, 36, 657, 658), (58, 32, 57, 0), (305, 32, 303, 304), (301, 32, 299, 300), (320, 32, 318, 319), (330, 32, 328, 329), (362, 32, 360, 361), (370, 32, 368, 369), (351, 32, 349, 350), (338, 32, 336, 337), (110, 34, 109, 0), (459, 34, 457, 458), (501, 34, 499, 500), (464, 34, 462, 463), (468, 34, 467, 11), (472, 34, 471, 12), (488, 34, 487, 13), (492, 34, 491, 14), (476, 34, 474, 475), (484, 34, 482, 483), (480, 34, 478, 479), (496, 34, 494, 495), (49, 31, 48, 0), (200, 31, 198, 199), (309, 31, 307, 308), (334, 31, 332, 333), (355, 31, 353, 354), (366, 31, 364, 365), (374, 31, 372, 373), (404, 31, 402, 403), (455, 31, 453, 454), (505, 31, 503, 504), (509, 31, 507, 508), (520, 31, 518, 519), (524, 31, 522, 523), (529, 31, 527, 528), (534, 31, 532, 533), (569, 31, 567, 568), (581, 31, 579, 580), (586, 31, 584, 585), (608, 31, 606, 607), (625, 31, 623, 624), (655, 31, 653, 654), (663, 31, 661, 662), (667, 31, 665, 666), (671, 31, 669, 670), (679, 31, 677, 678), (204, 31, 203, 0), (312, 31, 311, 0), (315, 31, 314, 0), (281, 31, 280, 0), (381, 31, 380, 0), (275, 31, 274, 0), (278, 31, 277, 0), (358, 31, 357, 0), (537, 31, 536, 0), (347, 31, 346, 2), (377, 31, 376, 0), (400, 31, 399, 0), (513, 31, 512, 15), (541, 31, 540, 16), (573, 31, 572, 21), (611, 31, 610, 0), (614, 31, 613, 0), (621, 31, 620, 0), (617, 31, 616, 0), (675, 31, 674, 27), (687, 31, 686, 0), (684, 31, 683, 28), (692, 31, 691, 29), (695, 31, 694, 0), (698, 30, 697, 0), (702, 30, 701, 0), (0, 30, 0, 0)]
def m_cl : List vw_C := [(RX0, TX0, 5), (RX1, TX1, 8), (RX2, TX2, 4), (RX3, TX3, 3), (RX4, TX4, 3), (RX5, TX5, 6)]
def m_fty (ci k : Nat) : FieldType := match ci with
  | 0 => tyX0 k
  | 1 => tyX1 k
  | 2 => tyX2 k
  | 3 => tyX3 k
  | 4 => tyX4 k
  | _ => tyX5 k
def m_cpl : List (Nat × Nat × List Nat) := [(83, 33, [95, 97, 99, 101, 103]), (123, 35, [137, 139, 141, 143, 145, 147, 149, 151]), (156, 36, [169, 171, 173, 175]), (55, 32, [74, 76, 78]), (107, 34, [115, 117, 119]), (46, 31, [184, 186, 188, 190, 192, 194])]
def m_nest : List Cond := [.methodLinkNest "ParallaxSheets" 15 ⟨"ParallaxSheets$Sheet", "<init>", "()V"⟩ "ParallaxSheets", .methodLinkNest "ParallaxSheets$Filters" 27 ⟨"ParallaxSheets$Sheet", "<init>", "()V"⟩ "ParallaxSheets", .methodLinkNest "ParallaxSheets" 29 ⟨"ParallaxSheets$Tones", "<init>", "()V"⟩ "ParallaxSheets", .methodLinkNest "ParallaxSheets" 36 ⟨"ParallaxSheets$Parts", "<init>", "()V"⟩ "ParallaxSheets", .methodLinkNest "ParallaxSheets" 43 ⟨"ParallaxSheets$Seams", "<init>", "()V"⟩ "ParallaxSheets", .methodLinkNest "ParallaxSheets$Seams" 24 ⟨"ParallaxSheets$Sheet", "<init>", "()V"⟩ "ParallaxSheets"]
def m_mathpl : List (Nat × Nat) := [(325, 326), (322, 323), (436, 437), (342, 343)]
def m_miscpl : Nat × Nat × Nat × Nat := (42, 43, 51, 52)
end
section
/-! the machine over worlds: a run of the program's data over abstract cells; below, that the real machine does the same -/
def m_gw : List Cond := lw_tbl.filter goodWord
def m_wp (i : Nat) (w : Cond) : Bool := decide (lw_tbl[i]? = some w) && goodWord w
theorem m_wp_in {i : Nat} {w : Cond} (h : m_wp i w = true) : w ∈ m_gw := by
  simp only [m_wp, Bool.and_eq_true, decide_eq_true_eq] at h
  exact List.mem_filter.mpr ⟨List.mem_of_getElem? h.1, h.2⟩
def m_nm (M : Nat) : MethodName := (m_inf M).1
def m_by (M : Nat) : ByteArray := (m_inf M).2.1
def m_nL (M : Nat) : Nat := (m_inf M).2.2.1
def m_rt (M : Nat) : Option FieldType := (m_inf M).2.2.2.1
def m_stc (M : Nat) : Bool := (m_inf M).2.2.2.2.1
def m_na (M : Nat) : Nat := (m_inf M).2.2.2.2.2.1
def m_rc (M : Nat) : Nat := (m_inf M).2.2.2.2.2.2.1
def m_fr (M : Nat) : Nat := (m_inf M).2.2.2.2.2.2.2.1
def m_lo (M : Nat) : Nat := (m_inf M).2.2.2.2.2.2.2.2
def m_code (M pc : Nat) : Option (Instr × Nat × Nat × Nat × Int) := ((m_prog M).find? (fun q => q.1 == pc)).map (fun q => q.2)
def m_ty : Nat → FieldType
  | 0 => .int
  | 1 => .boolean
  | _ => .object "ParallaxSheets$Sheet"
def m_len (i : Instr) (z : Int) : Nat := match i with
  | .bipush _ => 2
  | .ldc _ => 2
  | .iload _ => 2
  | .istore _ => 2
  | .lload _ => 2
  | .lstore _ => 2
  | .aload _ => 2
  | .astore _ => 2
  | .newarray _ => 2
  | .sipush _ => 3
  | .getfield _ => 3
  | .putfield _ => 3
  | .invokevirtual _ => 3
  | .invokespecial _ => 3
  | .invokestatic _ => 3
  | .new _ => 3
  | .anewarray _ => 3
  | .goto _ => 3
  | .ifCond _ _ => 3
  | .if_icmp _ _ => 3
  | .iinc _ _ => 3
  | .ldc2_w _ => 3
  | .tableswitch _ _ _ _ => z.toNat
  | .lookupswitch _ _ => z.toNat
  | _ => 1
/-- what a callee's words must be, by their places -/
def m_okM (x : Nat) : Bool :=
  let nm := m_nm x
  let pl := m_mpls.getD x (0, 0, 0, 0)
  m_wp pl.1 (.code nm (m_by x) (m_nL x) (m_rt x)) && m_wp pl.2.1 (.initialized nm.cls) &&
    (if m_stc x = true then m_wp pl.2.2.1 (.static nm) else
      m_wp pl.2.2.1 (.instanceMethod nm) && decide ((m_cl[m_rc x]?).map (fun r => r.1) = some nm.cls) && (decide (nm.name = "<init>") || m_wp pl.2.2.2 (.selects nm.cls nm nm))) &&
    decide (nm.cls ≠ "java/lang/invoke/MethodHandle") && decide (nm.cls ≠ "java/lang/invoke/VarHandle") && decide ((parseMethodDescriptor nm.desc).map (fun d => d.parameters.length) = some (m_na x)) && plainName nm.cls
def m_okC (M : Nat) (k x y w : Nat) : Bool :=
  (if w = 1 then m_wp y (.methodLink (m_nm M).cls k (m_nm x)) else decide (w = 2) && m_nest.any (fun u => decide (u = .methodLinkNest (m_nm M).cls k (m_nm x) "ParallaxSheets"))) && decide (m_fr x + 1 ≤ m_fr M) && decide (8 + (m_nL x + 11) + m_lo x ≤ m_lo M) && decide (x < 102)
def m_okF (M k x y z : Nat) : Bool := match m_cl[x]? with
  | some r => decide (y < r.2.2) && m_wp z (.fieldLink (m_nm M).cls k (r.2.1 y).1 (r.2.1 y).2.1 (r.2.1 y).2.2.1)
  | none => false
def m_okP (M x y : Nat) : Bool := match m_cl[x]? with
  | some r => decide ((r.2.1 y).2.2.2 = false) || (decide ((r.2.1 y).2.2.2 = true) && decide ((m_nm M).name = "<init>") && decide ((r.2.1 y).1 = (m_nm M).cls))
  | none => false
def m_okN (M k x y : Nat) : Bool := match m_cl[x]?, m_cpl[x]? with
  | some r, some pl => m_wp y (.classLink (m_nm M).cls k r.1) && m_wp pl.1 (.instantiable r.1 r.2.2) && m_wp pl.2.1 (.initialized r.1)
  | _, _ => false
/-- what an instruction's row must be -/
def m_okE (M : Nat) (q : m_I) : Bool := match q with
  | (pc, i, x, y, w, z) => decide (decode (m_by M) pc = .ok (i, m_len i z)) && (match i with
    | .getfield k => m_okF M k x y z.toNat
    | .putfield k => m_okF M k x y z.toNat && m_okP M x y
    | .ifCond _ off => decide ((pc : Int) + off = (x : Int))
    | .if_icmp _ off => decide ((pc : Int) + off = (x : Int))
    | .goto off => decide ((pc : Int) + off = (x : Int))
    | .lookupswitch _ ps => (ps.toList.zip (ps.toList.drop 1)).all (fun (a, next) => a.1 < next.1)
    | .new k => m_okN M k x y
    | .newarray t => decide (x < 2) && decide (newarray.typeOf t = m_ty x) && m_wp y (.arrayClass (m_ty x))
    | .anewarray k => decide (x = 2) && m_wp y (.classLink (m_nm M).cls k "ParallaxSheets$Sheet")
    | .ldc k => m_wp y (.constant (m_nm M).cls k (Int32.ofInt z))
    | .ldc2_w k => m_wp y (.constantLong (m_nm M).cls k (Int64.ofInt z))
    | .invokevirtual k => decide (w = 1) && m_okC M k x y w && decide (m_stc x = false) && decide ((m_nm x).name ≠ "<init>")
    | .invokestatic k => if w = 3 then m_wp y (.methodLink (m_nm M).cls k Lib.Math.max.name) && decide (1 ≤ m_fr M) && decide (21 ≤ m_lo M)
        else if w = 4 then m_wp y (.methodLink (m_nm M).cls k Lib.Math.min.name) && decide (1 ≤ m_fr M) && decide (21 ≤ m_lo M)
        else if w = 5 then m_wp y (.methodLink (m_nm M).cls k Lib.Math.abs.name) && decide (1 ≤ m_fr M) && decide (21 ≤ m_lo M)
        else if w = 6 then m_wp y (.methodLink (m_nm M).cls k arraycopyName) && decide (1 ≤ m_fr M) && decide (8 + (nativeFrameWords "java/lang/System" "arraycopy" 5 + 11) ≤ m_lo M)
        else decide (w = 1) && m_okC M k x y w && decide (m_stc x = true)
    | .invokespecial k => if w = 7 then m_wp y (.methodLink (m_nm M).cls k Lib.objectInit) && decide (1 ≤ m_fr M) && decide (20 ≤ m_lo M)
        else m_okC M k x y w && decide (m_stc x = false) && decide ((m_nm x).name = "<init>") && decide (m_rt x = none)
    | _ => true)
/-! abstract cells: an array of a kind with its contents, or an object of a class with its fields; a reference k + 1 is the cell k, the reference 0 is the script -/
abbrev mC : Type := (Nat × List Value) ⊕ (Nat × List Value)
abbrev mL : Type := List (Nat × Value)
abbrev mS : Type := Nat × mL × List Value × List mC
def m_get (H : List mC) (r : Nat) : Option mC := match r with
  | 0 => none
  | k + 1 => H[k]?
def m_set (H : List mC) (r : Nat) (c : mC) : List mC := match r with
  | 0 => H
  | k + 1 => H.set k c
def m_ld (L : mL) (i : Nat) : Option Value := (L.find? (fun q => q.1 == i)).map (fun q => q.2)
def m_st1 (i : Nat) (v : Value) (L : mL) : mL := (i, v) :: L.filter (fun q => !(q.1 == i) && !(q.1 + 1 == i && q.2.category == 2))
def m_st2 (i : Nat) (v : Value) (L : mL) : mL := (i, v) :: L.filter (fun q => !(q.1 == i) && (!(q.1 == i + 1) && !(q.1 + 1 == i && q.2.category == 2)))
def m_isI : Value → Bool
  | .int _ => true
  | _ => false
def m_isL : Value → Bool
  | .long _ => true
  | _ => false
def m_isA : Value → Bool
  | .ref _ => true
  | _ => false
def m_lv (f : Value → Bool) (i pc' : Nat) (L : mL) (S : List Value) (H : List mC) : Option mS := match m_ld L i with
  | some v => if f v = true then some (pc', L, v :: S, H) else none
  | none => none
def m_sv1 (f : Value → Bool) (i nL pc' : Nat) (L : mL) (S : List Value) (H : List mC) : Option mS := match S with
  | v :: S' => if f v = true ∧ i < nL then some (pc', m_st1 i v L, S', H) else none
  | [] => none
def m_sv2 (f : Value → Bool) (i nL pc' : Nat) (L : mL) (S : List Value) (H : List mC) : Option mS := match S with
  | v :: S' => if f v = true ∧ i + 1 < nL then some (pc', m_st2 i v L, S', H) else none
  | [] => none
def m_b2 (f : Int32 → Int32 → Int32) (pc : Nat) (L : mL) (S : List Value) (H : List mC) : Option mS := match S with
  | .int b :: .int a :: S' => some (pc + 1, L, .int (f a b) :: S', H)
  | _ => none
def m_d2 (f : Int32 → Int32 → Int32) (pc : Nat) (L : mL) (S : List Value) (H : List mC) : Option mS := match S with
  | .int b :: .int a :: S' => if b = 0 then none else some (pc + 1, L, .int (f a b) :: S', H)
  | _ => none
def m_l2 (f : Int64 → Int64 → Int64) (pc : Nat) (L : mL) (S : List Value) (H : List mC) : Option mS := match S with
  | .long b :: .long a :: S' => some (pc + 1, L, .long (f a b) :: S', H)
  | _ => none
def m_cmp (c : ClassFile.Cond) (a b : Int32) : Bool := match c with
  | .eq => decide (a = b)
  | .ne => decide (¬ a = b)
  | .lt => decide (a < b)
  | .ge => decide (b ≤ a)
  | .gt => decide (b < a)
  | .le => decide (a ≤ b)
def m_fit (ty : FieldType) (v : Value) : Bool := match ty, v with
  | .int, .int _ => true
  | .object _, .ref _ => true
  | .array _, .ref _ => true
  | _, _ => false
def m_gf (H : List mC) (r x y : Nat) : Option Value := match m_get H r with
  | some (.inr (ci, fs)) => if ci = x then fs[y]? else none
  | _ => none
def m_pf (H : List mC) (r x y : Nat) (v : Value) : Option (List mC) := match m_get H r with
  | some (.inr (ci, fs)) => if ci = x ∧ y < fs.length ∧ m_fit (m_fty x y) v = true then some (m_set H r (.inr (ci, fs.set y v))) else none
  | _ => none
def m_ra (H : List mC) (r t : Nat) (i : Int32) : Option Value := match m_get H r with
  | some (.inl (u, vs)) => if u = t ∧ 0 ≤ i then vs[i.toNatClampNeg]? else none
  | _ => none
def m_wa (H : List mC) (r t : Nat) (i : Int32) (v : Value) : Option (List mC) := match m_get H r with
  | some (.inl (u, vs)) => if u = t ∧ 0 ≤ i ∧ i.toNatClampNeg < vs.length then some (m_set H r (.inl (u, vs.set i.toNatClampNeg v))) else none
  | _ => none
def m_jmp (pc : Nat) (off : Int) (L : mL) (S : List Value) (H : List mC) : Option mS := if 0 ≤ (pc : Int) + off then some (((pc : Int) + off).toNat, L, S, H) else none
def m_cat (S : List Value) : Nat := (S.map fun v => v.category).sum
def m_cpy (f g : List Value) (sp dp n : Nat) : List Value := (List.range g.length).map (fun k => if dp ≤ k ∧ k < dp + n then f.getD (sp + (k - dp)) .null else g.getD k .null)
def m_ints (vs : List Value) : Bool := vs.all m_isI
def m_cp (H : List mC) (r0 r : Nat) (sp dp n : Int32) : Option (List mC) := match m_get H r0, m_get H r with
  | some (.inl (u0, f)), some (.inl (u1, g)) => if u0 = 0 ∧ u1 = 0 ∧ 0 ≤ sp ∧ 0 ≤ dp ∧ 0 ≤ n ∧ sp.toNatClampNeg + n.toNatClampNeg ≤ f.length ∧ dp.toNatClampNeg + n.toNatClampNeg ≤ g.length then
      some (m_set H r (.inl (0, m_cpy f g sp.toNatClampNeg dp.toNatClampNeg n.toNatClampNeg))) else none
  | _, _ => none
def m_math (w pc : Nat) (L : mL) (S : List Value) (H : List mC) : Option mS :=
  if w = 3 then (match S with
    | .int b :: .int a :: S' => if m_cat S' ≤ 8 then some (pc + 3, L, .int (if a < b then b else a) :: S', H) else none
    | _ => none)
  else if w = 4 then (match S with
    | .int b :: .int a :: S' => if m_cat S' ≤ 8 then some (pc + 3, L, .int (if b < a then b else a) :: S', H) else none
    | _ => none)
  else if w = 5 then (match S with
    | .int a :: S' => if m_cat S' ≤ 8 then some (pc + 3, L, .int (if 0 ≤ a then a else 0 - a) :: S', H) else none
    | _ => none)
  else if w = 6 then (match S with
    | .int n :: .int dp :: .ref r :: .int sp :: .ref r0 :: S' => if m_cat S' ≤ 8 then (m_cp H r0 r sp dp n).map (fun H1 => (pc + 3, L, S', H1)) else none
    | _ => none)
  else none
/-- one instruction that is no call and no return -/
def m_ex (scr : List Int32) (M pc : Nat) (i : Instr) (x y w : Nat) (z : Int) (L : mL) (S : List Value) (H : List mC) : Option mS := match i with
  | .iconst n => some (pc + 1, L, .int (Int32.ofInt n) :: S, H)
  | .bipush n => some (pc + 2, L, .int (Int8.ofInt n).toInt32 :: S, H)
  | .sipush n => some (pc + 3, L, .int (Int16.ofInt n).toInt32 :: S, H)
  | .lconst n => some (pc + 1, L, .long (Int64.ofNat (n : Nat)) :: S, H)
  | .dconst d => if d = 0 then some (pc + 1, L, .double FP.dconst0 :: S, H) else none
  | .ldc _ => some (pc + 2, L, .int (Int32.ofInt z) :: S, H)
  | .ldc2_w _ => some (pc + 3, L, .long (Int64.ofInt z) :: S, H)
  | .iload_n k => m_lv m_isI k (pc + 1) L S H
  | .iload k => m_lv m_isI k (pc + 2) L S H
  | .lload_n k => m_lv m_isL k (pc + 1) L S H
  | .lload k => m_lv m_isL k (pc + 2) L S H
  | .aload_n k => m_lv m_isA k (pc + 1) L S H
  | .aload k => m_lv m_isA k (pc + 2) L S H
  | .istore_n k => m_sv1 m_isI k (m_nL M) (pc + 1) L S H
  | .istore k => m_sv1 m_isI k (m_nL M) (pc + 2) L S H
  | .astore_n k => m_sv1 m_isA k (m_nL M) (pc + 1) L S H
  | .astore k => m_sv1 m_isA k (m_nL M) (pc + 2) L S H
  | .lstore_n k => m_sv2 m_isL k (m_nL M) (pc + 1) L S H
  | .lstore k => m_sv2 m_isL k (m_nL M) (pc + 2) L S H
  | .iinc k n => (match m_ld L k with
    | some (.int v) => if k < m_nL M then some (pc + 3, m_st1 k (.int (v + Int32.ofInt n)) L, S, H) else none
    | _ => none)
  | .iadd => m_b2 (fun a b => a + b) pc L S H
  | .isub => m_b2 (fun a b => a - b) pc L S H
  | .imul => m_b2 (fun a b => a * b) pc L S H
  | .iand => m_b2 (fun a b => a &&& b) pc L S H
  | .ishr => m_b2 (fun a b => a >>> (b &&& 31)) pc L S H
  | .idiv => m_d2 (fun a b => a / b) pc L S H
  | .irem => m_d2 (fun a b => a - a / b * b) pc L S H
  | .ladd => m_l2 (fun a b => a + b) pc L S H
  | .lsub => m_l2 (fun a b => a - b) pc L S H
  | .lmul => m_l2 (fun a b => a * b) pc L S H
  | .ldiv => (match S with
    | .long b :: .long a :: S' => if b = 0 then none else some (pc + 1, L, .long (a / b) :: S', H)
    | _ => none)
  | .lcmp => (match S with
    | .long b :: .long a :: S' => some (pc + 1, L, .int (lg_cmp a b) :: S', H)
    | _ => none)
  | .i2l => (match S with
    | .int a :: S' => some (pc + 1, L, .long a.toInt64 :: S', H)
    | _ => none)
  | .i2d => (match S with
    | .int a :: S' => some (pc + 1, L, .double (FP.i2d a) :: S', H)
    | _ => none)
  | .ddiv => (match S with
    | .double b :: .double a :: S' => if FP.ddiv a b &&& 0x7fffffffffffffff ≤ 0x7ff0000000000000 then some (pc + 1, L, .double (FP.ddiv a b) :: S', H) else none
    | _ => none)
  | .dcmp op => (match S with
    | .double b :: .double a :: S' => some (pc + 1, L, .int (Op.cmpValue (FP.dcmp a b) op) :: S', H)
    | _ => none)
  | .dup => (match S with
    | v :: S' => if v.category = 1 then some (pc + 1, L, v :: v :: S', H) else none
    | _ => none)
  | .dup2 => (match S with
    | v :: u :: S' => if v.category = 1 ∧ u.category = 1 then some (pc + 1, L, v :: u :: v :: u :: S', H) else none
    | _ => none)
  | .pop => (match S with
    | v :: S' => if v.category = 1 then some (pc + 1, L, S', H) else none
    | _ => none)
  | .goto _ => some (x, L, S, H)
  | .ifCond c _ => (match S with
    | .int a :: S' => some (if m_cmp c a 0 = true then x else pc + 3, L, S', H)
    | _ => none)
  | .if_icmp c _ => (match S with
    | .int b :: .int a :: S' => some (if m_cmp c a b = true then x else pc + 3, L, S', H)
    | _ => none)
  | .tableswitch d lo hi offs => (match S with
    | .int a :: S' => if a.toInt < lo ∨ hi < a.toInt then m_jmp pc d L S' H else (match offs[(a.toInt - lo).toNat]? with
      | some off => m_jmp pc off L S' H
      | none => none)
    | _ => none)
  | .lookupswitch d ps => (match S with
    | .int a :: S' => m_jmp pc (Op.lookupswitch.offset ps.toList d a.toInt) L S' H
    | _ => none)
  | .getfield _ => (match S with
    | .ref r :: S' => (m_gf H r x y).map (fun v => (pc + 3, L, v :: S', H))
    | _ => none)
  | .putfield _ => (match S with
    | v :: .ref r :: S' => (m_pf H r x y v).map (fun H1 => (pc + 3, L, S', H1))
    | _ => none)
  | .iaload => (match S with
    | .int j :: .ref 0 :: S' => if 0 ≤ j then (scr[j.toNatClampNeg]?).map (fun v => (pc + 1, L, .int v :: S', H)) else none
    | .int j :: .ref r :: S' => (match m_ra H r 0 j with
      | some (.int v) => some (pc + 1, L, .int v :: S', H)
      | _ => none)
    | _ => none)
  | .baload => (match S with
    | .int j :: .ref r :: S' => (match m_ra H r 1 j with
      | some (.int v) => some (pc + 1, L, .int v :: S', H)
      | _ => none)
    | _ => none)
  | .aaload => (match S with
    | .int j :: .ref r :: S' => (match m_ra H r 2 j with
      | some (.ref v) => some (pc + 1, L, .ref v :: S', H)
      | _ => none)
    | _ => none)
  | .iastore => (match S with
    | .int v :: .int j :: .ref r :: S' => (m_wa H r 0 j (.int v)).map (fun H1 => (pc + 1, L, S', H1))
    | _ => none)
  | .bastore => (match S with
    | .int v :: .int j :: .ref r :: S' => (m_wa H r 1 j (.int (vp_nar .boolean v))).map (fun H1 => (pc + 1, L, S', H1))
    | _ => none)
  | .aastore => (match S with
    | .ref v :: .int j :: .ref r :: S' => (match m_get H v with
      | some (.inr (3, _)) => (m_wa H r 2 j (.ref v)).map (fun H1 => (pc + 1, L, S', H1))
      | _ => none)
    | _ => none)
  | .arraylength => (match S with
    | .ref 0 :: S' => some (pc + 1, L, .int (Int32.ofNat scr.length) :: S', H)
    | .ref r :: S' => (match m_get H r with
      | some (.inl (t, vs)) => if t < 3 then some (pc + 1, L, .int (Int32.ofNat vs.length) :: S', H) else none
      | _ => none)
    | _ => none)
  | .new _ => (match m_cl[x]? with
    | some r => some (pc + 3, L, .ref (H.length + 1) :: S, H ++ [.inr (x, (List.range r.2.2).map (fun k => defaultValue (m_fty x k)))])
    | none => none)
  | .newarray _ => (match S with
    | .int n :: S' => if 0 ≤ n ∧ n.toNatClampNeg ≤ 1000 then some (pc + 2, L, .ref (H.length + 1) :: S', H ++ [.inl (x, List.replicate n.toNatClampNeg (.int 0))]) else none
    | _ => none)
  | .anewarray _ => (match S with
    | .int n :: S' => if 0 ≤ n ∧ n.toNatClampNeg ≤ 1000 then some (pc + 3, L, .ref (H.length + 1) :: S', H ++ [.inl (2, List.replicate n.toNatClampNeg .null)]) else none
    | _ => none)
  | .invokestatic _ => m_math w pc L S H
  | .invokespecial _ => if w = 7 then (match S with
    | .ref r :: S' => if m_cat S' ≤ 8 then some (pc + 3, L, S', H) else none
    | _ => none) else none
  | _ => none
def m_rts (i : Instr) (S : List Value) : Option (Option Value) := match i, S with
  | .ireturn, [.int v] => some (some (.int v))
  | .lreturn, [.long v] => some (some (.long v))
  | .dreturn, [.double v] => some (some (.double v))
  | .areturn, [.ref v] => some (some (.ref v))
  | .return_, [] => some none
  | _, _ => none
def m_rok (t : Option FieldType) (v : Option Value) : Bool := match t, v with
  | some .int, some (.int _) => true
  | some .boolean, some (.int v) => decide (narrow .boolean (.int v) = .int v)
  | some .long, some (.long _) => true
  | some .double, some (.double _) => true
  | some (.object _), some (.ref _) => true
  | none, none => true
  | _, _ => false
/-- the arguments off the stack, the receiver first, and what stays -/
def m_cut (x : Nat) (S : List Value) (H : List mC) : Option (List Value × List Value) :=
  if m_stc x = true then (if m_na x ≤ S.length ∧ m_cat (S.drop (m_na x)) ≤ 8 then some ((S.take (m_na x)).reverse, S.drop (m_na x)) else none)
  else match S.drop (m_na x) with
    | .ref r :: S' => (match m_get H r with
      | some (.inr (ci, _)) => if ci = m_rc x ∧ m_cat S' ≤ 8 then some (.ref r :: (S.take (m_na x)).reverse, S') else none
      | _ => none)
    | _ => none
abbrev mR : Type := Option Value × List mC
abbrev mF : Type := Nat → Nat → mL → List Value → List mC → Option mR
def m_inv : Instr → Bool
  | .invokevirtual _ => true
  | .invokestatic _ => true
  | .invokespecial _ => true
  | _ => false
def m_st (scr : List Int32) (ih : mF) : mF := fun M pc L S H => match m_code M pc with
  | none => none
  | some (i, x, y, w, z) => if (w = 1 ∨ w = 2) ∧ m_inv i = true then (match m_cut x S H with
      | some (as, S') => if m_cat as ≤ m_nL x then (match ih x 0 (lv_args 0 as) [] H with
        | some (v, H1) => ih M (pc + 3) L (v.toList ++ S') H1
        | none => none) else none
      | none => none)
    else match m_rts i S with
      | some rv => if m_rok (m_rt M) rv = true then some (rv, H) else none
      | none => (match m_ex scr M pc i x y w z L S H with
        | some (pc', L', S', H') => ih M pc' L' S' H'
        | none => none)
def m_go (scr : List Int32) (n : Nat) : mF := Nat.rec (fun _ _ _ _ _ => none) (fun _ ih => m_st scr ih) n
theorem m_go_s (scr : List Int32) (n : Nat) : m_go scr (n + 1) = m_st scr (m_go scr n) := rfl
end
section
/-! the data are the program: every row decodes so, and its links stand in the tables -/
set_option maxRecDepth 100000 in
theorem m_ok_0 : (m_p_0).all (m_okE 0) = true := by decide +kernel
set_option maxRecDepth 100000 in
theorem m_ok_1 : (m_p_1).all (m_okE 1) = true := by decide +kernel
set_option maxRecDepth 100000 in
theorem m_ok_2 : (m_p_2).all (m_okE 2) = true := by decide +kernel
set_option maxRecDepth 100000 in
theorem m_ok_3 : (m_p_3).all (m_okE 3) = true := by decide +kernel
set_option maxRecDepth 100000 in
theorem m_ok_4 : (m_p_4).all (m_okE 4) = true := by decide +kernel
set_option maxRecDepth 100000 in
theorem m_ok_5 : (m_p_5).all (m_okE 5) = true := by decide +kernel
set_option maxRecDepth 100000 in
theorem m_ok_6 : (m_p_6).all (m_okE 6) = true := by decide +kernel
set_option maxRecDepth 100000 in
theorem m_ok_7 : (m_p_7).all (m_okE 7) = true := by decide +kernel
set_option maxRecDepth 100000 in
theorem m_ok_8 : (m_p_8).all (m_okE 8) = true := by decide +kernel
set_option maxRecDepth 100000 in
theorem m_ok_9 : (m_p_9).all (m_okE 9) = true := by decide +kernel
set_option maxRecDepth 100000 in
theorem m_ok_10 : (m_p_10).all (m_okE 10) = true := by decide +kernel
set_option maxRecDepth 100000 in
theorem m_ok_11 : (m_p_11).all (m_okE 11) = true := by decide +kernel
set_option maxRecDepth 100000 in
theorem m_ok_12 : (m_p_12).all (m_okE 12) = true := by decide +kernel
set_option maxRecDepth 100000 in
theorem m_ok_13 : (m_p_13).all (m_okE 13) = true := by decide +kernel
set_option maxRecDepth 100000 in
theorem m_ok_14 : (m_p_14).all (m_okE 14) = true := by decide +kernel
set_option maxRecDepth 100000 in
theorem m_ok_15 : (m_p_15).all (m_okE 15) = true := by decide +kernel
set_option maxRecDepth 100000 in
theorem m_ok_16 : (m_p_16).all (m_okE 16) = true := by decide +kernel
set_option maxRecDepth 100000 in
theorem m_ok_17 : (m_p_17).all (m_okE 17) = true := by decide +kernel
set_option maxRecDepth 100000 in
theorem m_ok_18 : (m_p_18).all (m_okE 18) = true := by decide +kernel
set_option maxRecDepth 100000 in
theorem m_ok_19 : (m_p_19).all (m_okE 19) = true := by decide +kernel
set_option maxRecDepth 100000 in
theorem m_ok_20 : (m_p_20).all (m_okE 20) = true := by decide +kernel
set_option maxRecDepth 100000 in
theorem m_ok_21 : (m_p_21).all (m_okE 21) = true := by decide +kernel
set_option maxRecDepth 100000 in
theorem m_ok_22 : (m_p_22).all (m_okE 22) = true := by decide +kernel
set_option maxRecDepth 100000 in
theorem m_ok_23 : (m_p_23).all (m_okE 23) = true := by decide +kernel
set_option maxRecDepth 100000 in
theorem m_ok_24 : (m_p_24).all (m_okE 24) = true := by decide +kernel
set_option maxRecDepth 100000 in
theorem m_ok_25 : (m_p_25).all (m_okE 25) = true := by decide +kernel
set_option maxRecDepth 100000 in
theorem m_ok_26 : (m_p_26).all (m_okE 26) = true := by decide +kernel
set_option maxRecDepth 100000 in
theorem m_ok_27 : (m_p_27).all (m_okE 27) = true := by decide +kernel
set_option maxRecDepth 100000 in
theorem m_ok_28 : (m_p_28).all (m_okE 28) = true := by decide +kernel
set_option maxRecDepth 100000 in
theorem m_ok_29 : (m_p_29).all (m_okE 29) = true := by decide +kernel
set_option maxRecDepth 100000 in
theorem m_ok_30 : (m_p_30).all (m_okE 30) = true := by decide +kernel
set_option maxRecDepth 100000 in
theorem m_ok_31 : (m_p_31).all (m_okE 31) = true := by decide +kernel
set_option maxRecDepth 100000 in
theorem m_ok_32 : (m_p_32).all (m_okE 32) = true := by decide +kernel
set_option maxRecDepth 100000 in
theorem m_ok_33 : (m_p_33).all (m_okE 33) = true := by decide +kernel
set_option maxRecDepth 100000 in
theorem m_ok_34 : (m_p_34).all (m_okE 34) = true := by decide +kernel
set_option maxRecDepth 100000 in
theorem m_ok_35 : (m_p_35).all (m_okE 35) = true := by decide +kernel
set_option maxRecDepth 100000 in
theorem m_ok_36 : (m_p_36).all (m_okE 36) = true := by decide +kernel
set_option maxRecDepth 100000 in
theorem m_ok_37 : (m_p_37).all (m_okE 37) = true := by decide +kernel
set_option maxRecDepth 100000 in
theorem m_ok_38 : (m_p_38).all (m_okE 38) = true := by decide +kernel
set_option maxRecDepth 100000 in
theorem m_ok_39 : (m_p_39).all (m_okE 39) = true := by decide +kernel
set_option maxRecDepth 100000 in
theorem m_ok_40 : (m_p_40).all (m_okE 40) = true := by decide +kernel
set_option maxRecDepth 100000 in
theorem m_ok_41 : (m_p_41).all (m_okE 41) = true := by decide +kernel
set_option maxRecDepth 100000 in
theorem m_ok_42 : (m_p_42).all (m_okE 42) = true := by decide +kernel
set_option maxRecDepth 100000 in
theorem m_ok_43 : (m_p_43).all (m_okE 43) = true := by decide +kernel
set_option maxRecDepth 100000 in
theorem m_ok_44 : (m_p_44).all (m_okE 44) = true := by decide +kernel
set_option maxRecDepth 100000 in
theorem m_ok_45 : (m_p_45).all (m_okE 45) = true := by decide +kernel
set_option maxRecDepth 100000 in
theorem m_ok_46 : (m_p_46).all (m_okE 46) = true := by decide +kernel
set_option maxRecDepth 100000 in
theorem m_ok_47 : (m_p_47).all (m_okE 47) = true := by decide +kernel
set_option maxRecDepth 100000 in
theorem m_ok_48 : (m_p_48).all (m_okE 48) = true := by decide +kernel
set_option maxRecDepth 100000 in
theorem m_ok_49 : (m_p_49).all (m_okE 49) = true := by decide +kernel
set_option maxRecDepth 100000 in
theorem m_ok_50 : (m_p_50).all (m_okE 50) = true := by decide +kernel
set_option maxRecDepth 100000 in
theorem m_ok_51 : (m_p_51).all (m_okE 51) = true := by decide +kernel
set_option maxRecDepth 100000 in
theorem m_ok_52 : (m_p_52).all (m_okE 52) = true := by decide +kernel
set_option maxRecDepth 100000 in
theorem m_ok_53 : (m_p_53).all (m_okE 53) = true := by decide +kernel
set_option maxRecDepth 100000 in
theorem m_ok_54 : (m_p_54).all (m_okE 54) = true := by decide +kernel
set_option maxRecDepth 100000 in
theorem m_ok_55 : (m_p_55).all (m_okE 55) = true := by decide +kernel
set_option maxRecDepth 100000 in
theorem m_ok_56 : (m_p_56).all (m_okE 56) = true := by decide +kernel
set_option maxRecDepth 100000 in
theorem m_ok_57 : (m_p_57).all (m_okE 57) = true := by decide +kernel
set_option maxRecDepth 100000 in
theorem m_ok_58 : (m_p_58).all (m_okE 58) = true := by decide +kernel
set_option maxRecDepth 100000 in
theorem m_ok_59 : (m_p_59).all (m_okE 59) = true := by decide +kernel
set_option maxRecDepth 100000 in
theorem m_ok_60 : (m_p_60).all (m_okE 60) = true := by decide +kernel
set_option maxRecDepth 100000 in
theorem m_ok_61 : (m_p_61).all (m_okE 61) = true := by decide +kernel
set_option maxRecDepth 100000 in
theorem m_ok_62 : (m_p_62).all (m_okE 62) = true := by decide +kernel
set_option maxRecDepth 100000 in
theorem m_ok_63 : (m_p_63).all (m_okE 63) = true := by decide +kernel
set_option maxRecDepth 100000 in
theorem m_ok_64 : (m_p_64).all (m_okE 64) = true := by decide +kernel
set_option maxRecDepth 100000 in
theorem m_ok_65 : (m_p_65).all (m_okE 65) = true := by decide +kernel
set_option maxRecDepth 100000 in
theorem m_ok_66 : (m_p_66).all (m_okE 66) = true := by decide +kernel
set_option maxRecDepth 100000 in
theorem m_ok_67 : (m_p_67).all (m_okE 67) = true := by decide +kernel
set_option maxRecDepth 100000 in
theorem m_ok_68 : (m_p_68).all (m_okE 68) = true := by decide +kernel
set_option maxRecDepth 100000 in
theorem m_ok_69 : (m_p_69).all (m_okE 69) = true := by decide +kernel
set_option maxRecDepth 100000 in
theorem m_ok_70 : (m_p_70).all (m_okE 70) = true := by decide +kernel
set_option maxRecDepth 100000 in
theorem m_ok_71 : (m_p_71).all (m_okE 71) = true := by decide +kernel
set_option maxRecDepth 100000 in
theorem m_ok_72 : (m_p_72).all (m_okE 72) = true := by decide +kernel
set_option maxRecDepth 100000 in
theorem m_ok_73 : (m_p_73).all (m_okE 73) = true := by decide +kernel
set_option maxRecDepth 100000 in
theorem m_ok_74 : (m_p_74).all (m_okE 74) = true := by decide +kernel
set_option maxRecDepth 100000 in
theorem m_ok_75 : (m_p_75).all (m_okE 75) = true := by decide +kernel
set_option maxRecDepth 100000 in
theorem m_ok_76 : (m_p_76).all (m_okE 76) = true := by decide +kernel
set_option maxRecDepth 100000 in
theorem m_ok_77 : (m_p_77).all (m_okE 77) = true := by decide +kernel
set_option maxRecDepth 100000 in
theorem m_ok_78 : (m_p_78).all (m_okE 78) = true := by decide +kernel
set_option maxRecDepth 100000 in
theorem m_ok_79 : (m_p_79).all (m_okE 79) = true := by decide +kernel
set_option maxRecDepth 100000 in
theorem m_ok_80 : (m_p_80).all (m_okE 80) = true := by decide +kernel
set_option maxRecDepth 100000 in
theorem m_ok_81 : (m_p_81).all (m_okE 81) = true := by decide +kernel
set_option maxRecDepth 100000 in
theorem m_ok_82 : (m_p_82).all (m_okE 82) = true := by decide +kernel
set_option maxRecDepth 100000 in
theorem m_ok_83 : (m_p_83).all (m_okE 83) = true := by decide +kernel
set_option maxRecDepth 100000 in
theorem m_ok_84 : (m_p_84).all (m_okE 84) = true := by decide +kernel
set_option maxRecDepth 100000 in
theorem m_ok_85 : (m_p_85).all (m_okE 85) = true := by decide +kernel
set_option maxRecDepth 100000 in
theorem m_ok_86 : (m_p_86).all (m_okE 86) = true := by decide +kernel
set_option maxRecDepth 100000 in
theorem m_ok_87 : (m_p_87).all (m_okE 87) = true := by decide +kernel
set_option maxRecDepth 100000 in
theorem m_ok_88 : (m_p_88).all (m_okE 88) = true := by decide +kernel
set_option maxRecDepth 100000 in
theorem m_ok_89 : (m_p_89).all (m_okE 89) = true := by decide +kernel
set_option maxRecDepth 100000 in
theorem m_ok_90 : (m_p_90).all (m_okE 90) = true := by decide +kernel
set_option maxRecDepth 100000 in
theorem m_ok_91 : (m_p_91).all (m_okE 91) = true := by decide +kernel
set_option maxRecDepth 100000 in
theorem m_ok_92 : (m_p_92).all (m_okE 92) = true := by decide +kernel
set_option maxRecDepth 100000 in
theorem m_ok_93 : (m_p_93).all (m_okE 93) = true := by decide +kernel
set_option maxRecDepth 100000 in
theorem m_ok_94 : (m_p_94).all (m_okE 94) = true := by decide +kernel
set_option maxRecDepth 100000 in
theorem m_ok_95 : (m_p_95).all (m_okE 95) = true := by decide +kernel
set_option maxRecDepth 100000 in
theorem m_ok_96 : (m_p_96).all (m_okE 96) = true := by decide +kernel
set_option maxRecDepth 100000 in
theorem m_ok_97 : (m_p_97).all (m_okE 97) = true := by decide +kernel
set_option maxRecDepth 100000 in
theorem m_ok_98 : (m_p_98).all (m_okE 98) = true := by decide +kernel
set_option maxRecDepth 100000 in
theorem m_ok_99 : (m_p_99).all (m_okE 99) = true := by decide +kernel
set_option maxRecDepth 100000 in
theorem m_ok_100 : (m_p_100).all (m_okE 100) = true := by decide +kernel
set_option maxRecDepth 100000 in
theorem m_ok_101 : (m_p_101).all (m_okE 101) = true := by decide +kernel
end
section
set_option maxRecDepth 100000 in
theorem m_okm_0 : m_okM 0 = true := by decide +kernel
set_option maxRecDepth 100000 in
theorem m_okm_1 : m_okM 1 = true := by decide +kernel
set_option maxRecDepth 100000 in
theorem m_okm_2 : m_okM 2 = true := by decide +kernel
set_option maxRecDepth 100000 in
theorem m_okm_3 : m_okM 3 = true := by decide +kernel
set_option maxRecDepth 100000 in
theorem m_okm_4 : m_okM 4 = true := by decide +kernel
set_option maxRecDepth 100000 in
theorem m_okm_5 : m_okM 5 = true := by decide +kernel
set_option maxRecDepth 100000 in
theorem m_okm_6 : m_okM 6 = true := by decide +kernel
set_option maxRecDepth 100000 in
theorem m_okm_7 : m_okM 7 = true := by decide +kernel
set_option maxRecDepth 100000 in
theorem m_okm_8 : m_okM 8 = true := by decide +kernel
set_option maxRecDepth 100000 in
theorem m_okm_9 : m_okM 9 = true := by decide +kernel
set_option maxRecDepth 100000 in
theorem m_okm_10 : m_okM 10 = true := by decide +kernel
set_option maxRecDepth 100000 in
theorem m_okm_11 : m_okM 11 = true := by decide +kernel
set_option maxRecDepth 100000 in
theorem m_okm_12 : m_okM 12 = true := by decide +kernel
set_option maxRecDepth 100000 in
theorem m_okm_13 : m_okM 13 = true := by decide +kernel
set_option maxRecDepth 100000 in
theorem m_okm_14 : m_okM 14 = true := by decide +kernel
set_option maxRecDepth 100000 in
theorem m_okm_15 : m_okM 15 = true := by decide +kernel
set_option maxRecDepth 100000 in
theorem m_okm_16 : m_okM 16 = true := by decide +kernel
set_option maxRecDepth 100000 in
theorem m_okm_17 : m_okM 17 = true := by decide +kernel
set_option maxRecDepth 100000 in
theorem m_okm_18 : m_okM 18 = true := by decide +kernel
set_option maxRecDepth 100000 in
theorem m_okm_19 : m_okM 19 = true := by decide +kernel
set_option maxRecDepth 100000 in
theorem m_okm_20 : m_okM 20 = true := by decide +kernel
set_option maxRecDepth 100000 in
theorem m_okm_21 : m_okM 21 = true := by decide +kernel
set_option maxRecDepth 100000 in
theorem m_okm_22 : m_okM 22 = true := by decide +kernel
set_option maxRecDepth 100000 in
theorem m_okm_23 : m_okM 23 = true := by decide +kernel
set_option maxRecDepth 100000 in
theorem m_okm_24 : m_okM 24 = true := by decide +kernel
set_option maxRecDepth 100000 in
theorem m_okm_25 : m_okM 25 = true := by decide +kernel
set_option maxRecDepth 100000 in
theorem m_okm_26 : m_okM 26 = true := by decide +kernel
set_option maxRecDepth 100000 in
theorem m_okm_27 : m_okM 27 = true := by decide +kernel
set_option maxRecDepth 100000 in
theorem m_okm_28 : m_okM 28 = true := by decide +kernel
set_option maxRecDepth 100000 in
theorem m_okm_29 : m_okM 29 = true := by decide +kernel
set_option maxRecDepth 100000 in
theorem m_okm_30 : m_okM 30 = true := by decide +kernel
set_option maxRecDepth 100000 in
theorem m_okm_31 : m_okM 31 = true := by decide +kernel
set_option maxRecDepth 100000 in
theorem m_okm_32 : m_okM 32 = true := by decide +kernel
set_option maxRecDepth 100000 in
theorem m_okm_33 : m_okM 33 = true := by decide +kernel
set_option maxRecDepth 100000 in
theorem m_okm_34 : m_okM 34 = true := by decide +kernel
set_option maxRecDepth 100000 in
theorem m_okm_35 : m_okM 35 = true := by decide +kernel
set_option maxRecDepth 100000 in
theorem m_okm_36 : m_okM 36 = true := by decide +kernel
set_option maxRecDepth 100000 in
theorem m_okm_37 : m_okM 37 = true := by decide +kernel
set_option maxRecDepth 100000 in
theorem m_okm_38 : m_okM 38 = true := by decide +kernel
set_option maxRecDepth 100000 in
theorem m_okm_39 : m_okM 39 = true := by decide +kernel
set_option maxRecDepth 100000 in
theorem m_okm_40 : m_okM 40 = true := by decide +kernel
set_option maxRecDepth 100000 in
theorem m_okm_41 : m_okM 41 = true := by decide +kernel
set_option maxRecDepth 100000 in
theorem m_okm_42 : m_okM 42 = true := by decide +kernel
set_option maxRecDepth 100000 in
theorem m_okm_43 : m_okM 43 = true := by decide +kernel
set_option maxRecDepth 100000 in
theorem m_okm_44 : m_okM 44 = true := by decide +kernel
set_option maxRecDepth 100000 in
theorem m_okm_45 : m_okM 45 = true := by decide +kernel
set_option maxRecDepth 100000 in
theorem m_okm_46 : m_okM 46 = true := by decide +kernel
set_option maxRecDepth 100000 in
theorem m_okm_47 : m_okM 47 = true := by decide +kernel
set_option maxRecDepth 100000 in
theorem m_okm_48 : m_okM 48 = true := by decide +kernel
set_option maxRecDepth 100000 in
theorem m_okm_49 : m_okM 49 = true := by decide +kernel
set_option maxRecDepth 100000 in
theorem m_okm_50 : m_okM 50 = true := by decide +kernel
set_option maxRecDepth 100000 in
theorem m_okm_51 : m_okM 51 = true := by decide +kernel
set_option maxRecDepth 100000 in
theorem m_okm_52 : m_okM 52 = true := by decide +kernel
set_option maxRecDepth 100000 in
theorem m_okm_53 : m_okM 53 = true := by decide +kernel
set_option maxRecDepth 100000 in
theorem m_okm_54 : m_okM 54 = true := by decide +kernel
set_option maxRecDepth 100000 in
theorem m_okm_55 : m_okM 55 = true := by decide +kernel
set_option maxRecDepth 100000 in
theorem m_okm_56 : m_okM 56 = true := by decide +kernel
set_option maxRecDepth 100000 in
theorem m_okm_57 : m_okM 57 = true := by decide +kernel
set_option maxRecDepth 100000 in
theorem m_okm_58 : m_okM 58 = true := by decide +kernel
set_option maxRecDepth 100000 in
theorem m_okm_59 : m_okM 59 = true := by decide +kernel
set_option maxRecDepth 100000 in
theorem m_okm_60 : m_okM 60 = true := by decide +kernel
set_option maxRecDepth 100000 in
theorem m_okm_61 : m_okM 61 = true := by decide +kernel
set_option maxRecDepth 100000 in
theorem m_okm_62 : m_okM 62 = true := by decide +kernel
set_option maxRecDepth 100000 in
theorem m_okm_63 : m_okM 63 = true := by decide +kernel
set_option maxRecDepth 100000 in
theorem m_okm_64 : m_okM 64 = true := by decide +kernel
set_option maxRecDepth 100000 in
theorem m_okm_65 : m_okM 65 = true := by decide +kernel
set_option maxRecDepth 100000 in
theorem m_okm_66 : m_okM 66 = true := by decide +kernel
set_option maxRecDepth 100000 in
theorem m_okm_67 : m_okM 67 = true := by decide +kernel
set_option maxRecDepth 100000 in
theorem m_okm_68 : m_okM 68 = true := by decide +kernel
set_option maxRecDepth 100000 in
theorem m_okm_69 : m_okM 69 = true := by decide +kernel
set_option maxRecDepth 100000 in
theorem m_okm_70 : m_okM 70 = true := by decide +kernel
set_option maxRecDepth 100000 in
theorem m_okm_71 : m_okM 71 = true := by decide +kernel
set_option maxRecDepth 100000 in
theorem m_okm_72 : m_okM 72 = true := by decide +kernel
set_option maxRecDepth 100000 in
theorem m_okm_73 : m_okM 73 = true := by decide +kernel
set_option maxRecDepth 100000 in
theorem m_okm_74 : m_okM 74 = true := by decide +kernel
set_option maxRecDepth 100000 in
theorem m_okm_75 : m_okM 75 = true := by decide +kernel
set_option maxRecDepth 100000 in
theorem m_okm_76 : m_okM 76 = true := by decide +kernel
set_option maxRecDepth 100000 in
theorem m_okm_77 : m_okM 77 = true := by decide +kernel
set_option maxRecDepth 100000 in
theorem m_okm_78 : m_okM 78 = true := by decide +kernel
set_option maxRecDepth 100000 in
theorem m_okm_79 : m_okM 79 = true := by decide +kernel
set_option maxRecDepth 100000 in
theorem m_okm_80 : m_okM 80 = true := by decide +kernel
set_option maxRecDepth 100000 in
theorem m_okm_81 : m_okM 81 = true := by decide +kernel
set_option maxRecDepth 100000 in
theorem m_okm_82 : m_okM 82 = true := by decide +kernel
set_option maxRecDepth 100000 in
theorem m_okm_83 : m_okM 83 = true := by decide +kernel
set_option maxRecDepth 100000 in
theorem m_okm_84 : m_okM 84 = true := by decide +kernel
set_option maxRecDepth 100000 in
theorem m_okm_85 : m_okM 85 = true := by decide +kernel
set_option maxRecDepth 100000 in
theorem m_okm_86 : m_okM 86 = true := by decide +kernel
set_option maxRecDepth 100000 in
theorem m_okm_87 : m_okM 87 = true := by decide +kernel
set_option maxRecDepth 100000 in
theorem m_okm_88 : m_okM 88 = true := by decide +kernel
set_option maxRecDepth 100000 in
theorem m_okm_89 : m_okM 89 = true := by decide +kernel
set_option maxRecDepth 100000 in
theorem m_okm_90 : m_okM 90 = true := by decide +kernel
set_option maxRecDepth 100000 in
theorem m_okm_91 : m_okM 91 = true := by decide +kernel
set_option maxRecDepth 100000 in
theorem m_okm_92 : m_okM 92 = true := by decide +kernel
set_option maxRecDepth 100000 in
theorem m_okm_93 : m_okM 93 = true := by decide +kernel
set_option maxRecDepth 100000 in
theorem m_okm_94 : m_okM 94 = true := by decide +kernel
set_option maxRecDepth 100000 in
theorem m_okm_95 : m_okM 95 = true := by decide +kernel
set_option maxRecDepth 100000 in
theorem m_okm_96 : m_okM 96 = true := by decide +kernel
set_option maxRecDepth 100000 in
theorem m_okm_97 : m_okM 97 = true := by decide +kernel
set_option maxRecDepth 100000 in
theorem m_okm_98 : m_okM 98 = true := by decide +kernel
set_option maxRecDepth 100000 in
theorem m_okm_99 : m_okM 99 = true := by decide +kernel
set_option maxRecDepth 100000 in
theorem m_okm_100 : m_okM 100 = true := by decide +kernel
set_option maxRecDepth 100000 in
theorem m_okm_101 : m_okM 101 = true := by decide +kernel
end
section
set_option maxRecDepth 100000 in
theorem m_okl_0 : ((m_p_102.drop 0).take 24).all (m_okE 102) = true := by decide +kernel
set_option maxRecDepth 100000 in
theorem m_okl_24 : ((m_p_102.drop 24).take 24).all (m_okE 102) = true := by decide +kernel
set_option maxRecDepth 100000 in
theorem m_okl_48 : ((m_p_102.drop 48).take 24).all (m_okE 102) = true := by decide +kernel
set_option maxRecDepth 100000 in
theorem m_okl_72 : ((m_p_102.drop 72).take 24).all (m_okE 102) = true := by decide +kernel
set_option maxRecDepth 100000 in
theorem m_okl_96 : ((m_p_102.drop 96).take 24).all (m_okE 102) = true := by decide +kernel
set_option maxRecDepth 100000 in
theorem m_okl_120 : ((m_p_102.drop 120).take 24).all (m_okE 102) = true := by decide +kernel
set_option maxRecDepth 100000 in
theorem m_okl_144 : ((m_p_102.drop 144).take 24).all (m_okE 102) = true := by decide +kernel
set_option maxRecDepth 100000 in
theorem m_okl_168 : ((m_p_102.drop 168).take 24).all (m_okE 102) = true := by decide +kernel
set_option maxRecDepth 100000 in
theorem m_okl_192 : ((m_p_102.drop 192).take 24).all (m_okE 102) = true := by decide +kernel
set_option maxRecDepth 100000 in
theorem m_okl_216 : ((m_p_102.drop 216).take 24).all (m_okE 102) = true := by decide +kernel
set_option maxRecDepth 100000 in
theorem m_okl_240 : ((m_p_102.drop 240).take 24).all (m_okE 102) = true := by decide +kernel
set_option maxRecDepth 100000 in
theorem m_okl_264 : ((m_p_102.drop 264).take 24).all (m_okE 102) = true := by decide +kernel
set_option maxRecDepth 100000 in
theorem m_okl_288 : ((m_p_102.drop 288).take 24).all (m_okE 102) = true := by decide +kernel
set_option maxRecDepth 100000 in
theorem m_okl_312 : ((m_p_102.drop 312).take 24).all (m_okE 102) = true := by decide +kernel
set_option maxRecDepth 100000 in
theorem m_okl_336 : ((m_p_102.drop 336).take 24).all (m_okE 102) = true := by decide +kernel
set_option maxRecDepth 100000 in
theorem m_okl_360 : ((m_p_102.drop 360).take 24).all (m_okE 102) = true := by decide +kernel
set_option maxRecDepth 100000 in
theorem m_okl_384 : ((m_p_102.drop 384).take 24).all (m_okE 102) = true := by decide +kernel
set_option maxRecDepth 100000 in
theorem m_okl_408 : ((m_p_102.drop 408).take 24).all (m_okE 102) = true := by decide +kernel
set_option maxRecDepth 100000 in
theorem m_okl_432 : ((m_p_102.drop 432).take 24).all (m_okE 102) = true := by decide +kernel
set_option maxRecDepth 100000 in
theorem m_okl_456 : ((m_p_102.drop 456).take 24).all (m_okE 102) = true := by decide +kernel
set_option maxRecDepth 100000 in
theorem m_okl_480 : ((m_p_102.drop 480).take 24).all (m_okE 102) = true := by decide +kernel
set_option maxRecDepth 100000 in
theorem m_okl_504 : ((m_p_102.drop 504).take 24).all (m_okE 102) = true := by decide +kernel
set_option maxRecDepth 100000 in
theorem m_okl_528 : ((m_p_102.drop 528).take 24).all (m_okE 102) = true := by decide +kernel
set_option maxRecDepth 100000 in
theorem m_okl_552 : ((m_p_102.drop 552).take 24).all (m_okE 102) = true := by decide +kernel
set_option maxRecDepth 100000 in
theorem m_okl_576 : ((m_p_102.drop 576).take 24).all (m_okE 102) = true := by decide +kernel
set_option maxRecDepth 100000 in
theorem m_okl_600 : ((m_p_102.drop 600).take 24).all (m_okE 102) = true := by decide +kernel
set_option maxRecDepth 100000 in
theorem m_okl_624 : ((m_p_102.drop 624).take 24).all (m_okE 102) = true := by decide +kernel
set_option maxRecDepth 100000 in
theorem m_okl_648 : ((m_p_102.drop 648).take 24).all (m_okE 102) = true := by decide +kernel
set_option maxRecDepth 100000 in
theorem m_okl_672 : ((m_p_102.drop 672).take 24).all (m_okE 102) = true := by decide +kernel
set_option maxRecDepth 100000 in
theorem m_okl_696 : ((m_p_102.drop 696).take 24).all (m_okE 102) = true := by decide +kernel
set_option maxRecDepth 100000 in
theorem m_okl_720 : ((m_p_102.drop 720).take 24).all (m_okE 102) = true := by decide +kernel
set_option maxRecDepth 100000 in
theorem m_okl_744 : ((m_p_102.drop 744).take 24).all (m_okE 102) = true := by decide +kernel
set_option maxRecDepth 100000 in
theorem m_okl_768 : ((m_p_102.drop 768).take 24).all (m_okE 102) = true := by decide +kernel
set_option maxRecDepth 100000 in
theorem m_okl_792 : ((m_p_102.drop 792).take 24).all (m_okE 102) = true := by decide +kernel
/-! joined -/
theorem m_allcut {α : Type} (p : α → Bool) (n : Nat) (L : List α) (h1 : (L.take n).all p = true) (h2 : (L.drop n).all p = true) : L.all p = true := by
  have h : (L.take n ++ L.drop n).all p = true := by rw [List.all_append, h1, h2]; rfl
  rwa [List.take_append_drop] at h
set_option maxRecDepth 100000 in
theorem m_oklz : ((m_p_102.drop 816)).all (m_okE 102) = true := by decide +kernel
theorem m_okd_792 : (m_p_102.drop 792).all (m_okE 102) = true := m_allcut _ 24 _ m_okl_792 (by rw [List.drop_drop]; exact m_oklz)
theorem m_okd_768 : (m_p_102.drop 768).all (m_okE 102) = true := m_allcut _ 24 _ m_okl_768 (by rw [List.drop_drop]; exact m_okd_792)
theorem m_okd_744 : (m_p_102.drop 744).all (m_okE 102) = true := m_allcut _ 24 _ m_okl_744 (by rw [List.drop_drop]; exact m_okd_768)
theorem m_okd_720 : (m_p_102.drop 720).all (m_okE 102) = true := m_allcut _ 24 _ m_okl_720 (by rw [List.drop_drop]; exact m_okd_744)
theorem m_okd_696 : (m_p_102.drop 696).all (m_okE 102) = true := m_allcut _ 24 _ m_okl_696 (by rw [List.drop_drop]; exact m_okd_720)
theorem m_okd_672 : (m_p_102.drop 672).all (m_okE 102) = true := m_allcut _ 24 _ m_okl_672 (by rw [List.drop_drop]; exact m_okd_696)
theorem m_okd_648 : (m_p_102.drop 648).all (m_okE 102) = true := m_allcut _ 24 _ m_okl_648 (by rw [List.drop_drop]; exact m_okd_672)
theorem m_okd_624 : (m_p_102.drop 624).all (m_okE 102) = true := m_allcut _ 24 _ m_okl_624 (by rw [List.drop_drop]; exact m_okd_648)
theorem m_okd_600 : (m_p_102.drop 600).all (m_okE 102) = true := m_allcut _ 24 _ m_okl_600 (by rw [List.drop_drop]; exact m_okd_624)
theorem m_okd_576 : (m_p_102.drop 576).all (m_okE 102) = true := m_allcut _ 24 _ m_okl_576 (by rw [List.drop_drop]; exact m_okd_600)
theorem m_okd_552 : (m_p_102.drop 552).all (m_okE 102) = true := m_allcut _ 24 _ m_okl_552 (by rw [List.drop_drop]; exact m_okd_576)
theorem m_okd_528 : (m_p_102.drop 528).all (m_okE 102) = true := m_allcut _ 24 _ m_okl_528 (by rw [List.drop_drop]; exact m_okd_552)
theorem m_okd_504 : (m_p_102.drop 504).all (m_okE 102) = true := m_allcut _ 24 _ m_okl_504 (by rw [List.drop_drop]; exact m_okd_528)
theorem m_okd_480 : (m_p_102.drop 480).all (m_okE 102) = true := m_allcut _ 24 _ m_okl_480 (by rw [List.drop_drop]; exact m_okd_504)
theorem m_okd_456 : (m_p_102.drop 456).all (m_okE 102) = true := m_allcut _ 24 _ m_okl_456 (by rw [List.drop_drop]; exact m_okd_480)
theorem m_okd_432 : (m_p_102.drop 432).all (m_okE 102) = true := m_allcut _ 24 _ m_okl_432 (by rw [List.drop_drop]; exact m_okd_456)
theorem m_okd_408 : (m_p_102.drop 408).all (m_okE 102) = true := m_allcut _ 24 _ m_okl_408 (by rw [List.drop_drop]; exact m_okd_432)
theorem m_okd_384 : (m_p_102.drop 384).all (m_okE 102) = true := m_allcut _ 24 _ m_okl_384 (by rw [List.drop_drop]; exact m_okd_408)
theorem m_okd_360 : (m_p_102.drop 360).all (m_okE 102) = true := m_allcut _ 24 _ m_okl_360 (by rw [List.drop_drop]; exact m_okd_384)
theorem m_okd_336 : (m_p_102.drop 336).all (m_okE 102) = true := m_allcut _ 24 _ m_okl_336 (by rw [List.drop_drop]; exact m_okd_360)
theorem m_okd_312 : (m_p_102.drop 312).all (m_okE 102) = true := m_allcut _ 24 _ m_okl_312 (by rw [List.drop_drop]; exact m_okd_336)
theorem m_okd_288 : (m_p_102.drop 288).all (m_okE 102) = true := m_allcut _ 24 _ m_okl_288 (by rw [List.drop_drop]; exact m_okd_312)
theorem m_okd_264 : (m_p_102.drop 264).all (m_okE 102) = true := m_allcut _ 24 _ m_okl_264 (by rw [List.drop_drop]; exact m_okd_288)
theorem m_okd_240 : (m_p_102.drop 240).all (m_okE 102) = true := m_allcut _ 24 _ m_okl_240 (by rw [List.drop_drop]; exact m_okd_264)
theorem m_okd_216 : (m_p_102.drop 216).all (m_okE 102) = true := m_allcut _ 24 _ m_okl_216 (by rw [List.drop_drop]; exact m_okd_240)
theorem m_okd_192 : (m_p_102.drop 192).all (m_okE 102) = true := m_allcut _ 24 _ m_okl_192 (by rw [List.drop_drop]; exact m_okd_216)
theorem m_okd_168 : (m_p_102.drop 168).all (m_okE 102) = true := m_allcut _ 24 _ m_okl_168 (by rw [List.drop_drop]; exact m_okd_192)
theorem m_okd_144 : (m_p_102.drop 144).all (m_okE 102) = true := m_allcut _ 24 _ m_okl_144 (by rw [List.drop_drop]; exact m_okd_168)
theorem m_okd_120 : (m_p_102.drop 120).all (m_okE 102) = true := m_allcut _ 24 _ m_okl_120 (by rw [List.drop_drop]; exact m_okd_144)
theorem m_okd_96 : (m_p_102.drop 96).all (m_okE 102) = true := m_allcut _ 24 _ m_okl_96 (by rw [List.drop_drop]; exact m_okd_120)
theorem m_okd_72 : (m_p_102.drop 72).all (m_okE 102) = true := m_allcut _ 24 _ m_okl_72 (by rw [List.drop_drop]; exact m_okd_96)
theorem m_okd_48 : (m_p_102.drop 48).all (m_okE 102) = true := m_allcut _ 24 _ m_okl_48 (by rw [List.drop_drop]; exact m_okd_72)
theorem m_okd_24 : (m_p_102.drop 24).all (m_okE 102) = true := m_allcut _ 24 _ m_okl_24 (by rw [List.drop_drop]; exact m_okd_48)
theorem m_okd_0 : (m_p_102.drop 0).all (m_okE 102) = true := m_allcut _ 24 _ m_okl_0 (by rw [List.drop_drop]; exact m_okd_24)
theorem m_ok_102 : m_p_102.all (m_okE 102) = true := m_okd_0
theorem m_okAll : ∀ M, M < 103 → (m_prog M).all (m_okE M) = true := by
  intro M hM
  match M, hM with
  | 0, _ => exact m_ok_0
  | 1, _ => exact m_ok_1
  | 2, _ => exact m_ok_2
  | 3, _ => exact m_ok_3
  | 4, _ => exact m_ok_4
  | 5, _ => exact m_ok_5
  | 6, _ => exact m_ok_6
  | 7, _ => exact m_ok_7
  | 8, _ => exact m_ok_8
  | 9, _ => exact m_ok_9
  | 10, _ => exact m_ok_10
  | 11, _ => exact m_ok_11
  | 12, _ => exact m_ok_12
  | 13, _ => exact m_ok_13
  | 14, _ => exact m_ok_14
  | 15, _ => exact m_ok_15
  | 16, _ => exact m_ok_16
  | 17, _ => exact m_ok_17
  | 18, _ => exact m_ok_18
  | 19, _ => exact m_ok_19
  | 20, _ => exact m_ok_20
  | 21, _ => exact m_ok_21
  | 22, _ => exact m_ok_22
  | 23, _ => exact m_ok_23
  | 24, _ => exact m_ok_24
  | 25, _ => exact m_ok_25
  | 26, _ => exact m_ok_26
  | 27, _ => exact m_ok_27
  | 28, _ => exact m_ok_28
  | 29, _ => exact m_ok_29
  | 30, _ => exact m_ok_30
  | 31, _ => exact m_ok_31
  | 32, _ => exact m_ok_32
  | 33, _ => exact m_ok_33
  | 34, _ => exact m_ok_34
  | 35, _ => exact m_ok_35
  | 36, _ => exact m_ok_36
  | 37, _ => exact m_ok_37
  | 38, _ => exact m_ok_38
  | 39, _ => exact m_ok_39
  | 40, _ => exact m_ok_40
  | 41, _ => exact m_ok_41
  | 42, _ => exact m_ok_42
  | 43, _ => exact m_ok_43
  | 44, _ => exact m_ok_44
  | 45, _ => exact m_ok_45
  | 46, _ => exact m_ok_46
  | 47, _ => exact m_ok_47
  | 48, _ => exact m_ok_48
  | 49, _ => exact m_ok_49
  | 50, _ => exact m_ok_50
  | 51, _ => exact m_ok_51
  | 52, _ => exact m_ok_52
  | 53, _ => exact m_ok_53
  | 54, _ => exact m_ok_54
  | 55, _ => exact m_ok_55
  | 56, _ => exact m_ok_56
  | 57, _ => exact m_ok_57
  | 58, _ => exact m_ok_58
  | 59, _ => exact m_ok_59
  | 60, _ => exact m_ok_60
  | 61, _ => exact m_ok_61
  | 62, _ => exact m_ok_62
  | 63, _ => exact m_ok_63
  | 64, _ => exact m_ok_64
  | 65, _ => exact m_ok_65
  | 66, _ => exact m_ok_66
  | 67, _ => exact m_ok_67
  | 68, _ => exact m_ok_68
  | 69, _ => exact m_ok_69
  | 70, _ => exact m_ok_70
  | 71, _ => exact m_ok_71
  | 72, _ => exact m_ok_72
  | 73, _ => exact m_ok_73
  | 74, _ => exact m_ok_74
  | 75, _ => exact m_ok_75
  | 76, _ => exact m_ok_76
  | 77, _ => exact m_ok_77
  | 78, _ => exact m_ok_78
  | 79, _ => exact m_ok_79
  | 80, _ => exact m_ok_80
  | 81, _ => exact m_ok_81
  | 82, _ => exact m_ok_82
  | 83, _ => exact m_ok_83
  | 84, _ => exact m_ok_84
  | 85, _ => exact m_ok_85
  | 86, _ => exact m_ok_86
  | 87, _ => exact m_ok_87
  | 88, _ => exact m_ok_88
  | 89, _ => exact m_ok_89
  | 90, _ => exact m_ok_90
  | 91, _ => exact m_ok_91
  | 92, _ => exact m_ok_92
  | 93, _ => exact m_ok_93
  | 94, _ => exact m_ok_94
  | 95, _ => exact m_ok_95
  | 96, _ => exact m_ok_96
  | 97, _ => exact m_ok_97
  | 98, _ => exact m_ok_98
  | 99, _ => exact m_ok_99
  | 100, _ => exact m_ok_100
  | 101, _ => exact m_ok_101
  | 102, _ => exact m_ok_102
  | n + 103, h => omega
theorem m_okmAll : ∀ x, x < 102 → m_okM x = true := by
  intro x hx
  match x, hx with
  | 0, _ => exact m_okm_0
  | 1, _ => exact m_okm_1
  | 2, _ => exact m_okm_2
  | 3, _ => exact m_okm_3
  | 4, _ => exact m_okm_4
  | 5, _ => exact m_okm_5
  | 6, _ => exact m_okm_6
  | 7, _ => exact m_okm_7
  | 8, _ => exact m_okm_8
  | 9, _ => exact m_okm_9
  | 10, _ => exact m_okm_10
  | 11, _ => exact m_okm_11
  | 12, _ => exact m_okm_12
  | 13, _ => exact m_okm_13
  | 14, _ => exact m_okm_14
  | 15, _ => exact m_okm_15
  | 16, _ => exact m_okm_16
  | 17, _ => exact m_okm_17
  | 18, _ => exact m_okm_18
  | 19, _ => exact m_okm_19
  | 20, _ => exact m_okm_20
  | 21, _ => exact m_okm_21
  | 22, _ => exact m_okm_22
  | 23, _ => exact m_okm_23
  | 24, _ => exact m_okm_24
  | 25, _ => exact m_okm_25
  | 26, _ => exact m_okm_26
  | 27, _ => exact m_okm_27
  | 28, _ => exact m_okm_28
  | 29, _ => exact m_okm_29
  | 30, _ => exact m_okm_30
  | 31, _ => exact m_okm_31
  | 32, _ => exact m_okm_32
  | 33, _ => exact m_okm_33
  | 34, _ => exact m_okm_34
  | 35, _ => exact m_okm_35
  | 36, _ => exact m_okm_36
  | 37, _ => exact m_okm_37
  | 38, _ => exact m_okm_38
  | 39, _ => exact m_okm_39
  | 40, _ => exact m_okm_40
  | 41, _ => exact m_okm_41
  | 42, _ => exact m_okm_42
  | 43, _ => exact m_okm_43
  | 44, _ => exact m_okm_44
  | 45, _ => exact m_okm_45
  | 46, _ => exact m_okm_46
  | 47, _ => exact m_okm_47
  | 48, _ => exact m_okm_48
  | 49, _ => exact m_okm_49
  | 50, _ => exact m_okm_50
  | 51, _ => exact m_okm_51
  | 52, _ => exact m_okm_52
  | 53, _ => exact m_okm_53
  | 54, _ => exact m_okm_54
  | 55, _ => exact m_okm_55
  | 56, _ => exact m_okm_56
  | 57, _ => exact m_okm_57
  | 58, _ => exact m_okm_58
  | 59, _ => exact m_okm_59
  | 60, _ => exact m_okm_60
  | 61, _ => exact m_okm_61
  | 62, _ => exact m_okm_62
  | 63, _ => exact m_okm_63
  | 64, _ => exact m_okm_64
  | 65, _ => exact m_okm_65
  | 66, _ => exact m_okm_66
  | 67, _ => exact m_okm_67
  | 68, _ => exact m_okm_68
  | 69, _ => exact m_okm_69
  | 70, _ => exact m_okm_70
  | 71, _ => exact m_okm_71
  | 72, _ => exact m_okm_72
  | 73, _ => exact m_okm_73
  | 74, _ => exact m_okm_74
  | 75, _ => exact m_okm_75
  | 76, _ => exact m_okm_76
  | 77, _ => exact m_okm_77
  | 78, _ => exact m_okm_78
  | 79, _ => exact m_okm_79
  | 80, _ => exact m_okm_80
  | 81, _ => exact m_okm_81
  | 82, _ => exact m_okm_82
  | 83, _ => exact m_okm_83
  | 84, _ => exact m_okm_84
  | 85, _ => exact m_okm_85
  | 86, _ => exact m_okm_86
  | 87, _ => exact m_okm_87
  | 88, _ => exact m_okm_88
  | 89, _ => exact m_okm_89
  | 90, _ => exact m_okm_90
  | 91, _ => exact m_okm_91
  | 92, _ => exact m_okm_92
  | 93, _ => exact m_okm_93
  | 94, _ => exact m_okm_94
  | 95, _ => exact m_okm_95
  | 96, _ => exact m_okm_96
  | 97, _ => exact m_okm_97
  | 98, _ => exact m_okm_98
  | 99, _ => exact m_okm_99
  | 100, _ => exact m_okm_100
  | 101, _ => exact m_okm_101
  | n + 102, h => omega
end
section
/-! the real machine does the same: values, cells and worlds of a run at the addresses of the heap -/
def m_v (ad : Nat → Nat) : Value → Value
  | .ref r => .ref (ad r)
  | v => v
def m_iv : Value → Int32
  | .int x => x
  | _ => 0
def m_rv (ad : Nat → Nat) : Value → Option Nat
  | .ref r => some (ad r)
  | _ => none
def m_fn (ad : Nat → Nat) (t : Nat) (vs : List Value) : ((Nat → Int32) ⊕ (Nat → Int64) ⊕ (Nat → UInt32) ⊕ (Nat → UInt64) ⊕ (Nat → Option Nat)) := match t with
  | 0 => .inl (fun j => m_iv (vs.getD j .null))
  | 1 => .inl (fun j => m_iv (vs.getD j .null))
  | _ => .inr (.inr (.inr (.inr (fun j => m_rv ad (vs.getD j .null)))))
def m_E (ad : Nat → Nat) (dt : Nat → ClassId) : mC → va_E
  | .inl (t, vs) => .inl (dt t, vs.length, m_fn ad t vs)
  | .inr (ci, fs) => .inr (ci, fs.map (m_v ad))
def m_ws (ad : Nat → Nat) (dt : Nat → ClassId) : Nat → List mC → va_W
  | _, [] => []
  | k, c :: H => (ad k, m_E ad dt c) :: m_ws ad dt (k + 1) H
theorem m_ws_get (ad : Nat → Nat) (dt : Nat → ClassId) : ∀ (H : List mC) (k j : Nat), (m_ws ad dt k H)[j]? = (H[j]?).map (fun c => (ad (k + j), m_E ad dt c))
  | [], k, j => by simp [m_ws]
  | c :: H, k, 0 => by simp [m_ws]
  | c :: H, k, j + 1 => by
    simp only [m_ws, List.getElem?_cons_succ]
    rw [m_ws_get ad dt H (k + 1) j, show k + 1 + j = k + (j + 1) by omega]
theorem m_ws_set (ad : Nat → Nat) (dt : Nat → ClassId) (c : mC) : ∀ (H : List mC) (k j : Nat), (m_ws ad dt k H).set j (ad (k + j), m_E ad dt c) = m_ws ad dt k (H.set j c)
  | [], k, j => by simp [m_ws]
  | d :: H, k, 0 => by simp [m_ws]
  | d :: H, k, j + 1 => by
    simp only [m_ws, List.set_cons_succ]
    rw [← m_ws_set ad dt c H (k + 1) j, show k + 1 + j = k + (j + 1) by omega]
theorem m_ws_app (ad : Nat → Nat) (dt : Nat → ClassId) (c : mC) : ∀ (H : List mC) (k : Nat), m_ws ad dt k (H ++ [c]) = m_ws ad dt k H ++ [(ad (k + H.length), m_E ad dt c)]
  | [], k => by simp [m_ws]
  | d :: H, k => by
    simp only [m_ws, List.cons_append, List.length_cons]
    rw [m_ws_app ad dt c H (k + 1), show k + 1 + H.length = k + (H.length + 1) by omega]
theorem m_ws_len (ad : Nat → Nat) (dt : Nat → ClassId) : ∀ (H : List mC) (k : Nat), (m_ws ad dt k H).length = H.length
  | [], k => rfl
  | d :: H, k => by simp [m_ws, m_ws_len ad dt H (k + 1)]
def m_ad (b N : Nat) : Nat → Nat
  | 0 => b
  | k + 1 => N + k
theorem m_ad1 (b N k : Nat) : m_ad b N (1 + k) = N + k := by rw [Nat.add_comm]; rfl
theorem m_D (b N : Nat) (dt : Nat → ClassId) (H : List mC) : va_D (fun q => N ≤ q) (m_ws (m_ad b N) dt 1 H) := by
  refine ⟨fun i j x y hi hj hxy => ?_, fun k q hk => ?_⟩
  · rw [m_ws_get] at hi hj
    obtain ⟨c1, -, rfl⟩ := Option.map_eq_some_iff.mp hi
    obtain ⟨c2, -, rfl⟩ := Option.map_eq_some_iff.mp hj
    simp only [m_ad1] at hxy
    omega
  · rw [m_ws_get] at hk
    obtain ⟨c1, -, rfl⟩ := Option.map_eq_some_iff.mp hk
    show N ≤ m_ad b N (1 + k)
    rw [m_ad1]; omega
theorem m_at {b N : Nat} {dt : Nat → ClassId} {H : List mC} {r : Nat} {c : mC} (h : m_get H r = some c) : ∃ k, r = k + 1 ∧ H[k]? = some c ∧ (m_ws (m_ad b N) dt 1 H)[k]? = some (m_ad b N r, m_E (m_ad b N) dt c) ∧
    ∀ d : mC, (m_ws (m_ad b N) dt 1 H).set k (m_ad b N r, m_E (m_ad b N) dt d) = m_ws (m_ad b N) dt 1 (m_set H r d) := by
  cases r with
  | zero => cases h
  | succ k =>
    refine ⟨k, rfl, h, ?_, fun d => ?_⟩
    · rw [m_ws_get, show H[k]? = some c from h, Nat.add_comm 1 k]; rfl
    · have e := m_ws_set (m_ad b N) dt d H 1 k
      rw [Nat.add_comm 1 k] at e
      exact e
def m_L (ad : Nat → Nat) (L : mL) : mL := L.map (fun q => (q.1, m_v ad q.2))
theorem m_v_cat (ad : Nat → Nat) (v : Value) : (m_v ad v).category = v.category := by cases v <;> rfl
theorem m_cat_v (ad : Nat → Nat) (S : List Value) : ((S.map (m_v ad)).map fun v => v.category).sum = m_cat S := by
  unfold m_cat
  rw [List.map_map]
  congr 1
  exact List.map_congr_left fun v _ => m_v_cat ad v
theorem m_L_st1 (ad : Nat → Nat) (i : Nat) (v : Value) (L : mL) : (i, m_v ad v) :: (m_L ad L).filter (fun q => !(q.1 == i) && !(q.1 + 1 == i && q.2.category == 2)) = m_L ad (m_st1 i v L) := by
  simp only [m_L, m_st1, List.map_cons, List.filter_map, Function.comp_def, m_v_cat]
theorem m_L_st2 (ad : Nat → Nat) (i : Nat) (v : Value) (L : mL) : (i, m_v ad v) :: (m_L ad L).filter (fun q => !(q.1 == i) && (!(q.1 == i + 1) && !(q.1 + 1 == i && q.2.category == 2))) = m_L ad (m_st2 i v L) := by
  simp only [m_L, m_st2, List.map_cons, List.filter_map, Function.comp_def, m_v_cat]
theorem m_ld_mem {ad : Nat → Nat} {L : mL} {i : Nat} {v : Value} (h : m_ld L i = some v) : (i, m_v ad v) ∈ m_L ad L := by
  obtain ⟨q, hq, rfl⟩ := Option.map_eq_some_iff.mp h
  have h1 := List.find?_some hq
  have h2 := List.mem_of_find?_eq_some hq
  have h3 : q.1 = i := by simpa using h1
  subst h3
  exact List.mem_map.mpr ⟨q, h2, rfl⟩
theorem m_ld_at {ad : Nat → Nat} {L : mL} {i nL : Nat} {v : Value} {ls : Array Slot} (h : m_ld L i = some v) (hl : lv_has ls nL (m_L ad L)) : ls[i]? = some (.val (m_v ad v)) := hl.2.2 _ (m_ld_mem h)
theorem m_isI_of {v : Value} (h : m_isI v = true) : ∃ x, v = .int x := by cases v <;> first | exact ⟨_, rfl⟩ | cases h
theorem m_isL_of {v : Value} (h : m_isL v = true) : ∃ x, v = .long x := by cases v <;> first | exact ⟨_, rfl⟩ | cases h
theorem m_isA_of {v : Value} (h : m_isA v = true) : ∃ x, v = .ref x := by cases v <;> first | exact ⟨_, rfl⟩ | cases h
theorem m_lv_of {f : Value → Bool} {i pc' q : Nat} {L L' : mL} {S S' : List Value} {H H' : List mC} (h : m_lv f i pc' L S H = some (q, L', S', H')) : ∃ v, m_ld L i = some v ∧ f v = true ∧ q = pc' ∧ L' = L ∧ S' = v :: S ∧ H' = H := by
  unfold m_lv at h
  split at h
  · next v hv =>
    split at h
    · next hf => cases h; exact ⟨v, hv, hf, rfl, rfl, rfl, rfl⟩
    · cases h
  · cases h
theorem m_sv1_of {f : Value → Bool} {i nL pc' q : Nat} {L L' : mL} {S S' : List Value} {H H' : List mC} (h : m_sv1 f i nL pc' L S H = some (q, L', S', H')) : ∃ v, S = v :: S' ∧ f v = true ∧ i < nL ∧ q = pc' ∧ L' = m_st1 i v L ∧ H' = H := by
  unfold m_sv1 at h
  split at h
  · next v S1 =>
    split at h
    · next hf => cases h; exact ⟨v, rfl, hf.1, hf.2, rfl, rfl, rfl⟩
    · cases h
  · cases h
theorem m_sv2_of {f : Value → Bool} {i nL pc' q : Nat} {L L' : mL} {S S' : List Value} {H H' : List mC} (h : m_sv2 f i nL pc' L S H = some (q, L', S', H')) : ∃ v, S = v :: S' ∧ f v = true ∧ i + 1 < nL ∧ q = pc' ∧ L' = m_st2 i v L ∧ H' = H := by
  unfold m_sv2 at h
  split at h
  · next v S1 =>
    split at h
    · next hf => cases h; exact ⟨v, rfl, hf.1, hf.2, rfl, rfl, rfl⟩
    · cases h
  · cases h
theorem m_b2_of {f : Int32 → Int32 → Int32} {pc q : Nat} {L L' : mL} {S S' : List Value} {H H' : List mC} (h : m_b2 f pc L S H = some (q, L', S', H')) : ∃ a b S1, S = .int b :: .int a :: S1 ∧ q = pc + 1 ∧ L' = L ∧ S' = .int (f a b) :: S1 ∧ H' = H := by
  unfold m_b2 at h
  split at h
  · next b a S1 => cases h; exact ⟨a, b, S1, rfl, rfl, rfl, rfl, rfl⟩
  · cases h
theorem m_d2_of {f : Int32 → Int32 → Int32} {pc q : Nat} {L L' : mL} {S S' : List Value} {H H' : List mC} (h : m_d2 f pc L S H = some (q, L', S', H')) : ∃ a b S1, S = .int b :: .int a :: S1 ∧ ¬ b = 0 ∧ q = pc + 1 ∧ L' = L ∧ S' = .int (f a b) :: S1 ∧ H' = H := by
  unfold m_d2 at h
  split at h
  · next b a S1 =>
    split at h
    · cases h
    · next hb => cases h; exact ⟨a, b, S1, rfl, hb, rfl, rfl, rfl, rfl⟩
  · cases h
theorem m_l2_of {f : Int64 → Int64 → Int64} {pc q : Nat} {L L' : mL} {S S' : List Value} {H H' : List mC} (h : m_l2 f pc L S H = some (q, L', S', H')) : ∃ a b S1, S = .long b :: .long a :: S1 ∧ q = pc + 1 ∧ L' = L ∧ S' = .long (f a b) :: S1 ∧ H' = H := by
  unfold m_l2 at h
  split at h
  · next b a S1 => cases h; exact ⟨a, b, S1, rfl, rfl, rfl, rfl, rfl⟩
  · cases h
theorem m_gf_of {H : List mC} {r x y : Nat} {v : Value} (h : m_gf H r x y = some v) : ∃ fs, m_get H r = some (.inr (x, fs)) ∧ fs[y]? = some v := by
  unfold m_gf at h
  split at h
  · next ci fs hg =>
    split at h
    · next hc => subst hc; exact ⟨fs, hg, h⟩
    · cases h
  · cases h
theorem m_pf_of {H H' : List mC} {r x y : Nat} {v : Value} (h : m_pf H r x y v = some H') : ∃ fs, m_get H r = some (.inr (x, fs)) ∧ y < fs.length ∧ m_fit (m_fty x y) v = true ∧ H' = m_set H r (.inr (x, fs.set y v)) := by
  unfold m_pf at h
  split at h
  · next ci fs hg =>
    split at h
    · next hc =>
      obtain ⟨h1, h2, h3⟩ := hc
      subst h1
      cases h
      exact ⟨fs, hg, h2, h3, rfl⟩
    · cases h
  · cases h
theorem m_ra_of {H : List mC} {r t : Nat} {i : Int32} {v : Value} (h : m_ra H r t i = some v) : ∃ vs, m_get H r = some (.inl (t, vs)) ∧ 0 ≤ i ∧ vs[i.toNatClampNeg]? = some v := by
  unfold m_ra at h
  split at h
  · next u vs hg =>
    split at h
    · next hc =>
      obtain ⟨h1, h2⟩ := hc
      subst h1
      exact ⟨vs, hg, h2, h⟩
    · cases h
  · cases h
theorem m_wa_of {H H' : List mC} {r t : Nat} {i : Int32} {v : Value} (h : m_wa H r t i v = some H') : ∃ vs, m_get H r = some (.inl (t, vs)) ∧ 0 ≤ i ∧ i.toNatClampNeg < vs.length ∧ H' = m_set H r (.inl (t, vs.set i.toNatClampNeg v)) := by
  unfold m_wa at h
  split at h
  · next u vs hg =>
    split at h
    · next hc =>
      obtain ⟨h1, h2, h3⟩ := hc
      subst h1
      cases h
      exact ⟨vs, hg, h2, h3, rfl⟩
    · cases h
  · cases h
theorem m_jmp_of {pc q : Nat} {off : Int} {L L' : mL} {S S' : List Value} {H H' : List mC} (h : m_jmp pc off L S H = some (q, L', S', H')) : (pc : Int) + off = (q : Int) ∧ L' = L ∧ S' = S ∧ H' = H := by
  unfold m_jmp at h
  split at h
  · next h0 => cases h; exact ⟨(Int.toNat_of_nonneg h0).symm, rfl, rfl, rfl⟩
  · cases h
theorem m_cp_of {H H' : List mC} {r0 r : Nat} {sp dp n : Int32} (h : m_cp H r0 r sp dp n = some H') : ∃ f g, m_get H r0 = some (.inl (0, f)) ∧ m_get H r = some (.inl (0, g)) ∧ 0 ≤ sp ∧ 0 ≤ dp ∧ 0 ≤ n ∧ sp.toNatClampNeg + n.toNatClampNeg ≤ f.length ∧ dp.toNatClampNeg + n.toNatClampNeg ≤ g.length ∧
    H' = m_set H r (.inl (0, m_cpy f g sp.toNatClampNeg dp.toNatClampNeg n.toNatClampNeg)) := by
  unfold m_cp at h
  split at h
  · next u0 f u1 g h0 h1 =>
    split at h
    · next hc =>
      obtain ⟨e0, e1, a1, a2, a3, a4, a5⟩ := hc
      subst e0; subst e1
      cases h
      exact ⟨f, g, h0, h1, a1, a2, a3, a4, a5, rfl⟩
    · cases h
  · cases h
theorem m_fit_ok {ad : Nat → Nat} {ty : FieldType} {v : Value} (h : m_fit ty v = true) : narrow ty (m_v ad v) = m_v ad v ∧ fits ty (m_v ad v) = true := by
  cases ty <;> cases v <;> first | exact absurd h Bool.false_ne_true | exact ⟨rfl, rfl⟩
def m_sz : mC → Nat
  | .inl (_, vs) => vs.length
  | .inr (_, fs) => fs.length
def m_sl (H : List mC) : Nat := (H.map m_sz).sum
theorem m_sl_app (H : List mC) (c : mC) : m_sl (H ++ [c]) = m_sl H + m_sz c := by simp [m_sl]
theorem m_sl_set {H : List mC} {k : Nat} {c d : mC} (h : H[k]? = some c) (hd : m_sz d = m_sz c) : m_sl (H.set k d) = m_sl H := by
  have e : (H.map m_sz)[k]? = some (m_sz d) := by rw [List.getElem?_map, h, hd]; rfl
  have hl := (List.getElem?_eq_some_iff.mp e).1
  unfold m_sl
  rw [List.map_set, ← (List.getElem?_eq_some_iff.mp e).2, List.set_getElem_self]
theorem m_len_set {H : List mC} {r : Nat} {d : mC} : (m_set H r d).length = H.length := by
  cases r <;> simp [m_set]
theorem m_sl_mset {H : List mC} {r : Nat} {c d : mC} (h : m_get H r = some c) (hd : m_sz d = m_sz c) : m_sl (m_set H r d) = m_sl H := by
  cases r with
  | zero => rfl
  | succ k => exact m_sl_set h hd
theorem m_in {j : Int32} {n : Nat} (h0 : 0 ≤ j) (h : j.toNatClampNeg < n) : vp_in j n := by
  rintro (q | q)
  · exact Int32.not_lt.mpr h0 q
  · omega
theorem m_fn_set (ad : Nat → Nat) (vs : List Value) (k : Nat) (x : Int32) (hk : k < vs.length) : (fun j => m_iv ((vs.set k (.int x)).getD j .null)) = upd (fun j => m_iv (vs.getD j .null)) k x := by
  funext j
  unfold upd
  by_cases h : j = k
  · subst h
    simp [List.getD_eq_getElem?_getD, hk, m_iv]
  · show m_iv ((vs.set k (.int x)).getD j .null) = if j = k then x else m_iv (vs.getD j .null)
    rw [if_neg h, List.getD_eq_getElem?_getD, List.getD_eq_getElem?_getD, List.getElem?_set_ne (Ne.symm h)]
theorem m_fn_setR (ad : Nat → Nat) (vs : List Value) (k r : Nat) (hk : k < vs.length) : (fun j => m_rv ad ((vs.set k (.ref r)).getD j .null)) = va_up (fun j => m_rv ad (vs.getD j .null)) k (some (ad r)) := by
  funext j
  unfold va_up
  by_cases h : j = k
  · subst h
    simp [List.getD_eq_getElem?_getD, hk, m_rv]
  · show m_rv ad ((vs.set k (.ref r)).getD j .null) = if j = k then some (ad r) else m_rv ad (vs.getD j .null)
    rw [if_neg h, List.getD_eq_getElem?_getD, List.getD_eq_getElem?_getD, List.getElem?_set_ne (Ne.symm h)]
theorem m_cpy_len (f g : List Value) (sp dp n : Nat) : (m_cpy f g sp dp n).length = g.length := by simp [m_cpy]
theorem m_fn_cpy (f g : List Value) (sp dp n : Nat) (h : dp + n ≤ g.length) : (fun j => m_iv ((m_cpy f g sp dp n).getD j .null)) = va_cpy (fun j => m_iv (f.getD j .null)) (fun j => m_iv (g.getD j .null)) sp dp n := by
  funext j
  unfold va_cpy m_cpy
  by_cases hj : j < g.length
  · rw [List.getD_eq_getElem?_getD, List.getElem?_map, List.getElem?_range hj]
    show m_iv (if dp ≤ j ∧ j < dp + n then f.getD (sp + (j - dp)) .null else g.getD j .null) = _
    split <;> rfl
  · show m_iv (((List.range g.length).map _).getD j .null) = if dp ≤ j ∧ j < dp + n then m_iv (f.getD (sp + (j - dp)) .null) else m_iv (g.getD j .null)
    rw [List.getD_eq_getElem?_getD, List.getElem?_eq_none (by simp; omega), if_neg (by omega), List.getD_eq_getElem?_getD, List.getElem?_eq_none (by omega)]
/-! the tables' facts, the frame's facts, one instruction -/
theorem m_lays (C : String) (T : u_T) (n : Nat) (pl : List Nat) (h : (List.range n).all (fun k => m_wp (pl.getD k 0) (u_lay C T k)) = true) : ∀ w ∈ u_ws C T n, w ∈ m_gw := by
  intro w hw
  obtain ⟨k, hk, rfl⟩ := List.mem_map.mp hw
  exact m_wp_in (List.all_eq_true.mp h k hk)
def m_clok (ci : Nat) (r : vw_C) : Prop := (∀ w ∈ u_ws r.1 r.2.1 r.2.2, w ∈ m_gw) ∧ (∀ k, k < r.2.2 → parseFieldDescriptor (r.2.1 k).2.2.1 = some (m_fty ci k)) ∧ ∀ a, a < r.2.2 → ∀ b, b < r.2.2 → a ≠ b → (r.2.1 a).2.1 ≠ (r.2.1 b).2.1
set_option maxRecDepth 100000 in
theorem m_clok0 : m_clok 0 (RX0, TX0, 5) := ⟨m_lays RX0 TX0 5 ((m_cpl.getD 0 (0, 0, [])).2.2) (by decide +kernel), tyX0_ok, nmX0⟩
set_option maxRecDepth 100000 in
theorem m_clok1 : m_clok 1 (RX1, TX1, 8) := ⟨m_lays RX1 TX1 8 ((m_cpl.getD 1 (0, 0, [])).2.2) (by decide +kernel), tyX1_ok, nmX1⟩
set_option maxRecDepth 100000 in
theorem m_clok2 : m_clok 2 (RX2, TX2, 4) := ⟨m_lays RX2 TX2 4 ((m_cpl.getD 2 (0, 0, [])).2.2) (by decide +kernel), tyX2_ok, nmX2⟩
set_option maxRecDepth 100000 in
theorem m_clok3 : m_clok 3 (RX3, TX3, 3) := ⟨m_lays RX3 TX3 3 ((m_cpl.getD 3 (0, 0, [])).2.2) (by decide +kernel), tyX3_ok, nmX3⟩
set_option maxRecDepth 100000 in
theorem m_clok4 : m_clok 4 (RX4, TX4, 3) := ⟨m_lays RX4 TX4 3 ((m_cpl.getD 4 (0, 0, [])).2.2) (by decide +kernel), tyX4_ok, nmX4⟩
set_option maxRecDepth 100000 in
theorem m_clok5 : m_clok 5 (RX5, TX5, 6) := ⟨m_lays RX5 TX5 6 ((m_cpl.getD 5 (0, 0, [])).2.2) (by decide +kernel), tyX5_ok, nmX5⟩
theorem m_cls (ci : Nat) (r : vw_C) (h : m_cl[ci]? = some r) : m_clok ci r := by
  match ci, h with
  | 0, h => cases h; exact m_clok0
  | 1, h => cases h; exact m_clok1
  | 2, h => cases h; exact m_clok2
  | 3, h => cases h; exact m_clok3
  | 4, h => cases h; exact m_clok4
  | 5, h => cases h; exact m_clok5
  | n + 6, h => cases h
set_option maxRecDepth 100000 in
theorem m_w_max : m_wp (m_mathpl.getD 0 (0, 0)).1 (.static Lib.Math.max.name) = true ∧ m_wp (m_mathpl.getD 0 (0, 0)).2 (.code Lib.Math.max.name Lib.Math.max.code 2 (some .int)) = true := by decide +kernel
set_option maxRecDepth 100000 in
theorem m_w_min : m_wp (m_mathpl.getD 1 (0, 0)).1 (.static Lib.Math.min.name) = true ∧ m_wp (m_mathpl.getD 1 (0, 0)).2 (.code Lib.Math.min.name Lib.Math.min.code 2 (some .int)) = true := by decide +kernel
set_option maxRecDepth 100000 in
theorem m_w_abs : m_wp (m_mathpl.getD 2 (0, 0)).1 (.static Lib.Math.abs.name) = true ∧ m_wp (m_mathpl.getD 2 (0, 0)).2 (.code Lib.Math.abs.name Lib.Math.abs.code 1 (some .int)) = true := by decide +kernel
set_option maxRecDepth 100000 in
theorem m_w_cpy : m_wp (m_mathpl.getD 3 (0, 0)).1 (.static arraycopyName) = true ∧ m_wp (m_mathpl.getD 3 (0, 0)).2 (.native arraycopyName) = true := by decide +kernel
set_option maxRecDepth 100000 in
theorem m_w_ini : m_wp m_miscpl.1 (.initialized "java/lang/Math") = true ∧ m_wp m_miscpl.2.1 (.initialized "java/lang/System") = true := by decide +kernel
set_option maxRecDepth 100000 in
theorem m_w_obj : m_wp m_miscpl.2.2.1 (.instanceMethod Lib.objectInit) = true ∧ m_wp m_miscpl.2.2.2 (.code Lib.objectInit ⟨#[0xb1]⟩ 1 none) = true := by decide +kernel
def m_Kn (D : va_G) (dt : Nat → ClassId) (s : State) : Prop := va_K D m_cl [(dt 0, .int), (dt 1, .boolean), (dt 2, .object "ParallaxSheets$Sheet")] s ∧ (∀ u ∈ m_nest, va_Nw u s) ∧ va_AO "ParallaxSheets$Sheet" s
theorem m_nest_form (u : Cond) (hu : u ∈ m_nest) : ∃ a i x h, u = .methodLinkNest a i x h := by
  simp only [m_nest, List.mem_cons, List.not_mem_nil, or_false] at hu
  rcases hu with rfl | rfl | rfl | rfl | rfl | rfl <;> exact ⟨_, _, _, _, rfl⟩
theorem m_Kn.warm {D : va_G} {dt : Nat → ClassId} {s U : State} (hW : s.WarmedH U.vm) (h : m_Kn D dt s) : m_Kn D dt U :=
  ⟨va_K.moved hW.alike h.1, fun u hu => by
    obtain ⟨a, i, x, k, rfl⟩ := m_nest_form u hu
    exact va_Nw.warmM hW (h.2.1 _ hu), va_AO.moved hW.alike h.2.2⟩
theorem m_Kn.call {D : va_G} {dt : Nat → ClassId} {U : State} {g : JFrame} {mk : MethodId} {a : Array Value} (h : m_Kn D dt U) : m_Kn D dt (U.calling g mk a) :=
  ⟨va_K.moved (u := U) (U := U.calling g mk a) (Vm.Alike.refl U.vm) h.1, fun u hu => by
    obtain ⟨a, i, x, k, rfl⟩ := m_nest_form u hu
    exact va_Nw.same rfl rfl (h.2.1 _ hu), va_AO.moved (u := U) (U := U.calling g mk a) (Vm.Alike.refl U.vm) h.2.2⟩
def m_Cx (D : va_G) (dt : Nat → ClassId) (b N : Nat) (scr : List Int32) (M : Nat) (p : Program) (s : State) (args : Array Value) (m : MethodId) (meth : Method) (c : Code) : Prop :=
  p.tables.exec = Jvm.exec ∧ c.code = m_by M ∧ c.maxLocals = m_nL M ∧ (∀ w ∈ m_gw, w.before args s = true) ∧ s.vm.findClass (m_nm M).cls = some m.cls ∧ ((m_nm M).name = "<init>" → meth.name = "<init>") ∧ m_Kn D dt s ∧ va_X b scr.length (fun j => scr.getD j 0) s s.heap ∧ b < N ∧ N ≤ s.heap.size
/-- what a walk has reached: the locals, the world, what was written, what was made -/
def m_At (D : va_G) (dt : Nat → ClassId) (b N M a0 s0 : Nat) (s : State) (L : mL) (AH : List mC) (ls : Array Slot) (H : Heap) (locs : List Loc) (cells slots : Nat) : Prop :=
  lv_has ls (m_nL M) (m_L (m_ad b N) L) ∧ va_P D m_cl (m_ws (m_ad b N) dt 1 AH) H ∧ va_S (fun q => N ≤ q) s.heap H locs ∧ cells + a0 = AH.length ∧ slots + s0 = m_sl AH
section MS
variable {p : Program} {l : Launch} {e : Env} {R : Room} {s : State} {m : MethodId} {args : Array Value} {below : List Frame} {meth : Method} {c : Code} {H : Heap} {locs : List Loc} {cells slots : Nat} {Q : State → Prop}
theorem m_W_size {g : JFrame} (h : H.size ≤ s.heap.size + cells → W p l e R s m args below meth c H locs cells slots Q g) : W p l e R s m args below meth c H locs cells slots Q g := by
  intro T hT X
  refine h ?_ T hT X
  have h1 := X.same.2.2.1
  have h2 : (T.setVm s.vm).heap = T.heap := rfl
  rw [h2, hT] at h1
  exact h1
end MS
/-! one instruction of the run is one instruction of the machine -/
theorem m_E_set0 (ad : Nat → Nat) (dt : Nat → ClassId) (vs : List Value) (k : Nat) (x : Int32) (hk : k < vs.length) : m_E ad dt (.inl (0, vs.set k (.int x))) = .inl (dt 0, vs.length, .inl (upd (fun j => m_iv (vs.getD j .null)) k x)) := by
  rw [← m_fn_set ad vs k x hk]
  show Sum.inl (dt 0, (vs.set k (.int x)).length, _) = _
  rw [List.length_set]; rfl
theorem m_E_set1 (ad : Nat → Nat) (dt : Nat → ClassId) (vs : List Value) (k : Nat) (x : Int32) (hk : k < vs.length) : m_E ad dt (.inl (1, vs.set k (.int x))) = .inl (dt 1, vs.length, .inl (upd (fun j => m_iv (vs.getD j .null)) k x)) := by
  rw [← m_fn_set ad vs k x hk]
  show Sum.inl (dt 1, (vs.set k (.int x)).length, _) = _
  rw [List.length_set]; rfl
theorem m_E_set2 (ad : Nat → Nat) (dt : Nat → ClassId) (vs : List Value) (k r : Nat) (hk : k < vs.length) : m_E ad dt (.inl (2, vs.set k (.ref r))) = .inl (dt 2, vs.length, .inr (.inr (.inr (.inr (va_up (fun j => m_rv ad (vs.getD j .null)) k (some (ad r))))))) := by
  rw [← m_fn_setR ad vs k r hk]
  show Sum.inl (dt 2, (vs.set k (.ref r)).length, _) = _
  rw [List.length_set]; rfl
theorem m_E_cpy (ad : Nat → Nat) (dt : Nat → ClassId) (f g : List Value) (sp dp n : Nat) (h : dp + n ≤ g.length) : m_E ad dt (.inl (0, m_cpy f g sp dp n)) = .inl (dt 0, g.length, .inl (va_cpy (fun j => m_iv (f.getD j .null)) (fun j => m_iv (g.getD j .null)) sp dp n)) := by
  rw [← m_fn_cpy f g sp dp n h]
  show Sum.inl (dt 0, (m_cpy f g sp dp n).length, _) = _
  rw [m_cpy_len]; rfl
theorem m_E_new (ad : Nat → Nat) (dt : Nat → ClassId) (x n : Nat) : m_E ad dt (.inl (x, List.replicate n (.int 0))) = .inl (dt x, n, m_fn ad x (List.replicate n (.int 0))) := by
  show Sum.inl (dt x, (List.replicate n (Value.int 0)).length, _) = _
  rw [List.length_replicate]
theorem m_E_newq (ad : Nat → Nat) (dt : Nat → ClassId) (n : Nat) : m_E ad dt (.inl (2, List.replicate n .null)) = .inl (dt 2, n, .inr (.inr (.inr (.inr (fun _ => none))))) := by
  show (Sum.inl (dt 2, (List.replicate n Value.null).length, Sum.inr (Sum.inr (Sum.inr (Sum.inr (fun j => m_rv ad ((List.replicate n Value.null).getD j Value.null)))))) : va_E) = _
  rw [List.length_replicate]
  congr 7
  funext j
  by_cases hj : j < n
  · simp [List.getD_eq_getElem?_getD, hj, m_rv]
  · simp [List.getD_eq_getElem?_getD, hj, m_rv]
section MO
variable {p : Program} {l : Launch} {e : Env} {R : Room} {s : State} {m : MethodId} {args : Array Value} {below : List Frame} {meth : Method} {c : Code} {H : Heap} {locs : List Loc} {cells slots : Nat} {Q : State → Prop}
variable {D : va_G} {dt : Nat → ClassId} {b N M pc pc' a0 s0 : Nat} {scr : List Int32} {ls : Array Slot} {L L' : mL} {S S' : List Value} {AH AH' : List mC}
theorem m_fresh {q : Nat} {e1 : va_E} {H1 : Heap} (hsz : s.heap.size = N + a0) (hc : cells + a0 = AH.length) (hP1 : va_P D m_cl (m_ws (m_ad b N) dt 1 AH ++ [(q, e1)]) H1) (hD1 : va_D (fun q => N ≤ q) (m_ws (m_ad b N) dt 1 AH ++ [(q, e1)])) (hz : H1.size ≤ s.heap.size + (cells + 1)) : q = m_ad b N (AH.length + 1) := by
  have hlen := m_ws_len (m_ad b N) dt AH 1
  have hq : (m_ws (m_ad b N) dt 1 AH ++ [(q, e1)])[AH.length]? = some (q, e1) := by
    rw [List.getElem?_append_right (by omega), hlen, Nat.sub_self]; rfl
  have h1 := (hP1 _ _ hq).lt
  have h2 : N ≤ q := hD1.2 _ _ hq
  show q = N + AH.length
  have h3 : q < H1.size := h1
  by_cases h : q < N + AH.length
  · exfalso
    obtain ⟨cj, hj⟩ : ∃ cj, AH[q - N]? = some cj := ⟨_, List.getElem?_eq_getElem (show q - N < AH.length by omega)⟩
    have hj2 : (m_ws (m_ad b N) dt 1 AH ++ [(q, e1)])[q - N]? = some (m_ad b N (1 + (q - N)), m_E (m_ad b N) dt cj) := by
      rw [List.getElem?_append_left (by omega), m_ws_get, hj]; rfl
    have := hD1.1 _ _ _ _ hj2 hq (by show m_ad b N (1 + (q - N)) = q; rw [m_ad1]; omega)
    omega
  · omega
theorem m_cA {x : Nat} {cA : ClassId} {ty : FieldType} (hx : (x = 0 ∧ ty = .int) ∨ (x = 1 ∧ ty = .boolean) ∨ (x = 2 ∧ ty = .object "ParallaxSheets$Sheet")) (hK : va_K D m_cl [(dt 0, .int), (dt 1, .boolean), (dt 2, .object "ParallaxSheets$Sheet")] s)
    (h : va_K D m_cl ([(dt 0, .int), (dt 1, .boolean), (dt 2, .object "ParallaxSheets$Sheet")] ++ [(cA, ty)]) s) : cA = dt x := by
  have h1 := (h.2 3 _ rfl).2
  rcases hx with ⟨rfl, rfl⟩ | ⟨rfl, rfl⟩ | ⟨rfl, rfl⟩
  · exact Option.some.inj (Eq.trans (Eq.symm h1) (hK.2 0 _ rfl).2)
  · exact Option.some.inj (Eq.trans (Eq.symm h1) (hK.2 1 _ rfl).2)
  · obtain ⟨_, _, _, _, _, h2⟩ := h1
    obtain ⟨_, _, _, _, _, h3⟩ := (hK.2 2 _ rfl).2
    exact Option.some.inj (h2.symm.trans h3)
set_option maxHeartbeats 8000000 in
theorem m_one (hC : m_Cx D dt b N scr M p s args m meth c) (hsz : s.heap.size = N + a0) {i : Instr} {x y w : Nat} {z : Int} (hE : m_okE M (pc, i, x, y, w, z) = true)
    (hex : m_ex scr M pc i x y w z L S AH = some (pc', L', S', AH')) (hA : m_At D dt b N M a0 s0 s L AH ls H locs cells slots) (hR1 : m_fr M ≤ R.frames) (hR2 : m_lo M ≤ R.locals) (hc' : AH'.length ≤ R.cells + a0) (hs' : m_sl AH' ≤ R.slots + s0)
    (kk : ∀ (ls' : Array Slot) (H' : Heap) (locs' : List Loc) (cells' slots' : Nat), m_At D dt b N M a0 s0 s L' AH' ls' H' locs' cells' slots' → W p l e R s m args below meth c H' locs' cells' slots' Q (F0 m pc' ls' (S'.map (m_v (m_ad b N))))) :
    W p l e R s m args below meth c H locs cells slots Q (F0 m pc ls (S.map (m_v (m_ad b N)))) := by
  obtain ⟨hx, hb, hml, hts, hown, hname, hK, hX, hbN, hNs⟩ := hC
  obtain ⟨hl, hP, hS, hc, hs⟩ := hA
  have hD := m_D b N dt AH
  have hAA : ∀ q : Nat, s.heap.size ≤ q → (fun q => N ≤ q) q := fun q h => Nat.le_trans hNs h
  unfold m_okE at hE
  obtain ⟨hdec0, hlk⟩ := Bool.and_eq_true_iff.mp hE
  have hdec := of_decide_eq_true hdec0
  clear hdec0 hE
  cases i
  case iconst n => cases hex; exact lv_iconst hx hb hdec rfl (kk _ _ _ _ _ ⟨hl, hP, hS, hc, hs⟩)
  case bipush n => cases hex; exact lv_bipush hx hb hdec rfl (kk _ _ _ _ _ ⟨hl, hP, hS, hc, hs⟩)
  case sipush n => cases hex; exact lv_sipush hx hb hdec rfl (kk _ _ _ _ _ ⟨hl, hP, hS, hc, hs⟩)
  case lconst n => cases hex; exact lv_lconst hx hb hdec rfl (kk _ _ _ _ _ ⟨hl, hP, hS, hc, hs⟩)
  case dconst d =>
    simp only [m_ex] at hex
    split at hex
    · next h0 => subst h0; cases hex; exact lv_dconst0 hx hb hdec (kk _ _ _ _ _ ⟨hl, hP, hS, hc, hs⟩)
    · cases hex
  case ldc k => cases hex; exact lv_ldc hx hb hown (hts _ (m_wp_in hlk)) hdec (kk _ _ _ _ _ ⟨hl, hP, hS, hc, hs⟩)
  case ldc2_w k => cases hex; exact lv_ldc2 hx hb hown (hts _ (m_wp_in hlk)) hdec (kk _ _ _ _ _ ⟨hl, hP, hS, hc, hs⟩)
  case iload_n k =>
    obtain ⟨v, hv, hf, rfl, rfl, rfl, rfl⟩ := m_lv_of hex
    obtain ⟨v, rfl⟩ := m_isI_of hf
    exact lv_iload_n hx hb hdec rfl (m_ld_at hv hl) (kk _ _ _ _ _ ⟨hl, hP, hS, hc, hs⟩)
  case iload k =>
    obtain ⟨v, hv, hf, rfl, rfl, rfl, rfl⟩ := m_lv_of hex
    obtain ⟨v, rfl⟩ := m_isI_of hf
    exact lv_iload hx hb hdec (m_ld_at hv hl) (kk _ _ _ _ _ ⟨hl, hP, hS, hc, hs⟩)
  case lload_n k =>
    obtain ⟨v, hv, hf, rfl, rfl, rfl, rfl⟩ := m_lv_of hex
    obtain ⟨v, rfl⟩ := m_isL_of hf
    exact lv_lload_n hx hb hdec rfl (m_ld_at hv hl) (kk _ _ _ _ _ ⟨hl, hP, hS, hc, hs⟩)
  case lload k =>
    obtain ⟨v, hv, hf, rfl, rfl, rfl, rfl⟩ := m_lv_of hex
    obtain ⟨v, rfl⟩ := m_isL_of hf
    exact lv_lload hx hb hdec (m_ld_at hv hl) (kk _ _ _ _ _ ⟨hl, hP, hS, hc, hs⟩)
  case aload_n k =>
    obtain ⟨v, hv, hf, rfl, rfl, rfl, rfl⟩ := m_lv_of hex
    obtain ⟨v, rfl⟩ := m_isA_of hf
    exact lv_aload_n hx hb hdec rfl (m_ld_at hv hl) (kk _ _ _ _ _ ⟨hl, hP, hS, hc, hs⟩)
  case aload k =>
    obtain ⟨v, hv, hf, rfl, rfl, rfl, rfl⟩ := m_lv_of hex
    obtain ⟨v, rfl⟩ := m_isA_of hf
    exact lv_aload hx hb hdec (m_ld_at hv hl) (kk _ _ _ _ _ ⟨hl, hP, hS, hc, hs⟩)
  case istore_n k =>
    obtain ⟨v, rfl, hf, hn, rfl, rfl, rfl⟩ := m_sv1_of hex
    obtain ⟨v, rfl⟩ := m_isI_of hf
    exact lv_istore_n hx hb hdec rfl hl hn (m_L_st1 _ _ (.int v) L) (fun ls' h' => kk _ _ _ _ _ ⟨h', hP, hS, hc, hs⟩)
  case istore k =>
    obtain ⟨v, rfl, hf, hn, rfl, rfl, rfl⟩ := m_sv1_of hex
    obtain ⟨v, rfl⟩ := m_isI_of hf
    exact lv_istore hx hb hdec hl hn (m_L_st1 _ _ (.int v) L) (fun ls' h' => kk _ _ _ _ _ ⟨h', hP, hS, hc, hs⟩)
  case astore_n k =>
    obtain ⟨v, rfl, hf, hn, rfl, rfl, rfl⟩ := m_sv1_of hex
    obtain ⟨v, rfl⟩ := m_isA_of hf
    exact lv_astore_n hx hb hdec rfl hl hn (m_L_st1 _ _ (.ref v) L) (fun ls' h' => kk _ _ _ _ _ ⟨h', hP, hS, hc, hs⟩)
  case astore k =>
    obtain ⟨v, rfl, hf, hn, rfl, rfl, rfl⟩ := m_sv1_of hex
    obtain ⟨v, rfl⟩ := m_isA_of hf
    exact lv_astore hx hb hdec hl hn (m_L_st1 _ _ (.ref v) L) (fun ls' h' => kk _ _ _ _ _ ⟨h', hP, hS, hc, hs⟩)
  case lstore_n k =>
    obtain ⟨v, rfl, hf, hn, rfl, rfl, rfl⟩ := m_sv2_of hex
    obtain ⟨v, rfl⟩ := m_isL_of hf
    exact lv_lstore_n hx hb hdec rfl hl hn (m_L_st2 _ _ (.long v) L) (fun ls' h' => kk _ _ _ _ _ ⟨h', hP, hS, hc, hs⟩)
  case lstore k =>
    obtain ⟨v, rfl, hf, hn, rfl, rfl, rfl⟩ := m_sv2_of hex
    obtain ⟨v, rfl⟩ := m_isL_of hf
    exact lv_lstore hx hb hdec hl hn (m_L_st2 _ _ (.long v) L) (fun ls' h' => kk _ _ _ _ _ ⟨h', hP, hS, hc, hs⟩)
  case iinc k n =>
    simp only [m_ex] at hex
    split at hex
    · next v hv =>
      split at hex
      · next hn =>
        cases hex
        obtain ⟨j, hj⟩ := List.getElem?_of_mem (m_ld_mem (ad := m_ad b N) hv)
        exact lv_iinc hx hb hdec hl hj rfl hn (m_L_st1 _ _ (.int (v + Int32.ofInt n)) L) (fun ls' h' => kk _ _ _ _ _ ⟨h', hP, hS, hc, hs⟩)
      · cases hex
    · cases hex
  case iadd => obtain ⟨u, v, S1, rfl, rfl, rfl, rfl, rfl⟩ := m_b2_of hex; exact lv_iadd hx hb hdec (kk _ _ _ _ _ ⟨hl, hP, hS, hc, hs⟩)
  case isub => obtain ⟨u, v, S1, rfl, rfl, rfl, rfl, rfl⟩ := m_b2_of hex; exact lv_isub hx hb hdec (kk _ _ _ _ _ ⟨hl, hP, hS, hc, hs⟩)
  case imul => obtain ⟨u, v, S1, rfl, rfl, rfl, rfl, rfl⟩ := m_b2_of hex; exact lv_imul hx hb hdec (kk _ _ _ _ _ ⟨hl, hP, hS, hc, hs⟩)
  case iand => obtain ⟨u, v, S1, rfl, rfl, rfl, rfl, rfl⟩ := m_b2_of hex; exact lv_iand hx hb hdec (kk _ _ _ _ _ ⟨hl, hP, hS, hc, hs⟩)
  case ishr => obtain ⟨u, v, S1, rfl, rfl, rfl, rfl, rfl⟩ := m_b2_of hex; exact lv_ishr hx hb hdec (kk _ _ _ _ _ ⟨hl, hP, hS, hc, hs⟩)
  case idiv => obtain ⟨u, v, S1, rfl, h0, rfl, rfl, rfl, rfl⟩ := m_d2_of hex; exact lv_idiv hx hb hdec h0 (kk _ _ _ _ _ ⟨hl, hP, hS, hc, hs⟩)
  case irem => obtain ⟨u, v, S1, rfl, h0, rfl, rfl, rfl, rfl⟩ := m_d2_of hex; exact lv_irem hx hb hdec h0 (kk _ _ _ _ _ ⟨hl, hP, hS, hc, hs⟩)
  case ladd => obtain ⟨u, v, S1, rfl, rfl, rfl, rfl, rfl⟩ := m_l2_of hex; exact lv_ladd hx hb hdec (kk _ _ _ _ _ ⟨hl, hP, hS, hc, hs⟩)
  case lsub => obtain ⟨u, v, S1, rfl, rfl, rfl, rfl, rfl⟩ := m_l2_of hex; exact lv_lsub hx hb hdec (kk _ _ _ _ _ ⟨hl, hP, hS, hc, hs⟩)
  case lmul => obtain ⟨u, v, S1, rfl, rfl, rfl, rfl, rfl⟩ := m_l2_of hex; exact lv_lmul hx hb hdec (kk _ _ _ _ _ ⟨hl, hP, hS, hc, hs⟩)
  case ldiv =>
    simp only [m_ex] at hex
    split at hex
    · split at hex
      · cases hex
      · next h0 => cases hex; exact lv_ldiv hx hb hdec h0 (kk _ _ _ _ _ ⟨hl, hP, hS, hc, hs⟩)
    · cases hex
  case lcmp =>
    simp only [m_ex] at hex
    split at hex
    · cases hex; exact W.lcmp hx hb hdec (kk _ _ _ _ _ ⟨hl, hP, hS, hc, hs⟩)
    · cases hex
  case i2l =>
    simp only [m_ex] at hex
    split at hex
    · cases hex; exact lv_i2l hx hb hdec rfl (kk _ _ _ _ _ ⟨hl, hP, hS, hc, hs⟩)
    · cases hex
  case i2d =>
    simp only [m_ex] at hex
    split at hex
    · cases hex; exact lv_i2d hx hb hdec (kk _ _ _ _ _ ⟨hl, hP, hS, hc, hs⟩)
    · cases hex
  case ddiv =>
    simp only [m_ex] at hex
    split at hex
    · split at hex
      · next h0 => cases hex; exact lv_ddiv hx hb hdec h0 (kk _ _ _ _ _ ⟨hl, hP, hS, hc, hs⟩)
      · cases hex
    · cases hex
  case dcmp op =>
    simp only [m_ex] at hex
    split at hex
    · cases hex; exact lv_dcmp hx hb hdec (kk _ _ _ _ _ ⟨hl, hP, hS, hc, hs⟩)
    · cases hex
  case dup =>
    simp only [m_ex] at hex
    split at hex
    · split at hex
      · next h0 => cases hex; exact lv_dup hx hb hdec (by rw [m_v_cat]; exact h0) (kk _ _ _ _ _ ⟨hl, hP, hS, hc, hs⟩)
      · cases hex
    · cases hex
  case dup2 =>
    simp only [m_ex] at hex
    split at hex
    · split at hex
      · next h0 => cases hex; exact lv_dup2_11 hx hb hdec (by rw [m_v_cat]; exact h0.1) (by rw [m_v_cat]; exact h0.2) (kk _ _ _ _ _ ⟨hl, hP, hS, hc, hs⟩)
      · cases hex
    · cases hex
  case pop =>
    simp only [m_ex] at hex
    split at hex
    · split at hex
      · next h0 => cases hex; exact lv_pop hx hb hdec (by rw [m_v_cat]; exact h0) (kk _ _ _ _ _ ⟨hl, hP, hS, hc, hs⟩)
      · cases hex
    · cases hex
  case goto off => cases hex; exact lv_goto hx hb hdec (of_decide_eq_true hlk) (kk _ _ _ _ _ ⟨hl, hP, hS, hc, hs⟩)
  case ifCond cn off =>
    have ht := of_decide_eq_true hlk
    simp only [m_ex] at hex
    split at hex
    · next a S1 =>
      simp only [Option.some.injEq, Prod.mk.injEq] at hex
      obtain ⟨rfl, rfl, rfl, rfl⟩ := hex
      have kk := fun ls' H' locs' cells' slots' => kk ls' H' locs' cells' slots'
      cases cn
      · exact lv_if_eq hx hb hdec ht (fun h => (by have k1 := kk _ _ _ _ _ ⟨hl, hP, hS, hc, hs⟩; rwa [if_pos (by exact decide_eq_true h)] at k1)) (fun h => (by have k1 := kk _ _ _ _ _ ⟨hl, hP, hS, hc, hs⟩; rwa [if_neg (by intro q; exact h (of_decide_eq_true q))] at k1))
      · exact lv_if_ne hx hb hdec ht (fun h => (by have k1 := kk _ _ _ _ _ ⟨hl, hP, hS, hc, hs⟩; rwa [if_pos (by exact decide_eq_true h)] at k1)) (fun h => (by have k1 := kk _ _ _ _ _ ⟨hl, hP, hS, hc, hs⟩; rwa [if_neg (by intro q; exact (of_decide_eq_true q) h)] at k1))
      · exact lv_if_lt hx hb hdec ht (fun h => (by have k1 := kk _ _ _ _ _ ⟨hl, hP, hS, hc, hs⟩; rwa [if_pos (by exact decide_eq_true h)] at k1)) (fun h => (by have k1 := kk _ _ _ _ _ ⟨hl, hP, hS, hc, hs⟩; rwa [if_neg (by intro q; exact h (of_decide_eq_true q))] at k1))
      · exact lv_if_ge hx hb hdec ht (fun h => (by have k1 := kk _ _ _ _ _ ⟨hl, hP, hS, hc, hs⟩; rwa [if_pos (by exact decide_eq_true h)] at k1)) (fun h => (by have k1 := kk _ _ _ _ _ ⟨hl, hP, hS, hc, hs⟩; rwa [if_neg (by intro q; exact h (of_decide_eq_true q))] at k1))
      · exact lv_if_gt hx hb hdec ht (fun h => (by have k1 := kk _ _ _ _ _ ⟨hl, hP, hS, hc, hs⟩; rwa [if_pos (by exact decide_eq_true h)] at k1)) (fun h => (by have k1 := kk _ _ _ _ _ ⟨hl, hP, hS, hc, hs⟩; rwa [if_neg (by intro q; exact h (of_decide_eq_true q))] at k1))
      · exact lv_if_le hx hb hdec ht (fun h => (by have k1 := kk _ _ _ _ _ ⟨hl, hP, hS, hc, hs⟩; rwa [if_pos (by exact decide_eq_true h)] at k1)) (fun h => (by have k1 := kk _ _ _ _ _ ⟨hl, hP, hS, hc, hs⟩; rwa [if_neg (by intro q; exact h (of_decide_eq_true q))] at k1))
    · cases hex
  case if_icmp cn off =>
    have ht := of_decide_eq_true hlk
    simp only [m_ex] at hex
    split at hex
    · next u a S1 =>
      simp only [Option.some.injEq, Prod.mk.injEq] at hex
      obtain ⟨rfl, rfl, rfl, rfl⟩ := hex
      have kk := fun ls' H' locs' cells' slots' => kk ls' H' locs' cells' slots'
      cases cn
      · exact lv_icmp_eq hx hb hdec ht (fun h => (by have k1 := kk _ _ _ _ _ ⟨hl, hP, hS, hc, hs⟩; rwa [if_pos (by exact decide_eq_true h)] at k1)) (fun h => (by have k1 := kk _ _ _ _ _ ⟨hl, hP, hS, hc, hs⟩; rwa [if_neg (by intro q; exact h (of_decide_eq_true q))] at k1))
      · exact lv_icmp_ne hx hb hdec ht (fun h => (by have k1 := kk _ _ _ _ _ ⟨hl, hP, hS, hc, hs⟩; rwa [if_pos (by exact decide_eq_true h)] at k1)) (fun h => (by have k1 := kk _ _ _ _ _ ⟨hl, hP, hS, hc, hs⟩; rwa [if_neg (by intro q; exact (of_decide_eq_true q) h)] at k1))
      · exact lv_icmp_lt hx hb hdec ht (fun h => (by have k1 := kk _ _ _ _ _ ⟨hl, hP, hS, hc, hs⟩; rwa [if_pos (by exact decide_eq_true h)] at k1)) (fun h => (by have k1 := kk _ _ _ _ _ ⟨hl, hP, hS, hc, hs⟩; rwa [if_neg (by intro q; exact h (of_decide_eq_true q))] at k1))
      · exact lv_icmp_ge hx hb hdec ht (fun h => (by have k1 := kk _ _ _ _ _ ⟨hl, hP, hS, hc, hs⟩; rwa [if_pos (by exact decide_eq_true h)] at k1)) (fun h => (by have k1 := kk _ _ _ _ _ ⟨hl, hP, hS, hc, hs⟩; rwa [if_neg (by intro q; exact h (of_decide_eq_true q))] at k1))
      · exact lv_icmp_gt hx hb hdec ht (fun h => (by have k1 := kk _ _ _ _ _ ⟨hl, hP, hS, hc, hs⟩; rwa [if_pos (by exact decide_eq_true h)] at k1)) (fun h => (by have k1 := kk _ _ _ _ _ ⟨hl, hP, hS, hc, hs⟩; rwa [if_neg (by intro q; exact h (of_decide_eq_true q))] at k1))
      · exact lv_icmp_le hx hb hdec ht (fun h => (by have k1 := kk _ _ _ _ _ ⟨hl, hP, hS, hc, hs⟩; rwa [if_pos (by exact decide_eq_true h)] at k1)) (fun h => (by have k1 := kk _ _ _ _ _ ⟨hl, hP, hS, hc, hs⟩; rwa [if_neg (by intro q; exact h (of_decide_eq_true q))] at k1))
    · cases hex
  case tableswitch d lo hi offs =>
    simp only [m_ex] at hex
    split at hex
    · next a S1 =>
      split at hex
      · next h0 =>
        obtain ⟨ht, rfl, rfl, rfl⟩ := m_jmp_of hex
        exact lv_tableOut hx hb hdec h0 ht (kk _ _ _ _ _ ⟨hl, hP, hS, hc, hs⟩)
      · next h0 =>
        split at hex
        · next off ho =>
          obtain ⟨ht, rfl, rfl, rfl⟩ := m_jmp_of hex
          exact lv_tableIn hx hb hdec (fun h => h0 (Or.inl h)) (fun h => h0 (Or.inr h)) ho ht (kk _ _ _ _ _ ⟨hl, hP, hS, hc, hs⟩)
        · cases hex
    · cases hex
  case lookupswitch d ps =>
    simp only [m_ex] at hex
    split at hex
    · next a S1 =>
      obtain ⟨ht, rfl, rfl, rfl⟩ := m_jmp_of hex
      exact lv_lookup hx hb hdec hlk rfl ht (kk _ _ _ _ _ ⟨hl, hP, hS, hc, hs⟩)
    · cases hex
  case getfield k =>
    simp only [m_ex] at hex
    split at hex
    · next r S1 =>
      obtain ⟨v, hv, he⟩ := Option.map_eq_some_iff.mp hex
      cases he
      obtain ⟨fs, hg, hfy⟩ := m_gf_of hv
      obtain ⟨k0, hr0, hk0, hat, -⟩ := m_at (b := b) (N := N) (dt := dt) hg
      simp only [m_okF] at hlk
      split at hlk
      · next rr hrr =>
        obtain ⟨hy, hw⟩ := Bool.and_eq_true_iff.mp hlk
        obtain ⟨hin, hty, hnm⟩ := m_cls _ _ hrr
        exact va_get (D := D) (ci := x) (v := m_v (m_ad b N) v) (C := rr.1) (T := rr.2.1) (N := rr.2.2) hx hb hts hin hown hK.1 hP k0 hat hrr y (of_decide_eq_true hy) (hts _ (m_wp_in hw)) (fun _ h9 => h9) (by rw [List.getElem?_map, hfy]; rfl) hdec (kk _ _ _ _ _ ⟨hl, hP, hS, hc, hs⟩)
      · cases hlk
    · cases hex
  case putfield k =>
    simp only [m_ex] at hex
    split at hex
    · next v r S1 =>
      obtain ⟨H1, hv, he⟩ := Option.map_eq_some_iff.mp hex
      cases he
      obtain ⟨fs, hg, hy2, hfit, rfl⟩ := m_pf_of hv
      obtain ⟨k0, hr0, hk0, hat, hset⟩ := m_at (b := b) (N := N) (dt := dt) hg
      obtain ⟨hn, hf2⟩ := m_fit_ok (ad := m_ad b N) hfit
      obtain ⟨hlk1, hlk2⟩ := Bool.and_eq_true_iff.mp hlk
      simp only [m_okF] at hlk1
      split at hlk1
      · next rr hrr =>
        obtain ⟨hy, hw⟩ := Bool.and_eq_true_iff.mp hlk1
        obtain ⟨hin, hty, hnm⟩ := m_cls _ _ hrr
        simp only [m_okP, hrr, Bool.or_eq_true, Bool.and_eq_true, decide_eq_true_eq] at hlk2
        have fin : ∀ (H1 : Heap) (locs1 : List Loc), va_P D m_cl ((m_ws (m_ad b N) dt 1 AH).set k0 (m_ad b N r, .inr (x, (fs.map (m_v (m_ad b N))).set y (m_v (m_ad b N) v)))) H1 → va_S (fun q => N ≤ q) s.heap H1 locs1 →
            W p l e R s m args below meth c H1 locs1 cells slots Q (F0 m (pc + 3) ls (S'.map (m_v (m_ad b N)))) := by
          intro H1 locs1 hP1 hS1
          refine kk _ _ _ _ _ ⟨hl, ?_, hS1, by rw [m_len_set]; exact hc, by rw [m_sl_mset hg (by simp [m_sz])]; exact hs⟩
          rw [← hset]
          simpa [m_E, List.map_set] using hP1
        rcases hlk2 with hfin | ⟨⟨hfin, hin2⟩, hdecl⟩
        · exact va_put (D := D) (ci := x) (v := m_v (m_ad b N) v) (ty := m_fty x y) (C := rr.1) (T := rr.2.1) (N := rr.2.2) hx hb hts hin (m_fty x) hty hnm hown hK.1 hP hD hS k0 hat hrr y (of_decide_eq_true hy) (hts _ (m_wp_in hw)) (fun _ h9 => h9) hfin (hty y (of_decide_eq_true hy)) hn hf2 (by rw [List.length_map]; exact hy2) hdec (fun H1 locs1 hP1 _ hS1 => fin H1 locs1 hP1 hS1)
        · exact va_putF (D := D) (ci := x) (v := m_v (m_ad b N) v) (ty := m_fty x y) (C := rr.1) (T := rr.2.1) (N := rr.2.2) hx hb hts hin (m_fty x) hty hnm hown hK.1 hP hD hS k0 hat hrr y (of_decide_eq_true hy) (hts _ (m_wp_in hw)) (fun _ h9 => h9) hfin (hname hin2) hdecl (hty y (of_decide_eq_true hy)) hn hf2 (by rw [List.length_map]; exact hy2) hdec (fun H1 locs1 hP1 _ hS1 => fin H1 locs1 hP1 hS1)
      · cases hlk1
    · cases hex
  case iaload =>
    simp only [m_ex] at hex
    split at hex
    · next j S1 =>
      split at hex
      · next h0 =>
        obtain ⟨v, hv, he⟩ := Option.map_eq_some_iff.mp hex
        cases he
        have hlt := (List.getElem?_eq_some_iff.mp hv).1
        have hq := va_sld (Q := Q) (l := l) (R := R) (args := args) (m := m) (below := below) (meth := meth) (cells := cells) (slots := slots) (ls := ls) (e := e) (pc := pc) (rest := S1.map (m_v (m_ad b N))) hx hb hX (show b < s.heap.size by omega) (A := fun q => N ≤ q) (by show ¬ N ≤ b; omega) hS (m_in h0 hlt) hdec
        refine hq ?_
        have e1 : scr.getD j.toNatClampNeg 0 = v := by rw [List.getD_eq_getElem?_getD, hv]; rfl
        show W p l e R s m args below meth c H locs cells slots Q (F0 m (pc + 1) ls (.int (scr.getD j.toNatClampNeg 0) :: _))
        rw [e1]
        exact kk _ _ _ _ _ ⟨hl, hP, hS, hc, hs⟩
      · cases hex
    · next j r S1 hne =>
      split at hex
      · next v hv =>
        cases hex
        obtain ⟨vs, hg, h0, hvs⟩ := m_ra_of hv
        obtain ⟨k0, hr0, hk0, hat, -⟩ := m_at (b := b) (N := N) (dt := dt) hg
        have hlt := (List.getElem?_eq_some_iff.mp hvs).1
        refine va_iald (D := D) hx hb hK.1 hP k0 0 hat rfl (m_in h0 hlt) hdec ?_
        have e1 : m_iv (vs.getD j.toNatClampNeg .null) = v := by rw [List.getD_eq_getElem?_getD, hvs]; rfl
        show W p l e R s m args below meth c H locs cells slots Q (F0 m (pc + 1) ls (.int (m_iv (vs.getD j.toNatClampNeg .null)) :: _))
        rw [e1]
        exact kk _ _ _ _ _ ⟨hl, hP, hS, hc, hs⟩
      · cases hex
    · cases hex
  case baload =>
    simp only [m_ex] at hex
    split at hex
    · next j r S1 =>
      split at hex
      · next v hv =>
        cases hex
        obtain ⟨vs, hg, h0, hvs⟩ := m_ra_of hv
        obtain ⟨k0, hr0, hk0, hat, -⟩ := m_at (b := b) (N := N) (dt := dt) hg
        have hlt := (List.getElem?_eq_some_iff.mp hvs).1
        refine va_zald (D := D) hx hb hK.1 hP k0 1 hat rfl (m_in h0 hlt) hdec ?_
        have e1 : m_iv (vs.getD j.toNatClampNeg .null) = v := by rw [List.getD_eq_getElem?_getD, hvs]; rfl
        show W p l e R s m args below meth c H locs cells slots Q (F0 m (pc + 1) ls (.int (m_iv (vs.getD j.toNatClampNeg .null)) :: _))
        rw [e1]
        exact kk _ _ _ _ _ ⟨hl, hP, hS, hc, hs⟩
      · cases hex
    · cases hex
  case aaload =>
    simp only [m_ex] at hex
    split at hex
    · next j r S1 =>
      split at hex
      · next v hv =>
        cases hex
        obtain ⟨vs, hg, h0, hvs⟩ := m_ra_of hv
        obtain ⟨k0, hr0, hk0, hat, -⟩ := m_at (b := b) (N := N) (dt := dt) hg
        have hlt := (List.getElem?_eq_some_iff.mp hvs).1
        refine va_aldq (D := D) hx hb hK.1 hP k0 2 hat rfl (m_in h0 hlt) hdec ?_
        have e1 : va_rf (m_rv (m_ad b N) (vs.getD j.toNatClampNeg .null)) = .ref (m_ad b N v) := by rw [List.getD_eq_getElem?_getD, hvs]; rfl
        show W p l e R s m args below meth c H locs cells slots Q (F0 m (pc + 1) ls (va_rf (m_rv (m_ad b N) (vs.getD j.toNatClampNeg .null)) :: _))
        rw [e1]
        exact kk _ _ _ _ _ ⟨hl, hP, hS, hc, hs⟩
      · cases hex
    · cases hex
  case iastore =>
    simp only [m_ex] at hex
    split at hex
    · next v j r S1 =>
      obtain ⟨H1, hv, he⟩ := Option.map_eq_some_iff.mp hex
      cases he
      obtain ⟨vs, hg, h0, hlt, rfl⟩ := m_wa_of hv
      obtain ⟨k0, hr0, hk0, hat, hset⟩ := m_at (b := b) (N := N) (dt := dt) hg
      refine va_iast (D := D) hx hb hK.1 hP hD hS k0 0 hat rfl (m_in h0 hlt) hdec (fun H1 locs1 hP1 _ hS1 => kk _ _ _ _ _ ⟨hl, ?_, hS1, by rw [m_len_set]; exact hc, by rw [m_sl_mset hg (by simp [m_sz])]; exact hs⟩)
      rw [← hset, m_E_set0 _ _ _ _ _ hlt]
      exact hP1
    · cases hex
  case bastore =>
    simp only [m_ex] at hex
    split at hex
    · next v j r S1 =>
      obtain ⟨H1, hv, he⟩ := Option.map_eq_some_iff.mp hex
      cases he
      obtain ⟨vs, hg, h0, hlt, rfl⟩ := m_wa_of hv
      obtain ⟨k0, hr0, hk0, hat, hset⟩ := m_at (b := b) (N := N) (dt := dt) hg
      refine va_zast (D := D) hx hb hK.1 hP hD hS k0 1 hat rfl (m_in h0 hlt) hdec (fun H1 locs1 hP1 _ hS1 => kk _ _ _ _ _ ⟨hl, ?_, hS1, by rw [m_len_set]; exact hc, by rw [m_sl_mset hg (by simp [m_sz])]; exact hs⟩)
      rw [← hset, m_E_set1 _ _ _ _ _ hlt]
      exact hP1
    · cases hex
  case aastore =>
    simp only [m_ex] at hex
    split at hex
    · next v j r S1 =>
      split at hex
      · next fv hgv =>
        obtain ⟨H1, hv, he⟩ := Option.map_eq_some_iff.mp hex
        cases he
        obtain ⟨vs, hg, h0, hlt, rfl⟩ := m_wa_of hv
        obtain ⟨k0, hr0, hk0, hat, hset⟩ := m_at (b := b) (N := N) (dt := dt) hg
        obtain ⟨k1, hr1, hk1, hat1, -⟩ := m_at (b := b) (N := N) (dt := dt) hgv
        refine va_astq (D := D) (cl := m_cl) (r := (RX3, TX3, 3)) hx hb hK.1 hP hD hS k0 2 k1 3 hat rfl hat1 rfl (m_in h0 hlt) hdec (fun H1 locs1 hP1 _ hS1 => kk _ _ _ _ _ ⟨hl, ?_, hS1, by rw [m_len_set]; exact hc, by rw [m_sl_mset hg (by simp [m_sz])]; exact hs⟩)
        rw [← hset, m_E_set2 _ _ _ _ _ hlt]
        exact hP1
      · cases hex
    · cases hex
  case arraylength =>
    simp only [m_ex] at hex
    split at hex
    · next S1 =>
      cases hex
      exact va_slen (rest := S1.map (m_v (m_ad b N))) hx hb hX (show b < s.heap.size by omega) (A := fun q => N ≤ q) (by show ¬ N ≤ b; omega) hS hdec (kk _ _ _ _ _ ⟨hl, hP, hS, hc, hs⟩)
    · next r S1 hne =>
      split at hex
      · next t vs hg =>
        split at hex
        · next ht3 =>
          cases hex
          obtain ⟨k0, hr0, hk0, hat, -⟩ := m_at (b := b) (N := N) (dt := dt) hg
          match t, ht3, hat with
          | 0, _, hat => exact va_alen (D := D) hx hb hK.1 hP k0 0 hat rfl rfl hdec (kk _ _ _ _ _ ⟨hl, hP, hS, hc, hs⟩)
          | 1, _, hat => exact va_alen (D := D) hx hb hK.1 hP k0 1 hat rfl rfl hdec (kk _ _ _ _ _ ⟨hl, hP, hS, hc, hs⟩)
          | 2, _, hat => exact va_alen (D := D) hx hb hK.1 hP k0 2 hat rfl rfl hdec (kk _ _ _ _ _ ⟨hl, hP, hS, hc, hs⟩)
          | n + 3, h3, _ => omega
        · cases hex
      · cases hex
    · cases hex
  case new k =>
    simp only [m_ex] at hex
    split at hex
    · next rr hrr =>
      cases hex
      obtain ⟨hin, hty, hnm⟩ := m_cls _ _ hrr
      simp only [m_okN, hrr] at hlk
      split at hlk
      · next r2 pl e1 e2 =>
        cases e1
        simp only [Bool.and_eq_true] at hlk
        obtain ⟨⟨w1, w2⟩, w3⟩ := hlk
        have hlen : (AH ++ [Sum.inr (x, (List.range rr.2.2).map (fun k => defaultValue (m_fty x k)))] : List mC).length = AH.length + 1 := by simp
        have hsl := m_sl_app AH (Sum.inr (x, (List.range rr.2.2).map (fun k => defaultValue (m_fty x k))))
        have hsz2 : m_sz (Sum.inr (x, (List.range rr.2.2).map (fun k => defaultValue (m_fty x k)))) = rr.2.2 := by simp [m_sz]
        rw [hlen] at hc'
        rw [hsl, hsz2] at hs'
        refine va_new (D := D) (ci := x) (fs := ((List.range rr.2.2).map (fun k => defaultValue (m_fty x k))).map (m_v (m_ad b N))) (C := rr.1) (T := rr.2.1) (N := rr.2.2) hx hb hts hin (m_fty x) hty hown (hts _ (m_wp_in w1)) (hts _ (m_wp_in w2)) (hts _ (m_wp_in w3)) hK.1 hP hD hS hAA hrr ?_ (by omega) (by omega) hdec (fun q H1 hP1 hD1 hS1 => ?_)
        · intro j hj
          have e9 : (((List.range rr.2.2).map (fun k => defaultValue (m_fty x k))).map (m_v (m_ad b N)))[j]? = some (m_v (m_ad b N) (defaultValue (m_fty x j))) := by
            rw [List.getElem?_map, List.getElem?_map, List.getElem?_range hj]; rfl
          show _ = List.getD _ j Value.null
          rw [List.getD_eq_getElem?_getD, e9]
          show _ = m_v (m_ad b N) (defaultValue (m_fty x j))
          cases m_fty x j <;> rfl
        · refine m_W_size (fun hz => ?_)
          have hq := m_fresh hsz hc hP1 hD1 hz
          subst hq
          refine kk _ _ _ _ _ ⟨hl, ?_, hS1, by rw [hlen]; omega, by rw [hsl, hsz2]; omega⟩
          rw [m_ws_app, Nat.add_comm 1 AH.length]
          exact hP1
      · cases hlk
    · cases hex
  case newarray t =>
    simp only [Bool.and_eq_true, decide_eq_true_eq] at hlk
    obtain ⟨⟨hx2, hty⟩, hw⟩ := hlk
    simp only [m_ex] at hex
    split at hex
    · next n S1 =>
      split at hex
      · next hn =>
        cases hex
        have hlen : (AH ++ [Sum.inl (x, List.replicate n.toNatClampNeg (Value.int 0))] : List mC).length = AH.length + 1 := by simp
        have hsl := m_sl_app AH (Sum.inl (x, List.replicate n.toNatClampNeg (Value.int 0)))
        have hsz2 : m_sz (Sum.inl (x, List.replicate n.toNatClampNeg (Value.int 0))) = n.toNatClampNeg := by simp [m_sz]
        rw [hlen] at hc'
        rw [hsl, hsz2] at hs'
        have hx3 : (x = 0 ∧ m_ty x = .int) ∨ (x = 1 ∧ m_ty x = .boolean) ∨ (x = 2 ∧ m_ty x = .object "ParallaxSheets$Sheet") := by
          rcases (show x = 0 ∨ x = 1 by omega) with rfl | rfl
          · exact Or.inl ⟨rfl, rfl⟩
          · exact Or.inr (Or.inl ⟨rfl, rfl⟩)
        have hz0 : (fun j => Value.int (m_iv ((List.replicate n.toNatClampNeg (Value.int 0)).getD j .null))) = fun _ => Value.int 0 := by
          funext j
          by_cases hj : j < n.toNatClampNeg
          · simp [List.getD_eq_getElem?_getD, hj, m_iv]
          · simp [List.getD_eq_getElem?_getD, hj, m_iv]
        have hcb : componentBytes (m_ty x) ≤ 4 := by
          rcases (show x = 0 ∨ x = 1 by omega) with rfl | rfl <;> decide
        have hmul : n.toNatClampNeg * componentBytes (m_ty x) ≤ 1000 * 4 := Nat.mul_le_mul hn.2 hcb
        refine va_newa (D := D) (ty := m_ty x) (N' := n.toNatClampNeg) (a0 := (n.toNatClampNeg, m_fn (m_ad b N) x (List.replicate n.toNatClampNeg (.int 0)))) hx hb (by rw [hty]; exact hts _ (m_wp_in hw)) hty hK.1 hP hD hS hAA (fun cA => ?_) (fun q => Int32.not_lt.mpr hn.1 q) rfl (by omega) (by omega) (by omega) hdec (fun q cA H1 hK1 hP1 hD1 hS1 => ?_)
        · rcases (show x = 0 ∨ x = 1 by omega) with rfl | rfl
          · show arrV cA _ (fun j => Value.int (m_iv ((List.replicate n.toNatClampNeg (Value.int 0)).getD j .null))) = _
            rw [hz0]; rfl
          · show arrV cA _ (fun j => Value.int (m_iv ((List.replicate n.toNatClampNeg (Value.int 0)).getD j .null))) = _
            rw [hz0]; rfl
        · refine m_W_size (fun hz => ?_)
          have hq := m_fresh hsz hc hP1 hD1 hz
          subst hq
          have hcA := m_cA hx3 hK.1 hK1
          subst hcA
          refine kk _ _ _ _ _ ⟨hl, ?_, hS1, by rw [hlen]; omega, by rw [hsl, hsz2]; omega⟩
          rw [m_ws_app, Nat.add_comm 1 AH.length, m_E_new]
          exact hP1
      · cases hex
    · cases hex
  case anewarray k =>
    simp only [Bool.and_eq_true, decide_eq_true_eq] at hlk
    obtain ⟨hx2, hw⟩ := hlk
    simp only [m_ex] at hex
    split at hex
    · next n S1 =>
      split at hex
      · next hn =>
        cases hex
        have hlen : (AH ++ [Sum.inl (2, List.replicate n.toNatClampNeg Value.null)] : List mC).length = AH.length + 1 := by simp
        have hsl := m_sl_app AH (Sum.inl (2, List.replicate n.toNatClampNeg Value.null))
        have hsz2 : m_sz (Sum.inl (2, List.replicate n.toNatClampNeg Value.null)) = n.toNatClampNeg := by simp [m_sz]
        rw [hlen] at hc'
        rw [hsl, hsz2] at hs'
        have hz0 : (fun j => m_rv (m_ad b N) ((List.replicate n.toNatClampNeg Value.null).getD j .null)) = fun _ => none := by
          funext j
          by_cases hj : j < n.toNatClampNeg
          · simp [List.getD_eq_getElem?_getD, hj, m_rv]
          · simp [List.getD_eq_getElem?_getD, hj, m_rv]
        refine va_newq (D := D) (N' := n.toNatClampNeg) hx hb hown (hts _ (m_wp_in hw)) hK.2.2 hK.1 hP hD hS hAA (fun q => Int32.not_lt.mpr hn.1 q) rfl (by omega) (by omega) (by omega) hdec (fun q cA H1 hK1 hP1 hD1 hS1 => ?_)
        refine m_W_size (fun hz => ?_)
        have hq := m_fresh hsz hc hP1 hD1 hz
        subst hq
        have hcA := m_cA (x := 2) (Or.inr (Or.inr ⟨rfl, rfl⟩)) hK.1 hK1
        subst hcA
        refine kk _ _ _ _ _ ⟨hl, ?_, hS1, by rw [hlen]; omega, by rw [hsl, hsz2]; omega⟩
        rw [m_ws_app, Nat.add_comm 1 AH.length, m_E_newq]
        exact hP1
      · cases hex
    · cases hex
  case invokestatic k =>
    dsimp only at hlk
    have hsz3 : c.maxLocals = ls.size := hml.trans hl.1.symm
    have hwi := m_w_ini
    simp only [m_ex, m_math] at hex
    split at hex
    · next hw3 =>
      rw [if_pos hw3] at hlk
      simp only [Bool.and_eq_true, decide_eq_true_eq] at hlk
      obtain ⟨⟨wl, r1⟩, r2⟩ := hlk
      split at hex
      · next u v S1 =>
        split at hex
        · next hct =>
          cases hex
          have hk := kk _ _ _ _ _ ⟨hl, hP, hS, hc, hs⟩
          exact va_mmax hx hb hsz3 hown (hts _ (m_wp_in wl)) (hts _ (m_wp_in m_w_max.1)) (hts _ (m_wp_in hwi.1)) (hts _ (m_wp_in m_w_max.2)) (by omega) (by rw [m_cat_v]; omega) (by omega) (by omega) hdec hk
        · cases hex
      · cases hex
    · next hw3 =>
      rw [if_neg hw3] at hlk
      split at hex
      · next hw4 =>
        rw [if_pos hw4] at hlk
        simp only [Bool.and_eq_true, decide_eq_true_eq] at hlk
        obtain ⟨⟨wl, r1⟩, r2⟩ := hlk
        split at hex
        · next u v S1 =>
          split at hex
          · next hct =>
            cases hex
            have hk := kk _ _ _ _ _ ⟨hl, hP, hS, hc, hs⟩
            exact va_mmin hx hb hsz3 hown (hts _ (m_wp_in wl)) (hts _ (m_wp_in m_w_min.1)) (hts _ (m_wp_in hwi.1)) (hts _ (m_wp_in m_w_min.2)) (by omega) (by rw [m_cat_v]; omega) (by omega) (by omega) hdec hk
          · cases hex
        · cases hex
      · next hw4 =>
        rw [if_neg hw4] at hlk
        split at hex
        · next hw5 =>
          rw [if_pos hw5] at hlk
          simp only [Bool.and_eq_true, decide_eq_true_eq] at hlk
          obtain ⟨⟨wl, r1⟩, r2⟩ := hlk
          split at hex
          · next u S1 =>
            split at hex
            · next hct =>
              cases hex
              have hk := kk _ _ _ _ _ ⟨hl, hP, hS, hc, hs⟩
              exact va_mabs hx hb hsz3 hown (hts _ (m_wp_in wl)) (hts _ (m_wp_in m_w_abs.1)) (hts _ (m_wp_in hwi.1)) (hts _ (m_wp_in m_w_abs.2)) (by omega) (by rw [m_cat_v]; omega) (by omega) (by omega) hdec hk
            · cases hex
          · cases hex
        · next hw5 =>
          rw [if_neg hw5] at hlk
          split at hex
          · next hw6 =>
            rw [if_pos hw6] at hlk
            simp only [Bool.and_eq_true, decide_eq_true_eq] at hlk
            obtain ⟨⟨wl, r1⟩, r2⟩ := hlk
            split at hex
            · next n dp r sp r0 S1 =>
              split at hex
              · next hct =>
                obtain ⟨H1, hv, he⟩ := Option.map_eq_some_iff.mp hex
                cases he
                obtain ⟨f, g, hg0, hg1, a1, a2, a3, a4, a5, rfl⟩ := m_cp_of hv
                obtain ⟨k0, hr0, hk0, hat0, -⟩ := m_at (b := b) (N := N) (dt := dt) hg0
                obtain ⟨k1, hr1, hk1, hat1, hset⟩ := m_at (b := b) (N := N) (dt := dt) hg1
                refine va_copyi (D := D) (ty := .int) hx hb hsz3 hown (hts _ (m_wp_in wl)) (hts _ (m_wp_in m_w_cpy.2)) (hts _ (m_wp_in m_w_cpy.1)) (hts _ (m_wp_in hwi.2)) hK.1 hP hD hS k0 k1 0 0 hat0 hat1 rfl rfl rfl (fun q => Int32.not_lt.mpr a1 q) (fun q => Int32.not_lt.mpr a2 q) (fun q => Int32.not_lt.mpr a3 q) a4 a5 (fun _ _ => rfl) (by omega) (by rw [m_cat_v]; omega) hdec
                  (fun H1 locs1 hP1 _ hS1 => kk _ _ _ _ _ ⟨hl, ?_, hS1, by rw [m_len_set]; exact hc, by rw [m_sl_mset hg1 (by simp [m_sz, m_cpy_len])]; exact hs⟩)
                rw [← hset, m_E_cpy _ _ _ _ _ _ _ a5]
                exact hP1
              · cases hex
            · cases hex
          · cases hex
  case invokespecial k =>
    dsimp only at hlk
    simp only [m_ex] at hex
    split at hex
    · next hw7 =>
      rw [if_pos hw7] at hlk
      simp only [Bool.and_eq_true, decide_eq_true_eq] at hlk
      obtain ⟨⟨wl, r1⟩, r2⟩ := hlk
      split at hex
      · next r S1 =>
        split at hex
        · next hct =>
          cases hex
          have hk := kk _ _ _ _ _ ⟨hl, hP, hS, hc, hs⟩
          refine W.objInit hx hb hown (hts _ (m_wp_in wl)) (hts _ (m_wp_in m_w_obj.1)) (hts _ (m_wp_in m_w_obj.2)) rfl (by rw [hml]; exact hl.1) rfl hdec (by omega) ?_ hk
          show 2 * 0 + ((S'.map (m_v (m_ad b N))).map fun v => v.category).sum + 12 ≤ R.locals
          rw [m_cat_v]; omega
        · cases hex
      · cases hex
    · cases hex
  all_goals exact absurd hex (by simp [m_ex])
end MO
/-! a whole run of the data is a run of the machine -/
theorem m_math_mono {w pc : Nat} {L L' : mL} {S S' : List Value} {AH AH' : List mC} {pc' : Nat} (h : m_math w pc L S AH = some (pc', L', S', AH')) : AH.length ≤ AH'.length ∧ m_sl AH ≤ m_sl AH' := by
  unfold m_math at h
  repeat' split at h
  all_goals first
    | (cases h; done)
    | (cases h; exact ⟨Nat.le_refl _, Nat.le_refl _⟩)
    | (obtain ⟨H1, hv, he⟩ := Option.map_eq_some_iff.mp h
       cases he
       obtain ⟨f, g, hg0, hg1, -, -, -, -, -, rfl⟩ := m_cp_of hv
       exact ⟨by rw [m_len_set]; exact Nat.le_refl _, by rw [m_sl_mset hg1 (by simp [m_sz, m_cpy_len])]; exact Nat.le_refl _⟩)
set_option maxHeartbeats 4000000 in
theorem m_ex_mono {scr : List Int32} {M pc : Nat} {i : Instr} {x y w : Nat} {z : Int} {L L' : mL} {S S' : List Value} {AH AH' : List mC} {pc' : Nat} (h : m_ex scr M pc i x y w z L S AH = some (pc', L', S', AH')) : AH.length ≤ AH'.length ∧ m_sl AH ≤ m_sl AH' := by
  have same : AH' = AH → AH.length ≤ AH'.length ∧ m_sl AH ≤ m_sl AH' := fun q => by rw [q]; exact ⟨Nat.le_refl _, Nat.le_refl _⟩
  have apd : ∀ c : mC, AH' = AH ++ [c] → AH.length ≤ AH'.length ∧ m_sl AH ≤ m_sl AH' := fun c q => by rw [q, m_sl_app]; simp
  cases i
  case putfield k =>
    simp only [m_ex] at h
    split at h
    · obtain ⟨H1, hv, he⟩ := Option.map_eq_some_iff.mp h
      cases he
      obtain ⟨fs, hg, hy2, hfit, rfl⟩ := m_pf_of hv
      exact ⟨by rw [m_len_set]; exact Nat.le_refl _, by rw [m_sl_mset hg (by simp [m_sz])]; exact Nat.le_refl _⟩
    · cases h
  case iastore =>
    simp only [m_ex] at h
    split at h
    · obtain ⟨H1, hv, he⟩ := Option.map_eq_some_iff.mp h
      cases he
      obtain ⟨fs, hg, -, -, rfl⟩ := m_wa_of hv
      exact ⟨by rw [m_len_set]; exact Nat.le_refl _, by rw [m_sl_mset hg (by simp [m_sz])]; exact Nat.le_refl _⟩
    · cases h
  case bastore =>
    simp only [m_ex] at h
    split at h
    · obtain ⟨H1, hv, he⟩ := Option.map_eq_some_iff.mp h
      cases he
      obtain ⟨fs, hg, -, -, rfl⟩ := m_wa_of hv
      exact ⟨by rw [m_len_set]; exact Nat.le_refl _, by rw [m_sl_mset hg (by simp [m_sz])]; exact Nat.le_refl _⟩
    · cases h
  case aastore =>
    simp only [m_ex] at h
    split at h
    · split at h
      · obtain ⟨H1, hv, he⟩ := Option.map_eq_some_iff.mp h
        cases he
        obtain ⟨fs, hg, -, -, rfl⟩ := m_wa_of hv
        exact ⟨by rw [m_len_set]; exact Nat.le_refl _, by rw [m_sl_mset hg (by simp [m_sz])]; exact Nat.le_refl _⟩
      · cases h
    · cases h
  case invokestatic k => exact m_math_mono h
  case getfield k =>
    simp only [m_ex] at h
    split at h
    · obtain ⟨v, hv, he⟩ := Option.map_eq_some_iff.mp h
      cases he
      exact same rfl
    · cases h
  case iaload =>
    simp only [m_ex] at h
    repeat' split at h
    · obtain ⟨v, hv, he⟩ := Option.map_eq_some_iff.mp h
      cases he
      exact same rfl
    all_goals first | (cases h; exact same rfl) | cases h
  case new k =>
    simp only [m_ex] at h
    split at h
    · cases h; exact apd _ rfl
    · cases h
  case newarray k =>
    simp only [m_ex] at h
    repeat' split at h
    all_goals first | (cases h; exact apd _ rfl) | cases h
  case anewarray k =>
    simp only [m_ex] at h
    repeat' split at h
    all_goals first | (cases h; exact apd _ rfl) | cases h
  all_goals (simp only [m_ex, m_lv, m_sv1, m_sv2, m_b2, m_d2, m_l2, m_jmp] at h)
  all_goals (first | done | (repeat' split at h) <;> first | (cases h; exact same rfl) | (cases h; done) | skip)
theorem m_go_mono (scr : List Int32) : ∀ (n : Nat) {M pc : Nat} {L : mL} {S : List Value} {AH AHf : List mC} {rv : Option Value}, m_go scr n M pc L S AH = some (rv, AHf) → AH.length ≤ AHf.length ∧ m_sl AH ≤ m_sl AHf
  | 0, M, pc, L, S, AH, AHf, rv, h => by cases h
  | n + 1, M, pc, L, S, AH, AHf, rv, h => by
    rw [m_go_s] at h
    unfold m_st at h
    split at h
    · cases h
    · next i x y w z hcode =>
      split at h
      · split at h
        · next as S' hcut =>
          split at h
          · split at h
            · next v H1 hcall =>
              have h1 := m_go_mono scr n hcall
              have h2 := m_go_mono scr n h
              exact ⟨Nat.le_trans h1.1 h2.1, Nat.le_trans h1.2 h2.2⟩
            · cases h
          · cases h
        · cases h
      · split at h
        · split at h
          · cases h; exact ⟨Nat.le_refl _, Nat.le_refl _⟩
          · cases h
        · split at h
          · next pc' L' S' H' hex =>
            have h1 := m_ex_mono hex
            have h2 := m_go_mono scr n h
            exact ⟨Nat.le_trans h1.1 h2.1, Nat.le_trans h1.2 h2.2⟩
          · cases h
/-! calls, and the whole run -/
theorem m_code_of {M pc : Nat} {i : Instr} {x y w : Nat} {z : Int} (h : m_code M pc = some (i, x, y, w, z)) (hall : (m_prog M).all (m_okE M) = true) : m_okE M (pc, i, x, y, w, z) = true := by
  obtain ⟨q, hq, he⟩ := Option.map_eq_some_iff.mp h
  have h1 := List.find?_some hq
  have h3 : q.1 = pc := by simpa using h1
  have h2 := List.all_eq_true.mp hall q (List.mem_of_find?_eq_some hq)
  obtain ⟨q1, q2⟩ := q
  subst h3
  cases he
  exact h2
theorem m_sl_len (vs : List Value) : (lg_sl vs).length = m_cat vs := by
  induction vs with
  | nil => rfl
  | cons v t ih =>
    have e : lg_sl (v :: t) = (if v.category = 2 then [Slot.val v, Slot.second] else [Slot.val v]) ++ lg_sl t := by simp [lg_sl]
    have e2 : m_cat (v :: t) = v.category + m_cat t := by simp [m_cat]
    rw [e, e2, List.length_append, ih]
    rcases lv_cat v with h | h <;> simp [h]
theorem m_args_L (ad : Nat → Nat) : ∀ (vs : List Value) (i : Nat), lv_args i (vs.map (m_v ad)) = m_L ad (lv_args i vs)
  | [], i => rfl
  | v :: vs, i => by
    simp only [List.map_cons, lv_args, m_v_cat, m_args_L ad vs]
    rfl
theorem m_cat_map (ad : Nat → Nat) (S : List Value) : m_cat (S.map (m_v ad)) = m_cat S := m_cat_v ad S
def m_ws0 (M : Nat) : List Cond := .code (m_nm M) (m_by M) (m_nL M) (m_rt M) :: m_gw
theorem m_good {M : Nat} (hc : Cond.code (m_nm M) (m_by M) (m_nL M) (m_rt M) ∈ m_gw) : GoodIn m_gw (m_ws0 M) := by
  intro w hw
  have h : w ∈ m_gw := by
    rcases List.mem_cons.mp hw with rfl | h
    · exact hc
    · exact h
  exact ⟨h, good_of_word (List.mem_filter.mp h).2⟩
def m_rm (M mc ms : Nat) : Room := { frames := m_fr M, cells := mc, slots := ms, locals := m_lo M }
def m_Pc (D : va_G) (dt : Nat → ClassId) (b N : Nat) (scr : List Int32) (as : List Value) (AH : List mC) : Array Value → State → Prop := fun v U => v = (as.map (m_v (m_ad b N))).toArray ∧ U.heap.size = N + AH.length ∧ va_P D m_cl (m_ws (m_ad b N) dt 1 AH) U.heap ∧ m_Kn D dt U ∧ va_X b scr.length (fun j => scr.getD j 0) U U.heap ∧ b < N
def m_Qc (D : va_G) (dt : Nat → ClassId) (b N : Nat) (rv : Option Value) (AHf : List mC) : Array Value → State → Outcome → State → Prop := fun _ st oc t => oc = .returned (rv.map (m_v (m_ad b N))) ∧ va_P D m_cl (m_ws (m_ad b N) dt 1 AHf) t.heap ∧ va_F (fun q => N ≤ q) st t
def m_Ms (l : Launch) (D : va_G) (dt : Nat → ClassId) (b N : Nat) (scr : List Int32) (M : Nat) (as : List Value) (AH : List mC) (rv : Option Value) (AHf : List mC) : Prop :=
  Met l (m_nm M) (m_ws0 M) (m_rm M (AHf.length - AH.length) (m_sl AHf - m_sl AH)) (m_Pc D dt b N scr as AH) (m_Qc D dt b N rv AHf) (AHf.length - AH.length) (m_sl AHf - m_sl AH) (fun q => N ≤ q)
theorem m_blind (D : va_G) (dt : Nat → ClassId) (b N : Nat) (scr : List Int32) (as : List Value) (AH : List mC) : FrameBlind (m_Pc D dt b N scr as AH) := by
  intro a U g mk ⟨h1, h2, h3, h4, h5, h6⟩
  exact ⟨h1, h2, h3, h4.call, va_X.moved (u := U) (U := U.calling g mk a) (Vm.Alike.refl U.vm) h5, h6⟩
section MC
variable {p : Program} {l : Launch} {e : Env} {R : Room} {s : State} {m : MethodId} {args : Array Value} {below : List Frame} {meth : Method} {c : Code} {H : Heap} {locs : List Loc} {cells slots : Nat} {Q : State → Prop}
variable {D : va_G} {dt : Nat → ClassId} {b N M pc a0 s0 : Nat} {scr : List Int32} {ls : Array Slot} {L : mL} {S : List Value} {AH AHf : List mC} {rv : Option Value}
theorem m_call {a : Array Value} {rest st0 : List Value} {mc ms : Nat} (hr : va_Run p l e R s m args below meth c H locs cells slots mc ms (F0 m pc ls st0) rest (m_Qc D dt b N rv AHf a) (fun q => N ≤ q)) (hS : va_S (fun q => N ≤ q) s.heap H locs)
    (kk : ∀ (H1 : Heap) (locs1 : List Loc), va_P D m_cl (m_ws (m_ad b N) dt 1 AHf) H1 → va_S (fun q => N ≤ q) s.heap H1 locs1 → W p l e R s m args below meth c H1 locs1 (cells + mc) (slots + ms) Q (F0 m (pc + 3) ls ((rv.map (m_v (m_ad b N))).toList ++ rest))) :
    W p l e R s m args below meth c H locs cells slots Q (F0 m pc ls st0) := by
  intro T hT X
  obtain ⟨v, st₀, t, T', L1, h0, X', hL, e1, e2, ⟨hv, hw, hz, hk⟩, st⟩ := hr T hT X
  cases hv
  rw [h0] at hz hk
  obtain ⟨t2, a1, b1⟩ := kk T'.heap (locs ++ L1) (by rw [e1]; exact hw) ⟨Nat.le_trans hS.1 (by rw [e1]; exact hz), fun q h1 h2 => by
    rw [e1, hk q (Nat.lt_of_lt_of_le h1 hS.1) h2]; exact hS.2.1 q h1 h2, fun q hq => by
      rcases List.mem_append.mp hq with h | h
      · exact hS.2.2 q h
      · exact hL q h⟩ T' rfl X'
  exact ⟨t2, st t2 a1, b1⟩
/-- what a callee's start asks of the caller's state -/
theorem m_pre (hC : m_Cx D dt b N scr M p s args m meth c) (hsz : s.heap.size = N + a0) (hA : m_At D dt b N M a0 s0 s L AH ls H locs cells slots) (hz : H.size ≤ s.heap.size + cells) (as : List Value) :
    ∀ U : State, U.heap = H → s.WarmedH U.vm → m_Pc D dt b N scr as AH (as.map (m_v (m_ad b N))).toArray U := by
  obtain ⟨hx, hb, hml, hts, hown, hname, hK, hX, hbN, hNs⟩ := hC
  obtain ⟨hl, hP, hS, hc, hs⟩ := hA
  intro U hU hW
  refine ⟨rfl, ?_, by rw [hU]; exact hP, hK.warm hW, ?_, hbN⟩
  · rw [hU]
    have h1 : s.heap.size ≤ H.size := hS.1
    by_cases h0 : AH.length = 0
    · have hzz : Array.size H ≤ Array.size s.heap + cells := hz
      have hh : Array.size s.heap ≤ Array.size H := h1
      have hy : Array.size s.heap = N + a0 := hsz
      show Array.size H = _
      omega
    · obtain ⟨cj, hj⟩ : ∃ cj, AH[AH.length - 1]? = some cj := ⟨_, List.getElem?_eq_getElem (show AH.length - 1 < AH.length by omega)⟩
      have h2 := (hP (AH.length - 1) _ (by rw [m_ws_get, hj]; rfl)).lt
      have h3 : m_ad b N (1 + (AH.length - 1)) < Array.size H := h2
      rw [m_ad1] at h3
      have hzz : Array.size H ≤ Array.size s.heap + cells := hz
      have hy : Array.size s.heap = N + a0 := hsz
      show Array.size H = _
      omega
  · rw [hU]
    have hb1 : b < s.heap.size := Nat.lt_of_lt_of_le hbN hNs
    have hb2 : ¬ N ≤ b := by omega
    exact va_X.moved hW.alike (hX.kept (hS.2.1 b hb1 hb2))
end MC
/-- n steps deep, a run of the data is a run of the machine: from any point of a frame to its end -/
def m_Sn (scr : List Int32) (n : Nat) : Prop :=
  ∀ (p : Program) (l : Launch) (e : Env) (R : Room) (s : State) (m : MethodId) (args : Array Value) (below : List Frame) (meth : Method) (c : Code) (H : Heap) (locs : List Loc) (cells slots : Nat) (Q : State → Prop)
    (D : va_G) (dt : Nat → ClassId) (b N M pc a0 s0 : Nat) (ls : Array Slot) (L : mL) (S : List Value) (AH AHf : List mC) (rv : Option Value),
    M < 103 → m_go scr n M pc L S AH = some (rv, AHf) → m_Cx D dt b N scr M p s args m meth c → s.heap.size = N + a0 → m_At D dt b N M a0 s0 s L AH ls H locs cells slots → m_fr M ≤ R.frames → m_lo M ≤ R.locals → AHf.length ≤ R.cells + a0 → m_sl AHf ≤ R.slots + s0 →
    (∀ (i : Instr) (pc' : Nat) (L1 : mL) (S1 : List Value) (ls' : Array Slot) (H' : Heap) (locs' : List Loc) (cells' slots' : Nat) (z : Int), decode (m_by M) pc' = .ok (i, m_len i z) → m_rts i S1 = some rv → m_rok (m_rt M) rv = true → m_At D dt b N M a0 s0 s L1 AHf ls' H' locs' cells' slots' →
      W p l e R s m args below meth c H' locs' cells' slots' Q (F0 m pc' ls' (S1.map (m_v (m_ad b N))))) →
    W p l e R s m args below meth c H locs cells slots Q (F0 m pc ls (S.map (m_v (m_ad b N))))
theorem m_okM_code {x : Nat} (h : m_okM x = true) : Cond.code (m_nm x) (m_by x) (m_nL x) (m_rt x) ∈ m_gw ∧ Cond.initialized (m_nm x).cls ∈ m_gw ∧ ((m_nm x).cls ≠ "java/lang/invoke/MethodHandle" ∧ (m_nm x).cls ≠ "java/lang/invoke/VarHandle") ∧ (parseMethodDescriptor (m_nm x).desc).map (fun d => d.parameters.length) = some (m_na x) ∧ plainName (m_nm x).cls = true := by
  simp only [m_okM, Bool.and_eq_true, decide_eq_true_eq] at h
  obtain ⟨⟨⟨⟨⟨⟨h1, h2⟩, -⟩, h4⟩, h5⟩, h6⟩, h7⟩ := h
  exact ⟨m_wp_in h1, m_wp_in h2, ⟨h4, h5⟩, h6, h7⟩
theorem m_okM_stat {x : Nat} (h : m_okM x = true) (hs : m_stc x = true) : Cond.static (m_nm x) ∈ m_gw := by
  simp only [m_okM, Bool.and_eq_true, decide_eq_true_eq] at h
  obtain ⟨⟨⟨⟨⟨-, h3⟩, -⟩, -⟩, -⟩, -⟩ := h
  rw [if_pos hs] at h3
  exact m_wp_in h3
theorem m_okM_inst {x : Nat} (h : m_okM x = true) (hs : m_stc x = false) : Cond.instanceMethod (m_nm x) ∈ m_gw ∧ (∃ r, m_cl[m_rc x]? = some r ∧ r.1 = (m_nm x).cls) ∧ ((m_nm x).name = "<init>" ∨ Cond.selects (m_nm x).cls (m_nm x) (m_nm x) ∈ m_gw) := by
  simp only [m_okM, Bool.and_eq_true, decide_eq_true_eq] at h
  obtain ⟨⟨⟨⟨⟨-, h3⟩, -⟩, -⟩, -⟩, -⟩ := h
  rw [if_neg (by rw [hs]; decide)] at h3
  simp only [Bool.and_eq_true, Bool.or_eq_true, decide_eq_true_eq] at h3
  obtain ⟨⟨h1, h2⟩, h4⟩ := h3
  refine ⟨m_wp_in h1, Option.map_eq_some_iff.mp h2, ?_⟩
  rcases h4 with h4 | h4
  · exact Or.inl h4
  · exact Or.inr (m_wp_in h4)
theorem m_hlen {x : Nat} {desc : String} {n : Nat} (h : (parseMethodDescriptor desc).map (fun d => d.parameters.length) = some n) : ∀ sig, parseMethodDescriptor desc = some sig → n = sig.parameters.length := by
  intro sig hsig
  rw [hsig] at h
  exact (Option.some.inj h).symm
set_option maxHeartbeats 4000000 in
theorem m_met {scr : List Int32} {n : Nat} (ih : m_Sn scr n) {l : Launch} {D : va_G} {dt : Nat → ClassId} {b N x : Nat} {as : List Value} {AH AHf : List mC} {rv : Option Value} (hx : x < 102) (hok : m_okM x = true) (hcat : m_cat as ≤ m_nL x) (h : m_go scr n x 0 (lv_args 0 as) [] AH = some (rv, AHf)) : m_Ms l D dt b N scr x as AH rv AHf := by
  obtain ⟨-, -, -, -, hpl⟩ := m_okM_code hok
  obtain ⟨hm1, hm2⟩ := m_go_mono scr n h
  refine Met.ofW (cc := m_by x) (maxL := m_nL x) (ret := m_rt x) hpl rfl ?_
  intro p e s m args below meth c s₁ B hml hv
  obtain ⟨rfl, hsz, hP, hK, hX, hbN⟩ := hv
  have hxx := B.exec
  have hb := B.bytes
  have hr := B.returns
  have hts := atoms_spec (ws := m_ws0 x) B.pre
  have hown : s.vm.findClass (m_nm x).cls = some m.cls := findClass_of_methodNamed B.named
  have hlocks := B.notSynchronized
  have hname : meth.name = (m_nm x).name := (name_of_methodNamed B.named B.method).1
  rw [lg_entry_eq]
  have hl := lv_entry (as.map (m_v (m_ad b N))) (n := m_nL x) (by rw [m_sl_len, m_cat_map]; exact hcat)
  rw [m_args_L] at hl
  generalize (lg_sl (as.map (m_v (m_ad b N))) ++ List.replicate (m_nL x - (lg_sl (as.map (m_v (m_ad b N)))).length) Slot.unset).toArray = ls at hl ⊢
  refine ih p l e _ s m _ below meth c s.heap [] 0 0 _ D dt b N x 0 AH.length (m_sl AH) ls (lv_args 0 as) [] AH AHf rv (by omega) h
    ⟨hxx, hb, hml, fun w hw => hts w (List.mem_cons_of_mem _ hw), hown, fun h => hname.trans h, hK, hX, hbN, by rw [hsz]; exact Nat.le_add_right _ _⟩ hsz ⟨hl, hP, va_S.rf, Nat.zero_add _, Nat.zero_add _⟩ (Nat.le_refl _) (Nat.le_refl _)
    (show AHf.length ≤ (AHf.length - AH.length) + AH.length by omega) (show m_sl AHf ≤ (m_sl AHf - m_sl AH) + m_sl AH by omega) ?_
  intro i pc' L1 S1 ls' H' locs' cells' slots' z hdec hrts hrok hAt
  obtain ⟨hl', hP', hS', hc', hs'⟩ := hAt
  refine W.widen (k := AHf.length - AH.length) (n := m_sl AHf - m_sl AH) (by omega) (by omega) ?_
  have fin : ∀ (v : Option Value), rv = v → ∀ t : State, t.heap = H' → s.WarmedH t.vm → m_Qc D dt b N rv AHf (as.map (m_v (m_ad b N))).toArray s (.returned (v.map (m_v (m_ad b N)))) t := by
    intro v hv t ht hW
    subst hv
    exact ⟨rfl, by rw [ht]; exact hP', hS'.F ht⟩
  unfold m_rts at hrts
  split at hrts
  · next v =>
    cases hrts
    unfold m_rok at hrok
    split at hrok
    · next h1 h2 => cases h2; exact W.iret hxx hb (hr.trans h1) (fin _ rfl) hS'.2.2 hdec
    · next w h1 h2 => cases h2; exact W.zret hxx hb (hr.trans h1) (of_decide_eq_true hrok) (fin _ rfl) hS'.2.2 hdec
    all_goals first | (next h1 h2 => cases h2; done) | (next h2 => cases h2; done) | (cases hrok; done) | skip
  · next v =>
    cases hrts
    unfold m_rok at hrok
    split at hrok
    all_goals first | (next h1 h2 => cases h2; exact W.lret hxx hb (hr.trans h1) (fin _ rfl) hS'.2.2 hdec) | (next h1 h2 => cases h2; done) | (cases hrok; done) | skip
  · next v =>
    cases hrts
    unfold m_rok at hrok
    split at hrok
    all_goals first | (next h1 h2 => cases h2; exact W.dret hxx hb (hr.trans h1) (fin _ rfl) hS'.2.2 hdec) | (next h1 h2 => cases h2; done) | (cases hrok; done) | skip
  · next v =>
    cases hrts
    unfold m_rok at hrok
    split at hrok
    all_goals first | (next h1 h2 => cases h2; exact W.aret hxx hb (hr.trans h1) (Or.inl ⟨_, rfl⟩) (Or.inr ⟨_, rfl⟩) (fin _ rfl) hS'.2.2 hdec) | (next h1 h2 => cases h2; done) | (cases hrok; done) | skip
  · cases hrts
    unfold m_rok at hrok
    split at hrok
    all_goals first | (next h1 h2 => cases h2; done) | (next h1 h2 => exact W.vret hxx hb (hr.trans h1) (fin _ rfl) hS'.2.2 hdec) | (cases hrok; done) | skip
  · cases hrts
theorem m_cut_of {x : Nat} {S S' as : List Value} {H : List mC} (h : m_cut x S H = some (as, S')) : m_cat S' ≤ 8 ∧ ((m_stc x = true ∧ S = as.reverse ++ S' ∧ as.length = m_na x) ∨
    (m_stc x = false ∧ ∃ (r : Nat) (As fs : List Value), as = .ref r :: As ∧ S = As.reverse ++ .ref r :: S' ∧ As.length = m_na x ∧ m_get H r = some (.inr (m_rc x, fs)))) := by
  unfold m_cut at h
  split at h
  · next hst =>
    split at h
    · next hc =>
      cases h
      exact ⟨hc.2, Or.inl ⟨hst, by rw [List.reverse_reverse, List.take_append_drop], by rw [List.length_reverse, List.length_take]; omega⟩⟩
    · cases h
  · next hst =>
    split at h
    · next r S1 hd =>
      split at h
      · next ci fs hg =>
        split at h
        · next hc =>
          cases h
          obtain ⟨h1, h2⟩ := hc
          subst h1
          have hl : m_na x < S.length := by
            have := congrArg List.length hd
            simp at this
            omega
          refine ⟨h2, Or.inr ⟨by simpa using hst, r, (S.take (m_na x)).reverse, fs, rfl, ?_, by rw [List.length_reverse, List.length_take]; omega, hg⟩⟩
          rw [List.reverse_reverse, ← hd, List.take_append_drop]
        · cases h
      · cases h
    · cases h
theorem m_pay {s : State} {args : Array Value} (hts : ∀ w ∈ m_gw, w.before args s = true) {x : Nat} (hc : Cond.code (m_nm x) (m_by x) (m_nL x) (m_rt x) ∈ m_gw) : ∀ w ∈ m_ws0 x, ∀ (a' : Array Value) (U : State), s.WarmedH U.vm → w.before a' U = true :=
  pay_in hts (m_good hc)
section MSN
set_option maxHeartbeats 4000000 in
theorem m_snd (hall : ∀ M, M < 103 → (m_prog M).all (m_okE M) = true) (hokM : ∀ x, x < 102 → m_okM x = true) (scr : List Int32) : ∀ n, m_Sn scr n := by
  intro n
  induction n with
  | zero =>
    intro p l e R s m args below meth c H locs cells slots Q D dt b N M pc a0 s0 ls L S AH AHf rv hM h
    cases h
  | succ n ih =>
    intro p l e R s m args below meth c H locs cells slots Q D dt b N M pc a0 s0 ls L S AH AHf rv hM h hC hsz hA hR1 hR2 hcf hsf hfin
    rw [m_go_s] at h
    unfold m_st at h
    split at h
    · cases h
    · next i x y w z hcode =>
      have hE := m_code_of hcode (hall M hM)
      split at h
      · next hw =>
        split at h
        · next as S' hcut =>
          split at h
          · next hcat =>
            split at h
            · next v H1 hcall =>
              obtain ⟨hm1, hm2⟩ := m_go_mono scr n hcall
              obtain ⟨hm3, hm4⟩ := m_go_mono scr n h
              obtain ⟨hx, hb, hml, hts, hown, hname, hK, hX, hbN, hNs⟩ := id hC
              obtain ⟨hl, hP, hS, hc, hs⟩ := id hA
              obtain ⟨hc8, hcase⟩ := m_cut_of hcut
              unfold m_okE at hE
              obtain ⟨hdec0, hlk⟩ := Bool.and_eq_true_iff.mp hE
              have hdec := of_decide_eq_true hdec0
              refine m_W_size (fun hz => ?_)
              have hpre := m_pre hC hsz hA hz
              have go_on : ∀ (H2 : Heap) (locs2 : List Loc), va_P D m_cl (m_ws (m_ad b N) dt 1 H1) H2 → va_S (fun q => N ≤ q) s.heap H2 locs2 →
                  W p l e R s m args below meth c H2 locs2 (cells + (H1.length - AH.length)) (slots + (m_sl H1 - m_sl AH)) Q (F0 m (pc + 3) ls ((v.map (m_v (m_ad b N))).toList ++ S'.map (m_v (m_ad b N)))) := by
                intro H2 locs2 hP2 hS2
                have e1 : (v.map (m_v (m_ad b N))).toList ++ S'.map (m_v (m_ad b N)) = (v.toList ++ S').map (m_v (m_ad b N)) := by
                  cases v <;> rfl
                rw [e1]
                exact ih p l e R s m args below meth c H2 locs2 _ _ Q D dt b N M (pc + 3) a0 s0 ls L (v.toList ++ S') H1 AHf rv hM h hC hsz ⟨hl, hP2, hS2, by omega, by omega⟩ hR1 hR2 hcf hsf hfin
              have hf : cells + (H1.length - AH.length) ≤ R.cells ∧ slots + (m_sl H1 - m_sl AH) ≤ R.slots := by omega
              have hrest : 2 * (F0 m pc ls (S.map (m_v (m_ad b N)))).monitorRoom + ((S'.map (m_v (m_ad b N))).map fun v => v.category).sum ≤ 8 := by
                show 2 * 0 + _ ≤ 8
                rw [m_cat_v]
                omega
              have hfix : CallFix p m c (m_by M) (m_nL M) s args m_gw (m_nm M).cls := ⟨hx, hb, hml, hown, hts⟩
              have callee : ∀ k : Nat, m_okC M k x y w = true → x < 102 ∧ m_fr x + 1 ≤ R.frames ∧ 8 + (m_nL x + 11) + m_lo x ≤ R.locals ∧ ((w = 1 ∧ Cond.methodLink (m_nm M).cls k (m_nm x) ∈ m_gw) ∨ (w = 2 ∧ Cond.methodLinkNest (m_nm M).cls k (m_nm x) "ParallaxSheets" ∈ m_nest)) := by
                intro k hk
                simp only [m_okC, Bool.and_eq_true, decide_eq_true_eq] at hk
                obtain ⟨⟨⟨h1, h2⟩, h3⟩, h4⟩ := hk
                refine ⟨h4, by omega, by omega, ?_⟩
                split at h1
                · next hw1 => exact Or.inl ⟨hw1, m_wp_in h1⟩
                · simp only [Bool.and_eq_true, decide_eq_true_eq] at h1
                  obtain ⟨hw2, h1⟩ := h1
                  obtain ⟨u, hu, he⟩ := List.any_eq_true.mp h1
                  have := of_decide_eq_true he
                  subst this
                  exact Or.inr ⟨hw2, hu⟩
              cases i
              case invokevirtual k =>
                dsimp only at hlk
                simp only [Bool.and_eq_true, decide_eq_true_eq] at hlk
                obtain ⟨⟨⟨hw1, hk⟩, hst⟩, hni⟩ := hlk
                obtain ⟨hx102, hrf, hrl, hlink⟩ := callee k hk
                have hok := hokM x hx102
                obtain ⟨c1, c2, c3, c4, -⟩ := m_okM_code hok
                obtain ⟨d1, ⟨rr, hrr, hrc⟩, d3⟩ := m_okM_inst hok hst
                have hlink : Cond.methodLink (m_nm M).cls k (m_nm x) ∈ m_gw := by
                  rcases hlink with h | h
                  · exact h.2
                  · omega
                have hsel : Cond.selects (m_nm x).cls (m_nm x) (m_nm x) ∈ m_gw := by
                  rcases d3 with h | h
                  · exact absurd h hni
                  · exact h
                rcases hcase with ⟨hs1, -, -⟩ | ⟨-, r, As, fs, rfl, rfl, hlen, hg⟩
                · rw [hst] at hs1; cases hs1
                · obtain ⟨k0, hr0, hk0, hat, -⟩ := m_at (b := b) (N := N) (dt := dt) hg
                  have hcell := va_recv hK.1 hP hrr hat
                  rw [hrc] at hcell
                  refine m_call (va_runV (As := As.map (m_v (m_ad b N))) (rest := S'.map (m_v (m_ad b N))) (C := (m_nm x).cls) (n := m_na x) hfix (m_met ih (l := l) (D := D) (dt := dt) (b := b) (N := N) hx102 hok hcat hcall)
                    ⟨⟨rfl, rfl, hrf, hrl, m_pay hts c1, List.mem_cons_self, hts _ c1, hts _ c2, c3, m_hlen (x := x) c4, hts _ hlink⟩, hts _ d1, hts _ hsel⟩
                    ⟨m_blind D dt b N scr _ AH, hcell, hpre _⟩ rfl (by rw [List.length_map]; exact hlen) hl.1 ?_ hrest hdec hf) hS go_on
                  show List.map _ _ = _
                  rw [List.map_append, List.map_reverse]; rfl
              case invokestatic k =>
                dsimp only at hlk
                rw [if_neg (by omega), if_neg (by omega), if_neg (by omega), if_neg (by omega)] at hlk
                simp only [Bool.and_eq_true, decide_eq_true_eq] at hlk
                obtain ⟨⟨hw1, hk⟩, hst⟩ := hlk
                obtain ⟨hx102, hrf, hrl, hlink⟩ := callee k hk
                have hok := hokM x hx102
                obtain ⟨c1, c2, c3, c4, -⟩ := m_okM_code hok
                have d1 := m_okM_stat hok hst
                have hlink : Cond.methodLink (m_nm M).cls k (m_nm x) ∈ m_gw := by
                  rcases hlink with h | h
                  · exact h.2
                  · omega
                rcases hcase with ⟨-, rfl, hlen⟩ | ⟨hs1, -⟩
                · refine m_call (va_runS (As := as.map (m_v (m_ad b N))) (rest := S'.map (m_v (m_ad b N))) (n := m_na x) hfix (m_met ih (l := l) (D := D) (dt := dt) (b := b) (N := N) hx102 hok hcat hcall)
                    ⟨⟨rfl, rfl, hrf, hrl, m_pay hts c1, List.mem_cons_self, hts _ c1, hts _ c2, c3, m_hlen (x := x) c4, hts _ hlink⟩, hts _ d1⟩
                    ⟨m_blind D dt b N scr _ AH, hpre _⟩ rfl (by rw [List.length_map]; exact hlen) hl.1 ?_ hrest hdec hf) hS go_on
                  show List.map _ _ = _
                  rw [List.map_append, List.map_reverse]
                · rw [hst] at hs1; cases hs1
              case invokespecial k =>
                dsimp only at hlk
                rw [if_neg (by omega)] at hlk
                simp only [Bool.and_eq_true, decide_eq_true_eq] at hlk
                obtain ⟨⟨⟨hk, hst⟩, hinit⟩, hrt⟩ := hlk
                obtain ⟨hx102, hrf, hrl, hlink⟩ := callee k hk
                have hok := hokM x hx102
                obtain ⟨c1, c2, c3, c4, -⟩ := m_okM_code hok
                obtain ⟨d1, -, -⟩ := m_okM_inst hok hst
                have hM1 := m_met ih (l := l) (D := D) (dt := dt) (b := b) (N := N) hx102 hok hcat hcall
                rcases hcase with ⟨hs1, -, -⟩ | ⟨-, r, As, fs, rfl, rfl, hlen, hg⟩
                · rw [hst] at hs1; cases hs1
                · have hstk : (F0 m pc ls ((As.reverse ++ Value.ref r :: S').map (m_v (m_ad b N)))).stack = (As.map (m_v (m_ad b N))).reverse ++ Value.ref (m_ad b N r) :: S'.map (m_v (m_ad b N)) := by
                    show List.map _ _ = _
                    rw [List.map_append, List.map_reverse]; rfl
                  have hcode1 : (Cond.code (m_nm x) (m_by x) (m_nL x) none).before args s = true := by rw [← hrt]; exact hts _ c1
                  have hmem1 : Cond.code (m_nm x) (m_by x) (m_nL x) none ∈ m_ws0 x := by rw [← hrt]; exact List.mem_cons_self
                  rcases hlink with ⟨-, hlink⟩ | ⟨-, hlink⟩
                  · exact m_call (va_runI (bytes := m_by x) (maxL := m_nL x) (As := As.map (m_v (m_ad b N))) (rest := S'.map (m_v (m_ad b N))) (n := m_na x) hfix hM1
                      ⟨⟨rfl, rfl, hrf, hrl, m_pay hts c1, hmem1, hcode1, hts _ c2, c3, m_hlen (x := x) c4, hts _ hlink⟩, hinit, hts _ d1⟩
                      ⟨m_blind D dt b N scr _ AH, hpre _⟩ rfl (by rw [List.length_map]; exact hlen) hl.1 hstk hrest hdec hf) hS go_on
                  · exact m_call (va_runIN (bytes := m_by x) (maxL := m_nL x) (host := "ParallaxSheets") (As := As.map (m_v (m_ad b N))) (rest := S'.map (m_v (m_ad b N))) (n := m_na x) hfix hM1
                      ⟨⟨⟨rfl, rfl, hrf, hrl, m_pay hts c1, hmem1⟩, hcode1, hts _ c2, c3, m_hlen (x := x) c4, va_Nw.use rfl (hK.2.1 _ hlink)⟩, hinit, hts _ d1⟩
                      ⟨m_blind D dt b N scr _ AH, hpre _⟩ rfl (by rw [List.length_map]; exact hlen) hl.1 hstk hrest hdec hf) hS go_on
              all_goals exact absurd hw.2 Bool.false_ne_true
            · cases h
          · cases h
        · cases h
      · split at h
        · next rv1 hrts =>
          split at h
          · next hrok =>
            cases h
            unfold m_okE at hE
            obtain ⟨hdec0, hlk⟩ := Bool.and_eq_true_iff.mp hE
            exact hfin i pc L S ls H locs cells slots z (of_decide_eq_true hdec0) hrts hrok hA
          · cases h
        · split at h
          · next pc' L' S' H' hex =>
            obtain ⟨hm3, hm4⟩ := m_go_mono scr n h
            refine m_one hC hsz hE hex hA hR1 hR2 (by omega) (by omega) (fun ls' H2 locs' cells' slots' hA' => ?_)
            exact ih p l e R s m args below meth c H2 locs' cells' slots' Q D dt b N M pc' a0 s0 ls' L' S' H' AHf rv hM h hC hsz hA' hR1 hR2 hcf hsf hfin
          · cases h
end MSN
end
section
-- ===== end of PART A; then your names; then what follows =====
/-! THE CLAIM OUT OF ONE WALK OF THE LAW'S BODY. Your part is whole_start (and what it stands on); all else here is the same for every law, but numbers. -/
def R_law : String := "ParallaxSheetsLaw"
def lw_P (b : Addr) (xs : List Int32) (args : Array Value) (s : State) : Prop := args = #[.ref b] ∧ s.IntsAt b xs ∧ xs.length ≤ 260 ∧ (Jvm.Cond.and given_1 narrow_1).before args s = true
/-- what a walk over the start with the record d0 says of its end, said of the start itself -/
theorem lw_closed {s t : State} {o : Outcome} {d0 : Drawn} {L : List Loc} {k n : Nat} (hd0 : s.drawn.sameBut d0 lw_cs) (hv : ∃ v, o = .returned v) (hW : (s.setDrawn d0).WarmedH t.vm) (hs : (s.setDrawn d0).sameButNew ({ t with vm := s.vm } : State) L k n) : State.butDraws s t lw_cs (fun t1 => Framed s o t1 L k n) := by
  have h2 : t.drawn = d0 := congrArg State.drawn hs.1
  refine ⟨⟨hv, hW, State.sameButNew.setDrawn hs s.drawn⟩, ?_, by decide⟩
  rw [h2]
  exact hd0
def lw_Q (_ : Array Value) (s : State) (o : Outcome) (t : State) : Prop := o = .returned (some (.int 1)) ∧ State.butDraws s t lw_cs (fun t1 => Framed s o t1 [] 600074 7301550)
def lw_Z (below : List Frame) (a : Array Value) (s : State) : State → Prop := fun t => ∃ o, t.status = .running ∧ Ended t below o ∧ lw_Q a s o t
/-- the law's own end, with 1 on the stack, nothing written that was there before, its room as the claim has it; d0: the record of draws at this point (at the entry s.drawn: begin with 'refine W.base ?_' and 'have hd0 := Drawn.sameBut.refl s.drawn lw_cs') -/
theorem lw_ret {p : Program} {l : Launch} {e : Env} {s : State} {m : MethodId} {below : List Frame} {meth : Method} {c : Code} {b : Nat} {d0 : Drawn} (hd0 : s.drawn.sameBut d0 lw_cs) (hx : p.tables.exec = Jvm.exec) (hb : c.code = code) (hr : meth.sig.returnType = ret) (hlocks : meth.locks = false) {pc : Nat} {H : Heap} {ls : Array Slot} (hdg : decode code pc = .ok (.ireturn, 1)) : W p l e room_1 (s.setDrawn d0) m #[Value.ref b] below meth c H [] 600074 7301550 (lw_Z below #[Value.ref b] s) (F0 m pc ls [.int 1]) := by
  intro T hT X
  obtain ⟨fs, hret, hrun, hended, hW, hframe⟩ := X.leave (v := some (.int 1)) (hlocks := hlocks) (fun h => by rw [hr] at h; cases h)
  have hmeth' : T.vm.method? m = some meth := X.method'
  refine ⟨T.setFrames fs, ?_, .returned (some (.int 1)), hrun, hended, rfl, lw_closed hd0 ⟨_, rfl⟩ hW hframe⟩
  jvm_step X.here [X.here.top, hx, hb, hdg, hmeth', hr, ret, narrow_b1]
  (try refine ⟨rfl, ?_⟩); (try refine ⟨rfl, ?_⟩)
  first | (intro acts; rw [hret _ acts rfl rfl rfl]) | rw [hret _ _ rfl rfl rfl]
  exact Steps.refl _
/-- what holds at the law's entry: the machine, the code, the tables' words (any of lw_tbl by 'hts w (by decide +kernel)'), the script of L ints xs at the cell b, what the Statement gives of the start (any of its parts by flat_of_before) -/
def lw_At (p : Program) (s : State) (m : MethodId) (meth : Method) (c : Code) (b L : Nat) (xs : Nat → Int32) : Prop :=
  p.tables.exec = Jvm.exec ∧ c.code = code ∧ meth.sig.returnType = ret ∧ c.maxLocals = 13 ∧ s.vm.findClass R_law = some m.cls ∧ (∀ w ∈ lw_tbl, w.before #[Value.ref b] s = true) ∧ va_X b L xs s s.heap ∧ b < s.heap.size ∧ meth.locks = false ∧ (Jvm.Cond.and given_1 narrow_1).before #[Value.ref b] s = true

/-! the law's start: what the tables say of the classes, and the run -/
theorem m_arrOf {s : State} {cA : ClassId} {kA : Class} {comp : ClassId} {ty : FieldType} (h2 : s.vm.classes[cA]? = some kA) (h3 : kA.kind = .array comp ty) : ArrOfT s cA ty := fun n z => ⟨fun k h => (by cases h), kA, h2, comp, h3⟩
set_option maxRecDepth 100000 in
theorem m_w_arr : m_wp 81 (.arrayClass .int) = true ∧ m_wp 154 (.arrayClass .boolean) = true := by decide +kernel
set_option maxRecDepth 100000 in
theorem m_w_over : lw_tbl[54]? = some (.arrayOver (.object "ParallaxSheets$Sheet")) := by decide +kernel
set_option maxRecDepth 100000 in
theorem m_w_nest : m_nest.all (fun u => decide (u ∈ lw_tbl)) = true := by decide +kernel
set_option maxRecDepth 100000 in
theorem m_w_cls : m_wp (m_cpl.getD 0 (0, 0, [])).1 (.instantiable RX0 5) = true ∧ m_wp (m_cpl.getD 1 (0, 0, [])).1 (.instantiable RX1 8) = true ∧ m_wp (m_cpl.getD 2 (0, 0, [])).1 (.instantiable RX2 4) = true ∧ m_wp (m_cpl.getD 3 (0, 0, [])).1 (.instantiable RX3 3) = true ∧ m_wp (m_cpl.getD 4 (0, 0, [])).1 (.instantiable RX4 3) = true ∧ m_wp (m_cpl.getD 5 (0, 0, [])).1 (.instantiable RX5 6) = true := by decide +kernel
theorem m_known {s : State} {args : Array Value} (hts : ∀ w ∈ lw_tbl, w.before args s = true) : ∃ (D : va_G) (dt : Nat → ClassId), m_Kn D dt s := by
  have hg : ∀ w ∈ m_gw, w.before args s = true := fun w hw => hts w (List.mem_filter.mp hw).1
  obtain ⟨w0, w1, w2, w3, w4, w5⟩ := m_w_cls
  obtain ⟨c0, i0, k0⟩ := u_known hg m_clok0.1 (hg _ (m_wp_in w0))
  obtain ⟨c1, i1, k1⟩ := u_known hg m_clok1.1 (hg _ (m_wp_in w1))
  obtain ⟨c2, i2, k2⟩ := u_known hg m_clok2.1 (hg _ (m_wp_in w2))
  obtain ⟨c3, i3, k3⟩ := u_known hg m_clok3.1 (hg _ (m_wp_in w3))
  obtain ⟨c4, i4, k4⟩ := u_known hg m_clok4.1 (hg _ (m_wp_in w4))
  obtain ⟨c5, i5, k5⟩ := u_known hg m_clok5.1 (hg _ (m_wp_in w5))
  obtain ⟨a0, ka0, q0, f0, g0, h0⟩ := Cond.arrayClass_spec (hg _ (m_wp_in m_w_arr.1))
  obtain ⟨a1, ka1, q1, f1, g1, h1⟩ := Cond.arrayClass_spec (hg _ (m_wp_in m_w_arr.2))
  have hov := hts _ (List.mem_of_getElem? m_w_over)
  have hao : va_AO "ParallaxSheets$Sheet" s := va_AO.of hov
  obtain ⟨q2, a2, ka2, e1, e2, g2, h2, f2⟩ := Cond.arrayOver_spec hov
  refine ⟨(fun ci => match ci with | 0 => c0 | 1 => c1 | 2 => c2 | 3 => c3 | 4 => c4 | _ => c5, fun ci => match ci with | 0 => i0 | 1 => i1 | 2 => i2 | 3 => i3 | 4 => i4 | _ => i5), fun t => match t with | 0 => a0 | 1 => a1 | _ => a2, ⟨fun c q hq => ?_, fun k q hk => ?_⟩, fun u hu => ?_, hao⟩
  · match c, hq with
    | 0, hq => cases hq; exact k0
    | 1, hq => cases hq; exact k1
    | 2, hq => cases hq; exact k2
    | 3, hq => cases hq; exact k3
    | 4, hq => cases hq; exact k4
    | 5, hq => cases hq; exact k5
    | n + 6, hq => cases hq
  · match k, hk with
    | 0, hk => cases hk; exact ⟨m_arrOf g0 h0, f0⟩
    | 1, hk => cases hk; exact ⟨m_arrOf g1 h1, f1⟩
    | 2, hk => cases hk; exact ⟨m_arrOf g2 h2, ka2, q2, g2, h2, e1, f2⟩
    | n + 3, hk => cases hk
  · have hm : u ∈ lw_tbl := of_decide_eq_true (List.all_eq_true.mp m_w_nest u hu)
    obtain ⟨a, i, x, h, rfl⟩ := m_nest_form u hu
    exact va_Nw.of rfl (hts _ hm)
/-- the law's whole run over the data: on every script it answers 1, within the room -/
def m_Law (scr : List Int32) : Prop := ∃ (n : Nat) (AHf : List mC), m_go scr n 102 0 [(0, .ref 0)] [] [] = some (some (.int 1), AHf) ∧ AHf.length ≤ 600074 ∧ m_sl AHf ≤ 7301550
set_option maxHeartbeats 4000000 in
theorem m_start (hlaw : ∀ scr : List Int32, scr.length ≤ 260 → m_Law scr) {p : Program} {e : Env} {s : State} {m : MethodId} {below : List Frame} {meth : Method} {c : Code} (l : Launch) {b L : Nat} {xs : Nat → Int32} (hL : L ≤ 260) (C0 : lw_At p s m meth c b L xs) :
    W p l e room_1 s m #[Value.ref b] below meth c s.heap [] 0 0 (lw_Z below #[Value.ref b] s) (entryFrame m ([Value.ref b] : List Value).toArray 13) := by
  obtain ⟨hx, hb, hr, hml, hown, hts, hX, hbl, hlocks, hgv⟩ := C0
  obtain ⟨D, dt, hK⟩ := m_known hts
  obtain ⟨n, AHf, hgo, hc1, hs1⟩ := hlaw ((List.range L).map xs) (by simpa using hL)
  have hX2 : va_X b ((List.range L).map xs).length (fun j => ((List.range L).map xs).getD j 0) s s.heap := by
    obtain ⟨scr, h1, h2, h3, h4, h5⟩ := hX
    refine ⟨scr, h1, h2, h3, by simpa using h4, fun j hj => ?_⟩
    have hj2 : j < L := by simpa using hj
    rw [h5 j hj2]
    show some (Value.int (xs j)) = some (Value.int (List.getD _ _ _))
    rw [List.getD_eq_getElem?_getD, List.getElem?_map, List.getElem?_range hj2]
    rfl
  rw [lg_entry_eq]
  have hl := lv_entry ([.ref b]) (n := 13) (Nat.le_of_ble_eq_true rfl)
  generalize (lg_sl ([.ref b]) ++ List.replicate (13 - (lg_sl ([.ref b])).length) Slot.unset).toArray = ls at hl ⊢
  refine m_snd m_okAll m_okmAll ((List.range L).map xs) n p l e room_1 s m #[Value.ref b] below meth c s.heap [] 0 0 _ D dt b s.heap.size 102 0 0 0 ls [(0, .ref 0)] [] [] AHf _ (by omega) hgo
    ⟨hx, hb, hml, fun w hw => hts w (List.mem_filter.mp hw).1, hown, fun h => absurd h (by decide +kernel), hK, hX2, hbl, Nat.le_refl _⟩ rfl ⟨hl, fun k q hk => (by cases hk), va_S.rf, rfl, rfl⟩
    (by decide +kernel) (by decide +kernel) (show AHf.length ≤ 600074 + 0 from hc1) (show m_sl AHf ≤ 7301550 + 0 from hs1) ?_
  intro i pc' L1 S1 ls' H' locs' cells' slots' z hdec hrts hrok hAt
  obtain ⟨hl', hP', hS', hc', hs'⟩ := hAt
  have hf2 : ∀ q ∈ locs', s.heap.size ≤ q.base := hS'.2.2
  refine va_forget hf2 ?_
  refine W.widen (k := 600074) (n := 7301550) (by omega) (by omega) ?_
  refine W.base ?_
  unfold m_rts at hrts
  split at hrts
  · cases hrts
    exact lw_ret (Drawn.sameBut.refl s.drawn lw_cs) hx hb hr hlocks hdec
  all_goals cases hrts
end
section
theorem m_law (scr : List Int32) (h : scr.length ≤ 260) : m_Law scr := by
  sorry
theorem whole_start {p : Program} {e : Env} {s : State} {m : MethodId} {below : List Frame} {meth : Method} {c : Code} (l : Launch) (hflags : l.flags = flags0) {b L : Nat} {xs : Nat → Int32} (hL : L ≤ 260) (C0 : lw_At p s m meth c b L xs) : W p l e room_1 s m #[Value.ref b] below meth c s.heap [] 0 0 (lw_Z below #[Value.ref b] s) (entryFrame m ([Value.ref b] : List Value).toArray 13) := m_start m_law l hL C0
-- ===== YOUR PART ENDS =====
set_option maxHeartbeats 4000000 in
theorem lw_walk (l : Launch) (hflags : l.flags = flags0) (b : Addr) (xs : List Int32) : MetFree l x (headSpec (Jvm.Cond.code x code maxLocals ret :: tables_1) room_1) (lw_P b xs) (fun _ _ _ _ _ => True) lw_Q := by
  refine MetFree.of_bodyS (code := code) (maxLocals := maxLocals) (ret := ret) (by decide) ?_ ?_
  · intro args s m h hn
    obtain ⟨meth, c, h1, h2, h3, h4, h5, h6, -, -⟩ := Cond.code_spec hn (atoms_spec (ws := Jvm.Cond.code x code maxLocals ret :: tables_1) h _ List.mem_cons_self)
    exact ⟨meth, c, h1, h2, h3, h4, h5, h6⟩
  · intro p e s m args below meth c s₁ B hml0 hP _
    obtain ⟨rfl, hx, hbd, hgv⟩ := hP
    obtain ⟨scr, harrAt, hlist, hof, hsmall⟩ := hx
    obtain ⟨hcb, hkn, -, -⟩ := State.arrayAt?_spec harrAt
    have hown : s.vm.findClass R_law = some m.cls := findClass_of_methodNamed B.named
    have hts0 : ∀ c ∈ (Jvm.Cond.code x code maxLocals ret :: tables_1), c.before #[Value.ref b] s = true := atoms_spec (ws := Jvm.Cond.code x code maxLocals ret :: tables_1) B.pre
    have hts : ∀ w ∈ lw_tbl, w.before #[Value.ref b] s = true := k2_hts_sels lw_privs (fun w hw => hts0 w (List.mem_cons_of_mem _ hw)) lw_privs_ok
    have hml : c.maxLocals = 13 := B.maxLocals_eq (hts0 _ List.mem_cons_self)
    have X₀ : Stand p l e room_1 s m #[Value.ref b] below meth c s₁ [] 0 0 := Stand.of_body B
    have hh0 : s₁.heap = s.heap := by rw [B.state]; rfl
    have hsz : scr.slots.size = xs.length := by rw [← Array.length_toList, hlist, List.length_map]
    have hval : ∀ j : Nat, j < xs.length → scr.slots[j]? = some (.int (xs.getD j 0)) := fun j hj => by
      rw [← Array.getElem?_toList, hlist]
      simp [hj]
    have hbl : b < s.heap.size := (Array.getElem?_eq_some_iff.mp hcb).1
    have hX : va_X b xs.length (fun j => xs.getD j 0) s s.heap := ⟨scr, hcb, hof, hkn, hsz, hval⟩
    have K : W p l e room_1 s m #[Value.ref b] below meth c s₁.heap [] 0 0 (lw_Z below #[Value.ref b] s) (entryFrame m ([Value.ref b] : List Value).toArray 13) := by
      rw [hh0]
      exact whole_start l hflags hbd ⟨B.exec, B.bytes, B.returns, hml, hown, hts, hX, hbl, B.notSynchronized, hgv⟩
    obtain ⟨t, a1, o, b1, b2, b3⟩ := K s₁ rfl X₀
    exact ⟨t, o, a1, b1, b2, b3⟩
theorem lw_pre_spec {args : Array Value} {s : State} (h : (Jvm.Cond.and given_1 narrow_1).before args s = true) (hr : rest_1_c.before args s = true) : ∃ (b : Addr) (xs : List Int32), lw_P b xs args s := by
  have hs := flat_of_before _ h
  have hq := flat_of_before _ hr
  have hc : (Cond.count 1).before args s = true := hs _ (by decide +kernel)
  have harr : (Cond.arrayOf (.arg 0) .int).before args s = true := hs _ (by decide +kernel)
  have hle : (Cond.le (.length (.arg 0)) (.int 260)).before args s = true := hs _ (by decide +kernel)
  have hlen : (Cond.isInt (.length (.arg 0))).before args s = true := hq _ (by decide +kernel)
  have hall : (Cond.all (.arg 0) (.isInt (.elem (.arg 0) (.index 0)))).before args s = true := hq _ (by decide +kernel)
  obtain ⟨b, xs, hb, hx⟩ := State.ints_of_pre rfl harr hlen hall
  have hsm : xs.length < 2 ^ 31 := hx.choose_spec.2.2.2
  have hev : (Term.length (.arg 0)).eval args s none [] s = some (.int xs.length.toInt32) := hx.length_eval hb
  have hv := Cond.le_ints hev (show (Term.int 260).eval args s none [] s = some (.int 260) from rfl)
  have hd : xs.length.toInt32 ≤ 260 := by
    simpa [Cond.before, Cond.holds, hv] using hle
  have hN : xs.length ≤ 260 := (Int32.ofNat_le_ofNat hsm (by decide)).mp (show Int32.ofNat xs.length ≤ Int32.ofNat 260 from hd)
  exact ⟨b, xs, Cond.one_arg hc (show args[0]? = some (.ref b) from hb), hx, hN, h⟩
theorem lw_comes (l : Launch) (hflags : l.flags = flags0) : Comes l x (Jvm.Cond.code x code maxLocals ret :: tables_1) room_1 (fun tb e args s => Calls_1 tb e args s ∧ rest_1 tb e args s ∧ Pre_1 tb e args s)
    (fun _ _ args s o t => lw_Q args s o t) := by
  intro p e ha hc hk s m args below hf hfit hheap happ hpre
  obtain ⟨b, xs, hP⟩ := lw_pre_spec hpre.2.2 hpre.2.1
  obtain ⟨k, o, h1, h2, h3, hQ⟩ := lw_walk l hflags b xs p e ha hc hk s m args below hf ((Spec.applies_iff_loose hf).mp happ).1 hP trivial
  exact ⟨k, o, h1, h2, h3, hQ⟩
theorem lw_frame {s t : State} {o : Outcome} {args : Array Value} (h : State.butDraws s t lw_cs (fun t1 => Framed s o t1 [] 600074 7301550)) :
    State.butDraws s t [Jvm.Choice.named "NaN.bits"] (fun t1 => Framed s o t1 (fieldLocs frame_1_writes args s ++ arrayLocs frame_1_arrays args s ++ staticLocs frame_1_statics s) 600074 7301550) := h
theorem lw_limb (L : Cond) (hL : ∀ (args : Array Value) (s t : State), L.after args s (.returned (some (.int 1))) t = true) :
    ArmFor flags0 classFile x code maxLocals ret World_1 tables_1 room_1 Calls_1 rest_1 Pre_1
      (fun tb e a s o t => postC L tb e a s o t ∧ State.butDraws s t [Jvm.Choice.named "NaN.bits"] (fun t1 => Framed s o t1 (fieldLocs frame_1_writes a s ++ arrayLocs frame_1_arrays a s ++ staticLocs frame_1_statics s) 600074 7301550)) := by
  intro l hflags _ _ p e ha hc hk s m args below hf hfit hheap happ hpre
  obtain ⟨k, o, h1, h2, h3, rfl, hF⟩ := lw_comes l hflags p e ha hc hk s m args below hf hfit hheap happ hpre
  exact ⟨k, _, h1, h2, h3, hL args s _, lw_frame hF⟩
theorem i_vc : Claimed_1_1 ∧ Claimed_1_2 := ⟨lw_limb limb_1_1 (fun args s t => by simp [limb_1_1, Cond.after, Cond.holds, Cond.value]), lw_limb limb_1_2 (fun args s t => Cond.after_iff.mpr (by
  first | (rw [show limb_1_2 = Cond.eq .result (.int 1) from rfl, Cond.eq_ints (x := 1) (y := 1) rfl rfl]; simp; done) | (simp [limb_1_2, Cond.value, Term.eval]; done)))⟩
end
