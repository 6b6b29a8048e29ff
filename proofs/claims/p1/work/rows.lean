section
-- ===== PART A: goes FIRST, ahead of the names: the tables' words, and 'selects' of the private methods out of them =====
/-- a private method of a class that the tables say can be made, by its rows of tables_1 -/
def lw_okq (q : MethodName × Nat) : Prop := (q.1.cls ≠ "java/lang/invoke/MethodHandle" ∧ q.1.cls ≠ "java/lang/invoke/VarHandle") ∧ Cond.instantiable q.1.cls q.2 ∈ tables_1 ∧ Cond.privateMethod q.1 ∈ tables_1 ∧ Cond.instanceMethod q.1 ∈ tables_1
theorem lw_p0 : lw_okq (⟨"ParallaxSheets", "digestFacts", "(JLParallaxSheets$Sheet;)J"⟩, 6) := ⟨⟨by decide +kernel, by decide +kernel⟩, List.mem_of_getElem? (i := 28) (by decide +kernel), List.mem_of_getElem? (i := 189) (by decide +kernel), List.mem_of_getElem? (i := 190) (by decide +kernel)⟩
theorem lw_p1 : lw_okq (⟨"ParallaxSheets", "factOf", "(LParallaxSheets$Sheet;I)I"⟩, 6) := ⟨⟨by decide +kernel, by decide +kernel⟩, List.mem_of_getElem? (i := 28) (by decide +kernel), List.mem_of_getElem? (i := 193) (by decide +kernel), List.mem_of_getElem? (i := 194) (by decide +kernel)⟩
theorem lw_p2 : lw_okq (⟨"ParallaxSheets", "partsFrom", "(LParallaxSheets$Sheet;II)I"⟩, 6) := ⟨⟨by decide +kernel, by decide +kernel⟩, List.mem_of_getElem? (i := 28) (by decide +kernel), List.mem_of_getElem? (i := 231) (by decide +kernel), List.mem_of_getElem? (i := 232) (by decide +kernel)⟩
theorem lw_p3 : lw_okq (⟨"ParallaxSheets$Parts", "markMembers", "(LParallaxSheets$Sheet;IZ)V"⟩, 8) := ⟨⟨by decide +kernel, by decide +kernel⟩, List.mem_of_getElem? (i := 108) (by decide +kernel), List.mem_of_getElem? (i := 239) (by decide +kernel), List.mem_of_getElem? (i := 240) (by decide +kernel)⟩
theorem lw_p4 : lw_okq (⟨"ParallaxSheets$Parts", "gather", "(III)V"⟩, 8) := ⟨⟨by decide +kernel, by decide +kernel⟩, List.mem_of_getElem? (i := 108) (by decide +kernel), List.mem_of_getElem? (i := 247) (by decide +kernel), List.mem_of_getElem? (i := 248) (by decide +kernel)⟩
theorem lw_p5 : lw_okq (⟨"ParallaxSheets$Parts", "join", "(II)V"⟩, 8) := ⟨⟨by decide +kernel, by decide +kernel⟩, List.mem_of_getElem? (i := 108) (by decide +kernel), List.mem_of_getElem? (i := 251) (by decide +kernel), List.mem_of_getElem? (i := 252) (by decide +kernel)⟩
theorem lw_p6 : lw_okq (⟨"ParallaxSheets$Parts", "joinNeighbours", "(III)V"⟩, 8) := ⟨⟨by decide +kernel, by decide +kernel⟩, List.mem_of_getElem? (i := 108) (by decide +kernel), List.mem_of_getElem? (i := 255) (by decide +kernel), List.mem_of_getElem? (i := 256) (by decide +kernel)⟩
theorem lw_p7 : lw_okq (⟨"ParallaxSheets", "holesOf", "(LParallaxSheets$Sheet;I)I"⟩, 6) := ⟨⟨by decide +kernel, by decide +kernel⟩, List.mem_of_getElem? (i := 28) (by decide +kernel), List.mem_of_getElem? (i := 259) (by decide +kernel), List.mem_of_getElem? (i := 260) (by decide +kernel)⟩
theorem lw_p8 : lw_okq (⟨"ParallaxSheets", "digestSeams", "(JLParallaxSheets$Sheet;)J"⟩, 6) := ⟨⟨by decide +kernel, by decide +kernel⟩, List.mem_of_getElem? (i := 28) (by decide +kernel), List.mem_of_getElem? (i := 267) (by decide +kernel), List.mem_of_getElem? (i := 268) (by decide +kernel)⟩
theorem lw_p9 : lw_okq (⟨"ParallaxSheets$Seams", "leastAbove", "(III)I"⟩, 4) := ⟨⟨by decide +kernel, by decide +kernel⟩, List.mem_of_getElem? (i := 142) (by decide +kernel), List.mem_of_getElem? (i := 291) (by decide +kernel), List.mem_of_getElem? (i := 292) (by decide +kernel)⟩
theorem lw_p10 : lw_okq (⟨"ParallaxSheets$Seams", "bestColumn", "(IIII)I"⟩, 4) := ⟨⟨by decide +kernel, by decide +kernel⟩, List.mem_of_getElem? (i := 142) (by decide +kernel), List.mem_of_getElem? (i := 295) (by decide +kernel), List.mem_of_getElem? (i := 296) (by decide +kernel)⟩
theorem lw_p11 : lw_okq (⟨"ParallaxSheets", "costOfCarving", "(LParallaxSheets$Sheet;I)I"⟩, 6) := ⟨⟨by decide +kernel, by decide +kernel⟩, List.mem_of_getElem? (i := 28) (by decide +kernel), List.mem_of_getElem? (i := 301) (by decide +kernel), List.mem_of_getElem? (i := 302) (by decide +kernel)⟩
theorem lw_p12 : lw_okq (⟨"ParallaxSheets", "sheetAt", "(I)LParallaxSheets$Sheet;"⟩, 6) := ⟨⟨by decide +kernel, by decide +kernel⟩, List.mem_of_getElem? (i := 28) (by decide +kernel), List.mem_of_getElem? (i := 355) (by decide +kernel), List.mem_of_getElem? (i := 356) (by decide +kernel)⟩
theorem lw_p13 : lw_okq (⟨"java/lang/Throwable", "fillInStackTrace", "(I)Ljava/lang/Throwable;"⟩, 6) := ⟨⟨by decide +kernel, by decide +kernel⟩, List.mem_of_getElem? (i := 397) (by decide +kernel), List.mem_of_getElem? (i := 395) (by decide +kernel), List.mem_of_getElem? (i := 396) (by decide +kernel)⟩
theorem lw_p14 : lw_okq (⟨"ParallaxSheets", "changeToNext", "(LParallaxSheets$Sheet;)I"⟩, 6) := ⟨⟨by decide +kernel, by decide +kernel⟩, List.mem_of_getElem? (i := 28) (by decide +kernel), List.mem_of_getElem? (i := 475) (by decide +kernel), List.mem_of_getElem? (i := 476) (by decide +kernel)⟩
theorem lw_p15 : lw_okq (⟨"ParallaxSheets$Filters", "pass", "(LParallaxSheets$Sheet;LParallaxSheets$Sheet;I)V"⟩, 5) := ⟨⟨by decide +kernel, by decide +kernel⟩, List.mem_of_getElem? (i := 65) (by decide +kernel), List.mem_of_getElem? (i := 576) (by decide +kernel), List.mem_of_getElem? (i := 577) (by decide +kernel)⟩
def lw_privs_1 : List (MethodName × Nat) := [(⟨"ParallaxSheets", "digestFacts", "(JLParallaxSheets$Sheet;)J"⟩, 6), (⟨"ParallaxSheets", "factOf", "(LParallaxSheets$Sheet;I)I"⟩, 6), (⟨"ParallaxSheets", "partsFrom", "(LParallaxSheets$Sheet;II)I"⟩, 6), (⟨"ParallaxSheets$Parts", "markMembers", "(LParallaxSheets$Sheet;IZ)V"⟩, 8), (⟨"ParallaxSheets$Parts", "gather", "(III)V"⟩, 8), (⟨"ParallaxSheets$Parts", "join", "(II)V"⟩, 8), (⟨"ParallaxSheets$Parts", "joinNeighbours", "(III)V"⟩, 8), (⟨"ParallaxSheets", "holesOf", "(LParallaxSheets$Sheet;I)I"⟩, 6), (⟨"ParallaxSheets", "digestSeams", "(JLParallaxSheets$Sheet;)J"⟩, 6), (⟨"ParallaxSheets$Seams", "leastAbove", "(III)I"⟩, 4), (⟨"ParallaxSheets$Seams", "bestColumn", "(IIII)I"⟩, 4), (⟨"ParallaxSheets", "costOfCarving", "(LParallaxSheets$Sheet;I)I"⟩, 6), (⟨"ParallaxSheets", "sheetAt", "(I)LParallaxSheets$Sheet;"⟩, 6), (⟨"java/lang/Throwable", "fillInStackTrace", "(I)Ljava/lang/Throwable;"⟩, 6), (⟨"ParallaxSheets", "changeToNext", "(LParallaxSheets$Sheet;)I"⟩, 6), (⟨"ParallaxSheets$Filters", "pass", "(LParallaxSheets$Sheet;LParallaxSheets$Sheet;I)V"⟩, 5)]
theorem lw_r1 : ∀ q ∈ lw_privs_1, lw_okq q := List.forall_mem_cons.mpr ⟨lw_p0, List.forall_mem_cons.mpr ⟨lw_p1, List.forall_mem_cons.mpr ⟨lw_p2, List.forall_mem_cons.mpr ⟨lw_p3, List.forall_mem_cons.mpr ⟨lw_p4, List.forall_mem_cons.mpr ⟨lw_p5, List.forall_mem_cons.mpr ⟨lw_p6, List.forall_mem_cons.mpr ⟨lw_p7, List.forall_mem_cons.mpr ⟨lw_p8, List.forall_mem_cons.mpr ⟨lw_p9, List.forall_mem_cons.mpr ⟨lw_p10, List.forall_mem_cons.mpr ⟨lw_p11, List.forall_mem_cons.mpr ⟨lw_p12, List.forall_mem_cons.mpr ⟨lw_p13, List.forall_mem_cons.mpr ⟨lw_p14, List.forall_mem_cons.mpr ⟨lw_p15, fun _ h => absurd h List.not_mem_nil⟩⟩⟩⟩⟩⟩⟩⟩⟩⟩⟩⟩⟩⟩⟩⟩
theorem lw_p16 : lw_okq (⟨"ParallaxSheets$Filters", "gatherNine", "(LParallaxSheets$Sheet;II)V"⟩, 5) := ⟨⟨by decide +kernel, by decide +kernel⟩, List.mem_of_getElem? (i := 65) (by decide +kernel), List.mem_of_getElem? (i := 581) (by decide +kernel), List.mem_of_getElem? (i := 582) (by decide +kernel)⟩
theorem lw_p17 : lw_okq (⟨"ParallaxSheets$Filters", "resultOfNine", "(I)I"⟩, 5) := ⟨⟨by decide +kernel, by decide +kernel⟩, List.mem_of_getElem? (i := 65) (by decide +kernel), List.mem_of_getElem? (i := 586) (by decide +kernel), List.mem_of_getElem? (i := 587) (by decide +kernel)⟩
theorem lw_p18 : lw_okq (⟨"ParallaxSheets$Filters", "weighted", "()I"⟩, 5) := ⟨⟨by decide +kernel, by decide +kernel⟩, List.mem_of_getElem? (i := 65) (by decide +kernel), List.mem_of_getElem? (i := 590) (by decide +kernel), List.mem_of_getElem? (i := 591) (by decide +kernel)⟩
theorem lw_p19 : lw_okq (⟨"ParallaxSheets$Filters", "middle", "()I"⟩, 5) := ⟨⟨by decide +kernel, by decide +kernel⟩, List.mem_of_getElem? (i := 65) (by decide +kernel), List.mem_of_getElem? (i := 594) (by decide +kernel), List.mem_of_getElem? (i := 595) (by decide +kernel)⟩
theorem lw_p20 : lw_okq (⟨"ParallaxSheets$Filters", "edge", "()I"⟩, 5) := ⟨⟨by decide +kernel, by decide +kernel⟩, List.mem_of_getElem? (i := 65) (by decide +kernel), List.mem_of_getElem? (i := 598) (by decide +kernel), List.mem_of_getElem? (i := 599) (by decide +kernel)⟩
theorem lw_p21 : lw_okq (⟨"ParallaxSheets$Filters", "least", "(Z)I"⟩, 5) := ⟨⟨by decide +kernel, by decide +kernel⟩, List.mem_of_getElem? (i := 65) (by decide +kernel), List.mem_of_getElem? (i := 603) (by decide +kernel), List.mem_of_getElem? (i := 604) (by decide +kernel)⟩
theorem lw_p22 : lw_okq (⟨"ParallaxSheets$Filters", "greatest", "(Z)I"⟩, 5) := ⟨⟨by decide +kernel, by decide +kernel⟩, List.mem_of_getElem? (i := 65) (by decide +kernel), List.mem_of_getElem? (i := 611) (by decide +kernel), List.mem_of_getElem? (i := 612) (by decide +kernel)⟩
theorem lw_p23 : lw_okq (⟨"ParallaxSheets$Tones", "planNegative", "()V"⟩, 3) := ⟨⟨by decide +kernel, by decide +kernel⟩, List.mem_of_getElem? (i := 92) (by decide +kernel), List.mem_of_getElem? (i := 628) (by decide +kernel), List.mem_of_getElem? (i := 629) (by decide +kernel)⟩
theorem lw_p24 : lw_okq (⟨"ParallaxSheets$Tones", "planStretch", "()V"⟩, 3) := ⟨⟨by decide +kernel, by decide +kernel⟩, List.mem_of_getElem? (i := 92) (by decide +kernel), List.mem_of_getElem? (i := 632) (by decide +kernel), List.mem_of_getElem? (i := 633) (by decide +kernel)⟩
theorem lw_p25 : lw_okq (⟨"ParallaxSheets$Tones", "planEven", "()V"⟩, 3) := ⟨⟨by decide +kernel, by decide +kernel⟩, List.mem_of_getElem? (i := 92) (by decide +kernel), List.mem_of_getElem? (i := 638) (by decide +kernel), List.mem_of_getElem? (i := 639) (by decide +kernel)⟩
theorem lw_p26 : lw_okq (⟨"ParallaxSheets$Tones", "planCut", "()V"⟩, 3) := ⟨⟨by decide +kernel, by decide +kernel⟩, List.mem_of_getElem? (i := 92) (by decide +kernel), List.mem_of_getElem? (i := 642) (by decide +kernel), List.mem_of_getElem? (i := 643) (by decide +kernel)⟩
theorem lw_p27 : lw_okq (⟨"ParallaxSheets$Parts", "bareSides", "(I)I"⟩, 8) := ⟨⟨by decide +kernel, by decide +kernel⟩, List.mem_of_getElem? (i := 108) (by decide +kernel), List.mem_of_getElem? (i := 723) (by decide +kernel), List.mem_of_getElem? (i := 724) (by decide +kernel)⟩
theorem lw_p28 : lw_okq (⟨"ParallaxSheets$Parts", "bareSide", "(II)I"⟩, 8) := ⟨⟨by decide +kernel, by decide +kernel⟩, List.mem_of_getElem? (i := 108) (by decide +kernel), List.mem_of_getElem? (i := 727) (by decide +kernel), List.mem_of_getElem? (i := 728) (by decide +kernel)⟩
theorem lw_p29 : lw_okq (⟨"ParallaxSheets$Parts", "bound", "(II)I"⟩, 8) := ⟨⟨by decide +kernel, by decide +kernel⟩, List.mem_of_getElem? (i := 108) (by decide +kernel), List.mem_of_getElem? (i := 731) (by decide +kernel), List.mem_of_getElem? (i := 732) (by decide +kernel)⟩
theorem lw_p30 : lw_okq (⟨"ParallaxSheetsModel", "isNoSheet", "(I)Z"⟩, 5) := ⟨⟨by decide +kernel, by decide +kernel⟩, List.mem_of_getElem? (i := 801) (by decide +kernel), List.mem_of_getElem? (i := 855) (by decide +kernel), List.mem_of_getElem? (i := 856) (by decide +kernel)⟩
theorem lw_p31 : lw_okq (⟨"ParallaxSheetsModel", "start", "(ZI)Z"⟩, 5) := ⟨⟨by decide +kernel, by decide +kernel⟩, List.mem_of_getElem? (i := 801) (by decide +kernel), List.mem_of_getElem? (i := 865) (by decide +kernel), List.mem_of_getElem? (i := 866) (by decide +kernel)⟩
def lw_privs_2 : List (MethodName × Nat) := [(⟨"ParallaxSheets$Filters", "gatherNine", "(LParallaxSheets$Sheet;II)V"⟩, 5), (⟨"ParallaxSheets$Filters", "resultOfNine", "(I)I"⟩, 5), (⟨"ParallaxSheets$Filters", "weighted", "()I"⟩, 5), (⟨"ParallaxSheets$Filters", "middle", "()I"⟩, 5), (⟨"ParallaxSheets$Filters", "edge", "()I"⟩, 5), (⟨"ParallaxSheets$Filters", "least", "(Z)I"⟩, 5), (⟨"ParallaxSheets$Filters", "greatest", "(Z)I"⟩, 5), (⟨"ParallaxSheets$Tones", "planNegative", "()V"⟩, 3), (⟨"ParallaxSheets$Tones", "planStretch", "()V"⟩, 3), (⟨"ParallaxSheets$Tones", "planEven", "()V"⟩, 3), (⟨"ParallaxSheets$Tones", "planCut", "()V"⟩, 3), (⟨"ParallaxSheets$Parts", "bareSides", "(I)I"⟩, 8), (⟨"ParallaxSheets$Parts", "bareSide", "(II)I"⟩, 8), (⟨"ParallaxSheets$Parts", "bound", "(II)I"⟩, 8), (⟨"ParallaxSheetsModel", "isNoSheet", "(I)Z"⟩, 5), (⟨"ParallaxSheetsModel", "start", "(ZI)Z"⟩, 5)]
theorem lw_r2 : ∀ q ∈ lw_privs_2, lw_okq q := List.forall_mem_cons.mpr ⟨lw_p16, List.forall_mem_cons.mpr ⟨lw_p17, List.forall_mem_cons.mpr ⟨lw_p18, List.forall_mem_cons.mpr ⟨lw_p19, List.forall_mem_cons.mpr ⟨lw_p20, List.forall_mem_cons.mpr ⟨lw_p21, List.forall_mem_cons.mpr ⟨lw_p22, List.forall_mem_cons.mpr ⟨lw_p23, List.forall_mem_cons.mpr ⟨lw_p24, List.forall_mem_cons.mpr ⟨lw_p25, List.forall_mem_cons.mpr ⟨lw_p26, List.forall_mem_cons.mpr ⟨lw_p27, List.forall_mem_cons.mpr ⟨lw_p28, List.forall_mem_cons.mpr ⟨lw_p29, List.forall_mem_cons.mpr ⟨lw_p30, List.forall_mem_cons.mpr ⟨lw_p31, fun _ h => absurd h List.not_mem_nil⟩⟩⟩⟩⟩⟩⟩⟩⟩⟩⟩⟩⟩⟩⟩⟩
theorem lw_p32 : lw_okq (⟨"ParallaxSheetsModel", "refuse", "(ZI)Z"⟩, 5) := ⟨⟨by decide +kernel, by decide +kernel⟩, List.mem_of_getElem? (i := 801) (by decide +kernel), List.mem_of_getElem? (i := 869) (by decide +kernel), List.mem_of_getElem? (i := 870) (by decide +kernel)⟩
theorem lw_p33 : lw_okq (⟨"ParallaxSheetsModel", "isNoField", "(III)Z"⟩, 5) := ⟨⟨by decide +kernel, by decide +kernel⟩, List.mem_of_getElem? (i := 801) (by decide +kernel), List.mem_of_getElem? (i := 880) (by decide +kernel), List.mem_of_getElem? (i := 881) (by decide +kernel)⟩
theorem lw_p34 : lw_okq (⟨"ParallaxSheetsModel", "take", "(ILParallaxSheetsModel$Sheet;)I"⟩, 5) := ⟨⟨by decide +kernel, by decide +kernel⟩, List.mem_of_getElem? (i := 801) (by decide +kernel), List.mem_of_getElem? (i := 905) (by decide +kernel), List.mem_of_getElem? (i := 906) (by decide +kernel)⟩
theorem lw_p35 : lw_okq (⟨"ParallaxSheetsModel", "filtered", "(LParallaxSheetsModel$Sheet;I)LParallaxSheetsModel$Sheet;"⟩, 5) := ⟨⟨by decide +kernel, by decide +kernel⟩, List.mem_of_getElem? (i := 801) (by decide +kernel), List.mem_of_getElem? (i := 975) (by decide +kernel), List.mem_of_getElem? (i := 976) (by decide +kernel)⟩
theorem lw_p36 : lw_okq (⟨"ParallaxSheetsModel", "areNoWays", "(I)Z"⟩, 5) := ⟨⟨by decide +kernel, by decide +kernel⟩, List.mem_of_getElem? (i := 801) (by decide +kernel), List.mem_of_getElem? (i := 1074) (by decide +kernel), List.mem_of_getElem? (i := 1075) (by decide +kernel)⟩
theorem lw_p37 : lw_okq (⟨"java/util/ArrayList", "add", "(Ljava/lang/Object;[Ljava/lang/Object;I)V"⟩, 3) := ⟨⟨by decide +kernel, by decide +kernel⟩, List.mem_of_getElem? (i := 1085) (by decide +kernel), List.mem_of_getElem? (i := 1135) (by decide +kernel), List.mem_of_getElem? (i := 1136) (by decide +kernel)⟩
theorem lw_p38 : lw_okq (⟨"java/util/ArrayList", "grow", "()[Ljava/lang/Object;"⟩, 3) := ⟨⟨by decide +kernel, by decide +kernel⟩, List.mem_of_getElem? (i := 1085) (by decide +kernel), List.mem_of_getElem? (i := 1139) (by decide +kernel), List.mem_of_getElem? (i := 1140) (by decide +kernel)⟩
theorem lw_p39 : lw_okq (⟨"java/util/ArrayList", "grow", "(I)[Ljava/lang/Object;"⟩, 3) := ⟨⟨by decide +kernel, by decide +kernel⟩, List.mem_of_getElem? (i := 1085) (by decide +kernel), List.mem_of_getElem? (i := 1143) (by decide +kernel), List.mem_of_getElem? (i := 1144) (by decide +kernel)⟩
theorem lw_p40 : lw_okq (⟨"ParallaxSheetsModel$Sheet", "isEdge", "(I)Z"⟩, 3) := ⟨⟨by decide +kernel, by decide +kernel⟩, List.mem_of_getElem? (i := 812) (by decide +kernel), List.mem_of_getElem? (i := 1222) (by decide +kernel), List.mem_of_getElem? (i := 1223) (by decide +kernel)⟩
theorem lw_p41 : lw_okq (⟨"ParallaxSheetsModel$Sheet", "free", "(II)I"⟩, 3) := ⟨⟨by decide +kernel, by decide +kernel⟩, List.mem_of_getElem? (i := 812) (by decide +kernel), List.mem_of_getElem? (i := 1238) (by decide +kernel), List.mem_of_getElem? (i := 1239) (by decide +kernel)⟩
theorem lw_p42 : lw_okq (⟨"ParallaxSheetsModel$Sheet", "sums", "()[I"⟩, 3) := ⟨⟨by decide +kernel, by decide +kernel⟩, List.mem_of_getElem? (i := 812) (by decide +kernel), List.mem_of_getElem? (i := 1276) (by decide +kernel), List.mem_of_getElem? (i := 1277) (by decide +kernel)⟩
theorem lw_p43 : lw_okq (⟨"ParallaxSheetsModel$Sheet", "cost", "(II)I"⟩, 3) := ⟨⟨by decide +kernel, by decide +kernel⟩, List.mem_of_getElem? (i := 812) (by decide +kernel), List.mem_of_getElem? (i := 1281) (by decide +kernel), List.mem_of_getElem? (i := 1282) (by decide +kernel)⟩
theorem lw_p44 : lw_okq (⟨"ParallaxSheetsModel", "reshape", "(ILParallaxSheetsModel$Sheet;)I"⟩, 5) := ⟨⟨by decide +kernel, by decide +kernel⟩, List.mem_of_getElem? (i := 801) (by decide +kernel), List.mem_of_getElem? (i := 1285) (by decide +kernel), List.mem_of_getElem? (i := 1286) (by decide +kernel)⟩
def lw_privs_3 : List (MethodName × Nat) := [(⟨"ParallaxSheetsModel", "refuse", "(ZI)Z"⟩, 5), (⟨"ParallaxSheetsModel", "isNoField", "(III)Z"⟩, 5), (⟨"ParallaxSheetsModel", "take", "(ILParallaxSheetsModel$Sheet;)I"⟩, 5), (⟨"ParallaxSheetsModel", "filtered", "(LParallaxSheetsModel$Sheet;I)LParallaxSheetsModel$Sheet;"⟩, 5), (⟨"ParallaxSheetsModel", "areNoWays", "(I)Z"⟩, 5), (⟨"java/util/ArrayList", "add", "(Ljava/lang/Object;[Ljava/lang/Object;I)V"⟩, 3), (⟨"java/util/ArrayList", "grow", "()[Ljava/lang/Object;"⟩, 3), (⟨"java/util/ArrayList", "grow", "(I)[Ljava/lang/Object;"⟩, 3), (⟨"ParallaxSheetsModel$Sheet", "isEdge", "(I)Z"⟩, 3), (⟨"ParallaxSheetsModel$Sheet", "free", "(II)I"⟩, 3), (⟨"ParallaxSheetsModel$Sheet", "sums", "()[I"⟩, 3), (⟨"ParallaxSheetsModel$Sheet", "cost", "(II)I"⟩, 3), (⟨"ParallaxSheetsModel", "reshape", "(ILParallaxSheetsModel$Sheet;)I"⟩, 5)]
theorem lw_r3 : ∀ q ∈ lw_privs_3, lw_okq q := List.forall_mem_cons.mpr ⟨lw_p32, List.forall_mem_cons.mpr ⟨lw_p33, List.forall_mem_cons.mpr ⟨lw_p34, List.forall_mem_cons.mpr ⟨lw_p35, List.forall_mem_cons.mpr ⟨lw_p36, List.forall_mem_cons.mpr ⟨lw_p37, List.forall_mem_cons.mpr ⟨lw_p38, List.forall_mem_cons.mpr ⟨lw_p39, List.forall_mem_cons.mpr ⟨lw_p40, List.forall_mem_cons.mpr ⟨lw_p41, List.forall_mem_cons.mpr ⟨lw_p42, List.forall_mem_cons.mpr ⟨lw_p43, List.forall_mem_cons.mpr ⟨lw_p44, fun _ h => absurd h List.not_mem_nil⟩⟩⟩⟩⟩⟩⟩⟩⟩⟩⟩⟩⟩
def lw_privs : List (MethodName × Nat) := lw_privs_1 ++ (lw_privs_2 ++ (lw_privs_3))
def lw_tbl : List Cond := k2_sels lw_privs ++ tables_1
theorem lw_privs_ok : ∀ q ∈ lw_privs, lw_okq q := by
  show ∀ q ∈ lw_privs_1 ++ (lw_privs_2 ++ (lw_privs_3)), lw_okq q
  exact List.forall_mem_append.mpr ⟨lw_r1, List.forall_mem_append.mpr ⟨lw_r2, lw_r3⟩⟩
/-- the streams that the claim lets the run draw from -/
abbrev lw_cs : List Choice := [Jvm.Choice.named "NaN.bits"]
theorem lw_bits : nanBits ∈ lw_cs := by first | decide | exact List.mem_cons_self | simp [lw_cs, nanBits]

/-! ===== BEGIN words of one list among another's, by their places ===== -/
theorem goodIn_r {big : List Cond} (ws : List Cond) (ps : List Nat) (hp : ws = ps.filterMap (fun i => big[i]?)) (h : ws.all goodWord = true) : GoodIn big ws := by
  intro w hw
  have h1 := List.all_eq_true.mp h w hw
  rw [hp] at hw
  obtain ⟨i, -, hi⟩ := List.mem_filterMap.mp hw
  have hm : w ∈ big := by first | exact List.mem_of_getElem? hi | exact List.getElem?_mem hi
  exact ⟨hm, good_of_word h1⟩
theorem goodIn_app {big a b : List Cond} (ha : GoodIn big a) (hb : GoodIn big b) : GoodIn big (a ++ b) := fun w h => (List.mem_append.mp h).elim (ha w) (hb w)
theorem goodIn_ca {big a b : List Cond} {c : Cond} (ha : GoodIn big (c :: a)) (hb : GoodIn big b) : GoodIn big (c :: (a ++ b)) := fun w h => (List.mem_cons.mp h).elim (fun e => ha w (List.mem_cons.mpr (Or.inl e))) (fun h => (List.mem_append.mp h).elim (fun h => ha w (List.mem_cons.mpr (Or.inr h))) (hb w))
theorem goodIn_sub {big ws : List Cond} (hm : ∀ w ∈ ws, w ∈ big) (h : ws.all goodWord = true) : GoodIn big ws := fun w hw => ⟨hm w hw, good_of_word (List.all_eq_true.mp h w hw)⟩
/-! ===== END ===== -/

/-! ===== BEGIN exceptions that leave a method, and their catching by the caller (launches without stack traces) ===== -/
section VXA
/-! The laws vx_back, vx_callV, vx_callS, vx_callSW, vx_throw0, vx_throwS follow proofs of the library, with one case more: JvmDerived/Free/Laws.lean (Back.of_free), Shelf42/LK1.lean (callV, callS), Shelf/KitTraced.lean (throwNew0V, throwNewS). -/
/-- where a method has thrown q: the class by its name, the cell, what was written, the world -/
def vx_T (XC : String → State → State → Prop) (st : State) (q : Addr) (t : State) (mc ms : Nat) (free : Addr → Prop) : Prop :=
  ∃ (E : String) (ce : Cell) (L : List Loc), XC E st t ∧ t.heap[q]? = some ce ∧ ce.vm = .none ∧ st.vm.findClass E = some ce.cls ∧ st.WarmedH t.vm ∧ st.sameButNew ({ t with vm := st.vm } : State) L mc ms ∧ ∀ z ∈ L, free z.base
def vx_Q (Qc : Array Value → State → Outcome → State → Prop) (XC : String → State → State → Prop) (mc ms : Nat) (free : Addr → Prop) : Array Value → State → Outcome → State → Prop := fun a st o t =>
  (Qc a st o t ∧ ∃ L, FrameEnd st o t L mc ms ∧ ∀ q ∈ L, free q.base) ∨ ∃ q, o = .threw q ∧ vx_T XC st q t mc ms free
/-- a callee that returns or throws -/
def vx_Met (l : Launch) (y : MethodName) (ws : List Cond) (rm : Room) (Pc : Array Value → State → Prop) (Qc : Array Value → State → Outcome → State → Prop) (XC : String → State → State → Prop) (mc ms : Nat) (free : Addr → Prop) : Prop :=
  MetFree l y (headSpec ws rm) Pc (fun _ _ _ _ _ => True) (vx_Q Qc XC mc ms free)
def vx_Post (XC : String → State → State → Prop) (mc ms : Nat) (free : Addr → Prop) : Pt → Array Value → Addr → Pt → Prop := fun A a q B =>
  ∃ (g : JFrame) (mk : MethodId) (t : State) (L : List Loc) (E : String) (ce : Cell), B.U.heap = t.heap ∧ B.U.vm = t.vm ∧ XC E (A.U.calling g mk a) t ∧ t.heap[q]? = some ce ∧ ce.vm = .none ∧ A.U.vm.findClass E = some ce.cls ∧ B.locs = A.locs ++ L ∧ (∀ z ∈ L, free z.base) ∧ B.cells = A.cells + mc ∧ B.slots = A.slots + ms
def vx_Back (l : Launch) (R : Room) (p : Program) (e : Env) (below : List Frame) (s : State) (sargs : Array Value) (y : MethodName) (len W9 : Nat)
    (Pre : Pt → Array Value → Prop) (Post : Pt → Array Value → Option Value → Pt → Prop) (PostX : Pt → Array Value → Addr → Pt → Prop) : Prop :=
  ∀ (m : MethodId) (meth : Method) (c : Code) (A : Pt) (g : JFrame) (ig : Instr) (mk : MethodId) (a : Array Value),
    Stand p l e R s m sargs below meth c A.U A.locs A.cells A.slots → g.method = m → g.locals.size = c.maxLocals → decode c.code g.pc = .ok (ig, len) →
    2 * g.monitorRoom + (g.stack.map fun v => v.category).sum ≤ W9 → A.U.methodNamed? y = some mk → Pre A a →
    (∃ (v : Option Value) (B : Pt), Stand p l e R s m sargs below meth c B.U B.locs B.cells B.slots ∧ Post A a v B ∧
      Steps p.tables e below (doInvoke e (A.U.setTop g) [] mk a).1 (B.U.setTop { g with pc := g.pc + len, stack := v.toList ++ g.stack })) ∨
    (∃ (q : Addr) (B : Pt), Stand p l e R s m sargs below meth c B.U B.locs B.cells B.slots ∧ PostX A a q B ∧
      Steps p.tables e below (doInvoke e (A.U.setTop g) [] mk a).1 ((B.U.setTop g).pushFrame (.throwing q)))
section Payer
variable {l : Launch} {R : Room} {p : Program} {e : Env} {below : List Frame} {s : State} {sargs : Array Value} {y : MethodName} {len W9 : Nat}
theorem vx_back {ws : List Cond} {rm : Room} {Pc : Array Value → State → Prop} {Qc : Array Value → State → Outcome → State → Prop} {XC : String → State → State → Prop} {mc ms : Nat} {free : Addr → Prop} {bytes : ByteArray} {maxL : Nat} {ret : Option FieldType}
    (hM : vx_Met l y ws rm Pc Qc XC mc ms free) (hblind : FrameBlind Pc) (hrc : rm.cells = mc) (hrs : rm.slots = ms)
    (hframes : rm.frames + 1 ≤ R.frames) (hlocals : W9 + (maxL + 11) + rm.locals ≤ R.locals)
    (hws : ∀ w ∈ ws, ∀ a' U, s.WarmedH U.vm → w.before a' U = true) (hcode : Cond.code y bytes maxL ret ∈ ws) (hinit : ∀ a' U, s.WarmedH U.vm → (Cond.initialized y.cls).before a' U = true) :
    vx_Back l R p e below s sargs y len W9 (PreOf R mc ms Pc) (PostOf Qc mc ms free) (vx_Post XC mc ms free) := by
  intro m meth c A g ig mk a X hg hsize hdg hW hn hp
  have h1 : (headSpec ws rm).pre.before a A.U = true := atoms_intro fun w hw => hws w hw _ _ X.warmed
  have h2 : (Cond.code y bytes maxL ret).before a A.U = true := hws _ hcode _ _ X.warmed
  have h3 : (Cond.initialized y.cls).before a A.U = true := hinit _ _ X.warmed
  have h4 : A.cells + (headSpec ws rm).room.cells ≤ R.cells := by rw [show (headSpec ws rm).room.cells = mc from hrc]; exact hp.1
  have h5 : A.slots + (headSpec ws rm).room.slots ≤ R.slots := by rw [show (headSpec ws rm).room.slots = ms from hrs]; exact hp.2.1
  have hPc : Pc a (A.U.calling g mk a) := hblind _ _ _ _ hp.2.2
  obtain ⟨U, Ls, c0, s0⟩ := A
  dsimp only [Pt.U, Pt.locs, Pt.cells, Pt.slots] at h1 h2 h3 h4 h5 X hn hPc ⊢
  obtain ⟨methY, cY, hmY, hcY, -, hlY, -, -, -, -⟩ := Cond.code_spec hn h2
  obtain ⟨kY, hkY, -⟩ := className_of_methodNamed hn
  have hinitY : kY.init = .initialized := Cond.initialized_spec (findClass_of_methodNamed hn) hkY h3
  have h : At U g.method c below := by rw [hg]; exact X.here
  have hlocals9 : W9 + (maxL + 11) + (headSpec ws rm).room.locals ≤ R.locals := hlocals
  have happ : (headSpec ws rm).appliesLoose y e.platform (U.calling g mk a) = true :=
    Spec.appliesLoose_calling (g := g) h hdg hn hkY hinitY
      (X.room_calling (g := g) (R' := (headSpec ws rm).room) hsize hmY hcY hframes (by rw [hlY]; omega) h4 h5) h1
  obtain ⟨mid, hmid⟩ := h.above
  have hfr : (U.setTop g).frames = (.java g :: mid) ++ below := by rw [State.frames_setTop' g h.top, hmid]; rfl
  obtain ⟨o, s₂, hsteps, -, hend, hq⟩ := Steps.callFree hM p X.admits X.cas X.clock (acts := []) hfr happ hPc trivial
  have hq' : vx_Q Qc XC mc ms free a (U.calling g mk a) o s₂ := hq
  rw [State.frames_setTop' g h.top] at hend
  obtain ⟨g₀, hg0⟩ := Option.isSome_iff_exists.mp h.top
  obtain ⟨r, hr⟩ := State.topJava?_eq_some.mp hg0
  have hr' : (({ U with heap := s₂.heap, slotsUsed := s₂.slotsUsed } : State).setVm s₂.vm).frames = .java g₀ :: r := hr
  rcases hq' with ⟨hqc, L, hfe, hL⟩ | ⟨q, rfl, E, ce, L, hx, hce, hcv, hcl, hW₂, hsm, hL⟩
  · obtain ⟨⟨v, rfl⟩, hW₂, e2, q2, q3, q4, q5, q6⟩ := id hfe
    have e3 : s₂ = ({ (U.calling g mk a).setFrames s₂.frames with heap := s₂.heap, slotsUsed := s₂.slotsUsed } : State).setVm s₂.vm := by
      have : s₂ = ({ s₂ with vm := (U.calling g mk a).vm } : State).setVm s₂.vm := rfl
      rw [e2] at this
      exact this
    obtain ⟨c₂, i₂, len₂, hc₂, hd₂, hf₂⟩ := hend
    have hW' : U.WarmedH s₂.vm := hW₂
    have hcc : c₂ = c := by
      have h1 : s₂.code? g.method = U.code? g.method := by
        rw [State.code?_eq, State.code?_eq, hW'.alike.method?]
      exact Option.some.inj (hc₂.symm.trans (h1.trans h.code))
    subst hcc
    have hlen : len₂ = len := by rw [hdg] at hd₂; cases hd₂; rfl
    subst hlen
    have hs₂ : s₂ = (({ U with heap := s₂.heap, slotsUsed := s₂.slotsUsed } : State).setVm s₂.vm).setTop { g with pc := g.pc + len₂, stack := v.toList ++ g.stack } := by
      refine e3.trans ?_
      rw [hf₂, State.calling_eq h.top, State.setFrames_setFrames, State.setTop_of_frames _ hr', hr]
      rfl
    have hsame : U.sameButNew ({ U with heap := s₂.heap, slotsUsed := s₂.slotsUsed } : State) L mc ms := by
      refine ⟨?_, q2, q3, q4, q5, q6⟩
      obtain ⟨t, ht, -⟩ := State.frames_cons hr
      show ({ U with heap := s₂.heap, slotsUsed := s₂.slotsUsed } : State) = { U.setFrames U.frames with heap := s₂.heap, slotsUsed := s₂.slotsUsed }
      rw [State.setFrames_self ht]
    subst hg
    refine Or.inl ⟨v, ⟨(({ U with heap := s₂.heap, slotsUsed := s₂.slotsUsed } : State).setVm s₂.vm), Ls ++ L, c0 + mc, s0 + ms⟩,
      ⟨X.admits, X.cas, X.clock, X.frames, X.room, X.hears, X.method, X.code, (X.here.setHeapUsed s₂.heap s₂.slotsUsed).setVm hW'.alike, X.tail, State.WarmedH.trans X.warmed hW', X.limits, X.bytes, X.same.trans (hsame.setVm s.vm)⟩,
      ⟨g, mk, s₂, L, rfl, rfl, hqc, rfl, hL, rfl, rfl⟩, ?_⟩
    show Steps p.tables e below _ ((({ U with heap := s₂.heap, slotsUsed := s₂.slotsUsed } : State).setVm s₂.vm).setTop { g with pc := g.pc + len₂, stack := v.toList ++ g.stack })
    rw [← hs₂]
    exact hsteps
  · obtain ⟨e2, q2, q3, q4, q5, q6⟩ := id hsm
    have e3 : s₂ = ({ (U.calling g mk a).setFrames s₂.frames with heap := s₂.heap, slotsUsed := s₂.slotsUsed } : State).setVm s₂.vm := by
      have : s₂ = ({ s₂ with vm := (U.calling g mk a).vm } : State).setVm s₂.vm := rfl
      rw [e2] at this
      exact this
    have hf₂ : s₂.frames = .throwing q :: .java g :: U.frames.tail := hend
    have hW' : U.WarmedH s₂.vm := hW₂
    have hs₂ : s₂ = ((({ U with heap := s₂.heap, slotsUsed := s₂.slotsUsed } : State).setVm s₂.vm).setTop g).pushFrame (.throwing q) := by
      refine e3.trans ?_
      rw [hf₂, State.calling_eq h.top, State.setFrames_setFrames, State.pushFrame, State.frames_setTop _ hr', State.setTop_of_frames _ hr', State.setFrames_setFrames, hr]
      rfl
    have hsame : U.sameButNew ({ U with heap := s₂.heap, slotsUsed := s₂.slotsUsed } : State) L mc ms := by
      refine ⟨?_, q2, q3, q4, q5, q6⟩
      obtain ⟨t, ht, -⟩ := State.frames_cons hr
      show ({ U with heap := s₂.heap, slotsUsed := s₂.slotsUsed } : State) = { U.setFrames U.frames with heap := s₂.heap, slotsUsed := s₂.slotsUsed }
      rw [State.setFrames_self ht]
    subst hg
    refine Or.inr ⟨q, ⟨(({ U with heap := s₂.heap, slotsUsed := s₂.slotsUsed } : State).setVm s₂.vm), Ls ++ L, c0 + mc, s0 + ms⟩,
      ⟨X.admits, X.cas, X.clock, X.frames, X.room, X.hears, X.method, X.code, (X.here.setHeapUsed s₂.heap s₂.slotsUsed).setVm hW'.alike, X.tail, State.WarmedH.trans X.warmed hW', X.limits, X.bytes, X.same.trans (hsame.setVm s.vm)⟩,
      ⟨g, mk, s₂, L, E, ce, rfl, rfl, hx, hce, hcv, hcl, rfl, hL, rfl, rfl⟩, ?_⟩
    show Steps p.tables e below _ (((({ U with heap := s₂.heap, slotsUsed := s₂.slotsUsed } : State).setVm s₂.vm).setTop g).pushFrame (.throwing q))
    rw [← hs₂]
    exact hsteps
end Payer
section Calls
variable {p : Program} {l : Launch} {e : Env} {R : Room} {s : State} {m : MethodId} {args : Array Value} {below : List Frame} {meth : Method} {c : Code} {T : State} {locs : List Loc} {cells slots : Nat}
theorem vx_callV (X : Stand p l e R s m args below meth c T locs cells slots) (hexec : p.tables.exec = Jvm.exec) {own C : String} {index : Nat} {y : MethodName} {bytes : ByteArray} {maxL : Nat} {ret : Option FieldType}
    (hown : s.vm.findClass own = some m.cls) (hlink : (Cond.methodLink own index y).before args s = true) (hinst : (Cond.instanceMethod y).before args s = true) (hsel : (Cond.selects C y y).before args s = true)
    (hcode : (Cond.code y bytes maxL ret).before args s = true) (hy : y.cls ≠ "java/lang/invoke/MethodHandle" ∧ y.cls ≠ "java/lang/invoke/VarHandle")
    {W9 : Nat} {Pre : Pt → Array Value → Prop} {Post : Pt → Array Value → Option Value → Pt → Prop} {PostX : Pt → Array Value → Addr → Pt → Prop} (hK : vx_Back l R p e below s args y 3 W9 Pre Post PostX)
    {b : Addr} {cellB : Cell} (hcell : T.heap[b]? = some cellB) (hobj : cellB.vm.isStatics = false) (hcls : s.vm.findClass C = some cellB.cls)
    {g : JFrame} (hg : g.method = m) (hsize : g.locals.size = c.maxLocals) {argsL rest : List Value} (hlen : ∀ sig, parseMethodDescriptor y.desc = some sig → argsL.length = sig.parameters.length)
    (hstack : g.stack = argsL.reverse ++ .ref b :: rest) (hW : 2 * g.monitorRoom + (rest.map fun v => v.category).sum ≤ W9) (hdg : decode c.code g.pc = .ok (.invokevirtual index, 3))
    (hpre : ∀ vm₁, s.WarmedH vm₁ → Pre ⟨T.setVm vm₁, locs, cells, slots⟩ (Value.ref b :: argsL).toArray) :
    (∃ (v : Option Value) (vm₁ : Vm) (B : Pt), s.WarmedH vm₁ ∧ Stand p l e R s m args below meth c B.U B.locs B.cells B.slots ∧ Post ⟨T.setVm vm₁, locs, cells, slots⟩ (Value.ref b :: argsL).toArray v B ∧
      ∀ target, Steps p.tables e below (B.U.setTop { g with pc := g.pc + 3, stack := v.toList ++ rest }) target → Steps p.tables e below (T.setTop g) target) ∨
    (∃ (q : Addr) (vm₁ : Vm) (B : Pt), s.WarmedH vm₁ ∧ Stand p l e R s m args below meth c B.U B.locs B.cells B.slots ∧ PostX ⟨T.setVm vm₁, locs, cells, slots⟩ (Value.ref b :: argsL).toArray q B ∧
      Steps p.tables e below (T.setTop g) ((B.U.setTop { g with stack := rest }).pushFrame (.throwing q))) := by
  obtain ⟨mk, methM, hnamed, hmethM, hstM, habM⟩ := Cond.instanceMethod_spec hinst
  obtain ⟨methM', cM, hmethM', -, -, -, -, -, -, hsigM⟩ := Cond.code_spec hnamed hcode
  cases hmethM.symm.trans hmethM'
  obtain ⟨c2, r2, m2, q1, q2, q3, q4, kP, hkP, hkPi⟩ := Cond.selects_spec hsel
  cases hcls.symm.trans q1
  cases (State.methodFound?_of_named hnamed hy).symm.trans q2
  cases hnamed.symm.trans q3
  have hselP : selectMethod e.platform s.vm cellB.cls mk = .method mk := by rw [Launch.admits_selectMethod X.admits]; exact q4
  obtain ⟨vm₁, X₁, hstep₁⟩ := X.invokevirtual hexec hown hlink hnamed hmethM hstM hkP hkPi hy (a := b) (cell := cellB) hcell
    (fun z h => by rw [h] at hobj; cases hobj) hselP hmethM habM hkP hkPi (g := g) hg (argsL := argsL) (rest := rest) (hlen _ hsigM) hstack hdg
  rcases hK m meth c ⟨T.setVm vm₁, locs, cells, slots⟩ { g with stack := rest } (.invokevirtual index) mk (Value.ref b :: argsL).toArray X₁ hg hsize hdg hW (X₁.named hnamed) (hpre vm₁ X₁.warmed) with ⟨v, B, X', hpost, hsteps⟩ | ⟨q, B, X', hpost, hsteps⟩
  · exact Or.inl ⟨v, vm₁, B, X₁.warmed, X', hpost, fun target h => hstep₁ _ fun acts => by rw [doInvoke_state]; exact hsteps.trans h⟩
  · exact Or.inr ⟨q, vm₁, B, X₁.warmed, X', hpost, hstep₁ _ fun acts => by rw [doInvoke_state]; exact hsteps⟩
theorem vx_callS (X : Stand p l e R s m args below meth c T locs cells slots) (hexec : p.tables.exec = Jvm.exec) {own : String} {index : Nat} {y : MethodName} {bytes : ByteArray} {maxL : Nat} {ret : Option FieldType}
    (hown : s.vm.findClass own = some m.cls) (hlink : (Cond.methodLink own index y).before args s = true) (hstat : (Cond.static y).before args s = true) (hinit : (Cond.initialized y.cls).before args s = true)
    (hcode : (Cond.code y bytes maxL ret).before args s = true) (hy : y.cls ≠ "java/lang/invoke/MethodHandle" ∧ y.cls ≠ "java/lang/invoke/VarHandle")
    {W9 : Nat} {Pre : Pt → Array Value → Prop} {Post : Pt → Array Value → Option Value → Pt → Prop} {PostX : Pt → Array Value → Addr → Pt → Prop} (hK : vx_Back l R p e below s args y 3 W9 Pre Post PostX)
    {g : JFrame} (hg : g.method = m) (hsize : g.locals.size = c.maxLocals) {argsL rest : List Value} (hlen : ∀ sig, parseMethodDescriptor y.desc = some sig → argsL.length = sig.parameters.length)
    (hstack : g.stack = argsL.reverse ++ rest) (hW : 2 * g.monitorRoom + (rest.map fun v => v.category).sum ≤ W9) (hdg : decode c.code g.pc = .ok (.invokestatic index, 3))
    (hpre : ∀ vm₁, s.WarmedH vm₁ → Pre ⟨T.setVm vm₁, locs, cells, slots⟩ argsL.toArray) :
    (∃ (v : Option Value) (vm₁ : Vm) (B : Pt), s.WarmedH vm₁ ∧ Stand p l e R s m args below meth c B.U B.locs B.cells B.slots ∧ Post ⟨T.setVm vm₁, locs, cells, slots⟩ argsL.toArray v B ∧
      ∀ target, Steps p.tables e below (B.U.setTop { g with pc := g.pc + 3, stack := v.toList ++ rest }) target → Steps p.tables e below (T.setTop g) target) ∨
    (∃ (q : Addr) (vm₁ : Vm) (B : Pt), s.WarmedH vm₁ ∧ Stand p l e R s m args below meth c B.U B.locs B.cells B.slots ∧ PostX ⟨T.setVm vm₁, locs, cells, slots⟩ argsL.toArray q B ∧
      Steps p.tables e below (T.setTop g) ((B.U.setTop { g with stack := rest }).pushFrame (.throwing q))) := by
  obtain ⟨mk, hnamed⟩ := Cond.code_named hcode
  obtain ⟨methM, cM, hmethM, -, -, -, -, -, -, hsigM⟩ := Cond.code_spec hnamed hcode
  have hstatic : methM.isStatic = true := Cond.static_spec hnamed hmethM hstat
  obtain ⟨kP, hkP, -⟩ := className_of_methodNamed hnamed
  have hinitP : kP.init = .initialized := Cond.initialized_spec (findClass_of_methodNamed hnamed) hkP hinit
  obtain ⟨vm₁, X₁, hstep₁⟩ := X.invokestatic hexec hown hlink hnamed hmethM hstatic hkP hinitP hy (g := g) hg (argsL := argsL) (rest := rest) (hlen _ hsigM) hstack hdg
  rcases hK m meth c ⟨T.setVm vm₁, locs, cells, slots⟩ { g with stack := rest } (.invokestatic index) mk argsL.toArray X₁ hg hsize hdg hW (X₁.named hnamed) (hpre vm₁ X₁.warmed) with ⟨v, B, X', hpost, hsteps⟩ | ⟨q, B, X', hpost, hsteps⟩
  · exact Or.inl ⟨v, vm₁, B, X₁.warmed, X', hpost, fun target h => hstep₁ _ fun acts => by rw [doInvoke_state]; exact hsteps.trans h⟩
  · exact Or.inr ⟨q, vm₁, B, X₁.warmed, X', hpost, hstep₁ _ fun acts => by rw [doInvoke_state]; exact hsteps⟩
end Calls
theorem vx_cls {s : State} {T : State} {vm₁ : Vm} {E : String} {k : ClassId} (hW : s.WarmedH vm₁) (h : (T.setVm vm₁).vm.findClass E = some k) : s.vm.findClass E = some k := by
  have h1 : vm₁.findClass E = some k := h
  rw [hW.alike.findClass] at h1
  exact h1
/-- the method's frame g, with q thrown over it -/
def vx_W (p : Program) (l : Launch) (e : Env) (R : Room) (s : State) (m : MethodId) (args : Array Value) (below : List Frame) (meth : Method) (c : Code) (H : Heap) (locs : List Loc) (cells slots : Nat) (Q : State → Prop) (g : JFrame) (q : Addr) : Prop :=
  ∀ T : State, T.heap = H → Stand p l e R s m args below meth c T locs cells slots → ∃ t, Steps p.tables e below ((T.setTop g).pushFrame (.throwing q)) t ∧ Q t
def vx_Run (p : Program) (l : Launch) (e : Env) (R : Room) (s : State) (m : MethodId) (args : Array Value) (below : List Frame) (meth : Method) (c : Code) (H : Heap) (locs : List Loc) (cells slots mc ms : Nat) (g : JFrame) (rest : List Value) (Qa : State → Outcome → State → Prop) (XC : String → State → State → Prop) (free : Addr → Prop) : Prop :=
  ∀ T : State, T.heap = H → Stand p l e R s m args below meth c T locs cells slots →
    (∃ (v : Option Value) (st₀ t T' : State) (L : List Loc), st₀.heap = H ∧ Stand p l e R s m args below meth c T' (locs ++ L) (cells + mc) (slots + ms) ∧ (∀ q ∈ L, free q.base) ∧ T'.heap = t.heap ∧ T'.vm = t.vm ∧ Qa st₀ (.returned v) t ∧
      Goes p e below T g T' { g with pc := g.pc + 3, stack := v.toList ++ rest }) ∨
    (∃ (q : Addr) (st₀ t T' : State) (L : List Loc) (E : String) (ce : Cell), st₀.heap = H ∧ Stand p l e R s m args below meth c T' (locs ++ L) (cells + mc) (slots + ms) ∧ (∀ z ∈ L, free z.base) ∧ T'.heap = t.heap ∧ T'.vm = t.vm ∧ XC E st₀ t ∧ t.heap[q]? = some ce ∧ ce.vm = .none ∧ s.vm.findClass E = some ce.cls ∧
      Steps p.tables e below (T.setTop g) ((T'.setTop { g with stack := rest }).pushFrame (.throwing q)))
def vx_X {S : Type} (px : S → Prop) (B : String → S → State → Prop) (A : Nat → Prop) : String → State → State → Prop := fun E st t => ∃ u : S, px u ∧ B E u t ∧ va_F A st t
section Runs
variable {p : Program} {l : Launch} {e : Env} {R : Room} {s : State} {m : MethodId} {args : Array Value} {below : List Frame} {meth : Method} {c : Code} {H : Heap} {locs : List Loc} {cells slots : Nat}
variable {y : MethodName} {bytes cc : ByteArray} {maxL nL mc ms n index : Nat} {ret : Option FieldType} {ws : List Cond} {rm : Room} {Pc : Array Value → State → Prop} {Qc : Array Value → State → Outcome → State → Prop} {XC : String → State → State → Prop} {free : Addr → Prop} {Ts : List Cond} {own C : String} {b : Addr} {As rest : List Value} {g : JFrame}
theorem vx_callBack (cb : CallB R s args own index y bytes maxL ret ws rm mc ms n) (hM : vx_Met l y ws rm Pc Qc XC mc ms free) (hbl : FrameBlind Pc) : vx_Back l R p e below s args y 3 8 (PreOf R mc ms Pc) (PostOf Qc mc ms free) (vx_Post XC mc ms free) := by
  obtain ⟨hrc, hrs, hfr, hlo, hws, hcw, -, hini, -⟩ := cb
  exact vx_back (bytes := bytes) (maxL := maxL) (ret := ret) hM hbl hrc hrs hfr hlo hws hcw (fun a' U hW => word_at hW (Or.inl (by first | rfl | simp [Cond.onTables, Cond.keeps, Cond.steady])) hini)
theorem vx_runV (S : CallFix p m c cc nL s args Ts own) (hM : vx_Met l y ws rm Pc Qc XC mc ms free) (cw : CallW R s args own C index y bytes maxL ret ws rm mc ms n) (hp : PreV s H C b Pc As)
    (hg : g.method = m) (hn : As.length = n) (hsize : g.locals.size = nL) (hstack : g.stack = As.reverse ++ .ref b :: rest) (hW : 2 * g.monitorRoom + (rest.map fun v => v.category).sum ≤ 8) (hdg : decode cc g.pc = .ok (.invokevirtual index, 3)) (hf : cells + mc ≤ R.cells ∧ slots + ms ≤ R.slots) :
    vx_Run p l e R s m args below meth c H locs cells slots mc ms g rest (Qc (Value.ref b :: As).toArray) XC free := by
  have hK : vx_Back l R p e below s args y 3 8 (PreOf R mc ms Pc) (PostOf Qc mc ms free) (vx_Post XC mc ms free) := vx_callBack cw.1 hM hp.1
  obtain ⟨⟨-, -, -, -, -, -, hcode, -, hy, hlen, hl⟩, hin, hse⟩ := cw
  obtain ⟨hx, hb, hml, ho, -⟩ := S
  obtain ⟨-, ⟨cellB, hcB, hoB, hclB⟩, hPc⟩ := hp
  intro T hT X
  rcases vx_callV X hx (C := C) (bytes := bytes) (maxL := maxL) (ret := ret) ho hl hin hse hcode hy hK (by rw [hT]; exact hcB) hoB hclB hg (hsize.trans hml.symm) (argsL := As) (rest := rest) (fun sig h => hn.trans (hlen sig h)) hstack hW (by rw [hb]; exact hdg)
    (fun vm₁ hW₁ => ⟨hf.1, hf.2, hPc (T.setVm vm₁) hT hW₁⟩) with ⟨v, vm₁, ⟨U', l2, c2, s2⟩, hW₁, X', ⟨g', mk, t, L, e1, e2, hq, h1, hL, h2, h3⟩, st⟩ | ⟨q, vm₁, ⟨U', l2, c2, s2⟩, hW₁, X', ⟨g', mk, t, L, E, ce, e1, e2, hq, hce, hcv, hcl, h1, hL, h2, h3⟩, st⟩
  · dsimp only [Pt.U, Pt.locs, Pt.cells, Pt.slots] at X' e1 e2 h1 h2 h3 st
    subst h1; subst h2; subst h3
    exact Or.inl ⟨v, (T.setVm vm₁).calling g' mk (Value.ref b :: As).toArray, t, U', L, hT, X', hL, e1, e2, hq, st⟩
  · dsimp only [Pt.U, Pt.locs, Pt.cells, Pt.slots] at X' e1 e2 h1 h2 h3 st hcl
    subst h1; subst h2; subst h3
    exact Or.inr ⟨q, (T.setVm vm₁).calling g' mk (Value.ref b :: As).toArray, t, U', L, E, ce, hT, X', hL, e1, e2, hq, hce, hcv, vx_cls hW₁ hcl, st⟩
theorem vx_runS (S : CallFix p m c cc nL s args Ts own) (hM : vx_Met l y ws rm Pc Qc XC mc ms free) (cw : CallB R s args own index y bytes maxL ret ws rm mc ms n ∧ (Cond.static y).before args s = true) (hp : PreS s H Pc As)
    (hg : g.method = m) (hn : As.length = n) (hsize : g.locals.size = nL) (hstack : g.stack = As.reverse ++ rest) (hW : 2 * g.monitorRoom + (rest.map fun v => v.category).sum ≤ 8) (hdg : decode cc g.pc = .ok (.invokestatic index, 3)) (hf : cells + mc ≤ R.cells ∧ slots + ms ≤ R.slots) :
    vx_Run p l e R s m args below meth c H locs cells slots mc ms g rest (Qc As.toArray) XC free := by
  have hK : vx_Back l R p e below s args y 3 8 (PreOf R mc ms Pc) (PostOf Qc mc ms free) (vx_Post XC mc ms free) := vx_callBack cw.1 hM hp.1
  obtain ⟨⟨-, -, -, -, -, -, hcode, hini, hy, hlen, hl⟩, hstt⟩ := cw
  obtain ⟨hx, hb, hml, ho, -⟩ := S
  intro T hT X
  rcases vx_callS X hx (bytes := bytes) (maxL := maxL) (ret := ret) ho hl hstt hini hcode hy hK hg (hsize.trans hml.symm) (argsL := As) (rest := rest) (fun sig h => hn.trans (hlen sig h)) hstack hW (by rw [hb]; exact hdg)
    (fun vm₁ hW₁ => ⟨hf.1, hf.2, hp.2 (T.setVm vm₁) hT hW₁⟩) with ⟨v, vm₁, ⟨U', l2, c2, s2⟩, hW₁, X', ⟨g', mk, t, L, e1, e2, hq, h1, hL, h2, h3⟩, st⟩ | ⟨q, vm₁, ⟨U', l2, c2, s2⟩, hW₁, X', ⟨g', mk, t, L, E, ce, e1, e2, hq, hce, hcv, hcl, h1, hL, h2, h3⟩, st⟩
  · dsimp only [Pt.U, Pt.locs, Pt.cells, Pt.slots] at X' e1 e2 h1 h2 h3 st
    subst h1; subst h2; subst h3
    exact Or.inl ⟨v, (T.setVm vm₁).calling g' mk As.toArray, t, U', L, hT, X', hL, e1, e2, hq, st⟩
  · dsimp only [Pt.U, Pt.locs, Pt.cells, Pt.slots] at X' e1 e2 h1 h2 h3 st hcl
    subst h1; subst h2; subst h3
    exact Or.inr ⟨q, (T.setVm vm₁).calling g' mk As.toArray, t, U', L, E, ce, hT, X', hL, e1, e2, hq, hce, hcv, vx_cls hW₁ hcl, st⟩
end Runs
section Rows
variable {p : Program} {l : Launch} {e : Env} {R : Room} {s : State} {m : MethodId} {args : Array Value} {below : List Frame} {meth : Method} {c : Code} {H : Heap} {locs : List Loc} {cells slots : Nat} {Q : State → Prop}
variable {mc ms : Nat} {free : Addr → Prop} {A0 A1 : Nat → Prop} {H0 : Heap} {a : Array Value} {pc : Nat} {ls : Array Slot} {st0 rest : List Value}
theorem vx_keep {st₀ t T' : State} {L : List Loc} (h0 : st₀.heap = H) (e1 : T'.heap = t.heap) (hS : va_S A0 H0 H locs) (hA : ∀ q, q < H.size → A1 q → A0 q) (hf : ∀ q, free q → A0 q) (hL : ∀ q ∈ L, free q.base) (hF : va_F A1 st₀ t) :
    H.size ≤ T'.heap.size ∧ (∀ q : Nat, q < H.size → ¬ A1 q → T'.heap[q]? = H[q]?) ∧ va_S A0 H0 T'.heap (locs ++ L) := by
  obtain ⟨hz, hk⟩ := hF
  rw [h0] at hz hk
  exact ⟨by rw [e1]; exact hz, fun q h1 h2 => by rw [e1]; exact hk q h1 h2,
    ⟨Nat.le_trans hS.1 (by rw [e1]; exact hz), fun q h1 h2 => by rw [e1, hk q (Nat.lt_of_lt_of_le h1 hS.1) (fun z => h2 (hA q (Nat.lt_of_lt_of_le h1 hS.1) z))]; exact hS.2.1 q h1 h2, fun q hq => by
      rcases List.mem_append.mp hq with h | h
      · exact hS.2.2 q h
      · exact hf _ (hL q h)⟩⟩
theorem vx_calli {S SX : Type} {post : Int32 → S → Prop} {px : SX → Prop} {B : S → State → Prop} {BX : String → SX → State → Prop} {AX : Nat → Prop} (hr : vx_Run p l e R s m args below meth c H locs cells slots mc ms (F0 m pc ls st0) rest (va_Qi post B A1 a) (vx_X px BX AX) free) (hS : va_S A0 H0 H locs) (hA : ∀ q, q < H.size → A1 q → A0 q) (hf : ∀ q, free q → A0 q) (hAX : ∀ q, q < H.size → AX q → A0 q)
    (kx : ∀ (E : String) (ce : Cell) (q9 : Addr) (u : SX) (t : State) (H1 : Heap) (locs1 : List Loc), t.heap = H1 → s.vm.Alike t.vm → px u → BX E u t → H.size ≤ H1.size → (∀ q : Nat, q < H.size → ¬ AX q → H1[q]? = H[q]?) → va_S A0 H0 H1 locs1 → H1[q9]? = some ce → ce.vm = .none → s.vm.findClass E = some ce.cls → vx_W p l e R s m args below meth c H1 locs1 (cells + mc) (slots + ms) Q (F0 m pc ls rest) q9)
    (kk : ∀ (r : Int32) (u : S) (t : State) (H1 : Heap) (locs1 : List Loc), t.heap = H1 → s.vm.Alike t.vm → post r u → B u t → H.size ≤ H1.size → (∀ q : Nat, q < H.size → ¬ A1 q → H1[q]? = H[q]?) → va_S A0 H0 H1 locs1 → W p l e R s m args below meth c H1 locs1 (cells + mc) (slots + ms) Q (F0 m (pc + 3) ls (.int r :: rest))) : W p l e R s m args below meth c H locs cells slots Q (F0 m pc ls st0) := by
  intro T hT X
  rcases hr T hT X with ⟨v, st₀, t, T', L, h0, X', hL, e1, e2, ⟨⟨r, u, hv, hp, hb⟩, hF⟩, st⟩ | ⟨q, st₀, t, T', L, E, ce, h0, X', hL, e1, e2, ⟨u, hp, hb, hF⟩, hce, hcv, hcl, st⟩
  · cases hv
    obtain ⟨k1, k2, k3⟩ := vx_keep h0 e1 hS hA hf hL hF
    obtain ⟨t2, a1, b1⟩ := kk r u t T'.heap (locs ++ L) e1.symm (by rw [← e2]; exact X'.warmed.alike) hp hb k1 k2 k3 T' rfl X'
    exact ⟨t2, st t2 a1, b1⟩
  · obtain ⟨k1, k2, k3⟩ := vx_keep h0 e1 hS hAX hf hL hF
    obtain ⟨t2, a1, b1⟩ := kx E ce q u t T'.heap (locs ++ L) e1.symm (by rw [← e2]; exact X'.warmed.alike) hp hb k1 k2 k3 (by rw [e1]; exact hce) hcv hcl T' rfl X'
    exact ⟨t2, st.trans a1, b1⟩
theorem vx_calll {S SX : Type} {post : Int64 → S → Prop} {px : SX → Prop} {B : S → State → Prop} {BX : String → SX → State → Prop} {AX : Nat → Prop} (hr : vx_Run p l e R s m args below meth c H locs cells slots mc ms (F0 m pc ls st0) rest (va_Ql post B A1 a) (vx_X px BX AX) free) (hS : va_S A0 H0 H locs) (hA : ∀ q, q < H.size → A1 q → A0 q) (hf : ∀ q, free q → A0 q) (hAX : ∀ q, q < H.size → AX q → A0 q)
    (kx : ∀ (E : String) (ce : Cell) (q9 : Addr) (u : SX) (t : State) (H1 : Heap) (locs1 : List Loc), t.heap = H1 → s.vm.Alike t.vm → px u → BX E u t → H.size ≤ H1.size → (∀ q : Nat, q < H.size → ¬ AX q → H1[q]? = H[q]?) → va_S A0 H0 H1 locs1 → H1[q9]? = some ce → ce.vm = .none → s.vm.findClass E = some ce.cls → vx_W p l e R s m args below meth c H1 locs1 (cells + mc) (slots + ms) Q (F0 m pc ls rest) q9)
    (kk : ∀ (r : Int64) (u : S) (t : State) (H1 : Heap) (locs1 : List Loc), t.heap = H1 → s.vm.Alike t.vm → post r u → B u t → H.size ≤ H1.size → (∀ q : Nat, q < H.size → ¬ A1 q → H1[q]? = H[q]?) → va_S A0 H0 H1 locs1 → W p l e R s m args below meth c H1 locs1 (cells + mc) (slots + ms) Q (F0 m (pc + 3) ls (.long r :: rest))) : W p l e R s m args below meth c H locs cells slots Q (F0 m pc ls st0) := by
  intro T hT X
  rcases hr T hT X with ⟨v, st₀, t, T', L, h0, X', hL, e1, e2, ⟨⟨r, u, hv, hp, hb⟩, hF⟩, st⟩ | ⟨q, st₀, t, T', L, E, ce, h0, X', hL, e1, e2, ⟨u, hp, hb, hF⟩, hce, hcv, hcl, st⟩
  · cases hv
    obtain ⟨k1, k2, k3⟩ := vx_keep h0 e1 hS hA hf hL hF
    obtain ⟨t2, a1, b1⟩ := kk r u t T'.heap (locs ++ L) e1.symm (by rw [← e2]; exact X'.warmed.alike) hp hb k1 k2 k3 T' rfl X'
    exact ⟨t2, st t2 a1, b1⟩
  · obtain ⟨k1, k2, k3⟩ := vx_keep h0 e1 hS hAX hf hL hF
    obtain ⟨t2, a1, b1⟩ := kx E ce q u t T'.heap (locs ++ L) e1.symm (by rw [← e2]; exact X'.warmed.alike) hp hb k1 k2 k3 (by rw [e1]; exact hce) hcv hcl T' rfl X'
    exact ⟨t2, st.trans a1, b1⟩
theorem vx_callf {S SX : Type} {post : UInt32 → S → Prop} {px : SX → Prop} {B : S → State → Prop} {BX : String → SX → State → Prop} {AX : Nat → Prop} (hr : vx_Run p l e R s m args below meth c H locs cells slots mc ms (F0 m pc ls st0) rest (va_Qf post B A1 a) (vx_X px BX AX) free) (hS : va_S A0 H0 H locs) (hA : ∀ q, q < H.size → A1 q → A0 q) (hf : ∀ q, free q → A0 q) (hAX : ∀ q, q < H.size → AX q → A0 q)
    (kx : ∀ (E : String) (ce : Cell) (q9 : Addr) (u : SX) (t : State) (H1 : Heap) (locs1 : List Loc), t.heap = H1 → s.vm.Alike t.vm → px u → BX E u t → H.size ≤ H1.size → (∀ q : Nat, q < H.size → ¬ AX q → H1[q]? = H[q]?) → va_S A0 H0 H1 locs1 → H1[q9]? = some ce → ce.vm = .none → s.vm.findClass E = some ce.cls → vx_W p l e R s m args below meth c H1 locs1 (cells + mc) (slots + ms) Q (F0 m pc ls rest) q9)
    (kk : ∀ (r : UInt32) (u : S) (t : State) (H1 : Heap) (locs1 : List Loc), t.heap = H1 → s.vm.Alike t.vm → post r u → B u t → H.size ≤ H1.size → (∀ q : Nat, q < H.size → ¬ A1 q → H1[q]? = H[q]?) → va_S A0 H0 H1 locs1 → W p l e R s m args below meth c H1 locs1 (cells + mc) (slots + ms) Q (F0 m (pc + 3) ls (.float r :: rest))) : W p l e R s m args below meth c H locs cells slots Q (F0 m pc ls st0) := by
  intro T hT X
  rcases hr T hT X with ⟨v, st₀, t, T', L, h0, X', hL, e1, e2, ⟨⟨r, u, hv, hp, hb⟩, hF⟩, st⟩ | ⟨q, st₀, t, T', L, E, ce, h0, X', hL, e1, e2, ⟨u, hp, hb, hF⟩, hce, hcv, hcl, st⟩
  · cases hv
    obtain ⟨k1, k2, k3⟩ := vx_keep h0 e1 hS hA hf hL hF
    obtain ⟨t2, a1, b1⟩ := kk r u t T'.heap (locs ++ L) e1.symm (by rw [← e2]; exact X'.warmed.alike) hp hb k1 k2 k3 T' rfl X'
    exact ⟨t2, st t2 a1, b1⟩
  · obtain ⟨k1, k2, k3⟩ := vx_keep h0 e1 hS hAX hf hL hF
    obtain ⟨t2, a1, b1⟩ := kx E ce q u t T'.heap (locs ++ L) e1.symm (by rw [← e2]; exact X'.warmed.alike) hp hb k1 k2 k3 (by rw [e1]; exact hce) hcv hcl T' rfl X'
    exact ⟨t2, st.trans a1, b1⟩
theorem vx_calld {S SX : Type} {post : UInt64 → S → Prop} {px : SX → Prop} {B : S → State → Prop} {BX : String → SX → State → Prop} {AX : Nat → Prop} (hr : vx_Run p l e R s m args below meth c H locs cells slots mc ms (F0 m pc ls st0) rest (va_Qd post B A1 a) (vx_X px BX AX) free) (hS : va_S A0 H0 H locs) (hA : ∀ q, q < H.size → A1 q → A0 q) (hf : ∀ q, free q → A0 q) (hAX : ∀ q, q < H.size → AX q → A0 q)
    (kx : ∀ (E : String) (ce : Cell) (q9 : Addr) (u : SX) (t : State) (H1 : Heap) (locs1 : List Loc), t.heap = H1 → s.vm.Alike t.vm → px u → BX E u t → H.size ≤ H1.size → (∀ q : Nat, q < H.size → ¬ AX q → H1[q]? = H[q]?) → va_S A0 H0 H1 locs1 → H1[q9]? = some ce → ce.vm = .none → s.vm.findClass E = some ce.cls → vx_W p l e R s m args below meth c H1 locs1 (cells + mc) (slots + ms) Q (F0 m pc ls rest) q9)
    (kk : ∀ (r : UInt64) (u : S) (t : State) (H1 : Heap) (locs1 : List Loc), t.heap = H1 → s.vm.Alike t.vm → post r u → B u t → H.size ≤ H1.size → (∀ q : Nat, q < H.size → ¬ A1 q → H1[q]? = H[q]?) → va_S A0 H0 H1 locs1 → W p l e R s m args below meth c H1 locs1 (cells + mc) (slots + ms) Q (F0 m (pc + 3) ls (.double r :: rest))) : W p l e R s m args below meth c H locs cells slots Q (F0 m pc ls st0) := by
  intro T hT X
  rcases hr T hT X with ⟨v, st₀, t, T', L, h0, X', hL, e1, e2, ⟨⟨r, u, hv, hp, hb⟩, hF⟩, st⟩ | ⟨q, st₀, t, T', L, E, ce, h0, X', hL, e1, e2, ⟨u, hp, hb, hF⟩, hce, hcv, hcl, st⟩
  · cases hv
    obtain ⟨k1, k2, k3⟩ := vx_keep h0 e1 hS hA hf hL hF
    obtain ⟨t2, a1, b1⟩ := kk r u t T'.heap (locs ++ L) e1.symm (by rw [← e2]; exact X'.warmed.alike) hp hb k1 k2 k3 T' rfl X'
    exact ⟨t2, st t2 a1, b1⟩
  · obtain ⟨k1, k2, k3⟩ := vx_keep h0 e1 hS hAX hf hL hF
    obtain ⟨t2, a1, b1⟩ := kx E ce q u t T'.heap (locs ++ L) e1.symm (by rw [← e2]; exact X'.warmed.alike) hp hb k1 k2 k3 (by rw [e1]; exact hce) hcv hcl T' rfl X'
    exact ⟨t2, st.trans a1, b1⟩
theorem vx_callv {S SX : Type} {post : S → Prop} {px : SX → Prop} {B : S → State → Prop} {BX : String → SX → State → Prop} {AX : Nat → Prop} (hr : vx_Run p l e R s m args below meth c H locs cells slots mc ms (F0 m pc ls st0) rest (va_Qv post B A1 a) (vx_X px BX AX) free) (hS : va_S A0 H0 H locs) (hA : ∀ q, q < H.size → A1 q → A0 q) (hf : ∀ q, free q → A0 q) (hAX : ∀ q, q < H.size → AX q → A0 q)
    (kx : ∀ (E : String) (ce : Cell) (q9 : Addr) (u : SX) (t : State) (H1 : Heap) (locs1 : List Loc), t.heap = H1 → s.vm.Alike t.vm → px u → BX E u t → H.size ≤ H1.size → (∀ q : Nat, q < H.size → ¬ AX q → H1[q]? = H[q]?) → va_S A0 H0 H1 locs1 → H1[q9]? = some ce → ce.vm = .none → s.vm.findClass E = some ce.cls → vx_W p l e R s m args below meth c H1 locs1 (cells + mc) (slots + ms) Q (F0 m pc ls rest) q9)
    (kk : ∀ (u : S) (t : State) (H1 : Heap) (locs1 : List Loc), t.heap = H1 → s.vm.Alike t.vm → post u → B u t → H.size ≤ H1.size → (∀ q : Nat, q < H.size → ¬ A1 q → H1[q]? = H[q]?) → va_S A0 H0 H1 locs1 → W p l e R s m args below meth c H1 locs1 (cells + mc) (slots + ms) Q (F0 m (pc + 3) ls (rest))) : W p l e R s m args below meth c H locs cells slots Q (F0 m pc ls st0) := by
  intro T hT X
  rcases hr T hT X with ⟨v, st₀, t, T', L, h0, X', hL, e1, e2, ⟨⟨u, hv, hp, hb⟩, hF⟩, st⟩ | ⟨q, st₀, t, T', L, E, ce, h0, X', hL, e1, e2, ⟨u, hp, hb, hF⟩, hce, hcv, hcl, st⟩
  · cases hv
    obtain ⟨k1, k2, k3⟩ := vx_keep h0 e1 hS hA hf hL hF
    obtain ⟨t2, a1, b1⟩ := kk u t T'.heap (locs ++ L) e1.symm (by rw [← e2]; exact X'.warmed.alike) hp hb k1 k2 k3 T' rfl X'
    exact ⟨t2, st t2 a1, b1⟩
  · obtain ⟨k1, k2, k3⟩ := vx_keep h0 e1 hS hAX hf hL hF
    obtain ⟨t2, a1, b1⟩ := kx E ce q u t T'.heap (locs ++ L) e1.symm (by rw [← e2]; exact X'.warmed.alike) hp hb k1 k2 k3 (by rw [e1]; exact hce) hcv hcl T' rfl X'
    exact ⟨t2, st.trans a1, b1⟩
/-- caught by the row x of this method's table; the rows ahead don't take it -/
theorem vx_catch {own name : String} {E : String} {ce : Cell} {q : Addr} (hown : s.vm.findClass own = some m.cls) (pre : List ExceptionTableEntry) (x : ExceptionTableEntry) (suf : List ExceptionTableEntry) (hsplit : c.exceptionTable.toList = pre ++ x :: suf)
    (hpass : ∀ z ∈ pre, covers z pc = false ∨ (z.catchType ≠ 0 ∧ ∃ nm : String, (Cond.classLink own z.catchType nm).before args s = true ∧ va_Nc E nm s)) (hx : covers x pc = true) (h0 : x.catchType ≠ 0)
    (hlink : (Cond.classLink own x.catchType name).before args s = true) (hcast : (Cond.castable E name).before args s = true) (hcell : H[q]? = some ce) (hv : ce.vm = .none) (hcl : s.vm.findClass E = some ce.cls)
    (kk : W p l e R s m args below meth c H locs cells slots Q (F0 m x.handlerPc ls [.ref q])) : vx_W p l e R s m args below meth c H locs cells slots Q (F0 m pc ls rest) q := by
  intro T hT X
  have hpl : e.platform.magicAccessors = ({} : Platform).magicAccessors := by rw [X.admits.platform]
  obtain ⟨c3, c4, hc3, hc4, hasg⟩ := Cond.castable_spec hcast
  cases Option.some.inj (hc3.symm.trans hcl)
  obtain ⟨c5, hc5, hcl5⟩ := Cond.classLink_spec hown hlink e.platform hpl
  cases Option.some.inj (hc4.symm.trans hc5)
  obtain ⟨vm', X', st⟩ := X.thenCaughtThrough q (g := F0 m pc ls rest) rfl (Steps.refl _) (by rw [hT]; exact hcell) (by rw [hv]; rfl) (by obtain ⟨k9, h9, -⟩ := Vm.findClass_spec hcl; exact ⟨k9, h9⟩) pre x suf hsplit
    (fun z hz => by
      rcases hpass z hz with h | ⟨hz0, nm, hl1, hn1⟩
      · exact Or.inl h
      · obtain ⟨c6, hc6, hcl6⟩ := Cond.classLink_spec hown hl1 e.platform hpl
        obtain ⟨a8, b8, h1, h2, h3⟩ := hn1
        cases Option.some.inj (h1.symm.trans hcl)
        cases Option.some.inj (h2.symm.trans hc6)
        exact Or.inr ⟨hz0, _, hcl6, h3⟩) hx (Or.inr ⟨h0, c4, hcl5, hasg⟩)
  obtain ⟨t, a1, b1⟩ := kk (T.setVm vm') hT X'
  exact ⟨t, st.trans a1, b1⟩
end Rows
section Ends
variable {p : Program} {l : Launch} {e : Env} {R : Room} {s : State} {m : MethodId} {args : Array Value} {below : List Frame} {meth : Method} {c : Code} {H : Heap} {locs : List Loc} {cells slots : Nat} {Q : State → Prop}
variable {mc ms : Nat} {free : Addr → Prop} {A0 A1 : Nat → Prop} {H0 : Heap} {a : Array Value} {ls : Array Slot} {st0 rest : List Value}
variable {Qc : Array Value → State → Outcome → State → Prop} {XC : String → State → State → Prop}
/-- what a body that may throw owes at its end -/
def vx_MQ (below : List Frame) (Qc : Array Value → State → Outcome → State → Prop) (XC : String → State → State → Prop) (a : Array Value) (s : State) (mc ms : Nat) (free : Addr → Prop) : State → Prop := fun t =>
  ∃ o, t.status = .running ∧ Ended t below o ∧ vx_Q Qc XC mc ms free a s o t
theorem vx_ret {g : JFrame} {mc ms : Nat} (k : W p l e R s m args below meth c H locs cells slots (MQ below Qc args s mc ms free) g) : W p l e R s m args below meth c H locs cells slots (vx_MQ below Qc XC args s mc ms free) g := by
  intro T hT X
  obtain ⟨t, a1, o, b1, b2, b3, b4⟩ := k T hT X
  exact ⟨t, a1, o, b1, b2, Or.inl ⟨b3, b4⟩⟩
/-- not caught here: it goes on to the caller -/
theorem vx_widen {g : JFrame} {q : Addr} {k n : Nat} (h1 : cells ≤ k) (h2 : slots ≤ n) (kk : vx_W p l e R s m args below meth c H locs k n Q g q) : vx_W p l e R s m args below meth c H locs cells slots Q g q := fun T hT X => kk T hT (stand_widen X h1 h2)
theorem vx_out {pc : Nat} {E : String} {ce : Cell} {q : Addr} {mc ms : Nat} (hout : ∀ x ∈ c.exceptionTable.toList, covers x pc = false) (hlocks : meth.locks = false) (hcell : H[q]? = some ce) (hv : ce.vm = .none) (hcl : s.vm.findClass E = some ce.cls)
    (hx : ∀ t : State, t.heap = H → s.vm.Alike t.vm → XC E s t) (hf : ∀ z ∈ locs, free z.base) (hc : cells ≤ mc) (hs : slots ≤ ms) :
    vx_W p l e R s m args below meth c H locs cells slots (vx_MQ below Qc XC args s mc ms free) (F0 m pc ls rest) q := by
  intro T hT X
  obtain ⟨st1, hrun, hend, hW, hsm⟩ := X.leaveThrown q (g := F0 m pc ls rest) rfl rfl rfl hout hlocks
  have hcell9 : (T.setFrames (.throwing q :: below)).heap[q]? = some ce := by
    show T.heap[q]? = some ce
    rw [hT]; exact hcell
  exact ⟨_, st1, .threw q, hrun, hend, Or.inr ⟨q, rfl, E, ce, locs, hx _ hT hW.alike, hcell9, hv, hcl, hW, hsm.mono hc hs, hf⟩⟩
theorem vx_frame {U : State} {k n : Nat} (h : s.sameButNew ({ U with vm := s.vm } : State) locs k n) : s.heap.size ≤ U.heap.size ∧ ∀ q : Nat, q < s.heap.size → (∀ z ∈ locs, z.base ≠ q) → U.heap[q]? = s.heap[q]? := by
  obtain ⟨-, h2, -, -, -, h6⟩ := h
  refine ⟨h2, fun q hq hz => ?_⟩
  obtain ⟨c9, e1, e2, e3, e4⟩ := h6 q _ (Array.getElem?_eq_getElem hq)
  have hs : c9.slots = (s.heap[q]).slots := Array.ext_getElem? fun i => e4 i fun hm => hz _ hm rfl
  have h9 : c9 = s.heap[q] := by
    rw [hs] at e2
    exact e2
  have e5 : U.heap[q]? = some c9 := e1
  rw [e5, h9, Array.getElem?_eq_getElem hq]
/-- the words of a throw but the four that speak of the heap -/
def vx_no (w : Cond) : Bool := decide (w ≠ .isRef (.static Bundle.tN "UNASSIGNED_STACK" Bundle.steD)) && decide (w ≠ .isRef (.static Bundle.tN "SUPPRESSED_SENTINEL" Bundle.listD)) && decide (w ≠ .laysStatic Bundle.tN "UNASSIGNED_STACK" Bundle.steD) && decide (w ≠ .laysStatic Bundle.tN "SUPPRESSED_SENTINEL" Bundle.listD)
def vx_at0 (own : String) (ic : Nat) (X : String) (names : List String) : List Cond := (Bundle.ownAtoms0 own ic X names).filter vx_no
def vx_atS (own : String) (ic : Nat) (X : String) (names : List String) : List Cond := (Bundle.ownAtoms own ic X names).filter vx_no
/-- a word that the tables alone decide, or a good one -/
def vx_ot (w : Cond) : Bool := w.onTables || goodWord w
theorem vx_ot_at {args a' : Array Value} {s U : State} {w : Cond} (hW : s.WarmedH U.vm) (hvm : s.vm = U.vm) (hg : vx_ot w = true) (h : w.before args s = true) : w.before a' U = true := by
  simp only [vx_ot, Bool.or_eq_true] at hg
  rcases hg with hg | hg
  · exact va_tabs hg hvm h
  · exact word_at hW (good_of_word hg) h
/-- a list's words: the good ones out of the method's own list, the others by premises of their own -/
theorem vx_hat {args : Array Value} {s : State} {L B : List Cond} (h1 : ∀ w ∈ L.filter goodWord, w.before args s = true) (h2 : ∀ w ∈ L.filter (fun w => !goodWord w), w ∈ B) (h3 : ∀ w ∈ B, w.before args s = true) : ∀ w ∈ L, w.before args s = true := by
  intro w hw
  by_cases g : goodWord w = true
  · exact h1 w (List.mem_filter.mpr ⟨hw, g⟩)
  · refine h3 w (h2 w (List.mem_filter.mpr ⟨hw, ?_⟩))
    show (!goodWord w) = true
    cases hgw : goodWord w
    · rfl
    · exact absurd hgw g
theorem vx_c {args : Array Value} {s : State} {w : Cond} {B : List Cond} (h : w.before args s = true) (t : ∀ w ∈ B, w.before args s = true) : ∀ w' ∈ w :: B, w'.before args s = true := fun w' h' => (List.mem_cons.mp h').elim (fun e => by rw [e]; exact h) (t w')
theorem vx_n {args : Array Value} {s : State} : ∀ w ∈ ([] : List Cond), w.before args s = true := fun _ h => nomatch h
theorem vx_own {args : Array Value} {s : State} {L : List Cond} (h1 : ∀ w ∈ L.filter vx_no, w.before args s = true)
    (hU : (Cond.isRef (.static Bundle.tN "UNASSIGNED_STACK" Bundle.steD)).before args s = true) (hN : (Cond.isRef (.static Bundle.tN "SUPPRESSED_SENTINEL" Bundle.listD)).before args s = true)
    (lU : (Cond.laysStatic Bundle.tN "UNASSIGNED_STACK" Bundle.steD).before args s = true) (lN : (Cond.laysStatic Bundle.tN "SUPPRESSED_SENTINEL" Bundle.listD).before args s = true) : ∀ w ∈ L, w.before args s = true := by
  intro w hw
  by_cases e1 : w = .isRef (.static Bundle.tN "UNASSIGNED_STACK" Bundle.steD)
  · rw [e1]; exact hU
  · by_cases e2 : w = .isRef (.static Bundle.tN "SUPPRESSED_SENTINEL" Bundle.listD)
    · rw [e2]; exact hN
    · by_cases e3 : w = .laysStatic Bundle.tN "UNASSIGNED_STACK" Bundle.steD
      · rw [e3]; exact lU
      · by_cases e4 : w = .laysStatic Bundle.tN "SUPPRESSED_SENTINEL" Bundle.listD
        · rw [e4]; exact lN
        · exact h1 w (List.mem_filter.mpr ⟨hw, by unfold vx_no; rw [decide_eq_true e1, decide_eq_true e2, decide_eq_true e3, decide_eq_true e4]; rfl⟩)
/-- where a static field lies, its class's statics cell in H -/
def vx_L (C n d : String) (A : Nat → Prop) (U : State) (H : Heap) : Prop := ∃ (c : ClassId) (k : Class) (i : Nat) (f : Field) (a : Nat) (cell : Cell), U.vm.findClass C = some c ∧ U.fieldFound? C n d = some (c, k, i, f) ∧ f.isStatic = true ∧ k.statics = some a ∧ H[a]? = some cell ∧ cell.vm.isStatics = true ∧ cell.cls = c ∧ f.slot < cell.slots.size ∧ k.staticTypes[f.slot]? = some f.type ∧ ¬ A a
theorem vx_L.moved {C n d : String} {A : Nat → Prop} {u U : State} {H : Heap} (hvm : u.vm.Alike U.vm) (h : vx_L C n d A u H) : vx_L C n d A U H := by
  obtain ⟨c, k, i, f, a, cell, h1, h2, h3, h4, h5, h6, h7, h8, h9, h10⟩ := h
  obtain ⟨k', hi', he⟩ := State.fieldFound?_setVm hvm h2
  exact ⟨c, k', i, f, a, cell, by rw [hvm.findClass]; exact h1, hi', h3, by rw [he]; exact h4, h5, h6, h7, h8, by rw [he]; exact h9, h10⟩
theorem vx_L.kept {C n d : String} {A : Nat → Prop} {U : State} {H H1 : Heap} (h : vx_L C n d A U H) (hq : ∀ a : Nat, a < H.size → ¬ A a → H1[a]? = H[a]?) : vx_L C n d A U H1 := by
  obtain ⟨c, k, i, f, a, cell, h1, h2, h3, h4, h5, h6, h7, h8, h9, h10⟩ := h
  exact ⟨c, k, i, f, a, cell, h1, h2, h3, h4, by rw [hq a (Array.getElem?_eq_some_iff.mp h5).1 h10]; exact h5, h6, h7, h8, h9, h10⟩
theorem vx_L.narrow {C n d : String} {A B : Nat → Prop} {U : State} {H : Heap} (h : vx_L C n d A U H) (hAB : ∀ q, B q → A q) : vx_L C n d B U H := by
  obtain ⟨c, k, i, f, a, cell, h1, h2, h3, h4, h5, h6, h7, h8, h9, h10⟩ := h
  exact ⟨c, k, i, f, a, cell, h1, h2, h3, h4, h5, h6, h7, h8, h9, fun z => h10 (hAB _ z)⟩
theorem vx_L.word {C n d : String} {A : Nat → Prop} {s : State} {args : Array Value} (h : vx_L C n d A s s.heap) : (Cond.laysStatic C n d).before args s = true := by
  obtain ⟨c, k, i, f, a, cell, h1, h2, h3, h4, h5, h6, h7, h8, h9, -⟩ := h
  show (Cond.laysStatic C n d).holds args s none s [] = true
  exact Cond.laysStatic_of h1 h2 h3 h4 h5 h6 h7 h8 h9
/-- .. and what it holds: null or some reference -/
def vx_Zq (C n d : String) (A : Nat → Prop) (U : State) (H : Heap) : Prop := va_Zq C n d A U H ∧ vx_L C n d A U H
theorem vx_Zq.moved {C n d : String} {A : Nat → Prop} {u U : State} {H : Heap} (hvm : u.vm.Alike U.vm) (h : vx_Zq C n d A u H) : vx_Zq C n d A U H := ⟨va_Zq.moved hvm h.1, vx_L.moved hvm h.2⟩
theorem vx_Zq.kept {C n d : String} {A : Nat → Prop} {U : State} {H H1 : Heap} (h : vx_Zq C n d A U H) (hq : ∀ a : Nat, a < H.size → ¬ A a → H1[a]? = H[a]?) : vx_Zq C n d A U H1 := ⟨va_Zq.kept h.1 hq, vx_L.kept h.2 hq⟩
theorem vx_Zq.narrow {C n d : String} {A B : Nat → Prop} {U : State} {H : Heap} (h : vx_Zq C n d A U H) (hAB : ∀ q, B q → A q) : vx_Zq C n d B U H := ⟨va_Zq.narrow h.1 hAB, vx_L.narrow h.2 hAB⟩
theorem vx_Zqof {args : Array Value} {s : State} {C n d : String} {A : Nat → Prop} (hl : (Cond.laysStatic C n d).before args s = true) (hini : (Cond.initialized C).before args s = true) (h : (Cond.isRef (.static C n d)).before args s = true) (hA : ∀ a : Nat, a < s.heap.size → ¬ A a) : vx_Zq C n d A s s.heap := by
  refine ⟨va_Zqof hl hini h hA, ?_⟩
  obtain ⟨c, k, i, f, a, cell, h1, h2, h3, h4, h5, h6, h7, h8, h9⟩ := Cond.laysStatic_spec hl
  exact ⟨c, k, i, f, a, cell, h1, h2, h3, h4, h5, h6, h7, h8, h9, hA a (Array.getElem?_eq_some_iff.mp h5).1⟩
theorem vx_isRef {C n d : String} {v : Value} {A : Nat → Prop} {s : State} {args : Array Value} (h : va_Z C n d v A s s.heap) (hv : v.isRef = true) : (Cond.isRef (.static C n d)).before args s = true := by
  obtain ⟨cf, kf, fi, f, a, cell, h1, h2, h3, h4, h5, h6, h7, -⟩ := h
  have he : (Term.static C n d).eval args s none [] s = some v := by
    simp [Term.eval, State.fieldNamed?, h1, h2, h4, h5, h6, h7]
  simp only [Cond.before, Cond.holds, Cond.value, he]
  cases v <;> simp_all [Value.isRef]
theorem vx_isRefq {C n d : String} {A : Nat → Prop} {s : State} {args : Array Value} (h : va_Zq C n d A s s.heap) : (Cond.isRef (.static C n d)).before args s = true := by
  rcases h with h | ⟨t, h⟩
  · exact vx_isRef h rfl
  · exact vx_isRef h rfl
/-- the same frame, seen from here: as if the method were called anew in this heap -/
theorem vx_rebase {T : State} (X : Stand p l e R s m args below meth c T locs cells slots) {R' : Room} (hf : R'.frames ≤ R.frames) (hl : R'.locals ≤ R.locals) (hc : cells + R'.cells ≤ R.cells) (hs : slots + R'.slots ≤ R.slots) :
    Stand p l e R' ((T.setVm s.vm).setFrames (.invoking m args :: below)) m args below meth c T [] 0 0 := by
  have htop : (T.setVm s.vm).topJava?.isSome := X.here.top
  have hF : ((T.setVm s.vm).setFrames (.invoking m args :: below)).frames = .invoking m args :: below := State.frames_setFrames _ (State.cur_lt_of_top htop)
  obtain ⟨g₀, hg0⟩ := Option.isSome_iff_exists.mp htop
  obtain ⟨r, hr⟩ := State.topJava?_eq_some.mp hg0
  have hl9 : e.platform.stackLimits (T.setVm s.vm).me = e.platform.stackLimits s.me := X.limits
  have hb9 : (T.setVm s.vm).me.stackBytes = s.me.stackBytes := X.bytes
  refine ⟨X.admits, X.cas, X.clock, hF, ?_, X.hears, X.method, X.code, X.here, X.tail, X.warmed, ?_, ?_, ?_⟩
  · have h := X.room
    have hU : ((T.setVm s.vm).setFrames (.invoking m args :: below)).localsInUse = s.localsInUse := by
      rw [State.localsInUse_invoking hF (meth := meth) (c := c) X.method X.code, State.localsInUse_invoking X.frames X.method X.code]
    simp only [State.hasRoom, Bool.and_eq_true, decide_eq_true_eq] at h ⊢
    obtain ⟨⟨⟨⟨h1, h2, h3, h4, h5, h6⟩, h7⟩, h8⟩, h9⟩ := h
    rw [X.frames, List.length_cons] at h2 h3
    have q1 := X.heapSize
    have q2 := X.used
    simp only [hF, hU, List.length_cons, State.stackLimits_setFrames, State.stackBytes_setFrames, hl9, hb9]
    refine ⟨⟨⟨⟨by omega, by omega, by omega, by omega, by omega, h6⟩, ?_⟩, ?_⟩, X.book⟩
    · show T.heap.size + R'.cells ≤ e.platform.maxCells
      omega
    · show T.slotsUsed + R'.slots ≤ e.platform.maxSlots
      omega
  · rw [State.stackLimits_setFrames]; rfl
  · rw [State.stackBytes_setFrames]; rfl
  · refine ⟨?_, Nat.le_refl _, Nat.le_refl _, ?_, ?_, fun a c9 h9 => ⟨c9, h9, rfl, rfl, fun _ _ => rfl⟩⟩
    · obtain ⟨t, ht, -⟩ := State.frames_cons hr
      show T.setVm s.vm = { ((T.setVm s.vm).setFrames (.invoking m args :: below)).setFrames (T.setVm s.vm).frames with heap := T.heap, slotsUsed := T.slotsUsed }
      rw [State.setFrames_setFrames, State.setFrames_self ht]
      rfl
    · show T.slotsUsed = T.slotsUsed + ((T.heap.toList.drop T.heap.size).map (·.slots.size)).sum
      rw [List.drop_eq_nil_of_le (Nat.le_of_eq Array.length_toList)]
      rfl
    · show ((T.heap.toList.drop T.heap.size).map (·.slots.size)).sum ≤ 0
      rw [List.drop_eq_nil_of_le (Nat.le_of_eq Array.length_toList)]
      exact Nat.le_refl _
/-- 'throw new E()': new; dup; invokespecial; athrow -/
theorem vx_throw0 {cc : ByteArray} {pc : Nat} (hexec : p.tables.exec = Jvm.exec) (hb : c.code = cc) (hl : l.stackTraces = false) {own cls : String} {names : List String} {ik ic mc ms : Nat} {A : Nat → Prop}
    (hown : s.vm.findClass own = some m.cls) (hcls : Bundle.fit cls = true) (hnames : ∀ n ∈ names, Bundle.fit n = true)
    (hk : (Cond.classLink own ik cls).before args s = true) (hini : (Cond.initialized cls).before args s = true) (hat : ∀ w ∈ vx_at0 own ic cls names, w.before args s = true)
    (hgood : ∀ w ∈ Cond.classLink own ik cls :: Cond.initialized cls :: vx_at0 own ic cls names, vx_ot w = true)
    (hU : vx_Zq Bundle.tN "UNASSIGNED_STACK" Bundle.steD A s s.heap) (hN : vx_Zq Bundle.tN "SUPPRESSED_SENTINEL" Bundle.listD A s s.heap) (hS : va_S A s.heap H locs) (hsize : ls.size = c.maxLocals)
    (d0 : decode cc pc = .ok (.new ik, 3)) (d3 : decode cc (pc + 3) = .ok (.dup, 1)) (d4 : decode cc (pc + 4) = .ok (.invokespecial ic, 3)) (d7 : decode cc (pc + 7) = .ok (.athrow, 1))
    (hout : ∀ x ∈ c.exceptionTable.toList, covers x (pc + 7) = false)
    (hRframes : names.length + 3 < R.frames) (hRlocals : (rest.map fun v => v.category).sum + (13 * (names.length + 1) + 42) ≤ R.locals) (hRcells : cells + 1 ≤ R.cells) (hRslots : slots + 6 ≤ R.slots) (hlocks : meth.locks = false)
    (hx : ∀ t : State, s.vm.Alike t.vm → H.size ≤ t.heap.size → (∀ q : Nat, q < H.size → t.heap[q]? = H[q]?) → XC cls s t)
    (hf : ∀ z ∈ locs, free z.base) (hc : cells + 1 ≤ mc) (hs : slots + 6 ≤ ms) :
    W p l e R s m args below meth c H locs cells slots (vx_MQ below Qc XC args s mc ms free) (F0 m pc ls rest) := by
  intro T hT X
  have htr : e.platform.stackTraces = false := (show e.platform.stackTraces = l.stackTraces by rw [X.admits.platform]).trans hl
  have Y := vx_rebase X (R' := { frames := R.frames, locals := R.locals, cells := 1, slots := 6 }) (Nat.le_refl _) (Nat.le_refl _) hRcells hRslots
  obtain ⟨s', hA⟩ : ∃ z, z = (T.setVm s.vm).setFrames (.invoking m args :: below) := ⟨_, rfl⟩
  rw [← hA] at Y
  have hvm : s'.vm = s.vm := by rw [hA]; rfl
  have hhp : s'.heap = H := by rw [hA]; exact hT
  have hW0 : s.WarmedH s'.vm := by rw [hvm]; exact State.WarmedH.refl s
  have hat' : ∀ w ∈ vx_at0 own ic cls names, w.before args s' = true := fun w hw => vx_ot_at hW0 hvm.symm (hgood w (List.mem_cons_of_mem _ (List.mem_cons_of_mem _ hw))) (hat w hw)
  have hk' : (Cond.classLink own ik cls).before args s' = true := vx_ot_at hW0 hvm.symm (hgood _ List.mem_cons_self) hk
  have hini' : (Cond.initialized cls).before args s' = true := vx_ot_at hW0 hvm.symm (hgood _ (List.mem_cons_of_mem _ List.mem_cons_self)) hini
  have hU' : vx_Zq Bundle.tN "UNASSIGNED_STACK" Bundle.steD A s' s'.heap := by rw [hhp]; exact vx_Zq.moved hW0.alike (hU.kept hS.2.1)
  have hN' : vx_Zq Bundle.tN "SUPPRESSED_SENTINEL" Bundle.listD A s' s'.heap := by rw [hhp]; exact vx_Zq.moved hW0.alike (hN.kept hS.2.1)
  have h : ∀ w ∈ Bundle.ownAtoms0 own ic cls names, w.before args s' = true := vx_own hat' (vx_isRefq hU'.1) (vx_isRefq hN'.1) hU'.2.word hN'.2.word
  have hown' : s'.vm.findClass own = some m.cls := by rw [hvm]; exact hown
  have hins : (Cond.instantiable cls 6).before args s' = true := h _ (by simp [Bundle.ownAtoms0])
  obtain ⟨vm₁, cX, kX, hfX, hkX, -, -, X₁, st1⟩ := Y.newCold hexec (own := own) (C := cls) (index := ik) (n := 6) hown' hk' hins hini'
    (g := F0 m pc ls rest) rfl (by rw [hb]; exact d0) (Nat.le_refl _) (Nat.le_refl _)
  generalize hT1 : (T.setVm vm₁).pushCell { cls := cX, slots := kX.instanceTypes.map defaultValue, vm := .none } = T1 at X₁ st1
  have hcat : (Value.ref T.heap.size).category = 1 := rfl
  have hcellA : T1.heap[T.heap.size]? = some (freshCell cX kX) := by rw [← hT1]; exact State.heap_pushCell_size _ _
  have d3' : decode c.code (pc + 3) = .ok (.dup, 1) := by rw [hb]; exact d3
  obtain ⟨U, hsteps, hrun, hend, hW, hsame, ce, hce, hO⟩ := X₁.ctorThrow0 hexec htr (own := own) (cls := cls) (names := names) (ic := ic) hown' hcls hnames h (fun x hx => nomatch hx) hfX hkX hcellA (by rw [hhp, hT]; exact Nat.le_refl _)
    (g := { method := m, pc := pc + 4, locals := ls, stack := .ref T.heap.size :: .ref T.heap.size :: rest, locked := none }) rfl hsize rfl rfl (rest := rest) rfl
    (by rw [hb]; exact d4) (by rw [hb]; exact d7) hout hRframes (by simp only [List.map_cons, List.sum_cons, hcat]; omega) hlocks
  obtain ⟨f1, f2⟩ := vx_frame hsame
  rw [hhp] at f1 f2
  have hWs : s.WarmedH U.vm := State.WarmedH.trans hW0 hW
  have hcl : s.vm.findClass cls = some ce.cls := by
    have h9 := hO.cls
    rw [hvm] at h9
    exact h9
  have hall : s.sameButNew ({ U with vm := s.vm } : State) locs mc ms := by
    subst hA
    obtain ⟨e1, e2⟩ := hsame
    rw [State.setFrames_setFrames] at e1
    have h2 : (T.setVm s.vm).sameButNew ({ U with vm := s.vm } : State) [] (0 + 1) (0 + 6) := ⟨e1, e2⟩
    have h3 := X.same.trans h2
    rw [List.append_nil] at h3
    exact h3.mono hc hs
  refine ⟨U, ?_, .threw T.heap.size, hrun, hend, Or.inr ⟨T.heap.size, rfl, cls, ce, locs, hx U hWs.alike f1 (fun q hq => f2 q hq (fun z hz => nomatch hz)), hce, hO.vm, hcl, hWs, hall, hf⟩⟩
  refine st1 _ ?_
  show Steps p.tables e below (T1.setTop { method := m, pc := pc + 3, locals := ls, stack := .ref T.heap.size :: rest, locked := none }) _
  jvm_step X₁.here [X₁.here.top, hexec, d3', Value.category]
  exact hsteps
/-- 'throw new E("text")': new; dup; ldc; invokespecial; athrow -/
theorem vx_throwS {cc : ByteArray} {pc : Nat} (hexec : p.tables.exec = Jvm.exec) (hb : c.code = cc) (hl : l.stackTraces = false) {own cls text : String} {names : List String} {ik is ic mc ms sa : Nat} {A : Nat → Prop}
    (hown : s.vm.findClass own = some m.cls) (hcls : Bundle.fit cls = true) (hnames : ∀ n ∈ names, Bundle.fit n = true)
    (hk : (Cond.classLink own ik cls).before args s = true) (hini : (Cond.initialized cls).before args s = true) (hstr : vk_R own is text sa s) (hat : ∀ w ∈ vx_atS own ic cls names, w.before args s = true)
    (hgood : ∀ w ∈ Cond.classLink own ik cls :: Cond.initialized cls :: vx_atS own ic cls names, vx_ot w = true)
    (hU : vx_Zq Bundle.tN "UNASSIGNED_STACK" Bundle.steD A s s.heap) (hN : vx_Zq Bundle.tN "SUPPRESSED_SENTINEL" Bundle.listD A s s.heap) (hS : va_S A s.heap H locs) (hsize : ls.size = c.maxLocals)
    (d0 : decode cc pc = .ok (.new ik, 3)) (d3 : decode cc (pc + 3) = .ok (.dup, 1)) (d4 : decode cc (pc + 4) = .ok (.ldc is, 2)) (d6 : decode cc (pc + 6) = .ok (.invokespecial ic, 3)) (d9 : decode cc (pc + 9) = .ok (.athrow, 1))
    (hout : ∀ x ∈ c.exceptionTable.toList, covers x (pc + 9) = false)
    (hRframes : names.length + 3 < R.frames) (hRlocals : (rest.map fun v => v.category).sum + (13 * (names.length + 1) + 43) ≤ R.locals) (hRcells : cells + 1 ≤ R.cells) (hRslots : slots + 6 ≤ R.slots) (hlocks : meth.locks = false)
    (hx : ∀ t : State, s.vm.Alike t.vm → H.size ≤ t.heap.size → (∀ q : Nat, q < H.size → t.heap[q]? = H[q]?) → XC cls s t)
    (hf : ∀ z ∈ locs, free z.base) (hc : cells + 1 ≤ mc) (hs : slots + 6 ≤ ms) :
    W p l e R s m args below meth c H locs cells slots (vx_MQ below Qc XC args s mc ms free) (F0 m pc ls rest) := by
  intro T hT X
  have htr : e.platform.stackTraces = false := (show e.platform.stackTraces = l.stackTraces by rw [X.admits.platform]).trans hl
  have Y := vx_rebase X (R' := { frames := R.frames, locals := R.locals, cells := 1, slots := 6 }) (Nat.le_refl _) (Nat.le_refl _) hRcells hRslots
  obtain ⟨s', hA⟩ : ∃ z, z = (T.setVm s.vm).setFrames (.invoking m args :: below) := ⟨_, rfl⟩
  rw [← hA] at Y
  have hvm : s'.vm = s.vm := by rw [hA]; rfl
  have hhp : s'.heap = H := by rw [hA]; exact hT
  have hW0 : s.WarmedH s'.vm := by rw [hvm]; exact State.WarmedH.refl s
  have hat' : ∀ w ∈ vx_atS own ic cls names, w.before args s' = true := fun w hw => vx_ot_at hW0 hvm.symm (hgood w (List.mem_cons_of_mem _ (List.mem_cons_of_mem _ hw))) (hat w hw)
  have hk' : (Cond.classLink own ik cls).before args s' = true := vx_ot_at hW0 hvm.symm (hgood _ List.mem_cons_self) hk
  have hini' : (Cond.initialized cls).before args s' = true := vx_ot_at hW0 hvm.symm (hgood _ (List.mem_cons_of_mem _ List.mem_cons_self)) hini
  have hU' : vx_Zq Bundle.tN "UNASSIGNED_STACK" Bundle.steD A s' s'.heap := by rw [hhp]; exact vx_Zq.moved hW0.alike (hU.kept hS.2.1)
  have hN' : vx_Zq Bundle.tN "SUPPRESSED_SENTINEL" Bundle.listD A s' s'.heap := by rw [hhp]; exact vx_Zq.moved hW0.alike (hN.kept hS.2.1)
  have h : ∀ w ∈ Bundle.ownAtoms own ic cls names, w.before args s' = true := vx_own hat' (vx_isRefq hU'.1) (vx_isRefq hN'.1) hU'.2.word hN'.2.word
  have hown' : s'.vm.findClass own = some m.cls := by rw [hvm]; exact hown
  have hins : (Cond.instantiable cls 6).before args s' = true := h _ (by simp [Bundle.ownAtoms])
  obtain ⟨vm₁, cX, kX, hfX, hkX, -, -, X₁, st1⟩ := Y.newCold hexec (own := own) (C := cls) (index := ik) (n := 6) hown' hk' hins hini'
    (g := F0 m pc ls rest) rfl (by rw [hb]; exact d0) (Nat.le_refl _) (Nat.le_refl _)
  generalize hT1 : (T.setVm vm₁).pushCell { cls := cX, slots := kX.instanceTypes.map defaultValue, vm := .none } = T1 at X₁ st1
  have hcat : (Value.ref T.heap.size).category = 1 := rfl
  have hcellA : T1.heap[T.heap.size]? = some (freshCell cX kX) := by rw [← hT1]; exact State.heap_pushCell_size _ _
  have d3' : decode c.code (pc + 3) = .ok (.dup, 1) := by rw [hb]; exact d3
  have d4' : decode c.code (pc + 4) = .ok (.ldc is, 2) := by rw [hb]; exact d4
  have hstr' : vk_R own is text sa s' := vk_R.warm hW0 hstr
  obtain ⟨U, hsteps, hrun, hend, hW, hsame, ce, hce, hO⟩ := X₁.ctorThrowS hexec htr (own := own) (cls := cls) (names := names) (ic := ic) hown' hcls hnames h (fun x hx => nomatch hx) hfX hkX hcellA (by rw [hhp, hT]; exact Nat.le_refl _) (msg := .ref sa) rfl
    (g := { method := m, pc := pc + 6, locals := ls, stack := .ref sa :: .ref T.heap.size :: .ref T.heap.size :: rest, locked := none }) rfl hsize rfl rfl (rest := rest) rfl
    (by rw [hb]; exact d6) (by rw [hb]; exact d9) hout hRframes (by simp only [List.map_cons, List.sum_cons, hcat]; omega) hlocks
  obtain ⟨f1, f2⟩ := vx_frame hsame
  rw [hhp] at f1 f2
  have hWs : s.WarmedH U.vm := State.WarmedH.trans hW0 hW
  have hcl : s.vm.findClass cls = some ce.cls := by
    have h9 := hO.cls
    rw [hvm] at h9
    exact h9
  have hall : s.sameButNew ({ U with vm := s.vm } : State) locs mc ms := by
    subst hA
    obtain ⟨e1, e2⟩ := hsame
    rw [State.setFrames_setFrames] at e1
    have h2 : (T.setVm s.vm).sameButNew ({ U with vm := s.vm } : State) [] (0 + 1) (0 + 6) := ⟨e1, e2⟩
    have h3 := X.same.trans h2
    rw [List.append_nil] at h3
    exact h3.mono hc hs
  refine ⟨U, ?_, .threw T.heap.size, hrun, hend, Or.inr ⟨T.heap.size, rfl, cls, ce, locs, hx U hWs.alike f1 (fun q hq => f2 q hq (fun z hz => nomatch hz)), hce, hO.vm, hcl, hWs, hall, hf⟩⟩
  refine st1 _ ?_
  show Steps p.tables e below (T1.setTop { method := m, pc := pc + 3, locals := ls, stack := .ref T.heap.size :: rest, locked := none }) _
  jvm_step X₁.here [X₁.here.top, hexec, d3', Value.category]
  exact X₁.ldcString hexec (own := own) (text := text) (index := is) (a := sa) hown' hstr'.1 hstr'.2
    (g := { method := m, pc := pc + 4, locals := ls, stack := .ref T.heap.size :: .ref T.heap.size :: rest, locked := none }) rfl d4' _ hsteps
/-- 'throw new E("text")', the text by a wide index -/
theorem vx_throwSW {cc : ByteArray} {pc : Nat} (hexec : p.tables.exec = Jvm.exec) (hb : c.code = cc) (hl : l.stackTraces = false) {own cls text : String} {names : List String} {ik is ic mc ms sa : Nat} {A : Nat → Prop}
    (hown : s.vm.findClass own = some m.cls) (hcls : Bundle.fit cls = true) (hnames : ∀ n ∈ names, Bundle.fit n = true)
    (hk : (Cond.classLink own ik cls).before args s = true) (hini : (Cond.initialized cls).before args s = true) (hstr : vk_R own is text sa s) (hat : ∀ w ∈ vx_atS own ic cls names, w.before args s = true)
    (hgood : ∀ w ∈ Cond.classLink own ik cls :: Cond.initialized cls :: vx_atS own ic cls names, vx_ot w = true)
    (hU : vx_Zq Bundle.tN "UNASSIGNED_STACK" Bundle.steD A s s.heap) (hN : vx_Zq Bundle.tN "SUPPRESSED_SENTINEL" Bundle.listD A s s.heap) (hS : va_S A s.heap H locs) (hsize : ls.size = c.maxLocals)
    (d0 : decode cc pc = .ok (.new ik, 3)) (d3 : decode cc (pc + 3) = .ok (.dup, 1)) (d4 : decode cc (pc + 4) = .ok (.ldc_w is, 3)) (d7 : decode cc (pc + 7) = .ok (.invokespecial ic, 3)) (d10 : decode cc (pc + 10) = .ok (.athrow, 1))
    (hout : ∀ x ∈ c.exceptionTable.toList, covers x (pc + 10) = false)
    (hRframes : names.length + 3 < R.frames) (hRlocals : (rest.map fun v => v.category).sum + (13 * (names.length + 1) + 43) ≤ R.locals) (hRcells : cells + 1 ≤ R.cells) (hRslots : slots + 6 ≤ R.slots) (hlocks : meth.locks = false)
    (hx : ∀ t : State, s.vm.Alike t.vm → H.size ≤ t.heap.size → (∀ q : Nat, q < H.size → t.heap[q]? = H[q]?) → XC cls s t)
    (hf : ∀ z ∈ locs, free z.base) (hc : cells + 1 ≤ mc) (hs : slots + 6 ≤ ms) :
    W p l e R s m args below meth c H locs cells slots (vx_MQ below Qc XC args s mc ms free) (F0 m pc ls rest) := by
  intro T hT X
  have htr : e.platform.stackTraces = false := (show e.platform.stackTraces = l.stackTraces by rw [X.admits.platform]).trans hl
  have Y := vx_rebase X (R' := { frames := R.frames, locals := R.locals, cells := 1, slots := 6 }) (Nat.le_refl _) (Nat.le_refl _) hRcells hRslots
  obtain ⟨s', hA⟩ : ∃ z, z = (T.setVm s.vm).setFrames (.invoking m args :: below) := ⟨_, rfl⟩
  rw [← hA] at Y
  have hvm : s'.vm = s.vm := by rw [hA]; rfl
  have hhp : s'.heap = H := by rw [hA]; exact hT
  have hW0 : s.WarmedH s'.vm := by rw [hvm]; exact State.WarmedH.refl s
  have hat' : ∀ w ∈ vx_atS own ic cls names, w.before args s' = true := fun w hw => vx_ot_at hW0 hvm.symm (hgood w (List.mem_cons_of_mem _ (List.mem_cons_of_mem _ hw))) (hat w hw)
  have hk' : (Cond.classLink own ik cls).before args s' = true := vx_ot_at hW0 hvm.symm (hgood _ List.mem_cons_self) hk
  have hini' : (Cond.initialized cls).before args s' = true := vx_ot_at hW0 hvm.symm (hgood _ (List.mem_cons_of_mem _ List.mem_cons_self)) hini
  have hU' : vx_Zq Bundle.tN "UNASSIGNED_STACK" Bundle.steD A s' s'.heap := by rw [hhp]; exact vx_Zq.moved hW0.alike (hU.kept hS.2.1)
  have hN' : vx_Zq Bundle.tN "SUPPRESSED_SENTINEL" Bundle.listD A s' s'.heap := by rw [hhp]; exact vx_Zq.moved hW0.alike (hN.kept hS.2.1)
  have h : ∀ w ∈ Bundle.ownAtoms own ic cls names, w.before args s' = true := vx_own hat' (vx_isRefq hU'.1) (vx_isRefq hN'.1) hU'.2.word hN'.2.word
  have hown' : s'.vm.findClass own = some m.cls := by rw [hvm]; exact hown
  have hins : (Cond.instantiable cls 6).before args s' = true := h _ (by simp [Bundle.ownAtoms])
  obtain ⟨vm₁, cX, kX, hfX, hkX, -, -, X₁, st1⟩ := Y.newCold hexec (own := own) (C := cls) (index := ik) (n := 6) hown' hk' hins hini'
    (g := F0 m pc ls rest) rfl (by rw [hb]; exact d0) (Nat.le_refl _) (Nat.le_refl _)
  generalize hT1 : (T.setVm vm₁).pushCell { cls := cX, slots := kX.instanceTypes.map defaultValue, vm := .none } = T1 at X₁ st1
  have hcat : (Value.ref T.heap.size).category = 1 := rfl
  have hcellA : T1.heap[T.heap.size]? = some (freshCell cX kX) := by rw [← hT1]; exact State.heap_pushCell_size _ _
  have d3' : decode c.code (pc + 3) = .ok (.dup, 1) := by rw [hb]; exact d3
  have d4' : decode c.code (pc + 4) = .ok (.ldc_w is, 3) := by rw [hb]; exact d4
  have hstr' : vk_R own is text sa s' := vk_R.warm hW0 hstr
  obtain ⟨U, hsteps, hrun, hend, hW, hsame, ce, hce, hO⟩ := X₁.ctorThrowS hexec htr (own := own) (cls := cls) (names := names) (ic := ic) hown' hcls hnames h (fun x hx => nomatch hx) hfX hkX hcellA (by rw [hhp, hT]; exact Nat.le_refl _) (msg := .ref sa) rfl
    (g := { method := m, pc := pc + 7, locals := ls, stack := .ref sa :: .ref T.heap.size :: .ref T.heap.size :: rest, locked := none }) rfl hsize rfl rfl (rest := rest) rfl
    (by rw [hb]; exact d7) (by rw [hb]; exact d10) hout hRframes (by simp only [List.map_cons, List.sum_cons, hcat]; omega) hlocks
  obtain ⟨f1, f2⟩ := vx_frame hsame
  rw [hhp] at f1 f2
  have hWs : s.WarmedH U.vm := State.WarmedH.trans hW0 hW
  have hcl : s.vm.findClass cls = some ce.cls := by
    have h9 := hO.cls
    rw [hvm] at h9
    exact h9
  have hall : s.sameButNew ({ U with vm := s.vm } : State) locs mc ms := by
    subst hA
    obtain ⟨e1, e2⟩ := hsame
    rw [State.setFrames_setFrames] at e1
    have h2 : (T.setVm s.vm).sameButNew ({ U with vm := s.vm } : State) [] (0 + 1) (0 + 6) := ⟨e1, e2⟩
    have h3 := X.same.trans h2
    rw [List.append_nil] at h3
    exact h3.mono hc hs
  refine ⟨U, ?_, .threw T.heap.size, hrun, hend, Or.inr ⟨T.heap.size, rfl, cls, ce, locs, hx U hWs.alike f1 (fun q hq => f2 q hq (fun z hz => nomatch hz)), hce, hO.vm, hcl, hWs, hall, hf⟩⟩
  refine st1 _ ?_
  show Steps p.tables e below (T1.setTop { method := m, pc := pc + 3, locals := ls, stack := .ref T.heap.size :: rest, locked := none }) _
  jvm_step X₁.here [X₁.here.top, hexec, d3', Value.category]
  exact X₁.ldcStringW hexec (own := own) (text := text) (index := is) (a := sa) hown' hstr'.1 hstr'.2
    (g := { method := m, pc := pc + 4, locals := ls, stack := .ref T.heap.size :: .ref T.heap.size :: rest, locked := none }) rfl d4' _ hsteps
end Ends
section Bodies
variable {l : Launch}
theorem vx_ofW {y : MethodName} {ws ws' : List Cond} {rm : Room} {Pc : Array Value → State → Prop} {Qc : Array Value → State → Outcome → State → Prop} {XC : String → State → State → Prop} {mc ms : Nat} {free : Addr → Prop} {cc : ByteArray} {maxL : Nat} {ret : Option FieldType}
    (hy : plainName y.cls = true) (hw : ws = Cond.code y cc maxL ret :: ws')
    (body : ∀ p e s m args below meth c s₁, BodyLoose p l y (headSpec ws rm) cc maxL ret e s m args below meth c s₁ → c.maxLocals = maxL → (∀ x ∈ c.exceptionTable.toList, False) → Pc args s →
      W p l e (headSpec ws rm).room s m args below meth c s.heap [] 0 0 (vx_MQ below Qc XC args s mc ms free) (entryFrame m args maxL)) : vx_Met l y ws rm Pc Qc XC mc ms free := by
  refine MetFree.of_bodyS (code := cc) (maxLocals := maxL) (ret := ret) hy ?_ ?_
  · intro args s m h hn
    obtain ⟨meth, c, h1, h2, h3, h4, h5, h6, -, -⟩ := Cond.code_spec hn (atoms_spec (ws := ws) h _ (by rw [hw]; exact List.mem_cons_self))
    exact ⟨meth, c, h1, h2, h3, h4, h5, h6⟩
  · intro p e s m args below meth c s₁ B hml hP _
    have hh0 : s₁.heap = s.heap := by rw [B.state]; rfl
    have ht : ∀ x ∈ c.exceptionTable.toList, False := by
      obtain ⟨meth9, c9, h1, h2, -, -, -, -, h7, -⟩ := Cond.code_spec B.named (atoms_spec (ws := ws) B.pre _ (by rw [hw]; exact List.mem_cons_self))
      cases Option.some.inj (h1.symm.trans B.method)
      cases Option.some.inj (h2.symm.trans (Stand.of_body B).code)
      intro x hx
      rw [Array.isEmpty_iff.mp h7] at hx
      cases hx
    obtain ⟨t, a1, o, b1, b2, b3⟩ := body p e s m args below meth c s₁ B hml ht hP s₁ hh0 (Stand.of_body B)
    exact ⟨t, o, a1, b1, b2, b3⟩
/-- the table of a body with handlers -/
theorem vx_table {p : Program} {x y : MethodName} {S : Spec} {cc bytes : ByteArray} {maxL maxL' : Nat} {ret ret' : Option FieldType} {e : Env} {s s₁ : State} {m : MethodId} {args : Array Value} {below : List Frame} {meth : Method} {c : Code} {hh : List (Nat × Nat × Nat × Nat)}
    (B : BodyLoose p l y S cc maxL ret e s m args below meth c s₁) (h : (Cond.codeWith y bytes maxL' ret' hh).before args s = true) : c.exceptionTable.toList = tableOf hh := by
  obtain ⟨m9, meth9, c9, hn9, h1, h2, -, -, h6, -⟩ := Cond.codeWith_spec h
  cases Option.some.inj (hn9.symm.trans B.named)
  cases Option.some.inj (h1.symm.trans B.method)
  cases Option.some.inj (h2.symm.trans (Stand.of_body B).code)
  rw [← h6, table_eq]
end Bodies
end VXA
/-! ===== END ===== -/
/-! ===== BEGIN a static call of a method with an exception table ===== -/
section VXS
variable {p : Program} {l : Launch} {e : Env} {R : Room} {s : State} {m : MethodId} {args : Array Value} {below : List Frame} {meth : Method} {c : Code} {T : State} {H : Heap} {locs : List Loc} {cells slots : Nat}
abbrev vx_CSW (R : Room) (s : State) (args : Array Value) (own : String) (index : Nat) (y : MethodName) (bytes : ByteArray) (maxL : Nat) (ret : Option FieldType) (hh : List (Nat × Nat × Nat × Nat)) (ws : List Cond) (rm : Room) (mc ms n : Nat) : Prop :=
  (rm.cells = mc ∧ rm.slots = ms ∧ rm.frames + 1 ≤ R.frames ∧ 8 + (maxL + 11) + rm.locals ≤ R.locals ∧ (∀ w ∈ ws, ∀ (a' : Array Value) (U : State), s.WarmedH U.vm → w.before a' U = true) ∧ Cond.codeWith y bytes maxL ret hh ∈ ws) ∧
  (Cond.codeWith y bytes maxL ret hh).before args s = true ∧ (Cond.initialized y.cls).before args s = true ∧ (y.cls ≠ "java/lang/invoke/MethodHandle" ∧ y.cls ≠ "java/lang/invoke/VarHandle") ∧
  (∀ sig, parseMethodDescriptor y.desc = some sig → n = sig.parameters.length) ∧ (Cond.methodLink own index y).before args s = true ∧ (Cond.static y).before args s = true
theorem vx_cwSW {own : String} {index maxL mc ms : Nat} {y : MethodName} {bytes : ByteArray} {ret : Option FieldType} {hh : List (Nat × Nat × Nat × Nat)} {Ts ws ws' : List Cond} {rm : Room} (n : Nat) (ht : ∀ w ∈ Ts, w.before args s = true) (hT : GoodIn Ts (va_wsS own index y ws)) (hw : ws = Cond.codeWith y bytes maxL ret hh :: ws') (hrc : rm.cells = mc) (hrs : rm.slots = ms)
    (hd : y.cls ≠ "java/lang/invoke/MethodHandle" ∧ y.cls ≠ "java/lang/invoke/VarHandle" ∧ (parseMethodDescriptor y.desc).map (fun d => d.parameters.length) = some n) (hR : rm.frames + 1 ≤ R.frames ∧ 8 + (maxL + 11) + rm.locals ≤ R.locals) :
    vx_CSW R s args own index y bytes maxL ret hh ws rm mc ms n := by
  have ok : ∀ w ∈ va_wsS own index y ws, w.before args s = true := fun w h => ht w (hT w h).1
  have hG : GoodIn Ts ws := fun w h => hT w (by unfold va_wsS; exact List.mem_append_right _ h)
  have hc : Cond.codeWith y bytes maxL ret hh ∈ ws := by rw [hw]; exact List.mem_cons_self
  refine ⟨⟨hrc, hrs, hR.1, hR.2, pay_in ht hG, hc⟩, ht _ (hG _ hc).1, ok _ (by simp [va_wsS]), ⟨hd.1, hd.2.1⟩, fun sig h => ?_, ok _ (by simp [va_wsS]), ok _ (by simp [va_wsS])⟩
  have h2 := hd.2.2
  rw [h] at h2
  exact (Option.some.inj h2).symm
theorem vx_callSW (X : Stand p l e R s m args below meth c T locs cells slots) (hexec : p.tables.exec = Jvm.exec) {own : String} {index : Nat} {y : MethodName} {bytes : ByteArray} {maxL : Nat} {ret : Option FieldType} {hh : List (Nat × Nat × Nat × Nat)}
    (hown : s.vm.findClass own = some m.cls) (hlink : (Cond.methodLink own index y).before args s = true) (hstat : (Cond.static y).before args s = true) (hinit : (Cond.initialized y.cls).before args s = true)
    (hcode : (Cond.codeWith y bytes maxL ret hh).before args s = true) (hy : y.cls ≠ "java/lang/invoke/MethodHandle" ∧ y.cls ≠ "java/lang/invoke/VarHandle")
    {W9 : Nat} {Pre : Pt → Array Value → Prop} {Post : Pt → Array Value → Option Value → Pt → Prop} (hK : Back l R p e below s args y 3 W9 Pre Post)
    {g : JFrame} (hg : g.method = m) (hsize : g.locals.size = c.maxLocals) {argsL rest : List Value} (hlen : ∀ sig, parseMethodDescriptor y.desc = some sig → argsL.length = sig.parameters.length)
    (hstack : g.stack = argsL.reverse ++ rest) (hW : 2 * g.monitorRoom + (rest.map fun v => v.category).sum ≤ W9) (hdg : decode c.code g.pc = .ok (.invokestatic index, 3))
    (hpre : ∀ vm₁, s.WarmedH vm₁ → Pre ⟨T.setVm vm₁, locs, cells, slots⟩ argsL.toArray) :
    ∃ (v : Option Value) (vm₁ : Vm) (B : Pt), s.WarmedH vm₁ ∧ Stand p l e R s m args below meth c B.U B.locs B.cells B.slots ∧ Post ⟨T.setVm vm₁, locs, cells, slots⟩ argsL.toArray v B ∧
      ∀ target, Steps p.tables e below (B.U.setTop { g with pc := g.pc + 3, stack := v.toList ++ rest }) target → Steps p.tables e below (T.setTop g) target := by
  obtain ⟨mk, methM, cM, hnamed, hmethM, -, -, -, -, -, -, hsigM⟩ := Cond.codeWith_spec hcode
  have hstatic : methM.isStatic = true := Cond.static_spec hnamed hmethM hstat
  obtain ⟨kP, hkP, -⟩ := className_of_methodNamed hnamed
  have hinitP : kP.init = .initialized := Cond.initialized_spec (findClass_of_methodNamed hnamed) hkP hinit
  obtain ⟨vm₁, X₁, hstep₁⟩ := X.invokestatic hexec hown hlink hnamed hmethM hstatic hkP hinitP hy (g := g) hg (argsL := argsL) (rest := rest) (hlen _ hsigM) hstack hdg
  obtain ⟨v, B, X', hpost, hsteps⟩ := hK m meth c ⟨T.setVm vm₁, locs, cells, slots⟩ { g with stack := rest } (.invokestatic index) mk argsL.toArray X₁ hg hsize hdg hW (X₁.named hnamed) (hpre vm₁ X₁.warmed)
  exact ⟨v, vm₁, B, X₁.warmed, X', hpost, fun target h => hstep₁ _ fun acts => by rw [doInvoke_state]; exact hsteps.trans h⟩
theorem vx_runSW {y : MethodName} {bytes cc : ByteArray} {maxL nL mc ms n index : Nat} {ret : Option FieldType} {hh : List (Nat × Nat × Nat × Nat)} {ws : List Cond} {rm : Room} {Pc : Array Value → State → Prop} {Qc : Array Value → State → Outcome → State → Prop} {free : Addr → Prop} {Ts : List Cond} {own : String} {As rest : List Value} {g : JFrame}
    (S : CallFix p m c cc nL s args Ts own) (hM : Met l y ws rm Pc Qc mc ms free) (cw : vx_CSW R s args own index y bytes maxL ret hh ws rm mc ms n) (hp : PreS s H Pc As)
    (hg : g.method = m) (hn : As.length = n) (hsize : g.locals.size = nL) (hstack : g.stack = As.reverse ++ rest) (hW : 2 * g.monitorRoom + (rest.map fun v => v.category).sum ≤ 8) (hdg : decode cc g.pc = .ok (.invokestatic index, 3)) (hf : cells + mc ≤ R.cells ∧ slots + ms ≤ R.slots) :
    va_Run p l e R s m args below meth c H locs cells slots mc ms g rest (Qc As.toArray) (free) := by
  obtain ⟨⟨hrc, hrs, hfr, hlo, hws, hcw⟩, hcode, hini, hy, hlen, hl, hstt⟩ := cw
  have hK : Back l R p e below s args y 3 8 (PreOf R mc ms Pc) (PostOf Qc mc ms free) := va_backW (hh := hh) (bytes := bytes) (maxL := maxL) (ret := ret) hM hp.1 hrc hrs hfr hlo hws hcw (fun a' U hW => word_at hW (Or.inl (by first | rfl | simp [Cond.onTables, Cond.keeps, Cond.steady])) hini)
  obtain ⟨hx, hb, hml, ho, -⟩ := S
  intro T hT X
  obtain ⟨v, vm₁, ⟨U', l2, c2, s2⟩, hW₁, X', ⟨g', mk, t, L, e1, e2, hq, h1, hL, h2, h3⟩, st⟩ := vx_callSW X hx (hh := hh) (bytes := bytes) (maxL := maxL) (ret := ret) ho hl hstt hini hcode hy hK hg (hsize.trans hml.symm) (argsL := As) (rest := rest) (fun sig h => hn.trans (hlen sig h)) hstack hW (by rw [hb]; exact hdg)
    (fun vm₁ hW₁ => ⟨hf.1, hf.2, hp.2 (T.setVm vm₁) hT hW₁⟩)
  dsimp only [Pt.U, Pt.locs, Pt.cells, Pt.slots] at X' e1 e2 h1 h2 h3 st
  subst h1; subst h2; subst h3
  exact ⟨v, (T.setVm vm₁).calling g' mk As.toArray, t, U', L, hT, X', hL, e1, e2, hq, st⟩
/-- not caught here, past rows that name other classes: it goes on to the caller -/
theorem vx_outP {p : Program} {l : Launch} {e : Env} {R : Room} {s : State} {m : MethodId} {args : Array Value} {below : List Frame} {meth : Method} {c : Code} {H : Heap} {locs : List Loc} {cells slots : Nat} {free : Addr → Prop} {ls : Array Slot} {rest : List Value} {Qc : Array Value → State → Outcome → State → Prop} {XC : String → State → State → Prop}
    {pc : Nat} {own E : String} {ce : Cell} {q : Addr} {mc ms : Nat} (hown : s.vm.findClass own = some m.cls) (hlocks : meth.locks = false)
    (hpass : ∀ z ∈ c.exceptionTable.toList, covers z pc = false ∨ (z.catchType ≠ 0 ∧ ∃ nm : String, (Cond.classLink own z.catchType nm).before args s = true ∧ va_Nc E nm s)) (hcell : H[q]? = some ce) (hv : ce.vm = .none) (hcl : s.vm.findClass E = some ce.cls)
    (hx : ∀ t : State, t.heap = H → s.vm.Alike t.vm → XC E s t) (hf : ∀ z ∈ locs, free z.base) (hc : cells ≤ mc) (hs : slots ≤ ms) :
    vx_W p l e R s m args below meth c H locs cells slots (vx_MQ below Qc XC args s mc ms free) (F0 m pc ls rest) q := by
  intro T hT X
  have hpl : e.platform.magicAccessors = ({} : Platform).magicAccessors := by rw [X.admits.platform]
  obtain ⟨vm', hW', X', st⟩ := X.outThrough hlocks q (g := F0 m pc ls rest) rfl rfl rfl (cell := ce) (by rw [hT]; exact hcell) (by rw [hv]; rfl)
    (by obtain ⟨k9, h9, -⟩ := Vm.findClass_spec hcl; exact ⟨k9, h9⟩) (fun z hz => by
      rcases hpass z hz with h | ⟨hz0, nm, hl1, hn1⟩
      · exact Or.inl h
      · obtain ⟨c6, hc6, hcl6⟩ := Cond.classLink_spec hown hl1 e.platform hpl
        obtain ⟨a8, b8, h1, h2, h3⟩ := hn1
        cases Option.some.inj (h1.symm.trans hcl)
        cases Option.some.inj (h2.symm.trans hc6)
        exact Or.inr ⟨hz0, _, hcl6, h3⟩)
  obtain ⟨g₀, hfr⟩ := X'.frames_eq
  have hcell9 : ((T.setVm vm').setFrames (.throwing q :: below)).heap[q]? = some ce := by
    show T.heap[q]? = some ce
    rw [hT]; exact hcell
  have hend : Ended ((T.setVm vm').setFrames (.throwing q :: below)) below (.threw q) := State.frames_setFrames _ (State.cur_lt_of_frames hfr)
  refine ⟨(T.setVm vm').setFrames (.throwing q :: below), ?_, .threw q, X'.here.running, hend, Or.inr ⟨q, rfl, E, ce, locs, hx _ hT (X'.ends _).1.alike, hcell9, hv, hcl, (X'.ends _).1, (X'.ends _).2.mono hc hs, hf⟩⟩
  rw [X.pushThrowing_eq]
  exact st
/-- a thing of a world lies in the heap -/
theorem vx_lt {D : va_G} {cl : List vw_C} {ws : va_W} {H1 : Heap} (h : va_P D cl ws H1) {k : Nat} {q : Nat × va_E} (hk : ws[k]? = some q) : q.1 < H1.size := (h k q hk).lt
end VXS
/-! ===== END ===== -/
/-! ===== BEGIN methods with a table of their own: called by a name, returning or throwing ===== -/
section VXH
/-! vx_backW, vx_callVX, vx_callSX, vx_callVW, vx_runVW, vx_runVX, vx_runSX, vx_ofWH follow the same proofs as their sisters above (Free/Laws.lean, Shelf42/LK1.lean); vx_outP calls Shelf42/NT130.lean (outThrough). -/
section
variable {l : Launch} {R : Room} {p : Program} {e : Env} {below : List Frame} {s : State} {sargs : Array Value} {y : MethodName} {len W9 : Nat}
theorem vx_backW {ws : List Cond} {rm : Room} {Pc : Array Value → State → Prop} {Qc : Array Value → State → Outcome → State → Prop} {XC : String → State → State → Prop} {mc ms : Nat} {free : Addr → Prop} {bytes : ByteArray} {maxL : Nat} {ret : Option FieldType} {hh : List (Nat × Nat × Nat × Nat)}
    (hM : vx_Met l y ws rm Pc Qc XC mc ms free) (hblind : FrameBlind Pc) (hrc : rm.cells = mc) (hrs : rm.slots = ms)
    (hframes : rm.frames + 1 ≤ R.frames) (hlocals : W9 + (maxL + 11) + rm.locals ≤ R.locals)
    (hws : ∀ w ∈ ws, ∀ a' U, s.WarmedH U.vm → w.before a' U = true) (hcode : Cond.codeWith y bytes maxL ret hh ∈ ws) (hinit : ∀ a' U, s.WarmedH U.vm → (Cond.initialized y.cls).before a' U = true) :
    vx_Back l R p e below s sargs y len W9 (PreOf R mc ms Pc) (PostOf Qc mc ms free) (vx_Post XC mc ms free) := by
  intro m meth c A g ig mk a X hg hsize hdg hW hn hp
  have h1 : (headSpec ws rm).pre.before a A.U = true := atoms_intro fun w hw => hws w hw _ _ X.warmed
  have h2 : (Cond.codeWith y bytes maxL ret hh).before a A.U = true := hws _ hcode _ _ X.warmed
  have h3 : (Cond.initialized y.cls).before a A.U = true := hinit _ _ X.warmed
  have h4 : A.cells + (headSpec ws rm).room.cells ≤ R.cells := by rw [show (headSpec ws rm).room.cells = mc from hrc]; exact hp.1
  have h5 : A.slots + (headSpec ws rm).room.slots ≤ R.slots := by rw [show (headSpec ws rm).room.slots = ms from hrs]; exact hp.2.1
  have hPc : Pc a (A.U.calling g mk a) := hblind _ _ _ _ hp.2.2
  obtain ⟨U, Ls, c0, s0⟩ := A
  dsimp only [Pt.U, Pt.locs, Pt.cells, Pt.slots] at h1 h2 h3 h4 h5 X hn hPc ⊢
  obtain ⟨m9, methY, cY, hn9, hmY, hcY, -, hlY, -⟩ := Cond.codeWith_spec h2
  cases Option.some.inj (hn9.symm.trans hn)
  obtain ⟨kY, hkY, -⟩ := className_of_methodNamed hn
  have hinitY : kY.init = .initialized := Cond.initialized_spec (findClass_of_methodNamed hn) hkY h3
  have h : At U g.method c below := by rw [hg]; exact X.here
  have hlocals9 : W9 + (maxL + 11) + (headSpec ws rm).room.locals ≤ R.locals := hlocals
  have happ : (headSpec ws rm).appliesLoose y e.platform (U.calling g mk a) = true :=
    Spec.appliesLoose_calling (g := g) h hdg hn hkY hinitY
      (X.room_calling (g := g) (R' := (headSpec ws rm).room) hsize hmY hcY hframes (by rw [hlY]; omega) h4 h5) h1
  obtain ⟨mid, hmid⟩ := h.above
  have hfr : (U.setTop g).frames = (.java g :: mid) ++ below := by rw [State.frames_setTop' g h.top, hmid]; rfl
  obtain ⟨o, s₂, hsteps, -, hend, hq⟩ := Steps.callFree hM p X.admits X.cas X.clock (acts := []) hfr happ hPc trivial
  have hq' : vx_Q Qc XC mc ms free a (U.calling g mk a) o s₂ := hq
  rw [State.frames_setTop' g h.top] at hend
  obtain ⟨g₀, hg0⟩ := Option.isSome_iff_exists.mp h.top
  obtain ⟨r, hr⟩ := State.topJava?_eq_some.mp hg0
  have hr' : (({ U with heap := s₂.heap, slotsUsed := s₂.slotsUsed } : State).setVm s₂.vm).frames = .java g₀ :: r := hr
  rcases hq' with ⟨hqc, L, hfe, hL⟩ | ⟨q, rfl, E, ce, L, hx, hce, hcv, hcl, hW₂, hsm, hL⟩
  · obtain ⟨⟨v, rfl⟩, hW₂, e2, q2, q3, q4, q5, q6⟩ := id hfe
    have e3 : s₂ = ({ (U.calling g mk a).setFrames s₂.frames with heap := s₂.heap, slotsUsed := s₂.slotsUsed } : State).setVm s₂.vm := by
      have : s₂ = ({ s₂ with vm := (U.calling g mk a).vm } : State).setVm s₂.vm := rfl
      rw [e2] at this
      exact this
    obtain ⟨c₂, i₂, len₂, hc₂, hd₂, hf₂⟩ := hend
    have hW' : U.WarmedH s₂.vm := hW₂
    have hcc : c₂ = c := by
      have h1 : s₂.code? g.method = U.code? g.method := by
        rw [State.code?_eq, State.code?_eq, hW'.alike.method?]
      exact Option.some.inj (hc₂.symm.trans (h1.trans h.code))
    subst hcc
    have hlen : len₂ = len := by rw [hdg] at hd₂; cases hd₂; rfl
    subst hlen
    have hs₂ : s₂ = (({ U with heap := s₂.heap, slotsUsed := s₂.slotsUsed } : State).setVm s₂.vm).setTop { g with pc := g.pc + len₂, stack := v.toList ++ g.stack } := by
      refine e3.trans ?_
      rw [hf₂, State.calling_eq h.top, State.setFrames_setFrames, State.setTop_of_frames _ hr', hr]
      rfl
    have hsame : U.sameButNew ({ U with heap := s₂.heap, slotsUsed := s₂.slotsUsed } : State) L mc ms := by
      refine ⟨?_, q2, q3, q4, q5, q6⟩
      obtain ⟨t, ht, -⟩ := State.frames_cons hr
      show ({ U with heap := s₂.heap, slotsUsed := s₂.slotsUsed } : State) = { U.setFrames U.frames with heap := s₂.heap, slotsUsed := s₂.slotsUsed }
      rw [State.setFrames_self ht]
    subst hg
    refine Or.inl ⟨v, ⟨(({ U with heap := s₂.heap, slotsUsed := s₂.slotsUsed } : State).setVm s₂.vm), Ls ++ L, c0 + mc, s0 + ms⟩,
      ⟨X.admits, X.cas, X.clock, X.frames, X.room, X.hears, X.method, X.code, (X.here.setHeapUsed s₂.heap s₂.slotsUsed).setVm hW'.alike, X.tail, State.WarmedH.trans X.warmed hW', X.limits, X.bytes, X.same.trans (hsame.setVm s.vm)⟩,
      ⟨g, mk, s₂, L, rfl, rfl, hqc, rfl, hL, rfl, rfl⟩, ?_⟩
    show Steps p.tables e below _ ((({ U with heap := s₂.heap, slotsUsed := s₂.slotsUsed } : State).setVm s₂.vm).setTop { g with pc := g.pc + len₂, stack := v.toList ++ g.stack })
    rw [← hs₂]
    exact hsteps
  · obtain ⟨e2, q2, q3, q4, q5, q6⟩ := id hsm
    have e3 : s₂ = ({ (U.calling g mk a).setFrames s₂.frames with heap := s₂.heap, slotsUsed := s₂.slotsUsed } : State).setVm s₂.vm := by
      have : s₂ = ({ s₂ with vm := (U.calling g mk a).vm } : State).setVm s₂.vm := rfl
      rw [e2] at this
      exact this
    have hf₂ : s₂.frames = .throwing q :: .java g :: U.frames.tail := hend
    have hW' : U.WarmedH s₂.vm := hW₂
    have hs₂ : s₂ = ((({ U with heap := s₂.heap, slotsUsed := s₂.slotsUsed } : State).setVm s₂.vm).setTop g).pushFrame (.throwing q) := by
      refine e3.trans ?_
      rw [hf₂, State.calling_eq h.top, State.setFrames_setFrames, State.pushFrame, State.frames_setTop _ hr', State.setTop_of_frames _ hr', State.setFrames_setFrames, hr]
      rfl
    have hsame : U.sameButNew ({ U with heap := s₂.heap, slotsUsed := s₂.slotsUsed } : State) L mc ms := by
      refine ⟨?_, q2, q3, q4, q5, q6⟩
      obtain ⟨t, ht, -⟩ := State.frames_cons hr
      show ({ U with heap := s₂.heap, slotsUsed := s₂.slotsUsed } : State) = { U.setFrames U.frames with heap := s₂.heap, slotsUsed := s₂.slotsUsed }
      rw [State.setFrames_self ht]
    subst hg
    refine Or.inr ⟨q, ⟨(({ U with heap := s₂.heap, slotsUsed := s₂.slotsUsed } : State).setVm s₂.vm), Ls ++ L, c0 + mc, s0 + ms⟩,
      ⟨X.admits, X.cas, X.clock, X.frames, X.room, X.hears, X.method, X.code, (X.here.setHeapUsed s₂.heap s₂.slotsUsed).setVm hW'.alike, X.tail, State.WarmedH.trans X.warmed hW', X.limits, X.bytes, X.same.trans (hsame.setVm s.vm)⟩,
      ⟨g, mk, s₂, L, E, ce, rfl, rfl, hx, hce, hcv, hcl, rfl, hL, rfl, rfl⟩, ?_⟩
    show Steps p.tables e below _ (((({ U with heap := s₂.heap, slotsUsed := s₂.slotsUsed } : State).setVm s₂.vm).setTop g).pushFrame (.throwing q))
    rw [← hs₂]
    exact hsteps
end
variable {p : Program} {l : Launch} {e : Env} {R : Room} {s : State} {m : MethodId} {args : Array Value} {below : List Frame} {meth : Method} {c : Code} {T : State} {H : Heap} {locs : List Loc} {cells slots : Nat}
theorem vx_callVX (X : Stand p l e R s m args below meth c T locs cells slots) (hexec : p.tables.exec = Jvm.exec) {own C : String} {index : Nat} {y : MethodName} {bytes : ByteArray} {maxL : Nat} {ret : Option FieldType} {hh : List (Nat × Nat × Nat × Nat)}
    (hown : s.vm.findClass own = some m.cls) (hlink : (Cond.methodLink own index y).before args s = true) (hinst : (Cond.instanceMethod y).before args s = true) (hsel : (Cond.selects C y y).before args s = true)
    (hcode : (Cond.codeWith y bytes maxL ret hh).before args s = true) (hy : y.cls ≠ "java/lang/invoke/MethodHandle" ∧ y.cls ≠ "java/lang/invoke/VarHandle")
    {W9 : Nat} {Pre : Pt → Array Value → Prop} {Post : Pt → Array Value → Option Value → Pt → Prop} {PostX : Pt → Array Value → Addr → Pt → Prop} (hK : vx_Back l R p e below s args y 3 W9 Pre Post PostX)
    {b : Addr} {cellB : Cell} (hcell : T.heap[b]? = some cellB) (hobj : cellB.vm.isStatics = false) (hcls : s.vm.findClass C = some cellB.cls)
    {g : JFrame} (hg : g.method = m) (hsize : g.locals.size = c.maxLocals) {argsL rest : List Value} (hlen : ∀ sig, parseMethodDescriptor y.desc = some sig → argsL.length = sig.parameters.length)
    (hstack : g.stack = argsL.reverse ++ .ref b :: rest) (hW : 2 * g.monitorRoom + (rest.map fun v => v.category).sum ≤ W9) (hdg : decode c.code g.pc = .ok (.invokevirtual index, 3))
    (hpre : ∀ vm₁, s.WarmedH vm₁ → Pre ⟨T.setVm vm₁, locs, cells, slots⟩ (Value.ref b :: argsL).toArray) :
    (∃ (v : Option Value) (vm₁ : Vm) (B : Pt), s.WarmedH vm₁ ∧ Stand p l e R s m args below meth c B.U B.locs B.cells B.slots ∧ Post ⟨T.setVm vm₁, locs, cells, slots⟩ (Value.ref b :: argsL).toArray v B ∧
      ∀ target, Steps p.tables e below (B.U.setTop { g with pc := g.pc + 3, stack := v.toList ++ rest }) target → Steps p.tables e below (T.setTop g) target) ∨
    (∃ (q : Addr) (vm₁ : Vm) (B : Pt), s.WarmedH vm₁ ∧ Stand p l e R s m args below meth c B.U B.locs B.cells B.slots ∧ PostX ⟨T.setVm vm₁, locs, cells, slots⟩ (Value.ref b :: argsL).toArray q B ∧
      Steps p.tables e below (T.setTop g) ((B.U.setTop { g with stack := rest }).pushFrame (.throwing q))) := by
  obtain ⟨mk, methM, hnamed, hmethM, hstM, habM⟩ := Cond.instanceMethod_spec hinst
  obtain ⟨m8, methM', cM, hn8, hmethM', -, -, -, -, -, -, hsigM⟩ := Cond.codeWith_spec hcode
  cases Option.some.inj (hn8.symm.trans hnamed)
  cases hmethM.symm.trans hmethM'
  obtain ⟨c2, r2, m2, q1, q2, q3, q4, kP, hkP, hkPi⟩ := Cond.selects_spec hsel
  cases hcls.symm.trans q1
  cases (State.methodFound?_of_named hnamed hy).symm.trans q2
  cases hnamed.symm.trans q3
  have hselP : selectMethod e.platform s.vm cellB.cls mk = .method mk := by rw [Launch.admits_selectMethod X.admits]; exact q4
  obtain ⟨vm₁, X₁, hstep₁⟩ := X.invokevirtual hexec hown hlink hnamed hmethM hstM hkP hkPi hy (a := b) (cell := cellB) hcell
    (fun z h => by rw [h] at hobj; cases hobj) hselP hmethM habM hkP hkPi (g := g) hg (argsL := argsL) (rest := rest) (hlen _ hsigM) hstack hdg
  rcases hK m meth c ⟨T.setVm vm₁, locs, cells, slots⟩ { g with stack := rest } (.invokevirtual index) mk (Value.ref b :: argsL).toArray X₁ hg hsize hdg hW (X₁.named hnamed) (hpre vm₁ X₁.warmed) with ⟨v, B, X', hpost, hsteps⟩ | ⟨q, B, X', hpost, hsteps⟩
  · exact Or.inl ⟨v, vm₁, B, X₁.warmed, X', hpost, fun target h => hstep₁ _ fun acts => by rw [doInvoke_state]; exact hsteps.trans h⟩
  · exact Or.inr ⟨q, vm₁, B, X₁.warmed, X', hpost, hstep₁ _ fun acts => by rw [doInvoke_state]; exact hsteps⟩
theorem vx_callSX (X : Stand p l e R s m args below meth c T locs cells slots) (hexec : p.tables.exec = Jvm.exec) {own : String} {index : Nat} {y : MethodName} {bytes : ByteArray} {maxL : Nat} {ret : Option FieldType} {hh : List (Nat × Nat × Nat × Nat)}
    (hown : s.vm.findClass own = some m.cls) (hlink : (Cond.methodLink own index y).before args s = true) (hstat : (Cond.static y).before args s = true) (hinit : (Cond.initialized y.cls).before args s = true)
    (hcode : (Cond.codeWith y bytes maxL ret hh).before args s = true) (hy : y.cls ≠ "java/lang/invoke/MethodHandle" ∧ y.cls ≠ "java/lang/invoke/VarHandle")
    {W9 : Nat} {Pre : Pt → Array Value → Prop} {Post : Pt → Array Value → Option Value → Pt → Prop} {PostX : Pt → Array Value → Addr → Pt → Prop} (hK : vx_Back l R p e below s args y 3 W9 Pre Post PostX)
    {g : JFrame} (hg : g.method = m) (hsize : g.locals.size = c.maxLocals) {argsL rest : List Value} (hlen : ∀ sig, parseMethodDescriptor y.desc = some sig → argsL.length = sig.parameters.length)
    (hstack : g.stack = argsL.reverse ++ rest) (hW : 2 * g.monitorRoom + (rest.map fun v => v.category).sum ≤ W9) (hdg : decode c.code g.pc = .ok (.invokestatic index, 3))
    (hpre : ∀ vm₁, s.WarmedH vm₁ → Pre ⟨T.setVm vm₁, locs, cells, slots⟩ argsL.toArray) :
    (∃ (v : Option Value) (vm₁ : Vm) (B : Pt), s.WarmedH vm₁ ∧ Stand p l e R s m args below meth c B.U B.locs B.cells B.slots ∧ Post ⟨T.setVm vm₁, locs, cells, slots⟩ argsL.toArray v B ∧
      ∀ target, Steps p.tables e below (B.U.setTop { g with pc := g.pc + 3, stack := v.toList ++ rest }) target → Steps p.tables e below (T.setTop g) target) ∨
    (∃ (q : Addr) (vm₁ : Vm) (B : Pt), s.WarmedH vm₁ ∧ Stand p l e R s m args below meth c B.U B.locs B.cells B.slots ∧ PostX ⟨T.setVm vm₁, locs, cells, slots⟩ argsL.toArray q B ∧
      Steps p.tables e below (T.setTop g) ((B.U.setTop { g with stack := rest }).pushFrame (.throwing q))) := by
  obtain ⟨mk, methM, cM, hnamed, hmethM, -, -, -, -, -, -, hsigM⟩ := Cond.codeWith_spec hcode
  have hstatic : methM.isStatic = true := Cond.static_spec hnamed hmethM hstat
  obtain ⟨kP, hkP, -⟩ := className_of_methodNamed hnamed
  have hinitP : kP.init = .initialized := Cond.initialized_spec (findClass_of_methodNamed hnamed) hkP hinit
  obtain ⟨vm₁, X₁, hstep₁⟩ := X.invokestatic hexec hown hlink hnamed hmethM hstatic hkP hinitP hy (g := g) hg (argsL := argsL) (rest := rest) (hlen _ hsigM) hstack hdg
  rcases hK m meth c ⟨T.setVm vm₁, locs, cells, slots⟩ { g with stack := rest } (.invokestatic index) mk argsL.toArray X₁ hg hsize hdg hW (X₁.named hnamed) (hpre vm₁ X₁.warmed) with ⟨v, B, X', hpost, hsteps⟩ | ⟨q, B, X', hpost, hsteps⟩
  · exact Or.inl ⟨v, vm₁, B, X₁.warmed, X', hpost, fun target h => hstep₁ _ fun acts => by rw [doInvoke_state]; exact hsteps.trans h⟩
  · exact Or.inr ⟨q, vm₁, B, X₁.warmed, X', hpost, hstep₁ _ fun acts => by rw [doInvoke_state]; exact hsteps⟩
theorem vx_callVW (X : Stand p l e R s m args below meth c T locs cells slots) (hexec : p.tables.exec = Jvm.exec) {own C : String} {index : Nat} {y : MethodName} {bytes : ByteArray} {maxL : Nat} {ret : Option FieldType} {hh : List (Nat × Nat × Nat × Nat)}
    (hown : s.vm.findClass own = some m.cls) (hlink : (Cond.methodLink own index y).before args s = true) (hinst : (Cond.instanceMethod y).before args s = true) (hsel : (Cond.selects C y y).before args s = true)
    (hcode : (Cond.codeWith y bytes maxL ret hh).before args s = true) (hy : y.cls ≠ "java/lang/invoke/MethodHandle" ∧ y.cls ≠ "java/lang/invoke/VarHandle")
    {W9 : Nat} {Pre : Pt → Array Value → Prop} {Post : Pt → Array Value → Option Value → Pt → Prop} (hK : Back l R p e below s args y 3 W9 Pre Post)
    {b : Addr} {cellB : Cell} (hcell : T.heap[b]? = some cellB) (hobj : cellB.vm.isStatics = false) (hcls : s.vm.findClass C = some cellB.cls)
    {g : JFrame} (hg : g.method = m) (hsize : g.locals.size = c.maxLocals) {argsL rest : List Value} (hlen : ∀ sig, parseMethodDescriptor y.desc = some sig → argsL.length = sig.parameters.length)
    (hstack : g.stack = argsL.reverse ++ .ref b :: rest) (hW : 2 * g.monitorRoom + (rest.map fun v => v.category).sum ≤ W9) (hdg : decode c.code g.pc = .ok (.invokevirtual index, 3))
    (hpre : ∀ vm₁, s.WarmedH vm₁ → Pre ⟨T.setVm vm₁, locs, cells, slots⟩ (Value.ref b :: argsL).toArray) :
    ∃ (v : Option Value) (vm₁ : Vm) (B : Pt), s.WarmedH vm₁ ∧ Stand p l e R s m args below meth c B.U B.locs B.cells B.slots ∧ Post ⟨T.setVm vm₁, locs, cells, slots⟩ (Value.ref b :: argsL).toArray v B ∧
      ∀ target, Steps p.tables e below (B.U.setTop { g with pc := g.pc + 3, stack := v.toList ++ rest }) target → Steps p.tables e below (T.setTop g) target := by
  obtain ⟨mk, methM, hnamed, hmethM, hstM, habM⟩ := Cond.instanceMethod_spec hinst
  obtain ⟨m8, methM', cM, hn8, hmethM', -, -, -, -, -, -, hsigM⟩ := Cond.codeWith_spec hcode
  cases Option.some.inj (hn8.symm.trans hnamed)
  cases hmethM.symm.trans hmethM'
  obtain ⟨c2, r2, m2, q1, q2, q3, q4, kP, hkP, hkPi⟩ := Cond.selects_spec hsel
  cases hcls.symm.trans q1
  cases (State.methodFound?_of_named hnamed hy).symm.trans q2
  cases hnamed.symm.trans q3
  have hselP : selectMethod e.platform s.vm cellB.cls mk = .method mk := by rw [Launch.admits_selectMethod X.admits]; exact q4
  obtain ⟨vm₁, X₁, hstep₁⟩ := X.invokevirtual hexec hown hlink hnamed hmethM hstM hkP hkPi hy (a := b) (cell := cellB) hcell
    (fun z h => by rw [h] at hobj; cases hobj) hselP hmethM habM hkP hkPi (g := g) hg (argsL := argsL) (rest := rest) (hlen _ hsigM) hstack hdg
  obtain ⟨v, B, X', hpost, hsteps⟩ := hK m meth c ⟨T.setVm vm₁, locs, cells, slots⟩ { g with stack := rest } (.invokevirtual index) mk (Value.ref b :: argsL).toArray X₁ hg hsize hdg hW (X₁.named hnamed) (hpre vm₁ X₁.warmed)
  exact ⟨v, vm₁, B, X₁.warmed, X', hpost, fun target h => hstep₁ _ fun acts => by rw [doInvoke_state]; exact hsteps.trans h⟩
abbrev vx_CVW (R : Room) (s : State) (args : Array Value) (own C : String) (index : Nat) (y : MethodName) (bytes : ByteArray) (maxL : Nat) (ret : Option FieldType) (hh : List (Nat × Nat × Nat × Nat)) (ws : List Cond) (rm : Room) (mc ms n : Nat) : Prop :=
  (rm.cells = mc ∧ rm.slots = ms ∧ rm.frames + 1 ≤ R.frames ∧ 8 + (maxL + 11) + rm.locals ≤ R.locals ∧ (∀ w ∈ ws, ∀ (a' : Array Value) (U : State), s.WarmedH U.vm → w.before a' U = true) ∧ Cond.codeWith y bytes maxL ret hh ∈ ws) ∧
  (Cond.codeWith y bytes maxL ret hh).before args s = true ∧ (Cond.initialized y.cls).before args s = true ∧ (y.cls ≠ "java/lang/invoke/MethodHandle" ∧ y.cls ≠ "java/lang/invoke/VarHandle") ∧
  (∀ sig, parseMethodDescriptor y.desc = some sig → n = sig.parameters.length) ∧ (Cond.methodLink own index y).before args s = true ∧ (Cond.instanceMethod y).before args s = true ∧ (Cond.selects C y y).before args s = true
theorem vx_cwVW {own C : String} {index maxL mc ms : Nat} {y : MethodName} {bytes : ByteArray} {ret : Option FieldType} {hh : List (Nat × Nat × Nat × Nat)} {Ts ws ws' : List Cond} {rm : Room} (n : Nat) (ht : ∀ w ∈ Ts, w.before args s = true) (hT : GoodIn Ts (wsV own index C y ws)) (hw : ws = Cond.codeWith y bytes maxL ret hh :: ws') (hrc : rm.cells = mc) (hrs : rm.slots = ms)
    (hd : y.cls = C ∧ y.cls ≠ "java/lang/invoke/MethodHandle" ∧ y.cls ≠ "java/lang/invoke/VarHandle" ∧ (parseMethodDescriptor y.desc).map (fun d => d.parameters.length) = some n) (hR : rm.frames + 1 ≤ R.frames ∧ 8 + (maxL + 11) + rm.locals ≤ R.locals) :
    vx_CVW R s args own C index y bytes maxL ret hh ws rm mc ms n := by
  obtain ⟨hC, hd⟩ := hd
  subst hC
  have ok : ∀ w ∈ wsV own index y.cls y ws, w.before args s = true := fun w h => ht w (hT w h).1
  have hG : GoodIn Ts ws := fun w h => hT w (by unfold wsV; exact List.mem_append_right _ h)
  have hc : Cond.codeWith y bytes maxL ret hh ∈ ws := by rw [hw]; exact List.mem_cons_self
  refine ⟨⟨hrc, hrs, hR.1, hR.2, pay_in ht hG, hc⟩, ht _ (hG _ hc).1, ok _ (by simp [wsV]), ⟨hd.1, hd.2.1⟩, fun sig h => ?_, ok _ (by simp [wsV]), ok _ (by simp [wsV]), ok _ (by simp [wsV])⟩
  have h2 := hd.2.2
  rw [h] at h2
  exact (Option.some.inj h2).symm
theorem vx_runVW {y : MethodName} {bytes cc : ByteArray} {maxL nL mc ms n index : Nat} {ret : Option FieldType} {hh : List (Nat × Nat × Nat × Nat)} {ws : List Cond} {rm : Room} {Pc : Array Value → State → Prop} {Qc : Array Value → State → Outcome → State → Prop} {free : Addr → Prop} {Ts : List Cond} {own C : String} {b : Addr} {As rest : List Value} {g : JFrame}
    (S : CallFix p m c cc nL s args Ts own) (hM : Met l y ws rm Pc Qc mc ms free) (cw : vx_CVW R s args own C index y bytes maxL ret hh ws rm mc ms n) (hp : PreV s H C b Pc As)
    (hg : g.method = m) (hn : As.length = n) (hsize : g.locals.size = nL) (hstack : g.stack = As.reverse ++ .ref b :: rest) (hW : 2 * g.monitorRoom + (rest.map fun v => v.category).sum ≤ 8) (hdg : decode cc g.pc = .ok (.invokevirtual index, 3)) (hf : cells + mc ≤ R.cells ∧ slots + ms ≤ R.slots) :
    va_Run p l e R s m args below meth c H locs cells slots mc ms g rest (Qc (Value.ref b :: As).toArray) free := by
  obtain ⟨⟨hrc, hrs, hfr, hlo, hws, hcw⟩, hcode, hini, hy, hlen, hl, hin, hse⟩ := cw
  have hK : Back l R p e below s args y 3 8 (PreOf R mc ms Pc) (PostOf Qc mc ms free) := va_backW (hh := hh) (bytes := bytes) (maxL := maxL) (ret := ret) hM hp.1 hrc hrs hfr hlo hws hcw (fun a' U hW => word_at hW (Or.inl (by first | rfl | simp [Cond.onTables, Cond.keeps, Cond.steady])) hini)
  obtain ⟨hx, hb, hml, ho, -⟩ := S
  obtain ⟨-, ⟨cellB, hcB, hoB, hclB⟩, hPc⟩ := hp
  intro T hT X
  obtain ⟨v, vm₁, ⟨U', l2, c2, s2⟩, hW₁, X', ⟨g', mk, t, L, e1, e2, hq, h1, hL, h2, h3⟩, st⟩ := vx_callVW X hx (C := C) (hh := hh) (bytes := bytes) (maxL := maxL) (ret := ret) ho hl hin hse hcode hy hK (by rw [hT]; exact hcB) hoB hclB hg (hsize.trans hml.symm) (argsL := As) (rest := rest) (fun sig h => hn.trans (hlen sig h)) hstack hW (by rw [hb]; exact hdg)
    (fun vm₁ hW₁ => ⟨hf.1, hf.2, hPc (T.setVm vm₁) hT hW₁⟩)
  dsimp only [Pt.U, Pt.locs, Pt.cells, Pt.slots] at X' e1 e2 h1 h2 h3 st
  subst h1; subst h2; subst h3
  exact ⟨v, (T.setVm vm₁).calling g' mk (Value.ref b :: As).toArray, t, U', L, hT, X', hL, e1, e2, hq, st⟩
section
variable {y : MethodName} {bytes cc : ByteArray} {maxL nL mc ms n index : Nat} {ret : Option FieldType} {ws : List Cond} {rm : Room} {Pc : Array Value → State → Prop} {Qc : Array Value → State → Outcome → State → Prop} {XC : String → State → State → Prop} {free : Addr → Prop} {Ts : List Cond} {own C : String} {b : Addr} {As rest : List Value} {g : JFrame}
theorem vx_runVX {hh : List (Nat × Nat × Nat × Nat)} (S : CallFix p m c cc nL s args Ts own) (hM : vx_Met l y ws rm Pc Qc XC mc ms free) (cw : vx_CVW R s args own C index y bytes maxL ret hh ws rm mc ms n) (hp : PreV s H C b Pc As)
    (hg : g.method = m) (hn : As.length = n) (hsize : g.locals.size = nL) (hstack : g.stack = As.reverse ++ .ref b :: rest) (hW : 2 * g.monitorRoom + (rest.map fun v => v.category).sum ≤ 8) (hdg : decode cc g.pc = .ok (.invokevirtual index, 3)) (hf : cells + mc ≤ R.cells ∧ slots + ms ≤ R.slots) :
    vx_Run p l e R s m args below meth c H locs cells slots mc ms g rest (Qc (Value.ref b :: As).toArray) XC free := by
  obtain ⟨⟨hrc, hrs, hfr, hlo, hws, hcw⟩, hcode, hini, hy, hlen, hl, hin, hse⟩ := cw
  have hK : vx_Back l R p e below s args y 3 8 (PreOf R mc ms Pc) (PostOf Qc mc ms free) (vx_Post XC mc ms free) := vx_backW (hh := hh) (bytes := bytes) (maxL := maxL) (ret := ret) hM hp.1 hrc hrs hfr hlo hws hcw (fun a' U hW => word_at hW (Or.inl (by first | rfl | simp [Cond.onTables, Cond.keeps, Cond.steady])) hini)
  obtain ⟨hx, hb, hml, ho, -⟩ := S
  obtain ⟨-, ⟨cellB, hcB, hoB, hclB⟩, hPc⟩ := hp
  intro T hT X
  rcases vx_callVX X hx (C := C) (hh := hh) (bytes := bytes) (maxL := maxL) (ret := ret) ho hl hin hse hcode hy hK (by rw [hT]; exact hcB) hoB hclB hg (hsize.trans hml.symm) (argsL := As) (rest := rest) (fun sig h => hn.trans (hlen sig h)) hstack hW (by rw [hb]; exact hdg)
    (fun vm₁ hW₁ => ⟨hf.1, hf.2, hPc (T.setVm vm₁) hT hW₁⟩) with ⟨v, vm₁, ⟨U', l2, c2, s2⟩, hW₁, X', ⟨g', mk, t, L, e1, e2, hq, h1, hL, h2, h3⟩, st⟩ | ⟨q, vm₁, ⟨U', l2, c2, s2⟩, hW₁, X', ⟨g', mk, t, L, E, ce, e1, e2, hq, hce, hcv, hcl, h1, hL, h2, h3⟩, st⟩
  · dsimp only [Pt.U, Pt.locs, Pt.cells, Pt.slots] at X' e1 e2 h1 h2 h3 st
    subst h1; subst h2; subst h3
    exact Or.inl ⟨v, (T.setVm vm₁).calling g' mk (Value.ref b :: As).toArray, t, U', L, hT, X', hL, e1, e2, hq, st⟩
  · dsimp only [Pt.U, Pt.locs, Pt.cells, Pt.slots] at X' e1 e2 h1 h2 h3 st hcl
    subst h1; subst h2; subst h3
    exact Or.inr ⟨q, (T.setVm vm₁).calling g' mk (Value.ref b :: As).toArray, t, U', L, E, ce, hT, X', hL, e1, e2, hq, hce, hcv, vx_cls hW₁ hcl, st⟩
theorem vx_runSX {hh : List (Nat × Nat × Nat × Nat)} (S : CallFix p m c cc nL s args Ts own) (hM : vx_Met l y ws rm Pc Qc XC mc ms free) (cw : vx_CSW R s args own index y bytes maxL ret hh ws rm mc ms n) (hp : PreS s H Pc As)
    (hg : g.method = m) (hn : As.length = n) (hsize : g.locals.size = nL) (hstack : g.stack = As.reverse ++ rest) (hW : 2 * g.monitorRoom + (rest.map fun v => v.category).sum ≤ 8) (hdg : decode cc g.pc = .ok (.invokestatic index, 3)) (hf : cells + mc ≤ R.cells ∧ slots + ms ≤ R.slots) :
    vx_Run p l e R s m args below meth c H locs cells slots mc ms g rest (Qc As.toArray) XC free := by
  obtain ⟨⟨hrc, hrs, hfr, hlo, hws, hcw⟩, hcode, hini, hy, hlen, hl, hstt⟩ := cw
  have hK : vx_Back l R p e below s args y 3 8 (PreOf R mc ms Pc) (PostOf Qc mc ms free) (vx_Post XC mc ms free) := vx_backW (hh := hh) (bytes := bytes) (maxL := maxL) (ret := ret) hM hp.1 hrc hrs hfr hlo hws hcw (fun a' U hW => word_at hW (Or.inl (by first | rfl | simp [Cond.onTables, Cond.keeps, Cond.steady])) hini)
  obtain ⟨hx, hb, hml, ho, -⟩ := S
  intro T hT X
  rcases vx_callSX X hx (hh := hh) (bytes := bytes) (maxL := maxL) (ret := ret) ho hl hstt hini hcode hy hK hg (hsize.trans hml.symm) (argsL := As) (rest := rest) (fun sig h => hn.trans (hlen sig h)) hstack hW (by rw [hb]; exact hdg)
    (fun vm₁ hW₁ => ⟨hf.1, hf.2, hp.2 (T.setVm vm₁) hT hW₁⟩) with ⟨v, vm₁, ⟨U', l2, c2, s2⟩, hW₁, X', ⟨g', mk, t, L, e1, e2, hq, h1, hL, h2, h3⟩, st⟩ | ⟨q, vm₁, ⟨U', l2, c2, s2⟩, hW₁, X', ⟨g', mk, t, L, E, ce, e1, e2, hq, hce, hcv, hcl, h1, hL, h2, h3⟩, st⟩
  · dsimp only [Pt.U, Pt.locs, Pt.cells, Pt.slots] at X' e1 e2 h1 h2 h3 st
    subst h1; subst h2; subst h3
    exact Or.inl ⟨v, (T.setVm vm₁).calling g' mk As.toArray, t, U', L, hT, X', hL, e1, e2, hq, st⟩
  · dsimp only [Pt.U, Pt.locs, Pt.cells, Pt.slots] at X' e1 e2 h1 h2 h3 st hcl
    subst h1; subst h2; subst h3
    exact Or.inr ⟨q, (T.setVm vm₁).calling g' mk As.toArray, t, U', L, E, ce, hT, X', hL, e1, e2, hq, hce, hcv, vx_cls hW₁ hcl, st⟩
end
end VXH
theorem vx_ofWH {l : Launch} {y : MethodName} {ws ws' : List Cond} {rm : Room} {Pc : Array Value → State → Prop} {Qc : Array Value → State → Outcome → State → Prop} {XC : String → State → State → Prop} {mc ms : Nat} {free : Addr → Prop} {cc : ByteArray} {maxL : Nat} {ret : Option FieldType} {hh : List (Nat × Nat × Nat × Nat)}
    (hy : plainName y.cls = true) (hw : ws = Cond.codeWith y cc maxL ret hh :: ws')
    (body : ∀ p e s m args below meth c s₁, BodyLoose p l y (headSpec ws rm) cc maxL ret e s m args below meth c s₁ → c.maxLocals = maxL → Pc args s →
      W p l e (headSpec ws rm).room s m args below meth c s.heap [] 0 0 (vx_MQ below Qc XC args s mc ms free) (entryFrame m args maxL)) : vx_Met l y ws rm Pc Qc XC mc ms free := by
  refine MetFree.of_bodyS (code := cc) (maxLocals := maxL) (ret := ret) hy ?_ ?_
  · intro args s m h hn
    obtain ⟨m9, meth, c, hn9, h1, h2, h3, h4, -, h5, h6, -⟩ := Cond.codeWith_spec (atoms_spec (ws := ws) h _ (by rw [hw]; exact List.mem_cons_self))
    cases hn.symm.trans hn9
    exact ⟨meth, c, h1, h2, h3, h4, h5, h6⟩
  · intro p e s m args below meth c s₁ B hml hP _
    have hh0 : s₁.heap = s.heap := by rw [B.state]; rfl
    obtain ⟨t, a1, o, b1, b2, b3⟩ := body p e s m args below meth c s₁ B hml hP s₁ hh0 (Stand.of_body B)
    exact ⟨t, o, a1, b1, b2, b3⟩
/-! ===== END ===== -/

def RX0 : String := "ParallaxSheets$Filters"
def TX0 : u_T := fun k => match k with
  | 0 => ("ParallaxSheets$Filters", "weights", "[I", true)
  | 1 => ("ParallaxSheets$Filters", "divisor", "I", false)
  | 2 => ("ParallaxSheets$Filters", "base", "I", false)
  | 3 => ("ParallaxSheets$Filters", "nine", "[I", true)
  | _ => ("ParallaxSheets$Filters", "between", "LParallaxSheets$Sheet;", true)
def tyX0 : Nat → FieldType := fun k => match k with
  | 0 => .array .int
  | 1 => .int
  | 2 => .int
  | 3 => .array .int
  | _ => .object "ParallaxSheets$Sheet"
abbrev wsX00 : List Cond := u_ws RX0 TX0 5
theorem nmX0 : ∀ a, a < 5 → ∀ b, b < 5 → a ≠ b → (TX0 a).2.1 ≠ (TX0 b).2.1 := by decide +kernel
theorem tyX0_ok : ∀ k, k < 5 → parseFieldDescriptor (TX0 k).2.2.1 = some (tyX0 k) := by decide +kernel
abbrev cX0_init : ByteArray := prog_2_method_1_code
def yX0_init : MethodName := ⟨RX0, "<init>", "()V"⟩
abbrev cX0_run : ByteArray := prog_2_method_2_code
def yX0_run : MethodName := ⟨RX0, "run", "(LParallaxSheets$Sheet;LParallaxSheets$Sheet;I)V"⟩
abbrev cX0_pass : ByteArray := prog_2_method_3_code
def yX0_pass : MethodName := ⟨RX0, "pass", "(LParallaxSheets$Sheet;LParallaxSheets$Sheet;I)V"⟩
abbrev cX0_gatherNine : ByteArray := prog_2_method_4_code
def yX0_gatherNine : MethodName := ⟨RX0, "gatherNine", "(LParallaxSheets$Sheet;II)V"⟩
abbrev cX0_resultOfNine : ByteArray := prog_2_method_5_code
def yX0_resultOfNine : MethodName := ⟨RX0, "resultOfNine", "(I)I"⟩
abbrev cX0_weighted : ByteArray := prog_2_method_6_code
def yX0_weighted : MethodName := ⟨RX0, "weighted", "()I"⟩
abbrev cX0_middle : ByteArray := prog_2_method_7_code
def yX0_middle : MethodName := ⟨RX0, "middle", "()I"⟩
abbrev cX0_edge : ByteArray := prog_2_method_8_code
def yX0_edge : MethodName := ⟨RX0, "edge", "()I"⟩
abbrev cX0_least : ByteArray := prog_2_method_9_code
def yX0_least : MethodName := ⟨RX0, "least", "(Z)I"⟩
abbrev cX0_greatest : ByteArray := prog_2_method_10_code
def yX0_greatest : MethodName := ⟨RX0, "greatest", "(Z)I"⟩
abbrev cX0_isInCross : ByteArray := prog_2_method_11_code
def yX0_isInCross : MethodName := ⟨RX0, "isInCross", "(I)Z"⟩
def RX1 : String := "ParallaxSheets$Parts"
def TX1 : u_T := fun k => match k with
  | 0 => ("ParallaxSheets$Parts", "found", "I", false)
  | 1 => ("ParallaxSheets$Parts", "numbers", "[I", true)
  | 2 => ("ParallaxSheets$Parts", "waiting", "[I", true)
  | 3 => ("ParallaxSheets$Parts", "waitingCount", "I", false)
  | 4 => ("ParallaxSheets$Parts", "sizes", "[I", true)
  | 5 => ("ParallaxSheets$Parts", "atEdge", "[Z", true)
  | 6 => ("ParallaxSheets$Parts", "width", "I", false)
  | _ => ("ParallaxSheets$Parts", "height", "I", false)
def tyX1 : Nat → FieldType := fun k => match k with
  | 0 => .int
  | 1 => .array .int
  | 2 => .array .int
  | 3 => .int
  | 4 => .array .int
  | 5 => .array .boolean
  | 6 => .int
  | _ => .int
abbrev wsX10 : List Cond := u_ws RX1 TX1 8
theorem nmX1 : ∀ a, a < 8 → ∀ b, b < 8 → a ≠ b → (TX1 a).2.1 ≠ (TX1 b).2.1 := by decide +kernel
theorem tyX1_ok : ∀ k, k < 8 → parseFieldDescriptor (TX1 k).2.2.1 = some (tyX1 k) := by decide +kernel
abbrev cX1_init : ByteArray := prog_3_method_1_code
def yX1_init : MethodName := ⟨RX1, "<init>", "()V"⟩
abbrev cX1_find : ByteArray := prog_3_method_2_code
def yX1_find : MethodName := ⟨RX1, "find", "(LParallaxSheets$Sheet;IIZ)V"⟩
abbrev cX1_markMembers : ByteArray := prog_3_method_3_code
def yX1_markMembers : MethodName := ⟨RX1, "markMembers", "(LParallaxSheets$Sheet;IZ)V"⟩
abbrev cX1_gather : ByteArray := prog_3_method_4_code
def yX1_gather : MethodName := ⟨RX1, "gather", "(III)V"⟩
abbrev cX1_join : ByteArray := prog_3_method_5_code
def yX1_join : MethodName := ⟨RX1, "join", "(II)V"⟩
abbrev cX1_joinNeighbours : ByteArray := prog_3_method_6_code
def yX1_joinNeighbours : MethodName := ⟨RX1, "joinNeighbours", "(III)V"⟩
abbrev cX1_numberAt : ByteArray := prog_3_method_7_code
def yX1_numberAt : MethodName := ⟨RX1, "numberAt", "(II)I"⟩
abbrev cX1_largest : ByteArray := prog_3_method_8_code
def yX1_largest : MethodName := ⟨RX1, "largest", "()I"⟩
abbrev cX1_awayFromEdges : ByteArray := prog_3_method_9_code
def yX1_awayFromEdges : MethodName := ⟨RX1, "awayFromEdges", "()I"⟩
abbrev cX1_factOf : ByteArray := prog_3_method_10_code
def yX1_factOf : MethodName := ⟨RX1, "factOf", "(II)I"⟩
abbrev cX1_bound : ByteArray := prog_3_method_11_code
def yX1_bound : MethodName := ⟨RX1, "bound", "(II)I"⟩
abbrev cX1_bareSides : ByteArray := prog_3_method_12_code
def yX1_bareSides : MethodName := ⟨RX1, "bareSides", "(I)I"⟩
abbrev cX1_bareSide : ByteArray := prog_3_method_13_code
def yX1_bareSide : MethodName := ⟨RX1, "bareSide", "(II)I"⟩
def RX2 : String := "ParallaxSheets$Seams"
def TX2 : u_T := fun k => match k with
  | 0 => ("ParallaxSheets$Seams", "total", "I", false)
  | 1 => ("ParallaxSheets$Seams", "columns", "[I", true)
  | 2 => ("ParallaxSheets$Seams", "sums", "[I", true)
  | _ => ("ParallaxSheets$Seams", "result", "LParallaxSheets$Sheet;", true)
def tyX2 : Nat → FieldType := fun k => match k with
  | 0 => .int
  | 1 => .array .int
  | 2 => .array .int
  | _ => .object "ParallaxSheets$Sheet"
abbrev wsX20 : List Cond := u_ws RX2 TX2 4
theorem nmX2 : ∀ a, a < 4 → ∀ b, b < 4 → a ≠ b → (TX2 a).2.1 ≠ (TX2 b).2.1 := by decide +kernel
theorem tyX2_ok : ∀ k, k < 4 → parseFieldDescriptor (TX2 k).2.2.1 = some (tyX2 k) := by decide +kernel
abbrev cX2_init : ByteArray := prog_4_method_1_code
def yX2_init : MethodName := ⟨RX2, "<init>", "()V"⟩
abbrev cX2_find : ByteArray := prog_4_method_2_code
def yX2_find : MethodName := ⟨RX2, "find", "(LParallaxSheets$Sheet;)V"⟩
abbrev cX2_leastAbove : ByteArray := prog_4_method_3_code
def yX2_leastAbove : MethodName := ⟨RX2, "leastAbove", "(III)I"⟩
abbrev cX2_costOf : ByteArray := prog_4_method_4_code
def yX2_costOf : MethodName := ⟨RX2, "costOf", "(LParallaxSheets$Sheet;II)I"⟩
abbrev cX2_bestColumn : ByteArray := prog_4_method_5_code
def yX2_bestColumn : MethodName := ⟨RX2, "bestColumn", "(IIII)I"⟩
abbrev cX2_takeOut : ByteArray := prog_4_method_6_code
def yX2_takeOut : MethodName := ⟨RX2, "takeOut", "(LParallaxSheets$Sheet;)V"⟩
abbrev cX2_putIn : ByteArray := prog_4_method_7_code
def yX2_putIn : MethodName := ⟨RX2, "putIn", "(LParallaxSheets$Sheet;)V"⟩
def RX3 : String := "ParallaxSheets$Sheet"
def TX3 : u_T := fun k => match k with
  | 0 => ("ParallaxSheets$Sheet", "width", "I", false)
  | 1 => ("ParallaxSheets$Sheet", "height", "I", false)
  | _ => ("ParallaxSheets$Sheet", "values", "[I", true)
def tyX3 : Nat → FieldType := fun k => match k with
  | 0 => .int
  | 1 => .int
  | _ => .array .int
abbrev wsX30 : List Cond := u_ws RX3 TX3 3
theorem nmX3 : ∀ a, a < 3 → ∀ b, b < 3 → a ≠ b → (TX3 a).2.1 ≠ (TX3 b).2.1 := by decide +kernel
theorem tyX3_ok : ∀ k, k < 3 → parseFieldDescriptor (TX3 k).2.2.1 = some (tyX3 k) := by decide +kernel
abbrev cX3_init : ByteArray := prog_5_method_1_code
def yX3_init : MethodName := ⟨RX3, "<init>", "()V"⟩
abbrev cX3_size : ByteArray := prog_5_method_2_code
def yX3_size : MethodName := ⟨RX3, "size", "()I"⟩
abbrev cX3_measure : ByteArray := prog_5_method_3_code
def yX3_measure : MethodName := ⟨RX3, "measure", "(II)V"⟩
abbrev cX3_near : ByteArray := prog_5_method_4_code
def yX3_near : MethodName := ⟨RX3, "near", "(II)I"⟩
abbrev cX3_put : ByteArray := prog_5_method_5_code
def yX3_put : MethodName := ⟨RX3, "put", "(III)V"⟩
abbrev cX3_total : ByteArray := prog_5_method_6_code
def yX3_total : MethodName := ⟨RX3, "total", "()I"⟩
abbrev cX3_isAsLargeAs : ByteArray := prog_5_method_7_code
def yX3_isAsLargeAs : MethodName := ⟨RX3, "isAsLargeAs", "(LParallaxSheets$Sheet;)Z"⟩
abbrev cX3_differing : ByteArray := prog_5_method_8_code
def yX3_differing : MethodName := ⟨RX3, "differing", "(LParallaxSheets$Sheet;)I"⟩
abbrev cX3_become : ByteArray := prog_5_method_9_code
def yX3_become : MethodName := ⟨RX3, "become", "(LParallaxSheets$Sheet;)V"⟩
def RX4 : String := "ParallaxSheets$Tones"
def TX4 : u_T := fun k => match k with
  | 0 => ("ParallaxSheets$Tones", "counts", "[I", true)
  | 1 => ("ParallaxSheets$Tones", "plans", "[I", true)
  | _ => ("ParallaxSheets$Tones", "fields", "I", false)
def tyX4 : Nat → FieldType := fun k => match k with
  | 0 => .array .int
  | 1 => .array .int
  | _ => .int
abbrev wsX40 : List Cond := u_ws RX4 TX4 3
theorem nmX4 : ∀ a, a < 3 → ∀ b, b < 3 → a ≠ b → (TX4 a).2.1 ≠ (TX4 b).2.1 := by decide +kernel
theorem tyX4_ok : ∀ k, k < 3 → parseFieldDescriptor (TX4 k).2.2.1 = some (tyX4 k) := by decide +kernel
abbrev cX4_init : ByteArray := prog_6_method_1_code
def yX4_init : MethodName := ⟨RX4, "<init>", "()V"⟩
abbrev cX4_read : ByteArray := prog_6_method_2_code
def yX4_read : MethodName := ⟨RX4, "read", "(LParallaxSheets$Sheet;)V"⟩
abbrev cX4_planned : ByteArray := prog_6_method_3_code
def yX4_planned : MethodName := ⟨RX4, "planned", "(I)I"⟩
abbrev cX4_plan : ByteArray := prog_6_method_4_code
def yX4_plan : MethodName := ⟨RX4, "plan", "(I)V"⟩
abbrev cX4_planNegative : ByteArray := prog_6_method_5_code
def yX4_planNegative : MethodName := ⟨RX4, "planNegative", "()V"⟩
abbrev cX4_planStretch : ByteArray := prog_6_method_6_code
def yX4_planStretch : MethodName := ⟨RX4, "planStretch", "()V"⟩
abbrev cX4_planEven : ByteArray := prog_6_method_7_code
def yX4_planEven : MethodName := ⟨RX4, "planEven", "()V"⟩
abbrev cX4_planCut : ByteArray := prog_6_method_8_code
def yX4_planCut : MethodName := ⟨RX4, "planCut", "()V"⟩
abbrev cX4_least : ByteArray := prog_6_method_9_code
def yX4_least : MethodName := ⟨RX4, "least", "()I"⟩
abbrev cX4_greatest : ByteArray := prog_6_method_10_code
def yX4_greatest : MethodName := ⟨RX4, "greatest", "()I"⟩
abbrev cX4_inOrder : ByteArray := prog_6_method_11_code
def yX4_inOrder : MethodName := ⟨RX4, "inOrder", "(I)I"⟩
abbrev cX4_cut : ByteArray := prog_6_method_12_code
def yX4_cut : MethodName := ⟨RX4, "cut", "()I"⟩
def RX5 : String := "ParallaxSheets"
def TX5 : u_T := fun k => match k with
  | 0 => ("ParallaxSheets", "sheets", "[LParallaxSheets$Sheet;", true)
  | 1 => ("ParallaxSheets", "next", "LParallaxSheets$Sheet;", true)
  | 2 => ("ParallaxSheets", "filters", "LParallaxSheets$Filters;", true)
  | 3 => ("ParallaxSheets", "tones", "LParallaxSheets$Tones;", true)
  | 4 => ("ParallaxSheets", "parts", "LParallaxSheets$Parts;", true)
  | _ => ("ParallaxSheets", "seams", "LParallaxSheets$Seams;", true)
def tyX5 : Nat → FieldType := fun k => match k with
  | 0 => .array (.object "ParallaxSheets$Sheet")
  | 1 => .object "ParallaxSheets$Sheet"
  | 2 => .object "ParallaxSheets$Filters"
  | 3 => .object "ParallaxSheets$Tones"
  | 4 => .object "ParallaxSheets$Parts"
  | _ => .object "ParallaxSheets$Seams"
abbrev wsX50 : List Cond := u_ws RX5 TX5 6
theorem nmX5 : ∀ a, a < 6 → ∀ b, b < 6 → a ≠ b → (TX5 a).2.1 ≠ (TX5 b).2.1 := by decide +kernel
theorem tyX5_ok : ∀ k, k < 6 → parseFieldDescriptor (TX5 k).2.2.1 = some (tyX5 k) := by decide +kernel
abbrev cX5_init : ByteArray := prog_1_method_1_code
def yX5_init : MethodName := ⟨RX5, "<init>", "()V"⟩
abbrev cX5_fresh : ByteArray := prog_1_method_2_code
def yX5_fresh : MethodName := ⟨RX5, "fresh", "(IIII)I"⟩
abbrev cX5_dot : ByteArray := prog_1_method_3_code
def yX5_dot : MethodName := ⟨RX5, "dot", "(IIII)I"⟩
abbrev cX5_box : ByteArray := prog_1_method_4_code
def yX5_box : MethodName := ⟨RX5, "box", "(IIIIII)I"⟩
abbrev cX5_disc : ByteArray := prog_1_method_5_code
def yX5_disc : MethodName := ⟨RX5, "disc", "(IIIII)I"⟩
abbrev cX5_shade : ByteArray := prog_1_method_6_code
def yX5_shade : MethodName := ⟨RX5, "shade", "(IIII)I"⟩
abbrev cX5_copy : ByteArray := prog_1_method_7_code
def yX5_copy : MethodName := ⟨RX5, "copy", "(II)I"⟩
abbrev cX5_mix : ByteArray := prog_1_method_8_code
def yX5_mix : MethodName := ⟨RX5, "mix", "(III)I"⟩
abbrev cX5_turn : ByteArray := prog_1_method_9_code
def yX5_turn : MethodName := ⟨RX5, "turn", "(II)I"⟩
abbrev cX5_kernel : ByteArray := prog_1_method_10_code
def yX5_kernel : MethodName := ⟨RX5, "kernel", "(II)I"⟩
abbrev cX5_divide : ByteArray := prog_1_method_11_code
def yX5_divide : MethodName := ⟨RX5, "divide", "(II)I"⟩
abbrev cX5_filter : ByteArray := prog_1_method_12_code
def yX5_filter : MethodName := ⟨RX5, "filter", "(II)I"⟩
abbrev cX5_values : ByteArray := prog_1_method_13_code
def yX5_values : MethodName := ⟨RX5, "values", "(II)I"⟩
abbrev cX5_value : ByteArray := prog_1_method_14_code
def yX5_value : MethodName := ⟨RX5, "value", "(III)I"⟩
abbrev cX5_sheet : ByteArray := prog_1_method_15_code
def yX5_sheet : MethodName := ⟨RX5, "sheet", "(II)I"⟩
abbrev cX5_count : ByteArray := prog_1_method_16_code
def yX5_count : MethodName := ⟨RX5, "count", "(III)I"⟩
abbrev cX5_ordered : ByteArray := prog_1_method_17_code
def yX5_ordered : MethodName := ⟨RX5, "ordered", "(II)I"⟩
abbrev cX5_difference : ByteArray := prog_1_method_18_code
def yX5_difference : MethodName := ⟨RX5, "difference", "(II)D"⟩
abbrev cX5_parts : ByteArray := prog_1_method_19_code
def yX5_parts : MethodName := ⟨RX5, "parts", "(II)I"⟩
abbrev cX5_holes : ByteArray := prog_1_method_20_code
def yX5_holes : MethodName := ⟨RX5, "holes", "(II)I"⟩
abbrev cX5_partOf : ByteArray := prog_1_method_21_code
def yX5_partOf : MethodName := ⟨RX5, "partOf", "(IIII)I"⟩
abbrev cX5_part : ByteArray := prog_1_method_22_code
def yX5_part : MethodName := ⟨RX5, "part", "(IIII)I"⟩
abbrev cX5_keep : ByteArray := prog_1_method_23_code
def yX5_keep : MethodName := ⟨RX5, "keep", "(II)I"⟩
abbrev cX5_far : ByteArray := prog_1_method_24_code
def yX5_far : MethodName := ⟨RX5, "far", "(IIII)I"⟩
abbrev cX5_spread : ByteArray := prog_1_method_25_code
def yX5_spread : MethodName := ⟨RX5, "spread", "(II)I"⟩
abbrev cX5_carve : ByteArray := prog_1_method_26_code
def yX5_carve : MethodName := ⟨RX5, "carve", "(I)I"⟩
abbrev cX5_widen : ByteArray := prog_1_method_27_code
def yX5_widen : MethodName := ⟨RX5, "widen", "(I)I"⟩
abbrev cX5_seam : ByteArray := prog_1_method_28_code
def yX5_seam : MethodName := ⟨RX5, "seam", "(II)I"⟩
abbrev cX5_partsAt : ByteArray := prog_1_method_29_code
def yX5_partsAt : MethodName := ⟨RX5, "partsAt", "(III)I"⟩
abbrev cX5_carvedBy : ByteArray := prog_1_method_30_code
def yX5_carvedBy : MethodName := ⟨RX5, "carvedBy", "(II)I"⟩
abbrev cX5_digest : ByteArray := prog_1_method_31_code
def yX5_digest : MethodName := ⟨RX5, "digest", "()J"⟩
abbrev cX5_sheetAt : ByteArray := prog_1_method_32_code
def yX5_sheetAt : MethodName := ⟨RX5, "sheetAt", "(I)LParallaxSheets$Sheet;"⟩
abbrev cX5_needField : ByteArray := prog_1_method_33_code
def yX5_needField : MethodName := ⟨RX5, "needField", "(LParallaxSheets$Sheet;II)V"⟩
abbrev cX5_needPlace : ByteArray := prog_1_method_34_code
def yX5_needPlace : MethodName := ⟨RX5, "needPlace", "(Z)V"⟩
abbrev cX5_refuseUnless : ByteArray := prog_1_method_35_code
def yX5_refuseUnless : MethodName := ⟨RX5, "refuseUnless", "(Z)V"⟩
abbrev cX5_needState : ByteArray := prog_1_method_36_code
def yX5_needState : MethodName := ⟨RX5, "needState", "(Z)V"⟩
abbrev cX5_isFrom : ByteArray := prog_1_method_37_code
def yX5_isFrom : MethodName := ⟨RX5, "isFrom", "(III)Z"⟩
abbrev cX5_isValue : ByteArray := prog_1_method_38_code
def yX5_isValue : MethodName := ⟨RX5, "isValue", "(I)Z"⟩
abbrev cX5_isSlope : ByteArray := prog_1_method_39_code
def yX5_isSlope : MethodName := ⟨RX5, "isSlope", "(I)Z"⟩
abbrev cX5_isWays : ByteArray := prog_1_method_40_code
def yX5_isWays : MethodName := ⟨RX5, "isWays", "(I)Z"⟩
abbrev cX5_changeToNext : ByteArray := prog_1_method_41_code
def yX5_changeToNext : MethodName := ⟨RX5, "changeToNext", "(LParallaxSheets$Sheet;)I"⟩
abbrev cX5_turnedSide : ByteArray := prog_1_method_42_code
def yX5_turnedSide : MethodName := ⟨RX5, "turnedSide", "(III)I"⟩
abbrev cX5_turnedValue : ByteArray := prog_1_method_43_code
def yX5_turnedValue : MethodName := ⟨RX5, "turnedValue", "(LParallaxSheets$Sheet;III)I"⟩
abbrev cX5_factOf : ByteArray := prog_1_method_44_code
def yX5_factOf : MethodName := ⟨RX5, "factOf", "(LParallaxSheets$Sheet;I)I"⟩
abbrev cX5_partsFrom : ByteArray := prog_1_method_45_code
def yX5_partsFrom : MethodName := ⟨RX5, "partsFrom", "(LParallaxSheets$Sheet;II)I"⟩
abbrev cX5_holesOf : ByteArray := prog_1_method_46_code
def yX5_holesOf : MethodName := ⟨RX5, "holesOf", "(LParallaxSheets$Sheet;I)I"⟩
abbrev cX5_farOf : ByteArray := prog_1_method_47_code
def yX5_farOf : MethodName := ⟨RX5, "farOf", "(LParallaxSheets$Sheet;III)I"⟩
abbrev cX5_farWithin : ByteArray := prog_1_method_48_code
def yX5_farWithin : MethodName := ⟨RX5, "farWithin", "(LParallaxSheets$Sheet;III)I"⟩
abbrev cX5_farToOutside : ByteArray := prog_1_method_49_code
def yX5_farToOutside : MethodName := ⟨RX5, "farToOutside", "(LParallaxSheets$Sheet;III)I"⟩
abbrev cX5_distance : ByteArray := prog_1_method_50_code
def yX5_distance : MethodName := ⟨RX5, "distance", "(III)I"⟩
abbrev cX5_costOfCarving : ByteArray := prog_1_method_51_code
def yX5_costOfCarving : MethodName := ⟨RX5, "costOfCarving", "(LParallaxSheets$Sheet;I)I"⟩
abbrev cX5_digestWith : ByteArray := prog_1_method_52_code
def yX5_digestWith : MethodName := ⟨RX5, "digestWith", "(JI)J"⟩
abbrev cX5_digestFacts : ByteArray := prog_1_method_53_code
def yX5_digestFacts : MethodName := ⟨RX5, "digestFacts", "(JLParallaxSheets$Sheet;)J"⟩
abbrev cX5_digestSeams : ByteArray := prog_1_method_54_code
def yX5_digestSeams : MethodName := ⟨RX5, "digestSeams", "(JLParallaxSheets$Sheet;)J"⟩
abbrev cX5_digestFields : ByteArray := prog_1_method_55_code
def yX5_digestFields : MethodName := ⟨RX5, "digestFields", "(JLParallaxSheets$Sheet;)J"⟩
def RX6 : String := "ParallaxSheetsModel$Sheet"
def TX6 : u_T := fun k => match k with
  | 0 => ("ParallaxSheetsModel$Sheet", "w", "I", true)
  | 1 => ("ParallaxSheetsModel$Sheet", "h", "I", true)
  | _ => ("ParallaxSheetsModel$Sheet", "values", "[I", true)
def tyX6 : Nat → FieldType := fun k => match k with
  | 0 => .int
  | 1 => .int
  | _ => .array .int
abbrev wsX60 : List Cond := u_ws RX6 TX6 3
theorem nmX6 : ∀ a, a < 3 → ∀ b, b < 3 → a ≠ b → (TX6 a).2.1 ≠ (TX6 b).2.1 := by decide +kernel
theorem tyX6_ok : ∀ k, k < 3 → parseFieldDescriptor (TX6 k).2.2.1 = some (tyX6 k) := by decide +kernel
abbrev cX6_init : ByteArray := prog_9_method_1_code
def yX6_init : MethodName := ⟨RX6, "<init>", "(II[I)V"⟩
abbrev cX6_of : ByteArray := prog_9_method_2_code
def yX6_of : MethodName := ⟨RX6, "of", "(III)LParallaxSheetsModel$Sheet;"⟩
abbrev cX6_with : ByteArray := prog_9_method_3_code
def yX6_with : MethodName := ⟨RX6, "with", "([I)LParallaxSheetsModel$Sheet;"⟩
abbrev cX6_size : ByteArray := prog_9_method_4_code
def yX6_size : MethodName := ⟨RX6, "size", "()I"⟩
abbrev cX6_isIn : ByteArray := prog_9_method_5_code
def yX6_isIn : MethodName := ⟨RX6, "isIn", "(II)Z"⟩
abbrev cX6_at : ByteArray := prog_9_method_6_code
def yX6_at : MethodName := ⟨RX6, "at", "(II)I"⟩
abbrev cX6_others : ByteArray := prog_9_method_7_code
def yX6_others : MethodName := ⟨RX6, "others", "(LParallaxSheetsModel$Sheet;)I"⟩
abbrev cX6_isLike : ByteArray := prog_9_method_8_code
def yX6_isLike : MethodName := ⟨RX6, "isLike", "(LParallaxSheetsModel$Sheet;)Z"⟩
abbrev cX6_inOrder : ByteArray := prog_9_method_9_code
def yX6_inOrder : MethodName := ⟨RX6, "inOrder", "()[I"⟩
abbrev cX6_sorted : ByteArray := prog_9_method_10_code
def yX6_sorted : MethodName := ⟨RX6, "sorted", "([I)[I"⟩
abbrev cX6_sum : ByteArray := prog_9_method_11_code
def yX6_sum : MethodName := ⟨RX6, "sum", "()I"⟩
abbrev cX6_count : ByteArray := prog_9_method_12_code
def yX6_count : MethodName := ⟨RX6, "count", "(II)I"⟩
abbrev cX6_nine : ByteArray := prog_9_method_13_code
def yX6_nine : MethodName := ⟨RX6, "nine", "(I)[I"⟩
abbrev cX6_weighed : ByteArray := prog_9_method_14_code
def yX6_weighed : MethodName := ⟨RX6, "weighed", "([III)LParallaxSheetsModel$Sheet;"⟩
abbrev cX6_median : ByteArray := prog_9_method_15_code
def yX6_median : MethodName := ⟨RX6, "median", "()LParallaxSheetsModel$Sheet;"⟩
abbrev cX6_edges : ByteArray := prog_9_method_16_code
def yX6_edges : MethodName := ⟨RX6, "edges", "()LParallaxSheetsModel$Sheet;"⟩
abbrev cX6_extreme : ByteArray := prog_9_method_17_code
def yX6_extreme : MethodName := ⟨RX6, "extreme", "([IZ)LParallaxSheetsModel$Sheet;"⟩
abbrev cX6_cut : ByteArray := prog_9_method_18_code
def yX6_cut : MethodName := ⟨RX6, "cut", "()I"⟩
abbrev cX6_stretched : ByteArray := prog_9_method_19_code
def yX6_stretched : MethodName := ⟨RX6, "stretched", "()LParallaxSheetsModel$Sheet;"⟩
abbrev cX6_even : ByteArray := prog_9_method_20_code
def yX6_even : MethodName := ⟨RX6, "even", "()LParallaxSheetsModel$Sheet;"⟩
abbrev cX6_inTwo : ByteArray := prog_9_method_21_code
def yX6_inTwo : MethodName := ⟨RX6, "inTwo", "(I)LParallaxSheetsModel$Sheet;"⟩
abbrev cX6_parts : ByteArray := prog_9_method_22_code
def yX6_parts : MethodName := ⟨RX6, "parts", "(IZI)[I"⟩
abbrev cX6_many : ByteArray := prog_9_method_23_code
def yX6_many : MethodName := ⟨RX6, "many", "([I)I"⟩
abbrev cX6_isEdge : ByteArray := prog_9_method_24_code
def yX6_isEdge : MethodName := ⟨RX6, "isEdge", "(I)Z"⟩
abbrev cX6_holes : ByteArray := prog_9_method_25_code
def yX6_holes : MethodName := ⟨RX6, "holes", "(I)I"⟩
abbrev cX6_part : ByteArray := prog_9_method_26_code
def yX6_part : MethodName := ⟨RX6, "part", "([II)[I"⟩
abbrev cX6_free : ByteArray := prog_9_method_27_code
def yX6_free : MethodName := ⟨RX6, "free", "(II)I"⟩
abbrev cX6_kept : ByteArray := prog_9_method_28_code
def yX6_kept : MethodName := ⟨RX6, "kept", "(I)LParallaxSheetsModel$Sheet;"⟩
abbrev cX6_apart : ByteArray := prog_9_method_29_code
def yX6_apart : MethodName := ⟨RX6, "apart", "(III)I"⟩
abbrev cX6_far : ByteArray := prog_9_method_30_code
def yX6_far : MethodName := ⟨RX6, "far", "(II)I"⟩
abbrev cX6_cost : ByteArray := prog_9_method_31_code
def yX6_cost : MethodName := ⟨RX6, "cost", "(II)I"⟩
abbrev cX6_sums : ByteArray := prog_9_method_32_code
def yX6_sums : MethodName := ⟨RX6, "sums", "()[I"⟩
abbrev cX6_seam : ByteArray := prog_9_method_33_code
def yX6_seam : MethodName := ⟨RX6, "seam", "()[I"⟩
abbrev cX6_carved : ByteArray := prog_9_method_34_code
def yX6_carved : MethodName := ⟨RX6, "carved", "()LParallaxSheetsModel$Sheet;"⟩
abbrev cX6_widened : ByteArray := prog_9_method_35_code
def yX6_widened : MethodName := ⟨RX6, "widened", "()LParallaxSheetsModel$Sheet;"⟩
def RX7 : String := "ParallaxSheetsModel"
def TX7 : u_T := fun k => match k with
  | 0 => ("ParallaxSheetsModel", "thrown", "I", false)
  | 1 => ("ParallaxSheetsModel", "sheets", "[LParallaxSheetsModel$Sheet;", true)
  | 2 => ("ParallaxSheetsModel", "kernel", "[I", true)
  | 3 => ("ParallaxSheetsModel", "divisor", "I", false)
  | _ => ("ParallaxSheetsModel", "base", "I", false)
def tyX7 : Nat → FieldType := fun k => match k with
  | 0 => .int
  | 1 => .array (.object "ParallaxSheetsModel$Sheet")
  | 2 => .array .int
  | 3 => .int
  | _ => .int
abbrev wsX70 : List Cond := u_ws RX7 TX7 5
theorem nmX7 : ∀ a, a < 5 → ∀ b, b < 5 → a ≠ b → (TX7 a).2.1 ≠ (TX7 b).2.1 := by decide +kernel
theorem tyX7_ok : ∀ k, k < 5 → parseFieldDescriptor (TX7 k).2.2.1 = some (tyX7 k) := by decide +kernel
abbrev cX7_bound : ByteArray := prog_8_method_1_code
def yX7_bound : MethodName := ⟨RX7, "bound", "(I)I"⟩
abbrev cX7_init : ByteArray := prog_8_method_2_code
def yX7_init : MethodName := ⟨RX7, "<init>", "()V"⟩
abbrev cX7_thrown : ByteArray := prog_8_method_3_code
def yX7_thrown : MethodName := ⟨RX7, "thrown", "()I"⟩
abbrev cX7_isIn : ByteArray := prog_8_method_4_code
def yX7_isIn : MethodName := ⟨RX7, "isIn", "(III)Z"⟩
abbrev cX7_refuse : ByteArray := prog_8_method_5_code
def yX7_refuse : MethodName := ⟨RX7, "refuse", "(ZI)Z"⟩
abbrev cX7_start : ByteArray := prog_8_method_6_code
def yX7_start : MethodName := ⟨RX7, "start", "(ZI)Z"⟩
abbrev cX7_isNo : ByteArray := prog_8_method_7_code
def yX7_isNo : MethodName := ⟨RX7, "isNo", "(I)Z"⟩
abbrev cX7_isNoSheet : ByteArray := prog_8_method_8_code
def yX7_isNoSheet : MethodName := ⟨RX7, "isNoSheet", "(I)Z"⟩
abbrev cX7_isNoField : ByteArray := prog_8_method_9_code
def yX7_isNoField : MethodName := ⟨RX7, "isNoField", "(III)Z"⟩
abbrev cX7_isNoValue : ByteArray := prog_8_method_10_code
def yX7_isNoValue : MethodName := ⟨RX7, "isNoValue", "(I)Z"⟩
abbrev cX7_take : ByteArray := prog_8_method_11_code
def yX7_take : MethodName := ⟨RX7, "take", "(ILParallaxSheetsModel$Sheet;)I"⟩
abbrev cX7_fresh : ByteArray := prog_8_method_12_code
def yX7_fresh : MethodName := ⟨RX7, "fresh", "(IIII)I"⟩
abbrev cX7_dot : ByteArray := prog_8_method_13_code
def yX7_dot : MethodName := ⟨RX7, "dot", "(IIII)I"⟩
abbrev cX7_box : ByteArray := prog_8_method_14_code
def yX7_box : MethodName := ⟨RX7, "box", "(IIIIII)I"⟩
abbrev cX7_disc : ByteArray := prog_8_method_15_code
def yX7_disc : MethodName := ⟨RX7, "disc", "(IIIII)I"⟩
abbrev cX7_shade : ByteArray := prog_8_method_16_code
def yX7_shade : MethodName := ⟨RX7, "shade", "(IIII)I"⟩
abbrev cX7_copy : ByteArray := prog_8_method_17_code
def yX7_copy : MethodName := ⟨RX7, "copy", "(II)I"⟩
abbrev cX7_mix : ByteArray := prog_8_method_18_code
def yX7_mix : MethodName := ⟨RX7, "mix", "(III)I"⟩
abbrev cX7_turned : ByteArray := prog_8_method_19_code
def yX7_turned : MethodName := ⟨RX7, "turned", "(LParallaxSheetsModel$Sheet;I)LParallaxSheetsModel$Sheet;"⟩
abbrev cX7_turn : ByteArray := prog_8_method_20_code
def yX7_turn : MethodName := ⟨RX7, "turn", "(II)I"⟩
abbrev cX7_kernel : ByteArray := prog_8_method_21_code
def yX7_kernel : MethodName := ⟨RX7, "kernel", "(II)I"⟩
abbrev cX7_divide : ByteArray := prog_8_method_22_code
def yX7_divide : MethodName := ⟨RX7, "divide", "(II)I"⟩
abbrev cX7_filtered : ByteArray := prog_8_method_23_code
def yX7_filtered : MethodName := ⟨RX7, "filtered", "(LParallaxSheetsModel$Sheet;I)LParallaxSheetsModel$Sheet;"⟩
abbrev cX7_filter : ByteArray := prog_8_method_24_code
def yX7_filter : MethodName := ⟨RX7, "filter", "(II)I"⟩
abbrev cX7_inverted : ByteArray := prog_8_method_25_code
def yX7_inverted : MethodName := ⟨RX7, "inverted", "(LParallaxSheetsModel$Sheet;)LParallaxSheetsModel$Sheet;"⟩
abbrev cX7_values : ByteArray := prog_8_method_26_code
def yX7_values : MethodName := ⟨RX7, "values", "(II)I"⟩
abbrev cX7_value : ByteArray := prog_8_method_27_code
def yX7_value : MethodName := ⟨RX7, "value", "(III)I"⟩
abbrev cX7_of : ByteArray := prog_8_method_28_code
def yX7_of : MethodName := ⟨RX7, "of", "(LParallaxSheetsModel$Sheet;I)I"⟩
abbrev cX7_sheet : ByteArray := prog_8_method_29_code
def yX7_sheet : MethodName := ⟨RX7, "sheet", "(II)I"⟩
abbrev cX7_count : ByteArray := prog_8_method_30_code
def yX7_count : MethodName := ⟨RX7, "count", "(III)I"⟩
abbrev cX7_ordered : ByteArray := prog_8_method_31_code
def yX7_ordered : MethodName := ⟨RX7, "ordered", "(II)I"⟩
abbrev cX7_difference : ByteArray := prog_8_method_32_code
def yX7_difference : MethodName := ⟨RX7, "difference", "(II)D"⟩
abbrev cX7_areNoWays : ByteArray := prog_8_method_33_code
def yX7_areNoWays : MethodName := ⟨RX7, "areNoWays", "(I)Z"⟩
abbrev cX7_partsOf : ByteArray := prog_8_method_34_code
def yX7_partsOf : MethodName := ⟨RX7, "partsOf", "(LParallaxSheetsModel$Sheet;II)I"⟩
abbrev cX7_parts : ByteArray := prog_8_method_35_code
def yX7_parts : MethodName := ⟨RX7, "parts", "(II)I"⟩
abbrev cX7_holes : ByteArray := prog_8_method_36_code
def yX7_holes : MethodName := ⟨RX7, "holes", "(II)I"⟩
abbrev cX7_partOf : ByteArray := prog_8_method_37_code
def yX7_partOf : MethodName := ⟨RX7, "partOf", "(IIII)I"⟩
abbrev cX7_part : ByteArray := prog_8_method_38_code
def yX7_part : MethodName := ⟨RX7, "part", "(IIII)I"⟩
abbrev cX7_keep : ByteArray := prog_8_method_39_code
def yX7_keep : MethodName := ⟨RX7, "keep", "(II)I"⟩
abbrev cX7_far : ByteArray := prog_8_method_40_code
def yX7_far : MethodName := ⟨RX7, "far", "(IIII)I"⟩
abbrev cX7_spread : ByteArray := prog_8_method_41_code
def yX7_spread : MethodName := ⟨RX7, "spread", "(II)I"⟩
abbrev cX7_reshape : ByteArray := prog_8_method_42_code
def yX7_reshape : MethodName := ⟨RX7, "reshape", "(ILParallaxSheetsModel$Sheet;)I"⟩
abbrev cX7_carve : ByteArray := prog_8_method_43_code
def yX7_carve : MethodName := ⟨RX7, "carve", "(I)I"⟩
abbrev cX7_widen : ByteArray := prog_8_method_44_code
def yX7_widen : MethodName := ⟨RX7, "widen", "(I)I"⟩
abbrev cX7_seam : ByteArray := prog_8_method_45_code
def yX7_seam : MethodName := ⟨RX7, "seam", "(II)I"⟩
abbrev cX7_partsAt : ByteArray := prog_8_method_46_code
def yX7_partsAt : MethodName := ⟨RX7, "partsAt", "(III)I"⟩
abbrev cX7_carvedBy : ByteArray := prog_8_method_47_code
def yX7_carvedBy : MethodName := ⟨RX7, "carvedBy", "(LParallaxSheetsModel$Sheet;I)I"⟩
abbrev cX7_carvedBy_ : ByteArray := prog_8_method_48_code
def yX7_carvedBy_ : MethodName := ⟨RX7, "carvedBy", "(II)I"⟩
abbrev cX7_add : ByteArray := prog_8_method_49_code
def yX7_add : MethodName := ⟨RX7, "add", "(JJ)J"⟩
abbrev cX7_digest : ByteArray := prog_8_method_50_code
def yX7_digest : MethodName := ⟨RX7, "digest", "()J"⟩
def RJx145de : String := "java/io/Serializable"
def RJx8e188 : String := "java/lang/Cloneable"
def RJxb160c : String := "java/lang/Comparable"
def RJxabbfe : String := "java/lang/Integer$IntegerCache"
def RJ6 : String := "java/lang/Integer"
def TJ6 : u_T := fun k => match k with
  | _ => ("java/lang/Integer", "value", "I", true)
def tyJ6 : Nat → FieldType := fun k => match k with
  | _ => .int
abbrev wsJ60 : List Cond := u_ws RJ6 TJ6 1
theorem nmJ6 : ∀ a, a < 1 → ∀ b, b < 1 → a ≠ b → (TJ6 a).2.1 ≠ (TJ6 b).2.1 := by decide +kernel
theorem tyJ6_ok : ∀ k, k < 1 → parseFieldDescriptor (TJ6 k).2.2.1 = some (tyJ6 k) := by decide +kernel
abbrev cJ6_valueOf_2dffe : ByteArray := prog_17_method_22_code
def yJ6_valueOf_2dffe : MethodName := ⟨RJ6, "valueOf", "(I)Ljava/lang/Integer;"⟩
abbrev cJ6_init_d00df : ByteArray := prog_17_method_23_code
def yJ6_init_d00df : MethodName := ⟨RJ6, "<init>", "(I)V"⟩
abbrev cJ6_intValue_8abf5 : ByteArray := prog_17_method_27_code
def yJ6_intValue_8abf5 : MethodName := ⟨RJ6, "intValue", "()I"⟩
def RJxab1ab : String := "java/lang/Iterable"
def RJ9 : String := "java/lang/Math"
abbrev cJ9_abs_0f7a4 : ByteArray := prog_20_method_59_code
def yJ9_abs_0f7a4 : MethodName := ⟨RJ9, "abs", "(I)I"⟩
abbrev cJ9_max_7cf53 : ByteArray := prog_20_method_65_code
def yJ9_max_7cf53 : MethodName := ⟨RJ9, "max", "(II)I"⟩
abbrev cJ9_min_7cf53 : ByteArray := prog_20_method_69_code
def yJ9_min_7cf53 : MethodName := ⟨RJ9, "min", "(II)I"⟩
def RJxd2413 : String := "java/lang/Number"
abbrev cJxd2413_init_da8c8 : ByteArray := prog_21_method_1_code
def yJxd2413_init_da8c8 : MethodName := ⟨RJxd2413, "<init>", "()V"⟩
def RJ0 : String := "java/lang/String"
def RJ10 : String := "java/lang/System"
def RJxfd54e : String := "java/lang/constant/Constable"
def RJx3cf43 : String := "java/lang/constant/ConstantDesc"
def RJxa1e45 : String := "java/util/AbstractCollection"
abbrev cJxa1e45_init_da8c8 : ByteArray := prog_28_method_1_code
def yJxa1e45_init_da8c8 : MethodName := ⟨RJxa1e45, "<init>", "()V"⟩
def RJxc12de : String := "java/util/AbstractList"
abbrev cJxc12de_init_da8c8 : ByteArray := prog_29_method_1_code
def yJxc12de_init_da8c8 : MethodName := ⟨RJxc12de, "<init>", "()V"⟩
def RJx4a65c : String := "java/util/ArrayList"
def TJx4a65c : u_T := fun k => match k with
  | 0 => ("java/util/AbstractList", "modCount", "I", false)
  | 1 => ("java/util/ArrayList", "elementData", "[Ljava/lang/Object;", false)
  | _ => ("java/util/ArrayList", "size", "I", false)
def tyJx4a65c : Nat → FieldType := fun k => match k with
  | 0 => .int
  | 1 => .array (.object "java/lang/Object")
  | _ => .int
abbrev wsJx4a65c0 : List Cond := u_ws RJx4a65c TJx4a65c 3
theorem nmJx4a65c : ∀ a, a < 3 → ∀ b, b < 3 → a ≠ b → (TJx4a65c a).2.1 ≠ (TJx4a65c b).2.1 := by decide +kernel
theorem tyJx4a65c_ok : ∀ k, k < 3 → parseFieldDescriptor (TJx4a65c k).2.2.1 = some (tyJx4a65c k) := by decide +kernel
abbrev cJx4a65c_init_da8c8 : ByteArray := prog_30_method_2_code
def yJx4a65c_init_da8c8 : MethodName := ⟨RJx4a65c, "<init>", "()V"⟩
abbrev cJx4a65c_grow_92f84 : ByteArray := prog_30_method_6_code
def yJx4a65c_grow_92f84 : MethodName := ⟨RJx4a65c, "grow", "(I)[Ljava/lang/Object;"⟩
abbrev cJx4a65c_grow_d5877 : ByteArray := prog_30_method_7_code
def yJx4a65c_grow_d5877 : MethodName := ⟨RJx4a65c, "grow", "()[Ljava/lang/Object;"⟩
abbrev cJx4a65c_size_8abf5 : ByteArray := prog_30_method_8_code
def yJx4a65c_size_8abf5 : MethodName := ⟨RJx4a65c, "size", "()I"⟩
abbrev cJx4a65c_elementData_915e3 : ByteArray := prog_30_method_18_code
def yJx4a65c_elementData_915e3 : MethodName := ⟨RJx4a65c, "elementData", "(I)Ljava/lang/Object;"⟩
abbrev cJx4a65c_get_915e3 : ByteArray := prog_30_method_20_code
def yJx4a65c_get_915e3 : MethodName := ⟨RJx4a65c, "get", "(I)Ljava/lang/Object;"⟩
abbrev cJx4a65c_add_72be8 : ByteArray := prog_30_method_24_code
def yJx4a65c_add_72be8 : MethodName := ⟨RJx4a65c, "add", "(Ljava/lang/Object;[Ljava/lang/Object;I)V"⟩
abbrev cJx4a65c_add_9ea2d : ByteArray := prog_30_method_25_code
def yJx4a65c_add_9ea2d : MethodName := ⟨RJx4a65c, "add", "(Ljava/lang/Object;)Z"⟩
def RJ7 : String := "java/util/Arrays"
abbrev cJ7_copyOf_1904c : ByteArray := prog_31_method_119_code
def yJ7_copyOf_1904c : MethodName := ⟨RJ7, "copyOf", "([Ljava/lang/Object;I)[Ljava/lang/Object;"⟩
abbrev cJ7_copyOf_6403c : ByteArray := prog_31_method_120_code
def yJ7_copyOf_6403c : MethodName := ⟨RJ7, "copyOf", "([Ljava/lang/Object;ILjava/lang/Class;)[Ljava/lang/Object;"⟩
def RJx5ef63 : String := "java/util/Collection"
def RJxbd725 : String := "java/util/List"
def RJ15 : String := "java/util/Objects"
abbrev cJ15_checkIndex_7cf53 : ByteArray := prog_34_method_17_code
def yJ15_checkIndex_7cf53 : MethodName := ⟨RJ15, "checkIndex", "(II)I"⟩
def RJxf0a74 : String := "java/util/RandomAccess"
def RJxa66e6 : String := "java/util/SequencedCollection"
def RJ8 : String := "jdk/internal/util/ArraysSupport"
abbrev cJ8_newLength_cabcc : ByteArray := prog_37_method_27_code
def yJ8_newLength_cabcc : MethodName := ⟨RJ8, "newLength", "(III)I"⟩
abbrev cJ8_hugeLength_7cf53 : ByteArray := prog_37_method_28_code
def yJ8_hugeLength_7cf53 : MethodName := ⟨RJ8, "hugeLength", "(II)I"⟩
def RJ3 : String := "jdk/internal/util/Preconditions"
abbrev cJ3_checkIndex_8e157 : ByteArray := prog_38_method_11_code
def yJ3_checkIndex_8e157 : MethodName := ⟨RJ3, "checkIndex", "(IILjava/util/function/BiFunction;)I"⟩
def RL : String := "ParallaxSheetsLaw"
abbrev cL_fresh : ByteArray := method_3_code
def yL_fresh : MethodName := ⟨RL, "fresh", "(LParallaxSheets;IIII[J)I"⟩
abbrev cL_dot : ByteArray := method_4_code
def yL_dot : MethodName := ⟨RL, "dot", "(LParallaxSheets;IIII[J)I"⟩
abbrev cL_box : ByteArray := method_5_code
def yL_box : MethodName := ⟨RL, "box", "(LParallaxSheets;IIIIII[J)I"⟩
abbrev cL_disc : ByteArray := method_6_code
def yL_disc : MethodName := ⟨RL, "disc", "(LParallaxSheets;IIIII[J)I"⟩
abbrev cL_shade : ByteArray := method_7_code
def yL_shade : MethodName := ⟨RL, "shade", "(LParallaxSheets;IIII[J)I"⟩
abbrev cL_copy : ByteArray := method_8_code
def yL_copy : MethodName := ⟨RL, "copy", "(LParallaxSheets;II[J)I"⟩
abbrev cL_mix : ByteArray := method_9_code
def yL_mix : MethodName := ⟨RL, "mix", "(LParallaxSheets;III[J)I"⟩
abbrev cL_turn : ByteArray := method_10_code
def yL_turn : MethodName := ⟨RL, "turn", "(LParallaxSheets;II[J)I"⟩
abbrev cL_kernel : ByteArray := method_11_code
def yL_kernel : MethodName := ⟨RL, "kernel", "(LParallaxSheets;II[J)I"⟩
abbrev cL_divide : ByteArray := method_12_code
def yL_divide : MethodName := ⟨RL, "divide", "(LParallaxSheets;II[J)I"⟩
abbrev cL_filter : ByteArray := method_13_code
def yL_filter : MethodName := ⟨RL, "filter", "(LParallaxSheets;II[J)I"⟩
abbrev cL_values : ByteArray := method_14_code
def yL_values : MethodName := ⟨RL, "values", "(LParallaxSheets;II[J)I"⟩
abbrev cL_value : ByteArray := method_15_code
def yL_value : MethodName := ⟨RL, "value", "(LParallaxSheets;III[J)I"⟩
abbrev cL_sheet : ByteArray := method_16_code
def yL_sheet : MethodName := ⟨RL, "sheet", "(LParallaxSheets;II[J)I"⟩
abbrev cL_count : ByteArray := method_17_code
def yL_count : MethodName := ⟨RL, "count", "(LParallaxSheets;III[J)I"⟩
abbrev cL_ordered : ByteArray := method_18_code
def yL_ordered : MethodName := ⟨RL, "ordered", "(LParallaxSheets;II[J)I"⟩
abbrev cL_difference : ByteArray := method_19_code
def yL_difference : MethodName := ⟨RL, "difference", "(LParallaxSheets;II[D)I"⟩
abbrev cL_parts : ByteArray := method_20_code
def yL_parts : MethodName := ⟨RL, "parts", "(LParallaxSheets;II[J)I"⟩
abbrev cL_holes : ByteArray := method_21_code
def yL_holes : MethodName := ⟨RL, "holes", "(LParallaxSheets;II[J)I"⟩
abbrev cL_partOf : ByteArray := method_22_code
def yL_partOf : MethodName := ⟨RL, "partOf", "(LParallaxSheets;IIII[J)I"⟩
abbrev cL_part : ByteArray := method_23_code
def yL_part : MethodName := ⟨RL, "part", "(LParallaxSheets;IIII[J)I"⟩
abbrev cL_keep : ByteArray := method_24_code
def yL_keep : MethodName := ⟨RL, "keep", "(LParallaxSheets;II[J)I"⟩
abbrev cL_far : ByteArray := method_25_code
def yL_far : MethodName := ⟨RL, "far", "(LParallaxSheets;IIII[J)I"⟩
abbrev cL_spread : ByteArray := method_26_code
def yL_spread : MethodName := ⟨RL, "spread", "(LParallaxSheets;II[J)I"⟩
abbrev cL_carve : ByteArray := method_27_code
def yL_carve : MethodName := ⟨RL, "carve", "(LParallaxSheets;I[J)I"⟩
abbrev cL_widen : ByteArray := method_28_code
def yL_widen : MethodName := ⟨RL, "widen", "(LParallaxSheets;I[J)I"⟩
abbrev cL_seam : ByteArray := method_29_code
def yL_seam : MethodName := ⟨RL, "seam", "(LParallaxSheets;II[J)I"⟩
abbrev cL_partsAt : ByteArray := method_30_code
def yL_partsAt : MethodName := ⟨RL, "partsAt", "(LParallaxSheets;III[J)I"⟩
abbrev cL_carvedBy : ByteArray := method_31_code
def yL_carvedBy : MethodName := ⟨RL, "carvedBy", "(LParallaxSheets;II[J)I"⟩
abbrev cL_law : ByteArray := code
def yL_law : MethodName := ⟨RL, "law", "([I)Z"⟩
end
section
/-! the program as data: a row an instruction (pc, instruction, two numbers, a kind, a number), printed by wip/mach/gen.py -/
abbrev m_I : Type := Nat × Instr × Nat × Nat × Nat × Int
/-- ParallaxSheets.Filters init -/
def m_p_0 : List m_I := [(0, .aload_n 0, 0, 0, 0, 0), (1, .invokespecial 3, 0, 114, 7, 0), (4, .aload_n 0, 0, 0, 0, 0), (5, .bipush 9, 0, 0, 0, 0), (7, .newarray .int, 0, 108, 0, 0), (9, .putfield 9, 0, 0, 0, 117), (12, .aload_n 0, 0, 0, 0, 0), (13, .bipush 9, 0, 0, 0, 0), (15, .putfield 15, 0, 1, 0, 119), (18, .aload_n 0, 0, 0, 0, 0), (19, .iconst 0, 0, 0, 0, 0), (20, .putfield 19, 0, 2, 0, 121), (23, .aload_n 0, 0, 0, 0, 0), (24, .bipush 9, 0, 0, 0, 0), (26, .newarray .int, 0, 108, 0, 0), (28, .putfield 22, 0, 3, 0, 123), (31, .aload_n 0, 0, 0, 0, 0), (32, .new 25, 3, 115, 0, 0), (35, .dup, 0, 0, 0, 0), (36, .invokespecial 27, 31, 116, 2, 0), (39, .putfield 28, 0, 4, 0, 124), (42, .iconst 0, 0, 0, 0, 0), (43, .istore_n 1, 0, 0, 0, 0), (44, .iload_n 1, 0, 0, 0, 0), (45, .bipush 9, 0, 0, 0, 0), (47, .if_icmp .ge 16, 63, 0, 0, 0), (50, .aload_n 0, 0, 0, 0, 0), (51, .getfield 9, 0, 0, 0, 117), (54, .iload_n 1, 0, 0, 0, 0), (55, .iconst 1, 0, 0, 0, 0), (56, .iastore, 0, 0, 0, 0), (57, .iinc 1 1, 0, 0, 0, 0), (60, .goto (-16), 44, 0, 0, 0), (63, .return_, 0, 0, 0, 0)]
/-- ParallaxSheets.Filters run -/
def m_p_1 : List m_I := [(0, .iload_n 3, 0, 0, 0, 0), (1, .bipush 7, 0, 0, 0, 0), (3, .if_icmp .ne 26, 29, 0, 0, 0), (6, .aload_n 0, 0, 0, 0, 0), (7, .aload_n 1, 0, 0, 0, 0), (8, .aload_n 0, 0, 0, 0, 0), (9, .getfield 28, 0, 4, 0, 124), (12, .iconst 3, 0, 0, 0, 0), (13, .invokevirtual 32, 2, 620, 1, 0), (16, .aload_n 0, 0, 0, 0, 0), (17, .aload_n 0, 0, 0, 0, 0), (18, .getfield 28, 0, 4, 0, 124), (21, .aload_n 2, 0, 0, 0, 0), (22, .iconst 5, 0, 0, 0, 0), (23, .invokevirtual 32, 2, 620, 1, 0), (26, .goto 39, 65, 0, 0, 0), (29, .iload_n 3, 0, 0, 0, 0), (30, .bipush 8, 0, 0, 0, 0), (32, .if_icmp .ne 26, 58, 0, 0, 0), (35, .aload_n 0, 0, 0, 0, 0), (36, .aload_n 1, 0, 0, 0, 0), (37, .aload_n 0, 0, 0, 0, 0), (38, .getfield 28, 0, 4, 0, 124), (41, .iconst 5, 0, 0, 0, 0), (42, .invokevirtual 32, 2, 620, 1, 0), (45, .aload_n 0, 0, 0, 0, 0), (46, .aload_n 0, 0, 0, 0, 0), (47, .getfield 28, 0, 4, 0, 124), (50, .aload_n 2, 0, 0, 0, 0), (51, .iconst 3, 0, 0, 0, 0), (52, .invokevirtual 32, 2, 620, 1, 0), (55, .goto 10, 65, 0, 0, 0), (58, .aload_n 0, 0, 0, 0, 0), (59, .aload_n 1, 0, 0, 0, 0), (60, .aload_n 2, 0, 0, 0, 0), (61, .iload_n 3, 0, 0, 0, 0), (62, .invokevirtual 32, 2, 620, 1, 0), (65, .return_, 0, 0, 0, 0)]
/-- ParallaxSheets.Filters pass -/
def m_p_2 : List m_I := [(0, .aload_n 2, 0, 0, 0, 0), (1, .aload_n 1, 0, 0, 0, 0), (2, .getfield 36, 3, 0, 0, 90), (5, .aload_n 1, 0, 0, 0, 0), (6, .getfield 39, 3, 1, 0, 95), (9, .invokevirtual 42, 33, 624, 1, 0), (12, .iconst 0, 0, 0, 0, 0), (13, .istore 4, 0, 0, 0, 0), (15, .iload 4, 0, 0, 0, 0), (17, .aload_n 1, 0, 0, 0, 0), (18, .getfield 39, 3, 1, 0, 95), (21, .if_icmp .ge 49, 70, 0, 0, 0), (24, .iconst 0, 0, 0, 0, 0), (25, .istore 5, 0, 0, 0, 0), (27, .iload 5, 0, 0, 0, 0), (29, .aload_n 1, 0, 0, 0, 0), (30, .getfield 36, 3, 0, 0, 90), (33, .if_icmp .ge 31, 64, 0, 0, 0), (36, .aload_n 0, 0, 0, 0, 0), (37, .aload_n 1, 0, 0, 0, 0), (38, .iload 5, 0, 0, 0, 0), (40, .iload 4, 0, 0, 0, 0), (42, .invokevirtual 46, 3, 625, 1, 0), (45, .aload_n 2, 0, 0, 0, 0), (46, .iload 5, 0, 0, 0, 0), (48, .iload 4, 0, 0, 0, 0), (50, .aload_n 0, 0, 0, 0, 0), (51, .iload_n 3, 0, 0, 0, 0), (52, .invokevirtual 50, 4, 630, 1, 0), (55, .invokevirtual 54, 35, 660, 1, 0), (58, .iinc 5 1, 0, 0, 0, 0), (61, .goto (-34), 27, 0, 0, 0), (64, .iinc 4 1, 0, 0, 0, 0), (67, .goto (-52), 15, 0, 0, 0), (70, .return_, 0, 0, 0, 0)]
/-- ParallaxSheets.Filters gatherNine -/
def m_p_3 : List m_I := [(0, .iconst 0, 0, 0, 0, 0), (1, .istore 4, 0, 0, 0, 0), (3, .iload 4, 0, 0, 0, 0), (5, .bipush 9, 0, 0, 0, 0), (7, .if_icmp .ge 36, 43, 0, 0, 0), (10, .aload_n 0, 0, 0, 0, 0), (11, .getfield 22, 0, 3, 0, 123), (14, .iload 4, 0, 0, 0, 0), (16, .aload_n 1, 0, 0, 0, 0), (17, .iload_n 2, 0, 0, 0, 0), (18, .iconst 1, 0, 0, 0, 0), (19, .isub, 0, 0, 0, 0), (20, .iload 4, 0, 0, 0, 0), (22, .iconst 3, 0, 0, 0, 0), (23, .irem, 0, 0, 0, 0), (24, .iadd, 0, 0, 0, 0), (25, .iload_n 3, 0, 0, 0, 0), (26, .iconst 1, 0, 0, 0, 0), (27, .isub, 0, 0, 0, 0), (28, .iload 4, 0, 0, 0, 0), (30, .iconst 3, 0, 0, 0, 0), (31, .idiv, 0, 0, 0, 0), (32, .iadd, 0, 0, 0, 0), (33, .invokevirtual 58, 34, 629, 1, 0), (36, .iastore, 0, 0, 0, 0), (37, .iinc 4 1, 0, 0, 0, 0), (40, .goto (-37), 3, 0, 0, 0), (43, .return_, 0, 0, 0, 0)]
/-- ParallaxSheets.Filters resultOfNine -/
def m_p_4 : List m_I := [(0, .iload_n 1, 0, 0, 0, 0), (1, .tableswitch 72 0 5 #[39, 44, 49, 54, 60, 66], 0, 0, 0, 39), (40, .aload_n 0, 0, 0, 0, 0), (41, .invokevirtual 62, 5, 634, 1, 0), (44, .ireturn, 0, 0, 0, 0), (45, .aload_n 0, 0, 0, 0, 0), (46, .invokevirtual 66, 6, 638, 1, 0), (49, .ireturn, 0, 0, 0, 0), (50, .aload_n 0, 0, 0, 0, 0), (51, .invokevirtual 69, 7, 642, 1, 0), (54, .ireturn, 0, 0, 0, 0), (55, .aload_n 0, 0, 0, 0, 0), (56, .iconst 0, 0, 0, 0, 0), (57, .invokevirtual 72, 8, 647, 1, 0), (60, .ireturn, 0, 0, 0, 0), (61, .aload_n 0, 0, 0, 0, 0), (62, .iconst 1, 0, 0, 0, 0), (63, .invokevirtual 72, 8, 647, 1, 0), (66, .ireturn, 0, 0, 0, 0), (67, .aload_n 0, 0, 0, 0, 0), (68, .iconst 0, 0, 0, 0, 0), (69, .invokevirtual 76, 9, 655, 1, 0), (72, .ireturn, 0, 0, 0, 0), (73, .aload_n 0, 0, 0, 0, 0), (74, .iconst 1, 0, 0, 0, 0), (75, .invokevirtual 76, 9, 655, 1, 0), (78, .ireturn, 0, 0, 0, 0)]
/-- ParallaxSheets.Filters weighted -/
def m_p_5 : List m_I := [(0, .iconst 0, 0, 0, 0, 0), (1, .istore_n 1, 0, 0, 0, 0), (2, .iconst 0, 0, 0, 0, 0), (3, .istore_n 2, 0, 0, 0, 0), (4, .iload_n 2, 0, 0, 0, 0), (5, .bipush 9, 0, 0, 0, 0), (7, .if_icmp .ge 25, 32, 0, 0, 0), (10, .iload_n 1, 0, 0, 0, 0), (11, .aload_n 0, 0, 0, 0, 0), (12, .getfield 9, 0, 0, 0, 117), (15, .iload_n 2, 0, 0, 0, 0), (16, .iaload, 0, 0, 0, 0), (17, .aload_n 0, 0, 0, 0, 0), (18, .getfield 22, 0, 3, 0, 123), (21, .iload_n 2, 0, 0, 0, 0), (22, .iaload, 0, 0, 0, 0), (23, .imul, 0, 0, 0, 0), (24, .iadd, 0, 0, 0, 0), (25, .istore_n 1, 0, 0, 0, 0), (26, .iinc 2 1, 0, 0, 0, 0), (29, .goto (-25), 4, 0, 0, 0), (32, .iload_n 1, 0, 0, 0, 0), (33, .aload_n 0, 0, 0, 0, 0), (34, .getfield 15, 0, 1, 0, 119), (37, .idiv, 0, 0, 0, 0), (38, .aload_n 0, 0, 0, 0, 0), (39, .getfield 19, 0, 2, 0, 121), (42, .iadd, 0, 0, 0, 0), (43, .ireturn, 0, 0, 0, 0)]
/-- ParallaxSheets.Filters middle -/
def m_p_6 : List m_I := [(0, .iconst 1, 0, 0, 0, 0), (1, .istore_n 1, 0, 0, 0, 0), (2, .iload_n 1, 0, 0, 0, 0), (3, .bipush 9, 0, 0, 0, 0), (5, .if_icmp .ge 61, 66, 0, 0, 0), (8, .aload_n 0, 0, 0, 0, 0), (9, .getfield 22, 0, 3, 0, 123), (12, .iload_n 1, 0, 0, 0, 0), (13, .iaload, 0, 0, 0, 0), (14, .istore_n 2, 0, 0, 0, 0), (15, .iload_n 1, 0, 0, 0, 0), (16, .istore_n 3, 0, 0, 0, 0), (17, .iload_n 3, 0, 0, 0, 0), (18, .ifCond .le 35, 53, 0, 0, 0), (21, .aload_n 0, 0, 0, 0, 0), (22, .getfield 22, 0, 3, 0, 123), (25, .iload_n 3, 0, 0, 0, 0), (26, .iconst 1, 0, 0, 0, 0), (27, .isub, 0, 0, 0, 0), (28, .iaload, 0, 0, 0, 0), (29, .iload_n 2, 0, 0, 0, 0), (30, .if_icmp .le 23, 53, 0, 0, 0), (33, .aload_n 0, 0, 0, 0, 0), (34, .getfield 22, 0, 3, 0, 123), (37, .iload_n 3, 0, 0, 0, 0), (38, .aload_n 0, 0, 0, 0, 0), (39, .getfield 22, 0, 3, 0, 123), (42, .iload_n 3, 0, 0, 0, 0), (43, .iconst 1, 0, 0, 0, 0), (44, .isub, 0, 0, 0, 0), (45, .iaload, 0, 0, 0, 0), (46, .iastore, 0, 0, 0, 0), (47, .iinc 3 (-1), 0, 0, 0, 0), (50, .goto (-33), 17, 0, 0, 0), (53, .aload_n 0, 0, 0, 0, 0), (54, .getfield 22, 0, 3, 0, 123), (57, .iload_n 3, 0, 0, 0, 0), (58, .iload_n 2, 0, 0, 0, 0), (59, .iastore, 0, 0, 0, 0), (60, .iinc 1 1, 0, 0, 0, 0), (63, .goto (-61), 2, 0, 0, 0), (66, .aload_n 0, 0, 0, 0, 0), (67, .getfield 22, 0, 3, 0, 123), (70, .iconst 4, 0, 0, 0, 0), (71, .iaload, 0, 0, 0, 0), (72, .ireturn, 0, 0, 0, 0)]
/-- ParallaxSheets.Filters edge -/
def m_p_7 : List m_I := [(0, .aload_n 0, 0, 0, 0, 0), (1, .getfield 22, 0, 3, 0, 123), (4, .iconst 2, 0, 0, 0, 0), (5, .iaload, 0, 0, 0, 0), (6, .iconst 2, 0, 0, 0, 0), (7, .aload_n 0, 0, 0, 0, 0), (8, .getfield 22, 0, 3, 0, 123), (11, .iconst 5, 0, 0, 0, 0), (12, .iaload, 0, 0, 0, 0), (13, .imul, 0, 0, 0, 0), (14, .iadd, 0, 0, 0, 0), (15, .aload_n 0, 0, 0, 0, 0), (16, .getfield 22, 0, 3, 0, 123), (19, .bipush 8, 0, 0, 0, 0), (21, .iaload, 0, 0, 0, 0), (22, .iadd, 0, 0, 0, 0), (23, .aload_n 0, 0, 0, 0, 0), (24, .getfield 22, 0, 3, 0, 123), (27, .iconst 0, 0, 0, 0, 0), (28, .iaload, 0, 0, 0, 0), (29, .isub, 0, 0, 0, 0), (30, .iconst 2, 0, 0, 0, 0), (31, .aload_n 0, 0, 0, 0, 0), (32, .getfield 22, 0, 3, 0, 123), (35, .iconst 3, 0, 0, 0, 0), (36, .iaload, 0, 0, 0, 0), (37, .imul, 0, 0, 0, 0), (38, .isub, 0, 0, 0, 0), (39, .aload_n 0, 0, 0, 0, 0), (40, .getfield 22, 0, 3, 0, 123), (43, .bipush 6, 0, 0, 0, 0), (45, .iaload, 0, 0, 0, 0), (46, .isub, 0, 0, 0, 0), (47, .istore_n 1, 0, 0, 0, 0), (48, .aload_n 0, 0, 0, 0, 0), (49, .getfield 22, 0, 3, 0, 123), (52, .bipush 6, 0, 0, 0, 0), (54, .iaload, 0, 0, 0, 0), (55, .iconst 2, 0, 0, 0, 0), (56, .aload_n 0, 0, 0, 0, 0), (57, .getfield 22, 0, 3, 0, 123), (60, .bipush 7, 0, 0, 0, 0), (62, .iaload, 0, 0, 0, 0), (63, .imul, 0, 0, 0, 0), (64, .iadd, 0, 0, 0, 0), (65, .aload_n 0, 0, 0, 0, 0), (66, .getfield 22, 0, 3, 0, 123), (69, .bipush 8, 0, 0, 0, 0), (71, .iaload, 0, 0, 0, 0), (72, .iadd, 0, 0, 0, 0), (73, .aload_n 0, 0, 0, 0, 0), (74, .getfield 22, 0, 3, 0, 123), (77, .iconst 0, 0, 0, 0, 0), (78, .iaload, 0, 0, 0, 0), (79, .isub, 0, 0, 0, 0), (80, .iconst 2, 0, 0, 0, 0), (81, .aload_n 0, 0, 0, 0, 0), (82, .getfield 22, 0, 3, 0, 123), (85, .iconst 1, 0, 0, 0, 0), (86, .iaload, 0, 0, 0, 0), (87, .imul, 0, 0, 0, 0), (88, .isub, 0, 0, 0, 0), (89, .aload_n 0, 0, 0, 0, 0), (90, .getfield 22, 0, 3, 0, 123), (93, .iconst 2, 0, 0, 0, 0), (94, .iaload, 0, 0, 0, 0), (95, .isub, 0, 0, 0, 0), (96, .istore_n 2, 0, 0, 0, 0), (97, .iload_n 1, 0, 0, 0, 0), (98, .invokestatic 79, 0, 646, 5, 0), (101, .iload_n 2, 0, 0, 0, 0), (102, .invokestatic 79, 0, 646, 5, 0), (105, .iadd, 0, 0, 0, 0), (106, .iconst 4, 0, 0, 0, 0), (107, .idiv, 0, 0, 0, 0), (108, .ireturn, 0, 0, 0, 0)]
/-- ParallaxSheets.Filters least -/
def m_p_8 : List m_I := [(0, .aload_n 0, 0, 0, 0, 0), (1, .getfield 22, 0, 3, 0, 123), (4, .iconst 4, 0, 0, 0, 0), (5, .iaload, 0, 0, 0, 0), (6, .istore_n 2, 0, 0, 0, 0), (7, .iconst 0, 0, 0, 0, 0), (8, .istore_n 3, 0, 0, 0, 0), (9, .iload_n 3, 0, 0, 0, 0), (10, .bipush 9, 0, 0, 0, 0), (12, .if_icmp .ge 31, 43, 0, 0, 0), (15, .iload_n 1, 0, 0, 0, 0), (16, .ifCond .eq 10, 26, 0, 0, 0), (19, .iload_n 3, 0, 0, 0, 0), (20, .invokestatic 84, 10, 651, 1, 0), (23, .ifCond .eq 14, 37, 0, 0, 0), (26, .iload_n 2, 0, 0, 0, 0), (27, .aload_n 0, 0, 0, 0, 0), (28, .getfield 22, 0, 3, 0, 123), (31, .iload_n 3, 0, 0, 0, 0), (32, .iaload, 0, 0, 0, 0), (33, .invokestatic 88, 0, 654, 4, 0), (36, .istore_n 2, 0, 0, 0, 0), (37, .iinc 3 1, 0, 0, 0, 0), (40, .goto (-31), 9, 0, 0, 0), (43, .iload_n 2, 0, 0, 0, 0), (44, .ireturn, 0, 0, 0, 0)]
/-- ParallaxSheets.Filters greatest -/
def m_p_9 : List m_I := [(0, .aload_n 0, 0, 0, 0, 0), (1, .getfield 22, 0, 3, 0, 123), (4, .iconst 4, 0, 0, 0, 0), (5, .iaload, 0, 0, 0, 0), (6, .istore_n 2, 0, 0, 0, 0), (7, .iconst 0, 0, 0, 0, 0), (8, .istore_n 3, 0, 0, 0, 0), (9, .iload_n 3, 0, 0, 0, 0), (10, .bipush 9, 0, 0, 0, 0), (12, .if_icmp .ge 31, 43, 0, 0, 0), (15, .iload_n 1, 0, 0, 0, 0), (16, .ifCond .eq 10, 26, 0, 0, 0), (19, .iload_n 3, 0, 0, 0, 0), (20, .invokestatic 84, 10, 651, 1, 0), (23, .ifCond .eq 14, 37, 0, 0, 0), (26, .iload_n 2, 0, 0, 0, 0), (27, .aload_n 0, 0, 0, 0, 0), (28, .getfield 22, 0, 3, 0, 123), (31, .iload_n 3, 0, 0, 0, 0), (32, .iaload, 0, 0, 0, 0), (33, .invokestatic 91, 0, 659, 3, 0), (36, .istore_n 2, 0, 0, 0, 0), (37, .iinc 3 1, 0, 0, 0, 0), (40, .goto (-31), 9, 0, 0, 0), (43, .iload_n 2, 0, 0, 0, 0), (44, .ireturn, 0, 0, 0, 0)]
/-- ParallaxSheets.Filters isInCross -/
def m_p_10 : List m_I := [(0, .iload_n 0, 0, 0, 0, 0), (1, .iconst 4, 0, 0, 0, 0), (2, .if_icmp .eq 10, 12, 0, 0, 0), (5, .iload_n 0, 0, 0, 0, 0), (6, .iconst 2, 0, 0, 0, 0), (7, .irem, 0, 0, 0, 0), (8, .iconst 1, 0, 0, 0, 0), (9, .if_icmp .ne 7, 16, 0, 0, 0), (12, .iconst 1, 0, 0, 0, 0), (13, .goto 4, 17, 0, 0, 0), (16, .iconst 0, 0, 0, 0, 0), (17, .ireturn, 0, 0, 0, 0)]
/-- ParallaxSheets.Parts init -/
def m_p_11 : List m_I := [(0, .aload_n 0, 0, 0, 0, 0), (1, .invokespecial 3, 0, 157, 7, 0), (4, .aload_n 0, 0, 0, 0, 0), (5, .iconst 0, 0, 0, 0, 0), (6, .putfield 9, 1, 0, 0, 158), (9, .aload_n 0, 0, 0, 0, 0), (10, .sipush 256, 0, 0, 0, 0), (13, .newarray .int, 0, 108, 0, 0), (15, .putfield 15, 1, 1, 0, 160), (18, .aload_n 0, 0, 0, 0, 0), (19, .sipush 256, 0, 0, 0, 0), (22, .newarray .int, 0, 108, 0, 0), (24, .putfield 19, 1, 2, 0, 162), (27, .aload_n 0, 0, 0, 0, 0), (28, .iconst 0, 0, 0, 0, 0), (29, .putfield 22, 1, 3, 0, 163), (32, .aload_n 0, 0, 0, 0, 0), (33, .sipush 256, 0, 0, 0, 0), (36, .newarray .int, 0, 108, 0, 0), (38, .putfield 25, 1, 4, 0, 164), (41, .aload_n 0, 0, 0, 0, 0), (42, .sipush 256, 0, 0, 0, 0), (45, .newarray .boolean, 1, 185, 0, 0), (47, .putfield 28, 1, 5, 0, 165), (50, .aload_n 0, 0, 0, 0, 0), (51, .iconst 0, 0, 0, 0, 0), (52, .putfield 32, 1, 6, 0, 166), (55, .aload_n 0, 0, 0, 0, 0), (56, .iconst 0, 0, 0, 0, 0), (57, .putfield 35, 1, 7, 0, 167), (60, .return_, 0, 0, 0, 0)]
/-- ParallaxSheets.Parts find -/
def m_p_12 : List m_I := [(0, .aload_n 0, 0, 0, 0, 0), (1, .aload_n 1, 0, 0, 0, 0), (2, .getfield 38, 3, 0, 0, 88), (5, .putfield 32, 1, 6, 0, 166), (8, .aload_n 0, 0, 0, 0, 0), (9, .aload_n 1, 0, 0, 0, 0), (10, .getfield 41, 3, 1, 0, 94), (13, .putfield 35, 1, 7, 0, 167), (16, .aload_n 0, 0, 0, 0, 0), (17, .iconst 0, 0, 0, 0, 0), (18, .putfield 9, 1, 0, 0, 158), (21, .aload_n 0, 0, 0, 0, 0), (22, .aload_n 1, 0, 0, 0, 0), (23, .iload_n 3, 0, 0, 0, 0), (24, .iload 4, 0, 0, 0, 0), (26, .invokevirtual 42, 13, 283, 1, 0), (29, .iconst 0, 0, 0, 0, 0), (30, .istore 5, 0, 0, 0, 0), (32, .iload 5, 0, 0, 0, 0), (34, .aload_n 0, 0, 0, 0, 0), (35, .getfield 35, 1, 7, 0, 167), (38, .if_icmp .ge 60, 98, 0, 0, 0), (41, .iconst 0, 0, 0, 0, 0), (42, .istore 6, 0, 0, 0, 0), (44, .iload 6, 0, 0, 0, 0), (46, .aload_n 0, 0, 0, 0, 0), (47, .getfield 32, 1, 6, 0, 166), (50, .if_icmp .ge 42, 92, 0, 0, 0), (53, .aload_n 0, 0, 0, 0, 0), (54, .iload 6, 0, 0, 0, 0), (56, .iload 5, 0, 0, 0, 0), (58, .invokevirtual 46, 17, 287, 1, 0), (61, .sipush 256, 0, 0, 0, 0), (64, .if_icmp .ne 22, 86, 0, 0, 0), (67, .aload_n 0, 0, 0, 0, 0), (68, .iload 6, 0, 0, 0, 0), (70, .iload 5, 0, 0, 0, 0), (72, .iload_n 2, 0, 0, 0, 0), (73, .invokevirtual 50, 14, 291, 1, 0), (76, .aload_n 0, 0, 0, 0, 0), (77, .dup, 0, 0, 0, 0), (78, .getfield 9, 1, 0, 0, 158), (81, .iconst 1, 0, 0, 0, 0), (82, .iadd, 0, 0, 0, 0), (83, .putfield 9, 1, 0, 0, 158), (86, .iinc 6 1, 0, 0, 0, 0), (89, .goto (-45), 44, 0, 0, 0), (92, .iinc 5 1, 0, 0, 0, 0), (95, .goto (-63), 32, 0, 0, 0), (98, .return_, 0, 0, 0, 0)]
/-- ParallaxSheets.Parts markMembers -/
def m_p_13 : List m_I := [(0, .iconst 0, 0, 0, 0, 0), (1, .istore 4, 0, 0, 0, 0), (3, .iload 4, 0, 0, 0, 0), (5, .aload_n 0, 0, 0, 0, 0), (6, .getfield 32, 1, 6, 0, 166), (9, .aload_n 0, 0, 0, 0, 0), (10, .getfield 35, 1, 7, 0, 167), (13, .imul, 0, 0, 0, 0), (14, .if_icmp .ge 55, 69, 0, 0, 0), (17, .aload_n 1, 0, 0, 0, 0), (18, .getfield 54, 3, 2, 0, 100), (21, .iload 4, 0, 0, 0, 0), (23, .iaload, 0, 0, 0, 0), (24, .iload_n 2, 0, 0, 0, 0), (25, .if_icmp .lt 7, 32, 0, 0, 0), (28, .iconst 1, 0, 0, 0, 0), (29, .goto 4, 33, 0, 0, 0), (32, .iconst 0, 0, 0, 0, 0), (33, .iload_n 3, 0, 0, 0, 0), (34, .if_icmp .ne 7, 41, 0, 0, 0), (37, .iconst 1, 0, 0, 0, 0), (38, .goto 4, 42, 0, 0, 0), (41, .iconst 0, 0, 0, 0, 0), (42, .istore 5, 0, 0, 0, 0), (44, .aload_n 0, 0, 0, 0, 0), (45, .getfield 15, 1, 1, 0, 160), (48, .iload 4, 0, 0, 0, 0), (50, .iload 5, 0, 0, 0, 0), (52, .ifCond .eq 9, 61, 0, 0, 0), (55, .sipush 256, 0, 0, 0, 0), (58, .goto 4, 62, 0, 0, 0), (61, .iconst (-1), 0, 0, 0, 0), (62, .iastore, 0, 0, 0, 0), (63, .iinc 4 1, 0, 0, 0, 0), (66, .goto (-63), 3, 0, 0, 0), (69, .return_, 0, 0, 0, 0)]
/-- ParallaxSheets.Parts gather -/
def m_p_14 : List m_I := [(0, .aload_n 0, 0, 0, 0, 0), (1, .getfield 25, 1, 4, 0, 164), (4, .aload_n 0, 0, 0, 0, 0), (5, .getfield 9, 1, 0, 0, 158), (8, .iconst 0, 0, 0, 0, 0), (9, .iastore, 0, 0, 0, 0), (10, .aload_n 0, 0, 0, 0, 0), (11, .getfield 28, 1, 5, 0, 165), (14, .aload_n 0, 0, 0, 0, 0), (15, .getfield 9, 1, 0, 0, 158), (18, .iconst 0, 0, 0, 0, 0), (19, .bastore, 0, 0, 0, 0), (20, .aload_n 0, 0, 0, 0, 0), (21, .iconst 0, 0, 0, 0, 0), (22, .putfield 22, 1, 3, 0, 163), (25, .aload_n 0, 0, 0, 0, 0), (26, .iload_n 1, 0, 0, 0, 0), (27, .iload_n 2, 0, 0, 0, 0), (28, .invokevirtual 57, 15, 295, 1, 0), (31, .iconst 0, 0, 0, 0, 0), (32, .istore 4, 0, 0, 0, 0), (34, .iload 4, 0, 0, 0, 0), (36, .sipush 256, 0, 0, 0, 0), (39, .if_icmp .ge 52, 91, 0, 0, 0), (42, .aload_n 0, 0, 0, 0, 0), (43, .getfield 22, 1, 3, 0, 163), (46, .ifCond .le 45, 91, 0, 0, 0), (49, .aload_n 0, 0, 0, 0, 0), (50, .dup, 0, 0, 0, 0), (51, .getfield 22, 1, 3, 0, 163), (54, .iconst 1, 0, 0, 0, 0), (55, .isub, 0, 0, 0, 0), (56, .putfield 22, 1, 3, 0, 163), (59, .aload_n 0, 0, 0, 0, 0), (60, .getfield 19, 1, 2, 0, 162), (63, .aload_n 0, 0, 0, 0, 0), (64, .getfield 22, 1, 3, 0, 163), (67, .iaload, 0, 0, 0, 0), (68, .istore 5, 0, 0, 0, 0), (70, .aload_n 0, 0, 0, 0, 0), (71, .iload 5, 0, 0, 0, 0), (73, .bipush 16, 0, 0, 0, 0), (75, .irem, 0, 0, 0, 0), (76, .iload 5, 0, 0, 0, 0), (78, .bipush 16, 0, 0, 0, 0), (80, .idiv, 0, 0, 0, 0), (81, .iload_n 3, 0, 0, 0, 0), (82, .invokevirtual 61, 16, 299, 1, 0), (85, .iinc 4 1, 0, 0, 0, 0), (88, .goto (-54), 34, 0, 0, 0), (91, .return_, 0, 0, 0, 0)]
/-- ParallaxSheets.Parts join -/
def m_p_15 : List m_I := [(0, .aload_n 0, 0, 0, 0, 0), (1, .getfield 15, 1, 1, 0, 160), (4, .iload_n 2, 0, 0, 0, 0), (5, .aload_n 0, 0, 0, 0, 0), (6, .getfield 32, 1, 6, 0, 166), (9, .imul, 0, 0, 0, 0), (10, .iload_n 1, 0, 0, 0, 0), (11, .iadd, 0, 0, 0, 0), (12, .aload_n 0, 0, 0, 0, 0), (13, .getfield 9, 1, 0, 0, 158), (16, .iastore, 0, 0, 0, 0), (17, .aload_n 0, 0, 0, 0, 0), (18, .getfield 25, 1, 4, 0, 164), (21, .aload_n 0, 0, 0, 0, 0), (22, .getfield 9, 1, 0, 0, 158), (25, .dup2, 0, 0, 0, 0), (26, .iaload, 0, 0, 0, 0), (27, .iconst 1, 0, 0, 0, 0), (28, .iadd, 0, 0, 0, 0), (29, .iastore, 0, 0, 0, 0), (30, .iload_n 1, 0, 0, 0, 0), (31, .ifCond .eq 27, 58, 0, 0, 0), (34, .iload_n 2, 0, 0, 0, 0), (35, .ifCond .eq 23, 58, 0, 0, 0), (38, .iload_n 1, 0, 0, 0, 0), (39, .aload_n 0, 0, 0, 0, 0), (40, .getfield 32, 1, 6, 0, 166), (43, .iconst 1, 0, 0, 0, 0), (44, .isub, 0, 0, 0, 0), (45, .if_icmp .eq 13, 58, 0, 0, 0), (48, .iload_n 2, 0, 0, 0, 0), (49, .aload_n 0, 0, 0, 0, 0), (50, .getfield 35, 1, 7, 0, 167), (53, .iconst 1, 0, 0, 0, 0), (54, .isub, 0, 0, 0, 0), (55, .if_icmp .ne 13, 68, 0, 0, 0), (58, .aload_n 0, 0, 0, 0, 0), (59, .getfield 28, 1, 5, 0, 165), (62, .aload_n 0, 0, 0, 0, 0), (63, .getfield 9, 1, 0, 0, 158), (66, .iconst 1, 0, 0, 0, 0), (67, .bastore, 0, 0, 0, 0), (68, .aload_n 0, 0, 0, 0, 0), (69, .getfield 19, 1, 2, 0, 162), (72, .aload_n 0, 0, 0, 0, 0), (73, .getfield 22, 1, 3, 0, 163), (76, .iload_n 2, 0, 0, 0, 0), (77, .bipush 16, 0, 0, 0, 0), (79, .imul, 0, 0, 0, 0), (80, .iload_n 1, 0, 0, 0, 0), (81, .iadd, 0, 0, 0, 0), (82, .iastore, 0, 0, 0, 0), (83, .aload_n 0, 0, 0, 0, 0), (84, .dup, 0, 0, 0, 0), (85, .getfield 22, 1, 3, 0, 163), (88, .iconst 1, 0, 0, 0, 0), (89, .iadd, 0, 0, 0, 0), (90, .putfield 22, 1, 3, 0, 163), (93, .return_, 0, 0, 0, 0)]
/-- ParallaxSheets.Parts joinNeighbours -/
def m_p_16 : List m_I := [(0, .iconst (-1), 0, 0, 0, 0), (1, .istore 4, 0, 0, 0, 0), (3, .iload 4, 0, 0, 0, 0), (5, .iconst 1, 0, 0, 0, 0), (6, .if_icmp .gt 82, 88, 0, 0, 0), (9, .iconst (-1), 0, 0, 0, 0), (10, .istore 5, 0, 0, 0, 0), (12, .iload 5, 0, 0, 0, 0), (14, .iconst 1, 0, 0, 0, 0), (15, .if_icmp .gt 67, 82, 0, 0, 0), (18, .iload_n 3, 0, 0, 0, 0), (19, .bipush 8, 0, 0, 0, 0), (21, .if_icmp .eq 13, 34, 0, 0, 0), (24, .iload 5, 0, 0, 0, 0), (26, .ifCond .eq 8, 34, 0, 0, 0), (29, .iload 4, 0, 0, 0, 0), (31, .ifCond .ne 7, 38, 0, 0, 0), (34, .iconst 1, 0, 0, 0, 0), (35, .goto 4, 39, 0, 0, 0), (38, .iconst 0, 0, 0, 0, 0), (39, .istore 6, 0, 0, 0, 0), (41, .iload 6, 0, 0, 0, 0), (43, .ifCond .eq 33, 76, 0, 0, 0), (46, .aload_n 0, 0, 0, 0, 0), (47, .iload_n 1, 0, 0, 0, 0), (48, .iload 5, 0, 0, 0, 0), (50, .iadd, 0, 0, 0, 0), (51, .iload_n 2, 0, 0, 0, 0), (52, .iload 4, 0, 0, 0, 0), (54, .iadd, 0, 0, 0, 0), (55, .invokevirtual 46, 17, 287, 1, 0), (58, .sipush 256, 0, 0, 0, 0), (61, .if_icmp .ne 15, 76, 0, 0, 0), (64, .aload_n 0, 0, 0, 0, 0), (65, .iload_n 1, 0, 0, 0, 0), (66, .iload 5, 0, 0, 0, 0), (68, .iadd, 0, 0, 0, 0), (69, .iload_n 2, 0, 0, 0, 0), (70, .iload 4, 0, 0, 0, 0), (72, .iadd, 0, 0, 0, 0), (73, .invokevirtual 57, 15, 295, 1, 0), (76, .iinc 5 1, 0, 0, 0, 0), (79, .goto (-67), 12, 0, 0, 0), (82, .iinc 4 1, 0, 0, 0, 0), (85, .goto (-82), 3, 0, 0, 0), (88, .return_, 0, 0, 0, 0)]
/-- ParallaxSheets.Parts numberAt -/
def m_p_17 : List m_I := [(0, .iload_n 1, 0, 0, 0, 0), (1, .ifCond .lt 23, 24, 0, 0, 0), (4, .iload_n 2, 0, 0, 0, 0), (5, .ifCond .lt 19, 24, 0, 0, 0), (8, .iload_n 1, 0, 0, 0, 0), (9, .aload_n 0, 0, 0, 0, 0), (10, .getfield 32, 1, 6, 0, 166), (13, .if_icmp .ge 11, 24, 0, 0, 0), (16, .iload_n 2, 0, 0, 0, 0), (17, .aload_n 0, 0, 0, 0, 0), (18, .getfield 35, 1, 7, 0, 167), (21, .if_icmp .lt 5, 26, 0, 0, 0), (24, .iconst (-1), 0, 0, 0, 0), (25, .ireturn, 0, 0, 0, 0), (26, .aload_n 0, 0, 0, 0, 0), (27, .getfield 15, 1, 1, 0, 160), (30, .iload_n 2, 0, 0, 0, 0), (31, .aload_n 0, 0, 0, 0, 0), (32, .getfield 32, 1, 6, 0, 166), (35, .imul, 0, 0, 0, 0), (36, .iload_n 1, 0, 0, 0, 0), (37, .iadd, 0, 0, 0, 0), (38, .iaload, 0, 0, 0, 0), (39, .ireturn, 0, 0, 0, 0)]
/-- ParallaxSheets.Parts largest -/
def m_p_18 : List m_I := [(0, .iconst (-1), 0, 0, 0, 0), (1, .istore_n 1, 0, 0, 0, 0), (2, .iconst 0, 0, 0, 0, 0), (3, .istore_n 2, 0, 0, 0, 0), (4, .iconst 0, 0, 0, 0, 0), (5, .istore_n 3, 0, 0, 0, 0), (6, .iload_n 3, 0, 0, 0, 0), (7, .aload_n 0, 0, 0, 0, 0), (8, .getfield 9, 1, 0, 0, 158), (11, .if_icmp .ge 28, 39, 0, 0, 0), (14, .aload_n 0, 0, 0, 0, 0), (15, .getfield 25, 1, 4, 0, 164), (18, .iload_n 3, 0, 0, 0, 0), (19, .iaload, 0, 0, 0, 0), (20, .iload_n 2, 0, 0, 0, 0), (21, .if_icmp .le 12, 33, 0, 0, 0), (24, .aload_n 0, 0, 0, 0, 0), (25, .getfield 25, 1, 4, 0, 164), (28, .iload_n 3, 0, 0, 0, 0), (29, .iaload, 0, 0, 0, 0), (30, .istore_n 2, 0, 0, 0, 0), (31, .iload_n 3, 0, 0, 0, 0), (32, .istore_n 1, 0, 0, 0, 0), (33, .iinc 3 1, 0, 0, 0, 0), (36, .goto (-30), 6, 0, 0, 0), (39, .iload_n 1, 0, 0, 0, 0), (40, .ireturn, 0, 0, 0, 0)]
/-- ParallaxSheets.Parts awayFromEdges -/
def m_p_19 : List m_I := [(0, .iconst 0, 0, 0, 0, 0), (1, .istore_n 1, 0, 0, 0, 0), (2, .iconst 0, 0, 0, 0, 0), (3, .istore_n 2, 0, 0, 0, 0), (4, .iload_n 2, 0, 0, 0, 0), (5, .aload_n 0, 0, 0, 0, 0), (6, .getfield 9, 1, 0, 0, 158), (9, .if_icmp .ge 21, 30, 0, 0, 0), (12, .aload_n 0, 0, 0, 0, 0), (13, .getfield 28, 1, 5, 0, 165), (16, .iload_n 2, 0, 0, 0, 0), (17, .baload, 0, 0, 0, 0), (18, .ifCond .ne 6, 24, 0, 0, 0), (21, .iinc 1 1, 0, 0, 0, 0), (24, .iinc 2 1, 0, 0, 0, 0), (27, .goto (-23), 4, 0, 0, 0), (30, .iload_n 1, 0, 0, 0, 0), (31, .ireturn, 0, 0, 0, 0)]
/-- ParallaxSheets.Parts factOf -/
def m_p_20 : List m_I := [(0, .iload_n 2, 0, 0, 0, 0), (1, .ifCond .ne 10, 11, 0, 0, 0), (4, .aload_n 0, 0, 0, 0, 0), (5, .getfield 25, 1, 4, 0, 164), (8, .iload_n 1, 0, 0, 0, 0), (9, .iaload, 0, 0, 0, 0), (10, .ireturn, 0, 0, 0, 0), (11, .iload_n 2, 0, 0, 0, 0), (12, .iconst 5, 0, 0, 0, 0), (13, .if_icmp .ne 9, 22, 0, 0, 0), (16, .aload_n 0, 0, 0, 0, 0), (17, .iload_n 1, 0, 0, 0, 0), (18, .invokevirtual 64, 22, 767, 1, 0), (21, .ireturn, 0, 0, 0, 0), (22, .aload_n 0, 0, 0, 0, 0), (23, .iload_n 1, 0, 0, 0, 0), (24, .iload_n 2, 0, 0, 0, 0), (25, .invokevirtual 68, 21, 775, 1, 0), (28, .ireturn, 0, 0, 0, 0)]
/-- ParallaxSheets.Parts bound -/
def m_p_21 : List m_I := [(0, .iload_n 2, 0, 0, 0, 0), (1, .iconst 2, 0, 0, 0, 0), (2, .if_icmp .gt 7, 9, 0, 0, 0), (5, .iconst 1, 0, 0, 0, 0), (6, .goto 4, 10, 0, 0, 0), (9, .iconst 0, 0, 0, 0, 0), (10, .istore_n 3, 0, 0, 0, 0), (11, .iload_n 3, 0, 0, 0, 0), (12, .ifCond .eq 8, 20, 0, 0, 0), (15, .bipush 16, 0, 0, 0, 0), (17, .goto 4, 21, 0, 0, 0), (20, .iconst 0, 0, 0, 0, 0), (21, .istore 4, 0, 0, 0, 0), (23, .iconst 0, 0, 0, 0, 0), (24, .istore 5, 0, 0, 0, 0), (26, .iload 5, 0, 0, 0, 0), (28, .aload_n 0, 0, 0, 0, 0), (29, .getfield 35, 1, 7, 0, 167), (32, .if_icmp .ge 78, 110, 0, 0, 0), (35, .iconst 0, 0, 0, 0, 0), (36, .istore 6, 0, 0, 0, 0), (38, .iload 6, 0, 0, 0, 0), (40, .aload_n 0, 0, 0, 0, 0), (41, .getfield 32, 1, 6, 0, 166), (44, .if_icmp .ge 60, 104, 0, 0, 0), (47, .aload_n 0, 0, 0, 0, 0), (48, .iload 6, 0, 0, 0, 0), (50, .iload 5, 0, 0, 0, 0), (52, .invokevirtual 46, 17, 287, 1, 0), (55, .iload_n 1, 0, 0, 0, 0), (56, .if_icmp .ne 42, 98, 0, 0, 0), (59, .iload_n 2, 0, 0, 0, 0), (60, .iconst 2, 0, 0, 0, 0), (61, .irem, 0, 0, 0, 0), (62, .iconst 1, 0, 0, 0, 0), (63, .if_icmp .ne 8, 71, 0, 0, 0), (66, .iload 6, 0, 0, 0, 0), (68, .goto 5, 73, 0, 0, 0), (71, .iload 5, 0, 0, 0, 0), (73, .istore 7, 0, 0, 0, 0), (75, .iload_n 3, 0, 0, 0, 0), (76, .ifCond .eq 13, 89, 0, 0, 0), (79, .iload 4, 0, 0, 0, 0), (81, .iload 7, 0, 0, 0, 0), (83, .invokestatic 71, 0, 779, 4, 0), (86, .goto 10, 96, 0, 0, 0), (89, .iload 4, 0, 0, 0, 0), (91, .iload 7, 0, 0, 0, 0), (93, .invokestatic 76, 0, 780, 3, 0), (96, .istore 4, 0, 0, 0, 0), (98, .iinc 6 1, 0, 0, 0, 0), (101, .goto (-63), 38, 0, 0, 0), (104, .iinc 5 1, 0, 0, 0, 0), (107, .goto (-81), 26, 0, 0, 0), (110, .iload 4, 0, 0, 0, 0), (112, .ireturn, 0, 0, 0, 0)]
/-- ParallaxSheets.Parts bareSides -/
def m_p_22 : List m_I := [(0, .iconst 0, 0, 0, 0, 0), (1, .istore_n 2, 0, 0, 0, 0), (2, .iconst 0, 0, 0, 0, 0), (3, .istore_n 3, 0, 0, 0, 0), (4, .iload_n 3, 0, 0, 0, 0), (5, .aload_n 0, 0, 0, 0, 0), (6, .getfield 35, 1, 7, 0, 167), (9, .if_icmp .ge 80, 89, 0, 0, 0), (12, .iconst 0, 0, 0, 0, 0), (13, .istore 4, 0, 0, 0, 0), (15, .iload 4, 0, 0, 0, 0), (17, .aload_n 0, 0, 0, 0, 0), (18, .getfield 32, 1, 6, 0, 166), (21, .if_icmp .ge 62, 83, 0, 0, 0), (24, .aload_n 0, 0, 0, 0, 0), (25, .iload 4, 0, 0, 0, 0), (27, .iload_n 3, 0, 0, 0, 0), (28, .invokevirtual 46, 17, 287, 1, 0), (31, .iload_n 1, 0, 0, 0, 0), (32, .if_icmp .ne 45, 77, 0, 0, 0), (35, .iload_n 2, 0, 0, 0, 0), (36, .aload_n 0, 0, 0, 0, 0), (37, .iload 4, 0, 0, 0, 0), (39, .iconst 1, 0, 0, 0, 0), (40, .isub, 0, 0, 0, 0), (41, .iload_n 3, 0, 0, 0, 0), (42, .invokevirtual 79, 23, 771, 1, 0), (45, .aload_n 0, 0, 0, 0, 0), (46, .iload 4, 0, 0, 0, 0), (48, .iconst 1, 0, 0, 0, 0), (49, .iadd, 0, 0, 0, 0), (50, .iload_n 3, 0, 0, 0, 0), (51, .invokevirtual 79, 23, 771, 1, 0), (54, .iadd, 0, 0, 0, 0), (55, .aload_n 0, 0, 0, 0, 0), (56, .iload 4, 0, 0, 0, 0), (58, .iload_n 3, 0, 0, 0, 0), (59, .iconst 1, 0, 0, 0, 0), (60, .isub, 0, 0, 0, 0), (61, .invokevirtual 79, 23, 771, 1, 0), (64, .iadd, 0, 0, 0, 0), (65, .aload_n 0, 0, 0, 0, 0), (66, .iload 4, 0, 0, 0, 0), (68, .iload_n 3, 0, 0, 0, 0), (69, .iconst 1, 0, 0, 0, 0), (70, .iadd, 0, 0, 0, 0), (71, .invokevirtual 79, 23, 771, 1, 0), (74, .iadd, 0, 0, 0, 0), (75, .iadd, 0, 0, 0, 0), (76, .istore_n 2, 0, 0, 0, 0), (77, .iinc 4 1, 0, 0, 0, 0), (80, .goto (-65), 15, 0, 0, 0), (83, .iinc 3 1, 0, 0, 0, 0), (86, .goto (-82), 4, 0, 0, 0), (89, .iload_n 2, 0, 0, 0, 0), (90, .ireturn, 0, 0, 0, 0)]
/-- ParallaxSheets.Parts bareSide -/
def m_p_23 : List m_I := [(0, .aload_n 0, 0, 0, 0, 0), (1, .iload_n 1, 0, 0, 0, 0), (2, .iload_n 2, 0, 0, 0, 0), (3, .invokevirtual 46, 17, 287, 1, 0), (6, .iconst (-1), 0, 0, 0, 0), (7, .if_icmp .ne 7, 14, 0, 0, 0), (10, .iconst 1, 0, 0, 0, 0), (11, .goto 4, 15, 0, 0, 0), (14, .iconst 0, 0, 0, 0, 0), (15, .ireturn, 0, 0, 0, 0)]
/-- ParallaxSheets.Seams init -/
def m_p_24 : List m_I := [(0, .aload_n 0, 0, 0, 0, 0), (1, .invokespecial 3, 0, 191, 7, 0), (4, .aload_n 0, 0, 0, 0, 0), (5, .iconst 0, 0, 0, 0, 0), (6, .putfield 9, 2, 0, 0, 194), (9, .aload_n 0, 0, 0, 0, 0), (10, .bipush 16, 0, 0, 0, 0), (12, .newarray .int, 0, 108, 0, 0), (14, .putfield 15, 2, 1, 0, 196), (17, .aload_n 0, 0, 0, 0, 0), (18, .sipush 256, 0, 0, 0, 0), (21, .newarray .int, 0, 108, 0, 0), (23, .putfield 19, 2, 2, 0, 198), (26, .aload_n 0, 0, 0, 0, 0), (27, .new 22, 3, 192, 0, 0), (30, .dup, 0, 0, 0, 0), (31, .invokespecial 24, 31, 193, 2, 0), (34, .putfield 25, 2, 3, 0, 199), (37, .return_, 0, 0, 0, 0)]
/-- ParallaxSheets.Seams find -/
def m_p_25 : List m_I := [(0, .iconst 0, 0, 0, 0, 0), (1, .istore_n 2, 0, 0, 0, 0), (2, .iload_n 2, 0, 0, 0, 0), (3, .aload_n 1, 0, 0, 0, 0), (4, .getfield 29, 3, 1, 0, 93), (7, .if_icmp .ge 55, 62, 0, 0, 0), (10, .iconst 0, 0, 0, 0, 0), (11, .istore_n 3, 0, 0, 0, 0), (12, .iload_n 3, 0, 0, 0, 0), (13, .aload_n 1, 0, 0, 0, 0), (14, .getfield 32, 3, 0, 0, 89), (17, .if_icmp .ge 39, 56, 0, 0, 0), (20, .aload_n 0, 0, 0, 0, 0), (21, .getfield 19, 2, 2, 0, 198), (24, .iload_n 2, 0, 0, 0, 0), (25, .aload_n 1, 0, 0, 0, 0), (26, .getfield 32, 3, 0, 0, 89), (29, .imul, 0, 0, 0, 0), (30, .iload_n 3, 0, 0, 0, 0), (31, .iadd, 0, 0, 0, 0), (32, .aload_n 1, 0, 0, 0, 0), (33, .iload_n 3, 0, 0, 0, 0), (34, .iload_n 2, 0, 0, 0, 0), (35, .invokestatic 35, 27, 319, 1, 0), (38, .aload_n 0, 0, 0, 0, 0), (39, .aload_n 1, 0, 0, 0, 0), (40, .getfield 32, 3, 0, 0, 89), (43, .iload_n 3, 0, 0, 0, 0), (44, .iload_n 2, 0, 0, 0, 0), (45, .invokevirtual 39, 26, 335, 1, 0), (48, .iadd, 0, 0, 0, 0), (49, .iastore, 0, 0, 0, 0), (50, .iinc 3 1, 0, 0, 0, 0), (53, .goto (-41), 12, 0, 0, 0), (56, .iinc 2 1, 0, 0, 0, 0), (59, .goto (-57), 2, 0, 0, 0), (62, .aload_n 1, 0, 0, 0, 0), (63, .getfield 29, 3, 1, 0, 93), (66, .iconst 1, 0, 0, 0, 0), (67, .isub, 0, 0, 0, 0), (68, .istore_n 2, 0, 0, 0, 0), (69, .aload_n 0, 0, 0, 0, 0), (70, .getfield 15, 2, 1, 0, 196), (73, .iload_n 2, 0, 0, 0, 0), (74, .aload_n 0, 0, 0, 0, 0), (75, .aload_n 1, 0, 0, 0, 0), (76, .getfield 32, 3, 0, 0, 89), (79, .iload_n 2, 0, 0, 0, 0), (80, .iconst 0, 0, 0, 0, 0), (81, .aload_n 1, 0, 0, 0, 0), (82, .getfield 32, 3, 0, 0, 89), (85, .iconst 1, 0, 0, 0, 0), (86, .isub, 0, 0, 0, 0), (87, .invokevirtual 43, 28, 339, 1, 0), (90, .iastore, 0, 0, 0, 0), (91, .aload_n 0, 0, 0, 0, 0), (92, .aload_n 0, 0, 0, 0, 0), (93, .getfield 19, 2, 2, 0, 198), (96, .iload_n 2, 0, 0, 0, 0), (97, .aload_n 1, 0, 0, 0, 0), (98, .getfield 32, 3, 0, 0, 89), (101, .imul, 0, 0, 0, 0), (102, .aload_n 0, 0, 0, 0, 0), (103, .getfield 15, 2, 1, 0, 196), (106, .iload_n 2, 0, 0, 0, 0), (107, .iaload, 0, 0, 0, 0), (108, .iadd, 0, 0, 0, 0), (109, .iaload, 0, 0, 0, 0), (110, .putfield 9, 2, 0, 0, 194), (113, .iload_n 2, 0, 0, 0, 0), (114, .iconst 1, 0, 0, 0, 0), (115, .isub, 0, 0, 0, 0), (116, .istore_n 3, 0, 0, 0, 0), (117, .iload_n 3, 0, 0, 0, 0), (118, .ifCond .lt 44, 162, 0, 0, 0), (121, .aload_n 0, 0, 0, 0, 0), (122, .getfield 15, 2, 1, 0, 196), (125, .iload_n 3, 0, 0, 0, 0), (126, .aload_n 0, 0, 0, 0, 0), (127, .aload_n 1, 0, 0, 0, 0), (128, .getfield 32, 3, 0, 0, 89), (131, .iload_n 3, 0, 0, 0, 0), (132, .aload_n 0, 0, 0, 0, 0), (133, .getfield 15, 2, 1, 0, 196), (136, .iload_n 3, 0, 0, 0, 0), (137, .iconst 1, 0, 0, 0, 0), (138, .iadd, 0, 0, 0, 0), (139, .iaload, 0, 0, 0, 0), (140, .iconst 1, 0, 0, 0, 0), (141, .isub, 0, 0, 0, 0), (142, .aload_n 0, 0, 0, 0, 0), (143, .getfield 15, 2, 1, 0, 196), (146, .iload_n 3, 0, 0, 0, 0), (147, .iconst 1, 0, 0, 0, 0), (148, .iadd, 0, 0, 0, 0), (149, .iaload, 0, 0, 0, 0), (150, .iconst 1, 0, 0, 0, 0), (151, .iadd, 0, 0, 0, 0), (152, .invokevirtual 43, 28, 339, 1, 0), (155, .iastore, 0, 0, 0, 0), (156, .iinc 3 (-1), 0, 0, 0, 0), (159, .goto (-42), 117, 0, 0, 0), (162, .return_, 0, 0, 0, 0)]
/-- ParallaxSheets.Seams leastAbove -/
def m_p_26 : List m_I := [(0, .iload_n 3, 0, 0, 0, 0), (1, .ifCond .ne 5, 6, 0, 0, 0), (4, .iconst 0, 0, 0, 0, 0), (5, .ireturn, 0, 0, 0, 0), (6, .aload_n 0, 0, 0, 0, 0), (7, .getfield 19, 2, 2, 0, 198), (10, .iload_n 3, 0, 0, 0, 0), (11, .iconst 1, 0, 0, 0, 0), (12, .isub, 0, 0, 0, 0), (13, .iload_n 1, 0, 0, 0, 0), (14, .imul, 0, 0, 0, 0), (15, .aload_n 0, 0, 0, 0, 0), (16, .iload_n 1, 0, 0, 0, 0), (17, .iload_n 3, 0, 0, 0, 0), (18, .iconst 1, 0, 0, 0, 0), (19, .isub, 0, 0, 0, 0), (20, .iload_n 2, 0, 0, 0, 0), (21, .iconst 1, 0, 0, 0, 0), (22, .isub, 0, 0, 0, 0), (23, .iload_n 2, 0, 0, 0, 0), (24, .iconst 1, 0, 0, 0, 0), (25, .iadd, 0, 0, 0, 0), (26, .invokevirtual 43, 28, 339, 1, 0), (29, .iadd, 0, 0, 0, 0), (30, .iaload, 0, 0, 0, 0), (31, .ireturn, 0, 0, 0, 0)]
/-- ParallaxSheets.Seams costOf -/
def m_p_27 : List m_I := [(0, .aload_n 0, 0, 0, 0, 0), (1, .iload_n 1, 0, 0, 0, 0), (2, .iconst 1, 0, 0, 0, 0), (3, .iadd, 0, 0, 0, 0), (4, .iload_n 2, 0, 0, 0, 0), (5, .invokevirtual 47, 34, 322, 1, 0), (8, .aload_n 0, 0, 0, 0, 0), (9, .iload_n 1, 0, 0, 0, 0), (10, .iconst 1, 0, 0, 0, 0), (11, .isub, 0, 0, 0, 0), (12, .iload_n 2, 0, 0, 0, 0), (13, .invokevirtual 47, 34, 322, 1, 0), (16, .isub, 0, 0, 0, 0), (17, .invokestatic 51, 0, 332, 5, 0), (20, .aload_n 0, 0, 0, 0, 0), (21, .iload_n 1, 0, 0, 0, 0), (22, .iload_n 2, 0, 0, 0, 0), (23, .iconst 1, 0, 0, 0, 0), (24, .iadd, 0, 0, 0, 0), (25, .invokevirtual 47, 34, 322, 1, 0), (28, .aload_n 0, 0, 0, 0, 0), (29, .iload_n 1, 0, 0, 0, 0), (30, .iload_n 2, 0, 0, 0, 0), (31, .iconst 1, 0, 0, 0, 0), (32, .isub, 0, 0, 0, 0), (33, .invokevirtual 47, 34, 322, 1, 0), (36, .isub, 0, 0, 0, 0), (37, .invokestatic 51, 0, 332, 5, 0), (40, .iadd, 0, 0, 0, 0), (41, .ireturn, 0, 0, 0, 0)]
/-- ParallaxSheets.Seams bestColumn -/
def m_p_28 : List m_I := [(0, .iconst 0, 0, 0, 0, 0), (1, .iload_n 3, 0, 0, 0, 0), (2, .invokestatic 57, 0, 343, 3, 0), (5, .istore 5, 0, 0, 0, 0), (7, .iload 5, 0, 0, 0, 0), (9, .iconst 1, 0, 0, 0, 0), (10, .iadd, 0, 0, 0, 0), (11, .istore 6, 0, 0, 0, 0), (13, .iload 6, 0, 0, 0, 0), (15, .iload 4, 0, 0, 0, 0), (17, .iload_n 1, 0, 0, 0, 0), (18, .iconst 1, 0, 0, 0, 0), (19, .isub, 0, 0, 0, 0), (20, .invokestatic 60, 0, 344, 4, 0), (23, .if_icmp .gt 38, 61, 0, 0, 0), (26, .aload_n 0, 0, 0, 0, 0), (27, .getfield 19, 2, 2, 0, 198), (30, .iload_n 2, 0, 0, 0, 0), (31, .iload_n 1, 0, 0, 0, 0), (32, .imul, 0, 0, 0, 0), (33, .iload 6, 0, 0, 0, 0), (35, .iadd, 0, 0, 0, 0), (36, .iaload, 0, 0, 0, 0), (37, .aload_n 0, 0, 0, 0, 0), (38, .getfield 19, 2, 2, 0, 198), (41, .iload_n 2, 0, 0, 0, 0), (42, .iload_n 1, 0, 0, 0, 0), (43, .imul, 0, 0, 0, 0), (44, .iload 5, 0, 0, 0, 0), (46, .iadd, 0, 0, 0, 0), (47, .iaload, 0, 0, 0, 0), (48, .if_icmp .ge 7, 55, 0, 0, 0), (51, .iload 6, 0, 0, 0, 0), (53, .istore 5, 0, 0, 0, 0), (55, .iinc 6 1, 0, 0, 0, 0), (58, .goto (-45), 13, 0, 0, 0), (61, .iload 5, 0, 0, 0, 0), (63, .ireturn, 0, 0, 0, 0)]
/-- ParallaxSheets.Seams takeOut -/
def m_p_29 : List m_I := [(0, .aload_n 0, 0, 0, 0, 0), (1, .getfield 25, 2, 3, 0, 199), (4, .aload_n 1, 0, 0, 0, 0), (5, .getfield 32, 3, 0, 0, 89), (8, .iconst 1, 0, 0, 0, 0), (9, .isub, 0, 0, 0, 0), (10, .aload_n 1, 0, 0, 0, 0), (11, .getfield 29, 3, 1, 0, 93), (14, .invokevirtual 63, 33, 364, 1, 0), (17, .iconst 0, 0, 0, 0, 0), (18, .istore_n 2, 0, 0, 0, 0), (19, .iload_n 2, 0, 0, 0, 0), (20, .aload_n 0, 0, 0, 0, 0), (21, .getfield 25, 2, 3, 0, 199), (24, .getfield 29, 3, 1, 0, 93), (27, .if_icmp .ge 59, 86, 0, 0, 0), (30, .iconst 0, 0, 0, 0, 0), (31, .istore_n 3, 0, 0, 0, 0), (32, .iload_n 3, 0, 0, 0, 0), (33, .aload_n 0, 0, 0, 0, 0), (34, .getfield 25, 2, 3, 0, 199), (37, .getfield 32, 3, 0, 0, 89), (40, .if_icmp .ge 40, 80, 0, 0, 0), (43, .aload_n 0, 0, 0, 0, 0), (44, .getfield 25, 2, 3, 0, 199), (47, .iload_n 3, 0, 0, 0, 0), (48, .iload_n 2, 0, 0, 0, 0), (49, .aload_n 1, 0, 0, 0, 0), (50, .iload_n 3, 0, 0, 0, 0), (51, .aload_n 0, 0, 0, 0, 0), (52, .getfield 15, 2, 1, 0, 196), (55, .iload_n 2, 0, 0, 0, 0), (56, .iaload, 0, 0, 0, 0), (57, .if_icmp .ge 7, 64, 0, 0, 0), (60, .iload_n 3, 0, 0, 0, 0), (61, .goto 6, 67, 0, 0, 0), (64, .iload_n 3, 0, 0, 0, 0), (65, .iconst 1, 0, 0, 0, 0), (66, .iadd, 0, 0, 0, 0), (67, .iload_n 2, 0, 0, 0, 0), (68, .invokevirtual 47, 34, 322, 1, 0), (71, .invokevirtual 67, 35, 365, 1, 0), (74, .iinc 3 1, 0, 0, 0, 0), (77, .goto (-45), 32, 0, 0, 0), (80, .iinc 2 1, 0, 0, 0, 0), (83, .goto (-64), 19, 0, 0, 0), (86, .aload_n 1, 0, 0, 0, 0), (87, .aload_n 0, 0, 0, 0, 0), (88, .getfield 25, 2, 3, 0, 199), (91, .invokevirtual 71, 39, 369, 1, 0), (94, .return_, 0, 0, 0, 0)]
/-- ParallaxSheets.Seams putIn -/
def m_p_30 : List m_I := [(0, .aload_n 0, 0, 0, 0, 0), (1, .getfield 25, 2, 3, 0, 199), (4, .aload_n 1, 0, 0, 0, 0), (5, .getfield 32, 3, 0, 0, 89), (8, .iconst 1, 0, 0, 0, 0), (9, .iadd, 0, 0, 0, 0), (10, .aload_n 1, 0, 0, 0, 0), (11, .getfield 29, 3, 1, 0, 93), (14, .invokevirtual 63, 33, 364, 1, 0), (17, .iconst 0, 0, 0, 0, 0), (18, .istore_n 2, 0, 0, 0, 0), (19, .iload_n 2, 0, 0, 0, 0), (20, .aload_n 0, 0, 0, 0, 0), (21, .getfield 25, 2, 3, 0, 199), (24, .getfield 29, 3, 1, 0, 93), (27, .if_icmp .ge 95, 122, 0, 0, 0), (30, .aload_n 0, 0, 0, 0, 0), (31, .getfield 15, 2, 1, 0, 196), (34, .iload_n 2, 0, 0, 0, 0), (35, .iaload, 0, 0, 0, 0), (36, .istore_n 3, 0, 0, 0, 0), (37, .iconst 0, 0, 0, 0, 0), (38, .istore 4, 0, 0, 0, 0), (40, .iload 4, 0, 0, 0, 0), (42, .aload_n 0, 0, 0, 0, 0), (43, .getfield 25, 2, 3, 0, 199), (46, .getfield 32, 3, 0, 0, 89), (49, .if_icmp .ge 39, 88, 0, 0, 0), (52, .aload_n 0, 0, 0, 0, 0), (53, .getfield 25, 2, 3, 0, 199), (56, .iload 4, 0, 0, 0, 0), (58, .iload_n 2, 0, 0, 0, 0), (59, .aload_n 1, 0, 0, 0, 0), (60, .iload 4, 0, 0, 0, 0), (62, .iload_n 3, 0, 0, 0, 0), (63, .if_icmp .gt 8, 71, 0, 0, 0), (66, .iload 4, 0, 0, 0, 0), (68, .goto 7, 75, 0, 0, 0), (71, .iload 4, 0, 0, 0, 0), (73, .iconst 1, 0, 0, 0, 0), (74, .isub, 0, 0, 0, 0), (75, .iload_n 2, 0, 0, 0, 0), (76, .invokevirtual 47, 34, 322, 1, 0), (79, .invokevirtual 67, 35, 365, 1, 0), (82, .iinc 4 1, 0, 0, 0, 0), (85, .goto (-45), 40, 0, 0, 0), (88, .aload_n 0, 0, 0, 0, 0), (89, .getfield 25, 2, 3, 0, 199), (92, .iload_n 3, 0, 0, 0, 0), (93, .iconst 1, 0, 0, 0, 0), (94, .iadd, 0, 0, 0, 0), (95, .iload_n 2, 0, 0, 0, 0), (96, .aload_n 1, 0, 0, 0, 0), (97, .iload_n 3, 0, 0, 0, 0), (98, .iload_n 2, 0, 0, 0, 0), (99, .invokevirtual 47, 34, 322, 1, 0), (102, .aload_n 1, 0, 0, 0, 0), (103, .iload_n 3, 0, 0, 0, 0), (104, .iconst 1, 0, 0, 0, 0), (105, .iadd, 0, 0, 0, 0), (106, .iload_n 2, 0, 0, 0, 0), (107, .invokevirtual 47, 34, 322, 1, 0), (110, .iadd, 0, 0, 0, 0), (111, .iconst 2, 0, 0, 0, 0), (112, .idiv, 0, 0, 0, 0), (113, .invokevirtual 67, 35, 365, 1, 0), (116, .iinc 2 1, 0, 0, 0, 0), (119, .goto (-100), 19, 0, 0, 0), (122, .aload_n 1, 0, 0, 0, 0), (123, .aload_n 0, 0, 0, 0, 0), (124, .getfield 25, 2, 3, 0, 199), (127, .invokevirtual 71, 39, 369, 1, 0), (130, .return_, 0, 0, 0, 0)]
/-- ParallaxSheets.Sheet init -/
def m_p_31 : List m_I := [(0, .aload_n 0, 0, 0, 0, 0), (1, .invokespecial 3, 0, 86, 7, 0), (4, .aload_n 0, 0, 0, 0, 0), (5, .bipush 8, 0, 0, 0, 0), (7, .putfield 9, 3, 0, 0, 87), (10, .aload_n 0, 0, 0, 0, 0), (11, .bipush 8, 0, 0, 0, 0), (13, .putfield 15, 3, 1, 0, 92), (16, .aload_n 0, 0, 0, 0, 0), (17, .sipush 256, 0, 0, 0, 0), (20, .newarray .int, 0, 108, 0, 0), (22, .putfield 18, 3, 2, 0, 97), (25, .return_, 0, 0, 0, 0)]
/-- ParallaxSheets.Sheet size -/
def m_p_32 : List m_I := [(0, .aload_n 0, 0, 0, 0, 0), (1, .getfield 9, 3, 0, 0, 87), (4, .aload_n 0, 0, 0, 0, 0), (5, .getfield 15, 3, 1, 0, 92), (8, .imul, 0, 0, 0, 0), (9, .ireturn, 0, 0, 0, 0)]
/-- ParallaxSheets.Sheet measure -/
def m_p_33 : List m_I := [(0, .aload_n 0, 0, 0, 0, 0), (1, .iload_n 1, 0, 0, 0, 0), (2, .putfield 9, 3, 0, 0, 87), (5, .aload_n 0, 0, 0, 0, 0), (6, .iload_n 2, 0, 0, 0, 0), (7, .putfield 15, 3, 1, 0, 92), (10, .return_, 0, 0, 0, 0)]
/-- ParallaxSheets.Sheet near -/
def m_p_34 : List m_I := [(0, .iconst 0, 0, 0, 0, 0), (1, .iload_n 1, 0, 0, 0, 0), (2, .aload_n 0, 0, 0, 0, 0), (3, .getfield 9, 3, 0, 0, 87), (6, .iconst 1, 0, 0, 0, 0), (7, .isub, 0, 0, 0, 0), (8, .invokestatic 22, 0, 326, 4, 0), (11, .invokestatic 28, 0, 329, 3, 0), (14, .istore_n 3, 0, 0, 0, 0), (15, .iconst 0, 0, 0, 0, 0), (16, .iload_n 2, 0, 0, 0, 0), (17, .aload_n 0, 0, 0, 0, 0), (18, .getfield 15, 3, 1, 0, 92), (21, .iconst 1, 0, 0, 0, 0), (22, .isub, 0, 0, 0, 0), (23, .invokestatic 22, 0, 326, 4, 0), (26, .invokestatic 28, 0, 329, 3, 0), (29, .istore 4, 0, 0, 0, 0), (31, .aload_n 0, 0, 0, 0, 0), (32, .getfield 18, 3, 2, 0, 97), (35, .iload 4, 0, 0, 0, 0), (37, .aload_n 0, 0, 0, 0, 0), (38, .getfield 9, 3, 0, 0, 87), (41, .imul, 0, 0, 0, 0), (42, .iload_n 3, 0, 0, 0, 0), (43, .iadd, 0, 0, 0, 0), (44, .iaload, 0, 0, 0, 0), (45, .ireturn, 0, 0, 0, 0)]
/-- ParallaxSheets.Sheet put -/
def m_p_35 : List m_I := [(0, .aload_n 0, 0, 0, 0, 0), (1, .getfield 18, 3, 2, 0, 97), (4, .iload_n 2, 0, 0, 0, 0), (5, .aload_n 0, 0, 0, 0, 0), (6, .getfield 9, 3, 0, 0, 87), (9, .imul, 0, 0, 0, 0), (10, .iload_n 1, 0, 0, 0, 0), (11, .iadd, 0, 0, 0, 0), (12, .iconst 0, 0, 0, 0, 0), (13, .iload_n 3, 0, 0, 0, 0), (14, .sipush 255, 0, 0, 0, 0), (17, .invokestatic 22, 0, 326, 4, 0), (20, .invokestatic 28, 0, 329, 3, 0), (23, .iastore, 0, 0, 0, 0), (24, .return_, 0, 0, 0, 0)]
/-- ParallaxSheets.Sheet total -/
def m_p_36 : List m_I := [(0, .iconst 0, 0, 0, 0, 0), (1, .istore_n 1, 0, 0, 0, 0), (2, .iconst 0, 0, 0, 0, 0), (3, .istore_n 2, 0, 0, 0, 0), (4, .iload_n 2, 0, 0, 0, 0), (5, .aload_n 0, 0, 0, 0, 0), (6, .invokevirtual 31, 32, 265, 1, 0), (9, .if_icmp .ge 18, 27, 0, 0, 0), (12, .iload_n 1, 0, 0, 0, 0), (13, .aload_n 0, 0, 0, 0, 0), (14, .getfield 18, 3, 2, 0, 97), (17, .iload_n 2, 0, 0, 0, 0), (18, .iaload, 0, 0, 0, 0), (19, .iadd, 0, 0, 0, 0), (20, .istore_n 1, 0, 0, 0, 0), (21, .iinc 2 1, 0, 0, 0, 0), (24, .goto (-20), 4, 0, 0, 0), (27, .iload_n 1, 0, 0, 0, 0), (28, .ireturn, 0, 0, 0, 0)]
/-- ParallaxSheets.Sheet isAsLargeAs -/
def m_p_37 : List m_I := [(0, .aload_n 0, 0, 0, 0, 0), (1, .getfield 9, 3, 0, 0, 87), (4, .aload_n 1, 0, 0, 0, 0), (5, .getfield 9, 3, 0, 0, 87), (8, .if_icmp .ne 18, 26, 0, 0, 0), (11, .aload_n 0, 0, 0, 0, 0), (12, .getfield 15, 3, 1, 0, 92), (15, .aload_n 1, 0, 0, 0, 0), (16, .getfield 15, 3, 1, 0, 92), (19, .if_icmp .ne 7, 26, 0, 0, 0), (22, .iconst 1, 0, 0, 0, 0), (23, .goto 4, 27, 0, 0, 0), (26, .iconst 0, 0, 0, 0, 0), (27, .ireturn, 0, 0, 0, 0)]
/-- ParallaxSheets.Sheet differing -/
def m_p_38 : List m_I := [(0, .iconst 0, 0, 0, 0, 0), (1, .istore_n 2, 0, 0, 0, 0), (2, .iconst 0, 0, 0, 0, 0), (3, .istore_n 3, 0, 0, 0, 0), (4, .iload_n 3, 0, 0, 0, 0), (5, .aload_n 0, 0, 0, 0, 0), (6, .invokevirtual 31, 32, 265, 1, 0), (9, .if_icmp .ge 27, 36, 0, 0, 0), (12, .aload_n 0, 0, 0, 0, 0), (13, .getfield 18, 3, 2, 0, 97), (16, .iload_n 3, 0, 0, 0, 0), (17, .iaload, 0, 0, 0, 0), (18, .aload_n 1, 0, 0, 0, 0), (19, .getfield 18, 3, 2, 0, 97), (22, .iload_n 3, 0, 0, 0, 0), (23, .iaload, 0, 0, 0, 0), (24, .if_icmp .eq 6, 30, 0, 0, 0), (27, .iinc 2 1, 0, 0, 0, 0), (30, .iinc 3 1, 0, 0, 0, 0), (33, .goto (-29), 4, 0, 0, 0), (36, .iload_n 2, 0, 0, 0, 0), (37, .ireturn, 0, 0, 0, 0)]
/-- ParallaxSheets.Sheet become -/
def m_p_39 : List m_I := [(0, .aload_n 0, 0, 0, 0, 0), (1, .aload_n 1, 0, 0, 0, 0), (2, .getfield 9, 3, 0, 0, 87), (5, .aload_n 1, 0, 0, 0, 0), (6, .getfield 15, 3, 1, 0, 92), (9, .invokevirtual 35, 33, 353, 1, 0), (12, .aload_n 1, 0, 0, 0, 0), (13, .getfield 18, 3, 2, 0, 97), (16, .iconst 0, 0, 0, 0, 0), (17, .aload_n 0, 0, 0, 0, 0), (18, .getfield 18, 3, 2, 0, 97), (21, .iconst 0, 0, 0, 0, 0), (22, .aload_n 0, 0, 0, 0, 0), (23, .invokevirtual 31, 32, 265, 1, 0), (26, .invokestatic 39, 0, 357, 6, 0), (29, .return_, 0, 0, 0, 0)]
/-- ParallaxSheets.Tones init -/
def m_p_40 : List m_I := [(0, .aload_n 0, 0, 0, 0, 0), (1, .invokespecial 3, 0, 141, 7, 0), (4, .aload_n 0, 0, 0, 0, 0), (5, .sipush 256, 0, 0, 0, 0), (8, .newarray .int, 0, 108, 0, 0), (10, .putfield 9, 4, 0, 0, 142), (13, .aload_n 0, 0, 0, 0, 0), (14, .sipush 256, 0, 0, 0, 0), (17, .newarray .int, 0, 108, 0, 0), (19, .putfield 15, 4, 1, 0, 143), (22, .aload_n 0, 0, 0, 0, 0), (23, .iconst 0, 0, 0, 0, 0), (24, .putfield 18, 4, 2, 0, 144), (27, .return_, 0, 0, 0, 0)]
/-- ParallaxSheets.Tones read -/
def m_p_41 : List m_I := [(0, .iconst 0, 0, 0, 0, 0), (1, .istore_n 2, 0, 0, 0, 0), (2, .iload_n 2, 0, 0, 0, 0), (3, .sipush 256, 0, 0, 0, 0), (6, .if_icmp .ge 16, 22, 0, 0, 0), (9, .aload_n 0, 0, 0, 0, 0), (10, .getfield 9, 4, 0, 0, 142), (13, .iload_n 2, 0, 0, 0, 0), (14, .iconst 0, 0, 0, 0, 0), (15, .iastore, 0, 0, 0, 0), (16, .iinc 2 1, 0, 0, 0, 0), (19, .goto (-17), 2, 0, 0, 0), (22, .iconst 0, 0, 0, 0, 0), (23, .istore_n 2, 0, 0, 0, 0), (24, .iload_n 2, 0, 0, 0, 0), (25, .aload_n 1, 0, 0, 0, 0), (26, .invokevirtual 22, 32, 245, 1, 0), (29, .if_icmp .ge 24, 53, 0, 0, 0), (32, .aload_n 0, 0, 0, 0, 0), (33, .getfield 9, 4, 0, 0, 142), (36, .aload_n 1, 0, 0, 0, 0), (37, .getfield 28, 3, 2, 0, 98), (40, .iload_n 2, 0, 0, 0, 0), (41, .iaload, 0, 0, 0, 0), (42, .dup2, 0, 0, 0, 0), (43, .iaload, 0, 0, 0, 0), (44, .iconst 1, 0, 0, 0, 0), (45, .iadd, 0, 0, 0, 0), (46, .iastore, 0, 0, 0, 0), (47, .iinc 2 1, 0, 0, 0, 0), (50, .goto (-26), 24, 0, 0, 0), (53, .aload_n 0, 0, 0, 0, 0), (54, .aload_n 1, 0, 0, 0, 0), (55, .invokevirtual 22, 32, 245, 1, 0), (58, .putfield 18, 4, 2, 0, 144), (61, .return_, 0, 0, 0, 0)]
/-- ParallaxSheets.Tones planned -/
def m_p_42 : List m_I := [(0, .aload_n 0, 0, 0, 0, 0), (1, .getfield 15, 4, 1, 0, 143), (4, .iload_n 1, 0, 0, 0, 0), (5, .iaload, 0, 0, 0, 0), (6, .ireturn, 0, 0, 0, 0)]
/-- ParallaxSheets.Tones plan -/
def m_p_43 : List m_I := [(0, .iload_n 1, 0, 0, 0, 0), (1, .tableswitch 48 0 2 #[27, 34, 41], 0, 0, 0, 27), (28, .aload_n 0, 0, 0, 0, 0), (29, .invokevirtual 31, 44, 672, 1, 0), (32, .goto 21, 53, 0, 0, 0), (35, .aload_n 0, 0, 0, 0, 0), (36, .invokevirtual 34, 45, 676, 1, 0), (39, .goto 14, 53, 0, 0, 0), (42, .aload_n 0, 0, 0, 0, 0), (43, .invokevirtual 37, 46, 682, 1, 0), (46, .goto 7, 53, 0, 0, 0), (49, .aload_n 0, 0, 0, 0, 0), (50, .invokevirtual 40, 47, 686, 1, 0), (53, .return_, 0, 0, 0, 0)]
/-- ParallaxSheets.Tones planNegative -/
def m_p_44 : List m_I := [(0, .iconst 0, 0, 0, 0, 0), (1, .istore_n 1, 0, 0, 0, 0), (2, .iload_n 1, 0, 0, 0, 0), (3, .sipush 256, 0, 0, 0, 0), (6, .if_icmp .ge 20, 26, 0, 0, 0), (9, .aload_n 0, 0, 0, 0, 0), (10, .getfield 15, 4, 1, 0, 143), (13, .iload_n 1, 0, 0, 0, 0), (14, .sipush 255, 0, 0, 0, 0), (17, .iload_n 1, 0, 0, 0, 0), (18, .isub, 0, 0, 0, 0), (19, .iastore, 0, 0, 0, 0), (20, .iinc 1 1, 0, 0, 0, 0), (23, .goto (-21), 2, 0, 0, 0), (26, .return_, 0, 0, 0, 0)]
/-- ParallaxSheets.Tones planStretch -/
def m_p_45 : List m_I := [(0, .aload_n 0, 0, 0, 0, 0), (1, .invokevirtual 43, 48, 680, 1, 0), (4, .istore_n 1, 0, 0, 0, 0), (5, .aload_n 0, 0, 0, 0, 0), (6, .invokevirtual 46, 49, 681, 1, 0), (9, .istore_n 2, 0, 0, 0, 0), (10, .iconst 0, 0, 0, 0, 0), (11, .istore_n 3, 0, 0, 0, 0), (12, .iload_n 3, 0, 0, 0, 0), (13, .sipush 256, 0, 0, 0, 0), (16, .if_icmp .ge 35, 51, 0, 0, 0), (19, .aload_n 0, 0, 0, 0, 0), (20, .getfield 15, 4, 1, 0, 143), (23, .iload_n 3, 0, 0, 0, 0), (24, .iload_n 1, 0, 0, 0, 0), (25, .iload_n 2, 0, 0, 0, 0), (26, .if_icmp .ge 17, 43, 0, 0, 0), (29, .iload_n 3, 0, 0, 0, 0), (30, .iload_n 1, 0, 0, 0, 0), (31, .isub, 0, 0, 0, 0), (32, .sipush 255, 0, 0, 0, 0), (35, .imul, 0, 0, 0, 0), (36, .iload_n 2, 0, 0, 0, 0), (37, .iload_n 1, 0, 0, 0, 0), (38, .isub, 0, 0, 0, 0), (39, .idiv, 0, 0, 0, 0), (40, .goto 4, 44, 0, 0, 0), (43, .iload_n 3, 0, 0, 0, 0), (44, .iastore, 0, 0, 0, 0), (45, .iinc 3 1, 0, 0, 0, 0), (48, .goto (-36), 12, 0, 0, 0), (51, .return_, 0, 0, 0, 0)]
/-- ParallaxSheets.Tones planEven -/
def m_p_46 : List m_I := [(0, .iconst 0, 0, 0, 0, 0), (1, .istore_n 1, 0, 0, 0, 0), (2, .iconst 0, 0, 0, 0, 0), (3, .istore_n 2, 0, 0, 0, 0), (4, .iload_n 2, 0, 0, 0, 0), (5, .sipush 256, 0, 0, 0, 0), (8, .if_icmp .ge 45, 53, 0, 0, 0), (11, .iload_n 1, 0, 0, 0, 0), (12, .aload_n 0, 0, 0, 0, 0), (13, .getfield 9, 4, 0, 0, 142), (16, .iload_n 2, 0, 0, 0, 0), (17, .iaload, 0, 0, 0, 0), (18, .iadd, 0, 0, 0, 0), (19, .istore_n 1, 0, 0, 0, 0), (20, .aload_n 0, 0, 0, 0, 0), (21, .getfield 15, 4, 1, 0, 143), (24, .iload_n 2, 0, 0, 0, 0), (25, .aload_n 0, 0, 0, 0, 0), (26, .getfield 18, 4, 2, 0, 144), (29, .ifCond .le 16, 45, 0, 0, 0), (32, .sipush 255, 0, 0, 0, 0), (35, .iload_n 1, 0, 0, 0, 0), (36, .imul, 0, 0, 0, 0), (37, .aload_n 0, 0, 0, 0, 0), (38, .getfield 18, 4, 2, 0, 144), (41, .idiv, 0, 0, 0, 0), (42, .goto 4, 46, 0, 0, 0), (45, .iload_n 2, 0, 0, 0, 0), (46, .iastore, 0, 0, 0, 0), (47, .iinc 2 1, 0, 0, 0, 0), (50, .goto (-46), 4, 0, 0, 0), (53, .return_, 0, 0, 0, 0)]
/-- ParallaxSheets.Tones planCut -/
def m_p_47 : List m_I := [(0, .aload_n 0, 0, 0, 0, 0), (1, .invokevirtual 49, 51, 690, 1, 0), (4, .istore_n 1, 0, 0, 0, 0), (5, .iconst 0, 0, 0, 0, 0), (6, .istore_n 2, 0, 0, 0, 0), (7, .iload_n 2, 0, 0, 0, 0), (8, .sipush 256, 0, 0, 0, 0), (11, .if_icmp .ge 27, 38, 0, 0, 0), (14, .aload_n 0, 0, 0, 0, 0), (15, .getfield 15, 4, 1, 0, 143), (18, .iload_n 2, 0, 0, 0, 0), (19, .iload_n 2, 0, 0, 0, 0), (20, .iload_n 1, 0, 0, 0, 0), (21, .if_icmp .lt 9, 30, 0, 0, 0), (24, .sipush 255, 0, 0, 0, 0), (27, .goto 4, 31, 0, 0, 0), (30, .iconst 0, 0, 0, 0, 0), (31, .iastore, 0, 0, 0, 0), (32, .iinc 2 1, 0, 0, 0, 0), (35, .goto (-28), 7, 0, 0, 0), (38, .return_, 0, 0, 0, 0)]
/-- ParallaxSheets.Tones least -/
def m_p_48 : List m_I := [(0, .aload_n 0, 0, 0, 0, 0), (1, .iconst 0, 0, 0, 0, 0), (2, .invokevirtual 52, 50, 253, 1, 0), (5, .ireturn, 0, 0, 0, 0)]
/-- ParallaxSheets.Tones greatest -/
def m_p_49 : List m_I := [(0, .aload_n 0, 0, 0, 0, 0), (1, .aload_n 0, 0, 0, 0, 0), (2, .getfield 18, 4, 2, 0, 144), (5, .iconst 1, 0, 0, 0, 0), (6, .isub, 0, 0, 0, 0), (7, .invokevirtual 52, 50, 253, 1, 0), (10, .ireturn, 0, 0, 0, 0)]
/-- ParallaxSheets.Tones inOrder -/
def m_p_50 : List m_I := [(0, .iconst 0, 0, 0, 0, 0), (1, .istore_n 2, 0, 0, 0, 0), (2, .iconst 0, 0, 0, 0, 0), (3, .istore_n 3, 0, 0, 0, 0), (4, .iload_n 3, 0, 0, 0, 0), (5, .sipush 256, 0, 0, 0, 0), (8, .if_icmp .ge 25, 33, 0, 0, 0), (11, .iload_n 2, 0, 0, 0, 0), (12, .aload_n 0, 0, 0, 0, 0), (13, .getfield 9, 4, 0, 0, 142), (16, .iload_n 3, 0, 0, 0, 0), (17, .iaload, 0, 0, 0, 0), (18, .iadd, 0, 0, 0, 0), (19, .istore_n 2, 0, 0, 0, 0), (20, .iload_n 1, 0, 0, 0, 0), (21, .iload_n 2, 0, 0, 0, 0), (22, .if_icmp .ge 5, 27, 0, 0, 0), (25, .iload_n 3, 0, 0, 0, 0), (26, .ireturn, 0, 0, 0, 0), (27, .iinc 3 1, 0, 0, 0, 0), (30, .goto (-26), 4, 0, 0, 0), (33, .sipush 255, 0, 0, 0, 0), (36, .ireturn, 0, 0, 0, 0)]
/-- ParallaxSheets.Tones cut -/
def m_p_51 : List m_I := [(0, .lconst 0, 0, 0, 0, 0), (1, .lstore_n 1, 0, 0, 0, 0), (2, .iconst 0, 0, 0, 0, 0), (3, .istore_n 3, 0, 0, 0, 0), (4, .iload_n 3, 0, 0, 0, 0), (5, .sipush 256, 0, 0, 0, 0), (8, .if_icmp .ge 22, 30, 0, 0, 0), (11, .lload_n 1, 0, 0, 0, 0), (12, .iload_n 3, 0, 0, 0, 0), (13, .i2l, 0, 0, 0, 0), (14, .aload_n 0, 0, 0, 0, 0), (15, .getfield 9, 4, 0, 0, 142), (18, .iload_n 3, 0, 0, 0, 0), (19, .iaload, 0, 0, 0, 0), (20, .i2l, 0, 0, 0, 0), (21, .lmul, 0, 0, 0, 0), (22, .ladd, 0, 0, 0, 0), (23, .lstore_n 1, 0, 0, 0, 0), (24, .iinc 3 1, 0, 0, 0, 0), (27, .goto (-23), 4, 0, 0, 0), (30, .lconst 0, 0, 0, 0, 0), (31, .lstore_n 3, 0, 0, 0, 0), (32, .lconst 0, 0, 0, 0, 0), (33, .lstore 5, 0, 0, 0, 0), (35, .ldc2_w 56, 0, 270, 0, (-1)), (38, .lstore 7, 0, 0, 0, 0), (40, .iconst 0, 0, 0, 0, 0), (41, .istore 9, 0, 0, 0, 0), (43, .iconst 1, 0, 0, 0, 0), (44, .istore 10, 0, 0, 0, 0), (46, .iload 10, 0, 0, 0, 0), (48, .sipush 256, 0, 0, 0, 0), (51, .if_icmp .ge 107, 158, 0, 0, 0), (54, .lload_n 3, 0, 0, 0, 0), (55, .aload_n 0, 0, 0, 0, 0), (56, .getfield 9, 4, 0, 0, 142), (59, .iload 10, 0, 0, 0, 0), (61, .iconst 1, 0, 0, 0, 0), (62, .isub, 0, 0, 0, 0), (63, .iaload, 0, 0, 0, 0), (64, .i2l, 0, 0, 0, 0), (65, .ladd, 0, 0, 0, 0), (66, .lstore_n 3, 0, 0, 0, 0), (67, .lload 5, 0, 0, 0, 0), (69, .iload 10, 0, 0, 0, 0), (71, .iconst 1, 0, 0, 0, 0), (72, .isub, 0, 0, 0, 0), (73, .i2l, 0, 0, 0, 0), (74, .aload_n 0, 0, 0, 0, 0), (75, .getfield 9, 4, 0, 0, 142), (78, .iload 10, 0, 0, 0, 0), (80, .iconst 1, 0, 0, 0, 0), (81, .isub, 0, 0, 0, 0), (82, .iaload, 0, 0, 0, 0), (83, .i2l, 0, 0, 0, 0), (84, .lmul, 0, 0, 0, 0), (85, .ladd, 0, 0, 0, 0), (86, .lstore 5, 0, 0, 0, 0), (88, .aload_n 0, 0, 0, 0, 0), (89, .getfield 18, 4, 2, 0, 144), (92, .i2l, 0, 0, 0, 0), (93, .lload_n 3, 0, 0, 0, 0), (94, .lsub, 0, 0, 0, 0), (95, .lstore 11, 0, 0, 0, 0), (97, .lload_n 3, 0, 0, 0, 0), (98, .lconst 0, 0, 0, 0, 0), (99, .lcmp, 0, 0, 0, 0), (100, .ifCond .le 52, 152, 0, 0, 0), (103, .lload 11, 0, 0, 0, 0), (105, .lconst 0, 0, 0, 0, 0), (106, .lcmp, 0, 0, 0, 0), (107, .ifCond .le 45, 152, 0, 0, 0), (110, .lload 5, 0, 0, 0, 0), (112, .lload 11, 0, 0, 0, 0), (114, .lmul, 0, 0, 0, 0), (115, .lload_n 1, 0, 0, 0, 0), (116, .lload 5, 0, 0, 0, 0), (118, .lsub, 0, 0, 0, 0), (119, .lload_n 3, 0, 0, 0, 0), (120, .lmul, 0, 0, 0, 0), (121, .lsub, 0, 0, 0, 0), (122, .lstore 13, 0, 0, 0, 0), (124, .lload 13, 0, 0, 0, 0), (126, .lload 13, 0, 0, 0, 0), (128, .lmul, 0, 0, 0, 0), (129, .lload_n 3, 0, 0, 0, 0), (130, .lload 11, 0, 0, 0, 0), (132, .lmul, 0, 0, 0, 0), (133, .ldiv, 0, 0, 0, 0), (134, .lstore 15, 0, 0, 0, 0), (136, .lload 15, 0, 0, 0, 0), (138, .lload 7, 0, 0, 0, 0), (140, .lcmp, 0, 0, 0, 0), (141, .ifCond .le 11, 152, 0, 0, 0), (144, .lload 15, 0, 0, 0, 0), (146, .lstore 7, 0, 0, 0, 0), (148, .iload 10, 0, 0, 0, 0), (150, .istore 9, 0, 0, 0, 0), (152, .iinc 10 1, 0, 0, 0, 0), (155, .goto (-109), 46, 0, 0, 0), (158, .iload 9, 0, 0, 0, 0), (160, .ireturn, 0, 0, 0, 0)]
/-- ParallaxSheets init -/
def m_p_52 : List m_I := [(0, .aload_n 0, 0, 0, 0, 0), (1, .invokespecial 3, 0, 77, 7, 0), (4, .aload_n 0, 0, 0, 0, 0), (5, .iconst 4, 0, 0, 0, 0), (6, .anewarray 9, 2, 80, 0, 0), (9, .putfield 11, 5, 0, 0, 209), (12, .iconst 0, 0, 0, 0, 0), (13, .istore_n 1, 0, 0, 0, 0), (14, .iload_n 1, 0, 0, 0, 0), (15, .iconst 4, 0, 0, 0, 0), (16, .if_icmp .ge 22, 38, 0, 0, 0), (19, .aload_n 0, 0, 0, 0, 0), (20, .getfield 11, 5, 0, 0, 209), (23, .iload_n 1, 0, 0, 0, 0), (24, .new 9, 3, 80, 0, 0), (27, .dup, 0, 0, 0, 0), (28, .invokespecial 15, 31, 83, 2, 0), (31, .aastore, 0, 0, 0, 0), (32, .iinc 1 1, 0, 0, 0, 0), (35, .goto (-21), 14, 0, 0, 0), (38, .aload_n 0, 0, 0, 0, 0), (39, .new 9, 3, 80, 0, 0), (42, .dup, 0, 0, 0, 0), (43, .invokespecial 15, 31, 83, 2, 0), (46, .putfield 16, 5, 1, 0, 210), (49, .aload_n 0, 0, 0, 0, 0), (50, .new 20, 0, 109, 0, 0), (53, .dup, 0, 0, 0, 0), (54, .invokespecial 22, 0, 111, 1, 0), (57, .putfield 23, 5, 2, 0, 211), (60, .aload_n 0, 0, 0, 0, 0), (61, .new 27, 4, 136, 0, 0), (64, .dup, 0, 0, 0, 0), (65, .invokespecial 29, 40, 138, 2, 0), (68, .putfield 30, 5, 3, 0, 212), (71, .aload_n 0, 0, 0, 0, 0), (72, .new 34, 1, 152, 0, 0), (75, .dup, 0, 0, 0, 0), (76, .invokespecial 36, 11, 154, 2, 0), (79, .putfield 37, 5, 4, 0, 213), (82, .aload_n 0, 0, 0, 0, 0), (83, .new 41, 2, 186, 0, 0), (86, .dup, 0, 0, 0, 0), (87, .invokespecial 43, 24, 188, 2, 0), (90, .putfield 44, 5, 5, 0, 214), (93, .return_, 0, 0, 0, 0)]
/-- ParallaxSheets fresh -/
def m_p_53 : List m_I := [(0, .aload_n 0, 0, 0, 0, 0), (1, .iload_n 1, 0, 0, 0, 0), (2, .invokevirtual 48, 83, 399, 1, 0), (5, .astore 5, 0, 0, 0, 0), (7, .iconst 1, 0, 0, 0, 0), (8, .iload_n 2, 0, 0, 0, 0), (9, .bipush 16, 0, 0, 0, 0), (11, .invokestatic 52, 88, 471, 1, 0), (14, .ifCond .eq 25, 39, 0, 0, 0), (17, .iconst 1, 0, 0, 0, 0), (18, .iload_n 3, 0, 0, 0, 0), (19, .bipush 16, 0, 0, 0, 0), (21, .invokestatic 52, 88, 471, 1, 0), (24, .ifCond .eq 15, 39, 0, 0, 0), (27, .iload 4, 0, 0, 0, 0), (29, .invokestatic 56, 89, 474, 1, 0), (32, .ifCond .eq 7, 39, 0, 0, 0), (35, .iconst 1, 0, 0, 0, 0), (36, .goto 4, 40, 0, 0, 0), (39, .iconst 0, 0, 0, 0, 0), (40, .invokestatic 60, 86, 477, 1, 0), (43, .aload 5, 0, 0, 0, 0), (45, .iload_n 2, 0, 0, 0, 0), (46, .iload_n 3, 0, 0, 0, 0), (47, .invokevirtual 64, 33, 496, 1, 0), (50, .iconst 0, 0, 0, 0, 0), (51, .istore 6, 0, 0, 0, 0), (53, .iload 6, 0, 0, 0, 0), (55, .aload 5, 0, 0, 0, 0), (57, .invokevirtual 68, 32, 389, 1, 0), (60, .if_icmp .ge 19, 79, 0, 0, 0), (63, .aload 5, 0, 0, 0, 0), (65, .getfield 72, 3, 2, 0, 99), (68, .iload 6, 0, 0, 0, 0), (70, .iload 4, 0, 0, 0, 0), (72, .iastore, 0, 0, 0, 0), (73, .iinc 6 1, 0, 0, 0, 0), (76, .goto (-23), 53, 0, 0, 0), (79, .aload 5, 0, 0, 0, 0), (81, .invokevirtual 68, 32, 389, 1, 0), (84, .ireturn, 0, 0, 0, 0)]
/-- ParallaxSheets dot -/
def m_p_54 : List m_I := [(0, .aload_n 0, 0, 0, 0, 0), (1, .iload_n 1, 0, 0, 0, 0), (2, .invokevirtual 48, 83, 399, 1, 0), (5, .astore 5, 0, 0, 0, 0), (7, .aload 5, 0, 0, 0, 0), (9, .iload_n 2, 0, 0, 0, 0), (10, .iload_n 3, 0, 0, 0, 0), (11, .invokestatic 76, 84, 504, 1, 0), (14, .iload 4, 0, 0, 0, 0), (16, .invokestatic 56, 89, 474, 1, 0), (19, .invokestatic 60, 86, 477, 1, 0), (22, .aload 5, 0, 0, 0, 0), (24, .iload_n 2, 0, 0, 0, 0), (25, .iload_n 3, 0, 0, 0, 0), (26, .invokevirtual 80, 34, 377, 1, 0), (29, .istore 6, 0, 0, 0, 0), (31, .aload 5, 0, 0, 0, 0), (33, .iload_n 2, 0, 0, 0, 0), (34, .iload_n 3, 0, 0, 0, 0), (35, .iload 4, 0, 0, 0, 0), (37, .invokevirtual 84, 35, 511, 1, 0), (40, .iload 6, 0, 0, 0, 0), (42, .ireturn, 0, 0, 0, 0)]
/-- ParallaxSheets box -/
def m_p_55 : List m_I := [(0, .aload_n 0, 0, 0, 0, 0), (1, .iload_n 1, 0, 0, 0, 0), (2, .invokevirtual 48, 83, 399, 1, 0), (5, .astore 7, 0, 0, 0, 0), (7, .aload 7, 0, 0, 0, 0), (9, .iload_n 2, 0, 0, 0, 0), (10, .iload_n 3, 0, 0, 0, 0), (11, .invokestatic 76, 84, 504, 1, 0), (14, .aload 7, 0, 0, 0, 0), (16, .iload 4, 0, 0, 0, 0), (18, .iload 5, 0, 0, 0, 0), (20, .invokestatic 76, 84, 504, 1, 0), (23, .iload 6, 0, 0, 0, 0), (25, .invokestatic 56, 89, 474, 1, 0), (28, .invokestatic 60, 86, 477, 1, 0), (31, .aload_n 0, 0, 0, 0, 0), (32, .getfield 16, 5, 1, 0, 210), (35, .aload 7, 0, 0, 0, 0), (37, .invokevirtual 88, 39, 349, 1, 0), (40, .iload_n 3, 0, 0, 0, 0), (41, .iload 5, 0, 0, 0, 0), (43, .invokestatic 92, 0, 373, 4, 0), (46, .istore 8, 0, 0, 0, 0), (48, .iload 8, 0, 0, 0, 0), (50, .iload_n 3, 0, 0, 0, 0), (51, .iload 5, 0, 0, 0, 0), (53, .invokestatic 97, 0, 385, 3, 0), (56, .if_icmp .gt 47, 103, 0, 0, 0), (59, .iload_n 2, 0, 0, 0, 0), (60, .iload 4, 0, 0, 0, 0), (62, .invokestatic 92, 0, 373, 4, 0), (65, .istore 9, 0, 0, 0, 0), (67, .iload 9, 0, 0, 0, 0), (69, .iload_n 2, 0, 0, 0, 0), (70, .iload 4, 0, 0, 0, 0), (72, .invokestatic 97, 0, 385, 3, 0), (75, .if_icmp .gt 22, 97, 0, 0, 0), (78, .aload_n 0, 0, 0, 0, 0), (79, .getfield 16, 5, 1, 0, 210), (82, .iload 9, 0, 0, 0, 0), (84, .iload 8, 0, 0, 0, 0), (86, .iload 6, 0, 0, 0, 0), (88, .invokevirtual 84, 35, 511, 1, 0), (91, .iinc 9 1, 0, 0, 0, 0), (94, .goto (-27), 67, 0, 0, 0), (97, .iinc 8 1, 0, 0, 0, 0), (100, .goto (-52), 48, 0, 0, 0), (103, .aload_n 0, 0, 0, 0, 0), (104, .aload 7, 0, 0, 0, 0), (106, .invokevirtual 100, 92, 519, 1, 0), (109, .ireturn, 0, 0, 0, 0)]
/-- ParallaxSheets disc -/
def m_p_56 : List m_I := [(0, .aload_n 0, 0, 0, 0, 0), (1, .iload_n 1, 0, 0, 0, 0), (2, .invokevirtual 48, 83, 399, 1, 0), (5, .astore 6, 0, 0, 0, 0), (7, .aload 6, 0, 0, 0, 0), (9, .iload_n 2, 0, 0, 0, 0), (10, .iload_n 3, 0, 0, 0, 0), (11, .invokestatic 76, 84, 504, 1, 0), (14, .iconst 0, 0, 0, 0, 0), (15, .iload 4, 0, 0, 0, 0), (17, .bipush 20, 0, 0, 0, 0), (19, .invokestatic 52, 88, 471, 1, 0), (22, .ifCond .eq 15, 37, 0, 0, 0), (25, .iload 5, 0, 0, 0, 0), (27, .invokestatic 56, 89, 474, 1, 0), (30, .ifCond .eq 7, 37, 0, 0, 0), (33, .iconst 1, 0, 0, 0, 0), (34, .goto 4, 38, 0, 0, 0), (37, .iconst 0, 0, 0, 0, 0), (38, .invokestatic 60, 86, 477, 1, 0), (41, .aload_n 0, 0, 0, 0, 0), (42, .getfield 16, 5, 1, 0, 210), (45, .aload 6, 0, 0, 0, 0), (47, .invokevirtual 88, 39, 349, 1, 0), (50, .iconst 0, 0, 0, 0, 0), (51, .istore 7, 0, 0, 0, 0), (53, .iload 7, 0, 0, 0, 0), (55, .aload 6, 0, 0, 0, 0), (57, .getfield 104, 3, 1, 0, 96), (60, .if_icmp .ge 72, 132, 0, 0, 0), (63, .iconst 0, 0, 0, 0, 0), (64, .istore 8, 0, 0, 0, 0), (66, .iload 8, 0, 0, 0, 0), (68, .aload 6, 0, 0, 0, 0), (70, .getfield 108, 3, 0, 0, 91), (73, .if_icmp .ge 53, 126, 0, 0, 0), (76, .iload 8, 0, 0, 0, 0), (78, .iload_n 2, 0, 0, 0, 0), (79, .isub, 0, 0, 0, 0), (80, .istore 9, 0, 0, 0, 0), (82, .iload 7, 0, 0, 0, 0), (84, .iload_n 3, 0, 0, 0, 0), (85, .isub, 0, 0, 0, 0), (86, .istore 10, 0, 0, 0, 0), (88, .iload 9, 0, 0, 0, 0), (90, .iload 9, 0, 0, 0, 0), (92, .imul, 0, 0, 0, 0), (93, .iload 10, 0, 0, 0, 0), (95, .iload 10, 0, 0, 0, 0), (97, .imul, 0, 0, 0, 0), (98, .iadd, 0, 0, 0, 0), (99, .iload 4, 0, 0, 0, 0), (101, .iload 4, 0, 0, 0, 0), (103, .imul, 0, 0, 0, 0), (104, .if_icmp .gt 16, 120, 0, 0, 0), (107, .aload_n 0, 0, 0, 0, 0), (108, .getfield 16, 5, 1, 0, 210), (111, .iload 8, 0, 0, 0, 0), (113, .iload 7, 0, 0, 0, 0), (115, .iload 5, 0, 0, 0, 0), (117, .invokevirtual 84, 35, 511, 1, 0), (120, .iinc 8 1, 0, 0, 0, 0), (123, .goto (-57), 66, 0, 0, 0), (126, .iinc 7 1, 0, 0, 0, 0), (129, .goto (-76), 53, 0, 0, 0), (132, .aload_n 0, 0, 0, 0, 0), (133, .aload 6, 0, 0, 0, 0), (135, .invokevirtual 100, 92, 519, 1, 0), (138, .ireturn, 0, 0, 0, 0)]
/-- ParallaxSheets shade -/
def m_p_57 : List m_I := [(0, .aload_n 0, 0, 0, 0, 0), (1, .iload_n 1, 0, 0, 0, 0), (2, .invokevirtual 48, 83, 399, 1, 0), (5, .astore 5, 0, 0, 0, 0), (7, .iload_n 2, 0, 0, 0, 0), (8, .invokestatic 111, 90, 541, 1, 0), (11, .ifCond .eq 22, 33, 0, 0, 0), (14, .iload_n 3, 0, 0, 0, 0), (15, .invokestatic 111, 90, 541, 1, 0), (18, .ifCond .eq 15, 33, 0, 0, 0), (21, .iload 4, 0, 0, 0, 0), (23, .invokestatic 111, 90, 541, 1, 0), (26, .ifCond .eq 7, 33, 0, 0, 0), (29, .iconst 1, 0, 0, 0, 0), (30, .goto 4, 34, 0, 0, 0), (33, .iconst 0, 0, 0, 0, 0), (34, .invokestatic 60, 86, 477, 1, 0), (37, .iconst 0, 0, 0, 0, 0), (38, .istore 6, 0, 0, 0, 0), (40, .iload 6, 0, 0, 0, 0), (42, .aload 5, 0, 0, 0, 0), (44, .getfield 104, 3, 1, 0, 96), (47, .if_icmp .ge 85, 132, 0, 0, 0), (50, .iconst 0, 0, 0, 0, 0), (51, .istore 7, 0, 0, 0, 0), (53, .iload 7, 0, 0, 0, 0), (55, .aload 5, 0, 0, 0, 0), (57, .getfield 108, 3, 0, 0, 91), (60, .if_icmp .ge 66, 126, 0, 0, 0), (63, .iload_n 2, 0, 0, 0, 0), (64, .iload 7, 0, 0, 0, 0), (66, .imul, 0, 0, 0, 0), (67, .iload_n 3, 0, 0, 0, 0), (68, .iload 6, 0, 0, 0, 0), (70, .imul, 0, 0, 0, 0), (71, .iadd, 0, 0, 0, 0), (72, .iload 7, 0, 0, 0, 0), (74, .iconst 5, 0, 0, 0, 0), (75, .imul, 0, 0, 0, 0), (76, .iload 6, 0, 0, 0, 0), (78, .bipush 11, 0, 0, 0, 0), (80, .imul, 0, 0, 0, 0), (81, .iadd, 0, 0, 0, 0), (82, .iload 7, 0, 0, 0, 0), (84, .iload 6, 0, 0, 0, 0), (86, .imul, 0, 0, 0, 0), (87, .iconst 3, 0, 0, 0, 0), (88, .imul, 0, 0, 0, 0), (89, .iadd, 0, 0, 0, 0), (90, .bipush 13, 0, 0, 0, 0), (92, .irem, 0, 0, 0, 0), (93, .iload 4, 0, 0, 0, 0), (95, .imul, 0, 0, 0, 0), (96, .iadd, 0, 0, 0, 0), (97, .istore 8, 0, 0, 0, 0), (99, .aload 5, 0, 0, 0, 0), (101, .iload 7, 0, 0, 0, 0), (103, .iload 6, 0, 0, 0, 0), (105, .aload 5, 0, 0, 0, 0), (107, .iload 7, 0, 0, 0, 0), (109, .iload 6, 0, 0, 0, 0), (111, .invokevirtual 80, 34, 377, 1, 0), (114, .iload 8, 0, 0, 0, 0), (116, .iadd, 0, 0, 0, 0), (117, .invokevirtual 84, 35, 511, 1, 0), (120, .iinc 7 1, 0, 0, 0, 0), (123, .goto (-70), 53, 0, 0, 0), (126, .iinc 6 1, 0, 0, 0, 0), (129, .goto (-89), 40, 0, 0, 0), (132, .aload 5, 0, 0, 0, 0), (134, .invokevirtual 114, 36, 261, 1, 0), (137, .ireturn, 0, 0, 0, 0)]
/-- ParallaxSheets copy -/
def m_p_58 : List m_I := [(0, .aload_n 0, 0, 0, 0, 0), (1, .iload_n 1, 0, 0, 0, 0), (2, .invokevirtual 48, 83, 399, 1, 0), (5, .astore_n 3, 0, 0, 0, 0), (6, .aload_n 0, 0, 0, 0, 0), (7, .iload_n 2, 0, 0, 0, 0), (8, .invokevirtual 48, 83, 399, 1, 0), (11, .astore 4, 0, 0, 0, 0), (13, .aload 4, 0, 0, 0, 0), (15, .aload_n 3, 0, 0, 0, 0), (16, .invokevirtual 117, 37, 551, 1, 0), (19, .ifCond .eq 12, 31, 0, 0, 0), (22, .aload 4, 0, 0, 0, 0), (24, .aload_n 3, 0, 0, 0, 0), (25, .invokevirtual 121, 38, 523, 1, 0), (28, .goto 4, 32, 0, 0, 0), (31, .iconst (-1), 0, 0, 0, 0), (32, .istore 5, 0, 0, 0, 0), (34, .aload 4, 0, 0, 0, 0), (36, .aload_n 3, 0, 0, 0, 0), (37, .invokevirtual 88, 39, 349, 1, 0), (40, .iload 5, 0, 0, 0, 0), (42, .ireturn, 0, 0, 0, 0)]
/-- ParallaxSheets mix -/
def m_p_59 : List m_I := [(0, .aload_n 0, 0, 0, 0, 0), (1, .iload_n 1, 0, 0, 0, 0), (2, .invokevirtual 48, 83, 399, 1, 0), (5, .astore 4, 0, 0, 0, 0), (7, .aload_n 0, 0, 0, 0, 0), (8, .iload_n 2, 0, 0, 0, 0), (9, .invokevirtual 48, 83, 399, 1, 0), (12, .astore 5, 0, 0, 0, 0), (14, .iconst 0, 0, 0, 0, 0), (15, .iload_n 3, 0, 0, 0, 0), (16, .bipush 100, 0, 0, 0, 0), (18, .invokestatic 52, 88, 471, 1, 0), (21, .invokestatic 60, 86, 477, 1, 0), (24, .aload 4, 0, 0, 0, 0), (26, .aload 5, 0, 0, 0, 0), (28, .invokevirtual 117, 37, 551, 1, 0), (31, .invokestatic 124, 87, 563, 1, 0), (34, .aload_n 0, 0, 0, 0, 0), (35, .getfield 16, 5, 1, 0, 210), (38, .aload 4, 0, 0, 0, 0), (40, .invokevirtual 88, 39, 349, 1, 0), (43, .iconst 0, 0, 0, 0, 0), (44, .istore 6, 0, 0, 0, 0), (46, .iload 6, 0, 0, 0, 0), (48, .aload 4, 0, 0, 0, 0), (50, .invokevirtual 68, 32, 389, 1, 0), (53, .if_icmp .ge 46, 99, 0, 0, 0), (56, .aload_n 0, 0, 0, 0, 0), (57, .getfield 16, 5, 1, 0, 210), (60, .getfield 72, 3, 2, 0, 99), (63, .iload 6, 0, 0, 0, 0), (65, .aload 4, 0, 0, 0, 0), (67, .getfield 72, 3, 2, 0, 99), (70, .iload 6, 0, 0, 0, 0), (72, .iaload, 0, 0, 0, 0), (73, .bipush 100, 0, 0, 0, 0), (75, .iload_n 3, 0, 0, 0, 0), (76, .isub, 0, 0, 0, 0), (77, .imul, 0, 0, 0, 0), (78, .aload 5, 0, 0, 0, 0), (80, .getfield 72, 3, 2, 0, 99), (83, .iload 6, 0, 0, 0, 0), (85, .iaload, 0, 0, 0, 0), (86, .iload_n 3, 0, 0, 0, 0), (87, .imul, 0, 0, 0, 0), (88, .iadd, 0, 0, 0, 0), (89, .bipush 100, 0, 0, 0, 0), (91, .idiv, 0, 0, 0, 0), (92, .iastore, 0, 0, 0, 0), (93, .iinc 6 1, 0, 0, 0, 0), (96, .goto (-50), 46, 0, 0, 0), (99, .aload_n 0, 0, 0, 0, 0), (100, .aload 4, 0, 0, 0, 0), (102, .invokevirtual 100, 92, 519, 1, 0), (105, .ireturn, 0, 0, 0, 0)]
/-- ParallaxSheets turn -/
def m_p_60 : List m_I := [(0, .aload_n 0, 0, 0, 0, 0), (1, .iload_n 1, 0, 0, 0, 0), (2, .invokevirtual 48, 83, 399, 1, 0), (5, .astore_n 3, 0, 0, 0, 0), (6, .iconst 0, 0, 0, 0, 0), (7, .iload_n 2, 0, 0, 0, 0), (8, .iconst 3, 0, 0, 0, 0), (9, .invokestatic 52, 88, 471, 1, 0), (12, .invokestatic 60, 86, 477, 1, 0), (15, .aload_n 3, 0, 0, 0, 0), (16, .getfield 108, 3, 0, 0, 91), (19, .aload_n 3, 0, 0, 0, 0), (20, .getfield 104, 3, 1, 0, 96), (23, .iload_n 2, 0, 0, 0, 0), (24, .invokestatic 127, 93, 589, 1, 0), (27, .istore 4, 0, 0, 0, 0), (29, .aload_n 3, 0, 0, 0, 0), (30, .getfield 104, 3, 1, 0, 96), (33, .aload_n 3, 0, 0, 0, 0), (34, .getfield 108, 3, 0, 0, 91), (37, .iload_n 2, 0, 0, 0, 0), (38, .invokestatic 127, 93, 589, 1, 0), (41, .istore 5, 0, 0, 0, 0), (43, .iload 4, 0, 0, 0, 0), (45, .bipush 16, 0, 0, 0, 0), (47, .if_icmp .gt 14, 61, 0, 0, 0), (50, .iload 5, 0, 0, 0, 0), (52, .bipush 16, 0, 0, 0, 0), (54, .if_icmp .gt 7, 61, 0, 0, 0), (57, .iconst 1, 0, 0, 0, 0), (58, .goto 4, 62, 0, 0, 0), (61, .iconst 0, 0, 0, 0, 0), (62, .invokestatic 124, 87, 563, 1, 0), (65, .aload_n 0, 0, 0, 0, 0), (66, .getfield 16, 5, 1, 0, 210), (69, .iload 4, 0, 0, 0, 0), (71, .iload 5, 0, 0, 0, 0), (73, .invokevirtual 64, 33, 496, 1, 0), (76, .iconst 0, 0, 0, 0, 0), (77, .istore 6, 0, 0, 0, 0), (79, .iload 6, 0, 0, 0, 0), (81, .iload 5, 0, 0, 0, 0), (83, .if_icmp .ge 45, 128, 0, 0, 0), (86, .iconst 0, 0, 0, 0, 0), (87, .istore 7, 0, 0, 0, 0), (89, .iload 7, 0, 0, 0, 0), (91, .iload 4, 0, 0, 0, 0), (93, .if_icmp .ge 29, 122, 0, 0, 0), (96, .aload_n 0, 0, 0, 0, 0), (97, .getfield 16, 5, 1, 0, 210), (100, .iload 7, 0, 0, 0, 0), (102, .iload 6, 0, 0, 0, 0), (104, .aload_n 3, 0, 0, 0, 0), (105, .iload_n 2, 0, 0, 0, 0), (106, .iload 7, 0, 0, 0, 0), (108, .iload 6, 0, 0, 0, 0), (110, .invokestatic 131, 94, 592, 1, 0), (113, .invokevirtual 84, 35, 511, 1, 0), (116, .iinc 7 1, 0, 0, 0, 0), (119, .goto (-30), 89, 0, 0, 0), (122, .iinc 6 1, 0, 0, 0, 0), (125, .goto (-46), 79, 0, 0, 0), (128, .aload_n 3, 0, 0, 0, 0), (129, .aload_n 0, 0, 0, 0, 0), (130, .getfield 16, 5, 1, 0, 210), (133, .invokevirtual 88, 39, 349, 1, 0), (136, .aload_n 3, 0, 0, 0, 0), (137, .invokevirtual 68, 32, 389, 1, 0), (140, .ireturn, 0, 0, 0, 0)]
/-- ParallaxSheets kernel -/
def m_p_61 : List m_I := [(0, .iconst 0, 0, 0, 0, 0), (1, .iload_n 1, 0, 0, 0, 0), (2, .bipush 8, 0, 0, 0, 0), (4, .invokestatic 52, 88, 471, 1, 0), (7, .invokestatic 135, 85, 507, 1, 0), (10, .bipush (-9), 0, 0, 0, 0), (12, .iload_n 2, 0, 0, 0, 0), (13, .bipush 9, 0, 0, 0, 0), (15, .invokestatic 52, 88, 471, 1, 0), (18, .invokestatic 60, 86, 477, 1, 0), (21, .aload_n 0, 0, 0, 0, 0), (22, .getfield 23, 5, 2, 0, 211), (25, .getfield 138, 0, 0, 0, 118), (28, .iload_n 1, 0, 0, 0, 0), (29, .iaload, 0, 0, 0, 0), (30, .istore_n 3, 0, 0, 0, 0), (31, .aload_n 0, 0, 0, 0, 0), (32, .getfield 23, 5, 2, 0, 211), (35, .getfield 138, 0, 0, 0, 118), (38, .iload_n 1, 0, 0, 0, 0), (39, .iload_n 2, 0, 0, 0, 0), (40, .iastore, 0, 0, 0, 0), (41, .iload_n 3, 0, 0, 0, 0), (42, .ireturn, 0, 0, 0, 0)]
/-- ParallaxSheets divide -/
def m_p_62 : List m_I := [(0, .iconst 1, 0, 0, 0, 0), (1, .iload_n 1, 0, 0, 0, 0), (2, .bipush 99, 0, 0, 0, 0), (4, .invokestatic 52, 88, 471, 1, 0), (7, .ifCond .eq 14, 21, 0, 0, 0), (10, .iload_n 2, 0, 0, 0, 0), (11, .invokestatic 56, 89, 474, 1, 0), (14, .ifCond .eq 7, 21, 0, 0, 0), (17, .iconst 1, 0, 0, 0, 0), (18, .goto 4, 22, 0, 0, 0), (21, .iconst 0, 0, 0, 0, 0), (22, .invokestatic 60, 86, 477, 1, 0), (25, .aload_n 0, 0, 0, 0, 0), (26, .getfield 23, 5, 2, 0, 211), (29, .getfield 141, 0, 1, 0, 120), (32, .istore_n 3, 0, 0, 0, 0), (33, .aload_n 0, 0, 0, 0, 0), (34, .getfield 23, 5, 2, 0, 211), (37, .iload_n 1, 0, 0, 0, 0), (38, .putfield 141, 0, 1, 0, 120), (41, .aload_n 0, 0, 0, 0, 0), (42, .getfield 23, 5, 2, 0, 211), (45, .iload_n 2, 0, 0, 0, 0), (46, .putfield 144, 0, 2, 0, 122), (49, .iload_n 3, 0, 0, 0, 0), (50, .ireturn, 0, 0, 0, 0)]
/-- ParallaxSheets filter -/
def m_p_63 : List m_I := [(0, .aload_n 0, 0, 0, 0, 0), (1, .iload_n 1, 0, 0, 0, 0), (2, .invokevirtual 48, 83, 399, 1, 0), (5, .astore_n 3, 0, 0, 0, 0), (6, .iconst 0, 0, 0, 0, 0), (7, .iload_n 2, 0, 0, 0, 0), (8, .bipush 8, 0, 0, 0, 0), (10, .invokestatic 52, 88, 471, 1, 0), (13, .invokestatic 60, 86, 477, 1, 0), (16, .aload_n 0, 0, 0, 0, 0), (17, .getfield 23, 5, 2, 0, 211), (20, .aload_n 3, 0, 0, 0, 0), (21, .aload_n 0, 0, 0, 0, 0), (22, .getfield 16, 5, 1, 0, 210), (25, .iload_n 2, 0, 0, 0, 0), (26, .invokevirtual 147, 1, 616, 1, 0), (29, .aload_n 0, 0, 0, 0, 0), (30, .aload_n 3, 0, 0, 0, 0), (31, .invokevirtual 100, 92, 519, 1, 0), (34, .ireturn, 0, 0, 0, 0)]
/-- ParallaxSheets values -/
def m_p_64 : List m_I := [(0, .aload_n 0, 0, 0, 0, 0), (1, .iload_n 1, 0, 0, 0, 0), (2, .invokevirtual 48, 83, 399, 1, 0), (5, .astore_n 3, 0, 0, 0, 0), (6, .iconst 0, 0, 0, 0, 0), (7, .iload_n 2, 0, 0, 0, 0), (8, .iconst 3, 0, 0, 0, 0), (9, .invokestatic 52, 88, 471, 1, 0), (12, .invokestatic 60, 86, 477, 1, 0), (15, .aload_n 0, 0, 0, 0, 0), (16, .getfield 30, 5, 3, 0, 212), (19, .aload_n 3, 0, 0, 0, 0), (20, .invokevirtual 151, 41, 241, 1, 0), (23, .aload_n 0, 0, 0, 0, 0), (24, .getfield 30, 5, 3, 0, 212), (27, .iload_n 2, 0, 0, 0, 0), (28, .invokevirtual 154, 43, 668, 1, 0), (31, .aload_n 0, 0, 0, 0, 0), (32, .getfield 16, 5, 1, 0, 210), (35, .aload_n 3, 0, 0, 0, 0), (36, .invokevirtual 88, 39, 349, 1, 0), (39, .iconst 0, 0, 0, 0, 0), (40, .istore 4, 0, 0, 0, 0), (42, .iload 4, 0, 0, 0, 0), (44, .aload_n 3, 0, 0, 0, 0), (45, .invokevirtual 68, 32, 389, 1, 0), (48, .if_icmp .ge 33, 81, 0, 0, 0), (51, .aload_n 0, 0, 0, 0, 0), (52, .getfield 16, 5, 1, 0, 210), (55, .getfield 72, 3, 2, 0, 99), (58, .iload 4, 0, 0, 0, 0), (60, .aload_n 0, 0, 0, 0, 0), (61, .getfield 30, 5, 3, 0, 212), (64, .aload_n 3, 0, 0, 0, 0), (65, .getfield 72, 3, 2, 0, 99), (68, .iload 4, 0, 0, 0, 0), (70, .iaload, 0, 0, 0, 0), (71, .invokevirtual 158, 42, 691, 1, 0), (74, .iastore, 0, 0, 0, 0), (75, .iinc 4 1, 0, 0, 0, 0), (78, .goto (-36), 42, 0, 0, 0), (81, .aload_n 0, 0, 0, 0, 0), (82, .aload_n 3, 0, 0, 0, 0), (83, .invokevirtual 100, 92, 519, 1, 0), (86, .ireturn, 0, 0, 0, 0)]
/-- ParallaxSheets value -/
def m_p_65 : List m_I := [(0, .aload_n 0, 0, 0, 0, 0), (1, .iload_n 1, 0, 0, 0, 0), (2, .invokevirtual 48, 83, 399, 1, 0), (5, .astore 4, 0, 0, 0, 0), (7, .aload 4, 0, 0, 0, 0), (9, .iload_n 2, 0, 0, 0, 0), (10, .iload_n 3, 0, 0, 0, 0), (11, .invokestatic 76, 84, 504, 1, 0), (14, .aload 4, 0, 0, 0, 0), (16, .iload_n 2, 0, 0, 0, 0), (17, .iload_n 3, 0, 0, 0, 0), (18, .invokevirtual 80, 34, 377, 1, 0), (21, .ireturn, 0, 0, 0, 0)]
/-- ParallaxSheets sheet -/
def m_p_66 : List m_I := [(0, .aload_n 0, 0, 0, 0, 0), (1, .iload_n 1, 0, 0, 0, 0), (2, .invokevirtual 48, 83, 399, 1, 0), (5, .astore_n 3, 0, 0, 0, 0), (6, .iconst 0, 0, 0, 0, 0), (7, .iload_n 2, 0, 0, 0, 0), (8, .iconst 5, 0, 0, 0, 0), (9, .invokestatic 52, 88, 471, 1, 0), (12, .invokestatic 60, 86, 477, 1, 0), (15, .aload_n 0, 0, 0, 0, 0), (16, .aload_n 3, 0, 0, 0, 0), (17, .iload_n 2, 0, 0, 0, 0), (18, .invokevirtual 162, 95, 237, 1, 0), (21, .ireturn, 0, 0, 0, 0)]
/-- ParallaxSheets count -/
def m_p_67 : List m_I := [(0, .aload_n 0, 0, 0, 0, 0), (1, .iload_n 1, 0, 0, 0, 0), (2, .invokevirtual 48, 83, 399, 1, 0), (5, .astore 4, 0, 0, 0, 0), (7, .iconst 0, 0, 0, 0, 0), (8, .istore 5, 0, 0, 0, 0), (10, .iconst 0, 0, 0, 0, 0), (11, .istore 6, 0, 0, 0, 0), (13, .iload 6, 0, 0, 0, 0), (15, .aload 4, 0, 0, 0, 0), (17, .invokevirtual 68, 32, 389, 1, 0), (20, .if_icmp .ge 28, 48, 0, 0, 0), (23, .iload_n 2, 0, 0, 0, 0), (24, .aload 4, 0, 0, 0, 0), (26, .getfield 72, 3, 2, 0, 99), (29, .iload 6, 0, 0, 0, 0), (31, .iaload, 0, 0, 0, 0), (32, .iload_n 3, 0, 0, 0, 0), (33, .invokestatic 52, 88, 471, 1, 0), (36, .ifCond .eq 6, 42, 0, 0, 0), (39, .iinc 5 1, 0, 0, 0, 0), (42, .iinc 6 1, 0, 0, 0, 0), (45, .goto (-32), 13, 0, 0, 0), (48, .iload 5, 0, 0, 0, 0), (50, .ireturn, 0, 0, 0, 0)]
/-- ParallaxSheets ordered -/
def m_p_68 : List m_I := [(0, .aload_n 0, 0, 0, 0, 0), (1, .iload_n 1, 0, 0, 0, 0), (2, .invokevirtual 48, 83, 399, 1, 0), (5, .astore_n 3, 0, 0, 0, 0), (6, .iconst 0, 0, 0, 0, 0), (7, .iload_n 2, 0, 0, 0, 0), (8, .aload_n 3, 0, 0, 0, 0), (9, .invokevirtual 68, 32, 389, 1, 0), (12, .iconst 1, 0, 0, 0, 0), (13, .isub, 0, 0, 0, 0), (14, .invokestatic 52, 88, 471, 1, 0), (17, .invokestatic 135, 85, 507, 1, 0), (20, .aload_n 0, 0, 0, 0, 0), (21, .getfield 30, 5, 3, 0, 212), (24, .aload_n 3, 0, 0, 0, 0), (25, .invokevirtual 151, 41, 241, 1, 0), (28, .aload_n 0, 0, 0, 0, 0), (29, .getfield 30, 5, 3, 0, 212), (32, .iload_n 2, 0, 0, 0, 0), (33, .invokevirtual 166, 50, 723, 1, 0), (36, .ireturn, 0, 0, 0, 0)]
/-- ParallaxSheets difference -/
def m_p_69 : List m_I := [(0, .aload_n 0, 0, 0, 0, 0), (1, .iload_n 1, 0, 0, 0, 0), (2, .invokevirtual 48, 83, 399, 1, 0), (5, .astore_n 3, 0, 0, 0, 0), (6, .aload_n 0, 0, 0, 0, 0), (7, .iload_n 2, 0, 0, 0, 0), (8, .invokevirtual 48, 83, 399, 1, 0), (11, .astore 4, 0, 0, 0, 0), (13, .aload_n 3, 0, 0, 0, 0), (14, .aload 4, 0, 0, 0, 0), (16, .invokevirtual 117, 37, 551, 1, 0), (19, .invokestatic 124, 87, 563, 1, 0), (22, .iconst 0, 0, 0, 0, 0), (23, .istore 5, 0, 0, 0, 0), (25, .iconst 0, 0, 0, 0, 0), (26, .istore 6, 0, 0, 0, 0), (28, .iload 6, 0, 0, 0, 0), (30, .aload_n 3, 0, 0, 0, 0), (31, .invokevirtual 68, 32, 389, 1, 0), (34, .if_icmp .ge 33, 67, 0, 0, 0), (37, .iload 5, 0, 0, 0, 0), (39, .aload_n 3, 0, 0, 0, 0), (40, .getfield 72, 3, 2, 0, 99), (43, .iload 6, 0, 0, 0, 0), (45, .iaload, 0, 0, 0, 0), (46, .aload 4, 0, 0, 0, 0), (48, .getfield 72, 3, 2, 0, 99), (51, .iload 6, 0, 0, 0, 0), (53, .iaload, 0, 0, 0, 0), (54, .isub, 0, 0, 0, 0), (55, .invokestatic 169, 0, 384, 5, 0), (58, .iadd, 0, 0, 0, 0), (59, .istore 5, 0, 0, 0, 0), (61, .iinc 6 1, 0, 0, 0, 0), (64, .goto (-36), 28, 0, 0, 0), (67, .iload 5, 0, 0, 0, 0), (69, .i2d, 0, 0, 0, 0), (70, .aload_n 3, 0, 0, 0, 0), (71, .invokevirtual 68, 32, 389, 1, 0), (74, .i2d, 0, 0, 0, 0), (75, .ddiv, 0, 0, 0, 0), (76, .dreturn, 0, 0, 0, 0)]
/-- ParallaxSheets parts -/
def m_p_70 : List m_I := [(0, .aload_n 0, 0, 0, 0, 0), (1, .iload_n 1, 0, 0, 0, 0), (2, .invokevirtual 48, 83, 399, 1, 0), (5, .astore_n 3, 0, 0, 0, 0), (6, .iload_n 2, 0, 0, 0, 0), (7, .invokestatic 172, 91, 738, 1, 0), (10, .invokestatic 60, 86, 477, 1, 0), (13, .aload_n 0, 0, 0, 0, 0), (14, .aload_n 3, 0, 0, 0, 0), (15, .iload_n 2, 0, 0, 0, 0), (16, .sipush 128, 0, 0, 0, 0), (19, .invokevirtual 175, 96, 275, 1, 0), (22, .ireturn, 0, 0, 0, 0)]
/-- ParallaxSheets holes -/
def m_p_71 : List m_I := [(0, .aload_n 0, 0, 0, 0, 0), (1, .iload_n 1, 0, 0, 0, 0), (2, .invokevirtual 48, 83, 399, 1, 0), (5, .astore_n 3, 0, 0, 0, 0), (6, .iload_n 2, 0, 0, 0, 0), (7, .invokestatic 172, 91, 738, 1, 0), (10, .invokestatic 60, 86, 477, 1, 0), (13, .aload_n 0, 0, 0, 0, 0), (14, .aload_n 3, 0, 0, 0, 0), (15, .iload_n 2, 0, 0, 0, 0), (16, .invokevirtual 179, 97, 303, 1, 0), (19, .ireturn, 0, 0, 0, 0)]
/-- ParallaxSheets partOf -/
def m_p_72 : List m_I := [(0, .aload_n 0, 0, 0, 0, 0), (1, .iload_n 1, 0, 0, 0, 0), (2, .invokevirtual 48, 83, 399, 1, 0), (5, .astore 5, 0, 0, 0, 0), (7, .aload 5, 0, 0, 0, 0), (9, .iload_n 3, 0, 0, 0, 0), (10, .iload 4, 0, 0, 0, 0), (12, .invokestatic 76, 84, 504, 1, 0), (15, .iload_n 2, 0, 0, 0, 0), (16, .invokestatic 172, 91, 738, 1, 0), (19, .invokestatic 60, 86, 477, 1, 0), (22, .aload_n 0, 0, 0, 0, 0), (23, .getfield 37, 5, 4, 0, 213), (26, .aload 5, 0, 0, 0, 0), (28, .iload_n 2, 0, 0, 0, 0), (29, .sipush 128, 0, 0, 0, 0), (32, .iconst 1, 0, 0, 0, 0), (33, .invokevirtual 182, 12, 279, 1, 0), (36, .aload_n 0, 0, 0, 0, 0), (37, .getfield 37, 5, 4, 0, 213), (40, .iload_n 3, 0, 0, 0, 0), (41, .iload 4, 0, 0, 0, 0), (43, .invokevirtual 186, 17, 755, 1, 0), (46, .ireturn, 0, 0, 0, 0)]
/-- ParallaxSheets part -/
def m_p_73 : List m_I := [(0, .aload_n 0, 0, 0, 0, 0), (1, .iload_n 1, 0, 0, 0, 0), (2, .invokevirtual 48, 83, 399, 1, 0), (5, .astore 5, 0, 0, 0, 0), (7, .iload_n 2, 0, 0, 0, 0), (8, .invokestatic 172, 91, 738, 1, 0), (11, .ifCond .eq 17, 28, 0, 0, 0), (14, .iconst 0, 0, 0, 0, 0), (15, .iload 4, 0, 0, 0, 0), (17, .iconst 5, 0, 0, 0, 0), (18, .invokestatic 52, 88, 471, 1, 0), (21, .ifCond .eq 7, 28, 0, 0, 0), (24, .iconst 1, 0, 0, 0, 0), (25, .goto 4, 29, 0, 0, 0), (28, .iconst 0, 0, 0, 0, 0), (29, .invokestatic 60, 86, 477, 1, 0), (32, .aload_n 0, 0, 0, 0, 0), (33, .getfield 37, 5, 4, 0, 213), (36, .aload 5, 0, 0, 0, 0), (38, .iload_n 2, 0, 0, 0, 0), (39, .sipush 128, 0, 0, 0, 0), (42, .iconst 1, 0, 0, 0, 0), (43, .invokevirtual 182, 12, 279, 1, 0), (46, .iconst 0, 0, 0, 0, 0), (47, .iload_n 3, 0, 0, 0, 0), (48, .aload_n 0, 0, 0, 0, 0), (49, .getfield 37, 5, 4, 0, 213), (52, .getfield 189, 1, 0, 0, 159), (55, .iconst 1, 0, 0, 0, 0), (56, .isub, 0, 0, 0, 0), (57, .invokestatic 52, 88, 471, 1, 0), (60, .invokestatic 60, 86, 477, 1, 0), (63, .aload_n 0, 0, 0, 0, 0), (64, .getfield 37, 5, 4, 0, 213), (67, .iload_n 3, 0, 0, 0, 0), (68, .iload 4, 0, 0, 0, 0), (70, .invokevirtual 192, 20, 763, 1, 0), (73, .ireturn, 0, 0, 0, 0)]
/-- ParallaxSheets keep -/
def m_p_74 : List m_I := [(0, .aload_n 0, 0, 0, 0, 0), (1, .iload_n 1, 0, 0, 0, 0), (2, .invokevirtual 48, 83, 399, 1, 0), (5, .astore_n 3, 0, 0, 0, 0), (6, .iload_n 2, 0, 0, 0, 0), (7, .invokestatic 172, 91, 738, 1, 0), (10, .invokestatic 60, 86, 477, 1, 0), (13, .aload_n 0, 0, 0, 0, 0), (14, .getfield 37, 5, 4, 0, 213), (17, .aload_n 3, 0, 0, 0, 0), (18, .iload_n 2, 0, 0, 0, 0), (19, .sipush 128, 0, 0, 0, 0), (22, .iconst 1, 0, 0, 0, 0), (23, .invokevirtual 182, 12, 279, 1, 0), (26, .aload_n 0, 0, 0, 0, 0), (27, .getfield 37, 5, 4, 0, 213), (30, .invokevirtual 194, 18, 788, 1, 0), (33, .istore 4, 0, 0, 0, 0), (35, .aload_n 0, 0, 0, 0, 0), (36, .getfield 16, 5, 1, 0, 210), (39, .aload_n 3, 0, 0, 0, 0), (40, .invokevirtual 88, 39, 349, 1, 0), (43, .iconst 0, 0, 0, 0, 0), (44, .istore 5, 0, 0, 0, 0), (46, .iload 5, 0, 0, 0, 0), (48, .aload_n 3, 0, 0, 0, 0), (49, .invokevirtual 68, 32, 389, 1, 0), (52, .if_icmp .ge 48, 100, 0, 0, 0), (55, .aload_n 3, 0, 0, 0, 0), (56, .getfield 72, 3, 2, 0, 99), (59, .iload 5, 0, 0, 0, 0), (61, .iaload, 0, 0, 0, 0), (62, .sipush 128, 0, 0, 0, 0), (65, .if_icmp .lt 29, 94, 0, 0, 0), (68, .aload_n 0, 0, 0, 0, 0), (69, .getfield 37, 5, 4, 0, 213), (72, .getfield 197, 1, 1, 0, 161), (75, .iload 5, 0, 0, 0, 0), (77, .iaload, 0, 0, 0, 0), (78, .iload 4, 0, 0, 0, 0), (80, .if_icmp .eq 14, 94, 0, 0, 0), (83, .aload_n 0, 0, 0, 0, 0), (84, .getfield 16, 5, 1, 0, 210), (87, .getfield 72, 3, 2, 0, 99), (90, .iload 5, 0, 0, 0, 0), (92, .iconst 0, 0, 0, 0, 0), (93, .iastore, 0, 0, 0, 0), (94, .iinc 5 1, 0, 0, 0, 0), (97, .goto (-51), 46, 0, 0, 0), (100, .aload_n 0, 0, 0, 0, 0), (101, .aload_n 3, 0, 0, 0, 0), (102, .invokevirtual 100, 92, 519, 1, 0), (105, .ireturn, 0, 0, 0, 0)]
/-- ParallaxSheets far -/
def m_p_75 : List m_I := [(0, .aload_n 0, 0, 0, 0, 0), (1, .iload_n 1, 0, 0, 0, 0), (2, .invokevirtual 48, 83, 399, 1, 0), (5, .astore 5, 0, 0, 0, 0), (7, .aload 5, 0, 0, 0, 0), (9, .iload_n 3, 0, 0, 0, 0), (10, .iload 4, 0, 0, 0, 0), (12, .invokestatic 76, 84, 504, 1, 0), (15, .iconst 0, 0, 0, 0, 0), (16, .iload_n 2, 0, 0, 0, 0), (17, .iconst 2, 0, 0, 0, 0), (18, .invokestatic 52, 88, 471, 1, 0), (21, .invokestatic 60, 86, 477, 1, 0), (24, .aload 5, 0, 0, 0, 0), (26, .iload_n 2, 0, 0, 0, 0), (27, .iload_n 3, 0, 0, 0, 0), (28, .iload 4, 0, 0, 0, 0), (30, .invokestatic 200, 98, 374, 1, 0), (33, .ireturn, 0, 0, 0, 0)]
/-- ParallaxSheets spread -/
def m_p_76 : List m_I := [(0, .aload_n 0, 0, 0, 0, 0), (1, .iload_n 1, 0, 0, 0, 0), (2, .invokevirtual 48, 83, 399, 1, 0), (5, .astore_n 3, 0, 0, 0, 0), (6, .iconst 0, 0, 0, 0, 0), (7, .iload_n 2, 0, 0, 0, 0), (8, .iconst 2, 0, 0, 0, 0), (9, .invokestatic 52, 88, 471, 1, 0), (12, .invokestatic 60, 86, 477, 1, 0), (15, .aload_n 0, 0, 0, 0, 0), (16, .getfield 16, 5, 1, 0, 210), (19, .aload_n 3, 0, 0, 0, 0), (20, .getfield 108, 3, 0, 0, 91), (23, .aload_n 3, 0, 0, 0, 0), (24, .getfield 104, 3, 1, 0, 96), (27, .invokevirtual 64, 33, 496, 1, 0), (30, .iconst 0, 0, 0, 0, 0), (31, .istore 4, 0, 0, 0, 0), (33, .iconst 0, 0, 0, 0, 0), (34, .istore 5, 0, 0, 0, 0), (36, .iload 5, 0, 0, 0, 0), (38, .aload_n 3, 0, 0, 0, 0), (39, .getfield 104, 3, 1, 0, 96), (42, .if_icmp .ge 63, 105, 0, 0, 0), (45, .iconst 0, 0, 0, 0, 0), (46, .istore 6, 0, 0, 0, 0), (48, .iload 6, 0, 0, 0, 0), (50, .aload_n 3, 0, 0, 0, 0), (51, .getfield 108, 3, 0, 0, 91), (54, .if_icmp .ge 45, 99, 0, 0, 0), (57, .aload_n 3, 0, 0, 0, 0), (58, .iload_n 2, 0, 0, 0, 0), (59, .iload 6, 0, 0, 0, 0), (61, .iload 5, 0, 0, 0, 0), (63, .invokestatic 200, 98, 374, 1, 0), (66, .istore 7, 0, 0, 0, 0), (68, .iload 4, 0, 0, 0, 0), (70, .iload 7, 0, 0, 0, 0), (72, .invokestatic 97, 0, 385, 3, 0), (75, .istore 4, 0, 0, 0, 0), (77, .aload_n 0, 0, 0, 0, 0), (78, .getfield 16, 5, 1, 0, 210), (81, .iload 6, 0, 0, 0, 0), (83, .iload 5, 0, 0, 0, 0), (85, .iload 7, 0, 0, 0, 0), (87, .bipush 10, 0, 0, 0, 0), (89, .imul, 0, 0, 0, 0), (90, .invokevirtual 84, 35, 511, 1, 0), (93, .iinc 6 1, 0, 0, 0, 0), (96, .goto (-48), 48, 0, 0, 0), (99, .iinc 5 1, 0, 0, 0, 0), (102, .goto (-66), 36, 0, 0, 0), (105, .aload_n 3, 0, 0, 0, 0), (106, .aload_n 0, 0, 0, 0, 0), (107, .getfield 16, 5, 1, 0, 210), (110, .invokevirtual 88, 39, 349, 1, 0), (113, .iload 4, 0, 0, 0, 0), (115, .ireturn, 0, 0, 0, 0)]
/-- ParallaxSheets carve -/
def m_p_77 : List m_I := [(0, .aload_n 0, 0, 0, 0, 0), (1, .iload_n 1, 0, 0, 0, 0), (2, .invokevirtual 48, 83, 399, 1, 0), (5, .astore_n 2, 0, 0, 0, 0), (6, .aload_n 2, 0, 0, 0, 0), (7, .getfield 108, 3, 0, 0, 91), (10, .iconst 1, 0, 0, 0, 0), (11, .if_icmp .le 7, 18, 0, 0, 0), (14, .iconst 1, 0, 0, 0, 0), (15, .goto 4, 19, 0, 0, 0), (18, .iconst 0, 0, 0, 0, 0), (19, .invokestatic 124, 87, 563, 1, 0), (22, .aload_n 0, 0, 0, 0, 0), (23, .getfield 44, 5, 5, 0, 214), (26, .aload_n 2, 0, 0, 0, 0), (27, .invokevirtual 203, 25, 315, 1, 0), (30, .aload_n 0, 0, 0, 0, 0), (31, .getfield 44, 5, 5, 0, 214), (34, .aload_n 2, 0, 0, 0, 0), (35, .invokevirtual 205, 29, 360, 1, 0), (38, .aload_n 0, 0, 0, 0, 0), (39, .getfield 44, 5, 5, 0, 214), (42, .getfield 208, 2, 0, 0, 195), (45, .ireturn, 0, 0, 0, 0)]
/-- ParallaxSheets widen -/
def m_p_78 : List m_I := [(0, .aload_n 0, 0, 0, 0, 0), (1, .iload_n 1, 0, 0, 0, 0), (2, .invokevirtual 48, 83, 399, 1, 0), (5, .astore_n 2, 0, 0, 0, 0), (6, .aload_n 2, 0, 0, 0, 0), (7, .getfield 108, 3, 0, 0, 91), (10, .bipush 16, 0, 0, 0, 0), (12, .if_icmp .ge 7, 19, 0, 0, 0), (15, .iconst 1, 0, 0, 0, 0), (16, .goto 4, 20, 0, 0, 0), (19, .iconst 0, 0, 0, 0, 0), (20, .invokestatic 124, 87, 563, 1, 0), (23, .aload_n 0, 0, 0, 0, 0), (24, .getfield 44, 5, 5, 0, 214), (27, .aload_n 2, 0, 0, 0, 0), (28, .invokevirtual 203, 25, 315, 1, 0), (31, .aload_n 0, 0, 0, 0, 0), (32, .getfield 44, 5, 5, 0, 214), (35, .aload_n 2, 0, 0, 0, 0), (36, .invokevirtual 210, 30, 820, 1, 0), (39, .aload_n 0, 0, 0, 0, 0), (40, .getfield 44, 5, 5, 0, 214), (43, .getfield 208, 2, 0, 0, 195), (46, .ireturn, 0, 0, 0, 0)]
/-- ParallaxSheets seam -/
def m_p_79 : List m_I := [(0, .aload_n 0, 0, 0, 0, 0), (1, .iload_n 1, 0, 0, 0, 0), (2, .invokevirtual 48, 83, 399, 1, 0), (5, .astore_n 3, 0, 0, 0, 0), (6, .iconst 0, 0, 0, 0, 0), (7, .iload_n 2, 0, 0, 0, 0), (8, .aload_n 3, 0, 0, 0, 0), (9, .getfield 104, 3, 1, 0, 96), (12, .iconst 1, 0, 0, 0, 0), (13, .isub, 0, 0, 0, 0), (14, .invokestatic 52, 88, 471, 1, 0), (17, .invokestatic 135, 85, 507, 1, 0), (20, .aload_n 0, 0, 0, 0, 0), (21, .getfield 44, 5, 5, 0, 214), (24, .aload_n 3, 0, 0, 0, 0), (25, .invokevirtual 203, 25, 315, 1, 0), (28, .aload_n 0, 0, 0, 0, 0), (29, .getfield 44, 5, 5, 0, 214), (32, .getfield 213, 2, 1, 0, 197), (35, .iload_n 2, 0, 0, 0, 0), (36, .iaload, 0, 0, 0, 0), (37, .ireturn, 0, 0, 0, 0)]
/-- ParallaxSheets partsAt -/
def m_p_80 : List m_I := [(0, .aload_n 0, 0, 0, 0, 0), (1, .iload_n 1, 0, 0, 0, 0), (2, .invokevirtual 48, 83, 399, 1, 0), (5, .astore 4, 0, 0, 0, 0), (7, .iload_n 2, 0, 0, 0, 0), (8, .invokestatic 172, 91, 738, 1, 0), (11, .ifCond .eq 14, 25, 0, 0, 0), (14, .iload_n 3, 0, 0, 0, 0), (15, .invokestatic 56, 89, 474, 1, 0), (18, .ifCond .eq 7, 25, 0, 0, 0), (21, .iconst 1, 0, 0, 0, 0), (22, .goto 4, 26, 0, 0, 0), (25, .iconst 0, 0, 0, 0, 0), (26, .invokestatic 60, 86, 477, 1, 0), (29, .aload_n 0, 0, 0, 0, 0), (30, .aload 4, 0, 0, 0, 0), (32, .iload_n 2, 0, 0, 0, 0), (33, .iload_n 3, 0, 0, 0, 0), (34, .invokevirtual 175, 96, 275, 1, 0), (37, .ireturn, 0, 0, 0, 0)]
/-- ParallaxSheets carvedBy -/
def m_p_81 : List m_I := [(0, .aload_n 0, 0, 0, 0, 0), (1, .iload_n 1, 0, 0, 0, 0), (2, .invokevirtual 48, 83, 399, 1, 0), (5, .astore_n 3, 0, 0, 0, 0), (6, .iconst 0, 0, 0, 0, 0), (7, .iload_n 2, 0, 0, 0, 0), (8, .aload_n 3, 0, 0, 0, 0), (9, .getfield 108, 3, 0, 0, 91), (12, .iconst 1, 0, 0, 0, 0), (13, .isub, 0, 0, 0, 0), (14, .invokestatic 52, 88, 471, 1, 0), (17, .invokestatic 60, 86, 477, 1, 0), (20, .aload_n 0, 0, 0, 0, 0), (21, .aload_n 3, 0, 0, 0, 0), (22, .iload_n 2, 0, 0, 0, 0), (23, .invokevirtual 216, 102, 345, 1, 0), (26, .ireturn, 0, 0, 0, 0)]
/-- ParallaxSheets digest -/
def m_p_82 : List m_I := [(0, .ldc2_w 219, 0, 232, 0, 58080), (3, .lstore_n 1, 0, 0, 0, 0), (4, .iconst 0, 0, 0, 0, 0), (5, .istore_n 3, 0, 0, 0, 0), (6, .iload_n 3, 0, 0, 0, 0), (7, .iconst 4, 0, 0, 0, 0), (8, .if_icmp .ge 40, 48, 0, 0, 0), (11, .aload_n 0, 0, 0, 0, 0), (12, .getfield 11, 5, 0, 0, 209), (15, .iload_n 3, 0, 0, 0, 0), (16, .aaload, 0, 0, 0, 0), (17, .astore 4, 0, 0, 0, 0), (19, .aload_n 0, 0, 0, 0, 0), (20, .lload_n 1, 0, 0, 0, 0), (21, .aload 4, 0, 0, 0, 0), (23, .invokevirtual 221, 104, 233, 1, 0), (26, .lstore_n 1, 0, 0, 0, 0), (27, .aload_n 0, 0, 0, 0, 0), (28, .lload_n 1, 0, 0, 0, 0), (29, .aload 4, 0, 0, 0, 0), (31, .invokevirtual 225, 105, 311, 1, 0), (34, .lstore_n 1, 0, 0, 0, 0), (35, .lload_n 1, 0, 0, 0, 0), (36, .aload 4, 0, 0, 0, 0), (38, .invokestatic 228, 106, 370, 1, 0), (41, .lstore_n 1, 0, 0, 0, 0), (42, .iinc 3 1, 0, 0, 0, 0), (45, .goto (-39), 6, 0, 0, 0), (48, .lload_n 1, 0, 0, 0, 0), (49, .lreturn, 0, 0, 0, 0)]
/-- ParallaxSheets sheetAt -/
def m_p_83 : List m_I := [(0, .iload_n 1, 0, 0, 0, 0), (1, .ifCond .lt 8, 9, 0, 0, 0), (4, .iload_n 1, 0, 0, 0, 0), (5, .iconst 4, 0, 0, 0, 0), (6, .if_icmp .lt 13, 19, 0, 0, 0), (9, .new 231, 0, 403, 8, 0), (19, .aload_n 0, 0, 0, 0, 0), (20, .getfield 11, 5, 0, 0, 209), (23, .iload_n 1, 0, 0, 0, 0), (24, .aaload, 0, 0, 0, 0), (25, .areturn, 0, 0, 0, 0)]
/-- ParallaxSheets needField -/
def m_p_84 : List m_I := [(0, .iconst 0, 0, 0, 0, 0), (1, .iload_n 1, 0, 0, 0, 0), (2, .aload_n 0, 0, 0, 0, 0), (3, .getfield 108, 3, 0, 0, 91), (6, .iconst 1, 0, 0, 0, 0), (7, .isub, 0, 0, 0, 0), (8, .invokestatic 52, 88, 471, 1, 0), (11, .ifCond .eq 21, 32, 0, 0, 0), (14, .iconst 0, 0, 0, 0, 0), (15, .iload_n 2, 0, 0, 0, 0), (16, .aload_n 0, 0, 0, 0, 0), (17, .getfield 104, 3, 1, 0, 96), (20, .iconst 1, 0, 0, 0, 0), (21, .isub, 0, 0, 0, 0), (22, .invokestatic 52, 88, 471, 1, 0), (25, .ifCond .eq 7, 32, 0, 0, 0), (28, .iconst 1, 0, 0, 0, 0), (29, .goto 4, 33, 0, 0, 0), (32, .iconst 0, 0, 0, 0, 0), (33, .invokestatic 135, 85, 507, 1, 0), (36, .return_, 0, 0, 0, 0)]
/-- ParallaxSheets needPlace -/
def m_p_85 : List m_I := [(0, .iload_n 0, 0, 0, 0, 0), (1, .ifCond .ne 13, 14, 0, 0, 0), (4, .new 231, 0, 403, 8, 0), (14, .return_, 0, 0, 0, 0)]
/-- ParallaxSheets refuseUnless -/
def m_p_86 : List m_I := [(0, .iload_n 0, 0, 0, 0, 0), (1, .ifCond .ne 13, 14, 0, 0, 0), (4, .new 240, 1, 480, 8, 0), (14, .return_, 0, 0, 0, 0)]
/-- ParallaxSheets needState -/
def m_p_87 : List m_I := [(0, .iload_n 0, 0, 0, 0, 0), (1, .ifCond .ne 13, 14, 0, 0, 0), (4, .new 245, 2, 566, 8, 0), (14, .return_, 0, 0, 0, 0)]
/-- ParallaxSheets isFrom -/
def m_p_88 : List m_I := [(0, .iload_n 0, 0, 0, 0, 0), (1, .iload_n 1, 0, 0, 0, 0), (2, .if_icmp .gt 12, 14, 0, 0, 0), (5, .iload_n 1, 0, 0, 0, 0), (6, .iload_n 2, 0, 0, 0, 0), (7, .if_icmp .gt 7, 14, 0, 0, 0), (10, .iconst 1, 0, 0, 0, 0), (11, .goto 4, 15, 0, 0, 0), (14, .iconst 0, 0, 0, 0, 0), (15, .ireturn, 0, 0, 0, 0)]
/-- ParallaxSheets isValue -/
def m_p_89 : List m_I := [(0, .iconst 0, 0, 0, 0, 0), (1, .iload_n 0, 0, 0, 0, 0), (2, .sipush 255, 0, 0, 0, 0), (5, .invokestatic 52, 88, 471, 1, 0), (8, .ireturn, 0, 0, 0, 0)]
/-- ParallaxSheets isSlope -/
def m_p_90 : List m_I := [(0, .bipush (-50), 0, 0, 0, 0), (2, .iload_n 0, 0, 0, 0, 0), (3, .bipush 50, 0, 0, 0, 0), (5, .invokestatic 52, 88, 471, 1, 0), (8, .ireturn, 0, 0, 0, 0)]
/-- ParallaxSheets isWays -/
def m_p_91 : List m_I := [(0, .iload_n 0, 0, 0, 0, 0), (1, .iconst 4, 0, 0, 0, 0), (2, .if_icmp .eq 9, 11, 0, 0, 0), (5, .iload_n 0, 0, 0, 0, 0), (6, .bipush 8, 0, 0, 0, 0), (8, .if_icmp .ne 7, 15, 0, 0, 0), (11, .iconst 1, 0, 0, 0, 0), (12, .goto 4, 16, 0, 0, 0), (15, .iconst 0, 0, 0, 0, 0), (16, .ireturn, 0, 0, 0, 0)]
/-- ParallaxSheets changeToNext -/
def m_p_92 : List m_I := [(0, .aload_n 1, 0, 0, 0, 0), (1, .aload_n 0, 0, 0, 0, 0), (2, .getfield 16, 5, 1, 0, 210), (5, .invokevirtual 121, 38, 523, 1, 0), (8, .istore_n 2, 0, 0, 0, 0), (9, .aload_n 1, 0, 0, 0, 0), (10, .aload_n 0, 0, 0, 0, 0), (11, .getfield 16, 5, 1, 0, 210), (14, .invokevirtual 88, 39, 349, 1, 0), (17, .iload_n 2, 0, 0, 0, 0), (18, .ireturn, 0, 0, 0, 0)]
/-- ParallaxSheets turnedSide -/
def m_p_93 : List m_I := [(0, .iload_n 2, 0, 0, 0, 0), (1, .tableswitch 45 0 3 #[31, 45, 33, 41], 0, 0, 0, 31), (32, .iload_n 1, 0, 0, 0, 0), (33, .ireturn, 0, 0, 0, 0), (34, .iconst 1, 0, 0, 0, 0), (35, .iload_n 0, 0, 0, 0, 0), (36, .iconst 2, 0, 0, 0, 0), (37, .idiv, 0, 0, 0, 0), (38, .invokestatic 97, 0, 385, 3, 0), (41, .ireturn, 0, 0, 0, 0), (42, .iload_n 0, 0, 0, 0, 0), (43, .iconst 2, 0, 0, 0, 0), (44, .imul, 0, 0, 0, 0), (45, .ireturn, 0, 0, 0, 0), (46, .iload_n 0, 0, 0, 0, 0), (47, .ireturn, 0, 0, 0, 0)]
/-- ParallaxSheets turnedValue -/
def m_p_94 : List m_I := [(0, .iload_n 1, 0, 0, 0, 0), (1, .tableswitch 109 0 2 #[27, 41, 55], 0, 0, 0, 27), (28, .aload_n 0, 0, 0, 0, 0), (29, .iload_n 3, 0, 0, 0, 0), (30, .aload_n 0, 0, 0, 0, 0), (31, .getfield 104, 3, 1, 0, 96), (34, .iconst 1, 0, 0, 0, 0), (35, .isub, 0, 0, 0, 0), (36, .iload_n 2, 0, 0, 0, 0), (37, .isub, 0, 0, 0, 0), (38, .invokevirtual 80, 34, 377, 1, 0), (41, .ireturn, 0, 0, 0, 0), (42, .aload_n 0, 0, 0, 0, 0), (43, .aload_n 0, 0, 0, 0, 0), (44, .getfield 108, 3, 0, 0, 91), (47, .iconst 1, 0, 0, 0, 0), (48, .isub, 0, 0, 0, 0), (49, .iload_n 2, 0, 0, 0, 0), (50, .isub, 0, 0, 0, 0), (51, .iload_n 3, 0, 0, 0, 0), (52, .invokevirtual 80, 34, 377, 1, 0), (55, .ireturn, 0, 0, 0, 0), (56, .aload_n 0, 0, 0, 0, 0), (57, .iconst 2, 0, 0, 0, 0), (58, .iload_n 2, 0, 0, 0, 0), (59, .imul, 0, 0, 0, 0), (60, .iconst 2, 0, 0, 0, 0), (61, .iload_n 3, 0, 0, 0, 0), (62, .imul, 0, 0, 0, 0), (63, .invokevirtual 80, 34, 377, 1, 0), (66, .aload_n 0, 0, 0, 0, 0), (67, .iconst 2, 0, 0, 0, 0), (68, .iload_n 2, 0, 0, 0, 0), (69, .imul, 0, 0, 0, 0), (70, .iconst 1, 0, 0, 0, 0), (71, .iadd, 0, 0, 0, 0), (72, .iconst 2, 0, 0, 0, 0), (73, .iload_n 3, 0, 0, 0, 0), (74, .imul, 0, 0, 0, 0), (75, .invokevirtual 80, 34, 377, 1, 0), (78, .iadd, 0, 0, 0, 0), (79, .aload_n 0, 0, 0, 0, 0), (80, .iconst 2, 0, 0, 0, 0), (81, .iload_n 2, 0, 0, 0, 0), (82, .imul, 0, 0, 0, 0), (83, .iconst 2, 0, 0, 0, 0), (84, .iload_n 3, 0, 0, 0, 0), (85, .imul, 0, 0, 0, 0), (86, .iconst 1, 0, 0, 0, 0), (87, .iadd, 0, 0, 0, 0), (88, .invokevirtual 80, 34, 377, 1, 0), (91, .iadd, 0, 0, 0, 0), (92, .aload_n 0, 0, 0, 0, 0), (93, .iconst 2, 0, 0, 0, 0), (94, .iload_n 2, 0, 0, 0, 0), (95, .imul, 0, 0, 0, 0), (96, .iconst 1, 0, 0, 0, 0), (97, .iadd, 0, 0, 0, 0), (98, .iconst 2, 0, 0, 0, 0), (99, .iload_n 3, 0, 0, 0, 0), (100, .imul, 0, 0, 0, 0), (101, .iconst 1, 0, 0, 0, 0), (102, .iadd, 0, 0, 0, 0), (103, .invokevirtual 80, 34, 377, 1, 0), (106, .iadd, 0, 0, 0, 0), (107, .iconst 4, 0, 0, 0, 0), (108, .idiv, 0, 0, 0, 0), (109, .ireturn, 0, 0, 0, 0), (110, .aload_n 0, 0, 0, 0, 0), (111, .iload_n 2, 0, 0, 0, 0), (112, .iconst 2, 0, 0, 0, 0), (113, .idiv, 0, 0, 0, 0), (114, .iload_n 3, 0, 0, 0, 0), (115, .iconst 2, 0, 0, 0, 0), (116, .idiv, 0, 0, 0, 0), (117, .invokevirtual 80, 34, 377, 1, 0), (120, .ireturn, 0, 0, 0, 0)]
/-- ParallaxSheets factOf -/
def m_p_95 : List m_I := [(0, .aload_n 0, 0, 0, 0, 0), (1, .getfield 30, 5, 3, 0, 212), (4, .aload_n 1, 0, 0, 0, 0), (5, .invokevirtual 151, 41, 241, 1, 0), (8, .iload_n 2, 0, 0, 0, 0), (9, .tableswitch 66 0 4 #[35, 40, 45, 53, 61], 0, 0, 0, 35), (44, .aload_n 1, 0, 0, 0, 0), (45, .getfield 108, 3, 0, 0, 91), (48, .ireturn, 0, 0, 0, 0), (49, .aload_n 1, 0, 0, 0, 0), (50, .getfield 104, 3, 1, 0, 96), (53, .ireturn, 0, 0, 0, 0), (54, .aload_n 0, 0, 0, 0, 0), (55, .getfield 30, 5, 3, 0, 212), (58, .invokevirtual 250, 48, 249, 1, 0), (61, .ireturn, 0, 0, 0, 0), (62, .aload_n 0, 0, 0, 0, 0), (63, .getfield 30, 5, 3, 0, 212), (66, .invokevirtual 253, 49, 257, 1, 0), (69, .ireturn, 0, 0, 0, 0), (70, .aload_n 1, 0, 0, 0, 0), (71, .invokevirtual 114, 36, 261, 1, 0), (74, .ireturn, 0, 0, 0, 0), (75, .aload_n 0, 0, 0, 0, 0), (76, .getfield 30, 5, 3, 0, 212), (79, .invokevirtual 256, 51, 266, 1, 0), (82, .ireturn, 0, 0, 0, 0)]
/-- ParallaxSheets partsFrom -/
def m_p_96 : List m_I := [(0, .aload_n 0, 0, 0, 0, 0), (1, .getfield 37, 5, 4, 0, 213), (4, .aload_n 1, 0, 0, 0, 0), (5, .iload_n 2, 0, 0, 0, 0), (6, .iload_n 3, 0, 0, 0, 0), (7, .iconst 1, 0, 0, 0, 0), (8, .invokevirtual 182, 12, 279, 1, 0), (11, .aload_n 0, 0, 0, 0, 0), (12, .getfield 37, 5, 4, 0, 213), (15, .getfield 189, 1, 0, 0, 159), (18, .ireturn, 0, 0, 0, 0)]
/-- ParallaxSheets holesOf -/
def m_p_97 : List m_I := [(0, .iload_n 2, 0, 0, 0, 0), (1, .iconst 4, 0, 0, 0, 0), (2, .if_icmp .ne 8, 10, 0, 0, 0), (5, .bipush 8, 0, 0, 0, 0), (7, .goto 4, 11, 0, 0, 0), (10, .iconst 4, 0, 0, 0, 0), (11, .istore_n 3, 0, 0, 0, 0), (12, .aload_n 0, 0, 0, 0, 0), (13, .getfield 37, 5, 4, 0, 213), (16, .aload_n 1, 0, 0, 0, 0), (17, .iload_n 3, 0, 0, 0, 0), (18, .sipush 128, 0, 0, 0, 0), (21, .iconst 0, 0, 0, 0, 0), (22, .invokevirtual 182, 12, 279, 1, 0), (25, .aload_n 0, 0, 0, 0, 0), (26, .getfield 37, 5, 4, 0, 213), (29, .invokevirtual 259, 19, 307, 1, 0), (32, .ireturn, 0, 0, 0, 0)]
/-- ParallaxSheets farOf -/
def m_p_98 : List m_I := [(0, .aload_n 0, 0, 0, 0, 0), (1, .iload_n 2, 0, 0, 0, 0), (2, .iload_n 3, 0, 0, 0, 0), (3, .invokevirtual 80, 34, 377, 1, 0), (6, .sipush 128, 0, 0, 0, 0), (9, .if_icmp .ge 5, 14, 0, 0, 0), (12, .iconst 0, 0, 0, 0, 0), (13, .ireturn, 0, 0, 0, 0), (14, .aload_n 0, 0, 0, 0, 0), (15, .iload_n 1, 0, 0, 0, 0), (16, .iload_n 2, 0, 0, 0, 0), (17, .iload_n 3, 0, 0, 0, 0), (18, .invokestatic 262, 99, 378, 1, 0), (21, .istore 4, 0, 0, 0, 0), (23, .iload 4, 0, 0, 0, 0), (25, .ifCond .le 8, 33, 0, 0, 0), (28, .iload 4, 0, 0, 0, 0), (30, .goto 10, 40, 0, 0, 0), (33, .aload_n 0, 0, 0, 0, 0), (34, .iload_n 1, 0, 0, 0, 0), (35, .iload_n 2, 0, 0, 0, 0), (36, .iload_n 3, 0, 0, 0, 0), (37, .invokestatic 265, 100, 386, 1, 0), (40, .ireturn, 0, 0, 0, 0)]
/-- ParallaxSheets farWithin -/
def m_p_99 : List m_I := [(0, .iconst 0, 0, 0, 0, 0), (1, .istore 4, 0, 0, 0, 0), (3, .iconst 0, 0, 0, 0, 0), (4, .istore 5, 0, 0, 0, 0), (6, .iload 5, 0, 0, 0, 0), (8, .aload_n 0, 0, 0, 0, 0), (9, .getfield 104, 3, 1, 0, 96), (12, .if_icmp .ge 74, 86, 0, 0, 0), (15, .iconst 0, 0, 0, 0, 0), (16, .istore 6, 0, 0, 0, 0), (18, .iload 6, 0, 0, 0, 0), (20, .aload_n 0, 0, 0, 0, 0), (21, .getfield 108, 3, 0, 0, 91), (24, .if_icmp .ge 56, 80, 0, 0, 0), (27, .aload_n 0, 0, 0, 0, 0), (28, .iload 6, 0, 0, 0, 0), (30, .iload 5, 0, 0, 0, 0), (32, .invokevirtual 80, 34, 377, 1, 0), (35, .sipush 128, 0, 0, 0, 0), (38, .if_icmp .ge 36, 74, 0, 0, 0), (41, .iload_n 1, 0, 0, 0, 0), (42, .iload 6, 0, 0, 0, 0), (44, .iload_n 2, 0, 0, 0, 0), (45, .isub, 0, 0, 0, 0), (46, .iload 5, 0, 0, 0, 0), (48, .iload_n 3, 0, 0, 0, 0), (49, .isub, 0, 0, 0, 0), (50, .invokestatic 268, 101, 381, 1, 0), (53, .istore 7, 0, 0, 0, 0), (55, .iload 4, 0, 0, 0, 0), (57, .ifCond .ne 8, 65, 0, 0, 0), (60, .iload 7, 0, 0, 0, 0), (62, .goto 10, 72, 0, 0, 0), (65, .iload 4, 0, 0, 0, 0), (67, .iload 7, 0, 0, 0, 0), (69, .invokestatic 92, 0, 373, 4, 0), (72, .istore 4, 0, 0, 0, 0), (74, .iinc 6 1, 0, 0, 0, 0), (77, .goto (-59), 18, 0, 0, 0), (80, .iinc 5 1, 0, 0, 0, 0), (83, .goto (-77), 6, 0, 0, 0), (86, .iload 4, 0, 0, 0, 0), (88, .ireturn, 0, 0, 0, 0)]
/-- ParallaxSheets farToOutside -/
def m_p_100 : List m_I := [(0, .iload_n 2, 0, 0, 0, 0), (1, .iconst 1, 0, 0, 0, 0), (2, .iadd, 0, 0, 0, 0), (3, .aload_n 0, 0, 0, 0, 0), (4, .getfield 108, 3, 0, 0, 91), (7, .iload_n 2, 0, 0, 0, 0), (8, .isub, 0, 0, 0, 0), (9, .invokestatic 92, 0, 373, 4, 0), (12, .istore 4, 0, 0, 0, 0), (14, .iload_n 3, 0, 0, 0, 0), (15, .iconst 1, 0, 0, 0, 0), (16, .iadd, 0, 0, 0, 0), (17, .aload_n 0, 0, 0, 0, 0), (18, .getfield 104, 3, 1, 0, 96), (21, .iload_n 3, 0, 0, 0, 0), (22, .isub, 0, 0, 0, 0), (23, .invokestatic 92, 0, 373, 4, 0), (26, .istore 5, 0, 0, 0, 0), (28, .iload_n 1, 0, 0, 0, 0), (29, .iload 4, 0, 0, 0, 0), (31, .iload 5, 0, 0, 0, 0), (33, .invokestatic 92, 0, 373, 4, 0), (36, .iconst 0, 0, 0, 0, 0), (37, .invokestatic 268, 101, 381, 1, 0), (40, .ireturn, 0, 0, 0, 0)]
/-- ParallaxSheets distance -/
def m_p_101 : List m_I := [(0, .iload_n 0, 0, 0, 0, 0), (1, .lookupswitch 49 #[(0, 27), (1, 37)], 0, 0, 0, 27), (28, .iload_n 1, 0, 0, 0, 0), (29, .invokestatic 169, 0, 384, 5, 0), (32, .iload_n 2, 0, 0, 0, 0), (33, .invokestatic 169, 0, 384, 5, 0), (36, .iadd, 0, 0, 0, 0), (37, .ireturn, 0, 0, 0, 0), (38, .iload_n 1, 0, 0, 0, 0), (39, .invokestatic 169, 0, 384, 5, 0), (42, .iload_n 2, 0, 0, 0, 0), (43, .invokestatic 169, 0, 384, 5, 0), (46, .invokestatic 97, 0, 385, 3, 0), (49, .ireturn, 0, 0, 0, 0), (50, .iload_n 1, 0, 0, 0, 0), (51, .iload_n 1, 0, 0, 0, 0), (52, .imul, 0, 0, 0, 0), (53, .iload_n 2, 0, 0, 0, 0), (54, .iload_n 2, 0, 0, 0, 0), (55, .imul, 0, 0, 0, 0), (56, .iadd, 0, 0, 0, 0), (57, .ireturn, 0, 0, 0, 0)]
/-- ParallaxSheets costOfCarving -/
def m_p_102 : List m_I := [(0, .aload_n 0, 0, 0, 0, 0), (1, .getfield 16, 5, 1, 0, 210), (4, .aload_n 1, 0, 0, 0, 0), (5, .invokevirtual 88, 39, 349, 1, 0), (8, .iconst 0, 0, 0, 0, 0), (9, .istore_n 3, 0, 0, 0, 0), (10, .iconst 0, 0, 0, 0, 0), (11, .istore 4, 0, 0, 0, 0), (13, .iload 4, 0, 0, 0, 0), (15, .iload_n 2, 0, 0, 0, 0), (16, .if_icmp .ge 41, 57, 0, 0, 0), (19, .aload_n 0, 0, 0, 0, 0), (20, .getfield 44, 5, 5, 0, 214), (23, .aload_n 0, 0, 0, 0, 0), (24, .getfield 16, 5, 1, 0, 210), (27, .invokevirtual 203, 25, 315, 1, 0), (30, .aload_n 0, 0, 0, 0, 0), (31, .getfield 44, 5, 5, 0, 214), (34, .aload_n 0, 0, 0, 0, 0), (35, .getfield 16, 5, 1, 0, 210), (38, .invokevirtual 205, 29, 360, 1, 0), (41, .iload_n 3, 0, 0, 0, 0), (42, .aload_n 0, 0, 0, 0, 0), (43, .getfield 44, 5, 5, 0, 214), (46, .getfield 208, 2, 0, 0, 195), (49, .iadd, 0, 0, 0, 0), (50, .istore_n 3, 0, 0, 0, 0), (51, .iinc 4 1, 0, 0, 0, 0), (54, .goto (-41), 13, 0, 0, 0), (57, .iload_n 3, 0, 0, 0, 0), (58, .ireturn, 0, 0, 0, 0)]
/-- ParallaxSheets digestWith -/
def m_p_103 : List m_I := [(0, .lload_n 0, 0, 0, 0, 0), (1, .ldc2_w 271, 0, 274, 0, 31), (4, .lmul, 0, 0, 0, 0), (5, .iload_n 2, 0, 0, 0, 0), (6, .i2l, 0, 0, 0, 0), (7, .ladd, 0, 0, 0, 0), (8, .lreturn, 0, 0, 0, 0)]
/-- ParallaxSheets digestFacts -/
def m_p_104 : List m_I := [(0, .lload_n 1, 0, 0, 0, 0), (1, .lstore 4, 0, 0, 0, 0), (3, .iconst 0, 0, 0, 0, 0), (4, .istore 6, 0, 0, 0, 0), (6, .iload 6, 0, 0, 0, 0), (8, .iconst 5, 0, 0, 0, 0), (9, .if_icmp .gt 23, 32, 0, 0, 0), (12, .lload 4, 0, 0, 0, 0), (14, .aload_n 0, 0, 0, 0, 0), (15, .aload_n 3, 0, 0, 0, 0), (16, .iload 6, 0, 0, 0, 0), (18, .invokevirtual 162, 95, 237, 1, 0), (21, .invokestatic 273, 103, 271, 1, 0), (24, .lstore 4, 0, 0, 0, 0), (26, .iinc 6 1, 0, 0, 0, 0), (29, .goto (-23), 6, 0, 0, 0), (32, .lload 4, 0, 0, 0, 0), (34, .aload_n 0, 0, 0, 0, 0), (35, .aload_n 3, 0, 0, 0, 0), (36, .iconst 4, 0, 0, 0, 0), (37, .sipush 128, 0, 0, 0, 0), (40, .invokevirtual 175, 96, 275, 1, 0), (43, .invokestatic 273, 103, 271, 1, 0), (46, .lstore 4, 0, 0, 0, 0), (48, .lload 4, 0, 0, 0, 0), (50, .aload_n 0, 0, 0, 0, 0), (51, .aload_n 3, 0, 0, 0, 0), (52, .iconst 4, 0, 0, 0, 0), (53, .invokevirtual 179, 97, 303, 1, 0), (56, .invokestatic 273, 103, 271, 1, 0), (59, .lstore 4, 0, 0, 0, 0), (61, .lload 4, 0, 0, 0, 0), (63, .aload_n 0, 0, 0, 0, 0), (64, .aload_n 3, 0, 0, 0, 0), (65, .bipush 8, 0, 0, 0, 0), (67, .sipush 128, 0, 0, 0, 0), (70, .invokevirtual 175, 96, 275, 1, 0), (73, .invokestatic 273, 103, 271, 1, 0), (76, .lstore 4, 0, 0, 0, 0), (78, .lload 4, 0, 0, 0, 0), (80, .aload_n 0, 0, 0, 0, 0), (81, .aload_n 3, 0, 0, 0, 0), (82, .bipush 8, 0, 0, 0, 0), (84, .invokevirtual 179, 97, 303, 1, 0), (87, .invokestatic 273, 103, 271, 1, 0), (90, .lreturn, 0, 0, 0, 0)]
/-- ParallaxSheets digestSeams -/
def m_p_105 : List m_I := [(0, .lload_n 1, 0, 0, 0, 0), (1, .lstore 4, 0, 0, 0, 0), (3, .aload_n 0, 0, 0, 0, 0), (4, .getfield 44, 5, 5, 0, 214), (7, .aload_n 3, 0, 0, 0, 0), (8, .invokevirtual 203, 25, 315, 1, 0), (11, .iconst 0, 0, 0, 0, 0), (12, .istore 6, 0, 0, 0, 0), (14, .iload 6, 0, 0, 0, 0), (16, .aload_n 3, 0, 0, 0, 0), (17, .getfield 104, 3, 1, 0, 96), (20, .if_icmp .ge 26, 46, 0, 0, 0), (23, .lload 4, 0, 0, 0, 0), (25, .aload_n 0, 0, 0, 0, 0), (26, .getfield 44, 5, 5, 0, 214), (29, .getfield 213, 2, 1, 0, 197), (32, .iload 6, 0, 0, 0, 0), (34, .iaload, 0, 0, 0, 0), (35, .invokestatic 273, 103, 271, 1, 0), (38, .lstore 4, 0, 0, 0, 0), (40, .iinc 6 1, 0, 0, 0, 0), (43, .goto (-29), 14, 0, 0, 0), (46, .aload_n 3, 0, 0, 0, 0), (47, .getfield 108, 3, 0, 0, 91), (50, .iconst 1, 0, 0, 0, 0), (51, .if_icmp .le 16, 67, 0, 0, 0), (54, .lload 4, 0, 0, 0, 0), (56, .aload_n 0, 0, 0, 0, 0), (57, .aload_n 3, 0, 0, 0, 0), (58, .iconst 1, 0, 0, 0, 0), (59, .invokevirtual 216, 102, 345, 1, 0), (62, .invokestatic 273, 103, 271, 1, 0), (65, .lstore 4, 0, 0, 0, 0), (67, .lload 4, 0, 0, 0, 0), (69, .lreturn, 0, 0, 0, 0)]
/-- ParallaxSheets digestFields -/
def m_p_106 : List m_I := [(0, .lload_n 0, 0, 0, 0, 0), (1, .lstore_n 3, 0, 0, 0, 0), (2, .iconst 0, 0, 0, 0, 0), (3, .istore 5, 0, 0, 0, 0), (5, .iload 5, 0, 0, 0, 0), (7, .aload_n 2, 0, 0, 0, 0), (8, .getfield 108, 3, 0, 0, 91), (11, .aload_n 2, 0, 0, 0, 0), (12, .getfield 104, 3, 1, 0, 96), (15, .invokestatic 92, 0, 373, 4, 0), (18, .if_icmp .ge 23, 41, 0, 0, 0), (21, .lload_n 3, 0, 0, 0, 0), (22, .aload_n 2, 0, 0, 0, 0), (23, .iconst 2, 0, 0, 0, 0), (24, .iload 5, 0, 0, 0, 0), (26, .iload 5, 0, 0, 0, 0), (28, .invokestatic 200, 98, 374, 1, 0), (31, .invokestatic 273, 103, 271, 1, 0), (34, .lstore_n 3, 0, 0, 0, 0), (35, .iinc 5 1, 0, 0, 0, 0), (38, .goto (-33), 5, 0, 0, 0), (41, .iconst 0, 0, 0, 0, 0), (42, .istore 5, 0, 0, 0, 0), (44, .iload 5, 0, 0, 0, 0), (46, .aload_n 2, 0, 0, 0, 0), (47, .invokevirtual 68, 32, 389, 1, 0), (50, .if_icmp .ge 21, 71, 0, 0, 0), (53, .lload_n 3, 0, 0, 0, 0), (54, .aload_n 2, 0, 0, 0, 0), (55, .getfield 72, 3, 2, 0, 99), (58, .iload 5, 0, 0, 0, 0), (60, .iaload, 0, 0, 0, 0), (61, .invokestatic 273, 103, 271, 1, 0), (64, .lstore_n 3, 0, 0, 0, 0), (65, .iinc 5 1, 0, 0, 0, 0), (68, .goto (-24), 44, 0, 0, 0), (71, .lload_n 3, 0, 0, 0, 0), (72, .lreturn, 0, 0, 0, 0)]
/-- ParallaxSheetsModel.Sheet init -/
def m_p_107 : List m_I := [(0, .aload_n 0, 0, 0, 0, 0), (1, .invokespecial 3, 0, 861, 7, 0), (4, .aload_n 0, 0, 0, 0, 0), (5, .iload_n 1, 0, 0, 0, 0), (6, .putfield 9, 6, 0, 0, 862), (9, .aload_n 0, 0, 0, 0, 0), (10, .iload_n 2, 0, 0, 0, 0), (11, .putfield 15, 6, 1, 0, 864), (14, .aload_n 0, 0, 0, 0, 0), (15, .aload_n 3, 0, 0, 0, 0), (16, .putfield 18, 6, 2, 0, 866), (19, .return_, 0, 0, 0, 0)]
/-- ParallaxSheetsModel.Sheet of -/
def m_p_108 : List m_I := [(0, .iload_n 0, 0, 0, 0, 0), (1, .iload_n 1, 0, 0, 0, 0), (2, .imul, 0, 0, 0, 0), (3, .newarray .int, 0, 108, 0, 0), (5, .astore_n 3, 0, 0, 0, 0), (6, .iconst 0, 0, 0, 0, 0), (7, .istore 4, 0, 0, 0, 0), (9, .iload 4, 0, 0, 0, 0), (11, .aload_n 3, 0, 0, 0, 0), (12, .arraylength, 0, 0, 0, 0), (13, .if_icmp .ge 14, 27, 0, 0, 0), (16, .aload_n 3, 0, 0, 0, 0), (17, .iload 4, 0, 0, 0, 0), (19, .iload_n 2, 0, 0, 0, 0), (20, .iastore, 0, 0, 0, 0), (21, .iinc 4 1, 0, 0, 0, 0), (24, .goto (-15), 9, 0, 0, 0), (27, .new 10, 6, 856, 0, 0), (30, .dup, 0, 0, 0, 0), (31, .iload_n 0, 0, 0, 0, 0), (32, .iload_n 1, 0, 0, 0, 0), (33, .aload_n 3, 0, 0, 0, 0), (34, .invokespecial 22, 107, 858, 1, 0), (37, .areturn, 0, 0, 0, 0)]
/-- ParallaxSheetsModel.Sheet with -/
def m_p_109 : List m_I := [(0, .new 10, 6, 856, 0, 0), (3, .dup, 0, 0, 0, 0), (4, .aload_n 0, 0, 0, 0, 0), (5, .getfield 9, 6, 0, 0, 862), (8, .aload_n 0, 0, 0, 0, 0), (9, .getfield 15, 6, 1, 0, 864), (12, .aload_n 1, 0, 0, 0, 0), (13, .invokespecial 22, 107, 858, 1, 0), (16, .areturn, 0, 0, 0, 0)]
/-- ParallaxSheetsModel.Sheet size -/
def m_p_110 : List m_I := [(0, .aload_n 0, 0, 0, 0, 0), (1, .getfield 18, 6, 2, 0, 866), (4, .arraylength, 0, 0, 0, 0), (5, .ireturn, 0, 0, 0, 0)]
/-- ParallaxSheetsModel.Sheet isIn -/
def m_p_111 : List m_I := [(0, .iload_n 1, 0, 0, 0, 0), (1, .ifCond .lt 27, 28, 0, 0, 0), (4, .iload_n 2, 0, 0, 0, 0), (5, .ifCond .lt 23, 28, 0, 0, 0), (8, .iload_n 1, 0, 0, 0, 0), (9, .aload_n 0, 0, 0, 0, 0), (10, .getfield 9, 6, 0, 0, 862), (13, .if_icmp .ge 15, 28, 0, 0, 0), (16, .iload_n 2, 0, 0, 0, 0), (17, .aload_n 0, 0, 0, 0, 0), (18, .getfield 15, 6, 1, 0, 864), (21, .if_icmp .ge 7, 28, 0, 0, 0), (24, .iconst 1, 0, 0, 0, 0), (25, .goto 4, 29, 0, 0, 0), (28, .iconst 0, 0, 0, 0, 0), (29, .ireturn, 0, 0, 0, 0)]
/-- ParallaxSheetsModel.Sheet at -/
def m_p_112 : List m_I := [(0, .aload_n 0, 0, 0, 0, 0), (1, .getfield 18, 6, 2, 0, 866), (4, .iconst 0, 0, 0, 0, 0), (5, .aload_n 0, 0, 0, 0, 0), (6, .getfield 15, 6, 1, 0, 864), (9, .iconst 1, 0, 0, 0, 0), (10, .isub, 0, 0, 0, 0), (11, .iload_n 2, 0, 0, 0, 0), (12, .invokestatic 25, 0, 936, 4, 0), (15, .invokestatic 31, 0, 937, 3, 0), (18, .aload_n 0, 0, 0, 0, 0), (19, .getfield 9, 6, 0, 0, 862), (22, .imul, 0, 0, 0, 0), (23, .iconst 0, 0, 0, 0, 0), (24, .aload_n 0, 0, 0, 0, 0), (25, .getfield 9, 6, 0, 0, 862), (28, .iconst 1, 0, 0, 0, 0), (29, .isub, 0, 0, 0, 0), (30, .iload_n 1, 0, 0, 0, 0), (31, .invokestatic 25, 0, 936, 4, 0), (34, .invokestatic 31, 0, 937, 3, 0), (37, .iadd, 0, 0, 0, 0), (38, .iaload, 0, 0, 0, 0), (39, .ireturn, 0, 0, 0, 0)]
/-- ParallaxSheetsModel.Sheet others -/
def m_p_113 : List m_I := [(0, .iconst 0, 0, 0, 0, 0), (1, .istore_n 2, 0, 0, 0, 0), (2, .iconst 0, 0, 0, 0, 0), (3, .istore_n 3, 0, 0, 0, 0), (4, .iload_n 3, 0, 0, 0, 0), (5, .aload_n 0, 0, 0, 0, 0), (6, .invokevirtual 34, 110, 957, 1, 0), (9, .if_icmp .ge 32, 41, 0, 0, 0), (12, .iload_n 2, 0, 0, 0, 0), (13, .aload_n 0, 0, 0, 0, 0), (14, .getfield 18, 6, 2, 0, 866), (17, .iload_n 3, 0, 0, 0, 0), (18, .iaload, 0, 0, 0, 0), (19, .aload_n 1, 0, 0, 0, 0), (20, .getfield 18, 6, 2, 0, 866), (23, .iload_n 3, 0, 0, 0, 0), (24, .iaload, 0, 0, 0, 0), (25, .if_icmp .eq 7, 32, 0, 0, 0), (28, .iconst 1, 0, 0, 0, 0), (29, .goto 4, 33, 0, 0, 0), (32, .iconst 0, 0, 0, 0, 0), (33, .iadd, 0, 0, 0, 0), (34, .istore_n 2, 0, 0, 0, 0), (35, .iinc 3 1, 0, 0, 0, 0), (38, .goto (-34), 4, 0, 0, 0), (41, .iload_n 2, 0, 0, 0, 0), (42, .ireturn, 0, 0, 0, 0)]
/-- ParallaxSheetsModel.Sheet isLike -/
def m_p_114 : List m_I := [(0, .aload_n 0, 0, 0, 0, 0), (1, .getfield 9, 6, 0, 0, 862), (4, .aload_n 1, 0, 0, 0, 0), (5, .getfield 9, 6, 0, 0, 862), (8, .if_icmp .ne 18, 26, 0, 0, 0), (11, .aload_n 0, 0, 0, 0, 0), (12, .getfield 15, 6, 1, 0, 864), (15, .aload_n 1, 0, 0, 0, 0), (16, .getfield 15, 6, 1, 0, 864), (19, .if_icmp .ne 7, 26, 0, 0, 0), (22, .iconst 1, 0, 0, 0, 0), (23, .goto 4, 27, 0, 0, 0), (26, .iconst 0, 0, 0, 0, 0), (27, .ireturn, 0, 0, 0, 0)]
/-- ParallaxSheetsModel.Sheet inOrder -/
def m_p_115 : List m_I := [(0, .aload_n 0, 0, 0, 0, 0), (1, .getfield 18, 6, 2, 0, 866), (4, .invokestatic 38, 116, 1038, 1, 0), (7, .areturn, 0, 0, 0, 0)]
/-- ParallaxSheetsModel.Sheet sorted -/
def m_p_116 : List m_I := [(0, .aload_n 0, 0, 0, 0, 0), (1, .invokevirtual 42, 0, 1041, 10, 0), (4, .checkcast 43, 0, 1042, 0, 0), (7, .astore_n 1, 0, 0, 0, 0), (8, .iconst 1, 0, 0, 0, 0), (9, .istore_n 2, 0, 0, 0, 0), (10, .iload_n 2, 0, 0, 0, 0), (11, .aload_n 1, 0, 0, 0, 0), (12, .arraylength, 0, 0, 0, 0), (13, .if_icmp .ge 52, 65, 0, 0, 0), (16, .aload_n 1, 0, 0, 0, 0), (17, .iload_n 2, 0, 0, 0, 0), (18, .iaload, 0, 0, 0, 0), (19, .istore_n 3, 0, 0, 0, 0), (20, .iload_n 2, 0, 0, 0, 0), (21, .istore 4, 0, 0, 0, 0), (23, .iload 4, 0, 0, 0, 0), (25, .ifCond .le 29, 54, 0, 0, 0), (28, .aload_n 1, 0, 0, 0, 0), (29, .iload 4, 0, 0, 0, 0), (31, .iconst 1, 0, 0, 0, 0), (32, .isub, 0, 0, 0, 0), (33, .iaload, 0, 0, 0, 0), (34, .iload_n 3, 0, 0, 0, 0), (35, .if_icmp .le 19, 54, 0, 0, 0), (38, .aload_n 1, 0, 0, 0, 0), (39, .iload 4, 0, 0, 0, 0), (41, .aload_n 1, 0, 0, 0, 0), (42, .iload 4, 0, 0, 0, 0), (44, .iconst 1, 0, 0, 0, 0), (45, .isub, 0, 0, 0, 0), (46, .iaload, 0, 0, 0, 0), (47, .iastore, 0, 0, 0, 0), (48, .iinc 4 (-1), 0, 0, 0, 0), (51, .goto (-28), 23, 0, 0, 0), (54, .aload_n 1, 0, 0, 0, 0), (55, .iload 4, 0, 0, 0, 0), (57, .iload_n 3, 0, 0, 0, 0), (58, .iastore, 0, 0, 0, 0), (59, .iinc 2 1, 0, 0, 0, 0), (62, .goto (-52), 10, 0, 0, 0), (65, .aload_n 1, 0, 0, 0, 0), (66, .areturn, 0, 0, 0, 0)]
/-- ParallaxSheetsModel.Sheet sum -/
def m_p_117 : List m_I := [(0, .iconst 0, 0, 0, 0, 0), (1, .istore_n 1, 0, 0, 0, 0), (2, .aload_n 0, 0, 0, 0, 0), (3, .getfield 18, 6, 2, 0, 866), (6, .astore_n 2, 0, 0, 0, 0), (7, .aload_n 2, 0, 0, 0, 0), (8, .arraylength, 0, 0, 0, 0), (9, .istore_n 3, 0, 0, 0, 0), (10, .iconst 0, 0, 0, 0, 0), (11, .istore 4, 0, 0, 0, 0), (13, .iload 4, 0, 0, 0, 0), (15, .iload_n 3, 0, 0, 0, 0), (16, .if_icmp .ge 20, 36, 0, 0, 0), (19, .aload_n 2, 0, 0, 0, 0), (20, .iload 4, 0, 0, 0, 0), (22, .iaload, 0, 0, 0, 0), (23, .istore 5, 0, 0, 0, 0), (25, .iload_n 1, 0, 0, 0, 0), (26, .iload 5, 0, 0, 0, 0), (28, .iadd, 0, 0, 0, 0), (29, .istore_n 1, 0, 0, 0, 0), (30, .iinc 4 1, 0, 0, 0, 0), (33, .goto (-20), 13, 0, 0, 0), (36, .iload_n 1, 0, 0, 0, 0), (37, .ireturn, 0, 0, 0, 0)]
/-- ParallaxSheetsModel.Sheet count -/
def m_p_118 : List m_I := [(0, .iconst 0, 0, 0, 0, 0), (1, .istore_n 3, 0, 0, 0, 0), (2, .aload_n 0, 0, 0, 0, 0), (3, .getfield 18, 6, 2, 0, 866), (6, .astore 4, 0, 0, 0, 0), (8, .aload 4, 0, 0, 0, 0), (10, .arraylength, 0, 0, 0, 0), (11, .istore 5, 0, 0, 0, 0), (13, .iconst 0, 0, 0, 0, 0), (14, .istore 6, 0, 0, 0, 0), (16, .iload 6, 0, 0, 0, 0), (18, .iload 5, 0, 0, 0, 0), (20, .if_icmp .ge 36, 56, 0, 0, 0), (23, .aload 4, 0, 0, 0, 0), (25, .iload 6, 0, 0, 0, 0), (27, .iaload, 0, 0, 0, 0), (28, .istore 7, 0, 0, 0, 0), (30, .iload_n 3, 0, 0, 0, 0), (31, .iload 7, 0, 0, 0, 0), (33, .iload_n 1, 0, 0, 0, 0), (34, .if_icmp .lt 13, 47, 0, 0, 0), (37, .iload 7, 0, 0, 0, 0), (39, .iload_n 2, 0, 0, 0, 0), (40, .if_icmp .gt 7, 47, 0, 0, 0), (43, .iconst 1, 0, 0, 0, 0), (44, .goto 4, 48, 0, 0, 0), (47, .iconst 0, 0, 0, 0, 0), (48, .iadd, 0, 0, 0, 0), (49, .istore_n 3, 0, 0, 0, 0), (50, .iinc 6 1, 0, 0, 0, 0), (53, .goto (-37), 16, 0, 0, 0), (56, .iload_n 3, 0, 0, 0, 0), (57, .ireturn, 0, 0, 0, 0)]
/-- ParallaxSheetsModel.Sheet nine -/
def m_p_119 : List m_I := [(0, .bipush 9, 0, 0, 0, 0), (2, .newarray .int, 0, 108, 0, 0), (4, .astore_n 2, 0, 0, 0, 0), (5, .iconst 0, 0, 0, 0, 0), (6, .istore_n 3, 0, 0, 0, 0), (7, .iload_n 3, 0, 0, 0, 0), (8, .bipush 9, 0, 0, 0, 0), (10, .if_icmp .ge 40, 50, 0, 0, 0), (13, .aload_n 2, 0, 0, 0, 0), (14, .iload_n 3, 0, 0, 0, 0), (15, .aload_n 0, 0, 0, 0, 0), (16, .iload_n 1, 0, 0, 0, 0), (17, .aload_n 0, 0, 0, 0, 0), (18, .getfield 9, 6, 0, 0, 862), (21, .irem, 0, 0, 0, 0), (22, .iload_n 3, 0, 0, 0, 0), (23, .iconst 3, 0, 0, 0, 0), (24, .irem, 0, 0, 0, 0), (25, .iadd, 0, 0, 0, 0), (26, .iconst 1, 0, 0, 0, 0), (27, .isub, 0, 0, 0, 0), (28, .iload_n 1, 0, 0, 0, 0), (29, .aload_n 0, 0, 0, 0, 0), (30, .getfield 9, 6, 0, 0, 862), (33, .idiv, 0, 0, 0, 0), (34, .iload_n 3, 0, 0, 0, 0), (35, .iconst 3, 0, 0, 0, 0), (36, .idiv, 0, 0, 0, 0), (37, .iadd, 0, 0, 0, 0), (38, .iconst 1, 0, 0, 0, 0), (39, .isub, 0, 0, 0, 0), (40, .invokevirtual 47, 112, 1031, 1, 0), (43, .iastore, 0, 0, 0, 0), (44, .iinc 3 1, 0, 0, 0, 0), (47, .goto (-40), 7, 0, 0, 0), (50, .aload_n 2, 0, 0, 0, 0), (51, .areturn, 0, 0, 0, 0)]
/-- ParallaxSheetsModel.Sheet weighed -/
def m_p_120 : List m_I := [(0, .aload_n 0, 0, 0, 0, 0), (1, .invokevirtual 34, 110, 957, 1, 0), (4, .newarray .int, 0, 108, 0, 0), (6, .astore 4, 0, 0, 0, 0), (8, .iconst 0, 0, 0, 0, 0), (9, .istore 5, 0, 0, 0, 0), (11, .iload 5, 0, 0, 0, 0), (13, .aload 4, 0, 0, 0, 0), (15, .arraylength, 0, 0, 0, 0), (16, .if_icmp .ge 65, 81, 0, 0, 0), (19, .aload_n 0, 0, 0, 0, 0), (20, .iload 5, 0, 0, 0, 0), (22, .invokevirtual 50, 119, 1027, 1, 0), (25, .astore 6, 0, 0, 0, 0), (27, .iconst 0, 0, 0, 0, 0), (28, .istore 7, 0, 0, 0, 0), (30, .iconst 0, 0, 0, 0, 0), (31, .istore 8, 0, 0, 0, 0), (33, .iload 8, 0, 0, 0, 0), (35, .bipush 9, 0, 0, 0, 0), (37, .if_icmp .ge 24, 61, 0, 0, 0), (40, .iload 7, 0, 0, 0, 0), (42, .aload_n 1, 0, 0, 0, 0), (43, .iload 8, 0, 0, 0, 0), (45, .iaload, 0, 0, 0, 0), (46, .aload 6, 0, 0, 0, 0), (48, .iload 8, 0, 0, 0, 0), (50, .iaload, 0, 0, 0, 0), (51, .imul, 0, 0, 0, 0), (52, .iadd, 0, 0, 0, 0), (53, .istore 7, 0, 0, 0, 0), (55, .iinc 8 1, 0, 0, 0, 0), (58, .goto (-25), 33, 0, 0, 0), (61, .aload 4, 0, 0, 0, 0), (63, .iload 5, 0, 0, 0, 0), (65, .iload 7, 0, 0, 0, 0), (67, .iload_n 2, 0, 0, 0, 0), (68, .idiv, 0, 0, 0, 0), (69, .iload_n 3, 0, 0, 0, 0), (70, .iadd, 0, 0, 0, 0), (71, .invokestatic 54, 142, 1032, 2, 0), (74, .iastore, 0, 0, 0, 0), (75, .iinc 5 1, 0, 0, 0, 0), (78, .goto (-67), 11, 0, 0, 0), (81, .aload_n 0, 0, 0, 0, 0), (82, .aload 4, 0, 0, 0, 0), (84, .invokevirtual 58, 109, 1033, 1, 0), (87, .areturn, 0, 0, 0, 0)]
/-- ParallaxSheetsModel.Sheet median -/
def m_p_121 : List m_I := [(0, .aload_n 0, 0, 0, 0, 0), (1, .invokevirtual 34, 110, 957, 1, 0), (4, .newarray .int, 0, 108, 0, 0), (6, .astore_n 1, 0, 0, 0, 0), (7, .iconst 0, 0, 0, 0, 0), (8, .istore_n 2, 0, 0, 0, 0), (9, .iload_n 2, 0, 0, 0, 0), (10, .aload_n 1, 0, 0, 0, 0), (11, .arraylength, 0, 0, 0, 0), (12, .if_icmp .ge 22, 34, 0, 0, 0), (15, .aload_n 1, 0, 0, 0, 0), (16, .iload_n 2, 0, 0, 0, 0), (17, .aload_n 0, 0, 0, 0, 0), (18, .iload_n 2, 0, 0, 0, 0), (19, .invokevirtual 50, 119, 1027, 1, 0), (22, .invokestatic 38, 116, 1038, 1, 0), (25, .iconst 4, 0, 0, 0, 0), (26, .iaload, 0, 0, 0, 0), (27, .iastore, 0, 0, 0, 0), (28, .iinc 2 1, 0, 0, 0, 0), (31, .goto (-22), 9, 0, 0, 0), (34, .aload_n 0, 0, 0, 0, 0), (35, .aload_n 1, 0, 0, 0, 0), (36, .invokevirtual 58, 109, 1033, 1, 0), (39, .areturn, 0, 0, 0, 0)]
/-- ParallaxSheetsModel.Sheet edges -/
def m_p_122 : List m_I := [(0, .aload_n 0, 0, 0, 0, 0), (1, .invokevirtual 34, 110, 957, 1, 0), (4, .newarray .int, 0, 108, 0, 0), (6, .astore_n 1, 0, 0, 0, 0), (7, .iconst 0, 0, 0, 0, 0), (8, .istore_n 2, 0, 0, 0, 0), (9, .iload_n 2, 0, 0, 0, 0), (10, .aload_n 1, 0, 0, 0, 0), (11, .arraylength, 0, 0, 0, 0), (12, .if_icmp .ge 89, 101, 0, 0, 0), (15, .aload_n 0, 0, 0, 0, 0), (16, .iload_n 2, 0, 0, 0, 0), (17, .invokevirtual 50, 119, 1027, 1, 0), (20, .astore_n 3, 0, 0, 0, 0), (21, .aload_n 1, 0, 0, 0, 0), (22, .iload_n 2, 0, 0, 0, 0), (23, .aload_n 3, 0, 0, 0, 0), (24, .iconst 2, 0, 0, 0, 0), (25, .iaload, 0, 0, 0, 0), (26, .iconst 2, 0, 0, 0, 0), (27, .aload_n 3, 0, 0, 0, 0), (28, .iconst 5, 0, 0, 0, 0), (29, .iaload, 0, 0, 0, 0), (30, .imul, 0, 0, 0, 0), (31, .iadd, 0, 0, 0, 0), (32, .aload_n 3, 0, 0, 0, 0), (33, .bipush 8, 0, 0, 0, 0), (35, .iaload, 0, 0, 0, 0), (36, .iadd, 0, 0, 0, 0), (37, .aload_n 3, 0, 0, 0, 0), (38, .iconst 0, 0, 0, 0, 0), (39, .iaload, 0, 0, 0, 0), (40, .isub, 0, 0, 0, 0), (41, .iconst 2, 0, 0, 0, 0), (42, .aload_n 3, 0, 0, 0, 0), (43, .iconst 3, 0, 0, 0, 0), (44, .iaload, 0, 0, 0, 0), (45, .imul, 0, 0, 0, 0), (46, .isub, 0, 0, 0, 0), (47, .aload_n 3, 0, 0, 0, 0), (48, .bipush 6, 0, 0, 0, 0), (50, .iaload, 0, 0, 0, 0), (51, .isub, 0, 0, 0, 0), (52, .invokestatic 62, 0, 974, 5, 0), (55, .aload_n 3, 0, 0, 0, 0), (56, .bipush 6, 0, 0, 0, 0), (58, .iaload, 0, 0, 0, 0), (59, .iconst 2, 0, 0, 0, 0), (60, .aload_n 3, 0, 0, 0, 0), (61, .bipush 7, 0, 0, 0, 0), (63, .iaload, 0, 0, 0, 0), (64, .imul, 0, 0, 0, 0), (65, .iadd, 0, 0, 0, 0), (66, .aload_n 3, 0, 0, 0, 0), (67, .bipush 8, 0, 0, 0, 0), (69, .iaload, 0, 0, 0, 0), (70, .iadd, 0, 0, 0, 0), (71, .aload_n 3, 0, 0, 0, 0), (72, .iconst 0, 0, 0, 0, 0), (73, .iaload, 0, 0, 0, 0), (74, .isub, 0, 0, 0, 0), (75, .iconst 2, 0, 0, 0, 0), (76, .aload_n 3, 0, 0, 0, 0), (77, .iconst 1, 0, 0, 0, 0), (78, .iaload, 0, 0, 0, 0), (79, .imul, 0, 0, 0, 0), (80, .isub, 0, 0, 0, 0), (81, .aload_n 3, 0, 0, 0, 0), (82, .iconst 2, 0, 0, 0, 0), (83, .iaload, 0, 0, 0, 0), (84, .isub, 0, 0, 0, 0), (85, .invokestatic 62, 0, 974, 5, 0), (88, .iadd, 0, 0, 0, 0), (89, .iconst 4, 0, 0, 0, 0), (90, .idiv, 0, 0, 0, 0), (91, .invokestatic 54, 142, 1032, 2, 0), (94, .iastore, 0, 0, 0, 0), (95, .iinc 2 1, 0, 0, 0, 0), (98, .goto (-89), 9, 0, 0, 0), (101, .aload_n 0, 0, 0, 0, 0), (102, .aload_n 1, 0, 0, 0, 0), (103, .invokevirtual 58, 109, 1033, 1, 0), (106, .areturn, 0, 0, 0, 0)]
/-- ParallaxSheetsModel.Sheet extreme -/
def m_p_123 : List m_I := [(0, .aload_n 0, 0, 0, 0, 0), (1, .invokevirtual 34, 110, 957, 1, 0), (4, .newarray .int, 0, 108, 0, 0), (6, .astore_n 3, 0, 0, 0, 0), (7, .iconst 0, 0, 0, 0, 0), (8, .istore 4, 0, 0, 0, 0), (10, .iload 4, 0, 0, 0, 0), (12, .aload_n 3, 0, 0, 0, 0), (13, .arraylength, 0, 0, 0, 0), (14, .if_icmp .ge 89, 103, 0, 0, 0), (17, .aload_n 0, 0, 0, 0, 0), (18, .iload 4, 0, 0, 0, 0), (20, .invokevirtual 50, 119, 1027, 1, 0), (23, .astore 5, 0, 0, 0, 0), (25, .aload 5, 0, 0, 0, 0), (27, .iconst 4, 0, 0, 0, 0), (28, .iaload, 0, 0, 0, 0), (29, .istore 6, 0, 0, 0, 0), (31, .aload_n 1, 0, 0, 0, 0), (32, .astore 7, 0, 0, 0, 0), (34, .aload 7, 0, 0, 0, 0), (36, .arraylength, 0, 0, 0, 0), (37, .istore 8, 0, 0, 0, 0), (39, .iconst 0, 0, 0, 0, 0), (40, .istore 9, 0, 0, 0, 0), (42, .iload 9, 0, 0, 0, 0), (44, .iload 8, 0, 0, 0, 0), (46, .if_icmp .ge 45, 91, 0, 0, 0), (49, .aload 7, 0, 0, 0, 0), (51, .iload 9, 0, 0, 0, 0), (53, .iaload, 0, 0, 0, 0), (54, .istore 10, 0, 0, 0, 0), (56, .iload_n 2, 0, 0, 0, 0), (57, .ifCond .eq 16, 73, 0, 0, 0), (60, .iload 6, 0, 0, 0, 0), (62, .aload 5, 0, 0, 0, 0), (64, .iload 10, 0, 0, 0, 0), (66, .iaload, 0, 0, 0, 0), (67, .invokestatic 25, 0, 936, 4, 0), (70, .goto 13, 83, 0, 0, 0), (73, .iload 6, 0, 0, 0, 0), (75, .aload 5, 0, 0, 0, 0), (77, .iload 10, 0, 0, 0, 0), (79, .iaload, 0, 0, 0, 0), (80, .invokestatic 31, 0, 937, 3, 0), (83, .istore 6, 0, 0, 0, 0), (85, .iinc 9 1, 0, 0, 0, 0), (88, .goto (-46), 42, 0, 0, 0), (91, .aload_n 3, 0, 0, 0, 0), (92, .iload 4, 0, 0, 0, 0), (94, .iload 6, 0, 0, 0, 0), (96, .iastore, 0, 0, 0, 0), (97, .iinc 4 1, 0, 0, 0, 0), (100, .goto (-90), 10, 0, 0, 0), (103, .aload_n 0, 0, 0, 0, 0), (104, .aload_n 3, 0, 0, 0, 0), (105, .invokevirtual 58, 109, 1033, 1, 0), (108, .areturn, 0, 0, 0, 0)]
/-- ParallaxSheetsModel.Sheet cut -/
def m_p_124 : List m_I := [(0, .ldc2_w 65, 0, 1082, 0, (-1)), (3, .lstore_n 1, 0, 0, 0, 0), (4, .iconst 0, 0, 0, 0, 0), (5, .istore_n 3, 0, 0, 0, 0), (6, .iconst 1, 0, 0, 0, 0), (7, .istore 4, 0, 0, 0, 0), (9, .iload 4, 0, 0, 0, 0), (11, .sipush 255, 0, 0, 0, 0), (14, .if_icmp .gt 157, 171, 0, 0, 0), (17, .lconst 0, 0, 0, 0, 0), (18, .lstore 5, 0, 0, 0, 0), (20, .lconst 0, 0, 0, 0, 0), (21, .lstore 7, 0, 0, 0, 0), (23, .aload_n 0, 0, 0, 0, 0), (24, .getfield 18, 6, 2, 0, 866), (27, .astore 9, 0, 0, 0, 0), (29, .aload 9, 0, 0, 0, 0), (31, .arraylength, 0, 0, 0, 0), (32, .istore 10, 0, 0, 0, 0), (34, .iconst 0, 0, 0, 0, 0), (35, .istore 11, 0, 0, 0, 0), (37, .iload 11, 0, 0, 0, 0), (39, .iload 10, 0, 0, 0, 0), (41, .if_icmp .ge 40, 81, 0, 0, 0), (44, .aload 9, 0, 0, 0, 0), (46, .iload 11, 0, 0, 0, 0), (48, .iaload, 0, 0, 0, 0), (49, .istore 12, 0, 0, 0, 0), (51, .iload 12, 0, 0, 0, 0), (53, .iload 4, 0, 0, 0, 0), (55, .if_icmp .lt 6, 61, 0, 0, 0), (58, .goto 17, 75, 0, 0, 0), (61, .lload 5, 0, 0, 0, 0), (63, .lconst 1, 0, 0, 0, 0), (64, .ladd, 0, 0, 0, 0), (65, .lstore 5, 0, 0, 0, 0), (67, .lload 7, 0, 0, 0, 0), (69, .iload 12, 0, 0, 0, 0), (71, .i2l, 0, 0, 0, 0), (72, .ladd, 0, 0, 0, 0), (73, .lstore 7, 0, 0, 0, 0), (75, .iinc 11 1, 0, 0, 0, 0), (78, .goto (-41), 37, 0, 0, 0), (81, .aload_n 0, 0, 0, 0, 0), (82, .invokevirtual 34, 110, 957, 1, 0), (85, .i2l, 0, 0, 0, 0), (86, .lload 5, 0, 0, 0, 0), (88, .lsub, 0, 0, 0, 0), (89, .lstore 9, 0, 0, 0, 0), (91, .aload_n 0, 0, 0, 0, 0), (92, .invokevirtual 67, 117, 1083, 1, 0), (95, .i2l, 0, 0, 0, 0), (96, .lload 7, 0, 0, 0, 0), (98, .lsub, 0, 0, 0, 0), (99, .lstore 11, 0, 0, 0, 0), (101, .lload 5, 0, 0, 0, 0), (103, .lconst 0, 0, 0, 0, 0), (104, .lcmp, 0, 0, 0, 0), (105, .ifCond .eq 60, 165, 0, 0, 0), (108, .lload 9, 0, 0, 0, 0), (110, .lconst 0, 0, 0, 0, 0), (111, .lcmp, 0, 0, 0, 0), (112, .ifCond .ne 6, 118, 0, 0, 0), (115, .goto 50, 165, 0, 0, 0), (118, .lload 7, 0, 0, 0, 0), (120, .lload 9, 0, 0, 0, 0), (122, .lmul, 0, 0, 0, 0), (123, .lload 11, 0, 0, 0, 0), (125, .lload 5, 0, 0, 0, 0), (127, .lmul, 0, 0, 0, 0), (128, .lsub, 0, 0, 0, 0), (129, .lload 7, 0, 0, 0, 0), (131, .lload 9, 0, 0, 0, 0), (133, .lmul, 0, 0, 0, 0), (134, .lload 11, 0, 0, 0, 0), (136, .lload 5, 0, 0, 0, 0), (138, .lmul, 0, 0, 0, 0), (139, .lsub, 0, 0, 0, 0), (140, .lmul, 0, 0, 0, 0), (141, .lload 5, 0, 0, 0, 0), (143, .lload 9, 0, 0, 0, 0), (145, .lmul, 0, 0, 0, 0), (146, .ldiv, 0, 0, 0, 0), (147, .lstore 13, 0, 0, 0, 0), (149, .lload 13, 0, 0, 0, 0), (151, .lload_n 1, 0, 0, 0, 0), (152, .lcmp, 0, 0, 0, 0), (153, .ifCond .gt 6, 159, 0, 0, 0), (156, .goto 9, 165, 0, 0, 0), (159, .lload 13, 0, 0, 0, 0), (161, .lstore_n 1, 0, 0, 0, 0), (162, .iload 4, 0, 0, 0, 0), (164, .istore_n 3, 0, 0, 0, 0), (165, .iinc 4 1, 0, 0, 0, 0), (168, .goto (-159), 9, 0, 0, 0), (171, .iload_n 3, 0, 0, 0, 0), (172, .ireturn, 0, 0, 0, 0)]
/-- ParallaxSheetsModel.Sheet stretched -/
def m_p_125 : List m_I := [(0, .aload_n 0, 0, 0, 0, 0), (1, .invokevirtual 70, 115, 1066, 1, 0), (4, .astore_n 1, 0, 0, 0, 0), (5, .aload_n 1, 0, 0, 0, 0), (6, .iconst 0, 0, 0, 0, 0), (7, .iaload, 0, 0, 0, 0), (8, .istore_n 2, 0, 0, 0, 0), (9, .aload_n 1, 0, 0, 0, 0), (10, .aload_n 1, 0, 0, 0, 0), (11, .arraylength, 0, 0, 0, 0), (12, .iconst 1, 0, 0, 0, 0), (13, .isub, 0, 0, 0, 0), (14, .iaload, 0, 0, 0, 0), (15, .istore_n 3, 0, 0, 0, 0), (16, .aload_n 0, 0, 0, 0, 0), (17, .getfield 18, 6, 2, 0, 866), (20, .invokevirtual 42, 0, 1041, 10, 0), (23, .checkcast 43, 0, 1042, 0, 0), (26, .astore 4, 0, 0, 0, 0), (28, .iconst 0, 0, 0, 0, 0), (29, .istore 5, 0, 0, 0, 0), (31, .iload 5, 0, 0, 0, 0), (33, .aload 4, 0, 0, 0, 0), (35, .arraylength, 0, 0, 0, 0), (36, .if_icmp .ge 36, 72, 0, 0, 0), (39, .iload_n 2, 0, 0, 0, 0), (40, .iload_n 3, 0, 0, 0, 0), (41, .if_icmp .ge 31, 72, 0, 0, 0), (44, .aload 4, 0, 0, 0, 0), (46, .iload 5, 0, 0, 0, 0), (48, .aload_n 0, 0, 0, 0, 0), (49, .getfield 18, 6, 2, 0, 866), (52, .iload 5, 0, 0, 0, 0), (54, .iaload, 0, 0, 0, 0), (55, .iload_n 2, 0, 0, 0, 0), (56, .isub, 0, 0, 0, 0), (57, .sipush 255, 0, 0, 0, 0), (60, .imul, 0, 0, 0, 0), (61, .iload_n 3, 0, 0, 0, 0), (62, .iload_n 2, 0, 0, 0, 0), (63, .isub, 0, 0, 0, 0), (64, .idiv, 0, 0, 0, 0), (65, .iastore, 0, 0, 0, 0), (66, .iinc 5 1, 0, 0, 0, 0), (69, .goto (-38), 31, 0, 0, 0), (72, .aload_n 0, 0, 0, 0, 0), (73, .aload 4, 0, 0, 0, 0), (75, .invokevirtual 58, 109, 1033, 1, 0), (78, .areturn, 0, 0, 0, 0)]
/-- ParallaxSheetsModel.Sheet even -/
def m_p_126 : List m_I := [(0, .aload_n 0, 0, 0, 0, 0), (1, .invokevirtual 34, 110, 957, 1, 0), (4, .newarray .int, 0, 108, 0, 0), (6, .astore_n 1, 0, 0, 0, 0), (7, .iconst 0, 0, 0, 0, 0), (8, .istore_n 2, 0, 0, 0, 0), (9, .iload_n 2, 0, 0, 0, 0), (10, .aload_n 1, 0, 0, 0, 0), (11, .arraylength, 0, 0, 0, 0), (12, .if_icmp .ge 32, 44, 0, 0, 0), (15, .aload_n 1, 0, 0, 0, 0), (16, .iload_n 2, 0, 0, 0, 0), (17, .sipush 255, 0, 0, 0, 0), (20, .aload_n 0, 0, 0, 0, 0), (21, .iconst 0, 0, 0, 0, 0), (22, .aload_n 0, 0, 0, 0, 0), (23, .getfield 18, 6, 2, 0, 866), (26, .iload_n 2, 0, 0, 0, 0), (27, .iaload, 0, 0, 0, 0), (28, .invokevirtual 74, 118, 1074, 1, 0), (31, .imul, 0, 0, 0, 0), (32, .aload_n 0, 0, 0, 0, 0), (33, .invokevirtual 34, 110, 957, 1, 0), (36, .idiv, 0, 0, 0, 0), (37, .iastore, 0, 0, 0, 0), (38, .iinc 2 1, 0, 0, 0, 0), (41, .goto (-32), 9, 0, 0, 0), (44, .aload_n 0, 0, 0, 0, 0), (45, .aload_n 1, 0, 0, 0, 0), (46, .invokevirtual 58, 109, 1033, 1, 0), (49, .areturn, 0, 0, 0, 0)]
/-- ParallaxSheetsModel.Sheet inTwo -/
def m_p_127 : List m_I := [(0, .aload_n 0, 0, 0, 0, 0), (1, .invokevirtual 34, 110, 957, 1, 0), (4, .newarray .int, 0, 108, 0, 0), (6, .astore_n 2, 0, 0, 0, 0), (7, .iconst 0, 0, 0, 0, 0), (8, .istore_n 3, 0, 0, 0, 0), (9, .iload_n 3, 0, 0, 0, 0), (10, .aload_n 2, 0, 0, 0, 0), (11, .arraylength, 0, 0, 0, 0), (12, .if_icmp .ge 29, 41, 0, 0, 0), (15, .aload_n 2, 0, 0, 0, 0), (16, .iload_n 3, 0, 0, 0, 0), (17, .aload_n 0, 0, 0, 0, 0), (18, .getfield 18, 6, 2, 0, 866), (21, .iload_n 3, 0, 0, 0, 0), (22, .iaload, 0, 0, 0, 0), (23, .iload_n 1, 0, 0, 0, 0), (24, .if_icmp .lt 9, 33, 0, 0, 0), (27, .sipush 255, 0, 0, 0, 0), (30, .goto 4, 34, 0, 0, 0), (33, .iconst 0, 0, 0, 0, 0), (34, .iastore, 0, 0, 0, 0), (35, .iinc 3 1, 0, 0, 0, 0), (38, .goto (-29), 9, 0, 0, 0), (41, .aload_n 0, 0, 0, 0, 0), (42, .aload_n 2, 0, 0, 0, 0), (43, .invokevirtual 58, 109, 1033, 1, 0), (46, .areturn, 0, 0, 0, 0)]
/-- ParallaxSheetsModel.Sheet parts -/
def m_p_128 : List m_I := [(0, .aload_n 0, 0, 0, 0, 0), (1, .invokevirtual 34, 110, 957, 1, 0), (4, .newarray .int, 0, 108, 0, 0), (6, .astore 4, 0, 0, 0, 0), (8, .iconst 0, 0, 0, 0, 0), (9, .istore 5, 0, 0, 0, 0), (11, .iload 5, 0, 0, 0, 0), (13, .aload 4, 0, 0, 0, 0), (15, .arraylength, 0, 0, 0, 0), (16, .if_icmp .ge 15, 31, 0, 0, 0), (19, .aload 4, 0, 0, 0, 0), (21, .iload 5, 0, 0, 0, 0), (23, .iconst (-1), 0, 0, 0, 0), (24, .iastore, 0, 0, 0, 0), (25, .iinc 5 1, 0, 0, 0, 0), (28, .goto (-17), 11, 0, 0, 0), (31, .iconst 0, 0, 0, 0, 0), (32, .istore 5, 0, 0, 0, 0), (34, .iconst 0, 0, 0, 0, 0), (35, .istore 6, 0, 0, 0, 0), (37, .iload 6, 0, 0, 0, 0), (39, .aload 4, 0, 0, 0, 0), (41, .arraylength, 0, 0, 0, 0), (42, .if_icmp .ge 259, 301, 0, 0, 0), (45, .aload_n 0, 0, 0, 0, 0), (46, .getfield 18, 6, 2, 0, 866), (49, .iload 6, 0, 0, 0, 0), (51, .iaload, 0, 0, 0, 0), (52, .iload_n 1, 0, 0, 0, 0), (53, .if_icmp .lt 7, 60, 0, 0, 0), (56, .iconst 1, 0, 0, 0, 0), (57, .goto 4, 61, 0, 0, 0), (60, .iconst 0, 0, 0, 0, 0), (61, .iload_n 2, 0, 0, 0, 0), (62, .if_icmp .ne 233, 295, 0, 0, 0), (65, .aload 4, 0, 0, 0, 0), (67, .iload 6, 0, 0, 0, 0), (69, .iaload, 0, 0, 0, 0), (70, .iconst (-1), 0, 0, 0, 0), (71, .if_icmp .eq 6, 77, 0, 0, 0), (74, .goto 221, 295, 0, 0, 0), (77, .new 77, 9, 1129, 0, 0), (80, .dup, 0, 0, 0, 0), (81, .invokespecial 79, 201, 1131, 1, 0), (84, .astore 7, 0, 0, 0, 0), (86, .aload 7, 0, 0, 0, 0), (88, .iload 6, 0, 0, 0, 0), (90, .invokestatic 80, 192, 1155, 1, 0), (93, .invokevirtual 86, 208, 1175, 1, 0), (96, .pop, 0, 0, 0, 0), (97, .aload 4, 0, 0, 0, 0), (99, .iload 6, 0, 0, 0, 0), (101, .iload 5, 0, 0, 0, 0), (103, .iastore, 0, 0, 0, 0), (104, .iconst 0, 0, 0, 0, 0), (105, .istore 8, 0, 0, 0, 0), (107, .iload 8, 0, 0, 0, 0), (109, .aload 7, 0, 0, 0, 0), (111, .invokevirtual 90, 204, 1229, 1, 0), (114, .if_icmp .ge 178, 292, 0, 0, 0), (117, .iconst 0, 0, 0, 0, 0), (118, .istore 9, 0, 0, 0, 0), (120, .iload 9, 0, 0, 0, 0), (122, .bipush 9, 0, 0, 0, 0), (124, .if_icmp .ge 162, 286, 0, 0, 0), (127, .iload 9, 0, 0, 0, 0), (129, .iconst 3, 0, 0, 0, 0), (130, .irem, 0, 0, 0, 0), (131, .iconst 1, 0, 0, 0, 0), (132, .isub, 0, 0, 0, 0), (133, .istore 10, 0, 0, 0, 0), (135, .iload 9, 0, 0, 0, 0), (137, .iconst 3, 0, 0, 0, 0), (138, .idiv, 0, 0, 0, 0), (139, .iconst 1, 0, 0, 0, 0), (140, .isub, 0, 0, 0, 0), (141, .istore 11, 0, 0, 0, 0), (143, .aload 7, 0, 0, 0, 0), (145, .iload 8, 0, 0, 0, 0), (147, .invokevirtual 91, 206, 1233, 1, 0), (150, .checkcast 81, 1, 1247, 0, 0), (153, .invokevirtual 95, 194, 1248, 1, 0), (156, .aload_n 0, 0, 0, 0, 0), (157, .getfield 9, 6, 0, 0, 862), (160, .irem, 0, 0, 0, 0), (161, .iload 10, 0, 0, 0, 0), (163, .iadd, 0, 0, 0, 0), (164, .istore 12, 0, 0, 0, 0), (166, .aload 7, 0, 0, 0, 0), (168, .iload 8, 0, 0, 0, 0), (170, .invokevirtual 91, 206, 1233, 1, 0), (173, .checkcast 81, 1, 1247, 0, 0), (176, .invokevirtual 95, 194, 1248, 1, 0), (179, .aload_n 0, 0, 0, 0, 0), (180, .getfield 9, 6, 0, 0, 862), (183, .idiv, 0, 0, 0, 0), (184, .iload 11, 0, 0, 0, 0), (186, .iadd, 0, 0, 0, 0), (187, .istore 13, 0, 0, 0, 0), (189, .iload_n 3, 0, 0, 0, 0), (190, .iconst 4, 0, 0, 0, 0), (191, .if_icmp .ne 13, 204, 0, 0, 0), (194, .iload 10, 0, 0, 0, 0), (196, .ifCond .eq 8, 204, 0, 0, 0), (199, .iload 11, 0, 0, 0, 0), (201, .ifCond .ne 79, 280, 0, 0, 0), (204, .aload_n 0, 0, 0, 0, 0), (205, .iload 12, 0, 0, 0, 0), (207, .iload 13, 0, 0, 0, 0), (209, .invokevirtual 98, 111, 1252, 1, 0), (212, .ifCond .ne 6, 218, 0, 0, 0), (215, .goto 65, 280, 0, 0, 0), (218, .iload 13, 0, 0, 0, 0), (220, .aload_n 0, 0, 0, 0, 0), (221, .getfield 9, 6, 0, 0, 862), (224, .imul, 0, 0, 0, 0), (225, .iload 12, 0, 0, 0, 0), (227, .iadd, 0, 0, 0, 0), (228, .istore 14, 0, 0, 0, 0), (230, .aload_n 0, 0, 0, 0, 0), (231, .getfield 18, 6, 2, 0, 866), (234, .iload 14, 0, 0, 0, 0), (236, .iaload, 0, 0, 0, 0), (237, .iload_n 1, 0, 0, 0, 0), (238, .if_icmp .lt 7, 245, 0, 0, 0), (241, .iconst 1, 0, 0, 0, 0), (242, .goto 4, 246, 0, 0, 0), (245, .iconst 0, 0, 0, 0, 0), (246, .iload_n 2, 0, 0, 0, 0), (247, .if_icmp .ne 33, 280, 0, 0, 0), (250, .aload 4, 0, 0, 0, 0), (252, .iload 14, 0, 0, 0, 0), (254, .iaload, 0, 0, 0, 0), (255, .iconst (-1), 0, 0, 0, 0), (256, .if_icmp .eq 6, 262, 0, 0, 0), (259, .goto 21, 280, 0, 0, 0), (262, .aload 4, 0, 0, 0, 0), (264, .iload 14, 0, 0, 0, 0), (266, .iload 5, 0, 0, 0, 0), (268, .iastore, 0, 0, 0, 0), (269, .aload 7, 0, 0, 0, 0), (271, .iload 14, 0, 0, 0, 0), (273, .invokestatic 80, 192, 1155, 1, 0), (276, .invokevirtual 86, 208, 1175, 1, 0), (279, .pop, 0, 0, 0, 0), (280, .iinc 9 1, 0, 0, 0, 0), (283, .goto (-163), 120, 0, 0, 0), (286, .iinc 8 1, 0, 0, 0, 0), (289, .goto (-182), 107, 0, 0, 0), (292, .iinc 5 1, 0, 0, 0, 0), (295, .iinc 6 1, 0, 0, 0, 0), (298, .goto (-261), 37, 0, 0, 0), (301, .aload 4, 0, 0, 0, 0), (303, .areturn, 0, 0, 0, 0)]
/-- ParallaxSheetsModel.Sheet many -/
def m_p_129 : List m_I := [(0, .iconst (-1), 0, 0, 0, 0), (1, .istore_n 1, 0, 0, 0, 0), (2, .aload_n 0, 0, 0, 0, 0), (3, .astore_n 2, 0, 0, 0, 0), (4, .aload_n 2, 0, 0, 0, 0), (5, .arraylength, 0, 0, 0, 0), (6, .istore_n 3, 0, 0, 0, 0), (7, .iconst 0, 0, 0, 0, 0), (8, .istore 4, 0, 0, 0, 0), (10, .iload 4, 0, 0, 0, 0), (12, .iload_n 3, 0, 0, 0, 0), (13, .if_icmp .ge 22, 35, 0, 0, 0), (16, .aload_n 2, 0, 0, 0, 0), (17, .iload 4, 0, 0, 0, 0), (19, .iaload, 0, 0, 0, 0), (20, .istore 5, 0, 0, 0, 0), (22, .iload_n 1, 0, 0, 0, 0), (23, .iload 5, 0, 0, 0, 0), (25, .invokestatic 31, 0, 937, 3, 0), (28, .istore_n 1, 0, 0, 0, 0), (29, .iinc 4 1, 0, 0, 0, 0), (32, .goto (-22), 10, 0, 0, 0), (35, .iload_n 1, 0, 0, 0, 0), (36, .iconst 1, 0, 0, 0, 0), (37, .iadd, 0, 0, 0, 0), (38, .ireturn, 0, 0, 0, 0)]
/-- ParallaxSheetsModel.Sheet isEdge -/
def m_p_130 : List m_I := [(0, .iload_n 1, 0, 0, 0, 0), (1, .aload_n 0, 0, 0, 0, 0), (2, .getfield 9, 6, 0, 0, 862), (5, .irem, 0, 0, 0, 0), (6, .ifCond .eq 42, 48, 0, 0, 0), (9, .iload_n 1, 0, 0, 0, 0), (10, .aload_n 0, 0, 0, 0, 0), (11, .getfield 9, 6, 0, 0, 862), (14, .idiv, 0, 0, 0, 0), (15, .ifCond .eq 33, 48, 0, 0, 0), (18, .iload_n 1, 0, 0, 0, 0), (19, .aload_n 0, 0, 0, 0, 0), (20, .getfield 9, 6, 0, 0, 862), (23, .irem, 0, 0, 0, 0), (24, .aload_n 0, 0, 0, 0, 0), (25, .getfield 9, 6, 0, 0, 862), (28, .iconst 1, 0, 0, 0, 0), (29, .isub, 0, 0, 0, 0), (30, .if_icmp .eq 18, 48, 0, 0, 0), (33, .iload_n 1, 0, 0, 0, 0), (34, .aload_n 0, 0, 0, 0, 0), (35, .getfield 9, 6, 0, 0, 862), (38, .idiv, 0, 0, 0, 0), (39, .aload_n 0, 0, 0, 0, 0), (40, .getfield 15, 6, 1, 0, 864), (43, .iconst 1, 0, 0, 0, 0), (44, .isub, 0, 0, 0, 0), (45, .if_icmp .ne 7, 52, 0, 0, 0), (48, .iconst 1, 0, 0, 0, 0), (49, .goto 4, 53, 0, 0, 0), (52, .iconst 0, 0, 0, 0, 0), (53, .ireturn, 0, 0, 0, 0)]
/-- ParallaxSheetsModel.Sheet holes -/
def m_p_131 : List m_I := [(0, .aload_n 0, 0, 0, 0, 0), (1, .sipush 128, 0, 0, 0, 0), (4, .iconst 0, 0, 0, 0, 0), (5, .bipush 12, 0, 0, 0, 0), (7, .iload_n 1, 0, 0, 0, 0), (8, .isub, 0, 0, 0, 0), (9, .invokevirtual 102, 128, 1264, 1, 0), (12, .astore_n 2, 0, 0, 0, 0), (13, .iconst 0, 0, 0, 0, 0), (14, .istore_n 3, 0, 0, 0, 0), (15, .iconst 0, 0, 0, 0, 0), (16, .istore 4, 0, 0, 0, 0), (18, .iload 4, 0, 0, 0, 0), (20, .aload_n 2, 0, 0, 0, 0), (21, .invokestatic 106, 129, 1265, 1, 0), (24, .if_icmp .ge 69, 93, 0, 0, 0), (27, .iconst 1, 0, 0, 0, 0), (28, .istore 5, 0, 0, 0, 0), (30, .iconst 0, 0, 0, 0, 0), (31, .istore 6, 0, 0, 0, 0), (33, .iload 6, 0, 0, 0, 0), (35, .aload_n 2, 0, 0, 0, 0), (36, .arraylength, 0, 0, 0, 0), (37, .if_icmp .ge 37, 74, 0, 0, 0), (40, .iload 5, 0, 0, 0, 0), (42, .aload_n 2, 0, 0, 0, 0), (43, .iload 6, 0, 0, 0, 0), (45, .iaload, 0, 0, 0, 0), (46, .iload 4, 0, 0, 0, 0), (48, .if_icmp .ne 12, 60, 0, 0, 0), (51, .aload_n 0, 0, 0, 0, 0), (52, .iload 6, 0, 0, 0, 0), (54, .invokevirtual 110, 130, 1266, 1, 0), (57, .ifCond .ne 7, 64, 0, 0, 0), (60, .iconst 1, 0, 0, 0, 0), (61, .goto 4, 65, 0, 0, 0), (64, .iconst 0, 0, 0, 0, 0), (65, .iand, 0, 0, 0, 0), (66, .istore 5, 0, 0, 0, 0), (68, .iinc 6 1, 0, 0, 0, 0), (71, .goto (-38), 33, 0, 0, 0), (74, .iload_n 3, 0, 0, 0, 0), (75, .iload 5, 0, 0, 0, 0), (77, .ifCond .eq 7, 84, 0, 0, 0), (80, .iconst 1, 0, 0, 0, 0), (81, .goto 4, 85, 0, 0, 0), (84, .iconst 0, 0, 0, 0, 0), (85, .iadd, 0, 0, 0, 0), (86, .istore_n 3, 0, 0, 0, 0), (87, .iinc 4 1, 0, 0, 0, 0), (90, .goto (-72), 18, 0, 0, 0), (93, .iload_n 3, 0, 0, 0, 0), (94, .ireturn, 0, 0, 0, 0)]
/-- ParallaxSheetsModel.Sheet part -/
def m_p_132 : List m_I := [(0, .bipush 6, 0, 0, 0, 0), (2, .newarray .int, 0, 108, 0, 0), (4, .dup, 0, 0, 0, 0), (5, .iconst 0, 0, 0, 0, 0), (6, .iconst 0, 0, 0, 0, 0), (7, .iastore, 0, 0, 0, 0), (8, .dup, 0, 0, 0, 0), (9, .iconst 1, 0, 0, 0, 0), (10, .bipush 16, 0, 0, 0, 0), (12, .iastore, 0, 0, 0, 0), (13, .dup, 0, 0, 0, 0), (14, .iconst 2, 0, 0, 0, 0), (15, .bipush 16, 0, 0, 0, 0), (17, .iastore, 0, 0, 0, 0), (18, .dup, 0, 0, 0, 0), (19, .iconst 3, 0, 0, 0, 0), (20, .iconst 0, 0, 0, 0, 0), (21, .iastore, 0, 0, 0, 0), (22, .dup, 0, 0, 0, 0), (23, .iconst 4, 0, 0, 0, 0), (24, .iconst 0, 0, 0, 0, 0), (25, .iastore, 0, 0, 0, 0), (26, .dup, 0, 0, 0, 0), (27, .iconst 5, 0, 0, 0, 0), (28, .iconst 0, 0, 0, 0, 0), (29, .iastore, 0, 0, 0, 0), (30, .astore_n 3, 0, 0, 0, 0), (31, .iconst 0, 0, 0, 0, 0), (32, .istore 4, 0, 0, 0, 0), (34, .iload 4, 0, 0, 0, 0), (36, .aload_n 1, 0, 0, 0, 0), (37, .arraylength, 0, 0, 0, 0), (38, .if_icmp .ge 138, 176, 0, 0, 0), (41, .aload_n 1, 0, 0, 0, 0), (42, .iload 4, 0, 0, 0, 0), (44, .iaload, 0, 0, 0, 0), (45, .iload_n 2, 0, 0, 0, 0), (46, .if_icmp .eq 6, 52, 0, 0, 0), (49, .goto 121, 170, 0, 0, 0), (52, .iload 4, 0, 0, 0, 0), (54, .aload_n 0, 0, 0, 0, 0), (55, .getfield 9, 6, 0, 0, 862), (58, .irem, 0, 0, 0, 0), (59, .istore 5, 0, 0, 0, 0), (61, .iload 4, 0, 0, 0, 0), (63, .aload_n 0, 0, 0, 0, 0), (64, .getfield 9, 6, 0, 0, 862), (67, .idiv, 0, 0, 0, 0), (68, .istore 6, 0, 0, 0, 0), (70, .aload_n 3, 0, 0, 0, 0), (71, .iconst 0, 0, 0, 0, 0), (72, .dup2, 0, 0, 0, 0), (73, .iaload, 0, 0, 0, 0), (74, .iconst 1, 0, 0, 0, 0), (75, .iadd, 0, 0, 0, 0), (76, .iastore, 0, 0, 0, 0), (77, .aload_n 3, 0, 0, 0, 0), (78, .iconst 1, 0, 0, 0, 0), (79, .aload_n 3, 0, 0, 0, 0), (80, .iconst 1, 0, 0, 0, 0), (81, .iaload, 0, 0, 0, 0), (82, .iload 5, 0, 0, 0, 0), (84, .invokestatic 25, 0, 936, 4, 0), (87, .iastore, 0, 0, 0, 0), (88, .aload_n 3, 0, 0, 0, 0), (89, .iconst 2, 0, 0, 0, 0), (90, .aload_n 3, 0, 0, 0, 0), (91, .iconst 2, 0, 0, 0, 0), (92, .iaload, 0, 0, 0, 0), (93, .iload 6, 0, 0, 0, 0), (95, .invokestatic 25, 0, 936, 4, 0), (98, .iastore, 0, 0, 0, 0), (99, .aload_n 3, 0, 0, 0, 0), (100, .iconst 3, 0, 0, 0, 0), (101, .aload_n 3, 0, 0, 0, 0), (102, .iconst 3, 0, 0, 0, 0), (103, .iaload, 0, 0, 0, 0), (104, .iload 5, 0, 0, 0, 0), (106, .invokestatic 31, 0, 937, 3, 0), (109, .iastore, 0, 0, 0, 0), (110, .aload_n 3, 0, 0, 0, 0), (111, .iconst 4, 0, 0, 0, 0), (112, .aload_n 3, 0, 0, 0, 0), (113, .iconst 4, 0, 0, 0, 0), (114, .iaload, 0, 0, 0, 0), (115, .iload 6, 0, 0, 0, 0), (117, .invokestatic 31, 0, 937, 3, 0), (120, .iastore, 0, 0, 0, 0), (121, .aload_n 3, 0, 0, 0, 0), (122, .iconst 5, 0, 0, 0, 0), (123, .dup2, 0, 0, 0, 0), (124, .iaload, 0, 0, 0, 0), (125, .aload_n 0, 0, 0, 0, 0), (126, .iload 5, 0, 0, 0, 0), (128, .iconst 1, 0, 0, 0, 0), (129, .isub, 0, 0, 0, 0), (130, .iload 6, 0, 0, 0, 0), (132, .invokevirtual 114, 133, 1282, 1, 0), (135, .aload_n 0, 0, 0, 0, 0), (136, .iload 5, 0, 0, 0, 0), (138, .iconst 1, 0, 0, 0, 0), (139, .iadd, 0, 0, 0, 0), (140, .iload 6, 0, 0, 0, 0), (142, .invokevirtual 114, 133, 1282, 1, 0), (145, .iadd, 0, 0, 0, 0), (146, .aload_n 0, 0, 0, 0, 0), (147, .iload 5, 0, 0, 0, 0), (149, .iload 6, 0, 0, 0, 0), (151, .iconst 1, 0, 0, 0, 0), (152, .isub, 0, 0, 0, 0), (153, .invokevirtual 114, 133, 1282, 1, 0), (156, .iadd, 0, 0, 0, 0), (157, .aload_n 0, 0, 0, 0, 0), (158, .iload 5, 0, 0, 0, 0), (160, .iload 6, 0, 0, 0, 0), (162, .iconst 1, 0, 0, 0, 0), (163, .iadd, 0, 0, 0, 0), (164, .invokevirtual 114, 133, 1282, 1, 0), (167, .iadd, 0, 0, 0, 0), (168, .iadd, 0, 0, 0, 0), (169, .iastore, 0, 0, 0, 0), (170, .iinc 4 1, 0, 0, 0, 0), (173, .goto (-139), 34, 0, 0, 0), (176, .aload_n 3, 0, 0, 0, 0), (177, .areturn, 0, 0, 0, 0)]
/-- ParallaxSheetsModel.Sheet free -/
def m_p_133 : List m_I := [(0, .aload_n 0, 0, 0, 0, 0), (1, .iload_n 1, 0, 0, 0, 0), (2, .iload_n 2, 0, 0, 0, 0), (3, .invokevirtual 98, 111, 1252, 1, 0), (6, .ifCond .eq 19, 25, 0, 0, 0), (9, .aload_n 0, 0, 0, 0, 0), (10, .iload_n 1, 0, 0, 0, 0), (11, .iload_n 2, 0, 0, 0, 0), (12, .invokevirtual 47, 112, 1031, 1, 0), (15, .sipush 128, 0, 0, 0, 0), (18, .if_icmp .lt 7, 25, 0, 0, 0), (21, .iconst 0, 0, 0, 0, 0), (22, .goto 4, 26, 0, 0, 0), (25, .iconst 1, 0, 0, 0, 0), (26, .ireturn, 0, 0, 0, 0)]
/-- ParallaxSheetsModel.Sheet kept -/
def m_p_134 : List m_I := [(0, .aload_n 0, 0, 0, 0, 0), (1, .sipush 128, 0, 0, 0, 0), (4, .iconst 1, 0, 0, 0, 0), (5, .iload_n 1, 0, 0, 0, 0), (6, .invokevirtual 102, 128, 1264, 1, 0), (9, .astore_n 2, 0, 0, 0, 0), (10, .iconst (-1), 0, 0, 0, 0), (11, .istore_n 3, 0, 0, 0, 0), (12, .iconst 0, 0, 0, 0, 0), (13, .istore 4, 0, 0, 0, 0), (15, .iconst 0, 0, 0, 0, 0), (16, .istore 5, 0, 0, 0, 0), (18, .iload 5, 0, 0, 0, 0), (20, .aload_n 2, 0, 0, 0, 0), (21, .invokestatic 106, 129, 1265, 1, 0), (24, .if_icmp .ge 40, 64, 0, 0, 0), (27, .aload_n 0, 0, 0, 0, 0), (28, .aload_n 2, 0, 0, 0, 0), (29, .iload 5, 0, 0, 0, 0), (31, .invokevirtual 117, 132, 1294, 1, 0), (34, .iconst 0, 0, 0, 0, 0), (35, .iaload, 0, 0, 0, 0), (36, .iload 4, 0, 0, 0, 0), (38, .if_icmp .gt 6, 44, 0, 0, 0), (41, .goto 17, 58, 0, 0, 0), (44, .aload_n 0, 0, 0, 0, 0), (45, .aload_n 2, 0, 0, 0, 0), (46, .iload 5, 0, 0, 0, 0), (48, .invokevirtual 117, 132, 1294, 1, 0), (51, .iconst 0, 0, 0, 0, 0), (52, .iaload, 0, 0, 0, 0), (53, .istore 4, 0, 0, 0, 0), (55, .iload 5, 0, 0, 0, 0), (57, .istore_n 3, 0, 0, 0, 0), (58, .iinc 5 1, 0, 0, 0, 0), (61, .goto (-43), 18, 0, 0, 0), (64, .aload_n 0, 0, 0, 0, 0), (65, .getfield 18, 6, 2, 0, 866), (68, .invokevirtual 42, 0, 1041, 10, 0), (71, .checkcast 43, 0, 1042, 0, 0), (74, .astore 5, 0, 0, 0, 0), (76, .iconst 0, 0, 0, 0, 0), (77, .istore 6, 0, 0, 0, 0), (79, .iload 6, 0, 0, 0, 0), (81, .aload 5, 0, 0, 0, 0), (83, .arraylength, 0, 0, 0, 0), (84, .if_icmp .ge 31, 115, 0, 0, 0), (87, .aload_n 2, 0, 0, 0, 0), (88, .iload 6, 0, 0, 0, 0), (90, .iaload, 0, 0, 0, 0), (91, .iconst (-1), 0, 0, 0, 0), (92, .if_icmp .eq 17, 109, 0, 0, 0), (95, .aload_n 2, 0, 0, 0, 0), (96, .iload 6, 0, 0, 0, 0), (98, .iaload, 0, 0, 0, 0), (99, .iload_n 3, 0, 0, 0, 0), (100, .if_icmp .eq 9, 109, 0, 0, 0), (103, .aload 5, 0, 0, 0, 0), (105, .iload 6, 0, 0, 0, 0), (107, .iconst 0, 0, 0, 0, 0), (108, .iastore, 0, 0, 0, 0), (109, .iinc 6 1, 0, 0, 0, 0), (112, .goto (-33), 79, 0, 0, 0), (115, .aload_n 0, 0, 0, 0, 0), (116, .aload 5, 0, 0, 0, 0), (118, .invokevirtual 58, 109, 1033, 1, 0), (121, .areturn, 0, 0, 0, 0)]
/-- ParallaxSheetsModel.Sheet apart -/
def m_p_135 : List m_I := [(0, .iload_n 0, 0, 0, 0, 0), (1, .ifCond .ne 15, 16, 0, 0, 0), (4, .iload_n 1, 0, 0, 0, 0), (5, .invokestatic 62, 0, 974, 5, 0), (8, .iload_n 2, 0, 0, 0, 0), (9, .invokestatic 62, 0, 974, 5, 0), (12, .iadd, 0, 0, 0, 0), (13, .goto 29, 42, 0, 0, 0), (16, .iload_n 0, 0, 0, 0, 0), (17, .iconst 1, 0, 0, 0, 0), (18, .if_icmp .ne 17, 35, 0, 0, 0), (21, .iload_n 1, 0, 0, 0, 0), (22, .invokestatic 62, 0, 974, 5, 0), (25, .iload_n 2, 0, 0, 0, 0), (26, .invokestatic 62, 0, 974, 5, 0), (29, .invokestatic 31, 0, 937, 3, 0), (32, .goto 10, 42, 0, 0, 0), (35, .iload_n 1, 0, 0, 0, 0), (36, .iload_n 1, 0, 0, 0, 0), (37, .imul, 0, 0, 0, 0), (38, .iload_n 2, 0, 0, 0, 0), (39, .iload_n 2, 0, 0, 0, 0), (40, .imul, 0, 0, 0, 0), (41, .iadd, 0, 0, 0, 0), (42, .ireturn, 0, 0, 0, 0)]
/-- ParallaxSheetsModel.Sheet far -/
def m_p_136 : List m_I := [(0, .aload_n 0, 0, 0, 0, 0), (1, .getfield 18, 6, 2, 0, 866), (4, .iload_n 1, 0, 0, 0, 0), (5, .iaload, 0, 0, 0, 0), (6, .sipush 128, 0, 0, 0, 0), (9, .if_icmp .ge 5, 14, 0, 0, 0), (12, .iconst 0, 0, 0, 0, 0), (13, .ireturn, 0, 0, 0, 0), (14, .iload_n 1, 0, 0, 0, 0), (15, .aload_n 0, 0, 0, 0, 0), (16, .getfield 9, 6, 0, 0, 862), (19, .irem, 0, 0, 0, 0), (20, .istore_n 3, 0, 0, 0, 0), (21, .iload_n 1, 0, 0, 0, 0), (22, .aload_n 0, 0, 0, 0, 0), (23, .getfield 9, 6, 0, 0, 862), (26, .idiv, 0, 0, 0, 0), (27, .istore 4, 0, 0, 0, 0), (29, .iconst (-1), 0, 0, 0, 0), (30, .istore 5, 0, 0, 0, 0), (32, .iconst 0, 0, 0, 0, 0), (33, .istore 6, 0, 0, 0, 0), (35, .iload 6, 0, 0, 0, 0), (37, .aload_n 0, 0, 0, 0, 0), (38, .invokevirtual 34, 110, 957, 1, 0), (41, .if_icmp .ge 67, 108, 0, 0, 0), (44, .aload_n 0, 0, 0, 0, 0), (45, .getfield 18, 6, 2, 0, 866), (48, .iload 6, 0, 0, 0, 0), (50, .iaload, 0, 0, 0, 0), (51, .sipush 128, 0, 0, 0, 0), (54, .if_icmp .lt 6, 60, 0, 0, 0), (57, .goto 45, 102, 0, 0, 0), (60, .iload_n 2, 0, 0, 0, 0), (61, .iload 6, 0, 0, 0, 0), (63, .aload_n 0, 0, 0, 0, 0), (64, .getfield 9, 6, 0, 0, 862), (67, .irem, 0, 0, 0, 0), (68, .iload_n 3, 0, 0, 0, 0), (69, .isub, 0, 0, 0, 0), (70, .iload 6, 0, 0, 0, 0), (72, .aload_n 0, 0, 0, 0, 0), (73, .getfield 9, 6, 0, 0, 862), (76, .idiv, 0, 0, 0, 0), (77, .iload 4, 0, 0, 0, 0), (79, .isub, 0, 0, 0, 0), (80, .invokestatic 121, 135, 1303, 1, 0), (83, .istore 7, 0, 0, 0, 0), (85, .iload 5, 0, 0, 0, 0), (87, .iconst (-1), 0, 0, 0, 0), (88, .if_icmp .eq 10, 98, 0, 0, 0), (91, .iload 7, 0, 0, 0, 0), (93, .iload 5, 0, 0, 0, 0), (95, .if_icmp .ge 7, 102, 0, 0, 0), (98, .iload 7, 0, 0, 0, 0), (100, .istore 5, 0, 0, 0, 0), (102, .iinc 6 1, 0, 0, 0, 0), (105, .goto (-70), 35, 0, 0, 0), (108, .iload 5, 0, 0, 0, 0), (110, .iconst (-1), 0, 0, 0, 0), (111, .if_icmp .ne 40, 151, 0, 0, 0), (114, .iload_n 2, 0, 0, 0, 0), (115, .iload_n 3, 0, 0, 0, 0), (116, .iconst 1, 0, 0, 0, 0), (117, .iadd, 0, 0, 0, 0), (118, .aload_n 0, 0, 0, 0, 0), (119, .getfield 9, 6, 0, 0, 862), (122, .iload_n 3, 0, 0, 0, 0), (123, .isub, 0, 0, 0, 0), (124, .invokestatic 25, 0, 936, 4, 0), (127, .iload 4, 0, 0, 0, 0), (129, .iconst 1, 0, 0, 0, 0), (130, .iadd, 0, 0, 0, 0), (131, .aload_n 0, 0, 0, 0, 0), (132, .getfield 15, 6, 1, 0, 864), (135, .iload 4, 0, 0, 0, 0), (137, .isub, 0, 0, 0, 0), (138, .invokestatic 25, 0, 936, 4, 0), (141, .invokestatic 25, 0, 936, 4, 0), (144, .iconst 0, 0, 0, 0, 0), (145, .invokestatic 121, 135, 1303, 1, 0), (148, .goto 5, 153, 0, 0, 0), (151, .iload 5, 0, 0, 0, 0), (153, .ireturn, 0, 0, 0, 0)]
/-- ParallaxSheetsModel.Sheet cost -/
def m_p_137 : List m_I := [(0, .aload_n 0, 0, 0, 0, 0), (1, .iload_n 1, 0, 0, 0, 0), (2, .iconst 1, 0, 0, 0, 0), (3, .iadd, 0, 0, 0, 0), (4, .iload_n 2, 0, 0, 0, 0), (5, .invokevirtual 47, 112, 1031, 1, 0), (8, .aload_n 0, 0, 0, 0, 0), (9, .iload_n 1, 0, 0, 0, 0), (10, .iconst 1, 0, 0, 0, 0), (11, .isub, 0, 0, 0, 0), (12, .iload_n 2, 0, 0, 0, 0), (13, .invokevirtual 47, 112, 1031, 1, 0), (16, .isub, 0, 0, 0, 0), (17, .invokestatic 62, 0, 974, 5, 0), (20, .aload_n 0, 0, 0, 0, 0), (21, .iload_n 1, 0, 0, 0, 0), (22, .iload_n 2, 0, 0, 0, 0), (23, .iconst 1, 0, 0, 0, 0), (24, .iadd, 0, 0, 0, 0), (25, .invokevirtual 47, 112, 1031, 1, 0), (28, .aload_n 0, 0, 0, 0, 0), (29, .iload_n 1, 0, 0, 0, 0), (30, .iload_n 2, 0, 0, 0, 0), (31, .iconst 1, 0, 0, 0, 0), (32, .isub, 0, 0, 0, 0), (33, .invokevirtual 47, 112, 1031, 1, 0), (36, .isub, 0, 0, 0, 0), (37, .invokestatic 62, 0, 974, 5, 0), (40, .iadd, 0, 0, 0, 0), (41, .ireturn, 0, 0, 0, 0)]
/-- ParallaxSheetsModel.Sheet sums -/
def m_p_138 : List m_I := [(0, .aload_n 0, 0, 0, 0, 0), (1, .invokevirtual 34, 110, 957, 1, 0), (4, .newarray .int, 0, 108, 0, 0), (6, .astore_n 1, 0, 0, 0, 0), (7, .iconst 0, 0, 0, 0, 0), (8, .istore_n 2, 0, 0, 0, 0), (9, .iload_n 2, 0, 0, 0, 0), (10, .aload_n 1, 0, 0, 0, 0), (11, .arraylength, 0, 0, 0, 0), (12, .if_icmp .ge 107, 119, 0, 0, 0), (15, .iload_n 2, 0, 0, 0, 0), (16, .aload_n 0, 0, 0, 0, 0), (17, .getfield 9, 6, 0, 0, 862), (20, .irem, 0, 0, 0, 0), (21, .istore_n 3, 0, 0, 0, 0), (22, .iload_n 2, 0, 0, 0, 0), (23, .aload_n 0, 0, 0, 0, 0), (24, .getfield 9, 6, 0, 0, 862), (27, .idiv, 0, 0, 0, 0), (28, .istore 4, 0, 0, 0, 0), (30, .iload 4, 0, 0, 0, 0), (32, .ifCond .ne 7, 39, 0, 0, 0), (35, .iconst 0, 0, 0, 0, 0), (36, .goto 5, 41, 0, 0, 0), (39, .ldc 125, 0, 1324, 0, 2147483647), (41, .istore 5, 0, 0, 0, 0), (43, .iconst 0, 0, 0, 0, 0), (44, .iload_n 3, 0, 0, 0, 0), (45, .iconst 1, 0, 0, 0, 0), (46, .isub, 0, 0, 0, 0), (47, .invokestatic 31, 0, 937, 3, 0), (50, .istore 6, 0, 0, 0, 0), (52, .iload 4, 0, 0, 0, 0), (54, .ifCond .le 46, 100, 0, 0, 0), (57, .iload 6, 0, 0, 0, 0), (59, .aload_n 0, 0, 0, 0, 0), (60, .getfield 9, 6, 0, 0, 862), (63, .iconst 1, 0, 0, 0, 0), (64, .isub, 0, 0, 0, 0), (65, .iload_n 3, 0, 0, 0, 0), (66, .iconst 1, 0, 0, 0, 0), (67, .iadd, 0, 0, 0, 0), (68, .invokestatic 25, 0, 936, 4, 0), (71, .if_icmp .gt 29, 100, 0, 0, 0), (74, .iload 5, 0, 0, 0, 0), (76, .aload_n 1, 0, 0, 0, 0), (77, .iload_n 2, 0, 0, 0, 0), (78, .aload_n 0, 0, 0, 0, 0), (79, .getfield 9, 6, 0, 0, 862), (82, .isub, 0, 0, 0, 0), (83, .iload 6, 0, 0, 0, 0), (85, .iadd, 0, 0, 0, 0), (86, .iload_n 3, 0, 0, 0, 0), (87, .isub, 0, 0, 0, 0), (88, .iaload, 0, 0, 0, 0), (89, .invokestatic 25, 0, 936, 4, 0), (92, .istore 5, 0, 0, 0, 0), (94, .iinc 6 1, 0, 0, 0, 0), (97, .goto (-45), 52, 0, 0, 0), (100, .aload_n 1, 0, 0, 0, 0), (101, .iload_n 2, 0, 0, 0, 0), (102, .iload 5, 0, 0, 0, 0), (104, .aload_n 0, 0, 0, 0, 0), (105, .iload_n 3, 0, 0, 0, 0), (106, .iload 4, 0, 0, 0, 0), (108, .invokevirtual 126, 137, 1325, 1, 0), (111, .iadd, 0, 0, 0, 0), (112, .iastore, 0, 0, 0, 0), (113, .iinc 2 1, 0, 0, 0, 0), (116, .goto (-107), 9, 0, 0, 0), (119, .aload_n 1, 0, 0, 0, 0), (120, .areturn, 0, 0, 0, 0)]
/-- ParallaxSheetsModel.Sheet seam -/
def m_p_139 : List m_I := [(0, .aload_n 0, 0, 0, 0, 0), (1, .invokevirtual 129, 138, 1320, 1, 0), (4, .astore_n 1, 0, 0, 0, 0), (5, .aload_n 0, 0, 0, 0, 0), (6, .getfield 15, 6, 1, 0, 864), (9, .iconst 1, 0, 0, 0, 0), (10, .iadd, 0, 0, 0, 0), (11, .newarray .int, 0, 108, 0, 0), (13, .astore_n 2, 0, 0, 0, 0), (14, .iconst 0, 0, 0, 0, 0), (15, .istore_n 3, 0, 0, 0, 0), (16, .iconst 1, 0, 0, 0, 0), (17, .istore 4, 0, 0, 0, 0), (19, .iload 4, 0, 0, 0, 0), (21, .aload_n 0, 0, 0, 0, 0), (22, .getfield 9, 6, 0, 0, 862), (25, .if_icmp .ge 46, 71, 0, 0, 0), (28, .aload_n 1, 0, 0, 0, 0), (29, .aload_n 0, 0, 0, 0, 0), (30, .getfield 15, 6, 1, 0, 864), (33, .iconst 1, 0, 0, 0, 0), (34, .isub, 0, 0, 0, 0), (35, .aload_n 0, 0, 0, 0, 0), (36, .getfield 9, 6, 0, 0, 862), (39, .imul, 0, 0, 0, 0), (40, .iload 4, 0, 0, 0, 0), (42, .iadd, 0, 0, 0, 0), (43, .iaload, 0, 0, 0, 0), (44, .aload_n 1, 0, 0, 0, 0), (45, .aload_n 0, 0, 0, 0, 0), (46, .getfield 15, 6, 1, 0, 864), (49, .iconst 1, 0, 0, 0, 0), (50, .isub, 0, 0, 0, 0), (51, .aload_n 0, 0, 0, 0, 0), (52, .getfield 9, 6, 0, 0, 862), (55, .imul, 0, 0, 0, 0), (56, .iload_n 3, 0, 0, 0, 0), (57, .iadd, 0, 0, 0, 0), (58, .iaload, 0, 0, 0, 0), (59, .if_icmp .ge 6, 65, 0, 0, 0), (62, .iload 4, 0, 0, 0, 0), (64, .istore_n 3, 0, 0, 0, 0), (65, .iinc 4 1, 0, 0, 0, 0), (68, .goto (-49), 19, 0, 0, 0), (71, .aload_n 2, 0, 0, 0, 0), (72, .aload_n 0, 0, 0, 0, 0), (73, .getfield 15, 6, 1, 0, 864), (76, .aload_n 1, 0, 0, 0, 0), (77, .aload_n 0, 0, 0, 0, 0), (78, .getfield 15, 6, 1, 0, 864), (81, .iconst 1, 0, 0, 0, 0), (82, .isub, 0, 0, 0, 0), (83, .aload_n 0, 0, 0, 0, 0), (84, .getfield 9, 6, 0, 0, 862), (87, .imul, 0, 0, 0, 0), (88, .iload_n 3, 0, 0, 0, 0), (89, .iadd, 0, 0, 0, 0), (90, .iaload, 0, 0, 0, 0), (91, .iastore, 0, 0, 0, 0), (92, .aload_n 0, 0, 0, 0, 0), (93, .getfield 15, 6, 1, 0, 864), (96, .iconst 1, 0, 0, 0, 0), (97, .isub, 0, 0, 0, 0), (98, .istore 4, 0, 0, 0, 0), (100, .iload 4, 0, 0, 0, 0), (102, .ifCond .lt 80, 182, 0, 0, 0), (105, .aload_n 2, 0, 0, 0, 0), (106, .iload 4, 0, 0, 0, 0), (108, .iload_n 3, 0, 0, 0, 0), (109, .iastore, 0, 0, 0, 0), (110, .iload 4, 0, 0, 0, 0), (112, .ifCond .ne 6, 118, 0, 0, 0), (115, .goto 67, 182, 0, 0, 0), (118, .aload_n 1, 0, 0, 0, 0), (119, .iload 4, 0, 0, 0, 0), (121, .aload_n 0, 0, 0, 0, 0), (122, .getfield 9, 6, 0, 0, 862), (125, .imul, 0, 0, 0, 0), (126, .iload_n 3, 0, 0, 0, 0), (127, .iadd, 0, 0, 0, 0), (128, .iaload, 0, 0, 0, 0), (129, .aload_n 0, 0, 0, 0, 0), (130, .iload_n 3, 0, 0, 0, 0), (131, .iload 4, 0, 0, 0, 0), (133, .invokevirtual 126, 137, 1325, 1, 0), (136, .isub, 0, 0, 0, 0), (137, .istore 5, 0, 0, 0, 0), (139, .iconst 0, 0, 0, 0, 0), (140, .iload_n 3, 0, 0, 0, 0), (141, .iconst 1, 0, 0, 0, 0), (142, .isub, 0, 0, 0, 0), (143, .invokestatic 31, 0, 937, 3, 0), (146, .istore 6, 0, 0, 0, 0), (148, .aload_n 1, 0, 0, 0, 0), (149, .iload 4, 0, 0, 0, 0), (151, .iconst 1, 0, 0, 0, 0), (152, .isub, 0, 0, 0, 0), (153, .aload_n 0, 0, 0, 0, 0), (154, .getfield 9, 6, 0, 0, 862), (157, .imul, 0, 0, 0, 0), (158, .iload 6, 0, 0, 0, 0), (160, .iadd, 0, 0, 0, 0), (161, .iaload, 0, 0, 0, 0), (162, .iload 5, 0, 0, 0, 0), (164, .if_icmp .eq 9, 173, 0, 0, 0), (167, .iinc 6 1, 0, 0, 0, 0), (170, .goto (-22), 148, 0, 0, 0), (173, .iload 6, 0, 0, 0, 0), (175, .istore_n 3, 0, 0, 0, 0), (176, .iinc 4 (-1), 0, 0, 0, 0), (179, .goto (-79), 100, 0, 0, 0), (182, .aload_n 2, 0, 0, 0, 0), (183, .areturn, 0, 0, 0, 0)]
/-- ParallaxSheetsModel.Sheet carved -/
def m_p_140 : List m_I := [(0, .aload_n 0, 0, 0, 0, 0), (1, .invokevirtual 132, 139, 1316, 1, 0), (4, .astore_n 1, 0, 0, 0, 0), (5, .aload_n 0, 0, 0, 0, 0), (6, .getfield 9, 6, 0, 0, 862), (9, .iconst 1, 0, 0, 0, 0), (10, .isub, 0, 0, 0, 0), (11, .aload_n 0, 0, 0, 0, 0), (12, .getfield 15, 6, 1, 0, 864), (15, .imul, 0, 0, 0, 0), (16, .newarray .int, 0, 108, 0, 0), (18, .astore_n 2, 0, 0, 0, 0), (19, .iconst 0, 0, 0, 0, 0), (20, .istore_n 3, 0, 0, 0, 0), (21, .iload_n 3, 0, 0, 0, 0), (22, .aload_n 2, 0, 0, 0, 0), (23, .arraylength, 0, 0, 0, 0), (24, .if_icmp .ge 56, 80, 0, 0, 0), (27, .iload_n 3, 0, 0, 0, 0), (28, .aload_n 0, 0, 0, 0, 0), (29, .getfield 9, 6, 0, 0, 862), (32, .iconst 1, 0, 0, 0, 0), (33, .isub, 0, 0, 0, 0), (34, .irem, 0, 0, 0, 0), (35, .istore 4, 0, 0, 0, 0), (37, .iload_n 3, 0, 0, 0, 0), (38, .aload_n 0, 0, 0, 0, 0), (39, .getfield 9, 6, 0, 0, 862), (42, .iconst 1, 0, 0, 0, 0), (43, .isub, 0, 0, 0, 0), (44, .idiv, 0, 0, 0, 0), (45, .istore 5, 0, 0, 0, 0), (47, .aload_n 2, 0, 0, 0, 0), (48, .iload_n 3, 0, 0, 0, 0), (49, .aload_n 0, 0, 0, 0, 0), (50, .iload 4, 0, 0, 0, 0), (52, .aload_n 1, 0, 0, 0, 0), (53, .iload 5, 0, 0, 0, 0), (55, .iaload, 0, 0, 0, 0), (56, .if_icmp .ge 8, 64, 0, 0, 0), (59, .iload 4, 0, 0, 0, 0), (61, .goto 7, 68, 0, 0, 0), (64, .iload 4, 0, 0, 0, 0), (66, .iconst 1, 0, 0, 0, 0), (67, .iadd, 0, 0, 0, 0), (68, .iload 5, 0, 0, 0, 0), (70, .invokevirtual 47, 112, 1031, 1, 0), (73, .iastore, 0, 0, 0, 0), (74, .iinc 3 1, 0, 0, 0, 0), (77, .goto (-56), 21, 0, 0, 0), (80, .new 10, 6, 856, 0, 0), (83, .dup, 0, 0, 0, 0), (84, .aload_n 0, 0, 0, 0, 0), (85, .getfield 9, 6, 0, 0, 862), (88, .iconst 1, 0, 0, 0, 0), (89, .isub, 0, 0, 0, 0), (90, .aload_n 0, 0, 0, 0, 0), (91, .getfield 15, 6, 1, 0, 864), (94, .aload_n 2, 0, 0, 0, 0), (95, .invokespecial 22, 107, 858, 1, 0), (98, .areturn, 0, 0, 0, 0)]
/-- ParallaxSheetsModel.Sheet widened -/
def m_p_141 : List m_I := [(0, .aload_n 0, 0, 0, 0, 0), (1, .invokevirtual 132, 139, 1316, 1, 0), (4, .astore_n 1, 0, 0, 0, 0), (5, .aload_n 0, 0, 0, 0, 0), (6, .getfield 9, 6, 0, 0, 862), (9, .iconst 1, 0, 0, 0, 0), (10, .iadd, 0, 0, 0, 0), (11, .aload_n 0, 0, 0, 0, 0), (12, .getfield 15, 6, 1, 0, 864), (15, .imul, 0, 0, 0, 0), (16, .newarray .int, 0, 108, 0, 0), (18, .astore_n 2, 0, 0, 0, 0), (19, .iconst 0, 0, 0, 0, 0), (20, .istore_n 3, 0, 0, 0, 0), (21, .iload_n 3, 0, 0, 0, 0), (22, .aload_n 2, 0, 0, 0, 0), (23, .arraylength, 0, 0, 0, 0), (24, .if_icmp .ge 97, 121, 0, 0, 0), (27, .iload_n 3, 0, 0, 0, 0), (28, .aload_n 0, 0, 0, 0, 0), (29, .getfield 9, 6, 0, 0, 862), (32, .iconst 1, 0, 0, 0, 0), (33, .iadd, 0, 0, 0, 0), (34, .irem, 0, 0, 0, 0), (35, .istore 4, 0, 0, 0, 0), (37, .iload_n 3, 0, 0, 0, 0), (38, .aload_n 0, 0, 0, 0, 0), (39, .getfield 9, 6, 0, 0, 862), (42, .iconst 1, 0, 0, 0, 0), (43, .iadd, 0, 0, 0, 0), (44, .idiv, 0, 0, 0, 0), (45, .istore 5, 0, 0, 0, 0), (47, .aload_n 2, 0, 0, 0, 0), (48, .iload_n 3, 0, 0, 0, 0), (49, .iload 4, 0, 0, 0, 0), (51, .aload_n 1, 0, 0, 0, 0), (52, .iload 5, 0, 0, 0, 0), (54, .iaload, 0, 0, 0, 0), (55, .if_icmp .gt 14, 69, 0, 0, 0), (58, .aload_n 0, 0, 0, 0, 0), (59, .iload 4, 0, 0, 0, 0), (61, .iload 5, 0, 0, 0, 0), (63, .invokevirtual 47, 112, 1031, 1, 0), (66, .goto 48, 114, 0, 0, 0), (69, .iload 4, 0, 0, 0, 0), (71, .aload_n 1, 0, 0, 0, 0), (72, .iload 5, 0, 0, 0, 0), (74, .iaload, 0, 0, 0, 0), (75, .iconst 1, 0, 0, 0, 0), (76, .iadd, 0, 0, 0, 0), (77, .if_icmp .ne 27, 104, 0, 0, 0), (80, .aload_n 0, 0, 0, 0, 0), (81, .iload 4, 0, 0, 0, 0), (83, .iconst 1, 0, 0, 0, 0), (84, .isub, 0, 0, 0, 0), (85, .iload 5, 0, 0, 0, 0), (87, .invokevirtual 47, 112, 1031, 1, 0), (90, .aload_n 0, 0, 0, 0, 0), (91, .iload 4, 0, 0, 0, 0), (93, .iload 5, 0, 0, 0, 0), (95, .invokevirtual 47, 112, 1031, 1, 0), (98, .iadd, 0, 0, 0, 0), (99, .iconst 2, 0, 0, 0, 0), (100, .idiv, 0, 0, 0, 0), (101, .goto 13, 114, 0, 0, 0), (104, .aload_n 0, 0, 0, 0, 0), (105, .iload 4, 0, 0, 0, 0), (107, .iconst 1, 0, 0, 0, 0), (108, .isub, 0, 0, 0, 0), (109, .iload 5, 0, 0, 0, 0), (111, .invokevirtual 47, 112, 1031, 1, 0), (114, .iastore, 0, 0, 0, 0), (115, .iinc 3 1, 0, 0, 0, 0), (118, .goto (-97), 21, 0, 0, 0), (121, .new 10, 6, 856, 0, 0), (124, .dup, 0, 0, 0, 0), (125, .aload_n 0, 0, 0, 0, 0), (126, .getfield 9, 6, 0, 0, 862), (129, .iconst 1, 0, 0, 0, 0), (130, .iadd, 0, 0, 0, 0), (131, .aload_n 0, 0, 0, 0, 0), (132, .getfield 15, 6, 1, 0, 864), (135, .aload_n 2, 0, 0, 0, 0), (136, .invokespecial 22, 107, 858, 1, 0), (139, .areturn, 0, 0, 0, 0)]
/-- ParallaxSheetsModel bound -/
def m_p_142 : List m_I := [(0, .iconst 0, 0, 0, 0, 0), (1, .sipush 255, 0, 0, 0, 0), (4, .iload_n 0, 0, 0, 0, 0), (5, .invokestatic 3, 0, 965, 4, 0), (8, .invokestatic 9, 0, 966, 3, 0), (11, .ireturn, 0, 0, 0, 0)]
/-- ParallaxSheetsModel init -/
def m_p_143 : List m_I := [(0, .aload_n 0, 0, 0, 0, 0), (1, .invokespecial 12, 0, 850, 7, 0), (4, .aload_n 0, 0, 0, 0, 0), (5, .iconst 4, 0, 0, 0, 0), (6, .anewarray 18, 5, 851, 0, 0), (9, .putfield 20, 7, 1, 0, 876), (12, .aload_n 0, 0, 0, 0, 0), (13, .bipush 9, 0, 0, 0, 0), (15, .newarray .int, 0, 108, 0, 0), (17, .dup, 0, 0, 0, 0), (18, .iconst 0, 0, 0, 0, 0), (19, .iconst 1, 0, 0, 0, 0), (20, .iastore, 0, 0, 0, 0), (21, .dup, 0, 0, 0, 0), (22, .iconst 1, 0, 0, 0, 0), (23, .iconst 1, 0, 0, 0, 0), (24, .iastore, 0, 0, 0, 0), (25, .dup, 0, 0, 0, 0), (26, .iconst 2, 0, 0, 0, 0), (27, .iconst 1, 0, 0, 0, 0), (28, .iastore, 0, 0, 0, 0), (29, .dup, 0, 0, 0, 0), (30, .iconst 3, 0, 0, 0, 0), (31, .iconst 1, 0, 0, 0, 0), (32, .iastore, 0, 0, 0, 0), (33, .dup, 0, 0, 0, 0), (34, .iconst 4, 0, 0, 0, 0), (35, .iconst 1, 0, 0, 0, 0), (36, .iastore, 0, 0, 0, 0), (37, .dup, 0, 0, 0, 0), (38, .iconst 5, 0, 0, 0, 0), (39, .iconst 1, 0, 0, 0, 0), (40, .iastore, 0, 0, 0, 0), (41, .dup, 0, 0, 0, 0), (42, .bipush 6, 0, 0, 0, 0), (44, .iconst 1, 0, 0, 0, 0), (45, .iastore, 0, 0, 0, 0), (46, .dup, 0, 0, 0, 0), (47, .bipush 7, 0, 0, 0, 0), (49, .iconst 1, 0, 0, 0, 0), (50, .iastore, 0, 0, 0, 0), (51, .dup, 0, 0, 0, 0), (52, .bipush 8, 0, 0, 0, 0), (54, .iconst 1, 0, 0, 0, 0), (55, .iastore, 0, 0, 0, 0), (56, .putfield 24, 7, 2, 0, 877), (59, .aload_n 0, 0, 0, 0, 0), (60, .bipush 9, 0, 0, 0, 0), (62, .putfield 28, 7, 3, 0, 878), (65, .iconst 0, 0, 0, 0, 0), (66, .istore_n 1, 0, 0, 0, 0), (67, .iload_n 1, 0, 0, 0, 0), (68, .iconst 4, 0, 0, 0, 0), (69, .if_icmp .ge 23, 92, 0, 0, 0), (72, .aload_n 0, 0, 0, 0, 0), (73, .getfield 20, 7, 1, 0, 876), (76, .iload_n 1, 0, 0, 0, 0), (77, .bipush 8, 0, 0, 0, 0), (79, .bipush 8, 0, 0, 0, 0), (81, .iconst 0, 0, 0, 0, 0), (82, .invokestatic 32, 108, 853, 1, 0), (85, .aastore, 0, 0, 0, 0), (86, .iinc 1 1, 0, 0, 0, 0), (89, .goto (-22), 67, 0, 0, 0), (92, .return_, 0, 0, 0, 0)]
/-- ParallaxSheetsModel thrown -/
def m_p_144 : List m_I := [(0, .aload_n 0, 0, 0, 0, 0), (1, .getfield 36, 7, 0, 0, 875), (4, .ireturn, 0, 0, 0, 0)]
/-- ParallaxSheetsModel isIn -/
def m_p_145 : List m_I := [(0, .iload_n 0, 0, 0, 0, 0), (1, .iload_n 1, 0, 0, 0, 0), (2, .if_icmp .lt 12, 14, 0, 0, 0), (5, .iload_n 0, 0, 0, 0, 0), (6, .iload_n 2, 0, 0, 0, 0), (7, .if_icmp .gt 7, 14, 0, 0, 0), (10, .iconst 1, 0, 0, 0, 0), (11, .goto 4, 15, 0, 0, 0), (14, .iconst 0, 0, 0, 0, 0), (15, .ireturn, 0, 0, 0, 0)]
/-- ParallaxSheetsModel refuse -/
def m_p_146 : List m_I := [(0, .iload_n 1, 0, 0, 0, 0), (1, .ifCond .eq 15, 16, 0, 0, 0), (4, .aload_n 0, 0, 0, 0, 0), (5, .getfield 36, 7, 0, 0, 875), (8, .ifCond .ne 8, 16, 0, 0, 0), (11, .aload_n 0, 0, 0, 0, 0), (12, .iload_n 2, 0, 0, 0, 0), (13, .putfield 36, 7, 0, 0, 875), (16, .aload_n 0, 0, 0, 0, 0), (17, .getfield 36, 7, 0, 0, 875), (20, .ifCond .le 7, 27, 0, 0, 0), (23, .iconst 1, 0, 0, 0, 0), (24, .goto 4, 28, 0, 0, 0), (27, .iconst 0, 0, 0, 0, 0), (28, .ireturn, 0, 0, 0, 0)]
/-- ParallaxSheetsModel start -/
def m_p_147 : List m_I := [(0, .aload_n 0, 0, 0, 0, 0), (1, .iconst 0, 0, 0, 0, 0), (2, .putfield 36, 7, 0, 0, 875), (5, .aload_n 0, 0, 0, 0, 0), (6, .iload_n 1, 0, 0, 0, 0), (7, .iload_n 2, 0, 0, 0, 0), (8, .invokevirtual 39, 146, 913, 1, 0), (11, .ireturn, 0, 0, 0, 0)]
/-- ParallaxSheetsModel isNo -/
def m_p_148 : List m_I := [(0, .iload_n 0, 0, 0, 0, 0), (1, .iconst 0, 0, 0, 0, 0), (2, .iconst 3, 0, 0, 0, 0), (3, .invokestatic 43, 145, 906, 1, 0), (6, .ifCond .ne 7, 13, 0, 0, 0), (9, .iconst 1, 0, 0, 0, 0), (10, .goto 4, 14, 0, 0, 0), (13, .iconst 0, 0, 0, 0, 0), (14, .ireturn, 0, 0, 0, 0)]
/-- ParallaxSheetsModel isNoSheet -/
def m_p_149 : List m_I := [(0, .aload_n 0, 0, 0, 0, 0), (1, .iload_n 1, 0, 0, 0, 0), (2, .invokestatic 47, 148, 903, 1, 0), (5, .iconst 1, 0, 0, 0, 0), (6, .invokevirtual 51, 147, 909, 1, 0), (9, .ireturn, 0, 0, 0, 0)]
/-- ParallaxSheetsModel isNoField -/
def m_p_150 : List m_I := [(0, .aload_n 0, 0, 0, 0, 0), (1, .iload_n 1, 0, 0, 0, 0), (2, .invokestatic 47, 148, 903, 1, 0), (5, .ifCond .ne 17, 22, 0, 0, 0), (8, .aload_n 0, 0, 0, 0, 0), (9, .getfield 20, 7, 1, 0, 876), (12, .iload_n 1, 0, 0, 0, 0), (13, .aaload, 0, 0, 0, 0), (14, .iload_n 2, 0, 0, 0, 0), (15, .iload_n 3, 0, 0, 0, 0), (16, .invokevirtual 54, 111, 928, 1, 0), (19, .ifCond .ne 7, 26, 0, 0, 0), (22, .iconst 1, 0, 0, 0, 0), (23, .goto 4, 27, 0, 0, 0), (26, .iconst 0, 0, 0, 0, 0), (27, .iconst 1, 0, 0, 0, 0), (28, .invokevirtual 51, 147, 909, 1, 0), (31, .ireturn, 0, 0, 0, 0)]
/-- ParallaxSheetsModel isNoValue -/
def m_p_151 : List m_I := [(0, .iload_n 0, 0, 0, 0, 0), (1, .iconst 0, 0, 0, 0, 0), (2, .sipush 255, 0, 0, 0, 0), (5, .invokestatic 43, 145, 906, 1, 0), (8, .ifCond .ne 7, 15, 0, 0, 0), (11, .iconst 1, 0, 0, 0, 0), (12, .goto 4, 16, 0, 0, 0), (15, .iconst 0, 0, 0, 0, 0), (16, .ireturn, 0, 0, 0, 0)]
/-- ParallaxSheetsModel take -/
def m_p_152 : List m_I := [(0, .aload_n 2, 0, 0, 0, 0), (1, .aload_n 0, 0, 0, 0, 0), (2, .getfield 20, 7, 1, 0, 876), (5, .iload_n 1, 0, 0, 0, 0), (6, .aaload, 0, 0, 0, 0), (7, .invokevirtual 57, 113, 953, 1, 0), (10, .istore_n 3, 0, 0, 0, 0), (11, .aload_n 0, 0, 0, 0, 0), (12, .getfield 20, 7, 1, 0, 876), (15, .iload_n 1, 0, 0, 0, 0), (16, .aload_n 2, 0, 0, 0, 0), (17, .aastore, 0, 0, 0, 0), (18, .iload_n 3, 0, 0, 0, 0), (19, .ireturn, 0, 0, 0, 0)]
/-- ParallaxSheetsModel fresh -/
def m_p_153 : List m_I := [(0, .aload_n 0, 0, 0, 0, 0), (1, .iload_n 1, 0, 0, 0, 0), (2, .invokevirtual 61, 149, 899, 1, 0), (5, .ifCond .ne 44, 49, 0, 0, 0), (8, .aload_n 0, 0, 0, 0, 0), (9, .iload_n 2, 0, 0, 0, 0), (10, .iconst 1, 0, 0, 0, 0), (11, .bipush 16, 0, 0, 0, 0), (13, .invokestatic 43, 145, 906, 1, 0), (16, .ifCond .eq 21, 37, 0, 0, 0), (19, .iload_n 3, 0, 0, 0, 0), (20, .iconst 1, 0, 0, 0, 0), (21, .bipush 16, 0, 0, 0, 0), (23, .invokestatic 43, 145, 906, 1, 0), (26, .ifCond .eq 11, 37, 0, 0, 0), (29, .iload 4, 0, 0, 0, 0), (31, .invokestatic 64, 151, 917, 1, 0), (34, .ifCond .eq 7, 41, 0, 0, 0), (37, .iconst 1, 0, 0, 0, 0), (38, .goto 4, 42, 0, 0, 0), (41, .iconst 0, 0, 0, 0, 0), (42, .iconst 2, 0, 0, 0, 0), (43, .invokevirtual 39, 146, 913, 1, 0), (46, .ifCond .eq 5, 51, 0, 0, 0), (49, .iconst 0, 0, 0, 0, 0), (50, .ireturn, 0, 0, 0, 0), (51, .aload_n 0, 0, 0, 0, 0), (52, .getfield 20, 7, 1, 0, 876), (55, .iload_n 1, 0, 0, 0, 0), (56, .iload_n 2, 0, 0, 0, 0), (57, .iload_n 3, 0, 0, 0, 0), (58, .iload 4, 0, 0, 0, 0), (60, .invokestatic 32, 108, 853, 1, 0), (63, .aastore, 0, 0, 0, 0), (64, .iload_n 2, 0, 0, 0, 0), (65, .iload_n 3, 0, 0, 0, 0), (66, .imul, 0, 0, 0, 0), (67, .ireturn, 0, 0, 0, 0)]
/-- ParallaxSheetsModel dot -/
def m_p_154 : List m_I := [(0, .aload_n 0, 0, 0, 0, 0), (1, .iload_n 1, 0, 0, 0, 0), (2, .iload_n 2, 0, 0, 0, 0), (3, .iload_n 3, 0, 0, 0, 0), (4, .invokevirtual 67, 150, 924, 1, 0), (7, .ifCond .ne 16, 23, 0, 0, 0), (10, .aload_n 0, 0, 0, 0, 0), (11, .iload 4, 0, 0, 0, 0), (13, .invokestatic 64, 151, 917, 1, 0), (16, .iconst 2, 0, 0, 0, 0), (17, .invokevirtual 39, 146, 913, 1, 0), (20, .ifCond .eq 5, 25, 0, 0, 0), (23, .iconst 0, 0, 0, 0, 0), (24, .ireturn, 0, 0, 0, 0), (25, .aload_n 0, 0, 0, 0, 0), (26, .getfield 20, 7, 1, 0, 876), (29, .iload_n 1, 0, 0, 0, 0), (30, .aaload, 0, 0, 0, 0), (31, .iload_n 2, 0, 0, 0, 0), (32, .iload_n 3, 0, 0, 0, 0), (33, .invokevirtual 70, 112, 932, 1, 0), (36, .istore 5, 0, 0, 0, 0), (38, .aload_n 0, 0, 0, 0, 0), (39, .getfield 20, 7, 1, 0, 876), (42, .iload_n 1, 0, 0, 0, 0), (43, .aaload, 0, 0, 0, 0), (44, .getfield 73, 6, 2, 0, 867), (47, .invokevirtual 76, 0, 938, 10, 0), (50, .checkcast 77, 0, 944, 0, 0), (53, .astore 6, 0, 0, 0, 0), (55, .aload 6, 0, 0, 0, 0), (57, .iload_n 3, 0, 0, 0, 0), (58, .aload_n 0, 0, 0, 0, 0), (59, .getfield 20, 7, 1, 0, 876), (62, .iload_n 1, 0, 0, 0, 0), (63, .aaload, 0, 0, 0, 0), (64, .getfield 81, 6, 0, 0, 863), (67, .imul, 0, 0, 0, 0), (68, .iload_n 2, 0, 0, 0, 0), (69, .iadd, 0, 0, 0, 0), (70, .iload 4, 0, 0, 0, 0), (72, .iastore, 0, 0, 0, 0), (73, .aload_n 0, 0, 0, 0, 0), (74, .iload_n 1, 0, 0, 0, 0), (75, .aload_n 0, 0, 0, 0, 0), (76, .getfield 20, 7, 1, 0, 876), (79, .iload_n 1, 0, 0, 0, 0), (80, .aaload, 0, 0, 0, 0), (81, .aload 6, 0, 0, 0, 0), (83, .invokevirtual 84, 109, 945, 1, 0), (86, .invokevirtual 88, 152, 949, 1, 0), (89, .pop, 0, 0, 0, 0), (90, .iload 5, 0, 0, 0, 0), (92, .ireturn, 0, 0, 0, 0)]
/-- ParallaxSheetsModel box -/
def m_p_155 : List m_I := [(0, .aload_n 0, 0, 0, 0, 0), (1, .iload_n 1, 0, 0, 0, 0), (2, .iload_n 2, 0, 0, 0, 0), (3, .iload_n 3, 0, 0, 0, 0), (4, .invokevirtual 67, 150, 924, 1, 0), (7, .ifCond .ne 45, 52, 0, 0, 0), (10, .aload_n 0, 0, 0, 0, 0), (11, .aload_n 0, 0, 0, 0, 0), (12, .getfield 20, 7, 1, 0, 876), (15, .iload_n 1, 0, 0, 0, 0), (16, .aaload, 0, 0, 0, 0), (17, .iload 4, 0, 0, 0, 0), (19, .iload 5, 0, 0, 0, 0), (21, .invokevirtual 54, 111, 928, 1, 0), (24, .ifCond .ne 7, 31, 0, 0, 0), (27, .iconst 1, 0, 0, 0, 0), (28, .goto 4, 32, 0, 0, 0), (31, .iconst 0, 0, 0, 0, 0), (32, .iconst 1, 0, 0, 0, 0), (33, .invokevirtual 39, 146, 913, 1, 0), (36, .ifCond .ne 16, 52, 0, 0, 0), (39, .aload_n 0, 0, 0, 0, 0), (40, .iload 6, 0, 0, 0, 0), (42, .invokestatic 64, 151, 917, 1, 0), (45, .iconst 2, 0, 0, 0, 0), (46, .invokevirtual 39, 146, 913, 1, 0), (49, .ifCond .eq 5, 54, 0, 0, 0), (52, .iconst 0, 0, 0, 0, 0), (53, .ireturn, 0, 0, 0, 0), (54, .aload_n 0, 0, 0, 0, 0), (55, .getfield 20, 7, 1, 0, 876), (58, .iload_n 1, 0, 0, 0, 0), (59, .aaload, 0, 0, 0, 0), (60, .astore 7, 0, 0, 0, 0), (62, .aload 7, 0, 0, 0, 0), (64, .getfield 73, 6, 2, 0, 867), (67, .invokevirtual 76, 0, 938, 10, 0), (70, .checkcast 77, 0, 944, 0, 0), (73, .astore 8, 0, 0, 0, 0), (75, .iconst 0, 0, 0, 0, 0), (76, .istore 9, 0, 0, 0, 0), (78, .iload 9, 0, 0, 0, 0), (80, .aload 8, 0, 0, 0, 0), (82, .arraylength, 0, 0, 0, 0), (83, .if_icmp .ge 68, 151, 0, 0, 0), (86, .iload 9, 0, 0, 0, 0), (88, .aload 7, 0, 0, 0, 0), (90, .getfield 81, 6, 0, 0, 863), (93, .irem, 0, 0, 0, 0), (94, .iload_n 2, 0, 0, 0, 0), (95, .iload 4, 0, 0, 0, 0), (97, .invokestatic 3, 0, 965, 4, 0), (100, .iload_n 2, 0, 0, 0, 0), (101, .iload 4, 0, 0, 0, 0), (103, .invokestatic 9, 0, 966, 3, 0), (106, .invokestatic 43, 145, 906, 1, 0), (109, .ifCond .eq 36, 145, 0, 0, 0), (112, .iload 9, 0, 0, 0, 0), (114, .aload 7, 0, 0, 0, 0), (116, .getfield 81, 6, 0, 0, 863), (119, .idiv, 0, 0, 0, 0), (120, .iload_n 3, 0, 0, 0, 0), (121, .iload 5, 0, 0, 0, 0), (123, .invokestatic 3, 0, 965, 4, 0), (126, .iload_n 3, 0, 0, 0, 0), (127, .iload 5, 0, 0, 0, 0), (129, .invokestatic 9, 0, 966, 3, 0), (132, .invokestatic 43, 145, 906, 1, 0), (135, .ifCond .eq 10, 145, 0, 0, 0), (138, .aload 8, 0, 0, 0, 0), (140, .iload 9, 0, 0, 0, 0), (142, .iload 6, 0, 0, 0, 0), (144, .iastore, 0, 0, 0, 0), (145, .iinc 9 1, 0, 0, 0, 0), (148, .goto (-70), 78, 0, 0, 0), (151, .aload_n 0, 0, 0, 0, 0), (152, .iload_n 1, 0, 0, 0, 0), (153, .aload 7, 0, 0, 0, 0), (155, .aload 8, 0, 0, 0, 0), (157, .invokevirtual 84, 109, 945, 1, 0), (160, .invokevirtual 88, 152, 949, 1, 0), (163, .ireturn, 0, 0, 0, 0)]
/-- ParallaxSheetsModel disc -/
def m_p_156 : List m_I := [(0, .aload_n 0, 0, 0, 0, 0), (1, .iload_n 1, 0, 0, 0, 0), (2, .iload_n 2, 0, 0, 0, 0), (3, .iload_n 3, 0, 0, 0, 0), (4, .invokevirtual 67, 150, 924, 1, 0), (7, .ifCond .ne 35, 42, 0, 0, 0), (10, .aload_n 0, 0, 0, 0, 0), (11, .iload 4, 0, 0, 0, 0), (13, .iconst 0, 0, 0, 0, 0), (14, .bipush 20, 0, 0, 0, 0), (16, .invokestatic 43, 145, 906, 1, 0), (19, .ifCond .eq 11, 30, 0, 0, 0), (22, .iload 5, 0, 0, 0, 0), (24, .invokestatic 64, 151, 917, 1, 0), (27, .ifCond .eq 7, 34, 0, 0, 0), (30, .iconst 1, 0, 0, 0, 0), (31, .goto 4, 35, 0, 0, 0), (34, .iconst 0, 0, 0, 0, 0), (35, .iconst 2, 0, 0, 0, 0), (36, .invokevirtual 39, 146, 913, 1, 0), (39, .ifCond .eq 5, 44, 0, 0, 0), (42, .iconst 0, 0, 0, 0, 0), (43, .ireturn, 0, 0, 0, 0), (44, .aload_n 0, 0, 0, 0, 0), (45, .getfield 20, 7, 1, 0, 876), (48, .iload_n 1, 0, 0, 0, 0), (49, .aaload, 0, 0, 0, 0), (50, .astore 6, 0, 0, 0, 0), (52, .aload 6, 0, 0, 0, 0), (54, .getfield 73, 6, 2, 0, 867), (57, .invokevirtual 76, 0, 938, 10, 0), (60, .checkcast 77, 0, 944, 0, 0), (63, .astore 7, 0, 0, 0, 0), (65, .iconst 0, 0, 0, 0, 0), (66, .istore 8, 0, 0, 0, 0), (68, .iload 8, 0, 0, 0, 0), (70, .aload 7, 0, 0, 0, 0), (72, .arraylength, 0, 0, 0, 0), (73, .if_icmp .ge 48, 121, 0, 0, 0), (76, .iconst 2, 0, 0, 0, 0), (77, .iload 8, 0, 0, 0, 0), (79, .aload 6, 0, 0, 0, 0), (81, .getfield 81, 6, 0, 0, 863), (84, .irem, 0, 0, 0, 0), (85, .iload_n 2, 0, 0, 0, 0), (86, .isub, 0, 0, 0, 0), (87, .iload 8, 0, 0, 0, 0), (89, .aload 6, 0, 0, 0, 0), (91, .getfield 81, 6, 0, 0, 863), (94, .idiv, 0, 0, 0, 0), (95, .iload_n 3, 0, 0, 0, 0), (96, .isub, 0, 0, 0, 0), (97, .invokestatic 92, 135, 971, 2, 0), (100, .iload 4, 0, 0, 0, 0), (102, .iload 4, 0, 0, 0, 0), (104, .imul, 0, 0, 0, 0), (105, .if_icmp .gt 10, 115, 0, 0, 0), (108, .aload 7, 0, 0, 0, 0), (110, .iload 8, 0, 0, 0, 0), (112, .iload 5, 0, 0, 0, 0), (114, .iastore, 0, 0, 0, 0), (115, .iinc 8 1, 0, 0, 0, 0), (118, .goto (-50), 68, 0, 0, 0), (121, .aload_n 0, 0, 0, 0, 0), (122, .iload_n 1, 0, 0, 0, 0), (123, .aload 6, 0, 0, 0, 0), (125, .aload 7, 0, 0, 0, 0), (127, .invokevirtual 84, 109, 945, 1, 0), (130, .invokevirtual 88, 152, 949, 1, 0), (133, .ireturn, 0, 0, 0, 0)]
/-- ParallaxSheetsModel shade -/
def m_p_157 : List m_I := [(0, .aload_n 0, 0, 0, 0, 0), (1, .iload_n 1, 0, 0, 0, 0), (2, .invokevirtual 61, 149, 899, 1, 0), (5, .ifCond .ne 50, 55, 0, 0, 0), (8, .aload_n 0, 0, 0, 0, 0), (9, .iload_n 2, 0, 0, 0, 0), (10, .bipush (-50), 0, 0, 0, 0), (12, .bipush 50, 0, 0, 0, 0), (14, .invokestatic 43, 145, 906, 1, 0), (17, .ifCond .eq 26, 43, 0, 0, 0), (20, .iload_n 3, 0, 0, 0, 0), (21, .bipush (-50), 0, 0, 0, 0), (23, .bipush 50, 0, 0, 0, 0), (25, .invokestatic 43, 145, 906, 1, 0), (28, .ifCond .eq 15, 43, 0, 0, 0), (31, .iload 4, 0, 0, 0, 0), (33, .bipush (-50), 0, 0, 0, 0), (35, .bipush 50, 0, 0, 0, 0), (37, .invokestatic 43, 145, 906, 1, 0), (40, .ifCond .ne 7, 47, 0, 0, 0), (43, .iconst 1, 0, 0, 0, 0), (44, .goto 4, 48, 0, 0, 0), (47, .iconst 0, 0, 0, 0, 0), (48, .iconst 2, 0, 0, 0, 0), (49, .invokevirtual 39, 146, 913, 1, 0), (52, .ifCond .eq 5, 57, 0, 0, 0), (55, .iconst 0, 0, 0, 0, 0), (56, .ireturn, 0, 0, 0, 0), (57, .aload_n 0, 0, 0, 0, 0), (58, .getfield 20, 7, 1, 0, 876), (61, .iload_n 1, 0, 0, 0, 0), (62, .aaload, 0, 0, 0, 0), (63, .astore 5, 0, 0, 0, 0), (65, .aload 5, 0, 0, 0, 0), (67, .getfield 73, 6, 2, 0, 867), (70, .invokevirtual 76, 0, 938, 10, 0), (73, .checkcast 77, 0, 944, 0, 0), (76, .astore 6, 0, 0, 0, 0), (78, .iconst 0, 0, 0, 0, 0), (79, .istore 7, 0, 0, 0, 0), (81, .iload 7, 0, 0, 0, 0), (83, .aload 6, 0, 0, 0, 0), (85, .arraylength, 0, 0, 0, 0), (86, .if_icmp .ge 77, 163, 0, 0, 0), (89, .iload 7, 0, 0, 0, 0), (91, .aload 5, 0, 0, 0, 0), (93, .getfield 81, 6, 0, 0, 863), (96, .irem, 0, 0, 0, 0), (97, .istore 8, 0, 0, 0, 0), (99, .iload 7, 0, 0, 0, 0), (101, .aload 5, 0, 0, 0, 0), (103, .getfield 81, 6, 0, 0, 863), (106, .idiv, 0, 0, 0, 0), (107, .istore 9, 0, 0, 0, 0), (109, .aload 6, 0, 0, 0, 0), (111, .iload 7, 0, 0, 0, 0), (113, .aload 6, 0, 0, 0, 0), (115, .iload 7, 0, 0, 0, 0), (117, .iaload, 0, 0, 0, 0), (118, .iload_n 2, 0, 0, 0, 0), (119, .iload 8, 0, 0, 0, 0), (121, .imul, 0, 0, 0, 0), (122, .iadd, 0, 0, 0, 0), (123, .iload_n 3, 0, 0, 0, 0), (124, .iload 9, 0, 0, 0, 0), (126, .imul, 0, 0, 0, 0), (127, .iadd, 0, 0, 0, 0), (128, .iload 8, 0, 0, 0, 0), (130, .iconst 5, 0, 0, 0, 0), (131, .imul, 0, 0, 0, 0), (132, .iload 9, 0, 0, 0, 0), (134, .bipush 11, 0, 0, 0, 0), (136, .imul, 0, 0, 0, 0), (137, .iadd, 0, 0, 0, 0), (138, .iload 8, 0, 0, 0, 0), (140, .iload 9, 0, 0, 0, 0), (142, .imul, 0, 0, 0, 0), (143, .iconst 3, 0, 0, 0, 0), (144, .imul, 0, 0, 0, 0), (145, .iadd, 0, 0, 0, 0), (146, .bipush 13, 0, 0, 0, 0), (148, .irem, 0, 0, 0, 0), (149, .iload 4, 0, 0, 0, 0), (151, .imul, 0, 0, 0, 0), (152, .iadd, 0, 0, 0, 0), (153, .invokestatic 96, 142, 979, 1, 0), (156, .iastore, 0, 0, 0, 0), (157, .iinc 7 1, 0, 0, 0, 0), (160, .goto (-79), 81, 0, 0, 0), (163, .aload_n 0, 0, 0, 0, 0), (164, .iload_n 1, 0, 0, 0, 0), (165, .aload 5, 0, 0, 0, 0), (167, .aload 6, 0, 0, 0, 0), (169, .invokevirtual 84, 109, 945, 1, 0), (172, .invokevirtual 88, 152, 949, 1, 0), (175, .pop, 0, 0, 0, 0), (176, .aload_n 0, 0, 0, 0, 0), (177, .getfield 20, 7, 1, 0, 876), (180, .iload_n 1, 0, 0, 0, 0), (181, .aaload, 0, 0, 0, 0), (182, .invokevirtual 100, 117, 982, 1, 0), (185, .ireturn, 0, 0, 0, 0)]
/-- ParallaxSheetsModel copy -/
def m_p_158 : List m_I := [(0, .aload_n 0, 0, 0, 0, 0), (1, .iload_n 1, 0, 0, 0, 0), (2, .invokestatic 47, 148, 903, 1, 0), (5, .ifCond .ne 10, 15, 0, 0, 0), (8, .iload_n 2, 0, 0, 0, 0), (9, .invokestatic 47, 148, 903, 1, 0), (12, .ifCond .eq 7, 19, 0, 0, 0), (15, .iconst 1, 0, 0, 0, 0), (16, .goto 4, 20, 0, 0, 0), (19, .iconst 0, 0, 0, 0, 0), (20, .iconst 1, 0, 0, 0, 0), (21, .invokevirtual 51, 147, 909, 1, 0), (24, .ifCond .eq 5, 29, 0, 0, 0), (27, .iconst 0, 0, 0, 0, 0), (28, .ireturn, 0, 0, 0, 0), (29, .aload_n 0, 0, 0, 0, 0), (30, .getfield 20, 7, 1, 0, 876), (33, .iload_n 1, 0, 0, 0, 0), (34, .aaload, 0, 0, 0, 0), (35, .aload_n 0, 0, 0, 0, 0), (36, .getfield 20, 7, 1, 0, 876), (39, .iload_n 2, 0, 0, 0, 0), (40, .aaload, 0, 0, 0, 0), (41, .invokevirtual 104, 114, 990, 1, 0), (44, .istore_n 3, 0, 0, 0, 0), (45, .iload_n 3, 0, 0, 0, 0), (46, .ifCond .eq 21, 67, 0, 0, 0), (49, .aload_n 0, 0, 0, 0, 0), (50, .getfield 20, 7, 1, 0, 876), (53, .iload_n 1, 0, 0, 0, 0), (54, .aaload, 0, 0, 0, 0), (55, .aload_n 0, 0, 0, 0, 0), (56, .getfield 20, 7, 1, 0, 876), (59, .iload_n 2, 0, 0, 0, 0), (60, .aaload, 0, 0, 0, 0), (61, .invokevirtual 57, 113, 953, 1, 0), (64, .goto 4, 68, 0, 0, 0), (67, .iconst (-1), 0, 0, 0, 0), (68, .istore 4, 0, 0, 0, 0), (70, .aload_n 0, 0, 0, 0, 0), (71, .getfield 20, 7, 1, 0, 876), (74, .iload_n 2, 0, 0, 0, 0), (75, .aload_n 0, 0, 0, 0, 0), (76, .getfield 20, 7, 1, 0, 876), (79, .iload_n 1, 0, 0, 0, 0), (80, .aaload, 0, 0, 0, 0), (81, .aastore, 0, 0, 0, 0), (82, .iload 4, 0, 0, 0, 0), (84, .ireturn, 0, 0, 0, 0)]
/-- ParallaxSheetsModel mix -/
def m_p_159 : List m_I := [(0, .aload_n 0, 0, 0, 0, 0), (1, .iload_n 1, 0, 0, 0, 0), (2, .invokestatic 47, 148, 903, 1, 0), (5, .ifCond .ne 10, 15, 0, 0, 0), (8, .iload_n 2, 0, 0, 0, 0), (9, .invokestatic 47, 148, 903, 1, 0), (12, .ifCond .eq 7, 19, 0, 0, 0), (15, .iconst 1, 0, 0, 0, 0), (16, .goto 4, 20, 0, 0, 0), (19, .iconst 0, 0, 0, 0, 0), (20, .iconst 1, 0, 0, 0, 0), (21, .invokevirtual 51, 147, 909, 1, 0), (24, .ifCond .ne 57, 81, 0, 0, 0), (27, .aload_n 0, 0, 0, 0, 0), (28, .iload_n 3, 0, 0, 0, 0), (29, .iconst 0, 0, 0, 0, 0), (30, .bipush 100, 0, 0, 0, 0), (32, .invokestatic 43, 145, 906, 1, 0), (35, .ifCond .ne 7, 42, 0, 0, 0), (38, .iconst 1, 0, 0, 0, 0), (39, .goto 4, 43, 0, 0, 0), (42, .iconst 0, 0, 0, 0, 0), (43, .iconst 2, 0, 0, 0, 0), (44, .invokevirtual 39, 146, 913, 1, 0), (47, .ifCond .ne 34, 81, 0, 0, 0), (50, .aload_n 0, 0, 0, 0, 0), (51, .aload_n 0, 0, 0, 0, 0), (52, .getfield 20, 7, 1, 0, 876), (55, .iload_n 1, 0, 0, 0, 0), (56, .aaload, 0, 0, 0, 0), (57, .aload_n 0, 0, 0, 0, 0), (58, .getfield 20, 7, 1, 0, 876), (61, .iload_n 2, 0, 0, 0, 0), (62, .aaload, 0, 0, 0, 0), (63, .invokevirtual 104, 114, 990, 1, 0), (66, .ifCond .ne 7, 73, 0, 0, 0), (69, .iconst 1, 0, 0, 0, 0), (70, .goto 4, 74, 0, 0, 0), (73, .iconst 0, 0, 0, 0, 0), (74, .iconst 3, 0, 0, 0, 0), (75, .invokevirtual 39, 146, 913, 1, 0), (78, .ifCond .eq 5, 83, 0, 0, 0), (81, .iconst 0, 0, 0, 0, 0), (82, .ireturn, 0, 0, 0, 0), (83, .aload_n 0, 0, 0, 0, 0), (84, .getfield 20, 7, 1, 0, 876), (87, .iload_n 1, 0, 0, 0, 0), (88, .aaload, 0, 0, 0, 0), (89, .getfield 73, 6, 2, 0, 867), (92, .invokevirtual 76, 0, 938, 10, 0), (95, .checkcast 77, 0, 944, 0, 0), (98, .astore 4, 0, 0, 0, 0), (100, .iconst 0, 0, 0, 0, 0), (101, .istore 5, 0, 0, 0, 0), (103, .iload 5, 0, 0, 0, 0), (105, .aload 4, 0, 0, 0, 0), (107, .arraylength, 0, 0, 0, 0), (108, .if_icmp .ge 42, 150, 0, 0, 0), (111, .aload 4, 0, 0, 0, 0), (113, .iload 5, 0, 0, 0, 0), (115, .aload 4, 0, 0, 0, 0), (117, .iload 5, 0, 0, 0, 0), (119, .iaload, 0, 0, 0, 0), (120, .bipush 100, 0, 0, 0, 0), (122, .iload_n 3, 0, 0, 0, 0), (123, .isub, 0, 0, 0, 0), (124, .imul, 0, 0, 0, 0), (125, .aload_n 0, 0, 0, 0, 0), (126, .getfield 20, 7, 1, 0, 876), (129, .iload_n 2, 0, 0, 0, 0), (130, .aaload, 0, 0, 0, 0), (131, .getfield 73, 6, 2, 0, 867), (134, .iload 5, 0, 0, 0, 0), (136, .iaload, 0, 0, 0, 0), (137, .iload_n 3, 0, 0, 0, 0), (138, .imul, 0, 0, 0, 0), (139, .iadd, 0, 0, 0, 0), (140, .bipush 100, 0, 0, 0, 0), (142, .idiv, 0, 0, 0, 0), (143, .iastore, 0, 0, 0, 0), (144, .iinc 5 1, 0, 0, 0, 0), (147, .goto (-44), 103, 0, 0, 0), (150, .aload_n 0, 0, 0, 0, 0), (151, .iload_n 1, 0, 0, 0, 0), (152, .aload_n 0, 0, 0, 0, 0), (153, .getfield 20, 7, 1, 0, 876), (156, .iload_n 1, 0, 0, 0, 0), (157, .aaload, 0, 0, 0, 0), (158, .aload 4, 0, 0, 0, 0), (160, .invokevirtual 84, 109, 945, 1, 0), (163, .invokevirtual 88, 152, 949, 1, 0), (166, .ireturn, 0, 0, 0, 0)]
/-- ParallaxSheetsModel turned -/
def m_p_160 : List m_I := [(0, .iload_n 1, 0, 0, 0, 0), (1, .ifCond .ne 10, 11, 0, 0, 0), (4, .aload_n 0, 0, 0, 0, 0), (5, .getfield 108, 6, 1, 0, 865), (8, .goto 39, 47, 0, 0, 0), (11, .iload_n 1, 0, 0, 0, 0), (12, .iconst 1, 0, 0, 0, 0), (13, .if_icmp .ne 10, 23, 0, 0, 0), (16, .aload_n 0, 0, 0, 0, 0), (17, .getfield 81, 6, 0, 0, 863), (20, .goto 27, 47, 0, 0, 0), (23, .iload_n 1, 0, 0, 0, 0), (24, .iconst 2, 0, 0, 0, 0), (25, .if_icmp .ne 16, 41, 0, 0, 0), (28, .iconst 1, 0, 0, 0, 0), (29, .aload_n 0, 0, 0, 0, 0), (30, .getfield 81, 6, 0, 0, 863), (33, .iconst 2, 0, 0, 0, 0), (34, .idiv, 0, 0, 0, 0), (35, .invokestatic 9, 0, 966, 3, 0), (38, .goto 9, 47, 0, 0, 0), (41, .iconst 2, 0, 0, 0, 0), (42, .aload_n 0, 0, 0, 0, 0), (43, .getfield 81, 6, 0, 0, 863), (46, .imul, 0, 0, 0, 0), (47, .istore_n 2, 0, 0, 0, 0), (48, .iload_n 1, 0, 0, 0, 0), (49, .ifCond .ne 10, 59, 0, 0, 0), (52, .aload_n 0, 0, 0, 0, 0), (53, .getfield 81, 6, 0, 0, 863), (56, .goto 39, 95, 0, 0, 0), (59, .iload_n 1, 0, 0, 0, 0), (60, .iconst 1, 0, 0, 0, 0), (61, .if_icmp .ne 10, 71, 0, 0, 0), (64, .aload_n 0, 0, 0, 0, 0), (65, .getfield 108, 6, 1, 0, 865), (68, .goto 27, 95, 0, 0, 0), (71, .iload_n 1, 0, 0, 0, 0), (72, .iconst 2, 0, 0, 0, 0), (73, .if_icmp .ne 16, 89, 0, 0, 0), (76, .iconst 1, 0, 0, 0, 0), (77, .aload_n 0, 0, 0, 0, 0), (78, .getfield 108, 6, 1, 0, 865), (81, .iconst 2, 0, 0, 0, 0), (82, .idiv, 0, 0, 0, 0), (83, .invokestatic 9, 0, 966, 3, 0), (86, .goto 9, 95, 0, 0, 0), (89, .iconst 2, 0, 0, 0, 0), (90, .aload_n 0, 0, 0, 0, 0), (91, .getfield 108, 6, 1, 0, 865), (94, .imul, 0, 0, 0, 0), (95, .istore_n 3, 0, 0, 0, 0), (96, .iload_n 2, 0, 0, 0, 0), (97, .iload_n 3, 0, 0, 0, 0), (98, .imul, 0, 0, 0, 0), (99, .newarray .int, 0, 108, 0, 0), (101, .astore 4, 0, 0, 0, 0), (103, .iconst 0, 0, 0, 0, 0), (104, .istore 5, 0, 0, 0, 0), (106, .iload 5, 0, 0, 0, 0), (108, .aload 4, 0, 0, 0, 0), (110, .arraylength, 0, 0, 0, 0), (111, .if_icmp .ge 176, 287, 0, 0, 0), (114, .iload 5, 0, 0, 0, 0), (116, .iload_n 2, 0, 0, 0, 0), (117, .irem, 0, 0, 0, 0), (118, .istore 6, 0, 0, 0, 0), (120, .iload 5, 0, 0, 0, 0), (122, .iload_n 2, 0, 0, 0, 0), (123, .idiv, 0, 0, 0, 0), (124, .istore 7, 0, 0, 0, 0), (126, .iload_n 1, 0, 0, 0, 0), (127, .tableswitch 137 0 2 #[25, 48, 68], 0, 0, 0, 25), (152, .aload 4, 0, 0, 0, 0), (154, .iload 5, 0, 0, 0, 0), (156, .aload_n 0, 0, 0, 0, 0), (157, .iload 7, 0, 0, 0, 0), (159, .aload_n 0, 0, 0, 0, 0), (160, .getfield 108, 6, 1, 0, 865), (163, .iconst 1, 0, 0, 0, 0), (164, .isub, 0, 0, 0, 0), (165, .iload 6, 0, 0, 0, 0), (167, .isub, 0, 0, 0, 0), (168, .invokevirtual 70, 112, 932, 1, 0), (171, .iastore, 0, 0, 0, 0), (172, .goto 109, 281, 0, 0, 0), (175, .aload 4, 0, 0, 0, 0), (177, .iload 5, 0, 0, 0, 0), (179, .aload_n 0, 0, 0, 0, 0), (180, .iload_n 2, 0, 0, 0, 0), (181, .iconst 1, 0, 0, 0, 0), (182, .isub, 0, 0, 0, 0), (183, .iload 6, 0, 0, 0, 0), (185, .isub, 0, 0, 0, 0), (186, .iload 7, 0, 0, 0, 0), (188, .invokevirtual 70, 112, 932, 1, 0), (191, .iastore, 0, 0, 0, 0), (192, .goto 89, 281, 0, 0, 0), (195, .aload 4, 0, 0, 0, 0), (197, .iload 5, 0, 0, 0, 0), (199, .aload_n 0, 0, 0, 0, 0), (200, .iconst 2, 0, 0, 0, 0), (201, .iload 6, 0, 0, 0, 0), (203, .imul, 0, 0, 0, 0), (204, .iconst 2, 0, 0, 0, 0), (205, .iload 7, 0, 0, 0, 0), (207, .imul, 0, 0, 0, 0), (208, .invokevirtual 70, 112, 932, 1, 0), (211, .aload_n 0, 0, 0, 0, 0), (212, .iconst 2, 0, 0, 0, 0), (213, .iload 6, 0, 0, 0, 0), (215, .imul, 0, 0, 0, 0), (216, .iconst 1, 0, 0, 0, 0), (217, .iadd, 0, 0, 0, 0), (218, .iconst 2, 0, 0, 0, 0), (219, .iload 7, 0, 0, 0, 0), (221, .imul, 0, 0, 0, 0), (222, .invokevirtual 70, 112, 932, 1, 0), (225, .iadd, 0, 0, 0, 0), (226, .aload_n 0, 0, 0, 0, 0), (227, .iconst 2, 0, 0, 0, 0), (228, .iload 6, 0, 0, 0, 0), (230, .imul, 0, 0, 0, 0), (231, .iconst 2, 0, 0, 0, 0), (232, .iload 7, 0, 0, 0, 0), (234, .imul, 0, 0, 0, 0), (235, .iconst 1, 0, 0, 0, 0), (236, .iadd, 0, 0, 0, 0), (237, .invokevirtual 70, 112, 932, 1, 0), (240, .iadd, 0, 0, 0, 0), (241, .aload_n 0, 0, 0, 0, 0), (242, .iconst 2, 0, 0, 0, 0), (243, .iload 6, 0, 0, 0, 0), (245, .imul, 0, 0, 0, 0), (246, .iconst 1, 0, 0, 0, 0), (247, .iadd, 0, 0, 0, 0), (248, .iconst 2, 0, 0, 0, 0), (249, .iload 7, 0, 0, 0, 0), (251, .imul, 0, 0, 0, 0), (252, .iconst 1, 0, 0, 0, 0), (253, .iadd, 0, 0, 0, 0), (254, .invokevirtual 70, 112, 932, 1, 0), (257, .iadd, 0, 0, 0, 0), (258, .iconst 4, 0, 0, 0, 0), (259, .idiv, 0, 0, 0, 0), (260, .iastore, 0, 0, 0, 0), (261, .goto 20, 281, 0, 0, 0), (264, .aload 4, 0, 0, 0, 0), (266, .iload 5, 0, 0, 0, 0), (268, .aload_n 0, 0, 0, 0, 0), (269, .iload 6, 0, 0, 0, 0), (271, .iconst 2, 0, 0, 0, 0), (272, .idiv, 0, 0, 0, 0), (273, .iload 7, 0, 0, 0, 0), (275, .iconst 2, 0, 0, 0, 0), (276, .idiv, 0, 0, 0, 0), (277, .invokevirtual 70, 112, 932, 1, 0), (280, .iastore, 0, 0, 0, 0), (281, .iinc 5 1, 0, 0, 0, 0), (284, .goto (-178), 106, 0, 0, 0), (287, .new 18, 6, 851, 0, 0), (290, .dup, 0, 0, 0, 0), (291, .iload_n 2, 0, 0, 0, 0), (292, .iload_n 3, 0, 0, 0, 0), (293, .aload 4, 0, 0, 0, 0), (295, .invokespecial 111, 107, 1005, 1, 0), (298, .areturn, 0, 0, 0, 0)]
/-- ParallaxSheetsModel turn -/
def m_p_161 : List m_I := [(0, .aload_n 0, 0, 0, 0, 0), (1, .iload_n 1, 0, 0, 0, 0), (2, .invokevirtual 61, 149, 899, 1, 0), (5, .ifCond .ne 75, 80, 0, 0, 0), (8, .aload_n 0, 0, 0, 0, 0), (9, .iload_n 2, 0, 0, 0, 0), (10, .iconst 0, 0, 0, 0, 0), (11, .iconst 3, 0, 0, 0, 0), (12, .invokestatic 43, 145, 906, 1, 0), (15, .ifCond .ne 7, 22, 0, 0, 0), (18, .iconst 1, 0, 0, 0, 0), (19, .goto 4, 23, 0, 0, 0), (22, .iconst 0, 0, 0, 0, 0), (23, .iconst 2, 0, 0, 0, 0), (24, .invokevirtual 39, 146, 913, 1, 0), (27, .ifCond .ne 53, 80, 0, 0, 0), (30, .aload_n 0, 0, 0, 0, 0), (31, .iload_n 2, 0, 0, 0, 0), (32, .iconst 3, 0, 0, 0, 0), (33, .if_icmp .ne 39, 72, 0, 0, 0), (36, .iconst 2, 0, 0, 0, 0), (37, .aload_n 0, 0, 0, 0, 0), (38, .getfield 20, 7, 1, 0, 876), (41, .iload_n 1, 0, 0, 0, 0), (42, .aaload, 0, 0, 0, 0), (43, .getfield 81, 6, 0, 0, 863), (46, .imul, 0, 0, 0, 0), (47, .bipush 16, 0, 0, 0, 0), (49, .if_icmp .gt 19, 68, 0, 0, 0), (52, .iconst 2, 0, 0, 0, 0), (53, .aload_n 0, 0, 0, 0, 0), (54, .getfield 20, 7, 1, 0, 876), (57, .iload_n 1, 0, 0, 0, 0), (58, .aaload, 0, 0, 0, 0), (59, .getfield 108, 6, 1, 0, 865), (62, .imul, 0, 0, 0, 0), (63, .bipush 16, 0, 0, 0, 0), (65, .if_icmp .le 7, 72, 0, 0, 0), (68, .iconst 1, 0, 0, 0, 0), (69, .goto 4, 73, 0, 0, 0), (72, .iconst 0, 0, 0, 0, 0), (73, .iconst 3, 0, 0, 0, 0), (74, .invokevirtual 39, 146, 913, 1, 0), (77, .ifCond .eq 5, 82, 0, 0, 0), (80, .iconst 0, 0, 0, 0, 0), (81, .ireturn, 0, 0, 0, 0), (82, .aload_n 0, 0, 0, 0, 0), (83, .getfield 20, 7, 1, 0, 876), (86, .iload_n 1, 0, 0, 0, 0), (87, .aload_n 0, 0, 0, 0, 0), (88, .getfield 20, 7, 1, 0, 876), (91, .iload_n 1, 0, 0, 0, 0), (92, .aaload, 0, 0, 0, 0), (93, .iload_n 2, 0, 0, 0, 0), (94, .invokestatic 114, 160, 1002, 1, 0), (97, .aastore, 0, 0, 0, 0), (98, .aload_n 0, 0, 0, 0, 0), (99, .getfield 20, 7, 1, 0, 876), (102, .iload_n 1, 0, 0, 0, 0), (103, .aaload, 0, 0, 0, 0), (104, .invokevirtual 118, 110, 1006, 1, 0), (107, .ireturn, 0, 0, 0, 0)]
/-- ParallaxSheetsModel kernel -/
def m_p_162 : List m_I := [(0, .aload_n 0, 0, 0, 0, 0), (1, .iload_n 1, 0, 0, 0, 0), (2, .iconst 0, 0, 0, 0, 0), (3, .bipush 8, 0, 0, 0, 0), (5, .invokestatic 43, 145, 906, 1, 0), (8, .ifCond .ne 7, 15, 0, 0, 0), (11, .iconst 1, 0, 0, 0, 0), (12, .goto 4, 16, 0, 0, 0), (15, .iconst 0, 0, 0, 0, 0), (16, .iconst 1, 0, 0, 0, 0), (17, .invokevirtual 51, 147, 909, 1, 0), (20, .ifCond .ne 27, 47, 0, 0, 0), (23, .aload_n 0, 0, 0, 0, 0), (24, .iload_n 2, 0, 0, 0, 0), (25, .bipush (-9), 0, 0, 0, 0), (27, .bipush 9, 0, 0, 0, 0), (29, .invokestatic 43, 145, 906, 1, 0), (32, .ifCond .ne 7, 39, 0, 0, 0), (35, .iconst 1, 0, 0, 0, 0), (36, .goto 4, 40, 0, 0, 0), (39, .iconst 0, 0, 0, 0, 0), (40, .iconst 2, 0, 0, 0, 0), (41, .invokevirtual 39, 146, 913, 1, 0), (44, .ifCond .eq 5, 49, 0, 0, 0), (47, .iconst 0, 0, 0, 0, 0), (48, .ireturn, 0, 0, 0, 0), (49, .aload_n 0, 0, 0, 0, 0), (50, .getfield 24, 7, 2, 0, 877), (53, .iload_n 1, 0, 0, 0, 0), (54, .iaload, 0, 0, 0, 0), (55, .istore_n 3, 0, 0, 0, 0), (56, .aload_n 0, 0, 0, 0, 0), (57, .getfield 24, 7, 2, 0, 877), (60, .iload_n 1, 0, 0, 0, 0), (61, .iload_n 2, 0, 0, 0, 0), (62, .iastore, 0, 0, 0, 0), (63, .iload_n 3, 0, 0, 0, 0), (64, .ireturn, 0, 0, 0, 0)]
/-- ParallaxSheetsModel divide -/
def m_p_163 : List m_I := [(0, .aload_n 0, 0, 0, 0, 0), (1, .iload_n 1, 0, 0, 0, 0), (2, .iconst 1, 0, 0, 0, 0), (3, .bipush 99, 0, 0, 0, 0), (5, .invokestatic 43, 145, 906, 1, 0), (8, .ifCond .eq 10, 18, 0, 0, 0), (11, .iload_n 2, 0, 0, 0, 0), (12, .invokestatic 64, 151, 917, 1, 0), (15, .ifCond .eq 7, 22, 0, 0, 0), (18, .iconst 1, 0, 0, 0, 0), (19, .goto 4, 23, 0, 0, 0), (22, .iconst 0, 0, 0, 0, 0), (23, .iconst 1, 0, 0, 0, 0), (24, .invokevirtual 51, 147, 909, 1, 0), (27, .ifCond .eq 5, 32, 0, 0, 0), (30, .iconst 0, 0, 0, 0, 0), (31, .ireturn, 0, 0, 0, 0), (32, .aload_n 0, 0, 0, 0, 0), (33, .getfield 28, 7, 3, 0, 878), (36, .istore_n 3, 0, 0, 0, 0), (37, .aload_n 0, 0, 0, 0, 0), (38, .iload_n 1, 0, 0, 0, 0), (39, .putfield 28, 7, 3, 0, 878), (42, .aload_n 0, 0, 0, 0, 0), (43, .iload_n 2, 0, 0, 0, 0), (44, .putfield 121, 7, 4, 0, 879), (47, .iload_n 3, 0, 0, 0, 0), (48, .ireturn, 0, 0, 0, 0)]
/-- ParallaxSheetsModel filtered -/
def m_p_164 : List m_I := [(0, .iload_n 2, 0, 0, 0, 0), (1, .tableswitch 126 0 7 #[47, 64, 69, 74, 83, 92, 101, 110], 0, 0, 0, 47), (48, .aload_n 1, 0, 0, 0, 0), (49, .aload_n 0, 0, 0, 0, 0), (50, .getfield 24, 7, 2, 0, 877), (53, .aload_n 0, 0, 0, 0, 0), (54, .getfield 28, 7, 3, 0, 878), (57, .aload_n 0, 0, 0, 0, 0), (58, .getfield 121, 7, 4, 0, 879), (61, .invokevirtual 124, 120, 1023, 1, 0), (64, .areturn, 0, 0, 0, 0), (65, .aload_n 1, 0, 0, 0, 0), (66, .invokevirtual 128, 121, 1034, 1, 0), (69, .areturn, 0, 0, 0, 0), (70, .aload_n 1, 0, 0, 0, 0), (71, .invokevirtual 132, 122, 1043, 1, 0), (74, .areturn, 0, 0, 0, 0), (75, .aload_n 1, 0, 0, 0, 0), (76, .getstatic 135, 2, 1047, 11, 0), (79, .iconst 1, 0, 0, 0, 0), (80, .invokevirtual 138, 123, 1049, 1, 0), (83, .areturn, 0, 0, 0, 0), (84, .aload_n 1, 0, 0, 0, 0), (85, .getstatic 142, 1, 1053, 11, 0), (88, .iconst 1, 0, 0, 0, 0), (89, .invokevirtual 138, 123, 1049, 1, 0), (92, .areturn, 0, 0, 0, 0), (93, .aload_n 1, 0, 0, 0, 0), (94, .getstatic 135, 2, 1047, 11, 0), (97, .iconst 0, 0, 0, 0, 0), (98, .invokevirtual 138, 123, 1049, 1, 0), (101, .areturn, 0, 0, 0, 0), (102, .aload_n 1, 0, 0, 0, 0), (103, .getstatic 142, 1, 1053, 11, 0), (106, .iconst 0, 0, 0, 0, 0), (107, .invokevirtual 138, 123, 1049, 1, 0), (110, .areturn, 0, 0, 0, 0), (111, .aload_n 1, 0, 0, 0, 0), (112, .getstatic 135, 2, 1047, 11, 0), (115, .iconst 1, 0, 0, 0, 0), (116, .invokevirtual 138, 123, 1049, 1, 0), (119, .getstatic 135, 2, 1047, 11, 0), (122, .iconst 0, 0, 0, 0, 0), (123, .invokevirtual 138, 123, 1049, 1, 0), (126, .areturn, 0, 0, 0, 0), (127, .aload_n 1, 0, 0, 0, 0), (128, .getstatic 135, 2, 1047, 11, 0), (131, .iconst 0, 0, 0, 0, 0), (132, .invokevirtual 138, 123, 1049, 1, 0), (135, .getstatic 135, 2, 1047, 11, 0), (138, .iconst 1, 0, 0, 0, 0), (139, .invokevirtual 138, 123, 1049, 1, 0), (142, .areturn, 0, 0, 0, 0)]
/-- ParallaxSheetsModel filter -/
def m_p_165 : List m_I := [(0, .aload_n 0, 0, 0, 0, 0), (1, .iload_n 1, 0, 0, 0, 0), (2, .invokevirtual 61, 149, 899, 1, 0), (5, .ifCond .ne 26, 31, 0, 0, 0), (8, .aload_n 0, 0, 0, 0, 0), (9, .iload_n 2, 0, 0, 0, 0), (10, .iconst 0, 0, 0, 0, 0), (11, .bipush 8, 0, 0, 0, 0), (13, .invokestatic 43, 145, 906, 1, 0), (16, .ifCond .ne 7, 23, 0, 0, 0), (19, .iconst 1, 0, 0, 0, 0), (20, .goto 4, 24, 0, 0, 0), (23, .iconst 0, 0, 0, 0, 0), (24, .iconst 2, 0, 0, 0, 0), (25, .invokevirtual 39, 146, 913, 1, 0), (28, .ifCond .eq 7, 35, 0, 0, 0), (31, .iconst 0, 0, 0, 0, 0), (32, .goto 19, 51, 0, 0, 0), (35, .aload_n 0, 0, 0, 0, 0), (36, .iload_n 1, 0, 0, 0, 0), (37, .aload_n 0, 0, 0, 0, 0), (38, .aload_n 0, 0, 0, 0, 0), (39, .getfield 20, 7, 1, 0, 876), (42, .iload_n 1, 0, 0, 0, 0), (43, .aaload, 0, 0, 0, 0), (44, .iload_n 2, 0, 0, 0, 0), (45, .invokevirtual 145, 164, 1019, 1, 0), (48, .invokevirtual 88, 152, 949, 1, 0), (51, .ireturn, 0, 0, 0, 0)]
/-- ParallaxSheetsModel inverted -/
def m_p_166 : List m_I := [(0, .aload_n 0, 0, 0, 0, 0), (1, .getfield 73, 6, 2, 0, 867), (4, .invokevirtual 76, 0, 938, 10, 0), (7, .checkcast 77, 0, 944, 0, 0), (10, .astore_n 1, 0, 0, 0, 0), (11, .iconst 0, 0, 0, 0, 0), (12, .istore_n 2, 0, 0, 0, 0), (13, .iload_n 2, 0, 0, 0, 0), (14, .aload_n 1, 0, 0, 0, 0), (15, .arraylength, 0, 0, 0, 0), (16, .if_icmp .ge 19, 35, 0, 0, 0), (19, .aload_n 1, 0, 0, 0, 0), (20, .iload_n 2, 0, 0, 0, 0), (21, .sipush 255, 0, 0, 0, 0), (24, .aload_n 1, 0, 0, 0, 0), (25, .iload_n 2, 0, 0, 0, 0), (26, .iaload, 0, 0, 0, 0), (27, .isub, 0, 0, 0, 0), (28, .iastore, 0, 0, 0, 0), (29, .iinc 2 1, 0, 0, 0, 0), (32, .goto (-19), 13, 0, 0, 0), (35, .aload_n 0, 0, 0, 0, 0), (36, .aload_n 1, 0, 0, 0, 0), (37, .invokevirtual 84, 109, 945, 1, 0), (40, .areturn, 0, 0, 0, 0)]
/-- ParallaxSheetsModel values -/
def m_p_167 : List m_I := [(0, .aload_n 0, 0, 0, 0, 0), (1, .iload_n 1, 0, 0, 0, 0), (2, .invokevirtual 61, 149, 899, 1, 0), (5, .ifCond .ne 25, 30, 0, 0, 0), (8, .aload_n 0, 0, 0, 0, 0), (9, .iload_n 2, 0, 0, 0, 0), (10, .iconst 0, 0, 0, 0, 0), (11, .iconst 3, 0, 0, 0, 0), (12, .invokestatic 43, 145, 906, 1, 0), (15, .ifCond .ne 7, 22, 0, 0, 0), (18, .iconst 1, 0, 0, 0, 0), (19, .goto 4, 23, 0, 0, 0), (22, .iconst 0, 0, 0, 0, 0), (23, .iconst 2, 0, 0, 0, 0), (24, .invokevirtual 39, 146, 913, 1, 0), (27, .ifCond .eq 5, 32, 0, 0, 0), (30, .iconst 0, 0, 0, 0, 0), (31, .ireturn, 0, 0, 0, 0), (32, .aload_n 0, 0, 0, 0, 0), (33, .getfield 20, 7, 1, 0, 876), (36, .iload_n 1, 0, 0, 0, 0), (37, .aaload, 0, 0, 0, 0), (38, .astore_n 3, 0, 0, 0, 0), (39, .aload_n 0, 0, 0, 0, 0), (40, .iload_n 1, 0, 0, 0, 0), (41, .iload_n 2, 0, 0, 0, 0), (42, .ifCond .ne 10, 52, 0, 0, 0), (45, .aload_n 3, 0, 0, 0, 0), (46, .invokestatic 148, 166, 1059, 1, 0), (49, .goto 35, 84, 0, 0, 0), (52, .iload_n 2, 0, 0, 0, 0), (53, .iconst 1, 0, 0, 0, 0), (54, .if_icmp .ne 10, 64, 0, 0, 0), (57, .aload_n 3, 0, 0, 0, 0), (58, .invokevirtual 152, 125, 1062, 1, 0), (61, .goto 23, 84, 0, 0, 0), (64, .iload_n 2, 0, 0, 0, 0), (65, .iconst 2, 0, 0, 0, 0), (66, .if_icmp .ne 10, 76, 0, 0, 0), (69, .aload_n 3, 0, 0, 0, 0), (70, .invokevirtual 155, 126, 1070, 1, 0), (73, .goto 11, 84, 0, 0, 0), (76, .aload_n 3, 0, 0, 0, 0), (77, .aload_n 3, 0, 0, 0, 0), (78, .invokevirtual 158, 124, 1078, 1, 0), (81, .invokevirtual 161, 127, 1084, 1, 0), (84, .invokevirtual 88, 152, 949, 1, 0), (87, .ireturn, 0, 0, 0, 0)]
/-- ParallaxSheetsModel value -/
def m_p_168 : List m_I := [(0, .aload_n 0, 0, 0, 0, 0), (1, .iload_n 1, 0, 0, 0, 0), (2, .iload_n 2, 0, 0, 0, 0), (3, .iload_n 3, 0, 0, 0, 0), (4, .invokevirtual 67, 150, 924, 1, 0), (7, .ifCond .eq 7, 14, 0, 0, 0), (10, .iconst 0, 0, 0, 0, 0), (11, .goto 14, 25, 0, 0, 0), (14, .aload_n 0, 0, 0, 0, 0), (15, .getfield 20, 7, 1, 0, 876), (18, .iload_n 1, 0, 0, 0, 0), (19, .aaload, 0, 0, 0, 0), (20, .iload_n 2, 0, 0, 0, 0), (21, .iload_n 3, 0, 0, 0, 0), (22, .invokevirtual 70, 112, 932, 1, 0), (25, .ireturn, 0, 0, 0, 0)]
/-- ParallaxSheetsModel of -/
def m_p_169 : List m_I := [(0, .aload_n 0, 0, 0, 0, 0), (1, .invokevirtual 165, 115, 1099, 1, 0), (4, .astore_n 2, 0, 0, 0, 0), (5, .bipush 6, 0, 0, 0, 0), (7, .newarray .int, 0, 108, 0, 0), (9, .dup, 0, 0, 0, 0), (10, .iconst 0, 0, 0, 0, 0), (11, .aload_n 0, 0, 0, 0, 0), (12, .getfield 81, 6, 0, 0, 863), (15, .iastore, 0, 0, 0, 0), (16, .dup, 0, 0, 0, 0), (17, .iconst 1, 0, 0, 0, 0), (18, .aload_n 0, 0, 0, 0, 0), (19, .getfield 108, 6, 1, 0, 865), (22, .iastore, 0, 0, 0, 0), (23, .dup, 0, 0, 0, 0), (24, .iconst 2, 0, 0, 0, 0), (25, .aload_n 2, 0, 0, 0, 0), (26, .iconst 0, 0, 0, 0, 0), (27, .iaload, 0, 0, 0, 0), (28, .iastore, 0, 0, 0, 0), (29, .dup, 0, 0, 0, 0), (30, .iconst 3, 0, 0, 0, 0), (31, .aload_n 2, 0, 0, 0, 0), (32, .aload_n 2, 0, 0, 0, 0), (33, .arraylength, 0, 0, 0, 0), (34, .iconst 1, 0, 0, 0, 0), (35, .isub, 0, 0, 0, 0), (36, .iaload, 0, 0, 0, 0), (37, .iastore, 0, 0, 0, 0), (38, .dup, 0, 0, 0, 0), (39, .iconst 4, 0, 0, 0, 0), (40, .aload_n 0, 0, 0, 0, 0), (41, .invokevirtual 100, 117, 982, 1, 0), (44, .iastore, 0, 0, 0, 0), (45, .dup, 0, 0, 0, 0), (46, .iconst 5, 0, 0, 0, 0), (47, .aload_n 0, 0, 0, 0, 0), (48, .invokevirtual 158, 124, 1078, 1, 0), (51, .iastore, 0, 0, 0, 0), (52, .astore_n 3, 0, 0, 0, 0), (53, .aload_n 3, 0, 0, 0, 0), (54, .iload_n 1, 0, 0, 0, 0), (55, .iaload, 0, 0, 0, 0), (56, .ireturn, 0, 0, 0, 0)]
/-- ParallaxSheetsModel sheet -/
def m_p_170 : List m_I := [(0, .aload_n 0, 0, 0, 0, 0), (1, .iload_n 1, 0, 0, 0, 0), (2, .invokevirtual 61, 149, 899, 1, 0), (5, .ifCond .ne 25, 30, 0, 0, 0), (8, .aload_n 0, 0, 0, 0, 0), (9, .iload_n 2, 0, 0, 0, 0), (10, .iconst 0, 0, 0, 0, 0), (11, .iconst 5, 0, 0, 0, 0), (12, .invokestatic 43, 145, 906, 1, 0), (15, .ifCond .ne 7, 22, 0, 0, 0), (18, .iconst 1, 0, 0, 0, 0), (19, .goto 4, 23, 0, 0, 0), (22, .iconst 0, 0, 0, 0, 0), (23, .iconst 2, 0, 0, 0, 0), (24, .invokevirtual 39, 146, 913, 1, 0), (27, .ifCond .eq 7, 34, 0, 0, 0), (30, .iconst 0, 0, 0, 0, 0), (31, .goto 13, 44, 0, 0, 0), (34, .aload_n 0, 0, 0, 0, 0), (35, .getfield 20, 7, 1, 0, 876), (38, .iload_n 1, 0, 0, 0, 0), (39, .aaload, 0, 0, 0, 0), (40, .iload_n 2, 0, 0, 0, 0), (41, .invokestatic 169, 169, 1096, 1, 0), (44, .ireturn, 0, 0, 0, 0)]
/-- ParallaxSheetsModel count -/
def m_p_171 : List m_I := [(0, .aload_n 0, 0, 0, 0, 0), (1, .iload_n 1, 0, 0, 0, 0), (2, .invokevirtual 61, 149, 899, 1, 0), (5, .ifCond .eq 7, 12, 0, 0, 0), (8, .iconst 0, 0, 0, 0, 0), (9, .goto 14, 23, 0, 0, 0), (12, .aload_n 0, 0, 0, 0, 0), (13, .getfield 20, 7, 1, 0, 876), (16, .iload_n 1, 0, 0, 0, 0), (17, .aaload, 0, 0, 0, 0), (18, .iload_n 2, 0, 0, 0, 0), (19, .iload_n 3, 0, 0, 0, 0), (20, .invokevirtual 172, 118, 1104, 1, 0), (23, .ireturn, 0, 0, 0, 0)]
/-- ParallaxSheetsModel ordered -/
def m_p_172 : List m_I := [(0, .aload_n 0, 0, 0, 0, 0), (1, .iload_n 1, 0, 0, 0, 0), (2, .invokestatic 47, 148, 903, 1, 0), (5, .ifCond .ne 22, 27, 0, 0, 0), (8, .iload_n 2, 0, 0, 0, 0), (9, .iconst 0, 0, 0, 0, 0), (10, .aload_n 0, 0, 0, 0, 0), (11, .getfield 20, 7, 1, 0, 876), (14, .iload_n 1, 0, 0, 0, 0), (15, .aaload, 0, 0, 0, 0), (16, .invokevirtual 118, 110, 1006, 1, 0), (19, .iconst 1, 0, 0, 0, 0), (20, .isub, 0, 0, 0, 0), (21, .invokestatic 43, 145, 906, 1, 0), (24, .ifCond .ne 7, 31, 0, 0, 0), (27, .iconst 1, 0, 0, 0, 0), (28, .goto 4, 32, 0, 0, 0), (31, .iconst 0, 0, 0, 0, 0), (32, .iconst 1, 0, 0, 0, 0), (33, .invokevirtual 51, 147, 909, 1, 0), (36, .ifCond .eq 7, 43, 0, 0, 0), (39, .iconst 0, 0, 0, 0, 0), (40, .goto 14, 54, 0, 0, 0), (43, .aload_n 0, 0, 0, 0, 0), (44, .getfield 20, 7, 1, 0, 876), (47, .iload_n 1, 0, 0, 0, 0), (48, .aaload, 0, 0, 0, 0), (49, .invokevirtual 165, 115, 1099, 1, 0), (52, .iload_n 2, 0, 0, 0, 0), (53, .iaload, 0, 0, 0, 0), (54, .ireturn, 0, 0, 0, 0)]
/-- ParallaxSheetsModel difference -/
def m_p_173 : List m_I := [(0, .aload_n 0, 0, 0, 0, 0), (1, .iload_n 1, 0, 0, 0, 0), (2, .invokestatic 47, 148, 903, 1, 0), (5, .ifCond .ne 10, 15, 0, 0, 0), (8, .iload_n 2, 0, 0, 0, 0), (9, .invokestatic 47, 148, 903, 1, 0), (12, .ifCond .eq 7, 19, 0, 0, 0), (15, .iconst 1, 0, 0, 0, 0), (16, .goto 4, 20, 0, 0, 0), (19, .iconst 0, 0, 0, 0, 0), (20, .iconst 1, 0, 0, 0, 0), (21, .invokevirtual 51, 147, 909, 1, 0), (24, .ifCond .ne 34, 58, 0, 0, 0), (27, .aload_n 0, 0, 0, 0, 0), (28, .aload_n 0, 0, 0, 0, 0), (29, .getfield 20, 7, 1, 0, 876), (32, .iload_n 1, 0, 0, 0, 0), (33, .aaload, 0, 0, 0, 0), (34, .aload_n 0, 0, 0, 0, 0), (35, .getfield 20, 7, 1, 0, 876), (38, .iload_n 2, 0, 0, 0, 0), (39, .aaload, 0, 0, 0, 0), (40, .invokevirtual 104, 114, 990, 1, 0), (43, .ifCond .ne 7, 50, 0, 0, 0), (46, .iconst 1, 0, 0, 0, 0), (47, .goto 4, 51, 0, 0, 0), (50, .iconst 0, 0, 0, 0, 0), (51, .iconst 2, 0, 0, 0, 0), (52, .invokevirtual 39, 146, 913, 1, 0), (55, .ifCond .eq 5, 60, 0, 0, 0), (58, .dconst 0, 0, 0, 0, 0), (59, .dreturn, 0, 0, 0, 0), (60, .iconst 0, 0, 0, 0, 0), (61, .istore_n 3, 0, 0, 0, 0), (62, .iconst 0, 0, 0, 0, 0), (63, .istore 4, 0, 0, 0, 0), (65, .iload 4, 0, 0, 0, 0), (67, .aload_n 0, 0, 0, 0, 0), (68, .getfield 20, 7, 1, 0, 876), (71, .iload_n 1, 0, 0, 0, 0), (72, .aaload, 0, 0, 0, 0), (73, .invokevirtual 118, 110, 1006, 1, 0), (76, .if_icmp .ge 40, 116, 0, 0, 0), (79, .iload_n 3, 0, 0, 0, 0), (80, .aload_n 0, 0, 0, 0, 0), (81, .getfield 20, 7, 1, 0, 876), (84, .iload_n 1, 0, 0, 0, 0), (85, .aaload, 0, 0, 0, 0), (86, .getfield 73, 6, 2, 0, 867), (89, .iload 4, 0, 0, 0, 0), (91, .iaload, 0, 0, 0, 0), (92, .aload_n 0, 0, 0, 0, 0), (93, .getfield 20, 7, 1, 0, 876), (96, .iload_n 2, 0, 0, 0, 0), (97, .aaload, 0, 0, 0, 0), (98, .getfield 73, 6, 2, 0, 867), (101, .iload 4, 0, 0, 0, 0), (103, .iaload, 0, 0, 0, 0), (104, .isub, 0, 0, 0, 0), (105, .invokestatic 175, 0, 1113, 5, 0), (108, .iadd, 0, 0, 0, 0), (109, .istore_n 3, 0, 0, 0, 0), (110, .iinc 4 1, 0, 0, 0, 0), (113, .goto (-48), 65, 0, 0, 0), (116, .iload_n 3, 0, 0, 0, 0), (117, .i2d, 0, 0, 0, 0), (118, .aload_n 0, 0, 0, 0, 0), (119, .getfield 20, 7, 1, 0, 876), (122, .iload_n 1, 0, 0, 0, 0), (123, .aaload, 0, 0, 0, 0), (124, .invokevirtual 118, 110, 1006, 1, 0), (127, .i2d, 0, 0, 0, 0), (128, .ddiv, 0, 0, 0, 0), (129, .dreturn, 0, 0, 0, 0)]
/-- ParallaxSheetsModel areNoWays -/
def m_p_174 : List m_I := [(0, .aload_n 0, 0, 0, 0, 0), (1, .iload_n 1, 0, 0, 0, 0), (2, .iconst 4, 0, 0, 0, 0), (3, .if_icmp .eq 13, 16, 0, 0, 0), (6, .iload_n 1, 0, 0, 0, 0), (7, .bipush 8, 0, 0, 0, 0), (9, .if_icmp .eq 7, 16, 0, 0, 0), (12, .iconst 1, 0, 0, 0, 0), (13, .goto 4, 17, 0, 0, 0), (16, .iconst 0, 0, 0, 0, 0), (17, .iconst 2, 0, 0, 0, 0), (18, .invokevirtual 39, 146, 913, 1, 0), (21, .ireturn, 0, 0, 0, 0)]
/-- ParallaxSheetsModel partsOf -/
def m_p_175 : List m_I := [(0, .aload_n 0, 0, 0, 0, 0), (1, .iload_n 2, 0, 0, 0, 0), (2, .iconst 1, 0, 0, 0, 0), (3, .iload_n 1, 0, 0, 0, 0), (4, .invokevirtual 178, 128, 1125, 1, 0), (7, .invokestatic 182, 129, 1253, 1, 0), (10, .ireturn, 0, 0, 0, 0)]
/-- ParallaxSheetsModel parts -/
def m_p_176 : List m_I := [(0, .aload_n 0, 0, 0, 0, 0), (1, .iload_n 1, 0, 0, 0, 0), (2, .invokevirtual 61, 149, 899, 1, 0), (5, .ifCond .ne 11, 16, 0, 0, 0), (8, .aload_n 0, 0, 0, 0, 0), (9, .iload_n 2, 0, 0, 0, 0), (10, .invokevirtual 186, 174, 1118, 1, 0), (13, .ifCond .eq 7, 20, 0, 0, 0), (16, .iconst 0, 0, 0, 0, 0), (17, .goto 16, 33, 0, 0, 0), (20, .aload_n 0, 0, 0, 0, 0), (21, .getfield 20, 7, 1, 0, 876), (24, .iload_n 1, 0, 0, 0, 0), (25, .aaload, 0, 0, 0, 0), (26, .iload_n 2, 0, 0, 0, 0), (27, .sipush 128, 0, 0, 0, 0), (30, .invokestatic 189, 175, 1122, 1, 0), (33, .ireturn, 0, 0, 0, 0)]
/-- ParallaxSheetsModel holes -/
def m_p_177 : List m_I := [(0, .aload_n 0, 0, 0, 0, 0), (1, .iload_n 1, 0, 0, 0, 0), (2, .invokevirtual 61, 149, 899, 1, 0), (5, .ifCond .ne 11, 16, 0, 0, 0), (8, .aload_n 0, 0, 0, 0, 0), (9, .iload_n 2, 0, 0, 0, 0), (10, .invokevirtual 186, 174, 1118, 1, 0), (13, .ifCond .eq 7, 20, 0, 0, 0), (16, .iconst 0, 0, 0, 0, 0), (17, .goto 13, 30, 0, 0, 0), (20, .aload_n 0, 0, 0, 0, 0), (21, .getfield 20, 7, 1, 0, 876), (24, .iload_n 1, 0, 0, 0, 0), (25, .aaload, 0, 0, 0, 0), (26, .iload_n 2, 0, 0, 0, 0), (27, .invokevirtual 193, 131, 1260, 1, 0), (30, .ireturn, 0, 0, 0, 0)]
/-- ParallaxSheetsModel partOf -/
def m_p_178 : List m_I := [(0, .aload_n 0, 0, 0, 0, 0), (1, .iload_n 1, 0, 0, 0, 0), (2, .iload_n 3, 0, 0, 0, 0), (3, .iload 4, 0, 0, 0, 0), (5, .invokevirtual 67, 150, 924, 1, 0), (8, .ifCond .ne 11, 19, 0, 0, 0), (11, .aload_n 0, 0, 0, 0, 0), (12, .iload_n 2, 0, 0, 0, 0), (13, .invokevirtual 186, 174, 1118, 1, 0), (16, .ifCond .eq 7, 23, 0, 0, 0), (19, .iconst 0, 0, 0, 0, 0), (20, .goto 32, 52, 0, 0, 0), (23, .aload_n 0, 0, 0, 0, 0), (24, .getfield 20, 7, 1, 0, 876), (27, .iload_n 1, 0, 0, 0, 0), (28, .aaload, 0, 0, 0, 0), (29, .sipush 128, 0, 0, 0, 0), (32, .iconst 1, 0, 0, 0, 0), (33, .iload_n 2, 0, 0, 0, 0), (34, .invokevirtual 178, 128, 1125, 1, 0), (37, .iload 4, 0, 0, 0, 0), (39, .aload_n 0, 0, 0, 0, 0), (40, .getfield 20, 7, 1, 0, 876), (43, .iload_n 1, 0, 0, 0, 0), (44, .aaload, 0, 0, 0, 0), (45, .getfield 81, 6, 0, 0, 863), (48, .imul, 0, 0, 0, 0), (49, .iload_n 3, 0, 0, 0, 0), (50, .iadd, 0, 0, 0, 0), (51, .iaload, 0, 0, 0, 0), (52, .ireturn, 0, 0, 0, 0)]
/-- ParallaxSheetsModel part -/
def m_p_179 : List m_I := [(0, .aload_n 0, 0, 0, 0, 0), (1, .iload_n 1, 0, 0, 0, 0), (2, .invokevirtual 61, 149, 899, 1, 0), (5, .ifCond .ne 57, 62, 0, 0, 0), (8, .aload_n 0, 0, 0, 0, 0), (9, .iload_n 2, 0, 0, 0, 0), (10, .invokevirtual 186, 174, 1118, 1, 0), (13, .ifCond .ne 49, 62, 0, 0, 0), (16, .aload_n 0, 0, 0, 0, 0), (17, .iload_n 3, 0, 0, 0, 0), (18, .iconst 0, 0, 0, 0, 0), (19, .aload_n 0, 0, 0, 0, 0), (20, .getfield 20, 7, 1, 0, 876), (23, .iload_n 1, 0, 0, 0, 0), (24, .aaload, 0, 0, 0, 0), (25, .iload_n 2, 0, 0, 0, 0), (26, .sipush 128, 0, 0, 0, 0), (29, .invokestatic 189, 175, 1122, 1, 0), (32, .iconst 1, 0, 0, 0, 0), (33, .isub, 0, 0, 0, 0), (34, .invokestatic 43, 145, 906, 1, 0), (37, .ifCond .eq 13, 50, 0, 0, 0), (40, .iload 4, 0, 0, 0, 0), (42, .iconst 0, 0, 0, 0, 0), (43, .iconst 5, 0, 0, 0, 0), (44, .invokestatic 43, 145, 906, 1, 0), (47, .ifCond .ne 7, 54, 0, 0, 0), (50, .iconst 1, 0, 0, 0, 0), (51, .goto 4, 55, 0, 0, 0), (54, .iconst 0, 0, 0, 0, 0), (55, .iconst 2, 0, 0, 0, 0), (56, .invokevirtual 39, 146, 913, 1, 0), (59, .ifCond .eq 5, 64, 0, 0, 0), (62, .iconst 0, 0, 0, 0, 0), (63, .ireturn, 0, 0, 0, 0), (64, .aload_n 0, 0, 0, 0, 0), (65, .getfield 20, 7, 1, 0, 876), (68, .iload_n 1, 0, 0, 0, 0), (69, .aaload, 0, 0, 0, 0), (70, .aload_n 0, 0, 0, 0, 0), (71, .getfield 20, 7, 1, 0, 876), (74, .iload_n 1, 0, 0, 0, 0), (75, .aaload, 0, 0, 0, 0), (76, .sipush 128, 0, 0, 0, 0), (79, .iconst 1, 0, 0, 0, 0), (80, .iload_n 2, 0, 0, 0, 0), (81, .invokevirtual 178, 128, 1125, 1, 0), (84, .iload_n 3, 0, 0, 0, 0), (85, .invokevirtual 196, 132, 1278, 1, 0), (88, .iload 4, 0, 0, 0, 0), (90, .iaload, 0, 0, 0, 0), (91, .ireturn, 0, 0, 0, 0)]
/-- ParallaxSheetsModel keep -/
def m_p_180 : List m_I := [(0, .aload_n 0, 0, 0, 0, 0), (1, .iload_n 1, 0, 0, 0, 0), (2, .invokevirtual 61, 149, 899, 1, 0), (5, .ifCond .ne 11, 16, 0, 0, 0), (8, .aload_n 0, 0, 0, 0, 0), (9, .iload_n 2, 0, 0, 0, 0), (10, .invokevirtual 186, 174, 1118, 1, 0), (13, .ifCond .eq 7, 20, 0, 0, 0), (16, .iconst 0, 0, 0, 0, 0), (17, .goto 18, 35, 0, 0, 0), (20, .aload_n 0, 0, 0, 0, 0), (21, .iload_n 1, 0, 0, 0, 0), (22, .aload_n 0, 0, 0, 0, 0), (23, .getfield 20, 7, 1, 0, 876), (26, .iload_n 1, 0, 0, 0, 0), (27, .aaload, 0, 0, 0, 0), (28, .iload_n 2, 0, 0, 0, 0), (29, .invokevirtual 200, 134, 1290, 1, 0), (32, .invokevirtual 88, 152, 949, 1, 0), (35, .ireturn, 0, 0, 0, 0)]
/-- ParallaxSheetsModel far -/
def m_p_181 : List m_I := [(0, .aload_n 0, 0, 0, 0, 0), (1, .iload_n 1, 0, 0, 0, 0), (2, .iload_n 3, 0, 0, 0, 0), (3, .iload 4, 0, 0, 0, 0), (5, .invokevirtual 67, 150, 924, 1, 0), (8, .ifCond .ne 25, 33, 0, 0, 0), (11, .aload_n 0, 0, 0, 0, 0), (12, .iload_n 2, 0, 0, 0, 0), (13, .iconst 0, 0, 0, 0, 0), (14, .iconst 2, 0, 0, 0, 0), (15, .invokestatic 43, 145, 906, 1, 0), (18, .ifCond .ne 7, 25, 0, 0, 0), (21, .iconst 1, 0, 0, 0, 0), (22, .goto 4, 26, 0, 0, 0), (25, .iconst 0, 0, 0, 0, 0), (26, .iconst 2, 0, 0, 0, 0), (27, .invokevirtual 39, 146, 913, 1, 0), (30, .ifCond .eq 7, 37, 0, 0, 0), (33, .iconst 0, 0, 0, 0, 0), (34, .goto 27, 61, 0, 0, 0), (37, .aload_n 0, 0, 0, 0, 0), (38, .getfield 20, 7, 1, 0, 876), (41, .iload_n 1, 0, 0, 0, 0), (42, .aaload, 0, 0, 0, 0), (43, .iload 4, 0, 0, 0, 0), (45, .aload_n 0, 0, 0, 0, 0), (46, .getfield 20, 7, 1, 0, 876), (49, .iload_n 1, 0, 0, 0, 0), (50, .aaload, 0, 0, 0, 0), (51, .getfield 81, 6, 0, 0, 863), (54, .imul, 0, 0, 0, 0), (55, .iload_n 3, 0, 0, 0, 0), (56, .iadd, 0, 0, 0, 0), (57, .iload_n 2, 0, 0, 0, 0), (58, .invokevirtual 203, 136, 1299, 1, 0), (61, .ireturn, 0, 0, 0, 0)]
/-- ParallaxSheetsModel spread -/
def m_p_182 : List m_I := [(0, .aload_n 0, 0, 0, 0, 0), (1, .iload_n 1, 0, 0, 0, 0), (2, .invokevirtual 61, 149, 899, 1, 0), (5, .ifCond .ne 25, 30, 0, 0, 0), (8, .aload_n 0, 0, 0, 0, 0), (9, .iload_n 2, 0, 0, 0, 0), (10, .iconst 0, 0, 0, 0, 0), (11, .iconst 2, 0, 0, 0, 0), (12, .invokestatic 43, 145, 906, 1, 0), (15, .ifCond .ne 7, 22, 0, 0, 0), (18, .iconst 1, 0, 0, 0, 0), (19, .goto 4, 23, 0, 0, 0), (22, .iconst 0, 0, 0, 0, 0), (23, .iconst 2, 0, 0, 0, 0), (24, .invokevirtual 39, 146, 913, 1, 0), (27, .ifCond .eq 5, 32, 0, 0, 0), (30, .iconst 0, 0, 0, 0, 0), (31, .ireturn, 0, 0, 0, 0), (32, .aload_n 0, 0, 0, 0, 0), (33, .getfield 20, 7, 1, 0, 876), (36, .iload_n 1, 0, 0, 0, 0), (37, .aaload, 0, 0, 0, 0), (38, .astore_n 3, 0, 0, 0, 0), (39, .aload_n 3, 0, 0, 0, 0), (40, .invokevirtual 118, 110, 1006, 1, 0), (43, .newarray .int, 0, 108, 0, 0), (45, .astore 4, 0, 0, 0, 0), (47, .iconst 0, 0, 0, 0, 0), (48, .istore 5, 0, 0, 0, 0), (50, .iconst 0, 0, 0, 0, 0), (51, .istore 6, 0, 0, 0, 0), (53, .iload 6, 0, 0, 0, 0), (55, .aload 4, 0, 0, 0, 0), (57, .arraylength, 0, 0, 0, 0), (58, .if_icmp .ge 41, 99, 0, 0, 0), (61, .iload 5, 0, 0, 0, 0), (63, .aload_n 3, 0, 0, 0, 0), (64, .iload 6, 0, 0, 0, 0), (66, .iload_n 2, 0, 0, 0, 0), (67, .invokevirtual 203, 136, 1299, 1, 0), (70, .invokestatic 9, 0, 966, 3, 0), (73, .istore 5, 0, 0, 0, 0), (75, .aload 4, 0, 0, 0, 0), (77, .iload 6, 0, 0, 0, 0), (79, .bipush 10, 0, 0, 0, 0), (81, .aload_n 3, 0, 0, 0, 0), (82, .iload 6, 0, 0, 0, 0), (84, .iload_n 2, 0, 0, 0, 0), (85, .invokevirtual 203, 136, 1299, 1, 0), (88, .imul, 0, 0, 0, 0), (89, .invokestatic 96, 142, 979, 1, 0), (92, .iastore, 0, 0, 0, 0), (93, .iinc 6 1, 0, 0, 0, 0), (96, .goto (-43), 53, 0, 0, 0), (99, .aload_n 0, 0, 0, 0, 0), (100, .getfield 20, 7, 1, 0, 876), (103, .iload_n 1, 0, 0, 0, 0), (104, .aload_n 3, 0, 0, 0, 0), (105, .aload 4, 0, 0, 0, 0), (107, .invokevirtual 84, 109, 945, 1, 0), (110, .aastore, 0, 0, 0, 0), (111, .iload 5, 0, 0, 0, 0), (113, .ireturn, 0, 0, 0, 0)]
/-- ParallaxSheetsModel reshape -/
def m_p_183 : List m_I := [(0, .aload_n 0, 0, 0, 0, 0), (1, .getfield 20, 7, 1, 0, 876), (4, .iload_n 1, 0, 0, 0, 0), (5, .aaload, 0, 0, 0, 0), (6, .invokevirtual 206, 139, 1333, 1, 0), (9, .aload_n 0, 0, 0, 0, 0), (10, .getfield 20, 7, 1, 0, 876), (13, .iload_n 1, 0, 0, 0, 0), (14, .aaload, 0, 0, 0, 0), (15, .getfield 108, 6, 1, 0, 865), (18, .iaload, 0, 0, 0, 0), (19, .istore_n 3, 0, 0, 0, 0), (20, .aload_n 0, 0, 0, 0, 0), (21, .getfield 20, 7, 1, 0, 876), (24, .iload_n 1, 0, 0, 0, 0), (25, .aload_n 2, 0, 0, 0, 0), (26, .aastore, 0, 0, 0, 0), (27, .iload_n 3, 0, 0, 0, 0), (28, .ireturn, 0, 0, 0, 0)]
/-- ParallaxSheetsModel carve -/
def m_p_184 : List m_I := [(0, .aload_n 0, 0, 0, 0, 0), (1, .iload_n 1, 0, 0, 0, 0), (2, .invokevirtual 61, 149, 899, 1, 0), (5, .ifCond .ne 29, 34, 0, 0, 0), (8, .aload_n 0, 0, 0, 0, 0), (9, .aload_n 0, 0, 0, 0, 0), (10, .getfield 20, 7, 1, 0, 876), (13, .iload_n 1, 0, 0, 0, 0), (14, .aaload, 0, 0, 0, 0), (15, .getfield 81, 6, 0, 0, 863), (18, .iconst 1, 0, 0, 0, 0), (19, .if_icmp .ne 7, 26, 0, 0, 0), (22, .iconst 1, 0, 0, 0, 0), (23, .goto 4, 27, 0, 0, 0), (26, .iconst 0, 0, 0, 0, 0), (27, .iconst 2, 0, 0, 0, 0), (28, .invokevirtual 39, 146, 913, 1, 0), (31, .ifCond .eq 7, 38, 0, 0, 0), (34, .iconst 0, 0, 0, 0, 0), (35, .goto 17, 52, 0, 0, 0), (38, .aload_n 0, 0, 0, 0, 0), (39, .iload_n 1, 0, 0, 0, 0), (40, .aload_n 0, 0, 0, 0, 0), (41, .getfield 20, 7, 1, 0, 876), (44, .iload_n 1, 0, 0, 0, 0), (45, .aaload, 0, 0, 0, 0), (46, .invokevirtual 209, 140, 1312, 1, 0), (49, .invokevirtual 212, 183, 1329, 1, 0), (52, .ireturn, 0, 0, 0, 0)]
/-- ParallaxSheetsModel widen -/
def m_p_185 : List m_I := [(0, .aload_n 0, 0, 0, 0, 0), (1, .iload_n 1, 0, 0, 0, 0), (2, .invokevirtual 61, 149, 899, 1, 0), (5, .ifCond .ne 30, 35, 0, 0, 0), (8, .aload_n 0, 0, 0, 0, 0), (9, .aload_n 0, 0, 0, 0, 0), (10, .getfield 20, 7, 1, 0, 876), (13, .iload_n 1, 0, 0, 0, 0), (14, .aaload, 0, 0, 0, 0), (15, .getfield 81, 6, 0, 0, 863), (18, .bipush 16, 0, 0, 0, 0), (20, .if_icmp .ne 7, 27, 0, 0, 0), (23, .iconst 1, 0, 0, 0, 0), (24, .goto 4, 28, 0, 0, 0), (27, .iconst 0, 0, 0, 0, 0), (28, .iconst 2, 0, 0, 0, 0), (29, .invokevirtual 39, 146, 913, 1, 0), (32, .ifCond .eq 7, 39, 0, 0, 0), (35, .iconst 0, 0, 0, 0, 0), (36, .goto 17, 53, 0, 0, 0), (39, .aload_n 0, 0, 0, 0, 0), (40, .iload_n 1, 0, 0, 0, 0), (41, .aload_n 0, 0, 0, 0, 0), (42, .getfield 20, 7, 1, 0, 876), (45, .iload_n 1, 0, 0, 0, 0), (46, .aaload, 0, 0, 0, 0), (47, .invokevirtual 215, 141, 1338, 1, 0), (50, .invokevirtual 212, 183, 1329, 1, 0), (53, .ireturn, 0, 0, 0, 0)]
/-- ParallaxSheetsModel seam -/
def m_p_186 : List m_I := [(0, .aload_n 0, 0, 0, 0, 0), (1, .iload_n 1, 0, 0, 0, 0), (2, .invokestatic 47, 148, 903, 1, 0), (5, .ifCond .ne 22, 27, 0, 0, 0), (8, .iload_n 2, 0, 0, 0, 0), (9, .iconst 0, 0, 0, 0, 0), (10, .aload_n 0, 0, 0, 0, 0), (11, .getfield 20, 7, 1, 0, 876), (14, .iload_n 1, 0, 0, 0, 0), (15, .aaload, 0, 0, 0, 0), (16, .getfield 108, 6, 1, 0, 865), (19, .iconst 1, 0, 0, 0, 0), (20, .isub, 0, 0, 0, 0), (21, .invokestatic 43, 145, 906, 1, 0), (24, .ifCond .ne 7, 31, 0, 0, 0), (27, .iconst 1, 0, 0, 0, 0), (28, .goto 4, 32, 0, 0, 0), (31, .iconst 0, 0, 0, 0, 0), (32, .iconst 1, 0, 0, 0, 0), (33, .invokevirtual 51, 147, 909, 1, 0), (36, .ifCond .eq 7, 43, 0, 0, 0), (39, .iconst 0, 0, 0, 0, 0), (40, .goto 14, 54, 0, 0, 0), (43, .aload_n 0, 0, 0, 0, 0), (44, .getfield 20, 7, 1, 0, 876), (47, .iload_n 1, 0, 0, 0, 0), (48, .aaload, 0, 0, 0, 0), (49, .invokevirtual 206, 139, 1333, 1, 0), (52, .iload_n 2, 0, 0, 0, 0), (53, .iaload, 0, 0, 0, 0), (54, .ireturn, 0, 0, 0, 0)]
/-- ParallaxSheetsModel partsAt -/
def m_p_187 : List m_I := [(0, .aload_n 0, 0, 0, 0, 0), (1, .iload_n 1, 0, 0, 0, 0), (2, .invokevirtual 61, 149, 899, 1, 0), (5, .ifCond .ne 23, 28, 0, 0, 0), (8, .aload_n 0, 0, 0, 0, 0), (9, .iload_n 2, 0, 0, 0, 0), (10, .invokevirtual 186, 174, 1118, 1, 0), (13, .ifCond .ne 15, 28, 0, 0, 0), (16, .aload_n 0, 0, 0, 0, 0), (17, .iload_n 3, 0, 0, 0, 0), (18, .invokestatic 64, 151, 917, 1, 0), (21, .iconst 2, 0, 0, 0, 0), (22, .invokevirtual 39, 146, 913, 1, 0), (25, .ifCond .eq 7, 32, 0, 0, 0), (28, .iconst 0, 0, 0, 0, 0), (29, .goto 14, 43, 0, 0, 0), (32, .aload_n 0, 0, 0, 0, 0), (33, .getfield 20, 7, 1, 0, 876), (36, .iload_n 1, 0, 0, 0, 0), (37, .aaload, 0, 0, 0, 0), (38, .iload_n 2, 0, 0, 0, 0), (39, .iload_n 3, 0, 0, 0, 0), (40, .invokestatic 189, 175, 1122, 1, 0), (43, .ireturn, 0, 0, 0, 0)]
/-- ParallaxSheetsModel carvedBy -/
def m_p_188 : List m_I := [(0, .aload_n 0, 0, 0, 0, 0), (1, .astore_n 2, 0, 0, 0, 0), (2, .iconst 0, 0, 0, 0, 0), (3, .istore_n 3, 0, 0, 0, 0), (4, .iconst 0, 0, 0, 0, 0), (5, .istore 4, 0, 0, 0, 0), (7, .iload 4, 0, 0, 0, 0), (9, .iload_n 1, 0, 0, 0, 0), (10, .if_icmp .ge 26, 36, 0, 0, 0), (13, .iload_n 3, 0, 0, 0, 0), (14, .aload_n 2, 0, 0, 0, 0), (15, .invokevirtual 206, 139, 1333, 1, 0), (18, .aload_n 2, 0, 0, 0, 0), (19, .getfield 108, 6, 1, 0, 865), (22, .iaload, 0, 0, 0, 0), (23, .iadd, 0, 0, 0, 0), (24, .istore_n 3, 0, 0, 0, 0), (25, .aload_n 2, 0, 0, 0, 0), (26, .invokevirtual 209, 140, 1312, 1, 0), (29, .astore_n 2, 0, 0, 0, 0), (30, .iinc 4 1, 0, 0, 0, 0), (33, .goto (-26), 7, 0, 0, 0), (36, .iload_n 3, 0, 0, 0, 0), (37, .ireturn, 0, 0, 0, 0)]
/-- ParallaxSheetsModel carvedBy_ -/
def m_p_189 : List m_I := [(0, .aload_n 0, 0, 0, 0, 0), (1, .iload_n 1, 0, 0, 0, 0), (2, .invokevirtual 61, 149, 899, 1, 0), (5, .ifCond .ne 35, 40, 0, 0, 0), (8, .aload_n 0, 0, 0, 0, 0), (9, .iload_n 2, 0, 0, 0, 0), (10, .iconst 0, 0, 0, 0, 0), (11, .aload_n 0, 0, 0, 0, 0), (12, .getfield 20, 7, 1, 0, 876), (15, .iload_n 1, 0, 0, 0, 0), (16, .aaload, 0, 0, 0, 0), (17, .getfield 81, 6, 0, 0, 863), (20, .iconst 1, 0, 0, 0, 0), (21, .isub, 0, 0, 0, 0), (22, .invokestatic 43, 145, 906, 1, 0), (25, .ifCond .ne 7, 32, 0, 0, 0), (28, .iconst 1, 0, 0, 0, 0), (29, .goto 4, 33, 0, 0, 0), (32, .iconst 0, 0, 0, 0, 0), (33, .iconst 2, 0, 0, 0, 0), (34, .invokevirtual 39, 146, 913, 1, 0), (37, .ifCond .eq 7, 44, 0, 0, 0), (40, .iconst 0, 0, 0, 0, 0), (41, .goto 13, 54, 0, 0, 0), (44, .aload_n 0, 0, 0, 0, 0), (45, .getfield 20, 7, 1, 0, 876), (48, .iload_n 1, 0, 0, 0, 0), (49, .aaload, 0, 0, 0, 0), (50, .iload_n 2, 0, 0, 0, 0), (51, .invokestatic 218, 188, 1354, 1, 0), (54, .ireturn, 0, 0, 0, 0)]
/-- ParallaxSheetsModel add -/
def m_p_190 : List m_I := [(0, .lload_n 0, 0, 0, 0, 0), (1, .ldc2_w 221, 0, 1365, 0, 31), (4, .lmul, 0, 0, 0, 0), (5, .lload_n 2, 0, 0, 0, 0), (6, .ladd, 0, 0, 0, 0), (7, .lreturn, 0, 0, 0, 0)]
/-- ParallaxSheetsModel digest -/
def m_p_191 : List m_I := [(0, .aload_n 0, 0, 0, 0, 0), (1, .iconst 0, 0, 0, 0, 0), (2, .putfield 36, 7, 0, 0, 875), (5, .ldc2_w 223, 0, 1361, 0, 58080), (8, .lstore_n 1, 0, 0, 0, 0), (9, .aload_n 0, 0, 0, 0, 0), (10, .getfield 20, 7, 1, 0, 876), (13, .astore_n 3, 0, 0, 0, 0), (14, .aload_n 3, 0, 0, 0, 0), (15, .arraylength, 0, 0, 0, 0), (16, .istore 4, 0, 0, 0, 0), (18, .iconst 0, 0, 0, 0, 0), (19, .istore 5, 0, 0, 0, 0), (21, .iload 5, 0, 0, 0, 0), (23, .iload 4, 0, 0, 0, 0), (25, .if_icmp .ge 240, 265, 0, 0, 0), (28, .aload_n 3, 0, 0, 0, 0), (29, .iload 5, 0, 0, 0, 0), (31, .aaload, 0, 0, 0, 0), (32, .astore 6, 0, 0, 0, 0), (34, .iconst 0, 0, 0, 0, 0), (35, .istore 7, 0, 0, 0, 0), (37, .iload 7, 0, 0, 0, 0), (39, .bipush 6, 0, 0, 0, 0), (41, .if_icmp .ge 22, 63, 0, 0, 0), (44, .lload_n 1, 0, 0, 0, 0), (45, .aload 6, 0, 0, 0, 0), (47, .iload 7, 0, 0, 0, 0), (49, .invokestatic 169, 169, 1096, 1, 0), (52, .i2l, 0, 0, 0, 0), (53, .invokestatic 225, 190, 1362, 1, 0), (56, .lstore_n 1, 0, 0, 0, 0), (57, .iinc 7 1, 0, 0, 0, 0), (60, .goto (-23), 37, 0, 0, 0), (63, .iconst 4, 0, 0, 0, 0), (64, .istore 7, 0, 0, 0, 0), (66, .iload 7, 0, 0, 0, 0), (68, .bipush 8, 0, 0, 0, 0), (70, .if_icmp .gt 36, 106, 0, 0, 0), (73, .lload_n 1, 0, 0, 0, 0), (74, .aload 6, 0, 0, 0, 0), (76, .iload 7, 0, 0, 0, 0), (78, .sipush 128, 0, 0, 0, 0), (81, .invokestatic 189, 175, 1122, 1, 0), (84, .i2l, 0, 0, 0, 0), (85, .invokestatic 225, 190, 1362, 1, 0), (88, .aload 6, 0, 0, 0, 0), (90, .iload 7, 0, 0, 0, 0), (92, .invokevirtual 193, 131, 1260, 1, 0), (95, .i2l, 0, 0, 0, 0), (96, .invokestatic 225, 190, 1362, 1, 0), (99, .lstore_n 1, 0, 0, 0, 0), (100, .iinc 7 4, 0, 0, 0, 0), (103, .goto (-37), 66, 0, 0, 0), (106, .aload 6, 0, 0, 0, 0), (108, .invokevirtual 206, 139, 1333, 1, 0), (111, .astore 7, 0, 0, 0, 0), (113, .iconst 0, 0, 0, 0, 0), (114, .istore 8, 0, 0, 0, 0), (116, .iload 8, 0, 0, 0, 0), (118, .aload 6, 0, 0, 0, 0), (120, .getfield 108, 6, 1, 0, 865), (123, .if_icmp .ge 20, 143, 0, 0, 0), (126, .lload_n 1, 0, 0, 0, 0), (127, .aload 7, 0, 0, 0, 0), (129, .iload 8, 0, 0, 0, 0), (131, .iaload, 0, 0, 0, 0), (132, .i2l, 0, 0, 0, 0), (133, .invokestatic 225, 190, 1362, 1, 0), (136, .lstore_n 1, 0, 0, 0, 0), (137, .iinc 8 1, 0, 0, 0, 0), (140, .goto (-24), 116, 0, 0, 0), (143, .aload 6, 0, 0, 0, 0), (145, .getfield 81, 6, 0, 0, 863), (148, .iconst 1, 0, 0, 0, 0), (149, .if_icmp .le 15, 164, 0, 0, 0), (152, .lload_n 1, 0, 0, 0, 0), (153, .aload 6, 0, 0, 0, 0), (155, .iconst 1, 0, 0, 0, 0), (156, .invokestatic 218, 188, 1354, 1, 0), (159, .i2l, 0, 0, 0, 0), (160, .invokestatic 225, 190, 1362, 1, 0), (163, .lstore_n 1, 0, 0, 0, 0), (164, .iconst 0, 0, 0, 0, 0), (165, .istore 8, 0, 0, 0, 0), (167, .iload 8, 0, 0, 0, 0), (169, .aload 6, 0, 0, 0, 0), (171, .getfield 81, 6, 0, 0, 863), (174, .if_icmp .ge 42, 216, 0, 0, 0), (177, .iload 8, 0, 0, 0, 0), (179, .aload 6, 0, 0, 0, 0), (181, .getfield 108, 6, 1, 0, 865), (184, .if_icmp .ge 32, 216, 0, 0, 0), (187, .lload_n 1, 0, 0, 0, 0), (188, .aload 6, 0, 0, 0, 0), (190, .iload 8, 0, 0, 0, 0), (192, .aload 6, 0, 0, 0, 0), (194, .getfield 81, 6, 0, 0, 863), (197, .imul, 0, 0, 0, 0), (198, .iload 8, 0, 0, 0, 0), (200, .iadd, 0, 0, 0, 0), (201, .iconst 2, 0, 0, 0, 0), (202, .invokevirtual 203, 136, 1299, 1, 0), (205, .i2l, 0, 0, 0, 0), (206, .invokestatic 225, 190, 1362, 1, 0), (209, .lstore_n 1, 0, 0, 0, 0), (210, .iinc 8 1, 0, 0, 0, 0), (213, .goto (-46), 167, 0, 0, 0), (216, .aload 6, 0, 0, 0, 0), (218, .getfield 73, 6, 2, 0, 867), (221, .astore 8, 0, 0, 0, 0), (223, .aload 8, 0, 0, 0, 0), (225, .arraylength, 0, 0, 0, 0), (226, .istore 9, 0, 0, 0, 0), (228, .iconst 0, 0, 0, 0, 0), (229, .istore 10, 0, 0, 0, 0), (231, .iload 10, 0, 0, 0, 0), (233, .iload 9, 0, 0, 0, 0), (235, .if_icmp .ge 24, 259, 0, 0, 0), (238, .aload 8, 0, 0, 0, 0), (240, .iload 10, 0, 0, 0, 0), (242, .iaload, 0, 0, 0, 0), (243, .istore 11, 0, 0, 0, 0), (245, .lload_n 1, 0, 0, 0, 0), (246, .iload 11, 0, 0, 0, 0), (248, .i2l, 0, 0, 0, 0), (249, .invokestatic 225, 190, 1362, 1, 0), (252, .lstore_n 1, 0, 0, 0, 0), (253, .iinc 10 1, 0, 0, 0, 0), (256, .goto (-25), 231, 0, 0, 0), (259, .iinc 5 1, 0, 0, 0, 0), (262, .goto (-241), 21, 0, 0, 0), (265, .lload_n 1, 0, 0, 0, 0), (266, .lreturn, 0, 0, 0, 0)]
/-- java/lang/Integer valueOf_2dffe -/
def m_p_192 : List m_I := [(0, .iload_n 0, 0, 0, 0, 0), (1, .bipush (-128), 0, 0, 0, 0), (3, .if_icmp .lt 20, 23, 0, 0, 0), (6, .iload_n 0, 0, 0, 0, 0), (7, .getstatic 191, 0, 1158, 12, 127), (10, .if_icmp .gt 13, 23, 0, 0, 0), (13, .getstatic 195, 3, 1160, 11, 0), (16, .iload_n 0, 0, 0, 0, 0), (17, .sipush 128, 0, 0, 0, 0), (20, .iadd, 0, 0, 0, 0), (21, .aaload, 0, 0, 0, 0), (22, .areturn, 0, 0, 0, 0), (23, .new 1, 8, 1162, 0, 0), (26, .dup, 0, 0, 0, 0), (27, .iload_n 0, 0, 0, 0, 0), (28, .invokespecial 199, 193, 1164, 1, 0), (31, .areturn, 0, 0, 0, 0)]
/-- java/lang/Integer init_d00df -/
def m_p_193 : List m_I := [(0, .aload_n 0, 0, 0, 0, 0), (1, .invokespecial 202, 198, 1167, 1, 0), (4, .aload_n 0, 0, 0, 0, 0), (5, .iload_n 1, 0, 0, 0, 0), (6, .putfield 205, 8, 0, 0, 1171), (9, .return_, 0, 0, 0, 0)]
/-- java/lang/Integer intValue_8abf5 -/
def m_p_194 : List m_I := [(0, .aload_n 0, 0, 0, 0, 0), (1, .getfield 205, 8, 0, 0, 1171), (4, .ireturn, 0, 0, 0, 0)]
/-- java/lang/Math abs_0f7a4 -/
def m_p_195 : List m_I := [(0, .iload_n 0, 0, 0, 0, 0), (1, .ifCond .ge 8, 9, 0, 0, 0), (4, .iload_n 0, 0, 0, 0, 0), (5, .ineg, 0, 0, 0, 0), (6, .goto 4, 10, 0, 0, 0), (9, .iload_n 0, 0, 0, 0, 0), (10, .ireturn, 0, 0, 0, 0)]
/-- java/lang/Math max_7cf53 -/
def m_p_196 : List m_I := [(0, .iload_n 0, 0, 0, 0, 0), (1, .iload_n 1, 0, 0, 0, 0), (2, .if_icmp .lt 7, 9, 0, 0, 0), (5, .iload_n 0, 0, 0, 0, 0), (6, .goto 4, 10, 0, 0, 0), (9, .iload_n 1, 0, 0, 0, 0), (10, .ireturn, 0, 0, 0, 0)]
/-- java/lang/Math min_7cf53 -/
def m_p_197 : List m_I := [(0, .iload_n 0, 0, 0, 0, 0), (1, .iload_n 1, 0, 0, 0, 0), (2, .if_icmp .gt 7, 9, 0, 0, 0), (5, .iload_n 0, 0, 0, 0, 0), (6, .goto 4, 10, 0, 0, 0), (9, .iload_n 1, 0, 0, 0, 0), (10, .ireturn, 0, 0, 0, 0)]
/-- java/lang/Number init_da8c8 -/
def m_p_198 : List m_I := [(0, .aload_n 0, 0, 0, 0, 0), (1, .invokespecial 1, 0, 1170, 7, 0), (4, .return_, 0, 0, 0, 0)]
/-- java/util/AbstractCollection init_da8c8 -/
def m_p_199 : List m_I := [(0, .aload_n 0, 0, 0, 0, 0), (1, .invokespecial 1, 0, 1140, 7, 0), (4, .return_, 0, 0, 0, 0)]
/-- java/util/AbstractList init_da8c8 -/
def m_p_200 : List m_I := [(0, .aload_n 0, 0, 0, 0, 0), (1, .invokespecial 1, 199, 1137, 1, 0), (4, .aload_n 0, 0, 0, 0, 0), (5, .iconst 0, 0, 0, 0, 0), (6, .putfield 7, 9, 0, 0, 1145), (9, .return_, 0, 0, 0, 0)]
/-- java/util/ArrayList init_da8c8 -/
def m_p_201 : List m_I := [(0, .aload_n 0, 0, 0, 0, 0), (1, .invokespecial 1, 200, 1134, 1, 0), (4, .aload_n 0, 0, 0, 0, 0), (5, .getstatic 39, 0, 1141, 11, 0), (8, .putfield 9, 9, 1, 0, 1143), (11, .return_, 0, 0, 0, 0)]
/-- java/util/ArrayList grow_92f84 -/
def m_p_202 : List m_I := [(0, .aload_n 0, 0, 0, 0, 0), (1, .getfield 9, 9, 1, 0, 1143), (4, .arraylength, 0, 0, 0, 0), (5, .istore_n 2, 0, 0, 0, 0), (6, .iload_n 2, 0, 0, 0, 0), (7, .ifCond .gt 13, 20, 0, 0, 0), (10, .aload_n 0, 0, 0, 0, 0), (11, .getfield 9, 9, 1, 0, 1143), (14, .getstatic 39, 0, 1141, 11, 0), (17, .if_acmp .eq 28, 45, 0, 0, 0), (20, .iload_n 2, 0, 0, 0, 0), (21, .iload_n 1, 0, 0, 0, 0), (22, .iload_n 2, 0, 0, 0, 0), (23, .isub, 0, 0, 0, 0), (24, .iload_n 2, 0, 0, 0, 0), (25, .iconst 1, 0, 0, 0, 0), (26, .ishr, 0, 0, 0, 0), (27, .invokestatic 73, 212, 1191, 1, 0), (30, .istore_n 3, 0, 0, 0, 0), (31, .aload_n 0, 0, 0, 0, 0), (32, .aload_n 0, 0, 0, 0, 0), (33, .getfield 9, 9, 1, 0, 1143), (36, .iload_n 3, 0, 0, 0, 0), (37, .invokestatic 66, 209, 1199, 1, 0), (40, .dup_x1, 0, 0, 0, 0), (41, .putfield 9, 9, 1, 0, 1143), (44, .areturn, 0, 0, 0, 0), (45, .aload_n 0, 0, 0, 0, 0), (46, .bipush 10, 0, 0, 0, 0), (48, .iload_n 1, 0, 0, 0, 0), (49, .invokestatic 79, 0, 1227, 3, 0), (52, .anewarray 7, 6, 1228, 0, 0), (55, .dup_x1, 0, 0, 0, 0), (56, .putfield 9, 9, 1, 0, 1143), (59, .areturn, 0, 0, 0, 0)]
/-- java/util/ArrayList grow_d5877 -/
def m_p_203 : List m_I := [(0, .aload_n 0, 0, 0, 0, 0), (1, .aload_n 0, 0, 0, 0, 0), (2, .getfield 48, 9, 2, 0, 1144), (5, .iconst 1, 0, 0, 0, 0), (6, .iadd, 0, 0, 0, 0), (7, .invokevirtual 69, 202, 1187, 1, 0), (10, .areturn, 0, 0, 0, 0)]
/-- java/util/ArrayList size_8abf5 -/
def m_p_204 : List m_I := [(0, .aload_n 0, 0, 0, 0, 0), (1, .getfield 48, 9, 2, 0, 1144), (4, .ireturn, 0, 0, 0, 0)]
/-- java/util/ArrayList elementData_915e3 -/
def m_p_205 : List m_I := [(0, .aload_n 0, 0, 0, 0, 0), (1, .getfield 9, 9, 1, 0, 1143), (4, .iload_n 1, 0, 0, 0, 0), (5, .aaload, 0, 0, 0, 0), (6, .areturn, 0, 0, 0, 0)]
/-- java/util/ArrayList get_915e3 -/
def m_p_206 : List m_I := [(0, .iload_n 1, 0, 0, 0, 0), (1, .aload_n 0, 0, 0, 0, 0), (2, .getfield 48, 9, 2, 0, 1144), (5, .invokestatic 118, 211, 1237, 1, 0), (8, .pop, 0, 0, 0, 0), (9, .aload_n 0, 0, 0, 0, 0), (10, .iload_n 1, 0, 0, 0, 0), (11, .invokevirtual 123, 205, 1243, 1, 0), (14, .areturn, 0, 0, 0, 0)]
/-- java/util/ArrayList add_72be8 -/
def m_p_207 : List m_I := [(0, .iload_n 3, 0, 0, 0, 0), (1, .aload_n 2, 0, 0, 0, 0), (2, .arraylength, 0, 0, 0, 0), (3, .if_icmp .ne 8, 11, 0, 0, 0), (6, .aload_n 0, 0, 0, 0, 0), (7, .invokevirtual 129, 203, 1183, 1, 0), (10, .astore_n 2, 0, 0, 0, 0), (11, .aload_n 2, 0, 0, 0, 0), (12, .iload_n 3, 0, 0, 0, 0), (13, .aload_n 1, 0, 0, 0, 0), (14, .aastore, 0, 0, 0, 0), (15, .aload_n 0, 0, 0, 0, 0), (16, .iload_n 3, 0, 0, 0, 0), (17, .iconst 1, 0, 0, 0, 0), (18, .iadd, 0, 0, 0, 0), (19, .putfield 48, 9, 2, 0, 1144), (22, .return_, 0, 0, 0, 0)]
/-- java/util/ArrayList add_9ea2d -/
def m_p_208 : List m_I := [(0, .aload_n 0, 0, 0, 0, 0), (1, .dup, 0, 0, 0, 0), (2, .getfield 63, 9, 0, 0, 1146), (5, .iconst 1, 0, 0, 0, 0), (6, .iadd, 0, 0, 0, 0), (7, .putfield 63, 9, 0, 0, 1146), (10, .aload_n 0, 0, 0, 0, 0), (11, .aload_n 1, 0, 0, 0, 0), (12, .aload_n 0, 0, 0, 0, 0), (13, .getfield 9, 9, 1, 0, 1143), (16, .aload_n 0, 0, 0, 0, 0), (17, .getfield 48, 9, 2, 0, 1144), (20, .invokevirtual 131, 207, 1179, 1, 0), (23, .iconst 1, 0, 0, 0, 0), (24, .ireturn, 0, 0, 0, 0)]
/-- java/util/Arrays copyOf_1904c -/
def m_p_209 : List m_I := [(0, .aload_n 0, 0, 0, 0, 0), (1, .iload_n 1, 0, 0, 0, 0), (2, .aload_n 0, 0, 0, 0, 0), (3, .invokevirtual 86, 0, 1202, 13, 0), (6, .invokestatic 300, 210, 1219, 1, 0), (9, .areturn, 0, 0, 0, 0)]
/-- java/util/Arrays copyOf_6403c -/
def m_p_210 : List m_I := [(0, .aload_n 2, 0, 0, 0, 0), (1, .ldc 110, 0, 1222, 14, 0), (3, .if_acmp .ne 10, 13, 0, 0, 0), (6, .iload_n 1, 0, 0, 0, 0), (7, .anewarray 2, 6, 1224, 0, 0), (10, .goto 14, 24, 0, 0, 0), (13, .aload_n 2, 0, 0, 0, 0), (17, .iload_n 1, 0, 0, 0, 0), (21, .checkcast 110, 2, 1222, 0, 0), (24, .astore_n 3, 0, 0, 0, 0), (25, .aload_n 0, 0, 0, 0, 0), (26, .iconst 0, 0, 0, 0, 0), (27, .aload_n 3, 0, 0, 0, 0), (28, .iconst 0, 0, 0, 0, 0), (29, .aload_n 0, 0, 0, 0, 0), (30, .arraylength, 0, 0, 0, 0), (31, .iload_n 1, 0, 0, 0, 0), (32, .invokestatic 304, 0, 1225, 4, 0), (35, .invokestatic 150, 0, 1226, 6, 0), (38, .aload_n 3, 0, 0, 0, 0), (39, .areturn, 0, 0, 0, 0)]
/-- java/util/Objects checkIndex_7cf53 -/
def m_p_211 : List m_I := [(0, .iload_n 0, 0, 0, 0, 0), (1, .iload_n 1, 0, 0, 0, 0), (2, .aconst_null, 0, 0, 0, 0), (3, .invokestatic 105, 214, 1240, 1, 0), (6, .ireturn, 0, 0, 0, 0)]
/-- jdk/internal/util/ArraysSupport newLength_cabcc -/
def m_p_212 : List m_I := [(0, .iload_n 0, 0, 0, 0, 0), (1, .iload_n 1, 0, 0, 0, 0), (2, .iload_n 2, 0, 0, 0, 0), (3, .invokestatic 194, 0, 1194, 3, 0), (6, .iadd, 0, 0, 0, 0), (7, .istore_n 3, 0, 0, 0, 0), (8, .iconst 0, 0, 0, 0, 0), (9, .iload_n 3, 0, 0, 0, 0), (10, .if_icmp .ge 11, 21, 0, 0, 0), (13, .iload_n 3, 0, 0, 0, 0), (14, .ldc 200, 0, 1195, 0, 2147483639), (16, .if_icmp .gt 5, 21, 0, 0, 0), (19, .iload_n 3, 0, 0, 0, 0), (20, .ireturn, 0, 0, 0, 0), (21, .iload_n 0, 0, 0, 0, 0), (22, .iload_n 1, 0, 0, 0, 0), (23, .invokestatic 201, 213, 1196, 1, 0), (26, .ireturn, 0, 0, 0, 0)]
/-- jdk/internal/util/ArraysSupport hugeLength_7cf53 -/
def m_p_213 : List m_I := [(0, .iload_n 0, 0, 0, 0, 0), (1, .iload_n 1, 0, 0, 0, 0), (2, .iadd, 0, 0, 0, 0), (3, .istore_n 2, 0, 0, 0, 0), (4, .iload_n 2, 0, 0, 0, 0), (5, .ifCond .ge 44, 49, 0, 0, 0), (11, .dup, 0, 0, 0, 0), (15, .dup, 0, 0, 0, 0), (24, .iload_n 0, 0, 0, 0, 0), (33, .iload_n 1, 0, 0, 0, 0), (48, .athrow, 0, 0, 0, 0), (49, .iload_n 2, 0, 0, 0, 0), (50, .ldc 200, 0, 1195, 0, 2147483639), (52, .if_icmp .gt 6, 58, 0, 0, 0), (55, .ldc 200, 0, 1195, 0, 2147483639), (57, .ireturn, 0, 0, 0, 0), (58, .iload_n 2, 0, 0, 0, 0), (59, .ireturn, 0, 0, 0, 0)]
/-- jdk/internal/util/Preconditions checkIndex_8e157 -/
def m_p_214 : List m_I := [(0, .iload_n 0, 0, 0, 0, 0), (1, .ifCond .lt 8, 9, 0, 0, 0), (4, .iload_n 0, 0, 0, 0, 0), (5, .iload_n 1, 0, 0, 0, 0), (6, .if_icmp .lt 10, 16, 0, 0, 0), (9, .aload_n 2, 0, 0, 0, 0), (10, .iload_n 0, 0, 0, 0, 0), (11, .iload_n 1, 0, 0, 0, 0), (15, .athrow, 0, 0, 0, 0), (16, .iload_n 0, 0, 0, 0, 0), (17, .ireturn, 0, 0, 0, 0)]
/-- ParallaxSheetsLaw fresh -/
def m_p_215 : List m_I := [(0, .aload 5, 0, 0, 0, 0), (2, .iconst 0, 0, 0, 0, 0), (3, .aload_n 0, 0, 0, 0, 0), (4, .iload_n 1, 0, 0, 0, 0), (5, .iload_n 2, 0, 0, 0, 0), (6, .iload_n 3, 0, 0, 0, 0), (7, .iload 4, 0, 0, 0, 0), (9, .invokevirtual 7, 53, 395, 1, 0), (12, .i2l, 0, 0, 0, 0), (13, .lastore, 0, 0, 0, 0), (14, .goto 11, 25, 0, 0, 0), (17, .astore 6, 0, 0, 0, 0), (19, .iconst 1, 0, 0, 0, 0), (20, .ireturn, 0, 0, 0, 0), (21, .astore 6, 0, 0, 0, 0), (23, .iconst 2, 0, 0, 0, 0), (24, .ireturn, 0, 0, 0, 0), (25, .iconst 0, 0, 0, 0, 0), (26, .ireturn, 0, 0, 0, 0)]
/-- ParallaxSheetsLaw dot -/
def m_p_216 : List m_I := [(0, .aload 5, 0, 0, 0, 0), (2, .iconst 0, 0, 0, 0, 0), (3, .aload_n 0, 0, 0, 0, 0), (4, .iload_n 1, 0, 0, 0, 0), (5, .iload_n 2, 0, 0, 0, 0), (6, .iload_n 3, 0, 0, 0, 0), (7, .iload 4, 0, 0, 0, 0), (9, .invokevirtual 17, 54, 500, 1, 0), (12, .i2l, 0, 0, 0, 0), (13, .lastore, 0, 0, 0, 0), (14, .goto 11, 25, 0, 0, 0), (17, .astore 6, 0, 0, 0, 0), (19, .iconst 1, 0, 0, 0, 0), (20, .ireturn, 0, 0, 0, 0), (21, .astore 6, 0, 0, 0, 0), (23, .iconst 2, 0, 0, 0, 0), (24, .ireturn, 0, 0, 0, 0), (25, .iconst 0, 0, 0, 0, 0), (26, .ireturn, 0, 0, 0, 0)]
/-- ParallaxSheetsLaw box -/
def m_p_217 : List m_I := [(0, .aload 7, 0, 0, 0, 0), (2, .iconst 0, 0, 0, 0, 0), (3, .aload_n 0, 0, 0, 0, 0), (4, .iload_n 1, 0, 0, 0, 0), (5, .iload_n 2, 0, 0, 0, 0), (6, .iload_n 3, 0, 0, 0, 0), (7, .iload 4, 0, 0, 0, 0), (9, .iload 5, 0, 0, 0, 0), (11, .iload 6, 0, 0, 0, 0), (13, .invokevirtual 20, 55, 515, 1, 0), (16, .i2l, 0, 0, 0, 0), (17, .lastore, 0, 0, 0, 0), (18, .goto 11, 29, 0, 0, 0), (21, .astore 8, 0, 0, 0, 0), (23, .iconst 1, 0, 0, 0, 0), (24, .ireturn, 0, 0, 0, 0), (25, .astore 8, 0, 0, 0, 0), (27, .iconst 2, 0, 0, 0, 0), (28, .ireturn, 0, 0, 0, 0), (29, .iconst 0, 0, 0, 0, 0), (30, .ireturn, 0, 0, 0, 0)]
/-- ParallaxSheetsLaw disc -/
def m_p_218 : List m_I := [(0, .aload 6, 0, 0, 0, 0), (2, .iconst 0, 0, 0, 0, 0), (3, .aload_n 0, 0, 0, 0, 0), (4, .iload_n 1, 0, 0, 0, 0), (5, .iload_n 2, 0, 0, 0, 0), (6, .iload_n 3, 0, 0, 0, 0), (7, .iload 4, 0, 0, 0, 0), (9, .iload 5, 0, 0, 0, 0), (11, .invokevirtual 24, 56, 530, 1, 0), (14, .i2l, 0, 0, 0, 0), (15, .lastore, 0, 0, 0, 0), (16, .goto 11, 27, 0, 0, 0), (19, .astore 7, 0, 0, 0, 0), (21, .iconst 1, 0, 0, 0, 0), (22, .ireturn, 0, 0, 0, 0), (23, .astore 7, 0, 0, 0, 0), (25, .iconst 2, 0, 0, 0, 0), (26, .ireturn, 0, 0, 0, 0), (27, .iconst 0, 0, 0, 0, 0), (28, .ireturn, 0, 0, 0, 0)]
/-- ParallaxSheetsLaw shade -/
def m_p_219 : List m_I := [(0, .aload 5, 0, 0, 0, 0), (2, .iconst 0, 0, 0, 0, 0), (3, .aload_n 0, 0, 0, 0, 0), (4, .iload_n 1, 0, 0, 0, 0), (5, .iload_n 2, 0, 0, 0, 0), (6, .iload_n 3, 0, 0, 0, 0), (7, .iload 4, 0, 0, 0, 0), (9, .invokevirtual 28, 57, 537, 1, 0), (12, .i2l, 0, 0, 0, 0), (13, .lastore, 0, 0, 0, 0), (14, .goto 11, 25, 0, 0, 0), (17, .astore 6, 0, 0, 0, 0), (19, .iconst 1, 0, 0, 0, 0), (20, .ireturn, 0, 0, 0, 0), (21, .astore 6, 0, 0, 0, 0), (23, .iconst 2, 0, 0, 0, 0), (24, .ireturn, 0, 0, 0, 0), (25, .iconst 0, 0, 0, 0, 0), (26, .ireturn, 0, 0, 0, 0)]
/-- ParallaxSheetsLaw copy -/
def m_p_220 : List m_I := [(0, .aload_n 3, 0, 0, 0, 0), (1, .iconst 0, 0, 0, 0, 0), (2, .aload_n 0, 0, 0, 0, 0), (3, .iload_n 1, 0, 0, 0, 0), (4, .iload_n 2, 0, 0, 0, 0), (5, .invokevirtual 31, 58, 547, 1, 0), (8, .i2l, 0, 0, 0, 0), (9, .lastore, 0, 0, 0, 0), (10, .goto 7, 17, 0, 0, 0), (13, .astore 4, 0, 0, 0, 0), (15, .iconst 1, 0, 0, 0, 0), (16, .ireturn, 0, 0, 0, 0), (17, .iconst 0, 0, 0, 0, 0), (18, .ireturn, 0, 0, 0, 0)]
/-- ParallaxSheetsLaw mix -/
def m_p_221 : List m_I := [(0, .aload 4, 0, 0, 0, 0), (2, .iconst 0, 0, 0, 0, 0), (3, .aload_n 0, 0, 0, 0, 0), (4, .iload_n 1, 0, 0, 0, 0), (5, .iload_n 2, 0, 0, 0, 0), (6, .iload_n 3, 0, 0, 0, 0), (7, .invokevirtual 35, 59, 559, 1, 0), (10, .i2l, 0, 0, 0, 0), (11, .lastore, 0, 0, 0, 0), (12, .goto 15, 27, 0, 0, 0), (15, .astore 5, 0, 0, 0, 0), (17, .iconst 1, 0, 0, 0, 0), (18, .ireturn, 0, 0, 0, 0), (19, .astore 5, 0, 0, 0, 0), (21, .iconst 2, 0, 0, 0, 0), (22, .ireturn, 0, 0, 0, 0), (23, .astore 5, 0, 0, 0, 0), (25, .iconst 3, 0, 0, 0, 0), (26, .ireturn, 0, 0, 0, 0), (27, .iconst 0, 0, 0, 0, 0), (28, .ireturn, 0, 0, 0, 0)]
/-- ParallaxSheetsLaw turn -/
def m_p_222 : List m_I := [(0, .aload_n 3, 0, 0, 0, 0), (1, .iconst 0, 0, 0, 0, 0), (2, .aload_n 0, 0, 0, 0, 0), (3, .iload_n 1, 0, 0, 0, 0), (4, .iload_n 2, 0, 0, 0, 0), (5, .invokevirtual 41, 60, 585, 1, 0), (8, .i2l, 0, 0, 0, 0), (9, .lastore, 0, 0, 0, 0), (10, .goto 15, 25, 0, 0, 0), (13, .astore 4, 0, 0, 0, 0), (15, .iconst 1, 0, 0, 0, 0), (16, .ireturn, 0, 0, 0, 0), (17, .astore 4, 0, 0, 0, 0), (19, .iconst 2, 0, 0, 0, 0), (20, .ireturn, 0, 0, 0, 0), (21, .astore 4, 0, 0, 0, 0), (23, .iconst 3, 0, 0, 0, 0), (24, .ireturn, 0, 0, 0, 0), (25, .iconst 0, 0, 0, 0, 0), (26, .ireturn, 0, 0, 0, 0)]
/-- ParallaxSheetsLaw kernel -/
def m_p_223 : List m_I := [(0, .aload_n 3, 0, 0, 0, 0), (1, .iconst 0, 0, 0, 0, 0), (2, .aload_n 0, 0, 0, 0, 0), (3, .iload_n 1, 0, 0, 0, 0), (4, .iload_n 2, 0, 0, 0, 0), (5, .invokevirtual 44, 61, 598, 1, 0), (8, .i2l, 0, 0, 0, 0), (9, .lastore, 0, 0, 0, 0), (10, .goto 11, 21, 0, 0, 0), (13, .astore 4, 0, 0, 0, 0), (15, .iconst 1, 0, 0, 0, 0), (16, .ireturn, 0, 0, 0, 0), (17, .astore 4, 0, 0, 0, 0), (19, .iconst 2, 0, 0, 0, 0), (20, .ireturn, 0, 0, 0, 0), (21, .iconst 0, 0, 0, 0, 0), (22, .ireturn, 0, 0, 0, 0)]
/-- ParallaxSheetsLaw divide -/
def m_p_224 : List m_I := [(0, .aload_n 3, 0, 0, 0, 0), (1, .iconst 0, 0, 0, 0, 0), (2, .aload_n 0, 0, 0, 0, 0), (3, .iload_n 1, 0, 0, 0, 0), (4, .iload_n 2, 0, 0, 0, 0), (5, .invokevirtual 47, 62, 605, 1, 0), (8, .i2l, 0, 0, 0, 0), (9, .lastore, 0, 0, 0, 0), (10, .goto 7, 17, 0, 0, 0), (13, .astore 4, 0, 0, 0, 0), (15, .iconst 1, 0, 0, 0, 0), (16, .ireturn, 0, 0, 0, 0), (17, .iconst 0, 0, 0, 0, 0), (18, .ireturn, 0, 0, 0, 0)]
/-- ParallaxSheetsLaw filter -/
def m_p_225 : List m_I := [(0, .aload_n 3, 0, 0, 0, 0), (1, .iconst 0, 0, 0, 0, 0), (2, .aload_n 0, 0, 0, 0, 0), (3, .iload_n 1, 0, 0, 0, 0), (4, .iload_n 2, 0, 0, 0, 0), (5, .invokevirtual 50, 63, 612, 1, 0), (8, .i2l, 0, 0, 0, 0), (9, .lastore, 0, 0, 0, 0), (10, .goto 11, 21, 0, 0, 0), (13, .astore 4, 0, 0, 0, 0), (15, .iconst 1, 0, 0, 0, 0), (16, .ireturn, 0, 0, 0, 0), (17, .astore 4, 0, 0, 0, 0), (19, .iconst 2, 0, 0, 0, 0), (20, .ireturn, 0, 0, 0, 0), (21, .iconst 0, 0, 0, 0, 0), (22, .ireturn, 0, 0, 0, 0)]
/-- ParallaxSheetsLaw values -/
def m_p_226 : List m_I := [(0, .aload_n 3, 0, 0, 0, 0), (1, .iconst 0, 0, 0, 0, 0), (2, .aload_n 0, 0, 0, 0, 0), (3, .iload_n 1, 0, 0, 0, 0), (4, .iload_n 2, 0, 0, 0, 0), (5, .invokevirtual 53, 64, 664, 1, 0), (8, .i2l, 0, 0, 0, 0), (9, .lastore, 0, 0, 0, 0), (10, .goto 11, 21, 0, 0, 0), (13, .astore 4, 0, 0, 0, 0), (15, .iconst 1, 0, 0, 0, 0), (16, .ireturn, 0, 0, 0, 0), (17, .astore 4, 0, 0, 0, 0), (19, .iconst 2, 0, 0, 0, 0), (20, .ireturn, 0, 0, 0, 0), (21, .iconst 0, 0, 0, 0, 0), (22, .ireturn, 0, 0, 0, 0)]
/-- ParallaxSheetsLaw value -/
def m_p_227 : List m_I := [(0, .aload 4, 0, 0, 0, 0), (2, .iconst 0, 0, 0, 0, 0), (3, .aload_n 0, 0, 0, 0, 0), (4, .iload_n 1, 0, 0, 0, 0), (5, .iload_n 2, 0, 0, 0, 0), (6, .iload_n 3, 0, 0, 0, 0), (7, .invokevirtual 56, 65, 698, 1, 0), (10, .i2l, 0, 0, 0, 0), (11, .lastore, 0, 0, 0, 0), (12, .goto 7, 19, 0, 0, 0), (15, .astore 5, 0, 0, 0, 0), (17, .iconst 1, 0, 0, 0, 0), (18, .ireturn, 0, 0, 0, 0), (19, .iconst 0, 0, 0, 0, 0), (20, .ireturn, 0, 0, 0, 0)]
/-- ParallaxSheetsLaw sheet -/
def m_p_228 : List m_I := [(0, .aload_n 3, 0, 0, 0, 0), (1, .iconst 0, 0, 0, 0, 0), (2, .aload_n 0, 0, 0, 0, 0), (3, .iload_n 1, 0, 0, 0, 0), (4, .iload_n 2, 0, 0, 0, 0), (5, .invokevirtual 59, 66, 705, 1, 0), (8, .i2l, 0, 0, 0, 0), (9, .lastore, 0, 0, 0, 0), (10, .goto 11, 21, 0, 0, 0), (13, .astore 4, 0, 0, 0, 0), (15, .iconst 1, 0, 0, 0, 0), (16, .ireturn, 0, 0, 0, 0), (17, .astore 4, 0, 0, 0, 0), (19, .iconst 2, 0, 0, 0, 0), (20, .ireturn, 0, 0, 0, 0), (21, .iconst 0, 0, 0, 0, 0), (22, .ireturn, 0, 0, 0, 0)]
/-- ParallaxSheetsLaw count -/
def m_p_229 : List m_I := [(0, .aload 4, 0, 0, 0, 0), (2, .iconst 0, 0, 0, 0, 0), (3, .aload_n 0, 0, 0, 0, 0), (4, .iload_n 1, 0, 0, 0, 0), (5, .iload_n 2, 0, 0, 0, 0), (6, .iload_n 3, 0, 0, 0, 0), (7, .invokevirtual 62, 67, 712, 1, 0), (10, .i2l, 0, 0, 0, 0), (11, .lastore, 0, 0, 0, 0), (12, .goto 7, 19, 0, 0, 0), (15, .astore 5, 0, 0, 0, 0), (17, .iconst 1, 0, 0, 0, 0), (18, .ireturn, 0, 0, 0, 0), (19, .iconst 0, 0, 0, 0, 0), (20, .ireturn, 0, 0, 0, 0)]
/-- ParallaxSheetsLaw ordered -/
def m_p_230 : List m_I := [(0, .aload_n 3, 0, 0, 0, 0), (1, .iconst 0, 0, 0, 0, 0), (2, .aload_n 0, 0, 0, 0, 0), (3, .iload_n 1, 0, 0, 0, 0), (4, .iload_n 2, 0, 0, 0, 0), (5, .invokevirtual 65, 68, 719, 1, 0), (8, .i2l, 0, 0, 0, 0), (9, .lastore, 0, 0, 0, 0), (10, .goto 7, 17, 0, 0, 0), (13, .astore 4, 0, 0, 0, 0), (15, .iconst 1, 0, 0, 0, 0), (16, .ireturn, 0, 0, 0, 0), (17, .iconst 0, 0, 0, 0, 0), (18, .ireturn, 0, 0, 0, 0)]
/-- ParallaxSheetsLaw difference -/
def m_p_231 : List m_I := [(0, .aload_n 3, 0, 0, 0, 0), (1, .iconst 0, 0, 0, 0, 0), (2, .aload_n 0, 0, 0, 0, 0), (3, .iload_n 1, 0, 0, 0, 0), (4, .iload_n 2, 0, 0, 0, 0), (5, .invokevirtual 68, 69, 727, 1, 0), (8, .dastore, 0, 0, 0, 0), (9, .goto 11, 20, 0, 0, 0), (12, .astore 4, 0, 0, 0, 0), (14, .iconst 1, 0, 0, 0, 0), (15, .ireturn, 0, 0, 0, 0), (16, .astore 4, 0, 0, 0, 0), (18, .iconst 2, 0, 0, 0, 0), (19, .ireturn, 0, 0, 0, 0), (20, .iconst 0, 0, 0, 0, 0), (21, .ireturn, 0, 0, 0, 0)]
/-- ParallaxSheetsLaw parts -/
def m_p_232 : List m_I := [(0, .aload_n 3, 0, 0, 0, 0), (1, .iconst 0, 0, 0, 0, 0), (2, .aload_n 0, 0, 0, 0, 0), (3, .iload_n 1, 0, 0, 0, 0), (4, .iload_n 2, 0, 0, 0, 0), (5, .invokevirtual 72, 70, 734, 1, 0), (8, .i2l, 0, 0, 0, 0), (9, .lastore, 0, 0, 0, 0), (10, .goto 11, 21, 0, 0, 0), (13, .astore 4, 0, 0, 0, 0), (15, .iconst 1, 0, 0, 0, 0), (16, .ireturn, 0, 0, 0, 0), (17, .astore 4, 0, 0, 0, 0), (19, .iconst 2, 0, 0, 0, 0), (20, .ireturn, 0, 0, 0, 0), (21, .iconst 0, 0, 0, 0, 0), (22, .ireturn, 0, 0, 0, 0)]
/-- ParallaxSheetsLaw holes -/
def m_p_233 : List m_I := [(0, .aload_n 3, 0, 0, 0, 0), (1, .iconst 0, 0, 0, 0, 0), (2, .aload_n 0, 0, 0, 0, 0), (3, .iload_n 1, 0, 0, 0, 0), (4, .iload_n 2, 0, 0, 0, 0), (5, .invokevirtual 75, 71, 744, 1, 0), (8, .i2l, 0, 0, 0, 0), (9, .lastore, 0, 0, 0, 0), (10, .goto 11, 21, 0, 0, 0), (13, .astore 4, 0, 0, 0, 0), (15, .iconst 1, 0, 0, 0, 0), (16, .ireturn, 0, 0, 0, 0), (17, .astore 4, 0, 0, 0, 0), (19, .iconst 2, 0, 0, 0, 0), (20, .ireturn, 0, 0, 0, 0), (21, .iconst 0, 0, 0, 0, 0), (22, .ireturn, 0, 0, 0, 0)]
/-- ParallaxSheetsLaw partOf -/
def m_p_234 : List m_I := [(0, .aload 5, 0, 0, 0, 0), (2, .iconst 0, 0, 0, 0, 0), (3, .aload_n 0, 0, 0, 0, 0), (4, .iload_n 1, 0, 0, 0, 0), (5, .iload_n 2, 0, 0, 0, 0), (6, .iload_n 3, 0, 0, 0, 0), (7, .iload 4, 0, 0, 0, 0), (9, .invokevirtual 78, 72, 751, 1, 0), (12, .i2l, 0, 0, 0, 0), (13, .lastore, 0, 0, 0, 0), (14, .goto 11, 25, 0, 0, 0), (17, .astore 6, 0, 0, 0, 0), (19, .iconst 1, 0, 0, 0, 0), (20, .ireturn, 0, 0, 0, 0), (21, .astore 6, 0, 0, 0, 0), (23, .iconst 2, 0, 0, 0, 0), (24, .ireturn, 0, 0, 0, 0), (25, .iconst 0, 0, 0, 0, 0), (26, .ireturn, 0, 0, 0, 0)]
/-- ParallaxSheetsLaw part -/
def m_p_235 : List m_I := [(0, .aload 5, 0, 0, 0, 0), (2, .iconst 0, 0, 0, 0, 0), (3, .aload_n 0, 0, 0, 0, 0), (4, .iload_n 1, 0, 0, 0, 0), (5, .iload_n 2, 0, 0, 0, 0), (6, .iload_n 3, 0, 0, 0, 0), (7, .iload 4, 0, 0, 0, 0), (9, .invokevirtual 81, 73, 759, 1, 0), (12, .i2l, 0, 0, 0, 0), (13, .lastore, 0, 0, 0, 0), (14, .goto 11, 25, 0, 0, 0), (17, .astore 6, 0, 0, 0, 0), (19, .iconst 1, 0, 0, 0, 0), (20, .ireturn, 0, 0, 0, 0), (21, .astore 6, 0, 0, 0, 0), (23, .iconst 2, 0, 0, 0, 0), (24, .ireturn, 0, 0, 0, 0), (25, .iconst 0, 0, 0, 0, 0), (26, .ireturn, 0, 0, 0, 0)]
/-- ParallaxSheetsLaw keep -/
def m_p_236 : List m_I := [(0, .aload_n 3, 0, 0, 0, 0), (1, .iconst 0, 0, 0, 0, 0), (2, .aload_n 0, 0, 0, 0, 0), (3, .iload_n 1, 0, 0, 0, 0), (4, .iload_n 2, 0, 0, 0, 0), (5, .invokevirtual 84, 74, 784, 1, 0), (8, .i2l, 0, 0, 0, 0), (9, .lastore, 0, 0, 0, 0), (10, .goto 11, 21, 0, 0, 0), (13, .astore 4, 0, 0, 0, 0), (15, .iconst 1, 0, 0, 0, 0), (16, .ireturn, 0, 0, 0, 0), (17, .astore 4, 0, 0, 0, 0), (19, .iconst 2, 0, 0, 0, 0), (20, .ireturn, 0, 0, 0, 0), (21, .iconst 0, 0, 0, 0, 0), (22, .ireturn, 0, 0, 0, 0)]
/-- ParallaxSheetsLaw far -/
def m_p_237 : List m_I := [(0, .aload 5, 0, 0, 0, 0), (2, .iconst 0, 0, 0, 0, 0), (3, .aload_n 0, 0, 0, 0, 0), (4, .iload_n 1, 0, 0, 0, 0), (5, .iload_n 2, 0, 0, 0, 0), (6, .iload_n 3, 0, 0, 0, 0), (7, .iload 4, 0, 0, 0, 0), (9, .invokevirtual 87, 75, 795, 1, 0), (12, .i2l, 0, 0, 0, 0), (13, .lastore, 0, 0, 0, 0), (14, .goto 11, 25, 0, 0, 0), (17, .astore 6, 0, 0, 0, 0), (19, .iconst 1, 0, 0, 0, 0), (20, .ireturn, 0, 0, 0, 0), (21, .astore 6, 0, 0, 0, 0), (23, .iconst 2, 0, 0, 0, 0), (24, .ireturn, 0, 0, 0, 0), (25, .iconst 0, 0, 0, 0, 0), (26, .ireturn, 0, 0, 0, 0)]
/-- ParallaxSheetsLaw spread -/
def m_p_238 : List m_I := [(0, .aload_n 3, 0, 0, 0, 0), (1, .iconst 0, 0, 0, 0, 0), (2, .aload_n 0, 0, 0, 0, 0), (3, .iload_n 1, 0, 0, 0, 0), (4, .iload_n 2, 0, 0, 0, 0), (5, .invokevirtual 90, 76, 802, 1, 0), (8, .i2l, 0, 0, 0, 0), (9, .lastore, 0, 0, 0, 0), (10, .goto 11, 21, 0, 0, 0), (13, .astore 4, 0, 0, 0, 0), (15, .iconst 1, 0, 0, 0, 0), (16, .ireturn, 0, 0, 0, 0), (17, .astore 4, 0, 0, 0, 0), (19, .iconst 2, 0, 0, 0, 0), (20, .ireturn, 0, 0, 0, 0), (21, .iconst 0, 0, 0, 0, 0), (22, .ireturn, 0, 0, 0, 0)]
/-- ParallaxSheetsLaw carve -/
def m_p_239 : List m_I := [(0, .aload_n 2, 0, 0, 0, 0), (1, .iconst 0, 0, 0, 0, 0), (2, .aload_n 0, 0, 0, 0, 0), (3, .iload_n 1, 0, 0, 0, 0), (4, .invokevirtual 93, 77, 809, 1, 0), (7, .i2l, 0, 0, 0, 0), (8, .lastore, 0, 0, 0, 0), (9, .goto 9, 18, 0, 0, 0), (12, .astore_n 3, 0, 0, 0, 0), (13, .iconst 1, 0, 0, 0, 0), (14, .ireturn, 0, 0, 0, 0), (15, .astore_n 3, 0, 0, 0, 0), (16, .iconst 2, 0, 0, 0, 0), (17, .ireturn, 0, 0, 0, 0), (18, .iconst 0, 0, 0, 0, 0), (19, .ireturn, 0, 0, 0, 0)]
/-- ParallaxSheetsLaw widen -/
def m_p_240 : List m_I := [(0, .aload_n 2, 0, 0, 0, 0), (1, .iconst 0, 0, 0, 0, 0), (2, .aload_n 0, 0, 0, 0, 0), (3, .iload_n 1, 0, 0, 0, 0), (4, .invokevirtual 97, 78, 816, 1, 0), (7, .i2l, 0, 0, 0, 0), (8, .lastore, 0, 0, 0, 0), (9, .goto 9, 18, 0, 0, 0), (12, .astore_n 3, 0, 0, 0, 0), (13, .iconst 1, 0, 0, 0, 0), (14, .ireturn, 0, 0, 0, 0), (15, .astore_n 3, 0, 0, 0, 0), (16, .iconst 2, 0, 0, 0, 0), (17, .ireturn, 0, 0, 0, 0), (18, .iconst 0, 0, 0, 0, 0), (19, .ireturn, 0, 0, 0, 0)]
/-- ParallaxSheetsLaw seam -/
def m_p_241 : List m_I := [(0, .aload_n 3, 0, 0, 0, 0), (1, .iconst 0, 0, 0, 0, 0), (2, .aload_n 0, 0, 0, 0, 0), (3, .iload_n 1, 0, 0, 0, 0), (4, .iload_n 2, 0, 0, 0, 0), (5, .invokevirtual 100, 79, 827, 1, 0), (8, .i2l, 0, 0, 0, 0), (9, .lastore, 0, 0, 0, 0), (10, .goto 7, 17, 0, 0, 0), (13, .astore 4, 0, 0, 0, 0), (15, .iconst 1, 0, 0, 0, 0), (16, .ireturn, 0, 0, 0, 0), (17, .iconst 0, 0, 0, 0, 0), (18, .ireturn, 0, 0, 0, 0)]
/-- ParallaxSheetsLaw partsAt -/
def m_p_242 : List m_I := [(0, .aload 4, 0, 0, 0, 0), (2, .iconst 0, 0, 0, 0, 0), (3, .aload_n 0, 0, 0, 0, 0), (4, .iload_n 1, 0, 0, 0, 0), (5, .iload_n 2, 0, 0, 0, 0), (6, .iload_n 3, 0, 0, 0, 0), (7, .invokevirtual 103, 80, 834, 1, 0), (10, .i2l, 0, 0, 0, 0), (11, .lastore, 0, 0, 0, 0), (12, .goto 11, 23, 0, 0, 0), (15, .astore 5, 0, 0, 0, 0), (17, .iconst 1, 0, 0, 0, 0), (18, .ireturn, 0, 0, 0, 0), (19, .astore 5, 0, 0, 0, 0), (21, .iconst 2, 0, 0, 0, 0), (22, .ireturn, 0, 0, 0, 0), (23, .iconst 0, 0, 0, 0, 0), (24, .ireturn, 0, 0, 0, 0)]
/-- ParallaxSheetsLaw carvedBy -/
def m_p_243 : List m_I := [(0, .aload_n 3, 0, 0, 0, 0), (1, .iconst 0, 0, 0, 0, 0), (2, .aload_n 0, 0, 0, 0, 0), (3, .iload_n 1, 0, 0, 0, 0), (4, .iload_n 2, 0, 0, 0, 0), (5, .invokevirtual 106, 81, 841, 1, 0), (8, .i2l, 0, 0, 0, 0), (9, .lastore, 0, 0, 0, 0), (10, .goto 11, 21, 0, 0, 0), (13, .astore 4, 0, 0, 0, 0), (15, .iconst 1, 0, 0, 0, 0), (16, .ireturn, 0, 0, 0, 0), (17, .astore 4, 0, 0, 0, 0), (19, .iconst 2, 0, 0, 0, 0), (20, .ireturn, 0, 0, 0, 0), (21, .iconst 0, 0, 0, 0, 0), (22, .ireturn, 0, 0, 0, 0)]
/-- ParallaxSheetsLaw law -/
def m_p_244_0 : List m_I := [(0, .new 8, 5, 72, 0, 0), (3, .dup, 0, 0, 0, 0), (4, .invokespecial 109, 52, 74, 1, 0), (7, .astore_n 1, 0, 0, 0, 0), (8, .new 110, 7, 845, 0, 0), (11, .dup, 0, 0, 0, 0), (12, .invokespecial 112, 143, 847, 1, 0), (15, .astore_n 2, 0, 0, 0, 0), (16, .iconst 1, 0, 0, 0, 0), (17, .newarray .long, 3, 1366, 0, 0), (19, .astore_n 3, 0, 0, 0, 0), (20, .iconst 1, 0, 0, 0, 0), (21, .newarray .double, 4, 1367, 0, 0), (23, .astore 4, 0, 0, 0, 0), (25, .iconst 0, 0, 0, 0, 0), (26, .istore 5, 0, 0, 0, 0), (28, .iload 5, 0, 0, 0, 0), (30, .aload_n 0, 0, 0, 0, 0), (31, .arraylength, 0, 0, 0, 0), (32, .bipush 7, 0, 0, 0, 0), (34, .isub, 0, 0, 0, 0), (35, .if_icmp .gt 2412, 2447, 0, 0, 0), (38, .aload_n 0, 0, 0, 0, 0), (39, .iload 5, 0, 0, 0, 0), (41, .iaload, 0, 0, 0, 0), (42, .bipush 31, 0, 0, 0, 0), (44, .iand, 0, 0, 0, 0), (45, .tableswitch 2396 0 29 #[135, 227, 319, 437, 541, 633, 701, 781, 849, 917, 985, 1053, 1121, 1201, 1269, 1349, 1417, 1506, 1574, 1642, 1734, 1826, 1894, 1986, 2054, 2110, 2166, 2234, 2314, 2382], 0, 0, 0, 135), (180, .aload_n 1, 0, 0, 0, 0), (181, .aload_n 0, 0, 0, 0, 0), (182, .iload 5, 0, 0, 0, 0), (184, .iconst 1, 0, 0, 0, 0), (185, .iadd, 0, 0, 0, 0), (186, .iaload, 0, 0, 0, 0), (187, .aload_n 0, 0, 0, 0, 0), (188, .iload 5, 0, 0, 0, 0), (190, .iconst 2, 0, 0, 0, 0), (191, .iadd, 0, 0, 0, 0), (192, .iaload, 0, 0, 0, 0), (193, .aload_n 0, 0, 0, 0, 0), (194, .iload 5, 0, 0, 0, 0), (196, .iconst 3, 0, 0, 0, 0), (197, .iadd, 0, 0, 0, 0), (198, .iaload, 0, 0, 0, 0), (199, .aload_n 0, 0, 0, 0, 0), (200, .iload 5, 0, 0, 0, 0), (202, .iconst 4, 0, 0, 0, 0), (203, .iadd, 0, 0, 0, 0), (204, .iaload, 0, 0, 0, 0), (205, .aload_n 3, 0, 0, 0, 0), (206, .invokestatic 113, 215, 390, 1, 0), (209, .istore 6, 0, 0, 0, 0), (211, .aload_n 2, 0, 0, 0, 0), (212, .aload_n 0, 0, 0, 0, 0), (213, .iload 5, 0, 0, 0, 0), (215, .iconst 1, 0, 0, 0, 0), (216, .iadd, 0, 0, 0, 0), (217, .iaload, 0, 0, 0, 0), (218, .aload_n 0, 0, 0, 0, 0), (219, .iload 5, 0, 0, 0, 0), (221, .iconst 2, 0, 0, 0, 0), (222, .iadd, 0, 0, 0, 0), (223, .iaload, 0, 0, 0, 0), (224, .aload_n 0, 0, 0, 0, 0), (225, .iload 5, 0, 0, 0, 0), (227, .iconst 3, 0, 0, 0, 0), (228, .iadd, 0, 0, 0, 0), (229, .iaload, 0, 0, 0, 0), (230, .aload_n 0, 0, 0, 0, 0), (231, .iload 5, 0, 0, 0, 0), (233, .iconst 4, 0, 0, 0, 0), (234, .iadd, 0, 0, 0, 0), (235, .iaload, 0, 0, 0, 0), (236, .invokevirtual 118, 153, 895, 1, 0), (239, .istore 7, 0, 0, 0, 0), (241, .aload_n 2, 0, 0, 0, 0), (242, .invokevirtual 119, 144, 891, 1, 0), (245, .iload 6, 0, 0, 0, 0), (247, .if_icmp .eq 5, 252, 0, 0, 0), (250, .iconst 0, 0, 0, 0, 0), (251, .ireturn, 0, 0, 0, 0), (252, .iload 6, 0, 0, 0, 0), (254, .ifCond .ne 15, 269, 0, 0, 0), (257, .aload_n 3, 0, 0, 0, 0), (258, .iconst 0, 0, 0, 0, 0), (259, .laload, 0, 0, 0, 0), (260, .iload 7, 0, 0, 0, 0), (262, .i2l, 0, 0, 0, 0), (263, .lcmp, 0, 0, 0, 0), (264, .ifCond .eq 5, 269, 0, 0, 0), (267, .iconst 0, 0, 0, 0, 0), (268, .ireturn, 0, 0, 0, 0), (269, .goto 2172, 2441, 0, 0, 0), (272, .aload_n 1, 0, 0, 0, 0), (273, .aload_n 0, 0, 0, 0, 0), (274, .iload 5, 0, 0, 0, 0), (276, .iconst 1, 0, 0, 0, 0), (277, .iadd, 0, 0, 0, 0), (278, .iaload, 0, 0, 0, 0), (279, .aload_n 0, 0, 0, 0, 0), (280, .iload 5, 0, 0, 0, 0), (282, .iconst 2, 0, 0, 0, 0), (283, .iadd, 0, 0, 0, 0), (284, .iaload, 0, 0, 0, 0), (285, .aload_n 0, 0, 0, 0, 0), (286, .iload 5, 0, 0, 0, 0), (288, .iconst 3, 0, 0, 0, 0), (289, .iadd, 0, 0, 0, 0), (290, .iaload, 0, 0, 0, 0), (291, .aload_n 0, 0, 0, 0, 0), (292, .iload 5, 0, 0, 0, 0), (294, .iconst 4, 0, 0, 0, 0), (295, .iadd, 0, 0, 0, 0), (296, .iaload, 0, 0, 0, 0), (297, .aload_n 3, 0, 0, 0, 0), (298, .invokestatic 123, 216, 497, 1, 0), (301, .istore 6, 0, 0, 0, 0), (303, .aload_n 2, 0, 0, 0, 0), (304, .aload_n 0, 0, 0, 0, 0), (305, .iload 5, 0, 0, 0, 0), (307, .iconst 1, 0, 0, 0, 0), (308, .iadd, 0, 0, 0, 0), (309, .iaload, 0, 0, 0, 0), (310, .aload_n 0, 0, 0, 0, 0), (311, .iload 5, 0, 0, 0, 0), (313, .iconst 2, 0, 0, 0, 0), (314, .iadd, 0, 0, 0, 0), (315, .iaload, 0, 0, 0, 0), (316, .aload_n 0, 0, 0, 0, 0), (317, .iload 5, 0, 0, 0, 0), (319, .iconst 3, 0, 0, 0, 0), (320, .iadd, 0, 0, 0, 0), (321, .iaload, 0, 0, 0, 0), (322, .aload_n 0, 0, 0, 0, 0), (323, .iload 5, 0, 0, 0, 0), (325, .iconst 4, 0, 0, 0, 0), (326, .iadd, 0, 0, 0, 0), (327, .iaload, 0, 0, 0, 0), (328, .invokevirtual 125, 154, 920, 1, 0), (331, .istore 7, 0, 0, 0, 0), (333, .aload_n 2, 0, 0, 0, 0), (334, .invokevirtual 119, 144, 891, 1, 0), (337, .iload 6, 0, 0, 0, 0), (339, .if_icmp .eq 5, 344, 0, 0, 0), (342, .iconst 0, 0, 0, 0, 0), (343, .ireturn, 0, 0, 0, 0), (344, .iload 6, 0, 0, 0, 0), (346, .ifCond .ne 15, 361, 0, 0, 0), (349, .aload_n 3, 0, 0, 0, 0), (350, .iconst 0, 0, 0, 0, 0), (351, .laload, 0, 0, 0, 0), (352, .iload 7, 0, 0, 0, 0), (354, .i2l, 0, 0, 0, 0), (355, .lcmp, 0, 0, 0, 0), (356, .ifCond .eq 5, 361, 0, 0, 0), (359, .iconst 0, 0, 0, 0, 0), (360, .ireturn, 0, 0, 0, 0), (361, .goto 2080, 2441, 0, 0, 0), (364, .aload_n 1, 0, 0, 0, 0), (365, .aload_n 0, 0, 0, 0, 0), (366, .iload 5, 0, 0, 0, 0), (368, .iconst 1, 0, 0, 0, 0), (369, .iadd, 0, 0, 0, 0), (370, .iaload, 0, 0, 0, 0), (371, .aload_n 0, 0, 0, 0, 0), (372, .iload 5, 0, 0, 0, 0), (374, .iconst 2, 0, 0, 0, 0), (375, .iadd, 0, 0, 0, 0), (376, .iaload, 0, 0, 0, 0), (377, .aload_n 0, 0, 0, 0, 0), (378, .iload 5, 0, 0, 0, 0), (380, .iconst 3, 0, 0, 0, 0), (381, .iadd, 0, 0, 0, 0), (382, .iaload, 0, 0, 0, 0), (383, .aload_n 0, 0, 0, 0, 0), (384, .iload 5, 0, 0, 0, 0), (386, .iconst 4, 0, 0, 0, 0), (387, .iadd, 0, 0, 0, 0), (388, .iaload, 0, 0, 0, 0), (389, .aload_n 0, 0, 0, 0, 0), (390, .iload 5, 0, 0, 0, 0), (392, .iconst 5, 0, 0, 0, 0), (393, .iadd, 0, 0, 0, 0), (394, .iaload, 0, 0, 0, 0), (395, .aload_n 0, 0, 0, 0, 0), (396, .iload 5, 0, 0, 0, 0), (398, .bipush 6, 0, 0, 0, 0), (400, .iadd, 0, 0, 0, 0), (401, .iaload, 0, 0, 0, 0), (402, .aload_n 3, 0, 0, 0, 0), (403, .invokestatic 126, 217, 512, 1, 0), (406, .istore 6, 0, 0, 0, 0), (408, .aload_n 2, 0, 0, 0, 0), (409, .aload_n 0, 0, 0, 0, 0), (410, .iload 5, 0, 0, 0, 0), (412, .iconst 1, 0, 0, 0, 0), (413, .iadd, 0, 0, 0, 0), (414, .iaload, 0, 0, 0, 0), (415, .aload_n 0, 0, 0, 0, 0), (416, .iload 5, 0, 0, 0, 0), (418, .iconst 2, 0, 0, 0, 0), (419, .iadd, 0, 0, 0, 0), (420, .iaload, 0, 0, 0, 0), (421, .aload_n 0, 0, 0, 0, 0), (422, .iload 5, 0, 0, 0, 0), (424, .iconst 3, 0, 0, 0, 0), (425, .iadd, 0, 0, 0, 0), (426, .iaload, 0, 0, 0, 0), (427, .aload_n 0, 0, 0, 0, 0), (428, .iload 5, 0, 0, 0, 0), (430, .iconst 4, 0, 0, 0, 0), (431, .iadd, 0, 0, 0, 0), (432, .iaload, 0, 0, 0, 0), (433, .aload_n 0, 0, 0, 0, 0), (434, .iload 5, 0, 0, 0, 0), (436, .iconst 5, 0, 0, 0, 0), (437, .iadd, 0, 0, 0, 0), (438, .iaload, 0, 0, 0, 0), (439, .aload_n 0, 0, 0, 0, 0), (440, .iload 5, 0, 0, 0, 0), (442, .bipush 6, 0, 0, 0, 0), (444, .iadd, 0, 0, 0, 0), (445, .iaload, 0, 0, 0, 0), (446, .invokevirtual 129, 155, 961, 1, 0), (449, .istore 7, 0, 0, 0, 0), (451, .aload_n 2, 0, 0, 0, 0), (452, .invokevirtual 119, 144, 891, 1, 0), (455, .iload 6, 0, 0, 0, 0), (457, .if_icmp .eq 5, 462, 0, 0, 0), (460, .iconst 0, 0, 0, 0, 0), (461, .ireturn, 0, 0, 0, 0), (462, .iload 6, 0, 0, 0, 0), (464, .ifCond .ne 15, 479, 0, 0, 0), (467, .aload_n 3, 0, 0, 0, 0), (468, .iconst 0, 0, 0, 0, 0), (469, .laload, 0, 0, 0, 0), (470, .iload 7, 0, 0, 0, 0), (472, .i2l, 0, 0, 0, 0), (473, .lcmp, 0, 0, 0, 0), (474, .ifCond .eq 5, 479, 0, 0, 0), (477, .iconst 0, 0, 0, 0, 0), (478, .ireturn, 0, 0, 0, 0), (479, .goto 1962, 2441, 0, 0, 0), (482, .aload_n 1, 0, 0, 0, 0), (483, .aload_n 0, 0, 0, 0, 0), (484, .iload 5, 0, 0, 0, 0), (486, .iconst 1, 0, 0, 0, 0), (487, .iadd, 0, 0, 0, 0), (488, .iaload, 0, 0, 0, 0), (489, .aload_n 0, 0, 0, 0, 0), (490, .iload 5, 0, 0, 0, 0), (492, .iconst 2, 0, 0, 0, 0), (493, .iadd, 0, 0, 0, 0), (494, .iaload, 0, 0, 0, 0), (495, .aload_n 0, 0, 0, 0, 0), (496, .iload 5, 0, 0, 0, 0), (498, .iconst 3, 0, 0, 0, 0), (499, .iadd, 0, 0, 0, 0), (500, .iaload, 0, 0, 0, 0), (501, .aload_n 0, 0, 0, 0, 0), (502, .iload 5, 0, 0, 0, 0), (504, .iconst 4, 0, 0, 0, 0), (505, .iadd, 0, 0, 0, 0), (506, .iaload, 0, 0, 0, 0), (507, .aload_n 0, 0, 0, 0, 0), (508, .iload 5, 0, 0, 0, 0), (510, .iconst 5, 0, 0, 0, 0), (511, .iadd, 0, 0, 0, 0), (512, .iaload, 0, 0, 0, 0), (513, .aload_n 3, 0, 0, 0, 0), (514, .invokestatic 130, 218, 527, 1, 0), (517, .istore 6, 0, 0, 0, 0), (519, .aload_n 2, 0, 0, 0, 0), (520, .aload_n 0, 0, 0, 0, 0), (521, .iload 5, 0, 0, 0, 0), (523, .iconst 1, 0, 0, 0, 0), (524, .iadd, 0, 0, 0, 0), (525, .iaload, 0, 0, 0, 0), (526, .aload_n 0, 0, 0, 0, 0), (527, .iload 5, 0, 0, 0, 0), (529, .iconst 2, 0, 0, 0, 0), (530, .iadd, 0, 0, 0, 0), (531, .iaload, 0, 0, 0, 0), (532, .aload_n 0, 0, 0, 0, 0), (533, .iload 5, 0, 0, 0, 0), (535, .iconst 3, 0, 0, 0, 0), (536, .iadd, 0, 0, 0, 0), (537, .iaload, 0, 0, 0, 0), (538, .aload_n 0, 0, 0, 0, 0), (539, .iload 5, 0, 0, 0, 0), (541, .iconst 4, 0, 0, 0, 0), (542, .iadd, 0, 0, 0, 0), (543, .iaload, 0, 0, 0, 0), (544, .aload_n 0, 0, 0, 0, 0), (545, .iload 5, 0, 0, 0, 0), (547, .iconst 5, 0, 0, 0, 0), (548, .iadd, 0, 0, 0, 0), (549, .iaload, 0, 0, 0, 0), (550, .invokevirtual 133, 156, 967, 1, 0), (553, .istore 7, 0, 0, 0, 0)]
def m_p_244_1 : List m_I := [(555, .aload_n 2, 0, 0, 0, 0), (556, .invokevirtual 119, 144, 891, 1, 0), (559, .iload 6, 0, 0, 0, 0), (561, .if_icmp .eq 5, 566, 0, 0, 0), (564, .iconst 0, 0, 0, 0, 0), (565, .ireturn, 0, 0, 0, 0), (566, .iload 6, 0, 0, 0, 0), (568, .ifCond .ne 15, 583, 0, 0, 0), (571, .aload_n 3, 0, 0, 0, 0), (572, .iconst 0, 0, 0, 0, 0), (573, .laload, 0, 0, 0, 0), (574, .iload 7, 0, 0, 0, 0), (576, .i2l, 0, 0, 0, 0), (577, .lcmp, 0, 0, 0, 0), (578, .ifCond .eq 5, 583, 0, 0, 0), (581, .iconst 0, 0, 0, 0, 0), (582, .ireturn, 0, 0, 0, 0), (583, .goto 1858, 2441, 0, 0, 0), (586, .aload_n 1, 0, 0, 0, 0), (587, .aload_n 0, 0, 0, 0, 0), (588, .iload 5, 0, 0, 0, 0), (590, .iconst 1, 0, 0, 0, 0), (591, .iadd, 0, 0, 0, 0), (592, .iaload, 0, 0, 0, 0), (593, .aload_n 0, 0, 0, 0, 0), (594, .iload 5, 0, 0, 0, 0), (596, .iconst 2, 0, 0, 0, 0), (597, .iadd, 0, 0, 0, 0), (598, .iaload, 0, 0, 0, 0), (599, .aload_n 0, 0, 0, 0, 0), (600, .iload 5, 0, 0, 0, 0), (602, .iconst 3, 0, 0, 0, 0), (603, .iadd, 0, 0, 0, 0), (604, .iaload, 0, 0, 0, 0), (605, .aload_n 0, 0, 0, 0, 0), (606, .iload 5, 0, 0, 0, 0), (608, .iconst 4, 0, 0, 0, 0), (609, .iadd, 0, 0, 0, 0), (610, .iaload, 0, 0, 0, 0), (611, .aload_n 3, 0, 0, 0, 0), (612, .invokestatic 134, 219, 534, 1, 0), (615, .istore 6, 0, 0, 0, 0), (617, .aload_n 2, 0, 0, 0, 0), (618, .aload_n 0, 0, 0, 0, 0), (619, .iload 5, 0, 0, 0, 0), (621, .iconst 1, 0, 0, 0, 0), (622, .iadd, 0, 0, 0, 0), (623, .iaload, 0, 0, 0, 0), (624, .aload_n 0, 0, 0, 0, 0), (625, .iload 5, 0, 0, 0, 0), (627, .iconst 2, 0, 0, 0, 0), (628, .iadd, 0, 0, 0, 0), (629, .iaload, 0, 0, 0, 0), (630, .aload_n 0, 0, 0, 0, 0), (631, .iload 5, 0, 0, 0, 0), (633, .iconst 3, 0, 0, 0, 0), (634, .iadd, 0, 0, 0, 0), (635, .iaload, 0, 0, 0, 0), (636, .aload_n 0, 0, 0, 0, 0), (637, .iload 5, 0, 0, 0, 0), (639, .iconst 4, 0, 0, 0, 0), (640, .iadd, 0, 0, 0, 0), (641, .iaload, 0, 0, 0, 0), (642, .invokevirtual 136, 157, 975, 1, 0), (645, .istore 7, 0, 0, 0, 0), (647, .aload_n 2, 0, 0, 0, 0), (648, .invokevirtual 119, 144, 891, 1, 0), (651, .iload 6, 0, 0, 0, 0), (653, .if_icmp .eq 5, 658, 0, 0, 0), (656, .iconst 0, 0, 0, 0, 0), (657, .ireturn, 0, 0, 0, 0), (658, .iload 6, 0, 0, 0, 0), (660, .ifCond .ne 15, 675, 0, 0, 0), (663, .aload_n 3, 0, 0, 0, 0), (664, .iconst 0, 0, 0, 0, 0), (665, .laload, 0, 0, 0, 0), (666, .iload 7, 0, 0, 0, 0), (668, .i2l, 0, 0, 0, 0), (669, .lcmp, 0, 0, 0, 0), (670, .ifCond .eq 5, 675, 0, 0, 0), (673, .iconst 0, 0, 0, 0, 0), (674, .ireturn, 0, 0, 0, 0), (675, .goto 1766, 2441, 0, 0, 0), (678, .aload_n 1, 0, 0, 0, 0), (679, .aload_n 0, 0, 0, 0, 0), (680, .iload 5, 0, 0, 0, 0), (682, .iconst 1, 0, 0, 0, 0), (683, .iadd, 0, 0, 0, 0), (684, .iaload, 0, 0, 0, 0), (685, .aload_n 0, 0, 0, 0, 0), (686, .iload 5, 0, 0, 0, 0), (688, .iconst 2, 0, 0, 0, 0), (689, .iadd, 0, 0, 0, 0), (690, .iaload, 0, 0, 0, 0), (691, .aload_n 3, 0, 0, 0, 0), (692, .invokestatic 137, 220, 544, 1, 0), (695, .istore 6, 0, 0, 0, 0), (697, .aload_n 2, 0, 0, 0, 0), (698, .aload_n 0, 0, 0, 0, 0), (699, .iload 5, 0, 0, 0, 0), (701, .iconst 1, 0, 0, 0, 0), (702, .iadd, 0, 0, 0, 0), (703, .iaload, 0, 0, 0, 0), (704, .aload_n 0, 0, 0, 0, 0), (705, .iload 5, 0, 0, 0, 0), (707, .iconst 2, 0, 0, 0, 0), (708, .iadd, 0, 0, 0, 0), (709, .iaload, 0, 0, 0, 0), (710, .invokevirtual 140, 158, 986, 1, 0), (713, .istore 7, 0, 0, 0, 0), (715, .aload_n 2, 0, 0, 0, 0), (716, .invokevirtual 119, 144, 891, 1, 0), (719, .iload 6, 0, 0, 0, 0), (721, .if_icmp .eq 5, 726, 0, 0, 0), (724, .iconst 0, 0, 0, 0, 0), (725, .ireturn, 0, 0, 0, 0), (726, .iload 6, 0, 0, 0, 0), (728, .ifCond .ne 15, 743, 0, 0, 0), (731, .aload_n 3, 0, 0, 0, 0), (732, .iconst 0, 0, 0, 0, 0), (733, .laload, 0, 0, 0, 0), (734, .iload 7, 0, 0, 0, 0), (736, .i2l, 0, 0, 0, 0), (737, .lcmp, 0, 0, 0, 0), (738, .ifCond .eq 5, 743, 0, 0, 0), (741, .iconst 0, 0, 0, 0, 0), (742, .ireturn, 0, 0, 0, 0), (743, .goto 1698, 2441, 0, 0, 0), (746, .aload_n 1, 0, 0, 0, 0), (747, .aload_n 0, 0, 0, 0, 0), (748, .iload 5, 0, 0, 0, 0), (750, .iconst 1, 0, 0, 0, 0), (751, .iadd, 0, 0, 0, 0), (752, .iaload, 0, 0, 0, 0), (753, .aload_n 0, 0, 0, 0, 0), (754, .iload 5, 0, 0, 0, 0), (756, .iconst 2, 0, 0, 0, 0), (757, .iadd, 0, 0, 0, 0), (758, .iaload, 0, 0, 0, 0), (759, .aload_n 0, 0, 0, 0, 0), (760, .iload 5, 0, 0, 0, 0), (762, .iconst 3, 0, 0, 0, 0), (763, .iadd, 0, 0, 0, 0), (764, .iaload, 0, 0, 0, 0), (765, .aload_n 3, 0, 0, 0, 0), (766, .invokestatic 141, 221, 555, 1, 0), (769, .istore 6, 0, 0, 0, 0), (771, .aload_n 2, 0, 0, 0, 0), (772, .aload_n 0, 0, 0, 0, 0), (773, .iload 5, 0, 0, 0, 0), (775, .iconst 1, 0, 0, 0, 0), (776, .iadd, 0, 0, 0, 0), (777, .iaload, 0, 0, 0, 0), (778, .aload_n 0, 0, 0, 0, 0), (779, .iload 5, 0, 0, 0, 0), (781, .iconst 2, 0, 0, 0, 0), (782, .iadd, 0, 0, 0, 0), (783, .iaload, 0, 0, 0, 0), (784, .aload_n 0, 0, 0, 0, 0), (785, .iload 5, 0, 0, 0, 0), (787, .iconst 3, 0, 0, 0, 0), (788, .iadd, 0, 0, 0, 0), (789, .iaload, 0, 0, 0, 0), (790, .invokevirtual 144, 159, 994, 1, 0), (793, .istore 7, 0, 0, 0, 0), (795, .aload_n 2, 0, 0, 0, 0), (796, .invokevirtual 119, 144, 891, 1, 0), (799, .iload 6, 0, 0, 0, 0), (801, .if_icmp .eq 5, 806, 0, 0, 0), (804, .iconst 0, 0, 0, 0, 0), (805, .ireturn, 0, 0, 0, 0), (806, .iload 6, 0, 0, 0, 0), (808, .ifCond .ne 15, 823, 0, 0, 0), (811, .aload_n 3, 0, 0, 0, 0), (812, .iconst 0, 0, 0, 0, 0), (813, .laload, 0, 0, 0, 0), (814, .iload 7, 0, 0, 0, 0), (816, .i2l, 0, 0, 0, 0), (817, .lcmp, 0, 0, 0, 0), (818, .ifCond .eq 5, 823, 0, 0, 0), (821, .iconst 0, 0, 0, 0, 0), (822, .ireturn, 0, 0, 0, 0), (823, .goto 1618, 2441, 0, 0, 0), (826, .aload_n 1, 0, 0, 0, 0), (827, .aload_n 0, 0, 0, 0, 0), (828, .iload 5, 0, 0, 0, 0), (830, .iconst 1, 0, 0, 0, 0), (831, .iadd, 0, 0, 0, 0), (832, .iaload, 0, 0, 0, 0), (833, .aload_n 0, 0, 0, 0, 0), (834, .iload 5, 0, 0, 0, 0), (836, .iconst 2, 0, 0, 0, 0), (837, .iadd, 0, 0, 0, 0), (838, .iaload, 0, 0, 0, 0), (839, .aload_n 3, 0, 0, 0, 0), (840, .invokestatic 145, 222, 582, 1, 0), (843, .istore 6, 0, 0, 0, 0), (845, .aload_n 2, 0, 0, 0, 0), (846, .aload_n 0, 0, 0, 0, 0), (847, .iload 5, 0, 0, 0, 0), (849, .iconst 1, 0, 0, 0, 0), (850, .iadd, 0, 0, 0, 0), (851, .iaload, 0, 0, 0, 0), (852, .aload_n 0, 0, 0, 0, 0), (853, .iload 5, 0, 0, 0, 0), (855, .iconst 2, 0, 0, 0, 0), (856, .iadd, 0, 0, 0, 0), (857, .iaload, 0, 0, 0, 0), (858, .invokevirtual 147, 161, 998, 1, 0), (861, .istore 7, 0, 0, 0, 0), (863, .aload_n 2, 0, 0, 0, 0), (864, .invokevirtual 119, 144, 891, 1, 0), (867, .iload 6, 0, 0, 0, 0), (869, .if_icmp .eq 5, 874, 0, 0, 0), (872, .iconst 0, 0, 0, 0, 0), (873, .ireturn, 0, 0, 0, 0), (874, .iload 6, 0, 0, 0, 0), (876, .ifCond .ne 15, 891, 0, 0, 0), (879, .aload_n 3, 0, 0, 0, 0), (880, .iconst 0, 0, 0, 0, 0), (881, .laload, 0, 0, 0, 0), (882, .iload 7, 0, 0, 0, 0), (884, .i2l, 0, 0, 0, 0), (885, .lcmp, 0, 0, 0, 0), (886, .ifCond .eq 5, 891, 0, 0, 0), (889, .iconst 0, 0, 0, 0, 0), (890, .ireturn, 0, 0, 0, 0), (891, .goto 1550, 2441, 0, 0, 0), (894, .aload_n 1, 0, 0, 0, 0), (895, .aload_n 0, 0, 0, 0, 0), (896, .iload 5, 0, 0, 0, 0), (898, .iconst 1, 0, 0, 0, 0), (899, .iadd, 0, 0, 0, 0), (900, .iaload, 0, 0, 0, 0), (901, .aload_n 0, 0, 0, 0, 0), (902, .iload 5, 0, 0, 0, 0), (904, .iconst 2, 0, 0, 0, 0), (905, .iadd, 0, 0, 0, 0), (906, .iaload, 0, 0, 0, 0), (907, .aload_n 3, 0, 0, 0, 0), (908, .invokestatic 148, 223, 595, 1, 0), (911, .istore 6, 0, 0, 0, 0), (913, .aload_n 2, 0, 0, 0, 0), (914, .aload_n 0, 0, 0, 0, 0), (915, .iload 5, 0, 0, 0, 0), (917, .iconst 1, 0, 0, 0, 0), (918, .iadd, 0, 0, 0, 0), (919, .iaload, 0, 0, 0, 0), (920, .aload_n 0, 0, 0, 0, 0), (921, .iload 5, 0, 0, 0, 0), (923, .iconst 2, 0, 0, 0, 0), (924, .iadd, 0, 0, 0, 0), (925, .iaload, 0, 0, 0, 0), (926, .invokevirtual 150, 162, 1007, 1, 0), (929, .istore 7, 0, 0, 0, 0), (931, .aload_n 2, 0, 0, 0, 0), (932, .invokevirtual 119, 144, 891, 1, 0), (935, .iload 6, 0, 0, 0, 0), (937, .if_icmp .eq 5, 942, 0, 0, 0), (940, .iconst 0, 0, 0, 0, 0), (941, .ireturn, 0, 0, 0, 0), (942, .iload 6, 0, 0, 0, 0), (944, .ifCond .ne 15, 959, 0, 0, 0), (947, .aload_n 3, 0, 0, 0, 0), (948, .iconst 0, 0, 0, 0, 0), (949, .laload, 0, 0, 0, 0), (950, .iload 7, 0, 0, 0, 0), (952, .i2l, 0, 0, 0, 0), (953, .lcmp, 0, 0, 0, 0), (954, .ifCond .eq 5, 959, 0, 0, 0), (957, .iconst 0, 0, 0, 0, 0), (958, .ireturn, 0, 0, 0, 0), (959, .goto 1482, 2441, 0, 0, 0), (962, .aload_n 1, 0, 0, 0, 0), (963, .aload_n 0, 0, 0, 0, 0), (964, .iload 5, 0, 0, 0, 0), (966, .iconst 1, 0, 0, 0, 0), (967, .iadd, 0, 0, 0, 0), (968, .iaload, 0, 0, 0, 0), (969, .aload_n 0, 0, 0, 0, 0), (970, .iload 5, 0, 0, 0, 0), (972, .iconst 2, 0, 0, 0, 0), (973, .iadd, 0, 0, 0, 0), (974, .iaload, 0, 0, 0, 0), (975, .aload_n 3, 0, 0, 0, 0), (976, .invokestatic 151, 224, 602, 1, 0), (979, .istore 6, 0, 0, 0, 0), (981, .aload_n 2, 0, 0, 0, 0), (982, .aload_n 0, 0, 0, 0, 0), (983, .iload 5, 0, 0, 0, 0), (985, .iconst 1, 0, 0, 0, 0), (986, .iadd, 0, 0, 0, 0), (987, .iaload, 0, 0, 0, 0), (988, .aload_n 0, 0, 0, 0, 0), (989, .iload 5, 0, 0, 0, 0), (991, .iconst 2, 0, 0, 0, 0), (992, .iadd, 0, 0, 0, 0), (993, .iaload, 0, 0, 0, 0), (994, .invokevirtual 153, 163, 1011, 1, 0), (997, .istore 7, 0, 0, 0, 0)]
def m_p_244_2 : List m_I := [(999, .aload_n 2, 0, 0, 0, 0), (1000, .invokevirtual 119, 144, 891, 1, 0), (1003, .iload 6, 0, 0, 0, 0), (1005, .if_icmp .eq 5, 1010, 0, 0, 0), (1008, .iconst 0, 0, 0, 0, 0), (1009, .ireturn, 0, 0, 0, 0), (1010, .iload 6, 0, 0, 0, 0), (1012, .ifCond .ne 15, 1027, 0, 0, 0), (1015, .aload_n 3, 0, 0, 0, 0), (1016, .iconst 0, 0, 0, 0, 0), (1017, .laload, 0, 0, 0, 0), (1018, .iload 7, 0, 0, 0, 0), (1020, .i2l, 0, 0, 0, 0), (1021, .lcmp, 0, 0, 0, 0), (1022, .ifCond .eq 5, 1027, 0, 0, 0), (1025, .iconst 0, 0, 0, 0, 0), (1026, .ireturn, 0, 0, 0, 0), (1027, .goto 1414, 2441, 0, 0, 0), (1030, .aload_n 1, 0, 0, 0, 0), (1031, .aload_n 0, 0, 0, 0, 0), (1032, .iload 5, 0, 0, 0, 0), (1034, .iconst 1, 0, 0, 0, 0), (1035, .iadd, 0, 0, 0, 0), (1036, .iaload, 0, 0, 0, 0), (1037, .aload_n 0, 0, 0, 0, 0), (1038, .iload 5, 0, 0, 0, 0), (1040, .iconst 2, 0, 0, 0, 0), (1041, .iadd, 0, 0, 0, 0), (1042, .iaload, 0, 0, 0, 0), (1043, .aload_n 3, 0, 0, 0, 0), (1044, .invokestatic 154, 225, 609, 1, 0), (1047, .istore 6, 0, 0, 0, 0), (1049, .aload_n 2, 0, 0, 0, 0), (1050, .aload_n 0, 0, 0, 0, 0), (1051, .iload 5, 0, 0, 0, 0), (1053, .iconst 1, 0, 0, 0, 0), (1054, .iadd, 0, 0, 0, 0), (1055, .iaload, 0, 0, 0, 0), (1056, .aload_n 0, 0, 0, 0, 0), (1057, .iload 5, 0, 0, 0, 0), (1059, .iconst 2, 0, 0, 0, 0), (1060, .iadd, 0, 0, 0, 0), (1061, .iaload, 0, 0, 0, 0), (1062, .invokevirtual 156, 165, 1015, 1, 0), (1065, .istore 7, 0, 0, 0, 0), (1067, .aload_n 2, 0, 0, 0, 0), (1068, .invokevirtual 119, 144, 891, 1, 0), (1071, .iload 6, 0, 0, 0, 0), (1073, .if_icmp .eq 5, 1078, 0, 0, 0), (1076, .iconst 0, 0, 0, 0, 0), (1077, .ireturn, 0, 0, 0, 0), (1078, .iload 6, 0, 0, 0, 0), (1080, .ifCond .ne 15, 1095, 0, 0, 0), (1083, .aload_n 3, 0, 0, 0, 0), (1084, .iconst 0, 0, 0, 0, 0), (1085, .laload, 0, 0, 0, 0), (1086, .iload 7, 0, 0, 0, 0), (1088, .i2l, 0, 0, 0, 0), (1089, .lcmp, 0, 0, 0, 0), (1090, .ifCond .eq 5, 1095, 0, 0, 0), (1093, .iconst 0, 0, 0, 0, 0), (1094, .ireturn, 0, 0, 0, 0), (1095, .goto 1346, 2441, 0, 0, 0), (1098, .aload_n 1, 0, 0, 0, 0), (1099, .aload_n 0, 0, 0, 0, 0), (1100, .iload 5, 0, 0, 0, 0), (1102, .iconst 1, 0, 0, 0, 0), (1103, .iadd, 0, 0, 0, 0), (1104, .iaload, 0, 0, 0, 0), (1105, .aload_n 0, 0, 0, 0, 0), (1106, .iload 5, 0, 0, 0, 0), (1108, .iconst 2, 0, 0, 0, 0), (1109, .iadd, 0, 0, 0, 0), (1110, .iaload, 0, 0, 0, 0), (1111, .aload_n 3, 0, 0, 0, 0), (1112, .invokestatic 157, 226, 661, 1, 0), (1115, .istore 6, 0, 0, 0, 0), (1117, .aload_n 2, 0, 0, 0, 0), (1118, .aload_n 0, 0, 0, 0, 0), (1119, .iload 5, 0, 0, 0, 0), (1121, .iconst 1, 0, 0, 0, 0), (1122, .iadd, 0, 0, 0, 0), (1123, .iaload, 0, 0, 0, 0), (1124, .aload_n 0, 0, 0, 0, 0), (1125, .iload 5, 0, 0, 0, 0), (1127, .iconst 2, 0, 0, 0, 0), (1128, .iadd, 0, 0, 0, 0), (1129, .iaload, 0, 0, 0, 0), (1130, .invokevirtual 159, 167, 1055, 1, 0), (1133, .istore 7, 0, 0, 0, 0), (1135, .aload_n 2, 0, 0, 0, 0), (1136, .invokevirtual 119, 144, 891, 1, 0), (1139, .iload 6, 0, 0, 0, 0), (1141, .if_icmp .eq 5, 1146, 0, 0, 0), (1144, .iconst 0, 0, 0, 0, 0), (1145, .ireturn, 0, 0, 0, 0), (1146, .iload 6, 0, 0, 0, 0), (1148, .ifCond .ne 15, 1163, 0, 0, 0), (1151, .aload_n 3, 0, 0, 0, 0), (1152, .iconst 0, 0, 0, 0, 0), (1153, .laload, 0, 0, 0, 0), (1154, .iload 7, 0, 0, 0, 0), (1156, .i2l, 0, 0, 0, 0), (1157, .lcmp, 0, 0, 0, 0), (1158, .ifCond .eq 5, 1163, 0, 0, 0), (1161, .iconst 0, 0, 0, 0, 0), (1162, .ireturn, 0, 0, 0, 0), (1163, .goto 1278, 2441, 0, 0, 0), (1166, .aload_n 1, 0, 0, 0, 0), (1167, .aload_n 0, 0, 0, 0, 0), (1168, .iload 5, 0, 0, 0, 0), (1170, .iconst 1, 0, 0, 0, 0), (1171, .iadd, 0, 0, 0, 0), (1172, .iaload, 0, 0, 0, 0), (1173, .aload_n 0, 0, 0, 0, 0), (1174, .iload 5, 0, 0, 0, 0), (1176, .iconst 2, 0, 0, 0, 0), (1177, .iadd, 0, 0, 0, 0), (1178, .iaload, 0, 0, 0, 0), (1179, .aload_n 0, 0, 0, 0, 0), (1180, .iload 5, 0, 0, 0, 0), (1182, .iconst 3, 0, 0, 0, 0), (1183, .iadd, 0, 0, 0, 0), (1184, .iaload, 0, 0, 0, 0), (1185, .aload_n 3, 0, 0, 0, 0), (1186, .invokestatic 160, 227, 695, 1, 0), (1189, .istore 6, 0, 0, 0, 0), (1191, .aload_n 2, 0, 0, 0, 0), (1192, .aload_n 0, 0, 0, 0, 0), (1193, .iload 5, 0, 0, 0, 0), (1195, .iconst 1, 0, 0, 0, 0), (1196, .iadd, 0, 0, 0, 0), (1197, .iaload, 0, 0, 0, 0), (1198, .aload_n 0, 0, 0, 0, 0), (1199, .iload 5, 0, 0, 0, 0), (1201, .iconst 2, 0, 0, 0, 0), (1202, .iadd, 0, 0, 0, 0), (1203, .iaload, 0, 0, 0, 0), (1204, .aload_n 0, 0, 0, 0, 0), (1205, .iload 5, 0, 0, 0, 0), (1207, .iconst 3, 0, 0, 0, 0), (1208, .iadd, 0, 0, 0, 0), (1209, .iaload, 0, 0, 0, 0), (1210, .invokevirtual 162, 168, 1088, 1, 0), (1213, .istore 7, 0, 0, 0, 0), (1215, .aload_n 2, 0, 0, 0, 0), (1216, .invokevirtual 119, 144, 891, 1, 0), (1219, .iload 6, 0, 0, 0, 0), (1221, .if_icmp .eq 5, 1226, 0, 0, 0), (1224, .iconst 0, 0, 0, 0, 0), (1225, .ireturn, 0, 0, 0, 0), (1226, .iload 6, 0, 0, 0, 0), (1228, .ifCond .ne 15, 1243, 0, 0, 0), (1231, .aload_n 3, 0, 0, 0, 0), (1232, .iconst 0, 0, 0, 0, 0), (1233, .laload, 0, 0, 0, 0), (1234, .iload 7, 0, 0, 0, 0), (1236, .i2l, 0, 0, 0, 0), (1237, .lcmp, 0, 0, 0, 0), (1238, .ifCond .eq 5, 1243, 0, 0, 0), (1241, .iconst 0, 0, 0, 0, 0), (1242, .ireturn, 0, 0, 0, 0), (1243, .goto 1198, 2441, 0, 0, 0), (1246, .aload_n 1, 0, 0, 0, 0), (1247, .aload_n 0, 0, 0, 0, 0), (1248, .iload 5, 0, 0, 0, 0), (1250, .iconst 1, 0, 0, 0, 0), (1251, .iadd, 0, 0, 0, 0), (1252, .iaload, 0, 0, 0, 0), (1253, .aload_n 0, 0, 0, 0, 0), (1254, .iload 5, 0, 0, 0, 0), (1256, .iconst 2, 0, 0, 0, 0), (1257, .iadd, 0, 0, 0, 0), (1258, .iaload, 0, 0, 0, 0), (1259, .aload_n 3, 0, 0, 0, 0), (1260, .invokestatic 163, 228, 702, 1, 0), (1263, .istore 6, 0, 0, 0, 0), (1265, .aload_n 2, 0, 0, 0, 0), (1266, .aload_n 0, 0, 0, 0, 0), (1267, .iload 5, 0, 0, 0, 0), (1269, .iconst 1, 0, 0, 0, 0), (1270, .iadd, 0, 0, 0, 0), (1271, .iaload, 0, 0, 0, 0), (1272, .aload_n 0, 0, 0, 0, 0), (1273, .iload 5, 0, 0, 0, 0), (1275, .iconst 2, 0, 0, 0, 0), (1276, .iadd, 0, 0, 0, 0), (1277, .iaload, 0, 0, 0, 0), (1278, .invokevirtual 165, 170, 1092, 1, 0), (1281, .istore 7, 0, 0, 0, 0), (1283, .aload_n 2, 0, 0, 0, 0), (1284, .invokevirtual 119, 144, 891, 1, 0), (1287, .iload 6, 0, 0, 0, 0), (1289, .if_icmp .eq 5, 1294, 0, 0, 0), (1292, .iconst 0, 0, 0, 0, 0), (1293, .ireturn, 0, 0, 0, 0), (1294, .iload 6, 0, 0, 0, 0), (1296, .ifCond .ne 15, 1311, 0, 0, 0), (1299, .aload_n 3, 0, 0, 0, 0), (1300, .iconst 0, 0, 0, 0, 0), (1301, .laload, 0, 0, 0, 0), (1302, .iload 7, 0, 0, 0, 0), (1304, .i2l, 0, 0, 0, 0), (1305, .lcmp, 0, 0, 0, 0), (1306, .ifCond .eq 5, 1311, 0, 0, 0), (1309, .iconst 0, 0, 0, 0, 0), (1310, .ireturn, 0, 0, 0, 0), (1311, .goto 1130, 2441, 0, 0, 0), (1314, .aload_n 1, 0, 0, 0, 0), (1315, .aload_n 0, 0, 0, 0, 0), (1316, .iload 5, 0, 0, 0, 0), (1318, .iconst 1, 0, 0, 0, 0), (1319, .iadd, 0, 0, 0, 0), (1320, .iaload, 0, 0, 0, 0), (1321, .aload_n 0, 0, 0, 0, 0), (1322, .iload 5, 0, 0, 0, 0), (1324, .iconst 2, 0, 0, 0, 0), (1325, .iadd, 0, 0, 0, 0), (1326, .iaload, 0, 0, 0, 0), (1327, .aload_n 0, 0, 0, 0, 0), (1328, .iload 5, 0, 0, 0, 0), (1330, .iconst 3, 0, 0, 0, 0), (1331, .iadd, 0, 0, 0, 0), (1332, .iaload, 0, 0, 0, 0), (1333, .aload_n 3, 0, 0, 0, 0), (1334, .invokestatic 166, 229, 709, 1, 0), (1337, .istore 6, 0, 0, 0, 0), (1339, .aload_n 2, 0, 0, 0, 0), (1340, .aload_n 0, 0, 0, 0, 0), (1341, .iload 5, 0, 0, 0, 0), (1343, .iconst 1, 0, 0, 0, 0), (1344, .iadd, 0, 0, 0, 0), (1345, .iaload, 0, 0, 0, 0), (1346, .aload_n 0, 0, 0, 0, 0), (1347, .iload 5, 0, 0, 0, 0), (1349, .iconst 2, 0, 0, 0, 0), (1350, .iadd, 0, 0, 0, 0), (1351, .iaload, 0, 0, 0, 0), (1352, .aload_n 0, 0, 0, 0, 0), (1353, .iload 5, 0, 0, 0, 0), (1355, .iconst 3, 0, 0, 0, 0), (1356, .iadd, 0, 0, 0, 0), (1357, .iaload, 0, 0, 0, 0), (1358, .invokevirtual 168, 171, 1100, 1, 0), (1361, .istore 7, 0, 0, 0, 0), (1363, .aload_n 2, 0, 0, 0, 0), (1364, .invokevirtual 119, 144, 891, 1, 0), (1367, .iload 6, 0, 0, 0, 0), (1369, .if_icmp .eq 5, 1374, 0, 0, 0), (1372, .iconst 0, 0, 0, 0, 0), (1373, .ireturn, 0, 0, 0, 0), (1374, .iload 6, 0, 0, 0, 0), (1376, .ifCond .ne 15, 1391, 0, 0, 0), (1379, .aload_n 3, 0, 0, 0, 0), (1380, .iconst 0, 0, 0, 0, 0), (1381, .laload, 0, 0, 0, 0), (1382, .iload 7, 0, 0, 0, 0), (1384, .i2l, 0, 0, 0, 0), (1385, .lcmp, 0, 0, 0, 0), (1386, .ifCond .eq 5, 1391, 0, 0, 0), (1389, .iconst 0, 0, 0, 0, 0), (1390, .ireturn, 0, 0, 0, 0), (1391, .goto 1050, 2441, 0, 0, 0), (1394, .aload_n 1, 0, 0, 0, 0), (1395, .aload_n 0, 0, 0, 0, 0), (1396, .iload 5, 0, 0, 0, 0), (1398, .iconst 1, 0, 0, 0, 0), (1399, .iadd, 0, 0, 0, 0), (1400, .iaload, 0, 0, 0, 0), (1401, .aload_n 0, 0, 0, 0, 0), (1402, .iload 5, 0, 0, 0, 0), (1404, .iconst 2, 0, 0, 0, 0), (1405, .iadd, 0, 0, 0, 0), (1406, .iaload, 0, 0, 0, 0), (1407, .aload_n 3, 0, 0, 0, 0), (1408, .invokestatic 169, 230, 716, 1, 0), (1411, .istore 6, 0, 0, 0, 0), (1413, .aload_n 2, 0, 0, 0, 0), (1414, .aload_n 0, 0, 0, 0, 0), (1415, .iload 5, 0, 0, 0, 0), (1417, .iconst 1, 0, 0, 0, 0), (1418, .iadd, 0, 0, 0, 0), (1419, .iaload, 0, 0, 0, 0), (1420, .aload_n 0, 0, 0, 0, 0), (1421, .iload 5, 0, 0, 0, 0), (1423, .iconst 2, 0, 0, 0, 0), (1424, .iadd, 0, 0, 0, 0), (1425, .iaload, 0, 0, 0, 0), (1426, .invokevirtual 171, 172, 1105, 1, 0), (1429, .istore 7, 0, 0, 0, 0), (1431, .aload_n 2, 0, 0, 0, 0), (1432, .invokevirtual 119, 144, 891, 1, 0), (1435, .iload 6, 0, 0, 0, 0), (1437, .if_icmp .eq 5, 1442, 0, 0, 0), (1440, .iconst 0, 0, 0, 0, 0), (1441, .ireturn, 0, 0, 0, 0), (1442, .iload 6, 0, 0, 0, 0), (1444, .ifCond .ne 15, 1459, 0, 0, 0), (1447, .aload_n 3, 0, 0, 0, 0), (1448, .iconst 0, 0, 0, 0, 0)]
def m_p_244_3 : List m_I := [(1449, .laload, 0, 0, 0, 0), (1450, .iload 7, 0, 0, 0, 0), (1452, .i2l, 0, 0, 0, 0), (1453, .lcmp, 0, 0, 0, 0), (1454, .ifCond .eq 5, 1459, 0, 0, 0), (1457, .iconst 0, 0, 0, 0, 0), (1458, .ireturn, 0, 0, 0, 0), (1459, .goto 982, 2441, 0, 0, 0), (1462, .aload_n 1, 0, 0, 0, 0), (1463, .aload_n 0, 0, 0, 0, 0), (1464, .iload 5, 0, 0, 0, 0), (1466, .iconst 1, 0, 0, 0, 0), (1467, .iadd, 0, 0, 0, 0), (1468, .iaload, 0, 0, 0, 0), (1469, .aload_n 0, 0, 0, 0, 0), (1470, .iload 5, 0, 0, 0, 0), (1472, .iconst 2, 0, 0, 0, 0), (1473, .iadd, 0, 0, 0, 0), (1474, .iaload, 0, 0, 0, 0), (1475, .aload 4, 0, 0, 0, 0), (1477, .invokestatic 172, 231, 724, 1, 0), (1480, .istore 6, 0, 0, 0, 0), (1482, .aload_n 2, 0, 0, 0, 0), (1483, .aload_n 0, 0, 0, 0, 0), (1484, .iload 5, 0, 0, 0, 0), (1486, .iconst 1, 0, 0, 0, 0), (1487, .iadd, 0, 0, 0, 0), (1488, .iaload, 0, 0, 0, 0), (1489, .aload_n 0, 0, 0, 0, 0), (1490, .iload 5, 0, 0, 0, 0), (1492, .iconst 2, 0, 0, 0, 0), (1493, .iadd, 0, 0, 0, 0), (1494, .iaload, 0, 0, 0, 0), (1495, .invokevirtual 175, 173, 1109, 1, 0), (1498, .dstore 7, 0, 0, 0, 0), (1500, .aload_n 2, 0, 0, 0, 0), (1501, .invokevirtual 119, 144, 891, 1, 0), (1504, .iload 6, 0, 0, 0, 0), (1506, .if_icmp .eq 5, 1511, 0, 0, 0), (1509, .iconst 0, 0, 0, 0, 0), (1510, .ireturn, 0, 0, 0, 0), (1511, .iload 6, 0, 0, 0, 0), (1513, .ifCond .ne 35, 1548, 0, 0, 0), (1516, .aload 4, 0, 0, 0, 0), (1518, .iconst 0, 0, 0, 0, 0), (1519, .daload, 0, 0, 0, 0), (1520, .dload 7, 0, 0, 0, 0), (1522, .dcmp .l, 0, 0, 0, 0), (1523, .ifCond .eq 25, 1548, 0, 0, 0), (1526, .aload 4, 0, 0, 0, 0), (1528, .iconst 0, 0, 0, 0, 0), (1529, .daload, 0, 0, 0, 0), (1530, .aload 4, 0, 0, 0, 0), (1532, .iconst 0, 0, 0, 0, 0), (1533, .daload, 0, 0, 0, 0), (1534, .dcmp .l, 0, 0, 0, 0), (1535, .ifCond .eq 11, 1546, 0, 0, 0), (1538, .dload 7, 0, 0, 0, 0), (1540, .dload 7, 0, 0, 0, 0), (1542, .dcmp .l, 0, 0, 0, 0), (1543, .ifCond .ne 5, 1548, 0, 0, 0), (1546, .iconst 0, 0, 0, 0, 0), (1547, .ireturn, 0, 0, 0, 0), (1548, .goto 893, 2441, 0, 0, 0), (1551, .aload_n 1, 0, 0, 0, 0), (1552, .aload_n 0, 0, 0, 0, 0), (1553, .iload 5, 0, 0, 0, 0), (1555, .iconst 1, 0, 0, 0, 0), (1556, .iadd, 0, 0, 0, 0), (1557, .iaload, 0, 0, 0, 0), (1558, .aload_n 0, 0, 0, 0, 0), (1559, .iload 5, 0, 0, 0, 0), (1561, .iconst 2, 0, 0, 0, 0), (1562, .iadd, 0, 0, 0, 0), (1563, .iaload, 0, 0, 0, 0), (1564, .aload_n 3, 0, 0, 0, 0), (1565, .invokestatic 176, 232, 731, 1, 0), (1568, .istore 6, 0, 0, 0, 0), (1570, .aload_n 2, 0, 0, 0, 0), (1571, .aload_n 0, 0, 0, 0, 0), (1572, .iload 5, 0, 0, 0, 0), (1574, .iconst 1, 0, 0, 0, 0), (1575, .iadd, 0, 0, 0, 0), (1576, .iaload, 0, 0, 0, 0), (1577, .aload_n 0, 0, 0, 0, 0), (1578, .iload 5, 0, 0, 0, 0), (1580, .iconst 2, 0, 0, 0, 0), (1581, .iadd, 0, 0, 0, 0), (1582, .iaload, 0, 0, 0, 0), (1583, .invokevirtual 178, 176, 1114, 1, 0), (1586, .istore 7, 0, 0, 0, 0), (1588, .aload_n 2, 0, 0, 0, 0), (1589, .invokevirtual 119, 144, 891, 1, 0), (1592, .iload 6, 0, 0, 0, 0), (1594, .if_icmp .eq 5, 1599, 0, 0, 0), (1597, .iconst 0, 0, 0, 0, 0), (1598, .ireturn, 0, 0, 0, 0), (1599, .iload 6, 0, 0, 0, 0), (1601, .ifCond .ne 15, 1616, 0, 0, 0), (1604, .aload_n 3, 0, 0, 0, 0), (1605, .iconst 0, 0, 0, 0, 0), (1606, .laload, 0, 0, 0, 0), (1607, .iload 7, 0, 0, 0, 0), (1609, .i2l, 0, 0, 0, 0), (1610, .lcmp, 0, 0, 0, 0), (1611, .ifCond .eq 5, 1616, 0, 0, 0), (1614, .iconst 0, 0, 0, 0, 0), (1615, .ireturn, 0, 0, 0, 0), (1616, .goto 825, 2441, 0, 0, 0), (1619, .aload_n 1, 0, 0, 0, 0), (1620, .aload_n 0, 0, 0, 0, 0), (1621, .iload 5, 0, 0, 0, 0), (1623, .iconst 1, 0, 0, 0, 0), (1624, .iadd, 0, 0, 0, 0), (1625, .iaload, 0, 0, 0, 0), (1626, .aload_n 0, 0, 0, 0, 0), (1627, .iload 5, 0, 0, 0, 0), (1629, .iconst 2, 0, 0, 0, 0), (1630, .iadd, 0, 0, 0, 0), (1631, .iaload, 0, 0, 0, 0), (1632, .aload_n 3, 0, 0, 0, 0), (1633, .invokestatic 179, 233, 741, 1, 0), (1636, .istore 6, 0, 0, 0, 0), (1638, .aload_n 2, 0, 0, 0, 0), (1639, .aload_n 0, 0, 0, 0, 0), (1640, .iload 5, 0, 0, 0, 0), (1642, .iconst 1, 0, 0, 0, 0), (1643, .iadd, 0, 0, 0, 0), (1644, .iaload, 0, 0, 0, 0), (1645, .aload_n 0, 0, 0, 0, 0), (1646, .iload 5, 0, 0, 0, 0), (1648, .iconst 2, 0, 0, 0, 0), (1649, .iadd, 0, 0, 0, 0), (1650, .iaload, 0, 0, 0, 0), (1651, .invokevirtual 181, 177, 1256, 1, 0), (1654, .istore 7, 0, 0, 0, 0), (1656, .aload_n 2, 0, 0, 0, 0), (1657, .invokevirtual 119, 144, 891, 1, 0), (1660, .iload 6, 0, 0, 0, 0), (1662, .if_icmp .eq 5, 1667, 0, 0, 0), (1665, .iconst 0, 0, 0, 0, 0), (1666, .ireturn, 0, 0, 0, 0), (1667, .iload 6, 0, 0, 0, 0), (1669, .ifCond .ne 15, 1684, 0, 0, 0), (1672, .aload_n 3, 0, 0, 0, 0), (1673, .iconst 0, 0, 0, 0, 0), (1674, .laload, 0, 0, 0, 0), (1675, .iload 7, 0, 0, 0, 0), (1677, .i2l, 0, 0, 0, 0), (1678, .lcmp, 0, 0, 0, 0), (1679, .ifCond .eq 5, 1684, 0, 0, 0), (1682, .iconst 0, 0, 0, 0, 0), (1683, .ireturn, 0, 0, 0, 0), (1684, .goto 757, 2441, 0, 0, 0), (1687, .aload_n 1, 0, 0, 0, 0), (1688, .aload_n 0, 0, 0, 0, 0), (1689, .iload 5, 0, 0, 0, 0), (1691, .iconst 1, 0, 0, 0, 0), (1692, .iadd, 0, 0, 0, 0), (1693, .iaload, 0, 0, 0, 0), (1694, .aload_n 0, 0, 0, 0, 0), (1695, .iload 5, 0, 0, 0, 0), (1697, .iconst 2, 0, 0, 0, 0), (1698, .iadd, 0, 0, 0, 0), (1699, .iaload, 0, 0, 0, 0), (1700, .aload_n 0, 0, 0, 0, 0), (1701, .iload 5, 0, 0, 0, 0), (1703, .iconst 3, 0, 0, 0, 0), (1704, .iadd, 0, 0, 0, 0), (1705, .iaload, 0, 0, 0, 0), (1706, .aload_n 0, 0, 0, 0, 0), (1707, .iload 5, 0, 0, 0, 0), (1709, .iconst 4, 0, 0, 0, 0), (1710, .iadd, 0, 0, 0, 0), (1711, .iaload, 0, 0, 0, 0), (1712, .aload_n 3, 0, 0, 0, 0), (1713, .invokestatic 182, 234, 748, 1, 0), (1716, .istore 6, 0, 0, 0, 0), (1718, .aload_n 2, 0, 0, 0, 0), (1719, .aload_n 0, 0, 0, 0, 0), (1720, .iload 5, 0, 0, 0, 0), (1722, .iconst 1, 0, 0, 0, 0), (1723, .iadd, 0, 0, 0, 0), (1724, .iaload, 0, 0, 0, 0), (1725, .aload_n 0, 0, 0, 0, 0), (1726, .iload 5, 0, 0, 0, 0), (1728, .iconst 2, 0, 0, 0, 0), (1729, .iadd, 0, 0, 0, 0), (1730, .iaload, 0, 0, 0, 0), (1731, .aload_n 0, 0, 0, 0, 0), (1732, .iload 5, 0, 0, 0, 0), (1734, .iconst 3, 0, 0, 0, 0), (1735, .iadd, 0, 0, 0, 0), (1736, .iaload, 0, 0, 0, 0), (1737, .aload_n 0, 0, 0, 0, 0), (1738, .iload 5, 0, 0, 0, 0), (1740, .iconst 4, 0, 0, 0, 0), (1741, .iadd, 0, 0, 0, 0), (1742, .iaload, 0, 0, 0, 0), (1743, .invokevirtual 184, 178, 1270, 1, 0), (1746, .istore 7, 0, 0, 0, 0), (1748, .aload_n 2, 0, 0, 0, 0), (1749, .invokevirtual 119, 144, 891, 1, 0), (1752, .iload 6, 0, 0, 0, 0), (1754, .if_icmp .eq 5, 1759, 0, 0, 0), (1757, .iconst 0, 0, 0, 0, 0), (1758, .ireturn, 0, 0, 0, 0), (1759, .iload 6, 0, 0, 0, 0), (1761, .ifCond .ne 15, 1776, 0, 0, 0), (1764, .aload_n 3, 0, 0, 0, 0), (1765, .iconst 0, 0, 0, 0, 0), (1766, .laload, 0, 0, 0, 0), (1767, .iload 7, 0, 0, 0, 0), (1769, .i2l, 0, 0, 0, 0), (1770, .lcmp, 0, 0, 0, 0), (1771, .ifCond .eq 5, 1776, 0, 0, 0), (1774, .iconst 0, 0, 0, 0, 0), (1775, .ireturn, 0, 0, 0, 0), (1776, .goto 665, 2441, 0, 0, 0), (1779, .aload_n 1, 0, 0, 0, 0), (1780, .aload_n 0, 0, 0, 0, 0), (1781, .iload 5, 0, 0, 0, 0), (1783, .iconst 1, 0, 0, 0, 0), (1784, .iadd, 0, 0, 0, 0), (1785, .iaload, 0, 0, 0, 0), (1786, .aload_n 0, 0, 0, 0, 0), (1787, .iload 5, 0, 0, 0, 0), (1789, .iconst 2, 0, 0, 0, 0), (1790, .iadd, 0, 0, 0, 0), (1791, .iaload, 0, 0, 0, 0), (1792, .aload_n 0, 0, 0, 0, 0), (1793, .iload 5, 0, 0, 0, 0), (1795, .iconst 3, 0, 0, 0, 0), (1796, .iadd, 0, 0, 0, 0), (1797, .iaload, 0, 0, 0, 0), (1798, .aload_n 0, 0, 0, 0, 0), (1799, .iload 5, 0, 0, 0, 0), (1801, .iconst 4, 0, 0, 0, 0), (1802, .iadd, 0, 0, 0, 0), (1803, .iaload, 0, 0, 0, 0), (1804, .aload_n 3, 0, 0, 0, 0), (1805, .invokestatic 185, 235, 756, 1, 0), (1808, .istore 6, 0, 0, 0, 0), (1810, .aload_n 2, 0, 0, 0, 0), (1811, .aload_n 0, 0, 0, 0, 0), (1812, .iload 5, 0, 0, 0, 0), (1814, .iconst 1, 0, 0, 0, 0), (1815, .iadd, 0, 0, 0, 0), (1816, .iaload, 0, 0, 0, 0), (1817, .aload_n 0, 0, 0, 0, 0), (1818, .iload 5, 0, 0, 0, 0), (1820, .iconst 2, 0, 0, 0, 0), (1821, .iadd, 0, 0, 0, 0), (1822, .iaload, 0, 0, 0, 0), (1823, .aload_n 0, 0, 0, 0, 0), (1824, .iload 5, 0, 0, 0, 0), (1826, .iconst 3, 0, 0, 0, 0), (1827, .iadd, 0, 0, 0, 0), (1828, .iaload, 0, 0, 0, 0), (1829, .aload_n 0, 0, 0, 0, 0), (1830, .iload 5, 0, 0, 0, 0), (1832, .iconst 4, 0, 0, 0, 0), (1833, .iadd, 0, 0, 0, 0), (1834, .iaload, 0, 0, 0, 0), (1835, .invokevirtual 187, 179, 1274, 1, 0), (1838, .istore 7, 0, 0, 0, 0), (1840, .aload_n 2, 0, 0, 0, 0), (1841, .invokevirtual 119, 144, 891, 1, 0), (1844, .iload 6, 0, 0, 0, 0), (1846, .if_icmp .eq 5, 1851, 0, 0, 0), (1849, .iconst 0, 0, 0, 0, 0), (1850, .ireturn, 0, 0, 0, 0), (1851, .iload 6, 0, 0, 0, 0), (1853, .ifCond .ne 15, 1868, 0, 0, 0), (1856, .aload_n 3, 0, 0, 0, 0), (1857, .iconst 0, 0, 0, 0, 0), (1858, .laload, 0, 0, 0, 0), (1859, .iload 7, 0, 0, 0, 0), (1861, .i2l, 0, 0, 0, 0), (1862, .lcmp, 0, 0, 0, 0), (1863, .ifCond .eq 5, 1868, 0, 0, 0), (1866, .iconst 0, 0, 0, 0, 0), (1867, .ireturn, 0, 0, 0, 0), (1868, .goto 573, 2441, 0, 0, 0), (1871, .aload_n 1, 0, 0, 0, 0), (1872, .aload_n 0, 0, 0, 0, 0), (1873, .iload 5, 0, 0, 0, 0), (1875, .iconst 1, 0, 0, 0, 0), (1876, .iadd, 0, 0, 0, 0), (1877, .iaload, 0, 0, 0, 0), (1878, .aload_n 0, 0, 0, 0, 0), (1879, .iload 5, 0, 0, 0, 0), (1881, .iconst 2, 0, 0, 0, 0), (1882, .iadd, 0, 0, 0, 0), (1883, .iaload, 0, 0, 0, 0), (1884, .aload_n 3, 0, 0, 0, 0), (1885, .invokestatic 188, 236, 781, 1, 0), (1888, .istore 6, 0, 0, 0, 0), (1890, .aload_n 2, 0, 0, 0, 0), (1891, .aload_n 0, 0, 0, 0, 0)]
def m_p_244_4 : List m_I := [(1892, .iload 5, 0, 0, 0, 0), (1894, .iconst 1, 0, 0, 0, 0), (1895, .iadd, 0, 0, 0, 0), (1896, .iaload, 0, 0, 0, 0), (1897, .aload_n 0, 0, 0, 0, 0), (1898, .iload 5, 0, 0, 0, 0), (1900, .iconst 2, 0, 0, 0, 0), (1901, .iadd, 0, 0, 0, 0), (1902, .iaload, 0, 0, 0, 0), (1903, .invokevirtual 190, 180, 1286, 1, 0), (1906, .istore 7, 0, 0, 0, 0), (1908, .aload_n 2, 0, 0, 0, 0), (1909, .invokevirtual 119, 144, 891, 1, 0), (1912, .iload 6, 0, 0, 0, 0), (1914, .if_icmp .eq 5, 1919, 0, 0, 0), (1917, .iconst 0, 0, 0, 0, 0), (1918, .ireturn, 0, 0, 0, 0), (1919, .iload 6, 0, 0, 0, 0), (1921, .ifCond .ne 15, 1936, 0, 0, 0), (1924, .aload_n 3, 0, 0, 0, 0), (1925, .iconst 0, 0, 0, 0, 0), (1926, .laload, 0, 0, 0, 0), (1927, .iload 7, 0, 0, 0, 0), (1929, .i2l, 0, 0, 0, 0), (1930, .lcmp, 0, 0, 0, 0), (1931, .ifCond .eq 5, 1936, 0, 0, 0), (1934, .iconst 0, 0, 0, 0, 0), (1935, .ireturn, 0, 0, 0, 0), (1936, .goto 505, 2441, 0, 0, 0), (1939, .aload_n 1, 0, 0, 0, 0), (1940, .aload_n 0, 0, 0, 0, 0), (1941, .iload 5, 0, 0, 0, 0), (1943, .iconst 1, 0, 0, 0, 0), (1944, .iadd, 0, 0, 0, 0), (1945, .iaload, 0, 0, 0, 0), (1946, .aload_n 0, 0, 0, 0, 0), (1947, .iload 5, 0, 0, 0, 0), (1949, .iconst 2, 0, 0, 0, 0), (1950, .iadd, 0, 0, 0, 0), (1951, .iaload, 0, 0, 0, 0), (1952, .aload_n 0, 0, 0, 0, 0), (1953, .iload 5, 0, 0, 0, 0), (1955, .iconst 3, 0, 0, 0, 0), (1956, .iadd, 0, 0, 0, 0), (1957, .iaload, 0, 0, 0, 0), (1958, .aload_n 0, 0, 0, 0, 0), (1959, .iload 5, 0, 0, 0, 0), (1961, .iconst 4, 0, 0, 0, 0), (1962, .iadd, 0, 0, 0, 0), (1963, .iaload, 0, 0, 0, 0), (1964, .aload_n 3, 0, 0, 0, 0), (1965, .invokestatic 191, 237, 792, 1, 0), (1968, .istore 6, 0, 0, 0, 0), (1970, .aload_n 2, 0, 0, 0, 0), (1971, .aload_n 0, 0, 0, 0, 0), (1972, .iload 5, 0, 0, 0, 0), (1974, .iconst 1, 0, 0, 0, 0), (1975, .iadd, 0, 0, 0, 0), (1976, .iaload, 0, 0, 0, 0), (1977, .aload_n 0, 0, 0, 0, 0), (1978, .iload 5, 0, 0, 0, 0), (1980, .iconst 2, 0, 0, 0, 0), (1981, .iadd, 0, 0, 0, 0), (1982, .iaload, 0, 0, 0, 0), (1983, .aload_n 0, 0, 0, 0, 0), (1984, .iload 5, 0, 0, 0, 0), (1986, .iconst 3, 0, 0, 0, 0), (1987, .iadd, 0, 0, 0, 0), (1988, .iaload, 0, 0, 0, 0), (1989, .aload_n 0, 0, 0, 0, 0), (1990, .iload 5, 0, 0, 0, 0), (1992, .iconst 4, 0, 0, 0, 0), (1993, .iadd, 0, 0, 0, 0), (1994, .iaload, 0, 0, 0, 0), (1995, .invokevirtual 193, 181, 1295, 1, 0), (1998, .istore 7, 0, 0, 0, 0), (2000, .aload_n 2, 0, 0, 0, 0), (2001, .invokevirtual 119, 144, 891, 1, 0), (2004, .iload 6, 0, 0, 0, 0), (2006, .if_icmp .eq 5, 2011, 0, 0, 0), (2009, .iconst 0, 0, 0, 0, 0), (2010, .ireturn, 0, 0, 0, 0), (2011, .iload 6, 0, 0, 0, 0), (2013, .ifCond .ne 15, 2028, 0, 0, 0), (2016, .aload_n 3, 0, 0, 0, 0), (2017, .iconst 0, 0, 0, 0, 0), (2018, .laload, 0, 0, 0, 0), (2019, .iload 7, 0, 0, 0, 0), (2021, .i2l, 0, 0, 0, 0), (2022, .lcmp, 0, 0, 0, 0), (2023, .ifCond .eq 5, 2028, 0, 0, 0), (2026, .iconst 0, 0, 0, 0, 0), (2027, .ireturn, 0, 0, 0, 0), (2028, .goto 413, 2441, 0, 0, 0), (2031, .aload_n 1, 0, 0, 0, 0), (2032, .aload_n 0, 0, 0, 0, 0), (2033, .iload 5, 0, 0, 0, 0), (2035, .iconst 1, 0, 0, 0, 0), (2036, .iadd, 0, 0, 0, 0), (2037, .iaload, 0, 0, 0, 0), (2038, .aload_n 0, 0, 0, 0, 0), (2039, .iload 5, 0, 0, 0, 0), (2041, .iconst 2, 0, 0, 0, 0), (2042, .iadd, 0, 0, 0, 0), (2043, .iaload, 0, 0, 0, 0), (2044, .aload_n 3, 0, 0, 0, 0), (2045, .invokestatic 194, 238, 799, 1, 0), (2048, .istore 6, 0, 0, 0, 0), (2050, .aload_n 2, 0, 0, 0, 0), (2051, .aload_n 0, 0, 0, 0, 0), (2052, .iload 5, 0, 0, 0, 0), (2054, .iconst 1, 0, 0, 0, 0), (2055, .iadd, 0, 0, 0, 0), (2056, .iaload, 0, 0, 0, 0), (2057, .aload_n 0, 0, 0, 0, 0), (2058, .iload 5, 0, 0, 0, 0), (2060, .iconst 2, 0, 0, 0, 0), (2061, .iadd, 0, 0, 0, 0), (2062, .iaload, 0, 0, 0, 0), (2063, .invokevirtual 196, 182, 1304, 1, 0), (2066, .istore 7, 0, 0, 0, 0), (2068, .aload_n 2, 0, 0, 0, 0), (2069, .invokevirtual 119, 144, 891, 1, 0), (2072, .iload 6, 0, 0, 0, 0), (2074, .if_icmp .eq 5, 2079, 0, 0, 0), (2077, .iconst 0, 0, 0, 0, 0), (2078, .ireturn, 0, 0, 0, 0), (2079, .iload 6, 0, 0, 0, 0), (2081, .ifCond .ne 15, 2096, 0, 0, 0), (2084, .aload_n 3, 0, 0, 0, 0), (2085, .iconst 0, 0, 0, 0, 0), (2086, .laload, 0, 0, 0, 0), (2087, .iload 7, 0, 0, 0, 0), (2089, .i2l, 0, 0, 0, 0), (2090, .lcmp, 0, 0, 0, 0), (2091, .ifCond .eq 5, 2096, 0, 0, 0), (2094, .iconst 0, 0, 0, 0, 0), (2095, .ireturn, 0, 0, 0, 0), (2096, .goto 345, 2441, 0, 0, 0), (2099, .aload_n 1, 0, 0, 0, 0), (2100, .aload_n 0, 0, 0, 0, 0), (2101, .iload 5, 0, 0, 0, 0), (2103, .iconst 1, 0, 0, 0, 0), (2104, .iadd, 0, 0, 0, 0), (2105, .iaload, 0, 0, 0, 0), (2106, .aload_n 3, 0, 0, 0, 0), (2107, .invokestatic 197, 239, 806, 1, 0), (2110, .istore 6, 0, 0, 0, 0), (2112, .aload_n 2, 0, 0, 0, 0), (2113, .aload_n 0, 0, 0, 0, 0), (2114, .iload 5, 0, 0, 0, 0), (2116, .iconst 1, 0, 0, 0, 0), (2117, .iadd, 0, 0, 0, 0), (2118, .iaload, 0, 0, 0, 0), (2119, .invokevirtual 200, 184, 1308, 1, 0), (2122, .istore 7, 0, 0, 0, 0), (2124, .aload_n 2, 0, 0, 0, 0), (2125, .invokevirtual 119, 144, 891, 1, 0), (2128, .iload 6, 0, 0, 0, 0), (2130, .if_icmp .eq 5, 2135, 0, 0, 0), (2133, .iconst 0, 0, 0, 0, 0), (2134, .ireturn, 0, 0, 0, 0), (2135, .iload 6, 0, 0, 0, 0), (2137, .ifCond .ne 15, 2152, 0, 0, 0), (2140, .aload_n 3, 0, 0, 0, 0), (2141, .iconst 0, 0, 0, 0, 0), (2142, .laload, 0, 0, 0, 0), (2143, .iload 7, 0, 0, 0, 0), (2145, .i2l, 0, 0, 0, 0), (2146, .lcmp, 0, 0, 0, 0), (2147, .ifCond .eq 5, 2152, 0, 0, 0), (2150, .iconst 0, 0, 0, 0, 0), (2151, .ireturn, 0, 0, 0, 0), (2152, .goto 289, 2441, 0, 0, 0), (2155, .aload_n 1, 0, 0, 0, 0), (2156, .aload_n 0, 0, 0, 0, 0), (2157, .iload 5, 0, 0, 0, 0), (2159, .iconst 1, 0, 0, 0, 0), (2160, .iadd, 0, 0, 0, 0), (2161, .iaload, 0, 0, 0, 0), (2162, .aload_n 3, 0, 0, 0, 0), (2163, .invokestatic 201, 240, 813, 1, 0), (2166, .istore 6, 0, 0, 0, 0), (2168, .aload_n 2, 0, 0, 0, 0), (2169, .aload_n 0, 0, 0, 0, 0), (2170, .iload 5, 0, 0, 0, 0), (2172, .iconst 1, 0, 0, 0, 0), (2173, .iadd, 0, 0, 0, 0), (2174, .iaload, 0, 0, 0, 0), (2175, .invokevirtual 203, 185, 1334, 1, 0), (2178, .istore 7, 0, 0, 0, 0), (2180, .aload_n 2, 0, 0, 0, 0), (2181, .invokevirtual 119, 144, 891, 1, 0), (2184, .iload 6, 0, 0, 0, 0), (2186, .if_icmp .eq 5, 2191, 0, 0, 0), (2189, .iconst 0, 0, 0, 0, 0), (2190, .ireturn, 0, 0, 0, 0), (2191, .iload 6, 0, 0, 0, 0), (2193, .ifCond .ne 15, 2208, 0, 0, 0), (2196, .aload_n 3, 0, 0, 0, 0), (2197, .iconst 0, 0, 0, 0, 0), (2198, .laload, 0, 0, 0, 0), (2199, .iload 7, 0, 0, 0, 0), (2201, .i2l, 0, 0, 0, 0), (2202, .lcmp, 0, 0, 0, 0), (2203, .ifCond .eq 5, 2208, 0, 0, 0), (2206, .iconst 0, 0, 0, 0, 0), (2207, .ireturn, 0, 0, 0, 0), (2208, .goto 233, 2441, 0, 0, 0), (2211, .aload_n 1, 0, 0, 0, 0), (2212, .aload_n 0, 0, 0, 0, 0), (2213, .iload 5, 0, 0, 0, 0), (2215, .iconst 1, 0, 0, 0, 0), (2216, .iadd, 0, 0, 0, 0), (2217, .iaload, 0, 0, 0, 0), (2218, .aload_n 0, 0, 0, 0, 0), (2219, .iload 5, 0, 0, 0, 0), (2221, .iconst 2, 0, 0, 0, 0), (2222, .iadd, 0, 0, 0, 0), (2223, .iaload, 0, 0, 0, 0), (2224, .aload_n 3, 0, 0, 0, 0), (2225, .invokestatic 204, 241, 824, 1, 0), (2228, .istore 6, 0, 0, 0, 0), (2230, .aload_n 2, 0, 0, 0, 0), (2231, .aload_n 0, 0, 0, 0, 0), (2232, .iload 5, 0, 0, 0, 0), (2234, .iconst 1, 0, 0, 0, 0), (2235, .iadd, 0, 0, 0, 0), (2236, .iaload, 0, 0, 0, 0), (2237, .aload_n 0, 0, 0, 0, 0), (2238, .iload 5, 0, 0, 0, 0), (2240, .iconst 2, 0, 0, 0, 0), (2241, .iadd, 0, 0, 0, 0), (2242, .iaload, 0, 0, 0, 0), (2243, .invokevirtual 206, 186, 1342, 1, 0), (2246, .istore 7, 0, 0, 0, 0), (2248, .aload_n 2, 0, 0, 0, 0), (2249, .invokevirtual 119, 144, 891, 1, 0), (2252, .iload 6, 0, 0, 0, 0), (2254, .if_icmp .eq 5, 2259, 0, 0, 0), (2257, .iconst 0, 0, 0, 0, 0), (2258, .ireturn, 0, 0, 0, 0), (2259, .iload 6, 0, 0, 0, 0), (2261, .ifCond .ne 15, 2276, 0, 0, 0), (2264, .aload_n 3, 0, 0, 0, 0), (2265, .iconst 0, 0, 0, 0, 0), (2266, .laload, 0, 0, 0, 0), (2267, .iload 7, 0, 0, 0, 0), (2269, .i2l, 0, 0, 0, 0), (2270, .lcmp, 0, 0, 0, 0), (2271, .ifCond .eq 5, 2276, 0, 0, 0), (2274, .iconst 0, 0, 0, 0, 0), (2275, .ireturn, 0, 0, 0, 0), (2276, .goto 165, 2441, 0, 0, 0), (2279, .aload_n 1, 0, 0, 0, 0), (2280, .aload_n 0, 0, 0, 0, 0), (2281, .iload 5, 0, 0, 0, 0), (2283, .iconst 1, 0, 0, 0, 0), (2284, .iadd, 0, 0, 0, 0), (2285, .iaload, 0, 0, 0, 0), (2286, .aload_n 0, 0, 0, 0, 0), (2287, .iload 5, 0, 0, 0, 0), (2289, .iconst 2, 0, 0, 0, 0), (2290, .iadd, 0, 0, 0, 0), (2291, .iaload, 0, 0, 0, 0), (2292, .aload_n 0, 0, 0, 0, 0), (2293, .iload 5, 0, 0, 0, 0), (2295, .iconst 3, 0, 0, 0, 0), (2296, .iadd, 0, 0, 0, 0), (2297, .iaload, 0, 0, 0, 0), (2298, .aload_n 3, 0, 0, 0, 0), (2299, .invokestatic 207, 242, 831, 1, 0), (2302, .istore 6, 0, 0, 0, 0), (2304, .aload_n 2, 0, 0, 0, 0), (2305, .aload_n 0, 0, 0, 0, 0), (2306, .iload 5, 0, 0, 0, 0), (2308, .iconst 1, 0, 0, 0, 0), (2309, .iadd, 0, 0, 0, 0), (2310, .iaload, 0, 0, 0, 0), (2311, .aload_n 0, 0, 0, 0, 0), (2312, .iload 5, 0, 0, 0, 0), (2314, .iconst 2, 0, 0, 0, 0), (2315, .iadd, 0, 0, 0, 0), (2316, .iaload, 0, 0, 0, 0), (2317, .aload_n 0, 0, 0, 0, 0), (2318, .iload 5, 0, 0, 0, 0), (2320, .iconst 3, 0, 0, 0, 0), (2321, .iadd, 0, 0, 0, 0), (2322, .iaload, 0, 0, 0, 0), (2323, .invokevirtual 209, 187, 1346, 1, 0), (2326, .istore 7, 0, 0, 0, 0), (2328, .aload_n 2, 0, 0, 0, 0), (2329, .invokevirtual 119, 144, 891, 1, 0), (2332, .iload 6, 0, 0, 0, 0), (2334, .if_icmp .eq 5, 2339, 0, 0, 0), (2337, .iconst 0, 0, 0, 0, 0), (2338, .ireturn, 0, 0, 0, 0), (2339, .iload 6, 0, 0, 0, 0), (2341, .ifCond .ne 15, 2356, 0, 0, 0), (2344, .aload_n 3, 0, 0, 0, 0)]
def m_p_244_5 : List m_I := [(2345, .iconst 0, 0, 0, 0, 0), (2346, .laload, 0, 0, 0, 0), (2347, .iload 7, 0, 0, 0, 0), (2349, .i2l, 0, 0, 0, 0), (2350, .lcmp, 0, 0, 0, 0), (2351, .ifCond .eq 5, 2356, 0, 0, 0), (2354, .iconst 0, 0, 0, 0, 0), (2355, .ireturn, 0, 0, 0, 0), (2356, .goto 85, 2441, 0, 0, 0), (2359, .aload_n 1, 0, 0, 0, 0), (2360, .aload_n 0, 0, 0, 0, 0), (2361, .iload 5, 0, 0, 0, 0), (2363, .iconst 1, 0, 0, 0, 0), (2364, .iadd, 0, 0, 0, 0), (2365, .iaload, 0, 0, 0, 0), (2366, .aload_n 0, 0, 0, 0, 0), (2367, .iload 5, 0, 0, 0, 0), (2369, .iconst 2, 0, 0, 0, 0), (2370, .iadd, 0, 0, 0, 0), (2371, .iaload, 0, 0, 0, 0), (2372, .aload_n 3, 0, 0, 0, 0), (2373, .invokestatic 210, 243, 838, 1, 0), (2376, .istore 6, 0, 0, 0, 0), (2378, .aload_n 2, 0, 0, 0, 0), (2379, .aload_n 0, 0, 0, 0, 0), (2380, .iload 5, 0, 0, 0, 0), (2382, .iconst 1, 0, 0, 0, 0), (2383, .iadd, 0, 0, 0, 0), (2384, .iaload, 0, 0, 0, 0), (2385, .aload_n 0, 0, 0, 0, 0), (2386, .iload 5, 0, 0, 0, 0), (2388, .iconst 2, 0, 0, 0, 0), (2389, .iadd, 0, 0, 0, 0), (2390, .iaload, 0, 0, 0, 0), (2391, .invokevirtual 212, 189, 1350, 1, 0), (2394, .istore 7, 0, 0, 0, 0), (2396, .aload_n 2, 0, 0, 0, 0), (2397, .invokevirtual 119, 144, 891, 1, 0), (2400, .iload 6, 0, 0, 0, 0), (2402, .if_icmp .eq 5, 2407, 0, 0, 0), (2405, .iconst 0, 0, 0, 0, 0), (2406, .ireturn, 0, 0, 0, 0), (2407, .iload 6, 0, 0, 0, 0), (2409, .ifCond .ne 15, 2424, 0, 0, 0), (2412, .aload_n 3, 0, 0, 0, 0), (2413, .iconst 0, 0, 0, 0, 0), (2414, .laload, 0, 0, 0, 0), (2415, .iload 7, 0, 0, 0, 0), (2417, .i2l, 0, 0, 0, 0), (2418, .lcmp, 0, 0, 0, 0), (2419, .ifCond .eq 5, 2424, 0, 0, 0), (2422, .iconst 0, 0, 0, 0, 0), (2423, .ireturn, 0, 0, 0, 0), (2424, .goto 17, 2441, 0, 0, 0), (2427, .aload_n 1, 0, 0, 0, 0), (2428, .invokevirtual 213, 82, 228, 1, 0), (2431, .aload_n 2, 0, 0, 0, 0), (2432, .invokevirtual 217, 191, 1357, 1, 0), (2435, .lcmp, 0, 0, 0, 0), (2436, .ifCond .eq 5, 2441, 0, 0, 0), (2439, .iconst 0, 0, 0, 0, 0), (2440, .ireturn, 0, 0, 0, 0), (2441, .iinc 5 7, 0, 0, 0, 0), (2444, .goto (-2416), 28, 0, 0, 0), (2447, .iconst 1, 0, 0, 0, 0), (2448, .ireturn, 0, 0, 0, 0)]
def m_p_244 : List m_I := m_p_244_0 ++ (m_p_244_1 ++ (m_p_244_2 ++ (m_p_244_3 ++ (m_p_244_4 ++ (m_p_244_5)))))
def m_progs : List (List m_I) := [m_p_0, m_p_1, m_p_2, m_p_3, m_p_4, m_p_5, m_p_6, m_p_7, m_p_8, m_p_9, m_p_10, m_p_11, m_p_12, m_p_13, m_p_14, m_p_15, m_p_16, m_p_17, m_p_18, m_p_19, m_p_20, m_p_21, m_p_22, m_p_23, m_p_24, m_p_25, m_p_26, m_p_27, m_p_28, m_p_29, m_p_30, m_p_31, m_p_32, m_p_33, m_p_34, m_p_35, m_p_36, m_p_37, m_p_38, m_p_39, m_p_40, m_p_41, m_p_42, m_p_43, m_p_44, m_p_45, m_p_46, m_p_47, m_p_48, m_p_49, m_p_50, m_p_51, m_p_52, m_p_53, m_p_54, m_p_55, m_p_56, m_p_57, m_p_58, m_p_59, m_p_60, m_p_61, m_p_62, m_p_63, m_p_64, m_p_65, m_p_66, m_p_67, m_p_68, m_p_69, m_p_70, m_p_71, m_p_72, m_p_73, m_p_74, m_p_75, m_p_76, m_p_77, m_p_78, m_p_79, m_p_80, m_p_81, m_p_82, m_p_83, m_p_84, m_p_85, m_p_86, m_p_87, m_p_88, m_p_89, m_p_90, m_p_91, m_p_92, m_p_93, m_p_94, m_p_95, m_p_96, m_p_97, m_p_98, m_p_99, m_p_100, m_p_101, m_p_102, m_p_103, m_p_104, m_p_105, m_p_106, m_p_107, m_p_108, m_p_109, m_p_110, m_p_111, m_p_112, m_p_113, m_p_114, m_p_115, m_p_116, m_p_117, m_p_118, m_p_119, m_p_120, m_p_121, m_p_122, m_p_123, m_p_124, m_p_125, m_p_126, m_p_127, m_p_128, m_p_129, m_p_130, m_p_131, m_p_132, m_p_133, m_p_134, m_p_135, m_p_136, m_p_137, m_p_138, m_p_139, m_p_140, m_p_141, m_p_142, m_p_143, m_p_144, m_p_145, m_p_146, m_p_147, m_p_148, m_p_149, m_p_150, m_p_151, m_p_152, m_p_153, m_p_154, m_p_155, m_p_156, m_p_157, m_p_158, m_p_159, m_p_160, m_p_161, m_p_162, m_p_163, m_p_164, m_p_165, m_p_166, m_p_167, m_p_168, m_p_169, m_p_170, m_p_171, m_p_172, m_p_173, m_p_174, m_p_175, m_p_176, m_p_177, m_p_178, m_p_179, m_p_180, m_p_181, m_p_182, m_p_183, m_p_184, m_p_185, m_p_186, m_p_187, m_p_188, m_p_189, m_p_190, m_p_191, m_p_192, m_p_193, m_p_194, m_p_195, m_p_196, m_p_197, m_p_198, m_p_199, m_p_200, m_p_201, m_p_202, m_p_203, m_p_204, m_p_205, m_p_206, m_p_207, m_p_208, m_p_209, m_p_210, m_p_211, m_p_212, m_p_213, m_p_214, m_p_215, m_p_216, m_p_217, m_p_218, m_p_219, m_p_220, m_p_221, m_p_222, m_p_223, m_p_224, m_p_225, m_p_226, m_p_227, m_p_228, m_p_229, m_p_230, m_p_231, m_p_232, m_p_233, m_p_234, m_p_235, m_p_236, m_p_237, m_p_238, m_p_239, m_p_240, m_p_241, m_p_242, m_p_243, m_p_244]
def m_prog (M : Nat) : List m_I := m_progs.getD M []
/-- name, code, size of the locals, type of the answer, static, arguments (without the receiver), class of the receiver, frames, words -/
abbrev m_N : Type := MethodName × ByteArray × Nat × Option FieldType × Bool × Nat × Nat × Nat × Nat
def m_infs : List m_N := [(yX0_init, cX0_init, 2, none, false, 0, 0, 2, 40),
  (yX0_run, cX0_run, 4, none, false, 3, 0, 4, 94),
  (yX0_pass, cX0_pass, 6, none, false, 3, 0, 3, 69),
  (yX0_gatherNine, cX0_gatherNine, 5, none, false, 3, 0, 2, 45),
  (yX0_resultOfNine, cX0_resultOfNine, 2, (some .int), false, 1, 0, 2, 44),
  (yX0_weighted, cX0_weighted, 3, (some .int), false, 0, 0, 0, 0),
  (yX0_middle, cX0_middle, 4, (some .int), false, 0, 0, 0, 0),
  (yX0_edge, cX0_edge, 3, (some .int), false, 0, 0, 1, 21),
  (yX0_least, cX0_least, 4, (some .int), false, 1, 0, 1, 21),
  (yX0_greatest, cX0_greatest, 4, (some .int), false, 1, 0, 1, 21),
  (yX0_isInCross, cX0_isInCross, 1, (some .boolean), true, 1, 0, 0, 0),
  (yX1_init, cX1_init, 1, none, false, 0, 1, 1, 20),
  (yX1_find, cX1_find, 7, none, false, 4, 1, 3, 73),
  (yX1_markMembers, cX1_markMembers, 6, none, false, 3, 1, 0, 0),
  (yX1_gather, cX1_gather, 6, none, false, 3, 1, 2, 48),
  (yX1_join, cX1_join, 3, none, false, 2, 1, 0, 0),
  (yX1_joinNeighbours, cX1_joinNeighbours, 7, none, false, 3, 1, 1, 22),
  (yX1_numberAt, cX1_numberAt, 3, (some .int), false, 2, 1, 0, 0),
  (yX1_largest, cX1_largest, 4, (some .int), false, 0, 1, 0, 0),
  (yX1_awayFromEdges, cX1_awayFromEdges, 3, (some .int), false, 0, 1, 0, 0),
  (yX1_factOf, cX1_factOf, 3, (some .int), false, 2, 1, 3, 68),
  (yX1_bound, cX1_bound, 8, (some .int), false, 2, 1, 1, 22),
  (yX1_bareSides, cX1_bareSides, 5, (some .int), false, 1, 1, 2, 44),
  (yX1_bareSide, cX1_bareSide, 3, (some .int), false, 2, 1, 1, 22),
  (yX2_init, cX2_init, 1, none, false, 0, 2, 2, 40),
  (yX2_find, cX2_find, 4, none, false, 1, 2, 3, 70),
  (yX2_leastAbove, cX2_leastAbove, 4, (some .int), false, 3, 2, 2, 47),
  (yX2_costOf, cX2_costOf, 3, (some .int), true, 3, 2, 2, 45),
  (yX2_bestColumn, cX2_bestColumn, 7, (some .int), false, 4, 2, 1, 21),
  (yX2_takeOut, cX2_takeOut, 4, none, false, 1, 2, 2, 61),
  (yX2_putIn, cX2_putIn, 5, none, false, 1, 2, 2, 61),
  (yX3_init, cX3_init, 1, none, false, 0, 3, 1, 20),
  (yX3_size, cX3_size, 1, (some .int), false, 0, 3, 0, 0),
  (yX3_measure, cX3_measure, 3, none, false, 2, 3, 0, 0),
  (yX3_near, cX3_near, 5, (some .int), false, 2, 3, 1, 21),
  (yX3_put, cX3_put, 4, none, false, 3, 3, 1, 21),
  (yX3_total, cX3_total, 3, (some .int), false, 0, 3, 1, 20),
  (yX3_isAsLargeAs, cX3_isAsLargeAs, 2, (some .boolean), false, 1, 3, 0, 0),
  (yX3_differing, cX3_differing, 4, (some .int), false, 1, 3, 1, 20),
  (yX3_become, cX3_become, 2, none, false, 1, 3, 1, 40),
  (yX4_init, cX4_init, 1, none, false, 0, 4, 1, 20),
  (yX4_read, cX4_read, 3, none, false, 1, 4, 1, 20),
  (yX4_planned, cX4_planned, 2, (some .int), false, 1, 4, 0, 0),
  (yX4_plan, cX4_plan, 2, none, false, 1, 4, 3, 66),
  (yX4_planNegative, cX4_planNegative, 2, none, false, 0, 4, 0, 0),
  (yX4_planStretch, cX4_planStretch, 4, none, false, 0, 4, 2, 43),
  (yX4_planEven, cX4_planEven, 3, none, false, 0, 4, 0, 0),
  (yX4_planCut, cX4_planCut, 3, none, false, 0, 4, 1, 36),
  (yX4_least, cX4_least, 1, (some .int), false, 0, 4, 1, 23),
  (yX4_greatest, cX4_greatest, 1, (some .int), false, 0, 4, 1, 23),
  (yX4_inOrder, cX4_inOrder, 4, (some .int), false, 1, 4, 0, 0),
  (yX4_cut, cX4_cut, 17, (some .int), false, 0, 4, 0, 0),
  (yX5_init, cX5_init, 2, none, false, 0, 5, 3, 61),
  (yX5_fresh, cX5_fresh, 7, (some .int), false, 4, 5, 2, 42),
  (yX5_dot, cX5_dot, 7, (some .int), false, 4, 5, 2, 45),
  (yX5_box, cX5_box, 10, (some .int), false, 6, 5, 3, 83),
  (yX5_disc, cX5_disc, 11, (some .int), false, 5, 5, 3, 83),
  (yX5_shade, cX5_shade, 9, (some .int), false, 4, 5, 2, 45),
  (yX5_copy, cX5_copy, 6, (some .int), false, 2, 5, 2, 61),
  (yX5_mix, cX5_mix, 7, (some .int), false, 3, 5, 3, 83),
  (yX5_turn, cX5_turn, 8, (some .int), false, 2, 5, 3, 68),
  (yX5_kernel, cX5_kernel, 4, (some .int), false, 2, 5, 1, 22),
  (yX5_divide, cX5_divide, 4, (some .int), false, 2, 5, 2, 42),
  (yX5_filter, cX5_filter, 4, (some .int), false, 2, 5, 5, 117),
  (yX5_values, cX5_values, 5, (some .int), false, 2, 5, 4, 87),
  (yX5_value, cX5_value, 5, (some .int), false, 3, 5, 2, 45),
  (yX5_sheet, cX5_sheet, 4, (some .int), false, 2, 5, 3, 65),
  (yX5_count, cX5_count, 7, (some .int), false, 3, 5, 1, 22),
  (yX5_ordered, cX5_ordered, 4, (some .int), false, 2, 5, 2, 42),
  (yX5_difference, cX5_difference, 7, (some .double), false, 2, 5, 1, 21),
  (yX5_parts, cX5_parts, 4, (some .int), false, 2, 5, 5, 122),
  (yX5_holes, cX5_holes, 4, (some .int), false, 2, 5, 5, 122),
  (yX5_partOf, cX5_partOf, 6, (some .int), false, 4, 5, 4, 99),
  (yX5_part, cX5_part, 6, (some .int), false, 4, 5, 4, 99),
  (yX5_keep, cX5_keep, 6, (some .int), false, 2, 5, 4, 99),
  (yX5_far, cX5_far, 6, (some .int), false, 4, 5, 4, 96),
  (yX5_spread, cX5_spread, 8, (some .int), false, 2, 5, 4, 96),
  (yX5_carve, cX5_carve, 3, (some .int), false, 1, 5, 4, 93),
  (yX5_widen, cX5_widen, 3, (some .int), false, 1, 5, 4, 93),
  (yX5_seam, cX5_seam, 4, (some .int), false, 2, 5, 4, 93),
  (yX5_partsAt, cX5_partsAt, 5, (some .int), false, 3, 5, 5, 122),
  (yX5_carvedBy, cX5_carvedBy, 4, (some .int), false, 2, 5, 5, 117),
  (yX5_digest, cX5_digest, 5, (some .long), false, 0, 5, 6, 148),
  (yX5_sheetAt, cX5_sheetAt, 2, (some (.object "ParallaxSheets$Sheet")), false, 1, 5, 0, 0),
  (yX5_needField, cX5_needField, 3, none, true, 3, 5, 1, 22),
  (yX5_needPlace, cX5_needPlace, 1, none, true, 1, 5, 0, 0),
  (yX5_refuseUnless, cX5_refuseUnless, 1, none, true, 1, 5, 0, 0),
  (yX5_needState, cX5_needState, 1, none, true, 1, 5, 0, 0),
  (yX5_isFrom, cX5_isFrom, 3, (some .boolean), true, 3, 5, 0, 0),
  (yX5_isValue, cX5_isValue, 1, (some .boolean), true, 1, 5, 1, 22),
  (yX5_isSlope, cX5_isSlope, 1, (some .boolean), true, 1, 5, 1, 22),
  (yX5_isWays, cX5_isWays, 1, (some .boolean), true, 1, 5, 0, 0),
  (yX5_changeToNext, cX5_changeToNext, 3, (some .int), false, 1, 5, 2, 61),
  (yX5_turnedSide, cX5_turnedSide, 3, (some .int), true, 3, 5, 1, 21),
  (yX5_turnedValue, cX5_turnedValue, 4, (some .int), true, 4, 5, 2, 45),
  (yX5_factOf, cX5_factOf, 3, (some .int), false, 2, 5, 2, 43),
  (yX5_partsFrom, cX5_partsFrom, 4, (some .int), false, 3, 5, 4, 99),
  (yX5_holesOf, cX5_holesOf, 4, (some .int), false, 2, 5, 4, 99),
  (yX5_farOf, cX5_farOf, 5, (some .int), true, 4, 5, 3, 72),
  (yX5_farWithin, cX5_farWithin, 8, (some .int), true, 4, 5, 2, 45),
  (yX5_farToOutside, cX5_farToOutside, 6, (some .int), true, 4, 5, 2, 43),
  (yX5_distance, cX5_distance, 3, (some .int), true, 3, 5, 1, 21),
  (yX5_costOfCarving, cX5_costOfCarving, 5, (some .int), false, 2, 5, 4, 93),
  (yX5_digestWith, cX5_digestWith, 3, (some .long), true, 2, 5, 0, 0),
  (yX5_digestFacts, cX5_digestFacts, 7, (some .long), false, 2, 5, 5, 122),
  (yX5_digestSeams, cX5_digestSeams, 7, (some .long), false, 2, 5, 5, 117),
  (yX5_digestFields, cX5_digestFields, 6, (some .long), true, 2, 5, 4, 96),
  (yX6_init, cX6_init, 4, none, false, 3, 6, 1, 20),
  (yX6_of, cX6_of, 5, (some (.object "ParallaxSheetsModel$Sheet")), true, 3, 6, 2, 43),
  (yX6_with, cX6_with, 2, (some (.object "ParallaxSheetsModel$Sheet")), false, 1, 6, 2, 43),
  (yX6_size, cX6_size, 1, (some .int), false, 0, 6, 0, 0),
  (yX6_isIn, cX6_isIn, 3, (some .boolean), false, 2, 6, 0, 0),
  (yX6_at, cX6_at, 3, (some .int), false, 2, 6, 1, 21),
  (yX6_others, cX6_others, 4, (some .int), false, 1, 6, 1, 20),
  (yX6_isLike, cX6_isLike, 2, (some .boolean), false, 1, 6, 0, 0),
  (yX6_inOrder, cX6_inOrder, 1, (some (.array .int)), false, 0, 6, 1, 24),
  (yX6_sorted, cX6_sorted, 5, (some (.array .int)), true, 1, 6, 0, 0),
  (yX6_sum, cX6_sum, 6, (some .int), false, 0, 6, 0, 0),
  (yX6_count, cX6_count, 8, (some .int), false, 2, 6, 0, 0),
  (yX6_nine, cX6_nine, 4, (some (.array .int)), false, 1, 6, 2, 43),
  (yX6_weighed, cX6_weighed, 9, (some (.object "ParallaxSheetsModel$Sheet")), false, 3, 6, 3, 66),
  (yX6_median, cX6_median, 3, (some (.object "ParallaxSheetsModel$Sheet")), false, 0, 6, 3, 66),
  (yX6_edges, cX6_edges, 4, (some (.object "ParallaxSheetsModel$Sheet")), false, 0, 6, 3, 66),
  (yX6_extreme, cX6_extreme, 11, (some (.object "ParallaxSheetsModel$Sheet")), false, 2, 6, 3, 66),
  (yX6_cut, cX6_cut, 15, (some .int), false, 0, 6, 1, 25),
  (yX6_stretched, cX6_stretched, 6, (some (.object "ParallaxSheetsModel$Sheet")), false, 0, 6, 3, 64),
  (yX6_even, cX6_even, 3, (some (.object "ParallaxSheetsModel$Sheet")), false, 0, 6, 3, 64),
  (yX6_inTwo, cX6_inTwo, 4, (some (.object "ParallaxSheetsModel$Sheet")), false, 1, 6, 3, 64),
  (yX6_parts, cX6_parts, 15, (some (.array .int)), false, 3, 6, 7, 171),
  (yX6_many, cX6_many, 6, (some .int), true, 1, 6, 1, 21),
  (yX6_isEdge, cX6_isEdge, 2, (some .boolean), false, 1, 6, 0, 0),
  (yX6_holes, cX6_holes, 7, (some .int), false, 1, 6, 8, 205),
  (yX6_part, cX6_part, 7, (some (.array .int)), false, 2, 6, 3, 65),
  (yX6_free, cX6_free, 3, (some .int), false, 2, 6, 2, 43),
  (yX6_kept, cX6_kept, 7, (some (.object "ParallaxSheetsModel$Sheet")), false, 1, 6, 8, 205),
  (yX6_apart, cX6_apart, 3, (some .int), true, 3, 6, 1, 21),
  (yX6_far, cX6_far, 8, (some .int), false, 2, 6, 2, 43),
  (yX6_cost, cX6_cost, 3, (some .int), false, 2, 6, 2, 43),
  (yX6_sums, cX6_sums, 7, (some (.array .int)), false, 0, 6, 3, 65),
  (yX6_seam, cX6_seam, 7, (some (.array .int)), false, 0, 6, 4, 91),
  (yX6_carved, cX6_carved, 6, (some (.object "ParallaxSheetsModel$Sheet")), false, 0, 6, 5, 117),
  (yX6_widened, cX6_widened, 6, (some (.object "ParallaxSheetsModel$Sheet")), false, 0, 6, 5, 117),
  (yX7_bound, cX7_bound, 1, (some .int), true, 1, 7, 1, 21),
  (yX7_init, cX7_init, 2, none, false, 0, 7, 3, 67),
  (yX7_thrown, cX7_thrown, 1, (some .int), false, 0, 7, 0, 0),
  (yX7_isIn, cX7_isIn, 3, (some .boolean), true, 3, 7, 0, 0),
  (yX7_refuse, cX7_refuse, 3, (some .boolean), false, 2, 7, 0, 0),
  (yX7_start, cX7_start, 3, (some .boolean), false, 2, 7, 1, 22),
  (yX7_isNo, cX7_isNo, 1, (some .boolean), true, 1, 7, 1, 22),
  (yX7_isNoSheet, cX7_isNoSheet, 2, (some .boolean), false, 1, 7, 2, 44),
  (yX7_isNoField, cX7_isNoField, 4, (some .boolean), false, 3, 7, 2, 44),
  (yX7_isNoValue, cX7_isNoValue, 1, (some .boolean), true, 1, 7, 1, 22),
  (yX7_take, cX7_take, 4, (some .int), false, 2, 7, 2, 43),
  (yX7_fresh, cX7_fresh, 5, (some .int), false, 4, 7, 3, 67),
  (yX7_dot, cX7_dot, 7, (some .int), false, 4, 7, 3, 67),
  (yX7_box, cX7_box, 10, (some .int), false, 6, 7, 3, 67),
  (yX7_disc, cX7_disc, 9, (some .int), false, 5, 7, 3, 67),
  (yX7_shade, cX7_shade, 10, (some .int), false, 4, 7, 3, 66),
  (yX7_copy, cX7_copy, 5, (some .int), false, 2, 7, 2, 44),
  (yX7_mix, cX7_mix, 6, (some .int), false, 3, 7, 3, 66),
  (yX7_turned, cX7_turned, 8, (some (.object "ParallaxSheetsModel$Sheet")), true, 2, 7, 2, 43),
  (yX7_turn, cX7_turn, 3, (some .int), false, 2, 7, 3, 70),
  (yX7_kernel, cX7_kernel, 4, (some .int), false, 2, 7, 2, 44),
  (yX7_divide, cX7_divide, 4, (some .int), false, 2, 7, 2, 44),
  (yX7_filtered, cX7_filtered, 3, (some (.object "ParallaxSheetsModel$Sheet")), false, 2, 7, 4, 96),
  (yX7_filter, cX7_filter, 3, (some .int), false, 2, 7, 5, 118),
  (yX7_inverted, cX7_inverted, 3, (some (.object "ParallaxSheetsModel$Sheet")), true, 1, 7, 3, 64),
  (yX7_values, cX7_values, 4, (some .int), false, 2, 7, 4, 89),
  (yX7_value, cX7_value, 4, (some .int), false, 3, 7, 3, 67),
  (yX7_of, cX7_of, 4, (some .int), true, 2, 7, 2, 59),
  (yX7_sheet, cX7_sheet, 3, (some .int), false, 2, 7, 3, 82),
  (yX7_count, cX7_count, 4, (some .int), false, 3, 7, 3, 65),
  (yX7_ordered, cX7_ordered, 3, (some .int), false, 2, 7, 2, 44),
  (yX7_difference, cX7_difference, 5, (some .double), false, 2, 7, 2, 44),
  (yX7_areNoWays, cX7_areNoWays, 2, (some .boolean), false, 1, 7, 1, 22),
  (yX7_partsOf, cX7_partsOf, 3, (some .int), true, 3, 7, 8, 205),
  (yX7_parts, cX7_parts, 3, (some .int), false, 2, 7, 9, 227),
  (yX7_holes, cX7_holes, 3, (some .int), false, 2, 7, 9, 231),
  (yX7_partOf, cX7_partOf, 5, (some .int), false, 4, 7, 8, 205),
  (yX7_part, cX7_part, 5, (some .int), false, 4, 7, 9, 227),
  (yX7_keep, cX7_keep, 3, (some .int), false, 2, 7, 9, 231),
  (yX7_far, cX7_far, 5, (some .int), false, 4, 7, 3, 70),
  (yX7_spread, cX7_spread, 7, (some .int), false, 2, 7, 3, 70),
  (yX7_reshape, cX7_reshape, 4, (some .int), false, 2, 7, 5, 117),
  (yX7_carve, cX7_carve, 2, (some .int), false, 1, 7, 6, 142),
  (yX7_widen, cX7_widen, 2, (some .int), false, 1, 7, 6, 142),
  (yX7_seam, cX7_seam, 3, (some .int), false, 2, 7, 5, 117),
  (yX7_partsAt, cX7_partsAt, 4, (some .int), false, 3, 7, 9, 227),
  (yX7_carvedBy, cX7_carvedBy, 5, (some .int), true, 2, 7, 6, 142),
  (yX7_carvedBy_, cX7_carvedBy_, 3, (some .int), false, 2, 7, 7, 166),
  (yX7_add, cX7_add, 4, (some .long), true, 2, 7, 0, 0),
  (yX7_digest, cX7_digest, 12, (some .long), false, 0, 7, 9, 231),
  (yJ6_valueOf_2dffe, cJ6_valueOf_2dffe, 1, (some (.object "java/lang/Integer")), true, 1, 8, 3, 61),
  (yJ6_init_d00df, cJ6_init_d00df, 2, none, false, 1, 8, 2, 40),
  (yJ6_intValue_8abf5, cJ6_intValue_8abf5, 1, (some .int), false, 0, 8, 0, 0),
  (yJ9_abs_0f7a4, cJ9_abs_0f7a4, 1, (some .int), true, 1, 99, 0, 0),
  (yJ9_max_7cf53, cJ9_max_7cf53, 2, (some .int), true, 2, 99, 0, 0),
  (yJ9_min_7cf53, cJ9_min_7cf53, 2, (some .int), true, 2, 99, 0, 0),
  (yJxd2413_init_da8c8, cJxd2413_init_da8c8, 1, none, false, 0, 8, 1, 20),
  (yJxa1e45_init_da8c8, cJxa1e45_init_da8c8, 1, none, false, 0, 9, 1, 20),
  (yJxc12de_init_da8c8, cJxc12de_init_da8c8, 1, none, false, 0, 9, 2, 40),
  (yJx4a65c_init_da8c8, cJx4a65c_init_da8c8, 1, none, false, 0, 9, 3, 60),
  (yJx4a65c_grow_92f84, cJx4a65c_grow_92f84, 4, (some (.array (.object "java/lang/Object"))), false, 1, 9, 3, 84),
  (yJx4a65c_grow_d5877, cJx4a65c_grow_d5877, 1, (some (.array (.object "java/lang/Object"))), false, 0, 9, 4, 107),
  (yJx4a65c_size_8abf5, cJx4a65c_size_8abf5, 1, (some .int), false, 0, 9, 0, 0),
  (yJx4a65c_elementData_915e3, cJx4a65c_elementData_915e3, 2, (some (.object "java/lang/Object")), false, 1, 9, 0, 0),
  (yJx4a65c_get_915e3, cJx4a65c_get_915e3, 2, (some (.object "java/lang/Object")), false, 1, 9, 2, 43),
  (yJx4a65c_add_72be8, cJx4a65c_add_72be8, 4, none, false, 3, 9, 5, 127),
  (yJx4a65c_add_9ea2d, cJx4a65c_add_9ea2d, 2, (some .boolean), false, 1, 9, 6, 150),
  (yJ7_copyOf_1904c, cJ7_copyOf_1904c, 2, (some (.array (.object "java/lang/Object"))), true, 2, 99, 2, 63),
  (yJ7_copyOf_6403c, cJ7_copyOf_6403c, 4, (some (.array (.object "java/lang/Object"))), true, 3, 99, 1, 40),
  (yJ15_checkIndex_7cf53, cJ15_checkIndex_7cf53, 2, (some .int), true, 2, 99, 1, 22),
  (yJ8_newLength_cabcc, cJ8_newLength_cabcc, 4, (some .int), true, 3, 99, 1, 22),
  (yJ8_hugeLength_7cf53, cJ8_hugeLength_7cf53, 3, (some .int), true, 2, 99, 0, 0),
  (yJ3_checkIndex_8e157, cJ3_checkIndex_8e157, 3, (some .int), true, 3, 99, 0, 0),
  (yL_fresh, cL_fresh, 7, (some .int), true, 6, 99, 3, 68),
  (yL_dot, cL_dot, 7, (some .int), true, 6, 99, 3, 71),
  (yL_box, cL_box, 9, (some .int), true, 8, 99, 4, 112),
  (yL_disc, cL_disc, 8, (some .int), true, 7, 99, 4, 113),
  (yL_shade, cL_shade, 7, (some .int), true, 6, 99, 3, 73),
  (yL_copy, cL_copy, 5, (some .int), true, 4, 99, 3, 86),
  (yL_mix, cL_mix, 6, (some .int), true, 5, 99, 4, 109),
  (yL_turn, cL_turn, 5, (some .int), true, 4, 99, 4, 95),
  (yL_kernel, cL_kernel, 5, (some .int), true, 4, 99, 2, 45),
  (yL_divide, cL_divide, 5, (some .int), true, 4, 99, 3, 65),
  (yL_filter, cL_filter, 5, (some .int), true, 4, 99, 6, 140),
  (yL_values, cL_values, 5, (some .int), true, 4, 99, 5, 111),
  (yL_value, cL_value, 6, (some .int), true, 5, 99, 3, 69),
  (yL_sheet, cL_sheet, 5, (some .int), true, 4, 99, 4, 88),
  (yL_count, cL_count, 6, (some .int), true, 5, 99, 2, 48),
  (yL_ordered, cL_ordered, 5, (some .int), true, 4, 99, 3, 65),
  (yL_difference, cL_difference, 5, (some .int), true, 4, 99, 2, 47),
  (yL_parts, cL_parts, 5, (some .int), true, 4, 99, 6, 145),
  (yL_holes, cL_holes, 5, (some .int), true, 4, 99, 6, 145),
  (yL_partOf, cL_partOf, 7, (some .int), true, 6, 99, 5, 124),
  (yL_part, cL_part, 7, (some .int), true, 6, 99, 5, 124),
  (yL_keep, cL_keep, 5, (some .int), true, 4, 99, 5, 124),
  (yL_far, cL_far, 7, (some .int), true, 6, 99, 5, 121),
  (yL_spread, cL_spread, 5, (some .int), true, 4, 99, 5, 123),
  (yL_carve, cL_carve, 4, (some .int), true, 3, 99, 5, 115),
  (yL_widen, cL_widen, 4, (some .int), true, 3, 99, 5, 115),
  (yL_seam, cL_seam, 5, (some .int), true, 4, 99, 5, 116),
  (yL_partsAt, cL_partsAt, 6, (some .int), true, 5, 99, 6, 146),
  (yL_carvedBy, cL_carvedBy, 5, (some .int), true, 4, 99, 6, 140),
  (yL_law, cL_law, 9, (some .boolean), true, 1, 99, 10, 262)]
def m_inf (M : Nat) : m_N := m_infs.getD M (yL_law, cL_law, 0, none, true, 0, 99, 0, 0)
def m_mpls : List (Nat × Nat × Nat × Nat) := [(113, 48, 112, 0), (619, 48, 617, 618), (623, 48, 622, 15), (628, 48, 627, 16), (633, 48, 632, 17), (637, 48, 636, 18), (641, 48, 640, 19), (645, 48, 644, 20), (650, 48, 649, 21), (658, 48, 657, 22), (653, 48, 652, 0), (156, 50, 155, 0), (282, 50, 280, 281), (286, 50, 285, 3), (294, 50, 293, 4), (298, 50, 297, 5), (302, 50, 301, 6), (290, 50, 288, 289), (791, 50, 789, 790), (310, 50, 308, 309), (766, 50, 764, 765), (778, 50, 777, 29), (770, 50, 769, 27), (774, 50, 773, 28), (190, 51, 189, 0), (318, 51, 316, 317), (338, 51, 337, 9), (321, 51, 320, 0), (342, 51, 341, 10), (363, 51, 361, 362), (823, 51, 821, 822), (85, 47, 84, 0), (248, 47, 246, 247), (356, 47, 354, 355), (325, 47, 323, 324), (368, 47, 366, 367), (264, 47, 262, 263), (554, 47, 552, 553), (526, 47, 524, 525), (352, 47, 350, 351), (140, 49, 139, 0), (244, 49, 242, 243), (694, 49, 692, 693), (671, 49, 669, 670), (675, 49, 674, 23), (679, 49, 678, 24), (685, 49, 684, 25), (689, 49, 688, 26), (252, 49, 250, 251), (260, 49, 258, 259), (256, 49, 254, 255), (269, 49, 267, 268), (76, 46, 75, 0), (398, 46, 396, 397), (503, 46, 501, 502), (518, 46, 516, 517), (533, 46, 531, 532), (540, 46, 538, 539), (550, 46, 548, 549), (562, 46, 560, 561), (588, 46, 586, 587), (601, 46, 599, 600), (608, 46, 606, 607), (615, 46, 613, 614), (667, 46, 665, 666), (701, 46, 699, 700), (708, 46, 706, 707), (715, 46, 713, 714), (722, 46, 720, 721), (730, 46, 728, 729), (737, 46, 735, 736), (747, 46, 745, 746), (754, 46, 752, 753), (762, 46, 760, 761), (787, 46, 785, 786), (798, 46, 796, 797), (805, 46, 803, 804), (812, 46, 810, 811), (819, 46, 817, 818), (830, 46, 828, 829), (837, 46, 835, 836), (844, 46, 842, 843), (231, 46, 229, 230), (402, 46, 401, 12), (506, 46, 505, 0), (509, 46, 508, 0), (479, 46, 478, 0), (565, 46, 564, 0), (473, 46, 472, 0), (476, 46, 475, 0), (543, 46, 542, 0), (740, 46, 739, 0), (522, 46, 521, 14), (591, 46, 590, 0), (594, 46, 593, 0), (240, 46, 239, 1), (278, 46, 277, 2), (306, 46, 305, 7), (376, 46, 375, 0), (380, 46, 379, 0), (388, 46, 387, 0), (383, 46, 382, 0), (348, 46, 347, 11), (273, 46, 272, 0), (236, 46, 235, 0), (314, 46, 313, 8), (372, 46, 371, 0), (860, 53, 859, 0), (855, 53, 854, 0), (948, 53, 946, 947), (960, 53, 958, 959), (931, 53, 929, 930), (935, 53, 933, 934), (956, 53, 954, 955), (993, 53, 991, 992), (1069, 53, 1067, 1068), (1040, 53, 1039, 0), (985, 53, 983, 984), (1077, 53, 1075, 1076), (1030, 53, 1028, 1029), (1026, 53, 1024, 1025), (1037, 53, 1035, 1036), (1046, 53, 1044, 1045), (1052, 53, 1050, 1051), (1081, 53, 1079, 1080), (1065, 53, 1063, 1064), (1073, 53, 1071, 1072), (1087, 53, 1085, 1086), (1128, 53, 1126, 1127), (1255, 53, 1254, 0), (1269, 53, 1268, 40), (1263, 53, 1261, 1262), (1281, 53, 1279, 1280), (1285, 53, 1284, 41), (1293, 53, 1291, 1292), (973, 53, 972, 0), (1302, 53, 1300, 1301), (1328, 53, 1327, 43), (1323, 53, 1322, 42), (1319, 53, 1317, 1318), (1315, 53, 1313, 1314), (1341, 53, 1339, 1340), (981, 52, 980, 0), (849, 52, 848, 0), (894, 52, 892, 893), (908, 52, 907, 0), (916, 52, 915, 32), (912, 52, 911, 31), (905, 52, 904, 0), (902, 52, 901, 30), (927, 52, 926, 33), (919, 52, 918, 0), (952, 52, 951, 34), (898, 52, 896, 897), (923, 52, 921, 922), (964, 52, 962, 963), (970, 52, 968, 969), (978, 52, 976, 977), (989, 52, 987, 988), (997, 52, 995, 996), (1004, 52, 1003, 0), (1001, 52, 999, 1000), (1010, 52, 1008, 1009), (1014, 52, 1012, 1013), (1022, 52, 1021, 35), (1018, 52, 1016, 1017), (1061, 52, 1060, 0), (1058, 52, 1056, 1057), (1091, 52, 1089, 1090), (1098, 52, 1097, 0), (1095, 52, 1093, 1094), (1103, 52, 1101, 1102), (1108, 52, 1106, 1107), (1112, 52, 1110, 1111), (1121, 52, 1120, 36), (1124, 52, 1123, 0), (1117, 52, 1115, 1116), (1259, 52, 1257, 1258), (1273, 52, 1271, 1272), (1277, 52, 1275, 1276), (1289, 52, 1287, 1288), (1298, 52, 1296, 1297), (1307, 52, 1305, 1306), (1332, 52, 1331, 44), (1311, 52, 1309, 1310), (1337, 52, 1335, 1336), (1345, 52, 1343, 1344), (1349, 52, 1347, 1348), (1356, 52, 1355, 0), (1353, 52, 1351, 1352), (1364, 52, 1363, 0), (1360, 52, 1358, 1359), (1157, 66, 1156, 0), (1166, 66, 1165, 0), (1251, 66, 1249, 1250), (334, 59, 333, 0), (331, 59, 330, 0), (328, 59, 327, 0), (1169, 65, 1168, 0), (1139, 62, 1138, 0), (1136, 63, 1135, 0), (1133, 64, 1132, 0), (1190, 64, 1189, 39), (1186, 64, 1185, 38), (1232, 64, 1230, 1231), (1246, 64, 1244, 1245), (1236, 64, 1234, 1235), (1182, 64, 1181, 37), (1178, 64, 1176, 1177), (1201, 69, 1200, 0), (1221, 69, 1220, 0), (1239, 70, 1238, 0), (1193, 68, 1192, 0), (1198, 68, 1197, 0), (1242, 71, 1241, 0), (392, 45, 391, 0), (499, 45, 498, 0), (514, 45, 513, 0), (529, 45, 528, 0), (536, 45, 535, 0), (546, 45, 545, 0), (557, 45, 556, 0), (584, 45, 583, 0), (597, 45, 596, 0), (604, 45, 603, 0), (611, 45, 610, 0), (663, 45, 662, 0), (697, 45, 696, 0), (704, 45, 703, 0), (711, 45, 710, 0), (718, 45, 717, 0), (726, 45, 725, 0), (733, 45, 732, 0), (743, 45, 742, 0), (750, 45, 749, 0), (758, 45, 757, 0), (783, 45, 782, 0), (794, 45, 793, 0), (801, 45, 800, 0), (808, 45, 807, 0), (815, 45, 814, 0), (826, 45, 825, 0), (833, 45, 832, 0), (840, 45, 839, 0), (0, 45, 0, 0)]
def m_cl : List vw_C := [(RX0, TX0, 5), (RX1, TX1, 8), (RX2, TX2, 4), (RX3, TX3, 3), (RX4, TX4, 3), (RX5, TX5, 6), (RX6, TX6, 3), (RX7, TX7, 5), (RJ6, TJ6, 1), (RJx4a65c, TJx4a65c, 3)]
def m_fty (ci k : Nat) : FieldType := match ci with
  | 0 => tyX0 k
  | 1 => tyX1 k
  | 2 => tyX2 k
  | 3 => tyX3 k
  | 4 => tyX4 k
  | 5 => tyX5 k
  | 6 => tyX6 k
  | 7 => tyX7 k
  | 8 => tyJ6 k
  | _ => tyJx4a65c k
def m_cpl : List (Nat × Nat × List Nat) := [(110, 48, [125, 127, 129, 131, 133]), (153, 50, [168, 170, 172, 174, 176, 178, 180, 182]), (187, 51, [200, 202, 204, 206]), (82, 47, [101, 103, 105]), (137, 49, [145, 147, 149]), (73, 46, [215, 217, 219, 221, 223, 225]), (857, 53, [868, 870, 872]), (846, 52, [880, 882, 884, 886, 888]), (1163, 66, [1172]), (1130, 64, [1152, 1148, 1150])]
def m_nest : List Cond := [.methodLinkNest "ParallaxSheets" 15 ⟨"ParallaxSheets$Sheet", "<init>", "()V"⟩ "ParallaxSheets", .methodLinkNest "ParallaxSheets$Filters" 27 ⟨"ParallaxSheets$Sheet", "<init>", "()V"⟩ "ParallaxSheets", .methodLinkNest "ParallaxSheets" 29 ⟨"ParallaxSheets$Tones", "<init>", "()V"⟩ "ParallaxSheets", .methodLinkNest "ParallaxSheets" 36 ⟨"ParallaxSheets$Parts", "<init>", "()V"⟩ "ParallaxSheets", .methodLinkNest "ParallaxSheets" 43 ⟨"ParallaxSheets$Seams", "<init>", "()V"⟩ "ParallaxSheets", .methodLinkNest "ParallaxSheets$Seams" 24 ⟨"ParallaxSheets$Sheet", "<init>", "()V"⟩ "ParallaxSheets", .methodLinkNest "ParallaxSheetsModel" 92 ⟨"ParallaxSheetsModel$Sheet", "apart", "(III)I"⟩ "ParallaxSheetsModel", .methodLinkNest "ParallaxSheetsModel$Sheet" 54 ⟨"ParallaxSheetsModel", "bound", "(I)I"⟩ "ParallaxSheetsModel"]
def m_mathpl : List (Nat × Nat) := [(330, 331), (327, 328), (333, 334), (358, 359)]
def m_miscpl : Nat × Nat × Nat × Nat := (59, 60, 78, 79)
/-- the exception tables: from, to, handler, the exception caught (0, 1, 2 as at the throw sites) -/
def m_ht : Nat → List (Nat × Nat × Nat × Nat)
  | 215 => [(0, 14, 17, 0), (0, 14, 21, 1)]
  | 216 => [(0, 14, 17, 0), (0, 14, 21, 1)]
  | 217 => [(0, 18, 21, 0), (0, 18, 25, 1)]
  | 218 => [(0, 16, 19, 0), (0, 16, 23, 1)]
  | 219 => [(0, 14, 17, 0), (0, 14, 21, 1)]
  | 220 => [(0, 10, 13, 0)]
  | 221 => [(0, 12, 15, 0), (0, 12, 19, 1), (0, 12, 23, 2)]
  | 222 => [(0, 10, 13, 0), (0, 10, 17, 1), (0, 10, 21, 2)]
  | 223 => [(0, 10, 13, 0), (0, 10, 17, 1)]
  | 224 => [(0, 10, 13, 1)]
  | 225 => [(0, 10, 13, 0), (0, 10, 17, 1)]
  | 226 => [(0, 10, 13, 0), (0, 10, 17, 1)]
  | 227 => [(0, 12, 15, 0)]
  | 228 => [(0, 10, 13, 0), (0, 10, 17, 1)]
  | 229 => [(0, 12, 15, 0)]
  | 230 => [(0, 10, 13, 0)]
  | 231 => [(0, 9, 12, 0), (0, 9, 16, 2)]
  | 232 => [(0, 10, 13, 0), (0, 10, 17, 1)]
  | 233 => [(0, 10, 13, 0), (0, 10, 17, 1)]
  | 234 => [(0, 14, 17, 0), (0, 14, 21, 1)]
  | 235 => [(0, 14, 17, 0), (0, 14, 21, 1)]
  | 236 => [(0, 10, 13, 0), (0, 10, 17, 1)]
  | 237 => [(0, 14, 17, 0), (0, 14, 21, 1)]
  | 238 => [(0, 10, 13, 0), (0, 10, 17, 1)]
  | 239 => [(0, 9, 12, 0), (0, 9, 15, 2)]
  | 240 => [(0, 9, 12, 0), (0, 9, 15, 2)]
  | 241 => [(0, 10, 13, 0)]
  | 242 => [(0, 12, 15, 0), (0, 12, 19, 1)]
  | 243 => [(0, 10, 13, 0), (0, 10, 17, 1)]
  | _ => []
end
section
/-! the machine over worlds: a run of the program's data over abstract cells; below, that the real machine does the same -/
def m_gw : List Cond := lw_tbl.filter goodWord
def m_wp (i : Nat) (w : Cond) : Bool := decide (lw_tbl[i]? = some w) && goodWord w
theorem m_wp_in {i : Nat} {w : Cond} (h : m_wp i w = true) : w ∈ m_gw := by
  simp only [m_wp, Bool.and_eq_true, decide_eq_true_eq] at h
  exact List.mem_filter.mpr ⟨List.mem_of_getElem? h.1, h.2⟩
def m_nm (M : Nat) : MethodName := (m_inf M).1
def m_by (M : Nat) : ByteArray := (m_inf M).2.1
def m_nL (M : Nat) : Nat := (m_inf M).2.2.1
def m_rt (M : Nat) : Option FieldType := (m_inf M).2.2.2.1
def m_stc (M : Nat) : Bool := (m_inf M).2.2.2.2.1
def m_na (M : Nat) : Nat := (m_inf M).2.2.2.2.2.1
def m_rc (M : Nat) : Nat := (m_inf M).2.2.2.2.2.2.1
def m_fr (M : Nat) : Nat := (m_inf M).2.2.2.2.2.2.2.1
def m_lo (M : Nat) : Nat := (m_inf M).2.2.2.2.2.2.2.2
def m_code (M pc : Nat) : Option (Instr × Nat × Nat × Nat × Int) := ((m_prog M).find? (fun q => q.1 == pc)).map (fun q => q.2)
def m_ty : Nat → FieldType
  | 0 => .int
  | 1 => .boolean
  | 2 => .object "ParallaxSheets$Sheet"
  | 3 => .long
  | 4 => .double
  | 5 => .object "ParallaxSheetsModel$Sheet"
  | _ => .object "java/lang/Object"
def m_len (i : Instr) (z : Int) : Nat := match i with
  | .bipush _ => 2
  | .ldc _ => 2
  | .iload _ => 2
  | .istore _ => 2
  | .lload _ => 2
  | .lstore _ => 2
  | .aload _ => 2
  | .astore _ => 2
  | .newarray _ => 2
  | .sipush _ => 3
  | .getfield _ => 3
  | .putfield _ => 3
  | .invokevirtual _ => 3
  | .invokespecial _ => 3
  | .invokestatic _ => 3
  | .new _ => 3
  | .anewarray _ => 3
  | .goto _ => 3
  | .ifCond _ _ => 3
  | .if_icmp _ _ => 3
  | .iinc _ _ => 3
  | .ldc2_w _ => 3
  | .dload _ => 2
  | .dstore _ => 2
  | .getstatic _ => 3
  | .checkcast _ => 3
  | .if_acmp _ _ => 3
  | .tableswitch _ _ _ _ => z.toNat
  | .lookupswitch _ _ => z.toNat
  | _ => 1
/-- what a callee's words must be, by their places -/
def m_okM (x : Nat) : Bool :=
  let nm := m_nm x
  let pl := m_mpls.getD x (0, 0, 0, 0)
  m_wp pl.1 (.code nm (m_by x) (m_nL x) (m_rt x)) && m_wp pl.2.1 (.initialized nm.cls) &&
    (if m_stc x = true then m_wp pl.2.2.1 (.static nm) else
      m_wp pl.2.2.1 (.instanceMethod nm) && decide ((m_cl[m_rc x]?).map (fun r => r.1) = some nm.cls) && (decide (nm.name = "<init>") || m_wp pl.2.2.2 (.selects nm.cls nm nm))) &&
    decide (nm.cls ≠ "java/lang/invoke/MethodHandle") && decide (nm.cls ≠ "java/lang/invoke/VarHandle") && decide ((parseMethodDescriptor nm.desc).map (fun d => d.parameters.length) = some (m_na x)) && plainName nm.cls
def m_okC (M : Nat) (k x y w : Nat) : Bool :=
  (if w = 1 then m_wp y (.methodLink (m_nm M).cls k (m_nm x)) else decide (w = 2) && m_nest.any (fun u => decide (u = .methodLinkNest (m_nm M).cls k (m_nm x) "ParallaxSheets"))) && decide (m_fr x + 1 ≤ m_fr M) && decide (8 + (m_nL x + 11) + m_lo x ≤ m_lo M) && decide (x < 244)
def m_okF (M k x y z : Nat) : Bool := match m_cl[x]? with
  | some r => decide (y < r.2.2) && m_wp z (.fieldLink (m_nm M).cls k (r.2.1 y).1 (r.2.1 y).2.1 (r.2.1 y).2.2.1)
  | none => false
def m_okP (M x y : Nat) : Bool := match m_cl[x]? with
  | some r => decide ((r.2.1 y).2.2.2 = false) || (decide ((r.2.1 y).2.2.2 = true) && decide ((m_nm M).name = "<init>") && decide ((r.2.1 y).1 = (m_nm M).cls))
  | none => false
def m_okN (M k x y : Nat) : Bool := match m_cl[x]?, m_cpl[x]? with
  | some r, some pl => m_wp y (.classLink (m_nm M).cls k r.1) && m_wp pl.1 (.instantiable r.1 r.2.2) && m_wp pl.2.1 (.initialized r.1)
  | _, _ => false
/-- what an instruction's row must be -/
def m_okE (M : Nat) (q : m_I) : Bool := match q with
  | (pc, i, x, y, w, z) => decide (decode (m_by M) pc = .ok (i, m_len i z)) && (match i with
    | .istore_n k => decide ((k : Nat) < m_nL M)
    | .istore k => decide (k < m_nL M)
    | .astore_n k => decide ((k : Nat) < m_nL M)
    | .astore k => decide (k < m_nL M)
    | .lstore_n k => decide ((k : Nat) + 1 < m_nL M)
    | .lstore k => decide (k + 1 < m_nL M)
    | .iinc k _ => decide (k < m_nL M)
    | .getfield k => m_okF M k x y z.toNat
    | .putfield k => m_okF M k x y z.toNat && m_okP M x y
    | .ifCond _ off => decide ((pc : Int) + off = (x : Int))
    | .if_icmp _ off => decide ((pc : Int) + off = (x : Int))
    | .goto off => decide ((pc : Int) + off = (x : Int))
    | .lookupswitch _ ps => (ps.toList.zip (ps.toList.drop 1)).all (fun (a, next) => a.1 < next.1)
    | .new k => m_okN M k x y
    | .newarray t => decide (x < 2) && decide (newarray.typeOf t = m_ty x) && m_wp y (.arrayClass (m_ty x))
    | .anewarray k => decide (x = 2) && m_wp y (.classLink (m_nm M).cls k "ParallaxSheets$Sheet")
    | .ldc k => m_wp y (.constant (m_nm M).cls k (Int32.ofInt z))
    | .ldc2_w k => m_wp y (.constantLong (m_nm M).cls k (Int64.ofInt z))
    | .invokevirtual k => decide (w = 1) && m_okC M k x y w && decide (m_stc x = false) && decide ((m_nm x).name ≠ "<init>")
    | .invokestatic k => if w = 3 then m_wp y (.methodLink (m_nm M).cls k Lib.Math.max.name) && decide (1 ≤ m_fr M) && decide (21 ≤ m_lo M)
        else if w = 4 then m_wp y (.methodLink (m_nm M).cls k Lib.Math.min.name) && decide (1 ≤ m_fr M) && decide (21 ≤ m_lo M)
        else if w = 5 then m_wp y (.methodLink (m_nm M).cls k Lib.Math.abs.name) && decide (1 ≤ m_fr M) && decide (21 ≤ m_lo M)
        else if w = 6 then m_wp y (.methodLink (m_nm M).cls k arraycopyName) && decide (1 ≤ m_fr M) && decide (8 + (nativeFrameWords "java/lang/System" "arraycopy" 5 + 11) ≤ m_lo M)
        else decide (w = 1) && m_okC M k x y w && decide (m_stc x = true)
    | .invokespecial k => if w = 7 then m_wp y (.methodLink (m_nm M).cls k Lib.objectInit) && decide (1 ≤ m_fr M) && decide (20 ≤ m_lo M)
        else m_okC M k x y w && decide (m_stc x = false) && decide ((m_nm x).name = "<init>") && decide (m_rt x = none)
    | _ => true)
/-! abstract cells: an array of a kind with its contents, or an object of a kind with its fields; a reference k + 1 is the cell k, the reference 0 is the script -/
abbrev mC : Type := (Nat × List Value) ⊕ (Nat × List Value)
abbrev mL : Type := List (Nat × Value)
abbrev mS : Type := Nat × mL × List Value × List mC
def m_get (H : List mC) (r : Nat) : Option mC := match r with
  | 0 => none
  | k + 1 => H[k]?
def m_set (H : List mC) (r : Nat) (c : mC) : List mC := match r with
  | 0 => H
  | k + 1 => H.set k c
def m_p0 : Nat := 1000000
def m_pre (i : Nat) : Option mC :=
  if i = 0 then some (.inl (6, []))
  else if i = 1 then some (.inl (0, [.int 1, .int 3, .int 4, .int 5, .int 7]))
  else if i = 2 then some (.inl (0, [.int 0, .int 1, .int 2, .int 3, .int 4, .int 5, .int 6, .int 7, .int 8]))
  else if i = 3 then some (.inl (7, (List.range 256).map (fun k => .ref (m_p0 + 5 + k))))
  else if 5 ≤ i ∧ i < 261 then some (.inr (8, [.int (Int32.ofInt ((i : Int) - 133))]))
  else none
/-- a cell, also of what was there before -/
def m_gt (H : List mC) (r : Nat) : Option mC := match m_get H r with
  | some c => some c
  | none => if m_p0 ≤ r then m_pre (r - m_p0) else none
def m_ld (L : mL) (i : Nat) : Option Value := (L.find? (fun q => q.1 == i)).map (fun q => q.2)
def m_ins (i : Nat) (v : Value) : mL → mL
  | [] => [(i, v)]
  | q :: L => if i < q.1 then (i, v) :: q :: L else q :: m_ins i v L
def m_st1 (i : Nat) (v : Value) (L : mL) : mL := m_ins i v (L.filter (fun q => !(q.1 == i) && !(q.1 + 1 == i && q.2.category == 2)))
def m_st2 (i : Nat) (v : Value) (L : mL) : mL := m_ins i v (L.filter (fun q => !(q.1 == i) && (!(q.1 == i + 1) && !(q.1 + 1 == i && q.2.category == 2))))
def m_isI : Value → Bool
  | .int _ => true
  | _ => false
def m_isL : Value → Bool
  | .long _ => true
  | _ => false
def m_isD : Value → Bool
  | .double _ => true
  | _ => false
def m_isA : Value → Bool
  | .ref _ => true
  | _ => false
def m_lv (f : Value → Bool) (i pc' : Nat) (L : mL) (S : List Value) (H : List mC) : Option mS := match m_ld L i with
  | some v => if f v = true then some (pc', L, v :: S, H) else none
  | none => none
def m_sv1 (f : Value → Bool) (i pc' : Nat) (L : mL) (S : List Value) (H : List mC) : Option mS := match S with
  | v :: S' => if f v = true then some (pc', m_st1 i v L, S', H) else none
  | [] => none
def m_sv2 (f : Value → Bool) (i pc' : Nat) (L : mL) (S : List Value) (H : List mC) : Option mS := match S with
  | v :: S' => if f v = true then some (pc', m_st2 i v L, S', H) else none
  | [] => none
def m_b2 (f : Int32 → Int32 → Int32) (pc : Nat) (L : mL) (S : List Value) (H : List mC) : Option mS := match S with
  | .int b :: .int a :: S' => some (pc + 1, L, .int (f a b) :: S', H)
  | _ => none
def m_d2 (f : Int32 → Int32 → Int32) (pc : Nat) (L : mL) (S : List Value) (H : List mC) : Option mS := match S with
  | .int b :: .int a :: S' => if b = 0 then none else some (pc + 1, L, .int (f a b) :: S', H)
  | _ => none
def m_l2 (f : Int64 → Int64 → Int64) (pc : Nat) (L : mL) (S : List Value) (H : List mC) : Option mS := match S with
  | .long b :: .long a :: S' => some (pc + 1, L, .long (f a b) :: S', H)
  | _ => none
def m_cmp (c : ClassFile.Cond) (a b : Int32) : Bool := match c with
  | .eq => decide (a = b)
  | .ne => decide (¬ a = b)
  | .lt => decide (a < b)
  | .ge => decide (b ≤ a)
  | .gt => decide (b < a)
  | .le => decide (a ≤ b)
def m_fit (ty : FieldType) (v : Value) : Bool := match ty, v with
  | .int, .int _ => true
  | .object _, .ref _ => true
  | .array _, .ref _ => true
  | _, _ => false
def m_gf (H : List mC) (r x y : Nat) : Option Value := match m_gt H r with
  | some (.inr (ci, fs)) => if ci = x then fs[y]? else none
  | _ => none
def m_pf (H : List mC) (r x y : Nat) (v : Value) : Option (List mC) := match m_get H r with
  | some (.inr (ci, fs)) => if ci = x ∧ y < fs.length ∧ m_fit (m_fty x y) v = true then some (m_set H r (.inr (ci, fs.set y v))) else none
  | _ => none
def m_ra (H : List mC) (r t : Nat) (i : Int32) : Option Value := match m_gt H r with
  | some (.inl (u, vs)) => if u = t ∧ 0 ≤ i then vs[i.toNatClampNeg]? else none
  | _ => none
def m_wa (H : List mC) (r t : Nat) (i : Int32) (v : Value) : Option (List mC) := match m_get H r with
  | some (.inl (u, vs)) => if u = t ∧ 0 ≤ i ∧ i.toNatClampNeg < vs.length then some (m_set H r (.inl (u, vs.set i.toNatClampNeg v))) else none
  | _ => none
def m_jmp (pc : Nat) (off : Int) (L : mL) (S : List Value) (H : List mC) : Option mS := if 0 ≤ (pc : Int) + off then some (((pc : Int) + off).toNat, L, S, H) else none
def m_cat (S : List Value) : Nat := (S.map fun v => v.category).sum
def m_cpy (f g : List Value) (sp dp n : Nat) : List Value := (List.range g.length).map (fun k => if dp ≤ k ∧ k < dp + n then f.getD (sp + (k - dp)) .null else g.getD k .null)
def m_ints (vs : List Value) : Bool := vs.all m_isI
def m_cp (H : List mC) (r0 r : Nat) (sp dp n : Int32) : Option (List mC) := match m_get H r0, m_get H r with
  | some (.inl (u0, f)), some (.inl (u1, g)) => if u0 = u1 ∧ (u0 = 0 ∨ u0 = 6) ∧ 0 ≤ sp ∧ 0 ≤ dp ∧ 0 ≤ n ∧ sp.toNatClampNeg + n.toNatClampNeg ≤ f.length ∧ dp.toNatClampNeg + n.toNatClampNeg ≤ g.length then
      some (m_set H r (.inl (u1, m_cpy f g sp.toNatClampNeg dp.toNatClampNeg n.toNatClampNeg))) else none
  | _, _ => none
def m_math (w pc : Nat) (L : mL) (S : List Value) (H : List mC) : Option mS :=
  if w = 3 then (match S with
    | .int b :: .int a :: S' => if m_cat S' ≤ 8 then some (pc + 3, L, .int (if a < b then b else a) :: S', H) else none
    | _ => none)
  else if w = 4 then (match S with
    | .int b :: .int a :: S' => if m_cat S' ≤ 8 then some (pc + 3, L, .int (if b < a then b else a) :: S', H) else none
    | _ => none)
  else if w = 5 then (match S with
    | .int a :: S' => if m_cat S' ≤ 8 then some (pc + 3, L, .int (if 0 ≤ a then a else 0 - a) :: S', H) else none
    | _ => none)
  else if w = 6 then (match S with
    | .int n :: .int dp :: .ref r :: .int sp :: .ref r0 :: S' => if m_cat S' ≤ 8 then (m_cp H r0 r sp dp n).map (fun H1 => (pc + 3, L, S', H1)) else none
    | _ => none)
  else none
/-- one instruction that is no call and no return -/
def m_ex (scr : List Int32) (M pc : Nat) (i : Instr) (x y w : Nat) (z : Int) (L : mL) (S : List Value) (H : List mC) : Option mS := match i with
  | .iconst n => some (pc + 1, L, .int (Int32.ofInt n) :: S, H)
  | .bipush n => some (pc + 2, L, .int (Int8.ofInt n).toInt32 :: S, H)
  | .sipush n => some (pc + 3, L, .int (Int16.ofInt n).toInt32 :: S, H)
  | .lconst n => some (pc + 1, L, .long (Int64.ofNat (n : Nat)) :: S, H)
  | .dconst d => if d = 0 then some (pc + 1, L, .double FP.dconst0 :: S, H) else none
  | .ldc _ => if w = 14 then some (pc + 2, L, .ref (m_p0 + 4) :: S, H) else some (pc + 2, L, .int (Int32.ofInt z) :: S, H)
  | .ldc2_w _ => some (pc + 3, L, .long (Int64.ofInt z) :: S, H)
  | .iload_n k => m_lv m_isI k (pc + 1) L S H
  | .iload k => m_lv m_isI k (pc + 2) L S H
  | .lload_n k => m_lv m_isL k (pc + 1) L S H
  | .lload k => m_lv m_isL k (pc + 2) L S H
  | .aload_n k => m_lv m_isA k (pc + 1) L S H
  | .aload k => m_lv m_isA k (pc + 2) L S H
  | .istore_n k => m_sv1 m_isI k (pc + 1) L S H
  | .istore k => m_sv1 m_isI k (pc + 2) L S H
  | .astore_n k => m_sv1 m_isA k (pc + 1) L S H
  | .astore k => m_sv1 m_isA k (pc + 2) L S H
  | .lstore_n k => m_sv2 m_isL k (pc + 1) L S H
  | .lstore k => m_sv2 m_isL k (pc + 2) L S H
  | .iinc k n => (match m_ld L k with
    | some (.int v) => some (pc + 3, m_st1 k (.int (v + Int32.ofInt n)) L, S, H)
    | _ => none)
  | .iadd => m_b2 (fun a b => a + b) pc L S H
  | .isub => m_b2 (fun a b => a - b) pc L S H
  | .imul => m_b2 (fun a b => a * b) pc L S H
  | .iand => m_b2 (fun a b => a &&& b) pc L S H
  | .ishr => m_b2 (fun a b => a >>> (b &&& 31)) pc L S H
  | .idiv => m_d2 (fun a b => a / b) pc L S H
  | .irem => m_d2 (fun a b => a - a / b * b) pc L S H
  | .ladd => m_l2 (fun a b => a + b) pc L S H
  | .lsub => m_l2 (fun a b => a - b) pc L S H
  | .lmul => m_l2 (fun a b => a * b) pc L S H
  | .ldiv => (match S with
    | .long b :: .long a :: S' => if b = 0 then none else some (pc + 1, L, .long (a / b) :: S', H)
    | _ => none)
  | .lcmp => (match S with
    | .long b :: .long a :: S' => some (pc + 1, L, .int (lg_cmp a b) :: S', H)
    | _ => none)
  | .i2l => (match S with
    | .int a :: S' => some (pc + 1, L, .long a.toInt64 :: S', H)
    | _ => none)
  | .i2d => (match S with
    | .int a :: S' => some (pc + 1, L, .double (FP.i2d a) :: S', H)
    | _ => none)
  | .ddiv => (match S with
    | .double b :: .double a :: S' => if FP.ddiv a b &&& 0x7fffffffffffffff ≤ 0x7ff0000000000000 then some (pc + 1, L, .double (FP.ddiv a b) :: S', H) else none
    | _ => none)
  | .dcmp op => (match S with
    | .double b :: .double a :: S' => some (pc + 1, L, .int (Op.cmpValue (FP.dcmp a b) op) :: S', H)
    | _ => none)
  | .dup => (match S with
    | v :: S' => if v.category = 1 then some (pc + 1, L, v :: v :: S', H) else none
    | _ => none)
  | .dup2 => (match S with
    | v :: u :: S' => if v.category = 1 ∧ u.category = 1 then some (pc + 1, L, v :: u :: v :: u :: S', H) else none
    | _ => none)
  | .pop => (match S with
    | v :: S' => if v.category = 1 then some (pc + 1, L, S', H) else none
    | _ => none)
  | .dload k => m_lv m_isD k (pc + 2) L S H
  | .dstore k => m_sv2 m_isD k (pc + 2) L S H
  | .ineg => (match S with
    | .int a :: S' => some (pc + 1, L, .int (0 - a) :: S', H)
    | _ => none)
  | .aconst_null => some (pc + 1, L, .null :: S, H)
  | .dup_x1 => (match S with
    | v :: u :: S' => if v.category = 1 ∧ u.category = 1 then some (pc + 1, L, v :: u :: v :: S', H) else none
    | _ => none)
  | .getstatic _ => if w = 11 then some (pc + 3, L, .ref (m_p0 + x) :: S, H) else if w = 12 then some (pc + 3, L, .int (Int32.ofInt z) :: S, H) else none
  | .laload => (match S with
    | .int j :: .ref r :: S' => (match m_ra H r 3 j with
      | some (.long v) => some (pc + 1, L, .long v :: S', H)
      | _ => none)
    | _ => none)
  | .daload => (match S with
    | .int j :: .ref r :: S' => (match m_ra H r 4 j with
      | some (.double v) => some (pc + 1, L, .double v :: S', H)
      | _ => none)
    | _ => none)
  | .lastore => (match S with
    | .long v :: .int j :: .ref r :: S' => (m_wa H r 3 j (.long v)).map (fun H1 => (pc + 1, L, S', H1))
    | _ => none)
  | .dastore => (match S with
    | .double v :: .int j :: .ref r :: S' => (m_wa H r 4 j (.double v)).map (fun H1 => (pc + 1, L, S', H1))
    | _ => none)
  | .checkcast _ => (match S with
    | .ref r :: S' => (match m_gt H r with
      | some (.inl (t, _)) => if (x = 0 ∧ t = 0) ∨ (x = 2 ∧ t = 6) then some (pc + 3, L, .ref r :: S', H) else none
      | some (.inr (c, _)) => if x = 1 ∧ c = 8 then some (pc + 3, L, .ref r :: S', H) else none
      | none => none)
    | _ => none)
  | .goto _ => some (x, L, S, H)
  | .ifCond c _ => (match S with
    | .int a :: S' => some (if m_cmp c a 0 = true then x else pc + 3, L, S', H)
    | _ => none)
  | .if_acmp c _ => (match S with
    | .ref b :: .ref a :: S' => some (if (c == .eq) == (a == b) then x else pc + 3, L, S', H)
    | _ => none)
  | .if_icmp c _ => (match S with
    | .int b :: .int a :: S' => some (if m_cmp c a b = true then x else pc + 3, L, S', H)
    | _ => none)
  | .tableswitch d lo hi offs => (match S with
    | .int a :: S' => if a.toInt < lo ∨ hi < a.toInt then m_jmp pc d L S' H else (match offs[(a.toInt - lo).toNat]? with
      | some off => m_jmp pc off L S' H
      | none => none)
    | _ => none)
  | .lookupswitch d ps => (match S with
    | .int a :: S' => m_jmp pc (Op.lookupswitch.offset ps.toList d a.toInt) L S' H
    | _ => none)
  | .getfield _ => (match S with
    | .ref r :: S' => (m_gf H r x y).map (fun v => (pc + 3, L, v :: S', H))
    | _ => none)
  | .putfield _ => (match S with
    | v :: .ref r :: S' => (m_pf H r x y v).map (fun H1 => (pc + 3, L, S', H1))
    | _ => none)
  | .iaload => (match S with
    | .int j :: .ref 0 :: S' => if 0 ≤ j then (scr[j.toNatClampNeg]?).map (fun v => (pc + 1, L, .int v :: S', H)) else none
    | .int j :: .ref r :: S' => (match m_ra H r 0 j with
      | some (.int v) => some (pc + 1, L, .int v :: S', H)
      | _ => none)
    | _ => none)
  | .baload => (match S with
    | .int j :: .ref r :: S' => (match m_ra H r 1 j with
      | some (.int v) => some (pc + 1, L, .int v :: S', H)
      | _ => none)
    | _ => none)
  | .aaload => (match S with
    | .int j :: .ref r :: S' => (match m_ra H r (match m_gt H r with
        | some (.inl (t, _)) => if t = 2 ∨ t = 5 ∨ t = 6 ∨ t = 7 then t else 99
        | _ => 99) j with
      | some (.ref v) => some (pc + 1, L, .ref v :: S', H)
      | _ => none)
    | _ => none)
  | .iastore => (match S with
    | .int v :: .int j :: .ref r :: S' => (m_wa H r 0 j (.int v)).map (fun H1 => (pc + 1, L, S', H1))
    | _ => none)
  | .bastore => (match S with
    | .int v :: .int j :: .ref r :: S' => (m_wa H r 1 j (.int (vp_nar .boolean v))).map (fun H1 => (pc + 1, L, S', H1))
    | _ => none)
  | .aastore => (match S with
    | .ref v :: .int j :: .ref r :: S' => (match m_gt H v with
      | some (.inr (3, _)) => (m_wa H r 2 j (.ref v)).map (fun H1 => (pc + 1, L, S', H1))
      | some (.inr (6, _)) => (m_wa H r 5 j (.ref v)).map (fun H1 => (pc + 1, L, S', H1))
      | some (.inr (8, _)) => (m_wa H r 6 j (.ref v)).map (fun H1 => (pc + 1, L, S', H1))
      | _ => none)
    | _ => none)
  | .arraylength => (match S with
    | .ref 0 :: S' => some (pc + 1, L, .int (Int32.ofNat scr.length) :: S', H)
    | .ref r :: S' => (match m_gt H r with
      | some (.inl (t, vs)) => if t < 8 then some (pc + 1, L, .int (Int32.ofNat vs.length) :: S', H) else none
      | _ => none)
    | _ => none)
  | .new _ => (match m_cl[x]? with
    | some r => some (pc + 3, L, .ref (H.length + 1) :: S, H ++ [.inr (x, (List.range r.2.2).map (fun k => defaultValue (m_fty x k)))])
    | none => none)
  | .newarray _ => (match S with
    | .int n :: S' => if 0 ≤ n ∧ n.toNatClampNeg ≤ 1000 then some (pc + 2, L, .ref (H.length + 1) :: S', H ++ [.inl (x, List.replicate n.toNatClampNeg (if x = 3 then .long 0 else if x = 4 then .double 0 else .int 0))]) else none
    | _ => none)
  | .anewarray _ => (match S with
    | .int n :: S' => if 0 ≤ n ∧ n.toNatClampNeg ≤ 1000 then some (pc + 3, L, .ref (H.length + 1) :: S', H ++ [.inl (x, List.replicate n.toNatClampNeg .null)]) else none
    | _ => none)
  | .invokestatic _ => m_math w pc L S H
  | .invokevirtual _ => if w = 10 then (match S with
      | .ref r :: S' => (match m_get H r with
        | some (.inl (0, vs)) => some (pc + 3, L, .ref (H.length + 1) :: S', H ++ [.inl (0, vs)])
        | _ => none)
      | _ => none)
    else if w = 13 then (match S with
      | .ref r :: S' => (match m_gt H r with
        | some (.inl (6, _)) => some (pc + 3, L, .ref (m_p0 + 4) :: S', H)
        | _ => none)
      | _ => none)
    else none
  | .invokespecial _ => if w = 7 then (match S with
    | .ref r :: S' => if m_cat S' ≤ 8 then some (pc + 3, L, S', H) else none
    | _ => none) else none
  | _ => none
def m_rts (i : Instr) (S : List Value) : Option (Option Value) := match i, S with
  | .ireturn, [.int v] => some (some (.int v))
  | .lreturn, [.long v] => some (some (.long v))
  | .dreturn, [.double v] => some (some (.double v))
  | .areturn, [.ref v] => some (some (.ref v))
  | .return_, [] => some none
  | _, _ => none
def m_rok (t : Option FieldType) (v : Option Value) : Bool := match t, v with
  | some .int, some (.int _) => true
  | some .boolean, some (.int v) => decide (narrow .boolean (.int v) = .int v)
  | some .long, some (.long _) => true
  | some .double, some (.double _) => true
  | some (.object _), some (.ref _) => true
  | some (.array _), some (.ref _) => true
  | none, none => true
  | _, _ => false
/-- the arguments off the stack, the receiver first, and what stays -/
def m_cut (x : Nat) (S : List Value) (H : List mC) : Option (List Value × List Value) :=
  if m_stc x = true then (if m_na x ≤ S.length ∧ m_cat (S.drop (m_na x)) ≤ 8 then some ((S.take (m_na x)).reverse, S.drop (m_na x)) else none)
  else match S.drop (m_na x) with
    | .ref r :: S' => (match m_gt H r with
      | some (.inr (ci, _)) => if ci = m_rc x ∧ m_cat S' ≤ 8 then some (.ref r :: (S.take (m_na x)).reverse, S') else none
      | _ => none)
    | _ => none
abbrev mR : Type := Option Value × List mC
abbrev mF : Type := Nat → Nat → mL → List Value → List mC → Option mR
def m_inv : Instr → Bool
  | .invokevirtual _ => true
  | .invokestatic _ => true
  | .invokespecial _ => true
  | _ => false
def m_thr (v : Option Value) : Option Nat := match v with
  | some (.float k) => some k.toNat
  | _ => none
def m_hd (M pc k : Nat) : Option Nat := ((m_ht M).find? (fun q => decide (q.1 ≤ pc) && decide (pc < q.2.1) && q.2.2.2 == k)).map (fun q => q.2.2.1)
def m_st (scr : List Int32) (ih : mF) : mF := fun M pc L S H => match m_code M pc with
  | none => none
  | some (i, x, y, w, z) => if w = 8 then some (some (.float (UInt32.ofNat x)), H ++ [.inr (99, List.replicate 6 .null)])
    else if (w = 1 ∨ w = 2) ∧ m_inv i = true then (match m_cut x S H with
      | some (as, S') => if m_cat as ≤ m_nL x then (match ih x 0 (lv_args 0 as) [] H with
        | some (v, H1) => (match m_thr v with
          | none => ih M (pc + 3) L (v.toList ++ S') H1
          | some k => (match m_hd M pc k with
            | some q => ih M q L [.ref H1.length] H1
            | none => some (v, H1)))
        | none => none) else none
      | none => none)
    else match m_rts i S with
      | some rv => if m_rok (m_rt M) rv = true then some (rv, H) else none
      | none => (match m_ex scr M pc i x y w z L S H with
        | some (pc', L', S', H') => ih M pc' L' S' H'
        | none => none)
def m_go (scr : List Int32) (n : Nat) : mF := Nat.rec (fun _ _ _ _ _ => none) (fun _ ih => m_st scr ih) n
theorem m_go_s (scr : List Int32) (n : Nat) : m_go scr (n + 1) = m_st scr (m_go scr n) := rfl
end
