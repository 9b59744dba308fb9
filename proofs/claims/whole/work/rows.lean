section
-- ===== PART A: goes FIRST, ahead of the names: the tables' words, and 'selects' of the private methods out of them =====
/-- a private method of a class that the tables say can be made, by its rows of tables_1 -/
def lw_okq (q : MethodName × Nat) : Prop := (q.1.cls ≠ "java/lang/invoke/MethodHandle" ∧ q.1.cls ≠ "java/lang/invoke/VarHandle") ∧ Cond.instantiable q.1.cls q.2 ∈ tables_1 ∧ Cond.privateMethod q.1 ∈ tables_1 ∧ Cond.instanceMethod q.1 ∈ tables_1
theorem lw_p0 : lw_okq (⟨"RuledTables", "found", "()LRuledTables$Finding;"⟩, 5) := ⟨⟨by decide +kernel, by decide +kernel⟩, List.mem_of_getElem? (i := 14) (by decide +kernel), List.mem_of_getElem? (i := 342) (by decide +kernel), List.mem_of_getElem? (i := 343) (by decide +kernel)⟩
theorem lw_p1 : lw_okq (⟨"RuledTables$Rules", "gather", "(LRuledTables$Rows;LRuledTables$Groups;)V"⟩, 3) := ⟨⟨by decide +kernel, by decide +kernel⟩, List.mem_of_getElem? (i := 97) (by decide +kernel), List.mem_of_getElem? (i := 381) (by decide +kernel), List.mem_of_getElem? (i := 382) (by decide +kernel)⟩
theorem lw_p2 : lw_okq (⟨"RuledTables$Rules", "sort", "()V"⟩, 3) := ⟨⟨by decide +kernel, by decide +kernel⟩, List.mem_of_getElem? (i := 97) (by decide +kernel), List.mem_of_getElem? (i := 397) (by decide +kernel), List.mem_of_getElem? (i := 398) (by decide +kernel)⟩
theorem lw_p3 : lw_okq (⟨"RuledTables$Rules", "tellPieces", "(ILRuledTables$Groups;)V"⟩, 3) := ⟨⟨by decide +kernel, by decide +kernel⟩, List.mem_of_getElem? (i := 97) (by decide +kernel), List.mem_of_getElem? (i := 405) (by decide +kernel), List.mem_of_getElem? (i := 406) (by decide +kernel)⟩
theorem lw_p4 : lw_okq (⟨"RuledTables$Rules", "countPlaces", "(IILRuledTables$Groups;)I"⟩, 3) := ⟨⟨by decide +kernel, by decide +kernel⟩, List.mem_of_getElem? (i := 97) (by decide +kernel), List.mem_of_getElem? (i := 425) (by decide +kernel), List.mem_of_getElem? (i := 426) (by decide +kernel)⟩
theorem lw_p5 : lw_okq (⟨"RuledTables$Rules", "giveTable", "(IILRuledTables$Groups;)V"⟩, 3) := ⟨⟨by decide +kernel, by decide +kernel⟩, List.mem_of_getElem? (i := 97) (by decide +kernel), List.mem_of_getElem? (i := 429) (by decide +kernel), List.mem_of_getElem? (i := 430) (by decide +kernel)⟩
theorem lw_p6 : lw_okq (⟨"RuledTables$Table", "takeLines", "(LRuledTables$Rules;I)V"⟩, 12) := ⟨⟨by decide +kernel, by decide +kernel⟩, List.mem_of_getElem? (i := 162) (by decide +kernel), List.mem_of_getElem? (i := 437) (by decide +kernel), List.mem_of_getElem? (i := 438) (by decide +kernel)⟩
theorem lw_p7 : lw_okq (⟨"RuledTables$Table", "markSides", "(LRuledTables$Rules;II)V"⟩, 12) := ⟨⟨by decide +kernel, by decide +kernel⟩, List.mem_of_getElem? (i := 162) (by decide +kernel), List.mem_of_getElem? (i := 449) (by decide +kernel), List.mem_of_getElem? (i := 450) (by decide +kernel)⟩
theorem lw_p8 : lw_okq (⟨"RuledTables$Table", "markSidesOf", "(LRuledTables$Rule;I)V"⟩, 12) := ⟨⟨by decide +kernel, by decide +kernel⟩, List.mem_of_getElem? (i := 162) (by decide +kernel), List.mem_of_getElem? (i := 453) (by decide +kernel), List.mem_of_getElem? (i := 454) (by decide +kernel)⟩
theorem lw_p9 : lw_okq (⟨"RuledTables$Table", "joinFields", "(LRuledTables$Groups;)V"⟩, 12) := ⟨⟨by decide +kernel, by decide +kernel⟩, List.mem_of_getElem? (i := 162) (by decide +kernel), List.mem_of_getElem? (i := 470) (by decide +kernel), List.mem_of_getElem? (i := 471) (by decide +kernel)⟩
theorem lw_p10 : lw_okq (⟨"RuledTables$Table", "numberCells", "(LRuledTables$Groups;)V"⟩, 12) := ⟨⟨by decide +kernel, by decide +kernel⟩, List.mem_of_getElem? (i := 162) (by decide +kernel), List.mem_of_getElem? (i := 480) (by decide +kernel), List.mem_of_getElem? (i := 481) (by decide +kernel)⟩
theorem lw_p11 : lw_okq (⟨"RuledTables$Table", "beginCell", "(II)V"⟩, 12) := ⟨⟨by decide +kernel, by decide +kernel⟩, List.mem_of_getElem? (i := 162) (by decide +kernel), List.mem_of_getElem? (i := 485) (by decide +kernel), List.mem_of_getElem? (i := 486) (by decide +kernel)⟩
theorem lw_p12 : lw_okq (⟨"RuledTables$Table", "widenCell", "(III)V"⟩, 12) := ⟨⟨by decide +kernel, by decide +kernel⟩, List.mem_of_getElem? (i := 162) (by decide +kernel), List.mem_of_getElem? (i := 489) (by decide +kernel), List.mem_of_getElem? (i := 490) (by decide +kernel)⟩
theorem lw_p13 : lw_okq (⟨"RuledTables$Table", "markBroken", "()V"⟩, 12) := ⟨⟨by decide +kernel, by decide +kernel⟩, List.mem_of_getElem? (i := 162) (by decide +kernel), List.mem_of_getElem? (i := 493) (by decide +kernel), List.mem_of_getElem? (i := 494) (by decide +kernel)⟩
theorem lw_p14 : lw_okq (⟨"RuledTables$Table", "markOpen", "()V"⟩, 12) := ⟨⟨by decide +kernel, by decide +kernel⟩, List.mem_of_getElem? (i := 162) (by decide +kernel), List.mem_of_getElem? (i := 497) (by decide +kernel), List.mem_of_getElem? (i := 498) (by decide +kernel)⟩
theorem lw_p15 : lw_okq (⟨"RuledTables$Table", "openUnless", "(ZI)V"⟩, 12) := ⟨⟨by decide +kernel, by decide +kernel⟩, List.mem_of_getElem? (i := 162) (by decide +kernel), List.mem_of_getElem? (i := 505) (by decide +kernel), List.mem_of_getElem? (i := 506) (by decide +kernel)⟩
def lw_privs_1 : List (MethodName × Nat) := [(⟨"RuledTables", "found", "()LRuledTables$Finding;"⟩, 5), (⟨"RuledTables$Rules", "gather", "(LRuledTables$Rows;LRuledTables$Groups;)V"⟩, 3), (⟨"RuledTables$Rules", "sort", "()V"⟩, 3), (⟨"RuledTables$Rules", "tellPieces", "(ILRuledTables$Groups;)V"⟩, 3), (⟨"RuledTables$Rules", "countPlaces", "(IILRuledTables$Groups;)I"⟩, 3), (⟨"RuledTables$Rules", "giveTable", "(IILRuledTables$Groups;)V"⟩, 3), (⟨"RuledTables$Table", "takeLines", "(LRuledTables$Rules;I)V"⟩, 12), (⟨"RuledTables$Table", "markSides", "(LRuledTables$Rules;II)V"⟩, 12), (⟨"RuledTables$Table", "markSidesOf", "(LRuledTables$Rule;I)V"⟩, 12), (⟨"RuledTables$Table", "joinFields", "(LRuledTables$Groups;)V"⟩, 12), (⟨"RuledTables$Table", "numberCells", "(LRuledTables$Groups;)V"⟩, 12), (⟨"RuledTables$Table", "beginCell", "(II)V"⟩, 12), (⟨"RuledTables$Table", "widenCell", "(III)V"⟩, 12), (⟨"RuledTables$Table", "markBroken", "()V"⟩, 12), (⟨"RuledTables$Table", "markOpen", "()V"⟩, 12), (⟨"RuledTables$Table", "openUnless", "(ZI)V"⟩, 12)]
theorem lw_r1 : ∀ q ∈ lw_privs_1, lw_okq q := List.forall_mem_cons.mpr ⟨lw_p0, List.forall_mem_cons.mpr ⟨lw_p1, List.forall_mem_cons.mpr ⟨lw_p2, List.forall_mem_cons.mpr ⟨lw_p3, List.forall_mem_cons.mpr ⟨lw_p4, List.forall_mem_cons.mpr ⟨lw_p5, List.forall_mem_cons.mpr ⟨lw_p6, List.forall_mem_cons.mpr ⟨lw_p7, List.forall_mem_cons.mpr ⟨lw_p8, List.forall_mem_cons.mpr ⟨lw_p9, List.forall_mem_cons.mpr ⟨lw_p10, List.forall_mem_cons.mpr ⟨lw_p11, List.forall_mem_cons.mpr ⟨lw_p12, List.forall_mem_cons.mpr ⟨lw_p13, List.forall_mem_cons.mpr ⟨lw_p14, List.forall_mem_cons.mpr ⟨lw_p15, fun _ h => absurd h List.not_mem_nil⟩⟩⟩⟩⟩⟩⟩⟩⟩⟩⟩⟩⟩⟩⟩⟩
theorem lw_p16 : lw_okq (⟨"RuledTables$Table", "countHeads", "()I"⟩, 12) := ⟨⟨by decide +kernel, by decide +kernel⟩, List.mem_of_getElem? (i := 162) (by decide +kernel), List.mem_of_getElem? (i := 513) (by decide +kernel), List.mem_of_getElem? (i := 514) (by decide +kernel)⟩
theorem lw_p17 : lw_okq (⟨"RuledTables$Table", "isOneColumnWide", "(I)Z"⟩, 12) := ⟨⟨by decide +kernel, by decide +kernel⟩, List.mem_of_getElem? (i := 162) (by decide +kernel), List.mem_of_getElem? (i := 517) (by decide +kernel), List.mem_of_getElem? (i := 518) (by decide +kernel)⟩
theorem lw_p18 : lw_okq (⟨"RuledTables$Placing", "place", "(ILRuledTables$Rows;[LRuledTables$Table;I)V"⟩, 5) := ⟨⟨by decide +kernel, by decide +kernel⟩, List.mem_of_getElem? (i := 232) (by decide +kernel), List.mem_of_getElem? (i := 525) (by decide +kernel), List.mem_of_getElem? (i := 526) (by decide +kernel)⟩
theorem lw_p19 : lw_okq (⟨"RuledTables$Placing", "putInOrder", "(ILRuledTables$Rows;)V"⟩, 5) := ⟨⟨by decide +kernel, by decide +kernel⟩, List.mem_of_getElem? (i := 232) (by decide +kernel), List.mem_of_getElem? (i := 536) (by decide +kernel), List.mem_of_getElem? (i := 537) (by decide +kernel)⟩
theorem lw_p20 : lw_okq (⟨"RuledTables$Table", "findMissedIn", "(IILRuledTables$Rows;LRuledTables$Placing;I)V"⟩, 12) := ⟨⟨by decide +kernel, by decide +kernel⟩, List.mem_of_getElem? (i := 162) (by decide +kernel), List.mem_of_getElem? (i := 547) (by decide +kernel), List.mem_of_getElem? (i := 548) (by decide +kernel)⟩
theorem lw_p21 : lw_okq (⟨"RuledTables$Placing", "isIn", "(III)Z"⟩, 5) := ⟨⟨by decide +kernel, by decide +kernel⟩, List.mem_of_getElem? (i := 232) (by decide +kernel), List.mem_of_getElem? (i := 555) (by decide +kernel), List.mem_of_getElem? (i := 556) (by decide +kernel)⟩
theorem lw_p22 : lw_okq (⟨"RuledTables$Table", "addMissed", "(III)V"⟩, 12) := ⟨⟨by decide +kernel, by decide +kernel⟩, List.mem_of_getElem? (i := 162) (by decide +kernel), List.mem_of_getElem? (i := 559) (by decide +kernel), List.mem_of_getElem? (i := 560) (by decide +kernel)⟩
theorem lw_p23 : lw_okq (⟨"RuledTables$Table", "countWhole", "()I"⟩, 12) := ⟨⟨by decide +kernel, by decide +kernel⟩, List.mem_of_getElem? (i := 162) (by decide +kernel), List.mem_of_getElem? (i := 604) (by decide +kernel), List.mem_of_getElem? (i := 605) (by decide +kernel)⟩
theorem lw_p24 : lw_okq (⟨"RuledTables$Table", "isFirstInColumn", "(II)Z"⟩, 12) := ⟨⟨by decide +kernel, by decide +kernel⟩, List.mem_of_getElem? (i := 162) (by decide +kernel), List.mem_of_getElem? (i := 658) (by decide +kernel), List.mem_of_getElem? (i := 659) (by decide +kernel)⟩
theorem lw_p25 : lw_okq (⟨"RuledTablesModel", "addPiece", "(IIII)V"⟩, 28) := ⟨⟨by decide +kernel, by decide +kernel⟩, List.mem_of_getElem? (i := 682) (by decide +kernel), List.mem_of_getElem? (i := 792) (by decide +kernel), List.mem_of_getElem? (i := 793) (by decide +kernel)⟩
theorem lw_p26 : lw_okq (⟨"RuledTablesModel", "findAll", "()V"⟩, 28) := ⟨⟨by decide +kernel, by decide +kernel⟩, List.mem_of_getElem? (i := 682) (by decide +kernel), List.mem_of_getElem? (i := 813) (by decide +kernel), List.mem_of_getElem? (i := 814) (by decide +kernel)⟩
theorem lw_p27 : lw_okq (⟨"RuledTablesModel", "findRules", "()V"⟩, 28) := ⟨⟨by decide +kernel, by decide +kernel⟩, List.mem_of_getElem? (i := 682) (by decide +kernel), List.mem_of_getElem? (i := 817) (by decide +kernel), List.mem_of_getElem? (i := 818) (by decide +kernel)⟩
theorem lw_p28 : lw_okq (⟨"RuledTablesModel", "begin", "(I)V"⟩, 28) := ⟨⟨by decide +kernel, by decide +kernel⟩, List.mem_of_getElem? (i := 682) (by decide +kernel), List.mem_of_getElem? (i := 821) (by decide +kernel), List.mem_of_getElem? (i := 822) (by decide +kernel)⟩
theorem lw_p29 : lw_okq (⟨"RuledTablesModel", "isNear", "(II)Z"⟩, 28) := ⟨⟨by decide +kernel, by decide +kernel⟩, List.mem_of_getElem? (i := 682) (by decide +kernel), List.mem_of_getElem? (i := 825) (by decide +kernel), List.mem_of_getElem? (i := 826) (by decide +kernel)⟩
theorem lw_p30 : lw_okq (⟨"RuledTablesModel", "pieceAt", "(II)I"⟩, 28) := ⟨⟨by decide +kernel, by decide +kernel⟩, List.mem_of_getElem? (i := 682) (by decide +kernel), List.mem_of_getElem? (i := 829) (by decide +kernel), List.mem_of_getElem? (i := 830) (by decide +kernel)⟩
theorem lw_p31 : lw_okq (⟨"RuledTablesModel", "join", "(III)V"⟩, 28) := ⟨⟨by decide +kernel, by decide +kernel⟩, List.mem_of_getElem? (i := 682) (by decide +kernel), List.mem_of_getElem? (i := 839) (by decide +kernel), List.mem_of_getElem? (i := 840) (by decide +kernel)⟩
def lw_privs_2 : List (MethodName × Nat) := [(⟨"RuledTables$Table", "countHeads", "()I"⟩, 12), (⟨"RuledTables$Table", "isOneColumnWide", "(I)Z"⟩, 12), (⟨"RuledTables$Placing", "place", "(ILRuledTables$Rows;[LRuledTables$Table;I)V"⟩, 5), (⟨"RuledTables$Placing", "putInOrder", "(ILRuledTables$Rows;)V"⟩, 5), (⟨"RuledTables$Table", "findMissedIn", "(IILRuledTables$Rows;LRuledTables$Placing;I)V"⟩, 12), (⟨"RuledTables$Placing", "isIn", "(III)Z"⟩, 5), (⟨"RuledTables$Table", "addMissed", "(III)V"⟩, 12), (⟨"RuledTables$Table", "countWhole", "()I"⟩, 12), (⟨"RuledTables$Table", "isFirstInColumn", "(II)Z"⟩, 12), (⟨"RuledTablesModel", "addPiece", "(IIII)V"⟩, 28), (⟨"RuledTablesModel", "findAll", "()V"⟩, 28), (⟨"RuledTablesModel", "findRules", "()V"⟩, 28), (⟨"RuledTablesModel", "begin", "(I)V"⟩, 28), (⟨"RuledTablesModel", "isNear", "(II)Z"⟩, 28), (⟨"RuledTablesModel", "pieceAt", "(II)I"⟩, 28), (⟨"RuledTablesModel", "join", "(III)V"⟩, 28)]
theorem lw_r2 : ∀ q ∈ lw_privs_2, lw_okq q := List.forall_mem_cons.mpr ⟨lw_p16, List.forall_mem_cons.mpr ⟨lw_p17, List.forall_mem_cons.mpr ⟨lw_p18, List.forall_mem_cons.mpr ⟨lw_p19, List.forall_mem_cons.mpr ⟨lw_p20, List.forall_mem_cons.mpr ⟨lw_p21, List.forall_mem_cons.mpr ⟨lw_p22, List.forall_mem_cons.mpr ⟨lw_p23, List.forall_mem_cons.mpr ⟨lw_p24, List.forall_mem_cons.mpr ⟨lw_p25, List.forall_mem_cons.mpr ⟨lw_p26, List.forall_mem_cons.mpr ⟨lw_p27, List.forall_mem_cons.mpr ⟨lw_p28, List.forall_mem_cons.mpr ⟨lw_p29, List.forall_mem_cons.mpr ⟨lw_p30, List.forall_mem_cons.mpr ⟨lw_p31, fun _ h => absurd h List.not_mem_nil⟩⟩⟩⟩⟩⟩⟩⟩⟩⟩⟩⟩⟩⟩⟩⟩
theorem lw_p32 : lw_okq (⟨"RuledTablesModel", "addRule", "(I)V"⟩, 28) := ⟨⟨by decide +kernel, by decide +kernel⟩, List.mem_of_getElem? (i := 682) (by decide +kernel), List.mem_of_getElem? (i := 843) (by decide +kernel), List.mem_of_getElem? (i := 844) (by decide +kernel)⟩
theorem lw_p33 : lw_okq (⟨"RuledTablesModel", "sortRules", "()V"⟩, 28) := ⟨⟨by decide +kernel, by decide +kernel⟩, List.mem_of_getElem? (i := 682) (by decide +kernel), List.mem_of_getElem? (i := 847) (by decide +kernel), List.mem_of_getElem? (i := 848) (by decide +kernel)⟩
theorem lw_p34 : lw_okq (⟨"RuledTablesModel", "isRuleBefore", "(II)Z"⟩, 28) := ⟨⟨by decide +kernel, by decide +kernel⟩, List.mem_of_getElem? (i := 682) (by decide +kernel), List.mem_of_getElem? (i := 851) (by decide +kernel), List.mem_of_getElem? (i := 852) (by decide +kernel)⟩
theorem lw_p35 : lw_okq (⟨"RuledTablesModel", "ruleAt", "(II)I"⟩, 28) := ⟨⟨by decide +kernel, by decide +kernel⟩, List.mem_of_getElem? (i := 682) (by decide +kernel), List.mem_of_getElem? (i := 855) (by decide +kernel), List.mem_of_getElem? (i := 856) (by decide +kernel)⟩
theorem lw_p36 : lw_okq (⟨"RuledTablesModel", "findTables", "()V"⟩, 28) := ⟨⟨by decide +kernel, by decide +kernel⟩, List.mem_of_getElem? (i := 682) (by decide +kernel), List.mem_of_getElem? (i := 859) (by decide +kernel), List.mem_of_getElem? (i := 860) (by decide +kernel)⟩
theorem lw_p37 : lw_okq (⟨"RuledTablesModel", "isCross", "(II)Z"⟩, 28) := ⟨⟨by decide +kernel, by decide +kernel⟩, List.mem_of_getElem? (i := 682) (by decide +kernel), List.mem_of_getElem? (i := 863) (by decide +kernel), List.mem_of_getElem? (i := 864) (by decide +kernel)⟩
theorem lw_p38 : lw_okq (⟨"RuledTablesModel", "lies", "(II)Z"⟩, 28) := ⟨⟨by decide +kernel, by decide +kernel⟩, List.mem_of_getElem? (i := 682) (by decide +kernel), List.mem_of_getElem? (i := 867) (by decide +kernel), List.mem_of_getElem? (i := 868) (by decide +kernel)⟩
theorem lw_p39 : lw_okq (⟨"RuledTablesModel", "countLines", "(II)I"⟩, 28) := ⟨⟨by decide +kernel, by decide +kernel⟩, List.mem_of_getElem? (i := 682) (by decide +kernel), List.mem_of_getElem? (i := 871) (by decide +kernel), List.mem_of_getElem? (i := 872) (by decide +kernel)⟩
theorem lw_p40 : lw_okq (⟨"RuledTablesModel", "layLines", "(II)V"⟩, 28) := ⟨⟨by decide +kernel, by decide +kernel⟩, List.mem_of_getElem? (i := 682) (by decide +kernel), List.mem_of_getElem? (i := 875) (by decide +kernel), List.mem_of_getElem? (i := 876) (by decide +kernel)⟩
theorem lw_p41 : lw_okq (⟨"RuledTablesModel", "findCells", "(I)V"⟩, 28) := ⟨⟨by decide +kernel, by decide +kernel⟩, List.mem_of_getElem? (i := 682) (by decide +kernel), List.mem_of_getElem? (i := 879) (by decide +kernel), List.mem_of_getElem? (i := 880) (by decide +kernel)⟩
theorem lw_p42 : lw_okq (⟨"RuledTablesModel", "columnsOf", "(I)I"⟩, 28) := ⟨⟨by decide +kernel, by decide +kernel⟩, List.mem_of_getElem? (i := 682) (by decide +kernel), List.mem_of_getElem? (i := 883) (by decide +kernel), List.mem_of_getElem? (i := 884) (by decide +kernel)⟩
theorem lw_p43 : lw_okq (⟨"RuledTablesModel", "rowsOf", "(I)I"⟩, 28) := ⟨⟨by decide +kernel, by decide +kernel⟩, List.mem_of_getElem? (i := 682) (by decide +kernel), List.mem_of_getElem? (i := 887) (by decide +kernel), List.mem_of_getElem? (i := 888) (by decide +kernel)⟩
theorem lw_p44 : lw_okq (⟨"RuledTablesModel", "isRuled", "(IIII)Z"⟩, 28) := ⟨⟨by decide +kernel, by decide +kernel⟩, List.mem_of_getElem? (i := 682) (by decide +kernel), List.mem_of_getElem? (i := 891) (by decide +kernel), List.mem_of_getElem? (i := 892) (by decide +kernel)⟩
theorem lw_p45 : lw_okq (⟨"RuledTablesModel", "lineAt", "(III)I"⟩, 28) := ⟨⟨by decide +kernel, by decide +kernel⟩, List.mem_of_getElem? (i := 682) (by decide +kernel), List.mem_of_getElem? (i := 895) (by decide +kernel), List.mem_of_getElem? (i := 896) (by decide +kernel)⟩
theorem lw_p46 : lw_okq (⟨"RuledTablesModel", "reaches", "(IIIII)Z"⟩, 28) := ⟨⟨by decide +kernel, by decide +kernel⟩, List.mem_of_getElem? (i := 682) (by decide +kernel), List.mem_of_getElem? (i := 899) (by decide +kernel), List.mem_of_getElem? (i := 900) (by decide +kernel)⟩
theorem lw_p47 : lw_okq (⟨"RuledTablesModel", "addField", "(III)V"⟩, 28) := ⟨⟨by decide +kernel, by decide +kernel⟩, List.mem_of_getElem? (i := 682) (by decide +kernel), List.mem_of_getElem? (i := 903) (by decide +kernel), List.mem_of_getElem? (i := 904) (by decide +kernel)⟩
def lw_privs_3 : List (MethodName × Nat) := [(⟨"RuledTablesModel", "addRule", "(I)V"⟩, 28), (⟨"RuledTablesModel", "sortRules", "()V"⟩, 28), (⟨"RuledTablesModel", "isRuleBefore", "(II)Z"⟩, 28), (⟨"RuledTablesModel", "ruleAt", "(II)I"⟩, 28), (⟨"RuledTablesModel", "findTables", "()V"⟩, 28), (⟨"RuledTablesModel", "isCross", "(II)Z"⟩, 28), (⟨"RuledTablesModel", "lies", "(II)Z"⟩, 28), (⟨"RuledTablesModel", "countLines", "(II)I"⟩, 28), (⟨"RuledTablesModel", "layLines", "(II)V"⟩, 28), (⟨"RuledTablesModel", "findCells", "(I)V"⟩, 28), (⟨"RuledTablesModel", "columnsOf", "(I)I"⟩, 28), (⟨"RuledTablesModel", "rowsOf", "(I)I"⟩, 28), (⟨"RuledTablesModel", "isRuled", "(IIII)Z"⟩, 28), (⟨"RuledTablesModel", "lineAt", "(III)I"⟩, 28), (⟨"RuledTablesModel", "reaches", "(IIIII)Z"⟩, 28), (⟨"RuledTablesModel", "addField", "(III)V"⟩, 28)]
theorem lw_r3 : ∀ q ∈ lw_privs_3, lw_okq q := List.forall_mem_cons.mpr ⟨lw_p32, List.forall_mem_cons.mpr ⟨lw_p33, List.forall_mem_cons.mpr ⟨lw_p34, List.forall_mem_cons.mpr ⟨lw_p35, List.forall_mem_cons.mpr ⟨lw_p36, List.forall_mem_cons.mpr ⟨lw_p37, List.forall_mem_cons.mpr ⟨lw_p38, List.forall_mem_cons.mpr ⟨lw_p39, List.forall_mem_cons.mpr ⟨lw_p40, List.forall_mem_cons.mpr ⟨lw_p41, List.forall_mem_cons.mpr ⟨lw_p42, List.forall_mem_cons.mpr ⟨lw_p43, List.forall_mem_cons.mpr ⟨lw_p44, List.forall_mem_cons.mpr ⟨lw_p45, List.forall_mem_cons.mpr ⟨lw_p46, List.forall_mem_cons.mpr ⟨lw_p47, fun _ h => absurd h List.not_mem_nil⟩⟩⟩⟩⟩⟩⟩⟩⟩⟩⟩⟩⟩⟩⟩⟩
theorem lw_p48 : lw_okq (⟨"RuledTablesModel", "isOpen", "(III)Z"⟩, 28) := ⟨⟨by decide +kernel, by decide +kernel⟩, List.mem_of_getElem? (i := 682) (by decide +kernel), List.mem_of_getElem? (i := 907) (by decide +kernel), List.mem_of_getElem? (i := 908) (by decide +kernel)⟩
theorem lw_p49 : lw_okq (⟨"RuledTablesModel", "cellAt", "(II)I"⟩, 28) := ⟨⟨by decide +kernel, by decide +kernel⟩, List.mem_of_getElem? (i := 682) (by decide +kernel), List.mem_of_getElem? (i := 911) (by decide +kernel), List.mem_of_getElem? (i := 912) (by decide +kernel)⟩
theorem lw_p50 : lw_okq (⟨"RuledTablesModel", "findWord", "(I)V"⟩, 28) := ⟨⟨by decide +kernel, by decide +kernel⟩, List.mem_of_getElem? (i := 682) (by decide +kernel), List.mem_of_getElem? (i := 915) (by decide +kernel), List.mem_of_getElem? (i := 916) (by decide +kernel)⟩
theorem lw_p51 : lw_okq (⟨"RuledTablesModel", "boxAt", "(II)I"⟩, 28) := ⟨⟨by decide +kernel, by decide +kernel⟩, List.mem_of_getElem? (i := 682) (by decide +kernel), List.mem_of_getElem? (i := 919) (by decide +kernel), List.mem_of_getElem? (i := 920) (by decide +kernel)⟩
theorem lw_p52 : lw_okq (⟨"RuledTablesModel", "between", "(III)I"⟩, 28) := ⟨⟨by decide +kernel, by decide +kernel⟩, List.mem_of_getElem? (i := 682) (by decide +kernel), List.mem_of_getElem? (i := 923) (by decide +kernel), List.mem_of_getElem? (i := 924) (by decide +kernel)⟩
theorem lw_p53 : lw_okq (⟨"RuledTablesModel", "isRule", "(I)Z"⟩, 28) := ⟨⟨by decide +kernel, by decide +kernel⟩, List.mem_of_getElem? (i := 682) (by decide +kernel), List.mem_of_getElem? (i := 935) (by decide +kernel), List.mem_of_getElem? (i := 936) (by decide +kernel)⟩
theorem lw_p54 : lw_okq (⟨"RuledTablesModel", "isTable", "(I)Z"⟩, 28) := ⟨⟨by decide +kernel, by decide +kernel⟩, List.mem_of_getElem? (i := 682) (by decide +kernel), List.mem_of_getElem? (i := 948) (by decide +kernel), List.mem_of_getElem? (i := 949) (by decide +kernel)⟩
theorem lw_p55 : lw_okq (⟨"RuledTablesModel", "findMissed", "(II)V"⟩, 28) := ⟨⟨by decide +kernel, by decide +kernel⟩, List.mem_of_getElem? (i := 682) (by decide +kernel), List.mem_of_getElem? (i := 952) (by decide +kernel), List.mem_of_getElem? (i := 953) (by decide +kernel)⟩
theorem lw_p56 : lw_okq (⟨"RuledTablesModel", "missBy", "(IIII)V"⟩, 28) := ⟨⟨by decide +kernel, by decide +kernel⟩, List.mem_of_getElem? (i := 682) (by decide +kernel), List.mem_of_getElem? (i := 956) (by decide +kernel), List.mem_of_getElem? (i := 957) (by decide +kernel)⟩
theorem lw_p57 : lw_okq (⟨"RuledTablesModel", "wordsBy", "(III)I"⟩, 28) := ⟨⟨by decide +kernel, by decide +kernel⟩, List.mem_of_getElem? (i := 682) (by decide +kernel), List.mem_of_getElem? (i := 960) (by decide +kernel), List.mem_of_getElem? (i := 961) (by decide +kernel)⟩
theorem lw_p58 : lw_okq (⟨"RuledTablesModel", "layComing", "(II)V"⟩, 28) := ⟨⟨by decide +kernel, by decide +kernel⟩, List.mem_of_getElem? (i := 682) (by decide +kernel), List.mem_of_getElem? (i := 968) (by decide +kernel), List.mem_of_getElem? (i := 969) (by decide +kernel)⟩
theorem lw_p59 : lw_okq (⟨"RuledTablesModel", "rulesOf", "(I)I"⟩, 28) := ⟨⟨by decide +kernel, by decide +kernel⟩, List.mem_of_getElem? (i := 682) (by decide +kernel), List.mem_of_getElem? (i := 976) (by decide +kernel), List.mem_of_getElem? (i := 977) (by decide +kernel)⟩
theorem lw_p60 : lw_okq (⟨"RuledTablesModel", "wordsOf", "(I)I"⟩, 28) := ⟨⟨by decide +kernel, by decide +kernel⟩, List.mem_of_getElem? (i := 682) (by decide +kernel), List.mem_of_getElem? (i := 980) (by decide +kernel), List.mem_of_getElem? (i := 981) (by decide +kernel)⟩
theorem lw_p61 : lw_okq (⟨"RuledTablesModel", "headsOf", "(I)I"⟩, 28) := ⟨⟨by decide +kernel, by decide +kernel⟩, List.mem_of_getElem? (i := 682) (by decide +kernel), List.mem_of_getElem? (i := 984) (by decide +kernel), List.mem_of_getElem? (i := 985) (by decide +kernel)⟩
theorem lw_p62 : lw_okq (⟨"RuledTablesModel", "isNarrow", "(II)Z"⟩, 28) := ⟨⟨by decide +kernel, by decide +kernel⟩, List.mem_of_getElem? (i := 682) (by decide +kernel), List.mem_of_getElem? (i := 988) (by decide +kernel), List.mem_of_getElem? (i := 989) (by decide +kernel)⟩
theorem lw_p63 : lw_okq (⟨"RuledTablesModel", "wholeOf", "(I)I"⟩, 28) := ⟨⟨by decide +kernel, by decide +kernel⟩, List.mem_of_getElem? (i := 682) (by decide +kernel), List.mem_of_getElem? (i := 992) (by decide +kernel), List.mem_of_getElem? (i := 993) (by decide +kernel)⟩
def lw_privs_4 : List (MethodName × Nat) := [(⟨"RuledTablesModel", "isOpen", "(III)Z"⟩, 28), (⟨"RuledTablesModel", "cellAt", "(II)I"⟩, 28), (⟨"RuledTablesModel", "findWord", "(I)V"⟩, 28), (⟨"RuledTablesModel", "boxAt", "(II)I"⟩, 28), (⟨"RuledTablesModel", "between", "(III)I"⟩, 28), (⟨"RuledTablesModel", "isRule", "(I)Z"⟩, 28), (⟨"RuledTablesModel", "isTable", "(I)Z"⟩, 28), (⟨"RuledTablesModel", "findMissed", "(II)V"⟩, 28), (⟨"RuledTablesModel", "missBy", "(IIII)V"⟩, 28), (⟨"RuledTablesModel", "wordsBy", "(III)I"⟩, 28), (⟨"RuledTablesModel", "layComing", "(II)V"⟩, 28), (⟨"RuledTablesModel", "rulesOf", "(I)I"⟩, 28), (⟨"RuledTablesModel", "wordsOf", "(I)I"⟩, 28), (⟨"RuledTablesModel", "headsOf", "(I)I"⟩, 28), (⟨"RuledTablesModel", "isNarrow", "(II)Z"⟩, 28), (⟨"RuledTablesModel", "wholeOf", "(I)I"⟩, 28)]
theorem lw_r4 : ∀ q ∈ lw_privs_4, lw_okq q := List.forall_mem_cons.mpr ⟨lw_p48, List.forall_mem_cons.mpr ⟨lw_p49, List.forall_mem_cons.mpr ⟨lw_p50, List.forall_mem_cons.mpr ⟨lw_p51, List.forall_mem_cons.mpr ⟨lw_p52, List.forall_mem_cons.mpr ⟨lw_p53, List.forall_mem_cons.mpr ⟨lw_p54, List.forall_mem_cons.mpr ⟨lw_p55, List.forall_mem_cons.mpr ⟨lw_p56, List.forall_mem_cons.mpr ⟨lw_p57, List.forall_mem_cons.mpr ⟨lw_p58, List.forall_mem_cons.mpr ⟨lw_p59, List.forall_mem_cons.mpr ⟨lw_p60, List.forall_mem_cons.mpr ⟨lw_p61, List.forall_mem_cons.mpr ⟨lw_p62, List.forall_mem_cons.mpr ⟨lw_p63, fun _ h => absurd h List.not_mem_nil⟩⟩⟩⟩⟩⟩⟩⟩⟩⟩⟩⟩⟩⟩⟩⟩
theorem lw_p64 : lw_okq (⟨"RuledTablesModel", "isSide", "(IIII)Z"⟩, 28) := ⟨⟨by decide +kernel, by decide +kernel⟩, List.mem_of_getElem? (i := 682) (by decide +kernel), List.mem_of_getElem? (i := 1004) (by decide +kernel), List.mem_of_getElem? (i := 1005) (by decide +kernel)⟩
theorem lw_p65 : lw_okq (⟨"RuledTablesModel", "isCell", "(II)Z"⟩, 28) := ⟨⟨by decide +kernel, by decide +kernel⟩, List.mem_of_getElem? (i := 682) (by decide +kernel), List.mem_of_getElem? (i := 1016) (by decide +kernel), List.mem_of_getElem? (i := 1017) (by decide +kernel)⟩
theorem lw_p66 : lw_okq (⟨"RuledTablesModel", "wordsIn", "(I)I"⟩, 28) := ⟨⟨by decide +kernel, by decide +kernel⟩, List.mem_of_getElem? (i := 682) (by decide +kernel), List.mem_of_getElem? (i := 1021) (by decide +kernel), List.mem_of_getElem? (i := 1022) (by decide +kernel)⟩
theorem lw_p67 : lw_okq (⟨"RuledTablesModel", "isWordOf", "(II)Z"⟩, 28) := ⟨⟨by decide +kernel, by decide +kernel⟩, List.mem_of_getElem? (i := 682) (by decide +kernel), List.mem_of_getElem? (i := 1029) (by decide +kernel), List.mem_of_getElem? (i := 1030) (by decide +kernel)⟩
theorem lw_p68 : lw_okq (⟨"RuledTablesModel", "isReadBefore", "(II)Z"⟩, 28) := ⟨⟨by decide +kernel, by decide +kernel⟩, List.mem_of_getElem? (i := 682) (by decide +kernel), List.mem_of_getElem? (i := 1033) (by decide +kernel), List.mem_of_getElem? (i := 1034) (by decide +kernel)⟩
theorem lw_p69 : lw_okq (⟨"RuledTablesModel", "passAll", "()V"⟩, 28) := ⟨⟨by decide +kernel, by decide +kernel⟩, List.mem_of_getElem? (i := 682) (by decide +kernel), List.mem_of_getElem? (i := 1046) (by decide +kernel), List.mem_of_getElem? (i := 1047) (by decide +kernel)⟩
theorem lw_p70 : lw_okq (⟨"RuledTablesModel", "pass", "(I)I"⟩, 28) := ⟨⟨by decide +kernel, by decide +kernel⟩, List.mem_of_getElem? (i := 682) (by decide +kernel), List.mem_of_getElem? (i := 1050) (by decide +kernel), List.mem_of_getElem? (i := 1051) (by decide +kernel)⟩
theorem lw_p71 : lw_okq (⟨"RuledTablesModel", "passRow", "([II)V"⟩, 28) := ⟨⟨by decide +kernel, by decide +kernel⟩, List.mem_of_getElem? (i := 682) (by decide +kernel), List.mem_of_getElem? (i := 1054) (by decide +kernel), List.mem_of_getElem? (i := 1055) (by decide +kernel)⟩
def lw_privs_5 : List (MethodName × Nat) := [(⟨"RuledTablesModel", "isSide", "(IIII)Z"⟩, 28), (⟨"RuledTablesModel", "isCell", "(II)Z"⟩, 28), (⟨"RuledTablesModel", "wordsIn", "(I)I"⟩, 28), (⟨"RuledTablesModel", "isWordOf", "(II)Z"⟩, 28), (⟨"RuledTablesModel", "isReadBefore", "(II)Z"⟩, 28), (⟨"RuledTablesModel", "passAll", "()V"⟩, 28), (⟨"RuledTablesModel", "pass", "(I)I"⟩, 28), (⟨"RuledTablesModel", "passRow", "([II)V"⟩, 28)]
theorem lw_r5 : ∀ q ∈ lw_privs_5, lw_okq q := List.forall_mem_cons.mpr ⟨lw_p64, List.forall_mem_cons.mpr ⟨lw_p65, List.forall_mem_cons.mpr ⟨lw_p66, List.forall_mem_cons.mpr ⟨lw_p67, List.forall_mem_cons.mpr ⟨lw_p68, List.forall_mem_cons.mpr ⟨lw_p69, List.forall_mem_cons.mpr ⟨lw_p70, List.forall_mem_cons.mpr ⟨lw_p71, fun _ h => absurd h List.not_mem_nil⟩⟩⟩⟩⟩⟩⟩⟩
def lw_privs : List (MethodName × Nat) := lw_privs_1 ++ (lw_privs_2 ++ (lw_privs_3 ++ (lw_privs_4 ++ (lw_privs_5))))
def lw_tbl : List Cond := k2_sels lw_privs ++ tables_1
theorem lw_privs_ok : ∀ q ∈ lw_privs, lw_okq q := by
  show ∀ q ∈ lw_privs_1 ++ (lw_privs_2 ++ (lw_privs_3 ++ (lw_privs_4 ++ (lw_privs_5)))), lw_okq q
  exact List.forall_mem_append.mpr ⟨lw_r1, List.forall_mem_append.mpr ⟨lw_r2, List.forall_mem_append.mpr ⟨lw_r3, List.forall_mem_append.mpr ⟨lw_r4, lw_r5⟩⟩⟩⟩
end
section
def RX0 : String := "RuledTables$Finding"
def TX0 : u_T := fun k => match k with
  | 0 => ("RuledTables$Finding", "groups", "LRuledTables$Groups;", true)
  | 1 => ("RuledTables$Finding", "rules", "LRuledTables$Rules;", true)
  | 2 => ("RuledTables$Finding", "tables", "[LRuledTables$Table;", true)
  | 3 => ("RuledTables$Finding", "tableCount", "I", false)
  | _ => ("RuledTables$Finding", "placing", "LRuledTables$Placing;", true)
def tyX0 : Nat → FieldType := fun k => match k with
  | 0 => .object "RuledTables$Groups"
  | 1 => .object "RuledTables$Rules"
  | 2 => .array (.object "RuledTables$Table")
  | 3 => .int
  | _ => .object "RuledTables$Placing"
theorem nmX0 : ∀ a, a < 5 → ∀ b, b < 5 → a ≠ b → (TX0 a).2.1 ≠ (TX0 b).2.1 := by decide +kernel
theorem tyX0_ok : ∀ k, k < 5 → parseFieldDescriptor (TX0 k).2.2.1 = some (tyX0 k) := by decide +kernel
abbrev cX0_init : ByteArray := prog_2_method_1_code
def yX0_init : MethodName := ⟨RX0, "<init>", "()V"⟩
abbrev cX0_has : ByteArray := prog_2_method_2_code
def yX0_has : MethodName := ⟨RX0, "has", "(I)Z"⟩
abbrev cX0_find : ByteArray := prog_2_method_3_code
def yX0_find : MethodName := ⟨RX0, "find", "(LRuledTables$Page;)V"⟩
def RX1 : String := "RuledTables$Groups"
def TX1 : u_T := fun k => match k with
  | _ => ("RuledTables$Groups", "leads", "[I", true)
def tyX1 : Nat → FieldType := fun k => match k with
  | _ => .array .int
theorem nmX1 : ∀ a, a < 1 → ∀ b, b < 1 → a ≠ b → (TX1 a).2.1 ≠ (TX1 b).2.1 := by decide +kernel
theorem tyX1_ok : ∀ k, k < 1 → parseFieldDescriptor (TX1 k).2.2.1 = some (tyX1 k) := by decide +kernel
abbrev cX1_init : ByteArray := prog_3_method_1_code
def yX1_init : MethodName := ⟨RX1, "<init>", "(I)V"⟩
abbrev cX1_part : ByteArray := prog_3_method_2_code
def yX1_part : MethodName := ⟨RX1, "part", "(I)V"⟩
abbrev cX1_firstOf : ByteArray := prog_3_method_3_code
def yX1_firstOf : MethodName := ⟨RX1, "firstOf", "(I)I"⟩
abbrev cX1_join : ByteArray := prog_3_method_4_code
def yX1_join : MethodName := ⟨RX1, "join", "(II)V"⟩
def RX2 : String := "RuledTables$Lines"
def TX2 : u_T := fun k => match k with
  | 0 => ("RuledTables$Lines", "places", "[[I", true)
  | _ => ("RuledTables$Lines", "counts", "[I", true)
def tyX2 : Nat → FieldType := fun k => match k with
  | 0 => .array (.array .int)
  | _ => .array .int
theorem nmX2 : ∀ a, a < 2 → ∀ b, b < 2 → a ≠ b → (TX2 a).2.1 ≠ (TX2 b).2.1 := by decide +kernel
theorem tyX2_ok : ∀ k, k < 2 → parseFieldDescriptor (TX2 k).2.2.1 = some (tyX2 k) := by decide +kernel
abbrev cX2_init : ByteArray := prog_4_method_1_code
def yX2_init : MethodName := ⟨RX2, "<init>", "(I)V"⟩
abbrev cX2_clear : ByteArray := prog_4_method_2_code
def yX2_clear : MethodName := ⟨RX2, "clear", "()V"⟩
abbrev cX2_add : ByteArray := prog_4_method_3_code
def yX2_add : MethodName := ⟨RX2, "add", "(II)V"⟩
abbrev cX2_placeOf : ByteArray := prog_4_method_4_code
def yX2_placeOf : MethodName := ⟨RX2, "placeOf", "(II)I"⟩
abbrev cX2_lineAt : ByteArray := prog_4_method_5_code
def yX2_lineAt : MethodName := ⟨RX2, "lineAt", "(II)I"⟩
abbrev cX2_lineBefore : ByteArray := prog_4_method_6_code
def yX2_lineBefore : MethodName := ⟨RX2, "lineBefore", "(II)I"⟩
def RX3 : String := "RuledTables$Page"
def TX3 : u_T := fun k => match k with
  | 0 => ("RuledTables$Page", "pieces", "LRuledTables$Rows;", true)
  | 1 => ("RuledTables$Page", "words", "LRuledTables$Rows;", true)
  | _ => ("RuledTables$Page", "settings", "[I", true)
def tyX3 : Nat → FieldType := fun k => match k with
  | 0 => .object "RuledTables$Rows"
  | 1 => .object "RuledTables$Rows"
  | _ => .array .int
theorem nmX3 : ∀ a, a < 3 → ∀ b, b < 3 → a ≠ b → (TX3 a).2.1 ≠ (TX3 b).2.1 := by decide +kernel
theorem tyX3_ok : ∀ k, k < 3 → parseFieldDescriptor (TX3 k).2.2.1 = some (tyX3 k) := by decide +kernel
abbrev cX3_init : ByteArray := prog_5_method_1_code
def yX3_init : MethodName := ⟨RX3, "<init>", "()V"⟩
abbrev cX3_take : ByteArray := prog_5_method_2_code
def yX3_take : MethodName := ⟨RX3, "take", "(LRuledTables$Page;)V"⟩
def RX4 : String := "RuledTables$Placing"
def TX4 : u_T := fun k => match k with
  | 0 => ("RuledTables$Placing", "tables", "[I", true)
  | 1 => ("RuledTables$Placing", "cells", "[I", true)
  | 2 => ("RuledTables$Placing", "order", "[I", true)
  | 3 => ("RuledTables$Placing", "count", "I", false)
  | _ => ("RuledTables$Placing", "loose", "I", false)
def tyX4 : Nat → FieldType := fun k => match k with
  | 0 => .array .int
  | 1 => .array .int
  | 2 => .array .int
  | 3 => .int
  | _ => .int
theorem nmX4 : ∀ a, a < 5 → ∀ b, b < 5 → a ≠ b → (TX4 a).2.1 ≠ (TX4 b).2.1 := by decide +kernel
theorem tyX4_ok : ∀ k, k < 5 → parseFieldDescriptor (TX4 k).2.2.1 = some (tyX4 k) := by decide +kernel
abbrev cX4_init : ByteArray := prog_6_method_1_code
def yX4_init : MethodName := ⟨RX4, "<init>", "()V"⟩
abbrev cX4_find : ByteArray := prog_6_method_2_code
def yX4_find : MethodName := ⟨RX4, "find", "(LRuledTables$Rows;[LRuledTables$Table;I)V"⟩
abbrev cX4_place : ByteArray := prog_6_method_3_code
def yX4_place : MethodName := ⟨RX4, "place", "(ILRuledTables$Rows;[LRuledTables$Table;I)V"⟩
abbrev cX4_putInOrder : ByteArray := prog_6_method_4_code
def yX4_putInOrder : MethodName := ⟨RX4, "putInOrder", "(ILRuledTables$Rows;)V"⟩
abbrev cX4_isReadBefore : ByteArray := prog_6_method_5_code
def yX4_isReadBefore : MethodName := ⟨RX4, "isReadBefore", "(IILRuledTables$Rows;)Z"⟩
abbrev cX4_isIn : ByteArray := prog_6_method_6_code
def yX4_isIn : MethodName := ⟨RX4, "isIn", "(III)Z"⟩
abbrev cX4_wordRead : ByteArray := prog_6_method_7_code
def yX4_wordRead : MethodName := ⟨RX4, "wordRead", "(III)I"⟩
abbrev cX4_keepClear : ByteArray := prog_6_method_8_code
def yX4_keepClear : MethodName := ⟨RX4, "keepClear", "(LRuledTables$Rows;IIII)Z"⟩
def RX5 : String := "RuledTables$Rows"
def TX5 : u_T := fun k => match k with
  | 0 => ("RuledTables$Rows", "numbers", "[I", true)
  | 1 => ("RuledTables$Rows", "most", "I", true)
  | _ => ("RuledTables$Rows", "count", "I", false)
def tyX5 : Nat → FieldType := fun k => match k with
  | 0 => .array .int
  | 1 => .int
  | _ => .int
theorem nmX5 : ∀ a, a < 3 → ∀ b, b < 3 → a ≠ b → (TX5 a).2.1 ≠ (TX5 b).2.1 := by decide +kernel
theorem tyX5_ok : ∀ k, k < 3 → parseFieldDescriptor (TX5 k).2.2.1 = some (tyX5 k) := by decide +kernel
abbrev cX5_init : ByteArray := prog_7_method_1_code
def yX5_init : MethodName := ⟨RX5, "<init>", "(I)V"⟩
abbrev cX5_has : ByteArray := prog_7_method_2_code
def yX5_has : MethodName := ⟨RX5, "has", "(I)Z"⟩
abbrev cX5_isFull : ByteArray := prog_7_method_3_code
def yX5_isFull : MethodName := ⟨RX5, "isFull", "()Z"⟩
abbrev cX5_number : ByteArray := prog_7_method_4_code
def yX5_number : MethodName := ⟨RX5, "number", "(II)I"⟩
abbrev cX5_add : ByteArray := prog_7_method_5_code
def yX5_add : MethodName := ⟨RX5, "add", "(IIII)V"⟩
abbrev cX5_remove : ByteArray := prog_7_method_6_code
def yX5_remove : MethodName := ⟨RX5, "remove", "(I)V"⟩
abbrev cX5_take : ByteArray := prog_7_method_7_code
def yX5_take : MethodName := ⟨RX5, "take", "(LRuledTables$Rows;)V"⟩
def RX6 : String := "RuledTables$Rule"
def TX6 : u_T := fun k => match k with
  | 0 => ("RuledTables$Rule", "way", "I", false)
  | 1 => ("RuledTables$Rule", "at", "I", false)
  | 2 => ("RuledTables$Rule", "from", "I", false)
  | 3 => ("RuledTables$Rule", "to", "I", false)
  | 4 => ("RuledTables$Rule", "longest", "I", false)
  | 5 => ("RuledTables$Rule", "pieces", "I", false)
  | 6 => ("RuledTables$Rule", "first", "I", false)
  | 7 => ("RuledTables$Rule", "crossings", "I", false)
  | _ => ("RuledTables$Rule", "table", "I", false)
def tyX6 : Nat → FieldType := fun k => match k with
  | 0 => .int
  | 1 => .int
  | 2 => .int
  | 3 => .int
  | 4 => .int
  | 5 => .int
  | 6 => .int
  | 7 => .int
  | _ => .int
theorem nmX6 : ∀ a, a < 9 → ∀ b, b < 9 → a ≠ b → (TX6 a).2.1 ≠ (TX6 b).2.1 := by decide +kernel
theorem tyX6_ok : ∀ k, k < 9 → parseFieldDescriptor (TX6 k).2.2.1 = some (tyX6 k) := by decide +kernel
abbrev cX6_init : ByteArray := prog_8_method_1_code
def yX6_init : MethodName := ⟨RX6, "<init>", "()V"⟩
abbrev cX6_begin : ByteArray := prog_8_method_2_code
def yX6_begin : MethodName := ⟨RX6, "begin", "(LRuledTables$Rows;I)V"⟩
abbrev cX6_takeIn : ByteArray := prog_8_method_3_code
def yX6_takeIn : MethodName := ⟨RX6, "takeIn", "(LRuledTables$Rows;I)V"⟩
abbrev cX6_comesBefore : ByteArray := prog_8_method_4_code
def yX6_comesBefore : MethodName := ⟨RX6, "comesBefore", "(LRuledTables$Rule;)Z"⟩
abbrev cX6_covers : ByteArray := prog_8_method_5_code
def yX6_covers : MethodName := ⟨RX6, "covers", "(III)Z"⟩
abbrev cX6_crosses : ByteArray := prog_8_method_6_code
def yX6_crosses : MethodName := ⟨RX6, "crosses", "(LRuledTables$Rule;I)Z"⟩
abbrev cX6_tell : ByteArray := prog_8_method_7_code
def yX6_tell : MethodName := ⟨RX6, "tell", "(I)I"⟩
def RX7 : String := "RuledTables$Rules"
def TX7 : u_T := fun k => match k with
  | 0 => ("RuledTables$Rules", "all", "[LRuledTables$Rule;", true)
  | 1 => ("RuledTables$Rules", "ofPiece", "[I", true)
  | _ => ("RuledTables$Rules", "count", "I", false)
def tyX7 : Nat → FieldType := fun k => match k with
  | 0 => .array (.object "RuledTables$Rule")
  | 1 => .array .int
  | _ => .int
theorem nmX7 : ∀ a, a < 3 → ∀ b, b < 3 → a ≠ b → (TX7 a).2.1 ≠ (TX7 b).2.1 := by decide +kernel
theorem tyX7_ok : ∀ k, k < 3 → parseFieldDescriptor (TX7 k).2.2.1 = some (tyX7 k) := by decide +kernel
abbrev cX7_init : ByteArray := prog_9_method_1_code
def yX7_init : MethodName := ⟨RX7, "<init>", "()V"⟩
abbrev cX7_has : ByteArray := prog_9_method_2_code
def yX7_has : MethodName := ⟨RX7, "has", "(I)Z"⟩
abbrev cX7_find : ByteArray := prog_9_method_3_code
def yX7_find : MethodName := ⟨RX7, "find", "(LRuledTables$Page;LRuledTables$Groups;)V"⟩
abbrev cX7_joinNear : ByteArray := prog_9_method_4_code
def yX7_joinNear : MethodName := ⟨RX7, "joinNear", "(LRuledTables$Page;LRuledTables$Groups;)V"⟩
abbrev cX7_areNear : ByteArray := prog_9_method_5_code
def yX7_areNear : MethodName := ⟨RX7, "areNear", "(LRuledTables$Rows;II[I)Z"⟩
abbrev cX7_gather : ByteArray := prog_9_method_6_code
def yX7_gather : MethodName := ⟨RX7, "gather", "(LRuledTables$Rows;LRuledTables$Groups;)V"⟩
abbrev cX7_sort : ByteArray := prog_9_method_7_code
def yX7_sort : MethodName := ⟨RX7, "sort", "()V"⟩
abbrev cX7_tellPieces : ByteArray := prog_9_method_8_code
def yX7_tellPieces : MethodName := ⟨RX7, "tellPieces", "(ILRuledTables$Groups;)V"⟩
abbrev cX7_joinCrossing : ByteArray := prog_9_method_9_code
def yX7_joinCrossing : MethodName := ⟨RX7, "joinCrossing", "(ILRuledTables$Groups;)V"⟩
abbrev cX7_numberTables : ByteArray := prog_9_method_10_code
def yX7_numberTables : MethodName := ⟨RX7, "numberTables", "(LRuledTables$Groups;)I"⟩
abbrev cX7_countPlaces : ByteArray := prog_9_method_11_code
def yX7_countPlaces : MethodName := ⟨RX7, "countPlaces", "(IILRuledTables$Groups;)I"⟩
abbrev cX7_giveTable : ByteArray := prog_9_method_12_code
def yX7_giveTable : MethodName := ⟨RX7, "giveTable", "(IILRuledTables$Groups;)V"⟩
def RX8 : String := "RuledTables$Table"
def TX8 : u_T := fun k => match k with
  | 0 => ("RuledTables$Table", "lines", "LRuledTables$Lines;", true)
  | 1 => ("RuledTables$Table", "rules", "I", false)
  | 2 => ("RuledTables$Table", "rows", "I", false)
  | 3 => ("RuledTables$Table", "columns", "I", false)
  | 4 => ("RuledTables$Table", "sides", "[Z", true)
  | 5 => ("RuledTables$Table", "fieldCells", "[I", true)
  | 6 => ("RuledTables$Table", "cells", "[[I", true)
  | 7 => ("RuledTables$Table", "cellCount", "I", false)
  | 8 => ("RuledTables$Table", "missedLines", "[[I", true)
  | 9 => ("RuledTables$Table", "missedCount", "I", false)
  | 10 => ("RuledTables$Table", "words", "I", false)
  | _ => ("RuledTables$Table", "heads", "I", false)
def tyX8 : Nat → FieldType := fun k => match k with
  | 0 => .object "RuledTables$Lines"
  | 1 => .int
  | 2 => .int
  | 3 => .int
  | 4 => .array .boolean
  | 5 => .array .int
  | 6 => .array (.array .int)
  | 7 => .int
  | 8 => .array (.array .int)
  | 9 => .int
  | 10 => .int
  | _ => .int
theorem nmX8 : ∀ a, a < 12 → ∀ b, b < 12 → a ≠ b → (TX8 a).2.1 ≠ (TX8 b).2.1 := by decide +kernel
theorem tyX8_ok : ∀ k, k < 12 → parseFieldDescriptor (TX8 k).2.2.1 = some (tyX8 k) := by decide +kernel
abbrev cX8_init : ByteArray := prog_10_method_1_code
def yX8_init : MethodName := ⟨RX8, "<init>", "(I)V"⟩
abbrev cX8_find : ByteArray := prog_10_method_2_code
def yX8_find : MethodName := ⟨RX8, "find", "(LRuledTables$Rules;IILRuledTables$Groups;)V"⟩
abbrev cX8_takeLines : ByteArray := prog_10_method_3_code
def yX8_takeLines : MethodName := ⟨RX8, "takeLines", "(LRuledTables$Rules;I)V"⟩
abbrev cX8_markSides : ByteArray := prog_10_method_4_code
def yX8_markSides : MethodName := ⟨RX8, "markSides", "(LRuledTables$Rules;II)V"⟩
abbrev cX8_markSidesOf : ByteArray := prog_10_method_5_code
def yX8_markSidesOf : MethodName := ⟨RX8, "markSidesOf", "(LRuledTables$Rule;I)V"⟩
abbrev cX8_sideOf : ByteArray := prog_10_method_6_code
def yX8_sideOf : MethodName := ⟨RX8, "sideOf", "(III)I"⟩
abbrev cX8_hasRuled : ByteArray := prog_10_method_7_code
def yX8_hasRuled : MethodName := ⟨RX8, "hasRuled", "(III)Z"⟩
abbrev cX8_joinFields : ByteArray := prog_10_method_8_code
def yX8_joinFields : MethodName := ⟨RX8, "joinFields", "(LRuledTables$Groups;)V"⟩
abbrev cX8_numberCells : ByteArray := prog_10_method_9_code
def yX8_numberCells : MethodName := ⟨RX8, "numberCells", "(LRuledTables$Groups;)V"⟩
abbrev cX8_beginCell : ByteArray := prog_10_method_10_code
def yX8_beginCell : MethodName := ⟨RX8, "beginCell", "(II)V"⟩
abbrev cX8_widenCell : ByteArray := prog_10_method_11_code
def yX8_widenCell : MethodName := ⟨RX8, "widenCell", "(III)V"⟩
abbrev cX8_markBroken : ByteArray := prog_10_method_12_code
def yX8_markBroken : MethodName := ⟨RX8, "markBroken", "()V"⟩
abbrev cX8_markOpen : ByteArray := prog_10_method_13_code
def yX8_markOpen : MethodName := ⟨RX8, "markOpen", "()V"⟩
abbrev cX8_openUnless : ByteArray := prog_10_method_14_code
def yX8_openUnless : MethodName := ⟨RX8, "openUnless", "(ZI)V"⟩
abbrev cX8_hasCell : ByteArray := prog_10_method_15_code
def yX8_hasCell : MethodName := ⟨RX8, "hasCell", "(I)Z"⟩
abbrev cX8_cellOf : ByteArray := prog_10_method_16_code
def yX8_cellOf : MethodName := ⟨RX8, "cellOf", "(II)I"⟩
abbrev cX8_countHeads : ByteArray := prog_10_method_17_code
def yX8_countHeads : MethodName := ⟨RX8, "countHeads", "()I"⟩
abbrev cX8_isOneColumnWide : ByteArray := prog_10_method_18_code
def yX8_isOneColumnWide : MethodName := ⟨RX8, "isOneColumnWide", "(I)Z"⟩
abbrev cX8_headingOf : ByteArray := prog_10_method_19_code
def yX8_headingOf : MethodName := ⟨RX8, "headingOf", "(II)I"⟩
abbrev cX8_isFirstInColumn : ByteArray := prog_10_method_20_code
def yX8_isFirstInColumn : MethodName := ⟨RX8, "isFirstInColumn", "(II)Z"⟩
abbrev cX8_findMissed : ByteArray := prog_10_method_21_code
def yX8_findMissed : MethodName := ⟨RX8, "findMissed", "(LRuledTables$Rows;LRuledTables$Placing;I)V"⟩
abbrev cX8_findMissedIn : ByteArray := prog_10_method_22_code
def yX8_findMissedIn : MethodName := ⟨RX8, "findMissedIn", "(IILRuledTables$Rows;LRuledTables$Placing;I)V"⟩
abbrev cX8_addMissed : ByteArray := prog_10_method_23_code
def yX8_addMissed : MethodName := ⟨RX8, "addMissed", "(III)V"⟩
abbrev cX8_drawMissed : ByteArray := prog_10_method_24_code
def yX8_drawMissed : MethodName := ⟨RX8, "drawMissed", "(ILRuledTables$Rows;)V"⟩
abbrev cX8_countWhole : ByteArray := prog_10_method_25_code
def yX8_countWhole : MethodName := ⟨RX8, "countWhole", "()I"⟩
abbrev cX8_tell : ByteArray := prog_10_method_26_code
def yX8_tell : MethodName := ⟨RX8, "tell", "(I)I"⟩
def RX9 : String := "RuledTables"
def TX9 : u_T := fun k => match k with
  | 0 => ("RuledTables", "page", "LRuledTables$Page;", true)
  | 1 => ("RuledTables", "images", "[LRuledTables$Page;", true)
  | 2 => ("RuledTables", "kept", "[Z", true)
  | 3 => ("RuledTables", "finding", "LRuledTables$Finding;", true)
  | _ => ("RuledTables", "stale", "Z", false)
def tyX9 : Nat → FieldType := fun k => match k with
  | 0 => .object "RuledTables$Page"
  | 1 => .array (.object "RuledTables$Page")
  | 2 => .array .boolean
  | 3 => .object "RuledTables$Finding"
  | _ => .boolean
theorem nmX9 : ∀ a, a < 5 → ∀ b, b < 5 → a ≠ b → (TX9 a).2.1 ≠ (TX9 b).2.1 := by decide +kernel
theorem tyX9_ok : ∀ k, k < 5 → parseFieldDescriptor (TX9 k).2.2.1 = some (tyX9 k) := by decide +kernel
abbrev cX9_init : ByteArray := prog_1_method_1_code
def yX9_init : MethodName := ⟨RX9, "<init>", "()V"⟩
abbrev cX9_set : ByteArray := prog_1_method_2_code
def yX9_set : MethodName := ⟨RX9, "set", "(II)I"⟩
abbrev cX9_draw : ByteArray := prog_1_method_3_code
def yX9_draw : MethodName := ⟨RX9, "draw", "(IIII)I"⟩
abbrev cX9_erase : ByteArray := prog_1_method_4_code
def yX9_erase : MethodName := ⟨RX9, "erase", "(I)I"⟩
abbrev cX9_piece : ByteArray := prog_1_method_5_code
def yX9_piece : MethodName := ⟨RX9, "piece", "(II)I"⟩
abbrev cX9_write : ByteArray := prog_1_method_6_code
def yX9_write : MethodName := ⟨RX9, "write", "(IIII)I"⟩
abbrev cX9_strike : ByteArray := prog_1_method_7_code
def yX9_strike : MethodName := ⟨RX9, "strike", "(I)I"⟩
abbrev cX9_word : ByteArray := prog_1_method_8_code
def yX9_word : MethodName := ⟨RX9, "word", "(II)I"⟩
abbrev cX9_rule : ByteArray := prog_1_method_9_code
def yX9_rule : MethodName := ⟨RX9, "rule", "(II)I"⟩
abbrev cX9_cross : ByteArray := prog_1_method_10_code
def yX9_cross : MethodName := ⟨RX9, "cross", "(II)I"⟩
abbrev cX9_table : ByteArray := prog_1_method_11_code
def yX9_table : MethodName := ⟨RX9, "table", "(II)I"⟩
abbrev cX9_edge : ByteArray := prog_1_method_12_code
def yX9_edge : MethodName := ⟨RX9, "edge", "(III)I"⟩
abbrev cX9_ruled : ByteArray := prog_1_method_13_code
def yX9_ruled : MethodName := ⟨RX9, "ruled", "(IIII)I"⟩
abbrev cX9_at : ByteArray := prog_1_method_14_code
def yX9_at : MethodName := ⟨RX9, "at", "(III)I"⟩
abbrev cX9_cell : ByteArray := prog_1_method_15_code
def yX9_cell : MethodName := ⟨RX9, "cell", "(III)I"⟩
abbrev cX9_read : ByteArray := prog_1_method_16_code
def yX9_read : MethodName := ⟨RX9, "read", "(III)I"⟩
abbrev cX9_missed : ByteArray := prog_1_method_17_code
def yX9_missed : MethodName := ⟨RX9, "missed", "(III)I"⟩
abbrev cX9_mend : ByteArray := prog_1_method_18_code
def yX9_mend : MethodName := ⟨RX9, "mend", "(I)I"⟩
abbrev cX9_heading : ByteArray := prog_1_method_19_code
def yX9_heading : MethodName := ⟨RX9, "heading", "(III)I"⟩
abbrev cX9_image : ByteArray := prog_1_method_20_code
def yX9_image : MethodName := ⟨RX9, "image", "(I)I"⟩
abbrev cX9_restore : ByteArray := prog_1_method_21_code
def yX9_restore : MethodName := ⟨RX9, "restore", "(I)I"⟩
abbrev cX9_told : ByteArray := prog_1_method_22_code
def yX9_told : MethodName := ⟨RX9, "told", "(I)I"⟩
abbrev cX9_found : ByteArray := prog_1_method_23_code
def yX9_found : MethodName := ⟨RX9, "found", "()LRuledTables$Finding;"⟩
abbrev cX9_isWay : ByteArray := prog_1_method_24_code
def yX9_isWay : MethodName := ⟨RX9, "isWay", "(I)Z"⟩
abbrev cX9_isPlace : ByteArray := prog_1_method_25_code
def yX9_isPlace : MethodName := ⟨RX9, "isPlace", "(I)Z"⟩
abbrev cX9_isStretch : ByteArray := prog_1_method_26_code
def yX9_isStretch : MethodName := ⟨RX9, "isStretch", "(II)Z"⟩
def RX10 : String := "RuledTablesModel"
def TX10 : u_T := fun k => match k with
  | 0 => ("RuledTablesModel", "drawn", "[I", true)
  | 1 => ("RuledTablesModel", "drawnMany", "I", false)
  | 2 => ("RuledTablesModel", "boxes", "[I", true)
  | 3 => ("RuledTablesModel", "boxMany", "I", false)
  | 4 => ("RuledTablesModel", "how", "[I", true)
  | 5 => ("RuledTablesModel", "isFound", "Z", false)
  | 6 => ("RuledTablesModel", "label", "[I", true)
  | 7 => ("RuledTablesModel", "rules", "[I", true)
  | 8 => ("RuledTablesModel", "ruleMany", "I", false)
  | 9 => ("RuledTablesModel", "ruleOf", "[I", true)
  | 10 => ("RuledTablesModel", "tableMany", "I", false)
  | 11 => ("RuledTablesModel", "lines", "[I", true)
  | 12 => ("RuledTablesModel", "lineMany", "[I", true)
  | 13 => ("RuledTablesModel", "fieldFrom", "[I", true)
  | 14 => ("RuledTablesModel", "cellFrom", "[I", true)
  | 15 => ("RuledTablesModel", "cellOf", "[I", true)
  | 16 => ("RuledTablesModel", "cells", "[I", true)
  | 17 => ("RuledTablesModel", "wordTable", "[I", true)
  | 18 => ("RuledTablesModel", "wordCell", "[I", true)
  | 19 => ("RuledTablesModel", "missedMany", "I", false)
  | 20 => ("RuledTablesModel", "missedCell", "I", false)
  | 21 => ("RuledTablesModel", "missedWay", "I", false)
  | 22 => ("RuledTablesModel", "missedLine", "I", false)
  | 23 => ("RuledTablesModel", "coming", "[I", true)
  | 24 => ("RuledTablesModel", "kept", "[I", true)
  | 25 => ("RuledTablesModel", "isKept", "[Z", true)
  | 26 => ("RuledTablesModel", "keptAt", "I", false)
  | _ => ("RuledTablesModel", "isWriting", "Z", false)
def tyX10 : Nat → FieldType := fun k => match k with
  | 0 => .array .int
  | 1 => .int
  | 2 => .array .int
  | 3 => .int
  | 4 => .array .int
  | 5 => .boolean
  | 6 => .array .int
  | 7 => .array .int
  | 8 => .int
  | 9 => .array .int
  | 10 => .int
  | 11 => .array .int
  | 12 => .array .int
  | 13 => .array .int
  | 14 => .array .int
  | 15 => .array .int
  | 16 => .array .int
  | 17 => .array .int
  | 18 => .array .int
  | 19 => .int
  | 20 => .int
  | 21 => .int
  | 22 => .int
  | 23 => .array .int
  | 24 => .array .int
  | 25 => .array .boolean
  | 26 => .int
  | _ => .boolean
theorem nmX10 : ∀ a, a < 28 → ∀ b, b < 28 → a ≠ b → (TX10 a).2.1 ≠ (TX10 b).2.1 := by decide +kernel
theorem tyX10_ok : ∀ k, k < 28 → parseFieldDescriptor (TX10 k).2.2.1 = some (tyX10 k) := by decide +kernel
abbrev cX10_init : ByteArray := prog_12_method_1_code
def yX10_init : MethodName := ⟨RX10, "<init>", "()V"⟩
abbrev cX10_in : ByteArray := prog_12_method_3_code
def yX10_in : MethodName := ⟨RX10, "in", "(JJJ)Z"⟩
abbrev cX10_less : ByteArray := prog_12_method_4_code
def yX10_less : MethodName := ⟨RX10, "less", "(II)I"⟩
abbrev cX10_greater : ByteArray := prog_12_method_5_code
def yX10_greater : MethodName := ⟨RX10, "greater", "(II)I"⟩
abbrev cX10_pieceAt : ByteArray := prog_12_method_6_code
def yX10_pieceAt : MethodName := ⟨RX10, "pieceAt", "(II)I"⟩
abbrev cX10_boxAt : ByteArray := prog_12_method_7_code
def yX10_boxAt : MethodName := ⟨RX10, "boxAt", "(II)I"⟩
abbrev cX10_set : ByteArray := prog_12_method_8_code
def yX10_set : MethodName := ⟨RX10, "set", "(II)I"⟩
abbrev cX10_isPlace : ByteArray := prog_12_method_9_code
def yX10_isPlace : MethodName := ⟨RX10, "isPlace", "(I)Z"⟩
abbrev cX10_addPiece : ByteArray := prog_12_method_10_code
def yX10_addPiece : MethodName := ⟨RX10, "addPiece", "(IIII)V"⟩
abbrev cX10_draw : ByteArray := prog_12_method_11_code
def yX10_draw : MethodName := ⟨RX10, "draw", "(IIII)I"⟩
abbrev cX10_erase : ByteArray := prog_12_method_12_code
def yX10_erase : MethodName := ⟨RX10, "erase", "(I)I"⟩
abbrev cX10_write : ByteArray := prog_12_method_13_code
def yX10_write : MethodName := ⟨RX10, "write", "(IIII)I"⟩
abbrev cX10_strike : ByteArray := prog_12_method_14_code
def yX10_strike : MethodName := ⟨RX10, "strike", "(I)I"⟩
abbrev cX10_ruleAt : ByteArray := prog_12_method_15_code
def yX10_ruleAt : MethodName := ⟨RX10, "ruleAt", "(II)I"⟩
abbrev cX10_isNear : ByteArray := prog_12_method_16_code
def yX10_isNear : MethodName := ⟨RX10, "isNear", "(II)Z"⟩
abbrev cX10_join : ByteArray := prog_12_method_17_code
def yX10_join : MethodName := ⟨RX10, "join", "(III)V"⟩
abbrev cX10_begin : ByteArray := prog_12_method_18_code
def yX10_begin : MethodName := ⟨RX10, "begin", "(I)V"⟩
abbrev cX10_addRule : ByteArray := prog_12_method_19_code
def yX10_addRule : MethodName := ⟨RX10, "addRule", "(I)V"⟩
abbrev cX10_isRuleBefore : ByteArray := prog_12_method_20_code
def yX10_isRuleBefore : MethodName := ⟨RX10, "isRuleBefore", "(II)Z"⟩
abbrev cX10_sortRules : ByteArray := prog_12_method_21_code
def yX10_sortRules : MethodName := ⟨RX10, "sortRules", "()V"⟩
abbrev cX10_findRules : ByteArray := prog_12_method_22_code
def yX10_findRules : MethodName := ⟨RX10, "findRules", "()V"⟩
abbrev cX10_lies : ByteArray := prog_12_method_23_code
def yX10_lies : MethodName := ⟨RX10, "lies", "(II)Z"⟩
abbrev cX10_isCross : ByteArray := prog_12_method_24_code
def yX10_isCross : MethodName := ⟨RX10, "isCross", "(II)Z"⟩
abbrev cX10_lineAt : ByteArray := prog_12_method_25_code
def yX10_lineAt : MethodName := ⟨RX10, "lineAt", "(III)I"⟩
abbrev cX10_rowsOf : ByteArray := prog_12_method_26_code
def yX10_rowsOf : MethodName := ⟨RX10, "rowsOf", "(I)I"⟩
abbrev cX10_columnsOf : ByteArray := prog_12_method_27_code
def yX10_columnsOf : MethodName := ⟨RX10, "columnsOf", "(I)I"⟩
abbrev cX10_countLines : ByteArray := prog_12_method_28_code
def yX10_countLines : MethodName := ⟨RX10, "countLines", "(II)I"⟩
abbrev cX10_layLines : ByteArray := prog_12_method_29_code
def yX10_layLines : MethodName := ⟨RX10, "layLines", "(II)V"⟩
abbrev cX10_findTables : ByteArray := prog_12_method_30_code
def yX10_findTables : MethodName := ⟨RX10, "findTables", "()V"⟩
abbrev cX10_reaches : ByteArray := prog_12_method_31_code
def yX10_reaches : MethodName := ⟨RX10, "reaches", "(IIIII)Z"⟩
abbrev cX10_isSide : ByteArray := prog_12_method_32_code
def yX10_isSide : MethodName := ⟨RX10, "isSide", "(IIII)Z"⟩
abbrev cX10_isRuled : ByteArray := prog_12_method_33_code
def yX10_isRuled : MethodName := ⟨RX10, "isRuled", "(IIII)Z"⟩
abbrev cX10_cellAt : ByteArray := prog_12_method_34_code
def yX10_cellAt : MethodName := ⟨RX10, "cellAt", "(II)I"⟩
abbrev cX10_addField : ByteArray := prog_12_method_35_code
def yX10_addField : MethodName := ⟨RX10, "addField", "(III)V"⟩
abbrev cX10_isOpen : ByteArray := prog_12_method_36_code
def yX10_isOpen : MethodName := ⟨RX10, "isOpen", "(III)Z"⟩
abbrev cX10_findCells : ByteArray := prog_12_method_37_code
def yX10_findCells : MethodName := ⟨RX10, "findCells", "(I)V"⟩
abbrev cX10_between : ByteArray := prog_12_method_38_code
def yX10_between : MethodName := ⟨RX10, "between", "(III)I"⟩
abbrev cX10_findWord : ByteArray := prog_12_method_39_code
def yX10_findWord : MethodName := ⟨RX10, "findWord", "(I)V"⟩
abbrev cX10_findAll : ByteArray := prog_12_method_40_code
def yX10_findAll : MethodName := ⟨RX10, "findAll", "()V"⟩
abbrev cX10_isTable : ByteArray := prog_12_method_41_code
def yX10_isTable : MethodName := ⟨RX10, "isTable", "(I)Z"⟩
abbrev cX10_isCell : ByteArray := prog_12_method_42_code
def yX10_isCell : MethodName := ⟨RX10, "isCell", "(II)Z"⟩
abbrev cX10_piece : ByteArray := prog_12_method_43_code
def yX10_piece : MethodName := ⟨RX10, "piece", "(II)I"⟩
abbrev cX10_word : ByteArray := prog_12_method_44_code
def yX10_word : MethodName := ⟨RX10, "word", "(II)I"⟩
abbrev cX10_isRule : ByteArray := prog_12_method_45_code
def yX10_isRule : MethodName := ⟨RX10, "isRule", "(I)Z"⟩
abbrev cX10_rule : ByteArray := prog_12_method_46_code
def yX10_rule : MethodName := ⟨RX10, "rule", "(II)I"⟩
abbrev cX10_cross : ByteArray := prog_12_method_47_code
def yX10_cross : MethodName := ⟨RX10, "cross", "(II)I"⟩
abbrev cX10_wordsBy : ByteArray := prog_12_method_48_code
def yX10_wordsBy : MethodName := ⟨RX10, "wordsBy", "(III)I"⟩
abbrev cX10_missBy : ByteArray := prog_12_method_49_code
def yX10_missBy : MethodName := ⟨RX10, "missBy", "(IIII)V"⟩
abbrev cX10_findMissed : ByteArray := prog_12_method_50_code
def yX10_findMissed : MethodName := ⟨RX10, "findMissed", "(II)V"⟩
abbrev cX10_missed : ByteArray := prog_12_method_51_code
def yX10_missed : MethodName := ⟨RX10, "missed", "(III)I"⟩
abbrev cX10_layComing : ByteArray := prog_12_method_52_code
def yX10_layComing : MethodName := ⟨RX10, "layComing", "(II)V"⟩
abbrev cX10_mend : ByteArray := prog_12_method_53_code
def yX10_mend : MethodName := ⟨RX10, "mend", "(I)I"⟩
abbrev cX10_isNarrow : ByteArray := prog_12_method_54_code
def yX10_isNarrow : MethodName := ⟨RX10, "isNarrow", "(II)Z"⟩
abbrev cX10_headsOf : ByteArray := prog_12_method_55_code
def yX10_headsOf : MethodName := ⟨RX10, "headsOf", "(I)I"⟩
abbrev cX10_rulesOf : ByteArray := prog_12_method_56_code
def yX10_rulesOf : MethodName := ⟨RX10, "rulesOf", "(I)I"⟩
abbrev cX10_wordsOf : ByteArray := prog_12_method_57_code
def yX10_wordsOf : MethodName := ⟨RX10, "wordsOf", "(I)I"⟩
abbrev cX10_wholeOf : ByteArray := prog_12_method_58_code
def yX10_wholeOf : MethodName := ⟨RX10, "wholeOf", "(I)I"⟩
abbrev cX10_table : ByteArray := prog_12_method_59_code
def yX10_table : MethodName := ⟨RX10, "table", "(II)I"⟩
abbrev cX10_edge : ByteArray := prog_12_method_60_code
def yX10_edge : MethodName := ⟨RX10, "edge", "(III)I"⟩
abbrev cX10_ruled : ByteArray := prog_12_method_61_code
def yX10_ruled : MethodName := ⟨RX10, "ruled", "(IIII)I"⟩
abbrev cX10_at : ByteArray := prog_12_method_62_code
def yX10_at : MethodName := ⟨RX10, "at", "(III)I"⟩
abbrev cX10_wordsIn : ByteArray := prog_12_method_63_code
def yX10_wordsIn : MethodName := ⟨RX10, "wordsIn", "(I)I"⟩
abbrev cX10_cell : ByteArray := prog_12_method_64_code
def yX10_cell : MethodName := ⟨RX10, "cell", "(III)I"⟩
abbrev cX10_isReadBefore : ByteArray := prog_12_method_65_code
def yX10_isReadBefore : MethodName := ⟨RX10, "isReadBefore", "(II)Z"⟩
abbrev cX10_isWordOf : ByteArray := prog_12_method_66_code
def yX10_isWordOf : MethodName := ⟨RX10, "isWordOf", "(II)Z"⟩
abbrev cX10_read : ByteArray := prog_12_method_67_code
def yX10_read : MethodName := ⟨RX10, "read", "(III)I"⟩
abbrev cX10_heading : ByteArray := prog_12_method_68_code
def yX10_heading : MethodName := ⟨RX10, "heading", "(III)I"⟩
abbrev cX10_pass : ByteArray := prog_12_method_69_code
def yX10_pass : MethodName := ⟨RX10, "pass", "(I)I"⟩
abbrev cX10_passRow : ByteArray := prog_12_method_70_code
def yX10_passRow : MethodName := ⟨RX10, "passRow", "([II)V"⟩
abbrev cX10_passAll : ByteArray := prog_12_method_71_code
def yX10_passAll : MethodName := ⟨RX10, "passAll", "()V"⟩
abbrev cX10_image : ByteArray := prog_12_method_72_code
def yX10_image : MethodName := ⟨RX10, "image", "(I)I"⟩
abbrev cX10_restore : ByteArray := prog_12_method_73_code
def yX10_restore : MethodName := ⟨RX10, "restore", "(I)I"⟩
abbrev cX10_told : ByteArray := prog_12_method_74_code
def yX10_told : MethodName := ⟨RX10, "told", "(I)I"⟩
abbrev vwCl : List vw_C := [(RX0, TX0, 5), (RX1, TX1, 1), (RX2, TX2, 2), (RX3, TX3, 3), (RX4, TX4, 5), (RX5, TX5, 3), (RX6, TX6, 9), (RX7, TX7, 3), (RX8, TX8, 12), (RX9, TX9, 5), (RX10, TX10, 28)]
def wtb : List Cond := lw_tbl.filter goodWord
theorem wt {w : Cond} (h : w ∈ lw_tbl) (hg : goodWord w = true) : w ∈ wtb := List.mem_filter.mpr ⟨h, hg⟩
theorem wtb_good {w : Cond} (h : w ∈ wtb) : w ∈ lw_tbl ∧ goodWord w = true := List.mem_filter.mp h
theorem wtb_in {ws : List Cond} (h : ∀ w ∈ ws, w ∈ wtb) : GoodIn wtb ws := fun w hw => ⟨h w hw, good_of_word (wtb_good (h w hw)).2⟩
theorem inX0 : ∀ w ∈ u_ws RX0 TX0 5, w ∈ wtb := by
  intro w hw
  obtain ⟨k, hk, rfl⟩ := List.mem_map.mp hw
  have hk := List.mem_range.mp hk
  match k, hk with
  | 0, _ => exact wt (List.mem_of_getElem? (i := 337) (by decide +kernel)) rfl
  | 1, _ => exact wt (List.mem_of_getElem? (i := 339) (by decide +kernel)) rfl
  | 2, _ => exact wt (List.mem_of_getElem? (i := 341) (by decide +kernel)) rfl
  | 3, _ => exact wt (List.mem_of_getElem? (i := 343) (by decide +kernel)) rfl
  | 4, _ => exact wt (List.mem_of_getElem? (i := 345) (by decide +kernel)) rfl
  | j + 5, h => omega
theorem inX1 : ∀ w ∈ u_ws RX1 TX1 1, w ∈ wtb := by
  intro w hw
  obtain ⟨k, hk, rfl⟩ := List.mem_map.mp hw
  have hk := List.mem_range.mp hk
  match k, hk with
  | 0, _ => exact wt (List.mem_of_getElem? (i := 164) (by decide +kernel)) rfl
  | j + 1, h => omega
theorem inX2 : ∀ w ∈ u_ws RX2 TX2 2, w ∈ wtb := by
  intro w hw
  obtain ⟨k, hk, rfl⟩ := List.mem_map.mp hw
  have hk := List.mem_range.mp hk
  match k, hk with
  | 0, _ => exact wt (List.mem_of_getElem? (i := 252) (by decide +kernel)) rfl
  | 1, _ => exact wt (List.mem_of_getElem? (i := 254) (by decide +kernel)) rfl
  | j + 2, h => omega
theorem inX3 : ∀ w ∈ u_ws RX3 TX3 3, w ∈ wtb := by
  intro w hw
  obtain ⟨k, hk, rfl⟩ := List.mem_map.mp hw
  have hk := List.mem_range.mp hk
  match k, hk with
  | 0, _ => exact wt (List.mem_of_getElem? (i := 141) (by decide +kernel)) rfl
  | 1, _ => exact wt (List.mem_of_getElem? (i := 143) (by decide +kernel)) rfl
  | 2, _ => exact wt (List.mem_of_getElem? (i := 145) (by decide +kernel)) rfl
  | j + 3, h => omega
theorem inX4 : ∀ w ∈ u_ws RX4 TX4 5, w ∈ wtb := by
  intro w hw
  obtain ⟨k, hk, rfl⟩ := List.mem_map.mp hw
  have hk := List.mem_range.mp hk
  match k, hk with
  | 0, _ => exact wt (List.mem_of_getElem? (i := 317) (by decide +kernel)) rfl
  | 1, _ => exact wt (List.mem_of_getElem? (i := 319) (by decide +kernel)) rfl
  | 2, _ => exact wt (List.mem_of_getElem? (i := 321) (by decide +kernel)) rfl
  | 3, _ => exact wt (List.mem_of_getElem? (i := 323) (by decide +kernel)) rfl
  | 4, _ => exact wt (List.mem_of_getElem? (i := 325) (by decide +kernel)) rfl
  | j + 5, h => omega
theorem inX5 : ∀ w ∈ u_ws RX5 TX5 3, w ∈ wtb := by
  intro w hw
  obtain ⟨k, hk, rfl⟩ := List.mem_map.mp hw
  have hk := List.mem_range.mp hk
  match k, hk with
  | 0, _ => exact wt (List.mem_of_getElem? (i := 114) (by decide +kernel)) rfl
  | 1, _ => exact wt (List.mem_of_getElem? (i := 116) (by decide +kernel)) rfl
  | 2, _ => exact wt (List.mem_of_getElem? (i := 118) (by decide +kernel)) rfl
  | j + 3, h => omega
theorem inX6 : ∀ w ∈ u_ws RX6 TX6 9, w ∈ wtb := by
  intro w hw
  obtain ⟨k, hk, rfl⟩ := List.mem_map.mp hw
  have hk := List.mem_range.mp hk
  match k, hk with
  | 0, _ => exact wt (List.mem_of_getElem? (i := 198) (by decide +kernel)) rfl
  | 1, _ => exact wt (List.mem_of_getElem? (i := 200) (by decide +kernel)) rfl
  | 2, _ => exact wt (List.mem_of_getElem? (i := 202) (by decide +kernel)) rfl
  | 3, _ => exact wt (List.mem_of_getElem? (i := 204) (by decide +kernel)) rfl
  | 4, _ => exact wt (List.mem_of_getElem? (i := 206) (by decide +kernel)) rfl
  | 5, _ => exact wt (List.mem_of_getElem? (i := 208) (by decide +kernel)) rfl
  | 6, _ => exact wt (List.mem_of_getElem? (i := 210) (by decide +kernel)) rfl
  | 7, _ => exact wt (List.mem_of_getElem? (i := 212) (by decide +kernel)) rfl
  | 8, _ => exact wt (List.mem_of_getElem? (i := 214) (by decide +kernel)) rfl
  | j + 9, h => omega
theorem inX7 : ∀ w ∈ u_ws RX7 TX7 3, w ∈ wtb := by
  intro w hw
  obtain ⟨k, hk, rfl⟩ := List.mem_map.mp hw
  have hk := List.mem_range.mp hk
  match k, hk with
  | 0, _ => exact wt (List.mem_of_getElem? (i := 225) (by decide +kernel)) rfl
  | 1, _ => exact wt (List.mem_of_getElem? (i := 227) (by decide +kernel)) rfl
  | 2, _ => exact wt (List.mem_of_getElem? (i := 229) (by decide +kernel)) rfl
  | j + 3, h => omega
theorem inX8 : ∀ w ∈ u_ws RX8 TX8 12, w ∈ wtb := by
  intro w hw
  obtain ⟨k, hk, rfl⟩ := List.mem_map.mp hw
  have hk := List.mem_range.mp hk
  match k, hk with
  | 0, _ => exact wt (List.mem_of_getElem? (i := 278) (by decide +kernel)) rfl
  | 1, _ => exact wt (List.mem_of_getElem? (i := 280) (by decide +kernel)) rfl
  | 2, _ => exact wt (List.mem_of_getElem? (i := 282) (by decide +kernel)) rfl
  | 3, _ => exact wt (List.mem_of_getElem? (i := 284) (by decide +kernel)) rfl
  | 4, _ => exact wt (List.mem_of_getElem? (i := 286) (by decide +kernel)) rfl
  | 5, _ => exact wt (List.mem_of_getElem? (i := 288) (by decide +kernel)) rfl
  | 6, _ => exact wt (List.mem_of_getElem? (i := 290) (by decide +kernel)) rfl
  | 7, _ => exact wt (List.mem_of_getElem? (i := 292) (by decide +kernel)) rfl
  | 8, _ => exact wt (List.mem_of_getElem? (i := 294) (by decide +kernel)) rfl
  | 9, _ => exact wt (List.mem_of_getElem? (i := 296) (by decide +kernel)) rfl
  | 10, _ => exact wt (List.mem_of_getElem? (i := 298) (by decide +kernel)) rfl
  | 11, _ => exact wt (List.mem_of_getElem? (i := 300) (by decide +kernel)) rfl
  | j + 12, h => omega
theorem inX9 : ∀ w ∈ u_ws RX9 TX9 5, w ∈ wtb := by
  intro w hw
  obtain ⟨k, hk, rfl⟩ := List.mem_map.mp hw
  have hk := List.mem_range.mp hk
  match k, hk with
  | 0, _ => exact wt (List.mem_of_getElem? (i := 353) (by decide +kernel)) rfl
  | 1, _ => exact wt (List.mem_of_getElem? (i := 355) (by decide +kernel)) rfl
  | 2, _ => exact wt (List.mem_of_getElem? (i := 357) (by decide +kernel)) rfl
  | 3, _ => exact wt (List.mem_of_getElem? (i := 359) (by decide +kernel)) rfl
  | 4, _ => exact wt (List.mem_of_getElem? (i := 361) (by decide +kernel)) rfl
  | j + 5, h => omega
theorem inX10 : ∀ w ∈ u_ws RX10 TX10 28, w ∈ wtb := by
  intro w hw
  obtain ⟨k, hk, rfl⟩ := List.mem_map.mp hw
  have hk := List.mem_range.mp hk
  match k, hk with
  | 0, _ => exact wt (List.mem_of_getElem? (i := 787) (by decide +kernel)) rfl
  | 1, _ => exact wt (List.mem_of_getElem? (i := 789) (by decide +kernel)) rfl
  | 2, _ => exact wt (List.mem_of_getElem? (i := 791) (by decide +kernel)) rfl
  | 3, _ => exact wt (List.mem_of_getElem? (i := 793) (by decide +kernel)) rfl
  | 4, _ => exact wt (List.mem_of_getElem? (i := 795) (by decide +kernel)) rfl
  | 5, _ => exact wt (List.mem_of_getElem? (i := 797) (by decide +kernel)) rfl
  | 6, _ => exact wt (List.mem_of_getElem? (i := 799) (by decide +kernel)) rfl
  | 7, _ => exact wt (List.mem_of_getElem? (i := 801) (by decide +kernel)) rfl
  | 8, _ => exact wt (List.mem_of_getElem? (i := 803) (by decide +kernel)) rfl
  | 9, _ => exact wt (List.mem_of_getElem? (i := 805) (by decide +kernel)) rfl
  | 10, _ => exact wt (List.mem_of_getElem? (i := 807) (by decide +kernel)) rfl
  | 11, _ => exact wt (List.mem_of_getElem? (i := 809) (by decide +kernel)) rfl
  | 12, _ => exact wt (List.mem_of_getElem? (i := 811) (by decide +kernel)) rfl
  | 13, _ => exact wt (List.mem_of_getElem? (i := 813) (by decide +kernel)) rfl
  | 14, _ => exact wt (List.mem_of_getElem? (i := 815) (by decide +kernel)) rfl
  | 15, _ => exact wt (List.mem_of_getElem? (i := 817) (by decide +kernel)) rfl
  | 16, _ => exact wt (List.mem_of_getElem? (i := 819) (by decide +kernel)) rfl
  | 17, _ => exact wt (List.mem_of_getElem? (i := 821) (by decide +kernel)) rfl
  | 18, _ => exact wt (List.mem_of_getElem? (i := 823) (by decide +kernel)) rfl
  | 19, _ => exact wt (List.mem_of_getElem? (i := 825) (by decide +kernel)) rfl
  | 20, _ => exact wt (List.mem_of_getElem? (i := 827) (by decide +kernel)) rfl
  | 21, _ => exact wt (List.mem_of_getElem? (i := 829) (by decide +kernel)) rfl
  | 22, _ => exact wt (List.mem_of_getElem? (i := 831) (by decide +kernel)) rfl
  | 23, _ => exact wt (List.mem_of_getElem? (i := 833) (by decide +kernel)) rfl
  | 24, _ => exact wt (List.mem_of_getElem? (i := 835) (by decide +kernel)) rfl
  | 25, _ => exact wt (List.mem_of_getElem? (i := 837) (by decide +kernel)) rfl
  | 26, _ => exact wt (List.mem_of_getElem? (i := 839) (by decide +kernel)) rfl
  | 27, _ => exact wt (List.mem_of_getElem? (i := 841) (by decide +kernel)) rfl
  | j + 28, h => omega
theorem kf0_20 : Cond.fieldLink RX0 20 "RuledTables$Finding" "groups" "LRuledTables$Groups;" ∈ wtb := wt (List.mem_of_getElem? (i := 328) (by decide +kernel)) rfl
theorem kf0_29 : Cond.fieldLink RX0 29 "RuledTables$Finding" "rules" "LRuledTables$Rules;" ∈ wtb := wt (List.mem_of_getElem? (i := 329) (by decide +kernel)) rfl
theorem kf0_35 : Cond.fieldLink RX0 35 "RuledTables$Finding" "tables" "[LRuledTables$Table;" ∈ wtb := wt (List.mem_of_getElem? (i := 331) (by decide +kernel)) rfl
theorem kf0_43 : Cond.fieldLink RX0 43 "RuledTables$Finding" "placing" "LRuledTables$Placing;" ∈ wtb := wt (List.mem_of_getElem? (i := 335) (by decide +kernel)) rfl
theorem kf0_47 : Cond.fieldLink RX0 47 "RuledTables$Finding" "tableCount" "I" ∈ wtb := wt (List.mem_of_getElem? (i := 333) (by decide +kernel)) rfl
theorem kf0_51 : Cond.fieldLink RX0 51 "RuledTables$Page" "settings" "[I" ∈ wtb := wt (List.mem_of_getElem? (i := 139) (by decide +kernel)) rfl
theorem kf0_72 : Cond.fieldLink RX0 72 "RuledTables$Page" "words" "LRuledTables$Rows;" ∈ wtb := wt (List.mem_of_getElem? (i := 135) (by decide +kernel)) rfl
theorem kf1_13 : Cond.fieldLink RX1 13 "RuledTables$Groups" "leads" "[I" ∈ wtb := wt (List.mem_of_getElem? (i := 163) (by decide +kernel)) rfl
theorem kf2_17 : Cond.fieldLink RX2 17 "RuledTables$Lines" "places" "[[I" ∈ wtb := wt (List.mem_of_getElem? (i := 249) (by decide +kernel)) rfl
theorem kf2_22 : Cond.fieldLink RX2 22 "RuledTables$Lines" "counts" "[I" ∈ wtb := wt (List.mem_of_getElem? (i := 250) (by decide +kernel)) rfl
theorem kf3_14 : Cond.fieldLink RX3 14 "RuledTables$Page" "pieces" "LRuledTables$Rows;" ∈ wtb := wt (List.mem_of_getElem? (i := 131) (by decide +kernel)) rfl
theorem kf3_20 : Cond.fieldLink RX3 20 "RuledTables$Page" "words" "LRuledTables$Rows;" ∈ wtb := wt (List.mem_of_getElem? (i := 134) (by decide +kernel)) rfl
theorem kf3_32 : Cond.fieldLink RX3 32 "RuledTables$Page" "settings" "[I" ∈ wtb := wt (List.mem_of_getElem? (i := 137) (by decide +kernel)) rfl
theorem kf4_9 : Cond.fieldLink RX4 9 "RuledTables$Placing" "tables" "[I" ∈ wtb := wt (List.mem_of_getElem? (i := 309) (by decide +kernel)) rfl
theorem kf4_15 : Cond.fieldLink RX4 15 "RuledTables$Placing" "cells" "[I" ∈ wtb := wt (List.mem_of_getElem? (i := 311) (by decide +kernel)) rfl
theorem kf4_18 : Cond.fieldLink RX4 18 "RuledTables$Placing" "order" "[I" ∈ wtb := wt (List.mem_of_getElem? (i := 313) (by decide +kernel)) rfl
theorem kf4_21 : Cond.fieldLink RX4 21 "RuledTables$Rows" "count" "I" ∈ wtb := wt (List.mem_of_getElem? (i := 110) (by decide +kernel)) rfl
theorem kf4_27 : Cond.fieldLink RX4 27 "RuledTables$Placing" "count" "I" ∈ wtb := wt (List.mem_of_getElem? (i := 314) (by decide +kernel)) rfl
theorem kf4_28 : Cond.fieldLink RX4 28 "RuledTables$Placing" "loose" "I" ∈ wtb := wt (List.mem_of_getElem? (i := 315) (by decide +kernel)) rfl
theorem kf4_43 : Cond.fieldLink RX4 43 "RuledTables$Table" "lines" "LRuledTables$Lines;" ∈ wtb := wt (List.mem_of_getElem? (i := 259) (by decide +kernel)) rfl
theorem kf4_61 : Cond.fieldLink RX4 61 "RuledTables$Table" "cells" "[[I" ∈ wtb := wt (List.mem_of_getElem? (i := 268) (by decide +kernel)) rfl
theorem kf4_64 : Cond.fieldLink RX4 64 "RuledTables$Table" "words" "I" ∈ wtb := wt (List.mem_of_getElem? (i := 276) (by decide +kernel)) rfl
theorem kf5_15 : Cond.fieldLink RX5 15 "RuledTables$Rows" "most" "I" ∈ wtb := wt (List.mem_of_getElem? (i := 109) (by decide +kernel)) rfl
theorem kf5_21 : Cond.fieldLink RX5 21 "RuledTables$Rows" "numbers" "[I" ∈ wtb := wt (List.mem_of_getElem? (i := 108) (by decide +kernel)) rfl
theorem kf5_25 : Cond.fieldLink RX5 25 "RuledTables$Rows" "count" "I" ∈ wtb := wt (List.mem_of_getElem? (i := 111) (by decide +kernel)) rfl
theorem kf6_15 : Cond.fieldLink RX6 15 "RuledTables$Rule" "way" "I" ∈ wtb := wt (List.mem_of_getElem? (i := 181) (by decide +kernel)) rfl
theorem kf6_21 : Cond.fieldLink RX6 21 "RuledTables$Rule" "at" "I" ∈ wtb := wt (List.mem_of_getElem? (i := 184) (by decide +kernel)) rfl
theorem kf6_24 : Cond.fieldLink RX6 24 "RuledTables$Rule" "from" "I" ∈ wtb := wt (List.mem_of_getElem? (i := 187) (by decide +kernel)) rfl
theorem kf6_27 : Cond.fieldLink RX6 27 "RuledTables$Rule" "to" "I" ∈ wtb := wt (List.mem_of_getElem? (i := 188) (by decide +kernel)) rfl
theorem kf6_30 : Cond.fieldLink RX6 30 "RuledTables$Rule" "longest" "I" ∈ wtb := wt (List.mem_of_getElem? (i := 189) (by decide +kernel)) rfl
theorem kf6_33 : Cond.fieldLink RX6 33 "RuledTables$Rule" "pieces" "I" ∈ wtb := wt (List.mem_of_getElem? (i := 190) (by decide +kernel)) rfl
theorem kf6_36 : Cond.fieldLink RX6 36 "RuledTables$Rule" "first" "I" ∈ wtb := wt (List.mem_of_getElem? (i := 191) (by decide +kernel)) rfl
theorem kf6_39 : Cond.fieldLink RX6 39 "RuledTables$Rule" "crossings" "I" ∈ wtb := wt (List.mem_of_getElem? (i := 193) (by decide +kernel)) rfl
theorem kf6_42 : Cond.fieldLink RX6 42 "RuledTables$Rule" "table" "I" ∈ wtb := wt (List.mem_of_getElem? (i := 195) (by decide +kernel)) rfl
theorem kf7_11 : Cond.fieldLink RX7 11 "RuledTables$Rules" "all" "[LRuledTables$Rule;" ∈ wtb := wt (List.mem_of_getElem? (i := 217) (by decide +kernel)) rfl
theorem kf7_18 : Cond.fieldLink RX7 18 "RuledTables$Rules" "ofPiece" "[I" ∈ wtb := wt (List.mem_of_getElem? (i := 220) (by decide +kernel)) rfl
theorem kf7_22 : Cond.fieldLink RX7 22 "RuledTables$Rules" "count" "I" ∈ wtb := wt (List.mem_of_getElem? (i := 222) (by decide +kernel)) rfl
theorem kf7_30 : Cond.fieldLink RX7 30 "RuledTables$Page" "pieces" "LRuledTables$Rows;" ∈ wtb := wt (List.mem_of_getElem? (i := 132) (by decide +kernel)) rfl
theorem kf7_43 : Cond.fieldLink RX7 43 "RuledTables$Rows" "count" "I" ∈ wtb := wt (List.mem_of_getElem? (i := 112) (by decide +kernel)) rfl
theorem kf7_56 : Cond.fieldLink RX7 56 "RuledTables$Page" "settings" "[I" ∈ wtb := wt (List.mem_of_getElem? (i := 140) (by decide +kernel)) rfl
theorem kf7_97 : Cond.fieldLink RX7 97 "RuledTables$Rule" "first" "I" ∈ wtb := wt (List.mem_of_getElem? (i := 192) (by decide +kernel)) rfl
theorem kf7_104 : Cond.fieldLink RX7 104 "RuledTables$Rule" "crossings" "I" ∈ wtb := wt (List.mem_of_getElem? (i := 194) (by decide +kernel)) rfl
theorem kf7_115 : Cond.fieldLink RX7 115 "RuledTables$Rule" "way" "I" ∈ wtb := wt (List.mem_of_getElem? (i := 183) (by decide +kernel)) rfl
theorem kf7_118 : Cond.fieldLink RX7 118 "RuledTables$Rule" "at" "I" ∈ wtb := wt (List.mem_of_getElem? (i := 186) (by decide +kernel)) rfl
theorem kf7_121 : Cond.fieldLink RX7 121 "RuledTables$Rule" "table" "I" ∈ wtb := wt (List.mem_of_getElem? (i := 197) (by decide +kernel)) rfl
theorem kf8_20 : Cond.fieldLink RX8 20 "RuledTables$Table" "lines" "LRuledTables$Lines;" ∈ wtb := wt (List.mem_of_getElem? (i := 258) (by decide +kernel)) rfl
theorem kf8_26 : Cond.fieldLink RX8 26 "RuledTables$Table" "sides" "[Z" ∈ wtb := wt (List.mem_of_getElem? (i := 265) (by decide +kernel)) rfl
theorem kf8_30 : Cond.fieldLink RX8 30 "RuledTables$Table" "fieldCells" "[I" ∈ wtb := wt (List.mem_of_getElem? (i := 266) (by decide +kernel)) rfl
theorem kf8_36 : Cond.fieldLink RX8 36 "RuledTables$Table" "cells" "[[I" ∈ wtb := wt (List.mem_of_getElem? (i := 267) (by decide +kernel)) rfl
theorem kf8_39 : Cond.fieldLink RX8 39 "RuledTables$Table" "missedLines" "[[I" ∈ wtb := wt (List.mem_of_getElem? (i := 271) (by decide +kernel)) rfl
theorem kf8_67 : Cond.fieldLink RX8 67 "RuledTables$Table" "heads" "I" ∈ wtb := wt (List.mem_of_getElem? (i := 277) (by decide +kernel)) rfl
theorem kf8_71 : Cond.fieldLink RX8 71 "RuledTables$Table" "words" "I" ∈ wtb := wt (List.mem_of_getElem? (i := 275) (by decide +kernel)) rfl
theorem kf8_74 : Cond.fieldLink RX8 74 "RuledTables$Table" "missedCount" "I" ∈ wtb := wt (List.mem_of_getElem? (i := 273) (by decide +kernel)) rfl
theorem kf8_80 : Cond.fieldLink RX8 80 "RuledTables$Table" "rules" "I" ∈ wtb := wt (List.mem_of_getElem? (i := 261) (by decide +kernel)) rfl
theorem kf8_83 : Cond.fieldLink RX8 83 "RuledTables$Rules" "count" "I" ∈ wtb := wt (List.mem_of_getElem? (i := 223) (by decide +kernel)) rfl
theorem kf8_88 : Cond.fieldLink RX8 88 "RuledTables$Rules" "all" "[LRuledTables$Rule;" ∈ wtb := wt (List.mem_of_getElem? (i := 218) (by decide +kernel)) rfl
theorem kf8_92 : Cond.fieldLink RX8 92 "RuledTables$Rule" "table" "I" ∈ wtb := wt (List.mem_of_getElem? (i := 196) (by decide +kernel)) rfl
theorem kf8_97 : Cond.fieldLink RX8 97 "RuledTables$Rule" "way" "I" ∈ wtb := wt (List.mem_of_getElem? (i := 182) (by decide +kernel)) rfl
theorem kf8_100 : Cond.fieldLink RX8 100 "RuledTables$Rule" "at" "I" ∈ wtb := wt (List.mem_of_getElem? (i := 185) (by decide +kernel)) rfl
theorem kf8_107 : Cond.fieldLink RX8 107 "RuledTables$Lines" "counts" "[I" ∈ wtb := wt (List.mem_of_getElem? (i := 251) (by decide +kernel)) rfl
theorem kf8_110 : Cond.fieldLink RX8 110 "RuledTables$Table" "rows" "I" ∈ wtb := wt (List.mem_of_getElem? (i := 262) (by decide +kernel)) rfl
theorem kf8_113 : Cond.fieldLink RX8 113 "RuledTables$Table" "columns" "I" ∈ wtb := wt (List.mem_of_getElem? (i := 263) (by decide +kernel)) rfl
theorem kf8_145 : Cond.fieldLink RX8 145 "RuledTables$Table" "cellCount" "I" ∈ wtb := wt (List.mem_of_getElem? (i := 270) (by decide +kernel)) rfl
theorem kf9_12 : Cond.fieldLink RX9 12 "RuledTables" "page" "LRuledTables$Page;" ∈ wtb := wt (List.mem_of_getElem? (i := 348) (by decide +kernel)) rfl
theorem kf9_16 : Cond.fieldLink RX9 16 "RuledTables" "images" "[LRuledTables$Page;" ∈ wtb := wt (List.mem_of_getElem? (i := 349) (by decide +kernel)) rfl
theorem kf9_20 : Cond.fieldLink RX9 20 "RuledTables" "kept" "[Z" ∈ wtb := wt (List.mem_of_getElem? (i := 350) (by decide +kernel)) rfl
theorem kf9_27 : Cond.fieldLink RX9 27 "RuledTables" "finding" "LRuledTables$Finding;" ∈ wtb := wt (List.mem_of_getElem? (i := 351) (by decide +kernel)) rfl
theorem kf9_31 : Cond.fieldLink RX9 31 "RuledTables" "stale" "Z" ∈ wtb := wt (List.mem_of_getElem? (i := 352) (by decide +kernel)) rfl
theorem kf9_35 : Cond.fieldLink RX9 35 "RuledTables" "MOST_SETTINGS" "[I" ∈ wtb := wt (List.mem_of_getElem? (i := 368) (by decide +kernel)) rfl
theorem kf9_39 : Cond.fieldLink RX9 39 "RuledTables$Page" "settings" "[I" ∈ wtb := wt (List.mem_of_getElem? (i := 138) (by decide +kernel)) rfl
theorem kf9_53 : Cond.fieldLink RX9 53 "RuledTables$Page" "pieces" "LRuledTables$Rows;" ∈ wtb := wt (List.mem_of_getElem? (i := 133) (by decide +kernel)) rfl
theorem kf9_67 : Cond.fieldLink RX9 67 "RuledTables$Rows" "count" "I" ∈ wtb := wt (List.mem_of_getElem? (i := 113) (by decide +kernel)) rfl
theorem kf9_86 : Cond.fieldLink RX9 86 "RuledTables$Finding" "rules" "LRuledTables$Rules;" ∈ wtb := wt (List.mem_of_getElem? (i := 330) (by decide +kernel)) rfl
theorem kf9_90 : Cond.fieldLink RX9 90 "RuledTables$Rules" "ofPiece" "[I" ∈ wtb := wt (List.mem_of_getElem? (i := 221) (by decide +kernel)) rfl
theorem kf9_95 : Cond.fieldLink RX9 95 "RuledTables$Page" "words" "LRuledTables$Rows;" ∈ wtb := wt (List.mem_of_getElem? (i := 136) (by decide +kernel)) rfl
theorem kf9_98 : Cond.fieldLink RX9 98 "RuledTables$Finding" "placing" "LRuledTables$Placing;" ∈ wtb := wt (List.mem_of_getElem? (i := 336) (by decide +kernel)) rfl
theorem kf9_102 : Cond.fieldLink RX9 102 "RuledTables$Placing" "tables" "[I" ∈ wtb := wt (List.mem_of_getElem? (i := 310) (by decide +kernel)) rfl
theorem kf9_107 : Cond.fieldLink RX9 107 "RuledTables$Placing" "cells" "[I" ∈ wtb := wt (List.mem_of_getElem? (i := 312) (by decide +kernel)) rfl
theorem kf9_111 : Cond.fieldLink RX9 111 "RuledTables$Rules" "all" "[LRuledTables$Rule;" ∈ wtb := wt (List.mem_of_getElem? (i := 219) (by decide +kernel)) rfl
theorem kf9_126 : Cond.fieldLink RX9 126 "RuledTables$Finding" "tables" "[LRuledTables$Table;" ∈ wtb := wt (List.mem_of_getElem? (i := 332) (by decide +kernel)) rfl
theorem kf9_132 : Cond.fieldLink RX9 132 "RuledTables$Table" "lines" "LRuledTables$Lines;" ∈ wtb := wt (List.mem_of_getElem? (i := 260) (by decide +kernel)) rfl
theorem kf9_155 : Cond.fieldLink RX9 155 "RuledTables$Table" "cells" "[[I" ∈ wtb := wt (List.mem_of_getElem? (i := 269) (by decide +kernel)) rfl
theorem kf9_161 : Cond.fieldLink RX9 161 "RuledTables$Table" "missedCount" "I" ∈ wtb := wt (List.mem_of_getElem? (i := 274) (by decide +kernel)) rfl
theorem kf9_164 : Cond.fieldLink RX9 164 "RuledTables$Table" "missedLines" "[[I" ∈ wtb := wt (List.mem_of_getElem? (i := 272) (by decide +kernel)) rfl
theorem kf9_171 : Cond.fieldLink RX9 171 "RuledTables$Table" "columns" "I" ∈ wtb := wt (List.mem_of_getElem? (i := 264) (by decide +kernel)) rfl
theorem kf9_181 : Cond.fieldLink RX9 181 "RuledTables$Rules" "count" "I" ∈ wtb := wt (List.mem_of_getElem? (i := 224) (by decide +kernel)) rfl
theorem kf9_182 : Cond.fieldLink RX9 182 "RuledTables$Finding" "tableCount" "I" ∈ wtb := wt (List.mem_of_getElem? (i := 334) (by decide +kernel)) rfl
theorem kf9_185 : Cond.fieldLink RX9 185 "RuledTables$Placing" "loose" "I" ∈ wtb := wt (List.mem_of_getElem? (i := 316) (by decide +kernel)) rfl
theorem kf10_7 : Cond.fieldLink RX10 7 "RuledTablesModel" "drawn" "[I" ∈ wtb := wt (List.mem_of_getElem? (i := 759) (by decide +kernel)) rfl
theorem kf10_13 : Cond.fieldLink RX10 13 "RuledTablesModel" "boxes" "[I" ∈ wtb := wt (List.mem_of_getElem? (i := 761) (by decide +kernel)) rfl
theorem kf10_16 : Cond.fieldLink RX10 16 "RuledTablesModel" "how" "[I" ∈ wtb := wt (List.mem_of_getElem? (i := 763) (by decide +kernel)) rfl
theorem kf10_19 : Cond.fieldLink RX10 19 "RuledTablesModel" "label" "[I" ∈ wtb := wt (List.mem_of_getElem? (i := 765) (by decide +kernel)) rfl
theorem kf10_22 : Cond.fieldLink RX10 22 "RuledTablesModel" "rules" "[I" ∈ wtb := wt (List.mem_of_getElem? (i := 766) (by decide +kernel)) rfl
theorem kf10_25 : Cond.fieldLink RX10 25 "RuledTablesModel" "ruleOf" "[I" ∈ wtb := wt (List.mem_of_getElem? (i := 768) (by decide +kernel)) rfl
theorem kf10_28 : Cond.fieldLink RX10 28 "RuledTablesModel" "lines" "[I" ∈ wtb := wt (List.mem_of_getElem? (i := 770) (by decide +kernel)) rfl
theorem kf10_31 : Cond.fieldLink RX10 31 "RuledTablesModel" "lineMany" "[I" ∈ wtb := wt (List.mem_of_getElem? (i := 771) (by decide +kernel)) rfl
theorem kf10_34 : Cond.fieldLink RX10 34 "RuledTablesModel" "fieldFrom" "[I" ∈ wtb := wt (List.mem_of_getElem? (i := 772) (by decide +kernel)) rfl
theorem kf10_37 : Cond.fieldLink RX10 37 "RuledTablesModel" "cellFrom" "[I" ∈ wtb := wt (List.mem_of_getElem? (i := 773) (by decide +kernel)) rfl
theorem kf10_40 : Cond.fieldLink RX10 40 "RuledTablesModel" "cellOf" "[I" ∈ wtb := wt (List.mem_of_getElem? (i := 774) (by decide +kernel)) rfl
theorem kf10_43 : Cond.fieldLink RX10 43 "RuledTablesModel" "cells" "[I" ∈ wtb := wt (List.mem_of_getElem? (i := 775) (by decide +kernel)) rfl
theorem kf10_46 : Cond.fieldLink RX10 46 "RuledTablesModel" "wordTable" "[I" ∈ wtb := wt (List.mem_of_getElem? (i := 776) (by decide +kernel)) rfl
theorem kf10_49 : Cond.fieldLink RX10 49 "RuledTablesModel" "wordCell" "[I" ∈ wtb := wt (List.mem_of_getElem? (i := 777) (by decide +kernel)) rfl
theorem kf10_52 : Cond.fieldLink RX10 52 "RuledTablesModel" "coming" "[I" ∈ wtb := wt (List.mem_of_getElem? (i := 782) (by decide +kernel)) rfl
theorem kf10_55 : Cond.fieldLink RX10 55 "RuledTablesModel" "kept" "[I" ∈ wtb := wt (List.mem_of_getElem? (i := 783) (by decide +kernel)) rfl
theorem kf10_58 : Cond.fieldLink RX10 58 "RuledTablesModel" "isKept" "[Z" ∈ wtb := wt (List.mem_of_getElem? (i := 784) (by decide +kernel)) rfl
theorem kf10_74 : Cond.fieldLink RX10 74 "RuledTablesModel" "isFound" "Z" ∈ wtb := wt (List.mem_of_getElem? (i := 764) (by decide +kernel)) rfl
theorem kf10_80 : Cond.fieldLink RX10 80 "RuledTablesModel" "drawnMany" "I" ∈ wtb := wt (List.mem_of_getElem? (i := 760) (by decide +kernel)) rfl
theorem kf10_92 : Cond.fieldLink RX10 92 "RuledTablesModel" "boxMany" "I" ∈ wtb := wt (List.mem_of_getElem? (i := 762) (by decide +kernel)) rfl
theorem kf10_105 : Cond.fieldLink RX10 105 "RuledTablesModel" "ruleMany" "I" ∈ wtb := wt (List.mem_of_getElem? (i := 767) (by decide +kernel)) rfl
theorem kf10_138 : Cond.fieldLink RX10 138 "RuledTablesModel" "tableMany" "I" ∈ wtb := wt (List.mem_of_getElem? (i := 769) (by decide +kernel)) rfl
theorem kf10_211 : Cond.fieldLink RX10 211 "RuledTablesModel" "missedMany" "I" ∈ wtb := wt (List.mem_of_getElem? (i := 778) (by decide +kernel)) rfl
theorem kf10_214 : Cond.fieldLink RX10 214 "RuledTablesModel" "missedCell" "I" ∈ wtb := wt (List.mem_of_getElem? (i := 779) (by decide +kernel)) rfl
theorem kf10_217 : Cond.fieldLink RX10 217 "RuledTablesModel" "missedWay" "I" ∈ wtb := wt (List.mem_of_getElem? (i := 780) (by decide +kernel)) rfl
theorem kf10_220 : Cond.fieldLink RX10 220 "RuledTablesModel" "missedLine" "I" ∈ wtb := wt (List.mem_of_getElem? (i := 781) (by decide +kernel)) rfl
theorem kf10_267 : Cond.fieldLink RX10 267 "RuledTablesModel" "isWriting" "Z" ∈ wtb := wt (List.mem_of_getElem? (i := 786) (by decide +kernel)) rfl
theorem kf10_270 : Cond.fieldLink RX10 270 "RuledTablesModel" "keptAt" "I" ∈ wtb := wt (List.mem_of_getElem? (i := 785) (by decide +kernel)) rfl
def okV (y : MethodName) (cc : ByteArray) (nL : Nat) (ret : Option FieldType) (n : Nat) : Prop := Cond.instanceMethod y ∈ wtb ∧ Cond.selects y.cls y y ∈ wtb ∧ Cond.initialized y.cls ∈ wtb ∧ Cond.code y cc nL ret ∈ wtb ∧ (y.cls ≠ "java/lang/invoke/MethodHandle" ∧ y.cls ≠ "java/lang/invoke/VarHandle" ∧ (parseMethodDescriptor y.desc).map (fun d => d.parameters.length) = some n)
def okS (y : MethodName) (cc : ByteArray) (nL : Nat) (ret : Option FieldType) (n : Nat) : Prop := Cond.static y ∈ wtb ∧ Cond.initialized y.cls ∈ wtb ∧ Cond.code y cc nL ret ∈ wtb ∧ (y.cls ≠ "java/lang/invoke/MethodHandle" ∧ y.cls ≠ "java/lang/invoke/VarHandle" ∧ (parseMethodDescriptor y.desc).map (fun d => d.parameters.length) = some n)
theorem ok_X9_set : okV yX9_set cX9_set 4 (some .int) 2 := ⟨wt (List.mem_of_getElem? (i := 365) (by decide +kernel)) rfl, wt (List.mem_of_getElem? (i := 366) (by decide +kernel)) rfl, wt (List.mem_of_getElem? (i := 73) (by decide +kernel)) rfl, wt (List.mem_of_getElem? (i := 367) (by decide +kernel)) rfl, by decide +kernel⟩
theorem ok_X9_draw : okV yX9_draw cX9_draw 5 (some .int) 4 := ⟨wt (List.mem_of_getElem? (i := 371) (by decide +kernel)) rfl, wt (List.mem_of_getElem? (i := 372) (by decide +kernel)) rfl, wt (List.mem_of_getElem? (i := 73) (by decide +kernel)) rfl, wt (List.mem_of_getElem? (i := 373) (by decide +kernel)) rfl, by decide +kernel⟩
theorem ok_X9_isWay : okS yX9_isWay cX9_isWay 1 (some .boolean) 1 := ⟨wt (List.mem_of_getElem? (i := 375) (by decide +kernel)) rfl, wt (List.mem_of_getElem? (i := 73) (by decide +kernel)) rfl, wt (List.mem_of_getElem? (i := 376) (by decide +kernel)) rfl, by decide +kernel⟩
theorem ok_X9_isPlace : okS yX9_isPlace cX9_isPlace 1 (some .boolean) 1 := ⟨wt (List.mem_of_getElem? (i := 378) (by decide +kernel)) rfl, wt (List.mem_of_getElem? (i := 73) (by decide +kernel)) rfl, wt (List.mem_of_getElem? (i := 379) (by decide +kernel)) rfl, by decide +kernel⟩
theorem ok_X9_isStretch : okS yX9_isStretch cX9_isStretch 2 (some .boolean) 2 := ⟨wt (List.mem_of_getElem? (i := 381) (by decide +kernel)) rfl, wt (List.mem_of_getElem? (i := 73) (by decide +kernel)) rfl, wt (List.mem_of_getElem? (i := 382) (by decide +kernel)) rfl, by decide +kernel⟩
theorem ok_X5_isFull : okV yX5_isFull cX5_isFull 1 (some .boolean) 0 := ⟨wt (List.mem_of_getElem? (i := 384) (by decide +kernel)) rfl, wt (List.mem_of_getElem? (i := 385) (by decide +kernel)) rfl, wt (List.mem_of_getElem? (i := 75) (by decide +kernel)) rfl, wt (List.mem_of_getElem? (i := 386) (by decide +kernel)) rfl, by decide +kernel⟩
theorem ok_X5_add : okV yX5_add cX5_add 6 none 4 := ⟨wt (List.mem_of_getElem? (i := 388) (by decide +kernel)) rfl, wt (List.mem_of_getElem? (i := 389) (by decide +kernel)) rfl, wt (List.mem_of_getElem? (i := 75) (by decide +kernel)) rfl, wt (List.mem_of_getElem? (i := 390) (by decide +kernel)) rfl, by decide +kernel⟩
theorem ok_X9_erase : okV yX9_erase cX9_erase 2 (some .int) 1 := ⟨wt (List.mem_of_getElem? (i := 393) (by decide +kernel)) rfl, wt (List.mem_of_getElem? (i := 394) (by decide +kernel)) rfl, wt (List.mem_of_getElem? (i := 73) (by decide +kernel)) rfl, wt (List.mem_of_getElem? (i := 395) (by decide +kernel)) rfl, by decide +kernel⟩
theorem ok_X5_has : okV yX5_has cX5_has 2 (some .boolean) 1 := ⟨wt (List.mem_of_getElem? (i := 397) (by decide +kernel)) rfl, wt (List.mem_of_getElem? (i := 398) (by decide +kernel)) rfl, wt (List.mem_of_getElem? (i := 75) (by decide +kernel)) rfl, wt (List.mem_of_getElem? (i := 399) (by decide +kernel)) rfl, by decide +kernel⟩
theorem ok_X5_remove : okV yX5_remove cX5_remove 4 none 1 := ⟨wt (List.mem_of_getElem? (i := 401) (by decide +kernel)) rfl, wt (List.mem_of_getElem? (i := 402) (by decide +kernel)) rfl, wt (List.mem_of_getElem? (i := 75) (by decide +kernel)) rfl, wt (List.mem_of_getElem? (i := 403) (by decide +kernel)) rfl, by decide +kernel⟩
theorem ok_X9_piece : okV yX9_piece cX9_piece 3 (some .int) 2 := ⟨wt (List.mem_of_getElem? (i := 406) (by decide +kernel)) rfl, wt (List.mem_of_getElem? (i := 407) (by decide +kernel)) rfl, wt (List.mem_of_getElem? (i := 73) (by decide +kernel)) rfl, wt (List.mem_of_getElem? (i := 408) (by decide +kernel)) rfl, by decide +kernel⟩
theorem ok_X5_number : okV yX5_number cX5_number 4 (some .int) 2 := ⟨wt (List.mem_of_getElem? (i := 410) (by decide +kernel)) rfl, wt (List.mem_of_getElem? (i := 411) (by decide +kernel)) rfl, wt (List.mem_of_getElem? (i := 75) (by decide +kernel)) rfl, wt (List.mem_of_getElem? (i := 412) (by decide +kernel)) rfl, by decide +kernel⟩
theorem ok_X9_found : okV yX9_found cX9_found 1 (some (.object "RuledTables$Finding")) 0 := ⟨wt (List.mem_of_getElem? (i := 415) (by decide +kernel)) rfl, wt (List.mem_of_getElem? (i := 0) (by decide +kernel)) rfl, wt (List.mem_of_getElem? (i := 73) (by decide +kernel)) rfl, wt (List.mem_of_getElem? (i := 416) (by decide +kernel)) rfl, by decide +kernel⟩
theorem ok_X0_find : okV yX0_find cX0_find 4 none 1 := ⟨wt (List.mem_of_getElem? (i := 418) (by decide +kernel)) rfl, wt (List.mem_of_getElem? (i := 419) (by decide +kernel)) rfl, wt (List.mem_of_getElem? (i := 77) (by decide +kernel)) rfl, wt (List.mem_of_getElem? (i := 420) (by decide +kernel)) rfl, by decide +kernel⟩
theorem ok_X7_find : okV yX7_find cX7_find 3 none 2 := ⟨wt (List.mem_of_getElem? (i := 422) (by decide +kernel)) rfl, wt (List.mem_of_getElem? (i := 423) (by decide +kernel)) rfl, wt (List.mem_of_getElem? (i := 79) (by decide +kernel)) rfl, wt (List.mem_of_getElem? (i := 424) (by decide +kernel)) rfl, by decide +kernel⟩
theorem ok_X7_joinNear : okS yX7_joinNear cX7_joinNear 5 none 2 := ⟨wt (List.mem_of_getElem? (i := 426) (by decide +kernel)) rfl, wt (List.mem_of_getElem? (i := 79) (by decide +kernel)) rfl, wt (List.mem_of_getElem? (i := 427) (by decide +kernel)) rfl, by decide +kernel⟩
theorem ok_X1_part : okV yX1_part cX1_part 3 none 1 := ⟨wt (List.mem_of_getElem? (i := 429) (by decide +kernel)) rfl, wt (List.mem_of_getElem? (i := 430) (by decide +kernel)) rfl, wt (List.mem_of_getElem? (i := 78) (by decide +kernel)) rfl, wt (List.mem_of_getElem? (i := 431) (by decide +kernel)) rfl, by decide +kernel⟩
theorem ok_X7_areNear : okS yX7_areNear cX7_areNear 7 (some .boolean) 4 := ⟨wt (List.mem_of_getElem? (i := 433) (by decide +kernel)) rfl, wt (List.mem_of_getElem? (i := 79) (by decide +kernel)) rfl, wt (List.mem_of_getElem? (i := 434) (by decide +kernel)) rfl, by decide +kernel⟩
theorem ok_X1_join : okV yX1_join cX1_join 5 none 2 := ⟨wt (List.mem_of_getElem? (i := 444) (by decide +kernel)) rfl, wt (List.mem_of_getElem? (i := 445) (by decide +kernel)) rfl, wt (List.mem_of_getElem? (i := 78) (by decide +kernel)) rfl, wt (List.mem_of_getElem? (i := 446) (by decide +kernel)) rfl, by decide +kernel⟩
theorem ok_X1_firstOf : okV yX1_firstOf cX1_firstOf 4 (some .int) 1 := ⟨wt (List.mem_of_getElem? (i := 448) (by decide +kernel)) rfl, wt (List.mem_of_getElem? (i := 449) (by decide +kernel)) rfl, wt (List.mem_of_getElem? (i := 78) (by decide +kernel)) rfl, wt (List.mem_of_getElem? (i := 450) (by decide +kernel)) rfl, by decide +kernel⟩
theorem ok_X7_gather : okV yX7_gather cX7_gather 5 none 2 := ⟨wt (List.mem_of_getElem? (i := 454) (by decide +kernel)) rfl, wt (List.mem_of_getElem? (i := 1) (by decide +kernel)) rfl, wt (List.mem_of_getElem? (i := 79) (by decide +kernel)) rfl, wt (List.mem_of_getElem? (i := 455) (by decide +kernel)) rfl, by decide +kernel⟩
theorem ok_X6_begin : okV yX6_begin cX6_begin 3 none 2 := ⟨wt (List.mem_of_getElem? (i := 458) (by decide +kernel)) rfl, wt (List.mem_of_getElem? (i := 459) (by decide +kernel)) rfl, wt (List.mem_of_getElem? (i := 80) (by decide +kernel)) rfl, wt (List.mem_of_getElem? (i := 460) (by decide +kernel)) rfl, by decide +kernel⟩
theorem ok_X6_takeIn : okV yX6_takeIn cX6_takeIn 5 none 2 := ⟨wt (List.mem_of_getElem? (i := 463) (by decide +kernel)) rfl, wt (List.mem_of_getElem? (i := 464) (by decide +kernel)) rfl, wt (List.mem_of_getElem? (i := 80) (by decide +kernel)) rfl, wt (List.mem_of_getElem? (i := 465) (by decide +kernel)) rfl, by decide +kernel⟩
theorem ok_X7_sort : okV yX7_sort cX7_sort 4 none 0 := ⟨wt (List.mem_of_getElem? (i := 470) (by decide +kernel)) rfl, wt (List.mem_of_getElem? (i := 2) (by decide +kernel)) rfl, wt (List.mem_of_getElem? (i := 79) (by decide +kernel)) rfl, wt (List.mem_of_getElem? (i := 471) (by decide +kernel)) rfl, by decide +kernel⟩
theorem ok_X6_comesBefore : okV yX6_comesBefore cX6_comesBefore 2 (some .boolean) 1 := ⟨wt (List.mem_of_getElem? (i := 473) (by decide +kernel)) rfl, wt (List.mem_of_getElem? (i := 474) (by decide +kernel)) rfl, wt (List.mem_of_getElem? (i := 80) (by decide +kernel)) rfl, wt (List.mem_of_getElem? (i := 475) (by decide +kernel)) rfl, by decide +kernel⟩
theorem ok_X7_tellPieces : okV yX7_tellPieces cX7_tellPieces 4 none 2 := ⟨wt (List.mem_of_getElem? (i := 478) (by decide +kernel)) rfl, wt (List.mem_of_getElem? (i := 3) (by decide +kernel)) rfl, wt (List.mem_of_getElem? (i := 79) (by decide +kernel)) rfl, wt (List.mem_of_getElem? (i := 479) (by decide +kernel)) rfl, by decide +kernel⟩
theorem ok_X7_joinCrossing : okV yX7_joinCrossing cX7_joinCrossing 5 none 2 := ⟨wt (List.mem_of_getElem? (i := 481) (by decide +kernel)) rfl, wt (List.mem_of_getElem? (i := 482) (by decide +kernel)) rfl, wt (List.mem_of_getElem? (i := 79) (by decide +kernel)) rfl, wt (List.mem_of_getElem? (i := 483) (by decide +kernel)) rfl, by decide +kernel⟩
theorem ok_X6_crosses : okV yX6_crosses cX6_crosses 3 (some .boolean) 2 := ⟨wt (List.mem_of_getElem? (i := 485) (by decide +kernel)) rfl, wt (List.mem_of_getElem? (i := 486) (by decide +kernel)) rfl, wt (List.mem_of_getElem? (i := 80) (by decide +kernel)) rfl, wt (List.mem_of_getElem? (i := 487) (by decide +kernel)) rfl, by decide +kernel⟩
theorem ok_X6_covers : okV yX6_covers cX6_covers 4 (some .boolean) 3 := ⟨wt (List.mem_of_getElem? (i := 489) (by decide +kernel)) rfl, wt (List.mem_of_getElem? (i := 490) (by decide +kernel)) rfl, wt (List.mem_of_getElem? (i := 80) (by decide +kernel)) rfl, wt (List.mem_of_getElem? (i := 491) (by decide +kernel)) rfl, by decide +kernel⟩
theorem ok_X7_numberTables : okV yX7_numberTables cX7_numberTables 5 (some .int) 1 := ⟨wt (List.mem_of_getElem? (i := 493) (by decide +kernel)) rfl, wt (List.mem_of_getElem? (i := 494) (by decide +kernel)) rfl, wt (List.mem_of_getElem? (i := 79) (by decide +kernel)) rfl, wt (List.mem_of_getElem? (i := 495) (by decide +kernel)) rfl, by decide +kernel⟩
theorem ok_X7_countPlaces : okV yX7_countPlaces cX7_countPlaces 8 (some .int) 3 := ⟨wt (List.mem_of_getElem? (i := 498) (by decide +kernel)) rfl, wt (List.mem_of_getElem? (i := 4) (by decide +kernel)) rfl, wt (List.mem_of_getElem? (i := 79) (by decide +kernel)) rfl, wt (List.mem_of_getElem? (i := 499) (by decide +kernel)) rfl, by decide +kernel⟩
theorem ok_X7_giveTable : okV yX7_giveTable cX7_giveTable 5 none 3 := ⟨wt (List.mem_of_getElem? (i := 502) (by decide +kernel)) rfl, wt (List.mem_of_getElem? (i := 5) (by decide +kernel)) rfl, wt (List.mem_of_getElem? (i := 79) (by decide +kernel)) rfl, wt (List.mem_of_getElem? (i := 503) (by decide +kernel)) rfl, by decide +kernel⟩
theorem ok_X8_find : okV yX8_find cX8_find 5 none 4 := ⟨wt (List.mem_of_getElem? (i := 505) (by decide +kernel)) rfl, wt (List.mem_of_getElem? (i := 506) (by decide +kernel)) rfl, wt (List.mem_of_getElem? (i := 81) (by decide +kernel)) rfl, wt (List.mem_of_getElem? (i := 507) (by decide +kernel)) rfl, by decide +kernel⟩
theorem ok_X8_takeLines : okV yX8_takeLines cX8_takeLines 4 none 2 := ⟨wt (List.mem_of_getElem? (i := 510) (by decide +kernel)) rfl, wt (List.mem_of_getElem? (i := 6) (by decide +kernel)) rfl, wt (List.mem_of_getElem? (i := 81) (by decide +kernel)) rfl, wt (List.mem_of_getElem? (i := 511) (by decide +kernel)) rfl, by decide +kernel⟩
theorem ok_X2_clear : okV yX2_clear cX2_clear 1 none 0 := ⟨wt (List.mem_of_getElem? (i := 513) (by decide +kernel)) rfl, wt (List.mem_of_getElem? (i := 514) (by decide +kernel)) rfl, wt (List.mem_of_getElem? (i := 82) (by decide +kernel)) rfl, wt (List.mem_of_getElem? (i := 515) (by decide +kernel)) rfl, by decide +kernel⟩
theorem ok_X2_add : okV yX2_add cX2_add 4 none 2 := ⟨wt (List.mem_of_getElem? (i := 517) (by decide +kernel)) rfl, wt (List.mem_of_getElem? (i := 518) (by decide +kernel)) rfl, wt (List.mem_of_getElem? (i := 82) (by decide +kernel)) rfl, wt (List.mem_of_getElem? (i := 519) (by decide +kernel)) rfl, by decide +kernel⟩
theorem ok_X8_markSides : okV yX8_markSides cX8_markSides 5 none 3 := ⟨wt (List.mem_of_getElem? (i := 522) (by decide +kernel)) rfl, wt (List.mem_of_getElem? (i := 7) (by decide +kernel)) rfl, wt (List.mem_of_getElem? (i := 81) (by decide +kernel)) rfl, wt (List.mem_of_getElem? (i := 523) (by decide +kernel)) rfl, by decide +kernel⟩
theorem ok_X8_markSidesOf : okV yX8_markSidesOf cX8_markSidesOf 7 none 2 := ⟨wt (List.mem_of_getElem? (i := 526) (by decide +kernel)) rfl, wt (List.mem_of_getElem? (i := 8) (by decide +kernel)) rfl, wt (List.mem_of_getElem? (i := 81) (by decide +kernel)) rfl, wt (List.mem_of_getElem? (i := 527) (by decide +kernel)) rfl, by decide +kernel⟩
theorem ok_X2_lineAt : okV yX2_lineAt cX2_lineAt 4 (some .int) 2 := ⟨wt (List.mem_of_getElem? (i := 529) (by decide +kernel)) rfl, wt (List.mem_of_getElem? (i := 530) (by decide +kernel)) rfl, wt (List.mem_of_getElem? (i := 82) (by decide +kernel)) rfl, wt (List.mem_of_getElem? (i := 531) (by decide +kernel)) rfl, by decide +kernel⟩
theorem ok_X8_sideOf : okV yX8_sideOf cX8_sideOf 7 (some .int) 3 := ⟨wt (List.mem_of_getElem? (i := 533) (by decide +kernel)) rfl, wt (List.mem_of_getElem? (i := 534) (by decide +kernel)) rfl, wt (List.mem_of_getElem? (i := 81) (by decide +kernel)) rfl, wt (List.mem_of_getElem? (i := 535) (by decide +kernel)) rfl, by decide +kernel⟩
theorem ok_X2_placeOf : okV yX2_placeOf cX2_placeOf 3 (some .int) 2 := ⟨wt (List.mem_of_getElem? (i := 537) (by decide +kernel)) rfl, wt (List.mem_of_getElem? (i := 538) (by decide +kernel)) rfl, wt (List.mem_of_getElem? (i := 82) (by decide +kernel)) rfl, wt (List.mem_of_getElem? (i := 539) (by decide +kernel)) rfl, by decide +kernel⟩
theorem ok_X8_joinFields : okV yX8_joinFields cX8_joinFields 5 none 1 := ⟨wt (List.mem_of_getElem? (i := 543) (by decide +kernel)) rfl, wt (List.mem_of_getElem? (i := 9) (by decide +kernel)) rfl, wt (List.mem_of_getElem? (i := 81) (by decide +kernel)) rfl, wt (List.mem_of_getElem? (i := 544) (by decide +kernel)) rfl, by decide +kernel⟩
theorem ok_X8_hasRuled : okV yX8_hasRuled cX8_hasRuled 5 (some .boolean) 3 := ⟨wt (List.mem_of_getElem? (i := 547) (by decide +kernel)) rfl, wt (List.mem_of_getElem? (i := 548) (by decide +kernel)) rfl, wt (List.mem_of_getElem? (i := 81) (by decide +kernel)) rfl, wt (List.mem_of_getElem? (i := 549) (by decide +kernel)) rfl, by decide +kernel⟩
theorem ok_X8_numberCells : okV yX8_numberCells cX8_numberCells 6 none 1 := ⟨wt (List.mem_of_getElem? (i := 553) (by decide +kernel)) rfl, wt (List.mem_of_getElem? (i := 10) (by decide +kernel)) rfl, wt (List.mem_of_getElem? (i := 81) (by decide +kernel)) rfl, wt (List.mem_of_getElem? (i := 554) (by decide +kernel)) rfl, by decide +kernel⟩
theorem ok_X8_beginCell : okV yX8_beginCell cX8_beginCell 3 none 2 := ⟨wt (List.mem_of_getElem? (i := 558) (by decide +kernel)) rfl, wt (List.mem_of_getElem? (i := 11) (by decide +kernel)) rfl, wt (List.mem_of_getElem? (i := 81) (by decide +kernel)) rfl, wt (List.mem_of_getElem? (i := 559) (by decide +kernel)) rfl, by decide +kernel⟩
theorem ok_X8_widenCell : okV yX8_widenCell cX8_widenCell 6 none 3 := ⟨wt (List.mem_of_getElem? (i := 562) (by decide +kernel)) rfl, wt (List.mem_of_getElem? (i := 12) (by decide +kernel)) rfl, wt (List.mem_of_getElem? (i := 81) (by decide +kernel)) rfl, wt (List.mem_of_getElem? (i := 563) (by decide +kernel)) rfl, by decide +kernel⟩
theorem ok_X8_markBroken : okV yX8_markBroken cX8_markBroken 2 none 0 := ⟨wt (List.mem_of_getElem? (i := 566) (by decide +kernel)) rfl, wt (List.mem_of_getElem? (i := 13) (by decide +kernel)) rfl, wt (List.mem_of_getElem? (i := 81) (by decide +kernel)) rfl, wt (List.mem_of_getElem? (i := 567) (by decide +kernel)) rfl, by decide +kernel⟩
theorem ok_X8_markOpen : okV yX8_markOpen cX8_markOpen 2 none 0 := ⟨wt (List.mem_of_getElem? (i := 570) (by decide +kernel)) rfl, wt (List.mem_of_getElem? (i := 14) (by decide +kernel)) rfl, wt (List.mem_of_getElem? (i := 81) (by decide +kernel)) rfl, wt (List.mem_of_getElem? (i := 571) (by decide +kernel)) rfl, by decide +kernel⟩
theorem ok_X8_cellOf : okV yX8_cellOf cX8_cellOf 4 (some .int) 2 := ⟨wt (List.mem_of_getElem? (i := 573) (by decide +kernel)) rfl, wt (List.mem_of_getElem? (i := 574) (by decide +kernel)) rfl, wt (List.mem_of_getElem? (i := 81) (by decide +kernel)) rfl, wt (List.mem_of_getElem? (i := 575) (by decide +kernel)) rfl, by decide +kernel⟩
theorem ok_X8_openUnless : okV yX8_openUnless cX8_openUnless 3 none 2 := ⟨wt (List.mem_of_getElem? (i := 578) (by decide +kernel)) rfl, wt (List.mem_of_getElem? (i := 15) (by decide +kernel)) rfl, wt (List.mem_of_getElem? (i := 81) (by decide +kernel)) rfl, wt (List.mem_of_getElem? (i := 579) (by decide +kernel)) rfl, by decide +kernel⟩
theorem ok_X8_hasCell : okV yX8_hasCell cX8_hasCell 2 (some .boolean) 1 := ⟨wt (List.mem_of_getElem? (i := 581) (by decide +kernel)) rfl, wt (List.mem_of_getElem? (i := 582) (by decide +kernel)) rfl, wt (List.mem_of_getElem? (i := 81) (by decide +kernel)) rfl, wt (List.mem_of_getElem? (i := 583) (by decide +kernel)) rfl, by decide +kernel⟩
theorem ok_X8_countHeads : okV yX8_countHeads cX8_countHeads 2 (some .int) 0 := ⟨wt (List.mem_of_getElem? (i := 586) (by decide +kernel)) rfl, wt (List.mem_of_getElem? (i := 16) (by decide +kernel)) rfl, wt (List.mem_of_getElem? (i := 81) (by decide +kernel)) rfl, wt (List.mem_of_getElem? (i := 587) (by decide +kernel)) rfl, by decide +kernel⟩
theorem ok_X8_isOneColumnWide : okV yX8_isOneColumnWide cX8_isOneColumnWide 3 (some .boolean) 1 := ⟨wt (List.mem_of_getElem? (i := 590) (by decide +kernel)) rfl, wt (List.mem_of_getElem? (i := 17) (by decide +kernel)) rfl, wt (List.mem_of_getElem? (i := 81) (by decide +kernel)) rfl, wt (List.mem_of_getElem? (i := 591) (by decide +kernel)) rfl, by decide +kernel⟩
theorem ok_X4_find : okV yX4_find cX4_find 5 none 3 := ⟨wt (List.mem_of_getElem? (i := 593) (by decide +kernel)) rfl, wt (List.mem_of_getElem? (i := 594) (by decide +kernel)) rfl, wt (List.mem_of_getElem? (i := 83) (by decide +kernel)) rfl, wt (List.mem_of_getElem? (i := 595) (by decide +kernel)) rfl, by decide +kernel⟩
theorem ok_X4_place : okV yX4_place cX4_place 12 none 4 := ⟨wt (List.mem_of_getElem? (i := 598) (by decide +kernel)) rfl, wt (List.mem_of_getElem? (i := 18) (by decide +kernel)) rfl, wt (List.mem_of_getElem? (i := 83) (by decide +kernel)) rfl, wt (List.mem_of_getElem? (i := 599) (by decide +kernel)) rfl, by decide +kernel⟩
theorem ok_X2_lineBefore : okV yX2_lineBefore cX2_lineBefore 4 (some .int) 2 := ⟨wt (List.mem_of_getElem? (i := 602) (by decide +kernel)) rfl, wt (List.mem_of_getElem? (i := 603) (by decide +kernel)) rfl, wt (List.mem_of_getElem? (i := 82) (by decide +kernel)) rfl, wt (List.mem_of_getElem? (i := 604) (by decide +kernel)) rfl, by decide +kernel⟩
theorem ok_X4_putInOrder : okV yX4_putInOrder cX4_putInOrder 4 none 2 := ⟨wt (List.mem_of_getElem? (i := 609) (by decide +kernel)) rfl, wt (List.mem_of_getElem? (i := 19) (by decide +kernel)) rfl, wt (List.mem_of_getElem? (i := 83) (by decide +kernel)) rfl, wt (List.mem_of_getElem? (i := 610) (by decide +kernel)) rfl, by decide +kernel⟩
theorem ok_X4_isReadBefore : okS yX4_isReadBefore cX4_isReadBefore 5 (some .boolean) 3 := ⟨wt (List.mem_of_getElem? (i := 612) (by decide +kernel)) rfl, wt (List.mem_of_getElem? (i := 83) (by decide +kernel)) rfl, wt (List.mem_of_getElem? (i := 613) (by decide +kernel)) rfl, by decide +kernel⟩
theorem ok_X8_findMissed : okV yX8_findMissed cX8_findMissed 5 none 3 := ⟨wt (List.mem_of_getElem? (i := 615) (by decide +kernel)) rfl, wt (List.mem_of_getElem? (i := 616) (by decide +kernel)) rfl, wt (List.mem_of_getElem? (i := 81) (by decide +kernel)) rfl, wt (List.mem_of_getElem? (i := 617) (by decide +kernel)) rfl, by decide +kernel⟩
theorem ok_X8_findMissedIn : okV yX8_findMissedIn cX8_findMissedIn 9 none 5 := ⟨wt (List.mem_of_getElem? (i := 620) (by decide +kernel)) rfl, wt (List.mem_of_getElem? (i := 20) (by decide +kernel)) rfl, wt (List.mem_of_getElem? (i := 81) (by decide +kernel)) rfl, wt (List.mem_of_getElem? (i := 621) (by decide +kernel)) rfl, by decide +kernel⟩
theorem ok_X4_keepClear : okV yX4_keepClear cX4_keepClear 11 (some .boolean) 5 := ⟨wt (List.mem_of_getElem? (i := 623) (by decide +kernel)) rfl, wt (List.mem_of_getElem? (i := 624) (by decide +kernel)) rfl, wt (List.mem_of_getElem? (i := 83) (by decide +kernel)) rfl, wt (List.mem_of_getElem? (i := 625) (by decide +kernel)) rfl, by decide +kernel⟩
theorem ok_X4_isIn : okV yX4_isIn cX4_isIn 4 (some .boolean) 3 := ⟨wt (List.mem_of_getElem? (i := 628) (by decide +kernel)) rfl, wt (List.mem_of_getElem? (i := 21) (by decide +kernel)) rfl, wt (List.mem_of_getElem? (i := 83) (by decide +kernel)) rfl, wt (List.mem_of_getElem? (i := 629) (by decide +kernel)) rfl, by decide +kernel⟩
theorem ok_X8_addMissed : okV yX8_addMissed cX8_addMissed 4 none 3 := ⟨wt (List.mem_of_getElem? (i := 632) (by decide +kernel)) rfl, wt (List.mem_of_getElem? (i := 22) (by decide +kernel)) rfl, wt (List.mem_of_getElem? (i := 81) (by decide +kernel)) rfl, wt (List.mem_of_getElem? (i := 633) (by decide +kernel)) rfl, by decide +kernel⟩
theorem ok_X9_write : okV yX9_write cX9_write 5 (some .int) 4 := ⟨wt (List.mem_of_getElem? (i := 635) (by decide +kernel)) rfl, wt (List.mem_of_getElem? (i := 636) (by decide +kernel)) rfl, wt (List.mem_of_getElem? (i := 73) (by decide +kernel)) rfl, wt (List.mem_of_getElem? (i := 637) (by decide +kernel)) rfl, by decide +kernel⟩
theorem ok_X9_strike : okV yX9_strike cX9_strike 2 (some .int) 1 := ⟨wt (List.mem_of_getElem? (i := 639) (by decide +kernel)) rfl, wt (List.mem_of_getElem? (i := 640) (by decide +kernel)) rfl, wt (List.mem_of_getElem? (i := 73) (by decide +kernel)) rfl, wt (List.mem_of_getElem? (i := 641) (by decide +kernel)) rfl, by decide +kernel⟩
theorem ok_X9_word : okV yX9_word cX9_word 4 (some .int) 2 := ⟨wt (List.mem_of_getElem? (i := 643) (by decide +kernel)) rfl, wt (List.mem_of_getElem? (i := 644) (by decide +kernel)) rfl, wt (List.mem_of_getElem? (i := 73) (by decide +kernel)) rfl, wt (List.mem_of_getElem? (i := 645) (by decide +kernel)) rfl, by decide +kernel⟩
theorem ok_X9_rule : okV yX9_rule cX9_rule 4 (some .int) 2 := ⟨wt (List.mem_of_getElem? (i := 647) (by decide +kernel)) rfl, wt (List.mem_of_getElem? (i := 648) (by decide +kernel)) rfl, wt (List.mem_of_getElem? (i := 73) (by decide +kernel)) rfl, wt (List.mem_of_getElem? (i := 649) (by decide +kernel)) rfl, by decide +kernel⟩
theorem ok_X7_has : okV yX7_has cX7_has 2 (some .boolean) 1 := ⟨wt (List.mem_of_getElem? (i := 651) (by decide +kernel)) rfl, wt (List.mem_of_getElem? (i := 652) (by decide +kernel)) rfl, wt (List.mem_of_getElem? (i := 79) (by decide +kernel)) rfl, wt (List.mem_of_getElem? (i := 653) (by decide +kernel)) rfl, by decide +kernel⟩
theorem ok_X6_tell : okV yX6_tell cX6_tell 2 (some .int) 1 := ⟨wt (List.mem_of_getElem? (i := 655) (by decide +kernel)) rfl, wt (List.mem_of_getElem? (i := 656) (by decide +kernel)) rfl, wt (List.mem_of_getElem? (i := 80) (by decide +kernel)) rfl, wt (List.mem_of_getElem? (i := 657) (by decide +kernel)) rfl, by decide +kernel⟩
theorem ok_X9_cross : okV yX9_cross cX9_cross 4 (some .int) 2 := ⟨wt (List.mem_of_getElem? (i := 659) (by decide +kernel)) rfl, wt (List.mem_of_getElem? (i := 660) (by decide +kernel)) rfl, wt (List.mem_of_getElem? (i := 73) (by decide +kernel)) rfl, wt (List.mem_of_getElem? (i := 661) (by decide +kernel)) rfl, by decide +kernel⟩
theorem ok_X9_table : okV yX9_table cX9_table 4 (some .int) 2 := ⟨wt (List.mem_of_getElem? (i := 664) (by decide +kernel)) rfl, wt (List.mem_of_getElem? (i := 665) (by decide +kernel)) rfl, wt (List.mem_of_getElem? (i := 73) (by decide +kernel)) rfl, wt (List.mem_of_getElem? (i := 666) (by decide +kernel)) rfl, by decide +kernel⟩
theorem ok_X0_has : okV yX0_has cX0_has 2 (some .boolean) 1 := ⟨wt (List.mem_of_getElem? (i := 668) (by decide +kernel)) rfl, wt (List.mem_of_getElem? (i := 669) (by decide +kernel)) rfl, wt (List.mem_of_getElem? (i := 77) (by decide +kernel)) rfl, wt (List.mem_of_getElem? (i := 670) (by decide +kernel)) rfl, by decide +kernel⟩
theorem ok_X8_tell : okV yX8_tell cX8_tell 2 (some .int) 1 := ⟨wt (List.mem_of_getElem? (i := 672) (by decide +kernel)) rfl, wt (List.mem_of_getElem? (i := 673) (by decide +kernel)) rfl, wt (List.mem_of_getElem? (i := 81) (by decide +kernel)) rfl, wt (List.mem_of_getElem? (i := 674) (by decide +kernel)) rfl, by decide +kernel⟩
theorem ok_X8_countWhole : okV yX8_countWhole cX8_countWhole 3 (some .int) 0 := ⟨wt (List.mem_of_getElem? (i := 677) (by decide +kernel)) rfl, wt (List.mem_of_getElem? (i := 23) (by decide +kernel)) rfl, wt (List.mem_of_getElem? (i := 81) (by decide +kernel)) rfl, wt (List.mem_of_getElem? (i := 678) (by decide +kernel)) rfl, by decide +kernel⟩
theorem ok_X9_edge : okV yX9_edge cX9_edge 5 (some .int) 3 := ⟨wt (List.mem_of_getElem? (i := 680) (by decide +kernel)) rfl, wt (List.mem_of_getElem? (i := 681) (by decide +kernel)) rfl, wt (List.mem_of_getElem? (i := 73) (by decide +kernel)) rfl, wt (List.mem_of_getElem? (i := 682) (by decide +kernel)) rfl, by decide +kernel⟩
theorem ok_X9_ruled : okV yX9_ruled cX9_ruled 7 (some .int) 4 := ⟨wt (List.mem_of_getElem? (i := 685) (by decide +kernel)) rfl, wt (List.mem_of_getElem? (i := 686) (by decide +kernel)) rfl, wt (List.mem_of_getElem? (i := 73) (by decide +kernel)) rfl, wt (List.mem_of_getElem? (i := 687) (by decide +kernel)) rfl, by decide +kernel⟩
theorem ok_X9_at : okV yX9_at cX9_at 6 (some .int) 3 := ⟨wt (List.mem_of_getElem? (i := 691) (by decide +kernel)) rfl, wt (List.mem_of_getElem? (i := 692) (by decide +kernel)) rfl, wt (List.mem_of_getElem? (i := 73) (by decide +kernel)) rfl, wt (List.mem_of_getElem? (i := 693) (by decide +kernel)) rfl, by decide +kernel⟩
theorem ok_X9_cell : okV yX9_cell cX9_cell 5 (some .int) 3 := ⟨wt (List.mem_of_getElem? (i := 696) (by decide +kernel)) rfl, wt (List.mem_of_getElem? (i := 697) (by decide +kernel)) rfl, wt (List.mem_of_getElem? (i := 73) (by decide +kernel)) rfl, wt (List.mem_of_getElem? (i := 698) (by decide +kernel)) rfl, by decide +kernel⟩
theorem ok_X9_read : okV yX9_read cX9_read 5 (some .int) 3 := ⟨wt (List.mem_of_getElem? (i := 701) (by decide +kernel)) rfl, wt (List.mem_of_getElem? (i := 702) (by decide +kernel)) rfl, wt (List.mem_of_getElem? (i := 73) (by decide +kernel)) rfl, wt (List.mem_of_getElem? (i := 703) (by decide +kernel)) rfl, by decide +kernel⟩
theorem ok_X4_wordRead : okV yX4_wordRead cX4_wordRead 6 (some .int) 3 := ⟨wt (List.mem_of_getElem? (i := 705) (by decide +kernel)) rfl, wt (List.mem_of_getElem? (i := 706) (by decide +kernel)) rfl, wt (List.mem_of_getElem? (i := 83) (by decide +kernel)) rfl, wt (List.mem_of_getElem? (i := 707) (by decide +kernel)) rfl, by decide +kernel⟩
theorem ok_X9_missed : okV yX9_missed cX9_missed 6 (some .int) 3 := ⟨wt (List.mem_of_getElem? (i := 709) (by decide +kernel)) rfl, wt (List.mem_of_getElem? (i := 710) (by decide +kernel)) rfl, wt (List.mem_of_getElem? (i := 73) (by decide +kernel)) rfl, wt (List.mem_of_getElem? (i := 711) (by decide +kernel)) rfl, by decide +kernel⟩
theorem ok_X9_mend : okV yX9_mend cX9_mend 5 (some .int) 1 := ⟨wt (List.mem_of_getElem? (i := 713) (by decide +kernel)) rfl, wt (List.mem_of_getElem? (i := 714) (by decide +kernel)) rfl, wt (List.mem_of_getElem? (i := 73) (by decide +kernel)) rfl, wt (List.mem_of_getElem? (i := 715) (by decide +kernel)) rfl, by decide +kernel⟩
theorem ok_X8_drawMissed : okV yX8_drawMissed cX8_drawMissed 9 none 2 := ⟨wt (List.mem_of_getElem? (i := 717) (by decide +kernel)) rfl, wt (List.mem_of_getElem? (i := 718) (by decide +kernel)) rfl, wt (List.mem_of_getElem? (i := 81) (by decide +kernel)) rfl, wt (List.mem_of_getElem? (i := 719) (by decide +kernel)) rfl, by decide +kernel⟩
theorem ok_X9_heading : okV yX9_heading cX9_heading 5 (some .int) 3 := ⟨wt (List.mem_of_getElem? (i := 722) (by decide +kernel)) rfl, wt (List.mem_of_getElem? (i := 723) (by decide +kernel)) rfl, wt (List.mem_of_getElem? (i := 73) (by decide +kernel)) rfl, wt (List.mem_of_getElem? (i := 724) (by decide +kernel)) rfl, by decide +kernel⟩
theorem ok_X8_headingOf : okV yX8_headingOf cX8_headingOf 5 (some .int) 2 := ⟨wt (List.mem_of_getElem? (i := 726) (by decide +kernel)) rfl, wt (List.mem_of_getElem? (i := 727) (by decide +kernel)) rfl, wt (List.mem_of_getElem? (i := 81) (by decide +kernel)) rfl, wt (List.mem_of_getElem? (i := 728) (by decide +kernel)) rfl, by decide +kernel⟩
theorem ok_X8_isFirstInColumn : okV yX8_isFirstInColumn cX8_isFirstInColumn 4 (some .boolean) 2 := ⟨wt (List.mem_of_getElem? (i := 731) (by decide +kernel)) rfl, wt (List.mem_of_getElem? (i := 24) (by decide +kernel)) rfl, wt (List.mem_of_getElem? (i := 81) (by decide +kernel)) rfl, wt (List.mem_of_getElem? (i := 732) (by decide +kernel)) rfl, by decide +kernel⟩
theorem ok_X9_image : okV yX9_image cX9_image 2 (some .int) 1 := ⟨wt (List.mem_of_getElem? (i := 734) (by decide +kernel)) rfl, wt (List.mem_of_getElem? (i := 735) (by decide +kernel)) rfl, wt (List.mem_of_getElem? (i := 73) (by decide +kernel)) rfl, wt (List.mem_of_getElem? (i := 736) (by decide +kernel)) rfl, by decide +kernel⟩
theorem ok_X3_take : okV yX3_take cX3_take 3 none 1 := ⟨wt (List.mem_of_getElem? (i := 738) (by decide +kernel)) rfl, wt (List.mem_of_getElem? (i := 739) (by decide +kernel)) rfl, wt (List.mem_of_getElem? (i := 74) (by decide +kernel)) rfl, wt (List.mem_of_getElem? (i := 740) (by decide +kernel)) rfl, by decide +kernel⟩
theorem ok_X5_take : okV yX5_take cX5_take 3 none 1 := ⟨wt (List.mem_of_getElem? (i := 742) (by decide +kernel)) rfl, wt (List.mem_of_getElem? (i := 743) (by decide +kernel)) rfl, wt (List.mem_of_getElem? (i := 75) (by decide +kernel)) rfl, wt (List.mem_of_getElem? (i := 744) (by decide +kernel)) rfl, by decide +kernel⟩
theorem ok_X9_restore : okV yX9_restore cX9_restore 2 (some .int) 1 := ⟨wt (List.mem_of_getElem? (i := 746) (by decide +kernel)) rfl, wt (List.mem_of_getElem? (i := 747) (by decide +kernel)) rfl, wt (List.mem_of_getElem? (i := 73) (by decide +kernel)) rfl, wt (List.mem_of_getElem? (i := 748) (by decide +kernel)) rfl, by decide +kernel⟩
theorem ok_X9_told : okV yX9_told cX9_told 2 (some .int) 1 := ⟨wt (List.mem_of_getElem? (i := 750) (by decide +kernel)) rfl, wt (List.mem_of_getElem? (i := 751) (by decide +kernel)) rfl, wt (List.mem_of_getElem? (i := 73) (by decide +kernel)) rfl, wt (List.mem_of_getElem? (i := 752) (by decide +kernel)) rfl, by decide +kernel⟩
theorem ok_X10_set : okV yX10_set cX10_set 4 (some .int) 2 := ⟨wt (List.mem_of_getElem? (i := 845) (by decide +kernel)) rfl, wt (List.mem_of_getElem? (i := 846) (by decide +kernel)) rfl, wt (List.mem_of_getElem? (i := 84) (by decide +kernel)) rfl, wt (List.mem_of_getElem? (i := 847) (by decide +kernel)) rfl, by decide +kernel⟩
theorem ok_X10_in : okS yX10_in cX10_in 6 (some .boolean) 3 := ⟨wt (List.mem_of_getElem? (i := 850) (by decide +kernel)) rfl, wt (List.mem_of_getElem? (i := 84) (by decide +kernel)) rfl, wt (List.mem_of_getElem? (i := 851) (by decide +kernel)) rfl, by decide +kernel⟩
theorem ok_X10_draw : okV yX10_draw cX10_draw 5 (some .int) 4 := ⟨wt (List.mem_of_getElem? (i := 856) (by decide +kernel)) rfl, wt (List.mem_of_getElem? (i := 857) (by decide +kernel)) rfl, wt (List.mem_of_getElem? (i := 84) (by decide +kernel)) rfl, wt (List.mem_of_getElem? (i := 858) (by decide +kernel)) rfl, by decide +kernel⟩
theorem ok_X10_isPlace : okS yX10_isPlace cX10_isPlace 1 (some .boolean) 1 := ⟨wt (List.mem_of_getElem? (i := 860) (by decide +kernel)) rfl, wt (List.mem_of_getElem? (i := 84) (by decide +kernel)) rfl, wt (List.mem_of_getElem? (i := 861) (by decide +kernel)) rfl, by decide +kernel⟩
theorem ok_X10_addPiece : okV yX10_addPiece cX10_addPiece 5 none 4 := ⟨wt (List.mem_of_getElem? (i := 865) (by decide +kernel)) rfl, wt (List.mem_of_getElem? (i := 25) (by decide +kernel)) rfl, wt (List.mem_of_getElem? (i := 84) (by decide +kernel)) rfl, wt (List.mem_of_getElem? (i := 866) (by decide +kernel)) rfl, by decide +kernel⟩
theorem ok_X10_erase : okV yX10_erase cX10_erase 3 (some .int) 1 := ⟨wt (List.mem_of_getElem? (i := 868) (by decide +kernel)) rfl, wt (List.mem_of_getElem? (i := 869) (by decide +kernel)) rfl, wt (List.mem_of_getElem? (i := 84) (by decide +kernel)) rfl, wt (List.mem_of_getElem? (i := 870) (by decide +kernel)) rfl, by decide +kernel⟩
theorem ok_X10_write : okV yX10_write cX10_write 5 (some .int) 4 := ⟨wt (List.mem_of_getElem? (i := 872) (by decide +kernel)) rfl, wt (List.mem_of_getElem? (i := 873) (by decide +kernel)) rfl, wt (List.mem_of_getElem? (i := 84) (by decide +kernel)) rfl, wt (List.mem_of_getElem? (i := 874) (by decide +kernel)) rfl, by decide +kernel⟩
theorem ok_X10_strike : okV yX10_strike cX10_strike 3 (some .int) 1 := ⟨wt (List.mem_of_getElem? (i := 876) (by decide +kernel)) rfl, wt (List.mem_of_getElem? (i := 877) (by decide +kernel)) rfl, wt (List.mem_of_getElem? (i := 84) (by decide +kernel)) rfl, wt (List.mem_of_getElem? (i := 878) (by decide +kernel)) rfl, by decide +kernel⟩
theorem ok_X10_piece : okV yX10_piece cX10_piece 3 (some .int) 2 := ⟨wt (List.mem_of_getElem? (i := 880) (by decide +kernel)) rfl, wt (List.mem_of_getElem? (i := 881) (by decide +kernel)) rfl, wt (List.mem_of_getElem? (i := 84) (by decide +kernel)) rfl, wt (List.mem_of_getElem? (i := 882) (by decide +kernel)) rfl, by decide +kernel⟩
theorem ok_X10_findAll : okV yX10_findAll cX10_findAll 2 none 0 := ⟨wt (List.mem_of_getElem? (i := 886) (by decide +kernel)) rfl, wt (List.mem_of_getElem? (i := 26) (by decide +kernel)) rfl, wt (List.mem_of_getElem? (i := 84) (by decide +kernel)) rfl, wt (List.mem_of_getElem? (i := 887) (by decide +kernel)) rfl, by decide +kernel⟩
theorem ok_X10_findRules : okV yX10_findRules cX10_findRules 3 none 0 := ⟨wt (List.mem_of_getElem? (i := 890) (by decide +kernel)) rfl, wt (List.mem_of_getElem? (i := 27) (by decide +kernel)) rfl, wt (List.mem_of_getElem? (i := 84) (by decide +kernel)) rfl, wt (List.mem_of_getElem? (i := 891) (by decide +kernel)) rfl, by decide +kernel⟩
theorem ok_X10_begin : okV yX10_begin cX10_begin 3 none 1 := ⟨wt (List.mem_of_getElem? (i := 894) (by decide +kernel)) rfl, wt (List.mem_of_getElem? (i := 28) (by decide +kernel)) rfl, wt (List.mem_of_getElem? (i := 84) (by decide +kernel)) rfl, wt (List.mem_of_getElem? (i := 895) (by decide +kernel)) rfl, by decide +kernel⟩
theorem ok_X10_isNear : okV yX10_isNear cX10_isNear 5 (some .boolean) 2 := ⟨wt (List.mem_of_getElem? (i := 898) (by decide +kernel)) rfl, wt (List.mem_of_getElem? (i := 29) (by decide +kernel)) rfl, wt (List.mem_of_getElem? (i := 84) (by decide +kernel)) rfl, wt (List.mem_of_getElem? (i := 899) (by decide +kernel)) rfl, by decide +kernel⟩
theorem ok_X10_pieceAt : okV yX10_pieceAt cX10_pieceAt 3 (some .int) 2 := ⟨wt (List.mem_of_getElem? (i := 902) (by decide +kernel)) rfl, wt (List.mem_of_getElem? (i := 30) (by decide +kernel)) rfl, wt (List.mem_of_getElem? (i := 84) (by decide +kernel)) rfl, wt (List.mem_of_getElem? (i := 903) (by decide +kernel)) rfl, by decide +kernel⟩
theorem ok_X10_greater : okS yX10_greater cX10_greater 2 (some .int) 2 := ⟨wt (List.mem_of_getElem? (i := 905) (by decide +kernel)) rfl, wt (List.mem_of_getElem? (i := 84) (by decide +kernel)) rfl, wt (List.mem_of_getElem? (i := 906) (by decide +kernel)) rfl, by decide +kernel⟩
theorem ok_X10_less : okS yX10_less cX10_less 2 (some .int) 2 := ⟨wt (List.mem_of_getElem? (i := 908) (by decide +kernel)) rfl, wt (List.mem_of_getElem? (i := 84) (by decide +kernel)) rfl, wt (List.mem_of_getElem? (i := 909) (by decide +kernel)) rfl, by decide +kernel⟩
theorem ok_X10_join : okV yX10_join cX10_join 7 none 3 := ⟨wt (List.mem_of_getElem? (i := 912) (by decide +kernel)) rfl, wt (List.mem_of_getElem? (i := 31) (by decide +kernel)) rfl, wt (List.mem_of_getElem? (i := 84) (by decide +kernel)) rfl, wt (List.mem_of_getElem? (i := 913) (by decide +kernel)) rfl, by decide +kernel⟩
theorem ok_X10_addRule : okV yX10_addRule cX10_addRule 6 none 1 := ⟨wt (List.mem_of_getElem? (i := 916) (by decide +kernel)) rfl, wt (List.mem_of_getElem? (i := 32) (by decide +kernel)) rfl, wt (List.mem_of_getElem? (i := 84) (by decide +kernel)) rfl, wt (List.mem_of_getElem? (i := 917) (by decide +kernel)) rfl, by decide +kernel⟩
theorem ok_X10_sortRules : okV yX10_sortRules cX10_sortRules 6 none 0 := ⟨wt (List.mem_of_getElem? (i := 920) (by decide +kernel)) rfl, wt (List.mem_of_getElem? (i := 33) (by decide +kernel)) rfl, wt (List.mem_of_getElem? (i := 84) (by decide +kernel)) rfl, wt (List.mem_of_getElem? (i := 921) (by decide +kernel)) rfl, by decide +kernel⟩
theorem ok_X10_isRuleBefore : okV yX10_isRuleBefore cX10_isRuleBefore 4 (some .boolean) 2 := ⟨wt (List.mem_of_getElem? (i := 924) (by decide +kernel)) rfl, wt (List.mem_of_getElem? (i := 34) (by decide +kernel)) rfl, wt (List.mem_of_getElem? (i := 84) (by decide +kernel)) rfl, wt (List.mem_of_getElem? (i := 925) (by decide +kernel)) rfl, by decide +kernel⟩
theorem ok_X10_ruleAt : okV yX10_ruleAt cX10_ruleAt 3 (some .int) 2 := ⟨wt (List.mem_of_getElem? (i := 928) (by decide +kernel)) rfl, wt (List.mem_of_getElem? (i := 35) (by decide +kernel)) rfl, wt (List.mem_of_getElem? (i := 84) (by decide +kernel)) rfl, wt (List.mem_of_getElem? (i := 929) (by decide +kernel)) rfl, by decide +kernel⟩
theorem ok_X10_findTables : okV yX10_findTables cX10_findTables 3 none 0 := ⟨wt (List.mem_of_getElem? (i := 932) (by decide +kernel)) rfl, wt (List.mem_of_getElem? (i := 36) (by decide +kernel)) rfl, wt (List.mem_of_getElem? (i := 84) (by decide +kernel)) rfl, wt (List.mem_of_getElem? (i := 933) (by decide +kernel)) rfl, by decide +kernel⟩
theorem ok_X10_isCross : okV yX10_isCross cX10_isCross 3 (some .boolean) 2 := ⟨wt (List.mem_of_getElem? (i := 936) (by decide +kernel)) rfl, wt (List.mem_of_getElem? (i := 37) (by decide +kernel)) rfl, wt (List.mem_of_getElem? (i := 84) (by decide +kernel)) rfl, wt (List.mem_of_getElem? (i := 937) (by decide +kernel)) rfl, by decide +kernel⟩
theorem ok_X10_lies : okV yX10_lies cX10_lies 3 (some .boolean) 2 := ⟨wt (List.mem_of_getElem? (i := 940) (by decide +kernel)) rfl, wt (List.mem_of_getElem? (i := 38) (by decide +kernel)) rfl, wt (List.mem_of_getElem? (i := 84) (by decide +kernel)) rfl, wt (List.mem_of_getElem? (i := 941) (by decide +kernel)) rfl, by decide +kernel⟩
theorem ok_X10_countLines : okV yX10_countLines cX10_countLines 7 (some .int) 2 := ⟨wt (List.mem_of_getElem? (i := 944) (by decide +kernel)) rfl, wt (List.mem_of_getElem? (i := 39) (by decide +kernel)) rfl, wt (List.mem_of_getElem? (i := 84) (by decide +kernel)) rfl, wt (List.mem_of_getElem? (i := 945) (by decide +kernel)) rfl, by decide +kernel⟩
theorem ok_X10_layLines : okV yX10_layLines cX10_layLines 6 none 2 := ⟨wt (List.mem_of_getElem? (i := 948) (by decide +kernel)) rfl, wt (List.mem_of_getElem? (i := 40) (by decide +kernel)) rfl, wt (List.mem_of_getElem? (i := 84) (by decide +kernel)) rfl, wt (List.mem_of_getElem? (i := 949) (by decide +kernel)) rfl, by decide +kernel⟩
theorem ok_X10_findCells : okV yX10_findCells cX10_findCells 7 none 1 := ⟨wt (List.mem_of_getElem? (i := 952) (by decide +kernel)) rfl, wt (List.mem_of_getElem? (i := 41) (by decide +kernel)) rfl, wt (List.mem_of_getElem? (i := 84) (by decide +kernel)) rfl, wt (List.mem_of_getElem? (i := 953) (by decide +kernel)) rfl, by decide +kernel⟩
theorem ok_X10_columnsOf : okV yX10_columnsOf cX10_columnsOf 2 (some .int) 1 := ⟨wt (List.mem_of_getElem? (i := 956) (by decide +kernel)) rfl, wt (List.mem_of_getElem? (i := 42) (by decide +kernel)) rfl, wt (List.mem_of_getElem? (i := 84) (by decide +kernel)) rfl, wt (List.mem_of_getElem? (i := 957) (by decide +kernel)) rfl, by decide +kernel⟩
theorem ok_X10_rowsOf : okV yX10_rowsOf cX10_rowsOf 2 (some .int) 1 := ⟨wt (List.mem_of_getElem? (i := 960) (by decide +kernel)) rfl, wt (List.mem_of_getElem? (i := 43) (by decide +kernel)) rfl, wt (List.mem_of_getElem? (i := 84) (by decide +kernel)) rfl, wt (List.mem_of_getElem? (i := 961) (by decide +kernel)) rfl, by decide +kernel⟩
theorem ok_X10_isRuled : okV yX10_isRuled cX10_isRuled 6 (some .boolean) 4 := ⟨wt (List.mem_of_getElem? (i := 964) (by decide +kernel)) rfl, wt (List.mem_of_getElem? (i := 44) (by decide +kernel)) rfl, wt (List.mem_of_getElem? (i := 84) (by decide +kernel)) rfl, wt (List.mem_of_getElem? (i := 965) (by decide +kernel)) rfl, by decide +kernel⟩
theorem ok_X10_lineAt : okV yX10_lineAt cX10_lineAt 4 (some .int) 3 := ⟨wt (List.mem_of_getElem? (i := 968) (by decide +kernel)) rfl, wt (List.mem_of_getElem? (i := 45) (by decide +kernel)) rfl, wt (List.mem_of_getElem? (i := 84) (by decide +kernel)) rfl, wt (List.mem_of_getElem? (i := 969) (by decide +kernel)) rfl, by decide +kernel⟩
theorem ok_X10_reaches : okV yX10_reaches cX10_reaches 9 (some .boolean) 5 := ⟨wt (List.mem_of_getElem? (i := 972) (by decide +kernel)) rfl, wt (List.mem_of_getElem? (i := 46) (by decide +kernel)) rfl, wt (List.mem_of_getElem? (i := 84) (by decide +kernel)) rfl, wt (List.mem_of_getElem? (i := 973) (by decide +kernel)) rfl, by decide +kernel⟩
theorem ok_X10_addField : okV yX10_addField cX10_addField 8 none 3 := ⟨wt (List.mem_of_getElem? (i := 976) (by decide +kernel)) rfl, wt (List.mem_of_getElem? (i := 47) (by decide +kernel)) rfl, wt (List.mem_of_getElem? (i := 84) (by decide +kernel)) rfl, wt (List.mem_of_getElem? (i := 977) (by decide +kernel)) rfl, by decide +kernel⟩
theorem ok_X10_isOpen : okV yX10_isOpen cX10_isOpen 8 (some .boolean) 3 := ⟨wt (List.mem_of_getElem? (i := 980) (by decide +kernel)) rfl, wt (List.mem_of_getElem? (i := 48) (by decide +kernel)) rfl, wt (List.mem_of_getElem? (i := 84) (by decide +kernel)) rfl, wt (List.mem_of_getElem? (i := 981) (by decide +kernel)) rfl, by decide +kernel⟩
theorem ok_X10_cellAt : okV yX10_cellAt cX10_cellAt 3 (some .int) 2 := ⟨wt (List.mem_of_getElem? (i := 984) (by decide +kernel)) rfl, wt (List.mem_of_getElem? (i := 49) (by decide +kernel)) rfl, wt (List.mem_of_getElem? (i := 84) (by decide +kernel)) rfl, wt (List.mem_of_getElem? (i := 985) (by decide +kernel)) rfl, by decide +kernel⟩
theorem ok_X10_findWord : okV yX10_findWord cX10_findWord 5 none 1 := ⟨wt (List.mem_of_getElem? (i := 988) (by decide +kernel)) rfl, wt (List.mem_of_getElem? (i := 50) (by decide +kernel)) rfl, wt (List.mem_of_getElem? (i := 84) (by decide +kernel)) rfl, wt (List.mem_of_getElem? (i := 989) (by decide +kernel)) rfl, by decide +kernel⟩
theorem ok_X10_boxAt : okV yX10_boxAt cX10_boxAt 3 (some .int) 2 := ⟨wt (List.mem_of_getElem? (i := 992) (by decide +kernel)) rfl, wt (List.mem_of_getElem? (i := 51) (by decide +kernel)) rfl, wt (List.mem_of_getElem? (i := 84) (by decide +kernel)) rfl, wt (List.mem_of_getElem? (i := 993) (by decide +kernel)) rfl, by decide +kernel⟩
theorem ok_X10_between : okV yX10_between cX10_between 5 (some .int) 3 := ⟨wt (List.mem_of_getElem? (i := 996) (by decide +kernel)) rfl, wt (List.mem_of_getElem? (i := 52) (by decide +kernel)) rfl, wt (List.mem_of_getElem? (i := 84) (by decide +kernel)) rfl, wt (List.mem_of_getElem? (i := 997) (by decide +kernel)) rfl, by decide +kernel⟩
theorem ok_X10_word : okV yX10_word cX10_word 4 (some .int) 2 := ⟨wt (List.mem_of_getElem? (i := 999) (by decide +kernel)) rfl, wt (List.mem_of_getElem? (i := 1000) (by decide +kernel)) rfl, wt (List.mem_of_getElem? (i := 84) (by decide +kernel)) rfl, wt (List.mem_of_getElem? (i := 1001) (by decide +kernel)) rfl, by decide +kernel⟩
theorem ok_X10_rule : okV yX10_rule cX10_rule 5 (some .int) 2 := ⟨wt (List.mem_of_getElem? (i := 1003) (by decide +kernel)) rfl, wt (List.mem_of_getElem? (i := 1004) (by decide +kernel)) rfl, wt (List.mem_of_getElem? (i := 84) (by decide +kernel)) rfl, wt (List.mem_of_getElem? (i := 1005) (by decide +kernel)) rfl, by decide +kernel⟩
theorem ok_X10_isRule : okV yX10_isRule cX10_isRule 2 (some .boolean) 1 := ⟨wt (List.mem_of_getElem? (i := 1008) (by decide +kernel)) rfl, wt (List.mem_of_getElem? (i := 53) (by decide +kernel)) rfl, wt (List.mem_of_getElem? (i := 84) (by decide +kernel)) rfl, wt (List.mem_of_getElem? (i := 1009) (by decide +kernel)) rfl, by decide +kernel⟩
theorem ok_X10_cross : okV yX10_cross cX10_cross 3 (some .int) 2 := ⟨wt (List.mem_of_getElem? (i := 1012) (by decide +kernel)) rfl, wt (List.mem_of_getElem? (i := 1013) (by decide +kernel)) rfl, wt (List.mem_of_getElem? (i := 84) (by decide +kernel)) rfl, wt (List.mem_of_getElem? (i := 1014) (by decide +kernel)) rfl, by decide +kernel⟩
theorem ok_X10_missed : okV yX10_missed cX10_missed 4 (some .int) 3 := ⟨wt (List.mem_of_getElem? (i := 1016) (by decide +kernel)) rfl, wt (List.mem_of_getElem? (i := 1017) (by decide +kernel)) rfl, wt (List.mem_of_getElem? (i := 84) (by decide +kernel)) rfl, wt (List.mem_of_getElem? (i := 1018) (by decide +kernel)) rfl, by decide +kernel⟩
theorem ok_X10_isTable : okV yX10_isTable cX10_isTable 2 (some .boolean) 1 := ⟨wt (List.mem_of_getElem? (i := 1021) (by decide +kernel)) rfl, wt (List.mem_of_getElem? (i := 54) (by decide +kernel)) rfl, wt (List.mem_of_getElem? (i := 84) (by decide +kernel)) rfl, wt (List.mem_of_getElem? (i := 1022) (by decide +kernel)) rfl, by decide +kernel⟩
theorem ok_X10_findMissed : okV yX10_findMissed cX10_findMissed 4 none 2 := ⟨wt (List.mem_of_getElem? (i := 1025) (by decide +kernel)) rfl, wt (List.mem_of_getElem? (i := 55) (by decide +kernel)) rfl, wt (List.mem_of_getElem? (i := 84) (by decide +kernel)) rfl, wt (List.mem_of_getElem? (i := 1026) (by decide +kernel)) rfl, by decide +kernel⟩
theorem ok_X10_missBy : okV yX10_missBy cX10_missBy 8 none 4 := ⟨wt (List.mem_of_getElem? (i := 1029) (by decide +kernel)) rfl, wt (List.mem_of_getElem? (i := 56) (by decide +kernel)) rfl, wt (List.mem_of_getElem? (i := 84) (by decide +kernel)) rfl, wt (List.mem_of_getElem? (i := 1030) (by decide +kernel)) rfl, by decide +kernel⟩
theorem ok_X10_wordsBy : okV yX10_wordsBy cX10_wordsBy 7 (some .int) 3 := ⟨wt (List.mem_of_getElem? (i := 1033) (by decide +kernel)) rfl, wt (List.mem_of_getElem? (i := 57) (by decide +kernel)) rfl, wt (List.mem_of_getElem? (i := 84) (by decide +kernel)) rfl, wt (List.mem_of_getElem? (i := 1034) (by decide +kernel)) rfl, by decide +kernel⟩
theorem ok_X10_mend : okV yX10_mend cX10_mend 4 (some .int) 1 := ⟨wt (List.mem_of_getElem? (i := 1036) (by decide +kernel)) rfl, wt (List.mem_of_getElem? (i := 1037) (by decide +kernel)) rfl, wt (List.mem_of_getElem? (i := 84) (by decide +kernel)) rfl, wt (List.mem_of_getElem? (i := 1038) (by decide +kernel)) rfl, by decide +kernel⟩
theorem ok_X10_layComing : okV yX10_layComing cX10_layComing 5 none 2 := ⟨wt (List.mem_of_getElem? (i := 1041) (by decide +kernel)) rfl, wt (List.mem_of_getElem? (i := 58) (by decide +kernel)) rfl, wt (List.mem_of_getElem? (i := 84) (by decide +kernel)) rfl, wt (List.mem_of_getElem? (i := 1042) (by decide +kernel)) rfl, by decide +kernel⟩
theorem ok_X10_table : okV yX10_table cX10_table 3 (some .int) 2 := ⟨wt (List.mem_of_getElem? (i := 1044) (by decide +kernel)) rfl, wt (List.mem_of_getElem? (i := 1045) (by decide +kernel)) rfl, wt (List.mem_of_getElem? (i := 84) (by decide +kernel)) rfl, wt (List.mem_of_getElem? (i := 1046) (by decide +kernel)) rfl, by decide +kernel⟩
theorem ok_X10_rulesOf : okV yX10_rulesOf cX10_rulesOf 4 (some .int) 1 := ⟨wt (List.mem_of_getElem? (i := 1049) (by decide +kernel)) rfl, wt (List.mem_of_getElem? (i := 59) (by decide +kernel)) rfl, wt (List.mem_of_getElem? (i := 84) (by decide +kernel)) rfl, wt (List.mem_of_getElem? (i := 1050) (by decide +kernel)) rfl, by decide +kernel⟩
theorem ok_X10_wordsOf : okV yX10_wordsOf cX10_wordsOf 4 (some .int) 1 := ⟨wt (List.mem_of_getElem? (i := 1053) (by decide +kernel)) rfl, wt (List.mem_of_getElem? (i := 60) (by decide +kernel)) rfl, wt (List.mem_of_getElem? (i := 84) (by decide +kernel)) rfl, wt (List.mem_of_getElem? (i := 1054) (by decide +kernel)) rfl, by decide +kernel⟩
theorem ok_X10_headsOf : okV yX10_headsOf cX10_headsOf 3 (some .int) 1 := ⟨wt (List.mem_of_getElem? (i := 1057) (by decide +kernel)) rfl, wt (List.mem_of_getElem? (i := 61) (by decide +kernel)) rfl, wt (List.mem_of_getElem? (i := 84) (by decide +kernel)) rfl, wt (List.mem_of_getElem? (i := 1058) (by decide +kernel)) rfl, by decide +kernel⟩
theorem ok_X10_isNarrow : okV yX10_isNarrow cX10_isNarrow 5 (some .boolean) 2 := ⟨wt (List.mem_of_getElem? (i := 1061) (by decide +kernel)) rfl, wt (List.mem_of_getElem? (i := 62) (by decide +kernel)) rfl, wt (List.mem_of_getElem? (i := 84) (by decide +kernel)) rfl, wt (List.mem_of_getElem? (i := 1062) (by decide +kernel)) rfl, by decide +kernel⟩
theorem ok_X10_wholeOf : okV yX10_wholeOf cX10_wholeOf 4 (some .int) 1 := ⟨wt (List.mem_of_getElem? (i := 1065) (by decide +kernel)) rfl, wt (List.mem_of_getElem? (i := 63) (by decide +kernel)) rfl, wt (List.mem_of_getElem? (i := 84) (by decide +kernel)) rfl, wt (List.mem_of_getElem? (i := 1066) (by decide +kernel)) rfl, by decide +kernel⟩
theorem ok_X10_edge : okV yX10_edge cX10_edge 4 (some .int) 3 := ⟨wt (List.mem_of_getElem? (i := 1068) (by decide +kernel)) rfl, wt (List.mem_of_getElem? (i := 1069) (by decide +kernel)) rfl, wt (List.mem_of_getElem? (i := 84) (by decide +kernel)) rfl, wt (List.mem_of_getElem? (i := 1070) (by decide +kernel)) rfl, by decide +kernel⟩
theorem ok_X10_ruled : okV yX10_ruled cX10_ruled 5 (some .int) 4 := ⟨wt (List.mem_of_getElem? (i := 1072) (by decide +kernel)) rfl, wt (List.mem_of_getElem? (i := 1073) (by decide +kernel)) rfl, wt (List.mem_of_getElem? (i := 84) (by decide +kernel)) rfl, wt (List.mem_of_getElem? (i := 1074) (by decide +kernel)) rfl, by decide +kernel⟩
theorem ok_X10_isSide : okV yX10_isSide cX10_isSide 5 (some .boolean) 4 := ⟨wt (List.mem_of_getElem? (i := 1077) (by decide +kernel)) rfl, wt (List.mem_of_getElem? (i := 64) (by decide +kernel)) rfl, wt (List.mem_of_getElem? (i := 84) (by decide +kernel)) rfl, wt (List.mem_of_getElem? (i := 1078) (by decide +kernel)) rfl, by decide +kernel⟩
theorem ok_X10_at : okV yX10_at cX10_at 4 (some .int) 3 := ⟨wt (List.mem_of_getElem? (i := 1080) (by decide +kernel)) rfl, wt (List.mem_of_getElem? (i := 1081) (by decide +kernel)) rfl, wt (List.mem_of_getElem? (i := 84) (by decide +kernel)) rfl, wt (List.mem_of_getElem? (i := 1082) (by decide +kernel)) rfl, by decide +kernel⟩
theorem ok_X10_cell : okV yX10_cell cX10_cell 5 (some .int) 3 := ⟨wt (List.mem_of_getElem? (i := 1084) (by decide +kernel)) rfl, wt (List.mem_of_getElem? (i := 1085) (by decide +kernel)) rfl, wt (List.mem_of_getElem? (i := 84) (by decide +kernel)) rfl, wt (List.mem_of_getElem? (i := 1086) (by decide +kernel)) rfl, by decide +kernel⟩
theorem ok_X10_isCell : okV yX10_isCell cX10_isCell 3 (some .boolean) 2 := ⟨wt (List.mem_of_getElem? (i := 1089) (by decide +kernel)) rfl, wt (List.mem_of_getElem? (i := 65) (by decide +kernel)) rfl, wt (List.mem_of_getElem? (i := 84) (by decide +kernel)) rfl, wt (List.mem_of_getElem? (i := 1090) (by decide +kernel)) rfl, by decide +kernel⟩
theorem ok_X10_wordsIn : okV yX10_wordsIn cX10_wordsIn 4 (some .int) 1 := ⟨wt (List.mem_of_getElem? (i := 1094) (by decide +kernel)) rfl, wt (List.mem_of_getElem? (i := 66) (by decide +kernel)) rfl, wt (List.mem_of_getElem? (i := 84) (by decide +kernel)) rfl, wt (List.mem_of_getElem? (i := 1095) (by decide +kernel)) rfl, by decide +kernel⟩
theorem ok_X10_read : okV yX10_read cX10_read 8 (some .int) 3 := ⟨wt (List.mem_of_getElem? (i := 1097) (by decide +kernel)) rfl, wt (List.mem_of_getElem? (i := 1098) (by decide +kernel)) rfl, wt (List.mem_of_getElem? (i := 84) (by decide +kernel)) rfl, wt (List.mem_of_getElem? (i := 1099) (by decide +kernel)) rfl, by decide +kernel⟩
theorem ok_X10_isWordOf : okV yX10_isWordOf cX10_isWordOf 3 (some .boolean) 2 := ⟨wt (List.mem_of_getElem? (i := 1102) (by decide +kernel)) rfl, wt (List.mem_of_getElem? (i := 67) (by decide +kernel)) rfl, wt (List.mem_of_getElem? (i := 84) (by decide +kernel)) rfl, wt (List.mem_of_getElem? (i := 1103) (by decide +kernel)) rfl, by decide +kernel⟩
theorem ok_X10_isReadBefore : okV yX10_isReadBefore cX10_isReadBefore 5 (some .boolean) 2 := ⟨wt (List.mem_of_getElem? (i := 1106) (by decide +kernel)) rfl, wt (List.mem_of_getElem? (i := 68) (by decide +kernel)) rfl, wt (List.mem_of_getElem? (i := 84) (by decide +kernel)) rfl, wt (List.mem_of_getElem? (i := 1107) (by decide +kernel)) rfl, by decide +kernel⟩
theorem ok_X10_heading : okV yX10_heading cX10_heading 9 (some .int) 3 := ⟨wt (List.mem_of_getElem? (i := 1109) (by decide +kernel)) rfl, wt (List.mem_of_getElem? (i := 1110) (by decide +kernel)) rfl, wt (List.mem_of_getElem? (i := 84) (by decide +kernel)) rfl, wt (List.mem_of_getElem? (i := 1111) (by decide +kernel)) rfl, by decide +kernel⟩
theorem ok_X10_image : okV yX10_image cX10_image 2 (some .int) 1 := ⟨wt (List.mem_of_getElem? (i := 1114) (by decide +kernel)) rfl, wt (List.mem_of_getElem? (i := 1115) (by decide +kernel)) rfl, wt (List.mem_of_getElem? (i := 84) (by decide +kernel)) rfl, wt (List.mem_of_getElem? (i := 1116) (by decide +kernel)) rfl, by decide +kernel⟩
theorem ok_X10_passAll : okV yX10_passAll cX10_passAll 1 none 0 := ⟨wt (List.mem_of_getElem? (i := 1119) (by decide +kernel)) rfl, wt (List.mem_of_getElem? (i := 69) (by decide +kernel)) rfl, wt (List.mem_of_getElem? (i := 84) (by decide +kernel)) rfl, wt (List.mem_of_getElem? (i := 1120) (by decide +kernel)) rfl, by decide +kernel⟩
theorem ok_X10_pass : okV yX10_pass cX10_pass 3 (some .int) 1 := ⟨wt (List.mem_of_getElem? (i := 1123) (by decide +kernel)) rfl, wt (List.mem_of_getElem? (i := 70) (by decide +kernel)) rfl, wt (List.mem_of_getElem? (i := 84) (by decide +kernel)) rfl, wt (List.mem_of_getElem? (i := 1124) (by decide +kernel)) rfl, by decide +kernel⟩
theorem ok_X10_passRow : okV yX10_passRow cX10_passRow 4 none 2 := ⟨wt (List.mem_of_getElem? (i := 1127) (by decide +kernel)) rfl, wt (List.mem_of_getElem? (i := 71) (by decide +kernel)) rfl, wt (List.mem_of_getElem? (i := 84) (by decide +kernel)) rfl, wt (List.mem_of_getElem? (i := 1128) (by decide +kernel)) rfl, by decide +kernel⟩
theorem ok_X10_restore : okV yX10_restore cX10_restore 2 (some .int) 1 := ⟨wt (List.mem_of_getElem? (i := 1130) (by decide +kernel)) rfl, wt (List.mem_of_getElem? (i := 1131) (by decide +kernel)) rfl, wt (List.mem_of_getElem? (i := 84) (by decide +kernel)) rfl, wt (List.mem_of_getElem? (i := 1132) (by decide +kernel)) rfl, by decide +kernel⟩
theorem ok_X10_told : okV yX10_told cX10_told 2 (some .int) 1 := ⟨wt (List.mem_of_getElem? (i := 1134) (by decide +kernel)) rfl, wt (List.mem_of_getElem? (i := 1135) (by decide +kernel)) rfl, wt (List.mem_of_getElem? (i := 84) (by decide +kernel)) rfl, wt (List.mem_of_getElem? (i := 1136) (by decide +kernel)) rfl, by decide +kernel⟩
theorem km0_57 : Cond.methodLink RX0 57 yX7_find ∈ wtb := wt (List.mem_of_getElem? (i := 421) (by decide +kernel)) rfl
theorem km0_61 : Cond.methodLink RX0 61 yX7_joinCrossing ∈ wtb := wt (List.mem_of_getElem? (i := 480) (by decide +kernel)) rfl
theorem km0_65 : Cond.methodLink RX0 65 yX7_numberTables ∈ wtb := wt (List.mem_of_getElem? (i := 492) (by decide +kernel)) rfl
theorem km0_69 : Cond.methodLink RX0 69 yX8_find ∈ wtb := wt (List.mem_of_getElem? (i := 504) (by decide +kernel)) rfl
theorem km0_76 : Cond.methodLink RX0 76 yX4_find ∈ wtb := wt (List.mem_of_getElem? (i := 592) (by decide +kernel)) rfl
theorem km0_79 : Cond.methodLink RX0 79 yX8_findMissed ∈ wtb := wt (List.mem_of_getElem? (i := 614) (by decide +kernel)) rfl
theorem km1_19 : Cond.methodLink RX1 19 yX1_firstOf ∈ wtb := wt (List.mem_of_getElem? (i := 447) (by decide +kernel)) rfl
theorem km3_35 : Cond.methodLink RX3 35 yX5_take ∈ wtb := wt (List.mem_of_getElem? (i := 741) (by decide +kernel)) rfl
theorem km4_31 : Cond.methodLink RX4 31 yX4_place ∈ wtb := wt (List.mem_of_getElem? (i := 596) (by decide +kernel)) rfl
theorem km4_35 : Cond.methodLink RX4 35 yX4_putInOrder ∈ wtb := wt (List.mem_of_getElem? (i := 607) (by decide +kernel)) rfl
theorem km4_39 : Cond.methodLink RX4 39 yX5_number ∈ wtb := wt (List.mem_of_getElem? (i := 600) (by decide +kernel)) rfl
theorem km4_49 : Cond.methodLink RX4 49 yX2_lineBefore ∈ wtb := wt (List.mem_of_getElem? (i := 601) (by decide +kernel)) rfl
theorem km4_54 : Cond.methodLink RX4 54 yX8_cellOf ∈ wtb := wt (List.mem_of_getElem? (i := 605) (by decide +kernel)) rfl
theorem km4_57 : Cond.methodLink RX4 57 yX8_hasCell ∈ wtb := wt (List.mem_of_getElem? (i := 606) (by decide +kernel)) rfl
theorem km4_67 : Cond.methodLink RX4 67 yX4_isReadBefore ∈ wtb := wt (List.mem_of_getElem? (i := 611) (by decide +kernel)) rfl
theorem km4_71 : Cond.methodLink RX4 71 yX4_isIn ∈ wtb := wt (List.mem_of_getElem? (i := 626) (by decide +kernel)) rfl
theorem km5_28 : Cond.methodLink RX5 28 yX5_isFull ∈ wtb := wt (List.mem_of_getElem? (i := 391) (by decide +kernel)) rfl
theorem km5_32 : Cond.methodLink RX5 32 yX5_has ∈ wtb := wt (List.mem_of_getElem? (i := 404) (by decide +kernel)) rfl
theorem km6_9 : Cond.methodLink RX6 9 yX5_number ∈ wtb := wt (List.mem_of_getElem? (i := 461) (by decide +kernel)) rfl
theorem km6_53 : Cond.methodLink RX6 53 yX6_covers ∈ wtb := wt (List.mem_of_getElem? (i := 488) (by decide +kernel)) rfl
theorem km7_26 : Cond.methodLink RX7 26 yX7_joinNear ∈ wtb := wt (List.mem_of_getElem? (i := 425) (by decide +kernel)) rfl
theorem km7_36 : Cond.methodLink RX7 36 yX7_gather ∈ wtb := wt (List.mem_of_getElem? (i := 452) (by decide +kernel)) rfl
theorem km7_40 : Cond.methodLink RX7 40 yX7_sort ∈ wtb := wt (List.mem_of_getElem? (i := 468) (by decide +kernel)) rfl
theorem km7_46 : Cond.methodLink RX7 46 yX7_tellPieces ∈ wtb := wt (List.mem_of_getElem? (i := 476) (by decide +kernel)) rfl
theorem km7_50 : Cond.methodLink RX7 50 yX1_part ∈ wtb := wt (List.mem_of_getElem? (i := 428) (by decide +kernel)) rfl
theorem km7_59 : Cond.methodLink RX7 59 yX7_areNear ∈ wtb := wt (List.mem_of_getElem? (i := 432) (by decide +kernel)) rfl
theorem km7_63 : Cond.methodLink RX7 63 yX1_join ∈ wtb := wt (List.mem_of_getElem? (i := 443) (by decide +kernel)) rfl
theorem km7_67 : Cond.methodLink RX7 67 yX5_number ∈ wtb := wt (List.mem_of_getElem? (i := 435) (by decide +kernel)) rfl
theorem km7_83 : Cond.methodLink RX7 83 yX1_firstOf ∈ wtb := wt (List.mem_of_getElem? (i := 456) (by decide +kernel)) rfl
theorem km7_86 : Cond.methodLink RX7 86 yX6_begin ∈ wtb := wt (List.mem_of_getElem? (i := 457) (by decide +kernel)) rfl
theorem km7_90 : Cond.methodLink RX7 90 yX6_takeIn ∈ wtb := wt (List.mem_of_getElem? (i := 462) (by decide +kernel)) rfl
theorem km7_93 : Cond.methodLink RX7 93 yX6_comesBefore ∈ wtb := wt (List.mem_of_getElem? (i := 472) (by decide +kernel)) rfl
theorem km7_100 : Cond.methodLink RX7 100 yX6_crosses ∈ wtb := wt (List.mem_of_getElem? (i := 484) (by decide +kernel)) rfl
theorem km7_107 : Cond.methodLink RX7 107 yX7_countPlaces ∈ wtb := wt (List.mem_of_getElem? (i := 496) (by decide +kernel)) rfl
theorem km7_111 : Cond.methodLink RX7 111 yX7_giveTable ∈ wtb := wt (List.mem_of_getElem? (i := 500) (by decide +kernel)) rfl
theorem km8_42 : Cond.methodLink RX8 42 yX8_takeLines ∈ wtb := wt (List.mem_of_getElem? (i := 508) (by decide +kernel)) rfl
theorem km8_46 : Cond.methodLink RX8 46 yX8_markSides ∈ wtb := wt (List.mem_of_getElem? (i := 520) (by decide +kernel)) rfl
theorem km8_50 : Cond.methodLink RX8 50 yX8_joinFields ∈ wtb := wt (List.mem_of_getElem? (i := 541) (by decide +kernel)) rfl
theorem km8_54 : Cond.methodLink RX8 54 yX8_numberCells ∈ wtb := wt (List.mem_of_getElem? (i := 551) (by decide +kernel)) rfl
theorem km8_57 : Cond.methodLink RX8 57 yX8_markBroken ∈ wtb := wt (List.mem_of_getElem? (i := 564) (by decide +kernel)) rfl
theorem km8_60 : Cond.methodLink RX8 60 yX8_markOpen ∈ wtb := wt (List.mem_of_getElem? (i := 568) (by decide +kernel)) rfl
theorem km8_63 : Cond.methodLink RX8 63 yX8_countHeads ∈ wtb := wt (List.mem_of_getElem? (i := 584) (by decide +kernel)) rfl
theorem km8_77 : Cond.methodLink RX8 77 yX2_clear ∈ wtb := wt (List.mem_of_getElem? (i := 512) (by decide +kernel)) rfl
theorem km8_103 : Cond.methodLink RX8 103 yX2_add ∈ wtb := wt (List.mem_of_getElem? (i := 516) (by decide +kernel)) rfl
theorem km8_116 : Cond.methodLink RX8 116 yX8_markSidesOf ∈ wtb := wt (List.mem_of_getElem? (i := 524) (by decide +kernel)) rfl
theorem km8_120 : Cond.methodLink RX8 120 yX2_lineAt ∈ wtb := wt (List.mem_of_getElem? (i := 528) (by decide +kernel)) rfl
theorem km8_123 : Cond.methodLink RX8 123 yX8_sideOf ∈ wtb := wt (List.mem_of_getElem? (i := 532) (by decide +kernel)) rfl
theorem km8_127 : Cond.methodLink RX8 127 yX2_placeOf ∈ wtb := wt (List.mem_of_getElem? (i := 536) (by decide +kernel)) rfl
theorem km8_130 : Cond.methodLink RX8 130 yX6_covers ∈ wtb := wt (List.mem_of_getElem? (i := 540) (by decide +kernel)) rfl
theorem km8_134 : Cond.methodLink RX8 134 yX1_part ∈ wtb := wt (List.mem_of_getElem? (i := 545) (by decide +kernel)) rfl
theorem km8_139 : Cond.methodLink RX8 139 yX8_hasRuled ∈ wtb := wt (List.mem_of_getElem? (i := 546) (by decide +kernel)) rfl
theorem km8_142 : Cond.methodLink RX8 142 yX1_join ∈ wtb := wt (List.mem_of_getElem? (i := 550) (by decide +kernel)) rfl
theorem km8_148 : Cond.methodLink RX8 148 yX1_firstOf ∈ wtb := wt (List.mem_of_getElem? (i := 555) (by decide +kernel)) rfl
theorem km8_152 : Cond.methodLink RX8 152 yX8_beginCell ∈ wtb := wt (List.mem_of_getElem? (i := 556) (by decide +kernel)) rfl
theorem km8_155 : Cond.methodLink RX8 155 yX8_widenCell ∈ wtb := wt (List.mem_of_getElem? (i := 560) (by decide +kernel)) rfl
theorem km8_159 : Cond.methodLink RX8 159 yX8_cellOf ∈ wtb := wt (List.mem_of_getElem? (i := 572) (by decide +kernel)) rfl
theorem km8_162 : Cond.methodLink RX8 162 yX8_openUnless ∈ wtb := wt (List.mem_of_getElem? (i := 576) (by decide +kernel)) rfl
theorem km8_166 : Cond.methodLink RX8 166 yX8_hasCell ∈ wtb := wt (List.mem_of_getElem? (i := 580) (by decide +kernel)) rfl
theorem km8_170 : Cond.methodLink RX8 170 yX8_isOneColumnWide ∈ wtb := wt (List.mem_of_getElem? (i := 588) (by decide +kernel)) rfl
theorem km8_173 : Cond.methodLink RX8 173 yX8_isFirstInColumn ∈ wtb := wt (List.mem_of_getElem? (i := 729) (by decide +kernel)) rfl
theorem km8_177 : Cond.methodLink RX8 177 yX8_findMissedIn ∈ wtb := wt (List.mem_of_getElem? (i := 618) (by decide +kernel)) rfl
theorem km8_181 : Cond.methodLink RX8 181 yX4_keepClear ∈ wtb := wt (List.mem_of_getElem? (i := 622) (by decide +kernel)) rfl
theorem km8_187 : Cond.methodLink RX8 187 yX8_addMissed ∈ wtb := wt (List.mem_of_getElem? (i := 630) (by decide +kernel)) rfl
theorem km8_190 : Cond.methodLink RX8 190 yX5_add ∈ wtb := wt (List.mem_of_getElem? (i := 720) (by decide +kernel)) rfl
theorem km8_195 : Cond.methodLink RX8 195 yX8_countWhole ∈ wtb := wt (List.mem_of_getElem? (i := 675) (by decide +kernel)) rfl
theorem km9_42 : Cond.methodLink RX9 42 yX9_isWay ∈ wtb := wt (List.mem_of_getElem? (i := 374) (by decide +kernel)) rfl
theorem km9_46 : Cond.methodLink RX9 46 yX9_isPlace ∈ wtb := wt (List.mem_of_getElem? (i := 377) (by decide +kernel)) rfl
theorem km9_49 : Cond.methodLink RX9 49 yX9_isStretch ∈ wtb := wt (List.mem_of_getElem? (i := 380) (by decide +kernel)) rfl
theorem km9_57 : Cond.methodLink RX9 57 yX5_isFull ∈ wtb := wt (List.mem_of_getElem? (i := 383) (by decide +kernel)) rfl
theorem km9_63 : Cond.methodLink RX9 63 yX5_add ∈ wtb := wt (List.mem_of_getElem? (i := 387) (by decide +kernel)) rfl
theorem km9_71 : Cond.methodLink RX9 71 yX5_has ∈ wtb := wt (List.mem_of_getElem? (i := 396) (by decide +kernel)) rfl
theorem km9_74 : Cond.methodLink RX9 74 yX5_remove ∈ wtb := wt (List.mem_of_getElem? (i := 400) (by decide +kernel)) rfl
theorem km9_78 : Cond.methodLink RX9 78 yX5_number ∈ wtb := wt (List.mem_of_getElem? (i := 409) (by decide +kernel)) rfl
theorem km9_82 : Cond.methodLink RX9 82 yX9_found ∈ wtb := wt (List.mem_of_getElem? (i := 413) (by decide +kernel)) rfl
theorem km9_110 : Cond.methodLink RX9 110 yX7_has ∈ wtb := wt (List.mem_of_getElem? (i := 650) (by decide +kernel)) rfl
theorem km9_115 : Cond.methodLink RX9 115 yX6_tell ∈ wtb := wt (List.mem_of_getElem? (i := 654) (by decide +kernel)) rfl
theorem km9_121 : Cond.methodLink RX9 121 yX6_crosses ∈ wtb := wt (List.mem_of_getElem? (i := 662) (by decide +kernel)) rfl
theorem km9_125 : Cond.methodLink RX9 125 yX0_has ∈ wtb := wt (List.mem_of_getElem? (i := 667) (by decide +kernel)) rfl
theorem km9_129 : Cond.methodLink RX9 129 yX8_tell ∈ wtb := wt (List.mem_of_getElem? (i := 671) (by decide +kernel)) rfl
theorem km9_136 : Cond.methodLink RX9 136 yX2_placeOf ∈ wtb := wt (List.mem_of_getElem? (i := 683) (by decide +kernel)) rfl
theorem km9_141 : Cond.methodLink RX9 141 yX8_sideOf ∈ wtb := wt (List.mem_of_getElem? (i := 688) (by decide +kernel)) rfl
theorem km9_145 : Cond.methodLink RX9 145 yX8_hasRuled ∈ wtb := wt (List.mem_of_getElem? (i := 689) (by decide +kernel)) rfl
theorem km9_149 : Cond.methodLink RX9 149 yX8_cellOf ∈ wtb := wt (List.mem_of_getElem? (i := 694) (by decide +kernel)) rfl
theorem km9_152 : Cond.methodLink RX9 152 yX8_hasCell ∈ wtb := wt (List.mem_of_getElem? (i := 699) (by decide +kernel)) rfl
theorem km9_158 : Cond.methodLink RX9 158 yX4_wordRead ∈ wtb := wt (List.mem_of_getElem? (i := 704) (by decide +kernel)) rfl
theorem km9_167 : Cond.methodLink RX9 167 yX8_drawMissed ∈ wtb := wt (List.mem_of_getElem? (i := 716) (by decide +kernel)) rfl
theorem km9_174 : Cond.methodLink RX9 174 yX8_headingOf ∈ wtb := wt (List.mem_of_getElem? (i := 725) (by decide +kernel)) rfl
theorem km9_177 : Cond.methodLink RX9 177 yX3_take ∈ wtb := wt (List.mem_of_getElem? (i := 737) (by decide +kernel)) rfl
theorem km9_188 : Cond.methodLink RX9 188 yX0_find ∈ wtb := wt (List.mem_of_getElem? (i := 417) (by decide +kernel)) rfl
theorem km10_64 : Cond.methodLink RX10 64 yX10_in ∈ wtb := wt (List.mem_of_getElem? (i := 849) (by decide +kernel)) rfl
theorem km10_84 : Cond.methodLink RX10 84 yX10_isPlace ∈ wtb := wt (List.mem_of_getElem? (i := 859) (by decide +kernel)) rfl
theorem km10_88 : Cond.methodLink RX10 88 yX10_addPiece ∈ wtb := wt (List.mem_of_getElem? (i := 863) (by decide +kernel)) rfl
theorem km10_95 : Cond.methodLink RX10 95 yX10_pieceAt ∈ wtb := wt (List.mem_of_getElem? (i := 900) (by decide +kernel)) rfl
theorem km10_99 : Cond.methodLink RX10 99 yX10_greater ∈ wtb := wt (List.mem_of_getElem? (i := 904) (by decide +kernel)) rfl
theorem km10_102 : Cond.methodLink RX10 102 yX10_less ∈ wtb := wt (List.mem_of_getElem? (i := 907) (by decide +kernel)) rfl
theorem km10_108 : Cond.methodLink RX10 108 yX10_ruleAt ∈ wtb := wt (List.mem_of_getElem? (i := 926) (by decide +kernel)) rfl
theorem km10_111 : Cond.methodLink RX10 111 yX10_isRuleBefore ∈ wtb := wt (List.mem_of_getElem? (i := 922) (by decide +kernel)) rfl
theorem km10_115 : Cond.methodLink RX10 115 yX10_begin ∈ wtb := wt (List.mem_of_getElem? (i := 892) (by decide +kernel)) rfl
theorem km10_119 : Cond.methodLink RX10 119 yX10_isNear ∈ wtb := wt (List.mem_of_getElem? (i := 896) (by decide +kernel)) rfl
theorem km10_122 : Cond.methodLink RX10 122 yX10_join ∈ wtb := wt (List.mem_of_getElem? (i := 910) (by decide +kernel)) rfl
theorem km10_126 : Cond.methodLink RX10 126 yX10_addRule ∈ wtb := wt (List.mem_of_getElem? (i := 914) (by decide +kernel)) rfl
theorem km10_129 : Cond.methodLink RX10 129 yX10_sortRules ∈ wtb := wt (List.mem_of_getElem? (i := 918) (by decide +kernel)) rfl
theorem km10_132 : Cond.methodLink RX10 132 yX10_lies ∈ wtb := wt (List.mem_of_getElem? (i := 938) (by decide +kernel)) rfl
theorem km10_135 : Cond.methodLink RX10 135 yX10_isCross ∈ wtb := wt (List.mem_of_getElem? (i := 934) (by decide +kernel)) rfl
theorem km10_141 : Cond.methodLink RX10 141 yX10_countLines ∈ wtb := wt (List.mem_of_getElem? (i := 942) (by decide +kernel)) rfl
theorem km10_144 : Cond.methodLink RX10 144 yX10_layLines ∈ wtb := wt (List.mem_of_getElem? (i := 946) (by decide +kernel)) rfl
theorem km10_148 : Cond.methodLink RX10 148 yX10_rowsOf ∈ wtb := wt (List.mem_of_getElem? (i := 958) (by decide +kernel)) rfl
theorem km10_152 : Cond.methodLink RX10 152 yX10_columnsOf ∈ wtb := wt (List.mem_of_getElem? (i := 954) (by decide +kernel)) rfl
theorem km10_155 : Cond.methodLink RX10 155 yX10_lineAt ∈ wtb := wt (List.mem_of_getElem? (i := 966) (by decide +kernel)) rfl
theorem km10_159 : Cond.methodLink RX10 159 yX10_reaches ∈ wtb := wt (List.mem_of_getElem? (i := 970) (by decide +kernel)) rfl
theorem km10_163 : Cond.methodLink RX10 163 yX10_isRuled ∈ wtb := wt (List.mem_of_getElem? (i := 962) (by decide +kernel)) rfl
theorem km10_167 : Cond.methodLink RX10 167 yX10_addField ∈ wtb := wt (List.mem_of_getElem? (i := 974) (by decide +kernel)) rfl
theorem km10_170 : Cond.methodLink RX10 170 yX10_isOpen ∈ wtb := wt (List.mem_of_getElem? (i := 978) (by decide +kernel)) rfl
theorem km10_174 : Cond.methodLink RX10 174 yX10_cellAt ∈ wtb := wt (List.mem_of_getElem? (i := 982) (by decide +kernel)) rfl
theorem km10_177 : Cond.methodLink RX10 177 yX10_boxAt ∈ wtb := wt (List.mem_of_getElem? (i := 990) (by decide +kernel)) rfl
theorem km10_180 : Cond.methodLink RX10 180 yX10_between ∈ wtb := wt (List.mem_of_getElem? (i := 994) (by decide +kernel)) rfl
theorem km10_183 : Cond.methodLink RX10 183 yX10_findRules ∈ wtb := wt (List.mem_of_getElem? (i := 888) (by decide +kernel)) rfl
theorem km10_186 : Cond.methodLink RX10 186 yX10_findTables ∈ wtb := wt (List.mem_of_getElem? (i := 930) (by decide +kernel)) rfl
theorem km10_189 : Cond.methodLink RX10 189 yX10_findCells ∈ wtb := wt (List.mem_of_getElem? (i := 950) (by decide +kernel)) rfl
theorem km10_192 : Cond.methodLink RX10 192 yX10_findWord ∈ wtb := wt (List.mem_of_getElem? (i := 986) (by decide +kernel)) rfl
theorem km10_195 : Cond.methodLink RX10 195 yX10_findAll ∈ wtb := wt (List.mem_of_getElem? (i := 884) (by decide +kernel)) rfl
theorem km10_198 : Cond.methodLink RX10 198 yX10_isTable ∈ wtb := wt (List.mem_of_getElem? (i := 1019) (by decide +kernel)) rfl
theorem km10_203 : Cond.methodLink RX10 203 yX10_isRule ∈ wtb := wt (List.mem_of_getElem? (i := 1006) (by decide +kernel)) rfl
theorem km10_208 : Cond.methodLink RX10 208 yX10_wordsBy ∈ wtb := wt (List.mem_of_getElem? (i := 1031) (by decide +kernel)) rfl
theorem km10_223 : Cond.methodLink RX10 223 yX10_missBy ∈ wtb := wt (List.mem_of_getElem? (i := 1027) (by decide +kernel)) rfl
theorem km10_226 : Cond.methodLink RX10 226 yX10_findMissed ∈ wtb := wt (List.mem_of_getElem? (i := 1023) (by decide +kernel)) rfl
theorem km10_229 : Cond.methodLink RX10 229 yX10_layComing ∈ wtb := wt (List.mem_of_getElem? (i := 1039) (by decide +kernel)) rfl
theorem km10_232 : Cond.methodLink RX10 232 yX10_isNarrow ∈ wtb := wt (List.mem_of_getElem? (i := 1059) (by decide +kernel)) rfl
theorem km10_235 : Cond.methodLink RX10 235 yX10_rulesOf ∈ wtb := wt (List.mem_of_getElem? (i := 1047) (by decide +kernel)) rfl
theorem km10_238 : Cond.methodLink RX10 238 yX10_wordsOf ∈ wtb := wt (List.mem_of_getElem? (i := 1051) (by decide +kernel)) rfl
theorem km10_241 : Cond.methodLink RX10 241 yX10_headsOf ∈ wtb := wt (List.mem_of_getElem? (i := 1055) (by decide +kernel)) rfl
theorem km10_244 : Cond.methodLink RX10 244 yX10_wholeOf ∈ wtb := wt (List.mem_of_getElem? (i := 1063) (by decide +kernel)) rfl
theorem km10_247 : Cond.methodLink RX10 247 yX10_isSide ∈ wtb := wt (List.mem_of_getElem? (i := 1075) (by decide +kernel)) rfl
theorem km10_250 : Cond.methodLink RX10 250 yX10_isCell ∈ wtb := wt (List.mem_of_getElem? (i := 1087) (by decide +kernel)) rfl
theorem km10_255 : Cond.methodLink RX10 255 yX10_wordsIn ∈ wtb := wt (List.mem_of_getElem? (i := 1092) (by decide +kernel)) rfl
theorem km10_258 : Cond.methodLink RX10 258 yX10_isWordOf ∈ wtb := wt (List.mem_of_getElem? (i := 1100) (by decide +kernel)) rfl
theorem km10_261 : Cond.methodLink RX10 261 yX10_isReadBefore ∈ wtb := wt (List.mem_of_getElem? (i := 1104) (by decide +kernel)) rfl
theorem km10_264 : Cond.methodLink RX10 264 yX10_at ∈ wtb := wt (List.mem_of_getElem? (i := 1112) (by decide +kernel)) rfl
theorem km10_273 : Cond.methodLink RX10 273 yX10_pass ∈ wtb := wt (List.mem_of_getElem? (i := 1121) (by decide +kernel)) rfl
theorem km10_276 : Cond.methodLink RX10 276 yX10_passRow ∈ wtb := wt (List.mem_of_getElem? (i := 1125) (by decide +kernel)) rfl
theorem km10_280 : Cond.methodLink RX10 280 yX10_passAll ∈ wtb := wt (List.mem_of_getElem? (i := 1117) (by decide +kernel)) rfl
end
section
/-! the layout of all that the law makes: offsets from the first new cell; kinds 0..10 objects by vwCl, 11 int[], 12 boolean[], 13 Page[], 14 Rule[], 15 Table[], 16 int[][] -/
abbrev GG : Type := Launch × Nat × (Nat → ClassId) × (Nat → Nat → Nat) × (Nat → ClassId) × Nat × Nat
abbrev SG : Type := (Nat → Nat → Int32) × (Nat → Nat → Int32) × (Nat → Nat)
abbrev ad (g : GG) (o : Nat) : Nat := g.2.1 + o
abbrev gD (g : GG) : va_G := (g.2.2.1, g.2.2.2.1)
def reg (g : GG) : Nat → Prop := fun q => g.2.1 ≤ q
def kdL : List Nat := [9, 3, 5, 11, 5, 11, 11, 13, 3, 5, 11, 5, 11, 11, 3, 5, 11, 5, 11, 11, 12, 0, 1, 11, 7, 14, 6, 6, 6, 6, 6, 6, 6, 6, 6, 6, 6, 6, 6, 6, 6, 6, 6, 6, 6, 6, 6, 6, 6, 6, 11, 15, 8, 2, 16, 11, 11, 11, 12, 11, 16, 11, 11, 11, 11, 11, 11, 11, 16, 11, 11, 11, 8, 2, 16, 11, 11, 11, 12, 11, 16, 11, 11, 11, 11, 11, 11, 11, 16, 11, 11, 11, 8, 2, 16, 11, 11, 11, 12, 11, 16, 11, 11, 11, 11, 11, 11, 11, 16, 11, 11, 11, 8, 2, 16, 11, 11, 11, 12, 11, 16, 11, 11, 11, 11, 11, 11, 11, 16, 11, 11, 11, 8, 2, 16, 11, 11, 11, 12, 11, 16, 11, 11, 11, 11, 11, 11, 11, 16, 11, 11, 11, 8, 2, 16, 11, 11, 11, 12, 11, 16, 11, 11, 11, 11, 11, 11, 11, 16, 11, 11, 11, 4, 11, 11, 11, 10, 11, 11, 11, 11, 11, 11, 11, 11, 11, 11, 11, 11, 11, 11, 11, 11, 12]
def lnL : List Nat := [0, 0, 0, 96, 0, 80, 3, 2, 0, 0, 96, 0, 80, 3, 0, 0, 96, 0, 80, 3, 2, 0, 0, 121, 0, 24, 0, 0, 0, 0, 0, 0, 0, 0, 0, 0, 0, 0, 0, 0, 0, 0, 0, 0, 0, 0, 0, 0, 0, 0, 24, 6, 0, 0, 2, 22, 22, 2, 264, 121, 7, 121, 121, 121, 121, 121, 121, 121, 3, 121, 121, 121, 0, 0, 2, 18, 18, 2, 180, 81, 7, 81, 81, 81, 81, 81, 81, 81, 3, 81, 81, 81, 0, 0, 2, 14, 14, 2, 112, 49, 7, 49, 49, 49, 49, 49, 49, 49, 3, 49, 49, 49, 0, 0, 2, 10, 10, 2, 60, 25, 7, 25, 25, 25, 25, 25, 25, 25, 3, 25, 25, 25, 0, 0, 2, 6, 6, 2, 24, 9, 7, 9, 9, 9, 9, 9, 9, 9, 3, 9, 9, 9, 0, 0, 2, 2, 2, 2, 4, 1, 7, 1, 1, 1, 1, 1, 1, 1, 3, 1, 1, 1, 0, 20, 20, 20, 0, 96, 80, 3, 121, 168, 24, 264, 12, 7, 7, 121, 726, 20, 20, 96, 362, 2]
def kd (o : Nat) : Nat := kdL.getD o 99
def ln (o : Nat) : Nat := lnL.getD o 0
theorem kd_len : kdL.length = 194 := by decide +kernel
theorem kd_lt {o k : Nat} (h : kd o = k) (hk : k < 99) : o < 194 := by
  rcases Nat.lt_or_ge o 194 with q | q
  · exact q
  · exfalso
    have : kd o = 99 := by
      unfold kd
      rw [List.getD_eq_getElem?_getD, List.getElem?_eq_none (by rw [kd_len]; exact q)]
      rfl
    omega
/-- a fact of all offsets of a kind, by looking -/
theorem kd_all {P : Nat → Prop} [DecidablePred P] (k : Nat) (hk : k < 99) (h : ∀ o, o < 194 → kd o = k → P o) {o : Nat} (ho : kd o = k) : P o := h o (kd_lt ho hk) ho
def uI (I : Nat → Nat → Int32) (f o : Nat) (v : Int32) : Nat → Nat → Int32 := fun f' o' => if f' = f ∧ o' = o then v else I f' o'
def uA (A : Nat → Nat → Int32) (o : Nat) (h : Nat → Int32) : Nat → Nat → Int32 := fun o' => if o' = o then h else A o'
def uP (π : Nat → Nat) (i r : Nat) : Nat → Nat := fun j => if j = i then r else π j
theorem uI_s (I : Nat → Nat → Int32) (f o : Nat) (v : Int32) : uI I f o v f o = v := if_pos ⟨rfl, rfl⟩
theorem uI_f {I : Nat → Nat → Int32} {f o : Nat} {v : Int32} {f' o' : Nat} (h : f' ≠ f) : uI I f o v f' o' = I f' o' := if_neg fun q => h q.1
theorem uI_o {I : Nat → Nat → Int32} {f o : Nat} {v : Int32} {f' o' : Nat} (h : o' ≠ o) : uI I f o v f' o' = I f' o' := if_neg fun q => h q.2
theorem uA_s (A : Nat → Nat → Int32) (o : Nat) (h : Nat → Int32) : uA A o h o = h := if_pos rfl
theorem uA_n {A : Nat → Nat → Int32} {o : Nat} {h : Nat → Int32} {o' : Nat} (n : o' ≠ o) : uA A o h o' = A o' := if_neg n
theorem uP_s (π : Nat → Nat) (i r : Nat) : uP π i r i = r := if_pos rfl
theorem uP_n {π : Nat → Nat} {i r j : Nat} (n : j ≠ i) : uP π i r j = π j := if_neg n
def cl0 (g : GG) (σ : SG) (o : Nat) : Nat → va_E := fun k => match k with
  | 0 => .inr (0, [.ref (ad g (o + 1)), .ref (ad g (o + 3)), .ref (ad g (o + 30)), .int (σ.1 3 o), .ref (ad g (o + 151))])
  | 1 => .inr (1, [.ref (ad g (o + 1))])
  | 2 => .inr (2, [.ref (ad g (o + 1)), .ref (ad g (o + 4))])
  | 3 => .inr (3, [.ref (ad g (o + 1)), .ref (ad g (o + 3)), .ref (ad g (o + 5))])
  | 4 => .inr (4, [.ref (ad g (o + 1)), .ref (ad g (o + 2)), .ref (ad g (o + 3)), .int (σ.1 131 o), .int (σ.1 132 o)])
  | 5 => .inr (5, [.ref (ad g (o + 1)), .int (σ.1 161 o), .int (σ.1 162 o)])
  | 6 => .inr (6, [.int (σ.1 192 o), .int (σ.1 193 o), .int (σ.1 194 o), .int (σ.1 195 o), .int (σ.1 196 o), .int (σ.1 197 o), .int (σ.1 198 o), .int (σ.1 199 o), .int (σ.1 200 o)])
  | 7 => .inr (7, [.ref (ad g (o + 1)), .ref (ad g (o + 26)), .int (σ.1 226 o)])
  | 8 => .inr (8, [.ref (ad g (o + 1)), .int (σ.1 257 o), .int (σ.1 258 o), .int (σ.1 259 o), .ref (ad g (o + 6)), .ref (ad g (o + 7)), .ref (ad g (o + 8)), .int (σ.1 263 o), .ref (ad g (o + 16)), .int (σ.1 265 o), .int (σ.1 266 o), .int (σ.1 267 o)])
  | 9 => .inr (9, [.ref (ad g (o + 1)), .ref (ad g (o + 7)), .ref (ad g (o + 20)), .ref (ad g (o + 21)), .int (σ.1 292 o)])
  | 10 => .inr (10, [.ref (ad g (o + 1)), .int (σ.1 321 o), .ref (ad g (o + 2)), .int (σ.1 323 o), .ref (ad g (o + 3)), .int (σ.1 325 o), .ref (ad g (o + 4)), .ref (ad g (o + 5)), .int (σ.1 328 o), .ref (ad g (o + 6)), .int (σ.1 330 o), .ref (ad g (o + 7)), .ref (ad g (o + 8)), .ref (ad g (o + 9)), .ref (ad g (o + 10)), .ref (ad g (o + 11)), .ref (ad g (o + 12)), .ref (ad g (o + 13)), .ref (ad g (o + 14)), .int (σ.1 339 o), .int (σ.1 340 o), .int (σ.1 341 o), .int (σ.1 342 o), .ref (ad g (o + 15)), .ref (ad g (o + 16)), .ref (ad g (o + 17)), .int (σ.1 346 o), .int (σ.1 347 o)])
  | 11 => .inl (g.2.2.2.2.1 0, ln o, .inl (σ.2.1 o))
  | 12 => .inl (g.2.2.2.2.1 1, ln o, .inl (σ.2.1 o))
  | 13 => .inl (g.2.2.2.2.1 2, ln o, .inr (.inr (.inr (.inr (fun k => some (ad g (o + 1 + 6 * k)))))))
  | 14 => .inl (g.2.2.2.2.1 3, ln o, .inr (.inr (.inr (.inr (fun k => some (ad g (o + 1 + σ.2.2 k)))))))
  | 15 => .inl (g.2.2.2.2.1 4, ln o, .inr (.inr (.inr (.inr (fun k => some (ad g (o + 1 + 20 * k)))))))
  | _ => .inl (g.2.2.2.2.1 5, ln o, .inr (.inr (.inr (.inr (fun k => some (ad g (o + 1 + k)))))))
def cl_ (g : GG) (σ : SG) (o : Nat) : va_E := cl0 g σ o (kd o)
theorem cl_k {g : GG} {σ : SG} {o k : Nat} (h : kd o = k) : cl_ g σ o = cl0 g σ o k := by rw [cl_, h]
def wsOf (g : GG) (σ : SG) : va_W := (List.range 194).map fun o => (ad g o, cl_ g σ o)
theorem ws_at (g : GG) (σ : SG) {o : Nat} (h : o < 194) : (wsOf g σ)[o]? = some (ad g o, cl_ g σ o) := by
  unfold wsOf
  rw [List.getElem?_map, List.getElem?_range h]
  rfl
theorem ws_D (g : GG) (σ : SG) : va_D (reg g) (wsOf g σ) := by
  have lt : ∀ (i : Nat) (p : Nat × va_E), (wsOf g σ)[i]? = some p → i < 194 := fun i p h => by
    have := (List.getElem?_eq_some_iff.mp h).1
    simpa [wsOf] using this
  refine ⟨fun i j p q hp hq e => ?_, fun k q hq => ?_⟩
  · rw [ws_at g σ (lt i p hp)] at hp
    rw [ws_at g σ (lt j q hq)] at hq
    cases hp
    cases hq
    exact Nat.add_left_cancel e
  · rw [ws_at g σ (lt k q hq)] at hq
    cases hq
    exact Nat.le_add_right _ _
theorem ws_set {g : GG} {σ σ' : SG} {o : Nat} {e : va_E} (he : e = cl_ g σ' o) (hne : ∀ o', o' ≠ o → cl_ g σ' o' = cl_ g σ o') : (wsOf g σ).set o (ad g o, e) = wsOf g σ' := by
  apply List.ext_getElem?
  intro i
  rw [List.getElem?_set]
  by_cases h : o = i
  · subst h
    rw [if_pos rfl]
    by_cases q : o < 194
    · rw [if_pos (by simpa [wsOf] using q), ws_at g σ' q, he]
    · rw [if_neg (by simpa [wsOf] using q)]
      exact (List.getElem?_eq_none (by simpa [wsOf] using q)).symm
  · rw [if_neg h]
    unfold wsOf
    rw [List.getElem?_map, List.getElem?_map]
    by_cases q : i < 194
    · rw [List.getElem?_range q]
      show some (ad g i, cl_ g σ i) = some (ad g i, cl_ g σ' i)
      rw [hne i (fun z => h z.symm)]
    · rw [List.getElem?_eq_none (by simpa using q)]
      rfl
theorem cl_uI {g : GG} {σ : SG} {f o : Nat} {v : Int32} {o' : Nat} (h : o' ≠ o) : cl_ g (uI σ.1 f o v, σ.2) o' = cl_ g σ o' := by
  have e : ∀ f', uI σ.1 f o v f' o' = σ.1 f' o' := fun f' => uI_o h
  unfold cl_ cl0
  simp only [e]
theorem cl_uA {g : GG} {σ : SG} {o : Nat} {f : Nat → Int32} {o' : Nat} (h : o' ≠ o) : cl_ g (σ.1, uA σ.2.1 o f, σ.2.2) o' = cl_ g σ o' := by
  have e : uA σ.2.1 o f o' = σ.2.1 o' := uA_n h
  unfold cl_ cl0
  simp only [e]
theorem kd14 {o : Nat} (h : kd o = 14) : o = 25 := kd_all (P := fun o => o = 25) 14 (by decide) (by decide +kernel) h
theorem cl_uP {g : GG} {σ : SG} {i r : Nat} {o' : Nat} (h : o' ≠ 25) : cl_ g (σ.1, σ.2.1, uP σ.2.2 i r) o' = cl_ g σ o' := by
  have e : kd o' ≠ 14 := fun q => h (kd14 q)
  unfold cl_ cl0
  split <;> first | rfl | (rename_i q; exact absurd q e)
def tys_ (g : GG) : List (ClassId × FieldType) := [(g.2.2.2.2.1 0, .int), (g.2.2.2.2.1 1, .boolean), (g.2.2.2.2.1 2, .object RX3), (g.2.2.2.2.1 3, .object RX6), (g.2.2.2.2.1 4, .object RX8), (g.2.2.2.2.1 5, .array .int)]
def fM : Nat → Int32 := fun j => if j = 0 then 3 else if j = 1 then 9 else 5
def fF : Nat → Int32 := fun j => if j = 1 then 2 else 1
def stt (g : GG) (U : State) (H : Heap) : Prop := va_Z "RuledTables" "MOST_SETTINGS" "[I" (.ref g.2.2.2.2.2.1) (reg g) U H ∧ va_T .int g.2.2.2.2.2.1 3 (fun j => .int (fM j)) (reg g) U H ∧ va_Z "RuledTables" "FIRST_SETTINGS" "[I" (.ref g.2.2.2.2.2.2) (reg g) U H ∧ va_T .int g.2.2.2.2.2.2 3 (fun j => .int (fF j)) (reg g) U H
theorem stt.moved {g : GG} {u U : State} {H : Heap} (hvm : u.vm.Alike U.vm) (h : stt g u H) : stt g U H := ⟨h.1.moved hvm, h.2.1.moved hvm, h.2.2.1.moved hvm, h.2.2.2.moved hvm⟩
theorem stt.kept {g : GG} {U : State} {H H1 : Heap} (h : stt g U H) (hq : ∀ a : Nat, a < H.size → ¬ reg g a → H1[a]? = H[a]?) : stt g U H1 := ⟨h.1.kept hq, h.2.1.kept hq, h.2.2.1.kept hq, h.2.2.2.kept hq⟩
/-- the world at a state -/
def wd (g : GG) (σ : SG) (U : State) : Prop := va_P (gD g) vwCl (wsOf g σ) U.heap ∧ va_K (gD g) vwCl (tys_ g) U ∧ stt g U U.heap
theorem wd_blind {g : GG} {σ : SG} {av : List Value} : FrameBlind (va_Pc av (wd g σ)) := fun a U g9 mk q => by
  obtain ⟨q0, qP, qK, qS⟩ := q
  exact ⟨q0, qP, va_K.moved (u := U) (U := U.calling g9 mk a) (Vm.Alike.refl U.vm) qK, stt.moved (u := U) (U := U.calling g9 mk a) (Vm.Alike.refl U.vm) qS⟩
abbrev cw_ (y : MethodName) (cc : ByteArray) (nL : Nat) (ret : Option FieldType) : List Cond := Cond.code y cc nL ret :: wtb
abbrev rmm (fr lo : Nat) : Room := { frames := fr, cells := 0, slots := 0, locals := lo }
def dn (cc : ByteArray) (pc : Nat) (i : Instr) (n pc' : Nat) : Prop := decode cc pc = .ok (i, n) ∧ pc + n = pc'
def db (cc : ByteArray) (pc : Nat) (i : Instr) (n pc' : Nat) (off : Int) (tgt : Nat) : Prop := decode cc pc = .ok (i, n) ∧ pc + n = pc' ∧ (pc : Int) + off = (tgt : Int)
/-- what holds all through a method -/
def Fx (g : GG) (p : Program) (s : State) (m : MethodId) (args : Array Value) (meth : Method) (c : Code) (cc : ByteArray) (nL : Nat) (ret : Option FieldType) (own : String) : Prop :=
  p.tables.exec = Jvm.exec ∧ c.code = cc ∧ meth.sig.returnType = ret ∧ c.maxLocals = nL ∧ s.vm.findClass own = some m.cls ∧ (∀ w ∈ wtb, w.before args s = true) ∧ meth.locks = false ∧ va_K (gD g) vwCl (tys_ g) s ∧ stt g s s.heap
/-- the locals, by their places -/
def lvp (ls : Array Slot) (nL : Nat) (lv : List (Option Value)) : Prop := ls.size = nL ∧ lv_wf ls ∧ ∀ (i : Nat) (v : Value), lv[i]? = some (some v) → ls[i]? = some (.val v) ∧ v.category = 1
/-- the machine goes on from here, over the whole world σ, to an end as Qc says -/
def AW (g : GG) (cc : ByteArray) (nL : Nat) (ret : Option FieldType) (R : Room) (own : String) (Qc : Array Value → State → Outcome → State → Prop) (pc : Nat) (lv : List (Option Value)) (st : List Value) (σ : SG) : Prop :=
  ∀ (p : Program) (e : Env) (s : State) (m : MethodId) (args : Array Value) (below : List Frame) (meth : Method) (c : Code) (H : Heap) (locs : List Loc) (ls : Array Slot),
    Fx g p s m args meth c cc nL ret own → va_P (gD g) vwCl (wsOf g σ) H → va_S (reg g) s.heap H locs → lvp ls nL lv →
    W p g.1 e R s m args below meth c H locs 0 0 (MQ below Qc args s 0 0 (reg g)) (F0 m pc ls st)
/-- contracts -/
abbrev Cti (g : GG) (y : MethodName) (cc : ByteArray) (nL : Nat) (ret : Option FieldType) (rm : Room) (av : List Value) (σ : SG) (post : Int32 → SG → Prop) : Prop := Met g.1 y (cw_ y cc nL ret) rm (va_Pc av (wd g σ)) (va_Qi post (wd g) (reg g)) 0 0 (reg g)
abbrev Ctv (g : GG) (y : MethodName) (cc : ByteArray) (nL : Nat) (rm : Room) (av : List Value) (σ : SG) (post : SG → Prop) : Prop := Met g.1 y (cw_ y cc nL none) rm (va_Pc av (wd g σ)) (va_Qv post (wd g) (reg g)) 0 0 (reg g)
abbrev Ctr (g : GG) (y : MethodName) (cc : ByteArray) (nL : Nat) (ret : Option FieldType) (rm : Room) (av : List Value) (σ : SG) (o : Nat) (post : SG → Prop) : Prop := Met g.1 y (cw_ y cc nL ret) rm (va_Pc av (wd g σ)) (va_Qr post (fun u a t => a = ad g o ∧ wd g u t) (reg g)) 0 0 (reg g)
section AWr
variable {g : GG} {cc : ByteArray} {nL : Nat} {ret : Option FieldType} {R : Room} {own : String} {Qc : Array Value → State → Outcome → State → Prop} {pc pc' tgt : Nat} {lv : List (Option Value)} {st : List Value} {σ : SG}
theorem aw_iconst {n : Int} (hd : dn cc pc (.iconst n) 1 pc') (k : AW g cc nL ret R own Qc pc' lv (.int (Int32.ofInt n) :: st) σ) : AW g cc nL ret R own Qc pc lv st σ := by
  obtain ⟨hd, rfl⟩ := hd
  intro p e s m args below meth c H locs ls F hP hS hl
  exact lv_iconst F.1 F.2.1 hd rfl (k p e s m args below meth c H locs ls F hP hS hl)
theorem aw_bipush {n : Int} (hd : dn cc pc (.bipush n) 2 pc') (k : AW g cc nL ret R own Qc pc' lv (.int ((Int8.ofInt n).toInt32) :: st) σ) : AW g cc nL ret R own Qc pc lv st σ := by
  obtain ⟨hd, rfl⟩ := hd
  intro p e s m args below meth c H locs ls F hP hS hl
  exact lv_bipush F.1 F.2.1 hd rfl (k p e s m args below meth c H locs ls F hP hS hl)
theorem aw_sipush {n : Int} (hd : dn cc pc (.sipush n) 3 pc') (k : AW g cc nL ret R own Qc pc' lv (.int ((Int16.ofInt n).toInt32) :: st) σ) : AW g cc nL ret R own Qc pc lv st σ := by
  obtain ⟨hd, rfl⟩ := hd
  intro p e s m args below meth c H locs ls F hP hS hl
  exact lv_sipush F.1 F.2.1 hd rfl (k p e s m args below meth c H locs ls F hP hS hl)
theorem aw_iadd {x y : Int32} (hd : dn cc pc .iadd 1 pc') (k : AW g cc nL ret R own Qc pc' lv (.int (x + y) :: st) σ) : AW g cc nL ret R own Qc pc lv (.int y :: .int x :: st) σ := by
  obtain ⟨hd, rfl⟩ := hd
  intro p e s m args below meth c H locs ls F hP hS hl
  exact lv_iadd F.1 F.2.1 hd  (k p e s m args below meth c H locs ls F hP hS hl)
theorem aw_isub {x y : Int32} (hd : dn cc pc .isub 1 pc') (k : AW g cc nL ret R own Qc pc' lv (.int (x - y) :: st) σ) : AW g cc nL ret R own Qc pc lv (.int y :: .int x :: st) σ := by
  obtain ⟨hd, rfl⟩ := hd
  intro p e s m args below meth c H locs ls F hP hS hl
  exact lv_isub F.1 F.2.1 hd  (k p e s m args below meth c H locs ls F hP hS hl)
theorem aw_imul {x y : Int32} (hd : dn cc pc .imul 1 pc') (k : AW g cc nL ret R own Qc pc' lv (.int (x * y) :: st) σ) : AW g cc nL ret R own Qc pc lv (.int y :: .int x :: st) σ := by
  obtain ⟨hd, rfl⟩ := hd
  intro p e s m args below meth c H locs ls F hP hS hl
  exact lv_imul F.1 F.2.1 hd  (k p e s m args below meth c H locs ls F hP hS hl)
theorem aw_iand {x y : Int32} (hd : dn cc pc .iand 1 pc') (k : AW g cc nL ret R own Qc pc' lv (.int (x &&& y) :: st) σ) : AW g cc nL ret R own Qc pc lv (.int y :: .int x :: st) σ := by
  obtain ⟨hd, rfl⟩ := hd
  intro p e s m args below meth c H locs ls F hP hS hl
  exact lv_iand F.1 F.2.1 hd  (k p e s m args below meth c H locs ls F hP hS hl)
theorem aw_ior {x y : Int32} (hd : dn cc pc .ior 1 pc') (k : AW g cc nL ret R own Qc pc' lv (.int (x ||| y) :: st) σ) : AW g cc nL ret R own Qc pc lv (.int y :: .int x :: st) σ := by
  obtain ⟨hd, rfl⟩ := hd
  intro p e s m args below meth c H locs ls F hP hS hl
  exact lv_ior F.1 F.2.1 hd  (k p e s m args below meth c H locs ls F hP hS hl)
theorem aw_idiv {x y : Int32} (hd : dn cc pc .idiv 1 pc') (hne : ¬ y = 0) (k : AW g cc nL ret R own Qc pc' lv (.int (x / y) :: st) σ) : AW g cc nL ret R own Qc pc lv (.int y :: .int x :: st) σ := by
  obtain ⟨hd, rfl⟩ := hd
  intro p e s m args below meth c H locs ls F hP hS hl
  exact lv_idiv F.1 F.2.1 hd hne (k p e s m args below meth c H locs ls F hP hS hl)
theorem aw_irem {x y : Int32} (hd : dn cc pc .irem 1 pc') (hne : ¬ y = 0) (k : AW g cc nL ret R own Qc pc' lv (.int (x - x / y * y) :: st) σ) : AW g cc nL ret R own Qc pc lv (.int y :: .int x :: st) σ := by
  obtain ⟨hd, rfl⟩ := hd
  intro p e s m args below meth c H locs ls F hP hS hl
  exact lv_irem F.1 F.2.1 hd hne (k p e s m args below meth c H locs ls F hP hS hl)
theorem aw_ineg {x : Int32} (hd : dn cc pc .ineg 1 pc') (k : AW g cc nL ret R own Qc pc' lv (.int (-x) :: st) σ) : AW g cc nL ret R own Qc pc lv (.int x :: st) σ := by
  obtain ⟨hd, rfl⟩ := hd
  intro p e s m args below meth c H locs ls F hP hS hl
  exact lv_ineg F.1 F.2.1 hd  (k p e s m args below meth c H locs ls F hP hS hl)
theorem aw_i2l {x : Int32} (hd : dn cc pc .i2l 1 pc') (k : AW g cc nL ret R own Qc pc' lv (.long x.toInt64 :: st) σ) : AW g cc nL ret R own Qc pc lv (.int x :: st) σ := by
  obtain ⟨hd, rfl⟩ := hd
  intro p e s m args below meth c H locs ls F hP hS hl
  exact lv_i2l F.1 F.2.1 hd rfl (k p e s m args below meth c H locs ls F hP hS hl)
theorem aw_lconst {n : Fin 2} (hd : dn cc pc (.lconst n) 1 pc') (k : AW g cc nL ret R own Qc pc' lv (.long (Int64.ofNat (n : Nat)) :: st) σ) : AW g cc nL ret R own Qc pc lv st σ := by
  obtain ⟨hd, rfl⟩ := hd
  intro p e s m args below meth c H locs ls F hP hS hl
  exact lv_lconst F.1 F.2.1 hd rfl (k p e s m args below meth c H locs ls F hP hS hl)
theorem aw_ldc2 {i : Nat} {v : Int64} (hd : dn cc pc (.ldc2_w i) 3 pc') (hw : Cond.constantLong own i v ∈ wtb) (k : AW g cc nL ret R own Qc pc' lv (.long v :: st) σ) : AW g cc nL ret R own Qc pc lv st σ := by
  obtain ⟨hd, rfl⟩ := hd
  intro p e s m args below meth c H locs ls F hP hS hl
  exact lv_ldc2 F.1 F.2.1 F.2.2.2.2.1 (F.2.2.2.2.2.1 _ hw) hd (k p e s m args below meth c H locs ls F hP hS hl)
theorem aw_dup {va : Value} (hd : dn cc pc .dup 1 pc') (hv : va.category = 1) (k : AW g cc nL ret R own Qc pc' lv (va :: va :: st) σ) : AW g cc nL ret R own Qc pc lv (va :: st) σ := by
  obtain ⟨hd, rfl⟩ := hd
  intro p e s m args below meth c H locs ls F hP hS hl
  exact lv_dup F.1 F.2.1 hd hv (k p e s m args below meth c H locs ls F hP hS hl)
theorem aw_dup2 {va vb : Value} (hd : dn cc pc .dup2 1 pc') (hv : va.category = 1) (hv2 : vb.category = 1) (k : AW g cc nL ret R own Qc pc' lv (va :: vb :: va :: vb :: st) σ) : AW g cc nL ret R own Qc pc lv (va :: vb :: st) σ := by
  obtain ⟨hd, rfl⟩ := hd
  intro p e s m args below meth c H locs ls F hP hS hl
  exact lv_dup2_11 F.1 F.2.1 hd hv hv2 (k p e s m args below meth c H locs ls F hP hS hl)
theorem aw_iload_n {i : Fin 4} {x : Int32} (hd : dn cc pc (.iload_n i) 1 pc') (hx : lv[(i : Nat)]? = some (some (.int x))) (k : AW g cc nL ret R own Qc pc' lv (.int x :: st) σ) : AW g cc nL ret R own Qc pc lv st σ := by
  obtain ⟨hd, rfl⟩ := hd
  intro p e s m args below meth c H locs ls F hP hS hl
  exact lv_iload_n F.1 F.2.1 hd rfl (hl.2.2 _ _ hx).1 (k p e s m args below meth c H locs ls F hP hS hl)
theorem aw_iload {i : Nat} {x : Int32} (hd : dn cc pc (.iload i) 2 pc') (hx : lv[i]? = some (some (.int x))) (k : AW g cc nL ret R own Qc pc' lv (.int x :: st) σ) : AW g cc nL ret R own Qc pc lv st σ := by
  obtain ⟨hd, rfl⟩ := hd
  intro p e s m args below meth c H locs ls F hP hS hl
  exact lv_iload F.1 F.2.1 hd (hl.2.2 _ _ hx).1 (k p e s m args below meth c H locs ls F hP hS hl)
theorem aw_aload_n {i : Fin 4} {x : Nat} (hd : dn cc pc (.aload_n i) 1 pc') (hx : lv[(i : Nat)]? = some (some (.ref x))) (k : AW g cc nL ret R own Qc pc' lv (.ref x :: st) σ) : AW g cc nL ret R own Qc pc lv st σ := by
  obtain ⟨hd, rfl⟩ := hd
  intro p e s m args below meth c H locs ls F hP hS hl
  exact lv_aload_n F.1 F.2.1 hd rfl (hl.2.2 _ _ hx).1 (k p e s m args below meth c H locs ls F hP hS hl)
theorem aw_aload {i : Nat} {x : Nat} (hd : dn cc pc (.aload i) 2 pc') (hx : lv[i]? = some (some (.ref x))) (k : AW g cc nL ret R own Qc pc' lv (.ref x :: st) σ) : AW g cc nL ret R own Qc pc lv st σ := by
  obtain ⟨hd, rfl⟩ := hd
  intro p e s m args below meth c H locs ls F hP hS hl
  exact lv_aload F.1 F.2.1 hd (hl.2.2 _ _ hx).1 (k p e s m args below meth c H locs ls F hP hS hl)
def lvL (lv : List (Option Value)) : List (Nat × Value) := (List.range lv.length).filterMap fun i => (lv.getD i none).map fun v => (i, v)
theorem lvL_mem {lv : List (Option Value)} {q : Nat × Value} : q ∈ lvL lv ↔ lv[q.1]? = some (some q.2) := by
  unfold lvL
  rw [List.mem_filterMap]
  constructor
  · rintro ⟨i, hi, h⟩
    have hi := List.mem_range.mp hi
    rw [List.getD_eq_getElem?_getD, List.getElem?_eq_getElem hi] at h
    simp only [Option.getD_some, Option.map_eq_some_iff] at h
    obtain ⟨v, h1, h2⟩ := h
    rw [← h2]
    simp only
    rw [List.getElem?_eq_getElem hi, h1]
  · intro h
    have hi := (List.getElem?_eq_some_iff.mp h).1
    refine ⟨q.1, List.mem_range.mpr hi, ?_⟩
    rw [List.getD_eq_getElem?_getD, h]
    rfl
theorem lvp.has {ls : Array Slot} {nL : Nat} {lv : List (Option Value)} (h : lvp ls nL lv) : lv_has ls nL (lvL lv) := ⟨h.1, h.2.1, fun q hq => (h.2.2 q.1 q.2 (lvL_mem.mp hq)).1⟩
theorem lvp.set {ls ls' : Array Slot} {nL : Nat} {lv : List (Option Value)} {i : Nat} {v : Value} (h : lvp ls nL lv) (hv : v.category = 1) (h' : lv_has ls' nL ((i, v) :: (lvL lv).filter (fun q => !(q.1 == i) && !(q.1 + 1 == i && q.2.category == 2)))) : lvp ls' nL (lv.set i (some v)) := by
  refine ⟨h'.1, h'.2.1, fun j w hw => ?_⟩
  rw [List.getElem?_set] at hw
  by_cases e : i = j
  · subst e
    rw [if_pos rfl] at hw
    by_cases q : i < lv.length
    · rw [if_pos q] at hw
      have e : v = w := Option.some.inj (Option.some.inj hw)
      subst e
      exact ⟨h'.2.2 (i, v) List.mem_cons_self, hv⟩
    · rw [if_neg q] at hw
      cases hw
  · rw [if_neg e] at hw
    have h1 := h.2.2 j w hw
    refine ⟨h'.2.2 (j, w) (List.mem_cons_of_mem _ (List.mem_filter.mpr ⟨lvL_mem.mpr hw, ?_⟩)), h1.2⟩
    simp [h1.2, show ¬ j = i from fun z => e z.symm]
theorem aw_istore_n {i : Fin 4} {x : Int32} (hd : dn cc pc (.istore_n i) 1 pc') (hn : (i : Nat) < nL) (k : AW g cc nL ret R own Qc pc' (lv.set (i : Nat) (some (.int x))) st σ) : AW g cc nL ret R own Qc pc lv (.int x :: st) σ := by
  obtain ⟨hd, rfl⟩ := hd
  intro p e s m args below meth c H locs ls F hP hS hl
  exact lv_istore_n F.1 F.2.1 hd rfl hl.has hn rfl (fun ls' h' => k p e s m args below meth c H locs ls' F hP hS (hl.set rfl h'))
theorem aw_istore {i : Nat} {x : Int32} (hd : dn cc pc (.istore i) 2 pc') (hn : i < nL) (k : AW g cc nL ret R own Qc pc' (lv.set i (some (.int x))) st σ) : AW g cc nL ret R own Qc pc lv (.int x :: st) σ := by
  obtain ⟨hd, rfl⟩ := hd
  intro p e s m args below meth c H locs ls F hP hS hl
  exact lv_istore F.1 F.2.1 hd hl.has hn rfl (fun ls' h' => k p e s m args below meth c H locs ls' F hP hS (hl.set rfl h'))
theorem aw_astore_n {i : Fin 4} {x : Nat} (hd : dn cc pc (.astore_n i) 1 pc') (hn : (i : Nat) < nL) (k : AW g cc nL ret R own Qc pc' (lv.set (i : Nat) (some (.ref x))) st σ) : AW g cc nL ret R own Qc pc lv (.ref x :: st) σ := by
  obtain ⟨hd, rfl⟩ := hd
  intro p e s m args below meth c H locs ls F hP hS hl
  exact lv_astore_n F.1 F.2.1 hd rfl hl.has hn rfl (fun ls' h' => k p e s m args below meth c H locs ls' F hP hS (hl.set rfl h'))
theorem aw_astore {i : Nat} {x : Nat} (hd : dn cc pc (.astore i) 2 pc') (hn : i < nL) (k : AW g cc nL ret R own Qc pc' (lv.set i (some (.ref x))) st σ) : AW g cc nL ret R own Qc pc lv (.ref x :: st) σ := by
  obtain ⟨hd, rfl⟩ := hd
  intro p e s m args below meth c H locs ls F hP hS hl
  exact lv_astore F.1 F.2.1 hd hl.has hn rfl (fun ls' h' => k p e s m args below meth c H locs ls' F hP hS (hl.set rfl h'))
theorem aw_iinc {i : Nat} {n : Int} {x : Int32} (hd : dn cc pc (.iinc i n) 3 pc') (hx : lv[i]? = some (some (.int x))) (hn : i < nL) (k : AW g cc nL ret R own Qc pc' (lv.set i (some (.int (x + Int32.ofInt n)))) st σ) : AW g cc nL ret R own Qc pc lv st σ := by
  obtain ⟨hd, rfl⟩ := hd
  intro p e s m args below meth c H locs ls F hP hS hl
  obtain ⟨j, hj⟩ := List.getElem?_of_mem (lvL_mem (q := (i, .int x)).mpr hx)
  exact lv_iinc F.1 F.2.1 hd hl.has hj rfl hn rfl (fun ls' h' => k p e s m args below meth c H locs ls' F hP hS (hl.set rfl h'))
theorem aw_if_eq {x : Int32} {off : Int} (hd : db cc pc (.ifCond .eq off) 3 pc' off tgt) (kt : x = 0 → AW g cc nL ret R own Qc tgt lv st σ) (kf : ¬ x = 0 → AW g cc nL ret R own Qc pc' lv st σ) : AW g cc nL ret R own Qc pc lv (.int x :: st) σ := by
  obtain ⟨hd, rfl, ht⟩ := hd
  intro p e s m args below meth c H locs ls F hP hS hl
  exact lv_if_eq F.1 F.2.1 hd ht (fun q => kt q p e s m args below meth c H locs ls F hP hS hl) (fun q => kf q p e s m args below meth c H locs ls F hP hS hl)
theorem aw_if_ne {x : Int32} {off : Int} (hd : db cc pc (.ifCond .ne off) 3 pc' off tgt) (kt : ¬ x = 0 → AW g cc nL ret R own Qc tgt lv st σ) (kf : x = 0 → AW g cc nL ret R own Qc pc' lv st σ) : AW g cc nL ret R own Qc pc lv (.int x :: st) σ := by
  obtain ⟨hd, rfl, ht⟩ := hd
  intro p e s m args below meth c H locs ls F hP hS hl
  exact lv_if_ne F.1 F.2.1 hd ht (fun q => kt q p e s m args below meth c H locs ls F hP hS hl) (fun q => kf q p e s m args below meth c H locs ls F hP hS hl)
theorem aw_if_lt {x : Int32} {off : Int} (hd : db cc pc (.ifCond .lt off) 3 pc' off tgt) (kt : x < 0 → AW g cc nL ret R own Qc tgt lv st σ) (kf : ¬ x < 0 → AW g cc nL ret R own Qc pc' lv st σ) : AW g cc nL ret R own Qc pc lv (.int x :: st) σ := by
  obtain ⟨hd, rfl, ht⟩ := hd
  intro p e s m args below meth c H locs ls F hP hS hl
  exact lv_if_lt F.1 F.2.1 hd ht (fun q => kt q p e s m args below meth c H locs ls F hP hS hl) (fun q => kf q p e s m args below meth c H locs ls F hP hS hl)
theorem aw_if_ge {x : Int32} {off : Int} (hd : db cc pc (.ifCond .ge off) 3 pc' off tgt) (kt : 0 ≤ x → AW g cc nL ret R own Qc tgt lv st σ) (kf : ¬ 0 ≤ x → AW g cc nL ret R own Qc pc' lv st σ) : AW g cc nL ret R own Qc pc lv (.int x :: st) σ := by
  obtain ⟨hd, rfl, ht⟩ := hd
  intro p e s m args below meth c H locs ls F hP hS hl
  exact lv_if_ge F.1 F.2.1 hd ht (fun q => kt q p e s m args below meth c H locs ls F hP hS hl) (fun q => kf q p e s m args below meth c H locs ls F hP hS hl)
theorem aw_if_gt {x : Int32} {off : Int} (hd : db cc pc (.ifCond .gt off) 3 pc' off tgt) (kt : 0 < x → AW g cc nL ret R own Qc tgt lv st σ) (kf : ¬ 0 < x → AW g cc nL ret R own Qc pc' lv st σ) : AW g cc nL ret R own Qc pc lv (.int x :: st) σ := by
  obtain ⟨hd, rfl, ht⟩ := hd
  intro p e s m args below meth c H locs ls F hP hS hl
  exact lv_if_gt F.1 F.2.1 hd ht (fun q => kt q p e s m args below meth c H locs ls F hP hS hl) (fun q => kf q p e s m args below meth c H locs ls F hP hS hl)
theorem aw_if_le {x : Int32} {off : Int} (hd : db cc pc (.ifCond .le off) 3 pc' off tgt) (kt : x ≤ 0 → AW g cc nL ret R own Qc tgt lv st σ) (kf : ¬ x ≤ 0 → AW g cc nL ret R own Qc pc' lv st σ) : AW g cc nL ret R own Qc pc lv (.int x :: st) σ := by
  obtain ⟨hd, rfl, ht⟩ := hd
  intro p e s m args below meth c H locs ls F hP hS hl
  exact lv_if_le F.1 F.2.1 hd ht (fun q => kt q p e s m args below meth c H locs ls F hP hS hl) (fun q => kf q p e s m args below meth c H locs ls F hP hS hl)
theorem aw_icmp_eq {x y : Int32} {off : Int} (hd : db cc pc (.if_icmp .eq off) 3 pc' off tgt) (kt : x = y → AW g cc nL ret R own Qc tgt lv st σ) (kf : ¬ x = y → AW g cc nL ret R own Qc pc' lv st σ) : AW g cc nL ret R own Qc pc lv (.int y :: .int x :: st) σ := by
  obtain ⟨hd, rfl, ht⟩ := hd
  intro p e s m args below meth c H locs ls F hP hS hl
  exact lv_icmp_eq F.1 F.2.1 hd ht (fun q => kt q p e s m args below meth c H locs ls F hP hS hl) (fun q => kf q p e s m args below meth c H locs ls F hP hS hl)
theorem aw_icmp_ne {x y : Int32} {off : Int} (hd : db cc pc (.if_icmp .ne off) 3 pc' off tgt) (kt : ¬ x = y → AW g cc nL ret R own Qc tgt lv st σ) (kf : x = y → AW g cc nL ret R own Qc pc' lv st σ) : AW g cc nL ret R own Qc pc lv (.int y :: .int x :: st) σ := by
  obtain ⟨hd, rfl, ht⟩ := hd
  intro p e s m args below meth c H locs ls F hP hS hl
  exact lv_icmp_ne F.1 F.2.1 hd ht (fun q => kt q p e s m args below meth c H locs ls F hP hS hl) (fun q => kf q p e s m args below meth c H locs ls F hP hS hl)
theorem aw_icmp_lt {x y : Int32} {off : Int} (hd : db cc pc (.if_icmp .lt off) 3 pc' off tgt) (kt : x < y → AW g cc nL ret R own Qc tgt lv st σ) (kf : ¬ x < y → AW g cc nL ret R own Qc pc' lv st σ) : AW g cc nL ret R own Qc pc lv (.int y :: .int x :: st) σ := by
  obtain ⟨hd, rfl, ht⟩ := hd
  intro p e s m args below meth c H locs ls F hP hS hl
  exact lv_icmp_lt F.1 F.2.1 hd ht (fun q => kt q p e s m args below meth c H locs ls F hP hS hl) (fun q => kf q p e s m args below meth c H locs ls F hP hS hl)
theorem aw_icmp_ge {x y : Int32} {off : Int} (hd : db cc pc (.if_icmp .ge off) 3 pc' off tgt) (kt : y ≤ x → AW g cc nL ret R own Qc tgt lv st σ) (kf : ¬ y ≤ x → AW g cc nL ret R own Qc pc' lv st σ) : AW g cc nL ret R own Qc pc lv (.int y :: .int x :: st) σ := by
  obtain ⟨hd, rfl, ht⟩ := hd
  intro p e s m args below meth c H locs ls F hP hS hl
  exact lv_icmp_ge F.1 F.2.1 hd ht (fun q => kt q p e s m args below meth c H locs ls F hP hS hl) (fun q => kf q p e s m args below meth c H locs ls F hP hS hl)
theorem aw_icmp_gt {x y : Int32} {off : Int} (hd : db cc pc (.if_icmp .gt off) 3 pc' off tgt) (kt : y < x → AW g cc nL ret R own Qc tgt lv st σ) (kf : ¬ y < x → AW g cc nL ret R own Qc pc' lv st σ) : AW g cc nL ret R own Qc pc lv (.int y :: .int x :: st) σ := by
  obtain ⟨hd, rfl, ht⟩ := hd
  intro p e s m args below meth c H locs ls F hP hS hl
  exact lv_icmp_gt F.1 F.2.1 hd ht (fun q => kt q p e s m args below meth c H locs ls F hP hS hl) (fun q => kf q p e s m args below meth c H locs ls F hP hS hl)
theorem aw_icmp_le {x y : Int32} {off : Int} (hd : db cc pc (.if_icmp .le off) 3 pc' off tgt) (kt : x ≤ y → AW g cc nL ret R own Qc tgt lv st σ) (kf : ¬ x ≤ y → AW g cc nL ret R own Qc pc' lv st σ) : AW g cc nL ret R own Qc pc lv (.int y :: .int x :: st) σ := by
  obtain ⟨hd, rfl, ht⟩ := hd
  intro p e s m args below meth c H locs ls F hP hS hl
  exact lv_icmp_le F.1 F.2.1 hd ht (fun q => kt q p e s m args below meth c H locs ls F hP hS hl) (fun q => kf q p e s m args below meth c H locs ls F hP hS hl)
theorem aw_goto {off : Int} (hd : db cc pc (.goto off) 3 pc' off tgt) (k : AW g cc nL ret R own Qc tgt lv st σ) : AW g cc nL ret R own Qc pc lv st σ := by
  obtain ⟨hd, rfl, ht⟩ := hd
  intro p e s m args below meth c H locs ls F hP hS hl
  exact lv_goto F.1 F.2.1 hd ht (k p e s m args below meth c H locs ls F hP hS hl)
theorem aw_tout {dflt lo hi : Int} {offs : Array Int} {len : Nat} {x : Int32} (hd : decode cc pc = .ok (.tableswitch dflt lo hi offs, len)) (h : x.toInt < lo ∨ hi < x.toInt) (ht : (pc : Int) + dflt = (tgt : Int)) (k : AW g cc nL ret R own Qc tgt lv st σ) : AW g cc nL ret R own Qc pc lv (.int x :: st) σ := by
  intro p e s m args below meth c H locs ls F hP hS hl
  exact lv_tableOut F.1 F.2.1 hd h ht (k p e s m args below meth c H locs ls F hP hS hl)
theorem aw_tin {dflt lo hi : Int} {offs : Array Int} {len : Nat} {x : Int32} {off : Int} (hd : decode cc pc = .ok (.tableswitch dflt lo hi offs, len)) (h1 : ¬ x.toInt < lo) (h2 : ¬ hi < x.toInt) (ho : offs[(x.toInt - lo).toNat]? = some off) (ht : (pc : Int) + off = (tgt : Int)) (k : AW g cc nL ret R own Qc tgt lv st σ) : AW g cc nL ret R own Qc pc lv (.int x :: st) σ := by
  intro p e s m args below meth c H locs ls F hP hS hl
  exact lv_tableIn F.1 F.2.1 hd h1 h2 ho ht (k p e s m args below meth c H locs ls F hP hS hl)
theorem aw_get {ci k idx N : Nat} {C : String} {T : u_T} {fs : List Value} {v : Value} {o : Nat} (hd : dn cc pc (.getfield idx) 3 pc') (hin : ∀ w ∈ u_ws C T N, w ∈ wtb) (hc : vwCl[ci]? = some (C, T, N)) (ho : o < 194) (he : cl_ g σ o = .inr (ci, fs)) (hk : k < N) (hv : fs[k]? = some v) (hT : (T k).1 = C) (hw : Cond.fieldLink own idx C (T k).2.1 (T k).2.2.1 ∈ wtb) (kk : AW g cc nL ret R own Qc pc' lv (v :: st) σ) : AW g cc nL ret R own Qc pc lv (.ref (ad g o) :: st) σ := by
  obtain ⟨hd, rfl⟩ := hd
  intro p e s m args below meth c H locs ls F hP hS hl
  exact va_get F.1 F.2.1 F.2.2.2.2.2.1 hin F.2.2.2.2.1 F.2.2.2.2.2.2.2.1 hP o (by rw [ws_at g σ ho, he]) hc k hk (F.2.2.2.2.2.1 _ hw) (fun x h => by rw [hT] at h; exact h) hv hd (kk p e s m args below meth c H locs ls F hP hS hl)
theorem aw_put {ci k idx N : Nat} {C : String} {T : u_T} {ty0 : Nat → FieldType} {fs : List Value} {x : Int32} {ty : FieldType} {o f : Nat} (hd : dn cc pc (.putfield idx) 3 pc') (hin : ∀ w ∈ u_ws C T N, w ∈ wtb) (hty : ∀ k, k < N → parseFieldDescriptor (T k).2.2.1 = some (ty0 k)) (hnm : ∀ a, a < N → ∀ b, b < N → a ≠ b → (T a).2.1 ≠ (T b).2.1) (hc : vwCl[ci]? = some (C, T, N)) (ho : o < 194) (he : cl_ g σ o = .inr (ci, fs)) (hk : k < N) (hT : (T k).1 = C) (hfin : (T k).2.2.2 = false) (hdd : parseFieldDescriptor (T k).2.2.1 = some ty) (hn : narrow ty (.int x) = .int x) (hfit : fits ty (.int x) = true) (hlen : k < fs.length) (hw : Cond.fieldLink own idx C (T k).2.1 (T k).2.2.1 ∈ wtb) (hset : (.inr (ci, fs.set k (.int x)) : va_E) = cl_ g (uI σ.1 f o x, σ.2) o) (kk : AW g cc nL ret R own Qc pc' lv st (uI σ.1 f o x, σ.2)) : AW g cc nL ret R own Qc pc lv (.int x :: .ref (ad g o) :: st) σ := by
  obtain ⟨hd, rfl⟩ := hd
  intro p e s m args below meth c H locs ls F hP hS hl
  refine va_put F.1 F.2.1 F.2.2.2.2.2.1 hin ty0 hty hnm F.2.2.2.2.1 F.2.2.2.2.2.2.2.1 hP (ws_D g σ) hS o (by rw [ws_at g σ ho, he]) hc k hk (F.2.2.2.2.2.1 _ hw) (fun x h => by rw [hT] at h; exact h) hfin hdd hn hfit hlen hd (fun H1 locs1 hP1 hD1 hS1 => ?_)
  rw [ws_set hset (fun o' h => cl_uI h)] at hP1
  exact kk p e s m args below meth c H1 locs1 ls F hP1 hS1 hl
theorem aw_iald {o : Nat} {i : Int32} (hd : dn cc pc .iaload 1 pc') (hk : kd o = 11) (hi : vp_in i (ln o)) (kk : AW g cc nL ret R own Qc pc' lv (.int (σ.2.1 o i.toNatClampNeg) :: st) σ) : AW g cc nL ret R own Qc pc lv (.int i :: .ref (ad g o) :: st) σ := by
  obtain ⟨hd, rfl⟩ := hd
  intro p e s m args below meth c H locs ls F hP hS hl
  exact va_iald F.1 F.2.1 F.2.2.2.2.2.2.2.1 hP o 0 (by rw [ws_at g σ (kd_lt hk (by decide)), cl_k hk]; rfl) rfl hi hd (kk p e s m args below meth c H locs ls F hP hS hl)
theorem aw_zald {o : Nat} {i : Int32} (hd : dn cc pc .baload 1 pc') (hk : kd o = 12) (hi : vp_in i (ln o)) (kk : AW g cc nL ret R own Qc pc' lv (.int (σ.2.1 o i.toNatClampNeg) :: st) σ) : AW g cc nL ret R own Qc pc lv (.int i :: .ref (ad g o) :: st) σ := by
  obtain ⟨hd, rfl⟩ := hd
  intro p e s m args below meth c H locs ls F hP hS hl
  exact va_zald F.1 F.2.1 F.2.2.2.2.2.2.2.1 hP o 1 (by rw [ws_at g σ (kd_lt hk (by decide)), cl_k hk]; rfl) rfl hi hd (kk p e s m args below meth c H locs ls F hP hS hl)
theorem aw_iast {o : Nat} {i x : Int32} (hd : dn cc pc .iastore 1 pc') (hk : kd o = 11) (hi : vp_in i (ln o)) (kk : AW g cc nL ret R own Qc pc' lv st (σ.1, uA σ.2.1 o (upd (σ.2.1 o) i.toNatClampNeg x), σ.2.2)) : AW g cc nL ret R own Qc pc lv (.int x :: .int i :: .ref (ad g o) :: st) σ := by
  obtain ⟨hd, rfl⟩ := hd
  intro p e s m args below meth c H locs ls F hP hS hl
  refine va_iast F.1 F.2.1 F.2.2.2.2.2.2.2.1 hP (ws_D g σ) hS o 0 (by rw [ws_at g σ (kd_lt hk (by decide)), cl_k hk]; rfl) rfl hi hd (fun H1 locs1 hP1 hD1 hS1 => ?_)
  rw [ws_set (σ' := (σ.1, uA σ.2.1 o (upd (σ.2.1 o) i.toNatClampNeg x), σ.2.2)) (by rw [cl_k hk]; show _ = (Sum.inl (g.2.2.2.2.1 0, ln o, Sum.inl (uA σ.2.1 o _ o)) : va_E); rw [uA_s]) (fun o' h => cl_uA h)] at hP1
  exact kk p e s m args below meth c H1 locs1 ls F hP1 hS1 hl
theorem aw_zast {o : Nat} {i x : Int32} (hd : dn cc pc .bastore 1 pc') (hk : kd o = 12) (hi : vp_in i (ln o)) (hx : vp_nar .boolean x = x) (kk : AW g cc nL ret R own Qc pc' lv st (σ.1, uA σ.2.1 o (upd (σ.2.1 o) i.toNatClampNeg x), σ.2.2)) : AW g cc nL ret R own Qc pc lv (.int x :: .int i :: .ref (ad g o) :: st) σ := by
  obtain ⟨hd, rfl⟩ := hd
  intro p e s m args below meth c H locs ls F hP hS hl
  refine va_zast F.1 F.2.1 F.2.2.2.2.2.2.2.1 hP (ws_D g σ) hS o 1 (by rw [ws_at g σ (kd_lt hk (by decide)), cl_k hk]; rfl) rfl hi hd (fun H1 locs1 hP1 hD1 hS1 => ?_)
  rw [hx, ws_set (σ' := (σ.1, uA σ.2.1 o (upd (σ.2.1 o) i.toNatClampNeg x), σ.2.2)) (by rw [cl_k hk]; show _ = (Sum.inl (g.2.2.2.2.1 1, ln o, Sum.inl (uA σ.2.1 o _ o)) : va_E); rw [uA_s]) (fun o' h => cl_uA h)] at hP1
  exact kk p e s m args below meth c H1 locs1 ls F hP1 hS1 hl
theorem aw_alen {o kk0 : Nat} (hd : dn cc pc .arraylength 1 pc') (hk : kd o = kk0) (h2 : kk0 = 11 ∨ kk0 = 12) (kk : AW g cc nL ret R own Qc pc' lv (.int (nI (ln o)) :: st) σ) : AW g cc nL ret R own Qc pc lv (.ref (ad g o) :: st) σ := by
  obtain ⟨hd, rfl⟩ := hd
  intro p e s m args below meth c H locs ls F hP hS hl
  rcases h2 with rfl | rfl
  · exact va_alen (x := (ln o, .inl (σ.2.1 o))) F.1 F.2.1 F.2.2.2.2.2.2.2.1 hP o 0 (by rw [ws_at g σ (kd_lt hk (by decide)), cl_k hk]; rfl) rfl rfl hd (kk p e s m args below meth c H locs ls F hP hS hl)
  · exact va_alen (x := (ln o, .inl (σ.2.1 o))) F.1 F.2.1 F.2.2.2.2.2.2.2.1 hP o 1 (by rw [ws_at g σ (kd_lt hk (by decide)), cl_k hk]; rfl) rfl rfl hd (kk p e s m args below meth c H locs ls F hP hS hl)
theorem aw_aald13 {o : Nat} {i : Int32} (hd : dn cc pc .aaload 1 pc') (hk : kd o = 13) (hi : vp_in i (ln o)) (kk : AW g cc nL ret R own Qc pc' lv (.ref (ad g (o + 1 + 6 * i.toNatClampNeg)) :: st) σ) : AW g cc nL ret R own Qc pc lv (.int i :: .ref (ad g o) :: st) σ := by
  obtain ⟨hd, rfl⟩ := hd
  intro p e s m args below meth c H locs ls F hP hS hl
  exact va_aldq (f := fun k => some (ad g (o + 1 + 6 * k))) F.1 F.2.1 F.2.2.2.2.2.2.2.1 hP o 2 (by rw [ws_at g σ (kd_lt hk (by decide)), cl_k hk]; rfl) rfl hi hd (kk p e s m args below meth c H locs ls F hP hS hl)
theorem aw_aald14 {o : Nat} {i : Int32} (hd : dn cc pc .aaload 1 pc') (hk : kd o = 14) (hi : vp_in i (ln o)) (kk : AW g cc nL ret R own Qc pc' lv (.ref (ad g (o + 1 + σ.2.2 i.toNatClampNeg)) :: st) σ) : AW g cc nL ret R own Qc pc lv (.int i :: .ref (ad g o) :: st) σ := by
  obtain ⟨hd, rfl⟩ := hd
  intro p e s m args below meth c H locs ls F hP hS hl
  exact va_aldq (f := fun k => some (ad g (o + 1 + σ.2.2 k))) F.1 F.2.1 F.2.2.2.2.2.2.2.1 hP o 3 (by rw [ws_at g σ (kd_lt hk (by decide)), cl_k hk]; rfl) rfl hi hd (kk p e s m args below meth c H locs ls F hP hS hl)
theorem aw_aald15 {o : Nat} {i : Int32} (hd : dn cc pc .aaload 1 pc') (hk : kd o = 15) (hi : vp_in i (ln o)) (kk : AW g cc nL ret R own Qc pc' lv (.ref (ad g (o + 1 + 20 * i.toNatClampNeg)) :: st) σ) : AW g cc nL ret R own Qc pc lv (.int i :: .ref (ad g o) :: st) σ := by
  obtain ⟨hd, rfl⟩ := hd
  intro p e s m args below meth c H locs ls F hP hS hl
  exact va_aldq (f := fun k => some (ad g (o + 1 + 20 * k))) F.1 F.2.1 F.2.2.2.2.2.2.2.1 hP o 4 (by rw [ws_at g σ (kd_lt hk (by decide)), cl_k hk]; rfl) rfl hi hd (kk p e s m args below meth c H locs ls F hP hS hl)
end AWr
theorem gf0_groups {g : GG} {cc : ByteArray} {nL : Nat} {ret : Option FieldType} {R : Room} {own : String} {Qc : Array Value → State → Outcome → State → Prop} {pc pc' idx o : Nat} {lv : List (Option Value)} {st : List Value} {σ : SG} (hd : dn cc pc (.getfield idx) 3 pc') (hw : Cond.fieldLink own idx "RuledTables$Finding" "groups" "LRuledTables$Groups;" ∈ wtb) (hk : kd o = 0) (kk : AW g cc nL ret R own Qc pc' lv (.ref (ad g (o + 1)) :: st) σ) : AW g cc nL ret R own Qc pc lv (.ref (ad g o) :: st) σ := aw_get (ci := 0) (k := 0) hd inX0 rfl (kd_lt hk (by decide)) (cl_k hk) (by decide) rfl rfl hw kk
theorem gf0_rules {g : GG} {cc : ByteArray} {nL : Nat} {ret : Option FieldType} {R : Room} {own : String} {Qc : Array Value → State → Outcome → State → Prop} {pc pc' idx o : Nat} {lv : List (Option Value)} {st : List Value} {σ : SG} (hd : dn cc pc (.getfield idx) 3 pc') (hw : Cond.fieldLink own idx "RuledTables$Finding" "rules" "LRuledTables$Rules;" ∈ wtb) (hk : kd o = 0) (kk : AW g cc nL ret R own Qc pc' lv (.ref (ad g (o + 3)) :: st) σ) : AW g cc nL ret R own Qc pc lv (.ref (ad g o) :: st) σ := aw_get (ci := 0) (k := 1) hd inX0 rfl (kd_lt hk (by decide)) (cl_k hk) (by decide) rfl rfl hw kk
theorem gf0_tables {g : GG} {cc : ByteArray} {nL : Nat} {ret : Option FieldType} {R : Room} {own : String} {Qc : Array Value → State → Outcome → State → Prop} {pc pc' idx o : Nat} {lv : List (Option Value)} {st : List Value} {σ : SG} (hd : dn cc pc (.getfield idx) 3 pc') (hw : Cond.fieldLink own idx "RuledTables$Finding" "tables" "[LRuledTables$Table;" ∈ wtb) (hk : kd o = 0) (kk : AW g cc nL ret R own Qc pc' lv (.ref (ad g (o + 30)) :: st) σ) : AW g cc nL ret R own Qc pc lv (.ref (ad g o) :: st) σ := aw_get (ci := 0) (k := 2) hd inX0 rfl (kd_lt hk (by decide)) (cl_k hk) (by decide) rfl rfl hw kk
theorem gf0_tableCount {g : GG} {cc : ByteArray} {nL : Nat} {ret : Option FieldType} {R : Room} {own : String} {Qc : Array Value → State → Outcome → State → Prop} {pc pc' idx o : Nat} {lv : List (Option Value)} {st : List Value} {σ : SG} (hd : dn cc pc (.getfield idx) 3 pc') (hw : Cond.fieldLink own idx "RuledTables$Finding" "tableCount" "I" ∈ wtb) (hk : kd o = 0) (kk : AW g cc nL ret R own Qc pc' lv (.int (σ.1 3 o) :: st) σ) : AW g cc nL ret R own Qc pc lv (.ref (ad g o) :: st) σ := aw_get (ci := 0) (k := 3) hd inX0 rfl (kd_lt hk (by decide)) (cl_k hk) (by decide) rfl rfl hw kk
theorem pf0_tableCount {g : GG} {cc : ByteArray} {nL : Nat} {ret : Option FieldType} {R : Room} {own : String} {Qc : Array Value → State → Outcome → State → Prop} {pc pc' idx o : Nat} {lv : List (Option Value)} {st : List Value} {σ : SG} {x : Int32} (hd : dn cc pc (.putfield idx) 3 pc') (hw : Cond.fieldLink own idx "RuledTables$Finding" "tableCount" "I" ∈ wtb) (hk : kd o = 0) (kk : AW g cc nL ret R own Qc pc' lv st (uI σ.1 3 o x, σ.2)) : AW g cc nL ret R own Qc pc lv (.int x :: .ref (ad g o) :: st) σ := aw_put (ci := 0) (k := 3) (ty := .int) (f := 3) hd inX0 tyX0_ok nmX0 rfl (kd_lt hk (by decide)) (cl_k hk) (by decide) rfl rfl rfl rfl rfl (Nat.le_of_ble_eq_true rfl) hw (by rw [cl_k hk]; simp only [cl0, uI_s]; rfl) kk
theorem gf0_placing {g : GG} {cc : ByteArray} {nL : Nat} {ret : Option FieldType} {R : Room} {own : String} {Qc : Array Value → State → Outcome → State → Prop} {pc pc' idx o : Nat} {lv : List (Option Value)} {st : List Value} {σ : SG} (hd : dn cc pc (.getfield idx) 3 pc') (hw : Cond.fieldLink own idx "RuledTables$Finding" "placing" "LRuledTables$Placing;" ∈ wtb) (hk : kd o = 0) (kk : AW g cc nL ret R own Qc pc' lv (.ref (ad g (o + 151)) :: st) σ) : AW g cc nL ret R own Qc pc lv (.ref (ad g o) :: st) σ := aw_get (ci := 0) (k := 4) hd inX0 rfl (kd_lt hk (by decide)) (cl_k hk) (by decide) rfl rfl hw kk
theorem gf1_leads {g : GG} {cc : ByteArray} {nL : Nat} {ret : Option FieldType} {R : Room} {own : String} {Qc : Array Value → State → Outcome → State → Prop} {pc pc' idx o : Nat} {lv : List (Option Value)} {st : List Value} {σ : SG} (hd : dn cc pc (.getfield idx) 3 pc') (hw : Cond.fieldLink own idx "RuledTables$Groups" "leads" "[I" ∈ wtb) (hk : kd o = 1) (kk : AW g cc nL ret R own Qc pc' lv (.ref (ad g (o + 1)) :: st) σ) : AW g cc nL ret R own Qc pc lv (.ref (ad g o) :: st) σ := aw_get (ci := 1) (k := 0) hd inX1 rfl (kd_lt hk (by decide)) (cl_k hk) (by decide) rfl rfl hw kk
theorem gf2_places {g : GG} {cc : ByteArray} {nL : Nat} {ret : Option FieldType} {R : Room} {own : String} {Qc : Array Value → State → Outcome → State → Prop} {pc pc' idx o : Nat} {lv : List (Option Value)} {st : List Value} {σ : SG} (hd : dn cc pc (.getfield idx) 3 pc') (hw : Cond.fieldLink own idx "RuledTables$Lines" "places" "[[I" ∈ wtb) (hk : kd o = 2) (kk : AW g cc nL ret R own Qc pc' lv (.ref (ad g (o + 1)) :: st) σ) : AW g cc nL ret R own Qc pc lv (.ref (ad g o) :: st) σ := aw_get (ci := 2) (k := 0) hd inX2 rfl (kd_lt hk (by decide)) (cl_k hk) (by decide) rfl rfl hw kk
theorem gf2_counts {g : GG} {cc : ByteArray} {nL : Nat} {ret : Option FieldType} {R : Room} {own : String} {Qc : Array Value → State → Outcome → State → Prop} {pc pc' idx o : Nat} {lv : List (Option Value)} {st : List Value} {σ : SG} (hd : dn cc pc (.getfield idx) 3 pc') (hw : Cond.fieldLink own idx "RuledTables$Lines" "counts" "[I" ∈ wtb) (hk : kd o = 2) (kk : AW g cc nL ret R own Qc pc' lv (.ref (ad g (o + 4)) :: st) σ) : AW g cc nL ret R own Qc pc lv (.ref (ad g o) :: st) σ := aw_get (ci := 2) (k := 1) hd inX2 rfl (kd_lt hk (by decide)) (cl_k hk) (by decide) rfl rfl hw kk
theorem gf3_pieces {g : GG} {cc : ByteArray} {nL : Nat} {ret : Option FieldType} {R : Room} {own : String} {Qc : Array Value → State → Outcome → State → Prop} {pc pc' idx o : Nat} {lv : List (Option Value)} {st : List Value} {σ : SG} (hd : dn cc pc (.getfield idx) 3 pc') (hw : Cond.fieldLink own idx "RuledTables$Page" "pieces" "LRuledTables$Rows;" ∈ wtb) (hk : kd o = 3) (kk : AW g cc nL ret R own Qc pc' lv (.ref (ad g (o + 1)) :: st) σ) : AW g cc nL ret R own Qc pc lv (.ref (ad g o) :: st) σ := aw_get (ci := 3) (k := 0) hd inX3 rfl (kd_lt hk (by decide)) (cl_k hk) (by decide) rfl rfl hw kk
theorem gf3_words {g : GG} {cc : ByteArray} {nL : Nat} {ret : Option FieldType} {R : Room} {own : String} {Qc : Array Value → State → Outcome → State → Prop} {pc pc' idx o : Nat} {lv : List (Option Value)} {st : List Value} {σ : SG} (hd : dn cc pc (.getfield idx) 3 pc') (hw : Cond.fieldLink own idx "RuledTables$Page" "words" "LRuledTables$Rows;" ∈ wtb) (hk : kd o = 3) (kk : AW g cc nL ret R own Qc pc' lv (.ref (ad g (o + 3)) :: st) σ) : AW g cc nL ret R own Qc pc lv (.ref (ad g o) :: st) σ := aw_get (ci := 3) (k := 1) hd inX3 rfl (kd_lt hk (by decide)) (cl_k hk) (by decide) rfl rfl hw kk
theorem gf3_settings {g : GG} {cc : ByteArray} {nL : Nat} {ret : Option FieldType} {R : Room} {own : String} {Qc : Array Value → State → Outcome → State → Prop} {pc pc' idx o : Nat} {lv : List (Option Value)} {st : List Value} {σ : SG} (hd : dn cc pc (.getfield idx) 3 pc') (hw : Cond.fieldLink own idx "RuledTables$Page" "settings" "[I" ∈ wtb) (hk : kd o = 3) (kk : AW g cc nL ret R own Qc pc' lv (.ref (ad g (o + 5)) :: st) σ) : AW g cc nL ret R own Qc pc lv (.ref (ad g o) :: st) σ := aw_get (ci := 3) (k := 2) hd inX3 rfl (kd_lt hk (by decide)) (cl_k hk) (by decide) rfl rfl hw kk
theorem gf4_tables {g : GG} {cc : ByteArray} {nL : Nat} {ret : Option FieldType} {R : Room} {own : String} {Qc : Array Value → State → Outcome → State → Prop} {pc pc' idx o : Nat} {lv : List (Option Value)} {st : List Value} {σ : SG} (hd : dn cc pc (.getfield idx) 3 pc') (hw : Cond.fieldLink own idx "RuledTables$Placing" "tables" "[I" ∈ wtb) (hk : kd o = 4) (kk : AW g cc nL ret R own Qc pc' lv (.ref (ad g (o + 1)) :: st) σ) : AW g cc nL ret R own Qc pc lv (.ref (ad g o) :: st) σ := aw_get (ci := 4) (k := 0) hd inX4 rfl (kd_lt hk (by decide)) (cl_k hk) (by decide) rfl rfl hw kk
theorem gf4_cells {g : GG} {cc : ByteArray} {nL : Nat} {ret : Option FieldType} {R : Room} {own : String} {Qc : Array Value → State → Outcome → State → Prop} {pc pc' idx o : Nat} {lv : List (Option Value)} {st : List Value} {σ : SG} (hd : dn cc pc (.getfield idx) 3 pc') (hw : Cond.fieldLink own idx "RuledTables$Placing" "cells" "[I" ∈ wtb) (hk : kd o = 4) (kk : AW g cc nL ret R own Qc pc' lv (.ref (ad g (o + 2)) :: st) σ) : AW g cc nL ret R own Qc pc lv (.ref (ad g o) :: st) σ := aw_get (ci := 4) (k := 1) hd inX4 rfl (kd_lt hk (by decide)) (cl_k hk) (by decide) rfl rfl hw kk
theorem gf4_order {g : GG} {cc : ByteArray} {nL : Nat} {ret : Option FieldType} {R : Room} {own : String} {Qc : Array Value → State → Outcome → State → Prop} {pc pc' idx o : Nat} {lv : List (Option Value)} {st : List Value} {σ : SG} (hd : dn cc pc (.getfield idx) 3 pc') (hw : Cond.fieldLink own idx "RuledTables$Placing" "order" "[I" ∈ wtb) (hk : kd o = 4) (kk : AW g cc nL ret R own Qc pc' lv (.ref (ad g (o + 3)) :: st) σ) : AW g cc nL ret R own Qc pc lv (.ref (ad g o) :: st) σ := aw_get (ci := 4) (k := 2) hd inX4 rfl (kd_lt hk (by decide)) (cl_k hk) (by decide) rfl rfl hw kk
theorem gf4_count {g : GG} {cc : ByteArray} {nL : Nat} {ret : Option FieldType} {R : Room} {own : String} {Qc : Array Value → State → Outcome → State → Prop} {pc pc' idx o : Nat} {lv : List (Option Value)} {st : List Value} {σ : SG} (hd : dn cc pc (.getfield idx) 3 pc') (hw : Cond.fieldLink own idx "RuledTables$Placing" "count" "I" ∈ wtb) (hk : kd o = 4) (kk : AW g cc nL ret R own Qc pc' lv (.int (σ.1 131 o) :: st) σ) : AW g cc nL ret R own Qc pc lv (.ref (ad g o) :: st) σ := aw_get (ci := 4) (k := 3) hd inX4 rfl (kd_lt hk (by decide)) (cl_k hk) (by decide) rfl rfl hw kk
theorem pf4_count {g : GG} {cc : ByteArray} {nL : Nat} {ret : Option FieldType} {R : Room} {own : String} {Qc : Array Value → State → Outcome → State → Prop} {pc pc' idx o : Nat} {lv : List (Option Value)} {st : List Value} {σ : SG} {x : Int32} (hd : dn cc pc (.putfield idx) 3 pc') (hw : Cond.fieldLink own idx "RuledTables$Placing" "count" "I" ∈ wtb) (hk : kd o = 4) (kk : AW g cc nL ret R own Qc pc' lv st (uI σ.1 131 o x, σ.2)) : AW g cc nL ret R own Qc pc lv (.int x :: .ref (ad g o) :: st) σ := aw_put (ci := 4) (k := 3) (ty := .int) (f := 131) hd inX4 tyX4_ok nmX4 rfl (kd_lt hk (by decide)) (cl_k hk) (by decide) rfl rfl rfl rfl rfl (Nat.le_of_ble_eq_true rfl) hw (by rw [cl_k hk]; simp only [cl0, uI_s, uI_f (show 132 ≠ 131 by decide)]; rfl) kk
theorem gf4_loose {g : GG} {cc : ByteArray} {nL : Nat} {ret : Option FieldType} {R : Room} {own : String} {Qc : Array Value → State → Outcome → State → Prop} {pc pc' idx o : Nat} {lv : List (Option Value)} {st : List Value} {σ : SG} (hd : dn cc pc (.getfield idx) 3 pc') (hw : Cond.fieldLink own idx "RuledTables$Placing" "loose" "I" ∈ wtb) (hk : kd o = 4) (kk : AW g cc nL ret R own Qc pc' lv (.int (σ.1 132 o) :: st) σ) : AW g cc nL ret R own Qc pc lv (.ref (ad g o) :: st) σ := aw_get (ci := 4) (k := 4) hd inX4 rfl (kd_lt hk (by decide)) (cl_k hk) (by decide) rfl rfl hw kk
theorem pf4_loose {g : GG} {cc : ByteArray} {nL : Nat} {ret : Option FieldType} {R : Room} {own : String} {Qc : Array Value → State → Outcome → State → Prop} {pc pc' idx o : Nat} {lv : List (Option Value)} {st : List Value} {σ : SG} {x : Int32} (hd : dn cc pc (.putfield idx) 3 pc') (hw : Cond.fieldLink own idx "RuledTables$Placing" "loose" "I" ∈ wtb) (hk : kd o = 4) (kk : AW g cc nL ret R own Qc pc' lv st (uI σ.1 132 o x, σ.2)) : AW g cc nL ret R own Qc pc lv (.int x :: .ref (ad g o) :: st) σ := aw_put (ci := 4) (k := 4) (ty := .int) (f := 132) hd inX4 tyX4_ok nmX4 rfl (kd_lt hk (by decide)) (cl_k hk) (by decide) rfl rfl rfl rfl rfl (Nat.le_of_ble_eq_true rfl) hw (by rw [cl_k hk]; simp only [cl0, uI_s, uI_f (show 131 ≠ 132 by decide)]; rfl) kk
theorem gf5_numbers {g : GG} {cc : ByteArray} {nL : Nat} {ret : Option FieldType} {R : Room} {own : String} {Qc : Array Value → State → Outcome → State → Prop} {pc pc' idx o : Nat} {lv : List (Option Value)} {st : List Value} {σ : SG} (hd : dn cc pc (.getfield idx) 3 pc') (hw : Cond.fieldLink own idx "RuledTables$Rows" "numbers" "[I" ∈ wtb) (hk : kd o = 5) (kk : AW g cc nL ret R own Qc pc' lv (.ref (ad g (o + 1)) :: st) σ) : AW g cc nL ret R own Qc pc lv (.ref (ad g o) :: st) σ := aw_get (ci := 5) (k := 0) hd inX5 rfl (kd_lt hk (by decide)) (cl_k hk) (by decide) rfl rfl hw kk
theorem gf5_most {g : GG} {cc : ByteArray} {nL : Nat} {ret : Option FieldType} {R : Room} {own : String} {Qc : Array Value → State → Outcome → State → Prop} {pc pc' idx o : Nat} {lv : List (Option Value)} {st : List Value} {σ : SG} (hd : dn cc pc (.getfield idx) 3 pc') (hw : Cond.fieldLink own idx "RuledTables$Rows" "most" "I" ∈ wtb) (hk : kd o = 5) (kk : AW g cc nL ret R own Qc pc' lv (.int (σ.1 161 o) :: st) σ) : AW g cc nL ret R own Qc pc lv (.ref (ad g o) :: st) σ := aw_get (ci := 5) (k := 1) hd inX5 rfl (kd_lt hk (by decide)) (cl_k hk) (by decide) rfl rfl hw kk
theorem gf5_count {g : GG} {cc : ByteArray} {nL : Nat} {ret : Option FieldType} {R : Room} {own : String} {Qc : Array Value → State → Outcome → State → Prop} {pc pc' idx o : Nat} {lv : List (Option Value)} {st : List Value} {σ : SG} (hd : dn cc pc (.getfield idx) 3 pc') (hw : Cond.fieldLink own idx "RuledTables$Rows" "count" "I" ∈ wtb) (hk : kd o = 5) (kk : AW g cc nL ret R own Qc pc' lv (.int (σ.1 162 o) :: st) σ) : AW g cc nL ret R own Qc pc lv (.ref (ad g o) :: st) σ := aw_get (ci := 5) (k := 2) hd inX5 rfl (kd_lt hk (by decide)) (cl_k hk) (by decide) rfl rfl hw kk
theorem pf5_count {g : GG} {cc : ByteArray} {nL : Nat} {ret : Option FieldType} {R : Room} {own : String} {Qc : Array Value → State → Outcome → State → Prop} {pc pc' idx o : Nat} {lv : List (Option Value)} {st : List Value} {σ : SG} {x : Int32} (hd : dn cc pc (.putfield idx) 3 pc') (hw : Cond.fieldLink own idx "RuledTables$Rows" "count" "I" ∈ wtb) (hk : kd o = 5) (kk : AW g cc nL ret R own Qc pc' lv st (uI σ.1 162 o x, σ.2)) : AW g cc nL ret R own Qc pc lv (.int x :: .ref (ad g o) :: st) σ := aw_put (ci := 5) (k := 2) (ty := .int) (f := 162) hd inX5 tyX5_ok nmX5 rfl (kd_lt hk (by decide)) (cl_k hk) (by decide) rfl rfl rfl rfl rfl (Nat.le_of_ble_eq_true rfl) hw (by rw [cl_k hk]; simp only [cl0, uI_s, uI_f (show 161 ≠ 162 by decide)]; rfl) kk
theorem gf6_way {g : GG} {cc : ByteArray} {nL : Nat} {ret : Option FieldType} {R : Room} {own : String} {Qc : Array Value → State → Outcome → State → Prop} {pc pc' idx o : Nat} {lv : List (Option Value)} {st : List Value} {σ : SG} (hd : dn cc pc (.getfield idx) 3 pc') (hw : Cond.fieldLink own idx "RuledTables$Rule" "way" "I" ∈ wtb) (hk : kd o = 6) (kk : AW g cc nL ret R own Qc pc' lv (.int (σ.1 192 o) :: st) σ) : AW g cc nL ret R own Qc pc lv (.ref (ad g o) :: st) σ := aw_get (ci := 6) (k := 0) hd inX6 rfl (kd_lt hk (by decide)) (cl_k hk) (by decide) rfl rfl hw kk
theorem pf6_way {g : GG} {cc : ByteArray} {nL : Nat} {ret : Option FieldType} {R : Room} {own : String} {Qc : Array Value → State → Outcome → State → Prop} {pc pc' idx o : Nat} {lv : List (Option Value)} {st : List Value} {σ : SG} {x : Int32} (hd : dn cc pc (.putfield idx) 3 pc') (hw : Cond.fieldLink own idx "RuledTables$Rule" "way" "I" ∈ wtb) (hk : kd o = 6) (kk : AW g cc nL ret R own Qc pc' lv st (uI σ.1 192 o x, σ.2)) : AW g cc nL ret R own Qc pc lv (.int x :: .ref (ad g o) :: st) σ := aw_put (ci := 6) (k := 0) (ty := .int) (f := 192) hd inX6 tyX6_ok nmX6 rfl (kd_lt hk (by decide)) (cl_k hk) (by decide) rfl rfl rfl rfl rfl (Nat.le_of_ble_eq_true rfl) hw (by rw [cl_k hk]; simp only [cl0, uI_s, uI_f (show 193 ≠ 192 by decide), uI_f (show 194 ≠ 192 by decide), uI_f (show 195 ≠ 192 by decide), uI_f (show 196 ≠ 192 by decide), uI_f (show 197 ≠ 192 by decide), uI_f (show 198 ≠ 192 by decide), uI_f (show 199 ≠ 192 by decide), uI_f (show 200 ≠ 192 by decide)]; rfl) kk
theorem gf6_at {g : GG} {cc : ByteArray} {nL : Nat} {ret : Option FieldType} {R : Room} {own : String} {Qc : Array Value → State → Outcome → State → Prop} {pc pc' idx o : Nat} {lv : List (Option Value)} {st : List Value} {σ : SG} (hd : dn cc pc (.getfield idx) 3 pc') (hw : Cond.fieldLink own idx "RuledTables$Rule" "at" "I" ∈ wtb) (hk : kd o = 6) (kk : AW g cc nL ret R own Qc pc' lv (.int (σ.1 193 o) :: st) σ) : AW g cc nL ret R own Qc pc lv (.ref (ad g o) :: st) σ := aw_get (ci := 6) (k := 1) hd inX6 rfl (kd_lt hk (by decide)) (cl_k hk) (by decide) rfl rfl hw kk
theorem pf6_at {g : GG} {cc : ByteArray} {nL : Nat} {ret : Option FieldType} {R : Room} {own : String} {Qc : Array Value → State → Outcome → State → Prop} {pc pc' idx o : Nat} {lv : List (Option Value)} {st : List Value} {σ : SG} {x : Int32} (hd : dn cc pc (.putfield idx) 3 pc') (hw : Cond.fieldLink own idx "RuledTables$Rule" "at" "I" ∈ wtb) (hk : kd o = 6) (kk : AW g cc nL ret R own Qc pc' lv st (uI σ.1 193 o x, σ.2)) : AW g cc nL ret R own Qc pc lv (.int x :: .ref (ad g o) :: st) σ := aw_put (ci := 6) (k := 1) (ty := .int) (f := 193) hd inX6 tyX6_ok nmX6 rfl (kd_lt hk (by decide)) (cl_k hk) (by decide) rfl rfl rfl rfl rfl (Nat.le_of_ble_eq_true rfl) hw (by rw [cl_k hk]; simp only [cl0, uI_s, uI_f (show 192 ≠ 193 by decide), uI_f (show 194 ≠ 193 by decide), uI_f (show 195 ≠ 193 by decide), uI_f (show 196 ≠ 193 by decide), uI_f (show 197 ≠ 193 by decide), uI_f (show 198 ≠ 193 by decide), uI_f (show 199 ≠ 193 by decide), uI_f (show 200 ≠ 193 by decide)]; rfl) kk
theorem gf6_from {g : GG} {cc : ByteArray} {nL : Nat} {ret : Option FieldType} {R : Room} {own : String} {Qc : Array Value → State → Outcome → State → Prop} {pc pc' idx o : Nat} {lv : List (Option Value)} {st : List Value} {σ : SG} (hd : dn cc pc (.getfield idx) 3 pc') (hw : Cond.fieldLink own idx "RuledTables$Rule" "from" "I" ∈ wtb) (hk : kd o = 6) (kk : AW g cc nL ret R own Qc pc' lv (.int (σ.1 194 o) :: st) σ) : AW g cc nL ret R own Qc pc lv (.ref (ad g o) :: st) σ := aw_get (ci := 6) (k := 2) hd inX6 rfl (kd_lt hk (by decide)) (cl_k hk) (by decide) rfl rfl hw kk
theorem pf6_from {g : GG} {cc : ByteArray} {nL : Nat} {ret : Option FieldType} {R : Room} {own : String} {Qc : Array Value → State → Outcome → State → Prop} {pc pc' idx o : Nat} {lv : List (Option Value)} {st : List Value} {σ : SG} {x : Int32} (hd : dn cc pc (.putfield idx) 3 pc') (hw : Cond.fieldLink own idx "RuledTables$Rule" "from" "I" ∈ wtb) (hk : kd o = 6) (kk : AW g cc nL ret R own Qc pc' lv st (uI σ.1 194 o x, σ.2)) : AW g cc nL ret R own Qc pc lv (.int x :: .ref (ad g o) :: st) σ := aw_put (ci := 6) (k := 2) (ty := .int) (f := 194) hd inX6 tyX6_ok nmX6 rfl (kd_lt hk (by decide)) (cl_k hk) (by decide) rfl rfl rfl rfl rfl (Nat.le_of_ble_eq_true rfl) hw (by rw [cl_k hk]; simp only [cl0, uI_s, uI_f (show 192 ≠ 194 by decide), uI_f (show 193 ≠ 194 by decide), uI_f (show 195 ≠ 194 by decide), uI_f (show 196 ≠ 194 by decide), uI_f (show 197 ≠ 194 by decide), uI_f (show 198 ≠ 194 by decide), uI_f (show 199 ≠ 194 by decide), uI_f (show 200 ≠ 194 by decide)]; rfl) kk
theorem gf6_to {g : GG} {cc : ByteArray} {nL : Nat} {ret : Option FieldType} {R : Room} {own : String} {Qc : Array Value → State → Outcome → State → Prop} {pc pc' idx o : Nat} {lv : List (Option Value)} {st : List Value} {σ : SG} (hd : dn cc pc (.getfield idx) 3 pc') (hw : Cond.fieldLink own idx "RuledTables$Rule" "to" "I" ∈ wtb) (hk : kd o = 6) (kk : AW g cc nL ret R own Qc pc' lv (.int (σ.1 195 o) :: st) σ) : AW g cc nL ret R own Qc pc lv (.ref (ad g o) :: st) σ := aw_get (ci := 6) (k := 3) hd inX6 rfl (kd_lt hk (by decide)) (cl_k hk) (by decide) rfl rfl hw kk
theorem pf6_to {g : GG} {cc : ByteArray} {nL : Nat} {ret : Option FieldType} {R : Room} {own : String} {Qc : Array Value → State → Outcome → State → Prop} {pc pc' idx o : Nat} {lv : List (Option Value)} {st : List Value} {σ : SG} {x : Int32} (hd : dn cc pc (.putfield idx) 3 pc') (hw : Cond.fieldLink own idx "RuledTables$Rule" "to" "I" ∈ wtb) (hk : kd o = 6) (kk : AW g cc nL ret R own Qc pc' lv st (uI σ.1 195 o x, σ.2)) : AW g cc nL ret R own Qc pc lv (.int x :: .ref (ad g o) :: st) σ := aw_put (ci := 6) (k := 3) (ty := .int) (f := 195) hd inX6 tyX6_ok nmX6 rfl (kd_lt hk (by decide)) (cl_k hk) (by decide) rfl rfl rfl rfl rfl (Nat.le_of_ble_eq_true rfl) hw (by rw [cl_k hk]; simp only [cl0, uI_s, uI_f (show 192 ≠ 195 by decide), uI_f (show 193 ≠ 195 by decide), uI_f (show 194 ≠ 195 by decide), uI_f (show 196 ≠ 195 by decide), uI_f (show 197 ≠ 195 by decide), uI_f (show 198 ≠ 195 by decide), uI_f (show 199 ≠ 195 by decide), uI_f (show 200 ≠ 195 by decide)]; rfl) kk
theorem gf6_longest {g : GG} {cc : ByteArray} {nL : Nat} {ret : Option FieldType} {R : Room} {own : String} {Qc : Array Value → State → Outcome → State → Prop} {pc pc' idx o : Nat} {lv : List (Option Value)} {st : List Value} {σ : SG} (hd : dn cc pc (.getfield idx) 3 pc') (hw : Cond.fieldLink own idx "RuledTables$Rule" "longest" "I" ∈ wtb) (hk : kd o = 6) (kk : AW g cc nL ret R own Qc pc' lv (.int (σ.1 196 o) :: st) σ) : AW g cc nL ret R own Qc pc lv (.ref (ad g o) :: st) σ := aw_get (ci := 6) (k := 4) hd inX6 rfl (kd_lt hk (by decide)) (cl_k hk) (by decide) rfl rfl hw kk
theorem pf6_longest {g : GG} {cc : ByteArray} {nL : Nat} {ret : Option FieldType} {R : Room} {own : String} {Qc : Array Value → State → Outcome → State → Prop} {pc pc' idx o : Nat} {lv : List (Option Value)} {st : List Value} {σ : SG} {x : Int32} (hd : dn cc pc (.putfield idx) 3 pc') (hw : Cond.fieldLink own idx "RuledTables$Rule" "longest" "I" ∈ wtb) (hk : kd o = 6) (kk : AW g cc nL ret R own Qc pc' lv st (uI σ.1 196 o x, σ.2)) : AW g cc nL ret R own Qc pc lv (.int x :: .ref (ad g o) :: st) σ := aw_put (ci := 6) (k := 4) (ty := .int) (f := 196) hd inX6 tyX6_ok nmX6 rfl (kd_lt hk (by decide)) (cl_k hk) (by decide) rfl rfl rfl rfl rfl (Nat.le_of_ble_eq_true rfl) hw (by rw [cl_k hk]; simp only [cl0, uI_s, uI_f (show 192 ≠ 196 by decide), uI_f (show 193 ≠ 196 by decide), uI_f (show 194 ≠ 196 by decide), uI_f (show 195 ≠ 196 by decide), uI_f (show 197 ≠ 196 by decide), uI_f (show 198 ≠ 196 by decide), uI_f (show 199 ≠ 196 by decide), uI_f (show 200 ≠ 196 by decide)]; rfl) kk
theorem gf6_pieces {g : GG} {cc : ByteArray} {nL : Nat} {ret : Option FieldType} {R : Room} {own : String} {Qc : Array Value → State → Outcome → State → Prop} {pc pc' idx o : Nat} {lv : List (Option Value)} {st : List Value} {σ : SG} (hd : dn cc pc (.getfield idx) 3 pc') (hw : Cond.fieldLink own idx "RuledTables$Rule" "pieces" "I" ∈ wtb) (hk : kd o = 6) (kk : AW g cc nL ret R own Qc pc' lv (.int (σ.1 197 o) :: st) σ) : AW g cc nL ret R own Qc pc lv (.ref (ad g o) :: st) σ := aw_get (ci := 6) (k := 5) hd inX6 rfl (kd_lt hk (by decide)) (cl_k hk) (by decide) rfl rfl hw kk
theorem pf6_pieces {g : GG} {cc : ByteArray} {nL : Nat} {ret : Option FieldType} {R : Room} {own : String} {Qc : Array Value → State → Outcome → State → Prop} {pc pc' idx o : Nat} {lv : List (Option Value)} {st : List Value} {σ : SG} {x : Int32} (hd : dn cc pc (.putfield idx) 3 pc') (hw : Cond.fieldLink own idx "RuledTables$Rule" "pieces" "I" ∈ wtb) (hk : kd o = 6) (kk : AW g cc nL ret R own Qc pc' lv st (uI σ.1 197 o x, σ.2)) : AW g cc nL ret R own Qc pc lv (.int x :: .ref (ad g o) :: st) σ := aw_put (ci := 6) (k := 5) (ty := .int) (f := 197) hd inX6 tyX6_ok nmX6 rfl (kd_lt hk (by decide)) (cl_k hk) (by decide) rfl rfl rfl rfl rfl (Nat.le_of_ble_eq_true rfl) hw (by rw [cl_k hk]; simp only [cl0, uI_s, uI_f (show 192 ≠ 197 by decide), uI_f (show 193 ≠ 197 by decide), uI_f (show 194 ≠ 197 by decide), uI_f (show 195 ≠ 197 by decide), uI_f (show 196 ≠ 197 by decide), uI_f (show 198 ≠ 197 by decide), uI_f (show 199 ≠ 197 by decide), uI_f (show 200 ≠ 197 by decide)]; rfl) kk
theorem gf6_first {g : GG} {cc : ByteArray} {nL : Nat} {ret : Option FieldType} {R : Room} {own : String} {Qc : Array Value → State → Outcome → State → Prop} {pc pc' idx o : Nat} {lv : List (Option Value)} {st : List Value} {σ : SG} (hd : dn cc pc (.getfield idx) 3 pc') (hw : Cond.fieldLink own idx "RuledTables$Rule" "first" "I" ∈ wtb) (hk : kd o = 6) (kk : AW g cc nL ret R own Qc pc' lv (.int (σ.1 198 o) :: st) σ) : AW g cc nL ret R own Qc pc lv (.ref (ad g o) :: st) σ := aw_get (ci := 6) (k := 6) hd inX6 rfl (kd_lt hk (by decide)) (cl_k hk) (by decide) rfl rfl hw kk
theorem pf6_first {g : GG} {cc : ByteArray} {nL : Nat} {ret : Option FieldType} {R : Room} {own : String} {Qc : Array Value → State → Outcome → State → Prop} {pc pc' idx o : Nat} {lv : List (Option Value)} {st : List Value} {σ : SG} {x : Int32} (hd : dn cc pc (.putfield idx) 3 pc') (hw : Cond.fieldLink own idx "RuledTables$Rule" "first" "I" ∈ wtb) (hk : kd o = 6) (kk : AW g cc nL ret R own Qc pc' lv st (uI σ.1 198 o x, σ.2)) : AW g cc nL ret R own Qc pc lv (.int x :: .ref (ad g o) :: st) σ := aw_put (ci := 6) (k := 6) (ty := .int) (f := 198) hd inX6 tyX6_ok nmX6 rfl (kd_lt hk (by decide)) (cl_k hk) (by decide) rfl rfl rfl rfl rfl (Nat.le_of_ble_eq_true rfl) hw (by rw [cl_k hk]; simp only [cl0, uI_s, uI_f (show 192 ≠ 198 by decide), uI_f (show 193 ≠ 198 by decide), uI_f (show 194 ≠ 198 by decide), uI_f (show 195 ≠ 198 by decide), uI_f (show 196 ≠ 198 by decide), uI_f (show 197 ≠ 198 by decide), uI_f (show 199 ≠ 198 by decide), uI_f (show 200 ≠ 198 by decide)]; rfl) kk
theorem gf6_crossings {g : GG} {cc : ByteArray} {nL : Nat} {ret : Option FieldType} {R : Room} {own : String} {Qc : Array Value → State → Outcome → State → Prop} {pc pc' idx o : Nat} {lv : List (Option Value)} {st : List Value} {σ : SG} (hd : dn cc pc (.getfield idx) 3 pc') (hw : Cond.fieldLink own idx "RuledTables$Rule" "crossings" "I" ∈ wtb) (hk : kd o = 6) (kk : AW g cc nL ret R own Qc pc' lv (.int (σ.1 199 o) :: st) σ) : AW g cc nL ret R own Qc pc lv (.ref (ad g o) :: st) σ := aw_get (ci := 6) (k := 7) hd inX6 rfl (kd_lt hk (by decide)) (cl_k hk) (by decide) rfl rfl hw kk
theorem pf6_crossings {g : GG} {cc : ByteArray} {nL : Nat} {ret : Option FieldType} {R : Room} {own : String} {Qc : Array Value → State → Outcome → State → Prop} {pc pc' idx o : Nat} {lv : List (Option Value)} {st : List Value} {σ : SG} {x : Int32} (hd : dn cc pc (.putfield idx) 3 pc') (hw : Cond.fieldLink own idx "RuledTables$Rule" "crossings" "I" ∈ wtb) (hk : kd o = 6) (kk : AW g cc nL ret R own Qc pc' lv st (uI σ.1 199 o x, σ.2)) : AW g cc nL ret R own Qc pc lv (.int x :: .ref (ad g o) :: st) σ := aw_put (ci := 6) (k := 7) (ty := .int) (f := 199) hd inX6 tyX6_ok nmX6 rfl (kd_lt hk (by decide)) (cl_k hk) (by decide) rfl rfl rfl rfl rfl (Nat.le_of_ble_eq_true rfl) hw (by rw [cl_k hk]; simp only [cl0, uI_s, uI_f (show 192 ≠ 199 by decide), uI_f (show 193 ≠ 199 by decide), uI_f (show 194 ≠ 199 by decide), uI_f (show 195 ≠ 199 by decide), uI_f (show 196 ≠ 199 by decide), uI_f (show 197 ≠ 199 by decide), uI_f (show 198 ≠ 199 by decide), uI_f (show 200 ≠ 199 by decide)]; rfl) kk
theorem gf6_table {g : GG} {cc : ByteArray} {nL : Nat} {ret : Option FieldType} {R : Room} {own : String} {Qc : Array Value → State → Outcome → State → Prop} {pc pc' idx o : Nat} {lv : List (Option Value)} {st : List Value} {σ : SG} (hd : dn cc pc (.getfield idx) 3 pc') (hw : Cond.fieldLink own idx "RuledTables$Rule" "table" "I" ∈ wtb) (hk : kd o = 6) (kk : AW g cc nL ret R own Qc pc' lv (.int (σ.1 200 o) :: st) σ) : AW g cc nL ret R own Qc pc lv (.ref (ad g o) :: st) σ := aw_get (ci := 6) (k := 8) hd inX6 rfl (kd_lt hk (by decide)) (cl_k hk) (by decide) rfl rfl hw kk
theorem pf6_table {g : GG} {cc : ByteArray} {nL : Nat} {ret : Option FieldType} {R : Room} {own : String} {Qc : Array Value → State → Outcome → State → Prop} {pc pc' idx o : Nat} {lv : List (Option Value)} {st : List Value} {σ : SG} {x : Int32} (hd : dn cc pc (.putfield idx) 3 pc') (hw : Cond.fieldLink own idx "RuledTables$Rule" "table" "I" ∈ wtb) (hk : kd o = 6) (kk : AW g cc nL ret R own Qc pc' lv st (uI σ.1 200 o x, σ.2)) : AW g cc nL ret R own Qc pc lv (.int x :: .ref (ad g o) :: st) σ := aw_put (ci := 6) (k := 8) (ty := .int) (f := 200) hd inX6 tyX6_ok nmX6 rfl (kd_lt hk (by decide)) (cl_k hk) (by decide) rfl rfl rfl rfl rfl (Nat.le_of_ble_eq_true rfl) hw (by rw [cl_k hk]; simp only [cl0, uI_s, uI_f (show 192 ≠ 200 by decide), uI_f (show 193 ≠ 200 by decide), uI_f (show 194 ≠ 200 by decide), uI_f (show 195 ≠ 200 by decide), uI_f (show 196 ≠ 200 by decide), uI_f (show 197 ≠ 200 by decide), uI_f (show 198 ≠ 200 by decide), uI_f (show 199 ≠ 200 by decide)]; rfl) kk
theorem gf7_all {g : GG} {cc : ByteArray} {nL : Nat} {ret : Option FieldType} {R : Room} {own : String} {Qc : Array Value → State → Outcome → State → Prop} {pc pc' idx o : Nat} {lv : List (Option Value)} {st : List Value} {σ : SG} (hd : dn cc pc (.getfield idx) 3 pc') (hw : Cond.fieldLink own idx "RuledTables$Rules" "all" "[LRuledTables$Rule;" ∈ wtb) (hk : kd o = 7) (kk : AW g cc nL ret R own Qc pc' lv (.ref (ad g (o + 1)) :: st) σ) : AW g cc nL ret R own Qc pc lv (.ref (ad g o) :: st) σ := aw_get (ci := 7) (k := 0) hd inX7 rfl (kd_lt hk (by decide)) (cl_k hk) (by decide) rfl rfl hw kk
theorem gf7_ofPiece {g : GG} {cc : ByteArray} {nL : Nat} {ret : Option FieldType} {R : Room} {own : String} {Qc : Array Value → State → Outcome → State → Prop} {pc pc' idx o : Nat} {lv : List (Option Value)} {st : List Value} {σ : SG} (hd : dn cc pc (.getfield idx) 3 pc') (hw : Cond.fieldLink own idx "RuledTables$Rules" "ofPiece" "[I" ∈ wtb) (hk : kd o = 7) (kk : AW g cc nL ret R own Qc pc' lv (.ref (ad g (o + 26)) :: st) σ) : AW g cc nL ret R own Qc pc lv (.ref (ad g o) :: st) σ := aw_get (ci := 7) (k := 1) hd inX7 rfl (kd_lt hk (by decide)) (cl_k hk) (by decide) rfl rfl hw kk
theorem gf7_count {g : GG} {cc : ByteArray} {nL : Nat} {ret : Option FieldType} {R : Room} {own : String} {Qc : Array Value → State → Outcome → State → Prop} {pc pc' idx o : Nat} {lv : List (Option Value)} {st : List Value} {σ : SG} (hd : dn cc pc (.getfield idx) 3 pc') (hw : Cond.fieldLink own idx "RuledTables$Rules" "count" "I" ∈ wtb) (hk : kd o = 7) (kk : AW g cc nL ret R own Qc pc' lv (.int (σ.1 226 o) :: st) σ) : AW g cc nL ret R own Qc pc lv (.ref (ad g o) :: st) σ := aw_get (ci := 7) (k := 2) hd inX7 rfl (kd_lt hk (by decide)) (cl_k hk) (by decide) rfl rfl hw kk
theorem pf7_count {g : GG} {cc : ByteArray} {nL : Nat} {ret : Option FieldType} {R : Room} {own : String} {Qc : Array Value → State → Outcome → State → Prop} {pc pc' idx o : Nat} {lv : List (Option Value)} {st : List Value} {σ : SG} {x : Int32} (hd : dn cc pc (.putfield idx) 3 pc') (hw : Cond.fieldLink own idx "RuledTables$Rules" "count" "I" ∈ wtb) (hk : kd o = 7) (kk : AW g cc nL ret R own Qc pc' lv st (uI σ.1 226 o x, σ.2)) : AW g cc nL ret R own Qc pc lv (.int x :: .ref (ad g o) :: st) σ := aw_put (ci := 7) (k := 2) (ty := .int) (f := 226) hd inX7 tyX7_ok nmX7 rfl (kd_lt hk (by decide)) (cl_k hk) (by decide) rfl rfl rfl rfl rfl (Nat.le_of_ble_eq_true rfl) hw (by rw [cl_k hk]; simp only [cl0, uI_s]; rfl) kk
theorem gf8_lines {g : GG} {cc : ByteArray} {nL : Nat} {ret : Option FieldType} {R : Room} {own : String} {Qc : Array Value → State → Outcome → State → Prop} {pc pc' idx o : Nat} {lv : List (Option Value)} {st : List Value} {σ : SG} (hd : dn cc pc (.getfield idx) 3 pc') (hw : Cond.fieldLink own idx "RuledTables$Table" "lines" "LRuledTables$Lines;" ∈ wtb) (hk : kd o = 8) (kk : AW g cc nL ret R own Qc pc' lv (.ref (ad g (o + 1)) :: st) σ) : AW g cc nL ret R own Qc pc lv (.ref (ad g o) :: st) σ := aw_get (ci := 8) (k := 0) hd inX8 rfl (kd_lt hk (by decide)) (cl_k hk) (by decide) rfl rfl hw kk
theorem gf8_rules {g : GG} {cc : ByteArray} {nL : Nat} {ret : Option FieldType} {R : Room} {own : String} {Qc : Array Value → State → Outcome → State → Prop} {pc pc' idx o : Nat} {lv : List (Option Value)} {st : List Value} {σ : SG} (hd : dn cc pc (.getfield idx) 3 pc') (hw : Cond.fieldLink own idx "RuledTables$Table" "rules" "I" ∈ wtb) (hk : kd o = 8) (kk : AW g cc nL ret R own Qc pc' lv (.int (σ.1 257 o) :: st) σ) : AW g cc nL ret R own Qc pc lv (.ref (ad g o) :: st) σ := aw_get (ci := 8) (k := 1) hd inX8 rfl (kd_lt hk (by decide)) (cl_k hk) (by decide) rfl rfl hw kk
theorem pf8_rules {g : GG} {cc : ByteArray} {nL : Nat} {ret : Option FieldType} {R : Room} {own : String} {Qc : Array Value → State → Outcome → State → Prop} {pc pc' idx o : Nat} {lv : List (Option Value)} {st : List Value} {σ : SG} {x : Int32} (hd : dn cc pc (.putfield idx) 3 pc') (hw : Cond.fieldLink own idx "RuledTables$Table" "rules" "I" ∈ wtb) (hk : kd o = 8) (kk : AW g cc nL ret R own Qc pc' lv st (uI σ.1 257 o x, σ.2)) : AW g cc nL ret R own Qc pc lv (.int x :: .ref (ad g o) :: st) σ := aw_put (ci := 8) (k := 1) (ty := .int) (f := 257) hd inX8 tyX8_ok nmX8 rfl (kd_lt hk (by decide)) (cl_k hk) (by decide) rfl rfl rfl rfl rfl (Nat.le_of_ble_eq_true rfl) hw (by rw [cl_k hk]; simp only [cl0, uI_s, uI_f (show 258 ≠ 257 by decide), uI_f (show 259 ≠ 257 by decide), uI_f (show 263 ≠ 257 by decide), uI_f (show 265 ≠ 257 by decide), uI_f (show 266 ≠ 257 by decide), uI_f (show 267 ≠ 257 by decide)]; rfl) kk
theorem gf8_rows {g : GG} {cc : ByteArray} {nL : Nat} {ret : Option FieldType} {R : Room} {own : String} {Qc : Array Value → State → Outcome → State → Prop} {pc pc' idx o : Nat} {lv : List (Option Value)} {st : List Value} {σ : SG} (hd : dn cc pc (.getfield idx) 3 pc') (hw : Cond.fieldLink own idx "RuledTables$Table" "rows" "I" ∈ wtb) (hk : kd o = 8) (kk : AW g cc nL ret R own Qc pc' lv (.int (σ.1 258 o) :: st) σ) : AW g cc nL ret R own Qc pc lv (.ref (ad g o) :: st) σ := aw_get (ci := 8) (k := 2) hd inX8 rfl (kd_lt hk (by decide)) (cl_k hk) (by decide) rfl rfl hw kk
theorem pf8_rows {g : GG} {cc : ByteArray} {nL : Nat} {ret : Option FieldType} {R : Room} {own : String} {Qc : Array Value → State → Outcome → State → Prop} {pc pc' idx o : Nat} {lv : List (Option Value)} {st : List Value} {σ : SG} {x : Int32} (hd : dn cc pc (.putfield idx) 3 pc') (hw : Cond.fieldLink own idx "RuledTables$Table" "rows" "I" ∈ wtb) (hk : kd o = 8) (kk : AW g cc nL ret R own Qc pc' lv st (uI σ.1 258 o x, σ.2)) : AW g cc nL ret R own Qc pc lv (.int x :: .ref (ad g o) :: st) σ := aw_put (ci := 8) (k := 2) (ty := .int) (f := 258) hd inX8 tyX8_ok nmX8 rfl (kd_lt hk (by decide)) (cl_k hk) (by decide) rfl rfl rfl rfl rfl (Nat.le_of_ble_eq_true rfl) hw (by rw [cl_k hk]; simp only [cl0, uI_s, uI_f (show 257 ≠ 258 by decide), uI_f (show 259 ≠ 258 by decide), uI_f (show 263 ≠ 258 by decide), uI_f (show 265 ≠ 258 by decide), uI_f (show 266 ≠ 258 by decide), uI_f (show 267 ≠ 258 by decide)]; rfl) kk
theorem gf8_columns {g : GG} {cc : ByteArray} {nL : Nat} {ret : Option FieldType} {R : Room} {own : String} {Qc : Array Value → State → Outcome → State → Prop} {pc pc' idx o : Nat} {lv : List (Option Value)} {st : List Value} {σ : SG} (hd : dn cc pc (.getfield idx) 3 pc') (hw : Cond.fieldLink own idx "RuledTables$Table" "columns" "I" ∈ wtb) (hk : kd o = 8) (kk : AW g cc nL ret R own Qc pc' lv (.int (σ.1 259 o) :: st) σ) : AW g cc nL ret R own Qc pc lv (.ref (ad g o) :: st) σ := aw_get (ci := 8) (k := 3) hd inX8 rfl (kd_lt hk (by decide)) (cl_k hk) (by decide) rfl rfl hw kk
theorem pf8_columns {g : GG} {cc : ByteArray} {nL : Nat} {ret : Option FieldType} {R : Room} {own : String} {Qc : Array Value → State → Outcome → State → Prop} {pc pc' idx o : Nat} {lv : List (Option Value)} {st : List Value} {σ : SG} {x : Int32} (hd : dn cc pc (.putfield idx) 3 pc') (hw : Cond.fieldLink own idx "RuledTables$Table" "columns" "I" ∈ wtb) (hk : kd o = 8) (kk : AW g cc nL ret R own Qc pc' lv st (uI σ.1 259 o x, σ.2)) : AW g cc nL ret R own Qc pc lv (.int x :: .ref (ad g o) :: st) σ := aw_put (ci := 8) (k := 3) (ty := .int) (f := 259) hd inX8 tyX8_ok nmX8 rfl (kd_lt hk (by decide)) (cl_k hk) (by decide) rfl rfl rfl rfl rfl (Nat.le_of_ble_eq_true rfl) hw (by rw [cl_k hk]; simp only [cl0, uI_s, uI_f (show 257 ≠ 259 by decide), uI_f (show 258 ≠ 259 by decide), uI_f (show 263 ≠ 259 by decide), uI_f (show 265 ≠ 259 by decide), uI_f (show 266 ≠ 259 by decide), uI_f (show 267 ≠ 259 by decide)]; rfl) kk
theorem gf8_sides {g : GG} {cc : ByteArray} {nL : Nat} {ret : Option FieldType} {R : Room} {own : String} {Qc : Array Value → State → Outcome → State → Prop} {pc pc' idx o : Nat} {lv : List (Option Value)} {st : List Value} {σ : SG} (hd : dn cc pc (.getfield idx) 3 pc') (hw : Cond.fieldLink own idx "RuledTables$Table" "sides" "[Z" ∈ wtb) (hk : kd o = 8) (kk : AW g cc nL ret R own Qc pc' lv (.ref (ad g (o + 6)) :: st) σ) : AW g cc nL ret R own Qc pc lv (.ref (ad g o) :: st) σ := aw_get (ci := 8) (k := 4) hd inX8 rfl (kd_lt hk (by decide)) (cl_k hk) (by decide) rfl rfl hw kk
theorem gf8_fieldCells {g : GG} {cc : ByteArray} {nL : Nat} {ret : Option FieldType} {R : Room} {own : String} {Qc : Array Value → State → Outcome → State → Prop} {pc pc' idx o : Nat} {lv : List (Option Value)} {st : List Value} {σ : SG} (hd : dn cc pc (.getfield idx) 3 pc') (hw : Cond.fieldLink own idx "RuledTables$Table" "fieldCells" "[I" ∈ wtb) (hk : kd o = 8) (kk : AW g cc nL ret R own Qc pc' lv (.ref (ad g (o + 7)) :: st) σ) : AW g cc nL ret R own Qc pc lv (.ref (ad g o) :: st) σ := aw_get (ci := 8) (k := 5) hd inX8 rfl (kd_lt hk (by decide)) (cl_k hk) (by decide) rfl rfl hw kk
theorem gf8_cells {g : GG} {cc : ByteArray} {nL : Nat} {ret : Option FieldType} {R : Room} {own : String} {Qc : Array Value → State → Outcome → State → Prop} {pc pc' idx o : Nat} {lv : List (Option Value)} {st : List Value} {σ : SG} (hd : dn cc pc (.getfield idx) 3 pc') (hw : Cond.fieldLink own idx "RuledTables$Table" "cells" "[[I" ∈ wtb) (hk : kd o = 8) (kk : AW g cc nL ret R own Qc pc' lv (.ref (ad g (o + 8)) :: st) σ) : AW g cc nL ret R own Qc pc lv (.ref (ad g o) :: st) σ := aw_get (ci := 8) (k := 6) hd inX8 rfl (kd_lt hk (by decide)) (cl_k hk) (by decide) rfl rfl hw kk
theorem gf8_cellCount {g : GG} {cc : ByteArray} {nL : Nat} {ret : Option FieldType} {R : Room} {own : String} {Qc : Array Value → State → Outcome → State → Prop} {pc pc' idx o : Nat} {lv : List (Option Value)} {st : List Value} {σ : SG} (hd : dn cc pc (.getfield idx) 3 pc') (hw : Cond.fieldLink own idx "RuledTables$Table" "cellCount" "I" ∈ wtb) (hk : kd o = 8) (kk : AW g cc nL ret R own Qc pc' lv (.int (σ.1 263 o) :: st) σ) : AW g cc nL ret R own Qc pc lv (.ref (ad g o) :: st) σ := aw_get (ci := 8) (k := 7) hd inX8 rfl (kd_lt hk (by decide)) (cl_k hk) (by decide) rfl rfl hw kk
theorem pf8_cellCount {g : GG} {cc : ByteArray} {nL : Nat} {ret : Option FieldType} {R : Room} {own : String} {Qc : Array Value → State → Outcome → State → Prop} {pc pc' idx o : Nat} {lv : List (Option Value)} {st : List Value} {σ : SG} {x : Int32} (hd : dn cc pc (.putfield idx) 3 pc') (hw : Cond.fieldLink own idx "RuledTables$Table" "cellCount" "I" ∈ wtb) (hk : kd o = 8) (kk : AW g cc nL ret R own Qc pc' lv st (uI σ.1 263 o x, σ.2)) : AW g cc nL ret R own Qc pc lv (.int x :: .ref (ad g o) :: st) σ := aw_put (ci := 8) (k := 7) (ty := .int) (f := 263) hd inX8 tyX8_ok nmX8 rfl (kd_lt hk (by decide)) (cl_k hk) (by decide) rfl rfl rfl rfl rfl (Nat.le_of_ble_eq_true rfl) hw (by rw [cl_k hk]; simp only [cl0, uI_s, uI_f (show 257 ≠ 263 by decide), uI_f (show 258 ≠ 263 by decide), uI_f (show 259 ≠ 263 by decide), uI_f (show 265 ≠ 263 by decide), uI_f (show 266 ≠ 263 by decide), uI_f (show 267 ≠ 263 by decide)]; rfl) kk
theorem gf8_missedLines {g : GG} {cc : ByteArray} {nL : Nat} {ret : Option FieldType} {R : Room} {own : String} {Qc : Array Value → State → Outcome → State → Prop} {pc pc' idx o : Nat} {lv : List (Option Value)} {st : List Value} {σ : SG} (hd : dn cc pc (.getfield idx) 3 pc') (hw : Cond.fieldLink own idx "RuledTables$Table" "missedLines" "[[I" ∈ wtb) (hk : kd o = 8) (kk : AW g cc nL ret R own Qc pc' lv (.ref (ad g (o + 16)) :: st) σ) : AW g cc nL ret R own Qc pc lv (.ref (ad g o) :: st) σ := aw_get (ci := 8) (k := 8) hd inX8 rfl (kd_lt hk (by decide)) (cl_k hk) (by decide) rfl rfl hw kk
theorem gf8_missedCount {g : GG} {cc : ByteArray} {nL : Nat} {ret : Option FieldType} {R : Room} {own : String} {Qc : Array Value → State → Outcome → State → Prop} {pc pc' idx o : Nat} {lv : List (Option Value)} {st : List Value} {σ : SG} (hd : dn cc pc (.getfield idx) 3 pc') (hw : Cond.fieldLink own idx "RuledTables$Table" "missedCount" "I" ∈ wtb) (hk : kd o = 8) (kk : AW g cc nL ret R own Qc pc' lv (.int (σ.1 265 o) :: st) σ) : AW g cc nL ret R own Qc pc lv (.ref (ad g o) :: st) σ := aw_get (ci := 8) (k := 9) hd inX8 rfl (kd_lt hk (by decide)) (cl_k hk) (by decide) rfl rfl hw kk
theorem pf8_missedCount {g : GG} {cc : ByteArray} {nL : Nat} {ret : Option FieldType} {R : Room} {own : String} {Qc : Array Value → State → Outcome → State → Prop} {pc pc' idx o : Nat} {lv : List (Option Value)} {st : List Value} {σ : SG} {x : Int32} (hd : dn cc pc (.putfield idx) 3 pc') (hw : Cond.fieldLink own idx "RuledTables$Table" "missedCount" "I" ∈ wtb) (hk : kd o = 8) (kk : AW g cc nL ret R own Qc pc' lv st (uI σ.1 265 o x, σ.2)) : AW g cc nL ret R own Qc pc lv (.int x :: .ref (ad g o) :: st) σ := aw_put (ci := 8) (k := 9) (ty := .int) (f := 265) hd inX8 tyX8_ok nmX8 rfl (kd_lt hk (by decide)) (cl_k hk) (by decide) rfl rfl rfl rfl rfl (Nat.le_of_ble_eq_true rfl) hw (by rw [cl_k hk]; simp only [cl0, uI_s, uI_f (show 257 ≠ 265 by decide), uI_f (show 258 ≠ 265 by decide), uI_f (show 259 ≠ 265 by decide), uI_f (show 263 ≠ 265 by decide), uI_f (show 266 ≠ 265 by decide), uI_f (show 267 ≠ 265 by decide)]; rfl) kk
theorem gf8_words {g : GG} {cc : ByteArray} {nL : Nat} {ret : Option FieldType} {R : Room} {own : String} {Qc : Array Value → State → Outcome → State → Prop} {pc pc' idx o : Nat} {lv : List (Option Value)} {st : List Value} {σ : SG} (hd : dn cc pc (.getfield idx) 3 pc') (hw : Cond.fieldLink own idx "RuledTables$Table" "words" "I" ∈ wtb) (hk : kd o = 8) (kk : AW g cc nL ret R own Qc pc' lv (.int (σ.1 266 o) :: st) σ) : AW g cc nL ret R own Qc pc lv (.ref (ad g o) :: st) σ := aw_get (ci := 8) (k := 10) hd inX8 rfl (kd_lt hk (by decide)) (cl_k hk) (by decide) rfl rfl hw kk
theorem pf8_words {g : GG} {cc : ByteArray} {nL : Nat} {ret : Option FieldType} {R : Room} {own : String} {Qc : Array Value → State → Outcome → State → Prop} {pc pc' idx o : Nat} {lv : List (Option Value)} {st : List Value} {σ : SG} {x : Int32} (hd : dn cc pc (.putfield idx) 3 pc') (hw : Cond.fieldLink own idx "RuledTables$Table" "words" "I" ∈ wtb) (hk : kd o = 8) (kk : AW g cc nL ret R own Qc pc' lv st (uI σ.1 266 o x, σ.2)) : AW g cc nL ret R own Qc pc lv (.int x :: .ref (ad g o) :: st) σ := aw_put (ci := 8) (k := 10) (ty := .int) (f := 266) hd inX8 tyX8_ok nmX8 rfl (kd_lt hk (by decide)) (cl_k hk) (by decide) rfl rfl rfl rfl rfl (Nat.le_of_ble_eq_true rfl) hw (by rw [cl_k hk]; simp only [cl0, uI_s, uI_f (show 257 ≠ 266 by decide), uI_f (show 258 ≠ 266 by decide), uI_f (show 259 ≠ 266 by decide), uI_f (show 263 ≠ 266 by decide), uI_f (show 265 ≠ 266 by decide), uI_f (show 267 ≠ 266 by decide)]; rfl) kk
theorem gf8_heads {g : GG} {cc : ByteArray} {nL : Nat} {ret : Option FieldType} {R : Room} {own : String} {Qc : Array Value → State → Outcome → State → Prop} {pc pc' idx o : Nat} {lv : List (Option Value)} {st : List Value} {σ : SG} (hd : dn cc pc (.getfield idx) 3 pc') (hw : Cond.fieldLink own idx "RuledTables$Table" "heads" "I" ∈ wtb) (hk : kd o = 8) (kk : AW g cc nL ret R own Qc pc' lv (.int (σ.1 267 o) :: st) σ) : AW g cc nL ret R own Qc pc lv (.ref (ad g o) :: st) σ := aw_get (ci := 8) (k := 11) hd inX8 rfl (kd_lt hk (by decide)) (cl_k hk) (by decide) rfl rfl hw kk
theorem pf8_heads {g : GG} {cc : ByteArray} {nL : Nat} {ret : Option FieldType} {R : Room} {own : String} {Qc : Array Value → State → Outcome → State → Prop} {pc pc' idx o : Nat} {lv : List (Option Value)} {st : List Value} {σ : SG} {x : Int32} (hd : dn cc pc (.putfield idx) 3 pc') (hw : Cond.fieldLink own idx "RuledTables$Table" "heads" "I" ∈ wtb) (hk : kd o = 8) (kk : AW g cc nL ret R own Qc pc' lv st (uI σ.1 267 o x, σ.2)) : AW g cc nL ret R own Qc pc lv (.int x :: .ref (ad g o) :: st) σ := aw_put (ci := 8) (k := 11) (ty := .int) (f := 267) hd inX8 tyX8_ok nmX8 rfl (kd_lt hk (by decide)) (cl_k hk) (by decide) rfl rfl rfl rfl rfl (Nat.le_of_ble_eq_true rfl) hw (by rw [cl_k hk]; simp only [cl0, uI_s, uI_f (show 257 ≠ 267 by decide), uI_f (show 258 ≠ 267 by decide), uI_f (show 259 ≠ 267 by decide), uI_f (show 263 ≠ 267 by decide), uI_f (show 265 ≠ 267 by decide), uI_f (show 266 ≠ 267 by decide)]; rfl) kk
theorem gf9_page {g : GG} {cc : ByteArray} {nL : Nat} {ret : Option FieldType} {R : Room} {own : String} {Qc : Array Value → State → Outcome → State → Prop} {pc pc' idx o : Nat} {lv : List (Option Value)} {st : List Value} {σ : SG} (hd : dn cc pc (.getfield idx) 3 pc') (hw : Cond.fieldLink own idx "RuledTables" "page" "LRuledTables$Page;" ∈ wtb) (hk : kd o = 9) (kk : AW g cc nL ret R own Qc pc' lv (.ref (ad g (o + 1)) :: st) σ) : AW g cc nL ret R own Qc pc lv (.ref (ad g o) :: st) σ := aw_get (ci := 9) (k := 0) hd inX9 rfl (kd_lt hk (by decide)) (cl_k hk) (by decide) rfl rfl hw kk
theorem gf9_images {g : GG} {cc : ByteArray} {nL : Nat} {ret : Option FieldType} {R : Room} {own : String} {Qc : Array Value → State → Outcome → State → Prop} {pc pc' idx o : Nat} {lv : List (Option Value)} {st : List Value} {σ : SG} (hd : dn cc pc (.getfield idx) 3 pc') (hw : Cond.fieldLink own idx "RuledTables" "images" "[LRuledTables$Page;" ∈ wtb) (hk : kd o = 9) (kk : AW g cc nL ret R own Qc pc' lv (.ref (ad g (o + 7)) :: st) σ) : AW g cc nL ret R own Qc pc lv (.ref (ad g o) :: st) σ := aw_get (ci := 9) (k := 1) hd inX9 rfl (kd_lt hk (by decide)) (cl_k hk) (by decide) rfl rfl hw kk
theorem gf9_kept {g : GG} {cc : ByteArray} {nL : Nat} {ret : Option FieldType} {R : Room} {own : String} {Qc : Array Value → State → Outcome → State → Prop} {pc pc' idx o : Nat} {lv : List (Option Value)} {st : List Value} {σ : SG} (hd : dn cc pc (.getfield idx) 3 pc') (hw : Cond.fieldLink own idx "RuledTables" "kept" "[Z" ∈ wtb) (hk : kd o = 9) (kk : AW g cc nL ret R own Qc pc' lv (.ref (ad g (o + 20)) :: st) σ) : AW g cc nL ret R own Qc pc lv (.ref (ad g o) :: st) σ := aw_get (ci := 9) (k := 2) hd inX9 rfl (kd_lt hk (by decide)) (cl_k hk) (by decide) rfl rfl hw kk
theorem gf9_finding {g : GG} {cc : ByteArray} {nL : Nat} {ret : Option FieldType} {R : Room} {own : String} {Qc : Array Value → State → Outcome → State → Prop} {pc pc' idx o : Nat} {lv : List (Option Value)} {st : List Value} {σ : SG} (hd : dn cc pc (.getfield idx) 3 pc') (hw : Cond.fieldLink own idx "RuledTables" "finding" "LRuledTables$Finding;" ∈ wtb) (hk : kd o = 9) (kk : AW g cc nL ret R own Qc pc' lv (.ref (ad g (o + 21)) :: st) σ) : AW g cc nL ret R own Qc pc lv (.ref (ad g o) :: st) σ := aw_get (ci := 9) (k := 3) hd inX9 rfl (kd_lt hk (by decide)) (cl_k hk) (by decide) rfl rfl hw kk
theorem gf9_stale {g : GG} {cc : ByteArray} {nL : Nat} {ret : Option FieldType} {R : Room} {own : String} {Qc : Array Value → State → Outcome → State → Prop} {pc pc' idx o : Nat} {lv : List (Option Value)} {st : List Value} {σ : SG} (hd : dn cc pc (.getfield idx) 3 pc') (hw : Cond.fieldLink own idx "RuledTables" "stale" "Z" ∈ wtb) (hk : kd o = 9) (kk : AW g cc nL ret R own Qc pc' lv (.int (σ.1 292 o) :: st) σ) : AW g cc nL ret R own Qc pc lv (.ref (ad g o) :: st) σ := aw_get (ci := 9) (k := 4) hd inX9 rfl (kd_lt hk (by decide)) (cl_k hk) (by decide) rfl rfl hw kk
theorem pf9_stale {g : GG} {cc : ByteArray} {nL : Nat} {ret : Option FieldType} {R : Room} {own : String} {Qc : Array Value → State → Outcome → State → Prop} {pc pc' idx o : Nat} {lv : List (Option Value)} {st : List Value} {σ : SG} {x : Int32} (hd : dn cc pc (.putfield idx) 3 pc') (hw : Cond.fieldLink own idx "RuledTables" "stale" "Z" ∈ wtb) (hk : kd o = 9) (hx : x = 0 ∨ x = 1) (kk : AW g cc nL ret R own Qc pc' lv st (uI σ.1 292 o x, σ.2)) : AW g cc nL ret R own Qc pc lv (.int x :: .ref (ad g o) :: st) σ := aw_put (ci := 9) (k := 4) (ty := .boolean) (f := 292) hd inX9 tyX9_ok nmX9 rfl (kd_lt hk (by decide)) (cl_k hk) (by decide) rfl rfl rfl (by rcases hx with rfl | rfl <;> rfl) (by rcases hx with rfl | rfl <;> rfl) (Nat.le_of_ble_eq_true rfl) hw (by rw [cl_k hk]; simp only [cl0, uI_s]; rfl) kk
theorem gf10_drawn {g : GG} {cc : ByteArray} {nL : Nat} {ret : Option FieldType} {R : Room} {own : String} {Qc : Array Value → State → Outcome → State → Prop} {pc pc' idx o : Nat} {lv : List (Option Value)} {st : List Value} {σ : SG} (hd : dn cc pc (.getfield idx) 3 pc') (hw : Cond.fieldLink own idx "RuledTablesModel" "drawn" "[I" ∈ wtb) (hk : kd o = 10) (kk : AW g cc nL ret R own Qc pc' lv (.ref (ad g (o + 1)) :: st) σ) : AW g cc nL ret R own Qc pc lv (.ref (ad g o) :: st) σ := aw_get (ci := 10) (k := 0) hd inX10 rfl (kd_lt hk (by decide)) (cl_k hk) (by decide) rfl rfl hw kk
theorem gf10_drawnMany {g : GG} {cc : ByteArray} {nL : Nat} {ret : Option FieldType} {R : Room} {own : String} {Qc : Array Value → State → Outcome → State → Prop} {pc pc' idx o : Nat} {lv : List (Option Value)} {st : List Value} {σ : SG} (hd : dn cc pc (.getfield idx) 3 pc') (hw : Cond.fieldLink own idx "RuledTablesModel" "drawnMany" "I" ∈ wtb) (hk : kd o = 10) (kk : AW g cc nL ret R own Qc pc' lv (.int (σ.1 321 o) :: st) σ) : AW g cc nL ret R own Qc pc lv (.ref (ad g o) :: st) σ := aw_get (ci := 10) (k := 1) hd inX10 rfl (kd_lt hk (by decide)) (cl_k hk) (by decide) rfl rfl hw kk
theorem pf10_drawnMany {g : GG} {cc : ByteArray} {nL : Nat} {ret : Option FieldType} {R : Room} {own : String} {Qc : Array Value → State → Outcome → State → Prop} {pc pc' idx o : Nat} {lv : List (Option Value)} {st : List Value} {σ : SG} {x : Int32} (hd : dn cc pc (.putfield idx) 3 pc') (hw : Cond.fieldLink own idx "RuledTablesModel" "drawnMany" "I" ∈ wtb) (hk : kd o = 10) (kk : AW g cc nL ret R own Qc pc' lv st (uI σ.1 321 o x, σ.2)) : AW g cc nL ret R own Qc pc lv (.int x :: .ref (ad g o) :: st) σ := aw_put (ci := 10) (k := 1) (ty := .int) (f := 321) hd inX10 tyX10_ok nmX10 rfl (kd_lt hk (by decide)) (cl_k hk) (by decide) rfl rfl rfl rfl rfl (Nat.le_of_ble_eq_true rfl) hw (by rw [cl_k hk]; simp only [cl0, uI_s, uI_f (show 323 ≠ 321 by decide), uI_f (show 325 ≠ 321 by decide), uI_f (show 328 ≠ 321 by decide), uI_f (show 330 ≠ 321 by decide), uI_f (show 339 ≠ 321 by decide), uI_f (show 340 ≠ 321 by decide), uI_f (show 341 ≠ 321 by decide), uI_f (show 342 ≠ 321 by decide), uI_f (show 346 ≠ 321 by decide), uI_f (show 347 ≠ 321 by decide)]; rfl) kk
theorem gf10_boxes {g : GG} {cc : ByteArray} {nL : Nat} {ret : Option FieldType} {R : Room} {own : String} {Qc : Array Value → State → Outcome → State → Prop} {pc pc' idx o : Nat} {lv : List (Option Value)} {st : List Value} {σ : SG} (hd : dn cc pc (.getfield idx) 3 pc') (hw : Cond.fieldLink own idx "RuledTablesModel" "boxes" "[I" ∈ wtb) (hk : kd o = 10) (kk : AW g cc nL ret R own Qc pc' lv (.ref (ad g (o + 2)) :: st) σ) : AW g cc nL ret R own Qc pc lv (.ref (ad g o) :: st) σ := aw_get (ci := 10) (k := 2) hd inX10 rfl (kd_lt hk (by decide)) (cl_k hk) (by decide) rfl rfl hw kk
theorem gf10_boxMany {g : GG} {cc : ByteArray} {nL : Nat} {ret : Option FieldType} {R : Room} {own : String} {Qc : Array Value → State → Outcome → State → Prop} {pc pc' idx o : Nat} {lv : List (Option Value)} {st : List Value} {σ : SG} (hd : dn cc pc (.getfield idx) 3 pc') (hw : Cond.fieldLink own idx "RuledTablesModel" "boxMany" "I" ∈ wtb) (hk : kd o = 10) (kk : AW g cc nL ret R own Qc pc' lv (.int (σ.1 323 o) :: st) σ) : AW g cc nL ret R own Qc pc lv (.ref (ad g o) :: st) σ := aw_get (ci := 10) (k := 3) hd inX10 rfl (kd_lt hk (by decide)) (cl_k hk) (by decide) rfl rfl hw kk
theorem pf10_boxMany {g : GG} {cc : ByteArray} {nL : Nat} {ret : Option FieldType} {R : Room} {own : String} {Qc : Array Value → State → Outcome → State → Prop} {pc pc' idx o : Nat} {lv : List (Option Value)} {st : List Value} {σ : SG} {x : Int32} (hd : dn cc pc (.putfield idx) 3 pc') (hw : Cond.fieldLink own idx "RuledTablesModel" "boxMany" "I" ∈ wtb) (hk : kd o = 10) (kk : AW g cc nL ret R own Qc pc' lv st (uI σ.1 323 o x, σ.2)) : AW g cc nL ret R own Qc pc lv (.int x :: .ref (ad g o) :: st) σ := aw_put (ci := 10) (k := 3) (ty := .int) (f := 323) hd inX10 tyX10_ok nmX10 rfl (kd_lt hk (by decide)) (cl_k hk) (by decide) rfl rfl rfl rfl rfl (Nat.le_of_ble_eq_true rfl) hw (by rw [cl_k hk]; simp only [cl0, uI_s, uI_f (show 321 ≠ 323 by decide), uI_f (show 325 ≠ 323 by decide), uI_f (show 328 ≠ 323 by decide), uI_f (show 330 ≠ 323 by decide), uI_f (show 339 ≠ 323 by decide), uI_f (show 340 ≠ 323 by decide), uI_f (show 341 ≠ 323 by decide), uI_f (show 342 ≠ 323 by decide), uI_f (show 346 ≠ 323 by decide), uI_f (show 347 ≠ 323 by decide)]; rfl) kk
theorem gf10_how {g : GG} {cc : ByteArray} {nL : Nat} {ret : Option FieldType} {R : Room} {own : String} {Qc : Array Value → State → Outcome → State → Prop} {pc pc' idx o : Nat} {lv : List (Option Value)} {st : List Value} {σ : SG} (hd : dn cc pc (.getfield idx) 3 pc') (hw : Cond.fieldLink own idx "RuledTablesModel" "how" "[I" ∈ wtb) (hk : kd o = 10) (kk : AW g cc nL ret R own Qc pc' lv (.ref (ad g (o + 3)) :: st) σ) : AW g cc nL ret R own Qc pc lv (.ref (ad g o) :: st) σ := aw_get (ci := 10) (k := 4) hd inX10 rfl (kd_lt hk (by decide)) (cl_k hk) (by decide) rfl rfl hw kk
theorem gf10_isFound {g : GG} {cc : ByteArray} {nL : Nat} {ret : Option FieldType} {R : Room} {own : String} {Qc : Array Value → State → Outcome → State → Prop} {pc pc' idx o : Nat} {lv : List (Option Value)} {st : List Value} {σ : SG} (hd : dn cc pc (.getfield idx) 3 pc') (hw : Cond.fieldLink own idx "RuledTablesModel" "isFound" "Z" ∈ wtb) (hk : kd o = 10) (kk : AW g cc nL ret R own Qc pc' lv (.int (σ.1 325 o) :: st) σ) : AW g cc nL ret R own Qc pc lv (.ref (ad g o) :: st) σ := aw_get (ci := 10) (k := 5) hd inX10 rfl (kd_lt hk (by decide)) (cl_k hk) (by decide) rfl rfl hw kk
theorem pf10_isFound {g : GG} {cc : ByteArray} {nL : Nat} {ret : Option FieldType} {R : Room} {own : String} {Qc : Array Value → State → Outcome → State → Prop} {pc pc' idx o : Nat} {lv : List (Option Value)} {st : List Value} {σ : SG} {x : Int32} (hd : dn cc pc (.putfield idx) 3 pc') (hw : Cond.fieldLink own idx "RuledTablesModel" "isFound" "Z" ∈ wtb) (hk : kd o = 10) (hx : x = 0 ∨ x = 1) (kk : AW g cc nL ret R own Qc pc' lv st (uI σ.1 325 o x, σ.2)) : AW g cc nL ret R own Qc pc lv (.int x :: .ref (ad g o) :: st) σ := aw_put (ci := 10) (k := 5) (ty := .boolean) (f := 325) hd inX10 tyX10_ok nmX10 rfl (kd_lt hk (by decide)) (cl_k hk) (by decide) rfl rfl rfl (by rcases hx with rfl | rfl <;> rfl) (by rcases hx with rfl | rfl <;> rfl) (Nat.le_of_ble_eq_true rfl) hw (by rw [cl_k hk]; simp only [cl0, uI_s, uI_f (show 321 ≠ 325 by decide), uI_f (show 323 ≠ 325 by decide), uI_f (show 328 ≠ 325 by decide), uI_f (show 330 ≠ 325 by decide), uI_f (show 339 ≠ 325 by decide), uI_f (show 340 ≠ 325 by decide), uI_f (show 341 ≠ 325 by decide), uI_f (show 342 ≠ 325 by decide), uI_f (show 346 ≠ 325 by decide), uI_f (show 347 ≠ 325 by decide)]; rfl) kk
theorem gf10_label {g : GG} {cc : ByteArray} {nL : Nat} {ret : Option FieldType} {R : Room} {own : String} {Qc : Array Value → State → Outcome → State → Prop} {pc pc' idx o : Nat} {lv : List (Option Value)} {st : List Value} {σ : SG} (hd : dn cc pc (.getfield idx) 3 pc') (hw : Cond.fieldLink own idx "RuledTablesModel" "label" "[I" ∈ wtb) (hk : kd o = 10) (kk : AW g cc nL ret R own Qc pc' lv (.ref (ad g (o + 4)) :: st) σ) : AW g cc nL ret R own Qc pc lv (.ref (ad g o) :: st) σ := aw_get (ci := 10) (k := 6) hd inX10 rfl (kd_lt hk (by decide)) (cl_k hk) (by decide) rfl rfl hw kk
theorem gf10_rules {g : GG} {cc : ByteArray} {nL : Nat} {ret : Option FieldType} {R : Room} {own : String} {Qc : Array Value → State → Outcome → State → Prop} {pc pc' idx o : Nat} {lv : List (Option Value)} {st : List Value} {σ : SG} (hd : dn cc pc (.getfield idx) 3 pc') (hw : Cond.fieldLink own idx "RuledTablesModel" "rules" "[I" ∈ wtb) (hk : kd o = 10) (kk : AW g cc nL ret R own Qc pc' lv (.ref (ad g (o + 5)) :: st) σ) : AW g cc nL ret R own Qc pc lv (.ref (ad g o) :: st) σ := aw_get (ci := 10) (k := 7) hd inX10 rfl (kd_lt hk (by decide)) (cl_k hk) (by decide) rfl rfl hw kk
theorem gf10_ruleMany {g : GG} {cc : ByteArray} {nL : Nat} {ret : Option FieldType} {R : Room} {own : String} {Qc : Array Value → State → Outcome → State → Prop} {pc pc' idx o : Nat} {lv : List (Option Value)} {st : List Value} {σ : SG} (hd : dn cc pc (.getfield idx) 3 pc') (hw : Cond.fieldLink own idx "RuledTablesModel" "ruleMany" "I" ∈ wtb) (hk : kd o = 10) (kk : AW g cc nL ret R own Qc pc' lv (.int (σ.1 328 o) :: st) σ) : AW g cc nL ret R own Qc pc lv (.ref (ad g o) :: st) σ := aw_get (ci := 10) (k := 8) hd inX10 rfl (kd_lt hk (by decide)) (cl_k hk) (by decide) rfl rfl hw kk
theorem pf10_ruleMany {g : GG} {cc : ByteArray} {nL : Nat} {ret : Option FieldType} {R : Room} {own : String} {Qc : Array Value → State → Outcome → State → Prop} {pc pc' idx o : Nat} {lv : List (Option Value)} {st : List Value} {σ : SG} {x : Int32} (hd : dn cc pc (.putfield idx) 3 pc') (hw : Cond.fieldLink own idx "RuledTablesModel" "ruleMany" "I" ∈ wtb) (hk : kd o = 10) (kk : AW g cc nL ret R own Qc pc' lv st (uI σ.1 328 o x, σ.2)) : AW g cc nL ret R own Qc pc lv (.int x :: .ref (ad g o) :: st) σ := aw_put (ci := 10) (k := 8) (ty := .int) (f := 328) hd inX10 tyX10_ok nmX10 rfl (kd_lt hk (by decide)) (cl_k hk) (by decide) rfl rfl rfl rfl rfl (Nat.le_of_ble_eq_true rfl) hw (by rw [cl_k hk]; simp only [cl0, uI_s, uI_f (show 321 ≠ 328 by decide), uI_f (show 323 ≠ 328 by decide), uI_f (show 325 ≠ 328 by decide), uI_f (show 330 ≠ 328 by decide), uI_f (show 339 ≠ 328 by decide), uI_f (show 340 ≠ 328 by decide), uI_f (show 341 ≠ 328 by decide), uI_f (show 342 ≠ 328 by decide), uI_f (show 346 ≠ 328 by decide), uI_f (show 347 ≠ 328 by decide)]; rfl) kk
theorem gf10_ruleOf {g : GG} {cc : ByteArray} {nL : Nat} {ret : Option FieldType} {R : Room} {own : String} {Qc : Array Value → State → Outcome → State → Prop} {pc pc' idx o : Nat} {lv : List (Option Value)} {st : List Value} {σ : SG} (hd : dn cc pc (.getfield idx) 3 pc') (hw : Cond.fieldLink own idx "RuledTablesModel" "ruleOf" "[I" ∈ wtb) (hk : kd o = 10) (kk : AW g cc nL ret R own Qc pc' lv (.ref (ad g (o + 6)) :: st) σ) : AW g cc nL ret R own Qc pc lv (.ref (ad g o) :: st) σ := aw_get (ci := 10) (k := 9) hd inX10 rfl (kd_lt hk (by decide)) (cl_k hk) (by decide) rfl rfl hw kk
theorem gf10_tableMany {g : GG} {cc : ByteArray} {nL : Nat} {ret : Option FieldType} {R : Room} {own : String} {Qc : Array Value → State → Outcome → State → Prop} {pc pc' idx o : Nat} {lv : List (Option Value)} {st : List Value} {σ : SG} (hd : dn cc pc (.getfield idx) 3 pc') (hw : Cond.fieldLink own idx "RuledTablesModel" "tableMany" "I" ∈ wtb) (hk : kd o = 10) (kk : AW g cc nL ret R own Qc pc' lv (.int (σ.1 330 o) :: st) σ) : AW g cc nL ret R own Qc pc lv (.ref (ad g o) :: st) σ := aw_get (ci := 10) (k := 10) hd inX10 rfl (kd_lt hk (by decide)) (cl_k hk) (by decide) rfl rfl hw kk
theorem pf10_tableMany {g : GG} {cc : ByteArray} {nL : Nat} {ret : Option FieldType} {R : Room} {own : String} {Qc : Array Value → State → Outcome → State → Prop} {pc pc' idx o : Nat} {lv : List (Option Value)} {st : List Value} {σ : SG} {x : Int32} (hd : dn cc pc (.putfield idx) 3 pc') (hw : Cond.fieldLink own idx "RuledTablesModel" "tableMany" "I" ∈ wtb) (hk : kd o = 10) (kk : AW g cc nL ret R own Qc pc' lv st (uI σ.1 330 o x, σ.2)) : AW g cc nL ret R own Qc pc lv (.int x :: .ref (ad g o) :: st) σ := aw_put (ci := 10) (k := 10) (ty := .int) (f := 330) hd inX10 tyX10_ok nmX10 rfl (kd_lt hk (by decide)) (cl_k hk) (by decide) rfl rfl rfl rfl rfl (Nat.le_of_ble_eq_true rfl) hw (by rw [cl_k hk]; simp only [cl0, uI_s, uI_f (show 321 ≠ 330 by decide), uI_f (show 323 ≠ 330 by decide), uI_f (show 325 ≠ 330 by decide), uI_f (show 328 ≠ 330 by decide), uI_f (show 339 ≠ 330 by decide), uI_f (show 340 ≠ 330 by decide), uI_f (show 341 ≠ 330 by decide), uI_f (show 342 ≠ 330 by decide), uI_f (show 346 ≠ 330 by decide), uI_f (show 347 ≠ 330 by decide)]; rfl) kk
theorem gf10_lines {g : GG} {cc : ByteArray} {nL : Nat} {ret : Option FieldType} {R : Room} {own : String} {Qc : Array Value → State → Outcome → State → Prop} {pc pc' idx o : Nat} {lv : List (Option Value)} {st : List Value} {σ : SG} (hd : dn cc pc (.getfield idx) 3 pc') (hw : Cond.fieldLink own idx "RuledTablesModel" "lines" "[I" ∈ wtb) (hk : kd o = 10) (kk : AW g cc nL ret R own Qc pc' lv (.ref (ad g (o + 7)) :: st) σ) : AW g cc nL ret R own Qc pc lv (.ref (ad g o) :: st) σ := aw_get (ci := 10) (k := 11) hd inX10 rfl (kd_lt hk (by decide)) (cl_k hk) (by decide) rfl rfl hw kk
theorem gf10_lineMany {g : GG} {cc : ByteArray} {nL : Nat} {ret : Option FieldType} {R : Room} {own : String} {Qc : Array Value → State → Outcome → State → Prop} {pc pc' idx o : Nat} {lv : List (Option Value)} {st : List Value} {σ : SG} (hd : dn cc pc (.getfield idx) 3 pc') (hw : Cond.fieldLink own idx "RuledTablesModel" "lineMany" "[I" ∈ wtb) (hk : kd o = 10) (kk : AW g cc nL ret R own Qc pc' lv (.ref (ad g (o + 8)) :: st) σ) : AW g cc nL ret R own Qc pc lv (.ref (ad g o) :: st) σ := aw_get (ci := 10) (k := 12) hd inX10 rfl (kd_lt hk (by decide)) (cl_k hk) (by decide) rfl rfl hw kk
theorem gf10_fieldFrom {g : GG} {cc : ByteArray} {nL : Nat} {ret : Option FieldType} {R : Room} {own : String} {Qc : Array Value → State → Outcome → State → Prop} {pc pc' idx o : Nat} {lv : List (Option Value)} {st : List Value} {σ : SG} (hd : dn cc pc (.getfield idx) 3 pc') (hw : Cond.fieldLink own idx "RuledTablesModel" "fieldFrom" "[I" ∈ wtb) (hk : kd o = 10) (kk : AW g cc nL ret R own Qc pc' lv (.ref (ad g (o + 9)) :: st) σ) : AW g cc nL ret R own Qc pc lv (.ref (ad g o) :: st) σ := aw_get (ci := 10) (k := 13) hd inX10 rfl (kd_lt hk (by decide)) (cl_k hk) (by decide) rfl rfl hw kk
theorem gf10_cellFrom {g : GG} {cc : ByteArray} {nL : Nat} {ret : Option FieldType} {R : Room} {own : String} {Qc : Array Value → State → Outcome → State → Prop} {pc pc' idx o : Nat} {lv : List (Option Value)} {st : List Value} {σ : SG} (hd : dn cc pc (.getfield idx) 3 pc') (hw : Cond.fieldLink own idx "RuledTablesModel" "cellFrom" "[I" ∈ wtb) (hk : kd o = 10) (kk : AW g cc nL ret R own Qc pc' lv (.ref (ad g (o + 10)) :: st) σ) : AW g cc nL ret R own Qc pc lv (.ref (ad g o) :: st) σ := aw_get (ci := 10) (k := 14) hd inX10 rfl (kd_lt hk (by decide)) (cl_k hk) (by decide) rfl rfl hw kk
theorem gf10_cellOf {g : GG} {cc : ByteArray} {nL : Nat} {ret : Option FieldType} {R : Room} {own : String} {Qc : Array Value → State → Outcome → State → Prop} {pc pc' idx o : Nat} {lv : List (Option Value)} {st : List Value} {σ : SG} (hd : dn cc pc (.getfield idx) 3 pc') (hw : Cond.fieldLink own idx "RuledTablesModel" "cellOf" "[I" ∈ wtb) (hk : kd o = 10) (kk : AW g cc nL ret R own Qc pc' lv (.ref (ad g (o + 11)) :: st) σ) : AW g cc nL ret R own Qc pc lv (.ref (ad g o) :: st) σ := aw_get (ci := 10) (k := 15) hd inX10 rfl (kd_lt hk (by decide)) (cl_k hk) (by decide) rfl rfl hw kk
theorem gf10_cells {g : GG} {cc : ByteArray} {nL : Nat} {ret : Option FieldType} {R : Room} {own : String} {Qc : Array Value → State → Outcome → State → Prop} {pc pc' idx o : Nat} {lv : List (Option Value)} {st : List Value} {σ : SG} (hd : dn cc pc (.getfield idx) 3 pc') (hw : Cond.fieldLink own idx "RuledTablesModel" "cells" "[I" ∈ wtb) (hk : kd o = 10) (kk : AW g cc nL ret R own Qc pc' lv (.ref (ad g (o + 12)) :: st) σ) : AW g cc nL ret R own Qc pc lv (.ref (ad g o) :: st) σ := aw_get (ci := 10) (k := 16) hd inX10 rfl (kd_lt hk (by decide)) (cl_k hk) (by decide) rfl rfl hw kk
theorem gf10_wordTable {g : GG} {cc : ByteArray} {nL : Nat} {ret : Option FieldType} {R : Room} {own : String} {Qc : Array Value → State → Outcome → State → Prop} {pc pc' idx o : Nat} {lv : List (Option Value)} {st : List Value} {σ : SG} (hd : dn cc pc (.getfield idx) 3 pc') (hw : Cond.fieldLink own idx "RuledTablesModel" "wordTable" "[I" ∈ wtb) (hk : kd o = 10) (kk : AW g cc nL ret R own Qc pc' lv (.ref (ad g (o + 13)) :: st) σ) : AW g cc nL ret R own Qc pc lv (.ref (ad g o) :: st) σ := aw_get (ci := 10) (k := 17) hd inX10 rfl (kd_lt hk (by decide)) (cl_k hk) (by decide) rfl rfl hw kk
theorem gf10_wordCell {g : GG} {cc : ByteArray} {nL : Nat} {ret : Option FieldType} {R : Room} {own : String} {Qc : Array Value → State → Outcome → State → Prop} {pc pc' idx o : Nat} {lv : List (Option Value)} {st : List Value} {σ : SG} (hd : dn cc pc (.getfield idx) 3 pc') (hw : Cond.fieldLink own idx "RuledTablesModel" "wordCell" "[I" ∈ wtb) (hk : kd o = 10) (kk : AW g cc nL ret R own Qc pc' lv (.ref (ad g (o + 14)) :: st) σ) : AW g cc nL ret R own Qc pc lv (.ref (ad g o) :: st) σ := aw_get (ci := 10) (k := 18) hd inX10 rfl (kd_lt hk (by decide)) (cl_k hk) (by decide) rfl rfl hw kk
theorem gf10_missedMany {g : GG} {cc : ByteArray} {nL : Nat} {ret : Option FieldType} {R : Room} {own : String} {Qc : Array Value → State → Outcome → State → Prop} {pc pc' idx o : Nat} {lv : List (Option Value)} {st : List Value} {σ : SG} (hd : dn cc pc (.getfield idx) 3 pc') (hw : Cond.fieldLink own idx "RuledTablesModel" "missedMany" "I" ∈ wtb) (hk : kd o = 10) (kk : AW g cc nL ret R own Qc pc' lv (.int (σ.1 339 o) :: st) σ) : AW g cc nL ret R own Qc pc lv (.ref (ad g o) :: st) σ := aw_get (ci := 10) (k := 19) hd inX10 rfl (kd_lt hk (by decide)) (cl_k hk) (by decide) rfl rfl hw kk
theorem pf10_missedMany {g : GG} {cc : ByteArray} {nL : Nat} {ret : Option FieldType} {R : Room} {own : String} {Qc : Array Value → State → Outcome → State → Prop} {pc pc' idx o : Nat} {lv : List (Option Value)} {st : List Value} {σ : SG} {x : Int32} (hd : dn cc pc (.putfield idx) 3 pc') (hw : Cond.fieldLink own idx "RuledTablesModel" "missedMany" "I" ∈ wtb) (hk : kd o = 10) (kk : AW g cc nL ret R own Qc pc' lv st (uI σ.1 339 o x, σ.2)) : AW g cc nL ret R own Qc pc lv (.int x :: .ref (ad g o) :: st) σ := aw_put (ci := 10) (k := 19) (ty := .int) (f := 339) hd inX10 tyX10_ok nmX10 rfl (kd_lt hk (by decide)) (cl_k hk) (by decide) rfl rfl rfl rfl rfl (Nat.le_of_ble_eq_true rfl) hw (by rw [cl_k hk]; simp only [cl0, uI_s, uI_f (show 321 ≠ 339 by decide), uI_f (show 323 ≠ 339 by decide), uI_f (show 325 ≠ 339 by decide), uI_f (show 328 ≠ 339 by decide), uI_f (show 330 ≠ 339 by decide), uI_f (show 340 ≠ 339 by decide), uI_f (show 341 ≠ 339 by decide), uI_f (show 342 ≠ 339 by decide), uI_f (show 346 ≠ 339 by decide), uI_f (show 347 ≠ 339 by decide)]; rfl) kk
theorem gf10_missedCell {g : GG} {cc : ByteArray} {nL : Nat} {ret : Option FieldType} {R : Room} {own : String} {Qc : Array Value → State → Outcome → State → Prop} {pc pc' idx o : Nat} {lv : List (Option Value)} {st : List Value} {σ : SG} (hd : dn cc pc (.getfield idx) 3 pc') (hw : Cond.fieldLink own idx "RuledTablesModel" "missedCell" "I" ∈ wtb) (hk : kd o = 10) (kk : AW g cc nL ret R own Qc pc' lv (.int (σ.1 340 o) :: st) σ) : AW g cc nL ret R own Qc pc lv (.ref (ad g o) :: st) σ := aw_get (ci := 10) (k := 20) hd inX10 rfl (kd_lt hk (by decide)) (cl_k hk) (by decide) rfl rfl hw kk
theorem pf10_missedCell {g : GG} {cc : ByteArray} {nL : Nat} {ret : Option FieldType} {R : Room} {own : String} {Qc : Array Value → State → Outcome → State → Prop} {pc pc' idx o : Nat} {lv : List (Option Value)} {st : List Value} {σ : SG} {x : Int32} (hd : dn cc pc (.putfield idx) 3 pc') (hw : Cond.fieldLink own idx "RuledTablesModel" "missedCell" "I" ∈ wtb) (hk : kd o = 10) (kk : AW g cc nL ret R own Qc pc' lv st (uI σ.1 340 o x, σ.2)) : AW g cc nL ret R own Qc pc lv (.int x :: .ref (ad g o) :: st) σ := aw_put (ci := 10) (k := 20) (ty := .int) (f := 340) hd inX10 tyX10_ok nmX10 rfl (kd_lt hk (by decide)) (cl_k hk) (by decide) rfl rfl rfl rfl rfl (Nat.le_of_ble_eq_true rfl) hw (by rw [cl_k hk]; simp only [cl0, uI_s, uI_f (show 321 ≠ 340 by decide), uI_f (show 323 ≠ 340 by decide), uI_f (show 325 ≠ 340 by decide), uI_f (show 328 ≠ 340 by decide), uI_f (show 330 ≠ 340 by decide), uI_f (show 339 ≠ 340 by decide), uI_f (show 341 ≠ 340 by decide), uI_f (show 342 ≠ 340 by decide), uI_f (show 346 ≠ 340 by decide), uI_f (show 347 ≠ 340 by decide)]; rfl) kk
theorem gf10_missedWay {g : GG} {cc : ByteArray} {nL : Nat} {ret : Option FieldType} {R : Room} {own : String} {Qc : Array Value → State → Outcome → State → Prop} {pc pc' idx o : Nat} {lv : List (Option Value)} {st : List Value} {σ : SG} (hd : dn cc pc (.getfield idx) 3 pc') (hw : Cond.fieldLink own idx "RuledTablesModel" "missedWay" "I" ∈ wtb) (hk : kd o = 10) (kk : AW g cc nL ret R own Qc pc' lv (.int (σ.1 341 o) :: st) σ) : AW g cc nL ret R own Qc pc lv (.ref (ad g o) :: st) σ := aw_get (ci := 10) (k := 21) hd inX10 rfl (kd_lt hk (by decide)) (cl_k hk) (by decide) rfl rfl hw kk
theorem pf10_missedWay {g : GG} {cc : ByteArray} {nL : Nat} {ret : Option FieldType} {R : Room} {own : String} {Qc : Array Value → State → Outcome → State → Prop} {pc pc' idx o : Nat} {lv : List (Option Value)} {st : List Value} {σ : SG} {x : Int32} (hd : dn cc pc (.putfield idx) 3 pc') (hw : Cond.fieldLink own idx "RuledTablesModel" "missedWay" "I" ∈ wtb) (hk : kd o = 10) (kk : AW g cc nL ret R own Qc pc' lv st (uI σ.1 341 o x, σ.2)) : AW g cc nL ret R own Qc pc lv (.int x :: .ref (ad g o) :: st) σ := aw_put (ci := 10) (k := 21) (ty := .int) (f := 341) hd inX10 tyX10_ok nmX10 rfl (kd_lt hk (by decide)) (cl_k hk) (by decide) rfl rfl rfl rfl rfl (Nat.le_of_ble_eq_true rfl) hw (by rw [cl_k hk]; simp only [cl0, uI_s, uI_f (show 321 ≠ 341 by decide), uI_f (show 323 ≠ 341 by decide), uI_f (show 325 ≠ 341 by decide), uI_f (show 328 ≠ 341 by decide), uI_f (show 330 ≠ 341 by decide), uI_f (show 339 ≠ 341 by decide), uI_f (show 340 ≠ 341 by decide), uI_f (show 342 ≠ 341 by decide), uI_f (show 346 ≠ 341 by decide), uI_f (show 347 ≠ 341 by decide)]; rfl) kk
theorem gf10_missedLine {g : GG} {cc : ByteArray} {nL : Nat} {ret : Option FieldType} {R : Room} {own : String} {Qc : Array Value → State → Outcome → State → Prop} {pc pc' idx o : Nat} {lv : List (Option Value)} {st : List Value} {σ : SG} (hd : dn cc pc (.getfield idx) 3 pc') (hw : Cond.fieldLink own idx "RuledTablesModel" "missedLine" "I" ∈ wtb) (hk : kd o = 10) (kk : AW g cc nL ret R own Qc pc' lv (.int (σ.1 342 o) :: st) σ) : AW g cc nL ret R own Qc pc lv (.ref (ad g o) :: st) σ := aw_get (ci := 10) (k := 22) hd inX10 rfl (kd_lt hk (by decide)) (cl_k hk) (by decide) rfl rfl hw kk
theorem pf10_missedLine {g : GG} {cc : ByteArray} {nL : Nat} {ret : Option FieldType} {R : Room} {own : String} {Qc : Array Value → State → Outcome → State → Prop} {pc pc' idx o : Nat} {lv : List (Option Value)} {st : List Value} {σ : SG} {x : Int32} (hd : dn cc pc (.putfield idx) 3 pc') (hw : Cond.fieldLink own idx "RuledTablesModel" "missedLine" "I" ∈ wtb) (hk : kd o = 10) (kk : AW g cc nL ret R own Qc pc' lv st (uI σ.1 342 o x, σ.2)) : AW g cc nL ret R own Qc pc lv (.int x :: .ref (ad g o) :: st) σ := aw_put (ci := 10) (k := 22) (ty := .int) (f := 342) hd inX10 tyX10_ok nmX10 rfl (kd_lt hk (by decide)) (cl_k hk) (by decide) rfl rfl rfl rfl rfl (Nat.le_of_ble_eq_true rfl) hw (by rw [cl_k hk]; simp only [cl0, uI_s, uI_f (show 321 ≠ 342 by decide), uI_f (show 323 ≠ 342 by decide), uI_f (show 325 ≠ 342 by decide), uI_f (show 328 ≠ 342 by decide), uI_f (show 330 ≠ 342 by decide), uI_f (show 339 ≠ 342 by decide), uI_f (show 340 ≠ 342 by decide), uI_f (show 341 ≠ 342 by decide), uI_f (show 346 ≠ 342 by decide), uI_f (show 347 ≠ 342 by decide)]; rfl) kk
theorem gf10_coming {g : GG} {cc : ByteArray} {nL : Nat} {ret : Option FieldType} {R : Room} {own : String} {Qc : Array Value → State → Outcome → State → Prop} {pc pc' idx o : Nat} {lv : List (Option Value)} {st : List Value} {σ : SG} (hd : dn cc pc (.getfield idx) 3 pc') (hw : Cond.fieldLink own idx "RuledTablesModel" "coming" "[I" ∈ wtb) (hk : kd o = 10) (kk : AW g cc nL ret R own Qc pc' lv (.ref (ad g (o + 15)) :: st) σ) : AW g cc nL ret R own Qc pc lv (.ref (ad g o) :: st) σ := aw_get (ci := 10) (k := 23) hd inX10 rfl (kd_lt hk (by decide)) (cl_k hk) (by decide) rfl rfl hw kk
theorem gf10_kept {g : GG} {cc : ByteArray} {nL : Nat} {ret : Option FieldType} {R : Room} {own : String} {Qc : Array Value → State → Outcome → State → Prop} {pc pc' idx o : Nat} {lv : List (Option Value)} {st : List Value} {σ : SG} (hd : dn cc pc (.getfield idx) 3 pc') (hw : Cond.fieldLink own idx "RuledTablesModel" "kept" "[I" ∈ wtb) (hk : kd o = 10) (kk : AW g cc nL ret R own Qc pc' lv (.ref (ad g (o + 16)) :: st) σ) : AW g cc nL ret R own Qc pc lv (.ref (ad g o) :: st) σ := aw_get (ci := 10) (k := 24) hd inX10 rfl (kd_lt hk (by decide)) (cl_k hk) (by decide) rfl rfl hw kk
theorem gf10_isKept {g : GG} {cc : ByteArray} {nL : Nat} {ret : Option FieldType} {R : Room} {own : String} {Qc : Array Value → State → Outcome → State → Prop} {pc pc' idx o : Nat} {lv : List (Option Value)} {st : List Value} {σ : SG} (hd : dn cc pc (.getfield idx) 3 pc') (hw : Cond.fieldLink own idx "RuledTablesModel" "isKept" "[Z" ∈ wtb) (hk : kd o = 10) (kk : AW g cc nL ret R own Qc pc' lv (.ref (ad g (o + 17)) :: st) σ) : AW g cc nL ret R own Qc pc lv (.ref (ad g o) :: st) σ := aw_get (ci := 10) (k := 25) hd inX10 rfl (kd_lt hk (by decide)) (cl_k hk) (by decide) rfl rfl hw kk
theorem gf10_keptAt {g : GG} {cc : ByteArray} {nL : Nat} {ret : Option FieldType} {R : Room} {own : String} {Qc : Array Value → State → Outcome → State → Prop} {pc pc' idx o : Nat} {lv : List (Option Value)} {st : List Value} {σ : SG} (hd : dn cc pc (.getfield idx) 3 pc') (hw : Cond.fieldLink own idx "RuledTablesModel" "keptAt" "I" ∈ wtb) (hk : kd o = 10) (kk : AW g cc nL ret R own Qc pc' lv (.int (σ.1 346 o) :: st) σ) : AW g cc nL ret R own Qc pc lv (.ref (ad g o) :: st) σ := aw_get (ci := 10) (k := 26) hd inX10 rfl (kd_lt hk (by decide)) (cl_k hk) (by decide) rfl rfl hw kk
theorem pf10_keptAt {g : GG} {cc : ByteArray} {nL : Nat} {ret : Option FieldType} {R : Room} {own : String} {Qc : Array Value → State → Outcome → State → Prop} {pc pc' idx o : Nat} {lv : List (Option Value)} {st : List Value} {σ : SG} {x : Int32} (hd : dn cc pc (.putfield idx) 3 pc') (hw : Cond.fieldLink own idx "RuledTablesModel" "keptAt" "I" ∈ wtb) (hk : kd o = 10) (kk : AW g cc nL ret R own Qc pc' lv st (uI σ.1 346 o x, σ.2)) : AW g cc nL ret R own Qc pc lv (.int x :: .ref (ad g o) :: st) σ := aw_put (ci := 10) (k := 26) (ty := .int) (f := 346) hd inX10 tyX10_ok nmX10 rfl (kd_lt hk (by decide)) (cl_k hk) (by decide) rfl rfl rfl rfl rfl (Nat.le_of_ble_eq_true rfl) hw (by rw [cl_k hk]; simp only [cl0, uI_s, uI_f (show 321 ≠ 346 by decide), uI_f (show 323 ≠ 346 by decide), uI_f (show 325 ≠ 346 by decide), uI_f (show 328 ≠ 346 by decide), uI_f (show 330 ≠ 346 by decide), uI_f (show 339 ≠ 346 by decide), uI_f (show 340 ≠ 346 by decide), uI_f (show 341 ≠ 346 by decide), uI_f (show 342 ≠ 346 by decide), uI_f (show 347 ≠ 346 by decide)]; rfl) kk
theorem gf10_isWriting {g : GG} {cc : ByteArray} {nL : Nat} {ret : Option FieldType} {R : Room} {own : String} {Qc : Array Value → State → Outcome → State → Prop} {pc pc' idx o : Nat} {lv : List (Option Value)} {st : List Value} {σ : SG} (hd : dn cc pc (.getfield idx) 3 pc') (hw : Cond.fieldLink own idx "RuledTablesModel" "isWriting" "Z" ∈ wtb) (hk : kd o = 10) (kk : AW g cc nL ret R own Qc pc' lv (.int (σ.1 347 o) :: st) σ) : AW g cc nL ret R own Qc pc lv (.ref (ad g o) :: st) σ := aw_get (ci := 10) (k := 27) hd inX10 rfl (kd_lt hk (by decide)) (cl_k hk) (by decide) rfl rfl hw kk
theorem pf10_isWriting {g : GG} {cc : ByteArray} {nL : Nat} {ret : Option FieldType} {R : Room} {own : String} {Qc : Array Value → State → Outcome → State → Prop} {pc pc' idx o : Nat} {lv : List (Option Value)} {st : List Value} {σ : SG} {x : Int32} (hd : dn cc pc (.putfield idx) 3 pc') (hw : Cond.fieldLink own idx "RuledTablesModel" "isWriting" "Z" ∈ wtb) (hk : kd o = 10) (hx : x = 0 ∨ x = 1) (kk : AW g cc nL ret R own Qc pc' lv st (uI σ.1 347 o x, σ.2)) : AW g cc nL ret R own Qc pc lv (.int x :: .ref (ad g o) :: st) σ := aw_put (ci := 10) (k := 27) (ty := .boolean) (f := 347) hd inX10 tyX10_ok nmX10 rfl (kd_lt hk (by decide)) (cl_k hk) (by decide) rfl rfl rfl (by rcases hx with rfl | rfl <;> rfl) (by rcases hx with rfl | rfl <;> rfl) (Nat.le_of_ble_eq_true rfl) hw (by rw [cl_k hk]; simp only [cl0, uI_s, uI_f (show 321 ≠ 347 by decide), uI_f (show 323 ≠ 347 by decide), uI_f (show 325 ≠ 347 by decide), uI_f (show 328 ≠ 347 by decide), uI_f (show 330 ≠ 347 by decide), uI_f (show 339 ≠ 347 by decide), uI_f (show 340 ≠ 347 by decide), uI_f (show 341 ≠ 347 by decide), uI_f (show 342 ≠ 347 by decide), uI_f (show 346 ≠ 347 by decide)]; rfl) kk
end
section
theorem kM_max_s : Cond.static Lib.Math.max.name ∈ wtb := wt (List.mem_of_getElem? (i := 106) (by decide +kernel)) rfl
theorem kM_max_c : Cond.code Lib.Math.max.name Lib.Math.max.code 2 (some .int) ∈ wtb := wt (List.mem_of_getElem? (i := 107) (by decide +kernel)) rfl
theorem kM_min_s : Cond.static Lib.Math.min.name ∈ wtb := wt (List.mem_of_getElem? (i := 441) (by decide +kernel)) rfl
theorem kM_min_c : Cond.code Lib.Math.min.name Lib.Math.min.code 2 (some .int) ∈ wtb := wt (List.mem_of_getElem? (i := 442) (by decide +kernel)) rfl
theorem kM_abs_s : Cond.static Lib.Math.abs.name ∈ wtb := wt (List.mem_of_getElem? (i := 437) (by decide +kernel)) rfl
theorem kM_abs_c : Cond.code Lib.Math.abs.name Lib.Math.abs.code 1 (some .int) ∈ wtb := wt (List.mem_of_getElem? (i := 438) (by decide +kernel)) rfl
theorem kM_i : Cond.initialized "java/lang/Math" ∈ wtb := wt (List.mem_of_getElem? (i := 76) (by decide +kernel)) rfl
theorem km0_11 : Cond.methodLink RX0 11 Lib.Math.max.name ∈ wtb := wt (List.mem_of_getElem? (i := 157) (by decide +kernel)) rfl
theorem km1_7 : Cond.methodLink RX1 7 Lib.Math.max.name ∈ wtb := wt (List.mem_of_getElem? (i := 162) (by decide +kernel)) rfl
theorem km1_23 : Cond.methodLink RX1 23 Lib.Math.min.name ∈ wtb := wt (List.mem_of_getElem? (i := 451) (by decide +kernel)) rfl
theorem km2_9 : Cond.methodLink RX2 9 Lib.Math.max.name ∈ wtb := wt (List.mem_of_getElem? (i := 246) (by decide +kernel)) rfl
theorem km5_9 : Cond.methodLink RX5 9 Lib.Math.max.name ∈ wtb := wt (List.mem_of_getElem? (i := 105) (by decide +kernel)) rfl
theorem km6_45 : Cond.methodLink RX6 45 Lib.Math.min.name ∈ wtb := wt (List.mem_of_getElem? (i := 466) (by decide +kernel)) rfl
theorem km6_50 : Cond.methodLink RX6 50 Lib.Math.max.name ∈ wtb := wt (List.mem_of_getElem? (i := 467) (by decide +kernel)) rfl
theorem km7_71 : Cond.methodLink RX7 71 Lib.Math.abs.name ∈ wtb := wt (List.mem_of_getElem? (i := 436) (by decide +kernel)) rfl
theorem km7_77 : Cond.methodLink RX7 77 Lib.Math.max.name ∈ wtb := wt (List.mem_of_getElem? (i := 439) (by decide +kernel)) rfl
theorem km7_80 : Cond.methodLink RX7 80 Lib.Math.min.name ∈ wtb := wt (List.mem_of_getElem? (i := 440) (by decide +kernel)) rfl
theorem km8_9 : Cond.methodLink RX8 9 Lib.Math.max.name ∈ wtb := wt (List.mem_of_getElem? (i := 239) (by decide +kernel)) rfl
theorem kl10_62 : Cond.constantLong RX10 62 (2) ∈ wtb := wt (List.mem_of_getElem? (i := 848) (by decide +kernel)) rfl
theorem kl10_68 : Cond.constantLong RX10 68 (3) ∈ wtb := wt (List.mem_of_getElem? (i := 852) (by decide +kernel)) rfl
theorem kl10_70 : Cond.constantLong RX10 70 (9) ∈ wtb := wt (List.mem_of_getElem? (i := 853) (by decide +kernel)) rfl
theorem kl10_72 : Cond.constantLong RX10 72 (5) ∈ wtb := wt (List.mem_of_getElem? (i := 854) (by decide +kernel)) rfl
theorem kl10_78 : Cond.constantLong RX10 78 (99) ∈ wtb := wt (List.mem_of_getElem? (i := 862) (by decide +kernel)) rfl
theorem kl10_201 : Cond.constantLong RX10 201 (4) ∈ wtb := wt (List.mem_of_getElem? (i := 883) (by decide +kernel)) rfl
theorem kl10_206 : Cond.constantLong RX10 206 (7) ∈ wtb := wt (List.mem_of_getElem? (i := 1010) (by decide +kernel)) rfl
theorem kl10_253 : Cond.constantLong RX10 253 (6) ∈ wtb := wt (List.mem_of_getElem? (i := 1091) (by decide +kernel)) rfl
section AWc
variable {g : GG} {cc : ByteArray} {nL : Nat} {ret : Option FieldType} {R : Room} {own : String} {Qc : Array Value → State → Outcome → State → Prop} {pc pc' tgt : Nat} {lv : List (Option Value)} {st : List Value} {σ : SG}
theorem aw_max {x y : Int32} {idx : Nat} (hd : dn cc pc (.invokestatic idx) 3 pc') (hw : Cond.methodLink own idx Lib.Math.max.name ∈ wtb) (hR : 1 ≤ R.frames ∧ (st.map fun v => v.category).sum + 13 ≤ R.locals) (k : AW g cc nL ret R own Qc pc' lv (.int (if x < y then y else x) :: st) σ) : AW g cc nL ret R own Qc pc lv (.int y :: .int x :: st) σ := by
  obtain ⟨hd, rfl⟩ := hd
  intro p e s m args below meth c H locs ls F hP hS hl
  exact va_mmax F.1 F.2.1 (F.2.2.2.1.trans hl.1.symm) F.2.2.2.2.1 (F.2.2.2.2.2.1 _ hw) (F.2.2.2.2.2.1 _ kM_max_s) (F.2.2.2.2.2.1 _ kM_i) (F.2.2.2.2.2.1 _ kM_max_c) hR.1 hR.2 (Nat.zero_le _) (Nat.zero_le _) hd (k p e s m args below meth c H locs ls F hP hS hl)
theorem aw_min {x y : Int32} {idx : Nat} (hd : dn cc pc (.invokestatic idx) 3 pc') (hw : Cond.methodLink own idx Lib.Math.min.name ∈ wtb) (hR : 1 ≤ R.frames ∧ (st.map fun v => v.category).sum + 13 ≤ R.locals) (k : AW g cc nL ret R own Qc pc' lv (.int (if y < x then y else x) :: st) σ) : AW g cc nL ret R own Qc pc lv (.int y :: .int x :: st) σ := by
  obtain ⟨hd, rfl⟩ := hd
  intro p e s m args below meth c H locs ls F hP hS hl
  exact va_mmin F.1 F.2.1 (F.2.2.2.1.trans hl.1.symm) F.2.2.2.2.1 (F.2.2.2.2.2.1 _ hw) (F.2.2.2.2.2.1 _ kM_min_s) (F.2.2.2.2.2.1 _ kM_i) (F.2.2.2.2.2.1 _ kM_min_c) hR.1 hR.2 (Nat.zero_le _) (Nat.zero_le _) hd (k p e s m args below meth c H locs ls F hP hS hl)
theorem aw_abs {x : Int32} {idx : Nat} (hd : dn cc pc (.invokestatic idx) 3 pc') (hw : Cond.methodLink own idx Lib.Math.abs.name ∈ wtb) (hR : 1 ≤ R.frames ∧ (st.map fun v => v.category).sum + 13 ≤ R.locals) (k : AW g cc nL ret R own Qc pc' lv (.int (if 0 ≤ x then x else 0 - x) :: st) σ) : AW g cc nL ret R own Qc pc lv (.int x :: st) σ := by
  obtain ⟨hd, rfl⟩ := hd
  intro p e s m args below meth c H locs ls F hP hS hl
  exact va_mabs F.1 F.2.1 (F.2.2.2.1.trans hl.1.symm) F.2.2.2.2.1 (F.2.2.2.2.2.1 _ hw) (F.2.2.2.2.2.1 _ kM_abs_s) (F.2.2.2.2.2.1 _ kM_i) (F.2.2.2.2.2.1 _ kM_abs_c) hR.1 hR.2 (Nat.zero_le _) (Nat.zero_le _) hd (k p e s m args below meth c H locs ls F hP hS hl)
theorem lv_args_mem : ∀ (av : List Value) (k i : Nat) (v : Value), (∀ u ∈ av, u.category = 1) → av[i]? = some v → (k + i, v) ∈ lv_args k av
  | [], _, _, _, _, h => by simp at h
  | u :: av, k, 0, v, hc, h => by
    simp at h
    subst h
    exact List.mem_cons_self
  | u :: av, k, i + 1, v, hc, h => by
    have h1 := hc u List.mem_cons_self
    have h2 := lv_args_mem av (k + 1) i v (fun x hx => hc x (List.mem_cons_of_mem _ hx)) (by simpa using h)
    unfold lv_args
    rw [if_neg (by rw [h1]; decide)]
    refine List.mem_cons_of_mem _ ?_
    rw [show k + (i + 1) = k + 1 + i by omega]
    exact h2
theorem ct_of {y : MethodName} {rm : Room} {av : List Value} (hy : plainName y.cls = true) (hav : (lg_sl av).length ≤ nL) (hc : ∀ u ∈ av, u.category = 1) (hlv : ∀ (i : Nat) (v : Value), lv[i]? = some (some v) → av[i]? = some v) (h : AW g cc nL ret rm y.cls Qc 0 lv [] σ) : Met g.1 y (cw_ y cc nL ret) rm (va_Pc av (wd g σ)) Qc 0 0 (reg g) := by
  refine Met.ofW (cc := cc) (maxL := nL) (ret := ret) hy rfl ?_
  intro p e s m args below meth c s₁ B hml hv
  obtain ⟨rfl, hP, hK, hst⟩ := hv
  have hts : ∀ w ∈ wtb, w.before av.toArray s = true := fun w hw => atoms_spec (ws := cw_ y cc nL ret) B.pre w (List.mem_cons_of_mem _ hw)
  have hown : s.vm.findClass y.cls = some m.cls := findClass_of_methodNamed B.named
  have hl := lv_entry av (n := nL) hav
  rw [lg_entry_eq]
  generalize (lg_sl av ++ List.replicate (nL - (lg_sl av).length) Slot.unset).toArray = ls at hl ⊢
  refine h p e s m av.toArray below meth c s.heap [] ls ⟨B.exec, B.bytes, B.returns, hml, hown, hts, B.notSynchronized, hK, hst⟩ hP va_S.rf ⟨hl.1, hl.2.1, fun i v hv => ?_⟩
  have h1 := hlv i v hv
  have h2 := hl.2.2 _ (lv_args_mem av 0 i v hc h1)
  rw [Nat.zero_add] at h2
  exact ⟨h2, hc v (List.mem_of_getElem? h1)⟩
theorem Fx.wd {p : Program} {s : State} {m : MethodId} {args : Array Value} {meth : Method} {c : Code} {H : Heap} {locs : List Loc} (F : Fx g p s m args meth c cc nL ret own) (hP : va_P (gD g) vwCl (wsOf g σ) H) (hS : va_S (reg g) s.heap H locs) {U : State} (hU : U.heap = H) (hW : s.vm.Alike U.vm) : _root_.Jvm.Pilot.CRuledTablesLaw_law_r1620_724e84.wd g σ U := ⟨by rw [hU]; exact hP, va_K.moved hW F.2.2.2.2.2.2.2.1, by rw [hU]; exact (F.2.2.2.2.2.2.2.2.moved hW).kept hS.2.1⟩
theorem aw_ireti {post : Int32 → SG → Prop} {x : Int32} (hd : dn cc pc .ireturn 1 pc') (h : post x σ) : AW g cc nL (some .int) R own (va_Qi post (wd g) (reg g)) pc lv [.int x] σ := by
  obtain ⟨hd, -⟩ := hd
  intro p e s m args below meth c H locs ls F hP hS hl
  exact W.iret F.1 F.2.1 F.2.2.1 (fun t ht hW => ⟨⟨x, σ, rfl, h, F.wd hP hS ht hW.alike⟩, hS.F ht⟩) hS.2.2 hd F.2.2.2.2.2.2.1
theorem aw_iretz {post : Int32 → SG → Prop} {x : Int32} (hd : dn cc pc .ireturn 1 pc') (hx : x = 0 ∨ x = 1) (h : post x σ) : AW g cc nL (some .boolean) R own (va_Qi post (wd g) (reg g)) pc lv [.int x] σ := by
  obtain ⟨hd, -⟩ := hd
  intro p e s m args below meth c H locs ls F hP hS hl
  exact W.zret F.1 F.2.1 F.2.2.1 (by rcases hx with rfl | rfl <;> rfl) (fun t ht hW => ⟨⟨x, σ, rfl, h, F.wd hP hS ht hW.alike⟩, hS.F ht⟩) hS.2.2 hd F.2.2.2.2.2.2.1
theorem aw_ret {post : SG → Prop} (hd : dn cc pc .return_ 1 pc') (h : post σ) : AW g cc nL none R own (va_Qv post (wd g) (reg g)) pc lv [] σ := by
  obtain ⟨hd, -⟩ := hd
  intro p e s m args below meth c H locs ls F hP hS hl
  exact W.vret F.1 F.2.1 F.2.2.1 (fun t ht hW => ⟨⟨σ, rfl, h, F.wd hP hS ht hW.alike⟩, hS.F ht⟩) hS.2.2 hd F.2.2.2.2.2.2.1
theorem aw_aret {post : SG → Prop} {o : Nat} {C : String} (hd : dn cc pc .areturn 1 pc') (h : post σ) : AW g cc nL (some (.object C)) R own (va_Qr post (fun u a t => a = ad g o ∧ wd g u t) (reg g)) pc lv [.ref (ad g o)] σ := by
  obtain ⟨hd, -⟩ := hd
  intro p e s m args below meth c H locs ls F hP hS hl
  exact W.aret F.1 F.2.1 F.2.2.1 (Or.inl ⟨_, rfl⟩) (Or.inr ⟨_, rfl⟩) (fun t ht hW => ⟨⟨σ, ad g o, rfl, h, rfl, F.wd hP hS ht hW.alike⟩, hS.F ht⟩) hS.2.2 hd F.2.2.2.2.2.2.1
variable {y : MethodName} {cy : ByteArray} {ny n idx o : Nat} {ry : Option FieldType} {rm : Room} {As rest : List Value}
/-- the words and the room of a call -/
theorem cV {s : State} {args : Array Value} (hts : ∀ w ∈ wtb, w.before args s = true) (hl : Cond.methodLink own idx y ∈ wtb) (ok : okV y cy ny ry n) (hR : rm.frames + 1 ≤ R.frames ∧ 8 + (ny + 11) + rm.locals ≤ R.locals) (hc : rm.cells = 0) (hs : rm.slots = 0) : CallW R s args own y.cls idx y cy ny ry (cw_ y cy ny ry) rm 0 0 n := by
  refine cwV n hts (wtb_in fun w hw => ?_) rfl hc hs ⟨rfl, ok.2.2.2.2⟩ hR
  unfold wsV at hw
  rcases List.mem_append.mp hw with h | h
  · simp only [List.mem_cons, List.not_mem_nil, or_false] at h
    rcases h with rfl | rfl | rfl | rfl
    · exact hl
    · exact ok.1
    · exact ok.2.1
    · exact ok.2.2.1
  · rcases List.mem_cons.mp h with rfl | h
    · exact ok.2.2.2.1
    · exact h
theorem cS {s : State} {args : Array Value} (hts : ∀ w ∈ wtb, w.before args s = true) (hl : Cond.methodLink own idx y ∈ wtb) (ok : okS y cy ny ry n) (hR : rm.frames + 1 ≤ R.frames ∧ 8 + (ny + 11) + rm.locals ≤ R.locals) (hc : rm.cells = 0) (hs : rm.slots = 0) : CallB R s args own idx y cy ny ry (cw_ y cy ny ry) rm 0 0 n ∧ (Cond.static y).before args s = true := by
  refine va_cwS n hts (wtb_in fun w hw => ?_) rfl hc hs ok.2.2.2 hR
  unfold va_wsS at hw
  rcases List.mem_append.mp hw with h | h
  · simp only [List.mem_cons, List.not_mem_nil, or_false] at h
    rcases h with rfl | rfl | rfl
    · exact hl
    · exact ok.1
    · exact ok.2.1
  · rcases List.mem_cons.mp h with rfl | h
    · exact ok.2.2.1
    · exact h
/-- the receiver is an object of its class -/
theorem recv {ci : Nat} {q : vw_C} {fs : List Value} {s : State} {H : Heap} (hK : va_K (gD g) vwCl (tys_ g) s) (hP : va_P (gD g) vwCl (wsOf g σ) H) (hc : vwCl[ci]? = some q) (hk : kd o = ci) (hci : ci < 11) : ∃ cell : Cell, H[ad g o]? = some cell ∧ cell.vm.isStatics = false ∧ s.vm.findClass q.1 = some cell.cls := by
  have : ∃ fs, cl_ g σ o = .inr (ci, fs) := by
    rw [cl_k hk]
    match ci, hci with
    | 0, _ => exact ⟨_, rfl⟩
    | 1, _ => exact ⟨_, rfl⟩
    | 2, _ => exact ⟨_, rfl⟩
    | 3, _ => exact ⟨_, rfl⟩
    | 4, _ => exact ⟨_, rfl⟩
    | 5, _ => exact ⟨_, rfl⟩
    | 6, _ => exact ⟨_, rfl⟩
    | 7, _ => exact ⟨_, rfl⟩
    | 8, _ => exact ⟨_, rfl⟩
    | 9, _ => exact ⟨_, rfl⟩
    | 10, _ => exact ⟨_, rfl⟩
  obtain ⟨fs, he⟩ := this
  exact va_recv hK hP hc (q0 := o) (by rw [ws_at g σ (kd_lt hk (by omega)), he])
theorem aw_calli {ci : Nat} {q : vw_C} {post : Int32 → SG → Prop} {st : List Value} (hd : dn cc pc (.invokevirtual idx) 3 pc') (hl : Cond.methodLink own idx y ∈ wtb) (ok : okV y cy ny ry n) (hc : vwCl[ci]? = some q) (hq : q.1 = y.cls) (hci : ci < 11) (hk : kd o = ci) (hst : st = As.reverse ++ .ref (ad g o) :: rest) (hn : As.length = n) (hW : (rest.map fun v => v.category).sum ≤ 8) (hR : rm.frames + 1 ≤ R.frames ∧ 8 + (ny + 11) + rm.locals ≤ R.locals) (hrc : rm.cells = 0) (hrs : rm.slots = 0) (hM : Cti g y cy ny ry rm (.ref (ad g o) :: As) σ post) (kk : ∀ r σ', post r σ' → AW g cc nL ret R own Qc pc' lv (.int r :: rest) σ') : AW g cc nL ret R own Qc pc lv st σ := by
  obtain ⟨hd, rfl⟩ := hd
  subst hst
  intro p e s m args below meth c H locs ls F hP hS hlv
  have hl9 := hl
  refine va_calli (va_runV (As := As) (rest := rest) (b := ad g o) ⟨F.1, F.2.1, F.2.2.2.1, F.2.2.2.2.1, F.2.2.2.2.2.1⟩ hM (cV F.2.2.2.2.2.1 hl9 ok hR hrc hrs) ⟨wd_blind, by rw [← hq]; exact recv (fs := []) F.2.2.2.2.2.2.2.1 hP hc hk hci, fun U hU hW9 => ⟨rfl, F.wd hP hS hU hW9.alike⟩⟩ rfl hn hlv.1 rfl (lv_room hW) hd ⟨Nat.zero_le _, Nat.zero_le _⟩) hS (fun q _ h => h) (fun q h => h) (fun r u t H1 locs1 ht hvm hw hB hz1 hk1 hS1 => ?_)
  have hl := hlv
  exact kk r u hw p e s m args below meth c H1 locs1 ls F (by rw [← ht]; exact hB.1) hS1 hl
theorem aw_callsi {post : Int32 → SG → Prop} {st : List Value} (hd : dn cc pc (.invokestatic idx) 3 pc') (hl : Cond.methodLink own idx y ∈ wtb) (ok : okS y cy ny ry n) (hst : st = As.reverse ++ rest) (hn : As.length = n) (hW : (rest.map fun v => v.category).sum ≤ 8) (hR : rm.frames + 1 ≤ R.frames ∧ 8 + (ny + 11) + rm.locals ≤ R.locals) (hrc : rm.cells = 0) (hrs : rm.slots = 0) (hM : Cti g y cy ny ry rm As σ post) (kk : ∀ r σ', post r σ' → AW g cc nL ret R own Qc pc' lv (.int r :: rest) σ') : AW g cc nL ret R own Qc pc lv st σ := by
  obtain ⟨hd, rfl⟩ := hd
  subst hst
  intro p e s m args below meth c H locs ls F hP hS hlv
  refine va_calli (va_runS (As := As) (rest := rest) ⟨F.1, F.2.1, F.2.2.2.1, F.2.2.2.2.1, F.2.2.2.2.2.1⟩ hM (cS F.2.2.2.2.2.1 hl ok hR hrc hrs) ⟨wd_blind, fun U hU hW9 => ⟨rfl, F.wd hP hS hU hW9.alike⟩⟩ rfl hn hlv.1 rfl (lv_room hW) hd ⟨Nat.zero_le _, Nat.zero_le _⟩) hS (fun q _ h => h) (fun q h => h) (fun r u t H1 locs1 ht hvm hw hB hz1 hk1 hS1 => ?_)
  have hl := hlv
  exact kk r u hw p e s m args below meth c H1 locs1 ls F (by rw [← ht]; exact hB.1) hS1 hl
theorem aw_callv {ci : Nat} {q : vw_C} {post : SG → Prop} {st : List Value} (hd : dn cc pc (.invokevirtual idx) 3 pc') (hl : Cond.methodLink own idx y ∈ wtb) (ok : okV y cy ny none n) (hc : vwCl[ci]? = some q) (hq : q.1 = y.cls) (hci : ci < 11) (hk : kd o = ci) (hst : st = As.reverse ++ .ref (ad g o) :: rest) (hn : As.length = n) (hW : (rest.map fun v => v.category).sum ≤ 8) (hR : rm.frames + 1 ≤ R.frames ∧ 8 + (ny + 11) + rm.locals ≤ R.locals) (hrc : rm.cells = 0) (hrs : rm.slots = 0) (hM : Ctv g y cy ny rm (.ref (ad g o) :: As) σ post) (kk : ∀ σ', post σ' → AW g cc nL ret R own Qc pc' lv rest σ') : AW g cc nL ret R own Qc pc lv st σ := by
  obtain ⟨hd, rfl⟩ := hd
  subst hst
  intro p e s m args below meth c H locs ls F hP hS hlv
  have hl9 := hl
  refine va_callv (va_runV (As := As) (rest := rest) (b := ad g o) ⟨F.1, F.2.1, F.2.2.2.1, F.2.2.2.2.1, F.2.2.2.2.2.1⟩ hM (cV F.2.2.2.2.2.1 hl9 ok hR hrc hrs) ⟨wd_blind, by rw [← hq]; exact recv (fs := []) F.2.2.2.2.2.2.2.1 hP hc hk hci, fun U hU hW9 => ⟨rfl, F.wd hP hS hU hW9.alike⟩⟩ rfl hn hlv.1 rfl (lv_room hW) hd ⟨Nat.zero_le _, Nat.zero_le _⟩) hS (fun q _ h => h) (fun q h => h) (fun u t H1 locs1 ht hvm hw hB hz1 hk1 hS1 => ?_)
  have hl := hlv
  exact kk u hw p e s m args below meth c H1 locs1 ls F (by rw [← ht]; exact hB.1) hS1 hl
theorem aw_callsv {post : SG → Prop} {st : List Value} (hd : dn cc pc (.invokestatic idx) 3 pc') (hl : Cond.methodLink own idx y ∈ wtb) (ok : okS y cy ny none n) (hst : st = As.reverse ++ rest) (hn : As.length = n) (hW : (rest.map fun v => v.category).sum ≤ 8) (hR : rm.frames + 1 ≤ R.frames ∧ 8 + (ny + 11) + rm.locals ≤ R.locals) (hrc : rm.cells = 0) (hrs : rm.slots = 0) (hM : Ctv g y cy ny rm As σ post) (kk : ∀ σ', post σ' → AW g cc nL ret R own Qc pc' lv rest σ') : AW g cc nL ret R own Qc pc lv st σ := by
  obtain ⟨hd, rfl⟩ := hd
  subst hst
  intro p e s m args below meth c H locs ls F hP hS hlv
  refine va_callv (va_runS (As := As) (rest := rest) ⟨F.1, F.2.1, F.2.2.2.1, F.2.2.2.2.1, F.2.2.2.2.2.1⟩ hM (cS F.2.2.2.2.2.1 hl ok hR hrc hrs) ⟨wd_blind, fun U hU hW9 => ⟨rfl, F.wd hP hS hU hW9.alike⟩⟩ rfl hn hlv.1 rfl (lv_room hW) hd ⟨Nat.zero_le _, Nat.zero_le _⟩) hS (fun q _ h => h) (fun q h => h) (fun u t H1 locs1 ht hvm hw hB hz1 hk1 hS1 => ?_)
  have hl := hlv
  exact kk u hw p e s m args below meth c H1 locs1 ls F (by rw [← ht]; exact hB.1) hS1 hl
theorem aw_callr {o2 : Nat} {ci : Nat} {q : vw_C} {post : SG → Prop} {st : List Value} (hd : dn cc pc (.invokevirtual idx) 3 pc') (hl : Cond.methodLink own idx y ∈ wtb) (ok : okV y cy ny ry n) (hc : vwCl[ci]? = some q) (hq : q.1 = y.cls) (hci : ci < 11) (hk : kd o = ci) (hst : st = As.reverse ++ .ref (ad g o) :: rest) (hn : As.length = n) (hW : (rest.map fun v => v.category).sum ≤ 8) (hR : rm.frames + 1 ≤ R.frames ∧ 8 + (ny + 11) + rm.locals ≤ R.locals) (hrc : rm.cells = 0) (hrs : rm.slots = 0) (hM : Ctr g y cy ny ry rm (.ref (ad g o) :: As) σ o2 post) (kk : ∀ σ', post σ' → AW g cc nL ret R own Qc pc' lv (.ref (ad g o2) :: rest) σ') : AW g cc nL ret R own Qc pc lv st σ := by
  obtain ⟨hd, rfl⟩ := hd
  subst hst
  intro p e s m args below meth c H locs ls F hP hS hlv
  have hl9 := hl
  refine va_callr (va_runV (As := As) (rest := rest) (b := ad g o) ⟨F.1, F.2.1, F.2.2.2.1, F.2.2.2.2.1, F.2.2.2.2.2.1⟩ hM (cV F.2.2.2.2.2.1 hl9 ok hR hrc hrs) ⟨wd_blind, by rw [← hq]; exact recv (fs := []) F.2.2.2.2.2.2.2.1 hP hc hk hci, fun U hU hW9 => ⟨rfl, F.wd hP hS hU hW9.alike⟩⟩ rfl hn hlv.1 rfl (lv_room hW) hd ⟨Nat.zero_le _, Nat.zero_le _⟩) hS (fun q _ h => h) (fun q h => h) (fun u ra t H1 locs1 ht hvm hw hB hz1 hk1 hS1 => ?_)
  have hl := hlv
  obtain ⟨rfl, hB⟩ := hB
  exact kk u hw p e s m args below meth c H1 locs1 ls F (by rw [← ht]; exact hB.1) hS1 hl
theorem aw_mostS {idx : Nat} (hd : dn cc pc (.getstatic idx) 3 pc') (hw : Cond.fieldLink own idx "RuledTables" "MOST_SETTINGS" "[I" ∈ wtb) (k : AW g cc nL ret R own Qc pc' lv (.ref g.2.2.2.2.2.1 :: st) σ) : AW g cc nL ret R own Qc pc lv st σ := by
  obtain ⟨hd, rfl⟩ := hd
  intro p e s m args below meth c H locs ls F hP hS hl
  exact va_gets F.1 F.2.1 F.2.2.2.2.2.2.2.2.1 hS F.2.2.2.2.1 (F.2.2.2.2.2.1 _ hw) (fun _ h => h) hd (k p e s m args below meth c H locs ls F hP hS hl)
theorem aw_mostL (hd : dn cc pc .arraylength 1 pc') (k : AW g cc nL ret R own Qc pc' lv (.int 3 :: st) σ) : AW g cc nL ret R own Qc pc lv (.ref g.2.2.2.2.2.1 :: st) σ := by
  obtain ⟨hd, rfl⟩ := hd
  intro p e s m args below meth c H locs ls F hP hS hl
  exact va_tlen F.1 F.2.1 F.2.2.2.2.2.2.2.2.2.1 hS (v := 3) (by decide) hd (k p e s m args below meth c H locs ls F hP hS hl)
theorem aw_mostI {i : Int32} (hd : dn cc pc .iaload 1 pc') (hi : vp_in i 3) (k : AW g cc nL ret R own Qc pc' lv (.int (fM i.toNatClampNeg) :: st) σ) : AW g cc nL ret R own Qc pc lv (.int i :: .ref g.2.2.2.2.2.1 :: st) σ := by
  obtain ⟨hd, rfl⟩ := hd
  intro p e s m args below meth c H locs ls F hP hS hl
  exact va_ti F.1 F.2.1 F.2.2.2.2.2.2.2.2.2.1 hS hi rfl hd (k p e s m args below meth c H locs ls F hP hS hl)
theorem aw_firstS {idx : Nat} (hd : dn cc pc (.getstatic idx) 3 pc') (hw : Cond.fieldLinkNest own idx "RuledTables" "FIRST_SETTINGS" "[I" "RuledTables" ∈ wtb) (k : AW g cc nL ret R own Qc pc' lv (.ref g.2.2.2.2.2.2 :: st) σ) : AW g cc nL ret R own Qc pc lv st σ := by
  obtain ⟨hd, rfl⟩ := hd
  intro p e s m args below meth c H locs ls F hP hS hl
  exact va_getsN F.1 F.2.1 F.2.2.2.2.2.2.2.2.2.2.1 hS F.2.2.2.2.1 (F.2.2.2.2.2.1 _ hw) (fun _ h => h) hd (k p e s m args below meth c H locs ls F hP hS hl)
theorem aw_firstL (hd : dn cc pc .arraylength 1 pc') (k : AW g cc nL ret R own Qc pc' lv (.int 3 :: st) σ) : AW g cc nL ret R own Qc pc lv (.ref g.2.2.2.2.2.2 :: st) σ := by
  obtain ⟨hd, rfl⟩ := hd
  intro p e s m args below meth c H locs ls F hP hS hl
  exact va_tlen F.1 F.2.1 F.2.2.2.2.2.2.2.2.2.2.2 hS (v := 3) (by decide) hd (k p e s m args below meth c H locs ls F hP hS hl)
theorem aw_aald16 {o : Nat} {i : Int32} (hd : dn cc pc .aaload 1 pc') (hk : kd o = 16) (hi : vp_in i (ln o)) (kk : AW g cc nL ret R own Qc pc' lv (.ref (ad g (o + 1 + i.toNatClampNeg)) :: st) σ) : AW g cc nL ret R own Qc pc lv (.int i :: .ref (ad g o) :: st) σ := by
  obtain ⟨hd, rfl⟩ := hd
  intro p e s m args below meth c H locs ls F hP hS hl
  have hlt : i.toNatClampNeg < ln o := Nat.not_le.mp fun q => hi (Or.inr q)
  have ha : (wsOf g σ)[o]? = some (ad g o, .inl (g.2.2.2.2.1 5, ln o, .inr (.inr (.inr (.inr (fun k => some (ad g (o + 1 + k)))))))) := by rw [ws_at g σ (kd_lt hk (by decide)), cl_k hk]; rfl
  exact W.aald (v := va_rf (some (ad g (o + 1 + i.toNatClampNeg)))) (ty := .array .int) F.1 F.2.1 (hP o _ ha) ((F.2.2.2.2.2.2.2.1.2 5 _ rfl).1 (ln o) (fun j => va_rf (some (ad g (o + 1 + j))))) rfl (fun q => by cases q) (by show ¬ (i < 0 ∨ (arrV _ _ _).slots.size ≤ _); rw [arrV_size]; exact hi) (by show (arrV _ _ _).slots[_]? = _; rw [arrV_read _ _ hlt]) rfl rfl hd (kk p e s m args below meth c H locs ls F hP hS hl)
theorem aw_aast14 {i : Int32} {r : Nat} (hd : dn cc pc .aastore 1 pc') (hi : vp_in i 24) (hr : r < 24) (kk : AW g cc nL ret R own Qc pc' lv st (σ.1, σ.2.1, uP σ.2.2 i.toNatClampNeg r)) : AW g cc nL ret R own Qc pc lv (.ref (ad g (25 + 1 + r)) :: .int i :: .ref (ad g 25) :: st) σ := by
  obtain ⟨hd, rfl⟩ := hd
  intro p e s m args below meth c H locs ls F hP hS hl
  have hkr : kd (25 + 1 + r) = 6 := by
    have : ∀ r, r < 24 → kd (25 + 1 + r) = 6 := by decide +kernel
    exact this r hr
  refine va_astq F.1 F.2.1 F.2.2.2.2.2.2.2.1 hP (ws_D g σ) hS 25 3 (25 + 1 + r) 6 (cA := g.2.2.2.2.1 3) (n := 24) (f := fun k => some (ad g (25 + 1 + σ.2.2 k))) (r := (RX6, TX6, 9)) (by rw [ws_at g σ (by decide)]; rfl) rfl (by rw [ws_at g σ (kd_lt hkr (by decide)), cl_k hkr]; rfl) rfl hi hd (fun H1 locs1 hP1 hD1 hS1 => ?_)
  rw [ws_set (σ' := (σ.1, σ.2.1, uP σ.2.2 i.toNatClampNeg r)) ?_ (fun o' h => cl_uP h)] at hP1
  · exact kk p e s m args below meth c H1 locs1 ls F hP1 hS1 hl
  · show _ = cl0 g _ 25 14
    unfold cl0
    simp only
    have hln : ln 25 = 24 := by decide +kernel
    rw [hln]
    congr 7
    funext k
    unfold va_up uP
    split <;> rfl
end AWc
end
section
theorem kf_0_groups {o : Nat} (h : kd o = 0) : kd (o + 1) = 1 := kd_all (P := fun o => kd (o + 1) = 1) 0 (by decide) (by decide +kernel) h
theorem kf_0_rules {o : Nat} (h : kd o = 0) : kd (o + 3) = 7 := kd_all (P := fun o => kd (o + 3) = 7) 0 (by decide) (by decide +kernel) h
theorem kf_0_tables {o : Nat} (h : kd o = 0) : kd (o + 30) = 15 := kd_all (P := fun o => kd (o + 30) = 15) 0 (by decide) (by decide +kernel) h
theorem kf_0_placing {o : Nat} (h : kd o = 0) : kd (o + 151) = 4 := kd_all (P := fun o => kd (o + 151) = 4) 0 (by decide) (by decide +kernel) h
theorem kf_1_leads {o : Nat} (h : kd o = 1) : kd (o + 1) = 11 := kd_all (P := fun o => kd (o + 1) = 11) 1 (by decide) (by decide +kernel) h
theorem kf_2_places {o : Nat} (h : kd o = 2) : kd (o + 1) = 16 := kd_all (P := fun o => kd (o + 1) = 16) 2 (by decide) (by decide +kernel) h
theorem kf_2_counts {o : Nat} (h : kd o = 2) : kd (o + 4) = 11 := kd_all (P := fun o => kd (o + 4) = 11) 2 (by decide) (by decide +kernel) h
theorem kf_3_pieces {o : Nat} (h : kd o = 3) : kd (o + 1) = 5 := kd_all (P := fun o => kd (o + 1) = 5) 3 (by decide) (by decide +kernel) h
theorem kf_3_words {o : Nat} (h : kd o = 3) : kd (o + 3) = 5 := kd_all (P := fun o => kd (o + 3) = 5) 3 (by decide) (by decide +kernel) h
theorem kf_3_settings {o : Nat} (h : kd o = 3) : kd (o + 5) = 11 := kd_all (P := fun o => kd (o + 5) = 11) 3 (by decide) (by decide +kernel) h
theorem kf_4_tables {o : Nat} (h : kd o = 4) : kd (o + 1) = 11 := kd_all (P := fun o => kd (o + 1) = 11) 4 (by decide) (by decide +kernel) h
theorem kf_4_cells {o : Nat} (h : kd o = 4) : kd (o + 2) = 11 := kd_all (P := fun o => kd (o + 2) = 11) 4 (by decide) (by decide +kernel) h
theorem kf_4_order {o : Nat} (h : kd o = 4) : kd (o + 3) = 11 := kd_all (P := fun o => kd (o + 3) = 11) 4 (by decide) (by decide +kernel) h
theorem kf_5_numbers {o : Nat} (h : kd o = 5) : kd (o + 1) = 11 := kd_all (P := fun o => kd (o + 1) = 11) 5 (by decide) (by decide +kernel) h
theorem kf_7_all {o : Nat} (h : kd o = 7) : kd (o + 1) = 14 := kd_all (P := fun o => kd (o + 1) = 14) 7 (by decide) (by decide +kernel) h
theorem kf_7_ofPiece {o : Nat} (h : kd o = 7) : kd (o + 26) = 11 := kd_all (P := fun o => kd (o + 26) = 11) 7 (by decide) (by decide +kernel) h
theorem kf_8_lines {o : Nat} (h : kd o = 8) : kd (o + 1) = 2 := kd_all (P := fun o => kd (o + 1) = 2) 8 (by decide) (by decide +kernel) h
theorem kf_8_sides {o : Nat} (h : kd o = 8) : kd (o + 6) = 12 := kd_all (P := fun o => kd (o + 6) = 12) 8 (by decide) (by decide +kernel) h
theorem kf_8_fieldCells {o : Nat} (h : kd o = 8) : kd (o + 7) = 11 := kd_all (P := fun o => kd (o + 7) = 11) 8 (by decide) (by decide +kernel) h
theorem kf_8_cells {o : Nat} (h : kd o = 8) : kd (o + 8) = 16 := kd_all (P := fun o => kd (o + 8) = 16) 8 (by decide) (by decide +kernel) h
theorem kf_8_missedLines {o : Nat} (h : kd o = 8) : kd (o + 16) = 16 := kd_all (P := fun o => kd (o + 16) = 16) 8 (by decide) (by decide +kernel) h
theorem kf_9_page {o : Nat} (h : kd o = 9) : kd (o + 1) = 3 := kd_all (P := fun o => kd (o + 1) = 3) 9 (by decide) (by decide +kernel) h
theorem kf_9_images {o : Nat} (h : kd o = 9) : kd (o + 7) = 13 := kd_all (P := fun o => kd (o + 7) = 13) 9 (by decide) (by decide +kernel) h
theorem kf_9_kept {o : Nat} (h : kd o = 9) : kd (o + 20) = 12 := kd_all (P := fun o => kd (o + 20) = 12) 9 (by decide) (by decide +kernel) h
theorem kf_9_finding {o : Nat} (h : kd o = 9) : kd (o + 21) = 0 := kd_all (P := fun o => kd (o + 21) = 0) 9 (by decide) (by decide +kernel) h
theorem kf_10_drawn {o : Nat} (h : kd o = 10) : kd (o + 1) = 11 := kd_all (P := fun o => kd (o + 1) = 11) 10 (by decide) (by decide +kernel) h
theorem kf_10_boxes {o : Nat} (h : kd o = 10) : kd (o + 2) = 11 := kd_all (P := fun o => kd (o + 2) = 11) 10 (by decide) (by decide +kernel) h
theorem kf_10_how {o : Nat} (h : kd o = 10) : kd (o + 3) = 11 := kd_all (P := fun o => kd (o + 3) = 11) 10 (by decide) (by decide +kernel) h
theorem kf_10_label {o : Nat} (h : kd o = 10) : kd (o + 4) = 11 := kd_all (P := fun o => kd (o + 4) = 11) 10 (by decide) (by decide +kernel) h
theorem kf_10_rules {o : Nat} (h : kd o = 10) : kd (o + 5) = 11 := kd_all (P := fun o => kd (o + 5) = 11) 10 (by decide) (by decide +kernel) h
theorem kf_10_ruleOf {o : Nat} (h : kd o = 10) : kd (o + 6) = 11 := kd_all (P := fun o => kd (o + 6) = 11) 10 (by decide) (by decide +kernel) h
theorem kf_10_lines {o : Nat} (h : kd o = 10) : kd (o + 7) = 11 := kd_all (P := fun o => kd (o + 7) = 11) 10 (by decide) (by decide +kernel) h
theorem kf_10_lineMany {o : Nat} (h : kd o = 10) : kd (o + 8) = 11 := kd_all (P := fun o => kd (o + 8) = 11) 10 (by decide) (by decide +kernel) h
theorem kf_10_fieldFrom {o : Nat} (h : kd o = 10) : kd (o + 9) = 11 := kd_all (P := fun o => kd (o + 9) = 11) 10 (by decide) (by decide +kernel) h
theorem kf_10_cellFrom {o : Nat} (h : kd o = 10) : kd (o + 10) = 11 := kd_all (P := fun o => kd (o + 10) = 11) 10 (by decide) (by decide +kernel) h
theorem kf_10_cellOf {o : Nat} (h : kd o = 10) : kd (o + 11) = 11 := kd_all (P := fun o => kd (o + 11) = 11) 10 (by decide) (by decide +kernel) h
theorem kf_10_cells {o : Nat} (h : kd o = 10) : kd (o + 12) = 11 := kd_all (P := fun o => kd (o + 12) = 11) 10 (by decide) (by decide +kernel) h
theorem kf_10_wordTable {o : Nat} (h : kd o = 10) : kd (o + 13) = 11 := kd_all (P := fun o => kd (o + 13) = 11) 10 (by decide) (by decide +kernel) h
theorem kf_10_wordCell {o : Nat} (h : kd o = 10) : kd (o + 14) = 11 := kd_all (P := fun o => kd (o + 14) = 11) 10 (by decide) (by decide +kernel) h
theorem kf_10_coming {o : Nat} (h : kd o = 10) : kd (o + 15) = 11 := kd_all (P := fun o => kd (o + 15) = 11) 10 (by decide) (by decide +kernel) h
theorem kf_10_kept {o : Nat} (h : kd o = 10) : kd (o + 16) = 11 := kd_all (P := fun o => kd (o + 16) = 11) 10 (by decide) (by decide +kernel) h
theorem kf_10_isKept {o : Nat} (h : kd o = 10) : kd (o + 17) = 12 := kd_all (P := fun o => kd (o + 17) = 12) 10 (by decide) (by decide +kernel) h
theorem kd_one {o k : Nat} (n : Nat) (hk : k < 99) (hu : ∀ o, o < 194 → kd o = k → o = n) (h : kd o = k) : o = n := hu o (kd_lt h hk) h
theorem ln_lt (o : Nat) : ln o < 2 ^ 31 := by
  rcases Nat.lt_or_ge o 194 with q | q
  · have : ∀ o, o < 194 → ln o < 2 ^ 31 := by decide +kernel
    exact this o q
  · unfold ln
    rw [List.getD_eq_getElem?_getD, List.getElem?_eq_none (by rw [show lnL.length = 194 by decide +kernel]; exact q)]
    decide
theorem tnN {n : Nat} (h : n < 2 ^ 31) : (nI n).toNatClampNeg = n := nI_clamp h
section AWv
variable {g : GG} {cc : ByteArray} {nL : Nat} {ret : Option FieldType} {R : Room} {own : String} {Qc : Array Value → State → Outcome → State → Prop} {pc pc' tgt : Nat} {lv : List (Option Value)} {st : List Value} {σ : SG}
theorem aw_eq {x y : Int32} (h : x = y) (k : AW g cc nL ret R own Qc pc lv (.int y :: st) σ) : AW g cc nL ret R own Qc pc lv (.int x :: st) σ := h ▸ k
theorem aw_eqr {a b : Nat} (h : a = b) (k : AW g cc nL ret R own Qc pc lv (.ref (ad g b) :: st) σ) : AW g cc nL ret R own Qc pc lv (.ref (ad g a) :: st) σ := h ▸ k
theorem aw_lv {lv' : List (Option Value)} (h : lv = lv') (k : AW g cc nL ret R own Qc pc lv' st σ) : AW g cc nL ret R own Qc pc lv st σ := h ▸ k
theorem aw_st {st' : List Value} (h : st = st') (k : AW g cc nL ret R own Qc pc lv st' σ) : AW g cc nL ret R own Qc pc lv st σ := h ▸ k
theorem aw_sg {σ' : SG} (h : σ = σ') (k : AW g cc nL ret R own Qc pc lv st σ') : AW g cc nL ret R own Qc pc lv st σ := h ▸ k
theorem aw_ic {n : Int} (v : Int32) (hd : dn cc pc (.iconst n) 1 pc') (hv : Int32.ofInt n = v) (k : AW g cc nL ret R own Qc pc' lv (.int v :: st) σ) : AW g cc nL ret R own Qc pc lv st σ := aw_iconst hd (hv ▸ k)
theorem aw_bi {n : Int} (v : Int32) (hd : dn cc pc (.bipush n) 2 pc') (hv : (Int8.ofInt n).toInt32 = v) (k : AW g cc nL ret R own Qc pc' lv (.int v :: st) σ) : AW g cc nL ret R own Qc pc lv st σ := aw_bipush hd (hv ▸ k)
theorem aw_si {n : Int} (v : Int32) (hd : dn cc pc (.sipush n) 3 pc') (hv : (Int16.ofInt n).toInt32 = v) (k : AW g cc nL ret R own Qc pc' lv (.int v :: st) σ) : AW g cc nL ret R own Qc pc lv st σ := aw_sipush hd (hv ▸ k)
theorem aw_inc {i : Nat} {n : Int} {x : Int32} (v : Int32) (hd : dn cc pc (.iinc i n) 3 pc') (hx : lv[i]? = some (some (.int x))) (hn : i < nL) (hv : x + Int32.ofInt n = v) (k : AW g cc nL ret R own Qc pc' (lv.set i (some (.int v))) st σ) : AW g cc nL ret R own Qc pc lv st σ := aw_iinc hd hx hn (hv ▸ k)
theorem aw_ld {o : Nat} {i : Int32} (j : Nat) (hd : dn cc pc .iaload 1 pc') (hk : kd o = 11) (e : i = nI j) (h : j < ln o) (k : AW g cc nL ret R own Qc pc' lv (.int (σ.2.1 o j) :: st) σ) : AW g cc nL ret R own Qc pc lv (.int i :: .ref (ad g o) :: st) σ := by
  subst e
  refine aw_iald hd hk (vp_in_nI h (ln_lt o)) ?_
  rw [tnN (Nat.lt_trans h (ln_lt o))]
  exact k
theorem aw_zld {o : Nat} {i : Int32} (j : Nat) (hd : dn cc pc .baload 1 pc') (hk : kd o = 12) (e : i = nI j) (h : j < ln o) (k : AW g cc nL ret R own Qc pc' lv (.int (σ.2.1 o j) :: st) σ) : AW g cc nL ret R own Qc pc lv (.int i :: .ref (ad g o) :: st) σ := by
  subst e
  refine aw_zald hd hk (vp_in_nI h (ln_lt o)) ?_
  rw [tnN (Nat.lt_trans h (ln_lt o))]
  exact k
theorem aw_sto {o : Nat} {i x : Int32} (j : Nat) (hd : dn cc pc .iastore 1 pc') (hk : kd o = 11) (e : i = nI j) (h : j < ln o) (k : AW g cc nL ret R own Qc pc' lv st (σ.1, uA σ.2.1 o (upd (σ.2.1 o) j x), σ.2.2)) : AW g cc nL ret R own Qc pc lv (.int x :: .int i :: .ref (ad g o) :: st) σ := by
  subst e
  refine aw_iast hd hk (vp_in_nI h (ln_lt o)) ?_
  rw [tnN (Nat.lt_trans h (ln_lt o))]
  exact k
theorem aw_zsto {o : Nat} {i x : Int32} (j : Nat) (hd : dn cc pc .bastore 1 pc') (hk : kd o = 12) (e : i = nI j) (h : j < ln o) (hx : vp_nar .boolean x = x) (k : AW g cc nL ret R own Qc pc' lv st (σ.1, uA σ.2.1 o (upd (σ.2.1 o) j x), σ.2.2)) : AW g cc nL ret R own Qc pc lv (.int x :: .int i :: .ref (ad g o) :: st) σ := by
  subst e
  refine aw_zast hd hk (vp_in_nI h (ln_lt o)) hx ?_
  rw [tnN (Nat.lt_trans h (ln_lt o))]
  exact k
theorem aw_ald16 {o : Nat} {i : Int32} (j : Nat) (hd : dn cc pc .aaload 1 pc') (hk : kd o = 16) (e : i = nI j) (h : j < ln o) (k : AW g cc nL ret R own Qc pc' lv (.ref (ad g (o + 1 + j)) :: st) σ) : AW g cc nL ret R own Qc pc lv (.int i :: .ref (ad g o) :: st) σ := by
  subst e
  refine aw_aald16 hd hk (vp_in_nI h (ln_lt o)) ?_
  rw [tnN (Nat.lt_trans h (ln_lt o))]
  exact k
theorem aw_ald13 {o : Nat} {i : Int32} (j : Nat) (hd : dn cc pc .aaload 1 pc') (hk : kd o = 13) (e : i = nI j) (h : j < ln o) (k : AW g cc nL ret R own Qc pc' lv (.ref (ad g (o + 1 + 6 * j)) :: st) σ) : AW g cc nL ret R own Qc pc lv (.int i :: .ref (ad g o) :: st) σ := by
  subst e
  refine aw_aald13 hd hk (vp_in_nI h (ln_lt o)) ?_
  rw [tnN (Nat.lt_trans h (ln_lt o))]
  exact k
theorem aw_ald14 {o : Nat} {i : Int32} (j : Nat) (hd : dn cc pc .aaload 1 pc') (hk : kd o = 14) (e : i = nI j) (h : j < ln o) (k : AW g cc nL ret R own Qc pc' lv (.ref (ad g (o + 1 + σ.2.2 j)) :: st) σ) : AW g cc nL ret R own Qc pc lv (.int i :: .ref (ad g o) :: st) σ := by
  subst e
  refine aw_aald14 hd hk (vp_in_nI h (ln_lt o)) ?_
  rw [tnN (Nat.lt_trans h (ln_lt o))]
  exact k
theorem aw_ald15 {o : Nat} {i : Int32} (j : Nat) (hd : dn cc pc .aaload 1 pc') (hk : kd o = 15) (e : i = nI j) (h : j < ln o) (k : AW g cc nL ret R own Qc pc' lv (.ref (ad g (o + 1 + 20 * j)) :: st) σ) : AW g cc nL ret R own Qc pc lv (.int i :: .ref (ad g o) :: st) σ := by
  subst e
  refine aw_aald15 hd hk (vp_in_nI h (ln_lt o)) ?_
  rw [tnN (Nat.lt_trans h (ln_lt o))]
  exact k
theorem aw_ast14 {i : Int32} {r : Nat} (j : Nat) (hd : dn cc pc .aastore 1 pc') (e : i = nI j) (h : j < 24) (hr : r < 24) (k : AW g cc nL ret R own Qc pc' lv st (σ.1, σ.2.1, uP σ.2.2 j r)) : AW g cc nL ret R own Qc pc lv (.ref (ad g (25 + 1 + r)) :: .int i :: .ref (ad g 25) :: st) σ := by
  subst e
  have hj : j < 2 ^ 31 := by omega
  refine aw_aast14 hd (vp_in_nI h (by decide)) hr ?_
  rw [tnN hj]
  exact k
variable {y : MethodName} {cy : ByteArray} {ny n idx o : Nat} {ry : Option FieldType} {rm : Room} {rest : List Value} {ci : Nat} {q : vw_C}
theorem cvi0 {post : Int32 → SG → Prop} (hd : dn cc pc (.invokevirtual idx) 3 pc') (hl : Cond.methodLink own idx y ∈ wtb) (ok : okV y cy ny ry 0) (hc : vwCl[ci]? = some q) (hq : q.1 = y.cls) (hci : ci < 11) (hk : kd o = ci) (hW : (rest.map fun v => v.category).sum ≤ 8) (hR : rm.frames + 1 ≤ R.frames ∧ 8 + (ny + 11) + rm.locals ≤ R.locals) (hrc : rm.cells = 0) (hrs : rm.slots = 0) (hM : Cti g y cy ny ry rm [.ref (ad g o)] σ post) (kk : ∀ r σ', post r σ' → AW g cc nL ret R own Qc pc' lv (.int r :: rest) σ') : AW g cc nL ret R own Qc pc lv (.ref (ad g o) :: rest) σ := aw_calli (As := []) hd hl ok hc hq hci hk rfl rfl hW hR hrc hrs hM kk
theorem cvi1 {v1 : Value} {post : Int32 → SG → Prop} (hd : dn cc pc (.invokevirtual idx) 3 pc') (hl : Cond.methodLink own idx y ∈ wtb) (ok : okV y cy ny ry 1) (hc : vwCl[ci]? = some q) (hq : q.1 = y.cls) (hci : ci < 11) (hk : kd o = ci) (hW : (rest.map fun v => v.category).sum ≤ 8) (hR : rm.frames + 1 ≤ R.frames ∧ 8 + (ny + 11) + rm.locals ≤ R.locals) (hrc : rm.cells = 0) (hrs : rm.slots = 0) (hM : Cti g y cy ny ry rm [.ref (ad g o), v1] σ post) (kk : ∀ r σ', post r σ' → AW g cc nL ret R own Qc pc' lv (.int r :: rest) σ') : AW g cc nL ret R own Qc pc lv (v1 :: .ref (ad g o) :: rest) σ := aw_calli (As := [v1]) hd hl ok hc hq hci hk rfl rfl hW hR hrc hrs hM kk
theorem csi1 {v1 : Value} {post : Int32 → SG → Prop} (hd : dn cc pc (.invokestatic idx) 3 pc') (hl : Cond.methodLink own idx y ∈ wtb) (ok : okS y cy ny ry 1) (hW : (rest.map fun v => v.category).sum ≤ 8) (hR : rm.frames + 1 ≤ R.frames ∧ 8 + (ny + 11) + rm.locals ≤ R.locals) (hrc : rm.cells = 0) (hrs : rm.slots = 0) (hM : Cti g y cy ny ry rm [v1] σ post) (kk : ∀ r σ', post r σ' → AW g cc nL ret R own Qc pc' lv (.int r :: rest) σ') : AW g cc nL ret R own Qc pc lv (v1 :: rest) σ := aw_callsi (As := [v1]) hd hl ok rfl rfl hW hR hrc hrs hM kk
theorem cvi2 {v1 v2 : Value} {post : Int32 → SG → Prop} (hd : dn cc pc (.invokevirtual idx) 3 pc') (hl : Cond.methodLink own idx y ∈ wtb) (ok : okV y cy ny ry 2) (hc : vwCl[ci]? = some q) (hq : q.1 = y.cls) (hci : ci < 11) (hk : kd o = ci) (hW : (rest.map fun v => v.category).sum ≤ 8) (hR : rm.frames + 1 ≤ R.frames ∧ 8 + (ny + 11) + rm.locals ≤ R.locals) (hrc : rm.cells = 0) (hrs : rm.slots = 0) (hM : Cti g y cy ny ry rm [.ref (ad g o), v1, v2] σ post) (kk : ∀ r σ', post r σ' → AW g cc nL ret R own Qc pc' lv (.int r :: rest) σ') : AW g cc nL ret R own Qc pc lv (v2 :: v1 :: .ref (ad g o) :: rest) σ := aw_calli (As := [v1, v2]) hd hl ok hc hq hci hk rfl rfl hW hR hrc hrs hM kk
theorem csi2 {v1 v2 : Value} {post : Int32 → SG → Prop} (hd : dn cc pc (.invokestatic idx) 3 pc') (hl : Cond.methodLink own idx y ∈ wtb) (ok : okS y cy ny ry 2) (hW : (rest.map fun v => v.category).sum ≤ 8) (hR : rm.frames + 1 ≤ R.frames ∧ 8 + (ny + 11) + rm.locals ≤ R.locals) (hrc : rm.cells = 0) (hrs : rm.slots = 0) (hM : Cti g y cy ny ry rm [v1, v2] σ post) (kk : ∀ r σ', post r σ' → AW g cc nL ret R own Qc pc' lv (.int r :: rest) σ') : AW g cc nL ret R own Qc pc lv (v2 :: v1 :: rest) σ := aw_callsi (As := [v1, v2]) hd hl ok rfl rfl hW hR hrc hrs hM kk
theorem cvi3 {v1 v2 v3 : Value} {post : Int32 → SG → Prop} (hd : dn cc pc (.invokevirtual idx) 3 pc') (hl : Cond.methodLink own idx y ∈ wtb) (ok : okV y cy ny ry 3) (hc : vwCl[ci]? = some q) (hq : q.1 = y.cls) (hci : ci < 11) (hk : kd o = ci) (hW : (rest.map fun v => v.category).sum ≤ 8) (hR : rm.frames + 1 ≤ R.frames ∧ 8 + (ny + 11) + rm.locals ≤ R.locals) (hrc : rm.cells = 0) (hrs : rm.slots = 0) (hM : Cti g y cy ny ry rm [.ref (ad g o), v1, v2, v3] σ post) (kk : ∀ r σ', post r σ' → AW g cc nL ret R own Qc pc' lv (.int r :: rest) σ') : AW g cc nL ret R own Qc pc lv (v3 :: v2 :: v1 :: .ref (ad g o) :: rest) σ := aw_calli (As := [v1, v2, v3]) hd hl ok hc hq hci hk rfl rfl hW hR hrc hrs hM kk
theorem csi3 {v1 v2 v3 : Value} {post : Int32 → SG → Prop} (hd : dn cc pc (.invokestatic idx) 3 pc') (hl : Cond.methodLink own idx y ∈ wtb) (ok : okS y cy ny ry 3) (hW : (rest.map fun v => v.category).sum ≤ 8) (hR : rm.frames + 1 ≤ R.frames ∧ 8 + (ny + 11) + rm.locals ≤ R.locals) (hrc : rm.cells = 0) (hrs : rm.slots = 0) (hM : Cti g y cy ny ry rm [v1, v2, v3] σ post) (kk : ∀ r σ', post r σ' → AW g cc nL ret R own Qc pc' lv (.int r :: rest) σ') : AW g cc nL ret R own Qc pc lv (v3 :: v2 :: v1 :: rest) σ := aw_callsi (As := [v1, v2, v3]) hd hl ok rfl rfl hW hR hrc hrs hM kk
theorem cvi4 {v1 v2 v3 v4 : Value} {post : Int32 → SG → Prop} (hd : dn cc pc (.invokevirtual idx) 3 pc') (hl : Cond.methodLink own idx y ∈ wtb) (ok : okV y cy ny ry 4) (hc : vwCl[ci]? = some q) (hq : q.1 = y.cls) (hci : ci < 11) (hk : kd o = ci) (hW : (rest.map fun v => v.category).sum ≤ 8) (hR : rm.frames + 1 ≤ R.frames ∧ 8 + (ny + 11) + rm.locals ≤ R.locals) (hrc : rm.cells = 0) (hrs : rm.slots = 0) (hM : Cti g y cy ny ry rm [.ref (ad g o), v1, v2, v3, v4] σ post) (kk : ∀ r σ', post r σ' → AW g cc nL ret R own Qc pc' lv (.int r :: rest) σ') : AW g cc nL ret R own Qc pc lv (v4 :: v3 :: v2 :: v1 :: .ref (ad g o) :: rest) σ := aw_calli (As := [v1, v2, v3, v4]) hd hl ok hc hq hci hk rfl rfl hW hR hrc hrs hM kk
theorem csi4 {v1 v2 v3 v4 : Value} {post : Int32 → SG → Prop} (hd : dn cc pc (.invokestatic idx) 3 pc') (hl : Cond.methodLink own idx y ∈ wtb) (ok : okS y cy ny ry 4) (hW : (rest.map fun v => v.category).sum ≤ 8) (hR : rm.frames + 1 ≤ R.frames ∧ 8 + (ny + 11) + rm.locals ≤ R.locals) (hrc : rm.cells = 0) (hrs : rm.slots = 0) (hM : Cti g y cy ny ry rm [v1, v2, v3, v4] σ post) (kk : ∀ r σ', post r σ' → AW g cc nL ret R own Qc pc' lv (.int r :: rest) σ') : AW g cc nL ret R own Qc pc lv (v4 :: v3 :: v2 :: v1 :: rest) σ := aw_callsi (As := [v1, v2, v3, v4]) hd hl ok rfl rfl hW hR hrc hrs hM kk
theorem cvi5 {v1 v2 v3 v4 v5 : Value} {post : Int32 → SG → Prop} (hd : dn cc pc (.invokevirtual idx) 3 pc') (hl : Cond.methodLink own idx y ∈ wtb) (ok : okV y cy ny ry 5) (hc : vwCl[ci]? = some q) (hq : q.1 = y.cls) (hci : ci < 11) (hk : kd o = ci) (hW : (rest.map fun v => v.category).sum ≤ 8) (hR : rm.frames + 1 ≤ R.frames ∧ 8 + (ny + 11) + rm.locals ≤ R.locals) (hrc : rm.cells = 0) (hrs : rm.slots = 0) (hM : Cti g y cy ny ry rm [.ref (ad g o), v1, v2, v3, v4, v5] σ post) (kk : ∀ r σ', post r σ' → AW g cc nL ret R own Qc pc' lv (.int r :: rest) σ') : AW g cc nL ret R own Qc pc lv (v5 :: v4 :: v3 :: v2 :: v1 :: .ref (ad g o) :: rest) σ := aw_calli (As := [v1, v2, v3, v4, v5]) hd hl ok hc hq hci hk rfl rfl hW hR hrc hrs hM kk
theorem csi5 {v1 v2 v3 v4 v5 : Value} {post : Int32 → SG → Prop} (hd : dn cc pc (.invokestatic idx) 3 pc') (hl : Cond.methodLink own idx y ∈ wtb) (ok : okS y cy ny ry 5) (hW : (rest.map fun v => v.category).sum ≤ 8) (hR : rm.frames + 1 ≤ R.frames ∧ 8 + (ny + 11) + rm.locals ≤ R.locals) (hrc : rm.cells = 0) (hrs : rm.slots = 0) (hM : Cti g y cy ny ry rm [v1, v2, v3, v4, v5] σ post) (kk : ∀ r σ', post r σ' → AW g cc nL ret R own Qc pc' lv (.int r :: rest) σ') : AW g cc nL ret R own Qc pc lv (v5 :: v4 :: v3 :: v2 :: v1 :: rest) σ := aw_callsi (As := [v1, v2, v3, v4, v5]) hd hl ok rfl rfl hW hR hrc hrs hM kk
theorem cvi6 {v1 v2 v3 v4 v5 v6 : Value} {post : Int32 → SG → Prop} (hd : dn cc pc (.invokevirtual idx) 3 pc') (hl : Cond.methodLink own idx y ∈ wtb) (ok : okV y cy ny ry 6) (hc : vwCl[ci]? = some q) (hq : q.1 = y.cls) (hci : ci < 11) (hk : kd o = ci) (hW : (rest.map fun v => v.category).sum ≤ 8) (hR : rm.frames + 1 ≤ R.frames ∧ 8 + (ny + 11) + rm.locals ≤ R.locals) (hrc : rm.cells = 0) (hrs : rm.slots = 0) (hM : Cti g y cy ny ry rm [.ref (ad g o), v1, v2, v3, v4, v5, v6] σ post) (kk : ∀ r σ', post r σ' → AW g cc nL ret R own Qc pc' lv (.int r :: rest) σ') : AW g cc nL ret R own Qc pc lv (v6 :: v5 :: v4 :: v3 :: v2 :: v1 :: .ref (ad g o) :: rest) σ := aw_calli (As := [v1, v2, v3, v4, v5, v6]) hd hl ok hc hq hci hk rfl rfl hW hR hrc hrs hM kk
theorem csi6 {v1 v2 v3 v4 v5 v6 : Value} {post : Int32 → SG → Prop} (hd : dn cc pc (.invokestatic idx) 3 pc') (hl : Cond.methodLink own idx y ∈ wtb) (ok : okS y cy ny ry 6) (hW : (rest.map fun v => v.category).sum ≤ 8) (hR : rm.frames + 1 ≤ R.frames ∧ 8 + (ny + 11) + rm.locals ≤ R.locals) (hrc : rm.cells = 0) (hrs : rm.slots = 0) (hM : Cti g y cy ny ry rm [v1, v2, v3, v4, v5, v6] σ post) (kk : ∀ r σ', post r σ' → AW g cc nL ret R own Qc pc' lv (.int r :: rest) σ') : AW g cc nL ret R own Qc pc lv (v6 :: v5 :: v4 :: v3 :: v2 :: v1 :: rest) σ := aw_callsi (As := [v1, v2, v3, v4, v5, v6]) hd hl ok rfl rfl hW hR hrc hrs hM kk
theorem cvv0 {post : SG → Prop} (hd : dn cc pc (.invokevirtual idx) 3 pc') (hl : Cond.methodLink own idx y ∈ wtb) (ok : okV y cy ny none 0) (hc : vwCl[ci]? = some q) (hq : q.1 = y.cls) (hci : ci < 11) (hk : kd o = ci) (hW : (rest.map fun v => v.category).sum ≤ 8) (hR : rm.frames + 1 ≤ R.frames ∧ 8 + (ny + 11) + rm.locals ≤ R.locals) (hrc : rm.cells = 0) (hrs : rm.slots = 0) (hM : Ctv g y cy ny rm [.ref (ad g o)] σ post) (kk : ∀ σ', post σ' → AW g cc nL ret R own Qc pc' lv rest σ') : AW g cc nL ret R own Qc pc lv (.ref (ad g o) :: rest) σ := aw_callv (As := []) hd hl ok hc hq hci hk rfl rfl hW hR hrc hrs hM kk
theorem cvv1 {v1 : Value} {post : SG → Prop} (hd : dn cc pc (.invokevirtual idx) 3 pc') (hl : Cond.methodLink own idx y ∈ wtb) (ok : okV y cy ny none 1) (hc : vwCl[ci]? = some q) (hq : q.1 = y.cls) (hci : ci < 11) (hk : kd o = ci) (hW : (rest.map fun v => v.category).sum ≤ 8) (hR : rm.frames + 1 ≤ R.frames ∧ 8 + (ny + 11) + rm.locals ≤ R.locals) (hrc : rm.cells = 0) (hrs : rm.slots = 0) (hM : Ctv g y cy ny rm [.ref (ad g o), v1] σ post) (kk : ∀ σ', post σ' → AW g cc nL ret R own Qc pc' lv rest σ') : AW g cc nL ret R own Qc pc lv (v1 :: .ref (ad g o) :: rest) σ := aw_callv (As := [v1]) hd hl ok hc hq hci hk rfl rfl hW hR hrc hrs hM kk
theorem csv1 {v1 : Value} {post : SG → Prop} (hd : dn cc pc (.invokestatic idx) 3 pc') (hl : Cond.methodLink own idx y ∈ wtb) (ok : okS y cy ny none 1) (hW : (rest.map fun v => v.category).sum ≤ 8) (hR : rm.frames + 1 ≤ R.frames ∧ 8 + (ny + 11) + rm.locals ≤ R.locals) (hrc : rm.cells = 0) (hrs : rm.slots = 0) (hM : Ctv g y cy ny rm [v1] σ post) (kk : ∀ σ', post σ' → AW g cc nL ret R own Qc pc' lv rest σ') : AW g cc nL ret R own Qc pc lv (v1 :: rest) σ := aw_callsv (As := [v1]) hd hl ok rfl rfl hW hR hrc hrs hM kk
theorem cvv2 {v1 v2 : Value} {post : SG → Prop} (hd : dn cc pc (.invokevirtual idx) 3 pc') (hl : Cond.methodLink own idx y ∈ wtb) (ok : okV y cy ny none 2) (hc : vwCl[ci]? = some q) (hq : q.1 = y.cls) (hci : ci < 11) (hk : kd o = ci) (hW : (rest.map fun v => v.category).sum ≤ 8) (hR : rm.frames + 1 ≤ R.frames ∧ 8 + (ny + 11) + rm.locals ≤ R.locals) (hrc : rm.cells = 0) (hrs : rm.slots = 0) (hM : Ctv g y cy ny rm [.ref (ad g o), v1, v2] σ post) (kk : ∀ σ', post σ' → AW g cc nL ret R own Qc pc' lv rest σ') : AW g cc nL ret R own Qc pc lv (v2 :: v1 :: .ref (ad g o) :: rest) σ := aw_callv (As := [v1, v2]) hd hl ok hc hq hci hk rfl rfl hW hR hrc hrs hM kk
theorem csv2 {v1 v2 : Value} {post : SG → Prop} (hd : dn cc pc (.invokestatic idx) 3 pc') (hl : Cond.methodLink own idx y ∈ wtb) (ok : okS y cy ny none 2) (hW : (rest.map fun v => v.category).sum ≤ 8) (hR : rm.frames + 1 ≤ R.frames ∧ 8 + (ny + 11) + rm.locals ≤ R.locals) (hrc : rm.cells = 0) (hrs : rm.slots = 0) (hM : Ctv g y cy ny rm [v1, v2] σ post) (kk : ∀ σ', post σ' → AW g cc nL ret R own Qc pc' lv rest σ') : AW g cc nL ret R own Qc pc lv (v2 :: v1 :: rest) σ := aw_callsv (As := [v1, v2]) hd hl ok rfl rfl hW hR hrc hrs hM kk
theorem cvv3 {v1 v2 v3 : Value} {post : SG → Prop} (hd : dn cc pc (.invokevirtual idx) 3 pc') (hl : Cond.methodLink own idx y ∈ wtb) (ok : okV y cy ny none 3) (hc : vwCl[ci]? = some q) (hq : q.1 = y.cls) (hci : ci < 11) (hk : kd o = ci) (hW : (rest.map fun v => v.category).sum ≤ 8) (hR : rm.frames + 1 ≤ R.frames ∧ 8 + (ny + 11) + rm.locals ≤ R.locals) (hrc : rm.cells = 0) (hrs : rm.slots = 0) (hM : Ctv g y cy ny rm [.ref (ad g o), v1, v2, v3] σ post) (kk : ∀ σ', post σ' → AW g cc nL ret R own Qc pc' lv rest σ') : AW g cc nL ret R own Qc pc lv (v3 :: v2 :: v1 :: .ref (ad g o) :: rest) σ := aw_callv (As := [v1, v2, v3]) hd hl ok hc hq hci hk rfl rfl hW hR hrc hrs hM kk
theorem csv3 {v1 v2 v3 : Value} {post : SG → Prop} (hd : dn cc pc (.invokestatic idx) 3 pc') (hl : Cond.methodLink own idx y ∈ wtb) (ok : okS y cy ny none 3) (hW : (rest.map fun v => v.category).sum ≤ 8) (hR : rm.frames + 1 ≤ R.frames ∧ 8 + (ny + 11) + rm.locals ≤ R.locals) (hrc : rm.cells = 0) (hrs : rm.slots = 0) (hM : Ctv g y cy ny rm [v1, v2, v3] σ post) (kk : ∀ σ', post σ' → AW g cc nL ret R own Qc pc' lv rest σ') : AW g cc nL ret R own Qc pc lv (v3 :: v2 :: v1 :: rest) σ := aw_callsv (As := [v1, v2, v3]) hd hl ok rfl rfl hW hR hrc hrs hM kk
theorem cvv4 {v1 v2 v3 v4 : Value} {post : SG → Prop} (hd : dn cc pc (.invokevirtual idx) 3 pc') (hl : Cond.methodLink own idx y ∈ wtb) (ok : okV y cy ny none 4) (hc : vwCl[ci]? = some q) (hq : q.1 = y.cls) (hci : ci < 11) (hk : kd o = ci) (hW : (rest.map fun v => v.category).sum ≤ 8) (hR : rm.frames + 1 ≤ R.frames ∧ 8 + (ny + 11) + rm.locals ≤ R.locals) (hrc : rm.cells = 0) (hrs : rm.slots = 0) (hM : Ctv g y cy ny rm [.ref (ad g o), v1, v2, v3, v4] σ post) (kk : ∀ σ', post σ' → AW g cc nL ret R own Qc pc' lv rest σ') : AW g cc nL ret R own Qc pc lv (v4 :: v3 :: v2 :: v1 :: .ref (ad g o) :: rest) σ := aw_callv (As := [v1, v2, v3, v4]) hd hl ok hc hq hci hk rfl rfl hW hR hrc hrs hM kk
theorem csv4 {v1 v2 v3 v4 : Value} {post : SG → Prop} (hd : dn cc pc (.invokestatic idx) 3 pc') (hl : Cond.methodLink own idx y ∈ wtb) (ok : okS y cy ny none 4) (hW : (rest.map fun v => v.category).sum ≤ 8) (hR : rm.frames + 1 ≤ R.frames ∧ 8 + (ny + 11) + rm.locals ≤ R.locals) (hrc : rm.cells = 0) (hrs : rm.slots = 0) (hM : Ctv g y cy ny rm [v1, v2, v3, v4] σ post) (kk : ∀ σ', post σ' → AW g cc nL ret R own Qc pc' lv rest σ') : AW g cc nL ret R own Qc pc lv (v4 :: v3 :: v2 :: v1 :: rest) σ := aw_callsv (As := [v1, v2, v3, v4]) hd hl ok rfl rfl hW hR hrc hrs hM kk
theorem cvv5 {v1 v2 v3 v4 v5 : Value} {post : SG → Prop} (hd : dn cc pc (.invokevirtual idx) 3 pc') (hl : Cond.methodLink own idx y ∈ wtb) (ok : okV y cy ny none 5) (hc : vwCl[ci]? = some q) (hq : q.1 = y.cls) (hci : ci < 11) (hk : kd o = ci) (hW : (rest.map fun v => v.category).sum ≤ 8) (hR : rm.frames + 1 ≤ R.frames ∧ 8 + (ny + 11) + rm.locals ≤ R.locals) (hrc : rm.cells = 0) (hrs : rm.slots = 0) (hM : Ctv g y cy ny rm [.ref (ad g o), v1, v2, v3, v4, v5] σ post) (kk : ∀ σ', post σ' → AW g cc nL ret R own Qc pc' lv rest σ') : AW g cc nL ret R own Qc pc lv (v5 :: v4 :: v3 :: v2 :: v1 :: .ref (ad g o) :: rest) σ := aw_callv (As := [v1, v2, v3, v4, v5]) hd hl ok hc hq hci hk rfl rfl hW hR hrc hrs hM kk
theorem csv5 {v1 v2 v3 v4 v5 : Value} {post : SG → Prop} (hd : dn cc pc (.invokestatic idx) 3 pc') (hl : Cond.methodLink own idx y ∈ wtb) (ok : okS y cy ny none 5) (hW : (rest.map fun v => v.category).sum ≤ 8) (hR : rm.frames + 1 ≤ R.frames ∧ 8 + (ny + 11) + rm.locals ≤ R.locals) (hrc : rm.cells = 0) (hrs : rm.slots = 0) (hM : Ctv g y cy ny rm [v1, v2, v3, v4, v5] σ post) (kk : ∀ σ', post σ' → AW g cc nL ret R own Qc pc' lv rest σ') : AW g cc nL ret R own Qc pc lv (v5 :: v4 :: v3 :: v2 :: v1 :: rest) σ := aw_callsv (As := [v1, v2, v3, v4, v5]) hd hl ok rfl rfl hW hR hrc hrs hM kk
theorem cvv6 {v1 v2 v3 v4 v5 v6 : Value} {post : SG → Prop} (hd : dn cc pc (.invokevirtual idx) 3 pc') (hl : Cond.methodLink own idx y ∈ wtb) (ok : okV y cy ny none 6) (hc : vwCl[ci]? = some q) (hq : q.1 = y.cls) (hci : ci < 11) (hk : kd o = ci) (hW : (rest.map fun v => v.category).sum ≤ 8) (hR : rm.frames + 1 ≤ R.frames ∧ 8 + (ny + 11) + rm.locals ≤ R.locals) (hrc : rm.cells = 0) (hrs : rm.slots = 0) (hM : Ctv g y cy ny rm [.ref (ad g o), v1, v2, v3, v4, v5, v6] σ post) (kk : ∀ σ', post σ' → AW g cc nL ret R own Qc pc' lv rest σ') : AW g cc nL ret R own Qc pc lv (v6 :: v5 :: v4 :: v3 :: v2 :: v1 :: .ref (ad g o) :: rest) σ := aw_callv (As := [v1, v2, v3, v4, v5, v6]) hd hl ok hc hq hci hk rfl rfl hW hR hrc hrs hM kk
theorem csv6 {v1 v2 v3 v4 v5 v6 : Value} {post : SG → Prop} (hd : dn cc pc (.invokestatic idx) 3 pc') (hl : Cond.methodLink own idx y ∈ wtb) (ok : okS y cy ny none 6) (hW : (rest.map fun v => v.category).sum ≤ 8) (hR : rm.frames + 1 ≤ R.frames ∧ 8 + (ny + 11) + rm.locals ≤ R.locals) (hrc : rm.cells = 0) (hrs : rm.slots = 0) (hM : Ctv g y cy ny rm [v1, v2, v3, v4, v5, v6] σ post) (kk : ∀ σ', post σ' → AW g cc nL ret R own Qc pc' lv rest σ') : AW g cc nL ret R own Qc pc lv (v6 :: v5 :: v4 :: v3 :: v2 :: v1 :: rest) σ := aw_callsv (As := [v1, v2, v3, v4, v5, v6]) hd hl ok rfl rfl hW hR hrc hrs hM kk
theorem cvr0 {o2 : Nat} {post : SG → Prop} (hd : dn cc pc (.invokevirtual idx) 3 pc') (hl : Cond.methodLink own idx y ∈ wtb) (ok : okV y cy ny ry 0) (hc : vwCl[ci]? = some q) (hq : q.1 = y.cls) (hci : ci < 11) (hk : kd o = ci) (hW : (rest.map fun v => v.category).sum ≤ 8) (hR : rm.frames + 1 ≤ R.frames ∧ 8 + (ny + 11) + rm.locals ≤ R.locals) (hrc : rm.cells = 0) (hrs : rm.slots = 0) (hM : Ctr g y cy ny ry rm [.ref (ad g o)] σ o2 post) (kk : ∀ σ', post σ' → AW g cc nL ret R own Qc pc' lv (.ref (ad g o2) :: rest) σ') : AW g cc nL ret R own Qc pc lv (.ref (ad g o) :: rest) σ := aw_callr (As := []) hd hl ok hc hq hci hk rfl rfl hW hR hrc hrs hM kk
end AWv
end
