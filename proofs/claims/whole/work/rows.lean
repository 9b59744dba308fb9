section
-- ===== PART A: goes FIRST, ahead of the names: the tables' words, and 'selects' of the private methods out of them =====
/-- a private method of a class that the tables say can be made, by its rows of tables_1 -/
def lw_okq (q : MethodName × Nat) : Prop := (q.1.cls ≠ "java/lang/invoke/MethodHandle" ∧ q.1.cls ≠ "java/lang/invoke/VarHandle") ∧ Cond.instantiable q.1.cls q.2 ∈ tables_1 ∧ Cond.privateMethod q.1 ∈ tables_1 ∧ Cond.instanceMethod q.1 ∈ tables_1
theorem lw_p0 : lw_okq (⟨"RuledTables", "found", "()LRuledTables$Finding;"⟩, 5) := ⟨⟨by decide +kernel, by decide +kernel⟩, List.mem_of_getElem? (i := 14) (by decide +kernel), List.mem_of_getElem? (i := 342) (by decide +kernel), List.mem_of_getElem? (i := 343) (by decide +kernel)⟩
theorem lw_p1 : lw_okq (⟨"RuledTables$Rules", "gather", "(LRuledTables$Rows;LRuledTables$Groups;)V"⟩, 3) := ⟨⟨by decide +kernel, by decide +kernel⟩, List.mem_of_getElem? (i := 97) (by decide +kernel), List.mem_of_getElem? (i := 381) (by decide +kernel), List.mem_of_getElem? (i := 382) (by decide +kernel)⟩
theorem lw_p2 : lw_okq (⟨"RuledTables$Rules", "sort", "()V"⟩, 3) := ⟨⟨by decide +kernel, by decide +kernel⟩, List.mem_of_getElem? (i := 97) (by decide +kernel), List.mem_of_getElem? (i := 397) (by decide +kernel), List.mem_of_getElem? (i := 398) (by decide +kernel)⟩
theorem lw_p3 : lw_okq (⟨"RuledTables$Rules", "tellPieces", "(ILRuledTables$Groups;)V"⟩, 3) := ⟨⟨by decide +kernel, by decide +kernel⟩, List.mem_of_getElem? (i := 97) (by decide +kernel), List.mem_of_getElem? (i := 405) (by decide +kernel), List.mem_of_getElem? (i := 406) (by decide +kernel)⟩
theorem lw_p4 : lw_okq (⟨"RuledTables$Rules", "countPlaces", "(IILRuledTables$Groups;)I"⟩, 3) := ⟨⟨by decide +kernel, by decide +kernel⟩, List.mem_of_getElem? (i := 97) (by decide +kernel), List.mem_of_getElem? (i := 425) (by decide +kernel), List.mem_of_getElem? (i := 426) (by decide +kernel)⟩
theorem lw_p5 : lw_okq (⟨"RuledTables$Rules", "giveTable", "(IILRuledTables$Groups;)V"⟩, 3) := ⟨⟨by decide +kernel, by decide +kernel⟩, List.mem_of_getElem? (i := 97) (by decide +kernel), List.mem_of_getElem? (i := 429) (by decide +kernel), List.mem_of_getElem? (i := 430) (by decide +kernel)⟩
theorem lw_p6 : lw_okq (⟨"RuledTables$Table", "takeLines", "(LRuledTables$Rules;I)V"⟩, 12) := ⟨⟨by decide +kernel, by decide +kernel⟩, List.mem_of_getElem? (i := 162) (by decide +kernel), List.mem_of_getElem? (i := 437) (by decide +kernel), List.mem_of_getElem? (i := 438) (by decide +kernel)⟩
theorem lw_p7 : lw_okq (⟨"RuledTables$Table", "markSides", "(LRuledTables$Rules;II)V"⟩, 12) := ⟨⟨by decide +kernel, by decide +kernel⟩, List.mem_of_getElem? (i := 162) (by decide +kernel), List.mem_of_getElem? (i := 449) (by decide +kernel), List.mem_of_getElem? (i := 450) (by decide +kernel)⟩
theorem lw_p8 : lw_okq (⟨"RuledTables$Table", "markSidesOf", "(LRuledTables$Rule;I)V"⟩, 12) := ⟨⟨by decide +kernel, by decide +kernel⟩, List.mem_of_getElem? (i := 162) (by decide +kernel), List.mem_of_getElem? (i := 453) (by decide +kernel), List.mem_of_getElem? (i := 454) (by decide +kernel)⟩
theorem lw_p9 : lw_okq (⟨"RuledTables$Table", "joinFields", "(LRuledTables$Groups;)V"⟩, 12) := ⟨⟨by decide +kernel, by decide +kernel⟩, List.mem_of_getElem? (i := 162) (by decide +kernel), List.mem_of_getElem? (i := 470) (by decide +kernel), List.mem_of_getElem? (i := 471) (by decide +kernel)⟩
theorem lw_p10 : lw_okq (⟨"RuledTables$Table", "numberCells", "(LRuledTables$Groups;)V"⟩, 12) := ⟨⟨by decide +kernel, by decide +kernel⟩, List.mem_of_getElem? (i := 162) (by decide +kernel), List.mem_of_getElem? (i := 480) (by decide +kernel), List.mem_of_getElem? (i := 481) (by decide +kernel)⟩
theorem lw_p11 : lw_okq (⟨"RuledTables$Table", "beginCell", "(II)V"⟩, 12) := ⟨⟨by decide +kernel, by decide +kernel⟩, List.mem_of_getElem? (i := 162) (by decide +kernel), List.mem_of_getElem? (i := 485) (by decide +kernel), List.mem_of_getElem? (i := 486) (by decide +kernel)⟩
theorem lw_p12 : lw_okq (⟨"RuledTables$Table", "widenCell", "(III)V"⟩, 12) := ⟨⟨by decide +kernel, by decide +kernel⟩, List.mem_of_getElem? (i := 162) (by decide +kernel), List.mem_of_getElem? (i := 489) (by decide +kernel), List.mem_of_getElem? (i := 490) (by decide +kernel)⟩
theorem lw_p13 : lw_okq (⟨"RuledTables$Table", "markBroken", "()V"⟩, 12) := ⟨⟨by decide +kernel, by decide +kernel⟩, List.mem_of_getElem? (i := 162) (by decide +kernel), List.mem_of_getElem? (i := 493) (by decide +kernel), List.mem_of_getElem? (i := 494) (by decide +kernel)⟩
theorem lw_p14 : lw_okq (⟨"RuledTables$Table", "markOpen", "()V"⟩, 12) := ⟨⟨by decide +kernel, by decide +kernel⟩, List.mem_of_getElem? (i := 162) (by decide +kernel), List.mem_of_getElem? (i := 497) (by decide +kernel), List.mem_of_getElem? (i := 498) (by decide +kernel)⟩
theorem lw_p15 : lw_okq (⟨"RuledTables$Table", "openUnless", "(ZI)V"⟩, 12) := ⟨⟨by decide +kernel, by decide +kernel⟩, List.mem_of_getElem? (i := 162) (by decide +kernel), List.mem_of_getElem? (i := 505) (by decide +kernel), List.mem_of_getElem? (i := 506) (by decide +kernel)⟩
def lw_privs_1 : List (MethodName × Nat) := [(⟨"RuledTables", "found", "()LRuledTables$Finding;"⟩, 5), (⟨"RuledTables$Rules", "gather", "(LRuledTables$Rows;LRuledTables$Groups;)V"⟩, 3), (⟨"RuledTables$Rules", "sort", "()V"⟩, 3), (⟨"RuledTables$Rules", "tellPieces", "(ILRuledTables$Groups;)V"⟩, 3), (⟨"RuledTables$Rules", "countPlaces", "(IILRuledTables$Groups;)I"⟩, 3), (⟨"RuledTables$Rules", "giveTable", "(IILRuledTables$Groups;)V"⟩, 3), (⟨"RuledTables$Table", "takeLines", "(LRuledTables$Rules;I)V"⟩, 12), (⟨"RuledTables$Table", "markSides", "(LRuledTables$Rules;II)V"⟩, 12), (⟨"RuledTables$Table", "markSidesOf", "(LRuledTables$Rule;I)V"⟩, 12), (⟨"RuledTables$Table", "joinFields", "(LRuledTables$Groups;)V"⟩, 12), (⟨"RuledTables$Table", "numberCells", "(LRuledTables$Groups;)V"⟩, 12), (⟨"RuledTables$Table", "beginCell", "(II)V"⟩, 12), (⟨"RuledTables$Table", "widenCell", "(III)V"⟩, 12), (⟨"RuledTables$Table", "markBroken", "()V"⟩, 12), (⟨"RuledTables$Table", "markOpen", "()V"⟩, 12), (⟨"RuledTables$Table", "openUnless", "(ZI)V"⟩, 12)]
theorem lw_r1 : ∀ q ∈ lw_privs_1, lw_okq q := List.forall_mem_cons.mpr ⟨lw_p0, List.forall_mem_cons.mpr ⟨lw_p1, List.forall_mem_cons.mpr ⟨lw_p2, List.forall_mem_cons.mpr ⟨lw_p3, List.forall_mem_cons.mpr ⟨lw_p4, List.forall_mem_cons.mpr ⟨lw_p5, List.forall_mem_cons.mpr ⟨lw_p6, List.forall_mem_cons.mpr ⟨lw_p7, List.forall_mem_cons.mpr ⟨lw_p8, List.forall_mem_cons.mpr ⟨lw_p9, List.forall_mem_cons.mpr ⟨lw_p10, List.forall_mem_cons.mpr ⟨lw_p11, List.forall_mem_cons.mpr ⟨lw_p12, List.forall_mem_cons.mpr ⟨lw_p13, List.forall_mem_cons.mpr ⟨lw_p14, List.forall_mem_cons.mpr ⟨lw_p15, fun _ h => absurd h List.not_mem_nil⟩⟩⟩⟩⟩⟩⟩⟩⟩⟩⟩⟩⟩⟩⟩⟩
theorem lw_p16 : lw_okq (⟨"RuledTables$Table", "countHeads", "()I"⟩, 12) := ⟨⟨by decide +kernel, by decide +kernel⟩, List.mem_of_getElem? (i := 162) (by decide +kernel), List.mem_of_getElem? (i := 513) (by decide +kernel), List.mem_of_getElem? (i := 514) (by decide +kernel)⟩
theorem lw_p17 : lw_okq (⟨"RuledTables$Table", "isOneColumnWide", "(I)Z"⟩, 12) := ⟨⟨by decide +kernel, by decide +kernel⟩, List.mem_of_getElem? (i := 162) (by decide +kernel), List.mem_of_getElem? (i := 517) (by decide +kernel), List.mem_of_getElem? (i := 518) (by decide +kernel)⟩
theorem lw_p18 : lw_okq (⟨"RuledTables$Placing", "place", "(ILRuledTables$Rows;[LRuledTables$Table;I)V"⟩, 5) := ⟨⟨by decide +kernel, by decide +kernel⟩, List.mem_of_getElem? (i := 232) (by decide +kernel), List.mem_of_getElem? (i := 525) (by decide +kernel), List.mem_of_getElem? (i := 526) (by decide +kernel)⟩
theorem lw_p19 : lw_okq (⟨"RuledTables$Placing", "putInOrder", "(ILRuledTables$Rows;)V"⟩, 5) := ⟨⟨by decide +kernel, by decide +kernel⟩, List.mem_of_getElem? (i := 232) (by decide +kernel), List.mem_of_getElem? (i := 536) (by decide +kernel), List.mem_of_getElem? (i := 537) (by decide +kernel)⟩
theorem lw_p20 : lw_okq (⟨"RuledTables$Table", "findMissedIn", "(IILRuledTables$Rows;LRuledTables$Placing;I)V"⟩, 12) := ⟨⟨by decide +kernel, by decide +kernel⟩, List.mem_of_getElem? (i := 162) (by decide +kernel), List.mem_of_getElem? (i := 547) (by decide +kernel), List.mem_of_getElem? (i := 548) (by decide +kernel)⟩
theorem lw_p21 : lw_okq (⟨"RuledTables$Placing", "isIn", "(III)Z"⟩, 5) := ⟨⟨by decide +kernel, by decide +kernel⟩, List.mem_of_getElem? (i := 232) (by decide +kernel), List.mem_of_getElem? (i := 555) (by decide +kernel), List.mem_of_getElem? (i := 556) (by decide +kernel)⟩
theorem lw_p22 : lw_okq (⟨"RuledTables$Table", "addMissed", "(III)V"⟩, 12) := ⟨⟨by decide +kernel, by decide +kernel⟩, List.mem_of_getElem? (i := 162) (by decide +kernel), List.mem_of_getElem? (i := 559) (by decide +kernel), List.mem_of_getElem? (i := 560) (by decide +kernel)⟩
theorem lw_p23 : lw_okq (⟨"RuledTables$Table", "countWhole", "()I"⟩, 12) := ⟨⟨by decide +kernel, by decide +kernel⟩, List.mem_of_getElem? (i := 162) (by decide +kernel), List.mem_of_getElem? (i := 604) (by decide +kernel), List.mem_of_getElem? (i := 605) (by decide +kernel)⟩
theorem lw_p24 : lw_okq (⟨"RuledTables$Table", "isFirstInColumn", "(II)Z"⟩, 12) := ⟨⟨by decide +kernel, by decide +kernel⟩, List.mem_of_getElem? (i := 162) (by decide +kernel), List.mem_of_getElem? (i := 658) (by decide +kernel), List.mem_of_getElem? (i := 659) (by decide +kernel)⟩
theorem lw_p25 : lw_okq (⟨"RuledTablesModel", "addPiece", "(IIII)V"⟩, 28) := ⟨⟨by decide +kernel, by decide +kernel⟩, List.mem_of_getElem? (i := 682) (by decide +kernel), List.mem_of_getElem? (i := 792) (by decide +kernel), List.mem_of_getElem? (i := 793) (by decide +kernel)⟩
theorem lw_p26 : lw_okq (⟨"RuledTablesModel", "findAll", "()V"⟩, 28) := ⟨⟨by decide +kernel, by decide +kernel⟩, List.mem_of_getElem? (i := 682) (by decide +kernel), List.mem_of_getElem? (i := 813) (by decide +kernel), List.mem_of_getElem? (i := 814) (by decide +kernel)⟩
theorem lw_p27 : lw_okq (⟨"RuledTablesModel", "findRules", "()V"⟩, 28) := ⟨⟨by decide +kernel, by decide +kernel⟩, List.mem_of_getElem? (i := 682) (by decide +kernel), List.mem_of_getElem? (i := 817) (by decide +kernel), List.mem_of_getElem? (i := 818) (by decide +kernel)⟩
theorem lw_p28 : lw_okq (⟨"RuledTablesModel", "begin", "(I)V"⟩, 28) := ⟨⟨by decide +kernel, by decide +kernel⟩, List.mem_of_getElem? (i := 682) (by decide +kernel), List.mem_of_getElem? (i := 821) (by decide +kernel), List.mem_of_getElem? (i := 822) (by decide +kernel)⟩
theorem lw_p29 : lw_okq (⟨"RuledTablesModel", "isNear", "(II)Z"⟩, 28) := ⟨⟨by decide +kernel, by decide +kernel⟩, List.mem_of_getElem? (i := 682) (by decide +kernel), List.mem_of_getElem? (i := 825) (by decide +kernel), List.mem_of_getElem? (i := 826) (by decide +kernel)⟩
theorem lw_p30 : lw_okq (⟨"RuledTablesModel", "pieceAt", "(II)I"⟩, 28) := ⟨⟨by decide +kernel, by decide +kernel⟩, List.mem_of_getElem? (i := 682) (by decide +kernel), List.mem_of_getElem? (i := 829) (by decide +kernel), List.mem_of_getElem? (i := 830) (by decide +kernel)⟩
theorem lw_p31 : lw_okq (⟨"RuledTablesModel", "join", "(III)V"⟩, 28) := ⟨⟨by decide +kernel, by decide +kernel⟩, List.mem_of_getElem? (i := 682) (by decide +kernel), List.mem_of_getElem? (i := 839) (by decide +kernel), List.mem_of_getElem? (i := 840) (by decide +kernel)⟩
def lw_privs_2 : List (MethodName × Nat) := [(⟨"RuledTables$Table", "countHeads", "()I"⟩, 12), (⟨"RuledTables$Table", "isOneColumnWide", "(I)Z"⟩, 12), (⟨"RuledTables$Placing", "place", "(ILRuledTables$Rows;[LRuledTables$Table;I)V"⟩, 5), (⟨"RuledTables$Placing", "putInOrder", "(ILRuledTables$Rows;)V"⟩, 5), (⟨"RuledTables$Table", "findMissedIn", "(IILRuledTables$Rows;LRuledTables$Placing;I)V"⟩, 12), (⟨"RuledTables$Placing", "isIn", "(III)Z"⟩, 5), (⟨"RuledTables$Table", "addMissed", "(III)V"⟩, 12), (⟨"RuledTables$Table", "countWhole", "()I"⟩, 12), (⟨"RuledTables$Table", "isFirstInColumn", "(II)Z"⟩, 12), (⟨"RuledTablesModel", "addPiece", "(IIII)V"⟩, 28), (⟨"RuledTablesModel", "findAll", "()V"⟩, 28), (⟨"RuledTablesModel", "findRules", "()V"⟩, 28), (⟨"RuledTablesModel", "begin", "(I)V"⟩, 28), (⟨"RuledTablesModel", "isNear", "(II)Z"⟩, 28), (⟨"RuledTablesModel", "pieceAt", "(II)I"⟩, 28), (⟨"RuledTablesModel", "join", "(III)V"⟩, 28)]
theorem lw_r2 : ∀ q ∈ lw_privs_2, lw_okq q := List.forall_mem_cons.mpr ⟨lw_p16, List.forall_mem_cons.mpr ⟨lw_p17, List.forall_mem_cons.mpr ⟨lw_p18, List.forall_mem_cons.mpr ⟨lw_p19, List.forall_mem_cons.mpr ⟨lw_p20, List.forall_mem_cons.mpr ⟨lw_p21, List.forall_mem_cons.mpr ⟨lw_p22, List.forall_mem_cons.mpr ⟨lw_p23, List.forall_mem_cons.mpr ⟨lw_p24, List.forall_mem_cons.mpr ⟨lw_p25, List.forall_mem_cons.mpr ⟨lw_p26, List.forall_mem_cons.mpr ⟨lw_p27, List.forall_mem_cons.mpr ⟨lw_p28, List.forall_mem_cons.mpr ⟨lw_p29, List.forall_mem_cons.mpr ⟨lw_p30, List.forall_mem_cons.mpr ⟨lw_p31, fun _ h => absurd h List.not_mem_nil⟩⟩⟩⟩⟩⟩⟩⟩⟩⟩⟩⟩⟩⟩⟩⟩
theorem lw_p32 : lw_okq (⟨"RuledTablesModel", "addRule", "(I)V"⟩, 28) := ⟨⟨by decide +kernel, by decide +kernel⟩, List.mem_of_getElem? (i := 682) (by decide +kernel), List.mem_of_getElem? (i := 843) (by decide +kernel), List.mem_of_getElem? (i := 844) (by decide +kernel)⟩
theorem lw_p33 : lw_okq (⟨"RuledTablesModel", "sortRules", "()V"⟩, 28) := ⟨⟨by decide +kernel, by decide +kernel⟩, List.mem_of_getElem? (i := 682) (by decide +kernel), List.mem_of_getElem? (i := 847) (by decide +kernel), List.mem_of_getElem? (i := 848) (by decide +kernel)⟩
theorem lw_p34 : lw_okq (⟨"RuledTablesModel", "isRuleBefore", "(II)Z"⟩, 28) := ⟨⟨by decide +kernel, by decide +kernel⟩, List.mem_of_getElem? (i := 682) (by decide +kernel), List.mem_of_getElem? (i := 851) (by decide +kernel), List.mem_of_getElem? (i := 852) (by decide +kernel)⟩
theorem lw_p35 : lw_okq (⟨"RuledTablesModel", "ruleAt", "(II)I"⟩, 28) := ⟨⟨by decide +kernel, by decide +kernel⟩, List.mem_of_getElem? (i := 682) (by decide +kernel), List.mem_of_getElem? (i := 855) (by decide +kernel), List.mem_of_getElem? (i := 856) (by decide +kernel)⟩
theorem lw_p36 : lw_okq (⟨"RuledTablesModel", "findTables", "()V"⟩, 28) := ⟨⟨by decide +kernel, by decide +kernel⟩, List.mem_of_getElem? (i := 682) (by decide +kernel), List.mem_of_getElem? (i := 859) (by decide +kernel), List.mem_of_getElem? (i := 860) (by decide +kernel)⟩
theorem lw_p37 : lw_okq (⟨"RuledTablesModel", "isCross", "(II)Z"⟩, 28) := ⟨⟨by decide +kernel, by decide +kernel⟩, List.mem_of_getElem? (i := 682) (by decide +kernel), List.mem_of_getElem? (i := 863) (by decide +kernel), List.mem_of_getElem? (i := 864) (by decide +kernel)⟩
theorem lw_p38 : lw_okq (⟨"RuledTablesModel", "lies", "(II)Z"⟩, 28) := ⟨⟨by decide +kernel, by decide +kernel⟩, List.mem_of_getElem? (i := 682) (by decide +kernel), List.mem_of_getElem? (i := 867) (by decide +kernel), List.mem_of_getElem? (i := 868) (by decide +kernel)⟩
theorem lw_p39 : lw_okq (⟨"RuledTablesModel", "countLines", "(II)I"⟩, 28) := ⟨⟨by decide +kernel, by decide +kernel⟩, List.mem_of_getElem? (i := 682) (by decide +kernel), List.mem_of_getElem? (i := 871) (by decide +kernel), List.mem_of_getElem? (i := 872) (by decide +kernel)⟩
theorem lw_p40 : lw_okq (⟨"RuledTablesModel", "layLines", "(II)V"⟩, 28) := ⟨⟨by decide +kernel, by decide +kernel⟩, List.mem_of_getElem? (i := 682) (by decide +kernel), List.mem_of_getElem? (i := 875) (by decide +kernel), List.mem_of_getElem? (i := 876) (by decide +kernel)⟩
theorem lw_p41 : lw_okq (⟨"RuledTablesModel", "findCells", "(I)V"⟩, 28) := ⟨⟨by decide +kernel, by decide +kernel⟩, List.mem_of_getElem? (i := 682) (by decide +kernel), List.mem_of_getElem? (i := 879) (by decide +kernel), List.mem_of_getElem? (i := 880) (by decide +kernel)⟩
theorem lw_p42 : lw_okq (⟨"RuledTablesModel", "columnsOf", "(I)I"⟩, 28) := ⟨⟨by decide +kernel, by decide +kernel⟩, List.mem_of_getElem? (i := 682) (by decide +kernel), List.mem_of_getElem? (i := 883) (by decide +kernel), List.mem_of_getElem? (i := 884) (by decide +kernel)⟩
theorem lw_p43 : lw_okq (⟨"RuledTablesModel", "rowsOf", "(I)I"⟩, 28) := ⟨⟨by decide +kernel, by decide +kernel⟩, List.mem_of_getElem? (i := 682) (by decide +kernel), List.mem_of_getElem? (i := 887) (by decide +kernel), List.mem_of_getElem? (i := 888) (by decide +kernel)⟩
theorem lw_p44 : lw_okq (⟨"RuledTablesModel", "isRuled", "(IIII)Z"⟩, 28) := ⟨⟨by decide +kernel, by decide +kernel⟩, List.mem_of_getElem? (i := 682) (by decide +kernel), List.mem_of_getElem? (i := 891) (by decide +kernel), List.mem_of_getElem? (i := 892) (by decide +kernel)⟩
theorem lw_p45 : lw_okq (⟨"RuledTablesModel", "lineAt", "(III)I"⟩, 28) := ⟨⟨by decide +kernel, by decide +kernel⟩, List.mem_of_getElem? (i := 682) (by decide +kernel), List.mem_of_getElem? (i := 895) (by decide +kernel), List.mem_of_getElem? (i := 896) (by decide +kernel)⟩
theorem lw_p46 : lw_okq (⟨"RuledTablesModel", "reaches", "(IIIII)Z"⟩, 28) := ⟨⟨by decide +kernel, by decide +kernel⟩, List.mem_of_getElem? (i := 682) (by decide +kernel), List.mem_of_getElem? (i := 899) (by decide +kernel), List.mem_of_getElem? (i := 900) (by decide +kernel)⟩
theorem lw_p47 : lw_okq (⟨"RuledTablesModel", "addField", "(III)V"⟩, 28) := ⟨⟨by decide +kernel, by decide +kernel⟩, List.mem_of_getElem? (i := 682) (by decide +kernel), List.mem_of_getElem? (i := 903) (by decide +kernel), List.mem_of_getElem? (i := 904) (by decide +kernel)⟩
def lw_privs_3 : List (MethodName × Nat) := [(⟨"RuledTablesModel", "addRule", "(I)V"⟩, 28), (⟨"RuledTablesModel", "sortRules", "()V"⟩, 28), (⟨"RuledTablesModel", "isRuleBefore", "(II)Z"⟩, 28), (⟨"RuledTablesModel", "ruleAt", "(II)I"⟩, 28), (⟨"RuledTablesModel", "findTables", "()V"⟩, 28), (⟨"RuledTablesModel", "isCross", "(II)Z"⟩, 28), (⟨"RuledTablesModel", "lies", "(II)Z"⟩, 28), (⟨"RuledTablesModel", "countLines", "(II)I"⟩, 28), (⟨"RuledTablesModel", "layLines", "(II)V"⟩, 28), (⟨"RuledTablesModel", "findCells", "(I)V"⟩, 28), (⟨"RuledTablesModel", "columnsOf", "(I)I"⟩, 28), (⟨"RuledTablesModel", "rowsOf", "(I)I"⟩, 28), (⟨"RuledTablesModel", "isRuled", "(IIII)Z"⟩, 28), (⟨"RuledTablesModel", "lineAt", "(III)I"⟩, 28), (⟨"RuledTablesModel", "reaches", "(IIIII)Z"⟩, 28), (⟨"RuledTablesModel", "addField", "(III)V"⟩, 28)]
theorem lw_r3 : ∀ q ∈ lw_privs_3, lw_okq q := List.forall_mem_cons.mpr ⟨lw_p32, List.forall_mem_cons.mpr ⟨lw_p33, List.forall_mem_cons.mpr ⟨lw_p34, List.forall_mem_cons.mpr ⟨lw_p35, List.forall_mem_cons.mpr ⟨lw_p36, List.forall_mem_cons.mpr ⟨lw_p37, List.forall_mem_cons.mpr ⟨lw_p38, List.forall_mem_cons.mpr ⟨lw_p39, List.forall_mem_cons.mpr ⟨lw_p40, List.forall_mem_cons.mpr ⟨lw_p41, List.forall_mem_cons.mpr ⟨lw_p42, List.forall_mem_cons.mpr ⟨lw_p43, List.forall_mem_cons.mpr ⟨lw_p44, List.forall_mem_cons.mpr ⟨lw_p45, List.forall_mem_cons.mpr ⟨lw_p46, List.forall_mem_cons.mpr ⟨lw_p47, fun _ h => absurd h List.not_mem_nil⟩⟩⟩⟩⟩⟩⟩⟩⟩⟩⟩⟩⟩⟩⟩⟩
theorem lw_p48 : lw_okq (⟨"RuledTablesModel", "isOpen", "(III)Z"⟩, 28) := ⟨⟨by decide +kernel, by decide +kernel⟩, List.mem_of_getElem? (i := 682) (by decide +kernel), List.mem_of_getElem? (i := 907) (by decide +kernel), List.mem_of_getElem? (i := 908) (by decide +kernel)⟩
theorem lw_p49 : lw_okq (⟨"RuledTablesModel", "cellAt", "(II)I"⟩, 28) := ⟨⟨by decide +kernel, by decide +kernel⟩, List.mem_of_getElem? (i := 682) (by decide +kernel), List.mem_of_getElem? (i := 911) (by decide +kernel), List.mem_of_getElem? (i := 912) (by decide +kernel)⟩
theorem lw_p50 : lw_okq (⟨"RuledTablesModel", "findWord", "(I)V"⟩, 28) := ⟨⟨by decide +kernel, by decide +kernel⟩, List.mem_of_getElem? (i := 682) (by decide +kernel), List.mem_of_getElem? (i := 915) (by decide +kernel), List.mem_of_getElem? (i := 916) (by decide +kernel)⟩
theorem lw_p51 : lw_okq (⟨"RuledTablesModel", "boxAt", "(II)I"⟩, 28) := ⟨⟨by decide +kernel, by decide +kernel⟩, List.mem_of_getElem? (i := 682) (by decide +kernel), List.mem_of_getElem? (i := 919) (by decide +kernel), List.mem_of_getElem? (i := 920) (by decide +kernel)⟩
theorem lw_p52 : lw_okq (⟨"RuledTablesModel", "between", "(III)I"⟩, 28) := ⟨⟨by decide +kernel, by decide +kernel⟩, List.mem_of_getElem? (i := 682) (by decide +kernel), List.mem_of_getElem? (i := 923) (by decide +kernel), List.mem_of_getElem? (i := 924) (by decide +kernel)⟩
theorem lw_p53 : lw_okq (⟨"RuledTablesModel", "isRule", "(I)Z"⟩, 28) := ⟨⟨by decide +kernel, by decide +kernel⟩, List.mem_of_getElem? (i := 682) (by decide +kernel), List.mem_of_getElem? (i := 935) (by decide +kernel), List.mem_of_getElem? (i := 936) (by decide +kernel)⟩
theorem lw_p54 : lw_okq (⟨"RuledTablesModel", "isTable", "(I)Z"⟩, 28) := ⟨⟨by decide +kernel, by decide +kernel⟩, List.mem_of_getElem? (i := 682) (by decide +kernel), List.mem_of_getElem? (i := 948) (by decide +kernel), List.mem_of_getElem? (i := 949) (by decide +kernel)⟩
theorem lw_p55 : lw_okq (⟨"RuledTablesModel", "findMissed", "(II)V"⟩, 28) := ⟨⟨by decide +kernel, by decide +kernel⟩, List.mem_of_getElem? (i := 682) (by decide +kernel), List.mem_of_getElem? (i := 952) (by decide +kernel), List.mem_of_getElem? (i := 953) (by decide +kernel)⟩
theorem lw_p56 : lw_okq (⟨"RuledTablesModel", "missBy", "(IIII)V"⟩, 28) := ⟨⟨by decide +kernel, by decide +kernel⟩, List.mem_of_getElem? (i := 682) (by decide +kernel), List.mem_of_getElem? (i := 956) (by decide +kernel), List.mem_of_getElem? (i := 957) (by decide +kernel)⟩
theorem lw_p57 : lw_okq (⟨"RuledTablesModel", "wordsBy", "(III)I"⟩, 28) := ⟨⟨by decide +kernel, by decide +kernel⟩, List.mem_of_getElem? (i := 682) (by decide +kernel), List.mem_of_getElem? (i := 960) (by decide +kernel), List.mem_of_getElem? (i := 961) (by decide +kernel)⟩
theorem lw_p58 : lw_okq (⟨"RuledTablesModel", "layComing", "(II)V"⟩, 28) := ⟨⟨by decide +kernel, by decide +kernel⟩, List.mem_of_getElem? (i := 682) (by decide +kernel), List.mem_of_getElem? (i := 968) (by decide +kernel), List.mem_of_getElem? (i := 969) (by decide +kernel)⟩
theorem lw_p59 : lw_okq (⟨"RuledTablesModel", "rulesOf", "(I)I"⟩, 28) := ⟨⟨by decide +kernel, by decide +kernel⟩, List.mem_of_getElem? (i := 682) (by decide +kernel), List.mem_of_getElem? (i := 976) (by decide +kernel), List.mem_of_getElem? (i := 977) (by decide +kernel)⟩
theorem lw_p60 : lw_okq (⟨"RuledTablesModel", "wordsOf", "(I)I"⟩, 28) := ⟨⟨by decide +kernel, by decide +kernel⟩, List.mem_of_getElem? (i := 682) (by decide +kernel), List.mem_of_getElem? (i := 980) (by decide +kernel), List.mem_of_getElem? (i := 981) (by decide +kernel)⟩
theorem lw_p61 : lw_okq (⟨"RuledTablesModel", "headsOf", "(I)I"⟩, 28) := ⟨⟨by decide +kernel, by decide +kernel⟩, List.mem_of_getElem? (i := 682) (by decide +kernel), List.mem_of_getElem? (i := 984) (by decide +kernel), List.mem_of_getElem? (i := 985) (by decide +kernel)⟩
theorem lw_p62 : lw_okq (⟨"RuledTablesModel", "isNarrow", "(II)Z"⟩, 28) := ⟨⟨by decide +kernel, by decide +kernel⟩, List.mem_of_getElem? (i := 682) (by decide +kernel), List.mem_of_getElem? (i := 988) (by decide +kernel), List.mem_of_getElem? (i := 989) (by decide +kernel)⟩
theorem lw_p63 : lw_okq (⟨"RuledTablesModel", "wholeOf", "(I)I"⟩, 28) := ⟨⟨by decide +kernel, by decide +kernel⟩, List.mem_of_getElem? (i := 682) (by decide +kernel), List.mem_of_getElem? (i := 992) (by decide +kernel), List.mem_of_getElem? (i := 993) (by decide +kernel)⟩
def lw_privs_4 : List (MethodName × Nat) := [(⟨"RuledTablesModel", "isOpen", "(III)Z"⟩, 28), (⟨"RuledTablesModel", "cellAt", "(II)I"⟩, 28), (⟨"RuledTablesModel", "findWord", "(I)V"⟩, 28), (⟨"RuledTablesModel", "boxAt", "(II)I"⟩, 28), (⟨"RuledTablesModel", "between", "(III)I"⟩, 28), (⟨"RuledTablesModel", "isRule", "(I)Z"⟩, 28), (⟨"RuledTablesModel", "isTable", "(I)Z"⟩, 28), (⟨"RuledTablesModel", "findMissed", "(II)V"⟩, 28), (⟨"RuledTablesModel", "missBy", "(IIII)V"⟩, 28), (⟨"RuledTablesModel", "wordsBy", "(III)I"⟩, 28), (⟨"RuledTablesModel", "layComing", "(II)V"⟩, 28), (⟨"RuledTablesModel", "rulesOf", "(I)I"⟩, 28), (⟨"RuledTablesModel", "wordsOf", "(I)I"⟩, 28), (⟨"RuledTablesModel", "headsOf", "(I)I"⟩, 28), (⟨"RuledTablesModel", "isNarrow", "(II)Z"⟩, 28), (⟨"RuledTablesModel", "wholeOf", "(I)I"⟩, 28)]
theorem lw_r4 : ∀ q ∈ lw_privs_4, lw_okq q := List.forall_mem_cons.mpr ⟨lw_p48, List.forall_mem_cons.mpr ⟨lw_p49, List.forall_mem_cons.mpr ⟨lw_p50, List.forall_mem_cons.mpr ⟨lw_p51, List.forall_mem_cons.mpr ⟨lw_p52, List.forall_mem_cons.mpr ⟨lw_p53, List.forall_mem_cons.mpr ⟨lw_p54, List.forall_mem_cons.mpr ⟨lw_p55, List.forall_mem_cons.mpr ⟨lw_p56, List.forall_mem_cons.mpr ⟨lw_p57, List.forall_mem_cons.mpr ⟨lw_p58, List.forall_mem_cons.mpr ⟨lw_p59, List.forall_mem_cons.mpr ⟨lw_p60, List.forall_mem_cons.mpr ⟨lw_p61, List.forall_mem_cons.mpr ⟨lw_p62, List.forall_mem_cons.mpr ⟨lw_p63, fun _ h => absurd h List.not_mem_nil⟩⟩⟩⟩⟩⟩⟩⟩⟩⟩⟩⟩⟩⟩⟩⟩
theorem lw_p64 : lw_okq (⟨"RuledTablesModel", "isSide", "(IIII)Z"⟩, 28) := ⟨⟨by decide +kernel, by decide +kernel⟩, List.mem_of_getElem? (i := 682) (by decide +kernel), List.mem_of_getElem? (i := 1004) (by decide +kernel), List.mem_of_getElem? (i := 1005) (by decide +kernel)⟩
theorem lw_p65 : lw_okq (⟨"RuledTablesModel", "isCell", "(II)Z"⟩, 28) := ⟨⟨by decide +kernel, by decide +kernel⟩, List.mem_of_getElem? (i := 682) (by decide +kernel), List.mem_of_getElem? (i := 1016) (by decide +kernel), List.mem_of_getElem? (i := 1017) (by decide +kernel)⟩
theorem lw_p66 : lw_okq (⟨"RuledTablesModel", "wordsIn", "(I)I"⟩, 28) := ⟨⟨by decide +kernel, by decide +kernel⟩, List.mem_of_getElem? (i := 682) (by decide +kernel), List.mem_of_getElem? (i := 1021) (by decide +kernel), List.mem_of_getElem? (i := 1022) (by decide +kernel)⟩
theorem lw_p67 : lw_okq (⟨"RuledTablesModel", "isWordOf", "(II)Z"⟩, 28) := ⟨⟨by decide +kernel, by decide +kernel⟩, List.mem_of_getElem? (i := 682) (by decide +kernel), List.mem_of_getElem? (i := 1029) (by decide +kernel), List.mem_of_getElem? (i := 1030) (by decide +kernel)⟩
theorem lw_p68 : lw_okq (⟨"RuledTablesModel", "isReadBefore", "(II)Z"⟩, 28) := ⟨⟨by decide +kernel, by decide +kernel⟩, List.mem_of_getElem? (i := 682) (by decide +kernel), List.mem_of_getElem? (i := 1033) (by decide +kernel), List.mem_of_getElem? (i := 1034) (by decide +kernel)⟩
theorem lw_p69 : lw_okq (⟨"RuledTablesModel", "passAll", "()V"⟩, 28) := ⟨⟨by decide +kernel, by decide +kernel⟩, List.mem_of_getElem? (i := 682) (by decide +kernel), List.mem_of_getElem? (i := 1046) (by decide +kernel), List.mem_of_getElem? (i := 1047) (by decide +kernel)⟩
theorem lw_p70 : lw_okq (⟨"RuledTablesModel", "pass", "(I)I"⟩, 28) := ⟨⟨by decide +kernel, by decide +kernel⟩, List.mem_of_getElem? (i := 682) (by decide +kernel), List.mem_of_getElem? (i := 1050) (by decide +kernel), List.mem_of_getElem? (i := 1051) (by decide +kernel)⟩
theorem lw_p71 : lw_okq (⟨"RuledTablesModel", "passRow", "([II)V"⟩, 28) := ⟨⟨by decide +kernel, by decide +kernel⟩, List.mem_of_getElem? (i := 682) (by decide +kernel), List.mem_of_getElem? (i := 1054) (by decide +kernel), List.mem_of_getElem? (i := 1055) (by decide +kernel)⟩
def lw_privs_5 : List (MethodName × Nat) := [(⟨"RuledTablesModel", "isSide", "(IIII)Z"⟩, 28), (⟨"RuledTablesModel", "isCell", "(II)Z"⟩, 28), (⟨"RuledTablesModel", "wordsIn", "(I)I"⟩, 28), (⟨"RuledTablesModel", "isWordOf", "(II)Z"⟩, 28), (⟨"RuledTablesModel", "isReadBefore", "(II)Z"⟩, 28), (⟨"RuledTablesModel", "passAll", "()V"⟩, 28), (⟨"RuledTablesModel", "pass", "(I)I"⟩, 28), (⟨"RuledTablesModel", "passRow", "([II)V"⟩, 28)]
theorem lw_r5 : ∀ q ∈ lw_privs_5, lw_okq q := List.forall_mem_cons.mpr ⟨lw_p64, List.forall_mem_cons.mpr ⟨lw_p65, List.forall_mem_cons.mpr ⟨lw_p66, List.forall_mem_cons.mpr ⟨lw_p67, List.forall_mem_cons.mpr ⟨lw_p68, List.forall_mem_cons.mpr ⟨lw_p69, List.forall_mem_cons.mpr ⟨lw_p70, List.forall_mem_cons.mpr ⟨lw_p71, fun _ h => absurd h List.not_mem_nil⟩⟩⟩⟩⟩⟩⟩⟩
def lw_privs : List (MethodName × Nat) := lw_privs_1 ++ (lw_privs_2 ++ (lw_privs_3 ++ (lw_privs_4 ++ (lw_privs_5))))
def lw_tbl : List Cond := k2_sels lw_privs ++ tables_1
theorem lw_privs_ok : ∀ q ∈ lw_privs, lw_okq q := by
  show ∀ q ∈ lw_privs_1 ++ (lw_privs_2 ++ (lw_privs_3 ++ (lw_privs_4 ++ (lw_privs_5)))), lw_okq q
  exact List.forall_mem_append.mpr ⟨lw_r1, List.forall_mem_append.mpr ⟨lw_r2, List.forall_mem_append.mpr ⟨lw_r3, List.forall_mem_append.mpr ⟨lw_r4, lw_r5⟩⟩⟩⟩
end
section
def RX0 : String := "RuledTables$Finding"
def TX0 : u_T := fun k => match k with
  | 0 => ("RuledTables$Finding", "groups", "LRuledTables$Groups;", true)
  | 1 => ("RuledTables$Finding", "rules", "LRuledTables$Rules;", true)
  | 2 => ("RuledTables$Finding", "tables", "[LRuledTables$Table;", true)
  | 3 => ("RuledTables$Finding", "tableCount", "I", false)
  | _ => ("RuledTables$Finding", "placing", "LRuledTables$Placing;", true)
def tyX0 : Nat → FieldType := fun k => match k with
  | 0 => .object "RuledTables$Groups"
  | 1 => .object "RuledTables$Rules"
  | 2 => .array (.object "RuledTables$Table")
  | 3 => .int
  | _ => .object "RuledTables$Placing"
theorem nmX0 : ∀ a, a < 5 → ∀ b, b < 5 → a ≠ b → (TX0 a).2.1 ≠ (TX0 b).2.1 := by decide +kernel
theorem tyX0_ok : ∀ k, k < 5 → parseFieldDescriptor (TX0 k).2.2.1 = some (tyX0 k) := by decide +kernel
abbrev cX0_init : ByteArray := prog_2_method_1_code
def yX0_init : MethodName := ⟨RX0, "<init>", "()V"⟩
abbrev cX0_has : ByteArray := prog_2_method_2_code
def yX0_has : MethodName := ⟨RX0, "has", "(I)Z"⟩
abbrev cX0_find : ByteArray := prog_2_method_3_code
def yX0_find : MethodName := ⟨RX0, "find", "(LRuledTables$Page;)V"⟩
def RX1 : String := "RuledTables$Groups"
def TX1 : u_T := fun k => match k with
  | _ => ("RuledTables$Groups", "leads", "[I", true)
def tyX1 : Nat → FieldType := fun k => match k with
  | _ => .array .int
theorem nmX1 : ∀ a, a < 1 → ∀ b, b < 1 → a ≠ b → (TX1 a).2.1 ≠ (TX1 b).2.1 := by decide +kernel
theorem tyX1_ok : ∀ k, k < 1 → parseFieldDescriptor (TX1 k).2.2.1 = some (tyX1 k) := by decide +kernel
abbrev cX1_init : ByteArray := prog_3_method_1_code
def yX1_init : MethodName := ⟨RX1, "<init>", "(I)V"⟩
abbrev cX1_part : ByteArray := prog_3_method_2_code
def yX1_part : MethodName := ⟨RX1, "part", "(I)V"⟩
abbrev cX1_firstOf : ByteArray := prog_3_method_3_code
def yX1_firstOf : MethodName := ⟨RX1, "firstOf", "(I)I"⟩
abbrev cX1_join : ByteArray := prog_3_method_4_code
def yX1_join : MethodName := ⟨RX1, "join", "(II)V"⟩
def RX2 : String := "RuledTables$Lines"
def TX2 : u_T := fun k => match k with
  | 0 => ("RuledTables$Lines", "places", "[[I", true)
  | _ => ("RuledTables$Lines", "counts", "[I", true)
def tyX2 : Nat → FieldType := fun k => match k with
  | 0 => .array (.array .int)
  | _ => .array .int
theorem nmX2 : ∀ a, a < 2 → ∀ b, b < 2 → a ≠ b → (TX2 a).2.1 ≠ (TX2 b).2.1 := by decide +kernel
theorem tyX2_ok : ∀ k, k < 2 → parseFieldDescriptor (TX2 k).2.2.1 = some (tyX2 k) := by decide +kernel
abbrev cX2_init : ByteArray := prog_4_method_1_code
def yX2_init : MethodName := ⟨RX2, "<init>", "(I)V"⟩
abbrev cX2_clear : ByteArray := prog_4_method_2_code
def yX2_clear : MethodName := ⟨RX2, "clear", "()V"⟩
abbrev cX2_add : ByteArray := prog_4_method_3_code
def yX2_add : MethodName := ⟨RX2, "add", "(II)V"⟩
abbrev cX2_placeOf : ByteArray := prog_4_method_4_code
def yX2_placeOf : MethodName := ⟨RX2, "placeOf", "(II)I"⟩
abbrev cX2_lineAt : ByteArray := prog_4_method_5_code
def yX2_lineAt : MethodName := ⟨RX2, "lineAt", "(II)I"⟩
abbrev cX2_lineBefore : ByteArray := prog_4_method_6_code
def yX2_lineBefore : MethodName := ⟨RX2, "lineBefore", "(II)I"⟩
def RX3 : String := "RuledTables$Page"
def TX3 : u_T := fun k => match k with
  | 0 => ("RuledTables$Page", "pieces", "LRuledTables$Rows;", true)
  | 1 => ("RuledTables$Page", "words", "LRuledTables$Rows;", true)
  | _ => ("RuledTables$Page", "settings", "[I", true)
def tyX3 : Nat → FieldType := fun k => match k with
  | 0 => .object "RuledTables$Rows"
  | 1 => .object "RuledTables$Rows"
  | _ => .array .int
theorem nmX3 : ∀ a, a < 3 → ∀ b, b < 3 → a ≠ b → (TX3 a).2.1 ≠ (TX3 b).2.1 := by decide +kernel
theorem tyX3_ok : ∀ k, k < 3 → parseFieldDescriptor (TX3 k).2.2.1 = some (tyX3 k) := by decide +kernel
abbrev cX3_init : ByteArray := prog_5_method_1_code
def yX3_init : MethodName := ⟨RX3, "<init>", "()V"⟩
abbrev cX3_take : ByteArray := prog_5_method_2_code
def yX3_take : MethodName := ⟨RX3, "take", "(LRuledTables$Page;)V"⟩
def RX4 : String := "RuledTables$Placing"
def TX4 : u_T := fun k => match k with
  | 0 => ("RuledTables$Placing", "tables", "[I", true)
  | 1 => ("RuledTables$Placing", "cells", "[I", true)
  | 2 => ("RuledTables$Placing", "order", "[I", true)
  | 3 => ("RuledTables$Placing", "count", "I", false)
  | _ => ("RuledTables$Placing", "loose", "I", false)
def tyX4 : Nat → FieldType := fun k => match k with
  | 0 => .array .int
  | 1 => .array .int
  | 2 => .array .int
  | 3 => .int
  | _ => .int
theorem nmX4 : ∀ a, a < 5 → ∀ b, b < 5 → a ≠ b → (TX4 a).2.1 ≠ (TX4 b).2.1 := by decide +kernel
theorem tyX4_ok : ∀ k, k < 5 → parseFieldDescriptor (TX4 k).2.2.1 = some (tyX4 k) := by decide +kernel
abbrev cX4_init : ByteArray := prog_6_method_1_code
def yX4_init : MethodName := ⟨RX4, "<init>", "()V"⟩
abbrev cX4_find : ByteArray := prog_6_method_2_code
def yX4_find : MethodName := ⟨RX4, "find", "(LRuledTables$Rows;[LRuledTables$Table;I)V"⟩
abbrev cX4_place : ByteArray := prog_6_method_3_code
def yX4_place : MethodName := ⟨RX4, "place", "(ILRuledTables$Rows;[LRuledTables$Table;I)V"⟩
abbrev cX4_putInOrder : ByteArray := prog_6_method_4_code
def yX4_putInOrder : MethodName := ⟨RX4, "putInOrder", "(ILRuledTables$Rows;)V"⟩
abbrev cX4_isReadBefore : ByteArray := prog_6_method_5_code
def yX4_isReadBefore : MethodName := ⟨RX4, "isReadBefore", "(IILRuledTables$Rows;)Z"⟩
abbrev cX4_isIn : ByteArray := prog_6_method_6_code
def yX4_isIn : MethodName := ⟨RX4, "isIn", "(III)Z"⟩
abbrev cX4_wordRead : ByteArray := prog_6_method_7_code
def yX4_wordRead : MethodName := ⟨RX4, "wordRead", "(III)I"⟩
abbrev cX4_keepClear : ByteArray := prog_6_method_8_code
def yX4_keepClear : MethodName := ⟨RX4, "keepClear", "(LRuledTables$Rows;IIII)Z"⟩
def RX5 : String := "RuledTables$Rows"
def TX5 : u_T := fun k => match k with
  | 0 => ("RuledTables$Rows", "numbers", "[I", true)
  | 1 => ("RuledTables$Rows", "most", "I", true)
  | _ => ("RuledTables$Rows", "count", "I", false)
def tyX5 : Nat → FieldType := fun k => match k with
  | 0 => .array .int
  | 1 => .int
  | _ => .int
theorem nmX5 : ∀ a, a < 3 → ∀ b, b < 3 → a ≠ b → (TX5 a).2.1 ≠ (TX5 b).2.1 := by decide +kernel
theorem tyX5_ok : ∀ k, k < 3 → parseFieldDescriptor (TX5 k).2.2.1 = some (tyX5 k) := by decide +kernel
abbrev cX5_init : ByteArray := prog_7_method_1_code
def yX5_init : MethodName := ⟨RX5, "<init>", "(I)V"⟩
abbrev cX5_has : ByteArray := prog_7_method_2_code
def yX5_has : MethodName := ⟨RX5, "has", "(I)Z"⟩
abbrev cX5_isFull : ByteArray := prog_7_method_3_code
def yX5_isFull : MethodName := ⟨RX5, "isFull", "()Z"⟩
abbrev cX5_number : ByteArray := prog_7_method_4_code
def yX5_number : MethodName := ⟨RX5, "number", "(II)I"⟩
abbrev cX5_add : ByteArray := prog_7_method_5_code
def yX5_add : MethodName := ⟨RX5, "add", "(IIII)V"⟩
abbrev cX5_remove : ByteArray := prog_7_method_6_code
def yX5_remove : MethodName := ⟨RX5, "remove", "(I)V"⟩
abbrev cX5_take : ByteArray := prog_7_method_7_code
def yX5_take : MethodName := ⟨RX5, "take", "(LRuledTables$Rows;)V"⟩
def RX6 : String := "RuledTables$Rule"
def TX6 : u_T := fun k => match k with
  | 0 => ("RuledTables$Rule", "way", "I", false)
  | 1 => ("RuledTables$Rule", "at", "I", false)
  | 2 => ("RuledTables$Rule", "from", "I", false)
  | 3 => ("RuledTables$Rule", "to", "I", false)
  | 4 => ("RuledTables$Rule", "longest", "I", false)
  | 5 => ("RuledTables$Rule", "pieces", "I", false)
  | 6 => ("RuledTables$Rule", "first", "I", false)
  | 7 => ("RuledTables$Rule", "crossings", "I", false)
  | _ => ("RuledTables$Rule", "table", "I", false)
def tyX6 : Nat → FieldType := fun k => match k with
  | 0 => .int
  | 1 => .int
  | 2 => .int
  | 3 => .int
  | 4 => .int
  | 5 => .int
  | 6 => .int
  | 7 => .int
  | _ => .int
theorem nmX6 : ∀ a, a < 9 → ∀ b, b < 9 → a ≠ b → (TX6 a).2.1 ≠ (TX6 b).2.1 := by decide +kernel
theorem tyX6_ok : ∀ k, k < 9 → parseFieldDescriptor (TX6 k).2.2.1 = some (tyX6 k) := by decide +kernel
abbrev cX6_init : ByteArray := prog_8_method_1_code
def yX6_init : MethodName := ⟨RX6, "<init>", "()V"⟩
abbrev cX6_begin : ByteArray := prog_8_method_2_code
def yX6_begin : MethodName := ⟨RX6, "begin", "(LRuledTables$Rows;I)V"⟩
abbrev cX6_takeIn : ByteArray := prog_8_method_3_code
def yX6_takeIn : MethodName := ⟨RX6, "takeIn", "(LRuledTables$Rows;I)V"⟩
abbrev cX6_comesBefore : ByteArray := prog_8_method_4_code
def yX6_comesBefore : MethodName := ⟨RX6, "comesBefore", "(LRuledTables$Rule;)Z"⟩
abbrev cX6_covers : ByteArray := prog_8_method_5_code
def yX6_covers : MethodName := ⟨RX6, "covers", "(III)Z"⟩
abbrev cX6_crosses : ByteArray := prog_8_method_6_code
def yX6_crosses : MethodName := ⟨RX6, "crosses", "(LRuledTables$Rule;I)Z"⟩
abbrev cX6_tell : ByteArray := prog_8_method_7_code
def yX6_tell : MethodName := ⟨RX6, "tell", "(I)I"⟩
def RX7 : String := "RuledTables$Rules"
def TX7 : u_T := fun k => match k with
  | 0 => ("RuledTables$Rules", "all", "[LRuledTables$Rule;", true)
  | 1 => ("RuledTables$Rules", "ofPiece", "[I", true)
  | _ => ("RuledTables$Rules", "count", "I", false)
def tyX7 : Nat → FieldType := fun k => match k with
  | 0 => .array (.object "RuledTables$Rule")
  | 1 => .array .int
  | _ => .int
theorem nmX7 : ∀ a, a < 3 → ∀ b, b < 3 → a ≠ b → (TX7 a).2.1 ≠ (TX7 b).2.1 := by decide +kernel
theorem tyX7_ok : ∀ k, k < 3 → parseFieldDescriptor (TX7 k).2.2.1 = some (tyX7 k) := by decide +kernel
abbrev cX7_init : ByteArray := prog_9_method_1_code
def yX7_init : MethodName := ⟨RX7, "<init>", "()V"⟩
abbrev cX7_has : ByteArray := prog_9_method_2_code
def yX7_has : MethodName := ⟨RX7, "has", "(I)Z"⟩
abbrev cX7_find : ByteArray := prog_9_method_3_code
def yX7_find : MethodName := ⟨RX7, "find", "(LRuledTables$Page;LRuledTables$Groups;)V"⟩
abbrev cX7_joinNear : ByteArray := prog_9_method_4_code
def yX7_joinNear : MethodName := ⟨RX7, "joinNear", "(LRuledTables$Page;LRuledTables$Groups;)V"⟩
abbrev cX7_areNear : ByteArray := prog_9_method_5_code
def yX7_areNear : MethodName := ⟨RX7, "areNear", "(LRuledTables$Rows;II[I)Z"⟩
abbrev cX7_gather : ByteArray := prog_9_method_6_code
def yX7_gather : MethodName := ⟨RX7, "gather", "(LRuledTables$Rows;LRuledTables$Groups;)V"⟩
abbrev cX7_sort : ByteArray := prog_9_method_7_code
def yX7_sort : MethodName := ⟨RX7, "sort", "()V"⟩
abbrev cX7_tellPieces : ByteArray := prog_9_method_8_code
def yX7_tellPieces : MethodName := ⟨RX7, "tellPieces", "(ILRuledTables$Groups;)V"⟩
abbrev cX7_joinCrossing : ByteArray := prog_9_method_9_code
def yX7_joinCrossing : MethodName := ⟨RX7, "joinCrossing", "(ILRuledTables$Groups;)V"⟩
abbrev cX7_numberTables : ByteArray := prog_9_method_10_code
def yX7_numberTables : MethodName := ⟨RX7, "numberTables", "(LRuledTables$Groups;)I"⟩
abbrev cX7_countPlaces : ByteArray := prog_9_method_11_code
def yX7_countPlaces : MethodName := ⟨RX7, "countPlaces", "(IILRuledTables$Groups;)I"⟩
abbrev cX7_giveTable : ByteArray := prog_9_method_12_code
def yX7_giveTable : MethodName := ⟨RX7, "giveTable", "(IILRuledTables$Groups;)V"⟩
def RX8 : String := "RuledTables$Table"
def TX8 : u_T := fun k => match k with
  | 0 => ("RuledTables$Table", "lines", "LRuledTables$Lines;", true)
  | 1 => ("RuledTables$Table", "rules", "I", false)
  | 2 => ("RuledTables$Table", "rows", "I", false)
  | 3 => ("RuledTables$Table", "columns", "I", false)
  | 4 => ("RuledTables$Table", "sides", "[Z", true)
  | 5 => ("RuledTables$Table", "fieldCells", "[I", true)
  | 6 => ("RuledTables$Table", "cells", "[[I", true)
  | 7 => ("RuledTables$Table", "cellCount", "I", false)
  | 8 => ("RuledTables$Table", "missedLines", "[[I", true)
  | 9 => ("RuledTables$Table", "missedCount", "I", false)
  | 10 => ("RuledTables$Table", "words", "I", false)
  | _ => ("RuledTables$Table", "heads", "I", false)
def tyX8 : Nat → FieldType := fun k => match k with
  | 0 => .object "RuledTables$Lines"
  | 1 => .int
  | 2 => .int
  | 3 => .int
  | 4 => .array .boolean
  | 5 => .array .int
  | 6 => .array (.array .int)
  | 7 => .int
  | 8 => .array (.array .int)
  | 9 => .int
  | 10 => .int
  | _ => .int
theorem nmX8 : ∀ a, a < 12 → ∀ b, b < 12 → a ≠ b → (TX8 a).2.1 ≠ (TX8 b).2.1 := by decide +kernel
theorem tyX8_ok : ∀ k, k < 12 → parseFieldDescriptor (TX8 k).2.2.1 = some (tyX8 k) := by decide +kernel
abbrev cX8_init : ByteArray := prog_10_method_1_code
def yX8_init : MethodName := ⟨RX8, "<init>", "(I)V"⟩
abbrev cX8_find : ByteArray := prog_10_method_2_code
def yX8_find : MethodName := ⟨RX8, "find", "(LRuledTables$Rules;IILRuledTables$Groups;)V"⟩
abbrev cX8_takeLines : ByteArray := prog_10_method_3_code
def yX8_takeLines : MethodName := ⟨RX8, "takeLines", "(LRuledTables$Rules;I)V"⟩
abbrev cX8_markSides : ByteArray := prog_10_method_4_code
def yX8_markSides : MethodName := ⟨RX8, "markSides", "(LRuledTables$Rules;II)V"⟩
abbrev cX8_markSidesOf : ByteArray := prog_10_method_5_code
def yX8_markSidesOf : MethodName := ⟨RX8, "markSidesOf", "(LRuledTables$Rule;I)V"⟩
abbrev cX8_sideOf : ByteArray := prog_10_method_6_code
def yX8_sideOf : MethodName := ⟨RX8, "sideOf", "(III)I"⟩
abbrev cX8_hasRuled : ByteArray := prog_10_method_7_code
def yX8_hasRuled : MethodName := ⟨RX8, "hasRuled", "(III)Z"⟩
abbrev cX8_joinFields : ByteArray := prog_10_method_8_code
def yX8_joinFields : MethodName := ⟨RX8, "joinFields", "(LRuledTables$Groups;)V"⟩
abbrev cX8_numberCells : ByteArray := prog_10_method_9_code
def yX8_numberCells : MethodName := ⟨RX8, "numberCells", "(LRuledTables$Groups;)V"⟩
abbrev cX8_beginCell : ByteArray := prog_10_method_10_code
def yX8_beginCell : MethodName := ⟨RX8, "beginCell", "(II)V"⟩
abbrev cX8_widenCell : ByteArray := prog_10_method_11_code
def yX8_widenCell : MethodName := ⟨RX8, "widenCell", "(III)V"⟩
abbrev cX8_markBroken : ByteArray := prog_10_method_12_code
def yX8_markBroken : MethodName := ⟨RX8, "markBroken", "()V"⟩
abbrev cX8_markOpen : ByteArray := prog_10_method_13_code
def yX8_markOpen : MethodName := ⟨RX8, "markOpen", "()V"⟩
abbrev cX8_openUnless : ByteArray := prog_10_method_14_code
def yX8_openUnless : MethodName := ⟨RX8, "openUnless", "(ZI)V"⟩
abbrev cX8_hasCell : ByteArray := prog_10_method_15_code
def yX8_hasCell : MethodName := ⟨RX8, "hasCell", "(I)Z"⟩
abbrev cX8_cellOf : ByteArray := prog_10_method_16_code
def yX8_cellOf : MethodName := ⟨RX8, "cellOf", "(II)I"⟩
abbrev cX8_countHeads : ByteArray := prog_10_method_17_code
def yX8_countHeads : MethodName := ⟨RX8, "countHeads", "()I"⟩
abbrev cX8_isOneColumnWide : ByteArray := prog_10_method_18_code
def yX8_isOneColumnWide : MethodName := ⟨RX8, "isOneColumnWide", "(I)Z"⟩
abbrev cX8_headingOf : ByteArray := prog_10_method_19_code
def yX8_headingOf : MethodName := ⟨RX8, "headingOf", "(II)I"⟩
abbrev cX8_isFirstInColumn : ByteArray := prog_10_method_20_code
def yX8_isFirstInColumn : MethodName := ⟨RX8, "isFirstInColumn", "(II)Z"⟩
abbrev cX8_findMissed : ByteArray := prog_10_method_21_code
def yX8_findMissed : MethodName := ⟨RX8, "findMissed", "(LRuledTables$Rows;LRuledTables$Placing;I)V"⟩
abbrev cX8_findMissedIn : ByteArray := prog_10_method_22_code
def yX8_findMissedIn : MethodName := ⟨RX8, "findMissedIn", "(IILRuledTables$Rows;LRuledTables$Placing;I)V"⟩
abbrev cX8_addMissed : ByteArray := prog_10_method_23_code
def yX8_addMissed : MethodName := ⟨RX8, "addMissed", "(III)V"⟩
abbrev cX8_drawMissed : ByteArray := prog_10_method_24_code
def yX8_drawMissed : MethodName := ⟨RX8, "drawMissed", "(ILRuledTables$Rows;)V"⟩
abbrev cX8_countWhole : ByteArray := prog_10_method_25_code
def yX8_countWhole : MethodName := ⟨RX8, "countWhole", "()I"⟩
abbrev cX8_tell : ByteArray := prog_10_method_26_code
def yX8_tell : MethodName := ⟨RX8, "tell", "(I)I"⟩
def RX9 : String := "RuledTables"
def TX9 : u_T := fun k => match k with
  | 0 => ("RuledTables", "page", "LRuledTables$Page;", true)
  | 1 => ("RuledTables", "images", "[LRuledTables$Page;", true)
  | 2 => ("RuledTables", "kept", "[Z", true)
  | 3 => ("RuledTables", "finding", "LRuledTables$Finding;", true)
  | _ => ("RuledTables", "stale", "Z", false)
def tyX9 : Nat → FieldType := fun k => match k with
  | 0 => .object "RuledTables$Page"
  | 1 => .array (.object "RuledTables$Page")
  | 2 => .array .boolean
  | 3 => .object "RuledTables$Finding"
  | _ => .boolean
theorem nmX9 : ∀ a, a < 5 → ∀ b, b < 5 → a ≠ b → (TX9 a).2.1 ≠ (TX9 b).2.1 := by decide +kernel
theorem tyX9_ok : ∀ k, k < 5 → parseFieldDescriptor (TX9 k).2.2.1 = some (tyX9 k) := by decide +kernel
abbrev cX9_init : ByteArray := prog_1_method_1_code
def yX9_init : MethodName := ⟨RX9, "<init>", "()V"⟩
abbrev cX9_set : ByteArray := prog_1_method_2_code
def yX9_set : MethodName := ⟨RX9, "set", "(II)I"⟩
abbrev cX9_draw : ByteArray := prog_1_method_3_code
def yX9_draw : MethodName := ⟨RX9, "draw", "(IIII)I"⟩
abbrev cX9_erase : ByteArray := prog_1_method_4_code
def yX9_erase : MethodName := ⟨RX9, "erase", "(I)I"⟩
abbrev cX9_piece : ByteArray := prog_1_method_5_code
def yX9_piece : MethodName := ⟨RX9, "piece", "(II)I"⟩
abbrev cX9_write : ByteArray := prog_1_method_6_code
def yX9_write : MethodName := ⟨RX9, "write", "(IIII)I"⟩
abbrev cX9_strike : ByteArray := prog_1_method_7_code
def yX9_strike : MethodName := ⟨RX9, "strike", "(I)I"⟩
abbrev cX9_word : ByteArray := prog_1_method_8_code
def yX9_word : MethodName := ⟨RX9, "word", "(II)I"⟩
abbrev cX9_rule : ByteArray := prog_1_method_9_code
def yX9_rule : MethodName := ⟨RX9, "rule", "(II)I"⟩
abbrev cX9_cross : ByteArray := prog_1_method_10_code
def yX9_cross : MethodName := ⟨RX9, "cross", "(II)I"⟩
abbrev cX9_table : ByteArray := prog_1_method_11_code
def yX9_table : MethodName := ⟨RX9, "table", "(II)I"⟩
abbrev cX9_edge : ByteArray := prog_1_method_12_code
def yX9_edge : MethodName := ⟨RX9, "edge", "(III)I"⟩
abbrev cX9_ruled : ByteArray := prog_1_method_13_code
def yX9_ruled : MethodName := ⟨RX9, "ruled", "(IIII)I"⟩
abbrev cX9_at : ByteArray := prog_1_method_14_code
def yX9_at : MethodName := ⟨RX9, "at", "(III)I"⟩
abbrev cX9_cell : ByteArray := prog_1_method_15_code
def yX9_cell : MethodName := ⟨RX9, "cell", "(III)I"⟩
abbrev cX9_read : ByteArray := prog_1_method_16_code
def yX9_read : MethodName := ⟨RX9, "read", "(III)I"⟩
abbrev cX9_missed : ByteArray := prog_1_method_17_code
def yX9_missed : MethodName := ⟨RX9, "missed", "(III)I"⟩
abbrev cX9_mend : ByteArray := prog_1_method_18_code
def yX9_mend : MethodName := ⟨RX9, "mend", "(I)I"⟩
abbrev cX9_heading : ByteArray := prog_1_method_19_code
def yX9_heading : MethodName := ⟨RX9, "heading", "(III)I"⟩
abbrev cX9_image : ByteArray := prog_1_method_20_code
def yX9_image : MethodName := ⟨RX9, "image", "(I)I"⟩
abbrev cX9_restore : ByteArray := prog_1_method_21_code
def yX9_restore : MethodName := ⟨RX9, "restore", "(I)I"⟩
abbrev cX9_told : ByteArray := prog_1_method_22_code
def yX9_told : MethodName := ⟨RX9, "told", "(I)I"⟩
abbrev cX9_found : ByteArray := prog_1_method_23_code
def yX9_found : MethodName := ⟨RX9, "found", "()LRuledTables$Finding;"⟩
abbrev cX9_isWay : ByteArray := prog_1_method_24_code
def yX9_isWay : MethodName := ⟨RX9, "isWay", "(I)Z"⟩
abbrev cX9_isPlace : ByteArray := prog_1_method_25_code
def yX9_isPlace : MethodName := ⟨RX9, "isPlace", "(I)Z"⟩
abbrev cX9_isStretch : ByteArray := prog_1_method_26_code
def yX9_isStretch : MethodName := ⟨RX9, "isStretch", "(II)Z"⟩
def RX10 : String := "RuledTablesModel"
def TX10 : u_T := fun k => match k with
  | 0 => ("RuledTablesModel", "drawn", "[I", true)
  | 1 => ("RuledTablesModel", "drawnMany", "I", false)
  | 2 => ("RuledTablesModel", "boxes", "[I", true)
  | 3 => ("RuledTablesModel", "boxMany", "I", false)
  | 4 => ("RuledTablesModel", "how", "[I", true)
  | 5 => ("RuledTablesModel", "isFound", "Z", false)
  | 6 => ("RuledTablesModel", "label", "[I", true)
  | 7 => ("RuledTablesModel", "rules", "[I", true)
  | 8 => ("RuledTablesModel", "ruleMany", "I", false)
  | 9 => ("RuledTablesModel", "ruleOf", "[I", true)
  | 10 => ("RuledTablesModel", "tableMany", "I", false)
  | 11 => ("RuledTablesModel", "lines", "[I", true)
  | 12 => ("RuledTablesModel", "lineMany", "[I", true)
  | 13 => ("RuledTablesModel", "fieldFrom", "[I", true)
  | 14 => ("RuledTablesModel", "cellFrom", "[I", true)
  | 15 => ("RuledTablesModel", "cellOf", "[I", true)
  | 16 => ("RuledTablesModel", "cells", "[I", true)
  | 17 => ("RuledTablesModel", "wordTable", "[I", true)
  | 18 => ("RuledTablesModel", "wordCell", "[I", true)
  | 19 => ("RuledTablesModel", "missedMany", "I", false)
  | 20 => ("RuledTablesModel", "missedCell", "I", false)
  | 21 => ("RuledTablesModel", "missedWay", "I", false)
  | 22 => ("RuledTablesModel", "missedLine", "I", false)
  | 23 => ("RuledTablesModel", "coming", "[I", true)
  | 24 => ("RuledTablesModel", "kept", "[I", true)
  | 25 => ("RuledTablesModel", "isKept", "[Z", true)
  | 26 => ("RuledTablesModel", "keptAt", "I", false)
  | _ => ("RuledTablesModel", "isWriting", "Z", false)
def tyX10 : Nat → FieldType := fun k => match k with
  | 0 => .array .int
  | 1 => .int
  | 2 => .array .int
  | 3 => .int
  | 4 => .array .int
  | 5 => .boolean
  | 6 => .array .int
  | 7 => .array .int
  | 8 => .int
  | 9 => .array .int
  | 10 => .int
  | 11 => .array .int
  | 12 => .array .int
  | 13 => .array .int
  | 14 => .array .int
  | 15 => .array .int
  | 16 => .array .int
  | 17 => .array .int
  | 18 => .array .int
  | 19 => .int
  | 20 => .int
  | 21 => .int
  | 22 => .int
  | 23 => .array .int
  | 24 => .array .int
  | 25 => .array .boolean
  | 26 => .int
  | _ => .boolean
theorem nmX10 : ∀ a, a < 28 → ∀ b, b < 28 → a ≠ b → (TX10 a).2.1 ≠ (TX10 b).2.1 := by decide +kernel
theorem tyX10_ok : ∀ k, k < 28 → parseFieldDescriptor (TX10 k).2.2.1 = some (tyX10 k) := by decide +kernel
abbrev cX10_init : ByteArray := prog_12_method_1_code
def yX10_init : MethodName := ⟨RX10, "<init>", "()V"⟩
abbrev cX10_in : ByteArray := prog_12_method_3_code
def yX10_in : MethodName := ⟨RX10, "in", "(JJJ)Z"⟩
abbrev cX10_less : ByteArray := prog_12_method_4_code
def yX10_less : MethodName := ⟨RX10, "less", "(II)I"⟩
abbrev cX10_greater : ByteArray := prog_12_method_5_code
def yX10_greater : MethodName := ⟨RX10, "greater", "(II)I"⟩
abbrev cX10_pieceAt : ByteArray := prog_12_method_6_code
def yX10_pieceAt : MethodName := ⟨RX10, "pieceAt", "(II)I"⟩
abbrev cX10_boxAt : ByteArray := prog_12_method_7_code
def yX10_boxAt : MethodName := ⟨RX10, "boxAt", "(II)I"⟩
abbrev cX10_set : ByteArray := prog_12_method_8_code
def yX10_set : MethodName := ⟨RX10, "set", "(II)I"⟩
abbrev cX10_isPlace : ByteArray := prog_12_method_9_code
def yX10_isPlace : MethodName := ⟨RX10, "isPlace", "(I)Z"⟩
abbrev cX10_addPiece : ByteArray := prog_12_method_10_code
def yX10_addPiece : MethodName := ⟨RX10, "addPiece", "(IIII)V"⟩
abbrev cX10_draw : ByteArray := prog_12_method_11_code
def yX10_draw : MethodName := ⟨RX10, "draw", "(IIII)I"⟩
abbrev cX10_erase : ByteArray := prog_12_method_12_code
def yX10_erase : MethodName := ⟨RX10, "erase", "(I)I"⟩
abbrev cX10_write : ByteArray := prog_12_method_13_code
def yX10_write : MethodName := ⟨RX10, "write", "(IIII)I"⟩
abbrev cX10_strike : ByteArray := prog_12_method_14_code
def yX10_strike : MethodName := ⟨RX10, "strike", "(I)I"⟩
abbrev cX10_ruleAt : ByteArray := prog_12_method_15_code
def yX10_ruleAt : MethodName := ⟨RX10, "ruleAt", "(II)I"⟩
abbrev cX10_isNear : ByteArray := prog_12_method_16_code
def yX10_isNear : MethodName := ⟨RX10, "isNear", "(II)Z"⟩
abbrev cX10_join : ByteArray := prog_12_method_17_code
def yX10_join : MethodName := ⟨RX10, "join", "(III)V"⟩
abbrev cX10_begin : ByteArray := prog_12_method_18_code
def yX10_begin : MethodName := ⟨RX10, "begin", "(I)V"⟩
abbrev cX10_addRule : ByteArray := prog_12_method_19_code
def yX10_addRule : MethodName := ⟨RX10, "addRule", "(I)V"⟩
abbrev cX10_isRuleBefore : ByteArray := prog_12_method_20_code
def yX10_isRuleBefore : MethodName := ⟨RX10, "isRuleBefore", "(II)Z"⟩
abbrev cX10_sortRules : ByteArray := prog_12_method_21_code
def yX10_sortRules : MethodName := ⟨RX10, "sortRules", "()V"⟩
abbrev cX10_findRules : ByteArray := prog_12_method_22_code
def yX10_findRules : MethodName := ⟨RX10, "findRules", "()V"⟩
abbrev cX10_lies : ByteArray := prog_12_method_23_code
def yX10_lies : MethodName := ⟨RX10, "lies", "(II)Z"⟩
abbrev cX10_isCross : ByteArray := prog_12_method_24_code
def yX10_isCross : MethodName := ⟨RX10, "isCross", "(II)Z"⟩
abbrev cX10_lineAt : ByteArray := prog_12_method_25_code
def yX10_lineAt : MethodName := ⟨RX10, "lineAt", "(III)I"⟩
abbrev cX10_rowsOf : ByteArray := prog_12_method_26_code
def yX10_rowsOf : MethodName := ⟨RX10, "rowsOf", "(I)I"⟩
abbrev cX10_columnsOf : ByteArray := prog_12_method_27_code
def yX10_columnsOf : MethodName := ⟨RX10, "columnsOf", "(I)I"⟩
abbrev cX10_countLines : ByteArray := prog_12_method_28_code
def yX10_countLines : MethodName := ⟨RX10, "countLines", "(II)I"⟩
abbrev cX10_layLines : ByteArray := prog_12_method_29_code
def yX10_layLines : MethodName := ⟨RX10, "layLines", "(II)V"⟩
abbrev cX10_findTables : ByteArray := prog_12_method_30_code
def yX10_findTables : MethodName := ⟨RX10, "findTables", "()V"⟩
abbrev cX10_reaches : ByteArray := prog_12_method_31_code
def yX10_reaches : MethodName := ⟨RX10, "reaches", "(IIIII)Z"⟩
abbrev cX10_isSide : ByteArray := prog_12_method_32_code
def yX10_isSide : MethodName := ⟨RX10, "isSide", "(IIII)Z"⟩
abbrev cX10_isRuled : ByteArray := prog_12_method_33_code
def yX10_isRuled : MethodName := ⟨RX10, "isRuled", "(IIII)Z"⟩
abbrev cX10_cellAt : ByteArray := prog_12_method_34_code
def yX10_cellAt : MethodName := ⟨RX10, "cellAt", "(II)I"⟩
abbrev cX10_addField : ByteArray := prog_12_method_35_code
def yX10_addField : MethodName := ⟨RX10, "addField", "(III)V"⟩
abbrev cX10_isOpen : ByteArray := prog_12_method_36_code
def yX10_isOpen : MethodName := ⟨RX10, "isOpen", "(III)Z"⟩
abbrev cX10_findCells : ByteArray := prog_12_method_37_code
def yX10_findCells : MethodName := ⟨RX10, "findCells", "(I)V"⟩
abbrev cX10_between : ByteArray := prog_12_method_38_code
def yX10_between : MethodName := ⟨RX10, "between", "(III)I"⟩
abbrev cX10_findWord : ByteArray := prog_12_method_39_code
def yX10_findWord : MethodName := ⟨RX10, "findWord", "(I)V"⟩
abbrev cX10_findAll : ByteArray := prog_12_method_40_code
def yX10_findAll : MethodName := ⟨RX10, "findAll", "()V"⟩
abbrev cX10_isTable : ByteArray := prog_12_method_41_code
def yX10_isTable : MethodName := ⟨RX10, "isTable", "(I)Z"⟩
abbrev cX10_isCell : ByteArray := prog_12_method_42_code
def yX10_isCell : MethodName := ⟨RX10, "isCell", "(II)Z"⟩
abbrev cX10_piece : ByteArray := prog_12_method_43_code
def yX10_piece : MethodName := ⟨RX10, "piece", "(II)I"⟩
abbrev cX10_word : ByteArray := prog_12_method_44_code
def yX10_word : MethodName := ⟨RX10, "word", "(II)I"⟩
abbrev cX10_isRule : ByteArray := prog_12_method_45_code
def yX10_isRule : MethodName := ⟨RX10, "isRule", "(I)Z"⟩
abbrev cX10_rule : ByteArray := prog_12_method_46_code
def yX10_rule : MethodName := ⟨RX10, "rule", "(II)I"⟩
abbrev cX10_cross : ByteArray := prog_12_method_47_code
def yX10_cross : MethodName := ⟨RX10, "cross", "(II)I"⟩
abbrev cX10_wordsBy : ByteArray := prog_12_method_48_code
def yX10_wordsBy : MethodName := ⟨RX10, "wordsBy", "(III)I"⟩
abbrev cX10_missBy : ByteArray := prog_12_method_49_code
def yX10_missBy : MethodName := ⟨RX10, "missBy", "(IIII)V"⟩
abbrev cX10_findMissed : ByteArray := prog_12_method_50_code
def yX10_findMissed : MethodName := ⟨RX10, "findMissed", "(II)V"⟩
abbrev cX10_missed : ByteArray := prog_12_method_51_code
def yX10_missed : MethodName := ⟨RX10, "missed", "(III)I"⟩
abbrev cX10_layComing : ByteArray := prog_12_method_52_code
def yX10_layComing : MethodName := ⟨RX10, "layComing", "(II)V"⟩
abbrev cX10_mend : ByteArray := prog_12_method_53_code
def yX10_mend : MethodName := ⟨RX10, "mend", "(I)I"⟩
abbrev cX10_isNarrow : ByteArray := prog_12_method_54_code
def yX10_isNarrow : MethodName := ⟨RX10, "isNarrow", "(II)Z"⟩
abbrev cX10_headsOf : ByteArray := prog_12_method_55_code
def yX10_headsOf : MethodName := ⟨RX10, "headsOf", "(I)I"⟩
abbrev cX10_rulesOf : ByteArray := prog_12_method_56_code
def yX10_rulesOf : MethodName := ⟨RX10, "rulesOf", "(I)I"⟩
abbrev cX10_wordsOf : ByteArray := prog_12_method_57_code
def yX10_wordsOf : MethodName := ⟨RX10, "wordsOf", "(I)I"⟩
abbrev cX10_wholeOf : ByteArray := prog_12_method_58_code
def yX10_wholeOf : MethodName := ⟨RX10, "wholeOf", "(I)I"⟩
abbrev cX10_table : ByteArray := prog_12_method_59_code
def yX10_table : MethodName := ⟨RX10, "table", "(II)I"⟩
abbrev cX10_edge : ByteArray := prog_12_method_60_code
def yX10_edge : MethodName := ⟨RX10, "edge", "(III)I"⟩
abbrev cX10_ruled : ByteArray := prog_12_method_61_code
def yX10_ruled : MethodName := ⟨RX10, "ruled", "(IIII)I"⟩
abbrev cX10_at : ByteArray := prog_12_method_62_code
def yX10_at : MethodName := ⟨RX10, "at", "(III)I"⟩
abbrev cX10_wordsIn : ByteArray := prog_12_method_63_code
def yX10_wordsIn : MethodName := ⟨RX10, "wordsIn", "(I)I"⟩
abbrev cX10_cell : ByteArray := prog_12_method_64_code
def yX10_cell : MethodName := ⟨RX10, "cell", "(III)I"⟩
abbrev cX10_isReadBefore : ByteArray := prog_12_method_65_code
def yX10_isReadBefore : MethodName := ⟨RX10, "isReadBefore", "(II)Z"⟩
abbrev cX10_isWordOf : ByteArray := prog_12_method_66_code
def yX10_isWordOf : MethodName := ⟨RX10, "isWordOf", "(II)Z"⟩
abbrev cX10_read : ByteArray := prog_12_method_67_code
def yX10_read : MethodName := ⟨RX10, "read", "(III)I"⟩
abbrev cX10_heading : ByteArray := prog_12_method_68_code
def yX10_heading : MethodName := ⟨RX10, "heading", "(III)I"⟩
abbrev cX10_pass : ByteArray := prog_12_method_69_code
def yX10_pass : MethodName := ⟨RX10, "pass", "(I)I"⟩
abbrev cX10_passRow : ByteArray := prog_12_method_70_code
def yX10_passRow : MethodName := ⟨RX10, "passRow", "([II)V"⟩
abbrev cX10_passAll : ByteArray := prog_12_method_71_code
def yX10_passAll : MethodName := ⟨RX10, "passAll", "()V"⟩
abbrev cX10_image : ByteArray := prog_12_method_72_code
def yX10_image : MethodName := ⟨RX10, "image", "(I)I"⟩
abbrev cX10_restore : ByteArray := prog_12_method_73_code
def yX10_restore : MethodName := ⟨RX10, "restore", "(I)I"⟩
abbrev cX10_told : ByteArray := prog_12_method_74_code
def yX10_told : MethodName := ⟨RX10, "told", "(I)I"⟩
abbrev vwCl : List vw_C := [(RX0, TX0, 5), (RX1, TX1, 1), (RX2, TX2, 2), (RX3, TX3, 3), (RX4, TX4, 5), (RX5, TX5, 3), (RX6, TX6, 9), (RX7, TX7, 3), (RX8, TX8, 12), (RX9, TX9, 5), (RX10, TX10, 28)]
def wtb : List Cond := lw_tbl.filter goodWord
theorem wt {w : Cond} (h : w ∈ lw_tbl) (hg : goodWord w = true) : w ∈ wtb := List.mem_filter.mpr ⟨h, hg⟩
theorem wtb_good {w : Cond} (h : w ∈ wtb) : w ∈ lw_tbl ∧ goodWord w = true := List.mem_filter.mp h
theorem wtb_in {ws : List Cond} (h : ∀ w ∈ ws, w ∈ wtb) : GoodIn wtb ws := fun w hw => ⟨h w hw, good_of_word (wtb_good (h w hw)).2⟩
theorem inX0 : ∀ w ∈ u_ws RX0 TX0 5, w ∈ wtb := by
  intro w hw
  obtain ⟨k, hk, rfl⟩ := List.mem_map.mp hw
  have hk := List.mem_range.mp hk
  match k, hk with
  | 0, _ => exact wt (List.mem_of_getElem? (i := 337) (by decide +kernel)) rfl
  | 1, _ => exact wt (List.mem_of_getElem? (i := 339) (by decide +kernel)) rfl
  | 2, _ => exact wt (List.mem_of_getElem? (i := 341) (by decide +kernel)) rfl
  | 3, _ => exact wt (List.mem_of_getElem? (i := 343) (by decide +kernel)) rfl
  | 4, _ => exact wt (List.mem_of_getElem? (i := 345) (by decide +kernel)) rfl
  | j + 5, h => omega
theorem inX1 : ∀ w ∈ u_ws RX1 TX1 1, w ∈ wtb := by
  intro w hw
  obtain ⟨k, hk, rfl⟩ := List.mem_map.mp hw
  have hk := List.mem_range.mp hk
  match k, hk with
  | 0, _ => exact wt (List.mem_of_getElem? (i := 164) (by decide +kernel)) rfl
  | j + 1, h => omega
theorem inX2 : ∀ w ∈ u_ws RX2 TX2 2, w ∈ wtb := by
  intro w hw
  obtain ⟨k, hk, rfl⟩ := List.mem_map.mp hw
  have hk := List.mem_range.mp hk
  match k, hk with
  | 0, _ => exact wt (List.mem_of_getElem? (i := 252) (by decide +kernel)) rfl
  | 1, _ => exact wt (List.mem_of_getElem? (i := 254) (by decide +kernel)) rfl
  | j + 2, h => omega
theorem inX3 : ∀ w ∈ u_ws RX3 TX3 3, w ∈ wtb := by
  intro w hw
  obtain ⟨k, hk, rfl⟩ := List.mem_map.mp hw
  have hk := List.mem_range.mp hk
  match k, hk with
  | 0, _ => exact wt (List.mem_of_getElem? (i := 141) (by decide +kernel)) rfl
  | 1, _ => exact wt (List.mem_of_getElem? (i := 143) (by decide +kernel)) rfl
  | 2, _ => exact wt (List.mem_of_getElem? (i := 145) (by decide +kernel)) rfl
  | j + 3, h => omega
theorem inX4 : ∀ w ∈ u_ws RX4 TX4 5, w ∈ wtb := by
  intro w hw
  obtain ⟨k, hk, rfl⟩ := List.mem_map.mp hw
  have hk := List.mem_range.mp hk
  match k, hk with
  | 0, _ => exact wt (List.mem_of_getElem? (i := 317) (by decide +kernel)) rfl
  | 1, _ => exact wt (List.mem_of_getElem? (i := 319) (by decide +kernel)) rfl
  | 2, _ => exact wt (List.mem_of_getElem? (i := 321) (by decide +kernel)) rfl
  | 3, _ => exact wt (List.mem_of_getElem? (i := 323) (by decide +kernel)) rfl
  | 4, _ => exact wt (List.mem_of_getElem? (i := 325) (by decide +kernel)) rfl
  | j + 5, h => omega
theorem inX5 : ∀ w ∈ u_ws RX5 TX5 3, w ∈ wtb := by
  intro w hw
  obtain ⟨k, hk, rfl⟩ := List.mem_map.mp hw
  have hk := List.mem_range.mp hk
  match k, hk with
  | 0, _ => exact wt (List.mem_of_getElem? (i := 114) (by decide +kernel)) rfl
  | 1, _ => exact wt (List.mem_of_getElem? (i := 116) (by decide +kernel)) rfl
  | 2, _ => exact wt (List.mem_of_getElem? (i := 118) (by decide +kernel)) rfl
  | j + 3, h => omega
theorem inX6 : ∀ w ∈ u_ws RX6 TX6 9, w ∈ wtb := by
  intro w hw
  obtain ⟨k, hk, rfl⟩ := List.mem_map.mp hw
  have hk := List.mem_range.mp hk
  match k, hk with
  | 0, _ => exact wt (List.mem_of_getElem? (i := 198) (by decide +kernel)) rfl
  | 1, _ => exact wt (List.mem_of_getElem? (i := 200) (by decide +kernel)) rfl
  | 2, _ => exact wt (List.mem_of_getElem? (i := 202) (by decide +kernel)) rfl
  | 3, _ => exact wt (List.mem_of_getElem? (i := 204) (by decide +kernel)) rfl
  | 4, _ => exact wt (List.mem_of_getElem? (i := 206) (by decide +kernel)) rfl
  | 5, _ => exact wt (List.mem_of_getElem? (i := 208) (by decide +kernel)) rfl
  | 6, _ => exact wt (List.mem_of_getElem? (i := 210) (by decide +kernel)) rfl
  | 7, _ => exact wt (List.mem_of_getElem? (i := 212) (by decide +kernel)) rfl
  | 8, _ => exact wt (List.mem_of_getElem? (i := 214) (by decide +kernel)) rfl
  | j + 9, h => omega
theorem inX7 : ∀ w ∈ u_ws RX7 TX7 3, w ∈ wtb := by
  intro w hw
  obtain ⟨k, hk, rfl⟩ := List.mem_map.mp hw
  have hk := List.mem_range.mp hk
  match k, hk with
  | 0, _ => exact wt (List.mem_of_getElem? (i := 225) (by decide +kernel)) rfl
  | 1, _ => exact wt (List.mem_of_getElem? (i := 227) (by decide +kernel)) rfl
  | 2, _ => exact wt (List.mem_of_getElem? (i := 229) (by decide +kernel)) rfl
  | j + 3, h => omega
theorem inX8 : ∀ w ∈ u_ws RX8 TX8 12, w ∈ wtb := by
  intro w hw
  obtain ⟨k, hk, rfl⟩ := List.mem_map.mp hw
  have hk := List.mem_range.mp hk
  match k, hk with
  | 0, _ => exact wt (List.mem_of_getElem? (i := 278) (by decide +kernel)) rfl
  | 1, _ => exact wt (List.mem_of_getElem? (i := 280) (by decide +kernel)) rfl
  | 2, _ => exact wt (List.mem_of_getElem? (i := 282) (by decide +kernel)) rfl
  | 3, _ => exact wt (List.mem_of_getElem? (i := 284) (by decide +kernel)) rfl
  | 4, _ => exact wt (List.mem_of_getElem? (i := 286) (by decide +kernel)) rfl
  | 5, _ => exact wt (List.mem_of_getElem? (i := 288) (by decide +kernel)) rfl
  | 6, _ => exact wt (List.mem_of_getElem? (i := 290) (by decide +kernel)) rfl
  | 7, _ => exact wt (List.mem_of_getElem? (i := 292) (by decide +kernel)) rfl
  | 8, _ => exact wt (List.mem_of_getElem? (i := 294) (by decide +kernel)) rfl
  | 9, _ => exact wt (List.mem_of_getElem? (i := 296) (by decide +kernel)) rfl
  | 10, _ => exact wt (List.mem_of_getElem? (i := 298) (by decide +kernel)) rfl
  | 11, _ => exact wt (List.mem_of_getElem? (i := 300) (by decide +kernel)) rfl
  | j + 12, h => omega
theorem inX9 : ∀ w ∈ u_ws RX9 TX9 5, w ∈ wtb := by
  intro w hw
  obtain ⟨k, hk, rfl⟩ := List.mem_map.mp hw
  have hk := List.mem_range.mp hk
  match k, hk with
  | 0, _ => exact wt (List.mem_of_getElem? (i := 353) (by decide +kernel)) rfl
  | 1, _ => exact wt (List.mem_of_getElem? (i := 355) (by decide +kernel)) rfl
  | 2, _ => exact wt (List.mem_of_getElem? (i := 357) (by decide +kernel)) rfl
  | 3, _ => exact wt (List.mem_of_getElem? (i := 359) (by decide +kernel)) rfl
  | 4, _ => exact wt (List.mem_of_getElem? (i := 361) (by decide +kernel)) rfl
  | j + 5, h => omega
theorem inX10 : ∀ w ∈ u_ws RX10 TX10 28, w ∈ wtb := by
  intro w hw
  obtain ⟨k, hk, rfl⟩ := List.mem_map.mp hw
  have hk := List.mem_range.mp hk
  match k, hk with
  | 0, _ => exact wt (List.mem_of_getElem? (i := 787) (by decide +kernel)) rfl
  | 1, _ => exact wt (List.mem_of_getElem? (i := 789) (by decide +kernel)) rfl
  | 2, _ => exact wt (List.mem_of_getElem? (i := 791) (by decide +kernel)) rfl
  | 3, _ => exact wt (List.mem_of_getElem? (i := 793) (by decide +kernel)) rfl
  | 4, _ => exact wt (List.mem_of_getElem? (i := 795) (by decide +kernel)) rfl
  | 5, _ => exact wt (List.mem_of_getElem? (i := 797) (by decide +kernel)) rfl
  | 6, _ => exact wt (List.mem_of_getElem? (i := 799) (by decide +kernel)) rfl
  | 7, _ => exact wt (List.mem_of_getElem? (i := 801) (by decide +kernel)) rfl
  | 8, _ => exact wt (List.mem_of_getElem? (i := 803) (by decide +kernel)) rfl
  | 9, _ => exact wt (List.mem_of_getElem? (i := 805) (by decide +kernel)) rfl
  | 10, _ => exact wt (List.mem_of_getElem? (i := 807) (by decide +kernel)) rfl
  | 11, _ => exact wt (List.mem_of_getElem? (i := 809) (by decide +kernel)) rfl
  | 12, _ => exact wt (List.mem_of_getElem? (i := 811) (by decide +kernel)) rfl
  | 13, _ => exact wt (List.mem_of_getElem? (i := 813) (by decide +kernel)) rfl
  | 14, _ => exact wt (List.mem_of_getElem? (i := 815) (by decide +kernel)) rfl
  | 15, _ => exact wt (List.mem_of_getElem? (i := 817) (by decide +kernel)) rfl
  | 16, _ => exact wt (List.mem_of_getElem? (i := 819) (by decide +kernel)) rfl
  | 17, _ => exact wt (List.mem_of_getElem? (i := 821) (by decide +kernel)) rfl
  | 18, _ => exact wt (List.mem_of_getElem? (i := 823) (by decide +kernel)) rfl
  | 19, _ => exact wt (List.mem_of_getElem? (i := 825) (by decide +kernel)) rfl
  | 20, _ => exact wt (List.mem_of_getElem? (i := 827) (by decide +kernel)) rfl
  | 21, _ => exact wt (List.mem_of_getElem? (i := 829) (by decide +kernel)) rfl
  | 22, _ => exact wt (List.mem_of_getElem? (i := 831) (by decide +kernel)) rfl
  | 23, _ => exact wt (List.mem_of_getElem? (i := 833) (by decide +kernel)) rfl
  | 24, _ => exact wt (List.mem_of_getElem? (i := 835) (by decide +kernel)) rfl
  | 25, _ => exact wt (List.mem_of_getElem? (i := 837) (by decide +kernel)) rfl
  | 26, _ => exact wt (List.mem_of_getElem? (i := 839) (by decide +kernel)) rfl
  | 27, _ => exact wt (List.mem_of_getElem? (i := 841) (by decide +kernel)) rfl
  | j + 28, h => omega
theorem kf0_20 : Cond.fieldLink RX0 20 "RuledTables$Finding" "groups" "LRuledTables$Groups;" ∈ wtb := wt (List.mem_of_getElem? (i := 328) (by decide +kernel)) rfl
theorem kf0_29 : Cond.fieldLink RX0 29 "RuledTables$Finding" "rules" "LRuledTables$Rules;" ∈ wtb := wt (List.mem_of_getElem? (i := 329) (by decide +kernel)) rfl
theorem kf0_35 : Cond.fieldLink RX0 35 "RuledTables$Finding" "tables" "[LRuledTables$Table;" ∈ wtb := wt (List.mem_of_getElem? (i := 331) (by decide +kernel)) rfl
theorem kf0_43 : Cond.fieldLink RX0 43 "RuledTables$Finding" "placing" "LRuledTables$Placing;" ∈ wtb := wt (List.mem_of_getElem? (i := 335) (by decide +kernel)) rfl
theorem kf0_47 : Cond.fieldLink RX0 47 "RuledTables$Finding" "tableCount" "I" ∈ wtb := wt (List.mem_of_getElem? (i := 333) (by decide +kernel)) rfl
theorem kf0_51 : Cond.fieldLink RX0 51 "RuledTables$Page" "settings" "[I" ∈ wtb := wt (List.mem_of_getElem? (i := 139) (by decide +kernel)) rfl
theorem kf0_72 : Cond.fieldLink RX0 72 "RuledTables$Page" "words" "LRuledTables$Rows;" ∈ wtb := wt (List.mem_of_getElem? (i := 135) (by decide +kernel)) rfl
theorem kf1_13 : Cond.fieldLink RX1 13 "RuledTables$Groups" "leads" "[I" ∈ wtb := wt (List.mem_of_getElem? (i := 163) (by decide +kernel)) rfl
theorem kf2_17 : Cond.fieldLink RX2 17 "RuledTables$Lines" "places" "[[I" ∈ wtb := wt (List.mem_of_getElem? (i := 249) (by decide +kernel)) rfl
theorem kf2_22 : Cond.fieldLink RX2 22 "RuledTables$Lines" "counts" "[I" ∈ wtb := wt (List.mem_of_getElem? (i := 250) (by decide +kernel)) rfl
theorem kf3_14 : Cond.fieldLink RX3 14 "RuledTables$Page" "pieces" "LRuledTables$Rows;" ∈ wtb := wt (List.mem_of_getElem? (i := 131) (by decide +kernel)) rfl
theorem kf3_20 : Cond.fieldLink RX3 20 "RuledTables$Page" "words" "LRuledTables$Rows;" ∈ wtb := wt (List.mem_of_getElem? (i := 134) (by decide +kernel)) rfl
theorem kf3_32 : Cond.fieldLink RX3 32 "RuledTables$Page" "settings" "[I" ∈ wtb := wt (List.mem_of_getElem? (i := 137) (by decide +kernel)) rfl
theorem kf4_9 : Cond.fieldLink RX4 9 "RuledTables$Placing" "tables" "[I" ∈ wtb := wt (List.mem_of_getElem? (i := 309) (by decide +kernel)) rfl
theorem kf4_15 : Cond.fieldLink RX4 15 "RuledTables$Placing" "cells" "[I" ∈ wtb := wt (List.mem_of_getElem? (i := 311) (by decide +kernel)) rfl
theorem kf4_18 : Cond.fieldLink RX4 18 "RuledTables$Placing" "order" "[I" ∈ wtb := wt (List.mem_of_getElem? (i := 313) (by decide +kernel)) rfl
theorem kf4_21 : Cond.fieldLink RX4 21 "RuledTables$Rows" "count" "I" ∈ wtb := wt (List.mem_of_getElem? (i := 110) (by decide +kernel)) rfl
theorem kf4_27 : Cond.fieldLink RX4 27 "RuledTables$Placing" "count" "I" ∈ wtb := wt (List.mem_of_getElem? (i := 314) (by decide +kernel)) rfl
theorem kf4_28 : Cond.fieldLink RX4 28 "RuledTables$Placing" "loose" "I" ∈ wtb := wt (List.mem_of_getElem? (i := 315) (by decide +kernel)) rfl
theorem kf4_43 : Cond.fieldLink RX4 43 "RuledTables$Table" "lines" "LRuledTables$Lines;" ∈ wtb := wt (List.mem_of_getElem? (i := 259) (by decide +kernel)) rfl
theorem kf4_61 : Cond.fieldLink RX4 61 "RuledTables$Table" "cells" "[[I" ∈ wtb := wt (List.mem_of_getElem? (i := 268) (by decide +kernel)) rfl
theorem kf4_64 : Cond.fieldLink RX4 64 "RuledTables$Table" "words" "I" ∈ wtb := wt (List.mem_of_getElem? (i := 276) (by decide +kernel)) rfl
theorem kf5_15 : Cond.fieldLink RX5 15 "RuledTables$Rows" "most" "I" ∈ wtb := wt (List.mem_of_getElem? (i := 109) (by decide +kernel)) rfl
theorem kf5_21 : Cond.fieldLink RX5 21 "RuledTables$Rows" "numbers" "[I" ∈ wtb := wt (List.mem_of_getElem? (i := 108) (by decide +kernel)) rfl
theorem kf5_25 : Cond.fieldLink RX5 25 "RuledTables$Rows" "count" "I" ∈ wtb := wt (List.mem_of_getElem? (i := 111) (by decide +kernel)) rfl
theorem kf6_15 : Cond.fieldLink RX6 15 "RuledTables$Rule" "way" "I" ∈ wtb := wt (List.mem_of_getElem? (i := 181) (by decide +kernel)) rfl
theorem kf6_21 : Cond.fieldLink RX6 21 "RuledTables$Rule" "at" "I" ∈ wtb := wt (List.mem_of_getElem? (i := 184) (by decide +kernel)) rfl
theorem kf6_24 : Cond.fieldLink RX6 24 "RuledTables$Rule" "from" "I" ∈ wtb := wt (List.mem_of_getElem? (i := 187) (by decide +kernel)) rfl
theorem kf6_27 : Cond.fieldLink RX6 27 "RuledTables$Rule" "to" "I" ∈ wtb := wt (List.mem_of_getElem? (i := 188) (by decide +kernel)) rfl
theorem kf6_30 : Cond.fieldLink RX6 30 "RuledTables$Rule" "longest" "I" ∈ wtb := wt (List.mem_of_getElem? (i := 189) (by decide +kernel)) rfl
theorem kf6_33 : Cond.fieldLink RX6 33 "RuledTables$Rule" "pieces" "I" ∈ wtb := wt (List.mem_of_getElem? (i := 190) (by decide +kernel)) rfl
theorem kf6_36 : Cond.fieldLink RX6 36 "RuledTables$Rule" "first" "I" ∈ wtb := wt (List.mem_of_getElem? (i := 191) (by decide +kernel)) rfl
theorem kf6_39 : Cond.fieldLink RX6 39 "RuledTables$Rule" "crossings" "I" ∈ wtb := wt (List.mem_of_getElem? (i := 193) (by decide +kernel)) rfl
theorem kf6_42 : Cond.fieldLink RX6 42 "RuledTables$Rule" "table" "I" ∈ wtb := wt (List.mem_of_getElem? (i := 195) (by decide +kernel)) rfl
theorem kf7_11 : Cond.fieldLink RX7 11 "RuledTables$Rules" "all" "[LRuledTables$Rule;" ∈ wtb := wt (List.mem_of_getElem? (i := 217) (by decide +kernel)) rfl
theorem kf7_18 : Cond.fieldLink RX7 18 "RuledTables$Rules" "ofPiece" "[I" ∈ wtb := wt (List.mem_of_getElem? (i := 220) (by decide +kernel)) rfl
theorem kf7_22 : Cond.fieldLink RX7 22 "RuledTables$Rules" "count" "I" ∈ wtb := wt (List.mem_of_getElem? (i := 222) (by decide +kernel)) rfl
theorem kf7_30 : Cond.fieldLink RX7 30 "RuledTables$Page" "pieces" "LRuledTables$Rows;" ∈ wtb := wt (List.mem_of_getElem? (i := 132) (by decide +kernel)) rfl
theorem kf7_43 : Cond.fieldLink RX7 43 "RuledTables$Rows" "count" "I" ∈ wtb := wt (List.mem_of_getElem? (i := 112) (by decide +kernel)) rfl
theorem kf7_56 : Cond.fieldLink RX7 56 "RuledTables$Page" "settings" "[I" ∈ wtb := wt (List.mem_of_getElem? (i := 140) (by decide +kernel)) rfl
theorem kf7_97 : Cond.fieldLink RX7 97 "RuledTables$Rule" "first" "I" ∈ wtb := wt (List.mem_of_getElem? (i := 192) (by decide +kernel)) rfl
theorem kf7_104 : Cond.fieldLink RX7 104 "RuledTables$Rule" "crossings" "I" ∈ wtb := wt (List.mem_of_getElem? (i := 194) (by decide +kernel)) rfl
theorem kf7_115 : Cond.fieldLink RX7 115 "RuledTables$Rule" "way" "I" ∈ wtb := wt (List.mem_of_getElem? (i := 183) (by decide +kernel)) rfl
theorem kf7_118 : Cond.fieldLink RX7 118 "RuledTables$Rule" "at" "I" ∈ wtb := wt (List.mem_of_getElem? (i := 186) (by decide +kernel)) rfl
theorem kf7_121 : Cond.fieldLink RX7 121 "RuledTables$Rule" "table" "I" ∈ wtb := wt (List.mem_of_getElem? (i := 197) (by decide +kernel)) rfl
theorem kf8_20 : Cond.fieldLink RX8 20 "RuledTables$Table" "lines" "LRuledTables$Lines;" ∈ wtb := wt (List.mem_of_getElem? (i := 258) (by decide +kernel)) rfl
theorem kf8_26 : Cond.fieldLink RX8 26 "RuledTables$Table" "sides" "[Z" ∈ wtb := wt (List.mem_of_getElem? (i := 265) (by decide +kernel)) rfl
theorem kf8_30 : Cond.fieldLink RX8 30 "RuledTables$Table" "fieldCells" "[I" ∈ wtb := wt (List.mem_of_getElem? (i := 266) (by decide +kernel)) rfl
theorem kf8_36 : Cond.fieldLink RX8 36 "RuledTables$Table" "cells" "[[I" ∈ wtb := wt (List.mem_of_getElem? (i := 267) (by decide +kernel)) rfl
theorem kf8_39 : Cond.fieldLink RX8 39 "RuledTables$Table" "missedLines" "[[I" ∈ wtb := wt (List.mem_of_getElem? (i := 271) (by decide +kernel)) rfl
theorem kf8_67 : Cond.fieldLink RX8 67 "RuledTables$Table" "heads" "I" ∈ wtb := wt (List.mem_of_getElem? (i := 277) (by decide +kernel)) rfl
theorem kf8_71 : Cond.fieldLink RX8 71 "RuledTables$Table" "words" "I" ∈ wtb := wt (List.mem_of_getElem? (i := 275) (by decide +kernel)) rfl
theorem kf8_74 : Cond.fieldLink RX8 74 "RuledTables$Table" "missedCount" "I" ∈ wtb := wt (List.mem_of_getElem? (i := 273) (by decide +kernel)) rfl
theorem kf8_80 : Cond.fieldLink RX8 80 "RuledTables$Table" "rules" "I" ∈ wtb := wt (List.mem_of_getElem? (i := 261) (by decide +kernel)) rfl
theorem kf8_83 : Cond.fieldLink RX8 83 "RuledTables$Rules" "count" "I" ∈ wtb := wt (List.mem_of_getElem? (i := 223) (by decide +kernel)) rfl
theorem kf8_88 : Cond.fieldLink RX8 88 "RuledTables$Rules" "all" "[LRuledTables$Rule;" ∈ wtb := wt (List.mem_of_getElem? (i := 218) (by decide +kernel)) rfl
theorem kf8_92 : Cond.fieldLink RX8 92 "RuledTables$Rule" "table" "I" ∈ wtb := wt (List.mem_of_getElem? (i := 196) (by decide +kernel)) rfl
theorem kf8_97 : Cond.fieldLink RX8 97 "RuledTables$Rule" "way" "I" ∈ wtb := wt (List.mem_of_getElem? (i := 182) (by decide +kernel)) rfl
theorem kf8_100 : Cond.fieldLink RX8 100 "RuledTables$Rule" "at" "I" ∈ wtb := wt (List.mem_of_getElem? (i := 185) (by decide +kernel)) rfl
theorem kf8_107 : Cond.fieldLink RX8 107 "RuledTables$Lines" "counts" "[I" ∈ wtb := wt (List.mem_of_getElem? (i := 251) (by decide +kernel)) rfl
theorem kf8_110 : Cond.fieldLink RX8 110 "RuledTables$Table" "rows" "I" ∈ wtb := wt (List.mem_of_getElem? (i := 262) (by decide +kernel)) rfl
theorem kf8_113 : Cond.fieldLink RX8 113 "RuledTables$Table" "columns" "I" ∈ wtb := wt (List.mem_of_getElem? (i := 263) (by decide +kernel)) rfl
theorem kf8_145 : Cond.fieldLink RX8 145 "RuledTables$Table" "cellCount" "I" ∈ wtb := wt (List.mem_of_getElem? (i := 270) (by decide +kernel)) rfl
theorem kf9_12 : Cond.fieldLink RX9 12 "RuledTables" "page" "LRuledTables$Page;" ∈ wtb := wt (List.mem_of_getElem? (i := 348) (by decide +kernel)) rfl
theorem kf9_16 : Cond.fieldLink RX9 16 "RuledTables" "images" "[LRuledTables$Page;" ∈ wtb := wt (List.mem_of_getElem? (i := 349) (by decide +kernel)) rfl
theorem kf9_20 : Cond.fieldLink RX9 20 "RuledTables" "kept" "[Z" ∈ wtb := wt (List.mem_of_getElem? (i := 350) (by decide +kernel)) rfl
theorem kf9_27 : Cond.fieldLink RX9 27 "RuledTables" "finding" "LRuledTables$Finding;" ∈ wtb := wt (List.mem_of_getElem? (i := 351) (by decide +kernel)) rfl
theorem kf9_31 : Cond.fieldLink RX9 31 "RuledTables" "stale" "Z" ∈ wtb := wt (List.mem_of_getElem? (i := 352) (by decide +kernel)) rfl
theorem kf9_35 : Cond.fieldLink RX9 35 "RuledTables" "MOST_SETTINGS" "[I" ∈ wtb := wt (List.mem_of_getElem? (i := 368) (by decide +kernel)) rfl
theorem kf9_39 : Cond.fieldLink RX9 39 "RuledTables$Page" "settings" "[I" ∈ wtb := wt (List.mem_of_getElem? (i := 138) (by decide +kernel)) rfl
theorem kf9_53 : Cond.fieldLink RX9 53 "RuledTables$Page" "pieces" "LRuledTables$Rows;" ∈ wtb := wt (List.mem_of_getElem? (i := 133) (by decide +kernel)) rfl
theorem kf9_67 : Cond.fieldLink RX9 67 "RuledTables$Rows" "count" "I" ∈ wtb := wt (List.mem_of_getElem? (i := 113) (by decide +kernel)) rfl
theorem kf9_86 : Cond.fieldLink RX9 86 "RuledTables$Finding" "rules" "LRuledTables$Rules;" ∈ wtb := wt (List.mem_of_getElem? (i := 330) (by decide +kernel)) rfl
theorem kf9_90 : Cond.fieldLink RX9 90 "RuledTables$Rules" "ofPiece" "[I" ∈ wtb := wt (List.mem_of_getElem? (i := 221) (by decide +kernel)) rfl
theorem kf9_95 : Cond.fieldLink RX9 95 "RuledTables$Page" "words" "LRuledTables$Rows;" ∈ wtb := wt (List.mem_of_getElem? (i := 136) (by decide +kernel)) rfl
theorem kf9_98 : Cond.fieldLink RX9 98 "RuledTables$Finding" "placing" "LRuledTables$Placing;" ∈ wtb := wt (List.mem_of_getElem? (i := 336) (by decide +kernel)) rfl
theorem kf9_102 : Cond.fieldLink RX9 102 "RuledTables$Placing" "tables" "[I" ∈ wtb := wt (List.mem_of_getElem? (i := 310) (by decide +kernel)) rfl
theorem kf9_107 : Cond.fieldLink RX9 107 "RuledTables$Placing" "cells" "[I" ∈ wtb := wt (List.mem_of_getElem? (i := 312) (by decide +kernel)) rfl
theorem kf9_111 : Cond.fieldLink RX9 111 "RuledTables$Rules" "all" "[LRuledTables$Rule;" ∈ wtb := wt (List.mem_of_getElem? (i := 219) (by decide +kernel)) rfl
theorem kf9_126 : Cond.fieldLink RX9 126 "RuledTables$Finding" "tables" "[LRuledTables$Table;" ∈ wtb := wt (List.mem_of_getElem? (i := 332) (by decide +kernel)) rfl
theorem kf9_132 : Cond.fieldLink RX9 132 "RuledTables$Table" "lines" "LRuledTables$Lines;" ∈ wtb := wt (List.mem_of_getElem? (i := 260) (by decide +kernel)) rfl
theorem kf9_155 : Cond.fieldLink RX9 155 "RuledTables$Table" "cells" "[[I" ∈ wtb := wt (List.mem_of_getElem? (i := 269) (by decide +kernel)) rfl
theorem kf9_161 : Cond.fieldLink RX9 161 "RuledTables$Table" "missedCount" "I" ∈ wtb := wt (List.mem_of_getElem? (i := 274) (by decide +kernel)) rfl
theorem kf9_164 : Cond.fieldLink RX9 164 "RuledTables$Table" "missedLines" "[[I" ∈ wtb := wt (List.mem_of_getElem? (i := 272) (by decide +kernel)) rfl
theorem kf9_171 : Cond.fieldLink RX9 171 "RuledTables$Table" "columns" "I" ∈ wtb := wt (List.mem_of_getElem? (i := 264) (by decide +kernel)) rfl
theorem kf9_181 : Cond.fieldLink RX9 181 "RuledTables$Rules" "count" "I" ∈ wtb := wt (List.mem_of_getElem? (i := 224) (by decide +kernel)) rfl
theorem kf9_182 : Cond.fieldLink RX9 182 "RuledTables$Finding" "tableCount" "I" ∈ wtb := wt (List.mem_of_getElem? (i := 334) (by decide +kernel)) rfl
theorem kf9_185 : Cond.fieldLink RX9 185 "RuledTables$Placing" "loose" "I" ∈ wtb := wt (List.mem_of_getElem? (i := 316) (by decide +kernel)) rfl
theorem kf10_7 : Cond.fieldLink RX10 7 "RuledTablesModel" "drawn" "[I" ∈ wtb := wt (List.mem_of_getElem? (i := 759) (by decide +kernel)) rfl
theorem kf10_13 : Cond.fieldLink RX10 13 "RuledTablesModel" "boxes" "[I" ∈ wtb := wt (List.mem_of_getElem? (i := 761) (by decide +kernel)) rfl
theorem kf10_16 : Cond.fieldLink RX10 16 "RuledTablesModel" "how" "[I" ∈ wtb := wt (List.mem_of_getElem? (i := 763) (by decide +kernel)) rfl
theorem kf10_19 : Cond.fieldLink RX10 19 "RuledTablesModel" "label" "[I" ∈ wtb := wt (List.mem_of_getElem? (i := 765) (by decide +kernel)) rfl
theorem kf10_22 : Cond.fieldLink RX10 22 "RuledTablesModel" "rules" "[I" ∈ wtb := wt (List.mem_of_getElem? (i := 766) (by decide +kernel)) rfl
theorem kf10_25 : Cond.fieldLink RX10 25 "RuledTablesModel" "ruleOf" "[I" ∈ wtb := wt (List.mem_of_getElem? (i := 768) (by decide +kernel)) rfl
theorem kf10_28 : Cond.fieldLink RX10 28 "RuledTablesModel" "lines" "[I" ∈ wtb := wt (List.mem_of_getElem? (i := 770) (by decide +kernel)) rfl
theorem kf10_31 : Cond.fieldLink RX10 31 "RuledTablesModel" "lineMany" "[I" ∈ wtb := wt (List.mem_of_getElem? (i := 771) (by decide +kernel)) rfl
theorem kf10_34 : Cond.fieldLink RX10 34 "RuledTablesModel" "fieldFrom" "[I" ∈ wtb := wt (List.mem_of_getElem? (i := 772) (by decide +kernel)) rfl
theorem kf10_37 : Cond.fieldLink RX10 37 "RuledTablesModel" "cellFrom" "[I" ∈ wtb := wt (List.mem_of_getElem? (i := 773) (by decide +kernel)) rfl
theorem kf10_40 : Cond.fieldLink RX10 40 "RuledTablesModel" "cellOf" "[I" ∈ wtb := wt (List.mem_of_getElem? (i := 774) (by decide +kernel)) rfl
theorem kf10_43 : Cond.fieldLink RX10 43 "RuledTablesModel" "cells" "[I" ∈ wtb := wt (List.mem_of_getElem? (i := 775) (by decide +kernel)) rfl
theorem kf10_46 : Cond.fieldLink RX10 46 "RuledTablesModel" "wordTable" "[I" ∈ wtb := wt (List.mem_of_getElem? (i := 776) (by decide +kernel)) rfl
theorem kf10_49 : Cond.fieldLink RX10 49 "RuledTablesModel" "wordCell" "[I" ∈ wtb := wt (List.mem_of_getElem? (i := 777) (by decide +kernel)) rfl
theorem kf10_52 : Cond.fieldLink RX10 52 "RuledTablesModel" "coming" "[I" ∈ wtb := wt (List.mem_of_getElem? (i := 782) (by decide +kernel)) rfl
theorem kf10_55 : Cond.fieldLink RX10 55 "RuledTablesModel" "kept" "[I" ∈ wtb := wt (List.mem_of_getElem? (i := 783) (by decide +kernel)) rfl
theorem kf10_58 : Cond.fieldLink RX10 58 "RuledTablesModel" "isKept" "[Z" ∈ wtb := wt (List.mem_of_getElem? (i := 784) (by decide +kernel)) rfl
theorem kf10_74 : Cond.fieldLink RX10 74 "RuledTablesModel" "isFound" "Z" ∈ wtb := wt (List.mem_of_getElem? (i := 764) (by decide +kernel)) rfl
theorem kf10_80 : Cond.fieldLink RX10 80 "RuledTablesModel" "drawnMany" "I" ∈ wtb := wt (List.mem_of_getElem? (i := 760) (by decide +kernel)) rfl
theorem kf10_92 : Cond.fieldLink RX10 92 "RuledTablesModel" "boxMany" "I" ∈ wtb := wt (List.mem_of_getElem? (i := 762) (by decide +kernel)) rfl
theorem kf10_105 : Cond.fieldLink RX10 105 "RuledTablesModel" "ruleMany" "I" ∈ wtb := wt (List.mem_of_getElem? (i := 767) (by decide +kernel)) rfl
theorem kf10_138 : Cond.fieldLink RX10 138 "RuledTablesModel" "tableMany" "I" ∈ wtb := wt (List.mem_of_getElem? (i := 769) (by decide +kernel)) rfl
theorem kf10_211 : Cond.fieldLink RX10 211 "RuledTablesModel" "missedMany" "I" ∈ wtb := wt (List.mem_of_getElem? (i := 778) (by decide +kernel)) rfl
theorem kf10_214 : Cond.fieldLink RX10 214 "RuledTablesModel" "missedCell" "I" ∈ wtb := wt (List.mem_of_getElem? (i := 779) (by decide +kernel)) rfl
theorem kf10_217 : Cond.fieldLink RX10 217 "RuledTablesModel" "missedWay" "I" ∈ wtb := wt (List.mem_of_getElem? (i := 780) (by decide +kernel)) rfl
theorem kf10_220 : Cond.fieldLink RX10 220 "RuledTablesModel" "missedLine" "I" ∈ wtb := wt (List.mem_of_getElem? (i := 781) (by decide +kernel)) rfl
theorem kf10_267 : Cond.fieldLink RX10 267 "RuledTablesModel" "isWriting" "Z" ∈ wtb := wt (List.mem_of_getElem? (i := 786) (by decide +kernel)) rfl
theorem kf10_270 : Cond.fieldLink RX10 270 "RuledTablesModel" "keptAt" "I" ∈ wtb := wt (List.mem_of_getElem? (i := 785) (by decide +kernel)) rfl
def okV (y : MethodName) (cc : ByteArray) (nL : Nat) (ret : Option FieldType) (n : Nat) : Prop := Cond.instanceMethod y ∈ wtb ∧ Cond.selects y.cls y y ∈ wtb ∧ Cond.initialized y.cls ∈ wtb ∧ Cond.code y cc nL ret ∈ wtb ∧ (y.cls ≠ "java/lang/invoke/MethodHandle" ∧ y.cls ≠ "java/lang/invoke/VarHandle" ∧ (parseMethodDescriptor y.desc).map (fun d => d.parameters.length) = some n)
def okS (y : MethodName) (cc : ByteArray) (nL : Nat) (ret : Option FieldType) (n : Nat) : Prop := Cond.static y ∈ wtb ∧ Cond.initialized y.cls ∈ wtb ∧ Cond.code y cc nL ret ∈ wtb ∧ (y.cls ≠ "java/lang/invoke/MethodHandle" ∧ y.cls ≠ "java/lang/invoke/VarHandle" ∧ (parseMethodDescriptor y.desc).map (fun d => d.parameters.length) = some n)
theorem ok_X9_set : okV yX9_set cX9_set 4 (some .int) 2 := ⟨wt (List.mem_of_getElem? (i := 365) (by decide +kernel)) rfl, wt (List.mem_of_getElem? (i := 366) (by decide +kernel)) rfl, wt (List.mem_of_getElem? (i := 73) (by decide +kernel)) rfl, wt (List.mem_of_getElem? (i := 367) (by decide +kernel)) rfl, by decide +kernel⟩
theorem ok_X9_draw : okV yX9_draw cX9_draw 5 (some .int) 4 := ⟨wt (List.mem_of_getElem? (i := 371) (by decide +kernel)) rfl, wt (List.mem_of_getElem? (i := 372) (by decide +kernel)) rfl, wt (List.mem_of_getElem? (i := 73) (by decide +kernel)) rfl, wt (List.mem_of_getElem? (i := 373) (by decide +kernel)) rfl, by decide +kernel⟩
theorem ok_X9_isWay : okS yX9_isWay cX9_isWay 1 (some .boolean) 1 := ⟨wt (List.mem_of_getElem? (i := 375) (by decide +kernel)) rfl, wt (List.mem_of_getElem? (i := 73) (by decide +kernel)) rfl, wt (List.mem_of_getElem? (i := 376) (by decide +kernel)) rfl, by decide +kernel⟩
theorem ok_X9_isPlace : okS yX9_isPlace cX9_isPlace 1 (some .boolean) 1 := ⟨wt (List.mem_of_getElem? (i := 378) (by decide +kernel)) rfl, wt (List.mem_of_getElem? (i := 73) (by decide +kernel)) rfl, wt (List.mem_of_getElem? (i := 379) (by decide +kernel)) rfl, by decide +kernel⟩
theorem ok_X9_isStretch : okS yX9_isStretch cX9_isStretch 2 (some .boolean) 2 := ⟨wt (List.mem_of_getElem? (i := 381) (by decide +kernel)) rfl, wt (List.mem_of_getElem? (i := 73) (by decide +kernel)) rfl, wt (List.mem_of_getElem? (i := 382) (by decide +kernel)) rfl, by decide +kernel⟩
theorem ok_X5_isFull : okV yX5_isFull cX5_isFull 1 (some .boolean) 0 := ⟨wt (List.mem_of_getElem? (i := 384) (by decide +kernel)) rfl, wt (List.mem_of_getElem? (i := 385) (by decide +kernel)) rfl, wt (List.mem_of_getElem? (i := 75) (by decide +kernel)) rfl, wt (List.mem_of_getElem? (i := 386) (by decide +kernel)) rfl, by decide +kernel⟩
theorem ok_X5_add : okV yX5_add cX5_add 6 none 4 := ⟨wt (List.mem_of_getElem? (i := 388) (by decide +kernel)) rfl, wt (List.mem_of_getElem? (i := 389) (by decide +kernel)) rfl, wt (List.mem_of_getElem? (i := 75) (by decide +kernel)) rfl, wt (List.mem_of_getElem? (i := 390) (by decide +kernel)) rfl, by decide +kernel⟩
theorem ok_X9_erase : okV yX9_erase cX9_erase 2 (some .int) 1 := ⟨wt (List.mem_of_getElem? (i := 393) (by decide +kernel)) rfl, wt (List.mem_of_getElem? (i := 394) (by decide +kernel)) rfl, wt (List.mem_of_getElem? (i := 73) (by decide +kernel)) rfl, wt (List.mem_of_getElem? (i := 395) (by decide +kernel)) rfl, by decide +kernel⟩
theorem ok_X5_has : okV yX5_has cX5_has 2 (some .boolean) 1 := ⟨wt (List.mem_of_getElem? (i := 397) (by decide +kernel)) rfl, wt (List.mem_of_getElem? (i := 398) (by decide +kernel)) rfl, wt (List.mem_of_getElem? (i := 75) (by decide +kernel)) rfl, wt (List.mem_of_getElem? (i := 399) (by decide +kernel)) rfl, by decide +kernel⟩
theorem ok_X5_remove : okV yX5_remove cX5_remove 4 none 1 := ⟨wt (List.mem_of_getElem? (i := 401) (by decide +kernel)) rfl, wt (List.mem_of_getElem? (i := 402) (by decide +kernel)) rfl, wt (List.mem_of_getElem? (i := 75) (by decide +kernel)) rfl, wt (List.mem_of_getElem? (i := 403) (by decide +kernel)) rfl, by decide +kernel⟩
theorem ok_X9_piece : okV yX9_piece cX9_piece 3 (some .int) 2 := ⟨wt (List.mem_of_getElem? (i := 406) (by decide +kernel)) rfl, wt (List.mem_of_getElem? (i := 407) (by decide +kernel)) rfl, wt (List.mem_of_getElem? (i := 73) (by decide +kernel)) rfl, wt (List.mem_of_getElem? (i := 408) (by decide +kernel)) rfl, by decide +kernel⟩
theorem ok_X5_number : okV yX5_number cX5_number 4 (some .int) 2 := ⟨wt (List.mem_of_getElem? (i := 410) (by decide +kernel)) rfl, wt (List.mem_of_getElem? (i := 411) (by decide +kernel)) rfl, wt (List.mem_of_getElem? (i := 75) (by decide +kernel)) rfl, wt (List.mem_of_getElem? (i := 412) (by decide +kernel)) rfl, by decide +kernel⟩
theorem ok_X9_found : okV yX9_found cX9_found 1 (some (.object "RuledTables$Finding")) 0 := ⟨wt (List.mem_of_getElem? (i := 415) (by decide +kernel)) rfl, wt (List.mem_of_getElem? (i := 0) (by decide +kernel)) rfl, wt (List.mem_of_getElem? (i := 73) (by decide +kernel)) rfl, wt (List.mem_of_getElem? (i := 416) (by decide +kernel)) rfl, by decide +kernel⟩
theorem ok_X0_find : okV yX0_find cX0_find 4 none 1 := ⟨wt (List.mem_of_getElem? (i := 418) (by decide +kernel)) rfl, wt (List.mem_of_getElem? (i := 419) (by decide +kernel)) rfl, wt (List.mem_of_getElem? (i := 77) (by decide +kernel)) rfl, wt (List.mem_of_getElem? (i := 420) (by decide +kernel)) rfl, by decide +kernel⟩
theorem ok_X7_find : okV yX7_find cX7_find 3 none 2 := ⟨wt (List.mem_of_getElem? (i := 422) (by decide +kernel)) rfl, wt (List.mem_of_getElem? (i := 423) (by decide +kernel)) rfl, wt (List.mem_of_getElem? (i := 79) (by decide +kernel)) rfl, wt (List.mem_of_getElem? (i := 424) (by decide +kernel)) rfl, by decide +kernel⟩
theorem ok_X7_joinNear : okS yX7_joinNear cX7_joinNear 5 none 2 := ⟨wt (List.mem_of_getElem? (i := 426) (by decide +kernel)) rfl, wt (List.mem_of_getElem? (i := 79) (by decide +kernel)) rfl, wt (List.mem_of_getElem? (i := 427) (by decide +kernel)) rfl, by decide +kernel⟩
theorem ok_X1_part : okV yX1_part cX1_part 3 none 1 := ⟨wt (List.mem_of_getElem? (i := 429) (by decide +kernel)) rfl, wt (List.mem_of_getElem? (i := 430) (by decide +kernel)) rfl, wt (List.mem_of_getElem? (i := 78) (by decide +kernel)) rfl, wt (List.mem_of_getElem? (i := 431) (by decide +kernel)) rfl, by decide +kernel⟩
theorem ok_X7_areNear : okS yX7_areNear cX7_areNear 7 (some .boolean) 4 := ⟨wt (List.mem_of_getElem? (i := 433) (by decide +kernel)) rfl, wt (List.mem_of_getElem? (i := 79) (by decide +kernel)) rfl, wt (List.mem_of_getElem? (i := 434) (by decide +kernel)) rfl, by decide +kernel⟩
theorem ok_X1_join : okV yX1_join cX1_join 5 none 2 := ⟨wt (List.mem_of_getElem? (i := 444) (by decide +kernel)) rfl, wt (List.mem_of_getElem? (i := 445) (by decide +kernel)) rfl, wt (List.mem_of_getElem? (i := 78) (by decide +kernel)) rfl, wt (List.mem_of_getElem? (i := 446) (by decide +kernel)) rfl, by decide +kernel⟩
theorem ok_X1_firstOf : okV yX1_firstOf cX1_firstOf 4 (some .int) 1 := ⟨wt (List.mem_of_getElem? (i := 448) (by decide +kernel)) rfl, wt (List.mem_of_getElem? (i := 449) (by decide +kernel)) rfl, wt (List.mem_of_getElem? (i := 78) (by decide +kernel)) rfl, wt (List.mem_of_getElem? (i := 450) (by decide +kernel)) rfl, by decide +kernel⟩
theorem ok_X7_gather : okV yX7_gather cX7_gather 5 none 2 := ⟨wt (List.mem_of_getElem? (i := 454) (by decide +kernel)) rfl, wt (List.mem_of_getElem? (i := 1) (by decide +kernel)) rfl, wt (List.mem_of_getElem? (i := 79) (by decide +kernel)) rfl, wt (List.mem_of_getElem? (i := 455) (by decide +kernel)) rfl, by decide +kernel⟩
theorem ok_X6_begin : okV yX6_begin cX6_begin 3 none 2 := ⟨wt (List.mem_of_getElem? (i := 458) (by decide +kernel)) rfl, wt (List.mem_of_getElem? (i := 459) (by decide +kernel)) rfl, wt (List.mem_of_getElem? (i := 80) (by decide +kernel)) rfl, wt (List.mem_of_getElem? (i := 460) (by decide +kernel)) rfl, by decide +kernel⟩
theorem ok_X6_takeIn : okV yX6_takeIn cX6_takeIn 5 none 2 := ⟨wt (List.mem_of_getElem? (i := 463) (by decide +kernel)) rfl, wt (List.mem_of_getElem? (i := 464) (by decide +kernel)) rfl, wt (List.mem_of_getElem? (i := 80) (by decide +kernel)) rfl, wt (List.mem_of_getElem? (i := 465) (by decide +kernel)) rfl, by decide +kernel⟩
theorem ok_X7_sort : okV yX7_sort cX7_sort 4 none 0 := ⟨wt (List.mem_of_getElem? (i := 470) (by decide +kernel)) rfl, wt (List.mem_of_getElem? (i := 2) (by decide +kernel)) rfl, wt (List.mem_of_getElem? (i := 79) (by decide +kernel)) rfl, wt (List.mem_of_getElem? (i := 471) (by decide +kernel)) rfl, by decide +kernel⟩
theorem ok_X6_comesBefore : okV yX6_comesBefore cX6_comesBefore 2 (some .boolean) 1 := ⟨wt (List.mem_of_getElem? (i := 473) (by decide +kernel)) rfl, wt (List.mem_of_getElem? (i := 474) (by decide +kernel)) rfl, wt (List.mem_of_getElem? (i := 80) (by decide +kernel)) rfl, wt (List.mem_of_getElem? (i := 475) (by decide +kernel)) rfl, by decide +kernel⟩
theorem ok_X7_tellPieces : okV yX7_tellPieces cX7_tellPieces 4 none 2 := ⟨wt (List.mem_of_getElem? (i := 478) (by decide +kernel)) rfl, wt (List.mem_of_getElem? (i := 3) (by decide +kernel)) rfl, wt (List.mem_of_getElem? (i := 79) (by decide +kernel)) rfl, wt (List.mem_of_getElem? (i := 479) (by decide +kernel)) rfl, by decide +kernel⟩
theorem ok_X7_joinCrossing : okV yX7_joinCrossing cX7_joinCrossing 5 none 2 := ⟨wt (List.mem_of_getElem? (i := 481) (by decide +kernel)) rfl, wt (List.mem_of_getElem? (i := 482) (by decide +kernel)) rfl, wt (List.mem_of_getElem? (i := 79) (by decide +kernel)) rfl, wt (List.mem_of_getElem? (i := 483) (by decide +kernel)) rfl, by decide +kernel⟩
theorem ok_X6_crosses : okV yX6_crosses cX6_crosses 3 (some .boolean) 2 := ⟨wt (List.mem_of_getElem? (i := 485) (by decide +kernel)) rfl, wt (List.mem_of_getElem? (i := 486) (by decide +kernel)) rfl, wt (List.mem_of_getElem? (i := 80) (by decide +kernel)) rfl, wt (List.mem_of_getElem? (i := 487) (by decide +kernel)) rfl, by decide +kernel⟩
theorem ok_X6_covers : okV yX6_covers cX6_covers 4 (some .boolean) 3 := ⟨wt (List.mem_of_getElem? (i := 489) (by decide +kernel)) rfl, wt (List.mem_of_getElem? (i := 490) (by decide +kernel)) rfl, wt (List.mem_of_getElem? (i := 80) (by decide +kernel)) rfl, wt (List.mem_of_getElem? (i := 491) (by decide +kernel)) rfl, by decide +kernel⟩
theorem ok_X7_numberTables : okV yX7_numberTables cX7_numberTables 5 (some .int) 1 := ⟨wt (List.mem_of_getElem? (i := 493) (by decide +kernel)) rfl, wt (List.mem_of_getElem? (i := 494) (by decide +kernel)) rfl, wt (List.mem_of_getElem? (i := 79) (by decide +kernel)) rfl, wt (List.mem_of_getElem? (i := 495) (by decide +kernel)) rfl, by decide +kernel⟩
theorem ok_X7_countPlaces : okV yX7_countPlaces cX7_countPlaces 8 (some .int) 3 := ⟨wt (List.mem_of_getElem? (i := 498) (by decide +kernel)) rfl, wt (List.mem_of_getElem? (i := 4) (by decide +kernel)) rfl, wt (List.mem_of_getElem? (i := 79) (by decide +kernel)) rfl, wt (List.mem_of_getElem? (i := 499) (by decide +kernel)) rfl, by decide +kernel⟩
theorem ok_X7_giveTable : okV yX7_giveTable cX7_giveTable 5 none 3 := ⟨wt (List.mem_of_getElem? (i := 502) (by decide +kernel)) rfl, wt (List.mem_of_getElem? (i := 5) (by decide +kernel)) rfl, wt (List.mem_of_getElem? (i := 79) (by decide +kernel)) rfl, wt (List.mem_of_getElem? (i := 503) (by decide +kernel)) rfl, by decide +kernel⟩
theorem ok_X8_find : okV yX8_find cX8_find 5 none 4 := ⟨wt (List.mem_of_getElem? (i := 505) (by decide +kernel)) rfl, wt (List.mem_of_getElem? (i := 506) (by decide +kernel)) rfl, wt (List.mem_of_getElem? (i := 81) (by decide +kernel)) rfl, wt (List.mem_of_getElem? (i := 507) (by decide +kernel)) rfl, by decide +kernel⟩
theorem ok_X8_takeLines : okV yX8_takeLines cX8_takeLines 4 none 2 := ⟨wt (List.mem_of_getElem? (i := 510) (by decide +kernel)) rfl, wt (List.mem_of_getElem? (i := 6) (by decide +kernel)) rfl, wt (List.mem_of_getElem? (i := 81) (by decide +kernel)) rfl, wt (List.mem_of_getElem? (i := 511) (by decide +kernel)) rfl, by decide +kernel⟩
theorem ok_X2_clear : okV yX2_clear cX2_clear 1 none 0 := ⟨wt (List.mem_of_getElem? (i := 513) (by decide +kernel)) rfl, wt (List.mem_of_getElem? (i := 514) (by decide +kernel)) rfl, wt (List.mem_of_getElem? (i := 82) (by decide +kernel)) rfl, wt (List.mem_of_getElem? (i := 515) (by decide +kernel)) rfl, by decide +kernel⟩
theorem ok_X2_add : okV yX2_add cX2_add 4 none 2 := ⟨wt (List.mem_of_getElem? (i := 517) (by decide +kernel)) rfl, wt (List.mem_of_getElem? (i := 518) (by decide +kernel)) rfl, wt (List.mem_of_getElem? (i := 82) (by decide +kernel)) rfl, wt (List.mem_of_getElem? (i := 519) (by decide +kernel)) rfl, by decide +kernel⟩
theorem ok_X8_markSides : okV yX8_markSides cX8_markSides 5 none 3 := ⟨wt (List.mem_of_getElem? (i := 522) (by decide +kernel)) rfl, wt (List.mem_of_getElem? (i := 7) (by decide +kernel)) rfl, wt (List.mem_of_getElem? (i := 81) (by decide +kernel)) rfl, wt (List.mem_of_getElem? (i := 523) (by decide +kernel)) rfl, by decide +kernel⟩
theorem ok_X8_markSidesOf : okV yX8_markSidesOf cX8_markSidesOf 7 none 2 := ⟨wt (List.mem_of_getElem? (i := 526) (by decide +kernel)) rfl, wt (List.mem_of_getElem? (i := 8) (by decide +kernel)) rfl, wt (List.mem_of_getElem? (i := 81) (by decide +kernel)) rfl, wt (List.mem_of_getElem? (i := 527) (by decide +kernel)) rfl, by decide +kernel⟩
theorem ok_X2_lineAt : okV yX2_lineAt cX2_lineAt 4 (some .int) 2 := ⟨wt (List.mem_of_getElem? (i := 529) (by decide +kernel)) rfl, wt (List.mem_of_getElem? (i := 530) (by decide +kernel)) rfl, wt (List.mem_of_getElem? (i := 82) (by decide +kernel)) rfl, wt (List.mem_of_getElem? (i := 531) (by decide +kernel)) rfl, by decide +kernel⟩
theorem ok_X8_sideOf : okV yX8_sideOf cX8_sideOf 7 (some .int) 3 := ⟨wt (List.mem_of_getElem? (i := 533) (by decide +kernel)) rfl, wt (List.mem_of_getElem? (i := 534) (by decide +kernel)) rfl, wt (List.mem_of_getElem? (i := 81) (by decide +kernel)) rfl, wt (List.mem_of_getElem? (i := 535) (by decide +kernel)) rfl, by decide +kernel⟩
theorem ok_X2_placeOf : okV yX2_placeOf cX2_placeOf 3 (some .int) 2 := ⟨wt (List.mem_of_getElem? (i := 537) (by decide +kernel)) rfl, wt (List.mem_of_getElem? (i := 538) (by decide +kernel)) rfl, wt (List.mem_of_getElem? (i := 82) (by decide +kernel)) rfl, wt (List.mem_of_getElem? (i := 539) (by decide +kernel)) rfl, by decide +kernel⟩
theorem ok_X8_joinFields : okV yX8_joinFields cX8_joinFields 5 none 1 := ⟨wt (List.mem_of_getElem? (i := 543) (by decide +kernel)) rfl, wt (List.mem_of_getElem? (i := 9) (by decide +kernel)) rfl, wt (List.mem_of_getElem? (i := 81) (by decide +kernel)) rfl, wt (List.mem_of_getElem? (i := 544) (by decide +kernel)) rfl, by decide +kernel⟩
theorem ok_X8_hasRuled : okV yX8_hasRuled cX8_hasRuled 5 (some .boolean) 3 := ⟨wt (List.mem_of_getElem? (i := 547) (by decide +kernel)) rfl, wt (List.mem_of_getElem? (i := 548) (by decide +kernel)) rfl, wt (List.mem_of_getElem? (i := 81) (by decide +kernel)) rfl, wt (List.mem_of_getElem? (i := 549) (by decide +kernel)) rfl, by decide +kernel⟩
theorem ok_X8_numberCells : okV yX8_numberCells cX8_numberCells 6 none 1 := ⟨wt (List.mem_of_getElem? (i := 553) (by decide +kernel)) rfl, wt (List.mem_of_getElem? (i := 10) (by decide +kernel)) rfl, wt (List.mem_of_getElem? (i := 81) (by decide +kernel)) rfl, wt (List.mem_of_getElem? (i := 554) (by decide +kernel)) rfl, by decide +kernel⟩
theorem ok_X8_beginCell : okV yX8_beginCell cX8_beginCell 3 none 2 := ⟨wt (List.mem_of_getElem? (i := 558) (by decide +kernel)) rfl, wt (List.mem_of_getElem? (i := 11) (by decide +kernel)) rfl, wt (List.mem_of_getElem? (i := 81) (by decide +kernel)) rfl, wt (List.mem_of_getElem? (i := 559) (by decide +kernel)) rfl, by decide +kernel⟩
theorem ok_X8_widenCell : okV yX8_widenCell cX8_widenCell 6 none 3 := ⟨wt (List.mem_of_getElem? (i := 562) (by decide +kernel)) rfl, wt (List.mem_of_getElem? (i := 12) (by decide +kernel)) rfl, wt (List.mem_of_getElem? (i := 81) (by decide +kernel)) rfl, wt (List.mem_of_getElem? (i := 563) (by decide +kernel)) rfl, by decide +kernel⟩
theorem ok_X8_markBroken : okV yX8_markBroken cX8_markBroken 2 none 0 := ⟨wt (List.mem_of_getElem? (i := 566) (by decide +kernel)) rfl, wt (List.mem_of_getElem? (i := 13) (by decide +kernel)) rfl, wt (List.mem_of_getElem? (i := 81) (by decide +kernel)) rfl, wt (List.mem_of_getElem? (i := 567) (by decide +kernel)) rfl, by decide +kernel⟩
theorem ok_X8_markOpen : okV yX8_markOpen cX8_markOpen 2 none 0 := ⟨wt (List.mem_of_getElem? (i := 570) (by decide +kernel)) rfl, wt (List.mem_of_getElem? (i := 14) (by decide +kernel)) rfl, wt (List.mem_of_getElem? (i := 81) (by decide +kernel)) rfl, wt (List.mem_of_getElem? (i := 571) (by decide +kernel)) rfl, by decide +kernel⟩
theorem ok_X8_cellOf : okV yX8_cellOf cX8_cellOf 4 (some .int) 2 := ⟨wt (List.mem_of_getElem? (i := 573) (by decide +kernel)) rfl, wt (List.mem_of_getElem? (i := 574) (by decide +kernel)) rfl, wt (List.mem_of_getElem? (i := 81) (by decide +kernel)) rfl, wt (List.mem_of_getElem? (i := 575) (by decide +kernel)) rfl, by decide +kernel⟩
theorem ok_X8_openUnless : okV yX8_openUnless cX8_openUnless 3 none 2 := ⟨wt (List.mem_of_getElem? (i := 578) (by decide +kernel)) rfl, wt (List.mem_of_getElem? (i := 15) (by decide +kernel)) rfl, wt (List.mem_of_getElem? (i := 81) (by decide +kernel)) rfl, wt (List.mem_of_getElem? (i := 579) (by decide +kernel)) rfl, by decide +kernel⟩
theorem ok_X8_hasCell : okV yX8_hasCell cX8_hasCell 2 (some .boolean) 1 := ⟨wt (List.mem_of_getElem? (i := 581) (by decide +kernel)) rfl, wt (List.mem_of_getElem? (i := 582) (by decide +kernel)) rfl, wt (List.mem_of_getElem? (i := 81) (by decide +kernel)) rfl, wt (List.mem_of_getElem? (i := 583) (by decide +kernel)) rfl, by decide +kernel⟩
theorem ok_X8_countHeads : okV yX8_countHeads cX8_countHeads 2 (some .int) 0 := ⟨wt (List.mem_of_getElem? (i := 586) (by decide +kernel)) rfl, wt (List.mem_of_getElem? (i := 16) (by decide +kernel)) rfl, wt (List.mem_of_getElem? (i := 81) (by decide +kernel)) rfl, wt (List.mem_of_getElem? (i := 587) (by decide +kernel)) rfl, by decide +kernel⟩
theorem ok_X8_isOneColumnWide : okV yX8_isOneColumnWide cX8_isOneColumnWide 3 (some .boolean) 1 := ⟨wt (List.mem_of_getElem? (i := 590) (by decide +kernel)) rfl, wt (List.mem_of_getElem? (i := 17) (by decide +kernel)) rfl, wt (List.mem_of_getElem? (i := 81) (by decide +kernel)) rfl, wt (List.mem_of_getElem? (i := 591) (by decide +kernel)) rfl, by decide +kernel⟩
theorem ok_X4_find : okV yX4_find cX4_find 5 none 3 := ⟨wt (List.mem_of_getElem? (i := 593) (by decide +kernel)) rfl, wt (List.mem_of_getElem? (i := 594) (by decide +kernel)) rfl, wt (List.mem_of_getElem? (i := 83) (by decide +kernel)) rfl, wt (List.mem_of_getElem? (i := 595) (by decide +kernel)) rfl, by decide +kernel⟩
theorem ok_X4_place : okV yX4_place cX4_place 12 none 4 := ⟨wt (List.mem_of_getElem? (i := 598) (by decide +kernel)) rfl, wt (List.mem_of_getElem? (i := 18) (by decide +kernel)) rfl, wt (List.mem_of_getElem? (i := 83) (by decide +kernel)) rfl, wt (List.mem_of_getElem? (i := 599) (by decide +kernel)) rfl, by decide +kernel⟩
theorem ok_X2_lineBefore : okV yX2_lineBefore cX2_lineBefore 4 (some .int) 2 := ⟨wt (List.mem_of_getElem? (i := 602) (by decide +kernel)) rfl, wt (List.mem_of_getElem? (i := 603) (by decide +kernel)) rfl, wt (List.mem_of_getElem? (i := 82) (by decide +kernel)) rfl, wt (List.mem_of_getElem? (i := 604) (by decide +kernel)) rfl, by decide +kernel⟩
theorem ok_X4_putInOrder : okV yX4_putInOrder cX4_putInOrder 4 none 2 := ⟨wt (List.mem_of_getElem? (i := 609) (by decide +kernel)) rfl, wt (List.mem_of_getElem? (i := 19) (by decide +kernel)) rfl, wt (List.mem_of_getElem? (i := 83) (by decide +kernel)) rfl, wt (List.mem_of_getElem? (i := 610) (by decide +kernel)) rfl, by decide +kernel⟩
theorem ok_X4_isReadBefore : okS yX4_isReadBefore cX4_isReadBefore 5 (some .boolean) 3 := ⟨wt (List.mem_of_getElem? (i := 612) (by decide +kernel)) rfl, wt (List.mem_of_getElem? (i := 83) (by decide +kernel)) rfl, wt (List.mem_of_getElem? (i := 613) (by decide +kernel)) rfl, by decide +kernel⟩
theorem ok_X8_findMissed : okV yX8_findMissed cX8_findMissed 5 none 3 := ⟨wt (List.mem_of_getElem? (i := 615) (by decide +kernel)) rfl, wt (List.mem_of_getElem? (i := 616) (by decide +kernel)) rfl, wt (List.mem_of_getElem? (i := 81) (by decide +kernel)) rfl, wt (List.mem_of_getElem? (i := 617) (by decide +kernel)) rfl, by decide +kernel⟩
theorem ok_X8_findMissedIn : okV yX8_findMissedIn cX8_findMissedIn 9 none 5 := ⟨wt (List.mem_of_getElem? (i := 620) (by decide +kernel)) rfl, wt (List.mem_of_getElem? (i := 20) (by decide +kernel)) rfl, wt (List.mem_of_getElem? (i := 81) (by decide +kernel)) rfl, wt (List.mem_of_getElem? (i := 621) (by decide +kernel)) rfl, by decide +kernel⟩
theorem ok_X4_keepClear : okV yX4_keepClear cX4_keepClear 11 (some .boolean) 5 := ⟨wt (List.mem_of_getElem? (i := 623) (by decide +kernel)) rfl, wt (List.mem_of_getElem? (i := 624) (by decide +kernel)) rfl, wt (List.mem_of_getElem? (i := 83) (by decide +kernel)) rfl, wt (List.mem_of_getElem? (i := 625) (by decide +kernel)) rfl, by decide +kernel⟩
theorem ok_X4_isIn : okV yX4_isIn cX4_isIn 4 (some .boolean) 3 := ⟨wt (List.mem_of_getElem? (i := 628) (by decide +kernel)) rfl, wt (List.mem_of_getElem? (i := 21) (by decide +kernel)) rfl, wt (List.mem_of_getElem? (i := 83) (by decide +kernel)) rfl, wt (List.mem_of_getElem? (i := 629) (by decide +kernel)) rfl, by decide +kernel⟩
theorem ok_X8_addMissed : okV yX8_addMissed cX8_addMissed 4 none 3 := ⟨wt (List.mem_of_getElem? (i := 632) (by decide +kernel)) rfl, wt (List.mem_of_getElem? (i := 22) (by decide +kernel)) rfl, wt (List.mem_of_getElem? (i := 81) (by decide +kernel)) rfl, wt (List.mem_of_getElem? (i := 633) (by decide +kernel)) rfl, by decide +kernel⟩
theorem ok_X9_write : okV yX9_write cX9_write 5 (some .int) 4 := ⟨wt (List.mem_of_getElem? (i := 635) (by decide +kernel)) rfl, wt (List.mem_of_getElem? (i := 636) (by decide +kernel)) rfl, wt (List.mem_of_getElem? (i := 73) (by decide +kernel)) rfl, wt (List.mem_of_getElem? (i := 637) (by decide +kernel)) rfl, by decide +kernel⟩
theorem ok_X9_strike : okV yX9_strike cX9_strike 2 (some .int) 1 := ⟨wt (List.mem_of_getElem? (i := 639) (by decide +kernel)) rfl, wt (List.mem_of_getElem? (i := 640) (by decide +kernel)) rfl, wt (List.mem_of_getElem? (i := 73) (by decide +kernel)) rfl, wt (List.mem_of_getElem? (i := 641) (by decide +kernel)) rfl, by decide +kernel⟩
theorem ok_X9_word : okV yX9_word cX9_word 4 (some .int) 2 := ⟨wt (List.mem_of_getElem? (i := 643) (by decide +kernel)) rfl, wt (List.mem_of_getElem? (i := 644) (by decide +kernel)) rfl, wt (List.mem_of_getElem? (i := 73) (by decide +kernel)) rfl, wt (List.mem_of_getElem? (i := 645) (by decide +kernel)) rfl, by decide +kernel⟩
theorem ok_X9_rule : okV yX9_rule cX9_rule 4 (some .int) 2 := ⟨wt (List.mem_of_getElem? (i := 647) (by decide +kernel)) rfl, wt (List.mem_of_getElem? (i := 648) (by decide +kernel)) rfl, wt (List.mem_of_getElem? (i := 73) (by decide +kernel)) rfl, wt (List.mem_of_getElem? (i := 649) (by decide +kernel)) rfl, by decide +kernel⟩
theorem ok_X7_has : okV yX7_has cX7_has 2 (some .boolean) 1 := ⟨wt (List.mem_of_getElem? (i := 651) (by decide +kernel)) rfl, wt (List.mem_of_getElem? (i := 652) (by decide +kernel)) rfl, wt (List.mem_of_getElem? (i := 79) (by decide +kernel)) rfl, wt (List.mem_of_getElem? (i := 653) (by decide +kernel)) rfl, by decide +kernel⟩
theorem ok_X6_tell : okV yX6_tell cX6_tell 2 (some .int) 1 := ⟨wt (List.mem_of_getElem? (i := 655) (by decide +kernel)) rfl, wt (List.mem_of_getElem? (i := 656) (by decide +kernel)) rfl, wt (List.mem_of_getElem? (i := 80) (by decide +kernel)) rfl, wt (List.mem_of_getElem? (i := 657) (by decide +kernel)) rfl, by decide +kernel⟩
theorem ok_X9_cross : okV yX9_cross cX9_cross 4 (some .int) 2 := ⟨wt (List.mem_of_getElem? (i := 659) (by decide +kernel)) rfl, wt (List.mem_of_getElem? (i := 660) (by decide +kernel)) rfl, wt (List.mem_of_getElem? (i := 73) (by decide +kernel)) rfl, wt (List.mem_of_getElem? (i := 661) (by decide +kernel)) rfl, by decide +kernel⟩
theorem ok_X9_table : okV yX9_table cX9_table 4 (some .int) 2 := ⟨wt (List.mem_of_getElem? (i := 664) (by decide +kernel)) rfl, wt (List.mem_of_getElem? (i := 665) (by decide +kernel)) rfl, wt (List.mem_of_getElem? (i := 73) (by decide +kernel)) rfl, wt (List.mem_of_getElem? (i := 666) (by decide +kernel)) rfl, by decide +kernel⟩
theorem ok_X0_has : okV yX0_has cX0_has 2 (some .boolean) 1 := ⟨wt (List.mem_of_getElem? (i := 668) (by decide +kernel)) rfl, wt (List.mem_of_getElem? (i := 669) (by decide +kernel)) rfl, wt (List.mem_of_getElem? (i := 77) (by decide +kernel)) rfl, wt (List.mem_of_getElem? (i := 670) (by decide +kernel)) rfl, by decide +kernel⟩
theorem ok_X8_tell : okV yX8_tell cX8_tell 2 (some .int) 1 := ⟨wt (List.mem_of_getElem? (i := 672) (by decide +kernel)) rfl, wt (List.mem_of_getElem? (i := 673) (by decide +kernel)) rfl, wt (List.mem_of_getElem? (i := 81) (by decide +kernel)) rfl, wt (List.mem_of_getElem? (i := 674) (by decide +kernel)) rfl, by decide +kernel⟩
theorem ok_X8_countWhole : okV yX8_countWhole cX8_countWhole 3 (some .int) 0 := ⟨wt (List.mem_of_getElem? (i := 677) (by decide +kernel)) rfl, wt (List.mem_of_getElem? (i := 23) (by decide +kernel)) rfl, wt (List.mem_of_getElem? (i := 81) (by decide +kernel)) rfl, wt (List.mem_of_getElem? (i := 678) (by decide +kernel)) rfl, by decide +kernel⟩
theorem ok_X9_edge : okV yX9_edge cX9_edge 5 (some .int) 3 := ⟨wt (List.mem_of_getElem? (i := 680) (by decide +kernel)) rfl, wt (List.mem_of_getElem? (i := 681) (by decide +kernel)) rfl, wt (List.mem_of_getElem? (i := 73) (by decide +kernel)) rfl, wt (List.mem_of_getElem? (i := 682) (by decide +kernel)) rfl, by decide +kernel⟩
theorem ok_X9_ruled : okV yX9_ruled cX9_ruled 7 (some .int) 4 := ⟨wt (List.mem_of_getElem? (i := 685) (by decide +kernel)) rfl, wt (List.mem_of_getElem? (i := 686) (by decide +kernel)) rfl, wt (List.mem_of_getElem? (i := 73) (by decide +kernel)) rfl, wt (List.mem_of_getElem? (i := 687) (by decide +kernel)) rfl, by decide +kernel⟩
theorem ok_X9_at : okV yX9_at cX9_at 6 (some .int) 3 := ⟨wt (List.mem_of_getElem? (i := 691) (by decide +kernel)) rfl, wt (List.mem_of_getElem? (i := 692) (by decide +kernel)) rfl, wt (List.mem_of_getElem? (i := 73) (by decide +kernel)) rfl, wt (List.mem_of_getElem? (i := 693) (by decide +kernel)) rfl, by decide +kernel⟩
theorem ok_X9_cell : okV yX9_cell cX9_cell 5 (some .int) 3 := ⟨wt (List.mem_of_getElem? (i := 696) (by decide +kernel)) rfl, wt (List.mem_of_getElem? (i := 697) (by decide +kernel)) rfl, wt (List.mem_of_getElem? (i := 73) (by decide +kernel)) rfl, wt (List.mem_of_getElem? (i := 698) (by decide +kernel)) rfl, by decide +kernel⟩
theorem ok_X9_read : okV yX9_read cX9_read 5 (some .int) 3 := ⟨wt (List.mem_of_getElem? (i := 701) (by decide +kernel)) rfl, wt (List.mem_of_getElem? (i := 702) (by decide +kernel)) rfl, wt (List.mem_of_getElem? (i := 73) (by decide +kernel)) rfl, wt (List.mem_of_getElem? (i := 703) (by decide +kernel)) rfl, by decide +kernel⟩
theorem ok_X4_wordRead : okV yX4_wordRead cX4_wordRead 6 (some .int) 3 := ⟨wt (List.mem_of_getElem? (i := 705) (by decide +kernel)) rfl, wt (List.mem_of_getElem? (i := 706) (by decide +kernel)) rfl, wt (List.mem_of_getElem? (i := 83) (by decide +kernel)) rfl, wt (List.mem_of_getElem? (i := 707) (by decide +kernel)) rfl, by decide +kernel⟩
theorem ok_X9_missed : okV yX9_missed cX9_missed 6 (some .int) 3 := ⟨wt (List.mem_of_getElem? (i := 709) (by decide +kernel)) rfl, wt (List.mem_of_getElem? (i := 710) (by decide +kernel)) rfl, wt (List.mem_of_getElem? (i := 73) (by decide +kernel)) rfl, wt (List.mem_of_getElem? (i := 711) (by decide +kernel)) rfl, by decide +kernel⟩
theorem ok_X9_mend : okV yX9_mend cX9_mend 5 (some .int) 1 := ⟨wt (List.mem_of_getElem? (i := 713) (by decide +kernel)) rfl, wt (List.mem_of_getElem? (i := 714) (by decide +kernel)) rfl, wt (List.mem_of_getElem? (i := 73) (by decide +kernel)) rfl, wt (List.mem_of_getElem? (i := 715) (by decide +kernel)) rfl, by decide +kernel⟩
theorem ok_X8_drawMissed : okV yX8_drawMissed cX8_drawMissed 9 none 2 := ⟨wt (List.mem_of_getElem? (i := 717) (by decide +kernel)) rfl, wt (List.mem_of_getElem? (i := 718) (by decide +kernel)) rfl, wt (List.mem_of_getElem? (i := 81) (by decide +kernel)) rfl, wt (List.mem_of_getElem? (i := 719) (by decide +kernel)) rfl, by decide +kernel⟩
theorem ok_X9_heading : okV yX9_heading cX9_heading 5 (some .int) 3 := ⟨wt (List.mem_of_getElem? (i := 722) (by decide +kernel)) rfl, wt (List.mem_of_getElem? (i := 723) (by decide +kernel)) rfl, wt (List.mem_of_getElem? (i := 73) (by decide +kernel)) rfl, wt (List.mem_of_getElem? (i := 724) (by decide +kernel)) rfl, by decide +kernel⟩
theorem ok_X8_headingOf : okV yX8_headingOf cX8_headingOf 5 (some .int) 2 := ⟨wt (List.mem_of_getElem? (i := 726) (by decide +kernel)) rfl, wt (List.mem_of_getElem? (i := 727) (by decide +kernel)) rfl, wt (List.mem_of_getElem? (i := 81) (by decide +kernel)) rfl, wt (List.mem_of_getElem? (i := 728) (by decide +kernel)) rfl, by decide +kernel⟩
theorem ok_X8_isFirstInColumn : okV yX8_isFirstInColumn cX8_isFirstInColumn 4 (some .boolean) 2 := ⟨wt (List.mem_of_getElem? (i := 731) (by decide +kernel)) rfl, wt (List.mem_of_getElem? (i := 24) (by decide +kernel)) rfl, wt (List.mem_of_getElem? (i := 81) (by decide +kernel)) rfl, wt (List.mem_of_getElem? (i := 732) (by decide +kernel)) rfl, by decide +kernel⟩
theorem ok_X9_image : okV yX9_image cX9_image 2 (some .int) 1 := ⟨wt (List.mem_of_getElem? (i := 734) (by decide +kernel)) rfl, wt (List.mem_of_getElem? (i := 735) (by decide +kernel)) rfl, wt (List.mem_of_getElem? (i := 73) (by decide +kernel)) rfl, wt (List.mem_of_getElem? (i := 736) (by decide +kernel)) rfl, by decide +kernel⟩
theorem ok_X3_take : okV yX3_take cX3_take 3 none 1 := ⟨wt (List.mem_of_getElem? (i := 738) (by decide +kernel)) rfl, wt (List.mem_of_getElem? (i := 739) (by decide +kernel)) rfl, wt (List.mem_of_getElem? (i := 74) (by decide +kernel)) rfl, wt (List.mem_of_getElem? (i := 740) (by decide +kernel)) rfl, by decide +kernel⟩
theorem ok_X5_take : okV yX5_take cX5_take 3 none 1 := ⟨wt (List.mem_of_getElem? (i := 742) (by decide +kernel)) rfl, wt (List.mem_of_getElem? (i := 743) (by decide +kernel)) rfl, wt (List.mem_of_getElem? (i := 75) (by decide +kernel)) rfl, wt (List.mem_of_getElem? (i := 744) (by decide +kernel)) rfl, by decide +kernel⟩
theorem ok_X9_restore : okV yX9_restore cX9_restore 2 (some .int) 1 := ⟨wt (List.mem_of_getElem? (i := 746) (by decide +kernel)) rfl, wt (List.mem_of_getElem? (i := 747) (by decide +kernel)) rfl, wt (List.mem_of_getElem? (i := 73) (by decide +kernel)) rfl, wt (List.mem_of_getElem? (i := 748) (by decide +kernel)) rfl, by decide +kernel⟩
theorem ok_X9_told : okV yX9_told cX9_told 2 (some .int) 1 := ⟨wt (List.mem_of_getElem? (i := 750) (by decide +kernel)) rfl, wt (List.mem_of_getElem? (i := 751) (by decide +kernel)) rfl, wt (List.mem_of_getElem? (i := 73) (by decide +kernel)) rfl, wt (List.mem_of_getElem? (i := 752) (by decide +kernel)) rfl, by decide +kernel⟩
theorem ok_X10_set : okV yX10_set cX10_set 4 (some .int) 2 := ⟨wt (List.mem_of_getElem? (i := 845) (by decide +kernel)) rfl, wt (List.mem_of_getElem? (i := 846) (by decide +kernel)) rfl, wt (List.mem_of_getElem? (i := 84) (by decide +kernel)) rfl, wt (List.mem_of_getElem? (i := 847) (by decide +kernel)) rfl, by decide +kernel⟩
theorem ok_X10_in : okS yX10_in cX10_in 6 (some .boolean) 3 := ⟨wt (List.mem_of_getElem? (i := 850) (by decide +kernel)) rfl, wt (List.mem_of_getElem? (i := 84) (by decide +kernel)) rfl, wt (List.mem_of_getElem? (i := 851) (by decide +kernel)) rfl, by decide +kernel⟩
theorem ok_X10_draw : okV yX10_draw cX10_draw 5 (some .int) 4 := ⟨wt (List.mem_of_getElem? (i := 856) (by decide +kernel)) rfl, wt (List.mem_of_getElem? (i := 857) (by decide +kernel)) rfl, wt (List.mem_of_getElem? (i := 84) (by decide +kernel)) rfl, wt (List.mem_of_getElem? (i := 858) (by decide +kernel)) rfl, by decide +kernel⟩
theorem ok_X10_isPlace : okS yX10_isPlace cX10_isPlace 1 (some .boolean) 1 := ⟨wt (List.mem_of_getElem? (i := 860) (by decide +kernel)) rfl, wt (List.mem_of_getElem? (i := 84) (by decide +kernel)) rfl, wt (List.mem_of_getElem? (i := 861) (by decide +kernel)) rfl, by decide +kernel⟩
theorem ok_X10_addPiece : okV yX10_addPiece cX10_addPiece 5 none 4 := ⟨wt (List.mem_of_getElem? (i := 865) (by decide +kernel)) rfl, wt (List.mem_of_getElem? (i := 25) (by decide +kernel)) rfl, wt (List.mem_of_getElem? (i := 84) (by decide +kernel)) rfl, wt (List.mem_of_getElem? (i := 866) (by decide +kernel)) rfl, by decide +kernel⟩
theorem ok_X10_erase : okV yX10_erase cX10_erase 3 (some .int) 1 := ⟨wt (List.mem_of_getElem? (i := 868) (by decide +kernel)) rfl, wt (List.mem_of_getElem? (i := 869) (by decide +kernel)) rfl, wt (List.mem_of_getElem? (i := 84) (by decide +kernel)) rfl, wt (List.mem_of_getElem? (i := 870) (by decide +kernel)) rfl, by decide +kernel⟩
theorem ok_X10_write : okV yX10_write cX10_write 5 (some .int) 4 := ⟨wt (List.mem_of_getElem? (i := 872) (by decide +kernel)) rfl, wt (List.mem_of_getElem? (i := 873) (by decide +kernel)) rfl, wt (List.mem_of_getElem? (i := 84) (by decide +kernel)) rfl, wt (List.mem_of_getElem? (i := 874) (by decide +kernel)) rfl, by decide +kernel⟩
theorem ok_X10_strike : okV yX10_strike cX10_strike 3 (some .int) 1 := ⟨wt (List.mem_of_getElem? (i := 876) (by decide +kernel)) rfl, wt (List.mem_of_getElem? (i := 877) (by decide +kernel)) rfl, wt (List.mem_of_getElem? (i := 84) (by decide +kernel)) rfl, wt (List.mem_of_getElem? (i := 878) (by decide +kernel)) rfl, by decide +kernel⟩
theorem ok_X10_piece : okV yX10_piece cX10_piece 3 (some .int) 2 := ⟨wt (List.mem_of_getElem? (i := 880) (by decide +kernel)) rfl, wt (List.mem_of_getElem? (i := 881) (by decide +kernel)) rfl, wt (List.mem_of_getElem? (i := 84) (by decide +kernel)) rfl, wt (List.mem_of_getElem? (i := 882) (by decide +kernel)) rfl, by decide +kernel⟩
theorem ok_X10_findAll : okV yX10_findAll cX10_findAll 2 none 0 := ⟨wt (List.mem_of_getElem? (i := 886) (by decide +kernel)) rfl, wt (List.mem_of_getElem? (i := 26) (by decide +kernel)) rfl, wt (List.mem_of_getElem? (i := 84) (by decide +kernel)) rfl, wt (List.mem_of_getElem? (i := 887) (by decide +kernel)) rfl, by decide +kernel⟩
theorem ok_X10_findRules : okV yX10_findRules cX10_findRules 3 none 0 := ⟨wt (List.mem_of_getElem? (i := 890) (by decide +kernel)) rfl, wt (List.mem_of_getElem? (i := 27) (by decide +kernel)) rfl, wt (List.mem_of_getElem? (i := 84) (by decide +kernel)) rfl, wt (List.mem_of_getElem? (i := 891) (by decide +kernel)) rfl, by decide +kernel⟩
theorem ok_X10_begin : okV yX10_begin cX10_begin 3 none 1 := ⟨wt (List.mem_of_getElem? (i := 894) (by decide +kernel)) rfl, wt (List.mem_of_getElem? (i := 28) (by decide +kernel)) rfl, wt (List.mem_of_getElem? (i := 84) (by decide +kernel)) rfl, wt (List.mem_of_getElem? (i := 895) (by decide +kernel)) rfl, by decide +kernel⟩
theorem ok_X10_isNear : okV yX10_isNear cX10_isNear 5 (some .boolean) 2 := ⟨wt (List.mem_of_getElem? (i := 898) (by decide +kernel)) rfl, wt (List.mem_of_getElem? (i := 29) (by decide +kernel)) rfl, wt (List.mem_of_getElem? (i := 84) (by decide +kernel)) rfl, wt (List.mem_of_getElem? (i := 899) (by decide +kernel)) rfl, by decide +kernel⟩
theorem ok_X10_pieceAt : okV yX10_pieceAt cX10_pieceAt 3 (some .int) 2 := ⟨wt (List.mem_of_getElem? (i := 902) (by decide +kernel)) rfl, wt (List.mem_of_getElem? (i := 30) (by decide +kernel)) rfl, wt (List.mem_of_getElem? (i := 84) (by decide +kernel)) rfl, wt (List.mem_of_getElem? (i := 903) (by decide +kernel)) rfl, by decide +kernel⟩
theorem ok_X10_greater : okS yX10_greater cX10_greater 2 (some .int) 2 := ⟨wt (List.mem_of_getElem? (i := 905) (by decide +kernel)) rfl, wt (List.mem_of_getElem? (i := 84) (by decide +kernel)) rfl, wt (List.mem_of_getElem? (i := 906) (by decide +kernel)) rfl, by decide +kernel⟩
theorem ok_X10_less : okS yX10_less cX10_less 2 (some .int) 2 := ⟨wt (List.mem_of_getElem? (i := 908) (by decide +kernel)) rfl, wt (List.mem_of_getElem? (i := 84) (by decide +kernel)) rfl, wt (List.mem_of_getElem? (i := 909) (by decide +kernel)) rfl, by decide +kernel⟩
theorem ok_X10_join : okV yX10_join cX10_join 7 none 3 := ⟨wt (List.mem_of_getElem? (i := 912) (by decide +kernel)) rfl, wt (List.mem_of_getElem? (i := 31) (by decide +kernel)) rfl, wt (List.mem_of_getElem? (i := 84) (by decide +kernel)) rfl, wt (List.mem_of_getElem? (i := 913) (by decide +kernel)) rfl, by decide +kernel⟩
theorem ok_X10_addRule : okV yX10_addRule cX10_addRule 6 none 1 := ⟨wt (List.mem_of_getElem? (i := 916) (by decide +kernel)) rfl, wt (List.mem_of_getElem? (i := 32) (by decide +kernel)) rfl, wt (List.mem_of_getElem? (i := 84) (by decide +kernel)) rfl, wt (List.mem_of_getElem? (i := 917) (by decide +kernel)) rfl, by decide +kernel⟩
theorem ok_X10_sortRules : okV yX10_sortRules cX10_sortRules 6 none 0 := ⟨wt (List.mem_of_getElem? (i := 920) (by decide +kernel)) rfl, wt (List.mem_of_getElem? (i := 33) (by decide +kernel)) rfl, wt (List.mem_of_getElem? (i := 84) (by decide +kernel)) rfl, wt (List.mem_of_getElem? (i := 921) (by decide +kernel)) rfl, by decide +kernel⟩
theorem ok_X10_isRuleBefore : okV yX10_isRuleBefore cX10_isRuleBefore 4 (some .boolean) 2 := ⟨wt (List.mem_of_getElem? (i := 924) (by decide +kernel)) rfl, wt (List.mem_of_getElem? (i := 34) (by decide +kernel)) rfl, wt (List.mem_of_getElem? (i := 84) (by decide +kernel)) rfl, wt (List.mem_of_getElem? (i := 925) (by decide +kernel)) rfl, by decide +kernel⟩
theorem ok_X10_ruleAt : okV yX10_ruleAt cX10_ruleAt 3 (some .int) 2 := ⟨wt (List.mem_of_getElem? (i := 928) (by decide +kernel)) rfl, wt (List.mem_of_getElem? (i := 35) (by decide +kernel)) rfl, wt (List.mem_of_getElem? (i := 84) (by decide +kernel)) rfl, wt (List.mem_of_getElem? (i := 929) (by decide +kernel)) rfl, by decide +kernel⟩
theorem ok_X10_findTables : okV yX10_findTables cX10_findTables 3 none 0 := ⟨wt (List.mem_of_getElem? (i := 932) (by decide +kernel)) rfl, wt (List.mem_of_getElem? (i := 36) (by decide +kernel)) rfl, wt (List.mem_of_getElem? (i := 84) (by decide +kernel)) rfl, wt (List.mem_of_getElem? (i := 933) (by decide +kernel)) rfl, by decide +kernel⟩
theorem ok_X10_isCross : okV yX10_isCross cX10_isCross 3 (some .boolean) 2 := ⟨wt (List.mem_of_getElem? (i := 936) (by decide +kernel)) rfl, wt (List.mem_of_getElem? (i := 37) (by decide +kernel)) rfl, wt (List.mem_of_getElem? (i := 84) (by decide +kernel)) rfl, wt (List.mem_of_getElem? (i := 937) (by decide +kernel)) rfl, by decide +kernel⟩
theorem ok_X10_lies : okV yX10_lies cX10_lies 3 (some .boolean) 2 := ⟨wt (List.mem_of_getElem? (i := 940) (by decide +kernel)) rfl, wt (List.mem_of_getElem? (i := 38) (by decide +kernel)) rfl, wt (List.mem_of_getElem? (i := 84) (by decide +kernel)) rfl, wt (List.mem_of_getElem? (i := 941) (by decide +kernel)) rfl, by decide +kernel⟩
theorem ok_X10_countLines : okV yX10_countLines cX10_countLines 7 (some .int) 2 := ⟨wt (List.mem_of_getElem? (i := 944) (by decide +kernel)) rfl, wt (List.mem_of_getElem? (i := 39) (by decide +kernel)) rfl, wt (List.mem_of_getElem? (i := 84) (by decide +kernel)) rfl, wt (List.mem_of_getElem? (i := 945) (by decide +kernel)) rfl, by decide +kernel⟩
theorem ok_X10_layLines : okV yX10_layLines cX10_layLines 6 none 2 := ⟨wt (List.mem_of_getElem? (i := 948) (by decide +kernel)) rfl, wt (List.mem_of_getElem? (i := 40) (by decide +kernel)) rfl, wt (List.mem_of_getElem? (i := 84) (by decide +kernel)) rfl, wt (List.mem_of_getElem? (i := 949) (by decide +kernel)) rfl, by decide +kernel⟩
theorem ok_X10_findCells : okV yX10_findCells cX10_findCells 7 none 1 := ⟨wt (List.mem_of_getElem? (i := 952) (by decide +kernel)) rfl, wt (List.mem_of_getElem? (i := 41) (by decide +kernel)) rfl, wt (List.mem_of_getElem? (i := 84) (by decide +kernel)) rfl, wt (List.mem_of_getElem? (i := 953) (by decide +kernel)) rfl, by decide +kernel⟩
theorem ok_X10_columnsOf : okV yX10_columnsOf cX10_columnsOf 2 (some .int) 1 := ⟨wt (List.mem_of_getElem? (i := 956) (by decide +kernel)) rfl, wt (List.mem_of_getElem? (i := 42) (by decide +kernel)) rfl, wt (List.mem_of_getElem? (i := 84) (by decide +kernel)) rfl, wt (List.mem_of_getElem? (i := 957) (by decide +kernel)) rfl, by decide +kernel⟩
theorem ok_X10_rowsOf : okV yX10_rowsOf cX10_rowsOf 2 (some .int) 1 := ⟨wt (List.mem_of_getElem? (i := 960) (by decide +kernel)) rfl, wt (List.mem_of_getElem? (i := 43) (by decide +kernel)) rfl, wt (List.mem_of_getElem? (i := 84) (by decide +kernel)) rfl, wt (List.mem_of_getElem? (i := 961) (by decide +kernel)) rfl, by decide +kernel⟩
theorem ok_X10_isRuled : okV yX10_isRuled cX10_isRuled 6 (some .boolean) 4 := ⟨wt (List.mem_of_getElem? (i := 964) (by decide +kernel)) rfl, wt (List.mem_of_getElem? (i := 44) (by decide +kernel)) rfl, wt (List.mem_of_getElem? (i := 84) (by decide +kernel)) rfl, wt (List.mem_of_getElem? (i := 965) (by decide +kernel)) rfl, by decide +kernel⟩
theorem ok_X10_lineAt : okV yX10_lineAt cX10_lineAt 4 (some .int) 3 := ⟨wt (List.mem_of_getElem? (i := 968) (by decide +kernel)) rfl, wt (List.mem_of_getElem? (i := 45) (by decide +kernel)) rfl, wt (List.mem_of_getElem? (i := 84) (by decide +kernel)) rfl, wt (List.mem_of_getElem? (i := 969) (by decide +kernel)) rfl, by decide +kernel⟩
theorem ok_X10_reaches : okV yX10_reaches cX10_reaches 9 (some .boolean) 5 := ⟨wt (List.mem_of_getElem? (i := 972) (by decide +kernel)) rfl, wt (List.mem_of_getElem? (i := 46) (by decide +kernel)) rfl, wt (List.mem_of_getElem? (i := 84) (by decide +kernel)) rfl, wt (List.mem_of_getElem? (i := 973) (by decide +kernel)) rfl, by decide +kernel⟩
theorem ok_X10_addField : okV yX10_addField cX10_addField 8 none 3 := ⟨wt (List.mem_of_getElem? (i := 976) (by decide +kernel)) rfl, wt (List.mem_of_getElem? (i := 47) (by decide +kernel)) rfl, wt (List.mem_of_getElem? (i := 84) (by decide +kernel)) rfl, wt (List.mem_of_getElem? (i := 977) (by decide +kernel)) rfl, by decide +kernel⟩
theorem ok_X10_isOpen : okV yX10_isOpen cX10_isOpen 8 (some .boolean) 3 := ⟨wt (List.mem_of_getElem? (i := 980) (by decide +kernel)) rfl, wt (List.mem_of_getElem? (i := 48) (by decide +kernel)) rfl, wt (List.mem_of_getElem? (i := 84) (by decide +kernel)) rfl, wt (List.mem_of_getElem? (i := 981) (by decide +kernel)) rfl, by decide +kernel⟩
theorem ok_X10_cellAt : okV yX10_cellAt cX10_cellAt 3 (some .int) 2 := ⟨wt (List.mem_of_getElem? (i := 984) (by decide +kernel)) rfl, wt (List.mem_of_getElem? (i := 49) (by decide +kernel)) rfl, wt (List.mem_of_getElem? (i := 84) (by decide +kernel)) rfl, wt (List.mem_of_getElem? (i := 985) (by decide +kernel)) rfl, by decide +kernel⟩
theorem ok_X10_findWord : okV yX10_findWord cX10_findWord 5 none 1 := ⟨wt (List.mem_of_getElem? (i := 988) (by decide +kernel)) rfl, wt (List.mem_of_getElem? (i := 50) (by decide +kernel)) rfl, wt (List.mem_of_getElem? (i := 84) (by decide +kernel)) rfl, wt (List.mem_of_getElem? (i := 989) (by decide +kernel)) rfl, by decide +kernel⟩
theorem ok_X10_boxAt : okV yX10_boxAt cX10_boxAt 3 (some .int) 2 := ⟨wt (List.mem_of_getElem? (i := 992) (by decide +kernel)) rfl, wt (List.mem_of_getElem? (i := 51) (by decide +kernel)) rfl, wt (List.mem_of_getElem? (i := 84) (by decide +kernel)) rfl, wt (List.mem_of_getElem? (i := 993) (by decide +kernel)) rfl, by decide +kernel⟩
theorem ok_X10_between : okV yX10_between cX10_between 5 (some .int) 3 := ⟨wt (List.mem_of_getElem? (i := 996) (by decide +kernel)) rfl, wt (List.mem_of_getElem? (i := 52) (by decide +kernel)) rfl, wt (List.mem_of_getElem? (i := 84) (by decide +kernel)) rfl, wt (List.mem_of_getElem? (i := 997) (by decide +kernel)) rfl, by decide +kernel⟩
theorem ok_X10_word : okV yX10_word cX10_word 4 (some .int) 2 := ⟨wt (List.mem_of_getElem? (i := 999) (by decide +kernel)) rfl, wt (List.mem_of_getElem? (i := 1000) (by decide +kernel)) rfl, wt (List.mem_of_getElem? (i := 84) (by decide +kernel)) rfl, wt (List.mem_of_getElem? (i := 1001) (by decide +kernel)) rfl, by decide +kernel⟩
theorem ok_X10_rule : okV yX10_rule cX10_rule 5 (some .int) 2 := ⟨wt (List.mem_of_getElem? (i := 1003) (by decide +kernel)) rfl, wt (List.mem_of_getElem? (i := 1004) (by decide +kernel)) rfl, wt (List.mem_of_getElem? (i := 84) (by decide +kernel)) rfl, wt (List.mem_of_getElem? (i := 1005) (by decide +kernel)) rfl, by decide +kernel⟩
theorem ok_X10_isRule : okV yX10_isRule cX10_isRule 2 (some .boolean) 1 := ⟨wt (List.mem_of_getElem? (i := 1008) (by decide +kernel)) rfl, wt (List.mem_of_getElem? (i := 53) (by decide +kernel)) rfl, wt (List.mem_of_getElem? (i := 84) (by decide +kernel)) rfl, wt (List.mem_of_getElem? (i := 1009) (by decide +kernel)) rfl, by decide +kernel⟩
theorem ok_X10_cross : okV yX10_cross cX10_cross 3 (some .int) 2 := ⟨wt (List.mem_of_getElem? (i := 1012) (by decide +kernel)) rfl, wt (List.mem_of_getElem? (i := 1013) (by decide +kernel)) rfl, wt (List.mem_of_getElem? (i := 84) (by decide +kernel)) rfl, wt (List.mem_of_getElem? (i := 1014) (by decide +kernel)) rfl, by decide +kernel⟩
theorem ok_X10_missed : okV yX10_missed cX10_missed 4 (some .int) 3 := ⟨wt (List.mem_of_getElem? (i := 1016) (by decide +kernel)) rfl, wt (List.mem_of_getElem? (i := 1017) (by decide +kernel)) rfl, wt (List.mem_of_getElem? (i := 84) (by decide +kernel)) rfl, wt (List.mem_of_getElem? (i := 1018) (by decide +kernel)) rfl, by decide +kernel⟩
theorem ok_X10_isTable : okV yX10_isTable cX10_isTable 2 (some .boolean) 1 := ⟨wt (List.mem_of_getElem? (i := 1021) (by decide +kernel)) rfl, wt (List.mem_of_getElem? (i := 54) (by decide +kernel)) rfl, wt (List.mem_of_getElem? (i := 84) (by decide +kernel)) rfl, wt (List.mem_of_getElem? (i := 1022) (by decide +kernel)) rfl, by decide +kernel⟩
theorem ok_X10_findMissed : okV yX10_findMissed cX10_findMissed 4 none 2 := ⟨wt (List.mem_of_getElem? (i := 1025) (by decide +kernel)) rfl, wt (List.mem_of_getElem? (i := 55) (by decide +kernel)) rfl, wt (List.mem_of_getElem? (i := 84) (by decide +kernel)) rfl, wt (List.mem_of_getElem? (i := 1026) (by decide +kernel)) rfl, by decide +kernel⟩
theorem ok_X10_missBy : okV yX10_missBy cX10_missBy 8 none 4 := ⟨wt (List.mem_of_getElem? (i := 1029) (by decide +kernel)) rfl, wt (List.mem_of_getElem? (i := 56) (by decide +kernel)) rfl, wt (List.mem_of_getElem? (i := 84) (by decide +kernel)) rfl, wt (List.mem_of_getElem? (i := 1030) (by decide +kernel)) rfl, by decide +kernel⟩
theorem ok_X10_wordsBy : okV yX10_wordsBy cX10_wordsBy 7 (some .int) 3 := ⟨wt (List.mem_of_getElem? (i := 1033) (by decide +kernel)) rfl, wt (List.mem_of_getElem? (i := 57) (by decide +kernel)) rfl, wt (List.mem_of_getElem? (i := 84) (by decide +kernel)) rfl, wt (List.mem_of_getElem? (i := 1034) (by decide +kernel)) rfl, by decide +kernel⟩
theorem ok_X10_mend : okV yX10_mend cX10_mend 4 (some .int) 1 := ⟨wt (List.mem_of_getElem? (i := 1036) (by decide +kernel)) rfl, wt (List.mem_of_getElem? (i := 1037) (by decide +kernel)) rfl, wt (List.mem_of_getElem? (i := 84) (by decide +kernel)) rfl, wt (List.mem_of_getElem? (i := 1038) (by decide +kernel)) rfl, by decide +kernel⟩
theorem ok_X10_layComing : okV yX10_layComing cX10_layComing 5 none 2 := ⟨wt (List.mem_of_getElem? (i := 1041) (by decide +kernel)) rfl, wt (List.mem_of_getElem? (i := 58) (by decide +kernel)) rfl, wt (List.mem_of_getElem? (i := 84) (by decide +kernel)) rfl, wt (List.mem_of_getElem? (i := 1042) (by decide +kernel)) rfl, by decide +kernel⟩
theorem ok_X10_table : okV yX10_table cX10_table 3 (some .int) 2 := ⟨wt (List.mem_of_getElem? (i := 1044) (by decide +kernel)) rfl, wt (List.mem_of_getElem? (i := 1045) (by decide +kernel)) rfl, wt (List.mem_of_getElem? (i := 84) (by decide +kernel)) rfl, wt (List.mem_of_getElem? (i := 1046) (by decide +kernel)) rfl, by decide +kernel⟩
theorem ok_X10_rulesOf : okV yX10_rulesOf cX10_rulesOf 4 (some .int) 1 := ⟨wt (List.mem_of_getElem? (i := 1049) (by decide +kernel)) rfl, wt (List.mem_of_getElem? (i := 59) (by decide +kernel)) rfl, wt (List.mem_of_getElem? (i := 84) (by decide +kernel)) rfl, wt (List.mem_of_getElem? (i := 1050) (by decide +kernel)) rfl, by decide +kernel⟩
theorem ok_X10_wordsOf : okV yX10_wordsOf cX10_wordsOf 4 (some .int) 1 := ⟨wt (List.mem_of_getElem? (i := 1053) (by decide +kernel)) rfl, wt (List.mem_of_getElem? (i := 60) (by decide +kernel)) rfl, wt (List.mem_of_getElem? (i := 84) (by decide +kernel)) rfl, wt (List.mem_of_getElem? (i := 1054) (by decide +kernel)) rfl, by decide +kernel⟩
theorem ok_X10_headsOf : okV yX10_headsOf cX10_headsOf 3 (some .int) 1 := ⟨wt (List.mem_of_getElem? (i := 1057) (by decide +kernel)) rfl, wt (List.mem_of_getElem? (i := 61) (by decide +kernel)) rfl, wt (List.mem_of_getElem? (i := 84) (by decide +kernel)) rfl, wt (List.mem_of_getElem? (i := 1058) (by decide +kernel)) rfl, by decide +kernel⟩
theorem ok_X10_isNarrow : okV yX10_isNarrow cX10_isNarrow 5 (some .boolean) 2 := ⟨wt (List.mem_of_getElem? (i := 1061) (by decide +kernel)) rfl, wt (List.mem_of_getElem? (i := 62) (by decide +kernel)) rfl, wt (List.mem_of_getElem? (i := 84) (by decide +kernel)) rfl, wt (List.mem_of_getElem? (i := 1062) (by decide +kernel)) rfl, by decide +kernel⟩
theorem ok_X10_wholeOf : okV yX10_wholeOf cX10_wholeOf 4 (some .int) 1 := ⟨wt (List.mem_of_getElem? (i := 1065) (by decide +kernel)) rfl, wt (List.mem_of_getElem? (i := 63) (by decide +kernel)) rfl, wt (List.mem_of_getElem? (i := 84) (by decide +kernel)) rfl, wt (List.mem_of_getElem? (i := 1066) (by decide +kernel)) rfl, by decide +kernel⟩
theorem ok_X10_edge : okV yX10_edge cX10_edge 4 (some .int) 3 := ⟨wt (List.mem_of_getElem? (i := 1068) (by decide +kernel)) rfl, wt (List.mem_of_getElem? (i := 1069) (by decide +kernel)) rfl, wt (List.mem_of_getElem? (i := 84) (by decide +kernel)) rfl, wt (List.mem_of_getElem? (i := 1070) (by decide +kernel)) rfl, by decide +kernel⟩
theorem ok_X10_ruled : okV yX10_ruled cX10_ruled 5 (some .int) 4 := ⟨wt (List.mem_of_getElem? (i := 1072) (by decide +kernel)) rfl, wt (List.mem_of_getElem? (i := 1073) (by decide +kernel)) rfl, wt (List.mem_of_getElem? (i := 84) (by decide +kernel)) rfl, wt (List.mem_of_getElem? (i := 1074) (by decide +kernel)) rfl, by decide +kernel⟩
theorem ok_X10_isSide : okV yX10_isSide cX10_isSide 5 (some .boolean) 4 := ⟨wt (List.mem_of_getElem? (i := 1077) (by decide +kernel)) rfl, wt (List.mem_of_getElem? (i := 64) (by decide +kernel)) rfl, wt (List.mem_of_getElem? (i := 84) (by decide +kernel)) rfl, wt (List.mem_of_getElem? (i := 1078) (by decide +kernel)) rfl, by decide +kernel⟩
theorem ok_X10_at : okV yX10_at cX10_at 4 (some .int) 3 := ⟨wt (List.mem_of_getElem? (i := 1080) (by decide +kernel)) rfl, wt (List.mem_of_getElem? (i := 1081) (by decide +kernel)) rfl, wt (List.mem_of_getElem? (i := 84) (by decide +kernel)) rfl, wt (List.mem_of_getElem? (i := 1082) (by decide +kernel)) rfl, by decide +kernel⟩
theorem ok_X10_cell : okV yX10_cell cX10_cell 5 (some .int) 3 := ⟨wt (List.mem_of_getElem? (i := 1084) (by decide +kernel)) rfl, wt (List.mem_of_getElem? (i := 1085) (by decide +kernel)) rfl, wt (List.mem_of_getElem? (i := 84) (by decide +kernel)) rfl, wt (List.mem_of_getElem? (i := 1086) (by decide +kernel)) rfl, by decide +kernel⟩
theorem ok_X10_isCell : okV yX10_isCell cX10_isCell 3 (some .boolean) 2 := ⟨wt (List.mem_of_getElem? (i := 1089) (by decide +kernel)) rfl, wt (List.mem_of_getElem? (i := 65) (by decide +kernel)) rfl, wt (List.mem_of_getElem? (i := 84) (by decide +kernel)) rfl, wt (List.mem_of_getElem? (i := 1090) (by decide +kernel)) rfl, by decide +kernel⟩
theorem ok_X10_wordsIn : okV yX10_wordsIn cX10_wordsIn 4 (some .int) 1 := ⟨wt (List.mem_of_getElem? (i := 1094) (by decide +kernel)) rfl, wt (List.mem_of_getElem? (i := 66) (by decide +kernel)) rfl, wt (List.mem_of_getElem? (i := 84) (by decide +kernel)) rfl, wt (List.mem_of_getElem? (i := 1095) (by decide +kernel)) rfl, by decide +kernel⟩
theorem ok_X10_read : okV yX10_read cX10_read 8 (some .int) 3 := ⟨wt (List.mem_of_getElem? (i := 1097) (by decide +kernel)) rfl, wt (List.mem_of_getElem? (i := 1098) (by decide +kernel)) rfl, wt (List.mem_of_getElem? (i := 84) (by decide +kernel)) rfl, wt (List.mem_of_getElem? (i := 1099) (by decide +kernel)) rfl, by decide +kernel⟩
theorem ok_X10_isWordOf : okV yX10_isWordOf cX10_isWordOf 3 (some .boolean) 2 := ⟨wt (List.mem_of_getElem? (i := 1102) (by decide +kernel)) rfl, wt (List.mem_of_getElem? (i := 67) (by decide +kernel)) rfl, wt (List.mem_of_getElem? (i := 84) (by decide +kernel)) rfl, wt (List.mem_of_getElem? (i := 1103) (by decide +kernel)) rfl, by decide +kernel⟩
theorem ok_X10_isReadBefore : okV yX10_isReadBefore cX10_isReadBefore 5 (some .boolean) 2 := ⟨wt (List.mem_of_getElem? (i := 1106) (by decide +kernel)) rfl, wt (List.mem_of_getElem? (i := 68) (by decide +kernel)) rfl, wt (List.mem_of_getElem? (i := 84) (by decide +kernel)) rfl, wt (List.mem_of_getElem? (i := 1107) (by decide +kernel)) rfl, by decide +kernel⟩
theorem ok_X10_heading : okV yX10_heading cX10_heading 9 (some .int) 3 := ⟨wt (List.mem_of_getElem? (i := 1109) (by decide +kernel)) rfl, wt (List.mem_of_getElem? (i := 1110) (by decide +kernel)) rfl, wt (List.mem_of_getElem? (i := 84) (by decide +kernel)) rfl, wt (List.mem_of_getElem? (i := 1111) (by decide +kernel)) rfl, by decide +kernel⟩
theorem ok_X10_image : okV yX10_image cX10_image 2 (some .int) 1 := ⟨wt (List.mem_of_getElem? (i := 1114) (by decide +kernel)) rfl, wt (List.mem_of_getElem? (i := 1115) (by decide +kernel)) rfl, wt (List.mem_of_getElem? (i := 84) (by decide +kernel)) rfl, wt (List.mem_of_getElem? (i := 1116) (by decide +kernel)) rfl, by decide +kernel⟩
theorem ok_X10_passAll : okV yX10_passAll cX10_passAll 1 none 0 := ⟨wt (List.mem_of_getElem? (i := 1119) (by decide +kernel)) rfl, wt (List.mem_of_getElem? (i := 69) (by decide +kernel)) rfl, wt (List.mem_of_getElem? (i := 84) (by decide +kernel)) rfl, wt (List.mem_of_getElem? (i := 1120) (by decide +kernel)) rfl, by decide +kernel⟩
theorem ok_X10_pass : okV yX10_pass cX10_pass 3 (some .int) 1 := ⟨wt (List.mem_of_getElem? (i := 1123) (by decide +kernel)) rfl, wt (List.mem_of_getElem? (i := 70) (by decide +kernel)) rfl, wt (List.mem_of_getElem? (i := 84) (by decide +kernel)) rfl, wt (List.mem_of_getElem? (i := 1124) (by decide +kernel)) rfl, by decide +kernel⟩
theorem ok_X10_passRow : okV yX10_passRow cX10_passRow 4 none 2 := ⟨wt (List.mem_of_getElem? (i := 1127) (by decide +kernel)) rfl, wt (List.mem_of_getElem? (i := 71) (by decide +kernel)) rfl, wt (List.mem_of_getElem? (i := 84) (by decide +kernel)) rfl, wt (List.mem_of_getElem? (i := 1128) (by decide +kernel)) rfl, by decide +kernel⟩
theorem ok_X10_restore : okV yX10_restore cX10_restore 2 (some .int) 1 := ⟨wt (List.mem_of_getElem? (i := 1130) (by decide +kernel)) rfl, wt (List.mem_of_getElem? (i := 1131) (by decide +kernel)) rfl, wt (List.mem_of_getElem? (i := 84) (by decide +kernel)) rfl, wt (List.mem_of_getElem? (i := 1132) (by decide +kernel)) rfl, by decide +kernel⟩
theorem ok_X10_told : okV yX10_told cX10_told 2 (some .int) 1 := ⟨wt (List.mem_of_getElem? (i := 1134) (by decide +kernel)) rfl, wt (List.mem_of_getElem? (i := 1135) (by decide +kernel)) rfl, wt (List.mem_of_getElem? (i := 84) (by decide +kernel)) rfl, wt (List.mem_of_getElem? (i := 1136) (by decide +kernel)) rfl, by decide +kernel⟩
theorem km0_57 : Cond.methodLink RX0 57 yX7_find ∈ wtb := wt (List.mem_of_getElem? (i := 421) (by decide +kernel)) rfl
theorem km0_61 : Cond.methodLink RX0 61 yX7_joinCrossing ∈ wtb := wt (List.mem_of_getElem? (i := 480) (by decide +kernel)) rfl
theorem km0_65 : Cond.methodLink RX0 65 yX7_numberTables ∈ wtb := wt (List.mem_of_getElem? (i := 492) (by decide +kernel)) rfl
theorem km0_69 : Cond.methodLink RX0 69 yX8_find ∈ wtb := wt (List.mem_of_getElem? (i := 504) (by decide +kernel)) rfl
theorem km0_76 : Cond.methodLink RX0 76 yX4_find ∈ wtb := wt (List.mem_of_getElem? (i := 592) (by decide +kernel)) rfl
theorem km0_79 : Cond.methodLink RX0 79 yX8_findMissed ∈ wtb := wt (List.mem_of_getElem? (i := 614) (by decide +kernel)) rfl
theorem km1_19 : Cond.methodLink RX1 19 yX1_firstOf ∈ wtb := wt (List.mem_of_getElem? (i := 447) (by decide +kernel)) rfl
theorem km3_35 : Cond.methodLink RX3 35 yX5_take ∈ wtb := wt (List.mem_of_getElem? (i := 741) (by decide +kernel)) rfl
theorem km4_31 : Cond.methodLink RX4 31 yX4_place ∈ wtb := wt (List.mem_of_getElem? (i := 596) (by decide +kernel)) rfl
theorem km4_35 : Cond.methodLink RX4 35 yX4_putInOrder ∈ wtb := wt (List.mem_of_getElem? (i := 607) (by decide +kernel)) rfl
theorem km4_39 : Cond.methodLink RX4 39 yX5_number ∈ wtb := wt (List.mem_of_getElem? (i := 600) (by decide +kernel)) rfl
theorem km4_49 : Cond.methodLink RX4 49 yX2_lineBefore ∈ wtb := wt (List.mem_of_getElem? (i := 601) (by decide +kernel)) rfl
theorem km4_54 : Cond.methodLink RX4 54 yX8_cellOf ∈ wtb := wt (List.mem_of_getElem? (i := 605) (by decide +kernel)) rfl
theorem km4_57 : Cond.methodLink RX4 57 yX8_hasCell ∈ wtb := wt (List.mem_of_getElem? (i := 606) (by decide +kernel)) rfl
theorem km4_67 : Cond.methodLink RX4 67 yX4_isReadBefore ∈ wtb := wt (List.mem_of_getElem? (i := 611) (by decide +kernel)) rfl
theorem km4_71 : Cond.methodLink RX4 71 yX4_isIn ∈ wtb := wt (List.mem_of_getElem? (i := 626) (by decide +kernel)) rfl
theorem km5_28 : Cond.methodLink RX5 28 yX5_isFull ∈ wtb := wt (List.mem_of_getElem? (i := 391) (by decide +kernel)) rfl
theorem km5_32 : Cond.methodLink RX5 32 yX5_has ∈ wtb := wt (List.mem_of_getElem? (i := 404) (by decide +kernel)) rfl
theorem km6_9 : Cond.methodLink RX6 9 yX5_number ∈ wtb := wt (List.mem_of_getElem? (i := 461) (by decide +kernel)) rfl
theorem km6_53 : Cond.methodLink RX6 53 yX6_covers ∈ wtb := wt (List.mem_of_getElem? (i := 488) (by decide +kernel)) rfl
theorem km7_26 : Cond.methodLink RX7 26 yX7_joinNear ∈ wtb := wt (List.mem_of_getElem? (i := 425) (by decide +kernel)) rfl
theorem km7_36 : Cond.methodLink RX7 36 yX7_gather ∈ wtb := wt (List.mem_of_getElem? (i := 452) (by decide +kernel)) rfl
theorem km7_40 : Cond.methodLink RX7 40 yX7_sort ∈ wtb := wt (List.mem_of_getElem? (i := 468) (by decide +kernel)) rfl
theorem km7_46 : Cond.methodLink RX7 46 yX7_tellPieces ∈ wtb := wt (List.mem_of_getElem? (i := 476) (by decide +kernel)) rfl
theorem km7_50 : Cond.methodLink RX7 50 yX1_part ∈ wtb := wt (List.mem_of_getElem? (i := 428) (by decide +kernel)) rfl
theorem km7_59 : Cond.methodLink RX7 59 yX7_areNear ∈ wtb := wt (List.mem_of_getElem? (i := 432) (by decide +kernel)) rfl
theorem km7_63 : Cond.methodLink RX7 63 yX1_join ∈ wtb := wt (List.mem_of_getElem? (i := 443) (by decide +kernel)) rfl
theorem km7_67 : Cond.methodLink RX7 67 yX5_number ∈ wtb := wt (List.mem_of_getElem? (i := 435) (by decide +kernel)) rfl
theorem km7_83 : Cond.methodLink RX7 83 yX1_firstOf ∈ wtb := wt (List.mem_of_getElem? (i := 456) (by decide +kernel)) rfl
theorem km7_86 : Cond.methodLink RX7 86 yX6_begin ∈ wtb := wt (List.mem_of_getElem? (i := 457) (by decide +kernel)) rfl
theorem km7_90 : Cond.methodLink RX7 90 yX6_takeIn ∈ wtb := wt (List.mem_of_getElem? (i := 462) (by decide +kernel)) rfl
theorem km7_93 : Cond.methodLink RX7 93 yX6_comesBefore ∈ wtb := wt (List.mem_of_getElem? (i := 472) (by decide +kernel)) rfl
theorem km7_100 : Cond.methodLink RX7 100 yX6_crosses ∈ wtb := wt (List.mem_of_getElem? (i := 484) (by decide +kernel)) rfl
theorem km7_107 : Cond.methodLink RX7 107 yX7_countPlaces ∈ wtb := wt (List.mem_of_getElem? (i := 496) (by decide +kernel)) rfl
theorem km7_111 : Cond.methodLink RX7 111 yX7_giveTable ∈ wtb := wt (List.mem_of_getElem? (i := 500) (by decide +kernel)) rfl
theorem km8_42 : Cond.methodLink RX8 42 yX8_takeLines ∈ wtb := wt (List.mem_of_getElem? (i := 508) (by decide +kernel)) rfl
theorem km8_46 : Cond.methodLink RX8 46 yX8_markSides ∈ wtb := wt (List.mem_of_getElem? (i := 520) (by decide +kernel)) rfl
theorem km8_50 : Cond.methodLink RX8 50 yX8_joinFields ∈ wtb := wt (List.mem_of_getElem? (i := 541) (by decide +kernel)) rfl
theorem km8_54 : Cond.methodLink RX8 54 yX8_numberCells ∈ wtb := wt (List.mem_of_getElem? (i := 551) (by decide +kernel)) rfl
theorem km8_57 : Cond.methodLink RX8 57 yX8_markBroken ∈ wtb := wt (List.mem_of_getElem? (i := 564) (by decide +kernel)) rfl
theorem km8_60 : Cond.methodLink RX8 60 yX8_markOpen ∈ wtb := wt (List.mem_of_getElem? (i := 568) (by decide +kernel)) rfl
theorem km8_63 : Cond.methodLink RX8 63 yX8_countHeads ∈ wtb := wt (List.mem_of_getElem? (i := 584) (by decide +kernel)) rfl
theorem km8_77 : Cond.methodLink RX8 77 yX2_clear ∈ wtb := wt (List.mem_of_getElem? (i := 512) (by decide +kernel)) rfl
theorem km8_103 : Cond.methodLink RX8 103 yX2_add ∈ wtb := wt (List.mem_of_getElem? (i := 516) (by decide +kernel)) rfl
theorem km8_116 : Cond.methodLink RX8 116 yX8_markSidesOf ∈ wtb := wt (List.mem_of_getElem? (i := 524) (by decide +kernel)) rfl
theorem km8_120 : Cond.methodLink RX8 120 yX2_lineAt ∈ wtb := wt (List.mem_of_getElem? (i := 528) (by decide +kernel)) rfl
theorem km8_123 : Cond.methodLink RX8 123 yX8_sideOf ∈ wtb := wt (List.mem_of_getElem? (i := 532) (by decide +kernel)) rfl
theorem km8_127 : Cond.methodLink RX8 127 yX2_placeOf ∈ wtb := wt (List.mem_of_getElem? (i := 536) (by decide +kernel)) rfl
theorem km8_130 : Cond.methodLink RX8 130 yX6_covers ∈ wtb := wt (List.mem_of_getElem? (i := 540) (by decide +kernel)) rfl
theorem km8_134 : Cond.methodLink RX8 134 yX1_part ∈ wtb := wt (List.mem_of_getElem? (i := 545) (by decide +kernel)) rfl
theorem km8_139 : Cond.methodLink RX8 139 yX8_hasRuled ∈ wtb := wt (List.mem_of_getElem? (i := 546) (by decide +kernel)) rfl
theorem km8_142 : Cond.methodLink RX8 142 yX1_join ∈ wtb := wt (List.mem_of_getElem? (i := 550) (by decide +kernel)) rfl
theorem km8_148 : Cond.methodLink RX8 148 yX1_firstOf ∈ wtb := wt (List.mem_of_getElem? (i := 555) (by decide +kernel)) rfl
theorem km8_152 : Cond.methodLink RX8 152 yX8_beginCell ∈ wtb := wt (List.mem_of_getElem? (i := 556) (by decide +kernel)) rfl
theorem km8_155 : Cond.methodLink RX8 155 yX8_widenCell ∈ wtb := wt (List.mem_of_getElem? (i := 560) (by decide +kernel)) rfl
theorem km8_159 : Cond.methodLink RX8 159 yX8_cellOf ∈ wtb := wt (List.mem_of_getElem? (i := 572) (by decide +kernel)) rfl
theorem km8_162 : Cond.methodLink RX8 162 yX8_openUnless ∈ wtb := wt (List.mem_of_getElem? (i := 576) (by decide +kernel)) rfl
theorem km8_166 : Cond.methodLink RX8 166 yX8_hasCell ∈ wtb := wt (List.mem_of_getElem? (i := 580) (by decide +kernel)) rfl
theorem km8_170 : Cond.methodLink RX8 170 yX8_isOneColumnWide ∈ wtb := wt (List.mem_of_getElem? (i := 588) (by decide +kernel)) rfl
theorem km8_173 : Cond.methodLink RX8 173 yX8_isFirstInColumn ∈ wtb := wt (List.mem_of_getElem? (i := 729) (by decide +kernel)) rfl
theorem km8_177 : Cond.methodLink RX8 177 yX8_findMissedIn ∈ wtb := wt (List.mem_of_getElem? (i := 618) (by decide +kernel)) rfl
theorem km8_181 : Cond.methodLink RX8 181 yX4_keepClear ∈ wtb := wt (List.mem_of_getElem? (i := 622) (by decide +kernel)) rfl
theorem km8_187 : Cond.methodLink RX8 187 yX8_addMissed ∈ wtb := wt (List.mem_of_getElem? (i := 630) (by decide +kernel)) rfl
theorem km8_190 : Cond.methodLink RX8 190 yX5_add ∈ wtb := wt (List.mem_of_getElem? (i := 720) (by decide +kernel)) rfl
theorem km8_195 : Cond.methodLink RX8 195 yX8_countWhole ∈ wtb := wt (List.mem_of_getElem? (i := 675) (by decide +kernel)) rfl
theorem km9_42 : Cond.methodLink RX9 42 yX9_isWay ∈ wtb := wt (List.mem_of_getElem? (i := 374) (by decide +kernel)) rfl
theorem km9_46 : Cond.methodLink RX9 46 yX9_isPlace ∈ wtb := wt (List.mem_of_getElem? (i := 377) (by decide +kernel)) rfl
theorem km9_49 : Cond.methodLink RX9 49 yX9_isStretch ∈ wtb := wt (List.mem_of_getElem? (i := 380) (by decide +kernel)) rfl
theorem km9_57 : Cond.methodLink RX9 57 yX5_isFull ∈ wtb := wt (List.mem_of_getElem? (i := 383) (by decide +kernel)) rfl
theorem km9_63 : Cond.methodLink RX9 63 yX5_add ∈ wtb := wt (List.mem_of_getElem? (i := 387) (by decide +kernel)) rfl
theorem km9_71 : Cond.methodLink RX9 71 yX5_has ∈ wtb := wt (List.mem_of_getElem? (i := 396) (by decide +kernel)) rfl
theorem km9_74 : Cond.methodLink RX9 74 yX5_remove ∈ wtb := wt (List.mem_of_getElem? (i := 400) (by decide +kernel)) rfl
theorem km9_78 : Cond.methodLink RX9 78 yX5_number ∈ wtb := wt (List.mem_of_getElem? (i := 409) (by decide +kernel)) rfl
theorem km9_82 : Cond.methodLink RX9 82 yX9_found ∈ wtb := wt (List.mem_of_getElem? (i := 413) (by decide +kernel)) rfl
theorem km9_110 : Cond.methodLink RX9 110 yX7_has ∈ wtb := wt (List.mem_of_getElem? (i := 650) (by decide +kernel)) rfl
theorem km9_115 : Cond.methodLink RX9 115 yX6_tell ∈ wtb := wt (List.mem_of_getElem? (i := 654) (by decide +kernel)) rfl
theorem km9_121 : Cond.methodLink RX9 121 yX6_crosses ∈ wtb := wt (List.mem_of_getElem? (i := 662) (by decide +kernel)) rfl
theorem km9_125 : Cond.methodLink RX9 125 yX0_has ∈ wtb := wt (List.mem_of_getElem? (i := 667) (by decide +kernel)) rfl
theorem km9_129 : Cond.methodLink RX9 129 yX8_tell ∈ wtb := wt (List.mem_of_getElem? (i := 671) (by decide +kernel)) rfl
theorem km9_136 : Cond.methodLink RX9 136 yX2_placeOf ∈ wtb := wt (List.mem_of_getElem? (i := 683) (by decide +kernel)) rfl
theorem km9_141 : Cond.methodLink RX9 141 yX8_sideOf ∈ wtb := wt (List.mem_of_getElem? (i := 688) (by decide +kernel)) rfl
theorem km9_145 : Cond.methodLink RX9 145 yX8_hasRuled ∈ wtb := wt (List.mem_of_getElem? (i := 689) (by decide +kernel)) rfl
theorem km9_149 : Cond.methodLink RX9 149 yX8_cellOf ∈ wtb := wt (List.mem_of_getElem? (i := 694) (by decide +kernel)) rfl
theorem km9_152 : Cond.methodLink RX9 152 yX8_hasCell ∈ wtb := wt (List.mem_of_getElem? (i := 699) (by decide +kernel)) rfl
theorem km9_158 : Cond.methodLink RX9 158 yX4_wordRead ∈ wtb := wt (List.mem_of_getElem? (i := 704) (by decide +kernel)) rfl
theorem km9_167 : Cond.methodLink RX9 167 yX8_drawMissed ∈ wtb := wt (List.mem_of_getElem? (i := 716) (by decide +kernel)) rfl
theorem km9_174 : Cond.methodLink RX9 174 yX8_headingOf ∈ wtb := wt (List.mem_of_getElem? (i := 725) (by decide +kernel)) rfl
theorem km9_177 : Cond.methodLink RX9 177 yX3_take ∈ wtb := wt (List.mem_of_getElem? (i := 737) (by decide +kernel)) rfl
theorem km9_188 : Cond.methodLink RX9 188 yX0_find ∈ wtb := wt (List.mem_of_getElem? (i := 417) (by decide +kernel)) rfl
theorem km10_64 : Cond.methodLink RX10 64 yX10_in ∈ wtb := wt (List.mem_of_getElem? (i := 849) (by decide +kernel)) rfl
theorem km10_84 : Cond.methodLink RX10 84 yX10_isPlace ∈ wtb := wt (List.mem_of_getElem? (i := 859) (by decide +kernel)) rfl
theorem km10_88 : Cond.methodLink RX10 88 yX10_addPiece ∈ wtb := wt (List.mem_of_getElem? (i := 863) (by decide +kernel)) rfl
theorem km10_95 : Cond.methodLink RX10 95 yX10_pieceAt ∈ wtb := wt (List.mem_of_getElem? (i := 900) (by decide +kernel)) rfl
theorem km10_99 : Cond.methodLink RX10 99 yX10_greater ∈ wtb := wt (List.mem_of_getElem? (i := 904) (by decide +kernel)) rfl
theorem km10_102 : Cond.methodLink RX10 102 yX10_less ∈ wtb := wt (List.mem_of_getElem? (i := 907) (by decide +kernel)) rfl
theorem km10_108 : Cond.methodLink RX10 108 yX10_ruleAt ∈ wtb := wt (List.mem_of_getElem? (i := 926) (by decide +kernel)) rfl
theorem km10_111 : Cond.methodLink RX10 111 yX10_isRuleBefore ∈ wtb := wt (List.mem_of_getElem? (i := 922) (by decide +kernel)) rfl
theorem km10_115 : Cond.methodLink RX10 115 yX10_begin ∈ wtb := wt (List.mem_of_getElem? (i := 892) (by decide +kernel)) rfl
theorem km10_119 : Cond.methodLink RX10 119 yX10_isNear ∈ wtb := wt (List.mem_of_getElem? (i := 896) (by decide +kernel)) rfl
theorem km10_122 : Cond.methodLink RX10 122 yX10_join ∈ wtb := wt (List.mem_of_getElem? (i := 910) (by decide +kernel)) rfl
theorem km10_126 : Cond.methodLink RX10 126 yX10_addRule ∈ wtb := wt (List.mem_of_getElem? (i := 914) (by decide +kernel)) rfl
theorem km10_129 : Cond.methodLink RX10 129 yX10_sortRules ∈ wtb := wt (List.mem_of_getElem? (i := 918) (by decide +kernel)) rfl
theorem km10_132 : Cond.methodLink RX10 132 yX10_lies ∈ wtb := wt (List.mem_of_getElem? (i := 938) (by decide +kernel)) rfl
theorem km10_135 : Cond.methodLink RX10 135 yX10_isCross ∈ wtb := wt (List.mem_of_getElem? (i := 934) (by decide +kernel)) rfl
theorem km10_141 : Cond.methodLink RX10 141 yX10_countLines ∈ wtb := wt (List.mem_of_getElem? (i := 942) (by decide +kernel)) rfl
theorem km10_144 : Cond.methodLink RX10 144 yX10_layLines ∈ wtb := wt (List.mem_of_getElem? (i := 946) (by decide +kernel)) rfl
theorem km10_148 : Cond.methodLink RX10 148 yX10_rowsOf ∈ wtb := wt (List.mem_of_getElem? (i := 958) (by decide +kernel)) rfl
theorem km10_152 : Cond.methodLink RX10 152 yX10_columnsOf ∈ wtb := wt (List.mem_of_getElem? (i := 954) (by decide +kernel)) rfl
theorem km10_155 : Cond.methodLink RX10 155 yX10_lineAt ∈ wtb := wt (List.mem_of_getElem? (i := 966) (by decide +kernel)) rfl
theorem km10_159 : Cond.methodLink RX10 159 yX10_reaches ∈ wtb := wt (List.mem_of_getElem? (i := 970) (by decide +kernel)) rfl
theorem km10_163 : Cond.methodLink RX10 163 yX10_isRuled ∈ wtb := wt (List.mem_of_getElem? (i := 962) (by decide +kernel)) rfl
theorem km10_167 : Cond.methodLink RX10 167 yX10_addField ∈ wtb := wt (List.mem_of_getElem? (i := 974) (by decide +kernel)) rfl
theorem km10_170 : Cond.methodLink RX10 170 yX10_isOpen ∈ wtb := wt (List.mem_of_getElem? (i := 978) (by decide +kernel)) rfl
theorem km10_174 : Cond.methodLink RX10 174 yX10_cellAt ∈ wtb := wt (List.mem_of_getElem? (i := 982) (by decide +kernel)) rfl
theorem km10_177 : Cond.methodLink RX10 177 yX10_boxAt ∈ wtb := wt (List.mem_of_getElem? (i := 990) (by decide +kernel)) rfl
theorem km10_180 : Cond.methodLink RX10 180 yX10_between ∈ wtb := wt (List.mem_of_getElem? (i := 994) (by decide +kernel)) rfl
theorem km10_183 : Cond.methodLink RX10 183 yX10_findRules ∈ wtb := wt (List.mem_of_getElem? (i := 888) (by decide +kernel)) rfl
theorem km10_186 : Cond.methodLink RX10 186 yX10_findTables ∈ wtb := wt (List.mem_of_getElem? (i := 930) (by decide +kernel)) rfl
theorem km10_189 : Cond.methodLink RX10 189 yX10_findCells ∈ wtb := wt (List.mem_of_getElem? (i := 950) (by decide +kernel)) rfl
theorem km10_192 : Cond.methodLink RX10 192 yX10_findWord ∈ wtb := wt (List.mem_of_getElem? (i := 986) (by decide +kernel)) rfl
theorem km10_195 : Cond.methodLink RX10 195 yX10_findAll ∈ wtb := wt (List.mem_of_getElem? (i := 884) (by decide +kernel)) rfl
theorem km10_198 : Cond.methodLink RX10 198 yX10_isTable ∈ wtb := wt (List.mem_of_getElem? (i := 1019) (by decide +kernel)) rfl
theorem km10_203 : Cond.methodLink RX10 203 yX10_isRule ∈ wtb := wt (List.mem_of_getElem? (i := 1006) (by decide +kernel)) rfl
theorem km10_208 : Cond.methodLink RX10 208 yX10_wordsBy ∈ wtb := wt (List.mem_of_getElem? (i := 1031) (by decide +kernel)) rfl
theorem km10_223 : Cond.methodLink RX10 223 yX10_missBy ∈ wtb := wt (List.mem_of_getElem? (i := 1027) (by decide +kernel)) rfl
theorem km10_226 : Cond.methodLink RX10 226 yX10_findMissed ∈ wtb := wt (List.mem_of_getElem? (i := 1023) (by decide +kernel)) rfl
theorem km10_229 : Cond.methodLink RX10 229 yX10_layComing ∈ wtb := wt (List.mem_of_getElem? (i := 1039) (by decide +kernel)) rfl
theorem km10_232 : Cond.methodLink RX10 232 yX10_isNarrow ∈ wtb := wt (List.mem_of_getElem? (i := 1059) (by decide +kernel)) rfl
theorem km10_235 : Cond.methodLink RX10 235 yX10_rulesOf ∈ wtb := wt (List.mem_of_getElem? (i := 1047) (by decide +kernel)) rfl
theorem km10_238 : Cond.methodLink RX10 238 yX10_wordsOf ∈ wtb := wt (List.mem_of_getElem? (i := 1051) (by decide +kernel)) rfl
theorem km10_241 : Cond.methodLink RX10 241 yX10_headsOf ∈ wtb := wt (List.mem_of_getElem? (i := 1055) (by decide +kernel)) rfl
theorem km10_244 : Cond.methodLink RX10 244 yX10_wholeOf ∈ wtb := wt (List.mem_of_getElem? (i := 1063) (by decide +kernel)) rfl
theorem km10_247 : Cond.methodLink RX10 247 yX10_isSide ∈ wtb := wt (List.mem_of_getElem? (i := 1075) (by decide +kernel)) rfl
theorem km10_250 : Cond.methodLink RX10 250 yX10_isCell ∈ wtb := wt (List.mem_of_getElem? (i := 1087) (by decide +kernel)) rfl
theorem km10_255 : Cond.methodLink RX10 255 yX10_wordsIn ∈ wtb := wt (List.mem_of_getElem? (i := 1092) (by decide +kernel)) rfl
theorem km10_258 : Cond.methodLink RX10 258 yX10_isWordOf ∈ wtb := wt (List.mem_of_getElem? (i := 1100) (by decide +kernel)) rfl
theorem km10_261 : Cond.methodLink RX10 261 yX10_isReadBefore ∈ wtb := wt (List.mem_of_getElem? (i := 1104) (by decide +kernel)) rfl
theorem km10_264 : Cond.methodLink RX10 264 yX10_at ∈ wtb := wt (List.mem_of_getElem? (i := 1112) (by decide +kernel)) rfl
theorem km10_273 : Cond.methodLink RX10 273 yX10_pass ∈ wtb := wt (List.mem_of_getElem? (i := 1121) (by decide +kernel)) rfl
theorem km10_276 : Cond.methodLink RX10 276 yX10_passRow ∈ wtb := wt (List.mem_of_getElem? (i := 1125) (by decide +kernel)) rfl
theorem km10_280 : Cond.methodLink RX10 280 yX10_passAll ∈ wtb := wt (List.mem_of_getElem? (i := 1117) (by decide +kernel)) rfl
end
section
/-! the layout of all that the law makes: offsets from the first new cell; kinds 0..10 objects by vwCl, 11 int[], 12 boolean[], 13 Page[], 14 Rule[], 15 Table[], 16 int[][] -/
abbrev GG : Type := Launch × Nat × (Nat → ClassId) × (Nat → Nat → Nat) × (Nat → ClassId) × Nat × Nat
abbrev SG : Type := (Nat → Nat → Int32) × (Nat → Nat → Int32) × (Nat → Nat)
abbrev ad (g : GG) (o : Nat) : Nat := g.2.1 + o
abbrev gD (g : GG) : va_G := (g.2.2.1, g.2.2.2.1)
def reg (g : GG) : Nat → Prop := fun q => g.2.1 ≤ q
def kdL : List Nat := [9, 3, 5, 11, 5, 11, 11, 13, 3, 5, 11, 5, 11, 11, 3, 5, 11, 5, 11, 11, 12, 0, 1, 11, 7, 14, 6, 6, 6, 6, 6, 6, 6, 6, 6, 6, 6, 6, 6, 6, 6, 6, 6, 6, 6, 6, 6, 6, 6, 6, 11, 15, 8, 2, 16, 11, 11, 11, 12, 11, 16, 11, 11, 11, 11, 11, 11, 11, 16, 11, 11, 11, 8, 2, 16, 11, 11, 11, 12, 11, 16, 11, 11, 11, 11, 11, 11, 11, 16, 11, 11, 11, 8, 2, 16, 11, 11, 11, 12, 11, 16, 11, 11, 11, 11, 11, 11, 11, 16, 11, 11, 11, 8, 2, 16, 11, 11, 11, 12, 11, 16, 11, 11, 11, 11, 11, 11, 11, 16, 11, 11, 11, 8, 2, 16, 11, 11, 11, 12, 11, 16, 11, 11, 11, 11, 11, 11, 11, 16, 11, 11, 11, 8, 2, 16, 11, 11, 11, 12, 11, 16, 11, 11, 11, 11, 11, 11, 11, 16, 11, 11, 11, 4, 11, 11, 11, 10, 11, 11, 11, 11, 11, 11, 11, 11, 11, 11, 11, 11, 11, 11, 11, 11, 12]
def lnL : List Nat := [0, 0, 0, 96, 0, 80, 3, 2, 0, 0, 96, 0, 80, 3, 0, 0, 96, 0, 80, 3, 2, 0, 0, 121, 0, 24, 0, 0, 0, 0, 0, 0, 0, 0, 0, 0, 0, 0, 0, 0, 0, 0, 0, 0, 0, 0, 0, 0, 0, 0, 24, 6, 0, 0, 2, 22, 22, 2, 264, 121, 7, 121, 121, 121, 121, 121, 121, 121, 3, 121, 121, 121, 0, 0, 2, 18, 18, 2, 180, 81, 7, 81, 81, 81, 81, 81, 81, 81, 3, 81, 81, 81, 0, 0, 2, 14, 14, 2, 112, 49, 7, 49, 49, 49, 49, 49, 49, 49, 3, 49, 49, 49, 0, 0, 2, 10, 10, 2, 60, 25, 7, 25, 25, 25, 25, 25, 25, 25, 3, 25, 25, 25, 0, 0, 2, 6, 6, 2, 24, 9, 7, 9, 9, 9, 9, 9, 9, 9, 3, 9, 9, 9, 0, 0, 2, 2, 2, 2, 4, 1, 7, 1, 1, 1, 1, 1, 1, 1, 3, 1, 1, 1, 0, 20, 20, 20, 0, 96, 80, 3, 121, 168, 24, 264, 12, 7, 7, 121, 726, 20, 20, 96, 362, 2]
def kd (o : Nat) : Nat := kdL.getD o 99
def ln (o : Nat) : Nat := lnL.getD o 0
theorem kd_len : kdL.length = 194 := by decide +kernel
theorem kd_lt {o k : Nat} (h : kd o = k) (hk : k < 99) : o < 194 := by
  rcases Nat.lt_or_ge o 194 with q | q
  · exact q
  · exfalso
    have : kd o = 99 := by
      unfold kd
      rw [List.getD_eq_getElem?_getD, List.getElem?_eq_none (by rw [kd_len]; exact q)]
      rfl
    omega
/-- a fact of all offsets of a kind, by looking -/
theorem kd_all {P : Nat → Prop} [DecidablePred P] (k : Nat) (hk : k < 99) (h : ∀ o, o < 194 → kd o = k → P o) {o : Nat} (ho : kd o = k) : P o := h o (kd_lt ho hk) ho
def uI (I : Nat → Nat → Int32) (f o : Nat) (v : Int32) : Nat → Nat → Int32 := fun f' o' => if f' = f ∧ o' = o then v else I f' o'
def uA (A : Nat → Nat → Int32) (o : Nat) (h : Nat → Int32) : Nat → Nat → Int32 := fun o' => if o' = o then h else A o'
def uP (π : Nat → Nat) (i r : Nat) : Nat → Nat := fun j => if j = i then r else π j
theorem uI_s (I : Nat → Nat → Int32) (f o : Nat) (v : Int32) : uI I f o v f o = v := if_pos ⟨rfl, rfl⟩
theorem uI_f {I : Nat → Nat → Int32} {f o : Nat} {v : Int32} {f' o' : Nat} (h : f' ≠ f) : uI I f o v f' o' = I f' o' := if_neg fun q => h q.1
theorem uI_o {I : Nat → Nat → Int32} {f o : Nat} {v : Int32} {f' o' : Nat} (h : o' ≠ o) : uI I f o v f' o' = I f' o' := if_neg fun q => h q.2
theorem uA_s (A : Nat → Nat → Int32) (o : Nat) (h : Nat → Int32) : uA A o h o = h := if_pos rfl
theorem uA_n {A : Nat → Nat → Int32} {o : Nat} {h : Nat → Int32} {o' : Nat} (n : o' ≠ o) : uA A o h o' = A o' := if_neg n
theorem uP_s (π : Nat → Nat) (i r : Nat) : uP π i r i = r := if_pos rfl
theorem uP_n {π : Nat → Nat} {i r j : Nat} (n : j ≠ i) : uP π i r j = π j := if_neg n
def cl0 (g : GG) (σ : SG) (o : Nat) : Nat → va_E := fun k => match k with
  | 0 => .inr (0, [.ref (ad g (o + 1)), .ref (ad g (o + 3)), .ref (ad g (o + 30)), .int (σ.1 3 o), .ref (ad g (o + 151))])
  | 1 => .inr (1, [.ref (ad g (o + 1))])
  | 2 => .inr (2, [.ref (ad g (o + 1)), .ref (ad g (o + 4))])
  | 3 => .inr (3, [.ref (ad g (o + 1)), .ref (ad g (o + 3)), .ref (ad g (o + 5))])
  | 4 => .inr (4, [.ref (ad g (o + 1)), .ref (ad g (o + 2)), .ref (ad g (o + 3)), .int (σ.1 131 o), .int (σ.1 132 o)])
  | 5 => .inr (5, [.ref (ad g (o + 1)), .int (σ.1 161 o), .int (σ.1 162 o)])
  | 6 => .inr (6, [.int (σ.1 192 o), .int (σ.1 193 o), .int (σ.1 194 o), .int (σ.1 195 o), .int (σ.1 196 o), .int (σ.1 197 o), .int (σ.1 198 o), .int (σ.1 199 o), .int (σ.1 200 o)])
  | 7 => .inr (7, [.ref (ad g (o + 1)), .ref (ad g (o + 26)), .int (σ.1 226 o)])
  | 8 => .inr (8, [.ref (ad g (o + 1)), .int (σ.1 257 o), .int (σ.1 258 o), .int (σ.1 259 o), .ref (ad g (o + 6)), .ref (ad g (o + 7)), .ref (ad g (o + 8)), .int (σ.1 263 o), .ref (ad g (o + 16)), .int (σ.1 265 o), .int (σ.1 266 o), .int (σ.1 267 o)])
  | 9 => .inr (9, [.ref (ad g (o + 1)), .ref (ad g (o + 7)), .ref (ad g (o + 20)), .ref (ad g (o + 21)), .int (σ.1 292 o)])
  | 10 => .inr (10, [.ref (ad g (o + 1)), .int (σ.1 321 o), .ref (ad g (o + 2)), .int (σ.1 323 o), .ref (ad g (o + 3)), .int (σ.1 325 o), .ref (ad g (o + 4)), .ref (ad g (o + 5)), .int (σ.1 328 o), .ref (ad g (o + 6)), .int (σ.1 330 o), .ref (ad g (o + 7)), .ref (ad g (o + 8)), .ref (ad g (o + 9)), .ref (ad g (o + 10)), .ref (ad g (o + 11)), .ref (ad g (o + 12)), .ref (ad g (o + 13)), .ref (ad g (o + 14)), .int (σ.1 339 o), .int (σ.1 340 o), .int (σ.1 341 o), .int (σ.1 342 o), .ref (ad g (o + 15)), .ref (ad g (o + 16)), .ref (ad g (o + 17)), .int (σ.1 346 o), .int (σ.1 347 o)])
  | 11 => .inl (g.2.2.2.2.1 0, ln o, .inl (σ.2.1 o))
  | 12 => .inl (g.2.2.2.2.1 1, ln o, .inl (σ.2.1 o))
  | 13 => .inl (g.2.2.2.2.1 2, ln o, .inr (.inr (.inr (.inr (fun k => some (ad g (o + 1 + 6 * k)))))))
  | 14 => .inl (g.2.2.2.2.1 3, ln o, .inr (.inr (.inr (.inr (fun k => some (ad g (o + 1 + σ.2.2 k)))))))
  | 15 => .inl (g.2.2.2.2.1 4, ln o, .inr (.inr (.inr (.inr (fun k => some (ad g (o + 1 + 20 * k)))))))
  | _ => .inl (g.2.2.2.2.1 5, ln o, .inr (.inr (.inr (.inr (fun k => some (ad g (o + 1 + k)))))))
def cl_ (g : GG) (σ : SG) (o : Nat) : va_E := cl0 g σ o (kd o)
theorem cl_k {g : GG} {σ : SG} {o k : Nat} (h : kd o = k) : cl_ g σ o = cl0 g σ o k := by rw [cl_, h]
def wsOf (g : GG) (σ : SG) : va_W := (List.range 194).map fun o => (ad g o, cl_ g σ o)
theorem ws_at (g : GG) (σ : SG) {o : Nat} (h : o < 194) : (wsOf g σ)[o]? = some (ad g o, cl_ g σ o) := by
  unfold wsOf
  rw [List.getElem?_map, List.getElem?_range h]
  rfl
theorem ws_D (g : GG) (σ : SG) : va_D (reg g) (wsOf g σ) := by
  have lt : ∀ (i : Nat) (p : Nat × va_E), (wsOf g σ)[i]? = some p → i < 194 := fun i p h => by
    have := (List.getElem?_eq_some_iff.mp h).1
    simpa [wsOf] using this
  refine ⟨fun i j p q hp hq e => ?_, fun k q hq => ?_⟩
  · rw [ws_at g σ (lt i p hp)] at hp
    rw [ws_at g σ (lt j q hq)] at hq
    cases hp
    cases hq
    exact Nat.add_left_cancel e
  · rw [ws_at g σ (lt k q hq)] at hq
    cases hq
    exact Nat.le_add_right _ _
theorem ws_set {g : GG} {σ σ' : SG} {o : Nat} {e : va_E} (he : e = cl_ g σ' o) (hne : ∀ o', o' ≠ o → cl_ g σ' o' = cl_ g σ o') : (wsOf g σ).set o (ad g o, e) = wsOf g σ' := by
  apply List.ext_getElem?
  intro i
  rw [List.getElem?_set]
  by_cases h : o = i
  · subst h
    rw [if_pos rfl]
    by_cases q : o < 194
    · rw [if_pos (by simpa [wsOf] using q), ws_at g σ' q, he]
    · rw [if_neg (by simpa [wsOf] using q)]
      exact (List.getElem?_eq_none (by simpa [wsOf] using q)).symm
  · rw [if_neg h]
    unfold wsOf
    rw [List.getElem?_map, List.getElem?_map]
    by_cases q : i < 194
    · rw [List.getElem?_range q]
      show some (ad g i, cl_ g σ i) = some (ad g i, cl_ g σ' i)
      rw [hne i (fun z => h z.symm)]
    · rw [List.getElem?_eq_none (by simpa using q)]
      rfl
theorem cl_uI {g : GG} {σ : SG} {f o : Nat} {v : Int32} {o' : Nat} (h : o' ≠ o) : cl_ g (uI σ.1 f o v, σ.2) o' = cl_ g σ o' := by
  have e : ∀ f', uI σ.1 f o v f' o' = σ.1 f' o' := fun f' => uI_o h
  unfold cl_ cl0
  simp only [e]
theorem cl_uA {g : GG} {σ : SG} {o : Nat} {f : Nat → Int32} {o' : Nat} (h : o' ≠ o) : cl_ g (σ.1, uA σ.2.1 o f, σ.2.2) o' = cl_ g σ o' := by
  have e : uA σ.2.1 o f o' = σ.2.1 o' := uA_n h
  unfold cl_ cl0
  simp only [e]
theorem kd14 {o : Nat} (h : kd o = 14) : o = 25 := kd_all (P := fun o => o = 25) 14 (by decide) (by decide +kernel) h
theorem cl_uP {g : GG} {σ : SG} {i r : Nat} {o' : Nat} (h : o' ≠ 25) : cl_ g (σ.1, σ.2.1, uP σ.2.2 i r) o' = cl_ g σ o' := by
  have e : kd o' ≠ 14 := fun q => h (kd14 q)
  unfold cl_ cl0
  split <;> first | rfl | (rename_i q; exact absurd q e)
def tys_ (g : GG) : List (ClassId × FieldType) := [(g.2.2.2.2.1 0, .int), (g.2.2.2.2.1 1, .boolean), (g.2.2.2.2.1 2, .object RX3), (g.2.2.2.2.1 3, .object RX6), (g.2.2.2.2.1 4, .object RX8), (g.2.2.2.2.1 5, .array .int)]
def fM : Nat → Int32 := fun j => if j = 0 then 3 else if j = 1 then 9 else 5
def fF : Nat → Int32 := fun j => if j = 1 then 2 else 1
def stt (g : GG) (U : State) (H : Heap) : Prop := va_Z "RuledTables" "MOST_SETTINGS" "[I" (.ref g.2.2.2.2.2.1) (reg g) U H ∧ va_T .int g.2.2.2.2.2.1 3 (fun j => .int (fM j)) (reg g) U H ∧ va_Z "RuledTables" "FIRST_SETTINGS" "[I" (.ref g.2.2.2.2.2.2) (reg g) U H ∧ va_T .int g.2.2.2.2.2.2 3 (fun j => .int (fF j)) (reg g) U H
theorem stt.moved {g : GG} {u U : State} {H : Heap} (hvm : u.vm.Alike U.vm) (h : stt g u H) : stt g U H := ⟨h.1.moved hvm, h.2.1.moved hvm, h.2.2.1.moved hvm, h.2.2.2.moved hvm⟩
theorem stt.kept {g : GG} {U : State} {H H1 : Heap} (h : stt g U H) (hq : ∀ a : Nat, a < H.size → ¬ reg g a → H1[a]? = H[a]?) : stt g U H1 := ⟨h.1.kept hq, h.2.1.kept hq, h.2.2.1.kept hq, h.2.2.2.kept hq⟩
/-- the world at a state -/
def wd (g : GG) (σ : SG) (U : State) : Prop := va_P (gD g) vwCl (wsOf g σ) U.heap ∧ va_K (gD g) vwCl (tys_ g) U ∧ stt g U U.heap
theorem wd_blind {g : GG} {σ : SG} {av : List Value} : FrameBlind (va_Pc av (wd g σ)) := fun a U g9 mk q => by
  obtain ⟨q0, qP, qK, qS⟩ := q
  exact ⟨q0, qP, va_K.moved (u := U) (U := U.calling g9 mk a) (Vm.Alike.refl U.vm) qK, stt.moved (u := U) (U := U.calling g9 mk a) (Vm.Alike.refl U.vm) qS⟩
abbrev cw_ (y : MethodName) (cc : ByteArray) (nL : Nat) (ret : Option FieldType) : List Cond := Cond.code y cc nL ret :: wtb
abbrev rmm (fr lo : Nat) : Room := { frames := fr, cells := 0, slots := 0, locals := lo }
def dn (cc : ByteArray) (pc : Nat) (i : Instr) (n pc' : Nat) : Prop := decode cc pc = .ok (i, n) ∧ pc + n = pc'
def db (cc : ByteArray) (pc : Nat) (i : Instr) (n pc' : Nat) (off : Int) (tgt : Nat) : Prop := decode cc pc = .ok (i, n) ∧ pc + n = pc' ∧ (pc : Int) + off = (tgt : Int)
/-- what holds all through a method -/
def Fx (g : GG) (p : Program) (s : State) (m : MethodId) (args : Array Value) (meth : Method) (c : Code) (cc : ByteArray) (nL : Nat) (ret : Option FieldType) (own : String) : Prop :=
  p.tables.exec = Jvm.exec ∧ c.code = cc ∧ meth.sig.returnType = ret ∧ c.maxLocals = nL ∧ s.vm.findClass own = some m.cls ∧ (∀ w ∈ wtb, w.before args s = true) ∧ meth.locks = false ∧ va_K (gD g) vwCl (tys_ g) s ∧ stt g s s.heap
/-- the locals, by their places -/
def lvp (ls : Array Slot) (nL : Nat) (lv : List (Option Value)) : Prop := ls.size = nL ∧ lv_wf ls ∧ ∀ (i : Nat) (v : Value), lv[i]? = some (some v) → ls[i]? = some (.val v) ∧ v.category = 1
/-- the machine goes on from here, over the whole world σ, to an end as Qc says -/
def AW (g : GG) (cc : ByteArray) (nL : Nat) (ret : Option FieldType) (R : Room) (own : String) (Qc : Array Value → State → Outcome → State → Prop) (pc : Nat) (lv : List (Option Value)) (st : List Value) (σ : SG) : Prop :=
  ∀ (p : Program) (e : Env) (s : State) (m : MethodId) (args : Array Value) (below : List Frame) (meth : Method) (c : Code) (H : Heap) (locs : List Loc) (ls : Array Slot),
    Fx g p s m args meth c cc nL ret own → va_P (gD g) vwCl (wsOf g σ) H → va_S (reg g) s.heap H locs → lvp ls nL lv →
    W p g.1 e R s m args below meth c H locs 0 0 (MQ below Qc args s 0 0 (reg g)) (F0 m pc ls st)
/-- contracts -/
abbrev Cti (g : GG) (y : MethodName) (cc : ByteArray) (nL : Nat) (ret : Option FieldType) (rm : Room) (av : List Value) (σ : SG) (post : Int32 → SG → Prop) : Prop := Met g.1 y (cw_ y cc nL ret) rm (va_Pc av (wd g σ)) (va_Qi post (wd g) (reg g)) 0 0 (reg g)
abbrev Ctv (g : GG) (y : MethodName) (cc : ByteArray) (nL : Nat) (rm : Room) (av : List Value) (σ : SG) (post : SG → Prop) : Prop := Met g.1 y (cw_ y cc nL none) rm (va_Pc av (wd g σ)) (va_Qv post (wd g) (reg g)) 0 0 (reg g)
abbrev Ctr (g : GG) (y : MethodName) (cc : ByteArray) (nL : Nat) (ret : Option FieldType) (rm : Room) (av : List Value) (σ : SG) (o : Nat) (post : SG → Prop) : Prop := Met g.1 y (cw_ y cc nL ret) rm (va_Pc av (wd g σ)) (va_Qr post (fun u a t => a = ad g o ∧ wd g u t) (reg g)) 0 0 (reg g)
section AWr
variable {g : GG} {cc : ByteArray} {nL : Nat} {ret : Option FieldType} {R : Room} {own : String} {Qc : Array Value → State → Outcome → State → Prop} {pc pc' tgt : Nat} {lv : List (Option Value)} {st : List Value} {σ : SG}
theorem aw_iconst {n : Int} (hd : dn cc pc (.iconst n) 1 pc') (k : AW g cc nL ret R own Qc pc' lv (.int (Int32.ofInt n) :: st) σ) : AW g cc nL ret R own Qc pc lv st σ := by
  obtain ⟨hd, rfl⟩ := hd
  intro p e s m args below meth c H locs ls F hP hS hl
  exact lv_iconst F.1 F.2.1 hd rfl (k p e s m args below meth c H locs ls F hP hS hl)
theorem aw_bipush {n : Int} (hd : dn cc pc (.bipush n) 2 pc') (k : AW g cc nL ret R own Qc pc' lv (.int ((Int8.ofInt n).toInt32) :: st) σ) : AW g cc nL ret R own Qc pc lv st σ := by
  obtain ⟨hd, rfl⟩ := hd
  intro p e s m args below meth c H locs ls F hP hS hl
  exact lv_bipush F.1 F.2.1 hd rfl (k p e s m args below meth c H locs ls F hP hS hl)
theorem aw_sipush {n : Int} (hd : dn cc pc (.sipush n) 3 pc') (k : AW g cc nL ret R own Qc pc' lv (.int ((Int16.ofInt n).toInt32) :: st) σ) : AW g cc nL ret R own Qc pc lv st σ := by
  obtain ⟨hd, rfl⟩ := hd
  intro p e s m args below meth c H locs ls F hP hS hl
  exact lv_sipush F.1 F.2.1 hd rfl (k p e s m args below meth c H locs ls F hP hS hl)
theorem aw_iadd {x y : Int32} (hd : dn cc pc .iadd 1 pc') (k : AW g cc nL ret R own Qc pc' lv (.int (x + y) :: st) σ) : AW g cc nL ret R own Qc pc lv (.int y :: .int x :: st) σ := by
  obtain ⟨hd, rfl⟩ := hd
  intro p e s m args below meth c H locs ls F hP hS hl
  exact lv_iadd F.1 F.2.1 hd  (k p e s m args below meth c H locs ls F hP hS hl)
theorem aw_isub {x y : Int32} (hd : dn cc pc .isub 1 pc') (k : AW g cc nL ret R own Qc pc' lv (.int (x - y) :: st) σ) : AW g cc nL ret R own Qc pc lv (.int y :: .int x :: st) σ := by
  obtain ⟨hd, rfl⟩ := hd
  intro p e s m args below meth c H locs ls F hP hS hl
  exact lv_isub F.1 F.2.1 hd  (k p e s m args below meth c H locs ls F hP hS hl)
theorem aw_imul {x y : Int32} (hd : dn cc pc .imul 1 pc') (k : AW g cc nL ret R own Qc pc' lv (.int (x * y) :: st) σ) : AW g cc nL ret R own Qc pc lv (.int y :: .int x :: st) σ := by
  obtain ⟨hd, rfl⟩ := hd
  intro p e s m args below meth c H locs ls F hP hS hl
  exact lv_imul F.1 F.2.1 hd  (k p e s m args below meth c H locs ls F hP hS hl)
theorem aw_iand {x y : Int32} (hd : dn cc pc .iand 1 pc') (k : AW g cc nL ret R own Qc pc' lv (.int (x &&& y) :: st) σ) : AW g cc nL ret R own Qc pc lv (.int y :: .int x :: st) σ := by
  obtain ⟨hd, rfl⟩ := hd
  intro p e s m args below meth c H locs ls F hP hS hl
  exact lv_iand F.1 F.2.1 hd  (k p e s m args below meth c H locs ls F hP hS hl)
theorem aw_ior {x y : Int32} (hd : dn cc pc .ior 1 pc') (k : AW g cc nL ret R own Qc pc' lv (.int (x ||| y) :: st) σ) : AW g cc nL ret R own Qc pc lv (.int y :: .int x :: st) σ := by
  obtain ⟨hd, rfl⟩ := hd
  intro p e s m args below meth c H locs ls F hP hS hl
  exact lv_ior F.1 F.2.1 hd  (k p e s m args below meth c H locs ls F hP hS hl)
theorem aw_idiv {x y : Int32} (hd : dn cc pc .idiv 1 pc') (hne : ¬ y = 0) (k : AW g cc nL ret R own Qc pc' lv (.int (x / y) :: st) σ) : AW g cc nL ret R own Qc pc lv (.int y :: .int x :: st) σ := by
  obtain ⟨hd, rfl⟩ := hd
  intro p e s m args below meth c H locs ls F hP hS hl
  exact lv_idiv F.1 F.2.1 hd hne (k p e s m args below meth c H locs ls F hP hS hl)
theorem aw_irem {x y : Int32} (hd : dn cc pc .irem 1 pc') (hne : ¬ y = 0) (k : AW g cc nL ret R own Qc pc' lv (.int (x - x / y * y) :: st) σ) : AW g cc nL ret R own Qc pc lv (.int y :: .int x :: st) σ := by
  obtain ⟨hd, rfl⟩ := hd
  intro p e s m args below meth c H locs ls F hP hS hl
  exact lv_irem F.1 F.2.1 hd hne (k p e s m args below meth c H locs ls F hP hS hl)
theorem aw_ineg {x : Int32} (hd : dn cc pc .ineg 1 pc') (k : AW g cc nL ret R own Qc pc' lv (.int (-x) :: st) σ) : AW g cc nL ret R own Qc pc lv (.int x :: st) σ := by
  obtain ⟨hd, rfl⟩ := hd
  intro p e s m args below meth c H locs ls F hP hS hl
  exact lv_ineg F.1 F.2.1 hd  (k p e s m args below meth c H locs ls F hP hS hl)
theorem aw_i2l {x : Int32} (hd : dn cc pc .i2l 1 pc') (k : AW g cc nL ret R own Qc pc' lv (.long x.toInt64 :: st) σ) : AW g cc nL ret R own Qc pc lv (.int x :: st) σ := by
  obtain ⟨hd, rfl⟩ := hd
  intro p e s m args below meth c H locs ls F hP hS hl
  exact lv_i2l F.1 F.2.1 hd rfl (k p e s m args below meth c H locs ls F hP hS hl)
theorem aw_lconst {n : Fin 2} (hd : dn cc pc (.lconst n) 1 pc') (k : AW g cc nL ret R own Qc pc' lv (.long (Int64.ofNat (n : Nat)) :: st) σ) : AW g cc nL ret R own Qc pc lv st σ := by
  obtain ⟨hd, rfl⟩ := hd
  intro p e s m args below meth c H locs ls F hP hS hl
  exact lv_lconst F.1 F.2.1 hd rfl (k p e s m args below meth c H locs ls F hP hS hl)
theorem aw_ldc2 {i : Nat} {v : Int64} (hd : dn cc pc (.ldc2_w i) 3 pc') (hw : Cond.constantLong own i v ∈ wtb) (k : AW g cc nL ret R own Qc pc' lv (.long v :: st) σ) : AW g cc nL ret R own Qc pc lv st σ := by
  obtain ⟨hd, rfl⟩ := hd
  intro p e s m args below meth c H locs ls F hP hS hl
  exact lv_ldc2 F.1 F.2.1 F.2.2.2.2.1 (F.2.2.2.2.2.1 _ hw) hd (k p e s m args below meth c H locs ls F hP hS hl)
theorem aw_dup {va : Value} (hd : dn cc pc .dup 1 pc') (hv : va.category = 1) (k : AW g cc nL ret R own Qc pc' lv (va :: va :: st) σ) : AW g cc nL ret R own Qc pc lv (va :: st) σ := by
  obtain ⟨hd, rfl⟩ := hd
  intro p e s m args below meth c H locs ls F hP hS hl
  exact lv_dup F.1 F.2.1 hd hv (k p e s m args below meth c H locs ls F hP hS hl)
theorem aw_dup2 {va vb : Value} (hd : dn cc pc .dup2 1 pc') (hv : va.category = 1) (hv2 : vb.category = 1) (k : AW g cc nL ret R own Qc pc' lv (va :: vb :: va :: vb :: st) σ) : AW g cc nL ret R own Qc pc lv (va :: vb :: st) σ := by
  obtain ⟨hd, rfl⟩ := hd
  intro p e s m args below meth c H locs ls F hP hS hl
  exact lv_dup2_11 F.1 F.2.1 hd hv hv2 (k p e s m args below meth c H locs ls F hP hS hl)
theorem aw_iload_n {i : Fin 4} {x : Int32} (hd : dn cc pc (.iload_n i) 1 pc') (hx : lv[(i : Nat)]? = some (some (.int x))) (k : AW g cc nL ret R own Qc pc' lv (.int x :: st) σ) : AW g cc nL ret R own Qc pc lv st σ := by
  obtain ⟨hd, rfl⟩ := hd
  intro p e s m args below meth c H locs ls F hP hS hl
  exact lv_iload_n F.1 F.2.1 hd rfl (hl.2.2 _ _ hx).1 (k p e s m args below meth c H locs ls F hP hS hl)
theorem aw_iload {i : Nat} {x : Int32} (hd : dn cc pc (.iload i) 2 pc') (hx : lv[i]? = some (some (.int x))) (k : AW g cc nL ret R own Qc pc' lv (.int x :: st) σ) : AW g cc nL ret R own Qc pc lv st σ := by
  obtain ⟨hd, rfl⟩ := hd
  intro p e s m args below meth c H locs ls F hP hS hl
  exact lv_iload F.1 F.2.1 hd (hl.2.2 _ _ hx).1 (k p e s m args below meth c H locs ls F hP hS hl)
theorem aw_aload_n {i : Fin 4} {x : Nat} (hd : dn cc pc (.aload_n i) 1 pc') (hx : lv[(i : Nat)]? = some (some (.ref x))) (k : AW g cc nL ret R own Qc pc' lv (.ref x :: st) σ) : AW g cc nL ret R own Qc pc lv st σ := by
  obtain ⟨hd, rfl⟩ := hd
  intro p e s m args below meth c H locs ls F hP hS hl
  exact lv_aload_n F.1 F.2.1 hd rfl (hl.2.2 _ _ hx).1 (k p e s m args below meth c H locs ls F hP hS hl)
theorem aw_aload {i : Nat} {x : Nat} (hd : dn cc pc (.aload i) 2 pc') (hx : lv[i]? = some (some (.ref x))) (k : AW g cc nL ret R own Qc pc' lv (.ref x :: st) σ) : AW g cc nL ret R own Qc pc lv st σ := by
  obtain ⟨hd, rfl⟩ := hd
  intro p e s m args below meth c H locs ls F hP hS hl
  exact lv_aload F.1 F.2.1 hd (hl.2.2 _ _ hx).1 (k p e s m args below meth c H locs ls F hP hS hl)
def lvL (lv : List (Option Value)) : List (Nat × Value) := (List.range lv.length).filterMap fun i => (lv.getD i none).map fun v => (i, v)
theorem lvL_mem {lv : List (Option Value)} {q : Nat × Value} : q ∈ lvL lv ↔ lv[q.1]? = some (some q.2) := by
  unfold lvL
  rw [List.mem_filterMap]
  constructor
  · rintro ⟨i, hi, h⟩
    have hi := List.mem_range.mp hi
    rw [List.getD_eq_getElem?_getD, List.getElem?_eq_getElem hi] at h
    simp only [Option.getD_some, Option.map_eq_some_iff] at h
    obtain ⟨v, h1, h2⟩ := h
    rw [← h2]
    simp only
    rw [List.getElem?_eq_getElem hi, h1]
  · intro h
    have hi := (List.getElem?_eq_some_iff.mp h).1
    refine ⟨q.1, List.mem_range.mpr hi, ?_⟩
    rw [List.getD_eq_getElem?_getD, h]
    rfl
theorem lvp.has {ls : Array Slot} {nL : Nat} {lv : List (Option Value)} (h : lvp ls nL lv) : lv_has ls nL (lvL lv) := ⟨h.1, h.2.1, fun q hq => (h.2.2 q.1 q.2 (lvL_mem.mp hq)).1⟩
theorem lvp.set {ls ls' : Array Slot} {nL : Nat} {lv : List (Option Value)} {i : Nat} {v : Value} (h : lvp ls nL lv) (hv : v.category = 1) (h' : lv_has ls' nL ((i, v) :: (lvL lv).filter (fun q => !(q.1 == i) && !(q.1 + 1 == i && q.2.category == 2)))) : lvp ls' nL (lv.set i (some v)) := by
  refine ⟨h'.1, h'.2.1, fun j w hw => ?_⟩
  rw [List.getElem?_set] at hw
  by_cases e : i = j
  · subst e
    rw [if_pos rfl] at hw
    by_cases q : i < lv.length
    · rw [if_pos q] at hw
      have e : v = w := Option.some.inj (Option.some.inj hw)
      subst e
      exact ⟨h'.2.2 (i, v) List.mem_cons_self, hv⟩
    · rw [if_neg q] at hw
      cases hw
  · rw [if_neg e] at hw
    have h1 := h.2.2 j w hw
    refine ⟨h'.2.2 (j, w) (List.mem_cons_of_mem _ (List.mem_filter.mpr ⟨lvL_mem.mpr hw, ?_⟩)), h1.2⟩
    simp [h1.2, show ¬ j = i from fun z => e z.symm]
theorem aw_istore_n {i : Fin 4} {x : Int32} (hd : dn cc pc (.istore_n i) 1 pc') (hn : (i : Nat) < nL) (k : AW g cc nL ret R own Qc pc' (lv.set (i : Nat) (some (.int x))) st σ) : AW g cc nL ret R own Qc pc lv (.int x :: st) σ := by
  obtain ⟨hd, rfl⟩ := hd
  intro p e s m args below meth c H locs ls F hP hS hl
  exact lv_istore_n F.1 F.2.1 hd rfl hl.has hn rfl (fun ls' h' => k p e s m args below meth c H locs ls' F hP hS (hl.set rfl h'))
theorem aw_istore {i : Nat} {x : Int32} (hd : dn cc pc (.istore i) 2 pc') (hn : i < nL) (k : AW g cc nL ret R own Qc pc' (lv.set i (some (.int x))) st σ) : AW g cc nL ret R own Qc pc lv (.int x :: st) σ := by
  obtain ⟨hd, rfl⟩ := hd
  intro p e s m args below meth c H locs ls F hP hS hl
  exact lv_istore F.1 F.2.1 hd hl.has hn rfl (fun ls' h' => k p e s m args below meth c H locs ls' F hP hS (hl.set rfl h'))
theorem aw_astore_n {i : Fin 4} {x : Nat} (hd : dn cc pc (.astore_n i) 1 pc') (hn : (i : Nat) < nL) (k : AW g cc nL ret R own Qc pc' (lv.set (i : Nat) (some (.ref x))) st σ) : AW g cc nL ret R own Qc pc lv (.ref x :: st) σ := by
  obtain ⟨hd, rfl⟩ := hd
  intro p e s m args below meth c H locs ls F hP hS hl
  exact lv_astore_n F.1 F.2.1 hd rfl hl.has hn rfl (fun ls' h' => k p e s m args below meth c H locs ls' F hP hS (hl.set rfl h'))
theorem aw_astore {i : Nat} {x : Nat} (hd : dn cc pc (.astore i) 2 pc') (hn : i < nL) (k : AW g cc nL ret R own Qc pc' (lv.set i (some (.ref x))) st σ) : AW g cc nL ret R own Qc pc lv (.ref x :: st) σ := by
  obtain ⟨hd, rfl⟩ := hd
  intro p e s m args below meth c H locs ls F hP hS hl
  exact lv_astore F.1 F.2.1 hd hl.has hn rfl (fun ls' h' => k p e s m args below meth c H locs ls' F hP hS (hl.set rfl h'))
theorem aw_iinc {i : Nat} {n : Int} {x : Int32} (hd : dn cc pc (.iinc i n) 3 pc') (hx : lv[i]? = some (some (.int x))) (hn : i < nL) (k : AW g cc nL ret R own Qc pc' (lv.set i (some (.int (x + Int32.ofInt n)))) st σ) : AW g cc nL ret R own Qc pc lv st σ := by
  obtain ⟨hd, rfl⟩ := hd
  intro p e s m args below meth c H locs ls F hP hS hl
  obtain ⟨j, hj⟩ := List.getElem?_of_mem (lvL_mem (q := (i, .int x)).mpr hx)
  exact lv_iinc F.1 F.2.1 hd hl.has hj rfl hn rfl (fun ls' h' => k p e s m args below meth c H locs ls' F hP hS (hl.set rfl h'))
theorem aw_if_eq {x : Int32} {off : Int} (hd : db cc pc (.ifCond .eq off) 3 pc' off tgt) (kt : x = 0 → AW g cc nL ret R own Qc tgt lv st σ) (kf : ¬ x = 0 → AW g cc nL ret R own Qc pc' lv st σ) : AW g cc nL ret R own Qc pc lv (.int x :: st) σ := by
  obtain ⟨hd, rfl, ht⟩ := hd
  intro p e s m args below meth c H locs ls F hP hS hl
  exact lv_if_eq F.1 F.2.1 hd ht (fun q => kt q p e s m args below meth c H locs ls F hP hS hl) (fun q => kf q p e s m args below meth c H locs ls F hP hS hl)
theorem aw_if_ne {x : Int32} {off : Int} (hd : db cc pc (.ifCond .ne off) 3 pc' off tgt) (kt : ¬ x = 0 → AW g cc nL ret R own Qc tgt lv st σ) (kf : x = 0 → AW g cc nL ret R own Qc pc' lv st σ) : AW g cc nL ret R own Qc pc lv (.int x :: st) σ := by
  obtain ⟨hd, rfl, ht⟩ := hd
  intro p e s m args below meth c H locs ls F hP hS hl
  exact lv_if_ne F.1 F.2.1 hd ht (fun q => kt q p e s m args below meth c H locs ls F hP hS hl) (fun q => kf q p e s m args below meth c H locs ls F hP hS hl)
theorem aw_if_lt {x : Int32} {off : Int} (hd : db cc pc (.ifCond .lt off) 3 pc' off tgt) (kt : x < 0 → AW g cc nL ret R own Qc tgt lv st σ) (kf : ¬ x < 0 → AW g cc nL ret R own Qc pc' lv st σ) : AW g cc nL ret R own Qc pc lv (.int x :: st) σ := by
  obtain ⟨hd, rfl, ht⟩ := hd
  intro p e s m args below meth c H locs ls F hP hS hl
  exact lv_if_lt F.1 F.2.1 hd ht (fun q => kt q p e s m args below meth c H locs ls F hP hS hl) (fun q => kf q p e s m args below meth c H locs ls F hP hS hl)
theorem aw_if_ge {x : Int32} {off : Int} (hd : db cc pc (.ifCond .ge off) 3 pc' off tgt) (kt : 0 ≤ x → AW g cc nL ret R own Qc tgt lv st σ) (kf : ¬ 0 ≤ x → AW g cc nL ret R own Qc pc' lv st σ) : AW g cc nL ret R own Qc pc lv (.int x :: st) σ := by
  obtain ⟨hd, rfl, ht⟩ := hd
  intro p e s m args below meth c H locs ls F hP hS hl
  exact lv_if_ge F.1 F.2.1 hd ht (fun q => kt q p e s m args below meth c H locs ls F hP hS hl) (fun q => kf q p e s m args below meth c H locs ls F hP hS hl)
theorem aw_if_gt {x : Int32} {off : Int} (hd : db cc pc (.ifCond .gt off) 3 pc' off tgt) (kt : 0 < x → AW g cc nL ret R own Qc tgt lv st σ) (kf : ¬ 0 < x → AW g cc nL ret R own Qc pc' lv st σ) : AW g cc nL ret R own Qc pc lv (.int x :: st) σ := by
  obtain ⟨hd, rfl, ht⟩ := hd
  intro p e s m args below meth c H locs ls F hP hS hl
  exact lv_if_gt F.1 F.2.1 hd ht (fun q => kt q p e s m args below meth c H locs ls F hP hS hl) (fun q => kf q p e s m args below meth c H locs ls F hP hS hl)
theorem aw_if_le {x : Int32} {off : Int} (hd : db cc pc (.ifCond .le off) 3 pc' off tgt) (kt : x ≤ 0 → AW g cc nL ret R own Qc tgt lv st σ) (kf : ¬ x ≤ 0 → AW g cc nL ret R own Qc pc' lv st σ) : AW g cc nL ret R own Qc pc lv (.int x :: st) σ := by
  obtain ⟨hd, rfl, ht⟩ := hd
  intro p e s m args below meth c H locs ls F hP hS hl
  exact lv_if_le F.1 F.2.1 hd ht (fun q => kt q p e s m args below meth c H locs ls F hP hS hl) (fun q => kf q p e s m args below meth c H locs ls F hP hS hl)
theorem aw_icmp_eq {x y : Int32} {off : Int} (hd : db cc pc (.if_icmp .eq off) 3 pc' off tgt) (kt : x = y → AW g cc nL ret R own Qc tgt lv st σ) (kf : ¬ x = y → AW g cc nL ret R own Qc pc' lv st σ) : AW g cc nL ret R own Qc pc lv (.int y :: .int x :: st) σ := by
  obtain ⟨hd, rfl, ht⟩ := hd
  intro p e s m args below meth c H locs ls F hP hS hl
  exact lv_icmp_eq F.1 F.2.1 hd ht (fun q => kt q p e s m args below meth c H locs ls F hP hS hl) (fun q => kf q p e s m args below meth c H locs ls F hP hS hl)
theorem aw_icmp_ne {x y : Int32} {off : Int} (hd : db cc pc (.if_icmp .ne off) 3 pc' off tgt) (kt : ¬ x = y → AW g cc nL ret R own Qc tgt lv st σ) (kf : x = y → AW g cc nL ret R own Qc pc' lv st σ) : AW g cc nL ret R own Qc pc lv (.int y :: .int x :: st) σ := by
  obtain ⟨hd, rfl, ht⟩ := hd
  intro p e s m args below meth c H locs ls F hP hS hl
  exact lv_icmp_ne F.1 F.2.1 hd ht (fun q => kt q p e s m args below meth c H locs ls F hP hS hl) (fun q => kf q p e s m args below meth c H locs ls F hP hS hl)
theorem aw_icmp_lt {x y : Int32} {off : Int} (hd : db cc pc (.if_icmp .lt off) 3 pc' off tgt) (kt : x < y → AW g cc nL ret R own Qc tgt lv st σ) (kf : ¬ x < y → AW g cc nL ret R own Qc pc' lv st σ) : AW g cc nL ret R own Qc pc lv (.int y :: .int x :: st) σ := by
  obtain ⟨hd, rfl, ht⟩ := hd
  intro p e s m args below meth c H locs ls F hP hS hl
  exact lv_icmp_lt F.1 F.2.1 hd ht (fun q => kt q p e s m args below meth c H locs ls F hP hS hl) (fun q => kf q p e s m args below meth c H locs ls F hP hS hl)
theorem aw_icmp_ge {x y : Int32} {off : Int} (hd : db cc pc (.if_icmp .ge off) 3 pc' off tgt) (kt : y ≤ x → AW g cc nL ret R own Qc tgt lv st σ) (kf : ¬ y ≤ x → AW g cc nL ret R own Qc pc' lv st σ) : AW g cc nL ret R own Qc pc lv (.int y :: .int x :: st) σ := by
  obtain ⟨hd, rfl, ht⟩ := hd
  intro p e s m args below meth c H locs ls F hP hS hl
  exact lv_icmp_ge F.1 F.2.1 hd ht (fun q => kt q p e s m args below meth c H locs ls F hP hS hl) (fun q => kf q p e s m args below meth c H locs ls F hP hS hl)
theorem aw_icmp_gt {x y : Int32} {off : Int} (hd : db cc pc (.if_icmp .gt off) 3 pc' off tgt) (kt : y < x → AW g cc nL ret R own Qc tgt lv st σ) (kf : ¬ y < x → AW g cc nL ret R own Qc pc' lv st σ) : AW g cc nL ret R own Qc pc lv (.int y :: .int x :: st) σ := by
  obtain ⟨hd, rfl, ht⟩ := hd
  intro p e s m args below meth c H locs ls F hP hS hl
  exact lv_icmp_gt F.1 F.2.1 hd ht (fun q => kt q p e s m args below meth c H locs ls F hP hS hl) (fun q => kf q p e s m args below meth c H locs ls F hP hS hl)
theorem aw_icmp_le {x y : Int32} {off : Int} (hd : db cc pc (.if_icmp .le off) 3 pc' off tgt) (kt : x ≤ y → AW g cc nL ret R own Qc tgt lv st σ) (kf : ¬ x ≤ y → AW g cc nL ret R own Qc pc' lv st σ) : AW g cc nL ret R own Qc pc lv (.int y :: .int x :: st) σ := by
  obtain ⟨hd, rfl, ht⟩ := hd
  intro p e s m args below meth c H locs ls F hP hS hl
  exact lv_icmp_le F.1 F.2.1 hd ht (fun q => kt q p e s m args below meth c H locs ls F hP hS hl) (fun q => kf q p e s m args below meth c H locs ls F hP hS hl)
theorem aw_goto {off : Int} (hd : db cc pc (.goto off) 3 pc' off tgt) (k : AW g cc nL ret R own Qc tgt lv st σ) : AW g cc nL ret R own Qc pc lv st σ := by
  obtain ⟨hd, rfl, ht⟩ := hd
  intro p e s m args below meth c H locs ls F hP hS hl
  exact lv_goto F.1 F.2.1 hd ht (k p e s m args below meth c H locs ls F hP hS hl)
theorem aw_tout {dflt lo hi : Int} {offs : Array Int} {len : Nat} {x : Int32} (hd : decode cc pc = .ok (.tableswitch dflt lo hi offs, len)) (h : x.toInt < lo ∨ hi < x.toInt) (ht : (pc : Int) + dflt = (tgt : Int)) (k : AW g cc nL ret R own Qc tgt lv st σ) : AW g cc nL ret R own Qc pc lv (.int x :: st) σ := by
  intro p e s m args below meth c H locs ls F hP hS hl
  exact lv_tableOut F.1 F.2.1 hd h ht (k p e s m args below meth c H locs ls F hP hS hl)
theorem aw_tin {dflt lo hi : Int} {offs : Array Int} {len : Nat} {x : Int32} {off : Int} (hd : decode cc pc = .ok (.tableswitch dflt lo hi offs, len)) (h1 : ¬ x.toInt < lo) (h2 : ¬ hi < x.toInt) (ho : offs[(x.toInt - lo).toNat]? = some off) (ht : (pc : Int) + off = (tgt : Int)) (k : AW g cc nL ret R own Qc tgt lv st σ) : AW g cc nL ret R own Qc pc lv (.int x :: st) σ := by
  intro p e s m args below meth c H locs ls F hP hS hl
  exact lv_tableIn F.1 F.2.1 hd h1 h2 ho ht (k p e s m args below meth c H locs ls F hP hS hl)
theorem aw_get {ci k idx N : Nat} {C : String} {T : u_T} {fs : List Value} {v : Value} {o : Nat} (hd : dn cc pc (.getfield idx) 3 pc') (hin : ∀ w ∈ u_ws C T N, w ∈ wtb) (hc : vwCl[ci]? = some (C, T, N)) (ho : o < 194) (he : cl_ g σ o = .inr (ci, fs)) (hk : k < N) (hv : fs[k]? = some v) (hT : (T k).1 = C) (hw : Cond.fieldLink own idx C (T k).2.1 (T k).2.2.1 ∈ wtb) (kk : AW g cc nL ret R own Qc pc' lv (v :: st) σ) : AW g cc nL ret R own Qc pc lv (.ref (ad g o) :: st) σ := by
  obtain ⟨hd, rfl⟩ := hd
  intro p e s m args below meth c H locs ls F hP hS hl
  exact va_get F.1 F.2.1 F.2.2.2.2.2.1 hin F.2.2.2.2.1 F.2.2.2.2.2.2.2.1 hP o (by rw [ws_at g σ ho, he]) hc k hk (F.2.2.2.2.2.1 _ hw) (fun x h => by rw [hT] at h; exact h) hv hd (kk p e s m args below meth c H locs ls F hP hS hl)
theorem aw_put {ci k idx N : Nat} {C : String} {T : u_T} {ty0 : Nat → FieldType} {fs : List Value} {x : Int32} {ty : FieldType} {o f : Nat} (hd : dn cc pc (.putfield idx) 3 pc') (hin : ∀ w ∈ u_ws C T N, w ∈ wtb) (hty : ∀ k, k < N → parseFieldDescriptor (T k).2.2.1 = some (ty0 k)) (hnm : ∀ a, a < N → ∀ b, b < N → a ≠ b → (T a).2.1 ≠ (T b).2.1) (hc : vwCl[ci]? = some (C, T, N)) (ho : o < 194) (he : cl_ g σ o = .inr (ci, fs)) (hk : k < N) (hT : (T k).1 = C) (hfin : (T k).2.2.2 = false) (hdd : parseFieldDescriptor (T k).2.2.1 = some ty) (hn : narrow ty (.int x) = .int x) (hfit : fits ty (.int x) = true) (hlen : k < fs.length) (hw : Cond.fieldLink own idx C (T k).2.1 (T k).2.2.1 ∈ wtb) (hset : (.inr (ci, fs.set k (.int x)) : va_E) = cl_ g (uI σ.1 f o x, σ.2) o) (kk : AW g cc nL ret R own Qc pc' lv st (uI σ.1 f o x, σ.2)) : AW g cc nL ret R own Qc pc lv (.int x :: .ref (ad g o) :: st) σ := by
  obtain ⟨hd, rfl⟩ := hd
  intro p e s m args below meth c H locs ls F hP hS hl
  refine va_put F.1 F.2.1 F.2.2.2.2.2.1 hin ty0 hty hnm F.2.2.2.2.1 F.2.2.2.2.2.2.2.1 hP (ws_D g σ) hS o (by rw [ws_at g σ ho, he]) hc k hk (F.2.2.2.2.2.1 _ hw) (fun x h => by rw [hT] at h; exact h) hfin hdd hn hfit hlen hd (fun H1 locs1 hP1 hD1 hS1 => ?_)
  rw [ws_set hset (fun o' h => cl_uI h)] at hP1
  exact kk p e s m args below meth c H1 locs1 ls F hP1 hS1 hl
theorem aw_iald {o : Nat} {i : Int32} (hd : dn cc pc .iaload 1 pc') (hk : kd o = 11) (hi : vp_in i (ln o)) (kk : AW g cc nL ret R own Qc pc' lv (.int (σ.2.1 o i.toNatClampNeg) :: st) σ) : AW g cc nL ret R own Qc pc lv (.int i :: .ref (ad g o) :: st) σ := by
  obtain ⟨hd, rfl⟩ := hd
  intro p e s m args below meth c H locs ls F hP hS hl
  exact va_iald F.1 F.2.1 F.2.2.2.2.2.2.2.1 hP o 0 (by rw [ws_at g σ (kd_lt hk (by decide)), cl_k hk]; rfl) rfl hi hd (kk p e s m args below meth c H locs ls F hP hS hl)
theorem aw_zald {o : Nat} {i : Int32} (hd : dn cc pc .baload 1 pc') (hk : kd o = 12) (hi : vp_in i (ln o)) (kk : AW g cc nL ret R own Qc pc' lv (.int (σ.2.1 o i.toNatClampNeg) :: st) σ) : AW g cc nL ret R own Qc pc lv (.int i :: .ref (ad g o) :: st) σ := by
  obtain ⟨hd, rfl⟩ := hd
  intro p e s m args below meth c H locs ls F hP hS hl
  exact va_zald F.1 F.2.1 F.2.2.2.2.2.2.2.1 hP o 1 (by rw [ws_at g σ (kd_lt hk (by decide)), cl_k hk]; rfl) rfl hi hd (kk p e s m args below meth c H locs ls F hP hS hl)
theorem aw_iast {o : Nat} {i x : Int32} (hd : dn cc pc .iastore 1 pc') (hk : kd o = 11) (hi : vp_in i (ln o)) (kk : AW g cc nL ret R own Qc pc' lv st (σ.1, uA σ.2.1 o (upd (σ.2.1 o) i.toNatClampNeg x), σ.2.2)) : AW g cc nL ret R own Qc pc lv (.int x :: .int i :: .ref (ad g o) :: st) σ := by
  obtain ⟨hd, rfl⟩ := hd
  intro p e s m args below meth c H locs ls F hP hS hl
  refine va_iast F.1 F.2.1 F.2.2.2.2.2.2.2.1 hP (ws_D g σ) hS o 0 (by rw [ws_at g σ (kd_lt hk (by decide)), cl_k hk]; rfl) rfl hi hd (fun H1 locs1 hP1 hD1 hS1 => ?_)
  rw [ws_set (σ' := (σ.1, uA σ.2.1 o (upd (σ.2.1 o) i.toNatClampNeg x), σ.2.2)) (by rw [cl_k hk]; show _ = (Sum.inl (g.2.2.2.2.1 0, ln o, Sum.inl (uA σ.2.1 o _ o)) : va_E); rw [uA_s]) (fun o' h => cl_uA h)] at hP1
  exact kk p e s m args below meth c H1 locs1 ls F hP1 hS1 hl
theorem aw_zast {o : Nat} {i x : Int32} (hd : dn cc pc .bastore 1 pc') (hk : kd o = 12) (hi : vp_in i (ln o)) (hx : vp_nar .boolean x = x) (kk : AW g cc nL ret R own Qc pc' lv st (σ.1, uA σ.2.1 o (upd (σ.2.1 o) i.toNatClampNeg x), σ.2.2)) : AW g cc nL ret R own Qc pc lv (.int x :: .int i :: .ref (ad g o) :: st) σ := by
  obtain ⟨hd, rfl⟩ := hd
  intro p e s m args below meth c H locs ls F hP hS hl
  refine va_zast F.1 F.2.1 F.2.2.2.2.2.2.2.1 hP (ws_D g σ) hS o 1 (by rw [ws_at g σ (kd_lt hk (by decide)), cl_k hk]; rfl) rfl hi hd (fun H1 locs1 hP1 hD1 hS1 => ?_)
  rw [hx, ws_set (σ' := (σ.1, uA σ.2.1 o (upd (σ.2.1 o) i.toNatClampNeg x), σ.2.2)) (by rw [cl_k hk]; show _ = (Sum.inl (g.2.2.2.2.1 1, ln o, Sum.inl (uA σ.2.1 o _ o)) : va_E); rw [uA_s]) (fun o' h => cl_uA h)] at hP1
  exact kk p e s m args below meth c H1 locs1 ls F hP1 hS1 hl
theorem aw_alen {o kk0 : Nat} (hd : dn cc pc .arraylength 1 pc') (hk : kd o = kk0) (h2 : kk0 = 11 ∨ kk0 = 12) (kk : AW g cc nL ret R own Qc pc' lv (.int (nI (ln o)) :: st) σ) : AW g cc nL ret R own Qc pc lv (.ref (ad g o) :: st) σ := by
  obtain ⟨hd, rfl⟩ := hd
  intro p e s m args below meth c H locs ls F hP hS hl
  rcases h2 with rfl | rfl
  · exact va_alen (x := (ln o, .inl (σ.2.1 o))) F.1 F.2.1 F.2.2.2.2.2.2.2.1 hP o 0 (by rw [ws_at g σ (kd_lt hk (by decide)), cl_k hk]; rfl) rfl rfl hd (kk p e s m args below meth c H locs ls F hP hS hl)
  · exact va_alen (x := (ln o, .inl (σ.2.1 o))) F.1 F.2.1 F.2.2.2.2.2.2.2.1 hP o 1 (by rw [ws_at g σ (kd_lt hk (by decide)), cl_k hk]; rfl) rfl rfl hd (kk p e s m args below meth c H locs ls F hP hS hl)
theorem aw_aald13 {o : Nat} {i : Int32} (hd : dn cc pc .aaload 1 pc') (hk : kd o = 13) (hi : vp_in i (ln o)) (kk : AW g cc nL ret R own Qc pc' lv (.ref (ad g (o + 1 + 6 * i.toNatClampNeg)) :: st) σ) : AW g cc nL ret R own Qc pc lv (.int i :: .ref (ad g o) :: st) σ := by
  obtain ⟨hd, rfl⟩ := hd
  intro p e s m args below meth c H locs ls F hP hS hl
  exact va_aldq (f := fun k => some (ad g (o + 1 + 6 * k))) F.1 F.2.1 F.2.2.2.2.2.2.2.1 hP o 2 (by rw [ws_at g σ (kd_lt hk (by decide)), cl_k hk]; rfl) rfl hi hd (kk p e s m args below meth c H locs ls F hP hS hl)
theorem aw_aald14 {o : Nat} {i : Int32} (hd : dn cc pc .aaload 1 pc') (hk : kd o = 14) (hi : vp_in i (ln o)) (kk : AW g cc nL ret R own Qc pc' lv (.ref (ad g (o + 1 + σ.2.2 i.toNatClampNeg)) :: st) σ) : AW g cc nL ret R own Qc pc lv (.int i :: .ref (ad g o) :: st) σ := by
  obtain ⟨hd, rfl⟩ := hd
  intro p e s m args below meth c H locs ls F hP hS hl
  exact va_aldq (f := fun k => some (ad g (o + 1 + σ.2.2 k))) F.1 F.2.1 F.2.2.2.2.2.2.2.1 hP o 3 (by rw [ws_at g σ (kd_lt hk (by decide)), cl_k hk]; rfl) rfl hi hd (kk p e s m args below meth c H locs ls F hP hS hl)
theorem aw_aald15 {o : Nat} {i : Int32} (hd : dn cc pc .aaload 1 pc') (hk : kd o = 15) (hi : vp_in i (ln o)) (kk : AW g cc nL ret R own Qc pc' lv (.ref (ad g (o + 1 + 20 * i.toNatClampNeg)) :: st) σ) : AW g cc nL ret R own Qc pc lv (.int i :: .ref (ad g o) :: st) σ := by
  obtain ⟨hd, rfl⟩ := hd
  intro p e s m args below meth c H locs ls F hP hS hl
  exact va_aldq (f := fun k => some (ad g (o + 1 + 20 * k))) F.1 F.2.1 F.2.2.2.2.2.2.2.1 hP o 4 (by rw [ws_at g σ (kd_lt hk (by decide)), cl_k hk]; rfl) rfl hi hd (kk p e s m args below meth c H locs ls F hP hS hl)
end AWr
theorem gf0_groups {g : GG} {cc : ByteArray} {nL : Nat} {ret : Option FieldType} {R : Room} {own : String} {Qc : Array Value → State → Outcome → State → Prop} {pc pc' idx o : Nat} {lv : List (Option Value)} {st : List Value} {I : Nat → Nat → Int32} {B : (Nat → Nat → Int32) × (Nat → Nat)} (hd : dn cc pc (.getfield idx) 3 pc') (hw : Cond.fieldLink own idx "RuledTables$Finding" "groups" "LRuledTables$Groups;" ∈ wtb) (hk : kd o = 0) (kk : AW g cc nL ret R own Qc pc' lv (.ref (ad g (o + 1)) :: st) (I, B)) : AW g cc nL ret R own Qc pc lv (.ref (ad g o) :: st) (I, B) := aw_get (ci := 0) (k := 0) hd inX0 rfl (kd_lt hk (by decide)) (cl_k hk) (by decide) rfl rfl hw kk
theorem gf0_rules {g : GG} {cc : ByteArray} {nL : Nat} {ret : Option FieldType} {R : Room} {own : String} {Qc : Array Value → State → Outcome → State → Prop} {pc pc' idx o : Nat} {lv : List (Option Value)} {st : List Value} {I : Nat → Nat → Int32} {B : (Nat → Nat → Int32) × (Nat → Nat)} (hd : dn cc pc (.getfield idx) 3 pc') (hw : Cond.fieldLink own idx "RuledTables$Finding" "rules" "LRuledTables$Rules;" ∈ wtb) (hk : kd o = 0) (kk : AW g cc nL ret R own Qc pc' lv (.ref (ad g (o + 3)) :: st) (I, B)) : AW g cc nL ret R own Qc pc lv (.ref (ad g o) :: st) (I, B) := aw_get (ci := 0) (k := 1) hd inX0 rfl (kd_lt hk (by decide)) (cl_k hk) (by decide) rfl rfl hw kk
theorem gf0_tables {g : GG} {cc : ByteArray} {nL : Nat} {ret : Option FieldType} {R : Room} {own : String} {Qc : Array Value → State → Outcome → State → Prop} {pc pc' idx o : Nat} {lv : List (Option Value)} {st : List Value} {I : Nat → Nat → Int32} {B : (Nat → Nat → Int32) × (Nat → Nat)} (hd : dn cc pc (.getfield idx) 3 pc') (hw : Cond.fieldLink own idx "RuledTables$Finding" "tables" "[LRuledTables$Table;" ∈ wtb) (hk : kd o = 0) (kk : AW g cc nL ret R own Qc pc' lv (.ref (ad g (o + 30)) :: st) (I, B)) : AW g cc nL ret R own Qc pc lv (.ref (ad g o) :: st) (I, B) := aw_get (ci := 0) (k := 2) hd inX0 rfl (kd_lt hk (by decide)) (cl_k hk) (by decide) rfl rfl hw kk
theorem gf0_tableCount {g : GG} {cc : ByteArray} {nL : Nat} {ret : Option FieldType} {R : Room} {own : String} {Qc : Array Value → State → Outcome → State → Prop} {pc pc' idx o : Nat} {lv : List (Option Value)} {st : List Value} {I : Nat → Nat → Int32} {B : (Nat → Nat → Int32) × (Nat → Nat)} (hd : dn cc pc (.getfield idx) 3 pc') (hw : Cond.fieldLink own idx "RuledTables$Finding" "tableCount" "I" ∈ wtb) (hk : kd o = 0) (kk : AW g cc nL ret R own Qc pc' lv (.int (I 3 o) :: st) (I, B)) : AW g cc nL ret R own Qc pc lv (.ref (ad g o) :: st) (I, B) := aw_get (ci := 0) (k := 3) hd inX0 rfl (kd_lt hk (by decide)) (cl_k hk) (by decide) rfl rfl hw kk
theorem pf0_tableCount {g : GG} {cc : ByteArray} {nL : Nat} {ret : Option FieldType} {R : Room} {own : String} {Qc : Array Value → State → Outcome → State → Prop} {pc pc' idx o : Nat} {lv : List (Option Value)} {st : List Value} {I : Nat → Nat → Int32} {B : (Nat → Nat → Int32) × (Nat → Nat)} {x : Int32} (hd : dn cc pc (.putfield idx) 3 pc') (hw : Cond.fieldLink own idx "RuledTables$Finding" "tableCount" "I" ∈ wtb) (hk : kd o = 0) (kk : AW g cc nL ret R own Qc pc' lv st (uI I 3 o x, B)) : AW g cc nL ret R own Qc pc lv (.int x :: .ref (ad g o) :: st) (I, B) := aw_put (ci := 0) (k := 3) (ty := .int) (f := 3) hd inX0 tyX0_ok nmX0 rfl (kd_lt hk (by decide)) (cl_k hk) (by decide) rfl rfl rfl rfl rfl (Nat.le_of_ble_eq_true rfl) hw (by rw [cl_k hk]; simp only [cl0, uI_s]; rfl) kk
theorem gf0_placing {g : GG} {cc : ByteArray} {nL : Nat} {ret : Option FieldType} {R : Room} {own : String} {Qc : Array Value → State → Outcome → State → Prop} {pc pc' idx o : Nat} {lv : List (Option Value)} {st : List Value} {I : Nat → Nat → Int32} {B : (Nat → Nat → Int32) × (Nat → Nat)} (hd : dn cc pc (.getfield idx) 3 pc') (hw : Cond.fieldLink own idx "RuledTables$Finding" "placing" "LRuledTables$Placing;" ∈ wtb) (hk : kd o = 0) (kk : AW g cc nL ret R own Qc pc' lv (.ref (ad g (o + 151)) :: st) (I, B)) : AW g cc nL ret R own Qc pc lv (.ref (ad g o) :: st) (I, B) := aw_get (ci := 0) (k := 4) hd inX0 rfl (kd_lt hk (by decide)) (cl_k hk) (by decide) rfl rfl hw kk
theorem gf1_leads {g : GG} {cc : ByteArray} {nL : Nat} {ret : Option FieldType} {R : Room} {own : String} {Qc : Array Value → State → Outcome → State → Prop} {pc pc' idx o : Nat} {lv : List (Option Value)} {st : List Value} {I : Nat → Nat → Int32} {B : (Nat → Nat → Int32) × (Nat → Nat)} (hd : dn cc pc (.getfield idx) 3 pc') (hw : Cond.fieldLink own idx "RuledTables$Groups" "leads" "[I" ∈ wtb) (hk : kd o = 1) (kk : AW g cc nL ret R own Qc pc' lv (.ref (ad g (o + 1)) :: st) (I, B)) : AW g cc nL ret R own Qc pc lv (.ref (ad g o) :: st) (I, B) := aw_get (ci := 1) (k := 0) hd inX1 rfl (kd_lt hk (by decide)) (cl_k hk) (by decide) rfl rfl hw kk
theorem gf2_places {g : GG} {cc : ByteArray} {nL : Nat} {ret : Option FieldType} {R : Room} {own : String} {Qc : Array Value → State → Outcome → State → Prop} {pc pc' idx o : Nat} {lv : List (Option Value)} {st : List Value} {I : Nat → Nat → Int32} {B : (Nat → Nat → Int32) × (Nat → Nat)} (hd : dn cc pc (.getfield idx) 3 pc') (hw : Cond.fieldLink own idx "RuledTables$Lines" "places" "[[I" ∈ wtb) (hk : kd o = 2) (kk : AW g cc nL ret R own Qc pc' lv (.ref (ad g (o + 1)) :: st) (I, B)) : AW g cc nL ret R own Qc pc lv (.ref (ad g o) :: st) (I, B) := aw_get (ci := 2) (k := 0) hd inX2 rfl (kd_lt hk (by decide)) (cl_k hk) (by decide) rfl rfl hw kk
theorem gf2_counts {g : GG} {cc : ByteArray} {nL : Nat} {ret : Option FieldType} {R : Room} {own : String} {Qc : Array Value → State → Outcome → State → Prop} {pc pc' idx o : Nat} {lv : List (Option Value)} {st : List Value} {I : Nat → Nat → Int32} {B : (Nat → Nat → Int32) × (Nat → Nat)} (hd : dn cc pc (.getfield idx) 3 pc') (hw : Cond.fieldLink own idx "RuledTables$Lines" "counts" "[I" ∈ wtb) (hk : kd o = 2) (kk : AW g cc nL ret R own Qc pc' lv (.ref (ad g (o + 4)) :: st) (I, B)) : AW g cc nL ret R own Qc pc lv (.ref (ad g o) :: st) (I, B) := aw_get (ci := 2) (k := 1) hd inX2 rfl (kd_lt hk (by decide)) (cl_k hk) (by decide) rfl rfl hw kk
theorem gf3_pieces {g : GG} {cc : ByteArray} {nL : Nat} {ret : Option FieldType} {R : Room} {own : String} {Qc : Array Value → State → Outcome → State → Prop} {pc pc' idx o : Nat} {lv : List (Option Value)} {st : List Value} {I : Nat → Nat → Int32} {B : (Nat → Nat → Int32) × (Nat → Nat)} (hd : dn cc pc (.getfield idx) 3 pc') (hw : Cond.fieldLink own idx "RuledTables$Page" "pieces" "LRuledTables$Rows;" ∈ wtb) (hk : kd o = 3) (kk : AW g cc nL ret R own Qc pc' lv (.ref (ad g (o + 1)) :: st) (I, B)) : AW g cc nL ret R own Qc pc lv (.ref (ad g o) :: st) (I, B) := aw_get (ci := 3) (k := 0) hd inX3 rfl (kd_lt hk (by decide)) (cl_k hk) (by decide) rfl rfl hw kk
theorem gf3_words {g : GG} {cc : ByteArray} {nL : Nat} {ret : Option FieldType} {R : Room} {own : String} {Qc : Array Value → State → Outcome → State → Prop} {pc pc' idx o : Nat} {lv : List (Option Value)} {st : List Value} {I : Nat → Nat → Int32} {B : (Nat → Nat → Int32) × (Nat → Nat)} (hd : dn cc pc (.getfield idx) 3 pc') (hw : Cond.fieldLink own idx "RuledTables$Page" "words" "LRuledTables$Rows;" ∈ wtb) (hk : kd o = 3) (kk : AW g cc nL ret R own Qc pc' lv (.ref (ad g (o + 3)) :: st) (I, B)) : AW g cc nL ret R own Qc pc lv (.ref (ad g o) :: st) (I, B) := aw_get (ci := 3) (k := 1) hd inX3 rfl (kd_lt hk (by decide)) (cl_k hk) (by decide) rfl rfl hw kk
theorem gf3_settings {g : GG} {cc : ByteArray} {nL : Nat} {ret : Option FieldType} {R : Room} {own : String} {Qc : Array Value → State → Outcome → State → Prop} {pc pc' idx o : Nat} {lv : List (Option Value)} {st : List Value} {I : Nat → Nat → Int32} {B : (Nat → Nat → Int32) × (Nat → Nat)} (hd : dn cc pc (.getfield idx) 3 pc') (hw : Cond.fieldLink own idx "RuledTables$Page" "settings" "[I" ∈ wtb) (hk : kd o = 3) (kk : AW g cc nL ret R own Qc pc' lv (.ref (ad g (o + 5)) :: st) (I, B)) : AW g cc nL ret R own Qc pc lv (.ref (ad g o) :: st) (I, B) := aw_get (ci := 3) (k := 2) hd inX3 rfl (kd_lt hk (by decide)) (cl_k hk) (by decide) rfl rfl hw kk
theorem gf4_tables {g : GG} {cc : ByteArray} {nL : Nat} {ret : Option FieldType} {R : Room} {own : String} {Qc : Array Value → State → Outcome → State → Prop} {pc pc' idx o : Nat} {lv : List (Option Value)} {st : List Value} {I : Nat → Nat → Int32} {B : (Nat → Nat → Int32) × (Nat → Nat)} (hd : dn cc pc (.getfield idx) 3 pc') (hw : Cond.fieldLink own idx "RuledTables$Placing" "tables" "[I" ∈ wtb) (hk : kd o = 4) (kk : AW g cc nL ret R own Qc pc' lv (.ref (ad g (o + 1)) :: st) (I, B)) : AW g cc nL ret R own Qc pc lv (.ref (ad g o) :: st) (I, B) := aw_get (ci := 4) (k := 0) hd inX4 rfl (kd_lt hk (by decide)) (cl_k hk) (by decide) rfl rfl hw kk
theorem gf4_cells {g : GG} {cc : ByteArray} {nL : Nat} {ret : Option FieldType} {R : Room} {own : String} {Qc : Array Value → State → Outcome → State → Prop} {pc pc' idx o : Nat} {lv : List (Option Value)} {st : List Value} {I : Nat → Nat → Int32} {B : (Nat → Nat → Int32) × (Nat → Nat)} (hd : dn cc pc (.getfield idx) 3 pc') (hw : Cond.fieldLink own idx "RuledTables$Placing" "cells" "[I" ∈ wtb) (hk : kd o = 4) (kk : AW g cc nL ret R own Qc pc' lv (.ref (ad g (o + 2)) :: st) (I, B)) : AW g cc nL ret R own Qc pc lv (.ref (ad g o) :: st) (I, B) := aw_get (ci := 4) (k := 1) hd inX4 rfl (kd_lt hk (by decide)) (cl_k hk) (by decide) rfl rfl hw kk
theorem gf4_order {g : GG} {cc : ByteArray} {nL : Nat} {ret : Option FieldType} {R : Room} {own : String} {Qc : Array Value → State → Outcome → State → Prop} {pc pc' idx o : Nat} {lv : List (Option Value)} {st : List Value} {I : Nat → Nat → Int32} {B : (Nat → Nat → Int32) × (Nat → Nat)} (hd : dn cc pc (.getfield idx) 3 pc') (hw : Cond.fieldLink own idx "RuledTables$Placing" "order" "[I" ∈ wtb) (hk : kd o = 4) (kk : AW g cc nL ret R own Qc pc' lv (.ref (ad g (o + 3)) :: st) (I, B)) : AW g cc nL ret R own Qc pc lv (.ref (ad g o) :: st) (I, B) := aw_get (ci := 4) (k := 2) hd inX4 rfl (kd_lt hk (by decide)) (cl_k hk) (by decide) rfl rfl hw kk
theorem gf4_count {g : GG} {cc : ByteArray} {nL : Nat} {ret : Option FieldType} {R : Room} {own : String} {Qc : Array Value → State → Outcome → State → Prop} {pc pc' idx o : Nat} {lv : List (Option Value)} {st : List Value} {I : Nat → Nat → Int32} {B : (Nat → Nat → Int32) × (Nat → Nat)} (hd : dn cc pc (.getfield idx) 3 pc') (hw : Cond.fieldLink own idx "RuledTables$Placing" "count" "I" ∈ wtb) (hk : kd o = 4) (kk : AW g cc nL ret R own Qc pc' lv (.int (I 131 o) :: st) (I, B)) : AW g cc nL ret R own Qc pc lv (.ref (ad g o) :: st) (I, B) := aw_get (ci := 4) (k := 3) hd inX4 rfl (kd_lt hk (by decide)) (cl_k hk) (by decide) rfl rfl hw kk
theorem pf4_count {g : GG} {cc : ByteArray} {nL : Nat} {ret : Option FieldType} {R : Room} {own : String} {Qc : Array Value → State → Outcome → State → Prop} {pc pc' idx o : Nat} {lv : List (Option Value)} {st : List Value} {I : Nat → Nat → Int32} {B : (Nat → Nat → Int32) × (Nat → Nat)} {x : Int32} (hd : dn cc pc (.putfield idx) 3 pc') (hw : Cond.fieldLink own idx "RuledTables$Placing" "count" "I" ∈ wtb) (hk : kd o = 4) (kk : AW g cc nL ret R own Qc pc' lv st (uI I 131 o x, B)) : AW g cc nL ret R own Qc pc lv (.int x :: .ref (ad g o) :: st) (I, B) := aw_put (ci := 4) (k := 3) (ty := .int) (f := 131) hd inX4 tyX4_ok nmX4 rfl (kd_lt hk (by decide)) (cl_k hk) (by decide) rfl rfl rfl rfl rfl (Nat.le_of_ble_eq_true rfl) hw (by rw [cl_k hk]; simp only [cl0, uI_s, uI_f (show 132 ≠ 131 by decide)]; rfl) kk
theorem gf4_loose {g : GG} {cc : ByteArray} {nL : Nat} {ret : Option FieldType} {R : Room} {own : String} {Qc : Array Value → State → Outcome → State → Prop} {pc pc' idx o : Nat} {lv : List (Option Value)} {st : List Value} {I : Nat → Nat → Int32} {B : (Nat → Nat → Int32) × (Nat → Nat)} (hd : dn cc pc (.getfield idx) 3 pc') (hw : Cond.fieldLink own idx "RuledTables$Placing" "loose" "I" ∈ wtb) (hk : kd o = 4) (kk : AW g cc nL ret R own Qc pc' lv (.int (I 132 o) :: st) (I, B)) : AW g cc nL ret R own Qc pc lv (.ref (ad g o) :: st) (I, B) := aw_get (ci := 4) (k := 4) hd inX4 rfl (kd_lt hk (by decide)) (cl_k hk) (by decide) rfl rfl hw kk
theorem pf4_loose {g : GG} {cc : ByteArray} {nL : Nat} {ret : Option FieldType} {R : Room} {own : String} {Qc : Array Value → State → Outcome → State → Prop} {pc pc' idx o : Nat} {lv : List (Option Value)} {st : List Value} {I : Nat → Nat → Int32} {B : (Nat → Nat → Int32) × (Nat → Nat)} {x : Int32} (hd : dn cc pc (.putfield idx) 3 pc') (hw : Cond.fieldLink own idx "RuledTables$Placing" "loose" "I" ∈ wtb) (hk : kd o = 4) (kk : AW g cc nL ret R own Qc pc' lv st (uI I 132 o x, B)) : AW g cc nL ret R own Qc pc lv (.int x :: .ref (ad g o) :: st) (I, B) := aw_put (ci := 4) (k := 4) (ty := .int) (f := 132) hd inX4 tyX4_ok nmX4 rfl (kd_lt hk (by decide)) (cl_k hk) (by decide) rfl rfl rfl rfl rfl (Nat.le_of_ble_eq_true rfl) hw (by rw [cl_k hk]; simp only [cl0, uI_s, uI_f (show 131 ≠ 132 by decide)]; rfl) kk
theorem gf5_numbers {g : GG} {cc : ByteArray} {nL : Nat} {ret : Option FieldType} {R : Room} {own : String} {Qc : Array Value → State → Outcome → State → Prop} {pc pc' idx o : Nat} {lv : List (Option Value)} {st : List Value} {I : Nat → Nat → Int32} {B : (Nat → Nat → Int32) × (Nat → Nat)} (hd : dn cc pc (.getfield idx) 3 pc') (hw : Cond.fieldLink own idx "RuledTables$Rows" "numbers" "[I" ∈ wtb) (hk : kd o = 5) (kk : AW g cc nL ret R own Qc pc' lv (.ref (ad g (o + 1)) :: st) (I, B)) : AW g cc nL ret R own Qc pc lv (.ref (ad g o) :: st) (I, B) := aw_get (ci := 5) (k := 0) hd inX5 rfl (kd_lt hk (by decide)) (cl_k hk) (by decide) rfl rfl hw kk
theorem gf5_most {g : GG} {cc : ByteArray} {nL : Nat} {ret : Option FieldType} {R : Room} {own : String} {Qc : Array Value → State → Outcome → State → Prop} {pc pc' idx o : Nat} {lv : List (Option Value)} {st : List Value} {I : Nat → Nat → Int32} {B : (Nat → Nat → Int32) × (Nat → Nat)} (hd : dn cc pc (.getfield idx) 3 pc') (hw : Cond.fieldLink own idx "RuledTables$Rows" "most" "I" ∈ wtb) (hk : kd o = 5) (kk : AW g cc nL ret R own Qc pc' lv (.int (I 161 o) :: st) (I, B)) : AW g cc nL ret R own Qc pc lv (.ref (ad g o) :: st) (I, B) := aw_get (ci := 5) (k := 1) hd inX5 rfl (kd_lt hk (by decide)) (cl_k hk) (by decide) rfl rfl hw kk
theorem gf5_count {g : GG} {cc : ByteArray} {nL : Nat} {ret : Option FieldType} {R : Room} {own : String} {Qc : Array Value → State → Outcome → State → Prop} {pc pc' idx o : Nat} {lv : List (Option Value)} {st : List Value} {I : Nat → Nat → Int32} {B : (Nat → Nat → Int32) × (Nat → Nat)} (hd : dn cc pc (.getfield idx) 3 pc') (hw : Cond.fieldLink own idx "RuledTables$Rows" "count" "I" ∈ wtb) (hk : kd o = 5) (kk : AW g cc nL ret R own Qc pc' lv (.int (I 162 o) :: st) (I, B)) : AW g cc nL ret R own Qc pc lv (.ref (ad g o) :: st) (I, B) := aw_get (ci := 5) (k := 2) hd inX5 rfl (kd_lt hk (by decide)) (cl_k hk) (by decide) rfl rfl hw kk
theorem pf5_count {g : GG} {cc : ByteArray} {nL : Nat} {ret : Option FieldType} {R : Room} {own : String} {Qc : Array Value → State → Outcome → State → Prop} {pc pc' idx o : Nat} {lv : List (Option Value)} {st : List Value} {I : Nat → Nat → Int32} {B : (Nat → Nat → Int32) × (Nat → Nat)} {x : Int32} (hd : dn cc pc (.putfield idx) 3 pc') (hw : Cond.fieldLink own idx "RuledTables$Rows" "count" "I" ∈ wtb) (hk : kd o = 5) (kk : AW g cc nL ret R own Qc pc' lv st (uI I 162 o x, B)) : AW g cc nL ret R own Qc pc lv (.int x :: .ref (ad g o) :: st) (I, B) := aw_put (ci := 5) (k := 2) (ty := .int) (f := 162) hd inX5 tyX5_ok nmX5 rfl (kd_lt hk (by decide)) (cl_k hk) (by decide) rfl rfl rfl rfl rfl (Nat.le_of_ble_eq_true rfl) hw (by rw [cl_k hk]; simp only [cl0, uI_s, uI_f (show 161 ≠ 162 by decide)]; rfl) kk
theorem gf6_way {g : GG} {cc : ByteArray} {nL : Nat} {ret : Option FieldType} {R : Room} {own : String} {Qc : Array Value → State → Outcome → State → Prop} {pc pc' idx o : Nat} {lv : List (Option Value)} {st : List Value} {I : Nat → Nat → Int32} {B : (Nat → Nat → Int32) × (Nat → Nat)} (hd : dn cc pc (.getfield idx) 3 pc') (hw : Cond.fieldLink own idx "RuledTables$Rule" "way" "I" ∈ wtb) (hk : kd o = 6) (kk : AW g cc nL ret R own Qc pc' lv (.int (I 192 o) :: st) (I, B)) : AW g cc nL ret R own Qc pc lv (.ref (ad g o) :: st) (I, B) := aw_get (ci := 6) (k := 0) hd inX6 rfl (kd_lt hk (by decide)) (cl_k hk) (by decide) rfl rfl hw kk
theorem pf6_way {g : GG} {cc : ByteArray} {nL : Nat} {ret : Option FieldType} {R : Room} {own : String} {Qc : Array Value → State → Outcome → State → Prop} {pc pc' idx o : Nat} {lv : List (Option Value)} {st : List Value} {I : Nat → Nat → Int32} {B : (Nat → Nat → Int32) × (Nat → Nat)} {x : Int32} (hd : dn cc pc (.putfield idx) 3 pc') (hw : Cond.fieldLink own idx "RuledTables$Rule" "way" "I" ∈ wtb) (hk : kd o = 6) (kk : AW g cc nL ret R own Qc pc' lv st (uI I 192 o x, B)) : AW g cc nL ret R own Qc pc lv (.int x :: .ref (ad g o) :: st) (I, B) := aw_put (ci := 6) (k := 0) (ty := .int) (f := 192) hd inX6 tyX6_ok nmX6 rfl (kd_lt hk (by decide)) (cl_k hk) (by decide) rfl rfl rfl rfl rfl (Nat.le_of_ble_eq_true rfl) hw (by rw [cl_k hk]; simp only [cl0, uI_s, uI_f (show 193 ≠ 192 by decide), uI_f (show 194 ≠ 192 by decide), uI_f (show 195 ≠ 192 by decide), uI_f (show 196 ≠ 192 by decide), uI_f (show 197 ≠ 192 by decide), uI_f (show 198 ≠ 192 by decide), uI_f (show 199 ≠ 192 by decide), uI_f (show 200 ≠ 192 by decide)]; rfl) kk
theorem gf6_at {g : GG} {cc : ByteArray} {nL : Nat} {ret : Option FieldType} {R : Room} {own : String} {Qc : Array Value → State → Outcome → State → Prop} {pc pc' idx o : Nat} {lv : List (Option Value)} {st : List Value} {I : Nat → Nat → Int32} {B : (Nat → Nat → Int32) × (Nat → Nat)} (hd : dn cc pc (.getfield idx) 3 pc') (hw : Cond.fieldLink own idx "RuledTables$Rule" "at" "I" ∈ wtb) (hk : kd o = 6) (kk : AW g cc nL ret R own Qc pc' lv (.int (I 193 o) :: st) (I, B)) : AW g cc nL ret R own Qc pc lv (.ref (ad g o) :: st) (I, B) := aw_get (ci := 6) (k := 1) hd inX6 rfl (kd_lt hk (by decide)) (cl_k hk) (by decide) rfl rfl hw kk
theorem pf6_at {g : GG} {cc : ByteArray} {nL : Nat} {ret : Option FieldType} {R : Room} {own : String} {Qc : Array Value → State → Outcome → State → Prop} {pc pc' idx o : Nat} {lv : List (Option Value)} {st : List Value} {I : Nat → Nat → Int32} {B : (Nat → Nat → Int32) × (Nat → Nat)} {x : Int32} (hd : dn cc pc (.putfield idx) 3 pc') (hw : Cond.fieldLink own idx "RuledTables$Rule" "at" "I" ∈ wtb) (hk : kd o = 6) (kk : AW g cc nL ret R own Qc pc' lv st (uI I 193 o x, B)) : AW g cc nL ret R own Qc pc lv (.int x :: .ref (ad g o) :: st) (I, B) := aw_put (ci := 6) (k := 1) (ty := .int) (f := 193) hd inX6 tyX6_ok nmX6 rfl (kd_lt hk (by decide)) (cl_k hk) (by decide) rfl rfl rfl rfl rfl (Nat.le_of_ble_eq_true rfl) hw (by rw [cl_k hk]; simp only [cl0, uI_s, uI_f (show 192 ≠ 193 by decide), uI_f (show 194 ≠ 193 by decide), uI_f (show 195 ≠ 193 by decide), uI_f (show 196 ≠ 193 by decide), uI_f (show 197 ≠ 193 by decide), uI_f (show 198 ≠ 193 by decide), uI_f (show 199 ≠ 193 by decide), uI_f (show 200 ≠ 193 by decide)]; rfl) kk
theorem gf6_from {g : GG} {cc : ByteArray} {nL : Nat} {ret : Option FieldType} {R : Room} {own : String} {Qc : Array Value → State → Outcome → State → Prop} {pc pc' idx o : Nat} {lv : List (Option Value)} {st : List Value} {I : Nat → Nat → Int32} {B : (Nat → Nat → Int32) × (Nat → Nat)} (hd : dn cc pc (.getfield idx) 3 pc') (hw : Cond.fieldLink own idx "RuledTables$Rule" "from" "I" ∈ wtb) (hk : kd o = 6) (kk : AW g cc nL ret R own Qc pc' lv (.int (I 194 o) :: st) (I, B)) : AW g cc nL ret R own Qc pc lv (.ref (ad g o) :: st) (I, B) := aw_get (ci := 6) (k := 2) hd inX6 rfl (kd_lt hk (by decide)) (cl_k hk) (by decide) rfl rfl hw kk
theorem pf6_from {g : GG} {cc : ByteArray} {nL : Nat} {ret : Option FieldType} {R : Room} {own : String} {Qc : Array Value → State → Outcome → State → Prop} {pc pc' idx o : Nat} {lv : List (Option Value)} {st : List Value} {I : Nat → Nat → Int32} {B : (Nat → Nat → Int32) × (Nat → Nat)} {x : Int32} (hd : dn cc pc (.putfield idx) 3 pc') (hw : Cond.fieldLink own idx "RuledTables$Rule" "from" "I" ∈ wtb) (hk : kd o = 6) (kk : AW g cc nL ret R own Qc pc' lv st (uI I 194 o x, B)) : AW g cc nL ret R own Qc pc lv (.int x :: .ref (ad g o) :: st) (I, B) := aw_put (ci := 6) (k := 2) (ty := .int) (f := 194) hd inX6 tyX6_ok nmX6 rfl (kd_lt hk (by decide)) (cl_k hk) (by decide) rfl rfl rfl rfl rfl (Nat.le_of_ble_eq_true rfl) hw (by rw [cl_k hk]; simp only [cl0, uI_s, uI_f (show 192 ≠ 194 by decide), uI_f (show 193 ≠ 194 by decide), uI_f (show 195 ≠ 194 by decide), uI_f (show 196 ≠ 194 by decide), uI_f (show 197 ≠ 194 by decide), uI_f (show 198 ≠ 194 by decide), uI_f (show 199 ≠ 194 by decide), uI_f (show 200 ≠ 194 by decide)]; rfl) kk
theorem gf6_to {g : GG} {cc : ByteArray} {nL : Nat} {ret : Option FieldType} {R : Room} {own : String} {Qc : Array Value → State → Outcome → State → Prop} {pc pc' idx o : Nat} {lv : List (Option Value)} {st : List Value} {I : Nat → Nat → Int32} {B : (Nat → Nat → Int32) × (Nat → Nat)} (hd : dn cc pc (.getfield idx) 3 pc') (hw : Cond.fieldLink own idx "RuledTables$Rule" "to" "I" ∈ wtb) (hk : kd o = 6) (kk : AW g cc nL ret R own Qc pc' lv (.int (I 195 o) :: st) (I, B)) : AW g cc nL ret R own Qc pc lv (.ref (ad g o) :: st) (I, B) := aw_get (ci := 6) (k := 3) hd inX6 rfl (kd_lt hk (by decide)) (cl_k hk) (by decide) rfl rfl hw kk
theorem pf6_to {g : GG} {cc : ByteArray} {nL : Nat} {ret : Option FieldType} {R : Room} {own : String} {Qc : Array Value → State → Outcome → State → Prop} {pc pc' idx o : Nat} {lv : List (Option Value)} {st : List Value} {I : Nat → Nat → Int32} {B : (Nat → Nat → Int32) × (Nat → Nat)} {x : Int32} (hd : dn cc pc (.putfield idx) 3 pc') (hw : Cond.fieldLink own idx "RuledTables$Rule" "to" "I" ∈ wtb) (hk : kd o = 6) (kk : AW g cc nL ret R own Qc pc' lv st (uI I 195 o x, B)) : AW g cc nL ret R own Qc pc lv (.int x :: .ref (ad g o) :: st) (I, B) := aw_put (ci := 6) (k := 3) (ty := .int) (f := 195) hd inX6 tyX6_ok nmX6 rfl (kd_lt hk (by decide)) (cl_k hk) (by decide) rfl rfl rfl rfl rfl (Nat.le_of_ble_eq_true rfl) hw (by rw [cl_k hk]; simp only [cl0, uI_s, uI_f (show 192 ≠ 195 by decide), uI_f (show 193 ≠ 195 by decide), uI_f (show 194 ≠ 195 by decide), uI_f (show 196 ≠ 195 by decide), uI_f (show 197 ≠ 195 by decide), uI_f (show 198 ≠ 195 by decide), uI_f (show 199 ≠ 195 by decide), uI_f (show 200 ≠ 195 by decide)]; rfl) kk
theorem gf6_longest {g : GG} {cc : ByteArray} {nL : Nat} {ret : Option FieldType} {R : Room} {own : String} {Qc : Array Value → State → Outcome → State → Prop} {pc pc' idx o : Nat} {lv : List (Option Value)} {st : List Value} {I : Nat → Nat → Int32} {B : (Nat → Nat → Int32) × (Nat → Nat)} (hd : dn cc pc (.getfield idx) 3 pc') (hw : Cond.fieldLink own idx "RuledTables$Rule" "longest" "I" ∈ wtb) (hk : kd o = 6) (kk : AW g cc nL ret R own Qc pc' lv (.int (I 196 o) :: st) (I, B)) : AW g cc nL ret R own Qc pc lv (.ref (ad g o) :: st) (I, B) := aw_get (ci := 6) (k := 4) hd inX6 rfl (kd_lt hk (by decide)) (cl_k hk) (by decide) rfl rfl hw kk
theorem pf6_longest {g : GG} {cc : ByteArray} {nL : Nat} {ret : Option FieldType} {R : Room} {own : String} {Qc : Array Value → State → Outcome → State → Prop} {pc pc' idx o : Nat} {lv : List (Option Value)} {st : List Value} {I : Nat → Nat → Int32} {B : (Nat → Nat → Int32) × (Nat → Nat)} {x : Int32} (hd : dn cc pc (.putfield idx) 3 pc') (hw : Cond.fieldLink own idx "RuledTables$Rule" "longest" "I" ∈ wtb) (hk : kd o = 6) (kk : AW g cc nL ret R own Qc pc' lv st (uI I 196 o x, B)) : AW g cc nL ret R own Qc pc lv (.int x :: .ref (ad g o) :: st) (I, B) := aw_put (ci := 6) (k := 4) (ty := .int) (f := 196) hd inX6 tyX6_ok nmX6 rfl (kd_lt hk (by decide)) (cl_k hk) (by decide) rfl rfl rfl rfl rfl (Nat.le_of_ble_eq_true rfl) hw (by rw [cl_k hk]; simp only [cl0, uI_s, uI_f (show 192 ≠ 196 by decide), uI_f (show 193 ≠ 196 by decide), uI_f (show 194 ≠ 196 by decide), uI_f (show 195 ≠ 196 by decide), uI_f (show 197 ≠ 196 by decide), uI_f (show 198 ≠ 196 by decide), uI_f (show 199 ≠ 196 by decide), uI_f (show 200 ≠ 196 by decide)]; rfl) kk
theorem gf6_pieces {g : GG} {cc : ByteArray} {nL : Nat} {ret : Option FieldType} {R : Room} {own : String} {Qc : Array Value → State → Outcome → State → Prop} {pc pc' idx o : Nat} {lv : List (Option Value)} {st : List Value} {I : Nat → Nat → Int32} {B : (Nat → Nat → Int32) × (Nat → Nat)} (hd : dn cc pc (.getfield idx) 3 pc') (hw : Cond.fieldLink own idx "RuledTables$Rule" "pieces" "I" ∈ wtb) (hk : kd o = 6) (kk : AW g cc nL ret R own Qc pc' lv (.int (I 197 o) :: st) (I, B)) : AW g cc nL ret R own Qc pc lv (.ref (ad g o) :: st) (I, B) := aw_get (ci := 6) (k := 5) hd inX6 rfl (kd_lt hk (by decide)) (cl_k hk) (by decide) rfl rfl hw kk
theorem pf6_pieces {g : GG} {cc : ByteArray} {nL : Nat} {ret : Option FieldType} {R : Room} {own : String} {Qc : Array Value → State → Outcome → State → Prop} {pc pc' idx o : Nat} {lv : List (Option Value)} {st : List Value} {I : Nat → Nat → Int32} {B : (Nat → Nat → Int32) × (Nat → Nat)} {x : Int32} (hd : dn cc pc (.putfield idx) 3 pc') (hw : Cond.fieldLink own idx "RuledTables$Rule" "pieces" "I" ∈ wtb) (hk : kd o = 6) (kk : AW g cc nL ret R own Qc pc' lv st (uI I 197 o x, B)) : AW g cc nL ret R own Qc pc lv (.int x :: .ref (ad g o) :: st) (I, B) := aw_put (ci := 6) (k := 5) (ty := .int) (f := 197) hd inX6 tyX6_ok nmX6 rfl (kd_lt hk (by decide)) (cl_k hk) (by decide) rfl rfl rfl rfl rfl (Nat.le_of_ble_eq_true rfl) hw (by rw [cl_k hk]; simp only [cl0, uI_s, uI_f (show 192 ≠ 197 by decide), uI_f (show 193 ≠ 197 by decide), uI_f (show 194 ≠ 197 by decide), uI_f (show 195 ≠ 197 by decide), uI_f (show 196 ≠ 197 by decide), uI_f (show 198 ≠ 197 by decide), uI_f (show 199 ≠ 197 by decide), uI_f (show 200 ≠ 197 by decide)]; rfl) kk
theorem gf6_first {g : GG} {cc : ByteArray} {nL : Nat} {ret : Option FieldType} {R : Room} {own : String} {Qc : Array Value → State → Outcome → State → Prop} {pc pc' idx o : Nat} {lv : List (Option Value)} {st : List Value} {I : Nat → Nat → Int32} {B : (Nat → Nat → Int32) × (Nat → Nat)} (hd : dn cc pc (.getfield idx) 3 pc') (hw : Cond.fieldLink own idx "RuledTables$Rule" "first" "I" ∈ wtb) (hk : kd o = 6) (kk : AW g cc nL ret R own Qc pc' lv (.int (I 198 o) :: st) (I, B)) : AW g cc nL ret R own Qc pc lv (.ref (ad g o) :: st) (I, B) := aw_get (ci := 6) (k := 6) hd inX6 rfl (kd_lt hk (by decide)) (cl_k hk) (by decide) rfl rfl hw kk
theorem pf6_first {g : GG} {cc : ByteArray} {nL : Nat} {ret : Option FieldType} {R : Room} {own : String} {Qc : Array Value → State → Outcome → State → Prop} {pc pc' idx o : Nat} {lv : List (Option Value)} {st : List Value} {I : Nat → Nat → Int32} {B : (Nat → Nat → Int32) × (Nat → Nat)} {x : Int32} (hd : dn cc pc (.putfield idx) 3 pc') (hw : Cond.fieldLink own idx "RuledTables$Rule" "first" "I" ∈ wtb) (hk : kd o = 6) (kk : AW g cc nL ret R own Qc pc' lv st (uI I 198 o x, B)) : AW g cc nL ret R own Qc pc lv (.int x :: .ref (ad g o) :: st) (I, B) := aw_put (ci := 6) (k := 6) (ty := .int) (f := 198) hd inX6 tyX6_ok nmX6 rfl (kd_lt hk (by decide)) (cl_k hk) (by decide) rfl rfl rfl rfl rfl (Nat.le_of_ble_eq_true rfl) hw (by rw [cl_k hk]; simp only [cl0, uI_s, uI_f (show 192 ≠ 198 by decide), uI_f (show 193 ≠ 198 by decide), uI_f (show 194 ≠ 198 by decide), uI_f (show 195 ≠ 198 by decide), uI_f (show 196 ≠ 198 by decide), uI_f (show 197 ≠ 198 by decide), uI_f (show 199 ≠ 198 by decide), uI_f (show 200 ≠ 198 by decide)]; rfl) kk
theorem gf6_crossings {g : GG} {cc : ByteArray} {nL : Nat} {ret : Option FieldType} {R : Room} {own : String} {Qc : Array Value → State → Outcome → State → Prop} {pc pc' idx o : Nat} {lv : List (Option Value)} {st : List Value} {I : Nat → Nat → Int32} {B : (Nat → Nat → Int32) × (Nat → Nat)} (hd : dn cc pc (.getfield idx) 3 pc') (hw : Cond.fieldLink own idx "RuledTables$Rule" "crossings" "I" ∈ wtb) (hk : kd o = 6) (kk : AW g cc nL ret R own Qc pc' lv (.int (I 199 o) :: st) (I, B)) : AW g cc nL ret R own Qc pc lv (.ref (ad g o) :: st) (I, B) := aw_get (ci := 6) (k := 7) hd inX6 rfl (kd_lt hk (by decide)) (cl_k hk) (by decide) rfl rfl hw kk
theorem pf6_crossings {g : GG} {cc : ByteArray} {nL : Nat} {ret : Option FieldType} {R : Room} {own : String} {Qc : Array Value → State → Outcome → State → Prop} {pc pc' idx o : Nat} {lv : List (Option Value)} {st : List Value} {I : Nat → Nat → Int32} {B : (Nat → Nat → Int32) × (Nat → Nat)} {x : Int32} (hd : dn cc pc (.putfield idx) 3 pc') (hw : Cond.fieldLink own idx "RuledTables$Rule" "crossings" "I" ∈ wtb) (hk : kd o = 6) (kk : AW g cc nL ret R own Qc pc' lv st (uI I 199 o x, B)) : AW g cc nL ret R own Qc pc lv (.int x :: .ref (ad g o) :: st) (I, B) := aw_put (ci := 6) (k := 7) (ty := .int) (f := 199) hd inX6 tyX6_ok nmX6 rfl (kd_lt hk (by decide)) (cl_k hk) (by decide) rfl rfl rfl rfl rfl (Nat.le_of_ble_eq_true rfl) hw (by rw [cl_k hk]; simp only [cl0, uI_s, uI_f (show 192 ≠ 199 by decide), uI_f (show 193 ≠ 199 by decide), uI_f (show 194 ≠ 199 by decide), uI_f (show 195 ≠ 199 by decide), uI_f (show 196 ≠ 199 by decide), uI_f (show 197 ≠ 199 by decide), uI_f (show 198 ≠ 199 by decide), uI_f (show 200 ≠ 199 by decide)]; rfl) kk
theorem gf6_table {g : GG} {cc : ByteArray} {nL : Nat} {ret : Option FieldType} {R : Room} {own : String} {Qc : Array Value → State → Outcome → State → Prop} {pc pc' idx o : Nat} {lv : List (Option Value)} {st : List Value} {I : Nat → Nat → Int32} {B : (Nat → Nat → Int32) × (Nat → Nat)} (hd : dn cc pc (.getfield idx) 3 pc') (hw : Cond.fieldLink own idx "RuledTables$Rule" "table" "I" ∈ wtb) (hk : kd o = 6) (kk : AW g cc nL ret R own Qc pc' lv (.int (I 200 o) :: st) (I, B)) : AW g cc nL ret R own Qc pc lv (.ref (ad g o) :: st) (I, B) := aw_get (ci := 6) (k := 8) hd inX6 rfl (kd_lt hk (by decide)) (cl_k hk) (by decide) rfl rfl hw kk
theorem pf6_table {g : GG} {cc : ByteArray} {nL : Nat} {ret : Option FieldType} {R : Room} {own : String} {Qc : Array Value → State → Outcome → State → Prop} {pc pc' idx o : Nat} {lv : List (Option Value)} {st : List Value} {I : Nat → Nat → Int32} {B : (Nat → Nat → Int32) × (Nat → Nat)} {x : Int32} (hd : dn cc pc (.putfield idx) 3 pc') (hw : Cond.fieldLink own idx "RuledTables$Rule" "table" "I" ∈ wtb) (hk : kd o = 6) (kk : AW g cc nL ret R own Qc pc' lv st (uI I 200 o x, B)) : AW g cc nL ret R own Qc pc lv (.int x :: .ref (ad g o) :: st) (I, B) := aw_put (ci := 6) (k := 8) (ty := .int) (f := 200) hd inX6 tyX6_ok nmX6 rfl (kd_lt hk (by decide)) (cl_k hk) (by decide) rfl rfl rfl rfl rfl (Nat.le_of_ble_eq_true rfl) hw (by rw [cl_k hk]; simp only [cl0, uI_s, uI_f (show 192 ≠ 200 by decide), uI_f (show 193 ≠ 200 by decide), uI_f (show 194 ≠ 200 by decide), uI_f (show 195 ≠ 200 by decide), uI_f (show 196 ≠ 200 by decide), uI_f (show 197 ≠ 200 by decide), uI_f (show 198 ≠ 200 by decide), uI_f (show 199 ≠ 200 by decide)]; rfl) kk
theorem gf7_all {g : GG} {cc : ByteArray} {nL : Nat} {ret : Option FieldType} {R : Room} {own : String} {Qc : Array Value → State → Outcome → State → Prop} {pc pc' idx o : Nat} {lv : List (Option Value)} {st : List Value} {I : Nat → Nat → Int32} {B : (Nat → Nat → Int32) × (Nat → Nat)} (hd : dn cc pc (.getfield idx) 3 pc') (hw : Cond.fieldLink own idx "RuledTables$Rules" "all" "[LRuledTables$Rule;" ∈ wtb) (hk : kd o = 7) (kk : AW g cc nL ret R own Qc pc' lv (.ref (ad g (o + 1)) :: st) (I, B)) : AW g cc nL ret R own Qc pc lv (.ref (ad g o) :: st) (I, B) := aw_get (ci := 7) (k := 0) hd inX7 rfl (kd_lt hk (by decide)) (cl_k hk) (by decide) rfl rfl hw kk
theorem gf7_ofPiece {g : GG} {cc : ByteArray} {nL : Nat} {ret : Option FieldType} {R : Room} {own : String} {Qc : Array Value → State → Outcome → State → Prop} {pc pc' idx o : Nat} {lv : List (Option Value)} {st : List Value} {I : Nat → Nat → Int32} {B : (Nat → Nat → Int32) × (Nat → Nat)} (hd : dn cc pc (.getfield idx) 3 pc') (hw : Cond.fieldLink own idx "RuledTables$Rules" "ofPiece" "[I" ∈ wtb) (hk : kd o = 7) (kk : AW g cc nL ret R own Qc pc' lv (.ref (ad g (o + 26)) :: st) (I, B)) : AW g cc nL ret R own Qc pc lv (.ref (ad g o) :: st) (I, B) := aw_get (ci := 7) (k := 1) hd inX7 rfl (kd_lt hk (by decide)) (cl_k hk) (by decide) rfl rfl hw kk
theorem gf7_count {g : GG} {cc : ByteArray} {nL : Nat} {ret : Option FieldType} {R : Room} {own : String} {Qc : Array Value → State → Outcome → State → Prop} {pc pc' idx o : Nat} {lv : List (Option Value)} {st : List Value} {I : Nat → Nat → Int32} {B : (Nat → Nat → Int32) × (Nat → Nat)} (hd : dn cc pc (.getfield idx) 3 pc') (hw : Cond.fieldLink own idx "RuledTables$Rules" "count" "I" ∈ wtb) (hk : kd o = 7) (kk : AW g cc nL ret R own Qc pc' lv (.int (I 226 o) :: st) (I, B)) : AW g cc nL ret R own Qc pc lv (.ref (ad g o) :: st) (I, B) := aw_get (ci := 7) (k := 2) hd inX7 rfl (kd_lt hk (by decide)) (cl_k hk) (by decide) rfl rfl hw kk
theorem pf7_count {g : GG} {cc : ByteArray} {nL : Nat} {ret : Option FieldType} {R : Room} {own : String} {Qc : Array Value → State → Outcome → State → Prop} {pc pc' idx o : Nat} {lv : List (Option Value)} {st : List Value} {I : Nat → Nat → Int32} {B : (Nat → Nat → Int32) × (Nat → Nat)} {x : Int32} (hd : dn cc pc (.putfield idx) 3 pc') (hw : Cond.fieldLink own idx "RuledTables$Rules" "count" "I" ∈ wtb) (hk : kd o = 7) (kk : AW g cc nL ret R own Qc pc' lv st (uI I 226 o x, B)) : AW g cc nL ret R own Qc pc lv (.int x :: .ref (ad g o) :: st) (I, B) := aw_put (ci := 7) (k := 2) (ty := .int) (f := 226) hd inX7 tyX7_ok nmX7 rfl (kd_lt hk (by decide)) (cl_k hk) (by decide) rfl rfl rfl rfl rfl (Nat.le_of_ble_eq_true rfl) hw (by rw [cl_k hk]; simp only [cl0, uI_s]; rfl) kk
theorem gf8_lines {g : GG} {cc : ByteArray} {nL : Nat} {ret : Option FieldType} {R : Room} {own : String} {Qc : Array Value → State → Outcome → State → Prop} {pc pc' idx o : Nat} {lv : List (Option Value)} {st : List Value} {I : Nat → Nat → Int32} {B : (Nat → Nat → Int32) × (Nat → Nat)} (hd : dn cc pc (.getfield idx) 3 pc') (hw : Cond.fieldLink own idx "RuledTables$Table" "lines" "LRuledTables$Lines;" ∈ wtb) (hk : kd o = 8) (kk : AW g cc nL ret R own Qc pc' lv (.ref (ad g (o + 1)) :: st) (I, B)) : AW g cc nL ret R own Qc pc lv (.ref (ad g o) :: st) (I, B) := aw_get (ci := 8) (k := 0) hd inX8 rfl (kd_lt hk (by decide)) (cl_k hk) (by decide) rfl rfl hw kk
theorem gf8_rules {g : GG} {cc : ByteArray} {nL : Nat} {ret : Option FieldType} {R : Room} {own : String} {Qc : Array Value → State → Outcome → State → Prop} {pc pc' idx o : Nat} {lv : List (Option Value)} {st : List Value} {I : Nat → Nat → Int32} {B : (Nat → Nat → Int32) × (Nat → Nat)} (hd : dn cc pc (.getfield idx) 3 pc') (hw : Cond.fieldLink own idx "RuledTables$Table" "rules" "I" ∈ wtb) (hk : kd o = 8) (kk : AW g cc nL ret R own Qc pc' lv (.int (I 257 o) :: st) (I, B)) : AW g cc nL ret R own Qc pc lv (.ref (ad g o) :: st) (I, B) := aw_get (ci := 8) (k := 1) hd inX8 rfl (kd_lt hk (by decide)) (cl_k hk) (by decide) rfl rfl hw kk
theorem pf8_rules {g : GG} {cc : ByteArray} {nL : Nat} {ret : Option FieldType} {R : Room} {own : String} {Qc : Array Value → State → Outcome → State → Prop} {pc pc' idx o : Nat} {lv : List (Option Value)} {st : List Value} {I : Nat → Nat → Int32} {B : (Nat → Nat → Int32) × (Nat → Nat)} {x : Int32} (hd : dn cc pc (.putfield idx) 3 pc') (hw : Cond.fieldLink own idx "RuledTables$Table" "rules" "I" ∈ wtb) (hk : kd o = 8) (kk : AW g cc nL ret R own Qc pc' lv st (uI I 257 o x, B)) : AW g cc nL ret R own Qc pc lv (.int x :: .ref (ad g o) :: st) (I, B) := aw_put (ci := 8) (k := 1) (ty := .int) (f := 257) hd inX8 tyX8_ok nmX8 rfl (kd_lt hk (by decide)) (cl_k hk) (by decide) rfl rfl rfl rfl rfl (Nat.le_of_ble_eq_true rfl) hw (by rw [cl_k hk]; simp only [cl0, uI_s, uI_f (show 258 ≠ 257 by decide), uI_f (show 259 ≠ 257 by decide), uI_f (show 263 ≠ 257 by decide), uI_f (show 265 ≠ 257 by decide), uI_f (show 266 ≠ 257 by decide), uI_f (show 267 ≠ 257 by decide)]; rfl) kk
theorem gf8_rows {g : GG} {cc : ByteArray} {nL : Nat} {ret : Option FieldType} {R : Room} {own : String} {Qc : Array Value → State → Outcome → State → Prop} {pc pc' idx o : Nat} {lv : List (Option Value)} {st : List Value} {I : Nat → Nat → Int32} {B : (Nat → Nat → Int32) × (Nat → Nat)} (hd : dn cc pc (.getfield idx) 3 pc') (hw : Cond.fieldLink own idx "RuledTables$Table" "rows" "I" ∈ wtb) (hk : kd o = 8) (kk : AW g cc nL ret R own Qc pc' lv (.int (I 258 o) :: st) (I, B)) : AW g cc nL ret R own Qc pc lv (.ref (ad g o) :: st) (I, B) := aw_get (ci := 8) (k := 2) hd inX8 rfl (kd_lt hk (by decide)) (cl_k hk) (by decide) rfl rfl hw kk
theorem pf8_rows {g : GG} {cc : ByteArray} {nL : Nat} {ret : Option FieldType} {R : Room} {own : String} {Qc : Array Value → State → Outcome → State → Prop} {pc pc' idx o : Nat} {lv : List (Option Value)} {st : List Value} {I : Nat → Nat → Int32} {B : (Nat → Nat → Int32) × (Nat → Nat)} {x : Int32} (hd : dn cc pc (.putfield idx) 3 pc') (hw : Cond.fieldLink own idx "RuledTables$Table" "rows" "I" ∈ wtb) (hk : kd o = 8) (kk : AW g cc nL ret R own Qc pc' lv st (uI I 258 o x, B)) : AW g cc nL ret R own Qc pc lv (.int x :: .ref (ad g o) :: st) (I, B) := aw_put (ci := 8) (k := 2) (ty := .int) (f := 258) hd inX8 tyX8_ok nmX8 rfl (kd_lt hk (by decide)) (cl_k hk) (by decide) rfl rfl rfl rfl rfl (Nat.le_of_ble_eq_true rfl) hw (by rw [cl_k hk]; simp only [cl0, uI_s, uI_f (show 257 ≠ 258 by decide), uI_f (show 259 ≠ 258 by decide), uI_f (show 263 ≠ 258 by decide), uI_f (show 265 ≠ 258 by decide), uI_f (show 266 ≠ 258 by decide), uI_f (show 267 ≠ 258 by decide)]; rfl) kk
theorem gf8_columns {g : GG} {cc : ByteArray} {nL : Nat} {ret : Option FieldType} {R : Room} {own : String} {Qc : Array Value → State → Outcome → State → Prop} {pc pc' idx o : Nat} {lv : List (Option Value)} {st : List Value} {I : Nat → Nat → Int32} {B : (Nat → Nat → Int32) × (Nat → Nat)} (hd : dn cc pc (.getfield idx) 3 pc') (hw : Cond.fieldLink own idx "RuledTables$Table" "columns" "I" ∈ wtb) (hk : kd o = 8) (kk : AW g cc nL ret R own Qc pc' lv (.int (I 259 o) :: st) (I, B)) : AW g cc nL ret R own Qc pc lv (.ref (ad g o) :: st) (I, B) := aw_get (ci := 8) (k := 3) hd inX8 rfl (kd_lt hk (by decide)) (cl_k hk) (by decide) rfl rfl hw kk
theorem pf8_columns {g : GG} {cc : ByteArray} {nL : Nat} {ret : Option FieldType} {R : Room} {own : String} {Qc : Array Value → State → Outcome → State → Prop} {pc pc' idx o : Nat} {lv : List (Option Value)} {st : List Value} {I : Nat → Nat → Int32} {B : (Nat → Nat → Int32) × (Nat → Nat)} {x : Int32} (hd : dn cc pc (.putfield idx) 3 pc') (hw : Cond.fieldLink own idx "RuledTables$Table" "columns" "I" ∈ wtb) (hk : kd o = 8) (kk : AW g cc nL ret R own Qc pc' lv st (uI I 259 o x, B)) : AW g cc nL ret R own Qc pc lv (.int x :: .ref (ad g o) :: st) (I, B) := aw_put (ci := 8) (k := 3) (ty := .int) (f := 259) hd inX8 tyX8_ok nmX8 rfl (kd_lt hk (by decide)) (cl_k hk) (by decide) rfl rfl rfl rfl rfl (Nat.le_of_ble_eq_true rfl) hw (by rw [cl_k hk]; simp only [cl0, uI_s, uI_f (show 257 ≠ 259 by decide), uI_f (show 258 ≠ 259 by decide), uI_f (show 263 ≠ 259 by decide), uI_f (show 265 ≠ 259 by decide), uI_f (show 266 ≠ 259 by decide), uI_f (show 267 ≠ 259 by decide)]; rfl) kk
theorem gf8_sides {g : GG} {cc : ByteArray} {nL : Nat} {ret : Option FieldType} {R : Room} {own : String} {Qc : Array Value → State → Outcome → State → Prop} {pc pc' idx o : Nat} {lv : List (Option Value)} {st : List Value} {I : Nat → Nat → Int32} {B : (Nat → Nat → Int32) × (Nat → Nat)} (hd : dn cc pc (.getfield idx) 3 pc') (hw : Cond.fieldLink own idx "RuledTables$Table" "sides" "[Z" ∈ wtb) (hk : kd o = 8) (kk : AW g cc nL ret R own Qc pc' lv (.ref (ad g (o + 6)) :: st) (I, B)) : AW g cc nL ret R own Qc pc lv (.ref (ad g o) :: st) (I, B) := aw_get (ci := 8) (k := 4) hd inX8 rfl (kd_lt hk (by decide)) (cl_k hk) (by decide) rfl rfl hw kk
theorem gf8_fieldCells {g : GG} {cc : ByteArray} {nL : Nat} {ret : Option FieldType} {R : Room} {own : String} {Qc : Array Value → State → Outcome → State → Prop} {pc pc' idx o : Nat} {lv : List (Option Value)} {st : List Value} {I : Nat → Nat → Int32} {B : (Nat → Nat → Int32) × (Nat → Nat)} (hd : dn cc pc (.getfield idx) 3 pc') (hw : Cond.fieldLink own idx "RuledTables$Table" "fieldCells" "[I" ∈ wtb) (hk : kd o = 8) (kk : AW g cc nL ret R own Qc pc' lv (.ref (ad g (o + 7)) :: st) (I, B)) : AW g cc nL ret R own Qc pc lv (.ref (ad g o) :: st) (I, B) := aw_get (ci := 8) (k := 5) hd inX8 rfl (kd_lt hk (by decide)) (cl_k hk) (by decide) rfl rfl hw kk
theorem gf8_cells {g : GG} {cc : ByteArray} {nL : Nat} {ret : Option FieldType} {R : Room} {own : String} {Qc : Array Value → State → Outcome → State → Prop} {pc pc' idx o : Nat} {lv : List (Option Value)} {st : List Value} {I : Nat → Nat → Int32} {B : (Nat → Nat → Int32) × (Nat → Nat)} (hd : dn cc pc (.getfield idx) 3 pc') (hw : Cond.fieldLink own idx "RuledTables$Table" "cells" "[[I" ∈ wtb) (hk : kd o = 8) (kk : AW g cc nL ret R own Qc pc' lv (.ref (ad g (o + 8)) :: st) (I, B)) : AW g cc nL ret R own Qc pc lv (.ref (ad g o) :: st) (I, B) := aw_get (ci := 8) (k := 6) hd inX8 rfl (kd_lt hk (by decide)) (cl_k hk) (by decide) rfl rfl hw kk
theorem gf8_cellCount {g : GG} {cc : ByteArray} {nL : Nat} {ret : Option FieldType} {R : Room} {own : String} {Qc : Array Value → State → Outcome → State → Prop} {pc pc' idx o : Nat} {lv : List (Option Value)} {st : List Value} {I : Nat → Nat → Int32} {B : (Nat → Nat → Int32) × (Nat → Nat)} (hd : dn cc pc (.getfield idx) 3 pc') (hw : Cond.fieldLink own idx "RuledTables$Table" "cellCount" "I" ∈ wtb) (hk : kd o = 8) (kk : AW g cc nL ret R own Qc pc' lv (.int (I 263 o) :: st) (I, B)) : AW g cc nL ret R own Qc pc lv (.ref (ad g o) :: st) (I, B) := aw_get (ci := 8) (k := 7) hd inX8 rfl (kd_lt hk (by decide)) (cl_k hk) (by decide) rfl rfl hw kk
theorem pf8_cellCount {g : GG} {cc : ByteArray} {nL : Nat} {ret : Option FieldType} {R : Room} {own : String} {Qc : Array Value → State → Outcome → State → Prop} {pc pc' idx o : Nat} {lv : List (Option Value)} {st : List Value} {I : Nat → Nat → Int32} {B : (Nat → Nat → Int32) × (Nat → Nat)} {x : Int32} (hd : dn cc pc (.putfield idx) 3 pc') (hw : Cond.fieldLink own idx "RuledTables$Table" "cellCount" "I" ∈ wtb) (hk : kd o = 8) (kk : AW g cc nL ret R own Qc pc' lv st (uI I 263 o x, B)) : AW g cc nL ret R own Qc pc lv (.int x :: .ref (ad g o) :: st) (I, B) := aw_put (ci := 8) (k := 7) (ty := .int) (f := 263) hd inX8 tyX8_ok nmX8 rfl (kd_lt hk (by decide)) (cl_k hk) (by decide) rfl rfl rfl rfl rfl (Nat.le_of_ble_eq_true rfl) hw (by rw [cl_k hk]; simp only [cl0, uI_s, uI_f (show 257 ≠ 263 by decide), uI_f (show 258 ≠ 263 by decide), uI_f (show 259 ≠ 263 by decide), uI_f (show 265 ≠ 263 by decide), uI_f (show 266 ≠ 263 by decide), uI_f (show 267 ≠ 263 by decide)]; rfl) kk
theorem gf8_missedLines {g : GG} {cc : ByteArray} {nL : Nat} {ret : Option FieldType} {R : Room} {own : String} {Qc : Array Value → State → Outcome → State → Prop} {pc pc' idx o : Nat} {lv : List (Option Value)} {st : List Value} {I : Nat → Nat → Int32} {B : (Nat → Nat → Int32) × (Nat → Nat)} (hd : dn cc pc (.getfield idx) 3 pc') (hw : Cond.fieldLink own idx "RuledTables$Table" "missedLines" "[[I" ∈ wtb) (hk : kd o = 8) (kk : AW g cc nL ret R own Qc pc' lv (.ref (ad g (o + 16)) :: st) (I, B)) : AW g cc nL ret R own Qc pc lv (.ref (ad g o) :: st) (I, B) := aw_get (ci := 8) (k := 8) hd inX8 rfl (kd_lt hk (by decide)) (cl_k hk) (by decide) rfl rfl hw kk
theorem gf8_missedCount {g : GG} {cc : ByteArray} {nL : Nat} {ret : Option FieldType} {R : Room} {own : String} {Qc : Array Value → State → Outcome → State → Prop} {pc pc' idx o : Nat} {lv : List (Option Value)} {st : List Value} {I : Nat → Nat → Int32} {B : (Nat → Nat → Int32) × (Nat → Nat)} (hd : dn cc pc (.getfield idx) 3 pc') (hw : Cond.fieldLink own idx "RuledTables$Table" "missedCount" "I" ∈ wtb) (hk : kd o = 8) (kk : AW g cc nL ret R own Qc pc' lv (.int (I 265 o) :: st) (I, B)) : AW g cc nL ret R own Qc pc lv (.ref (ad g o) :: st) (I, B) := aw_get (ci := 8) (k := 9) hd inX8 rfl (kd_lt hk (by decide)) (cl_k hk) (by decide) rfl rfl hw kk
theorem pf8_missedCount {g : GG} {cc : ByteArray} {nL : Nat} {ret : Option FieldType} {R : Room} {own : String} {Qc : Array Value → State → Outcome → State → Prop} {pc pc' idx o : Nat} {lv : List (Option Value)} {st : List Value} {I : Nat → Nat → Int32} {B : (Nat → Nat → Int32) × (Nat → Nat)} {x : Int32} (hd : dn cc pc (.putfield idx) 3 pc') (hw : Cond.fieldLink own idx "RuledTables$Table" "missedCount" "I" ∈ wtb) (hk : kd o = 8) (kk : AW g cc nL ret R own Qc pc' lv st (uI I 265 o x, B)) : AW g cc nL ret R own Qc pc lv (.int x :: .ref (ad g o) :: st) (I, B) := aw_put (ci := 8) (k := 9) (ty := .int) (f := 265) hd inX8 tyX8_ok nmX8 rfl (kd_lt hk (by decide)) (cl_k hk) (by decide) rfl rfl rfl rfl rfl (Nat.le_of_ble_eq_true rfl) hw (by rw [cl_k hk]; simp only [cl0, uI_s, uI_f (show 257 ≠ 265 by decide), uI_f (show 258 ≠ 265 by decide), uI_f (show 259 ≠ 265 by decide), uI_f (show 263 ≠ 265 by decide), uI_f (show 266 ≠ 265 by decide), uI_f (show 267 ≠ 265 by decide)]; rfl) kk
theorem gf8_words {g : GG} {cc : ByteArray} {nL : Nat} {ret : Option FieldType} {R : Room} {own : String} {Qc : Array Value → State → Outcome → State → Prop} {pc pc' idx o : Nat} {lv : List (Option Value)} {st : List Value} {I : Nat → Nat → Int32} {B : (Nat → Nat → Int32) × (Nat → Nat)} (hd : dn cc pc (.getfield idx) 3 pc') (hw : Cond.fieldLink own idx "RuledTables$Table" "words" "I" ∈ wtb) (hk : kd o = 8) (kk : AW g cc nL ret R own Qc pc' lv (.int (I 266 o) :: st) (I, B)) : AW g cc nL ret R own Qc pc lv (.ref (ad g o) :: st) (I, B) := aw_get (ci := 8) (k := 10) hd inX8 rfl (kd_lt hk (by decide)) (cl_k hk) (by decide) rfl rfl hw kk
theorem pf8_words {g : GG} {cc : ByteArray} {nL : Nat} {ret : Option FieldType} {R : Room} {own : String} {Qc : Array Value → State → Outcome → State → Prop} {pc pc' idx o : Nat} {lv : List (Option Value)} {st : List Value} {I : Nat → Nat → Int32} {B : (Nat → Nat → Int32) × (Nat → Nat)} {x : Int32} (hd : dn cc pc (.putfield idx) 3 pc') (hw : Cond.fieldLink own idx "RuledTables$Table" "words" "I" ∈ wtb) (hk : kd o = 8) (kk : AW g cc nL ret R own Qc pc' lv st (uI I 266 o x, B)) : AW g cc nL ret R own Qc pc lv (.int x :: .ref (ad g o) :: st) (I, B) := aw_put (ci := 8) (k := 10) (ty := .int) (f := 266) hd inX8 tyX8_ok nmX8 rfl (kd_lt hk (by decide)) (cl_k hk) (by decide) rfl rfl rfl rfl rfl (Nat.le_of_ble_eq_true rfl) hw (by rw [cl_k hk]; simp only [cl0, uI_s, uI_f (show 257 ≠ 266 by decide), uI_f (show 258 ≠ 266 by decide), uI_f (show 259 ≠ 266 by decide), uI_f (show 263 ≠ 266 by decide), uI_f (show 265 ≠ 266 by decide), uI_f (show 267 ≠ 266 by decide)]; rfl) kk
theorem gf8_heads {g : GG} {cc : ByteArray} {nL : Nat} {ret : Option FieldType} {R : Room} {own : String} {Qc : Array Value → State → Outcome → State → Prop} {pc pc' idx o : Nat} {lv : List (Option Value)} {st : List Value} {I : Nat → Nat → Int32} {B : (Nat → Nat → Int32) × (Nat → Nat)} (hd : dn cc pc (.getfield idx) 3 pc') (hw : Cond.fieldLink own idx "RuledTables$Table" "heads" "I" ∈ wtb) (hk : kd o = 8) (kk : AW g cc nL ret R own Qc pc' lv (.int (I 267 o) :: st) (I, B)) : AW g cc nL ret R own Qc pc lv (.ref (ad g o) :: st) (I, B) := aw_get (ci := 8) (k := 11) hd inX8 rfl (kd_lt hk (by decide)) (cl_k hk) (by decide) rfl rfl hw kk
theorem pf8_heads {g : GG} {cc : ByteArray} {nL : Nat} {ret : Option FieldType} {R : Room} {own : String} {Qc : Array Value → State → Outcome → State → Prop} {pc pc' idx o : Nat} {lv : List (Option Value)} {st : List Value} {I : Nat → Nat → Int32} {B : (Nat → Nat → Int32) × (Nat → Nat)} {x : Int32} (hd : dn cc pc (.putfield idx) 3 pc') (hw : Cond.fieldLink own idx "RuledTables$Table" "heads" "I" ∈ wtb) (hk : kd o = 8) (kk : AW g cc nL ret R own Qc pc' lv st (uI I 267 o x, B)) : AW g cc nL ret R own Qc pc lv (.int x :: .ref (ad g o) :: st) (I, B) := aw_put (ci := 8) (k := 11) (ty := .int) (f := 267) hd inX8 tyX8_ok nmX8 rfl (kd_lt hk (by decide)) (cl_k hk) (by decide) rfl rfl rfl rfl rfl (Nat.le_of_ble_eq_true rfl) hw (by rw [cl_k hk]; simp only [cl0, uI_s, uI_f (show 257 ≠ 267 by decide), uI_f (show 258 ≠ 267 by decide), uI_f (show 259 ≠ 267 by decide), uI_f (show 263 ≠ 267 by decide), uI_f (show 265 ≠ 267 by decide), uI_f (show 266 ≠ 267 by decide)]; rfl) kk
theorem gf9_page {g : GG} {cc : ByteArray} {nL : Nat} {ret : Option FieldType} {R : Room} {own : String} {Qc : Array Value → State → Outcome → State → Prop} {pc pc' idx o : Nat} {lv : List (Option Value)} {st : List Value} {I : Nat → Nat → Int32} {B : (Nat → Nat → Int32) × (Nat → Nat)} (hd : dn cc pc (.getfield idx) 3 pc') (hw : Cond.fieldLink own idx "RuledTables" "page" "LRuledTables$Page;" ∈ wtb) (hk : kd o = 9) (kk : AW g cc nL ret R own Qc pc' lv (.ref (ad g (o + 1)) :: st) (I, B)) : AW g cc nL ret R own Qc pc lv (.ref (ad g o) :: st) (I, B) := aw_get (ci := 9) (k := 0) hd inX9 rfl (kd_lt hk (by decide)) (cl_k hk) (by decide) rfl rfl hw kk
theorem gf9_images {g : GG} {cc : ByteArray} {nL : Nat} {ret : Option FieldType} {R : Room} {own : String} {Qc : Array Value → State → Outcome → State → Prop} {pc pc' idx o : Nat} {lv : List (Option Value)} {st : List Value} {I : Nat → Nat → Int32} {B : (Nat → Nat → Int32) × (Nat → Nat)} (hd : dn cc pc (.getfield idx) 3 pc') (hw : Cond.fieldLink own idx "RuledTables" "images" "[LRuledTables$Page;" ∈ wtb) (hk : kd o = 9) (kk : AW g cc nL ret R own Qc pc' lv (.ref (ad g (o + 7)) :: st) (I, B)) : AW g cc nL ret R own Qc pc lv (.ref (ad g o) :: st) (I, B) := aw_get (ci := 9) (k := 1) hd inX9 rfl (kd_lt hk (by decide)) (cl_k hk) (by decide) rfl rfl hw kk
theorem gf9_kept {g : GG} {cc : ByteArray} {nL : Nat} {ret : Option FieldType} {R : Room} {own : String} {Qc : Array Value → State → Outcome → State → Prop} {pc pc' idx o : Nat} {lv : List (Option Value)} {st : List Value} {I : Nat → Nat → Int32} {B : (Nat → Nat → Int32) × (Nat → Nat)} (hd : dn cc pc (.getfield idx) 3 pc') (hw : Cond.fieldLink own idx "RuledTables" "kept" "[Z" ∈ wtb) (hk : kd o = 9) (kk : AW g cc nL ret R own Qc pc' lv (.ref (ad g (o + 20)) :: st) (I, B)) : AW g cc nL ret R own Qc pc lv (.ref (ad g o) :: st) (I, B) := aw_get (ci := 9) (k := 2) hd inX9 rfl (kd_lt hk (by decide)) (cl_k hk) (by decide) rfl rfl hw kk
theorem gf9_finding {g : GG} {cc : ByteArray} {nL : Nat} {ret : Option FieldType} {R : Room} {own : String} {Qc : Array Value → State → Outcome → State → Prop} {pc pc' idx o : Nat} {lv : List (Option Value)} {st : List Value} {I : Nat → Nat → Int32} {B : (Nat → Nat → Int32) × (Nat → Nat)} (hd : dn cc pc (.getfield idx) 3 pc') (hw : Cond.fieldLink own idx "RuledTables" "finding" "LRuledTables$Finding;" ∈ wtb) (hk : kd o = 9) (kk : AW g cc nL ret R own Qc pc' lv (.ref (ad g (o + 21)) :: st) (I, B)) : AW g cc nL ret R own Qc pc lv (.ref (ad g o) :: st) (I, B) := aw_get (ci := 9) (k := 3) hd inX9 rfl (kd_lt hk (by decide)) (cl_k hk) (by decide) rfl rfl hw kk
theorem gf9_stale {g : GG} {cc : ByteArray} {nL : Nat} {ret : Option FieldType} {R : Room} {own : String} {Qc : Array Value → State → Outcome → State → Prop} {pc pc' idx o : Nat} {lv : List (Option Value)} {st : List Value} {I : Nat → Nat → Int32} {B : (Nat → Nat → Int32) × (Nat → Nat)} (hd : dn cc pc (.getfield idx) 3 pc') (hw : Cond.fieldLink own idx "RuledTables" "stale" "Z" ∈ wtb) (hk : kd o = 9) (kk : AW g cc nL ret R own Qc pc' lv (.int (I 292 o) :: st) (I, B)) : AW g cc nL ret R own Qc pc lv (.ref (ad g o) :: st) (I, B) := aw_get (ci := 9) (k := 4) hd inX9 rfl (kd_lt hk (by decide)) (cl_k hk) (by decide) rfl rfl hw kk
theorem pf9_stale {g : GG} {cc : ByteArray} {nL : Nat} {ret : Option FieldType} {R : Room} {own : String} {Qc : Array Value → State → Outcome → State → Prop} {pc pc' idx o : Nat} {lv : List (Option Value)} {st : List Value} {I : Nat → Nat → Int32} {B : (Nat → Nat → Int32) × (Nat → Nat)} {x : Int32} (hd : dn cc pc (.putfield idx) 3 pc') (hw : Cond.fieldLink own idx "RuledTables" "stale" "Z" ∈ wtb) (hk : kd o = 9) (hx : x = 0 ∨ x = 1) (kk : AW g cc nL ret R own Qc pc' lv st (uI I 292 o x, B)) : AW g cc nL ret R own Qc pc lv (.int x :: .ref (ad g o) :: st) (I, B) := aw_put (ci := 9) (k := 4) (ty := .boolean) (f := 292) hd inX9 tyX9_ok nmX9 rfl (kd_lt hk (by decide)) (cl_k hk) (by decide) rfl rfl rfl (by rcases hx with rfl | rfl <;> rfl) (by rcases hx with rfl | rfl <;> rfl) (Nat.le_of_ble_eq_true rfl) hw (by rw [cl_k hk]; simp only [cl0, uI_s]; rfl) kk
theorem gf10_drawn {g : GG} {cc : ByteArray} {nL : Nat} {ret : Option FieldType} {R : Room} {own : String} {Qc : Array Value → State → Outcome → State → Prop} {pc pc' idx o : Nat} {lv : List (Option Value)} {st : List Value} {I : Nat → Nat → Int32} {B : (Nat → Nat → Int32) × (Nat → Nat)} (hd : dn cc pc (.getfield idx) 3 pc') (hw : Cond.fieldLink own idx "RuledTablesModel" "drawn" "[I" ∈ wtb) (hk : kd o = 10) (kk : AW g cc nL ret R own Qc pc' lv (.ref (ad g (o + 1)) :: st) (I, B)) : AW g cc nL ret R own Qc pc lv (.ref (ad g o) :: st) (I, B) := aw_get (ci := 10) (k := 0) hd inX10 rfl (kd_lt hk (by decide)) (cl_k hk) (by decide) rfl rfl hw kk
theorem gf10_drawnMany {g : GG} {cc : ByteArray} {nL : Nat} {ret : Option FieldType} {R : Room} {own : String} {Qc : Array Value → State → Outcome → State → Prop} {pc pc' idx o : Nat} {lv : List (Option Value)} {st : List Value} {I : Nat → Nat → Int32} {B : (Nat → Nat → Int32) × (Nat → Nat)} (hd : dn cc pc (.getfield idx) 3 pc') (hw : Cond.fieldLink own idx "RuledTablesModel" "drawnMany" "I" ∈ wtb) (hk : kd o = 10) (kk : AW g cc nL ret R own Qc pc' lv (.int (I 321 o) :: st) (I, B)) : AW g cc nL ret R own Qc pc lv (.ref (ad g o) :: st) (I, B) := aw_get (ci := 10) (k := 1) hd inX10 rfl (kd_lt hk (by decide)) (cl_k hk) (by decide) rfl rfl hw kk
theorem pf10_drawnMany {g : GG} {cc : ByteArray} {nL : Nat} {ret : Option FieldType} {R : Room} {own : String} {Qc : Array Value → State → Outcome → State → Prop} {pc pc' idx o : Nat} {lv : List (Option Value)} {st : List Value} {I : Nat → Nat → Int32} {B : (Nat → Nat → Int32) × (Nat → Nat)} {x : Int32} (hd : dn cc pc (.putfield idx) 3 pc') (hw : Cond.fieldLink own idx "RuledTablesModel" "drawnMany" "I" ∈ wtb) (hk : kd o = 10) (kk : AW g cc nL ret R own Qc pc' lv st (uI I 321 o x, B)) : AW g cc nL ret R own Qc pc lv (.int x :: .ref (ad g o) :: st) (I, B) := aw_put (ci := 10) (k := 1) (ty := .int) (f := 321) hd inX10 tyX10_ok nmX10 rfl (kd_lt hk (by decide)) (cl_k hk) (by decide) rfl rfl rfl rfl rfl (Nat.le_of_ble_eq_true rfl) hw (by rw [cl_k hk]; simp only [cl0, uI_s, uI_f (show 323 ≠ 321 by decide), uI_f (show 325 ≠ 321 by decide), uI_f (show 328 ≠ 321 by decide), uI_f (show 330 ≠ 321 by decide), uI_f (show 339 ≠ 321 by decide), uI_f (show 340 ≠ 321 by decide), uI_f (show 341 ≠ 321 by decide), uI_f (show 342 ≠ 321 by decide), uI_f (show 346 ≠ 321 by decide), uI_f (show 347 ≠ 321 by decide)]; rfl) kk
theorem gf10_boxes {g : GG} {cc : ByteArray} {nL : Nat} {ret : Option FieldType} {R : Room} {own : String} {Qc : Array Value → State → Outcome → State → Prop} {pc pc' idx o : Nat} {lv : List (Option Value)} {st : List Value} {I : Nat → Nat → Int32} {B : (Nat → Nat → Int32) × (Nat → Nat)} (hd : dn cc pc (.getfield idx) 3 pc') (hw : Cond.fieldLink own idx "RuledTablesModel" "boxes" "[I" ∈ wtb) (hk : kd o = 10) (kk : AW g cc nL ret R own Qc pc' lv (.ref (ad g (o + 2)) :: st) (I, B)) : AW g cc nL ret R own Qc pc lv (.ref (ad g o) :: st) (I, B) := aw_get (ci := 10) (k := 2) hd inX10 rfl (kd_lt hk (by decide)) (cl_k hk) (by decide) rfl rfl hw kk
theorem gf10_boxMany {g : GG} {cc : ByteArray} {nL : Nat} {ret : Option FieldType} {R : Room} {own : String} {Qc : Array Value → State → Outcome → State → Prop} {pc pc' idx o : Nat} {lv : List (Option Value)} {st : List Value} {I : Nat → Nat → Int32} {B : (Nat → Nat → Int32) × (Nat → Nat)} (hd : dn cc pc (.getfield idx) 3 pc') (hw : Cond.fieldLink own idx "RuledTablesModel" "boxMany" "I" ∈ wtb) (hk : kd o = 10) (kk : AW g cc nL ret R own Qc pc' lv (.int (I 323 o) :: st) (I, B)) : AW g cc nL ret R own Qc pc lv (.ref (ad g o) :: st) (I, B) := aw_get (ci := 10) (k := 3) hd inX10 rfl (kd_lt hk (by decide)) (cl_k hk) (by decide) rfl rfl hw kk
theorem pf10_boxMany {g : GG} {cc : ByteArray} {nL : Nat} {ret : Option FieldType} {R : Room} {own : String} {Qc : Array Value → State → Outcome → State → Prop} {pc pc' idx o : Nat} {lv : List (Option Value)} {st : List Value} {I : Nat → Nat → Int32} {B : (Nat → Nat → Int32) × (Nat → Nat)} {x : Int32} (hd : dn cc pc (.putfield idx) 3 pc') (hw : Cond.fieldLink own idx "RuledTablesModel" "boxMany" "I" ∈ wtb) (hk : kd o = 10) (kk : AW g cc nL ret R own Qc pc' lv st (uI I 323 o x, B)) : AW g cc nL ret R own Qc pc lv (.int x :: .ref (ad g o) :: st) (I, B) := aw_put (ci := 10) (k := 3) (ty := .int) (f := 323) hd inX10 tyX10_ok nmX10 rfl (kd_lt hk (by decide)) (cl_k hk) (by decide) rfl rfl rfl rfl rfl (Nat.le_of_ble_eq_true rfl) hw (by rw [cl_k hk]; simp only [cl0, uI_s, uI_f (show 321 ≠ 323 by decide), uI_f (show 325 ≠ 323 by decide), uI_f (show 328 ≠ 323 by decide), uI_f (show 330 ≠ 323 by decide), uI_f (show 339 ≠ 323 by decide), uI_f (show 340 ≠ 323 by decide), uI_f (show 341 ≠ 323 by decide), uI_f (show 342 ≠ 323 by decide), uI_f (show 346 ≠ 323 by decide), uI_f (show 347 ≠ 323 by decide)]; rfl) kk
theorem gf10_how {g : GG} {cc : ByteArray} {nL : Nat} {ret : Option FieldType} {R : Room} {own : String} {Qc : Array Value → State → Outcome → State → Prop} {pc pc' idx o : Nat} {lv : List (Option Value)} {st : List Value} {I : Nat → Nat → Int32} {B : (Nat → Nat → Int32) × (Nat → Nat)} (hd : dn cc pc (.getfield idx) 3 pc') (hw : Cond.fieldLink own idx "RuledTablesModel" "how" "[I" ∈ wtb) (hk : kd o = 10) (kk : AW g cc nL ret R own Qc pc' lv (.ref (ad g (o + 3)) :: st) (I, B)) : AW g cc nL ret R own Qc pc lv (.ref (ad g o) :: st) (I, B) := aw_get (ci := 10) (k := 4) hd inX10 rfl (kd_lt hk (by decide)) (cl_k hk) (by decide) rfl rfl hw kk
theorem gf10_isFound {g : GG} {cc : ByteArray} {nL : Nat} {ret : Option FieldType} {R : Room} {own : String} {Qc : Array Value → State → Outcome → State → Prop} {pc pc' idx o : Nat} {lv : List (Option Value)} {st : List Value} {I : Nat → Nat → Int32} {B : (Nat → Nat → Int32) × (Nat → Nat)} (hd : dn cc pc (.getfield idx) 3 pc') (hw : Cond.fieldLink own idx "RuledTablesModel" "isFound" "Z" ∈ wtb) (hk : kd o = 10) (kk : AW g cc nL ret R own Qc pc' lv (.int (I 325 o) :: st) (I, B)) : AW g cc nL ret R own Qc pc lv (.ref (ad g o) :: st) (I, B) := aw_get (ci := 10) (k := 5) hd inX10 rfl (kd_lt hk (by decide)) (cl_k hk) (by decide) rfl rfl hw kk
theorem pf10_isFound {g : GG} {cc : ByteArray} {nL : Nat} {ret : Option FieldType} {R : Room} {own : String} {Qc : Array Value → State → Outcome → State → Prop} {pc pc' idx o : Nat} {lv : List (Option Value)} {st : List Value} {I : Nat → Nat → Int32} {B : (Nat → Nat → Int32) × (Nat → Nat)} {x : Int32} (hd : dn cc pc (.putfield idx) 3 pc') (hw : Cond.fieldLink own idx "RuledTablesModel" "isFound" "Z" ∈ wtb) (hk : kd o = 10) (hx : x = 0 ∨ x = 1) (kk : AW g cc nL ret R own Qc pc' lv st (uI I 325 o x, B)) : AW g cc nL ret R own Qc pc lv (.int x :: .ref (ad g o) :: st) (I, B) := aw_put (ci := 10) (k := 5) (ty := .boolean) (f := 325) hd inX10 tyX10_ok nmX10 rfl (kd_lt hk (by decide)) (cl_k hk) (by decide) rfl rfl rfl (by rcases hx with rfl | rfl <;> rfl) (by rcases hx with rfl | rfl <;> rfl) (Nat.le_of_ble_eq_true rfl) hw (by rw [cl_k hk]; simp only [cl0, uI_s, uI_f (show 321 ≠ 325 by decide), uI_f (show 323 ≠ 325 by decide), uI_f (show 328 ≠ 325 by decide), uI_f (show 330 ≠ 325 by decide), uI_f (show 339 ≠ 325 by decide), uI_f (show 340 ≠ 325 by decide), uI_f (show 341 ≠ 325 by decide), uI_f (show 342 ≠ 325 by decide), uI_f (show 346 ≠ 325 by decide), uI_f (show 347 ≠ 325 by decide)]; rfl) kk
theorem gf10_label {g : GG} {cc : ByteArray} {nL : Nat} {ret : Option FieldType} {R : Room} {own : String} {Qc : Array Value → State → Outcome → State → Prop} {pc pc' idx o : Nat} {lv : List (Option Value)} {st : List Value} {I : Nat → Nat → Int32} {B : (Nat → Nat → Int32) × (Nat → Nat)} (hd : dn cc pc (.getfield idx) 3 pc') (hw : Cond.fieldLink own idx "RuledTablesModel" "label" "[I" ∈ wtb) (hk : kd o = 10) (kk : AW g cc nL ret R own Qc pc' lv (.ref (ad g (o + 4)) :: st) (I, B)) : AW g cc nL ret R own Qc pc lv (.ref (ad g o) :: st) (I, B) := aw_get (ci := 10) (k := 6) hd inX10 rfl (kd_lt hk (by decide)) (cl_k hk) (by decide) rfl rfl hw kk
theorem gf10_rules {g : GG} {cc : ByteArray} {nL : Nat} {ret : Option FieldType} {R : Room} {own : String} {Qc : Array Value → State → Outcome → State → Prop} {pc pc' idx o : Nat} {lv : List (Option Value)} {st : List Value} {I : Nat → Nat → Int32} {B : (Nat → Nat → Int32) × (Nat → Nat)} (hd : dn cc pc (.getfield idx) 3 pc') (hw : Cond.fieldLink own idx "RuledTablesModel" "rules" "[I" ∈ wtb) (hk : kd o = 10) (kk : AW g cc nL ret R own Qc pc' lv (.ref (ad g (o + 5)) :: st) (I, B)) : AW g cc nL ret R own Qc pc lv (.ref (ad g o) :: st) (I, B) := aw_get (ci := 10) (k := 7) hd inX10 rfl (kd_lt hk (by decide)) (cl_k hk) (by decide) rfl rfl hw kk
theorem gf10_ruleMany {g : GG} {cc : ByteArray} {nL : Nat} {ret : Option FieldType} {R : Room} {own : String} {Qc : Array Value → State → Outcome → State → Prop} {pc pc' idx o : Nat} {lv : List (Option Value)} {st : List Value} {I : Nat → Nat → Int32} {B : (Nat → Nat → Int32) × (Nat → Nat)} (hd : dn cc pc (.getfield idx) 3 pc') (hw : Cond.fieldLink own idx "RuledTablesModel" "ruleMany" "I" ∈ wtb) (hk : kd o = 10) (kk : AW g cc nL ret R own Qc pc' lv (.int (I 328 o) :: st) (I, B)) : AW g cc nL ret R own Qc pc lv (.ref (ad g o) :: st) (I, B) := aw_get (ci := 10) (k := 8) hd inX10 rfl (kd_lt hk (by decide)) (cl_k hk) (by decide) rfl rfl hw kk
theorem pf10_ruleMany {g : GG} {cc : ByteArray} {nL : Nat} {ret : Option FieldType} {R : Room} {own : String} {Qc : Array Value → State → Outcome → State → Prop} {pc pc' idx o : Nat} {lv : List (Option Value)} {st : List Value} {I : Nat → Nat → Int32} {B : (Nat → Nat → Int32) × (Nat → Nat)} {x : Int32} (hd : dn cc pc (.putfield idx) 3 pc') (hw : Cond.fieldLink own idx "RuledTablesModel" "ruleMany" "I" ∈ wtb) (hk : kd o = 10) (kk : AW g cc nL ret R own Qc pc' lv st (uI I 328 o x, B)) : AW g cc nL ret R own Qc pc lv (.int x :: .ref (ad g o) :: st) (I, B) := aw_put (ci := 10) (k := 8) (ty := .int) (f := 328) hd inX10 tyX10_ok nmX10 rfl (kd_lt hk (by decide)) (cl_k hk) (by decide) rfl rfl rfl rfl rfl (Nat.le_of_ble_eq_true rfl) hw (by rw [cl_k hk]; simp only [cl0, uI_s, uI_f (show 321 ≠ 328 by decide), uI_f (show 323 ≠ 328 by decide), uI_f (show 325 ≠ 328 by decide), uI_f (show 330 ≠ 328 by decide), uI_f (show 339 ≠ 328 by decide), uI_f (show 340 ≠ 328 by decide), uI_f (show 341 ≠ 328 by decide), uI_f (show 342 ≠ 328 by decide), uI_f (show 346 ≠ 328 by decide), uI_f (show 347 ≠ 328 by decide)]; rfl) kk
theorem gf10_ruleOf {g : GG} {cc : ByteArray} {nL : Nat} {ret : Option FieldType} {R : Room} {own : String} {Qc : Array Value → State → Outcome → State → Prop} {pc pc' idx o : Nat} {lv : List (Option Value)} {st : List Value} {I : Nat → Nat → Int32} {B : (Nat → Nat → Int32) × (Nat → Nat)} (hd : dn cc pc (.getfield idx) 3 pc') (hw : Cond.fieldLink own idx "RuledTablesModel" "ruleOf" "[I" ∈ wtb) (hk : kd o = 10) (kk : AW g cc nL ret R own Qc pc' lv (.ref (ad g (o + 6)) :: st) (I, B)) : AW g cc nL ret R own Qc pc lv (.ref (ad g o) :: st) (I, B) := aw_get (ci := 10) (k := 9) hd inX10 rfl (kd_lt hk (by decide)) (cl_k hk) (by decide) rfl rfl hw kk
theorem gf10_tableMany {g : GG} {cc : ByteArray} {nL : Nat} {ret : Option FieldType} {R : Room} {own : String} {Qc : Array Value → State → Outcome → State → Prop} {pc pc' idx o : Nat} {lv : List (Option Value)} {st : List Value} {I : Nat → Nat → Int32} {B : (Nat → Nat → Int32) × (Nat → Nat)} (hd : dn cc pc (.getfield idx) 3 pc') (hw : Cond.fieldLink own idx "RuledTablesModel" "tableMany" "I" ∈ wtb) (hk : kd o = 10) (kk : AW g cc nL ret R own Qc pc' lv (.int (I 330 o) :: st) (I, B)) : AW g cc nL ret R own Qc pc lv (.ref (ad g o) :: st) (I, B) := aw_get (ci := 10) (k := 10) hd inX10 rfl (kd_lt hk (by decide)) (cl_k hk) (by decide) rfl rfl hw kk
theorem pf10_tableMany {g : GG} {cc : ByteArray} {nL : Nat} {ret : Option FieldType} {R : Room} {own : String} {Qc : Array Value → State → Outcome → State → Prop} {pc pc' idx o : Nat} {lv : List (Option Value)} {st : List Value} {I : Nat → Nat → Int32} {B : (Nat → Nat → Int32) × (Nat → Nat)} {x : Int32} (hd : dn cc pc (.putfield idx) 3 pc') (hw : Cond.fieldLink own idx "RuledTablesModel" "tableMany" "I" ∈ wtb) (hk : kd o = 10) (kk : AW g cc nL ret R own Qc pc' lv st (uI I 330 o x, B)) : AW g cc nL ret R own Qc pc lv (.int x :: .ref (ad g o) :: st) (I, B) := aw_put (ci := 10) (k := 10) (ty := .int) (f := 330) hd inX10 tyX10_ok nmX10 rfl (kd_lt hk (by decide)) (cl_k hk) (by decide) rfl rfl rfl rfl rfl (Nat.le_of_ble_eq_true rfl) hw (by rw [cl_k hk]; simp only [cl0, uI_s, uI_f (show 321 ≠ 330 by decide), uI_f (show 323 ≠ 330 by decide), uI_f (show 325 ≠ 330 by decide), uI_f (show 328 ≠ 330 by decide), uI_f (show 339 ≠ 330 by decide), uI_f (show 340 ≠ 330 by decide), uI_f (show 341 ≠ 330 by decide), uI_f (show 342 ≠ 330 by decide), uI_f (show 346 ≠ 330 by decide), uI_f (show 347 ≠ 330 by decide)]; rfl) kk
theorem gf10_lines {g : GG} {cc : ByteArray} {nL : Nat} {ret : Option FieldType} {R : Room} {own : String} {Qc : Array Value → State → Outcome → State → Prop} {pc pc' idx o : Nat} {lv : List (Option Value)} {st : List Value} {I : Nat → Nat → Int32} {B : (Nat → Nat → Int32) × (Nat → Nat)} (hd : dn cc pc (.getfield idx) 3 pc') (hw : Cond.fieldLink own idx "RuledTablesModel" "lines" "[I" ∈ wtb) (hk : kd o = 10) (kk : AW g cc nL ret R own Qc pc' lv (.ref (ad g (o + 7)) :: st) (I, B)) : AW g cc nL ret R own Qc pc lv (.ref (ad g o) :: st) (I, B) := aw_get (ci := 10) (k := 11) hd inX10 rfl (kd_lt hk (by decide)) (cl_k hk) (by decide) rfl rfl hw kk
theorem gf10_lineMany {g : GG} {cc : ByteArray} {nL : Nat} {ret : Option FieldType} {R : Room} {own : String} {Qc : Array Value → State → Outcome → State → Prop} {pc pc' idx o : Nat} {lv : List (Option Value)} {st : List Value} {I : Nat → Nat → Int32} {B : (Nat → Nat → Int32) × (Nat → Nat)} (hd : dn cc pc (.getfield idx) 3 pc') (hw : Cond.fieldLink own idx "RuledTablesModel" "lineMany" "[I" ∈ wtb) (hk : kd o = 10) (kk : AW g cc nL ret R own Qc pc' lv (.ref (ad g (o + 8)) :: st) (I, B)) : AW g cc nL ret R own Qc pc lv (.ref (ad g o) :: st) (I, B) := aw_get (ci := 10) (k := 12) hd inX10 rfl (kd_lt hk (by decide)) (cl_k hk) (by decide) rfl rfl hw kk
theorem gf10_fieldFrom {g : GG} {cc : ByteArray} {nL : Nat} {ret : Option FieldType} {R : Room} {own : String} {Qc : Array Value → State → Outcome → State → Prop} {pc pc' idx o : Nat} {lv : List (Option Value)} {st : List Value} {I : Nat → Nat → Int32} {B : (Nat → Nat → Int32) × (Nat → Nat)} (hd : dn cc pc (.getfield idx) 3 pc') (hw : Cond.fieldLink own idx "RuledTablesModel" "fieldFrom" "[I" ∈ wtb) (hk : kd o = 10) (kk : AW g cc nL ret R own Qc pc' lv (.ref (ad g (o + 9)) :: st) (I, B)) : AW g cc nL ret R own Qc pc lv (.ref (ad g o) :: st) (I, B) := aw_get (ci := 10) (k := 13) hd inX10 rfl (kd_lt hk (by decide)) (cl_k hk) (by decide) rfl rfl hw kk
theorem gf10_cellFrom {g : GG} {cc : ByteArray} {nL : Nat} {ret : Option FieldType} {R : Room} {own : String} {Qc : Array Value → State → Outcome → State → Prop} {pc pc' idx o : Nat} {lv : List (Option Value)} {st : List Value} {I : Nat → Nat → Int32} {B : (Nat → Nat → Int32) × (Nat → Nat)} (hd : dn cc pc (.getfield idx) 3 pc') (hw : Cond.fieldLink own idx "RuledTablesModel" "cellFrom" "[I" ∈ wtb) (hk : kd o = 10) (kk : AW g cc nL ret R own Qc pc' lv (.ref (ad g (o + 10)) :: st) (I, B)) : AW g cc nL ret R own Qc pc lv (.ref (ad g o) :: st) (I, B) := aw_get (ci := 10) (k := 14) hd inX10 rfl (kd_lt hk (by decide)) (cl_k hk) (by decide) rfl rfl hw kk
theorem gf10_cellOf {g : GG} {cc : ByteArray} {nL : Nat} {ret : Option FieldType} {R : Room} {own : String} {Qc : Array Value → State → Outcome → State → Prop} {pc pc' idx o : Nat} {lv : List (Option Value)} {st : List Value} {I : Nat → Nat → Int32} {B : (Nat → Nat → Int32) × (Nat → Nat)} (hd : dn cc pc (.getfield idx) 3 pc') (hw : Cond.fieldLink own idx "RuledTablesModel" "cellOf" "[I" ∈ wtb) (hk : kd o = 10) (kk : AW g cc nL ret R own Qc pc' lv (.ref (ad g (o + 11)) :: st) (I, B)) : AW g cc nL ret R own Qc pc lv (.ref (ad g o) :: st) (I, B) := aw_get (ci := 10) (k := 15) hd inX10 rfl (kd_lt hk (by decide)) (cl_k hk) (by decide) rfl rfl hw kk
theorem gf10_cells {g : GG} {cc : ByteArray} {nL : Nat} {ret : Option FieldType} {R : Room} {own : String} {Qc : Array Value → State → Outcome → State → Prop} {pc pc' idx o : Nat} {lv : List (Option Value)} {st : List Value} {I : Nat → Nat → Int32} {B : (Nat → Nat → Int32) × (Nat → Nat)} (hd : dn cc pc (.getfield idx) 3 pc') (hw : Cond.fieldLink own idx "RuledTablesModel" "cells" "[I" ∈ wtb) (hk : kd o = 10) (kk : AW g cc nL ret R own Qc pc' lv (.ref (ad g (o + 12)) :: st) (I, B)) : AW g cc nL ret R own Qc pc lv (.ref (ad g o) :: st) (I, B) := aw_get (ci := 10) (k := 16) hd inX10 rfl (kd_lt hk (by decide)) (cl_k hk) (by decide) rfl rfl hw kk
theorem gf10_wordTable {g : GG} {cc : ByteArray} {nL : Nat} {ret : Option FieldType} {R : Room} {own : String} {Qc : Array Value → State → Outcome → State → Prop} {pc pc' idx o : Nat} {lv : List (Option Value)} {st : List Value} {I : Nat → Nat → Int32} {B : (Nat → Nat → Int32) × (Nat → Nat)} (hd : dn cc pc (.getfield idx) 3 pc') (hw : Cond.fieldLink own idx "RuledTablesModel" "wordTable" "[I" ∈ wtb) (hk : kd o = 10) (kk : AW g cc nL ret R own Qc pc' lv (.ref (ad g (o + 13)) :: st) (I, B)) : AW g cc nL ret R own Qc pc lv (.ref (ad g o) :: st) (I, B) := aw_get (ci := 10) (k := 17) hd inX10 rfl (kd_lt hk (by decide)) (cl_k hk) (by decide) rfl rfl hw kk
theorem gf10_wordCell {g : GG} {cc : ByteArray} {nL : Nat} {ret : Option FieldType} {R : Room} {own : String} {Qc : Array Value → State → Outcome → State → Prop} {pc pc' idx o : Nat} {lv : List (Option Value)} {st : List Value} {I : Nat → Nat → Int32} {B : (Nat → Nat → Int32) × (Nat → Nat)} (hd : dn cc pc (.getfield idx) 3 pc') (hw : Cond.fieldLink own idx "RuledTablesModel" "wordCell" "[I" ∈ wtb) (hk : kd o = 10) (kk : AW g cc nL ret R own Qc pc' lv (.ref (ad g (o + 14)) :: st) (I, B)) : AW g cc nL ret R own Qc pc lv (.ref (ad g o) :: st) (I, B) := aw_get (ci := 10) (k := 18) hd inX10 rfl (kd_lt hk (by decide)) (cl_k hk) (by decide) rfl rfl hw kk
theorem gf10_missedMany {g : GG} {cc : ByteArray} {nL : Nat} {ret : Option FieldType} {R : Room} {own : String} {Qc : Array Value → State → Outcome → State → Prop} {pc pc' idx o : Nat} {lv : List (Option Value)} {st : List Value} {I : Nat → Nat → Int32} {B : (Nat → Nat → Int32) × (Nat → Nat)} (hd : dn cc pc (.getfield idx) 3 pc') (hw : Cond.fieldLink own idx "RuledTablesModel" "missedMany" "I" ∈ wtb) (hk : kd o = 10) (kk : AW g cc nL ret R own Qc pc' lv (.int (I 339 o) :: st) (I, B)) : AW g cc nL ret R own Qc pc lv (.ref (ad g o) :: st) (I, B) := aw_get (ci := 10) (k := 19) hd inX10 rfl (kd_lt hk (by decide)) (cl_k hk) (by decide) rfl rfl hw kk
theorem pf10_missedMany {g : GG} {cc : ByteArray} {nL : Nat} {ret : Option FieldType} {R : Room} {own : String} {Qc : Array Value → State → Outcome → State → Prop} {pc pc' idx o : Nat} {lv : List (Option Value)} {st : List Value} {I : Nat → Nat → Int32} {B : (Nat → Nat → Int32) × (Nat → Nat)} {x : Int32} (hd : dn cc pc (.putfield idx) 3 pc') (hw : Cond.fieldLink own idx "RuledTablesModel" "missedMany" "I" ∈ wtb) (hk : kd o = 10) (kk : AW g cc nL ret R own Qc pc' lv st (uI I 339 o x, B)) : AW g cc nL ret R own Qc pc lv (.int x :: .ref (ad g o) :: st) (I, B) := aw_put (ci := 10) (k := 19) (ty := .int) (f := 339) hd inX10 tyX10_ok nmX10 rfl (kd_lt hk (by decide)) (cl_k hk) (by decide) rfl rfl rfl rfl rfl (Nat.le_of_ble_eq_true rfl) hw (by rw [cl_k hk]; simp only [cl0, uI_s, uI_f (show 321 ≠ 339 by decide), uI_f (show 323 ≠ 339 by decide), uI_f (show 325 ≠ 339 by decide), uI_f (show 328 ≠ 339 by decide), uI_f (show 330 ≠ 339 by decide), uI_f (show 340 ≠ 339 by decide), uI_f (show 341 ≠ 339 by decide), uI_f (show 342 ≠ 339 by decide), uI_f (show 346 ≠ 339 by decide), uI_f (show 347 ≠ 339 by decide)]; rfl) kk
theorem gf10_missedCell {g : GG} {cc : ByteArray} {nL : Nat} {ret : Option FieldType} {R : Room} {own : String} {Qc : Array Value → State → Outcome → State → Prop} {pc pc' idx o : Nat} {lv : List (Option Value)} {st : List Value} {I : Nat → Nat → Int32} {B : (Nat → Nat → Int32) × (Nat → Nat)} (hd : dn cc pc (.getfield idx) 3 pc') (hw : Cond.fieldLink own idx "RuledTablesModel" "missedCell" "I" ∈ wtb) (hk : kd o = 10) (kk : AW g cc nL ret R own Qc pc' lv (.int (I 340 o) :: st) (I, B)) : AW g cc nL ret R own Qc pc lv (.ref (ad g o) :: st) (I, B) := aw_get (ci := 10) (k := 20) hd inX10 rfl (kd_lt hk (by decide)) (cl_k hk) (by decide) rfl rfl hw kk
theorem pf10_missedCell {g : GG} {cc : ByteArray} {nL : Nat} {ret : Option FieldType} {R : Room} {own : String} {Qc : Array Value → State → Outcome → State → Prop} {pc pc' idx o : Nat} {lv : List (Option Value)} {st : List Value} {I : Nat → Nat → Int32} {B : (Nat → Nat → Int32) × (Nat → Nat)} {x : Int32} (hd : dn cc pc (.putfield idx) 3 pc') (hw : Cond.fieldLink own idx "RuledTablesModel" "missedCell" "I" ∈ wtb) (hk : kd o = 10) (kk : AW g cc nL ret R own Qc pc' lv st (uI I 340 o x, B)) : AW g cc nL ret R own Qc pc lv (.int x :: .ref (ad g o) :: st) (I, B) := aw_put (ci := 10) (k := 20) (ty := .int) (f := 340) hd inX10 tyX10_ok nmX10 rfl (kd_lt hk (by decide)) (cl_k hk) (by decide) rfl rfl rfl rfl rfl (Nat.le_of_ble_eq_true rfl) hw (by rw [cl_k hk]; simp only [cl0, uI_s, uI_f (show 321 ≠ 340 by decide), uI_f (show 323 ≠ 340 by decide), uI_f (show 325 ≠ 340 by decide), uI_f (show 328 ≠ 340 by decide), uI_f (show 330 ≠ 340 by decide), uI_f (show 339 ≠ 340 by decide), uI_f (show 341 ≠ 340 by decide), uI_f (show 342 ≠ 340 by decide), uI_f (show 346 ≠ 340 by decide), uI_f (show 347 ≠ 340 by decide)]; rfl) kk
theorem gf10_missedWay {g : GG} {cc : ByteArray} {nL : Nat} {ret : Option FieldType} {R : Room} {own : String} {Qc : Array Value → State → Outcome → State → Prop} {pc pc' idx o : Nat} {lv : List (Option Value)} {st : List Value} {I : Nat → Nat → Int32} {B : (Nat → Nat → Int32) × (Nat → Nat)} (hd : dn cc pc (.getfield idx) 3 pc') (hw : Cond.fieldLink own idx "RuledTablesModel" "missedWay" "I" ∈ wtb) (hk : kd o = 10) (kk : AW g cc nL ret R own Qc pc' lv (.int (I 341 o) :: st) (I, B)) : AW g cc nL ret R own Qc pc lv (.ref (ad g o) :: st) (I, B) := aw_get (ci := 10) (k := 21) hd inX10 rfl (kd_lt hk (by decide)) (cl_k hk) (by decide) rfl rfl hw kk
theorem pf10_missedWay {g : GG} {cc : ByteArray} {nL : Nat} {ret : Option FieldType} {R : Room} {own : String} {Qc : Array Value → State → Outcome → State → Prop} {pc pc' idx o : Nat} {lv : List (Option Value)} {st : List Value} {I : Nat → Nat → Int32} {B : (Nat → Nat → Int32) × (Nat → Nat)} {x : Int32} (hd : dn cc pc (.putfield idx) 3 pc') (hw : Cond.fieldLink own idx "RuledTablesModel" "missedWay" "I" ∈ wtb) (hk : kd o = 10) (kk : AW g cc nL ret R own Qc pc' lv st (uI I 341 o x, B)) : AW g cc nL ret R own Qc pc lv (.int x :: .ref (ad g o) :: st) (I, B) := aw_put (ci := 10) (k := 21) (ty := .int) (f := 341) hd inX10 tyX10_ok nmX10 rfl (kd_lt hk (by decide)) (cl_k hk) (by decide) rfl rfl rfl rfl rfl (Nat.le_of_ble_eq_true rfl) hw (by rw [cl_k hk]; simp only [cl0, uI_s, uI_f (show 321 ≠ 341 by decide), uI_f (show 323 ≠ 341 by decide), uI_f (show 325 ≠ 341 by decide), uI_f (show 328 ≠ 341 by decide), uI_f (show 330 ≠ 341 by decide), uI_f (show 339 ≠ 341 by decide), uI_f (show 340 ≠ 341 by decide), uI_f (show 342 ≠ 341 by decide), uI_f (show 346 ≠ 341 by decide), uI_f (show 347 ≠ 341 by decide)]; rfl) kk
theorem gf10_missedLine {g : GG} {cc : ByteArray} {nL : Nat} {ret : Option FieldType} {R : Room} {own : String} {Qc : Array Value → State → Outcome → State → Prop} {pc pc' idx o : Nat} {lv : List (Option Value)} {st : List Value} {I : Nat → Nat → Int32} {B : (Nat → Nat → Int32) × (Nat → Nat)} (hd : dn cc pc (.getfield idx) 3 pc') (hw : Cond.fieldLink own idx "RuledTablesModel" "missedLine" "I" ∈ wtb) (hk : kd o = 10) (kk : AW g cc nL ret R own Qc pc' lv (.int (I 342 o) :: st) (I, B)) : AW g cc nL ret R own Qc pc lv (.ref (ad g o) :: st) (I, B) := aw_get (ci := 10) (k := 22) hd inX10 rfl (kd_lt hk (by decide)) (cl_k hk) (by decide) rfl rfl hw kk
theorem pf10_missedLine {g : GG} {cc : ByteArray} {nL : Nat} {ret : Option FieldType} {R : Room} {own : String} {Qc : Array Value → State → Outcome → State → Prop} {pc pc' idx o : Nat} {lv : List (Option Value)} {st : List Value} {I : Nat → Nat → Int32} {B : (Nat → Nat → Int32) × (Nat → Nat)} {x : Int32} (hd : dn cc pc (.putfield idx) 3 pc') (hw : Cond.fieldLink own idx "RuledTablesModel" "missedLine" "I" ∈ wtb) (hk : kd o = 10) (kk : AW g cc nL ret R own Qc pc' lv st (uI I 342 o x, B)) : AW g cc nL ret R own Qc pc lv (.int x :: .ref (ad g o) :: st) (I, B) := aw_put (ci := 10) (k := 22) (ty := .int) (f := 342) hd inX10 tyX10_ok nmX10 rfl (kd_lt hk (by decide)) (cl_k hk) (by decide) rfl rfl rfl rfl rfl (Nat.le_of_ble_eq_true rfl) hw (by rw [cl_k hk]; simp only [cl0, uI_s, uI_f (show 321 ≠ 342 by decide), uI_f (show 323 ≠ 342 by decide), uI_f (show 325 ≠ 342 by decide), uI_f (show 328 ≠ 342 by decide), uI_f (show 330 ≠ 342 by decide), uI_f (show 339 ≠ 342 by decide), uI_f (show 340 ≠ 342 by decide), uI_f (show 341 ≠ 342 by decide), uI_f (show 346 ≠ 342 by decide), uI_f (show 347 ≠ 342 by decide)]; rfl) kk
theorem gf10_coming {g : GG} {cc : ByteArray} {nL : Nat} {ret : Option FieldType} {R : Room} {own : String} {Qc : Array Value → State → Outcome → State → Prop} {pc pc' idx o : Nat} {lv : List (Option Value)} {st : List Value} {I : Nat → Nat → Int32} {B : (Nat → Nat → Int32) × (Nat → Nat)} (hd : dn cc pc (.getfield idx) 3 pc') (hw : Cond.fieldLink own idx "RuledTablesModel" "coming" "[I" ∈ wtb) (hk : kd o = 10) (kk : AW g cc nL ret R own Qc pc' lv (.ref (ad g (o + 15)) :: st) (I, B)) : AW g cc nL ret R own Qc pc lv (.ref (ad g o) :: st) (I, B) := aw_get (ci := 10) (k := 23) hd inX10 rfl (kd_lt hk (by decide)) (cl_k hk) (by decide) rfl rfl hw kk
theorem gf10_kept {g : GG} {cc : ByteArray} {nL : Nat} {ret : Option FieldType} {R : Room} {own : String} {Qc : Array Value → State → Outcome → State → Prop} {pc pc' idx o : Nat} {lv : List (Option Value)} {st : List Value} {I : Nat → Nat → Int32} {B : (Nat → Nat → Int32) × (Nat → Nat)} (hd : dn cc pc (.getfield idx) 3 pc') (hw : Cond.fieldLink own idx "RuledTablesModel" "kept" "[I" ∈ wtb) (hk : kd o = 10) (kk : AW g cc nL ret R own Qc pc' lv (.ref (ad g (o + 16)) :: st) (I, B)) : AW g cc nL ret R own Qc pc lv (.ref (ad g o) :: st) (I, B) := aw_get (ci := 10) (k := 24) hd inX10 rfl (kd_lt hk (by decide)) (cl_k hk) (by decide) rfl rfl hw kk
theorem gf10_isKept {g : GG} {cc : ByteArray} {nL : Nat} {ret : Option FieldType} {R : Room} {own : String} {Qc : Array Value → State → Outcome → State → Prop} {pc pc' idx o : Nat} {lv : List (Option Value)} {st : List Value} {I : Nat → Nat → Int32} {B : (Nat → Nat → Int32) × (Nat → Nat)} (hd : dn cc pc (.getfield idx) 3 pc') (hw : Cond.fieldLink own idx "RuledTablesModel" "isKept" "[Z" ∈ wtb) (hk : kd o = 10) (kk : AW g cc nL ret R own Qc pc' lv (.ref (ad g (o + 17)) :: st) (I, B)) : AW g cc nL ret R own Qc pc lv (.ref (ad g o) :: st) (I, B) := aw_get (ci := 10) (k := 25) hd inX10 rfl (kd_lt hk (by decide)) (cl_k hk) (by decide) rfl rfl hw kk
theorem gf10_keptAt {g : GG} {cc : ByteArray} {nL : Nat} {ret : Option FieldType} {R : Room} {own : String} {Qc : Array Value → State → Outcome → State → Prop} {pc pc' idx o : Nat} {lv : List (Option Value)} {st : List Value} {I : Nat → Nat → Int32} {B : (Nat → Nat → Int32) × (Nat → Nat)} (hd : dn cc pc (.getfield idx) 3 pc') (hw : Cond.fieldLink own idx "RuledTablesModel" "keptAt" "I" ∈ wtb) (hk : kd o = 10) (kk : AW g cc nL ret R own Qc pc' lv (.int (I 346 o) :: st) (I, B)) : AW g cc nL ret R own Qc pc lv (.ref (ad g o) :: st) (I, B) := aw_get (ci := 10) (k := 26) hd inX10 rfl (kd_lt hk (by decide)) (cl_k hk) (by decide) rfl rfl hw kk
theorem pf10_keptAt {g : GG} {cc : ByteArray} {nL : Nat} {ret : Option FieldType} {R : Room} {own : String} {Qc : Array Value → State → Outcome → State → Prop} {pc pc' idx o : Nat} {lv : List (Option Value)} {st : List Value} {I : Nat → Nat → Int32} {B : (Nat → Nat → Int32) × (Nat → Nat)} {x : Int32} (hd : dn cc pc (.putfield idx) 3 pc') (hw : Cond.fieldLink own idx "RuledTablesModel" "keptAt" "I" ∈ wtb) (hk : kd o = 10) (kk : AW g cc nL ret R own Qc pc' lv st (uI I 346 o x, B)) : AW g cc nL ret R own Qc pc lv (.int x :: .ref (ad g o) :: st) (I, B) := aw_put (ci := 10) (k := 26) (ty := .int) (f := 346) hd inX10 tyX10_ok nmX10 rfl (kd_lt hk (by decide)) (cl_k hk) (by decide) rfl rfl rfl rfl rfl (Nat.le_of_ble_eq_true rfl) hw (by rw [cl_k hk]; simp only [cl0, uI_s, uI_f (show 321 ≠ 346 by decide), uI_f (show 323 ≠ 346 by decide), uI_f (show 325 ≠ 346 by decide), uI_f (show 328 ≠ 346 by decide), uI_f (show 330 ≠ 346 by decide), uI_f (show 339 ≠ 346 by decide), uI_f (show 340 ≠ 346 by decide), uI_f (show 341 ≠ 346 by decide), uI_f (show 342 ≠ 346 by decide), uI_f (show 347 ≠ 346 by decide)]; rfl) kk
theorem gf10_isWriting {g : GG} {cc : ByteArray} {nL : Nat} {ret : Option FieldType} {R : Room} {own : String} {Qc : Array Value → State → Outcome → State → Prop} {pc pc' idx o : Nat} {lv : List (Option Value)} {st : List Value} {I : Nat → Nat → Int32} {B : (Nat → Nat → Int32) × (Nat → Nat)} (hd : dn cc pc (.getfield idx) 3 pc') (hw : Cond.fieldLink own idx "RuledTablesModel" "isWriting" "Z" ∈ wtb) (hk : kd o = 10) (kk : AW g cc nL ret R own Qc pc' lv (.int (I 347 o) :: st) (I, B)) : AW g cc nL ret R own Qc pc lv (.ref (ad g o) :: st) (I, B) := aw_get (ci := 10) (k := 27) hd inX10 rfl (kd_lt hk (by decide)) (cl_k hk) (by decide) rfl rfl hw kk
theorem pf10_isWriting {g : GG} {cc : ByteArray} {nL : Nat} {ret : Option FieldType} {R : Room} {own : String} {Qc : Array Value → State → Outcome → State → Prop} {pc pc' idx o : Nat} {lv : List (Option Value)} {st : List Value} {I : Nat → Nat → Int32} {B : (Nat → Nat → Int32) × (Nat → Nat)} {x : Int32} (hd : dn cc pc (.putfield idx) 3 pc') (hw : Cond.fieldLink own idx "RuledTablesModel" "isWriting" "Z" ∈ wtb) (hk : kd o = 10) (hx : x = 0 ∨ x = 1) (kk : AW g cc nL ret R own Qc pc' lv st (uI I 347 o x, B)) : AW g cc nL ret R own Qc pc lv (.int x :: .ref (ad g o) :: st) (I, B) := aw_put (ci := 10) (k := 27) (ty := .boolean) (f := 347) hd inX10 tyX10_ok nmX10 rfl (kd_lt hk (by decide)) (cl_k hk) (by decide) rfl rfl rfl (by rcases hx with rfl | rfl <;> rfl) (by rcases hx with rfl | rfl <;> rfl) (Nat.le_of_ble_eq_true rfl) hw (by rw [cl_k hk]; simp only [cl0, uI_s, uI_f (show 321 ≠ 347 by decide), uI_f (show 323 ≠ 347 by decide), uI_f (show 325 ≠ 347 by decide), uI_f (show 328 ≠ 347 by decide), uI_f (show 330 ≠ 347 by decide), uI_f (show 339 ≠ 347 by decide), uI_f (show 340 ≠ 347 by decide), uI_f (show 341 ≠ 347 by decide), uI_f (show 342 ≠ 347 by decide), uI_f (show 346 ≠ 347 by decide)]; rfl) kk
end
section
theorem kM_max_s : Cond.static Lib.Math.max.name ∈ wtb := wt (List.mem_of_getElem? (i := 106) (by decide +kernel)) rfl
theorem kM_max_c : Cond.code Lib.Math.max.name Lib.Math.max.code 2 (some .int) ∈ wtb := wt (List.mem_of_getElem? (i := 107) (by decide +kernel)) rfl
theorem kM_min_s : Cond.static Lib.Math.min.name ∈ wtb := wt (List.mem_of_getElem? (i := 441) (by decide +kernel)) rfl
theorem kM_min_c : Cond.code Lib.Math.min.name Lib.Math.min.code 2 (some .int) ∈ wtb := wt (List.mem_of_getElem? (i := 442) (by decide +kernel)) rfl
theorem kM_abs_s : Cond.static Lib.Math.abs.name ∈ wtb := wt (List.mem_of_getElem? (i := 437) (by decide +kernel)) rfl
theorem kM_abs_c : Cond.code Lib.Math.abs.name Lib.Math.abs.code 1 (some .int) ∈ wtb := wt (List.mem_of_getElem? (i := 438) (by decide +kernel)) rfl
theorem kM_i : Cond.initialized "java/lang/Math" ∈ wtb := wt (List.mem_of_getElem? (i := 76) (by decide +kernel)) rfl
theorem km0_11 : Cond.methodLink RX0 11 Lib.Math.max.name ∈ wtb := wt (List.mem_of_getElem? (i := 157) (by decide +kernel)) rfl
theorem km1_7 : Cond.methodLink RX1 7 Lib.Math.max.name ∈ wtb := wt (List.mem_of_getElem? (i := 162) (by decide +kernel)) rfl
theorem km1_23 : Cond.methodLink RX1 23 Lib.Math.min.name ∈ wtb := wt (List.mem_of_getElem? (i := 451) (by decide +kernel)) rfl
theorem km2_9 : Cond.methodLink RX2 9 Lib.Math.max.name ∈ wtb := wt (List.mem_of_getElem? (i := 246) (by decide +kernel)) rfl
theorem km5_9 : Cond.methodLink RX5 9 Lib.Math.max.name ∈ wtb := wt (List.mem_of_getElem? (i := 105) (by decide +kernel)) rfl
theorem km6_45 : Cond.methodLink RX6 45 Lib.Math.min.name ∈ wtb := wt (List.mem_of_getElem? (i := 466) (by decide +kernel)) rfl
theorem km6_50 : Cond.methodLink RX6 50 Lib.Math.max.name ∈ wtb := wt (List.mem_of_getElem? (i := 467) (by decide +kernel)) rfl
theorem km7_71 : Cond.methodLink RX7 71 Lib.Math.abs.name ∈ wtb := wt (List.mem_of_getElem? (i := 436) (by decide +kernel)) rfl
theorem km7_77 : Cond.methodLink RX7 77 Lib.Math.max.name ∈ wtb := wt (List.mem_of_getElem? (i := 439) (by decide +kernel)) rfl
theorem km7_80 : Cond.methodLink RX7 80 Lib.Math.min.name ∈ wtb := wt (List.mem_of_getElem? (i := 440) (by decide +kernel)) rfl
theorem km8_9 : Cond.methodLink RX8 9 Lib.Math.max.name ∈ wtb := wt (List.mem_of_getElem? (i := 239) (by decide +kernel)) rfl
theorem kl10_62 : Cond.constantLong RX10 62 (2) ∈ wtb := wt (List.mem_of_getElem? (i := 848) (by decide +kernel)) rfl
theorem kl10_68 : Cond.constantLong RX10 68 (3) ∈ wtb := wt (List.mem_of_getElem? (i := 852) (by decide +kernel)) rfl
theorem kl10_70 : Cond.constantLong RX10 70 (9) ∈ wtb := wt (List.mem_of_getElem? (i := 853) (by decide +kernel)) rfl
theorem kl10_72 : Cond.constantLong RX10 72 (5) ∈ wtb := wt (List.mem_of_getElem? (i := 854) (by decide +kernel)) rfl
theorem kl10_78 : Cond.constantLong RX10 78 (99) ∈ wtb := wt (List.mem_of_getElem? (i := 862) (by decide +kernel)) rfl
theorem kl10_201 : Cond.constantLong RX10 201 (4) ∈ wtb := wt (List.mem_of_getElem? (i := 883) (by decide +kernel)) rfl
theorem kl10_206 : Cond.constantLong RX10 206 (7) ∈ wtb := wt (List.mem_of_getElem? (i := 1010) (by decide +kernel)) rfl
theorem kl10_253 : Cond.constantLong RX10 253 (6) ∈ wtb := wt (List.mem_of_getElem? (i := 1091) (by decide +kernel)) rfl
section AWc
variable {g : GG} {cc : ByteArray} {nL : Nat} {ret : Option FieldType} {R : Room} {own : String} {Qc : Array Value → State → Outcome → State → Prop} {pc pc' tgt : Nat} {lv : List (Option Value)} {st : List Value} {σ : SG}
theorem aw_max {x y : Int32} {idx : Nat} (hd : dn cc pc (.invokestatic idx) 3 pc') (hw : Cond.methodLink own idx Lib.Math.max.name ∈ wtb) (hR : 1 ≤ R.frames ∧ (st.map fun v => v.category).sum + 13 ≤ R.locals) (k : AW g cc nL ret R own Qc pc' lv (.int (if x < y then y else x) :: st) σ) : AW g cc nL ret R own Qc pc lv (.int y :: .int x :: st) σ := by
  obtain ⟨hd, rfl⟩ := hd
  intro p e s m args below meth c H locs ls F hP hS hl
  exact va_mmax F.1 F.2.1 (F.2.2.2.1.trans hl.1.symm) F.2.2.2.2.1 (F.2.2.2.2.2.1 _ hw) (F.2.2.2.2.2.1 _ kM_max_s) (F.2.2.2.2.2.1 _ kM_i) (F.2.2.2.2.2.1 _ kM_max_c) hR.1 hR.2 (Nat.zero_le _) (Nat.zero_le _) hd (k p e s m args below meth c H locs ls F hP hS hl)
theorem aw_min {x y : Int32} {idx : Nat} (hd : dn cc pc (.invokestatic idx) 3 pc') (hw : Cond.methodLink own idx Lib.Math.min.name ∈ wtb) (hR : 1 ≤ R.frames ∧ (st.map fun v => v.category).sum + 13 ≤ R.locals) (k : AW g cc nL ret R own Qc pc' lv (.int (if y < x then y else x) :: st) σ) : AW g cc nL ret R own Qc pc lv (.int y :: .int x :: st) σ := by
  obtain ⟨hd, rfl⟩ := hd
  intro p e s m args below meth c H locs ls F hP hS hl
  exact va_mmin F.1 F.2.1 (F.2.2.2.1.trans hl.1.symm) F.2.2.2.2.1 (F.2.2.2.2.2.1 _ hw) (F.2.2.2.2.2.1 _ kM_min_s) (F.2.2.2.2.2.1 _ kM_i) (F.2.2.2.2.2.1 _ kM_min_c) hR.1 hR.2 (Nat.zero_le _) (Nat.zero_le _) hd (k p e s m args below meth c H locs ls F hP hS hl)
theorem aw_abs {x : Int32} {idx : Nat} (hd : dn cc pc (.invokestatic idx) 3 pc') (hw : Cond.methodLink own idx Lib.Math.abs.name ∈ wtb) (hR : 1 ≤ R.frames ∧ (st.map fun v => v.category).sum + 13 ≤ R.locals) (k : AW g cc nL ret R own Qc pc' lv (.int (if 0 ≤ x then x else 0 - x) :: st) σ) : AW g cc nL ret R own Qc pc lv (.int x :: st) σ := by
  obtain ⟨hd, rfl⟩ := hd
  intro p e s m args below meth c H locs ls F hP hS hl
  exact va_mabs F.1 F.2.1 (F.2.2.2.1.trans hl.1.symm) F.2.2.2.2.1 (F.2.2.2.2.2.1 _ hw) (F.2.2.2.2.2.1 _ kM_abs_s) (F.2.2.2.2.2.1 _ kM_i) (F.2.2.2.2.2.1 _ kM_abs_c) hR.1 hR.2 (Nat.zero_le _) (Nat.zero_le _) hd (k p e s m args below meth c H locs ls F hP hS hl)
theorem lv_args_mem : ∀ (av : List Value) (k i : Nat) (v : Value), (∀ u ∈ av, u.category = 1) → av[i]? = some v → (k + i, v) ∈ lv_args k av
  | [], _, _, _, _, h => by simp at h
  | u :: av, k, 0, v, hc, h => by
    simp at h
    subst h
    exact List.mem_cons_self
  | u :: av, k, i + 1, v, hc, h => by
    have h1 := hc u List.mem_cons_self
    have h2 := lv_args_mem av (k + 1) i v (fun x hx => hc x (List.mem_cons_of_mem _ hx)) (by simpa using h)
    unfold lv_args
    rw [if_neg (by rw [h1]; decide)]
    refine List.mem_cons_of_mem _ ?_
    rw [show k + (i + 1) = k + 1 + i by omega]
    exact h2
theorem lv_ok (av : List Value) (k i : Nat) (v : Value) (h : (av.map some ++ List.replicate k none)[i]? = some (some v)) : av[i]? = some v := by
  rw [List.getElem?_append] at h
  split at h
  · rw [List.getElem?_map] at h
    cases q : av[i]? with
    | none => rw [q] at h; cases h
    | some w => rw [q] at h; cases h; rfl
  · rw [List.getElem?_replicate] at h
    split at h <;> cases h
theorem ct_of {y : MethodName} {rm : Room} {av : List Value} (ho : y.cls = own) (hy : plainName y.cls = true) (hav : (lg_sl av).length ≤ nL) (hc : ∀ u ∈ av, u.category = 1) (hlv : ∀ (i : Nat) (v : Value), lv[i]? = some (some v) → av[i]? = some v) (h : AW g cc nL ret rm own Qc 0 lv [] σ) : Met g.1 y (cw_ y cc nL ret) rm (va_Pc av (wd g σ)) Qc 0 0 (reg g) := by
  refine Met.ofW (cc := cc) (maxL := nL) (ret := ret) hy rfl ?_
  intro p e s m args below meth c s₁ B hml hv
  obtain ⟨rfl, hP, hK, hst⟩ := hv
  have hts : ∀ w ∈ wtb, w.before av.toArray s = true := fun w hw => atoms_spec (ws := cw_ y cc nL ret) B.pre w (List.mem_cons_of_mem _ hw)
  have hown : s.vm.findClass y.cls = some m.cls := findClass_of_methodNamed B.named
  have hl := lv_entry av (n := nL) hav
  rw [lg_entry_eq]
  generalize (lg_sl av ++ List.replicate (nL - (lg_sl av).length) Slot.unset).toArray = ls at hl ⊢
  refine h p e s m av.toArray below meth c s.heap [] ls ⟨B.exec, B.bytes, B.returns, hml, ho ▸ hown, hts, B.notSynchronized, hK, hst⟩ hP va_S.rf ⟨hl.1, hl.2.1, fun i v hv => ?_⟩
  have h1 := hlv i v hv
  have h2 := hl.2.2 _ (lv_args_mem av 0 i v hc h1)
  rw [Nat.zero_add] at h2
  exact ⟨h2, hc v (List.mem_of_getElem? h1)⟩
theorem Fx.wd {p : Program} {s : State} {m : MethodId} {args : Array Value} {meth : Method} {c : Code} {H : Heap} {locs : List Loc} (F : Fx g p s m args meth c cc nL ret own) (hP : va_P (gD g) vwCl (wsOf g σ) H) (hS : va_S (reg g) s.heap H locs) {U : State} (hU : U.heap = H) (hW : s.vm.Alike U.vm) : _root_.Jvm.Pilot.CRuledTablesLaw_law_r1620_724e84.wd g σ U := ⟨by rw [hU]; exact hP, va_K.moved hW F.2.2.2.2.2.2.2.1, by rw [hU]; exact (F.2.2.2.2.2.2.2.2.moved hW).kept hS.2.1⟩
theorem aw_ireti {post : Int32 → SG → Prop} {x : Int32} (hd : dn cc pc .ireturn 1 pc') (h : post x σ) : AW g cc nL (some .int) R own (va_Qi post (wd g) (reg g)) pc lv [.int x] σ := by
  obtain ⟨hd, -⟩ := hd
  intro p e s m args below meth c H locs ls F hP hS hl
  exact W.iret F.1 F.2.1 F.2.2.1 (fun t ht hW => ⟨⟨x, σ, rfl, h, F.wd hP hS ht hW.alike⟩, hS.F ht⟩) hS.2.2 hd F.2.2.2.2.2.2.1
theorem aw_iretz {post : Int32 → SG → Prop} {x : Int32} (hd : dn cc pc .ireturn 1 pc') (hx : x = 0 ∨ x = 1) (h : post x σ) : AW g cc nL (some .boolean) R own (va_Qi post (wd g) (reg g)) pc lv [.int x] σ := by
  obtain ⟨hd, -⟩ := hd
  intro p e s m args below meth c H locs ls F hP hS hl
  exact W.zret F.1 F.2.1 F.2.2.1 (by rcases hx with rfl | rfl <;> rfl) (fun t ht hW => ⟨⟨x, σ, rfl, h, F.wd hP hS ht hW.alike⟩, hS.F ht⟩) hS.2.2 hd F.2.2.2.2.2.2.1
theorem aw_ret {post : SG → Prop} (hd : dn cc pc .return_ 1 pc') (h : post σ) : AW g cc nL none R own (va_Qv post (wd g) (reg g)) pc lv [] σ := by
  obtain ⟨hd, -⟩ := hd
  intro p e s m args below meth c H locs ls F hP hS hl
  exact W.vret F.1 F.2.1 F.2.2.1 (fun t ht hW => ⟨⟨σ, rfl, h, F.wd hP hS ht hW.alike⟩, hS.F ht⟩) hS.2.2 hd F.2.2.2.2.2.2.1
theorem aw_aret {post : SG → Prop} {o : Nat} {C : String} (hd : dn cc pc .areturn 1 pc') (h : post σ) : AW g cc nL (some (.object C)) R own (va_Qr post (fun u a t => a = ad g o ∧ wd g u t) (reg g)) pc lv [.ref (ad g o)] σ := by
  obtain ⟨hd, -⟩ := hd
  intro p e s m args below meth c H locs ls F hP hS hl
  exact W.aret F.1 F.2.1 F.2.2.1 (Or.inl ⟨_, rfl⟩) (Or.inr ⟨_, rfl⟩) (fun t ht hW => ⟨⟨σ, ad g o, rfl, h, rfl, F.wd hP hS ht hW.alike⟩, hS.F ht⟩) hS.2.2 hd F.2.2.2.2.2.2.1
variable {y : MethodName} {cy : ByteArray} {ny n idx o : Nat} {ry : Option FieldType} {rm : Room} {As rest : List Value}
/-- the words and the room of a call -/
theorem cV {s : State} {args : Array Value} (hts : ∀ w ∈ wtb, w.before args s = true) (hl : Cond.methodLink own idx y ∈ wtb) (ok : okV y cy ny ry n) (hR : rm.frames + 1 ≤ R.frames ∧ 8 + (ny + 11) + rm.locals ≤ R.locals) (hc : rm.cells = 0) (hs : rm.slots = 0) : CallW R s args own y.cls idx y cy ny ry (cw_ y cy ny ry) rm 0 0 n := by
  refine cwV n hts (wtb_in fun w hw => ?_) rfl hc hs ⟨rfl, ok.2.2.2.2⟩ hR
  unfold wsV at hw
  rcases List.mem_append.mp hw with h | h
  · simp only [List.mem_cons, List.not_mem_nil, or_false] at h
    rcases h with rfl | rfl | rfl | rfl
    · exact hl
    · exact ok.1
    · exact ok.2.1
    · exact ok.2.2.1
  · rcases List.mem_cons.mp h with rfl | h
    · exact ok.2.2.2.1
    · exact h
theorem cS {s : State} {args : Array Value} (hts : ∀ w ∈ wtb, w.before args s = true) (hl : Cond.methodLink own idx y ∈ wtb) (ok : okS y cy ny ry n) (hR : rm.frames + 1 ≤ R.frames ∧ 8 + (ny + 11) + rm.locals ≤ R.locals) (hc : rm.cells = 0) (hs : rm.slots = 0) : CallB R s args own idx y cy ny ry (cw_ y cy ny ry) rm 0 0 n ∧ (Cond.static y).before args s = true := by
  refine va_cwS n hts (wtb_in fun w hw => ?_) rfl hc hs ok.2.2.2 hR
  unfold va_wsS at hw
  rcases List.mem_append.mp hw with h | h
  · simp only [List.mem_cons, List.not_mem_nil, or_false] at h
    rcases h with rfl | rfl | rfl
    · exact hl
    · exact ok.1
    · exact ok.2.1
  · rcases List.mem_cons.mp h with rfl | h
    · exact ok.2.2.1
    · exact h
/-- the receiver is an object of its class -/
theorem recv {ci : Nat} {q : vw_C} {fs : List Value} {s : State} {H : Heap} (hK : va_K (gD g) vwCl (tys_ g) s) (hP : va_P (gD g) vwCl (wsOf g σ) H) (hc : vwCl[ci]? = some q) (hk : kd o = ci) (hci : ci < 11) : ∃ cell : Cell, H[ad g o]? = some cell ∧ cell.vm.isStatics = false ∧ s.vm.findClass q.1 = some cell.cls := by
  have : ∃ fs, cl_ g σ o = .inr (ci, fs) := by
    rw [cl_k hk]
    match ci, hci with
    | 0, _ => exact ⟨_, rfl⟩
    | 1, _ => exact ⟨_, rfl⟩
    | 2, _ => exact ⟨_, rfl⟩
    | 3, _ => exact ⟨_, rfl⟩
    | 4, _ => exact ⟨_, rfl⟩
    | 5, _ => exact ⟨_, rfl⟩
    | 6, _ => exact ⟨_, rfl⟩
    | 7, _ => exact ⟨_, rfl⟩
    | 8, _ => exact ⟨_, rfl⟩
    | 9, _ => exact ⟨_, rfl⟩
    | 10, _ => exact ⟨_, rfl⟩
  obtain ⟨fs, he⟩ := this
  exact va_recv hK hP hc (q0 := o) (by rw [ws_at g σ (kd_lt hk (by omega)), he])
theorem aw_calli {ci : Nat} {q : vw_C} {post : Int32 → SG → Prop} {st : List Value} (hd : dn cc pc (.invokevirtual idx) 3 pc') (hl : Cond.methodLink own idx y ∈ wtb) (ok : okV y cy ny ry n) (hc : vwCl[ci]? = some q) (hq : q.1 = y.cls) (hci : ci < 11) (hk : kd o = ci) (hst : st = As.reverse ++ .ref (ad g o) :: rest) (hn : As.length = n) (hW : (rest.map fun v => v.category).sum ≤ 8) (hR : rm.frames + 1 ≤ R.frames ∧ 8 + (ny + 11) + rm.locals ≤ R.locals) (hrc : rm.cells = 0) (hrs : rm.slots = 0) (hM : Cti g y cy ny ry rm (.ref (ad g o) :: As) σ post) (kk : ∀ r σ', post r σ' → AW g cc nL ret R own Qc pc' lv (.int r :: rest) σ') : AW g cc nL ret R own Qc pc lv st σ := by
  obtain ⟨hd, rfl⟩ := hd
  subst hst
  intro p e s m args below meth c H locs ls F hP hS hlv
  have hl9 := hl
  refine va_calli (va_runV (As := As) (rest := rest) (b := ad g o) ⟨F.1, F.2.1, F.2.2.2.1, F.2.2.2.2.1, F.2.2.2.2.2.1⟩ hM (cV F.2.2.2.2.2.1 hl9 ok hR hrc hrs) ⟨wd_blind, by rw [← hq]; exact recv (fs := []) F.2.2.2.2.2.2.2.1 hP hc hk hci, fun U hU hW9 => ⟨rfl, F.wd hP hS hU hW9.alike⟩⟩ rfl hn hlv.1 rfl (lv_room hW) hd ⟨Nat.zero_le _, Nat.zero_le _⟩) hS (fun q _ h => h) (fun q h => h) (fun r u t H1 locs1 ht hvm hw hB hz1 hk1 hS1 => ?_)
  have hl := hlv
  exact kk r u hw p e s m args below meth c H1 locs1 ls F (by rw [← ht]; exact hB.1) hS1 hl
theorem aw_callsi {post : Int32 → SG → Prop} {st : List Value} (hd : dn cc pc (.invokestatic idx) 3 pc') (hl : Cond.methodLink own idx y ∈ wtb) (ok : okS y cy ny ry n) (hst : st = As.reverse ++ rest) (hn : As.length = n) (hW : (rest.map fun v => v.category).sum ≤ 8) (hR : rm.frames + 1 ≤ R.frames ∧ 8 + (ny + 11) + rm.locals ≤ R.locals) (hrc : rm.cells = 0) (hrs : rm.slots = 0) (hM : Cti g y cy ny ry rm As σ post) (kk : ∀ r σ', post r σ' → AW g cc nL ret R own Qc pc' lv (.int r :: rest) σ') : AW g cc nL ret R own Qc pc lv st σ := by
  obtain ⟨hd, rfl⟩ := hd
  subst hst
  intro p e s m args below meth c H locs ls F hP hS hlv
  refine va_calli (va_runS (As := As) (rest := rest) ⟨F.1, F.2.1, F.2.2.2.1, F.2.2.2.2.1, F.2.2.2.2.2.1⟩ hM (cS F.2.2.2.2.2.1 hl ok hR hrc hrs) ⟨wd_blind, fun U hU hW9 => ⟨rfl, F.wd hP hS hU hW9.alike⟩⟩ rfl hn hlv.1 rfl (lv_room hW) hd ⟨Nat.zero_le _, Nat.zero_le _⟩) hS (fun q _ h => h) (fun q h => h) (fun r u t H1 locs1 ht hvm hw hB hz1 hk1 hS1 => ?_)
  have hl := hlv
  exact kk r u hw p e s m args below meth c H1 locs1 ls F (by rw [← ht]; exact hB.1) hS1 hl
theorem aw_callv {ci : Nat} {q : vw_C} {post : SG → Prop} {st : List Value} (hd : dn cc pc (.invokevirtual idx) 3 pc') (hl : Cond.methodLink own idx y ∈ wtb) (ok : okV y cy ny none n) (hc : vwCl[ci]? = some q) (hq : q.1 = y.cls) (hci : ci < 11) (hk : kd o = ci) (hst : st = As.reverse ++ .ref (ad g o) :: rest) (hn : As.length = n) (hW : (rest.map fun v => v.category).sum ≤ 8) (hR : rm.frames + 1 ≤ R.frames ∧ 8 + (ny + 11) + rm.locals ≤ R.locals) (hrc : rm.cells = 0) (hrs : rm.slots = 0) (hM : Ctv g y cy ny rm (.ref (ad g o) :: As) σ post) (kk : ∀ σ', post σ' → AW g cc nL ret R own Qc pc' lv rest σ') : AW g cc nL ret R own Qc pc lv st σ := by
  obtain ⟨hd, rfl⟩ := hd
  subst hst
  intro p e s m args below meth c H locs ls F hP hS hlv
  have hl9 := hl
  refine va_callv (va_runV (As := As) (rest := rest) (b := ad g o) ⟨F.1, F.2.1, F.2.2.2.1, F.2.2.2.2.1, F.2.2.2.2.2.1⟩ hM (cV F.2.2.2.2.2.1 hl9 ok hR hrc hrs) ⟨wd_blind, by rw [← hq]; exact recv (fs := []) F.2.2.2.2.2.2.2.1 hP hc hk hci, fun U hU hW9 => ⟨rfl, F.wd hP hS hU hW9.alike⟩⟩ rfl hn hlv.1 rfl (lv_room hW) hd ⟨Nat.zero_le _, Nat.zero_le _⟩) hS (fun q _ h => h) (fun q h => h) (fun u t H1 locs1 ht hvm hw hB hz1 hk1 hS1 => ?_)
  have hl := hlv
  exact kk u hw p e s m args below meth c H1 locs1 ls F (by rw [← ht]; exact hB.1) hS1 hl
theorem aw_callsv {post : SG → Prop} {st : List Value} (hd : dn cc pc (.invokestatic idx) 3 pc') (hl : Cond.methodLink own idx y ∈ wtb) (ok : okS y cy ny none n) (hst : st = As.reverse ++ rest) (hn : As.length = n) (hW : (rest.map fun v => v.category).sum ≤ 8) (hR : rm.frames + 1 ≤ R.frames ∧ 8 + (ny + 11) + rm.locals ≤ R.locals) (hrc : rm.cells = 0) (hrs : rm.slots = 0) (hM : Ctv g y cy ny rm As σ post) (kk : ∀ σ', post σ' → AW g cc nL ret R own Qc pc' lv rest σ') : AW g cc nL ret R own Qc pc lv st σ := by
  obtain ⟨hd, rfl⟩ := hd
  subst hst
  intro p e s m args below meth c H locs ls F hP hS hlv
  refine va_callv (va_runS (As := As) (rest := rest) ⟨F.1, F.2.1, F.2.2.2.1, F.2.2.2.2.1, F.2.2.2.2.2.1⟩ hM (cS F.2.2.2.2.2.1 hl ok hR hrc hrs) ⟨wd_blind, fun U hU hW9 => ⟨rfl, F.wd hP hS hU hW9.alike⟩⟩ rfl hn hlv.1 rfl (lv_room hW) hd ⟨Nat.zero_le _, Nat.zero_le _⟩) hS (fun q _ h => h) (fun q h => h) (fun u t H1 locs1 ht hvm hw hB hz1 hk1 hS1 => ?_)
  have hl := hlv
  exact kk u hw p e s m args below meth c H1 locs1 ls F (by rw [← ht]; exact hB.1) hS1 hl
theorem aw_callr {o2 : Nat} {ci : Nat} {q : vw_C} {post : SG → Prop} {st : List Value} (hd : dn cc pc (.invokevirtual idx) 3 pc') (hl : Cond.methodLink own idx y ∈ wtb) (ok : okV y cy ny ry n) (hc : vwCl[ci]? = some q) (hq : q.1 = y.cls) (hci : ci < 11) (hk : kd o = ci) (hst : st = As.reverse ++ .ref (ad g o) :: rest) (hn : As.length = n) (hW : (rest.map fun v => v.category).sum ≤ 8) (hR : rm.frames + 1 ≤ R.frames ∧ 8 + (ny + 11) + rm.locals ≤ R.locals) (hrc : rm.cells = 0) (hrs : rm.slots = 0) (hM : Ctr g y cy ny ry rm (.ref (ad g o) :: As) σ o2 post) (kk : ∀ σ', post σ' → AW g cc nL ret R own Qc pc' lv (.ref (ad g o2) :: rest) σ') : AW g cc nL ret R own Qc pc lv st σ := by
  obtain ⟨hd, rfl⟩ := hd
  subst hst
  intro p e s m args below meth c H locs ls F hP hS hlv
  have hl9 := hl
  refine va_callr (va_runV (As := As) (rest := rest) (b := ad g o) ⟨F.1, F.2.1, F.2.2.2.1, F.2.2.2.2.1, F.2.2.2.2.2.1⟩ hM (cV F.2.2.2.2.2.1 hl9 ok hR hrc hrs) ⟨wd_blind, by rw [← hq]; exact recv (fs := []) F.2.2.2.2.2.2.2.1 hP hc hk hci, fun U hU hW9 => ⟨rfl, F.wd hP hS hU hW9.alike⟩⟩ rfl hn hlv.1 rfl (lv_room hW) hd ⟨Nat.zero_le _, Nat.zero_le _⟩) hS (fun q _ h => h) (fun q h => h) (fun u ra t H1 locs1 ht hvm hw hB hz1 hk1 hS1 => ?_)
  have hl := hlv
  obtain ⟨rfl, hB⟩ := hB
  exact kk u hw p e s m args below meth c H1 locs1 ls F (by rw [← ht]; exact hB.1) hS1 hl
theorem aw_mostS {idx : Nat} (hd : dn cc pc (.getstatic idx) 3 pc') (hw : Cond.fieldLink own idx "RuledTables" "MOST_SETTINGS" "[I" ∈ wtb) (k : AW g cc nL ret R own Qc pc' lv (.ref g.2.2.2.2.2.1 :: st) σ) : AW g cc nL ret R own Qc pc lv st σ := by
  obtain ⟨hd, rfl⟩ := hd
  intro p e s m args below meth c H locs ls F hP hS hl
  exact va_gets F.1 F.2.1 F.2.2.2.2.2.2.2.2.1 hS F.2.2.2.2.1 (F.2.2.2.2.2.1 _ hw) (fun _ h => h) hd (k p e s m args below meth c H locs ls F hP hS hl)
theorem aw_mostL (hd : dn cc pc .arraylength 1 pc') (k : AW g cc nL ret R own Qc pc' lv (.int 3 :: st) σ) : AW g cc nL ret R own Qc pc lv (.ref g.2.2.2.2.2.1 :: st) σ := by
  obtain ⟨hd, rfl⟩ := hd
  intro p e s m args below meth c H locs ls F hP hS hl
  exact va_tlen F.1 F.2.1 F.2.2.2.2.2.2.2.2.2.1 hS (v := 3) (by decide) hd (k p e s m args below meth c H locs ls F hP hS hl)
theorem aw_mostI {i : Int32} (hd : dn cc pc .iaload 1 pc') (hi : vp_in i 3) (k : AW g cc nL ret R own Qc pc' lv (.int (fM i.toNatClampNeg) :: st) σ) : AW g cc nL ret R own Qc pc lv (.int i :: .ref g.2.2.2.2.2.1 :: st) σ := by
  obtain ⟨hd, rfl⟩ := hd
  intro p e s m args below meth c H locs ls F hP hS hl
  exact va_ti F.1 F.2.1 F.2.2.2.2.2.2.2.2.2.1 hS hi rfl hd (k p e s m args below meth c H locs ls F hP hS hl)
theorem aw_firstS {idx : Nat} (hd : dn cc pc (.getstatic idx) 3 pc') (hw : Cond.fieldLinkNest own idx "RuledTables" "FIRST_SETTINGS" "[I" "RuledTables" ∈ wtb) (k : AW g cc nL ret R own Qc pc' lv (.ref g.2.2.2.2.2.2 :: st) σ) : AW g cc nL ret R own Qc pc lv st σ := by
  obtain ⟨hd, rfl⟩ := hd
  intro p e s m args below meth c H locs ls F hP hS hl
  exact va_getsN F.1 F.2.1 F.2.2.2.2.2.2.2.2.2.2.1 hS F.2.2.2.2.1 (F.2.2.2.2.2.1 _ hw) (fun _ h => h) hd (k p e s m args below meth c H locs ls F hP hS hl)
theorem aw_firstL (hd : dn cc pc .arraylength 1 pc') (k : AW g cc nL ret R own Qc pc' lv (.int 3 :: st) σ) : AW g cc nL ret R own Qc pc lv (.ref g.2.2.2.2.2.2 :: st) σ := by
  obtain ⟨hd, rfl⟩ := hd
  intro p e s m args below meth c H locs ls F hP hS hl
  exact va_tlen F.1 F.2.1 F.2.2.2.2.2.2.2.2.2.2.2 hS (v := 3) (by decide) hd (k p e s m args below meth c H locs ls F hP hS hl)
theorem aw_aald16 {o : Nat} {i : Int32} (hd : dn cc pc .aaload 1 pc') (hk : kd o = 16) (hi : vp_in i (ln o)) (kk : AW g cc nL ret R own Qc pc' lv (.ref (ad g (o + 1 + i.toNatClampNeg)) :: st) σ) : AW g cc nL ret R own Qc pc lv (.int i :: .ref (ad g o) :: st) σ := by
  obtain ⟨hd, rfl⟩ := hd
  intro p e s m args below meth c H locs ls F hP hS hl
  have hlt : i.toNatClampNeg < ln o := Nat.not_le.mp fun q => hi (Or.inr q)
  have ha : (wsOf g σ)[o]? = some (ad g o, .inl (g.2.2.2.2.1 5, ln o, .inr (.inr (.inr (.inr (fun k => some (ad g (o + 1 + k)))))))) := by rw [ws_at g σ (kd_lt hk (by decide)), cl_k hk]; rfl
  exact W.aald (v := va_rf (some (ad g (o + 1 + i.toNatClampNeg)))) (ty := .array .int) F.1 F.2.1 (hP o _ ha) ((F.2.2.2.2.2.2.2.1.2 5 _ rfl).1 (ln o) (fun j => va_rf (some (ad g (o + 1 + j))))) rfl (fun q => by cases q) (by show ¬ (i < 0 ∨ (arrV _ _ _).slots.size ≤ _); rw [arrV_size]; exact hi) (by show (arrV _ _ _).slots[_]? = _; rw [arrV_read _ _ hlt]) rfl rfl hd (kk p e s m args below meth c H locs ls F hP hS hl)
theorem aw_aast14 {i : Int32} {r : Nat} (hd : dn cc pc .aastore 1 pc') (hi : vp_in i 24) (hr : r < 24) (kk : AW g cc nL ret R own Qc pc' lv st (σ.1, σ.2.1, uP σ.2.2 i.toNatClampNeg r)) : AW g cc nL ret R own Qc pc lv (.ref (ad g (25 + 1 + r)) :: .int i :: .ref (ad g 25) :: st) σ := by
  obtain ⟨hd, rfl⟩ := hd
  intro p e s m args below meth c H locs ls F hP hS hl
  have hkr : kd (25 + 1 + r) = 6 := by
    have : ∀ r, r < 24 → kd (25 + 1 + r) = 6 := by decide +kernel
    exact this r hr
  refine va_astq F.1 F.2.1 F.2.2.2.2.2.2.2.1 hP (ws_D g σ) hS 25 3 (25 + 1 + r) 6 (cA := g.2.2.2.2.1 3) (n := 24) (f := fun k => some (ad g (25 + 1 + σ.2.2 k))) (r := (RX6, TX6, 9)) (by rw [ws_at g σ (by decide)]; rfl) rfl (by rw [ws_at g σ (kd_lt hkr (by decide)), cl_k hkr]; rfl) rfl hi hd (fun H1 locs1 hP1 hD1 hS1 => ?_)
  rw [ws_set (σ' := (σ.1, σ.2.1, uP σ.2.2 i.toNatClampNeg r)) ?_ (fun o' h => cl_uP h)] at hP1
  · exact kk p e s m args below meth c H1 locs1 ls F hP1 hS1 hl
  · show _ = cl0 g _ 25 14
    unfold cl0
    simp only
    have hln : ln 25 = 24 := by decide +kernel
    rw [hln]
    congr 7
    funext k
    unfold va_up uP
    split <;> rfl
end AWc
end
section
theorem kf_0_groups {o : Nat} (h : kd o = 0) : kd (o + 1) = 1 := kd_all (P := fun o => kd (o + 1) = 1) 0 (by decide) (by decide +kernel) h
theorem kf_0_rules {o : Nat} (h : kd o = 0) : kd (o + 3) = 7 := kd_all (P := fun o => kd (o + 3) = 7) 0 (by decide) (by decide +kernel) h
theorem kf_0_tables {o : Nat} (h : kd o = 0) : kd (o + 30) = 15 := kd_all (P := fun o => kd (o + 30) = 15) 0 (by decide) (by decide +kernel) h
theorem kf_0_placing {o : Nat} (h : kd o = 0) : kd (o + 151) = 4 := kd_all (P := fun o => kd (o + 151) = 4) 0 (by decide) (by decide +kernel) h
theorem kf_1_leads {o : Nat} (h : kd o = 1) : kd (o + 1) = 11 := kd_all (P := fun o => kd (o + 1) = 11) 1 (by decide) (by decide +kernel) h
theorem kf_2_places {o : Nat} (h : kd o = 2) : kd (o + 1) = 16 := kd_all (P := fun o => kd (o + 1) = 16) 2 (by decide) (by decide +kernel) h
theorem kf_2_counts {o : Nat} (h : kd o = 2) : kd (o + 4) = 11 := kd_all (P := fun o => kd (o + 4) = 11) 2 (by decide) (by decide +kernel) h
theorem kf_3_pieces {o : Nat} (h : kd o = 3) : kd (o + 1) = 5 := kd_all (P := fun o => kd (o + 1) = 5) 3 (by decide) (by decide +kernel) h
theorem kf_3_words {o : Nat} (h : kd o = 3) : kd (o + 3) = 5 := kd_all (P := fun o => kd (o + 3) = 5) 3 (by decide) (by decide +kernel) h
theorem kf_3_settings {o : Nat} (h : kd o = 3) : kd (o + 5) = 11 := kd_all (P := fun o => kd (o + 5) = 11) 3 (by decide) (by decide +kernel) h
theorem kf_4_tables {o : Nat} (h : kd o = 4) : kd (o + 1) = 11 := kd_all (P := fun o => kd (o + 1) = 11) 4 (by decide) (by decide +kernel) h
theorem kf_4_cells {o : Nat} (h : kd o = 4) : kd (o + 2) = 11 := kd_all (P := fun o => kd (o + 2) = 11) 4 (by decide) (by decide +kernel) h
theorem kf_4_order {o : Nat} (h : kd o = 4) : kd (o + 3) = 11 := kd_all (P := fun o => kd (o + 3) = 11) 4 (by decide) (by decide +kernel) h
theorem kf_5_numbers {o : Nat} (h : kd o = 5) : kd (o + 1) = 11 := kd_all (P := fun o => kd (o + 1) = 11) 5 (by decide) (by decide +kernel) h
theorem kf_7_all {o : Nat} (h : kd o = 7) : kd (o + 1) = 14 := kd_all (P := fun o => kd (o + 1) = 14) 7 (by decide) (by decide +kernel) h
theorem kf_7_ofPiece {o : Nat} (h : kd o = 7) : kd (o + 26) = 11 := kd_all (P := fun o => kd (o + 26) = 11) 7 (by decide) (by decide +kernel) h
theorem kf_8_lines {o : Nat} (h : kd o = 8) : kd (o + 1) = 2 := kd_all (P := fun o => kd (o + 1) = 2) 8 (by decide) (by decide +kernel) h
theorem kf_8_sides {o : Nat} (h : kd o = 8) : kd (o + 6) = 12 := kd_all (P := fun o => kd (o + 6) = 12) 8 (by decide) (by decide +kernel) h
theorem kf_8_fieldCells {o : Nat} (h : kd o = 8) : kd (o + 7) = 11 := kd_all (P := fun o => kd (o + 7) = 11) 8 (by decide) (by decide +kernel) h
theorem kf_8_cells {o : Nat} (h : kd o = 8) : kd (o + 8) = 16 := kd_all (P := fun o => kd (o + 8) = 16) 8 (by decide) (by decide +kernel) h
theorem kf_8_missedLines {o : Nat} (h : kd o = 8) : kd (o + 16) = 16 := kd_all (P := fun o => kd (o + 16) = 16) 8 (by decide) (by decide +kernel) h
theorem kf_9_page {o : Nat} (h : kd o = 9) : kd (o + 1) = 3 := kd_all (P := fun o => kd (o + 1) = 3) 9 (by decide) (by decide +kernel) h
theorem kf_9_images {o : Nat} (h : kd o = 9) : kd (o + 7) = 13 := kd_all (P := fun o => kd (o + 7) = 13) 9 (by decide) (by decide +kernel) h
theorem kf_9_kept {o : Nat} (h : kd o = 9) : kd (o + 20) = 12 := kd_all (P := fun o => kd (o + 20) = 12) 9 (by decide) (by decide +kernel) h
theorem kf_9_finding {o : Nat} (h : kd o = 9) : kd (o + 21) = 0 := kd_all (P := fun o => kd (o + 21) = 0) 9 (by decide) (by decide +kernel) h
theorem kf_10_drawn {o : Nat} (h : kd o = 10) : kd (o + 1) = 11 := kd_all (P := fun o => kd (o + 1) = 11) 10 (by decide) (by decide +kernel) h
theorem kf_10_boxes {o : Nat} (h : kd o = 10) : kd (o + 2) = 11 := kd_all (P := fun o => kd (o + 2) = 11) 10 (by decide) (by decide +kernel) h
theorem kf_10_how {o : Nat} (h : kd o = 10) : kd (o + 3) = 11 := kd_all (P := fun o => kd (o + 3) = 11) 10 (by decide) (by decide +kernel) h
theorem kf_10_label {o : Nat} (h : kd o = 10) : kd (o + 4) = 11 := kd_all (P := fun o => kd (o + 4) = 11) 10 (by decide) (by decide +kernel) h
theorem kf_10_rules {o : Nat} (h : kd o = 10) : kd (o + 5) = 11 := kd_all (P := fun o => kd (o + 5) = 11) 10 (by decide) (by decide +kernel) h
theorem kf_10_ruleOf {o : Nat} (h : kd o = 10) : kd (o + 6) = 11 := kd_all (P := fun o => kd (o + 6) = 11) 10 (by decide) (by decide +kernel) h
theorem kf_10_lines {o : Nat} (h : kd o = 10) : kd (o + 7) = 11 := kd_all (P := fun o => kd (o + 7) = 11) 10 (by decide) (by decide +kernel) h
theorem kf_10_lineMany {o : Nat} (h : kd o = 10) : kd (o + 8) = 11 := kd_all (P := fun o => kd (o + 8) = 11) 10 (by decide) (by decide +kernel) h
theorem kf_10_fieldFrom {o : Nat} (h : kd o = 10) : kd (o + 9) = 11 := kd_all (P := fun o => kd (o + 9) = 11) 10 (by decide) (by decide +kernel) h
theorem kf_10_cellFrom {o : Nat} (h : kd o = 10) : kd (o + 10) = 11 := kd_all (P := fun o => kd (o + 10) = 11) 10 (by decide) (by decide +kernel) h
theorem kf_10_cellOf {o : Nat} (h : kd o = 10) : kd (o + 11) = 11 := kd_all (P := fun o => kd (o + 11) = 11) 10 (by decide) (by decide +kernel) h
theorem kf_10_cells {o : Nat} (h : kd o = 10) : kd (o + 12) = 11 := kd_all (P := fun o => kd (o + 12) = 11) 10 (by decide) (by decide +kernel) h
theorem kf_10_wordTable {o : Nat} (h : kd o = 10) : kd (o + 13) = 11 := kd_all (P := fun o => kd (o + 13) = 11) 10 (by decide) (by decide +kernel) h
theorem kf_10_wordCell {o : Nat} (h : kd o = 10) : kd (o + 14) = 11 := kd_all (P := fun o => kd (o + 14) = 11) 10 (by decide) (by decide +kernel) h
theorem kf_10_coming {o : Nat} (h : kd o = 10) : kd (o + 15) = 11 := kd_all (P := fun o => kd (o + 15) = 11) 10 (by decide) (by decide +kernel) h
theorem kf_10_kept {o : Nat} (h : kd o = 10) : kd (o + 16) = 11 := kd_all (P := fun o => kd (o + 16) = 11) 10 (by decide) (by decide +kernel) h
theorem kf_10_isKept {o : Nat} (h : kd o = 10) : kd (o + 17) = 12 := kd_all (P := fun o => kd (o + 17) = 12) 10 (by decide) (by decide +kernel) h
theorem kd_one {o k : Nat} (n : Nat) (hk : k < 99) (hu : ∀ o, o < 194 → kd o = k → o = n) (h : kd o = k) : o = n := hu o (kd_lt h hk) h
theorem ln_lt (o : Nat) : ln o < 2 ^ 31 := by
  rcases Nat.lt_or_ge o 194 with q | q
  · have : ∀ o, o < 194 → ln o < 2 ^ 31 := by decide +kernel
    exact this o q
  · unfold ln
    rw [List.getD_eq_getElem?_getD, List.getElem?_eq_none (by rw [show lnL.length = 194 by decide +kernel]; exact q)]
    decide
theorem tnN {n : Nat} (h : n < 2 ^ 31) : (nI n).toNatClampNeg = n := nI_clamp h
section AWv
variable {g : GG} {cc : ByteArray} {nL : Nat} {ret : Option FieldType} {R : Room} {own : String} {Qc : Array Value → State → Outcome → State → Prop} {pc pc' tgt : Nat} {lv : List (Option Value)} {st : List Value} {σ : SG}
theorem aw_eq {x y : Int32} (h : x = y) (k : AW g cc nL ret R own Qc pc lv (.int y :: st) σ) : AW g cc nL ret R own Qc pc lv (.int x :: st) σ := h ▸ k
theorem aw_eqr {a b : Nat} (h : a = b) (k : AW g cc nL ret R own Qc pc lv (.ref (ad g b) :: st) σ) : AW g cc nL ret R own Qc pc lv (.ref (ad g a) :: st) σ := h ▸ k
theorem aw_lv {lv' : List (Option Value)} (h : lv = lv') (k : AW g cc nL ret R own Qc pc lv' st σ) : AW g cc nL ret R own Qc pc lv st σ := h ▸ k
theorem aw_st {st' : List Value} (h : st = st') (k : AW g cc nL ret R own Qc pc lv st' σ) : AW g cc nL ret R own Qc pc lv st σ := h ▸ k
theorem aw_sg {σ' : SG} (h : σ = σ') (k : AW g cc nL ret R own Qc pc lv st σ') : AW g cc nL ret R own Qc pc lv st σ := h ▸ k
theorem aw_ic {n : Int} (v : Int32) (hd : dn cc pc (.iconst n) 1 pc') (hv : Int32.ofInt n = v) (k : AW g cc nL ret R own Qc pc' lv (.int v :: st) σ) : AW g cc nL ret R own Qc pc lv st σ := aw_iconst hd (hv ▸ k)
theorem aw_bi {n : Int} (v : Int32) (hd : dn cc pc (.bipush n) 2 pc') (hv : (Int8.ofInt n).toInt32 = v) (k : AW g cc nL ret R own Qc pc' lv (.int v :: st) σ) : AW g cc nL ret R own Qc pc lv st σ := aw_bipush hd (hv ▸ k)
theorem aw_si {n : Int} (v : Int32) (hd : dn cc pc (.sipush n) 3 pc') (hv : (Int16.ofInt n).toInt32 = v) (k : AW g cc nL ret R own Qc pc' lv (.int v :: st) σ) : AW g cc nL ret R own Qc pc lv st σ := aw_sipush hd (hv ▸ k)
theorem aw_inc {i : Nat} {n : Int} {x : Int32} (v : Int32) (hd : dn cc pc (.iinc i n) 3 pc') (hx : lv[i]? = some (some (.int x))) (hn : i < nL) (hv : x + Int32.ofInt n = v) (k : AW g cc nL ret R own Qc pc' (lv.set i (some (.int v))) st σ) : AW g cc nL ret R own Qc pc lv st σ := aw_iinc hd hx hn (hv ▸ k)
theorem aw_ld {I A : Nat → Nat → Int32} {π : Nat → Nat} {o : Nat} {i : Int32} (j : Nat) (hd : dn cc pc .iaload 1 pc') (hk : kd o = 11) (e : i = nI j) (h : j < ln o) (k : AW g cc nL ret R own Qc pc' lv (.int (A o j) :: st) (I, A, π)) : AW g cc nL ret R own Qc pc lv (.int i :: .ref (ad g o) :: st) (I, A, π) := by
  subst e
  refine aw_iald hd hk (vp_in_nI h (ln_lt o)) ?_
  rw [tnN (Nat.lt_trans h (ln_lt o))]
  exact k
theorem aw_zld {I A : Nat → Nat → Int32} {π : Nat → Nat} {o : Nat} {i : Int32} (j : Nat) (hd : dn cc pc .baload 1 pc') (hk : kd o = 12) (e : i = nI j) (h : j < ln o) (k : AW g cc nL ret R own Qc pc' lv (.int (A o j) :: st) (I, A, π)) : AW g cc nL ret R own Qc pc lv (.int i :: .ref (ad g o) :: st) (I, A, π) := by
  subst e
  refine aw_zald hd hk (vp_in_nI h (ln_lt o)) ?_
  rw [tnN (Nat.lt_trans h (ln_lt o))]
  exact k
theorem aw_sto {I A : Nat → Nat → Int32} {π : Nat → Nat} {o : Nat} {i x : Int32} (j : Nat) (hd : dn cc pc .iastore 1 pc') (hk : kd o = 11) (e : i = nI j) (h : j < ln o) (k : AW g cc nL ret R own Qc pc' lv st (I, uA A o (upd (A o) j x), π)) : AW g cc nL ret R own Qc pc lv (.int x :: .int i :: .ref (ad g o) :: st) (I, A, π) := by
  subst e
  refine aw_iast hd hk (vp_in_nI h (ln_lt o)) ?_
  rw [tnN (Nat.lt_trans h (ln_lt o))]
  exact k
theorem aw_zsto {I A : Nat → Nat → Int32} {π : Nat → Nat} {o : Nat} {i x : Int32} (j : Nat) (hd : dn cc pc .bastore 1 pc') (hk : kd o = 12) (e : i = nI j) (h : j < ln o) (hx : vp_nar .boolean x = x) (k : AW g cc nL ret R own Qc pc' lv st (I, uA A o (upd (A o) j x), π)) : AW g cc nL ret R own Qc pc lv (.int x :: .int i :: .ref (ad g o) :: st) (I, A, π) := by
  subst e
  refine aw_zast hd hk (vp_in_nI h (ln_lt o)) hx ?_
  rw [tnN (Nat.lt_trans h (ln_lt o))]
  exact k
theorem aw_ald16 {o : Nat} {i : Int32} (j : Nat) (hd : dn cc pc .aaload 1 pc') (hk : kd o = 16) (e : i = nI j) (h : j < ln o) (k : AW g cc nL ret R own Qc pc' lv (.ref (ad g (o + 1 + j)) :: st) σ) : AW g cc nL ret R own Qc pc lv (.int i :: .ref (ad g o) :: st) σ := by
  subst e
  refine aw_aald16 hd hk (vp_in_nI h (ln_lt o)) ?_
  rw [tnN (Nat.lt_trans h (ln_lt o))]
  exact k
theorem aw_ald13 {o : Nat} {i : Int32} (j : Nat) (hd : dn cc pc .aaload 1 pc') (hk : kd o = 13) (e : i = nI j) (h : j < ln o) (k : AW g cc nL ret R own Qc pc' lv (.ref (ad g (o + 1 + 6 * j)) :: st) σ) : AW g cc nL ret R own Qc pc lv (.int i :: .ref (ad g o) :: st) σ := by
  subst e
  refine aw_aald13 hd hk (vp_in_nI h (ln_lt o)) ?_
  rw [tnN (Nat.lt_trans h (ln_lt o))]
  exact k
theorem aw_ald14 {I A : Nat → Nat → Int32} {π : Nat → Nat} {o : Nat} {i : Int32} (j : Nat) (hd : dn cc pc .aaload 1 pc') (hk : kd o = 14) (e : i = nI j) (h : j < ln o) (k : AW g cc nL ret R own Qc pc' lv (.ref (ad g (o + 1 + π j)) :: st) (I, A, π)) : AW g cc nL ret R own Qc pc lv (.int i :: .ref (ad g o) :: st) (I, A, π) := by
  subst e
  refine aw_aald14 hd hk (vp_in_nI h (ln_lt o)) ?_
  rw [tnN (Nat.lt_trans h (ln_lt o))]
  exact k
theorem aw_ald15 {o : Nat} {i : Int32} (j : Nat) (hd : dn cc pc .aaload 1 pc') (hk : kd o = 15) (e : i = nI j) (h : j < ln o) (k : AW g cc nL ret R own Qc pc' lv (.ref (ad g (o + 1 + 20 * j)) :: st) σ) : AW g cc nL ret R own Qc pc lv (.int i :: .ref (ad g o) :: st) σ := by
  subst e
  refine aw_aald15 hd hk (vp_in_nI h (ln_lt o)) ?_
  rw [tnN (Nat.lt_trans h (ln_lt o))]
  exact k
theorem aw_ast14 {I A : Nat → Nat → Int32} {π : Nat → Nat} {i : Int32} {r : Nat} (j : Nat) (hd : dn cc pc .aastore 1 pc') (e : i = nI j) (h : j < 24) (hr : r < 24) (k : AW g cc nL ret R own Qc pc' lv st (I, A, uP π j r)) : AW g cc nL ret R own Qc pc lv (.ref (ad g (25 + 1 + r)) :: .int i :: .ref (ad g 25) :: st) (I, A, π) := by
  subst e
  have hj : j < 2 ^ 31 := by omega
  refine aw_aast14 hd (vp_in_nI h (by decide)) hr ?_
  rw [tnN hj]
  exact k
theorem aw_icmp_eqN {x y : Int32} {off : Int} {a b : Nat} (hd : db cc pc (.if_icmp .eq off) 3 pc' off tgt) (ex : x = nI a) (ey : y = nI b) (ha : a < 2 ^ 31) (hb : b < 2 ^ 31) (kt : a = b → AW g cc nL ret R own Qc tgt lv st σ) (kf : a ≠ b → AW g cc nL ret R own Qc pc' lv st σ) : AW g cc nL ret R own Qc pc lv (.int y :: .int x :: st) σ := by
  subst ex
  subst ey
  exact aw_icmp_eq hd (fun q => kt ((nI_eq ha hb).mp q)) (fun q => kf (fun z => q ((nI_eq ha hb).mpr z)))
theorem aw_icmp_neN {x y : Int32} {off : Int} {a b : Nat} (hd : db cc pc (.if_icmp .ne off) 3 pc' off tgt) (ex : x = nI a) (ey : y = nI b) (ha : a < 2 ^ 31) (hb : b < 2 ^ 31) (kt : a ≠ b → AW g cc nL ret R own Qc tgt lv st σ) (kf : a = b → AW g cc nL ret R own Qc pc' lv st σ) : AW g cc nL ret R own Qc pc lv (.int y :: .int x :: st) σ := by
  subst ex
  subst ey
  exact aw_icmp_ne hd (fun q => kt (fun z => q ((nI_eq ha hb).mpr z))) (fun q => kf ((nI_eq ha hb).mp q))
theorem aw_icmp_ltN {x y : Int32} {off : Int} {a b : Nat} (hd : db cc pc (.if_icmp .lt off) 3 pc' off tgt) (ex : x = nI a) (ey : y = nI b) (ha : a < 2 ^ 31) (hb : b < 2 ^ 31) (kt : a < b → AW g cc nL ret R own Qc tgt lv st σ) (kf : b ≤ a → AW g cc nL ret R own Qc pc' lv st σ) : AW g cc nL ret R own Qc pc lv (.int y :: .int x :: st) σ := by
  subst ex
  subst ey
  exact aw_icmp_lt hd (fun q => kt ((nI_ltI ha hb).mp q)) (fun q => kf (Nat.not_lt.mp fun z => q ((nI_ltI ha hb).mpr z)))
theorem aw_icmp_geN {x y : Int32} {off : Int} {a b : Nat} (hd : db cc pc (.if_icmp .ge off) 3 pc' off tgt) (ex : x = nI a) (ey : y = nI b) (ha : a < 2 ^ 31) (hb : b < 2 ^ 31) (kt : b ≤ a → AW g cc nL ret R own Qc tgt lv st σ) (kf : a < b → AW g cc nL ret R own Qc pc' lv st σ) : AW g cc nL ret R own Qc pc lv (.int y :: .int x :: st) σ := by
  subst ex
  subst ey
  exact aw_icmp_ge hd (fun q => kt ((nI_leI hb ha).mp q)) (fun q => kf (Nat.not_le.mp fun z => q ((nI_leI hb ha).mpr z)))
theorem aw_icmp_gtN {x y : Int32} {off : Int} {a b : Nat} (hd : db cc pc (.if_icmp .gt off) 3 pc' off tgt) (ex : x = nI a) (ey : y = nI b) (ha : a < 2 ^ 31) (hb : b < 2 ^ 31) (kt : b < a → AW g cc nL ret R own Qc tgt lv st σ) (kf : a ≤ b → AW g cc nL ret R own Qc pc' lv st σ) : AW g cc nL ret R own Qc pc lv (.int y :: .int x :: st) σ := by
  subst ex
  subst ey
  exact aw_icmp_gt hd (fun q => kt ((nI_ltI hb ha).mp q)) (fun q => kf (Nat.not_lt.mp fun z => q ((nI_ltI hb ha).mpr z)))
theorem aw_icmp_leN {x y : Int32} {off : Int} {a b : Nat} (hd : db cc pc (.if_icmp .le off) 3 pc' off tgt) (ex : x = nI a) (ey : y = nI b) (ha : a < 2 ^ 31) (hb : b < 2 ^ 31) (kt : a ≤ b → AW g cc nL ret R own Qc tgt lv st σ) (kf : b < a → AW g cc nL ret R own Qc pc' lv st σ) : AW g cc nL ret R own Qc pc lv (.int y :: .int x :: st) σ := by
  subst ex
  subst ey
  exact aw_icmp_le hd (fun q => kt ((nI_leI ha hb).mp q)) (fun q => kf (Nat.not_le.mp fun z => q ((nI_leI ha hb).mpr z)))
theorem aw_if_eqN {x : Int32} {off : Int} {a : Nat} (hd : db cc pc (.ifCond .eq off) 3 pc' off tgt) (ex : x = nI a) (ha : a < 2 ^ 31) (kt : a = 0 → AW g cc nL ret R own Qc tgt lv st σ) (kf : a ≠ 0 → AW g cc nL ret R own Qc pc' lv st σ) : AW g cc nL ret R own Qc pc lv (.int x :: st) σ := by
  subst ex
  have hz : 0 < 2 ^ 31 := by decide
  exact aw_if_eq hd (fun q => kt ((nI_eq ha hz).mp q)) (fun q => kf (fun z => q ((nI_eq ha hz).mpr z)))
theorem aw_if_neN {x : Int32} {off : Int} {a : Nat} (hd : db cc pc (.ifCond .ne off) 3 pc' off tgt) (ex : x = nI a) (ha : a < 2 ^ 31) (kt : a ≠ 0 → AW g cc nL ret R own Qc tgt lv st σ) (kf : a = 0 → AW g cc nL ret R own Qc pc' lv st σ) : AW g cc nL ret R own Qc pc lv (.int x :: st) σ := by
  subst ex
  have hz : 0 < 2 ^ 31 := by decide
  exact aw_if_ne hd (fun q => kt (fun z => q ((nI_eq ha hz).mpr z))) (fun q => kf ((nI_eq ha hz).mp q))
theorem aw_if_leN {x : Int32} {off : Int} {a : Nat} (hd : db cc pc (.ifCond .le off) 3 pc' off tgt) (ex : x = nI a) (ha : a < 2 ^ 31) (kt : a = 0 → AW g cc nL ret R own Qc tgt lv st σ) (kf : 0 < a → AW g cc nL ret R own Qc pc' lv st σ) : AW g cc nL ret R own Qc pc lv (.int x :: st) σ := by
  subst ex
  have hz : 0 < 2 ^ 31 := by decide
  exact aw_if_le hd (fun q => kt (Nat.le_zero.mp ((nI_leI ha hz).mp q))) (fun q => kf (Nat.not_le.mp fun z => q ((nI_leI ha hz).mpr z)))
theorem aw_if_gtN {x : Int32} {off : Int} {a : Nat} (hd : db cc pc (.ifCond .gt off) 3 pc' off tgt) (ex : x = nI a) (ha : a < 2 ^ 31) (kt : 0 < a → AW g cc nL ret R own Qc tgt lv st σ) (kf : a = 0 → AW g cc nL ret R own Qc pc' lv st σ) : AW g cc nL ret R own Qc pc lv (.int x :: st) σ := by
  subst ex
  have hz : 0 < 2 ^ 31 := by decide
  exact aw_if_gt hd (fun q => kt ((nI_ltI hz ha).mp q)) (fun q => kf (Nat.le_zero.mp (Nat.not_lt.mp fun z => q ((nI_ltI hz ha).mpr z))))
theorem aw_if_eqB {c : Prop} [Decidable c] {x : Int32} {off : Int} (hd : db cc pc (.ifCond .eq off) 3 pc' off tgt) (ex : x = if c then 1 else 0) (kt : ¬ c → AW g cc nL ret R own Qc tgt lv st σ) (kf : c → AW g cc nL ret R own Qc pc' lv st σ) : AW g cc nL ret R own Qc pc lv (.int x :: st) σ := by
  subst ex
  by_cases h : c
  · rw [if_pos h]
    exact aw_if_eq hd (fun q => absurd q (by decide)) (fun q => kf h)
  · rw [if_neg h]
    exact aw_if_eq hd (fun q => kt h) (fun q => absurd rfl q)
theorem aw_if_neB {c : Prop} [Decidable c] {x : Int32} {off : Int} (hd : db cc pc (.ifCond .ne off) 3 pc' off tgt) (ex : x = if c then 1 else 0) (kt : c → AW g cc nL ret R own Qc tgt lv st σ) (kf : ¬ c → AW g cc nL ret R own Qc pc' lv st σ) : AW g cc nL ret R own Qc pc lv (.int x :: st) σ := by
  subst ex
  by_cases h : c
  · rw [if_pos h]
    exact aw_if_ne hd (fun q => kt h) (fun q => absurd q (by decide))
  · rw [if_neg h]
    exact aw_if_ne hd (fun q => absurd rfl q) (fun q => kf h)
variable {y : MethodName} {cy : ByteArray} {ny n idx o : Nat} {ry : Option FieldType} {rm : Room} {rest : List Value} {ci : Nat} {q : vw_C}
theorem cvi0 {post : Int32 → SG → Prop} (hd : dn cc pc (.invokevirtual idx) 3 pc') (hl : Cond.methodLink own idx y ∈ wtb) (ok : okV y cy ny ry 0) (hc : vwCl[ci]? = some q) (hq : q.1 = y.cls) (hci : ci < 11) (hk : kd o = ci) (hW : (rest.map fun v => v.category).sum ≤ 8) (hR : rm.frames + 1 ≤ R.frames ∧ 8 + (ny + 11) + rm.locals ≤ R.locals) (hrc : rm.cells = 0) (hrs : rm.slots = 0) (hM : Cti g y cy ny ry rm [.ref (ad g o)] σ post) (kk : ∀ r σ', post r σ' → AW g cc nL ret R own Qc pc' lv (.int r :: rest) σ') : AW g cc nL ret R own Qc pc lv (.ref (ad g o) :: rest) σ := aw_calli (As := []) hd hl ok hc hq hci hk rfl rfl hW hR hrc hrs hM kk
theorem cvi1 {v1 : Value} {post : Int32 → SG → Prop} (hd : dn cc pc (.invokevirtual idx) 3 pc') (hl : Cond.methodLink own idx y ∈ wtb) (ok : okV y cy ny ry 1) (hc : vwCl[ci]? = some q) (hq : q.1 = y.cls) (hci : ci < 11) (hk : kd o = ci) (hW : (rest.map fun v => v.category).sum ≤ 8) (hR : rm.frames + 1 ≤ R.frames ∧ 8 + (ny + 11) + rm.locals ≤ R.locals) (hrc : rm.cells = 0) (hrs : rm.slots = 0) (hM : Cti g y cy ny ry rm [.ref (ad g o), v1] σ post) (kk : ∀ r σ', post r σ' → AW g cc nL ret R own Qc pc' lv (.int r :: rest) σ') : AW g cc nL ret R own Qc pc lv (v1 :: .ref (ad g o) :: rest) σ := aw_calli (As := [v1]) hd hl ok hc hq hci hk rfl rfl hW hR hrc hrs hM kk
theorem csi1 {v1 : Value} {post : Int32 → SG → Prop} (hd : dn cc pc (.invokestatic idx) 3 pc') (hl : Cond.methodLink own idx y ∈ wtb) (ok : okS y cy ny ry 1) (hW : (rest.map fun v => v.category).sum ≤ 8) (hR : rm.frames + 1 ≤ R.frames ∧ 8 + (ny + 11) + rm.locals ≤ R.locals) (hrc : rm.cells = 0) (hrs : rm.slots = 0) (hM : Cti g y cy ny ry rm [v1] σ post) (kk : ∀ r σ', post r σ' → AW g cc nL ret R own Qc pc' lv (.int r :: rest) σ') : AW g cc nL ret R own Qc pc lv (v1 :: rest) σ := aw_callsi (As := [v1]) hd hl ok rfl rfl hW hR hrc hrs hM kk
theorem cvi2 {v1 v2 : Value} {post : Int32 → SG → Prop} (hd : dn cc pc (.invokevirtual idx) 3 pc') (hl : Cond.methodLink own idx y ∈ wtb) (ok : okV y cy ny ry 2) (hc : vwCl[ci]? = some q) (hq : q.1 = y.cls) (hci : ci < 11) (hk : kd o = ci) (hW : (rest.map fun v => v.category).sum ≤ 8) (hR : rm.frames + 1 ≤ R.frames ∧ 8 + (ny + 11) + rm.locals ≤ R.locals) (hrc : rm.cells = 0) (hrs : rm.slots = 0) (hM : Cti g y cy ny ry rm [.ref (ad g o), v1, v2] σ post) (kk : ∀ r σ', post r σ' → AW g cc nL ret R own Qc pc' lv (.int r :: rest) σ') : AW g cc nL ret R own Qc pc lv (v2 :: v1 :: .ref (ad g o) :: rest) σ := aw_calli (As := [v1, v2]) hd hl ok hc hq hci hk rfl rfl hW hR hrc hrs hM kk
theorem csi2 {v1 v2 : Value} {post : Int32 → SG → Prop} (hd : dn cc pc (.invokestatic idx) 3 pc') (hl : Cond.methodLink own idx y ∈ wtb) (ok : okS y cy ny ry 2) (hW : (rest.map fun v => v.category).sum ≤ 8) (hR : rm.frames + 1 ≤ R.frames ∧ 8 + (ny + 11) + rm.locals ≤ R.locals) (hrc : rm.cells = 0) (hrs : rm.slots = 0) (hM : Cti g y cy ny ry rm [v1, v2] σ post) (kk : ∀ r σ', post r σ' → AW g cc nL ret R own Qc pc' lv (.int r :: rest) σ') : AW g cc nL ret R own Qc pc lv (v2 :: v1 :: rest) σ := aw_callsi (As := [v1, v2]) hd hl ok rfl rfl hW hR hrc hrs hM kk
theorem cvi3 {v1 v2 v3 : Value} {post : Int32 → SG → Prop} (hd : dn cc pc (.invokevirtual idx) 3 pc') (hl : Cond.methodLink own idx y ∈ wtb) (ok : okV y cy ny ry 3) (hc : vwCl[ci]? = some q) (hq : q.1 = y.cls) (hci : ci < 11) (hk : kd o = ci) (hW : (rest.map fun v => v.category).sum ≤ 8) (hR : rm.frames + 1 ≤ R.frames ∧ 8 + (ny + 11) + rm.locals ≤ R.locals) (hrc : rm.cells = 0) (hrs : rm.slots = 0) (hM : Cti g y cy ny ry rm [.ref (ad g o), v1, v2, v3] σ post) (kk : ∀ r σ', post r σ' → AW g cc nL ret R own Qc pc' lv (.int r :: rest) σ') : AW g cc nL ret R own Qc pc lv (v3 :: v2 :: v1 :: .ref (ad g o) :: rest) σ := aw_calli (As := [v1, v2, v3]) hd hl ok hc hq hci hk rfl rfl hW hR hrc hrs hM kk
theorem csi3 {v1 v2 v3 : Value} {post : Int32 → SG → Prop} (hd : dn cc pc (.invokestatic idx) 3 pc') (hl : Cond.methodLink own idx y ∈ wtb) (ok : okS y cy ny ry 3) (hW : (rest.map fun v => v.category).sum ≤ 8) (hR : rm.frames + 1 ≤ R.frames ∧ 8 + (ny + 11) + rm.locals ≤ R.locals) (hrc : rm.cells = 0) (hrs : rm.slots = 0) (hM : Cti g y cy ny ry rm [v1, v2, v3] σ post) (kk : ∀ r σ', post r σ' → AW g cc nL ret R own Qc pc' lv (.int r :: rest) σ') : AW g cc nL ret R own Qc pc lv (v3 :: v2 :: v1 :: rest) σ := aw_callsi (As := [v1, v2, v3]) hd hl ok rfl rfl hW hR hrc hrs hM kk
theorem cvi4 {v1 v2 v3 v4 : Value} {post : Int32 → SG → Prop} (hd : dn cc pc (.invokevirtual idx) 3 pc') (hl : Cond.methodLink own idx y ∈ wtb) (ok : okV y cy ny ry 4) (hc : vwCl[ci]? = some q) (hq : q.1 = y.cls) (hci : ci < 11) (hk : kd o = ci) (hW : (rest.map fun v => v.category).sum ≤ 8) (hR : rm.frames + 1 ≤ R.frames ∧ 8 + (ny + 11) + rm.locals ≤ R.locals) (hrc : rm.cells = 0) (hrs : rm.slots = 0) (hM : Cti g y cy ny ry rm [.ref (ad g o), v1, v2, v3, v4] σ post) (kk : ∀ r σ', post r σ' → AW g cc nL ret R own Qc pc' lv (.int r :: rest) σ') : AW g cc nL ret R own Qc pc lv (v4 :: v3 :: v2 :: v1 :: .ref (ad g o) :: rest) σ := aw_calli (As := [v1, v2, v3, v4]) hd hl ok hc hq hci hk rfl rfl hW hR hrc hrs hM kk
theorem csi4 {v1 v2 v3 v4 : Value} {post : Int32 → SG → Prop} (hd : dn cc pc (.invokestatic idx) 3 pc') (hl : Cond.methodLink own idx y ∈ wtb) (ok : okS y cy ny ry 4) (hW : (rest.map fun v => v.category).sum ≤ 8) (hR : rm.frames + 1 ≤ R.frames ∧ 8 + (ny + 11) + rm.locals ≤ R.locals) (hrc : rm.cells = 0) (hrs : rm.slots = 0) (hM : Cti g y cy ny ry rm [v1, v2, v3, v4] σ post) (kk : ∀ r σ', post r σ' → AW g cc nL ret R own Qc pc' lv (.int r :: rest) σ') : AW g cc nL ret R own Qc pc lv (v4 :: v3 :: v2 :: v1 :: rest) σ := aw_callsi (As := [v1, v2, v3, v4]) hd hl ok rfl rfl hW hR hrc hrs hM kk
theorem cvi5 {v1 v2 v3 v4 v5 : Value} {post : Int32 → SG → Prop} (hd : dn cc pc (.invokevirtual idx) 3 pc') (hl : Cond.methodLink own idx y ∈ wtb) (ok : okV y cy ny ry 5) (hc : vwCl[ci]? = some q) (hq : q.1 = y.cls) (hci : ci < 11) (hk : kd o = ci) (hW : (rest.map fun v => v.category).sum ≤ 8) (hR : rm.frames + 1 ≤ R.frames ∧ 8 + (ny + 11) + rm.locals ≤ R.locals) (hrc : rm.cells = 0) (hrs : rm.slots = 0) (hM : Cti g y cy ny ry rm [.ref (ad g o), v1, v2, v3, v4, v5] σ post) (kk : ∀ r σ', post r σ' → AW g cc nL ret R own Qc pc' lv (.int r :: rest) σ') : AW g cc nL ret R own Qc pc lv (v5 :: v4 :: v3 :: v2 :: v1 :: .ref (ad g o) :: rest) σ := aw_calli (As := [v1, v2, v3, v4, v5]) hd hl ok hc hq hci hk rfl rfl hW hR hrc hrs hM kk
theorem csi5 {v1 v2 v3 v4 v5 : Value} {post : Int32 → SG → Prop} (hd : dn cc pc (.invokestatic idx) 3 pc') (hl : Cond.methodLink own idx y ∈ wtb) (ok : okS y cy ny ry 5) (hW : (rest.map fun v => v.category).sum ≤ 8) (hR : rm.frames + 1 ≤ R.frames ∧ 8 + (ny + 11) + rm.locals ≤ R.locals) (hrc : rm.cells = 0) (hrs : rm.slots = 0) (hM : Cti g y cy ny ry rm [v1, v2, v3, v4, v5] σ post) (kk : ∀ r σ', post r σ' → AW g cc nL ret R own Qc pc' lv (.int r :: rest) σ') : AW g cc nL ret R own Qc pc lv (v5 :: v4 :: v3 :: v2 :: v1 :: rest) σ := aw_callsi (As := [v1, v2, v3, v4, v5]) hd hl ok rfl rfl hW hR hrc hrs hM kk
theorem cvi6 {v1 v2 v3 v4 v5 v6 : Value} {post : Int32 → SG → Prop} (hd : dn cc pc (.invokevirtual idx) 3 pc') (hl : Cond.methodLink own idx y ∈ wtb) (ok : okV y cy ny ry 6) (hc : vwCl[ci]? = some q) (hq : q.1 = y.cls) (hci : ci < 11) (hk : kd o = ci) (hW : (rest.map fun v => v.category).sum ≤ 8) (hR : rm.frames + 1 ≤ R.frames ∧ 8 + (ny + 11) + rm.locals ≤ R.locals) (hrc : rm.cells = 0) (hrs : rm.slots = 0) (hM : Cti g y cy ny ry rm [.ref (ad g o), v1, v2, v3, v4, v5, v6] σ post) (kk : ∀ r σ', post r σ' → AW g cc nL ret R own Qc pc' lv (.int r :: rest) σ') : AW g cc nL ret R own Qc pc lv (v6 :: v5 :: v4 :: v3 :: v2 :: v1 :: .ref (ad g o) :: rest) σ := aw_calli (As := [v1, v2, v3, v4, v5, v6]) hd hl ok hc hq hci hk rfl rfl hW hR hrc hrs hM kk
theorem csi6 {v1 v2 v3 v4 v5 v6 : Value} {post : Int32 → SG → Prop} (hd : dn cc pc (.invokestatic idx) 3 pc') (hl : Cond.methodLink own idx y ∈ wtb) (ok : okS y cy ny ry 6) (hW : (rest.map fun v => v.category).sum ≤ 8) (hR : rm.frames + 1 ≤ R.frames ∧ 8 + (ny + 11) + rm.locals ≤ R.locals) (hrc : rm.cells = 0) (hrs : rm.slots = 0) (hM : Cti g y cy ny ry rm [v1, v2, v3, v4, v5, v6] σ post) (kk : ∀ r σ', post r σ' → AW g cc nL ret R own Qc pc' lv (.int r :: rest) σ') : AW g cc nL ret R own Qc pc lv (v6 :: v5 :: v4 :: v3 :: v2 :: v1 :: rest) σ := aw_callsi (As := [v1, v2, v3, v4, v5, v6]) hd hl ok rfl rfl hW hR hrc hrs hM kk
theorem cvv0 {post : SG → Prop} (hd : dn cc pc (.invokevirtual idx) 3 pc') (hl : Cond.methodLink own idx y ∈ wtb) (ok : okV y cy ny none 0) (hc : vwCl[ci]? = some q) (hq : q.1 = y.cls) (hci : ci < 11) (hk : kd o = ci) (hW : (rest.map fun v => v.category).sum ≤ 8) (hR : rm.frames + 1 ≤ R.frames ∧ 8 + (ny + 11) + rm.locals ≤ R.locals) (hrc : rm.cells = 0) (hrs : rm.slots = 0) (hM : Ctv g y cy ny rm [.ref (ad g o)] σ post) (kk : ∀ σ', post σ' → AW g cc nL ret R own Qc pc' lv rest σ') : AW g cc nL ret R own Qc pc lv (.ref (ad g o) :: rest) σ := aw_callv (As := []) hd hl ok hc hq hci hk rfl rfl hW hR hrc hrs hM kk
theorem cvv1 {v1 : Value} {post : SG → Prop} (hd : dn cc pc (.invokevirtual idx) 3 pc') (hl : Cond.methodLink own idx y ∈ wtb) (ok : okV y cy ny none 1) (hc : vwCl[ci]? = some q) (hq : q.1 = y.cls) (hci : ci < 11) (hk : kd o = ci) (hW : (rest.map fun v => v.category).sum ≤ 8) (hR : rm.frames + 1 ≤ R.frames ∧ 8 + (ny + 11) + rm.locals ≤ R.locals) (hrc : rm.cells = 0) (hrs : rm.slots = 0) (hM : Ctv g y cy ny rm [.ref (ad g o), v1] σ post) (kk : ∀ σ', post σ' → AW g cc nL ret R own Qc pc' lv rest σ') : AW g cc nL ret R own Qc pc lv (v1 :: .ref (ad g o) :: rest) σ := aw_callv (As := [v1]) hd hl ok hc hq hci hk rfl rfl hW hR hrc hrs hM kk
theorem csv1 {v1 : Value} {post : SG → Prop} (hd : dn cc pc (.invokestatic idx) 3 pc') (hl : Cond.methodLink own idx y ∈ wtb) (ok : okS y cy ny none 1) (hW : (rest.map fun v => v.category).sum ≤ 8) (hR : rm.frames + 1 ≤ R.frames ∧ 8 + (ny + 11) + rm.locals ≤ R.locals) (hrc : rm.cells = 0) (hrs : rm.slots = 0) (hM : Ctv g y cy ny rm [v1] σ post) (kk : ∀ σ', post σ' → AW g cc nL ret R own Qc pc' lv rest σ') : AW g cc nL ret R own Qc pc lv (v1 :: rest) σ := aw_callsv (As := [v1]) hd hl ok rfl rfl hW hR hrc hrs hM kk
theorem cvv2 {v1 v2 : Value} {post : SG → Prop} (hd : dn cc pc (.invokevirtual idx) 3 pc') (hl : Cond.methodLink own idx y ∈ wtb) (ok : okV y cy ny none 2) (hc : vwCl[ci]? = some q) (hq : q.1 = y.cls) (hci : ci < 11) (hk : kd o = ci) (hW : (rest.map fun v => v.category).sum ≤ 8) (hR : rm.frames + 1 ≤ R.frames ∧ 8 + (ny + 11) + rm.locals ≤ R.locals) (hrc : rm.cells = 0) (hrs : rm.slots = 0) (hM : Ctv g y cy ny rm [.ref (ad g o), v1, v2] σ post) (kk : ∀ σ', post σ' → AW g cc nL ret R own Qc pc' lv rest σ') : AW g cc nL ret R own Qc pc lv (v2 :: v1 :: .ref (ad g o) :: rest) σ := aw_callv (As := [v1, v2]) hd hl ok hc hq hci hk rfl rfl hW hR hrc hrs hM kk
theorem csv2 {v1 v2 : Value} {post : SG → Prop} (hd : dn cc pc (.invokestatic idx) 3 pc') (hl : Cond.methodLink own idx y ∈ wtb) (ok : okS y cy ny none 2) (hW : (rest.map fun v => v.category).sum ≤ 8) (hR : rm.frames + 1 ≤ R.frames ∧ 8 + (ny + 11) + rm.locals ≤ R.locals) (hrc : rm.cells = 0) (hrs : rm.slots = 0) (hM : Ctv g y cy ny rm [v1, v2] σ post) (kk : ∀ σ', post σ' → AW g cc nL ret R own Qc pc' lv rest σ') : AW g cc nL ret R own Qc pc lv (v2 :: v1 :: rest) σ := aw_callsv (As := [v1, v2]) hd hl ok rfl rfl hW hR hrc hrs hM kk
theorem cvv3 {v1 v2 v3 : Value} {post : SG → Prop} (hd : dn cc pc (.invokevirtual idx) 3 pc') (hl : Cond.methodLink own idx y ∈ wtb) (ok : okV y cy ny none 3) (hc : vwCl[ci]? = some q) (hq : q.1 = y.cls) (hci : ci < 11) (hk : kd o = ci) (hW : (rest.map fun v => v.category).sum ≤ 8) (hR : rm.frames + 1 ≤ R.frames ∧ 8 + (ny + 11) + rm.locals ≤ R.locals) (hrc : rm.cells = 0) (hrs : rm.slots = 0) (hM : Ctv g y cy ny rm [.ref (ad g o), v1, v2, v3] σ post) (kk : ∀ σ', post σ' → AW g cc nL ret R own Qc pc' lv rest σ') : AW g cc nL ret R own Qc pc lv (v3 :: v2 :: v1 :: .ref (ad g o) :: rest) σ := aw_callv (As := [v1, v2, v3]) hd hl ok hc hq hci hk rfl rfl hW hR hrc hrs hM kk
theorem csv3 {v1 v2 v3 : Value} {post : SG → Prop} (hd : dn cc pc (.invokestatic idx) 3 pc') (hl : Cond.methodLink own idx y ∈ wtb) (ok : okS y cy ny none 3) (hW : (rest.map fun v => v.category).sum ≤ 8) (hR : rm.frames + 1 ≤ R.frames ∧ 8 + (ny + 11) + rm.locals ≤ R.locals) (hrc : rm.cells = 0) (hrs : rm.slots = 0) (hM : Ctv g y cy ny rm [v1, v2, v3] σ post) (kk : ∀ σ', post σ' → AW g cc nL ret R own Qc pc' lv rest σ') : AW g cc nL ret R own Qc pc lv (v3 :: v2 :: v1 :: rest) σ := aw_callsv (As := [v1, v2, v3]) hd hl ok rfl rfl hW hR hrc hrs hM kk
theorem cvv4 {v1 v2 v3 v4 : Value} {post : SG → Prop} (hd : dn cc pc (.invokevirtual idx) 3 pc') (hl : Cond.methodLink own idx y ∈ wtb) (ok : okV y cy ny none 4) (hc : vwCl[ci]? = some q) (hq : q.1 = y.cls) (hci : ci < 11) (hk : kd o = ci) (hW : (rest.map fun v => v.category).sum ≤ 8) (hR : rm.frames + 1 ≤ R.frames ∧ 8 + (ny + 11) + rm.locals ≤ R.locals) (hrc : rm.cells = 0) (hrs : rm.slots = 0) (hM : Ctv g y cy ny rm [.ref (ad g o), v1, v2, v3, v4] σ post) (kk : ∀ σ', post σ' → AW g cc nL ret R own Qc pc' lv rest σ') : AW g cc nL ret R own Qc pc lv (v4 :: v3 :: v2 :: v1 :: .ref (ad g o) :: rest) σ := aw_callv (As := [v1, v2, v3, v4]) hd hl ok hc hq hci hk rfl rfl hW hR hrc hrs hM kk
theorem csv4 {v1 v2 v3 v4 : Value} {post : SG → Prop} (hd : dn cc pc (.invokestatic idx) 3 pc') (hl : Cond.methodLink own idx y ∈ wtb) (ok : okS y cy ny none 4) (hW : (rest.map fun v => v.category).sum ≤ 8) (hR : rm.frames + 1 ≤ R.frames ∧ 8 + (ny + 11) + rm.locals ≤ R.locals) (hrc : rm.cells = 0) (hrs : rm.slots = 0) (hM : Ctv g y cy ny rm [v1, v2, v3, v4] σ post) (kk : ∀ σ', post σ' → AW g cc nL ret R own Qc pc' lv rest σ') : AW g cc nL ret R own Qc pc lv (v4 :: v3 :: v2 :: v1 :: rest) σ := aw_callsv (As := [v1, v2, v3, v4]) hd hl ok rfl rfl hW hR hrc hrs hM kk
theorem cvv5 {v1 v2 v3 v4 v5 : Value} {post : SG → Prop} (hd : dn cc pc (.invokevirtual idx) 3 pc') (hl : Cond.methodLink own idx y ∈ wtb) (ok : okV y cy ny none 5) (hc : vwCl[ci]? = some q) (hq : q.1 = y.cls) (hci : ci < 11) (hk : kd o = ci) (hW : (rest.map fun v => v.category).sum ≤ 8) (hR : rm.frames + 1 ≤ R.frames ∧ 8 + (ny + 11) + rm.locals ≤ R.locals) (hrc : rm.cells = 0) (hrs : rm.slots = 0) (hM : Ctv g y cy ny rm [.ref (ad g o), v1, v2, v3, v4, v5] σ post) (kk : ∀ σ', post σ' → AW g cc nL ret R own Qc pc' lv rest σ') : AW g cc nL ret R own Qc pc lv (v5 :: v4 :: v3 :: v2 :: v1 :: .ref (ad g o) :: rest) σ := aw_callv (As := [v1, v2, v3, v4, v5]) hd hl ok hc hq hci hk rfl rfl hW hR hrc hrs hM kk
theorem csv5 {v1 v2 v3 v4 v5 : Value} {post : SG → Prop} (hd : dn cc pc (.invokestatic idx) 3 pc') (hl : Cond.methodLink own idx y ∈ wtb) (ok : okS y cy ny none 5) (hW : (rest.map fun v => v.category).sum ≤ 8) (hR : rm.frames + 1 ≤ R.frames ∧ 8 + (ny + 11) + rm.locals ≤ R.locals) (hrc : rm.cells = 0) (hrs : rm.slots = 0) (hM : Ctv g y cy ny rm [v1, v2, v3, v4, v5] σ post) (kk : ∀ σ', post σ' → AW g cc nL ret R own Qc pc' lv rest σ') : AW g cc nL ret R own Qc pc lv (v5 :: v4 :: v3 :: v2 :: v1 :: rest) σ := aw_callsv (As := [v1, v2, v3, v4, v5]) hd hl ok rfl rfl hW hR hrc hrs hM kk
theorem cvv6 {v1 v2 v3 v4 v5 v6 : Value} {post : SG → Prop} (hd : dn cc pc (.invokevirtual idx) 3 pc') (hl : Cond.methodLink own idx y ∈ wtb) (ok : okV y cy ny none 6) (hc : vwCl[ci]? = some q) (hq : q.1 = y.cls) (hci : ci < 11) (hk : kd o = ci) (hW : (rest.map fun v => v.category).sum ≤ 8) (hR : rm.frames + 1 ≤ R.frames ∧ 8 + (ny + 11) + rm.locals ≤ R.locals) (hrc : rm.cells = 0) (hrs : rm.slots = 0) (hM : Ctv g y cy ny rm [.ref (ad g o), v1, v2, v3, v4, v5, v6] σ post) (kk : ∀ σ', post σ' → AW g cc nL ret R own Qc pc' lv rest σ') : AW g cc nL ret R own Qc pc lv (v6 :: v5 :: v4 :: v3 :: v2 :: v1 :: .ref (ad g o) :: rest) σ := aw_callv (As := [v1, v2, v3, v4, v5, v6]) hd hl ok hc hq hci hk rfl rfl hW hR hrc hrs hM kk
theorem csv6 {v1 v2 v3 v4 v5 v6 : Value} {post : SG → Prop} (hd : dn cc pc (.invokestatic idx) 3 pc') (hl : Cond.methodLink own idx y ∈ wtb) (ok : okS y cy ny none 6) (hW : (rest.map fun v => v.category).sum ≤ 8) (hR : rm.frames + 1 ≤ R.frames ∧ 8 + (ny + 11) + rm.locals ≤ R.locals) (hrc : rm.cells = 0) (hrs : rm.slots = 0) (hM : Ctv g y cy ny rm [v1, v2, v3, v4, v5, v6] σ post) (kk : ∀ σ', post σ' → AW g cc nL ret R own Qc pc' lv rest σ') : AW g cc nL ret R own Qc pc lv (v6 :: v5 :: v4 :: v3 :: v2 :: v1 :: rest) σ := aw_callsv (As := [v1, v2, v3, v4, v5, v6]) hd hl ok rfl rfl hW hR hrc hrs hM kk
theorem cvr0 {o2 : Nat} {post : SG → Prop} (hd : dn cc pc (.invokevirtual idx) 3 pc') (hl : Cond.methodLink own idx y ∈ wtb) (ok : okV y cy ny ry 0) (hc : vwCl[ci]? = some q) (hq : q.1 = y.cls) (hci : ci < 11) (hk : kd o = ci) (hW : (rest.map fun v => v.category).sum ≤ 8) (hR : rm.frames + 1 ≤ R.frames ∧ 8 + (ny + 11) + rm.locals ≤ R.locals) (hrc : rm.cells = 0) (hrs : rm.slots = 0) (hM : Ctr g y cy ny ry rm [.ref (ad g o)] σ o2 post) (kk : ∀ σ', post σ' → AW g cc nL ret R own Qc pc' lv (.ref (ad g o2) :: rest) σ') : AW g cc nL ret R own Qc pc lv (.ref (ad g o) :: rest) σ := aw_callr (As := []) hd hl ok hc hq hci hk rfl rfl hW hR hrc hrs hM kk
theorem cqi0 {E : Int32} (hd : dn cc pc (.invokevirtual idx) 3 pc') (hl : Cond.methodLink own idx y ∈ wtb) (ok : okV y cy ny ry 0) (hc : vwCl[ci]? = some q) (hq : q.1 = y.cls) (hci : ci < 11) (hk : kd o = ci) (hW : (rest.map fun v => v.category).sum ≤ 8) (hR : rm.frames + 1 ≤ R.frames ∧ 8 + (ny + 11) + rm.locals ≤ R.locals) (hrc : rm.cells = 0) (hrs : rm.slots = 0) (hM : Cti g y cy ny ry rm [.ref (ad g o)] σ (fun r σ' => r = E ∧ σ' = σ)) (kk : AW g cc nL ret R own Qc pc' lv (.int E :: rest) σ) : AW g cc nL ret R own Qc pc lv (.ref (ad g o) :: rest) σ := cvi0 hd hl ok hc hq hci hk hW hR hrc hrs hM (fun r σ' h => by obtain ⟨h1, h2⟩ := h; rw [h1, h2]; exact kk)
theorem cqi1 {v1 : Value} {E : Int32} (hd : dn cc pc (.invokevirtual idx) 3 pc') (hl : Cond.methodLink own idx y ∈ wtb) (ok : okV y cy ny ry 1) (hc : vwCl[ci]? = some q) (hq : q.1 = y.cls) (hci : ci < 11) (hk : kd o = ci) (hW : (rest.map fun v => v.category).sum ≤ 8) (hR : rm.frames + 1 ≤ R.frames ∧ 8 + (ny + 11) + rm.locals ≤ R.locals) (hrc : rm.cells = 0) (hrs : rm.slots = 0) (hM : Cti g y cy ny ry rm [.ref (ad g o), v1] σ (fun r σ' => r = E ∧ σ' = σ)) (kk : AW g cc nL ret R own Qc pc' lv (.int E :: rest) σ) : AW g cc nL ret R own Qc pc lv (v1 :: .ref (ad g o) :: rest) σ := cvi1 hd hl ok hc hq hci hk hW hR hrc hrs hM (fun r σ' h => by obtain ⟨h1, h2⟩ := h; rw [h1, h2]; exact kk)
theorem csq1 {v1 : Value} {E : Int32} (hd : dn cc pc (.invokestatic idx) 3 pc') (hl : Cond.methodLink own idx y ∈ wtb) (ok : okS y cy ny ry 1) (hW : (rest.map fun v => v.category).sum ≤ 8) (hR : rm.frames + 1 ≤ R.frames ∧ 8 + (ny + 11) + rm.locals ≤ R.locals) (hrc : rm.cells = 0) (hrs : rm.slots = 0) (hM : Cti g y cy ny ry rm [v1] σ (fun r σ' => r = E ∧ σ' = σ)) (kk : AW g cc nL ret R own Qc pc' lv (.int E :: rest) σ) : AW g cc nL ret R own Qc pc lv (v1 :: rest) σ := csi1 hd hl ok hW hR hrc hrs hM (fun r σ' h => by obtain ⟨h1, h2⟩ := h; rw [h1, h2]; exact kk)
theorem cqi2 {v1 v2 : Value} {E : Int32} (hd : dn cc pc (.invokevirtual idx) 3 pc') (hl : Cond.methodLink own idx y ∈ wtb) (ok : okV y cy ny ry 2) (hc : vwCl[ci]? = some q) (hq : q.1 = y.cls) (hci : ci < 11) (hk : kd o = ci) (hW : (rest.map fun v => v.category).sum ≤ 8) (hR : rm.frames + 1 ≤ R.frames ∧ 8 + (ny + 11) + rm.locals ≤ R.locals) (hrc : rm.cells = 0) (hrs : rm.slots = 0) (hM : Cti g y cy ny ry rm [.ref (ad g o), v1, v2] σ (fun r σ' => r = E ∧ σ' = σ)) (kk : AW g cc nL ret R own Qc pc' lv (.int E :: rest) σ) : AW g cc nL ret R own Qc pc lv (v2 :: v1 :: .ref (ad g o) :: rest) σ := cvi2 hd hl ok hc hq hci hk hW hR hrc hrs hM (fun r σ' h => by obtain ⟨h1, h2⟩ := h; rw [h1, h2]; exact kk)
theorem csq2 {v1 v2 : Value} {E : Int32} (hd : dn cc pc (.invokestatic idx) 3 pc') (hl : Cond.methodLink own idx y ∈ wtb) (ok : okS y cy ny ry 2) (hW : (rest.map fun v => v.category).sum ≤ 8) (hR : rm.frames + 1 ≤ R.frames ∧ 8 + (ny + 11) + rm.locals ≤ R.locals) (hrc : rm.cells = 0) (hrs : rm.slots = 0) (hM : Cti g y cy ny ry rm [v1, v2] σ (fun r σ' => r = E ∧ σ' = σ)) (kk : AW g cc nL ret R own Qc pc' lv (.int E :: rest) σ) : AW g cc nL ret R own Qc pc lv (v2 :: v1 :: rest) σ := csi2 hd hl ok hW hR hrc hrs hM (fun r σ' h => by obtain ⟨h1, h2⟩ := h; rw [h1, h2]; exact kk)
theorem cqi3 {v1 v2 v3 : Value} {E : Int32} (hd : dn cc pc (.invokevirtual idx) 3 pc') (hl : Cond.methodLink own idx y ∈ wtb) (ok : okV y cy ny ry 3) (hc : vwCl[ci]? = some q) (hq : q.1 = y.cls) (hci : ci < 11) (hk : kd o = ci) (hW : (rest.map fun v => v.category).sum ≤ 8) (hR : rm.frames + 1 ≤ R.frames ∧ 8 + (ny + 11) + rm.locals ≤ R.locals) (hrc : rm.cells = 0) (hrs : rm.slots = 0) (hM : Cti g y cy ny ry rm [.ref (ad g o), v1, v2, v3] σ (fun r σ' => r = E ∧ σ' = σ)) (kk : AW g cc nL ret R own Qc pc' lv (.int E :: rest) σ) : AW g cc nL ret R own Qc pc lv (v3 :: v2 :: v1 :: .ref (ad g o) :: rest) σ := cvi3 hd hl ok hc hq hci hk hW hR hrc hrs hM (fun r σ' h => by obtain ⟨h1, h2⟩ := h; rw [h1, h2]; exact kk)
theorem csq3 {v1 v2 v3 : Value} {E : Int32} (hd : dn cc pc (.invokestatic idx) 3 pc') (hl : Cond.methodLink own idx y ∈ wtb) (ok : okS y cy ny ry 3) (hW : (rest.map fun v => v.category).sum ≤ 8) (hR : rm.frames + 1 ≤ R.frames ∧ 8 + (ny + 11) + rm.locals ≤ R.locals) (hrc : rm.cells = 0) (hrs : rm.slots = 0) (hM : Cti g y cy ny ry rm [v1, v2, v3] σ (fun r σ' => r = E ∧ σ' = σ)) (kk : AW g cc nL ret R own Qc pc' lv (.int E :: rest) σ) : AW g cc nL ret R own Qc pc lv (v3 :: v2 :: v1 :: rest) σ := csi3 hd hl ok hW hR hrc hrs hM (fun r σ' h => by obtain ⟨h1, h2⟩ := h; rw [h1, h2]; exact kk)
theorem cqi4 {v1 v2 v3 v4 : Value} {E : Int32} (hd : dn cc pc (.invokevirtual idx) 3 pc') (hl : Cond.methodLink own idx y ∈ wtb) (ok : okV y cy ny ry 4) (hc : vwCl[ci]? = some q) (hq : q.1 = y.cls) (hci : ci < 11) (hk : kd o = ci) (hW : (rest.map fun v => v.category).sum ≤ 8) (hR : rm.frames + 1 ≤ R.frames ∧ 8 + (ny + 11) + rm.locals ≤ R.locals) (hrc : rm.cells = 0) (hrs : rm.slots = 0) (hM : Cti g y cy ny ry rm [.ref (ad g o), v1, v2, v3, v4] σ (fun r σ' => r = E ∧ σ' = σ)) (kk : AW g cc nL ret R own Qc pc' lv (.int E :: rest) σ) : AW g cc nL ret R own Qc pc lv (v4 :: v3 :: v2 :: v1 :: .ref (ad g o) :: rest) σ := cvi4 hd hl ok hc hq hci hk hW hR hrc hrs hM (fun r σ' h => by obtain ⟨h1, h2⟩ := h; rw [h1, h2]; exact kk)
theorem csq4 {v1 v2 v3 v4 : Value} {E : Int32} (hd : dn cc pc (.invokestatic idx) 3 pc') (hl : Cond.methodLink own idx y ∈ wtb) (ok : okS y cy ny ry 4) (hW : (rest.map fun v => v.category).sum ≤ 8) (hR : rm.frames + 1 ≤ R.frames ∧ 8 + (ny + 11) + rm.locals ≤ R.locals) (hrc : rm.cells = 0) (hrs : rm.slots = 0) (hM : Cti g y cy ny ry rm [v1, v2, v3, v4] σ (fun r σ' => r = E ∧ σ' = σ)) (kk : AW g cc nL ret R own Qc pc' lv (.int E :: rest) σ) : AW g cc nL ret R own Qc pc lv (v4 :: v3 :: v2 :: v1 :: rest) σ := csi4 hd hl ok hW hR hrc hrs hM (fun r σ' h => by obtain ⟨h1, h2⟩ := h; rw [h1, h2]; exact kk)
theorem cqi5 {v1 v2 v3 v4 v5 : Value} {E : Int32} (hd : dn cc pc (.invokevirtual idx) 3 pc') (hl : Cond.methodLink own idx y ∈ wtb) (ok : okV y cy ny ry 5) (hc : vwCl[ci]? = some q) (hq : q.1 = y.cls) (hci : ci < 11) (hk : kd o = ci) (hW : (rest.map fun v => v.category).sum ≤ 8) (hR : rm.frames + 1 ≤ R.frames ∧ 8 + (ny + 11) + rm.locals ≤ R.locals) (hrc : rm.cells = 0) (hrs : rm.slots = 0) (hM : Cti g y cy ny ry rm [.ref (ad g o), v1, v2, v3, v4, v5] σ (fun r σ' => r = E ∧ σ' = σ)) (kk : AW g cc nL ret R own Qc pc' lv (.int E :: rest) σ) : AW g cc nL ret R own Qc pc lv (v5 :: v4 :: v3 :: v2 :: v1 :: .ref (ad g o) :: rest) σ := cvi5 hd hl ok hc hq hci hk hW hR hrc hrs hM (fun r σ' h => by obtain ⟨h1, h2⟩ := h; rw [h1, h2]; exact kk)
theorem csq5 {v1 v2 v3 v4 v5 : Value} {E : Int32} (hd : dn cc pc (.invokestatic idx) 3 pc') (hl : Cond.methodLink own idx y ∈ wtb) (ok : okS y cy ny ry 5) (hW : (rest.map fun v => v.category).sum ≤ 8) (hR : rm.frames + 1 ≤ R.frames ∧ 8 + (ny + 11) + rm.locals ≤ R.locals) (hrc : rm.cells = 0) (hrs : rm.slots = 0) (hM : Cti g y cy ny ry rm [v1, v2, v3, v4, v5] σ (fun r σ' => r = E ∧ σ' = σ)) (kk : AW g cc nL ret R own Qc pc' lv (.int E :: rest) σ) : AW g cc nL ret R own Qc pc lv (v5 :: v4 :: v3 :: v2 :: v1 :: rest) σ := csi5 hd hl ok hW hR hrc hrs hM (fun r σ' h => by obtain ⟨h1, h2⟩ := h; rw [h1, h2]; exact kk)
theorem cqi6 {v1 v2 v3 v4 v5 v6 : Value} {E : Int32} (hd : dn cc pc (.invokevirtual idx) 3 pc') (hl : Cond.methodLink own idx y ∈ wtb) (ok : okV y cy ny ry 6) (hc : vwCl[ci]? = some q) (hq : q.1 = y.cls) (hci : ci < 11) (hk : kd o = ci) (hW : (rest.map fun v => v.category).sum ≤ 8) (hR : rm.frames + 1 ≤ R.frames ∧ 8 + (ny + 11) + rm.locals ≤ R.locals) (hrc : rm.cells = 0) (hrs : rm.slots = 0) (hM : Cti g y cy ny ry rm [.ref (ad g o), v1, v2, v3, v4, v5, v6] σ (fun r σ' => r = E ∧ σ' = σ)) (kk : AW g cc nL ret R own Qc pc' lv (.int E :: rest) σ) : AW g cc nL ret R own Qc pc lv (v6 :: v5 :: v4 :: v3 :: v2 :: v1 :: .ref (ad g o) :: rest) σ := cvi6 hd hl ok hc hq hci hk hW hR hrc hrs hM (fun r σ' h => by obtain ⟨h1, h2⟩ := h; rw [h1, h2]; exact kk)
theorem csq6 {v1 v2 v3 v4 v5 v6 : Value} {E : Int32} (hd : dn cc pc (.invokestatic idx) 3 pc') (hl : Cond.methodLink own idx y ∈ wtb) (ok : okS y cy ny ry 6) (hW : (rest.map fun v => v.category).sum ≤ 8) (hR : rm.frames + 1 ≤ R.frames ∧ 8 + (ny + 11) + rm.locals ≤ R.locals) (hrc : rm.cells = 0) (hrs : rm.slots = 0) (hM : Cti g y cy ny ry rm [v1, v2, v3, v4, v5, v6] σ (fun r σ' => r = E ∧ σ' = σ)) (kk : AW g cc nL ret R own Qc pc' lv (.int E :: rest) σ) : AW g cc nL ret R own Qc pc lv (v6 :: v5 :: v4 :: v3 :: v2 :: v1 :: rest) σ := csi6 hd hl ok hW hR hrc hrs hM (fun r σ' h => by obtain ⟨h1, h2⟩ := h; rw [h1, h2]; exact kk)
end AWv
end
section
theorem dX0_has_0 : dn cX0_has 0 (.iload_n 1) 1 1 := ⟨by decide +kernel, rfl⟩
theorem dX0_has_1 : db cX0_has 1 (.ifCond .lt 15) 3 4 (15) 16 := ⟨by decide +kernel, rfl, rfl⟩
theorem dX0_has_4 : dn cX0_has 4 (.iload_n 1) 1 5 := ⟨by decide +kernel, rfl⟩
theorem dX0_has_5 : dn cX0_has 5 (.aload_n 0) 1 6 := ⟨by decide +kernel, rfl⟩
theorem dX0_has_6 : dn cX0_has 6 (.getfield 47) 3 9 := ⟨by decide +kernel, rfl⟩
theorem dX0_has_9 : db cX0_has 9 (.if_icmp .ge 7) 3 12 (7) 16 := ⟨by decide +kernel, rfl, rfl⟩
theorem dX0_has_12 : dn cX0_has 12 (.iconst 1) 1 13 := ⟨by decide +kernel, rfl⟩
theorem dX0_has_13 : db cX0_has 13 (.goto 4) 3 16 (4) 17 := ⟨by decide +kernel, rfl, rfl⟩
theorem dX0_has_16 : dn cX0_has 16 (.iconst 0) 1 17 := ⟨by decide +kernel, rfl⟩
theorem dX0_has_17 : dn cX0_has 17 (.ireturn) 1 18 := ⟨by decide +kernel, rfl⟩
theorem dX0_find_0 : dn cX0_find 0 (.aload_n 1) 1 1 := ⟨by decide +kernel, rfl⟩
theorem dX0_find_1 : dn cX0_find 1 (.getfield 51) 3 4 := ⟨by decide +kernel, rfl⟩
theorem dX0_find_4 : dn cX0_find 4 (.iconst 2) 1 5 := ⟨by decide +kernel, rfl⟩
theorem dX0_find_5 : dn cX0_find 5 (.iaload) 1 6 := ⟨by decide +kernel, rfl⟩
theorem dX0_find_6 : dn cX0_find 6 (.istore_n 2) 1 7 := ⟨by decide +kernel, rfl⟩
theorem dX0_find_7 : dn cX0_find 7 (.aload_n 0) 1 8 := ⟨by decide +kernel, rfl⟩
theorem dX0_find_8 : dn cX0_find 8 (.getfield 29) 3 11 := ⟨by decide +kernel, rfl⟩
theorem dX0_find_11 : dn cX0_find 11 (.aload_n 1) 1 12 := ⟨by decide +kernel, rfl⟩
theorem dX0_find_12 : dn cX0_find 12 (.aload_n 0) 1 13 := ⟨by decide +kernel, rfl⟩
theorem dX0_find_13 : dn cX0_find 13 (.getfield 20) 3 16 := ⟨by decide +kernel, rfl⟩
theorem dX0_find_16 : dn cX0_find 16 (.invokevirtual 57) 3 19 := ⟨by decide +kernel, rfl⟩
theorem dX0_find_19 : dn cX0_find 19 (.aload_n 0) 1 20 := ⟨by decide +kernel, rfl⟩
theorem dX0_find_20 : dn cX0_find 20 (.getfield 29) 3 23 := ⟨by decide +kernel, rfl⟩
theorem dX0_find_23 : dn cX0_find 23 (.iload_n 2) 1 24 := ⟨by decide +kernel, rfl⟩
theorem dX0_find_24 : dn cX0_find 24 (.aload_n 0) 1 25 := ⟨by decide +kernel, rfl⟩
theorem dX0_find_25 : dn cX0_find 25 (.getfield 20) 3 28 := ⟨by decide +kernel, rfl⟩
theorem dX0_find_28 : dn cX0_find 28 (.invokevirtual 61) 3 31 := ⟨by decide +kernel, rfl⟩
theorem dX0_find_31 : dn cX0_find 31 (.aload_n 0) 1 32 := ⟨by decide +kernel, rfl⟩
theorem dX0_find_32 : dn cX0_find 32 (.aload_n 0) 1 33 := ⟨by decide +kernel, rfl⟩
theorem dX0_find_33 : dn cX0_find 33 (.getfield 29) 3 36 := ⟨by decide +kernel, rfl⟩
theorem dX0_find_36 : dn cX0_find 36 (.aload_n 0) 1 37 := ⟨by decide +kernel, rfl⟩
theorem dX0_find_37 : dn cX0_find 37 (.getfield 20) 3 40 := ⟨by decide +kernel, rfl⟩
theorem dX0_find_40 : dn cX0_find 40 (.invokevirtual 65) 3 43 := ⟨by decide +kernel, rfl⟩
theorem dX0_find_43 : dn cX0_find 43 (.putfield 47) 3 46 := ⟨by decide +kernel, rfl⟩
theorem dX0_find_46 : dn cX0_find 46 (.iconst 0) 1 47 := ⟨by decide +kernel, rfl⟩
theorem dX0_find_47 : dn cX0_find 47 (.istore_n 3) 1 48 := ⟨by decide +kernel, rfl⟩
theorem dX0_find_48 : dn cX0_find 48 (.iload_n 3) 1 49 := ⟨by decide +kernel, rfl⟩
theorem dX0_find_49 : dn cX0_find 49 (.aload_n 0) 1 50 := ⟨by decide +kernel, rfl⟩
theorem dX0_find_50 : dn cX0_find 50 (.getfield 47) 3 53 := ⟨by decide +kernel, rfl⟩
theorem dX0_find_53 : db cX0_find 53 (.if_icmp .ge 28) 3 56 (28) 81 := ⟨by decide +kernel, rfl, rfl⟩
theorem dX0_find_56 : dn cX0_find 56 (.aload_n 0) 1 57 := ⟨by decide +kernel, rfl⟩
theorem dX0_find_57 : dn cX0_find 57 (.getfield 35) 3 60 := ⟨by decide +kernel, rfl⟩
theorem dX0_find_60 : dn cX0_find 60 (.iload_n 3) 1 61 := ⟨by decide +kernel, rfl⟩
theorem dX0_find_61 : dn cX0_find 61 (.aaload) 1 62 := ⟨by decide +kernel, rfl⟩
theorem dX0_find_62 : dn cX0_find 62 (.aload_n 0) 1 63 := ⟨by decide +kernel, rfl⟩
theorem dX0_find_63 : dn cX0_find 63 (.getfield 29) 3 66 := ⟨by decide +kernel, rfl⟩
theorem dX0_find_66 : dn cX0_find 66 (.iload_n 3) 1 67 := ⟨by decide +kernel, rfl⟩
theorem dX0_find_67 : dn cX0_find 67 (.iload_n 2) 1 68 := ⟨by decide +kernel, rfl⟩
theorem dX0_find_68 : dn cX0_find 68 (.aload_n 0) 1 69 := ⟨by decide +kernel, rfl⟩
theorem dX0_find_69 : dn cX0_find 69 (.getfield 20) 3 72 := ⟨by decide +kernel, rfl⟩
theorem dX0_find_72 : dn cX0_find 72 (.invokevirtual 69) 3 75 := ⟨by decide +kernel, rfl⟩
theorem dX0_find_75 : dn cX0_find 75 (.iinc 3 1) 3 78 := ⟨by decide +kernel, rfl⟩
theorem dX0_find_78 : db cX0_find 78 (.goto (-30)) 3 81 (-30) 48 := ⟨by decide +kernel, rfl, rfl⟩
theorem dX0_find_81 : dn cX0_find 81 (.aload_n 0) 1 82 := ⟨by decide +kernel, rfl⟩
theorem dX0_find_82 : dn cX0_find 82 (.getfield 43) 3 85 := ⟨by decide +kernel, rfl⟩
theorem dX0_find_85 : dn cX0_find 85 (.aload_n 1) 1 86 := ⟨by decide +kernel, rfl⟩
theorem dX0_find_86 : dn cX0_find 86 (.getfield 72) 3 89 := ⟨by decide +kernel, rfl⟩
theorem dX0_find_89 : dn cX0_find 89 (.aload_n 0) 1 90 := ⟨by decide +kernel, rfl⟩
theorem dX0_find_90 : dn cX0_find 90 (.getfield 35) 3 93 := ⟨by decide +kernel, rfl⟩
theorem dX0_find_93 : dn cX0_find 93 (.aload_n 0) 1 94 := ⟨by decide +kernel, rfl⟩
theorem dX0_find_94 : dn cX0_find 94 (.getfield 47) 3 97 := ⟨by decide +kernel, rfl⟩
theorem dX0_find_97 : dn cX0_find 97 (.invokevirtual 76) 3 100 := ⟨by decide +kernel, rfl⟩
theorem dX0_find_100 : dn cX0_find 100 (.iconst 0) 1 101 := ⟨by decide +kernel, rfl⟩
theorem dX0_find_101 : dn cX0_find 101 (.istore_n 3) 1 102 := ⟨by decide +kernel, rfl⟩
theorem dX0_find_102 : dn cX0_find 102 (.iload_n 3) 1 103 := ⟨by decide +kernel, rfl⟩
theorem dX0_find_103 : dn cX0_find 103 (.aload_n 0) 1 104 := ⟨by decide +kernel, rfl⟩
theorem dX0_find_104 : dn cX0_find 104 (.getfield 47) 3 107 := ⟨by decide +kernel, rfl⟩
theorem dX0_find_107 : db cX0_find 107 (.if_icmp .ge 27) 3 110 (27) 134 := ⟨by decide +kernel, rfl, rfl⟩
theorem dX0_find_110 : dn cX0_find 110 (.aload_n 0) 1 111 := ⟨by decide +kernel, rfl⟩
theorem dX0_find_111 : dn cX0_find 111 (.getfield 35) 3 114 := ⟨by decide +kernel, rfl⟩
theorem dX0_find_114 : dn cX0_find 114 (.iload_n 3) 1 115 := ⟨by decide +kernel, rfl⟩
theorem dX0_find_115 : dn cX0_find 115 (.aaload) 1 116 := ⟨by decide +kernel, rfl⟩
theorem dX0_find_116 : dn cX0_find 116 (.aload_n 1) 1 117 := ⟨by decide +kernel, rfl⟩
theorem dX0_find_117 : dn cX0_find 117 (.getfield 72) 3 120 := ⟨by decide +kernel, rfl⟩
theorem dX0_find_120 : dn cX0_find 120 (.aload_n 0) 1 121 := ⟨by decide +kernel, rfl⟩
theorem dX0_find_121 : dn cX0_find 121 (.getfield 43) 3 124 := ⟨by decide +kernel, rfl⟩
theorem dX0_find_124 : dn cX0_find 124 (.iload_n 3) 1 125 := ⟨by decide +kernel, rfl⟩
theorem dX0_find_125 : dn cX0_find 125 (.invokevirtual 79) 3 128 := ⟨by decide +kernel, rfl⟩
theorem dX0_find_128 : dn cX0_find 128 (.iinc 3 1) 3 131 := ⟨by decide +kernel, rfl⟩
theorem dX0_find_131 : db cX0_find 131 (.goto (-29)) 3 134 (-29) 102 := ⟨by decide +kernel, rfl, rfl⟩
theorem dX0_find_134 : dn cX0_find 134 (.return_) 1 135 := ⟨by decide +kernel, rfl⟩
theorem dX1_part_0 : dn cX1_part 0 (.iconst 0) 1 1 := ⟨by decide +kernel, rfl⟩
theorem dX1_part_1 : dn cX1_part 1 (.istore_n 2) 1 2 := ⟨by decide +kernel, rfl⟩
theorem dX1_part_2 : dn cX1_part 2 (.iload_n 2) 1 3 := ⟨by decide +kernel, rfl⟩
theorem dX1_part_3 : dn cX1_part 3 (.iload_n 1) 1 4 := ⟨by decide +kernel, rfl⟩
theorem dX1_part_4 : db cX1_part 4 (.if_icmp .ge 25) 3 7 (25) 29 := ⟨by decide +kernel, rfl, rfl⟩
theorem dX1_part_7 : dn cX1_part 7 (.iload_n 2) 1 8 := ⟨by decide +kernel, rfl⟩
theorem dX1_part_8 : dn cX1_part 8 (.aload_n 0) 1 9 := ⟨by decide +kernel, rfl⟩
theorem dX1_part_9 : dn cX1_part 9 (.getfield 13) 3 12 := ⟨by decide +kernel, rfl⟩
theorem dX1_part_12 : dn cX1_part 12 (.arraylength) 1 13 := ⟨by decide +kernel, rfl⟩
theorem dX1_part_13 : db cX1_part 13 (.if_icmp .ge 16) 3 16 (16) 29 := ⟨by decide +kernel, rfl, rfl⟩
theorem dX1_part_16 : dn cX1_part 16 (.aload_n 0) 1 17 := ⟨by decide +kernel, rfl⟩
theorem dX1_part_17 : dn cX1_part 17 (.getfield 13) 3 20 := ⟨by decide +kernel, rfl⟩
theorem dX1_part_20 : dn cX1_part 20 (.iload_n 2) 1 21 := ⟨by decide +kernel, rfl⟩
theorem dX1_part_21 : dn cX1_part 21 (.iload_n 2) 1 22 := ⟨by decide +kernel, rfl⟩
theorem dX1_part_22 : dn cX1_part 22 (.iastore) 1 23 := ⟨by decide +kernel, rfl⟩
theorem dX1_part_23 : dn cX1_part 23 (.iinc 2 1) 3 26 := ⟨by decide +kernel, rfl⟩
theorem dX1_part_26 : db cX1_part 26 (.goto (-24)) 3 29 (-24) 2 := ⟨by decide +kernel, rfl, rfl⟩
theorem dX1_part_29 : dn cX1_part 29 (.return_) 1 30 := ⟨by decide +kernel, rfl⟩
theorem dX1_firstOf_0 : dn cX1_firstOf 0 (.iload_n 1) 1 1 := ⟨by decide +kernel, rfl⟩
theorem dX1_firstOf_1 : db cX1_firstOf 1 (.ifCond .lt 12) 3 4 (12) 13 := ⟨by decide +kernel, rfl, rfl⟩
theorem dX1_firstOf_4 : dn cX1_firstOf 4 (.iload_n 1) 1 5 := ⟨by decide +kernel, rfl⟩
theorem dX1_firstOf_5 : dn cX1_firstOf 5 (.aload_n 0) 1 6 := ⟨by decide +kernel, rfl⟩
theorem dX1_firstOf_6 : dn cX1_firstOf 6 (.getfield 13) 3 9 := ⟨by decide +kernel, rfl⟩
theorem dX1_firstOf_9 : dn cX1_firstOf 9 (.arraylength) 1 10 := ⟨by decide +kernel, rfl⟩
theorem dX1_firstOf_10 : db cX1_firstOf 10 (.if_icmp .lt 5) 3 13 (5) 15 := ⟨by decide +kernel, rfl, rfl⟩
theorem dX1_firstOf_13 : dn cX1_firstOf 13 (.iconst 0) 1 14 := ⟨by decide +kernel, rfl⟩
theorem dX1_firstOf_14 : dn cX1_firstOf 14 (.ireturn) 1 15 := ⟨by decide +kernel, rfl⟩
theorem dX1_firstOf_15 : dn cX1_firstOf 15 (.iload_n 1) 1 16 := ⟨by decide +kernel, rfl⟩
theorem dX1_firstOf_16 : dn cX1_firstOf 16 (.istore_n 2) 1 17 := ⟨by decide +kernel, rfl⟩
theorem dX1_firstOf_17 : dn cX1_firstOf 17 (.iconst 0) 1 18 := ⟨by decide +kernel, rfl⟩
theorem dX1_firstOf_18 : dn cX1_firstOf 18 (.istore_n 3) 1 19 := ⟨by decide +kernel, rfl⟩
theorem dX1_firstOf_19 : dn cX1_firstOf 19 (.iload_n 3) 1 20 := ⟨by decide +kernel, rfl⟩
theorem dX1_firstOf_20 : dn cX1_firstOf 20 (.aload_n 0) 1 21 := ⟨by decide +kernel, rfl⟩
theorem dX1_firstOf_21 : dn cX1_firstOf 21 (.getfield 13) 3 24 := ⟨by decide +kernel, rfl⟩
theorem dX1_firstOf_24 : dn cX1_firstOf 24 (.arraylength) 1 25 := ⟨by decide +kernel, rfl⟩
theorem dX1_firstOf_25 : db cX1_firstOf 25 (.if_icmp .ge 26) 3 28 (26) 51 := ⟨by decide +kernel, rfl, rfl⟩
theorem dX1_firstOf_28 : dn cX1_firstOf 28 (.aload_n 0) 1 29 := ⟨by decide +kernel, rfl⟩
theorem dX1_firstOf_29 : dn cX1_firstOf 29 (.getfield 13) 3 32 := ⟨by decide +kernel, rfl⟩
theorem dX1_firstOf_32 : dn cX1_firstOf 32 (.iload_n 2) 1 33 := ⟨by decide +kernel, rfl⟩
theorem dX1_firstOf_33 : dn cX1_firstOf 33 (.iaload) 1 34 := ⟨by decide +kernel, rfl⟩
theorem dX1_firstOf_34 : dn cX1_firstOf 34 (.iload_n 2) 1 35 := ⟨by decide +kernel, rfl⟩
theorem dX1_firstOf_35 : db cX1_firstOf 35 (.if_icmp .ge 16) 3 38 (16) 51 := ⟨by decide +kernel, rfl, rfl⟩
theorem dX1_firstOf_38 : dn cX1_firstOf 38 (.aload_n 0) 1 39 := ⟨by decide +kernel, rfl⟩
theorem dX1_firstOf_39 : dn cX1_firstOf 39 (.getfield 13) 3 42 := ⟨by decide +kernel, rfl⟩
theorem dX1_firstOf_42 : dn cX1_firstOf 42 (.iload_n 2) 1 43 := ⟨by decide +kernel, rfl⟩
theorem dX1_firstOf_43 : dn cX1_firstOf 43 (.iaload) 1 44 := ⟨by decide +kernel, rfl⟩
theorem dX1_firstOf_44 : dn cX1_firstOf 44 (.istore_n 2) 1 45 := ⟨by decide +kernel, rfl⟩
theorem dX1_firstOf_45 : dn cX1_firstOf 45 (.iinc 3 1) 3 48 := ⟨by decide +kernel, rfl⟩
theorem dX1_firstOf_48 : db cX1_firstOf 48 (.goto (-29)) 3 51 (-29) 19 := ⟨by decide +kernel, rfl, rfl⟩
theorem dX1_firstOf_51 : dn cX1_firstOf 51 (.iload_n 2) 1 52 := ⟨by decide +kernel, rfl⟩
theorem dX1_firstOf_52 : dn cX1_firstOf 52 (.ireturn) 1 53 := ⟨by decide +kernel, rfl⟩
theorem dX1_join_0 : dn cX1_join 0 (.aload_n 0) 1 1 := ⟨by decide +kernel, rfl⟩
theorem dX1_join_1 : dn cX1_join 1 (.iload_n 1) 1 2 := ⟨by decide +kernel, rfl⟩
theorem dX1_join_2 : dn cX1_join 2 (.invokevirtual 19) 3 5 := ⟨by decide +kernel, rfl⟩
theorem dX1_join_5 : dn cX1_join 5 (.istore_n 3) 1 6 := ⟨by decide +kernel, rfl⟩
theorem dX1_join_6 : dn cX1_join 6 (.aload_n 0) 1 7 := ⟨by decide +kernel, rfl⟩
theorem dX1_join_7 : dn cX1_join 7 (.iload_n 2) 1 8 := ⟨by decide +kernel, rfl⟩
theorem dX1_join_8 : dn cX1_join 8 (.invokevirtual 19) 3 11 := ⟨by decide +kernel, rfl⟩
theorem dX1_join_11 : dn cX1_join 11 (.istore 4) 2 13 := ⟨by decide +kernel, rfl⟩
theorem dX1_join_13 : dn cX1_join 13 (.iload_n 3) 1 14 := ⟨by decide +kernel, rfl⟩
theorem dX1_join_14 : dn cX1_join 14 (.iload 4) 2 16 := ⟨by decide +kernel, rfl⟩
theorem dX1_join_16 : db cX1_join 16 (.if_icmp .eq 20) 3 19 (20) 36 := ⟨by decide +kernel, rfl, rfl⟩
theorem dX1_join_19 : dn cX1_join 19 (.aload_n 0) 1 20 := ⟨by decide +kernel, rfl⟩
theorem dX1_join_20 : dn cX1_join 20 (.getfield 13) 3 23 := ⟨by decide +kernel, rfl⟩
theorem dX1_join_23 : dn cX1_join 23 (.iload_n 3) 1 24 := ⟨by decide +kernel, rfl⟩
theorem dX1_join_24 : dn cX1_join 24 (.iload 4) 2 26 := ⟨by decide +kernel, rfl⟩
theorem dX1_join_26 : dn cX1_join 26 (.invokestatic 7) 3 29 := ⟨by decide +kernel, rfl⟩
theorem dX1_join_29 : dn cX1_join 29 (.iload_n 3) 1 30 := ⟨by decide +kernel, rfl⟩
theorem dX1_join_30 : dn cX1_join 30 (.iload 4) 2 32 := ⟨by decide +kernel, rfl⟩
theorem dX1_join_32 : dn cX1_join 32 (.invokestatic 23) 3 35 := ⟨by decide +kernel, rfl⟩
theorem dX1_join_35 : dn cX1_join 35 (.iastore) 1 36 := ⟨by decide +kernel, rfl⟩
theorem dX1_join_36 : dn cX1_join 36 (.return_) 1 37 := ⟨by decide +kernel, rfl⟩
theorem dX2_clear_0 : dn cX2_clear 0 (.aload_n 0) 1 1 := ⟨by decide +kernel, rfl⟩
theorem dX2_clear_1 : dn cX2_clear 1 (.getfield 22) 3 4 := ⟨by decide +kernel, rfl⟩
theorem dX2_clear_4 : dn cX2_clear 4 (.iconst 0) 1 5 := ⟨by decide +kernel, rfl⟩
theorem dX2_clear_5 : dn cX2_clear 5 (.iconst 0) 1 6 := ⟨by decide +kernel, rfl⟩
theorem dX2_clear_6 : dn cX2_clear 6 (.iastore) 1 7 := ⟨by decide +kernel, rfl⟩
theorem dX2_clear_7 : dn cX2_clear 7 (.aload_n 0) 1 8 := ⟨by decide +kernel, rfl⟩
theorem dX2_clear_8 : dn cX2_clear 8 (.getfield 22) 3 11 := ⟨by decide +kernel, rfl⟩
theorem dX2_clear_11 : dn cX2_clear 11 (.iconst 1) 1 12 := ⟨by decide +kernel, rfl⟩
theorem dX2_clear_12 : dn cX2_clear 12 (.iconst 0) 1 13 := ⟨by decide +kernel, rfl⟩
theorem dX2_clear_13 : dn cX2_clear 13 (.iastore) 1 14 := ⟨by decide +kernel, rfl⟩
theorem dX2_clear_14 : dn cX2_clear 14 (.return_) 1 15 := ⟨by decide +kernel, rfl⟩
theorem dX2_add_0 : dn cX2_add 0 (.aload_n 0) 1 1 := ⟨by decide +kernel, rfl⟩
theorem dX2_add_1 : dn cX2_add 1 (.getfield 22) 3 4 := ⟨by decide +kernel, rfl⟩
theorem dX2_add_4 : dn cX2_add 4 (.iload_n 1) 1 5 := ⟨by decide +kernel, rfl⟩
theorem dX2_add_5 : dn cX2_add 5 (.iaload) 1 6 := ⟨by decide +kernel, rfl⟩
theorem dX2_add_6 : dn cX2_add 6 (.istore_n 3) 1 7 := ⟨by decide +kernel, rfl⟩
theorem dX2_add_7 : dn cX2_add 7 (.iload_n 3) 1 8 := ⟨by decide +kernel, rfl⟩
theorem dX2_add_8 : dn cX2_add 8 (.aload_n 0) 1 9 := ⟨by decide +kernel, rfl⟩
theorem dX2_add_9 : dn cX2_add 9 (.getfield 17) 3 12 := ⟨by decide +kernel, rfl⟩
theorem dX2_add_12 : dn cX2_add 12 (.iload_n 1) 1 13 := ⟨by decide +kernel, rfl⟩
theorem dX2_add_13 : dn cX2_add 13 (.aaload) 1 14 := ⟨by decide +kernel, rfl⟩
theorem dX2_add_14 : dn cX2_add 14 (.arraylength) 1 15 := ⟨by decide +kernel, rfl⟩
theorem dX2_add_15 : db cX2_add 15 (.if_icmp .lt 4) 3 18 (4) 19 := ⟨by decide +kernel, rfl, rfl⟩
theorem dX2_add_18 : dn cX2_add 18 (.return_) 1 19 := ⟨by decide +kernel, rfl⟩
theorem dX2_add_19 : dn cX2_add 19 (.iload_n 3) 1 20 := ⟨by decide +kernel, rfl⟩
theorem dX2_add_20 : db cX2_add 20 (.ifCond .eq 17) 3 23 (17) 37 := ⟨by decide +kernel, rfl, rfl⟩
theorem dX2_add_23 : dn cX2_add 23 (.aload_n 0) 1 24 := ⟨by decide +kernel, rfl⟩
theorem dX2_add_24 : dn cX2_add 24 (.getfield 17) 3 27 := ⟨by decide +kernel, rfl⟩
theorem dX2_add_27 : dn cX2_add 27 (.iload_n 1) 1 28 := ⟨by decide +kernel, rfl⟩
theorem dX2_add_28 : dn cX2_add 28 (.aaload) 1 29 := ⟨by decide +kernel, rfl⟩
theorem dX2_add_29 : dn cX2_add 29 (.iload_n 3) 1 30 := ⟨by decide +kernel, rfl⟩
theorem dX2_add_30 : dn cX2_add 30 (.iconst 1) 1 31 := ⟨by decide +kernel, rfl⟩
theorem dX2_add_31 : dn cX2_add 31 (.isub) 1 32 := ⟨by decide +kernel, rfl⟩
theorem dX2_add_32 : dn cX2_add 32 (.iaload) 1 33 := ⟨by decide +kernel, rfl⟩
theorem dX2_add_33 : dn cX2_add 33 (.iload_n 2) 1 34 := ⟨by decide +kernel, rfl⟩
theorem dX2_add_34 : db cX2_add 34 (.if_icmp .eq 21) 3 37 (21) 55 := ⟨by decide +kernel, rfl, rfl⟩
theorem dX2_add_37 : dn cX2_add 37 (.aload_n 0) 1 38 := ⟨by decide +kernel, rfl⟩
theorem dX2_add_38 : dn cX2_add 38 (.getfield 17) 3 41 := ⟨by decide +kernel, rfl⟩
theorem dX2_add_41 : dn cX2_add 41 (.iload_n 1) 1 42 := ⟨by decide +kernel, rfl⟩
theorem dX2_add_42 : dn cX2_add 42 (.aaload) 1 43 := ⟨by decide +kernel, rfl⟩
theorem dX2_add_43 : dn cX2_add 43 (.iload_n 3) 1 44 := ⟨by decide +kernel, rfl⟩
theorem dX2_add_44 : dn cX2_add 44 (.iload_n 2) 1 45 := ⟨by decide +kernel, rfl⟩
theorem dX2_add_45 : dn cX2_add 45 (.iastore) 1 46 := ⟨by decide +kernel, rfl⟩
theorem dX2_add_46 : dn cX2_add 46 (.aload_n 0) 1 47 := ⟨by decide +kernel, rfl⟩
theorem dX2_add_47 : dn cX2_add 47 (.getfield 22) 3 50 := ⟨by decide +kernel, rfl⟩
theorem dX2_add_50 : dn cX2_add 50 (.iload_n 1) 1 51 := ⟨by decide +kernel, rfl⟩
theorem dX2_add_51 : dn cX2_add 51 (.iload_n 3) 1 52 := ⟨by decide +kernel, rfl⟩
theorem dX2_add_52 : dn cX2_add 52 (.iconst 1) 1 53 := ⟨by decide +kernel, rfl⟩
theorem dX2_add_53 : dn cX2_add 53 (.iadd) 1 54 := ⟨by decide +kernel, rfl⟩
theorem dX2_add_54 : dn cX2_add 54 (.iastore) 1 55 := ⟨by decide +kernel, rfl⟩
theorem dX2_add_55 : dn cX2_add 55 (.return_) 1 56 := ⟨by decide +kernel, rfl⟩
theorem dX2_placeOf_0 : dn cX2_placeOf 0 (.iload_n 2) 1 1 := ⟨by decide +kernel, rfl⟩
theorem dX2_placeOf_1 : db cX2_placeOf 1 (.ifCond .lt 24) 3 4 (24) 25 := ⟨by decide +kernel, rfl, rfl⟩
theorem dX2_placeOf_4 : dn cX2_placeOf 4 (.iload_n 2) 1 5 := ⟨by decide +kernel, rfl⟩
theorem dX2_placeOf_5 : dn cX2_placeOf 5 (.aload_n 0) 1 6 := ⟨by decide +kernel, rfl⟩
theorem dX2_placeOf_6 : dn cX2_placeOf 6 (.getfield 22) 3 9 := ⟨by decide +kernel, rfl⟩
theorem dX2_placeOf_9 : dn cX2_placeOf 9 (.iload_n 1) 1 10 := ⟨by decide +kernel, rfl⟩
theorem dX2_placeOf_10 : dn cX2_placeOf 10 (.iaload) 1 11 := ⟨by decide +kernel, rfl⟩
theorem dX2_placeOf_11 : db cX2_placeOf 11 (.if_icmp .ge 14) 3 14 (14) 25 := ⟨by decide +kernel, rfl, rfl⟩
theorem dX2_placeOf_14 : dn cX2_placeOf 14 (.aload_n 0) 1 15 := ⟨by decide +kernel, rfl⟩
theorem dX2_placeOf_15 : dn cX2_placeOf 15 (.getfield 17) 3 18 := ⟨by decide +kernel, rfl⟩
theorem dX2_placeOf_18 : dn cX2_placeOf 18 (.iload_n 1) 1 19 := ⟨by decide +kernel, rfl⟩
theorem dX2_placeOf_19 : dn cX2_placeOf 19 (.aaload) 1 20 := ⟨by decide +kernel, rfl⟩
theorem dX2_placeOf_20 : dn cX2_placeOf 20 (.iload_n 2) 1 21 := ⟨by decide +kernel, rfl⟩
theorem dX2_placeOf_21 : dn cX2_placeOf 21 (.iaload) 1 22 := ⟨by decide +kernel, rfl⟩
theorem dX2_placeOf_22 : db cX2_placeOf 22 (.goto 5) 3 25 (5) 27 := ⟨by decide +kernel, rfl, rfl⟩
theorem dX2_placeOf_25 : dn cX2_placeOf 25 (.bipush (-6)) 2 27 := ⟨by decide +kernel, rfl⟩
theorem dX2_placeOf_27 : dn cX2_placeOf 27 (.ireturn) 1 28 := ⟨by decide +kernel, rfl⟩
theorem dX2_lineAt_0 : dn cX2_lineAt 0 (.iconst 0) 1 1 := ⟨by decide +kernel, rfl⟩
theorem dX2_lineAt_1 : dn cX2_lineAt 1 (.istore_n 3) 1 2 := ⟨by decide +kernel, rfl⟩
theorem dX2_lineAt_2 : dn cX2_lineAt 2 (.iload_n 3) 1 3 := ⟨by decide +kernel, rfl⟩
theorem dX2_lineAt_3 : dn cX2_lineAt 3 (.aload_n 0) 1 4 := ⟨by decide +kernel, rfl⟩
theorem dX2_lineAt_4 : dn cX2_lineAt 4 (.getfield 22) 3 7 := ⟨by decide +kernel, rfl⟩
theorem dX2_lineAt_7 : dn cX2_lineAt 7 (.iload_n 1) 1 8 := ⟨by decide +kernel, rfl⟩
theorem dX2_lineAt_8 : dn cX2_lineAt 8 (.iaload) 1 9 := ⟨by decide +kernel, rfl⟩
theorem dX2_lineAt_9 : db cX2_lineAt 9 (.if_icmp .ge 23) 3 12 (23) 32 := ⟨by decide +kernel, rfl, rfl⟩
theorem dX2_lineAt_12 : dn cX2_lineAt 12 (.aload_n 0) 1 13 := ⟨by decide +kernel, rfl⟩
theorem dX2_lineAt_13 : dn cX2_lineAt 13 (.getfield 17) 3 16 := ⟨by decide +kernel, rfl⟩
theorem dX2_lineAt_16 : dn cX2_lineAt 16 (.iload_n 1) 1 17 := ⟨by decide +kernel, rfl⟩
theorem dX2_lineAt_17 : dn cX2_lineAt 17 (.aaload) 1 18 := ⟨by decide +kernel, rfl⟩
theorem dX2_lineAt_18 : dn cX2_lineAt 18 (.iload_n 3) 1 19 := ⟨by decide +kernel, rfl⟩
theorem dX2_lineAt_19 : dn cX2_lineAt 19 (.iaload) 1 20 := ⟨by decide +kernel, rfl⟩
theorem dX2_lineAt_20 : dn cX2_lineAt 20 (.iload_n 2) 1 21 := ⟨by decide +kernel, rfl⟩
theorem dX2_lineAt_21 : db cX2_lineAt 21 (.if_icmp .ne 5) 3 24 (5) 26 := ⟨by decide +kernel, rfl, rfl⟩
theorem dX2_lineAt_24 : dn cX2_lineAt 24 (.iload_n 3) 1 25 := ⟨by decide +kernel, rfl⟩
theorem dX2_lineAt_25 : dn cX2_lineAt 25 (.ireturn) 1 26 := ⟨by decide +kernel, rfl⟩
theorem dX2_lineAt_26 : dn cX2_lineAt 26 (.iinc 3 1) 3 29 := ⟨by decide +kernel, rfl⟩
theorem dX2_lineAt_29 : db cX2_lineAt 29 (.goto (-27)) 3 32 (-27) 2 := ⟨by decide +kernel, rfl, rfl⟩
theorem dX2_lineAt_32 : dn cX2_lineAt 32 (.bipush (-6)) 2 34 := ⟨by decide +kernel, rfl⟩
theorem dX2_lineAt_34 : dn cX2_lineAt 34 (.ireturn) 1 35 := ⟨by decide +kernel, rfl⟩
theorem dX2_lineBefore_0 : dn cX2_lineBefore 0 (.iconst 0) 1 1 := ⟨by decide +kernel, rfl⟩
theorem dX2_lineBefore_1 : dn cX2_lineBefore 1 (.istore_n 3) 1 2 := ⟨by decide +kernel, rfl⟩
theorem dX2_lineBefore_2 : dn cX2_lineBefore 2 (.iload_n 3) 1 3 := ⟨by decide +kernel, rfl⟩
theorem dX2_lineBefore_3 : dn cX2_lineBefore 3 (.iconst 1) 1 4 := ⟨by decide +kernel, rfl⟩
theorem dX2_lineBefore_4 : dn cX2_lineBefore 4 (.iadd) 1 5 := ⟨by decide +kernel, rfl⟩
theorem dX2_lineBefore_5 : dn cX2_lineBefore 5 (.aload_n 0) 1 6 := ⟨by decide +kernel, rfl⟩
theorem dX2_lineBefore_6 : dn cX2_lineBefore 6 (.getfield 22) 3 9 := ⟨by decide +kernel, rfl⟩
theorem dX2_lineBefore_9 : dn cX2_lineBefore 9 (.iload_n 1) 1 10 := ⟨by decide +kernel, rfl⟩
theorem dX2_lineBefore_10 : dn cX2_lineBefore 10 (.iaload) 1 11 := ⟨by decide +kernel, rfl⟩
theorem dX2_lineBefore_11 : db cX2_lineBefore 11 (.if_icmp .ge 41) 3 14 (41) 52 := ⟨by decide +kernel, rfl, rfl⟩
theorem dX2_lineBefore_14 : dn cX2_lineBefore 14 (.iconst 2) 1 15 := ⟨by decide +kernel, rfl⟩
theorem dX2_lineBefore_15 : dn cX2_lineBefore 15 (.aload_n 0) 1 16 := ⟨by decide +kernel, rfl⟩
theorem dX2_lineBefore_16 : dn cX2_lineBefore 16 (.getfield 17) 3 19 := ⟨by decide +kernel, rfl⟩
theorem dX2_lineBefore_19 : dn cX2_lineBefore 19 (.iload_n 1) 1 20 := ⟨by decide +kernel, rfl⟩
theorem dX2_lineBefore_20 : dn cX2_lineBefore 20 (.aaload) 1 21 := ⟨by decide +kernel, rfl⟩
theorem dX2_lineBefore_21 : dn cX2_lineBefore 21 (.iload_n 3) 1 22 := ⟨by decide +kernel, rfl⟩
theorem dX2_lineBefore_22 : dn cX2_lineBefore 22 (.iaload) 1 23 := ⟨by decide +kernel, rfl⟩
theorem dX2_lineBefore_23 : dn cX2_lineBefore 23 (.imul) 1 24 := ⟨by decide +kernel, rfl⟩
theorem dX2_lineBefore_24 : dn cX2_lineBefore 24 (.iload_n 2) 1 25 := ⟨by decide +kernel, rfl⟩
theorem dX2_lineBefore_25 : db cX2_lineBefore 25 (.if_icmp .ge 21) 3 28 (21) 46 := ⟨by decide +kernel, rfl, rfl⟩
theorem dX2_lineBefore_28 : dn cX2_lineBefore 28 (.iload_n 2) 1 29 := ⟨by decide +kernel, rfl⟩
theorem dX2_lineBefore_29 : dn cX2_lineBefore 29 (.iconst 2) 1 30 := ⟨by decide +kernel, rfl⟩
theorem dX2_lineBefore_30 : dn cX2_lineBefore 30 (.aload_n 0) 1 31 := ⟨by decide +kernel, rfl⟩
theorem dX2_lineBefore_31 : dn cX2_lineBefore 31 (.getfield 17) 3 34 := ⟨by decide +kernel, rfl⟩
theorem dX2_lineBefore_34 : dn cX2_lineBefore 34 (.iload_n 1) 1 35 := ⟨by decide +kernel, rfl⟩
theorem dX2_lineBefore_35 : dn cX2_lineBefore 35 (.aaload) 1 36 := ⟨by decide +kernel, rfl⟩
theorem dX2_lineBefore_36 : dn cX2_lineBefore 36 (.iload_n 3) 1 37 := ⟨by decide +kernel, rfl⟩
theorem dX2_lineBefore_37 : dn cX2_lineBefore 37 (.iconst 1) 1 38 := ⟨by decide +kernel, rfl⟩
theorem dX2_lineBefore_38 : dn cX2_lineBefore 38 (.iadd) 1 39 := ⟨by decide +kernel, rfl⟩
theorem dX2_lineBefore_39 : dn cX2_lineBefore 39 (.iaload) 1 40 := ⟨by decide +kernel, rfl⟩
theorem dX2_lineBefore_40 : dn cX2_lineBefore 40 (.imul) 1 41 := ⟨by decide +kernel, rfl⟩
theorem dX2_lineBefore_41 : db cX2_lineBefore 41 (.if_icmp .ge 5) 3 44 (5) 46 := ⟨by decide +kernel, rfl, rfl⟩
theorem dX2_lineBefore_44 : dn cX2_lineBefore 44 (.iload_n 3) 1 45 := ⟨by decide +kernel, rfl⟩
theorem dX2_lineBefore_45 : dn cX2_lineBefore 45 (.ireturn) 1 46 := ⟨by decide +kernel, rfl⟩
theorem dX2_lineBefore_46 : dn cX2_lineBefore 46 (.iinc 3 1) 3 49 := ⟨by decide +kernel, rfl⟩
theorem dX2_lineBefore_49 : db cX2_lineBefore 49 (.goto (-47)) 3 52 (-47) 2 := ⟨by decide +kernel, rfl, rfl⟩
theorem dX2_lineBefore_52 : dn cX2_lineBefore 52 (.bipush (-6)) 2 54 := ⟨by decide +kernel, rfl⟩
theorem dX2_lineBefore_54 : dn cX2_lineBefore 54 (.ireturn) 1 55 := ⟨by decide +kernel, rfl⟩
theorem dX3_take_0 : dn cX3_take 0 (.aload_n 0) 1 1 := ⟨by decide +kernel, rfl⟩
theorem dX3_take_1 : dn cX3_take 1 (.getfield 14) 3 4 := ⟨by decide +kernel, rfl⟩
theorem dX3_take_4 : dn cX3_take 4 (.aload_n 1) 1 5 := ⟨by decide +kernel, rfl⟩
theorem dX3_take_5 : dn cX3_take 5 (.getfield 14) 3 8 := ⟨by decide +kernel, rfl⟩
theorem dX3_take_8 : dn cX3_take 8 (.invokevirtual 35) 3 11 := ⟨by decide +kernel, rfl⟩
theorem dX3_take_11 : dn cX3_take 11 (.aload_n 0) 1 12 := ⟨by decide +kernel, rfl⟩
theorem dX3_take_12 : dn cX3_take 12 (.getfield 20) 3 15 := ⟨by decide +kernel, rfl⟩
theorem dX3_take_15 : dn cX3_take 15 (.aload_n 1) 1 16 := ⟨by decide +kernel, rfl⟩
theorem dX3_take_16 : dn cX3_take 16 (.getfield 20) 3 19 := ⟨by decide +kernel, rfl⟩
theorem dX3_take_19 : dn cX3_take 19 (.invokevirtual 35) 3 22 := ⟨by decide +kernel, rfl⟩
theorem dX3_take_22 : dn cX3_take 22 (.iconst 0) 1 23 := ⟨by decide +kernel, rfl⟩
theorem dX3_take_23 : dn cX3_take 23 (.istore_n 2) 1 24 := ⟨by decide +kernel, rfl⟩
theorem dX3_take_24 : dn cX3_take 24 (.iload_n 2) 1 25 := ⟨by decide +kernel, rfl⟩
theorem dX3_take_25 : dn cX3_take 25 (.getstatic 23) 3 28 := ⟨by decide +kernel, rfl⟩
theorem dX3_take_28 : dn cX3_take 28 (.arraylength) 1 29 := ⟨by decide +kernel, rfl⟩
theorem dX3_take_29 : db cX3_take 29 (.if_icmp .ge 21) 3 32 (21) 50 := ⟨by decide +kernel, rfl, rfl⟩
theorem dX3_take_32 : dn cX3_take 32 (.aload_n 0) 1 33 := ⟨by decide +kernel, rfl⟩
theorem dX3_take_33 : dn cX3_take 33 (.getfield 32) 3 36 := ⟨by decide +kernel, rfl⟩
theorem dX3_take_36 : dn cX3_take 36 (.iload_n 2) 1 37 := ⟨by decide +kernel, rfl⟩
theorem dX3_take_37 : dn cX3_take 37 (.aload_n 1) 1 38 := ⟨by decide +kernel, rfl⟩
theorem dX3_take_38 : dn cX3_take 38 (.getfield 32) 3 41 := ⟨by decide +kernel, rfl⟩
theorem dX3_take_41 : dn cX3_take 41 (.iload_n 2) 1 42 := ⟨by decide +kernel, rfl⟩
theorem dX3_take_42 : dn cX3_take 42 (.iaload) 1 43 := ⟨by decide +kernel, rfl⟩
theorem dX3_take_43 : dn cX3_take 43 (.iastore) 1 44 := ⟨by decide +kernel, rfl⟩
theorem dX3_take_44 : dn cX3_take 44 (.iinc 2 1) 3 47 := ⟨by decide +kernel, rfl⟩
theorem dX3_take_47 : db cX3_take 47 (.goto (-23)) 3 50 (-23) 24 := ⟨by decide +kernel, rfl, rfl⟩
theorem dX3_take_50 : dn cX3_take 50 (.return_) 1 51 := ⟨by decide +kernel, rfl⟩
theorem dX4_find_0 : dn cX4_find 0 (.aload_n 0) 1 1 := ⟨by decide +kernel, rfl⟩
theorem dX4_find_1 : dn cX4_find 1 (.aload_n 1) 1 2 := ⟨by decide +kernel, rfl⟩
theorem dX4_find_2 : dn cX4_find 2 (.getfield 21) 3 5 := ⟨by decide +kernel, rfl⟩
theorem dX4_find_5 : dn cX4_find 5 (.putfield 27) 3 8 := ⟨by decide +kernel, rfl⟩
theorem dX4_find_8 : dn cX4_find 8 (.aload_n 0) 1 9 := ⟨by decide +kernel, rfl⟩
theorem dX4_find_9 : dn cX4_find 9 (.iconst 0) 1 10 := ⟨by decide +kernel, rfl⟩
theorem dX4_find_10 : dn cX4_find 10 (.putfield 28) 3 13 := ⟨by decide +kernel, rfl⟩
theorem dX4_find_13 : dn cX4_find 13 (.iconst 0) 1 14 := ⟨by decide +kernel, rfl⟩
theorem dX4_find_14 : dn cX4_find 14 (.istore 4) 2 16 := ⟨by decide +kernel, rfl⟩
theorem dX4_find_16 : dn cX4_find 16 (.iload 4) 2 18 := ⟨by decide +kernel, rfl⟩
theorem dX4_find_18 : dn cX4_find 18 (.aload_n 0) 1 19 := ⟨by decide +kernel, rfl⟩
theorem dX4_find_19 : dn cX4_find 19 (.getfield 27) 3 22 := ⟨by decide +kernel, rfl⟩
theorem dX4_find_22 : db cX4_find 22 (.if_icmp .ge 25) 3 25 (25) 47 := ⟨by decide +kernel, rfl, rfl⟩
theorem dX4_find_25 : dn cX4_find 25 (.aload_n 0) 1 26 := ⟨by decide +kernel, rfl⟩
theorem dX4_find_26 : dn cX4_find 26 (.iload 4) 2 28 := ⟨by decide +kernel, rfl⟩
theorem dX4_find_28 : dn cX4_find 28 (.aload_n 1) 1 29 := ⟨by decide +kernel, rfl⟩
theorem dX4_find_29 : dn cX4_find 29 (.aload_n 2) 1 30 := ⟨by decide +kernel, rfl⟩
theorem dX4_find_30 : dn cX4_find 30 (.iload_n 3) 1 31 := ⟨by decide +kernel, rfl⟩
theorem dX4_find_31 : dn cX4_find 31 (.invokevirtual 31) 3 34 := ⟨by decide +kernel, rfl⟩
theorem dX4_find_34 : dn cX4_find 34 (.aload_n 0) 1 35 := ⟨by decide +kernel, rfl⟩
theorem dX4_find_35 : dn cX4_find 35 (.iload 4) 2 37 := ⟨by decide +kernel, rfl⟩
theorem dX4_find_37 : dn cX4_find 37 (.aload_n 1) 1 38 := ⟨by decide +kernel, rfl⟩
theorem dX4_find_38 : dn cX4_find 38 (.invokevirtual 35) 3 41 := ⟨by decide +kernel, rfl⟩
theorem dX4_find_41 : dn cX4_find 41 (.iinc 4 1) 3 44 := ⟨by decide +kernel, rfl⟩
theorem dX4_find_44 : db cX4_find 44 (.goto (-28)) 3 47 (-28) 16 := ⟨by decide +kernel, rfl, rfl⟩
theorem dX4_find_47 : dn cX4_find 47 (.return_) 1 48 := ⟨by decide +kernel, rfl⟩
theorem dX4_place_0 : dn cX4_place 0 (.aload_n 2) 1 1 := ⟨by decide +kernel, rfl⟩
theorem dX4_place_1 : dn cX4_place 1 (.iload_n 1) 1 2 := ⟨by decide +kernel, rfl⟩
theorem dX4_place_2 : dn cX4_place 2 (.iconst 0) 1 3 := ⟨by decide +kernel, rfl⟩
theorem dX4_place_3 : dn cX4_place 3 (.invokevirtual 39) 3 6 := ⟨by decide +kernel, rfl⟩
theorem dX4_place_6 : dn cX4_place 6 (.aload_n 2) 1 7 := ⟨by decide +kernel, rfl⟩
theorem dX4_place_7 : dn cX4_place 7 (.iload_n 1) 1 8 := ⟨by decide +kernel, rfl⟩
theorem dX4_place_8 : dn cX4_place 8 (.iconst 2) 1 9 := ⟨by decide +kernel, rfl⟩
theorem dX4_place_9 : dn cX4_place 9 (.invokevirtual 39) 3 12 := ⟨by decide +kernel, rfl⟩
theorem dX4_place_12 : dn cX4_place 12 (.iadd) 1 13 := ⟨by decide +kernel, rfl⟩
theorem dX4_place_13 : dn cX4_place 13 (.istore 5) 2 15 := ⟨by decide +kernel, rfl⟩
theorem dX4_place_15 : dn cX4_place 15 (.aload_n 2) 1 16 := ⟨by decide +kernel, rfl⟩
theorem dX4_place_16 : dn cX4_place 16 (.iload_n 1) 1 17 := ⟨by decide +kernel, rfl⟩
theorem dX4_place_17 : dn cX4_place 17 (.iconst 1) 1 18 := ⟨by decide +kernel, rfl⟩
theorem dX4_place_18 : dn cX4_place 18 (.invokevirtual 39) 3 21 := ⟨by decide +kernel, rfl⟩
theorem dX4_place_21 : dn cX4_place 21 (.aload_n 2) 1 22 := ⟨by decide +kernel, rfl⟩
theorem dX4_place_22 : dn cX4_place 22 (.iload_n 1) 1 23 := ⟨by decide +kernel, rfl⟩
theorem dX4_place_23 : dn cX4_place 23 (.iconst 3) 1 24 := ⟨by decide +kernel, rfl⟩
theorem dX4_place_24 : dn cX4_place 24 (.invokevirtual 39) 3 27 := ⟨by decide +kernel, rfl⟩
theorem dX4_place_27 : dn cX4_place 27 (.iadd) 1 28 := ⟨by decide +kernel, rfl⟩
theorem dX4_place_28 : dn cX4_place 28 (.istore 6) 2 30 := ⟨by decide +kernel, rfl⟩
theorem dX4_place_30 : dn cX4_place 30 (.iconst 0) 1 31 := ⟨by decide +kernel, rfl⟩
theorem dX4_place_31 : dn cX4_place 31 (.istore 7) 2 33 := ⟨by decide +kernel, rfl⟩
theorem dX4_place_33 : dn cX4_place 33 (.iload 7) 2 35 := ⟨by decide +kernel, rfl⟩
theorem dX4_place_35 : dn cX4_place 35 (.iload 4) 2 37 := ⟨by decide +kernel, rfl⟩
theorem dX4_place_37 : db cX4_place 37 (.if_icmp .ge 105) 3 40 (105) 142 := ⟨by decide +kernel, rfl, rfl⟩
theorem dX4_place_40 : dn cX4_place 40 (.aload_n 3) 1 41 := ⟨by decide +kernel, rfl⟩
theorem dX4_place_41 : dn cX4_place 41 (.iload 7) 2 43 := ⟨by decide +kernel, rfl⟩
theorem dX4_place_43 : dn cX4_place 43 (.aaload) 1 44 := ⟨by decide +kernel, rfl⟩
theorem dX4_place_44 : dn cX4_place 44 (.astore 8) 2 46 := ⟨by decide +kernel, rfl⟩
theorem dX4_place_46 : dn cX4_place 46 (.aload 8) 2 48 := ⟨by decide +kernel, rfl⟩
theorem dX4_place_48 : dn cX4_place 48 (.getfield 43) 3 51 := ⟨by decide +kernel, rfl⟩
theorem dX4_place_51 : dn cX4_place 51 (.iconst 0) 1 52 := ⟨by decide +kernel, rfl⟩
theorem dX4_place_52 : dn cX4_place 52 (.iload 6) 2 54 := ⟨by decide +kernel, rfl⟩
theorem dX4_place_54 : dn cX4_place 54 (.invokevirtual 49) 3 57 := ⟨by decide +kernel, rfl⟩
theorem dX4_place_57 : dn cX4_place 57 (.istore 9) 2 59 := ⟨by decide +kernel, rfl⟩
theorem dX4_place_59 : dn cX4_place 59 (.aload 8) 2 61 := ⟨by decide +kernel, rfl⟩
theorem dX4_place_61 : dn cX4_place 61 (.getfield 43) 3 64 := ⟨by decide +kernel, rfl⟩
theorem dX4_place_64 : dn cX4_place 64 (.iconst 1) 1 65 := ⟨by decide +kernel, rfl⟩
theorem dX4_place_65 : dn cX4_place 65 (.iload 5) 2 67 := ⟨by decide +kernel, rfl⟩
theorem dX4_place_67 : dn cX4_place 67 (.invokevirtual 49) 3 70 := ⟨by decide +kernel, rfl⟩
theorem dX4_place_70 : dn cX4_place 70 (.istore 10) 2 72 := ⟨by decide +kernel, rfl⟩
theorem dX4_place_72 : dn cX4_place 72 (.aload 8) 2 74 := ⟨by decide +kernel, rfl⟩
theorem dX4_place_74 : dn cX4_place 74 (.iload 9) 2 76 := ⟨by decide +kernel, rfl⟩
theorem dX4_place_76 : dn cX4_place 76 (.iload 10) 2 78 := ⟨by decide +kernel, rfl⟩
theorem dX4_place_78 : dn cX4_place 78 (.invokevirtual 54) 3 81 := ⟨by decide +kernel, rfl⟩
theorem dX4_place_81 : dn cX4_place 81 (.istore 11) 2 83 := ⟨by decide +kernel, rfl⟩
theorem dX4_place_83 : dn cX4_place 83 (.aload 8) 2 85 := ⟨by decide +kernel, rfl⟩
theorem dX4_place_85 : dn cX4_place 85 (.iload 11) 2 87 := ⟨by decide +kernel, rfl⟩
theorem dX4_place_87 : dn cX4_place 87 (.invokevirtual 57) 3 90 := ⟨by decide +kernel, rfl⟩
theorem dX4_place_90 : db cX4_place 90 (.ifCond .eq 46) 3 93 (46) 136 := ⟨by decide +kernel, rfl, rfl⟩
theorem dX4_place_93 : dn cX4_place 93 (.aload_n 0) 1 94 := ⟨by decide +kernel, rfl⟩
theorem dX4_place_94 : dn cX4_place 94 (.getfield 9) 3 97 := ⟨by decide +kernel, rfl⟩
theorem dX4_place_97 : dn cX4_place 97 (.iload_n 1) 1 98 := ⟨by decide +kernel, rfl⟩
theorem dX4_place_98 : dn cX4_place 98 (.iload 7) 2 100 := ⟨by decide +kernel, rfl⟩
theorem dX4_place_100 : dn cX4_place 100 (.iastore) 1 101 := ⟨by decide +kernel, rfl⟩
theorem dX4_place_101 : dn cX4_place 101 (.aload_n 0) 1 102 := ⟨by decide +kernel, rfl⟩
theorem dX4_place_102 : dn cX4_place 102 (.getfield 15) 3 105 := ⟨by decide +kernel, rfl⟩
theorem dX4_place_105 : dn cX4_place 105 (.iload_n 1) 1 106 := ⟨by decide +kernel, rfl⟩
theorem dX4_place_106 : dn cX4_place 106 (.iload 11) 2 108 := ⟨by decide +kernel, rfl⟩
theorem dX4_place_108 : dn cX4_place 108 (.iastore) 1 109 := ⟨by decide +kernel, rfl⟩
theorem dX4_place_109 : dn cX4_place 109 (.aload 8) 2 111 := ⟨by decide +kernel, rfl⟩
theorem dX4_place_111 : dn cX4_place 111 (.getfield 61) 3 114 := ⟨by decide +kernel, rfl⟩
theorem dX4_place_114 : dn cX4_place 114 (.bipush 6) 2 116 := ⟨by decide +kernel, rfl⟩
theorem dX4_place_116 : dn cX4_place 116 (.aaload) 1 117 := ⟨by decide +kernel, rfl⟩
theorem dX4_place_117 : dn cX4_place 117 (.iload 11) 2 119 := ⟨by decide +kernel, rfl⟩
theorem dX4_place_119 : dn cX4_place 119 (.dup2) 1 120 := ⟨by decide +kernel, rfl⟩
theorem dX4_place_120 : dn cX4_place 120 (.iaload) 1 121 := ⟨by decide +kernel, rfl⟩
theorem dX4_place_121 : dn cX4_place 121 (.iconst 1) 1 122 := ⟨by decide +kernel, rfl⟩
theorem dX4_place_122 : dn cX4_place 122 (.iadd) 1 123 := ⟨by decide +kernel, rfl⟩
theorem dX4_place_123 : dn cX4_place 123 (.iastore) 1 124 := ⟨by decide +kernel, rfl⟩
theorem dX4_place_124 : dn cX4_place 124 (.aload 8) 2 126 := ⟨by decide +kernel, rfl⟩
theorem dX4_place_126 : dn cX4_place 126 (.dup) 1 127 := ⟨by decide +kernel, rfl⟩
theorem dX4_place_127 : dn cX4_place 127 (.getfield 64) 3 130 := ⟨by decide +kernel, rfl⟩
theorem dX4_place_130 : dn cX4_place 130 (.iconst 1) 1 131 := ⟨by decide +kernel, rfl⟩
theorem dX4_place_131 : dn cX4_place 131 (.iadd) 1 132 := ⟨by decide +kernel, rfl⟩
theorem dX4_place_132 : dn cX4_place 132 (.putfield 64) 3 135 := ⟨by decide +kernel, rfl⟩
theorem dX4_place_135 : dn cX4_place 135 (.return_) 1 136 := ⟨by decide +kernel, rfl⟩
theorem dX4_place_136 : dn cX4_place 136 (.iinc 7 1) 3 139 := ⟨by decide +kernel, rfl⟩
theorem dX4_place_139 : db cX4_place 139 (.goto (-106)) 3 142 (-106) 33 := ⟨by decide +kernel, rfl, rfl⟩
theorem dX4_place_142 : dn cX4_place 142 (.aload_n 0) 1 143 := ⟨by decide +kernel, rfl⟩
theorem dX4_place_143 : dn cX4_place 143 (.getfield 9) 3 146 := ⟨by decide +kernel, rfl⟩
theorem dX4_place_146 : dn cX4_place 146 (.iload_n 1) 1 147 := ⟨by decide +kernel, rfl⟩
theorem dX4_place_147 : dn cX4_place 147 (.bipush (-6)) 2 149 := ⟨by decide +kernel, rfl⟩
theorem dX4_place_149 : dn cX4_place 149 (.iastore) 1 150 := ⟨by decide +kernel, rfl⟩
theorem dX4_place_150 : dn cX4_place 150 (.aload_n 0) 1 151 := ⟨by decide +kernel, rfl⟩
theorem dX4_place_151 : dn cX4_place 151 (.getfield 15) 3 154 := ⟨by decide +kernel, rfl⟩
theorem dX4_place_154 : dn cX4_place 154 (.iload_n 1) 1 155 := ⟨by decide +kernel, rfl⟩
theorem dX4_place_155 : dn cX4_place 155 (.bipush (-6)) 2 157 := ⟨by decide +kernel, rfl⟩
theorem dX4_place_157 : dn cX4_place 157 (.iastore) 1 158 := ⟨by decide +kernel, rfl⟩
theorem dX4_place_158 : dn cX4_place 158 (.aload_n 0) 1 159 := ⟨by decide +kernel, rfl⟩
theorem dX4_place_159 : dn cX4_place 159 (.dup) 1 160 := ⟨by decide +kernel, rfl⟩
theorem dX4_place_160 : dn cX4_place 160 (.getfield 28) 3 163 := ⟨by decide +kernel, rfl⟩
theorem dX4_place_163 : dn cX4_place 163 (.iconst 1) 1 164 := ⟨by decide +kernel, rfl⟩
theorem dX4_place_164 : dn cX4_place 164 (.iadd) 1 165 := ⟨by decide +kernel, rfl⟩
theorem dX4_place_165 : dn cX4_place 165 (.putfield 28) 3 168 := ⟨by decide +kernel, rfl⟩
theorem dX4_place_168 : dn cX4_place 168 (.return_) 1 169 := ⟨by decide +kernel, rfl⟩
theorem dX4_putInOrder_0 : dn cX4_putInOrder 0 (.iload_n 1) 1 1 := ⟨by decide +kernel, rfl⟩
theorem dX4_putInOrder_1 : dn cX4_putInOrder 1 (.istore_n 3) 1 2 := ⟨by decide +kernel, rfl⟩
theorem dX4_putInOrder_2 : dn cX4_putInOrder 2 (.iload_n 3) 1 3 := ⟨by decide +kernel, rfl⟩
theorem dX4_putInOrder_3 : db cX4_putInOrder 3 (.ifCond .le 39) 3 6 (39) 42 := ⟨by decide +kernel, rfl, rfl⟩
theorem dX4_putInOrder_6 : dn cX4_putInOrder 6 (.iload_n 1) 1 7 := ⟨by decide +kernel, rfl⟩
theorem dX4_putInOrder_7 : dn cX4_putInOrder 7 (.aload_n 0) 1 8 := ⟨by decide +kernel, rfl⟩
theorem dX4_putInOrder_8 : dn cX4_putInOrder 8 (.getfield 18) 3 11 := ⟨by decide +kernel, rfl⟩
theorem dX4_putInOrder_11 : dn cX4_putInOrder 11 (.iload_n 3) 1 12 := ⟨by decide +kernel, rfl⟩
theorem dX4_putInOrder_12 : dn cX4_putInOrder 12 (.iconst 1) 1 13 := ⟨by decide +kernel, rfl⟩
theorem dX4_putInOrder_13 : dn cX4_putInOrder 13 (.isub) 1 14 := ⟨by decide +kernel, rfl⟩
theorem dX4_putInOrder_14 : dn cX4_putInOrder 14 (.iaload) 1 15 := ⟨by decide +kernel, rfl⟩
theorem dX4_putInOrder_15 : dn cX4_putInOrder 15 (.aload_n 2) 1 16 := ⟨by decide +kernel, rfl⟩
theorem dX4_putInOrder_16 : dn cX4_putInOrder 16 (.invokestatic 67) 3 19 := ⟨by decide +kernel, rfl⟩
theorem dX4_putInOrder_19 : db cX4_putInOrder 19 (.ifCond .eq 23) 3 22 (23) 42 := ⟨by decide +kernel, rfl, rfl⟩
theorem dX4_putInOrder_22 : dn cX4_putInOrder 22 (.aload_n 0) 1 23 := ⟨by decide +kernel, rfl⟩
theorem dX4_putInOrder_23 : dn cX4_putInOrder 23 (.getfield 18) 3 26 := ⟨by decide +kernel, rfl⟩
theorem dX4_putInOrder_26 : dn cX4_putInOrder 26 (.iload_n 3) 1 27 := ⟨by decide +kernel, rfl⟩
theorem dX4_putInOrder_27 : dn cX4_putInOrder 27 (.aload_n 0) 1 28 := ⟨by decide +kernel, rfl⟩
theorem dX4_putInOrder_28 : dn cX4_putInOrder 28 (.getfield 18) 3 31 := ⟨by decide +kernel, rfl⟩
theorem dX4_putInOrder_31 : dn cX4_putInOrder 31 (.iload_n 3) 1 32 := ⟨by decide +kernel, rfl⟩
theorem dX4_putInOrder_32 : dn cX4_putInOrder 32 (.iconst 1) 1 33 := ⟨by decide +kernel, rfl⟩
theorem dX4_putInOrder_33 : dn cX4_putInOrder 33 (.isub) 1 34 := ⟨by decide +kernel, rfl⟩
theorem dX4_putInOrder_34 : dn cX4_putInOrder 34 (.iaload) 1 35 := ⟨by decide +kernel, rfl⟩
theorem dX4_putInOrder_35 : dn cX4_putInOrder 35 (.iastore) 1 36 := ⟨by decide +kernel, rfl⟩
theorem dX4_putInOrder_36 : dn cX4_putInOrder 36 (.iinc 3 (-1)) 3 39 := ⟨by decide +kernel, rfl⟩
theorem dX4_putInOrder_39 : db cX4_putInOrder 39 (.goto (-37)) 3 42 (-37) 2 := ⟨by decide +kernel, rfl, rfl⟩
theorem dX4_putInOrder_42 : dn cX4_putInOrder 42 (.aload_n 0) 1 43 := ⟨by decide +kernel, rfl⟩
theorem dX4_putInOrder_43 : dn cX4_putInOrder 43 (.getfield 18) 3 46 := ⟨by decide +kernel, rfl⟩
theorem dX4_putInOrder_46 : dn cX4_putInOrder 46 (.iload_n 3) 1 47 := ⟨by decide +kernel, rfl⟩
theorem dX4_putInOrder_47 : dn cX4_putInOrder 47 (.iload_n 1) 1 48 := ⟨by decide +kernel, rfl⟩
theorem dX4_putInOrder_48 : dn cX4_putInOrder 48 (.iastore) 1 49 := ⟨by decide +kernel, rfl⟩
theorem dX4_putInOrder_49 : dn cX4_putInOrder 49 (.return_) 1 50 := ⟨by decide +kernel, rfl⟩
theorem dX4_isReadBefore_0 : dn cX4_isReadBefore 0 (.aload_n 2) 1 1 := ⟨by decide +kernel, rfl⟩
theorem dX4_isReadBefore_1 : dn cX4_isReadBefore 1 (.iload_n 0) 1 2 := ⟨by decide +kernel, rfl⟩
theorem dX4_isReadBefore_2 : dn cX4_isReadBefore 2 (.iconst 1) 1 3 := ⟨by decide +kernel, rfl⟩
theorem dX4_isReadBefore_3 : dn cX4_isReadBefore 3 (.invokevirtual 39) 3 6 := ⟨by decide +kernel, rfl⟩
theorem dX4_isReadBefore_6 : dn cX4_isReadBefore 6 (.aload_n 2) 1 7 := ⟨by decide +kernel, rfl⟩
theorem dX4_isReadBefore_7 : dn cX4_isReadBefore 7 (.iload_n 0) 1 8 := ⟨by decide +kernel, rfl⟩
theorem dX4_isReadBefore_8 : dn cX4_isReadBefore 8 (.iconst 3) 1 9 := ⟨by decide +kernel, rfl⟩
theorem dX4_isReadBefore_9 : dn cX4_isReadBefore 9 (.invokevirtual 39) 3 12 := ⟨by decide +kernel, rfl⟩
theorem dX4_isReadBefore_12 : dn cX4_isReadBefore 12 (.iadd) 1 13 := ⟨by decide +kernel, rfl⟩
theorem dX4_isReadBefore_13 : dn cX4_isReadBefore 13 (.istore_n 3) 1 14 := ⟨by decide +kernel, rfl⟩
theorem dX4_isReadBefore_14 : dn cX4_isReadBefore 14 (.aload_n 2) 1 15 := ⟨by decide +kernel, rfl⟩
theorem dX4_isReadBefore_15 : dn cX4_isReadBefore 15 (.iload_n 1) 1 16 := ⟨by decide +kernel, rfl⟩
theorem dX4_isReadBefore_16 : dn cX4_isReadBefore 16 (.iconst 1) 1 17 := ⟨by decide +kernel, rfl⟩
theorem dX4_isReadBefore_17 : dn cX4_isReadBefore 17 (.invokevirtual 39) 3 20 := ⟨by decide +kernel, rfl⟩
theorem dX4_isReadBefore_20 : dn cX4_isReadBefore 20 (.aload_n 2) 1 21 := ⟨by decide +kernel, rfl⟩
theorem dX4_isReadBefore_21 : dn cX4_isReadBefore 21 (.iload_n 1) 1 22 := ⟨by decide +kernel, rfl⟩
theorem dX4_isReadBefore_22 : dn cX4_isReadBefore 22 (.iconst 3) 1 23 := ⟨by decide +kernel, rfl⟩
theorem dX4_isReadBefore_23 : dn cX4_isReadBefore 23 (.invokevirtual 39) 3 26 := ⟨by decide +kernel, rfl⟩
theorem dX4_isReadBefore_26 : dn cX4_isReadBefore 26 (.iadd) 1 27 := ⟨by decide +kernel, rfl⟩
theorem dX4_isReadBefore_27 : dn cX4_isReadBefore 27 (.istore 4) 2 29 := ⟨by decide +kernel, rfl⟩
theorem dX4_isReadBefore_29 : dn cX4_isReadBefore 29 (.iload_n 3) 1 30 := ⟨by decide +kernel, rfl⟩
theorem dX4_isReadBefore_30 : dn cX4_isReadBefore 30 (.iload 4) 2 32 := ⟨by decide +kernel, rfl⟩
theorem dX4_isReadBefore_32 : db cX4_isReadBefore 32 (.if_icmp .eq 15) 3 35 (15) 47 := ⟨by decide +kernel, rfl, rfl⟩
theorem dX4_isReadBefore_35 : dn cX4_isReadBefore 35 (.iload_n 3) 1 36 := ⟨by decide +kernel, rfl⟩
theorem dX4_isReadBefore_36 : dn cX4_isReadBefore 36 (.iload 4) 2 38 := ⟨by decide +kernel, rfl⟩
theorem dX4_isReadBefore_38 : db cX4_isReadBefore 38 (.if_icmp .ge 7) 3 41 (7) 45 := ⟨by decide +kernel, rfl, rfl⟩
theorem dX4_isReadBefore_41 : dn cX4_isReadBefore 41 (.iconst 1) 1 42 := ⟨by decide +kernel, rfl⟩
theorem dX4_isReadBefore_42 : db cX4_isReadBefore 42 (.goto 4) 3 45 (4) 46 := ⟨by decide +kernel, rfl, rfl⟩
theorem dX4_isReadBefore_45 : dn cX4_isReadBefore 45 (.iconst 0) 1 46 := ⟨by decide +kernel, rfl⟩
theorem dX4_isReadBefore_46 : dn cX4_isReadBefore 46 (.ireturn) 1 47 := ⟨by decide +kernel, rfl⟩
theorem dX4_isReadBefore_47 : dn cX4_isReadBefore 47 (.aload_n 2) 1 48 := ⟨by decide +kernel, rfl⟩
theorem dX4_isReadBefore_48 : dn cX4_isReadBefore 48 (.iload_n 0) 1 49 := ⟨by decide +kernel, rfl⟩
theorem dX4_isReadBefore_49 : dn cX4_isReadBefore 49 (.iconst 0) 1 50 := ⟨by decide +kernel, rfl⟩
theorem dX4_isReadBefore_50 : dn cX4_isReadBefore 50 (.invokevirtual 39) 3 53 := ⟨by decide +kernel, rfl⟩
theorem dX4_isReadBefore_53 : dn cX4_isReadBefore 53 (.aload_n 2) 1 54 := ⟨by decide +kernel, rfl⟩
theorem dX4_isReadBefore_54 : dn cX4_isReadBefore 54 (.iload_n 1) 1 55 := ⟨by decide +kernel, rfl⟩
theorem dX4_isReadBefore_55 : dn cX4_isReadBefore 55 (.iconst 0) 1 56 := ⟨by decide +kernel, rfl⟩
theorem dX4_isReadBefore_56 : dn cX4_isReadBefore 56 (.invokevirtual 39) 3 59 := ⟨by decide +kernel, rfl⟩
theorem dX4_isReadBefore_59 : db cX4_isReadBefore 59 (.if_icmp .ge 7) 3 62 (7) 66 := ⟨by decide +kernel, rfl, rfl⟩
theorem dX4_isReadBefore_62 : dn cX4_isReadBefore 62 (.iconst 1) 1 63 := ⟨by decide +kernel, rfl⟩
theorem dX4_isReadBefore_63 : db cX4_isReadBefore 63 (.goto 4) 3 66 (4) 67 := ⟨by decide +kernel, rfl, rfl⟩
theorem dX4_isReadBefore_66 : dn cX4_isReadBefore 66 (.iconst 0) 1 67 := ⟨by decide +kernel, rfl⟩
theorem dX4_isReadBefore_67 : dn cX4_isReadBefore 67 (.ireturn) 1 68 := ⟨by decide +kernel, rfl⟩
theorem dX4_isIn_0 : dn cX4_isIn 0 (.aload_n 0) 1 1 := ⟨by decide +kernel, rfl⟩
theorem dX4_isIn_1 : dn cX4_isIn 1 (.getfield 9) 3 4 := ⟨by decide +kernel, rfl⟩
theorem dX4_isIn_4 : dn cX4_isIn 4 (.iload_n 1) 1 5 := ⟨by decide +kernel, rfl⟩
theorem dX4_isIn_5 : dn cX4_isIn 5 (.iaload) 1 6 := ⟨by decide +kernel, rfl⟩
theorem dX4_isIn_6 : dn cX4_isIn 6 (.iload_n 2) 1 7 := ⟨by decide +kernel, rfl⟩
theorem dX4_isIn_7 : db cX4_isIn 7 (.if_icmp .ne 17) 3 10 (17) 24 := ⟨by decide +kernel, rfl, rfl⟩
theorem dX4_isIn_10 : dn cX4_isIn 10 (.aload_n 0) 1 11 := ⟨by decide +kernel, rfl⟩
theorem dX4_isIn_11 : dn cX4_isIn 11 (.getfield 15) 3 14 := ⟨by decide +kernel, rfl⟩
theorem dX4_isIn_14 : dn cX4_isIn 14 (.iload_n 1) 1 15 := ⟨by decide +kernel, rfl⟩
theorem dX4_isIn_15 : dn cX4_isIn 15 (.iaload) 1 16 := ⟨by decide +kernel, rfl⟩
theorem dX4_isIn_16 : dn cX4_isIn 16 (.iload_n 3) 1 17 := ⟨by decide +kernel, rfl⟩
theorem dX4_isIn_17 : db cX4_isIn 17 (.if_icmp .ne 7) 3 20 (7) 24 := ⟨by decide +kernel, rfl, rfl⟩
theorem dX4_isIn_20 : dn cX4_isIn 20 (.iconst 1) 1 21 := ⟨by decide +kernel, rfl⟩
theorem dX4_isIn_21 : db cX4_isIn 21 (.goto 4) 3 24 (4) 25 := ⟨by decide +kernel, rfl, rfl⟩
theorem dX4_isIn_24 : dn cX4_isIn 24 (.iconst 0) 1 25 := ⟨by decide +kernel, rfl⟩
theorem dX4_isIn_25 : dn cX4_isIn 25 (.ireturn) 1 26 := ⟨by decide +kernel, rfl⟩
theorem dX4_wordRead_0 : dn cX4_wordRead 0 (.iconst 0) 1 1 := ⟨by decide +kernel, rfl⟩
theorem dX4_wordRead_1 : dn cX4_wordRead 1 (.istore 4) 2 3 := ⟨by decide +kernel, rfl⟩
theorem dX4_wordRead_3 : dn cX4_wordRead 3 (.iconst 0) 1 4 := ⟨by decide +kernel, rfl⟩
theorem dX4_wordRead_4 : dn cX4_wordRead 4 (.istore 5) 2 6 := ⟨by decide +kernel, rfl⟩
theorem dX4_wordRead_6 : dn cX4_wordRead 6 (.iload 5) 2 8 := ⟨by decide +kernel, rfl⟩
theorem dX4_wordRead_8 : dn cX4_wordRead 8 (.aload_n 0) 1 9 := ⟨by decide +kernel, rfl⟩
theorem dX4_wordRead_9 : dn cX4_wordRead 9 (.getfield 27) 3 12 := ⟨by decide +kernel, rfl⟩
theorem dX4_wordRead_12 : db cX4_wordRead 12 (.if_icmp .ge 42) 3 15 (42) 54 := ⟨by decide +kernel, rfl, rfl⟩
theorem dX4_wordRead_15 : dn cX4_wordRead 15 (.aload_n 0) 1 16 := ⟨by decide +kernel, rfl⟩
theorem dX4_wordRead_16 : dn cX4_wordRead 16 (.aload_n 0) 1 17 := ⟨by decide +kernel, rfl⟩
theorem dX4_wordRead_17 : dn cX4_wordRead 17 (.getfield 18) 3 20 := ⟨by decide +kernel, rfl⟩
theorem dX4_wordRead_20 : dn cX4_wordRead 20 (.iload 5) 2 22 := ⟨by decide +kernel, rfl⟩
theorem dX4_wordRead_22 : dn cX4_wordRead 22 (.iaload) 1 23 := ⟨by decide +kernel, rfl⟩
theorem dX4_wordRead_23 : dn cX4_wordRead 23 (.iload_n 1) 1 24 := ⟨by decide +kernel, rfl⟩
theorem dX4_wordRead_24 : dn cX4_wordRead 24 (.iload_n 2) 1 25 := ⟨by decide +kernel, rfl⟩
theorem dX4_wordRead_25 : dn cX4_wordRead 25 (.invokevirtual 71) 3 28 := ⟨by decide +kernel, rfl⟩
theorem dX4_wordRead_28 : db cX4_wordRead 28 (.ifCond .eq 20) 3 31 (20) 48 := ⟨by decide +kernel, rfl, rfl⟩
theorem dX4_wordRead_31 : dn cX4_wordRead 31 (.iload 4) 2 33 := ⟨by decide +kernel, rfl⟩
theorem dX4_wordRead_33 : dn cX4_wordRead 33 (.iload_n 3) 1 34 := ⟨by decide +kernel, rfl⟩
theorem dX4_wordRead_34 : db cX4_wordRead 34 (.if_icmp .ne 11) 3 37 (11) 45 := ⟨by decide +kernel, rfl, rfl⟩
theorem dX4_wordRead_37 : dn cX4_wordRead 37 (.aload_n 0) 1 38 := ⟨by decide +kernel, rfl⟩
theorem dX4_wordRead_38 : dn cX4_wordRead 38 (.getfield 18) 3 41 := ⟨by decide +kernel, rfl⟩
theorem dX4_wordRead_41 : dn cX4_wordRead 41 (.iload 5) 2 43 := ⟨by decide +kernel, rfl⟩
theorem dX4_wordRead_43 : dn cX4_wordRead 43 (.iaload) 1 44 := ⟨by decide +kernel, rfl⟩
theorem dX4_wordRead_44 : dn cX4_wordRead 44 (.ireturn) 1 45 := ⟨by decide +kernel, rfl⟩
theorem dX4_wordRead_45 : dn cX4_wordRead 45 (.iinc 4 1) 3 48 := ⟨by decide +kernel, rfl⟩
theorem dX4_wordRead_48 : dn cX4_wordRead 48 (.iinc 5 1) 3 51 := ⟨by decide +kernel, rfl⟩
theorem dX4_wordRead_51 : db cX4_wordRead 51 (.goto (-45)) 3 54 (-45) 6 := ⟨by decide +kernel, rfl, rfl⟩
theorem dX4_wordRead_54 : dn cX4_wordRead 54 (.bipush (-6)) 2 56 := ⟨by decide +kernel, rfl⟩
theorem dX4_wordRead_56 : dn cX4_wordRead 56 (.ireturn) 1 57 := ⟨by decide +kernel, rfl⟩
theorem dX4_keepClear_0 : dn cX4_keepClear 0 (.iconst 0) 1 1 := ⟨by decide +kernel, rfl⟩
theorem dX4_keepClear_1 : dn cX4_keepClear 1 (.istore 6) 2 3 := ⟨by decide +kernel, rfl⟩
theorem dX4_keepClear_3 : dn cX4_keepClear 3 (.iconst 0) 1 4 := ⟨by decide +kernel, rfl⟩
theorem dX4_keepClear_4 : dn cX4_keepClear 4 (.istore 7) 2 6 := ⟨by decide +kernel, rfl⟩
theorem dX4_keepClear_6 : dn cX4_keepClear 6 (.iconst 0) 1 7 := ⟨by decide +kernel, rfl⟩
theorem dX4_keepClear_7 : dn cX4_keepClear 7 (.istore 8) 2 9 := ⟨by decide +kernel, rfl⟩
theorem dX4_keepClear_9 : dn cX4_keepClear 9 (.iload 8) 2 11 := ⟨by decide +kernel, rfl⟩
theorem dX4_keepClear_11 : dn cX4_keepClear 11 (.aload_n 0) 1 12 := ⟨by decide +kernel, rfl⟩
theorem dX4_keepClear_12 : dn cX4_keepClear 12 (.getfield 27) 3 15 := ⟨by decide +kernel, rfl⟩
theorem dX4_keepClear_15 : db cX4_keepClear 15 (.if_icmp .ge 124) 3 18 (124) 139 := ⟨by decide +kernel, rfl, rfl⟩
theorem dX4_keepClear_18 : dn cX4_keepClear 18 (.aload_n 0) 1 19 := ⟨by decide +kernel, rfl⟩
theorem dX4_keepClear_19 : dn cX4_keepClear 19 (.iload 8) 2 21 := ⟨by decide +kernel, rfl⟩
theorem dX4_keepClear_21 : dn cX4_keepClear 21 (.iload_n 2) 1 22 := ⟨by decide +kernel, rfl⟩
theorem dX4_keepClear_22 : dn cX4_keepClear 22 (.iload_n 3) 1 23 := ⟨by decide +kernel, rfl⟩
theorem dX4_keepClear_23 : dn cX4_keepClear 23 (.invokevirtual 71) 3 26 := ⟨by decide +kernel, rfl⟩
theorem dX4_keepClear_26 : db cX4_keepClear 26 (.ifCond .eq 107) 3 29 (107) 133 := ⟨by decide +kernel, rfl, rfl⟩
theorem dX4_keepClear_29 : dn cX4_keepClear 29 (.aload_n 1) 1 30 := ⟨by decide +kernel, rfl⟩
theorem dX4_keepClear_30 : dn cX4_keepClear 30 (.iload 8) 2 32 := ⟨by decide +kernel, rfl⟩
theorem dX4_keepClear_32 : dn cX4_keepClear 32 (.iload 4) 2 34 := ⟨by decide +kernel, rfl⟩
theorem dX4_keepClear_34 : dn cX4_keepClear 34 (.iconst 1) 1 35 := ⟨by decide +kernel, rfl⟩
theorem dX4_keepClear_35 : db cX4_keepClear 35 (.if_icmp .ne 7) 3 38 (7) 42 := ⟨by decide +kernel, rfl, rfl⟩
theorem dX4_keepClear_38 : dn cX4_keepClear 38 (.iconst 2) 1 39 := ⟨by decide +kernel, rfl⟩
theorem dX4_keepClear_39 : db cX4_keepClear 39 (.goto 4) 3 42 (4) 43 := ⟨by decide +kernel, rfl, rfl⟩
theorem dX4_keepClear_42 : dn cX4_keepClear 42 (.iconst 3) 1 43 := ⟨by decide +kernel, rfl⟩
theorem dX4_keepClear_43 : dn cX4_keepClear 43 (.invokevirtual 39) 3 46 := ⟨by decide +kernel, rfl⟩
theorem dX4_keepClear_46 : dn cX4_keepClear 46 (.iload 5) 2 48 := ⟨by decide +kernel, rfl⟩
theorem dX4_keepClear_48 : db cX4_keepClear 48 (.if_icmp .gt 7) 3 51 (7) 55 := ⟨by decide +kernel, rfl, rfl⟩
theorem dX4_keepClear_51 : dn cX4_keepClear 51 (.iconst 1) 1 52 := ⟨by decide +kernel, rfl⟩
theorem dX4_keepClear_52 : db cX4_keepClear 52 (.goto 4) 3 55 (4) 56 := ⟨by decide +kernel, rfl, rfl⟩
theorem dX4_keepClear_55 : dn cX4_keepClear 55 (.iconst 0) 1 56 := ⟨by decide +kernel, rfl⟩
theorem dX4_keepClear_56 : dn cX4_keepClear 56 (.istore 9) 2 58 := ⟨by decide +kernel, rfl⟩
theorem dX4_keepClear_58 : dn cX4_keepClear 58 (.aload_n 1) 1 59 := ⟨by decide +kernel, rfl⟩
theorem dX4_keepClear_59 : dn cX4_keepClear 59 (.iload 8) 2 61 := ⟨by decide +kernel, rfl⟩
theorem dX4_keepClear_61 : dn cX4_keepClear 61 (.iload 4) 2 63 := ⟨by decide +kernel, rfl⟩
theorem dX4_keepClear_63 : dn cX4_keepClear 63 (.iconst 1) 1 64 := ⟨by decide +kernel, rfl⟩
theorem dX4_keepClear_64 : db cX4_keepClear 64 (.if_icmp .ne 7) 3 67 (7) 71 := ⟨by decide +kernel, rfl, rfl⟩
theorem dX4_keepClear_67 : dn cX4_keepClear 67 (.iconst 0) 1 68 := ⟨by decide +kernel, rfl⟩
theorem dX4_keepClear_68 : db cX4_keepClear 68 (.goto 4) 3 71 (4) 72 := ⟨by decide +kernel, rfl, rfl⟩
theorem dX4_keepClear_71 : dn cX4_keepClear 71 (.iconst 1) 1 72 := ⟨by decide +kernel, rfl⟩
theorem dX4_keepClear_72 : dn cX4_keepClear 72 (.invokevirtual 39) 3 75 := ⟨by decide +kernel, rfl⟩
theorem dX4_keepClear_75 : dn cX4_keepClear 75 (.iload 5) 2 77 := ⟨by decide +kernel, rfl⟩
theorem dX4_keepClear_77 : db cX4_keepClear 77 (.if_icmp .lt 7) 3 80 (7) 84 := ⟨by decide +kernel, rfl, rfl⟩
theorem dX4_keepClear_80 : dn cX4_keepClear 80 (.iconst 1) 1 81 := ⟨by decide +kernel, rfl⟩
theorem dX4_keepClear_81 : db cX4_keepClear 81 (.goto 4) 3 84 (4) 85 := ⟨by decide +kernel, rfl, rfl⟩
theorem dX4_keepClear_84 : dn cX4_keepClear 84 (.iconst 0) 1 85 := ⟨by decide +kernel, rfl⟩
theorem dX4_keepClear_85 : dn cX4_keepClear 85 (.istore 10) 2 87 := ⟨by decide +kernel, rfl⟩
theorem dX4_keepClear_87 : dn cX4_keepClear 87 (.iload 9) 2 89 := ⟨by decide +kernel, rfl⟩
theorem dX4_keepClear_89 : db cX4_keepClear 89 (.ifCond .ne 10) 3 92 (10) 99 := ⟨by decide +kernel, rfl, rfl⟩
theorem dX4_keepClear_92 : dn cX4_keepClear 92 (.iload 10) 2 94 := ⟨by decide +kernel, rfl⟩
theorem dX4_keepClear_94 : db cX4_keepClear 94 (.ifCond .ne 5) 3 97 (5) 99 := ⟨by decide +kernel, rfl, rfl⟩
theorem dX4_keepClear_97 : dn cX4_keepClear 97 (.iconst 0) 1 98 := ⟨by decide +kernel, rfl⟩
theorem dX4_keepClear_98 : dn cX4_keepClear 98 (.ireturn) 1 99 := ⟨by decide +kernel, rfl⟩
theorem dX4_keepClear_99 : dn cX4_keepClear 99 (.iload 6) 2 101 := ⟨by decide +kernel, rfl⟩
theorem dX4_keepClear_101 : db cX4_keepClear 101 (.ifCond .ne 8) 3 104 (8) 109 := ⟨by decide +kernel, rfl, rfl⟩
theorem dX4_keepClear_104 : dn cX4_keepClear 104 (.iload 9) 2 106 := ⟨by decide +kernel, rfl⟩
theorem dX4_keepClear_106 : db cX4_keepClear 106 (.ifCond .eq 7) 3 109 (7) 113 := ⟨by decide +kernel, rfl, rfl⟩
theorem dX4_keepClear_109 : dn cX4_keepClear 109 (.iconst 1) 1 110 := ⟨by decide +kernel, rfl⟩
theorem dX4_keepClear_110 : db cX4_keepClear 110 (.goto 4) 3 113 (4) 114 := ⟨by decide +kernel, rfl, rfl⟩
theorem dX4_keepClear_113 : dn cX4_keepClear 113 (.iconst 0) 1 114 := ⟨by decide +kernel, rfl⟩
theorem dX4_keepClear_114 : dn cX4_keepClear 114 (.istore 6) 2 116 := ⟨by decide +kernel, rfl⟩
theorem dX4_keepClear_116 : dn cX4_keepClear 116 (.iload 7) 2 118 := ⟨by decide +kernel, rfl⟩
theorem dX4_keepClear_118 : db cX4_keepClear 118 (.ifCond .ne 8) 3 121 (8) 126 := ⟨by decide +kernel, rfl, rfl⟩
theorem dX4_keepClear_121 : dn cX4_keepClear 121 (.iload 10) 2 123 := ⟨by decide +kernel, rfl⟩
theorem dX4_keepClear_123 : db cX4_keepClear 123 (.ifCond .eq 7) 3 126 (7) 130 := ⟨by decide +kernel, rfl, rfl⟩
theorem dX4_keepClear_126 : dn cX4_keepClear 126 (.iconst 1) 1 127 := ⟨by decide +kernel, rfl⟩
theorem dX4_keepClear_127 : db cX4_keepClear 127 (.goto 4) 3 130 (4) 131 := ⟨by decide +kernel, rfl, rfl⟩
theorem dX4_keepClear_130 : dn cX4_keepClear 130 (.iconst 0) 1 131 := ⟨by decide +kernel, rfl⟩
theorem dX4_keepClear_131 : dn cX4_keepClear 131 (.istore 7) 2 133 := ⟨by decide +kernel, rfl⟩
theorem dX4_keepClear_133 : dn cX4_keepClear 133 (.iinc 8 1) 3 136 := ⟨by decide +kernel, rfl⟩
theorem dX4_keepClear_136 : db cX4_keepClear 136 (.goto (-127)) 3 139 (-127) 9 := ⟨by decide +kernel, rfl, rfl⟩
theorem dX4_keepClear_139 : dn cX4_keepClear 139 (.iload 6) 2 141 := ⟨by decide +kernel, rfl⟩
theorem dX4_keepClear_141 : db cX4_keepClear 141 (.ifCond .eq 12) 3 144 (12) 153 := ⟨by decide +kernel, rfl, rfl⟩
theorem dX4_keepClear_144 : dn cX4_keepClear 144 (.iload 7) 2 146 := ⟨by decide +kernel, rfl⟩
theorem dX4_keepClear_146 : db cX4_keepClear 146 (.ifCond .eq 7) 3 149 (7) 153 := ⟨by decide +kernel, rfl, rfl⟩
theorem dX4_keepClear_149 : dn cX4_keepClear 149 (.iconst 1) 1 150 := ⟨by decide +kernel, rfl⟩
theorem dX4_keepClear_150 : db cX4_keepClear 150 (.goto 4) 3 153 (4) 154 := ⟨by decide +kernel, rfl, rfl⟩
theorem dX4_keepClear_153 : dn cX4_keepClear 153 (.iconst 0) 1 154 := ⟨by decide +kernel, rfl⟩
theorem dX4_keepClear_154 : dn cX4_keepClear 154 (.ireturn) 1 155 := ⟨by decide +kernel, rfl⟩
theorem dX5_has_0 : dn cX5_has 0 (.iload_n 1) 1 1 := ⟨by decide +kernel, rfl⟩
theorem dX5_has_1 : db cX5_has 1 (.ifCond .lt 15) 3 4 (15) 16 := ⟨by decide +kernel, rfl, rfl⟩
theorem dX5_has_4 : dn cX5_has 4 (.iload_n 1) 1 5 := ⟨by decide +kernel, rfl⟩
theorem dX5_has_5 : dn cX5_has 5 (.aload_n 0) 1 6 := ⟨by decide +kernel, rfl⟩
theorem dX5_has_6 : dn cX5_has 6 (.getfield 25) 3 9 := ⟨by decide +kernel, rfl⟩
theorem dX5_has_9 : db cX5_has 9 (.if_icmp .ge 7) 3 12 (7) 16 := ⟨by decide +kernel, rfl, rfl⟩
theorem dX5_has_12 : dn cX5_has 12 (.iconst 1) 1 13 := ⟨by decide +kernel, rfl⟩
theorem dX5_has_13 : db cX5_has 13 (.goto 4) 3 16 (4) 17 := ⟨by decide +kernel, rfl, rfl⟩
theorem dX5_has_16 : dn cX5_has 16 (.iconst 0) 1 17 := ⟨by decide +kernel, rfl⟩
theorem dX5_has_17 : dn cX5_has 17 (.ireturn) 1 18 := ⟨by decide +kernel, rfl⟩
theorem dX5_isFull_0 : dn cX5_isFull 0 (.aload_n 0) 1 1 := ⟨by decide +kernel, rfl⟩
theorem dX5_isFull_1 : dn cX5_isFull 1 (.getfield 25) 3 4 := ⟨by decide +kernel, rfl⟩
theorem dX5_isFull_4 : dn cX5_isFull 4 (.aload_n 0) 1 5 := ⟨by decide +kernel, rfl⟩
theorem dX5_isFull_5 : dn cX5_isFull 5 (.getfield 15) 3 8 := ⟨by decide +kernel, rfl⟩
theorem dX5_isFull_8 : db cX5_isFull 8 (.if_icmp .lt 7) 3 11 (7) 15 := ⟨by decide +kernel, rfl, rfl⟩
theorem dX5_isFull_11 : dn cX5_isFull 11 (.iconst 1) 1 12 := ⟨by decide +kernel, rfl⟩
theorem dX5_isFull_12 : db cX5_isFull 12 (.goto 4) 3 15 (4) 16 := ⟨by decide +kernel, rfl, rfl⟩
theorem dX5_isFull_15 : dn cX5_isFull 15 (.iconst 0) 1 16 := ⟨by decide +kernel, rfl⟩
theorem dX5_isFull_16 : dn cX5_isFull 16 (.ireturn) 1 17 := ⟨by decide +kernel, rfl⟩
theorem dX5_number_0 : dn cX5_number 0 (.iload_n 1) 1 1 := ⟨by decide +kernel, rfl⟩
theorem dX5_number_1 : db cX5_number 1 (.ifCond .lt 24) 3 4 (24) 25 := ⟨by decide +kernel, rfl, rfl⟩
theorem dX5_number_4 : dn cX5_number 4 (.iload_n 1) 1 5 := ⟨by decide +kernel, rfl⟩
theorem dX5_number_5 : dn cX5_number 5 (.aload_n 0) 1 6 := ⟨by decide +kernel, rfl⟩
theorem dX5_number_6 : dn cX5_number 6 (.getfield 25) 3 9 := ⟨by decide +kernel, rfl⟩
theorem dX5_number_9 : db cX5_number 9 (.if_icmp .ge 16) 3 12 (16) 25 := ⟨by decide +kernel, rfl, rfl⟩
theorem dX5_number_12 : dn cX5_number 12 (.iload_n 2) 1 13 := ⟨by decide +kernel, rfl⟩
theorem dX5_number_13 : db cX5_number 13 (.ifCond .lt 12) 3 16 (12) 25 := ⟨by decide +kernel, rfl, rfl⟩
theorem dX5_number_16 : dn cX5_number 16 (.iload_n 2) 1 17 := ⟨by decide +kernel, rfl⟩
theorem dX5_number_17 : dn cX5_number 17 (.iconst 4) 1 18 := ⟨by decide +kernel, rfl⟩
theorem dX5_number_18 : db cX5_number 18 (.if_icmp .ge 7) 3 21 (7) 25 := ⟨by decide +kernel, rfl, rfl⟩
theorem dX5_number_21 : dn cX5_number 21 (.iconst 1) 1 22 := ⟨by decide +kernel, rfl⟩
theorem dX5_number_22 : db cX5_number 22 (.goto 4) 3 25 (4) 26 := ⟨by decide +kernel, rfl, rfl⟩
theorem dX5_number_25 : dn cX5_number 25 (.iconst 0) 1 26 := ⟨by decide +kernel, rfl⟩
theorem dX5_number_26 : dn cX5_number 26 (.istore_n 3) 1 27 := ⟨by decide +kernel, rfl⟩
theorem dX5_number_27 : dn cX5_number 27 (.iload_n 3) 1 28 := ⟨by decide +kernel, rfl⟩
theorem dX5_number_28 : db cX5_number 28 (.ifCond .eq 16) 3 31 (16) 44 := ⟨by decide +kernel, rfl, rfl⟩
theorem dX5_number_31 : dn cX5_number 31 (.aload_n 0) 1 32 := ⟨by decide +kernel, rfl⟩
theorem dX5_number_32 : dn cX5_number 32 (.getfield 21) 3 35 := ⟨by decide +kernel, rfl⟩
theorem dX5_number_35 : dn cX5_number 35 (.iload_n 1) 1 36 := ⟨by decide +kernel, rfl⟩
theorem dX5_number_36 : dn cX5_number 36 (.iconst 4) 1 37 := ⟨by decide +kernel, rfl⟩
theorem dX5_number_37 : dn cX5_number 37 (.imul) 1 38 := ⟨by decide +kernel, rfl⟩
theorem dX5_number_38 : dn cX5_number 38 (.iload_n 2) 1 39 := ⟨by decide +kernel, rfl⟩
theorem dX5_number_39 : dn cX5_number 39 (.iadd) 1 40 := ⟨by decide +kernel, rfl⟩
theorem dX5_number_40 : dn cX5_number 40 (.iaload) 1 41 := ⟨by decide +kernel, rfl⟩
theorem dX5_number_41 : db cX5_number 41 (.goto 5) 3 44 (5) 46 := ⟨by decide +kernel, rfl, rfl⟩
theorem dX5_number_44 : dn cX5_number 44 (.bipush (-6)) 2 46 := ⟨by decide +kernel, rfl⟩
theorem dX5_number_46 : dn cX5_number 46 (.ireturn) 1 47 := ⟨by decide +kernel, rfl⟩
theorem dX5_add_0 : dn cX5_add 0 (.aload_n 0) 1 1 := ⟨by decide +kernel, rfl⟩
theorem dX5_add_1 : dn cX5_add 1 (.invokevirtual 28) 3 4 := ⟨by decide +kernel, rfl⟩
theorem dX5_add_4 : db cX5_add 4 (.ifCond .eq 4) 3 7 (4) 8 := ⟨by decide +kernel, rfl, rfl⟩
theorem dX5_add_7 : dn cX5_add 7 (.return_) 1 8 := ⟨by decide +kernel, rfl⟩
theorem dX5_add_8 : dn cX5_add 8 (.aload_n 0) 1 9 := ⟨by decide +kernel, rfl⟩
theorem dX5_add_9 : dn cX5_add 9 (.getfield 25) 3 12 := ⟨by decide +kernel, rfl⟩
theorem dX5_add_12 : dn cX5_add 12 (.iconst 4) 1 13 := ⟨by decide +kernel, rfl⟩
theorem dX5_add_13 : dn cX5_add 13 (.imul) 1 14 := ⟨by decide +kernel, rfl⟩
theorem dX5_add_14 : dn cX5_add 14 (.istore 5) 2 16 := ⟨by decide +kernel, rfl⟩
theorem dX5_add_16 : dn cX5_add 16 (.aload_n 0) 1 17 := ⟨by decide +kernel, rfl⟩
theorem dX5_add_17 : dn cX5_add 17 (.getfield 21) 3 20 := ⟨by decide +kernel, rfl⟩
theorem dX5_add_20 : dn cX5_add 20 (.iload 5) 2 22 := ⟨by decide +kernel, rfl⟩
theorem dX5_add_22 : dn cX5_add 22 (.iload_n 1) 1 23 := ⟨by decide +kernel, rfl⟩
theorem dX5_add_23 : dn cX5_add 23 (.iastore) 1 24 := ⟨by decide +kernel, rfl⟩
theorem dX5_add_24 : dn cX5_add 24 (.aload_n 0) 1 25 := ⟨by decide +kernel, rfl⟩
theorem dX5_add_25 : dn cX5_add 25 (.getfield 21) 3 28 := ⟨by decide +kernel, rfl⟩
theorem dX5_add_28 : dn cX5_add 28 (.iload 5) 2 30 := ⟨by decide +kernel, rfl⟩
theorem dX5_add_30 : dn cX5_add 30 (.iconst 1) 1 31 := ⟨by decide +kernel, rfl⟩
theorem dX5_add_31 : dn cX5_add 31 (.iadd) 1 32 := ⟨by decide +kernel, rfl⟩
theorem dX5_add_32 : dn cX5_add 32 (.iload_n 2) 1 33 := ⟨by decide +kernel, rfl⟩
theorem dX5_add_33 : dn cX5_add 33 (.iastore) 1 34 := ⟨by decide +kernel, rfl⟩
theorem dX5_add_34 : dn cX5_add 34 (.aload_n 0) 1 35 := ⟨by decide +kernel, rfl⟩
theorem dX5_add_35 : dn cX5_add 35 (.getfield 21) 3 38 := ⟨by decide +kernel, rfl⟩
theorem dX5_add_38 : dn cX5_add 38 (.iload 5) 2 40 := ⟨by decide +kernel, rfl⟩
theorem dX5_add_40 : dn cX5_add 40 (.iconst 2) 1 41 := ⟨by decide +kernel, rfl⟩
theorem dX5_add_41 : dn cX5_add 41 (.iadd) 1 42 := ⟨by decide +kernel, rfl⟩
theorem dX5_add_42 : dn cX5_add 42 (.iload_n 3) 1 43 := ⟨by decide +kernel, rfl⟩
theorem dX5_add_43 : dn cX5_add 43 (.iastore) 1 44 := ⟨by decide +kernel, rfl⟩
theorem dX5_add_44 : dn cX5_add 44 (.aload_n 0) 1 45 := ⟨by decide +kernel, rfl⟩
theorem dX5_add_45 : dn cX5_add 45 (.getfield 21) 3 48 := ⟨by decide +kernel, rfl⟩
theorem dX5_add_48 : dn cX5_add 48 (.iload 5) 2 50 := ⟨by decide +kernel, rfl⟩
theorem dX5_add_50 : dn cX5_add 50 (.iconst 3) 1 51 := ⟨by decide +kernel, rfl⟩
theorem dX5_add_51 : dn cX5_add 51 (.iadd) 1 52 := ⟨by decide +kernel, rfl⟩
theorem dX5_add_52 : dn cX5_add 52 (.iload 4) 2 54 := ⟨by decide +kernel, rfl⟩
theorem dX5_add_54 : dn cX5_add 54 (.iastore) 1 55 := ⟨by decide +kernel, rfl⟩
theorem dX5_add_55 : dn cX5_add 55 (.aload_n 0) 1 56 := ⟨by decide +kernel, rfl⟩
theorem dX5_add_56 : dn cX5_add 56 (.dup) 1 57 := ⟨by decide +kernel, rfl⟩
theorem dX5_add_57 : dn cX5_add 57 (.getfield 25) 3 60 := ⟨by decide +kernel, rfl⟩
theorem dX5_add_60 : dn cX5_add 60 (.iconst 1) 1 61 := ⟨by decide +kernel, rfl⟩
theorem dX5_add_61 : dn cX5_add 61 (.iadd) 1 62 := ⟨by decide +kernel, rfl⟩
theorem dX5_add_62 : dn cX5_add 62 (.putfield 25) 3 65 := ⟨by decide +kernel, rfl⟩
theorem dX5_add_65 : dn cX5_add 65 (.return_) 1 66 := ⟨by decide +kernel, rfl⟩
theorem dX5_remove_0 : dn cX5_remove 0 (.aload_n 0) 1 1 := ⟨by decide +kernel, rfl⟩
theorem dX5_remove_1 : dn cX5_remove 1 (.iload_n 1) 1 2 := ⟨by decide +kernel, rfl⟩
theorem dX5_remove_2 : dn cX5_remove 2 (.invokevirtual 32) 3 5 := ⟨by decide +kernel, rfl⟩
theorem dX5_remove_5 : db cX5_remove 5 (.ifCond .ne 4) 3 8 (4) 9 := ⟨by decide +kernel, rfl, rfl⟩
theorem dX5_remove_8 : dn cX5_remove 8 (.return_) 1 9 := ⟨by decide +kernel, rfl⟩
theorem dX5_remove_9 : dn cX5_remove 9 (.aload_n 0) 1 10 := ⟨by decide +kernel, rfl⟩
theorem dX5_remove_10 : dn cX5_remove 10 (.getfield 25) 3 13 := ⟨by decide +kernel, rfl⟩
theorem dX5_remove_13 : dn cX5_remove 13 (.iconst 1) 1 14 := ⟨by decide +kernel, rfl⟩
theorem dX5_remove_14 : dn cX5_remove 14 (.isub) 1 15 := ⟨by decide +kernel, rfl⟩
theorem dX5_remove_15 : dn cX5_remove 15 (.iconst 4) 1 16 := ⟨by decide +kernel, rfl⟩
theorem dX5_remove_16 : dn cX5_remove 16 (.imul) 1 17 := ⟨by decide +kernel, rfl⟩
theorem dX5_remove_17 : dn cX5_remove 17 (.istore_n 2) 1 18 := ⟨by decide +kernel, rfl⟩
theorem dX5_remove_18 : dn cX5_remove 18 (.iload_n 1) 1 19 := ⟨by decide +kernel, rfl⟩
theorem dX5_remove_19 : dn cX5_remove 19 (.iconst 4) 1 20 := ⟨by decide +kernel, rfl⟩
theorem dX5_remove_20 : dn cX5_remove 20 (.imul) 1 21 := ⟨by decide +kernel, rfl⟩
theorem dX5_remove_21 : dn cX5_remove 21 (.istore_n 3) 1 22 := ⟨by decide +kernel, rfl⟩
theorem dX5_remove_22 : dn cX5_remove 22 (.iload_n 3) 1 23 := ⟨by decide +kernel, rfl⟩
theorem dX5_remove_23 : dn cX5_remove 23 (.iload_n 2) 1 24 := ⟨by decide +kernel, rfl⟩
theorem dX5_remove_24 : db cX5_remove 24 (.if_icmp .ge 23) 3 27 (23) 47 := ⟨by decide +kernel, rfl, rfl⟩
theorem dX5_remove_27 : dn cX5_remove 27 (.aload_n 0) 1 28 := ⟨by decide +kernel, rfl⟩
theorem dX5_remove_28 : dn cX5_remove 28 (.getfield 21) 3 31 := ⟨by decide +kernel, rfl⟩
theorem dX5_remove_31 : dn cX5_remove 31 (.iload_n 3) 1 32 := ⟨by decide +kernel, rfl⟩
theorem dX5_remove_32 : dn cX5_remove 32 (.aload_n 0) 1 33 := ⟨by decide +kernel, rfl⟩
theorem dX5_remove_33 : dn cX5_remove 33 (.getfield 21) 3 36 := ⟨by decide +kernel, rfl⟩
theorem dX5_remove_36 : dn cX5_remove 36 (.iload_n 3) 1 37 := ⟨by decide +kernel, rfl⟩
theorem dX5_remove_37 : dn cX5_remove 37 (.iconst 4) 1 38 := ⟨by decide +kernel, rfl⟩
theorem dX5_remove_38 : dn cX5_remove 38 (.iadd) 1 39 := ⟨by decide +kernel, rfl⟩
theorem dX5_remove_39 : dn cX5_remove 39 (.iaload) 1 40 := ⟨by decide +kernel, rfl⟩
theorem dX5_remove_40 : dn cX5_remove 40 (.iastore) 1 41 := ⟨by decide +kernel, rfl⟩
theorem dX5_remove_41 : dn cX5_remove 41 (.iinc 3 1) 3 44 := ⟨by decide +kernel, rfl⟩
theorem dX5_remove_44 : db cX5_remove 44 (.goto (-22)) 3 47 (-22) 22 := ⟨by decide +kernel, rfl, rfl⟩
theorem dX5_remove_47 : dn cX5_remove 47 (.aload_n 0) 1 48 := ⟨by decide +kernel, rfl⟩
theorem dX5_remove_48 : dn cX5_remove 48 (.dup) 1 49 := ⟨by decide +kernel, rfl⟩
theorem dX5_remove_49 : dn cX5_remove 49 (.getfield 25) 3 52 := ⟨by decide +kernel, rfl⟩
theorem dX5_remove_52 : dn cX5_remove 52 (.iconst 1) 1 53 := ⟨by decide +kernel, rfl⟩
theorem dX5_remove_53 : dn cX5_remove 53 (.isub) 1 54 := ⟨by decide +kernel, rfl⟩
theorem dX5_remove_54 : dn cX5_remove 54 (.putfield 25) 3 57 := ⟨by decide +kernel, rfl⟩
theorem dX5_remove_57 : dn cX5_remove 57 (.return_) 1 58 := ⟨by decide +kernel, rfl⟩
theorem dX5_take_0 : dn cX5_take 0 (.aload_n 1) 1 1 := ⟨by decide +kernel, rfl⟩
theorem dX5_take_1 : dn cX5_take 1 (.getfield 15) 3 4 := ⟨by decide +kernel, rfl⟩
theorem dX5_take_4 : dn cX5_take 4 (.aload_n 0) 1 5 := ⟨by decide +kernel, rfl⟩
theorem dX5_take_5 : dn cX5_take 5 (.getfield 15) 3 8 := ⟨by decide +kernel, rfl⟩
theorem dX5_take_8 : db cX5_take 8 (.if_icmp .eq 4) 3 11 (4) 12 := ⟨by decide +kernel, rfl, rfl⟩
theorem dX5_take_11 : dn cX5_take 11 (.return_) 1 12 := ⟨by decide +kernel, rfl⟩
theorem dX5_take_12 : dn cX5_take 12 (.aload_n 0) 1 13 := ⟨by decide +kernel, rfl⟩
theorem dX5_take_13 : dn cX5_take 13 (.aload_n 1) 1 14 := ⟨by decide +kernel, rfl⟩
theorem dX5_take_14 : dn cX5_take 14 (.getfield 25) 3 17 := ⟨by decide +kernel, rfl⟩
theorem dX5_take_17 : dn cX5_take 17 (.putfield 25) 3 20 := ⟨by decide +kernel, rfl⟩
theorem dX5_take_20 : dn cX5_take 20 (.iconst 0) 1 21 := ⟨by decide +kernel, rfl⟩
theorem dX5_take_21 : dn cX5_take 21 (.istore_n 2) 1 22 := ⟨by decide +kernel, rfl⟩
theorem dX5_take_22 : dn cX5_take 22 (.iload_n 2) 1 23 := ⟨by decide +kernel, rfl⟩
theorem dX5_take_23 : dn cX5_take 23 (.aload_n 0) 1 24 := ⟨by decide +kernel, rfl⟩
theorem dX5_take_24 : dn cX5_take 24 (.getfield 25) 3 27 := ⟨by decide +kernel, rfl⟩
theorem dX5_take_27 : dn cX5_take 27 (.iconst 4) 1 28 := ⟨by decide +kernel, rfl⟩
theorem dX5_take_28 : dn cX5_take 28 (.imul) 1 29 := ⟨by decide +kernel, rfl⟩
theorem dX5_take_29 : db cX5_take 29 (.if_icmp .ge 21) 3 32 (21) 50 := ⟨by decide +kernel, rfl, rfl⟩
theorem dX5_take_32 : dn cX5_take 32 (.aload_n 0) 1 33 := ⟨by decide +kernel, rfl⟩
theorem dX5_take_33 : dn cX5_take 33 (.getfield 21) 3 36 := ⟨by decide +kernel, rfl⟩
theorem dX5_take_36 : dn cX5_take 36 (.iload_n 2) 1 37 := ⟨by decide +kernel, rfl⟩
theorem dX5_take_37 : dn cX5_take 37 (.aload_n 1) 1 38 := ⟨by decide +kernel, rfl⟩
theorem dX5_take_38 : dn cX5_take 38 (.getfield 21) 3 41 := ⟨by decide +kernel, rfl⟩
theorem dX5_take_41 : dn cX5_take 41 (.iload_n 2) 1 42 := ⟨by decide +kernel, rfl⟩
theorem dX5_take_42 : dn cX5_take 42 (.iaload) 1 43 := ⟨by decide +kernel, rfl⟩
theorem dX5_take_43 : dn cX5_take 43 (.iastore) 1 44 := ⟨by decide +kernel, rfl⟩
theorem dX5_take_44 : dn cX5_take 44 (.iinc 2 1) 3 47 := ⟨by decide +kernel, rfl⟩
theorem dX5_take_47 : db cX5_take 47 (.goto (-25)) 3 50 (-25) 22 := ⟨by decide +kernel, rfl, rfl⟩
theorem dX5_take_50 : dn cX5_take 50 (.return_) 1 51 := ⟨by decide +kernel, rfl⟩
theorem dX6_begin_0 : dn cX6_begin 0 (.aload_n 0) 1 1 := ⟨by decide +kernel, rfl⟩
theorem dX6_begin_1 : dn cX6_begin 1 (.aload_n 1) 1 2 := ⟨by decide +kernel, rfl⟩
theorem dX6_begin_2 : dn cX6_begin 2 (.iload_n 2) 1 3 := ⟨by decide +kernel, rfl⟩
theorem dX6_begin_3 : dn cX6_begin 3 (.iconst 0) 1 4 := ⟨by decide +kernel, rfl⟩
theorem dX6_begin_4 : dn cX6_begin 4 (.invokevirtual 9) 3 7 := ⟨by decide +kernel, rfl⟩
theorem dX6_begin_7 : dn cX6_begin 7 (.putfield 15) 3 10 := ⟨by decide +kernel, rfl⟩
theorem dX6_begin_10 : dn cX6_begin 10 (.aload_n 0) 1 11 := ⟨by decide +kernel, rfl⟩
theorem dX6_begin_11 : dn cX6_begin 11 (.aload_n 1) 1 12 := ⟨by decide +kernel, rfl⟩
theorem dX6_begin_12 : dn cX6_begin 12 (.iload_n 2) 1 13 := ⟨by decide +kernel, rfl⟩
theorem dX6_begin_13 : dn cX6_begin 13 (.iconst 1) 1 14 := ⟨by decide +kernel, rfl⟩
theorem dX6_begin_14 : dn cX6_begin 14 (.invokevirtual 9) 3 17 := ⟨by decide +kernel, rfl⟩
theorem dX6_begin_17 : dn cX6_begin 17 (.putfield 21) 3 20 := ⟨by decide +kernel, rfl⟩
theorem dX6_begin_20 : dn cX6_begin 20 (.aload_n 0) 1 21 := ⟨by decide +kernel, rfl⟩
theorem dX6_begin_21 : dn cX6_begin 21 (.aload_n 1) 1 22 := ⟨by decide +kernel, rfl⟩
theorem dX6_begin_22 : dn cX6_begin 22 (.iload_n 2) 1 23 := ⟨by decide +kernel, rfl⟩
theorem dX6_begin_23 : dn cX6_begin 23 (.iconst 2) 1 24 := ⟨by decide +kernel, rfl⟩
theorem dX6_begin_24 : dn cX6_begin 24 (.invokevirtual 9) 3 27 := ⟨by decide +kernel, rfl⟩
theorem dX6_begin_27 : dn cX6_begin 27 (.putfield 24) 3 30 := ⟨by decide +kernel, rfl⟩
theorem dX6_begin_30 : dn cX6_begin 30 (.aload_n 0) 1 31 := ⟨by decide +kernel, rfl⟩
theorem dX6_begin_31 : dn cX6_begin 31 (.aload_n 1) 1 32 := ⟨by decide +kernel, rfl⟩
theorem dX6_begin_32 : dn cX6_begin 32 (.iload_n 2) 1 33 := ⟨by decide +kernel, rfl⟩
theorem dX6_begin_33 : dn cX6_begin 33 (.iconst 3) 1 34 := ⟨by decide +kernel, rfl⟩
theorem dX6_begin_34 : dn cX6_begin 34 (.invokevirtual 9) 3 37 := ⟨by decide +kernel, rfl⟩
theorem dX6_begin_37 : dn cX6_begin 37 (.putfield 27) 3 40 := ⟨by decide +kernel, rfl⟩
theorem dX6_begin_40 : dn cX6_begin 40 (.aload_n 0) 1 41 := ⟨by decide +kernel, rfl⟩
theorem dX6_begin_41 : dn cX6_begin 41 (.aload_n 0) 1 42 := ⟨by decide +kernel, rfl⟩
theorem dX6_begin_42 : dn cX6_begin 42 (.getfield 27) 3 45 := ⟨by decide +kernel, rfl⟩
theorem dX6_begin_45 : dn cX6_begin 45 (.aload_n 0) 1 46 := ⟨by decide +kernel, rfl⟩
theorem dX6_begin_46 : dn cX6_begin 46 (.getfield 24) 3 49 := ⟨by decide +kernel, rfl⟩
theorem dX6_begin_49 : dn cX6_begin 49 (.isub) 1 50 := ⟨by decide +kernel, rfl⟩
theorem dX6_begin_50 : dn cX6_begin 50 (.putfield 30) 3 53 := ⟨by decide +kernel, rfl⟩
theorem dX6_begin_53 : dn cX6_begin 53 (.aload_n 0) 1 54 := ⟨by decide +kernel, rfl⟩
theorem dX6_begin_54 : dn cX6_begin 54 (.iconst 1) 1 55 := ⟨by decide +kernel, rfl⟩
theorem dX6_begin_55 : dn cX6_begin 55 (.putfield 33) 3 58 := ⟨by decide +kernel, rfl⟩
theorem dX6_begin_58 : dn cX6_begin 58 (.aload_n 0) 1 59 := ⟨by decide +kernel, rfl⟩
theorem dX6_begin_59 : dn cX6_begin 59 (.iload_n 2) 1 60 := ⟨by decide +kernel, rfl⟩
theorem dX6_begin_60 : dn cX6_begin 60 (.putfield 36) 3 63 := ⟨by decide +kernel, rfl⟩
theorem dX6_begin_63 : dn cX6_begin 63 (.aload_n 0) 1 64 := ⟨by decide +kernel, rfl⟩
theorem dX6_begin_64 : dn cX6_begin 64 (.iconst 0) 1 65 := ⟨by decide +kernel, rfl⟩
theorem dX6_begin_65 : dn cX6_begin 65 (.putfield 39) 3 68 := ⟨by decide +kernel, rfl⟩
theorem dX6_begin_68 : dn cX6_begin 68 (.aload_n 0) 1 69 := ⟨by decide +kernel, rfl⟩
theorem dX6_begin_69 : dn cX6_begin 69 (.bipush (-6)) 2 71 := ⟨by decide +kernel, rfl⟩
theorem dX6_begin_71 : dn cX6_begin 71 (.putfield 42) 3 74 := ⟨by decide +kernel, rfl⟩
theorem dX6_begin_74 : dn cX6_begin 74 (.return_) 1 75 := ⟨by decide +kernel, rfl⟩
theorem dX6_takeIn_0 : dn cX6_takeIn 0 (.aload_n 1) 1 1 := ⟨by decide +kernel, rfl⟩
theorem dX6_takeIn_1 : dn cX6_takeIn 1 (.iload_n 2) 1 2 := ⟨by decide +kernel, rfl⟩
theorem dX6_takeIn_2 : dn cX6_takeIn 2 (.iconst 2) 1 3 := ⟨by decide +kernel, rfl⟩
theorem dX6_takeIn_3 : dn cX6_takeIn 3 (.invokevirtual 9) 3 6 := ⟨by decide +kernel, rfl⟩
theorem dX6_takeIn_6 : dn cX6_takeIn 6 (.istore_n 3) 1 7 := ⟨by decide +kernel, rfl⟩
theorem dX6_takeIn_7 : dn cX6_takeIn 7 (.aload_n 1) 1 8 := ⟨by decide +kernel, rfl⟩
theorem dX6_takeIn_8 : dn cX6_takeIn 8 (.iload_n 2) 1 9 := ⟨by decide +kernel, rfl⟩
theorem dX6_takeIn_9 : dn cX6_takeIn 9 (.iconst 3) 1 10 := ⟨by decide +kernel, rfl⟩
theorem dX6_takeIn_10 : dn cX6_takeIn 10 (.invokevirtual 9) 3 13 := ⟨by decide +kernel, rfl⟩
theorem dX6_takeIn_13 : dn cX6_takeIn 13 (.istore 4) 2 15 := ⟨by decide +kernel, rfl⟩
theorem dX6_takeIn_15 : dn cX6_takeIn 15 (.iload 4) 2 17 := ⟨by decide +kernel, rfl⟩
theorem dX6_takeIn_17 : dn cX6_takeIn 17 (.iload_n 3) 1 18 := ⟨by decide +kernel, rfl⟩
theorem dX6_takeIn_18 : dn cX6_takeIn 18 (.isub) 1 19 := ⟨by decide +kernel, rfl⟩
theorem dX6_takeIn_19 : dn cX6_takeIn 19 (.aload_n 0) 1 20 := ⟨by decide +kernel, rfl⟩
theorem dX6_takeIn_20 : dn cX6_takeIn 20 (.getfield 30) 3 23 := ⟨by decide +kernel, rfl⟩
theorem dX6_takeIn_23 : db cX6_takeIn 23 (.if_icmp .le 21) 3 26 (21) 44 := ⟨by decide +kernel, rfl, rfl⟩
theorem dX6_takeIn_26 : dn cX6_takeIn 26 (.aload_n 0) 1 27 := ⟨by decide +kernel, rfl⟩
theorem dX6_takeIn_27 : dn cX6_takeIn 27 (.iload 4) 2 29 := ⟨by decide +kernel, rfl⟩
theorem dX6_takeIn_29 : dn cX6_takeIn 29 (.iload_n 3) 1 30 := ⟨by decide +kernel, rfl⟩
theorem dX6_takeIn_30 : dn cX6_takeIn 30 (.isub) 1 31 := ⟨by decide +kernel, rfl⟩
theorem dX6_takeIn_31 : dn cX6_takeIn 31 (.putfield 30) 3 34 := ⟨by decide +kernel, rfl⟩
theorem dX6_takeIn_34 : dn cX6_takeIn 34 (.aload_n 0) 1 35 := ⟨by decide +kernel, rfl⟩
theorem dX6_takeIn_35 : dn cX6_takeIn 35 (.aload_n 1) 1 36 := ⟨by decide +kernel, rfl⟩
theorem dX6_takeIn_36 : dn cX6_takeIn 36 (.iload_n 2) 1 37 := ⟨by decide +kernel, rfl⟩
theorem dX6_takeIn_37 : dn cX6_takeIn 37 (.iconst 1) 1 38 := ⟨by decide +kernel, rfl⟩
theorem dX6_takeIn_38 : dn cX6_takeIn 38 (.invokevirtual 9) 3 41 := ⟨by decide +kernel, rfl⟩
theorem dX6_takeIn_41 : dn cX6_takeIn 41 (.putfield 21) 3 44 := ⟨by decide +kernel, rfl⟩
theorem dX6_takeIn_44 : dn cX6_takeIn 44 (.aload_n 0) 1 45 := ⟨by decide +kernel, rfl⟩
theorem dX6_takeIn_45 : dn cX6_takeIn 45 (.aload_n 0) 1 46 := ⟨by decide +kernel, rfl⟩
theorem dX6_takeIn_46 : dn cX6_takeIn 46 (.getfield 24) 3 49 := ⟨by decide +kernel, rfl⟩
theorem dX6_takeIn_49 : dn cX6_takeIn 49 (.iload_n 3) 1 50 := ⟨by decide +kernel, rfl⟩
theorem dX6_takeIn_50 : dn cX6_takeIn 50 (.invokestatic 45) 3 53 := ⟨by decide +kernel, rfl⟩
theorem dX6_takeIn_53 : dn cX6_takeIn 53 (.putfield 24) 3 56 := ⟨by decide +kernel, rfl⟩
theorem dX6_takeIn_56 : dn cX6_takeIn 56 (.aload_n 0) 1 57 := ⟨by decide +kernel, rfl⟩
theorem dX6_takeIn_57 : dn cX6_takeIn 57 (.aload_n 0) 1 58 := ⟨by decide +kernel, rfl⟩
theorem dX6_takeIn_58 : dn cX6_takeIn 58 (.getfield 27) 3 61 := ⟨by decide +kernel, rfl⟩
theorem dX6_takeIn_61 : dn cX6_takeIn 61 (.iload 4) 2 63 := ⟨by decide +kernel, rfl⟩
theorem dX6_takeIn_63 : dn cX6_takeIn 63 (.invokestatic 50) 3 66 := ⟨by decide +kernel, rfl⟩
theorem dX6_takeIn_66 : dn cX6_takeIn 66 (.putfield 27) 3 69 := ⟨by decide +kernel, rfl⟩
theorem dX6_takeIn_69 : dn cX6_takeIn 69 (.aload_n 0) 1 70 := ⟨by decide +kernel, rfl⟩
theorem dX6_takeIn_70 : dn cX6_takeIn 70 (.dup) 1 71 := ⟨by decide +kernel, rfl⟩
theorem dX6_takeIn_71 : dn cX6_takeIn 71 (.getfield 33) 3 74 := ⟨by decide +kernel, rfl⟩
theorem dX6_takeIn_74 : dn cX6_takeIn 74 (.iconst 1) 1 75 := ⟨by decide +kernel, rfl⟩
theorem dX6_takeIn_75 : dn cX6_takeIn 75 (.iadd) 1 76 := ⟨by decide +kernel, rfl⟩
theorem dX6_takeIn_76 : dn cX6_takeIn 76 (.putfield 33) 3 79 := ⟨by decide +kernel, rfl⟩
theorem dX6_takeIn_79 : dn cX6_takeIn 79 (.return_) 1 80 := ⟨by decide +kernel, rfl⟩
theorem dX6_comesBefore_0 : dn cX6_comesBefore 0 (.aload_n 0) 1 1 := ⟨by decide +kernel, rfl⟩
theorem dX6_comesBefore_1 : dn cX6_comesBefore 1 (.getfield 15) 3 4 := ⟨by decide +kernel, rfl⟩
theorem dX6_comesBefore_4 : dn cX6_comesBefore 4 (.aload_n 1) 1 5 := ⟨by decide +kernel, rfl⟩
theorem dX6_comesBefore_5 : dn cX6_comesBefore 5 (.getfield 15) 3 8 := ⟨by decide +kernel, rfl⟩
theorem dX6_comesBefore_8 : db cX6_comesBefore 8 (.if_icmp .eq 20) 3 11 (20) 28 := ⟨by decide +kernel, rfl, rfl⟩
theorem dX6_comesBefore_11 : dn cX6_comesBefore 11 (.aload_n 0) 1 12 := ⟨by decide +kernel, rfl⟩
theorem dX6_comesBefore_12 : dn cX6_comesBefore 12 (.getfield 15) 3 15 := ⟨by decide +kernel, rfl⟩
theorem dX6_comesBefore_15 : dn cX6_comesBefore 15 (.aload_n 1) 1 16 := ⟨by decide +kernel, rfl⟩
theorem dX6_comesBefore_16 : dn cX6_comesBefore 16 (.getfield 15) 3 19 := ⟨by decide +kernel, rfl⟩
theorem dX6_comesBefore_19 : db cX6_comesBefore 19 (.if_icmp .ge 7) 3 22 (7) 26 := ⟨by decide +kernel, rfl, rfl⟩
theorem dX6_comesBefore_22 : dn cX6_comesBefore 22 (.iconst 1) 1 23 := ⟨by decide +kernel, rfl⟩
theorem dX6_comesBefore_23 : db cX6_comesBefore 23 (.goto 4) 3 26 (4) 27 := ⟨by decide +kernel, rfl, rfl⟩
theorem dX6_comesBefore_26 : dn cX6_comesBefore 26 (.iconst 0) 1 27 := ⟨by decide +kernel, rfl⟩
theorem dX6_comesBefore_27 : dn cX6_comesBefore 27 (.ireturn) 1 28 := ⟨by decide +kernel, rfl⟩
theorem dX6_comesBefore_28 : dn cX6_comesBefore 28 (.aload_n 0) 1 29 := ⟨by decide +kernel, rfl⟩
theorem dX6_comesBefore_29 : dn cX6_comesBefore 29 (.getfield 21) 3 32 := ⟨by decide +kernel, rfl⟩
theorem dX6_comesBefore_32 : dn cX6_comesBefore 32 (.aload_n 1) 1 33 := ⟨by decide +kernel, rfl⟩
theorem dX6_comesBefore_33 : dn cX6_comesBefore 33 (.getfield 21) 3 36 := ⟨by decide +kernel, rfl⟩
theorem dX6_comesBefore_36 : db cX6_comesBefore 36 (.if_icmp .eq 20) 3 39 (20) 56 := ⟨by decide +kernel, rfl, rfl⟩
theorem dX6_comesBefore_39 : dn cX6_comesBefore 39 (.aload_n 0) 1 40 := ⟨by decide +kernel, rfl⟩
theorem dX6_comesBefore_40 : dn cX6_comesBefore 40 (.getfield 21) 3 43 := ⟨by decide +kernel, rfl⟩
theorem dX6_comesBefore_43 : dn cX6_comesBefore 43 (.aload_n 1) 1 44 := ⟨by decide +kernel, rfl⟩
theorem dX6_comesBefore_44 : dn cX6_comesBefore 44 (.getfield 21) 3 47 := ⟨by decide +kernel, rfl⟩
theorem dX6_comesBefore_47 : db cX6_comesBefore 47 (.if_icmp .ge 7) 3 50 (7) 54 := ⟨by decide +kernel, rfl, rfl⟩
theorem dX6_comesBefore_50 : dn cX6_comesBefore 50 (.iconst 1) 1 51 := ⟨by decide +kernel, rfl⟩
theorem dX6_comesBefore_51 : db cX6_comesBefore 51 (.goto 4) 3 54 (4) 55 := ⟨by decide +kernel, rfl, rfl⟩
theorem dX6_comesBefore_54 : dn cX6_comesBefore 54 (.iconst 0) 1 55 := ⟨by decide +kernel, rfl⟩
theorem dX6_comesBefore_55 : dn cX6_comesBefore 55 (.ireturn) 1 56 := ⟨by decide +kernel, rfl⟩
theorem dX6_comesBefore_56 : dn cX6_comesBefore 56 (.aload_n 0) 1 57 := ⟨by decide +kernel, rfl⟩
theorem dX6_comesBefore_57 : dn cX6_comesBefore 57 (.getfield 24) 3 60 := ⟨by decide +kernel, rfl⟩
theorem dX6_comesBefore_60 : dn cX6_comesBefore 60 (.aload_n 1) 1 61 := ⟨by decide +kernel, rfl⟩
theorem dX6_comesBefore_61 : dn cX6_comesBefore 61 (.getfield 24) 3 64 := ⟨by decide +kernel, rfl⟩
theorem dX6_comesBefore_64 : db cX6_comesBefore 64 (.if_icmp .eq 20) 3 67 (20) 84 := ⟨by decide +kernel, rfl, rfl⟩
theorem dX6_comesBefore_67 : dn cX6_comesBefore 67 (.aload_n 0) 1 68 := ⟨by decide +kernel, rfl⟩
theorem dX6_comesBefore_68 : dn cX6_comesBefore 68 (.getfield 24) 3 71 := ⟨by decide +kernel, rfl⟩
theorem dX6_comesBefore_71 : dn cX6_comesBefore 71 (.aload_n 1) 1 72 := ⟨by decide +kernel, rfl⟩
theorem dX6_comesBefore_72 : dn cX6_comesBefore 72 (.getfield 24) 3 75 := ⟨by decide +kernel, rfl⟩
theorem dX6_comesBefore_75 : db cX6_comesBefore 75 (.if_icmp .ge 7) 3 78 (7) 82 := ⟨by decide +kernel, rfl, rfl⟩
theorem dX6_comesBefore_78 : dn cX6_comesBefore 78 (.iconst 1) 1 79 := ⟨by decide +kernel, rfl⟩
theorem dX6_comesBefore_79 : db cX6_comesBefore 79 (.goto 4) 3 82 (4) 83 := ⟨by decide +kernel, rfl, rfl⟩
theorem dX6_comesBefore_82 : dn cX6_comesBefore 82 (.iconst 0) 1 83 := ⟨by decide +kernel, rfl⟩
theorem dX6_comesBefore_83 : dn cX6_comesBefore 83 (.ireturn) 1 84 := ⟨by decide +kernel, rfl⟩
theorem dX6_comesBefore_84 : dn cX6_comesBefore 84 (.aload_n 0) 1 85 := ⟨by decide +kernel, rfl⟩
theorem dX6_comesBefore_85 : dn cX6_comesBefore 85 (.getfield 27) 3 88 := ⟨by decide +kernel, rfl⟩
theorem dX6_comesBefore_88 : dn cX6_comesBefore 88 (.aload_n 1) 1 89 := ⟨by decide +kernel, rfl⟩
theorem dX6_comesBefore_89 : dn cX6_comesBefore 89 (.getfield 27) 3 92 := ⟨by decide +kernel, rfl⟩
theorem dX6_comesBefore_92 : db cX6_comesBefore 92 (.if_icmp .eq 20) 3 95 (20) 112 := ⟨by decide +kernel, rfl, rfl⟩
theorem dX6_comesBefore_95 : dn cX6_comesBefore 95 (.aload_n 0) 1 96 := ⟨by decide +kernel, rfl⟩
theorem dX6_comesBefore_96 : dn cX6_comesBefore 96 (.getfield 27) 3 99 := ⟨by decide +kernel, rfl⟩
theorem dX6_comesBefore_99 : dn cX6_comesBefore 99 (.aload_n 1) 1 100 := ⟨by decide +kernel, rfl⟩
theorem dX6_comesBefore_100 : dn cX6_comesBefore 100 (.getfield 27) 3 103 := ⟨by decide +kernel, rfl⟩
theorem dX6_comesBefore_103 : db cX6_comesBefore 103 (.if_icmp .ge 7) 3 106 (7) 110 := ⟨by decide +kernel, rfl, rfl⟩
theorem dX6_comesBefore_106 : dn cX6_comesBefore 106 (.iconst 1) 1 107 := ⟨by decide +kernel, rfl⟩
theorem dX6_comesBefore_107 : db cX6_comesBefore 107 (.goto 4) 3 110 (4) 111 := ⟨by decide +kernel, rfl, rfl⟩
theorem dX6_comesBefore_110 : dn cX6_comesBefore 110 (.iconst 0) 1 111 := ⟨by decide +kernel, rfl⟩
theorem dX6_comesBefore_111 : dn cX6_comesBefore 111 (.ireturn) 1 112 := ⟨by decide +kernel, rfl⟩
theorem dX6_comesBefore_112 : dn cX6_comesBefore 112 (.aload_n 0) 1 113 := ⟨by decide +kernel, rfl⟩
theorem dX6_comesBefore_113 : dn cX6_comesBefore 113 (.getfield 36) 3 116 := ⟨by decide +kernel, rfl⟩
theorem dX6_comesBefore_116 : dn cX6_comesBefore 116 (.aload_n 1) 1 117 := ⟨by decide +kernel, rfl⟩
theorem dX6_comesBefore_117 : dn cX6_comesBefore 117 (.getfield 36) 3 120 := ⟨by decide +kernel, rfl⟩
theorem dX6_comesBefore_120 : db cX6_comesBefore 120 (.if_icmp .ge 7) 3 123 (7) 127 := ⟨by decide +kernel, rfl, rfl⟩
theorem dX6_comesBefore_123 : dn cX6_comesBefore 123 (.iconst 1) 1 124 := ⟨by decide +kernel, rfl⟩
theorem dX6_comesBefore_124 : db cX6_comesBefore 124 (.goto 4) 3 127 (4) 128 := ⟨by decide +kernel, rfl, rfl⟩
theorem dX6_comesBefore_127 : dn cX6_comesBefore 127 (.iconst 0) 1 128 := ⟨by decide +kernel, rfl⟩
theorem dX6_comesBefore_128 : dn cX6_comesBefore 128 (.ireturn) 1 129 := ⟨by decide +kernel, rfl⟩
theorem dX6_covers_0 : dn cX6_covers 0 (.aload_n 0) 1 1 := ⟨by decide +kernel, rfl⟩
theorem dX6_covers_1 : dn cX6_covers 1 (.getfield 24) 3 4 := ⟨by decide +kernel, rfl⟩
theorem dX6_covers_4 : dn cX6_covers 4 (.iload_n 3) 1 5 := ⟨by decide +kernel, rfl⟩
theorem dX6_covers_5 : dn cX6_covers 5 (.isub) 1 6 := ⟨by decide +kernel, rfl⟩
theorem dX6_covers_6 : dn cX6_covers 6 (.iload_n 1) 1 7 := ⟨by decide +kernel, rfl⟩
theorem dX6_covers_7 : db cX6_covers 7 (.if_icmp .gt 17) 3 10 (17) 24 := ⟨by decide +kernel, rfl, rfl⟩
theorem dX6_covers_10 : dn cX6_covers 10 (.aload_n 0) 1 11 := ⟨by decide +kernel, rfl⟩
theorem dX6_covers_11 : dn cX6_covers 11 (.getfield 27) 3 14 := ⟨by decide +kernel, rfl⟩
theorem dX6_covers_14 : dn cX6_covers 14 (.iload_n 3) 1 15 := ⟨by decide +kernel, rfl⟩
theorem dX6_covers_15 : dn cX6_covers 15 (.iadd) 1 16 := ⟨by decide +kernel, rfl⟩
theorem dX6_covers_16 : dn cX6_covers 16 (.iload_n 2) 1 17 := ⟨by decide +kernel, rfl⟩
theorem dX6_covers_17 : db cX6_covers 17 (.if_icmp .lt 7) 3 20 (7) 24 := ⟨by decide +kernel, rfl, rfl⟩
theorem dX6_covers_20 : dn cX6_covers 20 (.iconst 1) 1 21 := ⟨by decide +kernel, rfl⟩
theorem dX6_covers_21 : db cX6_covers 21 (.goto 4) 3 24 (4) 25 := ⟨by decide +kernel, rfl, rfl⟩
theorem dX6_covers_24 : dn cX6_covers 24 (.iconst 0) 1 25 := ⟨by decide +kernel, rfl⟩
theorem dX6_covers_25 : dn cX6_covers 25 (.ireturn) 1 26 := ⟨by decide +kernel, rfl⟩
theorem dX6_crosses_0 : dn cX6_crosses 0 (.aload_n 0) 1 1 := ⟨by decide +kernel, rfl⟩
theorem dX6_crosses_1 : dn cX6_crosses 1 (.getfield 15) 3 4 := ⟨by decide +kernel, rfl⟩
theorem dX6_crosses_4 : dn cX6_crosses 4 (.aload_n 1) 1 5 := ⟨by decide +kernel, rfl⟩
theorem dX6_crosses_5 : dn cX6_crosses 5 (.getfield 15) 3 8 := ⟨by decide +kernel, rfl⟩
theorem dX6_crosses_8 : db cX6_crosses 8 (.if_icmp .eq 39) 3 11 (39) 47 := ⟨by decide +kernel, rfl, rfl⟩
theorem dX6_crosses_11 : dn cX6_crosses 11 (.aload_n 0) 1 12 := ⟨by decide +kernel, rfl⟩
theorem dX6_crosses_12 : dn cX6_crosses 12 (.aload_n 1) 1 13 := ⟨by decide +kernel, rfl⟩
theorem dX6_crosses_13 : dn cX6_crosses 13 (.getfield 21) 3 16 := ⟨by decide +kernel, rfl⟩
theorem dX6_crosses_16 : dn cX6_crosses 16 (.aload_n 1) 1 17 := ⟨by decide +kernel, rfl⟩
theorem dX6_crosses_17 : dn cX6_crosses 17 (.getfield 21) 3 20 := ⟨by decide +kernel, rfl⟩
theorem dX6_crosses_20 : dn cX6_crosses 20 (.iload_n 2) 1 21 := ⟨by decide +kernel, rfl⟩
theorem dX6_crosses_21 : dn cX6_crosses 21 (.invokevirtual 53) 3 24 := ⟨by decide +kernel, rfl⟩
theorem dX6_crosses_24 : db cX6_crosses 24 (.ifCond .eq 23) 3 27 (23) 47 := ⟨by decide +kernel, rfl, rfl⟩
theorem dX6_crosses_27 : dn cX6_crosses 27 (.aload_n 1) 1 28 := ⟨by decide +kernel, rfl⟩
theorem dX6_crosses_28 : dn cX6_crosses 28 (.aload_n 0) 1 29 := ⟨by decide +kernel, rfl⟩
theorem dX6_crosses_29 : dn cX6_crosses 29 (.getfield 21) 3 32 := ⟨by decide +kernel, rfl⟩
theorem dX6_crosses_32 : dn cX6_crosses 32 (.aload_n 0) 1 33 := ⟨by decide +kernel, rfl⟩
theorem dX6_crosses_33 : dn cX6_crosses 33 (.getfield 21) 3 36 := ⟨by decide +kernel, rfl⟩
theorem dX6_crosses_36 : dn cX6_crosses 36 (.iload_n 2) 1 37 := ⟨by decide +kernel, rfl⟩
theorem dX6_crosses_37 : dn cX6_crosses 37 (.invokevirtual 53) 3 40 := ⟨by decide +kernel, rfl⟩
theorem dX6_crosses_40 : db cX6_crosses 40 (.ifCond .eq 7) 3 43 (7) 47 := ⟨by decide +kernel, rfl, rfl⟩
theorem dX6_crosses_43 : dn cX6_crosses 43 (.iconst 1) 1 44 := ⟨by decide +kernel, rfl⟩
theorem dX6_crosses_44 : db cX6_crosses 44 (.goto 4) 3 47 (4) 48 := ⟨by decide +kernel, rfl, rfl⟩
theorem dX6_crosses_47 : dn cX6_crosses 47 (.iconst 0) 1 48 := ⟨by decide +kernel, rfl⟩
theorem dX6_crosses_48 : dn cX6_crosses 48 (.ireturn) 1 49 := ⟨by decide +kernel, rfl⟩
theorem dX6_tell_0 : dn cX6_tell 0 (.iload_n 1) 1 1 := ⟨by decide +kernel, rfl⟩
theorem dX6_tell_1 : decode cX6_tell 1 = .ok (.tableswitch 87 0 7 #[47, 52, 57, 62, 67, 72, 77, 82], 47) := by decide +kernel
theorem dX6_tell_48 : dn cX6_tell 48 (.aload_n 0) 1 49 := ⟨by decide +kernel, rfl⟩
theorem dX6_tell_49 : dn cX6_tell 49 (.getfield 15) 3 52 := ⟨by decide +kernel, rfl⟩
theorem dX6_tell_52 : dn cX6_tell 52 (.ireturn) 1 53 := ⟨by decide +kernel, rfl⟩
theorem dX6_tell_53 : dn cX6_tell 53 (.aload_n 0) 1 54 := ⟨by decide +kernel, rfl⟩
theorem dX6_tell_54 : dn cX6_tell 54 (.getfield 21) 3 57 := ⟨by decide +kernel, rfl⟩
theorem dX6_tell_57 : dn cX6_tell 57 (.ireturn) 1 58 := ⟨by decide +kernel, rfl⟩
theorem dX6_tell_58 : dn cX6_tell 58 (.aload_n 0) 1 59 := ⟨by decide +kernel, rfl⟩
theorem dX6_tell_59 : dn cX6_tell 59 (.getfield 24) 3 62 := ⟨by decide +kernel, rfl⟩
theorem dX6_tell_62 : dn cX6_tell 62 (.ireturn) 1 63 := ⟨by decide +kernel, rfl⟩
theorem dX6_tell_63 : dn cX6_tell 63 (.aload_n 0) 1 64 := ⟨by decide +kernel, rfl⟩
theorem dX6_tell_64 : dn cX6_tell 64 (.getfield 27) 3 67 := ⟨by decide +kernel, rfl⟩
theorem dX6_tell_67 : dn cX6_tell 67 (.ireturn) 1 68 := ⟨by decide +kernel, rfl⟩
theorem dX6_tell_68 : dn cX6_tell 68 (.aload_n 0) 1 69 := ⟨by decide +kernel, rfl⟩
theorem dX6_tell_69 : dn cX6_tell 69 (.getfield 33) 3 72 := ⟨by decide +kernel, rfl⟩
theorem dX6_tell_72 : dn cX6_tell 72 (.ireturn) 1 73 := ⟨by decide +kernel, rfl⟩
theorem dX6_tell_73 : dn cX6_tell 73 (.aload_n 0) 1 74 := ⟨by decide +kernel, rfl⟩
theorem dX6_tell_74 : dn cX6_tell 74 (.getfield 36) 3 77 := ⟨by decide +kernel, rfl⟩
theorem dX6_tell_77 : dn cX6_tell 77 (.ireturn) 1 78 := ⟨by decide +kernel, rfl⟩
theorem dX6_tell_78 : dn cX6_tell 78 (.aload_n 0) 1 79 := ⟨by decide +kernel, rfl⟩
theorem dX6_tell_79 : dn cX6_tell 79 (.getfield 39) 3 82 := ⟨by decide +kernel, rfl⟩
theorem dX6_tell_82 : dn cX6_tell 82 (.ireturn) 1 83 := ⟨by decide +kernel, rfl⟩
theorem dX6_tell_83 : dn cX6_tell 83 (.aload_n 0) 1 84 := ⟨by decide +kernel, rfl⟩
theorem dX6_tell_84 : dn cX6_tell 84 (.getfield 42) 3 87 := ⟨by decide +kernel, rfl⟩
theorem dX6_tell_87 : dn cX6_tell 87 (.ireturn) 1 88 := ⟨by decide +kernel, rfl⟩
theorem dX6_tell_88 : dn cX6_tell 88 (.bipush (-2)) 2 90 := ⟨by decide +kernel, rfl⟩
theorem dX6_tell_90 : dn cX6_tell 90 (.ireturn) 1 91 := ⟨by decide +kernel, rfl⟩
theorem dX7_has_0 : dn cX7_has 0 (.iload_n 1) 1 1 := ⟨by decide +kernel, rfl⟩
theorem dX7_has_1 : db cX7_has 1 (.ifCond .lt 15) 3 4 (15) 16 := ⟨by decide +kernel, rfl, rfl⟩
theorem dX7_has_4 : dn cX7_has 4 (.iload_n 1) 1 5 := ⟨by decide +kernel, rfl⟩
theorem dX7_has_5 : dn cX7_has 5 (.aload_n 0) 1 6 := ⟨by decide +kernel, rfl⟩
theorem dX7_has_6 : dn cX7_has 6 (.getfield 22) 3 9 := ⟨by decide +kernel, rfl⟩
theorem dX7_has_9 : db cX7_has 9 (.if_icmp .ge 7) 3 12 (7) 16 := ⟨by decide +kernel, rfl, rfl⟩
theorem dX7_has_12 : dn cX7_has 12 (.iconst 1) 1 13 := ⟨by decide +kernel, rfl⟩
theorem dX7_has_13 : db cX7_has 13 (.goto 4) 3 16 (4) 17 := ⟨by decide +kernel, rfl, rfl⟩
theorem dX7_has_16 : dn cX7_has 16 (.iconst 0) 1 17 := ⟨by decide +kernel, rfl⟩
theorem dX7_has_17 : dn cX7_has 17 (.ireturn) 1 18 := ⟨by decide +kernel, rfl⟩
theorem dX7_find_0 : dn cX7_find 0 (.aload_n 1) 1 1 := ⟨by decide +kernel, rfl⟩
theorem dX7_find_1 : dn cX7_find 1 (.aload_n 2) 1 2 := ⟨by decide +kernel, rfl⟩
theorem dX7_find_2 : dn cX7_find 2 (.invokestatic 26) 3 5 := ⟨by decide +kernel, rfl⟩
theorem dX7_find_5 : dn cX7_find 5 (.aload_n 0) 1 6 := ⟨by decide +kernel, rfl⟩
theorem dX7_find_6 : dn cX7_find 6 (.aload_n 1) 1 7 := ⟨by decide +kernel, rfl⟩
theorem dX7_find_7 : dn cX7_find 7 (.getfield 30) 3 10 := ⟨by decide +kernel, rfl⟩
theorem dX7_find_10 : dn cX7_find 10 (.aload_n 2) 1 11 := ⟨by decide +kernel, rfl⟩
theorem dX7_find_11 : dn cX7_find 11 (.invokevirtual 36) 3 14 := ⟨by decide +kernel, rfl⟩
theorem dX7_find_14 : dn cX7_find 14 (.aload_n 0) 1 15 := ⟨by decide +kernel, rfl⟩
theorem dX7_find_15 : dn cX7_find 15 (.invokevirtual 40) 3 18 := ⟨by decide +kernel, rfl⟩
theorem dX7_find_18 : dn cX7_find 18 (.aload_n 0) 1 19 := ⟨by decide +kernel, rfl⟩
theorem dX7_find_19 : dn cX7_find 19 (.aload_n 1) 1 20 := ⟨by decide +kernel, rfl⟩
theorem dX7_find_20 : dn cX7_find 20 (.getfield 30) 3 23 := ⟨by decide +kernel, rfl⟩
theorem dX7_find_23 : dn cX7_find 23 (.getfield 43) 3 26 := ⟨by decide +kernel, rfl⟩
theorem dX7_find_26 : dn cX7_find 26 (.aload_n 2) 1 27 := ⟨by decide +kernel, rfl⟩
theorem dX7_find_27 : dn cX7_find 27 (.invokevirtual 46) 3 30 := ⟨by decide +kernel, rfl⟩
theorem dX7_find_30 : dn cX7_find 30 (.return_) 1 31 := ⟨by decide +kernel, rfl⟩
theorem dX7_joinNear_0 : dn cX7_joinNear 0 (.aload_n 0) 1 1 := ⟨by decide +kernel, rfl⟩
theorem dX7_joinNear_1 : dn cX7_joinNear 1 (.getfield 30) 3 4 := ⟨by decide +kernel, rfl⟩
theorem dX7_joinNear_4 : dn cX7_joinNear 4 (.astore_n 2) 1 5 := ⟨by decide +kernel, rfl⟩
theorem dX7_joinNear_5 : dn cX7_joinNear 5 (.aload_n 1) 1 6 := ⟨by decide +kernel, rfl⟩
theorem dX7_joinNear_6 : dn cX7_joinNear 6 (.aload_n 2) 1 7 := ⟨by decide +kernel, rfl⟩
theorem dX7_joinNear_7 : dn cX7_joinNear 7 (.getfield 43) 3 10 := ⟨by decide +kernel, rfl⟩
theorem dX7_joinNear_10 : dn cX7_joinNear 10 (.invokevirtual 50) 3 13 := ⟨by decide +kernel, rfl⟩
theorem dX7_joinNear_13 : dn cX7_joinNear 13 (.iconst 1) 1 14 := ⟨by decide +kernel, rfl⟩
theorem dX7_joinNear_14 : dn cX7_joinNear 14 (.istore_n 3) 1 15 := ⟨by decide +kernel, rfl⟩
theorem dX7_joinNear_15 : dn cX7_joinNear 15 (.iload_n 3) 1 16 := ⟨by decide +kernel, rfl⟩
theorem dX7_joinNear_16 : dn cX7_joinNear 16 (.aload_n 2) 1 17 := ⟨by decide +kernel, rfl⟩
theorem dX7_joinNear_17 : dn cX7_joinNear 17 (.getfield 43) 3 20 := ⟨by decide +kernel, rfl⟩
theorem dX7_joinNear_20 : db cX7_joinNear 20 (.if_icmp .ge 45) 3 23 (45) 65 := ⟨by decide +kernel, rfl, rfl⟩
theorem dX7_joinNear_23 : dn cX7_joinNear 23 (.iconst 0) 1 24 := ⟨by decide +kernel, rfl⟩
theorem dX7_joinNear_24 : dn cX7_joinNear 24 (.istore 4) 2 26 := ⟨by decide +kernel, rfl⟩
theorem dX7_joinNear_26 : dn cX7_joinNear 26 (.iload 4) 2 28 := ⟨by decide +kernel, rfl⟩
theorem dX7_joinNear_28 : dn cX7_joinNear 28 (.iload_n 3) 1 29 := ⟨by decide +kernel, rfl⟩
theorem dX7_joinNear_29 : db cX7_joinNear 29 (.if_icmp .ge 30) 3 32 (30) 59 := ⟨by decide +kernel, rfl, rfl⟩
theorem dX7_joinNear_32 : dn cX7_joinNear 32 (.aload_n 2) 1 33 := ⟨by decide +kernel, rfl⟩
theorem dX7_joinNear_33 : dn cX7_joinNear 33 (.iload_n 3) 1 34 := ⟨by decide +kernel, rfl⟩
theorem dX7_joinNear_34 : dn cX7_joinNear 34 (.iload 4) 2 36 := ⟨by decide +kernel, rfl⟩
theorem dX7_joinNear_36 : dn cX7_joinNear 36 (.aload_n 0) 1 37 := ⟨by decide +kernel, rfl⟩
theorem dX7_joinNear_37 : dn cX7_joinNear 37 (.getfield 56) 3 40 := ⟨by decide +kernel, rfl⟩
theorem dX7_joinNear_40 : dn cX7_joinNear 40 (.invokestatic 59) 3 43 := ⟨by decide +kernel, rfl⟩
theorem dX7_joinNear_43 : db cX7_joinNear 43 (.ifCond .eq 10) 3 46 (10) 53 := ⟨by decide +kernel, rfl, rfl⟩
theorem dX7_joinNear_46 : dn cX7_joinNear 46 (.aload_n 1) 1 47 := ⟨by decide +kernel, rfl⟩
theorem dX7_joinNear_47 : dn cX7_joinNear 47 (.iload_n 3) 1 48 := ⟨by decide +kernel, rfl⟩
theorem dX7_joinNear_48 : dn cX7_joinNear 48 (.iload 4) 2 50 := ⟨by decide +kernel, rfl⟩
theorem dX7_joinNear_50 : dn cX7_joinNear 50 (.invokevirtual 63) 3 53 := ⟨by decide +kernel, rfl⟩
theorem dX7_joinNear_53 : dn cX7_joinNear 53 (.iinc 4 1) 3 56 := ⟨by decide +kernel, rfl⟩
theorem dX7_joinNear_56 : db cX7_joinNear 56 (.goto (-30)) 3 59 (-30) 26 := ⟨by decide +kernel, rfl, rfl⟩
theorem dX7_joinNear_59 : dn cX7_joinNear 59 (.iinc 3 1) 3 62 := ⟨by decide +kernel, rfl⟩
theorem dX7_joinNear_62 : db cX7_joinNear 62 (.goto (-47)) 3 65 (-47) 15 := ⟨by decide +kernel, rfl, rfl⟩
theorem dX7_joinNear_65 : dn cX7_joinNear 65 (.return_) 1 66 := ⟨by decide +kernel, rfl⟩
theorem dX7_areNear_0 : dn cX7_areNear 0 (.aload_n 0) 1 1 := ⟨by decide +kernel, rfl⟩
theorem dX7_areNear_1 : dn cX7_areNear 1 (.iload_n 1) 1 2 := ⟨by decide +kernel, rfl⟩
theorem dX7_areNear_2 : dn cX7_areNear 2 (.iconst 1) 1 3 := ⟨by decide +kernel, rfl⟩
theorem dX7_areNear_3 : dn cX7_areNear 3 (.invokevirtual 67) 3 6 := ⟨by decide +kernel, rfl⟩
theorem dX7_areNear_6 : dn cX7_areNear 6 (.aload_n 0) 1 7 := ⟨by decide +kernel, rfl⟩
theorem dX7_areNear_7 : dn cX7_areNear 7 (.iload_n 2) 1 8 := ⟨by decide +kernel, rfl⟩
theorem dX7_areNear_8 : dn cX7_areNear 8 (.iconst 1) 1 9 := ⟨by decide +kernel, rfl⟩
theorem dX7_areNear_9 : dn cX7_areNear 9 (.invokevirtual 67) 3 12 := ⟨by decide +kernel, rfl⟩
theorem dX7_areNear_12 : dn cX7_areNear 12 (.isub) 1 13 := ⟨by decide +kernel, rfl⟩
theorem dX7_areNear_13 : dn cX7_areNear 13 (.invokestatic 71) 3 16 := ⟨by decide +kernel, rfl⟩
theorem dX7_areNear_16 : dn cX7_areNear 16 (.istore 4) 2 18 := ⟨by decide +kernel, rfl⟩
theorem dX7_areNear_18 : dn cX7_areNear 18 (.aload_n 0) 1 19 := ⟨by decide +kernel, rfl⟩
theorem dX7_areNear_19 : dn cX7_areNear 19 (.iload_n 1) 1 20 := ⟨by decide +kernel, rfl⟩
theorem dX7_areNear_20 : dn cX7_areNear 20 (.iconst 2) 1 21 := ⟨by decide +kernel, rfl⟩
theorem dX7_areNear_21 : dn cX7_areNear 21 (.invokevirtual 67) 3 24 := ⟨by decide +kernel, rfl⟩
theorem dX7_areNear_24 : dn cX7_areNear 24 (.aload_n 0) 1 25 := ⟨by decide +kernel, rfl⟩
theorem dX7_areNear_25 : dn cX7_areNear 25 (.iload_n 2) 1 26 := ⟨by decide +kernel, rfl⟩
theorem dX7_areNear_26 : dn cX7_areNear 26 (.iconst 2) 1 27 := ⟨by decide +kernel, rfl⟩
theorem dX7_areNear_27 : dn cX7_areNear 27 (.invokevirtual 67) 3 30 := ⟨by decide +kernel, rfl⟩
theorem dX7_areNear_30 : dn cX7_areNear 30 (.invokestatic 77) 3 33 := ⟨by decide +kernel, rfl⟩
theorem dX7_areNear_33 : dn cX7_areNear 33 (.istore 5) 2 35 := ⟨by decide +kernel, rfl⟩
theorem dX7_areNear_35 : dn cX7_areNear 35 (.aload_n 0) 1 36 := ⟨by decide +kernel, rfl⟩
theorem dX7_areNear_36 : dn cX7_areNear 36 (.iload_n 1) 1 37 := ⟨by decide +kernel, rfl⟩
theorem dX7_areNear_37 : dn cX7_areNear 37 (.iconst 3) 1 38 := ⟨by decide +kernel, rfl⟩
theorem dX7_areNear_38 : dn cX7_areNear 38 (.invokevirtual 67) 3 41 := ⟨by decide +kernel, rfl⟩
theorem dX7_areNear_41 : dn cX7_areNear 41 (.aload_n 0) 1 42 := ⟨by decide +kernel, rfl⟩
theorem dX7_areNear_42 : dn cX7_areNear 42 (.iload_n 2) 1 43 := ⟨by decide +kernel, rfl⟩
theorem dX7_areNear_43 : dn cX7_areNear 43 (.iconst 3) 1 44 := ⟨by decide +kernel, rfl⟩
theorem dX7_areNear_44 : dn cX7_areNear 44 (.invokevirtual 67) 3 47 := ⟨by decide +kernel, rfl⟩
theorem dX7_areNear_47 : dn cX7_areNear 47 (.invokestatic 80) 3 50 := ⟨by decide +kernel, rfl⟩
theorem dX7_areNear_50 : dn cX7_areNear 50 (.istore 6) 2 52 := ⟨by decide +kernel, rfl⟩
theorem dX7_areNear_52 : dn cX7_areNear 52 (.aload_n 0) 1 53 := ⟨by decide +kernel, rfl⟩
theorem dX7_areNear_53 : dn cX7_areNear 53 (.iload_n 1) 1 54 := ⟨by decide +kernel, rfl⟩
theorem dX7_areNear_54 : dn cX7_areNear 54 (.iconst 0) 1 55 := ⟨by decide +kernel, rfl⟩
theorem dX7_areNear_55 : dn cX7_areNear 55 (.invokevirtual 67) 3 58 := ⟨by decide +kernel, rfl⟩
theorem dX7_areNear_58 : dn cX7_areNear 58 (.aload_n 0) 1 59 := ⟨by decide +kernel, rfl⟩
theorem dX7_areNear_59 : dn cX7_areNear 59 (.iload_n 2) 1 60 := ⟨by decide +kernel, rfl⟩
theorem dX7_areNear_60 : dn cX7_areNear 60 (.iconst 0) 1 61 := ⟨by decide +kernel, rfl⟩
theorem dX7_areNear_61 : dn cX7_areNear 61 (.invokevirtual 67) 3 64 := ⟨by decide +kernel, rfl⟩
theorem dX7_areNear_64 : db cX7_areNear 64 (.if_icmp .ne 26) 3 67 (26) 90 := ⟨by decide +kernel, rfl, rfl⟩
theorem dX7_areNear_67 : dn cX7_areNear 67 (.iload 4) 2 69 := ⟨by decide +kernel, rfl⟩
theorem dX7_areNear_69 : dn cX7_areNear 69 (.aload_n 3) 1 70 := ⟨by decide +kernel, rfl⟩
theorem dX7_areNear_70 : dn cX7_areNear 70 (.iconst 0) 1 71 := ⟨by decide +kernel, rfl⟩
theorem dX7_areNear_71 : dn cX7_areNear 71 (.iaload) 1 72 := ⟨by decide +kernel, rfl⟩
theorem dX7_areNear_72 : db cX7_areNear 72 (.if_icmp .gt 18) 3 75 (18) 90 := ⟨by decide +kernel, rfl, rfl⟩
theorem dX7_areNear_75 : dn cX7_areNear 75 (.iload 5) 2 77 := ⟨by decide +kernel, rfl⟩
theorem dX7_areNear_77 : dn cX7_areNear 77 (.iload 6) 2 79 := ⟨by decide +kernel, rfl⟩
theorem dX7_areNear_79 : dn cX7_areNear 79 (.isub) 1 80 := ⟨by decide +kernel, rfl⟩
theorem dX7_areNear_80 : dn cX7_areNear 80 (.aload_n 3) 1 81 := ⟨by decide +kernel, rfl⟩
theorem dX7_areNear_81 : dn cX7_areNear 81 (.iconst 1) 1 82 := ⟨by decide +kernel, rfl⟩
theorem dX7_areNear_82 : dn cX7_areNear 82 (.iaload) 1 83 := ⟨by decide +kernel, rfl⟩
theorem dX7_areNear_83 : db cX7_areNear 83 (.if_icmp .gt 7) 3 86 (7) 90 := ⟨by decide +kernel, rfl, rfl⟩
theorem dX7_areNear_86 : dn cX7_areNear 86 (.iconst 1) 1 87 := ⟨by decide +kernel, rfl⟩
theorem dX7_areNear_87 : db cX7_areNear 87 (.goto 4) 3 90 (4) 91 := ⟨by decide +kernel, rfl, rfl⟩
theorem dX7_areNear_90 : dn cX7_areNear 90 (.iconst 0) 1 91 := ⟨by decide +kernel, rfl⟩
theorem dX7_areNear_91 : dn cX7_areNear 91 (.ireturn) 1 92 := ⟨by decide +kernel, rfl⟩
theorem dX7_gather_0 : dn cX7_gather 0 (.aload_n 0) 1 1 := ⟨by decide +kernel, rfl⟩
theorem dX7_gather_1 : dn cX7_gather 1 (.iconst 0) 1 2 := ⟨by decide +kernel, rfl⟩
theorem dX7_gather_2 : dn cX7_gather 2 (.putfield 22) 3 5 := ⟨by decide +kernel, rfl⟩
theorem dX7_gather_5 : dn cX7_gather 5 (.iconst 0) 1 6 := ⟨by decide +kernel, rfl⟩
theorem dX7_gather_6 : dn cX7_gather 6 (.istore_n 3) 1 7 := ⟨by decide +kernel, rfl⟩
theorem dX7_gather_7 : dn cX7_gather 7 (.iload_n 3) 1 8 := ⟨by decide +kernel, rfl⟩
theorem dX7_gather_8 : dn cX7_gather 8 (.aload_n 1) 1 9 := ⟨by decide +kernel, rfl⟩
theorem dX7_gather_9 : dn cX7_gather 9 (.getfield 43) 3 12 := ⟨by decide +kernel, rfl⟩
theorem dX7_gather_12 : db cX7_gather 12 (.if_icmp .ge 88) 3 15 (88) 100 := ⟨by decide +kernel, rfl, rfl⟩
theorem dX7_gather_15 : dn cX7_gather 15 (.aload_n 2) 1 16 := ⟨by decide +kernel, rfl⟩
theorem dX7_gather_16 : dn cX7_gather 16 (.iload_n 3) 1 17 := ⟨by decide +kernel, rfl⟩
theorem dX7_gather_17 : dn cX7_gather 17 (.invokevirtual 83) 3 20 := ⟨by decide +kernel, rfl⟩
theorem dX7_gather_20 : dn cX7_gather 20 (.istore 4) 2 22 := ⟨by decide +kernel, rfl⟩
theorem dX7_gather_22 : dn cX7_gather 22 (.iload 4) 2 24 := ⟨by decide +kernel, rfl⟩
theorem dX7_gather_24 : dn cX7_gather 24 (.iload_n 3) 1 25 := ⟨by decide +kernel, rfl⟩
theorem dX7_gather_25 : db cX7_gather 25 (.if_icmp .ne 40) 3 28 (40) 65 := ⟨by decide +kernel, rfl, rfl⟩
theorem dX7_gather_28 : dn cX7_gather 28 (.aload_n 0) 1 29 := ⟨by decide +kernel, rfl⟩
theorem dX7_gather_29 : dn cX7_gather 29 (.getfield 11) 3 32 := ⟨by decide +kernel, rfl⟩
theorem dX7_gather_32 : dn cX7_gather 32 (.aload_n 0) 1 33 := ⟨by decide +kernel, rfl⟩
theorem dX7_gather_33 : dn cX7_gather 33 (.getfield 22) 3 36 := ⟨by decide +kernel, rfl⟩
theorem dX7_gather_36 : dn cX7_gather 36 (.aaload) 1 37 := ⟨by decide +kernel, rfl⟩
theorem dX7_gather_37 : dn cX7_gather 37 (.aload_n 1) 1 38 := ⟨by decide +kernel, rfl⟩
theorem dX7_gather_38 : dn cX7_gather 38 (.iload_n 3) 1 39 := ⟨by decide +kernel, rfl⟩
theorem dX7_gather_39 : dn cX7_gather 39 (.invokevirtual 86) 3 42 := ⟨by decide +kernel, rfl⟩
theorem dX7_gather_42 : dn cX7_gather 42 (.aload_n 0) 1 43 := ⟨by decide +kernel, rfl⟩
theorem dX7_gather_43 : dn cX7_gather 43 (.getfield 18) 3 46 := ⟨by decide +kernel, rfl⟩
theorem dX7_gather_46 : dn cX7_gather 46 (.iload_n 3) 1 47 := ⟨by decide +kernel, rfl⟩
theorem dX7_gather_47 : dn cX7_gather 47 (.aload_n 0) 1 48 := ⟨by decide +kernel, rfl⟩
theorem dX7_gather_48 : dn cX7_gather 48 (.getfield 22) 3 51 := ⟨by decide +kernel, rfl⟩
theorem dX7_gather_51 : dn cX7_gather 51 (.iastore) 1 52 := ⟨by decide +kernel, rfl⟩
theorem dX7_gather_52 : dn cX7_gather 52 (.aload_n 0) 1 53 := ⟨by decide +kernel, rfl⟩
theorem dX7_gather_53 : dn cX7_gather 53 (.dup) 1 54 := ⟨by decide +kernel, rfl⟩
theorem dX7_gather_54 : dn cX7_gather 54 (.getfield 22) 3 57 := ⟨by decide +kernel, rfl⟩
theorem dX7_gather_57 : dn cX7_gather 57 (.iconst 1) 1 58 := ⟨by decide +kernel, rfl⟩
theorem dX7_gather_58 : dn cX7_gather 58 (.iadd) 1 59 := ⟨by decide +kernel, rfl⟩
theorem dX7_gather_59 : dn cX7_gather 59 (.putfield 22) 3 62 := ⟨by decide +kernel, rfl⟩
theorem dX7_gather_62 : db cX7_gather 62 (.goto 32) 3 65 (32) 94 := ⟨by decide +kernel, rfl, rfl⟩
theorem dX7_gather_65 : dn cX7_gather 65 (.aload_n 0) 1 66 := ⟨by decide +kernel, rfl⟩
theorem dX7_gather_66 : dn cX7_gather 66 (.getfield 18) 3 69 := ⟨by decide +kernel, rfl⟩
theorem dX7_gather_69 : dn cX7_gather 69 (.iload_n 3) 1 70 := ⟨by decide +kernel, rfl⟩
theorem dX7_gather_70 : dn cX7_gather 70 (.aload_n 0) 1 71 := ⟨by decide +kernel, rfl⟩
theorem dX7_gather_71 : dn cX7_gather 71 (.getfield 18) 3 74 := ⟨by decide +kernel, rfl⟩
theorem dX7_gather_74 : dn cX7_gather 74 (.iload 4) 2 76 := ⟨by decide +kernel, rfl⟩
theorem dX7_gather_76 : dn cX7_gather 76 (.iaload) 1 77 := ⟨by decide +kernel, rfl⟩
theorem dX7_gather_77 : dn cX7_gather 77 (.iastore) 1 78 := ⟨by decide +kernel, rfl⟩
theorem dX7_gather_78 : dn cX7_gather 78 (.aload_n 0) 1 79 := ⟨by decide +kernel, rfl⟩
theorem dX7_gather_79 : dn cX7_gather 79 (.getfield 11) 3 82 := ⟨by decide +kernel, rfl⟩
theorem dX7_gather_82 : dn cX7_gather 82 (.aload_n 0) 1 83 := ⟨by decide +kernel, rfl⟩
theorem dX7_gather_83 : dn cX7_gather 83 (.getfield 18) 3 86 := ⟨by decide +kernel, rfl⟩
theorem dX7_gather_86 : dn cX7_gather 86 (.iload_n 3) 1 87 := ⟨by decide +kernel, rfl⟩
theorem dX7_gather_87 : dn cX7_gather 87 (.iaload) 1 88 := ⟨by decide +kernel, rfl⟩
theorem dX7_gather_88 : dn cX7_gather 88 (.aaload) 1 89 := ⟨by decide +kernel, rfl⟩
theorem dX7_gather_89 : dn cX7_gather 89 (.aload_n 1) 1 90 := ⟨by decide +kernel, rfl⟩
theorem dX7_gather_90 : dn cX7_gather 90 (.iload_n 3) 1 91 := ⟨by decide +kernel, rfl⟩
theorem dX7_gather_91 : dn cX7_gather 91 (.invokevirtual 90) 3 94 := ⟨by decide +kernel, rfl⟩
theorem dX7_gather_94 : dn cX7_gather 94 (.iinc 3 1) 3 97 := ⟨by decide +kernel, rfl⟩
theorem dX7_gather_97 : db cX7_gather 97 (.goto (-90)) 3 100 (-90) 7 := ⟨by decide +kernel, rfl, rfl⟩
theorem dX7_gather_100 : dn cX7_gather 100 (.return_) 1 101 := ⟨by decide +kernel, rfl⟩
theorem dX7_sort_0 : dn cX7_sort 0 (.iconst 1) 1 1 := ⟨by decide +kernel, rfl⟩
theorem dX7_sort_1 : dn cX7_sort 1 (.istore_n 1) 1 2 := ⟨by decide +kernel, rfl⟩
theorem dX7_sort_2 : dn cX7_sort 2 (.iload_n 1) 1 3 := ⟨by decide +kernel, rfl⟩
theorem dX7_sort_3 : dn cX7_sort 3 (.aload_n 0) 1 4 := ⟨by decide +kernel, rfl⟩
theorem dX7_sort_4 : dn cX7_sort 4 (.getfield 22) 3 7 := ⟨by decide +kernel, rfl⟩
theorem dX7_sort_7 : db cX7_sort 7 (.if_icmp .ge 64) 3 10 (64) 71 := ⟨by decide +kernel, rfl, rfl⟩
theorem dX7_sort_10 : dn cX7_sort 10 (.aload_n 0) 1 11 := ⟨by decide +kernel, rfl⟩
theorem dX7_sort_11 : dn cX7_sort 11 (.getfield 11) 3 14 := ⟨by decide +kernel, rfl⟩
theorem dX7_sort_14 : dn cX7_sort 14 (.iload_n 1) 1 15 := ⟨by decide +kernel, rfl⟩
theorem dX7_sort_15 : dn cX7_sort 15 (.aaload) 1 16 := ⟨by decide +kernel, rfl⟩
theorem dX7_sort_16 : dn cX7_sort 16 (.astore_n 2) 1 17 := ⟨by decide +kernel, rfl⟩
theorem dX7_sort_17 : dn cX7_sort 17 (.iload_n 1) 1 18 := ⟨by decide +kernel, rfl⟩
theorem dX7_sort_18 : dn cX7_sort 18 (.istore_n 3) 1 19 := ⟨by decide +kernel, rfl⟩
theorem dX7_sort_19 : dn cX7_sort 19 (.iload_n 3) 1 20 := ⟨by decide +kernel, rfl⟩
theorem dX7_sort_20 : db cX7_sort 20 (.ifCond .le 38) 3 23 (38) 58 := ⟨by decide +kernel, rfl, rfl⟩
theorem dX7_sort_23 : dn cX7_sort 23 (.aload_n 2) 1 24 := ⟨by decide +kernel, rfl⟩
theorem dX7_sort_24 : dn cX7_sort 24 (.aload_n 0) 1 25 := ⟨by decide +kernel, rfl⟩
theorem dX7_sort_25 : dn cX7_sort 25 (.getfield 11) 3 28 := ⟨by decide +kernel, rfl⟩
theorem dX7_sort_28 : dn cX7_sort 28 (.iload_n 3) 1 29 := ⟨by decide +kernel, rfl⟩
theorem dX7_sort_29 : dn cX7_sort 29 (.iconst 1) 1 30 := ⟨by decide +kernel, rfl⟩
theorem dX7_sort_30 : dn cX7_sort 30 (.isub) 1 31 := ⟨by decide +kernel, rfl⟩
theorem dX7_sort_31 : dn cX7_sort 31 (.aaload) 1 32 := ⟨by decide +kernel, rfl⟩
theorem dX7_sort_32 : dn cX7_sort 32 (.invokevirtual 93) 3 35 := ⟨by decide +kernel, rfl⟩
theorem dX7_sort_35 : db cX7_sort 35 (.ifCond .eq 23) 3 38 (23) 58 := ⟨by decide +kernel, rfl, rfl⟩
theorem dX7_sort_38 : dn cX7_sort 38 (.aload_n 0) 1 39 := ⟨by decide +kernel, rfl⟩
theorem dX7_sort_39 : dn cX7_sort 39 (.getfield 11) 3 42 := ⟨by decide +kernel, rfl⟩
theorem dX7_sort_42 : dn cX7_sort 42 (.iload_n 3) 1 43 := ⟨by decide +kernel, rfl⟩
theorem dX7_sort_43 : dn cX7_sort 43 (.aload_n 0) 1 44 := ⟨by decide +kernel, rfl⟩
theorem dX7_sort_44 : dn cX7_sort 44 (.getfield 11) 3 47 := ⟨by decide +kernel, rfl⟩
theorem dX7_sort_47 : dn cX7_sort 47 (.iload_n 3) 1 48 := ⟨by decide +kernel, rfl⟩
theorem dX7_sort_48 : dn cX7_sort 48 (.iconst 1) 1 49 := ⟨by decide +kernel, rfl⟩
theorem dX7_sort_49 : dn cX7_sort 49 (.isub) 1 50 := ⟨by decide +kernel, rfl⟩
theorem dX7_sort_50 : dn cX7_sort 50 (.aaload) 1 51 := ⟨by decide +kernel, rfl⟩
theorem dX7_sort_51 : dn cX7_sort 51 (.aastore) 1 52 := ⟨by decide +kernel, rfl⟩
theorem dX7_sort_52 : dn cX7_sort 52 (.iinc 3 (-1)) 3 55 := ⟨by decide +kernel, rfl⟩
theorem dX7_sort_55 : db cX7_sort 55 (.goto (-36)) 3 58 (-36) 19 := ⟨by decide +kernel, rfl, rfl⟩
theorem dX7_sort_58 : dn cX7_sort 58 (.aload_n 0) 1 59 := ⟨by decide +kernel, rfl⟩
theorem dX7_sort_59 : dn cX7_sort 59 (.getfield 11) 3 62 := ⟨by decide +kernel, rfl⟩
theorem dX7_sort_62 : dn cX7_sort 62 (.iload_n 3) 1 63 := ⟨by decide +kernel, rfl⟩
theorem dX7_sort_63 : dn cX7_sort 63 (.aload_n 2) 1 64 := ⟨by decide +kernel, rfl⟩
theorem dX7_sort_64 : dn cX7_sort 64 (.aastore) 1 65 := ⟨by decide +kernel, rfl⟩
theorem dX7_sort_65 : dn cX7_sort 65 (.iinc 1 1) 3 68 := ⟨by decide +kernel, rfl⟩
theorem dX7_sort_68 : db cX7_sort 68 (.goto (-66)) 3 71 (-66) 2 := ⟨by decide +kernel, rfl, rfl⟩
theorem dX7_sort_71 : dn cX7_sort 71 (.return_) 1 72 := ⟨by decide +kernel, rfl⟩
theorem dX7_tellPieces_0 : dn cX7_tellPieces 0 (.iconst 0) 1 1 := ⟨by decide +kernel, rfl⟩
theorem dX7_tellPieces_1 : dn cX7_tellPieces 1 (.istore_n 3) 1 2 := ⟨by decide +kernel, rfl⟩
theorem dX7_tellPieces_2 : dn cX7_tellPieces 2 (.iload_n 3) 1 3 := ⟨by decide +kernel, rfl⟩
theorem dX7_tellPieces_3 : dn cX7_tellPieces 3 (.aload_n 0) 1 4 := ⟨by decide +kernel, rfl⟩
theorem dX7_tellPieces_4 : dn cX7_tellPieces 4 (.getfield 22) 3 7 := ⟨by decide +kernel, rfl⟩
theorem dX7_tellPieces_7 : db cX7_tellPieces 7 (.if_icmp .ge 24) 3 10 (24) 31 := ⟨by decide +kernel, rfl, rfl⟩
theorem dX7_tellPieces_10 : dn cX7_tellPieces 10 (.aload_n 0) 1 11 := ⟨by decide +kernel, rfl⟩
theorem dX7_tellPieces_11 : dn cX7_tellPieces 11 (.getfield 18) 3 14 := ⟨by decide +kernel, rfl⟩
theorem dX7_tellPieces_14 : dn cX7_tellPieces 14 (.aload_n 0) 1 15 := ⟨by decide +kernel, rfl⟩
theorem dX7_tellPieces_15 : dn cX7_tellPieces 15 (.getfield 11) 3 18 := ⟨by decide +kernel, rfl⟩
theorem dX7_tellPieces_18 : dn cX7_tellPieces 18 (.iload_n 3) 1 19 := ⟨by decide +kernel, rfl⟩
theorem dX7_tellPieces_19 : dn cX7_tellPieces 19 (.aaload) 1 20 := ⟨by decide +kernel, rfl⟩
theorem dX7_tellPieces_20 : dn cX7_tellPieces 20 (.getfield 97) 3 23 := ⟨by decide +kernel, rfl⟩
theorem dX7_tellPieces_23 : dn cX7_tellPieces 23 (.iload_n 3) 1 24 := ⟨by decide +kernel, rfl⟩
theorem dX7_tellPieces_24 : dn cX7_tellPieces 24 (.iastore) 1 25 := ⟨by decide +kernel, rfl⟩
theorem dX7_tellPieces_25 : dn cX7_tellPieces 25 (.iinc 3 1) 3 28 := ⟨by decide +kernel, rfl⟩
theorem dX7_tellPieces_28 : db cX7_tellPieces 28 (.goto (-26)) 3 31 (-26) 2 := ⟨by decide +kernel, rfl, rfl⟩
theorem dX7_tellPieces_31 : dn cX7_tellPieces 31 (.iconst 0) 1 32 := ⟨by decide +kernel, rfl⟩
theorem dX7_tellPieces_32 : dn cX7_tellPieces 32 (.istore_n 3) 1 33 := ⟨by decide +kernel, rfl⟩
theorem dX7_tellPieces_33 : dn cX7_tellPieces 33 (.iload_n 3) 1 34 := ⟨by decide +kernel, rfl⟩
theorem dX7_tellPieces_34 : dn cX7_tellPieces 34 (.iload_n 1) 1 35 := ⟨by decide +kernel, rfl⟩
theorem dX7_tellPieces_35 : db cX7_tellPieces 35 (.if_icmp .ge 25) 3 38 (25) 60 := ⟨by decide +kernel, rfl, rfl⟩
theorem dX7_tellPieces_38 : dn cX7_tellPieces 38 (.aload_n 0) 1 39 := ⟨by decide +kernel, rfl⟩
theorem dX7_tellPieces_39 : dn cX7_tellPieces 39 (.getfield 18) 3 42 := ⟨by decide +kernel, rfl⟩
theorem dX7_tellPieces_42 : dn cX7_tellPieces 42 (.iload_n 3) 1 43 := ⟨by decide +kernel, rfl⟩
theorem dX7_tellPieces_43 : dn cX7_tellPieces 43 (.aload_n 0) 1 44 := ⟨by decide +kernel, rfl⟩
theorem dX7_tellPieces_44 : dn cX7_tellPieces 44 (.getfield 18) 3 47 := ⟨by decide +kernel, rfl⟩
theorem dX7_tellPieces_47 : dn cX7_tellPieces 47 (.aload_n 2) 1 48 := ⟨by decide +kernel, rfl⟩
theorem dX7_tellPieces_48 : dn cX7_tellPieces 48 (.iload_n 3) 1 49 := ⟨by decide +kernel, rfl⟩
theorem dX7_tellPieces_49 : dn cX7_tellPieces 49 (.invokevirtual 83) 3 52 := ⟨by decide +kernel, rfl⟩
theorem dX7_tellPieces_52 : dn cX7_tellPieces 52 (.iaload) 1 53 := ⟨by decide +kernel, rfl⟩
theorem dX7_tellPieces_53 : dn cX7_tellPieces 53 (.iastore) 1 54 := ⟨by decide +kernel, rfl⟩
theorem dX7_tellPieces_54 : dn cX7_tellPieces 54 (.iinc 3 1) 3 57 := ⟨by decide +kernel, rfl⟩
theorem dX7_tellPieces_57 : db cX7_tellPieces 57 (.goto (-24)) 3 60 (-24) 33 := ⟨by decide +kernel, rfl, rfl⟩
theorem dX7_tellPieces_60 : dn cX7_tellPieces 60 (.return_) 1 61 := ⟨by decide +kernel, rfl⟩
theorem dX7_joinCrossing_0 : dn cX7_joinCrossing 0 (.aload_n 2) 1 1 := ⟨by decide +kernel, rfl⟩
theorem dX7_joinCrossing_1 : dn cX7_joinCrossing 1 (.aload_n 0) 1 2 := ⟨by decide +kernel, rfl⟩
theorem dX7_joinCrossing_2 : dn cX7_joinCrossing 2 (.getfield 22) 3 5 := ⟨by decide +kernel, rfl⟩
theorem dX7_joinCrossing_5 : dn cX7_joinCrossing 5 (.invokevirtual 50) 3 8 := ⟨by decide +kernel, rfl⟩
theorem dX7_joinCrossing_8 : dn cX7_joinCrossing 8 (.iconst 1) 1 9 := ⟨by decide +kernel, rfl⟩
theorem dX7_joinCrossing_9 : dn cX7_joinCrossing 9 (.istore_n 3) 1 10 := ⟨by decide +kernel, rfl⟩
theorem dX7_joinCrossing_10 : dn cX7_joinCrossing 10 (.iload_n 3) 1 11 := ⟨by decide +kernel, rfl⟩
theorem dX7_joinCrossing_11 : dn cX7_joinCrossing 11 (.aload_n 0) 1 12 := ⟨by decide +kernel, rfl⟩
theorem dX7_joinCrossing_12 : dn cX7_joinCrossing 12 (.getfield 22) 3 15 := ⟨by decide +kernel, rfl⟩
theorem dX7_joinCrossing_15 : db cX7_joinCrossing 15 (.if_icmp .ge 82) 3 18 (82) 97 := ⟨by decide +kernel, rfl, rfl⟩
theorem dX7_joinCrossing_18 : dn cX7_joinCrossing 18 (.iconst 0) 1 19 := ⟨by decide +kernel, rfl⟩
theorem dX7_joinCrossing_19 : dn cX7_joinCrossing 19 (.istore 4) 2 21 := ⟨by decide +kernel, rfl⟩
theorem dX7_joinCrossing_21 : dn cX7_joinCrossing 21 (.iload 4) 2 23 := ⟨by decide +kernel, rfl⟩
theorem dX7_joinCrossing_23 : dn cX7_joinCrossing 23 (.iload_n 3) 1 24 := ⟨by decide +kernel, rfl⟩
theorem dX7_joinCrossing_24 : db cX7_joinCrossing 24 (.if_icmp .ge 67) 3 27 (67) 91 := ⟨by decide +kernel, rfl, rfl⟩
theorem dX7_joinCrossing_27 : dn cX7_joinCrossing 27 (.aload_n 0) 1 28 := ⟨by decide +kernel, rfl⟩
theorem dX7_joinCrossing_28 : dn cX7_joinCrossing 28 (.getfield 11) 3 31 := ⟨by decide +kernel, rfl⟩
theorem dX7_joinCrossing_31 : dn cX7_joinCrossing 31 (.iload_n 3) 1 32 := ⟨by decide +kernel, rfl⟩
theorem dX7_joinCrossing_32 : dn cX7_joinCrossing 32 (.aaload) 1 33 := ⟨by decide +kernel, rfl⟩
theorem dX7_joinCrossing_33 : dn cX7_joinCrossing 33 (.aload_n 0) 1 34 := ⟨by decide +kernel, rfl⟩
theorem dX7_joinCrossing_34 : dn cX7_joinCrossing 34 (.getfield 11) 3 37 := ⟨by decide +kernel, rfl⟩
theorem dX7_joinCrossing_37 : dn cX7_joinCrossing 37 (.iload 4) 2 39 := ⟨by decide +kernel, rfl⟩
theorem dX7_joinCrossing_39 : dn cX7_joinCrossing 39 (.aaload) 1 40 := ⟨by decide +kernel, rfl⟩
theorem dX7_joinCrossing_40 : dn cX7_joinCrossing 40 (.iload_n 1) 1 41 := ⟨by decide +kernel, rfl⟩
theorem dX7_joinCrossing_41 : dn cX7_joinCrossing 41 (.invokevirtual 100) 3 44 := ⟨by decide +kernel, rfl⟩
theorem dX7_joinCrossing_44 : db cX7_joinCrossing 44 (.ifCond .eq 41) 3 47 (41) 85 := ⟨by decide +kernel, rfl, rfl⟩
theorem dX7_joinCrossing_47 : dn cX7_joinCrossing 47 (.aload_n 2) 1 48 := ⟨by decide +kernel, rfl⟩
theorem dX7_joinCrossing_48 : dn cX7_joinCrossing 48 (.iload_n 3) 1 49 := ⟨by decide +kernel, rfl⟩
theorem dX7_joinCrossing_49 : dn cX7_joinCrossing 49 (.iload 4) 2 51 := ⟨by decide +kernel, rfl⟩
theorem dX7_joinCrossing_51 : dn cX7_joinCrossing 51 (.invokevirtual 63) 3 54 := ⟨by decide +kernel, rfl⟩
theorem dX7_joinCrossing_54 : dn cX7_joinCrossing 54 (.aload_n 0) 1 55 := ⟨by decide +kernel, rfl⟩
theorem dX7_joinCrossing_55 : dn cX7_joinCrossing 55 (.getfield 11) 3 58 := ⟨by decide +kernel, rfl⟩
theorem dX7_joinCrossing_58 : dn cX7_joinCrossing 58 (.iload_n 3) 1 59 := ⟨by decide +kernel, rfl⟩
theorem dX7_joinCrossing_59 : dn cX7_joinCrossing 59 (.aaload) 1 60 := ⟨by decide +kernel, rfl⟩
theorem dX7_joinCrossing_60 : dn cX7_joinCrossing 60 (.dup) 1 61 := ⟨by decide +kernel, rfl⟩
theorem dX7_joinCrossing_61 : dn cX7_joinCrossing 61 (.getfield 104) 3 64 := ⟨by decide +kernel, rfl⟩
theorem dX7_joinCrossing_64 : dn cX7_joinCrossing 64 (.iconst 1) 1 65 := ⟨by decide +kernel, rfl⟩
theorem dX7_joinCrossing_65 : dn cX7_joinCrossing 65 (.iadd) 1 66 := ⟨by decide +kernel, rfl⟩
theorem dX7_joinCrossing_66 : dn cX7_joinCrossing 66 (.putfield 104) 3 69 := ⟨by decide +kernel, rfl⟩
theorem dX7_joinCrossing_69 : dn cX7_joinCrossing 69 (.aload_n 0) 1 70 := ⟨by decide +kernel, rfl⟩
theorem dX7_joinCrossing_70 : dn cX7_joinCrossing 70 (.getfield 11) 3 73 := ⟨by decide +kernel, rfl⟩
theorem dX7_joinCrossing_73 : dn cX7_joinCrossing 73 (.iload 4) 2 75 := ⟨by decide +kernel, rfl⟩
theorem dX7_joinCrossing_75 : dn cX7_joinCrossing 75 (.aaload) 1 76 := ⟨by decide +kernel, rfl⟩
theorem dX7_joinCrossing_76 : dn cX7_joinCrossing 76 (.dup) 1 77 := ⟨by decide +kernel, rfl⟩
theorem dX7_joinCrossing_77 : dn cX7_joinCrossing 77 (.getfield 104) 3 80 := ⟨by decide +kernel, rfl⟩
theorem dX7_joinCrossing_80 : dn cX7_joinCrossing 80 (.iconst 1) 1 81 := ⟨by decide +kernel, rfl⟩
theorem dX7_joinCrossing_81 : dn cX7_joinCrossing 81 (.iadd) 1 82 := ⟨by decide +kernel, rfl⟩
theorem dX7_joinCrossing_82 : dn cX7_joinCrossing 82 (.putfield 104) 3 85 := ⟨by decide +kernel, rfl⟩
theorem dX7_joinCrossing_85 : dn cX7_joinCrossing 85 (.iinc 4 1) 3 88 := ⟨by decide +kernel, rfl⟩
theorem dX7_joinCrossing_88 : db cX7_joinCrossing 88 (.goto (-67)) 3 91 (-67) 21 := ⟨by decide +kernel, rfl, rfl⟩
theorem dX7_joinCrossing_91 : dn cX7_joinCrossing 91 (.iinc 3 1) 3 94 := ⟨by decide +kernel, rfl⟩
theorem dX7_joinCrossing_94 : db cX7_joinCrossing 94 (.goto (-84)) 3 97 (-84) 10 := ⟨by decide +kernel, rfl, rfl⟩
theorem dX7_joinCrossing_97 : dn cX7_joinCrossing 97 (.return_) 1 98 := ⟨by decide +kernel, rfl⟩
theorem dX7_numberTables_0 : dn cX7_numberTables 0 (.iconst 0) 1 1 := ⟨by decide +kernel, rfl⟩
theorem dX7_numberTables_1 : dn cX7_numberTables 1 (.istore_n 2) 1 2 := ⟨by decide +kernel, rfl⟩
theorem dX7_numberTables_2 : dn cX7_numberTables 2 (.iconst 0) 1 3 := ⟨by decide +kernel, rfl⟩
theorem dX7_numberTables_3 : dn cX7_numberTables 3 (.istore_n 3) 1 4 := ⟨by decide +kernel, rfl⟩
theorem dX7_numberTables_4 : dn cX7_numberTables 4 (.iload_n 3) 1 5 := ⟨by decide +kernel, rfl⟩
theorem dX7_numberTables_5 : dn cX7_numberTables 5 (.aload_n 0) 1 6 := ⟨by decide +kernel, rfl⟩
theorem dX7_numberTables_6 : dn cX7_numberTables 6 (.getfield 22) 3 9 := ⟨by decide +kernel, rfl⟩
theorem dX7_numberTables_9 : db cX7_numberTables 9 (.if_icmp .ge 68) 3 12 (68) 77 := ⟨by decide +kernel, rfl, rfl⟩
theorem dX7_numberTables_12 : dn cX7_numberTables 12 (.iload_n 2) 1 13 := ⟨by decide +kernel, rfl⟩
theorem dX7_numberTables_13 : dn cX7_numberTables 13 (.bipush 6) 2 15 := ⟨by decide +kernel, rfl⟩
theorem dX7_numberTables_15 : db cX7_numberTables 15 (.if_icmp .ge 38) 3 18 (38) 53 := ⟨by decide +kernel, rfl, rfl⟩
theorem dX7_numberTables_18 : dn cX7_numberTables 18 (.aload_n 1) 1 19 := ⟨by decide +kernel, rfl⟩
theorem dX7_numberTables_19 : dn cX7_numberTables 19 (.iload_n 3) 1 20 := ⟨by decide +kernel, rfl⟩
theorem dX7_numberTables_20 : dn cX7_numberTables 20 (.invokevirtual 83) 3 23 := ⟨by decide +kernel, rfl⟩
theorem dX7_numberTables_23 : dn cX7_numberTables 23 (.iload_n 3) 1 24 := ⟨by decide +kernel, rfl⟩
theorem dX7_numberTables_24 : db cX7_numberTables 24 (.if_icmp .ne 29) 3 27 (29) 53 := ⟨by decide +kernel, rfl, rfl⟩
theorem dX7_numberTables_27 : dn cX7_numberTables 27 (.aload_n 0) 1 28 := ⟨by decide +kernel, rfl⟩
theorem dX7_numberTables_28 : dn cX7_numberTables 28 (.iload_n 3) 1 29 := ⟨by decide +kernel, rfl⟩
theorem dX7_numberTables_29 : dn cX7_numberTables 29 (.iconst 0) 1 30 := ⟨by decide +kernel, rfl⟩
theorem dX7_numberTables_30 : dn cX7_numberTables 30 (.aload_n 1) 1 31 := ⟨by decide +kernel, rfl⟩
theorem dX7_numberTables_31 : dn cX7_numberTables 31 (.invokevirtual 107) 3 34 := ⟨by decide +kernel, rfl⟩
theorem dX7_numberTables_34 : dn cX7_numberTables 34 (.iconst 1) 1 35 := ⟨by decide +kernel, rfl⟩
theorem dX7_numberTables_35 : db cX7_numberTables 35 (.if_icmp .le 18) 3 38 (18) 53 := ⟨by decide +kernel, rfl, rfl⟩
theorem dX7_numberTables_38 : dn cX7_numberTables 38 (.aload_n 0) 1 39 := ⟨by decide +kernel, rfl⟩
theorem dX7_numberTables_39 : dn cX7_numberTables 39 (.iload_n 3) 1 40 := ⟨by decide +kernel, rfl⟩
theorem dX7_numberTables_40 : dn cX7_numberTables 40 (.iconst 1) 1 41 := ⟨by decide +kernel, rfl⟩
theorem dX7_numberTables_41 : dn cX7_numberTables 41 (.aload_n 1) 1 42 := ⟨by decide +kernel, rfl⟩
theorem dX7_numberTables_42 : dn cX7_numberTables 42 (.invokevirtual 107) 3 45 := ⟨by decide +kernel, rfl⟩
theorem dX7_numberTables_45 : dn cX7_numberTables 45 (.iconst 1) 1 46 := ⟨by decide +kernel, rfl⟩
theorem dX7_numberTables_46 : db cX7_numberTables 46 (.if_icmp .le 7) 3 49 (7) 53 := ⟨by decide +kernel, rfl, rfl⟩
theorem dX7_numberTables_49 : dn cX7_numberTables 49 (.iconst 1) 1 50 := ⟨by decide +kernel, rfl⟩
theorem dX7_numberTables_50 : db cX7_numberTables 50 (.goto 4) 3 53 (4) 54 := ⟨by decide +kernel, rfl, rfl⟩
theorem dX7_numberTables_53 : dn cX7_numberTables 53 (.iconst 0) 1 54 := ⟨by decide +kernel, rfl⟩
theorem dX7_numberTables_54 : dn cX7_numberTables 54 (.istore 4) 2 56 := ⟨by decide +kernel, rfl⟩
theorem dX7_numberTables_56 : dn cX7_numberTables 56 (.iload 4) 2 58 := ⟨by decide +kernel, rfl⟩
theorem dX7_numberTables_58 : db cX7_numberTables 58 (.ifCond .eq 13) 3 61 (13) 71 := ⟨by decide +kernel, rfl, rfl⟩
theorem dX7_numberTables_61 : dn cX7_numberTables 61 (.aload_n 0) 1 62 := ⟨by decide +kernel, rfl⟩
theorem dX7_numberTables_62 : dn cX7_numberTables 62 (.iload_n 3) 1 63 := ⟨by decide +kernel, rfl⟩
theorem dX7_numberTables_63 : dn cX7_numberTables 63 (.iload_n 2) 1 64 := ⟨by decide +kernel, rfl⟩
theorem dX7_numberTables_64 : dn cX7_numberTables 64 (.aload_n 1) 1 65 := ⟨by decide +kernel, rfl⟩
theorem dX7_numberTables_65 : dn cX7_numberTables 65 (.invokevirtual 111) 3 68 := ⟨by decide +kernel, rfl⟩
theorem dX7_numberTables_68 : dn cX7_numberTables 68 (.iinc 2 1) 3 71 := ⟨by decide +kernel, rfl⟩
theorem dX7_numberTables_71 : dn cX7_numberTables 71 (.iinc 3 1) 3 74 := ⟨by decide +kernel, rfl⟩
theorem dX7_numberTables_74 : db cX7_numberTables 74 (.goto (-70)) 3 77 (-70) 4 := ⟨by decide +kernel, rfl, rfl⟩
theorem dX7_numberTables_77 : dn cX7_numberTables 77 (.iload_n 2) 1 78 := ⟨by decide +kernel, rfl⟩
theorem dX7_numberTables_78 : dn cX7_numberTables 78 (.ireturn) 1 79 := ⟨by decide +kernel, rfl⟩
theorem dX7_countPlaces_0 : dn cX7_countPlaces 0 (.iconst 0) 1 1 := ⟨by decide +kernel, rfl⟩
theorem dX7_countPlaces_1 : dn cX7_countPlaces 1 (.istore 4) 2 3 := ⟨by decide +kernel, rfl⟩
theorem dX7_countPlaces_3 : dn cX7_countPlaces 3 (.bipush (-6)) 2 5 := ⟨by decide +kernel, rfl⟩
theorem dX7_countPlaces_5 : dn cX7_countPlaces 5 (.istore 5) 2 7 := ⟨by decide +kernel, rfl⟩
theorem dX7_countPlaces_7 : dn cX7_countPlaces 7 (.iload_n 1) 1 8 := ⟨by decide +kernel, rfl⟩
theorem dX7_countPlaces_8 : dn cX7_countPlaces 8 (.istore 6) 2 10 := ⟨by decide +kernel, rfl⟩
theorem dX7_countPlaces_10 : dn cX7_countPlaces 10 (.iload 6) 2 12 := ⟨by decide +kernel, rfl⟩
theorem dX7_countPlaces_12 : dn cX7_countPlaces 12 (.aload_n 0) 1 13 := ⟨by decide +kernel, rfl⟩
theorem dX7_countPlaces_13 : dn cX7_countPlaces 13 (.getfield 22) 3 16 := ⟨by decide +kernel, rfl⟩
theorem dX7_countPlaces_16 : db cX7_countPlaces 16 (.if_icmp .ge 75) 3 19 (75) 91 := ⟨by decide +kernel, rfl, rfl⟩
theorem dX7_countPlaces_19 : dn cX7_countPlaces 19 (.aload_n 0) 1 20 := ⟨by decide +kernel, rfl⟩
theorem dX7_countPlaces_20 : dn cX7_countPlaces 20 (.getfield 11) 3 23 := ⟨by decide +kernel, rfl⟩
theorem dX7_countPlaces_23 : dn cX7_countPlaces 23 (.iload 6) 2 25 := ⟨by decide +kernel, rfl⟩
theorem dX7_countPlaces_25 : dn cX7_countPlaces 25 (.aaload) 1 26 := ⟨by decide +kernel, rfl⟩
theorem dX7_countPlaces_26 : dn cX7_countPlaces 26 (.getfield 115) 3 29 := ⟨by decide +kernel, rfl⟩
theorem dX7_countPlaces_29 : dn cX7_countPlaces 29 (.iload_n 2) 1 30 := ⟨by decide +kernel, rfl⟩
theorem dX7_countPlaces_30 : db cX7_countPlaces 30 (.if_icmp .ne 32) 3 33 (32) 62 := ⟨by decide +kernel, rfl, rfl⟩
theorem dX7_countPlaces_33 : dn cX7_countPlaces 33 (.aload_n 0) 1 34 := ⟨by decide +kernel, rfl⟩
theorem dX7_countPlaces_34 : dn cX7_countPlaces 34 (.getfield 11) 3 37 := ⟨by decide +kernel, rfl⟩
theorem dX7_countPlaces_37 : dn cX7_countPlaces 37 (.iload 6) 2 39 := ⟨by decide +kernel, rfl⟩
theorem dX7_countPlaces_39 : dn cX7_countPlaces 39 (.aaload) 1 40 := ⟨by decide +kernel, rfl⟩
theorem dX7_countPlaces_40 : dn cX7_countPlaces 40 (.getfield 118) 3 43 := ⟨by decide +kernel, rfl⟩
theorem dX7_countPlaces_43 : dn cX7_countPlaces 43 (.iload 5) 2 45 := ⟨by decide +kernel, rfl⟩
theorem dX7_countPlaces_45 : db cX7_countPlaces 45 (.if_icmp .eq 17) 3 48 (17) 62 := ⟨by decide +kernel, rfl, rfl⟩
theorem dX7_countPlaces_48 : dn cX7_countPlaces 48 (.aload_n 3) 1 49 := ⟨by decide +kernel, rfl⟩
theorem dX7_countPlaces_49 : dn cX7_countPlaces 49 (.iload 6) 2 51 := ⟨by decide +kernel, rfl⟩
theorem dX7_countPlaces_51 : dn cX7_countPlaces 51 (.invokevirtual 83) 3 54 := ⟨by decide +kernel, rfl⟩
theorem dX7_countPlaces_54 : dn cX7_countPlaces 54 (.iload_n 1) 1 55 := ⟨by decide +kernel, rfl⟩
theorem dX7_countPlaces_55 : db cX7_countPlaces 55 (.if_icmp .ne 7) 3 58 (7) 62 := ⟨by decide +kernel, rfl, rfl⟩
theorem dX7_countPlaces_58 : dn cX7_countPlaces 58 (.iconst 1) 1 59 := ⟨by decide +kernel, rfl⟩
theorem dX7_countPlaces_59 : db cX7_countPlaces 59 (.goto 4) 3 62 (4) 63 := ⟨by decide +kernel, rfl, rfl⟩
theorem dX7_countPlaces_62 : dn cX7_countPlaces 62 (.iconst 0) 1 63 := ⟨by decide +kernel, rfl⟩
theorem dX7_countPlaces_63 : dn cX7_countPlaces 63 (.istore 7) 2 65 := ⟨by decide +kernel, rfl⟩
theorem dX7_countPlaces_65 : dn cX7_countPlaces 65 (.iload 7) 2 67 := ⟨by decide +kernel, rfl⟩
theorem dX7_countPlaces_67 : db cX7_countPlaces 67 (.ifCond .eq 18) 3 70 (18) 85 := ⟨by decide +kernel, rfl, rfl⟩
theorem dX7_countPlaces_70 : dn cX7_countPlaces 70 (.iinc 4 1) 3 73 := ⟨by decide +kernel, rfl⟩
theorem dX7_countPlaces_73 : dn cX7_countPlaces 73 (.aload_n 0) 1 74 := ⟨by decide +kernel, rfl⟩
theorem dX7_countPlaces_74 : dn cX7_countPlaces 74 (.getfield 11) 3 77 := ⟨by decide +kernel, rfl⟩
theorem dX7_countPlaces_77 : dn cX7_countPlaces 77 (.iload 6) 2 79 := ⟨by decide +kernel, rfl⟩
theorem dX7_countPlaces_79 : dn cX7_countPlaces 79 (.aaload) 1 80 := ⟨by decide +kernel, rfl⟩
theorem dX7_countPlaces_80 : dn cX7_countPlaces 80 (.getfield 118) 3 83 := ⟨by decide +kernel, rfl⟩
theorem dX7_countPlaces_83 : dn cX7_countPlaces 83 (.istore 5) 2 85 := ⟨by decide +kernel, rfl⟩
theorem dX7_countPlaces_85 : dn cX7_countPlaces 85 (.iinc 6 1) 3 88 := ⟨by decide +kernel, rfl⟩
theorem dX7_countPlaces_88 : db cX7_countPlaces 88 (.goto (-78)) 3 91 (-78) 10 := ⟨by decide +kernel, rfl, rfl⟩
theorem dX7_countPlaces_91 : dn cX7_countPlaces 91 (.iload 4) 2 93 := ⟨by decide +kernel, rfl⟩
theorem dX7_countPlaces_93 : dn cX7_countPlaces 93 (.ireturn) 1 94 := ⟨by decide +kernel, rfl⟩
theorem dX7_giveTable_0 : dn cX7_giveTable 0 (.iload_n 1) 1 1 := ⟨by decide +kernel, rfl⟩
theorem dX7_giveTable_1 : dn cX7_giveTable 1 (.istore 4) 2 3 := ⟨by decide +kernel, rfl⟩
theorem dX7_giveTable_3 : dn cX7_giveTable 3 (.iload 4) 2 5 := ⟨by decide +kernel, rfl⟩
theorem dX7_giveTable_5 : dn cX7_giveTable 5 (.aload_n 0) 1 6 := ⟨by decide +kernel, rfl⟩
theorem dX7_giveTable_6 : dn cX7_giveTable 6 (.getfield 22) 3 9 := ⟨by decide +kernel, rfl⟩
theorem dX7_giveTable_9 : db cX7_giveTable 9 (.if_icmp .ge 30) 3 12 (30) 39 := ⟨by decide +kernel, rfl, rfl⟩
theorem dX7_giveTable_12 : dn cX7_giveTable 12 (.aload_n 3) 1 13 := ⟨by decide +kernel, rfl⟩
theorem dX7_giveTable_13 : dn cX7_giveTable 13 (.iload 4) 2 15 := ⟨by decide +kernel, rfl⟩
theorem dX7_giveTable_15 : dn cX7_giveTable 15 (.invokevirtual 83) 3 18 := ⟨by decide +kernel, rfl⟩
theorem dX7_giveTable_18 : dn cX7_giveTable 18 (.iload_n 1) 1 19 := ⟨by decide +kernel, rfl⟩
theorem dX7_giveTable_19 : db cX7_giveTable 19 (.if_icmp .ne 14) 3 22 (14) 33 := ⟨by decide +kernel, rfl, rfl⟩
theorem dX7_giveTable_22 : dn cX7_giveTable 22 (.aload_n 0) 1 23 := ⟨by decide +kernel, rfl⟩
theorem dX7_giveTable_23 : dn cX7_giveTable 23 (.getfield 11) 3 26 := ⟨by decide +kernel, rfl⟩
theorem dX7_giveTable_26 : dn cX7_giveTable 26 (.iload 4) 2 28 := ⟨by decide +kernel, rfl⟩
theorem dX7_giveTable_28 : dn cX7_giveTable 28 (.aaload) 1 29 := ⟨by decide +kernel, rfl⟩
theorem dX7_giveTable_29 : dn cX7_giveTable 29 (.iload_n 2) 1 30 := ⟨by decide +kernel, rfl⟩
theorem dX7_giveTable_30 : dn cX7_giveTable 30 (.putfield 121) 3 33 := ⟨by decide +kernel, rfl⟩
theorem dX7_giveTable_33 : dn cX7_giveTable 33 (.iinc 4 1) 3 36 := ⟨by decide +kernel, rfl⟩
theorem dX7_giveTable_36 : db cX7_giveTable 36 (.goto (-33)) 3 39 (-33) 3 := ⟨by decide +kernel, rfl, rfl⟩
theorem dX7_giveTable_39 : dn cX7_giveTable 39 (.return_) 1 40 := ⟨by decide +kernel, rfl⟩
theorem dX8_find_0 : dn cX8_find 0 (.aload_n 0) 1 1 := ⟨by decide +kernel, rfl⟩
theorem dX8_find_1 : dn cX8_find 1 (.aload_n 1) 1 2 := ⟨by decide +kernel, rfl⟩
theorem dX8_find_2 : dn cX8_find 2 (.iload_n 2) 1 3 := ⟨by decide +kernel, rfl⟩
theorem dX8_find_3 : dn cX8_find 3 (.invokevirtual 42) 3 6 := ⟨by decide +kernel, rfl⟩
theorem dX8_find_6 : dn cX8_find 6 (.aload_n 0) 1 7 := ⟨by decide +kernel, rfl⟩
theorem dX8_find_7 : dn cX8_find 7 (.aload_n 1) 1 8 := ⟨by decide +kernel, rfl⟩
theorem dX8_find_8 : dn cX8_find 8 (.iload_n 2) 1 9 := ⟨by decide +kernel, rfl⟩
theorem dX8_find_9 : dn cX8_find 9 (.iload_n 3) 1 10 := ⟨by decide +kernel, rfl⟩
theorem dX8_find_10 : dn cX8_find 10 (.invokevirtual 46) 3 13 := ⟨by decide +kernel, rfl⟩
theorem dX8_find_13 : dn cX8_find 13 (.aload_n 0) 1 14 := ⟨by decide +kernel, rfl⟩
theorem dX8_find_14 : dn cX8_find 14 (.aload 4) 2 16 := ⟨by decide +kernel, rfl⟩
theorem dX8_find_16 : dn cX8_find 16 (.invokevirtual 50) 3 19 := ⟨by decide +kernel, rfl⟩
theorem dX8_find_19 : dn cX8_find 19 (.aload_n 0) 1 20 := ⟨by decide +kernel, rfl⟩
theorem dX8_find_20 : dn cX8_find 20 (.aload 4) 2 22 := ⟨by decide +kernel, rfl⟩
theorem dX8_find_22 : dn cX8_find 22 (.invokevirtual 54) 3 25 := ⟨by decide +kernel, rfl⟩
theorem dX8_find_25 : dn cX8_find 25 (.aload_n 0) 1 26 := ⟨by decide +kernel, rfl⟩
theorem dX8_find_26 : dn cX8_find 26 (.invokevirtual 57) 3 29 := ⟨by decide +kernel, rfl⟩
theorem dX8_find_29 : dn cX8_find 29 (.aload_n 0) 1 30 := ⟨by decide +kernel, rfl⟩
theorem dX8_find_30 : dn cX8_find 30 (.invokevirtual 60) 3 33 := ⟨by decide +kernel, rfl⟩
theorem dX8_find_33 : dn cX8_find 33 (.aload_n 0) 1 34 := ⟨by decide +kernel, rfl⟩
theorem dX8_find_34 : dn cX8_find 34 (.aload_n 0) 1 35 := ⟨by decide +kernel, rfl⟩
theorem dX8_find_35 : dn cX8_find 35 (.invokevirtual 63) 3 38 := ⟨by decide +kernel, rfl⟩
theorem dX8_find_38 : dn cX8_find 38 (.putfield 67) 3 41 := ⟨by decide +kernel, rfl⟩
theorem dX8_find_41 : dn cX8_find 41 (.aload_n 0) 1 42 := ⟨by decide +kernel, rfl⟩
theorem dX8_find_42 : dn cX8_find 42 (.iconst 0) 1 43 := ⟨by decide +kernel, rfl⟩
theorem dX8_find_43 : dn cX8_find 43 (.putfield 71) 3 46 := ⟨by decide +kernel, rfl⟩
theorem dX8_find_46 : dn cX8_find 46 (.aload_n 0) 1 47 := ⟨by decide +kernel, rfl⟩
theorem dX8_find_47 : dn cX8_find 47 (.iconst 0) 1 48 := ⟨by decide +kernel, rfl⟩
theorem dX8_find_48 : dn cX8_find 48 (.putfield 74) 3 51 := ⟨by decide +kernel, rfl⟩
theorem dX8_find_51 : dn cX8_find 51 (.return_) 1 52 := ⟨by decide +kernel, rfl⟩
theorem dX8_takeLines_0 : dn cX8_takeLines 0 (.aload_n 0) 1 1 := ⟨by decide +kernel, rfl⟩
theorem dX8_takeLines_1 : dn cX8_takeLines 1 (.getfield 20) 3 4 := ⟨by decide +kernel, rfl⟩
theorem dX8_takeLines_4 : dn cX8_takeLines 4 (.invokevirtual 77) 3 7 := ⟨by decide +kernel, rfl⟩
theorem dX8_takeLines_7 : dn cX8_takeLines 7 (.aload_n 0) 1 8 := ⟨by decide +kernel, rfl⟩
theorem dX8_takeLines_8 : dn cX8_takeLines 8 (.iconst 0) 1 9 := ⟨by decide +kernel, rfl⟩
theorem dX8_takeLines_9 : dn cX8_takeLines 9 (.putfield 80) 3 12 := ⟨by decide +kernel, rfl⟩
theorem dX8_takeLines_12 : dn cX8_takeLines 12 (.iconst 0) 1 13 := ⟨by decide +kernel, rfl⟩
theorem dX8_takeLines_13 : dn cX8_takeLines 13 (.istore_n 3) 1 14 := ⟨by decide +kernel, rfl⟩
theorem dX8_takeLines_14 : dn cX8_takeLines 14 (.iload_n 3) 1 15 := ⟨by decide +kernel, rfl⟩
theorem dX8_takeLines_15 : dn cX8_takeLines 15 (.aload_n 1) 1 16 := ⟨by decide +kernel, rfl⟩
theorem dX8_takeLines_16 : dn cX8_takeLines 16 (.getfield 83) 3 19 := ⟨by decide +kernel, rfl⟩
theorem dX8_takeLines_19 : db cX8_takeLines 19 (.if_icmp .ge 57) 3 22 (57) 76 := ⟨by decide +kernel, rfl, rfl⟩
theorem dX8_takeLines_22 : dn cX8_takeLines 22 (.aload_n 1) 1 23 := ⟨by decide +kernel, rfl⟩
theorem dX8_takeLines_23 : dn cX8_takeLines 23 (.getfield 88) 3 26 := ⟨by decide +kernel, rfl⟩
theorem dX8_takeLines_26 : dn cX8_takeLines 26 (.iload_n 3) 1 27 := ⟨by decide +kernel, rfl⟩
theorem dX8_takeLines_27 : dn cX8_takeLines 27 (.aaload) 1 28 := ⟨by decide +kernel, rfl⟩
theorem dX8_takeLines_28 : dn cX8_takeLines 28 (.getfield 92) 3 31 := ⟨by decide +kernel, rfl⟩
theorem dX8_takeLines_31 : dn cX8_takeLines 31 (.iload_n 2) 1 32 := ⟨by decide +kernel, rfl⟩
theorem dX8_takeLines_32 : db cX8_takeLines 32 (.if_icmp .ne 38) 3 35 (38) 70 := ⟨by decide +kernel, rfl, rfl⟩
theorem dX8_takeLines_35 : dn cX8_takeLines 35 (.aload_n 0) 1 36 := ⟨by decide +kernel, rfl⟩
theorem dX8_takeLines_36 : dn cX8_takeLines 36 (.getfield 20) 3 39 := ⟨by decide +kernel, rfl⟩
theorem dX8_takeLines_39 : dn cX8_takeLines 39 (.aload_n 1) 1 40 := ⟨by decide +kernel, rfl⟩
theorem dX8_takeLines_40 : dn cX8_takeLines 40 (.getfield 88) 3 43 := ⟨by decide +kernel, rfl⟩
theorem dX8_takeLines_43 : dn cX8_takeLines 43 (.iload_n 3) 1 44 := ⟨by decide +kernel, rfl⟩
theorem dX8_takeLines_44 : dn cX8_takeLines 44 (.aaload) 1 45 := ⟨by decide +kernel, rfl⟩
theorem dX8_takeLines_45 : dn cX8_takeLines 45 (.getfield 97) 3 48 := ⟨by decide +kernel, rfl⟩
theorem dX8_takeLines_48 : dn cX8_takeLines 48 (.aload_n 1) 1 49 := ⟨by decide +kernel, rfl⟩
theorem dX8_takeLines_49 : dn cX8_takeLines 49 (.getfield 88) 3 52 := ⟨by decide +kernel, rfl⟩
theorem dX8_takeLines_52 : dn cX8_takeLines 52 (.iload_n 3) 1 53 := ⟨by decide +kernel, rfl⟩
theorem dX8_takeLines_53 : dn cX8_takeLines 53 (.aaload) 1 54 := ⟨by decide +kernel, rfl⟩
theorem dX8_takeLines_54 : dn cX8_takeLines 54 (.getfield 100) 3 57 := ⟨by decide +kernel, rfl⟩
theorem dX8_takeLines_57 : dn cX8_takeLines 57 (.invokevirtual 103) 3 60 := ⟨by decide +kernel, rfl⟩
theorem dX8_takeLines_60 : dn cX8_takeLines 60 (.aload_n 0) 1 61 := ⟨by decide +kernel, rfl⟩
theorem dX8_takeLines_61 : dn cX8_takeLines 61 (.dup) 1 62 := ⟨by decide +kernel, rfl⟩
theorem dX8_takeLines_62 : dn cX8_takeLines 62 (.getfield 80) 3 65 := ⟨by decide +kernel, rfl⟩
theorem dX8_takeLines_65 : dn cX8_takeLines 65 (.iconst 1) 1 66 := ⟨by decide +kernel, rfl⟩
theorem dX8_takeLines_66 : dn cX8_takeLines 66 (.iadd) 1 67 := ⟨by decide +kernel, rfl⟩
theorem dX8_takeLines_67 : dn cX8_takeLines 67 (.putfield 80) 3 70 := ⟨by decide +kernel, rfl⟩
theorem dX8_takeLines_70 : dn cX8_takeLines 70 (.iinc 3 1) 3 73 := ⟨by decide +kernel, rfl⟩
theorem dX8_takeLines_73 : db cX8_takeLines 73 (.goto (-59)) 3 76 (-59) 14 := ⟨by decide +kernel, rfl, rfl⟩
theorem dX8_takeLines_76 : dn cX8_takeLines 76 (.aload_n 0) 1 77 := ⟨by decide +kernel, rfl⟩
theorem dX8_takeLines_77 : dn cX8_takeLines 77 (.aload_n 0) 1 78 := ⟨by decide +kernel, rfl⟩
theorem dX8_takeLines_78 : dn cX8_takeLines 78 (.getfield 20) 3 81 := ⟨by decide +kernel, rfl⟩
theorem dX8_takeLines_81 : dn cX8_takeLines 81 (.getfield 107) 3 84 := ⟨by decide +kernel, rfl⟩
theorem dX8_takeLines_84 : dn cX8_takeLines 84 (.iconst 0) 1 85 := ⟨by decide +kernel, rfl⟩
theorem dX8_takeLines_85 : dn cX8_takeLines 85 (.iaload) 1 86 := ⟨by decide +kernel, rfl⟩
theorem dX8_takeLines_86 : dn cX8_takeLines 86 (.iconst 1) 1 87 := ⟨by decide +kernel, rfl⟩
theorem dX8_takeLines_87 : dn cX8_takeLines 87 (.isub) 1 88 := ⟨by decide +kernel, rfl⟩
theorem dX8_takeLines_88 : dn cX8_takeLines 88 (.putfield 110) 3 91 := ⟨by decide +kernel, rfl⟩
theorem dX8_takeLines_91 : dn cX8_takeLines 91 (.aload_n 0) 1 92 := ⟨by decide +kernel, rfl⟩
theorem dX8_takeLines_92 : dn cX8_takeLines 92 (.aload_n 0) 1 93 := ⟨by decide +kernel, rfl⟩
theorem dX8_takeLines_93 : dn cX8_takeLines 93 (.getfield 20) 3 96 := ⟨by decide +kernel, rfl⟩
theorem dX8_takeLines_96 : dn cX8_takeLines 96 (.getfield 107) 3 99 := ⟨by decide +kernel, rfl⟩
theorem dX8_takeLines_99 : dn cX8_takeLines 99 (.iconst 1) 1 100 := ⟨by decide +kernel, rfl⟩
theorem dX8_takeLines_100 : dn cX8_takeLines 100 (.iaload) 1 101 := ⟨by decide +kernel, rfl⟩
theorem dX8_takeLines_101 : dn cX8_takeLines 101 (.iconst 1) 1 102 := ⟨by decide +kernel, rfl⟩
theorem dX8_takeLines_102 : dn cX8_takeLines 102 (.isub) 1 103 := ⟨by decide +kernel, rfl⟩
theorem dX8_takeLines_103 : dn cX8_takeLines 103 (.putfield 113) 3 106 := ⟨by decide +kernel, rfl⟩
theorem dX8_takeLines_106 : dn cX8_takeLines 106 (.return_) 1 107 := ⟨by decide +kernel, rfl⟩
theorem dX8_markSides_0 : dn cX8_markSides 0 (.iconst 0) 1 1 := ⟨by decide +kernel, rfl⟩
theorem dX8_markSides_1 : dn cX8_markSides 1 (.istore 4) 2 3 := ⟨by decide +kernel, rfl⟩
theorem dX8_markSides_3 : dn cX8_markSides 3 (.iload 4) 2 5 := ⟨by decide +kernel, rfl⟩
theorem dX8_markSides_5 : dn cX8_markSides 5 (.aload_n 0) 1 6 := ⟨by decide +kernel, rfl⟩
theorem dX8_markSides_6 : dn cX8_markSides 6 (.getfield 26) 3 9 := ⟨by decide +kernel, rfl⟩
theorem dX8_markSides_9 : dn cX8_markSides 9 (.arraylength) 1 10 := ⟨by decide +kernel, rfl⟩
theorem dX8_markSides_10 : db cX8_markSides 10 (.if_icmp .ge 17) 3 13 (17) 27 := ⟨by decide +kernel, rfl, rfl⟩
theorem dX8_markSides_13 : dn cX8_markSides 13 (.aload_n 0) 1 14 := ⟨by decide +kernel, rfl⟩
theorem dX8_markSides_14 : dn cX8_markSides 14 (.getfield 26) 3 17 := ⟨by decide +kernel, rfl⟩
theorem dX8_markSides_17 : dn cX8_markSides 17 (.iload 4) 2 19 := ⟨by decide +kernel, rfl⟩
theorem dX8_markSides_19 : dn cX8_markSides 19 (.iconst 0) 1 20 := ⟨by decide +kernel, rfl⟩
theorem dX8_markSides_20 : dn cX8_markSides 20 (.bastore) 1 21 := ⟨by decide +kernel, rfl⟩
theorem dX8_markSides_21 : dn cX8_markSides 21 (.iinc 4 1) 3 24 := ⟨by decide +kernel, rfl⟩
theorem dX8_markSides_24 : db cX8_markSides 24 (.goto (-21)) 3 27 (-21) 3 := ⟨by decide +kernel, rfl, rfl⟩
theorem dX8_markSides_27 : dn cX8_markSides 27 (.iconst 0) 1 28 := ⟨by decide +kernel, rfl⟩
theorem dX8_markSides_28 : dn cX8_markSides 28 (.istore 4) 2 30 := ⟨by decide +kernel, rfl⟩
theorem dX8_markSides_30 : dn cX8_markSides 30 (.iload 4) 2 32 := ⟨by decide +kernel, rfl⟩
theorem dX8_markSides_32 : dn cX8_markSides 32 (.aload_n 1) 1 33 := ⟨by decide +kernel, rfl⟩
theorem dX8_markSides_33 : dn cX8_markSides 33 (.getfield 83) 3 36 := ⟨by decide +kernel, rfl⟩
theorem dX8_markSides_36 : db cX8_markSides 36 (.if_icmp .ge 35) 3 39 (35) 71 := ⟨by decide +kernel, rfl, rfl⟩
theorem dX8_markSides_39 : dn cX8_markSides 39 (.aload_n 1) 1 40 := ⟨by decide +kernel, rfl⟩
theorem dX8_markSides_40 : dn cX8_markSides 40 (.getfield 88) 3 43 := ⟨by decide +kernel, rfl⟩
theorem dX8_markSides_43 : dn cX8_markSides 43 (.iload 4) 2 45 := ⟨by decide +kernel, rfl⟩
theorem dX8_markSides_45 : dn cX8_markSides 45 (.aaload) 1 46 := ⟨by decide +kernel, rfl⟩
theorem dX8_markSides_46 : dn cX8_markSides 46 (.getfield 92) 3 49 := ⟨by decide +kernel, rfl⟩
theorem dX8_markSides_49 : dn cX8_markSides 49 (.iload_n 2) 1 50 := ⟨by decide +kernel, rfl⟩
theorem dX8_markSides_50 : db cX8_markSides 50 (.if_icmp .ne 15) 3 53 (15) 65 := ⟨by decide +kernel, rfl, rfl⟩
theorem dX8_markSides_53 : dn cX8_markSides 53 (.aload_n 0) 1 54 := ⟨by decide +kernel, rfl⟩
theorem dX8_markSides_54 : dn cX8_markSides 54 (.aload_n 1) 1 55 := ⟨by decide +kernel, rfl⟩
theorem dX8_markSides_55 : dn cX8_markSides 55 (.getfield 88) 3 58 := ⟨by decide +kernel, rfl⟩
theorem dX8_markSides_58 : dn cX8_markSides 58 (.iload 4) 2 60 := ⟨by decide +kernel, rfl⟩
theorem dX8_markSides_60 : dn cX8_markSides 60 (.aaload) 1 61 := ⟨by decide +kernel, rfl⟩
theorem dX8_markSides_61 : dn cX8_markSides 61 (.iload_n 3) 1 62 := ⟨by decide +kernel, rfl⟩
theorem dX8_markSides_62 : dn cX8_markSides 62 (.invokevirtual 116) 3 65 := ⟨by decide +kernel, rfl⟩
theorem dX8_markSides_65 : dn cX8_markSides 65 (.iinc 4 1) 3 68 := ⟨by decide +kernel, rfl⟩
theorem dX8_markSides_68 : db cX8_markSides 68 (.goto (-38)) 3 71 (-38) 30 := ⟨by decide +kernel, rfl, rfl⟩
theorem dX8_markSides_71 : dn cX8_markSides 71 (.return_) 1 72 := ⟨by decide +kernel, rfl⟩
theorem dX8_markSidesOf_0 : dn cX8_markSidesOf 0 (.iconst 1) 1 1 := ⟨by decide +kernel, rfl⟩
theorem dX8_markSidesOf_1 : dn cX8_markSidesOf 1 (.aload_n 1) 1 2 := ⟨by decide +kernel, rfl⟩
theorem dX8_markSidesOf_2 : dn cX8_markSidesOf 2 (.getfield 97) 3 5 := ⟨by decide +kernel, rfl⟩
theorem dX8_markSidesOf_5 : dn cX8_markSidesOf 5 (.isub) 1 6 := ⟨by decide +kernel, rfl⟩
theorem dX8_markSidesOf_6 : dn cX8_markSidesOf 6 (.istore_n 3) 1 7 := ⟨by decide +kernel, rfl⟩
theorem dX8_markSidesOf_7 : dn cX8_markSidesOf 7 (.aload_n 0) 1 8 := ⟨by decide +kernel, rfl⟩
theorem dX8_markSidesOf_8 : dn cX8_markSidesOf 8 (.getfield 20) 3 11 := ⟨by decide +kernel, rfl⟩
theorem dX8_markSidesOf_11 : dn cX8_markSidesOf 11 (.aload_n 1) 1 12 := ⟨by decide +kernel, rfl⟩
theorem dX8_markSidesOf_12 : dn cX8_markSidesOf 12 (.getfield 97) 3 15 := ⟨by decide +kernel, rfl⟩
theorem dX8_markSidesOf_15 : dn cX8_markSidesOf 15 (.aload_n 1) 1 16 := ⟨by decide +kernel, rfl⟩
theorem dX8_markSidesOf_16 : dn cX8_markSidesOf 16 (.getfield 100) 3 19 := ⟨by decide +kernel, rfl⟩
theorem dX8_markSidesOf_19 : dn cX8_markSidesOf 19 (.invokevirtual 120) 3 22 := ⟨by decide +kernel, rfl⟩
theorem dX8_markSidesOf_22 : dn cX8_markSidesOf 22 (.istore 4) 2 24 := ⟨by decide +kernel, rfl⟩
theorem dX8_markSidesOf_24 : dn cX8_markSidesOf 24 (.iconst 0) 1 25 := ⟨by decide +kernel, rfl⟩
theorem dX8_markSidesOf_25 : dn cX8_markSidesOf 25 (.istore 5) 2 27 := ⟨by decide +kernel, rfl⟩
theorem dX8_markSidesOf_27 : dn cX8_markSidesOf 27 (.iload 5) 2 29 := ⟨by decide +kernel, rfl⟩
theorem dX8_markSidesOf_29 : dn cX8_markSidesOf 29 (.iconst 1) 1 30 := ⟨by decide +kernel, rfl⟩
theorem dX8_markSidesOf_30 : dn cX8_markSidesOf 30 (.iadd) 1 31 := ⟨by decide +kernel, rfl⟩
theorem dX8_markSidesOf_31 : dn cX8_markSidesOf 31 (.aload_n 0) 1 32 := ⟨by decide +kernel, rfl⟩
theorem dX8_markSidesOf_32 : dn cX8_markSidesOf 32 (.getfield 20) 3 35 := ⟨by decide +kernel, rfl⟩
theorem dX8_markSidesOf_35 : dn cX8_markSidesOf 35 (.getfield 107) 3 38 := ⟨by decide +kernel, rfl⟩
theorem dX8_markSidesOf_38 : dn cX8_markSidesOf 38 (.iload_n 3) 1 39 := ⟨by decide +kernel, rfl⟩
theorem dX8_markSidesOf_39 : dn cX8_markSidesOf 39 (.iaload) 1 40 := ⟨by decide +kernel, rfl⟩
theorem dX8_markSidesOf_40 : db cX8_markSidesOf 40 (.if_icmp .ge 82) 3 43 (82) 122 := ⟨by decide +kernel, rfl, rfl⟩
theorem dX8_markSidesOf_43 : dn cX8_markSidesOf 43 (.aload_n 1) 1 44 := ⟨by decide +kernel, rfl⟩
theorem dX8_markSidesOf_44 : dn cX8_markSidesOf 44 (.getfield 97) 3 47 := ⟨by decide +kernel, rfl⟩
theorem dX8_markSidesOf_47 : db cX8_markSidesOf 47 (.ifCond .ne 15) 3 50 (15) 62 := ⟨by decide +kernel, rfl, rfl⟩
theorem dX8_markSidesOf_50 : dn cX8_markSidesOf 50 (.aload_n 0) 1 51 := ⟨by decide +kernel, rfl⟩
theorem dX8_markSidesOf_51 : dn cX8_markSidesOf 51 (.iconst 0) 1 52 := ⟨by decide +kernel, rfl⟩
theorem dX8_markSidesOf_52 : dn cX8_markSidesOf 52 (.iload 4) 2 54 := ⟨by decide +kernel, rfl⟩
theorem dX8_markSidesOf_54 : dn cX8_markSidesOf 54 (.iload 5) 2 56 := ⟨by decide +kernel, rfl⟩
theorem dX8_markSidesOf_56 : dn cX8_markSidesOf 56 (.invokevirtual 123) 3 59 := ⟨by decide +kernel, rfl⟩
theorem dX8_markSidesOf_59 : db cX8_markSidesOf 59 (.goto 12) 3 62 (12) 71 := ⟨by decide +kernel, rfl, rfl⟩
theorem dX8_markSidesOf_62 : dn cX8_markSidesOf 62 (.aload_n 0) 1 63 := ⟨by decide +kernel, rfl⟩
theorem dX8_markSidesOf_63 : dn cX8_markSidesOf 63 (.iconst 1) 1 64 := ⟨by decide +kernel, rfl⟩
theorem dX8_markSidesOf_64 : dn cX8_markSidesOf 64 (.iload 5) 2 66 := ⟨by decide +kernel, rfl⟩
theorem dX8_markSidesOf_66 : dn cX8_markSidesOf 66 (.iload 4) 2 68 := ⟨by decide +kernel, rfl⟩
theorem dX8_markSidesOf_68 : dn cX8_markSidesOf 68 (.invokevirtual 123) 3 71 := ⟨by decide +kernel, rfl⟩
theorem dX8_markSidesOf_71 : dn cX8_markSidesOf 71 (.istore 6) 2 73 := ⟨by decide +kernel, rfl⟩
theorem dX8_markSidesOf_73 : dn cX8_markSidesOf 73 (.iload 6) 2 75 := ⟨by decide +kernel, rfl⟩
theorem dX8_markSidesOf_75 : db cX8_markSidesOf 75 (.ifCond .lt 41) 3 78 (41) 116 := ⟨by decide +kernel, rfl, rfl⟩
theorem dX8_markSidesOf_78 : dn cX8_markSidesOf 78 (.aload_n 1) 1 79 := ⟨by decide +kernel, rfl⟩
theorem dX8_markSidesOf_79 : dn cX8_markSidesOf 79 (.aload_n 0) 1 80 := ⟨by decide +kernel, rfl⟩
theorem dX8_markSidesOf_80 : dn cX8_markSidesOf 80 (.getfield 20) 3 83 := ⟨by decide +kernel, rfl⟩
theorem dX8_markSidesOf_83 : dn cX8_markSidesOf 83 (.iload_n 3) 1 84 := ⟨by decide +kernel, rfl⟩
theorem dX8_markSidesOf_84 : dn cX8_markSidesOf 84 (.iload 5) 2 86 := ⟨by decide +kernel, rfl⟩
theorem dX8_markSidesOf_86 : dn cX8_markSidesOf 86 (.invokevirtual 127) 3 89 := ⟨by decide +kernel, rfl⟩
theorem dX8_markSidesOf_89 : dn cX8_markSidesOf 89 (.aload_n 0) 1 90 := ⟨by decide +kernel, rfl⟩
theorem dX8_markSidesOf_90 : dn cX8_markSidesOf 90 (.getfield 20) 3 93 := ⟨by decide +kernel, rfl⟩
theorem dX8_markSidesOf_93 : dn cX8_markSidesOf 93 (.iload_n 3) 1 94 := ⟨by decide +kernel, rfl⟩
theorem dX8_markSidesOf_94 : dn cX8_markSidesOf 94 (.iload 5) 2 96 := ⟨by decide +kernel, rfl⟩
theorem dX8_markSidesOf_96 : dn cX8_markSidesOf 96 (.iconst 1) 1 97 := ⟨by decide +kernel, rfl⟩
theorem dX8_markSidesOf_97 : dn cX8_markSidesOf 97 (.iadd) 1 98 := ⟨by decide +kernel, rfl⟩
theorem dX8_markSidesOf_98 : dn cX8_markSidesOf 98 (.invokevirtual 127) 3 101 := ⟨by decide +kernel, rfl⟩
theorem dX8_markSidesOf_101 : dn cX8_markSidesOf 101 (.iload_n 2) 1 102 := ⟨by decide +kernel, rfl⟩
theorem dX8_markSidesOf_102 : dn cX8_markSidesOf 102 (.invokevirtual 130) 3 105 := ⟨by decide +kernel, rfl⟩
theorem dX8_markSidesOf_105 : db cX8_markSidesOf 105 (.ifCond .eq 11) 3 108 (11) 116 := ⟨by decide +kernel, rfl, rfl⟩
theorem dX8_markSidesOf_108 : dn cX8_markSidesOf 108 (.aload_n 0) 1 109 := ⟨by decide +kernel, rfl⟩
theorem dX8_markSidesOf_109 : dn cX8_markSidesOf 109 (.getfield 26) 3 112 := ⟨by decide +kernel, rfl⟩
theorem dX8_markSidesOf_112 : dn cX8_markSidesOf 112 (.iload 6) 2 114 := ⟨by decide +kernel, rfl⟩
theorem dX8_markSidesOf_114 : dn cX8_markSidesOf 114 (.iconst 1) 1 115 := ⟨by decide +kernel, rfl⟩
theorem dX8_markSidesOf_115 : dn cX8_markSidesOf 115 (.bastore) 1 116 := ⟨by decide +kernel, rfl⟩
theorem dX8_markSidesOf_116 : dn cX8_markSidesOf 116 (.iinc 5 1) 3 119 := ⟨by decide +kernel, rfl⟩
theorem dX8_markSidesOf_119 : db cX8_markSidesOf 119 (.goto (-92)) 3 122 (-92) 27 := ⟨by decide +kernel, rfl, rfl⟩
theorem dX8_markSidesOf_122 : dn cX8_markSidesOf 122 (.return_) 1 123 := ⟨by decide +kernel, rfl⟩
theorem dX8_sideOf_0 : dn cX8_sideOf 0 (.iload_n 1) 1 1 := ⟨by decide +kernel, rfl⟩
theorem dX8_sideOf_1 : db cX8_sideOf 1 (.ifCond .ne 10) 3 4 (10) 11 := ⟨by decide +kernel, rfl, rfl⟩
theorem dX8_sideOf_4 : dn cX8_sideOf 4 (.aload_n 0) 1 5 := ⟨by decide +kernel, rfl⟩
theorem dX8_sideOf_5 : dn cX8_sideOf 5 (.getfield 110) 3 8 := ⟨by decide +kernel, rfl⟩
theorem dX8_sideOf_8 : db cX8_sideOf 8 (.goto 9) 3 11 (9) 17 := ⟨by decide +kernel, rfl, rfl⟩
theorem dX8_sideOf_11 : dn cX8_sideOf 11 (.aload_n 0) 1 12 := ⟨by decide +kernel, rfl⟩
theorem dX8_sideOf_12 : dn cX8_sideOf 12 (.getfield 110) 3 15 := ⟨by decide +kernel, rfl⟩
theorem dX8_sideOf_15 : dn cX8_sideOf 15 (.iconst 1) 1 16 := ⟨by decide +kernel, rfl⟩
theorem dX8_sideOf_16 : dn cX8_sideOf 16 (.isub) 1 17 := ⟨by decide +kernel, rfl⟩
theorem dX8_sideOf_17 : dn cX8_sideOf 17 (.istore 4) 2 19 := ⟨by decide +kernel, rfl⟩
theorem dX8_sideOf_19 : dn cX8_sideOf 19 (.iload_n 1) 1 20 := ⟨by decide +kernel, rfl⟩
theorem dX8_sideOf_20 : dn cX8_sideOf 20 (.iconst 1) 1 21 := ⟨by decide +kernel, rfl⟩
theorem dX8_sideOf_21 : db cX8_sideOf 21 (.if_icmp .ne 10) 3 24 (10) 31 := ⟨by decide +kernel, rfl, rfl⟩
theorem dX8_sideOf_24 : dn cX8_sideOf 24 (.aload_n 0) 1 25 := ⟨by decide +kernel, rfl⟩
theorem dX8_sideOf_25 : dn cX8_sideOf 25 (.getfield 113) 3 28 := ⟨by decide +kernel, rfl⟩
theorem dX8_sideOf_28 : db cX8_sideOf 28 (.goto 9) 3 31 (9) 37 := ⟨by decide +kernel, rfl, rfl⟩
theorem dX8_sideOf_31 : dn cX8_sideOf 31 (.aload_n 0) 1 32 := ⟨by decide +kernel, rfl⟩
theorem dX8_sideOf_32 : dn cX8_sideOf 32 (.getfield 113) 3 35 := ⟨by decide +kernel, rfl⟩
theorem dX8_sideOf_35 : dn cX8_sideOf 35 (.iconst 1) 1 36 := ⟨by decide +kernel, rfl⟩
theorem dX8_sideOf_36 : dn cX8_sideOf 36 (.isub) 1 37 := ⟨by decide +kernel, rfl⟩
theorem dX8_sideOf_37 : dn cX8_sideOf 37 (.istore 5) 2 39 := ⟨by decide +kernel, rfl⟩
theorem dX8_sideOf_39 : dn cX8_sideOf 39 (.iload_n 2) 1 40 := ⟨by decide +kernel, rfl⟩
theorem dX8_sideOf_40 : db cX8_sideOf 40 (.ifCond .lt 19) 3 43 (19) 59 := ⟨by decide +kernel, rfl, rfl⟩
theorem dX8_sideOf_43 : dn cX8_sideOf 43 (.iload_n 2) 1 44 := ⟨by decide +kernel, rfl⟩
theorem dX8_sideOf_44 : dn cX8_sideOf 44 (.iload 4) 2 46 := ⟨by decide +kernel, rfl⟩
theorem dX8_sideOf_46 : db cX8_sideOf 46 (.if_icmp .gt 13) 3 49 (13) 59 := ⟨by decide +kernel, rfl, rfl⟩
theorem dX8_sideOf_49 : dn cX8_sideOf 49 (.iload_n 3) 1 50 := ⟨by decide +kernel, rfl⟩
theorem dX8_sideOf_50 : db cX8_sideOf 50 (.ifCond .lt 9) 3 53 (9) 59 := ⟨by decide +kernel, rfl, rfl⟩
theorem dX8_sideOf_53 : dn cX8_sideOf 53 (.iload_n 3) 1 54 := ⟨by decide +kernel, rfl⟩
theorem dX8_sideOf_54 : dn cX8_sideOf 54 (.iload 5) 2 56 := ⟨by decide +kernel, rfl⟩
theorem dX8_sideOf_56 : db cX8_sideOf 56 (.if_icmp .le 6) 3 59 (6) 62 := ⟨by decide +kernel, rfl, rfl⟩
theorem dX8_sideOf_59 : dn cX8_sideOf 59 (.bipush (-6)) 2 61 := ⟨by decide +kernel, rfl⟩
theorem dX8_sideOf_61 : dn cX8_sideOf 61 (.ireturn) 1 62 := ⟨by decide +kernel, rfl⟩
theorem dX8_sideOf_62 : dn cX8_sideOf 62 (.iload_n 1) 1 63 := ⟨by decide +kernel, rfl⟩
theorem dX8_sideOf_63 : db cX8_sideOf 63 (.ifCond .ne 7) 3 66 (7) 70 := ⟨by decide +kernel, rfl, rfl⟩
theorem dX8_sideOf_66 : dn cX8_sideOf 66 (.iconst 0) 1 67 := ⟨by decide +kernel, rfl⟩
theorem dX8_sideOf_67 : db cX8_sideOf 67 (.goto 14) 3 70 (14) 81 := ⟨by decide +kernel, rfl, rfl⟩
theorem dX8_sideOf_70 : dn cX8_sideOf 70 (.aload_n 0) 1 71 := ⟨by decide +kernel, rfl⟩
theorem dX8_sideOf_71 : dn cX8_sideOf 71 (.getfield 110) 3 74 := ⟨by decide +kernel, rfl⟩
theorem dX8_sideOf_74 : dn cX8_sideOf 74 (.iconst 1) 1 75 := ⟨by decide +kernel, rfl⟩
theorem dX8_sideOf_75 : dn cX8_sideOf 75 (.iadd) 1 76 := ⟨by decide +kernel, rfl⟩
theorem dX8_sideOf_76 : dn cX8_sideOf 76 (.aload_n 0) 1 77 := ⟨by decide +kernel, rfl⟩
theorem dX8_sideOf_77 : dn cX8_sideOf 77 (.getfield 113) 3 80 := ⟨by decide +kernel, rfl⟩
theorem dX8_sideOf_80 : dn cX8_sideOf 80 (.imul) 1 81 := ⟨by decide +kernel, rfl⟩
theorem dX8_sideOf_81 : dn cX8_sideOf 81 (.istore 6) 2 83 := ⟨by decide +kernel, rfl⟩
theorem dX8_sideOf_83 : dn cX8_sideOf 83 (.iload 6) 2 85 := ⟨by decide +kernel, rfl⟩
theorem dX8_sideOf_85 : dn cX8_sideOf 85 (.iload_n 2) 1 86 := ⟨by decide +kernel, rfl⟩
theorem dX8_sideOf_86 : dn cX8_sideOf 86 (.iload 5) 2 88 := ⟨by decide +kernel, rfl⟩
theorem dX8_sideOf_88 : dn cX8_sideOf 88 (.iconst 1) 1 89 := ⟨by decide +kernel, rfl⟩
theorem dX8_sideOf_89 : dn cX8_sideOf 89 (.iadd) 1 90 := ⟨by decide +kernel, rfl⟩
theorem dX8_sideOf_90 : dn cX8_sideOf 90 (.imul) 1 91 := ⟨by decide +kernel, rfl⟩
theorem dX8_sideOf_91 : dn cX8_sideOf 91 (.iadd) 1 92 := ⟨by decide +kernel, rfl⟩
theorem dX8_sideOf_92 : dn cX8_sideOf 92 (.iload_n 3) 1 93 := ⟨by decide +kernel, rfl⟩
theorem dX8_sideOf_93 : dn cX8_sideOf 93 (.iadd) 1 94 := ⟨by decide +kernel, rfl⟩
theorem dX8_sideOf_94 : dn cX8_sideOf 94 (.ireturn) 1 95 := ⟨by decide +kernel, rfl⟩
theorem dX8_hasRuled_0 : dn cX8_hasRuled 0 (.aload_n 0) 1 1 := ⟨by decide +kernel, rfl⟩
theorem dX8_hasRuled_1 : dn cX8_hasRuled 1 (.iload_n 1) 1 2 := ⟨by decide +kernel, rfl⟩
theorem dX8_hasRuled_2 : dn cX8_hasRuled 2 (.iload_n 2) 1 3 := ⟨by decide +kernel, rfl⟩
theorem dX8_hasRuled_3 : dn cX8_hasRuled 3 (.iload_n 3) 1 4 := ⟨by decide +kernel, rfl⟩
theorem dX8_hasRuled_4 : dn cX8_hasRuled 4 (.invokevirtual 123) 3 7 := ⟨by decide +kernel, rfl⟩
theorem dX8_hasRuled_7 : dn cX8_hasRuled 7 (.istore 4) 2 9 := ⟨by decide +kernel, rfl⟩
theorem dX8_hasRuled_9 : dn cX8_hasRuled 9 (.iload 4) 2 11 := ⟨by decide +kernel, rfl⟩
theorem dX8_hasRuled_11 : db cX8_hasRuled 11 (.ifCond .lt 17) 3 14 (17) 28 := ⟨by decide +kernel, rfl, rfl⟩
theorem dX8_hasRuled_14 : dn cX8_hasRuled 14 (.aload_n 0) 1 15 := ⟨by decide +kernel, rfl⟩
theorem dX8_hasRuled_15 : dn cX8_hasRuled 15 (.getfield 26) 3 18 := ⟨by decide +kernel, rfl⟩
theorem dX8_hasRuled_18 : dn cX8_hasRuled 18 (.iload 4) 2 20 := ⟨by decide +kernel, rfl⟩
theorem dX8_hasRuled_20 : dn cX8_hasRuled 20 (.baload) 1 21 := ⟨by decide +kernel, rfl⟩
theorem dX8_hasRuled_21 : db cX8_hasRuled 21 (.ifCond .eq 7) 3 24 (7) 28 := ⟨by decide +kernel, rfl, rfl⟩
theorem dX8_hasRuled_24 : dn cX8_hasRuled 24 (.iconst 1) 1 25 := ⟨by decide +kernel, rfl⟩
theorem dX8_hasRuled_25 : db cX8_hasRuled 25 (.goto 4) 3 28 (4) 29 := ⟨by decide +kernel, rfl, rfl⟩
theorem dX8_hasRuled_28 : dn cX8_hasRuled 28 (.iconst 0) 1 29 := ⟨by decide +kernel, rfl⟩
theorem dX8_hasRuled_29 : dn cX8_hasRuled 29 (.ireturn) 1 30 := ⟨by decide +kernel, rfl⟩
theorem dX8_joinFields_0 : dn cX8_joinFields 0 (.aload_n 1) 1 1 := ⟨by decide +kernel, rfl⟩
theorem dX8_joinFields_1 : dn cX8_joinFields 1 (.aload_n 0) 1 2 := ⟨by decide +kernel, rfl⟩
theorem dX8_joinFields_2 : dn cX8_joinFields 2 (.getfield 110) 3 5 := ⟨by decide +kernel, rfl⟩
theorem dX8_joinFields_5 : dn cX8_joinFields 5 (.aload_n 0) 1 6 := ⟨by decide +kernel, rfl⟩
theorem dX8_joinFields_6 : dn cX8_joinFields 6 (.getfield 113) 3 9 := ⟨by decide +kernel, rfl⟩
theorem dX8_joinFields_9 : dn cX8_joinFields 9 (.imul) 1 10 := ⟨by decide +kernel, rfl⟩
theorem dX8_joinFields_10 : dn cX8_joinFields 10 (.invokevirtual 134) 3 13 := ⟨by decide +kernel, rfl⟩
theorem dX8_joinFields_13 : dn cX8_joinFields 13 (.iconst 0) 1 14 := ⟨by decide +kernel, rfl⟩
theorem dX8_joinFields_14 : dn cX8_joinFields 14 (.istore_n 2) 1 15 := ⟨by decide +kernel, rfl⟩
theorem dX8_joinFields_15 : dn cX8_joinFields 15 (.iload_n 2) 1 16 := ⟨by decide +kernel, rfl⟩
theorem dX8_joinFields_16 : dn cX8_joinFields 16 (.aload_n 0) 1 17 := ⟨by decide +kernel, rfl⟩
theorem dX8_joinFields_17 : dn cX8_joinFields 17 (.getfield 110) 3 20 := ⟨by decide +kernel, rfl⟩
theorem dX8_joinFields_20 : db cX8_joinFields 20 (.if_icmp .ge 86) 3 23 (86) 106 := ⟨by decide +kernel, rfl, rfl⟩
theorem dX8_joinFields_23 : dn cX8_joinFields 23 (.iconst 0) 1 24 := ⟨by decide +kernel, rfl⟩
theorem dX8_joinFields_24 : dn cX8_joinFields 24 (.istore_n 3) 1 25 := ⟨by decide +kernel, rfl⟩
theorem dX8_joinFields_25 : dn cX8_joinFields 25 (.iload_n 3) 1 26 := ⟨by decide +kernel, rfl⟩
theorem dX8_joinFields_26 : dn cX8_joinFields 26 (.aload_n 0) 1 27 := ⟨by decide +kernel, rfl⟩
theorem dX8_joinFields_27 : dn cX8_joinFields 27 (.getfield 113) 3 30 := ⟨by decide +kernel, rfl⟩
theorem dX8_joinFields_30 : db cX8_joinFields 30 (.if_icmp .ge 70) 3 33 (70) 100 := ⟨by decide +kernel, rfl, rfl⟩
theorem dX8_joinFields_33 : dn cX8_joinFields 33 (.iload_n 2) 1 34 := ⟨by decide +kernel, rfl⟩
theorem dX8_joinFields_34 : dn cX8_joinFields 34 (.aload_n 0) 1 35 := ⟨by decide +kernel, rfl⟩
theorem dX8_joinFields_35 : dn cX8_joinFields 35 (.getfield 113) 3 38 := ⟨by decide +kernel, rfl⟩
theorem dX8_joinFields_38 : dn cX8_joinFields 38 (.imul) 1 39 := ⟨by decide +kernel, rfl⟩
theorem dX8_joinFields_39 : dn cX8_joinFields 39 (.iload_n 3) 1 40 := ⟨by decide +kernel, rfl⟩
theorem dX8_joinFields_40 : dn cX8_joinFields 40 (.iadd) 1 41 := ⟨by decide +kernel, rfl⟩
theorem dX8_joinFields_41 : dn cX8_joinFields 41 (.istore 4) 2 43 := ⟨by decide +kernel, rfl⟩
theorem dX8_joinFields_43 : dn cX8_joinFields 43 (.iload_n 3) 1 44 := ⟨by decide +kernel, rfl⟩
theorem dX8_joinFields_44 : db cX8_joinFields 44 (.ifCond .le 23) 3 47 (23) 67 := ⟨by decide +kernel, rfl, rfl⟩
theorem dX8_joinFields_47 : dn cX8_joinFields 47 (.aload_n 0) 1 48 := ⟨by decide +kernel, rfl⟩
theorem dX8_joinFields_48 : dn cX8_joinFields 48 (.iconst 1) 1 49 := ⟨by decide +kernel, rfl⟩
theorem dX8_joinFields_49 : dn cX8_joinFields 49 (.iload_n 2) 1 50 := ⟨by decide +kernel, rfl⟩
theorem dX8_joinFields_50 : dn cX8_joinFields 50 (.iload_n 3) 1 51 := ⟨by decide +kernel, rfl⟩
theorem dX8_joinFields_51 : dn cX8_joinFields 51 (.invokevirtual 139) 3 54 := ⟨by decide +kernel, rfl⟩
theorem dX8_joinFields_54 : db cX8_joinFields 54 (.ifCond .ne 13) 3 57 (13) 67 := ⟨by decide +kernel, rfl, rfl⟩
theorem dX8_joinFields_57 : dn cX8_joinFields 57 (.aload_n 1) 1 58 := ⟨by decide +kernel, rfl⟩
theorem dX8_joinFields_58 : dn cX8_joinFields 58 (.iload 4) 2 60 := ⟨by decide +kernel, rfl⟩
theorem dX8_joinFields_60 : dn cX8_joinFields 60 (.iload 4) 2 62 := ⟨by decide +kernel, rfl⟩
theorem dX8_joinFields_62 : dn cX8_joinFields 62 (.iconst 1) 1 63 := ⟨by decide +kernel, rfl⟩
theorem dX8_joinFields_63 : dn cX8_joinFields 63 (.isub) 1 64 := ⟨by decide +kernel, rfl⟩
theorem dX8_joinFields_64 : dn cX8_joinFields 64 (.invokevirtual 142) 3 67 := ⟨by decide +kernel, rfl⟩
theorem dX8_joinFields_67 : dn cX8_joinFields 67 (.iload_n 2) 1 68 := ⟨by decide +kernel, rfl⟩
theorem dX8_joinFields_68 : db cX8_joinFields 68 (.ifCond .le 26) 3 71 (26) 94 := ⟨by decide +kernel, rfl, rfl⟩
theorem dX8_joinFields_71 : dn cX8_joinFields 71 (.aload_n 0) 1 72 := ⟨by decide +kernel, rfl⟩
theorem dX8_joinFields_72 : dn cX8_joinFields 72 (.iconst 0) 1 73 := ⟨by decide +kernel, rfl⟩
theorem dX8_joinFields_73 : dn cX8_joinFields 73 (.iload_n 2) 1 74 := ⟨by decide +kernel, rfl⟩
theorem dX8_joinFields_74 : dn cX8_joinFields 74 (.iload_n 3) 1 75 := ⟨by decide +kernel, rfl⟩
theorem dX8_joinFields_75 : dn cX8_joinFields 75 (.invokevirtual 139) 3 78 := ⟨by decide +kernel, rfl⟩
theorem dX8_joinFields_78 : db cX8_joinFields 78 (.ifCond .ne 16) 3 81 (16) 94 := ⟨by decide +kernel, rfl, rfl⟩
theorem dX8_joinFields_81 : dn cX8_joinFields 81 (.aload_n 1) 1 82 := ⟨by decide +kernel, rfl⟩
theorem dX8_joinFields_82 : dn cX8_joinFields 82 (.iload 4) 2 84 := ⟨by decide +kernel, rfl⟩
theorem dX8_joinFields_84 : dn cX8_joinFields 84 (.iload 4) 2 86 := ⟨by decide +kernel, rfl⟩
theorem dX8_joinFields_86 : dn cX8_joinFields 86 (.aload_n 0) 1 87 := ⟨by decide +kernel, rfl⟩
theorem dX8_joinFields_87 : dn cX8_joinFields 87 (.getfield 113) 3 90 := ⟨by decide +kernel, rfl⟩
theorem dX8_joinFields_90 : dn cX8_joinFields 90 (.isub) 1 91 := ⟨by decide +kernel, rfl⟩
theorem dX8_joinFields_91 : dn cX8_joinFields 91 (.invokevirtual 142) 3 94 := ⟨by decide +kernel, rfl⟩
theorem dX8_joinFields_94 : dn cX8_joinFields 94 (.iinc 3 1) 3 97 := ⟨by decide +kernel, rfl⟩
theorem dX8_joinFields_97 : db cX8_joinFields 97 (.goto (-72)) 3 100 (-72) 25 := ⟨by decide +kernel, rfl, rfl⟩
theorem dX8_joinFields_100 : dn cX8_joinFields 100 (.iinc 2 1) 3 103 := ⟨by decide +kernel, rfl⟩
theorem dX8_joinFields_103 : db cX8_joinFields 103 (.goto (-88)) 3 106 (-88) 15 := ⟨by decide +kernel, rfl, rfl⟩
theorem dX8_joinFields_106 : dn cX8_joinFields 106 (.return_) 1 107 := ⟨by decide +kernel, rfl⟩
theorem dX8_numberCells_0 : dn cX8_numberCells 0 (.aload_n 0) 1 1 := ⟨by decide +kernel, rfl⟩
theorem dX8_numberCells_1 : dn cX8_numberCells 1 (.iconst 0) 1 2 := ⟨by decide +kernel, rfl⟩
theorem dX8_numberCells_2 : dn cX8_numberCells 2 (.putfield 145) 3 5 := ⟨by decide +kernel, rfl⟩
theorem dX8_numberCells_5 : dn cX8_numberCells 5 (.iconst 0) 1 6 := ⟨by decide +kernel, rfl⟩
theorem dX8_numberCells_6 : dn cX8_numberCells 6 (.istore_n 2) 1 7 := ⟨by decide +kernel, rfl⟩
theorem dX8_numberCells_7 : dn cX8_numberCells 7 (.iload_n 2) 1 8 := ⟨by decide +kernel, rfl⟩
theorem dX8_numberCells_8 : dn cX8_numberCells 8 (.aload_n 0) 1 9 := ⟨by decide +kernel, rfl⟩
theorem dX8_numberCells_9 : dn cX8_numberCells 9 (.getfield 110) 3 12 := ⟨by decide +kernel, rfl⟩
theorem dX8_numberCells_12 : db cX8_numberCells 12 (.if_icmp .ge 86) 3 15 (86) 98 := ⟨by decide +kernel, rfl, rfl⟩
theorem dX8_numberCells_15 : dn cX8_numberCells 15 (.iconst 0) 1 16 := ⟨by decide +kernel, rfl⟩
theorem dX8_numberCells_16 : dn cX8_numberCells 16 (.istore_n 3) 1 17 := ⟨by decide +kernel, rfl⟩
theorem dX8_numberCells_17 : dn cX8_numberCells 17 (.iload_n 3) 1 18 := ⟨by decide +kernel, rfl⟩
theorem dX8_numberCells_18 : dn cX8_numberCells 18 (.aload_n 0) 1 19 := ⟨by decide +kernel, rfl⟩
theorem dX8_numberCells_19 : dn cX8_numberCells 19 (.getfield 113) 3 22 := ⟨by decide +kernel, rfl⟩
theorem dX8_numberCells_22 : db cX8_numberCells 22 (.if_icmp .ge 70) 3 25 (70) 92 := ⟨by decide +kernel, rfl, rfl⟩
theorem dX8_numberCells_25 : dn cX8_numberCells 25 (.iload_n 2) 1 26 := ⟨by decide +kernel, rfl⟩
theorem dX8_numberCells_26 : dn cX8_numberCells 26 (.aload_n 0) 1 27 := ⟨by decide +kernel, rfl⟩
theorem dX8_numberCells_27 : dn cX8_numberCells 27 (.getfield 113) 3 30 := ⟨by decide +kernel, rfl⟩
theorem dX8_numberCells_30 : dn cX8_numberCells 30 (.imul) 1 31 := ⟨by decide +kernel, rfl⟩
theorem dX8_numberCells_31 : dn cX8_numberCells 31 (.iload_n 3) 1 32 := ⟨by decide +kernel, rfl⟩
theorem dX8_numberCells_32 : dn cX8_numberCells 32 (.iadd) 1 33 := ⟨by decide +kernel, rfl⟩
theorem dX8_numberCells_33 : dn cX8_numberCells 33 (.istore 4) 2 35 := ⟨by decide +kernel, rfl⟩
theorem dX8_numberCells_35 : dn cX8_numberCells 35 (.aload_n 1) 1 36 := ⟨by decide +kernel, rfl⟩
theorem dX8_numberCells_36 : dn cX8_numberCells 36 (.iload 4) 2 38 := ⟨by decide +kernel, rfl⟩
theorem dX8_numberCells_38 : dn cX8_numberCells 38 (.invokevirtual 148) 3 41 := ⟨by decide +kernel, rfl⟩
theorem dX8_numberCells_41 : dn cX8_numberCells 41 (.istore 5) 2 43 := ⟨by decide +kernel, rfl⟩
theorem dX8_numberCells_43 : dn cX8_numberCells 43 (.iload 5) 2 45 := ⟨by decide +kernel, rfl⟩
theorem dX8_numberCells_45 : dn cX8_numberCells 45 (.iload 4) 2 47 := ⟨by decide +kernel, rfl⟩
theorem dX8_numberCells_47 : db cX8_numberCells 47 (.if_icmp .ne 12) 3 50 (12) 59 := ⟨by decide +kernel, rfl, rfl⟩
theorem dX8_numberCells_50 : dn cX8_numberCells 50 (.aload_n 0) 1 51 := ⟨by decide +kernel, rfl⟩
theorem dX8_numberCells_51 : dn cX8_numberCells 51 (.iload_n 2) 1 52 := ⟨by decide +kernel, rfl⟩
theorem dX8_numberCells_52 : dn cX8_numberCells 52 (.iload_n 3) 1 53 := ⟨by decide +kernel, rfl⟩
theorem dX8_numberCells_53 : dn cX8_numberCells 53 (.invokevirtual 152) 3 56 := ⟨by decide +kernel, rfl⟩
theorem dX8_numberCells_56 : db cX8_numberCells 56 (.goto 30) 3 59 (30) 86 := ⟨by decide +kernel, rfl, rfl⟩
theorem dX8_numberCells_59 : dn cX8_numberCells 59 (.aload_n 0) 1 60 := ⟨by decide +kernel, rfl⟩
theorem dX8_numberCells_60 : dn cX8_numberCells 60 (.getfield 30) 3 63 := ⟨by decide +kernel, rfl⟩
theorem dX8_numberCells_63 : dn cX8_numberCells 63 (.iload 4) 2 65 := ⟨by decide +kernel, rfl⟩
theorem dX8_numberCells_65 : dn cX8_numberCells 65 (.aload_n 0) 1 66 := ⟨by decide +kernel, rfl⟩
theorem dX8_numberCells_66 : dn cX8_numberCells 66 (.getfield 30) 3 69 := ⟨by decide +kernel, rfl⟩
theorem dX8_numberCells_69 : dn cX8_numberCells 69 (.iload 5) 2 71 := ⟨by decide +kernel, rfl⟩
theorem dX8_numberCells_71 : dn cX8_numberCells 71 (.iaload) 1 72 := ⟨by decide +kernel, rfl⟩
theorem dX8_numberCells_72 : dn cX8_numberCells 72 (.iastore) 1 73 := ⟨by decide +kernel, rfl⟩
theorem dX8_numberCells_73 : dn cX8_numberCells 73 (.aload_n 0) 1 74 := ⟨by decide +kernel, rfl⟩
theorem dX8_numberCells_74 : dn cX8_numberCells 74 (.aload_n 0) 1 75 := ⟨by decide +kernel, rfl⟩
theorem dX8_numberCells_75 : dn cX8_numberCells 75 (.getfield 30) 3 78 := ⟨by decide +kernel, rfl⟩
theorem dX8_numberCells_78 : dn cX8_numberCells 78 (.iload 4) 2 80 := ⟨by decide +kernel, rfl⟩
theorem dX8_numberCells_80 : dn cX8_numberCells 80 (.iaload) 1 81 := ⟨by decide +kernel, rfl⟩
theorem dX8_numberCells_81 : dn cX8_numberCells 81 (.iload_n 2) 1 82 := ⟨by decide +kernel, rfl⟩
theorem dX8_numberCells_82 : dn cX8_numberCells 82 (.iload_n 3) 1 83 := ⟨by decide +kernel, rfl⟩
theorem dX8_numberCells_83 : dn cX8_numberCells 83 (.invokevirtual 155) 3 86 := ⟨by decide +kernel, rfl⟩
theorem dX8_numberCells_86 : dn cX8_numberCells 86 (.iinc 3 1) 3 89 := ⟨by decide +kernel, rfl⟩
theorem dX8_numberCells_89 : db cX8_numberCells 89 (.goto (-72)) 3 92 (-72) 17 := ⟨by decide +kernel, rfl, rfl⟩
theorem dX8_numberCells_92 : dn cX8_numberCells 92 (.iinc 2 1) 3 95 := ⟨by decide +kernel, rfl⟩
theorem dX8_numberCells_95 : db cX8_numberCells 95 (.goto (-88)) 3 98 (-88) 7 := ⟨by decide +kernel, rfl, rfl⟩
theorem dX8_numberCells_98 : dn cX8_numberCells 98 (.return_) 1 99 := ⟨by decide +kernel, rfl⟩
theorem dX8_beginCell_0 : dn cX8_beginCell 0 (.aload_n 0) 1 1 := ⟨by decide +kernel, rfl⟩
theorem dX8_beginCell_1 : dn cX8_beginCell 1 (.getfield 30) 3 4 := ⟨by decide +kernel, rfl⟩
theorem dX8_beginCell_4 : dn cX8_beginCell 4 (.iload_n 1) 1 5 := ⟨by decide +kernel, rfl⟩
theorem dX8_beginCell_5 : dn cX8_beginCell 5 (.aload_n 0) 1 6 := ⟨by decide +kernel, rfl⟩
theorem dX8_beginCell_6 : dn cX8_beginCell 6 (.getfield 113) 3 9 := ⟨by decide +kernel, rfl⟩
theorem dX8_beginCell_9 : dn cX8_beginCell 9 (.imul) 1 10 := ⟨by decide +kernel, rfl⟩
theorem dX8_beginCell_10 : dn cX8_beginCell 10 (.iload_n 2) 1 11 := ⟨by decide +kernel, rfl⟩
theorem dX8_beginCell_11 : dn cX8_beginCell 11 (.iadd) 1 12 := ⟨by decide +kernel, rfl⟩
theorem dX8_beginCell_12 : dn cX8_beginCell 12 (.aload_n 0) 1 13 := ⟨by decide +kernel, rfl⟩
theorem dX8_beginCell_13 : dn cX8_beginCell 13 (.getfield 145) 3 16 := ⟨by decide +kernel, rfl⟩
theorem dX8_beginCell_16 : dn cX8_beginCell 16 (.iastore) 1 17 := ⟨by decide +kernel, rfl⟩
theorem dX8_beginCell_17 : dn cX8_beginCell 17 (.aload_n 0) 1 18 := ⟨by decide +kernel, rfl⟩
theorem dX8_beginCell_18 : dn cX8_beginCell 18 (.getfield 36) 3 21 := ⟨by decide +kernel, rfl⟩
theorem dX8_beginCell_21 : dn cX8_beginCell 21 (.iconst 0) 1 22 := ⟨by decide +kernel, rfl⟩
theorem dX8_beginCell_22 : dn cX8_beginCell 22 (.aaload) 1 23 := ⟨by decide +kernel, rfl⟩
theorem dX8_beginCell_23 : dn cX8_beginCell 23 (.aload_n 0) 1 24 := ⟨by decide +kernel, rfl⟩
theorem dX8_beginCell_24 : dn cX8_beginCell 24 (.getfield 145) 3 27 := ⟨by decide +kernel, rfl⟩
theorem dX8_beginCell_27 : dn cX8_beginCell 27 (.iload_n 1) 1 28 := ⟨by decide +kernel, rfl⟩
theorem dX8_beginCell_28 : dn cX8_beginCell 28 (.iastore) 1 29 := ⟨by decide +kernel, rfl⟩
theorem dX8_beginCell_29 : dn cX8_beginCell 29 (.aload_n 0) 1 30 := ⟨by decide +kernel, rfl⟩
theorem dX8_beginCell_30 : dn cX8_beginCell 30 (.getfield 36) 3 33 := ⟨by decide +kernel, rfl⟩
theorem dX8_beginCell_33 : dn cX8_beginCell 33 (.iconst 1) 1 34 := ⟨by decide +kernel, rfl⟩
theorem dX8_beginCell_34 : dn cX8_beginCell 34 (.aaload) 1 35 := ⟨by decide +kernel, rfl⟩
theorem dX8_beginCell_35 : dn cX8_beginCell 35 (.aload_n 0) 1 36 := ⟨by decide +kernel, rfl⟩
theorem dX8_beginCell_36 : dn cX8_beginCell 36 (.getfield 145) 3 39 := ⟨by decide +kernel, rfl⟩
theorem dX8_beginCell_39 : dn cX8_beginCell 39 (.iload_n 2) 1 40 := ⟨by decide +kernel, rfl⟩
theorem dX8_beginCell_40 : dn cX8_beginCell 40 (.iastore) 1 41 := ⟨by decide +kernel, rfl⟩
theorem dX8_beginCell_41 : dn cX8_beginCell 41 (.aload_n 0) 1 42 := ⟨by decide +kernel, rfl⟩
theorem dX8_beginCell_42 : dn cX8_beginCell 42 (.getfield 36) 3 45 := ⟨by decide +kernel, rfl⟩
theorem dX8_beginCell_45 : dn cX8_beginCell 45 (.iconst 2) 1 46 := ⟨by decide +kernel, rfl⟩
theorem dX8_beginCell_46 : dn cX8_beginCell 46 (.aaload) 1 47 := ⟨by decide +kernel, rfl⟩
theorem dX8_beginCell_47 : dn cX8_beginCell 47 (.aload_n 0) 1 48 := ⟨by decide +kernel, rfl⟩
theorem dX8_beginCell_48 : dn cX8_beginCell 48 (.getfield 145) 3 51 := ⟨by decide +kernel, rfl⟩
theorem dX8_beginCell_51 : dn cX8_beginCell 51 (.iconst 1) 1 52 := ⟨by decide +kernel, rfl⟩
theorem dX8_beginCell_52 : dn cX8_beginCell 52 (.iastore) 1 53 := ⟨by decide +kernel, rfl⟩
theorem dX8_beginCell_53 : dn cX8_beginCell 53 (.aload_n 0) 1 54 := ⟨by decide +kernel, rfl⟩
theorem dX8_beginCell_54 : dn cX8_beginCell 54 (.getfield 36) 3 57 := ⟨by decide +kernel, rfl⟩
theorem dX8_beginCell_57 : dn cX8_beginCell 57 (.iconst 3) 1 58 := ⟨by decide +kernel, rfl⟩
theorem dX8_beginCell_58 : dn cX8_beginCell 58 (.aaload) 1 59 := ⟨by decide +kernel, rfl⟩
theorem dX8_beginCell_59 : dn cX8_beginCell 59 (.aload_n 0) 1 60 := ⟨by decide +kernel, rfl⟩
theorem dX8_beginCell_60 : dn cX8_beginCell 60 (.getfield 145) 3 63 := ⟨by decide +kernel, rfl⟩
theorem dX8_beginCell_63 : dn cX8_beginCell 63 (.iconst 1) 1 64 := ⟨by decide +kernel, rfl⟩
theorem dX8_beginCell_64 : dn cX8_beginCell 64 (.iastore) 1 65 := ⟨by decide +kernel, rfl⟩
theorem dX8_beginCell_65 : dn cX8_beginCell 65 (.aload_n 0) 1 66 := ⟨by decide +kernel, rfl⟩
theorem dX8_beginCell_66 : dn cX8_beginCell 66 (.getfield 36) 3 69 := ⟨by decide +kernel, rfl⟩
theorem dX8_beginCell_69 : dn cX8_beginCell 69 (.iconst 4) 1 70 := ⟨by decide +kernel, rfl⟩
theorem dX8_beginCell_70 : dn cX8_beginCell 70 (.aaload) 1 71 := ⟨by decide +kernel, rfl⟩
theorem dX8_beginCell_71 : dn cX8_beginCell 71 (.aload_n 0) 1 72 := ⟨by decide +kernel, rfl⟩
theorem dX8_beginCell_72 : dn cX8_beginCell 72 (.getfield 145) 3 75 := ⟨by decide +kernel, rfl⟩
theorem dX8_beginCell_75 : dn cX8_beginCell 75 (.iconst 1) 1 76 := ⟨by decide +kernel, rfl⟩
theorem dX8_beginCell_76 : dn cX8_beginCell 76 (.iastore) 1 77 := ⟨by decide +kernel, rfl⟩
theorem dX8_beginCell_77 : dn cX8_beginCell 77 (.aload_n 0) 1 78 := ⟨by decide +kernel, rfl⟩
theorem dX8_beginCell_78 : dn cX8_beginCell 78 (.getfield 36) 3 81 := ⟨by decide +kernel, rfl⟩
theorem dX8_beginCell_81 : dn cX8_beginCell 81 (.iconst 5) 1 82 := ⟨by decide +kernel, rfl⟩
theorem dX8_beginCell_82 : dn cX8_beginCell 82 (.aaload) 1 83 := ⟨by decide +kernel, rfl⟩
theorem dX8_beginCell_83 : dn cX8_beginCell 83 (.aload_n 0) 1 84 := ⟨by decide +kernel, rfl⟩
theorem dX8_beginCell_84 : dn cX8_beginCell 84 (.getfield 145) 3 87 := ⟨by decide +kernel, rfl⟩
theorem dX8_beginCell_87 : dn cX8_beginCell 87 (.iconst 0) 1 88 := ⟨by decide +kernel, rfl⟩
theorem dX8_beginCell_88 : dn cX8_beginCell 88 (.iastore) 1 89 := ⟨by decide +kernel, rfl⟩
theorem dX8_beginCell_89 : dn cX8_beginCell 89 (.aload_n 0) 1 90 := ⟨by decide +kernel, rfl⟩
theorem dX8_beginCell_90 : dn cX8_beginCell 90 (.getfield 36) 3 93 := ⟨by decide +kernel, rfl⟩
theorem dX8_beginCell_93 : dn cX8_beginCell 93 (.bipush 6) 2 95 := ⟨by decide +kernel, rfl⟩
theorem dX8_beginCell_95 : dn cX8_beginCell 95 (.aaload) 1 96 := ⟨by decide +kernel, rfl⟩
theorem dX8_beginCell_96 : dn cX8_beginCell 96 (.aload_n 0) 1 97 := ⟨by decide +kernel, rfl⟩
theorem dX8_beginCell_97 : dn cX8_beginCell 97 (.getfield 145) 3 100 := ⟨by decide +kernel, rfl⟩
theorem dX8_beginCell_100 : dn cX8_beginCell 100 (.iconst 0) 1 101 := ⟨by decide +kernel, rfl⟩
theorem dX8_beginCell_101 : dn cX8_beginCell 101 (.iastore) 1 102 := ⟨by decide +kernel, rfl⟩
theorem dX8_beginCell_102 : dn cX8_beginCell 102 (.aload_n 0) 1 103 := ⟨by decide +kernel, rfl⟩
theorem dX8_beginCell_103 : dn cX8_beginCell 103 (.dup) 1 104 := ⟨by decide +kernel, rfl⟩
theorem dX8_beginCell_104 : dn cX8_beginCell 104 (.getfield 145) 3 107 := ⟨by decide +kernel, rfl⟩
theorem dX8_beginCell_107 : dn cX8_beginCell 107 (.iconst 1) 1 108 := ⟨by decide +kernel, rfl⟩
theorem dX8_beginCell_108 : dn cX8_beginCell 108 (.iadd) 1 109 := ⟨by decide +kernel, rfl⟩
theorem dX8_beginCell_109 : dn cX8_beginCell 109 (.putfield 145) 3 112 := ⟨by decide +kernel, rfl⟩
theorem dX8_beginCell_112 : dn cX8_beginCell 112 (.return_) 1 113 := ⟨by decide +kernel, rfl⟩
theorem dX8_widenCell_0 : dn cX8_widenCell 0 (.aload_n 0) 1 1 := ⟨by decide +kernel, rfl⟩
theorem dX8_widenCell_1 : dn cX8_widenCell 1 (.getfield 36) 3 4 := ⟨by decide +kernel, rfl⟩
theorem dX8_widenCell_4 : dn cX8_widenCell 4 (.iconst 1) 1 5 := ⟨by decide +kernel, rfl⟩
theorem dX8_widenCell_5 : dn cX8_widenCell 5 (.aaload) 1 6 := ⟨by decide +kernel, rfl⟩
theorem dX8_widenCell_6 : dn cX8_widenCell 6 (.astore 4) 2 8 := ⟨by decide +kernel, rfl⟩
theorem dX8_widenCell_8 : dn cX8_widenCell 8 (.aload_n 0) 1 9 := ⟨by decide +kernel, rfl⟩
theorem dX8_widenCell_9 : dn cX8_widenCell 9 (.getfield 36) 3 12 := ⟨by decide +kernel, rfl⟩
theorem dX8_widenCell_12 : dn cX8_widenCell 12 (.iconst 3) 1 13 := ⟨by decide +kernel, rfl⟩
theorem dX8_widenCell_13 : dn cX8_widenCell 13 (.aaload) 1 14 := ⟨by decide +kernel, rfl⟩
theorem dX8_widenCell_14 : dn cX8_widenCell 14 (.astore 5) 2 16 := ⟨by decide +kernel, rfl⟩
theorem dX8_widenCell_16 : dn cX8_widenCell 16 (.iload_n 3) 1 17 := ⟨by decide +kernel, rfl⟩
theorem dX8_widenCell_17 : dn cX8_widenCell 17 (.aload 4) 2 19 := ⟨by decide +kernel, rfl⟩
theorem dX8_widenCell_19 : dn cX8_widenCell 19 (.iload_n 1) 1 20 := ⟨by decide +kernel, rfl⟩
theorem dX8_widenCell_20 : dn cX8_widenCell 20 (.iaload) 1 21 := ⟨by decide +kernel, rfl⟩
theorem dX8_widenCell_21 : db cX8_widenCell 21 (.if_icmp .ge 21) 3 24 (21) 42 := ⟨by decide +kernel, rfl, rfl⟩
theorem dX8_widenCell_24 : dn cX8_widenCell 24 (.aload 5) 2 26 := ⟨by decide +kernel, rfl⟩
theorem dX8_widenCell_26 : dn cX8_widenCell 26 (.iload_n 1) 1 27 := ⟨by decide +kernel, rfl⟩
theorem dX8_widenCell_27 : dn cX8_widenCell 27 (.dup2) 1 28 := ⟨by decide +kernel, rfl⟩
theorem dX8_widenCell_28 : dn cX8_widenCell 28 (.iaload) 1 29 := ⟨by decide +kernel, rfl⟩
theorem dX8_widenCell_29 : dn cX8_widenCell 29 (.aload 4) 2 31 := ⟨by decide +kernel, rfl⟩
theorem dX8_widenCell_31 : dn cX8_widenCell 31 (.iload_n 1) 1 32 := ⟨by decide +kernel, rfl⟩
theorem dX8_widenCell_32 : dn cX8_widenCell 32 (.iaload) 1 33 := ⟨by decide +kernel, rfl⟩
theorem dX8_widenCell_33 : dn cX8_widenCell 33 (.iload_n 3) 1 34 := ⟨by decide +kernel, rfl⟩
theorem dX8_widenCell_34 : dn cX8_widenCell 34 (.isub) 1 35 := ⟨by decide +kernel, rfl⟩
theorem dX8_widenCell_35 : dn cX8_widenCell 35 (.iadd) 1 36 := ⟨by decide +kernel, rfl⟩
theorem dX8_widenCell_36 : dn cX8_widenCell 36 (.iastore) 1 37 := ⟨by decide +kernel, rfl⟩
theorem dX8_widenCell_37 : dn cX8_widenCell 37 (.aload 4) 2 39 := ⟨by decide +kernel, rfl⟩
theorem dX8_widenCell_39 : dn cX8_widenCell 39 (.iload_n 1) 1 40 := ⟨by decide +kernel, rfl⟩
theorem dX8_widenCell_40 : dn cX8_widenCell 40 (.iload_n 3) 1 41 := ⟨by decide +kernel, rfl⟩
theorem dX8_widenCell_41 : dn cX8_widenCell 41 (.iastore) 1 42 := ⟨by decide +kernel, rfl⟩
theorem dX8_widenCell_42 : dn cX8_widenCell 42 (.aload 5) 2 44 := ⟨by decide +kernel, rfl⟩
theorem dX8_widenCell_44 : dn cX8_widenCell 44 (.iload_n 1) 1 45 := ⟨by decide +kernel, rfl⟩
theorem dX8_widenCell_45 : dn cX8_widenCell 45 (.aload 5) 2 47 := ⟨by decide +kernel, rfl⟩
theorem dX8_widenCell_47 : dn cX8_widenCell 47 (.iload_n 1) 1 48 := ⟨by decide +kernel, rfl⟩
theorem dX8_widenCell_48 : dn cX8_widenCell 48 (.iaload) 1 49 := ⟨by decide +kernel, rfl⟩
theorem dX8_widenCell_49 : dn cX8_widenCell 49 (.iload_n 3) 1 50 := ⟨by decide +kernel, rfl⟩
theorem dX8_widenCell_50 : dn cX8_widenCell 50 (.aload 4) 2 52 := ⟨by decide +kernel, rfl⟩
theorem dX8_widenCell_52 : dn cX8_widenCell 52 (.iload_n 1) 1 53 := ⟨by decide +kernel, rfl⟩
theorem dX8_widenCell_53 : dn cX8_widenCell 53 (.iaload) 1 54 := ⟨by decide +kernel, rfl⟩
theorem dX8_widenCell_54 : dn cX8_widenCell 54 (.isub) 1 55 := ⟨by decide +kernel, rfl⟩
theorem dX8_widenCell_55 : dn cX8_widenCell 55 (.iconst 1) 1 56 := ⟨by decide +kernel, rfl⟩
theorem dX8_widenCell_56 : dn cX8_widenCell 56 (.iadd) 1 57 := ⟨by decide +kernel, rfl⟩
theorem dX8_widenCell_57 : dn cX8_widenCell 57 (.invokestatic 9) 3 60 := ⟨by decide +kernel, rfl⟩
theorem dX8_widenCell_60 : dn cX8_widenCell 60 (.iastore) 1 61 := ⟨by decide +kernel, rfl⟩
theorem dX8_widenCell_61 : dn cX8_widenCell 61 (.aload_n 0) 1 62 := ⟨by decide +kernel, rfl⟩
theorem dX8_widenCell_62 : dn cX8_widenCell 62 (.getfield 36) 3 65 := ⟨by decide +kernel, rfl⟩
theorem dX8_widenCell_65 : dn cX8_widenCell 65 (.iconst 2) 1 66 := ⟨by decide +kernel, rfl⟩
theorem dX8_widenCell_66 : dn cX8_widenCell 66 (.aaload) 1 67 := ⟨by decide +kernel, rfl⟩
theorem dX8_widenCell_67 : dn cX8_widenCell 67 (.iload_n 1) 1 68 := ⟨by decide +kernel, rfl⟩
theorem dX8_widenCell_68 : dn cX8_widenCell 68 (.iload_n 2) 1 69 := ⟨by decide +kernel, rfl⟩
theorem dX8_widenCell_69 : dn cX8_widenCell 69 (.aload_n 0) 1 70 := ⟨by decide +kernel, rfl⟩
theorem dX8_widenCell_70 : dn cX8_widenCell 70 (.getfield 36) 3 73 := ⟨by decide +kernel, rfl⟩
theorem dX8_widenCell_73 : dn cX8_widenCell 73 (.iconst 0) 1 74 := ⟨by decide +kernel, rfl⟩
theorem dX8_widenCell_74 : dn cX8_widenCell 74 (.aaload) 1 75 := ⟨by decide +kernel, rfl⟩
theorem dX8_widenCell_75 : dn cX8_widenCell 75 (.iload_n 1) 1 76 := ⟨by decide +kernel, rfl⟩
theorem dX8_widenCell_76 : dn cX8_widenCell 76 (.iaload) 1 77 := ⟨by decide +kernel, rfl⟩
theorem dX8_widenCell_77 : dn cX8_widenCell 77 (.isub) 1 78 := ⟨by decide +kernel, rfl⟩
theorem dX8_widenCell_78 : dn cX8_widenCell 78 (.iconst 1) 1 79 := ⟨by decide +kernel, rfl⟩
theorem dX8_widenCell_79 : dn cX8_widenCell 79 (.iadd) 1 80 := ⟨by decide +kernel, rfl⟩
theorem dX8_widenCell_80 : dn cX8_widenCell 80 (.iastore) 1 81 := ⟨by decide +kernel, rfl⟩
theorem dX8_widenCell_81 : dn cX8_widenCell 81 (.aload_n 0) 1 82 := ⟨by decide +kernel, rfl⟩
theorem dX8_widenCell_82 : dn cX8_widenCell 82 (.getfield 36) 3 85 := ⟨by decide +kernel, rfl⟩
theorem dX8_widenCell_85 : dn cX8_widenCell 85 (.iconst 4) 1 86 := ⟨by decide +kernel, rfl⟩
theorem dX8_widenCell_86 : dn cX8_widenCell 86 (.aaload) 1 87 := ⟨by decide +kernel, rfl⟩
theorem dX8_widenCell_87 : dn cX8_widenCell 87 (.iload_n 1) 1 88 := ⟨by decide +kernel, rfl⟩
theorem dX8_widenCell_88 : dn cX8_widenCell 88 (.dup2) 1 89 := ⟨by decide +kernel, rfl⟩
theorem dX8_widenCell_89 : dn cX8_widenCell 89 (.iaload) 1 90 := ⟨by decide +kernel, rfl⟩
theorem dX8_widenCell_90 : dn cX8_widenCell 90 (.iconst 1) 1 91 := ⟨by decide +kernel, rfl⟩
theorem dX8_widenCell_91 : dn cX8_widenCell 91 (.iadd) 1 92 := ⟨by decide +kernel, rfl⟩
theorem dX8_widenCell_92 : dn cX8_widenCell 92 (.iastore) 1 93 := ⟨by decide +kernel, rfl⟩
theorem dX8_widenCell_93 : dn cX8_widenCell 93 (.return_) 1 94 := ⟨by decide +kernel, rfl⟩
theorem dX8_markBroken_0 : dn cX8_markBroken 0 (.iconst 0) 1 1 := ⟨by decide +kernel, rfl⟩
theorem dX8_markBroken_1 : dn cX8_markBroken 1 (.istore_n 1) 1 2 := ⟨by decide +kernel, rfl⟩
theorem dX8_markBroken_2 : dn cX8_markBroken 2 (.iload_n 1) 1 3 := ⟨by decide +kernel, rfl⟩
theorem dX8_markBroken_3 : dn cX8_markBroken 3 (.aload_n 0) 1 4 := ⟨by decide +kernel, rfl⟩
theorem dX8_markBroken_4 : dn cX8_markBroken 4 (.getfield 145) 3 7 := ⟨by decide +kernel, rfl⟩
theorem dX8_markBroken_7 : db cX8_markBroken 7 (.if_icmp .ge 46) 3 10 (46) 53 := ⟨by decide +kernel, rfl, rfl⟩
theorem dX8_markBroken_10 : dn cX8_markBroken 10 (.aload_n 0) 1 11 := ⟨by decide +kernel, rfl⟩
theorem dX8_markBroken_11 : dn cX8_markBroken 11 (.getfield 36) 3 14 := ⟨by decide +kernel, rfl⟩
theorem dX8_markBroken_14 : dn cX8_markBroken 14 (.iconst 4) 1 15 := ⟨by decide +kernel, rfl⟩
theorem dX8_markBroken_15 : dn cX8_markBroken 15 (.aaload) 1 16 := ⟨by decide +kernel, rfl⟩
theorem dX8_markBroken_16 : dn cX8_markBroken 16 (.iload_n 1) 1 17 := ⟨by decide +kernel, rfl⟩
theorem dX8_markBroken_17 : dn cX8_markBroken 17 (.iaload) 1 18 := ⟨by decide +kernel, rfl⟩
theorem dX8_markBroken_18 : dn cX8_markBroken 18 (.aload_n 0) 1 19 := ⟨by decide +kernel, rfl⟩
theorem dX8_markBroken_19 : dn cX8_markBroken 19 (.getfield 36) 3 22 := ⟨by decide +kernel, rfl⟩
theorem dX8_markBroken_22 : dn cX8_markBroken 22 (.iconst 2) 1 23 := ⟨by decide +kernel, rfl⟩
theorem dX8_markBroken_23 : dn cX8_markBroken 23 (.aaload) 1 24 := ⟨by decide +kernel, rfl⟩
theorem dX8_markBroken_24 : dn cX8_markBroken 24 (.iload_n 1) 1 25 := ⟨by decide +kernel, rfl⟩
theorem dX8_markBroken_25 : dn cX8_markBroken 25 (.iaload) 1 26 := ⟨by decide +kernel, rfl⟩
theorem dX8_markBroken_26 : dn cX8_markBroken 26 (.aload_n 0) 1 27 := ⟨by decide +kernel, rfl⟩
theorem dX8_markBroken_27 : dn cX8_markBroken 27 (.getfield 36) 3 30 := ⟨by decide +kernel, rfl⟩
theorem dX8_markBroken_30 : dn cX8_markBroken 30 (.iconst 3) 1 31 := ⟨by decide +kernel, rfl⟩
theorem dX8_markBroken_31 : dn cX8_markBroken 31 (.aaload) 1 32 := ⟨by decide +kernel, rfl⟩
theorem dX8_markBroken_32 : dn cX8_markBroken 32 (.iload_n 1) 1 33 := ⟨by decide +kernel, rfl⟩
theorem dX8_markBroken_33 : dn cX8_markBroken 33 (.iaload) 1 34 := ⟨by decide +kernel, rfl⟩
theorem dX8_markBroken_34 : dn cX8_markBroken 34 (.imul) 1 35 := ⟨by decide +kernel, rfl⟩
theorem dX8_markBroken_35 : db cX8_markBroken 35 (.if_icmp .ge 12) 3 38 (12) 47 := ⟨by decide +kernel, rfl, rfl⟩
theorem dX8_markBroken_38 : dn cX8_markBroken 38 (.aload_n 0) 1 39 := ⟨by decide +kernel, rfl⟩
theorem dX8_markBroken_39 : dn cX8_markBroken 39 (.getfield 36) 3 42 := ⟨by decide +kernel, rfl⟩
theorem dX8_markBroken_42 : dn cX8_markBroken 42 (.iconst 5) 1 43 := ⟨by decide +kernel, rfl⟩
theorem dX8_markBroken_43 : dn cX8_markBroken 43 (.aaload) 1 44 := ⟨by decide +kernel, rfl⟩
theorem dX8_markBroken_44 : dn cX8_markBroken 44 (.iload_n 1) 1 45 := ⟨by decide +kernel, rfl⟩
theorem dX8_markBroken_45 : dn cX8_markBroken 45 (.iconst 1) 1 46 := ⟨by decide +kernel, rfl⟩
theorem dX8_markBroken_46 : dn cX8_markBroken 46 (.iastore) 1 47 := ⟨by decide +kernel, rfl⟩
theorem dX8_markBroken_47 : dn cX8_markBroken 47 (.iinc 1 1) 3 50 := ⟨by decide +kernel, rfl⟩
theorem dX8_markBroken_50 : db cX8_markBroken 50 (.goto (-48)) 3 53 (-48) 2 := ⟨by decide +kernel, rfl, rfl⟩
theorem dX8_markBroken_53 : dn cX8_markBroken 53 (.return_) 1 54 := ⟨by decide +kernel, rfl⟩
theorem dX8_markOpen_0 : dn cX8_markOpen 0 (.iconst 0) 1 1 := ⟨by decide +kernel, rfl⟩
theorem dX8_markOpen_1 : dn cX8_markOpen 1 (.istore_n 1) 1 2 := ⟨by decide +kernel, rfl⟩
theorem dX8_markOpen_2 : dn cX8_markOpen 2 (.iload_n 1) 1 3 := ⟨by decide +kernel, rfl⟩
theorem dX8_markOpen_3 : dn cX8_markOpen 3 (.aload_n 0) 1 4 := ⟨by decide +kernel, rfl⟩
theorem dX8_markOpen_4 : dn cX8_markOpen 4 (.getfield 113) 3 7 := ⟨by decide +kernel, rfl⟩
theorem dX8_markOpen_7 : db cX8_markOpen 7 (.if_icmp .ge 51) 3 10 (51) 58 := ⟨by decide +kernel, rfl, rfl⟩
theorem dX8_markOpen_10 : dn cX8_markOpen 10 (.aload_n 0) 1 11 := ⟨by decide +kernel, rfl⟩
theorem dX8_markOpen_11 : dn cX8_markOpen 11 (.aload_n 0) 1 12 := ⟨by decide +kernel, rfl⟩
theorem dX8_markOpen_12 : dn cX8_markOpen 12 (.iconst 0) 1 13 := ⟨by decide +kernel, rfl⟩
theorem dX8_markOpen_13 : dn cX8_markOpen 13 (.iconst 0) 1 14 := ⟨by decide +kernel, rfl⟩
theorem dX8_markOpen_14 : dn cX8_markOpen 14 (.iload_n 1) 1 15 := ⟨by decide +kernel, rfl⟩
theorem dX8_markOpen_15 : dn cX8_markOpen 15 (.invokevirtual 139) 3 18 := ⟨by decide +kernel, rfl⟩
theorem dX8_markOpen_18 : dn cX8_markOpen 18 (.aload_n 0) 1 19 := ⟨by decide +kernel, rfl⟩
theorem dX8_markOpen_19 : dn cX8_markOpen 19 (.iconst 0) 1 20 := ⟨by decide +kernel, rfl⟩
theorem dX8_markOpen_20 : dn cX8_markOpen 20 (.iload_n 1) 1 21 := ⟨by decide +kernel, rfl⟩
theorem dX8_markOpen_21 : dn cX8_markOpen 21 (.invokevirtual 159) 3 24 := ⟨by decide +kernel, rfl⟩
theorem dX8_markOpen_24 : dn cX8_markOpen 24 (.invokevirtual 162) 3 27 := ⟨by decide +kernel, rfl⟩
theorem dX8_markOpen_27 : dn cX8_markOpen 27 (.aload_n 0) 1 28 := ⟨by decide +kernel, rfl⟩
theorem dX8_markOpen_28 : dn cX8_markOpen 28 (.aload_n 0) 1 29 := ⟨by decide +kernel, rfl⟩
theorem dX8_markOpen_29 : dn cX8_markOpen 29 (.iconst 0) 1 30 := ⟨by decide +kernel, rfl⟩
theorem dX8_markOpen_30 : dn cX8_markOpen 30 (.aload_n 0) 1 31 := ⟨by decide +kernel, rfl⟩
theorem dX8_markOpen_31 : dn cX8_markOpen 31 (.getfield 110) 3 34 := ⟨by decide +kernel, rfl⟩
theorem dX8_markOpen_34 : dn cX8_markOpen 34 (.iload_n 1) 1 35 := ⟨by decide +kernel, rfl⟩
theorem dX8_markOpen_35 : dn cX8_markOpen 35 (.invokevirtual 139) 3 38 := ⟨by decide +kernel, rfl⟩
theorem dX8_markOpen_38 : dn cX8_markOpen 38 (.aload_n 0) 1 39 := ⟨by decide +kernel, rfl⟩
theorem dX8_markOpen_39 : dn cX8_markOpen 39 (.aload_n 0) 1 40 := ⟨by decide +kernel, rfl⟩
theorem dX8_markOpen_40 : dn cX8_markOpen 40 (.getfield 110) 3 43 := ⟨by decide +kernel, rfl⟩
theorem dX8_markOpen_43 : dn cX8_markOpen 43 (.iconst 1) 1 44 := ⟨by decide +kernel, rfl⟩
theorem dX8_markOpen_44 : dn cX8_markOpen 44 (.isub) 1 45 := ⟨by decide +kernel, rfl⟩
theorem dX8_markOpen_45 : dn cX8_markOpen 45 (.iload_n 1) 1 46 := ⟨by decide +kernel, rfl⟩
theorem dX8_markOpen_46 : dn cX8_markOpen 46 (.invokevirtual 159) 3 49 := ⟨by decide +kernel, rfl⟩
theorem dX8_markOpen_49 : dn cX8_markOpen 49 (.invokevirtual 162) 3 52 := ⟨by decide +kernel, rfl⟩
theorem dX8_markOpen_52 : dn cX8_markOpen 52 (.iinc 1 1) 3 55 := ⟨by decide +kernel, rfl⟩
theorem dX8_markOpen_55 : db cX8_markOpen 55 (.goto (-53)) 3 58 (-53) 2 := ⟨by decide +kernel, rfl, rfl⟩
theorem dX8_markOpen_58 : dn cX8_markOpen 58 (.iconst 0) 1 59 := ⟨by decide +kernel, rfl⟩
theorem dX8_markOpen_59 : dn cX8_markOpen 59 (.istore_n 1) 1 60 := ⟨by decide +kernel, rfl⟩
theorem dX8_markOpen_60 : dn cX8_markOpen 60 (.iload_n 1) 1 61 := ⟨by decide +kernel, rfl⟩
theorem dX8_markOpen_61 : dn cX8_markOpen 61 (.aload_n 0) 1 62 := ⟨by decide +kernel, rfl⟩
theorem dX8_markOpen_62 : dn cX8_markOpen 62 (.getfield 110) 3 65 := ⟨by decide +kernel, rfl⟩
theorem dX8_markOpen_65 : db cX8_markOpen 65 (.if_icmp .ge 51) 3 68 (51) 116 := ⟨by decide +kernel, rfl, rfl⟩
theorem dX8_markOpen_68 : dn cX8_markOpen 68 (.aload_n 0) 1 69 := ⟨by decide +kernel, rfl⟩
theorem dX8_markOpen_69 : dn cX8_markOpen 69 (.aload_n 0) 1 70 := ⟨by decide +kernel, rfl⟩
theorem dX8_markOpen_70 : dn cX8_markOpen 70 (.iconst 1) 1 71 := ⟨by decide +kernel, rfl⟩
theorem dX8_markOpen_71 : dn cX8_markOpen 71 (.iload_n 1) 1 72 := ⟨by decide +kernel, rfl⟩
theorem dX8_markOpen_72 : dn cX8_markOpen 72 (.iconst 0) 1 73 := ⟨by decide +kernel, rfl⟩
theorem dX8_markOpen_73 : dn cX8_markOpen 73 (.invokevirtual 139) 3 76 := ⟨by decide +kernel, rfl⟩
theorem dX8_markOpen_76 : dn cX8_markOpen 76 (.aload_n 0) 1 77 := ⟨by decide +kernel, rfl⟩
theorem dX8_markOpen_77 : dn cX8_markOpen 77 (.iload_n 1) 1 78 := ⟨by decide +kernel, rfl⟩
theorem dX8_markOpen_78 : dn cX8_markOpen 78 (.iconst 0) 1 79 := ⟨by decide +kernel, rfl⟩
theorem dX8_markOpen_79 : dn cX8_markOpen 79 (.invokevirtual 159) 3 82 := ⟨by decide +kernel, rfl⟩
theorem dX8_markOpen_82 : dn cX8_markOpen 82 (.invokevirtual 162) 3 85 := ⟨by decide +kernel, rfl⟩
theorem dX8_markOpen_85 : dn cX8_markOpen 85 (.aload_n 0) 1 86 := ⟨by decide +kernel, rfl⟩
theorem dX8_markOpen_86 : dn cX8_markOpen 86 (.aload_n 0) 1 87 := ⟨by decide +kernel, rfl⟩
theorem dX8_markOpen_87 : dn cX8_markOpen 87 (.iconst 1) 1 88 := ⟨by decide +kernel, rfl⟩
theorem dX8_markOpen_88 : dn cX8_markOpen 88 (.iload_n 1) 1 89 := ⟨by decide +kernel, rfl⟩
theorem dX8_markOpen_89 : dn cX8_markOpen 89 (.aload_n 0) 1 90 := ⟨by decide +kernel, rfl⟩
theorem dX8_markOpen_90 : dn cX8_markOpen 90 (.getfield 113) 3 93 := ⟨by decide +kernel, rfl⟩
theorem dX8_markOpen_93 : dn cX8_markOpen 93 (.invokevirtual 139) 3 96 := ⟨by decide +kernel, rfl⟩
theorem dX8_markOpen_96 : dn cX8_markOpen 96 (.aload_n 0) 1 97 := ⟨by decide +kernel, rfl⟩
theorem dX8_markOpen_97 : dn cX8_markOpen 97 (.iload_n 1) 1 98 := ⟨by decide +kernel, rfl⟩
theorem dX8_markOpen_98 : dn cX8_markOpen 98 (.aload_n 0) 1 99 := ⟨by decide +kernel, rfl⟩
theorem dX8_markOpen_99 : dn cX8_markOpen 99 (.getfield 113) 3 102 := ⟨by decide +kernel, rfl⟩
theorem dX8_markOpen_102 : dn cX8_markOpen 102 (.iconst 1) 1 103 := ⟨by decide +kernel, rfl⟩
theorem dX8_markOpen_103 : dn cX8_markOpen 103 (.isub) 1 104 := ⟨by decide +kernel, rfl⟩
theorem dX8_markOpen_104 : dn cX8_markOpen 104 (.invokevirtual 159) 3 107 := ⟨by decide +kernel, rfl⟩
theorem dX8_markOpen_107 : dn cX8_markOpen 107 (.invokevirtual 162) 3 110 := ⟨by decide +kernel, rfl⟩
theorem dX8_markOpen_110 : dn cX8_markOpen 110 (.iinc 1 1) 3 113 := ⟨by decide +kernel, rfl⟩
theorem dX8_markOpen_113 : db cX8_markOpen 113 (.goto (-53)) 3 116 (-53) 60 := ⟨by decide +kernel, rfl, rfl⟩
theorem dX8_markOpen_116 : dn cX8_markOpen 116 (.return_) 1 117 := ⟨by decide +kernel, rfl⟩
theorem dX8_openUnless_0 : dn cX8_openUnless 0 (.iload_n 1) 1 1 := ⟨by decide +kernel, rfl⟩
theorem dX8_openUnless_1 : db cX8_openUnless 1 (.ifCond .ne 20) 3 4 (20) 21 := ⟨by decide +kernel, rfl, rfl⟩
theorem dX8_openUnless_4 : dn cX8_openUnless 4 (.aload_n 0) 1 5 := ⟨by decide +kernel, rfl⟩
theorem dX8_openUnless_5 : dn cX8_openUnless 5 (.iload_n 2) 1 6 := ⟨by decide +kernel, rfl⟩
theorem dX8_openUnless_6 : dn cX8_openUnless 6 (.invokevirtual 166) 3 9 := ⟨by decide +kernel, rfl⟩
theorem dX8_openUnless_9 : db cX8_openUnless 9 (.ifCond .eq 12) 3 12 (12) 21 := ⟨by decide +kernel, rfl, rfl⟩
theorem dX8_openUnless_12 : dn cX8_openUnless 12 (.aload_n 0) 1 13 := ⟨by decide +kernel, rfl⟩
theorem dX8_openUnless_13 : dn cX8_openUnless 13 (.getfield 36) 3 16 := ⟨by decide +kernel, rfl⟩
theorem dX8_openUnless_16 : dn cX8_openUnless 16 (.iconst 5) 1 17 := ⟨by decide +kernel, rfl⟩
theorem dX8_openUnless_17 : dn cX8_openUnless 17 (.aaload) 1 18 := ⟨by decide +kernel, rfl⟩
theorem dX8_openUnless_18 : dn cX8_openUnless 18 (.iload_n 2) 1 19 := ⟨by decide +kernel, rfl⟩
theorem dX8_openUnless_19 : dn cX8_openUnless 19 (.iconst 2) 1 20 := ⟨by decide +kernel, rfl⟩
theorem dX8_openUnless_20 : dn cX8_openUnless 20 (.iastore) 1 21 := ⟨by decide +kernel, rfl⟩
theorem dX8_openUnless_21 : dn cX8_openUnless 21 (.return_) 1 22 := ⟨by decide +kernel, rfl⟩
theorem dX8_hasCell_0 : dn cX8_hasCell 0 (.iload_n 1) 1 1 := ⟨by decide +kernel, rfl⟩
theorem dX8_hasCell_1 : db cX8_hasCell 1 (.ifCond .lt 15) 3 4 (15) 16 := ⟨by decide +kernel, rfl, rfl⟩
theorem dX8_hasCell_4 : dn cX8_hasCell 4 (.iload_n 1) 1 5 := ⟨by decide +kernel, rfl⟩
theorem dX8_hasCell_5 : dn cX8_hasCell 5 (.aload_n 0) 1 6 := ⟨by decide +kernel, rfl⟩
theorem dX8_hasCell_6 : dn cX8_hasCell 6 (.getfield 145) 3 9 := ⟨by decide +kernel, rfl⟩
theorem dX8_hasCell_9 : db cX8_hasCell 9 (.if_icmp .ge 7) 3 12 (7) 16 := ⟨by decide +kernel, rfl, rfl⟩
theorem dX8_hasCell_12 : dn cX8_hasCell 12 (.iconst 1) 1 13 := ⟨by decide +kernel, rfl⟩
theorem dX8_hasCell_13 : db cX8_hasCell 13 (.goto 4) 3 16 (4) 17 := ⟨by decide +kernel, rfl, rfl⟩
theorem dX8_hasCell_16 : dn cX8_hasCell 16 (.iconst 0) 1 17 := ⟨by decide +kernel, rfl⟩
theorem dX8_hasCell_17 : dn cX8_hasCell 17 (.ireturn) 1 18 := ⟨by decide +kernel, rfl⟩
theorem dX8_cellOf_0 : dn cX8_cellOf 0 (.iload_n 1) 1 1 := ⟨by decide +kernel, rfl⟩
theorem dX8_cellOf_1 : db cX8_cellOf 1 (.ifCond .lt 27) 3 4 (27) 28 := ⟨by decide +kernel, rfl, rfl⟩
theorem dX8_cellOf_4 : dn cX8_cellOf 4 (.iload_n 1) 1 5 := ⟨by decide +kernel, rfl⟩
theorem dX8_cellOf_5 : dn cX8_cellOf 5 (.aload_n 0) 1 6 := ⟨by decide +kernel, rfl⟩
theorem dX8_cellOf_6 : dn cX8_cellOf 6 (.getfield 110) 3 9 := ⟨by decide +kernel, rfl⟩
theorem dX8_cellOf_9 : db cX8_cellOf 9 (.if_icmp .ge 19) 3 12 (19) 28 := ⟨by decide +kernel, rfl, rfl⟩
theorem dX8_cellOf_12 : dn cX8_cellOf 12 (.iload_n 2) 1 13 := ⟨by decide +kernel, rfl⟩
theorem dX8_cellOf_13 : db cX8_cellOf 13 (.ifCond .lt 15) 3 16 (15) 28 := ⟨by decide +kernel, rfl, rfl⟩
theorem dX8_cellOf_16 : dn cX8_cellOf 16 (.iload_n 2) 1 17 := ⟨by decide +kernel, rfl⟩
theorem dX8_cellOf_17 : dn cX8_cellOf 17 (.aload_n 0) 1 18 := ⟨by decide +kernel, rfl⟩
theorem dX8_cellOf_18 : dn cX8_cellOf 18 (.getfield 113) 3 21 := ⟨by decide +kernel, rfl⟩
theorem dX8_cellOf_21 : db cX8_cellOf 21 (.if_icmp .ge 7) 3 24 (7) 28 := ⟨by decide +kernel, rfl, rfl⟩
theorem dX8_cellOf_24 : dn cX8_cellOf 24 (.iconst 1) 1 25 := ⟨by decide +kernel, rfl⟩
theorem dX8_cellOf_25 : db cX8_cellOf 25 (.goto 4) 3 28 (4) 29 := ⟨by decide +kernel, rfl, rfl⟩
theorem dX8_cellOf_28 : dn cX8_cellOf 28 (.iconst 0) 1 29 := ⟨by decide +kernel, rfl⟩
theorem dX8_cellOf_29 : dn cX8_cellOf 29 (.istore_n 3) 1 30 := ⟨by decide +kernel, rfl⟩
theorem dX8_cellOf_30 : dn cX8_cellOf 30 (.iload_n 3) 1 31 := ⟨by decide +kernel, rfl⟩
theorem dX8_cellOf_31 : db cX8_cellOf 31 (.ifCond .eq 19) 3 34 (19) 50 := ⟨by decide +kernel, rfl, rfl⟩
theorem dX8_cellOf_34 : dn cX8_cellOf 34 (.aload_n 0) 1 35 := ⟨by decide +kernel, rfl⟩
theorem dX8_cellOf_35 : dn cX8_cellOf 35 (.getfield 30) 3 38 := ⟨by decide +kernel, rfl⟩
theorem dX8_cellOf_38 : dn cX8_cellOf 38 (.iload_n 1) 1 39 := ⟨by decide +kernel, rfl⟩
theorem dX8_cellOf_39 : dn cX8_cellOf 39 (.aload_n 0) 1 40 := ⟨by decide +kernel, rfl⟩
theorem dX8_cellOf_40 : dn cX8_cellOf 40 (.getfield 113) 3 43 := ⟨by decide +kernel, rfl⟩
theorem dX8_cellOf_43 : dn cX8_cellOf 43 (.imul) 1 44 := ⟨by decide +kernel, rfl⟩
theorem dX8_cellOf_44 : dn cX8_cellOf 44 (.iload_n 2) 1 45 := ⟨by decide +kernel, rfl⟩
theorem dX8_cellOf_45 : dn cX8_cellOf 45 (.iadd) 1 46 := ⟨by decide +kernel, rfl⟩
theorem dX8_cellOf_46 : dn cX8_cellOf 46 (.iaload) 1 47 := ⟨by decide +kernel, rfl⟩
theorem dX8_cellOf_47 : db cX8_cellOf 47 (.goto 5) 3 50 (5) 52 := ⟨by decide +kernel, rfl, rfl⟩
theorem dX8_cellOf_50 : dn cX8_cellOf 50 (.bipush (-6)) 2 52 := ⟨by decide +kernel, rfl⟩
theorem dX8_cellOf_52 : dn cX8_cellOf 52 (.ireturn) 1 53 := ⟨by decide +kernel, rfl⟩
theorem dX8_countHeads_0 : dn cX8_countHeads 0 (.iconst 0) 1 1 := ⟨by decide +kernel, rfl⟩
theorem dX8_countHeads_1 : dn cX8_countHeads 1 (.istore_n 1) 1 2 := ⟨by decide +kernel, rfl⟩
theorem dX8_countHeads_2 : dn cX8_countHeads 2 (.iload_n 1) 1 3 := ⟨by decide +kernel, rfl⟩
theorem dX8_countHeads_3 : dn cX8_countHeads 3 (.iconst 1) 1 4 := ⟨by decide +kernel, rfl⟩
theorem dX8_countHeads_4 : dn cX8_countHeads 4 (.iadd) 1 5 := ⟨by decide +kernel, rfl⟩
theorem dX8_countHeads_5 : dn cX8_countHeads 5 (.aload_n 0) 1 6 := ⟨by decide +kernel, rfl⟩
theorem dX8_countHeads_6 : dn cX8_countHeads 6 (.getfield 110) 3 9 := ⟨by decide +kernel, rfl⟩
theorem dX8_countHeads_9 : db cX8_countHeads 9 (.if_icmp .ge 21) 3 12 (21) 30 := ⟨by decide +kernel, rfl, rfl⟩
theorem dX8_countHeads_12 : dn cX8_countHeads 12 (.aload_n 0) 1 13 := ⟨by decide +kernel, rfl⟩
theorem dX8_countHeads_13 : dn cX8_countHeads 13 (.iload_n 1) 1 14 := ⟨by decide +kernel, rfl⟩
theorem dX8_countHeads_14 : dn cX8_countHeads 14 (.invokevirtual 170) 3 17 := ⟨by decide +kernel, rfl⟩
theorem dX8_countHeads_17 : db cX8_countHeads 17 (.ifCond .eq 7) 3 20 (7) 24 := ⟨by decide +kernel, rfl, rfl⟩
theorem dX8_countHeads_20 : dn cX8_countHeads 20 (.iload_n 1) 1 21 := ⟨by decide +kernel, rfl⟩
theorem dX8_countHeads_21 : dn cX8_countHeads 21 (.iconst 1) 1 22 := ⟨by decide +kernel, rfl⟩
theorem dX8_countHeads_22 : dn cX8_countHeads 22 (.iadd) 1 23 := ⟨by decide +kernel, rfl⟩
theorem dX8_countHeads_23 : dn cX8_countHeads 23 (.ireturn) 1 24 := ⟨by decide +kernel, rfl⟩
theorem dX8_countHeads_24 : dn cX8_countHeads 24 (.iinc 1 1) 3 27 := ⟨by decide +kernel, rfl⟩
theorem dX8_countHeads_27 : db cX8_countHeads 27 (.goto (-25)) 3 30 (-25) 2 := ⟨by decide +kernel, rfl, rfl⟩
theorem dX8_countHeads_30 : dn cX8_countHeads 30 (.aload_n 0) 1 31 := ⟨by decide +kernel, rfl⟩
theorem dX8_countHeads_31 : dn cX8_countHeads 31 (.getfield 110) 3 34 := ⟨by decide +kernel, rfl⟩
theorem dX8_countHeads_34 : dn cX8_countHeads 34 (.iconst 1) 1 35 := ⟨by decide +kernel, rfl⟩
theorem dX8_countHeads_35 : dn cX8_countHeads 35 (.isub) 1 36 := ⟨by decide +kernel, rfl⟩
theorem dX8_countHeads_36 : dn cX8_countHeads 36 (.ireturn) 1 37 := ⟨by decide +kernel, rfl⟩
theorem dX8_isOneColumnWide_0 : dn cX8_isOneColumnWide 0 (.iconst 0) 1 1 := ⟨by decide +kernel, rfl⟩
theorem dX8_isOneColumnWide_1 : dn cX8_isOneColumnWide 1 (.istore_n 2) 1 2 := ⟨by decide +kernel, rfl⟩
theorem dX8_isOneColumnWide_2 : dn cX8_isOneColumnWide 2 (.iload_n 2) 1 3 := ⟨by decide +kernel, rfl⟩
theorem dX8_isOneColumnWide_3 : dn cX8_isOneColumnWide 3 (.aload_n 0) 1 4 := ⟨by decide +kernel, rfl⟩
theorem dX8_isOneColumnWide_4 : dn cX8_isOneColumnWide 4 (.getfield 113) 3 7 := ⟨by decide +kernel, rfl⟩
theorem dX8_isOneColumnWide_7 : db cX8_isOneColumnWide 7 (.if_icmp .ge 35) 3 10 (35) 42 := ⟨by decide +kernel, rfl, rfl⟩
theorem dX8_isOneColumnWide_10 : dn cX8_isOneColumnWide 10 (.aload_n 0) 1 11 := ⟨by decide +kernel, rfl⟩
theorem dX8_isOneColumnWide_11 : dn cX8_isOneColumnWide 11 (.getfield 36) 3 14 := ⟨by decide +kernel, rfl⟩
theorem dX8_isOneColumnWide_14 : dn cX8_isOneColumnWide 14 (.iconst 3) 1 15 := ⟨by decide +kernel, rfl⟩
theorem dX8_isOneColumnWide_15 : dn cX8_isOneColumnWide 15 (.aaload) 1 16 := ⟨by decide +kernel, rfl⟩
theorem dX8_isOneColumnWide_16 : dn cX8_isOneColumnWide 16 (.aload_n 0) 1 17 := ⟨by decide +kernel, rfl⟩
theorem dX8_isOneColumnWide_17 : dn cX8_isOneColumnWide 17 (.getfield 30) 3 20 := ⟨by decide +kernel, rfl⟩
theorem dX8_isOneColumnWide_20 : dn cX8_isOneColumnWide 20 (.iload_n 1) 1 21 := ⟨by decide +kernel, rfl⟩
theorem dX8_isOneColumnWide_21 : dn cX8_isOneColumnWide 21 (.aload_n 0) 1 22 := ⟨by decide +kernel, rfl⟩
theorem dX8_isOneColumnWide_22 : dn cX8_isOneColumnWide 22 (.getfield 113) 3 25 := ⟨by decide +kernel, rfl⟩
theorem dX8_isOneColumnWide_25 : dn cX8_isOneColumnWide 25 (.imul) 1 26 := ⟨by decide +kernel, rfl⟩
theorem dX8_isOneColumnWide_26 : dn cX8_isOneColumnWide 26 (.iload_n 2) 1 27 := ⟨by decide +kernel, rfl⟩
theorem dX8_isOneColumnWide_27 : dn cX8_isOneColumnWide 27 (.iadd) 1 28 := ⟨by decide +kernel, rfl⟩
theorem dX8_isOneColumnWide_28 : dn cX8_isOneColumnWide 28 (.iaload) 1 29 := ⟨by decide +kernel, rfl⟩
theorem dX8_isOneColumnWide_29 : dn cX8_isOneColumnWide 29 (.iaload) 1 30 := ⟨by decide +kernel, rfl⟩
theorem dX8_isOneColumnWide_30 : dn cX8_isOneColumnWide 30 (.iconst 1) 1 31 := ⟨by decide +kernel, rfl⟩
theorem dX8_isOneColumnWide_31 : db cX8_isOneColumnWide 31 (.if_icmp .le 5) 3 34 (5) 36 := ⟨by decide +kernel, rfl, rfl⟩
theorem dX8_isOneColumnWide_34 : dn cX8_isOneColumnWide 34 (.iconst 0) 1 35 := ⟨by decide +kernel, rfl⟩
theorem dX8_isOneColumnWide_35 : dn cX8_isOneColumnWide 35 (.ireturn) 1 36 := ⟨by decide +kernel, rfl⟩
theorem dX8_isOneColumnWide_36 : dn cX8_isOneColumnWide 36 (.iinc 2 1) 3 39 := ⟨by decide +kernel, rfl⟩
theorem dX8_isOneColumnWide_39 : db cX8_isOneColumnWide 39 (.goto (-37)) 3 42 (-37) 2 := ⟨by decide +kernel, rfl, rfl⟩
theorem dX8_isOneColumnWide_42 : dn cX8_isOneColumnWide 42 (.iconst 1) 1 43 := ⟨by decide +kernel, rfl⟩
theorem dX8_isOneColumnWide_43 : dn cX8_isOneColumnWide 43 (.ireturn) 1 44 := ⟨by decide +kernel, rfl⟩
theorem dX8_headingOf_0 : dn cX8_headingOf 0 (.iconst 0) 1 1 := ⟨by decide +kernel, rfl⟩
theorem dX8_headingOf_1 : dn cX8_headingOf 1 (.istore_n 3) 1 2 := ⟨by decide +kernel, rfl⟩
theorem dX8_headingOf_2 : dn cX8_headingOf 2 (.iconst 0) 1 3 := ⟨by decide +kernel, rfl⟩
theorem dX8_headingOf_3 : dn cX8_headingOf 3 (.istore 4) 2 5 := ⟨by decide +kernel, rfl⟩
theorem dX8_headingOf_5 : dn cX8_headingOf 5 (.iload 4) 2 7 := ⟨by decide +kernel, rfl⟩
theorem dX8_headingOf_7 : dn cX8_headingOf 7 (.aload_n 0) 1 8 := ⟨by decide +kernel, rfl⟩
theorem dX8_headingOf_8 : dn cX8_headingOf 8 (.getfield 67) 3 11 := ⟨by decide +kernel, rfl⟩
theorem dX8_headingOf_11 : db cX8_headingOf 11 (.if_icmp .ge 35) 3 14 (35) 46 := ⟨by decide +kernel, rfl, rfl⟩
theorem dX8_headingOf_14 : dn cX8_headingOf 14 (.aload_n 0) 1 15 := ⟨by decide +kernel, rfl⟩
theorem dX8_headingOf_15 : dn cX8_headingOf 15 (.iload 4) 2 17 := ⟨by decide +kernel, rfl⟩
theorem dX8_headingOf_17 : dn cX8_headingOf 17 (.iload_n 1) 1 18 := ⟨by decide +kernel, rfl⟩
theorem dX8_headingOf_18 : dn cX8_headingOf 18 (.invokevirtual 173) 3 21 := ⟨by decide +kernel, rfl⟩
theorem dX8_headingOf_21 : db cX8_headingOf 21 (.ifCond .eq 19) 3 24 (19) 40 := ⟨by decide +kernel, rfl, rfl⟩
theorem dX8_headingOf_24 : dn cX8_headingOf 24 (.iload_n 3) 1 25 := ⟨by decide +kernel, rfl⟩
theorem dX8_headingOf_25 : dn cX8_headingOf 25 (.iload_n 2) 1 26 := ⟨by decide +kernel, rfl⟩
theorem dX8_headingOf_26 : db cX8_headingOf 26 (.if_icmp .ne 11) 3 29 (11) 37 := ⟨by decide +kernel, rfl, rfl⟩
theorem dX8_headingOf_29 : dn cX8_headingOf 29 (.aload_n 0) 1 30 := ⟨by decide +kernel, rfl⟩
theorem dX8_headingOf_30 : dn cX8_headingOf 30 (.iload 4) 2 32 := ⟨by decide +kernel, rfl⟩
theorem dX8_headingOf_32 : dn cX8_headingOf 32 (.iload_n 1) 1 33 := ⟨by decide +kernel, rfl⟩
theorem dX8_headingOf_33 : dn cX8_headingOf 33 (.invokevirtual 159) 3 36 := ⟨by decide +kernel, rfl⟩
theorem dX8_headingOf_36 : dn cX8_headingOf 36 (.ireturn) 1 37 := ⟨by decide +kernel, rfl⟩
theorem dX8_headingOf_37 : dn cX8_headingOf 37 (.iinc 3 1) 3 40 := ⟨by decide +kernel, rfl⟩
theorem dX8_headingOf_40 : dn cX8_headingOf 40 (.iinc 4 1) 3 43 := ⟨by decide +kernel, rfl⟩
theorem dX8_headingOf_43 : db cX8_headingOf 43 (.goto (-38)) 3 46 (-38) 5 := ⟨by decide +kernel, rfl, rfl⟩
theorem dX8_headingOf_46 : dn cX8_headingOf 46 (.bipush (-6)) 2 48 := ⟨by decide +kernel, rfl⟩
theorem dX8_headingOf_48 : dn cX8_headingOf 48 (.ireturn) 1 49 := ⟨by decide +kernel, rfl⟩
theorem dX8_isFirstInColumn_0 : dn cX8_isFirstInColumn 0 (.iconst 0) 1 1 := ⟨by decide +kernel, rfl⟩
theorem dX8_isFirstInColumn_1 : dn cX8_isFirstInColumn 1 (.istore_n 3) 1 2 := ⟨by decide +kernel, rfl⟩
theorem dX8_isFirstInColumn_2 : dn cX8_isFirstInColumn 2 (.iload_n 3) 1 3 := ⟨by decide +kernel, rfl⟩
theorem dX8_isFirstInColumn_3 : dn cX8_isFirstInColumn 3 (.iload_n 1) 1 4 := ⟨by decide +kernel, rfl⟩
theorem dX8_isFirstInColumn_4 : db cX8_isFirstInColumn 4 (.if_icmp .ge 26) 3 7 (26) 30 := ⟨by decide +kernel, rfl, rfl⟩
theorem dX8_isFirstInColumn_7 : dn cX8_isFirstInColumn 7 (.aload_n 0) 1 8 := ⟨by decide +kernel, rfl⟩
theorem dX8_isFirstInColumn_8 : dn cX8_isFirstInColumn 8 (.iload_n 3) 1 9 := ⟨by decide +kernel, rfl⟩
theorem dX8_isFirstInColumn_9 : dn cX8_isFirstInColumn 9 (.iload_n 2) 1 10 := ⟨by decide +kernel, rfl⟩
theorem dX8_isFirstInColumn_10 : dn cX8_isFirstInColumn 10 (.invokevirtual 159) 3 13 := ⟨by decide +kernel, rfl⟩
theorem dX8_isFirstInColumn_13 : dn cX8_isFirstInColumn 13 (.aload_n 0) 1 14 := ⟨by decide +kernel, rfl⟩
theorem dX8_isFirstInColumn_14 : dn cX8_isFirstInColumn 14 (.iload_n 1) 1 15 := ⟨by decide +kernel, rfl⟩
theorem dX8_isFirstInColumn_15 : dn cX8_isFirstInColumn 15 (.iload_n 2) 1 16 := ⟨by decide +kernel, rfl⟩
theorem dX8_isFirstInColumn_16 : dn cX8_isFirstInColumn 16 (.invokevirtual 159) 3 19 := ⟨by decide +kernel, rfl⟩
theorem dX8_isFirstInColumn_19 : db cX8_isFirstInColumn 19 (.if_icmp .ne 5) 3 22 (5) 24 := ⟨by decide +kernel, rfl, rfl⟩
theorem dX8_isFirstInColumn_22 : dn cX8_isFirstInColumn 22 (.iconst 0) 1 23 := ⟨by decide +kernel, rfl⟩
theorem dX8_isFirstInColumn_23 : dn cX8_isFirstInColumn 23 (.ireturn) 1 24 := ⟨by decide +kernel, rfl⟩
theorem dX8_isFirstInColumn_24 : dn cX8_isFirstInColumn 24 (.iinc 3 1) 3 27 := ⟨by decide +kernel, rfl⟩
theorem dX8_isFirstInColumn_27 : db cX8_isFirstInColumn 27 (.goto (-25)) 3 30 (-25) 2 := ⟨by decide +kernel, rfl, rfl⟩
theorem dX8_isFirstInColumn_30 : dn cX8_isFirstInColumn 30 (.iconst 1) 1 31 := ⟨by decide +kernel, rfl⟩
theorem dX8_isFirstInColumn_31 : dn cX8_isFirstInColumn 31 (.ireturn) 1 32 := ⟨by decide +kernel, rfl⟩
theorem dX8_findMissed_0 : dn cX8_findMissed 0 (.iconst 0) 1 1 := ⟨by decide +kernel, rfl⟩
theorem dX8_findMissed_1 : dn cX8_findMissed 1 (.istore 4) 2 3 := ⟨by decide +kernel, rfl⟩
theorem dX8_findMissed_3 : dn cX8_findMissed 3 (.iload 4) 2 5 := ⟨by decide +kernel, rfl⟩
theorem dX8_findMissed_5 : dn cX8_findMissed 5 (.aload_n 0) 1 6 := ⟨by decide +kernel, rfl⟩
theorem dX8_findMissed_6 : dn cX8_findMissed 6 (.getfield 145) 3 9 := ⟨by decide +kernel, rfl⟩
theorem dX8_findMissed_9 : db cX8_findMissed 9 (.if_icmp .ge 41) 3 12 (41) 50 := ⟨by decide +kernel, rfl, rfl⟩
theorem dX8_findMissed_12 : dn cX8_findMissed 12 (.aload_n 0) 1 13 := ⟨by decide +kernel, rfl⟩
theorem dX8_findMissed_13 : dn cX8_findMissed 13 (.getfield 36) 3 16 := ⟨by decide +kernel, rfl⟩
theorem dX8_findMissed_16 : dn cX8_findMissed 16 (.iconst 5) 1 17 := ⟨by decide +kernel, rfl⟩
theorem dX8_findMissed_17 : dn cX8_findMissed 17 (.aaload) 1 18 := ⟨by decide +kernel, rfl⟩
theorem dX8_findMissed_18 : dn cX8_findMissed 18 (.iload 4) 2 20 := ⟨by decide +kernel, rfl⟩
theorem dX8_findMissed_20 : dn cX8_findMissed 20 (.iaload) 1 21 := ⟨by decide +kernel, rfl⟩
theorem dX8_findMissed_21 : db cX8_findMissed 21 (.ifCond .ne 23) 3 24 (23) 44 := ⟨by decide +kernel, rfl, rfl⟩
theorem dX8_findMissed_24 : dn cX8_findMissed 24 (.aload_n 0) 1 25 := ⟨by decide +kernel, rfl⟩
theorem dX8_findMissed_25 : dn cX8_findMissed 25 (.iload 4) 2 27 := ⟨by decide +kernel, rfl⟩
theorem dX8_findMissed_27 : dn cX8_findMissed 27 (.iconst 1) 1 28 := ⟨by decide +kernel, rfl⟩
theorem dX8_findMissed_28 : dn cX8_findMissed 28 (.aload_n 1) 1 29 := ⟨by decide +kernel, rfl⟩
theorem dX8_findMissed_29 : dn cX8_findMissed 29 (.aload_n 2) 1 30 := ⟨by decide +kernel, rfl⟩
theorem dX8_findMissed_30 : dn cX8_findMissed 30 (.iload_n 3) 1 31 := ⟨by decide +kernel, rfl⟩
theorem dX8_findMissed_31 : dn cX8_findMissed 31 (.invokevirtual 177) 3 34 := ⟨by decide +kernel, rfl⟩
theorem dX8_findMissed_34 : dn cX8_findMissed 34 (.aload_n 0) 1 35 := ⟨by decide +kernel, rfl⟩
theorem dX8_findMissed_35 : dn cX8_findMissed 35 (.iload 4) 2 37 := ⟨by decide +kernel, rfl⟩
theorem dX8_findMissed_37 : dn cX8_findMissed 37 (.iconst 0) 1 38 := ⟨by decide +kernel, rfl⟩
theorem dX8_findMissed_38 : dn cX8_findMissed 38 (.aload_n 1) 1 39 := ⟨by decide +kernel, rfl⟩
theorem dX8_findMissed_39 : dn cX8_findMissed 39 (.aload_n 2) 1 40 := ⟨by decide +kernel, rfl⟩
theorem dX8_findMissed_40 : dn cX8_findMissed 40 (.iload_n 3) 1 41 := ⟨by decide +kernel, rfl⟩
theorem dX8_findMissed_41 : dn cX8_findMissed 41 (.invokevirtual 177) 3 44 := ⟨by decide +kernel, rfl⟩
theorem dX8_findMissed_44 : dn cX8_findMissed 44 (.iinc 4 1) 3 47 := ⟨by decide +kernel, rfl⟩
theorem dX8_findMissed_47 : db cX8_findMissed 47 (.goto (-44)) 3 50 (-44) 3 := ⟨by decide +kernel, rfl, rfl⟩
theorem dX8_findMissed_50 : dn cX8_findMissed 50 (.return_) 1 51 := ⟨by decide +kernel, rfl⟩
theorem dX8_findMissedIn_0 : dn cX8_findMissedIn 0 (.aload_n 0) 1 1 := ⟨by decide +kernel, rfl⟩
theorem dX8_findMissedIn_1 : dn cX8_findMissedIn 1 (.getfield 36) 3 4 := ⟨by decide +kernel, rfl⟩
theorem dX8_findMissedIn_4 : dn cX8_findMissedIn 4 (.iconst 0) 1 5 := ⟨by decide +kernel, rfl⟩
theorem dX8_findMissedIn_5 : dn cX8_findMissedIn 5 (.iload_n 2) 1 6 := ⟨by decide +kernel, rfl⟩
theorem dX8_findMissedIn_6 : dn cX8_findMissedIn 6 (.iadd) 1 7 := ⟨by decide +kernel, rfl⟩
theorem dX8_findMissedIn_7 : dn cX8_findMissedIn 7 (.aaload) 1 8 := ⟨by decide +kernel, rfl⟩
theorem dX8_findMissedIn_8 : dn cX8_findMissedIn 8 (.iload_n 1) 1 9 := ⟨by decide +kernel, rfl⟩
theorem dX8_findMissedIn_9 : dn cX8_findMissedIn 9 (.iaload) 1 10 := ⟨by decide +kernel, rfl⟩
theorem dX8_findMissedIn_10 : dn cX8_findMissedIn 10 (.istore 6) 2 12 := ⟨by decide +kernel, rfl⟩
theorem dX8_findMissedIn_12 : dn cX8_findMissedIn 12 (.iload 6) 2 14 := ⟨by decide +kernel, rfl⟩
theorem dX8_findMissedIn_14 : dn cX8_findMissedIn 14 (.aload_n 0) 1 15 := ⟨by decide +kernel, rfl⟩
theorem dX8_findMissedIn_15 : dn cX8_findMissedIn 15 (.getfield 36) 3 18 := ⟨by decide +kernel, rfl⟩
theorem dX8_findMissedIn_18 : dn cX8_findMissedIn 18 (.iconst 2) 1 19 := ⟨by decide +kernel, rfl⟩
theorem dX8_findMissedIn_19 : dn cX8_findMissedIn 19 (.iload_n 2) 1 20 := ⟨by decide +kernel, rfl⟩
theorem dX8_findMissedIn_20 : dn cX8_findMissedIn 20 (.iadd) 1 21 := ⟨by decide +kernel, rfl⟩
theorem dX8_findMissedIn_21 : dn cX8_findMissedIn 21 (.aaload) 1 22 := ⟨by decide +kernel, rfl⟩
theorem dX8_findMissedIn_22 : dn cX8_findMissedIn 22 (.iload_n 1) 1 23 := ⟨by decide +kernel, rfl⟩
theorem dX8_findMissedIn_23 : dn cX8_findMissedIn 23 (.iaload) 1 24 := ⟨by decide +kernel, rfl⟩
theorem dX8_findMissedIn_24 : dn cX8_findMissedIn 24 (.iadd) 1 25 := ⟨by decide +kernel, rfl⟩
theorem dX8_findMissedIn_25 : dn cX8_findMissedIn 25 (.istore 7) 2 27 := ⟨by decide +kernel, rfl⟩
theorem dX8_findMissedIn_27 : dn cX8_findMissedIn 27 (.iload 6) 2 29 := ⟨by decide +kernel, rfl⟩
theorem dX8_findMissedIn_29 : dn cX8_findMissedIn 29 (.iconst 1) 1 30 := ⟨by decide +kernel, rfl⟩
theorem dX8_findMissedIn_30 : dn cX8_findMissedIn 30 (.iadd) 1 31 := ⟨by decide +kernel, rfl⟩
theorem dX8_findMissedIn_31 : dn cX8_findMissedIn 31 (.istore 8) 2 33 := ⟨by decide +kernel, rfl⟩
theorem dX8_findMissedIn_33 : dn cX8_findMissedIn 33 (.iload 8) 2 35 := ⟨by decide +kernel, rfl⟩
theorem dX8_findMissedIn_35 : dn cX8_findMissedIn 35 (.iload 7) 2 37 := ⟨by decide +kernel, rfl⟩
theorem dX8_findMissedIn_37 : db cX8_findMissedIn 37 (.if_icmp .ge 40) 3 40 (40) 77 := ⟨by decide +kernel, rfl, rfl⟩
theorem dX8_findMissedIn_40 : dn cX8_findMissedIn 40 (.aload 4) 2 42 := ⟨by decide +kernel, rfl⟩
theorem dX8_findMissedIn_42 : dn cX8_findMissedIn 42 (.aload_n 3) 1 43 := ⟨by decide +kernel, rfl⟩
theorem dX8_findMissedIn_43 : dn cX8_findMissedIn 43 (.iload 5) 2 45 := ⟨by decide +kernel, rfl⟩
theorem dX8_findMissedIn_45 : dn cX8_findMissedIn 45 (.iload_n 1) 1 46 := ⟨by decide +kernel, rfl⟩
theorem dX8_findMissedIn_46 : dn cX8_findMissedIn 46 (.iload_n 2) 1 47 := ⟨by decide +kernel, rfl⟩
theorem dX8_findMissedIn_47 : dn cX8_findMissedIn 47 (.aload_n 0) 1 48 := ⟨by decide +kernel, rfl⟩
theorem dX8_findMissedIn_48 : dn cX8_findMissedIn 48 (.getfield 20) 3 51 := ⟨by decide +kernel, rfl⟩
theorem dX8_findMissedIn_51 : dn cX8_findMissedIn 51 (.iload_n 2) 1 52 := ⟨by decide +kernel, rfl⟩
theorem dX8_findMissedIn_52 : dn cX8_findMissedIn 52 (.iload 8) 2 54 := ⟨by decide +kernel, rfl⟩
theorem dX8_findMissedIn_54 : dn cX8_findMissedIn 54 (.invokevirtual 127) 3 57 := ⟨by decide +kernel, rfl⟩
theorem dX8_findMissedIn_57 : dn cX8_findMissedIn 57 (.invokevirtual 181) 3 60 := ⟨by decide +kernel, rfl⟩
theorem dX8_findMissedIn_60 : db cX8_findMissedIn 60 (.ifCond .eq 11) 3 63 (11) 71 := ⟨by decide +kernel, rfl, rfl⟩
theorem dX8_findMissedIn_63 : dn cX8_findMissedIn 63 (.aload_n 0) 1 64 := ⟨by decide +kernel, rfl⟩
theorem dX8_findMissedIn_64 : dn cX8_findMissedIn 64 (.iload_n 1) 1 65 := ⟨by decide +kernel, rfl⟩
theorem dX8_findMissedIn_65 : dn cX8_findMissedIn 65 (.iload_n 2) 1 66 := ⟨by decide +kernel, rfl⟩
theorem dX8_findMissedIn_66 : dn cX8_findMissedIn 66 (.iload 8) 2 68 := ⟨by decide +kernel, rfl⟩
theorem dX8_findMissedIn_68 : dn cX8_findMissedIn 68 (.invokevirtual 187) 3 71 := ⟨by decide +kernel, rfl⟩
theorem dX8_findMissedIn_71 : dn cX8_findMissedIn 71 (.iinc 8 1) 3 74 := ⟨by decide +kernel, rfl⟩
theorem dX8_findMissedIn_74 : db cX8_findMissedIn 74 (.goto (-41)) 3 77 (-41) 33 := ⟨by decide +kernel, rfl, rfl⟩
theorem dX8_findMissedIn_77 : dn cX8_findMissedIn 77 (.return_) 1 78 := ⟨by decide +kernel, rfl⟩
theorem dX8_addMissed_0 : dn cX8_addMissed 0 (.aload_n 0) 1 1 := ⟨by decide +kernel, rfl⟩
theorem dX8_addMissed_1 : dn cX8_addMissed 1 (.getfield 74) 3 4 := ⟨by decide +kernel, rfl⟩
theorem dX8_addMissed_4 : dn cX8_addMissed 4 (.aload_n 0) 1 5 := ⟨by decide +kernel, rfl⟩
theorem dX8_addMissed_5 : dn cX8_addMissed 5 (.getfield 39) 3 8 := ⟨by decide +kernel, rfl⟩
theorem dX8_addMissed_8 : dn cX8_addMissed 8 (.iconst 0) 1 9 := ⟨by decide +kernel, rfl⟩
theorem dX8_addMissed_9 : dn cX8_addMissed 9 (.aaload) 1 10 := ⟨by decide +kernel, rfl⟩
theorem dX8_addMissed_10 : dn cX8_addMissed 10 (.arraylength) 1 11 := ⟨by decide +kernel, rfl⟩
theorem dX8_addMissed_11 : db cX8_addMissed 11 (.if_icmp .ge 49) 3 14 (49) 60 := ⟨by decide +kernel, rfl, rfl⟩
theorem dX8_addMissed_14 : dn cX8_addMissed 14 (.aload_n 0) 1 15 := ⟨by decide +kernel, rfl⟩
theorem dX8_addMissed_15 : dn cX8_addMissed 15 (.getfield 39) 3 18 := ⟨by decide +kernel, rfl⟩
theorem dX8_addMissed_18 : dn cX8_addMissed 18 (.iconst 0) 1 19 := ⟨by decide +kernel, rfl⟩
theorem dX8_addMissed_19 : dn cX8_addMissed 19 (.aaload) 1 20 := ⟨by decide +kernel, rfl⟩
theorem dX8_addMissed_20 : dn cX8_addMissed 20 (.aload_n 0) 1 21 := ⟨by decide +kernel, rfl⟩
theorem dX8_addMissed_21 : dn cX8_addMissed 21 (.getfield 74) 3 24 := ⟨by decide +kernel, rfl⟩
theorem dX8_addMissed_24 : dn cX8_addMissed 24 (.iload_n 1) 1 25 := ⟨by decide +kernel, rfl⟩
theorem dX8_addMissed_25 : dn cX8_addMissed 25 (.iastore) 1 26 := ⟨by decide +kernel, rfl⟩
theorem dX8_addMissed_26 : dn cX8_addMissed 26 (.aload_n 0) 1 27 := ⟨by decide +kernel, rfl⟩
theorem dX8_addMissed_27 : dn cX8_addMissed 27 (.getfield 39) 3 30 := ⟨by decide +kernel, rfl⟩
theorem dX8_addMissed_30 : dn cX8_addMissed 30 (.iconst 1) 1 31 := ⟨by decide +kernel, rfl⟩
theorem dX8_addMissed_31 : dn cX8_addMissed 31 (.aaload) 1 32 := ⟨by decide +kernel, rfl⟩
theorem dX8_addMissed_32 : dn cX8_addMissed 32 (.aload_n 0) 1 33 := ⟨by decide +kernel, rfl⟩
theorem dX8_addMissed_33 : dn cX8_addMissed 33 (.getfield 74) 3 36 := ⟨by decide +kernel, rfl⟩
theorem dX8_addMissed_36 : dn cX8_addMissed 36 (.iload_n 2) 1 37 := ⟨by decide +kernel, rfl⟩
theorem dX8_addMissed_37 : dn cX8_addMissed 37 (.iastore) 1 38 := ⟨by decide +kernel, rfl⟩
theorem dX8_addMissed_38 : dn cX8_addMissed 38 (.aload_n 0) 1 39 := ⟨by decide +kernel, rfl⟩
theorem dX8_addMissed_39 : dn cX8_addMissed 39 (.getfield 39) 3 42 := ⟨by decide +kernel, rfl⟩
theorem dX8_addMissed_42 : dn cX8_addMissed 42 (.iconst 2) 1 43 := ⟨by decide +kernel, rfl⟩
theorem dX8_addMissed_43 : dn cX8_addMissed 43 (.aaload) 1 44 := ⟨by decide +kernel, rfl⟩
theorem dX8_addMissed_44 : dn cX8_addMissed 44 (.aload_n 0) 1 45 := ⟨by decide +kernel, rfl⟩
theorem dX8_addMissed_45 : dn cX8_addMissed 45 (.getfield 74) 3 48 := ⟨by decide +kernel, rfl⟩
theorem dX8_addMissed_48 : dn cX8_addMissed 48 (.iload_n 3) 1 49 := ⟨by decide +kernel, rfl⟩
theorem dX8_addMissed_49 : dn cX8_addMissed 49 (.iastore) 1 50 := ⟨by decide +kernel, rfl⟩
theorem dX8_addMissed_50 : dn cX8_addMissed 50 (.aload_n 0) 1 51 := ⟨by decide +kernel, rfl⟩
theorem dX8_addMissed_51 : dn cX8_addMissed 51 (.dup) 1 52 := ⟨by decide +kernel, rfl⟩
theorem dX8_addMissed_52 : dn cX8_addMissed 52 (.getfield 74) 3 55 := ⟨by decide +kernel, rfl⟩
theorem dX8_addMissed_55 : dn cX8_addMissed 55 (.iconst 1) 1 56 := ⟨by decide +kernel, rfl⟩
theorem dX8_addMissed_56 : dn cX8_addMissed 56 (.iadd) 1 57 := ⟨by decide +kernel, rfl⟩
theorem dX8_addMissed_57 : dn cX8_addMissed 57 (.putfield 74) 3 60 := ⟨by decide +kernel, rfl⟩
theorem dX8_addMissed_60 : dn cX8_addMissed 60 (.return_) 1 61 := ⟨by decide +kernel, rfl⟩
theorem dX8_drawMissed_0 : dn cX8_drawMissed 0 (.aload_n 0) 1 1 := ⟨by decide +kernel, rfl⟩
theorem dX8_drawMissed_1 : dn cX8_drawMissed 1 (.getfield 39) 3 4 := ⟨by decide +kernel, rfl⟩
theorem dX8_drawMissed_4 : dn cX8_drawMissed 4 (.iconst 0) 1 5 := ⟨by decide +kernel, rfl⟩
theorem dX8_drawMissed_5 : dn cX8_drawMissed 5 (.aaload) 1 6 := ⟨by decide +kernel, rfl⟩
theorem dX8_drawMissed_6 : dn cX8_drawMissed 6 (.iload_n 1) 1 7 := ⟨by decide +kernel, rfl⟩
theorem dX8_drawMissed_7 : dn cX8_drawMissed 7 (.iaload) 1 8 := ⟨by decide +kernel, rfl⟩
theorem dX8_drawMissed_8 : dn cX8_drawMissed 8 (.istore_n 3) 1 9 := ⟨by decide +kernel, rfl⟩
theorem dX8_drawMissed_9 : dn cX8_drawMissed 9 (.aload_n 0) 1 10 := ⟨by decide +kernel, rfl⟩
theorem dX8_drawMissed_10 : dn cX8_drawMissed 10 (.getfield 39) 3 13 := ⟨by decide +kernel, rfl⟩
theorem dX8_drawMissed_13 : dn cX8_drawMissed 13 (.iconst 1) 1 14 := ⟨by decide +kernel, rfl⟩
theorem dX8_drawMissed_14 : dn cX8_drawMissed 14 (.aaload) 1 15 := ⟨by decide +kernel, rfl⟩
theorem dX8_drawMissed_15 : dn cX8_drawMissed 15 (.iload_n 1) 1 16 := ⟨by decide +kernel, rfl⟩
theorem dX8_drawMissed_16 : dn cX8_drawMissed 16 (.iaload) 1 17 := ⟨by decide +kernel, rfl⟩
theorem dX8_drawMissed_17 : dn cX8_drawMissed 17 (.istore 4) 2 19 := ⟨by decide +kernel, rfl⟩
theorem dX8_drawMissed_19 : dn cX8_drawMissed 19 (.aload_n 0) 1 20 := ⟨by decide +kernel, rfl⟩
theorem dX8_drawMissed_20 : dn cX8_drawMissed 20 (.getfield 20) 3 23 := ⟨by decide +kernel, rfl⟩
theorem dX8_drawMissed_23 : dn cX8_drawMissed 23 (.iload 4) 2 25 := ⟨by decide +kernel, rfl⟩
theorem dX8_drawMissed_25 : dn cX8_drawMissed 25 (.aload_n 0) 1 26 := ⟨by decide +kernel, rfl⟩
theorem dX8_drawMissed_26 : dn cX8_drawMissed 26 (.getfield 39) 3 29 := ⟨by decide +kernel, rfl⟩
theorem dX8_drawMissed_29 : dn cX8_drawMissed 29 (.iconst 2) 1 30 := ⟨by decide +kernel, rfl⟩
theorem dX8_drawMissed_30 : dn cX8_drawMissed 30 (.aaload) 1 31 := ⟨by decide +kernel, rfl⟩
theorem dX8_drawMissed_31 : dn cX8_drawMissed 31 (.iload_n 1) 1 32 := ⟨by decide +kernel, rfl⟩
theorem dX8_drawMissed_32 : dn cX8_drawMissed 32 (.iaload) 1 33 := ⟨by decide +kernel, rfl⟩
theorem dX8_drawMissed_33 : dn cX8_drawMissed 33 (.invokevirtual 127) 3 36 := ⟨by decide +kernel, rfl⟩
theorem dX8_drawMissed_36 : dn cX8_drawMissed 36 (.istore 5) 2 38 := ⟨by decide +kernel, rfl⟩
theorem dX8_drawMissed_38 : dn cX8_drawMissed 38 (.iconst 1) 1 39 := ⟨by decide +kernel, rfl⟩
theorem dX8_drawMissed_39 : dn cX8_drawMissed 39 (.iload 4) 2 41 := ⟨by decide +kernel, rfl⟩
theorem dX8_drawMissed_41 : dn cX8_drawMissed 41 (.isub) 1 42 := ⟨by decide +kernel, rfl⟩
theorem dX8_drawMissed_42 : dn cX8_drawMissed 42 (.istore 6) 2 44 := ⟨by decide +kernel, rfl⟩
theorem dX8_drawMissed_44 : dn cX8_drawMissed 44 (.aload_n 0) 1 45 := ⟨by decide +kernel, rfl⟩
theorem dX8_drawMissed_45 : dn cX8_drawMissed 45 (.getfield 36) 3 48 := ⟨by decide +kernel, rfl⟩
theorem dX8_drawMissed_48 : dn cX8_drawMissed 48 (.iconst 0) 1 49 := ⟨by decide +kernel, rfl⟩
theorem dX8_drawMissed_49 : dn cX8_drawMissed 49 (.iload 6) 2 51 := ⟨by decide +kernel, rfl⟩
theorem dX8_drawMissed_51 : dn cX8_drawMissed 51 (.iadd) 1 52 := ⟨by decide +kernel, rfl⟩
theorem dX8_drawMissed_52 : dn cX8_drawMissed 52 (.aaload) 1 53 := ⟨by decide +kernel, rfl⟩
theorem dX8_drawMissed_53 : dn cX8_drawMissed 53 (.iload_n 3) 1 54 := ⟨by decide +kernel, rfl⟩
theorem dX8_drawMissed_54 : dn cX8_drawMissed 54 (.iaload) 1 55 := ⟨by decide +kernel, rfl⟩
theorem dX8_drawMissed_55 : dn cX8_drawMissed 55 (.istore 7) 2 57 := ⟨by decide +kernel, rfl⟩
theorem dX8_drawMissed_57 : dn cX8_drawMissed 57 (.iload 7) 2 59 := ⟨by decide +kernel, rfl⟩
theorem dX8_drawMissed_59 : dn cX8_drawMissed 59 (.aload_n 0) 1 60 := ⟨by decide +kernel, rfl⟩
theorem dX8_drawMissed_60 : dn cX8_drawMissed 60 (.getfield 36) 3 63 := ⟨by decide +kernel, rfl⟩
theorem dX8_drawMissed_63 : dn cX8_drawMissed 63 (.iconst 2) 1 64 := ⟨by decide +kernel, rfl⟩
theorem dX8_drawMissed_64 : dn cX8_drawMissed 64 (.iload 6) 2 66 := ⟨by decide +kernel, rfl⟩
theorem dX8_drawMissed_66 : dn cX8_drawMissed 66 (.iadd) 1 67 := ⟨by decide +kernel, rfl⟩
theorem dX8_drawMissed_67 : dn cX8_drawMissed 67 (.aaload) 1 68 := ⟨by decide +kernel, rfl⟩
theorem dX8_drawMissed_68 : dn cX8_drawMissed 68 (.iload_n 3) 1 69 := ⟨by decide +kernel, rfl⟩
theorem dX8_drawMissed_69 : dn cX8_drawMissed 69 (.iaload) 1 70 := ⟨by decide +kernel, rfl⟩
theorem dX8_drawMissed_70 : dn cX8_drawMissed 70 (.iadd) 1 71 := ⟨by decide +kernel, rfl⟩
theorem dX8_drawMissed_71 : dn cX8_drawMissed 71 (.istore 8) 2 73 := ⟨by decide +kernel, rfl⟩
theorem dX8_drawMissed_73 : dn cX8_drawMissed 73 (.aload_n 2) 1 74 := ⟨by decide +kernel, rfl⟩
theorem dX8_drawMissed_74 : dn cX8_drawMissed 74 (.iload 4) 2 76 := ⟨by decide +kernel, rfl⟩
theorem dX8_drawMissed_76 : dn cX8_drawMissed 76 (.iload 5) 2 78 := ⟨by decide +kernel, rfl⟩
theorem dX8_drawMissed_78 : dn cX8_drawMissed 78 (.aload_n 0) 1 79 := ⟨by decide +kernel, rfl⟩
theorem dX8_drawMissed_79 : dn cX8_drawMissed 79 (.getfield 20) 3 82 := ⟨by decide +kernel, rfl⟩
theorem dX8_drawMissed_82 : dn cX8_drawMissed 82 (.iload 6) 2 84 := ⟨by decide +kernel, rfl⟩
theorem dX8_drawMissed_84 : dn cX8_drawMissed 84 (.iload 7) 2 86 := ⟨by decide +kernel, rfl⟩
theorem dX8_drawMissed_86 : dn cX8_drawMissed 86 (.invokevirtual 127) 3 89 := ⟨by decide +kernel, rfl⟩
theorem dX8_drawMissed_89 : dn cX8_drawMissed 89 (.aload_n 0) 1 90 := ⟨by decide +kernel, rfl⟩
theorem dX8_drawMissed_90 : dn cX8_drawMissed 90 (.getfield 20) 3 93 := ⟨by decide +kernel, rfl⟩
theorem dX8_drawMissed_93 : dn cX8_drawMissed 93 (.iload 6) 2 95 := ⟨by decide +kernel, rfl⟩
theorem dX8_drawMissed_95 : dn cX8_drawMissed 95 (.iload 8) 2 97 := ⟨by decide +kernel, rfl⟩
theorem dX8_drawMissed_97 : dn cX8_drawMissed 97 (.invokevirtual 127) 3 100 := ⟨by decide +kernel, rfl⟩
theorem dX8_drawMissed_100 : dn cX8_drawMissed 100 (.invokevirtual 190) 3 103 := ⟨by decide +kernel, rfl⟩
theorem dX8_drawMissed_103 : dn cX8_drawMissed 103 (.return_) 1 104 := ⟨by decide +kernel, rfl⟩
theorem dX8_countWhole_0 : dn cX8_countWhole 0 (.iconst 0) 1 1 := ⟨by decide +kernel, rfl⟩
theorem dX8_countWhole_1 : dn cX8_countWhole 1 (.istore_n 1) 1 2 := ⟨by decide +kernel, rfl⟩
theorem dX8_countWhole_2 : dn cX8_countWhole 2 (.iconst 0) 1 3 := ⟨by decide +kernel, rfl⟩
theorem dX8_countWhole_3 : dn cX8_countWhole 3 (.istore_n 2) 1 4 := ⟨by decide +kernel, rfl⟩
theorem dX8_countWhole_4 : dn cX8_countWhole 4 (.iload_n 2) 1 5 := ⟨by decide +kernel, rfl⟩
theorem dX8_countWhole_5 : dn cX8_countWhole 5 (.aload_n 0) 1 6 := ⟨by decide +kernel, rfl⟩
theorem dX8_countWhole_6 : dn cX8_countWhole 6 (.getfield 145) 3 9 := ⟨by decide +kernel, rfl⟩
theorem dX8_countWhole_9 : db cX8_countWhole 9 (.if_icmp .ge 23) 3 12 (23) 32 := ⟨by decide +kernel, rfl, rfl⟩
theorem dX8_countWhole_12 : dn cX8_countWhole 12 (.aload_n 0) 1 13 := ⟨by decide +kernel, rfl⟩
theorem dX8_countWhole_13 : dn cX8_countWhole 13 (.getfield 36) 3 16 := ⟨by decide +kernel, rfl⟩
theorem dX8_countWhole_16 : dn cX8_countWhole 16 (.iconst 5) 1 17 := ⟨by decide +kernel, rfl⟩
theorem dX8_countWhole_17 : dn cX8_countWhole 17 (.aaload) 1 18 := ⟨by decide +kernel, rfl⟩
theorem dX8_countWhole_18 : dn cX8_countWhole 18 (.iload_n 2) 1 19 := ⟨by decide +kernel, rfl⟩
theorem dX8_countWhole_19 : dn cX8_countWhole 19 (.iaload) 1 20 := ⟨by decide +kernel, rfl⟩
theorem dX8_countWhole_20 : db cX8_countWhole 20 (.ifCond .ne 6) 3 23 (6) 26 := ⟨by decide +kernel, rfl, rfl⟩
theorem dX8_countWhole_23 : dn cX8_countWhole 23 (.iinc 1 1) 3 26 := ⟨by decide +kernel, rfl⟩
theorem dX8_countWhole_26 : dn cX8_countWhole 26 (.iinc 2 1) 3 29 := ⟨by decide +kernel, rfl⟩
theorem dX8_countWhole_29 : db cX8_countWhole 29 (.goto (-25)) 3 32 (-25) 4 := ⟨by decide +kernel, rfl, rfl⟩
theorem dX8_countWhole_32 : dn cX8_countWhole 32 (.iload_n 1) 1 33 := ⟨by decide +kernel, rfl⟩
theorem dX8_countWhole_33 : dn cX8_countWhole 33 (.ireturn) 1 34 := ⟨by decide +kernel, rfl⟩
theorem dX8_tell_0 : dn cX8_tell 0 (.iload_n 1) 1 1 := ⟨by decide +kernel, rfl⟩
theorem dX8_tell_1 : decode cX8_tell 1 = .ok (.tableswitch 87 0 7 #[47, 52, 57, 62, 67, 72, 77, 82], 47) := by decide +kernel
theorem dX8_tell_48 : dn cX8_tell 48 (.aload_n 0) 1 49 := ⟨by decide +kernel, rfl⟩
theorem dX8_tell_49 : dn cX8_tell 49 (.getfield 110) 3 52 := ⟨by decide +kernel, rfl⟩
theorem dX8_tell_52 : dn cX8_tell 52 (.ireturn) 1 53 := ⟨by decide +kernel, rfl⟩
theorem dX8_tell_53 : dn cX8_tell 53 (.aload_n 0) 1 54 := ⟨by decide +kernel, rfl⟩
theorem dX8_tell_54 : dn cX8_tell 54 (.getfield 113) 3 57 := ⟨by decide +kernel, rfl⟩
theorem dX8_tell_57 : dn cX8_tell 57 (.ireturn) 1 58 := ⟨by decide +kernel, rfl⟩
theorem dX8_tell_58 : dn cX8_tell 58 (.aload_n 0) 1 59 := ⟨by decide +kernel, rfl⟩
theorem dX8_tell_59 : dn cX8_tell 59 (.getfield 145) 3 62 := ⟨by decide +kernel, rfl⟩
theorem dX8_tell_62 : dn cX8_tell 62 (.ireturn) 1 63 := ⟨by decide +kernel, rfl⟩
theorem dX8_tell_63 : dn cX8_tell 63 (.aload_n 0) 1 64 := ⟨by decide +kernel, rfl⟩
theorem dX8_tell_64 : dn cX8_tell 64 (.getfield 80) 3 67 := ⟨by decide +kernel, rfl⟩
theorem dX8_tell_67 : dn cX8_tell 67 (.ireturn) 1 68 := ⟨by decide +kernel, rfl⟩
theorem dX8_tell_68 : dn cX8_tell 68 (.aload_n 0) 1 69 := ⟨by decide +kernel, rfl⟩
theorem dX8_tell_69 : dn cX8_tell 69 (.getfield 71) 3 72 := ⟨by decide +kernel, rfl⟩
theorem dX8_tell_72 : dn cX8_tell 72 (.ireturn) 1 73 := ⟨by decide +kernel, rfl⟩
theorem dX8_tell_73 : dn cX8_tell 73 (.aload_n 0) 1 74 := ⟨by decide +kernel, rfl⟩
theorem dX8_tell_74 : dn cX8_tell 74 (.getfield 67) 3 77 := ⟨by decide +kernel, rfl⟩
theorem dX8_tell_77 : dn cX8_tell 77 (.ireturn) 1 78 := ⟨by decide +kernel, rfl⟩
theorem dX8_tell_78 : dn cX8_tell 78 (.aload_n 0) 1 79 := ⟨by decide +kernel, rfl⟩
theorem dX8_tell_79 : dn cX8_tell 79 (.getfield 74) 3 82 := ⟨by decide +kernel, rfl⟩
theorem dX8_tell_82 : dn cX8_tell 82 (.ireturn) 1 83 := ⟨by decide +kernel, rfl⟩
theorem dX8_tell_83 : dn cX8_tell 83 (.aload_n 0) 1 84 := ⟨by decide +kernel, rfl⟩
theorem dX8_tell_84 : dn cX8_tell 84 (.invokevirtual 195) 3 87 := ⟨by decide +kernel, rfl⟩
theorem dX8_tell_87 : dn cX8_tell 87 (.ireturn) 1 88 := ⟨by decide +kernel, rfl⟩
theorem dX8_tell_88 : dn cX8_tell 88 (.bipush (-2)) 2 90 := ⟨by decide +kernel, rfl⟩
theorem dX8_tell_90 : dn cX8_tell 90 (.ireturn) 1 91 := ⟨by decide +kernel, rfl⟩
theorem dX9_set_0 : dn cX9_set 0 (.iload_n 1) 1 1 := ⟨by decide +kernel, rfl⟩
theorem dX9_set_1 : db cX9_set 1 (.ifCond .lt 24) 3 4 (24) 25 := ⟨by decide +kernel, rfl, rfl⟩
theorem dX9_set_4 : dn cX9_set 4 (.iload_n 1) 1 5 := ⟨by decide +kernel, rfl⟩
theorem dX9_set_5 : dn cX9_set 5 (.getstatic 35) 3 8 := ⟨by decide +kernel, rfl⟩
theorem dX9_set_8 : dn cX9_set 8 (.arraylength) 1 9 := ⟨by decide +kernel, rfl⟩
theorem dX9_set_9 : db cX9_set 9 (.if_icmp .ge 16) 3 12 (16) 25 := ⟨by decide +kernel, rfl, rfl⟩
theorem dX9_set_12 : dn cX9_set 12 (.iload_n 2) 1 13 := ⟨by decide +kernel, rfl⟩
theorem dX9_set_13 : db cX9_set 13 (.ifCond .lt 12) 3 16 (12) 25 := ⟨by decide +kernel, rfl, rfl⟩
theorem dX9_set_16 : dn cX9_set 16 (.iload_n 2) 1 17 := ⟨by decide +kernel, rfl⟩
theorem dX9_set_17 : dn cX9_set 17 (.getstatic 35) 3 20 := ⟨by decide +kernel, rfl⟩
theorem dX9_set_20 : dn cX9_set 20 (.iload_n 1) 1 21 := ⟨by decide +kernel, rfl⟩
theorem dX9_set_21 : dn cX9_set 21 (.iaload) 1 22 := ⟨by decide +kernel, rfl⟩
theorem dX9_set_22 : db cX9_set 22 (.if_icmp .le 6) 3 25 (6) 28 := ⟨by decide +kernel, rfl, rfl⟩
theorem dX9_set_25 : dn cX9_set 25 (.bipush (-2)) 2 27 := ⟨by decide +kernel, rfl⟩
theorem dX9_set_27 : dn cX9_set 27 (.ireturn) 1 28 := ⟨by decide +kernel, rfl⟩
theorem dX9_set_28 : dn cX9_set 28 (.aload_n 0) 1 29 := ⟨by decide +kernel, rfl⟩
theorem dX9_set_29 : dn cX9_set 29 (.getfield 12) 3 32 := ⟨by decide +kernel, rfl⟩
theorem dX9_set_32 : dn cX9_set 32 (.getfield 39) 3 35 := ⟨by decide +kernel, rfl⟩
theorem dX9_set_35 : dn cX9_set 35 (.iload_n 1) 1 36 := ⟨by decide +kernel, rfl⟩
theorem dX9_set_36 : dn cX9_set 36 (.iaload) 1 37 := ⟨by decide +kernel, rfl⟩
theorem dX9_set_37 : dn cX9_set 37 (.istore_n 3) 1 38 := ⟨by decide +kernel, rfl⟩
theorem dX9_set_38 : dn cX9_set 38 (.aload_n 0) 1 39 := ⟨by decide +kernel, rfl⟩
theorem dX9_set_39 : dn cX9_set 39 (.getfield 12) 3 42 := ⟨by decide +kernel, rfl⟩
theorem dX9_set_42 : dn cX9_set 42 (.getfield 39) 3 45 := ⟨by decide +kernel, rfl⟩
theorem dX9_set_45 : dn cX9_set 45 (.iload_n 1) 1 46 := ⟨by decide +kernel, rfl⟩
theorem dX9_set_46 : dn cX9_set 46 (.iload_n 2) 1 47 := ⟨by decide +kernel, rfl⟩
theorem dX9_set_47 : dn cX9_set 47 (.iastore) 1 48 := ⟨by decide +kernel, rfl⟩
theorem dX9_set_48 : dn cX9_set 48 (.aload_n 0) 1 49 := ⟨by decide +kernel, rfl⟩
theorem dX9_set_49 : dn cX9_set 49 (.iconst 1) 1 50 := ⟨by decide +kernel, rfl⟩
theorem dX9_set_50 : dn cX9_set 50 (.putfield 31) 3 53 := ⟨by decide +kernel, rfl⟩
theorem dX9_set_53 : dn cX9_set 53 (.iload_n 3) 1 54 := ⟨by decide +kernel, rfl⟩
theorem dX9_set_54 : dn cX9_set 54 (.ireturn) 1 55 := ⟨by decide +kernel, rfl⟩
theorem dX9_draw_0 : dn cX9_draw 0 (.iload_n 1) 1 1 := ⟨by decide +kernel, rfl⟩
theorem dX9_draw_1 : dn cX9_draw 1 (.invokestatic 42) 3 4 := ⟨by decide +kernel, rfl⟩
theorem dX9_draw_4 : db cX9_draw 4 (.ifCond .eq 19) 3 7 (19) 23 := ⟨by decide +kernel, rfl, rfl⟩
theorem dX9_draw_7 : dn cX9_draw 7 (.iload_n 2) 1 8 := ⟨by decide +kernel, rfl⟩
theorem dX9_draw_8 : dn cX9_draw 8 (.invokestatic 46) 3 11 := ⟨by decide +kernel, rfl⟩
theorem dX9_draw_11 : db cX9_draw 11 (.ifCond .eq 12) 3 14 (12) 23 := ⟨by decide +kernel, rfl, rfl⟩
theorem dX9_draw_14 : dn cX9_draw 14 (.iload_n 3) 1 15 := ⟨by decide +kernel, rfl⟩
theorem dX9_draw_15 : dn cX9_draw 15 (.iload 4) 2 17 := ⟨by decide +kernel, rfl⟩
theorem dX9_draw_17 : dn cX9_draw 17 (.invokestatic 49) 3 20 := ⟨by decide +kernel, rfl⟩
theorem dX9_draw_20 : db cX9_draw 20 (.ifCond .ne 6) 3 23 (6) 26 := ⟨by decide +kernel, rfl, rfl⟩
theorem dX9_draw_23 : dn cX9_draw 23 (.bipush (-2)) 2 25 := ⟨by decide +kernel, rfl⟩
theorem dX9_draw_25 : dn cX9_draw 25 (.ireturn) 1 26 := ⟨by decide +kernel, rfl⟩
theorem dX9_draw_26 : dn cX9_draw 26 (.aload_n 0) 1 27 := ⟨by decide +kernel, rfl⟩
theorem dX9_draw_27 : dn cX9_draw 27 (.getfield 12) 3 30 := ⟨by decide +kernel, rfl⟩
theorem dX9_draw_30 : dn cX9_draw 30 (.getfield 53) 3 33 := ⟨by decide +kernel, rfl⟩
theorem dX9_draw_33 : dn cX9_draw 33 (.invokevirtual 57) 3 36 := ⟨by decide +kernel, rfl⟩
theorem dX9_draw_36 : db cX9_draw 36 (.ifCond .eq 6) 3 39 (6) 42 := ⟨by decide +kernel, rfl, rfl⟩
theorem dX9_draw_39 : dn cX9_draw 39 (.bipush (-4)) 2 41 := ⟨by decide +kernel, rfl⟩
theorem dX9_draw_41 : dn cX9_draw 41 (.ireturn) 1 42 := ⟨by decide +kernel, rfl⟩
theorem dX9_draw_42 : dn cX9_draw 42 (.aload_n 0) 1 43 := ⟨by decide +kernel, rfl⟩
theorem dX9_draw_43 : dn cX9_draw 43 (.getfield 12) 3 46 := ⟨by decide +kernel, rfl⟩
theorem dX9_draw_46 : dn cX9_draw 46 (.getfield 53) 3 49 := ⟨by decide +kernel, rfl⟩
theorem dX9_draw_49 : dn cX9_draw 49 (.iload_n 1) 1 50 := ⟨by decide +kernel, rfl⟩
theorem dX9_draw_50 : dn cX9_draw 50 (.iload_n 2) 1 51 := ⟨by decide +kernel, rfl⟩
theorem dX9_draw_51 : dn cX9_draw 51 (.iload_n 3) 1 52 := ⟨by decide +kernel, rfl⟩
theorem dX9_draw_52 : dn cX9_draw 52 (.iload 4) 2 54 := ⟨by decide +kernel, rfl⟩
theorem dX9_draw_54 : dn cX9_draw 54 (.invokevirtual 63) 3 57 := ⟨by decide +kernel, rfl⟩
theorem dX9_draw_57 : dn cX9_draw 57 (.aload_n 0) 1 58 := ⟨by decide +kernel, rfl⟩
theorem dX9_draw_58 : dn cX9_draw 58 (.iconst 1) 1 59 := ⟨by decide +kernel, rfl⟩
theorem dX9_draw_59 : dn cX9_draw 59 (.putfield 31) 3 62 := ⟨by decide +kernel, rfl⟩
theorem dX9_draw_62 : dn cX9_draw 62 (.aload_n 0) 1 63 := ⟨by decide +kernel, rfl⟩
theorem dX9_draw_63 : dn cX9_draw 63 (.getfield 12) 3 66 := ⟨by decide +kernel, rfl⟩
theorem dX9_draw_66 : dn cX9_draw 66 (.getfield 53) 3 69 := ⟨by decide +kernel, rfl⟩
theorem dX9_draw_69 : dn cX9_draw 69 (.getfield 67) 3 72 := ⟨by decide +kernel, rfl⟩
theorem dX9_draw_72 : dn cX9_draw 72 (.ireturn) 1 73 := ⟨by decide +kernel, rfl⟩
theorem dX9_erase_0 : dn cX9_erase 0 (.aload_n 0) 1 1 := ⟨by decide +kernel, rfl⟩
theorem dX9_erase_1 : dn cX9_erase 1 (.getfield 12) 3 4 := ⟨by decide +kernel, rfl⟩
theorem dX9_erase_4 : dn cX9_erase 4 (.getfield 53) 3 7 := ⟨by decide +kernel, rfl⟩
theorem dX9_erase_7 : dn cX9_erase 7 (.iload_n 1) 1 8 := ⟨by decide +kernel, rfl⟩
theorem dX9_erase_8 : dn cX9_erase 8 (.invokevirtual 71) 3 11 := ⟨by decide +kernel, rfl⟩
theorem dX9_erase_11 : db cX9_erase 11 (.ifCond .ne 5) 3 14 (5) 16 := ⟨by decide +kernel, rfl, rfl⟩
theorem dX9_erase_14 : dn cX9_erase 14 (.iconst (-1)) 1 15 := ⟨by decide +kernel, rfl⟩
theorem dX9_erase_15 : dn cX9_erase 15 (.ireturn) 1 16 := ⟨by decide +kernel, rfl⟩
theorem dX9_erase_16 : dn cX9_erase 16 (.aload_n 0) 1 17 := ⟨by decide +kernel, rfl⟩
theorem dX9_erase_17 : dn cX9_erase 17 (.getfield 12) 3 20 := ⟨by decide +kernel, rfl⟩
theorem dX9_erase_20 : dn cX9_erase 20 (.getfield 53) 3 23 := ⟨by decide +kernel, rfl⟩
theorem dX9_erase_23 : dn cX9_erase 23 (.iload_n 1) 1 24 := ⟨by decide +kernel, rfl⟩
theorem dX9_erase_24 : dn cX9_erase 24 (.invokevirtual 74) 3 27 := ⟨by decide +kernel, rfl⟩
theorem dX9_erase_27 : dn cX9_erase 27 (.aload_n 0) 1 28 := ⟨by decide +kernel, rfl⟩
theorem dX9_erase_28 : dn cX9_erase 28 (.iconst 1) 1 29 := ⟨by decide +kernel, rfl⟩
theorem dX9_erase_29 : dn cX9_erase 29 (.putfield 31) 3 32 := ⟨by decide +kernel, rfl⟩
theorem dX9_erase_32 : dn cX9_erase 32 (.aload_n 0) 1 33 := ⟨by decide +kernel, rfl⟩
theorem dX9_erase_33 : dn cX9_erase 33 (.getfield 12) 3 36 := ⟨by decide +kernel, rfl⟩
theorem dX9_erase_36 : dn cX9_erase 36 (.getfield 53) 3 39 := ⟨by decide +kernel, rfl⟩
theorem dX9_erase_39 : dn cX9_erase 39 (.getfield 67) 3 42 := ⟨by decide +kernel, rfl⟩
theorem dX9_erase_42 : dn cX9_erase 42 (.ireturn) 1 43 := ⟨by decide +kernel, rfl⟩
theorem dX9_piece_0 : dn cX9_piece 0 (.aload_n 0) 1 1 := ⟨by decide +kernel, rfl⟩
theorem dX9_piece_1 : dn cX9_piece 1 (.getfield 12) 3 4 := ⟨by decide +kernel, rfl⟩
theorem dX9_piece_4 : dn cX9_piece 4 (.getfield 53) 3 7 := ⟨by decide +kernel, rfl⟩
theorem dX9_piece_7 : dn cX9_piece 7 (.iload_n 1) 1 8 := ⟨by decide +kernel, rfl⟩
theorem dX9_piece_8 : dn cX9_piece 8 (.invokevirtual 71) 3 11 := ⟨by decide +kernel, rfl⟩
theorem dX9_piece_11 : db cX9_piece 11 (.ifCond .ne 5) 3 14 (5) 16 := ⟨by decide +kernel, rfl, rfl⟩
theorem dX9_piece_14 : dn cX9_piece 14 (.iconst (-1)) 1 15 := ⟨by decide +kernel, rfl⟩
theorem dX9_piece_15 : dn cX9_piece 15 (.ireturn) 1 16 := ⟨by decide +kernel, rfl⟩
theorem dX9_piece_16 : dn cX9_piece 16 (.iload_n 2) 1 17 := ⟨by decide +kernel, rfl⟩
theorem dX9_piece_17 : db cX9_piece 17 (.ifCond .lt 8) 3 20 (8) 25 := ⟨by decide +kernel, rfl, rfl⟩
theorem dX9_piece_20 : dn cX9_piece 20 (.iload_n 2) 1 21 := ⟨by decide +kernel, rfl⟩
theorem dX9_piece_21 : dn cX9_piece 21 (.iconst 4) 1 22 := ⟨by decide +kernel, rfl⟩
theorem dX9_piece_22 : db cX9_piece 22 (.if_icmp .le 6) 3 25 (6) 28 := ⟨by decide +kernel, rfl, rfl⟩
theorem dX9_piece_25 : dn cX9_piece 25 (.bipush (-2)) 2 27 := ⟨by decide +kernel, rfl⟩
theorem dX9_piece_27 : dn cX9_piece 27 (.ireturn) 1 28 := ⟨by decide +kernel, rfl⟩
theorem dX9_piece_28 : dn cX9_piece 28 (.iload_n 2) 1 29 := ⟨by decide +kernel, rfl⟩
theorem dX9_piece_29 : dn cX9_piece 29 (.iconst 4) 1 30 := ⟨by decide +kernel, rfl⟩
theorem dX9_piece_30 : db cX9_piece 30 (.if_icmp .ge 18) 3 33 (18) 48 := ⟨by decide +kernel, rfl, rfl⟩
theorem dX9_piece_33 : dn cX9_piece 33 (.aload_n 0) 1 34 := ⟨by decide +kernel, rfl⟩
theorem dX9_piece_34 : dn cX9_piece 34 (.getfield 12) 3 37 := ⟨by decide +kernel, rfl⟩
theorem dX9_piece_37 : dn cX9_piece 37 (.getfield 53) 3 40 := ⟨by decide +kernel, rfl⟩
theorem dX9_piece_40 : dn cX9_piece 40 (.iload_n 1) 1 41 := ⟨by decide +kernel, rfl⟩
theorem dX9_piece_41 : dn cX9_piece 41 (.iload_n 2) 1 42 := ⟨by decide +kernel, rfl⟩
theorem dX9_piece_42 : dn cX9_piece 42 (.invokevirtual 78) 3 45 := ⟨by decide +kernel, rfl⟩
theorem dX9_piece_45 : db cX9_piece 45 (.goto 15) 3 48 (15) 60 := ⟨by decide +kernel, rfl, rfl⟩
theorem dX9_piece_48 : dn cX9_piece 48 (.aload_n 0) 1 49 := ⟨by decide +kernel, rfl⟩
theorem dX9_piece_49 : dn cX9_piece 49 (.invokevirtual 82) 3 52 := ⟨by decide +kernel, rfl⟩
theorem dX9_piece_52 : dn cX9_piece 52 (.getfield 86) 3 55 := ⟨by decide +kernel, rfl⟩
theorem dX9_piece_55 : dn cX9_piece 55 (.getfield 90) 3 58 := ⟨by decide +kernel, rfl⟩
theorem dX9_piece_58 : dn cX9_piece 58 (.iload_n 1) 1 59 := ⟨by decide +kernel, rfl⟩
theorem dX9_piece_59 : dn cX9_piece 59 (.iaload) 1 60 := ⟨by decide +kernel, rfl⟩
theorem dX9_piece_60 : dn cX9_piece 60 (.ireturn) 1 61 := ⟨by decide +kernel, rfl⟩
theorem dX9_write_0 : dn cX9_write 0 (.iload_n 1) 1 1 := ⟨by decide +kernel, rfl⟩
theorem dX9_write_1 : dn cX9_write 1 (.iload_n 3) 1 2 := ⟨by decide +kernel, rfl⟩
theorem dX9_write_2 : dn cX9_write 2 (.invokestatic 49) 3 5 := ⟨by decide +kernel, rfl⟩
theorem dX9_write_5 : db cX9_write 5 (.ifCond .eq 12) 3 8 (12) 17 := ⟨by decide +kernel, rfl, rfl⟩
theorem dX9_write_8 : dn cX9_write 8 (.iload_n 2) 1 9 := ⟨by decide +kernel, rfl⟩
theorem dX9_write_9 : dn cX9_write 9 (.iload 4) 2 11 := ⟨by decide +kernel, rfl⟩
theorem dX9_write_11 : dn cX9_write 11 (.invokestatic 49) 3 14 := ⟨by decide +kernel, rfl⟩
theorem dX9_write_14 : db cX9_write 14 (.ifCond .ne 6) 3 17 (6) 20 := ⟨by decide +kernel, rfl, rfl⟩
theorem dX9_write_17 : dn cX9_write 17 (.bipush (-2)) 2 19 := ⟨by decide +kernel, rfl⟩
theorem dX9_write_19 : dn cX9_write 19 (.ireturn) 1 20 := ⟨by decide +kernel, rfl⟩
theorem dX9_write_20 : dn cX9_write 20 (.aload_n 0) 1 21 := ⟨by decide +kernel, rfl⟩
theorem dX9_write_21 : dn cX9_write 21 (.getfield 12) 3 24 := ⟨by decide +kernel, rfl⟩
theorem dX9_write_24 : dn cX9_write 24 (.getfield 95) 3 27 := ⟨by decide +kernel, rfl⟩
theorem dX9_write_27 : dn cX9_write 27 (.invokevirtual 57) 3 30 := ⟨by decide +kernel, rfl⟩
theorem dX9_write_30 : db cX9_write 30 (.ifCond .eq 6) 3 33 (6) 36 := ⟨by decide +kernel, rfl, rfl⟩
theorem dX9_write_33 : dn cX9_write 33 (.bipush (-4)) 2 35 := ⟨by decide +kernel, rfl⟩
theorem dX9_write_35 : dn cX9_write 35 (.ireturn) 1 36 := ⟨by decide +kernel, rfl⟩
theorem dX9_write_36 : dn cX9_write 36 (.aload_n 0) 1 37 := ⟨by decide +kernel, rfl⟩
theorem dX9_write_37 : dn cX9_write 37 (.getfield 12) 3 40 := ⟨by decide +kernel, rfl⟩
theorem dX9_write_40 : dn cX9_write 40 (.getfield 95) 3 43 := ⟨by decide +kernel, rfl⟩
theorem dX9_write_43 : dn cX9_write 43 (.iload_n 1) 1 44 := ⟨by decide +kernel, rfl⟩
theorem dX9_write_44 : dn cX9_write 44 (.iload_n 2) 1 45 := ⟨by decide +kernel, rfl⟩
theorem dX9_write_45 : dn cX9_write 45 (.iload_n 3) 1 46 := ⟨by decide +kernel, rfl⟩
theorem dX9_write_46 : dn cX9_write 46 (.iload 4) 2 48 := ⟨by decide +kernel, rfl⟩
theorem dX9_write_48 : dn cX9_write 48 (.invokevirtual 63) 3 51 := ⟨by decide +kernel, rfl⟩
theorem dX9_write_51 : dn cX9_write 51 (.aload_n 0) 1 52 := ⟨by decide +kernel, rfl⟩
theorem dX9_write_52 : dn cX9_write 52 (.iconst 1) 1 53 := ⟨by decide +kernel, rfl⟩
theorem dX9_write_53 : dn cX9_write 53 (.putfield 31) 3 56 := ⟨by decide +kernel, rfl⟩
theorem dX9_write_56 : dn cX9_write 56 (.aload_n 0) 1 57 := ⟨by decide +kernel, rfl⟩
theorem dX9_write_57 : dn cX9_write 57 (.getfield 12) 3 60 := ⟨by decide +kernel, rfl⟩
theorem dX9_write_60 : dn cX9_write 60 (.getfield 95) 3 63 := ⟨by decide +kernel, rfl⟩
theorem dX9_write_63 : dn cX9_write 63 (.getfield 67) 3 66 := ⟨by decide +kernel, rfl⟩
theorem dX9_write_66 : dn cX9_write 66 (.ireturn) 1 67 := ⟨by decide +kernel, rfl⟩
theorem dX9_strike_0 : dn cX9_strike 0 (.aload_n 0) 1 1 := ⟨by decide +kernel, rfl⟩
theorem dX9_strike_1 : dn cX9_strike 1 (.getfield 12) 3 4 := ⟨by decide +kernel, rfl⟩
theorem dX9_strike_4 : dn cX9_strike 4 (.getfield 95) 3 7 := ⟨by decide +kernel, rfl⟩
theorem dX9_strike_7 : dn cX9_strike 7 (.iload_n 1) 1 8 := ⟨by decide +kernel, rfl⟩
theorem dX9_strike_8 : dn cX9_strike 8 (.invokevirtual 71) 3 11 := ⟨by decide +kernel, rfl⟩
theorem dX9_strike_11 : db cX9_strike 11 (.ifCond .ne 5) 3 14 (5) 16 := ⟨by decide +kernel, rfl, rfl⟩
theorem dX9_strike_14 : dn cX9_strike 14 (.iconst (-1)) 1 15 := ⟨by decide +kernel, rfl⟩
theorem dX9_strike_15 : dn cX9_strike 15 (.ireturn) 1 16 := ⟨by decide +kernel, rfl⟩
theorem dX9_strike_16 : dn cX9_strike 16 (.aload_n 0) 1 17 := ⟨by decide +kernel, rfl⟩
theorem dX9_strike_17 : dn cX9_strike 17 (.getfield 12) 3 20 := ⟨by decide +kernel, rfl⟩
theorem dX9_strike_20 : dn cX9_strike 20 (.getfield 95) 3 23 := ⟨by decide +kernel, rfl⟩
theorem dX9_strike_23 : dn cX9_strike 23 (.iload_n 1) 1 24 := ⟨by decide +kernel, rfl⟩
theorem dX9_strike_24 : dn cX9_strike 24 (.invokevirtual 74) 3 27 := ⟨by decide +kernel, rfl⟩
theorem dX9_strike_27 : dn cX9_strike 27 (.aload_n 0) 1 28 := ⟨by decide +kernel, rfl⟩
theorem dX9_strike_28 : dn cX9_strike 28 (.iconst 1) 1 29 := ⟨by decide +kernel, rfl⟩
theorem dX9_strike_29 : dn cX9_strike 29 (.putfield 31) 3 32 := ⟨by decide +kernel, rfl⟩
theorem dX9_strike_32 : dn cX9_strike 32 (.aload_n 0) 1 33 := ⟨by decide +kernel, rfl⟩
theorem dX9_strike_33 : dn cX9_strike 33 (.getfield 12) 3 36 := ⟨by decide +kernel, rfl⟩
theorem dX9_strike_36 : dn cX9_strike 36 (.getfield 95) 3 39 := ⟨by decide +kernel, rfl⟩
theorem dX9_strike_39 : dn cX9_strike 39 (.getfield 67) 3 42 := ⟨by decide +kernel, rfl⟩
theorem dX9_strike_42 : dn cX9_strike 42 (.ireturn) 1 43 := ⟨by decide +kernel, rfl⟩
theorem dX9_word_0 : dn cX9_word 0 (.aload_n 0) 1 1 := ⟨by decide +kernel, rfl⟩
theorem dX9_word_1 : dn cX9_word 1 (.getfield 12) 3 4 := ⟨by decide +kernel, rfl⟩
theorem dX9_word_4 : dn cX9_word 4 (.getfield 95) 3 7 := ⟨by decide +kernel, rfl⟩
theorem dX9_word_7 : dn cX9_word 7 (.iload_n 1) 1 8 := ⟨by decide +kernel, rfl⟩
theorem dX9_word_8 : dn cX9_word 8 (.invokevirtual 71) 3 11 := ⟨by decide +kernel, rfl⟩
theorem dX9_word_11 : db cX9_word 11 (.ifCond .ne 5) 3 14 (5) 16 := ⟨by decide +kernel, rfl, rfl⟩
theorem dX9_word_14 : dn cX9_word 14 (.iconst (-1)) 1 15 := ⟨by decide +kernel, rfl⟩
theorem dX9_word_15 : dn cX9_word 15 (.ireturn) 1 16 := ⟨by decide +kernel, rfl⟩
theorem dX9_word_16 : dn cX9_word 16 (.iload_n 2) 1 17 := ⟨by decide +kernel, rfl⟩
theorem dX9_word_17 : db cX9_word 17 (.ifCond .lt 8) 3 20 (8) 25 := ⟨by decide +kernel, rfl, rfl⟩
theorem dX9_word_20 : dn cX9_word 20 (.iload_n 2) 1 21 := ⟨by decide +kernel, rfl⟩
theorem dX9_word_21 : dn cX9_word 21 (.iconst 5) 1 22 := ⟨by decide +kernel, rfl⟩
theorem dX9_word_22 : db cX9_word 22 (.if_icmp .le 6) 3 25 (6) 28 := ⟨by decide +kernel, rfl, rfl⟩
theorem dX9_word_25 : dn cX9_word 25 (.bipush (-2)) 2 27 := ⟨by decide +kernel, rfl⟩
theorem dX9_word_27 : dn cX9_word 27 (.ireturn) 1 28 := ⟨by decide +kernel, rfl⟩
theorem dX9_word_28 : dn cX9_word 28 (.iload_n 2) 1 29 := ⟨by decide +kernel, rfl⟩
theorem dX9_word_29 : dn cX9_word 29 (.iconst 4) 1 30 := ⟨by decide +kernel, rfl⟩
theorem dX9_word_30 : db cX9_word 30 (.if_icmp .ge 16) 3 33 (16) 46 := ⟨by decide +kernel, rfl, rfl⟩
theorem dX9_word_33 : dn cX9_word 33 (.aload_n 0) 1 34 := ⟨by decide +kernel, rfl⟩
theorem dX9_word_34 : dn cX9_word 34 (.getfield 12) 3 37 := ⟨by decide +kernel, rfl⟩
theorem dX9_word_37 : dn cX9_word 37 (.getfield 95) 3 40 := ⟨by decide +kernel, rfl⟩
theorem dX9_word_40 : dn cX9_word 40 (.iload_n 1) 1 41 := ⟨by decide +kernel, rfl⟩
theorem dX9_word_41 : dn cX9_word 41 (.iload_n 2) 1 42 := ⟨by decide +kernel, rfl⟩
theorem dX9_word_42 : dn cX9_word 42 (.invokevirtual 78) 3 45 := ⟨by decide +kernel, rfl⟩
theorem dX9_word_45 : dn cX9_word 45 (.ireturn) 1 46 := ⟨by decide +kernel, rfl⟩
theorem dX9_word_46 : dn cX9_word 46 (.aload_n 0) 1 47 := ⟨by decide +kernel, rfl⟩
theorem dX9_word_47 : dn cX9_word 47 (.invokevirtual 82) 3 50 := ⟨by decide +kernel, rfl⟩
theorem dX9_word_50 : dn cX9_word 50 (.getfield 98) 3 53 := ⟨by decide +kernel, rfl⟩
theorem dX9_word_53 : dn cX9_word 53 (.astore_n 3) 1 54 := ⟨by decide +kernel, rfl⟩
theorem dX9_word_54 : dn cX9_word 54 (.iload_n 2) 1 55 := ⟨by decide +kernel, rfl⟩
theorem dX9_word_55 : dn cX9_word 55 (.iconst 4) 1 56 := ⟨by decide +kernel, rfl⟩
theorem dX9_word_56 : db cX9_word 56 (.if_icmp .ne 12) 3 59 (12) 68 := ⟨by decide +kernel, rfl, rfl⟩
theorem dX9_word_59 : dn cX9_word 59 (.aload_n 3) 1 60 := ⟨by decide +kernel, rfl⟩
theorem dX9_word_60 : dn cX9_word 60 (.getfield 102) 3 63 := ⟨by decide +kernel, rfl⟩
theorem dX9_word_63 : dn cX9_word 63 (.iload_n 1) 1 64 := ⟨by decide +kernel, rfl⟩
theorem dX9_word_64 : dn cX9_word 64 (.iaload) 1 65 := ⟨by decide +kernel, rfl⟩
theorem dX9_word_65 : db cX9_word 65 (.goto 9) 3 68 (9) 74 := ⟨by decide +kernel, rfl, rfl⟩
theorem dX9_word_68 : dn cX9_word 68 (.aload_n 3) 1 69 := ⟨by decide +kernel, rfl⟩
theorem dX9_word_69 : dn cX9_word 69 (.getfield 107) 3 72 := ⟨by decide +kernel, rfl⟩
theorem dX9_word_72 : dn cX9_word 72 (.iload_n 1) 1 73 := ⟨by decide +kernel, rfl⟩
theorem dX9_word_73 : dn cX9_word 73 (.iaload) 1 74 := ⟨by decide +kernel, rfl⟩
theorem dX9_word_74 : dn cX9_word 74 (.ireturn) 1 75 := ⟨by decide +kernel, rfl⟩
theorem dX9_rule_0 : dn cX9_rule 0 (.aload_n 0) 1 1 := ⟨by decide +kernel, rfl⟩
theorem dX9_rule_1 : dn cX9_rule 1 (.invokevirtual 82) 3 4 := ⟨by decide +kernel, rfl⟩
theorem dX9_rule_4 : dn cX9_rule 4 (.getfield 86) 3 7 := ⟨by decide +kernel, rfl⟩
theorem dX9_rule_7 : dn cX9_rule 7 (.astore_n 3) 1 8 := ⟨by decide +kernel, rfl⟩
theorem dX9_rule_8 : dn cX9_rule 8 (.aload_n 3) 1 9 := ⟨by decide +kernel, rfl⟩
theorem dX9_rule_9 : dn cX9_rule 9 (.iload_n 1) 1 10 := ⟨by decide +kernel, rfl⟩
theorem dX9_rule_10 : dn cX9_rule 10 (.invokevirtual 110) 3 13 := ⟨by decide +kernel, rfl⟩
theorem dX9_rule_13 : db cX9_rule 13 (.ifCond .eq 16) 3 16 (16) 29 := ⟨by decide +kernel, rfl, rfl⟩
theorem dX9_rule_16 : dn cX9_rule 16 (.aload_n 3) 1 17 := ⟨by decide +kernel, rfl⟩
theorem dX9_rule_17 : dn cX9_rule 17 (.getfield 111) 3 20 := ⟨by decide +kernel, rfl⟩
theorem dX9_rule_20 : dn cX9_rule 20 (.iload_n 1) 1 21 := ⟨by decide +kernel, rfl⟩
theorem dX9_rule_21 : dn cX9_rule 21 (.aaload) 1 22 := ⟨by decide +kernel, rfl⟩
theorem dX9_rule_22 : dn cX9_rule 22 (.iload_n 2) 1 23 := ⟨by decide +kernel, rfl⟩
theorem dX9_rule_23 : dn cX9_rule 23 (.invokevirtual 115) 3 26 := ⟨by decide +kernel, rfl⟩
theorem dX9_rule_26 : db cX9_rule 26 (.goto 4) 3 29 (4) 30 := ⟨by decide +kernel, rfl, rfl⟩
theorem dX9_rule_29 : dn cX9_rule 29 (.iconst (-1)) 1 30 := ⟨by decide +kernel, rfl⟩
theorem dX9_rule_30 : dn cX9_rule 30 (.ireturn) 1 31 := ⟨by decide +kernel, rfl⟩
theorem dX9_cross_0 : dn cX9_cross 0 (.aload_n 0) 1 1 := ⟨by decide +kernel, rfl⟩
theorem dX9_cross_1 : dn cX9_cross 1 (.invokevirtual 82) 3 4 := ⟨by decide +kernel, rfl⟩
theorem dX9_cross_4 : dn cX9_cross 4 (.getfield 86) 3 7 := ⟨by decide +kernel, rfl⟩
theorem dX9_cross_7 : dn cX9_cross 7 (.astore_n 3) 1 8 := ⟨by decide +kernel, rfl⟩
theorem dX9_cross_8 : dn cX9_cross 8 (.aload_n 3) 1 9 := ⟨by decide +kernel, rfl⟩
theorem dX9_cross_9 : dn cX9_cross 9 (.iload_n 1) 1 10 := ⟨by decide +kernel, rfl⟩
theorem dX9_cross_10 : dn cX9_cross 10 (.invokevirtual 110) 3 13 := ⟨by decide +kernel, rfl⟩
theorem dX9_cross_13 : db cX9_cross 13 (.ifCond .eq 11) 3 16 (11) 24 := ⟨by decide +kernel, rfl, rfl⟩
theorem dX9_cross_16 : dn cX9_cross 16 (.aload_n 3) 1 17 := ⟨by decide +kernel, rfl⟩
theorem dX9_cross_17 : dn cX9_cross 17 (.iload_n 2) 1 18 := ⟨by decide +kernel, rfl⟩
theorem dX9_cross_18 : dn cX9_cross 18 (.invokevirtual 110) 3 21 := ⟨by decide +kernel, rfl⟩
theorem dX9_cross_21 : db cX9_cross 21 (.ifCond .ne 5) 3 24 (5) 26 := ⟨by decide +kernel, rfl, rfl⟩
theorem dX9_cross_24 : dn cX9_cross 24 (.iconst (-1)) 1 25 := ⟨by decide +kernel, rfl⟩
theorem dX9_cross_25 : dn cX9_cross 25 (.ireturn) 1 26 := ⟨by decide +kernel, rfl⟩
theorem dX9_cross_26 : dn cX9_cross 26 (.aload_n 3) 1 27 := ⟨by decide +kernel, rfl⟩
theorem dX9_cross_27 : dn cX9_cross 27 (.getfield 111) 3 30 := ⟨by decide +kernel, rfl⟩
theorem dX9_cross_30 : dn cX9_cross 30 (.iload_n 1) 1 31 := ⟨by decide +kernel, rfl⟩
theorem dX9_cross_31 : dn cX9_cross 31 (.aaload) 1 32 := ⟨by decide +kernel, rfl⟩
theorem dX9_cross_32 : dn cX9_cross 32 (.aload_n 3) 1 33 := ⟨by decide +kernel, rfl⟩
theorem dX9_cross_33 : dn cX9_cross 33 (.getfield 111) 3 36 := ⟨by decide +kernel, rfl⟩
theorem dX9_cross_36 : dn cX9_cross 36 (.iload_n 2) 1 37 := ⟨by decide +kernel, rfl⟩
theorem dX9_cross_37 : dn cX9_cross 37 (.aaload) 1 38 := ⟨by decide +kernel, rfl⟩
theorem dX9_cross_38 : dn cX9_cross 38 (.aload_n 0) 1 39 := ⟨by decide +kernel, rfl⟩
theorem dX9_cross_39 : dn cX9_cross 39 (.getfield 12) 3 42 := ⟨by decide +kernel, rfl⟩
theorem dX9_cross_42 : dn cX9_cross 42 (.getfield 39) 3 45 := ⟨by decide +kernel, rfl⟩
theorem dX9_cross_45 : dn cX9_cross 45 (.iconst 2) 1 46 := ⟨by decide +kernel, rfl⟩
theorem dX9_cross_46 : dn cX9_cross 46 (.iaload) 1 47 := ⟨by decide +kernel, rfl⟩
theorem dX9_cross_47 : dn cX9_cross 47 (.invokevirtual 121) 3 50 := ⟨by decide +kernel, rfl⟩
theorem dX9_cross_50 : db cX9_cross 50 (.ifCond .eq 7) 3 53 (7) 57 := ⟨by decide +kernel, rfl, rfl⟩
theorem dX9_cross_53 : dn cX9_cross 53 (.iconst 1) 1 54 := ⟨by decide +kernel, rfl⟩
theorem dX9_cross_54 : db cX9_cross 54 (.goto 4) 3 57 (4) 58 := ⟨by decide +kernel, rfl, rfl⟩
theorem dX9_cross_57 : dn cX9_cross 57 (.iconst 0) 1 58 := ⟨by decide +kernel, rfl⟩
theorem dX9_cross_58 : dn cX9_cross 58 (.ireturn) 1 59 := ⟨by decide +kernel, rfl⟩
theorem dX9_table_0 : dn cX9_table 0 (.aload_n 0) 1 1 := ⟨by decide +kernel, rfl⟩
theorem dX9_table_1 : dn cX9_table 1 (.invokevirtual 82) 3 4 := ⟨by decide +kernel, rfl⟩
theorem dX9_table_4 : dn cX9_table 4 (.astore_n 3) 1 5 := ⟨by decide +kernel, rfl⟩
theorem dX9_table_5 : dn cX9_table 5 (.aload_n 3) 1 6 := ⟨by decide +kernel, rfl⟩
theorem dX9_table_6 : dn cX9_table 6 (.iload_n 1) 1 7 := ⟨by decide +kernel, rfl⟩
theorem dX9_table_7 : dn cX9_table 7 (.invokevirtual 125) 3 10 := ⟨by decide +kernel, rfl⟩
theorem dX9_table_10 : db cX9_table 10 (.ifCond .eq 16) 3 13 (16) 26 := ⟨by decide +kernel, rfl, rfl⟩
theorem dX9_table_13 : dn cX9_table 13 (.aload_n 3) 1 14 := ⟨by decide +kernel, rfl⟩
theorem dX9_table_14 : dn cX9_table 14 (.getfield 126) 3 17 := ⟨by decide +kernel, rfl⟩
theorem dX9_table_17 : dn cX9_table 17 (.iload_n 1) 1 18 := ⟨by decide +kernel, rfl⟩
theorem dX9_table_18 : dn cX9_table 18 (.aaload) 1 19 := ⟨by decide +kernel, rfl⟩
theorem dX9_table_19 : dn cX9_table 19 (.iload_n 2) 1 20 := ⟨by decide +kernel, rfl⟩
theorem dX9_table_20 : dn cX9_table 20 (.invokevirtual 129) 3 23 := ⟨by decide +kernel, rfl⟩
theorem dX9_table_23 : db cX9_table 23 (.goto 4) 3 26 (4) 27 := ⟨by decide +kernel, rfl, rfl⟩
theorem dX9_table_26 : dn cX9_table 26 (.iconst (-1)) 1 27 := ⟨by decide +kernel, rfl⟩
theorem dX9_table_27 : dn cX9_table 27 (.ireturn) 1 28 := ⟨by decide +kernel, rfl⟩
theorem dX9_edge_0 : dn cX9_edge 0 (.aload_n 0) 1 1 := ⟨by decide +kernel, rfl⟩
theorem dX9_edge_1 : dn cX9_edge 1 (.invokevirtual 82) 3 4 := ⟨by decide +kernel, rfl⟩
theorem dX9_edge_4 : dn cX9_edge 4 (.astore 4) 2 6 := ⟨by decide +kernel, rfl⟩
theorem dX9_edge_6 : dn cX9_edge 6 (.aload 4) 2 8 := ⟨by decide +kernel, rfl⟩
theorem dX9_edge_8 : dn cX9_edge 8 (.iload_n 1) 1 9 := ⟨by decide +kernel, rfl⟩
theorem dX9_edge_9 : dn cX9_edge 9 (.invokevirtual 125) 3 12 := ⟨by decide +kernel, rfl⟩
theorem dX9_edge_12 : db cX9_edge 12 (.ifCond .ne 5) 3 15 (5) 17 := ⟨by decide +kernel, rfl, rfl⟩
theorem dX9_edge_15 : dn cX9_edge 15 (.iconst (-1)) 1 16 := ⟨by decide +kernel, rfl⟩
theorem dX9_edge_16 : dn cX9_edge 16 (.ireturn) 1 17 := ⟨by decide +kernel, rfl⟩
theorem dX9_edge_17 : dn cX9_edge 17 (.iload_n 2) 1 18 := ⟨by decide +kernel, rfl⟩
theorem dX9_edge_18 : dn cX9_edge 18 (.invokestatic 42) 3 21 := ⟨by decide +kernel, rfl⟩
theorem dX9_edge_21 : db cX9_edge 21 (.ifCond .ne 6) 3 24 (6) 27 := ⟨by decide +kernel, rfl, rfl⟩
theorem dX9_edge_24 : dn cX9_edge 24 (.bipush (-2)) 2 26 := ⟨by decide +kernel, rfl⟩
theorem dX9_edge_26 : dn cX9_edge 26 (.ireturn) 1 27 := ⟨by decide +kernel, rfl⟩
theorem dX9_edge_27 : dn cX9_edge 27 (.aload 4) 2 29 := ⟨by decide +kernel, rfl⟩
theorem dX9_edge_29 : dn cX9_edge 29 (.getfield 126) 3 32 := ⟨by decide +kernel, rfl⟩
theorem dX9_edge_32 : dn cX9_edge 32 (.iload_n 1) 1 33 := ⟨by decide +kernel, rfl⟩
theorem dX9_edge_33 : dn cX9_edge 33 (.aaload) 1 34 := ⟨by decide +kernel, rfl⟩
theorem dX9_edge_34 : dn cX9_edge 34 (.getfield 132) 3 37 := ⟨by decide +kernel, rfl⟩
theorem dX9_edge_37 : dn cX9_edge 37 (.iload_n 2) 1 38 := ⟨by decide +kernel, rfl⟩
theorem dX9_edge_38 : dn cX9_edge 38 (.iload_n 3) 1 39 := ⟨by decide +kernel, rfl⟩
theorem dX9_edge_39 : dn cX9_edge 39 (.invokevirtual 136) 3 42 := ⟨by decide +kernel, rfl⟩
theorem dX9_edge_42 : dn cX9_edge 42 (.ireturn) 1 43 := ⟨by decide +kernel, rfl⟩
theorem dX9_ruled_0 : dn cX9_ruled 0 (.aload_n 0) 1 1 := ⟨by decide +kernel, rfl⟩
theorem dX9_ruled_1 : dn cX9_ruled 1 (.invokevirtual 82) 3 4 := ⟨by decide +kernel, rfl⟩
theorem dX9_ruled_4 : dn cX9_ruled 4 (.astore 5) 2 6 := ⟨by decide +kernel, rfl⟩
theorem dX9_ruled_6 : dn cX9_ruled 6 (.aload 5) 2 8 := ⟨by decide +kernel, rfl⟩
theorem dX9_ruled_8 : dn cX9_ruled 8 (.iload_n 1) 1 9 := ⟨by decide +kernel, rfl⟩
theorem dX9_ruled_9 : dn cX9_ruled 9 (.invokevirtual 125) 3 12 := ⟨by decide +kernel, rfl⟩
theorem dX9_ruled_12 : db cX9_ruled 12 (.ifCond .ne 5) 3 15 (5) 17 := ⟨by decide +kernel, rfl, rfl⟩
theorem dX9_ruled_15 : dn cX9_ruled 15 (.iconst (-1)) 1 16 := ⟨by decide +kernel, rfl⟩
theorem dX9_ruled_16 : dn cX9_ruled 16 (.ireturn) 1 17 := ⟨by decide +kernel, rfl⟩
theorem dX9_ruled_17 : dn cX9_ruled 17 (.iload_n 2) 1 18 := ⟨by decide +kernel, rfl⟩
theorem dX9_ruled_18 : dn cX9_ruled 18 (.invokestatic 42) 3 21 := ⟨by decide +kernel, rfl⟩
theorem dX9_ruled_21 : db cX9_ruled 21 (.ifCond .ne 6) 3 24 (6) 27 := ⟨by decide +kernel, rfl, rfl⟩
theorem dX9_ruled_24 : dn cX9_ruled 24 (.bipush (-2)) 2 26 := ⟨by decide +kernel, rfl⟩
theorem dX9_ruled_26 : dn cX9_ruled 26 (.ireturn) 1 27 := ⟨by decide +kernel, rfl⟩
theorem dX9_ruled_27 : dn cX9_ruled 27 (.aload 5) 2 29 := ⟨by decide +kernel, rfl⟩
theorem dX9_ruled_29 : dn cX9_ruled 29 (.getfield 126) 3 32 := ⟨by decide +kernel, rfl⟩
theorem dX9_ruled_32 : dn cX9_ruled 32 (.iload_n 1) 1 33 := ⟨by decide +kernel, rfl⟩
theorem dX9_ruled_33 : dn cX9_ruled 33 (.aaload) 1 34 := ⟨by decide +kernel, rfl⟩
theorem dX9_ruled_34 : dn cX9_ruled 34 (.astore 6) 2 36 := ⟨by decide +kernel, rfl⟩
theorem dX9_ruled_36 : dn cX9_ruled 36 (.aload 6) 2 38 := ⟨by decide +kernel, rfl⟩
theorem dX9_ruled_38 : dn cX9_ruled 38 (.iload_n 2) 1 39 := ⟨by decide +kernel, rfl⟩
theorem dX9_ruled_39 : dn cX9_ruled 39 (.iload_n 3) 1 40 := ⟨by decide +kernel, rfl⟩
theorem dX9_ruled_40 : dn cX9_ruled 40 (.iload 4) 2 42 := ⟨by decide +kernel, rfl⟩
theorem dX9_ruled_42 : dn cX9_ruled 42 (.invokevirtual 141) 3 45 := ⟨by decide +kernel, rfl⟩
theorem dX9_ruled_45 : db cX9_ruled 45 (.ifCond .ge 5) 3 48 (5) 50 := ⟨by decide +kernel, rfl, rfl⟩
theorem dX9_ruled_48 : dn cX9_ruled 48 (.iconst (-1)) 1 49 := ⟨by decide +kernel, rfl⟩
theorem dX9_ruled_49 : dn cX9_ruled 49 (.ireturn) 1 50 := ⟨by decide +kernel, rfl⟩
theorem dX9_ruled_50 : dn cX9_ruled 50 (.aload 6) 2 52 := ⟨by decide +kernel, rfl⟩
theorem dX9_ruled_52 : dn cX9_ruled 52 (.iload_n 2) 1 53 := ⟨by decide +kernel, rfl⟩
theorem dX9_ruled_53 : dn cX9_ruled 53 (.iload_n 3) 1 54 := ⟨by decide +kernel, rfl⟩
theorem dX9_ruled_54 : dn cX9_ruled 54 (.iload 4) 2 56 := ⟨by decide +kernel, rfl⟩
theorem dX9_ruled_56 : dn cX9_ruled 56 (.invokevirtual 145) 3 59 := ⟨by decide +kernel, rfl⟩
theorem dX9_ruled_59 : db cX9_ruled 59 (.ifCond .eq 7) 3 62 (7) 66 := ⟨by decide +kernel, rfl, rfl⟩
theorem dX9_ruled_62 : dn cX9_ruled 62 (.iconst 1) 1 63 := ⟨by decide +kernel, rfl⟩
theorem dX9_ruled_63 : db cX9_ruled 63 (.goto 4) 3 66 (4) 67 := ⟨by decide +kernel, rfl, rfl⟩
theorem dX9_ruled_66 : dn cX9_ruled 66 (.iconst 0) 1 67 := ⟨by decide +kernel, rfl⟩
theorem dX9_ruled_67 : dn cX9_ruled 67 (.ireturn) 1 68 := ⟨by decide +kernel, rfl⟩
theorem dX9_at_0 : dn cX9_at 0 (.aload_n 0) 1 1 := ⟨by decide +kernel, rfl⟩
theorem dX9_at_1 : dn cX9_at 1 (.invokevirtual 82) 3 4 := ⟨by decide +kernel, rfl⟩
theorem dX9_at_4 : dn cX9_at 4 (.astore 4) 2 6 := ⟨by decide +kernel, rfl⟩
theorem dX9_at_6 : dn cX9_at 6 (.aload 4) 2 8 := ⟨by decide +kernel, rfl⟩
theorem dX9_at_8 : dn cX9_at 8 (.iload_n 1) 1 9 := ⟨by decide +kernel, rfl⟩
theorem dX9_at_9 : dn cX9_at 9 (.invokevirtual 125) 3 12 := ⟨by decide +kernel, rfl⟩
theorem dX9_at_12 : db cX9_at 12 (.ifCond .ne 5) 3 15 (5) 17 := ⟨by decide +kernel, rfl, rfl⟩
theorem dX9_at_15 : dn cX9_at 15 (.iconst (-1)) 1 16 := ⟨by decide +kernel, rfl⟩
theorem dX9_at_16 : dn cX9_at 16 (.ireturn) 1 17 := ⟨by decide +kernel, rfl⟩
theorem dX9_at_17 : dn cX9_at 17 (.aload 4) 2 19 := ⟨by decide +kernel, rfl⟩
theorem dX9_at_19 : dn cX9_at 19 (.getfield 126) 3 22 := ⟨by decide +kernel, rfl⟩
theorem dX9_at_22 : dn cX9_at 22 (.iload_n 1) 1 23 := ⟨by decide +kernel, rfl⟩
theorem dX9_at_23 : dn cX9_at 23 (.aaload) 1 24 := ⟨by decide +kernel, rfl⟩
theorem dX9_at_24 : dn cX9_at 24 (.iload_n 2) 1 25 := ⟨by decide +kernel, rfl⟩
theorem dX9_at_25 : dn cX9_at 25 (.iload_n 3) 1 26 := ⟨by decide +kernel, rfl⟩
theorem dX9_at_26 : dn cX9_at 26 (.invokevirtual 149) 3 29 := ⟨by decide +kernel, rfl⟩
theorem dX9_at_29 : dn cX9_at 29 (.istore 5) 2 31 := ⟨by decide +kernel, rfl⟩
theorem dX9_at_31 : dn cX9_at 31 (.iload 5) 2 33 := ⟨by decide +kernel, rfl⟩
theorem dX9_at_33 : db cX9_at 33 (.ifCond .ge 7) 3 36 (7) 40 := ⟨by decide +kernel, rfl, rfl⟩
theorem dX9_at_36 : dn cX9_at 36 (.iconst (-1)) 1 37 := ⟨by decide +kernel, rfl⟩
theorem dX9_at_37 : db cX9_at 37 (.goto 5) 3 40 (5) 42 := ⟨by decide +kernel, rfl, rfl⟩
theorem dX9_at_40 : dn cX9_at 40 (.iload 5) 2 42 := ⟨by decide +kernel, rfl⟩
theorem dX9_at_42 : dn cX9_at 42 (.ireturn) 1 43 := ⟨by decide +kernel, rfl⟩
theorem dX9_cell_0 : dn cX9_cell 0 (.aload_n 0) 1 1 := ⟨by decide +kernel, rfl⟩
theorem dX9_cell_1 : dn cX9_cell 1 (.invokevirtual 82) 3 4 := ⟨by decide +kernel, rfl⟩
theorem dX9_cell_4 : dn cX9_cell 4 (.astore 4) 2 6 := ⟨by decide +kernel, rfl⟩
theorem dX9_cell_6 : dn cX9_cell 6 (.aload 4) 2 8 := ⟨by decide +kernel, rfl⟩
theorem dX9_cell_8 : dn cX9_cell 8 (.iload_n 1) 1 9 := ⟨by decide +kernel, rfl⟩
theorem dX9_cell_9 : dn cX9_cell 9 (.invokevirtual 125) 3 12 := ⟨by decide +kernel, rfl⟩
theorem dX9_cell_12 : db cX9_cell 12 (.ifCond .eq 17) 3 15 (17) 29 := ⟨by decide +kernel, rfl, rfl⟩
theorem dX9_cell_15 : dn cX9_cell 15 (.aload 4) 2 17 := ⟨by decide +kernel, rfl⟩
theorem dX9_cell_17 : dn cX9_cell 17 (.getfield 126) 3 20 := ⟨by decide +kernel, rfl⟩
theorem dX9_cell_20 : dn cX9_cell 20 (.iload_n 1) 1 21 := ⟨by decide +kernel, rfl⟩
theorem dX9_cell_21 : dn cX9_cell 21 (.aaload) 1 22 := ⟨by decide +kernel, rfl⟩
theorem dX9_cell_22 : dn cX9_cell 22 (.iload_n 2) 1 23 := ⟨by decide +kernel, rfl⟩
theorem dX9_cell_23 : dn cX9_cell 23 (.invokevirtual 152) 3 26 := ⟨by decide +kernel, rfl⟩
theorem dX9_cell_26 : db cX9_cell 26 (.ifCond .ne 5) 3 29 (5) 31 := ⟨by decide +kernel, rfl, rfl⟩
theorem dX9_cell_29 : dn cX9_cell 29 (.iconst (-1)) 1 30 := ⟨by decide +kernel, rfl⟩
theorem dX9_cell_30 : dn cX9_cell 30 (.ireturn) 1 31 := ⟨by decide +kernel, rfl⟩
theorem dX9_cell_31 : dn cX9_cell 31 (.iload_n 3) 1 32 := ⟨by decide +kernel, rfl⟩
theorem dX9_cell_32 : db cX9_cell 32 (.ifCond .lt 9) 3 35 (9) 41 := ⟨by decide +kernel, rfl, rfl⟩
theorem dX9_cell_35 : dn cX9_cell 35 (.iload_n 3) 1 36 := ⟨by decide +kernel, rfl⟩
theorem dX9_cell_36 : dn cX9_cell 36 (.bipush 7) 2 38 := ⟨by decide +kernel, rfl⟩
theorem dX9_cell_38 : db cX9_cell 38 (.if_icmp .lt 6) 3 41 (6) 44 := ⟨by decide +kernel, rfl, rfl⟩
theorem dX9_cell_41 : dn cX9_cell 41 (.bipush (-2)) 2 43 := ⟨by decide +kernel, rfl⟩
theorem dX9_cell_43 : dn cX9_cell 43 (.ireturn) 1 44 := ⟨by decide +kernel, rfl⟩
theorem dX9_cell_44 : dn cX9_cell 44 (.aload 4) 2 46 := ⟨by decide +kernel, rfl⟩
theorem dX9_cell_46 : dn cX9_cell 46 (.getfield 126) 3 49 := ⟨by decide +kernel, rfl⟩
theorem dX9_cell_49 : dn cX9_cell 49 (.iload_n 1) 1 50 := ⟨by decide +kernel, rfl⟩
theorem dX9_cell_50 : dn cX9_cell 50 (.aaload) 1 51 := ⟨by decide +kernel, rfl⟩
theorem dX9_cell_51 : dn cX9_cell 51 (.getfield 155) 3 54 := ⟨by decide +kernel, rfl⟩
theorem dX9_cell_54 : dn cX9_cell 54 (.iload_n 3) 1 55 := ⟨by decide +kernel, rfl⟩
theorem dX9_cell_55 : dn cX9_cell 55 (.aaload) 1 56 := ⟨by decide +kernel, rfl⟩
theorem dX9_cell_56 : dn cX9_cell 56 (.iload_n 2) 1 57 := ⟨by decide +kernel, rfl⟩
theorem dX9_cell_57 : dn cX9_cell 57 (.iaload) 1 58 := ⟨by decide +kernel, rfl⟩
theorem dX9_cell_58 : dn cX9_cell 58 (.ireturn) 1 59 := ⟨by decide +kernel, rfl⟩
theorem dX9_read_0 : dn cX9_read 0 (.aload_n 0) 1 1 := ⟨by decide +kernel, rfl⟩
theorem dX9_read_1 : dn cX9_read 1 (.invokevirtual 82) 3 4 := ⟨by decide +kernel, rfl⟩
theorem dX9_read_4 : dn cX9_read 4 (.astore 4) 2 6 := ⟨by decide +kernel, rfl⟩
theorem dX9_read_6 : dn cX9_read 6 (.aload 4) 2 8 := ⟨by decide +kernel, rfl⟩
theorem dX9_read_8 : dn cX9_read 8 (.iload_n 1) 1 9 := ⟨by decide +kernel, rfl⟩
theorem dX9_read_9 : dn cX9_read 9 (.invokevirtual 125) 3 12 := ⟨by decide +kernel, rfl⟩
theorem dX9_read_12 : db cX9_read 12 (.ifCond .eq 17) 3 15 (17) 29 := ⟨by decide +kernel, rfl, rfl⟩
theorem dX9_read_15 : dn cX9_read 15 (.aload 4) 2 17 := ⟨by decide +kernel, rfl⟩
theorem dX9_read_17 : dn cX9_read 17 (.getfield 126) 3 20 := ⟨by decide +kernel, rfl⟩
theorem dX9_read_20 : dn cX9_read 20 (.iload_n 1) 1 21 := ⟨by decide +kernel, rfl⟩
theorem dX9_read_21 : dn cX9_read 21 (.aaload) 1 22 := ⟨by decide +kernel, rfl⟩
theorem dX9_read_22 : dn cX9_read 22 (.iload_n 2) 1 23 := ⟨by decide +kernel, rfl⟩
theorem dX9_read_23 : dn cX9_read 23 (.invokevirtual 152) 3 26 := ⟨by decide +kernel, rfl⟩
theorem dX9_read_26 : db cX9_read 26 (.ifCond .ne 5) 3 29 (5) 31 := ⟨by decide +kernel, rfl, rfl⟩
theorem dX9_read_29 : dn cX9_read 29 (.iconst (-1)) 1 30 := ⟨by decide +kernel, rfl⟩
theorem dX9_read_30 : dn cX9_read 30 (.ireturn) 1 31 := ⟨by decide +kernel, rfl⟩
theorem dX9_read_31 : dn cX9_read 31 (.aload 4) 2 33 := ⟨by decide +kernel, rfl⟩
theorem dX9_read_33 : dn cX9_read 33 (.getfield 98) 3 36 := ⟨by decide +kernel, rfl⟩
theorem dX9_read_36 : dn cX9_read 36 (.iload_n 1) 1 37 := ⟨by decide +kernel, rfl⟩
theorem dX9_read_37 : dn cX9_read 37 (.iload_n 2) 1 38 := ⟨by decide +kernel, rfl⟩
theorem dX9_read_38 : dn cX9_read 38 (.iload_n 3) 1 39 := ⟨by decide +kernel, rfl⟩
theorem dX9_read_39 : dn cX9_read 39 (.invokevirtual 158) 3 42 := ⟨by decide +kernel, rfl⟩
theorem dX9_read_42 : dn cX9_read 42 (.ireturn) 1 43 := ⟨by decide +kernel, rfl⟩
theorem dX9_missed_0 : dn cX9_missed 0 (.aload_n 0) 1 1 := ⟨by decide +kernel, rfl⟩
theorem dX9_missed_1 : dn cX9_missed 1 (.invokevirtual 82) 3 4 := ⟨by decide +kernel, rfl⟩
theorem dX9_missed_4 : dn cX9_missed 4 (.astore 4) 2 6 := ⟨by decide +kernel, rfl⟩
theorem dX9_missed_6 : dn cX9_missed 6 (.aload 4) 2 8 := ⟨by decide +kernel, rfl⟩
theorem dX9_missed_8 : dn cX9_missed 8 (.iload_n 1) 1 9 := ⟨by decide +kernel, rfl⟩
theorem dX9_missed_9 : dn cX9_missed 9 (.invokevirtual 125) 3 12 := ⟨by decide +kernel, rfl⟩
theorem dX9_missed_12 : db cX9_missed 12 (.ifCond .ne 5) 3 15 (5) 17 := ⟨by decide +kernel, rfl, rfl⟩
theorem dX9_missed_15 : dn cX9_missed 15 (.iconst (-1)) 1 16 := ⟨by decide +kernel, rfl⟩
theorem dX9_missed_16 : dn cX9_missed 16 (.ireturn) 1 17 := ⟨by decide +kernel, rfl⟩
theorem dX9_missed_17 : dn cX9_missed 17 (.iload_n 3) 1 18 := ⟨by decide +kernel, rfl⟩
theorem dX9_missed_18 : db cX9_missed 18 (.ifCond .lt 8) 3 21 (8) 26 := ⟨by decide +kernel, rfl, rfl⟩
theorem dX9_missed_21 : dn cX9_missed 21 (.iload_n 3) 1 22 := ⟨by decide +kernel, rfl⟩
theorem dX9_missed_22 : dn cX9_missed 22 (.iconst 3) 1 23 := ⟨by decide +kernel, rfl⟩
theorem dX9_missed_23 : db cX9_missed 23 (.if_icmp .lt 6) 3 26 (6) 29 := ⟨by decide +kernel, rfl, rfl⟩
theorem dX9_missed_26 : dn cX9_missed 26 (.bipush (-2)) 2 28 := ⟨by decide +kernel, rfl⟩
theorem dX9_missed_28 : dn cX9_missed 28 (.ireturn) 1 29 := ⟨by decide +kernel, rfl⟩
theorem dX9_missed_29 : dn cX9_missed 29 (.aload 4) 2 31 := ⟨by decide +kernel, rfl⟩
theorem dX9_missed_31 : dn cX9_missed 31 (.getfield 126) 3 34 := ⟨by decide +kernel, rfl⟩
theorem dX9_missed_34 : dn cX9_missed 34 (.iload_n 1) 1 35 := ⟨by decide +kernel, rfl⟩
theorem dX9_missed_35 : dn cX9_missed 35 (.aaload) 1 36 := ⟨by decide +kernel, rfl⟩
theorem dX9_missed_36 : dn cX9_missed 36 (.astore 5) 2 38 := ⟨by decide +kernel, rfl⟩
theorem dX9_missed_38 : dn cX9_missed 38 (.iload_n 2) 1 39 := ⟨by decide +kernel, rfl⟩
theorem dX9_missed_39 : db cX9_missed 39 (.ifCond .lt 24) 3 42 (24) 63 := ⟨by decide +kernel, rfl, rfl⟩
theorem dX9_missed_42 : dn cX9_missed 42 (.iload_n 2) 1 43 := ⟨by decide +kernel, rfl⟩
theorem dX9_missed_43 : dn cX9_missed 43 (.aload 5) 2 45 := ⟨by decide +kernel, rfl⟩
theorem dX9_missed_45 : dn cX9_missed 45 (.getfield 161) 3 48 := ⟨by decide +kernel, rfl⟩
theorem dX9_missed_48 : db cX9_missed 48 (.if_icmp .ge 15) 3 51 (15) 63 := ⟨by decide +kernel, rfl, rfl⟩
theorem dX9_missed_51 : dn cX9_missed 51 (.aload 5) 2 53 := ⟨by decide +kernel, rfl⟩
theorem dX9_missed_53 : dn cX9_missed 53 (.getfield 164) 3 56 := ⟨by decide +kernel, rfl⟩
theorem dX9_missed_56 : dn cX9_missed 56 (.iload_n 3) 1 57 := ⟨by decide +kernel, rfl⟩
theorem dX9_missed_57 : dn cX9_missed 57 (.aaload) 1 58 := ⟨by decide +kernel, rfl⟩
theorem dX9_missed_58 : dn cX9_missed 58 (.iload_n 2) 1 59 := ⟨by decide +kernel, rfl⟩
theorem dX9_missed_59 : dn cX9_missed 59 (.iaload) 1 60 := ⟨by decide +kernel, rfl⟩
theorem dX9_missed_60 : db cX9_missed 60 (.goto 5) 3 63 (5) 65 := ⟨by decide +kernel, rfl, rfl⟩
theorem dX9_missed_63 : dn cX9_missed 63 (.bipush (-6)) 2 65 := ⟨by decide +kernel, rfl⟩
theorem dX9_missed_65 : dn cX9_missed 65 (.ireturn) 1 66 := ⟨by decide +kernel, rfl⟩
theorem dX9_mend_0 : dn cX9_mend 0 (.aload_n 0) 1 1 := ⟨by decide +kernel, rfl⟩
theorem dX9_mend_1 : dn cX9_mend 1 (.invokevirtual 82) 3 4 := ⟨by decide +kernel, rfl⟩
theorem dX9_mend_4 : dn cX9_mend 4 (.astore_n 2) 1 5 := ⟨by decide +kernel, rfl⟩
theorem dX9_mend_5 : dn cX9_mend 5 (.aload_n 2) 1 6 := ⟨by decide +kernel, rfl⟩
theorem dX9_mend_6 : dn cX9_mend 6 (.iload_n 1) 1 7 := ⟨by decide +kernel, rfl⟩
theorem dX9_mend_7 : dn cX9_mend 7 (.invokevirtual 125) 3 10 := ⟨by decide +kernel, rfl⟩
theorem dX9_mend_10 : db cX9_mend 10 (.ifCond .ne 5) 3 13 (5) 15 := ⟨by decide +kernel, rfl, rfl⟩
theorem dX9_mend_13 : dn cX9_mend 13 (.iconst (-1)) 1 14 := ⟨by decide +kernel, rfl⟩
theorem dX9_mend_14 : dn cX9_mend 14 (.ireturn) 1 15 := ⟨by decide +kernel, rfl⟩
theorem dX9_mend_15 : dn cX9_mend 15 (.aload_n 2) 1 16 := ⟨by decide +kernel, rfl⟩
theorem dX9_mend_16 : dn cX9_mend 16 (.getfield 126) 3 19 := ⟨by decide +kernel, rfl⟩
theorem dX9_mend_19 : dn cX9_mend 19 (.iload_n 1) 1 20 := ⟨by decide +kernel, rfl⟩
theorem dX9_mend_20 : dn cX9_mend 20 (.aaload) 1 21 := ⟨by decide +kernel, rfl⟩
theorem dX9_mend_21 : dn cX9_mend 21 (.astore_n 3) 1 22 := ⟨by decide +kernel, rfl⟩
theorem dX9_mend_22 : dn cX9_mend 22 (.aload_n 3) 1 23 := ⟨by decide +kernel, rfl⟩
theorem dX9_mend_23 : dn cX9_mend 23 (.getfield 161) 3 26 := ⟨by decide +kernel, rfl⟩
theorem dX9_mend_26 : db cX9_mend 26 (.ifCond .ne 6) 3 29 (6) 32 := ⟨by decide +kernel, rfl, rfl⟩
theorem dX9_mend_29 : dn cX9_mend 29 (.bipush (-5)) 2 31 := ⟨by decide +kernel, rfl⟩
theorem dX9_mend_31 : dn cX9_mend 31 (.ireturn) 1 32 := ⟨by decide +kernel, rfl⟩
theorem dX9_mend_32 : dn cX9_mend 32 (.aload_n 0) 1 33 := ⟨by decide +kernel, rfl⟩
theorem dX9_mend_33 : dn cX9_mend 33 (.getfield 12) 3 36 := ⟨by decide +kernel, rfl⟩
theorem dX9_mend_36 : dn cX9_mend 36 (.getfield 53) 3 39 := ⟨by decide +kernel, rfl⟩
theorem dX9_mend_39 : dn cX9_mend 39 (.getfield 67) 3 42 := ⟨by decide +kernel, rfl⟩
theorem dX9_mend_42 : dn cX9_mend 42 (.aload_n 3) 1 43 := ⟨by decide +kernel, rfl⟩
theorem dX9_mend_43 : dn cX9_mend 43 (.getfield 161) 3 46 := ⟨by decide +kernel, rfl⟩
theorem dX9_mend_46 : dn cX9_mend 46 (.iadd) 1 47 := ⟨by decide +kernel, rfl⟩
theorem dX9_mend_47 : dn cX9_mend 47 (.bipush 24) 2 49 := ⟨by decide +kernel, rfl⟩
theorem dX9_mend_49 : db cX9_mend 49 (.if_icmp .le 6) 3 52 (6) 55 := ⟨by decide +kernel, rfl, rfl⟩
theorem dX9_mend_52 : dn cX9_mend 52 (.bipush (-4)) 2 54 := ⟨by decide +kernel, rfl⟩
theorem dX9_mend_54 : dn cX9_mend 54 (.ireturn) 1 55 := ⟨by decide +kernel, rfl⟩
theorem dX9_mend_55 : dn cX9_mend 55 (.iconst 0) 1 56 := ⟨by decide +kernel, rfl⟩
theorem dX9_mend_56 : dn cX9_mend 56 (.istore 4) 2 58 := ⟨by decide +kernel, rfl⟩
theorem dX9_mend_58 : dn cX9_mend 58 (.iload 4) 2 60 := ⟨by decide +kernel, rfl⟩
theorem dX9_mend_60 : dn cX9_mend 60 (.aload_n 3) 1 61 := ⟨by decide +kernel, rfl⟩
theorem dX9_mend_61 : dn cX9_mend 61 (.getfield 161) 3 64 := ⟨by decide +kernel, rfl⟩
theorem dX9_mend_64 : db cX9_mend 64 (.if_icmp .ge 22) 3 67 (22) 86 := ⟨by decide +kernel, rfl, rfl⟩
theorem dX9_mend_67 : dn cX9_mend 67 (.aload_n 3) 1 68 := ⟨by decide +kernel, rfl⟩
theorem dX9_mend_68 : dn cX9_mend 68 (.iload 4) 2 70 := ⟨by decide +kernel, rfl⟩
theorem dX9_mend_70 : dn cX9_mend 70 (.aload_n 0) 1 71 := ⟨by decide +kernel, rfl⟩
theorem dX9_mend_71 : dn cX9_mend 71 (.getfield 12) 3 74 := ⟨by decide +kernel, rfl⟩
theorem dX9_mend_74 : dn cX9_mend 74 (.getfield 53) 3 77 := ⟨by decide +kernel, rfl⟩
theorem dX9_mend_77 : dn cX9_mend 77 (.invokevirtual 167) 3 80 := ⟨by decide +kernel, rfl⟩
theorem dX9_mend_80 : dn cX9_mend 80 (.iinc 4 1) 3 83 := ⟨by decide +kernel, rfl⟩
theorem dX9_mend_83 : db cX9_mend 83 (.goto (-25)) 3 86 (-25) 58 := ⟨by decide +kernel, rfl, rfl⟩
theorem dX9_mend_86 : dn cX9_mend 86 (.aload_n 0) 1 87 := ⟨by decide +kernel, rfl⟩
theorem dX9_mend_87 : dn cX9_mend 87 (.iconst 1) 1 88 := ⟨by decide +kernel, rfl⟩
theorem dX9_mend_88 : dn cX9_mend 88 (.putfield 31) 3 91 := ⟨by decide +kernel, rfl⟩
theorem dX9_mend_91 : dn cX9_mend 91 (.aload_n 0) 1 92 := ⟨by decide +kernel, rfl⟩
theorem dX9_mend_92 : dn cX9_mend 92 (.getfield 12) 3 95 := ⟨by decide +kernel, rfl⟩
theorem dX9_mend_95 : dn cX9_mend 95 (.getfield 53) 3 98 := ⟨by decide +kernel, rfl⟩
theorem dX9_mend_98 : dn cX9_mend 98 (.getfield 67) 3 101 := ⟨by decide +kernel, rfl⟩
theorem dX9_mend_101 : dn cX9_mend 101 (.ireturn) 1 102 := ⟨by decide +kernel, rfl⟩
theorem dX9_heading_0 : dn cX9_heading 0 (.aload_n 0) 1 1 := ⟨by decide +kernel, rfl⟩
theorem dX9_heading_1 : dn cX9_heading 1 (.invokevirtual 82) 3 4 := ⟨by decide +kernel, rfl⟩
theorem dX9_heading_4 : dn cX9_heading 4 (.astore 4) 2 6 := ⟨by decide +kernel, rfl⟩
theorem dX9_heading_6 : dn cX9_heading 6 (.aload 4) 2 8 := ⟨by decide +kernel, rfl⟩
theorem dX9_heading_8 : dn cX9_heading 8 (.iload_n 1) 1 9 := ⟨by decide +kernel, rfl⟩
theorem dX9_heading_9 : dn cX9_heading 9 (.invokevirtual 125) 3 12 := ⟨by decide +kernel, rfl⟩
theorem dX9_heading_12 : db cX9_heading 12 (.ifCond .eq 21) 3 15 (21) 33 := ⟨by decide +kernel, rfl, rfl⟩
theorem dX9_heading_15 : dn cX9_heading 15 (.iload_n 2) 1 16 := ⟨by decide +kernel, rfl⟩
theorem dX9_heading_16 : db cX9_heading 16 (.ifCond .lt 17) 3 19 (17) 33 := ⟨by decide +kernel, rfl, rfl⟩
theorem dX9_heading_19 : dn cX9_heading 19 (.iload_n 2) 1 20 := ⟨by decide +kernel, rfl⟩
theorem dX9_heading_20 : dn cX9_heading 20 (.aload 4) 2 22 := ⟨by decide +kernel, rfl⟩
theorem dX9_heading_22 : dn cX9_heading 22 (.getfield 126) 3 25 := ⟨by decide +kernel, rfl⟩
theorem dX9_heading_25 : dn cX9_heading 25 (.iload_n 1) 1 26 := ⟨by decide +kernel, rfl⟩
theorem dX9_heading_26 : dn cX9_heading 26 (.aaload) 1 27 := ⟨by decide +kernel, rfl⟩
theorem dX9_heading_27 : dn cX9_heading 27 (.getfield 171) 3 30 := ⟨by decide +kernel, rfl⟩
theorem dX9_heading_30 : db cX9_heading 30 (.if_icmp .lt 5) 3 33 (5) 35 := ⟨by decide +kernel, rfl, rfl⟩
theorem dX9_heading_33 : dn cX9_heading 33 (.iconst (-1)) 1 34 := ⟨by decide +kernel, rfl⟩
theorem dX9_heading_34 : dn cX9_heading 34 (.ireturn) 1 35 := ⟨by decide +kernel, rfl⟩
theorem dX9_heading_35 : dn cX9_heading 35 (.aload 4) 2 37 := ⟨by decide +kernel, rfl⟩
theorem dX9_heading_37 : dn cX9_heading 37 (.getfield 126) 3 40 := ⟨by decide +kernel, rfl⟩
theorem dX9_heading_40 : dn cX9_heading 40 (.iload_n 1) 1 41 := ⟨by decide +kernel, rfl⟩
theorem dX9_heading_41 : dn cX9_heading 41 (.aaload) 1 42 := ⟨by decide +kernel, rfl⟩
theorem dX9_heading_42 : dn cX9_heading 42 (.iload_n 2) 1 43 := ⟨by decide +kernel, rfl⟩
theorem dX9_heading_43 : dn cX9_heading 43 (.iload_n 3) 1 44 := ⟨by decide +kernel, rfl⟩
theorem dX9_heading_44 : dn cX9_heading 44 (.invokevirtual 174) 3 47 := ⟨by decide +kernel, rfl⟩
theorem dX9_heading_47 : dn cX9_heading 47 (.ireturn) 1 48 := ⟨by decide +kernel, rfl⟩
theorem dX9_image_0 : dn cX9_image 0 (.iload_n 1) 1 1 := ⟨by decide +kernel, rfl⟩
theorem dX9_image_1 : db cX9_image 1 (.ifCond .lt 8) 3 4 (8) 9 := ⟨by decide +kernel, rfl, rfl⟩
theorem dX9_image_4 : dn cX9_image 4 (.iload_n 1) 1 5 := ⟨by decide +kernel, rfl⟩
theorem dX9_image_5 : dn cX9_image 5 (.iconst 2) 1 6 := ⟨by decide +kernel, rfl⟩
theorem dX9_image_6 : db cX9_image 6 (.if_icmp .lt 6) 3 9 (6) 12 := ⟨by decide +kernel, rfl, rfl⟩
theorem dX9_image_9 : dn cX9_image 9 (.bipush (-2)) 2 11 := ⟨by decide +kernel, rfl⟩
theorem dX9_image_11 : dn cX9_image 11 (.ireturn) 1 12 := ⟨by decide +kernel, rfl⟩
theorem dX9_image_12 : dn cX9_image 12 (.aload_n 0) 1 13 := ⟨by decide +kernel, rfl⟩
theorem dX9_image_13 : dn cX9_image 13 (.getfield 16) 3 16 := ⟨by decide +kernel, rfl⟩
theorem dX9_image_16 : dn cX9_image 16 (.iload_n 1) 1 17 := ⟨by decide +kernel, rfl⟩
theorem dX9_image_17 : dn cX9_image 17 (.aaload) 1 18 := ⟨by decide +kernel, rfl⟩
theorem dX9_image_18 : dn cX9_image 18 (.aload_n 0) 1 19 := ⟨by decide +kernel, rfl⟩
theorem dX9_image_19 : dn cX9_image 19 (.getfield 12) 3 22 := ⟨by decide +kernel, rfl⟩
theorem dX9_image_22 : dn cX9_image 22 (.invokevirtual 177) 3 25 := ⟨by decide +kernel, rfl⟩
theorem dX9_image_25 : dn cX9_image 25 (.aload_n 0) 1 26 := ⟨by decide +kernel, rfl⟩
theorem dX9_image_26 : dn cX9_image 26 (.getfield 20) 3 29 := ⟨by decide +kernel, rfl⟩
theorem dX9_image_29 : dn cX9_image 29 (.iload_n 1) 1 30 := ⟨by decide +kernel, rfl⟩
theorem dX9_image_30 : dn cX9_image 30 (.iconst 1) 1 31 := ⟨by decide +kernel, rfl⟩
theorem dX9_image_31 : dn cX9_image 31 (.bastore) 1 32 := ⟨by decide +kernel, rfl⟩
theorem dX9_image_32 : dn cX9_image 32 (.iconst 1) 1 33 := ⟨by decide +kernel, rfl⟩
theorem dX9_image_33 : dn cX9_image 33 (.ireturn) 1 34 := ⟨by decide +kernel, rfl⟩
theorem dX9_restore_0 : dn cX9_restore 0 (.iload_n 1) 1 1 := ⟨by decide +kernel, rfl⟩
theorem dX9_restore_1 : db cX9_restore 1 (.ifCond .lt 8) 3 4 (8) 9 := ⟨by decide +kernel, rfl, rfl⟩
theorem dX9_restore_4 : dn cX9_restore 4 (.iload_n 1) 1 5 := ⟨by decide +kernel, rfl⟩
theorem dX9_restore_5 : dn cX9_restore 5 (.iconst 2) 1 6 := ⟨by decide +kernel, rfl⟩
theorem dX9_restore_6 : db cX9_restore 6 (.if_icmp .lt 6) 3 9 (6) 12 := ⟨by decide +kernel, rfl, rfl⟩
theorem dX9_restore_9 : dn cX9_restore 9 (.bipush (-2)) 2 11 := ⟨by decide +kernel, rfl⟩
theorem dX9_restore_11 : dn cX9_restore 11 (.ireturn) 1 12 := ⟨by decide +kernel, rfl⟩
theorem dX9_restore_12 : dn cX9_restore 12 (.aload_n 0) 1 13 := ⟨by decide +kernel, rfl⟩
theorem dX9_restore_13 : dn cX9_restore 13 (.getfield 20) 3 16 := ⟨by decide +kernel, rfl⟩
theorem dX9_restore_16 : dn cX9_restore 16 (.iload_n 1) 1 17 := ⟨by decide +kernel, rfl⟩
theorem dX9_restore_17 : dn cX9_restore 17 (.baload) 1 18 := ⟨by decide +kernel, rfl⟩
theorem dX9_restore_18 : db cX9_restore 18 (.ifCond .ne 6) 3 21 (6) 24 := ⟨by decide +kernel, rfl, rfl⟩
theorem dX9_restore_21 : dn cX9_restore 21 (.bipush (-3)) 2 23 := ⟨by decide +kernel, rfl⟩
theorem dX9_restore_23 : dn cX9_restore 23 (.ireturn) 1 24 := ⟨by decide +kernel, rfl⟩
theorem dX9_restore_24 : dn cX9_restore 24 (.aload_n 0) 1 25 := ⟨by decide +kernel, rfl⟩
theorem dX9_restore_25 : dn cX9_restore 25 (.getfield 12) 3 28 := ⟨by decide +kernel, rfl⟩
theorem dX9_restore_28 : dn cX9_restore 28 (.aload_n 0) 1 29 := ⟨by decide +kernel, rfl⟩
theorem dX9_restore_29 : dn cX9_restore 29 (.getfield 16) 3 32 := ⟨by decide +kernel, rfl⟩
theorem dX9_restore_32 : dn cX9_restore 32 (.iload_n 1) 1 33 := ⟨by decide +kernel, rfl⟩
theorem dX9_restore_33 : dn cX9_restore 33 (.aaload) 1 34 := ⟨by decide +kernel, rfl⟩
theorem dX9_restore_34 : dn cX9_restore 34 (.invokevirtual 177) 3 37 := ⟨by decide +kernel, rfl⟩
theorem dX9_restore_37 : dn cX9_restore 37 (.aload_n 0) 1 38 := ⟨by decide +kernel, rfl⟩
theorem dX9_restore_38 : dn cX9_restore 38 (.iconst 1) 1 39 := ⟨by decide +kernel, rfl⟩
theorem dX9_restore_39 : dn cX9_restore 39 (.putfield 31) 3 42 := ⟨by decide +kernel, rfl⟩
theorem dX9_restore_42 : dn cX9_restore 42 (.iconst 1) 1 43 := ⟨by decide +kernel, rfl⟩
theorem dX9_restore_43 : dn cX9_restore 43 (.ireturn) 1 44 := ⟨by decide +kernel, rfl⟩
theorem dX9_told_0 : dn cX9_told 0 (.iload_n 1) 1 1 := ⟨by decide +kernel, rfl⟩
theorem dX9_told_1 : decode cX9_told 1 = .ok (.tableswitch 129 0 7 #[47, 58, 69, 80, 88, 99, 109, 119], 47) := by decide +kernel
theorem dX9_told_48 : dn cX9_told 48 (.aload_n 0) 1 49 := ⟨by decide +kernel, rfl⟩
theorem dX9_told_49 : dn cX9_told 49 (.getfield 12) 3 52 := ⟨by decide +kernel, rfl⟩
theorem dX9_told_52 : dn cX9_told 52 (.getfield 53) 3 55 := ⟨by decide +kernel, rfl⟩
theorem dX9_told_55 : dn cX9_told 55 (.getfield 67) 3 58 := ⟨by decide +kernel, rfl⟩
theorem dX9_told_58 : dn cX9_told 58 (.ireturn) 1 59 := ⟨by decide +kernel, rfl⟩
theorem dX9_told_59 : dn cX9_told 59 (.aload_n 0) 1 60 := ⟨by decide +kernel, rfl⟩
theorem dX9_told_60 : dn cX9_told 60 (.getfield 12) 3 63 := ⟨by decide +kernel, rfl⟩
theorem dX9_told_63 : dn cX9_told 63 (.getfield 95) 3 66 := ⟨by decide +kernel, rfl⟩
theorem dX9_told_66 : dn cX9_told 66 (.getfield 67) 3 69 := ⟨by decide +kernel, rfl⟩
theorem dX9_told_69 : dn cX9_told 69 (.ireturn) 1 70 := ⟨by decide +kernel, rfl⟩
theorem dX9_told_70 : dn cX9_told 70 (.aload_n 0) 1 71 := ⟨by decide +kernel, rfl⟩
theorem dX9_told_71 : dn cX9_told 71 (.invokevirtual 82) 3 74 := ⟨by decide +kernel, rfl⟩
theorem dX9_told_74 : dn cX9_told 74 (.getfield 86) 3 77 := ⟨by decide +kernel, rfl⟩
theorem dX9_told_77 : dn cX9_told 77 (.getfield 181) 3 80 := ⟨by decide +kernel, rfl⟩
theorem dX9_told_80 : dn cX9_told 80 (.ireturn) 1 81 := ⟨by decide +kernel, rfl⟩
theorem dX9_told_81 : dn cX9_told 81 (.aload_n 0) 1 82 := ⟨by decide +kernel, rfl⟩
theorem dX9_told_82 : dn cX9_told 82 (.invokevirtual 82) 3 85 := ⟨by decide +kernel, rfl⟩
theorem dX9_told_85 : dn cX9_told 85 (.getfield 182) 3 88 := ⟨by decide +kernel, rfl⟩
theorem dX9_told_88 : dn cX9_told 88 (.ireturn) 1 89 := ⟨by decide +kernel, rfl⟩
theorem dX9_told_89 : dn cX9_told 89 (.aload_n 0) 1 90 := ⟨by decide +kernel, rfl⟩
theorem dX9_told_90 : dn cX9_told 90 (.invokevirtual 82) 3 93 := ⟨by decide +kernel, rfl⟩
theorem dX9_told_93 : dn cX9_told 93 (.getfield 98) 3 96 := ⟨by decide +kernel, rfl⟩
theorem dX9_told_96 : dn cX9_told 96 (.getfield 185) 3 99 := ⟨by decide +kernel, rfl⟩
theorem dX9_told_99 : dn cX9_told 99 (.ireturn) 1 100 := ⟨by decide +kernel, rfl⟩
theorem dX9_told_100 : dn cX9_told 100 (.aload_n 0) 1 101 := ⟨by decide +kernel, rfl⟩
theorem dX9_told_101 : dn cX9_told 101 (.getfield 12) 3 104 := ⟨by decide +kernel, rfl⟩
theorem dX9_told_104 : dn cX9_told 104 (.getfield 39) 3 107 := ⟨by decide +kernel, rfl⟩
theorem dX9_told_107 : dn cX9_told 107 (.iconst 0) 1 108 := ⟨by decide +kernel, rfl⟩
theorem dX9_told_108 : dn cX9_told 108 (.iaload) 1 109 := ⟨by decide +kernel, rfl⟩
theorem dX9_told_109 : dn cX9_told 109 (.ireturn) 1 110 := ⟨by decide +kernel, rfl⟩
theorem dX9_told_110 : dn cX9_told 110 (.aload_n 0) 1 111 := ⟨by decide +kernel, rfl⟩
theorem dX9_told_111 : dn cX9_told 111 (.getfield 12) 3 114 := ⟨by decide +kernel, rfl⟩
theorem dX9_told_114 : dn cX9_told 114 (.getfield 39) 3 117 := ⟨by decide +kernel, rfl⟩
theorem dX9_told_117 : dn cX9_told 117 (.iconst 1) 1 118 := ⟨by decide +kernel, rfl⟩
theorem dX9_told_118 : dn cX9_told 118 (.iaload) 1 119 := ⟨by decide +kernel, rfl⟩
theorem dX9_told_119 : dn cX9_told 119 (.ireturn) 1 120 := ⟨by decide +kernel, rfl⟩
theorem dX9_told_120 : dn cX9_told 120 (.aload_n 0) 1 121 := ⟨by decide +kernel, rfl⟩
theorem dX9_told_121 : dn cX9_told 121 (.getfield 12) 3 124 := ⟨by decide +kernel, rfl⟩
theorem dX9_told_124 : dn cX9_told 124 (.getfield 39) 3 127 := ⟨by decide +kernel, rfl⟩
theorem dX9_told_127 : dn cX9_told 127 (.iconst 2) 1 128 := ⟨by decide +kernel, rfl⟩
theorem dX9_told_128 : dn cX9_told 128 (.iaload) 1 129 := ⟨by decide +kernel, rfl⟩
theorem dX9_told_129 : dn cX9_told 129 (.ireturn) 1 130 := ⟨by decide +kernel, rfl⟩
theorem dX9_told_130 : dn cX9_told 130 (.bipush (-2)) 2 132 := ⟨by decide +kernel, rfl⟩
theorem dX9_told_132 : dn cX9_told 132 (.ireturn) 1 133 := ⟨by decide +kernel, rfl⟩
theorem dX9_found_0 : dn cX9_found 0 (.aload_n 0) 1 1 := ⟨by decide +kernel, rfl⟩
theorem dX9_found_1 : dn cX9_found 1 (.getfield 31) 3 4 := ⟨by decide +kernel, rfl⟩
theorem dX9_found_4 : db cX9_found 4 (.ifCond .eq 19) 3 7 (19) 23 := ⟨by decide +kernel, rfl, rfl⟩
theorem dX9_found_7 : dn cX9_found 7 (.aload_n 0) 1 8 := ⟨by decide +kernel, rfl⟩
theorem dX9_found_8 : dn cX9_found 8 (.getfield 27) 3 11 := ⟨by decide +kernel, rfl⟩
theorem dX9_found_11 : dn cX9_found 11 (.aload_n 0) 1 12 := ⟨by decide +kernel, rfl⟩
theorem dX9_found_12 : dn cX9_found 12 (.getfield 12) 3 15 := ⟨by decide +kernel, rfl⟩
theorem dX9_found_15 : dn cX9_found 15 (.invokevirtual 188) 3 18 := ⟨by decide +kernel, rfl⟩
theorem dX9_found_18 : dn cX9_found 18 (.aload_n 0) 1 19 := ⟨by decide +kernel, rfl⟩
theorem dX9_found_19 : dn cX9_found 19 (.iconst 0) 1 20 := ⟨by decide +kernel, rfl⟩
theorem dX9_found_20 : dn cX9_found 20 (.putfield 31) 3 23 := ⟨by decide +kernel, rfl⟩
theorem dX9_found_23 : dn cX9_found 23 (.aload_n 0) 1 24 := ⟨by decide +kernel, rfl⟩
theorem dX9_found_24 : dn cX9_found 24 (.getfield 27) 3 27 := ⟨by decide +kernel, rfl⟩
theorem dX9_found_27 : dn cX9_found 27 (.areturn) 1 28 := ⟨by decide +kernel, rfl⟩
theorem dX9_isWay_0 : dn cX9_isWay 0 (.iload_n 0) 1 1 := ⟨by decide +kernel, rfl⟩
theorem dX9_isWay_1 : db cX9_isWay 1 (.ifCond .eq 8) 3 4 (8) 9 := ⟨by decide +kernel, rfl, rfl⟩
theorem dX9_isWay_4 : dn cX9_isWay 4 (.iload_n 0) 1 5 := ⟨by decide +kernel, rfl⟩
theorem dX9_isWay_5 : dn cX9_isWay 5 (.iconst 1) 1 6 := ⟨by decide +kernel, rfl⟩
theorem dX9_isWay_6 : db cX9_isWay 6 (.if_icmp .ne 7) 3 9 (7) 13 := ⟨by decide +kernel, rfl, rfl⟩
theorem dX9_isWay_9 : dn cX9_isWay 9 (.iconst 1) 1 10 := ⟨by decide +kernel, rfl⟩
theorem dX9_isWay_10 : db cX9_isWay 10 (.goto 4) 3 13 (4) 14 := ⟨by decide +kernel, rfl, rfl⟩
theorem dX9_isWay_13 : dn cX9_isWay 13 (.iconst 0) 1 14 := ⟨by decide +kernel, rfl⟩
theorem dX9_isWay_14 : dn cX9_isWay 14 (.ireturn) 1 15 := ⟨by decide +kernel, rfl⟩
theorem dX9_isPlace_0 : dn cX9_isPlace 0 (.iload_n 0) 1 1 := ⟨by decide +kernel, rfl⟩
theorem dX9_isPlace_1 : db cX9_isPlace 1 (.ifCond .lt 13) 3 4 (13) 14 := ⟨by decide +kernel, rfl, rfl⟩
theorem dX9_isPlace_4 : dn cX9_isPlace 4 (.iload_n 0) 1 5 := ⟨by decide +kernel, rfl⟩
theorem dX9_isPlace_5 : dn cX9_isPlace 5 (.bipush 100) 2 7 := ⟨by decide +kernel, rfl⟩
theorem dX9_isPlace_7 : db cX9_isPlace 7 (.if_icmp .ge 7) 3 10 (7) 14 := ⟨by decide +kernel, rfl, rfl⟩
theorem dX9_isPlace_10 : dn cX9_isPlace 10 (.iconst 1) 1 11 := ⟨by decide +kernel, rfl⟩
theorem dX9_isPlace_11 : db cX9_isPlace 11 (.goto 4) 3 14 (4) 15 := ⟨by decide +kernel, rfl, rfl⟩
theorem dX9_isPlace_14 : dn cX9_isPlace 14 (.iconst 0) 1 15 := ⟨by decide +kernel, rfl⟩
theorem dX9_isPlace_15 : dn cX9_isPlace 15 (.ireturn) 1 16 := ⟨by decide +kernel, rfl⟩
theorem dX9_isStretch_0 : dn cX9_isStretch 0 (.iload_n 0) 1 1 := ⟨by decide +kernel, rfl⟩
theorem dX9_isStretch_1 : dn cX9_isStretch 1 (.invokestatic 46) 3 4 := ⟨by decide +kernel, rfl⟩
theorem dX9_isStretch_4 : db cX9_isStretch 4 (.ifCond .eq 19) 3 7 (19) 23 := ⟨by decide +kernel, rfl, rfl⟩
theorem dX9_isStretch_7 : dn cX9_isStretch 7 (.iload_n 1) 1 8 := ⟨by decide +kernel, rfl⟩
theorem dX9_isStretch_8 : dn cX9_isStretch 8 (.invokestatic 46) 3 11 := ⟨by decide +kernel, rfl⟩
theorem dX9_isStretch_11 : db cX9_isStretch 11 (.ifCond .eq 12) 3 14 (12) 23 := ⟨by decide +kernel, rfl, rfl⟩
theorem dX9_isStretch_14 : dn cX9_isStretch 14 (.iload_n 0) 1 15 := ⟨by decide +kernel, rfl⟩
theorem dX9_isStretch_15 : dn cX9_isStretch 15 (.iload_n 1) 1 16 := ⟨by decide +kernel, rfl⟩
theorem dX9_isStretch_16 : db cX9_isStretch 16 (.if_icmp .ge 7) 3 19 (7) 23 := ⟨by decide +kernel, rfl, rfl⟩
theorem dX9_isStretch_19 : dn cX9_isStretch 19 (.iconst 1) 1 20 := ⟨by decide +kernel, rfl⟩
theorem dX9_isStretch_20 : db cX9_isStretch 20 (.goto 4) 3 23 (4) 24 := ⟨by decide +kernel, rfl, rfl⟩
theorem dX9_isStretch_23 : dn cX9_isStretch 23 (.iconst 0) 1 24 := ⟨by decide +kernel, rfl⟩
theorem dX9_isStretch_24 : dn cX9_isStretch 24 (.ireturn) 1 25 := ⟨by decide +kernel, rfl⟩
end
section
theorem dX10_in_0 : dn cX10_in 0 (.lload_n 0) 1 1 := ⟨by decide +kernel, rfl⟩
theorem dX10_in_1 : dn cX10_in 1 (.lload_n 2) 1 2 := ⟨by decide +kernel, rfl⟩
theorem dX10_in_2 : dn cX10_in 2 (.lcmp) 1 3 := ⟨by decide +kernel, rfl⟩
theorem dX10_in_3 : db cX10_in 3 (.ifCond .lt 14) 3 6 (14) 17 := ⟨by decide +kernel, rfl, rfl⟩
theorem dX10_in_6 : dn cX10_in 6 (.lload_n 0) 1 7 := ⟨by decide +kernel, rfl⟩
theorem dX10_in_7 : dn cX10_in 7 (.lload 4) 2 9 := ⟨by decide +kernel, rfl⟩
theorem dX10_in_9 : dn cX10_in 9 (.lcmp) 1 10 := ⟨by decide +kernel, rfl⟩
theorem dX10_in_10 : db cX10_in 10 (.ifCond .gt 7) 3 13 (7) 17 := ⟨by decide +kernel, rfl, rfl⟩
theorem dX10_in_13 : dn cX10_in 13 (.iconst 1) 1 14 := ⟨by decide +kernel, rfl⟩
theorem dX10_in_14 : db cX10_in 14 (.goto 4) 3 17 (4) 18 := ⟨by decide +kernel, rfl, rfl⟩
theorem dX10_in_17 : dn cX10_in 17 (.iconst 0) 1 18 := ⟨by decide +kernel, rfl⟩
theorem dX10_in_18 : dn cX10_in 18 (.ireturn) 1 19 := ⟨by decide +kernel, rfl⟩
theorem dX10_less_0 : dn cX10_less 0 (.iload_n 0) 1 1 := ⟨by decide +kernel, rfl⟩
theorem dX10_less_1 : dn cX10_less 1 (.iload_n 1) 1 2 := ⟨by decide +kernel, rfl⟩
theorem dX10_less_2 : db cX10_less 2 (.if_icmp .ge 7) 3 5 (7) 9 := ⟨by decide +kernel, rfl, rfl⟩
theorem dX10_less_5 : dn cX10_less 5 (.iload_n 0) 1 6 := ⟨by decide +kernel, rfl⟩
theorem dX10_less_6 : db cX10_less 6 (.goto 4) 3 9 (4) 10 := ⟨by decide +kernel, rfl, rfl⟩
theorem dX10_less_9 : dn cX10_less 9 (.iload_n 1) 1 10 := ⟨by decide +kernel, rfl⟩
theorem dX10_less_10 : dn cX10_less 10 (.ireturn) 1 11 := ⟨by decide +kernel, rfl⟩
theorem dX10_greater_0 : dn cX10_greater 0 (.iload_n 0) 1 1 := ⟨by decide +kernel, rfl⟩
theorem dX10_greater_1 : dn cX10_greater 1 (.iload_n 1) 1 2 := ⟨by decide +kernel, rfl⟩
theorem dX10_greater_2 : db cX10_greater 2 (.if_icmp .le 7) 3 5 (7) 9 := ⟨by decide +kernel, rfl, rfl⟩
theorem dX10_greater_5 : dn cX10_greater 5 (.iload_n 0) 1 6 := ⟨by decide +kernel, rfl⟩
theorem dX10_greater_6 : db cX10_greater 6 (.goto 4) 3 9 (4) 10 := ⟨by decide +kernel, rfl, rfl⟩
theorem dX10_greater_9 : dn cX10_greater 9 (.iload_n 1) 1 10 := ⟨by decide +kernel, rfl⟩
theorem dX10_greater_10 : dn cX10_greater 10 (.ireturn) 1 11 := ⟨by decide +kernel, rfl⟩
theorem dX10_pieceAt_0 : dn cX10_pieceAt 0 (.aload_n 0) 1 1 := ⟨by decide +kernel, rfl⟩
theorem dX10_pieceAt_1 : dn cX10_pieceAt 1 (.getfield 7) 3 4 := ⟨by decide +kernel, rfl⟩
theorem dX10_pieceAt_4 : dn cX10_pieceAt 4 (.iconst 4) 1 5 := ⟨by decide +kernel, rfl⟩
theorem dX10_pieceAt_5 : dn cX10_pieceAt 5 (.iload_n 1) 1 6 := ⟨by decide +kernel, rfl⟩
theorem dX10_pieceAt_6 : dn cX10_pieceAt 6 (.imul) 1 7 := ⟨by decide +kernel, rfl⟩
theorem dX10_pieceAt_7 : dn cX10_pieceAt 7 (.iload_n 2) 1 8 := ⟨by decide +kernel, rfl⟩
theorem dX10_pieceAt_8 : dn cX10_pieceAt 8 (.iadd) 1 9 := ⟨by decide +kernel, rfl⟩
theorem dX10_pieceAt_9 : dn cX10_pieceAt 9 (.iaload) 1 10 := ⟨by decide +kernel, rfl⟩
theorem dX10_pieceAt_10 : dn cX10_pieceAt 10 (.ireturn) 1 11 := ⟨by decide +kernel, rfl⟩
theorem dX10_boxAt_0 : dn cX10_boxAt 0 (.aload_n 0) 1 1 := ⟨by decide +kernel, rfl⟩
theorem dX10_boxAt_1 : dn cX10_boxAt 1 (.getfield 13) 3 4 := ⟨by decide +kernel, rfl⟩
theorem dX10_boxAt_4 : dn cX10_boxAt 4 (.iconst 4) 1 5 := ⟨by decide +kernel, rfl⟩
theorem dX10_boxAt_5 : dn cX10_boxAt 5 (.iload_n 1) 1 6 := ⟨by decide +kernel, rfl⟩
theorem dX10_boxAt_6 : dn cX10_boxAt 6 (.imul) 1 7 := ⟨by decide +kernel, rfl⟩
theorem dX10_boxAt_7 : dn cX10_boxAt 7 (.iload_n 2) 1 8 := ⟨by decide +kernel, rfl⟩
theorem dX10_boxAt_8 : dn cX10_boxAt 8 (.iadd) 1 9 := ⟨by decide +kernel, rfl⟩
theorem dX10_boxAt_9 : dn cX10_boxAt 9 (.iaload) 1 10 := ⟨by decide +kernel, rfl⟩
theorem dX10_boxAt_10 : dn cX10_boxAt 10 (.ireturn) 1 11 := ⟨by decide +kernel, rfl⟩
theorem dX10_set_0 : dn cX10_set 0 (.iload_n 1) 1 1 := ⟨by decide +kernel, rfl⟩
theorem dX10_set_1 : dn cX10_set 1 (.i2l) 1 2 := ⟨by decide +kernel, rfl⟩
theorem dX10_set_2 : dn cX10_set 2 (.lconst 0) 1 3 := ⟨by decide +kernel, rfl⟩
theorem dX10_set_3 : dn cX10_set 3 (.ldc2_w 62) 3 6 := ⟨by decide +kernel, rfl⟩
theorem dX10_set_6 : dn cX10_set 6 (.invokestatic 64) 3 9 := ⟨by decide +kernel, rfl⟩
theorem dX10_set_9 : db cX10_set 9 (.ifCond .eq 36) 3 12 (36) 45 := ⟨by decide +kernel, rfl, rfl⟩
theorem dX10_set_12 : dn cX10_set 12 (.iload_n 2) 1 13 := ⟨by decide +kernel, rfl⟩
theorem dX10_set_13 : dn cX10_set 13 (.i2l) 1 14 := ⟨by decide +kernel, rfl⟩
theorem dX10_set_14 : dn cX10_set 14 (.lconst 0) 1 15 := ⟨by decide +kernel, rfl⟩
theorem dX10_set_15 : dn cX10_set 15 (.iload_n 1) 1 16 := ⟨by decide +kernel, rfl⟩
theorem dX10_set_16 : db cX10_set 16 (.ifCond .ne 9) 3 19 (9) 25 := ⟨by decide +kernel, rfl, rfl⟩
theorem dX10_set_19 : dn cX10_set 19 (.ldc2_w 68) 3 22 := ⟨by decide +kernel, rfl⟩
theorem dX10_set_22 : db cX10_set 22 (.goto 17) 3 25 (17) 39 := ⟨by decide +kernel, rfl, rfl⟩
theorem dX10_set_25 : dn cX10_set 25 (.iload_n 1) 1 26 := ⟨by decide +kernel, rfl⟩
theorem dX10_set_26 : dn cX10_set 26 (.iconst 1) 1 27 := ⟨by decide +kernel, rfl⟩
theorem dX10_set_27 : db cX10_set 27 (.if_icmp .ne 9) 3 30 (9) 36 := ⟨by decide +kernel, rfl, rfl⟩
theorem dX10_set_30 : dn cX10_set 30 (.ldc2_w 70) 3 33 := ⟨by decide +kernel, rfl⟩
theorem dX10_set_33 : db cX10_set 33 (.goto 6) 3 36 (6) 39 := ⟨by decide +kernel, rfl, rfl⟩
theorem dX10_set_36 : dn cX10_set 36 (.ldc2_w 72) 3 39 := ⟨by decide +kernel, rfl⟩
theorem dX10_set_39 : dn cX10_set 39 (.invokestatic 64) 3 42 := ⟨by decide +kernel, rfl⟩
theorem dX10_set_42 : db cX10_set 42 (.ifCond .ne 6) 3 45 (6) 48 := ⟨by decide +kernel, rfl, rfl⟩
theorem dX10_set_45 : dn cX10_set 45 (.bipush (-2)) 2 47 := ⟨by decide +kernel, rfl⟩
theorem dX10_set_47 : dn cX10_set 47 (.ireturn) 1 48 := ⟨by decide +kernel, rfl⟩
theorem dX10_set_48 : dn cX10_set 48 (.aload_n 0) 1 49 := ⟨by decide +kernel, rfl⟩
theorem dX10_set_49 : dn cX10_set 49 (.getfield 16) 3 52 := ⟨by decide +kernel, rfl⟩
theorem dX10_set_52 : dn cX10_set 52 (.iload_n 1) 1 53 := ⟨by decide +kernel, rfl⟩
theorem dX10_set_53 : dn cX10_set 53 (.iaload) 1 54 := ⟨by decide +kernel, rfl⟩
theorem dX10_set_54 : dn cX10_set 54 (.istore_n 3) 1 55 := ⟨by decide +kernel, rfl⟩
theorem dX10_set_55 : dn cX10_set 55 (.aload_n 0) 1 56 := ⟨by decide +kernel, rfl⟩
theorem dX10_set_56 : dn cX10_set 56 (.getfield 16) 3 59 := ⟨by decide +kernel, rfl⟩
theorem dX10_set_59 : dn cX10_set 59 (.iload_n 1) 1 60 := ⟨by decide +kernel, rfl⟩
theorem dX10_set_60 : dn cX10_set 60 (.iload_n 2) 1 61 := ⟨by decide +kernel, rfl⟩
theorem dX10_set_61 : dn cX10_set 61 (.iastore) 1 62 := ⟨by decide +kernel, rfl⟩
theorem dX10_set_62 : dn cX10_set 62 (.aload_n 0) 1 63 := ⟨by decide +kernel, rfl⟩
theorem dX10_set_63 : dn cX10_set 63 (.iconst 0) 1 64 := ⟨by decide +kernel, rfl⟩
theorem dX10_set_64 : dn cX10_set 64 (.putfield 74) 3 67 := ⟨by decide +kernel, rfl⟩
theorem dX10_set_67 : dn cX10_set 67 (.iload_n 3) 1 68 := ⟨by decide +kernel, rfl⟩
theorem dX10_set_68 : dn cX10_set 68 (.ireturn) 1 69 := ⟨by decide +kernel, rfl⟩
theorem dX10_isPlace_0 : dn cX10_isPlace 0 (.iload_n 0) 1 1 := ⟨by decide +kernel, rfl⟩
theorem dX10_isPlace_1 : dn cX10_isPlace 1 (.i2l) 1 2 := ⟨by decide +kernel, rfl⟩
theorem dX10_isPlace_2 : dn cX10_isPlace 2 (.lconst 0) 1 3 := ⟨by decide +kernel, rfl⟩
theorem dX10_isPlace_3 : dn cX10_isPlace 3 (.ldc2_w 78) 3 6 := ⟨by decide +kernel, rfl⟩
theorem dX10_isPlace_6 : dn cX10_isPlace 6 (.invokestatic 64) 3 9 := ⟨by decide +kernel, rfl⟩
theorem dX10_isPlace_9 : dn cX10_isPlace 9 (.ireturn) 1 10 := ⟨by decide +kernel, rfl⟩
theorem dX10_addPiece_0 : dn cX10_addPiece 0 (.aload_n 0) 1 1 := ⟨by decide +kernel, rfl⟩
theorem dX10_addPiece_1 : dn cX10_addPiece 1 (.getfield 7) 3 4 := ⟨by decide +kernel, rfl⟩
theorem dX10_addPiece_4 : dn cX10_addPiece 4 (.iconst 4) 1 5 := ⟨by decide +kernel, rfl⟩
theorem dX10_addPiece_5 : dn cX10_addPiece 5 (.aload_n 0) 1 6 := ⟨by decide +kernel, rfl⟩
theorem dX10_addPiece_6 : dn cX10_addPiece 6 (.getfield 80) 3 9 := ⟨by decide +kernel, rfl⟩
theorem dX10_addPiece_9 : dn cX10_addPiece 9 (.imul) 1 10 := ⟨by decide +kernel, rfl⟩
theorem dX10_addPiece_10 : dn cX10_addPiece 10 (.iload_n 1) 1 11 := ⟨by decide +kernel, rfl⟩
theorem dX10_addPiece_11 : dn cX10_addPiece 11 (.iastore) 1 12 := ⟨by decide +kernel, rfl⟩
theorem dX10_addPiece_12 : dn cX10_addPiece 12 (.aload_n 0) 1 13 := ⟨by decide +kernel, rfl⟩
theorem dX10_addPiece_13 : dn cX10_addPiece 13 (.getfield 7) 3 16 := ⟨by decide +kernel, rfl⟩
theorem dX10_addPiece_16 : dn cX10_addPiece 16 (.iconst 4) 1 17 := ⟨by decide +kernel, rfl⟩
theorem dX10_addPiece_17 : dn cX10_addPiece 17 (.aload_n 0) 1 18 := ⟨by decide +kernel, rfl⟩
theorem dX10_addPiece_18 : dn cX10_addPiece 18 (.getfield 80) 3 21 := ⟨by decide +kernel, rfl⟩
theorem dX10_addPiece_21 : dn cX10_addPiece 21 (.imul) 1 22 := ⟨by decide +kernel, rfl⟩
theorem dX10_addPiece_22 : dn cX10_addPiece 22 (.iconst 1) 1 23 := ⟨by decide +kernel, rfl⟩
theorem dX10_addPiece_23 : dn cX10_addPiece 23 (.iadd) 1 24 := ⟨by decide +kernel, rfl⟩
theorem dX10_addPiece_24 : dn cX10_addPiece 24 (.iload_n 2) 1 25 := ⟨by decide +kernel, rfl⟩
theorem dX10_addPiece_25 : dn cX10_addPiece 25 (.iastore) 1 26 := ⟨by decide +kernel, rfl⟩
theorem dX10_addPiece_26 : dn cX10_addPiece 26 (.aload_n 0) 1 27 := ⟨by decide +kernel, rfl⟩
theorem dX10_addPiece_27 : dn cX10_addPiece 27 (.getfield 7) 3 30 := ⟨by decide +kernel, rfl⟩
theorem dX10_addPiece_30 : dn cX10_addPiece 30 (.iconst 4) 1 31 := ⟨by decide +kernel, rfl⟩
theorem dX10_addPiece_31 : dn cX10_addPiece 31 (.aload_n 0) 1 32 := ⟨by decide +kernel, rfl⟩
theorem dX10_addPiece_32 : dn cX10_addPiece 32 (.getfield 80) 3 35 := ⟨by decide +kernel, rfl⟩
theorem dX10_addPiece_35 : dn cX10_addPiece 35 (.imul) 1 36 := ⟨by decide +kernel, rfl⟩
theorem dX10_addPiece_36 : dn cX10_addPiece 36 (.iconst 2) 1 37 := ⟨by decide +kernel, rfl⟩
theorem dX10_addPiece_37 : dn cX10_addPiece 37 (.iadd) 1 38 := ⟨by decide +kernel, rfl⟩
theorem dX10_addPiece_38 : dn cX10_addPiece 38 (.iload_n 3) 1 39 := ⟨by decide +kernel, rfl⟩
theorem dX10_addPiece_39 : dn cX10_addPiece 39 (.iastore) 1 40 := ⟨by decide +kernel, rfl⟩
theorem dX10_addPiece_40 : dn cX10_addPiece 40 (.aload_n 0) 1 41 := ⟨by decide +kernel, rfl⟩
theorem dX10_addPiece_41 : dn cX10_addPiece 41 (.getfield 7) 3 44 := ⟨by decide +kernel, rfl⟩
theorem dX10_addPiece_44 : dn cX10_addPiece 44 (.iconst 4) 1 45 := ⟨by decide +kernel, rfl⟩
theorem dX10_addPiece_45 : dn cX10_addPiece 45 (.aload_n 0) 1 46 := ⟨by decide +kernel, rfl⟩
theorem dX10_addPiece_46 : dn cX10_addPiece 46 (.getfield 80) 3 49 := ⟨by decide +kernel, rfl⟩
theorem dX10_addPiece_49 : dn cX10_addPiece 49 (.imul) 1 50 := ⟨by decide +kernel, rfl⟩
theorem dX10_addPiece_50 : dn cX10_addPiece 50 (.iconst 3) 1 51 := ⟨by decide +kernel, rfl⟩
theorem dX10_addPiece_51 : dn cX10_addPiece 51 (.iadd) 1 52 := ⟨by decide +kernel, rfl⟩
theorem dX10_addPiece_52 : dn cX10_addPiece 52 (.iload 4) 2 54 := ⟨by decide +kernel, rfl⟩
theorem dX10_addPiece_54 : dn cX10_addPiece 54 (.iastore) 1 55 := ⟨by decide +kernel, rfl⟩
theorem dX10_addPiece_55 : dn cX10_addPiece 55 (.aload_n 0) 1 56 := ⟨by decide +kernel, rfl⟩
theorem dX10_addPiece_56 : dn cX10_addPiece 56 (.dup) 1 57 := ⟨by decide +kernel, rfl⟩
theorem dX10_addPiece_57 : dn cX10_addPiece 57 (.getfield 80) 3 60 := ⟨by decide +kernel, rfl⟩
theorem dX10_addPiece_60 : dn cX10_addPiece 60 (.iconst 1) 1 61 := ⟨by decide +kernel, rfl⟩
theorem dX10_addPiece_61 : dn cX10_addPiece 61 (.iadd) 1 62 := ⟨by decide +kernel, rfl⟩
theorem dX10_addPiece_62 : dn cX10_addPiece 62 (.putfield 80) 3 65 := ⟨by decide +kernel, rfl⟩
theorem dX10_addPiece_65 : dn cX10_addPiece 65 (.aload_n 0) 1 66 := ⟨by decide +kernel, rfl⟩
theorem dX10_addPiece_66 : dn cX10_addPiece 66 (.iconst 0) 1 67 := ⟨by decide +kernel, rfl⟩
theorem dX10_addPiece_67 : dn cX10_addPiece 67 (.putfield 74) 3 70 := ⟨by decide +kernel, rfl⟩
theorem dX10_addPiece_70 : dn cX10_addPiece 70 (.return_) 1 71 := ⟨by decide +kernel, rfl⟩
theorem dX10_draw_0 : dn cX10_draw 0 (.iload_n 1) 1 1 := ⟨by decide +kernel, rfl⟩
theorem dX10_draw_1 : dn cX10_draw 1 (.i2l) 1 2 := ⟨by decide +kernel, rfl⟩
theorem dX10_draw_2 : dn cX10_draw 2 (.lconst 0) 1 3 := ⟨by decide +kernel, rfl⟩
theorem dX10_draw_3 : dn cX10_draw 3 (.lconst 1) 1 4 := ⟨by decide +kernel, rfl⟩
theorem dX10_draw_4 : dn cX10_draw 4 (.invokestatic 64) 3 7 := ⟨by decide +kernel, rfl⟩
theorem dX10_draw_7 : db cX10_draw 7 (.ifCond .eq 31) 3 10 (31) 38 := ⟨by decide +kernel, rfl, rfl⟩
theorem dX10_draw_10 : dn cX10_draw 10 (.iload_n 2) 1 11 := ⟨by decide +kernel, rfl⟩
theorem dX10_draw_11 : dn cX10_draw 11 (.invokestatic 84) 3 14 := ⟨by decide +kernel, rfl⟩
theorem dX10_draw_14 : db cX10_draw 14 (.ifCond .eq 24) 3 17 (24) 38 := ⟨by decide +kernel, rfl, rfl⟩
theorem dX10_draw_17 : dn cX10_draw 17 (.iload_n 3) 1 18 := ⟨by decide +kernel, rfl⟩
theorem dX10_draw_18 : dn cX10_draw 18 (.invokestatic 84) 3 21 := ⟨by decide +kernel, rfl⟩
theorem dX10_draw_21 : db cX10_draw 21 (.ifCond .eq 17) 3 24 (17) 38 := ⟨by decide +kernel, rfl, rfl⟩
theorem dX10_draw_24 : dn cX10_draw 24 (.iload 4) 2 26 := ⟨by decide +kernel, rfl⟩
theorem dX10_draw_26 : dn cX10_draw 26 (.invokestatic 84) 3 29 := ⟨by decide +kernel, rfl⟩
theorem dX10_draw_29 : db cX10_draw 29 (.ifCond .eq 9) 3 32 (9) 38 := ⟨by decide +kernel, rfl, rfl⟩
theorem dX10_draw_32 : dn cX10_draw 32 (.iload_n 3) 1 33 := ⟨by decide +kernel, rfl⟩
theorem dX10_draw_33 : dn cX10_draw 33 (.iload 4) 2 35 := ⟨by decide +kernel, rfl⟩
theorem dX10_draw_35 : db cX10_draw 35 (.if_icmp .lt 6) 3 38 (6) 41 := ⟨by decide +kernel, rfl, rfl⟩
theorem dX10_draw_38 : dn cX10_draw 38 (.bipush (-2)) 2 40 := ⟨by decide +kernel, rfl⟩
theorem dX10_draw_40 : dn cX10_draw 40 (.ireturn) 1 41 := ⟨by decide +kernel, rfl⟩
theorem dX10_draw_41 : dn cX10_draw 41 (.aload_n 0) 1 42 := ⟨by decide +kernel, rfl⟩
theorem dX10_draw_42 : dn cX10_draw 42 (.getfield 80) 3 45 := ⟨by decide +kernel, rfl⟩
theorem dX10_draw_45 : dn cX10_draw 45 (.bipush 24) 2 47 := ⟨by decide +kernel, rfl⟩
theorem dX10_draw_47 : db cX10_draw 47 (.if_icmp .ne 6) 3 50 (6) 53 := ⟨by decide +kernel, rfl, rfl⟩
theorem dX10_draw_50 : dn cX10_draw 50 (.bipush (-4)) 2 52 := ⟨by decide +kernel, rfl⟩
theorem dX10_draw_52 : dn cX10_draw 52 (.ireturn) 1 53 := ⟨by decide +kernel, rfl⟩
theorem dX10_draw_53 : dn cX10_draw 53 (.aload_n 0) 1 54 := ⟨by decide +kernel, rfl⟩
theorem dX10_draw_54 : dn cX10_draw 54 (.iload_n 1) 1 55 := ⟨by decide +kernel, rfl⟩
theorem dX10_draw_55 : dn cX10_draw 55 (.iload_n 2) 1 56 := ⟨by decide +kernel, rfl⟩
theorem dX10_draw_56 : dn cX10_draw 56 (.iload_n 3) 1 57 := ⟨by decide +kernel, rfl⟩
theorem dX10_draw_57 : dn cX10_draw 57 (.iload 4) 2 59 := ⟨by decide +kernel, rfl⟩
theorem dX10_draw_59 : dn cX10_draw 59 (.invokevirtual 88) 3 62 := ⟨by decide +kernel, rfl⟩
theorem dX10_draw_62 : dn cX10_draw 62 (.aload_n 0) 1 63 := ⟨by decide +kernel, rfl⟩
theorem dX10_draw_63 : dn cX10_draw 63 (.getfield 80) 3 66 := ⟨by decide +kernel, rfl⟩
theorem dX10_draw_66 : dn cX10_draw 66 (.ireturn) 1 67 := ⟨by decide +kernel, rfl⟩
theorem dX10_erase_0 : dn cX10_erase 0 (.iload_n 1) 1 1 := ⟨by decide +kernel, rfl⟩
theorem dX10_erase_1 : dn cX10_erase 1 (.i2l) 1 2 := ⟨by decide +kernel, rfl⟩
theorem dX10_erase_2 : dn cX10_erase 2 (.lconst 0) 1 3 := ⟨by decide +kernel, rfl⟩
theorem dX10_erase_3 : dn cX10_erase 3 (.aload_n 0) 1 4 := ⟨by decide +kernel, rfl⟩
theorem dX10_erase_4 : dn cX10_erase 4 (.getfield 80) 3 7 := ⟨by decide +kernel, rfl⟩
theorem dX10_erase_7 : dn cX10_erase 7 (.iconst 1) 1 8 := ⟨by decide +kernel, rfl⟩
theorem dX10_erase_8 : dn cX10_erase 8 (.isub) 1 9 := ⟨by decide +kernel, rfl⟩
theorem dX10_erase_9 : dn cX10_erase 9 (.i2l) 1 10 := ⟨by decide +kernel, rfl⟩
theorem dX10_erase_10 : dn cX10_erase 10 (.invokestatic 64) 3 13 := ⟨by decide +kernel, rfl⟩
theorem dX10_erase_13 : db cX10_erase 13 (.ifCond .ne 5) 3 16 (5) 18 := ⟨by decide +kernel, rfl, rfl⟩
theorem dX10_erase_16 : dn cX10_erase 16 (.iconst (-1)) 1 17 := ⟨by decide +kernel, rfl⟩
theorem dX10_erase_17 : dn cX10_erase 17 (.ireturn) 1 18 := ⟨by decide +kernel, rfl⟩
theorem dX10_erase_18 : dn cX10_erase 18 (.aload_n 0) 1 19 := ⟨by decide +kernel, rfl⟩
theorem dX10_erase_19 : dn cX10_erase 19 (.dup) 1 20 := ⟨by decide +kernel, rfl⟩
theorem dX10_erase_20 : dn cX10_erase 20 (.getfield 80) 3 23 := ⟨by decide +kernel, rfl⟩
theorem dX10_erase_23 : dn cX10_erase 23 (.iconst 1) 1 24 := ⟨by decide +kernel, rfl⟩
theorem dX10_erase_24 : dn cX10_erase 24 (.isub) 1 25 := ⟨by decide +kernel, rfl⟩
theorem dX10_erase_25 : dn cX10_erase 25 (.putfield 80) 3 28 := ⟨by decide +kernel, rfl⟩
theorem dX10_erase_28 : dn cX10_erase 28 (.iconst 4) 1 29 := ⟨by decide +kernel, rfl⟩
theorem dX10_erase_29 : dn cX10_erase 29 (.iload_n 1) 1 30 := ⟨by decide +kernel, rfl⟩
theorem dX10_erase_30 : dn cX10_erase 30 (.imul) 1 31 := ⟨by decide +kernel, rfl⟩
theorem dX10_erase_31 : dn cX10_erase 31 (.istore_n 2) 1 32 := ⟨by decide +kernel, rfl⟩
theorem dX10_erase_32 : dn cX10_erase 32 (.iload_n 2) 1 33 := ⟨by decide +kernel, rfl⟩
theorem dX10_erase_33 : dn cX10_erase 33 (.iconst 4) 1 34 := ⟨by decide +kernel, rfl⟩
theorem dX10_erase_34 : dn cX10_erase 34 (.aload_n 0) 1 35 := ⟨by decide +kernel, rfl⟩
theorem dX10_erase_35 : dn cX10_erase 35 (.getfield 80) 3 38 := ⟨by decide +kernel, rfl⟩
theorem dX10_erase_38 : dn cX10_erase 38 (.imul) 1 39 := ⟨by decide +kernel, rfl⟩
theorem dX10_erase_39 : db cX10_erase 39 (.if_icmp .ge 23) 3 42 (23) 62 := ⟨by decide +kernel, rfl, rfl⟩
theorem dX10_erase_42 : dn cX10_erase 42 (.aload_n 0) 1 43 := ⟨by decide +kernel, rfl⟩
theorem dX10_erase_43 : dn cX10_erase 43 (.getfield 7) 3 46 := ⟨by decide +kernel, rfl⟩
theorem dX10_erase_46 : dn cX10_erase 46 (.iload_n 2) 1 47 := ⟨by decide +kernel, rfl⟩
theorem dX10_erase_47 : dn cX10_erase 47 (.aload_n 0) 1 48 := ⟨by decide +kernel, rfl⟩
theorem dX10_erase_48 : dn cX10_erase 48 (.getfield 7) 3 51 := ⟨by decide +kernel, rfl⟩
theorem dX10_erase_51 : dn cX10_erase 51 (.iload_n 2) 1 52 := ⟨by decide +kernel, rfl⟩
theorem dX10_erase_52 : dn cX10_erase 52 (.iconst 4) 1 53 := ⟨by decide +kernel, rfl⟩
theorem dX10_erase_53 : dn cX10_erase 53 (.iadd) 1 54 := ⟨by decide +kernel, rfl⟩
theorem dX10_erase_54 : dn cX10_erase 54 (.iaload) 1 55 := ⟨by decide +kernel, rfl⟩
theorem dX10_erase_55 : dn cX10_erase 55 (.iastore) 1 56 := ⟨by decide +kernel, rfl⟩
theorem dX10_erase_56 : dn cX10_erase 56 (.iinc 2 1) 3 59 := ⟨by decide +kernel, rfl⟩
theorem dX10_erase_59 : db cX10_erase 59 (.goto (-27)) 3 62 (-27) 32 := ⟨by decide +kernel, rfl, rfl⟩
theorem dX10_erase_62 : dn cX10_erase 62 (.aload_n 0) 1 63 := ⟨by decide +kernel, rfl⟩
theorem dX10_erase_63 : dn cX10_erase 63 (.iconst 0) 1 64 := ⟨by decide +kernel, rfl⟩
theorem dX10_erase_64 : dn cX10_erase 64 (.putfield 74) 3 67 := ⟨by decide +kernel, rfl⟩
theorem dX10_erase_67 : dn cX10_erase 67 (.aload_n 0) 1 68 := ⟨by decide +kernel, rfl⟩
theorem dX10_erase_68 : dn cX10_erase 68 (.getfield 80) 3 71 := ⟨by decide +kernel, rfl⟩
theorem dX10_erase_71 : dn cX10_erase 71 (.ireturn) 1 72 := ⟨by decide +kernel, rfl⟩
theorem dX10_write_0 : dn cX10_write 0 (.iload_n 1) 1 1 := ⟨by decide +kernel, rfl⟩
theorem dX10_write_1 : dn cX10_write 1 (.invokestatic 84) 3 4 := ⟨by decide +kernel, rfl⟩
theorem dX10_write_4 : db cX10_write 4 (.ifCond .eq 36) 3 7 (36) 40 := ⟨by decide +kernel, rfl, rfl⟩
theorem dX10_write_7 : dn cX10_write 7 (.iload_n 2) 1 8 := ⟨by decide +kernel, rfl⟩
theorem dX10_write_8 : dn cX10_write 8 (.invokestatic 84) 3 11 := ⟨by decide +kernel, rfl⟩
theorem dX10_write_11 : db cX10_write 11 (.ifCond .eq 29) 3 14 (29) 40 := ⟨by decide +kernel, rfl, rfl⟩
theorem dX10_write_14 : dn cX10_write 14 (.iload_n 3) 1 15 := ⟨by decide +kernel, rfl⟩
theorem dX10_write_15 : dn cX10_write 15 (.invokestatic 84) 3 18 := ⟨by decide +kernel, rfl⟩
theorem dX10_write_18 : db cX10_write 18 (.ifCond .eq 22) 3 21 (22) 40 := ⟨by decide +kernel, rfl, rfl⟩
theorem dX10_write_21 : dn cX10_write 21 (.iload 4) 2 23 := ⟨by decide +kernel, rfl⟩
theorem dX10_write_23 : dn cX10_write 23 (.invokestatic 84) 3 26 := ⟨by decide +kernel, rfl⟩
theorem dX10_write_26 : db cX10_write 26 (.ifCond .eq 14) 3 29 (14) 40 := ⟨by decide +kernel, rfl, rfl⟩
theorem dX10_write_29 : dn cX10_write 29 (.iload_n 1) 1 30 := ⟨by decide +kernel, rfl⟩
theorem dX10_write_30 : dn cX10_write 30 (.iload_n 3) 1 31 := ⟨by decide +kernel, rfl⟩
theorem dX10_write_31 : db cX10_write 31 (.if_icmp .ge 9) 3 34 (9) 40 := ⟨by decide +kernel, rfl, rfl⟩
theorem dX10_write_34 : dn cX10_write 34 (.iload_n 2) 1 35 := ⟨by decide +kernel, rfl⟩
theorem dX10_write_35 : dn cX10_write 35 (.iload 4) 2 37 := ⟨by decide +kernel, rfl⟩
theorem dX10_write_37 : db cX10_write 37 (.if_icmp .lt 6) 3 40 (6) 43 := ⟨by decide +kernel, rfl, rfl⟩
theorem dX10_write_40 : dn cX10_write 40 (.bipush (-2)) 2 42 := ⟨by decide +kernel, rfl⟩
theorem dX10_write_42 : dn cX10_write 42 (.ireturn) 1 43 := ⟨by decide +kernel, rfl⟩
theorem dX10_write_43 : dn cX10_write 43 (.aload_n 0) 1 44 := ⟨by decide +kernel, rfl⟩
theorem dX10_write_44 : dn cX10_write 44 (.getfield 92) 3 47 := ⟨by decide +kernel, rfl⟩
theorem dX10_write_47 : dn cX10_write 47 (.bipush 20) 2 49 := ⟨by decide +kernel, rfl⟩
theorem dX10_write_49 : db cX10_write 49 (.if_icmp .ne 6) 3 52 (6) 55 := ⟨by decide +kernel, rfl, rfl⟩
theorem dX10_write_52 : dn cX10_write 52 (.bipush (-4)) 2 54 := ⟨by decide +kernel, rfl⟩
theorem dX10_write_54 : dn cX10_write 54 (.ireturn) 1 55 := ⟨by decide +kernel, rfl⟩
theorem dX10_write_55 : dn cX10_write 55 (.aload_n 0) 1 56 := ⟨by decide +kernel, rfl⟩
theorem dX10_write_56 : dn cX10_write 56 (.getfield 13) 3 59 := ⟨by decide +kernel, rfl⟩
theorem dX10_write_59 : dn cX10_write 59 (.iconst 4) 1 60 := ⟨by decide +kernel, rfl⟩
theorem dX10_write_60 : dn cX10_write 60 (.aload_n 0) 1 61 := ⟨by decide +kernel, rfl⟩
theorem dX10_write_61 : dn cX10_write 61 (.getfield 92) 3 64 := ⟨by decide +kernel, rfl⟩
theorem dX10_write_64 : dn cX10_write 64 (.imul) 1 65 := ⟨by decide +kernel, rfl⟩
theorem dX10_write_65 : dn cX10_write 65 (.iload_n 1) 1 66 := ⟨by decide +kernel, rfl⟩
theorem dX10_write_66 : dn cX10_write 66 (.iastore) 1 67 := ⟨by decide +kernel, rfl⟩
theorem dX10_write_67 : dn cX10_write 67 (.aload_n 0) 1 68 := ⟨by decide +kernel, rfl⟩
theorem dX10_write_68 : dn cX10_write 68 (.getfield 13) 3 71 := ⟨by decide +kernel, rfl⟩
theorem dX10_write_71 : dn cX10_write 71 (.iconst 4) 1 72 := ⟨by decide +kernel, rfl⟩
theorem dX10_write_72 : dn cX10_write 72 (.aload_n 0) 1 73 := ⟨by decide +kernel, rfl⟩
theorem dX10_write_73 : dn cX10_write 73 (.getfield 92) 3 76 := ⟨by decide +kernel, rfl⟩
theorem dX10_write_76 : dn cX10_write 76 (.imul) 1 77 := ⟨by decide +kernel, rfl⟩
theorem dX10_write_77 : dn cX10_write 77 (.iconst 1) 1 78 := ⟨by decide +kernel, rfl⟩
theorem dX10_write_78 : dn cX10_write 78 (.iadd) 1 79 := ⟨by decide +kernel, rfl⟩
theorem dX10_write_79 : dn cX10_write 79 (.iload_n 2) 1 80 := ⟨by decide +kernel, rfl⟩
theorem dX10_write_80 : dn cX10_write 80 (.iastore) 1 81 := ⟨by decide +kernel, rfl⟩
theorem dX10_write_81 : dn cX10_write 81 (.aload_n 0) 1 82 := ⟨by decide +kernel, rfl⟩
theorem dX10_write_82 : dn cX10_write 82 (.getfield 13) 3 85 := ⟨by decide +kernel, rfl⟩
theorem dX10_write_85 : dn cX10_write 85 (.iconst 4) 1 86 := ⟨by decide +kernel, rfl⟩
theorem dX10_write_86 : dn cX10_write 86 (.aload_n 0) 1 87 := ⟨by decide +kernel, rfl⟩
theorem dX10_write_87 : dn cX10_write 87 (.getfield 92) 3 90 := ⟨by decide +kernel, rfl⟩
theorem dX10_write_90 : dn cX10_write 90 (.imul) 1 91 := ⟨by decide +kernel, rfl⟩
theorem dX10_write_91 : dn cX10_write 91 (.iconst 2) 1 92 := ⟨by decide +kernel, rfl⟩
theorem dX10_write_92 : dn cX10_write 92 (.iadd) 1 93 := ⟨by decide +kernel, rfl⟩
theorem dX10_write_93 : dn cX10_write 93 (.iload_n 3) 1 94 := ⟨by decide +kernel, rfl⟩
theorem dX10_write_94 : dn cX10_write 94 (.iastore) 1 95 := ⟨by decide +kernel, rfl⟩
theorem dX10_write_95 : dn cX10_write 95 (.aload_n 0) 1 96 := ⟨by decide +kernel, rfl⟩
theorem dX10_write_96 : dn cX10_write 96 (.getfield 13) 3 99 := ⟨by decide +kernel, rfl⟩
theorem dX10_write_99 : dn cX10_write 99 (.iconst 4) 1 100 := ⟨by decide +kernel, rfl⟩
theorem dX10_write_100 : dn cX10_write 100 (.aload_n 0) 1 101 := ⟨by decide +kernel, rfl⟩
theorem dX10_write_101 : dn cX10_write 101 (.getfield 92) 3 104 := ⟨by decide +kernel, rfl⟩
theorem dX10_write_104 : dn cX10_write 104 (.imul) 1 105 := ⟨by decide +kernel, rfl⟩
theorem dX10_write_105 : dn cX10_write 105 (.iconst 3) 1 106 := ⟨by decide +kernel, rfl⟩
theorem dX10_write_106 : dn cX10_write 106 (.iadd) 1 107 := ⟨by decide +kernel, rfl⟩
theorem dX10_write_107 : dn cX10_write 107 (.iload 4) 2 109 := ⟨by decide +kernel, rfl⟩
theorem dX10_write_109 : dn cX10_write 109 (.iastore) 1 110 := ⟨by decide +kernel, rfl⟩
theorem dX10_write_110 : dn cX10_write 110 (.aload_n 0) 1 111 := ⟨by decide +kernel, rfl⟩
theorem dX10_write_111 : dn cX10_write 111 (.dup) 1 112 := ⟨by decide +kernel, rfl⟩
theorem dX10_write_112 : dn cX10_write 112 (.getfield 92) 3 115 := ⟨by decide +kernel, rfl⟩
theorem dX10_write_115 : dn cX10_write 115 (.iconst 1) 1 116 := ⟨by decide +kernel, rfl⟩
theorem dX10_write_116 : dn cX10_write 116 (.iadd) 1 117 := ⟨by decide +kernel, rfl⟩
theorem dX10_write_117 : dn cX10_write 117 (.putfield 92) 3 120 := ⟨by decide +kernel, rfl⟩
theorem dX10_write_120 : dn cX10_write 120 (.aload_n 0) 1 121 := ⟨by decide +kernel, rfl⟩
theorem dX10_write_121 : dn cX10_write 121 (.iconst 0) 1 122 := ⟨by decide +kernel, rfl⟩
theorem dX10_write_122 : dn cX10_write 122 (.putfield 74) 3 125 := ⟨by decide +kernel, rfl⟩
theorem dX10_write_125 : dn cX10_write 125 (.aload_n 0) 1 126 := ⟨by decide +kernel, rfl⟩
theorem dX10_write_126 : dn cX10_write 126 (.getfield 92) 3 129 := ⟨by decide +kernel, rfl⟩
theorem dX10_write_129 : dn cX10_write 129 (.ireturn) 1 130 := ⟨by decide +kernel, rfl⟩
theorem dX10_strike_0 : dn cX10_strike 0 (.iload_n 1) 1 1 := ⟨by decide +kernel, rfl⟩
theorem dX10_strike_1 : dn cX10_strike 1 (.i2l) 1 2 := ⟨by decide +kernel, rfl⟩
theorem dX10_strike_2 : dn cX10_strike 2 (.lconst 0) 1 3 := ⟨by decide +kernel, rfl⟩
theorem dX10_strike_3 : dn cX10_strike 3 (.aload_n 0) 1 4 := ⟨by decide +kernel, rfl⟩
theorem dX10_strike_4 : dn cX10_strike 4 (.getfield 92) 3 7 := ⟨by decide +kernel, rfl⟩
theorem dX10_strike_7 : dn cX10_strike 7 (.iconst 1) 1 8 := ⟨by decide +kernel, rfl⟩
theorem dX10_strike_8 : dn cX10_strike 8 (.isub) 1 9 := ⟨by decide +kernel, rfl⟩
theorem dX10_strike_9 : dn cX10_strike 9 (.i2l) 1 10 := ⟨by decide +kernel, rfl⟩
theorem dX10_strike_10 : dn cX10_strike 10 (.invokestatic 64) 3 13 := ⟨by decide +kernel, rfl⟩
theorem dX10_strike_13 : db cX10_strike 13 (.ifCond .ne 5) 3 16 (5) 18 := ⟨by decide +kernel, rfl, rfl⟩
theorem dX10_strike_16 : dn cX10_strike 16 (.iconst (-1)) 1 17 := ⟨by decide +kernel, rfl⟩
theorem dX10_strike_17 : dn cX10_strike 17 (.ireturn) 1 18 := ⟨by decide +kernel, rfl⟩
theorem dX10_strike_18 : dn cX10_strike 18 (.aload_n 0) 1 19 := ⟨by decide +kernel, rfl⟩
theorem dX10_strike_19 : dn cX10_strike 19 (.dup) 1 20 := ⟨by decide +kernel, rfl⟩
theorem dX10_strike_20 : dn cX10_strike 20 (.getfield 92) 3 23 := ⟨by decide +kernel, rfl⟩
theorem dX10_strike_23 : dn cX10_strike 23 (.iconst 1) 1 24 := ⟨by decide +kernel, rfl⟩
theorem dX10_strike_24 : dn cX10_strike 24 (.isub) 1 25 := ⟨by decide +kernel, rfl⟩
theorem dX10_strike_25 : dn cX10_strike 25 (.putfield 92) 3 28 := ⟨by decide +kernel, rfl⟩
theorem dX10_strike_28 : dn cX10_strike 28 (.iconst 4) 1 29 := ⟨by decide +kernel, rfl⟩
theorem dX10_strike_29 : dn cX10_strike 29 (.iload_n 1) 1 30 := ⟨by decide +kernel, rfl⟩
theorem dX10_strike_30 : dn cX10_strike 30 (.imul) 1 31 := ⟨by decide +kernel, rfl⟩
theorem dX10_strike_31 : dn cX10_strike 31 (.istore_n 2) 1 32 := ⟨by decide +kernel, rfl⟩
theorem dX10_strike_32 : dn cX10_strike 32 (.iload_n 2) 1 33 := ⟨by decide +kernel, rfl⟩
theorem dX10_strike_33 : dn cX10_strike 33 (.iconst 4) 1 34 := ⟨by decide +kernel, rfl⟩
theorem dX10_strike_34 : dn cX10_strike 34 (.aload_n 0) 1 35 := ⟨by decide +kernel, rfl⟩
theorem dX10_strike_35 : dn cX10_strike 35 (.getfield 92) 3 38 := ⟨by decide +kernel, rfl⟩
theorem dX10_strike_38 : dn cX10_strike 38 (.imul) 1 39 := ⟨by decide +kernel, rfl⟩
theorem dX10_strike_39 : db cX10_strike 39 (.if_icmp .ge 23) 3 42 (23) 62 := ⟨by decide +kernel, rfl, rfl⟩
theorem dX10_strike_42 : dn cX10_strike 42 (.aload_n 0) 1 43 := ⟨by decide +kernel, rfl⟩
theorem dX10_strike_43 : dn cX10_strike 43 (.getfield 13) 3 46 := ⟨by decide +kernel, rfl⟩
theorem dX10_strike_46 : dn cX10_strike 46 (.iload_n 2) 1 47 := ⟨by decide +kernel, rfl⟩
theorem dX10_strike_47 : dn cX10_strike 47 (.aload_n 0) 1 48 := ⟨by decide +kernel, rfl⟩
theorem dX10_strike_48 : dn cX10_strike 48 (.getfield 13) 3 51 := ⟨by decide +kernel, rfl⟩
theorem dX10_strike_51 : dn cX10_strike 51 (.iload_n 2) 1 52 := ⟨by decide +kernel, rfl⟩
theorem dX10_strike_52 : dn cX10_strike 52 (.iconst 4) 1 53 := ⟨by decide +kernel, rfl⟩
theorem dX10_strike_53 : dn cX10_strike 53 (.iadd) 1 54 := ⟨by decide +kernel, rfl⟩
theorem dX10_strike_54 : dn cX10_strike 54 (.iaload) 1 55 := ⟨by decide +kernel, rfl⟩
theorem dX10_strike_55 : dn cX10_strike 55 (.iastore) 1 56 := ⟨by decide +kernel, rfl⟩
theorem dX10_strike_56 : dn cX10_strike 56 (.iinc 2 1) 3 59 := ⟨by decide +kernel, rfl⟩
theorem dX10_strike_59 : db cX10_strike 59 (.goto (-27)) 3 62 (-27) 32 := ⟨by decide +kernel, rfl, rfl⟩
theorem dX10_strike_62 : dn cX10_strike 62 (.aload_n 0) 1 63 := ⟨by decide +kernel, rfl⟩
theorem dX10_strike_63 : dn cX10_strike 63 (.iconst 0) 1 64 := ⟨by decide +kernel, rfl⟩
theorem dX10_strike_64 : dn cX10_strike 64 (.putfield 74) 3 67 := ⟨by decide +kernel, rfl⟩
theorem dX10_strike_67 : dn cX10_strike 67 (.aload_n 0) 1 68 := ⟨by decide +kernel, rfl⟩
theorem dX10_strike_68 : dn cX10_strike 68 (.getfield 92) 3 71 := ⟨by decide +kernel, rfl⟩
theorem dX10_strike_71 : dn cX10_strike 71 (.ireturn) 1 72 := ⟨by decide +kernel, rfl⟩
theorem dX10_ruleAt_0 : dn cX10_ruleAt 0 (.aload_n 0) 1 1 := ⟨by decide +kernel, rfl⟩
theorem dX10_ruleAt_1 : dn cX10_ruleAt 1 (.getfield 22) 3 4 := ⟨by decide +kernel, rfl⟩
theorem dX10_ruleAt_4 : dn cX10_ruleAt 4 (.bipush 7) 2 6 := ⟨by decide +kernel, rfl⟩
theorem dX10_ruleAt_6 : dn cX10_ruleAt 6 (.iload_n 1) 1 7 := ⟨by decide +kernel, rfl⟩
theorem dX10_ruleAt_7 : dn cX10_ruleAt 7 (.imul) 1 8 := ⟨by decide +kernel, rfl⟩
theorem dX10_ruleAt_8 : dn cX10_ruleAt 8 (.iload_n 2) 1 9 := ⟨by decide +kernel, rfl⟩
theorem dX10_ruleAt_9 : dn cX10_ruleAt 9 (.iadd) 1 10 := ⟨by decide +kernel, rfl⟩
theorem dX10_ruleAt_10 : dn cX10_ruleAt 10 (.iaload) 1 11 := ⟨by decide +kernel, rfl⟩
theorem dX10_ruleAt_11 : dn cX10_ruleAt 11 (.ireturn) 1 12 := ⟨by decide +kernel, rfl⟩
theorem dX10_isNear_0 : dn cX10_isNear 0 (.aload_n 0) 1 1 := ⟨by decide +kernel, rfl⟩
theorem dX10_isNear_1 : dn cX10_isNear 1 (.iload_n 1) 1 2 := ⟨by decide +kernel, rfl⟩
theorem dX10_isNear_2 : dn cX10_isNear 2 (.iconst 1) 1 3 := ⟨by decide +kernel, rfl⟩
theorem dX10_isNear_3 : dn cX10_isNear 3 (.invokevirtual 95) 3 6 := ⟨by decide +kernel, rfl⟩
theorem dX10_isNear_6 : dn cX10_isNear 6 (.aload_n 0) 1 7 := ⟨by decide +kernel, rfl⟩
theorem dX10_isNear_7 : dn cX10_isNear 7 (.iload_n 2) 1 8 := ⟨by decide +kernel, rfl⟩
theorem dX10_isNear_8 : dn cX10_isNear 8 (.iconst 1) 1 9 := ⟨by decide +kernel, rfl⟩
theorem dX10_isNear_9 : dn cX10_isNear 9 (.invokevirtual 95) 3 12 := ⟨by decide +kernel, rfl⟩
theorem dX10_isNear_12 : dn cX10_isNear 12 (.isub) 1 13 := ⟨by decide +kernel, rfl⟩
theorem dX10_isNear_13 : dn cX10_isNear 13 (.istore_n 3) 1 14 := ⟨by decide +kernel, rfl⟩
theorem dX10_isNear_14 : dn cX10_isNear 14 (.aload_n 0) 1 15 := ⟨by decide +kernel, rfl⟩
theorem dX10_isNear_15 : dn cX10_isNear 15 (.iload_n 1) 1 16 := ⟨by decide +kernel, rfl⟩
theorem dX10_isNear_16 : dn cX10_isNear 16 (.iconst 2) 1 17 := ⟨by decide +kernel, rfl⟩
theorem dX10_isNear_17 : dn cX10_isNear 17 (.invokevirtual 95) 3 20 := ⟨by decide +kernel, rfl⟩
theorem dX10_isNear_20 : dn cX10_isNear 20 (.aload_n 0) 1 21 := ⟨by decide +kernel, rfl⟩
theorem dX10_isNear_21 : dn cX10_isNear 21 (.iload_n 2) 1 22 := ⟨by decide +kernel, rfl⟩
theorem dX10_isNear_22 : dn cX10_isNear 22 (.iconst 2) 1 23 := ⟨by decide +kernel, rfl⟩
theorem dX10_isNear_23 : dn cX10_isNear 23 (.invokevirtual 95) 3 26 := ⟨by decide +kernel, rfl⟩
theorem dX10_isNear_26 : dn cX10_isNear 26 (.invokestatic 99) 3 29 := ⟨by decide +kernel, rfl⟩
theorem dX10_isNear_29 : dn cX10_isNear 29 (.aload_n 0) 1 30 := ⟨by decide +kernel, rfl⟩
theorem dX10_isNear_30 : dn cX10_isNear 30 (.iload_n 1) 1 31 := ⟨by decide +kernel, rfl⟩
theorem dX10_isNear_31 : dn cX10_isNear 31 (.iconst 3) 1 32 := ⟨by decide +kernel, rfl⟩
theorem dX10_isNear_32 : dn cX10_isNear 32 (.invokevirtual 95) 3 35 := ⟨by decide +kernel, rfl⟩
theorem dX10_isNear_35 : dn cX10_isNear 35 (.aload_n 0) 1 36 := ⟨by decide +kernel, rfl⟩
theorem dX10_isNear_36 : dn cX10_isNear 36 (.iload_n 2) 1 37 := ⟨by decide +kernel, rfl⟩
theorem dX10_isNear_37 : dn cX10_isNear 37 (.iconst 3) 1 38 := ⟨by decide +kernel, rfl⟩
theorem dX10_isNear_38 : dn cX10_isNear 38 (.invokevirtual 95) 3 41 := ⟨by decide +kernel, rfl⟩
theorem dX10_isNear_41 : dn cX10_isNear 41 (.invokestatic 102) 3 44 := ⟨by decide +kernel, rfl⟩
theorem dX10_isNear_44 : dn cX10_isNear 44 (.aload_n 0) 1 45 := ⟨by decide +kernel, rfl⟩
theorem dX10_isNear_45 : dn cX10_isNear 45 (.getfield 16) 3 48 := ⟨by decide +kernel, rfl⟩
theorem dX10_isNear_48 : dn cX10_isNear 48 (.iconst 1) 1 49 := ⟨by decide +kernel, rfl⟩
theorem dX10_isNear_49 : dn cX10_isNear 49 (.iaload) 1 50 := ⟨by decide +kernel, rfl⟩
theorem dX10_isNear_50 : dn cX10_isNear 50 (.iadd) 1 51 := ⟨by decide +kernel, rfl⟩
theorem dX10_isNear_51 : db cX10_isNear 51 (.if_icmp .gt 7) 3 54 (7) 58 := ⟨by decide +kernel, rfl, rfl⟩
theorem dX10_isNear_54 : dn cX10_isNear 54 (.iconst 1) 1 55 := ⟨by decide +kernel, rfl⟩
theorem dX10_isNear_55 : db cX10_isNear 55 (.goto 4) 3 58 (4) 59 := ⟨by decide +kernel, rfl, rfl⟩
theorem dX10_isNear_58 : dn cX10_isNear 58 (.iconst 0) 1 59 := ⟨by decide +kernel, rfl⟩
theorem dX10_isNear_59 : dn cX10_isNear 59 (.istore 4) 2 61 := ⟨by decide +kernel, rfl⟩
theorem dX10_isNear_61 : dn cX10_isNear 61 (.aload_n 0) 1 62 := ⟨by decide +kernel, rfl⟩
theorem dX10_isNear_62 : dn cX10_isNear 62 (.iload_n 1) 1 63 := ⟨by decide +kernel, rfl⟩
theorem dX10_isNear_63 : dn cX10_isNear 63 (.iconst 0) 1 64 := ⟨by decide +kernel, rfl⟩
theorem dX10_isNear_64 : dn cX10_isNear 64 (.invokevirtual 95) 3 67 := ⟨by decide +kernel, rfl⟩
theorem dX10_isNear_67 : dn cX10_isNear 67 (.aload_n 0) 1 68 := ⟨by decide +kernel, rfl⟩
theorem dX10_isNear_68 : dn cX10_isNear 68 (.iload_n 2) 1 69 := ⟨by decide +kernel, rfl⟩
theorem dX10_isNear_69 : dn cX10_isNear 69 (.iconst 0) 1 70 := ⟨by decide +kernel, rfl⟩
theorem dX10_isNear_70 : dn cX10_isNear 70 (.invokevirtual 95) 3 73 := ⟨by decide +kernel, rfl⟩
theorem dX10_isNear_73 : db cX10_isNear 73 (.if_icmp .ne 33) 3 76 (33) 106 := ⟨by decide +kernel, rfl, rfl⟩
theorem dX10_isNear_76 : dn cX10_isNear 76 (.iload_n 3) 1 77 := ⟨by decide +kernel, rfl⟩
theorem dX10_isNear_77 : dn cX10_isNear 77 (.aload_n 0) 1 78 := ⟨by decide +kernel, rfl⟩
theorem dX10_isNear_78 : dn cX10_isNear 78 (.getfield 16) 3 81 := ⟨by decide +kernel, rfl⟩
theorem dX10_isNear_81 : dn cX10_isNear 81 (.iconst 0) 1 82 := ⟨by decide +kernel, rfl⟩
theorem dX10_isNear_82 : dn cX10_isNear 82 (.iaload) 1 83 := ⟨by decide +kernel, rfl⟩
theorem dX10_isNear_83 : db cX10_isNear 83 (.if_icmp .gt 23) 3 86 (23) 106 := ⟨by decide +kernel, rfl, rfl⟩
theorem dX10_isNear_86 : dn cX10_isNear 86 (.iload_n 3) 1 87 := ⟨by decide +kernel, rfl⟩
theorem dX10_isNear_87 : dn cX10_isNear 87 (.ineg) 1 88 := ⟨by decide +kernel, rfl⟩
theorem dX10_isNear_88 : dn cX10_isNear 88 (.aload_n 0) 1 89 := ⟨by decide +kernel, rfl⟩
theorem dX10_isNear_89 : dn cX10_isNear 89 (.getfield 16) 3 92 := ⟨by decide +kernel, rfl⟩
theorem dX10_isNear_92 : dn cX10_isNear 92 (.iconst 0) 1 93 := ⟨by decide +kernel, rfl⟩
theorem dX10_isNear_93 : dn cX10_isNear 93 (.iaload) 1 94 := ⟨by decide +kernel, rfl⟩
theorem dX10_isNear_94 : db cX10_isNear 94 (.if_icmp .gt 12) 3 97 (12) 106 := ⟨by decide +kernel, rfl, rfl⟩
theorem dX10_isNear_97 : dn cX10_isNear 97 (.iload 4) 2 99 := ⟨by decide +kernel, rfl⟩
theorem dX10_isNear_99 : db cX10_isNear 99 (.ifCond .eq 7) 3 102 (7) 106 := ⟨by decide +kernel, rfl, rfl⟩
theorem dX10_isNear_102 : dn cX10_isNear 102 (.iconst 1) 1 103 := ⟨by decide +kernel, rfl⟩
theorem dX10_isNear_103 : db cX10_isNear 103 (.goto 4) 3 106 (4) 107 := ⟨by decide +kernel, rfl, rfl⟩
theorem dX10_isNear_106 : dn cX10_isNear 106 (.iconst 0) 1 107 := ⟨by decide +kernel, rfl⟩
theorem dX10_isNear_107 : dn cX10_isNear 107 (.ireturn) 1 108 := ⟨by decide +kernel, rfl⟩
theorem dX10_join_0 : dn cX10_join 0 (.aload_n 0) 1 1 := ⟨by decide +kernel, rfl⟩
theorem dX10_join_1 : dn cX10_join 1 (.getfield 19) 3 4 := ⟨by decide +kernel, rfl⟩
theorem dX10_join_4 : dn cX10_join 4 (.iload_n 1) 1 5 := ⟨by decide +kernel, rfl⟩
theorem dX10_join_5 : dn cX10_join 5 (.iaload) 1 6 := ⟨by decide +kernel, rfl⟩
theorem dX10_join_6 : dn cX10_join 6 (.aload_n 0) 1 7 := ⟨by decide +kernel, rfl⟩
theorem dX10_join_7 : dn cX10_join 7 (.getfield 19) 3 10 := ⟨by decide +kernel, rfl⟩
theorem dX10_join_10 : dn cX10_join 10 (.iload_n 2) 1 11 := ⟨by decide +kernel, rfl⟩
theorem dX10_join_11 : dn cX10_join 11 (.iaload) 1 12 := ⟨by decide +kernel, rfl⟩
theorem dX10_join_12 : dn cX10_join 12 (.invokestatic 102) 3 15 := ⟨by decide +kernel, rfl⟩
theorem dX10_join_15 : dn cX10_join 15 (.istore 4) 2 17 := ⟨by decide +kernel, rfl⟩
theorem dX10_join_17 : dn cX10_join 17 (.aload_n 0) 1 18 := ⟨by decide +kernel, rfl⟩
theorem dX10_join_18 : dn cX10_join 18 (.getfield 19) 3 21 := ⟨by decide +kernel, rfl⟩
theorem dX10_join_21 : dn cX10_join 21 (.iload_n 1) 1 22 := ⟨by decide +kernel, rfl⟩
theorem dX10_join_22 : dn cX10_join 22 (.iaload) 1 23 := ⟨by decide +kernel, rfl⟩
theorem dX10_join_23 : dn cX10_join 23 (.aload_n 0) 1 24 := ⟨by decide +kernel, rfl⟩
theorem dX10_join_24 : dn cX10_join 24 (.getfield 19) 3 27 := ⟨by decide +kernel, rfl⟩
theorem dX10_join_27 : dn cX10_join 27 (.iload_n 2) 1 28 := ⟨by decide +kernel, rfl⟩
theorem dX10_join_28 : dn cX10_join 28 (.iaload) 1 29 := ⟨by decide +kernel, rfl⟩
theorem dX10_join_29 : dn cX10_join 29 (.invokestatic 99) 3 32 := ⟨by decide +kernel, rfl⟩
theorem dX10_join_32 : dn cX10_join 32 (.istore 5) 2 34 := ⟨by decide +kernel, rfl⟩
theorem dX10_join_34 : dn cX10_join 34 (.iconst 0) 1 35 := ⟨by decide +kernel, rfl⟩
theorem dX10_join_35 : dn cX10_join 35 (.istore 6) 2 37 := ⟨by decide +kernel, rfl⟩
theorem dX10_join_37 : dn cX10_join 37 (.iload 6) 2 39 := ⟨by decide +kernel, rfl⟩
theorem dX10_join_39 : dn cX10_join 39 (.iload_n 3) 1 40 := ⟨by decide +kernel, rfl⟩
theorem dX10_join_40 : db cX10_join 40 (.if_icmp .ge 40) 3 43 (40) 80 := ⟨by decide +kernel, rfl, rfl⟩
theorem dX10_join_43 : dn cX10_join 43 (.aload_n 0) 1 44 := ⟨by decide +kernel, rfl⟩
theorem dX10_join_44 : dn cX10_join 44 (.getfield 19) 3 47 := ⟨by decide +kernel, rfl⟩
theorem dX10_join_47 : dn cX10_join 47 (.iload 6) 2 49 := ⟨by decide +kernel, rfl⟩
theorem dX10_join_49 : dn cX10_join 49 (.aload_n 0) 1 50 := ⟨by decide +kernel, rfl⟩
theorem dX10_join_50 : dn cX10_join 50 (.getfield 19) 3 53 := ⟨by decide +kernel, rfl⟩
theorem dX10_join_53 : dn cX10_join 53 (.iload 6) 2 55 := ⟨by decide +kernel, rfl⟩
theorem dX10_join_55 : dn cX10_join 55 (.iaload) 1 56 := ⟨by decide +kernel, rfl⟩
theorem dX10_join_56 : dn cX10_join 56 (.iload 5) 2 58 := ⟨by decide +kernel, rfl⟩
theorem dX10_join_58 : db cX10_join 58 (.if_icmp .ne 8) 3 61 (8) 66 := ⟨by decide +kernel, rfl, rfl⟩
theorem dX10_join_61 : dn cX10_join 61 (.iload 4) 2 63 := ⟨by decide +kernel, rfl⟩
theorem dX10_join_63 : db cX10_join 63 (.goto 10) 3 66 (10) 73 := ⟨by decide +kernel, rfl, rfl⟩
theorem dX10_join_66 : dn cX10_join 66 (.aload_n 0) 1 67 := ⟨by decide +kernel, rfl⟩
theorem dX10_join_67 : dn cX10_join 67 (.getfield 19) 3 70 := ⟨by decide +kernel, rfl⟩
theorem dX10_join_70 : dn cX10_join 70 (.iload 6) 2 72 := ⟨by decide +kernel, rfl⟩
theorem dX10_join_72 : dn cX10_join 72 (.iaload) 1 73 := ⟨by decide +kernel, rfl⟩
theorem dX10_join_73 : dn cX10_join 73 (.iastore) 1 74 := ⟨by decide +kernel, rfl⟩
theorem dX10_join_74 : dn cX10_join 74 (.iinc 6 1) 3 77 := ⟨by decide +kernel, rfl⟩
theorem dX10_join_77 : db cX10_join 77 (.goto (-40)) 3 80 (-40) 37 := ⟨by decide +kernel, rfl, rfl⟩
theorem dX10_join_80 : dn cX10_join 80 (.return_) 1 81 := ⟨by decide +kernel, rfl⟩
theorem dX10_begin_0 : dn cX10_begin 0 (.iconst 0) 1 1 := ⟨by decide +kernel, rfl⟩
theorem dX10_begin_1 : dn cX10_begin 1 (.istore_n 2) 1 2 := ⟨by decide +kernel, rfl⟩
theorem dX10_begin_2 : dn cX10_begin 2 (.iload_n 2) 1 3 := ⟨by decide +kernel, rfl⟩
theorem dX10_begin_3 : dn cX10_begin 3 (.iload_n 1) 1 4 := ⟨by decide +kernel, rfl⟩
theorem dX10_begin_4 : db cX10_begin 4 (.if_icmp .ge 16) 3 7 (16) 20 := ⟨by decide +kernel, rfl, rfl⟩
theorem dX10_begin_7 : dn cX10_begin 7 (.aload_n 0) 1 8 := ⟨by decide +kernel, rfl⟩
theorem dX10_begin_8 : dn cX10_begin 8 (.getfield 19) 3 11 := ⟨by decide +kernel, rfl⟩
theorem dX10_begin_11 : dn cX10_begin 11 (.iload_n 2) 1 12 := ⟨by decide +kernel, rfl⟩
theorem dX10_begin_12 : dn cX10_begin 12 (.iload_n 2) 1 13 := ⟨by decide +kernel, rfl⟩
theorem dX10_begin_13 : dn cX10_begin 13 (.iastore) 1 14 := ⟨by decide +kernel, rfl⟩
theorem dX10_begin_14 : dn cX10_begin 14 (.iinc 2 1) 3 17 := ⟨by decide +kernel, rfl⟩
theorem dX10_begin_17 : db cX10_begin 17 (.goto (-15)) 3 20 (-15) 2 := ⟨by decide +kernel, rfl, rfl⟩
theorem dX10_begin_20 : dn cX10_begin 20 (.return_) 1 21 := ⟨by decide +kernel, rfl⟩
theorem dX10_addRule_0 : dn cX10_addRule 0 (.bipush 7) 2 2 := ⟨by decide +kernel, rfl⟩
theorem dX10_addRule_2 : dn cX10_addRule 2 (.aload_n 0) 1 3 := ⟨by decide +kernel, rfl⟩
theorem dX10_addRule_3 : dn cX10_addRule 3 (.getfield 105) 3 6 := ⟨by decide +kernel, rfl⟩
theorem dX10_addRule_6 : dn cX10_addRule 6 (.imul) 1 7 := ⟨by decide +kernel, rfl⟩
theorem dX10_addRule_7 : dn cX10_addRule 7 (.istore_n 2) 1 8 := ⟨by decide +kernel, rfl⟩
theorem dX10_addRule_8 : dn cX10_addRule 8 (.iconst (-1)) 1 9 := ⟨by decide +kernel, rfl⟩
theorem dX10_addRule_9 : dn cX10_addRule 9 (.istore_n 3) 1 10 := ⟨by decide +kernel, rfl⟩
theorem dX10_addRule_10 : dn cX10_addRule 10 (.aload_n 0) 1 11 := ⟨by decide +kernel, rfl⟩
theorem dX10_addRule_11 : dn cX10_addRule 11 (.getfield 22) 3 14 := ⟨by decide +kernel, rfl⟩
theorem dX10_addRule_14 : dn cX10_addRule 14 (.iload_n 2) 1 15 := ⟨by decide +kernel, rfl⟩
theorem dX10_addRule_15 : dn cX10_addRule 15 (.aload_n 0) 1 16 := ⟨by decide +kernel, rfl⟩
theorem dX10_addRule_16 : dn cX10_addRule 16 (.iload_n 1) 1 17 := ⟨by decide +kernel, rfl⟩
theorem dX10_addRule_17 : dn cX10_addRule 17 (.iconst 0) 1 18 := ⟨by decide +kernel, rfl⟩
theorem dX10_addRule_18 : dn cX10_addRule 18 (.invokevirtual 95) 3 21 := ⟨by decide +kernel, rfl⟩
theorem dX10_addRule_21 : dn cX10_addRule 21 (.iastore) 1 22 := ⟨by decide +kernel, rfl⟩
theorem dX10_addRule_22 : dn cX10_addRule 22 (.aload_n 0) 1 23 := ⟨by decide +kernel, rfl⟩
theorem dX10_addRule_23 : dn cX10_addRule 23 (.getfield 22) 3 26 := ⟨by decide +kernel, rfl⟩
theorem dX10_addRule_26 : dn cX10_addRule 26 (.iload_n 2) 1 27 := ⟨by decide +kernel, rfl⟩
theorem dX10_addRule_27 : dn cX10_addRule 27 (.iconst 2) 1 28 := ⟨by decide +kernel, rfl⟩
theorem dX10_addRule_28 : dn cX10_addRule 28 (.iadd) 1 29 := ⟨by decide +kernel, rfl⟩
theorem dX10_addRule_29 : dn cX10_addRule 29 (.bipush 99) 2 31 := ⟨by decide +kernel, rfl⟩
theorem dX10_addRule_31 : dn cX10_addRule 31 (.iastore) 1 32 := ⟨by decide +kernel, rfl⟩
theorem dX10_addRule_32 : dn cX10_addRule 32 (.aload_n 0) 1 33 := ⟨by decide +kernel, rfl⟩
theorem dX10_addRule_33 : dn cX10_addRule 33 (.getfield 22) 3 36 := ⟨by decide +kernel, rfl⟩
theorem dX10_addRule_36 : dn cX10_addRule 36 (.iload_n 2) 1 37 := ⟨by decide +kernel, rfl⟩
theorem dX10_addRule_37 : dn cX10_addRule 37 (.iconst 3) 1 38 := ⟨by decide +kernel, rfl⟩
theorem dX10_addRule_38 : dn cX10_addRule 38 (.iadd) 1 39 := ⟨by decide +kernel, rfl⟩
theorem dX10_addRule_39 : dn cX10_addRule 39 (.iconst 0) 1 40 := ⟨by decide +kernel, rfl⟩
theorem dX10_addRule_40 : dn cX10_addRule 40 (.iastore) 1 41 := ⟨by decide +kernel, rfl⟩
theorem dX10_addRule_41 : dn cX10_addRule 41 (.aload_n 0) 1 42 := ⟨by decide +kernel, rfl⟩
theorem dX10_addRule_42 : dn cX10_addRule 42 (.getfield 22) 3 45 := ⟨by decide +kernel, rfl⟩
theorem dX10_addRule_45 : dn cX10_addRule 45 (.iload_n 2) 1 46 := ⟨by decide +kernel, rfl⟩
theorem dX10_addRule_46 : dn cX10_addRule 46 (.iconst 4) 1 47 := ⟨by decide +kernel, rfl⟩
theorem dX10_addRule_47 : dn cX10_addRule 47 (.iadd) 1 48 := ⟨by decide +kernel, rfl⟩
theorem dX10_addRule_48 : dn cX10_addRule 48 (.iconst 0) 1 49 := ⟨by decide +kernel, rfl⟩
theorem dX10_addRule_49 : dn cX10_addRule 49 (.iastore) 1 50 := ⟨by decide +kernel, rfl⟩
theorem dX10_addRule_50 : dn cX10_addRule 50 (.aload_n 0) 1 51 := ⟨by decide +kernel, rfl⟩
theorem dX10_addRule_51 : dn cX10_addRule 51 (.getfield 22) 3 54 := ⟨by decide +kernel, rfl⟩
theorem dX10_addRule_54 : dn cX10_addRule 54 (.iload_n 2) 1 55 := ⟨by decide +kernel, rfl⟩
theorem dX10_addRule_55 : dn cX10_addRule 55 (.iconst 5) 1 56 := ⟨by decide +kernel, rfl⟩
theorem dX10_addRule_56 : dn cX10_addRule 56 (.iadd) 1 57 := ⟨by decide +kernel, rfl⟩
theorem dX10_addRule_57 : dn cX10_addRule 57 (.iload_n 1) 1 58 := ⟨by decide +kernel, rfl⟩
theorem dX10_addRule_58 : dn cX10_addRule 58 (.iastore) 1 59 := ⟨by decide +kernel, rfl⟩
theorem dX10_addRule_59 : dn cX10_addRule 59 (.aload_n 0) 1 60 := ⟨by decide +kernel, rfl⟩
theorem dX10_addRule_60 : dn cX10_addRule 60 (.getfield 22) 3 63 := ⟨by decide +kernel, rfl⟩
theorem dX10_addRule_63 : dn cX10_addRule 63 (.iload_n 2) 1 64 := ⟨by decide +kernel, rfl⟩
theorem dX10_addRule_64 : dn cX10_addRule 64 (.bipush 6) 2 66 := ⟨by decide +kernel, rfl⟩
theorem dX10_addRule_66 : dn cX10_addRule 66 (.iadd) 1 67 := ⟨by decide +kernel, rfl⟩
theorem dX10_addRule_67 : dn cX10_addRule 67 (.bipush (-6)) 2 69 := ⟨by decide +kernel, rfl⟩
theorem dX10_addRule_69 : dn cX10_addRule 69 (.iastore) 1 70 := ⟨by decide +kernel, rfl⟩
theorem dX10_addRule_70 : dn cX10_addRule 70 (.iconst 0) 1 71 := ⟨by decide +kernel, rfl⟩
theorem dX10_addRule_71 : dn cX10_addRule 71 (.istore 4) 2 73 := ⟨by decide +kernel, rfl⟩
theorem dX10_addRule_73 : dn cX10_addRule 73 (.iload 4) 2 75 := ⟨by decide +kernel, rfl⟩
theorem dX10_addRule_75 : dn cX10_addRule 75 (.aload_n 0) 1 76 := ⟨by decide +kernel, rfl⟩
theorem dX10_addRule_76 : dn cX10_addRule 76 (.getfield 80) 3 79 := ⟨by decide +kernel, rfl⟩
theorem dX10_addRule_79 : db cX10_addRule 79 (.if_icmp .ge 140) 3 82 (140) 219 := ⟨by decide +kernel, rfl, rfl⟩
theorem dX10_addRule_82 : dn cX10_addRule 82 (.aload_n 0) 1 83 := ⟨by decide +kernel, rfl⟩
theorem dX10_addRule_83 : dn cX10_addRule 83 (.getfield 19) 3 86 := ⟨by decide +kernel, rfl⟩
theorem dX10_addRule_86 : dn cX10_addRule 86 (.iload 4) 2 88 := ⟨by decide +kernel, rfl⟩
theorem dX10_addRule_88 : dn cX10_addRule 88 (.iaload) 1 89 := ⟨by decide +kernel, rfl⟩
theorem dX10_addRule_89 : dn cX10_addRule 89 (.iload_n 1) 1 90 := ⟨by decide +kernel, rfl⟩
theorem dX10_addRule_90 : db cX10_addRule 90 (.if_icmp .ne 123) 3 93 (123) 213 := ⟨by decide +kernel, rfl, rfl⟩
theorem dX10_addRule_93 : dn cX10_addRule 93 (.aload_n 0) 1 94 := ⟨by decide +kernel, rfl⟩
theorem dX10_addRule_94 : dn cX10_addRule 94 (.iload 4) 2 96 := ⟨by decide +kernel, rfl⟩
theorem dX10_addRule_96 : dn cX10_addRule 96 (.iconst 3) 1 97 := ⟨by decide +kernel, rfl⟩
theorem dX10_addRule_97 : dn cX10_addRule 97 (.invokevirtual 95) 3 100 := ⟨by decide +kernel, rfl⟩
theorem dX10_addRule_100 : dn cX10_addRule 100 (.aload_n 0) 1 101 := ⟨by decide +kernel, rfl⟩
theorem dX10_addRule_101 : dn cX10_addRule 101 (.iload 4) 2 103 := ⟨by decide +kernel, rfl⟩
theorem dX10_addRule_103 : dn cX10_addRule 103 (.iconst 2) 1 104 := ⟨by decide +kernel, rfl⟩
theorem dX10_addRule_104 : dn cX10_addRule 104 (.invokevirtual 95) 3 107 := ⟨by decide +kernel, rfl⟩
theorem dX10_addRule_107 : dn cX10_addRule 107 (.isub) 1 108 := ⟨by decide +kernel, rfl⟩
theorem dX10_addRule_108 : dn cX10_addRule 108 (.istore 5) 2 110 := ⟨by decide +kernel, rfl⟩
theorem dX10_addRule_110 : dn cX10_addRule 110 (.aload_n 0) 1 111 := ⟨by decide +kernel, rfl⟩
theorem dX10_addRule_111 : dn cX10_addRule 111 (.getfield 22) 3 114 := ⟨by decide +kernel, rfl⟩
theorem dX10_addRule_114 : dn cX10_addRule 114 (.iload_n 2) 1 115 := ⟨by decide +kernel, rfl⟩
theorem dX10_addRule_115 : dn cX10_addRule 115 (.iconst 1) 1 116 := ⟨by decide +kernel, rfl⟩
theorem dX10_addRule_116 : dn cX10_addRule 116 (.iadd) 1 117 := ⟨by decide +kernel, rfl⟩
theorem dX10_addRule_117 : dn cX10_addRule 117 (.iload 5) 2 119 := ⟨by decide +kernel, rfl⟩
theorem dX10_addRule_119 : dn cX10_addRule 119 (.iload_n 3) 1 120 := ⟨by decide +kernel, rfl⟩
theorem dX10_addRule_120 : db cX10_addRule 120 (.if_icmp .le 13) 3 123 (13) 133 := ⟨by decide +kernel, rfl, rfl⟩
theorem dX10_addRule_123 : dn cX10_addRule 123 (.aload_n 0) 1 124 := ⟨by decide +kernel, rfl⟩
theorem dX10_addRule_124 : dn cX10_addRule 124 (.iload 4) 2 126 := ⟨by decide +kernel, rfl⟩
theorem dX10_addRule_126 : dn cX10_addRule 126 (.iconst 1) 1 127 := ⟨by decide +kernel, rfl⟩
theorem dX10_addRule_127 : dn cX10_addRule 127 (.invokevirtual 95) 3 130 := ⟨by decide +kernel, rfl⟩
theorem dX10_addRule_130 : db cX10_addRule 130 (.goto 11) 3 133 (11) 141 := ⟨by decide +kernel, rfl, rfl⟩
theorem dX10_addRule_133 : dn cX10_addRule 133 (.aload_n 0) 1 134 := ⟨by decide +kernel, rfl⟩
theorem dX10_addRule_134 : dn cX10_addRule 134 (.getfield 22) 3 137 := ⟨by decide +kernel, rfl⟩
theorem dX10_addRule_137 : dn cX10_addRule 137 (.iload_n 2) 1 138 := ⟨by decide +kernel, rfl⟩
theorem dX10_addRule_138 : dn cX10_addRule 138 (.iconst 1) 1 139 := ⟨by decide +kernel, rfl⟩
theorem dX10_addRule_139 : dn cX10_addRule 139 (.iadd) 1 140 := ⟨by decide +kernel, rfl⟩
theorem dX10_addRule_140 : dn cX10_addRule 140 (.iaload) 1 141 := ⟨by decide +kernel, rfl⟩
theorem dX10_addRule_141 : dn cX10_addRule 141 (.iastore) 1 142 := ⟨by decide +kernel, rfl⟩
theorem dX10_addRule_142 : dn cX10_addRule 142 (.iload_n 3) 1 143 := ⟨by decide +kernel, rfl⟩
theorem dX10_addRule_143 : dn cX10_addRule 143 (.iload 5) 2 145 := ⟨by decide +kernel, rfl⟩
theorem dX10_addRule_145 : dn cX10_addRule 145 (.invokestatic 99) 3 148 := ⟨by decide +kernel, rfl⟩
theorem dX10_addRule_148 : dn cX10_addRule 148 (.istore_n 3) 1 149 := ⟨by decide +kernel, rfl⟩
theorem dX10_addRule_149 : dn cX10_addRule 149 (.aload_n 0) 1 150 := ⟨by decide +kernel, rfl⟩
theorem dX10_addRule_150 : dn cX10_addRule 150 (.getfield 22) 3 153 := ⟨by decide +kernel, rfl⟩
theorem dX10_addRule_153 : dn cX10_addRule 153 (.iload_n 2) 1 154 := ⟨by decide +kernel, rfl⟩
theorem dX10_addRule_154 : dn cX10_addRule 154 (.iconst 2) 1 155 := ⟨by decide +kernel, rfl⟩
theorem dX10_addRule_155 : dn cX10_addRule 155 (.iadd) 1 156 := ⟨by decide +kernel, rfl⟩
theorem dX10_addRule_156 : dn cX10_addRule 156 (.aload_n 0) 1 157 := ⟨by decide +kernel, rfl⟩
theorem dX10_addRule_157 : dn cX10_addRule 157 (.getfield 22) 3 160 := ⟨by decide +kernel, rfl⟩
theorem dX10_addRule_160 : dn cX10_addRule 160 (.iload_n 2) 1 161 := ⟨by decide +kernel, rfl⟩
theorem dX10_addRule_161 : dn cX10_addRule 161 (.iconst 2) 1 162 := ⟨by decide +kernel, rfl⟩
theorem dX10_addRule_162 : dn cX10_addRule 162 (.iadd) 1 163 := ⟨by decide +kernel, rfl⟩
theorem dX10_addRule_163 : dn cX10_addRule 163 (.iaload) 1 164 := ⟨by decide +kernel, rfl⟩
theorem dX10_addRule_164 : dn cX10_addRule 164 (.aload_n 0) 1 165 := ⟨by decide +kernel, rfl⟩
theorem dX10_addRule_165 : dn cX10_addRule 165 (.iload 4) 2 167 := ⟨by decide +kernel, rfl⟩
theorem dX10_addRule_167 : dn cX10_addRule 167 (.iconst 2) 1 168 := ⟨by decide +kernel, rfl⟩
theorem dX10_addRule_168 : dn cX10_addRule 168 (.invokevirtual 95) 3 171 := ⟨by decide +kernel, rfl⟩
theorem dX10_addRule_171 : dn cX10_addRule 171 (.invokestatic 102) 3 174 := ⟨by decide +kernel, rfl⟩
theorem dX10_addRule_174 : dn cX10_addRule 174 (.iastore) 1 175 := ⟨by decide +kernel, rfl⟩
theorem dX10_addRule_175 : dn cX10_addRule 175 (.aload_n 0) 1 176 := ⟨by decide +kernel, rfl⟩
theorem dX10_addRule_176 : dn cX10_addRule 176 (.getfield 22) 3 179 := ⟨by decide +kernel, rfl⟩
theorem dX10_addRule_179 : dn cX10_addRule 179 (.iload_n 2) 1 180 := ⟨by decide +kernel, rfl⟩
theorem dX10_addRule_180 : dn cX10_addRule 180 (.iconst 3) 1 181 := ⟨by decide +kernel, rfl⟩
theorem dX10_addRule_181 : dn cX10_addRule 181 (.iadd) 1 182 := ⟨by decide +kernel, rfl⟩
theorem dX10_addRule_182 : dn cX10_addRule 182 (.aload_n 0) 1 183 := ⟨by decide +kernel, rfl⟩
theorem dX10_addRule_183 : dn cX10_addRule 183 (.getfield 22) 3 186 := ⟨by decide +kernel, rfl⟩
theorem dX10_addRule_186 : dn cX10_addRule 186 (.iload_n 2) 1 187 := ⟨by decide +kernel, rfl⟩
theorem dX10_addRule_187 : dn cX10_addRule 187 (.iconst 3) 1 188 := ⟨by decide +kernel, rfl⟩
theorem dX10_addRule_188 : dn cX10_addRule 188 (.iadd) 1 189 := ⟨by decide +kernel, rfl⟩
theorem dX10_addRule_189 : dn cX10_addRule 189 (.iaload) 1 190 := ⟨by decide +kernel, rfl⟩
theorem dX10_addRule_190 : dn cX10_addRule 190 (.aload_n 0) 1 191 := ⟨by decide +kernel, rfl⟩
theorem dX10_addRule_191 : dn cX10_addRule 191 (.iload 4) 2 193 := ⟨by decide +kernel, rfl⟩
theorem dX10_addRule_193 : dn cX10_addRule 193 (.iconst 3) 1 194 := ⟨by decide +kernel, rfl⟩
theorem dX10_addRule_194 : dn cX10_addRule 194 (.invokevirtual 95) 3 197 := ⟨by decide +kernel, rfl⟩
theorem dX10_addRule_197 : dn cX10_addRule 197 (.invokestatic 99) 3 200 := ⟨by decide +kernel, rfl⟩
theorem dX10_addRule_200 : dn cX10_addRule 200 (.iastore) 1 201 := ⟨by decide +kernel, rfl⟩
theorem dX10_addRule_201 : dn cX10_addRule 201 (.aload_n 0) 1 202 := ⟨by decide +kernel, rfl⟩
theorem dX10_addRule_202 : dn cX10_addRule 202 (.getfield 22) 3 205 := ⟨by decide +kernel, rfl⟩
theorem dX10_addRule_205 : dn cX10_addRule 205 (.iload_n 2) 1 206 := ⟨by decide +kernel, rfl⟩
theorem dX10_addRule_206 : dn cX10_addRule 206 (.iconst 4) 1 207 := ⟨by decide +kernel, rfl⟩
theorem dX10_addRule_207 : dn cX10_addRule 207 (.iadd) 1 208 := ⟨by decide +kernel, rfl⟩
theorem dX10_addRule_208 : dn cX10_addRule 208 (.dup2) 1 209 := ⟨by decide +kernel, rfl⟩
theorem dX10_addRule_209 : dn cX10_addRule 209 (.iaload) 1 210 := ⟨by decide +kernel, rfl⟩
theorem dX10_addRule_210 : dn cX10_addRule 210 (.iconst 1) 1 211 := ⟨by decide +kernel, rfl⟩
theorem dX10_addRule_211 : dn cX10_addRule 211 (.iadd) 1 212 := ⟨by decide +kernel, rfl⟩
theorem dX10_addRule_212 : dn cX10_addRule 212 (.iastore) 1 213 := ⟨by decide +kernel, rfl⟩
theorem dX10_addRule_213 : dn cX10_addRule 213 (.iinc 4 1) 3 216 := ⟨by decide +kernel, rfl⟩
theorem dX10_addRule_216 : db cX10_addRule 216 (.goto (-143)) 3 219 (-143) 73 := ⟨by decide +kernel, rfl, rfl⟩
theorem dX10_addRule_219 : dn cX10_addRule 219 (.aload_n 0) 1 220 := ⟨by decide +kernel, rfl⟩
theorem dX10_addRule_220 : dn cX10_addRule 220 (.dup) 1 221 := ⟨by decide +kernel, rfl⟩
theorem dX10_addRule_221 : dn cX10_addRule 221 (.getfield 105) 3 224 := ⟨by decide +kernel, rfl⟩
theorem dX10_addRule_224 : dn cX10_addRule 224 (.iconst 1) 1 225 := ⟨by decide +kernel, rfl⟩
theorem dX10_addRule_225 : dn cX10_addRule 225 (.iadd) 1 226 := ⟨by decide +kernel, rfl⟩
theorem dX10_addRule_226 : dn cX10_addRule 226 (.putfield 105) 3 229 := ⟨by decide +kernel, rfl⟩
theorem dX10_addRule_229 : dn cX10_addRule 229 (.return_) 1 230 := ⟨by decide +kernel, rfl⟩
theorem dX10_isRuleBefore_0 : dn cX10_isRuleBefore 0 (.iconst 0) 1 1 := ⟨by decide +kernel, rfl⟩
theorem dX10_isRuleBefore_1 : dn cX10_isRuleBefore 1 (.istore_n 3) 1 2 := ⟨by decide +kernel, rfl⟩
theorem dX10_isRuleBefore_2 : dn cX10_isRuleBefore 2 (.iload_n 3) 1 3 := ⟨by decide +kernel, rfl⟩
theorem dX10_isRuleBefore_3 : dn cX10_isRuleBefore 3 (.iconst 4) 1 4 := ⟨by decide +kernel, rfl⟩
theorem dX10_isRuleBefore_4 : db cX10_isRuleBefore 4 (.if_icmp .ge 45) 3 7 (45) 49 := ⟨by decide +kernel, rfl, rfl⟩
theorem dX10_isRuleBefore_7 : dn cX10_isRuleBefore 7 (.aload_n 0) 1 8 := ⟨by decide +kernel, rfl⟩
theorem dX10_isRuleBefore_8 : dn cX10_isRuleBefore 8 (.iload_n 1) 1 9 := ⟨by decide +kernel, rfl⟩
theorem dX10_isRuleBefore_9 : dn cX10_isRuleBefore 9 (.iload_n 3) 1 10 := ⟨by decide +kernel, rfl⟩
theorem dX10_isRuleBefore_10 : dn cX10_isRuleBefore 10 (.invokevirtual 108) 3 13 := ⟨by decide +kernel, rfl⟩
theorem dX10_isRuleBefore_13 : dn cX10_isRuleBefore 13 (.aload_n 0) 1 14 := ⟨by decide +kernel, rfl⟩
theorem dX10_isRuleBefore_14 : dn cX10_isRuleBefore 14 (.iload_n 2) 1 15 := ⟨by decide +kernel, rfl⟩
theorem dX10_isRuleBefore_15 : dn cX10_isRuleBefore 15 (.iload_n 3) 1 16 := ⟨by decide +kernel, rfl⟩
theorem dX10_isRuleBefore_16 : dn cX10_isRuleBefore 16 (.invokevirtual 108) 3 19 := ⟨by decide +kernel, rfl⟩
theorem dX10_isRuleBefore_19 : db cX10_isRuleBefore 19 (.if_icmp .eq 24) 3 22 (24) 43 := ⟨by decide +kernel, rfl, rfl⟩
theorem dX10_isRuleBefore_22 : dn cX10_isRuleBefore 22 (.aload_n 0) 1 23 := ⟨by decide +kernel, rfl⟩
theorem dX10_isRuleBefore_23 : dn cX10_isRuleBefore 23 (.iload_n 1) 1 24 := ⟨by decide +kernel, rfl⟩
theorem dX10_isRuleBefore_24 : dn cX10_isRuleBefore 24 (.iload_n 3) 1 25 := ⟨by decide +kernel, rfl⟩
theorem dX10_isRuleBefore_25 : dn cX10_isRuleBefore 25 (.invokevirtual 108) 3 28 := ⟨by decide +kernel, rfl⟩
theorem dX10_isRuleBefore_28 : dn cX10_isRuleBefore 28 (.aload_n 0) 1 29 := ⟨by decide +kernel, rfl⟩
theorem dX10_isRuleBefore_29 : dn cX10_isRuleBefore 29 (.iload_n 2) 1 30 := ⟨by decide +kernel, rfl⟩
theorem dX10_isRuleBefore_30 : dn cX10_isRuleBefore 30 (.iload_n 3) 1 31 := ⟨by decide +kernel, rfl⟩
theorem dX10_isRuleBefore_31 : dn cX10_isRuleBefore 31 (.invokevirtual 108) 3 34 := ⟨by decide +kernel, rfl⟩
theorem dX10_isRuleBefore_34 : db cX10_isRuleBefore 34 (.if_icmp .ge 7) 3 37 (7) 41 := ⟨by decide +kernel, rfl, rfl⟩
theorem dX10_isRuleBefore_37 : dn cX10_isRuleBefore 37 (.iconst 1) 1 38 := ⟨by decide +kernel, rfl⟩
theorem dX10_isRuleBefore_38 : db cX10_isRuleBefore 38 (.goto 4) 3 41 (4) 42 := ⟨by decide +kernel, rfl, rfl⟩
theorem dX10_isRuleBefore_41 : dn cX10_isRuleBefore 41 (.iconst 0) 1 42 := ⟨by decide +kernel, rfl⟩
theorem dX10_isRuleBefore_42 : dn cX10_isRuleBefore 42 (.ireturn) 1 43 := ⟨by decide +kernel, rfl⟩
theorem dX10_isRuleBefore_43 : dn cX10_isRuleBefore 43 (.iinc 3 1) 3 46 := ⟨by decide +kernel, rfl⟩
theorem dX10_isRuleBefore_46 : db cX10_isRuleBefore 46 (.goto (-44)) 3 49 (-44) 2 := ⟨by decide +kernel, rfl, rfl⟩
theorem dX10_isRuleBefore_49 : dn cX10_isRuleBefore 49 (.aload_n 0) 1 50 := ⟨by decide +kernel, rfl⟩
theorem dX10_isRuleBefore_50 : dn cX10_isRuleBefore 50 (.iload_n 1) 1 51 := ⟨by decide +kernel, rfl⟩
theorem dX10_isRuleBefore_51 : dn cX10_isRuleBefore 51 (.iconst 5) 1 52 := ⟨by decide +kernel, rfl⟩
theorem dX10_isRuleBefore_52 : dn cX10_isRuleBefore 52 (.invokevirtual 108) 3 55 := ⟨by decide +kernel, rfl⟩
theorem dX10_isRuleBefore_55 : dn cX10_isRuleBefore 55 (.aload_n 0) 1 56 := ⟨by decide +kernel, rfl⟩
theorem dX10_isRuleBefore_56 : dn cX10_isRuleBefore 56 (.iload_n 2) 1 57 := ⟨by decide +kernel, rfl⟩
theorem dX10_isRuleBefore_57 : dn cX10_isRuleBefore 57 (.iconst 5) 1 58 := ⟨by decide +kernel, rfl⟩
theorem dX10_isRuleBefore_58 : dn cX10_isRuleBefore 58 (.invokevirtual 108) 3 61 := ⟨by decide +kernel, rfl⟩
theorem dX10_isRuleBefore_61 : db cX10_isRuleBefore 61 (.if_icmp .ge 7) 3 64 (7) 68 := ⟨by decide +kernel, rfl, rfl⟩
theorem dX10_isRuleBefore_64 : dn cX10_isRuleBefore 64 (.iconst 1) 1 65 := ⟨by decide +kernel, rfl⟩
theorem dX10_isRuleBefore_65 : db cX10_isRuleBefore 65 (.goto 4) 3 68 (4) 69 := ⟨by decide +kernel, rfl, rfl⟩
theorem dX10_isRuleBefore_68 : dn cX10_isRuleBefore 68 (.iconst 0) 1 69 := ⟨by decide +kernel, rfl⟩
theorem dX10_isRuleBefore_69 : dn cX10_isRuleBefore 69 (.ireturn) 1 70 := ⟨by decide +kernel, rfl⟩
theorem dX10_sortRules_0 : dn cX10_sortRules 0 (.iconst 0) 1 1 := ⟨by decide +kernel, rfl⟩
theorem dX10_sortRules_1 : dn cX10_sortRules 1 (.istore_n 1) 1 2 := ⟨by decide +kernel, rfl⟩
theorem dX10_sortRules_2 : dn cX10_sortRules 2 (.iload_n 1) 1 3 := ⟨by decide +kernel, rfl⟩
theorem dX10_sortRules_3 : dn cX10_sortRules 3 (.aload_n 0) 1 4 := ⟨by decide +kernel, rfl⟩
theorem dX10_sortRules_4 : dn cX10_sortRules 4 (.getfield 105) 3 7 := ⟨by decide +kernel, rfl⟩
theorem dX10_sortRules_7 : db cX10_sortRules 7 (.if_icmp .ge 106) 3 10 (106) 113 := ⟨by decide +kernel, rfl, rfl⟩
theorem dX10_sortRules_10 : dn cX10_sortRules 10 (.iload_n 1) 1 11 := ⟨by decide +kernel, rfl⟩
theorem dX10_sortRules_11 : dn cX10_sortRules 11 (.iconst 1) 1 12 := ⟨by decide +kernel, rfl⟩
theorem dX10_sortRules_12 : dn cX10_sortRules 12 (.iadd) 1 13 := ⟨by decide +kernel, rfl⟩
theorem dX10_sortRules_13 : dn cX10_sortRules 13 (.istore_n 2) 1 14 := ⟨by decide +kernel, rfl⟩
theorem dX10_sortRules_14 : dn cX10_sortRules 14 (.iload_n 2) 1 15 := ⟨by decide +kernel, rfl⟩
theorem dX10_sortRules_15 : dn cX10_sortRules 15 (.aload_n 0) 1 16 := ⟨by decide +kernel, rfl⟩
theorem dX10_sortRules_16 : dn cX10_sortRules 16 (.getfield 105) 3 19 := ⟨by decide +kernel, rfl⟩
theorem dX10_sortRules_19 : db cX10_sortRules 19 (.if_icmp .ge 88) 3 22 (88) 107 := ⟨by decide +kernel, rfl, rfl⟩
theorem dX10_sortRules_22 : dn cX10_sortRules 22 (.aload_n 0) 1 23 := ⟨by decide +kernel, rfl⟩
theorem dX10_sortRules_23 : dn cX10_sortRules 23 (.iload_n 2) 1 24 := ⟨by decide +kernel, rfl⟩
theorem dX10_sortRules_24 : dn cX10_sortRules 24 (.iload_n 1) 1 25 := ⟨by decide +kernel, rfl⟩
theorem dX10_sortRules_25 : dn cX10_sortRules 25 (.invokevirtual 111) 3 28 := ⟨by decide +kernel, rfl⟩
theorem dX10_sortRules_28 : dn cX10_sortRules 28 (.istore_n 3) 1 29 := ⟨by decide +kernel, rfl⟩
theorem dX10_sortRules_29 : dn cX10_sortRules 29 (.iconst 0) 1 30 := ⟨by decide +kernel, rfl⟩
theorem dX10_sortRules_30 : dn cX10_sortRules 30 (.istore 4) 2 32 := ⟨by decide +kernel, rfl⟩
theorem dX10_sortRules_32 : dn cX10_sortRules 32 (.iload 4) 2 34 := ⟨by decide +kernel, rfl⟩
theorem dX10_sortRules_34 : dn cX10_sortRules 34 (.bipush 7) 2 36 := ⟨by decide +kernel, rfl⟩
theorem dX10_sortRules_36 : db cX10_sortRules 36 (.if_icmp .ge 65) 3 39 (65) 101 := ⟨by decide +kernel, rfl, rfl⟩
theorem dX10_sortRules_39 : dn cX10_sortRules 39 (.iload_n 3) 1 40 := ⟨by decide +kernel, rfl⟩
theorem dX10_sortRules_40 : db cX10_sortRules 40 (.ifCond .eq 61) 3 43 (61) 101 := ⟨by decide +kernel, rfl, rfl⟩
theorem dX10_sortRules_43 : dn cX10_sortRules 43 (.aload_n 0) 1 44 := ⟨by decide +kernel, rfl⟩
theorem dX10_sortRules_44 : dn cX10_sortRules 44 (.getfield 22) 3 47 := ⟨by decide +kernel, rfl⟩
theorem dX10_sortRules_47 : dn cX10_sortRules 47 (.bipush 7) 2 49 := ⟨by decide +kernel, rfl⟩
theorem dX10_sortRules_49 : dn cX10_sortRules 49 (.iload_n 1) 1 50 := ⟨by decide +kernel, rfl⟩
theorem dX10_sortRules_50 : dn cX10_sortRules 50 (.imul) 1 51 := ⟨by decide +kernel, rfl⟩
theorem dX10_sortRules_51 : dn cX10_sortRules 51 (.iload 4) 2 53 := ⟨by decide +kernel, rfl⟩
theorem dX10_sortRules_53 : dn cX10_sortRules 53 (.iadd) 1 54 := ⟨by decide +kernel, rfl⟩
theorem dX10_sortRules_54 : dn cX10_sortRules 54 (.iaload) 1 55 := ⟨by decide +kernel, rfl⟩
theorem dX10_sortRules_55 : dn cX10_sortRules 55 (.istore 5) 2 57 := ⟨by decide +kernel, rfl⟩
theorem dX10_sortRules_57 : dn cX10_sortRules 57 (.aload_n 0) 1 58 := ⟨by decide +kernel, rfl⟩
theorem dX10_sortRules_58 : dn cX10_sortRules 58 (.getfield 22) 3 61 := ⟨by decide +kernel, rfl⟩
theorem dX10_sortRules_61 : dn cX10_sortRules 61 (.bipush 7) 2 63 := ⟨by decide +kernel, rfl⟩
theorem dX10_sortRules_63 : dn cX10_sortRules 63 (.iload_n 1) 1 64 := ⟨by decide +kernel, rfl⟩
theorem dX10_sortRules_64 : dn cX10_sortRules 64 (.imul) 1 65 := ⟨by decide +kernel, rfl⟩
theorem dX10_sortRules_65 : dn cX10_sortRules 65 (.iload 4) 2 67 := ⟨by decide +kernel, rfl⟩
theorem dX10_sortRules_67 : dn cX10_sortRules 67 (.iadd) 1 68 := ⟨by decide +kernel, rfl⟩
theorem dX10_sortRules_68 : dn cX10_sortRules 68 (.aload_n 0) 1 69 := ⟨by decide +kernel, rfl⟩
theorem dX10_sortRules_69 : dn cX10_sortRules 69 (.getfield 22) 3 72 := ⟨by decide +kernel, rfl⟩
theorem dX10_sortRules_72 : dn cX10_sortRules 72 (.bipush 7) 2 74 := ⟨by decide +kernel, rfl⟩
theorem dX10_sortRules_74 : dn cX10_sortRules 74 (.iload_n 2) 1 75 := ⟨by decide +kernel, rfl⟩
theorem dX10_sortRules_75 : dn cX10_sortRules 75 (.imul) 1 76 := ⟨by decide +kernel, rfl⟩
theorem dX10_sortRules_76 : dn cX10_sortRules 76 (.iload 4) 2 78 := ⟨by decide +kernel, rfl⟩
theorem dX10_sortRules_78 : dn cX10_sortRules 78 (.iadd) 1 79 := ⟨by decide +kernel, rfl⟩
theorem dX10_sortRules_79 : dn cX10_sortRules 79 (.iaload) 1 80 := ⟨by decide +kernel, rfl⟩
theorem dX10_sortRules_80 : dn cX10_sortRules 80 (.iastore) 1 81 := ⟨by decide +kernel, rfl⟩
theorem dX10_sortRules_81 : dn cX10_sortRules 81 (.aload_n 0) 1 82 := ⟨by decide +kernel, rfl⟩
theorem dX10_sortRules_82 : dn cX10_sortRules 82 (.getfield 22) 3 85 := ⟨by decide +kernel, rfl⟩
theorem dX10_sortRules_85 : dn cX10_sortRules 85 (.bipush 7) 2 87 := ⟨by decide +kernel, rfl⟩
theorem dX10_sortRules_87 : dn cX10_sortRules 87 (.iload_n 2) 1 88 := ⟨by decide +kernel, rfl⟩
theorem dX10_sortRules_88 : dn cX10_sortRules 88 (.imul) 1 89 := ⟨by decide +kernel, rfl⟩
theorem dX10_sortRules_89 : dn cX10_sortRules 89 (.iload 4) 2 91 := ⟨by decide +kernel, rfl⟩
theorem dX10_sortRules_91 : dn cX10_sortRules 91 (.iadd) 1 92 := ⟨by decide +kernel, rfl⟩
theorem dX10_sortRules_92 : dn cX10_sortRules 92 (.iload 5) 2 94 := ⟨by decide +kernel, rfl⟩
theorem dX10_sortRules_94 : dn cX10_sortRules 94 (.iastore) 1 95 := ⟨by decide +kernel, rfl⟩
theorem dX10_sortRules_95 : dn cX10_sortRules 95 (.iinc 4 1) 3 98 := ⟨by decide +kernel, rfl⟩
theorem dX10_sortRules_98 : db cX10_sortRules 98 (.goto (-66)) 3 101 (-66) 32 := ⟨by decide +kernel, rfl, rfl⟩
theorem dX10_sortRules_101 : dn cX10_sortRules 101 (.iinc 2 1) 3 104 := ⟨by decide +kernel, rfl⟩
theorem dX10_sortRules_104 : db cX10_sortRules 104 (.goto (-90)) 3 107 (-90) 14 := ⟨by decide +kernel, rfl, rfl⟩
theorem dX10_sortRules_107 : dn cX10_sortRules 107 (.iinc 1 1) 3 110 := ⟨by decide +kernel, rfl⟩
theorem dX10_sortRules_110 : db cX10_sortRules 110 (.goto (-108)) 3 113 (-108) 2 := ⟨by decide +kernel, rfl, rfl⟩
theorem dX10_sortRules_113 : dn cX10_sortRules 113 (.return_) 1 114 := ⟨by decide +kernel, rfl⟩
theorem dX10_findRules_0 : dn cX10_findRules 0 (.aload_n 0) 1 1 := ⟨by decide +kernel, rfl⟩
theorem dX10_findRules_1 : dn cX10_findRules 1 (.aload_n 0) 1 2 := ⟨by decide +kernel, rfl⟩
theorem dX10_findRules_2 : dn cX10_findRules 2 (.getfield 80) 3 5 := ⟨by decide +kernel, rfl⟩
theorem dX10_findRules_5 : dn cX10_findRules 5 (.invokevirtual 115) 3 8 := ⟨by decide +kernel, rfl⟩
theorem dX10_findRules_8 : dn cX10_findRules 8 (.iconst 0) 1 9 := ⟨by decide +kernel, rfl⟩
theorem dX10_findRules_9 : dn cX10_findRules 9 (.istore_n 1) 1 10 := ⟨by decide +kernel, rfl⟩
theorem dX10_findRules_10 : dn cX10_findRules 10 (.iload_n 1) 1 11 := ⟨by decide +kernel, rfl⟩
theorem dX10_findRules_11 : dn cX10_findRules 11 (.aload_n 0) 1 12 := ⟨by decide +kernel, rfl⟩
theorem dX10_findRules_12 : dn cX10_findRules 12 (.getfield 80) 3 15 := ⟨by decide +kernel, rfl⟩
theorem dX10_findRules_15 : db cX10_findRules 15 (.if_icmp .ge 41) 3 18 (41) 56 := ⟨by decide +kernel, rfl, rfl⟩
theorem dX10_findRules_18 : dn cX10_findRules 18 (.iconst 0) 1 19 := ⟨by decide +kernel, rfl⟩
theorem dX10_findRules_19 : dn cX10_findRules 19 (.istore_n 2) 1 20 := ⟨by decide +kernel, rfl⟩
theorem dX10_findRules_20 : dn cX10_findRules 20 (.iload_n 2) 1 21 := ⟨by decide +kernel, rfl⟩
theorem dX10_findRules_21 : dn cX10_findRules 21 (.iload_n 1) 1 22 := ⟨by decide +kernel, rfl⟩
theorem dX10_findRules_22 : db cX10_findRules 22 (.if_icmp .ge 28) 3 25 (28) 50 := ⟨by decide +kernel, rfl, rfl⟩
theorem dX10_findRules_25 : dn cX10_findRules 25 (.aload_n 0) 1 26 := ⟨by decide +kernel, rfl⟩
theorem dX10_findRules_26 : dn cX10_findRules 26 (.iload_n 1) 1 27 := ⟨by decide +kernel, rfl⟩
theorem dX10_findRules_27 : dn cX10_findRules 27 (.iload_n 2) 1 28 := ⟨by decide +kernel, rfl⟩
theorem dX10_findRules_28 : dn cX10_findRules 28 (.invokevirtual 119) 3 31 := ⟨by decide +kernel, rfl⟩
theorem dX10_findRules_31 : db cX10_findRules 31 (.ifCond .eq 13) 3 34 (13) 44 := ⟨by decide +kernel, rfl, rfl⟩
theorem dX10_findRules_34 : dn cX10_findRules 34 (.aload_n 0) 1 35 := ⟨by decide +kernel, rfl⟩
theorem dX10_findRules_35 : dn cX10_findRules 35 (.iload_n 1) 1 36 := ⟨by decide +kernel, rfl⟩
theorem dX10_findRules_36 : dn cX10_findRules 36 (.iload_n 2) 1 37 := ⟨by decide +kernel, rfl⟩
theorem dX10_findRules_37 : dn cX10_findRules 37 (.aload_n 0) 1 38 := ⟨by decide +kernel, rfl⟩
theorem dX10_findRules_38 : dn cX10_findRules 38 (.getfield 80) 3 41 := ⟨by decide +kernel, rfl⟩
theorem dX10_findRules_41 : dn cX10_findRules 41 (.invokevirtual 122) 3 44 := ⟨by decide +kernel, rfl⟩
theorem dX10_findRules_44 : dn cX10_findRules 44 (.iinc 2 1) 3 47 := ⟨by decide +kernel, rfl⟩
theorem dX10_findRules_47 : db cX10_findRules 47 (.goto (-27)) 3 50 (-27) 20 := ⟨by decide +kernel, rfl, rfl⟩
theorem dX10_findRules_50 : dn cX10_findRules 50 (.iinc 1 1) 3 53 := ⟨by decide +kernel, rfl⟩
theorem dX10_findRules_53 : db cX10_findRules 53 (.goto (-43)) 3 56 (-43) 10 := ⟨by decide +kernel, rfl, rfl⟩
theorem dX10_findRules_56 : dn cX10_findRules 56 (.aload_n 0) 1 57 := ⟨by decide +kernel, rfl⟩
theorem dX10_findRules_57 : dn cX10_findRules 57 (.iconst 0) 1 58 := ⟨by decide +kernel, rfl⟩
theorem dX10_findRules_58 : dn cX10_findRules 58 (.putfield 105) 3 61 := ⟨by decide +kernel, rfl⟩
theorem dX10_findRules_61 : dn cX10_findRules 61 (.iconst 0) 1 62 := ⟨by decide +kernel, rfl⟩
theorem dX10_findRules_62 : dn cX10_findRules 62 (.istore_n 1) 1 63 := ⟨by decide +kernel, rfl⟩
theorem dX10_findRules_63 : dn cX10_findRules 63 (.iload_n 1) 1 64 := ⟨by decide +kernel, rfl⟩
theorem dX10_findRules_64 : dn cX10_findRules 64 (.aload_n 0) 1 65 := ⟨by decide +kernel, rfl⟩
theorem dX10_findRules_65 : dn cX10_findRules 65 (.getfield 80) 3 68 := ⟨by decide +kernel, rfl⟩
theorem dX10_findRules_68 : db cX10_findRules 68 (.if_icmp .ge 24) 3 71 (24) 92 := ⟨by decide +kernel, rfl, rfl⟩
theorem dX10_findRules_71 : dn cX10_findRules 71 (.aload_n 0) 1 72 := ⟨by decide +kernel, rfl⟩
theorem dX10_findRules_72 : dn cX10_findRules 72 (.getfield 19) 3 75 := ⟨by decide +kernel, rfl⟩
theorem dX10_findRules_75 : dn cX10_findRules 75 (.iload_n 1) 1 76 := ⟨by decide +kernel, rfl⟩
theorem dX10_findRules_76 : dn cX10_findRules 76 (.iaload) 1 77 := ⟨by decide +kernel, rfl⟩
theorem dX10_findRules_77 : dn cX10_findRules 77 (.iload_n 1) 1 78 := ⟨by decide +kernel, rfl⟩
theorem dX10_findRules_78 : db cX10_findRules 78 (.if_icmp .ne 8) 3 81 (8) 86 := ⟨by decide +kernel, rfl, rfl⟩
theorem dX10_findRules_81 : dn cX10_findRules 81 (.aload_n 0) 1 82 := ⟨by decide +kernel, rfl⟩
theorem dX10_findRules_82 : dn cX10_findRules 82 (.iload_n 1) 1 83 := ⟨by decide +kernel, rfl⟩
theorem dX10_findRules_83 : dn cX10_findRules 83 (.invokevirtual 126) 3 86 := ⟨by decide +kernel, rfl⟩
theorem dX10_findRules_86 : dn cX10_findRules 86 (.iinc 1 1) 3 89 := ⟨by decide +kernel, rfl⟩
theorem dX10_findRules_89 : db cX10_findRules 89 (.goto (-26)) 3 92 (-26) 63 := ⟨by decide +kernel, rfl, rfl⟩
theorem dX10_findRules_92 : dn cX10_findRules 92 (.aload_n 0) 1 93 := ⟨by decide +kernel, rfl⟩
theorem dX10_findRules_93 : dn cX10_findRules 93 (.invokevirtual 129) 3 96 := ⟨by decide +kernel, rfl⟩
theorem dX10_findRules_96 : dn cX10_findRules 96 (.iconst 0) 1 97 := ⟨by decide +kernel, rfl⟩
theorem dX10_findRules_97 : dn cX10_findRules 97 (.istore_n 1) 1 98 := ⟨by decide +kernel, rfl⟩
theorem dX10_findRules_98 : dn cX10_findRules 98 (.iload_n 1) 1 99 := ⟨by decide +kernel, rfl⟩
theorem dX10_findRules_99 : dn cX10_findRules 99 (.aload_n 0) 1 100 := ⟨by decide +kernel, rfl⟩
theorem dX10_findRules_100 : dn cX10_findRules 100 (.getfield 80) 3 103 := ⟨by decide +kernel, rfl⟩
theorem dX10_findRules_103 : db cX10_findRules 103 (.if_icmp .ge 56) 3 106 (56) 159 := ⟨by decide +kernel, rfl, rfl⟩
theorem dX10_findRules_106 : dn cX10_findRules 106 (.iconst 0) 1 107 := ⟨by decide +kernel, rfl⟩
theorem dX10_findRules_107 : dn cX10_findRules 107 (.istore_n 2) 1 108 := ⟨by decide +kernel, rfl⟩
theorem dX10_findRules_108 : dn cX10_findRules 108 (.iload_n 2) 1 109 := ⟨by decide +kernel, rfl⟩
theorem dX10_findRules_109 : dn cX10_findRules 109 (.aload_n 0) 1 110 := ⟨by decide +kernel, rfl⟩
theorem dX10_findRules_110 : dn cX10_findRules 110 (.getfield 105) 3 113 := ⟨by decide +kernel, rfl⟩
theorem dX10_findRules_113 : db cX10_findRules 113 (.if_icmp .ge 40) 3 116 (40) 153 := ⟨by decide +kernel, rfl, rfl⟩
theorem dX10_findRules_116 : dn cX10_findRules 116 (.aload_n 0) 1 117 := ⟨by decide +kernel, rfl⟩
theorem dX10_findRules_117 : dn cX10_findRules 117 (.getfield 25) 3 120 := ⟨by decide +kernel, rfl⟩
theorem dX10_findRules_120 : dn cX10_findRules 120 (.iload_n 1) 1 121 := ⟨by decide +kernel, rfl⟩
theorem dX10_findRules_121 : dn cX10_findRules 121 (.aload_n 0) 1 122 := ⟨by decide +kernel, rfl⟩
theorem dX10_findRules_122 : dn cX10_findRules 122 (.iload_n 2) 1 123 := ⟨by decide +kernel, rfl⟩
theorem dX10_findRules_123 : dn cX10_findRules 123 (.iconst 5) 1 124 := ⟨by decide +kernel, rfl⟩
theorem dX10_findRules_124 : dn cX10_findRules 124 (.invokevirtual 108) 3 127 := ⟨by decide +kernel, rfl⟩
theorem dX10_findRules_127 : dn cX10_findRules 127 (.aload_n 0) 1 128 := ⟨by decide +kernel, rfl⟩
theorem dX10_findRules_128 : dn cX10_findRules 128 (.getfield 19) 3 131 := ⟨by decide +kernel, rfl⟩
theorem dX10_findRules_131 : dn cX10_findRules 131 (.iload_n 1) 1 132 := ⟨by decide +kernel, rfl⟩
theorem dX10_findRules_132 : dn cX10_findRules 132 (.iaload) 1 133 := ⟨by decide +kernel, rfl⟩
theorem dX10_findRules_133 : db cX10_findRules 133 (.if_icmp .ne 7) 3 136 (7) 140 := ⟨by decide +kernel, rfl, rfl⟩
theorem dX10_findRules_136 : dn cX10_findRules 136 (.iload_n 2) 1 137 := ⟨by decide +kernel, rfl⟩
theorem dX10_findRules_137 : db cX10_findRules 137 (.goto 9) 3 140 (9) 146 := ⟨by decide +kernel, rfl, rfl⟩
theorem dX10_findRules_140 : dn cX10_findRules 140 (.aload_n 0) 1 141 := ⟨by decide +kernel, rfl⟩
theorem dX10_findRules_141 : dn cX10_findRules 141 (.getfield 25) 3 144 := ⟨by decide +kernel, rfl⟩
theorem dX10_findRules_144 : dn cX10_findRules 144 (.iload_n 1) 1 145 := ⟨by decide +kernel, rfl⟩
theorem dX10_findRules_145 : dn cX10_findRules 145 (.iaload) 1 146 := ⟨by decide +kernel, rfl⟩
theorem dX10_findRules_146 : dn cX10_findRules 146 (.iastore) 1 147 := ⟨by decide +kernel, rfl⟩
theorem dX10_findRules_147 : dn cX10_findRules 147 (.iinc 2 1) 3 150 := ⟨by decide +kernel, rfl⟩
theorem dX10_findRules_150 : db cX10_findRules 150 (.goto (-42)) 3 153 (-42) 108 := ⟨by decide +kernel, rfl, rfl⟩
theorem dX10_findRules_153 : dn cX10_findRules 153 (.iinc 1 1) 3 156 := ⟨by decide +kernel, rfl⟩
theorem dX10_findRules_156 : db cX10_findRules 156 (.goto (-58)) 3 159 (-58) 98 := ⟨by decide +kernel, rfl, rfl⟩
theorem dX10_findRules_159 : dn cX10_findRules 159 (.return_) 1 160 := ⟨by decide +kernel, rfl⟩
theorem dX10_lies_0 : dn cX10_lies 0 (.aload_n 0) 1 1 := ⟨by decide +kernel, rfl⟩
theorem dX10_lies_1 : dn cX10_lies 1 (.iload_n 1) 1 2 := ⟨by decide +kernel, rfl⟩
theorem dX10_lies_2 : dn cX10_lies 2 (.iconst 1) 1 3 := ⟨by decide +kernel, rfl⟩
theorem dX10_lies_3 : dn cX10_lies 3 (.invokevirtual 108) 3 6 := ⟨by decide +kernel, rfl⟩
theorem dX10_lies_6 : dn cX10_lies 6 (.aload_n 0) 1 7 := ⟨by decide +kernel, rfl⟩
theorem dX10_lies_7 : dn cX10_lies 7 (.iload_n 2) 1 8 := ⟨by decide +kernel, rfl⟩
theorem dX10_lies_8 : dn cX10_lies 8 (.iconst 2) 1 9 := ⟨by decide +kernel, rfl⟩
theorem dX10_lies_9 : dn cX10_lies 9 (.invokevirtual 108) 3 12 := ⟨by decide +kernel, rfl⟩
theorem dX10_lies_12 : dn cX10_lies 12 (.aload_n 0) 1 13 := ⟨by decide +kernel, rfl⟩
theorem dX10_lies_13 : dn cX10_lies 13 (.getfield 16) 3 16 := ⟨by decide +kernel, rfl⟩
theorem dX10_lies_16 : dn cX10_lies 16 (.iconst 2) 1 17 := ⟨by decide +kernel, rfl⟩
theorem dX10_lies_17 : dn cX10_lies 17 (.iaload) 1 18 := ⟨by decide +kernel, rfl⟩
theorem dX10_lies_18 : dn cX10_lies 18 (.isub) 1 19 := ⟨by decide +kernel, rfl⟩
theorem dX10_lies_19 : db cX10_lies 19 (.if_icmp .lt 29) 3 22 (29) 48 := ⟨by decide +kernel, rfl, rfl⟩
theorem dX10_lies_22 : dn cX10_lies 22 (.aload_n 0) 1 23 := ⟨by decide +kernel, rfl⟩
theorem dX10_lies_23 : dn cX10_lies 23 (.iload_n 1) 1 24 := ⟨by decide +kernel, rfl⟩
theorem dX10_lies_24 : dn cX10_lies 24 (.iconst 1) 1 25 := ⟨by decide +kernel, rfl⟩
theorem dX10_lies_25 : dn cX10_lies 25 (.invokevirtual 108) 3 28 := ⟨by decide +kernel, rfl⟩
theorem dX10_lies_28 : dn cX10_lies 28 (.aload_n 0) 1 29 := ⟨by decide +kernel, rfl⟩
theorem dX10_lies_29 : dn cX10_lies 29 (.iload_n 2) 1 30 := ⟨by decide +kernel, rfl⟩
theorem dX10_lies_30 : dn cX10_lies 30 (.iconst 3) 1 31 := ⟨by decide +kernel, rfl⟩
theorem dX10_lies_31 : dn cX10_lies 31 (.invokevirtual 108) 3 34 := ⟨by decide +kernel, rfl⟩
theorem dX10_lies_34 : dn cX10_lies 34 (.aload_n 0) 1 35 := ⟨by decide +kernel, rfl⟩
theorem dX10_lies_35 : dn cX10_lies 35 (.getfield 16) 3 38 := ⟨by decide +kernel, rfl⟩
theorem dX10_lies_38 : dn cX10_lies 38 (.iconst 2) 1 39 := ⟨by decide +kernel, rfl⟩
theorem dX10_lies_39 : dn cX10_lies 39 (.iaload) 1 40 := ⟨by decide +kernel, rfl⟩
theorem dX10_lies_40 : dn cX10_lies 40 (.iadd) 1 41 := ⟨by decide +kernel, rfl⟩
theorem dX10_lies_41 : db cX10_lies 41 (.if_icmp .gt 7) 3 44 (7) 48 := ⟨by decide +kernel, rfl, rfl⟩
theorem dX10_lies_44 : dn cX10_lies 44 (.iconst 1) 1 45 := ⟨by decide +kernel, rfl⟩
theorem dX10_lies_45 : db cX10_lies 45 (.goto 4) 3 48 (4) 49 := ⟨by decide +kernel, rfl, rfl⟩
theorem dX10_lies_48 : dn cX10_lies 48 (.iconst 0) 1 49 := ⟨by decide +kernel, rfl⟩
theorem dX10_lies_49 : dn cX10_lies 49 (.ireturn) 1 50 := ⟨by decide +kernel, rfl⟩
theorem dX10_isCross_0 : dn cX10_isCross 0 (.aload_n 0) 1 1 := ⟨by decide +kernel, rfl⟩
theorem dX10_isCross_1 : dn cX10_isCross 1 (.iload_n 1) 1 2 := ⟨by decide +kernel, rfl⟩
theorem dX10_isCross_2 : dn cX10_isCross 2 (.iconst 0) 1 3 := ⟨by decide +kernel, rfl⟩
theorem dX10_isCross_3 : dn cX10_isCross 3 (.invokevirtual 108) 3 6 := ⟨by decide +kernel, rfl⟩
theorem dX10_isCross_6 : dn cX10_isCross 6 (.aload_n 0) 1 7 := ⟨by decide +kernel, rfl⟩
theorem dX10_isCross_7 : dn cX10_isCross 7 (.iload_n 2) 1 8 := ⟨by decide +kernel, rfl⟩
theorem dX10_isCross_8 : dn cX10_isCross 8 (.iconst 0) 1 9 := ⟨by decide +kernel, rfl⟩
theorem dX10_isCross_9 : dn cX10_isCross 9 (.invokevirtual 108) 3 12 := ⟨by decide +kernel, rfl⟩
theorem dX10_isCross_12 : db cX10_isCross 12 (.if_icmp .eq 25) 3 15 (25) 37 := ⟨by decide +kernel, rfl, rfl⟩
theorem dX10_isCross_15 : dn cX10_isCross 15 (.aload_n 0) 1 16 := ⟨by decide +kernel, rfl⟩
theorem dX10_isCross_16 : dn cX10_isCross 16 (.iload_n 1) 1 17 := ⟨by decide +kernel, rfl⟩
theorem dX10_isCross_17 : dn cX10_isCross 17 (.iload_n 2) 1 18 := ⟨by decide +kernel, rfl⟩
theorem dX10_isCross_18 : dn cX10_isCross 18 (.invokevirtual 132) 3 21 := ⟨by decide +kernel, rfl⟩
theorem dX10_isCross_21 : db cX10_isCross 21 (.ifCond .eq 16) 3 24 (16) 37 := ⟨by decide +kernel, rfl, rfl⟩
theorem dX10_isCross_24 : dn cX10_isCross 24 (.aload_n 0) 1 25 := ⟨by decide +kernel, rfl⟩
theorem dX10_isCross_25 : dn cX10_isCross 25 (.iload_n 2) 1 26 := ⟨by decide +kernel, rfl⟩
theorem dX10_isCross_26 : dn cX10_isCross 26 (.iload_n 1) 1 27 := ⟨by decide +kernel, rfl⟩
theorem dX10_isCross_27 : dn cX10_isCross 27 (.invokevirtual 132) 3 30 := ⟨by decide +kernel, rfl⟩
theorem dX10_isCross_30 : db cX10_isCross 30 (.ifCond .eq 7) 3 33 (7) 37 := ⟨by decide +kernel, rfl, rfl⟩
theorem dX10_isCross_33 : dn cX10_isCross 33 (.iconst 1) 1 34 := ⟨by decide +kernel, rfl⟩
theorem dX10_isCross_34 : db cX10_isCross 34 (.goto 4) 3 37 (4) 38 := ⟨by decide +kernel, rfl, rfl⟩
theorem dX10_isCross_37 : dn cX10_isCross 37 (.iconst 0) 1 38 := ⟨by decide +kernel, rfl⟩
theorem dX10_isCross_38 : dn cX10_isCross 38 (.ireturn) 1 39 := ⟨by decide +kernel, rfl⟩
theorem dX10_lineAt_0 : dn cX10_lineAt 0 (.aload_n 0) 1 1 := ⟨by decide +kernel, rfl⟩
theorem dX10_lineAt_1 : dn cX10_lineAt 1 (.getfield 28) 3 4 := ⟨by decide +kernel, rfl⟩
theorem dX10_lineAt_4 : dn cX10_lineAt 4 (.bipush 44) 2 6 := ⟨by decide +kernel, rfl⟩
theorem dX10_lineAt_6 : dn cX10_lineAt 6 (.iload_n 1) 1 7 := ⟨by decide +kernel, rfl⟩
theorem dX10_lineAt_7 : dn cX10_lineAt 7 (.imul) 1 8 := ⟨by decide +kernel, rfl⟩
theorem dX10_lineAt_8 : dn cX10_lineAt 8 (.bipush 22) 2 10 := ⟨by decide +kernel, rfl⟩
theorem dX10_lineAt_10 : dn cX10_lineAt 10 (.iload_n 2) 1 11 := ⟨by decide +kernel, rfl⟩
theorem dX10_lineAt_11 : dn cX10_lineAt 11 (.imul) 1 12 := ⟨by decide +kernel, rfl⟩
theorem dX10_lineAt_12 : dn cX10_lineAt 12 (.iadd) 1 13 := ⟨by decide +kernel, rfl⟩
theorem dX10_lineAt_13 : dn cX10_lineAt 13 (.iload_n 3) 1 14 := ⟨by decide +kernel, rfl⟩
theorem dX10_lineAt_14 : dn cX10_lineAt 14 (.iadd) 1 15 := ⟨by decide +kernel, rfl⟩
theorem dX10_lineAt_15 : dn cX10_lineAt 15 (.iaload) 1 16 := ⟨by decide +kernel, rfl⟩
theorem dX10_lineAt_16 : dn cX10_lineAt 16 (.ireturn) 1 17 := ⟨by decide +kernel, rfl⟩
theorem dX10_rowsOf_0 : dn cX10_rowsOf 0 (.aload_n 0) 1 1 := ⟨by decide +kernel, rfl⟩
theorem dX10_rowsOf_1 : dn cX10_rowsOf 1 (.getfield 31) 3 4 := ⟨by decide +kernel, rfl⟩
theorem dX10_rowsOf_4 : dn cX10_rowsOf 4 (.iconst 2) 1 5 := ⟨by decide +kernel, rfl⟩
theorem dX10_rowsOf_5 : dn cX10_rowsOf 5 (.iload_n 1) 1 6 := ⟨by decide +kernel, rfl⟩
theorem dX10_rowsOf_6 : dn cX10_rowsOf 6 (.imul) 1 7 := ⟨by decide +kernel, rfl⟩
theorem dX10_rowsOf_7 : dn cX10_rowsOf 7 (.iaload) 1 8 := ⟨by decide +kernel, rfl⟩
theorem dX10_rowsOf_8 : dn cX10_rowsOf 8 (.iconst 1) 1 9 := ⟨by decide +kernel, rfl⟩
theorem dX10_rowsOf_9 : dn cX10_rowsOf 9 (.isub) 1 10 := ⟨by decide +kernel, rfl⟩
theorem dX10_rowsOf_10 : dn cX10_rowsOf 10 (.ireturn) 1 11 := ⟨by decide +kernel, rfl⟩
theorem dX10_columnsOf_0 : dn cX10_columnsOf 0 (.aload_n 0) 1 1 := ⟨by decide +kernel, rfl⟩
theorem dX10_columnsOf_1 : dn cX10_columnsOf 1 (.getfield 31) 3 4 := ⟨by decide +kernel, rfl⟩
theorem dX10_columnsOf_4 : dn cX10_columnsOf 4 (.iconst 2) 1 5 := ⟨by decide +kernel, rfl⟩
theorem dX10_columnsOf_5 : dn cX10_columnsOf 5 (.iload_n 1) 1 6 := ⟨by decide +kernel, rfl⟩
theorem dX10_columnsOf_6 : dn cX10_columnsOf 6 (.imul) 1 7 := ⟨by decide +kernel, rfl⟩
theorem dX10_columnsOf_7 : dn cX10_columnsOf 7 (.iconst 1) 1 8 := ⟨by decide +kernel, rfl⟩
theorem dX10_columnsOf_8 : dn cX10_columnsOf 8 (.iadd) 1 9 := ⟨by decide +kernel, rfl⟩
theorem dX10_columnsOf_9 : dn cX10_columnsOf 9 (.iaload) 1 10 := ⟨by decide +kernel, rfl⟩
theorem dX10_columnsOf_10 : dn cX10_columnsOf 10 (.iconst 1) 1 11 := ⟨by decide +kernel, rfl⟩
theorem dX10_columnsOf_11 : dn cX10_columnsOf 11 (.isub) 1 12 := ⟨by decide +kernel, rfl⟩
theorem dX10_columnsOf_12 : dn cX10_columnsOf 12 (.ireturn) 1 13 := ⟨by decide +kernel, rfl⟩
theorem dX10_countLines_0 : dn cX10_countLines 0 (.iconst 0) 1 1 := ⟨by decide +kernel, rfl⟩
theorem dX10_countLines_1 : dn cX10_countLines 1 (.istore_n 3) 1 2 := ⟨by decide +kernel, rfl⟩
theorem dX10_countLines_2 : dn cX10_countLines 2 (.iconst 0) 1 3 := ⟨by decide +kernel, rfl⟩
theorem dX10_countLines_3 : dn cX10_countLines 3 (.istore 4) 2 5 := ⟨by decide +kernel, rfl⟩
theorem dX10_countLines_5 : dn cX10_countLines 5 (.iload 4) 2 7 := ⟨by decide +kernel, rfl⟩
theorem dX10_countLines_7 : dn cX10_countLines 7 (.bipush 99) 2 9 := ⟨by decide +kernel, rfl⟩
theorem dX10_countLines_9 : db cX10_countLines 9 (.if_icmp .gt 89) 3 12 (89) 98 := ⟨by decide +kernel, rfl, rfl⟩
theorem dX10_countLines_12 : dn cX10_countLines 12 (.iconst 0) 1 13 := ⟨by decide +kernel, rfl⟩
theorem dX10_countLines_13 : dn cX10_countLines 13 (.istore 5) 2 15 := ⟨by decide +kernel, rfl⟩
theorem dX10_countLines_15 : dn cX10_countLines 15 (.iconst 0) 1 16 := ⟨by decide +kernel, rfl⟩
theorem dX10_countLines_16 : dn cX10_countLines 16 (.istore 6) 2 18 := ⟨by decide +kernel, rfl⟩
theorem dX10_countLines_18 : dn cX10_countLines 18 (.iload 6) 2 20 := ⟨by decide +kernel, rfl⟩
theorem dX10_countLines_20 : dn cX10_countLines 20 (.aload_n 0) 1 21 := ⟨by decide +kernel, rfl⟩
theorem dX10_countLines_21 : dn cX10_countLines 21 (.getfield 105) 3 24 := ⟨by decide +kernel, rfl⟩
theorem dX10_countLines_24 : db cX10_countLines 24 (.if_icmp .ge 55) 3 27 (55) 79 := ⟨by decide +kernel, rfl, rfl⟩
theorem dX10_countLines_27 : dn cX10_countLines 27 (.iload 5) 2 29 := ⟨by decide +kernel, rfl⟩
theorem dX10_countLines_29 : db cX10_countLines 29 (.ifCond .ne 37) 3 32 (37) 66 := ⟨by decide +kernel, rfl, rfl⟩
theorem dX10_countLines_32 : dn cX10_countLines 32 (.aload_n 0) 1 33 := ⟨by decide +kernel, rfl⟩
theorem dX10_countLines_33 : dn cX10_countLines 33 (.getfield 19) 3 36 := ⟨by decide +kernel, rfl⟩
theorem dX10_countLines_36 : dn cX10_countLines 36 (.iload 6) 2 38 := ⟨by decide +kernel, rfl⟩
theorem dX10_countLines_38 : dn cX10_countLines 38 (.iaload) 1 39 := ⟨by decide +kernel, rfl⟩
theorem dX10_countLines_39 : dn cX10_countLines 39 (.iload_n 1) 1 40 := ⟨by decide +kernel, rfl⟩
theorem dX10_countLines_40 : db cX10_countLines 40 (.if_icmp .ne 30) 3 43 (30) 70 := ⟨by decide +kernel, rfl, rfl⟩
theorem dX10_countLines_43 : dn cX10_countLines 43 (.aload_n 0) 1 44 := ⟨by decide +kernel, rfl⟩
theorem dX10_countLines_44 : dn cX10_countLines 44 (.iload 6) 2 46 := ⟨by decide +kernel, rfl⟩
theorem dX10_countLines_46 : dn cX10_countLines 46 (.iconst 0) 1 47 := ⟨by decide +kernel, rfl⟩
theorem dX10_countLines_47 : dn cX10_countLines 47 (.invokevirtual 108) 3 50 := ⟨by decide +kernel, rfl⟩
theorem dX10_countLines_50 : dn cX10_countLines 50 (.iload_n 2) 1 51 := ⟨by decide +kernel, rfl⟩
theorem dX10_countLines_51 : db cX10_countLines 51 (.if_icmp .ne 19) 3 54 (19) 70 := ⟨by decide +kernel, rfl, rfl⟩
theorem dX10_countLines_54 : dn cX10_countLines 54 (.aload_n 0) 1 55 := ⟨by decide +kernel, rfl⟩
theorem dX10_countLines_55 : dn cX10_countLines 55 (.iload 6) 2 57 := ⟨by decide +kernel, rfl⟩
theorem dX10_countLines_57 : dn cX10_countLines 57 (.iconst 1) 1 58 := ⟨by decide +kernel, rfl⟩
theorem dX10_countLines_58 : dn cX10_countLines 58 (.invokevirtual 108) 3 61 := ⟨by decide +kernel, rfl⟩
theorem dX10_countLines_61 : dn cX10_countLines 61 (.iload 4) 2 63 := ⟨by decide +kernel, rfl⟩
theorem dX10_countLines_63 : db cX10_countLines 63 (.if_icmp .ne 7) 3 66 (7) 70 := ⟨by decide +kernel, rfl, rfl⟩
theorem dX10_countLines_66 : dn cX10_countLines 66 (.iconst 1) 1 67 := ⟨by decide +kernel, rfl⟩
theorem dX10_countLines_67 : db cX10_countLines 67 (.goto 4) 3 70 (4) 71 := ⟨by decide +kernel, rfl, rfl⟩
theorem dX10_countLines_70 : dn cX10_countLines 70 (.iconst 0) 1 71 := ⟨by decide +kernel, rfl⟩
theorem dX10_countLines_71 : dn cX10_countLines 71 (.istore 5) 2 73 := ⟨by decide +kernel, rfl⟩
theorem dX10_countLines_73 : dn cX10_countLines 73 (.iinc 6 1) 3 76 := ⟨by decide +kernel, rfl⟩
theorem dX10_countLines_76 : db cX10_countLines 76 (.goto (-58)) 3 79 (-58) 18 := ⟨by decide +kernel, rfl, rfl⟩
theorem dX10_countLines_79 : dn cX10_countLines 79 (.iload_n 3) 1 80 := ⟨by decide +kernel, rfl⟩
theorem dX10_countLines_80 : dn cX10_countLines 80 (.iload 5) 2 82 := ⟨by decide +kernel, rfl⟩
theorem dX10_countLines_82 : db cX10_countLines 82 (.ifCond .eq 7) 3 85 (7) 89 := ⟨by decide +kernel, rfl, rfl⟩
theorem dX10_countLines_85 : dn cX10_countLines 85 (.iconst 1) 1 86 := ⟨by decide +kernel, rfl⟩
theorem dX10_countLines_86 : db cX10_countLines 86 (.goto 4) 3 89 (4) 90 := ⟨by decide +kernel, rfl, rfl⟩
theorem dX10_countLines_89 : dn cX10_countLines 89 (.iconst 0) 1 90 := ⟨by decide +kernel, rfl⟩
theorem dX10_countLines_90 : dn cX10_countLines 90 (.iadd) 1 91 := ⟨by decide +kernel, rfl⟩
theorem dX10_countLines_91 : dn cX10_countLines 91 (.istore_n 3) 1 92 := ⟨by decide +kernel, rfl⟩
theorem dX10_countLines_92 : dn cX10_countLines 92 (.iinc 4 1) 3 95 := ⟨by decide +kernel, rfl⟩
theorem dX10_countLines_95 : db cX10_countLines 95 (.goto (-90)) 3 98 (-90) 5 := ⟨by decide +kernel, rfl, rfl⟩
theorem dX10_countLines_98 : dn cX10_countLines 98 (.iload_n 3) 1 99 := ⟨by decide +kernel, rfl⟩
theorem dX10_countLines_99 : dn cX10_countLines 99 (.ireturn) 1 100 := ⟨by decide +kernel, rfl⟩
theorem dX10_layLines_0 : dn cX10_layLines 0 (.aload_n 0) 1 1 := ⟨by decide +kernel, rfl⟩
theorem dX10_layLines_1 : dn cX10_layLines 1 (.getfield 31) 3 4 := ⟨by decide +kernel, rfl⟩
theorem dX10_layLines_4 : dn cX10_layLines 4 (.iconst 2) 1 5 := ⟨by decide +kernel, rfl⟩
theorem dX10_layLines_5 : dn cX10_layLines 5 (.iload_n 1) 1 6 := ⟨by decide +kernel, rfl⟩
theorem dX10_layLines_6 : dn cX10_layLines 6 (.imul) 1 7 := ⟨by decide +kernel, rfl⟩
theorem dX10_layLines_7 : dn cX10_layLines 7 (.iload_n 2) 1 8 := ⟨by decide +kernel, rfl⟩
theorem dX10_layLines_8 : dn cX10_layLines 8 (.iadd) 1 9 := ⟨by decide +kernel, rfl⟩
theorem dX10_layLines_9 : dn cX10_layLines 9 (.iconst 0) 1 10 := ⟨by decide +kernel, rfl⟩
theorem dX10_layLines_10 : dn cX10_layLines 10 (.iastore) 1 11 := ⟨by decide +kernel, rfl⟩
theorem dX10_layLines_11 : dn cX10_layLines 11 (.iconst 0) 1 12 := ⟨by decide +kernel, rfl⟩
theorem dX10_layLines_12 : dn cX10_layLines 12 (.istore_n 3) 1 13 := ⟨by decide +kernel, rfl⟩
theorem dX10_layLines_13 : dn cX10_layLines 13 (.iload_n 3) 1 14 := ⟨by decide +kernel, rfl⟩
theorem dX10_layLines_14 : dn cX10_layLines 14 (.bipush 99) 2 16 := ⟨by decide +kernel, rfl⟩
theorem dX10_layLines_16 : db cX10_layLines 16 (.if_icmp .gt 121) 3 19 (121) 137 := ⟨by decide +kernel, rfl, rfl⟩
theorem dX10_layLines_19 : dn cX10_layLines 19 (.iconst 0) 1 20 := ⟨by decide +kernel, rfl⟩
theorem dX10_layLines_20 : dn cX10_layLines 20 (.istore 4) 2 22 := ⟨by decide +kernel, rfl⟩
theorem dX10_layLines_22 : dn cX10_layLines 22 (.iconst 0) 1 23 := ⟨by decide +kernel, rfl⟩
theorem dX10_layLines_23 : dn cX10_layLines 23 (.istore 5) 2 25 := ⟨by decide +kernel, rfl⟩
theorem dX10_layLines_25 : dn cX10_layLines 25 (.iload 5) 2 27 := ⟨by decide +kernel, rfl⟩
theorem dX10_layLines_27 : dn cX10_layLines 27 (.aload_n 0) 1 28 := ⟨by decide +kernel, rfl⟩
theorem dX10_layLines_28 : dn cX10_layLines 28 (.getfield 105) 3 31 := ⟨by decide +kernel, rfl⟩
theorem dX10_layLines_31 : db cX10_layLines 31 (.if_icmp .ge 55) 3 34 (55) 86 := ⟨by decide +kernel, rfl, rfl⟩
theorem dX10_layLines_34 : dn cX10_layLines 34 (.iload 4) 2 36 := ⟨by decide +kernel, rfl⟩
theorem dX10_layLines_36 : db cX10_layLines 36 (.ifCond .ne 37) 3 39 (37) 73 := ⟨by decide +kernel, rfl, rfl⟩
theorem dX10_layLines_39 : dn cX10_layLines 39 (.aload_n 0) 1 40 := ⟨by decide +kernel, rfl⟩
theorem dX10_layLines_40 : dn cX10_layLines 40 (.iload 5) 2 42 := ⟨by decide +kernel, rfl⟩
theorem dX10_layLines_42 : dn cX10_layLines 42 (.bipush 6) 2 44 := ⟨by decide +kernel, rfl⟩
theorem dX10_layLines_44 : dn cX10_layLines 44 (.invokevirtual 108) 3 47 := ⟨by decide +kernel, rfl⟩
theorem dX10_layLines_47 : dn cX10_layLines 47 (.iload_n 1) 1 48 := ⟨by decide +kernel, rfl⟩
theorem dX10_layLines_48 : db cX10_layLines 48 (.if_icmp .ne 29) 3 51 (29) 77 := ⟨by decide +kernel, rfl, rfl⟩
theorem dX10_layLines_51 : dn cX10_layLines 51 (.aload_n 0) 1 52 := ⟨by decide +kernel, rfl⟩
theorem dX10_layLines_52 : dn cX10_layLines 52 (.iload 5) 2 54 := ⟨by decide +kernel, rfl⟩
theorem dX10_layLines_54 : dn cX10_layLines 54 (.iconst 0) 1 55 := ⟨by decide +kernel, rfl⟩
theorem dX10_layLines_55 : dn cX10_layLines 55 (.invokevirtual 108) 3 58 := ⟨by decide +kernel, rfl⟩
theorem dX10_layLines_58 : dn cX10_layLines 58 (.iload_n 2) 1 59 := ⟨by decide +kernel, rfl⟩
theorem dX10_layLines_59 : db cX10_layLines 59 (.if_icmp .ne 18) 3 62 (18) 77 := ⟨by decide +kernel, rfl, rfl⟩
theorem dX10_layLines_62 : dn cX10_layLines 62 (.aload_n 0) 1 63 := ⟨by decide +kernel, rfl⟩
theorem dX10_layLines_63 : dn cX10_layLines 63 (.iload 5) 2 65 := ⟨by decide +kernel, rfl⟩
theorem dX10_layLines_65 : dn cX10_layLines 65 (.iconst 1) 1 66 := ⟨by decide +kernel, rfl⟩
theorem dX10_layLines_66 : dn cX10_layLines 66 (.invokevirtual 108) 3 69 := ⟨by decide +kernel, rfl⟩
theorem dX10_layLines_69 : dn cX10_layLines 69 (.iload_n 3) 1 70 := ⟨by decide +kernel, rfl⟩
theorem dX10_layLines_70 : db cX10_layLines 70 (.if_icmp .ne 7) 3 73 (7) 77 := ⟨by decide +kernel, rfl, rfl⟩
theorem dX10_layLines_73 : dn cX10_layLines 73 (.iconst 1) 1 74 := ⟨by decide +kernel, rfl⟩
theorem dX10_layLines_74 : db cX10_layLines 74 (.goto 4) 3 77 (4) 78 := ⟨by decide +kernel, rfl, rfl⟩
theorem dX10_layLines_77 : dn cX10_layLines 77 (.iconst 0) 1 78 := ⟨by decide +kernel, rfl⟩
theorem dX10_layLines_78 : dn cX10_layLines 78 (.istore 4) 2 80 := ⟨by decide +kernel, rfl⟩
theorem dX10_layLines_80 : dn cX10_layLines 80 (.iinc 5 1) 3 83 := ⟨by decide +kernel, rfl⟩
theorem dX10_layLines_83 : db cX10_layLines 83 (.goto (-58)) 3 86 (-58) 25 := ⟨by decide +kernel, rfl, rfl⟩
theorem dX10_layLines_86 : dn cX10_layLines 86 (.iload 4) 2 88 := ⟨by decide +kernel, rfl⟩
theorem dX10_layLines_88 : db cX10_layLines 88 (.ifCond .eq 43) 3 91 (43) 131 := ⟨by decide +kernel, rfl, rfl⟩
theorem dX10_layLines_91 : dn cX10_layLines 91 (.aload_n 0) 1 92 := ⟨by decide +kernel, rfl⟩
theorem dX10_layLines_92 : dn cX10_layLines 92 (.getfield 28) 3 95 := ⟨by decide +kernel, rfl⟩
theorem dX10_layLines_95 : dn cX10_layLines 95 (.bipush 44) 2 97 := ⟨by decide +kernel, rfl⟩
theorem dX10_layLines_97 : dn cX10_layLines 97 (.iload_n 1) 1 98 := ⟨by decide +kernel, rfl⟩
theorem dX10_layLines_98 : dn cX10_layLines 98 (.imul) 1 99 := ⟨by decide +kernel, rfl⟩
theorem dX10_layLines_99 : dn cX10_layLines 99 (.bipush 22) 2 101 := ⟨by decide +kernel, rfl⟩
theorem dX10_layLines_101 : dn cX10_layLines 101 (.iload_n 2) 1 102 := ⟨by decide +kernel, rfl⟩
theorem dX10_layLines_102 : dn cX10_layLines 102 (.imul) 1 103 := ⟨by decide +kernel, rfl⟩
theorem dX10_layLines_103 : dn cX10_layLines 103 (.iadd) 1 104 := ⟨by decide +kernel, rfl⟩
theorem dX10_layLines_104 : dn cX10_layLines 104 (.aload_n 0) 1 105 := ⟨by decide +kernel, rfl⟩
theorem dX10_layLines_105 : dn cX10_layLines 105 (.getfield 31) 3 108 := ⟨by decide +kernel, rfl⟩
theorem dX10_layLines_108 : dn cX10_layLines 108 (.iconst 2) 1 109 := ⟨by decide +kernel, rfl⟩
theorem dX10_layLines_109 : dn cX10_layLines 109 (.iload_n 1) 1 110 := ⟨by decide +kernel, rfl⟩
theorem dX10_layLines_110 : dn cX10_layLines 110 (.imul) 1 111 := ⟨by decide +kernel, rfl⟩
theorem dX10_layLines_111 : dn cX10_layLines 111 (.iload_n 2) 1 112 := ⟨by decide +kernel, rfl⟩
theorem dX10_layLines_112 : dn cX10_layLines 112 (.iadd) 1 113 := ⟨by decide +kernel, rfl⟩
theorem dX10_layLines_113 : dn cX10_layLines 113 (.iaload) 1 114 := ⟨by decide +kernel, rfl⟩
theorem dX10_layLines_114 : dn cX10_layLines 114 (.iadd) 1 115 := ⟨by decide +kernel, rfl⟩
theorem dX10_layLines_115 : dn cX10_layLines 115 (.iload_n 3) 1 116 := ⟨by decide +kernel, rfl⟩
theorem dX10_layLines_116 : dn cX10_layLines 116 (.iastore) 1 117 := ⟨by decide +kernel, rfl⟩
theorem dX10_layLines_117 : dn cX10_layLines 117 (.aload_n 0) 1 118 := ⟨by decide +kernel, rfl⟩
theorem dX10_layLines_118 : dn cX10_layLines 118 (.getfield 31) 3 121 := ⟨by decide +kernel, rfl⟩
theorem dX10_layLines_121 : dn cX10_layLines 121 (.iconst 2) 1 122 := ⟨by decide +kernel, rfl⟩
theorem dX10_layLines_122 : dn cX10_layLines 122 (.iload_n 1) 1 123 := ⟨by decide +kernel, rfl⟩
theorem dX10_layLines_123 : dn cX10_layLines 123 (.imul) 1 124 := ⟨by decide +kernel, rfl⟩
theorem dX10_layLines_124 : dn cX10_layLines 124 (.iload_n 2) 1 125 := ⟨by decide +kernel, rfl⟩
theorem dX10_layLines_125 : dn cX10_layLines 125 (.iadd) 1 126 := ⟨by decide +kernel, rfl⟩
theorem dX10_layLines_126 : dn cX10_layLines 126 (.dup2) 1 127 := ⟨by decide +kernel, rfl⟩
theorem dX10_layLines_127 : dn cX10_layLines 127 (.iaload) 1 128 := ⟨by decide +kernel, rfl⟩
theorem dX10_layLines_128 : dn cX10_layLines 128 (.iconst 1) 1 129 := ⟨by decide +kernel, rfl⟩
theorem dX10_layLines_129 : dn cX10_layLines 129 (.iadd) 1 130 := ⟨by decide +kernel, rfl⟩
theorem dX10_layLines_130 : dn cX10_layLines 130 (.iastore) 1 131 := ⟨by decide +kernel, rfl⟩
theorem dX10_layLines_131 : dn cX10_layLines 131 (.iinc 3 1) 3 134 := ⟨by decide +kernel, rfl⟩
theorem dX10_layLines_134 : db cX10_layLines 134 (.goto (-121)) 3 137 (-121) 13 := ⟨by decide +kernel, rfl, rfl⟩
theorem dX10_layLines_137 : dn cX10_layLines 137 (.return_) 1 138 := ⟨by decide +kernel, rfl⟩
theorem dX10_findTables_0 : dn cX10_findTables 0 (.aload_n 0) 1 1 := ⟨by decide +kernel, rfl⟩
theorem dX10_findTables_1 : dn cX10_findTables 1 (.aload_n 0) 1 2 := ⟨by decide +kernel, rfl⟩
theorem dX10_findTables_2 : dn cX10_findTables 2 (.getfield 105) 3 5 := ⟨by decide +kernel, rfl⟩
theorem dX10_findTables_5 : dn cX10_findTables 5 (.invokevirtual 115) 3 8 := ⟨by decide +kernel, rfl⟩
theorem dX10_findTables_8 : dn cX10_findTables 8 (.iconst 0) 1 9 := ⟨by decide +kernel, rfl⟩
theorem dX10_findTables_9 : dn cX10_findTables 9 (.istore_n 1) 1 10 := ⟨by decide +kernel, rfl⟩
theorem dX10_findTables_10 : dn cX10_findTables 10 (.iload_n 1) 1 11 := ⟨by decide +kernel, rfl⟩
theorem dX10_findTables_11 : dn cX10_findTables 11 (.aload_n 0) 1 12 := ⟨by decide +kernel, rfl⟩
theorem dX10_findTables_12 : dn cX10_findTables 12 (.getfield 105) 3 15 := ⟨by decide +kernel, rfl⟩
theorem dX10_findTables_15 : db cX10_findTables 15 (.if_icmp .ge 41) 3 18 (41) 56 := ⟨by decide +kernel, rfl, rfl⟩
theorem dX10_findTables_18 : dn cX10_findTables 18 (.iconst 0) 1 19 := ⟨by decide +kernel, rfl⟩
theorem dX10_findTables_19 : dn cX10_findTables 19 (.istore_n 2) 1 20 := ⟨by decide +kernel, rfl⟩
theorem dX10_findTables_20 : dn cX10_findTables 20 (.iload_n 2) 1 21 := ⟨by decide +kernel, rfl⟩
theorem dX10_findTables_21 : dn cX10_findTables 21 (.iload_n 1) 1 22 := ⟨by decide +kernel, rfl⟩
theorem dX10_findTables_22 : db cX10_findTables 22 (.if_icmp .ge 28) 3 25 (28) 50 := ⟨by decide +kernel, rfl, rfl⟩
theorem dX10_findTables_25 : dn cX10_findTables 25 (.aload_n 0) 1 26 := ⟨by decide +kernel, rfl⟩
theorem dX10_findTables_26 : dn cX10_findTables 26 (.iload_n 1) 1 27 := ⟨by decide +kernel, rfl⟩
theorem dX10_findTables_27 : dn cX10_findTables 27 (.iload_n 2) 1 28 := ⟨by decide +kernel, rfl⟩
theorem dX10_findTables_28 : dn cX10_findTables 28 (.invokevirtual 135) 3 31 := ⟨by decide +kernel, rfl⟩
theorem dX10_findTables_31 : db cX10_findTables 31 (.ifCond .eq 13) 3 34 (13) 44 := ⟨by decide +kernel, rfl, rfl⟩
theorem dX10_findTables_34 : dn cX10_findTables 34 (.aload_n 0) 1 35 := ⟨by decide +kernel, rfl⟩
theorem dX10_findTables_35 : dn cX10_findTables 35 (.iload_n 1) 1 36 := ⟨by decide +kernel, rfl⟩
theorem dX10_findTables_36 : dn cX10_findTables 36 (.iload_n 2) 1 37 := ⟨by decide +kernel, rfl⟩
theorem dX10_findTables_37 : dn cX10_findTables 37 (.aload_n 0) 1 38 := ⟨by decide +kernel, rfl⟩
theorem dX10_findTables_38 : dn cX10_findTables 38 (.getfield 105) 3 41 := ⟨by decide +kernel, rfl⟩
theorem dX10_findTables_41 : dn cX10_findTables 41 (.invokevirtual 122) 3 44 := ⟨by decide +kernel, rfl⟩
theorem dX10_findTables_44 : dn cX10_findTables 44 (.iinc 2 1) 3 47 := ⟨by decide +kernel, rfl⟩
theorem dX10_findTables_47 : db cX10_findTables 47 (.goto (-27)) 3 50 (-27) 20 := ⟨by decide +kernel, rfl, rfl⟩
theorem dX10_findTables_50 : dn cX10_findTables 50 (.iinc 1 1) 3 53 := ⟨by decide +kernel, rfl⟩
theorem dX10_findTables_53 : db cX10_findTables 53 (.goto (-43)) 3 56 (-43) 10 := ⟨by decide +kernel, rfl, rfl⟩
theorem dX10_findTables_56 : dn cX10_findTables 56 (.aload_n 0) 1 57 := ⟨by decide +kernel, rfl⟩
theorem dX10_findTables_57 : dn cX10_findTables 57 (.iconst 0) 1 58 := ⟨by decide +kernel, rfl⟩
theorem dX10_findTables_58 : dn cX10_findTables 58 (.putfield 138) 3 61 := ⟨by decide +kernel, rfl⟩
theorem dX10_findTables_61 : dn cX10_findTables 61 (.iconst 0) 1 62 := ⟨by decide +kernel, rfl⟩
theorem dX10_findTables_62 : dn cX10_findTables 62 (.istore_n 1) 1 63 := ⟨by decide +kernel, rfl⟩
theorem dX10_findTables_63 : dn cX10_findTables 63 (.iload_n 1) 1 64 := ⟨by decide +kernel, rfl⟩
theorem dX10_findTables_64 : dn cX10_findTables 64 (.aload_n 0) 1 65 := ⟨by decide +kernel, rfl⟩
theorem dX10_findTables_65 : dn cX10_findTables 65 (.getfield 105) 3 68 := ⟨by decide +kernel, rfl⟩
theorem dX10_findTables_68 : db cX10_findTables 68 (.if_icmp .ge 106) 3 71 (106) 174 := ⟨by decide +kernel, rfl, rfl⟩
theorem dX10_findTables_71 : dn cX10_findTables 71 (.aload_n 0) 1 72 := ⟨by decide +kernel, rfl⟩
theorem dX10_findTables_72 : dn cX10_findTables 72 (.getfield 19) 3 75 := ⟨by decide +kernel, rfl⟩
theorem dX10_findTables_75 : dn cX10_findTables 75 (.iload_n 1) 1 76 := ⟨by decide +kernel, rfl⟩
theorem dX10_findTables_76 : dn cX10_findTables 76 (.iaload) 1 77 := ⟨by decide +kernel, rfl⟩
theorem dX10_findTables_77 : dn cX10_findTables 77 (.iload_n 1) 1 78 := ⟨by decide +kernel, rfl⟩
theorem dX10_findTables_78 : db cX10_findTables 78 (.if_icmp .ne 90) 3 81 (90) 168 := ⟨by decide +kernel, rfl, rfl⟩
theorem dX10_findTables_81 : dn cX10_findTables 81 (.aload_n 0) 1 82 := ⟨by decide +kernel, rfl⟩
theorem dX10_findTables_82 : dn cX10_findTables 82 (.iload_n 1) 1 83 := ⟨by decide +kernel, rfl⟩
theorem dX10_findTables_83 : dn cX10_findTables 83 (.iconst 0) 1 84 := ⟨by decide +kernel, rfl⟩
theorem dX10_findTables_84 : dn cX10_findTables 84 (.invokevirtual 141) 3 87 := ⟨by decide +kernel, rfl⟩
theorem dX10_findTables_87 : dn cX10_findTables 87 (.iconst 1) 1 88 := ⟨by decide +kernel, rfl⟩
theorem dX10_findTables_88 : db cX10_findTables 88 (.if_icmp .le 80) 3 91 (80) 168 := ⟨by decide +kernel, rfl, rfl⟩
theorem dX10_findTables_91 : dn cX10_findTables 91 (.aload_n 0) 1 92 := ⟨by decide +kernel, rfl⟩
theorem dX10_findTables_92 : dn cX10_findTables 92 (.iload_n 1) 1 93 := ⟨by decide +kernel, rfl⟩
theorem dX10_findTables_93 : dn cX10_findTables 93 (.iconst 1) 1 94 := ⟨by decide +kernel, rfl⟩
theorem dX10_findTables_94 : dn cX10_findTables 94 (.invokevirtual 141) 3 97 := ⟨by decide +kernel, rfl⟩
theorem dX10_findTables_97 : dn cX10_findTables 97 (.iconst 1) 1 98 := ⟨by decide +kernel, rfl⟩
theorem dX10_findTables_98 : db cX10_findTables 98 (.if_icmp .le 70) 3 101 (70) 168 := ⟨by decide +kernel, rfl, rfl⟩
theorem dX10_findTables_101 : dn cX10_findTables 101 (.iconst 0) 1 102 := ⟨by decide +kernel, rfl⟩
theorem dX10_findTables_102 : dn cX10_findTables 102 (.istore_n 2) 1 103 := ⟨by decide +kernel, rfl⟩
theorem dX10_findTables_103 : dn cX10_findTables 103 (.iload_n 2) 1 104 := ⟨by decide +kernel, rfl⟩
theorem dX10_findTables_104 : dn cX10_findTables 104 (.aload_n 0) 1 105 := ⟨by decide +kernel, rfl⟩
theorem dX10_findTables_105 : dn cX10_findTables 105 (.getfield 105) 3 108 := ⟨by decide +kernel, rfl⟩
theorem dX10_findTables_108 : db cX10_findTables 108 (.if_icmp .ge 50) 3 111 (50) 158 := ⟨by decide +kernel, rfl, rfl⟩
theorem dX10_findTables_111 : dn cX10_findTables 111 (.aload_n 0) 1 112 := ⟨by decide +kernel, rfl⟩
theorem dX10_findTables_112 : dn cX10_findTables 112 (.getfield 22) 3 115 := ⟨by decide +kernel, rfl⟩
theorem dX10_findTables_115 : dn cX10_findTables 115 (.bipush 7) 2 117 := ⟨by decide +kernel, rfl⟩
theorem dX10_findTables_117 : dn cX10_findTables 117 (.iload_n 2) 1 118 := ⟨by decide +kernel, rfl⟩
theorem dX10_findTables_118 : dn cX10_findTables 118 (.imul) 1 119 := ⟨by decide +kernel, rfl⟩
theorem dX10_findTables_119 : dn cX10_findTables 119 (.bipush 6) 2 121 := ⟨by decide +kernel, rfl⟩
theorem dX10_findTables_121 : dn cX10_findTables 121 (.iadd) 1 122 := ⟨by decide +kernel, rfl⟩
theorem dX10_findTables_122 : dn cX10_findTables 122 (.aload_n 0) 1 123 := ⟨by decide +kernel, rfl⟩
theorem dX10_findTables_123 : dn cX10_findTables 123 (.getfield 19) 3 126 := ⟨by decide +kernel, rfl⟩
theorem dX10_findTables_126 : dn cX10_findTables 126 (.iload_n 2) 1 127 := ⟨by decide +kernel, rfl⟩
theorem dX10_findTables_127 : dn cX10_findTables 127 (.iaload) 1 128 := ⟨by decide +kernel, rfl⟩
theorem dX10_findTables_128 : dn cX10_findTables 128 (.iload_n 1) 1 129 := ⟨by decide +kernel, rfl⟩
theorem dX10_findTables_129 : db cX10_findTables 129 (.if_icmp .ne 10) 3 132 (10) 139 := ⟨by decide +kernel, rfl, rfl⟩
theorem dX10_findTables_132 : dn cX10_findTables 132 (.aload_n 0) 1 133 := ⟨by decide +kernel, rfl⟩
theorem dX10_findTables_133 : dn cX10_findTables 133 (.getfield 138) 3 136 := ⟨by decide +kernel, rfl⟩
theorem dX10_findTables_136 : db cX10_findTables 136 (.goto 15) 3 139 (15) 151 := ⟨by decide +kernel, rfl, rfl⟩
theorem dX10_findTables_139 : dn cX10_findTables 139 (.aload_n 0) 1 140 := ⟨by decide +kernel, rfl⟩
theorem dX10_findTables_140 : dn cX10_findTables 140 (.getfield 22) 3 143 := ⟨by decide +kernel, rfl⟩
theorem dX10_findTables_143 : dn cX10_findTables 143 (.bipush 7) 2 145 := ⟨by decide +kernel, rfl⟩
theorem dX10_findTables_145 : dn cX10_findTables 145 (.iload_n 2) 1 146 := ⟨by decide +kernel, rfl⟩
theorem dX10_findTables_146 : dn cX10_findTables 146 (.imul) 1 147 := ⟨by decide +kernel, rfl⟩
theorem dX10_findTables_147 : dn cX10_findTables 147 (.bipush 6) 2 149 := ⟨by decide +kernel, rfl⟩
theorem dX10_findTables_149 : dn cX10_findTables 149 (.iadd) 1 150 := ⟨by decide +kernel, rfl⟩
theorem dX10_findTables_150 : dn cX10_findTables 150 (.iaload) 1 151 := ⟨by decide +kernel, rfl⟩
theorem dX10_findTables_151 : dn cX10_findTables 151 (.iastore) 1 152 := ⟨by decide +kernel, rfl⟩
theorem dX10_findTables_152 : dn cX10_findTables 152 (.iinc 2 1) 3 155 := ⟨by decide +kernel, rfl⟩
theorem dX10_findTables_155 : db cX10_findTables 155 (.goto (-52)) 3 158 (-52) 103 := ⟨by decide +kernel, rfl, rfl⟩
theorem dX10_findTables_158 : dn cX10_findTables 158 (.aload_n 0) 1 159 := ⟨by decide +kernel, rfl⟩
theorem dX10_findTables_159 : dn cX10_findTables 159 (.dup) 1 160 := ⟨by decide +kernel, rfl⟩
theorem dX10_findTables_160 : dn cX10_findTables 160 (.getfield 138) 3 163 := ⟨by decide +kernel, rfl⟩
theorem dX10_findTables_163 : dn cX10_findTables 163 (.iconst 1) 1 164 := ⟨by decide +kernel, rfl⟩
theorem dX10_findTables_164 : dn cX10_findTables 164 (.iadd) 1 165 := ⟨by decide +kernel, rfl⟩
theorem dX10_findTables_165 : dn cX10_findTables 165 (.putfield 138) 3 168 := ⟨by decide +kernel, rfl⟩
theorem dX10_findTables_168 : dn cX10_findTables 168 (.iinc 1 1) 3 171 := ⟨by decide +kernel, rfl⟩
theorem dX10_findTables_171 : db cX10_findTables 171 (.goto (-108)) 3 174 (-108) 63 := ⟨by decide +kernel, rfl, rfl⟩
theorem dX10_findTables_174 : dn cX10_findTables 174 (.iconst 0) 1 175 := ⟨by decide +kernel, rfl⟩
theorem dX10_findTables_175 : dn cX10_findTables 175 (.istore_n 1) 1 176 := ⟨by decide +kernel, rfl⟩
theorem dX10_findTables_176 : dn cX10_findTables 176 (.iload_n 1) 1 177 := ⟨by decide +kernel, rfl⟩
theorem dX10_findTables_177 : dn cX10_findTables 177 (.aload_n 0) 1 178 := ⟨by decide +kernel, rfl⟩
theorem dX10_findTables_178 : dn cX10_findTables 178 (.getfield 138) 3 181 := ⟨by decide +kernel, rfl⟩
theorem dX10_findTables_181 : db cX10_findTables 181 (.if_icmp .ge 21) 3 184 (21) 202 := ⟨by decide +kernel, rfl, rfl⟩
theorem dX10_findTables_184 : dn cX10_findTables 184 (.aload_n 0) 1 185 := ⟨by decide +kernel, rfl⟩
theorem dX10_findTables_185 : dn cX10_findTables 185 (.iload_n 1) 1 186 := ⟨by decide +kernel, rfl⟩
theorem dX10_findTables_186 : dn cX10_findTables 186 (.iconst 0) 1 187 := ⟨by decide +kernel, rfl⟩
theorem dX10_findTables_187 : dn cX10_findTables 187 (.invokevirtual 144) 3 190 := ⟨by decide +kernel, rfl⟩
theorem dX10_findTables_190 : dn cX10_findTables 190 (.aload_n 0) 1 191 := ⟨by decide +kernel, rfl⟩
theorem dX10_findTables_191 : dn cX10_findTables 191 (.iload_n 1) 1 192 := ⟨by decide +kernel, rfl⟩
theorem dX10_findTables_192 : dn cX10_findTables 192 (.iconst 1) 1 193 := ⟨by decide +kernel, rfl⟩
theorem dX10_findTables_193 : dn cX10_findTables 193 (.invokevirtual 144) 3 196 := ⟨by decide +kernel, rfl⟩
theorem dX10_findTables_196 : dn cX10_findTables 196 (.iinc 1 1) 3 199 := ⟨by decide +kernel, rfl⟩
theorem dX10_findTables_199 : db cX10_findTables 199 (.goto (-23)) 3 202 (-23) 176 := ⟨by decide +kernel, rfl, rfl⟩
theorem dX10_findTables_202 : dn cX10_findTables 202 (.return_) 1 203 := ⟨by decide +kernel, rfl⟩
theorem dX10_reaches_0 : dn cX10_reaches 0 (.iconst 0) 1 1 := ⟨by decide +kernel, rfl⟩
theorem dX10_reaches_1 : dn cX10_reaches 1 (.istore 6) 2 3 := ⟨by decide +kernel, rfl⟩
theorem dX10_reaches_3 : dn cX10_reaches 3 (.iconst 0) 1 4 := ⟨by decide +kernel, rfl⟩
theorem dX10_reaches_4 : dn cX10_reaches 4 (.istore 7) 2 6 := ⟨by decide +kernel, rfl⟩
theorem dX10_reaches_6 : dn cX10_reaches 6 (.iload 7) 2 8 := ⟨by decide +kernel, rfl⟩
theorem dX10_reaches_8 : dn cX10_reaches 8 (.aload_n 0) 1 9 := ⟨by decide +kernel, rfl⟩
theorem dX10_reaches_9 : dn cX10_reaches 9 (.getfield 105) 3 12 := ⟨by decide +kernel, rfl⟩
theorem dX10_reaches_12 : db cX10_reaches 12 (.if_icmp .ge 105) 3 15 (105) 117 := ⟨by decide +kernel, rfl, rfl⟩
theorem dX10_reaches_15 : dn cX10_reaches 15 (.aload_n 0) 1 16 := ⟨by decide +kernel, rfl⟩
theorem dX10_reaches_16 : dn cX10_reaches 16 (.iload 7) 2 18 := ⟨by decide +kernel, rfl⟩
theorem dX10_reaches_18 : dn cX10_reaches 18 (.bipush 6) 2 20 := ⟨by decide +kernel, rfl⟩
theorem dX10_reaches_20 : dn cX10_reaches 20 (.invokevirtual 108) 3 23 := ⟨by decide +kernel, rfl⟩
theorem dX10_reaches_23 : dn cX10_reaches 23 (.iload_n 1) 1 24 := ⟨by decide +kernel, rfl⟩
theorem dX10_reaches_24 : db cX10_reaches 24 (.if_icmp .ne 29) 3 27 (29) 53 := ⟨by decide +kernel, rfl, rfl⟩
theorem dX10_reaches_27 : dn cX10_reaches 27 (.aload_n 0) 1 28 := ⟨by decide +kernel, rfl⟩
theorem dX10_reaches_28 : dn cX10_reaches 28 (.iload 7) 2 30 := ⟨by decide +kernel, rfl⟩
theorem dX10_reaches_30 : dn cX10_reaches 30 (.iconst 0) 1 31 := ⟨by decide +kernel, rfl⟩
theorem dX10_reaches_31 : dn cX10_reaches 31 (.invokevirtual 108) 3 34 := ⟨by decide +kernel, rfl⟩
theorem dX10_reaches_34 : dn cX10_reaches 34 (.iload_n 2) 1 35 := ⟨by decide +kernel, rfl⟩
theorem dX10_reaches_35 : db cX10_reaches 35 (.if_icmp .ne 18) 3 38 (18) 53 := ⟨by decide +kernel, rfl, rfl⟩
theorem dX10_reaches_38 : dn cX10_reaches 38 (.aload_n 0) 1 39 := ⟨by decide +kernel, rfl⟩
theorem dX10_reaches_39 : dn cX10_reaches 39 (.iload 7) 2 41 := ⟨by decide +kernel, rfl⟩
theorem dX10_reaches_41 : dn cX10_reaches 41 (.iconst 1) 1 42 := ⟨by decide +kernel, rfl⟩
theorem dX10_reaches_42 : dn cX10_reaches 42 (.invokevirtual 108) 3 45 := ⟨by decide +kernel, rfl⟩
theorem dX10_reaches_45 : dn cX10_reaches 45 (.iload_n 3) 1 46 := ⟨by decide +kernel, rfl⟩
theorem dX10_reaches_46 : db cX10_reaches 46 (.if_icmp .ne 7) 3 49 (7) 53 := ⟨by decide +kernel, rfl, rfl⟩
theorem dX10_reaches_49 : dn cX10_reaches 49 (.iconst 1) 1 50 := ⟨by decide +kernel, rfl⟩
theorem dX10_reaches_50 : db cX10_reaches 50 (.goto 4) 3 53 (4) 54 := ⟨by decide +kernel, rfl, rfl⟩
theorem dX10_reaches_53 : dn cX10_reaches 53 (.iconst 0) 1 54 := ⟨by decide +kernel, rfl⟩
theorem dX10_reaches_54 : dn cX10_reaches 54 (.istore 8) 2 56 := ⟨by decide +kernel, rfl⟩
theorem dX10_reaches_56 : dn cX10_reaches 56 (.iload 6) 2 58 := ⟨by decide +kernel, rfl⟩
theorem dX10_reaches_58 : db cX10_reaches 58 (.ifCond .ne 46) 3 61 (46) 104 := ⟨by decide +kernel, rfl, rfl⟩
theorem dX10_reaches_61 : dn cX10_reaches 61 (.iload 8) 2 63 := ⟨by decide +kernel, rfl⟩
theorem dX10_reaches_63 : db cX10_reaches 63 (.ifCond .eq 45) 3 66 (45) 108 := ⟨by decide +kernel, rfl, rfl⟩
theorem dX10_reaches_66 : dn cX10_reaches 66 (.aload_n 0) 1 67 := ⟨by decide +kernel, rfl⟩
theorem dX10_reaches_67 : dn cX10_reaches 67 (.iload 7) 2 69 := ⟨by decide +kernel, rfl⟩
theorem dX10_reaches_69 : dn cX10_reaches 69 (.iconst 2) 1 70 := ⟨by decide +kernel, rfl⟩
theorem dX10_reaches_70 : dn cX10_reaches 70 (.invokevirtual 108) 3 73 := ⟨by decide +kernel, rfl⟩
theorem dX10_reaches_73 : dn cX10_reaches 73 (.aload_n 0) 1 74 := ⟨by decide +kernel, rfl⟩
theorem dX10_reaches_74 : dn cX10_reaches 74 (.getfield 16) 3 77 := ⟨by decide +kernel, rfl⟩
theorem dX10_reaches_77 : dn cX10_reaches 77 (.iconst 2) 1 78 := ⟨by decide +kernel, rfl⟩
theorem dX10_reaches_78 : dn cX10_reaches 78 (.iaload) 1 79 := ⟨by decide +kernel, rfl⟩
theorem dX10_reaches_79 : dn cX10_reaches 79 (.isub) 1 80 := ⟨by decide +kernel, rfl⟩
theorem dX10_reaches_80 : dn cX10_reaches 80 (.iload 4) 2 82 := ⟨by decide +kernel, rfl⟩
theorem dX10_reaches_82 : db cX10_reaches 82 (.if_icmp .gt 26) 3 85 (26) 108 := ⟨by decide +kernel, rfl, rfl⟩
theorem dX10_reaches_85 : dn cX10_reaches 85 (.aload_n 0) 1 86 := ⟨by decide +kernel, rfl⟩
theorem dX10_reaches_86 : dn cX10_reaches 86 (.iload 7) 2 88 := ⟨by decide +kernel, rfl⟩
theorem dX10_reaches_88 : dn cX10_reaches 88 (.iconst 3) 1 89 := ⟨by decide +kernel, rfl⟩
theorem dX10_reaches_89 : dn cX10_reaches 89 (.invokevirtual 108) 3 92 := ⟨by decide +kernel, rfl⟩
theorem dX10_reaches_92 : dn cX10_reaches 92 (.aload_n 0) 1 93 := ⟨by decide +kernel, rfl⟩
theorem dX10_reaches_93 : dn cX10_reaches 93 (.getfield 16) 3 96 := ⟨by decide +kernel, rfl⟩
theorem dX10_reaches_96 : dn cX10_reaches 96 (.iconst 2) 1 97 := ⟨by decide +kernel, rfl⟩
theorem dX10_reaches_97 : dn cX10_reaches 97 (.iaload) 1 98 := ⟨by decide +kernel, rfl⟩
theorem dX10_reaches_98 : dn cX10_reaches 98 (.iadd) 1 99 := ⟨by decide +kernel, rfl⟩
theorem dX10_reaches_99 : dn cX10_reaches 99 (.iload 5) 2 101 := ⟨by decide +kernel, rfl⟩
theorem dX10_reaches_101 : db cX10_reaches 101 (.if_icmp .lt 7) 3 104 (7) 108 := ⟨by decide +kernel, rfl, rfl⟩
theorem dX10_reaches_104 : dn cX10_reaches 104 (.iconst 1) 1 105 := ⟨by decide +kernel, rfl⟩
theorem dX10_reaches_105 : db cX10_reaches 105 (.goto 4) 3 108 (4) 109 := ⟨by decide +kernel, rfl, rfl⟩
theorem dX10_reaches_108 : dn cX10_reaches 108 (.iconst 0) 1 109 := ⟨by decide +kernel, rfl⟩
theorem dX10_reaches_109 : dn cX10_reaches 109 (.istore 6) 2 111 := ⟨by decide +kernel, rfl⟩
theorem dX10_reaches_111 : dn cX10_reaches 111 (.iinc 7 1) 3 114 := ⟨by decide +kernel, rfl⟩
theorem dX10_reaches_114 : db cX10_reaches 114 (.goto (-108)) 3 117 (-108) 6 := ⟨by decide +kernel, rfl, rfl⟩
theorem dX10_reaches_117 : dn cX10_reaches 117 (.iload 6) 2 119 := ⟨by decide +kernel, rfl⟩
theorem dX10_reaches_119 : dn cX10_reaches 119 (.ireturn) 1 120 := ⟨by decide +kernel, rfl⟩
theorem dX10_isSide_0 : dn cX10_isSide 0 (.iload_n 3) 1 1 := ⟨by decide +kernel, rfl⟩
theorem dX10_isSide_1 : dn cX10_isSide 1 (.i2l) 1 2 := ⟨by decide +kernel, rfl⟩
theorem dX10_isSide_2 : dn cX10_isSide 2 (.lconst 0) 1 3 := ⟨by decide +kernel, rfl⟩
theorem dX10_isSide_3 : dn cX10_isSide 3 (.aload_n 0) 1 4 := ⟨by decide +kernel, rfl⟩
theorem dX10_isSide_4 : dn cX10_isSide 4 (.iload_n 1) 1 5 := ⟨by decide +kernel, rfl⟩
theorem dX10_isSide_5 : dn cX10_isSide 5 (.invokevirtual 148) 3 8 := ⟨by decide +kernel, rfl⟩
theorem dX10_isSide_8 : dn cX10_isSide 8 (.iload_n 2) 1 9 := ⟨by decide +kernel, rfl⟩
theorem dX10_isSide_9 : dn cX10_isSide 9 (.isub) 1 10 := ⟨by decide +kernel, rfl⟩
theorem dX10_isSide_10 : dn cX10_isSide 10 (.i2l) 1 11 := ⟨by decide +kernel, rfl⟩
theorem dX10_isSide_11 : dn cX10_isSide 11 (.invokestatic 64) 3 14 := ⟨by decide +kernel, rfl⟩
theorem dX10_isSide_14 : db cX10_isSide 14 (.ifCond .eq 27) 3 17 (27) 41 := ⟨by decide +kernel, rfl, rfl⟩
theorem dX10_isSide_17 : dn cX10_isSide 17 (.iload 4) 2 19 := ⟨by decide +kernel, rfl⟩
theorem dX10_isSide_19 : dn cX10_isSide 19 (.i2l) 1 20 := ⟨by decide +kernel, rfl⟩
theorem dX10_isSide_20 : dn cX10_isSide 20 (.lconst 0) 1 21 := ⟨by decide +kernel, rfl⟩
theorem dX10_isSide_21 : dn cX10_isSide 21 (.aload_n 0) 1 22 := ⟨by decide +kernel, rfl⟩
theorem dX10_isSide_22 : dn cX10_isSide 22 (.iload_n 1) 1 23 := ⟨by decide +kernel, rfl⟩
theorem dX10_isSide_23 : dn cX10_isSide 23 (.invokevirtual 152) 3 26 := ⟨by decide +kernel, rfl⟩
theorem dX10_isSide_26 : dn cX10_isSide 26 (.iconst 1) 1 27 := ⟨by decide +kernel, rfl⟩
theorem dX10_isSide_27 : dn cX10_isSide 27 (.isub) 1 28 := ⟨by decide +kernel, rfl⟩
theorem dX10_isSide_28 : dn cX10_isSide 28 (.iload_n 2) 1 29 := ⟨by decide +kernel, rfl⟩
theorem dX10_isSide_29 : dn cX10_isSide 29 (.iadd) 1 30 := ⟨by decide +kernel, rfl⟩
theorem dX10_isSide_30 : dn cX10_isSide 30 (.i2l) 1 31 := ⟨by decide +kernel, rfl⟩
theorem dX10_isSide_31 : dn cX10_isSide 31 (.invokestatic 64) 3 34 := ⟨by decide +kernel, rfl⟩
theorem dX10_isSide_34 : db cX10_isSide 34 (.ifCond .eq 7) 3 37 (7) 41 := ⟨by decide +kernel, rfl, rfl⟩
theorem dX10_isSide_37 : dn cX10_isSide 37 (.iconst 1) 1 38 := ⟨by decide +kernel, rfl⟩
theorem dX10_isSide_38 : db cX10_isSide 38 (.goto 4) 3 41 (4) 42 := ⟨by decide +kernel, rfl, rfl⟩
theorem dX10_isSide_41 : dn cX10_isSide 41 (.iconst 0) 1 42 := ⟨by decide +kernel, rfl⟩
theorem dX10_isSide_42 : dn cX10_isSide 42 (.ireturn) 1 43 := ⟨by decide +kernel, rfl⟩
theorem dX10_isRuled_0 : dn cX10_isRuled 0 (.iload_n 2) 1 1 := ⟨by decide +kernel, rfl⟩
theorem dX10_isRuled_1 : db cX10_isRuled 1 (.ifCond .ne 8) 3 4 (8) 9 := ⟨by decide +kernel, rfl, rfl⟩
theorem dX10_isRuled_4 : dn cX10_isRuled 4 (.iload 4) 2 6 := ⟨by decide +kernel, rfl⟩
theorem dX10_isRuled_6 : db cX10_isRuled 6 (.goto 4) 3 9 (4) 10 := ⟨by decide +kernel, rfl, rfl⟩
theorem dX10_isRuled_9 : dn cX10_isRuled 9 (.iload_n 3) 1 10 := ⟨by decide +kernel, rfl⟩
theorem dX10_isRuled_10 : dn cX10_isRuled 10 (.istore 5) 2 12 := ⟨by decide +kernel, rfl⟩
theorem dX10_isRuled_12 : dn cX10_isRuled 12 (.aload_n 0) 1 13 := ⟨by decide +kernel, rfl⟩
theorem dX10_isRuled_13 : dn cX10_isRuled 13 (.iload_n 1) 1 14 := ⟨by decide +kernel, rfl⟩
theorem dX10_isRuled_14 : dn cX10_isRuled 14 (.iload_n 2) 1 15 := ⟨by decide +kernel, rfl⟩
theorem dX10_isRuled_15 : dn cX10_isRuled 15 (.aload_n 0) 1 16 := ⟨by decide +kernel, rfl⟩
theorem dX10_isRuled_16 : dn cX10_isRuled 16 (.iload_n 1) 1 17 := ⟨by decide +kernel, rfl⟩
theorem dX10_isRuled_17 : dn cX10_isRuled 17 (.iload_n 2) 1 18 := ⟨by decide +kernel, rfl⟩
theorem dX10_isRuled_18 : dn cX10_isRuled 18 (.iload_n 2) 1 19 := ⟨by decide +kernel, rfl⟩
theorem dX10_isRuled_19 : db cX10_isRuled 19 (.ifCond .ne 7) 3 22 (7) 26 := ⟨by decide +kernel, rfl, rfl⟩
theorem dX10_isRuled_22 : dn cX10_isRuled 22 (.iload_n 3) 1 23 := ⟨by decide +kernel, rfl⟩
theorem dX10_isRuled_23 : db cX10_isRuled 23 (.goto 5) 3 26 (5) 28 := ⟨by decide +kernel, rfl, rfl⟩
theorem dX10_isRuled_26 : dn cX10_isRuled 26 (.iload 4) 2 28 := ⟨by decide +kernel, rfl⟩
theorem dX10_isRuled_28 : dn cX10_isRuled 28 (.invokevirtual 155) 3 31 := ⟨by decide +kernel, rfl⟩
theorem dX10_isRuled_31 : dn cX10_isRuled 31 (.aload_n 0) 1 32 := ⟨by decide +kernel, rfl⟩
theorem dX10_isRuled_32 : dn cX10_isRuled 32 (.iload_n 1) 1 33 := ⟨by decide +kernel, rfl⟩
theorem dX10_isRuled_33 : dn cX10_isRuled 33 (.iconst 1) 1 34 := ⟨by decide +kernel, rfl⟩
theorem dX10_isRuled_34 : dn cX10_isRuled 34 (.iload_n 2) 1 35 := ⟨by decide +kernel, rfl⟩
theorem dX10_isRuled_35 : dn cX10_isRuled 35 (.isub) 1 36 := ⟨by decide +kernel, rfl⟩
theorem dX10_isRuled_36 : dn cX10_isRuled 36 (.iload 5) 2 38 := ⟨by decide +kernel, rfl⟩
theorem dX10_isRuled_38 : dn cX10_isRuled 38 (.invokevirtual 155) 3 41 := ⟨by decide +kernel, rfl⟩
theorem dX10_isRuled_41 : dn cX10_isRuled 41 (.aload_n 0) 1 42 := ⟨by decide +kernel, rfl⟩
theorem dX10_isRuled_42 : dn cX10_isRuled 42 (.iload_n 1) 1 43 := ⟨by decide +kernel, rfl⟩
theorem dX10_isRuled_43 : dn cX10_isRuled 43 (.iconst 1) 1 44 := ⟨by decide +kernel, rfl⟩
theorem dX10_isRuled_44 : dn cX10_isRuled 44 (.iload_n 2) 1 45 := ⟨by decide +kernel, rfl⟩
theorem dX10_isRuled_45 : dn cX10_isRuled 45 (.isub) 1 46 := ⟨by decide +kernel, rfl⟩
theorem dX10_isRuled_46 : dn cX10_isRuled 46 (.iload 5) 2 48 := ⟨by decide +kernel, rfl⟩
theorem dX10_isRuled_48 : dn cX10_isRuled 48 (.iconst 1) 1 49 := ⟨by decide +kernel, rfl⟩
theorem dX10_isRuled_49 : dn cX10_isRuled 49 (.iadd) 1 50 := ⟨by decide +kernel, rfl⟩
theorem dX10_isRuled_50 : dn cX10_isRuled 50 (.invokevirtual 155) 3 53 := ⟨by decide +kernel, rfl⟩
theorem dX10_isRuled_53 : dn cX10_isRuled 53 (.invokevirtual 159) 3 56 := ⟨by decide +kernel, rfl⟩
theorem dX10_isRuled_56 : dn cX10_isRuled 56 (.ireturn) 1 57 := ⟨by decide +kernel, rfl⟩
theorem dX10_cellAt_0 : dn cX10_cellAt 0 (.aload_n 0) 1 1 := ⟨by decide +kernel, rfl⟩
theorem dX10_cellAt_1 : dn cX10_cellAt 1 (.getfield 43) 3 4 := ⟨by decide +kernel, rfl⟩
theorem dX10_cellAt_4 : dn cX10_cellAt 4 (.bipush 6) 2 6 := ⟨by decide +kernel, rfl⟩
theorem dX10_cellAt_6 : dn cX10_cellAt 6 (.iload_n 1) 1 7 := ⟨by decide +kernel, rfl⟩
theorem dX10_cellAt_7 : dn cX10_cellAt 7 (.imul) 1 8 := ⟨by decide +kernel, rfl⟩
theorem dX10_cellAt_8 : dn cX10_cellAt 8 (.iload_n 2) 1 9 := ⟨by decide +kernel, rfl⟩
theorem dX10_cellAt_9 : dn cX10_cellAt 9 (.iadd) 1 10 := ⟨by decide +kernel, rfl⟩
theorem dX10_cellAt_10 : dn cX10_cellAt 10 (.iaload) 1 11 := ⟨by decide +kernel, rfl⟩
theorem dX10_cellAt_11 : dn cX10_cellAt 11 (.ireturn) 1 12 := ⟨by decide +kernel, rfl⟩
theorem dX10_addField_0 : dn cX10_addField 0 (.bipush 6) 2 2 := ⟨by decide +kernel, rfl⟩
theorem dX10_addField_2 : dn cX10_addField 2 (.iload_n 1) 1 3 := ⟨by decide +kernel, rfl⟩
theorem dX10_addField_3 : dn cX10_addField 3 (.imul) 1 4 := ⟨by decide +kernel, rfl⟩
theorem dX10_addField_4 : dn cX10_addField 4 (.istore 4) 2 6 := ⟨by decide +kernel, rfl⟩
theorem dX10_addField_6 : dn cX10_addField 6 (.aload_n 0) 1 7 := ⟨by decide +kernel, rfl⟩
theorem dX10_addField_7 : dn cX10_addField 7 (.getfield 43) 3 10 := ⟨by decide +kernel, rfl⟩
theorem dX10_addField_10 : dn cX10_addField 10 (.iload 4) 2 12 := ⟨by decide +kernel, rfl⟩
theorem dX10_addField_12 : dn cX10_addField 12 (.iaload) 1 13 := ⟨by decide +kernel, rfl⟩
theorem dX10_addField_13 : dn cX10_addField 13 (.aload_n 0) 1 14 := ⟨by decide +kernel, rfl⟩
theorem dX10_addField_14 : dn cX10_addField 14 (.getfield 43) 3 17 := ⟨by decide +kernel, rfl⟩
theorem dX10_addField_17 : dn cX10_addField 17 (.iload 4) 2 19 := ⟨by decide +kernel, rfl⟩
theorem dX10_addField_19 : dn cX10_addField 19 (.iconst 2) 1 20 := ⟨by decide +kernel, rfl⟩
theorem dX10_addField_20 : dn cX10_addField 20 (.iadd) 1 21 := ⟨by decide +kernel, rfl⟩
theorem dX10_addField_21 : dn cX10_addField 21 (.iaload) 1 22 := ⟨by decide +kernel, rfl⟩
theorem dX10_addField_22 : dn cX10_addField 22 (.iadd) 1 23 := ⟨by decide +kernel, rfl⟩
theorem dX10_addField_23 : dn cX10_addField 23 (.istore 5) 2 25 := ⟨by decide +kernel, rfl⟩
theorem dX10_addField_25 : dn cX10_addField 25 (.aload_n 0) 1 26 := ⟨by decide +kernel, rfl⟩
theorem dX10_addField_26 : dn cX10_addField 26 (.getfield 43) 3 29 := ⟨by decide +kernel, rfl⟩
theorem dX10_addField_29 : dn cX10_addField 29 (.iload 4) 2 31 := ⟨by decide +kernel, rfl⟩
theorem dX10_addField_31 : dn cX10_addField 31 (.iconst 1) 1 32 := ⟨by decide +kernel, rfl⟩
theorem dX10_addField_32 : dn cX10_addField 32 (.iadd) 1 33 := ⟨by decide +kernel, rfl⟩
theorem dX10_addField_33 : dn cX10_addField 33 (.iaload) 1 34 := ⟨by decide +kernel, rfl⟩
theorem dX10_addField_34 : dn cX10_addField 34 (.aload_n 0) 1 35 := ⟨by decide +kernel, rfl⟩
theorem dX10_addField_35 : dn cX10_addField 35 (.getfield 43) 3 38 := ⟨by decide +kernel, rfl⟩
theorem dX10_addField_38 : dn cX10_addField 38 (.iload 4) 2 40 := ⟨by decide +kernel, rfl⟩
theorem dX10_addField_40 : dn cX10_addField 40 (.iconst 3) 1 41 := ⟨by decide +kernel, rfl⟩
theorem dX10_addField_41 : dn cX10_addField 41 (.iadd) 1 42 := ⟨by decide +kernel, rfl⟩
theorem dX10_addField_42 : dn cX10_addField 42 (.iaload) 1 43 := ⟨by decide +kernel, rfl⟩
theorem dX10_addField_43 : dn cX10_addField 43 (.iadd) 1 44 := ⟨by decide +kernel, rfl⟩
theorem dX10_addField_44 : dn cX10_addField 44 (.istore 6) 2 46 := ⟨by decide +kernel, rfl⟩
theorem dX10_addField_46 : dn cX10_addField 46 (.aload_n 0) 1 47 := ⟨by decide +kernel, rfl⟩
theorem dX10_addField_47 : dn cX10_addField 47 (.getfield 43) 3 50 := ⟨by decide +kernel, rfl⟩
theorem dX10_addField_50 : dn cX10_addField 50 (.iload 4) 2 52 := ⟨by decide +kernel, rfl⟩
theorem dX10_addField_52 : dn cX10_addField 52 (.iconst 4) 1 53 := ⟨by decide +kernel, rfl⟩
theorem dX10_addField_53 : dn cX10_addField 53 (.iadd) 1 54 := ⟨by decide +kernel, rfl⟩
theorem dX10_addField_54 : dn cX10_addField 54 (.iaload) 1 55 := ⟨by decide +kernel, rfl⟩
theorem dX10_addField_55 : db cX10_addField 55 (.ifCond .ne 7) 3 58 (7) 62 := ⟨by decide +kernel, rfl, rfl⟩
theorem dX10_addField_58 : dn cX10_addField 58 (.iconst 1) 1 59 := ⟨by decide +kernel, rfl⟩
theorem dX10_addField_59 : db cX10_addField 59 (.goto 4) 3 62 (4) 63 := ⟨by decide +kernel, rfl, rfl⟩
theorem dX10_addField_62 : dn cX10_addField 62 (.iconst 0) 1 63 := ⟨by decide +kernel, rfl⟩
theorem dX10_addField_63 : dn cX10_addField 63 (.istore 7) 2 65 := ⟨by decide +kernel, rfl⟩
theorem dX10_addField_65 : dn cX10_addField 65 (.aload_n 0) 1 66 := ⟨by decide +kernel, rfl⟩
theorem dX10_addField_66 : dn cX10_addField 66 (.getfield 43) 3 69 := ⟨by decide +kernel, rfl⟩
theorem dX10_addField_69 : dn cX10_addField 69 (.iload 4) 2 71 := ⟨by decide +kernel, rfl⟩
theorem dX10_addField_71 : dn cX10_addField 71 (.iload 7) 2 73 := ⟨by decide +kernel, rfl⟩
theorem dX10_addField_73 : db cX10_addField 73 (.ifCond .eq 7) 3 76 (7) 80 := ⟨by decide +kernel, rfl, rfl⟩
theorem dX10_addField_76 : dn cX10_addField 76 (.iload_n 2) 1 77 := ⟨by decide +kernel, rfl⟩
theorem dX10_addField_77 : db cX10_addField 77 (.goto 14) 3 80 (14) 91 := ⟨by decide +kernel, rfl, rfl⟩
theorem dX10_addField_80 : dn cX10_addField 80 (.aload_n 0) 1 81 := ⟨by decide +kernel, rfl⟩
theorem dX10_addField_81 : dn cX10_addField 81 (.getfield 43) 3 84 := ⟨by decide +kernel, rfl⟩
theorem dX10_addField_84 : dn cX10_addField 84 (.iload 4) 2 86 := ⟨by decide +kernel, rfl⟩
theorem dX10_addField_86 : dn cX10_addField 86 (.iaload) 1 87 := ⟨by decide +kernel, rfl⟩
theorem dX10_addField_87 : dn cX10_addField 87 (.iload_n 2) 1 88 := ⟨by decide +kernel, rfl⟩
theorem dX10_addField_88 : dn cX10_addField 88 (.invokestatic 102) 3 91 := ⟨by decide +kernel, rfl⟩
theorem dX10_addField_91 : dn cX10_addField 91 (.iastore) 1 92 := ⟨by decide +kernel, rfl⟩
theorem dX10_addField_92 : dn cX10_addField 92 (.aload_n 0) 1 93 := ⟨by decide +kernel, rfl⟩
theorem dX10_addField_93 : dn cX10_addField 93 (.getfield 43) 3 96 := ⟨by decide +kernel, rfl⟩
theorem dX10_addField_96 : dn cX10_addField 96 (.iload 4) 2 98 := ⟨by decide +kernel, rfl⟩
theorem dX10_addField_98 : dn cX10_addField 98 (.iconst 1) 1 99 := ⟨by decide +kernel, rfl⟩
theorem dX10_addField_99 : dn cX10_addField 99 (.iadd) 1 100 := ⟨by decide +kernel, rfl⟩
theorem dX10_addField_100 : dn cX10_addField 100 (.iload 7) 2 102 := ⟨by decide +kernel, rfl⟩
theorem dX10_addField_102 : db cX10_addField 102 (.ifCond .eq 7) 3 105 (7) 109 := ⟨by decide +kernel, rfl, rfl⟩
theorem dX10_addField_105 : dn cX10_addField 105 (.iload_n 3) 1 106 := ⟨by decide +kernel, rfl⟩
theorem dX10_addField_106 : db cX10_addField 106 (.goto 16) 3 109 (16) 122 := ⟨by decide +kernel, rfl, rfl⟩
theorem dX10_addField_109 : dn cX10_addField 109 (.aload_n 0) 1 110 := ⟨by decide +kernel, rfl⟩
theorem dX10_addField_110 : dn cX10_addField 110 (.getfield 43) 3 113 := ⟨by decide +kernel, rfl⟩
theorem dX10_addField_113 : dn cX10_addField 113 (.iload 4) 2 115 := ⟨by decide +kernel, rfl⟩
theorem dX10_addField_115 : dn cX10_addField 115 (.iconst 1) 1 116 := ⟨by decide +kernel, rfl⟩
theorem dX10_addField_116 : dn cX10_addField 116 (.iadd) 1 117 := ⟨by decide +kernel, rfl⟩
theorem dX10_addField_117 : dn cX10_addField 117 (.iaload) 1 118 := ⟨by decide +kernel, rfl⟩
theorem dX10_addField_118 : dn cX10_addField 118 (.iload_n 3) 1 119 := ⟨by decide +kernel, rfl⟩
theorem dX10_addField_119 : dn cX10_addField 119 (.invokestatic 102) 3 122 := ⟨by decide +kernel, rfl⟩
theorem dX10_addField_122 : dn cX10_addField 122 (.iastore) 1 123 := ⟨by decide +kernel, rfl⟩
theorem dX10_addField_123 : dn cX10_addField 123 (.aload_n 0) 1 124 := ⟨by decide +kernel, rfl⟩
theorem dX10_addField_124 : dn cX10_addField 124 (.getfield 43) 3 127 := ⟨by decide +kernel, rfl⟩
theorem dX10_addField_127 : dn cX10_addField 127 (.iload 4) 2 129 := ⟨by decide +kernel, rfl⟩
theorem dX10_addField_129 : dn cX10_addField 129 (.iconst 2) 1 130 := ⟨by decide +kernel, rfl⟩
theorem dX10_addField_130 : dn cX10_addField 130 (.iadd) 1 131 := ⟨by decide +kernel, rfl⟩
theorem dX10_addField_131 : dn cX10_addField 131 (.iload 7) 2 133 := ⟨by decide +kernel, rfl⟩
theorem dX10_addField_133 : db cX10_addField 133 (.ifCond .eq 9) 3 136 (9) 142 := ⟨by decide +kernel, rfl, rfl⟩
theorem dX10_addField_136 : dn cX10_addField 136 (.iload_n 2) 1 137 := ⟨by decide +kernel, rfl⟩
theorem dX10_addField_137 : dn cX10_addField 137 (.iconst 1) 1 138 := ⟨by decide +kernel, rfl⟩
theorem dX10_addField_138 : dn cX10_addField 138 (.iadd) 1 139 := ⟨by decide +kernel, rfl⟩
theorem dX10_addField_139 : db cX10_addField 139 (.goto 11) 3 142 (11) 150 := ⟨by decide +kernel, rfl, rfl⟩
theorem dX10_addField_142 : dn cX10_addField 142 (.iload 5) 2 144 := ⟨by decide +kernel, rfl⟩
theorem dX10_addField_144 : dn cX10_addField 144 (.iload_n 2) 1 145 := ⟨by decide +kernel, rfl⟩
theorem dX10_addField_145 : dn cX10_addField 145 (.iconst 1) 1 146 := ⟨by decide +kernel, rfl⟩
theorem dX10_addField_146 : dn cX10_addField 146 (.iadd) 1 147 := ⟨by decide +kernel, rfl⟩
theorem dX10_addField_147 : dn cX10_addField 147 (.invokestatic 99) 3 150 := ⟨by decide +kernel, rfl⟩
theorem dX10_addField_150 : dn cX10_addField 150 (.aload_n 0) 1 151 := ⟨by decide +kernel, rfl⟩
theorem dX10_addField_151 : dn cX10_addField 151 (.getfield 43) 3 154 := ⟨by decide +kernel, rfl⟩
theorem dX10_addField_154 : dn cX10_addField 154 (.iload 4) 2 156 := ⟨by decide +kernel, rfl⟩
theorem dX10_addField_156 : dn cX10_addField 156 (.iaload) 1 157 := ⟨by decide +kernel, rfl⟩
theorem dX10_addField_157 : dn cX10_addField 157 (.isub) 1 158 := ⟨by decide +kernel, rfl⟩
theorem dX10_addField_158 : dn cX10_addField 158 (.iastore) 1 159 := ⟨by decide +kernel, rfl⟩
theorem dX10_addField_159 : dn cX10_addField 159 (.aload_n 0) 1 160 := ⟨by decide +kernel, rfl⟩
theorem dX10_addField_160 : dn cX10_addField 160 (.getfield 43) 3 163 := ⟨by decide +kernel, rfl⟩
theorem dX10_addField_163 : dn cX10_addField 163 (.iload 4) 2 165 := ⟨by decide +kernel, rfl⟩
theorem dX10_addField_165 : dn cX10_addField 165 (.iconst 3) 1 166 := ⟨by decide +kernel, rfl⟩
theorem dX10_addField_166 : dn cX10_addField 166 (.iadd) 1 167 := ⟨by decide +kernel, rfl⟩
theorem dX10_addField_167 : dn cX10_addField 167 (.iload 7) 2 169 := ⟨by decide +kernel, rfl⟩
theorem dX10_addField_169 : db cX10_addField 169 (.ifCond .eq 9) 3 172 (9) 178 := ⟨by decide +kernel, rfl, rfl⟩
theorem dX10_addField_172 : dn cX10_addField 172 (.iload_n 3) 1 173 := ⟨by decide +kernel, rfl⟩
theorem dX10_addField_173 : dn cX10_addField 173 (.iconst 1) 1 174 := ⟨by decide +kernel, rfl⟩
theorem dX10_addField_174 : dn cX10_addField 174 (.iadd) 1 175 := ⟨by decide +kernel, rfl⟩
theorem dX10_addField_175 : db cX10_addField 175 (.goto 11) 3 178 (11) 186 := ⟨by decide +kernel, rfl, rfl⟩
theorem dX10_addField_178 : dn cX10_addField 178 (.iload 6) 2 180 := ⟨by decide +kernel, rfl⟩
theorem dX10_addField_180 : dn cX10_addField 180 (.iload_n 3) 1 181 := ⟨by decide +kernel, rfl⟩
theorem dX10_addField_181 : dn cX10_addField 181 (.iconst 1) 1 182 := ⟨by decide +kernel, rfl⟩
theorem dX10_addField_182 : dn cX10_addField 182 (.iadd) 1 183 := ⟨by decide +kernel, rfl⟩
theorem dX10_addField_183 : dn cX10_addField 183 (.invokestatic 99) 3 186 := ⟨by decide +kernel, rfl⟩
theorem dX10_addField_186 : dn cX10_addField 186 (.aload_n 0) 1 187 := ⟨by decide +kernel, rfl⟩
theorem dX10_addField_187 : dn cX10_addField 187 (.getfield 43) 3 190 := ⟨by decide +kernel, rfl⟩
theorem dX10_addField_190 : dn cX10_addField 190 (.iload 4) 2 192 := ⟨by decide +kernel, rfl⟩
theorem dX10_addField_192 : dn cX10_addField 192 (.iconst 1) 1 193 := ⟨by decide +kernel, rfl⟩
theorem dX10_addField_193 : dn cX10_addField 193 (.iadd) 1 194 := ⟨by decide +kernel, rfl⟩
theorem dX10_addField_194 : dn cX10_addField 194 (.iaload) 1 195 := ⟨by decide +kernel, rfl⟩
theorem dX10_addField_195 : dn cX10_addField 195 (.isub) 1 196 := ⟨by decide +kernel, rfl⟩
theorem dX10_addField_196 : dn cX10_addField 196 (.iastore) 1 197 := ⟨by decide +kernel, rfl⟩
theorem dX10_addField_197 : dn cX10_addField 197 (.aload_n 0) 1 198 := ⟨by decide +kernel, rfl⟩
theorem dX10_addField_198 : dn cX10_addField 198 (.getfield 43) 3 201 := ⟨by decide +kernel, rfl⟩
theorem dX10_addField_201 : dn cX10_addField 201 (.iload 4) 2 203 := ⟨by decide +kernel, rfl⟩
theorem dX10_addField_203 : dn cX10_addField 203 (.iconst 4) 1 204 := ⟨by decide +kernel, rfl⟩
theorem dX10_addField_204 : dn cX10_addField 204 (.iadd) 1 205 := ⟨by decide +kernel, rfl⟩
theorem dX10_addField_205 : dn cX10_addField 205 (.dup2) 1 206 := ⟨by decide +kernel, rfl⟩
theorem dX10_addField_206 : dn cX10_addField 206 (.iaload) 1 207 := ⟨by decide +kernel, rfl⟩
theorem dX10_addField_207 : dn cX10_addField 207 (.iconst 1) 1 208 := ⟨by decide +kernel, rfl⟩
theorem dX10_addField_208 : dn cX10_addField 208 (.iadd) 1 209 := ⟨by decide +kernel, rfl⟩
theorem dX10_addField_209 : dn cX10_addField 209 (.iastore) 1 210 := ⟨by decide +kernel, rfl⟩
theorem dX10_addField_210 : dn cX10_addField 210 (.return_) 1 211 := ⟨by decide +kernel, rfl⟩
theorem dX10_isOpen_0 : dn cX10_isOpen 0 (.iload_n 2) 1 1 := ⟨by decide +kernel, rfl⟩
theorem dX10_isOpen_1 : db cX10_isOpen 1 (.ifCond .ne 18) 3 4 (18) 19 := ⟨by decide +kernel, rfl, rfl⟩
theorem dX10_isOpen_4 : dn cX10_isOpen 4 (.aload_n 0) 1 5 := ⟨by decide +kernel, rfl⟩
theorem dX10_isOpen_5 : dn cX10_isOpen 5 (.iload_n 1) 1 6 := ⟨by decide +kernel, rfl⟩
theorem dX10_isOpen_6 : dn cX10_isOpen 6 (.iconst 0) 1 7 := ⟨by decide +kernel, rfl⟩
theorem dX10_isOpen_7 : dn cX10_isOpen 7 (.iconst 0) 1 8 := ⟨by decide +kernel, rfl⟩
theorem dX10_isOpen_8 : dn cX10_isOpen 8 (.iload_n 3) 1 9 := ⟨by decide +kernel, rfl⟩
theorem dX10_isOpen_9 : dn cX10_isOpen 9 (.invokevirtual 163) 3 12 := ⟨by decide +kernel, rfl⟩
theorem dX10_isOpen_12 : db cX10_isOpen 12 (.ifCond .ne 7) 3 15 (7) 19 := ⟨by decide +kernel, rfl, rfl⟩
theorem dX10_isOpen_15 : dn cX10_isOpen 15 (.iconst 1) 1 16 := ⟨by decide +kernel, rfl⟩
theorem dX10_isOpen_16 : db cX10_isOpen 16 (.goto 4) 3 19 (4) 20 := ⟨by decide +kernel, rfl, rfl⟩
theorem dX10_isOpen_19 : dn cX10_isOpen 19 (.iconst 0) 1 20 := ⟨by decide +kernel, rfl⟩
theorem dX10_isOpen_20 : dn cX10_isOpen 20 (.istore 4) 2 22 := ⟨by decide +kernel, rfl⟩
theorem dX10_isOpen_22 : dn cX10_isOpen 22 (.iload_n 2) 1 23 := ⟨by decide +kernel, rfl⟩
theorem dX10_isOpen_23 : dn cX10_isOpen 23 (.aload_n 0) 1 24 := ⟨by decide +kernel, rfl⟩
theorem dX10_isOpen_24 : dn cX10_isOpen 24 (.iload_n 1) 1 25 := ⟨by decide +kernel, rfl⟩
theorem dX10_isOpen_25 : dn cX10_isOpen 25 (.invokevirtual 148) 3 28 := ⟨by decide +kernel, rfl⟩
theorem dX10_isOpen_28 : dn cX10_isOpen 28 (.iconst 1) 1 29 := ⟨by decide +kernel, rfl⟩
theorem dX10_isOpen_29 : dn cX10_isOpen 29 (.isub) 1 30 := ⟨by decide +kernel, rfl⟩
theorem dX10_isOpen_30 : db cX10_isOpen 30 (.if_icmp .ne 20) 3 33 (20) 50 := ⟨by decide +kernel, rfl, rfl⟩
theorem dX10_isOpen_33 : dn cX10_isOpen 33 (.aload_n 0) 1 34 := ⟨by decide +kernel, rfl⟩
theorem dX10_isOpen_34 : dn cX10_isOpen 34 (.iload_n 1) 1 35 := ⟨by decide +kernel, rfl⟩
theorem dX10_isOpen_35 : dn cX10_isOpen 35 (.iconst 0) 1 36 := ⟨by decide +kernel, rfl⟩
theorem dX10_isOpen_36 : dn cX10_isOpen 36 (.iload_n 2) 1 37 := ⟨by decide +kernel, rfl⟩
theorem dX10_isOpen_37 : dn cX10_isOpen 37 (.iconst 1) 1 38 := ⟨by decide +kernel, rfl⟩
theorem dX10_isOpen_38 : dn cX10_isOpen 38 (.iadd) 1 39 := ⟨by decide +kernel, rfl⟩
theorem dX10_isOpen_39 : dn cX10_isOpen 39 (.iload_n 3) 1 40 := ⟨by decide +kernel, rfl⟩
theorem dX10_isOpen_40 : dn cX10_isOpen 40 (.invokevirtual 163) 3 43 := ⟨by decide +kernel, rfl⟩
theorem dX10_isOpen_43 : db cX10_isOpen 43 (.ifCond .ne 7) 3 46 (7) 50 := ⟨by decide +kernel, rfl, rfl⟩
theorem dX10_isOpen_46 : dn cX10_isOpen 46 (.iconst 1) 1 47 := ⟨by decide +kernel, rfl⟩
theorem dX10_isOpen_47 : db cX10_isOpen 47 (.goto 4) 3 50 (4) 51 := ⟨by decide +kernel, rfl, rfl⟩
theorem dX10_isOpen_50 : dn cX10_isOpen 50 (.iconst 0) 1 51 := ⟨by decide +kernel, rfl⟩
theorem dX10_isOpen_51 : dn cX10_isOpen 51 (.istore 5) 2 53 := ⟨by decide +kernel, rfl⟩
theorem dX10_isOpen_53 : dn cX10_isOpen 53 (.iload_n 3) 1 54 := ⟨by decide +kernel, rfl⟩
theorem dX10_isOpen_54 : db cX10_isOpen 54 (.ifCond .ne 18) 3 57 (18) 72 := ⟨by decide +kernel, rfl, rfl⟩
theorem dX10_isOpen_57 : dn cX10_isOpen 57 (.aload_n 0) 1 58 := ⟨by decide +kernel, rfl⟩
theorem dX10_isOpen_58 : dn cX10_isOpen 58 (.iload_n 1) 1 59 := ⟨by decide +kernel, rfl⟩
theorem dX10_isOpen_59 : dn cX10_isOpen 59 (.iconst 1) 1 60 := ⟨by decide +kernel, rfl⟩
theorem dX10_isOpen_60 : dn cX10_isOpen 60 (.iload_n 2) 1 61 := ⟨by decide +kernel, rfl⟩
theorem dX10_isOpen_61 : dn cX10_isOpen 61 (.iconst 0) 1 62 := ⟨by decide +kernel, rfl⟩
theorem dX10_isOpen_62 : dn cX10_isOpen 62 (.invokevirtual 163) 3 65 := ⟨by decide +kernel, rfl⟩
theorem dX10_isOpen_65 : db cX10_isOpen 65 (.ifCond .ne 7) 3 68 (7) 72 := ⟨by decide +kernel, rfl, rfl⟩
theorem dX10_isOpen_68 : dn cX10_isOpen 68 (.iconst 1) 1 69 := ⟨by decide +kernel, rfl⟩
theorem dX10_isOpen_69 : db cX10_isOpen 69 (.goto 4) 3 72 (4) 73 := ⟨by decide +kernel, rfl, rfl⟩
theorem dX10_isOpen_72 : dn cX10_isOpen 72 (.iconst 0) 1 73 := ⟨by decide +kernel, rfl⟩
theorem dX10_isOpen_73 : dn cX10_isOpen 73 (.istore 6) 2 75 := ⟨by decide +kernel, rfl⟩
theorem dX10_isOpen_75 : dn cX10_isOpen 75 (.iload_n 3) 1 76 := ⟨by decide +kernel, rfl⟩
theorem dX10_isOpen_76 : dn cX10_isOpen 76 (.aload_n 0) 1 77 := ⟨by decide +kernel, rfl⟩
theorem dX10_isOpen_77 : dn cX10_isOpen 77 (.iload_n 1) 1 78 := ⟨by decide +kernel, rfl⟩
theorem dX10_isOpen_78 : dn cX10_isOpen 78 (.invokevirtual 152) 3 81 := ⟨by decide +kernel, rfl⟩
theorem dX10_isOpen_81 : dn cX10_isOpen 81 (.iconst 1) 1 82 := ⟨by decide +kernel, rfl⟩
theorem dX10_isOpen_82 : dn cX10_isOpen 82 (.isub) 1 83 := ⟨by decide +kernel, rfl⟩
theorem dX10_isOpen_83 : db cX10_isOpen 83 (.if_icmp .ne 20) 3 86 (20) 103 := ⟨by decide +kernel, rfl, rfl⟩
theorem dX10_isOpen_86 : dn cX10_isOpen 86 (.aload_n 0) 1 87 := ⟨by decide +kernel, rfl⟩
theorem dX10_isOpen_87 : dn cX10_isOpen 87 (.iload_n 1) 1 88 := ⟨by decide +kernel, rfl⟩
theorem dX10_isOpen_88 : dn cX10_isOpen 88 (.iconst 1) 1 89 := ⟨by decide +kernel, rfl⟩
theorem dX10_isOpen_89 : dn cX10_isOpen 89 (.iload_n 2) 1 90 := ⟨by decide +kernel, rfl⟩
theorem dX10_isOpen_90 : dn cX10_isOpen 90 (.iload_n 3) 1 91 := ⟨by decide +kernel, rfl⟩
theorem dX10_isOpen_91 : dn cX10_isOpen 91 (.iconst 1) 1 92 := ⟨by decide +kernel, rfl⟩
theorem dX10_isOpen_92 : dn cX10_isOpen 92 (.iadd) 1 93 := ⟨by decide +kernel, rfl⟩
theorem dX10_isOpen_93 : dn cX10_isOpen 93 (.invokevirtual 163) 3 96 := ⟨by decide +kernel, rfl⟩
theorem dX10_isOpen_96 : db cX10_isOpen 96 (.ifCond .ne 7) 3 99 (7) 103 := ⟨by decide +kernel, rfl, rfl⟩
theorem dX10_isOpen_99 : dn cX10_isOpen 99 (.iconst 1) 1 100 := ⟨by decide +kernel, rfl⟩
theorem dX10_isOpen_100 : db cX10_isOpen 100 (.goto 4) 3 103 (4) 104 := ⟨by decide +kernel, rfl, rfl⟩
theorem dX10_isOpen_103 : dn cX10_isOpen 103 (.iconst 0) 1 104 := ⟨by decide +kernel, rfl⟩
theorem dX10_isOpen_104 : dn cX10_isOpen 104 (.istore 7) 2 106 := ⟨by decide +kernel, rfl⟩
theorem dX10_isOpen_106 : dn cX10_isOpen 106 (.iload 4) 2 108 := ⟨by decide +kernel, rfl⟩
theorem dX10_isOpen_108 : db cX10_isOpen 108 (.ifCond .ne 18) 3 111 (18) 126 := ⟨by decide +kernel, rfl, rfl⟩
theorem dX10_isOpen_111 : dn cX10_isOpen 111 (.iload 5) 2 113 := ⟨by decide +kernel, rfl⟩
theorem dX10_isOpen_113 : db cX10_isOpen 113 (.ifCond .ne 13) 3 116 (13) 126 := ⟨by decide +kernel, rfl, rfl⟩
theorem dX10_isOpen_116 : dn cX10_isOpen 116 (.iload 6) 2 118 := ⟨by decide +kernel, rfl⟩
theorem dX10_isOpen_118 : db cX10_isOpen 118 (.ifCond .ne 8) 3 121 (8) 126 := ⟨by decide +kernel, rfl, rfl⟩
theorem dX10_isOpen_121 : dn cX10_isOpen 121 (.iload 7) 2 123 := ⟨by decide +kernel, rfl⟩
theorem dX10_isOpen_123 : db cX10_isOpen 123 (.ifCond .eq 7) 3 126 (7) 130 := ⟨by decide +kernel, rfl, rfl⟩
theorem dX10_isOpen_126 : dn cX10_isOpen 126 (.iconst 1) 1 127 := ⟨by decide +kernel, rfl⟩
theorem dX10_isOpen_127 : db cX10_isOpen 127 (.goto 4) 3 130 (4) 131 := ⟨by decide +kernel, rfl, rfl⟩
theorem dX10_isOpen_130 : dn cX10_isOpen 130 (.iconst 0) 1 131 := ⟨by decide +kernel, rfl⟩
theorem dX10_isOpen_131 : dn cX10_isOpen 131 (.ireturn) 1 132 := ⟨by decide +kernel, rfl⟩
theorem dX10_findCells_0 : dn cX10_findCells 0 (.aload_n 0) 1 1 := ⟨by decide +kernel, rfl⟩
theorem dX10_findCells_1 : dn cX10_findCells 1 (.iload_n 1) 1 2 := ⟨by decide +kernel, rfl⟩
theorem dX10_findCells_2 : dn cX10_findCells 2 (.invokevirtual 152) 3 5 := ⟨by decide +kernel, rfl⟩
theorem dX10_findCells_5 : dn cX10_findCells 5 (.istore_n 2) 1 6 := ⟨by decide +kernel, rfl⟩
theorem dX10_findCells_6 : dn cX10_findCells 6 (.aload_n 0) 1 7 := ⟨by decide +kernel, rfl⟩
theorem dX10_findCells_7 : dn cX10_findCells 7 (.iload_n 1) 1 8 := ⟨by decide +kernel, rfl⟩
theorem dX10_findCells_8 : dn cX10_findCells 8 (.invokevirtual 148) 3 11 := ⟨by decide +kernel, rfl⟩
theorem dX10_findCells_11 : dn cX10_findCells 11 (.iload_n 2) 1 12 := ⟨by decide +kernel, rfl⟩
theorem dX10_findCells_12 : dn cX10_findCells 12 (.imul) 1 13 := ⟨by decide +kernel, rfl⟩
theorem dX10_findCells_13 : dn cX10_findCells 13 (.istore_n 3) 1 14 := ⟨by decide +kernel, rfl⟩
theorem dX10_findCells_14 : dn cX10_findCells 14 (.aload_n 0) 1 15 := ⟨by decide +kernel, rfl⟩
theorem dX10_findCells_15 : dn cX10_findCells 15 (.iload_n 3) 1 16 := ⟨by decide +kernel, rfl⟩
theorem dX10_findCells_16 : dn cX10_findCells 16 (.invokevirtual 115) 3 19 := ⟨by decide +kernel, rfl⟩
theorem dX10_findCells_19 : dn cX10_findCells 19 (.iconst 0) 1 20 := ⟨by decide +kernel, rfl⟩
theorem dX10_findCells_20 : dn cX10_findCells 20 (.istore 4) 2 22 := ⟨by decide +kernel, rfl⟩
theorem dX10_findCells_22 : dn cX10_findCells 22 (.iload 4) 2 24 := ⟨by decide +kernel, rfl⟩
theorem dX10_findCells_24 : dn cX10_findCells 24 (.iload_n 3) 1 25 := ⟨by decide +kernel, rfl⟩
theorem dX10_findCells_25 : db cX10_findCells 25 (.if_icmp .ge 79) 3 28 (79) 104 := ⟨by decide +kernel, rfl, rfl⟩
theorem dX10_findCells_28 : dn cX10_findCells 28 (.iload 4) 2 30 := ⟨by decide +kernel, rfl⟩
theorem dX10_findCells_30 : dn cX10_findCells 30 (.iload_n 2) 1 31 := ⟨by decide +kernel, rfl⟩
theorem dX10_findCells_31 : dn cX10_findCells 31 (.idiv) 1 32 := ⟨by decide +kernel, rfl⟩
theorem dX10_findCells_32 : dn cX10_findCells 32 (.istore 5) 2 34 := ⟨by decide +kernel, rfl⟩
theorem dX10_findCells_34 : dn cX10_findCells 34 (.iload 4) 2 36 := ⟨by decide +kernel, rfl⟩
theorem dX10_findCells_36 : dn cX10_findCells 36 (.iload_n 2) 1 37 := ⟨by decide +kernel, rfl⟩
theorem dX10_findCells_37 : dn cX10_findCells 37 (.irem) 1 38 := ⟨by decide +kernel, rfl⟩
theorem dX10_findCells_38 : dn cX10_findCells 38 (.istore 6) 2 40 := ⟨by decide +kernel, rfl⟩
theorem dX10_findCells_40 : dn cX10_findCells 40 (.iload 5) 2 42 := ⟨by decide +kernel, rfl⟩
theorem dX10_findCells_42 : db cX10_findCells 42 (.ifCond .le 27) 3 45 (27) 69 := ⟨by decide +kernel, rfl, rfl⟩
theorem dX10_findCells_45 : dn cX10_findCells 45 (.aload_n 0) 1 46 := ⟨by decide +kernel, rfl⟩
theorem dX10_findCells_46 : dn cX10_findCells 46 (.iload_n 1) 1 47 := ⟨by decide +kernel, rfl⟩
theorem dX10_findCells_47 : dn cX10_findCells 47 (.iconst 0) 1 48 := ⟨by decide +kernel, rfl⟩
theorem dX10_findCells_48 : dn cX10_findCells 48 (.iload 5) 2 50 := ⟨by decide +kernel, rfl⟩
theorem dX10_findCells_50 : dn cX10_findCells 50 (.iload 6) 2 52 := ⟨by decide +kernel, rfl⟩
theorem dX10_findCells_52 : dn cX10_findCells 52 (.invokevirtual 163) 3 55 := ⟨by decide +kernel, rfl⟩
theorem dX10_findCells_55 : db cX10_findCells 55 (.ifCond .ne 14) 3 58 (14) 69 := ⟨by decide +kernel, rfl, rfl⟩
theorem dX10_findCells_58 : dn cX10_findCells 58 (.aload_n 0) 1 59 := ⟨by decide +kernel, rfl⟩
theorem dX10_findCells_59 : dn cX10_findCells 59 (.iload 4) 2 61 := ⟨by decide +kernel, rfl⟩
theorem dX10_findCells_61 : dn cX10_findCells 61 (.iload 4) 2 63 := ⟨by decide +kernel, rfl⟩
theorem dX10_findCells_63 : dn cX10_findCells 63 (.iload_n 2) 1 64 := ⟨by decide +kernel, rfl⟩
theorem dX10_findCells_64 : dn cX10_findCells 64 (.isub) 1 65 := ⟨by decide +kernel, rfl⟩
theorem dX10_findCells_65 : dn cX10_findCells 65 (.iload_n 3) 1 66 := ⟨by decide +kernel, rfl⟩
theorem dX10_findCells_66 : dn cX10_findCells 66 (.invokevirtual 122) 3 69 := ⟨by decide +kernel, rfl⟩
theorem dX10_findCells_69 : dn cX10_findCells 69 (.iload 6) 2 71 := ⟨by decide +kernel, rfl⟩
theorem dX10_findCells_71 : db cX10_findCells 71 (.ifCond .le 27) 3 74 (27) 98 := ⟨by decide +kernel, rfl, rfl⟩
theorem dX10_findCells_74 : dn cX10_findCells 74 (.aload_n 0) 1 75 := ⟨by decide +kernel, rfl⟩
theorem dX10_findCells_75 : dn cX10_findCells 75 (.iload_n 1) 1 76 := ⟨by decide +kernel, rfl⟩
theorem dX10_findCells_76 : dn cX10_findCells 76 (.iconst 1) 1 77 := ⟨by decide +kernel, rfl⟩
theorem dX10_findCells_77 : dn cX10_findCells 77 (.iload 5) 2 79 := ⟨by decide +kernel, rfl⟩
theorem dX10_findCells_79 : dn cX10_findCells 79 (.iload 6) 2 81 := ⟨by decide +kernel, rfl⟩
theorem dX10_findCells_81 : dn cX10_findCells 81 (.invokevirtual 163) 3 84 := ⟨by decide +kernel, rfl⟩
theorem dX10_findCells_84 : db cX10_findCells 84 (.ifCond .ne 14) 3 87 (14) 98 := ⟨by decide +kernel, rfl, rfl⟩
theorem dX10_findCells_87 : dn cX10_findCells 87 (.aload_n 0) 1 88 := ⟨by decide +kernel, rfl⟩
theorem dX10_findCells_88 : dn cX10_findCells 88 (.iload 4) 2 90 := ⟨by decide +kernel, rfl⟩
theorem dX10_findCells_90 : dn cX10_findCells 90 (.iload 4) 2 92 := ⟨by decide +kernel, rfl⟩
theorem dX10_findCells_92 : dn cX10_findCells 92 (.iconst 1) 1 93 := ⟨by decide +kernel, rfl⟩
theorem dX10_findCells_93 : dn cX10_findCells 93 (.isub) 1 94 := ⟨by decide +kernel, rfl⟩
theorem dX10_findCells_94 : dn cX10_findCells 94 (.iload_n 3) 1 95 := ⟨by decide +kernel, rfl⟩
theorem dX10_findCells_95 : dn cX10_findCells 95 (.invokevirtual 122) 3 98 := ⟨by decide +kernel, rfl⟩
theorem dX10_findCells_98 : dn cX10_findCells 98 (.iinc 4 1) 3 101 := ⟨by decide +kernel, rfl⟩
theorem dX10_findCells_101 : db cX10_findCells 101 (.goto (-79)) 3 104 (-79) 22 := ⟨by decide +kernel, rfl, rfl⟩
theorem dX10_findCells_104 : dn cX10_findCells 104 (.aload_n 0) 1 105 := ⟨by decide +kernel, rfl⟩
theorem dX10_findCells_105 : dn cX10_findCells 105 (.getfield 37) 3 108 := ⟨by decide +kernel, rfl⟩
theorem dX10_findCells_108 : dn cX10_findCells 108 (.iload_n 1) 1 109 := ⟨by decide +kernel, rfl⟩
theorem dX10_findCells_109 : dn cX10_findCells 109 (.iaload) 1 110 := ⟨by decide +kernel, rfl⟩
theorem dX10_findCells_110 : dn cX10_findCells 110 (.istore 4) 2 112 := ⟨by decide +kernel, rfl⟩
theorem dX10_findCells_112 : dn cX10_findCells 112 (.iconst 0) 1 113 := ⟨by decide +kernel, rfl⟩
theorem dX10_findCells_113 : dn cX10_findCells 113 (.istore 5) 2 115 := ⟨by decide +kernel, rfl⟩
theorem dX10_findCells_115 : dn cX10_findCells 115 (.iload 5) 2 117 := ⟨by decide +kernel, rfl⟩
theorem dX10_findCells_117 : dn cX10_findCells 117 (.iload_n 3) 1 118 := ⟨by decide +kernel, rfl⟩
theorem dX10_findCells_118 : db cX10_findCells 118 (.if_icmp .ge 176) 3 121 (176) 294 := ⟨by decide +kernel, rfl, rfl⟩
theorem dX10_findCells_121 : dn cX10_findCells 121 (.aload_n 0) 1 122 := ⟨by decide +kernel, rfl⟩
theorem dX10_findCells_122 : dn cX10_findCells 122 (.getfield 19) 3 125 := ⟨by decide +kernel, rfl⟩
theorem dX10_findCells_125 : dn cX10_findCells 125 (.iload 5) 2 127 := ⟨by decide +kernel, rfl⟩
theorem dX10_findCells_127 : dn cX10_findCells 127 (.iaload) 1 128 := ⟨by decide +kernel, rfl⟩
theorem dX10_findCells_128 : dn cX10_findCells 128 (.iload 5) 2 130 := ⟨by decide +kernel, rfl⟩
theorem dX10_findCells_130 : db cX10_findCells 130 (.if_icmp .ne 51) 3 133 (51) 181 := ⟨by decide +kernel, rfl, rfl⟩
theorem dX10_findCells_133 : dn cX10_findCells 133 (.aload_n 0) 1 134 := ⟨by decide +kernel, rfl⟩
theorem dX10_findCells_134 : dn cX10_findCells 134 (.getfield 40) 3 137 := ⟨by decide +kernel, rfl⟩
theorem dX10_findCells_137 : dn cX10_findCells 137 (.aload_n 0) 1 138 := ⟨by decide +kernel, rfl⟩
theorem dX10_findCells_138 : dn cX10_findCells 138 (.getfield 34) 3 141 := ⟨by decide +kernel, rfl⟩
theorem dX10_findCells_141 : dn cX10_findCells 141 (.iload_n 1) 1 142 := ⟨by decide +kernel, rfl⟩
theorem dX10_findCells_142 : dn cX10_findCells 142 (.iaload) 1 143 := ⟨by decide +kernel, rfl⟩
theorem dX10_findCells_143 : dn cX10_findCells 143 (.iload 5) 2 145 := ⟨by decide +kernel, rfl⟩
theorem dX10_findCells_145 : dn cX10_findCells 145 (.iadd) 1 146 := ⟨by decide +kernel, rfl⟩
theorem dX10_findCells_146 : dn cX10_findCells 146 (.iload 4) 2 148 := ⟨by decide +kernel, rfl⟩
theorem dX10_findCells_148 : dn cX10_findCells 148 (.iastore) 1 149 := ⟨by decide +kernel, rfl⟩
theorem dX10_findCells_149 : dn cX10_findCells 149 (.aload_n 0) 1 150 := ⟨by decide +kernel, rfl⟩
theorem dX10_findCells_150 : dn cX10_findCells 150 (.getfield 43) 3 153 := ⟨by decide +kernel, rfl⟩
theorem dX10_findCells_153 : dn cX10_findCells 153 (.bipush 6) 2 155 := ⟨by decide +kernel, rfl⟩
theorem dX10_findCells_155 : dn cX10_findCells 155 (.iload 4) 2 157 := ⟨by decide +kernel, rfl⟩
theorem dX10_findCells_157 : dn cX10_findCells 157 (.imul) 1 158 := ⟨by decide +kernel, rfl⟩
theorem dX10_findCells_158 : dn cX10_findCells 158 (.iconst 4) 1 159 := ⟨by decide +kernel, rfl⟩
theorem dX10_findCells_159 : dn cX10_findCells 159 (.iadd) 1 160 := ⟨by decide +kernel, rfl⟩
theorem dX10_findCells_160 : dn cX10_findCells 160 (.iconst 0) 1 161 := ⟨by decide +kernel, rfl⟩
theorem dX10_findCells_161 : dn cX10_findCells 161 (.iastore) 1 162 := ⟨by decide +kernel, rfl⟩
theorem dX10_findCells_162 : dn cX10_findCells 162 (.aload_n 0) 1 163 := ⟨by decide +kernel, rfl⟩
theorem dX10_findCells_163 : dn cX10_findCells 163 (.getfield 43) 3 166 := ⟨by decide +kernel, rfl⟩
theorem dX10_findCells_166 : dn cX10_findCells 166 (.bipush 6) 2 168 := ⟨by decide +kernel, rfl⟩
theorem dX10_findCells_168 : dn cX10_findCells 168 (.iload 4) 2 170 := ⟨by decide +kernel, rfl⟩
theorem dX10_findCells_170 : dn cX10_findCells 170 (.imul) 1 171 := ⟨by decide +kernel, rfl⟩
theorem dX10_findCells_171 : dn cX10_findCells 171 (.iconst 5) 1 172 := ⟨by decide +kernel, rfl⟩
theorem dX10_findCells_172 : dn cX10_findCells 172 (.iadd) 1 173 := ⟨by decide +kernel, rfl⟩
theorem dX10_findCells_173 : dn cX10_findCells 173 (.iconst 0) 1 174 := ⟨by decide +kernel, rfl⟩
theorem dX10_findCells_174 : dn cX10_findCells 174 (.iastore) 1 175 := ⟨by decide +kernel, rfl⟩
theorem dX10_findCells_175 : dn cX10_findCells 175 (.iinc 4 1) 3 178 := ⟨by decide +kernel, rfl⟩
theorem dX10_findCells_178 : db cX10_findCells 178 (.goto 36) 3 181 (36) 214 := ⟨by decide +kernel, rfl, rfl⟩
theorem dX10_findCells_181 : dn cX10_findCells 181 (.aload_n 0) 1 182 := ⟨by decide +kernel, rfl⟩
theorem dX10_findCells_182 : dn cX10_findCells 182 (.getfield 40) 3 185 := ⟨by decide +kernel, rfl⟩
theorem dX10_findCells_185 : dn cX10_findCells 185 (.aload_n 0) 1 186 := ⟨by decide +kernel, rfl⟩
theorem dX10_findCells_186 : dn cX10_findCells 186 (.getfield 34) 3 189 := ⟨by decide +kernel, rfl⟩
theorem dX10_findCells_189 : dn cX10_findCells 189 (.iload_n 1) 1 190 := ⟨by decide +kernel, rfl⟩
theorem dX10_findCells_190 : dn cX10_findCells 190 (.iaload) 1 191 := ⟨by decide +kernel, rfl⟩
theorem dX10_findCells_191 : dn cX10_findCells 191 (.iload 5) 2 193 := ⟨by decide +kernel, rfl⟩
theorem dX10_findCells_193 : dn cX10_findCells 193 (.iadd) 1 194 := ⟨by decide +kernel, rfl⟩
theorem dX10_findCells_194 : dn cX10_findCells 194 (.aload_n 0) 1 195 := ⟨by decide +kernel, rfl⟩
theorem dX10_findCells_195 : dn cX10_findCells 195 (.getfield 40) 3 198 := ⟨by decide +kernel, rfl⟩
theorem dX10_findCells_198 : dn cX10_findCells 198 (.aload_n 0) 1 199 := ⟨by decide +kernel, rfl⟩
theorem dX10_findCells_199 : dn cX10_findCells 199 (.getfield 34) 3 202 := ⟨by decide +kernel, rfl⟩
theorem dX10_findCells_202 : dn cX10_findCells 202 (.iload_n 1) 1 203 := ⟨by decide +kernel, rfl⟩
theorem dX10_findCells_203 : dn cX10_findCells 203 (.iaload) 1 204 := ⟨by decide +kernel, rfl⟩
theorem dX10_findCells_204 : dn cX10_findCells 204 (.aload_n 0) 1 205 := ⟨by decide +kernel, rfl⟩
theorem dX10_findCells_205 : dn cX10_findCells 205 (.getfield 19) 3 208 := ⟨by decide +kernel, rfl⟩
theorem dX10_findCells_208 : dn cX10_findCells 208 (.iload 5) 2 210 := ⟨by decide +kernel, rfl⟩
theorem dX10_findCells_210 : dn cX10_findCells 210 (.iaload) 1 211 := ⟨by decide +kernel, rfl⟩
theorem dX10_findCells_211 : dn cX10_findCells 211 (.iadd) 1 212 := ⟨by decide +kernel, rfl⟩
theorem dX10_findCells_212 : dn cX10_findCells 212 (.iaload) 1 213 := ⟨by decide +kernel, rfl⟩
theorem dX10_findCells_213 : dn cX10_findCells 213 (.iastore) 1 214 := ⟨by decide +kernel, rfl⟩
theorem dX10_findCells_214 : dn cX10_findCells 214 (.aload_n 0) 1 215 := ⟨by decide +kernel, rfl⟩
theorem dX10_findCells_215 : dn cX10_findCells 215 (.getfield 40) 3 218 := ⟨by decide +kernel, rfl⟩
theorem dX10_findCells_218 : dn cX10_findCells 218 (.aload_n 0) 1 219 := ⟨by decide +kernel, rfl⟩
theorem dX10_findCells_219 : dn cX10_findCells 219 (.getfield 34) 3 222 := ⟨by decide +kernel, rfl⟩
theorem dX10_findCells_222 : dn cX10_findCells 222 (.iload_n 1) 1 223 := ⟨by decide +kernel, rfl⟩
theorem dX10_findCells_223 : dn cX10_findCells 223 (.iaload) 1 224 := ⟨by decide +kernel, rfl⟩
theorem dX10_findCells_224 : dn cX10_findCells 224 (.iload 5) 2 226 := ⟨by decide +kernel, rfl⟩
theorem dX10_findCells_226 : dn cX10_findCells 226 (.iadd) 1 227 := ⟨by decide +kernel, rfl⟩
theorem dX10_findCells_227 : dn cX10_findCells 227 (.iaload) 1 228 := ⟨by decide +kernel, rfl⟩
theorem dX10_findCells_228 : dn cX10_findCells 228 (.istore 6) 2 230 := ⟨by decide +kernel, rfl⟩
theorem dX10_findCells_230 : dn cX10_findCells 230 (.aload_n 0) 1 231 := ⟨by decide +kernel, rfl⟩
theorem dX10_findCells_231 : dn cX10_findCells 231 (.iload 6) 2 233 := ⟨by decide +kernel, rfl⟩
theorem dX10_findCells_233 : dn cX10_findCells 233 (.iload 5) 2 235 := ⟨by decide +kernel, rfl⟩
theorem dX10_findCells_235 : dn cX10_findCells 235 (.iload_n 2) 1 236 := ⟨by decide +kernel, rfl⟩
theorem dX10_findCells_236 : dn cX10_findCells 236 (.idiv) 1 237 := ⟨by decide +kernel, rfl⟩
theorem dX10_findCells_237 : dn cX10_findCells 237 (.iload 5) 2 239 := ⟨by decide +kernel, rfl⟩
theorem dX10_findCells_239 : dn cX10_findCells 239 (.iload_n 2) 1 240 := ⟨by decide +kernel, rfl⟩
theorem dX10_findCells_240 : dn cX10_findCells 240 (.irem) 1 241 := ⟨by decide +kernel, rfl⟩
theorem dX10_findCells_241 : dn cX10_findCells 241 (.invokevirtual 167) 3 244 := ⟨by decide +kernel, rfl⟩
theorem dX10_findCells_244 : dn cX10_findCells 244 (.aload_n 0) 1 245 := ⟨by decide +kernel, rfl⟩
theorem dX10_findCells_245 : dn cX10_findCells 245 (.getfield 43) 3 248 := ⟨by decide +kernel, rfl⟩
theorem dX10_findCells_248 : dn cX10_findCells 248 (.bipush 6) 2 250 := ⟨by decide +kernel, rfl⟩
theorem dX10_findCells_250 : dn cX10_findCells 250 (.iload 6) 2 252 := ⟨by decide +kernel, rfl⟩
theorem dX10_findCells_252 : dn cX10_findCells 252 (.imul) 1 253 := ⟨by decide +kernel, rfl⟩
theorem dX10_findCells_253 : dn cX10_findCells 253 (.iconst 5) 1 254 := ⟨by decide +kernel, rfl⟩
theorem dX10_findCells_254 : dn cX10_findCells 254 (.iadd) 1 255 := ⟨by decide +kernel, rfl⟩
theorem dX10_findCells_255 : dn cX10_findCells 255 (.aload_n 0) 1 256 := ⟨by decide +kernel, rfl⟩
theorem dX10_findCells_256 : dn cX10_findCells 256 (.iload_n 1) 1 257 := ⟨by decide +kernel, rfl⟩
theorem dX10_findCells_257 : dn cX10_findCells 257 (.iload 5) 2 259 := ⟨by decide +kernel, rfl⟩
theorem dX10_findCells_259 : dn cX10_findCells 259 (.iload_n 2) 1 260 := ⟨by decide +kernel, rfl⟩
theorem dX10_findCells_260 : dn cX10_findCells 260 (.idiv) 1 261 := ⟨by decide +kernel, rfl⟩
theorem dX10_findCells_261 : dn cX10_findCells 261 (.iload 5) 2 263 := ⟨by decide +kernel, rfl⟩
theorem dX10_findCells_263 : dn cX10_findCells 263 (.iload_n 2) 1 264 := ⟨by decide +kernel, rfl⟩
theorem dX10_findCells_264 : dn cX10_findCells 264 (.irem) 1 265 := ⟨by decide +kernel, rfl⟩
theorem dX10_findCells_265 : dn cX10_findCells 265 (.invokevirtual 170) 3 268 := ⟨by decide +kernel, rfl⟩
theorem dX10_findCells_268 : db cX10_findCells 268 (.ifCond .eq 7) 3 271 (7) 275 := ⟨by decide +kernel, rfl, rfl⟩
theorem dX10_findCells_271 : dn cX10_findCells 271 (.iconst 2) 1 272 := ⟨by decide +kernel, rfl⟩
theorem dX10_findCells_272 : db cX10_findCells 272 (.goto 15) 3 275 (15) 287 := ⟨by decide +kernel, rfl, rfl⟩
theorem dX10_findCells_275 : dn cX10_findCells 275 (.aload_n 0) 1 276 := ⟨by decide +kernel, rfl⟩
theorem dX10_findCells_276 : dn cX10_findCells 276 (.getfield 43) 3 279 := ⟨by decide +kernel, rfl⟩
theorem dX10_findCells_279 : dn cX10_findCells 279 (.bipush 6) 2 281 := ⟨by decide +kernel, rfl⟩
theorem dX10_findCells_281 : dn cX10_findCells 281 (.iload 6) 2 283 := ⟨by decide +kernel, rfl⟩
theorem dX10_findCells_283 : dn cX10_findCells 283 (.imul) 1 284 := ⟨by decide +kernel, rfl⟩
theorem dX10_findCells_284 : dn cX10_findCells 284 (.iconst 5) 1 285 := ⟨by decide +kernel, rfl⟩
theorem dX10_findCells_285 : dn cX10_findCells 285 (.iadd) 1 286 := ⟨by decide +kernel, rfl⟩
theorem dX10_findCells_286 : dn cX10_findCells 286 (.iaload) 1 287 := ⟨by decide +kernel, rfl⟩
theorem dX10_findCells_287 : dn cX10_findCells 287 (.iastore) 1 288 := ⟨by decide +kernel, rfl⟩
theorem dX10_findCells_288 : dn cX10_findCells 288 (.iinc 5 1) 3 291 := ⟨by decide +kernel, rfl⟩
theorem dX10_findCells_291 : db cX10_findCells 291 (.goto (-176)) 3 294 (-176) 115 := ⟨by decide +kernel, rfl, rfl⟩
theorem dX10_findCells_294 : dn cX10_findCells 294 (.aload_n 0) 1 295 := ⟨by decide +kernel, rfl⟩
theorem dX10_findCells_295 : dn cX10_findCells 295 (.getfield 37) 3 298 := ⟨by decide +kernel, rfl⟩
theorem dX10_findCells_298 : dn cX10_findCells 298 (.iload_n 1) 1 299 := ⟨by decide +kernel, rfl⟩
theorem dX10_findCells_299 : dn cX10_findCells 299 (.iaload) 1 300 := ⟨by decide +kernel, rfl⟩
theorem dX10_findCells_300 : dn cX10_findCells 300 (.istore 5) 2 302 := ⟨by decide +kernel, rfl⟩
theorem dX10_findCells_302 : dn cX10_findCells 302 (.iload 5) 2 304 := ⟨by decide +kernel, rfl⟩
theorem dX10_findCells_304 : dn cX10_findCells 304 (.iload 4) 2 306 := ⟨by decide +kernel, rfl⟩
theorem dX10_findCells_306 : db cX10_findCells 306 (.if_icmp .ge 78) 3 309 (78) 384 := ⟨by decide +kernel, rfl, rfl⟩
theorem dX10_findCells_309 : dn cX10_findCells 309 (.aload_n 0) 1 310 := ⟨by decide +kernel, rfl⟩
theorem dX10_findCells_310 : dn cX10_findCells 310 (.iload 5) 2 312 := ⟨by decide +kernel, rfl⟩
theorem dX10_findCells_312 : dn cX10_findCells 312 (.iconst 4) 1 313 := ⟨by decide +kernel, rfl⟩
theorem dX10_findCells_313 : dn cX10_findCells 313 (.invokevirtual 174) 3 316 := ⟨by decide +kernel, rfl⟩
theorem dX10_findCells_316 : dn cX10_findCells 316 (.aload_n 0) 1 317 := ⟨by decide +kernel, rfl⟩
theorem dX10_findCells_317 : dn cX10_findCells 317 (.iload 5) 2 319 := ⟨by decide +kernel, rfl⟩
theorem dX10_findCells_319 : dn cX10_findCells 319 (.iconst 2) 1 320 := ⟨by decide +kernel, rfl⟩
theorem dX10_findCells_320 : dn cX10_findCells 320 (.invokevirtual 174) 3 323 := ⟨by decide +kernel, rfl⟩
theorem dX10_findCells_323 : dn cX10_findCells 323 (.aload_n 0) 1 324 := ⟨by decide +kernel, rfl⟩
theorem dX10_findCells_324 : dn cX10_findCells 324 (.iload 5) 2 326 := ⟨by decide +kernel, rfl⟩
theorem dX10_findCells_326 : dn cX10_findCells 326 (.iconst 3) 1 327 := ⟨by decide +kernel, rfl⟩
theorem dX10_findCells_327 : dn cX10_findCells 327 (.invokevirtual 174) 3 330 := ⟨by decide +kernel, rfl⟩
theorem dX10_findCells_330 : dn cX10_findCells 330 (.imul) 1 331 := ⟨by decide +kernel, rfl⟩
theorem dX10_findCells_331 : db cX10_findCells 331 (.if_icmp .ge 7) 3 334 (7) 338 := ⟨by decide +kernel, rfl, rfl⟩
theorem dX10_findCells_334 : dn cX10_findCells 334 (.iconst 1) 1 335 := ⟨by decide +kernel, rfl⟩
theorem dX10_findCells_335 : db cX10_findCells 335 (.goto 4) 3 338 (4) 339 := ⟨by decide +kernel, rfl, rfl⟩
theorem dX10_findCells_338 : dn cX10_findCells 338 (.iconst 0) 1 339 := ⟨by decide +kernel, rfl⟩
theorem dX10_findCells_339 : dn cX10_findCells 339 (.istore 6) 2 341 := ⟨by decide +kernel, rfl⟩
theorem dX10_findCells_341 : dn cX10_findCells 341 (.aload_n 0) 1 342 := ⟨by decide +kernel, rfl⟩
theorem dX10_findCells_342 : dn cX10_findCells 342 (.getfield 43) 3 345 := ⟨by decide +kernel, rfl⟩
theorem dX10_findCells_345 : dn cX10_findCells 345 (.bipush 6) 2 347 := ⟨by decide +kernel, rfl⟩
theorem dX10_findCells_347 : dn cX10_findCells 347 (.iload 5) 2 349 := ⟨by decide +kernel, rfl⟩
theorem dX10_findCells_349 : dn cX10_findCells 349 (.imul) 1 350 := ⟨by decide +kernel, rfl⟩
theorem dX10_findCells_350 : dn cX10_findCells 350 (.iconst 5) 1 351 := ⟨by decide +kernel, rfl⟩
theorem dX10_findCells_351 : dn cX10_findCells 351 (.iadd) 1 352 := ⟨by decide +kernel, rfl⟩
theorem dX10_findCells_352 : dn cX10_findCells 352 (.aload_n 0) 1 353 := ⟨by decide +kernel, rfl⟩
theorem dX10_findCells_353 : dn cX10_findCells 353 (.iload 5) 2 355 := ⟨by decide +kernel, rfl⟩
theorem dX10_findCells_355 : dn cX10_findCells 355 (.iconst 5) 1 356 := ⟨by decide +kernel, rfl⟩
theorem dX10_findCells_356 : dn cX10_findCells 356 (.invokevirtual 174) 3 359 := ⟨by decide +kernel, rfl⟩
theorem dX10_findCells_359 : dn cX10_findCells 359 (.iconst 2) 1 360 := ⟨by decide +kernel, rfl⟩
theorem dX10_findCells_360 : db cX10_findCells 360 (.if_icmp .ne 7) 3 363 (7) 367 := ⟨by decide +kernel, rfl, rfl⟩
theorem dX10_findCells_363 : dn cX10_findCells 363 (.iconst 2) 1 364 := ⟨by decide +kernel, rfl⟩
theorem dX10_findCells_364 : db cX10_findCells 364 (.goto 13) 3 367 (13) 377 := ⟨by decide +kernel, rfl, rfl⟩
theorem dX10_findCells_367 : dn cX10_findCells 367 (.iload 6) 2 369 := ⟨by decide +kernel, rfl⟩
theorem dX10_findCells_369 : db cX10_findCells 369 (.ifCond .eq 7) 3 372 (7) 376 := ⟨by decide +kernel, rfl, rfl⟩
theorem dX10_findCells_372 : dn cX10_findCells 372 (.iconst 1) 1 373 := ⟨by decide +kernel, rfl⟩
theorem dX10_findCells_373 : db cX10_findCells 373 (.goto 4) 3 376 (4) 377 := ⟨by decide +kernel, rfl, rfl⟩
theorem dX10_findCells_376 : dn cX10_findCells 376 (.iconst 0) 1 377 := ⟨by decide +kernel, rfl⟩
theorem dX10_findCells_377 : dn cX10_findCells 377 (.iastore) 1 378 := ⟨by decide +kernel, rfl⟩
theorem dX10_findCells_378 : dn cX10_findCells 378 (.iinc 5 1) 3 381 := ⟨by decide +kernel, rfl⟩
theorem dX10_findCells_381 : db cX10_findCells 381 (.goto (-79)) 3 384 (-79) 302 := ⟨by decide +kernel, rfl, rfl⟩
theorem dX10_findCells_384 : dn cX10_findCells 384 (.aload_n 0) 1 385 := ⟨by decide +kernel, rfl⟩
theorem dX10_findCells_385 : dn cX10_findCells 385 (.getfield 37) 3 388 := ⟨by decide +kernel, rfl⟩
theorem dX10_findCells_388 : dn cX10_findCells 388 (.iload_n 1) 1 389 := ⟨by decide +kernel, rfl⟩
theorem dX10_findCells_389 : dn cX10_findCells 389 (.iconst 1) 1 390 := ⟨by decide +kernel, rfl⟩
theorem dX10_findCells_390 : dn cX10_findCells 390 (.iadd) 1 391 := ⟨by decide +kernel, rfl⟩
theorem dX10_findCells_391 : dn cX10_findCells 391 (.iload 4) 2 393 := ⟨by decide +kernel, rfl⟩
theorem dX10_findCells_393 : dn cX10_findCells 393 (.iastore) 1 394 := ⟨by decide +kernel, rfl⟩
theorem dX10_findCells_394 : dn cX10_findCells 394 (.aload_n 0) 1 395 := ⟨by decide +kernel, rfl⟩
theorem dX10_findCells_395 : dn cX10_findCells 395 (.getfield 34) 3 398 := ⟨by decide +kernel, rfl⟩
theorem dX10_findCells_398 : dn cX10_findCells 398 (.iload_n 1) 1 399 := ⟨by decide +kernel, rfl⟩
theorem dX10_findCells_399 : dn cX10_findCells 399 (.iconst 1) 1 400 := ⟨by decide +kernel, rfl⟩
theorem dX10_findCells_400 : dn cX10_findCells 400 (.iadd) 1 401 := ⟨by decide +kernel, rfl⟩
theorem dX10_findCells_401 : dn cX10_findCells 401 (.aload_n 0) 1 402 := ⟨by decide +kernel, rfl⟩
theorem dX10_findCells_402 : dn cX10_findCells 402 (.getfield 34) 3 405 := ⟨by decide +kernel, rfl⟩
theorem dX10_findCells_405 : dn cX10_findCells 405 (.iload_n 1) 1 406 := ⟨by decide +kernel, rfl⟩
theorem dX10_findCells_406 : dn cX10_findCells 406 (.iaload) 1 407 := ⟨by decide +kernel, rfl⟩
theorem dX10_findCells_407 : dn cX10_findCells 407 (.iload_n 3) 1 408 := ⟨by decide +kernel, rfl⟩
theorem dX10_findCells_408 : dn cX10_findCells 408 (.iadd) 1 409 := ⟨by decide +kernel, rfl⟩
theorem dX10_findCells_409 : dn cX10_findCells 409 (.iastore) 1 410 := ⟨by decide +kernel, rfl⟩
theorem dX10_findCells_410 : dn cX10_findCells 410 (.return_) 1 411 := ⟨by decide +kernel, rfl⟩
theorem dX10_between_0 : dn cX10_between 0 (.iconst 0) 1 1 := ⟨by decide +kernel, rfl⟩
theorem dX10_between_1 : dn cX10_between 1 (.istore 4) 2 3 := ⟨by decide +kernel, rfl⟩
theorem dX10_between_3 : dn cX10_between 3 (.iload 4) 2 5 := ⟨by decide +kernel, rfl⟩
theorem dX10_between_5 : dn cX10_between 5 (.iconst 1) 1 6 := ⟨by decide +kernel, rfl⟩
theorem dX10_between_6 : dn cX10_between 6 (.iadd) 1 7 := ⟨by decide +kernel, rfl⟩
theorem dX10_between_7 : dn cX10_between 7 (.aload_n 0) 1 8 := ⟨by decide +kernel, rfl⟩
theorem dX10_between_8 : dn cX10_between 8 (.getfield 31) 3 11 := ⟨by decide +kernel, rfl⟩
theorem dX10_between_11 : dn cX10_between 11 (.iconst 2) 1 12 := ⟨by decide +kernel, rfl⟩
theorem dX10_between_12 : dn cX10_between 12 (.iload_n 1) 1 13 := ⟨by decide +kernel, rfl⟩
theorem dX10_between_13 : dn cX10_between 13 (.imul) 1 14 := ⟨by decide +kernel, rfl⟩
theorem dX10_between_14 : dn cX10_between 14 (.iload_n 2) 1 15 := ⟨by decide +kernel, rfl⟩
theorem dX10_between_15 : dn cX10_between 15 (.iadd) 1 16 := ⟨by decide +kernel, rfl⟩
theorem dX10_between_16 : dn cX10_between 16 (.iaload) 1 17 := ⟨by decide +kernel, rfl⟩
theorem dX10_between_17 : db cX10_between 17 (.if_icmp .ge 42) 3 20 (42) 59 := ⟨by decide +kernel, rfl, rfl⟩
theorem dX10_between_20 : dn cX10_between 20 (.iconst 2) 1 21 := ⟨by decide +kernel, rfl⟩
theorem dX10_between_21 : dn cX10_between 21 (.aload_n 0) 1 22 := ⟨by decide +kernel, rfl⟩
theorem dX10_between_22 : dn cX10_between 22 (.iload_n 1) 1 23 := ⟨by decide +kernel, rfl⟩
theorem dX10_between_23 : dn cX10_between 23 (.iload_n 2) 1 24 := ⟨by decide +kernel, rfl⟩
theorem dX10_between_24 : dn cX10_between 24 (.iload 4) 2 26 := ⟨by decide +kernel, rfl⟩
theorem dX10_between_26 : dn cX10_between 26 (.invokevirtual 155) 3 29 := ⟨by decide +kernel, rfl⟩
theorem dX10_between_29 : dn cX10_between 29 (.imul) 1 30 := ⟨by decide +kernel, rfl⟩
theorem dX10_between_30 : dn cX10_between 30 (.iload_n 3) 1 31 := ⟨by decide +kernel, rfl⟩
theorem dX10_between_31 : db cX10_between 31 (.if_icmp .ge 22) 3 34 (22) 53 := ⟨by decide +kernel, rfl, rfl⟩
theorem dX10_between_34 : dn cX10_between 34 (.iload_n 3) 1 35 := ⟨by decide +kernel, rfl⟩
theorem dX10_between_35 : dn cX10_between 35 (.iconst 2) 1 36 := ⟨by decide +kernel, rfl⟩
theorem dX10_between_36 : dn cX10_between 36 (.aload_n 0) 1 37 := ⟨by decide +kernel, rfl⟩
theorem dX10_between_37 : dn cX10_between 37 (.iload_n 1) 1 38 := ⟨by decide +kernel, rfl⟩
theorem dX10_between_38 : dn cX10_between 38 (.iload_n 2) 1 39 := ⟨by decide +kernel, rfl⟩
theorem dX10_between_39 : dn cX10_between 39 (.iload 4) 2 41 := ⟨by decide +kernel, rfl⟩
theorem dX10_between_41 : dn cX10_between 41 (.iconst 1) 1 42 := ⟨by decide +kernel, rfl⟩
theorem dX10_between_42 : dn cX10_between 42 (.iadd) 1 43 := ⟨by decide +kernel, rfl⟩
theorem dX10_between_43 : dn cX10_between 43 (.invokevirtual 155) 3 46 := ⟨by decide +kernel, rfl⟩
theorem dX10_between_46 : dn cX10_between 46 (.imul) 1 47 := ⟨by decide +kernel, rfl⟩
theorem dX10_between_47 : db cX10_between 47 (.if_icmp .ge 6) 3 50 (6) 53 := ⟨by decide +kernel, rfl, rfl⟩
theorem dX10_between_50 : dn cX10_between 50 (.iload 4) 2 52 := ⟨by decide +kernel, rfl⟩
theorem dX10_between_52 : dn cX10_between 52 (.ireturn) 1 53 := ⟨by decide +kernel, rfl⟩
theorem dX10_between_53 : dn cX10_between 53 (.iinc 4 1) 3 56 := ⟨by decide +kernel, rfl⟩
theorem dX10_between_56 : db cX10_between 56 (.goto (-53)) 3 59 (-53) 3 := ⟨by decide +kernel, rfl, rfl⟩
theorem dX10_between_59 : dn cX10_between 59 (.bipush (-6)) 2 61 := ⟨by decide +kernel, rfl⟩
theorem dX10_between_61 : dn cX10_between 61 (.ireturn) 1 62 := ⟨by decide +kernel, rfl⟩
theorem dX10_findWord_0 : dn cX10_findWord 0 (.aload_n 0) 1 1 := ⟨by decide +kernel, rfl⟩
theorem dX10_findWord_1 : dn cX10_findWord 1 (.getfield 46) 3 4 := ⟨by decide +kernel, rfl⟩
theorem dX10_findWord_4 : dn cX10_findWord 4 (.iload_n 1) 1 5 := ⟨by decide +kernel, rfl⟩
theorem dX10_findWord_5 : dn cX10_findWord 5 (.bipush (-6)) 2 7 := ⟨by decide +kernel, rfl⟩
theorem dX10_findWord_7 : dn cX10_findWord 7 (.iastore) 1 8 := ⟨by decide +kernel, rfl⟩
theorem dX10_findWord_8 : dn cX10_findWord 8 (.aload_n 0) 1 9 := ⟨by decide +kernel, rfl⟩
theorem dX10_findWord_9 : dn cX10_findWord 9 (.getfield 49) 3 12 := ⟨by decide +kernel, rfl⟩
theorem dX10_findWord_12 : dn cX10_findWord 12 (.iload_n 1) 1 13 := ⟨by decide +kernel, rfl⟩
theorem dX10_findWord_13 : dn cX10_findWord 13 (.bipush (-6)) 2 15 := ⟨by decide +kernel, rfl⟩
theorem dX10_findWord_15 : dn cX10_findWord 15 (.iastore) 1 16 := ⟨by decide +kernel, rfl⟩
theorem dX10_findWord_16 : dn cX10_findWord 16 (.aload_n 0) 1 17 := ⟨by decide +kernel, rfl⟩
theorem dX10_findWord_17 : dn cX10_findWord 17 (.getfield 138) 3 20 := ⟨by decide +kernel, rfl⟩
theorem dX10_findWord_20 : dn cX10_findWord 20 (.iconst 1) 1 21 := ⟨by decide +kernel, rfl⟩
theorem dX10_findWord_21 : dn cX10_findWord 21 (.isub) 1 22 := ⟨by decide +kernel, rfl⟩
theorem dX10_findWord_22 : dn cX10_findWord 22 (.istore_n 2) 1 23 := ⟨by decide +kernel, rfl⟩
theorem dX10_findWord_23 : dn cX10_findWord 23 (.iload_n 2) 1 24 := ⟨by decide +kernel, rfl⟩
theorem dX10_findWord_24 : db cX10_findWord 24 (.ifCond .lt 94) 3 27 (94) 118 := ⟨by decide +kernel, rfl, rfl⟩
theorem dX10_findWord_27 : dn cX10_findWord 27 (.aload_n 0) 1 28 := ⟨by decide +kernel, rfl⟩
theorem dX10_findWord_28 : dn cX10_findWord 28 (.iload_n 2) 1 29 := ⟨by decide +kernel, rfl⟩
theorem dX10_findWord_29 : dn cX10_findWord 29 (.iconst 0) 1 30 := ⟨by decide +kernel, rfl⟩
theorem dX10_findWord_30 : dn cX10_findWord 30 (.aload_n 0) 1 31 := ⟨by decide +kernel, rfl⟩
theorem dX10_findWord_31 : dn cX10_findWord 31 (.iload_n 1) 1 32 := ⟨by decide +kernel, rfl⟩
theorem dX10_findWord_32 : dn cX10_findWord 32 (.iconst 1) 1 33 := ⟨by decide +kernel, rfl⟩
theorem dX10_findWord_33 : dn cX10_findWord 33 (.invokevirtual 177) 3 36 := ⟨by decide +kernel, rfl⟩
theorem dX10_findWord_36 : dn cX10_findWord 36 (.aload_n 0) 1 37 := ⟨by decide +kernel, rfl⟩
theorem dX10_findWord_37 : dn cX10_findWord 37 (.iload_n 1) 1 38 := ⟨by decide +kernel, rfl⟩
theorem dX10_findWord_38 : dn cX10_findWord 38 (.iconst 3) 1 39 := ⟨by decide +kernel, rfl⟩
theorem dX10_findWord_39 : dn cX10_findWord 39 (.invokevirtual 177) 3 42 := ⟨by decide +kernel, rfl⟩
theorem dX10_findWord_42 : dn cX10_findWord 42 (.iadd) 1 43 := ⟨by decide +kernel, rfl⟩
theorem dX10_findWord_43 : dn cX10_findWord 43 (.invokevirtual 180) 3 46 := ⟨by decide +kernel, rfl⟩
theorem dX10_findWord_46 : dn cX10_findWord 46 (.istore_n 3) 1 47 := ⟨by decide +kernel, rfl⟩
theorem dX10_findWord_47 : dn cX10_findWord 47 (.aload_n 0) 1 48 := ⟨by decide +kernel, rfl⟩
theorem dX10_findWord_48 : dn cX10_findWord 48 (.iload_n 2) 1 49 := ⟨by decide +kernel, rfl⟩
theorem dX10_findWord_49 : dn cX10_findWord 49 (.iconst 1) 1 50 := ⟨by decide +kernel, rfl⟩
theorem dX10_findWord_50 : dn cX10_findWord 50 (.aload_n 0) 1 51 := ⟨by decide +kernel, rfl⟩
theorem dX10_findWord_51 : dn cX10_findWord 51 (.iload_n 1) 1 52 := ⟨by decide +kernel, rfl⟩
theorem dX10_findWord_52 : dn cX10_findWord 52 (.iconst 0) 1 53 := ⟨by decide +kernel, rfl⟩
theorem dX10_findWord_53 : dn cX10_findWord 53 (.invokevirtual 177) 3 56 := ⟨by decide +kernel, rfl⟩
theorem dX10_findWord_56 : dn cX10_findWord 56 (.aload_n 0) 1 57 := ⟨by decide +kernel, rfl⟩
theorem dX10_findWord_57 : dn cX10_findWord 57 (.iload_n 1) 1 58 := ⟨by decide +kernel, rfl⟩
theorem dX10_findWord_58 : dn cX10_findWord 58 (.iconst 2) 1 59 := ⟨by decide +kernel, rfl⟩
theorem dX10_findWord_59 : dn cX10_findWord 59 (.invokevirtual 177) 3 62 := ⟨by decide +kernel, rfl⟩
theorem dX10_findWord_62 : dn cX10_findWord 62 (.iadd) 1 63 := ⟨by decide +kernel, rfl⟩
theorem dX10_findWord_63 : dn cX10_findWord 63 (.invokevirtual 180) 3 66 := ⟨by decide +kernel, rfl⟩
theorem dX10_findWord_66 : dn cX10_findWord 66 (.istore 4) 2 68 := ⟨by decide +kernel, rfl⟩
theorem dX10_findWord_68 : dn cX10_findWord 68 (.iload_n 3) 1 69 := ⟨by decide +kernel, rfl⟩
theorem dX10_findWord_69 : db cX10_findWord 69 (.ifCond .lt 43) 3 72 (43) 112 := ⟨by decide +kernel, rfl, rfl⟩
theorem dX10_findWord_72 : dn cX10_findWord 72 (.iload 4) 2 74 := ⟨by decide +kernel, rfl⟩
theorem dX10_findWord_74 : db cX10_findWord 74 (.ifCond .lt 38) 3 77 (38) 112 := ⟨by decide +kernel, rfl, rfl⟩
theorem dX10_findWord_77 : dn cX10_findWord 77 (.aload_n 0) 1 78 := ⟨by decide +kernel, rfl⟩
theorem dX10_findWord_78 : dn cX10_findWord 78 (.getfield 46) 3 81 := ⟨by decide +kernel, rfl⟩
theorem dX10_findWord_81 : dn cX10_findWord 81 (.iload_n 1) 1 82 := ⟨by decide +kernel, rfl⟩
theorem dX10_findWord_82 : dn cX10_findWord 82 (.iload_n 2) 1 83 := ⟨by decide +kernel, rfl⟩
theorem dX10_findWord_83 : dn cX10_findWord 83 (.iastore) 1 84 := ⟨by decide +kernel, rfl⟩
theorem dX10_findWord_84 : dn cX10_findWord 84 (.aload_n 0) 1 85 := ⟨by decide +kernel, rfl⟩
theorem dX10_findWord_85 : dn cX10_findWord 85 (.getfield 49) 3 88 := ⟨by decide +kernel, rfl⟩
theorem dX10_findWord_88 : dn cX10_findWord 88 (.iload_n 1) 1 89 := ⟨by decide +kernel, rfl⟩
theorem dX10_findWord_89 : dn cX10_findWord 89 (.aload_n 0) 1 90 := ⟨by decide +kernel, rfl⟩
theorem dX10_findWord_90 : dn cX10_findWord 90 (.getfield 40) 3 93 := ⟨by decide +kernel, rfl⟩
theorem dX10_findWord_93 : dn cX10_findWord 93 (.aload_n 0) 1 94 := ⟨by decide +kernel, rfl⟩
theorem dX10_findWord_94 : dn cX10_findWord 94 (.getfield 34) 3 97 := ⟨by decide +kernel, rfl⟩
theorem dX10_findWord_97 : dn cX10_findWord 97 (.iload_n 2) 1 98 := ⟨by decide +kernel, rfl⟩
theorem dX10_findWord_98 : dn cX10_findWord 98 (.iaload) 1 99 := ⟨by decide +kernel, rfl⟩
theorem dX10_findWord_99 : dn cX10_findWord 99 (.iload_n 3) 1 100 := ⟨by decide +kernel, rfl⟩
theorem dX10_findWord_100 : dn cX10_findWord 100 (.aload_n 0) 1 101 := ⟨by decide +kernel, rfl⟩
theorem dX10_findWord_101 : dn cX10_findWord 101 (.iload_n 2) 1 102 := ⟨by decide +kernel, rfl⟩
theorem dX10_findWord_102 : dn cX10_findWord 102 (.invokevirtual 152) 3 105 := ⟨by decide +kernel, rfl⟩
theorem dX10_findWord_105 : dn cX10_findWord 105 (.imul) 1 106 := ⟨by decide +kernel, rfl⟩
theorem dX10_findWord_106 : dn cX10_findWord 106 (.iadd) 1 107 := ⟨by decide +kernel, rfl⟩
theorem dX10_findWord_107 : dn cX10_findWord 107 (.iload 4) 2 109 := ⟨by decide +kernel, rfl⟩
theorem dX10_findWord_109 : dn cX10_findWord 109 (.iadd) 1 110 := ⟨by decide +kernel, rfl⟩
theorem dX10_findWord_110 : dn cX10_findWord 110 (.iaload) 1 111 := ⟨by decide +kernel, rfl⟩
theorem dX10_findWord_111 : dn cX10_findWord 111 (.iastore) 1 112 := ⟨by decide +kernel, rfl⟩
theorem dX10_findWord_112 : dn cX10_findWord 112 (.iinc 2 (-1)) 3 115 := ⟨by decide +kernel, rfl⟩
theorem dX10_findWord_115 : db cX10_findWord 115 (.goto (-92)) 3 118 (-92) 23 := ⟨by decide +kernel, rfl, rfl⟩
theorem dX10_findWord_118 : dn cX10_findWord 118 (.return_) 1 119 := ⟨by decide +kernel, rfl⟩
theorem dX10_findAll_0 : dn cX10_findAll 0 (.aload_n 0) 1 1 := ⟨by decide +kernel, rfl⟩
theorem dX10_findAll_1 : dn cX10_findAll 1 (.getfield 74) 3 4 := ⟨by decide +kernel, rfl⟩
theorem dX10_findAll_4 : db cX10_findAll 4 (.ifCond .eq 4) 3 7 (4) 8 := ⟨by decide +kernel, rfl, rfl⟩
theorem dX10_findAll_7 : dn cX10_findAll 7 (.return_) 1 8 := ⟨by decide +kernel, rfl⟩
theorem dX10_findAll_8 : dn cX10_findAll 8 (.aload_n 0) 1 9 := ⟨by decide +kernel, rfl⟩
theorem dX10_findAll_9 : dn cX10_findAll 9 (.iconst 1) 1 10 := ⟨by decide +kernel, rfl⟩
theorem dX10_findAll_10 : dn cX10_findAll 10 (.putfield 74) 3 13 := ⟨by decide +kernel, rfl⟩
theorem dX10_findAll_13 : dn cX10_findAll 13 (.aload_n 0) 1 14 := ⟨by decide +kernel, rfl⟩
theorem dX10_findAll_14 : dn cX10_findAll 14 (.invokevirtual 183) 3 17 := ⟨by decide +kernel, rfl⟩
theorem dX10_findAll_17 : dn cX10_findAll 17 (.aload_n 0) 1 18 := ⟨by decide +kernel, rfl⟩
theorem dX10_findAll_18 : dn cX10_findAll 18 (.invokevirtual 186) 3 21 := ⟨by decide +kernel, rfl⟩
theorem dX10_findAll_21 : dn cX10_findAll 21 (.aload_n 0) 1 22 := ⟨by decide +kernel, rfl⟩
theorem dX10_findAll_22 : dn cX10_findAll 22 (.getfield 34) 3 25 := ⟨by decide +kernel, rfl⟩
theorem dX10_findAll_25 : dn cX10_findAll 25 (.iconst 0) 1 26 := ⟨by decide +kernel, rfl⟩
theorem dX10_findAll_26 : dn cX10_findAll 26 (.iconst 0) 1 27 := ⟨by decide +kernel, rfl⟩
theorem dX10_findAll_27 : dn cX10_findAll 27 (.iastore) 1 28 := ⟨by decide +kernel, rfl⟩
theorem dX10_findAll_28 : dn cX10_findAll 28 (.aload_n 0) 1 29 := ⟨by decide +kernel, rfl⟩
theorem dX10_findAll_29 : dn cX10_findAll 29 (.getfield 37) 3 32 := ⟨by decide +kernel, rfl⟩
theorem dX10_findAll_32 : dn cX10_findAll 32 (.iconst 0) 1 33 := ⟨by decide +kernel, rfl⟩
theorem dX10_findAll_33 : dn cX10_findAll 33 (.iconst 0) 1 34 := ⟨by decide +kernel, rfl⟩
theorem dX10_findAll_34 : dn cX10_findAll 34 (.iastore) 1 35 := ⟨by decide +kernel, rfl⟩
theorem dX10_findAll_35 : dn cX10_findAll 35 (.iconst 0) 1 36 := ⟨by decide +kernel, rfl⟩
theorem dX10_findAll_36 : dn cX10_findAll 36 (.istore_n 1) 1 37 := ⟨by decide +kernel, rfl⟩
theorem dX10_findAll_37 : dn cX10_findAll 37 (.iload_n 1) 1 38 := ⟨by decide +kernel, rfl⟩
theorem dX10_findAll_38 : dn cX10_findAll 38 (.aload_n 0) 1 39 := ⟨by decide +kernel, rfl⟩
theorem dX10_findAll_39 : dn cX10_findAll 39 (.getfield 138) 3 42 := ⟨by decide +kernel, rfl⟩
theorem dX10_findAll_42 : db cX10_findAll 42 (.if_icmp .ge 14) 3 45 (14) 56 := ⟨by decide +kernel, rfl, rfl⟩
theorem dX10_findAll_45 : dn cX10_findAll 45 (.aload_n 0) 1 46 := ⟨by decide +kernel, rfl⟩
theorem dX10_findAll_46 : dn cX10_findAll 46 (.iload_n 1) 1 47 := ⟨by decide +kernel, rfl⟩
theorem dX10_findAll_47 : dn cX10_findAll 47 (.invokevirtual 189) 3 50 := ⟨by decide +kernel, rfl⟩
theorem dX10_findAll_50 : dn cX10_findAll 50 (.iinc 1 1) 3 53 := ⟨by decide +kernel, rfl⟩
theorem dX10_findAll_53 : db cX10_findAll 53 (.goto (-16)) 3 56 (-16) 37 := ⟨by decide +kernel, rfl, rfl⟩
theorem dX10_findAll_56 : dn cX10_findAll 56 (.iconst 0) 1 57 := ⟨by decide +kernel, rfl⟩
theorem dX10_findAll_57 : dn cX10_findAll 57 (.istore_n 1) 1 58 := ⟨by decide +kernel, rfl⟩
theorem dX10_findAll_58 : dn cX10_findAll 58 (.iload_n 1) 1 59 := ⟨by decide +kernel, rfl⟩
theorem dX10_findAll_59 : dn cX10_findAll 59 (.aload_n 0) 1 60 := ⟨by decide +kernel, rfl⟩
theorem dX10_findAll_60 : dn cX10_findAll 60 (.getfield 92) 3 63 := ⟨by decide +kernel, rfl⟩
theorem dX10_findAll_63 : db cX10_findAll 63 (.if_icmp .ge 14) 3 66 (14) 77 := ⟨by decide +kernel, rfl, rfl⟩
theorem dX10_findAll_66 : dn cX10_findAll 66 (.aload_n 0) 1 67 := ⟨by decide +kernel, rfl⟩
theorem dX10_findAll_67 : dn cX10_findAll 67 (.iload_n 1) 1 68 := ⟨by decide +kernel, rfl⟩
theorem dX10_findAll_68 : dn cX10_findAll 68 (.invokevirtual 192) 3 71 := ⟨by decide +kernel, rfl⟩
theorem dX10_findAll_71 : dn cX10_findAll 71 (.iinc 1 1) 3 74 := ⟨by decide +kernel, rfl⟩
theorem dX10_findAll_74 : db cX10_findAll 74 (.goto (-16)) 3 77 (-16) 58 := ⟨by decide +kernel, rfl, rfl⟩
theorem dX10_findAll_77 : dn cX10_findAll 77 (.return_) 1 78 := ⟨by decide +kernel, rfl⟩
theorem dX10_isTable_0 : dn cX10_isTable 0 (.aload_n 0) 1 1 := ⟨by decide +kernel, rfl⟩
theorem dX10_isTable_1 : dn cX10_isTable 1 (.invokevirtual 195) 3 4 := ⟨by decide +kernel, rfl⟩
theorem dX10_isTable_4 : dn cX10_isTable 4 (.iload_n 1) 1 5 := ⟨by decide +kernel, rfl⟩
theorem dX10_isTable_5 : dn cX10_isTable 5 (.i2l) 1 6 := ⟨by decide +kernel, rfl⟩
theorem dX10_isTable_6 : dn cX10_isTable 6 (.lconst 0) 1 7 := ⟨by decide +kernel, rfl⟩
theorem dX10_isTable_7 : dn cX10_isTable 7 (.aload_n 0) 1 8 := ⟨by decide +kernel, rfl⟩
theorem dX10_isTable_8 : dn cX10_isTable 8 (.getfield 138) 3 11 := ⟨by decide +kernel, rfl⟩
theorem dX10_isTable_11 : dn cX10_isTable 11 (.iconst 1) 1 12 := ⟨by decide +kernel, rfl⟩
theorem dX10_isTable_12 : dn cX10_isTable 12 (.isub) 1 13 := ⟨by decide +kernel, rfl⟩
theorem dX10_isTable_13 : dn cX10_isTable 13 (.i2l) 1 14 := ⟨by decide +kernel, rfl⟩
theorem dX10_isTable_14 : dn cX10_isTable 14 (.invokestatic 64) 3 17 := ⟨by decide +kernel, rfl⟩
theorem dX10_isTable_17 : dn cX10_isTable 17 (.ireturn) 1 18 := ⟨by decide +kernel, rfl⟩
theorem dX10_isCell_0 : dn cX10_isCell 0 (.aload_n 0) 1 1 := ⟨by decide +kernel, rfl⟩
theorem dX10_isCell_1 : dn cX10_isCell 1 (.iload_n 1) 1 2 := ⟨by decide +kernel, rfl⟩
theorem dX10_isCell_2 : dn cX10_isCell 2 (.invokevirtual 198) 3 5 := ⟨by decide +kernel, rfl⟩
theorem dX10_isCell_5 : db cX10_isCell 5 (.ifCond .eq 34) 3 8 (34) 39 := ⟨by decide +kernel, rfl, rfl⟩
theorem dX10_isCell_8 : dn cX10_isCell 8 (.iload_n 2) 1 9 := ⟨by decide +kernel, rfl⟩
theorem dX10_isCell_9 : dn cX10_isCell 9 (.i2l) 1 10 := ⟨by decide +kernel, rfl⟩
theorem dX10_isCell_10 : dn cX10_isCell 10 (.lconst 0) 1 11 := ⟨by decide +kernel, rfl⟩
theorem dX10_isCell_11 : dn cX10_isCell 11 (.aload_n 0) 1 12 := ⟨by decide +kernel, rfl⟩
theorem dX10_isCell_12 : dn cX10_isCell 12 (.getfield 37) 3 15 := ⟨by decide +kernel, rfl⟩
theorem dX10_isCell_15 : dn cX10_isCell 15 (.iload_n 1) 1 16 := ⟨by decide +kernel, rfl⟩
theorem dX10_isCell_16 : dn cX10_isCell 16 (.iconst 1) 1 17 := ⟨by decide +kernel, rfl⟩
theorem dX10_isCell_17 : dn cX10_isCell 17 (.iadd) 1 18 := ⟨by decide +kernel, rfl⟩
theorem dX10_isCell_18 : dn cX10_isCell 18 (.iaload) 1 19 := ⟨by decide +kernel, rfl⟩
theorem dX10_isCell_19 : dn cX10_isCell 19 (.aload_n 0) 1 20 := ⟨by decide +kernel, rfl⟩
theorem dX10_isCell_20 : dn cX10_isCell 20 (.getfield 37) 3 23 := ⟨by decide +kernel, rfl⟩
theorem dX10_isCell_23 : dn cX10_isCell 23 (.iload_n 1) 1 24 := ⟨by decide +kernel, rfl⟩
theorem dX10_isCell_24 : dn cX10_isCell 24 (.iaload) 1 25 := ⟨by decide +kernel, rfl⟩
theorem dX10_isCell_25 : dn cX10_isCell 25 (.isub) 1 26 := ⟨by decide +kernel, rfl⟩
theorem dX10_isCell_26 : dn cX10_isCell 26 (.iconst 1) 1 27 := ⟨by decide +kernel, rfl⟩
theorem dX10_isCell_27 : dn cX10_isCell 27 (.isub) 1 28 := ⟨by decide +kernel, rfl⟩
theorem dX10_isCell_28 : dn cX10_isCell 28 (.i2l) 1 29 := ⟨by decide +kernel, rfl⟩
theorem dX10_isCell_29 : dn cX10_isCell 29 (.invokestatic 64) 3 32 := ⟨by decide +kernel, rfl⟩
theorem dX10_isCell_32 : db cX10_isCell 32 (.ifCond .eq 7) 3 35 (7) 39 := ⟨by decide +kernel, rfl, rfl⟩
theorem dX10_isCell_35 : dn cX10_isCell 35 (.iconst 1) 1 36 := ⟨by decide +kernel, rfl⟩
theorem dX10_isCell_36 : db cX10_isCell 36 (.goto 4) 3 39 (4) 40 := ⟨by decide +kernel, rfl, rfl⟩
theorem dX10_isCell_39 : dn cX10_isCell 39 (.iconst 0) 1 40 := ⟨by decide +kernel, rfl⟩
theorem dX10_isCell_40 : dn cX10_isCell 40 (.ireturn) 1 41 := ⟨by decide +kernel, rfl⟩
theorem dX10_piece_0 : dn cX10_piece 0 (.iload_n 1) 1 1 := ⟨by decide +kernel, rfl⟩
theorem dX10_piece_1 : dn cX10_piece 1 (.i2l) 1 2 := ⟨by decide +kernel, rfl⟩
theorem dX10_piece_2 : dn cX10_piece 2 (.lconst 0) 1 3 := ⟨by decide +kernel, rfl⟩
theorem dX10_piece_3 : dn cX10_piece 3 (.aload_n 0) 1 4 := ⟨by decide +kernel, rfl⟩
theorem dX10_piece_4 : dn cX10_piece 4 (.getfield 80) 3 7 := ⟨by decide +kernel, rfl⟩
theorem dX10_piece_7 : dn cX10_piece 7 (.iconst 1) 1 8 := ⟨by decide +kernel, rfl⟩
theorem dX10_piece_8 : dn cX10_piece 8 (.isub) 1 9 := ⟨by decide +kernel, rfl⟩
theorem dX10_piece_9 : dn cX10_piece 9 (.i2l) 1 10 := ⟨by decide +kernel, rfl⟩
theorem dX10_piece_10 : dn cX10_piece 10 (.invokestatic 64) 3 13 := ⟨by decide +kernel, rfl⟩
theorem dX10_piece_13 : db cX10_piece 13 (.ifCond .ne 5) 3 16 (5) 18 := ⟨by decide +kernel, rfl, rfl⟩
theorem dX10_piece_16 : dn cX10_piece 16 (.iconst (-1)) 1 17 := ⟨by decide +kernel, rfl⟩
theorem dX10_piece_17 : dn cX10_piece 17 (.ireturn) 1 18 := ⟨by decide +kernel, rfl⟩
theorem dX10_piece_18 : dn cX10_piece 18 (.iload_n 2) 1 19 := ⟨by decide +kernel, rfl⟩
theorem dX10_piece_19 : dn cX10_piece 19 (.i2l) 1 20 := ⟨by decide +kernel, rfl⟩
theorem dX10_piece_20 : dn cX10_piece 20 (.lconst 0) 1 21 := ⟨by decide +kernel, rfl⟩
theorem dX10_piece_21 : dn cX10_piece 21 (.ldc2_w 201) 3 24 := ⟨by decide +kernel, rfl⟩
theorem dX10_piece_24 : dn cX10_piece 24 (.invokestatic 64) 3 27 := ⟨by decide +kernel, rfl⟩
theorem dX10_piece_27 : db cX10_piece 27 (.ifCond .ne 6) 3 30 (6) 33 := ⟨by decide +kernel, rfl, rfl⟩
theorem dX10_piece_30 : dn cX10_piece 30 (.bipush (-2)) 2 32 := ⟨by decide +kernel, rfl⟩
theorem dX10_piece_32 : dn cX10_piece 32 (.ireturn) 1 33 := ⟨by decide +kernel, rfl⟩
theorem dX10_piece_33 : dn cX10_piece 33 (.aload_n 0) 1 34 := ⟨by decide +kernel, rfl⟩
theorem dX10_piece_34 : dn cX10_piece 34 (.invokevirtual 195) 3 37 := ⟨by decide +kernel, rfl⟩
theorem dX10_piece_37 : dn cX10_piece 37 (.iload_n 2) 1 38 := ⟨by decide +kernel, rfl⟩
theorem dX10_piece_38 : dn cX10_piece 38 (.iconst 4) 1 39 := ⟨by decide +kernel, rfl⟩
theorem dX10_piece_39 : db cX10_piece 39 (.if_icmp .ne 12) 3 42 (12) 51 := ⟨by decide +kernel, rfl, rfl⟩
theorem dX10_piece_42 : dn cX10_piece 42 (.aload_n 0) 1 43 := ⟨by decide +kernel, rfl⟩
theorem dX10_piece_43 : dn cX10_piece 43 (.getfield 25) 3 46 := ⟨by decide +kernel, rfl⟩
theorem dX10_piece_46 : dn cX10_piece 46 (.iload_n 1) 1 47 := ⟨by decide +kernel, rfl⟩
theorem dX10_piece_47 : dn cX10_piece 47 (.iaload) 1 48 := ⟨by decide +kernel, rfl⟩
theorem dX10_piece_48 : db cX10_piece 48 (.goto 9) 3 51 (9) 57 := ⟨by decide +kernel, rfl, rfl⟩
theorem dX10_piece_51 : dn cX10_piece 51 (.aload_n 0) 1 52 := ⟨by decide +kernel, rfl⟩
theorem dX10_piece_52 : dn cX10_piece 52 (.iload_n 1) 1 53 := ⟨by decide +kernel, rfl⟩
theorem dX10_piece_53 : dn cX10_piece 53 (.iload_n 2) 1 54 := ⟨by decide +kernel, rfl⟩
theorem dX10_piece_54 : dn cX10_piece 54 (.invokevirtual 95) 3 57 := ⟨by decide +kernel, rfl⟩
theorem dX10_piece_57 : dn cX10_piece 57 (.ireturn) 1 58 := ⟨by decide +kernel, rfl⟩
theorem dX10_word_0 : dn cX10_word 0 (.iload_n 1) 1 1 := ⟨by decide +kernel, rfl⟩
theorem dX10_word_1 : dn cX10_word 1 (.i2l) 1 2 := ⟨by decide +kernel, rfl⟩
theorem dX10_word_2 : dn cX10_word 2 (.lconst 0) 1 3 := ⟨by decide +kernel, rfl⟩
theorem dX10_word_3 : dn cX10_word 3 (.aload_n 0) 1 4 := ⟨by decide +kernel, rfl⟩
theorem dX10_word_4 : dn cX10_word 4 (.getfield 92) 3 7 := ⟨by decide +kernel, rfl⟩
theorem dX10_word_7 : dn cX10_word 7 (.iconst 1) 1 8 := ⟨by decide +kernel, rfl⟩
theorem dX10_word_8 : dn cX10_word 8 (.isub) 1 9 := ⟨by decide +kernel, rfl⟩
theorem dX10_word_9 : dn cX10_word 9 (.i2l) 1 10 := ⟨by decide +kernel, rfl⟩
theorem dX10_word_10 : dn cX10_word 10 (.invokestatic 64) 3 13 := ⟨by decide +kernel, rfl⟩
theorem dX10_word_13 : db cX10_word 13 (.ifCond .ne 5) 3 16 (5) 18 := ⟨by decide +kernel, rfl, rfl⟩
theorem dX10_word_16 : dn cX10_word 16 (.iconst (-1)) 1 17 := ⟨by decide +kernel, rfl⟩
theorem dX10_word_17 : dn cX10_word 17 (.ireturn) 1 18 := ⟨by decide +kernel, rfl⟩
theorem dX10_word_18 : dn cX10_word 18 (.iload_n 2) 1 19 := ⟨by decide +kernel, rfl⟩
theorem dX10_word_19 : dn cX10_word 19 (.i2l) 1 20 := ⟨by decide +kernel, rfl⟩
theorem dX10_word_20 : dn cX10_word 20 (.lconst 0) 1 21 := ⟨by decide +kernel, rfl⟩
theorem dX10_word_21 : dn cX10_word 21 (.ldc2_w 72) 3 24 := ⟨by decide +kernel, rfl⟩
theorem dX10_word_24 : dn cX10_word 24 (.invokestatic 64) 3 27 := ⟨by decide +kernel, rfl⟩
theorem dX10_word_27 : db cX10_word 27 (.ifCond .ne 6) 3 30 (6) 33 := ⟨by decide +kernel, rfl, rfl⟩
theorem dX10_word_30 : dn cX10_word 30 (.bipush (-2)) 2 32 := ⟨by decide +kernel, rfl⟩
theorem dX10_word_32 : dn cX10_word 32 (.ireturn) 1 33 := ⟨by decide +kernel, rfl⟩
theorem dX10_word_33 : dn cX10_word 33 (.aload_n 0) 1 34 := ⟨by decide +kernel, rfl⟩
theorem dX10_word_34 : dn cX10_word 34 (.invokevirtual 195) 3 37 := ⟨by decide +kernel, rfl⟩
theorem dX10_word_37 : dn cX10_word 37 (.iload_n 2) 1 38 := ⟨by decide +kernel, rfl⟩
theorem dX10_word_38 : dn cX10_word 38 (.iconst 4) 1 39 := ⟨by decide +kernel, rfl⟩
theorem dX10_word_39 : db cX10_word 39 (.if_icmp .ge 10) 3 42 (10) 49 := ⟨by decide +kernel, rfl, rfl⟩
theorem dX10_word_42 : dn cX10_word 42 (.aload_n 0) 1 43 := ⟨by decide +kernel, rfl⟩
theorem dX10_word_43 : dn cX10_word 43 (.iload_n 1) 1 44 := ⟨by decide +kernel, rfl⟩
theorem dX10_word_44 : dn cX10_word 44 (.iload_n 2) 1 45 := ⟨by decide +kernel, rfl⟩
theorem dX10_word_45 : dn cX10_word 45 (.invokevirtual 177) 3 48 := ⟨by decide +kernel, rfl⟩
theorem dX10_word_48 : dn cX10_word 48 (.ireturn) 1 49 := ⟨by decide +kernel, rfl⟩
theorem dX10_word_49 : dn cX10_word 49 (.aload_n 0) 1 50 := ⟨by decide +kernel, rfl⟩
theorem dX10_word_50 : dn cX10_word 50 (.getfield 46) 3 53 := ⟨by decide +kernel, rfl⟩
theorem dX10_word_53 : dn cX10_word 53 (.iload_n 1) 1 54 := ⟨by decide +kernel, rfl⟩
theorem dX10_word_54 : dn cX10_word 54 (.iaload) 1 55 := ⟨by decide +kernel, rfl⟩
theorem dX10_word_55 : dn cX10_word 55 (.istore_n 3) 1 56 := ⟨by decide +kernel, rfl⟩
theorem dX10_word_56 : dn cX10_word 56 (.iload_n 3) 1 57 := ⟨by decide +kernel, rfl⟩
theorem dX10_word_57 : db cX10_word 57 (.ifCond .lt 8) 3 60 (8) 65 := ⟨by decide +kernel, rfl, rfl⟩
theorem dX10_word_60 : dn cX10_word 60 (.iload_n 2) 1 61 := ⟨by decide +kernel, rfl⟩
theorem dX10_word_61 : dn cX10_word 61 (.iconst 4) 1 62 := ⟨by decide +kernel, rfl⟩
theorem dX10_word_62 : db cX10_word 62 (.if_icmp .ne 7) 3 65 (7) 69 := ⟨by decide +kernel, rfl, rfl⟩
theorem dX10_word_65 : dn cX10_word 65 (.iload_n 3) 1 66 := ⟨by decide +kernel, rfl⟩
theorem dX10_word_66 : db cX10_word 66 (.goto 16) 3 69 (16) 82 := ⟨by decide +kernel, rfl, rfl⟩
theorem dX10_word_69 : dn cX10_word 69 (.aload_n 0) 1 70 := ⟨by decide +kernel, rfl⟩
theorem dX10_word_70 : dn cX10_word 70 (.getfield 49) 3 73 := ⟨by decide +kernel, rfl⟩
theorem dX10_word_73 : dn cX10_word 73 (.iload_n 1) 1 74 := ⟨by decide +kernel, rfl⟩
theorem dX10_word_74 : dn cX10_word 74 (.iaload) 1 75 := ⟨by decide +kernel, rfl⟩
theorem dX10_word_75 : dn cX10_word 75 (.aload_n 0) 1 76 := ⟨by decide +kernel, rfl⟩
theorem dX10_word_76 : dn cX10_word 76 (.getfield 37) 3 79 := ⟨by decide +kernel, rfl⟩
theorem dX10_word_79 : dn cX10_word 79 (.iload_n 3) 1 80 := ⟨by decide +kernel, rfl⟩
theorem dX10_word_80 : dn cX10_word 80 (.iaload) 1 81 := ⟨by decide +kernel, rfl⟩
theorem dX10_word_81 : dn cX10_word 81 (.isub) 1 82 := ⟨by decide +kernel, rfl⟩
theorem dX10_word_82 : dn cX10_word 82 (.ireturn) 1 83 := ⟨by decide +kernel, rfl⟩
theorem dX10_isRule_0 : dn cX10_isRule 0 (.aload_n 0) 1 1 := ⟨by decide +kernel, rfl⟩
theorem dX10_isRule_1 : dn cX10_isRule 1 (.invokevirtual 195) 3 4 := ⟨by decide +kernel, rfl⟩
theorem dX10_isRule_4 : dn cX10_isRule 4 (.iload_n 1) 1 5 := ⟨by decide +kernel, rfl⟩
theorem dX10_isRule_5 : dn cX10_isRule 5 (.i2l) 1 6 := ⟨by decide +kernel, rfl⟩
theorem dX10_isRule_6 : dn cX10_isRule 6 (.lconst 0) 1 7 := ⟨by decide +kernel, rfl⟩
theorem dX10_isRule_7 : dn cX10_isRule 7 (.aload_n 0) 1 8 := ⟨by decide +kernel, rfl⟩
theorem dX10_isRule_8 : dn cX10_isRule 8 (.getfield 105) 3 11 := ⟨by decide +kernel, rfl⟩
theorem dX10_isRule_11 : dn cX10_isRule 11 (.iconst 1) 1 12 := ⟨by decide +kernel, rfl⟩
theorem dX10_isRule_12 : dn cX10_isRule 12 (.isub) 1 13 := ⟨by decide +kernel, rfl⟩
theorem dX10_isRule_13 : dn cX10_isRule 13 (.i2l) 1 14 := ⟨by decide +kernel, rfl⟩
theorem dX10_isRule_14 : dn cX10_isRule 14 (.invokestatic 64) 3 17 := ⟨by decide +kernel, rfl⟩
theorem dX10_isRule_17 : dn cX10_isRule 17 (.ireturn) 1 18 := ⟨by decide +kernel, rfl⟩
theorem dX10_rule_0 : dn cX10_rule 0 (.aload_n 0) 1 1 := ⟨by decide +kernel, rfl⟩
theorem dX10_rule_1 : dn cX10_rule 1 (.iload_n 1) 1 2 := ⟨by decide +kernel, rfl⟩
theorem dX10_rule_2 : dn cX10_rule 2 (.invokevirtual 203) 3 5 := ⟨by decide +kernel, rfl⟩
theorem dX10_rule_5 : db cX10_rule 5 (.ifCond .ne 5) 3 8 (5) 10 := ⟨by decide +kernel, rfl, rfl⟩
theorem dX10_rule_8 : dn cX10_rule 8 (.iconst (-1)) 1 9 := ⟨by decide +kernel, rfl⟩
theorem dX10_rule_9 : dn cX10_rule 9 (.ireturn) 1 10 := ⟨by decide +kernel, rfl⟩
theorem dX10_rule_10 : dn cX10_rule 10 (.iload_n 2) 1 11 := ⟨by decide +kernel, rfl⟩
theorem dX10_rule_11 : dn cX10_rule 11 (.i2l) 1 12 := ⟨by decide +kernel, rfl⟩
theorem dX10_rule_12 : dn cX10_rule 12 (.lconst 0) 1 13 := ⟨by decide +kernel, rfl⟩
theorem dX10_rule_13 : dn cX10_rule 13 (.ldc2_w 206) 3 16 := ⟨by decide +kernel, rfl⟩
theorem dX10_rule_16 : dn cX10_rule 16 (.invokestatic 64) 3 19 := ⟨by decide +kernel, rfl⟩
theorem dX10_rule_19 : db cX10_rule 19 (.ifCond .ne 6) 3 22 (6) 25 := ⟨by decide +kernel, rfl, rfl⟩
theorem dX10_rule_22 : dn cX10_rule 22 (.bipush (-2)) 2 24 := ⟨by decide +kernel, rfl⟩
theorem dX10_rule_24 : dn cX10_rule 24 (.ireturn) 1 25 := ⟨by decide +kernel, rfl⟩
theorem dX10_rule_25 : dn cX10_rule 25 (.iload_n 2) 1 26 := ⟨by decide +kernel, rfl⟩
theorem dX10_rule_26 : dn cX10_rule 26 (.bipush 6) 2 28 := ⟨by decide +kernel, rfl⟩
theorem dX10_rule_28 : db cX10_rule 28 (.if_icmp .eq 21) 3 31 (21) 49 := ⟨by decide +kernel, rfl, rfl⟩
theorem dX10_rule_31 : dn cX10_rule 31 (.aload_n 0) 1 32 := ⟨by decide +kernel, rfl⟩
theorem dX10_rule_32 : dn cX10_rule 32 (.iload_n 1) 1 33 := ⟨by decide +kernel, rfl⟩
theorem dX10_rule_33 : dn cX10_rule 33 (.iload_n 2) 1 34 := ⟨by decide +kernel, rfl⟩
theorem dX10_rule_34 : dn cX10_rule 34 (.bipush 7) 2 36 := ⟨by decide +kernel, rfl⟩
theorem dX10_rule_36 : db cX10_rule 36 (.if_icmp .ne 8) 3 39 (8) 44 := ⟨by decide +kernel, rfl, rfl⟩
theorem dX10_rule_39 : dn cX10_rule 39 (.bipush 6) 2 41 := ⟨by decide +kernel, rfl⟩
theorem dX10_rule_41 : db cX10_rule 41 (.goto 4) 3 44 (4) 45 := ⟨by decide +kernel, rfl, rfl⟩
theorem dX10_rule_44 : dn cX10_rule 44 (.iload_n 2) 1 45 := ⟨by decide +kernel, rfl⟩
theorem dX10_rule_45 : dn cX10_rule 45 (.invokevirtual 108) 3 48 := ⟨by decide +kernel, rfl⟩
theorem dX10_rule_48 : dn cX10_rule 48 (.ireturn) 1 49 := ⟨by decide +kernel, rfl⟩
theorem dX10_rule_49 : dn cX10_rule 49 (.iconst 0) 1 50 := ⟨by decide +kernel, rfl⟩
theorem dX10_rule_50 : dn cX10_rule 50 (.istore_n 3) 1 51 := ⟨by decide +kernel, rfl⟩
theorem dX10_rule_51 : dn cX10_rule 51 (.iconst 0) 1 52 := ⟨by decide +kernel, rfl⟩
theorem dX10_rule_52 : dn cX10_rule 52 (.istore 4) 2 54 := ⟨by decide +kernel, rfl⟩
theorem dX10_rule_54 : dn cX10_rule 54 (.iload 4) 2 56 := ⟨by decide +kernel, rfl⟩
theorem dX10_rule_56 : dn cX10_rule 56 (.aload_n 0) 1 57 := ⟨by decide +kernel, rfl⟩
theorem dX10_rule_57 : dn cX10_rule 57 (.getfield 105) 3 60 := ⟨by decide +kernel, rfl⟩
theorem dX10_rule_60 : db cX10_rule 60 (.if_icmp .ge 27) 3 63 (27) 87 := ⟨by decide +kernel, rfl, rfl⟩
theorem dX10_rule_63 : dn cX10_rule 63 (.iload_n 3) 1 64 := ⟨by decide +kernel, rfl⟩
theorem dX10_rule_64 : dn cX10_rule 64 (.aload_n 0) 1 65 := ⟨by decide +kernel, rfl⟩
theorem dX10_rule_65 : dn cX10_rule 65 (.iload_n 1) 1 66 := ⟨by decide +kernel, rfl⟩
theorem dX10_rule_66 : dn cX10_rule 66 (.iload 4) 2 68 := ⟨by decide +kernel, rfl⟩
theorem dX10_rule_68 : dn cX10_rule 68 (.invokevirtual 135) 3 71 := ⟨by decide +kernel, rfl⟩
theorem dX10_rule_71 : db cX10_rule 71 (.ifCond .eq 7) 3 74 (7) 78 := ⟨by decide +kernel, rfl, rfl⟩
theorem dX10_rule_74 : dn cX10_rule 74 (.iconst 1) 1 75 := ⟨by decide +kernel, rfl⟩
theorem dX10_rule_75 : db cX10_rule 75 (.goto 4) 3 78 (4) 79 := ⟨by decide +kernel, rfl, rfl⟩
theorem dX10_rule_78 : dn cX10_rule 78 (.iconst 0) 1 79 := ⟨by decide +kernel, rfl⟩
theorem dX10_rule_79 : dn cX10_rule 79 (.iadd) 1 80 := ⟨by decide +kernel, rfl⟩
theorem dX10_rule_80 : dn cX10_rule 80 (.istore_n 3) 1 81 := ⟨by decide +kernel, rfl⟩
theorem dX10_rule_81 : dn cX10_rule 81 (.iinc 4 1) 3 84 := ⟨by decide +kernel, rfl⟩
theorem dX10_rule_84 : db cX10_rule 84 (.goto (-30)) 3 87 (-30) 54 := ⟨by decide +kernel, rfl, rfl⟩
theorem dX10_rule_87 : dn cX10_rule 87 (.iload_n 3) 1 88 := ⟨by decide +kernel, rfl⟩
theorem dX10_rule_88 : dn cX10_rule 88 (.ireturn) 1 89 := ⟨by decide +kernel, rfl⟩
theorem dX10_cross_0 : dn cX10_cross 0 (.aload_n 0) 1 1 := ⟨by decide +kernel, rfl⟩
theorem dX10_cross_1 : dn cX10_cross 1 (.iload_n 1) 1 2 := ⟨by decide +kernel, rfl⟩
theorem dX10_cross_2 : dn cX10_cross 2 (.invokevirtual 203) 3 5 := ⟨by decide +kernel, rfl⟩
theorem dX10_cross_5 : db cX10_cross 5 (.ifCond .eq 28) 3 8 (28) 33 := ⟨by decide +kernel, rfl, rfl⟩
theorem dX10_cross_8 : dn cX10_cross 8 (.aload_n 0) 1 9 := ⟨by decide +kernel, rfl⟩
theorem dX10_cross_9 : dn cX10_cross 9 (.iload_n 2) 1 10 := ⟨by decide +kernel, rfl⟩
theorem dX10_cross_10 : dn cX10_cross 10 (.invokevirtual 203) 3 13 := ⟨by decide +kernel, rfl⟩
theorem dX10_cross_13 : db cX10_cross 13 (.ifCond .eq 20) 3 16 (20) 33 := ⟨by decide +kernel, rfl, rfl⟩
theorem dX10_cross_16 : dn cX10_cross 16 (.aload_n 0) 1 17 := ⟨by decide +kernel, rfl⟩
theorem dX10_cross_17 : dn cX10_cross 17 (.iload_n 1) 1 18 := ⟨by decide +kernel, rfl⟩
theorem dX10_cross_18 : dn cX10_cross 18 (.iload_n 2) 1 19 := ⟨by decide +kernel, rfl⟩
theorem dX10_cross_19 : dn cX10_cross 19 (.invokevirtual 135) 3 22 := ⟨by decide +kernel, rfl⟩
theorem dX10_cross_22 : db cX10_cross 22 (.ifCond .eq 7) 3 25 (7) 29 := ⟨by decide +kernel, rfl, rfl⟩
theorem dX10_cross_25 : dn cX10_cross 25 (.iconst 1) 1 26 := ⟨by decide +kernel, rfl⟩
theorem dX10_cross_26 : db cX10_cross 26 (.goto 8) 3 29 (8) 34 := ⟨by decide +kernel, rfl, rfl⟩
theorem dX10_cross_29 : dn cX10_cross 29 (.iconst 0) 1 30 := ⟨by decide +kernel, rfl⟩
theorem dX10_cross_30 : db cX10_cross 30 (.goto 4) 3 33 (4) 34 := ⟨by decide +kernel, rfl, rfl⟩
theorem dX10_cross_33 : dn cX10_cross 33 (.iconst (-1)) 1 34 := ⟨by decide +kernel, rfl⟩
theorem dX10_cross_34 : dn cX10_cross 34 (.ireturn) 1 35 := ⟨by decide +kernel, rfl⟩
theorem dX10_wordsBy_0 : dn cX10_wordsBy 0 (.iconst 0) 1 1 := ⟨by decide +kernel, rfl⟩
theorem dX10_wordsBy_1 : dn cX10_wordsBy 1 (.istore 4) 2 3 := ⟨by decide +kernel, rfl⟩
theorem dX10_wordsBy_3 : dn cX10_wordsBy 3 (.iload_n 2) 1 4 := ⟨by decide +kernel, rfl⟩
theorem dX10_wordsBy_4 : dn cX10_wordsBy 4 (.iconst 1) 1 5 := ⟨by decide +kernel, rfl⟩
theorem dX10_wordsBy_5 : db cX10_wordsBy 5 (.if_icmp .ne 7) 3 8 (7) 12 := ⟨by decide +kernel, rfl, rfl⟩
theorem dX10_wordsBy_8 : dn cX10_wordsBy 8 (.iconst 0) 1 9 := ⟨by decide +kernel, rfl⟩
theorem dX10_wordsBy_9 : db cX10_wordsBy 9 (.goto 4) 3 12 (4) 13 := ⟨by decide +kernel, rfl, rfl⟩
theorem dX10_wordsBy_12 : dn cX10_wordsBy 12 (.iconst 1) 1 13 := ⟨by decide +kernel, rfl⟩
theorem dX10_wordsBy_13 : dn cX10_wordsBy 13 (.istore 5) 2 15 := ⟨by decide +kernel, rfl⟩
theorem dX10_wordsBy_15 : dn cX10_wordsBy 15 (.iconst 0) 1 16 := ⟨by decide +kernel, rfl⟩
theorem dX10_wordsBy_16 : dn cX10_wordsBy 16 (.istore 6) 2 18 := ⟨by decide +kernel, rfl⟩
theorem dX10_wordsBy_18 : dn cX10_wordsBy 18 (.iload 6) 2 20 := ⟨by decide +kernel, rfl⟩
theorem dX10_wordsBy_20 : dn cX10_wordsBy 20 (.aload_n 0) 1 21 := ⟨by decide +kernel, rfl⟩
theorem dX10_wordsBy_21 : dn cX10_wordsBy 21 (.getfield 92) 3 24 := ⟨by decide +kernel, rfl⟩
theorem dX10_wordsBy_24 : db cX10_wordsBy 24 (.if_icmp .ge 112) 3 27 (112) 136 := ⟨by decide +kernel, rfl, rfl⟩
theorem dX10_wordsBy_27 : dn cX10_wordsBy 27 (.aload_n 0) 1 28 := ⟨by decide +kernel, rfl⟩
theorem dX10_wordsBy_28 : dn cX10_wordsBy 28 (.getfield 49) 3 31 := ⟨by decide +kernel, rfl⟩
theorem dX10_wordsBy_31 : dn cX10_wordsBy 31 (.iload 6) 2 33 := ⟨by decide +kernel, rfl⟩
theorem dX10_wordsBy_33 : dn cX10_wordsBy 33 (.iaload) 1 34 := ⟨by decide +kernel, rfl⟩
theorem dX10_wordsBy_34 : dn cX10_wordsBy 34 (.iload_n 1) 1 35 := ⟨by decide +kernel, rfl⟩
theorem dX10_wordsBy_35 : db cX10_wordsBy 35 (.if_icmp .ne 95) 3 38 (95) 130 := ⟨by decide +kernel, rfl, rfl⟩
theorem dX10_wordsBy_38 : dn cX10_wordsBy 38 (.aload_n 0) 1 39 := ⟨by decide +kernel, rfl⟩
theorem dX10_wordsBy_39 : dn cX10_wordsBy 39 (.getfield 46) 3 42 := ⟨by decide +kernel, rfl⟩
theorem dX10_wordsBy_42 : dn cX10_wordsBy 42 (.iload 6) 2 44 := ⟨by decide +kernel, rfl⟩
theorem dX10_wordsBy_44 : dn cX10_wordsBy 44 (.iaload) 1 45 := ⟨by decide +kernel, rfl⟩
theorem dX10_wordsBy_45 : db cX10_wordsBy 45 (.ifCond .lt 85) 3 48 (85) 130 := ⟨by decide +kernel, rfl, rfl⟩
theorem dX10_wordsBy_48 : dn cX10_wordsBy 48 (.iload 4) 2 50 := ⟨by decide +kernel, rfl⟩
theorem dX10_wordsBy_50 : dn cX10_wordsBy 50 (.aload_n 0) 1 51 := ⟨by decide +kernel, rfl⟩
theorem dX10_wordsBy_51 : dn cX10_wordsBy 51 (.iload 6) 2 53 := ⟨by decide +kernel, rfl⟩
theorem dX10_wordsBy_53 : dn cX10_wordsBy 53 (.iload 5) 2 55 := ⟨by decide +kernel, rfl⟩
theorem dX10_wordsBy_55 : dn cX10_wordsBy 55 (.invokevirtual 177) 3 58 := ⟨by decide +kernel, rfl⟩
theorem dX10_wordsBy_58 : dn cX10_wordsBy 58 (.iload_n 3) 1 59 := ⟨by decide +kernel, rfl⟩
theorem dX10_wordsBy_59 : db cX10_wordsBy 59 (.if_icmp .ge 21) 3 62 (21) 80 := ⟨by decide +kernel, rfl, rfl⟩
theorem dX10_wordsBy_62 : dn cX10_wordsBy 62 (.aload_n 0) 1 63 := ⟨by decide +kernel, rfl⟩
theorem dX10_wordsBy_63 : dn cX10_wordsBy 63 (.iload 6) 2 65 := ⟨by decide +kernel, rfl⟩
theorem dX10_wordsBy_65 : dn cX10_wordsBy 65 (.iload 5) 2 67 := ⟨by decide +kernel, rfl⟩
theorem dX10_wordsBy_67 : dn cX10_wordsBy 67 (.iconst 2) 1 68 := ⟨by decide +kernel, rfl⟩
theorem dX10_wordsBy_68 : dn cX10_wordsBy 68 (.iadd) 1 69 := ⟨by decide +kernel, rfl⟩
theorem dX10_wordsBy_69 : dn cX10_wordsBy 69 (.invokevirtual 177) 3 72 := ⟨by decide +kernel, rfl⟩
theorem dX10_wordsBy_72 : dn cX10_wordsBy 72 (.iload_n 3) 1 73 := ⟨by decide +kernel, rfl⟩
theorem dX10_wordsBy_73 : db cX10_wordsBy 73 (.if_icmp .le 7) 3 76 (7) 80 := ⟨by decide +kernel, rfl, rfl⟩
theorem dX10_wordsBy_76 : dn cX10_wordsBy 76 (.iconst 1) 1 77 := ⟨by decide +kernel, rfl⟩
theorem dX10_wordsBy_77 : db cX10_wordsBy 77 (.goto 4) 3 80 (4) 81 := ⟨by decide +kernel, rfl, rfl⟩
theorem dX10_wordsBy_80 : dn cX10_wordsBy 80 (.iconst 0) 1 81 := ⟨by decide +kernel, rfl⟩
theorem dX10_wordsBy_81 : dn cX10_wordsBy 81 (.ior) 1 82 := ⟨by decide +kernel, rfl⟩
theorem dX10_wordsBy_82 : dn cX10_wordsBy 82 (.istore 4) 2 84 := ⟨by decide +kernel, rfl⟩
theorem dX10_wordsBy_84 : dn cX10_wordsBy 84 (.iload 4) 2 86 := ⟨by decide +kernel, rfl⟩
theorem dX10_wordsBy_86 : dn cX10_wordsBy 86 (.aload_n 0) 1 87 := ⟨by decide +kernel, rfl⟩
theorem dX10_wordsBy_87 : dn cX10_wordsBy 87 (.iload 6) 2 89 := ⟨by decide +kernel, rfl⟩
theorem dX10_wordsBy_89 : dn cX10_wordsBy 89 (.iload 5) 2 91 := ⟨by decide +kernel, rfl⟩
theorem dX10_wordsBy_91 : dn cX10_wordsBy 91 (.iconst 2) 1 92 := ⟨by decide +kernel, rfl⟩
theorem dX10_wordsBy_92 : dn cX10_wordsBy 92 (.iadd) 1 93 := ⟨by decide +kernel, rfl⟩
theorem dX10_wordsBy_93 : dn cX10_wordsBy 93 (.invokevirtual 177) 3 96 := ⟨by decide +kernel, rfl⟩
theorem dX10_wordsBy_96 : dn cX10_wordsBy 96 (.iload_n 3) 1 97 := ⟨by decide +kernel, rfl⟩
theorem dX10_wordsBy_97 : db cX10_wordsBy 97 (.if_icmp .gt 7) 3 100 (7) 104 := ⟨by decide +kernel, rfl, rfl⟩
theorem dX10_wordsBy_100 : dn cX10_wordsBy 100 (.iconst 2) 1 101 := ⟨by decide +kernel, rfl⟩
theorem dX10_wordsBy_101 : db cX10_wordsBy 101 (.goto 4) 3 104 (4) 105 := ⟨by decide +kernel, rfl, rfl⟩
theorem dX10_wordsBy_104 : dn cX10_wordsBy 104 (.iconst 0) 1 105 := ⟨by decide +kernel, rfl⟩
theorem dX10_wordsBy_105 : dn cX10_wordsBy 105 (.ior) 1 106 := ⟨by decide +kernel, rfl⟩
theorem dX10_wordsBy_106 : dn cX10_wordsBy 106 (.istore 4) 2 108 := ⟨by decide +kernel, rfl⟩
theorem dX10_wordsBy_108 : dn cX10_wordsBy 108 (.iload 4) 2 110 := ⟨by decide +kernel, rfl⟩
theorem dX10_wordsBy_110 : dn cX10_wordsBy 110 (.aload_n 0) 1 111 := ⟨by decide +kernel, rfl⟩
theorem dX10_wordsBy_111 : dn cX10_wordsBy 111 (.iload 6) 2 113 := ⟨by decide +kernel, rfl⟩
theorem dX10_wordsBy_113 : dn cX10_wordsBy 113 (.iload 5) 2 115 := ⟨by decide +kernel, rfl⟩
theorem dX10_wordsBy_115 : dn cX10_wordsBy 115 (.invokevirtual 177) 3 118 := ⟨by decide +kernel, rfl⟩
theorem dX10_wordsBy_118 : dn cX10_wordsBy 118 (.iload_n 3) 1 119 := ⟨by decide +kernel, rfl⟩
theorem dX10_wordsBy_119 : db cX10_wordsBy 119 (.if_icmp .lt 7) 3 122 (7) 126 := ⟨by decide +kernel, rfl, rfl⟩
theorem dX10_wordsBy_122 : dn cX10_wordsBy 122 (.iconst 4) 1 123 := ⟨by decide +kernel, rfl⟩
theorem dX10_wordsBy_123 : db cX10_wordsBy 123 (.goto 4) 3 126 (4) 127 := ⟨by decide +kernel, rfl, rfl⟩
theorem dX10_wordsBy_126 : dn cX10_wordsBy 126 (.iconst 0) 1 127 := ⟨by decide +kernel, rfl⟩
theorem dX10_wordsBy_127 : dn cX10_wordsBy 127 (.ior) 1 128 := ⟨by decide +kernel, rfl⟩
theorem dX10_wordsBy_128 : dn cX10_wordsBy 128 (.istore 4) 2 130 := ⟨by decide +kernel, rfl⟩
theorem dX10_wordsBy_130 : dn cX10_wordsBy 130 (.iinc 6 1) 3 133 := ⟨by decide +kernel, rfl⟩
theorem dX10_wordsBy_133 : db cX10_wordsBy 133 (.goto (-115)) 3 136 (-115) 18 := ⟨by decide +kernel, rfl, rfl⟩
theorem dX10_wordsBy_136 : dn cX10_wordsBy 136 (.iload 4) 2 138 := ⟨by decide +kernel, rfl⟩
theorem dX10_wordsBy_138 : dn cX10_wordsBy 138 (.ireturn) 1 139 := ⟨by decide +kernel, rfl⟩
theorem dX10_missBy_0 : dn cX10_missBy 0 (.aload_n 0) 1 1 := ⟨by decide +kernel, rfl⟩
theorem dX10_missBy_1 : dn cX10_missBy 1 (.iload_n 2) 1 2 := ⟨by decide +kernel, rfl⟩
theorem dX10_missBy_2 : dn cX10_missBy 2 (.iload_n 3) 1 3 := ⟨by decide +kernel, rfl⟩
theorem dX10_missBy_3 : dn cX10_missBy 3 (.iconst 1) 1 4 := ⟨by decide +kernel, rfl⟩
theorem dX10_missBy_4 : db cX10_missBy 4 (.if_icmp .ne 7) 3 7 (7) 11 := ⟨by decide +kernel, rfl, rfl⟩
theorem dX10_missBy_7 : dn cX10_missBy 7 (.iconst 1) 1 8 := ⟨by decide +kernel, rfl⟩
theorem dX10_missBy_8 : db cX10_missBy 8 (.goto 4) 3 11 (4) 12 := ⟨by decide +kernel, rfl, rfl⟩
theorem dX10_missBy_11 : dn cX10_missBy 11 (.iconst 0) 1 12 := ⟨by decide +kernel, rfl⟩
theorem dX10_missBy_12 : dn cX10_missBy 12 (.invokevirtual 174) 3 15 := ⟨by decide +kernel, rfl⟩
theorem dX10_missBy_15 : dn cX10_missBy 15 (.istore 5) 2 17 := ⟨by decide +kernel, rfl⟩
theorem dX10_missBy_17 : dn cX10_missBy 17 (.aload_n 0) 1 18 := ⟨by decide +kernel, rfl⟩
theorem dX10_missBy_18 : dn cX10_missBy 18 (.iload_n 2) 1 19 := ⟨by decide +kernel, rfl⟩
theorem dX10_missBy_19 : dn cX10_missBy 19 (.iload_n 3) 1 20 := ⟨by decide +kernel, rfl⟩
theorem dX10_missBy_20 : dn cX10_missBy 20 (.iconst 1) 1 21 := ⟨by decide +kernel, rfl⟩
theorem dX10_missBy_21 : db cX10_missBy 21 (.if_icmp .ne 7) 3 24 (7) 28 := ⟨by decide +kernel, rfl, rfl⟩
theorem dX10_missBy_24 : dn cX10_missBy 24 (.iconst 3) 1 25 := ⟨by decide +kernel, rfl⟩
theorem dX10_missBy_25 : db cX10_missBy 25 (.goto 4) 3 28 (4) 29 := ⟨by decide +kernel, rfl, rfl⟩
theorem dX10_missBy_28 : dn cX10_missBy 28 (.iconst 2) 1 29 := ⟨by decide +kernel, rfl⟩
theorem dX10_missBy_29 : dn cX10_missBy 29 (.invokevirtual 174) 3 32 := ⟨by decide +kernel, rfl⟩
theorem dX10_missBy_32 : dn cX10_missBy 32 (.istore 6) 2 34 := ⟨by decide +kernel, rfl⟩
theorem dX10_missBy_34 : dn cX10_missBy 34 (.iload 5) 2 36 := ⟨by decide +kernel, rfl⟩
theorem dX10_missBy_36 : dn cX10_missBy 36 (.iconst 1) 1 37 := ⟨by decide +kernel, rfl⟩
theorem dX10_missBy_37 : dn cX10_missBy 37 (.iadd) 1 38 := ⟨by decide +kernel, rfl⟩
theorem dX10_missBy_38 : dn cX10_missBy 38 (.istore 7) 2 40 := ⟨by decide +kernel, rfl⟩
theorem dX10_missBy_40 : dn cX10_missBy 40 (.iload 7) 2 42 := ⟨by decide +kernel, rfl⟩
theorem dX10_missBy_42 : dn cX10_missBy 42 (.iload 5) 2 44 := ⟨by decide +kernel, rfl⟩
theorem dX10_missBy_44 : dn cX10_missBy 44 (.iload 6) 2 46 := ⟨by decide +kernel, rfl⟩
theorem dX10_missBy_46 : dn cX10_missBy 46 (.iadd) 1 47 := ⟨by decide +kernel, rfl⟩
theorem dX10_missBy_47 : db cX10_missBy 47 (.if_icmp .ge 102) 3 50 (102) 149 := ⟨by decide +kernel, rfl, rfl⟩
theorem dX10_missBy_50 : dn cX10_missBy 50 (.aload_n 0) 1 51 := ⟨by decide +kernel, rfl⟩
theorem dX10_missBy_51 : dn cX10_missBy 51 (.iload_n 2) 1 52 := ⟨by decide +kernel, rfl⟩
theorem dX10_missBy_52 : dn cX10_missBy 52 (.iload_n 3) 1 53 := ⟨by decide +kernel, rfl⟩
theorem dX10_missBy_53 : dn cX10_missBy 53 (.aload_n 0) 1 54 := ⟨by decide +kernel, rfl⟩
theorem dX10_missBy_54 : dn cX10_missBy 54 (.iload_n 1) 1 55 := ⟨by decide +kernel, rfl⟩
theorem dX10_missBy_55 : dn cX10_missBy 55 (.iload_n 3) 1 56 := ⟨by decide +kernel, rfl⟩
theorem dX10_missBy_56 : dn cX10_missBy 56 (.iload 7) 2 58 := ⟨by decide +kernel, rfl⟩
theorem dX10_missBy_58 : dn cX10_missBy 58 (.invokevirtual 155) 3 61 := ⟨by decide +kernel, rfl⟩
theorem dX10_missBy_61 : dn cX10_missBy 61 (.invokevirtual 208) 3 64 := ⟨by decide +kernel, rfl⟩
theorem dX10_missBy_64 : dn cX10_missBy 64 (.bipush 6) 2 66 := ⟨by decide +kernel, rfl⟩
theorem dX10_missBy_66 : db cX10_missBy 66 (.if_icmp .ne 77) 3 69 (77) 143 := ⟨by decide +kernel, rfl, rfl⟩
theorem dX10_missBy_69 : dn cX10_missBy 69 (.aload_n 0) 1 70 := ⟨by decide +kernel, rfl⟩
theorem dX10_missBy_70 : dn cX10_missBy 70 (.aload_n 0) 1 71 := ⟨by decide +kernel, rfl⟩
theorem dX10_missBy_71 : dn cX10_missBy 71 (.getfield 211) 3 74 := ⟨by decide +kernel, rfl⟩
theorem dX10_missBy_74 : dn cX10_missBy 74 (.iload 4) 2 76 := ⟨by decide +kernel, rfl⟩
theorem dX10_missBy_76 : db cX10_missBy 76 (.if_icmp .ne 7) 3 79 (7) 83 := ⟨by decide +kernel, rfl, rfl⟩
theorem dX10_missBy_79 : dn cX10_missBy 79 (.iload_n 2) 1 80 := ⟨by decide +kernel, rfl⟩
theorem dX10_missBy_80 : db cX10_missBy 80 (.goto 7) 3 83 (7) 87 := ⟨by decide +kernel, rfl, rfl⟩
theorem dX10_missBy_83 : dn cX10_missBy 83 (.aload_n 0) 1 84 := ⟨by decide +kernel, rfl⟩
theorem dX10_missBy_84 : dn cX10_missBy 84 (.getfield 214) 3 87 := ⟨by decide +kernel, rfl⟩
theorem dX10_missBy_87 : dn cX10_missBy 87 (.putfield 214) 3 90 := ⟨by decide +kernel, rfl⟩
theorem dX10_missBy_90 : dn cX10_missBy 90 (.aload_n 0) 1 91 := ⟨by decide +kernel, rfl⟩
theorem dX10_missBy_91 : dn cX10_missBy 91 (.aload_n 0) 1 92 := ⟨by decide +kernel, rfl⟩
theorem dX10_missBy_92 : dn cX10_missBy 92 (.getfield 211) 3 95 := ⟨by decide +kernel, rfl⟩
theorem dX10_missBy_95 : dn cX10_missBy 95 (.iload 4) 2 97 := ⟨by decide +kernel, rfl⟩
theorem dX10_missBy_97 : db cX10_missBy 97 (.if_icmp .ne 7) 3 100 (7) 104 := ⟨by decide +kernel, rfl, rfl⟩
theorem dX10_missBy_100 : dn cX10_missBy 100 (.iload_n 3) 1 101 := ⟨by decide +kernel, rfl⟩
theorem dX10_missBy_101 : db cX10_missBy 101 (.goto 7) 3 104 (7) 108 := ⟨by decide +kernel, rfl, rfl⟩
theorem dX10_missBy_104 : dn cX10_missBy 104 (.aload_n 0) 1 105 := ⟨by decide +kernel, rfl⟩
theorem dX10_missBy_105 : dn cX10_missBy 105 (.getfield 217) 3 108 := ⟨by decide +kernel, rfl⟩
theorem dX10_missBy_108 : dn cX10_missBy 108 (.putfield 217) 3 111 := ⟨by decide +kernel, rfl⟩
theorem dX10_missBy_111 : dn cX10_missBy 111 (.aload_n 0) 1 112 := ⟨by decide +kernel, rfl⟩
theorem dX10_missBy_112 : dn cX10_missBy 112 (.aload_n 0) 1 113 := ⟨by decide +kernel, rfl⟩
theorem dX10_missBy_113 : dn cX10_missBy 113 (.getfield 211) 3 116 := ⟨by decide +kernel, rfl⟩
theorem dX10_missBy_116 : dn cX10_missBy 116 (.iload 4) 2 118 := ⟨by decide +kernel, rfl⟩
theorem dX10_missBy_118 : db cX10_missBy 118 (.if_icmp .ne 8) 3 121 (8) 126 := ⟨by decide +kernel, rfl, rfl⟩
theorem dX10_missBy_121 : dn cX10_missBy 121 (.iload 7) 2 123 := ⟨by decide +kernel, rfl⟩
theorem dX10_missBy_123 : db cX10_missBy 123 (.goto 7) 3 126 (7) 130 := ⟨by decide +kernel, rfl, rfl⟩
theorem dX10_missBy_126 : dn cX10_missBy 126 (.aload_n 0) 1 127 := ⟨by decide +kernel, rfl⟩
theorem dX10_missBy_127 : dn cX10_missBy 127 (.getfield 220) 3 130 := ⟨by decide +kernel, rfl⟩
theorem dX10_missBy_130 : dn cX10_missBy 130 (.putfield 220) 3 133 := ⟨by decide +kernel, rfl⟩
theorem dX10_missBy_133 : dn cX10_missBy 133 (.aload_n 0) 1 134 := ⟨by decide +kernel, rfl⟩
theorem dX10_missBy_134 : dn cX10_missBy 134 (.dup) 1 135 := ⟨by decide +kernel, rfl⟩
theorem dX10_missBy_135 : dn cX10_missBy 135 (.getfield 211) 3 138 := ⟨by decide +kernel, rfl⟩
theorem dX10_missBy_138 : dn cX10_missBy 138 (.iconst 1) 1 139 := ⟨by decide +kernel, rfl⟩
theorem dX10_missBy_139 : dn cX10_missBy 139 (.iadd) 1 140 := ⟨by decide +kernel, rfl⟩
theorem dX10_missBy_140 : dn cX10_missBy 140 (.putfield 211) 3 143 := ⟨by decide +kernel, rfl⟩
theorem dX10_missBy_143 : dn cX10_missBy 143 (.iinc 7 1) 3 146 := ⟨by decide +kernel, rfl⟩
theorem dX10_missBy_146 : db cX10_missBy 146 (.goto (-106)) 3 149 (-106) 40 := ⟨by decide +kernel, rfl, rfl⟩
theorem dX10_missBy_149 : dn cX10_missBy 149 (.return_) 1 150 := ⟨by decide +kernel, rfl⟩
theorem dX10_findMissed_0 : dn cX10_findMissed 0 (.aload_n 0) 1 1 := ⟨by decide +kernel, rfl⟩
theorem dX10_findMissed_1 : dn cX10_findMissed 1 (.iconst 0) 1 2 := ⟨by decide +kernel, rfl⟩
theorem dX10_findMissed_2 : dn cX10_findMissed 2 (.putfield 211) 3 5 := ⟨by decide +kernel, rfl⟩
theorem dX10_findMissed_5 : dn cX10_findMissed 5 (.aload_n 0) 1 6 := ⟨by decide +kernel, rfl⟩
theorem dX10_findMissed_6 : dn cX10_findMissed 6 (.getfield 37) 3 9 := ⟨by decide +kernel, rfl⟩
theorem dX10_findMissed_9 : dn cX10_findMissed 9 (.iload_n 1) 1 10 := ⟨by decide +kernel, rfl⟩
theorem dX10_findMissed_10 : dn cX10_findMissed 10 (.iaload) 1 11 := ⟨by decide +kernel, rfl⟩
theorem dX10_findMissed_11 : dn cX10_findMissed 11 (.istore_n 3) 1 12 := ⟨by decide +kernel, rfl⟩
theorem dX10_findMissed_12 : dn cX10_findMissed 12 (.iload_n 3) 1 13 := ⟨by decide +kernel, rfl⟩
theorem dX10_findMissed_13 : dn cX10_findMissed 13 (.aload_n 0) 1 14 := ⟨by decide +kernel, rfl⟩
theorem dX10_findMissed_14 : dn cX10_findMissed 14 (.getfield 37) 3 17 := ⟨by decide +kernel, rfl⟩
theorem dX10_findMissed_17 : dn cX10_findMissed 17 (.iload_n 1) 1 18 := ⟨by decide +kernel, rfl⟩
theorem dX10_findMissed_18 : dn cX10_findMissed 18 (.iconst 1) 1 19 := ⟨by decide +kernel, rfl⟩
theorem dX10_findMissed_19 : dn cX10_findMissed 19 (.iadd) 1 20 := ⟨by decide +kernel, rfl⟩
theorem dX10_findMissed_20 : dn cX10_findMissed 20 (.iaload) 1 21 := ⟨by decide +kernel, rfl⟩
theorem dX10_findMissed_21 : db cX10_findMissed 21 (.if_icmp .ge 34) 3 24 (34) 55 := ⟨by decide +kernel, rfl, rfl⟩
theorem dX10_findMissed_24 : dn cX10_findMissed 24 (.aload_n 0) 1 25 := ⟨by decide +kernel, rfl⟩
theorem dX10_findMissed_25 : dn cX10_findMissed 25 (.iload_n 3) 1 26 := ⟨by decide +kernel, rfl⟩
theorem dX10_findMissed_26 : dn cX10_findMissed 26 (.iconst 5) 1 27 := ⟨by decide +kernel, rfl⟩
theorem dX10_findMissed_27 : dn cX10_findMissed 27 (.invokevirtual 174) 3 30 := ⟨by decide +kernel, rfl⟩
theorem dX10_findMissed_30 : db cX10_findMissed 30 (.ifCond .ne 19) 3 33 (19) 49 := ⟨by decide +kernel, rfl, rfl⟩
theorem dX10_findMissed_33 : dn cX10_findMissed 33 (.aload_n 0) 1 34 := ⟨by decide +kernel, rfl⟩
theorem dX10_findMissed_34 : dn cX10_findMissed 34 (.iload_n 1) 1 35 := ⟨by decide +kernel, rfl⟩
theorem dX10_findMissed_35 : dn cX10_findMissed 35 (.iload_n 3) 1 36 := ⟨by decide +kernel, rfl⟩
theorem dX10_findMissed_36 : dn cX10_findMissed 36 (.iconst 1) 1 37 := ⟨by decide +kernel, rfl⟩
theorem dX10_findMissed_37 : dn cX10_findMissed 37 (.iload_n 2) 1 38 := ⟨by decide +kernel, rfl⟩
theorem dX10_findMissed_38 : dn cX10_findMissed 38 (.invokevirtual 223) 3 41 := ⟨by decide +kernel, rfl⟩
theorem dX10_findMissed_41 : dn cX10_findMissed 41 (.aload_n 0) 1 42 := ⟨by decide +kernel, rfl⟩
theorem dX10_findMissed_42 : dn cX10_findMissed 42 (.iload_n 1) 1 43 := ⟨by decide +kernel, rfl⟩
theorem dX10_findMissed_43 : dn cX10_findMissed 43 (.iload_n 3) 1 44 := ⟨by decide +kernel, rfl⟩
theorem dX10_findMissed_44 : dn cX10_findMissed 44 (.iconst 0) 1 45 := ⟨by decide +kernel, rfl⟩
theorem dX10_findMissed_45 : dn cX10_findMissed 45 (.iload_n 2) 1 46 := ⟨by decide +kernel, rfl⟩
theorem dX10_findMissed_46 : dn cX10_findMissed 46 (.invokevirtual 223) 3 49 := ⟨by decide +kernel, rfl⟩
theorem dX10_findMissed_49 : dn cX10_findMissed 49 (.iinc 3 1) 3 52 := ⟨by decide +kernel, rfl⟩
theorem dX10_findMissed_52 : db cX10_findMissed 52 (.goto (-40)) 3 55 (-40) 12 := ⟨by decide +kernel, rfl, rfl⟩
theorem dX10_findMissed_55 : dn cX10_findMissed 55 (.return_) 1 56 := ⟨by decide +kernel, rfl⟩
theorem dX10_missed_0 : dn cX10_missed 0 (.aload_n 0) 1 1 := ⟨by decide +kernel, rfl⟩
theorem dX10_missed_1 : dn cX10_missed 1 (.iload_n 1) 1 2 := ⟨by decide +kernel, rfl⟩
theorem dX10_missed_2 : dn cX10_missed 2 (.invokevirtual 198) 3 5 := ⟨by decide +kernel, rfl⟩
theorem dX10_missed_5 : db cX10_missed 5 (.ifCond .ne 5) 3 8 (5) 10 := ⟨by decide +kernel, rfl, rfl⟩
theorem dX10_missed_8 : dn cX10_missed 8 (.iconst (-1)) 1 9 := ⟨by decide +kernel, rfl⟩
theorem dX10_missed_9 : dn cX10_missed 9 (.ireturn) 1 10 := ⟨by decide +kernel, rfl⟩
theorem dX10_missed_10 : dn cX10_missed 10 (.iload_n 3) 1 11 := ⟨by decide +kernel, rfl⟩
theorem dX10_missed_11 : dn cX10_missed 11 (.i2l) 1 12 := ⟨by decide +kernel, rfl⟩
theorem dX10_missed_12 : dn cX10_missed 12 (.lconst 0) 1 13 := ⟨by decide +kernel, rfl⟩
theorem dX10_missed_13 : dn cX10_missed 13 (.ldc2_w 62) 3 16 := ⟨by decide +kernel, rfl⟩
theorem dX10_missed_16 : dn cX10_missed 16 (.invokestatic 64) 3 19 := ⟨by decide +kernel, rfl⟩
theorem dX10_missed_19 : db cX10_missed 19 (.ifCond .ne 6) 3 22 (6) 25 := ⟨by decide +kernel, rfl, rfl⟩
theorem dX10_missed_22 : dn cX10_missed 22 (.bipush (-2)) 2 24 := ⟨by decide +kernel, rfl⟩
theorem dX10_missed_24 : dn cX10_missed 24 (.ireturn) 1 25 := ⟨by decide +kernel, rfl⟩
theorem dX10_missed_25 : dn cX10_missed 25 (.aload_n 0) 1 26 := ⟨by decide +kernel, rfl⟩
theorem dX10_missed_26 : dn cX10_missed 26 (.iload_n 1) 1 27 := ⟨by decide +kernel, rfl⟩
theorem dX10_missed_27 : dn cX10_missed 27 (.iload_n 2) 1 28 := ⟨by decide +kernel, rfl⟩
theorem dX10_missed_28 : dn cX10_missed 28 (.invokevirtual 226) 3 31 := ⟨by decide +kernel, rfl⟩
theorem dX10_missed_31 : dn cX10_missed 31 (.iload_n 2) 1 32 := ⟨by decide +kernel, rfl⟩
theorem dX10_missed_32 : dn cX10_missed 32 (.i2l) 1 33 := ⟨by decide +kernel, rfl⟩
theorem dX10_missed_33 : dn cX10_missed 33 (.lconst 0) 1 34 := ⟨by decide +kernel, rfl⟩
theorem dX10_missed_34 : dn cX10_missed 34 (.aload_n 0) 1 35 := ⟨by decide +kernel, rfl⟩
theorem dX10_missed_35 : dn cX10_missed 35 (.getfield 211) 3 38 := ⟨by decide +kernel, rfl⟩
theorem dX10_missed_38 : dn cX10_missed 38 (.iconst 1) 1 39 := ⟨by decide +kernel, rfl⟩
theorem dX10_missed_39 : dn cX10_missed 39 (.isub) 1 40 := ⟨by decide +kernel, rfl⟩
theorem dX10_missed_40 : dn cX10_missed 40 (.i2l) 1 41 := ⟨by decide +kernel, rfl⟩
theorem dX10_missed_41 : dn cX10_missed 41 (.invokestatic 64) 3 44 := ⟨by decide +kernel, rfl⟩
theorem dX10_missed_44 : db cX10_missed 44 (.ifCond .ne 6) 3 47 (6) 50 := ⟨by decide +kernel, rfl, rfl⟩
theorem dX10_missed_47 : dn cX10_missed 47 (.bipush (-6)) 2 49 := ⟨by decide +kernel, rfl⟩
theorem dX10_missed_49 : dn cX10_missed 49 (.ireturn) 1 50 := ⟨by decide +kernel, rfl⟩
theorem dX10_missed_50 : dn cX10_missed 50 (.iload_n 3) 1 51 := ⟨by decide +kernel, rfl⟩
theorem dX10_missed_51 : db cX10_missed 51 (.ifCond .ne 17) 3 54 (17) 68 := ⟨by decide +kernel, rfl, rfl⟩
theorem dX10_missed_54 : dn cX10_missed 54 (.aload_n 0) 1 55 := ⟨by decide +kernel, rfl⟩
theorem dX10_missed_55 : dn cX10_missed 55 (.getfield 214) 3 58 := ⟨by decide +kernel, rfl⟩
theorem dX10_missed_58 : dn cX10_missed 58 (.aload_n 0) 1 59 := ⟨by decide +kernel, rfl⟩
theorem dX10_missed_59 : dn cX10_missed 59 (.getfield 37) 3 62 := ⟨by decide +kernel, rfl⟩
theorem dX10_missed_62 : dn cX10_missed 62 (.iload_n 1) 1 63 := ⟨by decide +kernel, rfl⟩
theorem dX10_missed_63 : dn cX10_missed 63 (.iaload) 1 64 := ⟨by decide +kernel, rfl⟩
theorem dX10_missed_64 : dn cX10_missed 64 (.isub) 1 65 := ⟨by decide +kernel, rfl⟩
theorem dX10_missed_65 : db cX10_missed 65 (.goto 19) 3 68 (19) 84 := ⟨by decide +kernel, rfl, rfl⟩
theorem dX10_missed_68 : dn cX10_missed 68 (.iload_n 3) 1 69 := ⟨by decide +kernel, rfl⟩
theorem dX10_missed_69 : dn cX10_missed 69 (.iconst 1) 1 70 := ⟨by decide +kernel, rfl⟩
theorem dX10_missed_70 : db cX10_missed 70 (.if_icmp .ne 10) 3 73 (10) 80 := ⟨by decide +kernel, rfl, rfl⟩
theorem dX10_missed_73 : dn cX10_missed 73 (.aload_n 0) 1 74 := ⟨by decide +kernel, rfl⟩
theorem dX10_missed_74 : dn cX10_missed 74 (.getfield 217) 3 77 := ⟨by decide +kernel, rfl⟩
theorem dX10_missed_77 : db cX10_missed 77 (.goto 7) 3 80 (7) 84 := ⟨by decide +kernel, rfl, rfl⟩
theorem dX10_missed_80 : dn cX10_missed 80 (.aload_n 0) 1 81 := ⟨by decide +kernel, rfl⟩
theorem dX10_missed_81 : dn cX10_missed 81 (.getfield 220) 3 84 := ⟨by decide +kernel, rfl⟩
theorem dX10_missed_84 : dn cX10_missed 84 (.ireturn) 1 85 := ⟨by decide +kernel, rfl⟩
theorem dX10_layComing_0 : dn cX10_layComing 0 (.aload_n 0) 1 1 := ⟨by decide +kernel, rfl⟩
theorem dX10_layComing_1 : dn cX10_layComing 1 (.iload_n 1) 1 2 := ⟨by decide +kernel, rfl⟩
theorem dX10_layComing_2 : dn cX10_layComing 2 (.iload_n 2) 1 3 := ⟨by decide +kernel, rfl⟩
theorem dX10_layComing_3 : dn cX10_layComing 3 (.invokevirtual 226) 3 6 := ⟨by decide +kernel, rfl⟩
theorem dX10_layComing_6 : dn cX10_layComing 6 (.aload_n 0) 1 7 := ⟨by decide +kernel, rfl⟩
theorem dX10_layComing_7 : dn cX10_layComing 7 (.aload_n 0) 1 8 := ⟨by decide +kernel, rfl⟩
theorem dX10_layComing_8 : dn cX10_layComing 8 (.getfield 214) 3 11 := ⟨by decide +kernel, rfl⟩
theorem dX10_layComing_11 : dn cX10_layComing 11 (.aload_n 0) 1 12 := ⟨by decide +kernel, rfl⟩
theorem dX10_layComing_12 : dn cX10_layComing 12 (.getfield 217) 3 15 := ⟨by decide +kernel, rfl⟩
theorem dX10_layComing_15 : dn cX10_layComing 15 (.iconst 1) 1 16 := ⟨by decide +kernel, rfl⟩
theorem dX10_layComing_16 : db cX10_layComing 16 (.if_icmp .ne 7) 3 19 (7) 23 := ⟨by decide +kernel, rfl, rfl⟩
theorem dX10_layComing_19 : dn cX10_layComing 19 (.iconst 0) 1 20 := ⟨by decide +kernel, rfl⟩
theorem dX10_layComing_20 : db cX10_layComing 20 (.goto 4) 3 23 (4) 24 := ⟨by decide +kernel, rfl, rfl⟩
theorem dX10_layComing_23 : dn cX10_layComing 23 (.iconst 1) 1 24 := ⟨by decide +kernel, rfl⟩
theorem dX10_layComing_24 : dn cX10_layComing 24 (.invokevirtual 174) 3 27 := ⟨by decide +kernel, rfl⟩
theorem dX10_layComing_27 : dn cX10_layComing 27 (.istore_n 3) 1 28 := ⟨by decide +kernel, rfl⟩
theorem dX10_layComing_28 : dn cX10_layComing 28 (.aload_n 0) 1 29 := ⟨by decide +kernel, rfl⟩
theorem dX10_layComing_29 : dn cX10_layComing 29 (.aload_n 0) 1 30 := ⟨by decide +kernel, rfl⟩
theorem dX10_layComing_30 : dn cX10_layComing 30 (.getfield 214) 3 33 := ⟨by decide +kernel, rfl⟩
theorem dX10_layComing_33 : dn cX10_layComing 33 (.aload_n 0) 1 34 := ⟨by decide +kernel, rfl⟩
theorem dX10_layComing_34 : dn cX10_layComing 34 (.getfield 217) 3 37 := ⟨by decide +kernel, rfl⟩
theorem dX10_layComing_37 : dn cX10_layComing 37 (.iconst 1) 1 38 := ⟨by decide +kernel, rfl⟩
theorem dX10_layComing_38 : db cX10_layComing 38 (.if_icmp .ne 7) 3 41 (7) 45 := ⟨by decide +kernel, rfl, rfl⟩
theorem dX10_layComing_41 : dn cX10_layComing 41 (.iconst 2) 1 42 := ⟨by decide +kernel, rfl⟩
theorem dX10_layComing_42 : db cX10_layComing 42 (.goto 4) 3 45 (4) 46 := ⟨by decide +kernel, rfl, rfl⟩
theorem dX10_layComing_45 : dn cX10_layComing 45 (.iconst 3) 1 46 := ⟨by decide +kernel, rfl⟩
theorem dX10_layComing_46 : dn cX10_layComing 46 (.invokevirtual 174) 3 49 := ⟨by decide +kernel, rfl⟩
theorem dX10_layComing_49 : dn cX10_layComing 49 (.istore 4) 2 51 := ⟨by decide +kernel, rfl⟩
theorem dX10_layComing_51 : dn cX10_layComing 51 (.aload_n 0) 1 52 := ⟨by decide +kernel, rfl⟩
theorem dX10_layComing_52 : dn cX10_layComing 52 (.getfield 52) 3 55 := ⟨by decide +kernel, rfl⟩
theorem dX10_layComing_55 : dn cX10_layComing 55 (.iconst 4) 1 56 := ⟨by decide +kernel, rfl⟩
theorem dX10_layComing_56 : dn cX10_layComing 56 (.iload_n 2) 1 57 := ⟨by decide +kernel, rfl⟩
theorem dX10_layComing_57 : dn cX10_layComing 57 (.imul) 1 58 := ⟨by decide +kernel, rfl⟩
theorem dX10_layComing_58 : dn cX10_layComing 58 (.aload_n 0) 1 59 := ⟨by decide +kernel, rfl⟩
theorem dX10_layComing_59 : dn cX10_layComing 59 (.getfield 217) 3 62 := ⟨by decide +kernel, rfl⟩
theorem dX10_layComing_62 : dn cX10_layComing 62 (.iastore) 1 63 := ⟨by decide +kernel, rfl⟩
theorem dX10_layComing_63 : dn cX10_layComing 63 (.aload_n 0) 1 64 := ⟨by decide +kernel, rfl⟩
theorem dX10_layComing_64 : dn cX10_layComing 64 (.getfield 52) 3 67 := ⟨by decide +kernel, rfl⟩
theorem dX10_layComing_67 : dn cX10_layComing 67 (.iconst 4) 1 68 := ⟨by decide +kernel, rfl⟩
theorem dX10_layComing_68 : dn cX10_layComing 68 (.iload_n 2) 1 69 := ⟨by decide +kernel, rfl⟩
theorem dX10_layComing_69 : dn cX10_layComing 69 (.imul) 1 70 := ⟨by decide +kernel, rfl⟩
theorem dX10_layComing_70 : dn cX10_layComing 70 (.iconst 1) 1 71 := ⟨by decide +kernel, rfl⟩
theorem dX10_layComing_71 : dn cX10_layComing 71 (.iadd) 1 72 := ⟨by decide +kernel, rfl⟩
theorem dX10_layComing_72 : dn cX10_layComing 72 (.aload_n 0) 1 73 := ⟨by decide +kernel, rfl⟩
theorem dX10_layComing_73 : dn cX10_layComing 73 (.iload_n 1) 1 74 := ⟨by decide +kernel, rfl⟩
theorem dX10_layComing_74 : dn cX10_layComing 74 (.aload_n 0) 1 75 := ⟨by decide +kernel, rfl⟩
theorem dX10_layComing_75 : dn cX10_layComing 75 (.getfield 217) 3 78 := ⟨by decide +kernel, rfl⟩
theorem dX10_layComing_78 : dn cX10_layComing 78 (.aload_n 0) 1 79 := ⟨by decide +kernel, rfl⟩
theorem dX10_layComing_79 : dn cX10_layComing 79 (.getfield 220) 3 82 := ⟨by decide +kernel, rfl⟩
theorem dX10_layComing_82 : dn cX10_layComing 82 (.invokevirtual 155) 3 85 := ⟨by decide +kernel, rfl⟩
theorem dX10_layComing_85 : dn cX10_layComing 85 (.iastore) 1 86 := ⟨by decide +kernel, rfl⟩
theorem dX10_layComing_86 : dn cX10_layComing 86 (.aload_n 0) 1 87 := ⟨by decide +kernel, rfl⟩
theorem dX10_layComing_87 : dn cX10_layComing 87 (.getfield 52) 3 90 := ⟨by decide +kernel, rfl⟩
theorem dX10_layComing_90 : dn cX10_layComing 90 (.iconst 4) 1 91 := ⟨by decide +kernel, rfl⟩
theorem dX10_layComing_91 : dn cX10_layComing 91 (.iload_n 2) 1 92 := ⟨by decide +kernel, rfl⟩
theorem dX10_layComing_92 : dn cX10_layComing 92 (.imul) 1 93 := ⟨by decide +kernel, rfl⟩
theorem dX10_layComing_93 : dn cX10_layComing 93 (.iconst 2) 1 94 := ⟨by decide +kernel, rfl⟩
theorem dX10_layComing_94 : dn cX10_layComing 94 (.iadd) 1 95 := ⟨by decide +kernel, rfl⟩
theorem dX10_layComing_95 : dn cX10_layComing 95 (.aload_n 0) 1 96 := ⟨by decide +kernel, rfl⟩
theorem dX10_layComing_96 : dn cX10_layComing 96 (.iload_n 1) 1 97 := ⟨by decide +kernel, rfl⟩
theorem dX10_layComing_97 : dn cX10_layComing 97 (.iconst 1) 1 98 := ⟨by decide +kernel, rfl⟩
theorem dX10_layComing_98 : dn cX10_layComing 98 (.aload_n 0) 1 99 := ⟨by decide +kernel, rfl⟩
theorem dX10_layComing_99 : dn cX10_layComing 99 (.getfield 217) 3 102 := ⟨by decide +kernel, rfl⟩
theorem dX10_layComing_102 : dn cX10_layComing 102 (.isub) 1 103 := ⟨by decide +kernel, rfl⟩
theorem dX10_layComing_103 : dn cX10_layComing 103 (.iload_n 3) 1 104 := ⟨by decide +kernel, rfl⟩
theorem dX10_layComing_104 : dn cX10_layComing 104 (.invokevirtual 155) 3 107 := ⟨by decide +kernel, rfl⟩
theorem dX10_layComing_107 : dn cX10_layComing 107 (.iastore) 1 108 := ⟨by decide +kernel, rfl⟩
theorem dX10_layComing_108 : dn cX10_layComing 108 (.aload_n 0) 1 109 := ⟨by decide +kernel, rfl⟩
theorem dX10_layComing_109 : dn cX10_layComing 109 (.getfield 52) 3 112 := ⟨by decide +kernel, rfl⟩
theorem dX10_layComing_112 : dn cX10_layComing 112 (.iconst 4) 1 113 := ⟨by decide +kernel, rfl⟩
theorem dX10_layComing_113 : dn cX10_layComing 113 (.iload_n 2) 1 114 := ⟨by decide +kernel, rfl⟩
theorem dX10_layComing_114 : dn cX10_layComing 114 (.imul) 1 115 := ⟨by decide +kernel, rfl⟩
theorem dX10_layComing_115 : dn cX10_layComing 115 (.iconst 3) 1 116 := ⟨by decide +kernel, rfl⟩
theorem dX10_layComing_116 : dn cX10_layComing 116 (.iadd) 1 117 := ⟨by decide +kernel, rfl⟩
theorem dX10_layComing_117 : dn cX10_layComing 117 (.aload_n 0) 1 118 := ⟨by decide +kernel, rfl⟩
theorem dX10_layComing_118 : dn cX10_layComing 118 (.iload_n 1) 1 119 := ⟨by decide +kernel, rfl⟩
theorem dX10_layComing_119 : dn cX10_layComing 119 (.iconst 1) 1 120 := ⟨by decide +kernel, rfl⟩
theorem dX10_layComing_120 : dn cX10_layComing 120 (.aload_n 0) 1 121 := ⟨by decide +kernel, rfl⟩
theorem dX10_layComing_121 : dn cX10_layComing 121 (.getfield 217) 3 124 := ⟨by decide +kernel, rfl⟩
theorem dX10_layComing_124 : dn cX10_layComing 124 (.isub) 1 125 := ⟨by decide +kernel, rfl⟩
theorem dX10_layComing_125 : dn cX10_layComing 125 (.iload_n 3) 1 126 := ⟨by decide +kernel, rfl⟩
theorem dX10_layComing_126 : dn cX10_layComing 126 (.iload 4) 2 128 := ⟨by decide +kernel, rfl⟩
theorem dX10_layComing_128 : dn cX10_layComing 128 (.iadd) 1 129 := ⟨by decide +kernel, rfl⟩
theorem dX10_layComing_129 : dn cX10_layComing 129 (.invokevirtual 155) 3 132 := ⟨by decide +kernel, rfl⟩
theorem dX10_layComing_132 : dn cX10_layComing 132 (.iastore) 1 133 := ⟨by decide +kernel, rfl⟩
theorem dX10_layComing_133 : dn cX10_layComing 133 (.return_) 1 134 := ⟨by decide +kernel, rfl⟩
theorem dX10_mend_0 : dn cX10_mend 0 (.aload_n 0) 1 1 := ⟨by decide +kernel, rfl⟩
theorem dX10_mend_1 : dn cX10_mend 1 (.iload_n 1) 1 2 := ⟨by decide +kernel, rfl⟩
theorem dX10_mend_2 : dn cX10_mend 2 (.invokevirtual 198) 3 5 := ⟨by decide +kernel, rfl⟩
theorem dX10_mend_5 : db cX10_mend 5 (.ifCond .ne 5) 3 8 (5) 10 := ⟨by decide +kernel, rfl, rfl⟩
theorem dX10_mend_8 : dn cX10_mend 8 (.iconst (-1)) 1 9 := ⟨by decide +kernel, rfl⟩
theorem dX10_mend_9 : dn cX10_mend 9 (.ireturn) 1 10 := ⟨by decide +kernel, rfl⟩
theorem dX10_mend_10 : dn cX10_mend 10 (.aload_n 0) 1 11 := ⟨by decide +kernel, rfl⟩
theorem dX10_mend_11 : dn cX10_mend 11 (.iload_n 1) 1 12 := ⟨by decide +kernel, rfl⟩
theorem dX10_mend_12 : dn cX10_mend 12 (.bipush (-6)) 2 14 := ⟨by decide +kernel, rfl⟩
theorem dX10_mend_14 : dn cX10_mend 14 (.invokevirtual 226) 3 17 := ⟨by decide +kernel, rfl⟩
theorem dX10_mend_17 : dn cX10_mend 17 (.aload_n 0) 1 18 := ⟨by decide +kernel, rfl⟩
theorem dX10_mend_18 : dn cX10_mend 18 (.getfield 211) 3 21 := ⟨by decide +kernel, rfl⟩
theorem dX10_mend_21 : dn cX10_mend 21 (.istore_n 2) 1 22 := ⟨by decide +kernel, rfl⟩
theorem dX10_mend_22 : dn cX10_mend 22 (.iload_n 2) 1 23 := ⟨by decide +kernel, rfl⟩
theorem dX10_mend_23 : db cX10_mend 23 (.ifCond .ne 6) 3 26 (6) 29 := ⟨by decide +kernel, rfl, rfl⟩
theorem dX10_mend_26 : dn cX10_mend 26 (.bipush (-5)) 2 28 := ⟨by decide +kernel, rfl⟩
theorem dX10_mend_28 : dn cX10_mend 28 (.ireturn) 1 29 := ⟨by decide +kernel, rfl⟩
theorem dX10_mend_29 : dn cX10_mend 29 (.aload_n 0) 1 30 := ⟨by decide +kernel, rfl⟩
theorem dX10_mend_30 : dn cX10_mend 30 (.getfield 80) 3 33 := ⟨by decide +kernel, rfl⟩
theorem dX10_mend_33 : dn cX10_mend 33 (.iload_n 2) 1 34 := ⟨by decide +kernel, rfl⟩
theorem dX10_mend_34 : dn cX10_mend 34 (.iadd) 1 35 := ⟨by decide +kernel, rfl⟩
theorem dX10_mend_35 : dn cX10_mend 35 (.bipush 24) 2 37 := ⟨by decide +kernel, rfl⟩
theorem dX10_mend_37 : db cX10_mend 37 (.if_icmp .le 6) 3 40 (6) 43 := ⟨by decide +kernel, rfl, rfl⟩
theorem dX10_mend_40 : dn cX10_mend 40 (.bipush (-4)) 2 42 := ⟨by decide +kernel, rfl⟩
theorem dX10_mend_42 : dn cX10_mend 42 (.ireturn) 1 43 := ⟨by decide +kernel, rfl⟩
theorem dX10_mend_43 : dn cX10_mend 43 (.iconst 0) 1 44 := ⟨by decide +kernel, rfl⟩
theorem dX10_mend_44 : dn cX10_mend 44 (.istore_n 3) 1 45 := ⟨by decide +kernel, rfl⟩
theorem dX10_mend_45 : dn cX10_mend 45 (.iload_n 3) 1 46 := ⟨by decide +kernel, rfl⟩
theorem dX10_mend_46 : dn cX10_mend 46 (.iload_n 2) 1 47 := ⟨by decide +kernel, rfl⟩
theorem dX10_mend_47 : db cX10_mend 47 (.if_icmp .ge 15) 3 50 (15) 62 := ⟨by decide +kernel, rfl, rfl⟩
theorem dX10_mend_50 : dn cX10_mend 50 (.aload_n 0) 1 51 := ⟨by decide +kernel, rfl⟩
theorem dX10_mend_51 : dn cX10_mend 51 (.iload_n 1) 1 52 := ⟨by decide +kernel, rfl⟩
theorem dX10_mend_52 : dn cX10_mend 52 (.iload_n 3) 1 53 := ⟨by decide +kernel, rfl⟩
theorem dX10_mend_53 : dn cX10_mend 53 (.invokevirtual 229) 3 56 := ⟨by decide +kernel, rfl⟩
theorem dX10_mend_56 : dn cX10_mend 56 (.iinc 3 1) 3 59 := ⟨by decide +kernel, rfl⟩
theorem dX10_mend_59 : db cX10_mend 59 (.goto (-14)) 3 62 (-14) 45 := ⟨by decide +kernel, rfl, rfl⟩
theorem dX10_mend_62 : dn cX10_mend 62 (.iconst 0) 1 63 := ⟨by decide +kernel, rfl⟩
theorem dX10_mend_63 : dn cX10_mend 63 (.istore_n 3) 1 64 := ⟨by decide +kernel, rfl⟩
theorem dX10_mend_64 : dn cX10_mend 64 (.iload_n 3) 1 65 := ⟨by decide +kernel, rfl⟩
theorem dX10_mend_65 : dn cX10_mend 65 (.iload_n 2) 1 66 := ⟨by decide +kernel, rfl⟩
theorem dX10_mend_66 : db cX10_mend 66 (.if_icmp .ge 51) 3 69 (51) 117 := ⟨by decide +kernel, rfl, rfl⟩
theorem dX10_mend_69 : dn cX10_mend 69 (.aload_n 0) 1 70 := ⟨by decide +kernel, rfl⟩
theorem dX10_mend_70 : dn cX10_mend 70 (.aload_n 0) 1 71 := ⟨by decide +kernel, rfl⟩
theorem dX10_mend_71 : dn cX10_mend 71 (.getfield 52) 3 74 := ⟨by decide +kernel, rfl⟩
theorem dX10_mend_74 : dn cX10_mend 74 (.iconst 4) 1 75 := ⟨by decide +kernel, rfl⟩
theorem dX10_mend_75 : dn cX10_mend 75 (.iload_n 3) 1 76 := ⟨by decide +kernel, rfl⟩
theorem dX10_mend_76 : dn cX10_mend 76 (.imul) 1 77 := ⟨by decide +kernel, rfl⟩
theorem dX10_mend_77 : dn cX10_mend 77 (.iaload) 1 78 := ⟨by decide +kernel, rfl⟩
theorem dX10_mend_78 : dn cX10_mend 78 (.aload_n 0) 1 79 := ⟨by decide +kernel, rfl⟩
theorem dX10_mend_79 : dn cX10_mend 79 (.getfield 52) 3 82 := ⟨by decide +kernel, rfl⟩
theorem dX10_mend_82 : dn cX10_mend 82 (.iconst 4) 1 83 := ⟨by decide +kernel, rfl⟩
theorem dX10_mend_83 : dn cX10_mend 83 (.iload_n 3) 1 84 := ⟨by decide +kernel, rfl⟩
theorem dX10_mend_84 : dn cX10_mend 84 (.imul) 1 85 := ⟨by decide +kernel, rfl⟩
theorem dX10_mend_85 : dn cX10_mend 85 (.iconst 1) 1 86 := ⟨by decide +kernel, rfl⟩
theorem dX10_mend_86 : dn cX10_mend 86 (.iadd) 1 87 := ⟨by decide +kernel, rfl⟩
theorem dX10_mend_87 : dn cX10_mend 87 (.iaload) 1 88 := ⟨by decide +kernel, rfl⟩
theorem dX10_mend_88 : dn cX10_mend 88 (.aload_n 0) 1 89 := ⟨by decide +kernel, rfl⟩
theorem dX10_mend_89 : dn cX10_mend 89 (.getfield 52) 3 92 := ⟨by decide +kernel, rfl⟩
theorem dX10_mend_92 : dn cX10_mend 92 (.iconst 4) 1 93 := ⟨by decide +kernel, rfl⟩
theorem dX10_mend_93 : dn cX10_mend 93 (.iload_n 3) 1 94 := ⟨by decide +kernel, rfl⟩
theorem dX10_mend_94 : dn cX10_mend 94 (.imul) 1 95 := ⟨by decide +kernel, rfl⟩
theorem dX10_mend_95 : dn cX10_mend 95 (.iconst 2) 1 96 := ⟨by decide +kernel, rfl⟩
theorem dX10_mend_96 : dn cX10_mend 96 (.iadd) 1 97 := ⟨by decide +kernel, rfl⟩
theorem dX10_mend_97 : dn cX10_mend 97 (.iaload) 1 98 := ⟨by decide +kernel, rfl⟩
theorem dX10_mend_98 : dn cX10_mend 98 (.aload_n 0) 1 99 := ⟨by decide +kernel, rfl⟩
theorem dX10_mend_99 : dn cX10_mend 99 (.getfield 52) 3 102 := ⟨by decide +kernel, rfl⟩
theorem dX10_mend_102 : dn cX10_mend 102 (.iconst 4) 1 103 := ⟨by decide +kernel, rfl⟩
theorem dX10_mend_103 : dn cX10_mend 103 (.iload_n 3) 1 104 := ⟨by decide +kernel, rfl⟩
theorem dX10_mend_104 : dn cX10_mend 104 (.imul) 1 105 := ⟨by decide +kernel, rfl⟩
theorem dX10_mend_105 : dn cX10_mend 105 (.iconst 3) 1 106 := ⟨by decide +kernel, rfl⟩
theorem dX10_mend_106 : dn cX10_mend 106 (.iadd) 1 107 := ⟨by decide +kernel, rfl⟩
theorem dX10_mend_107 : dn cX10_mend 107 (.iaload) 1 108 := ⟨by decide +kernel, rfl⟩
theorem dX10_mend_108 : dn cX10_mend 108 (.invokevirtual 88) 3 111 := ⟨by decide +kernel, rfl⟩
theorem dX10_mend_111 : dn cX10_mend 111 (.iinc 3 1) 3 114 := ⟨by decide +kernel, rfl⟩
theorem dX10_mend_114 : db cX10_mend 114 (.goto (-50)) 3 117 (-50) 64 := ⟨by decide +kernel, rfl, rfl⟩
theorem dX10_mend_117 : dn cX10_mend 117 (.aload_n 0) 1 118 := ⟨by decide +kernel, rfl⟩
theorem dX10_mend_118 : dn cX10_mend 118 (.getfield 80) 3 121 := ⟨by decide +kernel, rfl⟩
theorem dX10_mend_121 : dn cX10_mend 121 (.ireturn) 1 122 := ⟨by decide +kernel, rfl⟩
theorem dX10_isNarrow_0 : dn cX10_isNarrow 0 (.iconst 1) 1 1 := ⟨by decide +kernel, rfl⟩
theorem dX10_isNarrow_1 : dn cX10_isNarrow 1 (.istore_n 3) 1 2 := ⟨by decide +kernel, rfl⟩
theorem dX10_isNarrow_2 : dn cX10_isNarrow 2 (.iconst 0) 1 3 := ⟨by decide +kernel, rfl⟩
theorem dX10_isNarrow_3 : dn cX10_isNarrow 3 (.istore 4) 2 5 := ⟨by decide +kernel, rfl⟩
theorem dX10_isNarrow_5 : dn cX10_isNarrow 5 (.iload 4) 2 7 := ⟨by decide +kernel, rfl⟩
theorem dX10_isNarrow_7 : dn cX10_isNarrow 7 (.aload_n 0) 1 8 := ⟨by decide +kernel, rfl⟩
theorem dX10_isNarrow_8 : dn cX10_isNarrow 8 (.iload_n 1) 1 9 := ⟨by decide +kernel, rfl⟩
theorem dX10_isNarrow_9 : dn cX10_isNarrow 9 (.invokevirtual 152) 3 12 := ⟨by decide +kernel, rfl⟩
theorem dX10_isNarrow_12 : db cX10_isNarrow 12 (.if_icmp .ge 50) 3 15 (50) 62 := ⟨by decide +kernel, rfl, rfl⟩
theorem dX10_isNarrow_15 : dn cX10_isNarrow 15 (.iload_n 3) 1 16 := ⟨by decide +kernel, rfl⟩
theorem dX10_isNarrow_16 : db cX10_isNarrow 16 (.ifCond .eq 38) 3 19 (38) 54 := ⟨by decide +kernel, rfl, rfl⟩
theorem dX10_isNarrow_19 : dn cX10_isNarrow 19 (.aload_n 0) 1 20 := ⟨by decide +kernel, rfl⟩
theorem dX10_isNarrow_20 : dn cX10_isNarrow 20 (.aload_n 0) 1 21 := ⟨by decide +kernel, rfl⟩
theorem dX10_isNarrow_21 : dn cX10_isNarrow 21 (.getfield 40) 3 24 := ⟨by decide +kernel, rfl⟩
theorem dX10_isNarrow_24 : dn cX10_isNarrow 24 (.aload_n 0) 1 25 := ⟨by decide +kernel, rfl⟩
theorem dX10_isNarrow_25 : dn cX10_isNarrow 25 (.getfield 34) 3 28 := ⟨by decide +kernel, rfl⟩
theorem dX10_isNarrow_28 : dn cX10_isNarrow 28 (.iload_n 1) 1 29 := ⟨by decide +kernel, rfl⟩
theorem dX10_isNarrow_29 : dn cX10_isNarrow 29 (.iaload) 1 30 := ⟨by decide +kernel, rfl⟩
theorem dX10_isNarrow_30 : dn cX10_isNarrow 30 (.iload_n 2) 1 31 := ⟨by decide +kernel, rfl⟩
theorem dX10_isNarrow_31 : dn cX10_isNarrow 31 (.aload_n 0) 1 32 := ⟨by decide +kernel, rfl⟩
theorem dX10_isNarrow_32 : dn cX10_isNarrow 32 (.iload_n 1) 1 33 := ⟨by decide +kernel, rfl⟩
theorem dX10_isNarrow_33 : dn cX10_isNarrow 33 (.invokevirtual 152) 3 36 := ⟨by decide +kernel, rfl⟩
theorem dX10_isNarrow_36 : dn cX10_isNarrow 36 (.imul) 1 37 := ⟨by decide +kernel, rfl⟩
theorem dX10_isNarrow_37 : dn cX10_isNarrow 37 (.iadd) 1 38 := ⟨by decide +kernel, rfl⟩
theorem dX10_isNarrow_38 : dn cX10_isNarrow 38 (.iload 4) 2 40 := ⟨by decide +kernel, rfl⟩
theorem dX10_isNarrow_40 : dn cX10_isNarrow 40 (.iadd) 1 41 := ⟨by decide +kernel, rfl⟩
theorem dX10_isNarrow_41 : dn cX10_isNarrow 41 (.iaload) 1 42 := ⟨by decide +kernel, rfl⟩
theorem dX10_isNarrow_42 : dn cX10_isNarrow 42 (.iconst 3) 1 43 := ⟨by decide +kernel, rfl⟩
theorem dX10_isNarrow_43 : dn cX10_isNarrow 43 (.invokevirtual 174) 3 46 := ⟨by decide +kernel, rfl⟩
theorem dX10_isNarrow_46 : dn cX10_isNarrow 46 (.iconst 1) 1 47 := ⟨by decide +kernel, rfl⟩
theorem dX10_isNarrow_47 : db cX10_isNarrow 47 (.if_icmp .ne 7) 3 50 (7) 54 := ⟨by decide +kernel, rfl, rfl⟩
theorem dX10_isNarrow_50 : dn cX10_isNarrow 50 (.iconst 1) 1 51 := ⟨by decide +kernel, rfl⟩
theorem dX10_isNarrow_51 : db cX10_isNarrow 51 (.goto 4) 3 54 (4) 55 := ⟨by decide +kernel, rfl, rfl⟩
theorem dX10_isNarrow_54 : dn cX10_isNarrow 54 (.iconst 0) 1 55 := ⟨by decide +kernel, rfl⟩
theorem dX10_isNarrow_55 : dn cX10_isNarrow 55 (.istore_n 3) 1 56 := ⟨by decide +kernel, rfl⟩
theorem dX10_isNarrow_56 : dn cX10_isNarrow 56 (.iinc 4 1) 3 59 := ⟨by decide +kernel, rfl⟩
theorem dX10_isNarrow_59 : db cX10_isNarrow 59 (.goto (-54)) 3 62 (-54) 5 := ⟨by decide +kernel, rfl, rfl⟩
theorem dX10_isNarrow_62 : dn cX10_isNarrow 62 (.iload_n 3) 1 63 := ⟨by decide +kernel, rfl⟩
theorem dX10_isNarrow_63 : dn cX10_isNarrow 63 (.ireturn) 1 64 := ⟨by decide +kernel, rfl⟩
theorem dX10_headsOf_0 : dn cX10_headsOf 0 (.iconst 0) 1 1 := ⟨by decide +kernel, rfl⟩
theorem dX10_headsOf_1 : dn cX10_headsOf 1 (.istore_n 2) 1 2 := ⟨by decide +kernel, rfl⟩
theorem dX10_headsOf_2 : dn cX10_headsOf 2 (.iload_n 2) 1 3 := ⟨by decide +kernel, rfl⟩
theorem dX10_headsOf_3 : dn cX10_headsOf 3 (.aload_n 0) 1 4 := ⟨by decide +kernel, rfl⟩
theorem dX10_headsOf_4 : dn cX10_headsOf 4 (.iload_n 1) 1 5 := ⟨by decide +kernel, rfl⟩
theorem dX10_headsOf_5 : dn cX10_headsOf 5 (.invokevirtual 148) 3 8 := ⟨by decide +kernel, rfl⟩
theorem dX10_headsOf_8 : db cX10_headsOf 8 (.if_icmp .ge 18) 3 11 (18) 26 := ⟨by decide +kernel, rfl, rfl⟩
theorem dX10_headsOf_11 : dn cX10_headsOf 11 (.aload_n 0) 1 12 := ⟨by decide +kernel, rfl⟩
theorem dX10_headsOf_12 : dn cX10_headsOf 12 (.iload_n 1) 1 13 := ⟨by decide +kernel, rfl⟩
theorem dX10_headsOf_13 : dn cX10_headsOf 13 (.iload_n 2) 1 14 := ⟨by decide +kernel, rfl⟩
theorem dX10_headsOf_14 : dn cX10_headsOf 14 (.invokevirtual 232) 3 17 := ⟨by decide +kernel, rfl⟩
theorem dX10_headsOf_17 : db cX10_headsOf 17 (.ifCond .ne 9) 3 20 (9) 26 := ⟨by decide +kernel, rfl, rfl⟩
theorem dX10_headsOf_20 : dn cX10_headsOf 20 (.iinc 2 1) 3 23 := ⟨by decide +kernel, rfl⟩
theorem dX10_headsOf_23 : db cX10_headsOf 23 (.goto (-21)) 3 26 (-21) 2 := ⟨by decide +kernel, rfl, rfl⟩
theorem dX10_headsOf_26 : dn cX10_headsOf 26 (.iload_n 2) 1 27 := ⟨by decide +kernel, rfl⟩
theorem dX10_headsOf_27 : dn cX10_headsOf 27 (.iconst 1) 1 28 := ⟨by decide +kernel, rfl⟩
theorem dX10_headsOf_28 : dn cX10_headsOf 28 (.iadd) 1 29 := ⟨by decide +kernel, rfl⟩
theorem dX10_headsOf_29 : dn cX10_headsOf 29 (.aload_n 0) 1 30 := ⟨by decide +kernel, rfl⟩
theorem dX10_headsOf_30 : dn cX10_headsOf 30 (.iload_n 1) 1 31 := ⟨by decide +kernel, rfl⟩
theorem dX10_headsOf_31 : dn cX10_headsOf 31 (.invokevirtual 148) 3 34 := ⟨by decide +kernel, rfl⟩
theorem dX10_headsOf_34 : dn cX10_headsOf 34 (.iconst 1) 1 35 := ⟨by decide +kernel, rfl⟩
theorem dX10_headsOf_35 : dn cX10_headsOf 35 (.isub) 1 36 := ⟨by decide +kernel, rfl⟩
theorem dX10_headsOf_36 : dn cX10_headsOf 36 (.invokestatic 102) 3 39 := ⟨by decide +kernel, rfl⟩
theorem dX10_headsOf_39 : dn cX10_headsOf 39 (.ireturn) 1 40 := ⟨by decide +kernel, rfl⟩
theorem dX10_rulesOf_0 : dn cX10_rulesOf 0 (.iconst 0) 1 1 := ⟨by decide +kernel, rfl⟩
theorem dX10_rulesOf_1 : dn cX10_rulesOf 1 (.istore_n 2) 1 2 := ⟨by decide +kernel, rfl⟩
theorem dX10_rulesOf_2 : dn cX10_rulesOf 2 (.iconst 0) 1 3 := ⟨by decide +kernel, rfl⟩
theorem dX10_rulesOf_3 : dn cX10_rulesOf 3 (.istore_n 3) 1 4 := ⟨by decide +kernel, rfl⟩
theorem dX10_rulesOf_4 : dn cX10_rulesOf 4 (.iload_n 3) 1 5 := ⟨by decide +kernel, rfl⟩
theorem dX10_rulesOf_5 : dn cX10_rulesOf 5 (.aload_n 0) 1 6 := ⟨by decide +kernel, rfl⟩
theorem dX10_rulesOf_6 : dn cX10_rulesOf 6 (.getfield 105) 3 9 := ⟨by decide +kernel, rfl⟩
theorem dX10_rulesOf_9 : db cX10_rulesOf 9 (.if_icmp .ge 28) 3 12 (28) 37 := ⟨by decide +kernel, rfl, rfl⟩
theorem dX10_rulesOf_12 : dn cX10_rulesOf 12 (.iload_n 2) 1 13 := ⟨by decide +kernel, rfl⟩
theorem dX10_rulesOf_13 : dn cX10_rulesOf 13 (.aload_n 0) 1 14 := ⟨by decide +kernel, rfl⟩
theorem dX10_rulesOf_14 : dn cX10_rulesOf 14 (.iload_n 3) 1 15 := ⟨by decide +kernel, rfl⟩
theorem dX10_rulesOf_15 : dn cX10_rulesOf 15 (.bipush 6) 2 17 := ⟨by decide +kernel, rfl⟩
theorem dX10_rulesOf_17 : dn cX10_rulesOf 17 (.invokevirtual 108) 3 20 := ⟨by decide +kernel, rfl⟩
theorem dX10_rulesOf_20 : dn cX10_rulesOf 20 (.iload_n 1) 1 21 := ⟨by decide +kernel, rfl⟩
theorem dX10_rulesOf_21 : db cX10_rulesOf 21 (.if_icmp .ne 7) 3 24 (7) 28 := ⟨by decide +kernel, rfl, rfl⟩
theorem dX10_rulesOf_24 : dn cX10_rulesOf 24 (.iconst 1) 1 25 := ⟨by decide +kernel, rfl⟩
theorem dX10_rulesOf_25 : db cX10_rulesOf 25 (.goto 4) 3 28 (4) 29 := ⟨by decide +kernel, rfl, rfl⟩
theorem dX10_rulesOf_28 : dn cX10_rulesOf 28 (.iconst 0) 1 29 := ⟨by decide +kernel, rfl⟩
theorem dX10_rulesOf_29 : dn cX10_rulesOf 29 (.iadd) 1 30 := ⟨by decide +kernel, rfl⟩
theorem dX10_rulesOf_30 : dn cX10_rulesOf 30 (.istore_n 2) 1 31 := ⟨by decide +kernel, rfl⟩
theorem dX10_rulesOf_31 : dn cX10_rulesOf 31 (.iinc 3 1) 3 34 := ⟨by decide +kernel, rfl⟩
theorem dX10_rulesOf_34 : db cX10_rulesOf 34 (.goto (-30)) 3 37 (-30) 4 := ⟨by decide +kernel, rfl, rfl⟩
theorem dX10_rulesOf_37 : dn cX10_rulesOf 37 (.iload_n 2) 1 38 := ⟨by decide +kernel, rfl⟩
theorem dX10_rulesOf_38 : dn cX10_rulesOf 38 (.ireturn) 1 39 := ⟨by decide +kernel, rfl⟩
theorem dX10_wordsOf_0 : dn cX10_wordsOf 0 (.iconst 0) 1 1 := ⟨by decide +kernel, rfl⟩
theorem dX10_wordsOf_1 : dn cX10_wordsOf 1 (.istore_n 2) 1 2 := ⟨by decide +kernel, rfl⟩
theorem dX10_wordsOf_2 : dn cX10_wordsOf 2 (.iconst 0) 1 3 := ⟨by decide +kernel, rfl⟩
theorem dX10_wordsOf_3 : dn cX10_wordsOf 3 (.istore_n 3) 1 4 := ⟨by decide +kernel, rfl⟩
theorem dX10_wordsOf_4 : dn cX10_wordsOf 4 (.iload_n 3) 1 5 := ⟨by decide +kernel, rfl⟩
theorem dX10_wordsOf_5 : dn cX10_wordsOf 5 (.aload_n 0) 1 6 := ⟨by decide +kernel, rfl⟩
theorem dX10_wordsOf_6 : dn cX10_wordsOf 6 (.getfield 92) 3 9 := ⟨by decide +kernel, rfl⟩
theorem dX10_wordsOf_9 : db cX10_wordsOf 9 (.if_icmp .ge 27) 3 12 (27) 36 := ⟨by decide +kernel, rfl, rfl⟩
theorem dX10_wordsOf_12 : dn cX10_wordsOf 12 (.iload_n 2) 1 13 := ⟨by decide +kernel, rfl⟩
theorem dX10_wordsOf_13 : dn cX10_wordsOf 13 (.aload_n 0) 1 14 := ⟨by decide +kernel, rfl⟩
theorem dX10_wordsOf_14 : dn cX10_wordsOf 14 (.getfield 46) 3 17 := ⟨by decide +kernel, rfl⟩
theorem dX10_wordsOf_17 : dn cX10_wordsOf 17 (.iload_n 3) 1 18 := ⟨by decide +kernel, rfl⟩
theorem dX10_wordsOf_18 : dn cX10_wordsOf 18 (.iaload) 1 19 := ⟨by decide +kernel, rfl⟩
theorem dX10_wordsOf_19 : dn cX10_wordsOf 19 (.iload_n 1) 1 20 := ⟨by decide +kernel, rfl⟩
theorem dX10_wordsOf_20 : db cX10_wordsOf 20 (.if_icmp .ne 7) 3 23 (7) 27 := ⟨by decide +kernel, rfl, rfl⟩
theorem dX10_wordsOf_23 : dn cX10_wordsOf 23 (.iconst 1) 1 24 := ⟨by decide +kernel, rfl⟩
theorem dX10_wordsOf_24 : db cX10_wordsOf 24 (.goto 4) 3 27 (4) 28 := ⟨by decide +kernel, rfl, rfl⟩
theorem dX10_wordsOf_27 : dn cX10_wordsOf 27 (.iconst 0) 1 28 := ⟨by decide +kernel, rfl⟩
theorem dX10_wordsOf_28 : dn cX10_wordsOf 28 (.iadd) 1 29 := ⟨by decide +kernel, rfl⟩
theorem dX10_wordsOf_29 : dn cX10_wordsOf 29 (.istore_n 2) 1 30 := ⟨by decide +kernel, rfl⟩
theorem dX10_wordsOf_30 : dn cX10_wordsOf 30 (.iinc 3 1) 3 33 := ⟨by decide +kernel, rfl⟩
theorem dX10_wordsOf_33 : db cX10_wordsOf 33 (.goto (-29)) 3 36 (-29) 4 := ⟨by decide +kernel, rfl, rfl⟩
theorem dX10_wordsOf_36 : dn cX10_wordsOf 36 (.iload_n 2) 1 37 := ⟨by decide +kernel, rfl⟩
theorem dX10_wordsOf_37 : dn cX10_wordsOf 37 (.ireturn) 1 38 := ⟨by decide +kernel, rfl⟩
theorem dX10_wholeOf_0 : dn cX10_wholeOf 0 (.iconst 0) 1 1 := ⟨by decide +kernel, rfl⟩
theorem dX10_wholeOf_1 : dn cX10_wholeOf 1 (.istore_n 2) 1 2 := ⟨by decide +kernel, rfl⟩
theorem dX10_wholeOf_2 : dn cX10_wholeOf 2 (.aload_n 0) 1 3 := ⟨by decide +kernel, rfl⟩
theorem dX10_wholeOf_3 : dn cX10_wholeOf 3 (.getfield 37) 3 6 := ⟨by decide +kernel, rfl⟩
theorem dX10_wholeOf_6 : dn cX10_wholeOf 6 (.iload_n 1) 1 7 := ⟨by decide +kernel, rfl⟩
theorem dX10_wholeOf_7 : dn cX10_wholeOf 7 (.iaload) 1 8 := ⟨by decide +kernel, rfl⟩
theorem dX10_wholeOf_8 : dn cX10_wholeOf 8 (.istore_n 3) 1 9 := ⟨by decide +kernel, rfl⟩
theorem dX10_wholeOf_9 : dn cX10_wholeOf 9 (.iload_n 3) 1 10 := ⟨by decide +kernel, rfl⟩
theorem dX10_wholeOf_10 : dn cX10_wholeOf 10 (.aload_n 0) 1 11 := ⟨by decide +kernel, rfl⟩
theorem dX10_wholeOf_11 : dn cX10_wholeOf 11 (.getfield 37) 3 14 := ⟨by decide +kernel, rfl⟩
theorem dX10_wholeOf_14 : dn cX10_wholeOf 14 (.iload_n 1) 1 15 := ⟨by decide +kernel, rfl⟩
theorem dX10_wholeOf_15 : dn cX10_wholeOf 15 (.iconst 1) 1 16 := ⟨by decide +kernel, rfl⟩
theorem dX10_wholeOf_16 : dn cX10_wholeOf 16 (.iadd) 1 17 := ⟨by decide +kernel, rfl⟩
theorem dX10_wholeOf_17 : dn cX10_wholeOf 17 (.iaload) 1 18 := ⟨by decide +kernel, rfl⟩
theorem dX10_wholeOf_18 : db cX10_wholeOf 18 (.if_icmp .ge 26) 3 21 (26) 44 := ⟨by decide +kernel, rfl, rfl⟩
theorem dX10_wholeOf_21 : dn cX10_wholeOf 21 (.iload_n 2) 1 22 := ⟨by decide +kernel, rfl⟩
theorem dX10_wholeOf_22 : dn cX10_wholeOf 22 (.aload_n 0) 1 23 := ⟨by decide +kernel, rfl⟩
theorem dX10_wholeOf_23 : dn cX10_wholeOf 23 (.iload_n 3) 1 24 := ⟨by decide +kernel, rfl⟩
theorem dX10_wholeOf_24 : dn cX10_wholeOf 24 (.iconst 5) 1 25 := ⟨by decide +kernel, rfl⟩
theorem dX10_wholeOf_25 : dn cX10_wholeOf 25 (.invokevirtual 174) 3 28 := ⟨by decide +kernel, rfl⟩
theorem dX10_wholeOf_28 : db cX10_wholeOf 28 (.ifCond .ne 7) 3 31 (7) 35 := ⟨by decide +kernel, rfl, rfl⟩
theorem dX10_wholeOf_31 : dn cX10_wholeOf 31 (.iconst 1) 1 32 := ⟨by decide +kernel, rfl⟩
theorem dX10_wholeOf_32 : db cX10_wholeOf 32 (.goto 4) 3 35 (4) 36 := ⟨by decide +kernel, rfl, rfl⟩
theorem dX10_wholeOf_35 : dn cX10_wholeOf 35 (.iconst 0) 1 36 := ⟨by decide +kernel, rfl⟩
theorem dX10_wholeOf_36 : dn cX10_wholeOf 36 (.iadd) 1 37 := ⟨by decide +kernel, rfl⟩
theorem dX10_wholeOf_37 : dn cX10_wholeOf 37 (.istore_n 2) 1 38 := ⟨by decide +kernel, rfl⟩
theorem dX10_wholeOf_38 : dn cX10_wholeOf 38 (.iinc 3 1) 3 41 := ⟨by decide +kernel, rfl⟩
theorem dX10_wholeOf_41 : db cX10_wholeOf 41 (.goto (-32)) 3 44 (-32) 9 := ⟨by decide +kernel, rfl, rfl⟩
theorem dX10_wholeOf_44 : dn cX10_wholeOf 44 (.iload_n 2) 1 45 := ⟨by decide +kernel, rfl⟩
theorem dX10_wholeOf_45 : dn cX10_wholeOf 45 (.ireturn) 1 46 := ⟨by decide +kernel, rfl⟩
theorem dX10_table_0 : dn cX10_table 0 (.aload_n 0) 1 1 := ⟨by decide +kernel, rfl⟩
theorem dX10_table_1 : dn cX10_table 1 (.iload_n 1) 1 2 := ⟨by decide +kernel, rfl⟩
theorem dX10_table_2 : dn cX10_table 2 (.invokevirtual 198) 3 5 := ⟨by decide +kernel, rfl⟩
theorem dX10_table_5 : db cX10_table 5 (.ifCond .ne 5) 3 8 (5) 10 := ⟨by decide +kernel, rfl, rfl⟩
theorem dX10_table_8 : dn cX10_table 8 (.iconst (-1)) 1 9 := ⟨by decide +kernel, rfl⟩
theorem dX10_table_9 : dn cX10_table 9 (.ireturn) 1 10 := ⟨by decide +kernel, rfl⟩
theorem dX10_table_10 : dn cX10_table 10 (.iload_n 2) 1 11 := ⟨by decide +kernel, rfl⟩
theorem dX10_table_11 : decode cX10_table 11 = .ok (.tableswitch 109 0 7 #[45, 51, 57, 73, 79, 85, 91, 103], 45) := by decide +kernel
theorem dX10_table_56 : dn cX10_table 56 (.aload_n 0) 1 57 := ⟨by decide +kernel, rfl⟩
theorem dX10_table_57 : dn cX10_table 57 (.iload_n 1) 1 58 := ⟨by decide +kernel, rfl⟩
theorem dX10_table_58 : dn cX10_table 58 (.invokevirtual 148) 3 61 := ⟨by decide +kernel, rfl⟩
theorem dX10_table_61 : dn cX10_table 61 (.ireturn) 1 62 := ⟨by decide +kernel, rfl⟩
theorem dX10_table_62 : dn cX10_table 62 (.aload_n 0) 1 63 := ⟨by decide +kernel, rfl⟩
theorem dX10_table_63 : dn cX10_table 63 (.iload_n 1) 1 64 := ⟨by decide +kernel, rfl⟩
theorem dX10_table_64 : dn cX10_table 64 (.invokevirtual 152) 3 67 := ⟨by decide +kernel, rfl⟩
theorem dX10_table_67 : dn cX10_table 67 (.ireturn) 1 68 := ⟨by decide +kernel, rfl⟩
theorem dX10_table_68 : dn cX10_table 68 (.aload_n 0) 1 69 := ⟨by decide +kernel, rfl⟩
theorem dX10_table_69 : dn cX10_table 69 (.getfield 37) 3 72 := ⟨by decide +kernel, rfl⟩
theorem dX10_table_72 : dn cX10_table 72 (.iload_n 1) 1 73 := ⟨by decide +kernel, rfl⟩
theorem dX10_table_73 : dn cX10_table 73 (.iconst 1) 1 74 := ⟨by decide +kernel, rfl⟩
theorem dX10_table_74 : dn cX10_table 74 (.iadd) 1 75 := ⟨by decide +kernel, rfl⟩
theorem dX10_table_75 : dn cX10_table 75 (.iaload) 1 76 := ⟨by decide +kernel, rfl⟩
theorem dX10_table_76 : dn cX10_table 76 (.aload_n 0) 1 77 := ⟨by decide +kernel, rfl⟩
theorem dX10_table_77 : dn cX10_table 77 (.getfield 37) 3 80 := ⟨by decide +kernel, rfl⟩
theorem dX10_table_80 : dn cX10_table 80 (.iload_n 1) 1 81 := ⟨by decide +kernel, rfl⟩
theorem dX10_table_81 : dn cX10_table 81 (.iaload) 1 82 := ⟨by decide +kernel, rfl⟩
theorem dX10_table_82 : dn cX10_table 82 (.isub) 1 83 := ⟨by decide +kernel, rfl⟩
theorem dX10_table_83 : dn cX10_table 83 (.ireturn) 1 84 := ⟨by decide +kernel, rfl⟩
theorem dX10_table_84 : dn cX10_table 84 (.aload_n 0) 1 85 := ⟨by decide +kernel, rfl⟩
theorem dX10_table_85 : dn cX10_table 85 (.iload_n 1) 1 86 := ⟨by decide +kernel, rfl⟩
theorem dX10_table_86 : dn cX10_table 86 (.invokevirtual 235) 3 89 := ⟨by decide +kernel, rfl⟩
theorem dX10_table_89 : dn cX10_table 89 (.ireturn) 1 90 := ⟨by decide +kernel, rfl⟩
theorem dX10_table_90 : dn cX10_table 90 (.aload_n 0) 1 91 := ⟨by decide +kernel, rfl⟩
theorem dX10_table_91 : dn cX10_table 91 (.iload_n 1) 1 92 := ⟨by decide +kernel, rfl⟩
theorem dX10_table_92 : dn cX10_table 92 (.invokevirtual 238) 3 95 := ⟨by decide +kernel, rfl⟩
theorem dX10_table_95 : dn cX10_table 95 (.ireturn) 1 96 := ⟨by decide +kernel, rfl⟩
theorem dX10_table_96 : dn cX10_table 96 (.aload_n 0) 1 97 := ⟨by decide +kernel, rfl⟩
theorem dX10_table_97 : dn cX10_table 97 (.iload_n 1) 1 98 := ⟨by decide +kernel, rfl⟩
theorem dX10_table_98 : dn cX10_table 98 (.invokevirtual 241) 3 101 := ⟨by decide +kernel, rfl⟩
theorem dX10_table_101 : dn cX10_table 101 (.ireturn) 1 102 := ⟨by decide +kernel, rfl⟩
theorem dX10_table_102 : dn cX10_table 102 (.aload_n 0) 1 103 := ⟨by decide +kernel, rfl⟩
theorem dX10_table_103 : dn cX10_table 103 (.iload_n 1) 1 104 := ⟨by decide +kernel, rfl⟩
theorem dX10_table_104 : dn cX10_table 104 (.bipush (-6)) 2 106 := ⟨by decide +kernel, rfl⟩
theorem dX10_table_106 : dn cX10_table 106 (.invokevirtual 226) 3 109 := ⟨by decide +kernel, rfl⟩
theorem dX10_table_109 : dn cX10_table 109 (.aload_n 0) 1 110 := ⟨by decide +kernel, rfl⟩
theorem dX10_table_110 : dn cX10_table 110 (.getfield 211) 3 113 := ⟨by decide +kernel, rfl⟩
theorem dX10_table_113 : dn cX10_table 113 (.ireturn) 1 114 := ⟨by decide +kernel, rfl⟩
theorem dX10_table_114 : dn cX10_table 114 (.aload_n 0) 1 115 := ⟨by decide +kernel, rfl⟩
theorem dX10_table_115 : dn cX10_table 115 (.iload_n 1) 1 116 := ⟨by decide +kernel, rfl⟩
theorem dX10_table_116 : dn cX10_table 116 (.invokevirtual 244) 3 119 := ⟨by decide +kernel, rfl⟩
theorem dX10_table_119 : dn cX10_table 119 (.ireturn) 1 120 := ⟨by decide +kernel, rfl⟩
theorem dX10_table_120 : dn cX10_table 120 (.bipush (-2)) 2 122 := ⟨by decide +kernel, rfl⟩
theorem dX10_table_122 : dn cX10_table 122 (.ireturn) 1 123 := ⟨by decide +kernel, rfl⟩
theorem dX10_edge_0 : dn cX10_edge 0 (.aload_n 0) 1 1 := ⟨by decide +kernel, rfl⟩
theorem dX10_edge_1 : dn cX10_edge 1 (.iload_n 1) 1 2 := ⟨by decide +kernel, rfl⟩
theorem dX10_edge_2 : dn cX10_edge 2 (.invokevirtual 198) 3 5 := ⟨by decide +kernel, rfl⟩
theorem dX10_edge_5 : db cX10_edge 5 (.ifCond .ne 5) 3 8 (5) 10 := ⟨by decide +kernel, rfl, rfl⟩
theorem dX10_edge_8 : dn cX10_edge 8 (.iconst (-1)) 1 9 := ⟨by decide +kernel, rfl⟩
theorem dX10_edge_9 : dn cX10_edge 9 (.ireturn) 1 10 := ⟨by decide +kernel, rfl⟩
theorem dX10_edge_10 : dn cX10_edge 10 (.iload_n 2) 1 11 := ⟨by decide +kernel, rfl⟩
theorem dX10_edge_11 : dn cX10_edge 11 (.i2l) 1 12 := ⟨by decide +kernel, rfl⟩
theorem dX10_edge_12 : dn cX10_edge 12 (.lconst 0) 1 13 := ⟨by decide +kernel, rfl⟩
theorem dX10_edge_13 : dn cX10_edge 13 (.lconst 1) 1 14 := ⟨by decide +kernel, rfl⟩
theorem dX10_edge_14 : dn cX10_edge 14 (.invokestatic 64) 3 17 := ⟨by decide +kernel, rfl⟩
theorem dX10_edge_17 : db cX10_edge 17 (.ifCond .ne 6) 3 20 (6) 23 := ⟨by decide +kernel, rfl, rfl⟩
theorem dX10_edge_20 : dn cX10_edge 20 (.bipush (-2)) 2 22 := ⟨by decide +kernel, rfl⟩
theorem dX10_edge_22 : dn cX10_edge 22 (.ireturn) 1 23 := ⟨by decide +kernel, rfl⟩
theorem dX10_edge_23 : dn cX10_edge 23 (.iload_n 3) 1 24 := ⟨by decide +kernel, rfl⟩
theorem dX10_edge_24 : dn cX10_edge 24 (.i2l) 1 25 := ⟨by decide +kernel, rfl⟩
theorem dX10_edge_25 : dn cX10_edge 25 (.lconst 0) 1 26 := ⟨by decide +kernel, rfl⟩
theorem dX10_edge_26 : dn cX10_edge 26 (.aload_n 0) 1 27 := ⟨by decide +kernel, rfl⟩
theorem dX10_edge_27 : dn cX10_edge 27 (.getfield 31) 3 30 := ⟨by decide +kernel, rfl⟩
theorem dX10_edge_30 : dn cX10_edge 30 (.iconst 2) 1 31 := ⟨by decide +kernel, rfl⟩
theorem dX10_edge_31 : dn cX10_edge 31 (.iload_n 1) 1 32 := ⟨by decide +kernel, rfl⟩
theorem dX10_edge_32 : dn cX10_edge 32 (.imul) 1 33 := ⟨by decide +kernel, rfl⟩
theorem dX10_edge_33 : dn cX10_edge 33 (.iload_n 2) 1 34 := ⟨by decide +kernel, rfl⟩
theorem dX10_edge_34 : dn cX10_edge 34 (.iadd) 1 35 := ⟨by decide +kernel, rfl⟩
theorem dX10_edge_35 : dn cX10_edge 35 (.iaload) 1 36 := ⟨by decide +kernel, rfl⟩
theorem dX10_edge_36 : dn cX10_edge 36 (.iconst 1) 1 37 := ⟨by decide +kernel, rfl⟩
theorem dX10_edge_37 : dn cX10_edge 37 (.isub) 1 38 := ⟨by decide +kernel, rfl⟩
theorem dX10_edge_38 : dn cX10_edge 38 (.i2l) 1 39 := ⟨by decide +kernel, rfl⟩
theorem dX10_edge_39 : dn cX10_edge 39 (.invokestatic 64) 3 42 := ⟨by decide +kernel, rfl⟩
theorem dX10_edge_42 : db cX10_edge 42 (.ifCond .eq 13) 3 45 (13) 55 := ⟨by decide +kernel, rfl, rfl⟩
theorem dX10_edge_45 : dn cX10_edge 45 (.aload_n 0) 1 46 := ⟨by decide +kernel, rfl⟩
theorem dX10_edge_46 : dn cX10_edge 46 (.iload_n 1) 1 47 := ⟨by decide +kernel, rfl⟩
theorem dX10_edge_47 : dn cX10_edge 47 (.iload_n 2) 1 48 := ⟨by decide +kernel, rfl⟩
theorem dX10_edge_48 : dn cX10_edge 48 (.iload_n 3) 1 49 := ⟨by decide +kernel, rfl⟩
theorem dX10_edge_49 : dn cX10_edge 49 (.invokevirtual 155) 3 52 := ⟨by decide +kernel, rfl⟩
theorem dX10_edge_52 : db cX10_edge 52 (.goto 5) 3 55 (5) 57 := ⟨by decide +kernel, rfl, rfl⟩
theorem dX10_edge_55 : dn cX10_edge 55 (.bipush (-6)) 2 57 := ⟨by decide +kernel, rfl⟩
theorem dX10_edge_57 : dn cX10_edge 57 (.ireturn) 1 58 := ⟨by decide +kernel, rfl⟩
theorem dX10_ruled_0 : dn cX10_ruled 0 (.aload_n 0) 1 1 := ⟨by decide +kernel, rfl⟩
theorem dX10_ruled_1 : dn cX10_ruled 1 (.iload_n 1) 1 2 := ⟨by decide +kernel, rfl⟩
theorem dX10_ruled_2 : dn cX10_ruled 2 (.invokevirtual 198) 3 5 := ⟨by decide +kernel, rfl⟩
theorem dX10_ruled_5 : db cX10_ruled 5 (.ifCond .ne 5) 3 8 (5) 10 := ⟨by decide +kernel, rfl, rfl⟩
theorem dX10_ruled_8 : dn cX10_ruled 8 (.iconst (-1)) 1 9 := ⟨by decide +kernel, rfl⟩
theorem dX10_ruled_9 : dn cX10_ruled 9 (.ireturn) 1 10 := ⟨by decide +kernel, rfl⟩
theorem dX10_ruled_10 : dn cX10_ruled 10 (.iload_n 2) 1 11 := ⟨by decide +kernel, rfl⟩
theorem dX10_ruled_11 : dn cX10_ruled 11 (.i2l) 1 12 := ⟨by decide +kernel, rfl⟩
theorem dX10_ruled_12 : dn cX10_ruled 12 (.lconst 0) 1 13 := ⟨by decide +kernel, rfl⟩
theorem dX10_ruled_13 : dn cX10_ruled 13 (.lconst 1) 1 14 := ⟨by decide +kernel, rfl⟩
theorem dX10_ruled_14 : dn cX10_ruled 14 (.invokestatic 64) 3 17 := ⟨by decide +kernel, rfl⟩
theorem dX10_ruled_17 : db cX10_ruled 17 (.ifCond .ne 6) 3 20 (6) 23 := ⟨by decide +kernel, rfl, rfl⟩
theorem dX10_ruled_20 : dn cX10_ruled 20 (.bipush (-2)) 2 22 := ⟨by decide +kernel, rfl⟩
theorem dX10_ruled_22 : dn cX10_ruled 22 (.ireturn) 1 23 := ⟨by decide +kernel, rfl⟩
theorem dX10_ruled_23 : dn cX10_ruled 23 (.aload_n 0) 1 24 := ⟨by decide +kernel, rfl⟩
theorem dX10_ruled_24 : dn cX10_ruled 24 (.iload_n 1) 1 25 := ⟨by decide +kernel, rfl⟩
theorem dX10_ruled_25 : dn cX10_ruled 25 (.iload_n 2) 1 26 := ⟨by decide +kernel, rfl⟩
theorem dX10_ruled_26 : dn cX10_ruled 26 (.iload_n 3) 1 27 := ⟨by decide +kernel, rfl⟩
theorem dX10_ruled_27 : dn cX10_ruled 27 (.iload 4) 2 29 := ⟨by decide +kernel, rfl⟩
theorem dX10_ruled_29 : dn cX10_ruled 29 (.invokevirtual 247) 3 32 := ⟨by decide +kernel, rfl⟩
theorem dX10_ruled_32 : db cX10_ruled 32 (.ifCond .ne 7) 3 35 (7) 39 := ⟨by decide +kernel, rfl, rfl⟩
theorem dX10_ruled_35 : dn cX10_ruled 35 (.iconst (-1)) 1 36 := ⟨by decide +kernel, rfl⟩
theorem dX10_ruled_36 : db cX10_ruled 36 (.goto 20) 3 39 (20) 56 := ⟨by decide +kernel, rfl, rfl⟩
theorem dX10_ruled_39 : dn cX10_ruled 39 (.aload_n 0) 1 40 := ⟨by decide +kernel, rfl⟩
theorem dX10_ruled_40 : dn cX10_ruled 40 (.iload_n 1) 1 41 := ⟨by decide +kernel, rfl⟩
theorem dX10_ruled_41 : dn cX10_ruled 41 (.iload_n 2) 1 42 := ⟨by decide +kernel, rfl⟩
theorem dX10_ruled_42 : dn cX10_ruled 42 (.iload_n 3) 1 43 := ⟨by decide +kernel, rfl⟩
theorem dX10_ruled_43 : dn cX10_ruled 43 (.iload 4) 2 45 := ⟨by decide +kernel, rfl⟩
theorem dX10_ruled_45 : dn cX10_ruled 45 (.invokevirtual 163) 3 48 := ⟨by decide +kernel, rfl⟩
theorem dX10_ruled_48 : db cX10_ruled 48 (.ifCond .eq 7) 3 51 (7) 55 := ⟨by decide +kernel, rfl, rfl⟩
theorem dX10_ruled_51 : dn cX10_ruled 51 (.iconst 1) 1 52 := ⟨by decide +kernel, rfl⟩
theorem dX10_ruled_52 : db cX10_ruled 52 (.goto 4) 3 55 (4) 56 := ⟨by decide +kernel, rfl, rfl⟩
theorem dX10_ruled_55 : dn cX10_ruled 55 (.iconst 0) 1 56 := ⟨by decide +kernel, rfl⟩
theorem dX10_ruled_56 : dn cX10_ruled 56 (.ireturn) 1 57 := ⟨by decide +kernel, rfl⟩
theorem dX10_at_0 : dn cX10_at 0 (.aload_n 0) 1 1 := ⟨by decide +kernel, rfl⟩
theorem dX10_at_1 : dn cX10_at 1 (.iload_n 1) 1 2 := ⟨by decide +kernel, rfl⟩
theorem dX10_at_2 : dn cX10_at 2 (.invokevirtual 198) 3 5 := ⟨by decide +kernel, rfl⟩
theorem dX10_at_5 : db cX10_at 5 (.ifCond .eq 37) 3 8 (37) 42 := ⟨by decide +kernel, rfl, rfl⟩
theorem dX10_at_8 : dn cX10_at 8 (.iload_n 2) 1 9 := ⟨by decide +kernel, rfl⟩
theorem dX10_at_9 : dn cX10_at 9 (.i2l) 1 10 := ⟨by decide +kernel, rfl⟩
theorem dX10_at_10 : dn cX10_at 10 (.lconst 0) 1 11 := ⟨by decide +kernel, rfl⟩
theorem dX10_at_11 : dn cX10_at 11 (.aload_n 0) 1 12 := ⟨by decide +kernel, rfl⟩
theorem dX10_at_12 : dn cX10_at 12 (.iload_n 1) 1 13 := ⟨by decide +kernel, rfl⟩
theorem dX10_at_13 : dn cX10_at 13 (.invokevirtual 148) 3 16 := ⟨by decide +kernel, rfl⟩
theorem dX10_at_16 : dn cX10_at 16 (.iconst 1) 1 17 := ⟨by decide +kernel, rfl⟩
theorem dX10_at_17 : dn cX10_at 17 (.isub) 1 18 := ⟨by decide +kernel, rfl⟩
theorem dX10_at_18 : dn cX10_at 18 (.i2l) 1 19 := ⟨by decide +kernel, rfl⟩
theorem dX10_at_19 : dn cX10_at 19 (.invokestatic 64) 3 22 := ⟨by decide +kernel, rfl⟩
theorem dX10_at_22 : db cX10_at 22 (.ifCond .eq 20) 3 25 (20) 42 := ⟨by decide +kernel, rfl, rfl⟩
theorem dX10_at_25 : dn cX10_at 25 (.iload_n 3) 1 26 := ⟨by decide +kernel, rfl⟩
theorem dX10_at_26 : dn cX10_at 26 (.i2l) 1 27 := ⟨by decide +kernel, rfl⟩
theorem dX10_at_27 : dn cX10_at 27 (.lconst 0) 1 28 := ⟨by decide +kernel, rfl⟩
theorem dX10_at_28 : dn cX10_at 28 (.aload_n 0) 1 29 := ⟨by decide +kernel, rfl⟩
theorem dX10_at_29 : dn cX10_at 29 (.iload_n 1) 1 30 := ⟨by decide +kernel, rfl⟩
theorem dX10_at_30 : dn cX10_at 30 (.invokevirtual 152) 3 33 := ⟨by decide +kernel, rfl⟩
theorem dX10_at_33 : dn cX10_at 33 (.iconst 1) 1 34 := ⟨by decide +kernel, rfl⟩
theorem dX10_at_34 : dn cX10_at 34 (.isub) 1 35 := ⟨by decide +kernel, rfl⟩
theorem dX10_at_35 : dn cX10_at 35 (.i2l) 1 36 := ⟨by decide +kernel, rfl⟩
theorem dX10_at_36 : dn cX10_at 36 (.invokestatic 64) 3 39 := ⟨by decide +kernel, rfl⟩
theorem dX10_at_39 : db cX10_at 39 (.ifCond .ne 5) 3 42 (5) 44 := ⟨by decide +kernel, rfl, rfl⟩
theorem dX10_at_42 : dn cX10_at 42 (.iconst (-1)) 1 43 := ⟨by decide +kernel, rfl⟩
theorem dX10_at_43 : dn cX10_at 43 (.ireturn) 1 44 := ⟨by decide +kernel, rfl⟩
theorem dX10_at_44 : dn cX10_at 44 (.aload_n 0) 1 45 := ⟨by decide +kernel, rfl⟩
theorem dX10_at_45 : dn cX10_at 45 (.getfield 40) 3 48 := ⟨by decide +kernel, rfl⟩
theorem dX10_at_48 : dn cX10_at 48 (.aload_n 0) 1 49 := ⟨by decide +kernel, rfl⟩
theorem dX10_at_49 : dn cX10_at 49 (.getfield 34) 3 52 := ⟨by decide +kernel, rfl⟩
theorem dX10_at_52 : dn cX10_at 52 (.iload_n 1) 1 53 := ⟨by decide +kernel, rfl⟩
theorem dX10_at_53 : dn cX10_at 53 (.iaload) 1 54 := ⟨by decide +kernel, rfl⟩
theorem dX10_at_54 : dn cX10_at 54 (.iload_n 2) 1 55 := ⟨by decide +kernel, rfl⟩
theorem dX10_at_55 : dn cX10_at 55 (.aload_n 0) 1 56 := ⟨by decide +kernel, rfl⟩
theorem dX10_at_56 : dn cX10_at 56 (.iload_n 1) 1 57 := ⟨by decide +kernel, rfl⟩
theorem dX10_at_57 : dn cX10_at 57 (.invokevirtual 152) 3 60 := ⟨by decide +kernel, rfl⟩
theorem dX10_at_60 : dn cX10_at 60 (.imul) 1 61 := ⟨by decide +kernel, rfl⟩
theorem dX10_at_61 : dn cX10_at 61 (.iadd) 1 62 := ⟨by decide +kernel, rfl⟩
theorem dX10_at_62 : dn cX10_at 62 (.iload_n 3) 1 63 := ⟨by decide +kernel, rfl⟩
theorem dX10_at_63 : dn cX10_at 63 (.iadd) 1 64 := ⟨by decide +kernel, rfl⟩
theorem dX10_at_64 : dn cX10_at 64 (.iaload) 1 65 := ⟨by decide +kernel, rfl⟩
theorem dX10_at_65 : dn cX10_at 65 (.aload_n 0) 1 66 := ⟨by decide +kernel, rfl⟩
theorem dX10_at_66 : dn cX10_at 66 (.getfield 37) 3 69 := ⟨by decide +kernel, rfl⟩
theorem dX10_at_69 : dn cX10_at 69 (.iload_n 1) 1 70 := ⟨by decide +kernel, rfl⟩
theorem dX10_at_70 : dn cX10_at 70 (.iaload) 1 71 := ⟨by decide +kernel, rfl⟩
theorem dX10_at_71 : dn cX10_at 71 (.isub) 1 72 := ⟨by decide +kernel, rfl⟩
theorem dX10_at_72 : dn cX10_at 72 (.ireturn) 1 73 := ⟨by decide +kernel, rfl⟩
theorem dX10_wordsIn_0 : dn cX10_wordsIn 0 (.iconst 0) 1 1 := ⟨by decide +kernel, rfl⟩
theorem dX10_wordsIn_1 : dn cX10_wordsIn 1 (.istore_n 2) 1 2 := ⟨by decide +kernel, rfl⟩
theorem dX10_wordsIn_2 : dn cX10_wordsIn 2 (.iconst 0) 1 3 := ⟨by decide +kernel, rfl⟩
theorem dX10_wordsIn_3 : dn cX10_wordsIn 3 (.istore_n 3) 1 4 := ⟨by decide +kernel, rfl⟩
theorem dX10_wordsIn_4 : dn cX10_wordsIn 4 (.iload_n 3) 1 5 := ⟨by decide +kernel, rfl⟩
theorem dX10_wordsIn_5 : dn cX10_wordsIn 5 (.aload_n 0) 1 6 := ⟨by decide +kernel, rfl⟩
theorem dX10_wordsIn_6 : dn cX10_wordsIn 6 (.getfield 92) 3 9 := ⟨by decide +kernel, rfl⟩
theorem dX10_wordsIn_9 : db cX10_wordsIn 9 (.if_icmp .ge 36) 3 12 (36) 45 := ⟨by decide +kernel, rfl, rfl⟩
theorem dX10_wordsIn_12 : dn cX10_wordsIn 12 (.iload_n 2) 1 13 := ⟨by decide +kernel, rfl⟩
theorem dX10_wordsIn_13 : dn cX10_wordsIn 13 (.aload_n 0) 1 14 := ⟨by decide +kernel, rfl⟩
theorem dX10_wordsIn_14 : dn cX10_wordsIn 14 (.getfield 46) 3 17 := ⟨by decide +kernel, rfl⟩
theorem dX10_wordsIn_17 : dn cX10_wordsIn 17 (.iload_n 3) 1 18 := ⟨by decide +kernel, rfl⟩
theorem dX10_wordsIn_18 : dn cX10_wordsIn 18 (.iaload) 1 19 := ⟨by decide +kernel, rfl⟩
theorem dX10_wordsIn_19 : db cX10_wordsIn 19 (.ifCond .lt 17) 3 22 (17) 36 := ⟨by decide +kernel, rfl, rfl⟩
theorem dX10_wordsIn_22 : dn cX10_wordsIn 22 (.aload_n 0) 1 23 := ⟨by decide +kernel, rfl⟩
theorem dX10_wordsIn_23 : dn cX10_wordsIn 23 (.getfield 49) 3 26 := ⟨by decide +kernel, rfl⟩
theorem dX10_wordsIn_26 : dn cX10_wordsIn 26 (.iload_n 3) 1 27 := ⟨by decide +kernel, rfl⟩
theorem dX10_wordsIn_27 : dn cX10_wordsIn 27 (.iaload) 1 28 := ⟨by decide +kernel, rfl⟩
theorem dX10_wordsIn_28 : dn cX10_wordsIn 28 (.iload_n 1) 1 29 := ⟨by decide +kernel, rfl⟩
theorem dX10_wordsIn_29 : db cX10_wordsIn 29 (.if_icmp .ne 7) 3 32 (7) 36 := ⟨by decide +kernel, rfl, rfl⟩
theorem dX10_wordsIn_32 : dn cX10_wordsIn 32 (.iconst 1) 1 33 := ⟨by decide +kernel, rfl⟩
theorem dX10_wordsIn_33 : db cX10_wordsIn 33 (.goto 4) 3 36 (4) 37 := ⟨by decide +kernel, rfl, rfl⟩
theorem dX10_wordsIn_36 : dn cX10_wordsIn 36 (.iconst 0) 1 37 := ⟨by decide +kernel, rfl⟩
theorem dX10_wordsIn_37 : dn cX10_wordsIn 37 (.iadd) 1 38 := ⟨by decide +kernel, rfl⟩
theorem dX10_wordsIn_38 : dn cX10_wordsIn 38 (.istore_n 2) 1 39 := ⟨by decide +kernel, rfl⟩
theorem dX10_wordsIn_39 : dn cX10_wordsIn 39 (.iinc 3 1) 3 42 := ⟨by decide +kernel, rfl⟩
theorem dX10_wordsIn_42 : db cX10_wordsIn 42 (.goto (-38)) 3 45 (-38) 4 := ⟨by decide +kernel, rfl, rfl⟩
theorem dX10_wordsIn_45 : dn cX10_wordsIn 45 (.iload_n 2) 1 46 := ⟨by decide +kernel, rfl⟩
theorem dX10_wordsIn_46 : dn cX10_wordsIn 46 (.ireturn) 1 47 := ⟨by decide +kernel, rfl⟩
theorem dX10_cell_0 : dn cX10_cell 0 (.aload_n 0) 1 1 := ⟨by decide +kernel, rfl⟩
theorem dX10_cell_1 : dn cX10_cell 1 (.iload_n 1) 1 2 := ⟨by decide +kernel, rfl⟩
theorem dX10_cell_2 : dn cX10_cell 2 (.iload_n 2) 1 3 := ⟨by decide +kernel, rfl⟩
theorem dX10_cell_3 : dn cX10_cell 3 (.invokevirtual 250) 3 6 := ⟨by decide +kernel, rfl⟩
theorem dX10_cell_6 : db cX10_cell 6 (.ifCond .ne 5) 3 9 (5) 11 := ⟨by decide +kernel, rfl, rfl⟩
theorem dX10_cell_9 : dn cX10_cell 9 (.iconst (-1)) 1 10 := ⟨by decide +kernel, rfl⟩
theorem dX10_cell_10 : dn cX10_cell 10 (.ireturn) 1 11 := ⟨by decide +kernel, rfl⟩
theorem dX10_cell_11 : dn cX10_cell 11 (.iload_n 3) 1 12 := ⟨by decide +kernel, rfl⟩
theorem dX10_cell_12 : dn cX10_cell 12 (.i2l) 1 13 := ⟨by decide +kernel, rfl⟩
theorem dX10_cell_13 : dn cX10_cell 13 (.lconst 0) 1 14 := ⟨by decide +kernel, rfl⟩
theorem dX10_cell_14 : dn cX10_cell 14 (.ldc2_w 253) 3 17 := ⟨by decide +kernel, rfl⟩
theorem dX10_cell_17 : dn cX10_cell 17 (.invokestatic 64) 3 20 := ⟨by decide +kernel, rfl⟩
theorem dX10_cell_20 : db cX10_cell 20 (.ifCond .ne 6) 3 23 (6) 26 := ⟨by decide +kernel, rfl, rfl⟩
theorem dX10_cell_23 : dn cX10_cell 23 (.bipush (-2)) 2 25 := ⟨by decide +kernel, rfl⟩
theorem dX10_cell_25 : dn cX10_cell 25 (.ireturn) 1 26 := ⟨by decide +kernel, rfl⟩
theorem dX10_cell_26 : dn cX10_cell 26 (.aload_n 0) 1 27 := ⟨by decide +kernel, rfl⟩
theorem dX10_cell_27 : dn cX10_cell 27 (.getfield 37) 3 30 := ⟨by decide +kernel, rfl⟩
theorem dX10_cell_30 : dn cX10_cell 30 (.iload_n 1) 1 31 := ⟨by decide +kernel, rfl⟩
theorem dX10_cell_31 : dn cX10_cell 31 (.iaload) 1 32 := ⟨by decide +kernel, rfl⟩
theorem dX10_cell_32 : dn cX10_cell 32 (.iload_n 2) 1 33 := ⟨by decide +kernel, rfl⟩
theorem dX10_cell_33 : dn cX10_cell 33 (.iadd) 1 34 := ⟨by decide +kernel, rfl⟩
theorem dX10_cell_34 : dn cX10_cell 34 (.istore 4) 2 36 := ⟨by decide +kernel, rfl⟩
theorem dX10_cell_36 : dn cX10_cell 36 (.iload_n 3) 1 37 := ⟨by decide +kernel, rfl⟩
theorem dX10_cell_37 : dn cX10_cell 37 (.bipush 6) 2 39 := ⟨by decide +kernel, rfl⟩
theorem dX10_cell_39 : db cX10_cell 39 (.if_icmp .ne 12) 3 42 (12) 51 := ⟨by decide +kernel, rfl, rfl⟩
theorem dX10_cell_42 : dn cX10_cell 42 (.aload_n 0) 1 43 := ⟨by decide +kernel, rfl⟩
theorem dX10_cell_43 : dn cX10_cell 43 (.iload 4) 2 45 := ⟨by decide +kernel, rfl⟩
theorem dX10_cell_45 : dn cX10_cell 45 (.invokevirtual 255) 3 48 := ⟨by decide +kernel, rfl⟩
theorem dX10_cell_48 : db cX10_cell 48 (.goto 10) 3 51 (10) 58 := ⟨by decide +kernel, rfl, rfl⟩
theorem dX10_cell_51 : dn cX10_cell 51 (.aload_n 0) 1 52 := ⟨by decide +kernel, rfl⟩
theorem dX10_cell_52 : dn cX10_cell 52 (.iload 4) 2 54 := ⟨by decide +kernel, rfl⟩
theorem dX10_cell_54 : dn cX10_cell 54 (.iload_n 3) 1 55 := ⟨by decide +kernel, rfl⟩
theorem dX10_cell_55 : dn cX10_cell 55 (.invokevirtual 174) 3 58 := ⟨by decide +kernel, rfl⟩
theorem dX10_cell_58 : dn cX10_cell 58 (.ireturn) 1 59 := ⟨by decide +kernel, rfl⟩
theorem dX10_isReadBefore_0 : dn cX10_isReadBefore 0 (.aload_n 0) 1 1 := ⟨by decide +kernel, rfl⟩
theorem dX10_isReadBefore_1 : dn cX10_isReadBefore 1 (.iload_n 1) 1 2 := ⟨by decide +kernel, rfl⟩
theorem dX10_isReadBefore_2 : dn cX10_isReadBefore 2 (.iconst 1) 1 3 := ⟨by decide +kernel, rfl⟩
theorem dX10_isReadBefore_3 : dn cX10_isReadBefore 3 (.invokevirtual 177) 3 6 := ⟨by decide +kernel, rfl⟩
theorem dX10_isReadBefore_6 : dn cX10_isReadBefore 6 (.aload_n 0) 1 7 := ⟨by decide +kernel, rfl⟩
theorem dX10_isReadBefore_7 : dn cX10_isReadBefore 7 (.iload_n 1) 1 8 := ⟨by decide +kernel, rfl⟩
theorem dX10_isReadBefore_8 : dn cX10_isReadBefore 8 (.iconst 3) 1 9 := ⟨by decide +kernel, rfl⟩
theorem dX10_isReadBefore_9 : dn cX10_isReadBefore 9 (.invokevirtual 177) 3 12 := ⟨by decide +kernel, rfl⟩
theorem dX10_isReadBefore_12 : dn cX10_isReadBefore 12 (.iadd) 1 13 := ⟨by decide +kernel, rfl⟩
theorem dX10_isReadBefore_13 : dn cX10_isReadBefore 13 (.istore_n 3) 1 14 := ⟨by decide +kernel, rfl⟩
theorem dX10_isReadBefore_14 : dn cX10_isReadBefore 14 (.aload_n 0) 1 15 := ⟨by decide +kernel, rfl⟩
theorem dX10_isReadBefore_15 : dn cX10_isReadBefore 15 (.iload_n 2) 1 16 := ⟨by decide +kernel, rfl⟩
theorem dX10_isReadBefore_16 : dn cX10_isReadBefore 16 (.iconst 1) 1 17 := ⟨by decide +kernel, rfl⟩
theorem dX10_isReadBefore_17 : dn cX10_isReadBefore 17 (.invokevirtual 177) 3 20 := ⟨by decide +kernel, rfl⟩
theorem dX10_isReadBefore_20 : dn cX10_isReadBefore 20 (.aload_n 0) 1 21 := ⟨by decide +kernel, rfl⟩
theorem dX10_isReadBefore_21 : dn cX10_isReadBefore 21 (.iload_n 2) 1 22 := ⟨by decide +kernel, rfl⟩
theorem dX10_isReadBefore_22 : dn cX10_isReadBefore 22 (.iconst 3) 1 23 := ⟨by decide +kernel, rfl⟩
theorem dX10_isReadBefore_23 : dn cX10_isReadBefore 23 (.invokevirtual 177) 3 26 := ⟨by decide +kernel, rfl⟩
theorem dX10_isReadBefore_26 : dn cX10_isReadBefore 26 (.iadd) 1 27 := ⟨by decide +kernel, rfl⟩
theorem dX10_isReadBefore_27 : dn cX10_isReadBefore 27 (.istore 4) 2 29 := ⟨by decide +kernel, rfl⟩
theorem dX10_isReadBefore_29 : dn cX10_isReadBefore 29 (.iload_n 3) 1 30 := ⟨by decide +kernel, rfl⟩
theorem dX10_isReadBefore_30 : dn cX10_isReadBefore 30 (.iload 4) 2 32 := ⟨by decide +kernel, rfl⟩
theorem dX10_isReadBefore_32 : db cX10_isReadBefore 32 (.if_icmp .eq 15) 3 35 (15) 47 := ⟨by decide +kernel, rfl, rfl⟩
theorem dX10_isReadBefore_35 : dn cX10_isReadBefore 35 (.iload_n 3) 1 36 := ⟨by decide +kernel, rfl⟩
theorem dX10_isReadBefore_36 : dn cX10_isReadBefore 36 (.iload 4) 2 38 := ⟨by decide +kernel, rfl⟩
theorem dX10_isReadBefore_38 : db cX10_isReadBefore 38 (.if_icmp .ge 7) 3 41 (7) 45 := ⟨by decide +kernel, rfl, rfl⟩
theorem dX10_isReadBefore_41 : dn cX10_isReadBefore 41 (.iconst 1) 1 42 := ⟨by decide +kernel, rfl⟩
theorem dX10_isReadBefore_42 : db cX10_isReadBefore 42 (.goto 4) 3 45 (4) 46 := ⟨by decide +kernel, rfl, rfl⟩
theorem dX10_isReadBefore_45 : dn cX10_isReadBefore 45 (.iconst 0) 1 46 := ⟨by decide +kernel, rfl⟩
theorem dX10_isReadBefore_46 : dn cX10_isReadBefore 46 (.ireturn) 1 47 := ⟨by decide +kernel, rfl⟩
theorem dX10_isReadBefore_47 : dn cX10_isReadBefore 47 (.aload_n 0) 1 48 := ⟨by decide +kernel, rfl⟩
theorem dX10_isReadBefore_48 : dn cX10_isReadBefore 48 (.iload_n 1) 1 49 := ⟨by decide +kernel, rfl⟩
theorem dX10_isReadBefore_49 : dn cX10_isReadBefore 49 (.iconst 0) 1 50 := ⟨by decide +kernel, rfl⟩
theorem dX10_isReadBefore_50 : dn cX10_isReadBefore 50 (.invokevirtual 177) 3 53 := ⟨by decide +kernel, rfl⟩
theorem dX10_isReadBefore_53 : dn cX10_isReadBefore 53 (.aload_n 0) 1 54 := ⟨by decide +kernel, rfl⟩
theorem dX10_isReadBefore_54 : dn cX10_isReadBefore 54 (.iload_n 2) 1 55 := ⟨by decide +kernel, rfl⟩
theorem dX10_isReadBefore_55 : dn cX10_isReadBefore 55 (.iconst 0) 1 56 := ⟨by decide +kernel, rfl⟩
theorem dX10_isReadBefore_56 : dn cX10_isReadBefore 56 (.invokevirtual 177) 3 59 := ⟨by decide +kernel, rfl⟩
theorem dX10_isReadBefore_59 : db cX10_isReadBefore 59 (.if_icmp .eq 26) 3 62 (26) 85 := ⟨by decide +kernel, rfl, rfl⟩
theorem dX10_isReadBefore_62 : dn cX10_isReadBefore 62 (.aload_n 0) 1 63 := ⟨by decide +kernel, rfl⟩
theorem dX10_isReadBefore_63 : dn cX10_isReadBefore 63 (.iload_n 1) 1 64 := ⟨by decide +kernel, rfl⟩
theorem dX10_isReadBefore_64 : dn cX10_isReadBefore 64 (.iconst 0) 1 65 := ⟨by decide +kernel, rfl⟩
theorem dX10_isReadBefore_65 : dn cX10_isReadBefore 65 (.invokevirtual 177) 3 68 := ⟨by decide +kernel, rfl⟩
theorem dX10_isReadBefore_68 : dn cX10_isReadBefore 68 (.aload_n 0) 1 69 := ⟨by decide +kernel, rfl⟩
theorem dX10_isReadBefore_69 : dn cX10_isReadBefore 69 (.iload_n 2) 1 70 := ⟨by decide +kernel, rfl⟩
theorem dX10_isReadBefore_70 : dn cX10_isReadBefore 70 (.iconst 0) 1 71 := ⟨by decide +kernel, rfl⟩
theorem dX10_isReadBefore_71 : dn cX10_isReadBefore 71 (.invokevirtual 177) 3 74 := ⟨by decide +kernel, rfl⟩
theorem dX10_isReadBefore_74 : db cX10_isReadBefore 74 (.if_icmp .ge 7) 3 77 (7) 81 := ⟨by decide +kernel, rfl, rfl⟩
theorem dX10_isReadBefore_77 : dn cX10_isReadBefore 77 (.iconst 1) 1 78 := ⟨by decide +kernel, rfl⟩
theorem dX10_isReadBefore_78 : db cX10_isReadBefore 78 (.goto 17) 3 81 (17) 95 := ⟨by decide +kernel, rfl, rfl⟩
theorem dX10_isReadBefore_81 : dn cX10_isReadBefore 81 (.iconst 0) 1 82 := ⟨by decide +kernel, rfl⟩
theorem dX10_isReadBefore_82 : db cX10_isReadBefore 82 (.goto 13) 3 85 (13) 95 := ⟨by decide +kernel, rfl, rfl⟩
theorem dX10_isReadBefore_85 : dn cX10_isReadBefore 85 (.iload_n 1) 1 86 := ⟨by decide +kernel, rfl⟩
theorem dX10_isReadBefore_86 : dn cX10_isReadBefore 86 (.iload_n 2) 1 87 := ⟨by decide +kernel, rfl⟩
theorem dX10_isReadBefore_87 : db cX10_isReadBefore 87 (.if_icmp .ge 7) 3 90 (7) 94 := ⟨by decide +kernel, rfl, rfl⟩
theorem dX10_isReadBefore_90 : dn cX10_isReadBefore 90 (.iconst 1) 1 91 := ⟨by decide +kernel, rfl⟩
theorem dX10_isReadBefore_91 : db cX10_isReadBefore 91 (.goto 4) 3 94 (4) 95 := ⟨by decide +kernel, rfl, rfl⟩
theorem dX10_isReadBefore_94 : dn cX10_isReadBefore 94 (.iconst 0) 1 95 := ⟨by decide +kernel, rfl⟩
theorem dX10_isReadBefore_95 : dn cX10_isReadBefore 95 (.ireturn) 1 96 := ⟨by decide +kernel, rfl⟩
theorem dX10_isWordOf_0 : dn cX10_isWordOf 0 (.aload_n 0) 1 1 := ⟨by decide +kernel, rfl⟩
theorem dX10_isWordOf_1 : dn cX10_isWordOf 1 (.getfield 46) 3 4 := ⟨by decide +kernel, rfl⟩
theorem dX10_isWordOf_4 : dn cX10_isWordOf 4 (.iload_n 1) 1 5 := ⟨by decide +kernel, rfl⟩
theorem dX10_isWordOf_5 : dn cX10_isWordOf 5 (.iaload) 1 6 := ⟨by decide +kernel, rfl⟩
theorem dX10_isWordOf_6 : db cX10_isWordOf 6 (.ifCond .lt 17) 3 9 (17) 23 := ⟨by decide +kernel, rfl, rfl⟩
theorem dX10_isWordOf_9 : dn cX10_isWordOf 9 (.aload_n 0) 1 10 := ⟨by decide +kernel, rfl⟩
theorem dX10_isWordOf_10 : dn cX10_isWordOf 10 (.getfield 49) 3 13 := ⟨by decide +kernel, rfl⟩
theorem dX10_isWordOf_13 : dn cX10_isWordOf 13 (.iload_n 1) 1 14 := ⟨by decide +kernel, rfl⟩
theorem dX10_isWordOf_14 : dn cX10_isWordOf 14 (.iaload) 1 15 := ⟨by decide +kernel, rfl⟩
theorem dX10_isWordOf_15 : dn cX10_isWordOf 15 (.iload_n 2) 1 16 := ⟨by decide +kernel, rfl⟩
theorem dX10_isWordOf_16 : db cX10_isWordOf 16 (.if_icmp .ne 7) 3 19 (7) 23 := ⟨by decide +kernel, rfl, rfl⟩
theorem dX10_isWordOf_19 : dn cX10_isWordOf 19 (.iconst 1) 1 20 := ⟨by decide +kernel, rfl⟩
theorem dX10_isWordOf_20 : db cX10_isWordOf 20 (.goto 4) 3 23 (4) 24 := ⟨by decide +kernel, rfl, rfl⟩
theorem dX10_isWordOf_23 : dn cX10_isWordOf 23 (.iconst 0) 1 24 := ⟨by decide +kernel, rfl⟩
theorem dX10_isWordOf_24 : dn cX10_isWordOf 24 (.ireturn) 1 25 := ⟨by decide +kernel, rfl⟩
theorem dX10_read_0 : dn cX10_read 0 (.aload_n 0) 1 1 := ⟨by decide +kernel, rfl⟩
theorem dX10_read_1 : dn cX10_read 1 (.iload_n 1) 1 2 := ⟨by decide +kernel, rfl⟩
theorem dX10_read_2 : dn cX10_read 2 (.iload_n 2) 1 3 := ⟨by decide +kernel, rfl⟩
theorem dX10_read_3 : dn cX10_read 3 (.invokevirtual 250) 3 6 := ⟨by decide +kernel, rfl⟩
theorem dX10_read_6 : db cX10_read 6 (.ifCond .ne 5) 3 9 (5) 11 := ⟨by decide +kernel, rfl, rfl⟩
theorem dX10_read_9 : dn cX10_read 9 (.iconst (-1)) 1 10 := ⟨by decide +kernel, rfl⟩
theorem dX10_read_10 : dn cX10_read 10 (.ireturn) 1 11 := ⟨by decide +kernel, rfl⟩
theorem dX10_read_11 : dn cX10_read 11 (.aload_n 0) 1 12 := ⟨by decide +kernel, rfl⟩
theorem dX10_read_12 : dn cX10_read 12 (.getfield 37) 3 15 := ⟨by decide +kernel, rfl⟩
theorem dX10_read_15 : dn cX10_read 15 (.iload_n 1) 1 16 := ⟨by decide +kernel, rfl⟩
theorem dX10_read_16 : dn cX10_read 16 (.iaload) 1 17 := ⟨by decide +kernel, rfl⟩
theorem dX10_read_17 : dn cX10_read 17 (.iload_n 2) 1 18 := ⟨by decide +kernel, rfl⟩
theorem dX10_read_18 : dn cX10_read 18 (.iadd) 1 19 := ⟨by decide +kernel, rfl⟩
theorem dX10_read_19 : dn cX10_read 19 (.istore 4) 2 21 := ⟨by decide +kernel, rfl⟩
theorem dX10_read_21 : dn cX10_read 21 (.iconst 0) 1 22 := ⟨by decide +kernel, rfl⟩
theorem dX10_read_22 : dn cX10_read 22 (.istore 5) 2 24 := ⟨by decide +kernel, rfl⟩
theorem dX10_read_24 : dn cX10_read 24 (.iload 5) 2 26 := ⟨by decide +kernel, rfl⟩
theorem dX10_read_26 : dn cX10_read 26 (.aload_n 0) 1 27 := ⟨by decide +kernel, rfl⟩
theorem dX10_read_27 : dn cX10_read 27 (.getfield 92) 3 30 := ⟨by decide +kernel, rfl⟩
theorem dX10_read_30 : db cX10_read 30 (.if_icmp .ge 82) 3 33 (82) 112 := ⟨by decide +kernel, rfl, rfl⟩
theorem dX10_read_33 : dn cX10_read 33 (.iconst 0) 1 34 := ⟨by decide +kernel, rfl⟩
theorem dX10_read_34 : dn cX10_read 34 (.istore 6) 2 36 := ⟨by decide +kernel, rfl⟩
theorem dX10_read_36 : dn cX10_read 36 (.iconst 0) 1 37 := ⟨by decide +kernel, rfl⟩
theorem dX10_read_37 : dn cX10_read 37 (.istore 7) 2 39 := ⟨by decide +kernel, rfl⟩
theorem dX10_read_39 : dn cX10_read 39 (.iload 7) 2 41 := ⟨by decide +kernel, rfl⟩
theorem dX10_read_41 : dn cX10_read 41 (.aload_n 0) 1 42 := ⟨by decide +kernel, rfl⟩
theorem dX10_read_42 : dn cX10_read 42 (.getfield 92) 3 45 := ⟨by decide +kernel, rfl⟩
theorem dX10_read_45 : db cX10_read 45 (.if_icmp .ge 41) 3 48 (41) 86 := ⟨by decide +kernel, rfl, rfl⟩
theorem dX10_read_48 : dn cX10_read 48 (.iload 6) 2 50 := ⟨by decide +kernel, rfl⟩
theorem dX10_read_50 : dn cX10_read 50 (.aload_n 0) 1 51 := ⟨by decide +kernel, rfl⟩
theorem dX10_read_51 : dn cX10_read 51 (.iload 7) 2 53 := ⟨by decide +kernel, rfl⟩
theorem dX10_read_53 : dn cX10_read 53 (.iload 4) 2 55 := ⟨by decide +kernel, rfl⟩
theorem dX10_read_55 : dn cX10_read 55 (.invokevirtual 258) 3 58 := ⟨by decide +kernel, rfl⟩
theorem dX10_read_58 : db cX10_read 58 (.ifCond .eq 18) 3 61 (18) 76 := ⟨by decide +kernel, rfl, rfl⟩
theorem dX10_read_61 : dn cX10_read 61 (.aload_n 0) 1 62 := ⟨by decide +kernel, rfl⟩
theorem dX10_read_62 : dn cX10_read 62 (.iload 7) 2 64 := ⟨by decide +kernel, rfl⟩
theorem dX10_read_64 : dn cX10_read 64 (.iload 5) 2 66 := ⟨by decide +kernel, rfl⟩
theorem dX10_read_66 : dn cX10_read 66 (.invokevirtual 261) 3 69 := ⟨by decide +kernel, rfl⟩
theorem dX10_read_69 : db cX10_read 69 (.ifCond .eq 7) 3 72 (7) 76 := ⟨by decide +kernel, rfl, rfl⟩
theorem dX10_read_72 : dn cX10_read 72 (.iconst 1) 1 73 := ⟨by decide +kernel, rfl⟩
theorem dX10_read_73 : db cX10_read 73 (.goto 4) 3 76 (4) 77 := ⟨by decide +kernel, rfl, rfl⟩
theorem dX10_read_76 : dn cX10_read 76 (.iconst 0) 1 77 := ⟨by decide +kernel, rfl⟩
theorem dX10_read_77 : dn cX10_read 77 (.iadd) 1 78 := ⟨by decide +kernel, rfl⟩
theorem dX10_read_78 : dn cX10_read 78 (.istore 6) 2 80 := ⟨by decide +kernel, rfl⟩
theorem dX10_read_80 : dn cX10_read 80 (.iinc 7 1) 3 83 := ⟨by decide +kernel, rfl⟩
theorem dX10_read_83 : db cX10_read 83 (.goto (-44)) 3 86 (-44) 39 := ⟨by decide +kernel, rfl, rfl⟩
theorem dX10_read_86 : dn cX10_read 86 (.aload_n 0) 1 87 := ⟨by decide +kernel, rfl⟩
theorem dX10_read_87 : dn cX10_read 87 (.iload 5) 2 89 := ⟨by decide +kernel, rfl⟩
theorem dX10_read_89 : dn cX10_read 89 (.iload 4) 2 91 := ⟨by decide +kernel, rfl⟩
theorem dX10_read_91 : dn cX10_read 91 (.invokevirtual 258) 3 94 := ⟨by decide +kernel, rfl⟩
theorem dX10_read_94 : db cX10_read 94 (.ifCond .eq 12) 3 97 (12) 106 := ⟨by decide +kernel, rfl, rfl⟩
theorem dX10_read_97 : dn cX10_read 97 (.iload 6) 2 99 := ⟨by decide +kernel, rfl⟩
theorem dX10_read_99 : dn cX10_read 99 (.iload_n 3) 1 100 := ⟨by decide +kernel, rfl⟩
theorem dX10_read_100 : db cX10_read 100 (.if_icmp .ne 6) 3 103 (6) 106 := ⟨by decide +kernel, rfl, rfl⟩
theorem dX10_read_103 : dn cX10_read 103 (.iload 5) 2 105 := ⟨by decide +kernel, rfl⟩
theorem dX10_read_105 : dn cX10_read 105 (.ireturn) 1 106 := ⟨by decide +kernel, rfl⟩
theorem dX10_read_106 : dn cX10_read 106 (.iinc 5 1) 3 109 := ⟨by decide +kernel, rfl⟩
theorem dX10_read_109 : db cX10_read 109 (.goto (-85)) 3 112 (-85) 24 := ⟨by decide +kernel, rfl, rfl⟩
theorem dX10_read_112 : dn cX10_read 112 (.bipush (-6)) 2 114 := ⟨by decide +kernel, rfl⟩
theorem dX10_read_114 : dn cX10_read 114 (.ireturn) 1 115 := ⟨by decide +kernel, rfl⟩
theorem dX10_heading_0 : dn cX10_heading 0 (.aload_n 0) 1 1 := ⟨by decide +kernel, rfl⟩
theorem dX10_heading_1 : dn cX10_heading 1 (.iload_n 1) 1 2 := ⟨by decide +kernel, rfl⟩
theorem dX10_heading_2 : dn cX10_heading 2 (.invokevirtual 198) 3 5 := ⟨by decide +kernel, rfl⟩
theorem dX10_heading_5 : db cX10_heading 5 (.ifCond .eq 20) 3 8 (20) 25 := ⟨by decide +kernel, rfl, rfl⟩
theorem dX10_heading_8 : dn cX10_heading 8 (.iload_n 2) 1 9 := ⟨by decide +kernel, rfl⟩
theorem dX10_heading_9 : dn cX10_heading 9 (.i2l) 1 10 := ⟨by decide +kernel, rfl⟩
theorem dX10_heading_10 : dn cX10_heading 10 (.lconst 0) 1 11 := ⟨by decide +kernel, rfl⟩
theorem dX10_heading_11 : dn cX10_heading 11 (.aload_n 0) 1 12 := ⟨by decide +kernel, rfl⟩
theorem dX10_heading_12 : dn cX10_heading 12 (.iload_n 1) 1 13 := ⟨by decide +kernel, rfl⟩
theorem dX10_heading_13 : dn cX10_heading 13 (.invokevirtual 152) 3 16 := ⟨by decide +kernel, rfl⟩
theorem dX10_heading_16 : dn cX10_heading 16 (.iconst 1) 1 17 := ⟨by decide +kernel, rfl⟩
theorem dX10_heading_17 : dn cX10_heading 17 (.isub) 1 18 := ⟨by decide +kernel, rfl⟩
theorem dX10_heading_18 : dn cX10_heading 18 (.i2l) 1 19 := ⟨by decide +kernel, rfl⟩
theorem dX10_heading_19 : dn cX10_heading 19 (.invokestatic 64) 3 22 := ⟨by decide +kernel, rfl⟩
theorem dX10_heading_22 : db cX10_heading 22 (.ifCond .ne 5) 3 25 (5) 27 := ⟨by decide +kernel, rfl, rfl⟩
theorem dX10_heading_25 : dn cX10_heading 25 (.iconst (-1)) 1 26 := ⟨by decide +kernel, rfl⟩
theorem dX10_heading_26 : dn cX10_heading 26 (.ireturn) 1 27 := ⟨by decide +kernel, rfl⟩
theorem dX10_heading_27 : dn cX10_heading 27 (.iconst 0) 1 28 := ⟨by decide +kernel, rfl⟩
theorem dX10_heading_28 : dn cX10_heading 28 (.istore 4) 2 30 := ⟨by decide +kernel, rfl⟩
theorem dX10_heading_30 : dn cX10_heading 30 (.iconst 0) 1 31 := ⟨by decide +kernel, rfl⟩
theorem dX10_heading_31 : dn cX10_heading 31 (.istore 5) 2 33 := ⟨by decide +kernel, rfl⟩
theorem dX10_heading_33 : dn cX10_heading 33 (.iload 5) 2 35 := ⟨by decide +kernel, rfl⟩
theorem dX10_heading_35 : dn cX10_heading 35 (.aload_n 0) 1 36 := ⟨by decide +kernel, rfl⟩
theorem dX10_heading_36 : dn cX10_heading 36 (.iload_n 1) 1 37 := ⟨by decide +kernel, rfl⟩
theorem dX10_heading_37 : dn cX10_heading 37 (.invokevirtual 241) 3 40 := ⟨by decide +kernel, rfl⟩
theorem dX10_heading_40 : db cX10_heading 40 (.if_icmp .ge 92) 3 43 (92) 132 := ⟨by decide +kernel, rfl, rfl⟩
theorem dX10_heading_43 : dn cX10_heading 43 (.aload_n 0) 1 44 := ⟨by decide +kernel, rfl⟩
theorem dX10_heading_44 : dn cX10_heading 44 (.iload_n 1) 1 45 := ⟨by decide +kernel, rfl⟩
theorem dX10_heading_45 : dn cX10_heading 45 (.iload 5) 2 47 := ⟨by decide +kernel, rfl⟩
theorem dX10_heading_47 : dn cX10_heading 47 (.iload_n 2) 1 48 := ⟨by decide +kernel, rfl⟩
theorem dX10_heading_48 : dn cX10_heading 48 (.invokevirtual 264) 3 51 := ⟨by decide +kernel, rfl⟩
theorem dX10_heading_51 : dn cX10_heading 51 (.istore 6) 2 53 := ⟨by decide +kernel, rfl⟩
theorem dX10_heading_53 : dn cX10_heading 53 (.iconst 1) 1 54 := ⟨by decide +kernel, rfl⟩
theorem dX10_heading_54 : dn cX10_heading 54 (.istore 7) 2 56 := ⟨by decide +kernel, rfl⟩
theorem dX10_heading_56 : dn cX10_heading 56 (.iconst 0) 1 57 := ⟨by decide +kernel, rfl⟩
theorem dX10_heading_57 : dn cX10_heading 57 (.istore 8) 2 59 := ⟨by decide +kernel, rfl⟩
theorem dX10_heading_59 : dn cX10_heading 59 (.iload 8) 2 61 := ⟨by decide +kernel, rfl⟩
theorem dX10_heading_61 : dn cX10_heading 61 (.iload 5) 2 63 := ⟨by decide +kernel, rfl⟩
theorem dX10_heading_63 : db cX10_heading 63 (.if_icmp .ge 34) 3 66 (34) 97 := ⟨by decide +kernel, rfl, rfl⟩
theorem dX10_heading_66 : dn cX10_heading 66 (.iload 7) 2 68 := ⟨by decide +kernel, rfl⟩
theorem dX10_heading_68 : db cX10_heading 68 (.ifCond .eq 20) 3 71 (20) 88 := ⟨by decide +kernel, rfl, rfl⟩
theorem dX10_heading_71 : dn cX10_heading 71 (.aload_n 0) 1 72 := ⟨by decide +kernel, rfl⟩
theorem dX10_heading_72 : dn cX10_heading 72 (.iload_n 1) 1 73 := ⟨by decide +kernel, rfl⟩
theorem dX10_heading_73 : dn cX10_heading 73 (.iload 8) 2 75 := ⟨by decide +kernel, rfl⟩
theorem dX10_heading_75 : dn cX10_heading 75 (.iload_n 2) 1 76 := ⟨by decide +kernel, rfl⟩
theorem dX10_heading_76 : dn cX10_heading 76 (.invokevirtual 264) 3 79 := ⟨by decide +kernel, rfl⟩
theorem dX10_heading_79 : dn cX10_heading 79 (.iload 6) 2 81 := ⟨by decide +kernel, rfl⟩
theorem dX10_heading_81 : db cX10_heading 81 (.if_icmp .eq 7) 3 84 (7) 88 := ⟨by decide +kernel, rfl, rfl⟩
theorem dX10_heading_84 : dn cX10_heading 84 (.iconst 1) 1 85 := ⟨by decide +kernel, rfl⟩
theorem dX10_heading_85 : db cX10_heading 85 (.goto 4) 3 88 (4) 89 := ⟨by decide +kernel, rfl, rfl⟩
theorem dX10_heading_88 : dn cX10_heading 88 (.iconst 0) 1 89 := ⟨by decide +kernel, rfl⟩
theorem dX10_heading_89 : dn cX10_heading 89 (.istore 7) 2 91 := ⟨by decide +kernel, rfl⟩
theorem dX10_heading_91 : dn cX10_heading 91 (.iinc 8 1) 3 94 := ⟨by decide +kernel, rfl⟩
theorem dX10_heading_94 : db cX10_heading 94 (.goto (-35)) 3 97 (-35) 59 := ⟨by decide +kernel, rfl, rfl⟩
theorem dX10_heading_97 : dn cX10_heading 97 (.iload 7) 2 99 := ⟨by decide +kernel, rfl⟩
theorem dX10_heading_99 : db cX10_heading 99 (.ifCond .eq 12) 3 102 (12) 111 := ⟨by decide +kernel, rfl, rfl⟩
theorem dX10_heading_102 : dn cX10_heading 102 (.iload 4) 2 104 := ⟨by decide +kernel, rfl⟩
theorem dX10_heading_104 : dn cX10_heading 104 (.iload_n 3) 1 105 := ⟨by decide +kernel, rfl⟩
theorem dX10_heading_105 : db cX10_heading 105 (.if_icmp .ne 6) 3 108 (6) 111 := ⟨by decide +kernel, rfl, rfl⟩
theorem dX10_heading_108 : dn cX10_heading 108 (.iload 6) 2 110 := ⟨by decide +kernel, rfl⟩
theorem dX10_heading_110 : dn cX10_heading 110 (.ireturn) 1 111 := ⟨by decide +kernel, rfl⟩
theorem dX10_heading_111 : dn cX10_heading 111 (.iload 4) 2 113 := ⟨by decide +kernel, rfl⟩
theorem dX10_heading_113 : dn cX10_heading 113 (.iload 7) 2 115 := ⟨by decide +kernel, rfl⟩
theorem dX10_heading_115 : db cX10_heading 115 (.ifCond .eq 7) 3 118 (7) 122 := ⟨by decide +kernel, rfl, rfl⟩
theorem dX10_heading_118 : dn cX10_heading 118 (.iconst 1) 1 119 := ⟨by decide +kernel, rfl⟩
theorem dX10_heading_119 : db cX10_heading 119 (.goto 4) 3 122 (4) 123 := ⟨by decide +kernel, rfl, rfl⟩
theorem dX10_heading_122 : dn cX10_heading 122 (.iconst 0) 1 123 := ⟨by decide +kernel, rfl⟩
theorem dX10_heading_123 : dn cX10_heading 123 (.iadd) 1 124 := ⟨by decide +kernel, rfl⟩
theorem dX10_heading_124 : dn cX10_heading 124 (.istore 4) 2 126 := ⟨by decide +kernel, rfl⟩
theorem dX10_heading_126 : dn cX10_heading 126 (.iinc 5 1) 3 129 := ⟨by decide +kernel, rfl⟩
theorem dX10_heading_129 : db cX10_heading 129 (.goto (-96)) 3 132 (-96) 33 := ⟨by decide +kernel, rfl, rfl⟩
theorem dX10_heading_132 : dn cX10_heading 132 (.bipush (-6)) 2 134 := ⟨by decide +kernel, rfl⟩
theorem dX10_heading_134 : dn cX10_heading 134 (.ireturn) 1 135 := ⟨by decide +kernel, rfl⟩
theorem dX10_pass_0 : dn cX10_pass 0 (.aload_n 0) 1 1 := ⟨by decide +kernel, rfl⟩
theorem dX10_pass_1 : dn cX10_pass 1 (.getfield 267) 3 4 := ⟨by decide +kernel, rfl⟩
theorem dX10_pass_4 : db cX10_pass 4 (.ifCond .eq 7) 3 7 (7) 11 := ⟨by decide +kernel, rfl, rfl⟩
theorem dX10_pass_7 : dn cX10_pass 7 (.iload_n 1) 1 8 := ⟨by decide +kernel, rfl⟩
theorem dX10_pass_8 : db cX10_pass 8 (.goto 12) 3 11 (12) 20 := ⟨by decide +kernel, rfl, rfl⟩
theorem dX10_pass_11 : dn cX10_pass 11 (.aload_n 0) 1 12 := ⟨by decide +kernel, rfl⟩
theorem dX10_pass_12 : dn cX10_pass 12 (.getfield 55) 3 15 := ⟨by decide +kernel, rfl⟩
theorem dX10_pass_15 : dn cX10_pass 15 (.aload_n 0) 1 16 := ⟨by decide +kernel, rfl⟩
theorem dX10_pass_16 : dn cX10_pass 16 (.getfield 270) 3 19 := ⟨by decide +kernel, rfl⟩
theorem dX10_pass_19 : dn cX10_pass 19 (.iaload) 1 20 := ⟨by decide +kernel, rfl⟩
theorem dX10_pass_20 : dn cX10_pass 20 (.istore_n 2) 1 21 := ⟨by decide +kernel, rfl⟩
theorem dX10_pass_21 : dn cX10_pass 21 (.aload_n 0) 1 22 := ⟨by decide +kernel, rfl⟩
theorem dX10_pass_22 : dn cX10_pass 22 (.getfield 55) 3 25 := ⟨by decide +kernel, rfl⟩
theorem dX10_pass_25 : dn cX10_pass 25 (.aload_n 0) 1 26 := ⟨by decide +kernel, rfl⟩
theorem dX10_pass_26 : dn cX10_pass 26 (.getfield 270) 3 29 := ⟨by decide +kernel, rfl⟩
theorem dX10_pass_29 : dn cX10_pass 29 (.iload_n 2) 1 30 := ⟨by decide +kernel, rfl⟩
theorem dX10_pass_30 : dn cX10_pass 30 (.iastore) 1 31 := ⟨by decide +kernel, rfl⟩
theorem dX10_pass_31 : dn cX10_pass 31 (.aload_n 0) 1 32 := ⟨by decide +kernel, rfl⟩
theorem dX10_pass_32 : dn cX10_pass 32 (.dup) 1 33 := ⟨by decide +kernel, rfl⟩
theorem dX10_pass_33 : dn cX10_pass 33 (.getfield 270) 3 36 := ⟨by decide +kernel, rfl⟩
theorem dX10_pass_36 : dn cX10_pass 36 (.iconst 1) 1 37 := ⟨by decide +kernel, rfl⟩
theorem dX10_pass_37 : dn cX10_pass 37 (.iadd) 1 38 := ⟨by decide +kernel, rfl⟩
theorem dX10_pass_38 : dn cX10_pass 38 (.putfield 270) 3 41 := ⟨by decide +kernel, rfl⟩
theorem dX10_pass_41 : dn cX10_pass 41 (.iload_n 2) 1 42 := ⟨by decide +kernel, rfl⟩
theorem dX10_pass_42 : dn cX10_pass 42 (.ireturn) 1 43 := ⟨by decide +kernel, rfl⟩
theorem dX10_passRow_0 : dn cX10_passRow 0 (.iconst 0) 1 1 := ⟨by decide +kernel, rfl⟩
theorem dX10_passRow_1 : dn cX10_passRow 1 (.istore_n 3) 1 2 := ⟨by decide +kernel, rfl⟩
theorem dX10_passRow_2 : dn cX10_passRow 2 (.iload_n 3) 1 3 := ⟨by decide +kernel, rfl⟩
theorem dX10_passRow_3 : dn cX10_passRow 3 (.iload_n 2) 1 4 := ⟨by decide +kernel, rfl⟩
theorem dX10_passRow_4 : db cX10_passRow 4 (.if_icmp .ge 19) 3 7 (19) 23 := ⟨by decide +kernel, rfl, rfl⟩
theorem dX10_passRow_7 : dn cX10_passRow 7 (.aload_n 1) 1 8 := ⟨by decide +kernel, rfl⟩
theorem dX10_passRow_8 : dn cX10_passRow 8 (.iload_n 3) 1 9 := ⟨by decide +kernel, rfl⟩
theorem dX10_passRow_9 : dn cX10_passRow 9 (.aload_n 0) 1 10 := ⟨by decide +kernel, rfl⟩
theorem dX10_passRow_10 : dn cX10_passRow 10 (.aload_n 1) 1 11 := ⟨by decide +kernel, rfl⟩
theorem dX10_passRow_11 : dn cX10_passRow 11 (.iload_n 3) 1 12 := ⟨by decide +kernel, rfl⟩
theorem dX10_passRow_12 : dn cX10_passRow 12 (.iaload) 1 13 := ⟨by decide +kernel, rfl⟩
theorem dX10_passRow_13 : dn cX10_passRow 13 (.invokevirtual 273) 3 16 := ⟨by decide +kernel, rfl⟩
theorem dX10_passRow_16 : dn cX10_passRow 16 (.iastore) 1 17 := ⟨by decide +kernel, rfl⟩
theorem dX10_passRow_17 : dn cX10_passRow 17 (.iinc 3 1) 3 20 := ⟨by decide +kernel, rfl⟩
theorem dX10_passRow_20 : db cX10_passRow 20 (.goto (-18)) 3 23 (-18) 2 := ⟨by decide +kernel, rfl, rfl⟩
theorem dX10_passRow_23 : dn cX10_passRow 23 (.return_) 1 24 := ⟨by decide +kernel, rfl⟩
theorem dX10_passAll_0 : dn cX10_passAll 0 (.aload_n 0) 1 1 := ⟨by decide +kernel, rfl⟩
theorem dX10_passAll_1 : dn cX10_passAll 1 (.aload_n 0) 1 2 := ⟨by decide +kernel, rfl⟩
theorem dX10_passAll_2 : dn cX10_passAll 2 (.aload_n 0) 1 3 := ⟨by decide +kernel, rfl⟩
theorem dX10_passAll_3 : dn cX10_passAll 3 (.getfield 80) 3 6 := ⟨by decide +kernel, rfl⟩
theorem dX10_passAll_6 : dn cX10_passAll 6 (.invokevirtual 273) 3 9 := ⟨by decide +kernel, rfl⟩
theorem dX10_passAll_9 : dn cX10_passAll 9 (.putfield 80) 3 12 := ⟨by decide +kernel, rfl⟩
theorem dX10_passAll_12 : dn cX10_passAll 12 (.aload_n 0) 1 13 := ⟨by decide +kernel, rfl⟩
theorem dX10_passAll_13 : dn cX10_passAll 13 (.aload_n 0) 1 14 := ⟨by decide +kernel, rfl⟩
theorem dX10_passAll_14 : dn cX10_passAll 14 (.aload_n 0) 1 15 := ⟨by decide +kernel, rfl⟩
theorem dX10_passAll_15 : dn cX10_passAll 15 (.getfield 92) 3 18 := ⟨by decide +kernel, rfl⟩
theorem dX10_passAll_18 : dn cX10_passAll 18 (.invokevirtual 273) 3 21 := ⟨by decide +kernel, rfl⟩
theorem dX10_passAll_21 : dn cX10_passAll 21 (.putfield 92) 3 24 := ⟨by decide +kernel, rfl⟩
theorem dX10_passAll_24 : dn cX10_passAll 24 (.aload_n 0) 1 25 := ⟨by decide +kernel, rfl⟩
theorem dX10_passAll_25 : dn cX10_passAll 25 (.aload_n 0) 1 26 := ⟨by decide +kernel, rfl⟩
theorem dX10_passAll_26 : dn cX10_passAll 26 (.getfield 16) 3 29 := ⟨by decide +kernel, rfl⟩
theorem dX10_passAll_29 : dn cX10_passAll 29 (.iconst 3) 1 30 := ⟨by decide +kernel, rfl⟩
theorem dX10_passAll_30 : dn cX10_passAll 30 (.invokevirtual 276) 3 33 := ⟨by decide +kernel, rfl⟩
theorem dX10_passAll_33 : dn cX10_passAll 33 (.aload_n 0) 1 34 := ⟨by decide +kernel, rfl⟩
theorem dX10_passAll_34 : dn cX10_passAll 34 (.aload_n 0) 1 35 := ⟨by decide +kernel, rfl⟩
theorem dX10_passAll_35 : dn cX10_passAll 35 (.getfield 7) 3 38 := ⟨by decide +kernel, rfl⟩
theorem dX10_passAll_38 : dn cX10_passAll 38 (.bipush 96) 2 40 := ⟨by decide +kernel, rfl⟩
theorem dX10_passAll_40 : dn cX10_passAll 40 (.invokevirtual 276) 3 43 := ⟨by decide +kernel, rfl⟩
theorem dX10_passAll_43 : dn cX10_passAll 43 (.aload_n 0) 1 44 := ⟨by decide +kernel, rfl⟩
theorem dX10_passAll_44 : dn cX10_passAll 44 (.aload_n 0) 1 45 := ⟨by decide +kernel, rfl⟩
theorem dX10_passAll_45 : dn cX10_passAll 45 (.getfield 13) 3 48 := ⟨by decide +kernel, rfl⟩
theorem dX10_passAll_48 : dn cX10_passAll 48 (.bipush 80) 2 50 := ⟨by decide +kernel, rfl⟩
theorem dX10_passAll_50 : dn cX10_passAll 50 (.invokevirtual 276) 3 53 := ⟨by decide +kernel, rfl⟩
theorem dX10_passAll_53 : dn cX10_passAll 53 (.return_) 1 54 := ⟨by decide +kernel, rfl⟩
theorem dX10_image_0 : dn cX10_image 0 (.iload_n 1) 1 1 := ⟨by decide +kernel, rfl⟩
theorem dX10_image_1 : dn cX10_image 1 (.i2l) 1 2 := ⟨by decide +kernel, rfl⟩
theorem dX10_image_2 : dn cX10_image 2 (.lconst 0) 1 3 := ⟨by decide +kernel, rfl⟩
theorem dX10_image_3 : dn cX10_image 3 (.lconst 1) 1 4 := ⟨by decide +kernel, rfl⟩
theorem dX10_image_4 : dn cX10_image 4 (.invokestatic 64) 3 7 := ⟨by decide +kernel, rfl⟩
theorem dX10_image_7 : db cX10_image 7 (.ifCond .ne 6) 3 10 (6) 13 := ⟨by decide +kernel, rfl, rfl⟩
theorem dX10_image_10 : dn cX10_image 10 (.bipush (-2)) 2 12 := ⟨by decide +kernel, rfl⟩
theorem dX10_image_12 : dn cX10_image 12 (.ireturn) 1 13 := ⟨by decide +kernel, rfl⟩
theorem dX10_image_13 : dn cX10_image 13 (.aload_n 0) 1 14 := ⟨by decide +kernel, rfl⟩
theorem dX10_image_14 : dn cX10_image 14 (.sipush 181) 3 17 := ⟨by decide +kernel, rfl⟩
theorem dX10_image_17 : dn cX10_image 17 (.iload_n 1) 1 18 := ⟨by decide +kernel, rfl⟩
theorem dX10_image_18 : dn cX10_image 18 (.imul) 1 19 := ⟨by decide +kernel, rfl⟩
theorem dX10_image_19 : dn cX10_image 19 (.putfield 270) 3 22 := ⟨by decide +kernel, rfl⟩
theorem dX10_image_22 : dn cX10_image 22 (.aload_n 0) 1 23 := ⟨by decide +kernel, rfl⟩
theorem dX10_image_23 : dn cX10_image 23 (.iconst 1) 1 24 := ⟨by decide +kernel, rfl⟩
theorem dX10_image_24 : dn cX10_image 24 (.putfield 267) 3 27 := ⟨by decide +kernel, rfl⟩
theorem dX10_image_27 : dn cX10_image 27 (.aload_n 0) 1 28 := ⟨by decide +kernel, rfl⟩
theorem dX10_image_28 : dn cX10_image 28 (.invokevirtual 280) 3 31 := ⟨by decide +kernel, rfl⟩
theorem dX10_image_31 : dn cX10_image 31 (.aload_n 0) 1 32 := ⟨by decide +kernel, rfl⟩
theorem dX10_image_32 : dn cX10_image 32 (.getfield 58) 3 35 := ⟨by decide +kernel, rfl⟩
theorem dX10_image_35 : dn cX10_image 35 (.iload_n 1) 1 36 := ⟨by decide +kernel, rfl⟩
theorem dX10_image_36 : dn cX10_image 36 (.iconst 1) 1 37 := ⟨by decide +kernel, rfl⟩
theorem dX10_image_37 : dn cX10_image 37 (.bastore) 1 38 := ⟨by decide +kernel, rfl⟩
theorem dX10_image_38 : dn cX10_image 38 (.iconst 1) 1 39 := ⟨by decide +kernel, rfl⟩
theorem dX10_image_39 : dn cX10_image 39 (.ireturn) 1 40 := ⟨by decide +kernel, rfl⟩
theorem dX10_restore_0 : dn cX10_restore 0 (.iload_n 1) 1 1 := ⟨by decide +kernel, rfl⟩
theorem dX10_restore_1 : dn cX10_restore 1 (.i2l) 1 2 := ⟨by decide +kernel, rfl⟩
theorem dX10_restore_2 : dn cX10_restore 2 (.lconst 0) 1 3 := ⟨by decide +kernel, rfl⟩
theorem dX10_restore_3 : dn cX10_restore 3 (.lconst 1) 1 4 := ⟨by decide +kernel, rfl⟩
theorem dX10_restore_4 : dn cX10_restore 4 (.invokestatic 64) 3 7 := ⟨by decide +kernel, rfl⟩
theorem dX10_restore_7 : db cX10_restore 7 (.ifCond .ne 6) 3 10 (6) 13 := ⟨by decide +kernel, rfl, rfl⟩
theorem dX10_restore_10 : dn cX10_restore 10 (.bipush (-2)) 2 12 := ⟨by decide +kernel, rfl⟩
theorem dX10_restore_12 : dn cX10_restore 12 (.ireturn) 1 13 := ⟨by decide +kernel, rfl⟩
theorem dX10_restore_13 : dn cX10_restore 13 (.aload_n 0) 1 14 := ⟨by decide +kernel, rfl⟩
theorem dX10_restore_14 : dn cX10_restore 14 (.getfield 58) 3 17 := ⟨by decide +kernel, rfl⟩
theorem dX10_restore_17 : dn cX10_restore 17 (.iload_n 1) 1 18 := ⟨by decide +kernel, rfl⟩
theorem dX10_restore_18 : dn cX10_restore 18 (.baload) 1 19 := ⟨by decide +kernel, rfl⟩
theorem dX10_restore_19 : db cX10_restore 19 (.ifCond .ne 6) 3 22 (6) 25 := ⟨by decide +kernel, rfl, rfl⟩
theorem dX10_restore_22 : dn cX10_restore 22 (.bipush (-3)) 2 24 := ⟨by decide +kernel, rfl⟩
theorem dX10_restore_24 : dn cX10_restore 24 (.ireturn) 1 25 := ⟨by decide +kernel, rfl⟩
theorem dX10_restore_25 : dn cX10_restore 25 (.aload_n 0) 1 26 := ⟨by decide +kernel, rfl⟩
theorem dX10_restore_26 : dn cX10_restore 26 (.sipush 181) 3 29 := ⟨by decide +kernel, rfl⟩
theorem dX10_restore_29 : dn cX10_restore 29 (.iload_n 1) 1 30 := ⟨by decide +kernel, rfl⟩
theorem dX10_restore_30 : dn cX10_restore 30 (.imul) 1 31 := ⟨by decide +kernel, rfl⟩
theorem dX10_restore_31 : dn cX10_restore 31 (.putfield 270) 3 34 := ⟨by decide +kernel, rfl⟩
theorem dX10_restore_34 : dn cX10_restore 34 (.aload_n 0) 1 35 := ⟨by decide +kernel, rfl⟩
theorem dX10_restore_35 : dn cX10_restore 35 (.iconst 0) 1 36 := ⟨by decide +kernel, rfl⟩
theorem dX10_restore_36 : dn cX10_restore 36 (.putfield 267) 3 39 := ⟨by decide +kernel, rfl⟩
theorem dX10_restore_39 : dn cX10_restore 39 (.aload_n 0) 1 40 := ⟨by decide +kernel, rfl⟩
theorem dX10_restore_40 : dn cX10_restore 40 (.invokevirtual 280) 3 43 := ⟨by decide +kernel, rfl⟩
theorem dX10_restore_43 : dn cX10_restore 43 (.aload_n 0) 1 44 := ⟨by decide +kernel, rfl⟩
theorem dX10_restore_44 : dn cX10_restore 44 (.iconst 0) 1 45 := ⟨by decide +kernel, rfl⟩
theorem dX10_restore_45 : dn cX10_restore 45 (.putfield 74) 3 48 := ⟨by decide +kernel, rfl⟩
theorem dX10_restore_48 : dn cX10_restore 48 (.iconst 1) 1 49 := ⟨by decide +kernel, rfl⟩
theorem dX10_restore_49 : dn cX10_restore 49 (.ireturn) 1 50 := ⟨by decide +kernel, rfl⟩
theorem dX10_told_0 : dn cX10_told 0 (.aload_n 0) 1 1 := ⟨by decide +kernel, rfl⟩
theorem dX10_told_1 : dn cX10_told 1 (.invokevirtual 195) 3 4 := ⟨by decide +kernel, rfl⟩
theorem dX10_told_4 : dn cX10_told 4 (.iload_n 1) 1 5 := ⟨by decide +kernel, rfl⟩
theorem dX10_told_5 : decode cX10_told 5 = .ok (.tableswitch 83 0 7 #[47, 52, 57, 62, 67, 74, 74, 74], 47) := by decide +kernel
theorem dX10_told_52 : dn cX10_told 52 (.aload_n 0) 1 53 := ⟨by decide +kernel, rfl⟩
theorem dX10_told_53 : dn cX10_told 53 (.getfield 80) 3 56 := ⟨by decide +kernel, rfl⟩
theorem dX10_told_56 : dn cX10_told 56 (.ireturn) 1 57 := ⟨by decide +kernel, rfl⟩
theorem dX10_told_57 : dn cX10_told 57 (.aload_n 0) 1 58 := ⟨by decide +kernel, rfl⟩
theorem dX10_told_58 : dn cX10_told 58 (.getfield 92) 3 61 := ⟨by decide +kernel, rfl⟩
theorem dX10_told_61 : dn cX10_told 61 (.ireturn) 1 62 := ⟨by decide +kernel, rfl⟩
theorem dX10_told_62 : dn cX10_told 62 (.aload_n 0) 1 63 := ⟨by decide +kernel, rfl⟩
theorem dX10_told_63 : dn cX10_told 63 (.getfield 105) 3 66 := ⟨by decide +kernel, rfl⟩
theorem dX10_told_66 : dn cX10_told 66 (.ireturn) 1 67 := ⟨by decide +kernel, rfl⟩
theorem dX10_told_67 : dn cX10_told 67 (.aload_n 0) 1 68 := ⟨by decide +kernel, rfl⟩
theorem dX10_told_68 : dn cX10_told 68 (.getfield 138) 3 71 := ⟨by decide +kernel, rfl⟩
theorem dX10_told_71 : dn cX10_told 71 (.ireturn) 1 72 := ⟨by decide +kernel, rfl⟩
theorem dX10_told_72 : dn cX10_told 72 (.aload_n 0) 1 73 := ⟨by decide +kernel, rfl⟩
theorem dX10_told_73 : dn cX10_told 73 (.bipush (-6)) 2 75 := ⟨by decide +kernel, rfl⟩
theorem dX10_told_75 : dn cX10_told 75 (.invokevirtual 238) 3 78 := ⟨by decide +kernel, rfl⟩
theorem dX10_told_78 : dn cX10_told 78 (.ireturn) 1 79 := ⟨by decide +kernel, rfl⟩
theorem dX10_told_79 : dn cX10_told 79 (.aload_n 0) 1 80 := ⟨by decide +kernel, rfl⟩
theorem dX10_told_80 : dn cX10_told 80 (.getfield 16) 3 83 := ⟨by decide +kernel, rfl⟩
theorem dX10_told_83 : dn cX10_told 83 (.iload_n 1) 1 84 := ⟨by decide +kernel, rfl⟩
theorem dX10_told_84 : dn cX10_told 84 (.iconst 5) 1 85 := ⟨by decide +kernel, rfl⟩
theorem dX10_told_85 : dn cX10_told 85 (.isub) 1 86 := ⟨by decide +kernel, rfl⟩
theorem dX10_told_86 : dn cX10_told 86 (.iaload) 1 87 := ⟨by decide +kernel, rfl⟩
theorem dX10_told_87 : dn cX10_told 87 (.ireturn) 1 88 := ⟨by decide +kernel, rfl⟩
theorem dX10_told_88 : dn cX10_told 88 (.bipush (-2)) 2 90 := ⟨by decide +kernel, rfl⟩
theorem dX10_told_90 : dn cX10_told 90 (.ireturn) 1 91 := ⟨by decide +kernel, rfl⟩
end
section
theorem uA_uA (A : Nat → Nat → Int32) (o : Nat) (f h : Nat → Int32) : uA (uA A o f) o h = uA A o h := by
  funext q
  unfold uA
  split <;> rfl
theorem uI_uI (I : Nat → Nat → Int32) (f o : Nat) (v x : Int32) : uI (uI I f o v) f o x = uI I f o x := by
  funext a b
  unfold uI
  split <;> rfl
theorem uA_same (A : Nat → Nat → Int32) (o : Nat) : uA A o (A o) = A := by
  funext q
  unfold uA
  split
  · rename_i h
    rw [h]
  · rfl
theorem uI_same (I : Nat → Nat → Int32) (f o : Nat) : uI I f o (I f o) = I := by
  funext a b
  unfold uI
  split
  · rename_i h
    rw [h.1, h.2]
  · rfl
section AWl
variable {g : GG} {cc : ByteArray} {nL : Nat} {ret : Option FieldType} {R : Room} {own : String} {Qc : Array Value → State → Outcome → State → Prop} {pc pc' tgt : Nat} {lv : List (Option Value)} {st : List Value} {σ : SG}
/-- a counter that goes up to e -/
theorem for_up (inv : Nat → SG → Prop) (lvf : Nat → List (Option Value)) (e : Nat) (step : ∀ i σ, i < e → inv i σ → (∀ σ', inv (i + 1) σ' → AW g cc nL ret R own Qc pc (lvf (i + 1)) st σ') → AW g cc nL ret R own Qc pc (lvf i) st σ) (last : ∀ σ, inv e σ → AW g cc nL ret R own Qc pc (lvf e) st σ) : ∀ (i : Nat) (σ : SG), i ≤ e → inv i σ → AW g cc nL ret R own Qc pc (lvf i) st σ := by
  have key : ∀ (n i : Nat) (σ : SG), n = e - i → i ≤ e → inv i σ → AW g cc nL ret R own Qc pc (lvf i) st σ := by
    intro n
    induction n with
    | zero =>
      intro i σ hn hi hv
      have : i = e := by omega
      subst this
      exact last σ hv
    | succ n ih =>
      intro i σ hn hi hv
      exact step i σ (by omega) hv (fun σ' h' => ih (i + 1) σ' (by omega) (by omega) h')
  exact fun i σ hi hv => key (e - i) i σ rfl hi hv
/-- any loop, by a measure that falls -/
theorem for_wf (P : Nat → SG → List (Option Value) → Prop) (step : ∀ n σ lv, P n σ lv → (∀ m σ' lv', m < n → P m σ' lv' → AW g cc nL ret R own Qc pc lv' st σ') → AW g cc nL ret R own Qc pc lv st σ) : ∀ n σ lv, P n σ lv → AW g cc nL ret R own Qc pc lv st σ := by
  intro n
  induction n using Nat.strongRecOn with
  | ind n ih => exact fun σ lv h => step n σ lv h (fun m σ' lv' hm h' => ih m hm σ' lv' h')
end AWl
/-- a part of a row moved down by four -/
def sh4 (f : Nat → Int32) (s i : Nat) : Nat → Int32 := fun k => if s ≤ k ∧ k < i then f (k + 4) else f k
theorem sh4_0 (f : Nat → Int32) (s : Nat) : sh4 f s s = f := by
  funext k
  unfold sh4
  rw [if_neg (by omega)]
theorem sh4_s {f : Nat → Int32} {s i : Nat} (h : s ≤ i) : upd (sh4 f s i) i (sh4 f s i (i + 4)) = sh4 f s (i + 1) := by
  funext k
  by_cases e : k = i
  · subst e
    rw [pk_us]
    unfold sh4
    rw [if_neg (by omega), if_pos (by omega)]
  · rw [pk_un e]
    unfold sh4
    by_cases q : s ≤ k ∧ k < i
    · rw [if_pos q, if_pos (by omega)]
    · rw [if_neg q, if_neg (by omega)]
/-- a row whose first i places are another's -/
def cp_ (f h : Nat → Int32) (i : Nat) : Nat → Int32 := fun k => if k < i then h k else f k
theorem cp_0 (f h : Nat → Int32) : cp_ f h 0 = f := by
  funext k
  unfold cp_
  rw [if_neg (by omega)]
theorem cp_s (f h : Nat → Int32) (i : Nat) : upd (cp_ f h i) i (h i) = cp_ f h (i + 1) := by
  funext k
  by_cases e : k = i
  · subst e
    rw [pk_us]
    unfold cp_
    rw [if_pos (by omega)]
  · rw [pk_un e]
    unfold cp_
    by_cases q : k < i
    · rw [if_pos q, if_pos (by omega)]
    · rw [if_neg q, if_neg (by omega)]
end
section
set_option maxHeartbeats 4000000 in
set_option maxRecDepth 100000 in
theorem ct_Rows_has {g : GG} {σ : SG} {o : Nat} (hk : kd o = 5) (row : Int32) : Cti g yX5_has cX5_has 2 (some .boolean) (rmm 0 0) [.ref (ad g o), .int row] σ (fun r σ' => r = (if ¬ row < 0 ∧ ¬ σ.1 162 o ≤ row then 1 else 0) ∧ σ' = σ) := by
  refine ct_of (own := RX5) (lv := [some (.ref (ad g o)), some (.int row)]) rfl (by decide) (Nat.le_of_ble_eq_true rfl) (by intro u hu; simp only [List.mem_cons, List.not_mem_nil, or_false] at hu; rcases hu with rfl | rfl <;> rfl) (lv_ok [.ref (ad g o), .int row] 0) ?_
  refine aw_iload_n dX5_has_0 rfl ?_
  refine aw_if_lt dX5_has_1 (fun h_1 => ?_) (fun h_1 => ?_)
  · skip
    refine aw_ic (nI 0) dX5_has_16 (by decide) ?_
    exact aw_iretz dX5_has_17 (by decide) (by first | exact ⟨(if_pos (by simp_all)).symm, rfl⟩ | exact ⟨(if_neg (by simp_all)).symm, rfl⟩)
  · skip
    refine aw_iload_n dX5_has_4 rfl ?_
    refine aw_aload_n dX5_has_5 rfl ?_
    refine gf5_count dX5_has_6 kf5_25 hk ?_
    refine aw_icmp_ge dX5_has_9 (fun h_9 => ?_) (fun h_9 => ?_)
    · skip
      refine aw_ic (nI 0) dX5_has_16 (by decide) ?_
      exact aw_iretz dX5_has_17 (by decide) (by first | exact ⟨(if_pos (by simp_all)).symm, rfl⟩ | exact ⟨(if_neg (by simp_all)).symm, rfl⟩)
    · skip
      refine aw_ic (nI 1) dX5_has_12 (by decide) ?_
      refine aw_goto dX5_has_13 ?_
      exact aw_iretz dX5_has_17 (by decide) (by first | exact ⟨(if_pos (by simp_all)).symm, rfl⟩ | exact ⟨(if_neg (by simp_all)).symm, rfl⟩)

set_option maxHeartbeats 4000000 in
set_option maxRecDepth 100000 in
theorem ct_Rows_isFull {g : GG} {σ : SG} {o : Nat} (hk : kd o = 5) : Cti g yX5_isFull cX5_isFull 1 (some .boolean) (rmm 0 0) [.ref (ad g o)] σ (fun r σ' => r = (if ¬ σ.1 162 o < σ.1 161 o then 1 else 0) ∧ σ' = σ) := by
  refine ct_of (own := RX5) (lv := [some (.ref (ad g o))]) rfl (by decide) (Nat.le_of_ble_eq_true rfl) (by intro u hu; simp only [List.mem_cons, List.not_mem_nil, or_false] at hu; rcases hu with rfl <;> rfl) (lv_ok [.ref (ad g o)] 0) ?_
  refine aw_aload_n dX5_isFull_0 rfl ?_
  refine gf5_count dX5_isFull_1 kf5_25 hk ?_
  refine aw_aload_n dX5_isFull_4 rfl ?_
  refine gf5_most dX5_isFull_5 kf5_15 hk ?_
  refine aw_icmp_lt dX5_isFull_8 (fun h_8 => ?_) (fun h_8 => ?_)
  · skip
    refine aw_ic (nI 0) dX5_isFull_15 (by decide) ?_
    exact aw_iretz dX5_isFull_16 (by decide) (by first | exact ⟨(if_pos (by simp_all)).symm, rfl⟩ | exact ⟨(if_neg (by simp_all)).symm, rfl⟩)
  · skip
    refine aw_ic (nI 1) dX5_isFull_11 (by decide) ?_
    refine aw_goto dX5_isFull_12 ?_
    exact aw_iretz dX5_isFull_16 (by decide) (by first | exact ⟨(if_pos (by simp_all)).symm, rfl⟩ | exact ⟨(if_neg (by simp_all)).symm, rfl⟩)

set_option maxHeartbeats 4000000 in
set_option maxRecDepth 100000 in
theorem ct_Rows_number {g : GG} {σ : SG} {o c r w : Nat} (hk : kd o = 5) (hc : σ.1 162 o = nI c) (hcl : 4 * c ≤ ln (o + 1)) (hr : r < c) (hw : w < 4) : Cti g yX5_number cX5_number 4 (some .int) (rmm 0 0) [.ref (ad g o), .int (nI r), .int (nI w)] σ (fun v σ' => v = σ.2.1 (o + 1) (4 * r + w) ∧ σ' = σ) := by
  refine ct_of (own := RX5) (lv := [some (.ref (ad g o)), some (.int (nI r)), some (.int (nI w)), none]) rfl (by decide) (Nat.le_of_ble_eq_true rfl) (by intro u hu; simp only [List.mem_cons, List.not_mem_nil, or_false] at hu; rcases hu with rfl | rfl | rfl <;> rfl) (lv_ok [.ref (ad g o), .int (nI r), .int (nI w)] 1) ?_
  have hln := ln_lt (o + 1)
  refine aw_iload_n dX5_number_0 rfl ?_
  refine aw_if_lt dX5_number_1 (fun h_1 => absurd h_1 (nI_pos (by omega))) (fun h_1 => ?_)
  refine aw_iload_n dX5_number_4 rfl ?_
  refine aw_aload_n dX5_number_5 rfl ?_
  refine gf5_count dX5_number_6 kf5_25 hk ?_
  refine aw_eq hc ?_
  refine aw_icmp_geN dX5_number_9 rfl rfl (by omega) (by omega) (fun h_9 => absurd h_9 (by omega)) (fun h_9 => ?_)
  refine aw_iload_n dX5_number_12 rfl ?_
  refine aw_if_lt dX5_number_13 (fun h_13 => absurd h_13 (nI_pos (by omega))) (fun h_13 => ?_)
  refine aw_iload_n dX5_number_16 rfl ?_
  refine aw_ic (nI 4) dX5_number_17 (by decide) ?_
  refine aw_icmp_geN dX5_number_18 rfl rfl (by omega) (by omega) (fun h_18 => absurd h_18 (by omega)) (fun h_18 => ?_)
  refine aw_ic (nI 1) dX5_number_21 (by decide) ?_
  refine aw_goto dX5_number_22 ?_
  refine aw_istore_n dX5_number_26 (Nat.le_of_ble_eq_true rfl) ?_
  refine aw_iload_n dX5_number_27 rfl ?_
  refine aw_if_eqN dX5_number_28 (a := 1) rfl (by omega) (fun h_28 => absurd h_28 (by omega)) (fun h_28 => ?_)
  refine aw_aload_n dX5_number_31 rfl ?_
  refine gf5_numbers dX5_number_32 kf5_21 hk ?_
  refine aw_iload_n dX5_number_35 rfl ?_
  refine aw_ic (nI 4) dX5_number_36 (by decide) ?_
  refine aw_imul dX5_number_37 ?_
  refine aw_iload_n dX5_number_38 rfl ?_
  refine aw_iadd dX5_number_39 ?_
  refine aw_ld (4 * r + w) dX5_number_40 (kf_5_numbers hk) (by rw [pk_mul, nI_add, Nat.mul_comm]) (by omega) ?_
  refine aw_goto dX5_number_41 ?_
  exact aw_ireti dX5_number_46 (⟨rfl, rfl⟩)

set_option maxHeartbeats 4000000 in
set_option maxRecDepth 100000 in
theorem ct_Rows_add {g : GG} {σ : SG} {o c : Nat} (hk : kd o = 5) (hc : σ.1 162 o = nI c) (hcl : 4 * c + 4 ≤ ln (o + 1)) (hm : σ.1 162 o < σ.1 161 o) (x1 x2 x3 x4 : Int32) : Ctv g yX5_add cX5_add 6 (rmm 1 20) [.ref (ad g o), .int x1, .int x2, .int x3, .int x4] σ (fun σ' => σ' = (uI σ.1 162 o (nI (c + 1)), uA σ.2.1 (o + 1) (upd (upd (upd (upd (σ.2.1 (o + 1)) (4 * c) x1) (4 * c + 1) x2) (4 * c + 2) x3) (4 * c + 3) x4), σ.2.2)) := by
  refine ct_of (own := RX5) (lv := [some (.ref (ad g o)), some (.int x1), some (.int x2), some (.int x3), some (.int x4), none]) rfl (by decide) (Nat.le_of_ble_eq_true rfl) (by intro u hu; simp only [List.mem_cons, List.not_mem_nil, or_false] at hu; rcases hu with rfl | rfl | rfl | rfl | rfl <;> rfl) (lv_ok [.ref (ad g o), .int x1, .int x2, .int x3, .int x4] 1) ?_
  have hln := ln_lt (o + 1)
  refine aw_aload_n dX5_add_0 rfl ?_
  refine cqi0 dX5_add_1 km5_28 ok_X5_isFull rfl rfl (by decide) hk (Nat.le_of_ble_eq_true rfl) ⟨Nat.le_of_ble_eq_true rfl, Nat.le_of_ble_eq_true rfl⟩ rfl rfl (ct_Rows_isFull hk) ?_
  refine aw_if_eqB dX5_add_4 rfl (fun h_4 => ?_) (fun h_4 => absurd h_4 (not_not_intro hm))
  refine aw_aload_n dX5_add_8 rfl ?_
  refine gf5_count dX5_add_9 kf5_25 hk ?_
  refine aw_eq hc ?_
  refine aw_ic (nI 4) dX5_add_12 (by decide) ?_
  refine aw_imul dX5_add_13 ?_
  refine aw_eq (show _ = nI (4 * c) by rw [pk_mul, Nat.mul_comm]) ?_
  refine aw_istore dX5_add_14 (Nat.le_of_ble_eq_true rfl) ?_
  refine aw_aload_n dX5_add_16 rfl ?_
  refine gf5_numbers dX5_add_17 kf5_21 hk ?_
  refine aw_iload dX5_add_20 rfl ?_
  refine aw_iload_n dX5_add_22 rfl ?_
  refine aw_sto (4 * c) dX5_add_23 (kf_5_numbers hk) (rfl) (by omega) ?_
  refine aw_aload_n dX5_add_24 rfl ?_
  refine gf5_numbers dX5_add_25 kf5_21 hk ?_
  refine aw_iload dX5_add_28 rfl ?_
  refine aw_ic (nI 1) dX5_add_30 (by decide) ?_
  refine aw_iadd dX5_add_31 ?_
  refine aw_iload_n dX5_add_32 rfl ?_
  refine aw_sto (4 * c + 1) dX5_add_33 (kf_5_numbers hk) (by rw [nI_add]) (by omega) ?_
  refine aw_sg (show _ = (σ.1, uA σ.2.1 (o + 1) (upd (upd (σ.2.1 (o + 1)) (4 * c) x1) (4 * c + 1) x2), σ.2.2) by rw [uA_s, uA_uA]) ?_
  refine aw_aload_n dX5_add_34 rfl ?_
  refine gf5_numbers dX5_add_35 kf5_21 hk ?_
  refine aw_iload dX5_add_38 rfl ?_
  refine aw_ic (nI 2) dX5_add_40 (by decide) ?_
  refine aw_iadd dX5_add_41 ?_
  refine aw_iload_n dX5_add_42 rfl ?_
  refine aw_sto (4 * c + 2) dX5_add_43 (kf_5_numbers hk) (by rw [nI_add]) (by omega) ?_
  refine aw_sg (show _ = (σ.1, uA σ.2.1 (o + 1) (upd (upd (upd (σ.2.1 (o + 1)) (4 * c) x1) (4 * c + 1) x2) (4 * c + 2) x3), σ.2.2) by rw [uA_s, uA_uA]) ?_
  refine aw_aload_n dX5_add_44 rfl ?_
  refine gf5_numbers dX5_add_45 kf5_21 hk ?_
  refine aw_iload dX5_add_48 rfl ?_
  refine aw_ic (nI 3) dX5_add_50 (by decide) ?_
  refine aw_iadd dX5_add_51 ?_
  refine aw_iload dX5_add_52 rfl ?_
  refine aw_sto (4 * c + 3) dX5_add_54 (kf_5_numbers hk) (by rw [nI_add]) (by omega) ?_
  refine aw_sg (show _ = (σ.1, uA σ.2.1 (o + 1) (upd (upd (upd (upd (σ.2.1 (o + 1)) (4 * c) x1) (4 * c + 1) x2) (4 * c + 2) x3) (4 * c + 3) x4), σ.2.2) by rw [uA_s, uA_uA]) ?_
  refine aw_aload_n dX5_add_55 rfl ?_
  refine aw_dup dX5_add_56 rfl ?_
  refine gf5_count dX5_add_57 kf5_25 hk ?_
  refine aw_eq hc ?_
  refine aw_ic (nI 1) dX5_add_60 (by decide) ?_
  refine aw_iadd dX5_add_61 ?_
  refine aw_eq (show _ = nI (c + 1) by rw [nI_add]) ?_
  refine pf5_count dX5_add_62 kf5_25 hk ?_
  exact aw_ret dX5_add_65 (rfl)

set_option maxHeartbeats 4000000 in
set_option maxRecDepth 100000 in
theorem ct_Rows_remove {g : GG} {σ : SG} {o c r : Nat} (hk : kd o = 5) (hc : σ.1 162 o = nI c) (hcl : 4 * c ≤ ln (o + 1)) (hr : r < c) : Ctv g yX5_remove cX5_remove 4 (rmm 1 21) [.ref (ad g o), .int (nI r)] σ (fun σ' => σ' = (uI σ.1 162 o (nI (c - 1)), uA σ.2.1 (o + 1) (sh4 (σ.2.1 (o + 1)) (4 * r) (4 * (c - 1))), σ.2.2)) := by
  refine ct_of (own := RX5) (lv := [some (.ref (ad g o)), some (.int (nI r)), none, none]) rfl (by decide) (Nat.le_of_ble_eq_true rfl) (by intro u hu; simp only [List.mem_cons, List.not_mem_nil, or_false] at hu; rcases hu with rfl | rfl <;> rfl) (lv_ok [.ref (ad g o), .int (nI r)] 2) ?_
  have hln := ln_lt (o + 1)
  refine aw_aload_n dX5_remove_0 rfl ?_
  refine aw_iload_n dX5_remove_1 rfl ?_
  refine cqi1 dX5_remove_2 km5_32 ok_X5_has rfl rfl (by decide) hk (Nat.le_of_ble_eq_true rfl) ⟨Nat.le_of_ble_eq_true rfl, Nat.le_of_ble_eq_true rfl⟩ rfl rfl (ct_Rows_has hk (nI r)) ?_
  refine aw_if_neB dX5_remove_5 rfl (fun h_5 => ?_) (fun h_5 => absurd h_5 (not_not_intro ⟨nI_pos (by omega), by rw [hc]; exact nI_ge hr (by omega)⟩))
  refine aw_aload_n dX5_remove_9 rfl ?_
  refine gf5_count dX5_remove_10 kf5_25 hk ?_
  refine aw_eq hc ?_
  refine aw_ic (nI 1) dX5_remove_13 (by decide) ?_
  refine aw_isub dX5_remove_14 ?_
  refine aw_eq (show _ = nI (c - 1) from pk_sub (by omega)) ?_
  refine aw_ic (nI 4) dX5_remove_15 (by decide) ?_
  refine aw_imul dX5_remove_16 ?_
  refine aw_eq (show _ = nI (4 * (c - 1)) by rw [pk_mul, Nat.mul_comm]) ?_
  refine aw_istore_n dX5_remove_17 (Nat.le_of_ble_eq_true rfl) ?_
  refine aw_iload_n dX5_remove_18 rfl ?_
  refine aw_ic (nI 4) dX5_remove_19 (by decide) ?_
  refine aw_imul dX5_remove_20 ?_
  refine aw_eq (show _ = nI (4 * r) by rw [pk_mul, Nat.mul_comm]) ?_
  refine aw_istore_n dX5_remove_21 (Nat.le_of_ble_eq_true rfl) ?_
  refine for_up (fun i σ' => 4 * r ≤ i ∧ σ' = (σ.1, uA σ.2.1 (o + 1) (sh4 (σ.2.1 (o + 1)) (4 * r) i), σ.2.2)) (fun i => [some (.ref (ad g o)), some (.int (nI r)), some (.int (nI (4 * (c - 1)))), some (.int (nI i))]) (4 * (c - 1)) ?_ ?_ (4 * r) σ (by omega) ⟨Nat.le_refl _, by rw [sh4_0, uA_same]⟩
  · rintro i σ2 hi ⟨hi2, rfl⟩ ih
    refine aw_iload_n dX5_remove_22 rfl ?_
    refine aw_iload_n dX5_remove_23 rfl ?_
    refine aw_icmp_geN dX5_remove_24 rfl rfl (by omega) (by omega) (fun h_24 => absurd h_24 (by omega)) (fun h_24 => ?_)
    refine aw_aload_n dX5_remove_27 rfl ?_
    refine gf5_numbers dX5_remove_28 kf5_21 hk ?_
    refine aw_iload_n dX5_remove_31 rfl ?_
    refine aw_aload_n dX5_remove_32 rfl ?_
    refine gf5_numbers dX5_remove_33 kf5_21 hk ?_
    refine aw_iload_n dX5_remove_36 rfl ?_
    refine aw_ic (nI 4) dX5_remove_37 (by decide) ?_
    refine aw_iadd dX5_remove_38 ?_
    refine aw_ld (i + 4) dX5_remove_39 (kf_5_numbers hk) (by rw [nI_add]) (by omega) ?_
    refine aw_sto (i) dX5_remove_40 (kf_5_numbers hk) (rfl) (by omega) ?_
    refine aw_inc (nI (i + 1)) dX5_remove_41 rfl (Nat.le_of_ble_eq_true rfl) (nI_1 i) ?_
    refine aw_goto dX5_remove_44 ?_
    exact ih _ ⟨by omega, by rw [uA_s, uA_uA, sh4_s hi2]⟩
  · rintro σ2 ⟨hi2, rfl⟩
    refine aw_iload_n dX5_remove_22 rfl ?_
    refine aw_iload_n dX5_remove_23 rfl ?_
    refine aw_icmp_geN dX5_remove_24 rfl rfl (by omega) (by omega) (fun h_24 => ?_) (fun h_24 => absurd h_24 (by omega))
    refine aw_aload_n dX5_remove_47 rfl ?_
    refine aw_dup dX5_remove_48 rfl ?_
    refine gf5_count dX5_remove_49 kf5_25 hk ?_
    refine aw_eq hc ?_
    refine aw_ic (nI 1) dX5_remove_52 (by decide) ?_
    refine aw_isub dX5_remove_53 ?_
    refine aw_eq (show _ = nI (c - 1) from pk_sub (by omega)) ?_
    refine pf5_count dX5_remove_54 kf5_25 hk ?_
    exact aw_ret dX5_remove_57 (rfl)

set_option maxHeartbeats 4000000 in
set_option maxRecDepth 100000 in
theorem ct_Rows_take {g : GG} {σ : SG} {o o2 c : Nat} (hk : kd o = 5) (hk2 : kd o2 = 5) (hne0 : o2 ≠ o) (hm : σ.1 161 o2 = σ.1 161 o) (hc : σ.1 162 o2 = nI c) (hcl : 4 * c ≤ ln (o + 1)) (hcl2 : 4 * c ≤ ln (o2 + 1)) : Ctv g yX5_take cX5_take 3 (rmm 0 0) [.ref (ad g o), .ref (ad g o2)] σ (fun σ' => σ' = (uI σ.1 162 o (nI c), uA σ.2.1 (o + 1) (cp_ (σ.2.1 (o + 1)) (σ.2.1 (o2 + 1)) (4 * c)), σ.2.2)) := by
  refine ct_of (own := RX5) (lv := [some (.ref (ad g o)), some (.ref (ad g o2)), none]) rfl (by decide) (Nat.le_of_ble_eq_true rfl) (by intro u hu; simp only [List.mem_cons, List.not_mem_nil, or_false] at hu; rcases hu with rfl | rfl <;> rfl) (lv_ok [.ref (ad g o), .ref (ad g o2)] 1) ?_
  have hln := ln_lt (o + 1)
  have hne : o2 + 1 ≠ o + 1 := by omega
  refine aw_aload_n dX5_take_0 rfl ?_
  refine gf5_most dX5_take_1 kf5_15 hk2 ?_
  refine aw_aload_n dX5_take_4 rfl ?_
  refine gf5_most dX5_take_5 kf5_15 hk ?_
  refine aw_icmp_eq dX5_take_8 (fun _ => ?_) (fun h => absurd hm h)
  refine aw_aload_n dX5_take_12 rfl ?_
  refine aw_aload_n dX5_take_13 rfl ?_
  refine gf5_count dX5_take_14 kf5_25 hk2 ?_
  refine aw_eq hc ?_
  refine pf5_count dX5_take_17 kf5_25 hk ?_
  refine aw_ic (nI 0) dX5_take_20 (by decide) ?_
  refine aw_istore_n dX5_take_21 (Nat.le_of_ble_eq_true rfl) ?_
  refine for_up (fun i σ' => σ' = (uI σ.1 162 o (nI c), uA σ.2.1 (o + 1) (cp_ (σ.2.1 (o + 1)) (σ.2.1 (o2 + 1)) i), σ.2.2)) (fun i => [some (.ref (ad g o)), some (.ref (ad g o2)), some (.int (nI i))]) (4 * c) ?_ ?_ 0 _ (Nat.zero_le _) (by rw [cp_0, uA_same])
  · rintro i σ2 hi rfl ih
    refine aw_iload_n dX5_take_22 rfl ?_
    refine aw_aload_n dX5_take_23 rfl ?_
    refine gf5_count dX5_take_24 kf5_25 hk ?_
    refine aw_eq (uI_s _ _ _ _) ?_
    refine aw_ic (nI 4) dX5_take_27 (by decide) ?_
    refine aw_imul dX5_take_28 ?_
    refine aw_eq (show _ = nI (4 * c) by rw [pk_mul, Nat.mul_comm]) ?_
    refine aw_icmp_geN dX5_take_29 rfl rfl (by omega) (by omega) (fun h_29 => absurd h_29 (by omega)) (fun h_29 => ?_)
    refine aw_aload_n dX5_take_32 rfl ?_
    refine gf5_numbers dX5_take_33 kf5_21 hk ?_
    refine aw_iload_n dX5_take_36 rfl ?_
    refine aw_aload_n dX5_take_37 rfl ?_
    refine gf5_numbers dX5_take_38 kf5_21 hk2 ?_
    refine aw_iload_n dX5_take_41 rfl ?_
    refine aw_ld (i) dX5_take_42 (kf_5_numbers hk2) (rfl) (by omega) ?_
    refine aw_eq (show _ = σ.2.1 (o2 + 1) i by rw [uA_n hne]) ?_
    refine aw_sto (i) dX5_take_43 (kf_5_numbers hk) (rfl) (by omega) ?_
    refine aw_inc (nI (i + 1)) dX5_take_44 rfl (Nat.le_of_ble_eq_true rfl) (nI_1 i) ?_
    refine aw_goto dX5_take_47 ?_
    exact ih _ (by rw [uA_s, uA_uA, cp_s])
  · rintro σ2 rfl
    refine aw_iload_n dX5_take_22 rfl ?_
    refine aw_aload_n dX5_take_23 rfl ?_
    refine gf5_count dX5_take_24 kf5_25 hk ?_
    refine aw_eq (uI_s _ _ _ _) ?_
    refine aw_ic (nI 4) dX5_take_27 (by decide) ?_
    refine aw_imul dX5_take_28 ?_
    refine aw_eq (show _ = nI (4 * c) by rw [pk_mul, Nat.mul_comm]) ?_
    refine aw_icmp_geN dX5_take_29 rfl rfl (by omega) (by omega) (fun h_29 => ?_) (fun h_29 => absurd h_29 (by omega))
    exact aw_ret dX5_take_50 (rfl)
end
section
/-- labels of the first n things, held as leads: a lead is a lesser thing of the same label, or itself -/
def Fo (n : Nat) (lab : Nat → Nat) (L : Nat → Int32) : Prop := ∀ k, k < n → ∃ m, m ≤ k ∧ L k = nI m ∧ lab k = (if m = k then k else lab m)
theorem Fo.le {n : Nat} {lab : Nat → Nat} {L : Nat → Int32} (h : Fo n lab L) : ∀ k, k < n → lab k ≤ k := by
  intro k
  induction k using Nat.strongRecOn with
  | ind k ih =>
    intro hk
    obtain ⟨m, h1, h2, h3⟩ := h k hk
    by_cases e : m = k
    · rw [h3, if_pos e]
      exact Nat.le_refl _
    · rw [h3, if_neg e]
      have := ih m (by omega) (by omega)
      omega
theorem Fo.idem {n : Nat} {lab : Nat → Nat} {L : Nat → Int32} (h : Fo n lab L) : ∀ k, k < n → lab (lab k) = lab k := by
  intro k
  induction k using Nat.strongRecOn with
  | ind k ih =>
    intro hk
    obtain ⟨m, h1, h2, h3⟩ := h k hk
    by_cases e : m = k
    · rw [if_pos e] at h3
      rw [h3, h3]
    · rw [if_neg e] at h3
      rw [h3]
      exact ih m (by omega) (by omega)
/-- two labels become the lesser one -/
def joinL (lab : Nat → Nat) (a b : Nat) : Nat → Nat := fun k => if lab k = max (lab a) (lab b) then min (lab a) (lab b) else lab k
theorem joinL_same {lab : Nat → Nat} {a b : Nat} (h : lab a = lab b) : joinL lab a b = lab := by
  funext k
  unfold joinL
  split
  · omega
  · rfl
theorem Fo.join {n : Nat} {lab : Nat → Nat} {L : Nat → Int32} (h : Fo n lab L) {a b : Nat} (ha : a < n) (hb : b < n) (hne : lab a ≠ lab b) : Fo n (joinL lab a b) (upd L (max (lab a) (lab b)) (nI (min (lab a) (lab b)))) := by
  have ia := h.idem a ha
  have ib := h.idem b hb
  have hM : lab (max (lab a) (lab b)) = max (lab a) (lab b) := by
    rcases Nat.le_total (lab a) (lab b) with q | q
    · rw [Nat.max_eq_right q]; exact ib
    · rw [Nat.max_eq_left q]; exact ia
  have hm : lab (min (lab a) (lab b)) = min (lab a) (lab b) := by
    rcases Nat.le_total (lab a) (lab b) with q | q
    · rw [Nat.min_eq_left q]; exact ia
    · rw [Nat.min_eq_right q]; exact ib
  intro k hk
  by_cases e : k = max (lab a) (lab b)
  · refine ⟨min (lab a) (lab b), by omega, by rw [e, pk_us], ?_⟩
    rw [if_neg (by omega)]
    unfold joinL
    rw [hm, e, hM, if_pos rfl, if_neg (by omega)]
  · obtain ⟨m, h1, h2, h3⟩ := h k hk
    refine ⟨m, h1, by rw [pk_un e]; exact h2, ?_⟩
    by_cases q : m = k
    · rw [if_pos q] at h3 ⊢
      unfold joinL
      rw [h3, if_neg e]
    · rw [if_neg q] at h3 ⊢
      unfold joinL
      rw [h3]
theorem Fo.part {n : Nat} {L : Nat → Int32} (h : ∀ k, k < n → L k = nI k) : Fo n (fun k => k) L := fun k hk => ⟨k, Nat.le_refl _, h k hk, by rw [if_pos rfl]⟩
theorem ln_groups {o : Nat} (h : kd o = 1) : ln (o + 1) = 121 := kd_all (P := fun o => ln (o + 1) = 121) 1 (by decide) (by decide +kernel) h
set_option maxHeartbeats 4000000 in
set_option maxRecDepth 100000 in
theorem ct_Groups_part {g : GG} {σ : SG} {o c : Nat} (hk : kd o = 1) (hc : c ≤ 121) : Ctv g yX1_part cX1_part 3 (rmm 0 0) [.ref (ad g o), .int (nI c)] σ (fun σ' => σ' = (σ.1, uA σ.2.1 (o + 1) (cp_ (σ.2.1 (o + 1)) nI c), σ.2.2)) := by
  refine ct_of (own := RX1) (lv := [some (.ref (ad g o)), some (.int (nI c)), none]) rfl (by decide) (Nat.le_of_ble_eq_true rfl) (by intro u hu; simp only [List.mem_cons, List.not_mem_nil, or_false] at hu; rcases hu with rfl | rfl <;> rfl) (lv_ok [.ref (ad g o), .int (nI c)] 1) ?_
  have hln := ln_groups hk
  refine aw_ic (nI 0) dX1_part_0 (by decide) ?_
  refine aw_istore_n dX1_part_1 (Nat.le_of_ble_eq_true rfl) ?_
  refine for_up (fun i σ' => σ' = (σ.1, uA σ.2.1 (o + 1) (cp_ (σ.2.1 (o + 1)) nI i), σ.2.2)) (fun i => [some (.ref (ad g o)), some (.int (nI c)), some (.int (nI i))]) c ?_ ?_ 0 σ (Nat.zero_le _) (by rw [cp_0, uA_same])
  · rintro i σ2 hi rfl ih
    refine aw_iload_n dX1_part_2 rfl ?_
    refine aw_iload_n dX1_part_3 rfl ?_
    refine aw_icmp_geN dX1_part_4 rfl rfl (by omega) (by omega) (fun h_4 => absurd h_4 (by omega)) (fun h_4 => ?_)
    refine aw_iload_n dX1_part_7 rfl ?_
    refine aw_aload_n dX1_part_8 rfl ?_
    refine gf1_leads dX1_part_9 kf1_13 hk ?_
    refine aw_alen dX1_part_12 (kf_1_leads hk) (Or.inl rfl) ?_
    refine aw_icmp_geN dX1_part_13 rfl rfl (by omega) (by omega) (fun h_13 => absurd h_13 (by omega)) (fun h_13 => ?_)
    refine aw_aload_n dX1_part_16 rfl ?_
    refine gf1_leads dX1_part_17 kf1_13 hk ?_
    refine aw_iload_n dX1_part_20 rfl ?_
    refine aw_iload_n dX1_part_21 rfl ?_
    refine aw_sto (i) dX1_part_22 (kf_1_leads hk) (rfl) (by omega) ?_
    refine aw_inc (nI (i + 1)) dX1_part_23 rfl (Nat.le_of_ble_eq_true rfl) (nI_1 i) ?_
    refine aw_goto dX1_part_26 ?_
    exact ih _ (by rw [uA_s, uA_uA, cp_s])
  · rintro σ2 rfl
    refine aw_iload_n dX1_part_2 rfl ?_
    refine aw_iload_n dX1_part_3 rfl ?_
    refine aw_icmp_geN dX1_part_4 rfl rfl (by omega) (by omega) (fun h_4 => ?_) (fun h_4 => absurd h_4 (by omega))
    exact aw_ret dX1_part_29 (rfl)

set_option maxHeartbeats 4000000 in
set_option maxRecDepth 100000 in
theorem ct_Groups_firstOf {g : GG} {σ : SG} {o n k : Nat} {lab : Nat → Nat} (hk : kd o = 1) (hF : Fo n lab (σ.2.1 (o + 1))) (hkn : k < n) (hn : n ≤ 121) : Cti g yX1_firstOf cX1_firstOf 4 (some .int) (rmm 0 0) [.ref (ad g o), .int (nI k)] σ (fun r σ' => r = nI (lab k) ∧ σ' = σ) := by
  refine ct_of (own := RX1) (lv := [some (.ref (ad g o)), some (.int (nI k)), none, none]) rfl (by decide) (Nat.le_of_ble_eq_true rfl) (by intro u hu; simp only [List.mem_cons, List.not_mem_nil, or_false] at hu; rcases hu with rfl | rfl <;> rfl) (lv_ok [.ref (ad g o), .int (nI k)] 2) ?_
  have hln := ln_groups hk
  have hk31 : k < 2 ^ 31 := by omega
  refine aw_iload_n dX1_firstOf_0 rfl ?_
  refine aw_if_lt dX1_firstOf_1 (fun h_1 => absurd h_1 (nI_pos hk31)) (fun h_1 => ?_)
  refine aw_iload_n dX1_firstOf_4 rfl ?_
  refine aw_aload_n dX1_firstOf_5 rfl ?_
  refine gf1_leads dX1_firstOf_6 kf1_13 hk ?_
  refine aw_alen dX1_firstOf_9 (kf_1_leads hk) (Or.inl rfl) ?_
  refine aw_icmp_ltN dX1_firstOf_10 rfl rfl (by omega) (by omega) (fun h_10 => ?_) (fun h_10 => absurd h_10 (by omega))
  refine aw_iload_n dX1_firstOf_15 rfl ?_
  refine aw_istore_n dX1_firstOf_16 (Nat.le_of_ble_eq_true rfl) ?_
  refine aw_ic (nI 0) dX1_firstOf_17 (by decide) ?_
  refine aw_istore_n dX1_firstOf_18 (Nat.le_of_ble_eq_true rfl) ?_
  refine for_wf (fun n σ' lv => ∃ s, n + s ≤ k ∧ lab n = lab k ∧ σ' = σ ∧ lv = [some (.ref (ad g o)), some (.int (nI k)), some (.int (nI n)), some (.int (nI s))]) ?_ k σ _ ⟨0, by omega, rfl, rfl, rfl⟩
  rintro n σ2 lv2 ⟨s, h1, h2, rfl, rfl⟩ ih
  obtain ⟨m, h3, h4, h5⟩ := hF n (by omega)
  refine aw_iload_n dX1_firstOf_19 rfl ?_
  refine aw_aload_n dX1_firstOf_20 rfl ?_
  refine gf1_leads dX1_firstOf_21 kf1_13 hk ?_
  refine aw_alen dX1_firstOf_24 (kf_1_leads hk) (Or.inl rfl) ?_
  refine aw_icmp_geN dX1_firstOf_25 rfl rfl (by omega) (by omega) (fun h_25 => absurd h_25 (by omega)) (fun h_25 => ?_)
  refine aw_aload_n dX1_firstOf_28 rfl ?_
  refine gf1_leads dX1_firstOf_29 kf1_13 hk ?_
  refine aw_iload_n dX1_firstOf_32 rfl ?_
  refine aw_ld (n) dX1_firstOf_33 (kf_1_leads hk) (rfl) (by omega) ?_
  refine aw_eq h4 ?_
  refine aw_iload_n dX1_firstOf_34 rfl ?_
  refine aw_icmp_geN dX1_firstOf_35 rfl rfl (by omega) (by omega) (fun h_35 => ?_) (fun h_35 => ?_)
  · skip
    refine aw_iload_n dX1_firstOf_51 rfl ?_
    exact aw_ireti dX1_firstOf_52 (⟨by rw [← h2, h5, if_pos (by omega)], rfl⟩)
  · skip
    refine aw_aload_n dX1_firstOf_38 rfl ?_
    refine gf1_leads dX1_firstOf_39 kf1_13 hk ?_
    refine aw_iload_n dX1_firstOf_42 rfl ?_
    refine aw_ld (n) dX1_firstOf_43 (kf_1_leads hk) (rfl) (by omega) ?_
    refine aw_eq h4 ?_
    refine aw_istore_n dX1_firstOf_44 (Nat.le_of_ble_eq_true rfl) ?_
    refine aw_inc (nI (s + 1)) dX1_firstOf_45 rfl (Nat.le_of_ble_eq_true rfl) (nI_1 s) ?_
    refine aw_goto dX1_firstOf_48 ?_
    exact ih m _ _ h_35 ⟨s + 1, by omega, by rw [← h2, h5, if_neg (by omega)], rfl, rfl⟩

set_option maxHeartbeats 4000000 in
set_option maxRecDepth 100000 in
theorem ct_Groups_join {g : GG} {σ : SG} {o n a b : Nat} {lab : Nat → Nat} (hk : kd o = 1) (hF : Fo n lab (σ.2.1 (o + 1))) (ha : a < n) (hb : b < n) (hn : n ≤ 121) : Ctv g yX1_join cX1_join 5 (rmm 1 23) [.ref (ad g o), .int (nI a), .int (nI b)] σ (fun σ' => ∃ L, σ' = (σ.1, uA σ.2.1 (o + 1) L, σ.2.2) ∧ Fo n (joinL lab a b) L) := by
  refine ct_of (own := RX1) (lv := [some (.ref (ad g o)), some (.int (nI a)), some (.int (nI b)), none, none]) rfl (by decide) (Nat.le_of_ble_eq_true rfl) (by intro u hu; simp only [List.mem_cons, List.not_mem_nil, or_false] at hu; rcases hu with rfl | rfl | rfl <;> rfl) (lv_ok [.ref (ad g o), .int (nI a), .int (nI b)] 2) ?_
  have hln := ln_groups hk
  have la := hF.le a ha
  have lb := hF.le b hb
  refine aw_aload_n dX1_join_0 rfl ?_
  refine aw_iload_n dX1_join_1 rfl ?_
  refine cqi1 dX1_join_2 km1_19 ok_X1_firstOf rfl rfl (by decide) hk (Nat.le_of_ble_eq_true rfl) ⟨Nat.le_of_ble_eq_true rfl, Nat.le_of_ble_eq_true rfl⟩ rfl rfl (ct_Groups_firstOf hk hF ha hn) ?_
  refine aw_istore_n dX1_join_5 (Nat.le_of_ble_eq_true rfl) ?_
  refine aw_aload_n dX1_join_6 rfl ?_
  refine aw_iload_n dX1_join_7 rfl ?_
  refine cqi1 dX1_join_8 km1_19 ok_X1_firstOf rfl rfl (by decide) hk (Nat.le_of_ble_eq_true rfl) ⟨Nat.le_of_ble_eq_true rfl, Nat.le_of_ble_eq_true rfl⟩ rfl rfl (ct_Groups_firstOf hk hF hb hn) ?_
  refine aw_istore dX1_join_11 (Nat.le_of_ble_eq_true rfl) ?_
  refine aw_iload_n dX1_join_13 rfl ?_
  refine aw_iload dX1_join_14 rfl ?_
  refine aw_icmp_eqN dX1_join_16 rfl rfl (by omega) (by omega) (fun h_16 => ?_) (fun h_16 => ?_)
  · skip
    exact aw_ret dX1_join_36 (by
        first
          | exact ⟨_, rfl, hF.join ha hb h_16⟩
          | exact ⟨σ.2.1 (o + 1), by rw [uA_same], by rw [joinL_same h_16]; exact hF⟩)
  · skip
    refine aw_aload_n dX1_join_19 rfl ?_
    refine gf1_leads dX1_join_20 kf1_13 hk ?_
    refine aw_iload_n dX1_join_23 rfl ?_
    refine aw_iload dX1_join_24 rfl ?_
    refine aw_max dX1_join_26 km1_7 ⟨Nat.le_of_ble_eq_true rfl, Nat.le_of_ble_eq_true rfl⟩ ?_
    refine aw_eq (show _ = nI (max (lab a) (lab b)) by
      rw [Nat.max_def]
      by_cases q : lab a < lab b
      · rw [if_pos (nI_lt q (by omega)), if_pos (by omega)]
      · rw [if_neg (nI_nlt (by omega) (by omega))]
        by_cases q2 : lab a ≤ lab b
        · rw [if_pos q2, show lab a = lab b by omega]
        · rw [if_neg q2]) ?_
    refine aw_iload_n dX1_join_29 rfl ?_
    refine aw_iload dX1_join_30 rfl ?_
    refine aw_min dX1_join_32 km1_23 ⟨Nat.le_of_ble_eq_true rfl, Nat.le_of_ble_eq_true rfl⟩ ?_
    refine aw_eq (show _ = nI (min (lab a) (lab b)) by
      rw [Nat.min_def]
      by_cases q : lab b < lab a
      · rw [if_pos (nI_lt q (by omega)), if_neg (by omega)]
      · rw [if_neg (nI_nlt (by omega) (by omega)), if_pos (by omega)]) ?_
    refine aw_sto (max (lab a) (lab b)) dX1_join_35 (kf_1_leads hk) (rfl) (by omega) ?_
    exact aw_ret dX1_join_36 (by
        first
          | exact ⟨_, rfl, hF.join ha hb h_16⟩
          | exact ⟨σ.2.1 (o + 1), by rw [uA_same], by rw [joinL_same h_16]; exact hF⟩)
end
section
theorem sub_gtN {a b c : Nat} (ha : a < 2 ^ 30) (hb : b < 2 ^ 30) (hc : c < 2 ^ 30) : nI c < nI a - nI b ↔ c + b < a := by
  rw [Int32.lt_iff_toInt_lt, pk_sub_toInt ha hb, nI_toInt (Nat.lt_trans hc (by decide))]
  omega
theorem sub_ltN {a b c : Nat} (ha : a < 2 ^ 30) (hb : b < 2 ^ 30) (hc : c < 2 ^ 30) : nI a - nI b < nI c ↔ a < c + b := by
  rw [Int32.lt_iff_toInt_lt, pk_sub_toInt ha hb, nI_toInt (Nat.lt_trans hc (by decide))]
  omega
theorem sub_leN {a b c : Nat} (ha : a < 2 ^ 30) (hb : b < 2 ^ 30) (hc : c < 2 ^ 30) : nI a - nI b ≤ nI c ↔ a ≤ c + b := by
  rw [Int32.le_iff_toInt_le, pk_sub_toInt ha hb, nI_toInt (Nat.lt_trans hc (by decide))]
  omega
theorem sub_geN {a b c : Nat} (ha : a < 2 ^ 30) (hb : b < 2 ^ 30) (hc : c < 2 ^ 30) : nI c ≤ nI a - nI b ↔ c + b ≤ a := by
  rw [Int32.le_iff_toInt_le, pk_sub_toInt ha hb, nI_toInt (Nat.lt_trans hc (by decide))]
  omega
theorem maxN {a b : Nat} (ha : a < 2 ^ 31) (hb : b < 2 ^ 31) : (if nI a < nI b then nI b else nI a) = nI (max a b) := by
  by_cases q : a < b
  · rw [if_pos (nI_lt q hb), Nat.max_eq_right (Nat.le_of_lt q)]
  · rw [if_neg (nI_nlt (Nat.not_lt.mp q) ha), Nat.max_eq_left (Nat.not_lt.mp q)]
theorem minN {a b : Nat} (ha : a < 2 ^ 31) (hb : b < 2 ^ 31) : (if nI b < nI a then nI b else nI a) = nI (min a b) := by
  by_cases q : b < a
  · rw [if_pos (nI_lt q ha), Nat.min_eq_right (Nat.le_of_lt q)]
  · rw [if_neg (nI_nlt (Nat.not_lt.mp q) hb), Nat.min_eq_left (Nat.not_lt.mp q)]
/-- rows that hold numbers: c of them, v p w is the number w of row p -/
def RowN (σ : SG) (o c : Nat) (v : Nat → Nat → Nat) : Prop := kd o = 5 ∧ σ.1 162 o = nI c ∧ 4 * c ≤ ln (o + 1) ∧ ∀ p w, p < c → w < 4 → σ.2.1 (o + 1) (4 * p + w) = nI (v p w) ∧ v p w ≤ 99
theorem ct_num {g : GG} {σ : SG} {o c r w : Nat} {v : Nat → Nat → Nat} (h : RowN σ o c v) (hr : r < c) (hw : w < 4) : Cti g yX5_number cX5_number 4 (some .int) (rmm 0 0) [.ref (ad g o), .int (nI r), .int (nI w)] σ (fun x σ' => x = nI (v r w) ∧ σ' = σ) := by
  have := ct_Rows_number (g := g) h.1 h.2.1 h.2.2.1 hr hw
  rw [(h.2.2.2 r w hr hw).1] at this
  exact this
/-- the numbers of a rule: 0 way, 1 at, 2 from, 3 to, 4 how many pieces, 5 its first one, 6 its longest one -/
def RuF (I : Nat → Nat → Int32) (o : Nat) (ra : Nat → Nat) : Prop := I 192 o = nI (ra 0) ∧ I 193 o = nI (ra 1) ∧ I 194 o = nI (ra 2) ∧ I 195 o = nI (ra 3) ∧ I 197 o = nI (ra 4) ∧ I 198 o = nI (ra 5) ∧ I 196 o = nI (ra 6)
def RuB (ra : Nat → Nat) : Prop := ra 0 ≤ 99 ∧ ra 1 ≤ 99 ∧ ra 2 ≤ 99 ∧ ra 3 ≤ 99 ∧ ra 4 ≤ 99 ∧ ra 5 ≤ 99 ∧ ra 6 ≤ 99
def befN (ra rb : Nat → Nat) : Bool := if ra 0 = rb 0 then (if ra 1 = rb 1 then (if ra 2 = rb 2 then (if ra 3 = rb 3 then decide (ra 5 < rb 5) else decide (ra 3 < rb 3)) else decide (ra 2 < rb 2)) else decide (ra 1 < rb 1)) else decide (ra 0 < rb 0)
def covN (ra : Nat → Nat) (b e rc : Nat) : Bool := decide (ra 2 ≤ b + rc) && decide (e ≤ ra 3 + rc)
def crossN (ra rb : Nat → Nat) (rc : Nat) : Bool := decide (ra 0 ≠ rb 0) && (covN ra (rb 1) (rb 1) rc && covN rb (ra 1) (ra 1) rc)
def rBeg (pc : Nat → Nat → Nat) (p : Nat) : Nat → Nat := fun k => if k = 4 then 1 else if k = 5 then p else if k = 6 then pc p 3 - pc p 2 else pc p k
def rTake (ra : Nat → Nat) (pc : Nat → Nat → Nat) (p : Nat) : Nat → Nat := fun k => if k = 1 then (if ra 6 < pc p 3 - pc p 2 then pc p 1 else ra 1) else if k = 2 then min (ra 2) (pc p 2) else if k = 3 then max (ra 3) (pc p 3) else if k = 4 then ra 4 + 1 else if k = 6 then max (ra 6) (pc p 3 - pc p 2) else ra k
set_option maxHeartbeats 4000000 in
set_option maxRecDepth 100000 in
theorem ct_Rule_begin {g : GG} {σ : SG} {o o5 c p : Nat} {pc : Nat → Nat → Nat} (hk : kd o = 6) (hR : RowN σ o5 c pc) (hp : p < c) (hft : pc p 2 < pc p 3) : Ctv g yX6_begin cX6_begin 3 (rmm 1 23) [.ref (ad g o), .ref (ad g o5), .int (nI p)] σ (fun σ' => ∃ I, σ' = (I, σ.2) ∧ RuF I o (rBeg pc p) ∧ I 199 o = nI 0 ∧ I 200 o = -6 ∧ ∀ f o', o' ≠ o → I f o' = σ.1 f o') := by
  refine ct_of (own := RX6) (lv := [some (.ref (ad g o)), some (.ref (ad g o5)), some (.int (nI p))]) rfl (by decide) (Nat.le_of_ble_eq_true rfl) (by intro u hu; simp only [List.mem_cons, List.not_mem_nil, or_false] at hu; rcases hu with rfl | rfl | rfl <;> rfl) (lv_ok [.ref (ad g o), .ref (ad g o5), .int (nI p)] 0) ?_
  have hne : o5 ≠ o := fun e => by rw [e] at hR; exact absurd (hR.1.symm.trans hk) (by decide)
  have b2 := (hR.2.2.2 p 2 hp (by decide)).2
  have b3 := (hR.2.2.2 p 3 hp (by decide)).2
  refine aw_aload_n dX6_begin_0 rfl ?_
  refine aw_aload_n dX6_begin_1 rfl ?_
  refine aw_iload_n dX6_begin_2 rfl ?_
  refine aw_ic (nI 0) dX6_begin_3 (by decide) ?_
  refine cqi2 dX6_begin_4 km6_9 ok_X5_number rfl rfl (by decide) hR.1 (Nat.le_of_ble_eq_true rfl) ⟨Nat.le_of_ble_eq_true rfl, Nat.le_of_ble_eq_true rfl⟩ rfl rfl (ct_num hR hp (by decide)) ?_
  refine pf6_way dX6_begin_7 kf6_15 hk ?_
  refine aw_aload_n dX6_begin_10 rfl ?_
  refine aw_aload_n dX6_begin_11 rfl ?_
  refine aw_iload_n dX6_begin_12 rfl ?_
  refine aw_ic (nI 1) dX6_begin_13 (by decide) ?_
  refine cqi2 dX6_begin_14 km6_9 ok_X5_number rfl rfl (by decide) hR.1 (Nat.le_of_ble_eq_true rfl) ⟨Nat.le_of_ble_eq_true rfl, Nat.le_of_ble_eq_true rfl⟩ rfl rfl (ct_num (show RowN (uI σ.1 192 o (nI (pc p 0)), σ.2) o5 c pc from ⟨hR.1, by simp only [uI_o hne]; exact hR.2.1, hR.2.2.1, hR.2.2.2⟩) hp (by decide)) ?_
  refine pf6_at dX6_begin_17 kf6_21 hk ?_
  refine aw_aload_n dX6_begin_20 rfl ?_
  refine aw_aload_n dX6_begin_21 rfl ?_
  refine aw_iload_n dX6_begin_22 rfl ?_
  refine aw_ic (nI 2) dX6_begin_23 (by decide) ?_
  refine cqi2 dX6_begin_24 km6_9 ok_X5_number rfl rfl (by decide) hR.1 (Nat.le_of_ble_eq_true rfl) ⟨Nat.le_of_ble_eq_true rfl, Nat.le_of_ble_eq_true rfl⟩ rfl rfl (ct_num (show RowN (uI (uI σ.1 192 o (nI (pc p 0))) 193 o (nI (pc p 1)), σ.2) o5 c pc from ⟨hR.1, by simp only [uI_o hne]; exact hR.2.1, hR.2.2.1, hR.2.2.2⟩) hp (by decide)) ?_
  refine pf6_from dX6_begin_27 kf6_24 hk ?_
  refine aw_aload_n dX6_begin_30 rfl ?_
  refine aw_aload_n dX6_begin_31 rfl ?_
  refine aw_iload_n dX6_begin_32 rfl ?_
  refine aw_ic (nI 3) dX6_begin_33 (by decide) ?_
  refine cqi2 dX6_begin_34 km6_9 ok_X5_number rfl rfl (by decide) hR.1 (Nat.le_of_ble_eq_true rfl) ⟨Nat.le_of_ble_eq_true rfl, Nat.le_of_ble_eq_true rfl⟩ rfl rfl (ct_num (show RowN (uI (uI (uI σ.1 192 o (nI (pc p 0))) 193 o (nI (pc p 1))) 194 o (nI (pc p 2)), σ.2) o5 c pc from ⟨hR.1, by simp only [uI_o hne]; exact hR.2.1, hR.2.2.1, hR.2.2.2⟩) hp (by decide)) ?_
  refine pf6_to dX6_begin_37 kf6_27 hk ?_
  refine aw_aload_n dX6_begin_40 rfl ?_
  refine aw_aload_n dX6_begin_41 rfl ?_
  refine gf6_to dX6_begin_42 kf6_27 hk ?_
  refine aw_eq (uI_s _ _ _ _) ?_
  refine aw_aload_n dX6_begin_45 rfl ?_
  refine gf6_from dX6_begin_46 kf6_24 hk ?_
  refine aw_eq (show _ = nI (pc p 2) by rw [uI_f (by decide), uI_s]) ?_
  refine aw_isub dX6_begin_49 ?_
  refine aw_eq (show _ = nI (pc p 3 - pc p 2) from pk_sub (by omega)) ?_
  refine pf6_longest dX6_begin_50 kf6_30 hk ?_
  refine aw_aload_n dX6_begin_53 rfl ?_
  refine aw_ic (nI 1) dX6_begin_54 (by decide) ?_
  refine pf6_pieces dX6_begin_55 kf6_33 hk ?_
  refine aw_aload_n dX6_begin_58 rfl ?_
  refine aw_iload_n dX6_begin_59 rfl ?_
  refine pf6_first dX6_begin_60 kf6_36 hk ?_
  refine aw_aload_n dX6_begin_63 rfl ?_
  refine aw_ic (nI 0) dX6_begin_64 (by decide) ?_
  refine pf6_crossings dX6_begin_65 kf6_39 hk ?_
  refine aw_aload_n dX6_begin_68 rfl ?_
  refine aw_bi (-6) dX6_begin_69 (by decide) ?_
  refine pf6_table dX6_begin_71 kf6_42 hk ?_
  exact aw_ret dX6_begin_74 (⟨_, rfl, ⟨by simp only [uI_s, uI_f (show 192 ≠ 200 by decide), uI_f (show 192 ≠ 199 by decide), uI_f (show 192 ≠ 198 by decide), uI_f (show 192 ≠ 197 by decide), uI_f (show 192 ≠ 196 by decide), uI_f (show 192 ≠ 195 by decide), uI_f (show 192 ≠ 194 by decide), uI_f (show 192 ≠ 193 by decide)]; rfl, by simp only [uI]; rfl, by simp only [uI]; rfl, by simp only [uI]; rfl, by simp only [uI]; rfl, by simp only [uI]; rfl, by simp only [uI]; rfl⟩, by simp only [uI]; simp, by simp only [uI]; simp, fun f o' h => by simp only [uI_o h]⟩)

set_option maxHeartbeats 4000000 in
set_option maxRecDepth 100000 in
theorem ct_Rule_takeIn {g : GG} {σ : SG} {o o5 c p : Nat} {pc : Nat → Nat → Nat} {ra : Nat → Nat} (hk : kd o = 6) (hR : RowN σ o5 c pc) (hp : p < c) (hft : pc p 2 < pc p 3) (hF : RuF σ.1 o ra) (hB : RuB ra) : Ctv g yX6_takeIn cX6_takeIn 5 (rmm 1 23) [.ref (ad g o), .ref (ad g o5), .int (nI p)] σ (fun σ' => ∃ I, σ' = (I, σ.2) ∧ RuF I o (rTake ra pc p) ∧ I 199 o = σ.1 199 o ∧ I 200 o = σ.1 200 o ∧ ∀ f o', o' ≠ o → I f o' = σ.1 f o') := by
  refine ct_of (own := RX6) (lv := [some (.ref (ad g o)), some (.ref (ad g o5)), some (.int (nI p)), none, none]) rfl (by decide) (Nat.le_of_ble_eq_true rfl) (by intro u hu; simp only [List.mem_cons, List.not_mem_nil, or_false] at hu; rcases hu with rfl | rfl | rfl <;> rfl) (lv_ok [.ref (ad g o), .ref (ad g o5), .int (nI p)] 2) ?_
  have hne : o5 ≠ o := fun e => by rw [e] at hR; exact absurd (hR.1.symm.trans hk) (by decide)
  have b2 := (hR.2.2.2 p 2 hp (by decide)).2
  have b3 := (hR.2.2.2 p 3 hp (by decide)).2
  obtain ⟨B0, B1, B2, B3, B4, B5, B6⟩ := hB
  obtain ⟨F0, F1, F2, F3, F4, F5, F6⟩ := hF
  refine aw_aload_n dX6_takeIn_0 rfl ?_
  refine aw_iload_n dX6_takeIn_1 rfl ?_
  refine aw_ic (nI 2) dX6_takeIn_2 (by decide) ?_
  refine cqi2 dX6_takeIn_3 km6_9 ok_X5_number rfl rfl (by decide) hR.1 (Nat.le_of_ble_eq_true rfl) ⟨Nat.le_of_ble_eq_true rfl, Nat.le_of_ble_eq_true rfl⟩ rfl rfl (ct_num hR hp (by decide)) ?_
  refine aw_istore_n dX6_takeIn_6 (Nat.le_of_ble_eq_true rfl) ?_
  refine aw_aload_n dX6_takeIn_7 rfl ?_
  refine aw_iload_n dX6_takeIn_8 rfl ?_
  refine aw_ic (nI 3) dX6_takeIn_9 (by decide) ?_
  refine cqi2 dX6_takeIn_10 km6_9 ok_X5_number rfl rfl (by decide) hR.1 (Nat.le_of_ble_eq_true rfl) ⟨Nat.le_of_ble_eq_true rfl, Nat.le_of_ble_eq_true rfl⟩ rfl rfl (ct_num hR hp (by decide)) ?_
  refine aw_istore dX6_takeIn_13 (Nat.le_of_ble_eq_true rfl) ?_
  refine aw_iload dX6_takeIn_15 rfl ?_
  refine aw_iload_n dX6_takeIn_17 rfl ?_
  refine aw_isub dX6_takeIn_18 ?_
  refine aw_eq (show _ = nI (pc p 3 - pc p 2) from pk_sub (by omega)) ?_
  refine aw_aload_n dX6_takeIn_19 rfl ?_
  refine gf6_longest dX6_takeIn_20 kf6_30 hk ?_
  refine aw_eq F6 ?_
  refine aw_icmp_leN dX6_takeIn_23 rfl rfl (by omega) (by omega) (fun h_23 => ?_) (fun h_23 => ?_)
  · skip
    refine aw_aload_n dX6_takeIn_44 rfl ?_
    refine aw_aload_n dX6_takeIn_45 rfl ?_
    refine gf6_from dX6_takeIn_46 kf6_24 hk ?_
    refine aw_eq (show _ = nI (ra 2) by simp [uI, F2]) ?_
    refine aw_iload_n dX6_takeIn_49 rfl ?_
    refine aw_min dX6_takeIn_50 km6_45 ⟨Nat.le_of_ble_eq_true rfl, Nat.le_of_ble_eq_true rfl⟩ ?_
    refine aw_eq (minN (by omega) (by omega)) ?_
    refine pf6_from dX6_takeIn_53 kf6_24 hk ?_
    refine aw_aload_n dX6_takeIn_56 rfl ?_
    refine aw_aload_n dX6_takeIn_57 rfl ?_
    refine gf6_to dX6_takeIn_58 kf6_27 hk ?_
    refine aw_eq (show _ = nI (ra 3) by simp [uI, F3]) ?_
    refine aw_iload dX6_takeIn_61 rfl ?_
    refine aw_max dX6_takeIn_63 km6_50 ⟨Nat.le_of_ble_eq_true rfl, Nat.le_of_ble_eq_true rfl⟩ ?_
    refine aw_eq (maxN (by omega) (by omega)) ?_
    refine pf6_to dX6_takeIn_66 kf6_27 hk ?_
    refine aw_aload_n dX6_takeIn_69 rfl ?_
    refine aw_dup dX6_takeIn_70 rfl ?_
    refine gf6_pieces dX6_takeIn_71 kf6_33 hk ?_
    refine aw_eq (show _ = nI (ra 4) by simp [uI, F4]) ?_
    refine aw_ic (nI 1) dX6_takeIn_74 (by decide) ?_
    refine aw_iadd dX6_takeIn_75 ?_
    refine aw_eq (show _ = nI (ra 4 + 1) by rw [nI_add]) ?_
    refine pf6_pieces dX6_takeIn_76 kf6_33 hk ?_
    exact aw_ret dX6_takeIn_79 (by
        refine ⟨_, rfl, ?_, by simp [uI], by simp [uI], fun f o' h => by simp only [uI_o h]⟩
        unfold RuF rTake
        simp [uI, F0, F1, F2, F3, F4, F5, F6]
        first
          | (have e1 : ¬ ra 6 < pc p 3 - pc p 2 := by omega
             have e2 : max (ra 6) (pc p 3 - pc p 2) = ra 6 := by omega
             simp [e1, e2]; done)
          | (have e1 : ra 6 < pc p 3 - pc p 2 := by omega
             have e2 : max (ra 6) (pc p 3 - pc p 2) = pc p 3 - pc p 2 := by omega
             simp [e1, e2]; done))
  · skip
    refine aw_aload_n dX6_takeIn_26 rfl ?_
    refine aw_iload dX6_takeIn_27 rfl ?_
    refine aw_iload_n dX6_takeIn_29 rfl ?_
    refine aw_isub dX6_takeIn_30 ?_
    refine aw_eq (show _ = nI (pc p 3 - pc p 2) from pk_sub (by omega)) ?_
    refine pf6_longest dX6_takeIn_31 kf6_30 hk ?_
    refine aw_aload_n dX6_takeIn_34 rfl ?_
    refine aw_aload_n dX6_takeIn_35 rfl ?_
    refine aw_iload_n dX6_takeIn_36 rfl ?_
    refine aw_ic (nI 1) dX6_takeIn_37 (by decide) ?_
    refine cqi2 dX6_takeIn_38 km6_9 ok_X5_number rfl rfl (by decide) hR.1 (Nat.le_of_ble_eq_true rfl) ⟨Nat.le_of_ble_eq_true rfl, Nat.le_of_ble_eq_true rfl⟩ rfl rfl (ct_num (show RowN (uI σ.1 196 o (nI (pc p 3 - pc p 2)), σ.2) o5 c pc from ⟨hR.1, by simp only [uI_o hne]; exact hR.2.1, hR.2.2.1, hR.2.2.2⟩) hp (by decide)) ?_
    refine pf6_at dX6_takeIn_41 kf6_21 hk ?_
    refine aw_aload_n dX6_takeIn_44 rfl ?_
    refine aw_aload_n dX6_takeIn_45 rfl ?_
    refine gf6_from dX6_takeIn_46 kf6_24 hk ?_
    refine aw_eq (show _ = nI (ra 2) by simp [uI, F2]) ?_
    refine aw_iload_n dX6_takeIn_49 rfl ?_
    refine aw_min dX6_takeIn_50 km6_45 ⟨Nat.le_of_ble_eq_true rfl, Nat.le_of_ble_eq_true rfl⟩ ?_
    refine aw_eq (minN (by omega) (by omega)) ?_
    refine pf6_from dX6_takeIn_53 kf6_24 hk ?_
    refine aw_aload_n dX6_takeIn_56 rfl ?_
    refine aw_aload_n dX6_takeIn_57 rfl ?_
    refine gf6_to dX6_takeIn_58 kf6_27 hk ?_
    refine aw_eq (show _ = nI (ra 3) by simp [uI, F3]) ?_
    refine aw_iload dX6_takeIn_61 rfl ?_
    refine aw_max dX6_takeIn_63 km6_50 ⟨Nat.le_of_ble_eq_true rfl, Nat.le_of_ble_eq_true rfl⟩ ?_
    refine aw_eq (maxN (by omega) (by omega)) ?_
    refine pf6_to dX6_takeIn_66 kf6_27 hk ?_
    refine aw_aload_n dX6_takeIn_69 rfl ?_
    refine aw_dup dX6_takeIn_70 rfl ?_
    refine gf6_pieces dX6_takeIn_71 kf6_33 hk ?_
    refine aw_eq (show _ = nI (ra 4) by simp [uI, F4]) ?_
    refine aw_ic (nI 1) dX6_takeIn_74 (by decide) ?_
    refine aw_iadd dX6_takeIn_75 ?_
    refine aw_eq (show _ = nI (ra 4 + 1) by rw [nI_add]) ?_
    refine pf6_pieces dX6_takeIn_76 kf6_33 hk ?_
    exact aw_ret dX6_takeIn_79 (by
        refine ⟨_, rfl, ?_, by simp [uI], by simp [uI], fun f o' h => by simp only [uI_o h]⟩
        unfold RuF rTake
        simp [uI, F0, F1, F2, F3, F4, F5, F6]
        first
          | (have e1 : ¬ ra 6 < pc p 3 - pc p 2 := by omega
             have e2 : max (ra 6) (pc p 3 - pc p 2) = ra 6 := by omega
             simp [e1, e2]; done)
          | (have e1 : ra 6 < pc p 3 - pc p 2 := by omega
             have e2 : max (ra 6) (pc p 3 - pc p 2) = pc p 3 - pc p 2 := by omega
             simp [e1, e2]; done))

set_option maxHeartbeats 4000000 in
set_option maxRecDepth 100000 in
theorem ct_Rule_comesBefore {g : GG} {σ : SG} {o o2 : Nat} {ra rb : Nat → Nat} (hk : kd o = 6) (hk2 : kd o2 = 6) (hF : RuF σ.1 o ra) (hB : RuB ra) (hF2 : RuF σ.1 o2 rb) (hB2 : RuB rb) : Cti g yX6_comesBefore cX6_comesBefore 2 (some .boolean) (rmm 0 0) [.ref (ad g o), .ref (ad g o2)] σ (fun r σ' => r = (if befN ra rb = true then 1 else 0) ∧ σ' = σ) := by
  refine ct_of (own := RX6) (lv := [some (.ref (ad g o)), some (.ref (ad g o2))]) rfl (by decide) (Nat.le_of_ble_eq_true rfl) (by intro u hu; simp only [List.mem_cons, List.not_mem_nil, or_false] at hu; rcases hu with rfl | rfl <;> rfl) (lv_ok [.ref (ad g o), .ref (ad g o2)] 0) ?_
  obtain ⟨B0, B1, B2, B3, B4, B5, B6⟩ := hB
  obtain ⟨F0, F1, F2, F3, F4, F5, F6⟩ := hF
  obtain ⟨b0, b1, b2, b3, b4, b5, b6⟩ := hB2
  obtain ⟨f0, f1, f2, f3, f4, f5, f6⟩ := hF2
  refine aw_aload_n dX6_comesBefore_0 rfl ?_
  refine gf6_way dX6_comesBefore_1 kf6_15 hk ?_
  refine aw_eq F0 ?_
  refine aw_aload_n dX6_comesBefore_4 rfl ?_
  refine gf6_way dX6_comesBefore_5 kf6_15 hk2 ?_
  refine aw_eq f0 ?_
  refine aw_icmp_eqN dX6_comesBefore_8 rfl rfl (by omega) (by omega) (fun h_8 => ?_) (fun h_8 => ?_)
  · skip
    refine aw_aload_n dX6_comesBefore_28 rfl ?_
    refine gf6_at dX6_comesBefore_29 kf6_21 hk ?_
    refine aw_eq F1 ?_
    refine aw_aload_n dX6_comesBefore_32 rfl ?_
    refine gf6_at dX6_comesBefore_33 kf6_21 hk2 ?_
    refine aw_eq f1 ?_
    refine aw_icmp_eqN dX6_comesBefore_36 rfl rfl (by omega) (by omega) (fun h_36 => ?_) (fun h_36 => ?_)
    · skip
      refine aw_aload_n dX6_comesBefore_56 rfl ?_
      refine gf6_from dX6_comesBefore_57 kf6_24 hk ?_
      refine aw_eq F2 ?_
      refine aw_aload_n dX6_comesBefore_60 rfl ?_
      refine gf6_from dX6_comesBefore_61 kf6_24 hk2 ?_
      refine aw_eq f2 ?_
      refine aw_icmp_eqN dX6_comesBefore_64 rfl rfl (by omega) (by omega) (fun h_64 => ?_) (fun h_64 => ?_)
      · skip
        refine aw_aload_n dX6_comesBefore_84 rfl ?_
        refine gf6_to dX6_comesBefore_85 kf6_27 hk ?_
        refine aw_eq F3 ?_
        refine aw_aload_n dX6_comesBefore_88 rfl ?_
        refine gf6_to dX6_comesBefore_89 kf6_27 hk2 ?_
        refine aw_eq f3 ?_
        refine aw_icmp_eqN dX6_comesBefore_92 rfl rfl (by omega) (by omega) (fun h_92 => ?_) (fun h_92 => ?_)
        · skip
          refine aw_aload_n dX6_comesBefore_112 rfl ?_
          refine gf6_first dX6_comesBefore_113 kf6_36 hk ?_
          refine aw_eq F5 ?_
          refine aw_aload_n dX6_comesBefore_116 rfl ?_
          refine gf6_first dX6_comesBefore_117 kf6_36 hk2 ?_
          refine aw_eq f5 ?_
          refine aw_icmp_geN dX6_comesBefore_120 rfl rfl (by omega) (by omega) (fun h_120 => ?_) (fun h_120 => ?_)
          · skip
            refine aw_ic (nI 0) dX6_comesBefore_127 (by decide) ?_
            exact aw_iretz dX6_comesBefore_128 (by decide) (by
                refine ⟨?_, rfl⟩
                unfold befN
                simp only [if_pos h_8, if_pos h_36, if_pos h_64, if_pos h_92]
                first
                  | (rw [if_pos (by simp; omega)]; rfl)
                  | (rw [if_neg (by simp; omega)]; rfl))
          · skip
            refine aw_ic (nI 1) dX6_comesBefore_123 (by decide) ?_
            refine aw_goto dX6_comesBefore_124 ?_
            exact aw_iretz dX6_comesBefore_128 (by decide) (by
                refine ⟨?_, rfl⟩
                unfold befN
                simp only [if_pos h_8, if_pos h_36, if_pos h_64, if_pos h_92]
                first
                  | (rw [if_pos (by simp; omega)]; rfl)
                  | (rw [if_neg (by simp; omega)]; rfl))
        · skip
          refine aw_aload_n dX6_comesBefore_95 rfl ?_
          refine gf6_to dX6_comesBefore_96 kf6_27 hk ?_
          refine aw_eq F3 ?_
          refine aw_aload_n dX6_comesBefore_99 rfl ?_
          refine gf6_to dX6_comesBefore_100 kf6_27 hk2 ?_
          refine aw_eq f3 ?_
          refine aw_icmp_geN dX6_comesBefore_103 rfl rfl (by omega) (by omega) (fun h_103 => ?_) (fun h_103 => ?_)
          · skip
            refine aw_ic (nI 0) dX6_comesBefore_110 (by decide) ?_
            exact aw_iretz dX6_comesBefore_111 (by decide) (by
                refine ⟨?_, rfl⟩
                unfold befN
                simp only [if_pos h_8, if_pos h_36, if_pos h_64, if_neg h_92]
                first
                  | (rw [if_pos (by simp; omega)]; rfl)
                  | (rw [if_neg (by simp; omega)]; rfl))
          · skip
            refine aw_ic (nI 1) dX6_comesBefore_106 (by decide) ?_
            refine aw_goto dX6_comesBefore_107 ?_
            exact aw_iretz dX6_comesBefore_111 (by decide) (by
                refine ⟨?_, rfl⟩
                unfold befN
                simp only [if_pos h_8, if_pos h_36, if_pos h_64, if_neg h_92]
                first
                  | (rw [if_pos (by simp; omega)]; rfl)
                  | (rw [if_neg (by simp; omega)]; rfl))
      · skip
        refine aw_aload_n dX6_comesBefore_67 rfl ?_
        refine gf6_from dX6_comesBefore_68 kf6_24 hk ?_
        refine aw_eq F2 ?_
        refine aw_aload_n dX6_comesBefore_71 rfl ?_
        refine gf6_from dX6_comesBefore_72 kf6_24 hk2 ?_
        refine aw_eq f2 ?_
        refine aw_icmp_geN dX6_comesBefore_75 rfl rfl (by omega) (by omega) (fun h_75 => ?_) (fun h_75 => ?_)
        · skip
          refine aw_ic (nI 0) dX6_comesBefore_82 (by decide) ?_
          exact aw_iretz dX6_comesBefore_83 (by decide) (by
              refine ⟨?_, rfl⟩
              unfold befN
              simp only [if_pos h_8, if_pos h_36, if_neg h_64]
              first
                | (rw [if_pos (by simp; omega)]; rfl)
                | (rw [if_neg (by simp; omega)]; rfl))
        · skip
          refine aw_ic (nI 1) dX6_comesBefore_78 (by decide) ?_
          refine aw_goto dX6_comesBefore_79 ?_
          exact aw_iretz dX6_comesBefore_83 (by decide) (by
              refine ⟨?_, rfl⟩
              unfold befN
              simp only [if_pos h_8, if_pos h_36, if_neg h_64]
              first
                | (rw [if_pos (by simp; omega)]; rfl)
                | (rw [if_neg (by simp; omega)]; rfl))
    · skip
      refine aw_aload_n dX6_comesBefore_39 rfl ?_
      refine gf6_at dX6_comesBefore_40 kf6_21 hk ?_
      refine aw_eq F1 ?_
      refine aw_aload_n dX6_comesBefore_43 rfl ?_
      refine gf6_at dX6_comesBefore_44 kf6_21 hk2 ?_
      refine aw_eq f1 ?_
      refine aw_icmp_geN dX6_comesBefore_47 rfl rfl (by omega) (by omega) (fun h_47 => ?_) (fun h_47 => ?_)
      · skip
        refine aw_ic (nI 0) dX6_comesBefore_54 (by decide) ?_
        exact aw_iretz dX6_comesBefore_55 (by decide) (by
            refine ⟨?_, rfl⟩
            unfold befN
            simp only [if_pos h_8, if_neg h_36]
            first
              | (rw [if_pos (by simp; omega)]; rfl)
              | (rw [if_neg (by simp; omega)]; rfl))
      · skip
        refine aw_ic (nI 1) dX6_comesBefore_50 (by decide) ?_
        refine aw_goto dX6_comesBefore_51 ?_
        exact aw_iretz dX6_comesBefore_55 (by decide) (by
            refine ⟨?_, rfl⟩
            unfold befN
            simp only [if_pos h_8, if_neg h_36]
            first
              | (rw [if_pos (by simp; omega)]; rfl)
              | (rw [if_neg (by simp; omega)]; rfl))
  · skip
    refine aw_aload_n dX6_comesBefore_11 rfl ?_
    refine gf6_way dX6_comesBefore_12 kf6_15 hk ?_
    refine aw_eq F0 ?_
    refine aw_aload_n dX6_comesBefore_15 rfl ?_
    refine gf6_way dX6_comesBefore_16 kf6_15 hk2 ?_
    refine aw_eq f0 ?_
    refine aw_icmp_geN dX6_comesBefore_19 rfl rfl (by omega) (by omega) (fun h_19 => ?_) (fun h_19 => ?_)
    · skip
      refine aw_ic (nI 0) dX6_comesBefore_26 (by decide) ?_
      exact aw_iretz dX6_comesBefore_27 (by decide) (by
          refine ⟨?_, rfl⟩
          unfold befN
          simp only [if_neg h_8]
          first
            | (rw [if_pos (by simp; omega)]; rfl)
            | (rw [if_neg (by simp; omega)]; rfl))
    · skip
      refine aw_ic (nI 1) dX6_comesBefore_22 (by decide) ?_
      refine aw_goto dX6_comesBefore_23 ?_
      exact aw_iretz dX6_comesBefore_27 (by decide) (by
          refine ⟨?_, rfl⟩
          unfold befN
          simp only [if_neg h_8]
          first
            | (rw [if_pos (by simp; omega)]; rfl)
            | (rw [if_neg (by simp; omega)]; rfl))

set_option maxHeartbeats 4000000 in
set_option maxRecDepth 100000 in
theorem ct_Rule_covers {g : GG} {σ : SG} {o b e rc : Nat} {ra : Nat → Nat} (hk : kd o = 6) (hF : RuF σ.1 o ra) (hB : RuB ra) (hb : b ≤ 99) (he : e ≤ 99) (hrc : rc ≤ 99) : Cti g yX6_covers cX6_covers 4 (some .boolean) (rmm 0 0) [.ref (ad g o), .int (nI b), .int (nI e), .int (nI rc)] σ (fun r σ' => r = (if covN ra b e rc = true then 1 else 0) ∧ σ' = σ) := by
  refine ct_of (own := RX6) (lv := [some (.ref (ad g o)), some (.int (nI b)), some (.int (nI e)), some (.int (nI rc))]) rfl (by decide) (Nat.le_of_ble_eq_true rfl) (by intro u hu; simp only [List.mem_cons, List.not_mem_nil, or_false] at hu; rcases hu with rfl | rfl | rfl | rfl <;> rfl) (lv_ok [.ref (ad g o), .int (nI b), .int (nI e), .int (nI rc)] 0) ?_
  obtain ⟨B0, B1, B2, B3, B4, B5, B6⟩ := hB
  obtain ⟨F0, F1, F2, F3, F4, F5, F6⟩ := hF
  refine aw_aload_n dX6_covers_0 rfl ?_
  refine gf6_from dX6_covers_1 kf6_24 hk ?_
  refine aw_eq F2 ?_
  refine aw_iload_n dX6_covers_4 rfl ?_
  refine aw_isub dX6_covers_5 ?_
  refine aw_iload_n dX6_covers_6 rfl ?_
  refine aw_icmp_gt dX6_covers_7 (fun h_7 => ?_) (fun h_7 => ?_)
  all_goals rw [sub_gtN (by omega) (by omega) (by omega)] at h_7
  · skip
    refine aw_ic (nI 0) dX6_covers_24 (by decide) ?_
    exact aw_iretz dX6_covers_25 (by decide) (by
        refine ⟨?_, rfl⟩
        unfold covN
        first
          | (rw [if_pos (by simp; omega)]; rfl)
          | (rw [if_neg (by simp; omega)]; rfl))
  · skip
    refine aw_aload_n dX6_covers_10 rfl ?_
    refine gf6_to dX6_covers_11 kf6_27 hk ?_
    refine aw_eq F3 ?_
    refine aw_iload_n dX6_covers_14 rfl ?_
    refine aw_iadd dX6_covers_15 ?_
    refine aw_eq (nI_add _ _) ?_
    refine aw_iload_n dX6_covers_16 rfl ?_
    refine aw_icmp_ltN dX6_covers_17 rfl rfl (by omega) (by omega) (fun h_17 => ?_) (fun h_17 => ?_)
    · skip
      refine aw_ic (nI 0) dX6_covers_24 (by decide) ?_
      exact aw_iretz dX6_covers_25 (by decide) (by
          refine ⟨?_, rfl⟩
          unfold covN
          first
            | (rw [if_pos (by simp; omega)]; rfl)
            | (rw [if_neg (by simp; omega)]; rfl))
    · skip
      refine aw_ic (nI 1) dX6_covers_20 (by decide) ?_
      refine aw_goto dX6_covers_21 ?_
      exact aw_iretz dX6_covers_25 (by decide) (by
          refine ⟨?_, rfl⟩
          unfold covN
          first
            | (rw [if_pos (by simp; omega)]; rfl)
            | (rw [if_neg (by simp; omega)]; rfl))

set_option maxHeartbeats 4000000 in
set_option maxRecDepth 100000 in
theorem ct_Rule_crosses {g : GG} {σ : SG} {o o2 rc : Nat} {ra rb : Nat → Nat} (hk : kd o = 6) (hk2 : kd o2 = 6) (hF : RuF σ.1 o ra) (hB : RuB ra) (hF2 : RuF σ.1 o2 rb) (hB2 : RuB rb) (hrc : rc ≤ 99) : Cti g yX6_crosses cX6_crosses 3 (some .boolean) (rmm 1 23) [.ref (ad g o), .ref (ad g o2), .int (nI rc)] σ (fun r σ' => r = (if crossN ra rb rc = true then 1 else 0) ∧ σ' = σ) := by
  refine ct_of (own := RX6) (lv := [some (.ref (ad g o)), some (.ref (ad g o2)), some (.int (nI rc))]) rfl (by decide) (Nat.le_of_ble_eq_true rfl) (by intro u hu; simp only [List.mem_cons, List.not_mem_nil, or_false] at hu; rcases hu with rfl | rfl | rfl <;> rfl) (lv_ok [.ref (ad g o), .ref (ad g o2), .int (nI rc)] 0) ?_
  have B := hB
  have F := hF
  have b := hB2
  have f := hF2
  obtain ⟨B0, B1, B2, B3, B4, B5, B6⟩ := hB
  obtain ⟨F0, F1, F2, F3, F4, F5, F6⟩ := hF
  obtain ⟨b0, b1, b2, b3, b4, b5, b6⟩ := hB2
  obtain ⟨f0, f1, f2, f3, f4, f5, f6⟩ := hF2
  refine aw_aload_n dX6_crosses_0 rfl ?_
  refine gf6_way dX6_crosses_1 kf6_15 hk ?_
  refine aw_eq F0 ?_
  refine aw_aload_n dX6_crosses_4 rfl ?_
  refine gf6_way dX6_crosses_5 kf6_15 hk2 ?_
  refine aw_eq f0 ?_
  refine aw_icmp_eqN dX6_crosses_8 rfl rfl (by omega) (by omega) (fun h_8 => ?_) (fun h_8 => ?_)
  · skip
    refine aw_ic (nI 0) dX6_crosses_47 (by decide) ?_
    exact aw_iretz dX6_crosses_48 (by decide) (by
        refine ⟨?_, rfl⟩
        unfold crossN
        first
          | (rw [if_pos (by simp_all)]; rfl)
          | (rw [if_neg (by simp_all)]; rfl))
  · skip
    refine aw_aload_n dX6_crosses_11 rfl ?_
    refine aw_aload_n dX6_crosses_12 rfl ?_
    refine gf6_at dX6_crosses_13 kf6_21 hk2 ?_
    refine aw_eq f1 ?_
    refine aw_aload_n dX6_crosses_16 rfl ?_
    refine gf6_at dX6_crosses_17 kf6_21 hk2 ?_
    refine aw_eq f1 ?_
    refine aw_iload_n dX6_crosses_20 rfl ?_
    refine cqi3 dX6_crosses_21 km6_53 ok_X6_covers rfl rfl (by decide) hk (Nat.le_of_ble_eq_true rfl) ⟨Nat.le_of_ble_eq_true rfl, Nat.le_of_ble_eq_true rfl⟩ rfl rfl (ct_Rule_covers hk F B b1 b1 hrc) ?_
    refine aw_if_eqB dX6_crosses_24 rfl (fun h_24 => ?_) (fun h_24 => ?_)
    · skip
      refine aw_ic (nI 0) dX6_crosses_47 (by decide) ?_
      exact aw_iretz dX6_crosses_48 (by decide) (by
          refine ⟨?_, rfl⟩
          unfold crossN
          first
            | (rw [if_pos (by simp_all)]; rfl)
            | (rw [if_neg (by simp_all)]; rfl))
    · skip
      refine aw_aload_n dX6_crosses_27 rfl ?_
      refine aw_aload_n dX6_crosses_28 rfl ?_
      refine gf6_at dX6_crosses_29 kf6_21 hk ?_
      refine aw_eq F1 ?_
      refine aw_aload_n dX6_crosses_32 rfl ?_
      refine gf6_at dX6_crosses_33 kf6_21 hk ?_
      refine aw_eq F1 ?_
      refine aw_iload_n dX6_crosses_36 rfl ?_
      refine cqi3 dX6_crosses_37 km6_53 ok_X6_covers rfl rfl (by decide) hk2 (Nat.le_of_ble_eq_true rfl) ⟨Nat.le_of_ble_eq_true rfl, Nat.le_of_ble_eq_true rfl⟩ rfl rfl (ct_Rule_covers hk2 f b B1 B1 hrc) ?_
      refine aw_if_eqB dX6_crosses_40 rfl (fun h_40 => ?_) (fun h_40 => ?_)
      · skip
        refine aw_ic (nI 0) dX6_crosses_47 (by decide) ?_
        exact aw_iretz dX6_crosses_48 (by decide) (by
            refine ⟨?_, rfl⟩
            unfold crossN
            first
              | (rw [if_pos (by simp_all)]; rfl)
              | (rw [if_neg (by simp_all)]; rfl))
      · skip
        refine aw_ic (nI 1) dX6_crosses_43 (by decide) ?_
        refine aw_goto dX6_crosses_44 ?_
        exact aw_iretz dX6_crosses_48 (by decide) (by
            refine ⟨?_, rfl⟩
            unfold crossN
            first
              | (rw [if_pos (by simp_all)]; rfl)
              | (rw [if_neg (by simp_all)]; rfl))

def telR (I : Nat → Nat → Int32) (o k : Nat) : Int32 := if k = 0 then I 192 o else if k = 1 then I 193 o else if k = 2 then I 194 o else if k = 3 then I 195 o else if k = 4 then I 197 o else if k = 5 then I 198 o else if k = 6 then I 199 o else I 200 o
/-- a number by its place among eight, or none -/
theorem sw8 (x : Int32) : (x.toInt < 0 ∨ 7 < x.toInt) ∨ ∃ k : Nat, k < 8 ∧ x = nI k := by
  by_cases h : x.toInt < 0 ∨ 7 < x.toInt
  · exact Or.inl h
  · refine Or.inr ⟨x.toInt.toNat, by omega, ?_⟩
    apply Int32.toInt_inj.mp
    rw [nI_toInt (by omega)]
    omega
set_option maxHeartbeats 4000000 in
set_option maxRecDepth 100000 in
theorem ct_Rule_tell {g : GG} {σ : SG} {o : Nat} (hk : kd o = 6) (what : Int32) : Cti g yX6_tell cX6_tell 2 (some .int) (rmm 0 0) [.ref (ad g o), .int what] σ (fun r σ' => (((what.toInt < 0 ∨ 7 < what.toInt) ∧ r = -2) ∨ ∃ k, k < 8 ∧ what = nI k ∧ r = telR σ.1 o k) ∧ σ' = σ) := by
  refine ct_of (own := RX6) (lv := [some (.ref (ad g o)), some (.int what)]) rfl (by decide) (Nat.le_of_ble_eq_true rfl) (by intro u hu; simp only [List.mem_cons, List.not_mem_nil, or_false] at hu; rcases hu with rfl | rfl <;> rfl) (lv_ok [.ref (ad g o), .int what] 0) ?_
  rcases sw8 what with h | ⟨k, hk8, rfl⟩
  · refine aw_iload_n dX6_tell_0 rfl ?_
    refine aw_tout dX6_tell_1 h (tgt := 88) (by decide) ?_
    refine aw_bi (-2) dX6_tell_88 (by decide) ?_
    exact aw_ireti dX6_tell_90 ⟨Or.inl ⟨h, rfl⟩, rfl⟩
  · refine aw_iload_n dX6_tell_0 rfl ?_
    have hi := nI_toInt (n := k) (by omega)
    rcases (show k = 0 ∨ k = 1 ∨ k = 2 ∨ k = 3 ∨ k = 4 ∨ k = 5 ∨ k = 6 ∨ k = 7 by omega) with rfl | rfl | rfl | rfl | rfl | rfl | rfl | rfl
    · refine aw_tin dX6_tell_1 (tgt := 48) (off := 47) (by decide) (by decide) (by decide +kernel) (by decide) ?_
      refine aw_aload_n dX6_tell_48 rfl ?_
      refine gf6_way dX6_tell_49 kf6_15 hk ?_
      exact aw_ireti dX6_tell_52 ⟨Or.inr ⟨0, by decide, rfl, rfl⟩, rfl⟩
    · refine aw_tin dX6_tell_1 (tgt := 53) (off := 52) (by decide) (by decide) (by decide +kernel) (by decide) ?_
      refine aw_aload_n dX6_tell_53 rfl ?_
      refine gf6_at dX6_tell_54 kf6_21 hk ?_
      exact aw_ireti dX6_tell_57 ⟨Or.inr ⟨1, by decide, rfl, rfl⟩, rfl⟩
    · refine aw_tin dX6_tell_1 (tgt := 58) (off := 57) (by decide) (by decide) (by decide +kernel) (by decide) ?_
      refine aw_aload_n dX6_tell_58 rfl ?_
      refine gf6_from dX6_tell_59 kf6_24 hk ?_
      exact aw_ireti dX6_tell_62 ⟨Or.inr ⟨2, by decide, rfl, rfl⟩, rfl⟩
    · refine aw_tin dX6_tell_1 (tgt := 63) (off := 62) (by decide) (by decide) (by decide +kernel) (by decide) ?_
      refine aw_aload_n dX6_tell_63 rfl ?_
      refine gf6_to dX6_tell_64 kf6_27 hk ?_
      exact aw_ireti dX6_tell_67 ⟨Or.inr ⟨3, by decide, rfl, rfl⟩, rfl⟩
    · refine aw_tin dX6_tell_1 (tgt := 68) (off := 67) (by decide) (by decide) (by decide +kernel) (by decide) ?_
      refine aw_aload_n dX6_tell_68 rfl ?_
      refine gf6_pieces dX6_tell_69 kf6_33 hk ?_
      exact aw_ireti dX6_tell_72 ⟨Or.inr ⟨4, by decide, rfl, rfl⟩, rfl⟩
    · refine aw_tin dX6_tell_1 (tgt := 73) (off := 72) (by decide) (by decide) (by decide +kernel) (by decide) ?_
      refine aw_aload_n dX6_tell_73 rfl ?_
      refine gf6_first dX6_tell_74 kf6_36 hk ?_
      exact aw_ireti dX6_tell_77 ⟨Or.inr ⟨5, by decide, rfl, rfl⟩, rfl⟩
    · refine aw_tin dX6_tell_1 (tgt := 78) (off := 77) (by decide) (by decide) (by decide +kernel) (by decide) ?_
      refine aw_aload_n dX6_tell_78 rfl ?_
      refine gf6_crossings dX6_tell_79 kf6_39 hk ?_
      exact aw_ireti dX6_tell_82 ⟨Or.inr ⟨6, by decide, rfl, rfl⟩, rfl⟩
    · refine aw_tin dX6_tell_1 (tgt := 83) (off := 82) (by decide) (by decide) (by decide +kernel) (by decide) ?_
      refine aw_aload_n dX6_tell_83 rfl ?_
      refine gf6_table dX6_tell_84 kf6_42 hk ?_
      exact aw_ireti dX6_tell_87 ⟨Or.inr ⟨7, by decide, rfl, rfl⟩, rfl⟩
end
